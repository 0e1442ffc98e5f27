def wX3 (K : Kk) (h0 p0 : Nat) (a : Nat → Nat) : va_W := (h0, .inr (3, [.ref p0, .ref (a 0), .int 0, .int 0, .int 0, .ref (a 11), .int 0])) :: (wX6 K (a 0) (fun n => a (1 + n)) ++ [((a 11), .inl (K.2.1, 4, .inl (fun _ => 0)))])
set_option maxRecDepth 100000 in
set_option maxHeartbeats 4000000 in
theorem cX3 (l : Launch) (K : Kk) (p0 : Nat) : Cn l K mX3_init 3 2 12 123 [.ref p0] (fun h0 w => ∃ a : Nat → Nat, w = wX3 K h0 p0 a) := by
  refine toCn kX3_init.1 rfl rfl (fun _ => Nat.le_of_ble_eq_true rfl) (fun h0 p e s m args below meth c Q A C hin hW ls hl ret => ?_)
  obtain ⟨hx, hb, hml, hown, hts, hR, hK⟩ := id C
  replace hW : WZ K A s s.heap [] [(h0, .inr (3, [.null, .null, .int 0, .int 0, .int 0, .null, .int 0]))] := hW
  replace hl : lv_has ls 2 [(0, .ref h0), (1, .ref p0)] := hl
  refine lv_aload_n hx hb (show decode cX3_init 0 = .ok (.aload_n 0, 1) by decide +kernel) rfl (lv_at hl 0 rfl) ?_
  refine k_obj C (gT1 (i := 154) (by decide +kernel) rfl) oI_in oI_co (by decide) hl.1 (show decode cX3_init 1 = .ok (.invokespecial 3, 3) by decide +kernel) ?_
  refine lv_aload_n hx hb (show decode cX3_init 4 = .ok (.aload_n 0, 1) by decide +kernel) rfl (lv_at hl 0 rfl) ?_
  refine k_new (ci := 6) C hW (by decide) (gT1 (i := 155) (by decide +kernel) rfl) nI6 nZ6 (by decide) (by decide) (show decode cX3_init 5 = .ok (.new 9, 3) by decide +kernel) (fun q0 H hW => ?_)
  refine W.widen (k := 1) (n := 17) (by decide) (by decide) ?_
  refine lv_dup hx hb (show decode cX3_init 8 = .ok (.dup, 1) by decide +kernel) rfl ?_
  refine k_callN C hW (as := []) (q := q0) (cX6 l K) kX6_init rfl rfl iX6_init (host := "OneWayTillNoon") (lT1 (i := 156) (by decide +kernel)) (by decide) rfl hl.1 (Nat.le_of_ble_eq_true rfl) (by decide) (by decide) (show decode cX3_init 9 = .ok (.invokespecial 11, 3) by decide +kernel) rfl (fun w1 H locs hw1 hW => ?_)
  obtain ⟨a0, rfl⟩ := hw1
  refine W.widen (k := 11) (n := 119) (by decide) (by decide) ?_
  replace hW : WZ K A s _ _ ((h0, .inr (3, [.null, .null, .int 0, .int 0, .int 0, .null, .int 0])) :: wX6 K q0 a0) := hW
  refine k_putF C hin hW (ci := 3) (k := 1) (by decide +kernel) (Nat.le_of_ble_eq_true rfl) rfl rfl rfl rfl (show decode cX3_init 12 = .ok (.putfield 12, 3) by decide +kernel) (fun H locs hW => ?_)
  replace hW : WZ K A s _ _ ((h0, .inr (3, [.null, .ref q0, .int 0, .int 0, .int 0, .null, .int 0])) :: wX6 K q0 a0) := hW
  refine lv_aload_n hx hb (show decode cX3_init 15 = .ok (.aload_n 0, 1) by decide +kernel) rfl (lv_at hl 0 rfl) ?_
  refine lv_iconst (v := n32 4) hx hb (show decode cX3_init 16 = .ok (.iconst 4, 1) by decide +kernel) rfl ?_
  refine k_newi C hW (N := 4) ⟨by decide, by decide⟩ rfl (by decide) (by decide) (show decode cX3_init 17 = .ok (.newarray .int, 2) by decide +kernel) (fun q2 H hW => ?_)
  refine W.widen (k := 12) (n := 123) (by decide) (by decide) ?_
  replace hW : WZ K A s _ _ ((h0, .inr (3, [.null, .ref q0, .int 0, .int 0, .int 0, .null, .int 0])) :: (wX6 K q0 a0 ++ [(q2, .inl (K.2.1, 4, .inl (fun _ => 0)))])) := hW
  refine k_putF C hin hW (ci := 3) (k := 5) (by decide +kernel) (Nat.le_of_ble_eq_true rfl) rfl rfl rfl rfl (show decode cX3_init 19 = .ok (.putfield 18, 3) by decide +kernel) (fun H locs hW => ?_)
  replace hW : WZ K A s _ _ ((h0, .inr (3, [.null, .ref q0, .int 0, .int 0, .int 0, .ref q2, .int 0])) :: (wX6 K q0 a0 ++ [(q2, .inl (K.2.1, 4, .inl (fun _ => 0)))])) := hW
  refine lv_aload_n hx hb (show decode cX3_init 22 = .ok (.aload_n 0, 1) by decide +kernel) rfl (lv_at hl 0 rfl) ?_
  refine lv_aload_n hx hb (show decode cX3_init 23 = .ok (.aload_n 1, 1) by decide +kernel) rfl (lv_at hl 1 rfl) ?_
  refine k_putF C hin hW (ci := 3) (k := 0) (by decide +kernel) (Nat.le_of_ble_eq_true rfl) rfl rfl rfl rfl (show decode cX3_init 24 = .ok (.putfield 22, 3) by decide +kernel) (fun H locs hW => ?_)
  replace hW : WZ K A s _ _ ((h0, .inr (3, [.ref p0, .ref q0, .int 0, .int 0, .int 0, .ref q2, .int 0])) :: (wX6 K q0 a0 ++ [(q2, .inl (K.2.1, 4, .inl (fun _ => 0)))])) := hW
  exact ret _ _ _ _ 27 hW ⟨fun n => [q0, (a0 0), (a0 1), (a0 2), (a0 3), (a0 4), (a0 5), (a0 6), (a0 7), (a0 8), (a0 9), q2].getD n 0, rfl⟩ (show decode cX3_init 27 = .ok (.return_, 1) by decide +kernel)
