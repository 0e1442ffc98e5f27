section Ctorx
variable {p : Program} {l : Launch} {e : Env} {s : State} {m : MethodId} {args : Array Value} {below : List Frame} {meth : Method} {c : Code} {H : Heap} {locs : List Loc} {Q : State → Prop}
variable {ls : Array Slot} {A : Nat → Prop} {K : Kk}
theorem cX10_0 (h0 : Nat) (C : CK 3 mX10_init K p { frames := 3, cells := 99, slots := 1001, locals := 64 * 3 } s m args c) (hin : meth.name = "<init>") {old : va_W} (hl : lv_has ls 2 [(0, .ref h0)]) (hW : WZ K A s H locs ((h0, .inr (10, [.null, .null, .null, .null, .null, .null, .null, .null, .null, .null, .null, .null, .int 0])) :: old))
    (kk : ∀ (q0 : Nat) (a0 : Nat → Nat) (H : Heap) (locs : List Loc), WZ K A s H locs ((h0, .inr (10, [.ref q0, .null, .null, .null, .null, .null, .null, .null, .null, .null, .null, .null, .int 0])) :: (old ++ wX6 K q0 a0)) → W p l e { frames := 3, cells := 99, slots := 1001, locals := 64 * 3 } s m args below meth c H locs 11 119 Q (F0 m 15 ls [])) : W p l e { frames := 3, cells := 99, slots := 1001, locals := 64 * 3 } s m args below meth c H locs 0 0 Q (F0 m 0 ls []) := by
  obtain ⟨hx, hb, hml, hown, hts, hR, hK⟩ := id C
  refine lv_aload_n hx hb (show decode cX10_init 0 = .ok (.aload_n 0, 1) by decide +kernel) rfl (lv_at hl 0 rfl) ?_
  refine k_obj C (gT1 (i := 22) (by decide +kernel) rfl) oI_in oI_co (by decide) hl.1 (show decode cX10_init 1 = .ok (.invokespecial 1, 3) by decide +kernel) ?_
  refine lv_aload_n hx hb (show decode cX10_init 4 = .ok (.aload_n 0, 1) by decide +kernel) rfl (lv_at hl 0 rfl) ?_
  refine k_new (ci := 6) C hW (by decide) (gT1 (i := 25) (by decide +kernel) rfl) nI6 nZ6 (by decide) (by decide) (show decode cX10_init 5 = .ok (.new 7, 3) by decide +kernel) (fun q0 H hW => ?_)
  refine W.widen (k := 1) (n := 17) (by decide) (by decide) ?_
  refine lv_dup hx hb (show decode cX10_init 8 = .ok (.dup, 1) by decide +kernel) rfl ?_
  refine k_callN C hW (as := []) (q := q0) (cX6 l K) kX6_init rfl rfl iX6_init (host := "OneWayTillNoon") (lT1 (i := 27) (by decide +kernel)) (by decide) rfl hl.1 (Nat.le_of_ble_eq_true rfl) (by decide) (by decide) (show decode cX10_init 9 = .ok (.invokespecial 9, 3) by decide +kernel) rfl (fun w1 H locs hw1 hW => ?_)
  obtain ⟨a0, rfl⟩ := hw1
  refine W.widen (k := 11) (n := 119) (by decide) (by decide) ?_
  replace hW : WZ K A s _ _ ((h0, .inr (10, [.null, .null, .null, .null, .null, .null, .null, .null, .null, .null, .null, .null, .int 0])) :: (old ++ wX6 K q0 a0)) := hW
  refine k_putF C hin hW (ci := 10) (k := 0) (by decide +kernel) (Nat.le_of_ble_eq_true rfl) rfl rfl rfl rfl (show decode cX10_init 12 = .ok (.putfield 10, 3) by decide +kernel) (fun H locs hW => ?_)
  exact kk q0 a0 _ _ hW
theorem cX10_1 (h0 : Nat) (q0 : Nat) (C : CK 3 mX10_init K p { frames := 3, cells := 99, slots := 1001, locals := 64 * 3 } s m args c) (hin : meth.name = "<init>") {old : va_W} (hl : lv_has ls 2 [(0, .ref h0)]) (hW : WZ K A s H locs ((h0, .inr (10, [.ref q0, .null, .null, .null, .null, .null, .null, .null, .null, .null, .null, .null, .int 0])) :: old))
    (kk : ∀ (q2 : Nat) (a2 : Nat → Nat) (H : Heap) (locs : List Loc), WZ K A s H locs ((h0, .inr (10, [.ref q0, .ref q2, .null, .null, .null, .null, .null, .null, .null, .null, .null, .null, .int 0])) :: (old ++ wX6 K q2 a2)) → W p l e { frames := 3, cells := 99, slots := 1001, locals := 64 * 3 } s m args below meth c H locs 22 238 Q (F0 m 26 ls [])) : W p l e { frames := 3, cells := 99, slots := 1001, locals := 64 * 3 } s m args below meth c H locs 11 119 Q (F0 m 15 ls []) := by
  obtain ⟨hx, hb, hml, hown, hts, hR, hK⟩ := id C
  refine lv_aload_n hx hb (show decode cX10_init 15 = .ok (.aload_n 0, 1) by decide +kernel) rfl (lv_at hl 0 rfl) ?_
  refine k_new (ci := 6) C hW (by decide) (gT1 (i := 25) (by decide +kernel) rfl) nI6 nZ6 (by decide) (by decide) (show decode cX10_init 16 = .ok (.new 7, 3) by decide +kernel) (fun q2 H hW => ?_)
  refine W.widen (k := 12) (n := 136) (by decide) (by decide) ?_
  refine lv_dup hx hb (show decode cX10_init 19 = .ok (.dup, 1) by decide +kernel) rfl ?_
  refine k_callN C hW (as := []) (q := q2) (cX6 l K) kX6_init rfl rfl iX6_init (host := "OneWayTillNoon") (lT1 (i := 27) (by decide +kernel)) (by decide) rfl hl.1 (Nat.le_of_ble_eq_true rfl) (by decide) (by decide) (show decode cX10_init 20 = .ok (.invokespecial 9, 3) by decide +kernel) rfl (fun w1 H locs hw1 hW => ?_)
  obtain ⟨a2, rfl⟩ := hw1
  refine W.widen (k := 22) (n := 238) (by decide) (by decide) ?_
  replace hW : WZ K A s _ _ ((h0, .inr (10, [.ref q0, .null, .null, .null, .null, .null, .null, .null, .null, .null, .null, .null, .int 0])) :: (old ++ wX6 K q2 a2)) := hW
  refine k_putF C hin hW (ci := 10) (k := 1) (by decide +kernel) (Nat.le_of_ble_eq_true rfl) rfl rfl rfl rfl (show decode cX10_init 23 = .ok (.putfield 16, 3) by decide +kernel) (fun H locs hW => ?_)
  exact kk q2 a2 _ _ hW
theorem cX10_2 (h0 : Nat) (q0 : Nat) (q2 : Nat) (C : CK 3 mX10_init K p { frames := 3, cells := 99, slots := 1001, locals := 64 * 3 } s m args c) (hin : meth.name = "<init>") {old : va_W} (hl : lv_has ls 2 [(0, .ref h0)]) (hW : WZ K A s H locs ((h0, .inr (10, [.ref q0, .ref q2, .null, .null, .null, .null, .null, .null, .null, .null, .null, .null, .int 0])) :: old))
    (kk : ∀ (q4 : Nat) (a4 : Nat → Nat) (H : Heap) (locs : List Loc), WZ K A s H locs ((h0, .inr (10, [.ref q0, .ref q2, .ref q4, .null, .null, .null, .null, .null, .null, .null, .null, .null, .int 0])) :: (old ++ wX5 K q4 a4)) → W p l e { frames := 3, cells := 99, slots := 1001, locals := 64 * 3 } s m args below meth c H locs 24 304 Q (F0 m 37 ls [])) : W p l e { frames := 3, cells := 99, slots := 1001, locals := 64 * 3 } s m args below meth c H locs 22 238 Q (F0 m 26 ls []) := by
  obtain ⟨hx, hb, hml, hown, hts, hR, hK⟩ := id C
  refine lv_aload_n hx hb (show decode cX10_init 26 = .ok (.aload_n 0, 1) by decide +kernel) rfl (lv_at hl 0 rfl) ?_
  refine k_new (ci := 5) C hW (by decide) (gT1 (i := 134) (by decide +kernel) rfl) nI5 nZ5 (by decide) (by decide) (show decode cX10_init 27 = .ok (.new 19, 3) by decide +kernel) (fun q4 H hW => ?_)
  refine W.widen (k := 23) (n := 240) (by decide) (by decide) ?_
  refine lv_dup hx hb (show decode cX10_init 30 = .ok (.dup, 1) by decide +kernel) rfl ?_
  refine k_callN C hW (as := []) (q := q4) (cX5 l K) kX5_init rfl rfl iX5_init (host := "OneWayTillNoon") (lT1 (i := 136) (by decide +kernel)) (by decide) rfl hl.1 (Nat.le_of_ble_eq_true rfl) (by decide) (by decide) (show decode cX10_init 31 = .ok (.invokespecial 21, 3) by decide +kernel) rfl (fun w1 H locs hw1 hW => ?_)
  obtain ⟨a4, rfl⟩ := hw1
  refine W.widen (k := 24) (n := 304) (by decide) (by decide) ?_
  replace hW : WZ K A s _ _ ((h0, .inr (10, [.ref q0, .ref q2, .null, .null, .null, .null, .null, .null, .null, .null, .null, .null, .int 0])) :: (old ++ wX5 K q4 a4)) := hW
  refine k_putF C hin hW (ci := 10) (k := 2) (by decide +kernel) (Nat.le_of_ble_eq_true rfl) rfl rfl rfl rfl (show decode cX10_init 34 = .ok (.putfield 22, 3) by decide +kernel) (fun H locs hW => ?_)
  exact kk q4 a4 _ _ hW
theorem cX10_3 (h0 : Nat) (q0 : Nat) (q2 : Nat) (q4 : Nat) (C : CK 3 mX10_init K p { frames := 3, cells := 99, slots := 1001, locals := 64 * 3 } s m args c) (hin : meth.name = "<init>") {old : va_W} (hl : lv_has ls 2 [(0, .ref h0)]) (hW : WZ K A s H locs ((h0, .inr (10, [.ref q0, .ref q2, .ref q4, .null, .null, .null, .null, .null, .null, .null, .null, .null, .int 0])) :: old))
    (kk : ∀ (q6 : Nat) (a6 : Nat → Nat) (H : Heap) (locs : List Loc), WZ K A s H locs ((h0, .inr (10, [.ref q0, .ref q2, .ref q4, .ref q6, .null, .null, .null, .null, .null, .null, .null, .null, .int 0])) :: (old ++ wX3 K q6 q4 a6)) → W p l e { frames := 3, cells := 99, slots := 1001, locals := 64 * 3 } s m args below meth c H locs 37 434 Q (F0 m 52 ls [])) : W p l e { frames := 3, cells := 99, slots := 1001, locals := 64 * 3 } s m args below meth c H locs 24 304 Q (F0 m 37 ls []) := by
  obtain ⟨hx, hb, hml, hown, hts, hR, hK⟩ := id C
  refine lv_aload_n hx hb (show decode cX10_init 37 = .ok (.aload_n 0, 1) by decide +kernel) rfl (lv_at hl 0 rfl) ?_
  refine k_new (ci := 3) C hW (by decide) (gT1 (i := 149) (by decide +kernel) rfl) nI3 nZ3 (by decide) (by decide) (show decode cX10_init 38 = .ok (.new 26, 3) by decide +kernel) (fun q6 H hW => ?_)
  refine W.widen (k := 25) (n := 311) (by decide) (by decide) ?_
  refine lv_dup hx hb (show decode cX10_init 41 = .ok (.dup, 1) by decide +kernel) rfl ?_
  refine lv_aload_n hx hb (show decode cX10_init 42 = .ok (.aload_n 0, 1) by decide +kernel) rfl (lv_at hl 0 rfl) ?_
  replace hW : WZ K A s _ _ ((h0, .inr (10, [.ref q0, .ref q2, .ref q4, .null, .null, .null, .null, .null, .null, .null, .null, .null, .int 0])) :: (old ++ [(q6, .inr (3, dfl 3))])) := hW
  refine k_get C hW (ci := 10) (k := 2) (by decide +kernel) rfl (show decode cX10_init 43 = .ok (.getfield 22, 3) by decide +kernel) ?_
  replace hW : WZ K A s _ _ (((h0, .inr (10, [.ref q0, .ref q2, .ref q4, .null, .null, .null, .null, .null, .null, .null, .null, .null, .int 0])) :: old) ++ [(q6, .inr (3, dfl 3))]) := hW
  refine k_call C hW (as := [.ref q4]) (q := q6) (cX3 l K q4) kX3_init rfl rfl iX3_init (gT1 (i := 151) (by decide +kernel) rfl) (by decide) rfl hl.1 (Nat.le_of_ble_eq_true rfl) (by decide) (by decide) (show decode cX10_init 46 = .ok (.invokespecial 28, 3) by decide +kernel) rfl (fun w1 H locs hw1 hW => ?_)
  obtain ⟨a6, rfl⟩ := hw1
  refine W.widen (k := 37) (n := 434) (by decide) (by decide) ?_
  replace hW : WZ K A s _ _ ((h0, .inr (10, [.ref q0, .ref q2, .ref q4, .null, .null, .null, .null, .null, .null, .null, .null, .null, .int 0])) :: (old ++ wX3 K q6 q4 a6)) := hW
  refine k_putF C hin hW (ci := 10) (k := 3) (by decide +kernel) (Nat.le_of_ble_eq_true rfl) rfl rfl rfl rfl (show decode cX10_init 49 = .ok (.putfield 31, 3) by decide +kernel) (fun H locs hW => ?_)
  exact kk q6 a6 _ _ hW
theorem cX10_4 (h0 : Nat) (q0 : Nat) (q2 : Nat) (q4 : Nat) (q6 : Nat) (C : CK 3 mX10_init K p { frames := 3, cells := 99, slots := 1001, locals := 64 * 3 } s m args c) (hin : meth.name = "<init>") {old : va_W} (hl : lv_has ls 2 [(0, .ref h0)]) (hW : WZ K A s H locs ((h0, .inr (10, [.ref q0, .ref q2, .ref q4, .ref q6, .null, .null, .null, .null, .null, .null, .null, .null, .int 0])) :: old))
    (kk : ∀ (q8 : Nat) (a8 : Nat → Nat) (H : Heap) (locs : List Loc), WZ K A s H locs ((h0, .inr (10, [.ref q0, .ref q2, .ref q4, .ref q6, .ref q8, .null, .null, .null, .null, .null, .null, .null, .int 0])) :: (old ++ wX7 K q8 q0 a8)) → W p l e { frames := 3, cells := 99, slots := 1001, locals := 64 * 3 } s m args below meth c H locs 38 444 Q (F0 m 67 ls [])) : W p l e { frames := 3, cells := 99, slots := 1001, locals := 64 * 3 } s m args below meth c H locs 37 434 Q (F0 m 52 ls []) := by
  obtain ⟨hx, hb, hml, hown, hts, hR, hK⟩ := id C
  refine lv_aload_n hx hb (show decode cX10_init 52 = .ok (.aload_n 0, 1) by decide +kernel) rfl (lv_at hl 0 rfl) ?_
  refine k_new (ci := 7) C hW (by decide) (gT1 (i := 179) (by decide +kernel) rfl) nI7 nZ7 (by decide) (by decide) (show decode cX10_init 53 = .ok (.new 35, 3) by decide +kernel) (fun q8 H hW => ?_)
  refine W.widen (k := 38) (n := 444) (by decide) (by decide) ?_
  refine lv_dup hx hb (show decode cX10_init 56 = .ok (.dup, 1) by decide +kernel) rfl ?_
  refine lv_aload_n hx hb (show decode cX10_init 57 = .ok (.aload_n 0, 1) by decide +kernel) rfl (lv_at hl 0 rfl) ?_
  replace hW : WZ K A s _ _ ((h0, .inr (10, [.ref q0, .ref q2, .ref q4, .ref q6, .null, .null, .null, .null, .null, .null, .null, .null, .int 0])) :: (old ++ [(q8, .inr (7, dfl 7))])) := hW
  refine k_get C hW (ci := 10) (k := 0) (by decide +kernel) rfl (show decode cX10_init 58 = .ok (.getfield 10, 3) by decide +kernel) ?_
  replace hW : WZ K A s _ _ (((h0, .inr (10, [.ref q0, .ref q2, .ref q4, .ref q6, .null, .null, .null, .null, .null, .null, .null, .null, .int 0])) :: old) ++ [(q8, .inr (7, dfl 7))]) := hW
  refine k_call C hW (as := [.ref q0]) (q := q8) (cX7 l K q0) kX7_init rfl rfl iX7_init (gT1 (i := 181) (by decide +kernel) rfl) (by decide) rfl hl.1 (Nat.le_of_ble_eq_true rfl) (by decide) (by decide) (show decode cX10_init 61 = .ok (.invokespecial 37, 3) by decide +kernel) rfl (fun w1 H locs hw1 hW => ?_)
  obtain ⟨a8, rfl⟩ := hw1
  refine W.widen (k := 38) (n := 444) (by decide) (by decide) ?_
  replace hW : WZ K A s _ _ ((h0, .inr (10, [.ref q0, .ref q2, .ref q4, .ref q6, .null, .null, .null, .null, .null, .null, .null, .null, .int 0])) :: (old ++ wX7 K q8 q0 a8)) := hW
  refine k_putF C hin hW (ci := 10) (k := 4) (by decide +kernel) (Nat.le_of_ble_eq_true rfl) rfl rfl rfl rfl (show decode cX10_init 64 = .ok (.putfield 40, 3) by decide +kernel) (fun H locs hW => ?_)
  exact kk q8 a8 _ _ hW
theorem cX10_5 (h0 : Nat) (q0 : Nat) (q2 : Nat) (q4 : Nat) (q6 : Nat) (q8 : Nat) (C : CK 3 mX10_init K p { frames := 3, cells := 99, slots := 1001, locals := 64 * 3 } s m args c) (hin : meth.name = "<init>") {old : va_W} (hl : lv_has ls 2 [(0, .ref h0)]) (hW : WZ K A s H locs ((h0, .inr (10, [.ref q0, .ref q2, .ref q4, .ref q6, .ref q8, .null, .null, .null, .null, .null, .null, .null, .int 0])) :: old))
    (kk : ∀ (q10 : Nat) (a10 : Nat → Nat) (H : Heap) (locs : List Loc), WZ K A s H locs ((h0, .inr (10, [.ref q0, .ref q2, .ref q4, .ref q6, .ref q8, .ref q10, .null, .null, .null, .null, .null, .null, .int 0])) :: (old ++ wX8 K q10 q0 q8 a10)) → W p l e { frames := 3, cells := 99, slots := 1001, locals := 64 * 3 } s m args below meth c H locs 40 458 Q (F0 m 86 ls [])) : W p l e { frames := 3, cells := 99, slots := 1001, locals := 64 * 3 } s m args below meth c H locs 38 444 Q (F0 m 67 ls []) := by
  obtain ⟨hx, hb, hml, hown, hts, hR, hK⟩ := id C
  refine lv_aload_n hx hb (show decode cX10_init 67 = .ok (.aload_n 0, 1) by decide +kernel) rfl (lv_at hl 0 rfl) ?_
  refine k_new (ci := 8) C hW (by decide) (gT1 (i := 216) (by decide +kernel) rfl) nI8 nZ8 (by decide) (by decide) (show decode cX10_init 68 = .ok (.new 44, 3) by decide +kernel) (fun q10 H hW => ?_)
  refine W.widen (k := 39) (n := 448) (by decide) (by decide) ?_
  refine lv_dup hx hb (show decode cX10_init 71 = .ok (.dup, 1) by decide +kernel) rfl ?_
  refine lv_aload_n hx hb (show decode cX10_init 72 = .ok (.aload_n 0, 1) by decide +kernel) rfl (lv_at hl 0 rfl) ?_
  replace hW : WZ K A s _ _ ((h0, .inr (10, [.ref q0, .ref q2, .ref q4, .ref q6, .ref q8, .null, .null, .null, .null, .null, .null, .null, .int 0])) :: (old ++ [(q10, .inr (8, dfl 8))])) := hW
  refine k_get C hW (ci := 10) (k := 0) (by decide +kernel) rfl (show decode cX10_init 73 = .ok (.getfield 10, 3) by decide +kernel) ?_
  refine lv_aload_n hx hb (show decode cX10_init 76 = .ok (.aload_n 0, 1) by decide +kernel) rfl (lv_at hl 0 rfl) ?_
  refine k_get C hW (ci := 10) (k := 4) (by decide +kernel) rfl (show decode cX10_init 77 = .ok (.getfield 40, 3) by decide +kernel) ?_
  replace hW : WZ K A s _ _ (((h0, .inr (10, [.ref q0, .ref q2, .ref q4, .ref q6, .ref q8, .null, .null, .null, .null, .null, .null, .null, .int 0])) :: old) ++ [(q10, .inr (8, dfl 8))]) := hW
  refine k_call C hW (as := [.ref q0, .ref q8]) (q := q10) (cX8 l K q0 q8) kX8_init rfl rfl iX8_init (gT1 (i := 218) (by decide +kernel) rfl) (by decide) rfl hl.1 (Nat.le_of_ble_eq_true rfl) (by decide) (by decide) (show decode cX10_init 80 = .ok (.invokespecial 46, 3) by decide +kernel) rfl (fun w1 H locs hw1 hW => ?_)
  obtain ⟨a10, rfl⟩ := hw1
  refine W.widen (k := 40) (n := 458) (by decide) (by decide) ?_
  replace hW : WZ K A s _ _ ((h0, .inr (10, [.ref q0, .ref q2, .ref q4, .ref q6, .ref q8, .null, .null, .null, .null, .null, .null, .null, .int 0])) :: (old ++ wX8 K q10 q0 q8 a10)) := hW
  refine k_putF C hin hW (ci := 10) (k := 5) (by decide +kernel) (Nat.le_of_ble_eq_true rfl) rfl rfl rfl rfl (show decode cX10_init 83 = .ok (.putfield 49, 3) by decide +kernel) (fun H locs hW => ?_)
  exact kk q10 a10 _ _ hW
theorem cX10_6 (h0 : Nat) (q0 : Nat) (q2 : Nat) (q4 : Nat) (q6 : Nat) (q8 : Nat) (q10 : Nat) (C : CK 3 mX10_init K p { frames := 3, cells := 99, slots := 1001, locals := 64 * 3 } s m args c) (hin : meth.name = "<init>") {old : va_W} (hl : lv_has ls 2 [(0, .ref h0)]) (hW : WZ K A s H locs ((h0, .inr (10, [.ref q0, .ref q2, .ref q4, .ref q6, .ref q8, .ref q10, .null, .null, .null, .null, .null, .null, .int 0])) :: old))
    (kk : ∀ (q12 : Nat) (a12 : Nat → Nat) (H : Heap) (locs : List Loc), WZ K A s H locs ((h0, .inr (10, [.ref q0, .ref q2, .ref q4, .ref q6, .ref q8, .ref q10, .ref q12, .null, .null, .null, .null, .null, .int 0])) :: (old ++ wX0 K q12 q0 q8 a12)) → W p l e { frames := 3, cells := 99, slots := 1001, locals := 64 * 3 } s m args below meth c H locs 52 571 Q (F0 m 105 ls [])) : W p l e { frames := 3, cells := 99, slots := 1001, locals := 64 * 3 } s m args below meth c H locs 40 458 Q (F0 m 86 ls []) := by
  obtain ⟨hx, hb, hml, hown, hts, hR, hK⟩ := id C
  refine lv_aload_n hx hb (show decode cX10_init 86 = .ok (.aload_n 0, 1) by decide +kernel) rfl (lv_at hl 0 rfl) ?_
  refine k_new (ci := 0) C hW (by decide) (gT1 (i := 235) (by decide +kernel) rfl) nI0 nZ0 (by decide) (by decide) (show decode cX10_init 87 = .ok (.new 53, 3) by decide +kernel) (fun q12 H hW => ?_)
  refine W.widen (k := 41) (n := 461) (by decide) (by decide) ?_
  refine lv_dup hx hb (show decode cX10_init 90 = .ok (.dup, 1) by decide +kernel) rfl ?_
  refine lv_aload_n hx hb (show decode cX10_init 91 = .ok (.aload_n 0, 1) by decide +kernel) rfl (lv_at hl 0 rfl) ?_
  replace hW : WZ K A s _ _ ((h0, .inr (10, [.ref q0, .ref q2, .ref q4, .ref q6, .ref q8, .ref q10, .null, .null, .null, .null, .null, .null, .int 0])) :: (old ++ [(q12, .inr (0, dfl 0))])) := hW
  refine k_get C hW (ci := 10) (k := 0) (by decide +kernel) rfl (show decode cX10_init 92 = .ok (.getfield 10, 3) by decide +kernel) ?_
  refine lv_aload_n hx hb (show decode cX10_init 95 = .ok (.aload_n 0, 1) by decide +kernel) rfl (lv_at hl 0 rfl) ?_
  refine k_get C hW (ci := 10) (k := 4) (by decide +kernel) rfl (show decode cX10_init 96 = .ok (.getfield 40, 3) by decide +kernel) ?_
  replace hW : WZ K A s _ _ (((h0, .inr (10, [.ref q0, .ref q2, .ref q4, .ref q6, .ref q8, .ref q10, .null, .null, .null, .null, .null, .null, .int 0])) :: old) ++ [(q12, .inr (0, dfl 0))]) := hW
  refine k_call C hW (as := [.ref q0, .ref q8]) (q := q12) (cX0 l K q0 q8) kX0_init rfl rfl iX0_init (gT1 (i := 237) (by decide +kernel) rfl) (by decide) rfl hl.1 (Nat.le_of_ble_eq_true rfl) (by decide) (by decide) (show decode cX10_init 99 = .ok (.invokespecial 55, 3) by decide +kernel) rfl (fun w1 H locs hw1 hW => ?_)
  obtain ⟨a12, rfl⟩ := hw1
  refine W.widen (k := 52) (n := 571) (by decide) (by decide) ?_
  replace hW : WZ K A s _ _ ((h0, .inr (10, [.ref q0, .ref q2, .ref q4, .ref q6, .ref q8, .ref q10, .null, .null, .null, .null, .null, .null, .int 0])) :: (old ++ wX0 K q12 q0 q8 a12)) := hW
  refine k_putF C hin hW (ci := 10) (k := 6) (by decide +kernel) (Nat.le_of_ble_eq_true rfl) rfl rfl rfl rfl (show decode cX10_init 102 = .ok (.putfield 56, 3) by decide +kernel) (fun H locs hW => ?_)
  exact kk q12 a12 _ _ hW
theorem cX10_7 (h0 : Nat) (q0 : Nat) (q2 : Nat) (q4 : Nat) (q6 : Nat) (q8 : Nat) (q10 : Nat) (q12 : Nat) (C : CK 3 mX10_init K p { frames := 3, cells := 99, slots := 1001, locals := 64 * 3 } s m args c) (hin : meth.name = "<init>") {old : va_W} (hl : lv_has ls 2 [(0, .ref h0)]) (hW : WZ K A s H locs ((h0, .inr (10, [.ref q0, .ref q2, .ref q4, .ref q6, .ref q8, .ref q10, .ref q12, .null, .null, .null, .null, .null, .int 0])) :: old))
    (kk : ∀ (q14 : Nat) (a14 : Nat → Nat) (H : Heap) (locs : List Loc), WZ K A s H locs ((h0, .inr (10, [.ref q0, .ref q2, .ref q4, .ref q6, .ref q8, .ref q10, .ref q12, .ref q14, .null, .null, .null, .null, .int 0])) :: (old ++ wX2 K q14 q0 a14)) → W p l e { frames := 3, cells := 99, slots := 1001, locals := 64 * 3 } s m args below meth c H locs 55 594 Q (F0 m 120 ls [])) : W p l e { frames := 3, cells := 99, slots := 1001, locals := 64 * 3 } s m args below meth c H locs 52 571 Q (F0 m 105 ls []) := by
  obtain ⟨hx, hb, hml, hown, hts, hR, hK⟩ := id C
  refine lv_aload_n hx hb (show decode cX10_init 105 = .ok (.aload_n 0, 1) by decide +kernel) rfl (lv_at hl 0 rfl) ?_
  refine k_new (ci := 2) C hW (by decide) (gT2 (i := 13) (by decide +kernel) rfl) nI2 nZ2 (by decide) (by decide) (show decode cX10_init 106 = .ok (.new 60, 3) by decide +kernel) (fun q14 H hW => ?_)
  refine W.widen (k := 53) (n := 574) (by decide) (by decide) ?_
  refine lv_dup hx hb (show decode cX10_init 109 = .ok (.dup, 1) by decide +kernel) rfl ?_
  refine lv_aload_n hx hb (show decode cX10_init 110 = .ok (.aload_n 0, 1) by decide +kernel) rfl (lv_at hl 0 rfl) ?_
  replace hW : WZ K A s _ _ ((h0, .inr (10, [.ref q0, .ref q2, .ref q4, .ref q6, .ref q8, .ref q10, .ref q12, .null, .null, .null, .null, .null, .int 0])) :: (old ++ [(q14, .inr (2, dfl 2))])) := hW
  refine k_get C hW (ci := 10) (k := 0) (by decide +kernel) rfl (show decode cX10_init 111 = .ok (.getfield 10, 3) by decide +kernel) ?_
  replace hW : WZ K A s _ _ (((h0, .inr (10, [.ref q0, .ref q2, .ref q4, .ref q6, .ref q8, .ref q10, .ref q12, .null, .null, .null, .null, .null, .int 0])) :: old) ++ [(q14, .inr (2, dfl 2))]) := hW
  refine k_call C hW (as := [.ref q0]) (q := q14) (cX2 l K q0) kX2_init rfl rfl iX2_init (gT2 (i := 15) (by decide +kernel) rfl) (by decide) rfl hl.1 (Nat.le_of_ble_eq_true rfl) (by decide) (by decide) (show decode cX10_init 114 = .ok (.invokespecial 62, 3) by decide +kernel) rfl (fun w1 H locs hw1 hW => ?_)
  obtain ⟨a14, rfl⟩ := hw1
  refine W.widen (k := 55) (n := 594) (by decide) (by decide) ?_
  replace hW : WZ K A s _ _ ((h0, .inr (10, [.ref q0, .ref q2, .ref q4, .ref q6, .ref q8, .ref q10, .ref q12, .null, .null, .null, .null, .null, .int 0])) :: (old ++ wX2 K q14 q0 a14)) := hW
  refine k_putF C hin hW (ci := 10) (k := 7) (by decide +kernel) (Nat.le_of_ble_eq_true rfl) rfl rfl rfl rfl (show decode cX10_init 117 = .ok (.putfield 63, 3) by decide +kernel) (fun H locs hW => ?_)
  exact kk q14 a14 _ _ hW
theorem cX10_8 (h0 : Nat) (q0 : Nat) (q2 : Nat) (q4 : Nat) (q6 : Nat) (q8 : Nat) (q10 : Nat) (q12 : Nat) (q14 : Nat) (C : CK 3 mX10_init K p { frames := 3, cells := 99, slots := 1001, locals := 64 * 3 } s m args c) (hin : meth.name = "<init>") {old : va_W} (hl : lv_has ls 2 [(0, .ref h0)]) (hW : WZ K A s H locs ((h0, .inr (10, [.ref q0, .ref q2, .ref q4, .ref q6, .ref q8, .ref q10, .ref q12, .ref q14, .null, .null, .null, .null, .int 0])) :: old))
    (kk : ∀ (q16 : Nat) (a16 : Nat → Nat) (H : Heap) (locs : List Loc), WZ K A s H locs ((h0, .inr (10, [.ref q0, .ref q2, .ref q4, .ref q6, .ref q8, .ref q10, .ref q12, .ref q14, .ref q16, .null, .null, .null, .int 0])) :: (old ++ wX1 K q16 q0 q10 a16)) → W p l e { frames := 3, cells := 99, slots := 1001, locals := 64 * 3 } s m args below meth c H locs 56 597 Q (F0 m 139 ls [])) : W p l e { frames := 3, cells := 99, slots := 1001, locals := 64 * 3 } s m args below meth c H locs 55 594 Q (F0 m 120 ls []) := by
  obtain ⟨hx, hb, hml, hown, hts, hR, hK⟩ := id C
  refine lv_aload_n hx hb (show decode cX10_init 120 = .ok (.aload_n 0, 1) by decide +kernel) rfl (lv_at hl 0 rfl) ?_
  refine k_new (ci := 1) C hW (by decide) (gT2 (i := 29) (by decide +kernel) rfl) nI1 nZ1 (by decide) (by decide) (show decode cX10_init 121 = .ok (.new 67, 3) by decide +kernel) (fun q16 H hW => ?_)
  refine W.widen (k := 56) (n := 597) (by decide) (by decide) ?_
  refine lv_dup hx hb (show decode cX10_init 124 = .ok (.dup, 1) by decide +kernel) rfl ?_
  refine lv_aload_n hx hb (show decode cX10_init 125 = .ok (.aload_n 0, 1) by decide +kernel) rfl (lv_at hl 0 rfl) ?_
  replace hW : WZ K A s _ _ ((h0, .inr (10, [.ref q0, .ref q2, .ref q4, .ref q6, .ref q8, .ref q10, .ref q12, .ref q14, .null, .null, .null, .null, .int 0])) :: (old ++ [(q16, .inr (1, dfl 1))])) := hW
  refine k_get C hW (ci := 10) (k := 0) (by decide +kernel) rfl (show decode cX10_init 126 = .ok (.getfield 10, 3) by decide +kernel) ?_
  refine lv_aload_n hx hb (show decode cX10_init 129 = .ok (.aload_n 0, 1) by decide +kernel) rfl (lv_at hl 0 rfl) ?_
  refine k_get C hW (ci := 10) (k := 5) (by decide +kernel) rfl (show decode cX10_init 130 = .ok (.getfield 49, 3) by decide +kernel) ?_
  replace hW : WZ K A s _ _ (((h0, .inr (10, [.ref q0, .ref q2, .ref q4, .ref q6, .ref q8, .ref q10, .ref q12, .ref q14, .null, .null, .null, .null, .int 0])) :: old) ++ [(q16, .inr (1, dfl 1))]) := hW
  refine k_call C hW (as := [.ref q0, .ref q10]) (q := q16) (cX1 l K q0 q10) kX1_init rfl rfl iX1_init (gT2 (i := 31) (by decide +kernel) rfl) (by decide) rfl hl.1 (Nat.le_of_ble_eq_true rfl) (by decide) (by decide) (show decode cX10_init 133 = .ok (.invokespecial 69, 3) by decide +kernel) rfl (fun w1 H locs hw1 hW => ?_)
  obtain ⟨a16, rfl⟩ := hw1
  refine W.widen (k := 56) (n := 597) (by decide) (by decide) ?_
  replace hW : WZ K A s _ _ ((h0, .inr (10, [.ref q0, .ref q2, .ref q4, .ref q6, .ref q8, .ref q10, .ref q12, .ref q14, .null, .null, .null, .null, .int 0])) :: (old ++ wX1 K q16 q0 q10 a16)) := hW
  refine k_putF C hin hW (ci := 10) (k := 8) (by decide +kernel) (Nat.le_of_ble_eq_true rfl) rfl rfl rfl rfl (show decode cX10_init 136 = .ok (.putfield 72, 3) by decide +kernel) (fun H locs hW => ?_)
  exact kk q16 a16 _ _ hW
theorem cX10_9 (h0 : Nat) (q0 : Nat) (q2 : Nat) (q4 : Nat) (q6 : Nat) (q8 : Nat) (q10 : Nat) (q12 : Nat) (q14 : Nat) (q16 : Nat) (C : CK 3 mX10_init K p { frames := 3, cells := 99, slots := 1001, locals := 64 * 3 } s m args c) (hin : meth.name = "<init>") {old : va_W} (hl : lv_has ls 2 [(0, .ref h0)]) (hW : WZ K A s H locs ((h0, .inr (10, [.ref q0, .ref q2, .ref q4, .ref q6, .ref q8, .ref q10, .ref q12, .ref q14, .ref q16, .null, .null, .null, .int 0])) :: old))
    (kk : ∀ (q18 : Nat) (a18 : Nat → Nat) (H : Heap) (locs : List Loc), WZ K A s H locs ((h0, .inr (10, [.ref q0, .ref q2, .ref q4, .ref q6, .ref q8, .ref q10, .ref q12, .ref q14, .ref q16, .ref q18, .null, .null, .int 0])) :: (old ++ wX9 K q18 q0 q8 q10 q12 q16 a18)) → W p l e { frames := 3, cells := 99, slots := 1001, locals := 64 * 3 } s m args below meth c H locs 57 602 Q (F0 m 170 ls [])) : W p l e { frames := 3, cells := 99, slots := 1001, locals := 64 * 3 } s m args below meth c H locs 56 597 Q (F0 m 139 ls []) := by
  obtain ⟨hx, hb, hml, hown, hts, hR, hK⟩ := id C
  refine lv_aload_n hx hb (show decode cX10_init 139 = .ok (.aload_n 0, 1) by decide +kernel) rfl (lv_at hl 0 rfl) ?_
  refine k_new (ci := 9) C hW (by decide) (gT2 (i := 45) (by decide +kernel) rfl) nI9 nZ9 (by decide) (by decide) (show decode cX10_init 140 = .ok (.new 76, 3) by decide +kernel) (fun q18 H hW => ?_)
  refine W.widen (k := 57) (n := 602) (by decide) (by decide) ?_
  refine lv_dup hx hb (show decode cX10_init 143 = .ok (.dup, 1) by decide +kernel) rfl ?_
  refine lv_aload_n hx hb (show decode cX10_init 144 = .ok (.aload_n 0, 1) by decide +kernel) rfl (lv_at hl 0 rfl) ?_
  replace hW : WZ K A s _ _ ((h0, .inr (10, [.ref q0, .ref q2, .ref q4, .ref q6, .ref q8, .ref q10, .ref q12, .ref q14, .ref q16, .null, .null, .null, .int 0])) :: (old ++ [(q18, .inr (9, dfl 9))])) := hW
  refine k_get C hW (ci := 10) (k := 0) (by decide +kernel) rfl (show decode cX10_init 145 = .ok (.getfield 10, 3) by decide +kernel) ?_
  refine lv_aload_n hx hb (show decode cX10_init 148 = .ok (.aload_n 0, 1) by decide +kernel) rfl (lv_at hl 0 rfl) ?_
  refine k_get C hW (ci := 10) (k := 4) (by decide +kernel) rfl (show decode cX10_init 149 = .ok (.getfield 40, 3) by decide +kernel) ?_
  refine lv_aload_n hx hb (show decode cX10_init 152 = .ok (.aload_n 0, 1) by decide +kernel) rfl (lv_at hl 0 rfl) ?_
  refine k_get C hW (ci := 10) (k := 5) (by decide +kernel) rfl (show decode cX10_init 153 = .ok (.getfield 49, 3) by decide +kernel) ?_
  refine lv_aload_n hx hb (show decode cX10_init 156 = .ok (.aload_n 0, 1) by decide +kernel) rfl (lv_at hl 0 rfl) ?_
  refine k_get C hW (ci := 10) (k := 6) (by decide +kernel) rfl (show decode cX10_init 157 = .ok (.getfield 56, 3) by decide +kernel) ?_
  refine lv_aload_n hx hb (show decode cX10_init 160 = .ok (.aload_n 0, 1) by decide +kernel) rfl (lv_at hl 0 rfl) ?_
  refine k_get C hW (ci := 10) (k := 8) (by decide +kernel) rfl (show decode cX10_init 161 = .ok (.getfield 72, 3) by decide +kernel) ?_
  replace hW : WZ K A s _ _ (((h0, .inr (10, [.ref q0, .ref q2, .ref q4, .ref q6, .ref q8, .ref q10, .ref q12, .ref q14, .ref q16, .null, .null, .null, .int 0])) :: old) ++ [(q18, .inr (9, dfl 9))]) := hW
  refine k_call C hW (as := [.ref q0, .ref q8, .ref q10, .ref q12, .ref q16]) (q := q18) (cX9 l K q0 q8 q10 q12 q16) kX9_init rfl rfl iX9_init (gT2 (i := 47) (by decide +kernel) rfl) (by decide) rfl hl.1 (Nat.le_of_ble_eq_true rfl) (by decide) (by decide) (show decode cX10_init 164 = .ok (.invokespecial 78, 3) by decide +kernel) rfl (fun w1 H locs hw1 hW => ?_)
  obtain ⟨a18, rfl⟩ := hw1
  refine W.widen (k := 57) (n := 602) (by decide) (by decide) ?_
  replace hW : WZ K A s _ _ ((h0, .inr (10, [.ref q0, .ref q2, .ref q4, .ref q6, .ref q8, .ref q10, .ref q12, .ref q14, .ref q16, .null, .null, .null, .int 0])) :: (old ++ wX9 K q18 q0 q8 q10 q12 q16 a18)) := hW
  refine k_putF C hin hW (ci := 10) (k := 9) (by decide +kernel) (Nat.le_of_ble_eq_true rfl) rfl rfl rfl rfl (show decode cX10_init 167 = .ok (.putfield 81, 3) by decide +kernel) (fun H locs hW => ?_)
  exact kk q18 a18 _ _ hW
theorem cX10_10 (h0 : Nat) (q0 : Nat) (q2 : Nat) (q4 : Nat) (q6 : Nat) (q8 : Nat) (q10 : Nat) (q12 : Nat) (q14 : Nat) (q16 : Nat) (q18 : Nat) (C : CK 3 mX10_init K p { frames := 3, cells := 99, slots := 1001, locals := 64 * 3 } s m args c) (hin : meth.name = "<init>") {old : va_W} (hl : lv_has ls 2 [(0, .ref h0)]) (hW : WZ K A s H locs ((h0, .inr (10, [.ref q0, .ref q2, .ref q4, .ref q6, .ref q8, .ref q10, .ref q12, .ref q14, .ref q16, .ref q18, .null, .null, .int 0])) :: old))
    (kk : ∀ (q20 : Nat) (H : Heap) (locs : List Loc), WZ K A s H locs ((h0, .inr (10, [.ref q0, .ref q2, .ref q4, .ref q6, .ref q8, .ref q10, .ref q12, .ref q14, .ref q16, .ref q18, .ref q20, .null, .int 0])) :: (old ++ [(q20, .inl (K.2.2.2.2, 8, .inr (.inr (.inr (.inr (fun _ => none))))))])) → W p l e { frames := 3, cells := 99, slots := 1001, locals := 64 * 3 } s m args below meth c H locs 58 610 Q (F0 m 179 ls [])) : W p l e { frames := 3, cells := 99, slots := 1001, locals := 64 * 3 } s m args below meth c H locs 57 602 Q (F0 m 170 ls []) := by
  obtain ⟨hx, hb, hml, hown, hts, hR, hK⟩ := id C
  refine lv_aload_n hx hb (show decode cX10_init 170 = .ok (.aload_n 0, 1) by decide +kernel) rfl (lv_at hl 0 rfl) ?_
  refine lv_bipush (v := n32 8) hx hb (show decode cX10_init 171 = .ok (.bipush 8, 2) by decide +kernel) (bip ⟨by decide, by decide⟩) ?_
  refine k_newr C hW (N := 8) ⟨by decide, by decide⟩ rfl (gT2 (i := 67) (by decide +kernel) rfl) (by decide) (by decide) (show decode cX10_init 173 = .ok (.anewarray 85, 3) by decide +kernel) (fun q20 H hW => ?_)
  refine W.widen (k := 58) (n := 610) (by decide) (by decide) ?_
  replace hW : WZ K A s _ _ ((h0, .inr (10, [.ref q0, .ref q2, .ref q4, .ref q6, .ref q8, .ref q10, .ref q12, .ref q14, .ref q16, .ref q18, .null, .null, .int 0])) :: (old ++ [(q20, .inl (K.2.2.2.2, 8, .inr (.inr (.inr (.inr (fun _ => none))))))])) := hW
  refine k_putF C hin hW (ci := 10) (k := 10) (by decide +kernel) (Nat.le_of_ble_eq_true rfl) rfl rfl rfl rfl (show decode cX10_init 176 = .ok (.putfield 87, 3) by decide +kernel) (fun H locs hW => ?_)
  exact kk q20 _ _ hW
theorem cX10_11 (h0 : Nat) (q0 : Nat) (q2 : Nat) (q4 : Nat) (q6 : Nat) (q8 : Nat) (q10 : Nat) (q12 : Nat) (q14 : Nat) (q16 : Nat) (q18 : Nat) (q20 : Nat) (C : CK 3 mX10_init K p { frames := 3, cells := 99, slots := 1001, locals := 64 * 3 } s m args c) (hin : meth.name = "<init>") {old : va_W} (hl : lv_has ls 2 [(0, .ref h0)]) (hW : WZ K A s H locs ((h0, .inr (10, [.ref q0, .ref q2, .ref q4, .ref q6, .ref q8, .ref q10, .ref q12, .ref q14, .ref q16, .ref q18, .ref q20, .null, .int 0])) :: old))
    (kk : ∀ (q21 : Nat) (H : Heap) (locs : List Loc), WZ K A s H locs ((h0, .inr (10, [.ref q0, .ref q2, .ref q4, .ref q6, .ref q8, .ref q10, .ref q12, .ref q14, .ref q16, .ref q18, .ref q20, .ref q21, .int 0])) :: (old ++ [(q21, .inl (K.2.1, 7, .inl (fun _ => 0)))])) → W p l e { frames := 3, cells := 99, slots := 1001, locals := 64 * 3 } s m args below meth c H locs 59 617 Q (F0 m 187 ls [])) : W p l e { frames := 3, cells := 99, slots := 1001, locals := 64 * 3 } s m args below meth c H locs 58 610 Q (F0 m 179 ls []) := by
  obtain ⟨hx, hb, hml, hown, hts, hR, hK⟩ := id C
  refine lv_aload_n hx hb (show decode cX10_init 179 = .ok (.aload_n 0, 1) by decide +kernel) rfl (lv_at hl 0 rfl) ?_
  refine lv_bipush (v := n32 7) hx hb (show decode cX10_init 180 = .ok (.bipush 7, 2) by decide +kernel) (bip ⟨by decide, by decide⟩) ?_
  refine k_newi C hW (N := 7) ⟨by decide, by decide⟩ rfl (by decide) (by decide) (show decode cX10_init 182 = .ok (.newarray .int, 2) by decide +kernel) (fun q21 H hW => ?_)
  refine W.widen (k := 59) (n := 617) (by decide) (by decide) ?_
  replace hW : WZ K A s _ _ ((h0, .inr (10, [.ref q0, .ref q2, .ref q4, .ref q6, .ref q8, .ref q10, .ref q12, .ref q14, .ref q16, .ref q18, .ref q20, .null, .int 0])) :: (old ++ [(q21, .inl (K.2.1, 7, .inl (fun _ => 0)))])) := hW
  refine k_putF C hin hW (ci := 10) (k := 11) (by decide +kernel) (Nat.le_of_ble_eq_true rfl) rfl rfl rfl rfl (show decode cX10_init 184 = .ok (.putfield 91, 3) by decide +kernel) (fun H locs hW => ?_)
  exact kk q21 _ _ hW
theorem kr_road (i : Nat) (h0 t0 t1 t2 ra : Nat) {f1 f2 f3 f6 f7 f8 f9 f11 f12 : Value} {f : Nat → Option Nat} {old tail : va_W} {cells slots : Nat} (hi : i < 8) (hc : cells + 5 ≤ 99) (hs : slots + 48 ≤ 1001) (C : CK 3 mX10_init K p { frames := 3, cells := 99, slots := 1001, locals := 64 * 3 } s m args c) (hl : lv_has ls 2 [(1, .int (n32 i)), (0, .ref h0)]) (hW : WZ K A s H locs ((h0, .inr (10, [.ref t0, f1, f2, f3, .ref t1, .ref t2, f6, f7, f8, f9, .ref ra, f11, f12])) :: (old ++ (ra, .inl (K.2.2.2.2, 8, .inr (.inr (.inr (.inr (f)))))) :: tail)))
    (kk : ∀ (q : Nat) (a : Nat → Nat) (H : Heap) (locs : List Loc) (ls : Array Slot), lv_has ls 2 [(1, .int (n32 ((i + 1 : Nat) : Int))), (0, .ref h0)] → WZ K A s H locs ((h0, .inr (10, [.ref t0, f1, f2, f3, .ref t1, .ref t2, f6, f7, f8, f9, .ref ra, f11, f12])) :: (old ++ (ra, .inl (K.2.2.2.2, 8, .inr (.inr (.inr (.inr (va_up f i (some q))))))) :: (tail ++ wX4 K q t0 t1 t2 a))) → W p l e { frames := 3, cells := 99, slots := 1001, locals := 64 * 3 } s m args below meth c H locs (cells + 5) (slots + 48) Q (F0 m 189 ls [])) : W p l e { frames := 3, cells := 99, slots := 1001, locals := 64 * 3 } s m args below meth c H locs cells slots Q (F0 m 189 ls []) := by
  obtain ⟨hx, hb, hml, hown, hts, hR, hK⟩ := id C
  have ri : inR (i : Int) := ⟨by omega, by omega⟩
  refine lv_iload_n hx hb (show decode cX10_init 189 = .ok (.iload_n 1, 1) by decide +kernel) rfl (lv_at hl 0 rfl) ?_
  refine lv_bipush (v := n32 8) hx hb (show decode cX10_init 190 = .ok (.bipush 8, 2) by decide +kernel) (bip ⟨by decide, by decide⟩) ?_
  refine lv_icmp_ge (tgt := 226) hx hb (show decode cX10_init 192 = .ok (.if_icmp .ge 34, 3) by decide +kernel) (by decide) (fun q => absurd ((n32_le ⟨by omega, by omega⟩ ri).mp q) (by omega)) (fun _ => ?_)
  refine lv_aload_n hx hb (show decode cX10_init 195 = .ok (.aload_n 0, 1) by decide +kernel) rfl (lv_at hl 1 rfl) ?_
  refine k_get C hW (ci := 10) (k := 10) (by decide +kernel) rfl (show decode cX10_init 196 = .ok (.getfield 87, 3) by decide +kernel) ?_
  refine lv_iload_n hx hb (show decode cX10_init 199 = .ok (.iload_n 1, 1) by decide +kernel) rfl (lv_at hl 0 rfl) ?_
  refine k_new (ci := 4) C hW (by decide) (gT2 (i := 67) (by decide +kernel) rfl) nI4 nZ4 (by show cells + 1 ≤ 99; omega) (by show slots + 8 ≤ 1001; omega) (show decode cX10_init 200 = .ok (.new 85, 3) by decide +kernel) (fun q H hW => ?_)
  refine lv_dup hx hb (show decode cX10_init 203 = .ok (.dup, 1) by decide +kernel) rfl ?_
  replace hW : WZ K A s _ _ ((h0, .inr (10, [.ref t0, f1, f2, f3, .ref t1, .ref t2, f6, f7, f8, f9, .ref ra, f11, f12])) :: ((old ++ (ra, .inl (K.2.2.2.2, 8, .inr (.inr (.inr (.inr (f)))))) :: tail) ++ [(q, .inr (4, dfl 4))])) := hW
  refine lv_aload_n hx hb (show decode cX10_init 204 = .ok (.aload_n 0, 1) by decide +kernel) rfl (lv_at hl 1 rfl) ?_
  refine k_get C hW (ci := 10) (k := 0) (by decide +kernel) rfl (show decode cX10_init 205 = .ok (.getfield 10, 3) by decide +kernel) ?_
  refine lv_aload_n hx hb (show decode cX10_init 208 = .ok (.aload_n 0, 1) by decide +kernel) rfl (lv_at hl 1 rfl) ?_
  refine k_get C hW (ci := 10) (k := 4) (by decide +kernel) rfl (show decode cX10_init 209 = .ok (.getfield 40, 3) by decide +kernel) ?_
  refine lv_aload_n hx hb (show decode cX10_init 212 = .ok (.aload_n 0, 1) by decide +kernel) rfl (lv_at hl 1 rfl) ?_
  refine k_get C hW (ci := 10) (k := 5) (by decide +kernel) rfl (show decode cX10_init 213 = .ok (.getfield 49, 3) by decide +kernel) ?_
  replace hW : WZ K A s _ _ (((h0, .inr (10, [.ref t0, f1, f2, f3, .ref t1, .ref t2, f6, f7, f8, f9, .ref ra, f11, f12])) :: (old ++ (ra, .inl (K.2.2.2.2, 8, .inr (.inr (.inr (.inr (f)))))) :: tail)) ++ [(q, .inr (4, dfl 4))]) := hW
  refine k_call C hW (as := [.ref t0, .ref t1, .ref t2]) (q := q) (cX4 l K t0 t1 t2) kX4_init rfl rfl iX4_init (gT2 (i := 70) (by decide +kernel) rfl) (by decide) rfl hl.1 (Nat.le_of_ble_eq_true rfl) (by show cells + 1 + 4 ≤ 99; omega) (by show slots + 8 + 40 ≤ 1001; omega) (show decode cX10_init 216 = .ok (.invokespecial 95, 3) by decide +kernel) rfl (fun w1 H locs hw1 hW => ?_)
  obtain ⟨a, rfl⟩ := hw1
  have e1 : ((h0, .inr (10, [.ref t0, f1, f2, f3, .ref t1, .ref t2, f6, f7, f8, f9, .ref ra, f11, f12])) :: (old ++ (ra, .inl (K.2.2.2.2, 8, .inr (.inr (.inr (.inr (f)))))) :: tail)) ++ wX4 K q t0 t1 t2 a = ((h0, .inr (10, [.ref t0, f1, f2, f3, .ref t1, .ref t2, f6, f7, f8, f9, .ref ra, f11, f12])) :: old) ++ (ra, .inl (K.2.2.2.2, 8, .inr (.inr (.inr (.inr (f)))))) :: (tail ++ wX4 K q t0 t1 t2 a) := by simp
  rw [e1] at hW
  have hv : (((h0, .inr (10, [.ref t0, f1, f2, f3, .ref t1, .ref t2, f6, f7, f8, f9, .ref ra, f11, f12])) :: old) ++ (ra, .inl (K.2.2.2.2, 8, .inr (.inr (.inr (.inr (f)))))) :: (tail ++ wX4 K q t0 t1 t2 a))[old.length + 2 + tail.length]? = some (q, .inr (4, [.ref t0, .ref t1, .ref t2, .ref (a 0), .ref (a 1), .ref (a 2), .ref (a 3), .int 0])) := by
    rw [List.getElem?_append_right (by simp only [List.length_cons]; omega)]
    rw [show old.length + 2 + tail.length - ((h0, .inr (10, [.ref t0, f1, f2, f3, .ref t1, .ref t2, f6, f7, f8, f9, .ref ra, f11, f12])) :: old).length = tail.length + 1 by simp only [List.length_cons]; omega, List.getElem?_cons_succ, List.getElem?_append_right (Nat.le_refl _), Nat.sub_self]
    rfl
  refine k_aas C hW (a := ra) (n := 8) (f := f) (q0 := old.length + 1) (qk := old.length + 2 + tail.length) (by simp) hv ⟨by omega, by omega⟩ (by omega) (show decode cX10_init 219 = .ok (.aastore, 1) by decide +kernel) (fun H locs hW => ?_)
  refine lv_iinc (k := 0) (v := n32 ((i + 1 : Nat) : Int)) hx hb (show decode cX10_init 220 = .ok (.iinc 1 1, 3) by decide +kernel) hl rfl (by rw [show Int32.ofInt 1 = n32 1 from rfl, n32_add, wrap_eq ⟨by omega, by omega⟩]; rfl) (by decide) rfl (fun ls hl => ?_)
  refine lv_goto (tgt := 189) hx hb (show decode cX10_init 223 = .ok (.goto (-34), 3) by decide +kernel) (by decide) ?_
  refine W.eq (g2 := F0 m 189 ls []) rfl ?_
  refine kk q a H locs ls hl ?_
  have e3 := hW
  simpa using e3
def wX10 (K : Kk) (h0 : Nat) (a : Nat → Nat) : va_W := (h0, .inr (10, [.ref (a 0), .ref (a 11), .ref (a 22), .ref (a 24), .ref (a 37), .ref (a 38), .ref (a 40), .ref (a 42), .ref (a 45), .ref (a 46), .ref (a 47), .ref (a 48), .int 0])) :: ((((((((((wX6 K (a 0) (fun n => a (1 + n)) ++ wX6 K (a 11) (fun n => a (12 + n))) ++ wX5 K (a 22) (fun n => a (23 + n))) ++ wX3 K (a 24) (a 22) (fun n => a (25 + n))) ++ wX7 K (a 37) (a 0) (fun n => a (38 + n))) ++ wX8 K (a 38) (a 0) (a 37) (fun n => a (39 + n))) ++ wX0 K (a 40) (a 0) (a 37) (fun n => a (41 + n))) ++ wX2 K (a 42) (a 0) (fun n => a (43 + n))) ++ wX1 K (a 45) (a 0) (a 38) (fun n => a (46 + n))) ++ wX9 K (a 46) (a 0) (a 37) (a 38) (a 40) (a 45) (fun n => a (47 + n))) ++ ((a 47), .inl (K.2.2.2.2, 8, .inr (.inr (.inr (.inr (va_up (va_up (va_up (va_up (va_up (va_up (va_up (va_up (fun _ => none) 0 (some (a 49))) 1 (some (a 54))) 2 (some (a 59))) 3 (some (a 64))) 4 (some (a 69))) 5 (some (a 74))) 6 (some (a 79))) 7 (some (a 84)))))))) :: (((((((([((a 48), .inl (K.2.1, 7, .inl (fun _ => 0)))] ++ wX4 K (a 49) (a 0) (a 37) (a 38) (fun n => a (50 + n))) ++ wX4 K (a 54) (a 0) (a 37) (a 38) (fun n => a (55 + n))) ++ wX4 K (a 59) (a 0) (a 37) (a 38) (fun n => a (60 + n))) ++ wX4 K (a 64) (a 0) (a 37) (a 38) (fun n => a (65 + n))) ++ wX4 K (a 69) (a 0) (a 37) (a 38) (fun n => a (70 + n))) ++ wX4 K (a 74) (a 0) (a 37) (a 38) (fun n => a (75 + n))) ++ wX4 K (a 79) (a 0) (a 37) (a 38) (fun n => a (80 + n))) ++ wX4 K (a 84) (a 0) (a 37) (a 38) (fun n => a (85 + n))))
set_option maxRecDepth 100000 in
theorem cX10 (l : Launch) (K : Kk) : Cn l K mX10_init 10 3 99 1001 [] (fun h0 w => ∃ a : Nat → Nat, w = wX10 K h0 a) := by
  refine toCn kX10_init.1 rfl rfl (fun _ => Nat.le_of_ble_eq_true rfl) (fun h0 p e s m args below meth c Q A C hin hW ls hl ret => ?_)
  obtain ⟨hx, hb, hml, hown, hts, hR, hK⟩ := id C
  replace hl : lv_has ls 2 [(0, .ref h0)] := hl
  replace hW : WZ K A s s.heap [] ((h0, .inr (10, [.null, .null, .null, .null, .null, .null, .null, .null, .null, .null, .null, .null, .int 0])) :: []) := hW
  refine cX10_0 h0 C hin hl hW (fun q0 a0 H locs hW => ?_)
  replace hW : WZ K A s H locs ((h0, .inr (10, [.ref q0, .null, .null, .null, .null, .null, .null, .null, .null, .null, .null, .null, .int 0])) :: wX6 K q0 a0) := hW
  refine cX10_1 h0 q0 C hin hl hW (fun q2 a2 H locs hW => ?_)
  refine cX10_2 h0 q0 q2 C hin hl hW (fun q4 a4 H locs hW => ?_)
  refine cX10_3 h0 q0 q2 q4 C hin hl hW (fun q6 a6 H locs hW => ?_)
  refine cX10_4 h0 q0 q2 q4 q6 C hin hl hW (fun q8 a8 H locs hW => ?_)
  refine cX10_5 h0 q0 q2 q4 q6 q8 C hin hl hW (fun q10 a10 H locs hW => ?_)
  refine cX10_6 h0 q0 q2 q4 q6 q8 q10 C hin hl hW (fun q12 a12 H locs hW => ?_)
  refine cX10_7 h0 q0 q2 q4 q6 q8 q10 q12 C hin hl hW (fun q14 a14 H locs hW => ?_)
  refine cX10_8 h0 q0 q2 q4 q6 q8 q10 q12 q14 C hin hl hW (fun q16 a16 H locs hW => ?_)
  refine cX10_9 h0 q0 q2 q4 q6 q8 q10 q12 q14 q16 C hin hl hW (fun q18 a18 H locs hW => ?_)
  refine cX10_10 h0 q0 q2 q4 q6 q8 q10 q12 q14 q16 q18 C hin hl hW (fun q20 H locs hW => ?_)
  refine cX10_11 h0 q0 q2 q4 q6 q8 q10 q12 q14 q16 q18 q20 C hin hl hW (fun q21 H locs hW => ?_)
  rw [app_mid] at hW
  refine lv_iconst (v := n32 0) hx hb (show decode cX10_init 187 = .ok (.iconst 0, 1) by decide +kernel) rfl ?_
  refine lv_istore_n hx hb (show decode cX10_init 188 = .ok (.istore_n 1, 1) by decide +kernel) rfl hl (by decide) rfl (fun ls hl => ?_)
  replace hl : lv_has ls 2 [(1, .int (n32 ((0 : Nat) : Int))), (0, .ref h0)] := hl
  refine kr_road 0 h0 q0 q8 q10 q20 (by decide) (by decide) (by decide) C hl hW (fun r0 b0 H locs ls hl hW => ?_)
  refine kr_road 1 h0 q0 q8 q10 q20 (by decide) (by decide) (by decide) C hl hW (fun r1 b1 H locs ls hl hW => ?_)
  refine kr_road 2 h0 q0 q8 q10 q20 (by decide) (by decide) (by decide) C hl hW (fun r2 b2 H locs ls hl hW => ?_)
  refine kr_road 3 h0 q0 q8 q10 q20 (by decide) (by decide) (by decide) C hl hW (fun r3 b3 H locs ls hl hW => ?_)
  refine kr_road 4 h0 q0 q8 q10 q20 (by decide) (by decide) (by decide) C hl hW (fun r4 b4 H locs ls hl hW => ?_)
  refine kr_road 5 h0 q0 q8 q10 q20 (by decide) (by decide) (by decide) C hl hW (fun r5 b5 H locs ls hl hW => ?_)
  refine kr_road 6 h0 q0 q8 q10 q20 (by decide) (by decide) (by decide) C hl hW (fun r6 b6 H locs ls hl hW => ?_)
  refine kr_road 7 h0 q0 q8 q10 q20 (by decide) (by decide) (by decide) C hl hW (fun r7 b7 H locs ls hl hW => ?_)
  refine lv_iload_n hx hb (show decode cX10_init 189 = .ok (.iload_n 1, 1) by decide +kernel) rfl (lv_at hl 0 rfl) ?_
  refine lv_bipush (v := n32 8) hx hb (show decode cX10_init 190 = .ok (.bipush 8, 2) by decide +kernel) (bip ⟨by decide, by decide⟩) ?_
  refine lv_icmp_ge (tgt := 226) hx hb (show decode cX10_init 192 = .ok (.if_icmp .ge 34, 3) by decide +kernel) (by decide) (fun _ => ?_) (fun q => absurd (by decide +kernel) q)
  exact ret _ _ _ _ 226 hW ⟨fun n => [q0, (a0 0), (a0 1), (a0 2), (a0 3), (a0 4), (a0 5), (a0 6), (a0 7), (a0 8), (a0 9), q2, (a2 0), (a2 1), (a2 2), (a2 3), (a2 4), (a2 5), (a2 6), (a2 7), (a2 8), (a2 9), q4, (a4 0), q6, (a6 0), (a6 1), (a6 2), (a6 3), (a6 4), (a6 5), (a6 6), (a6 7), (a6 8), (a6 9), (a6 10), (a6 11), q8, q10, (a10 0), q12, (a12 0), q14, (a14 0), (a14 1), q16, q18, q20, q21, r0, (b0 0), (b0 1), (b0 2), (b0 3), r1, (b1 0), (b1 1), (b1 2), (b1 3), r2, (b2 0), (b2 1), (b2 2), (b2 3), r3, (b3 0), (b3 1), (b3 2), (b3 3), r4, (b4 0), (b4 1), (b4 2), (b4 3), r5, (b5 0), (b5 1), (b5 2), (b5 3), r6, (b6 0), (b6 1), (b6 2), (b6 3), r7, (b7 0), (b7 1), (b7 2), (b7 3)].getD n 0, rfl⟩ (show decode cX10_init 226 = .ok (.return_, 1) by decide +kernel)
end Ctorx
