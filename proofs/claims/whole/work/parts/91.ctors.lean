/-! the constructors -/
abbrev mX0_init : Mt := (yX0_init, cX0_init, 3, none, 0)
theorem kX0_init : okMc mX0_init 2 := ⟨by decide +kernel, gT1 (i := 239) (by decide +kernel) rfl, gT1 (i := 7) (by decide +kernel) rfl, ⟨by decide +kernel, by decide +kernel⟩, by decide +kernel, by decide⟩
theorem iX0_init : Cond.instanceMethod mX0_init.1 ∈ gTbl := gT1 (i := 238) (by decide +kernel) rfl
abbrev mX1_init : Mt := (yX1_init, cX1_init, 3, none, 1)
theorem kX1_init : okMc mX1_init 2 := ⟨by decide +kernel, gT2 (i := 33) (by decide +kernel) rfl, gT1 (i := 9) (by decide +kernel) rfl, ⟨by decide +kernel, by decide +kernel⟩, by decide +kernel, by decide⟩
theorem iX1_init : Cond.instanceMethod mX1_init.1 ∈ gTbl := gT2 (i := 32) (by decide +kernel) rfl
abbrev mX2_init : Mt := (yX2_init, cX2_init, 2, none, 2)
theorem kX2_init : okMc mX2_init 1 := ⟨by decide +kernel, gT2 (i := 17) (by decide +kernel) rfl, gT1 (i := 8) (by decide +kernel) rfl, ⟨by decide +kernel, by decide +kernel⟩, by decide +kernel, by decide⟩
theorem iX2_init : Cond.instanceMethod mX2_init.1 ∈ gTbl := gT2 (i := 16) (by decide +kernel) rfl
abbrev mX3_init : Mt := (yX3_init, cX3_init, 2, none, 3)
theorem kX3_init : okMc mX3_init 1 := ⟨by decide +kernel, gT1 (i := 153) (by decide +kernel) rfl, gT1 (i := 4) (by decide +kernel) rfl, ⟨by decide +kernel, by decide +kernel⟩, by decide +kernel, by decide⟩
theorem iX3_init : Cond.instanceMethod mX3_init.1 ∈ gTbl := gT1 (i := 152) (by decide +kernel) rfl
abbrev mX4_init : Mt := (yX4_init, cX4_init, 4, none, 4)
theorem kX4_init : okMc mX4_init 3 := ⟨by decide +kernel, gT2 (i := 72) (by decide +kernel) rfl, gT1 (i := 11) (by decide +kernel) rfl, ⟨by decide +kernel, by decide +kernel⟩, by decide +kernel, by decide⟩
theorem iX4_init : Cond.instanceMethod mX4_init.1 ∈ gTbl := gT2 (i := 71) (by decide +kernel) rfl
abbrev mX5_init : Mt := (yX5_init, cX5_init, 1, none, 5)
theorem kX5_init : okMc mX5_init 0 := ⟨by decide +kernel, gT1 (i := 138) (by decide +kernel) rfl, gT1 (i := 3) (by decide +kernel) rfl, ⟨by decide +kernel, by decide +kernel⟩, by decide +kernel, by decide⟩
theorem iX5_init : Cond.instanceMethod mX5_init.1 ∈ gTbl := gT1 (i := 137) (by decide +kernel) rfl
abbrev mX6_init : Mt := (yX6_init, cX6_init, 1, none, 6)
theorem kX6_init : okMc mX6_init 0 := ⟨by decide +kernel, gT1 (i := 29) (by decide +kernel) rfl, gT1 (i := 2) (by decide +kernel) rfl, ⟨by decide +kernel, by decide +kernel⟩, by decide +kernel, by decide⟩
theorem iX6_init : Cond.instanceMethod mX6_init.1 ∈ gTbl := gT1 (i := 28) (by decide +kernel) rfl
abbrev mX7_init : Mt := (yX7_init, cX7_init, 2, none, 7)
theorem kX7_init : okMc mX7_init 1 := ⟨by decide +kernel, gT1 (i := 183) (by decide +kernel) rfl, gT1 (i := 5) (by decide +kernel) rfl, ⟨by decide +kernel, by decide +kernel⟩, by decide +kernel, by decide⟩
theorem iX7_init : Cond.instanceMethod mX7_init.1 ∈ gTbl := gT1 (i := 182) (by decide +kernel) rfl
abbrev mX8_init : Mt := (yX8_init, cX8_init, 3, none, 8)
theorem kX8_init : okMc mX8_init 2 := ⟨by decide +kernel, gT1 (i := 220) (by decide +kernel) rfl, gT1 (i := 6) (by decide +kernel) rfl, ⟨by decide +kernel, by decide +kernel⟩, by decide +kernel, by decide⟩
theorem iX8_init : Cond.instanceMethod mX8_init.1 ∈ gTbl := gT1 (i := 219) (by decide +kernel) rfl
abbrev mX9_init : Mt := (yX9_init, cX9_init, 6, none, 9)
theorem kX9_init : okMc mX9_init 5 := ⟨by decide +kernel, gT2 (i := 49) (by decide +kernel) rfl, gT1 (i := 10) (by decide +kernel) rfl, ⟨by decide +kernel, by decide +kernel⟩, by decide +kernel, by decide⟩
theorem iX9_init : Cond.instanceMethod mX9_init.1 ∈ gTbl := gT2 (i := 48) (by decide +kernel) rfl
abbrev mX10_init : Mt := (yX10_init, cX10_init, 2, none, 10)
theorem kX10_init : okMc mX10_init 0 := ⟨by decide +kernel, gT1 (i := 21) (by decide +kernel) rfl, gT1 (i := 1) (by decide +kernel) rfl, ⟨by decide +kernel, by decide +kernel⟩, by decide +kernel, by decide⟩
theorem iX10_init : Cond.instanceMethod mX10_init.1 ∈ gTbl := gT1 (i := 20) (by decide +kernel) rfl
abbrev mX11_init : Mt := (yX11_init, cX11_init, 1, none, 11)
theorem kX11_init : okMc mX11_init 0 := ⟨by decide +kernel, gT4 (i := 172) (by decide +kernel) rfl, gT1 (i := 12) (by decide +kernel) rfl, ⟨by decide +kernel, by decide +kernel⟩, by decide +kernel, by decide⟩
theorem iX11_init : Cond.instanceMethod mX11_init.1 ∈ gTbl := gT4 (i := 171) (by decide +kernel) rfl
theorem oI_in : Cond.instanceMethod Lib.objectInit ∈ gTbl := gT1 (i := 23) (by decide +kernel) rfl
theorem oI_co : Cond.code Lib.objectInit ⟨#[0xb1]⟩ 1 none ∈ gTbl := gT1 (i := 24) (by decide +kernel) rfl
theorem nI0 : Cond.instantiable (clsT 0).1 (clsT 0).2.2 ∈ gTbl := gT1 (i := 236) (by decide +kernel) rfl
theorem nZ0 : Cond.initialized (clsT 0).1 ∈ gTbl := gT1 (i := 7) (by decide +kernel) rfl
theorem nI1 : Cond.instantiable (clsT 1).1 (clsT 1).2.2 ∈ gTbl := gT2 (i := 30) (by decide +kernel) rfl
theorem nZ1 : Cond.initialized (clsT 1).1 ∈ gTbl := gT1 (i := 9) (by decide +kernel) rfl
theorem nI2 : Cond.instantiable (clsT 2).1 (clsT 2).2.2 ∈ gTbl := gT2 (i := 14) (by decide +kernel) rfl
theorem nZ2 : Cond.initialized (clsT 2).1 ∈ gTbl := gT1 (i := 8) (by decide +kernel) rfl
theorem nI3 : Cond.instantiable (clsT 3).1 (clsT 3).2.2 ∈ gTbl := gT1 (i := 150) (by decide +kernel) rfl
theorem nZ3 : Cond.initialized (clsT 3).1 ∈ gTbl := gT1 (i := 4) (by decide +kernel) rfl
theorem nI4 : Cond.instantiable (clsT 4).1 (clsT 4).2.2 ∈ gTbl := gT2 (i := 69) (by decide +kernel) rfl
theorem nZ4 : Cond.initialized (clsT 4).1 ∈ gTbl := gT1 (i := 11) (by decide +kernel) rfl
theorem nI5 : Cond.instantiable (clsT 5).1 (clsT 5).2.2 ∈ gTbl := gT1 (i := 135) (by decide +kernel) rfl
theorem nZ5 : Cond.initialized (clsT 5).1 ∈ gTbl := gT1 (i := 3) (by decide +kernel) rfl
theorem nI6 : Cond.instantiable (clsT 6).1 (clsT 6).2.2 ∈ gTbl := gT1 (i := 26) (by decide +kernel) rfl
theorem nZ6 : Cond.initialized (clsT 6).1 ∈ gTbl := gT1 (i := 2) (by decide +kernel) rfl
theorem nI7 : Cond.instantiable (clsT 7).1 (clsT 7).2.2 ∈ gTbl := gT1 (i := 180) (by decide +kernel) rfl
theorem nZ7 : Cond.initialized (clsT 7).1 ∈ gTbl := gT1 (i := 5) (by decide +kernel) rfl
theorem nI8 : Cond.instantiable (clsT 8).1 (clsT 8).2.2 ∈ gTbl := gT1 (i := 217) (by decide +kernel) rfl
theorem nZ8 : Cond.initialized (clsT 8).1 ∈ gTbl := gT1 (i := 6) (by decide +kernel) rfl
theorem nI9 : Cond.instantiable (clsT 9).1 (clsT 9).2.2 ∈ gTbl := gT2 (i := 46) (by decide +kernel) rfl
theorem nZ9 : Cond.initialized (clsT 9).1 ∈ gTbl := gT1 (i := 10) (by decide +kernel) rfl
theorem nI10 : Cond.instantiable (clsT 10).1 (clsT 10).2.2 ∈ gTbl := gT1 (i := 18) (by decide +kernel) rfl
theorem nZ10 : Cond.initialized (clsT 10).1 ∈ gTbl := gT1 (i := 1) (by decide +kernel) rfl
theorem nI11 : Cond.instantiable (clsT 11).1 (clsT 11).2.2 ∈ gTbl := gT4 (i := 169) (by decide +kernel) rfl
theorem nZ11 : Cond.initialized (clsT 11).1 ∈ gTbl := gT1 (i := 12) (by decide +kernel) rfl
section Ctors
variable {p : Program} {l : Launch} {e : Env} {s : State} {m : MethodId} {args : Array Value} {below : List Frame} {meth : Method} {c : Code} {H : Heap} {locs : List Loc} {Q : State → Prop}
variable {ls : Array Slot} {A : Nat → Prop} {K : Kk}
theorem k_iasl {M : Mt} {d : Nat} {R : Room} {cells slots pc : Nat} {rest : List Value} {ws : va_W} (C : CK d M K p R s m args c) {a n : Nat} {f : Nat → Int32} (hW : WZ K A s H locs (ws ++ [(a, .inl (K.2.1, n, .inl f))])) {i x : Int} (hi : 0 ≤ i ∧ i < (n : Int)) (hi2 : i ≤ 1000) (hd : decode M.2.1 pc = .ok (.iastore, 1))
    (kk : ∀ (H1 : Heap) (locs1 : List Loc), WZ K A s H1 locs1 (ws ++ [(a, .inl (K.2.1, n, .inl (upd f i.toNat (n32 x))))]) → W p l e R s m args below meth c H1 locs1 cells slots Q (F0 m (pc + 1) ls rest)) : W p l e R s m args below meth c H locs cells slots Q (F0 m pc ls (.int (n32 x) :: .int (n32 i) :: .ref a :: rest)) :=
  k_ias C hW (a := a) (n := n) (f := f) (q0 := ws.length) (by simp) hi hi2 hd (fun H1 locs1 hW1 => kk H1 locs1 (by simpa using hW1))
theorem k_iasm {M : Mt} {d : Nat} {R : Room} {cells slots pc : Nat} {rest : List Value} {z : Nat × va_E} {o1 o2 : va_W} (C : CK d M K p R s m args c) {a n : Nat} {f : Nat → Int32} (hW : WZ K A s H locs (z :: (o1 ++ (a, .inl (K.2.1, n, .inl f)) :: o2))) {i x : Int} (hi : 0 ≤ i ∧ i < (n : Int)) (hi2 : i ≤ 1000) (hd : decode M.2.1 pc = .ok (.iastore, 1))
    (kk : ∀ (H1 : Heap) (locs1 : List Loc), WZ K A s H1 locs1 (z :: (o1 ++ (a, .inl (K.2.1, n, .inl (upd f i.toNat (n32 x)))) :: o2)) → W p l e R s m args below meth c H1 locs1 cells slots Q (F0 m (pc + 1) ls rest)) : W p l e R s m args below meth c H locs cells slots Q (F0 m pc ls (.int (n32 x) :: .int (n32 i) :: .ref a :: rest)) :=
  k_ias C hW (a := a) (n := n) (f := f) (q0 := o1.length + 1) (by simp) hi hi2 hd (fun H1 locs1 hW1 => kk H1 locs1 (by simpa using hW1))
theorem app_mid {o : va_W} {x y z : Nat × va_E} : z :: ((o ++ [x]) ++ [y]) = z :: (o ++ x :: [y]) := by simp

theorem cX7_0 (h0 : Nat) (p0 : Nat) (C : CK 1 mX7_init K p { frames := 1, cells := 0, slots := 0, locals := 64 * 1 } s m args c) (hin : meth.name = "<init>") {old : va_W} (hl : lv_has ls 2 [(0, .ref h0), (1, .ref p0)]) (hW : WZ K A s H locs ((h0, .inr (7, [.null, .int 0, .int 0, .int 0, .int 0, .int 0, .int 0, .int 0, .int 0, .int 0])) :: old))
    (kk : ∀ (H : Heap) (locs : List Loc), WZ K A s H locs ((h0, .inr (7, [.ref p0, .int 0, .int 0, .int 0, .int 0, .int 0, .int 0, .int 0, .int 0, .int 0])) :: old) → W p l e { frames := 1, cells := 0, slots := 0, locals := 64 * 1 } s m args below meth c H locs 0 0 Q (F0 m 9 ls [])) : W p l e { frames := 1, cells := 0, slots := 0, locals := 64 * 1 } s m args below meth c H locs 0 0 Q (F0 m 0 ls []) := by
  obtain ⟨hx, hb, hml, hown, hts, hR, hK⟩ := id C
  refine lv_aload_n hx hb (show decode cX7_init 0 = .ok (.aload_n 0, 1) by decide +kernel) rfl (lv_at hl 0 rfl) ?_
  refine k_obj C (gT1 (i := 184) (by decide +kernel) rfl) oI_in oI_co (by decide) hl.1 (show decode cX7_init 1 = .ok (.invokespecial 3, 3) by decide +kernel) ?_
  refine lv_aload_n hx hb (show decode cX7_init 4 = .ok (.aload_n 0, 1) by decide +kernel) rfl (lv_at hl 0 rfl) ?_
  refine lv_aload_n hx hb (show decode cX7_init 5 = .ok (.aload_n 1, 1) by decide +kernel) rfl (lv_at hl 1 rfl) ?_
  refine k_putF C hin hW (ci := 7) (k := 0) (by decide +kernel) (Nat.le_of_ble_eq_true rfl) rfl rfl rfl rfl (show decode cX7_init 6 = .ok (.putfield 9, 3) by decide +kernel) (fun H locs hW => ?_)
  exact kk _ _ hW
def wX7 (K : Kk) (h0 p0 : Nat) (a : Nat → Nat) : va_W := (h0, .inr (7, [.ref p0, .int 0, .int 0, .int 0, .int 0, .int 0, .int 0, .int 0, .int 0, .int 0])) :: []
set_option maxRecDepth 100000 in
theorem cX7 (l : Launch) (K : Kk) (p0 : Nat) : Cn l K mX7_init 7 1 0 0 [.ref p0] (fun h0 w => ∃ a : Nat → Nat, w = wX7 K h0 p0 a) := by
  refine toCn kX7_init.1 rfl rfl (fun _ => Nat.le_of_ble_eq_true rfl) (fun h0 p e s m args below meth c Q A C hin hW ls hl ret => ?_)
  obtain ⟨hx, hb, hml, hown, hts, hR, hK⟩ := id C
  replace hl : lv_has ls 2 [(0, .ref h0), (1, .ref p0)] := hl
  replace hW : WZ K A s s.heap [] ((h0, .inr (7, [.null, .int 0, .int 0, .int 0, .int 0, .int 0, .int 0, .int 0, .int 0, .int 0])) :: []) := hW
  refine cX7_0 h0 p0 C hin hl hW (fun  H locs hW => ?_)
  exact ret _ _ _ _ 9 hW ⟨fun n => [].getD n 0, rfl⟩ (show decode cX7_init 9 = .ok (.return_, 1) by decide +kernel)
theorem cX5_0 (h0 : Nat) (C : CK 1 mX5_init K p { frames := 1, cells := 1, slots := 64, locals := 64 * 1 } s m args c) (hin : meth.name = "<init>") {old : va_W} (hl : lv_has ls 1 [(0, .ref h0)]) (hW : WZ K A s H locs ((h0, .inr (5, [.null, .int 0])) :: old))
    (kk : ∀ (q0 : Nat) (H : Heap) (locs : List Loc), WZ K A s H locs ((h0, .inr (5, [.ref q0, .int 0])) :: (old ++ [(q0, .inl (K.2.1, 64, .inl (fun _ => 0)))])) → W p l e { frames := 1, cells := 1, slots := 64, locals := 64 * 1 } s m args below meth c H locs 1 64 Q (F0 m 12 ls [])) : W p l e { frames := 1, cells := 1, slots := 64, locals := 64 * 1 } s m args below meth c H locs 0 0 Q (F0 m 0 ls []) := by
  obtain ⟨hx, hb, hml, hown, hts, hR, hK⟩ := id C
  refine lv_aload_n hx hb (show decode cX5_init 0 = .ok (.aload_n 0, 1) by decide +kernel) rfl (lv_at hl 0 rfl) ?_
  refine k_obj C (gT1 (i := 139) (by decide +kernel) rfl) oI_in oI_co (by decide) hl.1 (show decode cX5_init 1 = .ok (.invokespecial 3, 3) by decide +kernel) ?_
  refine lv_aload_n hx hb (show decode cX5_init 4 = .ok (.aload_n 0, 1) by decide +kernel) rfl (lv_at hl 0 rfl) ?_
  refine lv_bipush (v := n32 64) hx hb (show decode cX5_init 5 = .ok (.bipush 64, 2) by decide +kernel) (bip ⟨by decide, by decide⟩) ?_
  refine k_newi C hW (N := 64) ⟨by decide, by decide⟩ rfl (by decide) (by decide) (show decode cX5_init 7 = .ok (.newarray .int, 2) by decide +kernel) (fun q0 H hW => ?_)
  refine W.widen (k := 1) (n := 64) (by decide) (by decide) ?_
  replace hW : WZ K A s _ _ ((h0, .inr (5, [.null, .int 0])) :: (old ++ [(q0, .inl (K.2.1, 64, .inl (fun _ => 0)))])) := hW
  refine k_putF C hin hW (ci := 5) (k := 0) (by decide +kernel) (Nat.le_of_ble_eq_true rfl) rfl rfl rfl rfl (show decode cX5_init 9 = .ok (.putfield 9, 3) by decide +kernel) (fun H locs hW => ?_)
  exact kk q0 _ _ hW
def wX5 (K : Kk) (h0 : Nat) (a : Nat → Nat) : va_W := (h0, .inr (5, [.ref (a 0), .int 0])) :: [((a 0), .inl (K.2.1, 64, .inl (fun _ => 0)))]
set_option maxRecDepth 100000 in
theorem cX5 (l : Launch) (K : Kk) : Cn l K mX5_init 5 1 1 64 [] (fun h0 w => ∃ a : Nat → Nat, w = wX5 K h0 a) := by
  refine toCn kX5_init.1 rfl rfl (fun _ => Nat.le_of_ble_eq_true rfl) (fun h0 p e s m args below meth c Q A C hin hW ls hl ret => ?_)
  obtain ⟨hx, hb, hml, hown, hts, hR, hK⟩ := id C
  replace hl : lv_has ls 1 [(0, .ref h0)] := hl
  replace hW : WZ K A s s.heap [] ((h0, .inr (5, [.null, .int 0])) :: []) := hW
  refine cX5_0 h0 C hin hl hW (fun q0 H locs hW => ?_)
  replace hW : WZ K A s H locs ((h0, .inr (5, [.ref q0, .int 0])) :: [(q0, .inl (K.2.1, 64, .inl (fun _ => 0)))]) := hW
  exact ret _ _ _ _ 12 hW ⟨fun n => [q0].getD n 0, rfl⟩ (show decode cX5_init 12 = .ok (.return_, 1) by decide +kernel)
theorem cX6_0 (h0 : Nat) (C : CK 1 mX6_init K p { frames := 1, cells := 10, slots := 102, locals := 64 * 1 } s m args c) (hin : meth.name = "<init>") {old : va_W} (hl : lv_has ls 1 [(0, .ref h0)]) (hW : WZ K A s H locs ((h0, .inr (6, [.int 0, .int 0, .int 0, .int 0, .int 0, .int 0, .int 0, .null, .null, .null, .null, .null, .null, .null, .null, .null, .null])) :: old))
    (kk : ∀ (H : Heap) (locs : List Loc), WZ K A s H locs ((h0, .inr (6, [.int (n32 4), .int 0, .int 0, .int 0, .int 0, .int 0, .int 0, .null, .null, .null, .null, .null, .null, .null, .null, .null, .null])) :: old) → W p l e { frames := 1, cells := 10, slots := 102, locals := 64 * 1 } s m args below meth c H locs 0 0 Q (F0 m 9 ls [])) : W p l e { frames := 1, cells := 10, slots := 102, locals := 64 * 1 } s m args below meth c H locs 0 0 Q (F0 m 0 ls []) := by
  obtain ⟨hx, hb, hml, hown, hts, hR, hK⟩ := id C
  refine lv_aload_n hx hb (show decode cX6_init 0 = .ok (.aload_n 0, 1) by decide +kernel) rfl (lv_at hl 0 rfl) ?_
  refine k_obj C (gT1 (i := 30) (by decide +kernel) rfl) oI_in oI_co (by decide) hl.1 (show decode cX6_init 1 = .ok (.invokespecial 3, 3) by decide +kernel) ?_
  refine lv_aload_n hx hb (show decode cX6_init 4 = .ok (.aload_n 0, 1) by decide +kernel) rfl (lv_at hl 0 rfl) ?_
  refine lv_iconst (v := n32 4) hx hb (show decode cX6_init 5 = .ok (.iconst 4, 1) by decide +kernel) rfl ?_
  refine k_put C hW (ci := 6) (k := 0) (by decide +kernel) (Nat.le_of_ble_eq_true rfl) rfl rfl rfl (show decode cX6_init 6 = .ok (.putfield 9, 3) by decide +kernel) (fun H locs hW => ?_)
  exact kk _ _ hW
theorem cX6_1 (h0 : Nat) (C : CK 1 mX6_init K p { frames := 1, cells := 10, slots := 102, locals := 64 * 1 } s m args c) (hin : meth.name = "<init>") {old : va_W} (hl : lv_has ls 1 [(0, .ref h0)]) (hW : WZ K A s H locs ((h0, .inr (6, [.int (n32 4), .int 0, .int 0, .int 0, .int 0, .int 0, .int 0, .null, .null, .null, .null, .null, .null, .null, .null, .null, .null])) :: old))
    (kk : ∀ (q0 : Nat) (H : Heap) (locs : List Loc), WZ K A s H locs ((h0, .inr (6, [.int (n32 4), .int 0, .int 0, .int 0, .int 0, .int 0, .int 0, .ref q0, .null, .null, .null, .null, .null, .null, .null, .null, .null])) :: (old ++ [(q0, .inl (K.2.1, 14, .inl (fun _ => 0)))])) → W p l e { frames := 1, cells := 10, slots := 102, locals := 64 * 1 } s m args below meth c H locs 1 14 Q (F0 m 17 ls [])) : W p l e { frames := 1, cells := 10, slots := 102, locals := 64 * 1 } s m args below meth c H locs 0 0 Q (F0 m 9 ls []) := by
  obtain ⟨hx, hb, hml, hown, hts, hR, hK⟩ := id C
  refine lv_aload_n hx hb (show decode cX6_init 9 = .ok (.aload_n 0, 1) by decide +kernel) rfl (lv_at hl 0 rfl) ?_
  refine lv_bipush (v := n32 14) hx hb (show decode cX6_init 10 = .ok (.bipush 14, 2) by decide +kernel) (bip ⟨by decide, by decide⟩) ?_
  refine k_newi C hW (N := 14) ⟨by decide, by decide⟩ rfl (by decide) (by decide) (show decode cX6_init 12 = .ok (.newarray .int, 2) by decide +kernel) (fun q0 H hW => ?_)
  refine W.widen (k := 1) (n := 14) (by decide) (by decide) ?_
  replace hW : WZ K A s _ _ ((h0, .inr (6, [.int (n32 4), .int 0, .int 0, .int 0, .int 0, .int 0, .int 0, .null, .null, .null, .null, .null, .null, .null, .null, .null, .null])) :: (old ++ [(q0, .inl (K.2.1, 14, .inl (fun _ => 0)))])) := hW
  refine k_putF C hin hW (ci := 6) (k := 7) (by decide +kernel) (Nat.le_of_ble_eq_true rfl) rfl rfl rfl rfl (show decode cX6_init 14 = .ok (.putfield 15, 3) by decide +kernel) (fun H locs hW => ?_)
  exact kk q0 _ _ hW
theorem cX6_2 (h0 : Nat) (q0 : Nat) (C : CK 1 mX6_init K p { frames := 1, cells := 10, slots := 102, locals := 64 * 1 } s m args c) (hin : meth.name = "<init>") {old : va_W} (hl : lv_has ls 1 [(0, .ref h0)]) (hW : WZ K A s H locs ((h0, .inr (6, [.int (n32 4), .int 0, .int 0, .int 0, .int 0, .int 0, .int 0, .ref q0, .null, .null, .null, .null, .null, .null, .null, .null, .null])) :: old))
    (kk : ∀ (q1 : Nat) (H : Heap) (locs : List Loc), WZ K A s H locs ((h0, .inr (6, [.int (n32 4), .int 0, .int 0, .int 0, .int 0, .int 0, .int 0, .ref q0, .ref q1, .null, .null, .null, .null, .null, .null, .null, .null])) :: (old ++ [(q1, .inl (K.2.1, 14, .inl (fun _ => 0)))])) → W p l e { frames := 1, cells := 10, slots := 102, locals := 64 * 1 } s m args below meth c H locs 2 28 Q (F0 m 25 ls [])) : W p l e { frames := 1, cells := 10, slots := 102, locals := 64 * 1 } s m args below meth c H locs 1 14 Q (F0 m 17 ls []) := by
  obtain ⟨hx, hb, hml, hown, hts, hR, hK⟩ := id C
  refine lv_aload_n hx hb (show decode cX6_init 17 = .ok (.aload_n 0, 1) by decide +kernel) rfl (lv_at hl 0 rfl) ?_
  refine lv_bipush (v := n32 14) hx hb (show decode cX6_init 18 = .ok (.bipush 14, 2) by decide +kernel) (bip ⟨by decide, by decide⟩) ?_
  refine k_newi C hW (N := 14) ⟨by decide, by decide⟩ rfl (by decide) (by decide) (show decode cX6_init 20 = .ok (.newarray .int, 2) by decide +kernel) (fun q1 H hW => ?_)
  refine W.widen (k := 2) (n := 28) (by decide) (by decide) ?_
  replace hW : WZ K A s _ _ ((h0, .inr (6, [.int (n32 4), .int 0, .int 0, .int 0, .int 0, .int 0, .int 0, .ref q0, .null, .null, .null, .null, .null, .null, .null, .null, .null])) :: (old ++ [(q1, .inl (K.2.1, 14, .inl (fun _ => 0)))])) := hW
  refine k_putF C hin hW (ci := 6) (k := 8) (by decide +kernel) (Nat.le_of_ble_eq_true rfl) rfl rfl rfl rfl (show decode cX6_init 22 = .ok (.putfield 19, 3) by decide +kernel) (fun H locs hW => ?_)
  exact kk q1 _ _ hW
theorem cX6_3 (h0 : Nat) (q0 : Nat) (q1 : Nat) (C : CK 1 mX6_init K p { frames := 1, cells := 10, slots := 102, locals := 64 * 1 } s m args c) (hin : meth.name = "<init>") {old : va_W} (hl : lv_has ls 1 [(0, .ref h0)]) (hW : WZ K A s H locs ((h0, .inr (6, [.int (n32 4), .int 0, .int 0, .int 0, .int 0, .int 0, .int 0, .ref q0, .ref q1, .null, .null, .null, .null, .null, .null, .null, .null])) :: old))
    (kk : ∀ (q2 : Nat) (H : Heap) (locs : List Loc), WZ K A s H locs ((h0, .inr (6, [.int (n32 4), .int 0, .int 0, .int 0, .int 0, .int 0, .int 0, .ref q0, .ref q1, .ref q2, .null, .null, .null, .null, .null, .null, .null])) :: (old ++ [(q2, .inl (K.2.1, 14, .inl (fun _ => 0)))])) → W p l e { frames := 1, cells := 10, slots := 102, locals := 64 * 1 } s m args below meth c H locs 3 42 Q (F0 m 33 ls [])) : W p l e { frames := 1, cells := 10, slots := 102, locals := 64 * 1 } s m args below meth c H locs 2 28 Q (F0 m 25 ls []) := by
  obtain ⟨hx, hb, hml, hown, hts, hR, hK⟩ := id C
  refine lv_aload_n hx hb (show decode cX6_init 25 = .ok (.aload_n 0, 1) by decide +kernel) rfl (lv_at hl 0 rfl) ?_
  refine lv_bipush (v := n32 14) hx hb (show decode cX6_init 26 = .ok (.bipush 14, 2) by decide +kernel) (bip ⟨by decide, by decide⟩) ?_
  refine k_newi C hW (N := 14) ⟨by decide, by decide⟩ rfl (by decide) (by decide) (show decode cX6_init 28 = .ok (.newarray .int, 2) by decide +kernel) (fun q2 H hW => ?_)
  refine W.widen (k := 3) (n := 42) (by decide) (by decide) ?_
  replace hW : WZ K A s _ _ ((h0, .inr (6, [.int (n32 4), .int 0, .int 0, .int 0, .int 0, .int 0, .int 0, .ref q0, .ref q1, .null, .null, .null, .null, .null, .null, .null, .null])) :: (old ++ [(q2, .inl (K.2.1, 14, .inl (fun _ => 0)))])) := hW
  refine k_putF C hin hW (ci := 6) (k := 9) (by decide +kernel) (Nat.le_of_ble_eq_true rfl) rfl rfl rfl rfl (show decode cX6_init 30 = .ok (.putfield 22, 3) by decide +kernel) (fun H locs hW => ?_)
  exact kk q2 _ _ hW
theorem cX6_4 (h0 : Nat) (q0 : Nat) (q1 : Nat) (q2 : Nat) (C : CK 1 mX6_init K p { frames := 1, cells := 10, slots := 102, locals := 64 * 1 } s m args c) (hin : meth.name = "<init>") {old : va_W} (hl : lv_has ls 1 [(0, .ref h0)]) (hW : WZ K A s H locs ((h0, .inr (6, [.int (n32 4), .int 0, .int 0, .int 0, .int 0, .int 0, .int 0, .ref q0, .ref q1, .ref q2, .null, .null, .null, .null, .null, .null, .null])) :: old))
    (kk : ∀ (q3 : Nat) (H : Heap) (locs : List Loc), WZ K A s H locs ((h0, .inr (6, [.int (n32 4), .int 0, .int 0, .int 0, .int 0, .int 0, .int 0, .ref q0, .ref q1, .ref q2, .ref q3, .null, .null, .null, .null, .null, .null])) :: (old ++ [(q3, .inl (K.2.1, 14, .inl (fun _ => 0)))])) → W p l e { frames := 1, cells := 10, slots := 102, locals := 64 * 1 } s m args below meth c H locs 4 56 Q (F0 m 41 ls [])) : W p l e { frames := 1, cells := 10, slots := 102, locals := 64 * 1 } s m args below meth c H locs 3 42 Q (F0 m 33 ls []) := by
  obtain ⟨hx, hb, hml, hown, hts, hR, hK⟩ := id C
  refine lv_aload_n hx hb (show decode cX6_init 33 = .ok (.aload_n 0, 1) by decide +kernel) rfl (lv_at hl 0 rfl) ?_
  refine lv_bipush (v := n32 14) hx hb (show decode cX6_init 34 = .ok (.bipush 14, 2) by decide +kernel) (bip ⟨by decide, by decide⟩) ?_
  refine k_newi C hW (N := 14) ⟨by decide, by decide⟩ rfl (by decide) (by decide) (show decode cX6_init 36 = .ok (.newarray .int, 2) by decide +kernel) (fun q3 H hW => ?_)
  refine W.widen (k := 4) (n := 56) (by decide) (by decide) ?_
  replace hW : WZ K A s _ _ ((h0, .inr (6, [.int (n32 4), .int 0, .int 0, .int 0, .int 0, .int 0, .int 0, .ref q0, .ref q1, .ref q2, .null, .null, .null, .null, .null, .null, .null])) :: (old ++ [(q3, .inl (K.2.1, 14, .inl (fun _ => 0)))])) := hW
  refine k_putF C hin hW (ci := 6) (k := 10) (by decide +kernel) (Nat.le_of_ble_eq_true rfl) rfl rfl rfl rfl (show decode cX6_init 38 = .ok (.putfield 25, 3) by decide +kernel) (fun H locs hW => ?_)
  exact kk q3 _ _ hW
theorem cX6_5 (h0 : Nat) (q0 : Nat) (q1 : Nat) (q2 : Nat) (q3 : Nat) (C : CK 1 mX6_init K p { frames := 1, cells := 10, slots := 102, locals := 64 * 1 } s m args c) (hin : meth.name = "<init>") {old : va_W} (hl : lv_has ls 1 [(0, .ref h0)]) (hW : WZ K A s H locs ((h0, .inr (6, [.int (n32 4), .int 0, .int 0, .int 0, .int 0, .int 0, .int 0, .ref q0, .ref q1, .ref q2, .ref q3, .null, .null, .null, .null, .null, .null])) :: old))
    (kk : ∀ (q4 : Nat) (H : Heap) (locs : List Loc), WZ K A s H locs ((h0, .inr (6, [.int (n32 4), .int 0, .int 0, .int 0, .int 0, .int 0, .int 0, .ref q0, .ref q1, .ref q2, .ref q3, .ref q4, .null, .null, .null, .null, .null])) :: (old ++ [(q4, .inl (K.2.1, 8, .inl (fun _ => 0)))])) → W p l e { frames := 1, cells := 10, slots := 102, locals := 64 * 1 } s m args below meth c H locs 5 64 Q (F0 m 49 ls [])) : W p l e { frames := 1, cells := 10, slots := 102, locals := 64 * 1 } s m args below meth c H locs 4 56 Q (F0 m 41 ls []) := by
  obtain ⟨hx, hb, hml, hown, hts, hR, hK⟩ := id C
  refine lv_aload_n hx hb (show decode cX6_init 41 = .ok (.aload_n 0, 1) by decide +kernel) rfl (lv_at hl 0 rfl) ?_
  refine lv_bipush (v := n32 8) hx hb (show decode cX6_init 42 = .ok (.bipush 8, 2) by decide +kernel) (bip ⟨by decide, by decide⟩) ?_
  refine k_newi C hW (N := 8) ⟨by decide, by decide⟩ rfl (by decide) (by decide) (show decode cX6_init 44 = .ok (.newarray .int, 2) by decide +kernel) (fun q4 H hW => ?_)
  refine W.widen (k := 5) (n := 64) (by decide) (by decide) ?_
  replace hW : WZ K A s _ _ ((h0, .inr (6, [.int (n32 4), .int 0, .int 0, .int 0, .int 0, .int 0, .int 0, .ref q0, .ref q1, .ref q2, .ref q3, .null, .null, .null, .null, .null, .null])) :: (old ++ [(q4, .inl (K.2.1, 8, .inl (fun _ => 0)))])) := hW
  refine k_putF C hin hW (ci := 6) (k := 11) (by decide +kernel) (Nat.le_of_ble_eq_true rfl) rfl rfl rfl rfl (show decode cX6_init 46 = .ok (.putfield 28, 3) by decide +kernel) (fun H locs hW => ?_)
  exact kk q4 _ _ hW
theorem cX6_6 (h0 : Nat) (q0 : Nat) (q1 : Nat) (q2 : Nat) (q3 : Nat) (q4 : Nat) (C : CK 1 mX6_init K p { frames := 1, cells := 10, slots := 102, locals := 64 * 1 } s m args c) (hin : meth.name = "<init>") {old : va_W} (hl : lv_has ls 1 [(0, .ref h0)]) (hW : WZ K A s H locs ((h0, .inr (6, [.int (n32 4), .int 0, .int 0, .int 0, .int 0, .int 0, .int 0, .ref q0, .ref q1, .ref q2, .ref q3, .ref q4, .null, .null, .null, .null, .null])) :: old))
    (kk : ∀ (q5 : Nat) (H : Heap) (locs : List Loc), WZ K A s H locs ((h0, .inr (6, [.int (n32 4), .int 0, .int 0, .int 0, .int 0, .int 0, .int 0, .ref q0, .ref q1, .ref q2, .ref q3, .ref q4, .ref q5, .null, .null, .null, .null])) :: (old ++ [(q5, .inl (K.2.1, 8, .inl (fun _ => 0)))])) → W p l e { frames := 1, cells := 10, slots := 102, locals := 64 * 1 } s m args below meth c H locs 6 72 Q (F0 m 57 ls [])) : W p l e { frames := 1, cells := 10, slots := 102, locals := 64 * 1 } s m args below meth c H locs 5 64 Q (F0 m 49 ls []) := by
  obtain ⟨hx, hb, hml, hown, hts, hR, hK⟩ := id C
  refine lv_aload_n hx hb (show decode cX6_init 49 = .ok (.aload_n 0, 1) by decide +kernel) rfl (lv_at hl 0 rfl) ?_
  refine lv_bipush (v := n32 8) hx hb (show decode cX6_init 50 = .ok (.bipush 8, 2) by decide +kernel) (bip ⟨by decide, by decide⟩) ?_
  refine k_newi C hW (N := 8) ⟨by decide, by decide⟩ rfl (by decide) (by decide) (show decode cX6_init 52 = .ok (.newarray .int, 2) by decide +kernel) (fun q5 H hW => ?_)
  refine W.widen (k := 6) (n := 72) (by decide) (by decide) ?_
  replace hW : WZ K A s _ _ ((h0, .inr (6, [.int (n32 4), .int 0, .int 0, .int 0, .int 0, .int 0, .int 0, .ref q0, .ref q1, .ref q2, .ref q3, .ref q4, .null, .null, .null, .null, .null])) :: (old ++ [(q5, .inl (K.2.1, 8, .inl (fun _ => 0)))])) := hW
  refine k_putF C hin hW (ci := 6) (k := 12) (by decide +kernel) (Nat.le_of_ble_eq_true rfl) rfl rfl rfl rfl (show decode cX6_init 54 = .ok (.putfield 31, 3) by decide +kernel) (fun H locs hW => ?_)
  exact kk q5 _ _ hW
theorem cX6_7 (h0 : Nat) (q0 : Nat) (q1 : Nat) (q2 : Nat) (q3 : Nat) (q4 : Nat) (q5 : Nat) (C : CK 1 mX6_init K p { frames := 1, cells := 10, slots := 102, locals := 64 * 1 } s m args c) (hin : meth.name = "<init>") {old : va_W} (hl : lv_has ls 1 [(0, .ref h0)]) (hW : WZ K A s H locs ((h0, .inr (6, [.int (n32 4), .int 0, .int 0, .int 0, .int 0, .int 0, .int 0, .ref q0, .ref q1, .ref q2, .ref q3, .ref q4, .ref q5, .null, .null, .null, .null])) :: old))
    (kk : ∀ (q6 : Nat) (H : Heap) (locs : List Loc), WZ K A s H locs ((h0, .inr (6, [.int (n32 4), .int 0, .int 0, .int 0, .int 0, .int 0, .int 0, .ref q0, .ref q1, .ref q2, .ref q3, .ref q4, .ref q5, .ref q6, .null, .null, .null])) :: (old ++ [(q6, .inl (K.2.1, 8, .inl (fun _ => 0)))])) → W p l e { frames := 1, cells := 10, slots := 102, locals := 64 * 1 } s m args below meth c H locs 7 80 Q (F0 m 65 ls [])) : W p l e { frames := 1, cells := 10, slots := 102, locals := 64 * 1 } s m args below meth c H locs 6 72 Q (F0 m 57 ls []) := by
  obtain ⟨hx, hb, hml, hown, hts, hR, hK⟩ := id C
  refine lv_aload_n hx hb (show decode cX6_init 57 = .ok (.aload_n 0, 1) by decide +kernel) rfl (lv_at hl 0 rfl) ?_
  refine lv_bipush (v := n32 8) hx hb (show decode cX6_init 58 = .ok (.bipush 8, 2) by decide +kernel) (bip ⟨by decide, by decide⟩) ?_
  refine k_newi C hW (N := 8) ⟨by decide, by decide⟩ rfl (by decide) (by decide) (show decode cX6_init 60 = .ok (.newarray .int, 2) by decide +kernel) (fun q6 H hW => ?_)
  refine W.widen (k := 7) (n := 80) (by decide) (by decide) ?_
  replace hW : WZ K A s _ _ ((h0, .inr (6, [.int (n32 4), .int 0, .int 0, .int 0, .int 0, .int 0, .int 0, .ref q0, .ref q1, .ref q2, .ref q3, .ref q4, .ref q5, .null, .null, .null, .null])) :: (old ++ [(q6, .inl (K.2.1, 8, .inl (fun _ => 0)))])) := hW
  refine k_putF C hin hW (ci := 6) (k := 13) (by decide +kernel) (Nat.le_of_ble_eq_true rfl) rfl rfl rfl rfl (show decode cX6_init 62 = .ok (.putfield 34, 3) by decide +kernel) (fun H locs hW => ?_)
  exact kk q6 _ _ hW
theorem cX6_8 (h0 : Nat) (q0 : Nat) (q1 : Nat) (q2 : Nat) (q3 : Nat) (q4 : Nat) (q5 : Nat) (q6 : Nat) (C : CK 1 mX6_init K p { frames := 1, cells := 10, slots := 102, locals := 64 * 1 } s m args c) (hin : meth.name = "<init>") {old : va_W} (hl : lv_has ls 1 [(0, .ref h0)]) (hW : WZ K A s H locs ((h0, .inr (6, [.int (n32 4), .int 0, .int 0, .int 0, .int 0, .int 0, .int 0, .ref q0, .ref q1, .ref q2, .ref q3, .ref q4, .ref q5, .ref q6, .null, .null, .null])) :: old))
    (kk : ∀ (q7 : Nat) (H : Heap) (locs : List Loc), WZ K A s H locs ((h0, .inr (6, [.int (n32 4), .int 0, .int 0, .int 0, .int 0, .int 0, .int 0, .ref q0, .ref q1, .ref q2, .ref q3, .ref q4, .ref q5, .ref q6, .ref q7, .null, .null])) :: (old ++ [(q7, .inl (K.2.1, 8, .inl (fun _ => 0)))])) → W p l e { frames := 1, cells := 10, slots := 102, locals := 64 * 1 } s m args below meth c H locs 8 88 Q (F0 m 73 ls [])) : W p l e { frames := 1, cells := 10, slots := 102, locals := 64 * 1 } s m args below meth c H locs 7 80 Q (F0 m 65 ls []) := by
  obtain ⟨hx, hb, hml, hown, hts, hR, hK⟩ := id C
  refine lv_aload_n hx hb (show decode cX6_init 65 = .ok (.aload_n 0, 1) by decide +kernel) rfl (lv_at hl 0 rfl) ?_
  refine lv_bipush (v := n32 8) hx hb (show decode cX6_init 66 = .ok (.bipush 8, 2) by decide +kernel) (bip ⟨by decide, by decide⟩) ?_
  refine k_newi C hW (N := 8) ⟨by decide, by decide⟩ rfl (by decide) (by decide) (show decode cX6_init 68 = .ok (.newarray .int, 2) by decide +kernel) (fun q7 H hW => ?_)
  refine W.widen (k := 8) (n := 88) (by decide) (by decide) ?_
  replace hW : WZ K A s _ _ ((h0, .inr (6, [.int (n32 4), .int 0, .int 0, .int 0, .int 0, .int 0, .int 0, .ref q0, .ref q1, .ref q2, .ref q3, .ref q4, .ref q5, .ref q6, .null, .null, .null])) :: (old ++ [(q7, .inl (K.2.1, 8, .inl (fun _ => 0)))])) := hW
  refine k_putF C hin hW (ci := 6) (k := 14) (by decide +kernel) (Nat.le_of_ble_eq_true rfl) rfl rfl rfl rfl (show decode cX6_init 70 = .ok (.putfield 37, 3) by decide +kernel) (fun H locs hW => ?_)
  exact kk q7 _ _ hW
theorem cX6_9 (h0 : Nat) (q0 : Nat) (q1 : Nat) (q2 : Nat) (q3 : Nat) (q4 : Nat) (q5 : Nat) (q6 : Nat) (q7 : Nat) (C : CK 1 mX6_init K p { frames := 1, cells := 10, slots := 102, locals := 64 * 1 } s m args c) (hin : meth.name = "<init>") {old : va_W} (hl : lv_has ls 1 [(0, .ref h0)]) (hW : WZ K A s H locs ((h0, .inr (6, [.int (n32 4), .int 0, .int 0, .int 0, .int 0, .int 0, .int 0, .ref q0, .ref q1, .ref q2, .ref q3, .ref q4, .ref q5, .ref q6, .ref q7, .null, .null])) :: old))
    (kk : ∀ (q8 : Nat) (H : Heap) (locs : List Loc), WZ K A s H locs ((h0, .inr (6, [.int (n32 4), .int 0, .int 0, .int 0, .int 0, .int 0, .int 0, .ref q0, .ref q1, .ref q2, .ref q3, .ref q4, .ref q5, .ref q6, .ref q7, .ref q8, .null])) :: (old ++ [(q8, .inl (K.2.1, 10, .inl (fun _ => 0)))])) → W p l e { frames := 1, cells := 10, slots := 102, locals := 64 * 1 } s m args below meth c H locs 9 98 Q (F0 m 81 ls [])) : W p l e { frames := 1, cells := 10, slots := 102, locals := 64 * 1 } s m args below meth c H locs 8 88 Q (F0 m 73 ls []) := by
  obtain ⟨hx, hb, hml, hown, hts, hR, hK⟩ := id C
  refine lv_aload_n hx hb (show decode cX6_init 73 = .ok (.aload_n 0, 1) by decide +kernel) rfl (lv_at hl 0 rfl) ?_
  refine lv_bipush (v := n32 10) hx hb (show decode cX6_init 74 = .ok (.bipush 10, 2) by decide +kernel) (bip ⟨by decide, by decide⟩) ?_
  refine k_newi C hW (N := 10) ⟨by decide, by decide⟩ rfl (by decide) (by decide) (show decode cX6_init 76 = .ok (.newarray .int, 2) by decide +kernel) (fun q8 H hW => ?_)
  refine W.widen (k := 9) (n := 98) (by decide) (by decide) ?_
  replace hW : WZ K A s _ _ ((h0, .inr (6, [.int (n32 4), .int 0, .int 0, .int 0, .int 0, .int 0, .int 0, .ref q0, .ref q1, .ref q2, .ref q3, .ref q4, .ref q5, .ref q6, .ref q7, .null, .null])) :: (old ++ [(q8, .inl (K.2.1, 10, .inl (fun _ => 0)))])) := hW
  refine k_putF C hin hW (ci := 6) (k := 15) (by decide +kernel) (Nat.le_of_ble_eq_true rfl) rfl rfl rfl rfl (show decode cX6_init 78 = .ok (.putfield 40, 3) by decide +kernel) (fun H locs hW => ?_)
  exact kk q8 _ _ hW
theorem cX6_10 (h0 : Nat) (q0 : Nat) (q1 : Nat) (q2 : Nat) (q3 : Nat) (q4 : Nat) (q5 : Nat) (q6 : Nat) (q7 : Nat) (q8 : Nat) (C : CK 1 mX6_init K p { frames := 1, cells := 10, slots := 102, locals := 64 * 1 } s m args c) (hin : meth.name = "<init>") {old : va_W} (hl : lv_has ls 1 [(0, .ref h0)]) (hW : WZ K A s H locs ((h0, .inr (6, [.int (n32 4), .int 0, .int 0, .int 0, .int 0, .int 0, .int 0, .ref q0, .ref q1, .ref q2, .ref q3, .ref q4, .ref q5, .ref q6, .ref q7, .ref q8, .null])) :: old))
    (kk : ∀ (q9 : Nat) (H : Heap) (locs : List Loc), WZ K A s H locs ((h0, .inr (6, [.int (n32 4), .int 0, .int 0, .int 0, .int 0, .int 0, .int 0, .ref q0, .ref q1, .ref q2, .ref q3, .ref q4, .ref q5, .ref q6, .ref q7, .ref q8, .ref q9])) :: (old ++ [(q9, .inl (K.2.1, 4, .inl (upd (upd (upd (upd (fun _ => 0) 0 (n32 720)) 1 (n32 0)) 2 (n32 240)) 3 (n32 0))))])) → W p l e { frames := 1, cells := 10, slots := 102, locals := 64 * 1 } s m args below meth c H locs 10 102 Q (F0 m 108 ls [])) : W p l e { frames := 1, cells := 10, slots := 102, locals := 64 * 1 } s m args below meth c H locs 9 98 Q (F0 m 81 ls []) := by
  obtain ⟨hx, hb, hml, hown, hts, hR, hK⟩ := id C
  refine lv_aload_n hx hb (show decode cX6_init 81 = .ok (.aload_n 0, 1) by decide +kernel) rfl (lv_at hl 0 rfl) ?_
  refine lv_iconst (v := n32 4) hx hb (show decode cX6_init 82 = .ok (.iconst 4, 1) by decide +kernel) rfl ?_
  refine k_newi C hW (N := 4) ⟨by decide, by decide⟩ rfl (by decide) (by decide) (show decode cX6_init 83 = .ok (.newarray .int, 2) by decide +kernel) (fun q9 H hW => ?_)
  refine W.widen (k := 10) (n := 102) (by decide) (by decide) ?_
  refine lv_dup hx hb (show decode cX6_init 85 = .ok (.dup, 1) by decide +kernel) rfl ?_
  refine lv_iconst (v := n32 0) hx hb (show decode cX6_init 86 = .ok (.iconst 0, 1) by decide +kernel) rfl ?_
  refine lv_sipush (v := n32 720) hx hb (show decode cX6_init 87 = .ok (.sipush 720, 3) by decide +kernel) (sip ⟨by decide, by decide⟩) ?_
  refine k_iasl C hW ⟨by decide, by decide⟩ (by decide) (show decode cX6_init 90 = .ok (.iastore, 1) by decide +kernel) (fun H locs hW => ?_)
  refine lv_dup hx hb (show decode cX6_init 91 = .ok (.dup, 1) by decide +kernel) rfl ?_
  refine lv_iconst (v := n32 1) hx hb (show decode cX6_init 92 = .ok (.iconst 1, 1) by decide +kernel) rfl ?_
  refine lv_iconst (v := n32 0) hx hb (show decode cX6_init 93 = .ok (.iconst 0, 1) by decide +kernel) rfl ?_
  refine k_iasl C hW ⟨by decide, by decide⟩ (by decide) (show decode cX6_init 94 = .ok (.iastore, 1) by decide +kernel) (fun H locs hW => ?_)
  refine lv_dup hx hb (show decode cX6_init 95 = .ok (.dup, 1) by decide +kernel) rfl ?_
  refine lv_iconst (v := n32 2) hx hb (show decode cX6_init 96 = .ok (.iconst 2, 1) by decide +kernel) rfl ?_
  refine lv_sipush (v := n32 240) hx hb (show decode cX6_init 97 = .ok (.sipush 240, 3) by decide +kernel) (sip ⟨by decide, by decide⟩) ?_
  refine k_iasl C hW ⟨by decide, by decide⟩ (by decide) (show decode cX6_init 100 = .ok (.iastore, 1) by decide +kernel) (fun H locs hW => ?_)
  refine lv_dup hx hb (show decode cX6_init 101 = .ok (.dup, 1) by decide +kernel) rfl ?_
  refine lv_iconst (v := n32 3) hx hb (show decode cX6_init 102 = .ok (.iconst 3, 1) by decide +kernel) rfl ?_
  refine lv_iconst (v := n32 0) hx hb (show decode cX6_init 103 = .ok (.iconst 0, 1) by decide +kernel) rfl ?_
  refine k_iasl C hW ⟨by decide, by decide⟩ (by decide) (show decode cX6_init 104 = .ok (.iastore, 1) by decide +kernel) (fun H locs hW => ?_)
  replace hW : WZ K A s _ _ ((h0, .inr (6, [.int (n32 4), .int 0, .int 0, .int 0, .int 0, .int 0, .int 0, .ref q0, .ref q1, .ref q2, .ref q3, .ref q4, .ref q5, .ref q6, .ref q7, .ref q8, .null])) :: (old ++ [(q9, .inl (K.2.1, 4, .inl (upd (upd (upd (upd (fun _ => 0) 0 (n32 720)) 1 (n32 0)) 2 (n32 240)) 3 (n32 0))))])) := hW
  refine k_putF C hin hW (ci := 6) (k := 16) (by decide +kernel) (Nat.le_of_ble_eq_true rfl) rfl rfl rfl rfl (show decode cX6_init 105 = .ok (.putfield 43, 3) by decide +kernel) (fun H locs hW => ?_)
  exact kk q9 _ _ hW
def wX6 (K : Kk) (h0 : Nat) (a : Nat → Nat) : va_W := (h0, .inr (6, [.int (n32 4), .int 0, .int 0, .int 0, .int 0, .int 0, .int 0, .ref (a 0), .ref (a 1), .ref (a 2), .ref (a 3), .ref (a 4), .ref (a 5), .ref (a 6), .ref (a 7), .ref (a 8), .ref (a 9)])) :: ((((((((([((a 0), .inl (K.2.1, 14, .inl (fun _ => 0)))] ++ [((a 1), .inl (K.2.1, 14, .inl (fun _ => 0)))]) ++ [((a 2), .inl (K.2.1, 14, .inl (fun _ => 0)))]) ++ [((a 3), .inl (K.2.1, 14, .inl (fun _ => 0)))]) ++ [((a 4), .inl (K.2.1, 8, .inl (fun _ => 0)))]) ++ [((a 5), .inl (K.2.1, 8, .inl (fun _ => 0)))]) ++ [((a 6), .inl (K.2.1, 8, .inl (fun _ => 0)))]) ++ [((a 7), .inl (K.2.1, 8, .inl (fun _ => 0)))]) ++ [((a 8), .inl (K.2.1, 10, .inl (fun _ => 0)))]) ++ [((a 9), .inl (K.2.1, 4, .inl (upd (upd (upd (upd (fun _ => 0) 0 (n32 720)) 1 (n32 0)) 2 (n32 240)) 3 (n32 0))))])
set_option maxRecDepth 100000 in
theorem cX6 (l : Launch) (K : Kk) : Cn l K mX6_init 6 1 10 102 [] (fun h0 w => ∃ a : Nat → Nat, w = wX6 K h0 a) := by
  refine toCn kX6_init.1 rfl rfl (fun _ => Nat.le_of_ble_eq_true rfl) (fun h0 p e s m args below meth c Q A C hin hW ls hl ret => ?_)
  obtain ⟨hx, hb, hml, hown, hts, hR, hK⟩ := id C
  replace hl : lv_has ls 1 [(0, .ref h0)] := hl
  replace hW : WZ K A s s.heap [] ((h0, .inr (6, [.int 0, .int 0, .int 0, .int 0, .int 0, .int 0, .int 0, .null, .null, .null, .null, .null, .null, .null, .null, .null, .null])) :: []) := hW
  refine cX6_0 h0 C hin hl hW (fun  H locs hW => ?_)
  refine cX6_1 h0 C hin hl hW (fun q0 H locs hW => ?_)
  replace hW : WZ K A s H locs ((h0, .inr (6, [.int (n32 4), .int 0, .int 0, .int 0, .int 0, .int 0, .int 0, .ref q0, .null, .null, .null, .null, .null, .null, .null, .null, .null])) :: [(q0, .inl (K.2.1, 14, .inl (fun _ => 0)))]) := hW
  refine cX6_2 h0 q0 C hin hl hW (fun q1 H locs hW => ?_)
  refine cX6_3 h0 q0 q1 C hin hl hW (fun q2 H locs hW => ?_)
  refine cX6_4 h0 q0 q1 q2 C hin hl hW (fun q3 H locs hW => ?_)
  refine cX6_5 h0 q0 q1 q2 q3 C hin hl hW (fun q4 H locs hW => ?_)
  refine cX6_6 h0 q0 q1 q2 q3 q4 C hin hl hW (fun q5 H locs hW => ?_)
  refine cX6_7 h0 q0 q1 q2 q3 q4 q5 C hin hl hW (fun q6 H locs hW => ?_)
  refine cX6_8 h0 q0 q1 q2 q3 q4 q5 q6 C hin hl hW (fun q7 H locs hW => ?_)
  refine cX6_9 h0 q0 q1 q2 q3 q4 q5 q6 q7 C hin hl hW (fun q8 H locs hW => ?_)
  refine cX6_10 h0 q0 q1 q2 q3 q4 q5 q6 q7 q8 C hin hl hW (fun q9 H locs hW => ?_)
  exact ret _ _ _ _ 108 hW ⟨fun n => [q0, q1, q2, q3, q4, q5, q6, q7, q8, q9].getD n 0, rfl⟩ (show decode cX6_init 108 = .ok (.return_, 1) by decide +kernel)
theorem cX1_0 (h0 : Nat) (p0 : Nat) (p1 : Nat) (C : CK 1 mX1_init K p { frames := 1, cells := 0, slots := 0, locals := 64 * 1 } s m args c) (hin : meth.name = "<init>") {old : va_W} (hl : lv_has ls 3 [(0, .ref h0), (1, .ref p0), (2, .ref p1)]) (hW : WZ K A s H locs ((h0, .inr (1, [.null, .null, .int 0])) :: old))
    (kk : ∀ (H : Heap) (locs : List Loc), WZ K A s H locs ((h0, .inr (1, [.ref p0, .null, .int 0])) :: old) → W p l e { frames := 1, cells := 0, slots := 0, locals := 64 * 1 } s m args below meth c H locs 0 0 Q (F0 m 9 ls [])) : W p l e { frames := 1, cells := 0, slots := 0, locals := 64 * 1 } s m args below meth c H locs 0 0 Q (F0 m 0 ls []) := by
  obtain ⟨hx, hb, hml, hown, hts, hR, hK⟩ := id C
  refine lv_aload_n hx hb (show decode cX1_init 0 = .ok (.aload_n 0, 1) by decide +kernel) rfl (lv_at hl 0 rfl) ?_
  refine k_obj C (gT2 (i := 34) (by decide +kernel) rfl) oI_in oI_co (by decide) hl.1 (show decode cX1_init 1 = .ok (.invokespecial 3, 3) by decide +kernel) ?_
  refine lv_aload_n hx hb (show decode cX1_init 4 = .ok (.aload_n 0, 1) by decide +kernel) rfl (lv_at hl 0 rfl) ?_
  refine lv_aload_n hx hb (show decode cX1_init 5 = .ok (.aload_n 1, 1) by decide +kernel) rfl (lv_at hl 1 rfl) ?_
  refine k_putF C hin hW (ci := 1) (k := 0) (by decide +kernel) (Nat.le_of_ble_eq_true rfl) rfl rfl rfl rfl (show decode cX1_init 6 = .ok (.putfield 9, 3) by decide +kernel) (fun H locs hW => ?_)
  exact kk _ _ hW
theorem cX1_1 (h0 : Nat) (p0 : Nat) (p1 : Nat) (C : CK 1 mX1_init K p { frames := 1, cells := 0, slots := 0, locals := 64 * 1 } s m args c) (hin : meth.name = "<init>") {old : va_W} (hl : lv_has ls 3 [(0, .ref h0), (1, .ref p0), (2, .ref p1)]) (hW : WZ K A s H locs ((h0, .inr (1, [.ref p0, .null, .int 0])) :: old))
    (kk : ∀ (H : Heap) (locs : List Loc), WZ K A s H locs ((h0, .inr (1, [.ref p0, .ref p1, .int 0])) :: old) → W p l e { frames := 1, cells := 0, slots := 0, locals := 64 * 1 } s m args below meth c H locs 0 0 Q (F0 m 14 ls [])) : W p l e { frames := 1, cells := 0, slots := 0, locals := 64 * 1 } s m args below meth c H locs 0 0 Q (F0 m 9 ls []) := by
  obtain ⟨hx, hb, hml, hown, hts, hR, hK⟩ := id C
  refine lv_aload_n hx hb (show decode cX1_init 9 = .ok (.aload_n 0, 1) by decide +kernel) rfl (lv_at hl 0 rfl) ?_
  refine lv_aload_n hx hb (show decode cX1_init 10 = .ok (.aload_n 2, 1) by decide +kernel) rfl (lv_at hl 2 rfl) ?_
  refine k_putF C hin hW (ci := 1) (k := 1) (by decide +kernel) (Nat.le_of_ble_eq_true rfl) rfl rfl rfl rfl (show decode cX1_init 11 = .ok (.putfield 15, 3) by decide +kernel) (fun H locs hW => ?_)
  exact kk _ _ hW
def wX1 (K : Kk) (h0 p0 p1 : Nat) (a : Nat → Nat) : va_W := (h0, .inr (1, [.ref p0, .ref p1, .int 0])) :: []
set_option maxRecDepth 100000 in
theorem cX1 (l : Launch) (K : Kk) (p0 p1 : Nat) : Cn l K mX1_init 1 1 0 0 [.ref p0, .ref p1] (fun h0 w => ∃ a : Nat → Nat, w = wX1 K h0 p0 p1 a) := by
  refine toCn kX1_init.1 rfl rfl (fun _ => Nat.le_of_ble_eq_true rfl) (fun h0 p e s m args below meth c Q A C hin hW ls hl ret => ?_)
  obtain ⟨hx, hb, hml, hown, hts, hR, hK⟩ := id C
  replace hl : lv_has ls 3 [(0, .ref h0), (1, .ref p0), (2, .ref p1)] := hl
  replace hW : WZ K A s s.heap [] ((h0, .inr (1, [.null, .null, .int 0])) :: []) := hW
  refine cX1_0 h0 p0 p1 C hin hl hW (fun  H locs hW => ?_)
  refine cX1_1 h0 p0 p1 C hin hl hW (fun  H locs hW => ?_)
  exact ret _ _ _ _ 14 hW ⟨fun n => [].getD n 0, rfl⟩ (show decode cX1_init 14 = .ok (.return_, 1) by decide +kernel)
theorem cX2_0 (h0 : Nat) (p0 : Nat) (C : CK 1 mX2_init K p { frames := 1, cells := 2, slots := 20, locals := 64 * 1 } s m args c) (hin : meth.name = "<init>") {old : va_W} (hl : lv_has ls 2 [(0, .ref h0), (1, .ref p0)]) (hW : WZ K A s H locs ((h0, .inr (2, [.null, .null, .null])) :: old))
    (kk : ∀ (q0 : Nat) (H : Heap) (locs : List Loc), WZ K A s H locs ((h0, .inr (2, [.null, .ref q0, .null])) :: (old ++ [(q0, .inl (K.2.1, 10, .inl (fun _ => 0)))])) → W p l e { frames := 1, cells := 2, slots := 20, locals := 64 * 1 } s m args below meth c H locs 1 10 Q (F0 m 12 ls [])) : W p l e { frames := 1, cells := 2, slots := 20, locals := 64 * 1 } s m args below meth c H locs 0 0 Q (F0 m 0 ls []) := by
  obtain ⟨hx, hb, hml, hown, hts, hR, hK⟩ := id C
  refine lv_aload_n hx hb (show decode cX2_init 0 = .ok (.aload_n 0, 1) by decide +kernel) rfl (lv_at hl 0 rfl) ?_
  refine k_obj C (gT2 (i := 18) (by decide +kernel) rfl) oI_in oI_co (by decide) hl.1 (show decode cX2_init 1 = .ok (.invokespecial 3, 3) by decide +kernel) ?_
  refine lv_aload_n hx hb (show decode cX2_init 4 = .ok (.aload_n 0, 1) by decide +kernel) rfl (lv_at hl 0 rfl) ?_
  refine lv_bipush (v := n32 10) hx hb (show decode cX2_init 5 = .ok (.bipush 10, 2) by decide +kernel) (bip ⟨by decide, by decide⟩) ?_
  refine k_newi C hW (N := 10) ⟨by decide, by decide⟩ rfl (by decide) (by decide) (show decode cX2_init 7 = .ok (.newarray .int, 2) by decide +kernel) (fun q0 H hW => ?_)
  refine W.widen (k := 1) (n := 10) (by decide) (by decide) ?_
  replace hW : WZ K A s _ _ ((h0, .inr (2, [.null, .null, .null])) :: (old ++ [(q0, .inl (K.2.1, 10, .inl (fun _ => 0)))])) := hW
  refine k_putF C hin hW (ci := 2) (k := 1) (by decide +kernel) (Nat.le_of_ble_eq_true rfl) rfl rfl rfl rfl (show decode cX2_init 9 = .ok (.putfield 9, 3) by decide +kernel) (fun H locs hW => ?_)
  exact kk q0 _ _ hW
theorem cX2_1 (h0 : Nat) (p0 : Nat) (q0 : Nat) (C : CK 1 mX2_init K p { frames := 1, cells := 2, slots := 20, locals := 64 * 1 } s m args c) (hin : meth.name = "<init>") {old : va_W} (hl : lv_has ls 2 [(0, .ref h0), (1, .ref p0)]) (hW : WZ K A s H locs ((h0, .inr (2, [.null, .ref q0, .null])) :: old))
    (kk : ∀ (q1 : Nat) (H : Heap) (locs : List Loc), WZ K A s H locs ((h0, .inr (2, [.null, .ref q0, .ref q1])) :: (old ++ [(q1, .inl (K.2.1, 10, .inl (fun _ => 0)))])) → W p l e { frames := 1, cells := 2, slots := 20, locals := 64 * 1 } s m args below meth c H locs 2 20 Q (F0 m 20 ls [])) : W p l e { frames := 1, cells := 2, slots := 20, locals := 64 * 1 } s m args below meth c H locs 1 10 Q (F0 m 12 ls []) := by
  obtain ⟨hx, hb, hml, hown, hts, hR, hK⟩ := id C
  refine lv_aload_n hx hb (show decode cX2_init 12 = .ok (.aload_n 0, 1) by decide +kernel) rfl (lv_at hl 0 rfl) ?_
  refine lv_bipush (v := n32 10) hx hb (show decode cX2_init 13 = .ok (.bipush 10, 2) by decide +kernel) (bip ⟨by decide, by decide⟩) ?_
  refine k_newi C hW (N := 10) ⟨by decide, by decide⟩ rfl (by decide) (by decide) (show decode cX2_init 15 = .ok (.newarray .int, 2) by decide +kernel) (fun q1 H hW => ?_)
  refine W.widen (k := 2) (n := 20) (by decide) (by decide) ?_
  replace hW : WZ K A s _ _ ((h0, .inr (2, [.null, .ref q0, .null])) :: (old ++ [(q1, .inl (K.2.1, 10, .inl (fun _ => 0)))])) := hW
  refine k_putF C hin hW (ci := 2) (k := 2) (by decide +kernel) (Nat.le_of_ble_eq_true rfl) rfl rfl rfl rfl (show decode cX2_init 17 = .ok (.putfield 15, 3) by decide +kernel) (fun H locs hW => ?_)
  exact kk q1 _ _ hW
theorem cX2_2 (h0 : Nat) (p0 : Nat) (q0 : Nat) (q1 : Nat) (C : CK 1 mX2_init K p { frames := 1, cells := 2, slots := 20, locals := 64 * 1 } s m args c) (hin : meth.name = "<init>") {old : va_W} (hl : lv_has ls 2 [(0, .ref h0), (1, .ref p0)]) (hW : WZ K A s H locs ((h0, .inr (2, [.null, .ref q0, .ref q1])) :: old))
    (kk : ∀ (H : Heap) (locs : List Loc), WZ K A s H locs ((h0, .inr (2, [.ref p0, .ref q0, .ref q1])) :: old) → W p l e { frames := 1, cells := 2, slots := 20, locals := 64 * 1 } s m args below meth c H locs 2 20 Q (F0 m 25 ls [])) : W p l e { frames := 1, cells := 2, slots := 20, locals := 64 * 1 } s m args below meth c H locs 2 20 Q (F0 m 20 ls []) := by
  obtain ⟨hx, hb, hml, hown, hts, hR, hK⟩ := id C
  refine lv_aload_n hx hb (show decode cX2_init 20 = .ok (.aload_n 0, 1) by decide +kernel) rfl (lv_at hl 0 rfl) ?_
  refine lv_aload_n hx hb (show decode cX2_init 21 = .ok (.aload_n 1, 1) by decide +kernel) rfl (lv_at hl 1 rfl) ?_
  refine k_putF C hin hW (ci := 2) (k := 0) (by decide +kernel) (Nat.le_of_ble_eq_true rfl) rfl rfl rfl rfl (show decode cX2_init 22 = .ok (.putfield 18, 3) by decide +kernel) (fun H locs hW => ?_)
  exact kk _ _ hW
def wX2 (K : Kk) (h0 p0 : Nat) (a : Nat → Nat) : va_W := (h0, .inr (2, [.ref p0, .ref (a 0), .ref (a 1)])) :: ([((a 0), .inl (K.2.1, 10, .inl (fun _ => 0)))] ++ [((a 1), .inl (K.2.1, 10, .inl (fun _ => 0)))])
set_option maxRecDepth 100000 in
theorem cX2 (l : Launch) (K : Kk) (p0 : Nat) : Cn l K mX2_init 2 1 2 20 [.ref p0] (fun h0 w => ∃ a : Nat → Nat, w = wX2 K h0 p0 a) := by
  refine toCn kX2_init.1 rfl rfl (fun _ => Nat.le_of_ble_eq_true rfl) (fun h0 p e s m args below meth c Q A C hin hW ls hl ret => ?_)
  obtain ⟨hx, hb, hml, hown, hts, hR, hK⟩ := id C
  replace hl : lv_has ls 2 [(0, .ref h0), (1, .ref p0)] := hl
  replace hW : WZ K A s s.heap [] ((h0, .inr (2, [.null, .null, .null])) :: []) := hW
  refine cX2_0 h0 p0 C hin hl hW (fun q0 H locs hW => ?_)
  replace hW : WZ K A s H locs ((h0, .inr (2, [.null, .ref q0, .null])) :: [(q0, .inl (K.2.1, 10, .inl (fun _ => 0)))]) := hW
  refine cX2_1 h0 p0 q0 C hin hl hW (fun q1 H locs hW => ?_)
  refine cX2_2 h0 p0 q0 q1 C hin hl hW (fun  H locs hW => ?_)
  exact ret _ _ _ _ 25 hW ⟨fun n => [q0, q1].getD n 0, rfl⟩ (show decode cX2_init 25 = .ok (.return_, 1) by decide +kernel)
theorem cX8_0 (h0 : Nat) (p0 : Nat) (p1 : Nat) (C : CK 1 mX8_init K p { frames := 1, cells := 1, slots := 10, locals := 64 * 1 } s m args c) (hin : meth.name = "<init>") {old : va_W} (hl : lv_has ls 3 [(0, .ref h0), (1, .ref p0), (2, .ref p1)]) (hW : WZ K A s H locs ((h0, .inr (8, [.null, .null, .null, .int 0])) :: old))
    (kk : ∀ (q0 : Nat) (H : Heap) (locs : List Loc), WZ K A s H locs ((h0, .inr (8, [.null, .null, .ref q0, .int 0])) :: (old ++ [(q0, .inl (K.2.1, 10, .inl (fun _ => 0)))])) → W p l e { frames := 1, cells := 1, slots := 10, locals := 64 * 1 } s m args below meth c H locs 1 10 Q (F0 m 12 ls [])) : W p l e { frames := 1, cells := 1, slots := 10, locals := 64 * 1 } s m args below meth c H locs 0 0 Q (F0 m 0 ls []) := by
  obtain ⟨hx, hb, hml, hown, hts, hR, hK⟩ := id C
  refine lv_aload_n hx hb (show decode cX8_init 0 = .ok (.aload_n 0, 1) by decide +kernel) rfl (lv_at hl 0 rfl) ?_
  refine k_obj C (gT1 (i := 221) (by decide +kernel) rfl) oI_in oI_co (by decide) hl.1 (show decode cX8_init 1 = .ok (.invokespecial 3, 3) by decide +kernel) ?_
  refine lv_aload_n hx hb (show decode cX8_init 4 = .ok (.aload_n 0, 1) by decide +kernel) rfl (lv_at hl 0 rfl) ?_
  refine lv_bipush (v := n32 10) hx hb (show decode cX8_init 5 = .ok (.bipush 10, 2) by decide +kernel) (bip ⟨by decide, by decide⟩) ?_
  refine k_newi C hW (N := 10) ⟨by decide, by decide⟩ rfl (by decide) (by decide) (show decode cX8_init 7 = .ok (.newarray .int, 2) by decide +kernel) (fun q0 H hW => ?_)
  refine W.widen (k := 1) (n := 10) (by decide) (by decide) ?_
  replace hW : WZ K A s _ _ ((h0, .inr (8, [.null, .null, .null, .int 0])) :: (old ++ [(q0, .inl (K.2.1, 10, .inl (fun _ => 0)))])) := hW
  refine k_putF C hin hW (ci := 8) (k := 2) (by decide +kernel) (Nat.le_of_ble_eq_true rfl) rfl rfl rfl rfl (show decode cX8_init 9 = .ok (.putfield 9, 3) by decide +kernel) (fun H locs hW => ?_)
  exact kk q0 _ _ hW
theorem cX8_1 (h0 : Nat) (p0 : Nat) (p1 : Nat) (q0 : Nat) (C : CK 1 mX8_init K p { frames := 1, cells := 1, slots := 10, locals := 64 * 1 } s m args c) (hin : meth.name = "<init>") {old : va_W} (hl : lv_has ls 3 [(0, .ref h0), (1, .ref p0), (2, .ref p1)]) (hW : WZ K A s H locs ((h0, .inr (8, [.null, .null, .ref q0, .int 0])) :: old))
    (kk : ∀ (H : Heap) (locs : List Loc), WZ K A s H locs ((h0, .inr (8, [.ref p0, .null, .ref q0, .int 0])) :: old) → W p l e { frames := 1, cells := 1, slots := 10, locals := 64 * 1 } s m args below meth c H locs 1 10 Q (F0 m 17 ls [])) : W p l e { frames := 1, cells := 1, slots := 10, locals := 64 * 1 } s m args below meth c H locs 1 10 Q (F0 m 12 ls []) := by
  obtain ⟨hx, hb, hml, hown, hts, hR, hK⟩ := id C
  refine lv_aload_n hx hb (show decode cX8_init 12 = .ok (.aload_n 0, 1) by decide +kernel) rfl (lv_at hl 0 rfl) ?_
  refine lv_aload_n hx hb (show decode cX8_init 13 = .ok (.aload_n 1, 1) by decide +kernel) rfl (lv_at hl 1 rfl) ?_
  refine k_putF C hin hW (ci := 8) (k := 0) (by decide +kernel) (Nat.le_of_ble_eq_true rfl) rfl rfl rfl rfl (show decode cX8_init 14 = .ok (.putfield 15, 3) by decide +kernel) (fun H locs hW => ?_)
  exact kk _ _ hW
theorem cX8_2 (h0 : Nat) (p0 : Nat) (p1 : Nat) (q0 : Nat) (C : CK 1 mX8_init K p { frames := 1, cells := 1, slots := 10, locals := 64 * 1 } s m args c) (hin : meth.name = "<init>") {old : va_W} (hl : lv_has ls 3 [(0, .ref h0), (1, .ref p0), (2, .ref p1)]) (hW : WZ K A s H locs ((h0, .inr (8, [.ref p0, .null, .ref q0, .int 0])) :: old))
    (kk : ∀ (H : Heap) (locs : List Loc), WZ K A s H locs ((h0, .inr (8, [.ref p0, .ref p1, .ref q0, .int 0])) :: old) → W p l e { frames := 1, cells := 1, slots := 10, locals := 64 * 1 } s m args below meth c H locs 1 10 Q (F0 m 22 ls [])) : W p l e { frames := 1, cells := 1, slots := 10, locals := 64 * 1 } s m args below meth c H locs 1 10 Q (F0 m 17 ls []) := by
  obtain ⟨hx, hb, hml, hown, hts, hR, hK⟩ := id C
  refine lv_aload_n hx hb (show decode cX8_init 17 = .ok (.aload_n 0, 1) by decide +kernel) rfl (lv_at hl 0 rfl) ?_
  refine lv_aload_n hx hb (show decode cX8_init 18 = .ok (.aload_n 2, 1) by decide +kernel) rfl (lv_at hl 2 rfl) ?_
  refine k_putF C hin hW (ci := 8) (k := 1) (by decide +kernel) (Nat.le_of_ble_eq_true rfl) rfl rfl rfl rfl (show decode cX8_init 19 = .ok (.putfield 19, 3) by decide +kernel) (fun H locs hW => ?_)
  exact kk _ _ hW
def wX8 (K : Kk) (h0 p0 p1 : Nat) (a : Nat → Nat) : va_W := (h0, .inr (8, [.ref p0, .ref p1, .ref (a 0), .int 0])) :: [((a 0), .inl (K.2.1, 10, .inl (fun _ => 0)))]
set_option maxRecDepth 100000 in
theorem cX8 (l : Launch) (K : Kk) (p0 p1 : Nat) : Cn l K mX8_init 8 1 1 10 [.ref p0, .ref p1] (fun h0 w => ∃ a : Nat → Nat, w = wX8 K h0 p0 p1 a) := by
  refine toCn kX8_init.1 rfl rfl (fun _ => Nat.le_of_ble_eq_true rfl) (fun h0 p e s m args below meth c Q A C hin hW ls hl ret => ?_)
  obtain ⟨hx, hb, hml, hown, hts, hR, hK⟩ := id C
  replace hl : lv_has ls 3 [(0, .ref h0), (1, .ref p0), (2, .ref p1)] := hl
  replace hW : WZ K A s s.heap [] ((h0, .inr (8, [.null, .null, .null, .int 0])) :: []) := hW
  refine cX8_0 h0 p0 p1 C hin hl hW (fun q0 H locs hW => ?_)
  replace hW : WZ K A s H locs ((h0, .inr (8, [.null, .null, .ref q0, .int 0])) :: [(q0, .inl (K.2.1, 10, .inl (fun _ => 0)))]) := hW
  refine cX8_1 h0 p0 p1 q0 C hin hl hW (fun  H locs hW => ?_)
  refine cX8_2 h0 p0 p1 q0 C hin hl hW (fun  H locs hW => ?_)
  exact ret _ _ _ _ 22 hW ⟨fun n => [q0].getD n 0, rfl⟩ (show decode cX8_init 22 = .ok (.return_, 1) by decide +kernel)
theorem cX9_0 (h0 : Nat) (p0 : Nat) (p1 : Nat) (p2 : Nat) (p3 : Nat) (p4 : Nat) (C : CK 1 mX9_init K p { frames := 1, cells := 0, slots := 0, locals := 64 * 1 } s m args c) (hin : meth.name = "<init>") {old : va_W} (hl : lv_has ls 6 [(0, .ref h0), (1, .ref p0), (2, .ref p1), (3, .ref p2), (4, .ref p3), (5, .ref p4)]) (hW : WZ K A s H locs ((h0, .inr (9, [.null, .null, .null, .null, .null])) :: old))
    (kk : ∀ (H : Heap) (locs : List Loc), WZ K A s H locs ((h0, .inr (9, [.ref p0, .null, .null, .null, .null])) :: old) → W p l e { frames := 1, cells := 0, slots := 0, locals := 64 * 1 } s m args below meth c H locs 0 0 Q (F0 m 9 ls [])) : W p l e { frames := 1, cells := 0, slots := 0, locals := 64 * 1 } s m args below meth c H locs 0 0 Q (F0 m 0 ls []) := by
  obtain ⟨hx, hb, hml, hown, hts, hR, hK⟩ := id C
  refine lv_aload_n hx hb (show decode cX9_init 0 = .ok (.aload_n 0, 1) by decide +kernel) rfl (lv_at hl 0 rfl) ?_
  refine k_obj C (gT2 (i := 50) (by decide +kernel) rfl) oI_in oI_co (by decide) hl.1 (show decode cX9_init 1 = .ok (.invokespecial 3, 3) by decide +kernel) ?_
  refine lv_aload_n hx hb (show decode cX9_init 4 = .ok (.aload_n 0, 1) by decide +kernel) rfl (lv_at hl 0 rfl) ?_
  refine lv_aload_n hx hb (show decode cX9_init 5 = .ok (.aload_n 1, 1) by decide +kernel) rfl (lv_at hl 1 rfl) ?_
  refine k_putF C hin hW (ci := 9) (k := 0) (by decide +kernel) (Nat.le_of_ble_eq_true rfl) rfl rfl rfl rfl (show decode cX9_init 6 = .ok (.putfield 9, 3) by decide +kernel) (fun H locs hW => ?_)
  exact kk _ _ hW
theorem cX9_1 (h0 : Nat) (p0 : Nat) (p1 : Nat) (p2 : Nat) (p3 : Nat) (p4 : Nat) (C : CK 1 mX9_init K p { frames := 1, cells := 0, slots := 0, locals := 64 * 1 } s m args c) (hin : meth.name = "<init>") {old : va_W} (hl : lv_has ls 6 [(0, .ref h0), (1, .ref p0), (2, .ref p1), (3, .ref p2), (4, .ref p3), (5, .ref p4)]) (hW : WZ K A s H locs ((h0, .inr (9, [.ref p0, .null, .null, .null, .null])) :: old))
    (kk : ∀ (H : Heap) (locs : List Loc), WZ K A s H locs ((h0, .inr (9, [.ref p0, .ref p1, .null, .null, .null])) :: old) → W p l e { frames := 1, cells := 0, slots := 0, locals := 64 * 1 } s m args below meth c H locs 0 0 Q (F0 m 14 ls [])) : W p l e { frames := 1, cells := 0, slots := 0, locals := 64 * 1 } s m args below meth c H locs 0 0 Q (F0 m 9 ls []) := by
  obtain ⟨hx, hb, hml, hown, hts, hR, hK⟩ := id C
  refine lv_aload_n hx hb (show decode cX9_init 9 = .ok (.aload_n 0, 1) by decide +kernel) rfl (lv_at hl 0 rfl) ?_
  refine lv_aload_n hx hb (show decode cX9_init 10 = .ok (.aload_n 2, 1) by decide +kernel) rfl (lv_at hl 2 rfl) ?_
  refine k_putF C hin hW (ci := 9) (k := 1) (by decide +kernel) (Nat.le_of_ble_eq_true rfl) rfl rfl rfl rfl (show decode cX9_init 11 = .ok (.putfield 15, 3) by decide +kernel) (fun H locs hW => ?_)
  exact kk _ _ hW
theorem cX9_2 (h0 : Nat) (p0 : Nat) (p1 : Nat) (p2 : Nat) (p3 : Nat) (p4 : Nat) (C : CK 1 mX9_init K p { frames := 1, cells := 0, slots := 0, locals := 64 * 1 } s m args c) (hin : meth.name = "<init>") {old : va_W} (hl : lv_has ls 6 [(0, .ref h0), (1, .ref p0), (2, .ref p1), (3, .ref p2), (4, .ref p3), (5, .ref p4)]) (hW : WZ K A s H locs ((h0, .inr (9, [.ref p0, .ref p1, .null, .null, .null])) :: old))
    (kk : ∀ (H : Heap) (locs : List Loc), WZ K A s H locs ((h0, .inr (9, [.ref p0, .ref p1, .ref p2, .null, .null])) :: old) → W p l e { frames := 1, cells := 0, slots := 0, locals := 64 * 1 } s m args below meth c H locs 0 0 Q (F0 m 19 ls [])) : W p l e { frames := 1, cells := 0, slots := 0, locals := 64 * 1 } s m args below meth c H locs 0 0 Q (F0 m 14 ls []) := by
  obtain ⟨hx, hb, hml, hown, hts, hR, hK⟩ := id C
  refine lv_aload_n hx hb (show decode cX9_init 14 = .ok (.aload_n 0, 1) by decide +kernel) rfl (lv_at hl 0 rfl) ?_
  refine lv_aload_n hx hb (show decode cX9_init 15 = .ok (.aload_n 3, 1) by decide +kernel) rfl (lv_at hl 3 rfl) ?_
  refine k_putF C hin hW (ci := 9) (k := 2) (by decide +kernel) (Nat.le_of_ble_eq_true rfl) rfl rfl rfl rfl (show decode cX9_init 16 = .ok (.putfield 19, 3) by decide +kernel) (fun H locs hW => ?_)
  exact kk _ _ hW
theorem cX9_3 (h0 : Nat) (p0 : Nat) (p1 : Nat) (p2 : Nat) (p3 : Nat) (p4 : Nat) (C : CK 1 mX9_init K p { frames := 1, cells := 0, slots := 0, locals := 64 * 1 } s m args c) (hin : meth.name = "<init>") {old : va_W} (hl : lv_has ls 6 [(0, .ref h0), (1, .ref p0), (2, .ref p1), (3, .ref p2), (4, .ref p3), (5, .ref p4)]) (hW : WZ K A s H locs ((h0, .inr (9, [.ref p0, .ref p1, .ref p2, .null, .null])) :: old))
    (kk : ∀ (H : Heap) (locs : List Loc), WZ K A s H locs ((h0, .inr (9, [.ref p0, .ref p1, .ref p2, .ref p3, .null])) :: old) → W p l e { frames := 1, cells := 0, slots := 0, locals := 64 * 1 } s m args below meth c H locs 0 0 Q (F0 m 25 ls [])) : W p l e { frames := 1, cells := 0, slots := 0, locals := 64 * 1 } s m args below meth c H locs 0 0 Q (F0 m 19 ls []) := by
  obtain ⟨hx, hb, hml, hown, hts, hR, hK⟩ := id C
  refine lv_aload_n hx hb (show decode cX9_init 19 = .ok (.aload_n 0, 1) by decide +kernel) rfl (lv_at hl 0 rfl) ?_
  refine lv_aload hx hb (show decode cX9_init 20 = .ok (.aload 4, 2) by decide +kernel) (lv_at hl 4 rfl) ?_
  refine k_putF C hin hW (ci := 9) (k := 3) (by decide +kernel) (Nat.le_of_ble_eq_true rfl) rfl rfl rfl rfl (show decode cX9_init 22 = .ok (.putfield 23, 3) by decide +kernel) (fun H locs hW => ?_)
  exact kk _ _ hW
theorem cX9_4 (h0 : Nat) (p0 : Nat) (p1 : Nat) (p2 : Nat) (p3 : Nat) (p4 : Nat) (C : CK 1 mX9_init K p { frames := 1, cells := 0, slots := 0, locals := 64 * 1 } s m args c) (hin : meth.name = "<init>") {old : va_W} (hl : lv_has ls 6 [(0, .ref h0), (1, .ref p0), (2, .ref p1), (3, .ref p2), (4, .ref p3), (5, .ref p4)]) (hW : WZ K A s H locs ((h0, .inr (9, [.ref p0, .ref p1, .ref p2, .ref p3, .null])) :: old))
    (kk : ∀ (H : Heap) (locs : List Loc), WZ K A s H locs ((h0, .inr (9, [.ref p0, .ref p1, .ref p2, .ref p3, .ref p4])) :: old) → W p l e { frames := 1, cells := 0, slots := 0, locals := 64 * 1 } s m args below meth c H locs 0 0 Q (F0 m 31 ls [])) : W p l e { frames := 1, cells := 0, slots := 0, locals := 64 * 1 } s m args below meth c H locs 0 0 Q (F0 m 25 ls []) := by
  obtain ⟨hx, hb, hml, hown, hts, hR, hK⟩ := id C
  refine lv_aload_n hx hb (show decode cX9_init 25 = .ok (.aload_n 0, 1) by decide +kernel) rfl (lv_at hl 0 rfl) ?_
  refine lv_aload hx hb (show decode cX9_init 26 = .ok (.aload 5, 2) by decide +kernel) (lv_at hl 5 rfl) ?_
  refine k_putF C hin hW (ci := 9) (k := 4) (by decide +kernel) (Nat.le_of_ble_eq_true rfl) rfl rfl rfl rfl (show decode cX9_init 28 = .ok (.putfield 27, 3) by decide +kernel) (fun H locs hW => ?_)
  exact kk _ _ hW
def wX9 (K : Kk) (h0 p0 p1 p2 p3 p4 : Nat) (a : Nat → Nat) : va_W := (h0, .inr (9, [.ref p0, .ref p1, .ref p2, .ref p3, .ref p4])) :: []
set_option maxRecDepth 100000 in
theorem cX9 (l : Launch) (K : Kk) (p0 p1 p2 p3 p4 : Nat) : Cn l K mX9_init 9 1 0 0 [.ref p0, .ref p1, .ref p2, .ref p3, .ref p4] (fun h0 w => ∃ a : Nat → Nat, w = wX9 K h0 p0 p1 p2 p3 p4 a) := by
  refine toCn kX9_init.1 rfl rfl (fun _ => Nat.le_of_ble_eq_true rfl) (fun h0 p e s m args below meth c Q A C hin hW ls hl ret => ?_)
  obtain ⟨hx, hb, hml, hown, hts, hR, hK⟩ := id C
  replace hl : lv_has ls 6 [(0, .ref h0), (1, .ref p0), (2, .ref p1), (3, .ref p2), (4, .ref p3), (5, .ref p4)] := hl
  replace hW : WZ K A s s.heap [] ((h0, .inr (9, [.null, .null, .null, .null, .null])) :: []) := hW
  refine cX9_0 h0 p0 p1 p2 p3 p4 C hin hl hW (fun  H locs hW => ?_)
  refine cX9_1 h0 p0 p1 p2 p3 p4 C hin hl hW (fun  H locs hW => ?_)
  refine cX9_2 h0 p0 p1 p2 p3 p4 C hin hl hW (fun  H locs hW => ?_)
  refine cX9_3 h0 p0 p1 p2 p3 p4 C hin hl hW (fun  H locs hW => ?_)
  refine cX9_4 h0 p0 p1 p2 p3 p4 C hin hl hW (fun  H locs hW => ?_)
  exact ret _ _ _ _ 31 hW ⟨fun n => [].getD n 0, rfl⟩ (show decode cX9_init 31 = .ok (.return_, 1) by decide +kernel)
theorem cX4_0 (h0 : Nat) (p0 : Nat) (p1 : Nat) (p2 : Nat) (C : CK 1 mX4_init K p { frames := 1, cells := 4, slots := 40, locals := 64 * 1 } s m args c) (hin : meth.name = "<init>") {old : va_W} (hl : lv_has ls 4 [(0, .ref h0), (1, .ref p0), (2, .ref p1), (3, .ref p2)]) (hW : WZ K A s H locs ((h0, .inr (4, [.null, .null, .null, .null, .null, .null, .null, .int 0])) :: old))
    (kk : ∀ (q0 : Nat) (H : Heap) (locs : List Loc), WZ K A s H locs ((h0, .inr (4, [.null, .null, .null, .ref q0, .null, .null, .null, .int 0])) :: (old ++ [(q0, .inl (K.2.1, 10, .inl (fun _ => 0)))])) → W p l e { frames := 1, cells := 4, slots := 40, locals := 64 * 1 } s m args below meth c H locs 1 10 Q (F0 m 12 ls [])) : W p l e { frames := 1, cells := 4, slots := 40, locals := 64 * 1 } s m args below meth c H locs 0 0 Q (F0 m 0 ls []) := by
  obtain ⟨hx, hb, hml, hown, hts, hR, hK⟩ := id C
  refine lv_aload_n hx hb (show decode cX4_init 0 = .ok (.aload_n 0, 1) by decide +kernel) rfl (lv_at hl 0 rfl) ?_
  refine k_obj C (gT2 (i := 73) (by decide +kernel) rfl) oI_in oI_co (by decide) hl.1 (show decode cX4_init 1 = .ok (.invokespecial 3, 3) by decide +kernel) ?_
  refine lv_aload_n hx hb (show decode cX4_init 4 = .ok (.aload_n 0, 1) by decide +kernel) rfl (lv_at hl 0 rfl) ?_
  refine lv_bipush (v := n32 10) hx hb (show decode cX4_init 5 = .ok (.bipush 10, 2) by decide +kernel) (bip ⟨by decide, by decide⟩) ?_
  refine k_newi C hW (N := 10) ⟨by decide, by decide⟩ rfl (by decide) (by decide) (show decode cX4_init 7 = .ok (.newarray .int, 2) by decide +kernel) (fun q0 H hW => ?_)
  refine W.widen (k := 1) (n := 10) (by decide) (by decide) ?_
  replace hW : WZ K A s _ _ ((h0, .inr (4, [.null, .null, .null, .null, .null, .null, .null, .int 0])) :: (old ++ [(q0, .inl (K.2.1, 10, .inl (fun _ => 0)))])) := hW
  refine k_putF C hin hW (ci := 4) (k := 3) (by decide +kernel) (Nat.le_of_ble_eq_true rfl) rfl rfl rfl rfl (show decode cX4_init 9 = .ok (.putfield 9, 3) by decide +kernel) (fun H locs hW => ?_)
  exact kk q0 _ _ hW
theorem cX4_1 (h0 : Nat) (p0 : Nat) (p1 : Nat) (p2 : Nat) (q0 : Nat) (C : CK 1 mX4_init K p { frames := 1, cells := 4, slots := 40, locals := 64 * 1 } s m args c) (hin : meth.name = "<init>") {old : va_W} (hl : lv_has ls 4 [(0, .ref h0), (1, .ref p0), (2, .ref p1), (3, .ref p2)]) (hW : WZ K A s H locs ((h0, .inr (4, [.null, .null, .null, .ref q0, .null, .null, .null, .int 0])) :: old))
    (kk : ∀ (q1 : Nat) (H : Heap) (locs : List Loc), WZ K A s H locs ((h0, .inr (4, [.null, .null, .null, .ref q0, .ref q1, .null, .null, .int 0])) :: (old ++ [(q1, .inl (K.2.1, 10, .inl (fun _ => 0)))])) → W p l e { frames := 1, cells := 4, slots := 40, locals := 64 * 1 } s m args below meth c H locs 2 20 Q (F0 m 20 ls [])) : W p l e { frames := 1, cells := 4, slots := 40, locals := 64 * 1 } s m args below meth c H locs 1 10 Q (F0 m 12 ls []) := by
  obtain ⟨hx, hb, hml, hown, hts, hR, hK⟩ := id C
  refine lv_aload_n hx hb (show decode cX4_init 12 = .ok (.aload_n 0, 1) by decide +kernel) rfl (lv_at hl 0 rfl) ?_
  refine lv_bipush (v := n32 10) hx hb (show decode cX4_init 13 = .ok (.bipush 10, 2) by decide +kernel) (bip ⟨by decide, by decide⟩) ?_
  refine k_newi C hW (N := 10) ⟨by decide, by decide⟩ rfl (by decide) (by decide) (show decode cX4_init 15 = .ok (.newarray .int, 2) by decide +kernel) (fun q1 H hW => ?_)
  refine W.widen (k := 2) (n := 20) (by decide) (by decide) ?_
  replace hW : WZ K A s _ _ ((h0, .inr (4, [.null, .null, .null, .ref q0, .null, .null, .null, .int 0])) :: (old ++ [(q1, .inl (K.2.1, 10, .inl (fun _ => 0)))])) := hW
  refine k_putF C hin hW (ci := 4) (k := 4) (by decide +kernel) (Nat.le_of_ble_eq_true rfl) rfl rfl rfl rfl (show decode cX4_init 17 = .ok (.putfield 15, 3) by decide +kernel) (fun H locs hW => ?_)
  exact kk q1 _ _ hW
theorem cX4_2 (h0 : Nat) (p0 : Nat) (p1 : Nat) (p2 : Nat) (q0 : Nat) (q1 : Nat) (C : CK 1 mX4_init K p { frames := 1, cells := 4, slots := 40, locals := 64 * 1 } s m args c) (hin : meth.name = "<init>") {old : va_W} (hl : lv_has ls 4 [(0, .ref h0), (1, .ref p0), (2, .ref p1), (3, .ref p2)]) (hW : WZ K A s H locs ((h0, .inr (4, [.null, .null, .null, .ref q0, .ref q1, .null, .null, .int 0])) :: old))
    (kk : ∀ (q2 : Nat) (H : Heap) (locs : List Loc), WZ K A s H locs ((h0, .inr (4, [.null, .null, .null, .ref q0, .ref q1, .ref q2, .null, .int 0])) :: (old ++ [(q2, .inl (K.2.1, 10, .inl (fun _ => 0)))])) → W p l e { frames := 1, cells := 4, slots := 40, locals := 64 * 1 } s m args below meth c H locs 3 30 Q (F0 m 28 ls [])) : W p l e { frames := 1, cells := 4, slots := 40, locals := 64 * 1 } s m args below meth c H locs 2 20 Q (F0 m 20 ls []) := by
  obtain ⟨hx, hb, hml, hown, hts, hR, hK⟩ := id C
  refine lv_aload_n hx hb (show decode cX4_init 20 = .ok (.aload_n 0, 1) by decide +kernel) rfl (lv_at hl 0 rfl) ?_
  refine lv_bipush (v := n32 10) hx hb (show decode cX4_init 21 = .ok (.bipush 10, 2) by decide +kernel) (bip ⟨by decide, by decide⟩) ?_
  refine k_newi C hW (N := 10) ⟨by decide, by decide⟩ rfl (by decide) (by decide) (show decode cX4_init 23 = .ok (.newarray .int, 2) by decide +kernel) (fun q2 H hW => ?_)
  refine W.widen (k := 3) (n := 30) (by decide) (by decide) ?_
  replace hW : WZ K A s _ _ ((h0, .inr (4, [.null, .null, .null, .ref q0, .ref q1, .null, .null, .int 0])) :: (old ++ [(q2, .inl (K.2.1, 10, .inl (fun _ => 0)))])) := hW
  refine k_putF C hin hW (ci := 4) (k := 5) (by decide +kernel) (Nat.le_of_ble_eq_true rfl) rfl rfl rfl rfl (show decode cX4_init 25 = .ok (.putfield 18, 3) by decide +kernel) (fun H locs hW => ?_)
  exact kk q2 _ _ hW
theorem cX4_3 (h0 : Nat) (p0 : Nat) (p1 : Nat) (p2 : Nat) (q0 : Nat) (q1 : Nat) (q2 : Nat) (C : CK 1 mX4_init K p { frames := 1, cells := 4, slots := 40, locals := 64 * 1 } s m args c) (hin : meth.name = "<init>") {old : va_W} (hl : lv_has ls 4 [(0, .ref h0), (1, .ref p0), (2, .ref p1), (3, .ref p2)]) (hW : WZ K A s H locs ((h0, .inr (4, [.null, .null, .null, .ref q0, .ref q1, .ref q2, .null, .int 0])) :: old))
    (kk : ∀ (q3 : Nat) (H : Heap) (locs : List Loc), WZ K A s H locs ((h0, .inr (4, [.null, .null, .null, .ref q0, .ref q1, .ref q2, .ref q3, .int 0])) :: (old ++ [(q3, .inl (K.2.1, 10, .inl (fun _ => 0)))])) → W p l e { frames := 1, cells := 4, slots := 40, locals := 64 * 1 } s m args below meth c H locs 4 40 Q (F0 m 36 ls [])) : W p l e { frames := 1, cells := 4, slots := 40, locals := 64 * 1 } s m args below meth c H locs 3 30 Q (F0 m 28 ls []) := by
  obtain ⟨hx, hb, hml, hown, hts, hR, hK⟩ := id C
  refine lv_aload_n hx hb (show decode cX4_init 28 = .ok (.aload_n 0, 1) by decide +kernel) rfl (lv_at hl 0 rfl) ?_
  refine lv_bipush (v := n32 10) hx hb (show decode cX4_init 29 = .ok (.bipush 10, 2) by decide +kernel) (bip ⟨by decide, by decide⟩) ?_
  refine k_newi C hW (N := 10) ⟨by decide, by decide⟩ rfl (by decide) (by decide) (show decode cX4_init 31 = .ok (.newarray .int, 2) by decide +kernel) (fun q3 H hW => ?_)
  refine W.widen (k := 4) (n := 40) (by decide) (by decide) ?_
  replace hW : WZ K A s _ _ ((h0, .inr (4, [.null, .null, .null, .ref q0, .ref q1, .ref q2, .null, .int 0])) :: (old ++ [(q3, .inl (K.2.1, 10, .inl (fun _ => 0)))])) := hW
  refine k_putF C hin hW (ci := 4) (k := 6) (by decide +kernel) (Nat.le_of_ble_eq_true rfl) rfl rfl rfl rfl (show decode cX4_init 33 = .ok (.putfield 21, 3) by decide +kernel) (fun H locs hW => ?_)
  exact kk q3 _ _ hW
theorem cX4_4 (h0 : Nat) (p0 : Nat) (p1 : Nat) (p2 : Nat) (q0 : Nat) (q1 : Nat) (q2 : Nat) (q3 : Nat) (C : CK 1 mX4_init K p { frames := 1, cells := 4, slots := 40, locals := 64 * 1 } s m args c) (hin : meth.name = "<init>") {old : va_W} (hl : lv_has ls 4 [(0, .ref h0), (1, .ref p0), (2, .ref p1), (3, .ref p2)]) (hW : WZ K A s H locs ((h0, .inr (4, [.null, .null, .null, .ref q0, .ref q1, .ref q2, .ref q3, .int 0])) :: old))
    (kk : ∀ (H : Heap) (locs : List Loc), WZ K A s H locs ((h0, .inr (4, [.ref p0, .null, .null, .ref q0, .ref q1, .ref q2, .ref q3, .int 0])) :: old) → W p l e { frames := 1, cells := 4, slots := 40, locals := 64 * 1 } s m args below meth c H locs 4 40 Q (F0 m 41 ls [])) : W p l e { frames := 1, cells := 4, slots := 40, locals := 64 * 1 } s m args below meth c H locs 4 40 Q (F0 m 36 ls []) := by
  obtain ⟨hx, hb, hml, hown, hts, hR, hK⟩ := id C
  refine lv_aload_n hx hb (show decode cX4_init 36 = .ok (.aload_n 0, 1) by decide +kernel) rfl (lv_at hl 0 rfl) ?_
  refine lv_aload_n hx hb (show decode cX4_init 37 = .ok (.aload_n 1, 1) by decide +kernel) rfl (lv_at hl 1 rfl) ?_
  refine k_putF C hin hW (ci := 4) (k := 0) (by decide +kernel) (Nat.le_of_ble_eq_true rfl) rfl rfl rfl rfl (show decode cX4_init 38 = .ok (.putfield 24, 3) by decide +kernel) (fun H locs hW => ?_)
  exact kk _ _ hW
theorem cX4_5 (h0 : Nat) (p0 : Nat) (p1 : Nat) (p2 : Nat) (q0 : Nat) (q1 : Nat) (q2 : Nat) (q3 : Nat) (C : CK 1 mX4_init K p { frames := 1, cells := 4, slots := 40, locals := 64 * 1 } s m args c) (hin : meth.name = "<init>") {old : va_W} (hl : lv_has ls 4 [(0, .ref h0), (1, .ref p0), (2, .ref p1), (3, .ref p2)]) (hW : WZ K A s H locs ((h0, .inr (4, [.ref p0, .null, .null, .ref q0, .ref q1, .ref q2, .ref q3, .int 0])) :: old))
    (kk : ∀ (H : Heap) (locs : List Loc), WZ K A s H locs ((h0, .inr (4, [.ref p0, .ref p1, .null, .ref q0, .ref q1, .ref q2, .ref q3, .int 0])) :: old) → W p l e { frames := 1, cells := 4, slots := 40, locals := 64 * 1 } s m args below meth c H locs 4 40 Q (F0 m 46 ls [])) : W p l e { frames := 1, cells := 4, slots := 40, locals := 64 * 1 } s m args below meth c H locs 4 40 Q (F0 m 41 ls []) := by
  obtain ⟨hx, hb, hml, hown, hts, hR, hK⟩ := id C
  refine lv_aload_n hx hb (show decode cX4_init 41 = .ok (.aload_n 0, 1) by decide +kernel) rfl (lv_at hl 0 rfl) ?_
  refine lv_aload_n hx hb (show decode cX4_init 42 = .ok (.aload_n 2, 1) by decide +kernel) rfl (lv_at hl 2 rfl) ?_
  refine k_putF C hin hW (ci := 4) (k := 1) (by decide +kernel) (Nat.le_of_ble_eq_true rfl) rfl rfl rfl rfl (show decode cX4_init 43 = .ok (.putfield 28, 3) by decide +kernel) (fun H locs hW => ?_)
  exact kk _ _ hW
theorem cX4_6 (h0 : Nat) (p0 : Nat) (p1 : Nat) (p2 : Nat) (q0 : Nat) (q1 : Nat) (q2 : Nat) (q3 : Nat) (C : CK 1 mX4_init K p { frames := 1, cells := 4, slots := 40, locals := 64 * 1 } s m args c) (hin : meth.name = "<init>") {old : va_W} (hl : lv_has ls 4 [(0, .ref h0), (1, .ref p0), (2, .ref p1), (3, .ref p2)]) (hW : WZ K A s H locs ((h0, .inr (4, [.ref p0, .ref p1, .null, .ref q0, .ref q1, .ref q2, .ref q3, .int 0])) :: old))
    (kk : ∀ (H : Heap) (locs : List Loc), WZ K A s H locs ((h0, .inr (4, [.ref p0, .ref p1, .ref p2, .ref q0, .ref q1, .ref q2, .ref q3, .int 0])) :: old) → W p l e { frames := 1, cells := 4, slots := 40, locals := 64 * 1 } s m args below meth c H locs 4 40 Q (F0 m 51 ls [])) : W p l e { frames := 1, cells := 4, slots := 40, locals := 64 * 1 } s m args below meth c H locs 4 40 Q (F0 m 46 ls []) := by
  obtain ⟨hx, hb, hml, hown, hts, hR, hK⟩ := id C
  refine lv_aload_n hx hb (show decode cX4_init 46 = .ok (.aload_n 0, 1) by decide +kernel) rfl (lv_at hl 0 rfl) ?_
  refine lv_aload_n hx hb (show decode cX4_init 47 = .ok (.aload_n 3, 1) by decide +kernel) rfl (lv_at hl 3 rfl) ?_
  refine k_putF C hin hW (ci := 4) (k := 2) (by decide +kernel) (Nat.le_of_ble_eq_true rfl) rfl rfl rfl rfl (show decode cX4_init 48 = .ok (.putfield 32, 3) by decide +kernel) (fun H locs hW => ?_)
  exact kk _ _ hW
def wX4 (K : Kk) (h0 p0 p1 p2 : Nat) (a : Nat → Nat) : va_W := (h0, .inr (4, [.ref p0, .ref p1, .ref p2, .ref (a 0), .ref (a 1), .ref (a 2), .ref (a 3), .int 0])) :: ((([((a 0), .inl (K.2.1, 10, .inl (fun _ => 0)))] ++ [((a 1), .inl (K.2.1, 10, .inl (fun _ => 0)))]) ++ [((a 2), .inl (K.2.1, 10, .inl (fun _ => 0)))]) ++ [((a 3), .inl (K.2.1, 10, .inl (fun _ => 0)))])
set_option maxRecDepth 100000 in
theorem cX4 (l : Launch) (K : Kk) (p0 p1 p2 : Nat) : Cn l K mX4_init 4 1 4 40 [.ref p0, .ref p1, .ref p2] (fun h0 w => ∃ a : Nat → Nat, w = wX4 K h0 p0 p1 p2 a) := by
  refine toCn kX4_init.1 rfl rfl (fun _ => Nat.le_of_ble_eq_true rfl) (fun h0 p e s m args below meth c Q A C hin hW ls hl ret => ?_)
  obtain ⟨hx, hb, hml, hown, hts, hR, hK⟩ := id C
  replace hl : lv_has ls 4 [(0, .ref h0), (1, .ref p0), (2, .ref p1), (3, .ref p2)] := hl
  replace hW : WZ K A s s.heap [] ((h0, .inr (4, [.null, .null, .null, .null, .null, .null, .null, .int 0])) :: []) := hW
  refine cX4_0 h0 p0 p1 p2 C hin hl hW (fun q0 H locs hW => ?_)
  replace hW : WZ K A s H locs ((h0, .inr (4, [.null, .null, .null, .ref q0, .null, .null, .null, .int 0])) :: [(q0, .inl (K.2.1, 10, .inl (fun _ => 0)))]) := hW
  refine cX4_1 h0 p0 p1 p2 q0 C hin hl hW (fun q1 H locs hW => ?_)
  refine cX4_2 h0 p0 p1 p2 q0 q1 C hin hl hW (fun q2 H locs hW => ?_)
  refine cX4_3 h0 p0 p1 p2 q0 q1 q2 C hin hl hW (fun q3 H locs hW => ?_)
  refine cX4_4 h0 p0 p1 p2 q0 q1 q2 q3 C hin hl hW (fun  H locs hW => ?_)
  refine cX4_5 h0 p0 p1 p2 q0 q1 q2 q3 C hin hl hW (fun  H locs hW => ?_)
  refine cX4_6 h0 p0 p1 p2 q0 q1 q2 q3 C hin hl hW (fun  H locs hW => ?_)
  exact ret _ _ _ _ 51 hW ⟨fun n => [q0, q1, q2, q3].getD n 0, rfl⟩ (show decode cX4_init 51 = .ok (.return_, 1) by decide +kernel)
theorem cX0_0 (h0 : Nat) (p0 : Nat) (p1 : Nat) (C : CK 1 mX0_init K p { frames := 1, cells := 11, slots := 110, locals := 64 * 1 } s m args c) (hin : meth.name = "<init>") {old : va_W} (hl : lv_has ls 3 [(0, .ref h0), (1, .ref p0), (2, .ref p1)]) (hW : WZ K A s H locs ((h0, .inr (0, [.null, .null, .null])) :: old))
    (kk : ∀ (q0 : Nat) (H : Heap) (locs : List Loc), WZ K A s H locs ((h0, .inr (0, [.null, .null, .ref q0])) :: (old ++ rowsW K q0)) → W p l e { frames := 1, cells := 11, slots := 110, locals := 64 * 1 } s m args below meth c H locs 11 110 Q (F0 m 16 ls [])) : W p l e { frames := 1, cells := 11, slots := 110, locals := 64 * 1 } s m args below meth c H locs 0 0 Q (F0 m 0 ls []) := by
  obtain ⟨hx, hb, hml, hown, hts, hR, hK⟩ := id C
  refine lv_aload_n hx hb (show decode cX0_init 0 = .ok (.aload_n 0, 1) by decide +kernel) rfl (lv_at hl 0 rfl) ?_
  refine k_obj C (gT2 (i := 0) (by decide +kernel) rfl) oI_in oI_co (by decide) hl.1 (show decode cX0_init 1 = .ok (.invokespecial 3, 3) by decide +kernel) ?_
  refine lv_aload_n hx hb (show decode cX0_init 4 = .ok (.aload_n 0, 1) by decide +kernel) rfl (lv_at hl 0 rfl) ?_
  refine lv_bipush (v := n32 10) hx hb (show decode cX0_init 5 = .ok (.bipush 10, 2) by decide +kernel) (bip ⟨by decide, by decide⟩) ?_
  refine lv_bipush (v := n32 10) hx hb (show decode cX0_init 7 = .ok (.bipush 10, 2) by decide +kernel) (bip ⟨by decide, by decide⟩) ?_
  refine k_multi C hW (gT2 (i := 1) (by decide +kernel) rfl) (by decide) (by decide) (show decode cX0_init 9 = .ok (.multianewarray 9 2, 4) by decide +kernel) (fun q0 H locs hW => ?_)
  refine W.widen (k := 11) (n := 110) (by decide) (by decide) ?_
  replace hW : WZ K A s _ _ ((h0, .inr (0, [.null, .null, .null])) :: (old ++ rowsW K q0)) := hW
  refine k_putF C hin hW (ci := 0) (k := 2) (by decide +kernel) (Nat.le_of_ble_eq_true rfl) rfl rfl rfl rfl (show decode cX0_init 13 = .ok (.putfield 11, 3) by decide +kernel) (fun H locs hW => ?_)
  exact kk q0 _ _ hW
theorem cX0_1 (h0 : Nat) (p0 : Nat) (p1 : Nat) (q0 : Nat) (C : CK 1 mX0_init K p { frames := 1, cells := 11, slots := 110, locals := 64 * 1 } s m args c) (hin : meth.name = "<init>") {old : va_W} (hl : lv_has ls 3 [(0, .ref h0), (1, .ref p0), (2, .ref p1)]) (hW : WZ K A s H locs ((h0, .inr (0, [.null, .null, .ref q0])) :: old))
    (kk : ∀ (H : Heap) (locs : List Loc), WZ K A s H locs ((h0, .inr (0, [.ref p0, .null, .ref q0])) :: old) → W p l e { frames := 1, cells := 11, slots := 110, locals := 64 * 1 } s m args below meth c H locs 11 110 Q (F0 m 21 ls [])) : W p l e { frames := 1, cells := 11, slots := 110, locals := 64 * 1 } s m args below meth c H locs 11 110 Q (F0 m 16 ls []) := by
  obtain ⟨hx, hb, hml, hown, hts, hR, hK⟩ := id C
  refine lv_aload_n hx hb (show decode cX0_init 16 = .ok (.aload_n 0, 1) by decide +kernel) rfl (lv_at hl 0 rfl) ?_
  refine lv_aload_n hx hb (show decode cX0_init 17 = .ok (.aload_n 1, 1) by decide +kernel) rfl (lv_at hl 1 rfl) ?_
  refine k_putF C hin hW (ci := 0) (k := 0) (by decide +kernel) (Nat.le_of_ble_eq_true rfl) rfl rfl rfl rfl (show decode cX0_init 18 = .ok (.putfield 16, 3) by decide +kernel) (fun H locs hW => ?_)
  exact kk _ _ hW
theorem cX0_2 (h0 : Nat) (p0 : Nat) (p1 : Nat) (q0 : Nat) (C : CK 1 mX0_init K p { frames := 1, cells := 11, slots := 110, locals := 64 * 1 } s m args c) (hin : meth.name = "<init>") {old : va_W} (hl : lv_has ls 3 [(0, .ref h0), (1, .ref p0), (2, .ref p1)]) (hW : WZ K A s H locs ((h0, .inr (0, [.ref p0, .null, .ref q0])) :: old))
    (kk : ∀ (H : Heap) (locs : List Loc), WZ K A s H locs ((h0, .inr (0, [.ref p0, .ref p1, .ref q0])) :: old) → W p l e { frames := 1, cells := 11, slots := 110, locals := 64 * 1 } s m args below meth c H locs 11 110 Q (F0 m 26 ls [])) : W p l e { frames := 1, cells := 11, slots := 110, locals := 64 * 1 } s m args below meth c H locs 11 110 Q (F0 m 21 ls []) := by
  obtain ⟨hx, hb, hml, hown, hts, hR, hK⟩ := id C
  refine lv_aload_n hx hb (show decode cX0_init 21 = .ok (.aload_n 0, 1) by decide +kernel) rfl (lv_at hl 0 rfl) ?_
  refine lv_aload_n hx hb (show decode cX0_init 22 = .ok (.aload_n 2, 1) by decide +kernel) rfl (lv_at hl 2 rfl) ?_
  refine k_putF C hin hW (ci := 0) (k := 1) (by decide +kernel) (Nat.le_of_ble_eq_true rfl) rfl rfl rfl rfl (show decode cX0_init 23 = .ok (.putfield 20, 3) by decide +kernel) (fun H locs hW => ?_)
  exact kk _ _ hW
def wX0 (K : Kk) (h0 p0 p1 : Nat) (a : Nat → Nat) : va_W := (h0, .inr (0, [.ref p0, .ref p1, .ref (a 0)])) :: rowsW K (a 0)
set_option maxRecDepth 100000 in
theorem cX0 (l : Launch) (K : Kk) (p0 p1 : Nat) : Cn l K mX0_init 0 1 11 110 [.ref p0, .ref p1] (fun h0 w => ∃ a : Nat → Nat, w = wX0 K h0 p0 p1 a) := by
  refine toCn kX0_init.1 rfl rfl (fun _ => Nat.le_of_ble_eq_true rfl) (fun h0 p e s m args below meth c Q A C hin hW ls hl ret => ?_)
  obtain ⟨hx, hb, hml, hown, hts, hR, hK⟩ := id C
  replace hl : lv_has ls 3 [(0, .ref h0), (1, .ref p0), (2, .ref p1)] := hl
  replace hW : WZ K A s s.heap [] ((h0, .inr (0, [.null, .null, .null])) :: []) := hW
  refine cX0_0 h0 p0 p1 C hin hl hW (fun q0 H locs hW => ?_)
  replace hW : WZ K A s H locs ((h0, .inr (0, [.null, .null, .ref q0])) :: rowsW K q0) := hW
  refine cX0_1 h0 p0 p1 q0 C hin hl hW (fun  H locs hW => ?_)
  refine cX0_2 h0 p0 p1 q0 C hin hl hW (fun  H locs hW => ?_)
  exact ret _ _ _ _ 26 hW ⟨fun n => [q0].getD n 0, rfl⟩ (show decode cX0_init 26 = .ok (.return_, 1) by decide +kernel)
theorem cX3_0 (h0 : Nat) (p0 : Nat) (C : CK 2 mX3_init K p { frames := 2, cells := 12, slots := 123, locals := 64 * 2 } s m args c) (hin : meth.name = "<init>") {old : va_W} (hl : lv_has ls 2 [(0, .ref h0), (1, .ref p0)]) (hW : WZ K A s H locs ((h0, .inr (3, [.null, .null, .int 0, .int 0, .int 0, .null, .int 0])) :: old))
    (kk : ∀ (q0 : Nat) (a0 : Nat → Nat) (H : Heap) (locs : List Loc), WZ K A s H locs ((h0, .inr (3, [.null, .ref q0, .int 0, .int 0, .int 0, .null, .int 0])) :: (old ++ wX6 K q0 a0)) → W p l e { frames := 2, cells := 12, slots := 123, locals := 64 * 2 } s m args below meth c H locs 11 119 Q (F0 m 15 ls [])) : W p l e { frames := 2, cells := 12, slots := 123, locals := 64 * 2 } s m args below meth c H locs 0 0 Q (F0 m 0 ls []) := by
  obtain ⟨hx, hb, hml, hown, hts, hR, hK⟩ := id C
  refine lv_aload_n hx hb (show decode cX3_init 0 = .ok (.aload_n 0, 1) by decide +kernel) rfl (lv_at hl 0 rfl) ?_
  refine k_obj C (gT1 (i := 154) (by decide +kernel) rfl) oI_in oI_co (by decide) hl.1 (show decode cX3_init 1 = .ok (.invokespecial 3, 3) by decide +kernel) ?_
  refine lv_aload_n hx hb (show decode cX3_init 4 = .ok (.aload_n 0, 1) by decide +kernel) rfl (lv_at hl 0 rfl) ?_
  refine k_new (ci := 6) C hW (by decide) (gT1 (i := 155) (by decide +kernel) rfl) nI6 nZ6 (by decide) (by decide) (show decode cX3_init 5 = .ok (.new 9, 3) by decide +kernel) (fun q0 H hW => ?_)
  refine W.widen (k := 1) (n := 17) (by decide) (by decide) ?_
  refine lv_dup hx hb (show decode cX3_init 8 = .ok (.dup, 1) by decide +kernel) rfl ?_
  refine k_callN C hW (as := []) (q := q0) (cX6 l K) kX6_init rfl rfl iX6_init (host := "OneWayTillNoon") (lT1 (i := 156) (by decide +kernel)) (by decide) rfl hl.1 (Nat.le_of_ble_eq_true rfl) (by decide) (by decide) (show decode cX3_init 9 = .ok (.invokespecial 11, 3) by decide +kernel) rfl (fun w1 H locs hw1 hW => ?_)
  obtain ⟨a0, rfl⟩ := hw1
  refine W.widen (k := 11) (n := 119) (by decide) (by decide) ?_
  replace hW : WZ K A s _ _ ((h0, .inr (3, [.null, .null, .int 0, .int 0, .int 0, .null, .int 0])) :: (old ++ wX6 K q0 a0)) := hW
  refine k_putF C hin hW (ci := 3) (k := 1) (by decide +kernel) (Nat.le_of_ble_eq_true rfl) rfl rfl rfl rfl (show decode cX3_init 12 = .ok (.putfield 12, 3) by decide +kernel) (fun H locs hW => ?_)
  exact kk q0 a0 _ _ hW
theorem cX3_1 (h0 : Nat) (p0 : Nat) (q0 : Nat) (C : CK 2 mX3_init K p { frames := 2, cells := 12, slots := 123, locals := 64 * 2 } s m args c) (hin : meth.name = "<init>") {old : va_W} (hl : lv_has ls 2 [(0, .ref h0), (1, .ref p0)]) (hW : WZ K A s H locs ((h0, .inr (3, [.null, .ref q0, .int 0, .int 0, .int 0, .null, .int 0])) :: old))
    (kk : ∀ (q2 : Nat) (H : Heap) (locs : List Loc), WZ K A s H locs ((h0, .inr (3, [.null, .ref q0, .int 0, .int 0, .int 0, .ref q2, .int 0])) :: (old ++ [(q2, .inl (K.2.1, 4, .inl (fun _ => 0)))])) → W p l e { frames := 2, cells := 12, slots := 123, locals := 64 * 2 } s m args below meth c H locs 12 123 Q (F0 m 22 ls [])) : W p l e { frames := 2, cells := 12, slots := 123, locals := 64 * 2 } s m args below meth c H locs 11 119 Q (F0 m 15 ls []) := by
  obtain ⟨hx, hb, hml, hown, hts, hR, hK⟩ := id C
  refine lv_aload_n hx hb (show decode cX3_init 15 = .ok (.aload_n 0, 1) by decide +kernel) rfl (lv_at hl 0 rfl) ?_
  refine lv_iconst (v := n32 4) hx hb (show decode cX3_init 16 = .ok (.iconst 4, 1) by decide +kernel) rfl ?_
  refine k_newi C hW (N := 4) ⟨by decide, by decide⟩ rfl (by decide) (by decide) (show decode cX3_init 17 = .ok (.newarray .int, 2) by decide +kernel) (fun q2 H hW => ?_)
  refine W.widen (k := 12) (n := 123) (by decide) (by decide) ?_
  replace hW : WZ K A s _ _ ((h0, .inr (3, [.null, .ref q0, .int 0, .int 0, .int 0, .null, .int 0])) :: (old ++ [(q2, .inl (K.2.1, 4, .inl (fun _ => 0)))])) := hW
  refine k_putF C hin hW (ci := 3) (k := 5) (by decide +kernel) (Nat.le_of_ble_eq_true rfl) rfl rfl rfl rfl (show decode cX3_init 19 = .ok (.putfield 18, 3) by decide +kernel) (fun H locs hW => ?_)
  exact kk q2 _ _ hW
theorem cX3_2 (h0 : Nat) (p0 : Nat) (q0 : Nat) (q2 : Nat) (C : CK 2 mX3_init K p { frames := 2, cells := 12, slots := 123, locals := 64 * 2 } s m args c) (hin : meth.name = "<init>") {old : va_W} (hl : lv_has ls 2 [(0, .ref h0), (1, .ref p0)]) (hW : WZ K A s H locs ((h0, .inr (3, [.null, .ref q0, .int 0, .int 0, .int 0, .ref q2, .int 0])) :: old))
    (kk : ∀ (H : Heap) (locs : List Loc), WZ K A s H locs ((h0, .inr (3, [.ref p0, .ref q0, .int 0, .int 0, .int 0, .ref q2, .int 0])) :: old) → W p l e { frames := 2, cells := 12, slots := 123, locals := 64 * 2 } s m args below meth c H locs 12 123 Q (F0 m 27 ls [])) : W p l e { frames := 2, cells := 12, slots := 123, locals := 64 * 2 } s m args below meth c H locs 12 123 Q (F0 m 22 ls []) := by
  obtain ⟨hx, hb, hml, hown, hts, hR, hK⟩ := id C
  refine lv_aload_n hx hb (show decode cX3_init 22 = .ok (.aload_n 0, 1) by decide +kernel) rfl (lv_at hl 0 rfl) ?_
  refine lv_aload_n hx hb (show decode cX3_init 23 = .ok (.aload_n 1, 1) by decide +kernel) rfl (lv_at hl 1 rfl) ?_
  refine k_putF C hin hW (ci := 3) (k := 0) (by decide +kernel) (Nat.le_of_ble_eq_true rfl) rfl rfl rfl rfl (show decode cX3_init 24 = .ok (.putfield 22, 3) by decide +kernel) (fun H locs hW => ?_)
  exact kk _ _ hW
def wX3 (K : Kk) (h0 p0 : Nat) (a : Nat → Nat) : va_W := (h0, .inr (3, [.ref p0, .ref (a 0), .int 0, .int 0, .int 0, .ref (a 11), .int 0])) :: (wX6 K (a 0) (fun n => a (1 + n)) ++ [((a 11), .inl (K.2.1, 4, .inl (fun _ => 0)))])
set_option maxRecDepth 100000 in
theorem cX3 (l : Launch) (K : Kk) (p0 : Nat) : Cn l K mX3_init 3 2 12 123 [.ref p0] (fun h0 w => ∃ a : Nat → Nat, w = wX3 K h0 p0 a) := by
  refine toCn kX3_init.1 rfl rfl (fun _ => Nat.le_of_ble_eq_true rfl) (fun h0 p e s m args below meth c Q A C hin hW ls hl ret => ?_)
  obtain ⟨hx, hb, hml, hown, hts, hR, hK⟩ := id C
  replace hl : lv_has ls 2 [(0, .ref h0), (1, .ref p0)] := hl
  replace hW : WZ K A s s.heap [] ((h0, .inr (3, [.null, .null, .int 0, .int 0, .int 0, .null, .int 0])) :: []) := hW
  refine cX3_0 h0 p0 C hin hl hW (fun q0 a0 H locs hW => ?_)
  replace hW : WZ K A s H locs ((h0, .inr (3, [.null, .ref q0, .int 0, .int 0, .int 0, .null, .int 0])) :: wX6 K q0 a0) := hW
  refine cX3_1 h0 p0 q0 C hin hl hW (fun q2 H locs hW => ?_)
  refine cX3_2 h0 p0 q0 q2 C hin hl hW (fun  H locs hW => ?_)
  exact ret _ _ _ _ 27 hW ⟨fun n => [q0, (a0 0), (a0 1), (a0 2), (a0 3), (a0 4), (a0 5), (a0 6), (a0 7), (a0 8), (a0 9), q2].getD n 0, rfl⟩ (show decode cX3_init 27 = .ok (.return_, 1) by decide +kernel)
end Ctors
