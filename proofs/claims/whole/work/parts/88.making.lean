/-! the making of the cells: rules -/
abbrev Kk : Type := va_G × ClassId × ClassId × ClassId × ClassId
def tyK (K : Kk) : List (ClassId × FieldType) := [(K.2.1, .int), (K.2.2.1, .boolean), (K.2.2.2.1, .array .int), (K.2.2.2.2, .object RX4)]
def AOs (U : State) : Prop := ∀ ty, ty = FieldType.object RX4 ∨ ty = FieldType.array .int → (Cond.arrayOver ty).before #[] U = true
theorem AOs.moved {u U : State} (hvm : u.vm.Alike U.vm) (h : AOs u) : AOs U := fun ty ht => by
  have e := Cond.arrayOver_setVmC (args := #[]) (s := u) hvm ty
  exact e.trans (h ty ht)
def KK (K : Kk) (U : State) : Prop := va_K K.1 clsL (tyK K) U ∧ AOs U ∧ NW U
theorem KK.warm {K : Kk} {u U : State} (hw : u.WarmedH U.vm) (h : KK K u) : KK K U := ⟨h.1.moved hw.alike, h.2.1.moved hw.alike, fun a1 i1 x1 h1 hm => va_Nw.warmM hw (h.2.2 a1 i1 x1 h1 hm)⟩
theorem KK.call {K : Kk} {U : State} {g : JFrame} {mk : MethodId} {a : Array Value} (h : KK K U) : KK K (U.calling g mk a) := ⟨va_K.moved (u := U) (U := U.calling g mk a) (Vm.Alike.refl U.vm) h.1, AOs.moved (u := U) (U := U.calling g mk a) (Vm.Alike.refl U.vm) h.2.1, fun a1 i1 x1 h1 hm => va_Nw.same (u := U) (U := U.calling g mk a) rfl rfl (h.2.2 a1 i1 x1 h1 hm)⟩
def CK (d : Nat) (M : Mt) (K : Kk) (p : Program) (R : Room) (s : State) (m : MethodId) (args : Array Value) (c : Code) : Prop := p.tables.exec = Jvm.exec ∧ c.code = M.2.1 ∧ c.maxLocals = M.2.2.1 ∧ s.vm.findClass M.1.cls = some m.cls ∧ (∀ w ∈ gTbl, w.before args s = true) ∧ (d ≤ R.frames ∧ 64 * d ≤ R.locals) ∧ KK K s
def WZ (K : Kk) (A : Nat → Prop) (s : State) (H : Heap) (locs : List Loc) (ws : va_W) : Prop := va_P K.1 clsL ws H ∧ va_D A ws ∧ va_S A s.heap H locs ∧ ∀ q : Nat, s.heap.size ≤ q → A q
def dfl (ci : Nat) : List Value := (List.range (clsT ci).2.2).map (fun j => defaultValue (tyT ci j))
theorem dfl_at {ci j : Nat} (hj : j < (clsT ci).2.2) : defaultValue (tyT ci j) = vp_V (dfl ci) j := by
  unfold vp_V dfl
  rw [List.getD_eq_getElem?_getD, List.getElem?_map, List.getElem?_range hj]
  rfl
theorem inAI : Cond.arrayClass .int ∈ gTbl := gTbl_in (i := 196) (by decide +kernel) (by decide +kernel)
theorem inAZ : Cond.arrayClass .boolean ∈ gTbl := gTbl_in (i := 1033) (by decide +kernel) (by decide +kernel)
section Making
variable {p : Program} {l : Launch} {e : Env} {R : Room} {s : State} {m : MethodId} {args : Array Value} {below : List Frame} {meth : Method} {c : Code} {H : Heap} {locs : List Loc} {cells slots : Nat} {Q : State → Prop}
variable {pc : Nat} {ls : Array Slot} {rest : List Value} {A : Nat → Prop} {ws : va_W} {K : Kk} {M : Mt} {d : Nat}
theorem n32_nn {n : Int} (hn : 0 ≤ n ∧ n ≤ 1000) : ¬ n32 n < 0 := fun q => (n32_in (z := n) (N := 2000) ⟨by omega, by omega⟩ ⟨by omega, by omega⟩) (Or.inl q)
theorem k_newi (C : CK d M K p R s m args c) (hW : WZ K A s H locs ws) {N : Nat} {n : Int} (hn : 0 ≤ n ∧ n ≤ 1000) (hN : n.toNat = N) (hc : cells + 1 ≤ R.cells) (hs : slots + N ≤ R.slots) (hd : decode M.2.1 pc = .ok (.newarray .int, 2))
    (kk : ∀ (q : Nat) (H1 : Heap), WZ K A s H1 locs (ws ++ [(q, .inl (K.2.1, N, .inl (fun _ => 0)))]) → W p l e R s m args below meth c H1 locs (cells + 1) (slots + N) Q (F0 m (pc + 2) ls (.ref q :: rest))) : W p l e R s m args below meth c H locs cells slots Q (F0 m pc ls (.int (n32 n) :: rest)) := by
  obtain ⟨hx, hb, hml, hown, hts, hR, hK, hAO, hNW⟩ := C
  obtain ⟨hP, hD, hS, hA⟩ := hW
  subst hN
  refine va_newa (atype := .int) (ty := .int) (a0 := (n.toNat, .inl (fun _ => 0))) hx hb (hts _ inAI) rfl hK hP hD hS hA (fun cA => rfl) (n32_nn hn) (n32_nat hn.1 ⟨by omega, by omega⟩) (by show n.toNat * 4 ≤ _; omega) hc hs hd (fun q cA H1 hK1 hP1 hD1 hS1 => ?_)
  have h1 := (hK1.2 4 (cA, .int) rfl).2
  have h2 := (hK.2 0 (K.2.1, .int) rfl).2
  have e1 : cA = K.2.1 := Option.some.inj (h1.symm.trans h2)
  rw [e1] at hP1 hD1
  exact kk q H1 ⟨hP1, hD1, hS1, hA⟩
theorem k_newz (C : CK d M K p R s m args c) (hW : WZ K A s H locs ws) {N : Nat} {n : Int} (hn : 0 ≤ n ∧ n ≤ 1000) (hN : n.toNat = N) (hc : cells + 1 ≤ R.cells) (hs : slots + N ≤ R.slots) (hd : decode M.2.1 pc = .ok (.newarray .boolean, 2))
    (kk : ∀ (q : Nat) (H1 : Heap), WZ K A s H1 locs (ws ++ [(q, .inl (K.2.2.1, N, .inl (fun _ => 0)))]) → W p l e R s m args below meth c H1 locs (cells + 1) (slots + N) Q (F0 m (pc + 2) ls (.ref q :: rest))) : W p l e R s m args below meth c H locs cells slots Q (F0 m pc ls (.int (n32 n) :: rest)) := by
  obtain ⟨hx, hb, hml, hown, hts, hR, hK, hAO, hNW⟩ := C
  obtain ⟨hP, hD, hS, hA⟩ := hW
  subst hN
  refine va_newa (atype := .boolean) (ty := .boolean) (a0 := (n.toNat, .inl (fun _ => 0))) hx hb (hts _ inAZ) rfl hK hP hD hS hA (fun cA => rfl) (n32_nn hn) (n32_nat hn.1 ⟨by omega, by omega⟩) (by show n.toNat * 1 ≤ _; omega) hc hs hd (fun q cA H1 hK1 hP1 hD1 hS1 => ?_)
  have h1 := (hK1.2 4 (cA, .boolean) rfl).2
  have h2 := (hK.2 1 (K.2.2.1, .boolean) rfl).2
  have e1 : cA = K.2.2.1 := Option.some.inj (h1.symm.trans h2)
  rw [e1] at hP1 hD1
  exact kk q H1 ⟨hP1, hD1, hS1, hA⟩
theorem k_newr (C : CK d M K p R s m args c) (hW : WZ K A s H locs ws) {N idx : Nat} {n : Int} (hn : 0 ≤ n ∧ n ≤ 1000) (hN : n.toNat = N) (hl : Cond.classLink M.1.cls idx RX4 ∈ gTbl) (hc : cells + 1 ≤ R.cells) (hs : slots + N ≤ R.slots) (hd : decode M.2.1 pc = .ok (.anewarray idx, 3))
    (kk : ∀ (q : Nat) (H1 : Heap), WZ K A s H1 locs (ws ++ [(q, .inl (K.2.2.2.2, N, .inr (.inr (.inr (.inr (fun _ => none))))))]) → W p l e R s m args below meth c H1 locs (cells + 1) (slots + N) Q (F0 m (pc + 3) ls (.ref q :: rest))) : W p l e R s m args below meth c H locs cells slots Q (F0 m pc ls (.int (n32 n) :: rest)) := by
  obtain ⟨hx, hb, hml, hown, hts, hR, hK, hAO, hNW⟩ := C
  obtain ⟨hP, hD, hS, hA⟩ := hW
  subst hN
  refine va_newq hx hb hown (hts _ hl) (hAO _ (Or.inl rfl)) hK hP hD hS hA (n32_nn hn) (n32_nat hn.1 ⟨by omega, by omega⟩) (by omega) hc hs hd (fun q cA H1 hK1 hP1 hD1 hS1 => ?_)
  obtain ⟨k1, c1, -, -, -, h1⟩ := (hK1.2 4 (cA, .object RX4) rfl).2
  obtain ⟨k2, c2, -, -, -, h2⟩ := (hK.2 3 (K.2.2.2.2, .object RX4) rfl).2
  have e1 : cA = K.2.2.2.2 := Option.some.inj (h1.symm.trans h2)
  rw [e1] at hP1 hD1
  exact kk q H1 ⟨hP1, hD1, hS1, hA⟩
theorem k_new (C : CK d M K p R s m args c) (hW : WZ K A s H locs ws) {ci idx : Nat} (hci : ci < 12) (h1 : Cond.classLink M.1.cls idx (clsT ci).1 ∈ gTbl) (h2 : Cond.instantiable (clsT ci).1 (clsT ci).2.2 ∈ gTbl) (h3 : Cond.initialized (clsT ci).1 ∈ gTbl) (hc : cells + 1 ≤ R.cells) (hs : slots + (clsT ci).2.2 ≤ R.slots) (hd : decode M.2.1 pc = .ok (.new idx, 3))
    (kk : ∀ (q : Nat) (H1 : Heap), WZ K A s H1 locs (ws ++ [(q, .inr (ci, dfl ci))]) → W p l e R s m args below meth c H1 locs (cells + 1) (slots + (clsT ci).2.2) Q (F0 m (pc + 3) ls (.ref q :: rest))) : W p l e R s m args below meth c H locs cells slots Q (F0 m pc ls rest) := by
  obtain ⟨hx, hb, hml, hown, hts, hR, hK, hAO, hNW⟩ := C
  obtain ⟨hP, hD, hS, hA⟩ := hW
  obtain ⟨i1, i2, i3, i4⟩ := cls_in ci hci
  exact va_new (ci := ci) (fs := dfl ci) hx hb hts i1 (tyT ci) i2 hown (hts _ h1) (hts _ h2) (hts _ h3) hK hP hD hS hA i4 (fun j hj => dfl_at hj) hc hs hd (fun q H1 hP1 hD1 hS1 => kk q H1 ⟨hP1, hD1, hS1, hA⟩)
theorem k_putF (C : CK d M K p R s m args c) (hin : meth.name = "<init>") {old : va_W} {h0 ci : Nat} {fs : List Value} (hW : WZ K A s H locs ((h0, .inr (ci, fs)) :: old)) {idx k : Nat} {v : Value} (hl : lnkF M idx ci k = true) (hlen : k < fs.length) (hfin : ((clsT ci).2.1 k).2.2.2 = true) (hdecl : ((clsT ci).2.1 k).1 = M.1.cls) (hn : narrow (tyT ci k) v = v) (hfit : fits (tyT ci k) v = true) (hd : decode M.2.1 pc = .ok (.putfield idx, 3))
    (kk : ∀ (H1 : Heap) (locs1 : List Loc), WZ K A s H1 locs1 ((h0, .inr (ci, fs.set k v)) :: old) → W p l e R s m args below meth c H1 locs1 cells slots Q (F0 m (pc + 3) ls rest)) : W p l e R s m args below meth c H locs cells slots Q (F0 m pc ls (v :: .ref h0 :: rest)) := by
  obtain ⟨hx, hb, hml, hown, hts, hR, hK, hAO, hNW⟩ := C
  obtain ⟨hP, hD, hS, hA⟩ := hW
  obtain ⟨w1, w2, w3⟩ := lnkF_ok hl
  obtain ⟨i1, i2, i3, i4⟩ := cls_in ci w3
  exact va_putF (ci := ci) hx hb hts i1 (tyT ci) i2 i3 hown hK hP hD hS 0 rfl i4 k w2 (hts _ w1) (fun _ h => h) hfin hin hdecl (i2 k w2) hn hfit hlen hd (fun H1 locs1 hP1 hD1 hS1 => kk H1 locs1 ⟨hP1, hD1, hS1, hA⟩)
theorem k_put (C : CK d M K p R s m args c) {old : va_W} {h0 ci : Nat} {fs : List Value} (hW : WZ K A s H locs ((h0, .inr (ci, fs)) :: old)) {idx k : Nat} {v : Value} (hl : lnkF M idx ci k = true) (hlen : k < fs.length) (hfin : ((clsT ci).2.1 k).2.2.2 = false) (hn : narrow (tyT ci k) v = v) (hfit : fits (tyT ci k) v = true) (hd : decode M.2.1 pc = .ok (.putfield idx, 3))
    (kk : ∀ (H1 : Heap) (locs1 : List Loc), WZ K A s H1 locs1 ((h0, .inr (ci, fs.set k v)) :: old) → W p l e R s m args below meth c H1 locs1 cells slots Q (F0 m (pc + 3) ls rest)) : W p l e R s m args below meth c H locs cells slots Q (F0 m pc ls (v :: .ref h0 :: rest)) := by
  obtain ⟨hx, hb, hml, hown, hts, hR, hK, hAO, hNW⟩ := C
  obtain ⟨hP, hD, hS, hA⟩ := hW
  obtain ⟨w1, w2, w3⟩ := lnkF_ok hl
  obtain ⟨i1, i2, i3, i4⟩ := cls_in ci w3
  exact va_put (ci := ci) hx hb hts i1 (tyT ci) i2 i3 hown hK hP hD hS 0 rfl i4 k w2 (hts _ w1) (fun _ h => h) hfin (i2 k w2) hn hfit hlen hd (fun H1 locs1 hP1 hD1 hS1 => kk H1 locs1 ⟨hP1, hD1, hS1, hA⟩)
theorem k_get (C : CK d M K p R s m args c) {old : va_W} {h0 ci : Nat} {fs : List Value} (hW : WZ K A s H locs ((h0, .inr (ci, fs)) :: old)) {idx k : Nat} {v : Value} (hl : lnkF M idx ci k = true) (hv : fs[k]? = some v) (hd : decode M.2.1 pc = .ok (.getfield idx, 3))
    (kk : W p l e R s m args below meth c H locs cells slots Q (F0 m (pc + 3) ls (v :: rest))) : W p l e R s m args below meth c H locs cells slots Q (F0 m pc ls (.ref h0 :: rest)) := by
  obtain ⟨hx, hb, hml, hown, hts, hR, hK, hAO, hNW⟩ := C
  obtain ⟨hP, hD, hS, hA⟩ := hW
  obtain ⟨w1, w2, w3⟩ := lnkF_ok hl
  obtain ⟨i1, i2, i3, i4⟩ := cls_in ci w3
  exact va_get (ci := ci) hx hb hts i1 hown hK hP 0 rfl i4 k w2 (hts _ w1) (fun _ h => h) hv hd kk
theorem k_ias (C : CK d M K p R s m args c) (hW : WZ K A s H locs ws) {q0 a n : Nat} {f : Nat → Int32} (hq : ws[q0]? = some (a, .inl (K.2.1, n, .inl f))) {i x : Int} (hi : 0 ≤ i ∧ i < (n : Int)) (hi2 : i ≤ 1000) (hd : decode M.2.1 pc = .ok (.iastore, 1))
    (kk : ∀ (H1 : Heap) (locs1 : List Loc), WZ K A s H1 locs1 (ws.set q0 (a, .inl (K.2.1, n, .inl (upd f i.toNat (n32 x))))) → W p l e R s m args below meth c H1 locs1 cells slots Q (F0 m (pc + 1) ls rest)) : W p l e R s m args below meth c H locs cells slots Q (F0 m pc ls (.int (n32 x) :: .int (n32 i) :: .ref a :: rest)) := by
  obtain ⟨hx, hb, hml, hown, hts, hR, hK, hAO, hNW⟩ := C
  obtain ⟨hP, hD, hS, hA⟩ := hW
  have hr : inR i := ⟨by omega, by omega⟩
  refine va_iast hx hb hK hP hD hS q0 0 hq rfl (n32_in hr hi) hd (fun H1 locs1 hP1 hD1 hS1 => ?_)
  rw [n32_nat hi.1 hr] at hP1 hD1
  exact kk H1 locs1 ⟨hP1, hD1, hS1, hA⟩
theorem k_aas (C : CK d M K p R s m args c) (hW : WZ K A s H locs ws) {q0 qk a n v : Nat} {vs : List Value} {f : Nat → Option Nat} (hq : ws[q0]? = some (a, .inl (K.2.2.2.2, n, .inr (.inr (.inr (.inr f)))))) (hv : ws[qk]? = some (v, .inr (4, vs))) {i : Int} (hi : 0 ≤ i ∧ i < (n : Int)) (hi2 : i ≤ 1000) (hd : decode M.2.1 pc = .ok (.aastore, 1))
    (kk : ∀ (H1 : Heap) (locs1 : List Loc), WZ K A s H1 locs1 (ws.set q0 (a, .inl (K.2.2.2.2, n, .inr (.inr (.inr (.inr (va_up f i.toNat (some v)))))))) → W p l e R s m args below meth c H1 locs1 cells slots Q (F0 m (pc + 1) ls rest)) : W p l e R s m args below meth c H locs cells slots Q (F0 m pc ls (.ref v :: .int (n32 i) :: .ref a :: rest)) := by
  obtain ⟨hx, hb, hml, hown, hts, hR, hK, hAO, hNW⟩ := C
  obtain ⟨hP, hD, hS, hA⟩ := hW
  have hr : inR i := ⟨by omega, by omega⟩
  refine va_astq hx hb hK hP hD hS q0 3 qk 4 (r := (RX4, TX4, 8)) hq rfl hv rfl (n32_in hr hi) hd (fun H1 locs1 hP1 hD1 hS1 => ?_)
  rw [n32_nat hi.1 hr] at hP1 hD1
  exact kk H1 locs1 ⟨hP1, hD1, hS1, hA⟩
theorem k_obj (C : CK d M K p R s m args c) {idx : Nat} {h0 : Nat} (hl : Cond.methodLink M.1.cls idx Lib.objectInit ∈ gTbl) (h2 : Cond.instanceMethod Lib.objectInit ∈ gTbl) (h3 : Cond.code Lib.objectInit ⟨#[0xb1]⟩ 1 none ∈ gTbl) (hd1 : 1 ≤ d) (hls : ls.size = M.2.2.1) (hd : decode M.2.1 pc = .ok (.invokespecial idx, 3))
    (kk : W p l e R s m args below meth c H locs cells slots Q (F0 m (pc + 3) ls [])) : W p l e R s m args below meth c H locs cells slots Q (F0 m pc ls [.ref h0]) := by
  obtain ⟨hx, hb, hml, hown, hts, hR, hK, hAO, hNW⟩ := C
  refine W.objInit hx hb hown (hts _ hl) (hts _ h2) (hts _ h3) rfl (by rw [hml]; exact hls) rfl hd (by omega) (by show 2 * 0 + 0 + 12 ≤ R.locals; omega) ?_
  exact W.eq (g2 := F0 m (pc + 3) ls []) rfl kk
def Cn (l : Launch) (K : Kk) (Mc : Mt) (ci d mc ms : Nat) (as : List Value) (Post : Nat → va_W → Prop) : Prop :=
  ∀ h0 sz : Nat, Met l Mc.1 (wM Mc) { frames := d, cells := mc, slots := ms, locals := 64 * d } (va_Pc (.ref h0 :: as) (fun U => U.heap.size = sz ∧ va_P K.1 clsL [(h0, .inr (ci, dfl ci))] U.heap ∧ KK K U ∧ va_D (fun _ => True) [(h0, .inr (ci, dfl ci))]))
    (va_Qv (Post h0) (fun w t => va_P K.1 clsL w t.heap ∧ va_D (va_A [(h0, .inr (ci, dfl ci))] sz) w) (va_A [(h0, .inr (ci, dfl ci))] sz)) mc ms (va_A [(h0, .inr (ci, dfl ci))] sz)
theorem one_at {x y : Nat × va_E} {k : Nat} (h : [x][k]? = some y) : k = 0 ∧ x = y := by
  cases k with
  | zero => exact ⟨rfl, Option.some.inj h⟩
  | succ n => simp at h
/-- behind the call of a constructor -/
theorem k_back (C : CK d M K p R s m args c) {old : va_W} {q ci : Nat} (hW : WZ K A s H locs (old ++ [(q, .inr (ci, dfl ci))])) {mc ms : Nat} {a : Array Value} {Post : Nat → va_W → Prop} {st0 : List Value}
    (hrun : va_Run p l e R s m args below meth c H locs cells slots mc ms (F0 m pc ls st0) rest (va_Qv (Post q) (fun w t => va_P K.1 clsL w t.heap ∧ va_D (va_A [(q, .inr (ci, dfl ci))] H.size) w) (va_A [(q, .inr (ci, dfl ci))] H.size) a) (va_A [(q, .inr (ci, dfl ci))] H.size))
    (kk : ∀ (w1 : va_W) (H1 : Heap) (locs1 : List Loc), Post q w1 → WZ K A s H1 locs1 (old ++ w1) → W p l e R s m args below meth c H1 locs1 (cells + mc) (slots + ms) Q (F0 m (pc + 3) ls rest)) : W p l e R s m args below meth c H locs cells slots Q (F0 m pc ls st0) := by
  obtain ⟨hP, hD, hS, hA⟩ := hW
  have hlast : (old ++ [(q, (.inr (ci, dfl ci) : va_E))])[old.length]? = some (q, .inr (ci, dfl ci)) := by simp
  have hF : ∀ x, va_A [(q, .inr (ci, dfl ci))] H.size x → A x := va_free hD hS hA [old.length] (by simp)
  refine va_callv hrun hS (fun x _ h => hF x h) hF (fun w1 t H1 locs1 ht hvm hpost hB hz hk hS1 => ?_)
  obtain ⟨hP1, hD1⟩ := hB
  rw [ht] at hP1
  have apart : ∀ (k : Nat) (x : Nat × va_E), old[k]? = some x → x.1 < H.size ∧ ¬ va_A [(q, .inr (ci, dfl ci))] H.size x.1 := fun k x hx => by
    have hlt : k < old.length := (List.getElem?_eq_some_iff.mp hx).1
    have hxx : (old ++ [(q, (.inr (ci, dfl ci) : va_E))])[k]? = some x := by rw [List.getElem?_append_left hlt]; exact hx
    have hl := (hP k x hxx).lt
    refine ⟨hl, fun h => ?_⟩
    rcases h with ⟨k2, e2, h⟩ | h
    · have e3 := (one_at h).2
      have := hD.1 k old.length x _ hxx hlast (by rw [e3])
      omega
    · omega
  refine kk w1 H1 locs1 hpost ⟨va_P.app (fun k x hx => ?_) hP1, va_D.app ⟨fun i j x y hi hj => ?_, fun k x hx => ?_⟩ (hD1.weaken (fun k x _ h => hF x.1 h)) (fun i j x y hx hy hxy => ?_), hS1, hA⟩
  · have hlt : k < old.length := (List.getElem?_eq_some_iff.mp hx).1
    obtain ⟨g1, g2⟩ := apart k x hx
    exact (hP k x (by rw [List.getElem?_append_left hlt]; exact hx)).kept (hk x.1 g1 g2)
  · exact hD.1 i j x y (by rw [List.getElem?_append_left (List.getElem?_eq_some_iff.mp hi).1]; exact hi) (by rw [List.getElem?_append_left (List.getElem?_eq_some_iff.mp hj).1]; exact hj)
  · exact hD.2 k x (by rw [List.getElem?_append_left (List.getElem?_eq_some_iff.mp hx).1]; exact hx)
  · exact (apart i x hx).2 (by rw [hxy]; exact hD1.2 j y hy)
theorem k_call (C : CK d M K p R s m args c) {old : va_W} {q ci : Nat} (hW : WZ K A s H locs (old ++ [(q, .inr (ci, dfl ci))])) {Mc : Mt} {d' mc ms n idx : Nat} {as : List Value} {Post : Nat → va_W → Prop} (hm : Cn l K Mc ci d' mc ms as Post) (hM : okMc Mc n) (hret : Mc.2.2.2.1 = none) (hnm : Mc.1.name = "<init>") (hI : Cond.instanceMethod Mc.1 ∈ gTbl) (hlk : Cond.methodLink M.1.cls idx Mc.1 ∈ gTbl) (hdep : d' + 1 ≤ d) (hn : as.length = n) (hls : ls.size = M.2.2.1) (hcat : (rest.map fun v => v.category).sum ≤ 8) (hcl : cells + mc ≤ R.cells) (hsl : slots + ms ≤ R.slots) (hd : decode M.2.1 pc = .ok (.invokespecial idx, 3))
    {st0 : List Value} (hst : st0 = as.reverse ++ .ref q :: rest)
    (kk : ∀ (w1 : va_W) (H1 : Heap) (locs1 : List Loc), Post q w1 → WZ K A s H1 locs1 (old ++ w1) → W p l e R s m args below meth c H1 locs1 (cells + mc) (slots + ms) Q (F0 m (pc + 3) ls rest)) : W p l e R s m args below meth c H locs cells slots Q (F0 m pc ls st0) := by
  subst hst
  refine k_back (a := (Value.ref q :: as).toArray) C hW ?_ kk
  obtain ⟨hx, hb, hml, hown, hts, hR, hK⟩ := C
  obtain ⟨hP, hD, hS, hA⟩ := hW
  obtain ⟨m1, m2, m3, m4, m5, m6⟩ := hM
  have hlast : (old ++ [(q, (.inr (ci, dfl ci) : va_E))])[old.length]? = some (q, .inr (ci, dfl ci)) := by simp
  have hPc : va_P K.1 clsL [(q, .inr (ci, dfl ci))] H := fun k x hx => by
    obtain ⟨-, rfl⟩ := one_at hx
    exact hP old.length _ hlast
  have hDc : va_D (fun _ => True) [(q, (.inr (ci, dfl ci) : va_E))] := ⟨fun i j x y hi hj _ => by rw [(one_at hi).1, (one_at hj).1], fun _ _ _ => trivial⟩
  exact va_runI (As := as) (rest := rest) (n := n) (g := F0 m pc ls (as.reverse ++ .ref q :: rest)) ⟨hx, hb, hml, hown, hts⟩ (hm q H.size) (cwI n hts (wM_good m2) (by unfold wM; rw [hret]) rfl rfl (hts _ m3) (hts _ hlk) (hts _ hI) hnm ⟨m4.1, m4.2, m5⟩ ⟨by show d' + 1 ≤ R.frames; omega, by show 8 + (Mc.2.2.1 + 11) + 64 * d' ≤ R.locals; omega⟩) ⟨fun a U g mk z => by obtain ⟨q0, q1, qP, qK, qD⟩ := z; exact ⟨q0, q1, qP, KK.call qK, qD⟩, fun U hU hWm => ⟨rfl, by rw [hU], by rw [hU]; exact hPc, hK.warm hWm, hDc⟩⟩ rfl hn hls rfl (by show 2 * 0 + _ ≤ 8; omega) hd ⟨hcl, hsl⟩
theorem k_callN (C : CK d M K p R s m args c) {old : va_W} {q ci : Nat} (hW : WZ K A s H locs (old ++ [(q, .inr (ci, dfl ci))])) {Mc : Mt} {d' mc ms n idx : Nat} {as : List Value} {Post : Nat → va_W → Prop} (hm : Cn l K Mc ci d' mc ms as Post) (hM : okMc Mc n) (hret : Mc.2.2.2.1 = none) (hnm : Mc.1.name = "<init>") (hI : Cond.instanceMethod Mc.1 ∈ gTbl) {host : String} (hlk : Cond.methodLinkNest M.1.cls idx Mc.1 host ∈ lw_tbl) (hdep : d' + 1 ≤ d) (hn : as.length = n) (hls : ls.size = M.2.2.1) (hcat : (rest.map fun v => v.category).sum ≤ 8) (hcl : cells + mc ≤ R.cells) (hsl : slots + ms ≤ R.slots) (hd : decode M.2.1 pc = .ok (.invokespecial idx, 3))
    {st0 : List Value} (hst : st0 = as.reverse ++ .ref q :: rest)
    (kk : ∀ (w1 : va_W) (H1 : Heap) (locs1 : List Loc), Post q w1 → WZ K A s H1 locs1 (old ++ w1) → W p l e R s m args below meth c H1 locs1 (cells + mc) (slots + ms) Q (F0 m (pc + 3) ls rest)) : W p l e R s m args below meth c H locs cells slots Q (F0 m pc ls st0) := by
  subst hst
  refine k_back (a := (Value.ref q :: as).toArray) C hW ?_ kk
  obtain ⟨hx, hb, hml, hown, hts, hR, hK⟩ := C
  obtain ⟨hP, hD, hS, hA⟩ := hW
  obtain ⟨m1, m2, m3, m4, m5, m6⟩ := hM
  have hlast : (old ++ [(q, (.inr (ci, dfl ci) : va_E))])[old.length]? = some (q, .inr (ci, dfl ci)) := by simp
  have hPc : va_P K.1 clsL [(q, .inr (ci, dfl ci))] H := fun k x hx => by
    obtain ⟨-, rfl⟩ := one_at hx
    exact hP old.length _ hlast
  have hDc : va_D (fun _ => True) [(q, (.inr (ci, dfl ci) : va_E))] := ⟨fun i j x y hi hj _ => by rw [(one_at hi).1, (one_at hj).1], fun _ _ _ => trivial⟩
  have hlk2 := va_Nw.use (A := args) rfl (hK.2.2 _ _ _ _ hlk)
  have hcode : wM Mc = Cond.code Mc.1 Mc.2.1 Mc.2.2.1 none :: gTbl := by unfold wM; rw [hret]
  exact va_runIN (host := host) (own := M.1.cls) (index := idx) (Ts := gTbl) (As := as) (rest := rest) (n := n) (g := F0 m pc ls (as.reverse ++ .ref q :: rest)) ⟨hx, hb, hml, hown, hts⟩ (hm q H.size) ⟨⟨⟨rfl, rfl, by show d' + 1 ≤ R.frames; omega, by show 8 + (Mc.2.2.1 + 11) + 64 * d' ≤ R.locals; omega, pay_in hts (wM_good m2), by rw [hcode]; exact List.mem_cons_self⟩, by rw [hret] at m2; exact hts _ m2, hts _ m3, m4, fun sig h => by rw [h] at m5; exact (Option.some.inj m5).symm, hlk2⟩, hnm, hts _ hI⟩ ⟨fun a U g mk z => by obtain ⟨q0, q1, qP, qK, qD⟩ := z; exact ⟨q0, q1, qP, KK.call qK, qD⟩, fun U hU hWm => ⟨rfl, by rw [hU], by rw [hU]; exact hPc, hK.warm hWm, hDc⟩⟩ rfl hn hls rfl (by show 2 * 0 + _ ≤ 8; omega) hd ⟨hcl, hsl⟩
end Making
theorem toCn {l : Launch} {K : Kk} {Mc : Mt} {ci d mc ms : Nat} {as : List Value} {Post : Nat → va_W → Prop} (hy : plainName Mc.1.cls = true) (hret : Mc.2.2.2.1 = none) (hnm : Mc.1.name = "<init>") (hlen : ∀ h0 : Nat, (lg_sl (.ref h0 :: as)).length ≤ Mc.2.2.1)
    (body : ∀ (h0 : Nat) (p : Program) (e : Env) (s : State) (m : MethodId) (args : Array Value) (below : List Frame) (meth : Method) (c : Code) (Q : State → Prop) (A : Nat → Prop), CK d Mc K p { frames := d, cells := mc, slots := ms, locals := 64 * d } s m args c → meth.name = "<init>" → WZ K A s s.heap [] [(h0, .inr (ci, dfl ci))] → ∀ ls : Array Slot, lv_has ls Mc.2.2.1 (lv_args 0 (.ref h0 :: as)) →
      (∀ (H : Heap) (locs : List Loc) (w : va_W) (ls' : Array Slot) (pc' : Nat), WZ K A s H locs w → Post h0 w → decode Mc.2.1 pc' = .ok (.return_, 1) → W p l e { frames := d, cells := mc, slots := ms, locals := 64 * d } s m args below meth c H locs mc ms Q (F0 m pc' ls' [])) →
      W p l e { frames := d, cells := mc, slots := ms, locals := 64 * d } s m args below meth c s.heap [] 0 0 Q (F0 m 0 ls [])) : Cn l K Mc ci d mc ms as Post := by
  intro h0 sz
  refine Met.ofW (cc := Mc.2.1) (maxL := Mc.2.2.1) (ret := Mc.2.2.2.1) hy rfl ?_
  intro p e s m args below meth c s₁ B hml hv
  obtain ⟨rfl, hsz, hP, hK, hD0⟩ := hv
  have hx := B.exec
  have hb := B.bytes
  have hr := B.returns
  have hts := atoms_spec (ws := wM Mc) B.pre
  have hown : s.vm.findClass Mc.1.cls = some m.cls := findClass_of_methodNamed B.named
  have hlocks := B.notSynchronized
  have hin : meth.name = "<init>" := (name_of_methodNamed B.named B.method).1.trans hnm
  subst hsz
  have hD := hD0.self (sz := s.heap.size)
  rw [lg_entry_eq]
  have hl := lv_entry (.ref h0 :: as) (n := Mc.2.2.1) (hlen h0)
  generalize (lg_sl (.ref h0 :: as) ++ List.replicate (Mc.2.2.1 - (lg_sl (.ref h0 :: as)).length) Slot.unset).toArray = ls at hl ⊢
  refine body h0 p e s m _ below meth c _ _ ⟨hx, hb, hml, hown, fun w hw => hts w (List.mem_cons_of_mem _ hw), ⟨Nat.le_refl _, Nat.le_refl _⟩, hK⟩ hin ⟨hP, hD, va_S.rf, fun q h => Or.inr h⟩ ls hl (fun H locs w ls' pc' hW hpost hd => ?_)
  exact W.vret hx hb (hr.trans hret) (fun t ht hWm => ⟨⟨w, rfl, hpost, by rw [ht]; exact hW.1, hW.2.1⟩, hW.2.2.1.F ht⟩) hW.2.2.1.2.2 hd
