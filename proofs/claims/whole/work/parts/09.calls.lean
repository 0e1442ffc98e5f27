/-! a method out of its walk; calls -/
def rmD (d : Nat) : Room := { frames := d, cells := 0, slots := 0, locals := 64 * d }
def wM (M : Mt) : List Cond := Cond.code M.1 M.2.1 M.2.2.1 M.2.2.2.1 :: gTbl
def rvO (rv : Option Int) : Option Value := rv.map (fun z => .int (n32 z))
theorem rvO_S (rv : Option Int) : (rvO rv).toList = rvS rv := by cases rv <;> rfl
def WT (G : Gw) (u : Hp) (t : State) : Prop := va_P G.2.1 clsL (wsOf G u) t.heap ∧ va_D (AD G) (wsOf G u) ∧ RO G (AD G) u t ∧ okH u
def PcW (G : Gw) (σ : Hp) (as : List AV) : Array Value → State → Prop := va_Pc (as.map (cvv G.1)) (fun U => WT G σ U ∧ va_K G.2.1 clsL (tysOf G) U ∧ NW U)
def QcW (G : Gw) (M : Mt) (Q : Option Int → Hp → Prop) : Array Value → State → Outcome → State → Prop := fun _ st oc t => (∃ (rv : Option Int) (u : Hp), oc = .returned (rvO rv) ∧ Q rv u ∧ okRv M rv ∧ WT G u t) ∧ va_F (AD G) st t
def eL : List AV → List AV
  | [] => []
  | .inr (.inr (.inl x)) :: r => zJ x :: zU :: eL r
  | v :: r => v :: eL r
def L0 (n : Nat) (as : List AV) : List AV := eL as ++ List.replicate (n - (eL as).length) zU
def noU (as : List AV) : Bool := as.all (fun v => match v with
  | .inr (.inr (.inr _)) => false
  | _ => true)
theorem lvl_rep {ad : Nat → Nat → Nat} : ∀ (n k : Nat), lvl ad k (List.replicate n zU) = []
  | 0, _ => rfl
  | n + 1, k => by
    rw [List.replicate_succ]
    show lvl ad (k + 1) (List.replicate n zU) = []
    exact lvl_rep n (k + 1)
theorem lvl_args {ad : Nat → Nat → Nat} {r : Nat} : ∀ (as : List AV) (k : Nat), noU as = true → lvl ad k (eL as ++ List.replicate r zU) = lv_args k (as.map (cvv ad))
  | [], k, _ => lvl_rep r k
  | v :: as, k, h => by
    have h2 : noU as = true := by
      simp only [noU, List.all_cons, Bool.and_eq_true] at h ⊢
      exact h.2
    rcases v with z | q | x | u
    · show (k, Value.int (n32 z)) :: lvl ad (k + 1) (eL as ++ List.replicate r zU) = _
      rw [lvl_args as (k + 1) h2]
      rfl
    · show (k, Value.ref (ad q.1 q.2)) :: lvl ad (k + 1) (eL as ++ List.replicate r zU) = _
      rw [lvl_args as (k + 1) h2]
      rfl
    · show (k, Value.long x) :: lvl ad (k + 1 + 1) (eL as ++ List.replicate r zU) = _
      rw [lvl_args as (k + 1 + 1) h2]
      rfl
    · simp [noU] at h
theorem eL_len {ad : Nat → Nat → Nat} : ∀ (as : List AV), (lg_sl (as.map (cvv ad))).length = (eL as).length
  | [] => rfl
  | v :: as => by
    have ih := eL_len (ad := ad) as
    rcases v with z | q | x | u
    · show (lg_sl (Value.int (n32 z) :: as.map (cvv ad))).length = (eL as).length + 1
      simp only [lg_sl, List.flatMap_cons, Value.category, List.length_append] at ih ⊢
      rw [ih]; simp; omega
    · show (lg_sl (Value.ref (ad q.1 q.2) :: as.map (cvv ad))).length = (eL as).length + 1
      simp only [lg_sl, List.flatMap_cons, Value.category, List.length_append] at ih ⊢
      rw [ih]; simp; omega
    · show (lg_sl (Value.long x :: as.map (cvv ad))).length = (eL as).length + 1 + 1
      simp only [lg_sl, List.flatMap_cons, Value.category, List.length_append] at ih ⊢
      rw [ih]; simp; omega
    · show (lg_sl (Value.null :: as.map (cvv ad))).length = (eL as).length + 1
      simp only [lg_sl, List.flatMap_cons, Value.category, List.length_append] at ih ⊢
      rw [ih]; simp; omega
theorem eL_ok : ∀ {as : List AV}, okVs as → okVs (eL as)
  | [], h => h
  | v :: as, h => by
    have ih := eL_ok (okVs_tl h)
    rcases v with z | q | x | u
    · exact okVs_cons (okVs_hd h) ih
    · exact okVs_cons (okVs_hd h) ih
    · exact okVs_cons trivial (okVs_cons trivial ih)
    · exact okVs_cons trivial ih
theorem L0_ok {n : Nat} {as : List AV} (h : okVs as) : okVs (L0 n as) := fun v hv => by
  rcases List.mem_append.mp hv with q | q
  · exact eL_ok h v q
  · rw [List.eq_of_mem_replicate q]; trivial
theorem toMet {l : Launch} {d : Nat} {M : Mt} {σ : Hp} {as : List AV} {Q : Option Int → Hp → Prop} (hy : plainName M.1.cls = true) (hn : noU as = true) (hlen : (eL as).length ≤ M.2.2.1) (hok : okVs as) (h : Runs d M 0 (L0 M.2.2.1 as) [] σ Q) (G : Gw) :
    Met l M.1 (wM M) (rmD d) (PcW G σ as) (QcW G M Q) 0 0 (AD G) := by
  refine Met.ofW (cc := M.2.1) (maxL := M.2.2.1) (ret := M.2.2.2.1) hy rfl ?_
  intro p e s m args below meth c s₁ B hml hv
  obtain ⟨rfl, ⟨hP, hD, hRO, hH⟩, hK, hNW⟩ := hv
  have hx := B.exec
  have hb := B.bytes
  have hr := B.returns
  have hts := atoms_spec (ws := wM M) B.pre
  have hown : s.vm.findClass M.1.cls = some m.cls := findClass_of_methodNamed B.named
  have hlocks := B.notSynchronized
  rw [lg_entry_eq]
  have hl := lv_entry (as.map (cvv G.1)) (n := M.2.2.1) (by rw [eL_len]; exact hlen)
  generalize hls : (lg_sl (as.map (cvv G.1)) ++ List.replicate (M.2.2.1 - (lg_sl (as.map (cvv G.1))).length) Slot.unset).toArray = ls at hl
  have hrel : lrel G.1 ls M.2.2.1 (L0 M.2.2.1 as) := by
    refine ⟨?_, ?_⟩
    · unfold L0; rw [List.length_append, List.length_replicate]; omega
    · unfold L0; rw [lvl_args as 0 hn]; exact hl
  refine h (L0_ok hok) (fun v hv => by cases hv) G p l e (rmD d) s m _ below meth c 0 0 (AD G) _ ⟨hx, hb, hml, hown, fun w hw => hts w (List.mem_cons_of_mem _ hw), ⟨Nat.le_refl _, Nat.le_refl _, Nat.le_refl _, Nat.le_refl _, hNW⟩, hK⟩ s.heap [] ls ⟨hP, hD, va_S.rf, hRO, hH⟩ hrel ?_
  intro rv σ' H' locs' ls' pc' hq hret hW'
  have post : ∀ t : State, t.heap = H' → s.WarmedH t.vm → QcW G M Q (as.map (cvv G.1)).toArray s (.returned (rvO rv)) t := fun t ht hW => by
    refine ⟨⟨rv, σ', rfl, hq, hret.1, ?_, hW'.2.1, hW'.2.2.2.1.kept hW'.2.2.1 ht hW.alike (fun _ h => h), hW'.2.2.2.2⟩, hW'.2.2.1.F ht⟩
    rw [ht]; exact hW'.1
  cases rv with
  | none =>
    have h1 : M.2.2.2.1 = none := hret.1
    exact W.vret hx hb (hr.trans h1) post hW'.2.2.1.2.2 hret.2
  | some z =>
    obtain ⟨⟨h1, h2⟩, h3⟩ := hret
    rcases h2 with h2 | ⟨h2, h4⟩
    · exact W.iret hx hb (hr.trans h2) post hW'.2.2.1.2.2 h3
    · exact W.zret hx hb (hr.trans h2) (narrow_z h4) post hW'.2.2.1.2.2 h3
theorem AD_in {G : Gw} {A : Nat → Prop} {σ : Hp} (h : va_D A (wsOf G σ)) : ∀ q, AD G q → A q := by
  rintro q ⟨g, i, hm, rfl⟩
  obtain ⟨k, hk, -⟩ := ws_at G σ (IDX_mem.mp hm).1 (IDX_mem.mp hm).2
  exact h.2 k _ hk
theorem D_AD {G : Gw} {A : Nat → Prop} {σ : Hp} (h : va_D A (wsOf G σ)) : va_D (AD G) (wsOf G σ) := by
  refine ⟨h.1, fun k q hk => ?_⟩
  unfold wsOf at hk
  rw [List.getElem?_map] at hk
  cases hq : IDX[k]? with
  | none => rw [hq] at hk; cases hk
  | some gi =>
    rw [hq] at hk
    cases hk
    exact ⟨gi.1, gi.2, List.mem_of_getElem? hq, rfl⟩
/-- behind a call -/
theorem callW {p : Program} {l : Launch} {e : Env} {R : Room} {s : State} {m : MethodId} {args : Array Value} {below : List Frame} {meth : Method} {c : Code} {H : Heap} {locs : List Loc} {cells slots : Nat} {QQ : State → Prop} {pc : Nat} {ls : Array Slot} {st0 rest : List Value} {a : Array Value}
    {G : Gw} {A : Nat → Prop} {σ : Hp} {Mc : Mt} {Q' : Option Int → Hp → Prop} (hr : va_Run p l e R s m args below meth c H locs cells slots 0 0 (F0 m pc ls st0) rest (QcW G Mc Q' a) (AD G)) (hW : Wld G A σ s H locs)
    (kk : ∀ (rv : Option Int) (σ' : Hp) (H' : Heap) (locs' : List Loc), Q' rv σ' → okRv Mc rv → Wld G A σ' s H' locs' → W p l e R s m args below meth c H' locs' cells slots QQ (F0 m (pc + 3) ls (rvS rv ++ rest))) : W p l e R s m args below meth c H locs cells slots QQ (F0 m pc ls st0) := by
  intro T hT X
  obtain ⟨v, st₀, t, T', L, h0, X', hL, e1, e2, ⟨⟨rv, u, hv, hq, hrv, hP1, hD1, hRO1, hH1⟩, hz, hk⟩, st⟩ := hr T hT X
  rw [h0] at hz hk
  obtain ⟨hP, hD, hS, hRO, hH⟩ := hW
  have hAD := AD_in hD
  have hv2 : v = rvO rv := by
    cases hv
    rfl
  subst hv2
  have hS' : va_S A s.heap T'.heap (locs ++ L) := ⟨Nat.le_trans hS.1 (by rw [e1]; exact hz), fun q h1 h2 => by rw [e1, hk q (Nat.lt_of_lt_of_le h1 hS.1) (fun z => h2 (hAD q z))]; exact hS.2.1 q h1 h2, fun q hq => by
      rcases List.mem_append.mp hq with h | h
      · exact hS.2.2 q h
      · exact hAD _ (hL q h)⟩
  have hRO' : RO G A u s := by
    obtain ⟨⟨⟨scr, a1, a2, a3, a4, a5⟩, b1, b2⟩, ⟨b3, b4⟩, b5⟩ := id hRO
    obtain ⟨⟨⟨scr', c1, c2, c3, c4, c5⟩, d1, d2⟩, ⟨d3, d4⟩, d5⟩ := hRO1
    refine hRO.out (fun j hj => ?_) (by rw [d3, b3]) (fun g hg j hj => ?_)
    · have hh : t.heap[G.1 60 0]? = s.heap[G.1 60 0]? := by rw [hk _ (Nat.lt_of_lt_of_le b1 hS.1) d2]; exact hS.2.1 _ b1 b2
      rw [c1, a1] at hh
      cases hh
      have := (c5 j hj).symm.trans (a5 j hj)
      exact Value.int.inj (Option.some.inj this)
    · obtain ⟨cell, f1, f2, f3, f4, f5, f6, f7⟩ := (b5 g hg).2
      obtain ⟨cell', g1, g2, g3, g4, g5, g6, g7⟩ := (d5 g hg).2
      have hlt : G.1 g 0 < s.heap.size := (Array.getElem?_eq_some_iff.mp f1).1
      have hh : t.heap[G.1 g 0]? = s.heap[G.1 g 0]? := by rw [hk _ (Nat.lt_of_lt_of_le hlt hS.1) g7]; exact hS.2.1 _ hlt f7
      rw [g1, f1] at hh
      cases hh
      have := (g6 j hj).symm.trans (f6 j hj)
      exact Value.int.inj (Option.some.inj this)
  obtain ⟨t2, a1, b1⟩ := kk rv u T'.heap (locs ++ L) hq hrv ⟨by rw [e1]; exact hP1, ⟨hD1.1, fun k q hk => hAD _ (hD1.2 k q hk)⟩, hS', hRO', hH1⟩ T' rfl X'
  refine ⟨t2, st t2 ?_, b1⟩
  rw [rvO_S]
  exact a1
def rvL (rv : Option Int) : List AV := match rv with
  | none => []
  | some z => [zI z]
theorem rvL_S (ad : Nat → Nat → Nat) (rv : Option Int) : (rvL rv).map (cvv ad) = rvS rv := by cases rv <;> rfl
theorem gTbl_good {w : Cond} (h : w ∈ gTbl) : (w.onTables && w.keeps) = true ∨ ∃ ty, w = .arrayClass ty := good_of_word (List.mem_filter.mp h).2
theorem wM_good {Mc : Mt} (h : Cond.code Mc.1 Mc.2.1 Mc.2.2.1 Mc.2.2.2.1 ∈ gTbl) : GoodIn gTbl (wM Mc) := fun w hw => by
  rcases List.mem_cons.mp hw with rfl | hw
  · exact ⟨h, gTbl_good h⟩
  · exact ⟨hw, gTbl_good hw⟩
def catS : List AV → Nat
  | [] => 0
  | .inr (.inr (.inl _)) :: r => 2 + catS r
  | _ :: r => 1 + catS r
theorem catS_of {ad : Nat → Nat → Nat} : ∀ (S : List AV), ((S.map (cvv ad)).map fun v => v.category).sum = catS S
  | [] => rfl
  | v :: S => by
    have ih := catS_of (ad := ad) S
    rcases v with z | q | x | u
    · show 1 + ((S.map (cvv ad)).map fun v => v.category).sum = 1 + catS S
      rw [ih]
    · show 1 + ((S.map (cvv ad)).map fun v => v.category).sum = 1 + catS S
      rw [ih]
    · show 2 + ((S.map (cvv ad)).map fun v => v.category).sum = 2 + catS S
      rw [ih]
    · show 1 + ((S.map (cvv ad)).map fun v => v.category).sum = 1 + catS S
      rw [ih]
theorem okVs_app {a b : List AV} (h : okVs (a ++ b)) : okVs a ∧ okVs b := ⟨fun v hv => h v (List.mem_append_left _ hv), fun v hv => h v (List.mem_append_right _ hv)⟩
theorem okRv_L {Mc : Mt} {rv : Option Int} {S : List AV} (h : okRv Mc rv) (hS : okVs S) : okVs (rvL rv ++ S) := by
  cases rv with
  | none => exact hS
  | some z => exact okVs_cons h.1 hS
theorem blind {G : Gw} {σ : Hp} {as : List AV} : FrameBlind (PcW G σ as) := fun a U g mk q => by
  obtain ⟨q0, ⟨q1, q2, q3, q4⟩, q5, q6⟩ := q
  exact ⟨q0, ⟨q1, q2, RO.moved (u := U) (U := U.calling g mk a) (Vm.Alike.refl U.vm) rfl q3, q4⟩, va_K.moved (u := U) (U := U.calling g mk a) (Vm.Alike.refl U.vm) q5, fun a1 i1 x1 h1 hm => va_Nw.same (u := U) (U := U.calling g mk a) rfl rfl (q6 a1 i1 x1 h1 hm)⟩
theorem preW {G : Gw} {A : Nat → Prop} {σ : Hp} {s : State} {H : Heap} {locs : List Loc} {as : List AV} (hW : Wld G A σ s H locs) (hK : va_K G.2.1 clsL (tysOf G) s) (hN : NW s) : ∀ U : State, U.heap = H → s.WarmedH U.vm → PcW G σ as (as.map (cvv G.1)).toArray U := fun U hU hw => by
  refine ⟨rfl, ⟨by rw [hU]; exact hW.1, D_AD hW.2.1, hW.2.2.2.1.kept hW.2.2.1 hU hw.alike (AD_in hW.2.1), hW.2.2.2.2⟩, hK.moved hw.alike, fun a1 i1 x1 h1 hm => va_Nw.warmM hw (hN a1 i1 x1 h1 hm)⟩
/-- a call of an object's method -/
theorem r_callV {d d' : Nat} {M Mc : Mt} {pc : Nat} {L S S0 As Lc : List AV} {σ : Hp} {Q Q' : Option Int → Hp → Prop} {g x idx n ci : Nat} (hM : okMc Mc n) (hV : okVc Mc) (hlk : Cond.methodLink M.1.cls idx Mc.1 ∈ gTbl) (hd : decode M.2.1 pc = .ok (.invokevirtual idx, 3)) (hdep : d' + 1 ≤ d) (hg : (shp g).1 = ci + 3) (hcls : (clsT ci).1 = Mc.1.cls) (hci : ci < 12)
    (hS0 : S0 = As.reverse ++ zR g x :: S) (hn : As.length = n) (hcat : catS S ≤ 8) (hU : noU (zR g x :: As) = true) (hLc : L0 Mc.2.2.1 (zR g x :: As) = Lc) (hle : (eL (zR g x :: As)).length ≤ Mc.2.2.1) (hc : Runs d' Mc 0 Lc [] σ Q') (k : ∀ rv σ', Q' rv σ' → okRv Mc rv → Runs d M (pc + 3) L (rvL rv ++ S) σ' Q) : Runs d M pc L S0 σ Q := by
  subst hS0
  subst hLc
  intro oL oS G p l e R s m args below meth c cells slots A QQ C H locs ls hW hl kk
  obtain ⟨oA, oB⟩ := okVs_app oS
  have oAs : okVs (zR g x :: As) := okVs_cons (okVs_hd oB) (fun v hv => oA v (List.mem_reverse.mpr hv))
  have hmet := toMet (l := l) hM.1 hU hle oAs hc G
  obtain ⟨hx, hb, hml, hown, hts, hR, hK⟩ := id C
  obtain ⟨m1, m2, m3, m4, m5, m6⟩ := hM
  have hlk2 := hlk
  obtain ⟨q0, he, -⟩ := ws_at G σ (kind_lt (g := g) (by rw [hg]; omega)) (okVs_hd oB)
  rw [cell_obj hg] at he
  obtain ⟨i1, i2, i3, i4⟩ := cls_in ci hci
  have hrun := va_runV (H := H) (locs := locs) (cells := cells) (slots := slots) (below := below) (meth := meth) (e := e) (As := As.map (cvv G.1)) (rest := S.map (cvv G.1)) (g := F0 m pc ls ((As.reverse ++ zR g x :: S).map (cvv G.1))) (b := G.1 g x) (C := Mc.1.cls) (n := n) (R := R) (mc := 0) (ms := 0) ⟨hx, hb, hml, hown, hts⟩ hmet
    ⟨callB_of n hts (wM_good m2) rfl rfl rfl (hts _ m3) (hts _ hlk2) ⟨m4.1, m4.2, m5⟩ ⟨by show d' + 1 ≤ R.frames; omega, by show 8 + (Mc.2.2.1 + 11) + 64 * d' ≤ R.locals; omega⟩, hts _ hV.1, hts _ hV.2⟩
    ⟨blind, by have hrc := va_recv hK hW.1 i4 he; rw [hcls] at hrc; exact hrc, by have hpp := preW (as := zR g x :: As) hW hK hR.2.2.2.2; exact hpp⟩ rfl (by rw [List.length_map]; exact hn) hl.2.1 (by simp [cvv]) (by rw [catS_of]; show 2 * 0 + catS S ≤ 8; omega) hd ⟨by omega, by omega⟩
  refine callW hrun hW (fun rv σ' H' locs' hq hrv hW' => ?_)
  have := k rv σ' hq hrv oL (okRv_L hrv (okVs_tl oB)) G p l e R s m args below meth c cells slots A QQ C H' locs' ls hW' hl kk
  rw [List.map_append, rvL_S] at this
  exact this
/-- a call of a static method -/
theorem r_callS {d d' : Nat} {M Mc : Mt} {pc : Nat} {L S S0 As Lc : List AV} {σ : Hp} {Q Q' : Option Int → Hp → Prop} {idx n : Nat} (hM : okMc Mc n) (hV : Cond.static Mc.1 ∈ gTbl) (hlk : Cond.methodLink M.1.cls idx Mc.1 ∈ gTbl) (hd : decode M.2.1 pc = .ok (.invokestatic idx, 3)) (hdep : d' + 1 ≤ d)
    (hS0 : S0 = As.reverse ++ S) (hn : As.length = n) (hcat : catS S ≤ 8) (hU : noU As = true) (hLc : L0 Mc.2.2.1 As = Lc) (hle : (eL As).length ≤ Mc.2.2.1) (hc : Runs d' Mc 0 Lc [] σ Q') (k : ∀ rv σ', Q' rv σ' → okRv Mc rv → Runs d M (pc + 3) L (rvL rv ++ S) σ' Q) : Runs d M pc L S0 σ Q := by
  subst hS0
  subst hLc
  intro oL oS G p l e R s m args below meth c cells slots A QQ C H locs ls hW hl kk
  obtain ⟨oA, oB⟩ := okVs_app oS
  have oAs : okVs As := fun v hv => oA v (List.mem_reverse.mpr hv)
  have hmet := toMet (l := l) hM.1 hU hle oAs hc G
  obtain ⟨hx, hb, hml, hown, hts, hR, hK⟩ := id C
  obtain ⟨m1, m2, m3, m4, m5, m6⟩ := hM
  have hlk2 := hlk
  have hrun := va_runS (H := H) (locs := locs) (cells := cells) (slots := slots) (below := below) (meth := meth) (e := e) (As := As.map (cvv G.1)) (rest := S.map (cvv G.1)) (g := F0 m pc ls ((As.reverse ++ S).map (cvv G.1))) (n := n) (R := R) (mc := 0) (ms := 0) ⟨hx, hb, hml, hown, hts⟩ hmet
    ⟨callB_of n hts (wM_good m2) rfl rfl rfl (hts _ m3) (hts _ hlk2) ⟨m4.1, m4.2, m5⟩ ⟨by show d' + 1 ≤ R.frames; omega, by show 8 + (Mc.2.2.1 + 11) + 64 * d' ≤ R.locals; omega⟩, hts _ hV⟩
    ⟨blind, preW hW hK hR.2.2.2.2⟩ rfl (by rw [List.length_map]; exact hn) hl.2.1 (by simp) (by rw [catS_of]; show 2 * 0 + catS S ≤ 8; omega) hd ⟨by omega, by omega⟩
  refine callW hrun hW (fun rv σ' H' locs' hq hrv hW' => ?_)
  have := k rv σ' hq hrv oL (okRv_L hrv oB) G p l e R s m args below meth c cells slots A QQ C H' locs' ls hW' hl kk
  rw [List.map_append, rvL_S] at this
  exact this
/-- a call of a nest mate's static method -/
theorem r_callN {d d' : Nat} {M Mc : Mt} {pc : Nat} {L S S0 As Lc : List AV} {σ : Hp} {Q Q' : Option Int → Hp → Prop} {idx n : Nat} {host : String} (hM : okMc Mc n) (hV : Cond.static Mc.1 ∈ gTbl) (hlk : Cond.methodLinkNest M.1.cls idx Mc.1 host ∈ lw_tbl) (hd : decode M.2.1 pc = .ok (.invokestatic idx, 3)) (hdep : d' + 1 ≤ d)
    (hS0 : S0 = As.reverse ++ S) (hn : As.length = n) (hcat : catS S ≤ 8) (hU : noU As = true) (hLc : L0 Mc.2.2.1 As = Lc) (hle : (eL As).length ≤ Mc.2.2.1) (hc : Runs d' Mc 0 Lc [] σ Q') (k : ∀ rv σ', Q' rv σ' → okRv Mc rv → Runs d M (pc + 3) L (rvL rv ++ S) σ' Q) : Runs d M pc L S0 σ Q := by
  subst hS0
  subst hLc
  intro oL oS G p l e R s m args below meth c cells slots A QQ C H locs ls hW hl kk
  obtain ⟨oA, oB⟩ := okVs_app oS
  have oAs : okVs As := fun v hv => oA v (List.mem_reverse.mpr hv)
  have hmet := toMet (l := l) hM.1 hU hle oAs hc G
  obtain ⟨hx, hb, hml, hown, hts, hR, hK⟩ := id C
  obtain ⟨m1, m2, m3, m4, m5, m6⟩ := hM
  have hlk2 := va_Nw.use (A := args) rfl (hR.2.2.2.2 _ _ _ _ hlk)
  have hrun := va_runSN (host := host) (own := M.1.cls) (index := idx) (H := H) (locs := locs) (cells := cells) (slots := slots) (below := below) (meth := meth) (e := e) (As := As.map (cvv G.1)) (rest := S.map (cvv G.1)) (g := F0 m pc ls ((As.reverse ++ S).map (cvv G.1))) (n := n) (R := R) (mc := 0) (ms := 0) (Ts := gTbl) ⟨hx, hb, hml, hown, hts⟩ hmet
    ⟨⟨⟨rfl, rfl, by show d' + 1 ≤ R.frames; omega, by show 8 + (Mc.2.2.1 + 11) + 64 * d' ≤ R.locals; omega, pay_in hts (wM_good m2), List.mem_cons_self⟩, hts _ m2, hts _ m3, m4, fun sig h => by rw [h] at m5; exact (Option.some.inj m5).symm, hlk2⟩, hts _ hV, trivial⟩
    ⟨blind, preW hW hK hR.2.2.2.2⟩ rfl (by rw [List.length_map]; exact hn) hl.2.1 (by simp) (by rw [catS_of]; show 2 * 0 + catS S ≤ 8; omega) hd ⟨by omega, by omega⟩
  refine callW hrun hW (fun rv σ' H' locs' hq hrv hW' => ?_)
  have := k rv σ' hq hrv oL (okRv_L hrv oB) G p l e R s m args below meth c cells slots A QQ C H' locs' ls hW' hl kk
  rw [List.map_append, rvL_S] at this
  exact this
