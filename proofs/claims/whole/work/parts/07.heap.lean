/-! fields and arrays -/
def fA (σ : Hp) (g x k : Nat) (f : Nat × Nat × Nat) : AV := match f.1 with
  | 0 => zI (σ g x k)
  | 1 => zI (σ g x k)
  | 2 => zR f.2.1 f.2.2
  | _ => zR f.2.1 x
theorem fA_cv (ad : Nat → Nat → Nat) (σ : Hp) (g x k : Nat) (f : Nat × Nat × Nat) : cvv ad (fA σ g x k f) = fval ad σ g x k f := by
  obtain ⟨t, g', i'⟩ := f
  match t with
  | 0 => rfl
  | 1 => rfl
  | 2 => rfl
  | n + 3 => rfl
def shOK (g : Nat) : Bool := (shp g).2.2.2.all (fun f => (f.1 != 2 || decide (f.2.2 < cntG f.2.1)) && (f.1 != 3 || cntG g == cntG f.2.1) && decide (f.1 < 4))
theorem shOK_all : (List.range 52).all shOK = true := by decide +kernel
theorem fA_ok {σ : Hp} {g x k : Nat} {f : Nat × Nat × Nat} (hg : g < 52) (hx : x < cntG g) (hf : (shp g).2.2.2[k]? = some f) (hH : okH σ) : okV (fA σ g x k f) := by
  have h0 := List.all_eq_true.mp (List.all_eq_true.mp shOK_all g (List.mem_range.mpr hg)) f (List.mem_of_getElem? hf)
  obtain ⟨t, g', i'⟩ := f
  unfold fA
  match t, h0 with
  | 0, h0 => exact hH g x k
  | 1, h0 => exact hH g x k
  | 2, h0 => simp at h0; exact h0
  | 3, h0 =>
    simp at h0
    show x < cntG g'
    rw [← h0]; exact hx
  | n + 4, h0 => simp at h0; omega
theorem fvals_at {ad : Nat → Nat → Nat} {σ : Hp} {g x k : Nat} {f : Nat × Nat × Nat} (hf : (shp g).2.2.2[k]? = some f) : (fvals ad σ g x)[k]? = some (fval ad σ g x k f) := by
  unfold fvals
  rw [List.getElem?_mapIdx, hf]
  rfl
theorem cell_obj {G : Gw} {σ : Hp} {g x ci : Nat} (hk : (shp g).1 = ci + 3) : cellOf G σ g x = .inr (ci, fvals G.1 σ g x) := by
  unfold cellOf
  rw [hk]
theorem cell_int {G : Gw} {σ : Hp} {g x : Nat} (hk : (shp g).1 = 0) : cellOf G σ g x = .inl (G.2.2.1 g, (shp g).2.2.1, .inl (fun j => n32 (σ g x j))) := by
  unfold cellOf
  rw [hk]
theorem cell_bool {G : Gw} {σ : Hp} {g x : Nat} (hk : (shp g).1 = 1) : cellOf G σ g x = .inl (G.2.2.1 g, (shp g).2.2.1, .inl (fun j => n32 (σ g x j))) := by
  unfold cellOf
  rw [hk]
theorem cell_ref {G : Gw} {σ : Hp} {g x : Nat} (hk : (shp g).1 = 2) : cellOf G σ g x = .inl (G.2.2.1 g, (shp g).2.2.1, .inr (.inr (.inr (.inr (fun j => if j < (shp g).2.2.1 then some (G.1 (tgtG g) j) else none))))) := by
  unfold cellOf
  rw [hk]
theorem fvals_up {ad : Nat → Nat → Nat} {σ : Hp} {g x k : Nat} {v : Int} {f : Nat × Nat × Nat} (hf : (shp g).2.2.2[k]? = some f) (ht : f.1 < 2) : fvals ad (zup σ g x k v) g x = (fvals ad σ g x).set k (.int (n32 v)) := by
  apply List.ext_getElem?
  intro j
  have hl : k < (fvals ad σ g x).length := by unfold fvals; rw [List.length_mapIdx]; exact (List.getElem?_eq_some_iff.mp hf).1
  by_cases hj : j = k
  · subst hj
    rw [List.getElem?_set_self hl, fvals_at hf]
    obtain ⟨t, r⟩ := f
    unfold fval
    match t, ht with
    | 0, _ => simp [zup]
    | 1, _ => simp [zup]
  · rw [List.getElem?_set_ne (Ne.symm hj)]
    unfold fvals
    rw [List.getElem?_mapIdx, List.getElem?_mapIdx]
    cases (shp g).2.2.2[j]? with
    | none => rfl
    | some f' =>
      simp only [Option.map_some]
      unfold fval
      simp [zup, hj]
def tyOK (g : Nat) : Bool := match (shp g).1 with
  | 0 => true
  | 1 => true
  | 2 => true
  | c + 3 => decide (c < 12) && (List.range (shp g).2.2.2.length).all (fun k => match (shp g).2.2.2[k]? with
    | some f => (f.1 != 0 || tyT c k == .int) && (f.1 != 1 || tyT c k == .boolean)
    | none => true)
theorem tyOK_all : (List.range 52).all tyOK = true := by decide +kernel
theorem ty_of {g c k : Nat} {f : Nat × Nat × Nat} (hg : g < 52) (hk : (shp g).1 = c + 3) (hf : (shp g).2.2.2[k]? = some f) : c < 12 ∧ (f.1 = 0 → tyT c k = .int) ∧ (f.1 = 1 → tyT c k = .boolean) := by
  have h0 := List.all_eq_true.mp tyOK_all g (List.mem_range.mpr hg)
  unfold tyOK at h0
  rw [hk] at h0
  simp only [Bool.and_eq_true, decide_eq_true_eq] at h0
  have h1 := List.all_eq_true.mp h0.2 k (List.mem_range.mpr (List.getElem?_eq_some_iff.mp hf).1)
  rw [hf] at h1
  simp only [Bool.and_eq_true, Bool.or_eq_true, bne_iff_ne, ne_eq, beq_iff_eq] at h1
  exact ⟨h0.1, fun q => h1.1.resolve_left (fun z => z q), fun q => h1.2.resolve_left (fun z => z q)⟩
/-- the links that the tables have -/
def lnkF (M : Mt) (idx ci k : Nat) : Bool := fTab.any (fun e => e.1 == M.2.2.2.2 && e.2.1 == idx && e.2.2.1 == ci && e.2.2.2.1 == k) && decide (ownN M.2.2.2.2 = M.1.cls)
theorem lnkF_ok {M : Mt} {idx ci k : Nat} (h : lnkF M idx ci k = true) : Cond.fieldLink M.1.cls idx ((clsT ci).2.1 k).1 ((clsT ci).2.1 k).2.1 ((clsT ci).2.1 k).2.2.1 ∈ gTbl ∧ k < (clsT ci).2.2 ∧ ci < 12 := by
  unfold lnkF at h
  simp only [Bool.and_eq_true, decide_eq_true_eq] at h
  obtain ⟨e, he, h1⟩ := List.any_eq_true.mp h.1
  simp only [Bool.and_eq_true, beq_iff_eq] at h1
  obtain ⟨⟨⟨a1, a2⟩, a3⟩, a4⟩ := h1
  have h2 := List.all_eq_true.mp fTab_ok e he
  simp only [Bool.and_eq_true, decide_eq_true_eq] at h2
  obtain ⟨⟨⟨b1, b2⟩, b3⟩, b4⟩ := h2
  have h3 := gTbl_in b1 b2
  unfold fW at h3
  rw [a1, a2, a3, a4, h.2] at h3
  rw [a3, a4] at b3
  rw [a3] at b4
  exact ⟨h3, b3, b4⟩
theorem s_getfield {d : Nat} {M : Mt} {pc : Nat} {L S : List AV} {σ : Hp} {Q : Option Int → Hp → Prop} {idx ci k g x : Nat} {f : Nat × Nat × Nat} (hl0 : lnkF M idx ci k = true) (hk : (shp g).1 = ci + 3) (hf : (shp g).2.2.2[k]? = some f)
    (hd : decode M.2.1 pc = .ok (.getfield idx, 3)) (h : Runs d M (pc + 3) L (fA σ g x k f :: S) σ Q) : Runs d M pc L (zR g x :: S) σ Q := by
  obtain ⟨w1, w2, w3⟩ := lnkF_ok hl0
  have hg : g < 52 := kind_lt (by omega)
  refine Runs.step (L' := L) (S' := fA σ g x k f :: S) (σ' := σ) (fun oL oS oH => ⟨oL, okVs_cons (fA_ok hg (okVs_hd oS) hf oH) (okVs_tl oS)⟩) (fun G p l e R s m args below meth c cells slots A QQ C oL oS H locs ls hW hl kk => ?_) h
  obtain ⟨hx, hb, hml, hown, hts, hR, hK⟩ := C
  obtain ⟨q0, he, -⟩ := ws_at G σ hg (okVs_hd oS)
  rw [cell_obj hk] at he
  obtain ⟨i1, i2, i3, i4⟩ := cls_in ci w3
  refine va_get hx hb hts i1 hown hK hW.1 q0 he i4 k w2 (hts _ w1) (fun _ h9 => h9) (fvals_at hf) hd ?_
  have := kk H locs ls hW hl
  rw [List.map_cons, fA_cv] at this
  exact this
theorem narrow_i (z : Int) : narrow .int (.int (n32 z)) = .int (n32 z) := rfl
theorem narrow_z {z : Int} (h : z = 0 ∨ z = 1) : narrow .boolean (.int (n32 z)) = .int (n32 z) := by
  rcases h with rfl | rfl <;> decide
theorem fits_z {z : Int} (h : z = 0 ∨ z = 1) : fits .boolean (.int (n32 z)) = true := by
  rcases h with rfl | rfl <;> decide
theorem Wld_up {G : Gw} {A : Nat → Prop} {σ : Hp} {s : State} {H1 : Heap} {locs1 : List Loc} {g x k : Nat} {v : Int} {q0 : Nat} (hg : g < 52) (hv : inR v) (hR : RO G A σ s) (hH : okH σ) (hq : IDX[q0]? = some (g, x)) {c1 : va_E} (hc : cellOf G (zup σ g x k v) g x = c1)
    (h1 : va_P G.2.1 clsL ((wsOf G σ).set q0 (G.1 g x, c1)) H1) (h2 : va_D A ((wsOf G σ).set q0 (G.1 g x, c1))) (h3 : va_S A s.heap H1 locs1) : Wld G A (zup σ g x k v) s H1 locs1 := by
  subst hc
  rw [ws_set hq (fun g' i' h => cell_up h)] at h1 h2
  refine ⟨h1, h2, h3, hR.same ?_ ?_ ?_, okH_up hH hv⟩
  · funext i'; exact zup_ne (fun e => by cases e; omega)
  · funext i'; exact zup_ne (fun e => by cases e; omega)
  · funext i'; exact zup_ne (fun e => by cases e; omega)
theorem s_putfield {d : Nat} {M : Mt} {pc : Nat} {L S : List AV} {σ : Hp} {Q : Option Int → Hp → Prop} {idx ci k g x : Nat} {v : Int} {f : Nat × Nat × Nat} (hl0 : lnkF M idx ci k = true) (hfin : ((clsT ci).2.1 k).2.2.2 = false) (hk : (shp g).1 = ci + 3) (hf : (shp g).2.2.2[k]? = some f) (ht : f.1 = 0 ∨ (f.1 = 1 ∧ (v = 0 ∨ v = 1)))
    (hd : decode M.2.1 pc = .ok (.putfield idx, 3)) (h : Runs d M (pc + 3) L S (zup σ g x k v) Q) : Runs d M pc L (zI v :: zR g x :: S) σ Q := by
  obtain ⟨w1, w2, w3⟩ := lnkF_ok hl0
  have hg : g < 52 := kind_lt (by omega)
  obtain ⟨-, t1, t2⟩ := ty_of hg hk hf
  refine Runs.step (L' := L) (S' := S) (σ' := zup σ g x k v) (fun oL oS oH => ⟨oL, okVs_tl (okVs_tl oS)⟩) (fun G p l e R s m args below meth c cells slots A QQ C oL oS H locs ls hW hl kk => ?_) h
  obtain ⟨hx, hb, hml, hown, hts, hR, hK⟩ := C
  obtain ⟨q0, he, hq⟩ := ws_at G σ hg (okVs_hd (okVs_tl oS))
  rw [cell_obj hk] at he
  obtain ⟨i1, i2, i3, i4⟩ := cls_in ci w3
  have hlen : k < (fvals G.1 σ g x).length := (List.getElem?_eq_some_iff.mp (fvals_at (ad := G.1) (σ := σ) (x := x) hf)).1
  have hty : narrow (tyT ci k) (.int (n32 v)) = .int (n32 v) ∧ fits (tyT ci k) (.int (n32 v)) = true := by
    rcases ht with q | ⟨q, q2⟩
    · rw [t1 q]; exact ⟨rfl, rfl⟩
    · rw [t2 q]; exact ⟨narrow_z q2, fits_z q2⟩
  refine va_put hx hb hts i1 (tyT ci) i2 i3 hown hK hW.1 hW.2.1 hW.2.2.1 q0 he i4 k w2 (hts _ w1) (fun _ h9 => h9) hfin (i2 k w2) hty.1 hty.2 hlen hd (fun H1 locs1 p1 p2 p3 => ?_)
  exact kk H1 locs1 ls (Wld_up hg (okVs_hd oS) hW.2.2.2.1 hW.2.2.2.2 hq (by rw [cell_obj hk, fvals_up hf (by omega)]; rfl) p1 p2 p3) hl
def lnkS (M : Mt) (idx g : Nat) : Bool := sTab.any (fun e => e.1 == M.2.2.2.2 && e.2.1 == idx && e.2.2.1 == g) && decide (ownN M.2.2.2.2 = M.1.cls)
theorem lnkS_ok {M : Mt} {idx g : Nat} (h : lnkS M idx g = true) : Cond.fieldLink M.1.cls idx RX10 (sNm g) "[I" ∈ gTbl ∧ (g = 61 ∨ g = 62) := by
  unfold lnkS at h
  simp only [Bool.and_eq_true, decide_eq_true_eq] at h
  obtain ⟨e, he, h1⟩ := List.any_eq_true.mp h.1
  simp only [Bool.and_eq_true, beq_iff_eq] at h1
  obtain ⟨⟨a1, a2⟩, a3⟩ := h1
  have h2 := List.all_eq_true.mp sTab_ok e he
  simp only [Bool.and_eq_true, decide_eq_true_eq, Bool.or_eq_true, beq_iff_eq] at h2
  obtain ⟨⟨b1, b2⟩, b3⟩ := h2
  have h3 := gTbl_in b1 b2
  unfold sW at h3
  rw [a1, a2, a3, h.2] at h3
  rw [a3] at b3
  exact ⟨h3, b3⟩
theorem s_getstatic {d : Nat} {M : Mt} {pc : Nat} {L S : List AV} {σ : Hp} {Q : Option Int → Hp → Prop} {idx g : Nat} (hl0 : lnkS M idx g = true)
    (hd : decode M.2.1 pc = .ok (.getstatic idx, 3)) (h : Runs d M (pc + 3) L (zR g 0 :: S) σ Q) : Runs d M pc L S σ Q := by
  obtain ⟨w1, w2⟩ := lnkS_ok hl0
  have hc : 0 < cntG g := by rcases w2 with rfl | rfl <;> decide
  refine Runs.step (L' := L) (S' := zR g 0 :: S) (σ' := σ) (fun oL oS oH => ⟨oL, okVs_cons hc oS⟩) (fun G p l e R s m args below meth c cells slots A QQ C oL oS H locs ls hW hl kk => ?_) h
  obtain ⟨hx, hb, hml, hown, hts, hR, hK⟩ := C
  exact va_gets hx hb (hW.2.2.2.1.2.2 g w2).1 hW.2.2.1 hown (hts _ w1) (fun _ h9 => h9) hd (kk H locs ls hW hl)
theorem s_iaload {d : Nat} {M : Mt} {pc : Nat} {L S : List AV} {σ : Hp} {Q : Option Int → Hp → Prop} {g x : Nat} {i : Int} (hk : (shp g).1 = 0) (hi : 0 ≤ i ∧ i < ((shp g).2.2.1 : Int))
    (hd : decode M.2.1 pc = .ok (.iaload, 1)) (h : Runs d M (pc + 1) L (zI (σ g x i.toNat) :: S) σ Q) : Runs d M pc L (zI i :: zR g x :: S) σ Q := by
  have hg : g < 52 := kind_lt (by omega)
  refine Runs.step (L' := L) (S' := zI (σ g x i.toNat) :: S) (σ' := σ) (fun oL oS oH => ⟨oL, okVs_cons (oH _ _ _) (okVs_tl (okVs_tl oS))⟩) (fun G p l e R s m args below meth c cells slots A QQ C oL oS H locs ls hW hl kk => ?_) h
  obtain ⟨hx, hb, hml, hown, hts, hR, hK⟩ := C
  obtain ⟨q0, he, -⟩ := ws_at G σ hg (okVs_hd (okVs_tl oS))
  obtain ⟨t0, ht⟩ := ty_at G hg (by omega)
  rw [cell_int hk] at he
  rw [show atyG g = .int by unfold atyG; rw [hk]; rfl] at ht
  have hi2 := okVs_hd oS
  refine va_iald hx hb hK hW.1 q0 t0 he ht (n32_in hi2 hi) hd ?_
  have := kk H locs ls hW hl
  rw [n32_nat hi.1 hi2]
  exact this
theorem s_baload {d : Nat} {M : Mt} {pc : Nat} {L S : List AV} {σ : Hp} {Q : Option Int → Hp → Prop} {g x : Nat} {i : Int} (hk : (shp g).1 = 1) (hi : 0 ≤ i ∧ i < ((shp g).2.2.1 : Int))
    (hd : decode M.2.1 pc = .ok (.baload, 1)) (h : Runs d M (pc + 1) L (zI (σ g x i.toNat) :: S) σ Q) : Runs d M pc L (zI i :: zR g x :: S) σ Q := by
  have hg : g < 52 := kind_lt (by omega)
  refine Runs.step (L' := L) (S' := zI (σ g x i.toNat) :: S) (σ' := σ) (fun oL oS oH => ⟨oL, okVs_cons (oH _ _ _) (okVs_tl (okVs_tl oS))⟩) (fun G p l e R s m args below meth c cells slots A QQ C oL oS H locs ls hW hl kk => ?_) h
  obtain ⟨hx, hb, hml, hown, hts, hR, hK⟩ := C
  obtain ⟨q0, he, -⟩ := ws_at G σ hg (okVs_hd (okVs_tl oS))
  obtain ⟨t0, ht⟩ := ty_at G hg (by omega)
  rw [cell_bool hk] at he
  rw [show atyG g = .boolean by unfold atyG; rw [hk]; rfl] at ht
  have hi2 := okVs_hd oS
  refine va_zald hx hb hK hW.1 q0 t0 he ht (n32_in hi2 hi) hd ?_
  have := kk H locs ls hW hl
  rw [n32_nat hi.1 hi2]
  exact this
theorem s_sload {d : Nat} {M : Mt} {pc : Nat} {L S : List AV} {σ : Hp} {Q : Option Int → Hp → Prop} {i : Int} (hi : 0 ≤ i ∧ i < σ 60 1 0)
    (hd : decode M.2.1 pc = .ok (.iaload, 1)) (h : Runs d M (pc + 1) L (zI (σ 60 0 i.toNat) :: S) σ Q) : Runs d M pc L (zI i :: zR 60 0 :: S) σ Q := by
  refine Runs.step (L' := L) (S' := zI (σ 60 0 i.toNat) :: S) (σ' := σ) (fun oL oS oH => ⟨oL, okVs_cons (oH _ _ _) (okVs_tl (okVs_tl oS))⟩) (fun G p l e R s m args below meth c cells slots A QQ C oL oS H locs ls hW hl kk => ?_) h
  obtain ⟨hx, hb, hml, hown, hts, hR, hK⟩ := C
  obtain ⟨⟨x1, x2, x3⟩, ⟨x4, x5⟩, x6⟩ := hW.2.2.2.1
  have hi2 := okVs_hd oS
  refine va_sld hx hb x1 x2 x3 hW.2.2.1 (n32_in hi2 (by rw [← x4]; exact hi)) hd ?_
  have := kk H locs ls hW hl
  rw [n32_nat hi.1 hi2]
  exact this
theorem s_tload {d : Nat} {M : Mt} {pc : Nat} {L S : List AV} {σ : Hp} {Q : Option Int → Hp → Prop} {i : Int} {g : Nat} (hg : g = 61 ∨ g = 62) (hi : 0 ≤ i ∧ i < 4)
    (hd : decode M.2.1 pc = .ok (.iaload, 1)) (h : Runs d M (pc + 1) L (zI (σ g 0 i.toNat) :: S) σ Q) : Runs d M pc L (zI i :: zR g 0 :: S) σ Q := by
  refine Runs.step (L' := L) (S' := zI (σ g 0 i.toNat) :: S) (σ' := σ) (fun oL oS oH => ⟨oL, okVs_cons (oH _ _ _) (okVs_tl (okVs_tl oS))⟩) (fun G p l e R s m args below meth c cells slots A QQ C oL oS H locs ls hW hl kk => ?_) h
  obtain ⟨hx, hb, hml, hown, hts, hR, hK⟩ := C
  have hi2 := okVs_hd oS
  refine va_ti hx hb (hW.2.2.2.1.2.2 g hg).2 hW.2.2.1 (n32_in hi2 hi) rfl hd ?_
  have := kk H locs ls hW hl
  rw [n32_nat hi.1 hi2]
  exact this
theorem up_int {σ : Hp} {g x : Nat} {i v : Int} : (fun j => n32 ((zup σ g x i.toNat v) g x j)) = upd (fun j => n32 (σ g x j)) i.toNat (n32 v) := by
  funext j
  by_cases h : j = i.toNat
  · simp [zup, upd, h]
  · simp [zup, upd, h]
theorem s_iastore {d : Nat} {M : Mt} {pc : Nat} {L S : List AV} {σ : Hp} {Q : Option Int → Hp → Prop} {g x : Nat} {i v : Int} (hk : (shp g).1 = 0) (hi : 0 ≤ i ∧ i < ((shp g).2.2.1 : Int))
    (hd : decode M.2.1 pc = .ok (.iastore, 1)) (h : Runs d M (pc + 1) L S (zup σ g x i.toNat v) Q) : Runs d M pc L (zI v :: zI i :: zR g x :: S) σ Q := by
  have hg : g < 52 := kind_lt (by omega)
  refine Runs.step (L' := L) (S' := S) (σ' := zup σ g x i.toNat v) (fun oL oS oH => ⟨oL, okVs_tl (okVs_tl (okVs_tl oS))⟩) (fun G p l e R s m args below meth c cells slots A QQ C oL oS H locs ls hW hl kk => ?_) h
  obtain ⟨hx, hb, hml, hown, hts, hR, hK⟩ := C
  obtain ⟨q0, he, hq⟩ := ws_at G σ hg (okVs_hd (okVs_tl (okVs_tl oS)))
  obtain ⟨t0, ht⟩ := ty_at G hg (by omega)
  rw [cell_int hk] at he
  rw [show atyG g = .int by unfold atyG; rw [hk]; rfl] at ht
  have hi2 := okVs_hd (okVs_tl oS)
  refine va_iast hx hb hK hW.1 hW.2.1 hW.2.2.1 q0 t0 he ht (n32_in hi2 hi) hd (fun H1 locs1 p1 p2 p3 => ?_)
  rw [n32_nat hi.1 hi2] at p1 p2
  exact kk H1 locs1 ls (Wld_up hg (okVs_hd oS) hW.2.2.2.1 hW.2.2.2.2 hq (by rw [cell_int hk, up_int]) p1 p2 p3) hl
theorem nar_z {v : Int} (h : v = 0 ∨ v = 1) : vp_nar .boolean (n32 v) = n32 v := by
  rcases h with rfl | rfl <;> decide
theorem s_bastore {d : Nat} {M : Mt} {pc : Nat} {L S : List AV} {σ : Hp} {Q : Option Int → Hp → Prop} {g x : Nat} {i v : Int} (hk : (shp g).1 = 1) (hi : 0 ≤ i ∧ i < ((shp g).2.2.1 : Int)) (hv : v = 0 ∨ v = 1)
    (hd : decode M.2.1 pc = .ok (.bastore, 1)) (h : Runs d M (pc + 1) L S (zup σ g x i.toNat v) Q) : Runs d M pc L (zI v :: zI i :: zR g x :: S) σ Q := by
  have hg : g < 52 := kind_lt (by omega)
  refine Runs.step (L' := L) (S' := S) (σ' := zup σ g x i.toNat v) (fun oL oS oH => ⟨oL, okVs_tl (okVs_tl (okVs_tl oS))⟩) (fun G p l e R s m args below meth c cells slots A QQ C oL oS H locs ls hW hl kk => ?_) h
  obtain ⟨hx, hb, hml, hown, hts, hR, hK⟩ := C
  obtain ⟨q0, he, hq⟩ := ws_at G σ hg (okVs_hd (okVs_tl (okVs_tl oS)))
  obtain ⟨t0, ht⟩ := ty_at G hg (by omega)
  rw [cell_bool hk] at he
  rw [show atyG g = .boolean by unfold atyG; rw [hk]; rfl] at ht
  have hi2 := okVs_hd (okVs_tl oS)
  refine va_zast hx hb hK hW.1 hW.2.1 hW.2.2.1 q0 t0 he ht (n32_in hi2 hi) hd (fun H1 locs1 p1 p2 p3 => ?_)
  rw [n32_nat hi.1 hi2, nar_z hv] at p1 p2
  exact kk H1 locs1 ls (Wld_up hg (okVs_hd oS) hW.2.2.2.1 hW.2.2.2.2 hq (by rw [cell_bool hk, up_int]) p1 p2 p3) hl
def arOK (g : Nat) : Bool := (shp g).1 != 2 || (cntG (tgtG g) == (shp g).2.2.1)
theorem arOK_all : (List.range 52).all arOK = true := by decide +kernel
theorem s_aaload {d : Nat} {M : Mt} {pc : Nat} {L S : List AV} {σ : Hp} {Q : Option Int → Hp → Prop} {g x : Nat} {i : Int} (hk : (shp g).1 = 2) (hi : 0 ≤ i ∧ i < ((shp g).2.2.1 : Int))
    (hd : decode M.2.1 pc = .ok (.aaload, 1)) (h : Runs d M (pc + 1) L (zR (tgtG g) i.toNat :: S) σ Q) : Runs d M pc L (zI i :: zR g x :: S) σ Q := by
  have hg : g < 52 := kind_lt (by omega)
  have hc : i.toNat < cntG (tgtG g) := by
    have h0 := List.all_eq_true.mp arOK_all g (List.mem_range.mpr hg)
    simp [arOK, hk] at h0
    omega
  refine Runs.step (L' := L) (S' := zR (tgtG g) i.toNat :: S) (σ' := σ) (fun oL oS oH => ⟨oL, okVs_cons hc (okVs_tl (okVs_tl oS))⟩) (fun G p l e R s m args below meth c cells slots A QQ C oL oS H locs ls hW hl kk => ?_) h
  obtain ⟨hx, hb, hml, hown, hts, hR, hK⟩ := C
  obtain ⟨q0, he, -⟩ := ws_at G σ hg (okVs_hd (okVs_tl oS))
  obtain ⟨t0, ht⟩ := ty_at G hg (by omega)
  rw [cell_ref hk] at he
  have hi2 := okVs_hd oS
  have href : (atyG g).isReference = true := by
    unfold atyG
    rw [hk]
    cases (shp (tgtG g)).1 <;> rfl
  have hin := n32_in hi2 hi
  have hlt : (n32 i).toNatClampNeg < (shp g).2.2.1 := Nat.not_le.mp fun q => hin (Or.inr q)
  refine W.aald (v := .ref (G.1 (tgtG g) i.toNat)) (ty := atyG g) hx hb (hW.1 q0 _ he) ((hK.2 t0 _ ht).1 (shp g).2.2.1 (fun j => va_rf (if j < (shp g).2.2.1 then some (G.1 (tgtG g) j) else none))) href (fun q => by cases q) (by show ¬ (n32 i < 0 ∨ (arrV _ _ _).slots.size ≤ _); rw [arrV_size]; exact hin) ?_ rfl rfl hd (kk H locs ls hW hl)
  show (arrV _ _ _).slots[_]? = _
  rw [arrV_read _ _ hlt, n32_nat hi.1 hi2]
  show some (va_rf (if i.toNat < (shp g).2.2.1 then some (G.1 (tgtG g) i.toNat) else none)) = _
  rw [if_pos (by omega)]
  rfl
theorem n32_ofNat (n : Nat) : Int32.ofNat n = n32 (n : Int) := by
  exact (Int32.ofInt_eq_ofNat).symm
theorem s_slen {d : Nat} {M : Mt} {pc : Nat} {L S : List AV} {σ : Hp} {Q : Option Int → Hp → Prop} (hd : decode M.2.1 pc = .ok (.arraylength, 1)) (h : Runs d M (pc + 1) L (zI (σ 60 1 0) :: S) σ Q) : Runs d M pc L (zR 60 0 :: S) σ Q := by
  refine Runs.step (L' := L) (S' := zI (σ 60 1 0) :: S) (σ' := σ) (fun oL oS oH => ⟨oL, okVs_cons (oH _ _ _) (okVs_tl oS)⟩) (fun G p l e R s m args below meth c cells slots A QQ C oL oS H locs ls hW hl kk => ?_) h
  obtain ⟨hx, hb, hml, hown, hts, hR, hK⟩ := C
  obtain ⟨⟨x1, x2, x3⟩, ⟨x4, x5⟩, x6⟩ := hW.2.2.2.1
  refine va_slen hx hb x1 x2 x3 hW.2.2.1 hd ?_
  rw [n32_ofNat, ← x4]
  exact kk H locs ls hW hl
theorem s_alen {d : Nat} {M : Mt} {pc : Nat} {L S : List AV} {σ : Hp} {Q : Option Int → Hp → Prop} {g x : Nat} (hk : (shp g).1 = 0) (hd : decode M.2.1 pc = .ok (.arraylength, 1)) (h : Runs d M (pc + 1) L (zI ((shp g).2.2.1 : Int) :: S) σ Q) : Runs d M pc L (zR g x :: S) σ Q := by
  have hg : g < 52 := kind_lt (by omega)
  have hsm : ∀ g, g < 52 → (shp g).2.2.1 < 1000 := by decide +kernel
  have := hsm g hg
  refine Runs.step (L' := L) (S' := zI ((shp g).2.2.1 : Int) :: S) (σ' := σ) (fun oL oS oH => ⟨oL, okVs_cons (show inR _ from ⟨by omega, by omega⟩) (okVs_tl oS)⟩) (fun G p l e R s m args below meth c cells slots A QQ C oL oS H locs ls hW hl kk => ?_) h
  obtain ⟨hx, hb, hml, hown, hts, hR, hK⟩ := C
  obtain ⟨q0, he, -⟩ := ws_at G σ hg (okVs_hd oS)
  obtain ⟨t0, ht⟩ := ty_at G hg (by omega)
  rw [cell_int hk] at he
  exact va_alen hx hb hK hW.1 q0 t0 he ht (n32_ofNat _) hd (kk H locs ls hW hl)
