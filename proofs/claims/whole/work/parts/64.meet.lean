/-! the reference's roads; who meets whom -/
def OffM (G J : List Nat) (σ σ' : Hp) : Prop := Off (34 :: G) σ σ' ∧ ∀ j, j ∉ J → σ' 34 0 j = σ 34 0 j
theorem OffM.rf {G J : List Nat} {σ : Hp} : OffM G J σ σ := ⟨Off.rf, fun _ _ => rfl⟩
theorem OffM.tr {G J : List Nat} {a b c : Hp} (h1 : OffM G J a b) (h2 : OffM G J b c) : OffM G J a c := ⟨h1.1.tr h2.1, fun j hj => (h2.2 j hj).trans (h1.2 j hj)⟩
theorem OffM.up {G J : List Nat} {a b : Hp} {g i j : Nat} {v : Int} (h : OffM G J a b) (hg : g ∈ G ∧ g ≠ 34) : OffM G J a (zup b g i j v) := ⟨h.1.up (List.mem_cons_of_mem _ hg.1), fun k hk => by
  rw [show (zup b g i j v) 34 0 k = b 34 0 k by unfold zup; rw [if_neg (fun z => hg.2 z.1.symm)]]
  exact h.2 k hk⟩
theorem OffM.up34 {G J : List Nat} {a b : Hp} {j : Nat} {v : Int} (h : OffM G J a b) (hj : j ∈ J) : OffM G J a (zup b 34 0 j v) := ⟨h.1.up List.mem_cons_self, fun k hk => by
  rw [show (zup b 34 0 j v) 34 0 k = b 34 0 k by unfold zup; rw [if_neg (fun z => hk (by rw [z.2.2]; exact hj))]]
  exact h.2 k hk⟩
theorem OffM.of {G G' J : List Nat} {a b : Hp} (h : Off G a b) (h34 : 34 ∉ G) (hs : ∀ g ∈ G, g ∈ G') : OffM G' J a b := ⟨h.mono (fun g hg => List.mem_cons_of_mem _ (hs g hg)), fun j _ => by rw [h 34 h34]⟩
theorem OffM.mono {G G' J J' : List Nat} {a b : Hp} (h : OffM G J a b) (hs : ∀ g ∈ G, g ∈ G') (hj : ∀ j ∈ J, j ∈ J') : OffM G' J' a b := ⟨h.1.mono (fun g hg => by
  rcases List.mem_cons.mp hg with q | q
  · rw [q]; exact List.mem_cons_self
  · exact List.mem_cons_of_mem _ (hs g q)), fun j hn => h.2 j (fun q => hn (hj j q))⟩
def RF (σ : Hp) (s : Nat → Int) (D : Nat → Int) (to i : Nat) : Prop := σ 34 0 14 = (i : Int) ∧ σ 34 0 15 = rw_ s D to i ∧ ∀ j, j < i → σ 43 0 j = (rc s D to j : Int) ∧ σ 44 0 j = (bk s D (rc s D to j)).1 ∧ σ 45 0 j = rg s D to (j + 1)
/-- what the search back over the streets has found -/
def BI (s : Nat → Int) (D : Nat → Int) (c : Nat) (Pr : Int → Int → Prop) (l5 x : Int) : Prop := (l5 = -9 ∧ ∀ t e, back s D c t e → ¬ Pr t e) ∨ ∃ e, back s D c l5 e ∧ Pr l5 e ∧ (∀ t' e', back s D c t' e' → Pr t' e' → l5 ≤ t') ∧ x = entS s l5 e (D (ea s l5 e))
section FRoad
variable {K : Int → Hp → Prop} {K' : Hp → Prop} {s : Nat → Int} {f : Nat} {m : Int} {D : Nat → Int}
theorem froad_end (hw : WF s) (hD : Soon s f m D) {σ : Hp} (hs : σ 36 0 = s) (hr : rep41 σ) (h41 : ∀ c, c < 10 → tauR σ c = D c) {c i : Nat} (hc : c < 10) (hcl : D c < 1000000) (hi : i < 9) (h14 : σ 34 0 14 = (i : Int)) {l1 t e l5 : Int} (hv : vst s t e) {Pr : Int → Int → Prop} (hb : BI s D c Pr l5 (σ 45 0 i)) (hlt : ∀ t' e', Pr t' e' → t ≤ t')
    (cont : ∀ σ' l5', Off [45] σ σ' → (∀ j, j ≠ i → σ' 45 0 j = σ 45 0 j) → BI s D c (fun t' e' => Pr t' e' ∨ (t' = t ∧ e' = e)) l5' (σ' 45 0 i) → Runs 5 mX11_findsRoad 69 [zR 34 0, zI l1, zU, zU, zI (c : Int), zI l5', zI t, zI (e + 1), zU, zU] [] σ' (rI K)) :
    Runs 5 mX11_findsRoad 69 [zR 34 0, zI l1, zU, zU, zI (c : Int), zI l5, zI t, zI e, zU, zU] [] σ (rI K) := by
  have w1 := hw.2.1
  have v := vst_ok hw hv
  have hv0 := hv.1
  have hv1 := hv.2.1
  have he := hv.2.2
  have no : ¬ back s D c t e → BI s D c (fun t' e' => Pr t' e' ∨ (t' = t ∧ e' = e)) l5 (σ 45 0 i) := fun nb => by
    have sp : ∀ t' e', back s D c t' e' → (Pr t' e' ∨ (t' = t ∧ e' = e)) → Pr t' e' := fun t' e' h1 h2 => h2.elim id (fun z => by rw [z.1, z.2] at h1; exact absurd h1 nb)
    rcases hb with ⟨b1, b2⟩ | ⟨e1, b1, b2, b3, b4⟩
    · exact Or.inl ⟨b1, fun t' e' h1 h2 => b2 t' e' h1 (sp t' e' h1 h2)⟩
    · exact Or.inr ⟨e1, b1, Or.inl b2, fun t' e' h1 h2 => b3 t' e' h1 (sp t' e' h1 h2), b4⟩
  have skip : ¬ back s D c t e → Runs 5 mX11_findsRoad 69 [zR 34 0, zI l1, zU, zU, zI (c : Int), zI l5, zI t, zI (e + 1), zU, zU] [] σ (rI K) := fun nb => cont σ l5 Off.rf (fun _ _ => rfl) (no nb)
  have eu : (sg s t e).toNat = ea s t e := rfl
  have hu := h41 _ v.1
  have hru := hr _ v.1
  have bu := hD.2.2.2.1 _ v.1
  have m0 := hD.2.1
  refine gX11_findsRoad_69 l1 (c : Int) l5 t e σ ⟨fun q => absurd q (by omega), fun _ => ?_⟩
  rw [hs]
  refine ⟨by omega, by omega, by omega, by omega, by omega, fun c1 => ⟨by omega, skip (fun nb => c1 (by have := nb.2.1; omega))⟩, fun c1 => ⟨by omega, ?_⟩⟩
  rw [eu]
  refine ⟨fun c2 => ⟨by omega, hw, by omega, ?_, he, ?_⟩, fun c2 => ⟨by omega, skip (fun nb => ?_)⟩⟩
  · omega
  · have ex : σ 41 0 (ea s t e) = D (ea s t e) := by
      unfold tauR at hu
      rw [if_neg (by omega)] at hu
      exact hu
    rw [ex]
    have e9 : entS s t e (D (ea s t e)) = -9 ∨ 0 ≤ entS s t e (D (ea s t e)) := by
      by_cases q : entS s t e (D (ea s t e)) = -9
      · exact Or.inl q
      · have := entS_ge hw (m := D (ea s t e)) (by omega) q
        exact Or.inr (by omega)
    refine ⟨fun c3 => ⟨by omega, skip (fun nb => nb.2.2.2.1 (by omega))⟩, fun c3 => ⟨by omega, ?_, by omega, fun z1 ez => ⟨fun c4 => ⟨by omega, by omega, fun σ2 e2 => ?_⟩, fun c4 => ⟨by omega, skip (fun nb => ?_)⟩⟩⟩⟩
    · have := entS_ge hw (m := D (ea s t e)) (t := t) (e := e) (by omega) (by omega)
      omega
    · have hcc := h41 c hc
      have hrc := hr c hc
      simp only [Int.toNat_natCast] at c4
      have e41 : σ 41 0 c = D c := by
        unfold tauR at hcc
        by_cases q : σ 41 0 c < 0
        · rw [if_pos q] at hcc; omega
        · rw [if_neg q] at hcc; exact hcc
      rw [h14] at e2
      simp only [Int.toNat_natCast] at e2
      have hbk : back s D c t e := ⟨hv, by omega, by omega, by omega, by omega⟩
      refine cont σ2 t ?_ (fun j hj => ?_) (Or.inr ⟨e, hbk, Or.inr ⟨rfl, rfl⟩, fun t' e' h1 h2 => ?_, ?_⟩)
      · rw [e2]; exact Off.rf.up (by decide)
      · rw [e2]; simp [zup, hj]
      · rcases h2 with q | q
        · exact hlt t' e' q
        · omega
      · rw [e2]; simp [zup]
    · have hcc := h41 c hc
      simp only [Int.toNat_natCast] at c4
      have := nb.2.2.2.2
      unfold tauR at hcc
      by_cases q : σ 41 0 c < 0
      · rw [if_pos q] at hcc; omega
      · rw [if_neg q] at hcc; omega
  · unfold tauR at hu
    rw [if_pos (by omega)] at hu
    have := nb.2.2.1
    omega
theorem froad_scan (hw : WF s) (hD : Soon s f m D) {σ : Hp} (hs : σ 36 0 = s) (hr : rep41 σ) (h41 : ∀ c, c < 10 → tauR σ c = D c) {c i : Nat} (hc : c < 10) (hcl : D c < 1000000) (hcf : c ≠ f) (hi : i < 9) (h14 : σ 34 0 14 = (i : Int)) {l1 : Int}
    (cont : ∀ σ', Off [45] σ σ' → (∀ j, j ≠ i → σ' 45 0 j = σ 45 0 j) → σ' 45 0 i = entS s (bk s D c).1 (bk s D c).2 (D (ea s (bk s D c).1 (bk s D c).2)) → Runs 5 mX11_findsRoad 61 [zR 34 0, zI l1, zU, zU, zI (c : Int), zI (bk s D c).1, zI (-1), zU, zU, zU] [] σ' (rI K)) :
    Runs 5 mX11_findsRoad 61 [zR 34 0, zI l1, zU, zU, zI (c : Int), zI (-9), zI (s 1 - 1), zU, zU, zU] [] σ (rI K) := by
  have w1 := hw.2.1
  have fr := bk_ok (back_ex hD hc hcl hcf)
  have loop : ∀ (n : Nat) (l5 : Int) (σ1 : Hp), (n : Int) ≤ s 1 → Off [45] σ σ1 → (∀ j, j ≠ i → σ1 45 0 j = σ 45 0 j) → BI s D c (fun t' _ => (n : Int) ≤ t') l5 (σ1 45 0 i) → Runs 5 mX11_findsRoad 61 [zR 34 0, zI l1, zU, zU, zI (c : Int), zI l5, zI ((n : Int) - 1), zU, zU, zU] [] σ1 (rI K) := by
    intro n
    induction n with
    | zero =>
      intro l5 σ1 hn o1 k1 hb
      rcases hb with ⟨b1, b2⟩ | ⟨e1, b1, b2, b3, b4⟩
      · have h0 := fr.1.1.1
        exact absurd (show ((0 : Nat) : Int) ≤ (bk s D c).1 by omega) (b2 _ _ fr.1)
      · have be := bk_eq hw (c := c) (t := l5) (e := e1) ⟨b1, fun t' e' h' => b3 t' e' h' (by have := h'.1.1; omega)⟩
        have := cont σ1 o1 k1 (by rw [be.1, be.2]; exact b4)
        rw [be.1] at this
        exact this
    | succ n ih =>
      intro l5 σ1 hn o1 k1 hb
      have en : ((n + 1 : Nat) : Int) - 1 = (n : Int) := by omega
      rw [en]
      have hs1 : ∀ σ2, Off [45] σ σ2 → σ2 36 0 = s := fun σ2 o2 => by rw [o2 36 (by decide)]; exact hs
      have hr1 : ∀ σ2, Off [45] σ σ2 → rep41 σ2 := fun σ2 o2 => by unfold rep41; rw [o2 41 (by decide)]; exact hr
      have h411 : ∀ σ2, Off [45] σ σ2 → ∀ c, c < 10 → tauR σ2 c = D c := fun σ2 o2 c hc => by
        have : tauR σ2 c = tauR σ c := by unfold tauR; rw [o2 41 (by decide)]
        rw [this]; exact h41 c hc
      have h141 : ∀ σ2, Off [45] σ σ2 → σ2 34 0 14 = (i : Int) := fun σ2 o2 => by rw [o2 34 (by decide)]; exact h14
      refine gX11_findsRoad_61 l1 (c : Int) l5 (n : Int) σ1 ⟨fun q => absurd q (by omega), fun _ => ?_⟩
      refine froad_end hw hD (hs1 σ1 o1) (hr1 σ1 o1) (h411 σ1 o1) hc hcl hi (h141 σ1 o1) (t := (n : Int)) (e := 0) ⟨by omega, by omega, Or.inl rfl⟩ hb (fun t' e' h' => by omega) (fun σ2 l52 o2 k2 b2 => ?_)
      refine froad_end hw hD (hs1 σ2 (o1.tr o2)) (hr1 σ2 (o1.tr o2)) (h411 σ2 (o1.tr o2)) hc hcl hi (h141 σ2 (o1.tr o2)) (t := (n : Int)) (e := 0 + 1) ⟨by omega, by omega, Or.inr rfl⟩ b2 (fun t' e' h' => by omega) (fun σ3 l53 o3 k3 b3 => ?_)
      refine gX11_findsRoad_69 l1 (c : Int) l53 (n : Int) (0 + 1 + 1) σ3 ⟨fun _ => ⟨by omega, ?_⟩, fun q => absurd (show (2 : Int) ≤ 0 + 1 + 1 by omega) q⟩
      have en2 : (n : Int) + (-1) = (n : Int) - 1 := by omega
      rw [en2]
      refine ih l53 σ3 (by omega) ((o1.tr o2).tr o3) (fun j hj => by rw [k3 j hj, k2 j hj, k1 j hj]) ?_
      have pe : ∀ t' e', back s D c t' e' → (((((n + 1 : Nat) : Int) ≤ t' ∨ (t' = (n : Int) ∧ e' = 0)) ∨ (t' = (n : Int) ∧ e' = 0 + 1)) ↔ (n : Int) ≤ t') := fun t' e' h' => by
        have := h'.1.2.2
        constructor
        · intro z; omega
        · intro z
          by_cases y : t' = (n : Int)
          · rcases this with q | q
            · exact Or.inl (Or.inr ⟨y, q⟩)
            · exact Or.inr ⟨y, by omega⟩
          · exact Or.inl (Or.inl (by omega))
      rcases b3 with ⟨c1, c2⟩ | ⟨e1, c1, c2, c3, c4⟩
      · exact Or.inl ⟨c1, fun t' e' h1 h2 => c2 t' e' h1 ((pe t' e' h1).mpr h2)⟩
      · exact Or.inr ⟨e1, c1, (pe _ _ c1).mp c2, fun t' e' h1 h2 => c3 t' e' h1 ((pe t' e' h1).mpr h2), c4⟩
  obtain ⟨n, hn⟩ : ∃ n : Nat, s 1 = n := ⟨(s 1).toNat, by omega⟩
  rw [hn]
  exact loop n (-9) σ (by omega) Off.rf (fun _ _ => rfl) (Or.inl ⟨rfl, fun t e h1 h2 => by have := h1.1.2.1; omega⟩)
theorem froad_walk (hw : WF s) (hD : Soon s f m D) {to : Nat} {σ0 : Hp} (hs0 : σ0 36 0 = s) (hr0 : rep41 σ0) (h410 : ∀ c, c < 10 → tauR σ0 c = D c)
    (cont : ∀ σ' L, OffM [43, 44, 45] [14, 15] σ0 σ' → RD s f D to L → RF σ' s D to L → σ' 43 0 L = (f : Int) → K 1 σ') :
    ∀ (n i : Nat) (σ : Hp), 9 - i ≤ n → OffM [43, 44, 45] [14, 15] σ0 σ → RW s f D to i → RF σ s D to i → Runs 5 mX11_findsRoad 30 [zR 34 0, zI (f : Int), zU, zU, zI (rc s D to i : Int), zU, zU, zU, zU, zU] [] σ (rI K) := by
  intro n
  have w1 := hw.2.1
  have fin : ∀ (i : Nat) (σ : Hp), rc s D to i = f → OffM [43, 44, 45] [14, 15] σ0 σ → RW s f D to i → RF σ s D to i → Runs 5 mX11_findsRoad 30 [zR 34 0, zI (f : Int), zU, zU, zI (rc s D to i : Int), zU, zU, zU, zU, zU] [] σ (rI K) := fun i σ e o hR hF => by
    have l9 := hR.le9
    refine gX11_findsRoad_30 (f : Int) _ σ ⟨fun _ => ?_, fun q => absurd (by rw [e]) q⟩
    rw [hF.1]
    simp only [Int.toNat_natCast]
    refine ⟨by omega, cont _ i (o.up (by decide)) ⟨hR, e⟩ ⟨by simp [zup]; exact hF.1, by simp [zup]; exact hF.2.1, fun j hj => ?_⟩ (by simp [zup])⟩
    have hne : j ≠ i := by omega
    simp only [zup]
    simp [hne]
    exact hF.2.2 j hj
  induction n with
  | zero =>
    intro i σ hn o hR hF
    by_cases e : rc s D to i = f
    · exact fin i σ e o hR hF
    · have := (hR.succ hw hD e).1; omega
  | succ n ih =>
    intro i σ hn o hR hF
    by_cases e : rc s D to i = f
    · exact fin i σ e o hR hF
    · obtain ⟨hi, fr, hR2⟩ := hR.succ hw hD e
      obtain ⟨c10, cD0, cD1, -⟩ := hR.1 i (Nat.le_refl _)
      have hs : σ 36 0 = s := by rw [o.1 36 (by decide)]; exact hs0
      refine gX11_findsRoad_30 (f : Int) _ σ ⟨fun q => absurd q (by omega), fun _ => ?_⟩
      rw [hF.1, hs]
      simp only [Int.toNat_natCast]
      refine ⟨by omega, by omega, ?_⟩
      generalize hσa : zup σ 43 0 i (rc s D to i : Int) = σa
      have oa : OffM [43, 44, 45] [14, 15] σ0 σa := by rw [← hσa]; exact o.up (by decide)
      have hra : rep41 σa := by unfold rep41; rw [oa.1 41 (by decide)]; exact hr0
      have h41a : ∀ c, c < 10 → tauR σa c = D c := fun c hc => by
        have : tauR σa c = tauR σ0 c := by unfold tauR; rw [oa.1 41 (by decide)]
        rw [this]; exact h410 c hc
      have h14a : σa 34 0 14 = (i : Int) := by rw [← hσa]; simp [zup]; exact hF.1
      refine froad_scan hw hD (by rw [oa.1 36 (by decide)]; exact hs0) hra h41a c10 (by omega) e hi h14a (fun σb ob kb vb => ?_)
      have hcb := back_ok hw hD fr.1
      have hv := fr.1.1
      have hvk := vst_ok hw hv
      have hc2 := fr.1.2.1
      have e1 : rc s D to (i + 1) = ea s (bk s D (rc s D to i)).1 (bk s D (rc s D to i)).2 := rfl
      have e2 : rg s D to (i + 1) = entS s (bk s D (rc s D to i)).1 (bk s D (rc s D to i)).2 (D (rc s D to (i + 1))) := rfl
      have rb := hR2.2.2.1 (i + 1) (Nat.le_refl _)
      have rD := hR2.1 (i + 1) (Nat.le_refl _)
      have wb := rw_b hR2 i (by omega)
      have e3 : rw_ s D to (i + 1) = rw_ s D to i + (rg s D to (i + 1) - D (rc s D to (i + 1))) := rfl
      rw [← e1, ← e2] at vb
      rw [← e1] at hcb
      generalize hbt : (bk s D (rc s D to i)).1 = t at *
      generalize hbe : (bk s D (rc s D to i)).2 = ee at *
      have ob2 : OffM [43, 44, 45] [14, 15] σ0 σb := oa.tr (OffM.of ob (by decide) (by decide))
      have h14b : σb 34 0 14 = (i : Int) := by rw [ob 34 (by decide)]; exact h14a
      have h15b : σb 34 0 15 = rw_ s D to i := by rw [ob 34 (by decide), ← hσa]; simp [zup]; exact hF.2.1
      have h41b : σb 41 0 (rc s D to (i + 1)) = D (rc s D to (i + 1)) := by
        have : tauR σb (rc s D to (i + 1)) = D (rc s D to (i + 1)) := by
          have : tauR σb (rc s D to (i + 1)) = tauR σ0 (rc s D to (i + 1)) := by unfold tauR; rw [ob2.1 41 (by decide)]
          rw [this]; exact h410 _ hcb.1
        unfold tauR at this
        by_cases q : σb 41 0 (rc s D to (i + 1)) < 0
        · rw [if_pos q] at this; omega
        · rw [if_neg q] at this; exact this
      have old : ∀ j, j < i → σb 43 0 j = (rc s D to j : Int) ∧ σb 44 0 j = (bk s D (rc s D to j)).1 ∧ σb 45 0 j = rg s D to (j + 1) := fun j hj => by
        have hne : j ≠ i := by omega
        rw [kb j hne, ob 43 (by decide), ob 44 (by decide), ← hσa]
        simp only [zup]
        simp [hne]
        exact hF.2.2 j hj
      have hv0 := hv.1
      have hv1 := hv.2.1
      -- on to the next corner
      have go : ∀ σc, σc = (zup (zup (zup σb 44 0 i t) 34 0 15 (rw_ s D to i + (rg s D to (i + 1) - D (rc s D to (i + 1))))) 34 0 14 ((i : Int) + 1)) → Runs 5 mX11_findsRoad 30 [zR 34 0, zI (f : Int), zU, zU, zI (rc s D to (i + 1) : Int), zU, zU, zU, zU, zU] [] σc (rI K) := fun σc ec => by
        have oc : OffM [43, 44, 45] [14, 15] σ0 σc := by rw [ec]; exact ((ob2.up (by decide)).up34 (by decide)).up34 (by decide)
        refine ih (i + 1) σc (by omega) oc hR2 ⟨?_, ?_, fun j hj => ?_⟩
        · rw [ec]; simp [zup]
        · rw [ec]; simp [zup]; exact e3.symm
        · by_cases q : j = i
          · subst q
            rw [ec, hbt]
            simp [zup]
            refine ⟨?_, vb⟩
            rw [ob 43 (by decide), ← hσa]
            simp [zup]
          · have := old j (by omega)
            rw [ec]
            simp only [zup]
            simp [q]
            exact this
      have z36 : (zup σb 44 0 i t) 36 0 = s := by
        have : (zup σb 44 0 i t) 36 0 = σb 36 0 := by rw [zup_ne (by intro q; cases q)]
        rw [this, ob2.1 36 (by decide)]; exact hs0
      have w1' := hw.2.1
      refine gX11_findsRoad_61 (f : Int) _ t (-1) σb ⟨fun _ => ?_, fun q => absurd (show (-1 : Int) < 0 by omega) q⟩
      rw [h14b, h15b]
      simp only [Int.toNat_natCast]
      rw [z36, vb]
      refine ⟨by omega, by omega, fun c1 => ?_, fun c1 => ?_⟩
      · have e0 : ee = 0 := by
          rcases hv.2.2 with q | q
          · exact q
          · exfalso
            rw [q, show (1 : Int) - 1 = 0 by omega] at hc2
            rw [q, show (1 : Int) - 1 = 0 by omega] at hvk
            omega
        rw [e0] at e1 hvk
        have eu : (sg s t 0).toNat = rc s D to (i + 1) := e1.symm
        rw [eu, h41b, show sg s t 0 = ((rc s D to (i + 1) : Nat) : Int) by omega]
        refine ⟨by omega, by omega, by omega, by omega, by omega, by omega, fun σc ec => go σc ec⟩
      · have e0 : ee = 1 := by
          rcases hv.2.2 with q | q
          · exfalso
            rw [q, show (1 : Int) - 0 = 1 by omega] at hc2
            rw [q, show (1 : Int) - 0 = 1 by omega] at hvk
            omega
          · exact q
        rw [e0] at e1 hvk
        have eu : (sg s t 1).toNat = rc s D to (i + 1) := e1.symm
        rw [eu, h41b, show sg s t 1 = ((rc s D to (i + 1) : Nat) : Int) by omega]
        refine ⟨by omega, by omega, by omega, by omega, by omega, by omega, fun σc ec => go σc ec⟩
/-- what is found of a road -/
def Found (σ : Hp) (s : Nat → Int) (f to : Nat) (m : Int) : Prop := dist s f m to < 1000000 ∧ rep41 σ ∧ (∀ c, c < 10 → tauR σ c = dist s f m c) ∧ ∃ L, RD s f (dist s f m) to L ∧ RF σ s (dist s f m) to L ∧ σ 43 0 L = (f : Int)
theorem qX11_findsRoad {σ : Hp} (hs : σ 36 0 = s) (hw : WF s) {ff tt mm : Int} (hf : 0 ≤ ff ∧ ff < s 0) (htt : 0 ≤ tt ∧ tt < s 0) (hmm : 0 ≤ mm ∧ mm ≤ 2879) (h1 : ∀ σ', OffM [41, 42, 43, 44, 45] [14, 15] σ σ' → Found σ' s ff.toNat tt.toNat mm → K 1 σ') (h0 : ∀ σ', OffM [41, 42, 43, 44, 45] [14, 15] σ σ' → dist s ff.toNat mm tt.toNat = 1000000 → K 0 σ') : Runs 5 mX11_findsRoad 0 [zR 34 0, zI ff, zI tt, zI mm, zU, zU, zU, zU, zU, zU] [] σ (rI K) := by
  have w0 := hw.1
  refine gX11_findsRoad_0 ff tt mm σ (qX11_finds (by rw [hs]; exact hw) (by rw [hs]; exact hf) hmm (fun σ1 o1 r1 d1 => ?_))
  have hs1 : σ1 36 0 = s := by rw [o1 36 (by decide)]; exact hs
  rw [hs] at d1
  have dd := dist_eq hw d1
  have hD := dist_soon hw (f := ff.toNat) (m0 := mm) (by omega) hmm
  unfold Found at h1
  generalize dist s ff.toNat mm = D at *
  generalize hσ2 : zup (zup σ1 34 0 14 0) 34 0 15 0 = σ2
  have o2 : OffM [41, 42, 43, 44, 45] [14, 15] σ σ2 := by
    rw [← hσ2]
    exact ((OffM.of o1 (by decide) (by decide)).up34 (by decide)).up34 (by decide)
  have e41 : σ2 41 = σ1 41 := by
    rw [← hσ2]
    funext i'
    rw [zup_ne (by intro e; cases e), zup_ne (by intro e; cases e)]
  have r2 : rep41 σ2 := by unfold rep41; rw [e41]; exact r1
  have t2 : ∀ c, c < 10 → tauR σ2 c = D c := fun c hc => by
    have : tauR σ2 c = tauR σ1 c := by unfold tauR; rw [e41]
    rw [this]; exact dd c hc
  have dt := dd tt.toNat (by omega)
  have rt := r1 tt.toNat (by omega)
  unfold tauR at dt
  refine ⟨by omega, fun c => ?_, fun c => ?_⟩
  · rw [if_neg (by omega)] at dt
    have hl : D tt.toNat < 1000000 := by omega
    have := froad_walk (K := K) (to := tt.toNat) (σ0 := σ2) hw hD (by rw [o2.1 36 (by decide)]; exact hs) r2 t2 (fun σ' L o' hRD hRF h43 => h1 σ' (o2.tr (o'.mono (by decide) (by decide))) ⟨hl, ?_, fun c hc => ?_, L, hRD, hRF, h43⟩) 9 0 σ2 (by omega) OffM.rf (RW.zero hD (by omega) hl) ⟨by rw [← hσ2]; simp [zup], by rw [← hσ2]; simp [zup]; rfl, fun j hj => absurd hj (by omega)⟩
    · have e0 : ((rc s D tt.toNat 0 : Nat) : Int) = tt := Int.toNat_of_nonneg htt.1
      rw [e0, Int.toNat_of_nonneg hf.1] at this
      exact this
    · unfold rep41; rw [o'.1 41 (by decide)]; exact r2
    · have : tauR σ' c = tauR σ2 c := by unfold tauR; rw [o'.1 41 (by decide)]
      rw [this]; exact t2 c hc
  · rw [if_pos (by omega)] at dt
    exact h0 σ2 o2 dt.symm
end FRoad
