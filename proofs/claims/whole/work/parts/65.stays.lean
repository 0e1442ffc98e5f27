/-! where two errands are when -/
noncomputable def eD (s : Nat → Int) (e : Int) : Nat → Int := dist s (se s e 0).toNat (se s e 2)
def eF (s : Nat → Int) (e : Int) : Nat := (se s e 0).toNat
def eT (s : Nat → Int) (e : Int) : Nat := (se s e 1).toNat
def stayP (s : Nat → Int) (e : Int) (c : Nat) (a g : Int) : Prop := eD s e (eT s e) < 1000000 ∧ ∃ L j, RD s (eF s e) (eD s e) (eT s e) L ∧ j ≤ L ∧ rc s (eD s e) (eT s e) j = c ∧ a = eD s e c ∧ g = rg s (eD s e) (eT s e) j
theorem stayP.uniq {s : Nat → Int} {e : Int} {c : Nat} {a g a' g' : Int} (h : stayP s e c a g) (h' : stayP s e c a' g') : a = a' ∧ g = g' := by
  obtain ⟨h0, L, j, h1, h2, h3, h4, h5⟩ := h
  obtain ⟨g0, L', k, g1, g2, g3, g4, g5⟩ := h'
  have eL := h1.uniq g1
  subst eL
  have ej := h1.1.inj h2 g2 (h3.trans g3.symm)
  subst ej
  exact ⟨h4.trans g4.symm, h5.trans g5.symm⟩
def MT (s : Nat → Int) (e1 e2 : Int) : Prop := ∃ c a1 g1 a2 g2, stayP s e1 c a1 g1 ∧ stayP s e2 c a2 g2 ∧ a1 ≤ g2 ∧ a2 ≤ g1
theorem MT.symm {s : Nat → Int} {e1 e2 : Int} (h : MT s e1 e2) : MT s e2 e1 := by
  obtain ⟨c, a1, g1, a2, g2, h1, h2, h3, h4⟩ := h
  exact ⟨c, a2, g2, a1, g1, h2, h1, h4, h3⟩
def S48 (A B : Nat → Int) (s : Nat → Int) (e : Int) : Prop := ∀ c, c < 10 → (A c < 0 ∧ ∀ a g, ¬ stayP s e c a g) ∨ (0 ≤ A c ∧ stayP s e c (A c) (B c))
section Stays
variable {K : Int → Hp → Prop} {K' : Hp → Prop} {s : Nat → Int}
theorem qX11_stays {σ : Hp} (hs : σ 36 0 = s) (hw : WF s) {e : Int} (he : 0 ≤ e ∧ e < s 2) (cont : ∀ σ', OffM [41, 42, 43, 44, 45, 48, 49] [14, 15] σ σ' → S48 (σ' 48 0) (σ' 49 0) s e → K' σ') : Runs 6 mX11_stays 0 [zR 34 0, zI e, zU] [] σ (rV K') := by
  have w0 := hw.1
  have w2 := hw.2.2.1
  obtain ⟨e0, e1, e2, e3⟩ := er_of hw he
  refine gX11_stays_0 e σ (upto (α := Hp) (N := 10) (R := fun c σ1 => Runs 6 mX11_stays 2 [zR 34 0, zI e, zI c] [] σ1 (rV K')) (I := fun c σ1 => OffM [41, 42, 43, 44, 45, 48, 49] [14, 15] σ σ1 ∧ ∀ c' : Nat, (c' : Int) < c → σ1 48 0 c' = -9) (fun σ1 hI => ?_) (fun c σ1 c0 cl hI nx => ?_) (Int.le_refl 0) (by omega) ⟨OffM.rf, fun c' h => absurd h (by omega)⟩)
  · obtain ⟨o1, n1⟩ := hI
    have hs1 : σ1 36 0 = s := by rw [o1.1 36 (by decide)]; exact hs
    refine gX11_stays_2 e 10 σ1 ⟨fun _ => ?_, fun q => absurd (Int.le_refl 10) q⟩
    rw [hs1]
    refine ⟨by omega, by omega, by omega, ?_⟩
    refine qX11_findsRoad hs1 hw e0 e1 (by omega) (fun σ2 o2 f2 => ⟨fun _ => ?_, fun q => absurd q (by omega)⟩) (fun σ2 o2 n2 => ⟨fun q => absurd rfl q, fun _ => ?_⟩)
    · obtain ⟨fl, f3, f4, L, hRD, hRF, h43⟩ := f2
      have o12 : OffM [41, 42, 43, 44, 45, 48, 49] [14, 15] σ σ2 := o1.tr (o2.mono (by decide) (by decide))
      have n2 : ∀ c' : Nat, c' < 10 → σ2 48 0 c' = -9 := fun c' h => by rw [o2.1 48 (by decide)]; exact n1 c' (by omega)
      have l9 := hRD.1.le9
      have hfl : eD s e (eT s e) < 1000000 := fl
      have hRD' : RD s (eF s e) (eD s e) (eT s e) L := hRD
      have hc : ∀ j, j ≤ L → σ2 43 0 j = (rc s (eD s e) (eT s e) j : Int) ∧ rc s (eD s e) (eT s e) j < 10 ∧ σ2 41 0 (rc s (eD s e) (eT s e) j) = eD s e (rc s (eD s e) (eT s e) j) ∧ 0 ≤ eD s e (rc s (eD s e) (eT s e) j) := fun j hj => by
        have r := hRD'.1.1 j hj
        refine ⟨?_, r.1, ?_, r.2.1⟩
        · by_cases q : j = L
          · rw [q, h43, hRD'.2]; rfl
          · exact (hRF.2.2 j (by omega)).1
        · have := f4 _ r.1
          have f3' := f3 _ r.1
          have hE : dist s (se s e 0).toNat (se s e 2) (rc s (eD s e) (eT s e) j) = eD s e (rc s (eD s e) (eT s e) j) := rfl
          rw [hE] at this
          unfold tauR at this
          by_cases q : σ2 41 0 (rc s (eD s e) (eT s e) j) < 0
          · rw [if_pos q] at this; omega
          · rw [if_neg q] at this; exact this
      have h45 : ∀ j, j < L → σ2 45 0 j = rg s (eD s e) (eT s e) (j + 1) := fun j hj => (hRF.2.2 j hj).2.2
      have rg0 : rg s (eD s e) (eT s e) 0 = eD s e (rc s (eD s e) (eT s e) 0) := rfl
      have inj : ∀ j k, j ≤ L → k ≤ L → rc s (eD s e) (eT s e) j = rc s (eD s e) (eT s e) k → j = k := fun j k hj hk h => hRD'.1.inj hj hk h
      have h14 : σ2 34 0 14 = (L : Int) := hRF.1
      -- one by one
      refine upto (α := Hp) (N := (L : Int) + 1) (R := fun i σ3 => Runs 6 mX11_stays 50 [zR 34 0, zU, zI i] [] σ3 (rV K')) (I := fun i σ3 => Off [48, 49] σ2 σ3 ∧ (∀ j : Nat, (j : Int) < i → j ≤ L → σ3 48 0 (rc s (eD s e) (eT s e) j) = eD s e (rc s (eD s e) (eT s e) j) ∧ σ3 49 0 (rc s (eD s e) (eT s e) j) = rg s (eD s e) (eT s e) j) ∧ ∀ c, c < 10 → (∀ j : Nat, (j : Int) < i → j ≤ L → rc s (eD s e) (eT s e) j ≠ c) → σ3 48 0 c = -9) (fun σ3 hI => ?_) (fun i σ3 i0 il hI nx => ?_) (Int.le_refl 0) (by omega) ⟨Off.rf, fun j h => absurd h (by omega), fun c hc _ => n2 c hc⟩
      · obtain ⟨o3, a3, b3⟩ := hI
        refine gX11_stays_50 ((L : Int) + 1) σ3 ⟨fun _ => cont σ3 (o12.tr (OffM.of o3 (by decide) (by decide))) (fun c hc10 => ?_), fun q => absurd (by rw [o3 34 (by decide), h14]; omega) q⟩
        by_cases q : ∃ j : Nat, j ≤ L ∧ rc s (eD s e) (eT s e) j = c
        · obtain ⟨j, hj, hjc⟩ := q
          have := a3 j (by omega) hj
          rw [hjc] at this
          have hcj := hc j hj
          rw [hjc] at hcj
          exact Or.inr ⟨by omega, hfl, L, j, hRD', hj, hjc, this.1, this.2⟩
        · refine Or.inl ⟨by rw [b3 c hc10 (fun j h1 h2 h3 => q ⟨j, h2, h3⟩)]; decide, fun a g hst => ?_⟩
          obtain ⟨-, L', j, x1, x2, x3, -⟩ := hst
          have := x1.uniq hRD'
          subst this
          exact q ⟨j, x2, x3⟩
      · obtain ⟨o3, a3, b3⟩ := hI
        have hcj := hc i.toNat (by omega)
        have e43 : σ3 43 = σ2 43 := o3 43 (by decide)
        have e41 : σ3 41 = σ2 41 := o3 41 (by decide)
        have e45 : σ3 45 = σ2 45 := o3 45 (by decide)
        refine gX11_stays_50 i σ3 ⟨fun q => absurd q (by rw [o3 34 (by decide), h14]; omega), fun _ => ?_⟩
        rw [e43, e41, hcj.1]
        simp only [Int.toNat_natCast]
        rw [hcj.2.2.1]
        generalize hx : rc s (eD s e) (eT s e) i.toNat = x at *
        have fin : ∀ σ4 v, σ4 = zup (zup σ3 48 0 x (eD s e x)) 49 0 x v → v = rg s (eD s e) (eT s e) i.toNat → Runs 6 mX11_stays 50 [zR 34 0, zU, zI (i + 1)] [] σ4 (rV K') := fun σ4 v e4 ev => by
          refine nx σ4 ⟨by rw [e4]; exact (o3.up (by decide)).up (by decide), fun j hj hjL => ?_, fun c hc10 hno => ?_⟩
          · by_cases q : j = i.toNat
            · rw [q, hx, e4, ev]
              simp [zup]
            · have hne : rc s (eD s e) (eT s e) j ≠ x := fun z => q (inj j i.toNat hjL (by omega) (z.trans hx.symm))
              rw [e4]
              simp only [zup]
              simp [hne]
              exact a3 j (by omega) hjL
          · have hne : c ≠ x := fun z => hno i.toNat (by omega) (by omega) (hx.trans z.symm)
            rw [e4]
            simp only [zup]
            simp [hne]
            exact b3 c hc10 (fun j h1 h2 => hno j (by omega) h2)
        refine ⟨by omega, by omega, by omega, by omega, by omega, fun σ4 e4 => ⟨fun c => ⟨by omega, by omega, by omega, by omega, ?_⟩, fun c => ⟨by omega, ?_, by omega, by omega, fun σ5 e5 => ?_⟩⟩⟩
        · refine fin _ _ (by rw [e4]) ?_
          have : (zup σ3 48 0 x (eD s e x)) 45 = σ2 45 := by
            rw [← e45]
            funext i'
            rw [zup_ne (by intro q; cases q)]
          rw [this, h45 _ (by omega), show (i - 1).toNat + 1 = i.toNat by omega]
        · have : σ4 43 = σ2 43 := by
            rw [e4, ← e43]
            funext i'
            rw [zup_ne (by intro q; cases q)]
          rw [this, hcj.1]
          omega
        · have a1 : σ4 43 = σ2 43 := by
            rw [e4, ← e43]
            funext i'
            rw [zup_ne (by intro q; cases q)]
          have a2 : σ4 41 = σ2 41 := by
            rw [e4, ← e41]
            funext i'
            rw [zup_ne (by intro q; cases q)]
          rw [a1, a2, hcj.1] at e5
          simp only [Int.toNat_natCast] at e5
          rw [hcj.2.2.1, e4] at e5
          refine fin σ5 _ e5 ?_
          rw [show i.toNat = 0 by omega] at hx ⊢
          rw [rg0, hx]
    · refine cont σ2 (o1.tr (o2.mono (by decide) (by decide))) (fun c hc => Or.inl ⟨?_, fun a g hst => ?_⟩)
      · rw [o2.1 48 (by decide), n1 c (by omega)]; decide
      · have h1 : dist s (se s e 0).toNat (se s e 2) (se s e 1).toNat < 1000000 := hst.1
        omega
  · refine gX11_stays_2 e c σ1 ⟨fun q => absurd q (by omega), fun _ => ⟨by omega, by omega, nx _ ⟨hI.1.up (by decide), fun c' hc' => ?_⟩⟩⟩
    by_cases q : c' = c.toNat
    · rw [q]; simp [zup]
    · simp only [zup]
      simp [q]
      exact hI.2 c' (by omega)
theorem qX11_areMet {σ : Hp} (hs : σ 36 0 = s) (hw : WF s) {a b : Int} (ha : 0 ≤ a ∧ a < s 2) (hb : 0 ≤ b ∧ b < s 2) (h1 : ∀ σ', OffM [41, 42, 43, 44, 45, 48, 49, 50, 51] [14, 15] σ σ' → MT s a b → K 1 σ') (h0 : ∀ σ', OffM [41, 42, 43, 44, 45, 48, 49, 50, 51] [14, 15] σ σ' → ¬ MT s a b → K 0 σ') : Runs 7 mX11_areMet 0 [zR 34 0, zI a, zI b, zU] [] σ (rI K) := by
  refine gX11_areMet_0 a b σ (qX11_stays hs hw ha (fun σ1 o1 s1 => ?_))
  have o1' : OffM [41, 42, 43, 44, 45, 48, 49, 50, 51] [14, 15] σ σ1 := o1.mono (by decide) (by decide)
  refine upto (α := Hp) (N := 10) (R := fun c σ2 => Runs 7 mX11_areMet 7 [zR 34 0, zU, zI b, zI c] [] σ2 (rI K)) (I := fun c σ2 => Off [50, 51] σ1 σ2 ∧ ∀ c' : Nat, (c' : Int) < c → σ2 50 0 c' = σ1 48 0 c' ∧ σ2 51 0 c' = σ1 49 0 c') (fun σ2 hI => ?_) (fun c σ2 c0 cl hI nx => ?_) (Int.le_refl 0) (by omega) ⟨Off.rf, fun c' h => absurd h (by omega)⟩
  · obtain ⟨o2, n2⟩ := hI
    have o12 := o1'.tr (OffM.of o2 (by decide) (by decide) : OffM [41, 42, 43, 44, 45, 48, 49, 50, 51] [14, 15] σ1 σ2)
    refine gX11_areMet_7 b 10 σ2 ⟨fun _ => ?_, fun q => absurd (Int.le_refl 10) q⟩
    refine qX11_stays (by rw [o12.1 36 (by decide)]; exact hs) hw hb (fun σ3 o3 s3 => ?_)
    have o13 := o12.tr (o3.mono (by decide) (by decide) : OffM [41, 42, 43, 44, 45, 48, 49, 50, 51] [14, 15] σ2 σ3)
    have e50 : σ3 50 = σ2 50 := o3.1 50 (by decide)
    have e51 : σ3 51 = σ2 51 := o3.1 51 (by decide)
    refine upto (α := Unit) (N := 10) (R := fun c _ => Runs 7 mX11_areMet 50 [zR 34 0, zU, zU, zI c] [] σ3 (rI K)) (I := fun c _ => ∀ c' : Nat, (c' : Int) < c → ¬ ∃ a1 g1 a2 g2, stayP s a c' a1 g1 ∧ stayP s b c' a2 g2 ∧ a1 ≤ g2 ∧ a2 ≤ g1) (fun _ hI => ?_) (fun c _ c0 cl hI nx => ?_) (a := ()) (Int.le_refl 0) (by omega) (fun c' h => absurd h (by omega))
    · refine gX11_areMet_50 10 σ3 ⟨fun _ => h0 σ3 o13 (fun q => ?_), fun q => absurd (Int.le_refl 10) q⟩
      obtain ⟨c, a1, g1, a2, g2, x1, x2, x3, x4⟩ := q
      have hc : c < 10 := by
        obtain ⟨-, L, j, y1, y2, y3, -⟩ := x1
        rw [← y3]
        exact (y1.1.1 j y2).1
      exact hI c (by omega) ⟨a1, g1, a2, g2, x1, x2, x3, x4⟩
    · have p1 := s1 c.toNat (by omega)
      have p3 := s3 c.toNat (by omega)
      have q1 := n2 c.toNat (by omega)
      rw [← e50, ← e51] at q1
      rw [← q1.1, ← q1.2] at p1
      have no : (¬ ∃ a1 g1 a2 g2, stayP s a c.toNat a1 g1 ∧ stayP s b c.toNat a2 g2 ∧ a1 ≤ g2 ∧ a2 ≤ g1) → Runs 7 mX11_areMet 50 [zR 34 0, zU, zU, zI (c + 1)] [] σ3 (rI K) := fun hn => nx () (fun c' hc' => by
        by_cases q : c' = c.toNat
        · rw [q]; exact hn
        · exact hI c' (by omega))
      refine gX11_areMet_50 c σ3 ⟨fun q => absurd q (by omega), fun _ => ⟨by omega, fun c1 => ⟨by omega, no (fun q => ?_)⟩, fun c1 => ⟨by omega, fun c2 => ⟨by omega, no (fun q => ?_)⟩, fun c2 => ⟨by omega, by omega, fun c3 => ⟨by omega, no (fun q => ?_)⟩, fun c3 => ⟨by omega, by omega, fun c4 => ⟨by omega, no (fun q => ?_)⟩, fun c4 => ?_⟩⟩⟩⟩⟩
      · obtain ⟨a1, g1, a2, g2, x1, x2, x3, x4⟩ := q
        rcases p1 with p | p
        · exact p.2 _ _ x1
        · omega
      · obtain ⟨a1, g1, a2, g2, x1, x2, x3, x4⟩ := q
        rcases p3 with p | p
        · exact p.2 _ _ x2
        · omega
      · obtain ⟨a1, g1, a2, g2, x1, x2, x3, x4⟩ := q
        rcases p1 with p | p
        · omega
        · rcases p3 with r | r
          · omega
          · have u1 := x1.uniq p.2
            have u2 := x2.uniq r.2
            omega
      · obtain ⟨a1, g1, a2, g2, x1, x2, x3, x4⟩ := q
        rcases p1 with p | p
        · omega
        · rcases p3 with r | r
          · omega
          · have u1 := x1.uniq p.2
            have u2 := x2.uniq r.2
            omega
      · rcases p1 with p | p
        · omega
        · rcases p3 with r | r
          · omega
          · exact h1 σ3 o13 ⟨c.toNat, _, _, _, _, p.2, r.2, by omega, by omega⟩
  · refine gX11_areMet_7 b c σ2 ⟨fun q => absurd q (by omega), fun _ => ⟨by omega, by omega, by omega, by omega, by omega, fun σ3 e3 => nx σ3 ?_⟩⟩
    subst e3
    refine ⟨(hI.1.up (by decide)).up (by decide), fun c' hc' => ?_⟩
    by_cases q : c' = c.toNat
    · rw [q]
      simp [zup]
      rw [hI.1 48 (by decide), hI.1 49 (by decide)]
      exact ⟨rfl, rfl⟩
    · simp only [zup]
      simp [q]
      exact hI.2 c' (by omega)
/-- the class's -/
theorem qX4_crosses {σ : Hp} {t u : Nat} {a b : Int} (ha : Traced σ t s (eF s a) (eT s a) (se s a 2)) (hb : Traced σ u s (eF s b) (eT s b) (se s b 2)) (ba : eD s a (eT s a) = 1000000 ∨ eD s a (eT s a) < 1000000) (bb : eD s b (eT s b) = 1000000 ∨ eD s b (eT s b) < 1000000) (h1 : MT s a b → K 1 σ) (h0 : ¬ MT s a b → K 0 σ) : Runs 0 mX4_crosses 0 [zR 28 t, zR 28 u, zU, zU] [] σ (rI K) := by
  obtain ⟨ha0, ha1⟩ := ha
  obtain ⟨hb0, hb1⟩ := hb
  have none : (¬ MT s a b) → σ 28 t 7 = -9 → Runs 0 mX4_crosses 2 [zR 28 t, zR 28 u, zI 0, zU] [] σ (rI K) := fun hn e => gX4_crosses_2 0 t u σ ⟨fun _ => h0 hn, fun q => absurd (by omega) q⟩
  refine gX4_crosses_0 t u σ ?_
  rcases ba with q | q
  · exact none (fun z => by obtain ⟨c, a1, g1, a2, g2, x1, -⟩ := z; have := x1.1; omega) (ha0 q)
  · obtain ⟨L1, r1, d1⟩ := ha1 q
    have hr1 : RD s (eF s a) (eD s a) (eT s a) L1 := r1
    have l1 := hr1.1.le9
    have hd1 : RdC σ t s (eD s a) (eT s a) L1 := d1
    rcases bb with q2 | q2
    · have e7 := hb0 q2
      have hn : ¬ MT s a b := fun z => by obtain ⟨c, a1, g1, a2, g2, x1, x2, -⟩ := z; have := x2.1; omega
      refine upto (α := Unit) (N := (L1 : Int) + 1) (R := fun i _ => Runs 0 mX4_crosses 2 [zR 28 t, zR 28 u, zI i, zU] [] σ (rI K)) (I := fun _ _ => True) (fun _ _ => ?_) (fun i _ i0 il _ nx => ?_) (a := ()) (Int.le_refl 0) (by omega) trivial
      · exact gX4_crosses_2 _ t u σ ⟨fun _ => h0 hn, fun z => absurd (by rw [hd1.1]; omega) z⟩
      · exact gX4_crosses_2 i t u σ ⟨fun z => absurd z (by rw [hd1.1]; omega), fun _ => gX4_crosses_12 i 0 t u σ ⟨fun _ => ⟨by omega, nx () trivial⟩, fun z => absurd (by omega) z⟩⟩
    · obtain ⟨L2, r2, d2⟩ := hb1 q2
      have hr2 : RD s (eF s b) (eD s b) (eT s b) L2 := r2
      have l2 := hr2.1.le9
      have hd2 : RdC σ u s (eD s b) (eT s b) L2 := d2
      have ok1 := fun (j : Nat) (hj : j ≤ L1) => hd1.2.1 j hj
      have ok2 := fun (j : Nat) (hj : j ≤ L2) => hd2.2.1 j hj
      -- one pair of places
      have pr : ∀ i j : Nat, i ≤ L1 → j ≤ L2 → (σ 30 t i = σ 30 u j ∧ σ 31 t i ≤ σ 32 u j ∧ σ 31 u j ≤ σ 32 t i) → MT s a b := fun i j hi hj h => by
        obtain ⟨y1, y2, y3⟩ := ok1 i hi
        obtain ⟨z1, z2, z3⟩ := ok2 j hj
        have ec : rc s (eD s a) (eT s a) i = rc s (eD s b) (eT s b) j := by omega
        exact ⟨rc s (eD s a) (eT s a) i, _, _, _, _, ⟨q, L1, i, hr1, hi, rfl, rfl, rfl⟩, ⟨q2, L2, j, hr2, hj, ec.symm, rfl, rfl⟩, by omega, by rw [ec]; omega⟩
      have back_ : MT s a b → ∃ i j : Nat, i ≤ L1 ∧ j ≤ L2 ∧ σ 30 t i = σ 30 u j ∧ σ 31 t i ≤ σ 32 u j ∧ σ 31 u j ≤ σ 32 t i := fun h => by
        obtain ⟨c, a1, g1, a2, g2, ⟨-, L, i, x1, x2, x3, x4, x5⟩, ⟨-, L', j, y1, y2, y3, y4, y5⟩, h3, h4⟩ := h
        have eL := x1.uniq hr1
        have eL' := y1.uniq hr2
        subst eL
        subst eL'
        obtain ⟨p1, p2, p3⟩ := ok1 i x2
        obtain ⟨r1, r2, r3⟩ := ok2 j y2
        rw [x3] at p1 p2
        rw [y3] at r1 r2
        exact ⟨i, j, x2, y2, by omega, by omega, by omega⟩
      refine upto (α := Unit) (N := (L1 : Int) + 1) (R := fun i _ => Runs 0 mX4_crosses 2 [zR 28 t, zR 28 u, zI i, zU] [] σ (rI K)) (I := fun i _ => ∀ i' j : Nat, (i' : Int) < i → j ≤ L2 → ¬ (σ 30 t i' = σ 30 u j ∧ σ 31 t i' ≤ σ 32 u j ∧ σ 31 u j ≤ σ 32 t i')) (fun _ hI => ?_) (fun i _ i0 il hI nx => ?_) (a := ()) (Int.le_refl 0) (by omega) (fun i' j h => absurd h (by omega))
      · refine gX4_crosses_2 _ t u σ ⟨fun _ => h0 (fun hm => ?_), fun z => absurd (by rw [hd1.1]; omega) z⟩
        obtain ⟨i, j, x1, x2, x3⟩ := back_ hm
        exact hI i j (by omega) x2 x3
      · refine gX4_crosses_2 i t u σ ⟨fun z => absurd z (by rw [hd1.1]; omega), fun _ => ?_⟩
        refine upto (α := Unit) (N := (L2 : Int) + 1) (R := fun j _ => Runs 0 mX4_crosses 12 [zR 28 t, zR 28 u, zI i, zI j] [] σ (rI K)) (I := fun j _ => ∀ i' j' : Nat, ((i' : Int) < i ∨ ((i' : Int) = i ∧ (j' : Int) < j)) → j' ≤ L2 → ¬ (σ 30 t i' = σ 30 u j' ∧ σ 31 t i' ≤ σ 32 u j' ∧ σ 31 u j' ≤ σ 32 t i')) (fun _ hI2 => ?_) (fun j _ j0 jl hI2 nx2 => ?_) (a := ()) (Int.le_refl 0) (by omega) (fun i' j' h hj => hI i' j' (by omega) hj)
        · exact gX4_crosses_12 i _ t u σ ⟨fun _ => ⟨by omega, nx () (fun i' j' h hj => hI2 i' j' (by omega) hj)⟩, fun z => absurd (by rw [hd2.1]; omega) z⟩
        · have no : ¬ (σ 30 t i.toNat = σ 30 u j.toNat ∧ σ 31 t i.toNat ≤ σ 32 u j.toNat ∧ σ 31 u j.toNat ≤ σ 32 t i.toNat) → Runs 0 mX4_crosses 12 [zR 28 t, zR 28 u, zI i, zI (j + 1)] [] σ (rI K) := fun hn => nx2 () (fun i' j' h hj => by
            by_cases z : (i' : Int) < i ∨ ((i' : Int) = i ∧ (j' : Int) < j)
            · exact hI2 i' j' z hj
            · have ei : i' = i.toNat := by omega
              have ej : j' = j.toNat := by omega
              rw [ei, ej]
              exact hn)
          refine gX4_crosses_12 i j t u σ ⟨fun z => absurd z (by rw [hd2.1]; omega), fun _ => ⟨by omega, by omega, fun c1 => ⟨by omega, no (fun z => c1 z.1)⟩, fun c1 => ⟨by omega, by omega, fun c2 => ⟨by omega, no (fun z => by omega)⟩, fun c2 => ⟨by omega, by omega, fun c3 => ⟨by omega, no (fun z => by omega)⟩, fun c3 => h1 (pr i.toNat j.toNat (by omega) (by omega) ⟨c1, by omega, by omega⟩)⟩⟩⟩⟩
/-- minutes waited -/
theorem qX4_minutesWaited {σ : Hp} {t L : Nat} {f to : Nat} {D : Nat → Int} (hr : RD s f D to L) (hd : RdC σ t s D to L) (h : K (rw_ s D to L) σ) : Runs 0 mX4_minutesWaited 0 [zR 28 t, zU, zU] [] σ (rI K) := by
  have l9 := hr.1.le9
  refine gX4_minutesWaited_0 t σ ⟨fun _ => ?_, fun q => absurd q (by rw [hd.1]; omega)⟩
  refine upto (α := Int) (N := (L : Int) + 1) (R := fun i c => Runs 0 mX4_minutesWaited 16 [zR 28 t, zI c, zI i] [] σ (rI K)) (I := fun i c => c = rw_ s D to (i - 1).toNat) (fun c hI => ?_) (fun i c i0 il hI nx => ?_) (Int.le_refl 0) (by omega) rfl
  · refine gX4_minutesWaited_16 c _ t σ ⟨fun _ => ?_, fun q => absurd (by rw [hd.1]; omega) q⟩
    rw [hI, show ((L : Int) + 1 - 1).toNat = L by omega]
    exact h
  · obtain ⟨x1, x2, x3⟩ := hd.2.1 i.toNat (by omega)
    have a := hr.1.1 i.toNat (by omega)
    have b := hr.1.2.2.1 i.toNat (by omega)
    have wb := rw_b hr.1 (i - 1).toNat (by omega)
    refine gX4_minutesWaited_16 c i t σ ⟨fun q => absurd q (by rw [hd.1]; omega), fun _ => ?_⟩
    rw [x2, x3]
    refine ⟨by omega, by omega, by omega, by omega, by omega, nx _ ?_⟩
    by_cases q : i = 0
    · subst q
      rw [hI]
      have r0 : rg s D to 0 = D (rc s D to 0) := rfl
      have z0 : rw_ s D to 0 = 0 := rfl
      show rw_ s D to 0 + (rg s D to 0 - D (rc s D to 0)) = rw_ s D to 0
      omega
    · rw [hI, show (i + 1 - 1).toNat = (i - 1).toNat + 1 by omega]
      show _ = rw_ s D to (i - 1).toNat + (rg s D to ((i - 1).toNat + 1) - D (rc s D to ((i - 1).toNat + 1)))
      rw [show (i - 1).toNat + 1 = i.toNat by omega]
end Stays
