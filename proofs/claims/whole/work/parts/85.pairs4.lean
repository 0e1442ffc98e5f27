/-! calls of both: the row, the image, counts -/
section Pairs4
variable {k : Nat} {σ : Hp} {a0 a1 a2 : Int}
theorem TW_row {σ' : Hp} {s s' : Nat → Int} (h : TW σ 0 s) (hs : ∀ j, j ≠ 6 → (j < 113 ∨ 123 ≤ j) → s' j = s j) (hw : WF s) (hg : ∀ g, g < 12 → g ≠ 1 → g ≠ 10 → σ' g 0 = σ g 0) (h1 : ∀ j, j < 7 → σ' 1 0 j = if j = 3 then s' 6 else σ 1 0 j) (h10 : ∀ i : Nat, (i : Int) < s' 6 → σ' 10 0 i = s' (113 + i)) : TW σ' 0 s' := by
  obtain ⟨g1, g2, g3, g4, g5, g6⟩ := h
  have w1 := hw.2.1
  have w2 := hw.2.2.1
  have a0 := h1 0 (by omega); have a1 := h1 1 (by omega); have a2 := h1 2 (by omega); have a3 := h1 3 (by omega); have a4 := h1 4 (by omega); have a5 := h1 5 (by omega); have a6 := h1 6 (by omega)
  rw [if_neg (by omega)] at a0 a1 a2 a4 a5 a6
  rw [if_pos rfl] at a3
  unfold TW
  rw [a0, a1, a2, a3, a4, a5, a6, hg 2 (by omega) (by omega) (by omega), hg 3 (by omega) (by omega) (by omega), hg 4 (by omega) (by omega) (by omega), hg 5 (by omega) (by omega) (by omega), hg 6 (by omega) (by omega) (by omega), hg 7 (by omega) (by omega) (by omega), hg 8 (by omega) (by omega) (by omega), hg 9 (by omega) (by omega) (by omega), hg 11 (by omega) (by omega) (by omega), hs 0 (by omega) (by omega), hs 1 (by omega) (by omega), hs 2 (by omega) (by omega), hs 4 (by omega) (by omega), hs 3 (by omega) (by omega)]
  refine ⟨⟨g1.1, g1.2.1, g1.2.2.1, rfl, g1.2.2.2.2.1, g1.2.2.2.2.2⟩, g2, fun x hx => ?_, fun x hx => ?_, h10, fun j hj => by rw [hs _ (by omega) (by omega)]; exact g6 j hj⟩
  · unfold sg
    rw [hs (11 + 5 * (x : Int) + 0).toNat (by omega) (by omega), hs (11 + 5 * (x : Int) + 1).toNat (by omega) (by omega), hs (11 + 5 * (x : Int) + 2).toNat (by omega) (by omega), hs (11 + 5 * (x : Int) + 3).toNat (by omega) (by omega), hs (11 + 5 * (x : Int) + 4).toNat (by omega) (by omega)]
    exact g3 x hx
  · unfold se
    rw [hs (81 + 4 * (x : Int) + 0).toNat (by omega) (by omega), hs (81 + 4 * (x : Int) + 1).toNat (by omega) (by omega), hs (81 + 4 * (x : Int) + 2).toNat (by omega) (by omega), hs (81 + 4 * (x : Int) + 3).toNat (by omega) (by omega)]
    exact g4 x hx
theorem WF_row {s s' : Nat → Int} (hw : WF s) (hs : ∀ j, j ≠ 6 → (j < 113 ∨ 123 ≤ j) → s' j = s j) (h6 : 0 ≤ s' 6 ∧ s' 6 ≤ 10) (hr : ∀ i : Nat, (i : Int) < s' 6 → 0 ≤ s' (113 + i) ∧ s' (113 + i) ≤ 9) : WF s' := by
  obtain ⟨w0, w1, w2, w3, w4, w5, w6, w7, w8, w9, w10, wst, wer, wrow⟩ := hw
  have e0 := hs 0 (by omega) (by omega)
  have e1 := hs 1 (by omega) (by omega)
  have e2 := hs 2 (by omega) (by omega)
  refine ⟨by rw [e0]; exact w0, by rw [e1]; exact w1, by rw [e2]; exact w2, by rw [hs 3 (by omega) (by omega)]; exact w3, by rw [hs 4 (by omega) (by omega)]; exact w4, by rw [hs 5 (by omega) (by omega)]; exact w5, h6, by rw [hs 7 (by omega) (by omega)]; exact w7, by rw [hs 8 (by omega) (by omega)]; exact w8, by rw [hs 9 (by omega) (by omega)]; exact w9, by rw [hs 10 (by omega) (by omega)]; exact w10, fun t h0 hl => ?_, fun t h0 hl => ?_, hr⟩
  · rw [e1] at hl
    have := wst t h0 hl
    unfold stOK sg at *
    rw [hs (11 + 5 * t + 0).toNat (by omega) (by omega), hs (11 + 5 * t + 1).toNat (by omega) (by omega), hs (11 + 5 * t + 2).toNat (by omega) (by omega), hs (11 + 5 * t + 3).toNat (by omega) (by omega), hs (11 + 5 * t + 4).toNat (by omega) (by omega), e0]
    exact this
  · rw [e2] at hl
    have := wer t h0 hl
    unfold erOK se at *
    rw [hs (81 + 4 * t + 0).toNat (by omega) (by omega), hs (81 + 4 * t + 1).toNat (by omega) (by omega), hs (81 + 4 * t + 2).toNat (by omega) (by omega), hs (81 + 4 * t + 3).toNat (by omega) (by omega), e0]
    exact this
/-- the row put otherwise by both -/
theorem row_both {s s' im : Nat → Int} {b N : Int} {T rf : Nat → Int} (hM : MWf k s im b N rf) (hC : CPt σ s im b N T rf) (hR : RPt σ s im b N T rf) (hS : STt σ) (hs : ∀ j, j ≠ 6 → (j < 113 ∨ 123 ≤ j) → s' j = s j) (h6 : 0 ≤ s' 6 ∧ s' 6 ≤ 10) (hr : ∀ i : Nat, (i : Int) < s' 6 → 0 ≤ s' (113 + i) ∧ s' (113 + i) ≤ 9)
    {σ1 : Hp} (k1 : ∀ g, g ∉ 1 :: 10 :: GC → σ1 g = σ g) (k1i : ∀ g, g < 12 → σ1 g 1 = σ g 1) (h1 : ∀ j, j < 7 → σ1 1 0 j = if j = 3 then s' 6 else σ 1 0 j) (h10 : ∀ i : Nat, (i : Int) < s' 6 → σ1 10 0 i = s' (113 + i)) : RPt σ1 s im b N T rf ∧ ∀ σ2, (∀ g, g ≠ 36 → σ2 g = σ1 g) → σ2 36 0 = s' → Good (k + 1) σ2 ∧ Fx σ σ2 := by
  have kf : ∀ g, g ≠ 1 → g ≠ 10 → g < 16 ∨ 33 ≤ g → σ1 g = σ g := fun g g1 g10 hg => k1 g (fun q => by
    rcases List.mem_cons.mp q with z | z
    · exact g1 z
    · rcases List.mem_cons.mp z with y | y
      · exact g10 y
      · exact notGC hg y)
  have hR1 : RPt σ1 s im b N T rf := hR.keep (fun g h1 _ => kf g (by omega) (by omega) (by omega))
  refine ⟨hR1, fun σ2 k2 e36 => ?_⟩
  have fx : Fx σ σ2 := ⟨by rw [k2 60 (by omega), kf 60 (by omega) (by omega) (by omega)], by rw [k2 61 (by omega), kf 61 (by omega) (by omega) (by omega)], by rw [k2 62 (by omega), kf 62 (by omega) (by omega) (by omega)]⟩
  refine ⟨⟨s', im, b, N, T, rf, ⟨⟨WF_row hM.1.1 hs h6 hr, fun j hj => by rw [hs j (by omega) (by omega)]; exact hM.1.2.1 j hj, by rw [hs 5 (by omega) (by omega)]; exact hM.1.2.2⟩, hM.2.1, hM.2.2.1, hM.2.2.2.1, hM.up.2.2.2.2⟩, ?_, ?_, hS.fx fx⟩, fx⟩
  · obtain ⟨c1, c2, c3, c4, c5, c6⟩ := hC
    refine ⟨TW_row c1 hs hM.1.1 (fun g hg g1 g10 => by rw [k2 g (by omega), kf g g1 g10 (by omega)]) (fun j hj => by rw [k2 1 (by omega)]; exact h1 j hj) (fun i hi => by rw [k2 10 (by omega)]; exact h10 i hi), fun hb => (c2 hb).keep (fun g hg _ => by rw [k2 g (by omega), k1i g hg]), by rw [k2 0 (by omega), kf 0 (by omega) (by omega) (by omega)]; exact c3, by rw [k2 12 (by omega), kf 12 (by omega) (by omega) (by omega)]; exact c4, fun i hi => by rw [k2 13 (by omega), kf 13 (by omega) (by omega) (by omega)]; exact c5 i hi, fun i hi => by rw [k2 33 (by omega), kf 33 (by omega) (by omega) (by omega)]; exact c6 i hi⟩
  · obtain ⟨c1, c2, c3, c4, c5, c6, c7⟩ := hR1
    exact ⟨e36, fun hb => by rw [k2 37 (by omega)]; exact c2 hb, fun i hi => by rw [k2 37 (by omega), k2 38 (by omega)]; exact c3 i hi, by rw [k2 34 (by omega)]; exact c4, by rw [k2 34 (by omega)]; exact c5, fun i hi => by rw [k2 39 (by omega)]; exact c6 i hi, fun i hi => by rw [k2 35 (by omega)]; exact c7 i hi⟩
theorem pr_corner (hG : Good k σ) (hk : k < 1000) : Pr2 k σ 1 mX10_corner [zR 0 0, zI a0] 2 mX11_corner [zR 34 0, zI a0, zU] := by
  intro K2 cont
  obtain ⟨s, im, b, N, T, rf, hM, hC, hR, hS⟩ := hG
  have hw := hM.1.1
  have w0 := hw.1
  have w6 := hw.2.2.2.2.2.2.1
  have wrow := hw.2.2.2.2.2.2.2.2.2.2.2.2.2
  have e0 : σ 1 0 0 = s 0 := hC.1.1.1
  have e3 : σ 1 0 3 = s 6 := hC.1.cs.2.1
  obtain ⟨n, hn⟩ : ∃ n : Nat, s 6 = n := ⟨(s 6).toNat, by omega⟩
  refine gX10_corner_0 a0 σ ⟨fun c => ⟨fun c2 => ?_, fun c2 => leaf_ref hM hC hR hS hk (by omega) cont (fun σ1 K3 r1 l => gX11_corner_0 a0 σ1 ⟨fun _ => ⟨fun c3 => absurd (by rw [r1.1]; omega) c3, fun _ => l⟩, fun c3 => absurd (by rw [r1.1, ← e0]; exact c) c3⟩)⟩, fun c => leaf_ref hM hC hR hS hk (by omega) cont (fun σ1 K3 r1 l => gX11_corner_0 a0 σ1 ⟨fun c3 => absurd (by rw [e0, ← r1.1]; exact c3) c, fun _ => l⟩)⟩
  rw [e0] at c
  rw [e3, hn] at c2 ⊢
  simp only [Int.toNat_natCast]
  refine ⟨by omega, by omega, ?_⟩
  have hsu : ∀ j, su (su s (113 + n) a0) 6 ((n : Int) + 1) j = if j = 6 then (n : Int) + 1 else if j = 113 + n then a0 else s j := fun j => rfl
  generalize hs' : su (su s (113 + n) a0) 6 ((n : Int) + 1) = s' at hsu
  obtain ⟨hR1, fin⟩ := row_both (s' := s') (σ1 := zup (zup σ 10 0 n a0) 1 0 3 ((n : Int) + 1)) hM hC hR hS (fun j h1 h2 => by rw [hsu, if_neg h1, if_neg (by omega)]) (by rw [hsu, if_pos rfl]; omega) (fun i hi => by
    rw [hsu 6, if_pos rfl] at hi
    rw [hsu, if_neg (by omega)]
    by_cases q : i = n
    · rw [if_pos (by omega)]; omega
    · rw [if_neg (by omega)]; exact wrow i (by omega)) (fun g hg => by
    have h1 : g ≠ 1 := fun q => hg (by rw [q]; exact List.mem_cons_self)
    have h10 : g ≠ 10 := fun q => hg (by rw [q]; exact List.mem_cons_of_mem _ List.mem_cons_self)
    funext i'
    rw [zup_ne (by intro q; cases q; exact h1 rfl), zup_ne (by intro q; cases q; exact h10 rfl)]) (fun g _ => by rw [zup_ne (by intro q; cases q), zup_ne (by intro q; cases q)]) (fun j hj => by
    rw [hsu, if_pos rfl]
    by_cases q : j = 3 <;> simp [zup, q]) (fun i hi => by
    rw [hsu 6, if_pos rfl] at hi
    rw [hsu, if_neg (by omega)]
    by_cases q : i = n
    · rw [if_pos (by omega), q]; simp [zup]
    · rw [if_neg (by omega)]
      simp [zup, q]
      exact hC.1.2.2.2.2.1 i (by omega))
  have h66 : (zup (zup (zup σ 10 0 n a0) 1 0 3 ((n : Int) + 1)) 36 0 (113 + n) a0) 36 0 6 = n := by
    rw [zup_su, hR1.1, su_ne (by omega)]; exact hn
  refine gX11_corner_0 a0 _ ⟨fun _ => ⟨fun _ => ?_, fun c3 => absurd (by rw [hR1.1] at c3; omega) (by omega : ¬ (10 : Int) ≤ n)⟩, fun c3 => absurd (by rw [hR1.1]; exact c) c3⟩
  rw [hR1.1, hn, show (113 + (n : Int)).toNat = 113 + n by omega, h66]
  refine ⟨by omega, by omega, by omega, fun σ2 e2 => ?_⟩
  obtain ⟨q1, q2⟩ := fin σ2 (fun g hg => by
    rw [e2]
    funext i'
    rw [zup_ne (by intro q; cases q; exact hg rfl), zup_ne (by intro q; cases q; exact hg rfl)]) (by rw [e2, zup_su, zup_su, hR1.1]; exact hs')
  exact ⟨rfl, cont σ2 q1 q2⟩
theorem pr_procession (hG : Good k σ) (hk : k < 1000) : Pr2 k σ 3 mX10_procession [zR 0 0, zU] 4 mX11_procession [zR 34 0, zU, zU, zU, zU] := by
  intro K2 cont
  obtain ⟨s, im, b, N, T, rf, hM, hC, hR, hS⟩ := hG
  have hw := hM.1.1
  have w6 := hw.2.2.2.2.2.2.1
  have e3 : σ 1 0 3 = s 6 := hC.1.cs.2.1
  obtain ⟨n, hn⟩ : ∃ n : Nat, s 6 = n := ⟨(s 6).toNat, by omega⟩
  refine gX10_procession_0 σ ⟨fun c σ1 es1 => ?_, fun c => leaf_ref hM hC hR hS hk (by omega) cont (fun σ1 K3 r1 l => gX11_procession_0 σ1 ⟨fun c3 => absurd (by rw [r1.1] at c3; omega) c, fun _ => l⟩)⟩
  obtain ⟨o1, t1, m1, n1⟩ := take_ok hM hC es1
  refine qX0_lay hw (by omega) t1 m1 (fun σ2 o2 k2 l2 => ?_)
  have oc : Off GC σ σ2 := (o1.mono (by decide)).tr (o2.mono (by decide))
  refine qX0_roundOfRow hw l2 (n := n) (by rw [oc 1 (by decide), e3]; exact hn) hn (by omega) (fun i hi => by rw [oc 10 (by decide)]; exact hC.1.2.2.2.2.1 i hi) ?_
  obtain ⟨hR1, fin⟩ := row_both (s' := su s 6 0) (σ1 := zup σ2 1 0 3 0) hM hC hR hS (fun j h1 _ => su_ne h1) (by rw [su_eq]; omega) (fun i hi => by rw [su_eq] at hi; omega) (fun g hg => by
    have h1 : g ≠ 1 := fun q => hg (by rw [q]; exact List.mem_cons_self)
    have hg2 : g ∉ GC := fun q => hg (List.mem_cons_of_mem _ (List.mem_cons_of_mem _ q))
    have : (zup σ2 1 0 3 0) g = σ2 g := by
      funext i'
      rw [zup_ne (by intro q; cases q; exact h1 rfl)]
    rw [this, oc g hg2]) (fun g hg => by rw [zup_ne (by intro q; cases q), oc g (notGC (by omega))]) (fun j hj => by
    rw [su_eq]
    by_cases q : j = 3
    · simp [zup, q]
    · simp [zup, q]; rw [oc 1 (by decide)]) (fun i hi => by rw [su_eq] at hi; omega)
  refine gX11_procession_0 _ ⟨fun _ => ?_, fun c3 => absurd (by rw [hR1.1]; omega) c3⟩
  rw [hR1.1, hn]
  have e36 : (zup (zup σ2 1 0 3 0) 36 0 6 0) 36 0 = su s 6 0 := by rw [zup_su, hR1.1]
  refine qX11_procession hw e36 hn (by omega) ?_
  obtain ⟨q1, q2⟩ := fin (zup (zup σ2 1 0 3 0) 36 0 6 0) (fun g hg => by
    funext i'
    rw [zup_ne (by intro q; cases q; exact hg rfl)]) e36
  exact ⟨rfl, cont _ q1 q2⟩
theorem pr_image (hG : Good k σ) (hk : k < 1000) : Pr2 k σ 2 mX10_image [zR 0 0] 0 mX11_image [zR 34 0, zU] := by
  intro K2 cont
  obtain ⟨s, im, b, N, T, rf, hM, hC, hR, hS⟩ := hG
  have hw := hM.1.1
  refine gX10_image_0 σ (qX6_take10 hC.1 hw (fun σ1 o1 t1 => ?_))
  generalize hσ2 : zup σ1 0 0 12 1 = σ2
  have c0 : ∀ g, g ≠ 0 → σ2 g = σ1 g := fun g hg => by
    rw [← hσ2]
    funext i'
    rw [zup_ne (by intro q; cases q; exact hg rfl)]
  have oh : ∀ g, 12 ≤ g → σ2 g = σ g := fun g hg => by rw [c0 g (by omega), o1.1 g (by intro q; simp at q; omega)]
  have hR1 : RPt σ2 s im b N T rf := hR.keep (fun g h1 _ => oh g (by omega))
  refine gX11_image_0 σ2 (upto (α := Hp) (N := 123) (R := fun i σ3 => Runs 0 mX11_image 2 [zR 34 0, zI i] [] σ3 (rI (fun z2 σ4 => σ1 1 1 1 = z2 ∧ K2 σ4))) (I := fun i σ3 => (∀ g, g ≠ 37 → σ3 g = σ2 g) ∧ ∀ j : Nat, σ3 37 0 j = if (j : Int) < i then s j else σ2 37 0 j) (fun σ3 hI => ?_) (fun i σ3 i0 il hI nx => ?_) (Int.le_refl 0) (by omega) ⟨fun _ _ => rfl, fun j => by rw [if_neg (by omega)]⟩)
  · obtain ⟨k3, l3⟩ := hI
    refine gX11_image_2 123 σ3 ⟨fun _ => ?_, fun q => absurd (Int.le_refl 123) q⟩
    generalize hσ4 : zup σ3 34 0 4 1 = σ4
    have c34 : ∀ g, g ≠ 34 → σ4 g = σ3 g := fun g hg => by
      rw [← hσ4]
      funext i'
      rw [zup_ne (by intro q; cases q; exact hg rfl)]
    have ol : ∀ g, g ≠ 34 → g ≠ 37 → σ4 g = σ2 g := fun g h1 h2 => by rw [c34 g h1, k3 g h2]
    have fx : Fx σ σ4 := ⟨by rw [ol 60 (by omega) (by omega), oh 60 (by omega)], by rw [ol 61 (by omega) (by omega), oh 61 (by omega)], by rw [ol 62 (by omega) (by omega), oh 62 (by omega)]⟩
    have e37 : σ4 37 0 = s := by
      rw [c34 37 (by omega)]
      funext j
      rw [l3 j]
      by_cases q : (j : Int) < 123
      · rw [if_pos q]
      · rw [if_neg q, (hR1.2.2.1 j (by omega)).1]
        exact (hM.1.2.1 j (by omega)).symm
    refine ⟨by rw [k3 36 (by omega), hR1.1]; exact t1.1.2.1, cont σ4 ⟨s, s, 1, N, T, rf, ⟨hM.1, fun _ => hM.1, Or.inr rfl, hM.2.2.2.1, hM.up.2.2.2.2⟩, ?_, ?_, hS.fx fx⟩ fx⟩
    · obtain ⟨x1, x2, x3, x4, x5, x6⟩ := hC
      exact ⟨x1.keep (fun g hg h0 => by rw [ol g (by omega) (by omega), c0 g (by omega)]; exact o1.2 g 0 (by omega)), fun _ => t1.keep (fun g hg h0 => by rw [ol g (by omega) (by omega), c0 g (by omega)]), by rw [ol 0 (by omega) (by omega), ← hσ2]; simp [zup], by rw [ol 12 (by omega) (by omega), oh 12 (by omega)]; exact x4, fun i hi => by rw [ol 13 (by omega) (by omega), oh 13 (by omega)]; exact x5 i hi, fun i hi => by rw [ol 33 (by omega) (by omega), oh 33 (by omega)]; exact x6 i hi⟩
    · obtain ⟨x1, x2, x3, x4, x5, x6, x7⟩ := hR1
      refine ⟨by rw [ol 36 (by omega) (by omega)]; exact x1, fun _ => e37, fun i hi => ⟨by rw [e37]; exact hM.1.2.1 i hi, by rw [ol 38 (by omega) (by omega)]; exact (x3 i hi).2⟩, by rw [← hσ4]; simp [zup], ?_, fun i hi => by rw [ol 39 (by omega) (by omega)]; exact x6 i hi, fun i hi => by rw [ol 35 (by omega) (by omega)]; exact x7 i hi⟩
      rw [← hσ4]
      simp [zup]
      rw [k3 34 (by omega)]
      exact x5
  · obtain ⟨k3, l3⟩ := hI
    refine gX11_image_2 i σ3 ⟨fun q => absurd q (by omega), fun _ => ⟨by omega, by omega, by omega, nx _ ⟨fun g hg => ?_, fun j => ?_⟩⟩⟩
    · funext i'
      rw [zup_ne (by intro q; cases q; exact hg rfl), k3 g hg]
    · rw [k3 36 (by omega), hR1.1]
      by_cases q : j = i.toNat
      · rw [if_pos (by omega), q]; simp [zup]
      · have : (zup σ3 37 0 i.toNat (s i.toNat)) 37 0 j = σ3 37 0 j := by simp [zup, q]
        rw [this, l3 j]
        by_cases z : (j : Int) < i
        · rw [if_pos z, if_pos (by omega)]
        · rw [if_neg z, if_neg (by omega)]
theorem pr_on (hG : Good k σ) (hk : k < 1000) : Pr2 k σ 2 mX10_on [zR 0 0] 1 mX11_on [zR 34 0, zU] := by
  intro K2 cont
  obtain ⟨s, im, b, N, T, rf, hM, hC, hR, hS⟩ := hG
  have eb : σ 0 0 12 = b := hC.2.2.1
  have b01 := hM.2.2.1
  refine gX10_on_0 σ ⟨fun c => ?_, fun c => leaf_ref hM hC hR hS hk (by omega) cont (fun σ1 K3 r1 l => gX11_on_0 σ1 ⟨fun c3 => absurd (by rw [r1.2.2.2.1]; omega) c3, fun _ => l⟩)⟩
  have b1 : b = 1 := by omega
  obtain ⟨wi, hi, i5⟩ := hM.2.1 b1
  refine qX6_take01 (hC.2.1 b1) wi (fun σ1 o1 t1 => ?_)
  have oh : ∀ g, g = 0 ∨ 12 ≤ g → σ1 g = σ g := fun g hg => o1.1 g (by intro q; simp at q; omega)
  have hR1 : RPt σ1 s im b N T rf := hR.keep (fun g h1 _ => oh g (by omega))
  refine gX11_on_0 σ1 ⟨fun _ => ?_, fun c3 => absurd (by rw [hR1.2.2.2.1] at c3; omega) c⟩
  refine upto (α := Hp) (N := 123) (R := fun i σ3 => Runs 1 mX11_on 16 [zR 34 0, zI i] [] σ3 (rI (fun z2 σ4 => σ1 1 0 1 = z2 ∧ K2 σ4))) (I := fun i σ3 => (∀ g, g ≠ 36 → σ3 g = σ1 g) ∧ ∀ j : Nat, σ3 36 0 j = if (j : Int) < i then im j else s j) (fun σ3 hI => ?_) (fun i σ3 i0 il hI nx => ?_) (Int.le_refl 0) (by omega) ⟨fun _ _ => rfl, fun j => by rw [if_neg (by omega), hR1.1]⟩
  · obtain ⟨k3, l3⟩ := hI
    have e36 : σ3 36 0 = im := by
      funext j
      rw [l3 j]
      by_cases q : (j : Int) < 123
      · rw [if_pos q]
      · rw [if_neg q, hi j (by omega)]
        exact hM.1.2.1 j (by omega)
    have fx : Fx σ σ3 := ⟨by rw [k3 60 (by omega), oh 60 (by omega)], by rw [k3 61 (by omega), oh 61 (by omega)], by rw [k3 62 (by omega), oh 62 (by omega)]⟩
    refine gX11_on_16 123 σ3 ⟨fun _ => ⟨by rw [e36]; exact t1.1.2.1, cont σ3 ⟨im, im, b, N, T, rf, ⟨⟨wi, hi, i5⟩, hM.2.1, hM.2.2.1, hM.2.2.2.1, hM.up.2.2.2.2⟩, ?_, ?_, hS.fx fx⟩ fx⟩, fun q => absurd (Int.le_refl 123) q⟩
    · obtain ⟨x1, x2, x3, x4, x5, x6⟩ := hC
      exact ⟨t1.keep (fun g hg _ => by rw [k3 g (by omega)]), fun hb => (x2 hb).keep (fun g hg _ => by rw [k3 g (by omega)]; exact o1.2 g 1 (by omega)), by rw [k3 0 (by omega), oh 0 (by omega)]; exact x3, by rw [k3 12 (by omega), oh 12 (by omega)]; exact x4, fun i hi => by rw [k3 13 (by omega), oh 13 (by omega)]; exact x5 i hi, fun i hi => by rw [k3 33 (by omega), oh 33 (by omega)]; exact x6 i hi⟩
    · obtain ⟨x1, x2, x3, x4, x5, x6, x7⟩ := hR1
      exact ⟨e36, fun hb => by rw [k3 37 (by omega)]; exact x2 hb, fun i hi => by rw [k3 37 (by omega), k3 38 (by omega)]; exact x3 i hi, by rw [k3 34 (by omega)]; exact x4, by rw [k3 34 (by omega)]; exact x5, fun i hi => by rw [k3 39 (by omega)]; exact x6 i hi, fun i hi => by rw [k3 35 (by omega)]; exact x7 i hi⟩
  · obtain ⟨k3, l3⟩ := hI
    refine gX11_on_16 i σ3 ⟨fun q => absurd q (by omega), fun _ => ⟨by omega, by omega, by omega, nx _ ⟨fun g hg => ?_, fun j => ?_⟩⟩⟩
    · funext i'
      rw [zup_ne (by intro q; cases q; exact hg rfl), k3 g hg]
    · rw [k3 37 (by omega), hR1.2.1 b1]
      by_cases q : j = i.toNat
      · rw [if_pos (by omega), q]; simp [zup]
      · have : (zup σ3 36 0 i.toNat (im i.toNat)) 36 0 j = σ3 36 0 j := by simp [zup, q]
        rw [this, l3 j]
        by_cases z : (j : Int) < i
        · rw [if_pos z, if_pos (by omega)]
        · rw [if_neg z, if_neg (by omega)]
/-! counts -/
theorem popF_top : ∀ (n v : Nat), popF (n + 1) v = popF n v + v / 2 ^ n % 2
  | 0, v => by
    show v % 2 + popF 0 (v / 2) = 0 + v / 2 ^ 0 % 2
    simp [popF]
  | n + 1, v => by
    show v % 2 + popF (n + 1) (v / 2) = v % 2 + popF n (v / 2) + v / 2 ^ (n + 1) % 2
    rw [popF_top n (v / 2), Nat.div_div_eq_div_mul, show 2 * 2 ^ n = 2 ^ (n + 1) by rw [Nat.pow_succ]; omega]
    omega
def sumB (x : Int) : Nat → Int
  | 0 => 0
  | t + 1 => sumB x t + bitz x (t : Int)
theorem sumB_pop {x : Int} (hx : 0 ≤ x ∧ x < 16384) : ∀ t : Nat, t ≤ 14 → sumB x t = (popF t x.toNat : Int)
  | 0, _ => rfl
  | t + 1, h => by
    show sumB x t + bitz x (t : Int) = _
    rw [sumB_pop hx t (by omega), popF_top, bitz_eq ⟨by omega, by omega⟩ (by omega)]
    have : x = ((x.toNat : Nat) : Int) := by omega
    rw [show ((t : Int)).toNat = t from rfl]
    rw [Int.natCast_add]
    congr 1
    rw [this]
    norm_cast
theorem sumB_hi {x : Int} {n : Nat} (h : ∀ j : Nat, n ≤ j → j < 14 → bitz x (j : Int) = 0) : ∀ d : Nat, n + d ≤ 14 → sumB x (n + d) = sumB x n
  | 0, _ => rfl
  | d + 1, hd => by
    show sumB x (n + d) + bitz x ((n + d : Nat) : Int) = _
    rw [sumB_hi h d (by omega), h (n + d) (by omega) (by omega)]
    omega
def mustC (s : Nat → Int) : Nat → Int
  | 0 => 0
  | t + 1 => mustC s t + (if sg s t 4 = 2 then 0 else 1)
theorem mustC_b (s : Nat → Int) : ∀ t : Nat, 0 ≤ mustC s t ∧ mustC s t ≤ t
  | 0 => by unfold mustC; omega
  | t + 1 => by
    have ih := mustC_b s t
    unfold mustC
    split <;> omega
theorem sumB_b (x : Int) : ∀ t : Nat, 0 ≤ sumB x t ∧ sumB x t ≤ t
  | 0 => by unfold sumB; omega
  | t + 1 => by
    have ih := sumB_b x t
    have b := bitz_01 x t
    unfold sumB
    omega
theorem qX6_mustsTold {s : Nat → Int} {K : Int → Hp → Prop} (hw : WF s) (h : TW σ 0 s) (hk : K (mustC s (s 1).toNat) σ) : Runs 0 mX6_mustsTold 0 [zR 1 0, zU, zU] [] σ (rI K) := by
  have w1 := hw.2.1
  have e1 : σ 1 0 1 = s 1 := h.1.2.1
  refine gX6_mustsTold_0 0 σ (upto (α := Int) (N := s 1) (R := fun t c => Runs 0 mX6_mustsTold 4 [zR 1 0, zI c, zI t] [] σ (rI K)) (I := fun t c => c = mustC s t.toNat) (fun c hI => ?_) (fun t c t0 tl hI nx => ?_) (Int.le_refl 0) w1.1 rfl)
  · subst hI
    exact gX6_mustsTold_4 _ (s 1) 0 σ ⟨fun _ => hk, fun q => absurd (by rw [e1]; exact Int.le_refl _) q⟩
  · have mb := mustC_b s t.toNat
    have x5 := (h.2.2.1 t.toNat (by omega)).2.2.2.2
    rw [Int.toNat_of_nonneg t0] at x5
    have st : mustC s (t + 1).toNat = mustC s t.toNat + (if sg s t 4 = 2 then 0 else 1) := by
      rw [show (t + 1).toNat = t.toNat + 1 by omega]
      show mustC s t.toNat + (if sg s ((t.toNat : Nat) : Int) 4 = 2 then 0 else 1) = _
      rw [Int.toNat_of_nonneg t0]
    refine gX6_mustsTold_4 c t 0 σ ⟨fun q => absurd q (by omega), fun _ => ?_⟩
    rw [x5]
    refine ⟨by omega, fun c2 => ⟨by omega, by omega, nx _ ?_⟩, fun c2 => ⟨by omega, by omega, nx _ ?_⟩⟩
    · rw [st, if_neg c2]; omega
    · rw [st, if_pos c2]; omega
theorem pr_count (hG : Good k σ) (hk : k < 1000) : Pr2 k σ 1 mX10_count [zR 0 0, zI a0] 1 mX11_count [zR 34 0, zI a0, zU, zU] := by
  intro K2 cont
  obtain ⟨s, im, b, N, T, rf, hM, hC, hR, hS⟩ := hG
  have hw := hM.1.1
  have w1 := hw.2.1
  have w4 := hw.2.2.2.2.1
  have q := qfin hM hC hR hS (Off.rf : Off GC σ σ) (RQ.rf_ : RQ σ σ)
  have ok : K2 σ := cont σ q.1 q.2
  have h36 := hR.1
  have t0 := hC.1
  obtain ⟨n, hn⟩ : ∃ n : Nat, s 1 = n := ⟨(s 1).toNat, by omega⟩
  -- what both count
  have cls : ∀ (K : Int → Hp → Prop), (∀ z, (a0 < 0 ∨ 7 < a0 → z = -9) → (a0 = 0 → z = s 0) → (a0 = 1 → z = s 1) → (a0 = 2 → z = s 2) → (a0 = 3 → z = sumB (σ 1 0 4) n) → (a0 = 4 → z = mustC s n) → (a0 = 5 → z = (popN (s 4).toNat : Int)) → (a0 = 6 → z = s 6) → (a0 = 7 → z = N) → K z σ) → Runs 1 mX10_count 22 [zR 0 0, zI a0] [] σ (rI K) := fun K hK => by
    have bc : ∀ {v : Int} {K3 : Int → Hp → Prop}, (0 ≤ v ∧ v < 16384) → K3 (popN v.toNat : Int) σ → Runs 0 mJ6_bitCount_0f7a4 0 [zI v] [] σ (rI K3) := fun {v} {K3} hv h3 => by
      have := qJ6_bitCount (σ := σ) (K := K3) (v := v.toNat) (by omega) h3
      rw [Int.toNat_of_nonneg hv.1] at this
      exact this
    have pc : (popN (σ 1 0 4).toNat : Int) = sumB (σ 1 0 4) n := by
      have e1 := sumB_pop t0.2.1.1 14 (Nat.le_refl _)
      have e2 := sumB_hi (x := σ 1 0 4) (n := n) (fun j h1 h2 => t0.2.1.2 j (by omega) h2) (14 - n) (by omega)
      rw [show n + (14 - n) = 14 by omega] at e2
      rw [← e2, e1]
      rfl
    refine gX10_count_22 a0 σ ⟨fun c => hK _ (fun _ => rfl) (fun z => by omega) (fun z => by omega) (fun z => by omega) (fun z => by omega) (fun z => by omega) (fun z => by omega) (fun z => by omega) (fun z => by omega), fun c => hK _ (fun z => by omega) (fun _ => t0.1.1) (fun z => by omega) (fun z => by omega) (fun z => by omega) (fun z => by omega) (fun z => by omega) (fun z => by omega) (fun z => by omega), fun c => hK _ (fun z => by omega) (fun z => by omega) (fun _ => t0.1.2.1) (fun z => by omega) (fun z => by omega) (fun z => by omega) (fun z => by omega) (fun z => by omega) (fun z => by omega), fun c => hK _ (fun z => by omega) (fun z => by omega) (fun z => by omega) (fun _ => t0.1.2.2.1) (fun z => by omega) (fun z => by omega) (fun z => by omega) (fun z => by omega) (fun z => by omega), fun c => bc t0.2.1.1 ?_, fun c => qX6_mustsTold hw t0 ?_, fun c => bc (by rw [t0.1.2.2.2.2.1]; exact w4) ?_, fun c => hK _ (fun z => by omega) (fun z => by omega) (fun z => by omega) (fun z => by omega) (fun z => by omega) (fun z => by omega) (fun z => by omega) (fun _ => t0.1.2.2.2.1) (fun z => by omega), fun c => hK _ (fun z => by omega) (fun z => by omega) (fun z => by omega) (fun z => by omega) (fun z => by omega) (fun z => by omega) (fun z => by omega) (fun z => by omega) (fun _ => hC.2.2.2.1)⟩
    · exact hK _ (fun z => by omega) (fun z => by omega) (fun z => by omega) (fun z => by omega) (fun _ => pc) (fun z => by omega) (fun z => by omega) (fun z => by omega) (fun z => by omega)
    · exact hK _ (fun z => by omega) (fun z => by omega) (fun z => by omega) (fun z => by omega) (fun z => by omega) (fun _ => by rw [hn]; rfl) (fun z => by omega) (fun z => by omega) (fun z => by omega)
    · exact hK _ (fun z => by omega) (fun z => by omega) (fun z => by omega) (fun z => by omega) (fun z => by omega) (fun z => by omega) (fun _ => by rw [t0.1.2.2.2.2.1]) (fun z => by omega) (fun z => by omega)
  have ref : ∀ z, (a0 < 0 ∨ 7 < a0 → z = -9) → (a0 = 0 → z = s 0) → (a0 = 1 → z = s 1) → (a0 = 2 → z = s 2) → (a0 = 3 → z = sumB (σ 1 0 4) n) → (a0 = 4 → z = mustC s n) → (a0 = 5 → z = (popN (s 4).toNat : Int)) → (a0 = 6 → z = s 6) → (a0 = 7 → z = N) → Runs 1 mX11_count 22 [zR 34 0, zI a0, zU, zU] [] σ (rI (fun z2 σ2 => z = z2 ∧ K2 σ2)) := fun z h9 h0 h1 h2 h3 h4 h5 h6 h7 => by
    have loop3 : a0 = 3 → Runs 1 mX11_count 81 [zR 34 0, zI a0, zI 0, zI 0] [] σ (rI (fun z2 σ2 => z = z2 ∧ K2 σ2)) := fun c => by
      refine upto (α := Int) (N := s 1) (R := fun t c => Runs 1 mX11_count 81 [zR 34 0, zI a0, zI c, zI t] [] σ (rI (fun z2 σ2 => z = z2 ∧ K2 σ2))) (I := fun t c => c = sumB (σ 1 0 4) t.toNat) (fun cc hI => ?_) (fun t cc t0' tl hI nx => ?_) (Int.le_refl 0) w1.1 rfl
      · refine gX11_count_81 a0 cc (s 1) σ ⟨fun _ => ⟨?_, ok⟩, fun y => absurd (by rw [h36]; exact Int.le_refl _) y⟩
        rw [h3 c, hI, hn]
        rfl
      · have x4 := (t0.2.2.1 t.toNat (by omega)).2.2.2.1
        rw [Int.toNat_of_nonneg t0'] at x4
        have sb := sumB_b (σ 1 0 4) t.toNat
        have bb := bitz_01 (σ 1 0 4) t
        have st : sumB (σ 1 0 4) (t + 1).toNat = sumB (σ 1 0 4) t.toNat + bitz (σ 1 0 4) t := by
          rw [show (t + 1).toNat = t.toNat + 1 by omega]
          show sumB (σ 1 0 4) t.toNat + bitz (σ 1 0 4) ((t.toNat : Nat) : Int) = _
          rw [Int.toNat_of_nonneg t0']
        refine gX11_count_81 a0 cc t σ ⟨fun y => absurd y (by rw [h36]; omega), fun _ => ⟨fun y => absurd c y, fun _ => ?_⟩⟩
        rw [h36, ← x4]
        exact ⟨by omega, by omega, by omega, nx _ (by rw [st]; omega)⟩
    have loop4 : a0 = 4 → Runs 1 mX11_count 81 [zR 34 0, zI a0, zI 0, zI 0] [] σ (rI (fun z2 σ2 => z = z2 ∧ K2 σ2)) := fun c => by
      refine upto (α := Int) (N := s 1) (R := fun t c => Runs 1 mX11_count 81 [zR 34 0, zI a0, zI c, zI t] [] σ (rI (fun z2 σ2 => z = z2 ∧ K2 σ2))) (I := fun t c => c = mustC s t.toNat) (fun cc hI => ?_) (fun t cc t0' tl hI nx => ?_) (Int.le_refl 0) w1.1 rfl
      · refine gX11_count_81 a0 cc (s 1) σ ⟨fun _ => ⟨?_, ok⟩, fun y => absurd (by rw [h36]; exact Int.le_refl _) y⟩
        rw [h4 c, hI, hn]
        rfl
      · have wst := hw.2.2.2.2.2.2.2.2.2.2.2.1 t t0' tl
        unfold stOK at wst
        have mb := mustC_b s t.toNat
        have st : mustC s (t + 1).toNat = mustC s t.toNat + (if sg s t 4 = 2 then 0 else 1) := by
          rw [show (t + 1).toNat = t.toNat + 1 by omega]
          show mustC s t.toNat + (if sg s ((t.toNat : Nat) : Int) 4 = 2 then 0 else 1) = _
          rw [Int.toNat_of_nonneg t0']
        refine gX11_count_81 a0 cc t σ ⟨fun y => absurd y (by rw [h36]; omega), fun _ => ⟨fun _ => ?_, fun y => absurd y (by omega)⟩⟩
        rw [h36]
        refine ⟨by omega, fun y => ⟨by omega, by omega, nx _ ?_⟩, fun y => ⟨by omega, by omega, nx _ ?_⟩⟩
        · rw [st, if_pos (by omega)]; omega
        · rw [st, if_neg (by omega)]; omega
    refine gX11_count_22 a0 σ ⟨fun c => ⟨h9 c, ok⟩, fun c => ⟨by omega, ?_⟩, fun c => ⟨by omega, ?_⟩, fun c => ⟨by omega, ?_⟩, loop3, loop4, fun c => ?_, fun c => ⟨by rw [h36]; exact h6 c, ok⟩, fun c => ⟨by rw [hR.2.2.2.2.1]; exact h7 c, ok⟩⟩
    · rw [h36, c]; exact ⟨h0 c, ok⟩
    · rw [h36, c]; exact ⟨h1 c, ok⟩
    · rw [h36, c]; exact ⟨h2 c, ok⟩
    · rw [h36]
      have := pX11_bits (σ := σ) (K := fun z2 σ1 => rI (fun z2 σ2 => z = z2 ∧ K2 σ2) (some z2) σ1) (v := (s 4).toNat) (by omega) ⟨h5 c, ok⟩
      rw [Int.toNat_of_nonneg w4.1] at this
      exact this
  have both22 : (a0 < 11 ∨ 16 < a0) → Runs 1 mX10_count 22 [zR 0 0, zI a0] [] σ (rI (fun z1 σ1 => Runs 1 mX11_count 0 [zR 34 0, zI a0, zU, zU] [] σ1 (rI (fun z2 σ2 => z1 = z2 ∧ K2 σ2)))) := fun hc => cls _ (fun z h9 h0 h1 h2 h3 h4 h5 h6 h7 => gX11_count_0 a0 σ ⟨fun _ => ref z h9 h0 h1 h2 h3 h4 h5 h6 h7, fun _ => ⟨fun _ => ref z h9 h0 h1 h2 h3 h4 h5 h6 h7, fun y => by omega⟩⟩)
  refine gX10_count_0 a0 σ ⟨fun c => both22 (Or.inl c), fun c => ⟨fun c2 => both22 (Or.inr c2), fun c2 => ⟨by omega, by omega, ?_⟩⟩⟩
  refine gX11_count_0 a0 σ ⟨fun y => by omega, fun _ => ⟨fun y => by omega, fun _ => ⟨by omega, by omega, ?_, ok⟩⟩⟩
  rw [hC.2.2.2.2.2 _ (by omega), hR.2.2.2.2.2.2 _ (by omega)]
end Pairs4
