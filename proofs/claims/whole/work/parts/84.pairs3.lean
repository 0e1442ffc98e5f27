/-! calls of both: what changes the town -/
theorem zand_255 (a : Int) : zand a 255 = a % 256 := by
  unfold zand
  have h2 : (n32 a &&& n32 255).toBitVec.toNat = (n32 a).toBitVec.toNat % 256 := by
    show ((n32 a).toBitVec &&& (n32 255).toBitVec).toNat = _
    rw [BitVec.toNat_and]
    show (n32 a).toBitVec.toNat &&& (2 ^ 8 - 1) = _
    exact Nat.and_two_pow_sub_one_eq_mod _ 8
  have h3 : (n32 a &&& n32 255).toInt = ((n32 a).toBitVec.toNat % 256 : Nat) := by
    show (n32 a &&& n32 255).toBitVec.toInt = _
    rw [BitVec.toInt_eq_toNat_of_lt (by rw [h2]; omega), h2]
  rw [h3]
  have h4 : ((n32 a).toBitVec.toNat : Int) = a % 4294967296 := by
    show ((BitVec.ofInt 32 a).toNat : Int) = _
    rw [BitVec.toNat_ofInt]
    have : (0 : Int) ≤ a % 4294967296 := Int.emod_nonneg _ (by omega)
    show ((a % (4294967296 : Int)).toNat : Int) = _
    omega
  omega
theorem zl2i_256 (y : Int64) : zl2i y % 256 = (y.toBitVec.toNat : Int) % 256 := by
  unfold zl2i
  rw [Int64.toInt_toInt32, ← wrap_bmod]
  have h : y.toInt = Int.bmod y.toBitVec.toNat (2 ^ 64) := BitVec.toInt_eq_toNat_bmod y.toBitVec
  rw [h, Int.bmod_def]
  unfold wrap
  have := y.toBitVec.isLt
  split <;> omega
theorem ush_bv (x : Int64) (i : Nat) (hi : i < 8) : (zlushr x (8 * (i : Int))).toBitVec = x.toBitVec >>> (8 * i) := by
  have : i = 0 ∨ i = 1 ∨ i = 2 ∨ i = 3 ∨ i = 4 ∨ i = 5 ∨ i = 6 ∨ i = 7 := by omega
  rcases this with rfl | rfl | rfl | rfl | rfl | rfl | rfl | rfl <;> rfl
theorem ssh_bv (x : Int64) (i : Nat) (hi : i < 8) : (zlshr x (8 * (i : Int))).toBitVec = x.toBitVec.sshiftRight (8 * i) := by
  have : i = 0 ∨ i = 1 ∨ i = 2 ∨ i = 3 ∨ i = 4 ∨ i = 5 ∨ i = 6 ∨ i = 7 := by omega
  rcases this with rfl | rfl | rfl | rfl | rfl | rfl | rfl | rfl <;> rfl
theorem byte_eq (x : Int64) (i : Nat) (hi : i < 8) : zand (zl2i (zlushr x (8 * (i : Int)))) 255 = zl2i ((zlshr x (8 * (i : Int))) &&& (Int64.ofInt 255)) := by
  rw [zand_255, zl2i_256, ush_bv x i hi]
  generalize hz : zlshr x (8 * (i : Int)) = z
  have hzb : z.toBitVec = x.toBitVec.sshiftRight (8 * i) := by rw [← hz]; exact ssh_bv x i hi
  have n1 : (z &&& Int64.ofInt 255).toBitVec.toNat = z.toBitVec.toNat % 256 := by
    show (z.toBitVec &&& (Int64.ofInt 255).toBitVec).toNat = _
    rw [BitVec.toNat_and]
    show z.toBitVec.toNat &&& (2 ^ 8 - 1) = _
    exact Nat.and_two_pow_sub_one_eq_mod _ 8
  have r1 : zl2i (z &&& Int64.ofInt 255) = ((z.toBitVec.toNat % 256 : Nat) : Int) := by
    unfold zl2i
    rw [Int64.toInt_toInt32, ← wrap_bmod]
    have h : (z &&& Int64.ofInt 255).toInt = Int.bmod (z &&& Int64.ofInt 255).toBitVec.toNat (2 ^ 64) := BitVec.toInt_eq_toNat_bmod _
    rw [h, n1, Int.bmod_def]
    unfold wrap
    split <;> omega
  rw [r1]
  have z1 : z.toBitVec.toInt = x.toBitVec.toInt / 2 ^ (8 * i) := by
    rw [hzb, BitVec.toInt_sshiftRight, Int.shiftRight_eq_div_pow]
    norm_cast
  have z2 : z.toBitVec.toInt = Int.bmod z.toBitVec.toNat (2 ^ 64) := BitVec.toInt_eq_toNat_bmod _
  have x2 : x.toBitVec.toInt = Int.bmod x.toBitVec.toNat (2 ^ 64) := BitVec.toInt_eq_toNat_bmod _
  have u1 : (x.toBitVec >>> (8 * i)).toNat = x.toBitVec.toNat / 2 ^ (8 * i) := by
    rw [BitVec.toNat_ushiftRight, Nat.shiftRight_eq_div_pow]
  rw [u1]
  rw [Int.bmod_def] at z2 x2
  have zl := z.toBitVec.isLt
  have xl := x.toBitVec.isLt
  generalize z.toBitVec.toInt = zi at *
  generalize x.toBitVec.toInt = xi at *
  generalize z.toBitVec.toNat = zn at *
  generalize x.toBitVec.toNat = xn at *
  have : i = 0 ∨ i = 1 ∨ i = 2 ∨ i = 3 ∨ i = 4 ∨ i = 5 ∨ i = 6 ∨ i = 7 := by omega
  rcases this with rfl | rfl | rfl | rfl | rfl | rfl | rfl | rfl <;> (simp only [Nat.reduceMul, Nat.reducePow, Int.reducePow] at z1 z2 x2 zl xl ⊢; split at z2 <;> split at x2 <;> omega)
section Pairs3
variable {k : Nat} {σ : Hp} {a0 a1 a2 : Int}
theorem pr_feed {x : Int64} (hG : Good k σ) (hk : k < 1000) : Pr2 k σ 1 mX10_feed [zR 0 0, zI a0, zJ x, zU, zU] 1 mX11_feed [zR 34 0, zI a0, zJ x, zU, zU] := by
  intro K2 cont
  obtain ⟨s, im, b, N, T, rf, hM, hC, hR, hS⟩ := hG
  have hN := hM.2.2.2.1
  have e12 : σ 12 0 1 = N := hC.2.2.2.1
  have e7 : ∀ {σ1 : Hp}, RPt σ1 s im b N T rf → σ1 34 0 7 = N := fun r1 => r1.2.2.2.2.1
  refine gX10_feed_0 a0 x σ ⟨fun c => ⟨fun c2 => leaf_ref hM hC hR hS hk (by omega) cont (fun σ1 K3 r1 l => gX11_feed_0 a0 x σ1 ⟨fun _ => ⟨fun _ => l, fun c3 => absurd c2 c3⟩, fun c3 => absurd c c3⟩), fun c2 => ⟨by omega, fun c3 => ?_, fun c3 => leaf_ref hM hC hR hS hk (by omega) cont (fun σ1 K3 r1 l => gX11_feed_0 a0 x σ1 ⟨fun _ => ⟨fun c4 => absurd c4 c2, fun _ => ⟨by rw [e7 r1]; omega, fun c4 => absurd (by rw [e12, ← e7 r1]; exact c4) c3, fun _ => l⟩⟩, fun c4 => absurd c c4⟩)⟩⟩, fun c => leaf_ref hM hC hR hS hk (by omega) cont (fun σ1 K3 r1 l => gX11_feed_0 a0 x σ1 ⟨fun c4 => absurd c4 c, fun _ => l⟩)⟩
  rw [e12] at c3
  generalize hBY : (fun i : Nat => zand (zl2i (zlushr x (8 * (i : Int)))) 255) = BY
  have bye : ∀ i : Nat, zand (zl2i (zlushr x (8 * (i : Int)))) 255 = BY i := fun i => by rw [← hBY]
  have T' : ∃ T' : Nat → Int, T' = fun (j : Nat) => if (j : Int) < N then T j else BY (j - N.toNat) := ⟨_, rfl⟩
  obtain ⟨T', hT'⟩ := T'
  refine upto (α := Hp) (N := a0) (R := fun i σ1 => Runs 1 mX10_feed 42 [zR 0 0, zI a0, zJ x, zU, zI i] [] σ1 (rI (fun z1 σ1 => Runs 1 mX11_feed 0 [zR 34 0, zI a0, zJ x, zU, zU] [] σ1 (rI (fun z2 σ2 => z1 = z2 ∧ K2 σ2))))) (I := fun i σ1 => (∀ g, g ≠ 12 → g ≠ 13 → σ1 g = σ g) ∧ σ1 12 0 1 = N + i ∧ ∀ j : Nat, (j : Int) < N + i → σ1 13 0 j = T' j) (fun σ1 hI => ?_) (fun i σ1 i0 il hI nx => ?_) (Int.le_refl 0) (by omega) ⟨fun _ _ _ => rfl, by rw [e12]; omega, fun j hj => by rw [hT']; dsimp only; rw [if_pos (by omega)]; exact hC.2.2.2.2.1 j (by omega)⟩
  · obtain ⟨k1, n1, t1⟩ := hI
    refine gX10_feed_42 a0 a0 x σ1 ⟨fun _ => ?_, fun q => absurd (Int.le_refl _) q⟩
    rw [n1]
    have hR1 : RPt σ1 s im b N T rf := hR.keep (fun g h1 _ => k1 g (by omega) (by omega))
    have n7 := e7 hR1
    refine gX11_feed_0 a0 x σ1 ⟨fun _ => ⟨fun q => absurd q c2, fun _ => ⟨by omega, fun _ => ?_, fun q => absurd (by omega) q⟩⟩, fun q => absurd c q⟩
    refine upto (α := Hp) (N := a0) (R := fun i σ2 => Runs 1 mX11_feed 39 [zR 34 0, zI a0, zJ x, zU, zI i] [] σ2 (rI (fun z2 σ2 => N + a0 = z2 ∧ K2 σ2))) (I := fun i σ2 => (∀ g, g ≠ 34 → g ≠ 39 → σ2 g = σ1 g) ∧ (∀ j, j ≠ 7 → σ2 34 0 j = σ1 34 0 j) ∧ σ2 34 0 7 = N + i ∧ ∀ j : Nat, (j : Int) < N + i → σ2 39 0 j = T' j) (fun σ2 hI2 => ?_) (fun i σ2 i0 il hI2 nx => ?_) (Int.le_refl 0) (by omega) ⟨fun _ _ _ => rfl, fun _ _ => rfl, by rw [n7]; omega, fun j hj => by rw [hT']; dsimp only; rw [if_pos (by omega)]; exact hR1.2.2.2.2.2.1 j (by omega)⟩
    · obtain ⟨k2, f2, n2, t2⟩ := hI2
      refine gX11_feed_39 a0 a0 x σ2 ⟨fun _ => ?_, fun q => absurd (Int.le_refl _) q⟩
      have fx : Fx σ σ2 := ⟨by rw [k2 60 (by omega) (by omega), k1 60 (by omega) (by omega)], by rw [k2 61 (by omega) (by omega), k1 61 (by omega) (by omega)], by rw [k2 62 (by omega) (by omega), k1 62 (by omega) (by omega)]⟩
      refine ⟨n2.symm, cont σ2 ⟨s, im, b, N + a0, T', rf, ⟨hM.1, hM.2.1, hM.2.2.1, by omega, hM.up.2.2.2.2⟩, ?_, ?_, hS.fx fx⟩ fx⟩
      · obtain ⟨x1, x2, x3, x4, x5, x6⟩ := hC
        exact ⟨x1.keep (fun g hg _ => by rw [k2 g (by omega) (by omega), k1 g (by omega) (by omega)]), fun hb => (x2 hb).keep (fun g hg _ => by rw [k2 g (by omega) (by omega), k1 g (by omega) (by omega)]), by rw [k2 0 (by omega) (by omega), k1 0 (by omega) (by omega)]; exact x3, by rw [k2 12 (by omega) (by omega)]; exact n1, fun j hj => by rw [k2 13 (by omega) (by omega)]; exact t1 j hj, fun j hj => by rw [k2 33 (by omega) (by omega), k1 33 (by omega) (by omega)]; exact x6 j hj⟩
      · obtain ⟨x1, x2, x3, x4, x5, x6, x7⟩ := hR1
        exact ⟨by rw [k2 36 (by omega) (by omega)]; exact x1, fun hb => by rw [k2 37 (by omega) (by omega)]; exact x2 hb, fun j hj => by rw [k2 37 (by omega) (by omega), k2 38 (by omega) (by omega)]; exact x3 j hj, by rw [f2 4 (by omega)]; exact x4, n2, t2, fun j hj => by rw [k2 35 (by omega) (by omega)]; exact x7 j hj⟩
    · obtain ⟨k2, f2, n2, t2⟩ := hI2
      refine gX11_feed_39 a0 i x σ2 ⟨fun q => absurd q (by omega), fun _ => ?_⟩
      rw [n2]
      refine ⟨by omega, by omega, by omega, by omega, fun σ3 e3 => nx σ3 ⟨fun g h1 h2 => ?_, fun j hj => ?_, ?_, fun j hj => ?_⟩⟩
      · rw [e3]
        funext i'
        rw [zup_ne (by intro q; cases q; exact h1 rfl), zup_ne (by intro q; cases q; exact h2 rfl)]
        rw [k2 g h1 h2]
      · rw [e3]; simp [zup, hj]; exact f2 j hj
      · rw [e3]; simp [zup]; omega
      · have hby := byte_eq x i.toNat (by omega)
        rw [Int.toNat_of_nonneg i0] at hby
        rw [← hby, ← Int.toNat_of_nonneg i0, bye] at e3
        by_cases q : j = (N + i).toNat
        · rw [e3, hT', q, Int.toNat_of_nonneg i0]
          dsimp only
          rw [if_neg (by omega), show (N + i).toNat - N.toNat = i.toNat by omega]
          simp [zup]
        · rw [e3, Int.toNat_of_nonneg i0]
          simp [zup, q]
          exact t2 j (by omega)
  · obtain ⟨k1, n1, t1⟩ := hI
    refine gX10_feed_42 a0 i x σ1 ⟨fun q => absurd q (by omega), fun _ => ?_⟩
    rw [n1]
    refine ⟨by omega, by omega, fun σ2 e2 => ⟨by omega, nx σ2 ⟨fun g h1 h2 => ?_, ?_, fun j hj => ?_⟩⟩⟩
    · rw [e2]
      funext i'
      rw [zup_ne (by intro q; cases q; exact h1 rfl), zup_ne (by intro q; cases q; exact h2 rfl)]
      rw [k1 g h1 h2]
    · rw [e2]; simp [zup]; omega
    · rw [← Int.toNat_of_nonneg i0, bye, Int.toNat_of_nonneg i0] at e2
      by_cases q : j = (N + i).toNat
      · rw [e2, hT', q]
        dsimp only
        rw [if_neg (by omega), show (N + i).toNat - N.toNat = i.toNat by omega]
        simp [zup]
      · rw [e2]
        simp [zup, q]
        exact t1 j (by omega)
theorem upF_5 {B : Int → Int} {N : Int} : ∀ (f : Nat) (p c : Int) (r : Nat → Int), 0 ≤ p → WF r → (N ≤ p ∨ 0 ≤ swF B N f p c) → (upF B N f p r).2 5 = r 5
  | 0, _, _, _, _, _, _ => rfl
  | f + 1, p, c, r, hp, hw, hs => by
    unfold upF
    by_cases q : N ≤ p
    · rw [if_pos q]
    · rw [if_neg q]
      obtain ⟨x1, x2, x3, x4, x5⟩ := swF_step (hs.resolve_left q) hp
      by_cases z : cOK (B p) (stF B p).2.2.1 (stF B p).2.2.2.1 (stF B p).2.2.2.2.1 (stF B p).2.2.2.2.2 r
      · rw [if_pos z]
        have s := hs.resolve_left q
        rw [upF_5 f (stF B p).2.1 (c + 1) _ (by omega) (WF_cRes hw x4 z) (by
          rcases x5 with y | y
          · exact Or.inl y.1
          · exact Or.inr (by rw [← y.2]; exact s))]
        unfold cRes
        rcases z with ⟨h1, h2, h3, h4⟩ | ⟨h1, h2, h3, h4, h5⟩ | ⟨h1, h2, h3, h4, h5⟩ | ⟨h1, h2, h3⟩
        · rw [if_pos h1, su_ne (by omega)]
        · rw [if_neg (by omega), if_pos h1, pst_hi hw h5 (Or.inr (by omega))]
        · rw [if_neg (by omega), if_neg (by omega), if_pos h1, per_lo hw h5 (Or.inl (by omega))]
        · rw [if_neg (by omega), if_neg (by omega), if_neg (by omega), su_ne (by omega)]
      · rw [if_neg z]
theorem pr_town (hG : Good k σ) (hk : k < 1000) : Pr2 k σ 6 mX10_town [zR 0 0, zU] 4 mX11_town [zR 34 0, zU] := by
  intro K2 cont
  obtain ⟨s, im, b, N, T, rf, hM, hC, hR, hS⟩ := hG
  have hN := hM.2.2.2.1
  have hw := hM.1.1
  have B := byB T N
  have eqB : ∀ (A : Nat → Int), (∀ i : Nat, (i : Int) < N → A i = T i) → ∀ q, 0 ≤ q → byB A N q = byB T N q := fun A hA q hq => by
    unfold byB
    by_cases y : 0 ≤ q ∧ q < N
    · rw [if_pos y, if_pos y]; exact hA q.toNat (by omega)
    · rw [if_neg y, if_neg y]
  refine gX10_town_0 σ (qX3_readInto (B := byB T N) (N := N) hN hC.2.2.2.1 (fun q hq => ?_) hC.1 hw (fun σ1 o1 k1 t1 => ?_))
  · have : zbyte σ q = byB (σ 13 0) (σ 12 0 1) q := rfl
    rw [this, hC.2.2.2.1]
    exact eqB _ hC.2.2.2.2.1 q hq
  · generalize hσ2 : zup σ1 12 0 1 0 = σ2
    have c12 : ∀ g, g ≠ 12 → σ2 g = σ1 g := fun g hg => by
      rw [← hσ2]
      funext i'
      rw [zup_ne (by intro q; cases q; exact hg rfl)]
    have oh : ∀ g, g = 0 ∨ g = 13 ∨ 33 ≤ g → σ2 g = σ g := fun g hg => by rw [c12 g (by omega), o1 g (by intro q; simp at q; omega)]
    have hR1 : RPt σ2 s im b N T rf := hR.keep (fun g h1 _ => oh g (by omega))
    have rd := rdF_ok (B := byB T N) (N := N) hw hM.1.2.1
    have r5 : (rdF (byB T N) N s).2 5 = 0 := by
      unfold rdF
      by_cases q : swF (byB T N) N 65 0 0 < 0
      · rw [if_pos q]; exact hM.1.2.2
      · rw [if_neg q]
        by_cases z : (upF (byB T N) N 65 0 s).1 < 0
        · rw [if_pos z]; exact hM.1.2.2
        · rw [if_neg z, upF_5 65 0 0 s (Int.le_refl 0) hw (Or.inr (by omega))]
          exact hM.1.2.2
    refine gX11_town_0 σ2 (qX11_reads (B := byB T N) (N := N) (r := s) hN hR1.2.2.2.2.1 (fun q hq => ?_) hR1.1 hw hM.1.2.1 (fun j hj => (hR1.2.2.1 j hj).2) (fun σ3 o3 e36 e38 => ⟨rfl, ?_⟩))
    · rw [hR1.2.2.2.2.1]
      exact eqB _ hR1.2.2.2.2.2.1 q hq
    · generalize hσ4 : zup σ3 34 0 7 0 = σ4
      have c34 : ∀ g, g ≠ 34 → σ4 g = σ3 g := fun g hg => by
        rw [← hσ4]
        funext i'
        rw [zup_ne (by intro q; cases q; exact hg rfl)]
      have ol : ∀ g, g < 34 ∨ g = 35 ∨ g = 37 ∨ g = 39 ∨ 52 ≤ g → σ4 g = σ2 g := fun g hg => by rw [c34 g (by omega), o3.1 g (by intro q; simp at q; omega)]
      have fx : Fx σ σ4 := ⟨by rw [ol 60 (by omega), oh 60 (by omega)], by rw [ol 61 (by omega), oh 61 (by omega)], by rw [ol 62 (by omega), oh 62 (by omega)]⟩
      refine cont σ4 ⟨(rdF (byB T N) N s).2, im, b, 0, T, rf, ⟨⟨rd.1, rd.2, r5⟩, hM.2.1, hM.2.2.1, by omega, hM.up.2.2.2.2⟩, ?_, ?_, hS.fx fx⟩ fx
      · refine ⟨t1.keep (fun g hg h0 => by
          by_cases q : g = 12
          · omega
          · rw [ol g (by omega), c12 g q]), fun hb => (hC.2.1 hb).keep (fun g hg _ => ?_), by rw [ol 0 (by omega), oh 0 (by omega)]; exact hC.2.2.1, ?_, fun i hi => absurd hi (by omega), fun j hj => by rw [ol 33 (by omega), oh 33 (by omega)]; exact hC.2.2.2.2.2 j hj⟩
        · have := k1 g hg
          rw [ol g (by omega), c12 g (by omega)]
          exact this
        · rw [ol 12 (by omega), ← hσ2]; simp [zup]
      · refine ⟨by rw [c34 36 (by omega)]; exact e36, fun hb => by rw [ol 37 (by omega)]; exact hR1.2.1 hb, fun j hj => ⟨by rw [ol 37 (by omega)]; exact (hR1.2.2.1 j hj).1, by rw [c34 38 (by omega)]; exact e38 j hj⟩, ?_, ?_, fun i hi => absurd hi (by omega), fun j hj => by rw [ol 35 (by omega)]; exact hR1.2.2.2.2.2.2 j hj⟩
        · rw [← hσ4]
          simp [zup]
          rw [o3.2 4 (by decide)]
          exact hR1.2.2.2.1
        · rw [← hσ4]; simp [zup]
theorem TW_su {σ' : Hp} {s : Nat → Int} (h : TW σ 0 s) {kk : Nat} {v : Int} (hk : kk = 3 ∨ kk = 4 ∨ (7 ≤ kk ∧ kk ≤ 10)) (hg : ∀ g, g < 12 → g ≠ 1 → g ≠ 11 → σ' g 0 = σ g 0) (h1 : ∀ j, j < 7 → σ' 1 0 j = if (j = 6 ∧ kk = 3) ∨ (j = 5 ∧ kk = 4) then v else σ 1 0 j) (h11 : ∀ j, j < 4 → σ' 11 0 j = if 7 + j = kk then v else σ 11 0 j) : TW σ' 0 (su s kk v) := by
  obtain ⟨g1, g2, g3, g4, g5, g6⟩ := h
  have a0 := h1 0 (by omega); have a1 := h1 1 (by omega); have a2 := h1 2 (by omega); have a3 := h1 3 (by omega); have a4 := h1 4 (by omega); have a5 := h1 5 (by omega); have a6 := h1 6 (by omega)
  rw [if_neg (by omega)] at a0 a1 a2 a3 a4
  unfold TW
  rw [a0, a1, a2, a3, a4, hg 2 (by omega) (by omega) (by omega), hg 3 (by omega) (by omega) (by omega), hg 4 (by omega) (by omega) (by omega), hg 5 (by omega) (by omega) (by omega), hg 6 (by omega) (by omega) (by omega), hg 7 (by omega) (by omega) (by omega), hg 8 (by omega) (by omega) (by omega), hg 9 (by omega) (by omega) (by omega), hg 10 (by omega) (by omega) (by omega), su_ne (show 0 ≠ kk by omega), su_ne (show 1 ≠ kk by omega), su_ne (show 2 ≠ kk by omega), su_ne (show 6 ≠ kk by omega)]
  refine ⟨⟨g1.1, g1.2.1, g1.2.2.1, g1.2.2.2.1, ?_, ?_⟩, g2, fun x hx => ?_, fun x hx => ?_, fun i hi => ?_, fun j hj => ?_⟩
  · rw [a5]
    by_cases q : kk = 4
    · rw [if_pos (Or.inr ⟨rfl, q⟩), q, su_eq]
    · rw [if_neg (by omega), su_ne (by omega)]; exact g1.2.2.2.2.1
  · rw [a6]
    by_cases q : kk = 3
    · rw [if_pos (Or.inl ⟨rfl, q⟩), q, su_eq]
    · rw [if_neg (by omega), su_ne (by omega)]; exact g1.2.2.2.2.2
  · rw [sg_su (by omega) (by omega) (by omega), sg_su (by omega) (by omega) (by omega), sg_su (by omega) (by omega) (by omega), sg_su (by omega) (by omega) (by omega), sg_su (by omega) (by omega) (by omega)]
    exact g3 x hx
  · rw [se_su (by omega) (by omega) (by omega), se_su (by omega) (by omega) (by omega), se_su (by omega) (by omega) (by omega), se_su (by omega) (by omega) (by omega)]
    exact g4 x hx
  · rw [su_ne (by omega)]; exact g5 i hi
  · rw [h11 j hj]
    by_cases q : 7 + j = kk
    · rw [if_pos q, q, su_eq]
    · rw [if_neg q, su_ne q]; exact g6 j hj
theorem WF_set {s : Nat → Int} (hw : WF s) {kk : Nat} {v : Int} (h : (kk = 3 ∧ 0 ≤ v ∧ v < 16384) ∨ (kk = 4 ∧ 0 ≤ v ∧ v < 16384) ∨ (kk = 7 ∧ 0 ≤ v ∧ v ≤ 1439) ∨ (kk = 8 ∧ 0 ≤ v ∧ v ≤ 4) ∨ (kk = 9 ∧ 10 ≤ v ∧ v ≤ 720) ∨ (kk = 10 ∧ 0 ≤ v ∧ v ≤ 9)) : WF (su s kk v) := by
  obtain ⟨w0, w1, w2, w3, w4, w5, w6, w7, w8, w9, w10, wst, wer, wrow⟩ := hw
  have hk : 0 < kk ∧ kk < 11 := by omega
  have e0 : su s kk v 0 = s 0 := su_ne (by omega)
  have e1 : su s kk v 1 = s 1 := su_ne (by omega)
  have e2 : su s kk v 2 = s 2 := su_ne (by omega)
  have e5 : su s kk v 5 = s 5 := su_ne (by omega)
  have e6 : su s kk v 6 = s 6 := su_ne (by omega)
  have f3 : 0 ≤ su s kk v 3 ∧ su s kk v 3 < 16384 := by unfold su; split <;> omega
  have f4 : 0 ≤ su s kk v 4 ∧ su s kk v 4 < 16384 := by unfold su; split <;> omega
  have f7 : 0 ≤ su s kk v 7 ∧ su s kk v 7 ≤ 1439 := by unfold su; split <;> omega
  have f8 : 0 ≤ su s kk v 8 ∧ su s kk v 8 ≤ 4 := by unfold su; split <;> omega
  have f9 : 10 ≤ su s kk v 9 ∧ su s kk v 9 ≤ 720 := by unfold su; split <;> omega
  have f10 : 0 ≤ su s kk v 10 ∧ su s kk v 10 ≤ 9 := by unfold su; split <;> omega
  refine ⟨by rw [e0]; exact w0, by rw [e1]; exact w1, by rw [e2]; exact w2, f3, f4, by rw [e5]; exact w5, by rw [e6]; exact w6, f7, f8, f9, f10, fun t h0 h1 => ?_, fun e h0 h1 => ?_, fun i hi => ?_⟩
  · rw [e1] at h1; exact stOK_su hk h0 (wst t h0 h1)
  · rw [e2] at h1; exact erOK_su hk h0 (wer e h0 h1)
  · rw [e6] at hi; rw [su_ne (by omega)]; exact wrow i hi
/-- a number of the town put otherwise by both -/
theorem put_both {s im : Nat → Int} {b N : Int} {T rf : Nat → Int} (hM : MWf k s im b N rf) (hC : CPt σ s im b N T rf) (hR : RPt σ s im b N T rf) (hS : STt σ) {kk : Nat} {v : Int} (h : (kk = 3 ∧ 0 ≤ v ∧ v < 16384) ∨ (kk = 4 ∧ 0 ≤ v ∧ v < 16384) ∨ (kk = 7 ∧ 0 ≤ v ∧ v ≤ 1439) ∨ (kk = 8 ∧ 0 ≤ v ∧ v ≤ 4) ∨ (kk = 9 ∧ 10 ≤ v ∧ v ≤ 720) ∨ (kk = 10 ∧ 0 ≤ v ∧ v ≤ 9))
    {σ1 : Hp} (hσ1 : σ1 = zup σ (if kk < 7 then 1 else 11) 0 (if kk = 3 then 6 else if kk = 4 then 5 else kk - 7) v) : RPt σ1 s im b N T rf ∧ ∀ σ2, σ2 = zup σ1 36 0 kk v → Good (k + 1) σ2 ∧ Fx σ σ2 := by
  have k1 : ∀ g i, (g ≠ 1 ∧ g ≠ 11) ∨ i ≠ 0 → σ1 g i = σ g i := fun g i hg => by
    rw [hσ1]
    refine zup_ne ?_
    intro q
    by_cases y : kk < 7
    · rw [if_pos y] at q; cases q; omega
    · rw [if_neg y] at q; cases q; omega
  have kf : ∀ g, g ≠ 1 ∧ g ≠ 11 → σ1 g = σ g := fun g hg => funext (fun i => k1 g i (Or.inl hg))
  have hR1 : RPt σ1 s im b N T rf := hR.keep (fun g h1 _ => kf g (by omega))
  refine ⟨hR1, fun σ2 e2 => ?_⟩
  have k2 : ∀ g, g ≠ 36 → σ2 g = σ1 g := fun g hg => by
    rw [e2]
    funext i'
    rw [zup_ne (by intro q; cases q; exact hg rfl)]
  have fx : Fx σ σ2 := ⟨by rw [k2 60 (by omega), kf 60 (by omega)], by rw [k2 61 (by omega), kf 61 (by omega)], by rw [k2 62 (by omega), kf 62 (by omega)]⟩
  have hk : kk < 11 := by omega
  refine ⟨⟨su s kk v, im, b, N, T, rf, ⟨⟨WF_set hM.1.1 h, fun j hj => by rw [su_ne (by omega)]; exact hM.1.2.1 j hj, by rw [su_ne (by omega)]; exact hM.1.2.2⟩, hM.2.1, hM.2.2.1, hM.2.2.2.1, hM.up.2.2.2.2⟩, ?_, ?_, hS.fx fx⟩, fx⟩
  · obtain ⟨c1, c2, c3, c4, c5, c6⟩ := hC
    refine ⟨TW_su c1 (by omega) (fun g hg h1 h11 => by rw [k2 g (by omega), k1 g 0 (Or.inl ⟨h1, h11⟩)]) (fun j hj => ?_) (fun j hj => ?_), fun hb => (c2 hb).keep (fun g hg _ => by rw [k2 g (by omega), k1 g 1 (Or.inr (by omega))]), by rw [k2 0 (by omega), kf 0 (by omega)]; exact c3, by rw [k2 12 (by omega), kf 12 (by omega)]; exact c4, fun i hi => by rw [k2 13 (by omega), kf 13 (by omega)]; exact c5 i hi, fun i hi => by rw [k2 33 (by omega), kf 33 (by omega)]; exact c6 i hi⟩
    · rw [k2 1 (by omega), hσ1]
      have : kk = 3 ∨ kk = 4 ∨ 7 ≤ kk := by omega
      rcases this with rfl | rfl | y
      · by_cases q : j = 6 <;> simp [zup, q]
      · by_cases q : j = 5 <;> simp [zup, q]
      · rw [if_neg (by omega), if_neg (by omega), if_neg (show ¬ ((j = 6 ∧ kk = 3) ∨ (j = 5 ∧ kk = 4)) by omega)]
        rw [zup_ne (by intro q; cases q)]
    · rw [k2 11 (by omega), hσ1]
      by_cases y : kk < 7
      · rw [if_pos y, if_neg (show ¬ 7 + j = kk by omega)]
        rw [zup_ne (by intro q; cases q)]
      · rw [if_neg y, if_neg (show ¬ kk = 3 by omega), if_neg (show ¬ kk = 4 by omega)]
        by_cases q : 7 + j = kk
        · rw [if_pos q, show kk - 7 = j by omega]; simp [zup]
        · rw [if_neg q]
          have hne : j ≠ kk - 7 := by omega
          simp [zup, hne]
  · obtain ⟨c1, c2, c3, c4, c5, c6, c7⟩ := hR1
    refine ⟨by rw [e2, zup_su, c1], fun hb => by rw [k2 37 (by omega)]; exact c2 hb, fun i hi => by rw [k2 37 (by omega), k2 38 (by omega)]; exact c3 i hi, by rw [k2 34 (by omega)]; exact c4, by rw [k2 34 (by omega)]; exact c5, fun i hi => by rw [k2 39 (by omega)]; exact c6 i hi, fun i hi => by rw [k2 35 (by omega)]; exact c7 i hi⟩
theorem pr_point (hG : Good k σ) (hk : k < 1000) : Pr2 k σ 1 mX10_point [zR 0 0, zI a0, zU] 1 mX11_point [zR 34 0, zI a0] := by
  intro K2 cont
  obtain ⟨s, im, b, N, T, rf, hM, hC, hR, hS⟩ := hG
  have hw := hM.1.1
  have sb := shl_b hw.2.1
  have e1 : σ 1 0 1 = s 1 := hC.1.1.2.1
  refine gX10_point_0 a0 σ ⟨fun c => leaf_ref hM hC hR hS hk (by omega) cont (fun σ1 K3 r1 l => gX11_point_0 a0 σ1 ⟨fun c2 => absurd c2.1 (by omega), fun _ => l⟩), fun c => ⟨fun c2 => ?_, fun c2 => leaf_ref hM hC hR hS hk (by omega) cont (fun σ1 K3 r1 l => gX11_point_0 a0 σ1 ⟨fun c3 => absurd (by rw [e1, ← r1.1]; exact c3.2) c2, fun _ => l⟩)⟩⟩
  rw [e1] at c2
  obtain ⟨hR1, fin⟩ := put_both hM hC hR hS (kk := 3) (v := a0) (by omega) (σ1 := zup σ 1 0 6 a0) rfl
  refine gX11_point_0 a0 _ ⟨fun _ σ2 e2 => ?_, fun c3 => absurd (by rw [hR1.1]; omega) c3⟩
  obtain ⟨q1, q2⟩ := fin σ2 e2
  refine ⟨?_, cont σ2 q1 q2⟩
  rw [hR1.1]
  exact hC.1.cs.2.2.2.1
theorem pr_shut (hG : Good k σ) (hk : k < 1000) (h1 : a1 = 0 ∨ a1 = 1) : Pr2 k σ 1 mX10_shut [zR 0 0, zI a0, zI a1, zU] 2 mX11_shut [zR 34 0, zI a0, zI a1, zU] := by
  intro K2 cont
  obtain ⟨s, im, b, N, T, rf, hM, hC, hR, hS⟩ := hG
  have hw := hM.1.1
  have w1 := hw.2.1
  have w4 := hw.2.2.2.2.1
  have e1 : σ 1 0 1 = s 1 := hC.1.1.2.1
  have e5 : σ 1 0 5 = s 4 := hC.1.cs.2.2.1
  have b01 := bitz_01 (s 4) a0
  have zx0 : zxor (s 4) 0 = s 4 := by
    rw [zxor_nat (by omega) (by omega), show (0 : Int).toNat = 0 from rfl, Nat.xor_zero]
    omega
  have idc : (zup σ 1 0 5 (s 4)) = σ := zup_id e5.symm
  -- no change
  have same : (0 ≤ a0 ∧ a0 < s 1) → bitz (s 4) a0 = a1 → Runs 2 mX11_shut 0 [zR 34 0, zI a0, zI a1, zU] [] σ (rI (fun z2 σ2 => 0 = z2 ∧ K2 σ2)) := fun h0 hb => by
    have q := qfin hM hC hR hS (Off.rf : Off GC σ σ) (RQ.rf_ : RQ σ σ)
    refine gX11_shut_0 a0 a1 σ ⟨fun _ => ?_, fun c => absurd (by rw [hR.1]; exact h0) c⟩
    rw [hR.1, hb]
    exact ⟨fun c => ⟨fun c2 => ⟨fun c3 => absurd c2 c3, fun _ => ⟨rfl, cont σ q.1 q.2⟩⟩, fun c2 => absurd (by omega) c2⟩, fun c => ⟨fun c2 => ⟨fun c3 => absurd c2 c3, fun _ => ⟨rfl, cont σ q.1 q.2⟩⟩, fun c2 => absurd (by omega) c2⟩⟩
  have chg : (0 ≤ a0 ∧ a0 < s 1) → bitz (s 4) a0 ≠ a1 → Runs 2 mX11_shut 0 [zR 34 0, zI a0, zI a1, zU] [] (zup σ 1 0 5 (zxor (s 4) (zshl 1 a0))) (rI (fun z2 σ2 => 1 = z2 ∧ K2 σ2)) := fun h0 hb => by
    have xl := xb_lt w4 (t := a0) (by omega)
    unfold xb at xl
    obtain ⟨hR1, fin⟩ := put_both hM hC hR hS (kk := 4) (v := zxor (s 4) (zshl 1 a0)) (by omega) (σ1 := zup σ 1 0 5 (zxor (s 4) (zshl 1 a0))) rfl
    refine gX11_shut_0 a0 a1 _ ⟨fun _ => ?_, fun c => absurd (by rw [hR1.1]; exact h0) c⟩
    rw [hR1.1]
    obtain ⟨q1, q2⟩ := fin _ rfl
    exact ⟨fun c => ⟨fun c2 => absurd c2 (by omega), fun c2 => ⟨fun _ => ⟨rfl, cont _ q1 q2⟩, fun c3 => absurd c3 c2⟩⟩, fun c => ⟨fun c2 => absurd c2 (by omega), fun c2 => ⟨fun _ => ⟨rfl, cont _ q1 q2⟩, fun c3 => absurd c3 c2⟩⟩⟩
  refine gX10_shut_0 a0 a1 σ ⟨fun c => ?_, fun c => leaf_ref hM hC hR hS hk (by omega) cont (fun σ1 K3 r1 l => gX11_shut_0 a0 a1 σ1 ⟨fun c3 => absurd (by rw [e1, ← r1.1]; exact c3) c, fun _ => l⟩)⟩
  rw [e1] at c
  rw [e5, zx0, idc]
  refine ⟨fun c2 => ⟨fun c3 => ⟨fun _ => chg c (by omega), fun c4 => absurd c4 c3⟩, fun c3 => ⟨fun c4 => absurd c3 c4, fun _ => same c (by omega)⟩⟩, fun c2 => ⟨fun c3 => ⟨fun _ => chg c (by omega), fun c4 => absurd c4 c3⟩, fun c3 => ⟨fun c4 => absurd c3 c4, fun _ => same c (by omega)⟩⟩⟩
theorem pr_set (hG : Good k σ) (hk : k < 1000) : Pr2 k σ 1 mX10_set [zR 0 0, zI a0, zI a1, zU] 1 mX11_set [zR 34 0, zI a0, zI a1, zU] := by
  intro K2 cont
  obtain ⟨s, im, b, N, T, rf, hM, hC, hR, hS⟩ := hG
  have hw := hM.1.1
  have no : ∀ n : Int, n = -2 → ¬ (0 ≤ a0 ∧ a0 < 4) → (-6 ≤ n ∧ n ≤ -1) ∧ (σ 33 0 (-n).toNat ≤ 2147483646) ∧ ∀ σ1 : Hp, σ1 = zup σ 33 0 (-n).toNat (σ 33 0 (-n).toNat + 1) → rI (fun z1 σ1 => Runs 1 mX11_set 0 [zR 34 0, zI a0, zI a1, zU] [] σ1 (rI (fun z2 σ2 => z1 = z2 ∧ K2 σ2))) (some n) σ1 := fun n hn h => leaf_ref hM hC hR hS hk (by omega) cont (fun σ1 K3 r1 l => gX11_set_0 a0 a1 σ1 ⟨fun c => absurd c h, fun _ => by rw [hn] at l; exact l⟩)
  have lo : (if a0 = 2 then 10 else 0) = (if a0 = 2 then (10 : Int) else 0) := rfl
  -- refused by its number
  have rfs : ∀ n : Int, (-6 ≤ n ∧ n ≤ -1) → (0 ≤ a0 ∧ a0 < 4) → zwithin a1 (if a0 = 2 then 10 else 0) (zmost a0) = n → (-6 ≤ n ∧ n ≤ -1) ∧ (σ 33 0 (-n).toNat ≤ 2147483646) ∧ ∀ σ1 : Hp, σ1 = zup σ 33 0 (-n).toNat (σ 33 0 (-n).toNat + 1) → rI (fun z1 σ1 => Runs 1 mX11_set 0 [zR 34 0, zI a0, zI a1, zU] [] σ1 (rI (fun z2 σ2 => z1 = z2 ∧ K2 σ2))) (some n) σ1 := fun n hn h0 hz => leaf_ref hM hC hR hS hk hn cont (fun σ1 K3 r1 l => gX11_set_0 a0 a1 σ1 ⟨fun _ => ⟨fun c => by
      rw [if_neg c] at hz
      exact ⟨fun c2 => absurd c2 (by omega), fun _ => by rw [hz]; exact l⟩, fun c => by
      rw [if_pos c] at hz
      exact ⟨fun c2 => absurd c2 (by omega), fun _ => by rw [hz]; exact l⟩⟩, fun c => absurd h0 c⟩)
  obtain ⟨⟨s0, s1, s2, s3⟩, g0, g1, g2, g3⟩ := hS
  have hS' : STt σ := ⟨⟨s0, s1, s2, s3⟩, g0, g1, g2, g3⟩
  have e61 : (0 ≤ a0 ∧ a0 < 4) → σ 61 0 a0.toNat = (if a0 = 2 then 10 else 0) ∧ σ 62 0 a0.toNat = zmost a0 := fun h0 => by
    have hc : a0 = 0 ∨ a0 = 1 ∨ a0 = 2 ∨ a0 = 3 := by omega
    unfold zmost
    rcases hc with rfl | rfl | rfl | rfl
    · exact ⟨s0, g0⟩
    · exact ⟨s1, g1⟩
    · exact ⟨s2, g2⟩
    · exact ⟨s3, g3⟩
  have hz := zw a1 (if a0 = 2 then 10 else 0) (zmost a0)
  refine gX10_set_0 a0 a1 σ ⟨fun c => no (-2) rfl (by omega), fun c => ⟨fun c2 => ⟨by omega, fun c3 => ⟨by omega, fun c4 => ⟨by omega, by omega, ?_⟩, fun c4 => ?_⟩, fun c3 => ?_⟩, fun c2 => no (-2) rfl (by omega)⟩⟩
  · rw [(e61 (by omega)).1] at c3
    rw [(e61 (by omega)).2] at c4
    have zm : zmost a0 = if a0 = 0 then 1439 else if a0 = 1 then 4 else if a0 = 2 then 720 else 9 := rfl
    have hc : a0 = 0 ∨ a0 = 1 ∨ a0 = 2 ∨ a0 = 3 := by omega
    have ok : ((7 + a0).toNat = 3 ∧ 0 ≤ a1 ∧ a1 < 16384) ∨ ((7 + a0).toNat = 4 ∧ 0 ≤ a1 ∧ a1 < 16384) ∨ ((7 + a0).toNat = 7 ∧ 0 ≤ a1 ∧ a1 ≤ 1439) ∨ ((7 + a0).toNat = 8 ∧ 0 ≤ a1 ∧ a1 ≤ 4) ∨ ((7 + a0).toNat = 9 ∧ 10 ≤ a1 ∧ a1 ≤ 720) ∨ ((7 + a0).toNat = 10 ∧ 0 ≤ a1 ∧ a1 ≤ 9) := by
      rw [zm] at c4
      rcases hc with q | q | q | q <;> simp [q] at c3 c4 ⊢ <;> omega
    obtain ⟨hR1, fin⟩ := put_both hM hC hR hS' (kk := (7 + a0).toNat) (v := a1) ok (σ1 := zup σ 11 0 a0.toNat a1) (by
      rw [if_neg (by omega), if_neg (by omega), if_neg (by omega), show (7 + a0).toNat - 7 = a0.toNat by omega])
    have hval : σ 11 0 a0.toNat = s (7 + a0).toNat := by
      rw [hC.1.cs.1 a0.toNat (by omega), show 7 + a0.toNat = (7 + a0).toNat by omega]
    have z0 : zwithin a1 (if a0 = 2 then 10 else 0) (zmost a0) = 0 := by omega
    refine gX11_set_0 a0 a1 _ ⟨fun _ => ⟨fun c5 => ?_, fun c5 => ?_⟩, fun c5 => absurd (by omega) c5⟩
    · rw [if_neg c5] at z0
      refine ⟨fun _ => ⟨by omega, by omega, fun σ2 e2 => ?_⟩, fun c6 => absurd z0 c6⟩
      obtain ⟨q1, q2⟩ := fin σ2 e2
      rw [hR1.1]
      exact ⟨hval, cont σ2 q1 q2⟩
    · rw [if_pos c5] at z0
      refine ⟨fun _ => ⟨by omega, by omega, fun σ2 e2 => ?_⟩, fun c6 => absurd z0 c6⟩
      obtain ⟨q1, q2⟩ := fin σ2 e2
      rw [hR1.1]
      exact ⟨hval, cont σ2 q1 q2⟩
  · rw [(e61 (by omega)).1] at c3
    rw [(e61 (by omega)).2] at c4
    exact rfs (-6) (by omega) (by omega) (by omega)
  · rw [(e61 (by omega)).1] at c3
    exact rfs (-4) (by omega) (by omega) (by omega)
end Pairs3
