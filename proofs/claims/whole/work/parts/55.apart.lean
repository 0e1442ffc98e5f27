/-! pairs of corners apart, the farthest, the first -/
def AP (D : Nat → Nat → Int) (a b : Nat) : Prop := a ≠ b ∧ 1000000 ≤ D a b
noncomputable def cR (D : Nat → Nat → Int) (a : Nat) : Nat → Int
  | 0 => 0
  | b + 1 => cR D a b + (if a ≠ b ∧ 1000000 ≤ D a b then 1 else 0)
noncomputable def cA (D : Nat → Nat → Int) (n : Nat) : Nat → Int
  | 0 => 0
  | a + 1 => cA D n a + cR D a n
theorem cR_b (D : Nat → Nat → Int) (a : Nat) : ∀ b : Nat, (0 ≤ cR D a b ∧ cR D a b ≤ b) ∧ (cR D a b = 0 ↔ ∀ b', b' < b → ¬ AP D a b')
  | 0 => ⟨by unfold cR; omega, ⟨fun _ b' hb => absurd hb (by omega), fun _ => rfl⟩⟩
  | b + 1 => by
    obtain ⟨h1, h2⟩ := cR_b D a b
    unfold cR
    by_cases q : a ≠ b ∧ 1000000 ≤ D a b
    · rw [if_pos q]
      refine ⟨by omega, ⟨fun z => by omega, fun z => absurd q (z b (by omega))⟩⟩
    · rw [if_neg q]
      refine ⟨by omega, ⟨fun z b' hb => ?_, fun z => ?_⟩⟩
      · by_cases e : b' = b
        · rw [e]; exact q
        · exact h2.mp (by omega) b' (by omega)
      · have := h2.mpr (fun b' hb => z b' (by omega))
        omega
theorem cA_b (D : Nat → Nat → Int) (n : Nat) : ∀ a : Nat, (0 ≤ cA D n a ∧ cA D n a ≤ n * a) ∧ (cA D n a = 0 ↔ ∀ a' b', a' < a → b' < n → ¬ AP D a' b')
  | 0 => ⟨by unfold cA; omega, ⟨fun _ a' b' ha => absurd ha (by omega), fun _ => rfl⟩⟩
  | a + 1 => by
    obtain ⟨h1, h2⟩ := cA_b D n a
    obtain ⟨g1, g2⟩ := cR_b D a n
    have e : (n : Int) * ((a + 1 : Nat) : Int) = (n : Int) * (a : Int) + n := by rw [show ((a + 1 : Nat) : Int) = (a : Int) + 1 by omega, Int.mul_add, Int.mul_one]
    unfold cA
    refine ⟨by rw [e]; omega, ⟨fun z a' b' ha hb => ?_, fun z => ?_⟩⟩
    · by_cases q : a' = a
      · rw [q]; exact g2.mp (by omega) b' hb
      · exact h2.mp (by omega) a' b' (by omega) hb
    · have x1 := h2.mpr (fun a' b' ha hb => z a' b' (by omega) hb)
      have x2 := g2.mpr (fun b' hb => z a b' (by omega) hb)
      omega
noncomputable def mR (D : Nat → Nat → Int) (a : Nat) : Nat → Int → Int
  | 0, v => v
  | b + 1, v => if a ≠ b ∧ mR D a b v < D a b then D a b else mR D a b v
noncomputable def mA (D : Nat → Nat → Int) (n : Nat) : Nat → Int
  | 0 => 0
  | a + 1 => mR D a n (mA D n a)
theorem cR_congr {D E : Nat → Nat → Int} {n a : Nat} (h : ∀ b, b < n → a ≠ b → D a b = E a b) : ∀ b : Nat, b ≤ n → cR D a b = cR E a b
  | 0, _ => rfl
  | b + 1, hb => by
    have ih := cR_congr h b (by omega)
    unfold cR
    rw [ih]
    by_cases q : a = b
    · rw [if_neg (fun z => z.1 q), if_neg (fun z => z.1 q)]
    · rw [h b (by omega) q]
theorem cA_congr {D E : Nat → Nat → Int} {n : Nat} (h : ∀ a b, a < n → b < n → a ≠ b → D a b = E a b) : ∀ a : Nat, a ≤ n → cA D n a = cA E n a
  | 0, _ => rfl
  | a + 1, ha => by
    unfold cA
    rw [cA_congr h a (by omega), cR_congr (fun b hb => h a b (by omega) hb) n (Nat.le_refl _)]
theorem mR_congr {D E : Nat → Nat → Int} {n a : Nat} (h : ∀ b, b < n → a ≠ b → D a b = E a b) : ∀ (b : Nat) (v : Int), b ≤ n → mR D a b v = mR E a b v
  | 0, _, _ => rfl
  | b + 1, v, hb => by
    have ih := mR_congr h b v (by omega)
    unfold mR
    rw [ih]
    by_cases q : a = b
    · rw [if_neg (fun z => z.1 q), if_neg (fun z => z.1 q)]
    · rw [h b (by omega) q]
theorem mA_congr {D E : Nat → Nat → Int} {n : Nat} (h : ∀ a b, a < n → b < n → a ≠ b → D a b = E a b) : ∀ a : Nat, a ≤ n → mA D n a = mA E n a
  | 0, _ => rfl
  | a + 1, ha => by
    unfold mA
    rw [mA_congr h a (by omega), mR_congr (fun b hb => h a b (by omega) hb) n _ (Nat.le_refl _)]
/-- the first pair apart -/
def FA (D : Nat → Nat → Int) (n : Nat) (r : Int) : Prop := (r = -9 ∧ ∀ a b, a < n → b < n → ¬ AP D a b) ∨ ∃ a b, a < n ∧ b < n ∧ AP D a b ∧ r = 100 + 10 * (a : Int) + (b : Int) ∧ ∀ a' b', a' < n → b' < n → (a' < a ∨ (a' = a ∧ b' < b)) → ¬ AP D a' b'
theorem FA.uniq {D : Nat → Nat → Int} {n : Nat} {r r' : Int} (h : FA D n r) (h' : FA D n r') : r = r' := by
  rcases h with ⟨h1, h2⟩ | ⟨a, b, h1, h2, h3, h4, h5⟩ <;> rcases h' with ⟨g1, g2⟩ | ⟨c, d, g1, g2, g3, g4, g5⟩
  · omega
  · exact absurd g3 (h2 c d g1 g2)
  · exact absurd h3 (g2 a b h1 h2)
  · by_cases q : c < a ∨ (c = a ∧ d < b)
    · exact absurd g3 (h5 c d g1 g2 q)
    · by_cases p : a < c ∨ (a = c ∧ b < d)
      · exact absurd h3 (g5 a b h1 h2 p)
      · omega
/-- longest: none if a pair is apart -/
noncomputable def LG (D : Nat → Nat → Int) (n : Nat) : Int := if cA D n n = 0 then mA D n n else -9
theorem cvF_far {a b : Nat} {w : Int} (hw : w ≤ 1000000) : 1000000000 ≤ cvF a b w ↔ a ≠ b ∧ 1000000 ≤ w := by
  unfold cvF
  split
  · omega
  · split <;> omega
section Apart
variable {K' : Hp → Prop} {K : Int → Hp → Prop}
theorem qX0_pairsApart {σ : Hp} {n : Nat} (hn : σ 1 0 0 = n) (hn10 : n ≤ 10) (h : K (cA (σ 21) n n) σ) : Runs 1 mX0_pairsApart 0 [zR 19 0, zU, zU, zU] [] σ (rI K) := by
  refine gX0_pairsApart_0 σ (upto (α := Int) (N := n) (R := fun t c => Runs 1 mX0_pairsApart 4 [zR 19 0, zI c, zI t, zU] [] σ (rI K)) (I := fun t c => c = cA (σ 21) n t.toNat) (fun c hI => ?_) (fun t c h0 hl hI nx => ?_) (Int.le_refl 0) (by omega) rfl)
  · subst hI
    exact gX0_pairsApart_4 _ n σ ⟨fun _ => h, fun q => absurd (by rw [hn]; exact Int.le_refl _) q⟩
  · refine gX0_pairsApart_4 c t σ ⟨fun q => absurd q (by omega), fun _ => ?_⟩
    have b1 := (cA_b (σ 21) n t.toNat).1
    have m1 : (n : Int) * (t.toNat : Int) ≤ 10 * 10 := Int.mul_le_mul (by omega) (by omega) (by omega) (by omega)
    refine upto (α := Int) (N := n) (R := fun u c => Runs 1 mX0_pairsApart 17 [zR 19 0, zI c, zI t, zI u] [] σ (rI K)) (I := fun u c => c = cA (σ 21) n t.toNat + cR (σ 21) t.toNat u.toNat) (fun c hI => ?_) (fun u c u0 ul hI nx2 => ?_) (Int.le_refl 0) (by omega) (by rw [hI]; show _ = _ + 0; omega)
    · refine gX0_pairsApart_17 c t n σ ⟨fun _ => ⟨by omega, nx c ?_⟩, fun q => absurd (by rw [hn]; exact Int.le_refl _) q⟩
      rw [hI, show (t + 1).toNat = t.toNat + 1 by omega]
      rfl
    · have b2 := (cR_b (σ 21) t.toNat u.toNat).1
      have e : cR (σ 21) t.toNat (u + 1).toNat = cR (σ 21) t.toNat u.toNat + (if t.toNat ≠ u.toNat ∧ 1000000 ≤ σ 21 t.toNat u.toNat then 1 else 0) := by rw [show (u + 1).toNat = u.toNat + 1 by omega]; rfl
      refine gX0_pairsApart_17 c t u σ ⟨fun q => absurd q (by omega), fun _ => ⟨by omega, by omega, fun q => ⟨by omega, by omega, nx2 _ ?_⟩, fun q => ⟨by omega, by omega, nx2 _ ?_⟩⟩⟩
      · rw [e, if_pos ⟨by omega, q.2⟩]; omega
      · rw [e, if_neg (fun z => q ⟨by omega, z.2⟩)]; omega
theorem qX0_firstApart {σ : Hp} {n : Nat} (hn : σ 1 0 0 = n) (hn10 : n ≤ 10) (h : ∀ r, FA (σ 21) n r → K r σ) : Runs 1 mX0_firstApart 0 [zR 19 0, zU, zU] [] σ (rI K) := by
  refine gX0_firstApart_0 σ (upto (α := Unit) (N := n) (R := fun t c => Runs 1 mX0_firstApart 2 [zR 19 0, zI t, zU] [] σ (rI K)) (I := fun t c => ∀ a b : Nat, (a : Int) < t → b < n → ¬ AP (σ 21) a b) (fun c hI => ?_) (fun t c h0 hl hI nx => ?_) (a := ()) (Int.le_refl 0) (by omega) (fun a b ha => absurd ha (by omega)))
  · exact gX0_firstApart_2 n σ ⟨fun _ => h _ (Or.inl ⟨rfl, fun a b ha hb => hI a b (by omega) hb⟩), fun q => absurd (by rw [hn]; exact Int.le_refl _) q⟩
  · refine gX0_firstApart_2 t σ ⟨fun q => absurd q (by omega), fun _ => ?_⟩
    refine upto (α := Unit) (N := n) (R := fun u c => Runs 1 mX0_firstApart 15 [zR 19 0, zI t, zI u] [] σ (rI K)) (I := fun u c => ∀ a b : Nat, ((a : Int) < t ∨ ((a : Int) = t ∧ (b : Int) < u)) → b < n → ¬ AP (σ 21) a b) (fun c hI2 => ?_) (fun u c u0 ul hI2 nx2 => ?_) (a := ()) (Int.le_refl 0) (by omega) (fun a b ha hb => hI a b (by omega) hb)
    · exact gX0_firstApart_15 t n σ ⟨fun _ => ⟨by omega, nx () (fun a b ha hb => hI2 a b (by omega) hb)⟩, fun q => absurd (by rw [hn]; exact Int.le_refl _) q⟩
    · refine gX0_firstApart_15 t u σ ⟨fun q => absurd q (by omega), fun _ => ⟨by omega, by omega, fun q => ⟨by omega, by omega, by omega, h _ (Or.inr ⟨t.toNat, u.toNat, by omega, by omega, ⟨by omega, q.2⟩, by omega, fun a' b' ha hb hlt => hI2 a' b' (by omega) hb⟩)⟩, fun q => ⟨by omega, nx2 () (fun a b ha hb => ?_)⟩⟩⟩
      by_cases z : (a : Int) < t ∨ ((a : Int) = t ∧ (b : Int) < u)
      · exact hI2 a b z hb
      · have ea : a = t.toNat := by omega
        have eb : b = u.toNat := by omega
        rw [ea, eb]
        exact fun y => q ⟨by have := y.1; omega, y.2⟩
theorem qX0_farthest {σ : Hp} {n : Nat} (hn : σ 1 0 0 = n) (hn10 : n ≤ 10) (h : K (LG (σ 21) n) σ) : Runs 1 mX0_farthest 0 [zR 19 0, zU, zU, zU] [] σ (rI K) := by
  unfold LG at h
  have ca := (cA_b (σ 21) n n).2
  refine gX0_farthest_0 σ (upto (α := Int) (N := n) (R := fun t c => Runs 1 mX0_farthest 4 [zR 19 0, zI c, zI t, zU] [] σ (rI K)) (I := fun t c => c = mA (σ 21) n t.toNat ∧ ∀ a b : Nat, (a : Int) < t → b < n → ¬ AP (σ 21) a b) (fun c hI => ?_) (fun t c h0 hl hI nx => ?_) (Int.le_refl 0) (by omega) ⟨rfl, fun a b ha => absurd ha (by omega)⟩)
  · obtain ⟨hc, hI⟩ := hI
    subst hc
    refine gX0_farthest_4 _ n σ ⟨fun _ => ?_, fun q => absurd (by rw [hn]; exact Int.le_refl _) q⟩
    rw [if_pos (ca.mpr (fun a b ha hb => hI a b (by omega) hb))] at h
    exact h
  · obtain ⟨hc, hI⟩ := hI
    refine gX0_farthest_4 c t σ ⟨fun q => absurd q (by omega), fun _ => ?_⟩
    refine upto (α := Int) (N := n) (R := fun u c => Runs 1 mX0_farthest 17 [zR 19 0, zI c, zI t, zI u] [] σ (rI K)) (I := fun u c => c = mR (σ 21) t.toNat u.toNat (mA (σ 21) n t.toNat) ∧ ∀ a b : Nat, ((a : Int) < t ∨ ((a : Int) = t ∧ (b : Int) < u)) → b < n → ¬ AP (σ 21) a b) (fun c hI2 => ?_) (fun u c u0 ul hI2 nx2 => ?_) (Int.le_refl 0) (by omega) ⟨hc, fun a b ha hb => hI a b (by omega) hb⟩
    · refine gX0_farthest_17 c t n σ ⟨fun _ => ⟨by omega, nx c ⟨?_, fun a b ha hb => hI2.2 a b (by omega) hb⟩⟩, fun q => absurd (by rw [hn]; exact Int.le_refl _) q⟩
      rw [hI2.1, show (t + 1).toNat = t.toNat + 1 by omega]
      rfl
    · obtain ⟨hc2, hI2⟩ := hI2
      have e : mR (σ 21) t.toNat (u + 1).toNat (mA (σ 21) n t.toNat) = if t.toNat ≠ u.toNat ∧ mR (σ 21) t.toNat u.toNat (mA (σ 21) n t.toNat) < σ 21 t.toNat u.toNat then σ 21 t.toNat u.toNat else mR (σ 21) t.toNat u.toNat (mA (σ 21) n t.toNat) := by rw [show (u + 1).toNat = u.toNat + 1 by omega]; rfl
      rw [← hc2] at e
      have nxt2 : ¬ (t ≠ u ∧ 1000000 ≤ σ 21 t.toNat u.toNat) → ∀ a b : Nat, ((a : Int) < t ∨ ((a : Int) = t ∧ (b : Int) < u + 1)) → b < n → ¬ AP (σ 21) a b := fun q a b ha hb => by
        by_cases z : (a : Int) < t ∨ ((a : Int) = t ∧ (b : Int) < u)
        · exact hI2 a b z hb
        · have ea : a = t.toNat := by omega
          have eb : b = u.toNat := by omega
          rw [ea, eb]
          exact fun y => q ⟨by have := y.1; omega, y.2⟩
      refine gX0_farthest_17 c t u σ ⟨fun q => absurd q (by omega), fun _ => ⟨by omega, by omega, fun q => ?_, fun q => ⟨fun q2 => ⟨by omega, by omega, by omega, nx2 _ ⟨?_, nxt2 q⟩⟩, fun q2 => ⟨by omega, nx2 _ ⟨?_, nxt2 q⟩⟩⟩⟩⟩
      · rw [if_neg (fun z => ca.mp z t.toNat u.toNat (by omega) (by omega) ⟨by have := q.1; omega, q.2⟩)] at h
        exact h
      · rw [e]
        by_cases z : c < σ 21 t.toNat u.toNat
        · rw [if_pos z, if_pos ⟨by omega, z⟩]
        · rw [if_neg z, if_neg (fun y => z y.2)]
      · rw [e, if_neg (fun y => y.1 (by omega))]
theorem qX11_apartAt {σ : Hp} {n : Nat} (hw : WF (σ 36 0)) (hn : σ 36 0 0 = n) {m : Int} (hm : 0 ≤ m ∧ m ≤ 2879) (h : ∀ σ', Off [46] σ σ' → L46 σ' (FF (σ 36 0) m) → K (cA (FF (σ 36 0) m) n n) σ') : Runs 4 mX11_apartAt 0 [zR 34 0, zI m, zU, zU, zU] [] σ (rI K) := by
  have w0 := hw.1
  refine gX11_apartAt_0 m σ (qX11_findsFar hw hm (fun σ1 o1 l1 => ?_))
  have h := h σ1 o1 l1
  have okf := okD_FF hw (m := m)
  have e36 : σ1 36 = σ 36 := o1 36 (by decide)
  generalize FF (σ 36 0) m = D at *
  refine upto (α := Int) (N := n) (R := fun t c => Runs 4 mX11_apartAt 9 [zR 34 0, zU, zI c, zI t, zU] [] σ1 (rI K)) (I := fun t c => c = cA D n t.toNat) (fun c hI => ?_) (fun t c h0 hl hI nx => ?_) (Int.le_refl 0) (by omega) rfl
  · subst hI
    exact gX11_apartAt_9 _ n σ1 ⟨fun _ => h, fun q => absurd (by rw [e36, hn]; exact Int.le_refl _) q⟩
  · refine gX11_apartAt_9 c t σ1 ⟨fun q => absurd q (by rw [e36]; omega), fun _ => ?_⟩
    have b1 := (cA_b D n t.toNat).1
    have m1 : (n : Int) * (t.toNat : Int) ≤ 10 * 10 := Int.mul_le_mul (by omega) (by omega) (by omega) (by omega)
    refine upto (α := Int) (N := n) (R := fun u c => Runs 4 mX11_apartAt 22 [zR 34 0, zU, zI c, zI t, zI u] [] σ1 (rI K)) (I := fun u c => c = cA D n t.toNat + cR D t.toNat u.toNat) (fun c hI => ?_) (fun u c u0 ul hI nx2 => ?_) (Int.le_refl 0) (by omega) (by rw [hI]; show _ = _ + 0; omega)
    · refine gX11_apartAt_22 c t n σ1 ⟨fun _ => ⟨by omega, nx c ?_⟩, fun q => absurd (by rw [e36, hn]; exact Int.le_refl _) q⟩
      rw [hI, show (t + 1).toNat = t.toNat + 1 by omega]
      rfl
    · have b2 := (cR_b D t.toNat u.toNat).1
      have e : cR D t.toNat (u + 1).toNat = cR D t.toNat u.toNat + (if t.toNat ≠ u.toNat ∧ 1000000 ≤ D t.toNat u.toNat then 1 else 0) := by rw [show (u + 1).toNat = u.toNat + 1 by omega]; rfl
      have old := l1 t.toNat u.toNat (by omega) (by omega)
      have cf := cvF_far (a := t.toNat) (b := u.toNat) (okD_b (by omega) okf t.toNat u.toNat).2
      refine gX11_apartAt_22 c t u σ1 ⟨fun q => absurd q (by rw [e36]; omega), fun _ => ?_⟩
      rw [ix h0 u0, old]
      refine ⟨by omega, by omega, by omega, fun q => ⟨by omega, by omega, nx2 _ ?_⟩, fun q => ⟨by omega, by omega, nx2 _ ?_⟩⟩
      · rw [e, if_neg (fun z => by have := cf.mpr z; omega)]; omega
      · rw [e, if_pos (cf.mp (by omega))]; omega
theorem qX11_longestAt {σ : Hp} {n : Nat} (hw : WF (σ 36 0)) (hn : σ 36 0 0 = n) {m : Int} (hm : 0 ≤ m ∧ m ≤ 2879) (h : ∀ σ', Off [46] σ σ' → K (LG (FF (σ 36 0) m) n) σ') : Runs 5 mX11_longestAt 0 [zR 34 0, zI m, zU, zU, zU] [] σ (rI K) := by
  have w0 := hw.1
  refine gX11_longestAt_0 m σ (qX11_apartAt hw hn hm (fun σ1 o1 l1 => ?_))
  have h := h σ1 o1
  have okf := okD_FF hw (m := m)
  have e36 : σ1 36 = σ 36 := o1 36 (by decide)
  unfold LG at h
  generalize FF (σ 36 0) m = D at *
  have ca := cA_b D n n
  refine ⟨fun c0 => ?_, fun c0 => ?_⟩
  · have z0 : cA D n n = 0 := by omega
    rw [if_pos z0] at h
    have nap := ca.2.mp z0
    have nn : ∀ t : Nat, 0 ≤ mA D n t ∧ ∀ u : Nat, 0 ≤ mR D t u (mA D n t) := by
      have g : ∀ (t : Nat) (v : Int), 0 ≤ v → ∀ u : Nat, 0 ≤ mR D t u v := fun t v hv u => by
        induction u with
        | zero => exact hv
        | succ u ih =>
          unfold mR
          split
          · have := okD_b (by omega) okf t u; omega
          · exact ih
      intro t
      have a : 0 ≤ mA D n t := by
        induction t with
        | zero => exact Int.le_refl 0
        | succ t ih => exact g t _ ih n
      exact ⟨a, g t _ a⟩
    refine upto (α := Int) (N := n) (R := fun t c => Runs 5 mX11_longestAt 15 [zR 34 0, zU, zI c, zI t, zU] [] σ1 (rI K)) (I := fun t c => c = mA D n t.toNat) (fun c hI => ?_) (fun t c h0 hl hI nx => ?_) (Int.le_refl 0) (by omega) rfl
    · subst hI
      exact gX11_longestAt_15 _ n σ1 ⟨fun _ => h, fun q => absurd (by rw [e36, hn]; exact Int.le_refl _) q⟩
    · refine gX11_longestAt_15 c t σ1 ⟨fun q => absurd q (by rw [e36]; omega), fun _ => ?_⟩
      refine upto (α := Int) (N := n) (R := fun u c => Runs 5 mX11_longestAt 28 [zR 34 0, zU, zI c, zI t, zI u] [] σ1 (rI K)) (I := fun u c => c = mR D t.toNat u.toNat (mA D n t.toNat)) (fun c hI2 => ?_) (fun u c u0 ul hI2 nx2 => ?_) (Int.le_refl 0) (by omega) hI
      · refine gX11_longestAt_28 c t n σ1 ⟨fun _ => ⟨by omega, nx c ?_⟩, fun q => absurd (by rw [e36, hn]; exact Int.le_refl _) q⟩
        rw [hI2, show (t + 1).toNat = t.toNat + 1 by omega]
        rfl
      · have e : mR D t.toNat (u + 1).toNat (mA D n t.toNat) = if t.toNat ≠ u.toNat ∧ mR D t.toNat u.toNat (mA D n t.toNat) < D t.toNat u.toNat then D t.toNat u.toNat else mR D t.toNat u.toNat (mA D n t.toNat) := by rw [show (u + 1).toNat = u.toNat + 1 by omega]; rfl
        have c0' := (nn t.toNat).2 u.toNat
        rw [← hI2] at e c0'
        have old := l1 t.toNat u.toNat (by omega) (by omega)
        have ap := nap t.toNat u.toNat (by omega) (by omega)
        have val : cvF t.toNat u.toNat (D t.toNat u.toNat) = if t.toNat = u.toNat then 0 else D t.toNat u.toNat := by
          unfold cvF
          split
          · rfl
          · rename_i z
            rw [if_neg (fun y => ap ⟨z, y⟩)]
        refine gX11_longestAt_28 c t u σ1 ⟨fun q => absurd q (by rw [e36]; omega), fun _ => ?_⟩
        rw [ix h0 u0, old, val]
        refine ⟨by omega, by omega, by omega, fun q => ⟨by omega, nx2 _ ?_⟩, fun q => ⟨by omega, by omega, by omega, by omega, nx2 _ ?_⟩⟩
        · rw [e, if_neg (fun y => ?_)]
          rw [if_neg y.1] at q
          omega
        · rw [e]
          by_cases y : t.toNat = u.toNat
          · rw [if_pos y] at q; omega
          · rw [if_neg y] at q ⊢
            rw [if_pos ⟨y, by omega⟩]
  · rw [if_neg (by omega)] at h
    exact h
end Apart
