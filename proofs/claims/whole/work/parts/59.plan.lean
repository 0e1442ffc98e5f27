/-! corners that hang together; bridges -/
theorem bit_shl : ∀ a : Nat, a < 14 → ∀ c : Nat, c < 14 → bitz (zshl 1 (a : Int)) (c : Int) = if c = a then 1 else 0 := by decide +kernel
theorem shl_r : ∀ a : Nat, a < 14 → 0 ≤ zshl 1 (a : Int) ∧ zshl 1 (a : Int) < 16384 := by decide +kernel
theorem zor_r {a b : Int} (ha : 0 ≤ a ∧ a < 16384) (hb : 0 ≤ b ∧ b < 16384) : 0 ≤ zor a b ∧ zor a b < 16384 := by
  have hlt : a.toNat ||| b.toNat < 2 ^ 14 := Nat.or_lt_two_pow (by omega) (by omega)
  rw [zor_nat (by omega) (by omega)]
  omega
theorem bits_ext {x y : Int} (hx : 0 ≤ x ∧ x < 16384) (hy : 0 ≤ y ∧ y < 16384) (h : ∀ c : Nat, c < 14 → bitz x (c : Int) = bitz y (c : Int)) : x = y := by
  have e : x.toNat = y.toNat := by
    apply Nat.eq_of_testBit_eq
    intro i
    by_cases hi : i < 14
    · have := h i hi
      rw [bitz_tb (by omega) (by omega), bitz_tb (by omega) (by omega)] at this
      simp only [Int.toNat_natCast] at this
      revert this
      cases x.toNat.testBit i <;> cases y.toNat.testBit i <;> simp
    · have p : 2 ^ 14 ≤ 2 ^ i := Nat.pow_le_pow_right (by omega) (by omega)
      rw [Nat.testBit_lt_two_pow (Nat.lt_of_lt_of_le (by omega : x.toNat < 2 ^ 14) p), Nat.testBit_lt_two_pow (Nat.lt_of_lt_of_le (by omega : y.toNat < 2 ^ 14) p)]
  omega
theorem zand_nat {a b : Int} (ha : 0 ≤ a ∧ a < 2147483648) (hb : 0 ≤ b ∧ b < 2147483648) : zand a b = ((a.toNat &&& b.toNat : Nat) : Int) := by
  unfold zand
  have h : (n32 a &&& n32 b).toBitVec.toNat = a.toNat &&& b.toNat := by
    show ((n32 a).toBitVec &&& (n32 b).toBitVec).toNat = _
    rw [BitVec.toNat_and, n32_bvNat ha.1 ha.2, n32_bvNat hb.1 hb.2]
  have hlt : a.toNat &&& b.toNat ≤ a.toNat := Nat.and_le_left
  show (n32 a &&& n32 b).toBitVec.toInt = _
  rw [BitVec.toInt_eq_toNat_of_lt (by rw [h]; omega), h]
theorem zand_0 {a b : Int} (ha : 0 ≤ a ∧ a < 16384) (hb : 0 ≤ b ∧ b < 16384) : zand a b = 0 ↔ ∀ c : Nat, c < 14 → ¬ (bitz a c = 1 ∧ bitz b c = 1) := by
  rw [zand_nat (by omega) (by omega)]
  have tb : ∀ c : Nat, c < 14 → ((bitz a c = 1 ∧ bitz b c = 1) ↔ (a.toNat &&& b.toNat).testBit c = true) := fun c hc => by
    rw [bitz_tb (by omega) (by omega), bitz_tb (by omega) (by omega), Nat.testBit_and]
    simp only [Int.toNat_natCast]
    cases a.toNat.testBit c <;> cases b.toNat.testBit c <;> simp
  constructor
  · intro h c hc
    rw [tb c hc]
    have : a.toNat &&& b.toNat = 0 := by omega
    rw [this, Nat.zero_testBit]
    simp
  · intro h
    have : a.toNat &&& b.toNat = 0 := by
      apply Nat.eq_of_testBit_eq
      intro i
      rw [Nat.zero_testBit]
      by_cases hi : i < 14
      · have := h i hi
        rw [tb i hi] at this
        simpa using this
      · have p : 2 ^ 14 ≤ 2 ^ i := Nat.pow_le_pow_right (by omega) (by omega)
        have hl : a.toNat &&& b.toNat ≤ a.toNat := Nat.and_le_left
        exact Nat.testBit_lt_two_pow (Nat.lt_of_le_of_lt hl (Nat.lt_of_lt_of_le (by omega : a.toNat < 2 ^ 14) p))
    omega
/-- one street of a sweep -/
def hs1 (x : Int) (a b : Nat) : Int := if bitz x a = 1 ∨ bitz x b = 1 then zor x (zor (zshl 1 (a : Int)) (zshl 1 (b : Int))) else x
theorem hs1_and {x : Int} (hx : 0 ≤ x ∧ x < 16384) {a b : Nat} (ha : a < 14) (hb : b < 14) : zand x (zor (zshl 1 (a : Int)) (zshl 1 (b : Int))) = 0 ↔ ¬ (bitz x a = 1 ∨ bitz x b = 1) := by
  have ra := shl_r a ha
  have rb := shl_r b hb
  rw [zand_0 hx (zor_r ra rb)]
  constructor
  · intro h q
    rcases q with q | q
    · exact h a ha ⟨q, (zor_bit ra rb (by omega)).mpr (Or.inl (by rw [bit_shl a ha a ha, if_pos rfl]))⟩
    · exact h b hb ⟨q, (zor_bit ra rb (by omega)).mpr (Or.inr (by rw [bit_shl b hb b hb, if_pos rfl]))⟩
  · intro h c hc q
    rcases (zor_bit ra rb (t := (c : Int)) (by omega)).mp q.2 with z | z
    · rw [bit_shl a ha c hc] at z
      by_cases e : c = a
      · rw [e] at q; exact h (Or.inl q.1)
      · rw [if_neg e] at z; omega
    · rw [bit_shl b hb c hc] at z
      by_cases e : c = b
      · rw [e] at q; exact h (Or.inr q.1)
      · rw [if_neg e] at z; omega
theorem hs1_r {x : Int} (hx : 0 ≤ x ∧ x < 16384) {a b : Nat} (ha : a < 14) (hb : b < 14) : 0 ≤ hs1 x a b ∧ hs1 x a b < 16384 := by
  unfold hs1
  split
  · exact zor_r hx (zor_r (shl_r a ha) (shl_r b hb))
  · exact hx
theorem hs1_bit {x : Int} (hx : 0 ≤ x ∧ x < 16384) {a b : Nat} (ha : a < 14) (hb : b < 14) {c : Nat} (hc : c < 14) : bitz (hs1 x a b) c = 1 ↔ bitz x c = 1 ∨ ((bitz x a = 1 ∨ bitz x b = 1) ∧ (c = a ∨ c = b)) := by
  have ra := shl_r a ha
  have rb := shl_r b hb
  unfold hs1
  split
  · rename_i q
    rw [zor_bit hx (zor_r ra rb) (by omega), zor_bit ra rb (by omega), bit_shl a ha c hc, bit_shl b hb c hc]
    constructor
    · rintro (h | h | h)
      · exact Or.inl h
      · refine Or.inr ⟨q, Or.inl ?_⟩
        by_cases e : c = a
        · exact e
        · rw [if_neg e] at h; omega
      · refine Or.inr ⟨q, Or.inr ?_⟩
        by_cases e : c = b
        · exact e
        · rw [if_neg e] at h; omega
    · rintro (h | ⟨-, h | h⟩)
      · exact Or.inl h
      · exact Or.inr (Or.inl (if_pos h))
      · exact Or.inr (Or.inr (if_pos h))
  · rename_i q
    constructor
    · exact fun h => Or.inl h
    · rintro (h | ⟨h, -⟩)
      · exact h
      · exact absurd h q
def swp (s : Nat → Int) (wo : Int) : Nat → Int → Int
  | 0, x => x
  | t + 1, x => if (t : Int) = wo then swp s wo t x else hs1 (swp s wo t x) (ea s t 0) (ea s t 1)
def closedBy (s : Nat → Int) (wo : Int) (T : Nat → Prop) : Prop := ∀ t : Nat, (t : Int) < s 1 → (t : Int) ≠ wo → (T (ea s t 0) ↔ T (ea s t 1))
theorem ea_lt {s : Nat → Int} (hw : WF s) {t : Nat} (ht : (t : Int) < s 1) : (ea s t 0 < 10 ∧ (ea s t 0 : Int) < s 0) ∧ (ea s t 1 < 10 ∧ (ea s t 1 : Int) < s 0) ∧ (ea s t 0 : Int) = sg s t 0 ∧ (ea s t 1 : Int) = sg s t 1 ∧ ea s t 0 ≠ ea s t 1 := by
  have w0 := hw.1
  have w := hw.2.2.2.2.2.2.2.2.2.2.2.1 t (by omega) ht
  unfold stOK at w
  unfold ea
  omega
section Hang
variable {s : Nat → Int} {wo : Int}
theorem swp_r (hw : WF s) {x : Int} (hx : 0 ≤ x ∧ x < 16384) : ∀ t : Nat, (t : Int) ≤ s 1 → 0 ≤ swp s wo t x ∧ swp s wo t x < 16384
  | 0, _ => hx
  | t + 1, h => by
    have ih := swp_r hw hx t (by omega)
    have e := ea_lt hw (t := t) (by omega)
    unfold swp
    split
    · exact ih
    · exact hs1_r ih (by omega) (by omega)
theorem swp_up (hw : WF s) {x : Int} (hx : 0 ≤ x ∧ x < 16384) {c : Nat} (hc : c < 14) {t : Nat} : ∀ j : Nat, ((t + j : Nat) : Int) ≤ s 1 → bitz (swp s wo t x) c = 1 → bitz (swp s wo (t + j) x) c = 1
  | 0, _, h => h
  | j + 1, hj, h => by
    have ih := swp_up hw hx hc j (by omega) h
    have e := ea_lt hw (t := t + j) (by omega)
    have r := swp_r (wo := wo) hw hx (t + j) (by omega)
    show bitz (swp s wo (t + j + 1) x) c = 1
    unfold swp
    split
    · exact ih
    · exact (hs1_bit r (by omega) (by omega) hc).mpr (Or.inl ih)
theorem swp_T (hw : WF s) {x : Int} (hx : 0 ≤ x ∧ x < 16384) {T : Nat → Prop} (hT : closedBy s wo T) (h : ∀ c : Nat, c < 14 → bitz x (c : Int) = 1 → T c) : ∀ t : Nat, (t : Int) ≤ s 1 → ∀ c : Nat, c < 14 → bitz (swp s wo t x) (c : Int) = 1 → T c
  | 0, _ => h
  | t + 1, ht => fun c hc hb => by
    have ih := swp_T hw hx hT h t (by omega)
    have e := ea_lt hw (t := t) (by omega)
    have r := swp_r (wo := wo) hw hx t (by omega)
    unfold swp at hb
    split at hb
    · exact ih c hc hb
    · rename_i q
      have ct := hT t (by omega) q
      rcases (hs1_bit r (by omega) (by omega) hc).mp hb with z | ⟨z1, z2⟩
      · exact ih c hc z
      · have both : T (ea s t 0) ∧ T (ea s t 1) := by
          rcases z1 with z | z
          · have := ih _ (by omega) z
            exact ⟨this, ct.mp this⟩
          · have := ih _ (by omega) z
            exact ⟨ct.mpr this, this⟩
        rcases z2 with z | z
        · rw [z]; exact both.1
        · rw [z]; exact both.2
theorem swp_fix (hw : WF s) {n : Nat} (hn : s 1 = n) {x : Int} (hx : 0 ≤ x ∧ x < 16384) (h : swp s wo n x = x) : closedBy s wo (fun c => bitz x (c : Int) = 1) := by
  intro t ht hne
  have e := ea_lt hw (t := t) ht
  have at_ : ∀ k : Nat, (k : Int) ≤ s 1 → swp s wo k x = x := fun k hk => by
    refine bits_ext (swp_r hw hx k hk) hx (fun c hc => ?_)
    have up := swp_up (wo := wo) hw hx hc (t := k) (n - k) (by omega)
    have lo := swp_up (wo := wo) hw hx hc (t := 0) k (by omega)
    rw [show k + (n - k) = n by omega, h] at up
    rw [show 0 + k = k by omega] at lo
    rcases bitz_01 x c with q | q
    · rcases bitz_01 (swp s wo k x) c with p | p
      · rw [p, q]
      · have := up p; omega
    · rw [q, lo q]
  have e1 := at_ t (by omega)
  have e2 := at_ (t + 1) (by omega)
  unfold swp at e2
  rw [if_neg hne, e1] at e2
  have hb := fun (c : Nat) (hc : c < 14) => hs1_bit hx (a := ea s t 0) (b := ea s t 1) (by omega) (by omega) hc
  rw [e2] at hb
  constructor
  · intro q
    exact (hb (ea s t 1) (by omega)).mpr (Or.inr ⟨Or.inl q, Or.inr rfl⟩)
  · intro q
    exact (hb (ea s t 0) (by omega)).mpr (Or.inr ⟨Or.inr q, Or.inl rfl⟩)
def HG (s : Nat → Int) (f : Nat) (wo : Int) (x : Int) : Prop := (0 ≤ x ∧ x < 16384) ∧ bitz x (f : Int) = 1 ∧ closedBy s wo (fun c => bitz x (c : Int) = 1) ∧ ∀ T, T f → closedBy s wo T → ∀ c : Nat, c < 14 → bitz x (c : Int) = 1 → T c
theorem HG.uniq {f : Nat} {x y : Int} (h : HG s f wo x) (h' : HG s f wo y) : x = y := by
  obtain ⟨a1, a2, a3, a4⟩ := h
  obtain ⟨b1, b2, b3, b4⟩ := h'
  refine bits_ext a1 b1 (fun c hc => ?_)
  have p := a4 _ b2 b3 c hc
  have q := b4 _ a2 a3 c hc
  rcases bitz_01 x c with z | z <;> rcases bitz_01 y c with w | w
  · rw [z, w]
  · have := q w; omega
  · have := p z; omega
  · rw [z, w]
theorem HG_neg {f : Nat} {x wo' : Int} (h1 : wo < 0) (h2 : wo' < 0) (h : HG s f wo x) : HG s f wo' x := by
  have cl : ∀ {a b : Int}, a < 0 → b < 0 → ∀ T, closedBy s a T → closedBy s b T := fun ha hb T hT t ht _ => hT t ht (by omega)
  exact ⟨h.1, h.2.1, cl h1 h2 _ h.2.2.1, fun T ht hT => h.2.2.2 T ht (cl h2 h1 T hT)⟩
def cntB (x : Int) : Int := cnt10 (fun c => bitz x (c : Int))
theorem cnt10_lt {z w : Nat → Int} (h : ∀ c, c < 10 → z c ≤ w c) {c : Nat} (hc : c < 10) (hl : z c < w c) : cnt10 z < cnt10 w := by
  have a0 := h 0 (by omega); have a1 := h 1 (by omega); have a2 := h 2 (by omega); have a3 := h 3 (by omega); have a4 := h 4 (by omega)
  have a5 := h 5 (by omega); have a6 := h 6 (by omega); have a7 := h 7 (by omega); have a8 := h 8 (by omega); have a9 := h 9 (by omega)
  have hq : c = 0 ∨ c = 1 ∨ c = 2 ∨ c = 3 ∨ c = 4 ∨ c = 5 ∨ c = 6 ∨ c = 7 ∨ c = 8 ∨ c = 9 := by omega
  unfold cnt10
  rcases hq with rfl | rfl | rfl | rfl | rfl | rfl | rfl | rfl | rfl | rfl <;> omega
/-- what a search keeps true of the corners found -/
def HI (s : Nat → Int) (f : Nat) (wo : Int) (x : Int) : Prop := (0 ≤ x ∧ x < 16384) ∧ bitz x (f : Int) = 1 ∧ (∀ c : Nat, c < 14 → bitz x (c : Int) = 1 → (c : Int) < s 0) ∧ ∀ T, T f → closedBy s wo T → ∀ c : Nat, c < 14 → bitz x (c : Int) = 1 → T c
theorem HI.start {f : Nat} (hw : WF s) (hf : (f : Int) < s 0) : HI s f wo (zshl 1 (f : Int)) := by
  have w0 := hw.1
  have bs := fun (c : Nat) (hc : c < 14) => bit_shl f (by omega) c hc
  refine ⟨shl_r f (by omega), by rw [bs f (by omega), if_pos rfl], fun c hc hb => ?_, fun T hT _ c hc hb => ?_⟩
  · rw [bs c hc] at hb
    by_cases e : c = f
    · rw [e]; exact hf
    · rw [if_neg e] at hb; omega
  · rw [bs c hc] at hb
    by_cases e : c = f
    · rw [e]; exact hT
    · rw [if_neg e] at hb; omega
theorem HI.sweep {f : Nat} (hw : WF s) (hf : (f : Int) < s 0) {n : Nat} (hn : s 1 = n) {x : Int} (h : HI s f wo x) : HI s f wo (swp s wo n x) := by
  obtain ⟨a1, a2, a3, a4⟩ := h
  have w0 := hw.1
  refine ⟨swp_r hw a1 n (by omega), ?_, fun c hc hb => ?_, fun T hT hcl c hc hb => swp_T hw a1 hcl (a4 T hT hcl) n (by omega) c hc hb⟩
  · have := swp_up (wo := wo) hw a1 (c := f) (by omega) (t := 0) n (by omega) a2
    rw [show 0 + n = n by omega] at this
    exact this
  · exact swp_T (T := fun c => (c : Int) < s 0) hw a1 (fun t ht _ => by
      have e := ea_lt hw (t := t) ht
      show (ea s t 0 : Int) < s 0 ↔ (ea s t 1 : Int) < s 0
      exact ⟨fun _ => e.2.1.2, fun _ => e.1.2⟩) a3 n (by omega) c hc hb
theorem HI.fix {f : Nat} (hw : WF s) {n : Nat} (hn : s 1 = n) {x : Int} (h : HI s f wo x) (hx : swp s wo n x = x) : HG s f wo x := ⟨h.1, h.2.1, swp_fix hw hn h.1 hx, h.2.2.2⟩
theorem HI.grow {f : Nat} (hw : WF s) (hf : (f : Int) < s 0) {n : Nat} (hn : s 1 = n) {x : Int} (h : HI s f wo x) (hx : swp s wo n x ≠ x) : cntB x < cntB (swp s wo n x) := by
  have h2 := h.sweep hw hf hn
  have w0 := hw.1
  have up : ∀ c : Nat, c < 14 → bitz x (c : Int) = 1 → bitz (swp s wo n x) (c : Int) = 1 := fun c hc hb => by
    have := swp_up (wo := wo) hw h.1 hc (t := 0) n (by omega) hb
    rw [show 0 + n = n by omega] at this
    exact this
  have ex : ∃ c : Nat, c < 14 ∧ bitz x (c : Int) ≠ bitz (swp s wo n x) (c : Int) := by
    by_cases q : ∃ c : Nat, c < 14 ∧ bitz x (c : Int) ≠ bitz (swp s wo n x) (c : Int)
    · exact q
    · exfalso
      apply hx
      refine (bits_ext h.1 h2.1 (fun c hc => ?_)).symm
      by_cases p : bitz x (c : Int) = bitz (swp s wo n x) (c : Int)
      · exact p
      · exact absurd ⟨c, hc, p⟩ q
  obtain ⟨c, hc, hne⟩ := ex
  have c01 := bitz_01 x c
  have d01 := bitz_01 (swp s wo n x) c
  have hz : bitz x (c : Int) = 0 := by
    rcases c01 with q | q
    · exact q
    · have := up c hc q; omega
  have hd : bitz (swp s wo n x) (c : Int) = 1 := by omega
  have hlt := h2.2.2.1 c hc hd
  refine cnt10_lt (fun k hk => ?_) (c := c) (by omega) (by show bitz x (c : Int) < bitz (swp s wo n x) (c : Int); omega)
  have k01 := bitz_01 x k
  have l01 := bitz_01 (swp s wo n x) k
  show bitz x (k : Int) ≤ bitz (swp s wo n x) (k : Int)
  rcases k01 with q | q
  · omega
  · have := up k (by omega) q; omega
theorem HI.cnt {f : Nat} (hw : WF s) {x : Int} (h : HI s f wo x) : cntB x ≤ s 0 := by
  have w0 := hw.1
  have := cnt10_n (z := fun c => bitz x (c : Int)) (n := (s 0).toNat) (by omega) (fun c hc => by
    have b := bitz_01 x c
    have := h.2.2.1 c (by omega)
    unfold wn
    split <;> omega)
  unfold cntB
  omega
theorem HI.pos {f : Nat} (hw : WF s) (hf : (f : Int) < s 0) {x : Int} (h : HI s f wo x) : 1 ≤ cntB x := by
  have w0 := hw.1
  have z0 : cnt10 (fun _ => 0) = 0 := rfl
  have := cnt10_lt (z := fun _ => 0) (w := fun c => bitz x (c : Int)) (fun c _ => by have := bitz_01 x c; omega) (c := f) (by omega) (by have := h.2.1; omega)
  unfold cntB
  omega
variable {K : Int → Hp → Prop}
theorem swp_step {t : Int} (ht : 0 ≤ t) {x : Int} : swp s wo (t + 1).toNat x = if t = wo then swp s wo t.toNat x else hs1 (swp s wo t.toNat x) (ea s t 0) (ea s t 1) := by
  rw [show (t + 1).toNat = t.toNat + 1 by omega]
  show (if ((t.toNat : Nat) : Int) = wo then swp s wo t.toNat x else hs1 (swp s wo t.toNat x) (ea s (t.toNat : Nat) 0) (ea s (t.toNat : Nat) 1)) = _
  rw [Int.toNat_of_nonneg ht]
/-- the class's -/
theorem qX2_cornersFrom (hw : WF s) {σ : Hp} (hm : TMs σ s) {f : Int} (hf : 0 ≤ f ∧ f < s 0) (h : ∀ x, HG s f.toNat wo x → K x σ) : Runs 0 mX2_cornersFrom 0 [zR 22 0, zI f, zI wo, zU, zU, zU, zU] [] σ (rI K) := by
  have w0 := hw.1
  have w1 := hw.2.1
  obtain ⟨n, hn⟩ : ∃ n : Nat, s 1 = n := ⟨(s 1).toNat, by omega⟩
  have hs0 := HI.start (wo := wo) (f := f.toNat) hw (by omega)
  have ef : ((f.toNat : Nat) : Int) = f := Int.toNat_of_nonneg hf.1
  rw [ef] at hs0
  refine gX2_cornersFrom_0 f wo σ (upto (α := Int) (N := s 0) (R := fun i x => Runs 0 mX2_cornersFrom 7 [zR 22 0, zU, zI wo, zI x, zI i, zU, zU] [] σ (rI K)) (I := fun i x => HI s f.toNat wo x ∧ (swp s wo n x = x ∨ i + 1 ≤ cntB x)) (fun x hI => ?_) (fun i x i0 il hI nx => ?_) (Int.le_refl 0) (by omega) ⟨hs0, Or.inr (by have := hs0.pos hw (by omega); omega)⟩)
  · refine gX2_cornersFrom_7 wo x (s 0) σ ⟨fun _ => h x ?_, fun q => absurd (by rw [hm.1]; exact Int.le_refl _) q⟩
    have := hI.1.cnt hw
    exact hI.1.fix hw hn (hI.2.resolve_right (by omega))
  · obtain ⟨hx, hp⟩ := hI
    have e0 : σ 1 0 0 = s 0 := hm.1
    have e1 : σ 1 0 1 = s 1 := hm.2.1
    refine gX2_cornersFrom_7 wo x i σ ⟨fun q => absurd q (by omega), fun _ => ?_⟩
    refine upto (α := Int) (N := s 1) (R := fun t y => Runs 0 mX2_cornersFrom 22 [zR 22 0, zU, zI wo, zI y, zI i, zI t, zU] [] σ (rI K)) (I := fun t y => y = swp s wo t.toNat x) (fun y hy => ?_) (fun t y t0 tl hy nx2 => ?_) (Int.le_refl 0) (by omega) rfl
    · have ey : y = swp s wo n x := by rw [hy, hn]; rfl
      refine gX2_cornersFrom_22 wo y i (s 1) σ ⟨fun _ => ⟨by omega, nx y ?_⟩, fun q => absurd (by rw [e1]; exact Int.le_refl _) q⟩
      rw [ey]
      refine ⟨hx.sweep hw (by omega) hn, ?_⟩
      by_cases q : swp s wo n x = x
      · rw [q]; exact Or.inl q
      · have g := hx.grow hw (by omega) hn q
        rcases hp with p | p
        · exact absurd p q
        · exact Or.inr (by omega)
    · obtain ⟨t2, t3, -⟩ := hm.2.2 t t0 tl
      have r := swp_r (wo := wo) hw hx.1 t.toNat (by omega)
      have e := ea_lt hw (t := t.toNat) (by omega)
      rw [Int.toNat_of_nonneg t0] at e
      rw [← hy] at r
      have st := swp_step (s := s) (wo := wo) t0 (x := x)
      rw [← hy] at st
      refine gX2_cornersFrom_22 wo y i t σ ⟨fun q => absurd q (by omega), fun _ => ⟨by omega, by omega, fun c => ⟨by omega, nx2 _ ?_⟩, fun c => ?_⟩⟩
      · rw [st, if_pos c, zor_0 r]
      · rw [if_neg c] at st
        have ha := hs1_and r (a := ea s t 0) (b := ea s t 1) (by omega) (by omega)
        rw [t2, t3, ← e.2.2.1, ← e.2.2.2.1]
        refine ⟨fun c2 => ⟨by omega, nx2 _ ?_⟩, fun c2 => ⟨by omega, nx2 _ ?_⟩⟩
        · rw [st, zor_0 r]
          unfold hs1
          rw [if_neg (ha.mp c2)]
        · rw [st]
          unfold hs1
          rw [if_pos (Classical.byContradiction (fun z => c2 (ha.mpr z)))]
/-- the reference's -/
theorem qX11_hang {σ : Hp} (hs : σ 36 0 = s) (hw : WF s) {f : Int} (hf : 0 ≤ f ∧ f < s 0) (h : ∀ x, HG s f.toNat wo x → K x σ) : Runs 1 mX11_hang 0 [zR 34 0, zI f, zI wo, zU, zU, zU, zU, zU] [] σ (rI K) := by
  have w0 := hw.1
  have w1 := hw.2.1
  obtain ⟨n, hn⟩ : ∃ n : Nat, s 1 = n := ⟨(s 1).toNat, by omega⟩
  have hs0 := HI.start (wo := wo) (f := f.toNat) hw (by omega)
  have ef : ((f.toNat : Nat) : Int) = f := Int.toNat_of_nonneg hf.1
  rw [ef] at hs0
  -- one sweep
  have sweep : ∀ (x : Int), HI s f.toNat wo x → (swp s wo n x = x → Runs 1 mX11_hang 7 [zR 34 0, zU, zI wo, zI x, zI 0, zU, zU, zU] [] σ (rI K)) → (swp s wo n x ≠ x → Runs 1 mX11_hang 7 [zR 34 0, zU, zI wo, zI (swp s wo n x), zI 1, zU, zU, zU] [] σ (rI K)) → Runs 1 mX11_hang 7 [zR 34 0, zU, zI wo, zI x, zI 1, zU, zU, zU] [] σ (rI K) := fun x hx k1 k2 => by
    refine gX11_hang_7 wo x 1 σ ⟨fun q => absurd q (by omega), fun _ => ?_⟩
    refine upto (α := Int) (N := s 1) (R := fun t y => Runs 1 mX11_hang 18 [zR 34 0, zU, zI wo, zI y, zU, zI x, zI t, zU] [] σ (rI K)) (I := fun t y => y = swp s wo t.toNat x) (fun y hy => ?_) (fun t y t0 tl hy nx2 => ?_) (Int.le_refl 0) (by omega) rfl
    · have ey : y = swp s wo n x := by rw [hy, hn]; rfl
      refine gX11_hang_18 wo y x (s 1) σ ⟨fun _ => ⟨fun c => ?_, fun c => ?_⟩, fun q => absurd (by rw [hs]; exact Int.le_refl _) q⟩
      · rw [c]; exact k1 (by rw [← ey]; exact c)
      · rw [ey]; exact k2 (by rw [← ey]; exact c)
    · have r := swp_r (wo := wo) hw hx.1 t.toNat (by omega)
      have e := ea_lt hw (t := t.toNat) (by omega)
      rw [Int.toNat_of_nonneg t0] at e
      rw [← hy] at r
      have st := swp_step (s := s) (wo := wo) t0 (x := x)
      rw [← hy] at st
      refine gX11_hang_18 wo y x t σ ⟨fun q => absurd q (by rw [hs]; omega), fun _ => ⟨fun c => ?_, fun c => ⟨by omega, nx2 _ ?_⟩⟩⟩
      · rw [if_neg c] at st
        have ha := hs1_and r (a := ea s t 0) (b := ea s t 1) (by omega) (by omega)
        rw [hs, ← e.2.2.1, ← e.2.2.2.1]
        refine ⟨by omega, by omega, fun c2 => ⟨by omega, nx2 _ ?_⟩, fun c2 => ⟨by omega, nx2 _ ?_⟩⟩
        · rw [st]
          unfold hs1
          rw [if_neg (ha.mp c2)]
        · rw [st]
          unfold hs1
          rw [if_pos (Classical.byContradiction (fun z => c2 (ha.mpr z)))]
      · rw [st, if_pos c]
  have loop : ∀ (k : Nat) (x : Int), (s 0 - cntB x).toNat ≤ k → HI s f.toNat wo x → Runs 1 mX11_hang 7 [zR 34 0, zU, zI wo, zI x, zI 1, zU, zU, zU] [] σ (rI K) := by
    intro k
    have done : ∀ x, HI s f.toNat wo x → swp s wo n x = x → Runs 1 mX11_hang 7 [zR 34 0, zU, zI wo, zI x, zI 0, zU, zU, zU] [] σ (rI K) := fun x hx e => gX11_hang_7 wo x 0 σ ⟨fun _ => h x (hx.fix hw hn e), fun q => absurd rfl q⟩
    induction k with
    | zero =>
      intro x hk hx
      refine sweep x hx (done x hx) (fun q => ?_)
      have a := hx.grow hw (by omega) hn q
      have b := (hx.sweep hw (by omega) hn).cnt hw
      omega
    | succ k ih =>
      intro x hk hx
      refine sweep x hx (done x hx) (fun q => ih _ ?_ (hx.sweep hw (by omega) hn))
      have a := hx.grow hw (by omega) hn q
      omega
  exact gX11_hang_0 f wo σ (loop _ _ (Nat.le_refl _) hs0)
noncomputable def hg (s : Nat → Int) (f : Nat) (wo : Int) : Int := Classical.epsilon (fun x => HG s f wo x)
theorem hg_eq {f : Nat} {x : Int} (h : HG s f wo x) : x = hg s f wo := h.uniq (Classical.epsilon_spec (p := fun x => HG s f wo x) ⟨x, h⟩)
theorem hg_neg {f : Nat} {x : Int} (h : HG s f (-9) x) : x = hg s f (-1) := hg_eq (HG_neg (by omega) (by omega) h)
noncomputable def brB (s : Nat → Int) : Nat → Int
  | 0 => 0
  | t + 1 => zor (brB s t) (if bitz (hg s (ea s t 0) t) (ea s t 1) = 0 then zshl 1 (t : Int) else 0)
theorem brB_r (hw : WF s) : ∀ t : Nat, (t : Int) ≤ s 1 → 0 ≤ brB s t ∧ brB s t < 16384
  | 0, _ => by unfold brB; omega
  | t + 1, h => by
    have ih := brB_r hw t (by omega)
    have w1 := hw.2.1
    unfold brB
    split
    · exact zor_r ih (shl_r t (by omega))
    · rw [zor_0 ih]; exact ih
theorem qX2_bridgeOnes (hw : WF s) {σ : Hp} (hm : TMs σ s) (h : K (brB s (s 1).toNat) σ) : Runs 1 mX2_bridgeOnes 0 [zR 22 0, zU, zU, zU] [] σ (rI K) := by
  have w0 := hw.1
  have w1 := hw.2.1
  have e1 : σ 1 0 1 = s 1 := hm.2.1
  refine gX2_bridgeOnes_0 σ (upto (α := Int) (N := s 1) (R := fun t y => Runs 1 mX2_bridgeOnes 4 [zR 22 0, zI y, zI t, zU] [] σ (rI K)) (I := fun t y => y = brB s t.toNat) (fun y hy => ?_) (fun t y t0 tl hy nx => ?_) (Int.le_refl 0) (by omega) rfl)
  · subst hy
    exact gX2_bridgeOnes_4 _ (s 1) σ ⟨fun _ => h, fun q => absurd (by rw [e1]; exact Int.le_refl _) q⟩
  · obtain ⟨t2, t3, -⟩ := hm.2.2 t t0 tl
    have e := ea_lt hw (t := t.toNat) (by omega)
    have st : brB s (t + 1).toNat = zor (brB s t.toNat) (if bitz (hg s (ea s t 0) t) (ea s t 1) = 0 then zshl 1 t else 0) := by
      rw [show (t + 1).toNat = t.toNat + 1 by omega]
      show zor (brB s t.toNat) (if bitz (hg s (ea s (t.toNat : Nat) 0) (t.toNat : Nat)) (ea s (t.toNat : Nat) 1) = 0 then zshl 1 ((t.toNat : Nat) : Int) else 0) = _
      rw [Int.toNat_of_nonneg t0]
    rw [Int.toNat_of_nonneg t0] at e
    rw [← hy] at st
    refine gX2_bridgeOnes_4 y t σ ⟨fun q => absurd q (by omega), fun _ => ⟨by omega, ?_⟩⟩
    rw [t2]
    refine qX2_cornersFrom hw hm (by omega) (fun x hx => ⟨by omega, ?_⟩)
    have ex := hg_eq hx
    have ee : (sg s t 0).toNat = ea s t 0 := rfl
    rw [ee] at ex
    rw [t3, ← e.2.2.2.1, ex]
    refine ⟨fun c => ⟨by omega, nx _ ?_⟩, fun c => ⟨by omega, nx _ ?_⟩⟩
    · rw [st, if_neg c]
    · rw [st, if_pos c]
theorem qX11_bridgeBits {σ : Hp} (hs : σ 36 0 = s) (hw : WF s) (h : K (brB s (s 1).toNat) σ) : Runs 3 mX11_bridgeBits 0 [zR 34 0, zU, zU] [] σ (rI K) := by
  have w0 := hw.1
  have w1 := hw.2.1
  refine gX11_bridgeBits_0 σ (upto (α := Int) (N := s 1) (R := fun t y => Runs 3 mX11_bridgeBits 4 [zR 34 0, zI y, zI t] [] σ (rI K)) (I := fun t y => y = brB s t.toNat) (fun y hy => ?_) (fun t y t0 tl hy nx => ?_) (Int.le_refl 0) (by omega) rfl)
  · subst hy
    exact gX11_bridgeBits_4 _ (s 1) σ ⟨fun _ => h, fun q => absurd (by rw [hs]; exact Int.le_refl _) q⟩
  · have e := ea_lt hw (t := t.toNat) (by omega)
    have st : brB s (t + 1).toNat = zor (brB s t.toNat) (if bitz (hg s (ea s t 0) t) (ea s t 1) = 0 then zshl 1 t else 0) := by
      rw [show (t + 1).toNat = t.toNat + 1 by omega]
      show zor (brB s t.toNat) (if bitz (hg s (ea s (t.toNat : Nat) 0) (t.toNat : Nat)) (ea s (t.toNat : Nat) 1) = 0 then zshl 1 ((t.toNat : Nat) : Int) else 0) = _
      rw [Int.toNat_of_nonneg t0]
    rw [Int.toNat_of_nonneg t0] at e
    rw [← hy] at st
    refine gX11_bridgeBits_4 y t σ ⟨fun q => absurd q (by rw [hs]; omega), fun _ => ?_⟩
    refine gX11_isBridge_0 t σ ⟨by omega, ?_⟩
    rw [hs]
    refine qX11_hang hs hw (by omega) (fun x hx => ⟨by omega, ?_⟩)
    have ex := hg_eq hx
    have ee : (sg s t 0).toNat = ea s t 0 := rfl
    rw [ee] at ex
    rw [hs, ← e.2.2.2.1, ex]
    refine ⟨fun c => ⟨fun _ => ⟨by omega, nx _ ?_⟩, fun q => absurd rfl q⟩, fun c => ⟨fun q => absurd q (by omega), fun _ => ⟨by omega, nx _ ?_⟩⟩⟩
    · rw [st, if_neg c]
    · rw [st, if_pos c]
end Hang
