/-! how many bits; the next set by fewest -/
def popF : Nat → Nat → Nat
  | 0, _ => 0
  | n + 1, v => v % 2 + popF n (v / 2)
def popN (v : Nat) : Nat := popF 14 v
theorem popF_le : ∀ (n v : Nat), popF n v ≤ n
  | 0, _ => by unfold popF; omega
  | n + 1, v => by
    have := popF_le n (v / 2)
    unfold popF
    omega
def bc1 (x : Int) : Int := x - zand (zushr x 1) 1431655765
def bc2 (x : Int) : Int := zand x 858993459 + zand (zushr x 2) 858993459
def bc3 (x : Int) : Int := x + zushr x 4
def bc4 (x : Int) : Int := zand x 252645135 + zushr (zand x 252645135) 8
def bc5 (x : Int) : Int := x + zushr x 16
def bIn (x : Int) : Bool := decide (-2147483648 ≤ x) && decide (x ≤ 2147483647)
theorem bIn_of {x : Int} (h : bIn x = true) : -2147483648 ≤ x ∧ x ≤ 2147483647 := by
  unfold bIn at h
  simp at h
  exact h
def bcOk (v : Nat) : Bool := bIn (bc1 v) && bIn (bc2 (bc1 v)) && bIn (bc3 (bc2 (bc1 v))) && bIn (bc4 (bc3 (bc2 (bc1 v)))) && bIn (bc5 (bc4 (bc3 (bc2 (bc1 v))))) && decide (zand (bc5 (bc4 (bc3 (bc2 (bc1 v))))) 63 = (popN v : Int))
theorem bc_0 : ∀ b : Nat, b < 1024 → bcOk (0 + b) = true := by decide +kernel
theorem bc_1 : ∀ b : Nat, b < 1024 → bcOk (1024 + b) = true := by decide +kernel
theorem bc_2 : ∀ b : Nat, b < 1024 → bcOk (2048 + b) = true := by decide +kernel
theorem bc_3 : ∀ b : Nat, b < 1024 → bcOk (3072 + b) = true := by decide +kernel
theorem bc_4 : ∀ b : Nat, b < 1024 → bcOk (4096 + b) = true := by decide +kernel
theorem bc_5 : ∀ b : Nat, b < 1024 → bcOk (5120 + b) = true := by decide +kernel
theorem bc_6 : ∀ b : Nat, b < 1024 → bcOk (6144 + b) = true := by decide +kernel
theorem bc_7 : ∀ b : Nat, b < 1024 → bcOk (7168 + b) = true := by decide +kernel
theorem bc_8 : ∀ b : Nat, b < 1024 → bcOk (8192 + b) = true := by decide +kernel
theorem bc_9 : ∀ b : Nat, b < 1024 → bcOk (9216 + b) = true := by decide +kernel
theorem bc_10 : ∀ b : Nat, b < 1024 → bcOk (10240 + b) = true := by decide +kernel
theorem bc_11 : ∀ b : Nat, b < 1024 → bcOk (11264 + b) = true := by decide +kernel
theorem bc_12 : ∀ b : Nat, b < 1024 → bcOk (12288 + b) = true := by decide +kernel
theorem bc_13 : ∀ b : Nat, b < 1024 → bcOk (13312 + b) = true := by decide +kernel
theorem bc_14 : ∀ b : Nat, b < 1024 → bcOk (14336 + b) = true := by decide +kernel
theorem bc_15 : ∀ b : Nat, b < 1024 → bcOk (15360 + b) = true := by decide +kernel
theorem bc_all (v : Nat) (hv : v < 16384) : bcOk v = true := by
  by_cases h0 : v < 1024
  · have := bc_0 (v - 0) (by omega)
    rw [show 0 + (v - 0) = v by omega] at this
    exact this
  by_cases h1 : v < 2048
  · have := bc_1 (v - 1024) (by omega)
    rw [show 1024 + (v - 1024) = v by omega] at this
    exact this
  by_cases h2 : v < 3072
  · have := bc_2 (v - 2048) (by omega)
    rw [show 2048 + (v - 2048) = v by omega] at this
    exact this
  by_cases h3 : v < 4096
  · have := bc_3 (v - 3072) (by omega)
    rw [show 3072 + (v - 3072) = v by omega] at this
    exact this
  by_cases h4 : v < 5120
  · have := bc_4 (v - 4096) (by omega)
    rw [show 4096 + (v - 4096) = v by omega] at this
    exact this
  by_cases h5 : v < 6144
  · have := bc_5 (v - 5120) (by omega)
    rw [show 5120 + (v - 5120) = v by omega] at this
    exact this
  by_cases h6 : v < 7168
  · have := bc_6 (v - 6144) (by omega)
    rw [show 6144 + (v - 6144) = v by omega] at this
    exact this
  by_cases h7 : v < 8192
  · have := bc_7 (v - 7168) (by omega)
    rw [show 7168 + (v - 7168) = v by omega] at this
    exact this
  by_cases h8 : v < 9216
  · have := bc_8 (v - 8192) (by omega)
    rw [show 8192 + (v - 8192) = v by omega] at this
    exact this
  by_cases h9 : v < 10240
  · have := bc_9 (v - 9216) (by omega)
    rw [show 9216 + (v - 9216) = v by omega] at this
    exact this
  by_cases h10 : v < 11264
  · have := bc_10 (v - 10240) (by omega)
    rw [show 10240 + (v - 10240) = v by omega] at this
    exact this
  by_cases h11 : v < 12288
  · have := bc_11 (v - 11264) (by omega)
    rw [show 11264 + (v - 11264) = v by omega] at this
    exact this
  by_cases h12 : v < 13312
  · have := bc_12 (v - 12288) (by omega)
    rw [show 12288 + (v - 12288) = v by omega] at this
    exact this
  by_cases h13 : v < 14336
  · have := bc_13 (v - 13312) (by omega)
    rw [show 13312 + (v - 13312) = v by omega] at this
    exact this
  by_cases h14 : v < 15360
  · have := bc_14 (v - 14336) (by omega)
    rw [show 14336 + (v - 14336) = v by omega] at this
    exact this
  have := bc_15 (v - 15360) (by omega)
  rw [show 15360 + (v - 15360) = v by omega] at this
  exact this
theorem qJ6_bitCount {σ : Hp} {K : Int → Hp → Prop} {v : Nat} (hv : v < 16384) (h : K (popN v) σ) : Runs 0 mJ6_bitCount_0f7a4 0 [zI (v : Int)] [] σ (rI K) := by
  have hb := bc_all v hv
  unfold bcOk at hb
  simp only [Bool.and_eq_true, decide_eq_true_eq] at hb
  obtain ⟨⟨⟨⟨⟨h1, h2⟩, h3⟩, h4⟩, h5⟩, h6⟩ := hb
  refine gJ6_bitCount_0f7a4_0 (v : Int) σ ⟨bIn_of h1, bIn_of h2, bIn_of h3, bIn_of h4, bIn_of h5, fun z e => ?_⟩
  have e2 : zand z 63 = (popN v : Int) := by rw [e]; exact h6
  rw [e2]
  exact h
theorem pX11_bits {σ : Hp} {K : Int → Hp → Prop} {v : Nat} (hv : v < 16384) (h : K (popN v) σ) : Runs 0 mX11_bits 0 [zI (v : Int), zU, zU] [] σ (rI K) := by
  have loop : ∀ (n w a : Nat), w < 2 ^ n → n ≤ 14 → a + popF n w = popN v → a ≤ 14 → Runs 0 mX11_bits 4 [zU, zI (a : Int), zI (w : Int)] [] σ (rI K) := by
    intro n
    induction n with
    | zero =>
      intro w a hw _ he _
      refine gX11_bits_4 (a : Int) (w : Int) σ ⟨fun _ => ?_, fun q => absurd (show (w : Int) ≤ 0 by omega) q⟩
      have : a = popN v := by rw [← he]; rfl
      rw [this]
      exact h
    | succ n ih =>
      intro w a hw hn he ha
      by_cases hz : w = 0
      · refine gX11_bits_4 (a : Int) (w : Int) σ ⟨fun _ => ?_, fun q => absurd (show (w : Int) ≤ 0 by omega) q⟩
        have pz : ∀ k, popF k 0 = 0 := fun k => by
          induction k with
          | zero => rfl
          | succ k ik => unfold popF; rw [show 0 / 2 = 0 from rfl, ik]
        rw [hz, pz] at he
        rw [show a = popN v by omega]
        exact h
      · refine gX11_bits_4 (a : Int) (w : Int) σ ⟨fun q => absurd q (by omega), fun _ => ?_⟩
        have hw14 : w < 2 ^ 14 := Nat.lt_of_lt_of_le hw (Nat.pow_le_pow_right (by omega) hn)
        have hw2 : w < 16384 := hw14
        rw [n32_and1, zshr_eq ⟨by omega, by omega⟩ (by omega), show ((1 : Int).toNat) = 1 from rfl, show ((2 : Int) ^ 1) = 2 from rfl]
        have e1 : (a : Int) + (w : Int) % 2 = ((a + w % 2 : Nat) : Int) := by omega
        have e2 : (w : Int) / 2 = ((w / 2 : Nat) : Int) := by omega
        rw [e1, e2]
        unfold popF at he
        have le := popF_le 14 v
        have : popN v ≤ 14 := le
        refine ⟨by omega, ih (w / 2) (a + w % 2) ?_ (by omega) (by omega) (by omega)⟩
        rw [Nat.pow_succ] at hw
        omega
  exact gX11_bits_0 (v : Int) σ (loop 14 v 0 hv (Nat.le_refl _) (by unfold popN; omega) (by omega))
