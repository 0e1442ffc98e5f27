/-! bits and quotients in plain numbers -/
theorem n32_and1 (a : Int) : zand a 1 = a % 2 := by
  unfold zand
  have h : (n32 a &&& n32 1).toBitVec = (n32 a).toBitVec &&& 1#32 := rfl
  have h2 : ((n32 a).toBitVec &&& 1#32).toNat = (n32 a).toBitVec.toNat % 2 := by
    rw [BitVec.toNat_and]
    show (n32 a).toBitVec.toNat &&& 1 = _
    exact Nat.and_one_is_mod _
  have h3 : (n32 a &&& n32 1).toInt = ((n32 a).toBitVec.toNat % 2 : Nat) := by
    show (n32 a &&& n32 1).toBitVec.toInt = _
    rw [h, BitVec.toInt_eq_toNat_of_lt (by rw [h2]; omega), h2]
  rw [h3]
  have h4 : ((n32 a).toBitVec.toNat : Int) = a % 4294967296 := by
    show ((BitVec.ofInt 32 a).toNat : Int) = _
    rw [BitVec.toNat_ofInt]
    have : (0 : Int) ≤ a % 4294967296 := Int.emod_nonneg _ (by omega)
    show ((a % (4294967296 : Int)).toNat : Int) = _
    omega
  omega
theorem sh_amount : ∀ b : Fin 32, ((n32 (b.val : Int) &&& 31).toBitVec.smod 32#32).toNat = b.val := by decide +kernel
theorem sh_amount' {b : Int} (h : 0 ≤ b ∧ b < 32) : ((n32 b &&& 31).toBitVec.smod 32#32).toNat = b.toNat := by
  have h1 := sh_amount ⟨b.toNat, by omega⟩
  have h2 : ((b.toNat : Nat) : Int) = b := by omega
  simp only [h2] at h1
  exact h1
theorem zshr_eq {a b : Int} (ha : inR a) (hb : 0 ≤ b ∧ b < 32) : zshr a b = a / 2 ^ b.toNat := by
  unfold zshr
  show ((n32 a).toBitVec.sshiftRight' ((n32 b &&& 31).toBitVec.smod 32#32)).toInt = _
  rw [BitVec.sshiftRight_eq', BitVec.toInt_sshiftRight, sh_amount' hb]
  have h1 : (n32 a).toBitVec.toInt = a := n32_canon ha
  rw [h1, Int.shiftRight_eq_div_pow]
  norm_cast
theorem bitz_eq {a b : Int} (ha : inR a) (hb : 0 ≤ b ∧ b < 32) : bitz a b = a / 2 ^ b.toNat % 2 := by
  show zand (zshr a b) 1 = _
  rw [n32_and1, zshr_eq ha hb]
theorem bitz_01 (a b : Int) : bitz a b = 0 ∨ bitz a b = 1 := by
  show zand (zshr a b) 1 = 0 ∨ zand (zshr a b) 1 = 1
  rw [n32_and1]
  omega
theorem zshl_1 : ∀ b : Fin 31, zshl 1 (b.val : Int) = 2 ^ b.val := by decide +kernel
theorem zshl_eq {b : Int} (hb : 0 ≤ b ∧ b < 31) : zshl 1 b = 2 ^ b.toNat := by
  have h1 := zshl_1 ⟨b.toNat, by omega⟩
  have h2 : ((b.toNat : Nat) : Int) = b := by omega
  simp only [h2] at h1
  exact h1
theorem n32_bvNat {a : Int} (h0 : 0 ≤ a) (h : a < 2147483648) : (n32 a).toBitVec.toNat = a.toNat := by
  show (BitVec.ofInt 32 a).toNat = _
  rw [BitVec.toNat_ofInt]
  show (a % (4294967296 : Int)).toNat = _
  rw [Int.emod_eq_of_lt h0 (by omega)]
theorem zor_nat {a b : Int} (ha : 0 ≤ a ∧ a < 2147483648) (hb : 0 ≤ b ∧ b < 2147483648) : zor a b = ((a.toNat ||| b.toNat : Nat) : Int) := by
  unfold zor
  have h : (n32 a ||| n32 b).toBitVec.toNat = a.toNat ||| b.toNat := by
    show ((n32 a).toBitVec ||| (n32 b).toBitVec).toNat = _
    rw [BitVec.toNat_or, n32_bvNat ha.1 ha.2, n32_bvNat hb.1 hb.2]
  have hlt : a.toNat ||| b.toNat < 2 ^ 31 := Nat.or_lt_two_pow (by omega) (by omega)
  show (n32 a ||| n32 b).toBitVec.toInt = _
  rw [BitVec.toInt_eq_toNat_of_lt (by rw [h]; omega), h]
theorem zxor_nat {a b : Int} (ha : 0 ≤ a ∧ a < 2147483648) (hb : 0 ≤ b ∧ b < 2147483648) : zxor a b = ((a.toNat ^^^ b.toNat : Nat) : Int) := by
  unfold zxor
  have h : (n32 a ^^^ n32 b).toBitVec.toNat = a.toNat ^^^ b.toNat := by
    show ((n32 a).toBitVec ^^^ (n32 b).toBitVec).toNat = _
    rw [BitVec.toNat_xor, n32_bvNat ha.1 ha.2, n32_bvNat hb.1 hb.2]
  have hlt : a.toNat ^^^ b.toNat < 2 ^ 31 := Nat.xor_lt_two_pow (by omega) (by omega)
  show (n32 a ^^^ n32 b).toBitVec.toInt = _
  rw [BitVec.toInt_eq_toNat_of_lt (by rw [h]; omega), h]
theorem zxor_not {a : Int} (ha : inR a) : zxor a (-1) = -a - 1 := by
  unfold zxor
  have h : (n32 a ^^^ n32 (-1)).toBitVec = ~~~ (n32 a).toBitVec := by
    show (n32 a).toBitVec ^^^ (n32 (-1)).toBitVec = _
    have : (n32 (-1)).toBitVec = BitVec.allOnes 32 := by decide
    rw [this, BitVec.xor_allOnes]
  show (n32 a ^^^ n32 (-1)).toBitVec.toInt = _
  rw [h, BitVec.toInt_not]
  have h2 : ((n32 a).toBitVec.toNat : Int) = a % 4294967296 := by
    show ((BitVec.ofInt 32 a).toNat : Int) = _
    rw [BitVec.toNat_ofInt]
    have : (0 : Int) ≤ a % 4294967296 := Int.emod_nonneg _ (by omega)
    show ((a % (4294967296 : Int)).toNat : Int) = _
    omega
  have hb : ∀ z : Int, z.bmod (2 ^ 32) = wrap z := fun z => (wrap_bmod z).symm
  rw [hb]
  unfold inR at ha
  unfold wrap
  omega
theorem tb_of (n t : Nat) : (n / 2 ^ t % 2 : Nat) = (n.testBit t).toNat := by
  rw [Nat.testBit_eq_decide_div_mod_eq]
  have := Nat.mod_two_eq_zero_or_one (n / 2 ^ t)
  rcases this with h | h <;> simp [h]
theorem bitz_tb {a t : Int} (ha : 0 ≤ a ∧ a < 2147483648) (ht : 0 ≤ t ∧ t < 32) : bitz a t = ((a.toNat.testBit t.toNat).toNat : Int) := by
  rw [bitz_eq ⟨by omega, by omega⟩ ht, ← tb_of]
  have : a = ((a.toNat : Nat) : Int) := by omega
  rw [this]
  norm_cast
theorem bitz_not {a t : Int} (ha : inR a) (ht : 0 ≤ t ∧ t < 32) : bitz (zxor a (-1)) t = 1 - bitz a t := by
  have hn : inR (-a - 1) := by unfold inR at *; omega
  rw [zxor_not ha, bitz_eq hn ht, bitz_eq ha ht]
  generalize hP : (2 : Int) ^ t.toNat = P
  have hpos : 0 < P := by rw [← hP]; exact Int.pow_pos (by omega)
  have e1 := Int.emod_add_mul_ediv a P
  have e2 := Int.emod_nonneg a (show P ≠ 0 by omega)
  have e3 := Int.emod_lt_of_pos a hpos
  have hq : (-a - 1) / P = -(a / P) - 1 := by
    have : -a - 1 = (P - 1 - a % P) + P * (-(a / P) - 1) := by
      have : P * (-(a / P) - 1) = -(P * (a / P)) - P := by rw [Int.mul_sub, Int.mul_neg]; omega
      omega
    rw [this, Int.add_mul_ediv_left _ _ (by omega), Int.ediv_eq_zero_of_lt (by omega) (by omega)]
    omega
  rw [hq]
  omega
theorem n32_quot {a b : Int} (ha : inR a) (hb : inR b) (h0 : 0 ≤ a) (h1 : 0 < b) : zdiv a b = a / b := by
  unfold zdiv
  rw [Int32.toInt_div, n32_canon ha, n32_canon hb, Int.tdiv_eq_ediv_of_nonneg h0]
  have hq : a / b ≤ a := Int.ediv_le_self b h0
  have hq0 : 0 ≤ a / b := Int.ediv_nonneg h0 (by omega)
  have := wrap_bmod (a / b)
  rw [wrap_eq ⟨by omega, by unfold inR at ha; omega⟩] at this
  exact this.symm
theorem zrem_eq {a b : Int} (ha : inR a) (hb : inR b) (h0 : 0 ≤ a) (h1 : 0 < b) : zrem a b = a % b := by
  have hd := n32_quot ha hb h0 h1
  unfold zdiv at hd
  unfold zrem
  have e : n32 a / n32 b = n32 (a / b) := by rw [← hd, n32_of]
  have e1 := Int.emod_add_mul_ediv a b
  have e2 := Int.emod_nonneg a (show b ≠ 0 by omega)
  have e3 := Int.emod_lt_of_pos a h1
  rw [e, n32_mul, n32_sub, n32_toInt]
  have hc : a / b * b = a - a % b := by rw [Int.mul_comm]; omega
  rw [hc]
  have hm : a % b ≤ a := by
    have := Int.mul_nonneg (show 0 ≤ b by omega) (Int.ediv_nonneg h0 (show 0 ≤ b by omega))
    omega
  unfold inR at ha
  rw [wrap_eq (z := a - a % b) ⟨by omega, by omega⟩, show a - (a - a % b) = a % b by omega]
  have hw : wrap (a % b) = a % b := wrap_eq ⟨by omega, by omega⟩
  rw [hw]
  try rw [hw]
