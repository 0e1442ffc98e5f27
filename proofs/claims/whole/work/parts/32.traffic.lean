/-! the class's traffic, held against the town of the reference -/
def tAlong (σ : Hp) (a b e : Int) : Hp := if e = -9 then σ else zup σ 18 0 b.toNat (if e + σ 4 0 a.toNat < σ 18 0 b.toNat then e + σ 4 0 a.toNat else σ 18 0 b.toNat)
theorem pX8_goAlongB {σ : Hp} {K' : Hp → Prop} {s t e : Int} (cs : 0 ≤ s ∧ s < 14) (ct : 0 ≤ t ∧ t < 10) (ce : -9 ≤ e ∧ e ≤ 1000000) (cw : 0 ≤ σ 4 0 s.toNat ∧ σ 4 0 s.toNat ≤ 60) (h : K' (tAlong σ s t e)) : Runs 1 mX8_goAlong 0 [zR 17 0, zI s, zI t, zI e] [] σ (rV K') := by
  unfold tAlong at h
  refine pX8_goAlong cs ct ce cw (fun q => ?_) (fun q => ?_)
  · rw [if_pos q] at h; exact h
  · rw [if_neg q] at h; exact h
def TRc (σ : Hp) (s : Nat → Int) : Prop := σ 16 0 1 = s 8 ∧ σ 16 0 2 = s 7 ∧ σ 16 0 3 = s 9 ∧ inR (σ 16 0 4) ∧ ∀ t : Int, 0 ≤ t → t < s 1 → bitz (σ 16 0 4) t = ebit s t ∧ bitz (σ 16 0 5) t = bitz (s 4) t ∧ (bitz (σ 16 0 6) t = 1 ↔ (bitz (s 5) t = 1 ∨ (s 8 = 1 ∧ sg s t 3 = 1)))
def TMs (σ : Hp) (s : Nat → Int) : Prop := σ 1 0 0 = s 0 ∧ σ 1 0 1 = s 1 ∧ ∀ t : Int, 0 ≤ t → t < s 1 → σ 2 0 t.toNat = sg s t 0 ∧ σ 3 0 t.toNat = sg s t 1 ∧ σ 4 0 t.toNat = sg s t 2
def Std (σ : Hp) (s : Nat → Int) (m : Int) : Prop := σ 16 0 7 = m ∧ σ 16 0 8 = nextS s m ∧ ∀ t : Int, 0 ≤ t → t < s 1 → bitz (σ 16 0 9) t = (ebit s t + turnsS s m) % 2
theorem tStand_keep {σ : Hp} {m : Int} : (∀ j, j < 7 → (tStand σ m) 16 0 j = σ 16 0 j) ∧ Off [16] σ (tStand σ m) := by
  unfold tStand
  refine ⟨fun j hj => ?_, ((Off.rf.up (by decide)).up (by decide)).up (by decide)⟩
  simp [zup, show j ≠ 7 by omega, show j ≠ 8 by omega, show j ≠ 9 by omega]
theorem TRc.keep {σ σ' : Hp} {s : Nat → Int} (h : TRc σ s) (hk : ∀ j, j < 7 → σ' 16 0 j = σ 16 0 j) : TRc σ' s := by
  unfold TRc
  rw [hk 1 (by omega), hk 2 (by omega), hk 3 (by omega), hk 4 (by omega), hk 5 (by omega), hk 6 (by omega)]
  exact h
theorem TMs.keep {σ σ' : Hp} {s : Nat → Int} {G : List Nat} (h : TMs σ s) (hk : Off G σ σ') (h1 : 1 ∉ G) (h2 : 2 ∉ G) (h3 : 3 ∉ G) (h4 : 4 ∉ G) : TMs σ' s := by
  unfold TMs
  rw [hk 1 h1, hk 2 h2, hk 3 h3, hk 4 h4]
  exact h
theorem Std.of {σ : Hp} {s : Nat → Int} {m : Int} (hw : WF s) (h : TRc σ s) (hm : 0 ≤ m) : Std (tStand σ m) s m := by
  obtain ⟨h1, h2, h3, h4, h5⟩ := h
  have hw1 := hw.2.1
  have et : tTurns σ m = turnsS s m := by unfold tTurns turnsS; rw [h1, h2, h3]
  have en : tTurn σ m = turnS s m := by unfold tTurn turnS; rw [h1, h2, h3]
  refine ⟨by simp [tStand, zup], ?_, fun t ht0 ht1 => ?_⟩
  · have : tNext σ m = nextS s m := by unfold tNext nextS; rw [en]
    simp [tStand, zup, this]
  · have e9 : (tStand σ m) 16 0 9 = tThen σ m := by simp [tStand, zup]
    rw [e9]
    unfold tThen
    rw [et]
    have hb := ebit_01 s t
    have hn := turnsS_nn hw m
    split
    · rename_i q
      rw [bitz_not h4 (by omega), (h5 t ht0 ht1).1]
      omega
    · rename_i q
      rw [(h5 t ht0 ht1).1]
      omega
theorem tEnt_eq {σ : Hp} {s : Nat → Int} {m t e : Int} (h : TRc σ s) (hs : Std σ s m) (ht : 0 ≤ t ∧ t < s 1) (he : e = 0 ∨ e = 1) : tEnt σ t e = entS s t e m := by
  obtain ⟨h1, h2, h3, h4, h5⟩ := h
  obtain ⟨a1, a2, a3⟩ := hs
  obtain ⟨b1, b2, b3⟩ := h5 t ht.1 ht.2
  unfold tEnt entS wayS
  rw [a1, a2, b2, a3 t ht.1 ht.2]
  by_cases c1 : bitz (s 4) t = 1
  · rw [if_pos (Or.inr c1), if_pos (Or.inl c1)]
  · by_cases c2 : 2879 < m
    · rw [if_pos (Or.inl c2), if_pos (Or.inr c2)]
    · rw [if_neg (show ¬ (2879 < m ∨ bitz (s 4) t = 1) from fun q => q.elim c2 c1), if_neg (show ¬ (bitz (s 4) t = 1 ∨ 2879 < m) from fun q => q.elim c1 c2), if_neg c1]
      by_cases c3 : bitz (s 5) t = 1 ∨ (s 8 = 1 ∧ sg s t 3 = 1)
      · rw [if_pos (Or.inl (b3.mpr c3)), if_pos c3, if_pos (Or.inl rfl)]
      · have c4 : ¬ bitz (σ 16 0 6) t = 1 := fun q => c3 (b3.mp q)
        rw [if_neg c3]
        by_cases c5 : (ebit s t + turnsS s m) % 2 = e
        · rw [if_pos (Or.inr c5), if_pos (Or.inr c5)]
        · rw [if_neg (show ¬ (bitz (σ 16 0 6) t = 1 ∨ (ebit s t + turnsS s m) % 2 = e) from fun q => q.elim c4 c5), if_neg (show ¬ ((ebit s t + turnsS s m) % 2 = 2 ∨ (ebit s t + turnsS s m) % 2 = e) from fun q => q.elim (fun z => by omega) c5)]
theorem tWay_eq {σ : Hp} {s : Nat → Int} {m t : Int} (h : TRc σ s) (hs : Std σ s m) (ht : 0 ≤ t ∧ t < s 1) : tWay σ t = wayS s t m := by
  obtain ⟨h1, h2, h3, h4, h5⟩ := h
  obtain ⟨a1, a2, a3⟩ := hs
  obtain ⟨b1, b2, b3⟩ := h5 t ht.1 ht.2
  unfold tWay wayS
  rw [b2, a3 t ht.1 ht.2]
  by_cases c1 : bitz (s 4) t = 1
  · rw [if_pos c1, if_pos c1]
  · rw [if_neg c1, if_neg c1]
    by_cases c3 : bitz (s 5) t = 1 ∨ (s 8 = 1 ∧ sg s t 3 = 1)
    · rw [if_pos (b3.mpr c3), if_pos c3]
    · rw [if_neg (fun q => c3 (b3.mp q)), if_neg c3]
def wn (n c : Nat) : Int := if c < n then 1 else 0
theorem cnt10_wn : ∀ n, n < 11 → cnt10 (wn n) = (n : Int) := by decide
theorem cnt10_n {z : Nat → Int} {n : Nat} (hn : n < 11) (h : ∀ c, c < 10 → z c ≤ wn n c) : cnt10 z ≤ n := by
  have e := cnt10_wn n hn
  have h0 := h 0 (by omega); have h1 := h 1 (by omega); have h2 := h 2 (by omega); have h3 := h 3 (by omega); have h4 := h 4 (by omega)
  have h5 := h 5 (by omega); have h6 := h 6 (by omega); have h7 := h 7 (by omega); have h8 := h 8 (by omega); have h9 := h 9 (by omega)
  rw [← e]
  unfold cnt10
  omega
/-- a bit more -/
theorem pow14 {b : Nat} (hb : b < 14) : ∃ p : Nat, 2 ^ b = p ∧ p < 16384 ∧ zshl 1 (b : Int) = (p : Int) := by
  refine ⟨2 ^ b, rfl, Nat.pow_lt_pow_right (n := 14) (by omega) hb, ?_⟩
  rw [zshl_eq (by omega)]
  norm_cast
theorem bitz_or {a : Int} (ha : 0 ≤ a ∧ a < 16384) {b : Nat} (hb : b < 14) (t : Nat) (ht : t < 32) : bitz (zor a (zshl 1 (b : Int))) (t : Int) = if t = b then 1 else bitz a (t : Int) := by
  obtain ⟨p, hp, hlt, hs⟩ := pow14 hb
  rw [hs, zor_nat (by omega) (by omega)]
  have hor : a.toNat ||| p < 2 ^ 14 := Nat.or_lt_two_pow (by omega) (by omega)
  have e1 : ((p : Nat) : Int).toNat = p := rfl
  rw [e1, bitz_tb ⟨by omega, by omega⟩ (by omega), bitz_tb (by omega) (by omega)]
  rw [show ((a.toNat ||| p : Nat) : Int).toNat = a.toNat ||| p from rfl, show ((t : Int)).toNat = t from rfl, Nat.testBit_or, ← hp, Nat.testBit_two_pow]
  by_cases q : t = b
  · subst q; simp
  · rw [if_neg q]
    simp [show ¬ b = t from fun z => q z.symm]
theorem zor_lt {a : Int} (ha : 0 ≤ a ∧ a < 16384) {b : Nat} (hb : b < 14) : 0 ≤ zor a (zshl 1 (b : Int)) ∧ zor a (zshl 1 (b : Int)) < 16384 := by
  obtain ⟨p, hp, hlt, hs⟩ := pow14 hb
  have e1 : ((p : Nat) : Int).toNat = p := rfl
  rw [hs, zor_nat (by omega) (by omega), e1]
  have hor : a.toNat ||| p < 2 ^ 14 := Nat.or_lt_two_pow (by omega) (by omega)
  omega
theorem bitz_0 (t : Int) : bitz 0 t = 0 := by
  show zand (zshr 0 t) 1 = 0
  have : zshr 0 t = 0 := by
    unfold zshr
    have : (n32 0 >>> (n32 t &&& 31)) = 0 := by
      show (0 : Int32) >>> (n32 t &&& 31) = 0
      exact Int32.zero_shiftRight
    rw [this]
    rfl
  rw [this]
  decide
