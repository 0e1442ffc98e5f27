/-! the small methods -/
def zwithin (v a b : Int) : Int := if v < a then -4 else if b < v then -6 else 0
def sg (s : Nat → Int) (t k : Int) : Int := s (11 + 5 * t + k).toNat
def se (s : Nat → Int) (t k : Int) : Int := s (81 + 4 * t + k).toNat
def zsign (σ : Hp) : Int := if σ 34 0 8 < σ 34 0 7 then σ 39 0 (σ 34 0 8).toNat else -1
def zmost (a : Int) : Int := if a = 0 then 1439 else if a = 1 then 4 else if a = 2 then 720 else 9
def zbyte (σ : Hp) (p : Int) : Int := if 0 ≤ p ∧ p < σ 12 0 1 then σ 13 0 p.toNat else -1
def zmin (σ : Hp) (c : Int) : Int := if σ 18 0 c.toNat = 1000000 then -9 else σ 18 0 c.toNat
def tTurns (σ : Hp) (m : Int) : Int := if σ 16 0 1 = 4 then 0 else if m < σ 16 0 2 then 0 else if σ 16 0 1 = 2 then 1 + (m - σ 16 0 2) / σ 16 0 3 else 1
def tTurn (σ : Hp) (m : Int) : Int := if σ 16 0 1 = 4 then -9 else if m < σ 16 0 2 then σ 16 0 2 else if σ 16 0 1 = 2 then σ 16 0 2 + (1 + (m - σ 16 0 2) / σ 16 0 3) * σ 16 0 3 else -9
def tNext (σ : Hp) (m : Int) : Int := if tTurn σ m ≤ 2879 then tTurn σ m else -9
def tThen (σ : Hp) (m : Int) : Int := if tTurns σ m % 2 = 1 then zxor (σ 16 0 4) (-1) else σ 16 0 4
def tStand (σ : Hp) (m : Int) : Hp := zup (zup (zup σ 16 0 7 m) 16 0 8 (tNext σ m)) 16 0 9 (tThen σ m)
def tWay (σ : Hp) (t : Int) : Int := if bitz (σ 16 0 5) t = 1 then 3 else if bitz (σ 16 0 6) t = 1 then 2 else bitz (σ 16 0 9) t
def tEnt (σ : Hp) (t e : Int) : Int := if 2879 < σ 16 0 7 ∨ bitz (σ 16 0 5) t = 1 then -9 else if bitz (σ 16 0 6) t = 1 ∨ bitz (σ 16 0 9) t = e then σ 16 0 7 else σ 16 0 8
def tBits (σ : Hp) (b : Int) : Int := if σ 16 0 1 = 3 ∧ σ 11 0 3 % 2 = 1 then zxor b (-1) else b
def tOpen (σ : Hp) (b : Int) : Int := if σ 16 0 1 = 1 then zor (σ 1 0 4) b else b
section Small
variable {σ : Hp} {K : Int → Hp → Prop} {K' : Hp → Prop}
theorem pX11_isIn {a0 a1 : Int} (h1 : 0 ≤ a0 ∧ a0 < a1 → K 1 σ) (h0 : ¬ (0 ≤ a0 ∧ a0 < a1) → K 0 σ) : Runs 0 mX11_isIn 0 [zI a0, zI a1] [] σ (rI K) :=
  gX11_isIn_0 a0 a1 σ ⟨fun c => h0 (by omega), fun c => ⟨fun c2 => h0 (by omega), fun c2 => h1 (by omega)⟩⟩
theorem pX11_within {a0 a1 a2 : Int} (h : K (zwithin a0 a1 a2) σ) : Runs 0 mX11_within 0 [zI a0, zI a1, zI a2] [] σ (rI K) := by
  refine gX11_within_0 a0 a1 a2 σ ⟨fun c => ⟨fun c2 => ?_, fun c2 => ?_⟩, fun c => ?_⟩
  · rw [show zwithin a0 a1 a2 = 0 by unfold zwithin; rw [if_neg (by omega), if_neg (by omega)]] at h; exact h
  · rw [show zwithin a0 a1 a2 = -6 by unfold zwithin; rw [if_neg (by omega), if_pos (by omega)]] at h; exact h
  · rw [show zwithin a0 a1 a2 = -4 by unfold zwithin; rw [if_pos (by omega)]] at h; exact h
theorem pX11_get {t k : Int} (c : 0 ≤ t ∧ t < 14) (c2 : (0 : Int) ≤ k ∧ k < 5) (h : K (sg (σ 36 0) t k) σ) : Runs 0 mX11_get 0 [zR 34 0, zI t, zI k] [] σ (rI K) :=
  gX11_get_0 t k σ ⟨by omega, by omega, by omega, by omega, h⟩
theorem pX11_of {t k : Int} (c : 0 ≤ t ∧ t < 8) (c2 : (0 : Int) ≤ k ∧ k < 4) (h : K (se (σ 36 0) t k) σ) : Runs 0 mX11_of 0 [zR 34 0, zI t, zI k] [] σ (rI K) :=
  gX11_of_0 t k σ ⟨by omega, by omega, by omega, by omega, h⟩
theorem pX11_refuse {n : Int} (c : -6 ≤ n ∧ n ≤ -1) (c2 : σ 35 0 (-n).toNat ≤ 2147483646) (h : K n (zup σ 35 0 (-n).toNat (σ 35 0 (-n).toNat + 1))) : Runs 0 mX11_refuse 0 [zR 34 0, zI n] [] σ (rI K) := by
  refine Runs.okh (fun oH _ _ => ?_)
  have := oH 35 0 (-n).toNat
  unfold inR at this
  exact gX11_refuse_0 n σ ⟨by omega, by omega, by omega, by omega, h⟩
theorem pX11_sign (c : 0 ≤ σ 34 0 8 ∧ σ 34 0 7 ≤ 64) (h : K (zsign σ) σ) : Runs 0 mX11_sign 0 [zR 34 0] [] σ (rI K) := by
  refine gX11_sign_0 σ ⟨fun c1 => ⟨by omega, ?_⟩, fun c1 => ?_⟩
  · rw [show zsign σ = σ 39 0 (σ 34 0 8).toNat by unfold zsign; rw [if_pos c1]] at h; exact h
  · rw [show zsign σ = -1 by unfold zsign; rw [if_neg c1]] at h; exact h
theorem pX11_becomes {a v : Int} (c : 0 ≤ a ∧ a < 123) (h : K (σ 36 0 a.toNat) (zup σ 36 0 a.toNat v)) : Runs 0 mX11_becomes 0 [zR 34 0, zI a, zI v, zU] [] σ (rI K) :=
  gX11_becomes_0 a v σ ⟨c, c, h⟩
theorem pX11_most {a : Int} (h : K (zmost a) σ) : Runs 0 mX11_most 0 [zI a] [] σ (rI K) := by
  refine gX11_most_0 a σ ⟨fun c => ⟨fun c2 => ⟨fun c3 => ?_, fun c3 => ?_⟩, fun c2 => ?_⟩, fun c => ?_⟩
  · rw [show zmost a = 9 by unfold zmost; rw [if_neg c, if_neg c2, if_neg c3]] at h; exact h
  · rw [show zmost a = 720 by unfold zmost; rw [if_neg c, if_neg c2, if_pos c3]] at h; exact h
  · rw [show zmost a = 4 by unfold zmost; rw [if_neg c, if_pos c2]] at h; exact h
  · rw [show zmost a = 1439 by unfold zmost; rw [if_pos c]] at h; exact h
theorem pX10_bitOf {a b : Int} (h : K (bitz a b) σ) : Runs 0 mX10_bitOf 0 [zI a, zI b] [] σ (rI K) := gX10_bitOf_0 a b σ h
theorem pX6_hasCorner {t : Nat} {a0 : Int} (h1 : 0 ≤ a0 ∧ a0 < σ 1 t 0 → K 1 σ) (h0 : ¬ (0 ≤ a0 ∧ a0 < σ 1 t 0) → K 0 σ) : Runs 0 mX6_hasCorner 0 [zR 1 t, zI a0] [] σ (rI K) :=
  gX6_hasCorner_0 a0 t σ ⟨fun c => h0 (by omega), fun c => ⟨fun c2 => h0 (by omega), fun c2 => h1 (by omega)⟩⟩
theorem pX6_hasStreet {t : Nat} {a0 : Int} (h1 : 0 ≤ a0 ∧ a0 < σ 1 t 1 → K 1 σ) (h0 : ¬ (0 ≤ a0 ∧ a0 < σ 1 t 1) → K 0 σ) : Runs 0 mX6_hasStreet 0 [zR 1 t, zI a0] [] σ (rI K) :=
  gX6_hasStreet_0 a0 t σ ⟨fun c => h0 (by omega), fun c => ⟨fun c2 => h0 (by omega), fun c2 => h1 (by omega)⟩⟩
theorem pX6_hasErrand {t : Nat} {a0 : Int} (h1 : 0 ≤ a0 ∧ a0 < σ 1 t 2 → K 1 σ) (h0 : ¬ (0 ≤ a0 ∧ a0 < σ 1 t 2) → K 0 σ) : Runs 0 mX6_hasErrand 0 [zR 1 t, zI a0] [] σ (rI K) :=
  gX6_hasErrand_0 a0 t σ ⟨fun c => h0 (by omega), fun c => ⟨fun c2 => h0 (by omega), fun c2 => h1 (by omega)⟩⟩
theorem pX10_refuse {n : Int} (c : -6 ≤ n ∧ n ≤ -1) (c2 : σ 33 0 (-n).toNat ≤ 2147483646) (h : K n (zup σ 33 0 (-n).toNat (σ 33 0 (-n).toNat + 1))) : Runs 0 mX10_refuse 0 [zR 0 0, zI n] [] σ (rI K) := by
  refine Runs.okh (fun oH _ _ => ?_)
  have := oH 33 0 (-n).toNat
  unfold inR at this
  exact gX10_refuse_0 n σ ⟨fun q => absurd q (by omega), fun _ => ⟨fun q => absurd q (by omega), fun _ => ⟨by omega, by omega, by omega, by omega, h⟩⟩⟩
theorem pX10_refusalOfMinute {a0 : Int} (h : K (zwithin a0 0 2879) σ) : Runs 0 mX10_refusalOfMinute 0 [zR 0 0, zI a0] [] σ (rI K) := by
  refine gX10_refusalOfMinute_0 a0 σ ⟨fun c => ⟨fun c2 => ?_, fun c2 => ?_⟩, fun c => ?_⟩
  · rw [show zwithin a0 0 2879 = 0 by unfold zwithin; rw [if_neg (by omega), if_neg (by omega)]] at h; exact h
  · rw [show zwithin a0 0 2879 = -6 by unfold zwithin; rw [if_neg (by omega), if_pos (by omega)]] at h; exact h
  · rw [show zwithin a0 0 2879 = -4 by unfold zwithin; rw [if_pos (by omega)]] at h; exact h
theorem pX5_byteAt {p : Int} (c : σ 12 0 1 ≤ 64) (h : K (zbyte σ p) σ) : Runs 0 mX5_byteAt 0 [zR 12 0, zI p] [] σ (rI K) := by
  refine gX5_byteAt_0 p σ ⟨fun c1 => ?_, fun c1 => ⟨fun c2 => ?_, fun c2 => ⟨by omega, ?_⟩⟩⟩
  · rw [show zbyte σ p = -1 by unfold zbyte; rw [if_neg (by omega)]] at h; exact h
  · rw [show zbyte σ p = -1 by unfold zbyte; rw [if_neg (by omega)]] at h; exact h
  · rw [show zbyte σ p = σ 13 0 p.toNat by unfold zbyte; rw [if_pos (by omega)]] at h; exact h
theorem pX3_isDigit {a0 : Int} (h1 : 48 ≤ a0 ∧ a0 ≤ 57 → K 1 σ) (h0 : ¬ (48 ≤ a0 ∧ a0 ≤ 57) → K 0 σ) : Runs 0 mX3_isDigit 0 [zI a0] [] σ (rI K) :=
  gX3_isDigit_0 a0 σ ⟨fun c => h0 (by omega), fun c => ⟨fun c2 => h0 (by omega), fun c2 => h1 (by omega)⟩⟩
theorem pX8_minuteAt {c : Int} (hc : 0 ≤ c ∧ c < 10) (h : K (zmin σ c) σ) : Runs 0 mX8_minuteAt 0 [zR 17 0, zI c] [] σ (rI K) := by
  refine gX8_minuteAt_0 c σ ⟨hc, fun c1 => ⟨hc, ?_⟩, fun c1 => ?_⟩
  · rw [show zmin σ c = σ 18 0 c.toNat by unfold zmin; rw [if_neg c1]] at h; exact h
  · rw [show zmin σ c = -9 by unfold zmin; rw [if_pos c1]] at h; exact h
theorem pX7_turnAt {n : Int} (h : K' (zup σ 16 0 2 n)) : Runs 0 mX7_turnAt 0 [zR 16 0, zI n] [] σ (rV K') := gX7_turnAt_0 n σ h
theorem pX7_shutAlso {n : Int} (h : K' (zup σ 16 0 5 (zor (σ 1 0 5) (zshl 1 n)))) : Runs 0 mX7_shutAlso 0 [zR 16 0, zI n] [] σ (rV K') := gX7_shutAlso_0 n σ h
theorem pX7_pointAs {n : Int} (h : K' (zup σ 16 0 4 (tBits σ n))) : Runs 0 mX7_pointAs 0 [zR 16 0, zI n, zU] [] σ (rV K') := by
  refine gX7_pointAs_0 n σ ⟨fun c => ?_, fun c => ⟨fun c2 => ?_, fun c2 => ?_⟩⟩
  · rw [show tBits σ n = n by unfold tBits; rw [if_neg (fun q => c q.1)]] at h; exact h
  · rw [n32_and1] at c2; rw [show tBits σ n = n by unfold tBits; rw [if_neg (fun q => c2 q.2)]] at h; exact h
  · rw [n32_and1] at c2; rw [show tBits σ n = zxor n (-1) by unfold tBits; rw [if_pos ⟨c, c2⟩]] at h; exact h
theorem pX7_openBothWays {n : Int} (h : K' (zup σ 16 0 6 (tOpen σ n))) : Runs 0 mX7_openBothWays 0 [zR 16 0, zI n] [] σ (rV K') := by
  refine gX7_openBothWays_0 n σ ⟨fun c => ?_, fun c => ?_⟩
  · rw [show tOpen σ n = n by unfold tOpen; rw [if_neg c]] at h; exact h
  · rw [show tOpen σ n = zor (σ 1 0 4) n by unfold tOpen; rw [if_pos c]] at h; exact h
theorem pX7_entryOf {t e : Int} (h : K (tEnt σ t e) σ) : Runs 0 mX7_entryOf 0 [zR 16 0, zI t, zI e] [] σ (rI K) := by
  unfold tEnt at h
  refine gX7_entryOf_0 t e σ ⟨fun c => ?_, fun c => ⟨fun c2 => ⟨fun c3 => ?_, fun c3 => ⟨fun c4 => ?_, fun c4 => ?_⟩⟩, fun c2 => ?_⟩⟩
  · rw [if_pos (Or.inl c)] at h; exact h
  · rw [if_neg (fun q => q.elim c c2), if_pos (Or.inl c3)] at h; exact h
  · rw [if_neg (fun q => q.elim c c2), if_neg (fun q => q.elim c3 c4)] at h; exact h
  · rw [if_neg (fun q => q.elim c c2), if_pos (Or.inr c4)] at h; exact h
  · rw [if_pos (Or.inr c2)] at h; exact h
theorem standEnd {l1 l2 l3 : Int} (e2 : l2 = tTurns σ l1) (e3 : l3 = tTurn σ l1) (h : K' (tStand σ l1)) : Runs 0 mX7_standAt 83 [zR 16 0, zI l1, zI l2, zI l3] [] σ (rV K') := by
  unfold tStand at h
  have n1 : l3 ≤ 2879 → tNext σ l1 = l3 := fun c => by unfold tNext; rw [← e3, if_pos c]
  have n2 : ¬ l3 ≤ 2879 → tNext σ l1 = -9 := fun c => by unfold tNext; rw [← e3, if_neg c]
  have b1 : zand l2 1 = 1 → tThen σ l1 = zxor (σ 16 0 4) (-1) := fun c => by rw [n32_and1] at c; unfold tThen; rw [← e2, if_pos c]
  have b2 : ¬ zand l2 1 = 1 → tThen σ l1 = σ 16 0 4 := fun c => by rw [n32_and1] at c; unfold tThen; rw [← e2, if_neg c]
  refine gX7_standAt_83 l1 l2 l3 σ ⟨fun c => ⟨fun c2 => ?_, fun c2 => ?_⟩, fun c => ⟨fun c2 => ?_, fun c2 σ1 hσ => ?_⟩⟩
  · rw [n1 c, b2 c2] at h; exact h
  · rw [n1 c, b1 c2] at h; exact h
  · rw [n2 c, b2 c2] at h; exact h
  · rw [n2 c, b1 c2] at h; subst hσ; exact h
theorem pX7_standAt {m : Int} (c1 : 0 ≤ σ 16 0 2 ∧ σ 16 0 2 ≤ 1439) (c2 : 10 ≤ σ 16 0 3 ∧ σ 16 0 3 ≤ 720) (c3 : 0 ≤ m ∧ m ≤ 1000000) (h : K' (tStand σ m)) : Runs 0 mX7_standAt 0 [zR 16 0, zI m, zU, zU] [] σ (rV K') := by
  have hd : ∀ q : Int, q = m - σ 16 0 2 → 0 ≤ q → zdiv q (σ 16 0 3) = q / σ 16 0 3 := fun q hq h0 => n32_quot ⟨by omega, by omega⟩ ⟨by omega, by omega⟩ h0 (by omega)
  have late : (σ 16 0 1 = 4 ∨ ¬ m < σ 16 0 2) → Runs 0 mX7_standAt 29 [zR 16 0, zI m, zI 0, zI (-9)] [] σ (rV K') := fun hl => by
    refine gX7_standAt_29 m 0 (-9) σ ⟨fun r => ?_, fun r => ⟨fun z => absurd z (by omega), fun z => ?_⟩⟩
    · refine gX7_standAt_73 m 0 (-9) σ ⟨fun r4 => ?_, fun r4 => ?_⟩
      · exact standEnd (by unfold tTurns; rw [if_pos r4]) (by unfold tTurn; rw [if_pos r4]) h
      · have hm : ¬ m < σ 16 0 2 := hl.resolve_left r4
        exact standEnd (by unfold tTurns; rw [if_neg r4, if_neg hm, if_neg r]) (by unfold tTurn; rw [if_neg r4, if_neg hm, if_neg r]) h
    · have r4 : ¬ σ 16 0 1 = 4 := by omega
      have hm : ¬ m < σ 16 0 2 := hl.resolve_left r4
      have q1 := Int.ediv_le_self (σ 16 0 3) (show 0 ≤ m - σ 16 0 2 by omega)
      have q0 := Int.ediv_nonneg (show 0 ≤ m - σ 16 0 2 by omega) (show 0 ≤ σ 16 0 3 by omega)
      have q2 := Int.ediv_mul_le (m - σ 16 0 2) (show σ 16 0 3 ≠ 0 by omega)
      have hmul : (1 + (m - σ 16 0 2) / σ 16 0 3) * σ 16 0 3 = σ 16 0 3 + (m - σ 16 0 2) / σ 16 0 3 * σ 16 0 3 := by rw [Int.add_mul, Int.one_mul]
      have hnn : 0 ≤ (m - σ 16 0 2) / σ 16 0 3 * σ 16 0 3 := Int.mul_nonneg q0 (by omega)
      rw [hd _ rfl (by omega)]
      refine ⟨by omega, by omega, by omega, ?_, ?_, ?_⟩
      · rw [hmul]; omega
      · rw [hmul]; omega
      · exact standEnd (by unfold tTurns; rw [if_neg r4, if_neg hm, if_pos r]) (by unfold tTurn; rw [if_neg r4, if_neg hm, if_pos r]) h
  refine gX7_standAt_0 m σ ⟨fun c => late (Or.inl c), fun c => ⟨fun c5 => late (Or.inr (by omega)), fun c5 => ?_⟩⟩
  exact standEnd (by unfold tTurns; rw [if_neg c, if_pos (by omega)]) (by unfold tTurn; rw [if_neg c, if_pos (by omega)]) h
end Small
