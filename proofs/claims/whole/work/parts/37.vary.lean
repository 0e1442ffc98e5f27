/-! the town with one number put otherwise in mind -/
def su (s : Nat → Int) (k : Nat) (v : Int) : Nat → Int := fun j => if j = k then v else s j
theorem su_ne {s : Nat → Int} {k j : Nat} {v : Int} (h : j ≠ k) : su s k v j = s j := if_neg h
theorem su_eq {s : Nat → Int} {k : Nat} {v : Int} : su s k v k = v := if_pos rfl
theorem sg_su {s : Nat → Int} {k : Nat} {v t j : Int} (hk : k < 11) (ht : 0 ≤ t) (hj : 0 ≤ j) : sg (su s k v) t j = sg s t j := su_ne (by omega)
theorem se_su {s : Nat → Int} {k : Nat} {v t j : Int} (hk : k < 11) (ht : 0 ≤ t) (hj : 0 ≤ j) : se (su s k v) t j = se s t j := su_ne (by omega)
theorem stOK_su {s : Nat → Int} {k : Nat} {v t : Int} (hk : 0 < k ∧ k < 11) (ht : 0 ≤ t) (h : stOK s t) : stOK (su s k v) t := by
  unfold stOK at *
  rw [sg_su hk.2 ht (by omega), sg_su hk.2 ht (by omega), sg_su hk.2 ht (by omega), sg_su hk.2 ht (by omega), sg_su hk.2 ht (by omega), su_ne (show 0 ≠ k by omega)]
  exact h
theorem erOK_su {s : Nat → Int} {k : Nat} {v t : Int} (hk : 0 < k ∧ k < 11) (ht : 0 ≤ t) (h : erOK s t) : erOK (su s k v) t := by
  unfold erOK at *
  rw [se_su hk.2 ht (by omega), se_su hk.2 ht (by omega), se_su hk.2 ht (by omega), se_su hk.2 ht (by omega), su_ne (show 0 ≠ k by omega)]
  exact h
theorem WF_su {s : Nat → Int} (hw : WF s) {k : Nat} {v : Int} (h : (k = 3 ∨ k = 4 ∨ k = 5) ∧ (0 ≤ v ∧ v < 16384) ∨ (k = 7 ∧ 0 ≤ v ∧ v ≤ 1439)) : WF (su s k v) := by
  obtain ⟨w0, w1, w2, w3, w4, w5, w6, w7, w8, w9, w10, wst, wer, wrow⟩ := hw
  have hk : 0 < k ∧ k < 11 := by omega
  have e0 : su s k v 0 = s 0 := su_ne (by omega)
  have e1 : su s k v 1 = s 1 := su_ne (by omega)
  have e2 : su s k v 2 = s 2 := su_ne (by omega)
  have e6 : su s k v 6 = s 6 := su_ne (by omega)
  have e8 : su s k v 8 = s 8 := su_ne (by omega)
  have e9 : su s k v 9 = s 9 := su_ne (by omega)
  have e10 : su s k v 10 = s 10 := su_ne (by omega)
  have e3 : 0 ≤ su s k v 3 ∧ su s k v 3 < 16384 := by unfold su; split <;> omega
  have e4 : 0 ≤ su s k v 4 ∧ su s k v 4 < 16384 := by unfold su; split <;> omega
  have e5 : 0 ≤ su s k v 5 ∧ su s k v 5 < 16384 := by unfold su; split <;> omega
  have e7 : 0 ≤ su s k v 7 ∧ su s k v 7 ≤ 1439 := by unfold su; split <;> omega
  refine ⟨by rw [e0]; exact w0, by rw [e1]; exact w1, by rw [e2]; exact w2, e3, e4, e5, by rw [e6]; exact w6, e7, by rw [e8]; exact w8, by rw [e9]; exact w9, by rw [e10]; exact w10, fun t h0 h1 => ?_, fun e h0 h1 => ?_, fun i hi => ?_⟩
  · rw [e1] at h1; exact stOK_su hk h0 (wst t h0 h1)
  · rw [e2] at h1; exact erOK_su hk h0 (wer e h0 h1)
  · rw [e6] at hi; rw [su_ne (by omega)]; exact wrow i hi
theorem TMs_su {σ : Hp} {s : Nat → Int} {k : Nat} {v : Int} (hk : 1 < k ∧ k < 11) (h : TMs σ s) : TMs σ (su s k v) := by
  obtain ⟨h1, h2, h3⟩ := h
  refine ⟨by rw [su_ne (by omega)]; exact h1, by rw [su_ne (by omega)]; exact h2, fun t h0 hl => ?_⟩
  rw [su_ne (by omega)] at hl
  rw [sg_su hk.2 h0 (by omega), sg_su hk.2 h0 (by omega), sg_su hk.2 h0 (by omega)]
  exact h3 t h0 hl
theorem TMe_su {σ : Hp} {s : Nat → Int} {k : Nat} {v : Int} (hk : 2 < k ∧ k < 11) (h : TMe σ s) : TMe σ (su s k v) := by
  obtain ⟨h1, h3⟩ := h
  refine ⟨by rw [su_ne (by omega)]; exact h1, fun t h0 hl => ?_⟩
  rw [su_ne (by omega)] at hl
  rw [se_su hk.2 h0 (by omega), se_su hk.2 h0 (by omega), se_su hk.2 h0 (by omega), se_su hk.2 h0 (by omega)]
  exact h3 t h0 hl
theorem zor_0 {a : Int} (ha : 0 ≤ a ∧ a < 16384) : zor a 0 = a := by
  rw [zor_nat (by omega) (by omega)]
  simp
  omega
theorem zor_bit {a b : Int} (ha : 0 ≤ a ∧ a < 16384) (hb : 0 ≤ b ∧ b < 16384) {t : Int} (ht : 0 ≤ t ∧ t < 32) : bitz (zor a b) t = 1 ↔ bitz a t = 1 ∨ bitz b t = 1 := by
  have hlt : a.toNat ||| b.toNat < 2 ^ 14 := Nat.or_lt_two_pow (by omega) (by omega)
  rw [zor_nat (by omega) (by omega), bitz_tb ⟨by omega, by omega⟩ ht, bitz_tb (by omega) ht, bitz_tb (by omega) ht]
  rw [show ((a.toNat ||| b.toNat : Nat) : Int).toNat = a.toNat ||| b.toNat from rfl, Nat.testBit_or]
  cases a.toNat.testBit t.toNat <;> cases b.toNat.testBit t.toNat <;> simp
/-- the class's settings and broad ones, as the reference has them -/
def CS (σ : Hp) (s : Nat → Int) : Prop := (∀ j, j < 4 → σ 11 0 j = s (7 + j)) ∧ σ 1 0 3 = s 6 ∧ σ 1 0 5 = s 4 ∧ σ 1 0 6 = s 3 ∧ (0 ≤ σ 1 0 4 ∧ σ 1 0 4 < 16384) ∧ (∀ t : Int, 0 ≤ t → t < s 1 → σ 5 0 t.toNat = sg s t 4 ∧ bitz (σ 1 0 4) t = sg s t 3) ∧ (∀ i : Nat, (i : Int) < s 6 → σ 10 0 i = s (113 + i))
theorem tBits_ok {σ : Hp} {s : Nat → Int} (h8 : σ 16 0 1 = s 8) (h10 : σ 11 0 3 = s 10) {b : Int} (hb : 0 ≤ b ∧ b < 16384) {t : Int} (ht : 0 ≤ t ∧ t < 32) : inR (tBits σ b) ∧ bitz (tBits σ b) t = ebit (su s 3 b) t := by
  unfold tBits ebit
  rw [h8, h10, su_ne (show 8 ≠ 3 by omega), su_ne (show 10 ≠ 3 by omega), su_eq]
  split
  · refine ⟨?_, bitz_not ⟨by omega, by omega⟩ ht⟩
    rw [zxor_not ⟨by omega, by omega⟩]
    exact ⟨by omega, by omega⟩
  · exact ⟨⟨by omega, by omega⟩, rfl⟩
theorem TRc_point {σ : Hp} {s : Nat → Int} (hw : WF s) (h : TRc σ s) (h10 : σ 11 0 3 = s 10) {b : Int} (hb : 0 ≤ b ∧ b < 16384) : TRc (zup σ 16 0 4 (tBits σ b)) (su s 3 b) := by
  obtain ⟨h1, h2, h3, h4, h5⟩ := h
  have w1 := hw.2.1
  have e : ∀ j, j ≠ 4 → (zup σ 16 0 4 (tBits σ b)) 16 0 j = σ 16 0 j := fun j hj => by simp [zup, hj]
  have e4 : (zup σ 16 0 4 (tBits σ b)) 16 0 4 = tBits σ b := by simp [zup]
  refine ⟨by rw [e 1 (by omega), su_ne (by omega)]; exact h1, by rw [e 2 (by omega), su_ne (by omega)]; exact h2, by rw [e 3 (by omega), su_ne (by omega)]; exact h3, by rw [e4]; exact (tBits_ok h1 h10 hb (t := 0) (by omega)).1, fun t h0 hl => ?_⟩
  rw [su_ne (by omega)] at hl
  rw [e4, e 5 (by omega), e 6 (by omega), su_ne (show 4 ≠ 3 by omega), su_ne (show 5 ≠ 3 by omega), su_ne (show 8 ≠ 3 by omega), sg_su (by omega) h0 (by omega)]
  exact ⟨(tBits_ok h1 h10 hb (by omega)).2, (h5 t h0 hl).2⟩
theorem ebit_su {s : Nat → Int} {k : Nat} {v t : Int} (h3 : k ≠ 3) (h8 : k ≠ 8) (h10 : k ≠ 10) : ebit (su s k v) t = ebit s t := by
  unfold ebit
  rw [su_ne (Ne.symm h3), su_ne (Ne.symm h8), su_ne (Ne.symm h10)]
theorem TRc_lanes {σ : Hp} {s : Nat → Int} (hw : WF s) (h : TRc σ s) (hb4 : 0 ≤ σ 1 0 4 ∧ σ 1 0 4 < 16384) (hbr : ∀ t : Int, 0 ≤ t → t < s 1 → bitz (σ 1 0 4) t = sg s t 3) {b : Int} (hb : 0 ≤ b ∧ b < 16384) : TRc (zup σ 16 0 6 (tOpen σ b)) (su s 5 b) := by
  obtain ⟨h1, h2, h3, h4, h5⟩ := h
  have w1 := hw.2.1
  have e : ∀ j, j ≠ 6 → (zup σ 16 0 6 (tOpen σ b)) 16 0 j = σ 16 0 j := fun j hj => by simp [zup, hj]
  have e6 : (zup σ 16 0 6 (tOpen σ b)) 16 0 6 = tOpen σ b := by simp [zup]
  refine ⟨by rw [e 1 (by omega), su_ne (by omega)]; exact h1, by rw [e 2 (by omega), su_ne (by omega)]; exact h2, by rw [e 3 (by omega), su_ne (by omega)]; exact h3, by rw [e 4 (by omega)]; exact h4, fun t h0 hl => ?_⟩
  rw [su_ne (by omega)] at hl
  rw [e6, e 4 (by omega), e 5 (by omega), ebit_su (by omega) (by omega) (by omega), su_ne (show 4 ≠ 5 by omega), su_ne (show 8 ≠ 5 by omega), su_eq, sg_su (by omega) h0 (by omega)]
  refine ⟨(h5 t h0 hl).1, (h5 t h0 hl).2.1, ?_⟩
  unfold tOpen
  rw [h1]
  split
  · rename_i q
    rw [zor_bit hb4 hb (by omega), hbr t h0 hl]
    exact ⟨fun z => z.elim (fun y => Or.inr ⟨q, y⟩) Or.inl, fun z => z.elim Or.inr (fun y => Or.inl y.2)⟩
  · rename_i q
    exact ⟨Or.inl, fun z => z.elim id (fun y => absurd y.1 q)⟩
theorem TRc_noon {σ : Hp} {s : Nat → Int} (h : TRc σ s) {n : Int} : TRc (zup σ 16 0 2 n) (su s 7 n) := by
  obtain ⟨h1, h2, h3, h4, h5⟩ := h
  have e : ∀ j, j ≠ 2 → (zup σ 16 0 2 n) 16 0 j = σ 16 0 j := fun j hj => by simp [zup, hj]
  have e6 : (zup σ 16 0 2 n) 16 0 2 = n := by simp [zup]
  refine ⟨by rw [e 1 (by omega), su_ne (by omega)]; exact h1, by rw [e6, su_eq], by rw [e 3 (by omega), su_ne (by omega)]; exact h3, by rw [e 4 (by omega)]; exact h4, fun t h0 hl => ?_⟩
  rw [su_ne (by omega)] at hl
  rw [e 4 (by omega), e 5 (by omega), e 6 (by omega), ebit_su (by omega) (by omega) (by omega), su_ne (show 4 ≠ 7 by omega), su_ne (show 8 ≠ 7 by omega), su_ne (show 5 ≠ 7 by omega), sg_su (by omega) h0 (by omega)]
  exact h5 t h0 hl
theorem TRc_shut {σ : Hp} {s : Nat → Int} (h : TRc σ s) {v : Int} : TRc (zup σ 16 0 5 v) (su s 4 v) := by
  obtain ⟨h1, h2, h3, h4, h5⟩ := h
  have e : ∀ j, j ≠ 5 → (zup σ 16 0 5 v) 16 0 j = σ 16 0 j := fun j hj => by simp [zup, hj]
  have e6 : (zup σ 16 0 5 v) 16 0 5 = v := by simp [zup]
  refine ⟨by rw [e 1 (by omega), su_ne (by omega)]; exact h1, by rw [e 2 (by omega), su_ne (by omega)]; exact h2, by rw [e 3 (by omega), su_ne (by omega)]; exact h3, by rw [e 4 (by omega)]; exact h4, fun t h0 hl => ?_⟩
  rw [su_ne (by omega)] at hl
  rw [e 4 (by omega), e6, e 6 (by omega), ebit_su (by omega) (by omega) (by omega), su_eq, su_ne (show 8 ≠ 4 by omega), su_ne (show 5 ≠ 4 by omega), sg_su (by omega) h0 (by omega)]
  exact ⟨(h5 t h0 hl).1, rfl, (h5 t h0 hl).2.2⟩
/-- the traffic as it is -/
theorem tTake_off {σ : Hp} : Off [16] σ (tTake σ) := by
  unfold tTake
  exact (((((Off.rf.up (by decide)).up (by decide)).up (by decide)).up (by decide)).up (by decide)).up (by decide)
theorem TRc_take {σ : Hp} {s : Nat → Int} (hw : WF s) (h5 : s 5 = 0) (hc : CS σ s) : TRc (tTake σ) s := by
  obtain ⟨c1, c2, c3, c4, c5, c6, c7⟩ := hc
  have w1 := hw.2.1
  have w3 := hw.2.2.2.1
  generalize hσ1 : zup (zup (zup (zup σ 16 0 1 (σ 11 0 1)) 16 0 2 (σ 11 0 0)) 16 0 3 (σ 11 0 2)) 16 0 5 (σ 1 0 5) = σ1
  have f1 : σ1 16 0 1 = s 8 := by rw [← hσ1]; simp [zup]; exact c1 1 (by omega)
  have f2 : σ1 16 0 2 = s 7 := by rw [← hσ1]; simp [zup]; exact c1 0 (by omega)
  have f3 : σ1 16 0 3 = s 9 := by rw [← hσ1]; simp [zup]; exact c1 2 (by omega)
  have f5 : σ1 16 0 5 = s 4 := by rw [← hσ1]; simp [zup]; exact c3
  have o1 : Off [16] σ σ1 := by rw [← hσ1]; exact (((Off.rf.up (by decide)).up (by decide)).up (by decide)).up (by decide)
  generalize hσ2 : zup σ1 16 0 6 (tOpen σ1 0) = σ2
  have g : ∀ j, j ≠ 6 → σ2 16 0 j = σ1 16 0 j := fun j hj => by rw [← hσ2]; simp [zup, hj]
  have g6 : σ2 16 0 6 = tOpen σ1 0 := by rw [← hσ2]; simp [zup]
  have o2 : Off [16] σ σ2 := by rw [← hσ2]; exact o1.up (by decide)
  have e11 : σ2 11 0 3 = s 10 := by rw [o2 11 (by decide)]; exact c1 3 (by omega)
  have e1 : σ2 1 0 6 = s 3 := by rw [o2 1 (by decide)]; exact c4
  have e8 : σ2 16 0 1 = s 8 := by rw [g 1 (by omega)]; exact f1
  have hT : tTake σ = zup σ2 16 0 4 (tBits σ2 (σ2 1 0 6)) := by
    unfold tTake
    rw [hσ1]
    show zup (zup σ1 16 0 6 (tOpen σ1 0)) 16 0 4 (tBits (zup σ1 16 0 6 (tOpen σ1 0)) ((zup σ1 16 0 6 (tOpen σ1 0)) 1 0 6)) = _
    rw [hσ2]
  have e4 : (tTake σ) 16 0 4 = tBits σ2 (s 3) := by rw [hT, e1]; simp [zup]
  have en : ∀ j, j ≠ 4 → (tTake σ) 16 0 j = σ2 16 0 j := fun j hj => by rw [hT]; simp [zup, hj]
  have es : su s 3 (s 3) = s := by
    funext j
    unfold su
    split
    · rename_i q; rw [q]
    · rfl
  refine ⟨by rw [en 1 (by omega)]; exact e8, by rw [en 2 (by omega), g 2 (by omega)]; exact f2, by rw [en 3 (by omega), g 3 (by omega)]; exact f3, by rw [e4]; exact (tBits_ok e8 e11 w3 (t := 0) (by omega)).1, fun t h0 hl => ?_⟩
  have b := (tBits_ok e8 e11 w3 (t := t) (by omega)).2
  rw [es] at b
  rw [e4, en 5 (by omega), en 6 (by omega), g 5 (by omega), g6, f5, h5, bitz_0]
  refine ⟨b, rfl, ?_⟩
  unfold tOpen
  rw [f1, o1 1 (by decide), zor_0 c5]
  split
  · rename_i q
    rw [(c6 t h0 hl).2]
    exact ⟨fun z => Or.inr ⟨q, z⟩, fun z => z.elim (fun y => by omega) (fun y => y.2)⟩
  · rename_i q
    rw [bitz_0]
    exact ⟨fun z => by omega, fun z => z.elim (fun y => by omega) (fun y => absurd y.1 q)⟩
