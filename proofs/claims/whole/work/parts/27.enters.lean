theorem turnS_late {s : Nat → Int} (hw : WF s) {m : Int} (hm : 0 ≤ m ∧ m ≤ 1000000) (h7 : s 7 ≤ m) : 0 ≤ (m - s 7) / s 9 ∧ (m - s 7) / s 9 ≤ m - s 7 ∧ ((m - s 7) / s 9 + 1) * s 9 = s 9 + (m - s 7) / s 9 * s 9 ∧ 0 ≤ (m - s 7) / s 9 * s 9 ∧ (m - s 7) / s 9 * s 9 ≤ m - s 7 ∧ m - s 7 < s 9 + (m - s 7) / s 9 * s 9 := by
  obtain ⟨w0, w1, w2, w3, w4, w5, w6, w7, w8, w9, -⟩ := hw
  have q0 := Int.ediv_nonneg (show 0 ≤ m - s 7 by omega) (show 0 ≤ s 9 by omega)
  refine ⟨q0, Int.ediv_le_self _ (by omega), by rw [Int.add_mul, Int.one_mul, Int.add_comm], Int.mul_nonneg q0 (by omega), Int.ediv_mul_le _ (by omega), ?_⟩
  have := Int.lt_ediv_add_one_mul_self (m - s 7) (show 0 < s 9 by omega)
  rw [Int.add_mul, Int.one_mul] at this
  omega
theorem pX11_enters {σ : Hp} {K : Int → Hp → Prop} {t e m : Int} (hw : WF (σ 36 0)) (ht : 0 ≤ t ∧ t < σ 36 0 1) (hm : 0 ≤ m ∧ m ≤ 1000000) (he : e = 0 ∨ e = 1) (h : K (entS (σ 36 0) t e m) σ) : Runs 3 mX11_enters 0 [zR 34 0, zI t, zI e, zI m, zU, zU] [] σ (rI K) := by
  have hw0 := hw
  obtain ⟨w0, w1, w2, w3, w4, w5, w6, w7, w8, w9, w10, -⟩ := hw
  unfold entS at h
  have tail : ¬ (σ 36 0 8 = 4) → (m < σ 36 0 7 ∨ σ 36 0 8 = 2) → K (nextS (σ 36 0) m) σ → Runs 3 mX11_enters 76 [zR 34 0, zU, zU, zI m, zI (σ 36 0 7), zU] [] σ (rI K) := fun r4 hr hK => by
    unfold nextS turnS at hK
    rw [if_neg r4] at hK
    refine gX11_enters_76 m (σ 36 0 7) σ ⟨fun c => ?_, fun c => ⟨fun c2 => absurd c2 (by omega), fun c2 => ?_⟩⟩
    · have r2 : σ 36 0 8 = 2 := hr.resolve_left (by omega)
      rw [if_neg (show ¬ m < σ 36 0 7 by omega), if_pos r2] at hK
      obtain ⟨q0, q1, q2, q3, q4, q5⟩ := turnS_late hw0 hm c
      have hd : zdiv (m - σ 36 0 7) (σ 36 0 9) = (m - σ 36 0 7) / σ 36 0 9 := n32_quot ⟨by omega, by omega⟩ ⟨by omega, by omega⟩ (by omega) (by omega)
      rw [hd, q2]
      rw [show (1 + (m - σ 36 0 7) / σ 36 0 9) * σ 36 0 9 = σ 36 0 9 + (m - σ 36 0 7) / σ 36 0 9 * σ 36 0 9 by rw [← q2, Int.add_comm]] at hK
      refine ⟨by omega, by omega, by omega, by omega, by omega, fun c2 => ?_, fun c2 => ?_⟩
      · rw [if_neg (by omega)] at hK; exact hK
      · rw [if_pos (by omega)] at hK; exact hK
    · rw [if_pos (show m < σ 36 0 7 by omega), if_pos (by omega)] at hK
      exact hK
  have nn : σ 36 0 8 = 4 ∨ (¬ m < σ 36 0 7 ∧ ¬ σ 36 0 8 = 2) → nextS (σ 36 0) m = -9 := fun q => by
    unfold nextS turnS
    rcases q with q | ⟨q1, q2⟩
    · rw [if_pos q]; rfl
    · rw [if_neg q1, if_neg q2]
      split <;> rfl
  refine gX11_enters_0 t e m σ ⟨fun c => ?_, fun c => ⟨fun c2 => ⟨hw0, ht, hm, fun c3 => ?_, fun c3 => ⟨fun c4 => ?_, fun c4 => ⟨fun c5 => ?_, fun c5 => ⟨fun c6 => ?_, fun c6 => ?_⟩⟩⟩⟩, fun c2 => ?_⟩⟩
  · rw [if_pos (Or.inl c)] at h; exact h
  · rw [if_neg (by omega), if_pos c3] at h; exact h
  · rw [if_neg (by omega), if_neg c3, nn (Or.inl c4)] at h; exact h
  · rw [if_neg (by omega), if_neg c3] at h; exact tail c4 (Or.inl c5) h
  · rw [if_neg (by omega), if_neg c3] at h; exact tail c4 (Or.inr c6) h
  · rw [if_neg (by omega), if_neg c3, nn (Or.inr ⟨c5, c6⟩)] at h; exact h
  · rw [if_pos (Or.inr (by omega))] at h; exact h
theorem pX11_wrongWay {σ : Hp} {K : Int → Hp → Prop} {f t m : Int} (h : K (zwrongWay (σ 36 0) f t m) σ) : Runs 2 mX11_wrongWay 0 [zR 34 0, zI f, zI t, zI m] [] σ (rI K) := by
  unfold zwrongWay at h
  refine gX11_wrongWay_0 f t m σ ⟨fun c => ⟨fun c2 => ?_, fun c2 => ?_⟩, fun c => ?_⟩
  · rw [if_pos ⟨c, c2⟩] at h; exact h
  · rw [if_neg (fun q => c2 q.2)] at h; exact h
  · rw [if_neg (fun q => c q.1)] at h; exact h
/-! who comes sooner never leaves later -/
theorem wayS_val {s : Nat → Int} {t m : Int} (h2 : ¬ bitz (s 4) t = 1) (h3 : ¬ (bitz (s 5) t = 1 ∨ (s 8 = 1 ∧ sg s t 3 = 1))) : wayS s t m = (ebit s t + turnsS s m) % 2 := by
  unfold wayS
  rw [if_neg h2, if_neg h3]
theorem entS_ge {s : Nat → Int} (hw : WF s) {t e m : Int} (hm : 0 ≤ m) (h : entS s t e m ≠ -9) : m ≤ entS s t e m ∧ entS s t e m ≤ 2879 ∧ m ≤ 2879 := by
  have hw0 := hw
  obtain ⟨w0, w1, w2, w3, w4, w5, w6, w7, w8, w9, w10, -⟩ := hw
  unfold entS at h ⊢
  split at h
  · exact absurd rfl h
  · rename_i hc
    rw [if_neg hc]
    split at h
    · rename_i hc2
      rw [if_pos hc2]
      omega
    · rename_i hc2
      rw [if_neg hc2]
      unfold nextS at h ⊢
      split at h
      · rename_i hc3
        rw [if_pos hc3]
        refine ⟨?_, hc3, by omega⟩
        unfold turnS at h ⊢
        split at h
        · exact absurd rfl h
        · rename_i r4
          rw [if_neg r4]
          split at h
          · rename_i c7
            rw [if_pos c7]; omega
          · rename_i c7
            rw [if_neg c7]
            split at h
            · rename_i r2
              rw [if_pos r2]
              obtain ⟨q0, q1, q2, q3, q4, q5⟩ := turnS_late hw0 (m := m) ⟨hm, by omega⟩ (by omega)
              rw [Int.add_comm 1, q2]
              omega
            · exact absurd rfl h
      · exact absurd rfl h
theorem div_same {a b P : Int} (hP : 0 < P) (h1 : a ≤ b) (h2 : b < P + a / P * P) : b / P = a / P := by
  have e1 := Int.ediv_le_ediv hP h1
  have e2 : b / P < a / P + 1 := Int.ediv_lt_of_lt_mul hP (by rw [Int.add_mul, Int.one_mul]; omega)
  omega
/-- between two turns nothing changes -/
theorem turn_same {s : Nat → Int} (hw : WF s) {m m' : Int} (hm : 0 ≤ m ∧ m ≤ m' ∧ m' ≤ 2879) (ht : turnS s m = -9 ∨ m' < turnS s m) : turnsS s m' = turnsS s m ∧ turnS s m' = turnS s m := by
  have hw0 := hw
  obtain ⟨w0, w1, w2, w3, w4, w5, w6, w7, w8, w9, w10, -⟩ := hw
  unfold turnsS turnS at *
  by_cases r4 : s 8 = 4
  · simp [r4]
  · rw [if_neg r4] at ht ⊢
    rw [if_neg r4, if_neg r4, if_neg r4]
    by_cases c7 : m < s 7
    · rw [if_pos c7] at ht ⊢
      rw [if_pos c7]
      have : m' < s 7 := by omega
      rw [if_pos this, if_pos this]
      exact ⟨rfl, rfl⟩
    · have : ¬ m' < s 7 := by omega
      rw [if_neg c7] at ht ⊢
      rw [if_neg c7, if_neg this, if_neg this]
      by_cases r2 : s 8 = 2
      · rw [if_pos r2] at ht ⊢
        rw [if_pos r2, if_pos r2, if_pos r2]
        obtain ⟨q0, q1, q2, q3, q4, q5⟩ := turnS_late hw0 (m := m) ⟨hm.1, by omega⟩ (by omega)
        rw [Int.add_comm 1, q2] at ht
        have : (m' - s 7) / s 9 = (m - s 7) / s 9 := div_same (by omega) (by omega) (by omega)
        rw [this]
        exact ⟨rfl, rfl⟩
      · rw [if_neg r2, if_neg r2, if_neg r2, if_neg r2]
        exact ⟨rfl, rfl⟩
theorem entS_mono {s : Nat → Int} (hw : WF s) {t e m m' : Int} (hm : 0 ≤ m ∧ m ≤ m') (h : entS s t e m' ≠ -9) : entS s t e m ≠ -9 ∧ entS s t e m ≤ entS s t e m' := by
  have hg := entS_ge hw (by omega) h
  have hs : ¬ (bitz (s 4) t = 1 ∨ 2879 < m') := by
    intro q
    apply h
    unfold entS
    rw [if_pos q]
  have hs0 : ¬ (bitz (s 4) t = 1 ∨ 2879 < m) := fun q => hs (q.imp id (by omega))
  by_cases hgo : wayS s t m = 2 ∨ wayS s t m = e
  · have : entS s t e m = m := by unfold entS; rw [if_neg hs0, if_pos hgo]
    rw [this]
    omega
  · have hE : entS s t e m = nextS s m := by unfold entS; rw [if_neg hs0, if_neg hgo]
    by_cases hlt : turnS s m = -9 ∨ m' < turnS s m
    · obtain ⟨e1, e2⟩ := turn_same hw ⟨hm.1, hm.2, hg.2.2⟩ hlt
      have hway : wayS s t m' = wayS s t m := by unfold wayS; rw [e1]
      have : entS s t e m' = nextS s m' := by unfold entS; rw [if_neg hs, hway, if_neg hgo]
      have e3 : nextS s m' = nextS s m := by unfold nextS; rw [e2]
      rw [this, e3] at h
      rw [hE, this, e3]
      exact ⟨h, Int.le_refl _⟩
    · have h9 : turnS s m ≠ -9 := fun q => hlt (Or.inl q)
      have hle : turnS s m ≤ m' := by
        by_cases q : m' < turnS s m
        · exact absurd (Or.inr q) hlt
        · omega
      have hN : nextS s m = turnS s m := by unfold nextS; rw [if_pos (by omega)]
      rw [hE, hN]
      exact ⟨h9, by omega⟩
