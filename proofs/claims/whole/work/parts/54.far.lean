/-! the reference's table of farthest ways -/
def cvF (a b : Nat) (w : Int) : Int := if a = b then 0 else if 1000000 ≤ w then 1000000000 else w
theorem cvF_eq {a : Nat} {w : Int} : cvF a a w = 0 := if_pos rfl
theorem cvF_ne {a b : Nat} {w : Int} (h : a ≠ b) : cvF a b w = if 1000000 ≤ w then 1000000000 else w := if_neg h
theorem cvF_b {a b : Nat} {w : Int} (h : 1 ≤ w ∧ w ≤ 1000000) : 0 ≤ cvF a b w ∧ cvF a b w ≤ 1000000000 := by
  unfold cvF
  split
  · omega
  · split <;> omega
theorem okD_b {n B : Int} (hB : 2 * B < 1000000) {D : Nat → Nat → Int} (h : okD n B D) (a b : Nat) : 1 ≤ D a b ∧ D a b ≤ 1000000 := by
  have := (h a b).1
  omega
theorem cvF_step {n B : Int} (hB : 2 * B < 1000000) {D : Nat → Nat → Int} (h : okD n B D) (k a b : Nat) : (1000000000 ≤ cvF a k (D a k) → cvF a b (D a b) ≤ 1000000000 → cvF a b (stp k D a b) = cvF a b (D a b)) ∧ (1000000000 ≤ cvF k b (D k b) → cvF a b (stp k D a b) = cvF a b (D a b)) ∧ (¬ 1000000000 ≤ cvF a k (D a k) → ¬ 1000000000 ≤ cvF k b (D k b) → (cvF a b (D a b) ≤ cvF a k (D a k) + cvF k b (D k b) → cvF a b (stp k D a b) = cvF a b (D a b)) ∧ (¬ cvF a b (D a b) ≤ cvF a k (D a k) + cvF k b (D k b) → cvF a b (stp k D a b) = cvF a k (D a k) + cvF k b (D k b))) := by
  have h1 := okD_b hB h a b
  have h2 := (h a k).1
  have h3 := (h k b).1
  have x2 := cvF_b (a := a) (b := k) (w := D a k) (by omega)
  have x3 := cvF_b (a := k) (b := b) (w := D k b) (by omega)
  by_cases e : a = b
  · subst e
    rw [cvF_eq, cvF_eq]
    refine ⟨fun _ _ => rfl, fun _ => rfl, fun _ _ => ⟨fun _ => rfl, fun z => ?_⟩⟩
    omega
  · by_cases ek : a = k
    · subst ek
      rw [stp_row, cvF_eq]
      refine ⟨fun _ _ => rfl, fun _ => rfl, fun _ _ => ⟨fun _ => rfl, fun z => ?_⟩⟩
      omega
    · by_cases eb : b = k
      · subst eb
        have : stp b D a b = D a b := by unfold stp; rw [if_neg (fun z => z.2.1 rfl)]
        rw [this]
        refine ⟨fun _ _ => rfl, fun _ => rfl, fun _ _ => ⟨fun _ => rfl, fun z => ?_⟩⟩
        rw [cvF_eq] at z
        omega
      · have eb' : k ≠ b := fun z => eb z.symm
        rw [cvF_ne e, cvF_ne ek, cvF_ne eb', cvF_ne e]
        rw [cvF_ne ek] at x2
        rw [cvF_ne eb'] at x3
        by_cases z : D a k < 1000000 ∧ D a k + D k b < D a b
        · have hs : stp k D a b = D a k + D k b := by unfold stp; rw [if_pos ⟨ek, eb, e, z⟩]
          rw [hs, if_neg (show ¬ 1000000 ≤ D a k by omega), if_neg (show ¬ 1000000 ≤ D k b by omega), if_neg (show ¬ 1000000 ≤ D a k + D k b by omega)]
          refine ⟨fun y => by omega, fun y => by omega, fun _ _ => ⟨fun y => ?_, fun _ => rfl⟩⟩
          exfalso
          revert y
          split <;> intro y <;> omega
        · have hs : stp k D a b = D a b := by unfold stp; rw [if_neg (fun y => z y.2.2.2)]
          rw [hs]
          refine ⟨fun _ _ => rfl, fun _ => rfl, fun y1 y2 => ⟨fun _ => rfl, fun y => ?_⟩⟩
          by_cases q1 : 1000000 ≤ D a k
          · rw [if_pos q1] at y1; omega
          · by_cases q2 : 1000000 ≤ D k b
            · rw [if_pos q2] at y2; omega
            · rw [if_neg q1, if_neg q2] at y ⊢
              by_cases q3 : 1000000 ≤ D a b
              · exfalso; apply z; omega
              · rw [if_neg q3] at y ⊢
                omega
def L46 (σ : Hp) (D : Nat → Nat → Int) : Prop := ∀ a b, a < 10 → b < 10 → σ 46 0 (10 * a + b) = cvF a b (D a b)
theorem z46 {σ : Hp} {a b a' b' : Nat} {v : Int} (hb : b < 10) (hb' : b' < 10) : (zup σ 46 0 (10 * a + b) v) 46 0 (10 * a' + b') = if a' = a ∧ b' = b then v else σ 46 0 (10 * a' + b') := by
  unfold zup
  by_cases q : a' = a ∧ b' = b
  · rw [if_pos ⟨rfl, rfl, by omega⟩, if_pos q]
  · rw [if_neg (fun z => q (by omega)), if_neg q]
theorem ix {a b : Int} (ha : 0 ≤ a) (hb : 0 ≤ b) : ((10 * a) + b).toNat = 10 * a.toNat + b.toNat := by omega
section Far
variable {K' : Hp → Prop} {K : Int → Hp → Prop} {s : Nat → Int}
theorem far_init {σ : Hp} {m : Int} (cont : ∀ σ', Off [46] σ σ' → L46 σ' (fun _ _ => 1000000) → Runs 3 mX11_findsFar 52 [zR 34 0, zI m, zI 0, zU, zU, zU] [] σ' (rV K')) : Runs 3 mX11_findsFar 0 [zR 34 0, zI m, zU, zU, zU, zU] [] σ (rV K') := by
  refine gX11_findsFar_0 m σ (upto (α := Hp) (N := 10) (R := fun t σ1 => Runs 3 mX11_findsFar 2 [zR 34 0, zI m, zI t, zU, zU, zU] [] σ1 (rV K')) (I := fun t σ1 => Off [46] σ σ1 ∧ ∀ a b : Nat, (a : Int) < t → b < 10 → σ1 46 0 (10 * a + b) = cvF a b 1000000) (fun σ1 hI => ?_) (fun t σ1 h0 hl hI nx => ?_) (Int.le_refl 0) (by omega) ⟨Off.rf, fun a b ha hb => absurd ha (by omega)⟩)
  · exact gX11_findsFar_2 m 10 σ1 ⟨fun _ => cont σ1 hI.1 (fun a b ha hb => hI.2 a b (by omega) hb), fun q => absurd (Int.le_refl 10) q⟩
  · refine gX11_findsFar_2 m t σ1 ⟨fun q => absurd q (by omega), fun _ => ?_⟩
    refine upto (α := Hp) (N := 10) (R := fun u σ2 => Runs 3 mX11_findsFar 10 [zR 34 0, zI m, zI t, zI u, zU, zU] [] σ2 (rV K')) (I := fun u σ2 => Off [46] σ σ2 ∧ ∀ a b : Nat, ((a : Int) < t ∨ ((a : Int) = t ∧ (b : Int) < u)) → b < 10 → σ2 46 0 (10 * a + b) = cvF a b 1000000) (fun σ2 hI2 => ?_) (fun u σ2 u0 ul hI2 nx2 => ?_) (Int.le_refl 0) (by omega) ⟨hI.1, fun a b ha hb => hI.2 a b (by omega) hb⟩
    · exact gX11_findsFar_10 m t 10 σ2 ⟨fun _ => ⟨by omega, nx σ2 ⟨hI2.1, fun a b ha hb => hI2.2 a b (by omega) hb⟩⟩, fun q => absurd (Int.le_refl 10) q⟩
    · refine gX11_findsFar_10 m t u σ2 ⟨fun q => absurd q (by omega), fun _ => ⟨by omega, by omega, fun c => ⟨by omega, by omega, nx2 _ ?_⟩, fun c => ⟨by omega, by omega, nx2 _ ?_⟩⟩⟩
      · rw [ix h0 u0]
        refine ⟨hI2.1.up (by decide), fun a b ha hb => ?_⟩
        rw [z46 (by omega) hb]
        split
        · rename_i q
          rw [q.1, q.2, cvF_ne (by omega)]
          rfl
        · exact hI2.2 a b (by omega) hb
      · rw [ix h0 u0]
        refine ⟨hI2.1.up (by decide), fun a b ha hb => ?_⟩
        rw [z46 (by omega) hb]
        split
        · rename_i q
          rw [q.1, q.2, show t.toNat = u.toNat by omega, cvF_eq]
        · exact hI2.2 a b (by omega) hb
theorem far_streets (hw : WF s) {σ0 : Hp} (hs : σ0 36 0 = s) {m : Int} (hmm : 0 ≤ m ∧ m ≤ 2879) (cont : ∀ σ', Off [46] σ0 σ' → L46 σ' (W0 s m (s 1).toNat) → Runs 3 mX11_findsFar 155 [zR 34 0, zU, zI 0, zU, zU, zU] [] σ' (rV K')) {σ : Hp} (ho : Off [46] σ0 σ) (hL : L46 σ (fun _ _ => 1000000)) : Runs 3 mX11_findsFar 52 [zR 34 0, zI m, zI 0, zU, zU, zU] [] σ (rV K') := by
  have w1 := hw.2.1
  have w0 := hw.1
  refine upto (α := Hp) (N := s 1) (R := fun t σ1 => Runs 3 mX11_findsFar 52 [zR 34 0, zI m, zI t, zU, zU, zU] [] σ1 (rV K')) (I := fun t σ1 => Off [46] σ0 σ1 ∧ L46 σ1 (W0 s m t.toNat)) (fun σ1 hI => ?_) (fun t σ1 h0 hl hI nx => ?_) (Int.le_refl 0) w1.1 ⟨ho, hL⟩
  · have e1 : σ1 36 0 = s := by rw [hI.1 36 (by decide)]; exact hs
    exact gX11_findsFar_52 m (s 1) σ1 ⟨fun _ => cont σ1 hI.1 hI.2, fun q => absurd (by rw [e1]; exact Int.le_refl _) q⟩
  · obtain ⟨o1, l1⟩ := hI
    have e1 : σ1 36 0 = s := by rw [o1 36 (by decide)]; exact hs
    have wnx : W0 s m (t + 1).toNat = lay1 s m t 1 (lay1 s m t 0 (W0 s m t.toNat)) := by
      rw [show (t + 1).toNat = t.toNat + 1 by omega]
      show lay1 s m (t.toNat : Int) 1 (lay1 s m (t.toNat : Int) 0 (W0 s m t.toNat)) = _
      rw [Int.toNat_of_nonneg h0]
    have okt := okD_W0 hw (m := m) t.toNat (by omega)
    -- one end
    have one : ∀ (e : Int) (D : Nat → Nat → Int) (σ2 : Hp), (e = 0 ∨ e = 1) → Off [46] σ0 σ2 → okD (s 0) 60 D → L46 σ2 D → (∀ σ3, Off [46] σ0 σ3 → L46 σ3 (lay1 s m t e D) → Runs 3 mX11_findsFar 64 [zR 34 0, zI m, zI t, zI (e + 1), zU, zU] [] σ3 (rV K')) → Runs 3 mX11_findsFar 64 [zR 34 0, zI m, zI t, zI e, zU, zU] [] σ2 (rV K') := fun e D σ2 he o2 okD2 l2 nx2 => by
      have e2 : σ2 36 0 = s := by rw [o2 36 (by decide)]; exact hs
      have hv : vst s t e := ⟨h0, hl, he⟩
      have v := vst_ok hw hv
      refine gX11_findsFar_64 m t e σ2 ⟨fun q => absurd q (by omega), fun _ => ?_⟩
      rw [e2]
      refine ⟨hw, by omega, by omega, fun c => ?_, fun c => ⟨by omega, nx2 σ2 o2 (by rw [lay1_no c]; exact l2)⟩⟩
      have ii : ((10 * (sg s t e)) + (sg s t (1 - e))).toNat = 10 * ea s t e + ea s t (1 - e) := by omega
      rw [ii]
      have old := l2 _ _ v.1 v.2.1
      have bd := okD_b (by omega) okD2 (ea s t e) (ea s t (1 - e))
      rw [cvF_ne v.2.2.1] at old
      refine ⟨by omega, by omega, by omega, by omega, by omega, by omega, by omega, by omega, by omega, fun z1 ez => ⟨fun c2 => ⟨by omega, by omega, by omega, fun σ3 e3 => nx2 σ3 ?_ ?_⟩, fun c2 => ⟨by omega, by omega, by omega, fun σ3 e3 => nx2 σ3 ?_ ?_⟩⟩⟩
      · rw [e3, zup_id rfl]; exact o2
      · rw [e3, zup_id rfl]
        intro a b ha hb
        rw [l2 a b ha hb]
        unfold lay1
        by_cases q : a = ea s t e ∧ b = ea s t (1 - e)
        · rw [q.1, q.2, if_neg (fun z => ?_)]
          have z2 := z.2.2
          split at old <;> omega
        · rw [if_neg (fun z => q z.2.1)]
      · rw [e3]; exact o2.up (by decide)
      · rw [e3]
        intro a b ha hb
        rw [z46 v.2.1 hb]
        unfold lay1
        by_cases q : a = ea s t e ∧ b = ea s t (1 - e)
        · have lt : sg s t 2 < D a b := by
            rw [q.1, q.2]
            split at old <;> omega
          rw [if_pos q, if_pos ⟨c, q, lt⟩, cvF_ne (by rw [q.1, q.2]; exact v.2.2.1), if_neg (by omega)]
        · rw [if_neg q, if_neg (fun z => q z.2.1)]
          exact l2 a b ha hb
    refine gX11_findsFar_52 m t σ1 ⟨fun q => absurd q (by rw [e1]; omega), fun _ => ?_⟩
    refine one 0 _ σ1 (Or.inl rfl) o1 okt l1 (fun σ2 o2 l2 => ?_)
    refine one 1 _ σ2 (Or.inr rfl) o2 (okD_lay1 hw ⟨h0, hl, Or.inl rfl⟩ okt) l2 (fun σ3 o3 l3 => ?_)
    refine gX11_findsFar_64 m t (1 + 1) σ3 ⟨fun _ => ⟨by omega, nx σ3 ⟨o3, by rw [wnx]; exact l3⟩⟩, fun q => absurd (show (2 : Int) ≤ 1 + 1 by omega) q⟩
theorem far_join (hw : WF s) {σ0 : Hp} {m : Int} (cont : ∀ σ', Off [46] σ0 σ' → L46 σ' (FF s m) → K' σ') {σ : Hp} (ho : Off [46] σ0 σ) (hL : L46 σ (W0 s m (s 1).toNat)) : Runs 3 mX11_findsFar 155 [zR 34 0, zU, zI 0, zU, zU, zU] [] σ (rV K') := by
  refine upto (α := Hp) (N := 10) (R := fun k σ1 => Runs 3 mX11_findsFar 155 [zR 34 0, zU, zI k, zU, zU, zU] [] σ1 (rV K')) (I := fun k σ1 => Off [46] σ0 σ1 ∧ L46 σ1 (WK s m k.toNat)) (fun σ1 hI => ?_) (fun k σ1 k0 kl hI nx => ?_) (Int.le_refl 0) (by omega) ⟨ho, hL⟩
  · exact gX11_findsFar_155 10 σ1 ⟨fun _ => cont σ1 hI.1 hI.2, fun q => absurd (Int.le_refl 10) q⟩
  · obtain ⟨o1, l1⟩ := hI
    have okk := okD_WK hw (m := m) k.toNat (by omega)
    have hB : 2 * Bk k.toNat < 1000000 := by
      have : ∀ k : Nat, k < 10 → 2 * Bk k < 1000000 := by decide
      exact this _ (by omega)
    have hnx : WK s m (k + 1).toNat = stp k.toNat (WK s m k.toNat) := by
      rw [show (k + 1).toNat = k.toNat + 1 by omega]
      rfl
    generalize WK s m k.toNat = D at l1 okk hnx
    refine gX11_findsFar_155 k σ1 ⟨fun q => absurd q (by omega), fun _ => ?_⟩
    refine upto (α := Hp) (N := 10) (R := fun a0 σ2 => Runs 3 mX11_findsFar 163 [zR 34 0, zU, zI k, zI a0, zU, zU] [] σ2 (rV K')) (I := fun a0 σ2 => Off [46] σ0 σ2 ∧ ∀ a b : Nat, a < 10 → b < 10 → σ2 46 0 (10 * a + b) = cvF a b (if (a : Int) < a0 then stp k.toNat D a b else D a b)) (fun σ2 hI => ?_) (fun a0 σ2 h0 hl hI nx2 => ?_) (Int.le_refl 0) (by omega) ⟨o1, fun a b ha hb => by rw [if_neg (by omega)]; exact l1 a b ha hb⟩
    · refine gX11_findsFar_163 k 10 σ2 ⟨fun _ => ⟨by omega, nx σ2 ⟨hI.1, fun a b ha hb => ?_⟩⟩, fun q => absurd (Int.le_refl 10) q⟩
      have := hI.2 a b ha hb
      rw [if_pos (by omega)] at this
      rw [hnx]
      exact this
    · refine gX11_findsFar_163 k a0 σ2 ⟨fun q => absurd q (by omega), fun _ => ?_⟩
      refine upto (α := Hp) (N := 10) (R := fun u σ3 => Runs 3 mX11_findsFar 172 [zR 34 0, zU, zI k, zI a0, zI u, zU] [] σ3 (rV K')) (I := fun u σ3 => Off [46] σ0 σ3 ∧ ∀ a b : Nat, a < 10 → b < 10 → σ3 46 0 (10 * a + b) = cvF a b (if (a : Int) < a0 ∨ ((a : Int) = a0 ∧ (b : Int) < u) then stp k.toNat D a b else D a b)) (fun σ3 hI3 => ?_) (fun u σ3 u0 ul hI3 nx3 => ?_) (Int.le_refl 0) (by omega) ⟨hI.1, fun a b ha hb => ?_⟩
      · refine gX11_findsFar_172 k a0 10 σ3 ⟨fun _ => ⟨by omega, nx2 σ3 ⟨hI3.1, fun a b ha hb => ?_⟩⟩, fun q => absurd (Int.le_refl 10) q⟩
        rw [hI3.2 a b ha hb]
        have : ((a : Int) < a0 ∨ ((a : Int) = a0 ∧ (b : Int) < 10)) ↔ ((a : Int) < a0 + 1) := by omega
        simp only [this]
      · obtain ⟨o3, l3⟩ := hI3
        have ca := cvF_step hB okk k.toNat a0.toNat u.toNat
        have x1 : σ3 46 0 (10 * a0.toNat + k.toNat) = cvF a0.toNat k.toNat (D a0.toNat k.toNat) := by
          rw [l3 _ _ (by omega) (by omega)]
          have : stp k.toNat D a0.toNat k.toNat = D a0.toNat k.toNat := by unfold stp; rw [if_neg (fun z => z.2.1 rfl)]
          rw [this]
          split <;> rfl
        have x2 : σ3 46 0 (10 * k.toNat + u.toNat) = cvF k.toNat u.toNat (D k.toNat u.toNat) := by
          rw [l3 _ _ (by omega) (by omega), stp_row]
          split <;> rfl
        have x3 : σ3 46 0 (10 * a0.toNat + u.toNat) = cvF a0.toNat u.toNat (D a0.toNat u.toNat) := by
          rw [l3 _ _ (by omega) (by omega), if_neg (by omega)]
        have b1 := cvF_b (a := a0.toNat) (b := k.toNat) (okD_b hB okk a0.toNat k.toNat)
        have b2 := cvF_b (a := k.toNat) (b := u.toNat) (okD_b hB okk k.toNat u.toNat)
        have b3 := cvF_b (a := a0.toNat) (b := u.toNat) (okD_b hB okk a0.toNat u.toNat)
        have i1 := ix h0 k0
        have i2 := ix k0 u0
        have i3 := ix h0 u0
        have fin : ∀ (v : Int) (σ4 : Hp), v = cvF a0.toNat u.toNat (stp k.toNat D a0.toNat u.toNat) → σ4 = zup σ3 46 0 (10 * a0.toNat + u.toNat) v → Runs 3 mX11_findsFar 172 [zR 34 0, zU, zI k, zI a0, zI (u + 1), zU] [] σ4 (rV K') := fun v σ4 ev e4 => by
          subst e4
          refine nx3 _ ⟨o3.up (by decide), fun a b ha hb => ?_⟩
          rw [z46 (by omega) hb]
          by_cases q : a = a0.toNat ∧ b = u.toNat
          · rw [if_pos q, ev, q.1, q.2, if_pos (by omega)]
          · rw [if_neg q, l3 a b ha hb]
            have : ((a : Int) < a0 ∨ ((a : Int) = a0 ∧ (b : Int) < u)) ↔ ((a : Int) < a0 ∨ ((a : Int) = a0 ∧ (b : Int) < u + 1)) := by omega
            simp only [this]
        have keep : cvF a0.toNat u.toNat (stp k.toNat D a0.toNat u.toNat) = cvF a0.toNat u.toNat (D a0.toNat u.toNat) → Runs 3 mX11_findsFar 212 [zR 34 0, zU, zI k, zI a0, zI u, zU] [] σ3 (rV K') := fun hk => by
          refine gX11_findsFar_212 k a0 u σ3 ?_
          rw [i3]
          refine ⟨by omega, by omega, by omega, by omega, by omega, fun c => ⟨by omega, by omega, by omega, by omega, by omega, fun σ4 e4 => fin _ σ4 (by rw [hk, ← x3]) e4⟩, fun c => absurd c (by omega)⟩
        refine gX11_findsFar_172 k a0 u σ3 ⟨fun q => absurd q (by omega), fun _ => ?_⟩
        rw [i1, i2, i3]
        refine ⟨by omega, by omega, by omega, fun c => keep (ca.1 (by omega) (by omega)), fun c => ⟨by omega, by omega, by omega, fun c2 => ⟨by omega, by omega, by omega, by omega, by omega, by omega, by omega, by omega, by omega, by omega, by omega, by omega, fun c3 => ⟨by omega, by omega, by omega, by omega, by omega, fun σ4 e4 => fin _ σ4 ?_ e4⟩, fun c3 => ⟨by omega, by omega, fun σ4 e4 => fin _ σ4 ?_ e4⟩⟩, fun c2 => keep (ca.2.1 (by omega))⟩⟩
        · rw [x3]
          exact ((ca.2.2 (by omega) (by omega)).1 (by omega)).symm
        · rw [x1, x2]
          exact ((ca.2.2 (by omega) (by omega)).2 (by omega)).symm
      · rw [hI.2 a b ha hb]
        have : ((a : Int) < a0 ∨ ((a : Int) = a0 ∧ (b : Int) < 0)) ↔ ((a : Int) < a0) := by omega
        simp only [this]
theorem qX11_findsFar {σ : Hp} (hw : WF (σ 36 0)) {m : Int} (hmm : 0 ≤ m ∧ m ≤ 2879) (h : ∀ σ', Off [46] σ σ' → L46 σ' (FF (σ 36 0) m) → K' σ') : Runs 3 mX11_findsFar 0 [zR 34 0, zI m, zU, zU, zU, zU] [] σ (rV K') :=
  far_init (fun σ1 o1 l1 => far_streets hw rfl hmm (fun σ2 o2 l2 => far_join hw h o2 l2) o1 l1)
end Far
