/-! what errands cost -/
noncomputable def mins (s : Nat → Int) (f t : Nat) (a : Int) : Int := if dist s f a t = 1000000 then 3000 else dist s f a t - a
noncomputable def costN (s : Nat → Int) : Nat → Int
  | 0 => 0
  | n + 1 => costN s n + se s n 3 * mins s (se s n 0).toNat (se s n 1).toNat (se s n 2)
noncomputable def costM (s : Nat → Int) : Int := costN s (s 2).toNat
theorem mins_b {s : Nat → Int} (hw : WF s) {f t : Nat} {a : Int} (hf : f < 10) (ht : t < 10) (ha : 0 ≤ a ∧ a ≤ 2879) : 0 ≤ mins s f t a ∧ mins s f t a ≤ 3000 := by
  have d := dist_soon hw hf ha
  have b := d.2.2.2.1 t ht
  unfold mins
  split <;> omega
theorem mul_b {w m : Int} (hw : 0 ≤ w ∧ w ≤ 9) (hm : 0 ≤ m ∧ m ≤ 3000) : 0 ≤ w * m ∧ w * m ≤ 27000 := by
  have h1 := Int.mul_nonneg hw.1 hm.1
  have h2 := Int.mul_le_mul_of_nonneg_right hw.2 hm.1
  omega
theorem er_of {s : Nat → Int} (hw : WF s) {e : Int} (he : 0 ≤ e ∧ e < s 2) : erOK s e := hw.2.2.2.2.2.2.2.2.2.2.2.2.1 e he.1 he.2
theorem er_b {s : Nat → Int} (hw : WF s) {e : Int} (he : 0 ≤ e ∧ e < s 2) : 0 ≤ se s e 3 * mins s (se s e 0).toNat (se s e 1).toNat (se s e 2) ∧ se s e 3 * mins s (se s e 0).toNat (se s e 1).toNat (se s e 2) ≤ 27000 := by
  have w0 := hw.1
  obtain ⟨e0, e1, e2, e3⟩ := er_of hw he
  exact mul_b (by omega) (mins_b hw (by omega) (by omega) (by omega))
theorem costN_b {s : Nat → Int} (hw : WF s) : ∀ n : Nat, (n : Int) ≤ s 2 → 0 ≤ costN s n ∧ costN s n ≤ 27000 * n
  | 0, _ => by unfold costN; omega
  | n + 1, h => by
    have ih := costN_b hw n (by omega)
    have b := er_b hw (e := (n : Int)) (by omega)
    unfold costN
    omega
theorem costN_mono {s : Nat → Int} (hw : WF s) {n : Nat} : ∀ k : Nat, ((n + k : Nat) : Int) ≤ s 2 → costN s n ≤ costN s (n + k)
  | 0, _ => Int.le_refl _
  | k + 1, h => by
    have ih := costN_mono hw (n := n) k (by omega)
    have b := er_b hw (e := ((n + k : Nat) : Int)) (by omega)
    have e : costN s (n + (k + 1)) = costN s (n + k) + se s ((n + k : Nat) : Int) 3 * mins s (se s ((n + k : Nat) : Int) 0).toNat (se s ((n + k : Nat) : Int) 1).toNat (se s ((n + k : Nat) : Int) 2) := rfl
    rw [e]
    omega
theorem costM_b {s : Nat → Int} (hw : WF s) : 0 ≤ costM s ∧ costM s ≤ 216000 := by
  have w2 := hw.2.2.1
  have := costN_b hw (s 2).toNat (by omega)
  unfold costM
  omega
/-- the reference's cost -/
theorem qX11_costOf {σ : Hp} {K : Int → Hp → Prop} (hw : WF (σ 36 0)) (h : ∀ σ', Off [41, 42] σ σ' → K (costM (σ 36 0)) σ') : Runs 5 mX11_costOf 0 [zR 34 0, zU, zU, zU] [] σ (rI K) := by
  generalize hs : σ 36 0 = s at hw h
  have w0 := hw.1
  have w2 := hw.2.2.1
  have loop : ∀ (n e : Nat) (σ1 : Hp), (s 2 - e).toNat ≤ n → (e : Int) ≤ s 2 → Off [41, 42] σ σ1 → Runs 5 mX11_costOf 4 [zR 34 0, zI (costN s e), zI (e : Int), zU] [] σ1 (rI K) := by
    intro n
    have fin : ∀ (e : Nat) (σ1 : Hp), (e : Int) = s 2 → Off [41, 42] σ σ1 → Runs 5 mX11_costOf 4 [zR 34 0, zI (costN s e), zI (e : Int), zU] [] σ1 (rI K) := fun e σ1 he ho => by
      have hs1 : σ1 36 0 = s := by rw [ho 36 (by decide)]; exact hs
      refine gX11_costOf_4 _ (e : Int) σ1 ⟨fun _ => ?_, fun q => absurd (show σ1 36 0 2 ≤ (e : Int) by rw [hs1]; omega) q⟩
      have := h σ1 ho
      have e2 : e = (s 2).toNat := by omega
      unfold costM at this
      rw [← e2] at this
      exact this
    induction n with
    | zero => intro e σ1 hn he ho; exact fin e σ1 (by omega) ho
    | succ n ih =>
      intro e σ1 hn he ho
      by_cases hes : (e : Int) = s 2
      · exact fin e σ1 hes ho
      · have hs1 : σ1 36 0 = s := by rw [ho 36 (by decide)]; exact hs
        obtain ⟨e0, e1, e2, e3⟩ := er_of hw (e := (e : Int)) (by omega)
        have cb := costN_b hw e he
        have eb := er_b hw (e := (e : Int)) (by omega)
        refine gX11_costOf_4 _ (e : Int) σ1 ⟨fun q => absurd q (by rw [hs1]; omega), fun _ => ⟨by omega, by omega, ?_⟩⟩
        refine qX11_finds (by rw [hs1]; exact hw) (by rw [hs1]; exact e0) (by rw [hs1]; omega) (fun σ2 o2 r2 d2 => ?_)
        have hs2 : σ2 36 0 = s := by rw [o2 36 (by decide)]; exact hs1
        rw [hs1] at d2
        rw [hs2]
        have dd := dist_eq hw d2 (se s e 1).toNat (by omega)
        have hr := r2 (se s e 1).toNat (by omega)
        have next : costN s (e + 1) = costN s e + se s e 3 * mins s (se s e 0).toNat (se s e 1).toNat (se s e 2) := rfl
        refine ⟨by omega, by omega, by omega, fun q => ⟨by omega, by omega, ?_⟩, fun q => ?_⟩
        · have hm : mins s (se s e 0).toNat (se s e 1).toNat (se s e 2) = σ2 41 0 (se s e 1).toNat - se s e 2 := by
            unfold mins
            rw [← dd]
            unfold tauR
            rw [if_neg (by omega), if_neg (by omega)]
          rw [hm] at eb next
          refine ⟨by omega, by omega, by omega, fun z ez => ?_⟩
          rw [ez, ← next]
          exact ih (e + 1) σ2 (by omega) (by omega) (ho.tr o2)
        · have hm : mins s (se s e 0).toNat (se s e 1).toNat (se s e 2) = 3000 := by
            unfold mins
            rw [← dd]
            unfold tauR
            rw [if_pos (show σ2 41 0 (se s e 1).toNat < 0 by omega)]
            rfl
          rw [hm] at eb next
          refine ⟨by omega, by omega, by omega, ?_⟩
          rw [← next]
          exact ih (e + 1) σ2 (by omega) (by omega) (ho.tr o2)
  exact gX11_costOf_0 σ (loop (s 2).toNat 0 σ (by omega) (by omega) Off.rf)
/-- what stays in the class over a search -/
def Kept (σ σ' : Hp) : Prop := Off [16, 17, 18] σ σ' ∧ ∀ j, j < 7 → σ' 16 0 j = σ 16 0 j
theorem Kept.rf {σ : Hp} : Kept σ σ := ⟨Off.rf, fun _ _ => rfl⟩
theorem Kept.tr {a b c : Hp} (h1 : Kept a b) (h2 : Kept b c) : Kept a c := ⟨h1.1.tr h2.1, fun j hj => (h2.2 j hj).trans (h1.2 j hj)⟩
theorem Kept.T {σ σ' : Hp} {s : Nat → Int} (h : Kept σ σ') (ht : TRc σ s) (hm : TMs σ s) : TRc σ' s ∧ TMs σ' s := ⟨ht.keep h.2, hm.keep h.1 (by decide) (by decide) (by decide) (by decide)⟩
theorem qX1_minutesOf {σ : Hp} {K : Int → Hp → Prop} {s : Nat → Int} (hw : WF s) (ht : TRc σ s) (hm : TMs σ s) {f t a : Int} (hf : 0 ≤ f ∧ f < s 0) (htt : 0 ≤ t ∧ t < s 0) (ha : 0 ≤ a ∧ a ≤ 2879) (h : ∀ σ', Kept σ σ' → K (mins s f.toNat t.toNat a) σ') : Runs 4 mX1_minutesOf 0 [zR 25 0, zI f, zI t, zI a, zU] [] σ (rI K) := by
  have w0 := hw.1
  have d := dist_soon hw (f := f.toNat) (m0 := a) (by omega) ha
  have b := d.2.2.2.1 t.toNat (by omega)
  refine gX1_minutesOf_0 f t a σ (qX8_setOut hw ht hm hf ha (Or.inr htt) (fun σ1 o1 k1 _ e1 => ?_))
  have e1 := e1 htt.1
  have hK := h σ1 ⟨o1, k1⟩
  unfold mins at hK
  refine ⟨by omega, fun c => ⟨?_, ?_⟩, fun c => ?_⟩
  · unfold zmin at c ⊢
    rw [e1] at c ⊢
    split at c
    · exact absurd rfl c
    · rename_i q
      rw [if_neg q]
      omega
  · unfold zmin at c ⊢
    rw [e1] at c ⊢
    split at c
    · exact absurd rfl c
    · rename_i q
      rw [if_neg q]
      rw [if_neg q] at hK
      exact hK
  · unfold zmin at c
    rw [e1] at c
    split at c
    · rename_i q
      rw [if_pos q] at hK
      exact hK
    · omega
def TMe (σ : Hp) (s : Nat → Int) : Prop := σ 1 0 2 = s 2 ∧ ∀ e : Int, 0 ≤ e → e < s 2 → σ 6 0 e.toNat = se s e 0 ∧ σ 7 0 e.toNat = se s e 1 ∧ σ 8 0 e.toNat = se s e 2 ∧ σ 9 0 e.toNat = se s e 3
theorem TMe.keep {σ σ' : Hp} {s : Nat → Int} {G : List Nat} (h : TMe σ s) (hk : Off G σ σ') (h1 : 1 ∉ G) (h2 : 6 ∉ G) (h3 : 7 ∉ G) (h4 : 8 ∉ G) (h5 : 9 ∉ G) : TMe σ' s := by
  unfold TMe
  rw [hk 1 h1, hk 6 h2, hk 7 h3, hk 8 h4, hk 9 h5]
  exact h
/-- the class's cost, as far as it is asked for -/
theorem qX1_totalUpTo {σ : Hp} {K : Int → Hp → Prop} {s : Nat → Int} (hw : WF s) (ht : TRc σ s) (hm : TMs σ s) (he : TMe σ s) {much : Int} (h : ∀ σ' z, Kept σ σ' → 0 ≤ z → z ≤ 216000 → (costM s < much → z = costM s) → (much ≤ costM s → much ≤ z) → K z σ') : Runs 5 mX1_totalUpTo 0 [zR 25 0, zI much, zU, zU] [] σ (rI K) := by
  have w0 := hw.1
  have w2 := hw.2.2.1
  have loop : ∀ (n e : Nat) (σ1 : Hp), (s 2 - e).toNat ≤ n → (e : Int) ≤ s 2 → Kept σ σ1 → Runs 5 mX1_totalUpTo 4 [zR 25 0, zI much, zI (costN s e), zI (e : Int)] [] σ1 (rI K) := by
    intro n
    have fin : ∀ (e : Nat) (σ1 : Hp), (e : Int) = s 2 → Kept σ σ1 → Runs 5 mX1_totalUpTo 4 [zR 25 0, zI much, zI (costN s e), zI (e : Int)] [] σ1 (rI K) := fun e σ1 hes hk => by
      have e1 : σ1 1 0 2 = s 2 := by rw [hk.1 1 (by decide)]; exact he.1
      have cb := costN_b hw e (by omega)
      have ec : costN s e = costM s := by unfold costM; rw [show (s 2).toNat = e by omega]
      refine gX1_totalUpTo_4 much _ (e : Int) σ1 ⟨fun _ => ?_, fun q => absurd (show σ1 1 0 2 ≤ (e : Int) by omega) q⟩
      exact h σ1 _ hk cb.1 (by omega) (fun _ => ec) (fun q => by omega)
    induction n with
    | zero => intro e σ1 hn hes hk; exact fin e σ1 (by omega) hk
    | succ n ih =>
      intro e σ1 hn hes hk
      by_cases hq : (e : Int) = s 2
      · exact fin e σ1 hq hk
      · have e1 : σ1 1 0 2 = s 2 := by rw [hk.1 1 (by decide)]; exact he.1
        have cb := costN_b hw e hes
        have mono := costN_mono hw (n := e) ((s 2).toNat - e) (by omega)
        rw [show e + ((s 2).toNat - e) = (s 2).toNat by omega] at mono
        obtain ⟨a0, a1, a2, a3⟩ := er_of hw (e := (e : Int)) (by omega)
        have eb := er_b hw (e := (e : Int)) (by omega)
        obtain ⟨t6, t7, t8, t9⟩ := he.2 (e : Int) (by omega) (by omega)
        rw [← show σ1 6 = σ 6 from hk.1 6 (by decide)] at t6
        rw [← show σ1 7 = σ 7 from hk.1 7 (by decide)] at t7
        rw [← show σ1 8 = σ 8 from hk.1 8 (by decide)] at t8
        rw [← show σ1 9 = σ 9 from hk.1 9 (by decide)] at t9
        obtain ⟨ht1, hm1⟩ := hk.T ht hm
        refine gX1_totalUpTo_4 much _ (e : Int) σ1 ⟨fun q => absurd q (by omega), fun _ => ⟨fun q => ?_, fun q => ⟨by omega, by omega, by omega, by omega, ?_⟩⟩⟩
        · exact h σ1 _ hk cb.1 (by omega) (fun z => by unfold costM at z; omega) (fun _ => q)
        · rw [t6, t7, t8, t9]
          refine qX1_minutesOf hw ht1 hm1 a0 a1 (by omega) (fun σ2 k2 => ?_)
          have next : costN s (e + 1) = costN s e + se s e 3 * mins s (se s e 0).toNat (se s e 1).toNat (se s e 2) := rfl
          refine ⟨by omega, by omega, by omega, ?_⟩
          rw [← next]
          exact ih (e + 1) σ2 (by omega) (by omega) (hk.tr k2)
  exact gX1_totalUpTo_0 much σ (loop (s 2).toNat 0 σ (by omega) (by omega) Kept.rf)
theorem qX1_total {σ : Hp} {K : Int → Hp → Prop} {s : Nat → Int} (hw : WF s) (ht : TRc σ s) (hm : TMs σ s) (he : TMe σ s) (h : ∀ σ', Kept σ σ' → K (costM s) σ') : Runs 6 mX1_total 0 [zR 25 0] [] σ (rI K) := by
  refine gX1_total_0 σ (qX1_totalUpTo hw ht hm he (fun σ1 z k1 _ _ e1 _ => ?_))
  have := costM_b hw
  rw [e1 (by omega)]
  exact h σ1 k1
