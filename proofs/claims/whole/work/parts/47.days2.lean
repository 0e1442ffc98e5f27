/-! the reference's days -/
def AgA (s s1 : Nat → Int) : Prop := ∀ j, (∀ e : Nat, e < 8 → j ≠ 83 + 4 * e) → s1 j = s j
theorem AgA.up {s : Nat → Int} {σ1 : Hp} {e : Nat} {v : Int} (h : AgA s (σ1 36 0)) (he : e < 8) : AgA s ((zup σ1 36 0 (83 + 4 * e) v) 36 0) := fun j hj => by
  rw [zup_su, su_ne (hj e he)]
  exact h j hj
theorem AgA.wf {s s1 : Nat → Int} (hw : WF s) (h : AgA s s1) {f : Nat → Int} (hc : ∀ e, 0 ≤ f e ∧ f e ≤ 1439) (hf : ∀ e : Nat, (e : Int) < s 2 → s1 (83 + 4 * e) = f e) : WF s1 := by
  obtain ⟨w0, w1, w2, w3, w4, w5, w6, w7, w8, w9, w10, wst, wer, wrow⟩ := hw
  have lo : ∀ j, j < 81 → s1 j = s j := fun j hj => h j (fun e he => by omega)
  have gg : ∀ t k, 0 ≤ t → t < s 1 → 0 ≤ k → k < 5 → sg s1 t k = sg s t k := fun t k a b c d => lo _ (by omega)
  refine ⟨by rw [lo 0 (by omega)]; exact w0, by rw [lo 1 (by omega)]; exact w1, by rw [lo 2 (by omega)]; exact w2, by rw [lo 3 (by omega)]; exact w3, by rw [lo 4 (by omega)]; exact w4, by rw [lo 5 (by omega)]; exact w5, by rw [lo 6 (by omega)]; exact w6, by rw [lo 7 (by omega)]; exact w7, by rw [lo 8 (by omega)]; exact w8, by rw [lo 9 (by omega)]; exact w9, by rw [lo 10 (by omega)]; exact w10, fun t h0 h1 => ?_, fun e h0 h1 => ?_, fun i hi => ?_⟩
  · rw [lo 1 (by omega)] at h1
    have := wst t h0 h1
    unfold stOK at *
    rw [gg t 0 h0 h1 (by omega) (by omega), gg t 1 h0 h1 (by omega) (by omega), gg t 2 h0 h1 (by omega) (by omega), gg t 3 h0 h1 (by omega) (by omega), gg t 4 h0 h1 (by omega) (by omega), lo 0 (by omega)]
    exact this
  · rw [lo 2 (by omega)] at h1
    have := wer e h0 h1
    unfold erOK at *
    have e2 : se s1 e 2 = f e.toNat := by
      have := hf e.toNat (by omega)
      unfold se
      rw [show (81 + 4 * e + 2).toNat = 83 + 4 * e.toNat by omega]
      exact this
    have e0 : se s1 e 0 = se s e 0 := h _ (fun e' he' => by omega)
    have e1 : se s1 e 1 = se s e 1 := h _ (fun e' he' => by omega)
    have e3 : se s1 e 3 = se s e 3 := h _ (fun e' he' => by omega)
    have := hc e.toNat
    rw [e0, e1, e2, e3, lo 0 (by omega)]
    omega
  · rw [lo 6 (by omega)] at hi
    rw [h _ (fun e he => by omega)]
    exact wrow i hi
theorem AgA.cost {s s1 : Nat → Int} (hw : WF s) (h : AgA s s1) {z : Int} (hf : ∀ e : Nat, (e : Int) < s 2 → s1 (83 + 4 * e) = zdraw (lcgN z e)) : costM s1 = dayM s z := by
  have w1 := hw.2.1
  have w2 := hw.2.2.1
  have lo : ∀ j, j < 81 → s1 j = s j := fun j hj => h j (fun e he => by omega)
  unfold costM dayM
  rw [lo 2 (by omega)]
  refine costG_of (by omega) lo (s 2).toNat (fun e he => ⟨?_, ?_, ?_, ?_⟩)
  · exact h _ (fun e' he' => by omega)
  · exact h _ (fun e' he' => by omega)
  · unfold se
    rw [show (81 + 4 * (e : Int) + 2).toNat = 83 + 4 * e by omega]
    exact hf e (by omega)
  · exact h _ (fun e' he' => by omega)
theorem qX11_days {σ : Hp} {K : Int → Hp → Prop} {s : Nat → Int} (hs : σ 36 0 = s) (hw : WF s) {nd : Nat} (hnd : nd ≤ 10) {z : Int} (h : ∀ σ', Off [36, 41, 42, 47] σ σ' → (∀ j, σ' 36 0 j = s j) → K (dsum s z nd) σ') : Runs 6 mX11_days 21 [zR 34 0, zI (nd : Int), zI z, zU, zI 0, zU, zU, zU] [] σ (rI K) := by
  have w0 := hw.1
  have w2 := hw.2.2.1
  have back : ∀ (n e : Nat) (σ1 : Hp), e + n = 8 → Off [36, 41, 42, 47] σ σ1 → (∀ e' : Nat, e' < 8 → σ1 47 0 e' = s (83 + 4 * e')) → AgA s (σ1 36 0) → (∀ e' : Nat, e' < e → σ1 36 0 (83 + 4 * e') = s (83 + 4 * e')) → Runs 6 mX11_days 138 [zR 34 0, zU, zU, zU, zU, zI (dsum s z nd), zI (e : Int), zU] [] σ1 (rI K) := by
    intro n
    induction n with
    | zero =>
      intro e σ1 he ho hk ha hb
      refine gX11_days_138 (dsum s z nd) (e : Int) σ1 ⟨fun _ => h σ1 ho (fun j => ?_), fun q => absurd (show (8 : Int) ≤ e by omega) q⟩
      by_cases q : ∃ e' : Nat, e' < 8 ∧ j = 83 + 4 * e'
      · obtain ⟨e', h1, h2⟩ := q
        rw [h2]
        exact hb e' (by omega)
      · exact ha j (fun e' h1 h2 => q ⟨e', h1, h2⟩)
    | succ n ih =>
      intro e σ1 he ho hk ha hb
      have ix : (81 + 4 * (e : Int) + 2).toNat = 83 + 4 * e := by omega
      refine gX11_days_138 (dsum s z nd) (e : Int) σ1 ⟨fun q => absurd q (by omega), fun _ => ?_⟩
      rw [ix]
      simp only [Int.toNat_natCast]
      refine ⟨by omega, by omega, by omega, by omega, by omega, by omega, ?_⟩
      refine ih (e + 1) _ (by omega) (ho.up (by decide)) (fun e' he' => ?_) (ha.up (by omega)) (fun e' he' => ?_)
      · rw [show (zup σ1 36 0 (83 + 4 * e) (σ1 47 0 e)) 47 0 = σ1 47 0 from zup_ne (fun z => by cases z)]
        exact hk e' he'
      · rw [zup_su]
        by_cases q : e' = e
        · subst q; rw [su_eq]; exact hk e' (by omega)
        · rw [su_ne (by omega)]; exact hb e' (by omega)
  have outer : ∀ (n k : Nat) (σ1 : Hp), k + n = nd → Off [36, 41, 42, 47] σ σ1 → (∀ e' : Nat, e' < 8 → σ1 47 0 e' = s (83 + 4 * e')) → AgA s (σ1 36 0) → Runs 6 mX11_days 57 [zR 34 0, zI (nd : Int), zU, zU, zI (sdK s z k), zI (dsum s z k), zI (k : Int), zU] [] σ1 (rI K) := by
    intro n
    induction n with
    | zero =>
      intro k σ1 hn ho hk ha
      have ek : k = nd := by omega
      subst ek
      exact gX11_days_57 _ _ _ _ σ1 ⟨fun _ => back 8 0 σ1 rfl ho hk ha (fun e' he' => absurd he' (by omega)), fun q => absurd (show (k : Int) ≤ (k : Int) by omega) q⟩
    | succ n ih =>
      intro k σ1 hn ho hk ha
      refine gX11_days_57 _ _ _ _ σ1 ⟨fun q => absurd q (by omega), fun _ => ?_⟩
      have inner : ∀ (m e : Nat) (σ2 : Hp), (s 2 - e).toNat ≤ m → (e : Int) ≤ s 2 → Off [36, 41, 42, 47] σ σ2 → (∀ e' : Nat, e' < 8 → σ2 47 0 e' = s (83 + 4 * e')) → AgA s (σ2 36 0) → (∀ e' : Nat, e' < e → σ2 36 0 (83 + 4 * e') = zdraw (lcgN (sdK s z k) e')) → Runs 6 mX11_days 66 [zR 34 0, zI (nd : Int), zU, zU, zI (lcgN (sdK s z k) e), zI (dsum s z k), zI (k : Int), zI (e : Int)] [] σ2 (rI K) := by
        intro m
        have fin2 : ∀ (e : Nat) (σ2 : Hp), (e : Int) = s 2 → Off [36, 41, 42, 47] σ σ2 → (∀ e' : Nat, e' < 8 → σ2 47 0 e' = s (83 + 4 * e')) → AgA s (σ2 36 0) → (∀ e' : Nat, e' < e → σ2 36 0 (83 + 4 * e') = zdraw (lcgN (sdK s z k) e')) → Runs 6 mX11_days 66 [zR 34 0, zI (nd : Int), zU, zU, zI (lcgN (sdK s z k) e), zI (dsum s z k), zI (k : Int), zI (e : Int)] [] σ2 (rI K) := fun e σ2 hes ho2 hk2 ha2 hb2 => by
          have e2 : σ2 36 0 2 = s 2 := ha2 2 (fun e he => by omega)
          have hf : ∀ e' : Nat, (e' : Int) < s 2 → σ2 36 0 (83 + 4 * e') = zdraw (lcgN (sdK s z k) e') := fun e' he' => hb2 e' (by omega)
          refine gX11_days_66 _ _ _ _ _ σ2 ⟨fun _ => ?_, fun q => absurd (show σ2 36 0 2 ≤ (e : Int) by omega) q⟩
          refine qX11_costOf (ha2.wf hw (fun e => zdraw_b _) hf) (fun σ3 o3 => ?_)
          rw [ha2.cost hw hf]
          have b1 := dsum_b hw z k
          have b2 := dayM_b hw (sdK s z k)
          refine ⟨by omega, by omega, ?_⟩
          rw [show e = (s 2).toNat by omega]
          exact ih (k + 1) σ3 (by omega) (ho2.tr (o3.mono (by decide))) (fun e' he' => by rw [o3 47 (by decide)]; exact hk2 e' he') (by rw [o3 36 (by decide)]; exact ha2)
        induction m with
        | zero => intro e σ2 hk' hes ho2 hk2 ha2 hb2; exact fin2 e σ2 (by omega) ho2 hk2 ha2 hb2
        | succ m ih2 =>
          intro e σ2 hk' hes ho2 hk2 ha2 hb2
          by_cases hq : (e : Int) = s 2
          · exact fin2 e σ2 hq ho2 hk2 ha2 hb2
          · have e2 : σ2 36 0 2 = s 2 := ha2 2 (fun e he => by omega)
            have ix : (81 + 4 * (e : Int) + 2).toNat = 83 + 4 * e := by omega
            refine gX11_days_66 _ _ _ _ _ σ2 ⟨fun q => absurd q (by omega), fun _ => ?_⟩
            rw [ix]
            refine ⟨by omega, by omega, by omega, by omega, by omega, fun σ3 e3 => ?_⟩
            subst e3
            refine ih2 (e + 1) _ (by omega) (by omega) (ho2.up (by decide)) (fun e' he' => ?_) (ha2.up (by omega)) (fun e' he' => ?_)
            · rw [show (zup σ2 36 0 (83 + 4 * e) (zrem (zdiv (zand (wrap ((wrap (lcgN (sdK s z k) e * 1664525)) + 1013904223)) 2147483647) 256) 1440)) 47 0 = σ2 47 0 from zup_ne (fun z => by cases z)]
              exact hk2 e' he'
            · rw [zup_su]
              by_cases q : e' = e
              · subst q; rw [su_eq]; rfl
              · rw [su_ne (by omega)]; exact hb2 e' (by omega)
      exact inner (s 2).toNat 0 σ1 (by omega) (by omega) ho hk ha (fun e' he' => absurd he' (by omega))
  have first : ∀ (n e : Nat) (σ1 : Hp), e + n = 8 → Off [47] σ σ1 → (∀ e' : Nat, e' < e → σ1 47 0 e' = s (83 + 4 * e')) → Runs 6 mX11_days 21 [zR 34 0, zI (nd : Int), zI z, zU, zI (e : Int), zU, zU, zU] [] σ1 (rI K) := by
    intro n
    induction n with
    | zero =>
      intro e σ1 he ho hk
      have h36 : σ1 36 0 = s := by rw [ho 36 (by decide)]; exact hs
      exact gX11_days_21 _ _ (e : Int) σ1 ⟨fun _ => outer nd 0 σ1 (by omega) (ho.mono (by decide)) (fun e' he' => hk e' (by omega)) (fun j _ => by rw [h36]), fun q => absurd (show (8 : Int) ≤ e by omega) q⟩
    | succ n ih =>
      intro e σ1 he ho hk
      have h36 : σ1 36 0 = s := by rw [ho 36 (by decide)]; exact hs
      refine gX11_days_21 _ _ (e : Int) σ1 ⟨fun q => absurd q (by omega), fun _ => ⟨by omega, by omega, by omega, ?_⟩⟩
      simp only [Int.toNat_natCast]
      refine ih (e + 1) _ (by omega) (ho.up (by decide)) (fun e' he' => ?_)
      by_cases q : e' = e
      · subst q
        rw [h36]
        have : se s (e' : Int) 2 = s (83 + 4 * e') := by unfold se; rw [show (81 + 4 * (e' : Int) + 2).toNat = 83 + 4 * e' by omega]
        simp [zup, this]
      · simp [zup, q]
        exact hk e' (by omega)
  exact first 8 0 σ rfl Off.rf (fun e' he' => absurd he' (by omega))
