/-! the reference's lives -/
def AgF (s s1 : Nat → Int) : Prop := ∀ j, (∀ e : Nat, e < 8 → j ≠ 81 + 4 * e) → s1 j = s j
theorem AgF.up {s : Nat → Int} {σ1 : Hp} {e : Nat} {v : Int} (h : AgF s (σ1 36 0)) (he : e < 8) : AgF s ((zup σ1 36 0 (81 + 4 * e) v) 36 0) := fun j hj => by
  rw [zup_su, su_ne (hj e he)]
  exact h j hj
theorem AgF.wf {s s1 : Nat → Int} (hw : WF s) (h : AgF s s1) {c : Int} (hc : 0 ≤ c ∧ c < s 0) (hf : ∀ e : Nat, (e : Int) < s 2 → s1 (81 + 4 * e) = c) : WF s1 := by
  obtain ⟨w0, w1, w2, w3, w4, w5, w6, w7, w8, w9, w10, wst, wer, wrow⟩ := hw
  have lo : ∀ j, j < 81 → s1 j = s j := fun j hj => h j (fun e he => by omega)
  have gg : ∀ t k, 0 ≤ t → t < s 1 → 0 ≤ k → k < 5 → sg s1 t k = sg s t k := fun t k a b c d => lo _ (by omega)
  refine ⟨by rw [lo 0 (by omega)]; exact w0, by rw [lo 1 (by omega)]; exact w1, by rw [lo 2 (by omega)]; exact w2, by rw [lo 3 (by omega)]; exact w3, by rw [lo 4 (by omega)]; exact w4, by rw [lo 5 (by omega)]; exact w5, by rw [lo 6 (by omega)]; exact w6, by rw [lo 7 (by omega)]; exact w7, by rw [lo 8 (by omega)]; exact w8, by rw [lo 9 (by omega)]; exact w9, by rw [lo 10 (by omega)]; exact w10, fun t h0 h1 => ?_, fun e h0 h1 => ?_, fun i hi => ?_⟩
  · rw [lo 1 (by omega)] at h1
    have := wst t h0 h1
    unfold stOK at *
    rw [gg t 0 h0 h1 (by omega) (by omega), gg t 1 h0 h1 (by omega) (by omega), gg t 2 h0 h1 (by omega) (by omega), gg t 3 h0 h1 (by omega) (by omega), gg t 4 h0 h1 (by omega) (by omega), lo 0 (by omega)]
    exact this
  · rw [lo 2 (by omega)] at h1
    have := wer e h0 h1
    unfold erOK at *
    have e0 : se s1 e 0 = c := by
      have := hf e.toNat (by omega)
      unfold se
      rw [show (81 + 4 * e + 0).toNat = 81 + 4 * e.toNat by omega]
      exact this
    have e1 : se s1 e 1 = se s e 1 := h _ (fun e' he' => by omega)
    have e2 : se s1 e 2 = se s e 2 := h _ (fun e' he' => by omega)
    have e3 : se s1 e 3 = se s e 3 := h _ (fun e' he' => by omega)
    rw [e0, e1, e2, e3, lo 0 (by omega)]
    exact ⟨hc, this.2⟩
  · rw [lo 6 (by omega)] at hi
    rw [h _ (fun e he => by omega)]
    exact wrow i hi
theorem AgF.cost {s s1 : Nat → Int} (hw : WF s) (h : AgF s s1) {c : Int} (hf : ∀ e : Nat, (e : Int) < s 2 → s1 (81 + 4 * e) = c) : costM s1 = homeM s c := by
  have w1 := hw.2.1
  have w2 := hw.2.2.1
  have lo : ∀ j, j < 81 → s1 j = s j := fun j hj => h j (fun e he => by omega)
  unfold costM homeM
  rw [lo 2 (by omega)]
  refine costG_of (by omega) lo (s 2).toNat (fun e he => ⟨?_, ?_, ?_, ?_⟩)
  · unfold se
    rw [show (81 + 4 * (e : Int) + 0).toNat = 81 + 4 * e by omega]
    exact hf e (by omega)
  · exact h _ (fun e' he' => by omega)
  · exact h _ (fun e' he' => by omega)
  · exact h _ (fun e' he' => by omega)
theorem qX11_lives {σ : Hp} {K : Int → Hp → Prop} {s : Nat → Int} (hs : σ 36 0 = s) (hw : WF s) (h : ∀ σ' r, Off [36, 41, 42, 47] σ σ' → (∀ j, σ' 36 0 j = s j) → AM (fun _ => True) (homeM s) (s 0) r → K r σ') : Runs 6 mX11_lives 0 [zR 34 0, zU, zU, zU, zU] [] σ (rI K) := by
  have w0 := hw.1
  have w2 := hw.2.2.1
  -- the end: what was kept comes back
  have back : ∀ (n e : Nat) (r : Int) (σ1 : Hp), e + n = 8 → Off [36, 41, 42, 47] σ σ1 → (∀ e' : Nat, e' < 8 → σ1 47 0 e' = s (81 + 4 * e')) → AgF s (σ1 36 0) → (∀ e' : Nat, e' < e → σ1 36 0 (81 + 4 * e') = s (81 + 4 * e')) → AM (fun _ => True) (homeM s) (s 0) r → Runs 6 mX11_lives 110 [zR 34 0, zI r, zU, zI (e : Int), zU] [] σ1 (rI K) := by
    intro n
    induction n with
    | zero =>
      intro e r σ1 he ho hk ha hb hA
      refine gX11_lives_110 r (e : Int) σ1 ⟨fun _ => h σ1 r ho (fun j => ?_) hA, fun q => absurd (show (8 : Int) ≤ e by omega) q⟩
      by_cases q : ∃ e' : Nat, e' < 8 ∧ j = 81 + 4 * e'
      · obtain ⟨e', h1, h2⟩ := q
        rw [h2]
        exact hb e' (by omega)
      · exact ha j (fun e' h1 h2 => q ⟨e', h1, h2⟩)
    | succ n ih =>
      intro e r σ1 he ho hk ha hb hA
      have ix : (81 + 4 * (e : Int) + 0).toNat = 81 + 4 * e := by omega
      refine gX11_lives_110 r (e : Int) σ1 ⟨fun q => absurd q (by omega), fun _ => ?_⟩
      rw [ix]
      simp only [Int.toNat_natCast]
      refine ⟨by omega, by omega, by omega, by omega, by omega, by omega, ?_⟩
      refine ih (e + 1) r _ (by omega) (ho.up (by decide)) (fun e' he' => ?_) (ha.up (by omega)) (fun e' he' => ?_) hA
      · rw [show (zup σ1 36 0 (81 + 4 * e) (σ1 47 0 e)) 47 0 = σ1 47 0 from zup_ne (fun z => by cases z)]
        exact hk e' he'
      · rw [zup_su]
        by_cases q : e' = e
        · subst q; rw [su_eq]; exact hk e' (by omega)
        · rw [su_ne (by omega)]; exact hb e' (by omega)
  have outer : ∀ (n c : Nat) (r l : Int) (σ1 : Hp), (s 0 - c).toNat ≤ n → (c : Int) ≤ s 0 → Off [36, 41, 42, 47] σ σ1 → (∀ e' : Nat, e' < 8 → σ1 47 0 e' = s (81 + 4 * e')) → AgF s (σ1 36 0) → AM (fun _ => True) (homeM s) c r → (0 ≤ r → l = homeM s r) → Runs 6 mX11_lives 33 [zR 34 0, zI r, zI l, zI (c : Int), zU] [] σ1 (rI K) := by
    intro n
    have fin : ∀ (c : Nat) (r l : Int) (σ1 : Hp), (c : Int) = s 0 → Off [36, 41, 42, 47] σ σ1 → (∀ e' : Nat, e' < 8 → σ1 47 0 e' = s (81 + 4 * e')) → AgF s (σ1 36 0) → AM (fun _ => True) (homeM s) c r → Runs 6 mX11_lives 33 [zR 34 0, zI r, zI l, zI (c : Int), zU] [] σ1 (rI K) := fun c r l σ1 hc ho hk ha hA => by
      have e0 : σ1 36 0 0 = s 0 := ha 0 (fun e he => by omega)
      rw [hc] at hA
      exact gX11_lives_33 r l (c : Int) σ1 ⟨fun _ => back 8 0 r σ1 rfl ho hk ha (fun e' he' => absurd he' (by omega)) hA, fun q => absurd (show σ1 36 0 0 ≤ (c : Int) by omega) q⟩
    induction n with
    | zero => intro c r l σ1 hn hc ho hk ha hA hlr; exact fin c r l σ1 (by omega) ho hk ha hA
    | succ n ih =>
      intro c r l σ1 hn hc ho hk ha hA hlr
      by_cases hcs : (c : Int) = s 0
      · exact fin c r l σ1 hcs ho hk ha hA
      · have e0 : σ1 36 0 0 = s 0 := ha 0 (fun e he => by omega)
        have hr9 := hA.r9
        refine gX11_lives_33 r l (c : Int) σ1 ⟨fun q => absurd q (by omega), fun _ => ?_⟩
        have inner : ∀ (k e : Nat) (σ2 : Hp), (s 2 - e).toNat ≤ k → (e : Int) ≤ s 2 → Off [36, 41, 42, 47] σ σ2 → (∀ e' : Nat, e' < 8 → σ2 47 0 e' = s (81 + 4 * e')) → AgF s (σ2 36 0) → (∀ e' : Nat, e' < e → σ2 36 0 (81 + 4 * e') = (c : Int)) → Runs 6 mX11_lives 46 [zR 34 0, zI r, zI l, zI (c : Int), zI (e : Int)] [] σ2 (rI K) := by
          intro k
          have fin2 : ∀ (e : Nat) (σ2 : Hp), (e : Int) = s 2 → Off [36, 41, 42, 47] σ σ2 → (∀ e' : Nat, e' < 8 → σ2 47 0 e' = s (81 + 4 * e')) → AgF s (σ2 36 0) → (∀ e' : Nat, e' < e → σ2 36 0 (81 + 4 * e') = (c : Int)) → Runs 6 mX11_lives 46 [zR 34 0, zI r, zI l, zI (c : Int), zI (e : Int)] [] σ2 (rI K) := fun e σ2 hes ho2 hk2 ha2 hb2 => by
            have e2 : σ2 36 0 2 = s 2 := ha2 2 (fun e he => by omega)
            have hf : ∀ e' : Nat, (e' : Int) < s 2 → σ2 36 0 (81 + 4 * e') = (c : Int) := fun e' he' => hb2 e' (by omega)
            refine gX11_lives_46 r l (c : Int) (e : Int) σ2 ⟨fun _ => ?_, fun q => absurd (show σ2 36 0 2 ≤ (e : Int) by omega) q⟩
            refine qX11_costOf (ha2.wf hw (by omega) hf) (fun σ3 o3 => ?_)
            rw [ha2.cost hw hf]
            have ho3 : Off [36, 41, 42, 47] σ σ3 := ho2.tr (o3.mono (by decide))
            have h47 : ∀ e' : Nat, e' < 8 → σ3 47 0 e' = s (81 + 4 * e') := fun e' he' => by rw [o3 47 (by decide)]; exact hk2 e' he'
            have h36 : AgF s (σ3 36 0) := by rw [o3 36 (by decide)]; exact ha2
            refine ⟨fun q => ⟨by omega, ih (c + 1) _ _ σ3 (by omega) (by omega) ho3 h47 h36 (hA.less (by omega) trivial (fun z => by omega)) (fun _ => rfl)⟩, fun q => ⟨fun q2 => ⟨by omega, ih (c + 1) _ _ σ3 (by omega) (by omega) ho3 h47 h36 (hA.less (by omega) trivial (fun z => by rw [← hlr z]; exact q2)) (fun _ => rfl)⟩, fun q2 => ⟨by omega, ih (c + 1) _ _ σ3 (by omega) (by omega) ho3 h47 h36 (hA.keep (by omega) (by rw [← hlr (by omega)]; omega)) hlr⟩⟩⟩
          induction k with
          | zero => intro e σ2 hk' hes ho2 hk2 ha2 hb2; exact fin2 e σ2 (by omega) ho2 hk2 ha2 hb2
          | succ k ih2 =>
            intro e σ2 hk' hes ho2 hk2 ha2 hb2
            by_cases hq : (e : Int) = s 2
            · exact fin2 e σ2 hq ho2 hk2 ha2 hb2
            · have e2 : σ2 36 0 2 = s 2 := ha2 2 (fun e he => by omega)
              have ix : (81 + 4 * (e : Int) + 0).toNat = 81 + 4 * e := by omega
              refine gX11_lives_46 r l (c : Int) (e : Int) σ2 ⟨fun q => absurd q (by omega), fun _ => ?_⟩
              rw [ix]
              refine ⟨by omega, by omega, by omega, by omega, by omega, ?_⟩
              refine ih2 (e + 1) _ (by omega) (by omega) (ho2.up (by decide)) (fun e' he' => ?_) (ha2.up (by omega)) (fun e' he' => ?_)
              · rw [show (zup σ2 36 0 (81 + 4 * e) (c : Int)) 47 0 = σ2 47 0 from zup_ne (fun z => by cases z)]
                exact hk2 e' he'
              · rw [zup_su]
                by_cases q : e' = e
                · subst q; rw [su_eq]
                · rw [su_ne (by omega)]; exact hb2 e' (by omega)
        exact inner (s 2).toNat 0 σ1 (by omega) (by omega) ho hk ha (fun e' he' => absurd he' (by omega))
  have first : ∀ (n e : Nat) (σ1 : Hp), e + n = 8 → Off [47] σ σ1 → (∀ e' : Nat, e' < e → σ1 47 0 e' = s (81 + 4 * e')) → Runs 6 mX11_lives 2 [zR 34 0, zI (e : Int), zU, zU, zU] [] σ1 (rI K) := by
    intro n
    induction n with
    | zero =>
      intro e σ1 he ho hk
      have h36 : σ1 36 0 = s := by rw [ho 36 (by decide)]; exact hs
      refine gX11_lives_2 (e : Int) σ1 ⟨fun _ => outer (s 0).toNat 0 (-9) 0 σ1 (by omega) (by omega) (ho.mono (by decide)) (fun e' he' => hk e' (by omega)) (fun j _ => by rw [h36]) AM.zero (fun z => by omega), fun q => absurd (show (8 : Int) ≤ e by omega) q⟩
    | succ n ih =>
      intro e σ1 he ho hk
      have h36 : σ1 36 0 = s := by rw [ho 36 (by decide)]; exact hs
      refine gX11_lives_2 (e : Int) σ1 ⟨fun q => absurd q (by omega), fun _ => ⟨by omega, by omega, by omega, ?_⟩⟩
      simp only [Int.toNat_natCast]
      refine ih (e + 1) _ (by omega) (ho.up (by decide)) (fun e' he' => ?_)
      by_cases q : e' = e
      · subst q
        rw [h36]
        have : se s (e' : Int) 0 = s (81 + 4 * e') := by unfold se; rw [show (81 + 4 * (e' : Int) + 0).toNat = 81 + 4 * e' by omega]
        simp [zup, this]
      · simp [zup, q]
        exact hk e' (by omega)
  exact gX11_lives_0 σ (first 8 0 σ rfl Off.rf (fun e' he' => absurd he' (by omega)))
