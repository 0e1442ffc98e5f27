/-! the class's search: setOut -/
def zfillN (σ : Hp) (g x : Nat) (v : Int) (n : Nat) : Hp := fun g' i' j' => if g' = g ∧ i' = x ∧ j' < n then v else σ g' i' j'
theorem zfillN_up {σ : Hp} {g x : Nat} {v : Int} {n : Nat} : zup (zfillN σ g x v n) g x n v = zfillN σ g x v (n + 1) := by
  funext g' i' j'
  unfold zup zfillN
  by_cases h1 : g' = g ∧ i' = x
  · obtain ⟨rfl, rfl⟩ := h1
    by_cases h2 : j' = n
    · subst h2; simp
    · by_cases h3 : j' < n
      · simp [h2, h3, show j' < n + 1 by omega]
      · simp [h2, h3, show ¬ j' < n + 1 by omega]
  · have a1 : ¬ (g' = g ∧ i' = x ∧ j' = n) := fun q => h1 ⟨q.1, q.2.1⟩
    have a2 : ¬ (g' = g ∧ i' = x ∧ j' < n) := fun q => h1 ⟨q.1, q.2.1⟩
    have a3 : ¬ (g' = g ∧ i' = x ∧ j' < n + 1) := fun q => h1 ⟨q.1, q.2.1⟩
    rw [if_neg a1, if_neg a2, if_neg a3]
theorem zfillN_0 {σ : Hp} {g x : Nat} {v : Int} : zfillN σ g x v 0 = σ := by
  funext g' i' j'
  unfold zfillN
  rw [if_neg (by omega)]
theorem zfillN_off {σ : Hp} {g x : Nat} {v : Int} {n : Nat} : Off [g] σ (zfillN σ g x v n) := fun g' hg => by
  funext i' j'
  unfold zfillN
  rw [if_neg (fun q => hg (by simp [q.1]))]
theorem fill18 {σ : Hp} {K' : Hp → Prop} {x : Nat} {v : Int} (h : K' (zfillN σ 18 x v 10)) : Runs 0 mJ7_fill_53178 0 [zR 18 x, zI v, zU, zU] [] σ (rV K') := by
  have loop : ∀ n i : Nat, i + n = 10 → Runs 0 mJ7_fill_53178 5 [zR 18 x, zI v, zI (i : Int), zI 10] [] (zfillN σ 18 x v i) (rV K') := by
    intro n
    induction n with
    | zero =>
      intro i hi
      have : i = 10 := by omega
      subst this
      exact gJ7_fill18_5 v 10 10 x _ ⟨fun _ => h, fun q => absurd (Int.le_refl _) q⟩
    | succ n ih =>
      intro i hi
      refine gJ7_fill18_5 v (i : Int) 10 x _ ⟨fun q => absurd q (by omega), fun _ => ⟨by omega, by omega, ?_⟩⟩
      simp only [Int.toNat_natCast]
      rw [zfillN_up]
      exact ih (i + 1) (by omega)
  have := loop 10 0 rfl
  rw [zfillN_0] at this
  exact gJ7_fill18_0 v x σ this
theorem fill21 {σ : Hp} {K' : Hp → Prop} {x : Nat} {v : Int} (h : K' (zfillN σ 21 x v 10)) : Runs 0 mJ7_fill_53178 0 [zR 21 x, zI v, zU, zU] [] σ (rV K') := by
  have loop : ∀ n i : Nat, i + n = 10 → Runs 0 mJ7_fill_53178 5 [zR 21 x, zI v, zI (i : Int), zI 10] [] (zfillN σ 21 x v i) (rV K') := by
    intro n
    induction n with
    | zero =>
      intro i hi
      have : i = 10 := by omega
      subst this
      exact gJ7_fill21_5 v 10 10 x _ ⟨fun _ => h, fun q => absurd (Int.le_refl _) q⟩
    | succ n ih =>
      intro i hi
      refine gJ7_fill21_5 v (i : Int) 10 x _ ⟨fun q => absurd q (by omega), fun _ => ⟨by omega, by omega, ?_⟩⟩
      simp only [Int.toNat_natCast]
      rw [zfillN_up]
      exact ih (i + 1) (by omega)
  have := loop 10 0 rfl
  rw [zfillN_0] at this
  exact gJ7_fill21_0 v x σ this
theorem fill24 {σ : Hp} {K' : Hp → Prop} {x : Nat} {v : Int} (h : K' (zfillN σ 24 x v 10)) : Runs 0 mJ7_fill_53178 0 [zR 24 x, zI v, zU, zU] [] σ (rV K') := by
  have loop : ∀ n i : Nat, i + n = 10 → Runs 0 mJ7_fill_53178 5 [zR 24 x, zI v, zI (i : Int), zI 10] [] (zfillN σ 24 x v i) (rV K') := by
    intro n
    induction n with
    | zero =>
      intro i hi
      have : i = 10 := by omega
      subst this
      exact gJ7_fill24_5 v 10 10 x _ ⟨fun _ => h, fun q => absurd (Int.le_refl _) q⟩
    | succ n ih =>
      intro i hi
      refine gJ7_fill24_5 v (i : Int) 10 x _ ⟨fun q => absurd q (by omega), fun _ => ⟨by omega, by omega, ?_⟩⟩
      simp only [Int.toNat_natCast]
      rw [zfillN_up]
      exact ih (i + 1) (by omega)
  have := loop 10 0 rfl
  rw [zfillN_0] at this
  exact gJ7_fill24_0 v x σ this
theorem qX8_soonestUnsettled {σ : Hp} {K : Int → Hp → Prop} (hn : σ 1 0 0 ≤ 10 ∧ 0 ≤ σ 1 0 0) (h1 : (∀ c : Nat, (c : Int) < σ 1 0 0 → bitz (σ 17 0 3) c = 1 ∨ 1000000 ≤ σ 18 0 c) → K (-1) σ)
    (h2 : ∀ b : Nat, (b : Int) < σ 1 0 0 → bitz (σ 17 0 3) b = 0 → σ 18 0 b < 1000000 → (∀ c : Nat, (c : Int) < σ 1 0 0 → bitz (σ 17 0 3) c = 0 → σ 18 0 b ≤ σ 18 0 c) → K (b : Int) σ) : Runs 1 mX8_soonestUnsettled 0 [zR 17 0, zU, zU, zU] [] σ (rI K) := by
  have loop : ∀ (n c : Nat) (l1 l2 : Int), (σ 1 0 0 - c).toNat ≤ n → (c : Int) ≤ σ 1 0 0 →
      ((l1 = -1 ∧ l2 = 1000000 ∧ ∀ c' : Nat, c' < c → bitz (σ 17 0 3) c' = 1 ∨ 1000000 ≤ σ 18 0 c') ∨ ∃ b : Nat, l1 = b ∧ l2 = σ 18 0 b ∧ b < c ∧ bitz (σ 17 0 3) b = 0 ∧ σ 18 0 b < 1000000 ∧ ∀ c' : Nat, c' < c → bitz (σ 17 0 3) c' = 0 → σ 18 0 b ≤ σ 18 0 c') →
      Runs 1 mX8_soonestUnsettled 7 [zR 17 0, zI l1, zI l2, zI (c : Int)] [] σ (rI K) := by
    intro n
    have fin : ∀ (c : Nat) (l1 l2 : Int), (c : Int) = σ 1 0 0 → ((l1 = -1 ∧ l2 = 1000000 ∧ ∀ c' : Nat, c' < c → bitz (σ 17 0 3) c' = 1 ∨ 1000000 ≤ σ 18 0 c') ∨ ∃ b : Nat, l1 = b ∧ l2 = σ 18 0 b ∧ b < c ∧ bitz (σ 17 0 3) b = 0 ∧ σ 18 0 b < 1000000 ∧ ∀ c' : Nat, c' < c → bitz (σ 17 0 3) c' = 0 → σ 18 0 b ≤ σ 18 0 c') → Runs 1 mX8_soonestUnsettled 7 [zR 17 0, zI l1, zI l2, zI (c : Int)] [] σ (rI K) := fun c l1 l2 hc hI => by
      refine gX8_soonestUnsettled_7 l1 l2 (c : Int) σ ⟨fun _ => ?_, fun q => absurd (show σ 1 0 0 ≤ (c : Int) by omega) q⟩
      rcases hI with ⟨rfl, -, h⟩ | ⟨b, rfl, -, hb, hz, hl, hm⟩
      · exact h1 (fun c' hc' => h c' (by omega))
      · exact h2 b (by omega) hz hl (fun c' hc' => hm c' (by omega))
    induction n with
    | zero => intro c l1 l2 hn2 hc hI; exact fin c l1 l2 (by omega) hI
    | succ n ih =>
      intro c l1 l2 hn2 hc hI
      by_cases hcs : (c : Int) = σ 1 0 0
      · exact fin c l1 l2 hcs hI
      · have a1 : (σ 1 0 0 - ((c + 1 : Nat) : Int)).toNat ≤ n ∧ ((c + 1 : Nat) : Int) ≤ σ 1 0 0 := by clear hI; omega
        have split : ∀ c' : Nat, c' < c + 1 → c' < c ∨ c' = c := fun c' h => by omega
        refine gX8_soonestUnsettled_7 l1 l2 (c : Int) σ ⟨fun q => absurd q (by clear hI; omega), fun q => ?_⟩
        simp only [Int.toNat_natCast]
        refine ⟨by clear hI; omega, fun le => ⟨by clear hI; omega, ih (c + 1) l1 l2 a1.1 a1.2 ?_⟩, fun gt => ⟨fun z => ⟨by clear hI; omega, ih (c + 1) l1 l2 a1.1 a1.2 ?_⟩, fun z => ⟨by clear hI; omega, by clear hI; omega, ih (c + 1) _ _ a1.1 a1.2 ?_⟩⟩⟩
        · rcases hI with ⟨e1, e2, h⟩ | ⟨b, e1, e2, hb, hz, hl, hm⟩
          · refine Or.inl ⟨e1, e2, fun c' hc' => ?_⟩
            rcases split c' hc' with y | rfl
            · exact h c' y
            · exact Or.inr (by omega)
          · refine Or.inr ⟨b, e1, e2, by omega, hz, hl, fun c' hc' hz' => ?_⟩
            rcases split c' hc' with y | rfl
            · exact hm c' y hz'
            · omega
        · have z1 : bitz (σ 17 0 3) c = 1 := (bitz_01 _ _).resolve_left z
          rcases hI with ⟨e1, e2, h⟩ | ⟨b, e1, e2, hb, hz, hl, hm⟩
          · refine Or.inl ⟨e1, e2, fun c' hc' => ?_⟩
            rcases split c' hc' with y | rfl
            · exact h c' y
            · exact Or.inl z1
          · refine Or.inr ⟨b, e1, e2, by omega, hz, hl, fun c' hc' hz' => ?_⟩
            rcases split c' hc' with y | rfl
            · exact hm c' y hz'
            · exact absurd hz' z
        · refine Or.inr ⟨c, rfl, rfl, by omega, z, ?_, fun c' hc' hz' => ?_⟩
          · rcases hI with ⟨e1, e2, h⟩ | ⟨b, e1, e2, hb, hz, hl, hm⟩ <;> omega
          · rcases split c' hc' with y | rfl
            · rcases hI with ⟨e1, e2, h⟩ | ⟨b, e1, e2, hb, hz, hl, hm⟩
              · rcases h c' y with k | k
                · omega
                · omega
              · have := hm c' y hz'; omega
            · omega
  exact gX8_soonestUnsettled_0 σ (loop (σ 1 0 0).toNat 0 (-1) 1000000 (by omega) (by omega) (Or.inl ⟨rfl, rfl, fun c' h => absurd h (by omega)⟩))
section Go
variable {K' : Hp → Prop} {s : Nat → Int} {f b : Nat} {m0 : Int} {Z : Nat → Prop}
theorem goOn_loop (hw : WF s) (hb : b < 10) {σ0 : Hp} (ht : TRc σ0 s) (hm : TMs σ0 s) {mb : Int} (hst : Std σ0 s mb) (cont : ∀ σ', Off [18] σ0 σ' → RX s f m0 (σ' 18 0) Z b (fun t' _ => t' < s 1) → K' σ') :
    ∀ (n : Nat) (t : Int) (σ : Hp), (s 1 - t).toNat ≤ n → 0 ≤ t → t ≤ s 1 → Off [18] σ0 σ → σ 18 0 b = mb → RX s f m0 (σ 18 0) Z b (fun t' _ => t' < t) → Runs 2 mX8_goOnFrom 15 [zR 17 0, zI (b : Int), zI t] [] σ (rV K') := by
  have w1 := hw.2.1
  have fin : ∀ (t : Int) (σ : Hp), t = s 1 → Off [18] σ0 σ → RX s f m0 (σ 18 0) Z b (fun t' _ => t' < t) → Runs 2 mX8_goOnFrom 15 [zR 17 0, zI (b : Int), zI t] [] σ (rV K') := fun t σ e ho hx => by
    subst e
    have e1 : σ 1 0 1 = s 1 := by rw [ho 1 (by decide)]; exact hm.2.1
    exact gX8_goOnFrom_15 (b : Int) (s 1) σ ⟨fun _ => cont σ ho hx, fun q => absurd (show σ 1 0 1 ≤ s 1 by omega) q⟩
  intro n
  induction n with
  | zero => intro t σ hn h0 h1 ho hmb hx; exact fin t σ (by omega) ho hx
  | succ n ih =>
    intro t σ hn h0 h1 ho hmb hx
    by_cases hts : t = s 1
    · exact fin t σ hts ho hx
    · have e1 : σ 1 0 1 = s 1 := by rw [ho 1 (by decide)]; exact hm.2.1
      obtain ⟨t2, t3, t4⟩ := hm.2.2 t h0 (by omega)
      rw [← show σ 2 = σ0 2 from ho 2 (by decide)] at t2
      rw [← show σ 3 = σ0 3 from ho 3 (by decide)] at t3
      rw [← show σ 4 = σ0 4 from ho 4 (by decide)] at t4
      have e16 : σ 16 = σ0 16 := ho 16 (by decide)
      have ht' : TRc σ s := ht.keep (fun j _ => by rw [e16])
      have hst' : Std σ s mb := by unfold Std; rw [e16]; exact hst
      obtain ⟨a0, a1, a2, a3, -, -, -, a7, -⟩ := id hx
      have hTb := a3 b hb
      have hTl := (a7 b hb (Or.inr rfl)).1
      have wst := hw.2.2.2.2.2.2.2.2.2.2.2.1 t h0 (by omega)
      unfold stOK at wst
      -- one step by an end
      have step : ∀ e : Int, (e = 0 ∨ e = 1) → sg s t e = (b : Int) → (-9 ≤ tEnt σ t e ∧ tEnt σ t e ≤ 1000000) ∧ ∃ σ1, σ1 = tAlong σ t (sg s t (1 - e)) (tEnt σ t e) ∧ Off [18] σ σ1 ∧ σ1 18 0 b = mb ∧ RX s f m0 (σ1 18 0) Z b (fun t' _ => t' < t + 1) := fun e he hsb => by
        have hv : vst s t e := ⟨h0, by omega, he⟩
        have v := vst_ok hw hv
        have hea : ea s t e = b := by unfold ea; omega
        have hent : tEnt σ t e = entS s t e mb := tEnt_eq ht' hst' ⟨h0, by omega⟩ he
        have hother : ∀ t' e', vst s t' e' → t' < t + 1 → ea s t' e' = b → t' < t ∨ (t' = t ∧ e' = e) := fun t' e' hv' hlt he' => by
          by_cases y : t' < t
          · exact Or.inl y
          · have : t' = t := by omega
            subst this
            refine Or.inr ⟨rfl, ?_⟩
            by_cases z : e' = e
            · exact z
            · have e3 : e' = 1 - e := by rcases he with p | p <;> rcases hv'.2.2 with r | r <;> omega
              rw [e3] at he'
              exact absurd (hea.trans he'.symm) v.2.2.1
        rw [hent]
        by_cases hn9 : entS s t e mb = -9
        · refine ⟨by omega, σ, by unfold tAlong; rw [if_pos hn9], Off.rf, hmb, ?_⟩
          have x1 := hx.none (t := t) (e := e) (by rw [hmb]; exact hn9)
          exact x1.weak (fun t' e' hv' hlt he' => hother t' e' hv' hlt he')
        · have g := entS_ge hw (m := mb) (by omega) hn9
          refine ⟨by omega, _, rfl, ?_, ?_, ?_⟩
          · unfold tAlong; rw [if_neg hn9]; exact Off.rf.up (by decide)
          · unfold tAlong; rw [if_neg hn9]
            have : (b : Nat) ≠ (sg s t (1 - e)).toNat := by rw [← hea]; exact v.2.2.1
            simp [zup, this, hmb]
          · have x1 := hx.go (T' := (tAlong σ t (sg s t (1 - e)) (entS s t e mb)) 18 0) hw hb hv hea (by rw [hmb]; exact hn9) (fun c hc => by
              unfold tAlong; rw [if_neg hn9, hmb, t4]
              have ee : ea s t (1 - e) = (sg s t (1 - e)).toNat := rfl
              rw [ee]
              by_cases y : c = (sg s t (1 - e)).toNat
              · rw [if_pos y]; subst y; simp [zup]
              · rw [if_neg y]; simp [zup, y])
            exact x1.weak (fun t' e' hv' hlt he' => hother t' e' hv' hlt he')
      have w0 := hw.1
      refine gX8_goOnFrom_15 (b : Int) t σ ⟨fun q => absurd q (by omega), fun q => ⟨by omega, fun c2 => ⟨by omega, fun c3 => ⟨by omega, ?_⟩, fun c3 => ?_⟩, fun c2 => ?_⟩⟩
      · refine ih (t + 1) σ (by omega) (by omega) (by omega) ho hmb (hx.weak (fun t' e' hv' hlt he' => ?_))
        by_cases y : t' < t
        · exact y
        · exfalso
          have : t' = t := by omega
          subst this
          unfold ea at he'
          rcases hv'.2.2 with p | p
          · rw [p] at he'; apply c2; rw [t2]; omega
          · rw [p] at he'; apply c3; rw [t3]; omega
      · rw [t3] at c3
        obtain ⟨s1, σ1, s2, s3, s4, s5⟩ := step 1 (Or.inr rfl) c3
        rw [show (1 : Int) - 1 = 0 by omega] at s2
        rw [t2, t4]
        refine ⟨by omega, by omega, by omega, s1, by omega, fun σ2 e2 => ?_⟩
        rw [← s2] at e2
        subst e2
        exact ⟨by omega, ih (t + 1) σ2 (by omega) (by omega) (by omega) (ho.tr s3) s4 s5⟩
      · rw [t2] at c2
        obtain ⟨s1, σ1, s2, s3, s4, s5⟩ := step 0 (Or.inl rfl) c2
        rw [show (1 : Int) - 0 = 1 by omega] at s2
        rw [t3, t4]
        refine ⟨by omega, by omega, by omega, s1, by omega, fun σ2 e2 => ?_⟩
        rw [← s2] at e2
        subst e2
        exact ⟨by omega, ih (t + 1) σ2 (by omega) (by omega) (by omega) (ho.tr s3) s4 s5⟩
theorem qX8_goOnFrom (hw : WF s) (hb : b < 10) {σ : Hp} (ht : TRc σ s) (hm : TMs σ s) (hx : RX s f m0 (σ 18 0) Z b (fun _ _ => False)) (cont : ∀ σ', Off [16, 18] σ σ' → (∀ j, j < 7 → σ' 16 0 j = σ 16 0 j) → RX s f m0 (σ' 18 0) Z b (fun t' _ => t' < s 1) → K' σ') :
    Runs 2 mX8_goOnFrom 0 [zR 17 0, zI (b : Int), zU] [] σ (rV K') := by
  obtain ⟨a0, a1, a2, a3, -, -, -, a7, -⟩ := id hx
  have hTb := a3 b hb
  have hTl := (a7 b hb (Or.inr rfl)).1
  have w7 := hw.2.2.2.2.2.2.2.1
  have w9 := hw.2.2.2.2.2.2.2.2.2.1
  have r1 := ht.2.1
  have r2 := ht.2.2.1
  refine gX8_goOnFrom_0 (b : Int) σ ⟨by omega, by omega, by omega, ?_, ?_⟩
  · simp only [Int.toNat_natCast]; omega
  · simp only [Int.toNat_natCast]
    intro σ1 e1
    subst e1
    obtain ⟨k1, k2⟩ := tStand_keep (σ := σ) (m := σ 18 0 b)
    have e18 : (tStand σ (σ 18 0 b)) 18 = σ 18 := k2 18 (by decide)
    refine goOn_loop (f := f) (m0 := m0) (Z := Z) hw hb (ht.keep k1) (hm.keep k2 (by decide) (by decide) (by decide) (by decide)) (Std.of hw ht (by omega)) (fun σ2 o2 x2 => ?_) (s 1).toNat 0 _ (by omega) (by omega) hw.2.1.1 Off.rf (by rw [e18]) ?_
    · refine cont σ2 ((k2.mono (by decide)).tr (o2.mono (by decide))) (fun j hj => ?_) x2
      rw [o2 16 (by decide)]
      exact k1 j hj
    · rw [e18]
      exact hx.weak (fun t' e' hv' hp _ => absurd hv'.1 (by omega))
theorem setOut_loop (hw : WF s) (hf : (f : Int) < s 0) {σ0 : Hp} (ht : TRc σ0 s) (hm : TMs σ0 s) {tg : Int} (htg : tg = -1 ∨ (0 ≤ tg ∧ tg < s 0))
    (cont : ∀ σ', Off [16, 17, 18] σ0 σ' → (∀ j, j < 7 → σ' 16 0 j = σ0 16 0 j) → (tg = -1 → ∀ c, c < 10 → σ' 18 0 c = dist s f m0 c) → (0 ≤ tg → σ' 18 0 tg.toNat = dist s f m0 tg.toNat) → K' σ') :
    ∀ (n i : Nat) (σ : Hp), (s 0 - i).toNat ≤ n → (i : Int) ≤ s 0 → Off [16, 17, 18] σ0 σ → (∀ j, j < 7 → σ 16 0 j = σ0 16 0 j) → (0 ≤ σ 17 0 3 ∧ σ 17 0 3 < 16384) → cnt10 (fun c => bitz (σ 17 0 3) (c : Int)) = i → (∀ c : Nat, s 0 ≤ (c : Int) → c < 10 → bitz (σ 17 0 3) (c : Int) = 0) → DI s f m0 (σ 18 0) (fun c => bitz (σ 17 0 3) (c : Int) = 1) →
      Runs 3 mX8_setOut 24 [zR 17 0, zU, zI tg, zU, zI (i : Int), zU] [] σ (rV K') := by
  have w0 := hw.1
  have full : ∀ σ : Hp, Off [16, 17, 18] σ0 σ → (∀ j, j < 7 → σ 16 0 j = σ0 16 0 j) → DI s f m0 (σ 18 0) (fun c => bitz (σ 17 0 3) (c : Int) = 1) → (∀ c : Nat, (c : Int) < s 0 → bitz (σ 17 0 3) (c : Int) = 1 ∨ 1000000 ≤ σ 18 0 c) → K' σ := fun σ ho hk hd hall => by
    have hs : Soon s f m0 (σ 18 0) := hd.fin hw (fun v hv hz => by
      have hb := hd.2.2.2.1 v hv
      by_cases q : σ 18 0 v < 1000000
      · rcases hall v (hd.in hw hf hv q) with y | y
        · exact absurd y hz
        · omega
      · omega)
    have e := dist_eq hw hs
    refine cont σ ho hk (fun _ c hc => e c hc) (fun h0 => e _ ?_)
    rcases htg with q | q <;> omega
  have last : ∀ (i : Nat) (σ : Hp), (i : Int) = s 0 → Off [16, 17, 18] σ0 σ → (∀ j, j < 7 → σ 16 0 j = σ0 16 0 j) → (0 ≤ σ 17 0 3 ∧ σ 17 0 3 < 16384) → cnt10 (fun c => bitz (σ 17 0 3) (c : Int)) = i → (∀ c : Nat, s 0 ≤ (c : Int) → c < 10 → bitz (σ 17 0 3) (c : Int) = 0) → DI s f m0 (σ 18 0) (fun c => bitz (σ 17 0 3) (c : Int) = 1) → Runs 3 mX8_setOut 24 [zR 17 0, zU, zI tg, zU, zI (i : Int), zU] [] σ (rV K') := fun i σ hi ho hk hmask hcnt hhi hd => by
    have e1 : σ 1 0 0 = s 0 := by rw [ho 1 (by decide)]; exact hm.1
    refine gX8_setOut_24 tg (i : Int) σ ⟨fun _ => full σ ho hk hd (fun c hc => ?_), fun q => absurd (show σ 1 0 0 ≤ (i : Int) by omega) q⟩
    by_cases q : bitz (σ 17 0 3) (c : Int) = 1
    · exact Or.inl q
    · exfalso
      have q0 : (fun c : Nat => bitz (σ 17 0 3) (c : Int)) c = 0 := (bitz_01 _ _).resolve_right q
      have u := cnt10_up (z := fun c => bitz (σ 17 0 3) (c : Int)) (b := c) (by omega) q0
      have l := cnt10_n (z := fun x => if x = c then 1 else bitz (σ 17 0 3) (x : Int)) (n := i) (by omega) (fun x hx => by
        unfold wn
        by_cases y : x < i
        · rw [if_pos y]
          by_cases r : x = c
          · simp [r]
          · simp [r]; have := bitz_01 (σ 17 0 3) (x : Int); omega
        · rw [if_neg y]
          by_cases r : x = c
          · omega
          · simp [r]; have := hhi x (by omega) hx; omega)
      omega
  intro n
  induction n with
  | zero => intro i σ hn hi ho hk hmask hcnt hhi hd; exact last i σ (by omega) ho hk hmask hcnt hhi hd
  | succ n ih =>
    intro i σ hn hi ho hk hmask hcnt hhi hd
    by_cases his : (i : Int) = s 0
    · exact last i σ his ho hk hmask hcnt hhi hd
    · have e1 : σ 1 0 0 = s 0 := by rw [ho 1 (by decide)]; exact hm.1
      refine gX8_setOut_24 tg (i : Int) σ ⟨fun q => absurd q (by omega), fun _ => ?_⟩
      refine qX8_soonestUnsettled (by omega) (fun hnone => ⟨fun _ => ?_, fun q => absurd rfl q⟩) (fun b hb hbz hbl hmin => ⟨fun q => absurd q (by omega), fun _ => ⟨fun hne => ?_, fun heq => ?_⟩⟩)
      · rw [e1] at hnone
        exact full σ ho hk hd hnone
      · rw [e1] at hb hmin
        have hb10 : b < 10 := by omega
        have hminall : ∀ v : Nat, v < 10 → ¬ bitz (σ 17 0 3) (v : Int) = 1 → σ 18 0 b ≤ σ 18 0 v := fun v hv hz => by
          by_cases q : σ 18 0 v < 1000000
          · exact hmin v (hd.in hw hf hv q) ((bitz_01 _ _).resolve_right hz)
          · omega
        generalize hσ1 : zup σ 17 0 3 (zor (σ 17 0 3) (zshl 1 (b : Int))) = σ1
        have o1 : Off [16, 17, 18] σ σ1 := by rw [← hσ1]; exact Off.rf.up (by decide)
        have e16 : σ1 16 = σ 16 := by rw [← hσ1]; funext i'; exact zup_ne (fun e => by cases e)
        have e18 : σ1 18 = σ 18 := by rw [← hσ1]; funext i'; exact zup_ne (fun e => by cases e)
        have e17 : σ1 17 0 3 = zor (σ 17 0 3) (zshl 1 (b : Int)) := by rw [← hσ1]; simp [zup]
        have ho1 := ho.tr o1
        have hk1 : ∀ j, j < 7 → σ1 16 0 j = σ0 16 0 j := fun j hj => by rw [e16]; exact hk j hj
        have x0 := RX.start hd hb10 (fun q => by rw [hbz] at q; omega) hbl hminall
        refine qX8_goOnFrom (s := s) (f := f) (m0 := m0) (Z := fun c => bitz (σ 17 0 3) (c : Int) = 1) hw hb10 (ht.keep hk1) (hm.keep ho1 (by decide) (by decide) (by decide) (by decide)) (by rw [e18]; exact x0) (fun σ2 o2 k2 x2 => ⟨by omega, ?_⟩)
        have e17b : σ2 17 = σ1 17 := o2 17 (by decide)
        have bits : ∀ c : Nat, c < 10 → bitz (σ2 17 0 3) (c : Int) = if c = b then 1 else bitz (σ 17 0 3) (c : Int) := fun c hc => by
          rw [e17b, e17]; exact bitz_or hmask (by omega) c (by omega)
        have hlt := zor_lt hmask (show b < 14 by omega)
        refine ih (i + 1) σ2 (by omega) (by omega) (ho1.tr (o2.mono (by decide))) (fun j hj => by rw [k2 j hj]; exact hk1 j hj) (by rw [e17b, e17]; exact hlt) ?_ (fun c hc hc10 => ?_) ?_
        · have u := cnt10_up (z := fun c => bitz (σ 17 0 3) (c : Int)) hb10 hbz
          have : cnt10 (fun c => bitz (σ2 17 0 3) (c : Int)) = cnt10 (fun c => if c = b then 1 else bitz (σ 17 0 3) (c : Int)) := by
            unfold cnt10
            simp only [bits 0 (by omega), bits 1 (by omega), bits 2 (by omega), bits 3 (by omega), bits 4 (by omega), bits 5 (by omega), bits 6 (by omega), bits 7 (by omega), bits 8 (by omega), bits 9 (by omega)]
          rw [this, u, hcnt]
          omega
        · rw [bits c hc10, if_neg (by omega)]
          exact hhi c hc hc10
        · have d2 := x2.done (fun t e hv => hv.2.1)
          obtain ⟨c0, c1, c2, c3, c4, c5, c6, c7⟩ := d2
          have conv : ∀ c : Nat, c < 10 → (bitz (σ2 17 0 3) (c : Int) = 1 ↔ (bitz (σ 17 0 3) (c : Int) = 1 ∨ c = b)) := fun c hc => by
            rw [bits c hc]
            by_cases q : c = b <;> simp [q]
          refine ⟨c0, c1, c2, c3, fun c hc hl hcf => ?_, fun t e hv hz hne => ?_, fun u v hu hv hzu hzv => ?_, fun u hu hz => ?_⟩
          · obtain ⟨t, e, hv, h1, h2, h3⟩ := c4 c hc hl hcf
            exact ⟨t, e, hv, h1, (conv _ (vst_ok hw hv).1).mpr h2, h3⟩
          · exact c5 t e hv ((conv _ (vst_ok hw hv).1).mp hz) hne
          · exact c6 u v hu hv ((conv u hu).mp hzu) (fun q => hzv ((conv v hv).mpr q))
          · exact c7 u hu ((conv u hu).mp hz)
      · rw [e1] at hb hmin
        have hb10 : b < 10 := by omega
        have ee := soon_early hw hd (dist_soon hw hd.1 hd.2.1) hb10 (fun v hv hz => by
          by_cases q : σ 18 0 v < 1000000
          · exact hmin v (hd.in hw hf hv q) ((bitz_01 _ _).resolve_right hz)
          · omega)
        refine cont σ ho hk (fun q => by omega) (fun _ => ?_)
        rw [← heq]
        exact ee
/-- setOut: the soonest minutes, at the target or everywhere -/
theorem qX8_setOut (hw : WF s) {σ : Hp} (ht : TRc σ s) (hm : TMs σ s) {ff tg mm : Int} (hf : 0 ≤ ff ∧ ff < s 0) (hmm : 0 ≤ mm ∧ mm ≤ 2879) (htg : tg = -1 ∨ (0 ≤ tg ∧ tg < s 0))
    (cont : ∀ σ', Off [16, 17, 18] σ σ' → (∀ j, j < 7 → σ' 16 0 j = σ 16 0 j) → (tg = -1 → ∀ c, c < 10 → σ' 18 0 c = dist s ff.toNat mm c) → (0 ≤ tg → σ' 18 0 tg.toNat = dist s ff.toNat mm tg.toNat) → K' σ') :
    Runs 3 mX8_setOut 0 [zR 17 0, zI ff, zI tg, zI mm, zU, zU] [] σ (rV K') := by
  have w0 := hw.1
  refine gX8_setOut_0 ff tg mm σ (fill18 ⟨by omega, ?_⟩)
  generalize hσ1 : zup (zup (zfillN σ 18 0 1000000 10) 18 0 ff.toNat mm) 17 0 3 0 = σ1
  have o1 : Off [16, 17, 18] σ σ1 := by rw [← hσ1]; exact (((zfillN_off.mono (by decide)).up (by decide)).up (by decide))
  have e16 : σ1 16 = σ 16 := by
    rw [← hσ1]
    have a : (zfillN σ 18 0 1000000 10) 16 = σ 16 := zfillN_off 16 (by decide)
    rw [← a]
    funext i'
    rw [zup_ne (fun e => by cases e), zup_ne (fun e => by cases e)]
  have e17 : σ1 17 0 3 = 0 := by rw [← hσ1]; simp [zup]
  have e18 : ∀ c, c < 10 → σ1 18 0 c = if c = ff.toNat then mm else 1000000 := fun c hc => by
    rw [← hσ1]
    by_cases q : c = ff.toNat
    · subst q; simp [zup]
    · simp [zup, q, zfillN, hc]
  have hk1 : ∀ j, j < 7 → σ1 16 0 j = σ 16 0 j := fun j _ => by rw [e16]
  have b0 : ∀ c : Nat, bitz (σ1 17 0 3) (c : Int) = 0 := fun c => by rw [e17]; exact bitz_0 _
  have d0 := DI.start (s := s) (f := ff.toNat) (m0 := mm) (T := σ1 18 0) (by omega) hmm e18
  have := setOut_loop (K' := K') (s := s) (f := ff.toNat) (m0 := mm) hw (by omega) ht hm htg cont (s 0).toNat 0 σ1 (by omega) (by omega) o1 hk1 (by rw [e17]; omega) (by unfold cnt10; simp only [b0]; rfl) (fun c _ _ => b0 c) (by
    have ez : (fun c : Nat => bitz (σ1 17 0 3) (c : Int) = 1) = (fun _ => False) := by
      funext c
      rw [b0 c]
      simp
    rw [ez]
    exact d0)
  exact this
end Go
