/-! costs with other beginnings -/
noncomputable def costG (s : Nat → Int) (F A : Nat → Int) : Nat → Int
  | 0 => 0
  | n + 1 => costG s F A n + se s n 3 * mins s (F n).toNat (se s n 1).toNat (A n)
theorem entS_congr {s s' : Nat → Int} (hw : s 1 ≤ 14) (h : ∀ j, j < 81 → s' j = s j) {t e m : Int} (ht : 0 ≤ t ∧ t < s 1) : entS s' t e m = entS s t e m := by
  have g3 : sg s' t 3 = sg s t 3 := h _ (by omega)
  unfold entS wayS ebit turnsS nextS turnS
  rw [g3, h 3 (by omega), h 4 (by omega), h 5 (by omega), h 7 (by omega), h 8 (by omega), h 9 (by omega), h 10 (by omega)]
theorem Soon_congr {s s' : Nat → Int} (hw : s 1 ≤ 14) (h : ∀ j, j < 81 → s' j = s j) {f : Nat} {m : Int} {D : Nat → Int} (hs : Soon s f m D) : Soon s' f m D := by
  have h1 : s' 1 = s 1 := h 1 (by omega)
  have gg : ∀ t k, 0 ≤ t → t < s 1 → 0 ≤ k → k < 5 → sg s' t k = sg s t k := fun t k a b c d => h _ (by omega)
  have ee : ∀ t e, 0 ≤ t → t < s 1 → (e = 0 ∨ e = 1) → ea s' t e = ea s t e ∧ ea s' t (1 - e) = ea s t (1 - e) := fun t e a b c => by
    unfold ea
    rw [gg t e a b (by omega) (by omega), gg t (1 - e) a b (by omega) (by omega)]
    exact ⟨rfl, rfl⟩
  obtain ⟨a0, a1, a2, a3, a4, a5⟩ := hs
  refine ⟨a0, a1, a2, a3, fun c hc hl hcf => ?_, fun t e hv hz hn => ?_⟩
  · obtain ⟨t, e, hv, b1, b2, b3, b4, b5⟩ := a4 c hc hl hcf
    obtain ⟨x1, x2⟩ := ee t e hv.1 hv.2.1 hv.2.2
    refine ⟨t, e, ⟨hv.1, by rw [h1]; exact hv.2.1, hv.2.2⟩, by rw [x2]; exact b1, by rw [x1]; exact b2, by rw [x1]; exact b3, ?_, ?_⟩
    · rw [x1, entS_congr hw h ⟨hv.1, hv.2.1⟩]; exact b4
    · rw [x1, entS_congr hw h ⟨hv.1, hv.2.1⟩, gg t 2 hv.1 hv.2.1 (by omega) (by omega)]; exact b5
  · have hv2 : t < s 1 := by rw [← h1]; exact hv.2.1
    obtain ⟨x1, x2⟩ := ee t e hv.1 hv2 hv.2.2
    rw [x1] at hz hn
    rw [entS_congr hw h ⟨hv.1, hv2⟩] at hn
    rw [x1, x2, entS_congr hw h ⟨hv.1, hv2⟩, gg t 2 hv.1 hv2 (by omega) (by omega)]
    exact a5 t e ⟨hv.1, hv2, hv.2.2⟩ hz hn
theorem dist_congr {s s' : Nat → Int} (hw : s 1 ≤ 14) (h : ∀ j, j < 81 → s' j = s j) {f : Nat} {m : Int} : dist s' f m = dist s f m := by
  unfold dist
  have h1 : s' 1 = s 1 := h 1 (by omega)
  congr 1
  funext D
  apply propext
  exact ⟨Soon_congr (by omega) (fun j hj => (h j hj).symm), Soon_congr hw h⟩
theorem mins_congr {s s' : Nat → Int} (hw : s 1 ≤ 14) (h : ∀ j, j < 81 → s' j = s j) {f t : Nat} {a : Int} : mins s' f t a = mins s f t a := by
  unfold mins
  rw [dist_congr hw h]
theorem costG_of {s s' : Nat → Int} (hw : s 1 ≤ 14) (h : ∀ j, j < 81 → s' j = s j) {F A : Nat → Int} : ∀ n : Nat, (∀ e : Nat, e < n → se s' e 0 = F e ∧ se s' e 1 = se s e 1 ∧ se s' e 2 = A e ∧ se s' e 3 = se s e 3) → costN s' n = costG s F A n
  | 0, _ => rfl
  | n + 1, hx => by
    have ih := costG_of hw h n (fun e he => hx e (by omega))
    obtain ⟨x0, x1, x2, x3⟩ := hx n (by omega)
    unfold costN costG
    rw [ih, x0, x1, x2, x3, mins_congr hw h]
theorem costG_self {s : Nat → Int} (hw : s 1 ≤ 14) : costM s = costG s (fun e => se s e 0) (fun e => se s e 2) (s 2).toNat := costG_of hw (fun _ _ => rfl) _ (fun _ _ => ⟨rfl, rfl, rfl, rfl⟩)
theorem costG_b {s : Nat → Int} (hw : WF s) {F A : Nat → Int} : ∀ n : Nat, (n : Int) ≤ s 2 → (∀ e : Nat, e < n → (0 ≤ F e ∧ F e < s 0) ∧ (0 ≤ A e ∧ A e ≤ 2879)) → 0 ≤ costG s F A n ∧ costG s F A n ≤ 27000 * n
  | 0, _, _ => by unfold costG; omega
  | n + 1, hn, hx => by
    have w0 := hw.1
    have ih := costG_b hw n (by omega) (fun e he => hx e (by omega))
    obtain ⟨e0, e1, e2, e3⟩ := er_of hw (e := (n : Int)) (by omega)
    have x := hx n (by omega)
    have b := mul_b (w := se s n 3) (m := mins s (F n).toNat (se s n 1).toNat (A n)) (by omega) (mins_b hw (by omega) (by omega) (by omega))
    unfold costG
    omega
theorem costG_step {s : Nat → Int} (hw : WF s) {F A : Nat → Int} {n : Nat} (hn : (n : Int) < s 2) (hx : (0 ≤ F n ∧ F n < s 0) ∧ (0 ≤ A n ∧ A n ≤ 2879)) : 0 ≤ se s n 3 * mins s (F n).toNat (se s n 1).toNat (A n) ∧ se s n 3 * mins s (F n).toNat (se s n 1).toNat (A n) ≤ 27000 := by
  have w0 := hw.1
  obtain ⟨e0, e1, e2, e3⟩ := er_of hw (e := (n : Int)) (by omega)
  exact mul_b (w := se s n 3) (m := mins s (F n).toNat (se s n 1).toNat (A n)) (by omega) (mins_b hw (by omega) (by omega) (by omega))
theorem costG_mono {s : Nat → Int} (hw : WF s) {F A : Nat → Int} (hx : ∀ e : Nat, (e : Int) < s 2 → (0 ≤ F e ∧ F e < s 0) ∧ (0 ≤ A e ∧ A e ≤ 2879)) {n : Nat} : ∀ k : Nat, ((n + k : Nat) : Int) ≤ s 2 → costG s F A n ≤ costG s F A (n + k)
  | 0, _ => Int.le_refl _
  | k + 1, h => by
    have ih := costG_mono hw hx (n := n) k (by omega)
    have b := costG_step hw (F := F) (A := A) (n := n + k) (by omega) (hx (n + k) (by omega))
    have e : costG s F A (n + (k + 1)) = costG s F A (n + k) + se s ((n + k : Nat) : Int) 3 * mins s (F (n + k)).toNat (se s ((n + k : Nat) : Int) 1).toNat (A (n + k)) := rfl
    rw [e]
    omega
/-- what all would cost from corner c -/
noncomputable def homeM (s : Nat → Int) (c : Int) : Int := costG s (fun _ => c) (fun e => se s e 2) (s 2).toNat
theorem home_hx {s : Nat → Int} (hw : WF s) {c : Int} (hc : 0 ≤ c ∧ c < s 0) : ∀ e : Nat, (e : Int) < s 2 → (0 ≤ (fun _ : Nat => c) e ∧ (fun _ : Nat => c) e < s 0) ∧ (0 ≤ (fun e : Nat => se s e 2) e ∧ (fun e : Nat => se s e 2) e ≤ 2879) := fun e he => by
  obtain ⟨e0, e1, e2, e3⟩ := er_of hw (e := (e : Int)) (by omega)
  exact ⟨hc, by show 0 ≤ se s e 2; omega, by show se s e 2 ≤ 2879; omega⟩
theorem homeM_b {s : Nat → Int} (hw : WF s) {c : Int} (hc : 0 ≤ c ∧ c < s 0) : 0 ≤ homeM s c ∧ homeM s c ≤ 216000 := by
  have w2 := hw.2.2.1
  have := costG_b hw (F := fun _ => c) (A := fun e => se s e 2) (s 2).toNat (by omega) (fun e he => home_hx hw hc e (by omega))
  unfold homeM
  omega
theorem qX1_cheapestHome {σ : Hp} {K : Int → Hp → Prop} {s : Nat → Int} (hw : WF s) (ht : TRc σ s) (hm : TMs σ s) (he : TMe σ s) (h : ∀ σ' r, Kept σ σ' → AM (fun _ => True) (homeM s) (s 0) r → K r σ') : Runs 5 mX1_cheapestHome 0 [zR 25 0, zU, zU, zU, zU, zU] [] σ (rI K) := by
  have w0 := hw.1
  have w2 := hw.2.2.1
  have inner : ∀ (n e : Nat) (c : Nat) (r l : Int) (σ1 : Hp), (s 2 - e).toNat ≤ n → (e : Int) ≤ s 2 → (c : Int) < s 0 → Kept σ σ1 →
      (∀ σ' z, Kept σ σ' → (homeM s c < l → z = homeM s c) → (l ≤ homeM s c → l ≤ z) → ((l ≤ z → Runs 5 mX1_cheapestHome 7 [zR 25 0, zI r, zI l, zI ((c : Int) + 1), zU, zU] [] σ' (rI K)) ∧ (¬ l ≤ z → Runs 5 mX1_cheapestHome 7 [zR 25 0, zI (c : Int), zI z, zI ((c : Int) + 1), zU, zU] [] σ' (rI K)))) →
      Runs 5 mX1_cheapestHome 24 [zR 25 0, zI r, zI l, zI (c : Int), zI (costG s (fun _ => (c : Int)) (fun e => se s e 2) e), zI (e : Int)] [] σ1 (rI K) := by
    intro n
    have fin : ∀ (e : Nat) (c : Nat) (r l : Int) (σ1 : Hp), (e : Int) = s 2 → (c : Int) < s 0 → Kept σ σ1 →
      (∀ σ' z, Kept σ σ' → (homeM s c < l → z = homeM s c) → (l ≤ homeM s c → l ≤ z) → ((l ≤ z → Runs 5 mX1_cheapestHome 7 [zR 25 0, zI r, zI l, zI ((c : Int) + 1), zU, zU] [] σ' (rI K)) ∧ (¬ l ≤ z → Runs 5 mX1_cheapestHome 7 [zR 25 0, zI (c : Int), zI z, zI ((c : Int) + 1), zU, zU] [] σ' (rI K)))) →
      Runs 5 mX1_cheapestHome 24 [zR 25 0, zI r, zI l, zI (c : Int), zI (costG s (fun _ => (c : Int)) (fun e => se s e 2) e), zI (e : Int)] [] σ1 (rI K) := fun e c r l σ1 hes hc hk cont => by
      have e1 : σ1 1 0 2 = s 2 := by rw [hk.1 1 (by decide)]; exact he.1
      have eh : costG s (fun _ => (c : Int)) (fun e => se s e 2) e = homeM s c := by unfold homeM; rw [show (s 2).toNat = e by omega]
      rw [eh]
      obtain ⟨g1, g2⟩ := cont σ1 (homeM s c) hk (fun _ => rfl) (fun q => q)
      exact gX1_cheapestHome_24 r l (c : Int) _ (e : Int) σ1 ⟨fun _ => ⟨fun q => ⟨by omega, g1 q⟩, fun q => ⟨by omega, g2 q⟩⟩, fun q => absurd (show σ1 1 0 2 ≤ (e : Int) by omega) q⟩
    induction n with
    | zero => intro e c r l σ1 hn hes hc hk cont; exact fin e c r l σ1 (by omega) hc hk cont
    | succ n ih =>
      intro e c r l σ1 hn hes hc hk cont
      by_cases hq : (e : Int) = s 2
      · exact fin e c r l σ1 hq hc hk cont
      · have e1 : σ1 1 0 2 = s 2 := by rw [hk.1 1 (by decide)]; exact he.1
        have hx := home_hx hw (c := (c : Int)) (by omega)
        have cb := costG_b hw (F := fun _ => (c : Int)) (A := fun e => se s e 2) e hes (fun e' he' => hx e' (by omega))
        have mono := costG_mono hw hx (n := e) ((s 2).toNat - e) (by omega)
        rw [show e + ((s 2).toNat - e) = (s 2).toNat by omega] at mono
        have sb := costG_step hw (F := fun _ => (c : Int)) (A := fun e => se s e 2) (n := e) (by omega) (hx e (by omega))
        obtain ⟨a0, a1, a2, a3⟩ := er_of hw (e := (e : Int)) (by omega)
        obtain ⟨t6, t7, t8, t9⟩ := he.2 (e : Int) (by omega) (by omega)
        rw [← show σ1 7 = σ 7 from hk.1 7 (by decide)] at t7
        rw [← show σ1 8 = σ 8 from hk.1 8 (by decide)] at t8
        rw [← show σ1 9 = σ 9 from hk.1 9 (by decide)] at t9
        obtain ⟨ht1, hm1⟩ := hk.T ht hm
        refine gX1_cheapestHome_24 r l (c : Int) _ (e : Int) σ1 ⟨fun q => absurd q (by omega), fun _ => ⟨fun q => ?_, fun q => ⟨by omega, by omega, by omega, ?_⟩⟩⟩
        · have : l ≤ homeM s c := by unfold homeM; omega
          obtain ⟨g1, g2⟩ := cont σ1 (costG s (fun _ => (c : Int)) (fun e => se s e 2) e) hk (fun z => by omega) (fun _ => q)
          exact ⟨fun q => ⟨by omega, g1 q⟩, fun q => ⟨by omega, g2 q⟩⟩
        · rw [t7, t8, t9]
          refine qX1_minutesOf hw ht1 hm1 (f := (c : Int)) (by omega) a1 (by omega) (fun σ2 k2 => ?_)
          have next : costG s (fun _ => (c : Int)) (fun e => se s e 2) (e + 1) = costG s (fun _ => (c : Int)) (fun e => se s e 2) e + se s e 3 * mins s ((c : Int)).toNat (se s e 1).toNat (se s e 2) := rfl
          have sb' : 0 ≤ se s e 3 * mins s ((c : Int)).toNat (se s e 1).toNat (se s e 2) ∧ se s e 3 * mins s ((c : Int)).toNat (se s e 1).toNat (se s e 2) ≤ 27000 := sb
          refine ⟨by omega, by omega, by omega, ?_⟩
          rw [← next]
          exact ih (e + 1) c r l σ2 (by omega) (by omega) hc (hk.tr k2) cont
  have outer : ∀ (n c : Nat) (r r0 l : Int) (σ1 : Hp), (s 0 - c).toNat ≤ n → (c : Int) ≤ s 0 → Kept σ σ1 → AM (fun _ => True) (homeM s) c r0 → (0 ≤ r0 → l = homeM s r0 ∧ r = r0) → (r0 < 0 → l = 1000000 ∧ c = 0) → Runs 5 mX1_cheapestHome 7 [zR 25 0, zI r, zI l, zI (c : Int), zU, zU] [] σ1 (rI K) := by
    intro n
    have fin : ∀ (c : Nat) (r r0 l : Int) (σ1 : Hp), (c : Int) = s 0 → Kept σ σ1 → AM (fun _ => True) (homeM s) c r0 → (0 ≤ r0 → l = homeM s r0 ∧ r = r0) → (r0 < 0 → l = 1000000 ∧ c = 0) → Runs 5 mX1_cheapestHome 7 [zR 25 0, zI r, zI l, zI (c : Int), zU, zU] [] σ1 (rI K) := fun c r r0 l σ1 hc hk ha hlr hl9 => by
      have e1 : σ1 1 0 0 = s 0 := by rw [hk.1 1 (by decide)]; exact hm.1
      have h0 : 0 ≤ r0 := by
        by_cases y : r0 < 0
        · have := (hl9 y).2; omega
        · omega
      rw [hc] at ha
      rw [(hlr h0).2]
      exact gX1_cheapestHome_7 r0 l (c : Int) σ1 ⟨fun _ => h σ1 r0 hk ha, fun q => absurd (show σ1 1 0 0 ≤ (c : Int) by omega) q⟩
    induction n with
    | zero => intro c r r0 l σ1 hn hc hk ha hlr hl9; exact fin c r r0 l σ1 (by omega) hk ha hlr hl9
    | succ n ih =>
      intro c r r0 l σ1 hn hc hk ha hlr hl9
      by_cases hcs : (c : Int) = s 0
      · exact fin c r r0 l σ1 hcs hk ha hlr hl9
      · have e1 : σ1 1 0 0 = s 0 := by rw [hk.1 1 (by decide)]; exact hm.1
        have hr9 := ha.r9
        have hb := homeM_b hw (c := (c : Int)) (by omega)
        refine gX1_cheapestHome_7 r l (c : Int) σ1 ⟨fun q => absurd q (by omega), fun _ => ?_⟩
        refine inner (s 2).toNat 0 c r l σ1 (by omega) (by omega) (by omega) hk (fun σ' z hk' z1 z2 => ⟨fun q => ?_, fun q => ?_⟩)
        · have hF : l ≤ homeM s c := by
            by_cases y : homeM s c < l
            · have := z1 y; omega
            · omega
          have hr0 : 0 ≤ r0 := by
            by_cases y : r0 < 0
            · have := (hl9 y).1; omega
            · omega
          exact ih (c + 1) r r0 l σ' (by omega) (by omega) hk' (ha.keep hr0 (by rw [← (hlr hr0).1]; exact hF)) hlr (fun y => by omega)
        · have hF : homeM s c < l := by
            by_cases y : l ≤ homeM s c
            · have := z2 y; omega
            · omega
          have hz := z1 hF
          exact ih (c + 1) (c : Int) (c : Int) z σ' (by omega) (by omega) hk' (ha.less (by omega) trivial (fun y => by rw [← (hlr y).1]; exact hF)) (fun _ => ⟨hz, rfl⟩) (fun y => by omega)
  exact gX1_cheapestHome_0 σ (outer (s 0).toNat 0 0 (-9) 1000000 σ (by omega) (by omega) Kept.rf AM.zero (fun z => by omega) (fun _ => ⟨rfl, rfl⟩))
