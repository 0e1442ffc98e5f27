/-! there are soonest minutes -/
theorem pick_min {T : Nat → Int} {zb : Nat → Int} : ∀ k : Nat, (∀ c, c < k → zb c = 1 ∨ 1000000 ≤ T c) ∨ ∃ b, b < k ∧ ¬ zb b = 1 ∧ T b < 1000000 ∧ ∀ c, c < k → ¬ zb c = 1 → T b ≤ T c
  | 0 => Or.inl (fun c h => absurd h (by omega))
  | k + 1 => by
    rcases pick_min (T := T) (zb := zb) k with h | ⟨b, h1, h2, h3, h4⟩
    · by_cases q : zb k = 1 ∨ 1000000 ≤ T k
      · refine Or.inl (fun c hc => ?_)
        by_cases e : c = k
        · rw [e]; exact q
        · exact h c (by omega)
      · refine Or.inr ⟨k, by omega, fun z => q (Or.inl z), by omega, fun c hc hz => ?_⟩
        by_cases e : c = k
        · rw [e]; omega
        · rcases h c (by omega) with z | z
          · exact absurd z hz
          · omega
    · by_cases q : ¬ zb k = 1 ∧ T k < T b
      · refine Or.inr ⟨k, by omega, q.1, by omega, fun c hc hz => ?_⟩
        by_cases e : c = k
        · rw [e]; omega
        · have := h4 c (by omega) hz
          omega
      · refine Or.inr ⟨b, by omega, h2, h3, fun c hc hz => ?_⟩
        by_cases e : c = k
        · subst e
          by_cases p : T c < T b
          · exact absurd ⟨hz, p⟩ q
          · omega
        · exact h4 c (by omega) hz
theorem ex_one {s : Nat → Int} (hw : WF s) {f : Nat} {m0 : Int} {T : Nat → Int} {Z : Nat → Prop} {b : Nat} {Pr : Int → Int → Prop} (h : RX s f m0 T Z b Pr) (hb : b < 10) {t e : Int} (hv : vst s t e) : ∃ T', RX s f m0 T' Z b (fun t' e' => Pr t' e' ∨ (t' = t ∧ e' = e)) := by
  by_cases he : ea s t e = b
  · by_cases hn : entS s t e (T b) = -9
    · exact ⟨T, h.none hn⟩
    · exact ⟨_, h.go hw hb hv he hn (fun c _ => rfl)⟩
  · refine ⟨T, h.weak (fun t' e' _ hp he' => ?_)⟩
    rcases hp with q | ⟨rfl, rfl⟩
    · exact q
    · exact absurd he' he
theorem ex_relax {s : Nat → Int} (hw : WF s) {f : Nat} {m0 : Int} {Z : Nat → Prop} {b : Nat} (hb : b < 10) : ∀ (n : Nat) (t : Int) (T : Nat → Int), (s 1 - t).toNat ≤ n → 0 ≤ t → t ≤ s 1 → RX s f m0 T Z b (fun t' _ => t' < t) → ∃ T', RX s f m0 T' Z b (fun t' _ => t' < s 1)
  | 0, t, T, hn, h0, h1, h => ⟨T, h.weak (fun t' e' hv hp _ => by show t' < t; have := hv.2.1; omega)⟩
  | n + 1, t, T, hn, h0, h1, h => by
    by_cases q : t = s 1
    · subst q; exact ⟨T, h⟩
    · obtain ⟨T1, x1⟩ := ex_one hw h hb (t := t) (e := 0) ⟨h0, by omega, Or.inl rfl⟩
      obtain ⟨T2, x2⟩ := ex_one hw x1 hb (t := t) (e := 1) ⟨h0, by omega, Or.inr rfl⟩
      refine ex_relax hw hb n (t + 1) T2 (by omega) (by omega) (by omega) (x2.weak (fun t' e' hv hp _ => ?_))
      by_cases y : t' < t
      · exact Or.inl (Or.inl y)
      · have : t' = t := by omega
        rcases hv.2.2 with z | z
        · exact Or.inl (Or.inr ⟨this, z⟩)
        · exact Or.inr ⟨this, z⟩
def cnt10 (z : Nat → Int) : Int := z 0 + z 1 + z 2 + z 3 + z 4 + z 5 + z 6 + z 7 + z 8 + z 9
theorem cnt10_up {z : Nat → Int} {b : Nat} (hb : b < 10) (h : z b = 0) : cnt10 (fun c => if c = b then 1 else z c) = cnt10 z + 1 := by
  unfold cnt10
  match b, hb with
  | 0, _ => simp; omega
  | 1, _ => simp; omega
  | 2, _ => simp; omega
  | 3, _ => simp; omega
  | 4, _ => simp; omega
  | 5, _ => simp; omega
  | 6, _ => simp; omega
  | 7, _ => simp; omega
  | 8, _ => simp; omega
  | 9, _ => simp; omega
theorem cnt10_le {z : Nat → Int} (h : ∀ c, c < 10 → z c ≤ 1) : cnt10 z ≤ 10 := by
  have h0 := h 0 (by omega); have h1 := h 1 (by omega); have h2 := h 2 (by omega); have h3 := h 3 (by omega); have h4 := h 4 (by omega)
  have h5 := h 5 (by omega); have h6 := h 6 (by omega); have h7 := h 7 (by omega); have h8 := h 8 (by omega); have h9 := h 9 (by omega)
  unfold cnt10
  omega
theorem ex_main {s : Nat → Int} (hw : WF s) {f : Nat} {m0 : Int} : ∀ (n : Nat) (T zb : Nat → Int), (10 - cnt10 zb).toNat ≤ n → (∀ c, c < 10 → zb c = 0 ∨ zb c = 1) → DI s f m0 T (fun c => zb c = 1) → ∃ D, Soon s f m0 D := by
  intro n
  have fin : ∀ T zb : Nat → Int, (∀ c, c < 10 → zb c = 1 ∨ 1000000 ≤ T c) → DI s f m0 T (fun c => zb c = 1) → ∃ D, Soon s f m0 D := fun T zb h hd => ⟨T, hd.fin hw (fun v hv hz => by
    have := hd.2.2.2.1 v hv
    rcases h v hv with q | q
    · exact absurd q hz
    · omega)⟩
  have step : ∀ (T zb : Nat → Int) (b : Nat), b < 10 → ¬ zb b = 1 → T b < 1000000 → (∀ c, c < 10 → ¬ zb c = 1 → T b ≤ T c) → DI s f m0 T (fun c => zb c = 1) → ∃ T', DI s f m0 T' (fun c => (if c = b then 1 else zb c) = 1) := fun T zb b hb hz hl hm hd => by
    have x0 := RX.start hd hb hz hl hm
    obtain ⟨T', x1⟩ := ex_relax hw hb (s 1).toNat 0 T (by omega) (by omega) hw.2.1.1 (x0.weak (fun t' e' hv hp _ => absurd hv.1 (by omega)))
    refine ⟨T', ?_⟩
    have := x1.done (fun t e hv => hv.2.1)
    have ez : (fun c => (if c = b then 1 else zb c) = 1) = (fun u => zb u = 1 ∨ u = b) := by
      funext c
      apply propext
      by_cases q : c = b <;> simp [q]
    rw [ez]
    exact this
  induction n with
  | zero =>
    intro T zb hn hz hd
    rcases pick_min (T := T) (zb := zb) 10 with h | ⟨b, h1, h2, h3, h4⟩
    · exact fin T zb h hd
    · exfalso
      have e := cnt10_up h1 ((hz b h1).resolve_right h2)
      have l := cnt10_le (z := fun c => if c = b then 1 else zb c) (fun c hc => by
        by_cases q : c = b
        · simp [q]
        · simp [q]; have := hz c hc; omega)
      omega
  | succ n ih =>
    intro T zb hn hz hd
    rcases pick_min (T := T) (zb := zb) 10 with h | ⟨b, h1, h2, h3, h4⟩
    · exact fin T zb h hd
    · have e := cnt10_up h1 ((hz b h1).resolve_right h2)
      obtain ⟨T', d'⟩ := step T zb b h1 h2 h3 h4 hd
      refine ih T' (fun c => if c = b then 1 else zb c) (by omega) (fun c hc => ?_) d'
      by_cases q : c = b
      · simp [q]
      · simp [q]; exact hz c hc
theorem soon_ex {s : Nat → Int} (hw : WF s) {f : Nat} {m0 : Int} (hf : f < 10) (hm : 0 ≤ m0 ∧ m0 ≤ 2879) : ∃ D, Soon s f m0 D := by
  have d0 := DI.start (s := s) (f := f) (m0 := m0) (T := fun c => if c = f then m0 else 1000000) hf hm (fun c _ => rfl)
  refine ex_main hw 10 (fun c => if c = f then m0 else 1000000) (fun _ => 0) (by decide) (fun _ _ => Or.inl rfl) ?_
  have ez : (fun _ : Nat => (0 : Int) = 1) = (fun _ => False) := by funext c; simp
  rw [ez]
  exact d0
theorem dist_soon {s : Nat → Int} (hw : WF s) {f : Nat} {m0 : Int} (hf : f < 10) (hm : 0 ≤ m0 ∧ m0 ≤ 2879) : Soon s f m0 (dist s f m0) := by
  obtain ⟨D, h⟩ := soon_ex hw hf hm
  exact dist_fin h
