/-! what a statement does to a town -/
def allT (r : Nat → Int) (a : Int) : Prop := (∀ t : Nat, (t : Int) < r 1 → sg r t 0 < a ∧ sg r t 1 < a) ∧ ∀ e : Nat, (e : Int) < r 2 → se r e 0 < a ∧ se r e 1 < a
def two (r : Nat → Int) (a b : Int) : Prop := a < r 0 ∧ b < r 0 ∧ a ≠ b
def cOK (L a b c d : Int) (r : Nat → Int) : Prop := (L = 107 ∧ a ≤ 10 ∧ 2 ≤ a ∧ allT r a) ∨ (L = 115 ∧ two r a b ∧ 1 ≤ c ∧ c ≤ 60 ∧ r 1 ≠ 14) ∨ (L = 101 ∧ two r a b ∧ c ≤ 1439 ∧ 1 ≤ d ∧ r 2 ≠ 8) ∨ (L = 109 ∧ a < r 1 ∧ b ≤ 2)
def pst (r : Nat → Int) (a b c d : Int) : Nat → Int := fun j => if j = 11 + 5 * (r 1).toNat then a else if j = 11 + 5 * (r 1).toNat + 1 then b else if j = 11 + 5 * (r 1).toNat + 2 then c else if j = 11 + 5 * (r 1).toNat + 3 then d else if j = 11 + 5 * (r 1).toNat + 4 then 2 else if j = 1 then r 1 + 1 else r j
def per (r : Nat → Int) (a b c d : Int) : Nat → Int := fun j => if j = 81 + 4 * (r 2).toNat then a else if j = 81 + 4 * (r 2).toNat + 1 then b else if j = 81 + 4 * (r 2).toNat + 2 then c else if j = 81 + 4 * (r 2).toNat + 3 then d else if j = 2 then r 2 + 1 else r j
def cRes (L a b c d : Int) (r : Nat → Int) : Nat → Int := if L = 107 then su r 0 a else if L = 115 then pst r a b c d else if L = 101 then per r a b c d else su r (11 + 5 * a.toNat + 4) b
def vbd (L a b c d : Int) : Prop := (0 ≤ a ∧ a ≤ 9999) ∧ (0 ≤ b ∧ b ≤ 9999) ∧ (0 ≤ c ∧ c ≤ 9999) ∧ (0 ≤ d ∧ d ≤ 9999) ∧ (L = 101 → d ≤ 9) ∧ (L = 115 → d = 0 ∨ d = 1)
theorem pst_sg {r : Nat → Int} (hw : WF r) (h14 : r 1 ≠ 14) {a b c d : Int} {x : Nat} {k : Nat} (hk : k < 5) (hx : (x : Int) ≤ r 1) : sg (pst r a b c d) x k = if (x : Int) = r 1 then (if k = 0 then a else if k = 1 then b else if k = 2 then c else if k = 3 then d else 2) else sg r x k := by
  have w1 := hw.2.1
  unfold sg pst
  have e : (11 + 5 * (x : Int) + (k : Int)).toNat = 11 + 5 * x + k := by omega
  rw [e]
  by_cases q : (x : Int) = r 1
  · rw [if_pos q]
    have ex : (r 1).toNat = x := by omega
    rw [ex]
    by_cases k0 : k = 0
    · rw [if_pos (by omega), if_pos k0]
    · rw [if_neg (by omega), if_neg k0]
      by_cases k1 : k = 1
      · rw [if_pos (by omega), if_pos k1]
      · rw [if_neg (by omega), if_neg k1]
        by_cases k2 : k = 2
        · rw [if_pos (by omega), if_pos k2]
        · rw [if_neg (by omega), if_neg k2]
          by_cases k3 : k = 3
          · rw [if_pos (by omega), if_pos k3]
          · rw [if_neg (by omega), if_neg k3, if_pos (by omega)]
  · rw [if_neg q, if_neg (by omega), if_neg (by omega), if_neg (by omega), if_neg (by omega), if_neg (by omega), if_neg (by omega)]
theorem pst_hi {r : Nat → Int} (hw : WF r) (h14 : r 1 ≠ 14) {a b c d : Int} {j : Nat} (hj : 81 ≤ j ∨ (j < 11 ∧ j ≠ 1)) : pst r a b c d j = r j := by
  have w1 := hw.2.1
  unfold pst
  rw [if_neg (by omega), if_neg (by omega), if_neg (by omega), if_neg (by omega), if_neg (by omega), if_neg (by omega)]
theorem pst_1 {r : Nat → Int} (hw : WF r) {a b c d : Int} : pst r a b c d 1 = r 1 + 1 := by
  unfold pst
  rw [if_neg (by omega), if_neg (by omega), if_neg (by omega), if_neg (by omega), if_neg (by omega), if_pos rfl]
theorem per_se {r : Nat → Int} (hw : WF r) {a b c d : Int} {x : Nat} {k : Nat} (hk : k < 4) (hx : (x : Int) ≤ r 2) : se (per r a b c d) x k = if (x : Int) = r 2 then (if k = 0 then a else if k = 1 then b else if k = 2 then c else d) else se r x k := by
  have w2 := hw.2.2.1
  unfold se per
  have e : (81 + 4 * (x : Int) + (k : Int)).toNat = 81 + 4 * x + k := by omega
  rw [e]
  by_cases q : (x : Int) = r 2
  · rw [if_pos q]
    have ex : (r 2).toNat = x := by omega
    rw [ex]
    by_cases k0 : k = 0
    · rw [if_pos (by omega), if_pos k0]
    · rw [if_neg (by omega), if_neg k0]
      by_cases k1 : k = 1
      · rw [if_pos (by omega), if_pos k1]
      · rw [if_neg (by omega), if_neg k1]
        by_cases k2 : k = 2
        · rw [if_pos (by omega), if_pos k2]
        · rw [if_neg (by omega), if_neg k2, if_pos (by omega)]
  · rw [if_neg q, if_neg (by omega), if_neg (by omega), if_neg (by omega), if_neg (by omega), if_neg (by omega)]
theorem per_lo {r : Nat → Int} (hw : WF r) {a b c d : Int} (h8 : r 2 ≠ 8) {j : Nat} (hj : (j < 81 ∧ j ≠ 2) ∨ 113 ≤ j) : per r a b c d j = r j := by
  have w2 := hw.2.2.1
  unfold per
  rw [if_neg (by omega), if_neg (by omega), if_neg (by omega), if_neg (by omega), if_neg (by omega)]
theorem per_2 {r : Nat → Int} {a b c d : Int} : per r a b c d 2 = r 2 + 1 := by
  unfold per
  rw [if_neg (by omega), if_neg (by omega), if_neg (by omega), if_neg (by omega), if_pos rfl]
theorem nat_of {P : Int → Prop} {n : Int} (h : ∀ t : Nat, (t : Int) < n → P t) : ∀ t : Int, 0 ≤ t → t < n → P t := fun t h0 hl => by
  have := h t.toNat (by omega)
  rw [Int.toNat_of_nonneg h0] at this
  exact this
theorem WF_cRes {L a b c d : Int} {r : Nat → Int} (hw : WF r) (hb : vbd L a b c d) (h : cOK L a b c d r) : WF (cRes L a b c d r) := by
  have hw0 := hw
  obtain ⟨w0, w1, w2, w3, w4, w5, w6, w7, w8, w9, w10, wst, wer, wrow⟩ := hw
  obtain ⟨b1, b2, b3, b4, b5, b6⟩ := hb
  unfold cRes
  rcases h with ⟨h1, h2, h3, h4⟩ | ⟨h1, h2, h3, h4, h5⟩ | ⟨h1, h2, h3, h4, h5⟩ | ⟨h1, h2, h3⟩
  · rw [if_pos h1]
    have e : ∀ j, j ≠ 0 → su r 0 a j = r j := fun j hj => su_ne hj
    refine ⟨by rw [su_eq]; omega, by rw [e 1 (by omega)]; exact w1, by rw [e 2 (by omega)]; exact w2, by rw [e 3 (by omega)]; exact w3, by rw [e 4 (by omega)]; exact w4, by rw [e 5 (by omega)]; exact w5, by rw [e 6 (by omega)]; exact w6, by rw [e 7 (by omega)]; exact w7, by rw [e 8 (by omega)]; exact w8, by rw [e 9 (by omega)]; exact w9, by rw [e 10 (by omega)]; exact w10, fun t h0 hl => ?_, fun t h0 hl => ?_, fun i hi => by rw [e 6 (by omega)] at hi; rw [e _ (by omega)]; exact wrow i hi⟩
    · rw [e 1 (by omega)] at hl
      have := wst t h0 hl
      have al := nat_of (P := fun t => sg r t 0 < a ∧ sg r t 1 < a) h4.1 t h0 hl
      unfold stOK at *
      rw [sg_su (by omega) h0 (by omega), sg_su (by omega) h0 (by omega), sg_su (by omega) h0 (by omega), sg_su (by omega) h0 (by omega), sg_su (by omega) h0 (by omega), su_eq]
      omega
    · rw [e 2 (by omega)] at hl
      have := wer t h0 hl
      have al := nat_of (P := fun t => se r t 0 < a ∧ se r t 1 < a) h4.2 t h0 hl
      unfold erOK at *
      rw [se_su (by omega) h0 (by omega), se_su (by omega) h0 (by omega), se_su (by omega) h0 (by omega), se_su (by omega) h0 (by omega), su_eq]
      omega
  · rw [if_neg (by omega), if_pos h1]
    have e : ∀ j, (81 ≤ j ∨ (j < 11 ∧ j ≠ 1)) → pst r a b c d j = r j := fun j hj => pst_hi hw0 h5 hj
    have bd := b6 h1
    unfold two at h2
    refine ⟨by rw [e 0 (by omega)]; exact w0, by rw [pst_1 hw0]; omega, by rw [e 2 (by omega)]; exact w2, by rw [e 3 (by omega)]; exact w3, by rw [e 4 (by omega)]; exact w4, by rw [e 5 (by omega)]; exact w5, by rw [e 6 (by omega)]; exact w6, by rw [e 7 (by omega)]; exact w7, by rw [e 8 (by omega)]; exact w8, by rw [e 9 (by omega)]; exact w9, by rw [e 10 (by omega)]; exact w10, nat_of (P := fun t => stOK (pst r a b c d) t) (fun t hl => ?_), fun t h0 hl => ?_, fun i hi => by rw [e 6 (by omega)] at hi; rw [e _ (by omega)]; exact wrow i hi⟩
    · rw [pst_1 hw0] at hl
      have p0 : sg (pst r a b c d) t 0 = _ := pst_sg (a := a) (b := b) (c := c) (d := d) hw0 h5 (x := t) (k := 0) (by omega) (by omega)
      have p1 : sg (pst r a b c d) t 1 = _ := pst_sg (a := a) (b := b) (c := c) (d := d) hw0 h5 (x := t) (k := 1) (by omega) (by omega)
      have p2 : sg (pst r a b c d) t 2 = _ := pst_sg (a := a) (b := b) (c := c) (d := d) hw0 h5 (x := t) (k := 2) (by omega) (by omega)
      have p3 : sg (pst r a b c d) t 3 = _ := pst_sg (a := a) (b := b) (c := c) (d := d) hw0 h5 (x := t) (k := 3) (by omega) (by omega)
      have p4 : sg (pst r a b c d) t 4 = _ := pst_sg (a := a) (b := b) (c := c) (d := d) hw0 h5 (x := t) (k := 4) (by omega) (by omega)
      unfold stOK
      rw [e 0 (by omega)]
      by_cases q : (t : Int) = r 1
      · rw [if_pos q] at p0 p1 p2 p3 p4
        simp at p0 p1 p2 p3 p4
        rw [p0, p1, p2, p3, p4]
        omega
      · rw [if_neg q] at p0 p1 p2 p3 p4
        have := wst t (by omega) (by omega)
        unfold stOK at this
        rw [p0, p1, p2, p3, p4]
        exact this
    · rw [e 2 (by omega)] at hl
      have := wer t h0 hl
      unfold erOK se at *
      rw [e _ (by omega), e _ (by omega), e _ (by omega), e _ (by omega), e _ (by omega)]
      exact this
  · rw [if_neg (by omega), if_neg (by omega), if_pos h1]
    have e : ∀ j, ((j < 81 ∧ j ≠ 2) ∨ 113 ≤ j) → per r a b c d j = r j := fun j hj => per_lo hw0 h5 hj
    have bd := b5 h1
    unfold two at h2
    refine ⟨by rw [e 0 (by omega)]; exact w0, by rw [e 1 (by omega)]; exact w1, by rw [per_2]; omega, by rw [e 3 (by omega)]; exact w3, by rw [e 4 (by omega)]; exact w4, by rw [e 5 (by omega)]; exact w5, by rw [e 6 (by omega)]; exact w6, by rw [e 7 (by omega)]; exact w7, by rw [e 8 (by omega)]; exact w8, by rw [e 9 (by omega)]; exact w9, by rw [e 10 (by omega)]; exact w10, fun t h0 hl => ?_, nat_of (P := fun t => erOK (per r a b c d) t) (fun t hl => ?_), fun i hi => by rw [e 6 (by omega)] at hi; rw [e _ (by omega)]; exact wrow i hi⟩
    · rw [e 1 (by omega)] at hl
      have := wst t h0 hl
      unfold stOK sg at *
      rw [e _ (by omega), e _ (by omega), e _ (by omega), e _ (by omega), e _ (by omega), e _ (by omega)]
      exact this
    · rw [per_2] at hl
      have p0 : se (per r a b c d) t 0 = _ := per_se (a := a) (b := b) (c := c) (d := d) hw0 (x := t) (k := 0) (by omega) (by omega)
      have p1 : se (per r a b c d) t 1 = _ := per_se (a := a) (b := b) (c := c) (d := d) hw0 (x := t) (k := 1) (by omega) (by omega)
      have p2 : se (per r a b c d) t 2 = _ := per_se (a := a) (b := b) (c := c) (d := d) hw0 (x := t) (k := 2) (by omega) (by omega)
      have p3 : se (per r a b c d) t 3 = _ := per_se (a := a) (b := b) (c := c) (d := d) hw0 (x := t) (k := 3) (by omega) (by omega)
      unfold erOK
      rw [e 0 (by omega)]
      by_cases q : (t : Int) = r 2
      · rw [if_pos q] at p0 p1 p2 p3
        simp at p0 p1 p2 p3
        rw [p0, p1, p2, p3]
        omega
      · rw [if_neg q] at p0 p1 p2 p3
        have := wer t (by omega) (by omega)
        unfold erOK at this
        rw [p0, p1, p2, p3]
        exact this
  · rw [if_neg (by omega), if_neg (by omega), if_neg (by omega)]
    have e : ∀ j, j ≠ 11 + 5 * a.toNat + 4 → su r (11 + 5 * a.toNat + 4) b j = r j := fun j hj => su_ne hj
    refine ⟨by rw [e 0 (by omega)]; exact w0, by rw [e 1 (by omega)]; exact w1, by rw [e 2 (by omega)]; exact w2, by rw [e 3 (by omega)]; exact w3, by rw [e 4 (by omega)]; exact w4, by rw [e 5 (by omega)]; exact w5, by rw [e 6 (by omega)]; exact w6, by rw [e 7 (by omega)]; exact w7, by rw [e 8 (by omega)]; exact w8, by rw [e 9 (by omega)]; exact w9, by rw [e 10 (by omega)]; exact w10, fun t h0 hl => ?_, fun t h0 hl => ?_, fun i hi => by rw [e 6 (by omega)] at hi; rw [e _ (by omega)]; exact wrow i hi⟩
    · rw [e 1 (by omega)] at hl
      have := wst t h0 hl
      unfold stOK sg at *
      rw [e (11 + 5 * t + 0).toNat (by omega), e (11 + 5 * t + 1).toNat (by omega), e (11 + 5 * t + 2).toNat (by omega), e (11 + 5 * t + 3).toNat (by omega), e 0 (by omega)]
      by_cases q : (11 + 5 * t + 4).toNat = 11 + 5 * a.toNat + 4
      · rw [q, su_eq]; omega
      · rw [e _ q]; exact this
    · rw [e 2 (by omega)] at hl
      have := wer t h0 hl
      unfold erOK se at *
      rw [e _ (by omega), e _ (by omega), e _ (by omega), e _ (by omega), e _ (by omega)]
      exact this
/-- only what a letter needs is looked at -/
theorem cOK_vals {A : Nat → Int} {b6 L a b c d : Int} {r : Nat → Int} (h : vals A b6 L a b c d) : (cOK L (A 0) (A 1) (A 2) (if L = 115 then b6 else A 3) r ↔ cOK L a b c d r) ∧ (cOK L a b c d r → cRes L (A 0) (A 1) (A 2) (if L = 115 then b6 else A 3) r = cRes L a b c d r) := by
  obtain ⟨h1, h2, h3, h4⟩ := h
  by_cases q1 : L = 107
  · have e := h1 q1
    constructor
    · unfold cOK
      rw [e]
      constructor
      · rintro (z | z | z | z)
        · exact Or.inl z
        · omega
        · omega
        · omega
      · rintro (z | z | z | z)
        · exact Or.inl z
        · omega
        · omega
        · omega
    · intro _
      unfold cRes
      rw [if_pos q1, if_pos q1, e]
  · by_cases q2 : L = 115
    · obtain ⟨e1, e2, e3, e4⟩ := h2 q2
      rw [if_pos q2, e1, e2, e3, e4]
      exact ⟨Iff.rfl, fun _ => rfl⟩
    · rw [if_neg q2]
      by_cases q3 : L = 101
      · obtain ⟨e1, e2, e3, e4⟩ := h3 q3
        rw [e1, e2, e3, e4]
        exact ⟨Iff.rfl, fun _ => rfl⟩
      · by_cases q4 : L = 109
        · obtain ⟨e1, e2⟩ := h4 q4
          rw [e1, e2]
          constructor
          · unfold cOK
            constructor
            · rintro (z | z | z | z)
              · omega
              · omega
              · omega
              · exact Or.inr (Or.inr (Or.inr z))
            · rintro (z | z | z | z)
              · omega
              · omega
              · omega
              · exact Or.inr (Or.inr (Or.inr z))
          · intro _
            unfold cRes
            rw [if_neg q1, if_neg q2, if_neg q3, if_neg q1, if_neg q2, if_neg q3]
        · constructor
          · unfold cOK
            constructor
            · rintro (z | z | z | z) <;> omega
            · rintro (z | z | z | z) <;> omega
          · intro z
            unfold cOK at z
            omega
section Told
variable {K : Int → Hp → Prop} {r : Nat → Int}
theorem qX11_toldOf {σ : Hp} (hr : σ 38 0 = r) (hw : WF r) (h : ∀ n, (∀ a, n ≤ a ↔ 2 ≤ a ∧ allT r a) → K n σ) : Runs 0 mX11_toldOf 0 [zR 34 0, zU, zU, zU] [] σ (rI K) := by
  have w0 := hw.1
  have w1 := hw.2.1
  have w2 := hw.2.2.1
  have wst := hw.2.2.2.2.2.2.2.2.2.2.2.1
  have wer := hw.2.2.2.2.2.2.2.2.2.2.2.2.1
  have grow : ∀ (n x : Int) (P : Int → Prop), (∀ a, n ≤ a ↔ P a) → (x < n → ∀ a, n ≤ a ↔ P a ∧ x < a) ∧ (¬ x < n → ∀ a, x + 1 ≤ a ↔ P a ∧ x < a) := fun n x P hP => by
    refine ⟨fun hx a => ?_, fun hx a => ?_⟩
    · rw [← hP a]; omega
    · rw [← hP a]; omega
  have ers : ∀ n : Int, (2 ≤ n ∧ n ≤ 11) → (∀ a, n ≤ a ↔ 2 ≤ a ∧ ∀ t : Nat, (t : Int) < r 1 → sg r t 0 < a ∧ sg r t 1 < a) → Runs 0 mX11_toldOf 72 [zR 34 0, zI n, zI 0, zU] [] σ (rI K) := fun n hn hI => by
    refine upto (α := Int) (N := r 2) (R := fun e n => Runs 0 mX11_toldOf 72 [zR 34 0, zI n, zI e, zU] [] σ (rI K)) (I := fun e n => (2 ≤ n ∧ n ≤ 11) ∧ ∀ a, n ≤ a ↔ (2 ≤ a ∧ ∀ t : Nat, (t : Int) < r 1 → sg r t 0 < a ∧ sg r t 1 < a) ∧ ∀ t : Nat, (t : Int) < e → se r t 0 < a ∧ se r t 1 < a) (fun n hI => ?_) (fun e n e0 el hI nx => ?_) (Int.le_refl 0) w2.1 ⟨hn, fun a => by rw [hI a]; exact ⟨fun z => ⟨z, fun t ht => absurd ht (by omega)⟩, fun z => z.1⟩⟩
    · refine gX11_toldOf_72 n (r 2) σ ⟨fun _ => h n (fun a => ?_), fun q => absurd (by rw [hr]; exact Int.le_refl _) q⟩
      rw [hI.2 a]
      unfold allT
      constructor
      · rintro ⟨⟨x1, x2⟩, x3⟩; exact ⟨x1, x2, x3⟩
      · rintro ⟨x1, x2, x3⟩; exact ⟨⟨x1, x2⟩, x3⟩
    · obtain ⟨hb, hI⟩ := hI
      have we := wer e e0 el
      unfold erOK at we
      refine gX11_toldOf_72 n e σ ⟨fun q => absurd q (by rw [hr]; omega), fun _ => ?_⟩
      have one : ∀ (k : Nat) (n : Int), k < 2 → (2 ≤ n ∧ n ≤ 11) → (∀ n', (2 ≤ n' ∧ n' ≤ 11) → (se r e k < n ∧ n' = n ∨ ¬ se r e k < n ∧ n' = se r e k + 1) → Runs 0 mX11_toldOf 84 [zR 34 0, zI n', zI e, zI ((k : Int) + 1)] [] σ (rI K)) → Runs 0 mX11_toldOf 84 [zR 34 0, zI n, zI e, zI (k : Int)] [] σ (rI K) := fun k n hk hn2 nx2 => by
        have ei : ((81 + (4 * e)) + (k : Int)).toNat = (81 + 4 * e + (k : Int)).toNat := rfl
        have ev : σ 38 0 ((81 + (4 * e)) + (k : Int)).toNat = se r e k := by rw [hr]; rfl
        have kb : se r e k ≤ 9 := by
          have : k = 0 ∨ k = 1 := by omega
          rcases this with rfl | rfl
          · show se r e 0 ≤ 9; omega
          · show se r e 1 ≤ 9; omega
        refine gX11_toldOf_84 n e (k : Int) σ ⟨fun q => absurd q (by omega), fun _ => ?_⟩
        rw [ev]
        exact ⟨by omega, by omega, by omega, by omega, fun c => ⟨by omega, nx2 n hn2 (Or.inl ⟨c, rfl⟩)⟩, fun c => ⟨by omega, by omega, by omega, by omega, by omega, by omega, nx2 _ (by omega) (Or.inr ⟨c, rfl⟩)⟩⟩
      refine one 0 n (by omega) hb (fun n1 hb1 h1 => ?_)
      refine one 1 n1 (by omega) hb1 (fun n2 hb2 h2 => ?_)
      refine gX11_toldOf_84 n2 e (((1 : Nat) : Int) + 1) σ ⟨fun _ => ⟨by omega, nx n2 ⟨hb2, fun a => ?_⟩⟩, fun q => absurd (show (2 : Int) ≤ ((1 : Nat) : Int) + 1 by omega) q⟩
      have hh : n2 ≤ a ↔ n ≤ a ∧ se r e 0 < a ∧ se r e 1 < a := by
        have h1' : se r e 0 < n ∧ n1 = n ∨ ¬ se r e 0 < n ∧ n1 = se r e 0 + 1 := h1
        have h2' : se r e 1 < n1 ∧ n2 = n1 ∨ ¬ se r e 1 < n1 ∧ n2 = se r e 1 + 1 := h2
        omega
      rw [hh, hI a]
      constructor
      · rintro ⟨⟨x1, x2⟩, x3⟩
        refine ⟨x1, fun t ht => ?_⟩
        by_cases q : (t : Int) < e
        · exact x2 t q
        · rw [show (t : Int) = e by omega]; exact x3
      · rintro ⟨x1, x2⟩
        have := x2 e.toNat (by omega)
        rw [Int.toNat_of_nonneg e0] at this
        exact ⟨⟨x1, fun t ht => x2 t (by omega)⟩, this⟩
  refine gX11_toldOf_0 σ (upto (α := Int) (N := r 1) (R := fun e n => Runs 0 mX11_toldOf 4 [zR 34 0, zI n, zI e, zU] [] σ (rI K)) (I := fun e n => (2 ≤ n ∧ n ≤ 11) ∧ ∀ a, n ≤ a ↔ 2 ≤ a ∧ ∀ t : Nat, (t : Int) < e → sg r t 0 < a ∧ sg r t 1 < a) (fun n hI => ?_) (fun e n e0 el hI nx => ?_) (Int.le_refl 0) w1.1 ⟨by omega, fun a => ⟨fun z => ⟨z, fun t ht => absurd ht (by omega)⟩, fun z => z.1⟩⟩)
  · exact gX11_toldOf_4 n (r 1) σ ⟨fun _ => ers n hI.1 hI.2, fun q => absurd (by rw [hr]; exact Int.le_refl _) q⟩
  · obtain ⟨hb, hI⟩ := hI
    have we := wst e e0 el
    unfold stOK at we
    refine gX11_toldOf_4 n e σ ⟨fun q => absurd q (by rw [hr]; omega), fun _ => ?_⟩
    have one : ∀ (k : Nat) (n : Int), k < 2 → (2 ≤ n ∧ n ≤ 11) → (∀ n', (2 ≤ n' ∧ n' ≤ 11) → (sg r e k < n ∧ n' = n ∨ ¬ sg r e k < n ∧ n' = sg r e k + 1) → Runs 0 mX11_toldOf 16 [zR 34 0, zI n', zI e, zI ((k : Int) + 1)] [] σ (rI K)) → Runs 0 mX11_toldOf 16 [zR 34 0, zI n, zI e, zI (k : Int)] [] σ (rI K) := fun k n hk hn2 nx2 => by
      have ev : σ 38 0 ((11 + (5 * e)) + (k : Int)).toNat = sg r e k := by rw [hr]; rfl
      have kb : sg r e k ≤ 9 := by
        have : k = 0 ∨ k = 1 := by omega
        rcases this with rfl | rfl
        · show sg r e 0 ≤ 9; omega
        · show sg r e 1 ≤ 9; omega
      refine gX11_toldOf_16 n e (k : Int) σ ⟨fun q => absurd q (by omega), fun _ => ?_⟩
      rw [ev]
      exact ⟨by omega, by omega, by omega, by omega, fun c => ⟨by omega, nx2 n hn2 (Or.inl ⟨c, rfl⟩)⟩, fun c => ⟨by omega, by omega, by omega, by omega, by omega, by omega, nx2 _ (by omega) (Or.inr ⟨c, rfl⟩)⟩⟩
    refine one 0 n (by omega) hb (fun n1 hb1 h1 => ?_)
    refine one 1 n1 (by omega) hb1 (fun n2 hb2 h2 => ?_)
    refine gX11_toldOf_16 n2 e (((1 : Nat) : Int) + 1) σ ⟨fun _ => ⟨by omega, nx n2 ⟨hb2, fun a => ?_⟩⟩, fun q => absurd (show (2 : Int) ≤ ((1 : Nat) : Int) + 1 by omega) q⟩
    have hh : n2 ≤ a ↔ n ≤ a ∧ sg r e 0 < a ∧ sg r e 1 < a := by
      have h1' : sg r e 0 < n ∧ n1 = n ∨ ¬ sg r e 0 < n ∧ n1 = sg r e 0 + 1 := h1
      have h2' : sg r e 1 < n1 ∧ n2 = n1 ∨ ¬ sg r e 1 < n1 ∧ n2 = sg r e 1 + 1 := h2
      omega
    rw [hh, hI a]
    constructor
    · rintro ⟨⟨x1, x2⟩, x3⟩
      refine ⟨x1, fun t ht => ?_⟩
      by_cases q : (t : Int) < e
      · exact x2 t q
      · rw [show (t : Int) = e by omega]; exact x3
    · rintro ⟨x1, x2⟩
      have := x2 e.toNat (by omega)
      rw [Int.toNat_of_nonneg e0] at this
      exact ⟨⟨x1, fun t ht => x2 t (by omega)⟩, this⟩
/-- the reference's -/
theorem qX11_comes {σ : Hp} (hr : σ 38 0 = r) (hw : WF r) {L : Int} (hL : L = 107 ∨ L = 115 ∨ L = 101 ∨ L = 109) (ha : 0 ≤ σ 40 0 0 ∧ σ 40 0 0 ≤ 9999)
    (h1 : ∀ σ', OffM [38] [] σ σ' → cOK L (σ 40 0 0) (σ 40 0 1) (σ 40 0 2) (σ 40 0 3) r → σ' 38 0 = cRes L (σ 40 0 0) (σ 40 0 1) (σ 40 0 2) (σ 40 0 3) r → K 1 σ') (h0 : ∀ σ', OffM [38] [] σ σ' → σ' 38 0 = r → ¬ cOK L (σ 40 0 0) (σ 40 0 1) (σ 40 0 2) (σ 40 0 3) r → K 0 σ') :
    Runs 1 mX11_comes 0 [zR 34 0, zI L, zU, zU, zU, zU, zU] [] σ (rI K) := by
  have w0 := hw.1
  have w1 := hw.2.1
  have w2 := hw.2.2.1
  have hu38 : ∀ (σ2 : Hp) (j : Nat) (v : Int), (zup σ2 38 0 j v) 38 0 = su (σ2 38 0) j v := fun σ2 j v => by
    funext i
    unfold zup su
    by_cases q : i = j
    · simp [q]
    · simp [q]
  have no : ¬ cOK L (σ 40 0 0) (σ 40 0 1) (σ 40 0 2) (σ 40 0 3) r → K 0 σ := fun z => h0 σ OffM.rf hr z
  -- corners
  have kk : L = 107 → ((10 < σ 40 0 0 → rI K (some 0) σ) ∧ (¬ 10 < σ 40 0 0 → Runs 0 mX11_toldOf 0 [zR 34 0, zU, zU, zU] [] σ (rI (fun z2 σ1 => ((z2 ≤ σ 40 0 0 → rI K (some 1) (zup σ1 38 0 0 (σ 40 0 0))) ∧ (¬ z2 ≤ σ 40 0 0 → rI K (some 0) σ1)))))) := fun eL => by
    refine ⟨fun c => no (fun z => by unfold cOK at z; omega), fun c => qX11_toldOf hr hw (fun n hn => ⟨fun c2 => ?_, fun c2 => no (fun z => ?_)⟩)⟩
    · have := (hn _).mp c2
      refine h1 _ (OffM.rf.up (by decide)) (Or.inl ⟨eL, by omega, this.1, this.2⟩) ?_
      unfold cRes
      rw [if_pos eL, hu38, hr]
    · rcases z with z | z | z | z
      · exact c2 ((hn _).mpr ⟨z.2.2.1, z.2.2.2⟩)
      · omega
      · omega
      · omega
  -- musts
  have mm : L = 109 → ((σ 38 0 1 ≤ σ 40 0 0 → rI K (some 0) σ) ∧ (¬ σ 38 0 1 ≤ σ 40 0 0 → ((σ 40 0 1 ≤ 2 → (-2147483648 ≤ 5 * (σ 40 0 0) ∧ 5 * (σ 40 0 0) ≤ 2147483647) ∧ (-2147483648 ≤ 11 + (5 * (σ 40 0 0)) ∧ 11 + (5 * (σ 40 0 0)) ≤ 2147483647) ∧ (-2147483648 ≤ (11 + (5 * (σ 40 0 0))) + 4 ∧ (11 + (5 * (σ 40 0 0))) + 4 ≤ 2147483647) ∧ (0 ≤ (11 + (5 * (σ 40 0 0))) + 4 ∧ (11 + (5 * (σ 40 0 0))) + 4 < 123) ∧ rI K (some 1) (zup σ 38 0 (((11 + (5 * (σ 40 0 0))) + 4).toNat) (σ 40 0 1))) ∧ (¬ σ 40 0 1 ≤ 2 → rI K (some 0) σ)))) := fun eL => by
    have b0 := ha
    have hr1 : σ 38 0 1 = r 1 := by rw [hr]
    refine ⟨fun c => no (fun z => by unfold cOK at z; omega), fun c => ⟨fun c2 => ⟨by omega, by omega, by omega, by omega, ?_⟩, fun c2 => no (fun z => by unfold cOK at z; omega)⟩⟩
    refine h1 _ (OffM.rf.up (by decide)) (Or.inr (Or.inr (Or.inr ⟨eL, by omega, c2⟩))) ?_
    unfold cRes
    rw [if_neg (by omega), if_neg (by omega), if_neg (by omega), hu38, hr, show ((11 + (5 * (σ 40 0 0))) + 4).toNat = 11 + 5 * (σ 40 0 0).toNat + 4 by omega]
  -- not two corners
  have apart_ : ¬ two r (σ 40 0 0) (σ 40 0 1) → Runs 1 mX11_comes 43 [zR 34 0, zI L, zI (σ 40 0 0), zI (σ 40 0 1), zU, zU, zU] [] σ (rI K) := fun nt => by
    refine gX11_comes_43 L (σ 40 0 0) (σ 40 0 1) σ ⟨fun eL => no (fun z => ?_), fun eL => kk eL, fun eL => no (fun z => ?_), fun eL => mm (by omega)⟩
    · rcases z with z | z | z | z
      · omega
      · omega
      · exact nt z.2.1
      · omega
    · rcases z with z | z | z | z
      · omega
      · exact nt z.2.1
      · omega
      · omega
  have hr0 : σ 38 0 0 = r 0 := by rw [hr]
  have hr1 : σ 38 0 1 = r 1 := by rw [hr]
  have hr2 : σ 38 0 2 = r 2 := by rw [hr]
  refine gX11_comes_0 L σ ⟨fun c => apart_ (fun z => by have := z.1; omega), fun c1 => ⟨fun c => apart_ (fun z => by have := z.2.1; omega), fun c2 => ⟨fun c => apart_ (fun z => z.2.2 c), fun c3 => ⟨fun eL => ?_, fun eL => kk eL, fun eL => ?_, fun eL => mm (by omega)⟩⟩⟩⟩
  · have tw : two r (σ 40 0 0) (σ 40 0 1) := ⟨by omega, by omega, c3⟩
    refine ⟨fun c => no (fun z => by unfold cOK at z; omega), fun c4 => ⟨fun c => no (fun z => by unfold cOK at z; omega), fun c5 => ⟨fun c6 => ⟨by omega, by omega, ?_⟩, fun c6 => no (fun z => by unfold cOK at z; omega)⟩⟩⟩
    have cok : cOK L (σ 40 0 0) (σ 40 0 1) (σ 40 0 2) (σ 40 0 3) r := Or.inr (Or.inr (Or.inl ⟨eL, tw, by omega, by omega, by omega⟩))
    rw [hr2]
    refine upto (α := Hp) (N := 4) (R := fun k σ1 => Runs 1 mX11_comes 267 [zR 34 0, zU, zU, zU, zU, zI (81 + (4 * (r 2))), zI k] [] σ1 (rI K)) (I := fun k σ1 => OffM [38] [] σ σ1 ∧ ∀ j : Nat, σ1 38 0 j = if 81 + 4 * (r 2).toNat ≤ j ∧ (j : Int) < 81 + 4 * r 2 + k then σ 40 0 (j - (81 + 4 * (r 2).toNat)) else r j) (fun σ1 hI => ?_) (fun k σ1 k0 kl hI nx => ?_) (Int.le_refl 0) (by omega) ⟨OffM.rf, fun j => by rw [if_neg (by omega), hr]⟩
    · obtain ⟨o1, l1⟩ := hI
      have e2 : σ1 38 0 2 = r 2 := by rw [l1 2, if_neg (by omega)]
      refine gX11_comes_267 _ 4 σ1 ⟨fun _ => ⟨by omega, ?_⟩, fun q => absurd (Int.le_refl 4) q⟩
      refine h1 _ (o1.up (by decide)) cok ?_
      unfold cRes
      rw [if_neg (by omega), if_neg (by omega), if_pos eL, hu38]
      funext j
      unfold su per
      rw [l1 j, e2]
      by_cases j2 : j = 2
      · rw [if_pos j2, if_neg (by omega), if_neg (by omega), if_neg (by omega), if_neg (by omega), if_pos j2]
      · rw [if_neg j2, if_neg j2]
        by_cases q0 : j = 81 + 4 * (r 2).toNat
        · rw [if_pos (by omega), if_pos q0, show j - (81 + 4 * (r 2).toNat) = 0 by omega]
        · rw [if_neg q0]
          by_cases q1 : j = 81 + 4 * (r 2).toNat + 1
          · rw [if_pos (by omega), if_pos q1, show j - (81 + 4 * (r 2).toNat) = 1 by omega]
          · rw [if_neg q1]
            by_cases q2 : j = 81 + 4 * (r 2).toNat + 2
            · rw [if_pos (by omega), if_pos q2, show j - (81 + 4 * (r 2).toNat) = 2 by omega]
            · rw [if_neg q2]
              by_cases q3 : j = 81 + 4 * (r 2).toNat + 3
              · rw [if_pos (by omega), if_pos q3, show j - (81 + 4 * (r 2).toNat) = 3 by omega]
              · rw [if_neg q3, if_neg (by omega)]
    · obtain ⟨o1, l1⟩ := hI
      have e40 : σ1 40 = σ 40 := o1.1 40 (by decide)
      refine gX11_comes_267 _ k σ1 ⟨fun q => absurd q (by omega), fun _ => ⟨by omega, by omega, by omega, by omega, nx _ ⟨o1.up (by decide), fun j => ?_⟩⟩⟩
      rw [hu38, e40]
      unfold su
      by_cases q : j = (81 + (4 * (r 2)) + k).toNat
      · rw [if_pos q, if_pos (by omega), show j - (81 + 4 * (r 2).toNat) = k.toNat by omega]
      · rw [if_neg q, l1 j]
        by_cases q2 : 81 + 4 * (r 2).toNat ≤ j ∧ (j : Int) < 81 + 4 * r 2 + k
        · rw [if_pos q2, if_pos (by omega)]
        · rw [if_neg q2, if_neg (by omega)]
  · have tw : two r (σ 40 0 0) (σ 40 0 1) := ⟨by omega, by omega, c3⟩
    refine ⟨fun c => no (fun z => by unfold cOK at z; omega), fun c4 => ⟨fun c => no (fun z => by unfold cOK at z; omega), fun c5 => ⟨fun c6 => ⟨by omega, by omega, ?_⟩, fun c6 => no (fun z => by unfold cOK at z; omega)⟩⟩⟩
    have cok : cOK L (σ 40 0 0) (σ 40 0 1) (σ 40 0 2) (σ 40 0 3) r := Or.inr (Or.inl ⟨eL, tw, by omega, by omega, by omega⟩)
    rw [hr1]
    refine upto (α := Hp) (N := 4) (R := fun k σ1 => Runs 1 mX11_comes 160 [zR 34 0, zU, zU, zU, zU, zI (11 + (5 * (r 1))), zI k] [] σ1 (rI K)) (I := fun k σ1 => OffM [38] [] σ σ1 ∧ ∀ j : Nat, σ1 38 0 j = if 11 + 5 * (r 1).toNat ≤ j ∧ (j : Int) < 11 + 5 * r 1 + k then σ 40 0 (j - (11 + 5 * (r 1).toNat)) else r j) (fun σ1 hI => ?_) (fun k σ1 k0 kl hI nx => ?_) (Int.le_refl 0) (by omega) ⟨OffM.rf, fun j => by rw [if_neg (by omega), hr]⟩
    · obtain ⟨o1, l1⟩ := hI
      have e2 : (zup σ1 38 0 ((11 + (5 * (r 1))) + 4).toNat 2) 38 0 1 = r 1 := by
        rw [hu38, su_ne (by omega), l1 1, if_neg (by omega)]
      refine gX11_comes_160 _ 4 σ1 ⟨fun _ => ⟨by omega, by omega, by omega, fun σ2 e => ?_⟩, fun q => absurd (Int.le_refl 4) q⟩
      rw [e2] at e
      refine h1 σ2 (by rw [e]; exact (o1.up (by decide)).up (by decide)) cok ?_
      unfold cRes
      rw [if_neg (by omega), if_pos eL, e, hu38, hu38]
      funext j
      unfold su pst
      rw [l1 j]
      by_cases j2 : j = 1
      · rw [if_pos j2, if_neg (by omega), if_neg (by omega), if_neg (by omega), if_neg (by omega), if_neg (by omega), if_pos j2]
      · rw [if_neg j2, if_neg j2]
        by_cases q4 : j = 11 + 5 * (r 1).toNat + 4
        · rw [if_pos (by omega), if_neg (by omega), if_neg (by omega), if_neg (by omega), if_neg (by omega), if_pos q4]
        · rw [if_neg (show ¬ j = ((11 + (5 * (r 1))) + 4).toNat by omega)]
          by_cases q0 : j = 11 + 5 * (r 1).toNat
          · rw [if_pos (by omega), if_pos q0, show j - (11 + 5 * (r 1).toNat) = 0 by omega]
          · rw [if_neg q0]
            by_cases q1 : j = 11 + 5 * (r 1).toNat + 1
            · rw [if_pos (by omega), if_pos q1, show j - (11 + 5 * (r 1).toNat) = 1 by omega]
            · rw [if_neg q1]
              by_cases q2 : j = 11 + 5 * (r 1).toNat + 2
              · rw [if_pos (by omega), if_pos q2, show j - (11 + 5 * (r 1).toNat) = 2 by omega]
              · rw [if_neg q2]
                by_cases q3 : j = 11 + 5 * (r 1).toNat + 3
                · rw [if_pos (by omega), if_pos q3, show j - (11 + 5 * (r 1).toNat) = 3 by omega]
                · rw [if_neg q3, if_neg (by omega), if_neg q4]
    · obtain ⟨o1, l1⟩ := hI
      have e40 : σ1 40 = σ 40 := o1.1 40 (by decide)
      refine gX11_comes_160 _ k σ1 ⟨fun q => absurd q (by omega), fun _ => ⟨by omega, by omega, by omega, by omega, nx _ ⟨o1.up (by decide), fun j => ?_⟩⟩⟩
      rw [hu38, e40]
      unfold su
      by_cases q : j = (11 + (5 * (r 1)) + k).toNat
      · rw [if_pos q, if_pos (by omega), show j - (11 + 5 * (r 1).toNat) = k.toNat by omega]
      · rw [if_neg q, l1 j]
        by_cases q2 : 11 + 5 * (r 1).toNat ≤ j ∧ (j : Int) < 11 + 5 * r 1 + k
        · rw [if_pos q2, if_pos (by omega)]
        · rw [if_neg q2, if_neg (by omega)]
end Told
