/-! roads, back from their ends -/
def back (s : Nat → Int) (D : Nat → Int) (c : Nat) (t e : Int) : Prop := vst s t e ∧ ea s t (1 - e) = c ∧ D (ea s t e) < 1000000 ∧ entS s t e (D (ea s t e)) ≠ -9 ∧ entS s t e (D (ea s t e)) + sg s t 2 = D c
def frst (s : Nat → Int) (D : Nat → Int) (c : Nat) (t e : Int) : Prop := back s D c t e ∧ ∀ t' e', back s D c t' e' → t ≤ t'
theorem frst_uniq {s : Nat → Int} (hw : WF s) {D : Nat → Int} {c : Nat} {t e t' e' : Int} (h : frst s D c t e) (h' : frst s D c t' e') : t = t' ∧ e = e' := by
  have a := h.2 _ _ h'.1
  have b := h'.2 _ _ h.1
  have et : t = t' := by omega
  subst et
  refine ⟨rfl, ?_⟩
  have v := vst_ok hw h.1.1
  have p := h.1.1.2.2
  have q := h'.1.1.2.2
  by_cases z : e = e'
  · exact z
  · exfalso
    have e1 : 1 - e' = e := by omega
    have x := h'.1.2.1
    rw [e1] at x
    exact v.2.2.1 (x.trans h.1.2.1.symm)
theorem frst_ex {s : Nat → Int} {D : Nat → Int} {c : Nat} : ∀ (n : Nat) (t e : Int), t.toNat ≤ n → back s D c t e → ∃ t e, frst s D c t e := by
  intro n
  induction n with
  | zero =>
    intro t e hn h
    refine ⟨t, e, h, fun t' e' h' => ?_⟩
    have := h.1.1
    have := h'.1.1
    omega
  | succ n ih =>
    intro t e hn h
    by_cases q : ∃ t' e', back s D c t' e' ∧ t' < t
    · obtain ⟨t', e', h', hl⟩ := q
      have := h'.1.1
      exact ih t' e' (by omega) h'
    · refine ⟨t, e, h, fun t' e' h' => ?_⟩
      by_cases z : t ≤ t'
      · exact z
      · exact absurd ⟨t', e', h', by omega⟩ q
noncomputable def bk (s : Nat → Int) (D : Nat → Int) (c : Nat) : Int × Int := Classical.epsilon (fun q : Int × Int => frst s D c q.1 q.2)
theorem bk_ok {s : Nat → Int} {D : Nat → Int} {c : Nat} (h : ∃ t e, back s D c t e) : frst s D c (bk s D c).1 (bk s D c).2 := by
  obtain ⟨t, e, h⟩ := h
  obtain ⟨t', e', h'⟩ := frst_ex t.toNat t e (Nat.le_refl _) h
  exact Classical.epsilon_spec (p := fun q : Int × Int => frst s D c q.1 q.2) ⟨(t', e'), h'⟩
theorem bk_eq {s : Nat → Int} (hw : WF s) {D : Nat → Int} {c : Nat} {t e : Int} (h : frst s D c t e) : (bk s D c).1 = t ∧ (bk s D c).2 = e := frst_uniq hw (bk_ok ⟨t, e, h.1⟩) h
noncomputable def rc (s : Nat → Int) (D : Nat → Int) (to : Nat) : Nat → Nat
  | 0 => to
  | i + 1 => ea s (bk s D (rc s D to i)).1 (bk s D (rc s D to i)).2
noncomputable def rg (s : Nat → Int) (D : Nat → Int) (to : Nat) : Nat → Int
  | 0 => D to
  | i + 1 => entS s (bk s D (rc s D to i)).1 (bk s D (rc s D to i)).2 (D (rc s D to (i + 1)))
/-- corners sooner than one -/
noncomputable def kn (D : Nat → Int) (c : Nat) : Int := cnt10 (fun x => if D x < D c then 1 else 0)
theorem kn_lt {D : Nat → Int} {a b : Nat} (ha : a < 10) (h : D a < D b) : kn D a < kn D b := by
  refine cnt10_lt (fun c _ => ?_) ha ?_
  · by_cases q : D c < D a
    · rw [if_pos q, if_pos (by omega)]
      exact Int.le_refl _
    · rw [if_neg q]
      split <;> omega
  · show (if D a < D a then (1 : Int) else 0) < if D a < D b then 1 else 0
    rw [if_neg (by omega), if_pos h]
    omega
theorem cnt10_nn (z : Nat → Int) (h : ∀ x, 0 ≤ z x) : 0 ≤ cnt10 z := by
  have a0 := h 0; have a1 := h 1; have a2 := h 2; have a3 := h 3; have a4 := h 4
  have a5 := h 5; have a6 := h 6; have a7 := h 7; have a8 := h 8; have a9 := h 9
  unfold cnt10
  omega
theorem kn_0 {D : Nat → Int} {c : Nat} : 0 ≤ kn D c := cnt10_nn _ (fun x => by
  show (0 : Int) ≤ if D x < D c then 1 else 0
  split <;> omega)
theorem kn_9 {D : Nat → Int} {c : Nat} (hc : c < 10) : kn D c ≤ 9 := by
  have h := cnt10_lt (z := fun x => if D x < D c then 1 else 0) (w := fun _ => 1) (fun x _ => by
    show (if D x < D c then (1 : Int) else 0) ≤ 1
    split <;> omega) hc (by
    show (if D c < D c then (1 : Int) else 0) < 1
    rw [if_neg (by omega)]
    omega)
  have : cnt10 (fun _ => 1) = 10 := rfl
  unfold kn
  omega
section Road
variable {s : Nat → Int} {f : Nat} {m : Int} {D : Nat → Int}
theorem back_ex (hD : Soon s f m D) {c : Nat} (hc : c < 10) (hl : D c < 1000000) (hcf : c ≠ f) : ∃ t e, back s D c t e := by
  obtain ⟨t, e, h1, h2, h3, h4, h5, h6⟩ := hD.2.2.2.2.1 c hc hl hcf
  exact ⟨t, e, h1, h2, h4, h5, h6.symm⟩
theorem back_ok (hw : WF s) (hD : Soon s f m D) {c : Nat} {t e : Int} (h : back s D c t e) : ea s t e < 10 ∧ 0 ≤ D (ea s t e) ∧ D (ea s t e) ≤ 2939 ∧ D (ea s t e) < D c ∧ D (ea s t e) ≤ entS s t e (D (ea s t e)) ∧ entS s t e (D (ea s t e)) ≤ 2879 := by
  obtain ⟨h1, h2, h3, h4, h5⟩ := h
  have v := vst_ok hw h1
  have b := hD.2.2.2.1 (ea s t e) v.1
  have m0 := hD.2.1
  have g := entS_ge hw (m := D (ea s t e)) (by omega) h4
  omega
/-- the walk back up to a place: none of its corners is the start -/
def RW (s : Nat → Int) (f : Nat) (D : Nat → Int) (to : Nat) (i : Nat) : Prop := (∀ j, j ≤ i → rc s D to j < 10 ∧ 0 ≤ D (rc s D to j) ∧ D (rc s D to j) ≤ 2939 ∧ kn D (rc s D to j) + j ≤ 9) ∧ (∀ j, j < i → rc s D to j ≠ f ∧ frst s D (rc s D to j) (bk s D (rc s D to j)).1 (bk s D (rc s D to j)).2) ∧ (∀ j, j ≤ i → D (rc s D to j) ≤ rg s D to j ∧ rg s D to j ≤ 2939) ∧ ∀ j k, j < k → k ≤ i → D (rc s D to k) < D (rc s D to j)
theorem RW.zero (hD : Soon s f m D) {to : Nat} (ht : to < 10) (hl : D to < 1000000) : RW s f D to 0 := by
  have b := hD.2.2.2.1 to ht
  have m0 := hD.2.1
  have k := kn_9 (D := D) ht
  refine ⟨fun j hj => ?_, fun j hj => absurd hj (by omega), fun j hj => ?_, fun j k h1 h2 => by omega⟩
  · have : j = 0 := by omega
    subst this
    show to < 10 ∧ 0 ≤ D to ∧ D to ≤ 2939 ∧ kn D to + ((0 : Nat) : Int) ≤ 9
    omega
  · have : j = 0 := by omega
    subst this
    show D to ≤ D to ∧ D to ≤ 2939
    omega
theorem RW.succ (hw : WF s) (hD : Soon s f m D) {to i : Nat} (h : RW s f D to i) (hne : rc s D to i ≠ f) : i < 9 ∧ frst s D (rc s D to i) (bk s D (rc s D to i)).1 (bk s D (rc s D to i)).2 ∧ RW s f D to (i + 1) := by
  obtain ⟨h1, h2, h3, h4⟩ := h
  have hi := h1 i (Nat.le_refl _)
  have fr := bk_ok (back_ex hD hi.1 (by omega) hne)
  have bo := back_ok hw hD fr.1
  have kl := kn_lt (D := D) bo.1 bo.2.2.2.1
  have k0 := kn_0 (D := D) (c := ea s (bk s D (rc s D to i)).1 (bk s D (rc s D to i)).2)
  have e1 : rc s D to (i + 1) = ea s (bk s D (rc s D to i)).1 (bk s D (rc s D to i)).2 := rfl
  have e2 : rg s D to (i + 1) = entS s (bk s D (rc s D to i)).1 (bk s D (rc s D to i)).2 (D (rc s D to (i + 1))) := rfl
  rw [← e1] at bo kl k0
  rw [← e2] at bo
  refine ⟨by omega, fr, fun j hj => ?_, fun j hj => ?_, fun j hj => ?_, fun j k h5 h6 => ?_⟩
  · by_cases q : j = i + 1
    · rw [q]; omega
    · exact h1 j (by omega)
  · by_cases q : j = i
    · rw [q]; exact ⟨hne, fr⟩
    · exact h2 j (by omega)
  · by_cases q : j = i + 1
    · rw [q]; omega
    · exact h3 j (by omega)
  · by_cases q : k = i + 1
    · rw [q]
      by_cases r : j = i
      · rw [r]; exact bo.2.2.2.1
      · have := h4 j i (by omega) (Nat.le_refl _)
        omega
    · exact h4 j k h5 (by omega)
/-- the whole road -/
def RD (s : Nat → Int) (f : Nat) (D : Nat → Int) (to : Nat) (L : Nat) : Prop := RW s f D to L ∧ rc s D to L = f
theorem RD.uniq {to L L' : Nat} (h : RD s f D to L) (h' : RD s f D to L') : L = L' := by
  by_cases q : L < L'
  · exact absurd h.2 (h'.1.2.1 L q).1
  · by_cases p : L' < L
    · exact absurd h'.2 (h.1.2.1 L' p).1
    · omega
theorem RW.inj {to i j k : Nat} (h : RW s f D to i) (hj : j ≤ i) (hk : k ≤ i) (he : rc s D to j = rc s D to k) : j = k := by
  by_cases q : j < k
  · have := h.2.2.2 j k q hk; rw [he] at this; omega
  · by_cases p : k < j
    · have := h.2.2.2 k j p hj; rw [he] at this; omega
    · omega
theorem RW.le9 {to i : Nat} (h : RW s f D to i) : i ≤ 9 := by
  have := (h.1 i (Nat.le_refl _)).2.2.2
  have k0 := kn_0 (D := D) (c := rc s D to i)
  omega
noncomputable def rw_ (s : Nat → Int) (D : Nat → Int) (to : Nat) : Nat → Int
  | 0 => 0
  | i + 1 => rw_ s D to i + (rg s D to (i + 1) - D (rc s D to (i + 1)))
theorem rw_b {to i : Nat} (h : RW s f D to i) : ∀ j : Nat, j ≤ i → 0 ≤ rw_ s D to j ∧ rw_ s D to j ≤ 2939 * j
  | 0, _ => by unfold rw_; omega
  | j + 1, hj => by
    have ih := rw_b h j (by omega)
    have a := h.1 (j + 1) hj
    have b := h.2.2.1 (j + 1) hj
    unfold rw_
    omega
end Road
