/-! statements in a row -/
theorem kN_ind {B : Int → Int} {most : Nat} {p : Int} {k : Int → Int → PR} {P : PR → Prop} (h0 : P (failP p)) (h1 : ∀ q v, p < q → q ≤ p + most → 0 ≤ v → v < ten most → P (k q v)) : P (kN B most p k) := by
  have b := nmF_b (B := B) most p 0 (by omega)
  rw [show ((0 : Int) + 1) * ten most = ten most by omega] at b
  by_cases q : (nmF B most p 0).1 = p
  · rw [kN_no q]; exact h0
  · rw [kN_yes q]; exact h1 _ _ (by omega) (by omega) b.2.1 b.2.2
theorem kS_ind {B : Int → Int} {c p : Int} {k : Int → PR} {P : PR → Prop} (h0 : P (failP p)) (h1 : P (k (p + 1))) : P (kS B c p k) := by
  by_cases q : B p = c
  · rw [kS_yes q]; exact h1
  · rw [kS_no q]; exact h0
def stP (p L : Int) (x : PR) : Prop := (p ≤ x.2.1 ∧ x.2.1 ≤ p + 30) ∧ (x.1 = 0 ∨ (x.1 = 1 ∧ p < x.2.1 ∧ (L = 107 ∨ L = 115 ∨ L = 101 ∨ L = 109) ∧ vbd L x.2.2.1 x.2.2.2.1 x.2.2.2.2.1 x.2.2.2.2.2))
theorem stP_fail {p q L : Int} (h : p ≤ q ∧ q ≤ p + 30) : stP p L (failP q) := ⟨h, Or.inl rfl⟩
theorem stP_ok {p q L a b c d : Int} (h : p < q ∧ q ≤ p + 30) (hL : L = 107 ∨ L = 115 ∨ L = 101 ∨ L = 109) (hv : vbd L a b c d) : stP p L (1, q, a, b, c, d) := ⟨⟨by show p ≤ q; omega, h.2⟩, Or.inr ⟨rfl, h.1, hL, hv⟩⟩
theorem stF_P (B : Int → Int) (p : Int) : stP p (B p) (stF B p) := by
  have t1 : ten 1 = 10 := rfl
  have t2 : ten 2 = 100 := rfl
  have t4 : ten 4 = 10000 := rfl
  by_cases h1 : B p = 107
  · rw [stF_k h1, h1]
    unfold stK
    refine kN_ind (stP_fail (by omega)) (fun q v q1 q2 v1 v2 => kS_ind (stP_fail (by omega)) ?_)
    exact stP_ok (by omega) (by omega) ⟨by omega, by omega, by omega, by omega, fun _ => by omega, fun _ => Or.inl rfl⟩
  by_cases h2 : B p = 115
  · rw [stF_s h2, h2]
    unfold stS
    refine kN_ind (stP_fail (by omega)) (fun q v q1 q2 v1 v2 => kN_ind (stP_fail (by omega)) (fun q' v' q3 q4 v3 v4 => kS_ind (stP_fail (by omega)) (kN_ind (stP_fail (by omega)) (fun q'' v'' q5 q6 v5 v6 => ?_))))
    unfold stSb
    split
    · exact kS_ind (stP_fail (by omega)) (stP_ok (by omega) (by omega) ⟨by omega, by omega, by omega, by omega, fun z => absurd z (by omega), fun _ => Or.inr rfl⟩)
    · exact kS_ind (stP_fail (by omega)) (stP_ok (by omega) (by omega) ⟨by omega, by omega, by omega, by omega, fun z => absurd z (by omega), fun _ => Or.inl rfl⟩)
  by_cases h3 : B p = 101
  · rw [stF_e h3, h3]
    unfold stE
    refine kN_ind (stP_fail (by omega)) (fun q v q1 q2 v1 v2 => kN_ind (stP_fail (by omega)) (fun q' v' q3 q4 v3 v4 => kS_ind (stP_fail (by omega)) (kN_ind (stP_fail (by omega)) (fun q'' v'' q5 q6 v5 v6 => kS_ind (stP_fail (by omega)) (kN_ind (stP_fail (by omega)) (fun q3' v3' q7 q8 v7 v8 => kS_ind (stP_fail (by omega)) ?_))))))
    exact stP_ok (by omega) (by omega) ⟨by omega, by omega, by omega, by omega, fun _ => by omega, fun z => absurd z (by omega)⟩
  by_cases h4 : B p = 109
  · rw [stF_m h4, h4]
    unfold stM
    refine kN_ind (stP_fail (by omega)) (fun q v q1 q2 v1 v2 => kS_ind (stP_fail (by omega)) (kN_ind (stP_fail (by omega)) (fun q' v' q3 q4 v3 v4 => kS_ind (stP_fail (by omega)) ?_)))
    exact stP_ok (by omega) (by omega) ⟨by omega, by omega, by omega, by omega, fun z => absurd z (by omega), fun z => absurd z (by omega)⟩
  · rw [stF_no h1 h2 h3 h4]
    exact stP_fail (by omega)
def swF (B : Int → Int) (N : Int) : Nat → Int → Int → Int
  | 0, p, _ => -1000 - p
  | f + 1, p, c => if (stF B p).1 = 1 then (if N ≤ (stF B p).2.1 then c + 1 else swF B N f (stF B p).2.1 (c + 1)) else -1000 - (stF B p).2.1
theorem swF_ge {B : Int → Int} {N : Int} : ∀ (f : Nat) (p c : Int), 0 ≤ p → 0 ≤ c → swF B N f p c < 0 ∨ c + 1 ≤ swF B N f p c
  | 0, p, c, hp, _ => Or.inl (by unfold swF; omega)
  | f + 1, p, c, hp, hc => by
    have sp := stF_P B p
    unfold stP at sp
    unfold swF
    split
    · split
      · exact Or.inr (Int.le_refl _)
      · rcases swF_ge f (stF B p).2.1 (c + 1) (by omega) (by omega) with q | q
        · exact Or.inl q
        · exact Or.inr (by omega)
    · exact Or.inl (by omega)
noncomputable def upF (B : Int → Int) (N : Int) : Nat → Int → (Nat → Int) → Int × (Nat → Int)
  | 0, _, r => (0, r)
  | f + 1, p, r => if N ≤ p then (0, r) else @ite _ (cOK (B p) (stF B p).2.2.1 (stF B p).2.2.2.1 (stF B p).2.2.2.2.1 (stF B p).2.2.2.2.2 r) (Classical.propDecidable _) (upF B N f (stF B p).2.1 (cRes (B p) (stF B p).2.2.1 (stF B p).2.2.2.1 (stF B p).2.2.2.2.1 (stF B p).2.2.2.2.2 r)) (-2000 - p, r)
noncomputable def rdF (B : Int → Int) (N : Int) (r : Nat → Int) : Int × (Nat → Int) := if swF B N 65 0 0 < 0 then (swF B N 65 0 0, r) else if (upF B N 65 0 r).1 < 0 then ((upF B N 65 0 r).1, r) else (swF B N 65 0 0, (upF B N 65 0 r).2)
theorem OffW.cp {u : Nat} {a b : Hp} {g i n : Nat} (h : OffW u a b) (hg : g ∈ [1, 2, 3, 4, 5, 6, 7, 8, 9, 10, 11]) : OffW u a (zcpy b g i g u n) := ⟨fun g' hg' => by
  have hne : g' ≠ g := fun e => hg' (by rw [e]; exact hg)
  have : (zcpy b g i g u n) g' = b g' := by
    funext i' j'
    unfold zcpy
    rw [if_neg (fun z => hne z.1)]
  rw [this]
  exact h.1 g' hg', fun g' t ht => by
  have : (zcpy b g i g u n) g' t = b g' t := by
    funext j'
    unfold zcpy
    rw [if_neg (fun z => ht z.2.1)]
  rw [this]
  exact h.2 g' t ht⟩
theorem qX6_take02 {σ : Hp} {K' : Hp → Prop} {r : Nat → Int} (h : TW σ 2 r) (hw : WF r) (k : ∀ σ', OffW 0 σ σ' → TW σ' 0 r → K' σ') : Runs 1 mX6_takeFrom 0 [zR 1 0, zR 1 2] [] σ (rV K') := by
  have w1 := hw.2.1
  have w2 := hw.2.2.1
  have w6 := hw.2.2.2.2.2.2.1
  obtain ⟨g1, g2, g3, g4, g5, g6⟩ := h
  refine gX6_take02 σ (fun σ1 e1 σ2 e2 σ3 e3 => k _ ?_ ?_)
  · have o1 : OffW 0 σ σ1 := by rw [e1]; exact ((((((OffW.rf.up (by decide)).up (by decide)).up (by decide)).up (by decide)).up (by decide)).up (by decide)).up (by decide)
    have o2 : OffW 0 σ σ2 := by rw [e2]; exact (((o1.cp (by decide)).cp (by decide)).cp (by decide)).cp (by decide)
    have o3 : OffW 0 σ σ3 := by rw [e3]; exact ((((o2.cp (by decide)).cp (by decide)).cp (by decide)).cp (by decide)).cp (by decide)
    exact o3.cp (by decide)
  · have f1 : ∀ j, j < 7 → (zcpy σ3 11 2 11 0 4) 1 0 j = σ 1 2 j := fun j hj => by
      have hq : j = 0 ∨ j = 1 ∨ j = 2 ∨ j = 3 ∨ j = 4 ∨ j = 5 ∨ j = 6 := by omega
      subst e3
      subst e2
      subst e1
      rcases hq with rfl | rfl | rfl | rfl | rfl | rfl | rfl <;> simp [zcpy, zup]
    have f2 : ∀ j, j < 14 → (zcpy σ3 11 2 11 0 4) 2 0 j = σ 2 2 j := fun j hj => by
      subst e3
      subst e2
      subst e1
      simp [zcpy, zup, hj]
    have f3 : ∀ j, j < 14 → (zcpy σ3 11 2 11 0 4) 3 0 j = σ 3 2 j := fun j hj => by
      subst e3
      subst e2
      subst e1
      simp [zcpy, zup, hj]
    have f4 : ∀ j, j < 14 → (zcpy σ3 11 2 11 0 4) 4 0 j = σ 4 2 j := fun j hj => by
      subst e3
      subst e2
      subst e1
      simp [zcpy, zup, hj]
    have f5 : ∀ j, j < 14 → (zcpy σ3 11 2 11 0 4) 5 0 j = σ 5 2 j := fun j hj => by
      subst e3
      subst e2
      subst e1
      simp [zcpy, zup, hj]
    have f6 : ∀ j, j < 8 → (zcpy σ3 11 2 11 0 4) 6 0 j = σ 6 2 j := fun j hj => by
      subst e3
      subst e2
      subst e1
      simp [zcpy, zup, hj]
    have f7 : ∀ j, j < 8 → (zcpy σ3 11 2 11 0 4) 7 0 j = σ 7 2 j := fun j hj => by
      subst e3
      subst e2
      subst e1
      simp [zcpy, zup, hj]
    have f8 : ∀ j, j < 8 → (zcpy σ3 11 2 11 0 4) 8 0 j = σ 8 2 j := fun j hj => by
      subst e3
      subst e2
      subst e1
      simp [zcpy, zup, hj]
    have f9 : ∀ j, j < 8 → (zcpy σ3 11 2 11 0 4) 9 0 j = σ 9 2 j := fun j hj => by
      subst e3
      subst e2
      subst e1
      simp [zcpy, zup, hj]
    have f10 : ∀ j, j < 10 → (zcpy σ3 11 2 11 0 4) 10 0 j = σ 10 2 j := fun j hj => by
      subst e3
      subst e2
      subst e1
      simp [zcpy, zup, hj]
    have f11 : ∀ j, j < 4 → (zcpy σ3 11 2 11 0 4) 11 0 j = σ 11 2 j := fun j hj => by
      subst e3
      subst e2
      subst e1
      simp [zcpy, zup, hj]
    unfold TW
    rw [f1 0 (by omega), f1 1 (by omega), f1 2 (by omega), f1 3 (by omega), f1 4 (by omega), f1 5 (by omega), f1 6 (by omega)]
    refine ⟨g1, g2, fun x hx => ?_, fun x hx => ?_, fun i hi => ?_, fun j hj => ?_⟩
    · rw [f2 x (by omega), f3 x (by omega), f4 x (by omega), f5 x (by omega)]; exact g3 x hx
    · rw [f6 x (by omega), f7 x (by omega), f8 x (by omega), f9 x (by omega)]; exact g4 x hx
    · rw [f10 i (by omega)]; exact g5 i hi
    · rw [f11 j hj]; exact g6 j hj
theorem qX6_take20 {σ : Hp} {K' : Hp → Prop} {r : Nat → Int} (h : TW σ 0 r) (hw : WF r) (k : ∀ σ', OffW 2 σ σ' → TW σ' 2 r → K' σ') : Runs 1 mX6_takeFrom 0 [zR 1 2, zR 1 0] [] σ (rV K') := by
  have w1 := hw.2.1
  have w2 := hw.2.2.1
  have w6 := hw.2.2.2.2.2.2.1
  obtain ⟨g1, g2, g3, g4, g5, g6⟩ := h
  refine gX6_take20 σ (fun σ1 e1 σ2 e2 σ3 e3 => k _ ?_ ?_)
  · have o1 : OffW 2 σ σ1 := by rw [e1]; exact ((((((OffW.rf.up (by decide)).up (by decide)).up (by decide)).up (by decide)).up (by decide)).up (by decide)).up (by decide)
    have o2 : OffW 2 σ σ2 := by rw [e2]; exact (((o1.cp (by decide)).cp (by decide)).cp (by decide)).cp (by decide)
    have o3 : OffW 2 σ σ3 := by rw [e3]; exact ((((o2.cp (by decide)).cp (by decide)).cp (by decide)).cp (by decide)).cp (by decide)
    exact o3.cp (by decide)
  · have f1 : ∀ j, j < 7 → (zcpy σ3 11 0 11 2 4) 1 2 j = σ 1 0 j := fun j hj => by
      have hq : j = 0 ∨ j = 1 ∨ j = 2 ∨ j = 3 ∨ j = 4 ∨ j = 5 ∨ j = 6 := by omega
      subst e3
      subst e2
      subst e1
      rcases hq with rfl | rfl | rfl | rfl | rfl | rfl | rfl <;> simp [zcpy, zup]
    have f2 : ∀ j, j < 14 → (zcpy σ3 11 0 11 2 4) 2 2 j = σ 2 0 j := fun j hj => by
      subst e3
      subst e2
      subst e1
      simp [zcpy, zup, hj]
    have f3 : ∀ j, j < 14 → (zcpy σ3 11 0 11 2 4) 3 2 j = σ 3 0 j := fun j hj => by
      subst e3
      subst e2
      subst e1
      simp [zcpy, zup, hj]
    have f4 : ∀ j, j < 14 → (zcpy σ3 11 0 11 2 4) 4 2 j = σ 4 0 j := fun j hj => by
      subst e3
      subst e2
      subst e1
      simp [zcpy, zup, hj]
    have f5 : ∀ j, j < 14 → (zcpy σ3 11 0 11 2 4) 5 2 j = σ 5 0 j := fun j hj => by
      subst e3
      subst e2
      subst e1
      simp [zcpy, zup, hj]
    have f6 : ∀ j, j < 8 → (zcpy σ3 11 0 11 2 4) 6 2 j = σ 6 0 j := fun j hj => by
      subst e3
      subst e2
      subst e1
      simp [zcpy, zup, hj]
    have f7 : ∀ j, j < 8 → (zcpy σ3 11 0 11 2 4) 7 2 j = σ 7 0 j := fun j hj => by
      subst e3
      subst e2
      subst e1
      simp [zcpy, zup, hj]
    have f8 : ∀ j, j < 8 → (zcpy σ3 11 0 11 2 4) 8 2 j = σ 8 0 j := fun j hj => by
      subst e3
      subst e2
      subst e1
      simp [zcpy, zup, hj]
    have f9 : ∀ j, j < 8 → (zcpy σ3 11 0 11 2 4) 9 2 j = σ 9 0 j := fun j hj => by
      subst e3
      subst e2
      subst e1
      simp [zcpy, zup, hj]
    have f10 : ∀ j, j < 10 → (zcpy σ3 11 0 11 2 4) 10 2 j = σ 10 0 j := fun j hj => by
      subst e3
      subst e2
      subst e1
      simp [zcpy, zup, hj]
    have f11 : ∀ j, j < 4 → (zcpy σ3 11 0 11 2 4) 11 2 j = σ 11 0 j := fun j hj => by
      subst e3
      subst e2
      subst e1
      simp [zcpy, zup, hj]
    unfold TW
    rw [f1 0 (by omega), f1 1 (by omega), f1 2 (by omega), f1 3 (by omega), f1 4 (by omega), f1 5 (by omega), f1 6 (by omega)]
    refine ⟨g1, g2, fun x hx => ?_, fun x hx => ?_, fun i hi => ?_, fun j hj => ?_⟩
    · rw [f2 x (by omega), f3 x (by omega), f4 x (by omega), f5 x (by omega)]; exact g3 x hx
    · rw [f6 x (by omega), f7 x (by omega), f8 x (by omega), f9 x (by omega)]; exact g4 x hx
    · rw [f10 i (by omega)]; exact g5 i hi
    · rw [f11 j hj]; exact g6 j hj
theorem qX6_take10 {σ : Hp} {K' : Hp → Prop} {r : Nat → Int} (h : TW σ 0 r) (hw : WF r) (k : ∀ σ', OffW 1 σ σ' → TW σ' 1 r → K' σ') : Runs 1 mX6_takeFrom 0 [zR 1 1, zR 1 0] [] σ (rV K') := by
  have w1 := hw.2.1
  have w2 := hw.2.2.1
  have w6 := hw.2.2.2.2.2.2.1
  obtain ⟨g1, g2, g3, g4, g5, g6⟩ := h
  refine gX6_take10 σ (fun σ1 e1 σ2 e2 σ3 e3 => k _ ?_ ?_)
  · have o1 : OffW 1 σ σ1 := by rw [e1]; exact ((((((OffW.rf.up (by decide)).up (by decide)).up (by decide)).up (by decide)).up (by decide)).up (by decide)).up (by decide)
    have o2 : OffW 1 σ σ2 := by rw [e2]; exact (((o1.cp (by decide)).cp (by decide)).cp (by decide)).cp (by decide)
    have o3 : OffW 1 σ σ3 := by rw [e3]; exact ((((o2.cp (by decide)).cp (by decide)).cp (by decide)).cp (by decide)).cp (by decide)
    exact o3.cp (by decide)
  · have f1 : ∀ j, j < 7 → (zcpy σ3 11 0 11 1 4) 1 1 j = σ 1 0 j := fun j hj => by
      have hq : j = 0 ∨ j = 1 ∨ j = 2 ∨ j = 3 ∨ j = 4 ∨ j = 5 ∨ j = 6 := by omega
      subst e3
      subst e2
      subst e1
      rcases hq with rfl | rfl | rfl | rfl | rfl | rfl | rfl <;> simp [zcpy, zup]
    have f2 : ∀ j, j < 14 → (zcpy σ3 11 0 11 1 4) 2 1 j = σ 2 0 j := fun j hj => by
      subst e3
      subst e2
      subst e1
      simp [zcpy, zup, hj]
    have f3 : ∀ j, j < 14 → (zcpy σ3 11 0 11 1 4) 3 1 j = σ 3 0 j := fun j hj => by
      subst e3
      subst e2
      subst e1
      simp [zcpy, zup, hj]
    have f4 : ∀ j, j < 14 → (zcpy σ3 11 0 11 1 4) 4 1 j = σ 4 0 j := fun j hj => by
      subst e3
      subst e2
      subst e1
      simp [zcpy, zup, hj]
    have f5 : ∀ j, j < 14 → (zcpy σ3 11 0 11 1 4) 5 1 j = σ 5 0 j := fun j hj => by
      subst e3
      subst e2
      subst e1
      simp [zcpy, zup, hj]
    have f6 : ∀ j, j < 8 → (zcpy σ3 11 0 11 1 4) 6 1 j = σ 6 0 j := fun j hj => by
      subst e3
      subst e2
      subst e1
      simp [zcpy, zup, hj]
    have f7 : ∀ j, j < 8 → (zcpy σ3 11 0 11 1 4) 7 1 j = σ 7 0 j := fun j hj => by
      subst e3
      subst e2
      subst e1
      simp [zcpy, zup, hj]
    have f8 : ∀ j, j < 8 → (zcpy σ3 11 0 11 1 4) 8 1 j = σ 8 0 j := fun j hj => by
      subst e3
      subst e2
      subst e1
      simp [zcpy, zup, hj]
    have f9 : ∀ j, j < 8 → (zcpy σ3 11 0 11 1 4) 9 1 j = σ 9 0 j := fun j hj => by
      subst e3
      subst e2
      subst e1
      simp [zcpy, zup, hj]
    have f10 : ∀ j, j < 10 → (zcpy σ3 11 0 11 1 4) 10 1 j = σ 10 0 j := fun j hj => by
      subst e3
      subst e2
      subst e1
      simp [zcpy, zup, hj]
    have f11 : ∀ j, j < 4 → (zcpy σ3 11 0 11 1 4) 11 1 j = σ 11 0 j := fun j hj => by
      subst e3
      subst e2
      subst e1
      simp [zcpy, zup, hj]
    unfold TW
    rw [f1 0 (by omega), f1 1 (by omega), f1 2 (by omega), f1 3 (by omega), f1 4 (by omega), f1 5 (by omega), f1 6 (by omega)]
    refine ⟨g1, g2, fun x hx => ?_, fun x hx => ?_, fun i hi => ?_, fun j hj => ?_⟩
    · rw [f2 x (by omega), f3 x (by omega), f4 x (by omega), f5 x (by omega)]; exact g3 x hx
    · rw [f6 x (by omega), f7 x (by omega), f8 x (by omega), f9 x (by omega)]; exact g4 x hx
    · rw [f10 i (by omega)]; exact g5 i hi
    · rw [f11 j hj]; exact g6 j hj
theorem qX6_take01 {σ : Hp} {K' : Hp → Prop} {r : Nat → Int} (h : TW σ 1 r) (hw : WF r) (k : ∀ σ', OffW 0 σ σ' → TW σ' 0 r → K' σ') : Runs 1 mX6_takeFrom 0 [zR 1 0, zR 1 1] [] σ (rV K') := by
  have w1 := hw.2.1
  have w2 := hw.2.2.1
  have w6 := hw.2.2.2.2.2.2.1
  obtain ⟨g1, g2, g3, g4, g5, g6⟩ := h
  refine gX6_take01 σ (fun σ1 e1 σ2 e2 σ3 e3 => k _ ?_ ?_)
  · have o1 : OffW 0 σ σ1 := by rw [e1]; exact ((((((OffW.rf.up (by decide)).up (by decide)).up (by decide)).up (by decide)).up (by decide)).up (by decide)).up (by decide)
    have o2 : OffW 0 σ σ2 := by rw [e2]; exact (((o1.cp (by decide)).cp (by decide)).cp (by decide)).cp (by decide)
    have o3 : OffW 0 σ σ3 := by rw [e3]; exact ((((o2.cp (by decide)).cp (by decide)).cp (by decide)).cp (by decide)).cp (by decide)
    exact o3.cp (by decide)
  · have f1 : ∀ j, j < 7 → (zcpy σ3 11 1 11 0 4) 1 0 j = σ 1 1 j := fun j hj => by
      have hq : j = 0 ∨ j = 1 ∨ j = 2 ∨ j = 3 ∨ j = 4 ∨ j = 5 ∨ j = 6 := by omega
      subst e3
      subst e2
      subst e1
      rcases hq with rfl | rfl | rfl | rfl | rfl | rfl | rfl <;> simp [zcpy, zup]
    have f2 : ∀ j, j < 14 → (zcpy σ3 11 1 11 0 4) 2 0 j = σ 2 1 j := fun j hj => by
      subst e3
      subst e2
      subst e1
      simp [zcpy, zup, hj]
    have f3 : ∀ j, j < 14 → (zcpy σ3 11 1 11 0 4) 3 0 j = σ 3 1 j := fun j hj => by
      subst e3
      subst e2
      subst e1
      simp [zcpy, zup, hj]
    have f4 : ∀ j, j < 14 → (zcpy σ3 11 1 11 0 4) 4 0 j = σ 4 1 j := fun j hj => by
      subst e3
      subst e2
      subst e1
      simp [zcpy, zup, hj]
    have f5 : ∀ j, j < 14 → (zcpy σ3 11 1 11 0 4) 5 0 j = σ 5 1 j := fun j hj => by
      subst e3
      subst e2
      subst e1
      simp [zcpy, zup, hj]
    have f6 : ∀ j, j < 8 → (zcpy σ3 11 1 11 0 4) 6 0 j = σ 6 1 j := fun j hj => by
      subst e3
      subst e2
      subst e1
      simp [zcpy, zup, hj]
    have f7 : ∀ j, j < 8 → (zcpy σ3 11 1 11 0 4) 7 0 j = σ 7 1 j := fun j hj => by
      subst e3
      subst e2
      subst e1
      simp [zcpy, zup, hj]
    have f8 : ∀ j, j < 8 → (zcpy σ3 11 1 11 0 4) 8 0 j = σ 8 1 j := fun j hj => by
      subst e3
      subst e2
      subst e1
      simp [zcpy, zup, hj]
    have f9 : ∀ j, j < 8 → (zcpy σ3 11 1 11 0 4) 9 0 j = σ 9 1 j := fun j hj => by
      subst e3
      subst e2
      subst e1
      simp [zcpy, zup, hj]
    have f10 : ∀ j, j < 10 → (zcpy σ3 11 1 11 0 4) 10 0 j = σ 10 1 j := fun j hj => by
      subst e3
      subst e2
      subst e1
      simp [zcpy, zup, hj]
    have f11 : ∀ j, j < 4 → (zcpy σ3 11 1 11 0 4) 11 0 j = σ 11 1 j := fun j hj => by
      subst e3
      subst e2
      subst e1
      simp [zcpy, zup, hj]
    unfold TW
    rw [f1 0 (by omega), f1 1 (by omega), f1 2 (by omega), f1 3 (by omega), f1 4 (by omega), f1 5 (by omega), f1 6 (by omega)]
    refine ⟨g1, g2, fun x hx => ?_, fun x hx => ?_, fun i hi => ?_, fun j hj => ?_⟩
    · rw [f2 x (by omega), f3 x (by omega), f4 x (by omega), f5 x (by omega)]; exact g3 x hx
    · rw [f6 x (by omega), f7 x (by omega), f8 x (by omega), f9 x (by omega)]; exact g4 x hx
    · rw [f10 i (by omega)]; exact g5 i hi
    · rw [f11 j hj]; exact g6 j hj
