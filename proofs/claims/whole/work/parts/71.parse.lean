/-! how a text is read -/
def byB (T : Nat → Int) (N q : Int) : Int := if 0 ≤ q ∧ q < N then T q.toNat else -1
abbrev PR : Type := Int × Int × Int × Int × Int × Int
def nmF (B : Int → Int) : Nat → Int → Int → Int × Int
  | 0, p, v => (p, v)
  | k + 1, p, v => if 48 ≤ B p ∧ B p ≤ 57 then nmF B k (p + 1) (10 * v + B p - 48) else (p, v)
def failP (p : Int) : PR := (0, p, 0, 0, 0, 0)
def kN (B : Int → Int) (most : Nat) (p : Int) (k : Int → Int → PR) : PR := if (nmF B most p 0).1 = p then failP p else k (nmF B most p 0).1 (nmF B most p 0).2
def kS (B : Int → Int) (c p : Int) (k : Int → PR) : PR := if B p = c then k (p + 1) else failP p
theorem kN_no {B : Int → Int} {most : Nat} {p : Int} {k : Int → Int → PR} (h : (nmF B most p 0).1 = p) : kN B most p k = failP p := if_pos h
theorem kN_yes {B : Int → Int} {most : Nat} {p : Int} {k : Int → Int → PR} (h : ¬ (nmF B most p 0).1 = p) : kN B most p k = k (nmF B most p 0).1 (nmF B most p 0).2 := if_neg h
theorem kS_yes {B : Int → Int} {c p : Int} {k : Int → PR} (h : B p = c) : kS B c p k = k (p + 1) := if_pos h
theorem kS_no {B : Int → Int} {c p : Int} {k : Int → PR} (h : ¬ B p = c) : kS B c p k = failP p := if_neg h
def stK (B : Int → Int) (p : Int) : PR := kN B 2 (p + 1) (fun p a => kS B 59 p (fun p => (1, p, a, 0, 0, 0)))
def stSb (B : Int → Int) (a b p c : Int) : PR := if B p = 98 then kS B 59 (p + 1) (fun p => (1, p, a, b, c, 1)) else kS B 59 p (fun p => (1, p, a, b, c, 0))
def stS (B : Int → Int) (p : Int) : PR := kN B 1 (p + 1) (fun p a => kN B 1 p (fun p b => kS B 44 p (fun p => kN B 2 p (fun p c => stSb B a b p c))))
def stE (B : Int → Int) (p : Int) : PR := kN B 1 (p + 1) (fun p a => kN B 1 p (fun p b => kS B 64 p (fun p => kN B 4 p (fun p c => kS B 44 p (fun p => kN B 1 p (fun p d => kS B 59 p (fun p => (1, p, a, b, c, d))))))))
def stM (B : Int → Int) (p : Int) : PR := kN B 2 (p + 1) (fun p a => kS B 44 p (fun p => kN B 1 p (fun p b => kS B 59 p (fun p => (1, p, a, b, 0, 0)))))
def stF (B : Int → Int) (p : Int) : PR := if B p = 107 then stK B p else if B p = 115 then stS B p else if B p = 101 then stE B p else if B p = 109 then stM B p else failP p
theorem stF_k {B : Int → Int} {p : Int} (h : B p = 107) : stF B p = stK B p := if_pos h
theorem stF_s {B : Int → Int} {p : Int} (h : B p = 115) : stF B p = stS B p := by unfold stF; rw [if_neg (by omega), if_pos h]
theorem stF_e {B : Int → Int} {p : Int} (h : B p = 101) : stF B p = stE B p := by unfold stF; rw [if_neg (by omega), if_neg (by omega), if_pos h]
theorem stF_m {B : Int → Int} {p : Int} (h : B p = 109) : stF B p = stM B p := by unfold stF; rw [if_neg (by omega), if_neg (by omega), if_neg (by omega), if_pos h]
theorem stF_no {B : Int → Int} {p : Int} (h1 : ¬ B p = 107) (h2 : ¬ B p = 115) (h3 : ¬ B p = 101) (h4 : ¬ B p = 109) : stF B p = failP p := by unfold stF; rw [if_neg h1, if_neg h2, if_neg h3, if_neg h4]
def ten : Nat → Int
  | 0 => 1
  | k + 1 => 10 * ten k
theorem nmF_b {B : Int → Int} : ∀ (k : Nat) (p v : Int), 0 ≤ v → (p ≤ (nmF B k p v).1 ∧ (nmF B k p v).1 ≤ p + k) ∧ 0 ≤ (nmF B k p v).2 ∧ (nmF B k p v).2 < (v + 1) * ten k
  | 0, p, v, h => by unfold nmF ten; dsimp only; omega
  | k + 1, p, v, h => by
    have tp : ∀ k, 1 ≤ ten k := fun k => by
      induction k with
      | zero => exact Int.le_refl 1
      | succ k ih => show 1 ≤ 10 * ten k; omega
    unfold nmF
    by_cases q : 48 ≤ B p ∧ B p ≤ 57
    · rw [if_pos q]
      have ih := nmF_b (B := B) k (p + 1) (10 * v + B p - 48) (by omega)
      refine ⟨by omega, ih.2.1, ?_⟩
      have h1 : (10 * v + B p - 48 + 1) * ten k ≤ (10 * (v + 1)) * ten k := Int.mul_le_mul_of_nonneg_right (by omega) (by have := tp k; omega)
      have h2 : (v + 1) * ten (k + 1) = (10 * (v + 1)) * ten k := by
        show (v + 1) * (10 * ten k) = _
        rw [← Int.mul_assoc, Int.mul_comm (v + 1) 10]
      omega
    · rw [if_neg q]
      dsimp only
      have h1 : (v + 1) * 1 ≤ (v + 1) * ten (k + 1) := Int.mul_le_mul_of_nonneg_left (tp (k + 1)) (by omega)
      omega
theorem nmF_B {B B' : Int → Int} (h : ∀ q, 0 ≤ q → B q = B' q) : ∀ (k : Nat) (p v : Int), 0 ≤ p → nmF B k p v = nmF B' k p v
  | 0, _, _, _ => rfl
  | k + 1, p, v, hp => by
    unfold nmF
    rw [h p hp, nmF_B h k (p + 1) _ (by omega)]
section Number
variable {K : Int → Hp → Prop}
def cNp (σ σ' : Hp) (w : Nat) (x : Int × Int) : Prop := Off [14, 15] σ σ' ∧ σ' 14 0 2 = x.1 ∧ (∀ j, j ≠ 2 → σ' 14 0 j = σ 14 0 j) ∧ σ' 15 0 w = x.2 ∧ ∀ j, j ≠ w → σ' 15 0 j = σ 15 0 j
theorem zby {σ σ' : Hp} (h : Off [14, 15] σ σ') (q : Int) : zbyte σ' q = zbyte σ q := by unfold zbyte; rw [h 12 (by decide), h 13 (by decide)]
theorem qX3_number {σ : Hp} (hN : σ 12 0 1 ≤ 64) {B : Int → Int} (hB : ∀ q, 0 ≤ q → zbyte σ q = B q) {w : Nat} (hw : w < 4) {most : Nat} (hm : most ≤ 4) {p : Int} (hp : σ 14 0 2 = p) (p0 : 0 ≤ p ∧ p ≤ 900) (h0 : ∀ σ', cNp σ σ' w (nmF B most p 0) → (nmF B most p 0).1 = p → K 0 σ') (h1 : ∀ σ', cNp σ σ' w (nmF B most p 0) → ¬ (nmF B most p 0).1 = p → K 1 σ') :
    Runs 1 mX3_number 0 [zR 14 0, zI (w : Int), zI (most : Int), zU, zU] [] σ (rI K) := by
  generalize hx : nmF B most p 0 = x at *
  have tenb : ∀ j : Nat, j < 5 → 1 ≤ ten j ∧ ten j ≤ 10000 := by decide
  have loop : ∀ (k j : Nat) (v : Int) (σ1 : Hp), j + k = most → Off [14, 15] σ σ1 → σ1 14 0 2 = p + j → (∀ i, i ≠ 2 → σ1 14 0 i = σ 14 0 i) → σ1 15 = σ 15 → (0 ≤ v ∧ v < ten j) → nmF B k (p + j) v = x → Runs 1 mX3_number 5 [zR 14 0, zI (w : Int), zI (most : Int), zI v, zI (j : Int)] [] σ1 (rI K) := by
    intro k
    have fin : ∀ (j : Nat) (v : Int) (σ1 : Hp), Off [14, 15] σ σ1 → σ1 14 0 2 = p + j → (∀ i, i ≠ 2 → σ1 14 0 i = σ 14 0 i) → σ1 15 = σ 15 → (p + j, v) = x → ((j : Int) ≤ 0 → rI K (some 0) (zup σ1 15 0 ((w : Int)).toNat v)) ∧ (¬ (j : Int) ≤ 0 → rI K (some 1) (zup σ1 15 0 ((w : Int)).toNat v)) := fun j v σ1 o1 e1 k1 n1 ex => by
      have post : cNp σ (zup σ1 15 0 w v) w x := by
        rw [← ex]
        refine ⟨o1.up (by decide), ?_, fun i hi => ?_, by simp [zup], fun i hi => ?_⟩
        · rw [zup_ne (by intro z; cases z)]; exact e1
        · rw [zup_ne (by intro z; cases z)]; exact k1 i hi
        · simp [zup, hi, n1]
      have ex1 : x.1 = p + j := by rw [← ex]
      exact ⟨fun q => h0 _ post (by omega), fun q => h1 _ post (by omega)⟩
    induction k with
    | zero =>
      intro j v σ1 hj o1 e1 k1 n1 hv ex
      have f := fin j v σ1 o1 e1 k1 n1 ex
      refine gX3_number_5 (w : Int) (most : Int) v (j : Int) σ1 ⟨fun _ => ⟨by omega, f⟩, fun q => absurd (show (most : Int) ≤ (j : Int) by omega) q⟩
    | succ k ih =>
      intro j v σ1 hj o1 e1 k1 n1 hv ex
      have tj := tenb j (by omega)
      have tj1 : ten (j + 1) = 10 * ten j := rfl
      have eN : σ1 12 0 1 = σ 12 0 1 := by rw [o1 12 (by decide)]
      have eB : zbyte σ1 (σ1 14 0 2) = B (p + j) := by rw [zby o1, e1]; exact hB _ (by omega)
      unfold nmF at ex
      refine gX3_number_5 (w : Int) (most : Int) v (j : Int) σ1 ⟨fun q => absurd q (by omega), fun _ => ⟨by omega, ?_⟩⟩
      rw [eB, e1]
      refine ⟨fun c => ?_, fun c => ⟨by omega, ?_⟩⟩
      · rw [if_pos c] at ex
        refine ⟨by omega, by omega, by omega, by omega, by omega, by omega, ?_⟩
        refine ih (j + 1) _ _ (by omega) (o1.up (by decide)) ?_ (fun i hi => ?_) ?_ ⟨by omega, by rw [tj1]; omega⟩ ?_
        · simp [zup]; omega
        · simp [zup, hi]; exact k1 i hi
        · rw [← n1]
          funext i'
          rw [zup_ne (by intro z; cases z)]
        · rw [show p + ((j + 1 : Nat) : Int) = p + j + 1 by omega]
          exact ex
      · rw [if_neg c] at ex
        exact fin j v σ1 o1 e1 k1 n1 ex
  exact gX3_number_0 (w : Int) (most : Int) σ (loop most 0 0 σ (by omega) Off.rf (by rw [hp]; omega) (fun _ _ => rfl) rfl ⟨Int.le_refl 0, by decide⟩ (by rw [show p + ((0 : Nat) : Int) = p by omega]; exact hx))
def rNp (σ σ' : Hp) (w : Nat) (x : Int × Int) : Prop := OffM [40] [8] σ σ' ∧ σ' 34 0 8 = x.1 ∧ σ' 40 0 w = x.2 ∧ ∀ j, j ≠ w → σ' 40 0 j = σ 40 0 j
theorem zsg {σ : Hp} (h : 0 ≤ σ 34 0 8) : zsign σ = byB (σ 39 0) (σ 34 0 7) (σ 34 0 8) := by
  unfold zsign byB
  by_cases q : σ 34 0 8 < σ 34 0 7
  · rw [if_pos q, if_pos ⟨h, q⟩]
  · rw [if_neg q, if_neg (fun z => q z.2)]
theorem qX11_number {σ : Hp} (hN : σ 34 0 7 ≤ 64) {B : Int → Int} (hB : ∀ q, 0 ≤ q → byB (σ 39 0) (σ 34 0 7) q = B q) {w : Nat} (hw : w < 4) {most : Nat} (hm : most ≤ 4) {p : Int} (hp : σ 34 0 8 = p) (p0 : 0 ≤ p ∧ p ≤ 900) (h0 : ∀ σ', rNp σ σ' w (nmF B most p 0) → (nmF B most p 0).1 = p → K 0 σ') (h1 : ∀ σ', rNp σ σ' w (nmF B most p 0) → ¬ (nmF B most p 0).1 = p → K 1 σ') :
    Runs 1 mX11_readsNumber 0 [zR 34 0, zI (w : Int), zI (most : Int), zU] [] σ (rI K) := by
  generalize hx : nmF B most p 0 = x at *
  have tenb : ∀ j : Nat, j < 5 → 1 ≤ ten j ∧ ten j ≤ 10000 := by decide
  have loop : ∀ (k j : Nat) (v : Int) (σ1 : Hp), j + k = most → OffM [40] [8] σ σ1 → σ1 34 0 8 = p + j → σ1 40 0 w = v → (∀ i, i ≠ w → σ1 40 0 i = σ 40 0 i) → (0 ≤ v ∧ v < ten j) → nmF B k (p + j) v = x → Runs 1 mX11_readsNumber 9 [zR 34 0, zI (w : Int), zI (most : Int), zI (j : Int)] [] σ1 (rI K) := by
    intro k
    have fin : ∀ (j : Nat) (v : Int) (σ1 : Hp), OffM [40] [8] σ σ1 → σ1 34 0 8 = p + j → σ1 40 0 w = v → (∀ i, i ≠ w → σ1 40 0 i = σ 40 0 i) → (p + j, v) = x → ((j : Int) ≤ 0 → rI K (some 0) σ1) ∧ (¬ (j : Int) ≤ 0 → rI K (some 1) σ1) := fun j v σ1 o1 e1 ev n1 ex => by
      have post : rNp σ σ1 w x := by rw [← ex]; exact ⟨o1, e1, ev, n1⟩
      have ex1 : x.1 = p + j := by rw [← ex]
      exact ⟨fun q => h0 _ post (by omega), fun q => h1 _ post (by omega)⟩
    induction k with
    | zero =>
      intro j v σ1 hj o1 e1 ev n1 hv ex
      have f := fin j v σ1 o1 e1 ev n1 ex
      exact gX11_readsNumber_9 (w : Int) (most : Int) (j : Int) σ1 ⟨fun _ => f, fun q => absurd (show (most : Int) ≤ (j : Int) by omega) q⟩
    | succ k ih =>
      intro j v σ1 hj o1 e1 ev n1 hv ex
      have tj := tenb j (by omega)
      have tj1 : ten (j + 1) = 10 * ten j := rfl
      have e7 : σ1 34 0 7 = σ 34 0 7 := o1.2 7 (by decide)
      have eB : zsign σ1 = B (p + j) := by
        rw [zsg (by omega), o1.1 39 (by decide), e7, e1]
        exact hB _ (by omega)
      unfold nmF at ex
      refine gX11_readsNumber_9 (w : Int) (most : Int) (j : Int) σ1 ⟨fun q => absurd q (by omega), fun _ => ⟨by omega, ?_⟩⟩
      rw [eB, e1]
      simp only [Int.toNat_natCast]
      rw [ev]
      have bad : ¬ (48 ≤ B (p + j) ∧ B (p + j) ≤ 57) → ((j : Int) ≤ 0 → rI K (some 0) σ1) ∧ (¬ (j : Int) ≤ 0 → rI K (some 1) σ1) := fun c => by
        rw [if_neg c] at ex
        exact fin j v σ1 o1 e1 ev n1 ex
      refine ⟨fun c => bad (by omega), fun c => ⟨by omega, fun c2 => bad (by omega), fun c2 => ?_⟩⟩
      rw [if_pos ⟨by omega, by omega⟩] at ex
      refine ⟨by omega, by omega, by omega, by omega, by omega, by omega, by omega, by omega, fun σ2 e2 => ?_⟩
      subst e2
      refine ih (j + 1) (10 * v + B (p + j) - 48) _ (by omega) ((o1.up (by decide)).up34 (by decide)) ?_ ?_ (fun i hi => ?_) ⟨by omega, by rw [tj1]; omega⟩ ?_
      · simp [zup]; omega
      · show (zup (zup σ1 40 0 w (10 * v + B (p + j) - 48)) 34 0 8 (p + j + 1)) 40 0 w = 10 * v + B (p + j) - 48
        simp [zup]
      · simp only [zup]
        simp [hi]
        exact n1 i hi
      · rw [show p + ((j + 1 : Nat) : Int) = p + j + 1 by omega]
        exact ex
  refine gX11_readsNumber_0 (w : Int) (most : Int) σ ⟨by omega, ?_⟩
  simp only [Int.toNat_natCast]
  refine loop most 0 0 _ (by omega) (OffM.rf.up (by decide)) ?_ (by simp [zup]) (fun i hi => by simp [zup, hi]) ⟨Int.le_refl 0, by decide⟩ (by rw [show p + ((0 : Nat) : Int) = p by omega]; exact hx)
  rw [zup_ne (by intro z; cases z), hp]
  omega
end Number
