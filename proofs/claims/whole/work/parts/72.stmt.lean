/-! one statement -/
def SC (σ σ1 : Hp) (B : Int → Int) (p q : Int) : Prop := Off [14, 15] σ σ1 ∧ σ1 14 0 2 = q ∧ σ1 14 0 3 = B p ∧ σ1 14 0 4 = p
def vals (A : Nat → Int) (b6 : Int) (L a b c d : Int) : Prop := (L = 107 → A 0 = a) ∧ (L = 115 → A 0 = a ∧ A 1 = b ∧ A 2 = c ∧ b6 = d) ∧ (L = 101 → A 0 = a ∧ A 1 = b ∧ A 2 = c ∧ A 3 = d) ∧ (L = 109 → A 0 = a ∧ A 1 = b)
section Stmt
variable {K : Int → Hp → Prop}
theorem SC.sign {σ σ1 : Hp} {B : Int → Int} {p q : Int} (h : SC σ σ1 B p q) : SC σ (zup σ1 14 0 2 (σ1 14 0 2 + 1)) B p (q + 1) := by
  obtain ⟨h1, h2, h3, h4⟩ := h
  refine ⟨h1.up (by decide), ?_, ?_, ?_⟩
  · simp [zup]; exact h2
  · simp [zup]; exact h3
  · simp [zup]; exact h4
theorem SC.put6 {σ σ1 : Hp} {B : Int → Int} {p q v : Int} (h : SC σ σ1 B p q) : SC σ (zup σ1 14 0 6 v) B p q := by
  obtain ⟨h1, h2, h3, h4⟩ := h
  refine ⟨h1.up (by decide), ?_, ?_, ?_⟩
  · simp [zup]; exact h2
  · simp [zup]; exact h3
  · simp [zup]; exact h4
theorem SC.by_ {σ σ1 : Hp} {B : Int → Int} {p q : Int} (hB : ∀ q, 0 ≤ q → zbyte σ q = B q) (h : SC σ σ1 B p q) (hq : 0 ≤ q) : zbyte σ1 (σ1 14 0 2) = B q := by rw [zby h.1, h.2.1]; exact hB q hq
theorem SC.n {σ σ1 : Hp} {B : Int → Int} {p q : Int} (h : SC σ σ1 B p q) : σ1 12 0 1 = σ 12 0 1 := by rw [h.1 12 (by decide)]
theorem cls_num {σ σ1 : Hp} {B : Int → Int} {p q : Int} (hN : σ 12 0 1 ≤ 64) (hB : ∀ q, 0 ≤ q → zbyte σ q = B q) (h : SC σ σ1 B p q) (w : Nat) (hw : w < 4) (most : Nat) (hm : most ≤ 4) (q0 : 0 ≤ q ∧ q ≤ 900) (h0 : ∀ σ2, SC σ σ2 B p q → (nmF B most q 0).1 = q → K 0 σ2)
    (h1 : ∀ σ2, SC σ σ2 B p (nmF B most q 0).1 → ¬ (nmF B most q 0).1 = q → σ2 15 0 w = (nmF B most q 0).2 → (∀ j, j ≠ w → σ2 15 0 j = σ1 15 0 j) → σ2 14 0 6 = σ1 14 0 6 → K 1 σ2) : Runs 1 mX3_number 0 [zR 14 0, zI (w : Int), zI (most : Int), zU, zU] [] σ1 (rI K) := by
  have sc : ∀ σ2, cNp σ1 σ2 w (nmF B most q 0) → SC σ σ2 B p (nmF B most q 0).1 := fun σ2 c => ⟨h.1.tr c.1, c.2.1, by rw [c.2.2.1 3 (by omega)]; exact h.2.2.1, by rw [c.2.2.1 4 (by omega)]; exact h.2.2.2⟩
  exact qX3_number (by rw [h.n]; exact hN) (fun q hq => by rw [zby h.1]; exact hB q hq) hw hm h.2.1 q0 (fun σ2 c e => h0 σ2 (by have := sc σ2 c; rw [e] at this; exact this) e) (fun σ2 c e => h1 σ2 (sc σ2 c) e c.2.2.2.1 c.2.2.2.2 (c.2.2.1 6 (by omega)))
theorem qX3_broadOrNot {σ σ1 : Hp} {B : Int → Int} {p q : Int} (hN : σ 12 0 1 ≤ 64) (hB : ∀ q, 0 ≤ q → zbyte σ q = B q) (h : SC σ σ1 B p q) (q0 : 0 ≤ q ∧ q ≤ 900) (h1 : ∀ σ2, SC σ σ2 B p (if B q = 98 then q + 1 else q) → σ2 14 0 6 = (if B q = 98 then 1 else 0) → σ2 15 = σ1 15 → K 1 σ2) : Runs 2 mX3_broadOrNot 0 [zR 14 0] [] σ1 (rI K) := by
  have e15 : ∀ (σ2 : Hp) (j : Nat) (v : Int), (zup σ2 14 0 j v) 15 = σ2 15 := fun σ2 j v => by
    funext i'
    rw [zup_ne (by intro z; cases z)]
  refine gX3_broadOrNot_0 σ1 ⟨by rw [h.n]; exact hN, by rw [h.2.1]; omega, fun c σ2 e2 => ?_, fun c => ?_⟩
  · rw [h.by_ hB q0.1] at c
    subst e2
    rw [if_pos c, if_pos c] at h1
    exact h1 _ h.sign.put6 (by simp [zup]) (by rw [e15, e15])
  · rw [h.by_ hB q0.1] at c
    rw [if_neg c, if_neg c] at h1
    exact h1 _ h.put6 (by simp [zup]) (by rw [e15])
theorem qX3_readStatement {σ : Hp} (hN : σ 12 0 1 ≤ 64) {B : Int → Int} (hB : ∀ q, 0 ≤ q → zbyte σ q = B q) {p : Int} (hp : σ 14 0 2 = p) (p0 : 0 ≤ p ∧ p ≤ 64)
    (h : ∀ σ' ok p' a b c d, stF B p = (ok, p', a, b, c, d) → SC σ σ' B p p' → (ok = 1 → vals (σ' 15 0) (σ' 14 0 6) (B p) a b c d) → K ok σ') : Runs 3 mX3_readStatement 0 [zR 14 0] [] σ (rI K) := by
  have eb : zbyte (zup σ 14 0 4 (σ 14 0 2)) (σ 14 0 2) = B p := by
    rw [zby (Off.rf.up (by decide)), hp]
    exact hB p p0.1
  have e12 : (zup σ 14 0 4 (σ 14 0 2)) 12 0 1 = σ 12 0 1 := by rw [zup_ne (by intro z; cases z)]
  refine gX3_readStatement_0 σ ?_
  rw [eb, e12]
  refine ⟨hN, fun σ1 e1 => ?_⟩
  have sc : SC σ σ1 B p p := by
    rw [e1, hp]
    refine ⟨(Off.rf.up (by decide)).up (by decide), ?_, by simp [zup], by simp [zup]⟩
    simp [zup]; exact hp
  have fl : ∀ {σ' : Hp} {q' : Int}, stF B p = failP q' → SC σ σ' B p q' → K 0 σ' := fun {σ'} {q'} e s' => h σ' 0 q' 0 0 0 0 e s' (fun z => absurd z (by omega))
  have u15 : ∀ (σ2 : Hp) (j : Nat) (v : Int), (zup σ2 14 0 j v) 15 = σ2 15 := fun σ2 j v => by
    funext i'
    rw [zup_ne (by intro z; cases z)]
  have pb := sc.2.1
  have sc1 := sc.sign
  refine ⟨fun L => ⟨by omega, ?_⟩, fun L => ⟨by omega, ?_⟩, fun L => ⟨by omega, ?_⟩, fun L => ⟨by omega, ?_⟩, fun L => fl (stF_no L.2.1 L.2.2.2 L.1 L.2.2.1) sc⟩
  · -- e
    have hR := stF_e L
    unfold stE at hR
    have b1 := (nmF_b (B := B) 1 (p + 1) 0 (by omega)).1
    refine cls_num hN hB sc1 0 (by omega) 1 (by omega) (by omega) (fun σ2 s2 n2 => ⟨fun _ => fl (hR.trans (kN_no n2)) s2, fun q => absurd rfl q⟩) (fun σ2 s2 y2 v2 k2 f2 => ⟨fun q => absurd q (by omega), fun _ => ?_⟩)
    rw [kN_yes y2] at hR
    generalize nmF B 1 (p + 1) 0 = x at *
    have b2 := (nmF_b (B := B) 1 x.1 0 (by omega)).1
    refine cls_num hN hB s2 1 (by omega) 1 (by omega) (by omega) (fun σ3 s3 n3 => ⟨fun _ => fl (hR.trans (kN_no n3)) s3, fun q => absurd rfl q⟩) (fun σ3 s3 y3 v3 k3 f3 => ⟨fun q => absurd q (by omega), fun _ => ?_⟩)
    rw [kN_yes y3] at hR
    generalize nmF B 1 x.1 0 = y at *
    have q3 := s3.2.1
    refine ⟨by rw [s3.n]; exact hN, by omega, ?_⟩
    rw [s3.by_ hB (by omega)]
    refine ⟨fun c σ4 e4 => ?_, fun c => fl (hR.trans (kS_no c)) s3⟩
    rw [kS_yes c] at hR
    have s4 := s3.sign
    rw [← e4] at s4
    have k4 : σ4 15 = σ3 15 := by rw [e4, u15]
    have b4 := (nmF_b (B := B) 4 (y.1 + 1) 0 (by omega)).1
    refine cls_num hN hB s4 2 (by omega) 4 (by omega) (by omega) (fun σ5 s5 n5 => ⟨fun _ => fl (hR.trans (kN_no n5)) s5, fun q => absurd rfl q⟩) (fun σ5 s5 y5 v5 k5 f5 => ⟨fun q => absurd q (by omega), fun _ => ?_⟩)
    rw [kN_yes y5] at hR
    generalize nmF B 4 (y.1 + 1) 0 = u at *
    have q5 := s5.2.1
    refine ⟨by rw [s5.n]; exact hN, by omega, ?_⟩
    rw [s5.by_ hB (by omega)]
    refine ⟨fun c2 σ6 e6 => ?_, fun c2 => fl (hR.trans (kS_no c2)) s5⟩
    rw [kS_yes c2] at hR
    have s6 := s5.sign
    rw [← e6] at s6
    have k6 : σ6 15 = σ5 15 := by rw [e6, u15]
    have b6 := (nmF_b (B := B) 1 (u.1 + 1) 0 (by omega)).1
    refine cls_num hN hB s6 3 (by omega) 1 (by omega) (by omega) (fun σ7 s7 n7 => ⟨fun _ => fl (hR.trans (kN_no n7)) s7, fun q => absurd rfl q⟩) (fun σ7 s7 y7 v7 k7 f7 => ⟨fun q => absurd q (by omega), fun _ => ?_⟩)
    rw [kN_yes y7] at hR
    generalize nmF B 1 (u.1 + 1) 0 = t at *
    have q7 := s7.2.1
    refine ⟨by rw [s7.n]; exact hN, by omega, ?_⟩
    rw [s7.by_ hB (by omega)]
    refine ⟨fun c3 σ8 e8 => ?_, fun c3 => fl (hR.trans (kS_no c3)) s7⟩
    rw [kS_yes c3] at hR
    have s8 := s7.sign
    rw [← e8] at s8
    have k8 : σ8 15 = σ7 15 := by rw [e8, u15]
    refine h σ8 1 _ _ _ _ _ hR s8 (fun _ => ⟨fun z => absurd z (by omega), fun z => absurd z (by omega), fun _ => ?_, fun z => absurd z (by omega)⟩)
    refine ⟨?_, ?_, ?_, ?_⟩
    · rw [k8, k7 0 (by omega), k6, k5 0 (by omega), k4, k3 0 (by omega)]; exact v2
    · rw [k8, k7 1 (by omega), k6, k5 1 (by omega), k4]; exact v3
    · rw [k8, k7 2 (by omega), k6]; exact v5
    · rw [k8]; exact v7
  · -- k
    have hR := stF_k L
    unfold stK at hR
    have b1 := (nmF_b (B := B) 2 (p + 1) 0 (by omega)).1
    refine cls_num hN hB sc1 0 (by omega) 2 (by omega) (by omega) (fun σ2 s2 n2 => ⟨fun _ => fl (hR.trans (kN_no n2)) s2, fun q => absurd rfl q⟩) (fun σ2 s2 y2 v2 k2 f2 => ⟨fun q => absurd q (by omega), fun _ => ?_⟩)
    rw [kN_yes y2] at hR
    generalize nmF B 2 (p + 1) 0 = x at *
    have q2 := s2.2.1
    refine ⟨by rw [s2.n]; exact hN, by omega, ?_⟩
    rw [s2.by_ hB (by omega)]
    refine ⟨fun c σ4 e4 => ?_, fun c => fl (hR.trans (kS_no c)) s2⟩
    rw [kS_yes c] at hR
    have s4 := s2.sign
    rw [← e4] at s4
    have k4 : σ4 15 = σ2 15 := by rw [e4, u15]
    refine h σ4 1 _ _ _ _ _ hR s4 (fun _ => ⟨fun _ => ?_, fun z => absurd z (by omega), fun z => absurd z (by omega), fun z => absurd z (by omega)⟩)
    rw [k4]; exact v2
  · -- m
    have hR := stF_m L
    unfold stM at hR
    have b1 := (nmF_b (B := B) 2 (p + 1) 0 (by omega)).1
    refine cls_num hN hB sc1 0 (by omega) 2 (by omega) (by omega) (fun σ2 s2 n2 => ⟨fun _ => fl (hR.trans (kN_no n2)) s2, fun q => absurd rfl q⟩) (fun σ2 s2 y2 v2 k2 f2 => ⟨fun q => absurd q (by omega), fun _ => ?_⟩)
    rw [kN_yes y2] at hR
    generalize nmF B 2 (p + 1) 0 = x at *
    have q2 := s2.2.1
    refine ⟨by rw [s2.n]; exact hN, by omega, ?_⟩
    rw [s2.by_ hB (by omega)]
    refine ⟨fun c σ4 e4 => ?_, fun c => fl (hR.trans (kS_no c)) s2⟩
    rw [kS_yes c] at hR
    have s4 := s2.sign
    rw [← e4] at s4
    have k4 : σ4 15 = σ2 15 := by rw [e4, u15]
    have b4 := (nmF_b (B := B) 1 (x.1 + 1) 0 (by omega)).1
    refine cls_num hN hB s4 1 (by omega) 1 (by omega) (by omega) (fun σ5 s5 n5 => ⟨fun _ => fl (hR.trans (kN_no n5)) s5, fun q => absurd rfl q⟩) (fun σ5 s5 y5 v5 k5 f5 => ⟨fun q => absurd q (by omega), fun _ => ?_⟩)
    rw [kN_yes y5] at hR
    generalize nmF B 1 (x.1 + 1) 0 = u at *
    have q5 := s5.2.1
    refine ⟨by rw [s5.n]; exact hN, by omega, ?_⟩
    rw [s5.by_ hB (by omega)]
    refine ⟨fun c2 σ6 e6 => ?_, fun c2 => fl (hR.trans (kS_no c2)) s5⟩
    rw [kS_yes c2] at hR
    have s6 := s5.sign
    rw [← e6] at s6
    have k6 : σ6 15 = σ5 15 := by rw [e6, u15]
    refine h σ6 1 _ _ _ _ _ hR s6 (fun _ => ⟨fun z => absurd z (by omega), fun z => absurd z (by omega), fun z => absurd z (by omega), fun _ => ?_⟩)
    refine ⟨?_, ?_⟩
    · rw [k6, k5 0 (by omega), k4]; exact v2
    · rw [k6]; exact v5
  · -- s
    have hR := stF_s L
    unfold stS at hR
    have b1 := (nmF_b (B := B) 1 (p + 1) 0 (by omega)).1
    refine cls_num hN hB sc1 0 (by omega) 1 (by omega) (by omega) (fun σ2 s2 n2 => ⟨fun _ => fl (hR.trans (kN_no n2)) s2, fun q => absurd rfl q⟩) (fun σ2 s2 y2 v2 k2 f2 => ⟨fun q => absurd q (by omega), fun _ => ?_⟩)
    rw [kN_yes y2] at hR
    generalize nmF B 1 (p + 1) 0 = x at *
    have b2 := (nmF_b (B := B) 1 x.1 0 (by omega)).1
    refine cls_num hN hB s2 1 (by omega) 1 (by omega) (by omega) (fun σ3 s3 n3 => ⟨fun _ => fl (hR.trans (kN_no n3)) s3, fun q => absurd rfl q⟩) (fun σ3 s3 y3 v3 k3 f3 => ⟨fun q => absurd q (by omega), fun _ => ?_⟩)
    rw [kN_yes y3] at hR
    generalize nmF B 1 x.1 0 = y at *
    have q3 := s3.2.1
    refine ⟨by rw [s3.n]; exact hN, by omega, ?_⟩
    rw [s3.by_ hB (by omega)]
    refine ⟨fun c σ4 e4 => ?_, fun c => fl (hR.trans (kS_no c)) s3⟩
    rw [kS_yes c] at hR
    have s4 := s3.sign
    rw [← e4] at s4
    have k4 : σ4 15 = σ3 15 := by rw [e4, u15]
    have b4 := (nmF_b (B := B) 2 (y.1 + 1) 0 (by omega)).1
    refine cls_num hN hB s4 2 (by omega) 2 (by omega) (by omega) (fun σ5 s5 n5 => ⟨fun _ => fl (hR.trans (kN_no n5)) s5, fun q => absurd rfl q⟩) (fun σ5 s5 y5 v5 k5 f5 => ⟨fun q => absurd q (by omega), fun _ => ?_⟩)
    rw [kN_yes y5] at hR
    generalize nmF B 2 (y.1 + 1) 0 = u at *
    refine qX3_broadOrNot hN hB s5 (by omega) (fun σ6 s6 v6 k6 => ⟨fun q => absurd q (by omega), fun _ => ?_⟩)
    have num : σ6 15 0 0 = x.2 ∧ σ6 15 0 1 = y.2 ∧ σ6 15 0 2 = u.2 := by
      refine ⟨?_, ?_, ?_⟩
      · rw [k6, k5 0 (by omega), k4, k3 0 (by omega)]; exact v2
      · rw [k6, k5 1 (by omega), k4]; exact v3
      · rw [k6]; exact v5
    have hR2 : stF B p = stSb B x.2 y.2 u.1 u.2 := hR
    unfold stSb at hR2
    have q6 := s6.2.1
    by_cases cb : B u.1 = 98
    · rw [if_pos cb] at s6 v6 hR2 q6
      refine ⟨by rw [s6.n]; exact hN, by omega, ?_⟩
      rw [s6.by_ hB (by omega)]
      refine ⟨fun c2 σ7 e7 => ?_, fun c2 => fl (hR2.trans (kS_no c2)) s6⟩
      rw [kS_yes c2] at hR2
      have s7 := s6.sign
      rw [← e7] at s7
      have k7 : σ7 15 = σ6 15 := by rw [e7, u15]
      refine h σ7 1 _ _ _ _ _ hR2 s7 (fun _ => ⟨fun z => absurd z (by omega), fun _ => ?_, fun z => absurd z (by omega), fun z => absurd z (by omega)⟩)
      rw [k7]
      refine ⟨num.1, num.2.1, num.2.2, ?_⟩
      rw [e7]; simp [zup]; exact v6
    · rw [if_neg cb] at s6 v6 hR2 q6
      refine ⟨by rw [s6.n]; exact hN, by omega, ?_⟩
      rw [s6.by_ hB (by omega)]
      refine ⟨fun c2 σ7 e7 => ?_, fun c2 => fl (hR2.trans (kS_no c2)) s6⟩
      rw [kS_yes c2] at hR2
      have s7 := s6.sign
      rw [← e7] at s7
      have k7 : σ7 15 = σ6 15 := by rw [e7, u15]
      refine h σ7 1 _ _ _ _ _ hR2 s7 (fun _ => ⟨fun z => absurd z (by omega), fun _ => ?_, fun z => absurd z (by omega), fun z => absurd z (by omega)⟩)
      rw [k7]
      refine ⟨num.1, num.2.1, num.2.2, ?_⟩
      rw [e7]; simp [zup]; exact v6
/-- the reference's -/
def SR (σ σ1 : Hp) (q : Int) : Prop := OffM [40] [8] σ σ1 ∧ σ1 34 0 8 = q
theorem SR.sign {σ σ1 : Hp} {q : Int} (h : SR σ σ1 q) : SR σ (zup σ1 34 0 8 (σ1 34 0 8 + 1)) (q + 1) := ⟨h.1.up34 (by decide), by simp [zup]; exact h.2⟩
theorem SR.put {σ σ1 : Hp} {q v : Int} {j : Nat} (h : SR σ σ1 q) : SR σ (zup σ1 40 0 j v) q := ⟨h.1.up (by decide), by rw [zup_ne (by intro z; cases z)]; exact h.2⟩
theorem SR.n {σ σ1 : Hp} {q : Int} (h : SR σ σ1 q) : σ1 34 0 7 = σ 34 0 7 := h.1.2 7 (by decide)
theorem SR.by_ {σ σ1 : Hp} {B : Int → Int} {q : Int} (hB : ∀ q, 0 ≤ q → byB (σ 39 0) (σ 34 0 7) q = B q) (h : SR σ σ1 q) (hq : 0 ≤ q) : zsign σ1 = B q := by
  have h2 := h.2
  rw [zsg (by omega), h.1.1 39 (by decide), h.n, h2]
  exact hB q hq
theorem ref_num {σ σ1 : Hp} {B : Int → Int} {q : Int} (hN : σ 34 0 7 ≤ 64) (hB : ∀ q, 0 ≤ q → byB (σ 39 0) (σ 34 0 7) q = B q) (h : SR σ σ1 q) (w : Nat) (hw : w < 4) (most : Nat) (hm : most ≤ 4) (q0 : 0 ≤ q ∧ q ≤ 900) (h0 : ∀ σ2, SR σ σ2 q → (nmF B most q 0).1 = q → K 0 σ2)
    (h1 : ∀ σ2, SR σ σ2 (nmF B most q 0).1 → ¬ (nmF B most q 0).1 = q → σ2 40 0 w = (nmF B most q 0).2 → (∀ j, j ≠ w → σ2 40 0 j = σ1 40 0 j) → K 1 σ2) : Runs 1 mX11_readsNumber 0 [zR 34 0, zI (w : Int), zI (most : Int), zU] [] σ1 (rI K) :=
  qX11_number (by rw [h.n]; exact hN) (fun q hq => by rw [h.1.1 39 (by decide), h.n]; exact hB q hq) hw hm h.2 q0 (fun σ2 c e => h0 σ2 ⟨h.1.tr c.1, c.2.1.trans e⟩ e) (fun σ2 c e => h1 σ2 ⟨h.1.tr c.1, c.2.1⟩ e c.2.2.1 c.2.2.2)
theorem qX11_readsStatement {σ : Hp} (hN : σ 34 0 7 ≤ 64) {B : Int → Int} (hB : ∀ q, 0 ≤ q → byB (σ 39 0) (σ 34 0 7) q = B q) {p : Int} (hp : σ 34 0 8 = p) (p0 : 0 ≤ p ∧ p ≤ 64)
    (h : ∀ σ' ok p' a b c d, stF B p = (ok, p', a, b, c, d) → SR σ σ' p' → (ok = 1 → vals (σ' 40 0) (σ' 40 0 3) (B p) a b c d) → K ok σ') : Runs 2 mX11_readsStatement 0 [zR 34 0, zU, zU] [] σ (rI K) := by
  have sc : SR σ σ p := ⟨OffM.rf, hp⟩
  have eb : zsign σ = B p := sc.by_ hB p0.1
  have fl : ∀ {σ' : Hp} {q' : Int}, stF B p = failP q' → SR σ σ' q' → K 0 σ' := fun {σ'} {q'} e s' => h σ' 0 q' 0 0 0 0 e s' (fun z => absurd z (by omega))
  have u40 : ∀ (σ2 : Hp) (j : Nat) (v : Int), (zup σ2 34 0 j v) 40 = σ2 40 := fun σ2 j v => by
    funext i'
    rw [zup_ne (by intro z; cases z)]
  have sc1 := sc.sign
  have body : (B p = 107 ∨ B p = 115 ∨ B p = 101 ∨ B p = 109) → Runs 2 mX11_readsStatement 31 [zR 34 0, zI (B p), zU] [] σ (rI K) := fun hL => by
    refine gX11_readsStatement_31 (B p) σ ⟨by omega, fun L => ?_, fun L => ?_, fun L => ?_, fun L => ?_⟩
    · -- e
      have hR := stF_e L
      unfold stE at hR
      have b1 := (nmF_b (B := B) 1 (p + 1) 0 (by omega)).1
      refine ref_num hN hB sc1 0 (by omega) 1 (by omega) (by omega) (fun σ2 s2 n2 => ⟨fun _ => fl (hR.trans (kN_no n2)) s2, fun q => absurd rfl q⟩) (fun σ2 s2 y2 v2 k2 => ⟨fun q => absurd q (by omega), fun _ => ?_⟩)
      rw [kN_yes y2] at hR
      generalize nmF B 1 (p + 1) 0 = x at *
      have b2 := (nmF_b (B := B) 1 x.1 0 (by omega)).1
      refine ref_num hN hB s2 1 (by omega) 1 (by omega) (by omega) (fun σ3 s3 n3 => ⟨fun _ => fl (hR.trans (kN_no n3)) s3, fun q => absurd rfl q⟩) (fun σ3 s3 y3 v3 k3 => ⟨fun q => absurd q (by omega), fun _ => ?_⟩)
      rw [kN_yes y3] at hR
      generalize nmF B 1 x.1 0 = y at *
      have q3 := s3.2
      have n3 := s3.n
      refine ⟨by omega, by omega, ?_⟩
      rw [s3.by_ hB (by omega)]
      refine ⟨fun c σ4 e4 => ?_, fun c => fl (hR.trans (kS_no c)) s3⟩
      rw [kS_yes c] at hR
      have s4 := s3.sign
      rw [← e4] at s4
      have k4 : σ4 40 = σ3 40 := by rw [e4, u40]
      have b4 := (nmF_b (B := B) 4 (y.1 + 1) 0 (by omega)).1
      refine ref_num hN hB s4 2 (by omega) 4 (by omega) (by omega) (fun σ5 s5 n5 => ⟨fun _ => fl (hR.trans (kN_no n5)) s5, fun q => absurd rfl q⟩) (fun σ5 s5 y5 v5 k5 => ⟨fun q => absurd q (by omega), fun _ => ?_⟩)
      rw [kN_yes y5] at hR
      generalize nmF B 4 (y.1 + 1) 0 = u at *
      have q5 := s5.2
      have n5 := s5.n
      refine ⟨by omega, by omega, ?_⟩
      rw [s5.by_ hB (by omega)]
      refine ⟨fun c2 σ6 e6 => ?_, fun c2 => fl (hR.trans (kS_no c2)) s5⟩
      rw [kS_yes c2] at hR
      have s6 := s5.sign
      rw [← e6] at s6
      have k6 : σ6 40 = σ5 40 := by rw [e6, u40]
      have b6 := (nmF_b (B := B) 1 (u.1 + 1) 0 (by omega)).1
      refine ref_num hN hB s6 3 (by omega) 1 (by omega) (by omega) (fun σ7 s7 n7 => ⟨fun _ => fl (hR.trans (kN_no n7)) s7, fun q => absurd rfl q⟩) (fun σ7 s7 y7 v7 k7 => ⟨fun q => absurd q (by omega), fun _ => ?_⟩)
      rw [kN_yes y7] at hR
      generalize nmF B 1 (u.1 + 1) 0 = t at *
      have q7 := s7.2
      have n7 := s7.n
      refine ⟨by omega, by omega, ?_⟩
      rw [s7.by_ hB (by omega)]
      refine ⟨fun c3 σ8 e8 => ?_, fun c3 => fl (hR.trans (kS_no c3)) s7⟩
      rw [kS_yes c3] at hR
      have s8 := s7.sign
      rw [← e8] at s8
      have k8 : σ8 40 = σ7 40 := by rw [e8, u40]
      refine h σ8 1 _ _ _ _ _ hR s8 (fun _ => ⟨fun z => absurd z (by omega), fun z => absurd z (by omega), fun _ => ?_, fun z => absurd z (by omega)⟩)
      refine ⟨?_, ?_, ?_, ?_⟩
      · rw [k8, k7 0 (by omega), k6, k5 0 (by omega), k4, k3 0 (by omega)]; exact v2
      · rw [k8, k7 1 (by omega), k6, k5 1 (by omega), k4]; exact v3
      · rw [k8, k7 2 (by omega), k6]; exact v5
      · rw [k8]; exact v7
    · -- k
      have hR := stF_k L
      unfold stK at hR
      have b1 := (nmF_b (B := B) 2 (p + 1) 0 (by omega)).1
      refine ref_num hN hB sc1 0 (by omega) 2 (by omega) (by omega) (fun σ2 s2 n2 => ⟨fun _ => fl (hR.trans (kN_no n2)) s2, fun q => absurd rfl q⟩) (fun σ2 s2 y2 v2 k2 => ⟨fun q => absurd q (by omega), fun _ => ?_⟩)
      rw [kN_yes y2] at hR
      generalize nmF B 2 (p + 1) 0 = x at *
      have q2 := s2.2
      have n2 := s2.n
      refine ⟨by omega, by omega, ?_⟩
      rw [s2.by_ hB (by omega)]
      refine ⟨fun c σ4 e4 => ?_, fun c => fl (hR.trans (kS_no c)) s2⟩
      rw [kS_yes c] at hR
      have s4 := s2.sign
      rw [← e4] at s4
      have k4 : σ4 40 = σ2 40 := by rw [e4, u40]
      refine h σ4 1 _ _ _ _ _ hR s4 (fun _ => ⟨fun _ => ?_, fun z => absurd z (by omega), fun z => absurd z (by omega), fun z => absurd z (by omega)⟩)
      rw [k4]; exact v2
    · -- s
      have hR := stF_s L
      unfold stS at hR
      have e130 : ∀ {σ' : Hp} {q' : Int}, stF B p = failP q' → SR σ σ' q' → Runs 2 mX11_readsStatement 130 [zR 34 0, zU, zU] [] σ' (rI K) := fun {σ'} {q'} e s' => gX11_readsStatement_130 σ' (fl e s'.put)
      have b1 := (nmF_b (B := B) 1 (p + 1) 0 (by omega)).1
      refine ref_num hN hB sc1 0 (by omega) 1 (by omega) (by omega) (fun σ2 s2 n2 => ⟨fun _ => e130 (hR.trans (kN_no n2)) s2, fun q => absurd rfl q⟩) (fun σ2 s2 y2 v2 k2 => ⟨fun q => absurd q (by omega), fun _ => ?_⟩)
      rw [kN_yes y2] at hR
      generalize nmF B 1 (p + 1) 0 = x at *
      have b2 := (nmF_b (B := B) 1 x.1 0 (by omega)).1
      refine ref_num hN hB s2 1 (by omega) 1 (by omega) (by omega) (fun σ3 s3 n3 => ⟨fun _ => e130 (hR.trans (kN_no n3)) s3, fun q => absurd rfl q⟩) (fun σ3 s3 y3 v3 k3 => ⟨fun q => absurd q (by omega), fun _ => ?_⟩)
      rw [kN_yes y3] at hR
      generalize nmF B 1 x.1 0 = y at *
      have q3 := s3.2
      have n3 := s3.n
      refine ⟨by omega, by omega, ?_⟩
      rw [s3.by_ hB (by omega)]
      refine ⟨fun c σ4 e4 => ?_, fun c => e130 (hR.trans (kS_no c)) s3⟩
      rw [kS_yes c] at hR
      have s4 := s3.sign
      rw [← e4] at s4
      have k4 : σ4 40 = σ3 40 := by rw [e4, u40]
      have b4 := (nmF_b (B := B) 2 (y.1 + 1) 0 (by omega)).1
      refine ref_num hN hB s4 2 (by omega) 2 (by omega) (by omega) (fun σ5 s5 n5 => ⟨fun _ => e130 (hR.trans (kN_no n5)) s5, fun q => absurd rfl q⟩) (fun σ5 s5 y5 v5 k5 => ⟨fun q => absurd q (by omega), fun _ => ?_⟩)
      rw [kN_yes y5] at hR
      generalize nmF B 2 (y.1 + 1) 0 = u at *
      have hR2 : stF B p = stSb B x.2 y.2 u.1 u.2 := hR
      unfold stSb at hR2
      have q5 := s5.2
      have n5 := s5.n
      have num : ∀ (σ6 : Hp), (∀ j, j < 3 → σ6 40 0 j = σ5 40 0 j) → σ6 40 0 0 = x.2 ∧ σ6 40 0 1 = y.2 ∧ σ6 40 0 2 = u.2 := fun σ6 hk => by
        refine ⟨?_, ?_, ?_⟩
        · rw [hk 0 (by omega), k5 0 (by omega), k4, k3 0 (by omega)]; exact v2
        · rw [hk 1 (by omega), k5 1 (by omega), k4]; exact v3
        · rw [hk 2 (by omega)]; exact v5
      refine ⟨by omega, by omega, ?_⟩
      rw [s5.by_ hB (by omega)]
      refine ⟨fun cb σ6 e6 => ?_, fun cb => ?_⟩
      · rw [if_pos cb] at hR2
        have s6 := s5.sign
        rw [← e6] at s6
        have s6b := s6.put (j := 3) (v := 1)
        have q6 := s6b.2
        have n6 := s6b.n
        refine ⟨by omega, by omega, ?_⟩
        rw [s6b.by_ hB (by omega)]
        refine ⟨fun c2 σ7 e7 => ?_, fun c2 => fl (hR2.trans (kS_no c2)) s6b⟩
        rw [kS_yes c2] at hR2
        have s7 := s6b.sign
        rw [← e7] at s7
        have k7 : ∀ j, j < 3 → σ7 40 0 j = σ5 40 0 j := fun j hj => by
          rw [e7, u40]
          have hne : j ≠ 3 := by omega
          simp only [zup]
          simp [hne]
          rw [e6, u40]
        refine h σ7 1 _ _ _ _ _ hR2 s7 (fun _ => ⟨fun z => absurd z (by omega), fun _ => ?_, fun z => absurd z (by omega), fun z => absurd z (by omega)⟩)
        obtain ⟨w1, w2, w3⟩ := num σ7 k7
        refine ⟨w1, w2, w3, ?_⟩
        rw [e7, u40]; simp [zup]
      · rw [if_neg cb] at hR2
        have s6b := s5.put (j := 3) (v := 0)
        have q6 := s6b.2
        have n6 := s6b.n
        refine ⟨by omega, by omega, ?_⟩
        rw [s6b.by_ hB (by omega)]
        refine ⟨fun c2 σ7 e7 => ?_, fun c2 => fl (hR2.trans (kS_no c2)) s6b⟩
        rw [kS_yes c2] at hR2
        have s7 := s6b.sign
        rw [← e7] at s7
        have k7 : ∀ j, j < 3 → σ7 40 0 j = σ5 40 0 j := fun j hj => by
          rw [e7, u40]
          have hne : j ≠ 3 := by omega
          simp only [zup]
          simp [hne]
        refine h σ7 1 _ _ _ _ _ hR2 s7 (fun _ => ⟨fun z => absurd z (by omega), fun _ => ?_, fun z => absurd z (by omega), fun z => absurd z (by omega)⟩)
        obtain ⟨w1, w2, w3⟩ := num σ7 k7
        refine ⟨w1, w2, w3, ?_⟩
        rw [e7, u40]; simp [zup]
    · -- m
      have L4 : B p = 109 := by omega
      have hR := stF_m L4
      unfold stM at hR
      have b1 := (nmF_b (B := B) 2 (p + 1) 0 (by omega)).1
      refine ref_num hN hB sc1 0 (by omega) 2 (by omega) (by omega) (fun σ2 s2 n2 => ⟨fun _ => fl (hR.trans (kN_no n2)) s2, fun q => absurd rfl q⟩) (fun σ2 s2 y2 v2 k2 => ⟨fun q => absurd q (by omega), fun _ => ?_⟩)
      rw [kN_yes y2] at hR
      generalize nmF B 2 (p + 1) 0 = x at *
      have q2 := s2.2
      have n2 := s2.n
      refine ⟨by omega, by omega, ?_⟩
      rw [s2.by_ hB (by omega)]
      refine ⟨fun c σ4 e4 => ?_, fun c => fl (hR.trans (kS_no c)) s2⟩
      rw [kS_yes c] at hR
      have s4 := s2.sign
      rw [← e4] at s4
      have k4 : σ4 40 = σ2 40 := by rw [e4, u40]
      have b4 := (nmF_b (B := B) 1 (x.1 + 1) 0 (by omega)).1
      refine ref_num hN hB s4 1 (by omega) 1 (by omega) (by omega) (fun σ5 s5 n5 => ⟨fun _ => fl (hR.trans (kN_no n5)) s5, fun q => absurd rfl q⟩) (fun σ5 s5 y5 v5 k5 => ⟨fun q => absurd q (by omega), fun _ => ?_⟩)
      rw [kN_yes y5] at hR
      generalize nmF B 1 (x.1 + 1) 0 = u at *
      have q5 := s5.2
      have n5 := s5.n
      refine ⟨by omega, by omega, ?_⟩
      rw [s5.by_ hB (by omega)]
      refine ⟨fun c2 σ6 e6 => ?_, fun c2 => fl (hR.trans (kS_no c2)) s5⟩
      rw [kS_yes c2] at hR
      have s6 := s5.sign
      rw [← e6] at s6
      have k6 : σ6 40 = σ5 40 := by rw [e6, u40]
      refine h σ6 1 _ _ _ _ _ hR s6 (fun _ => ⟨fun z => absurd z (by omega), fun z => absurd z (by omega), fun z => absurd z (by omega), fun _ => ?_⟩)
      refine ⟨?_, ?_⟩
      · rw [k6, k5 0 (by omega), k4]; exact v2
      · rw [k6]; exact v5
  refine gX11_readsStatement_0 σ ⟨by omega, ?_⟩
  rw [eb]
  refine ⟨fun c => body (Or.inl c), fun c1 => ⟨fun c => body (Or.inr (Or.inl c)), fun c2 => ⟨fun c => body (Or.inr (Or.inr (Or.inl c))), fun c3 => ⟨fun c => body (Or.inr (Or.inr (Or.inr c))), fun c4 => fl (stF_no c1 c2 c3 c4) sc⟩⟩⟩⟩
end Stmt
