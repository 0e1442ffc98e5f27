/-! a text becomes a town -/
theorem cRes_hi {L a b c d : Int} {r : Nat → Int} (hw : WF r) (hb : vbd L a b c d) (h : cOK L a b c d r) (hh : ∀ j, 123 ≤ j → r j = 0) : ∀ j, 123 ≤ j → cRes L a b c d r j = 0 := by
  intro j hj
  have w1 := hw.2.1
  have w2 := hw.2.2.1
  obtain ⟨b1, b2, b3, b4, b5, b6⟩ := hb
  unfold cRes
  rcases h with ⟨h1, h2, h3, h4⟩ | ⟨h1, h2, h3, h4, h5⟩ | ⟨h1, h2, h3, h4, h5⟩ | ⟨h1, h2, h3⟩
  · rw [if_pos h1, su_ne (by omega)]; exact hh j hj
  · rw [if_neg (by omega), if_pos h1, pst_hi hw h5 (Or.inl (by omega))]; exact hh j hj
  · rw [if_neg (by omega), if_neg (by omega), if_pos h1, per_lo hw h5 (Or.inr (by omega))]; exact hh j hj
  · rw [if_neg (by omega), if_neg (by omega), if_neg (by omega), su_ne (by omega)]; exact hh j hj
theorem swF_step {B : Int → Int} {N : Int} {f : Nat} {p c : Int} (h : 0 ≤ swF B N (f + 1) p c) (hp : 0 ≤ p) : (stF B p).1 = 1 ∧ p < (stF B p).2.1 ∧ (B p = 107 ∨ B p = 115 ∨ B p = 101 ∨ B p = 109) ∧ vbd (B p) (stF B p).2.2.1 (stF B p).2.2.2.1 (stF B p).2.2.2.2.1 (stF B p).2.2.2.2.2 ∧ ((N ≤ (stF B p).2.1 ∧ swF B N (f + 1) p c = c + 1) ∨ ((stF B p).2.1 < N ∧ swF B N (f + 1) p c = swF B N f (stF B p).2.1 (c + 1))) := by
  have sp := stF_P B p
  unfold stP at sp
  have e : swF B N (f + 1) p c = if (stF B p).1 = 1 then (if N ≤ (stF B p).2.1 then c + 1 else swF B N f (stF B p).2.1 (c + 1)) else -1000 - (stF B p).2.1 := rfl
  rw [e] at h ⊢
  by_cases q : (stF B p).1 = 1
  · rw [if_pos q] at h ⊢
    have s2 := sp.2.resolve_left (by omega)
    refine ⟨q, s2.2.1, s2.2.2.1, s2.2.2.2, ?_⟩
    by_cases z : N ≤ (stF B p).2.1
    · rw [if_pos z]; exact Or.inl ⟨z, rfl⟩
    · rw [if_neg z]; exact Or.inr ⟨by omega, rfl⟩
  · rw [if_neg q] at h
    omega
theorem upF_ok {B : Int → Int} {N : Int} : ∀ (f : Nat) (p c : Int) (r : Nat → Int), 0 ≤ p → WF r → (∀ j, 123 ≤ j → r j = 0) → (N ≤ p ∨ 0 ≤ swF B N f p c) → WF (upF B N f p r).2 ∧ ∀ j, 123 ≤ j → (upF B N f p r).2 j = 0
  | 0, p, c, r, _, hw, hh, _ => ⟨hw, hh⟩
  | f + 1, p, c, r, hp, hw, hh, hs => by
    unfold upF
    by_cases q : N ≤ p
    · rw [if_pos q]; exact ⟨hw, hh⟩
    · rw [if_neg q]
      obtain ⟨a1, a2, a3, a4, a5⟩ := swF_step (hs.resolve_left q) hp
      by_cases z : cOK (B p) (stF B p).2.2.1 (stF B p).2.2.2.1 (stF B p).2.2.2.2.1 (stF B p).2.2.2.2.2 r
      · rw [if_pos z]
        have s := hs.resolve_left q
        exact upF_ok f (stF B p).2.1 (c + 1) _ (by omega) (WF_cRes hw a4 z) (cRes_hi hw a4 z hh) (by
          rcases a5 with y | y
          · exact Or.inl y.1
          · exact Or.inr (by rw [← y.2]; exact s))
      · rw [if_neg z]; exact ⟨hw, hh⟩
theorem rdF_ok {B : Int → Int} {N : Int} {r : Nat → Int} (hw : WF r) (hh : ∀ j, 123 ≤ j → r j = 0) : WF (rdF B N r).2 ∧ ∀ j, 123 ≤ j → (rdF B N r).2 j = 0 := by
  unfold rdF
  by_cases q : swF B N 65 0 0 < 0
  · rw [if_pos q]; exact ⟨hw, hh⟩
  · rw [if_neg q]
    by_cases z : (upF B N 65 0 r).1 < 0
    · rw [if_pos z]; exact ⟨hw, hh⟩
    · rw [if_neg z]
      exact upF_ok 65 0 0 r (Int.le_refl 0) hw hh (Or.inr (by omega))
theorem upF_01 {B : Int → Int} {N : Int} : ∀ (f : Nat) (p : Int) (r : Nat → Int), 0 ≤ p → (upF B N f p r).1 = 0 ∨ (upF B N f p r).1 < 0
  | 0, _, _, _ => Or.inl rfl
  | f + 1, p, r, hp => by
    have sp := stF_P B p
    unfold stP at sp
    unfold upF
    by_cases q : N ≤ p
    · rw [if_pos q]; exact Or.inl rfl
    · rw [if_neg q]
      by_cases z : cOK (B p) (stF B p).2.2.1 (stF B p).2.2.2.1 (stF B p).2.2.2.2.1 (stF B p).2.2.2.2.2 r
      · rw [if_pos z]; exact upF_01 f _ _ (by omega)
      · rw [if_neg z]
        exact Or.inr (by show -2000 - p < 0; omega)
section Reads
variable {K : Int → Hp → Prop} {K' : Hp → Prop} {B : Int → Int} {N : Int}
theorem qX3_rs {σ : Hp} (hN : σ 12 0 1 ≤ 64) (hB : ∀ q, 0 ≤ q → zbyte σ q = B q) {p : Int} (hp : σ 14 0 2 = p) (p0 : 0 ≤ p ∧ p ≤ 64) (h : ∀ σ', SC σ σ' B p (stF B p).2.1 → ((stF B p).1 = 1 → vals (σ' 15 0) (σ' 14 0 6) (B p) (stF B p).2.2.1 (stF B p).2.2.2.1 (stF B p).2.2.2.2.1 (stF B p).2.2.2.2.2) → K (stF B p).1 σ') : Runs 3 mX3_readStatement 0 [zR 14 0] [] σ (rI K) :=
  qX3_readStatement hN hB hp p0 (fun σ' ok p' a b c d e s v => by
    have := h σ'
    rw [e] at this
    exact this s v)
theorem qX11_rs {σ : Hp} (hN : σ 34 0 7 ≤ 64) (hB : ∀ q, 0 ≤ q → byB (σ 39 0) (σ 34 0 7) q = B q) {p : Int} (hp : σ 34 0 8 = p) (p0 : 0 ≤ p ∧ p ≤ 64) (h : ∀ σ', SR σ σ' (stF B p).2.1 → ((stF B p).1 = 1 → vals (σ' 40 0) (σ' 40 0 3) (B p) (stF B p).2.2.1 (stF B p).2.2.2.1 (stF B p).2.2.2.2.1 (stF B p).2.2.2.2.2) → K (stF B p).1 σ') : Runs 2 mX11_readsStatement 0 [zR 34 0, zU, zU] [] σ (rI K) :=
  qX11_readsStatement hN hB hp p0 (fun σ' ok p' a b c d e s v => by
    have := h σ'
    rw [e] at this
    exact this s v)
theorem qX3_statementsWritten {σ : Hp} (hN : 0 ≤ N ∧ N ≤ 64) (eN : σ 12 0 1 = N) (hB : ∀ q, 0 ≤ q → zbyte σ q = B q) (h : ∀ σ', Off [14, 15] σ σ' → K (swF B N 65 0 0) σ') : Runs 4 mX3_statementsWritten 0 [zR 14 0, zU] [] σ (rI K) := by
  generalize hS : swF B N 65 0 0 = S at h
  have loop : ∀ (f : Nat) (c p : Int) (σ1 : Hp), (f : Int) + c = 65 → Off [14, 15] σ σ1 → σ1 14 0 2 = p → (0 ≤ c ∧ c ≤ p ∧ c ≤ 64) → (((c = 0 ∧ p = 0) ∨ (1 ≤ c ∧ p < N)) ∧ swF B N f p c = S) ∨ (1 ≤ c ∧ N ≤ p ∧ c = S) → Runs 4 mX3_statementsWritten 7 [zR 14 0, zI c] [] σ1 (rI K) := by
    intro f
    induction f with
    | zero => intro c p σ1 hf; omega
    | succ f ih =>
      intro c p σ1 hf o1 e1 hc hI
      have n1 : σ1 12 0 1 = N := by rw [o1 12 (by decide)]; exact eN
      have rd : swF B N (f + 1) p c = S → (0 ≤ p ∧ p ≤ 64) → (c ≤ 63) → Runs 3 mX3_readStatement 0 [zR 14 0] [] σ1 (rI (fun z2 σ2 => ((¬ z2 = 0 → (-2147483648 ≤ c + 1 ∧ c + 1 ≤ 2147483647) ∧ Runs 4 mX3_statementsWritten 7 [zR 14 0, zI (c + 1)] [] σ2 (rI K)) ∧ (z2 = 0 → (-2147483648 ≤ (-1000) - (σ2 14 0 2) ∧ (-1000) - (σ2 14 0 2) ≤ 2147483647) ∧ rI K (some ((-1000) - (σ2 14 0 2))) σ2)))) := fun hs hp hc2 => by
        refine qX3_rs (B := B) (by omega) (fun q hq => by rw [zby o1]; exact hB q hq) e1 hp (fun σ2 s2 _ => ?_)
        have sp := stF_P B p
        unfold stP at sp
        unfold swF at hs
        have e2 := s2.2.1
        have o2 := o1.tr s2.1
        refine ⟨fun c1 => ⟨by omega, ?_⟩, fun c1 => ⟨by omega, ?_⟩⟩
        · have q1 := sp.2.resolve_left c1
          rw [if_pos q1.1] at hs
          refine ih (c + 1) (stF B p).2.1 σ2 (by omega) o2 e2 (by omega) ?_
          by_cases z : N ≤ (stF B p).2.1
          · rw [if_pos z] at hs
            exact Or.inr ⟨by omega, z, hs⟩
          · rw [if_neg z] at hs
            exact Or.inl ⟨Or.inr ⟨by omega, by omega⟩, hs⟩
        · rw [if_neg (by omega)] at hs
          rw [e2, hs]
          exact h σ2 o2
      refine gX3_statementsWritten_7 c σ1 ⟨fun q => absurd q (by omega), fun _ => ⟨fun c1 => ?_, fun c1 => ⟨fun c2 => ?_, fun c2 => ?_⟩⟩⟩
      · rcases hI with ⟨z1, z2⟩ | z
        · exact rd z2 (by omega) (by omega)
        · omega
      · rcases hI with ⟨z1, z2⟩ | z
        · exact rd z2 (by omega) (by omega)
        · omega
      · rcases hI with ⟨z1, z2⟩ | z
        · omega
        · rw [z.2.2]; exact h σ1 o1
  refine gX3_statementsWritten_0 σ (loop 65 0 0 _ (by omega) (Off.rf.up (by decide)) (by simp [zup]) (by omega) (Or.inl ⟨Or.inl ⟨rfl, rfl⟩, hS⟩))
/-- the class's: town 0 becomes what the tape tells -/
theorem qX3_readInto {σ : Hp} {r : Nat → Int} (hN : 0 ≤ N ∧ N ≤ 64) (eN : σ 12 0 1 = N) (hB : ∀ q, 0 ≤ q → zbyte σ q = B q) (ht : TW σ 0 r) (hw : WF r)
    (h : ∀ σ', Off [1, 2, 3, 4, 5, 6, 7, 8, 9, 10, 11, 14, 15] σ σ' → (∀ g, g < 12 → σ' g 1 = σ g 1) → TW σ' 0 (rdF B N r).2 → K (rdF B N r).1 σ') : Runs 5 mX3_readInto 0 [zR 14 0, zR 1 0, zU, zU] [] σ (rI K) := by
  refine gX3_readInto_0 σ (qX3_statementsWritten hN eN hB (fun σ1 o1 => ?_))
  unfold rdF at h
  have t1 : TW σ1 0 r := ht.keep (fun g hg _ => by rw [o1 g (by intro q; simp at q; omega)])
  generalize hS : swF B N 65 0 0 = S at *
  generalize hU : upF B N 65 0 r = U at *
  refine ⟨fun c => ?_, fun c => ?_⟩
  · rw [if_neg (by omega)] at h
    refine qX6_take20 t1 hw (fun σ2 o2 t2 => ?_)
    have t20 : TW σ2 0 r := t1.keep (fun g hg _ => o2.2 g 0 (by omega))
    have off : ∀ σ3, OffW 2 σ1 σ3 → Off [1, 2, 3, 4, 5, 6, 7, 8, 9, 10, 11, 14, 15] σ σ3 ∧ ∀ g, g < 12 → σ3 g 1 = σ g 1 := fun σ3 o3 => ⟨(o1.mono (by decide)).tr (o3.1.mono (by decide)), fun g hg => by rw [o3.2 g 1 (by omega), o1 g (by intro q; simp at q; omega)]⟩
    have loop : ∀ (f : Nat) (i p : Int) (q : Nat → Int) (σ3 : Hp), Off [1, 2, 3, 4, 5, 6, 7, 8, 9, 10, 11, 14, 15] σ σ3 → (∀ g, g < 12 → σ3 g 1 = σ g 1) → TW σ3 2 q → TW σ3 0 r → WF q → σ3 14 0 2 = p → 0 ≤ p → (0 ≤ i ∧ i ≤ p) → ((N ≤ p ∧ i = S) ∨ (p < N ∧ swF B N f p i = S)) → upF B N f p q = U → Runs 5 mX3_readInto 26 [zR 14 0, zR 1 0, zI S, zI i] [] σ3 (rI K) := by
      intro f
      have fin : ∀ (i p : Int) (q : Nat → Int) (σ3 : Hp), Off [1, 2, 3, 4, 5, 6, 7, 8, 9, 10, 11, 14, 15] σ σ3 → (∀ g, g < 12 → σ3 g 1 = σ g 1) → TW σ3 2 q → WF q → i = S → U = (0, q) → Runs 5 mX3_readInto 26 [zR 14 0, zR 1 0, zI S, zI i] [] σ3 (rI K) := fun i p q σ3 o3 k3 t3 w3 ei eU => by
        refine gX3_readInto_26 S i σ3 ⟨fun _ => ?_, fun z => absurd (by omega) z⟩
        refine qX6_take02 t3 w3 (fun σ4 o4 t4 => ?_)
        rw [eU] at h
        rw [if_neg (by show ¬ (0 : Int) < 0; omega)] at h
        exact h σ4 (o3.tr (o4.1.mono (by decide))) (fun g hg => by rw [o4.2 g 1 (by omega)]; exact k3 g hg) t4
      induction f with
      | zero =>
        intro i p q σ3 o3 k3 t3 _ w3 e3 hp hi hI hu
        have hge : N ≤ p ∧ i = S := by
          rcases hI with z | z
          · exact z
          · have z2 := z.2
            unfold swF at z2
            omega
        unfold upF at hu
        exact fin i p q σ3 o3 k3 t3 w3 hge.2 hu.symm
      | succ f ih =>
        intro i p q σ3 o3 k3 t3 t30 w3 e3 hp hi hI hu
        by_cases c1 : N ≤ p
        · have hge : i = S := by
            rcases hI with z | z
            · exact z.2
            · omega
          unfold upF at hu
          rw [if_pos c1] at hu
          exact fin i p q σ3 o3 k3 t3 w3 hge hu.symm
        · have hs : swF B N (f + 1) p i = S := by
            rcases hI with z | z
            · omega
            · exact z.2
          obtain ⟨a1, a2, a3, a4, a5⟩ := swF_step (B := B) (N := N) (f := f) (p := p) (c := i) (by omega) hp
          have ge := swF_ge (B := B) (N := N) (f + 1) p i hp hi.1
          unfold upF at hu
          rw [if_neg c1] at hu
          have n3 : σ3 12 0 1 = N := by rw [o3 12 (by decide)]; exact eN
          refine gX3_readInto_26 S i σ3 ⟨fun z => absurd z (by omega), fun _ => ?_⟩
          refine qX3_rs (B := B) (by omega) (fun q hq => by
            have : zbyte σ3 q = zbyte σ q := by unfold zbyte; rw [o3 12 (by decide), o3 13 (by decide)]
            rw [this]; exact hB q hq) e3 (by omega) (fun σ4 s4 v4 => ?_)
          rw [a1]
          have v4 := v4 a1
          refine ⟨fun z => absurd z (by omega), fun _ => ?_⟩
          have o4 := o3.tr (s4.1.mono (by decide) : Off [1, 2, 3, 4, 5, 6, 7, 8, 9, 10, 11, 14, 15] σ3 σ4)
          have k4 : ∀ g, g < 12 → σ4 g 1 = σ g 1 := fun g hg => by rw [s4.1 g (by intro q; simp at q; omega)]; exact k3 g hg
          have t4 : TW σ4 2 q := t3.keep (fun g hg _ => by rw [s4.1 g (by intro q; simp at q; omega)])
          have t40 : TW σ4 0 r := t30.keep (fun g hg _ => by rw [s4.1 g (by intro q; simp at q; omega)])
          refine qX3_tell t4 w3 s4.2.2.1 v4 a4 a3 (fun σ5 o5 c5 t5 => ⟨fun _ => ⟨by omega, ?_⟩, fun z => absurd z (by omega)⟩) (fun c5 => ⟨fun z => absurd rfl z, fun _ => ⟨?_, ?_⟩⟩)
          · rw [if_pos c5] at hu
            refine ih (i + 1) (stF B p).2.1 _ σ5 (o4.tr (o5.1.mono (by decide))) (fun g hg => by rw [o5.2 g 1 (by omega)]; exact k4 g hg) t5 (t40.keep (fun g hg _ => o5.2 g 0 (by omega))) (WF_cRes w3 a4 c5) (by rw [o5.1 14 (by decide)]; exact s4.2.1) (by omega) (by omega) ?_ hu
            rcases a5 with y | y
            · exact Or.inl ⟨y.1, by omega⟩
            · exact Or.inr ⟨y.1, by omega⟩
          · rw [s4.2.2.2]; omega
          · rw [if_neg c5] at hu
            rw [s4.2.2.2]
            rw [← hu] at h
            rw [if_pos (by show -2000 - p < 0; omega)] at h
            exact h σ4 o4 k4 t40
    have ze : ∀ (σ3 : Hp) (v : Int) (g i : Nat), g < 12 → (zup σ3 14 0 2 v) g i = σ3 g i := fun σ3 v g i hg => zup_ne (by intro q; cases q; omega)
    have oo := off σ2 o2
    refine loop 65 0 0 r _ (oo.1.up (by decide)) (fun g hg => by rw [ze _ _ g 1 hg]; exact oo.2 g hg) (t2.keep (fun g hg _ => ze _ _ g 2 hg)) (t20.keep (fun g hg _ => ze _ _ g 0 hg)) hw (by simp [zup]) (Int.le_refl 0) ⟨Int.le_refl 0, Int.le_refl 0⟩ ?_ hU
    by_cases q : N ≤ 0
    · exfalso
      -- an empty tape has no statement
      have b0 : B 0 = -1 := by
        rw [← hB 0 (Int.le_refl 0)]
        unfold zbyte
        rw [if_neg (by omega)]
      have e0 : stF B 0 = failP 0 := stF_no (by omega) (by omega) (by omega) (by omega)
      have : swF B N 65 0 0 = -1000 - 0 := by
        show (if (stF B 0).1 = 1 then _ else _) = _
        rw [e0]
        rfl
      omega
    · exact Or.inr ⟨by omega, hS⟩
  · rw [if_pos (by omega)] at h
    exact h σ1 (o1.mono (by decide)) (fun g hg => by rw [o1 g (by intro q; simp at q; omega)]) t1
/-- the reference's -/
theorem qX11_reads {σ : Hp} {r : Nat → Int} (hN : 0 ≤ N ∧ N ≤ 64) (eN : σ 34 0 7 = N) (hB : ∀ q, 0 ≤ q → byB (σ 39 0) (σ 34 0 7) q = B q) (hs : σ 36 0 = r) (hw : WF r) (hh : ∀ j, 123 ≤ j → r j = 0) (hh8 : ∀ j, 123 ≤ j → σ 38 0 j = 0)
    (h : ∀ σ', OffM [36, 38, 40] [8] σ σ' → σ' 36 0 = (rdF B N r).2 → (∀ j, 123 ≤ j → σ' 38 0 j = 0) → K (rdF B N r).1 σ') : Runs 3 mX11_reads 0 [zR 34 0, zU, zU, zU, zU] [] σ (rI K) := by
  unfold rdF at h
  have hUok : 0 ≤ swF B N 65 0 0 → WF (upF B N 65 0 r).2 ∧ ∀ j, 123 ≤ j → (upF B N 65 0 r).2 j = 0 := fun q => upF_ok 65 0 0 r (Int.le_refl 0) hw hh (Or.inr q)
  have hU01 := upF_01 (B := B) (N := N) 65 0 r (Int.le_refl 0)
  generalize hS : swF B N 65 0 0 = S at *
  generalize hU : upF B N 65 0 r = U at *
  -- the last copy
  have last : ∀ σ1, 0 ≤ S → OffM [36, 38, 40] [8] σ σ1 → σ1 36 0 = r → σ1 38 0 = U.2 → U.1 = 0 → Runs 3 mX11_reads 114 [zR 34 0, zI S, zI 0, zU, zU] [] σ1 (rI K) := fun σ1 hS0 o1 e36 e38 u0 => by
    obtain ⟨uw, uh⟩ := hUok hS0
    rw [if_neg (by omega), if_neg (by omega)] at h
    refine upto (α := Hp) (N := 123) (R := fun k σ2 => Runs 3 mX11_reads 114 [zR 34 0, zI S, zI k, zU, zU] [] σ2 (rI K)) (I := fun k σ2 => OffM [36, 38, 40] [8] σ σ2 ∧ σ2 38 0 = U.2 ∧ ∀ j : Nat, σ2 36 0 j = if (j : Int) < k then U.2 j else r j) (fun σ2 hI => ?_) (fun k σ2 k0 kl hI nx => ?_) (Int.le_refl 0) (by omega) ⟨o1, e38, fun j => by rw [if_neg (by omega), e36]⟩
    · obtain ⟨o2, e2, l2⟩ := hI
      refine gX11_reads_114 S 123 σ2 ⟨fun _ => h σ2 o2 ?_ (fun j hj => by rw [e2]; exact uh j hj), fun q => absurd (Int.le_refl 123) q⟩
      funext j
      rw [l2 j]
      by_cases q : (j : Int) < 123
      · rw [if_pos q]
      · rw [if_neg q, uh j (by omega)]; exact hh j (by omega)
    · obtain ⟨o2, e2, l2⟩ := hI
      refine gX11_reads_114 S k σ2 ⟨fun q => absurd q (by omega), fun _ => ⟨by omega, by omega, by omega, nx _ ⟨o2.up (by decide), ?_, fun j => ?_⟩⟩⟩
      · rw [zup_ne (by intro z; cases z)]; exact e2
      · rw [zup_su, e2]
        unfold su
        by_cases q : j = k.toNat
        · rw [if_pos q, if_pos (by omega), q]
        · rw [if_neg q, l2 j]
          by_cases z : (j : Int) < k
          · rw [if_pos z, if_pos (by omega)]
          · rw [if_neg z, if_neg (by omega)]
  -- the second reading
  have second : ∀ (f : Nat) (i p : Int) (q : Nat → Int) (σ1 : Hp), OffM [36, 38, 40] [8] σ σ1 → σ1 36 0 = r → σ1 38 0 = q → WF q → (∀ j, 123 ≤ j → q j = 0) → σ1 34 0 8 = p → 0 ≤ p → 0 ≤ i → 0 ≤ S → (N ≤ p ∨ (p < N ∧ 0 ≤ swF B N f p i)) → upF B N f p q = U → Runs 3 mX11_reads 68 [zR 34 0, zI S, zU, zU, zU] [] σ1 (rI K) := by
    intro f
    have fin : ∀ (p : Int) (q : Nat → Int) (σ1 : Hp), OffM [36, 38, 40] [8] σ σ1 → σ1 36 0 = r → σ1 38 0 = q → σ1 34 0 8 = p → 0 ≤ S → N ≤ p → U = (0, q) → Runs 3 mX11_reads 68 [zR 34 0, zI S, zU, zU, zU] [] σ1 (rI K) := fun p q σ1 o1 e36 e38 e8 hS0 hp eU => by
      have n7 : σ1 34 0 7 = N := by rw [o1.2 7 (by decide)]; exact eN
      refine gX11_reads_68 S σ1 ⟨fun _ => last σ1 hS0 o1 e36 (by rw [eU]; exact e38) (by rw [eU]), fun z => absurd (by omega) z⟩
    induction f with
    | zero =>
      intro i p q σ1 o1 e36 e38 wq hq e8 hp hi hS0 hI hu
      have hge : N ≤ p := by
        rcases hI with z | z
        · exact z
        · have z2 := z.2
          unfold swF at z2
          omega
      unfold upF at hu
      exact fin p q σ1 o1 e36 e38 e8 hS0 hge hu.symm
    | succ f ih =>
      intro i p q σ1 o1 e36 e38 wq hq e8 hp hi hS0 hI hu
      by_cases c1 : N ≤ p
      · unfold upF at hu
        rw [if_pos c1] at hu
        exact fin p q σ1 o1 e36 e38 e8 hS0 c1 hu.symm
      · have hsw : 0 ≤ swF B N (f + 1) p i := by
          rcases hI with z | z
          · omega
          · exact z.2
        obtain ⟨a1, a2, a3, a4, a5⟩ := swF_step (B := B) (N := N) (f := f) (p := p) (c := i) hsw hp
        unfold upF at hu
        rw [if_neg c1] at hu
        have n7 : σ1 34 0 7 = N := by rw [o1.2 7 (by decide)]; exact eN
        have hB1 : ∀ q, 0 ≤ q → byB (σ1 39 0) (σ1 34 0 7) q = B q := fun q hq => by rw [o1.1 39 (by decide), o1.2 7 (by decide)]; exact hB q hq
        have zs : zsign σ1 = B p := by
          rw [zsg (by omega), e8]
          exact hB1 p hp
        refine gX11_reads_68 S σ1 ⟨fun z => absurd z (by omega), fun _ => ⟨by omega, ?_⟩⟩
        rw [zs]
        refine qX11_rs (B := B) (by omega) hB1 e8 (by omega) (fun σ2 s2 v2 => ?_)
        have v2 := v2 a1
        have o2 : OffM [36, 38, 40] [8] σ σ2 := o1.tr (s2.1.mono (by decide) (by decide))
        have cv := cOK_vals (r := q) v2
        rw [ite_self] at cv
        obtain ⟨x1, x2, x3, x4⟩ := v2
        have a0 : σ2 40 0 0 = (stF B p).2.2.1 := by
          rcases a3 with z | z | z | z
          · exact x1 z
          · exact (x2 z).1
          · exact (x3 z).1
          · exact (x4 z).1
        refine qX11_comes (by rw [s2.1.1 38 (by decide)]; exact e38) wq a3 (by have := a4.1; omega) (fun σ3 o3 c3 r3 => ⟨fun _ => ?_, fun z => absurd z (by omega)⟩) (fun σ3 o3 e38c c3 => ⟨fun z => absurd rfl z, fun _ => ⟨by omega, ?_⟩⟩)
        · have c3' := cv.1.mp c3
          rw [if_pos c3'] at hu
          rw [cv.2 c3'] at r3
          have o23 := o2.tr (o3.mono (by decide) (by decide) : OffM [36, 38, 40] [8] σ2 σ3)
          refine ih (i + 1) (stF B p).2.1 _ σ3 o23 (by rw [o3.1 36 (by decide), s2.1.1 36 (by decide)]; exact e36) r3 (WF_cRes wq a4 c3') (cRes_hi wq a4 c3' hq) (by rw [o3.2 8 (by decide)]; exact s2.2) (by omega) (by omega) hS0 ?_ hu
          rcases a5 with y | y
          · exact Or.inl y.1
          · exact Or.inr ⟨y.1, by omega⟩
        · have c3' : ¬ cOK (B p) (stF B p).2.2.1 (stF B p).2.2.2.1 (stF B p).2.2.2.2.1 (stF B p).2.2.2.2.2 q := fun z => c3 (cv.1.mpr z)
          rw [if_neg c3'] at hu
          have o23 := o2.tr (o3.mono (by decide) (by decide) : OffM [36, 38, 40] [8] σ2 σ3)
          rw [e8]
          rw [← hu, if_neg (by omega), if_pos (by show -2000 - p < 0; omega)] at h
          exact h σ3 o23 (by rw [o3.1 36 (by decide), s2.1.1 36 (by decide)]; exact e36) (fun j hj => by rw [e38c]; exact hq j hj)
  -- the first reading
  have first : ∀ (f : Nat) (c p : Int) (σ1 : Hp), OffM [40] [8] σ σ1 → σ1 34 0 8 = p → (0 ≤ p ∧ p ≤ 64) → (0 ≤ c ∧ c ≤ p) → (1 ≤ (f : Int) ∧ N - p < f) → swF B N f p c = S → Runs 3 mX11_reads 7 [zR 34 0, zI c, zU, zU, zU] [] σ1 (rI K) := by
    intro f
    induction f with
    | zero => intro c p σ1 _ _ _ _ hf; omega
    | succ f ih =>
      intro c p σ1 o1 e8 hp hc hf hsw
      have n7 : σ1 34 0 7 = N := by rw [o1.2 7 (by decide)]; exact eN
      have hB1 : ∀ q, 0 ≤ q → byB (σ1 39 0) (σ1 34 0 7) q = B q := fun q hq => by rw [o1.1 39 (by decide), o1.2 7 (by decide)]; exact hB q hq
      have sp := stF_P B p
      unfold stP at sp
      unfold swF at hsw
      refine gX11_reads_7 c σ1 (qX11_rs (B := B) (by omega) hB1 e8 hp (fun σ2 s2 v2 => ⟨fun c1 => ⟨by omega, fun c2 => ?_, fun c2 => ?_⟩, fun c1 => ⟨?_, ?_⟩⟩))
      · have q1 := sp.2.resolve_left c1
        rw [if_pos q1.1] at hsw
        have o2 := o1.tr s2.1
        have n72 : σ2 34 0 7 = N := by rw [o2.2 7 (by decide)]; exact eN
        rw [s2.2, n72] at c2
        rw [if_neg (by omega)] at hsw
        exact ih (c + 1) _ σ2 o2 s2.2 (by omega) (by omega) (by omega) hsw
      · have q1 := sp.2.resolve_left c1
        rw [if_pos q1.1] at hsw
        have o2 := o1.tr s2.1
        have n72 : σ2 34 0 7 = N := by rw [o2.2 7 (by decide)]; exact eN
        rw [s2.2, n72] at c2
        rw [if_pos (by omega)] at hsw
        rw [hsw]
        have e36 : σ2 36 0 = r := by rw [o2.1 36 (by decide)]; exact hs
        have e38 : ∀ j, 123 ≤ j → σ2 38 0 j = 0 := fun j hj => by rw [o2.1 38 (by decide)]; exact hh8 j hj
        refine upto (α := Hp) (N := 123) (R := fun k σ3 => Runs 3 mX11_reads 39 [zR 34 0, zI S, zI k, zU, zU] [] σ3 (rI K)) (I := fun k σ3 => OffM [36, 38, 40] [8] σ σ3 ∧ σ3 36 0 = r ∧ ∀ j : Nat, σ3 38 0 j = if (j : Int) < k then r j else σ2 38 0 j) (fun σ3 hI => ?_) (fun k σ3 k0 kl hI nx => ?_) (Int.le_refl 0) (by omega) ⟨o2.mono (by decide) (by decide), e36, fun j => by rw [if_neg (by omega)]⟩
        · obtain ⟨o3, e3, l3⟩ := hI
          refine gX11_reads_39 S 123 σ3 ⟨fun _ => ?_, fun q => absurd (Int.le_refl 123) q⟩
          refine second 65 0 0 r _ (o3.up34 (by decide)) (by rw [zup_ne (by intro z; cases z)]; exact e3) ?_ hw hh (by simp [zup]) (Int.le_refl 0) (Int.le_refl 0) (by omega) (by
            by_cases q : N ≤ 0
            · exact Or.inl q
            · exact Or.inr ⟨by omega, by omega⟩) hU
          rw [zup_ne (by intro z; cases z)]
          funext j
          rw [l3 j]
          by_cases q : (j : Int) < 123
          · rw [if_pos q]
          · rw [if_neg q, e38 j (by omega), hh j (by omega)]
        · obtain ⟨o3, e3, l3⟩ := hI
          refine gX11_reads_39 S k σ3 ⟨fun q => absurd q (by omega), fun _ => ⟨by omega, by omega, by omega, nx _ ⟨o3.up (by decide), ?_, fun j => ?_⟩⟩⟩
          · rw [zup_ne (by intro z; cases z)]; exact e3
          · rw [e3]
            by_cases q : j = k.toNat
            · rw [if_pos (by omega), q]; simp [zup]
            · have : (zup σ3 38 0 k.toNat (r k.toNat)) 38 0 j = σ3 38 0 j := by simp [zup, q]
              rw [this, l3 j]
              by_cases z : (j : Int) < k
              · rw [if_pos z, if_pos (by omega)]
              · rw [if_neg z, if_neg (by omega)]
      · rw [s2.2]; omega
      · rw [if_neg (by omega)] at hsw
        rw [s2.2, hsw]
        have o2 := o1.tr s2.1
        rw [if_pos (by omega)] at h
        exact h σ2 (o2.mono (by decide) (by decide)) (by rw [o2.1 36 (by decide)]; exact hs) (fun j hj => by rw [o2.1 38 (by decide)]; exact hh8 j hj)
  exact gX11_reads_0 σ (first 65 0 0 _ (OffM.rf.up34 (by decide)) (by simp [zup]) (by omega) (by omega) (by omega) hS)
end Reads
