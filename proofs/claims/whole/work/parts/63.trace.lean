/-! the class's roads -/
def RdC (σ : Hp) (t : Nat) (s : Nat → Int) (D : Nat → Int) (to i : Nat) : Prop := σ 28 t 7 = (i : Int) ∧ (∀ j, j ≤ i → σ 30 t j = (rc s D to j : Int) ∧ σ 31 t j = D (rc s D to j) ∧ σ 32 t j = rg s D to j) ∧ ∀ j, j < i → σ 29 t j = (bk s D (rc s D to j)).1
def OffR (t : Nat) (σ σ' : Hp) : Prop := Off [16, 28, 29, 30, 31, 32] σ σ' ∧ (∀ j, j < 7 → σ' 16 0 j = σ 16 0 j) ∧ ∀ g u, u ≠ t → 28 ≤ g → σ' g u = σ g u
theorem OffR.rf {t : Nat} {σ : Hp} : OffR t σ σ := ⟨Off.rf, fun _ _ => rfl, fun _ _ _ _ => rfl⟩
theorem OffR.tr {t : Nat} {a b c : Hp} (h1 : OffR t a b) (h2 : OffR t b c) : OffR t a c := ⟨h1.1.tr h2.1, fun j hj => (h2.2.1 j hj).trans (h1.2.1 j hj), fun g u hu hg => (h2.2.2 g u hu hg).trans (h1.2.2 g u hu hg)⟩
theorem OffR.up {t : Nat} {a b : Hp} {g j : Nat} {v : Int} (h : OffR t a b) (hg : g = 28 ∨ g = 29 ∨ g = 30 ∨ g = 31 ∨ g = 32) : OffR t a (zup b g t j v) := by
  refine ⟨h.1.up (by rcases hg with rfl | rfl | rfl | rfl | rfl <;> decide), fun k hk => ?_, fun g' u hu hg' => ?_⟩
  · rw [zup_ne (by intro e; cases e; omega)]; exact h.2.1 k hk
  · rw [zup_ne (by intro e; cases e; exact hu rfl)]; exact h.2.2 g' u hu hg'
theorem OffR.T {t : Nat} {σ σ' : Hp} {s : Nat → Int} (h : OffR t σ σ') (ht : TRc σ s) (hm : TMs σ s) : TRc σ' s ∧ TMs σ' s := ⟨ht.keep h.2.1, hm.keep h.1 (by decide) (by decide) (by decide) (by decide)⟩
theorem OffR.of16 {t : Nat} {σ σ' : Hp} (h : Off [16] σ σ') (hk : ∀ j, j < 7 → σ' 16 0 j = σ 16 0 j) : OffR t σ σ' := ⟨h.mono (by decide), hk, fun g u _ hg => by rw [h g (by intro q; simp at q; omega)]⟩
theorem RdC.keep {σ σ' : Hp} {t : Nat} {s : Nat → Int} {D : Nat → Int} {to i : Nat} (h : RdC σ t s D to i) (ho : ∀ g, 28 ≤ g → σ' g t = σ g t) : RdC σ' t s D to i := by
  unfold RdC
  rw [ho 28 (by omega), ho 29 (by omega), ho 30 (by omega), ho 31 (by omega), ho 32 (by omega)]
  exact h
section Trace
variable {K : Int → Hp → Prop} {K' : Hp → Prop} {s : Nat → Int} {f : Nat} {m : Int} {D : Nat → Int}
theorem qX4_cameBy (hw : WF s) (hD : Soon s f m D) {σ : Hp} (ht : TRc σ s) (hm : TMs σ s) (h18 : ∀ c, c < 10 → σ 18 0 c = D c) {t to i : Nat} (hi : i < 9) (hr : RdC σ t s D to i) {a e : Int} (hv : vst s a e) (hc : ea s a (1 - e) = rc s D to i)
    (h0 : ∀ σ', Off [16] σ σ' → (∀ j, j < 7 → σ' 16 0 j = σ 16 0 j) → ¬ back s D (rc s D to i) a e → K 0 σ')
    (h1 : ∀ σ', OffR t σ σ' → σ' 18 = σ 18 → back s D (rc s D to i) a e → σ' 28 t 7 = (i : Int) + 1 → (∀ j, j ≤ i → σ' 30 t j = σ 30 t j ∧ σ' 31 t j = σ 31 t j ∧ σ' 32 t j = σ 32 t j) → (∀ j, j < i → σ' 29 t j = σ 29 t j) → σ' 29 t i = a → (σ' 30 t (i + 1) = (ea s a e : Int) ∧ σ' 31 t (i + 1) = D (ea s a e) ∧ σ' 32 t (i + 1) = entS s a e (D (ea s a e))) → K 1 σ') :
    Runs 1 mX4_cameBy 0 [zR 28 t, zI a, zI e, zI (sg s a e), zU, zU] [] σ (rI K) := by
  have w1 := hw.2.1
  have v := vst_ok hw hv
  have w7 := hw.2.2.2.2.2.2.2.1
  have w9 := hw.2.2.2.2.2.2.2.2.2.1
  have r1 := ht.2.1
  have r2 := ht.2.2.1
  have bD := hD.2.2.2.1 (ea s a e) v.1
  have m0 := hD.2.1
  have eea : (sg s a e).toNat = ea s a e := rfl
  have zm : zmin σ (sg s a e) = if D (ea s a e) = 1000000 then -9 else D (ea s a e) := by
    unfold zmin
    rw [eea, h18 _ v.1]
  have h7 := hr.1
  have hvl := hv.2.1
  have hv0 := hv.1
  refine gX4_cameBy_0 a e (sg s a e) t σ ?_
  rw [zm, h7]
  refine ⟨by omega, fun c => ?_, fun c => ⟨by omega, fun c2 => ⟨by omega, by omega, ?_, fun σ1 e1 => ?_⟩, fun c2 => absurd (by omega) c2⟩⟩
  · refine h0 σ Off.rf (fun _ _ => rfl) (fun q => ?_)
    have := q.2.2.1
    split at c <;> omega
  · split at c
    · exact absurd rfl c
    · rename_i q
      rw [if_neg q]
      omega
  · have hne : D (ea s a e) ≠ 1000000 := fun q => by rw [if_pos q] at c; exact c rfl
    rw [if_neg hne] at e1 ⊢
    obtain ⟨k1, k2⟩ := tStand_keep (σ := σ) (m := D (ea s a e))
    rw [← e1] at k1 k2
    have ht1 : TRc σ1 s := ht.keep k1
    have hm1 : TMs σ1 s := hm.keep k2 (by decide) (by decide) (by decide) (by decide)
    have hst : Std σ1 s (D (ea s a e)) := by rw [e1]; exact Std.of hw ht (by omega)
    have hent : tEnt σ1 a e = entS s a e (D (ea s a e)) := tEnt_eq ht1 hst ⟨hv.1, hv.2.1⟩ hv.2.2
    obtain ⟨t2, t3, t4⟩ := hm1.2.2 a hv.1 hv.2.1
    have e28 : σ1 28 t 7 = i := by rw [k2 28 (by decide)]; exact h7
    have e31 : σ1 31 t i = D (rc s D to i) := by rw [k2 31 (by decide)]; exact (hr.2.1 i (Nat.le_refl _)).2.1
    rw [hent, t4, e28]
    simp only [Int.toNat_natCast]
    rw [e31]
    refine ⟨fun c3 => h0 σ1 k2 k1 (fun q => q.2.2.2.1 c3), fun c3 => ⟨by omega, ?_, by omega, fun c4 => ?_, fun c4 => h0 σ1 k2 k1 (fun q => c4 q.2.2.2.2)⟩⟩
    · have g := entS_ge hw (m := D (ea s a e)) (by omega) c3
      omega
    · have e28b : (zup (zup σ1 29 t i a) 28 t 7 ((i : Int) + 1)) 28 t 7 = (i : Int) + 1 := by simp [zup]
      rw [e28b]
      refine ⟨by omega, by omega, by omega, by omega, by omega, fun σ2 e2 => ?_⟩
      have ei : ((i : Int) + 1).toNat = i + 1 := by omega
      rw [ei] at e2
      refine h1 σ2 ?_ ?_ ⟨hv, hc, by omega, c3, c4⟩ ?_ (fun j hj => ?_) (fun j hj => ?_) ?_ ?_
      · rw [e2]
        exact (((((OffR.of16 k2 k1).up (by omega)).up (by omega)).up (by omega)).up (by omega)).up (by omega)
      · rw [e2]
        funext i'
        rw [zup_ne (by intro e; cases e), zup_ne (by intro e; cases e), zup_ne (by intro e; cases e), zup_ne (by intro e; cases e), zup_ne (by intro e; cases e)]
        rw [k2 18 (by decide)]
      · rw [e2]; simp [zup]
      · have a1 : σ1 30 = σ 30 := k2 30 (by decide)
        have a2 : σ1 31 = σ 31 := k2 31 (by decide)
        have a3 : σ1 32 = σ 32 := k2 32 (by decide)
        have hne : j ≠ i + 1 := by omega
        rw [e2]
        simp [zup, hne, a1, a2, a3]
      · have a1 : σ1 29 = σ 29 := k2 29 (by decide)
        have hne : j ≠ i := by omega
        rw [e2]
        simp [zup, hne, a1]
      · rw [e2]; simp [zup]
      · rw [e2]
        refine ⟨?_, ?_, ?_⟩
        · simp [zup]; exact v.2.2.2.2.2.1.symm
        · simp [zup]
        · simp [zup]
theorem qX4_traceBack (hw : WF s) (hD : Soon s f m D) {σ : Hp} (ht : TRc σ s) (hm : TMs σ s) (h18 : ∀ c, c < 10 → σ 18 0 c = D c) {t to i : Nat} (hr : RdC σ t s D to i) (hR : RW s f D to i) (hne : rc s D to i ≠ f) (h1 : ∀ σ', OffR t σ σ' → σ' 18 = σ 18 → RdC σ' t s D to (i + 1) → K 1 σ') : Runs 2 mX4_traceBack 0 [zR 28 t, zU] [] σ (rI K) := by
  have w1 := hw.2.1
  obtain ⟨hi, fr, -⟩ := hR.succ hw hD hne
  have hci := (hR.1 i (Nat.le_refl _)).1
  refine gX4_traceBack_0 t σ (upto (α := Hp) (N := s 1) (R := fun a σ1 => Runs 2 mX4_traceBack 2 [zR 28 t, zI a] [] σ1 (rI K)) (I := fun a σ1 => Off [16] σ σ1 ∧ (∀ j, j < 7 → σ1 16 0 j = σ 16 0 j) ∧ ∀ a' e', back s D (rc s D to i) a' e' → ¬ a' < a) (fun σ1 hI => ?_) (fun a σ1 a0 al hI nx => ?_) (Int.le_refl 0) w1.1 ⟨Off.rf, fun _ _ => rfl, fun a' e' hb => by have := hb.1.1; omega⟩)
  · exact absurd fr.1.1.2.1 (hI.2.2 _ _ fr.1)
  · obtain ⟨o1, k1, n1⟩ := hI
    have ht1 : TRc σ1 s := ht.keep k1
    have hm1 : TMs σ1 s := hm.keep o1 (by decide) (by decide) (by decide) (by decide)
    have hr1 : RdC σ1 t s D to i := hr.keep (fun g hg => by rw [o1 g (by intro q; simp at q; omega)])
    have h181 : ∀ c, c < 10 → σ1 18 0 c = D c := fun c hc => by rw [o1 18 (by decide)]; exact h18 c hc
    obtain ⟨t2, t3, t4⟩ := hm1.2.2 a a0 al
    have e1 : σ1 1 0 1 = s 1 := hm1.2.1
    have v0 : vst s a 0 := ⟨a0, al, Or.inl rfl⟩
    have v1 : vst s a 1 := ⟨a0, al, Or.inr rfl⟩
    have k0 := vst_ok hw v0
    have k1' := vst_ok hw v1
    rw [show (1 : Int) - 0 = 1 by omega] at k0
    rw [show (1 : Int) - 1 = 0 by omega] at k1'
    have e30 : σ1 30 t i = (rc s D to i : Int) := (hr1.2.1 i (Nat.le_refl _)).1
    -- a hit
    have hit : ∀ (e : Int) (σ2 : Hp), OffR t σ σ2 → (∀ a' e', back s D (rc s D to i) a' e' → ¬ a' < a) → ∀ σ3, OffR t σ2 σ3 → σ2 18 = σ 18 → RdC σ2 t s D to i → σ3 18 = σ2 18 → back s D (rc s D to i) a e → σ3 28 t 7 = (i : Int) + 1 → (∀ j, j ≤ i → σ3 30 t j = σ2 30 t j ∧ σ3 31 t j = σ2 31 t j ∧ σ3 32 t j = σ2 32 t j) → (∀ j, j < i → σ3 29 t j = σ2 29 t j) → σ3 29 t i = a → (σ3 30 t (i + 1) = (ea s a e : Int) ∧ σ3 31 t (i + 1) = D (ea s a e) ∧ σ3 32 t (i + 1) = entS s a e (D (ea s a e))) → K 1 σ3 := fun e σ2 o2 hn σ3 o3 e18 r2 e18' hb x1 x2 x3 x4 x5 => by
      have be := bk_eq hw (c := rc s D to i) (t := a) (e := e) ⟨hb, fun t' e' hb' => by have := hn t' e' hb'; omega⟩
      refine h1 σ3 (o2.tr o3) (e18'.trans e18) ⟨by omega, fun j hj => ?_, fun j hj => ?_⟩
      · by_cases q : j = i + 1
        · rw [q]
          show _ = ((ea s (bk s D (rc s D to i)).1 (bk s D (rc s D to i)).2 : Nat) : Int) ∧ _ = D (ea s (bk s D (rc s D to i)).1 (bk s D (rc s D to i)).2) ∧ _ = entS s (bk s D (rc s D to i)).1 (bk s D (rc s D to i)).2 (D (ea s (bk s D (rc s D to i)).1 (bk s D (rc s D to i)).2))
          rw [be.1, be.2]
          exact x5
        · obtain ⟨y1, y2, y3⟩ := x2 j (by omega)
          rw [y1, y2, y3]
          exact r2.2.1 j (by omega)
      · by_cases q : j = i
        · rw [q, x4, be.1]
        · rw [x3 j (by omega)]
          exact r2.2.2 j (by omega)
    have second : ∀ σ2, Off [16] σ σ2 → (∀ j, j < 7 → σ2 16 0 j = σ 16 0 j) → (¬ back s D (rc s D to i) a 0) → Runs 2 mX4_traceBack 54 [zR 28 t, zI a] [] σ2 (rI K) := fun σ2 o2 k2 nb => by
      have ht2 : TRc σ2 s := ht.keep k2
      have hm2 : TMs σ2 s := hm.keep o2 (by decide) (by decide) (by decide) (by decide)
      have hr2 : RdC σ2 t s D to i := hr.keep (fun g hg => by rw [o2 g (by intro q; simp at q; omega)])
      have e182 : σ2 18 = σ 18 := o2 18 (by decide)
      obtain ⟨u2, u3, -⟩ := hm2.2.2 a a0 al
      have f30 : σ2 30 t i = (rc s D to i : Int) := (hr2.2.1 i (Nat.le_refl _)).1
      have nxt_ : ∀ σ3, Off [16] σ σ3 → (∀ j, j < 7 → σ3 16 0 j = σ 16 0 j) → ¬ back s D (rc s D to i) a 1 → Runs 2 mX4_traceBack 2 [zR 28 t, zI (a + 1)] [] σ3 (rI K) := fun σ3 o3 k3 nb1 => nx σ3 ⟨o3, k3, fun a' e' hb hl => by
        by_cases q : a' = a
        · subst q
          rcases hb.1.2.2 with z | z
          · rw [z] at hb; exact nb hb
          · rw [z] at hb; exact nb1 hb
        · exact n1 a' e' hb (by omega)⟩
      refine gX4_traceBack_54 a t σ2 ?_
      rw [hr2.1]
      simp only [Int.toNat_natCast]
      rw [f30, u2]
      refine ⟨by omega, by omega, fun c => ⟨by omega, nxt_ σ2 o2 k2 (fun hb => ?_)⟩, fun c => ⟨by omega, ?_⟩⟩
      · have := hb.2.1
        rw [show (1 : Int) - 1 = 0 by omega] at this
        omega
      · rw [show σ2 3 0 a.toNat = sg s a 1 from u3]
        refine qX4_cameBy hw hD ht2 hm2 (fun c hc => by rw [e182]; exact h18 c hc) hi hr2 v1 (by rw [show (1 : Int) - 1 = 0 by omega]; omega) (fun σ3 o3 k3 nb1 => ⟨fun _ => ⟨by omega, nxt_ σ3 (o2.tr o3) (fun j hj => (k3 j hj).trans (k2 j hj)) nb1⟩, fun z => absurd rfl z⟩) (fun σ3 o3 e3 hb x1 x2 x3 x4 x5 => ⟨fun z => absurd z (by omega), fun _ => ?_⟩)
        exact hit 1 σ2 (OffR.of16 o2 k2) n1 σ3 o3 e182 hr2 e3 hb x1 x2 x3 x4 x5
    refine gX4_traceBack_2 a t σ1 ⟨fun q => absurd q (by omega), fun _ => ?_⟩
    rw [hr1.1]
    simp only [Int.toNat_natCast]
    rw [e30, t3]
    refine ⟨by omega, by omega, fun c => second σ1 o1 k1 (fun hb => ?_), fun c => ⟨by omega, ?_⟩⟩
    · have := hb.2.1
      rw [show (1 : Int) - 0 = 1 by omega] at this
      omega
    · rw [show σ1 2 0 a.toNat = sg s a 0 from t2]
      refine qX4_cameBy hw hD ht1 hm1 h181 hi hr1 v0 (by rw [show (1 : Int) - 0 = 1 by omega]; omega) (fun σ3 o3 k3 nb1 => ⟨fun _ => second σ3 (o1.tr o3) (fun j hj => (k3 j hj).trans (k1 j hj)) nb1, fun z => absurd rfl z⟩) (fun σ3 o3 e3 hb x1 x2 x3 x4 x5 => ⟨fun z => absurd z (by omega), fun _ => ?_⟩)
      exact hit 0 σ1 (OffR.of16 o1 k1) n1 σ3 o3 (o1 18 (by decide)) hr1 e3 hb x1 x2 x3 x4 x5
def OffT (t : Nat) (σ σ' : Hp) : Prop := Off [16, 17, 18, 28, 29, 30, 31, 32] σ σ' ∧ (∀ j, j < 7 → σ' 16 0 j = σ 16 0 j) ∧ ∀ g u, u ≠ t → 28 ≤ g → σ' g u = σ g u
theorem OffT.T {t : Nat} {σ σ' : Hp} (h : OffT t σ σ') (ht : TRc σ s) (hm : TMs σ s) : TRc σ' s ∧ TMs σ' s := ⟨ht.keep h.2.1, hm.keep h.1 (by decide) (by decide) (by decide) (by decide)⟩
/-- what a traced road is -/
def Traced (σ : Hp) (t : Nat) (s : Nat → Int) (f to : Nat) (m : Int) : Prop := (dist s f m to = 1000000 → σ 28 t 7 = -9) ∧ (dist s f m to < 1000000 → ∃ L, RD s f (dist s f m) to L ∧ RdC σ t s (dist s f m) to L)
theorem qX4_trace (hw : WF s) {σ : Hp} (ht : TRc σ s) (hm : TMs σ s) {t : Nat} {ff tt mm : Int} (hf : 0 ≤ ff ∧ ff < s 0) (htt : 0 ≤ tt ∧ tt < s 0) (hmm : 0 ≤ mm ∧ mm ≤ 2879) (cont : ∀ σ', OffT t σ σ' → Traced σ' t s ff.toNat tt.toNat mm → K' σ') : Runs 4 mX4_trace 0 [zR 28 t, zI ff, zI tt, zI mm, zU] [] σ (rV K') := by
  have w0 := hw.1
  have hD := dist_soon hw (f := ff.toNat) (m0 := mm) (by omega) hmm
  refine gX4_trace_0 ff tt mm t σ (qX8_setOut hw ht hm hf hmm (Or.inl rfl) (fun σ1 o1 k1 d1 _ => ?_))
  have d1 := d1 rfl
  unfold Traced at cont
  generalize dist s ff.toNat mm = D at *
  have bt := hD.2.2.2.1 tt.toNat (by omega)
  have offT : ∀ σ2, OffR t σ1 σ2 → OffT t σ σ2 := fun σ2 o2 => ⟨(o1.mono (by decide)).tr (o2.1.mono (by decide)), fun j hj => (o2.2.1 j hj).trans (k1 j hj), fun g u hu hg => by rw [o2.2.2 g u hu hg, o1 g (by intro q; simp at q; omega)]⟩
  have zm : ∀ (σ2 : Hp), σ2 18 = σ1 18 → zmin σ2 tt = if D tt.toNat = 1000000 then -9 else D tt.toNat := fun σ2 e2 => by
    unfold zmin
    rw [e2, d1 _ (by omega)]
  have u1 : ∀ (σ2 : Hp) (g i j : Nat) (v : Int), g ≠ 18 → (zup σ2 g i j v) 18 = σ2 18 := fun σ2 g i j v hg => by
    funext i'
    rw [zup_ne (by intro e; cases e; exact hg rfl)]
  rw [zm _ (u1 _ _ _ _ _ (by decide))]
  refine ⟨by omega, fun c => ⟨by omega, fun σ2 e2 => ?_⟩, fun c => ?_⟩
  · have hne : D tt.toNat ≠ 1000000 := fun q => by rw [if_pos q] at c; exact c rfl
    have hl : D tt.toNat < 1000000 := by omega
    rw [zm _ (by rw [u1 _ _ _ _ _ (by decide), u1 _ _ _ _ _ (by decide), u1 _ _ _ _ _ (by decide)]), if_neg hne] at e2
    have e31 : (zup (zup (zup (zup σ1 28 t 7 (-9)) 28 t 7 0) 30 t 0 tt) 31 t 0 (D tt.toNat)) 31 t 0 = D tt.toNat := by simp [zup]
    rw [e31] at e2
    have r2 : RdC σ2 t s D tt.toNat 0 := by
      refine ⟨by rw [e2]; simp [zup], fun j hj => ?_, fun j hj => absurd hj (by omega)⟩
      have : j = 0 := by omega
      subst this
      rw [e2]
      show _ = ((tt.toNat : Nat) : Int) ∧ _ = D tt.toNat ∧ _ = D tt.toNat
      rw [Int.toNat_of_nonneg htt.1]
      simp [zup]
    have o2 : OffR t σ1 σ2 := by
      rw [e2]
      exact ((((OffR.rf.up (by omega)).up (by omega)).up (by omega)).up (by omega)).up (by omega)
    have e18 : σ2 18 = σ1 18 := by
      rw [e2]
      rw [u1 _ _ _ _ _ (by decide), u1 _ _ _ _ _ (by decide), u1 _ _ _ _ _ (by decide), u1 _ _ _ _ _ (by decide), u1 _ _ _ _ _ (by decide)]
    obtain ⟨ht1, hm1⟩ := (show Kept σ σ1 from ⟨o1, k1⟩).T ht hm
    refine upto (α := Hp) (N := 10) (R := fun l σ3 => Runs 4 mX4_trace 71 [zR 28 t, zI ff, zU, zU, zI l] [] σ3 (rV K')) (I := fun l σ3 => OffR t σ1 σ3 ∧ σ3 18 = σ1 18 ∧ RW s ff.toNat D tt.toNat (l - 1).toNat ∧ RdC σ3 t s D tt.toNat (l - 1).toNat ∧ 1 ≤ l) (fun σ3 hI => ?_) (fun l σ3 l0 ll hI nx => ?_) (t := 1) (by omega) (by omega) (by rw [show ((1 : Int) - 1).toNat = 0 from rfl]; exact ⟨o2, e18, RW.zero hD (by omega) hl, r2, Int.le_refl 1⟩)
    · obtain ⟨o3, e3, w3, r3, -⟩ := hI
      rw [show ((10 : Int) - 1).toNat = 9 from rfl] at w3 r3
      refine gX4_trace_71 ff 10 t σ3 ⟨fun _ => cont σ3 (offT σ3 o3) ⟨fun q => absurd q hne, fun _ => ⟨9, ⟨w3, ?_⟩, r3⟩⟩, fun q => absurd (Int.le_refl 10) q⟩
      by_cases q : rc s D tt.toNat 9 = ff.toNat
      · exact q
      · have := (w3.succ hw hD q).1; omega
    · obtain ⟨o3, e3, w3, r3, l1⟩ := hI
      have hrc := r3.2.1 _ (Nat.le_refl (l - 1).toNat)
      refine gX4_trace_71 ff l t σ3 ⟨fun q => absurd q (by omega), fun _ => ?_⟩
      rw [r3.1]
      simp only [Int.toNat_natCast]
      rw [hrc.1]
      obtain ⟨ht3, hm3⟩ := o3.T ht1 hm1
      refine ⟨by omega, fun c2 => cont σ3 (offT σ3 o3) ⟨fun q => absurd q hne, fun _ => ⟨_, ⟨w3, by omega⟩, r3⟩⟩, fun c2 => ?_⟩
      have hnf : rc s D tt.toNat (l - 1).toNat ≠ ff.toNat := by omega
      refine qX4_traceBack hw hD ht3 hm3 (fun c hc => by rw [e3]; exact d1 c hc) r3 w3 hnf (fun σ4 o4 e4 r4 => ⟨fun _ => ⟨by omega, nx σ4 ⟨o3.tr o4, e4.trans e3, ?_, ?_, by omega⟩⟩, fun q => absurd q (by omega)⟩)
      · have := (w3.succ hw hD hnf).2.2
        rw [show (l + 1 - 1).toNat = (l - 1).toNat + 1 by omega]
        exact this
      · rw [show (l + 1 - 1).toNat = (l - 1).toNat + 1 by omega]
        exact r4
  · have heq : D tt.toNat = 1000000 := by
      split at c
      · rename_i q; exact q
      · omega
    refine cont _ (offT _ (OffR.rf.up (by omega))) ⟨fun _ => by simp [zup], fun q => by omega⟩
end Trace
