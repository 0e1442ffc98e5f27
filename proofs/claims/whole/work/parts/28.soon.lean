/-! soonest minutes: what they are, and that they are one -/
def ea (s : Nat → Int) (t e : Int) : Nat := (sg s t e).toNat
def vst (s : Nat → Int) (t e : Int) : Prop := 0 ≤ t ∧ t < s 1 ∧ (e = 0 ∨ e = 1)
theorem vst_ok {s : Nat → Int} (hw : WF s) {t e : Int} (h : vst s t e) : ea s t e < 10 ∧ ea s t (1 - e) < 10 ∧ ea s t e ≠ ea s t (1 - e) ∧ 1 ≤ sg s t 2 ∧ sg s t 2 ≤ 60 ∧ (ea s t e : Int) = sg s t e ∧ (ea s t (1 - e) : Int) = sg s t (1 - e) := by
  obtain ⟨w0, w1, w2, w3, w4, w5, w6, w7, w8, w9, w10, wst, -⟩ := hw
  obtain ⟨h1, h2, h3⟩ := h
  obtain ⟨a, b, c, d, -⟩ := wst t h1 h2
  unfold ea
  rcases h3 with rfl | rfl
  · rw [show (1 : Int) - 0 = 1 by omega]
    omega
  · rw [show (1 : Int) - 1 = 0 by omega]
    omega
def bnd (m0 : Int) (D : Nat → Int) : Prop := ∀ c, c < 10 → m0 ≤ D c ∧ (D c ≤ 2939 ∨ D c = 1000000)
def Par (s : Nat → Int) (f : Nat) (D : Nat → Int) (Z : Nat → Prop) : Prop := ∀ c, c < 10 → D c < 1000000 → c ≠ f → ∃ t e, vst s t e ∧ ea s t (1 - e) = c ∧ Z (ea s t e) ∧ D (ea s t e) < 1000000 ∧ entS s t e (D (ea s t e)) ≠ -9 ∧ D c = entS s t e (D (ea s t e)) + sg s t 2
def Clo (s : Nat → Int) (D : Nat → Int) (Z : Nat → Prop) : Prop := ∀ t e, vst s t e → Z (ea s t e) → entS s t e (D (ea s t e)) ≠ -9 → D (ea s t (1 - e)) ≤ entS s t e (D (ea s t e)) + sg s t 2
def Soon (s : Nat → Int) (f : Nat) (m0 : Int) (D : Nat → Int) : Prop := f < 10 ∧ (0 ≤ m0 ∧ m0 ≤ 2879) ∧ D f = m0 ∧ bnd m0 D ∧ Par s f D (fun u => D u < 1000000) ∧ Clo s D (fun u => D u < 1000000)
def DI (s : Nat → Int) (f : Nat) (m0 : Int) (D : Nat → Int) (Z : Nat → Prop) : Prop := f < 10 ∧ (0 ≤ m0 ∧ m0 ≤ 2879) ∧ D f = m0 ∧ bnd m0 D ∧ Par s f D Z ∧ Clo s D Z ∧ (∀ u v, u < 10 → v < 10 → Z u → ¬ Z v → D u ≤ D v) ∧ (∀ u, u < 10 → Z u → D u < 1000000)
/-- what has ways by which it is come to is no sooner than what is closed under ways -/
theorem soon_cmp {s1 s2 : Nat → Int} (hw1 : WF s1) (hg : s2 1 = s1 1 ∧ ∀ t, 0 ≤ t → t < s1 1 → sg s2 t 0 = sg s1 t 0 ∧ sg s2 t 1 = sg s1 t 1 ∧ sg s2 t 2 = sg s1 t 2)
    (hE : ∀ t e m m', vst s1 t e → 0 ≤ m → m ≤ m' → entS s1 t e m' ≠ -9 → entS s2 t e m ≠ -9 ∧ entS s2 t e m ≤ entS s1 t e m') {f : Nat} {m0 : Int} (h0 : 0 ≤ m0) {D1 D2 : Nat → Int} {Z : Nat → Prop} (hb1 : bnd m0 D1) (hb2 : bnd m0 D2) (hp : Par s1 f D1 Z) (hc : Clo s2 D2 (fun u => D2 u < 1000000)) (hf : D2 f ≤ D1 f) :
    ∀ c, c < 10 → D2 c ≤ D1 c := by
  have key : ∀ (n : Nat) (c : Nat), c < 10 → D1 c < 1000000 → (D1 c).toNat ≤ n → D2 c ≤ D1 c := by
    intro n
    induction n with
    | zero =>
      intro c hc10 hlt hn
      by_cases hcf : c = f
      · rw [hcf]; exact hf
      · obtain ⟨t, e, hv, h1, h2, h3, h4, h5⟩ := hp c hc10 hlt hcf
        have v := vst_ok hw1 hv
        have b := hb1 _ v.1
        have g := entS_ge hw1 (m := D1 (ea s1 t e)) (by omega) h4
        omega
    | succ n ih =>
      intro c hc10 hlt hn
      by_cases hcf : c = f
      · rw [hcf]; exact hf
      · obtain ⟨t, e, hv, h1, h2, h3, h4, h5⟩ := hp c hc10 hlt hcf
        have v := vst_ok hw1 hv
        have b := hb1 _ v.1
        have b2 := hb2 _ v.1
        have g := entS_ge hw1 (m := D1 (ea s1 t e)) (by omega) h4
        have iu := ih (ea s1 t e) v.1 h3 (by omega)
        have hE' := hE t e (D2 (ea s1 t e)) (D1 (ea s1 t e)) hv (by omega) iu h4
        obtain ⟨g1, g2, g3⟩ := hg.2 t hv.1 hv.2.1
        have ee : ∀ k, (k = 0 ∨ k = 1) → ea s2 t k = ea s1 t k := fun k hk => by
          unfold ea
          rcases hk with rfl | rfl
          · rw [g1]
          · rw [g2]
        have e1 := ee e hv.2.2
        have e2 := ee (1 - e) (by rcases hv.2.2 with q | q <;> omega)
        have cl := hc t e ⟨hv.1, by rw [hg.1]; exact hv.2.1, hv.2.2⟩ (by rw [e1]; omega) (by rw [e1]; exact hE'.1)
        rw [e1, e2, h1, g3] at cl
        omega
  intro c hc10
  by_cases hlt : D1 c < 1000000
  · exact key _ c hc10 hlt (Nat.le_refl _)
  · have := hb1 c hc10
    have := hb2 c hc10
    omega
theorem soon_cmp1 {s : Nat → Int} (hw : WF s) {f : Nat} {m0 : Int} (h0 : 0 ≤ m0) {D1 D2 : Nat → Int} {Z : Nat → Prop} (hb1 : bnd m0 D1) (hb2 : bnd m0 D2) (hp : Par s f D1 Z) (hc : Clo s D2 (fun u => D2 u < 1000000)) (hf : D2 f ≤ D1 f) : ∀ c, c < 10 → D2 c ≤ D1 c :=
  soon_cmp hw ⟨rfl, fun _ _ _ => ⟨rfl, rfl, rfl⟩⟩ (fun t e m m' _ h1 h2 h3 => entS_mono hw ⟨h1, h2⟩ h3) h0 hb1 hb2 hp hc hf
theorem Soon.uniq {s : Nat → Int} (hw : WF s) {f : Nat} {m0 : Int} {D D' : Nat → Int} (h : Soon s f m0 D) (h' : Soon s f m0 D') : ∀ c, c < 10 → D c = D' c := by
  obtain ⟨-, a1, a2, a3, a4, a5⟩ := h
  obtain ⟨-, b1, b2, b3, b4, b5⟩ := h'
  intro c hc
  have x1 := soon_cmp1 hw a1.1 a3 b3 a4 b5 (by omega) c hc
  have x2 := soon_cmp1 hw a1.1 b3 a3 b4 a5 (by omega) c hc
  omega
/-- what is settled, or is next, has its soonest already -/
theorem soon_early {s : Nat → Int} (hw : WF s) {f : Nat} {m0 : Int} {T D : Nat → Int} {Z : Nat → Prop} (hT : DI s f m0 T Z) (hD : Soon s f m0 D) {b : Nat} (hb : b < 10) (hmin : ∀ v, v < 10 → ¬ Z v → T b ≤ T v) : T b = D b := by
  obtain ⟨-, a1, a2, a3, a4, a5, a6, a7⟩ := hT
  obtain ⟨-, b1, b2, b3, b4, b5⟩ := hD
  have ge := soon_cmp1 hw a1.1 a3 b3 a4 b5 (by omega) b hb
  have key : ∀ (n : Nat) (c : Nat), c < 10 → D c < T b → (D c).toNat ≤ n → T c ≤ D c := by
    intro n
    induction n with
    | zero =>
      intro c hc hlt hn
      by_cases hcf : c = f
      · rw [hcf]; omega
      · have hbT := a3 b hb
        obtain ⟨t, e, hv, h1, h2, h3, h4, h5⟩ := b4 c hc (by omega) hcf
        have v := vst_ok hw hv
        have bb := b3 _ v.1
        have g := entS_ge hw (m := D (ea s t e)) (by omega) h4
        omega
    | succ n ih =>
      intro c hc hlt hn
      by_cases hcf : c = f
      · rw [hcf]; omega
      · have hbT := a3 b hb
        obtain ⟨t, e, hv, h1, h2, h3, h4, h5⟩ := b4 c hc (by omega) hcf
        have v := vst_ok hw hv
        have bb := b3 _ v.1
        have g := entS_ge hw (m := D (ea s t e)) (by omega) h4
        have iu := ih (ea s t e) v.1 (by omega) (by omega)
        have hz : Z (ea s t e) := Classical.byContradiction (fun q => by have := hmin _ v.1 q; omega)
        have b3' := a3 _ v.1
        have mo := entS_mono hw (t := t) (e := e) (m := T (ea s t e)) (m' := D (ea s t e)) ⟨by omega, iu⟩ h4
        have cl := a5 t e hv hz mo.1
        rw [h1] at cl
        omega
  by_cases q : D b < T b
  · have := key _ b hb q (Nat.le_refl _)
    omega
  · omega
theorem DI.fin {s : Nat → Int} {f : Nat} {m0 : Int} {T : Nat → Int} {Z : Nat → Prop} (hw : WF s) (hT : DI s f m0 T Z) (hend : ∀ v, v < 10 → ¬ Z v → T v = 1000000) : Soon s f m0 T := by
  obtain ⟨a0, a1, a2, a3, a4, a5, a6, a7⟩ := hT
  refine ⟨a0, a1, a2, a3, fun c hc hlt hcf => ?_, fun t e hv hz hn => ?_⟩
  · obtain ⟨t, e, hv, h1, h2, h3, h4, h5⟩ := a4 c hc hlt hcf
    exact ⟨t, e, hv, h1, h3, h3, h4, h5⟩
  · have v := vst_ok hw hv
    exact a5 t e hv (Classical.byContradiction (fun q => by have := hend _ v.1 q; omega)) hn
theorem DI.start {s : Nat → Int} {f : Nat} {m0 : Int} {T : Nat → Int} (hf : f < 10) (hm : 0 ≤ m0 ∧ m0 ≤ 2879) (hT : ∀ c, c < 10 → T c = if c = f then m0 else 1000000) : DI s f m0 T (fun _ => False) := by
  refine ⟨hf, hm, by rw [hT f hf, if_pos rfl], fun c hc => ?_, fun c hc hlt hcf => ?_, fun t e _ hz => hz.elim, fun u v _ _ hz => hz.elim, fun u _ hz => hz.elim⟩
  · rw [hT c hc]
    split <;> omega
  · rw [hT c hc, if_neg hcf] at hlt
    omega
/-- while the streets of b are looked at: those of Pr are done -/
def RX (s : Nat → Int) (f : Nat) (m0 : Int) (T : Nat → Int) (Z : Nat → Prop) (b : Nat) (Pr : Int → Int → Prop) : Prop := f < 10 ∧ (0 ≤ m0 ∧ m0 ≤ 2879) ∧ T f = m0 ∧ bnd m0 T ∧ Par s f T (fun u => Z u ∨ u = b) ∧ Clo s T Z ∧ (∀ u v, u < 10 → v < 10 → Z u ∨ u = b → ¬ (Z v ∨ v = b) → T u ≤ T v) ∧ (∀ u, u < 10 → Z u ∨ u = b → T u < 1000000 ∧ T u ≤ T b) ∧
  (∀ t e, vst s t e → Pr t e → ea s t e = b → entS s t e (T b) ≠ -9 → T (ea s t (1 - e)) ≤ entS s t e (T b) + sg s t 2)
theorem RX.start {s : Nat → Int} {f : Nat} {m0 : Int} {T : Nat → Int} {Z : Nat → Prop} (hT : DI s f m0 T Z) {b : Nat} (hb : b < 10) (hz : ¬ Z b) (hlt : T b < 1000000) (hmin : ∀ v, v < 10 → ¬ Z v → T b ≤ T v) : RX s f m0 T Z b (fun _ _ => False) := by
  obtain ⟨a0, a1, a2, a3, a4, a5, a6, a7⟩ := hT
  refine ⟨a0, a1, a2, a3, fun c hc hl hcf => ?_, a5, fun u v hu hv hzu hzv => ?_, fun u hu hzu => ?_, fun t e _ hp => hp.elim⟩
  · obtain ⟨t, e, hv, h1, h2, h3⟩ := a4 c hc hl hcf
    exact ⟨t, e, hv, h1, Or.inl h2, h3⟩
  · have hv' : ¬ Z v := fun q => hzv (Or.inl q)
    rcases hzu with q | q
    · exact a6 u v hu hv q hv'
    · rw [q]; exact hmin v hv hv'
  · rcases hzu with q | q
    · exact ⟨a7 u hu q, a6 u b hu hb q hz⟩
    · rw [q]; exact ⟨hlt, Int.le_refl _⟩
theorem RX.done {s : Nat → Int} {f : Nat} {m0 : Int} {T : Nat → Int} {Z : Nat → Prop} {b : Nat} {Pr : Int → Int → Prop} (h : RX s f m0 T Z b Pr) (hall : ∀ t e, vst s t e → Pr t e) : DI s f m0 T (fun u => Z u ∨ u = b) := by
  obtain ⟨a0, a1, a2, a3, a4, a5, a6, a7, a8⟩ := h
  refine ⟨a0, a1, a2, a3, a4, fun t e hv hz hn => ?_, a6, fun u hu hz => (a7 u hu hz).1⟩
  rcases hz with q | q
  · exact a5 t e hv q hn
  · rw [q] at hn ⊢
    exact a8 t e hv (hall t e hv) q hn
theorem RX.weak {s : Nat → Int} {f : Nat} {m0 : Int} {T : Nat → Int} {Z : Nat → Prop} {b : Nat} {Pr Pr' : Int → Int → Prop} (h : RX s f m0 T Z b Pr) (hp : ∀ t e, vst s t e → Pr' t e → ea s t e = b → Pr t e) : RX s f m0 T Z b Pr' := by
  obtain ⟨a0, a1, a2, a3, a4, a5, a6, a7, a8⟩ := h
  exact ⟨a0, a1, a2, a3, a4, a5, a6, a7, fun t e hv hpr he => a8 t e hv (hp t e hv hpr he) he⟩
/-- a street by which nobody goes on -/
theorem RX.none {s : Nat → Int} {f : Nat} {m0 : Int} {T : Nat → Int} {Z : Nat → Prop} {b : Nat} {Pr : Int → Int → Prop} (h : RX s f m0 T Z b Pr) {t e : Int} (hn : entS s t e (T b) = -9) : RX s f m0 T Z b (fun t' e' => Pr t' e' ∨ (t' = t ∧ e' = e)) := by
  obtain ⟨a0, a1, a2, a3, a4, a5, a6, a7, a8⟩ := h
  refine ⟨a0, a1, a2, a3, a4, a5, a6, a7, fun t' e' hv hpr he hne => ?_⟩
  rcases hpr with q | ⟨rfl, rfl⟩
  · exact a8 t' e' hv q he hne
  · exact absurd hn hne
/-- a street by which one goes on: the other end is no later than by it -/
theorem RX.go {s : Nat → Int} (hw : WF s) {f : Nat} {m0 : Int} {T T' : Nat → Int} {Z : Nat → Prop} {b : Nat} {Pr : Int → Int → Prop} (h : RX s f m0 T Z b Pr) (hb : b < 10) {t e : Int} (hv : vst s t e) (he : ea s t e = b) (hn : entS s t e (T b) ≠ -9)
    (hT' : ∀ c, c < 10 → T' c = if c = ea s t (1 - e) then (if entS s t e (T b) + sg s t 2 < T c then entS s t e (T b) + sg s t 2 else T c) else T c) : RX s f m0 T' Z b (fun t' e' => Pr t' e' ∨ (t' = t ∧ e' = e)) := by
  obtain ⟨a0, a1, a2, a3, a4, a5, a6, a7, a8⟩ := h
  have v := vst_ok hw hv
  have hbT := a3 b hb
  have g := entS_ge hw (m := T b) (by omega) hn
  generalize hval : entS s t e (T b) + sg s t 2 = val at *
  generalize hc0 : ea s t (1 - e) = c0 at *
  have hcb : c0 ≠ b := by rw [← he]; exact fun q => v.2.2.1 q.symm
  have same : ∀ u, u < 10 → (Z u ∨ u = b) → T' u = T u := fun u hu hz => by
    rw [hT' u hu]
    split
    · have := (a7 u hu hz).2
      rw [if_neg (by omega)]
    · rfl
  have le : ∀ u, u < 10 → T' u ≤ T u := fun u hu => by
    rw [hT' u hu]
    split
    · split <;> omega
    · omega
  have hb' : T' b = T b := same b hb (Or.inr rfl)
  refine ⟨a0, a1, ?_, fun c hc => ?_, fun c hc hl hcf => ?_, fun t' e' hv' hz hne => ?_, fun u w hu hw' hzu hzw => ?_, fun u hu hzu => ?_, fun t' e' hv' hpr he' hne => ?_⟩
  · rw [hT' f a0]
    split
    · rw [if_neg (by omega)]; exact a2
    · exact a2
  · have := a3 c hc
    rw [hT' c hc]
    split
    · split <;> omega
    · omega
  · by_cases hch : c = c0 ∧ val < T c
    · refine ⟨t, e, hv, by rw [hc0]; exact hch.1.symm, Or.inr he, by rw [he, hb']; exact (a7 b hb (Or.inr rfl)).1, by rw [he, hb']; exact hn, ?_⟩
      rw [he, hb', hT' c hc, if_pos hch.1, if_pos hch.2, hval]
    · have hsame : T' c = T c := by
        rw [hT' c hc]
        split
        · rename_i q
          rw [if_neg (fun z => hch ⟨q, z⟩)]
        · rfl
      rw [hsame] at hl ⊢
      obtain ⟨t', e', hv', h1, h2, h3, h4, h5⟩ := a4 c hc hl hcf
      have v' := vst_ok hw hv'
      have hs := same _ v'.1 h2
      exact ⟨t', e', hv', h1, h2, by rw [hs]; exact h3, by rw [hs]; exact h4, by rw [hs]; exact h5⟩
  · have v' := vst_ok hw hv'
    have hs := same _ v'.1 (Or.inl hz)
    rw [hs] at hne ⊢
    exact Int.le_trans (le _ v'.2.1) (a5 t' e' hv' hz hne)
  · rw [same u hu hzu, hT' w hw']
    have h1 := a6 u w hu hw' hzu hzw
    have h2 := (a7 u hu hzu).2
    split
    · split <;> omega
    · exact h1
  · rw [same u hu hzu, hb']
    exact a7 u hu hzu
  · rw [hb'] at hne ⊢
    rcases hpr with q | ⟨rfl, rfl⟩
    · have v' := vst_ok hw hv'
      exact Int.le_trans (le _ v'.2.1) (a8 t' e' hv' q he' hne)
    · rw [hc0, hT' c0 v.2.1, if_pos rfl]
      split <;> omega
noncomputable def dist (s : Nat → Int) (f : Nat) (m0 : Int) : Nat → Int := Classical.epsilon (fun D => Soon s f m0 D)
theorem dist_fin {s : Nat → Int} {f : Nat} {m0 : Int} {D : Nat → Int} (h : Soon s f m0 D) : Soon s f m0 (dist s f m0) := Classical.epsilon_spec (p := fun D => Soon s f m0 D) ⟨D, h⟩
theorem dist_eq {s : Nat → Int} (hw : WF s) {f : Nat} {m0 : Int} {D : Nat → Int} (h : Soon s f m0 D) : ∀ c, c < 10 → D c = dist s f m0 c := Soon.uniq hw h (dist_fin h)
