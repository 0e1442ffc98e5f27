/-! processions, what is judged, the pointing with the least longest way -/
def cvA (w : Int) : Int := if 1000000 ≤ w then -9 else w
def kept (s : Nat → Int) (b t : Int) : Prop := sg s t 4 = 2 ∨ bitz b t = sg s t 4
def JD (s : Nat → Int) (n : Nat) (r : Int) : Prop := (musts s (s 3) ∧ FA (FF s 0) n r) ∨ (0 ≤ r ∧ r < s 1 ∧ ¬ kept s (s 3) r ∧ ∀ t : Int, 0 ≤ t → t < r → kept s (s 3) t)
theorem JD.uniq {s : Nat → Int} {n : Nat} {r r' : Int} (h : JD s n r) (h' : JD s n r') : r = r' := by
  rcases h with ⟨h1, h2⟩ | ⟨h1, h2, h3, h4⟩ <;> rcases h' with ⟨g1, g2⟩ | ⟨g1, g2, g3, g4⟩
  · exact h2.uniq g2
  · exact absurd (h1 r' g1 g2) g3
  · exact absurd (g1 r h1 h2) h3
  · by_cases q : r < r'
    · exact absurd (g4 r h1 q) h3
    · by_cases p : r' < r
      · exact absurd (h4 r' g1 p) g3
      · omega
noncomputable def prR (D : Nat → Nat → Int) (row : Nat → Int) (n : Nat) : Nat → Int → Int
  | 0, v => v
  | k + 1, v => if 1000000 ≤ D (row (n - (k + 1))).toNat (row ((n - (k + 1) + 1) % n)).toNat then -9 else prR D row n k (v + D (row (n - (k + 1))).toNat (row ((n - (k + 1) + 1) % n)).toNat)
theorem WF_6 {s : Nat → Int} (hw : WF s) : WF (su s 6 0) := by
  obtain ⟨w0, w1, w2, w3, w4, w5, w6, w7, w8, w9, w10, wst, wer, wrow⟩ := hw
  refine ⟨w0, w1, w2, w3, w4, w5, by rw [su_eq]; omega, w7, w8, w9, w10, fun t h0 h1 => stOK_su (by omega) h0 (wst t h0 h1), fun e h0 h1 => erOK_su (by omega) h0 (wer e h0 h1), fun i hi => ?_⟩
  rw [su_eq] at hi
  omega
theorem wayS_6 {s : Nat → Int} {v t m : Int} (ht : 0 ≤ t) : wayS (su s 6 v) t m = wayS s t m := by
  unfold wayS ebit turnsS
  rw [sg_su (by omega) ht (by omega)]
  rfl
theorem W0_6 {s : Nat → Int} {v m : Int} : ∀ t : Nat, W0 (su s 6 v) m t = W0 s m t
  | 0 => rfl
  | t + 1 => by
    have ih := W0_6 (s := s) (v := v) (m := m) t
    have t0 : (0 : Int) ≤ (t : Int) := by omega
    have e : ∀ (e : Int) (D : Nat → Nat → Int), (e = 0 ∨ e = 1) → lay1 (su s 6 v) m t e D = lay1 s m t e D := fun e D he => by
      funext a b
      unfold lay1 ea
      rw [wayS_6 t0, sg_su (by omega) t0 (by omega), sg_su (by omega) t0 (by omega), sg_su (by omega) t0 (by omega)]
    show lay1 (su s 6 v) m t 1 (lay1 (su s 6 v) m t 0 (W0 (su s 6 v) m t)) = lay1 s m t 1 (lay1 s m t 0 (W0 s m t))
    rw [ih, e 1 _ (Or.inr rfl), e 0 _ (Or.inl rfl)]
theorem LG_congr {D E : Nat → Nat → Int} {n : Nat} (h : ∀ a b, a < n → b < n → a ≠ b → D a b = E a b) : LG D n = LG E n := by
  unfold LG
  rw [cA_congr h n (Nat.le_refl _), mA_congr h n (Nat.le_refl _)]
theorem FA_congr {D E : Nat → Nat → Int} {n : Nat} {r : Int} (h : ∀ a b, a < n → b < n → a ≠ b → D a b = E a b) (hf : FA D n r) : FA E n r := by
  have ap : ∀ a b, a < n → b < n → (AP D a b ↔ AP E a b) := fun a b ha hb => by
    unfold AP
    constructor
    · intro q; exact ⟨q.1, by rw [← h a b ha hb q.1]; exact q.2⟩
    · intro q; exact ⟨q.1, by rw [h a b ha hb q.1]; exact q.2⟩
  rcases hf with ⟨h1, h2⟩ | ⟨a, b, h1, h2, h3, h4, h5⟩
  · exact Or.inl ⟨h1, fun a b ha hb q => h2 a b ha hb ((ap a b ha hb).mpr q)⟩
  · exact Or.inr ⟨a, b, h1, h2, (ap a b h1 h2).mp h3, h4, fun a' b' ha hb hl q => h5 a' b' ha hb hl ((ap a' b' ha hb).mpr q)⟩
theorem LG_b {D : Nat → Nat → Int} {n m : Nat} {x : Int} (hD : okD x 61440 D) : LG D n = -9 ∨ (0 ≤ LG D n ∧ LG D n < 1000000) := by
  unfold LG
  by_cases q : cA D n n = 0
  · rw [if_pos q]
    have nap := (cA_b D n n).2.mp q
    refine Or.inr ?_
    have g : ∀ (t : Nat) (v : Int), t < n → 0 ≤ v ∧ v < 1000000 → ∀ u : Nat, u ≤ n → 0 ≤ mR D t u v ∧ mR D t u v < 1000000 := fun t v ht hv u => by
      induction u with
      | zero => intro _; exact hv
      | succ u ih =>
        intro hu
        have i := ih (by omega)
        unfold mR
        split
        · rename_i z
          have b := okD_b (by omega) hD t u
          have := nap t u ht (by omega)
          refine ⟨by omega, ?_⟩
          by_cases y : 1000000 ≤ D t u
          · exact absurd ⟨z.1, y⟩ this
          · omega
        · exact i
    have a : ∀ t : Nat, t ≤ n → 0 ≤ mA D n t ∧ mA D n t < 1000000 := fun t => by
      induction t with
      | zero => intro _; unfold mA; omega
      | succ t ih => intro ht; exact g t _ (by omega) (ih (by omega)) n (Nat.le_refl _)
    exact a n (Nat.le_refl _)
  · rw [if_neg q]; exact Or.inl rfl
section Rounds
variable {K' : Hp → Prop} {K : Int → Hp → Prop} {s : Nat → Int}
theorem qX11_along (hw : WF s) {σ : Hp} (hs : σ 36 0 = s) {a b : Nat} (h : K (cvA (W0 s 0 (s 1).toNat a b)) σ) : Runs 3 mX11_along 0 [zR 34 0, zI (a : Int), zI (b : Int), zU, zU, zU] [] σ (rI K) := by
  have w1 := hw.2.1
  have w0 := hw.1
  refine gX11_along_0 (a : Int) (b : Int) σ (upto (α := Int) (N := s 1) (R := fun t c => Runs 3 mX11_along 6 [zR 34 0, zI (a : Int), zI (b : Int), zI c, zI t, zU] [] σ (rI K)) (I := fun t c => c = cvA (W0 s 0 t.toNat a b)) (fun c hc => ?_) (fun t c t0 tl hc nx => ?_) (Int.le_refl 0) (by omega) rfl)
  · subst hc
    exact gX11_along_6 _ _ _ (s 1) σ ⟨fun _ => h, fun q => absurd (by rw [hs]; exact Int.le_refl _) q⟩
  · have okt := okD_W0 hw (m := 0) t.toNat (by omega)
    have wnx : W0 s 0 (t + 1).toNat = lay1 s 0 t 1 (lay1 s 0 t 0 (W0 s 0 t.toNat)) := by
      rw [show (t + 1).toNat = t.toNat + 1 by omega]
      show lay1 s 0 (t.toNat : Int) 1 (lay1 s 0 (t.toNat : Int) 0 (W0 s 0 t.toNat)) = _
      rw [Int.toNat_of_nonneg t0]
    have one : ∀ (e : Int) (D : Nat → Nat → Int) (c : Int), (e = 0 ∨ e = 1) → okD (s 0) 60 D → c = cvA (D a b) → (∀ c', c' = cvA (lay1 s 0 t e D a b) → Runs 3 mX11_along 20 [zR 34 0, zI (a : Int), zI (b : Int), zI c', zI t, zI (e + 1)] [] σ (rI K)) → Runs 3 mX11_along 20 [zR 34 0, zI (a : Int), zI (b : Int), zI c, zI t, zI e] [] σ (rI K) := fun e D c he okD2 hc2 nx2 => by
      have hv : vst s t e := ⟨t0, tl, he⟩
      have v := vst_ok hw hv
      have bd := okD_b (by omega) okD2 a b
      have no : ¬ ((wayS s t 0 = 2 ∨ wayS s t 0 = e) ∧ (a = ea s t e ∧ b = ea s t (1 - e)) ∧ sg s t 2 < D a b) → c = cvA (lay1 s 0 t e D a b) := fun q => by
        unfold lay1
        rw [if_neg q]
        exact hc2
      refine gX11_along_20 (a : Int) (b : Int) c t e σ ⟨fun q => absurd q (by omega), fun _ => ⟨by omega, by omega, ?_⟩⟩
      rw [hs]
      refine ⟨fun c1 => ⟨by omega, nx2 _ (no (fun q => c1 (by have := q.2.1.1; omega)))⟩, fun c1 => ⟨by omega, by omega, by omega, fun c2 => ⟨by omega, nx2 _ (no (fun q => c2 (by have := q.2.1.2; omega)))⟩, fun c2 => ⟨hw, by omega, fun c3 => ?_, fun c3 => ⟨by omega, nx2 _ (no (fun q => c3 q.1))⟩⟩⟩⟩
      have hab : a = ea s t e ∧ b = ea s t (1 - e) := by omega
      have yes : sg s t 2 < D a b → sg s t 2 = cvA (lay1 s 0 t e D a b) := fun q => by
        have e2 : lay1 s 0 t e D a b = sg s t 2 := by unfold lay1; rw [if_pos ⟨c3, hab, q⟩]
        rw [e2]
        unfold cvA
        rw [if_neg (by omega)]
      unfold cvA at hc2
      refine ⟨fun c4 => ⟨by omega, by omega, nx2 _ (yes ?_)⟩, fun c4 => ⟨by omega, fun c5 => ⟨by omega, nx2 _ (no (fun q => ?_))⟩, fun c5 => ⟨by omega, by omega, nx2 _ (yes ?_)⟩⟩⟩
      · split at hc2 <;> omega
      · have := q.2.2
        split at hc2 <;> omega
      · split at hc2 <;> omega
    refine gX11_along_6 _ _ c t σ ⟨fun q => absurd q (by rw [hs]; omega), fun _ => ?_⟩
    refine one 0 _ c (Or.inl rfl) okt hc (fun c1 h1 => ?_)
    refine one 1 _ c1 (Or.inr rfl) (okD_lay1 hw ⟨t0, tl, Or.inl rfl⟩ okt) h1 (fun c2 h2 => ?_)
    exact gX11_along_20 _ _ c2 t (1 + 1) σ ⟨fun _ => ⟨by omega, nx c2 (by rw [wnx]; exact h2)⟩, fun q => absurd (show (2 : Int) ≤ 1 + 1 by omega) q⟩
theorem prR_step {D : Nat → Nat → Int} {row : Nat → Int} {n : Nat} {t : Int} (t0 : 0 ≤ t) (tl : t < n) {v : Int} : prR D row n (n - t.toNat) v = if 1000000 ≤ D (row t.toNat).toNat (row ((t.toNat + 1) % n)).toNat then -9 else prR D row n (n - (t + 1).toNat) (v + D (row t.toNat).toNat (row ((t.toNat + 1) % n)).toNat) := by
  have e : n - t.toNat = (n - (t + 1).toNat) + 1 := by omega
  rw [e]
  show (if 1000000 ≤ D (row (n - ((n - (t + 1).toNat) + 1))).toNat (row ((n - ((n - (t + 1).toNat) + 1) + 1) % n)).toNat then -9 else prR D row n (n - (t + 1).toNat) (v + D (row (n - ((n - (t + 1).toNat) + 1))).toNat (row ((n - ((n - (t + 1).toNat) + 1) + 1) % n)).toNat)) = _
  rw [show n - ((n - (t + 1).toNat) + 1) = t.toNat by omega]
/-- the reference's procession, behind the row's end -/
theorem qX11_procession (hw : WF s) {σ : Hp} (hs : σ 36 0 = su s 6 0) {n : Nat} (hn : s 6 = n) (hn2 : 2 ≤ n) (h : K (prR (W0 s 0 (s 1).toNat) (fun i => s (113 + i)) n n 0) σ) : Runs 4 mX11_procession 32 [zR 34 0, zI (n : Int), zI 0, zI 0, zU] [] σ (rI K) := by
  have w6 := hw.2.2.2.2.2.2.1
  have wrow := hw.2.2.2.2.2.2.2.2.2.2.2.2.2
  have hw6 := WF_6 hw
  have okt := okD_W0 hw (m := 0) (s 1).toNat (by have := hw.2.1; omega)
  have e1 : (su s 6 0) 1 = s 1 := rfl
  have eW : W0 (su s 6 0) 0 ((su s 6 0) 1).toNat = W0 s 0 (s 1).toNat := by rw [e1]; exact W0_6 _
  generalize hD : W0 s 0 (s 1).toNat = D at *
  refine upto (α := Int) (N := n) (R := fun t c => Runs 4 mX11_procession 32 [zR 34 0, zI (n : Int), zI c, zI t, zU] [] σ (rI K)) (I := fun t c => prR D (fun i => s (113 + i)) n (n - t.toNat) c = prR D (fun i => s (113 + i)) n n 0 ∧ 0 ≤ c ∧ c ≤ 60 * t) (fun c hc => ?_) (fun t c t0 tl hc nx => ?_) (Int.le_refl 0) (by omega) ⟨rfl, by omega⟩
  · refine gX11_procession_32 (n : Int) c n σ ⟨fun _ => ?_, fun q => absurd (Int.le_refl _) q⟩
    obtain ⟨hc, -⟩ := hc
    rw [show n - (n : Int).toNat = 0 by omega] at hc
    rw [← hc] at h
    exact h
  · obtain ⟨hc, c0, c1⟩ := hc
    rw [prR_step t0 tl] at hc
    have zr : zrem (t + 1) n = (t + 1) % n := zrem_eq ⟨by omega, by omega⟩ ⟨by omega, by omega⟩ (by omega) (by omega)
    have zl := Int.emod_lt_of_pos (t + 1) (show (0 : Int) < n by omega)
    have z0 := Int.emod_nonneg (t + 1) (show (n : Int) ≠ 0 by omega)
    have zc : ((t + 1) % (n : Int)) = (((t.toNat + 1) % n : Nat) : Int) := by
      have : t + 1 = ((t.toNat + 1 : Nat) : Int) := by omega
      rw [this]
      norm_cast
    refine gX11_procession_32 (n : Int) c t σ ⟨fun q => absurd q (by omega), fun _ => ?_⟩
    rw [zr, hs]
    have r1 := wrow t.toNat (by omega)
    have r2 := wrow ((t.toNat + 1) % n) (by omega)
    have i1 : (113 + t).toNat = 113 + t.toNat := by omega
    have i2 : (113 + (t + 1) % (n : Int)).toNat = 113 + (t.toNat + 1) % n := by omega
    rw [i1, i2, su_ne (by omega), su_ne (by omega)]
    generalize ha : s (113 + t.toNat) = x1 at *
    generalize hb : s (113 + (t.toNat + 1) % n) = x2 at *
    refine ⟨by omega, by omega, by omega, by omega, by omega, by omega, ?_⟩
    have run := qX11_along (K := fun z2 σ1 => ((0 ≤ z2 → (-2147483648 ≤ c + z2 ∧ c + z2 ≤ 2147483647) ∧ (-2147483648 ≤ t + 1 ∧ t + 1 ≤ 2147483647) ∧ Runs 4 mX11_procession 32 [zR 34 0, zI (n : Int), zI (c + z2), zI (t + 1), zU] [] σ1 (rI K)) ∧ (¬ 0 ≤ z2 → rI K (some (-9)) σ1))) hw6 hs (a := x1.toNat) (b := x2.toNat)
    rw [Int.toNat_of_nonneg r1.1, Int.toNat_of_nonneg r2.1] at run
    refine run ?_
    rw [eW]
    have bd := okt x1.toNat x2.toNat
    unfold cvA
    by_cases q : 1000000 ≤ D x1.toNat x2.toNat
    · rw [if_pos q]
      rw [if_pos q] at hc
      refine ⟨fun z => absurd z (by omega), fun _ => ?_⟩
      rw [← hc] at h
      exact h
    · rw [if_neg q]
      rw [if_neg q] at hc
      exact ⟨fun _ => ⟨by omega, by omega, nx _ ⟨hc, by omega, by omega⟩⟩, fun z => absurd (by omega) z⟩
/-- the class's -/
theorem qX0_roundOfRow (hw : WF s) {σ : Hp} (hL : L21 σ (W0 s 0 (s 1).toNat)) {n : Nat} (e3 : σ 1 0 3 = n) (hn : s 6 = n) (hn2 : 2 ≤ n) (hr : ∀ i : Nat, (i : Int) < s 6 → σ 10 0 i = s (113 + i)) (h : K (prR (W0 s 0 (s 1).toNat) (fun i => s (113 + i)) n n 0) σ) : Runs 0 mX0_roundOfRow 0 [zR 19 0, zU, zU, zU, zU] [] σ (rI K) := by
  have w6 := hw.2.2.2.2.2.2.1
  have wrow := hw.2.2.2.2.2.2.2.2.2.2.2.2.2
  have okt := okD_W0 hw (m := 0) (s 1).toNat (by have := hw.2.1; omega)
  generalize hD : W0 s 0 (s 1).toNat = D at *
  refine gX0_roundOfRow_0 σ (upto (α := Int) (N := n) (R := fun t c => Runs 0 mX0_roundOfRow 4 [zR 19 0, zI c, zI t, zU, zU] [] σ (rI K)) (I := fun t c => prR D (fun i => s (113 + i)) n (n - t.toNat) c = prR D (fun i => s (113 + i)) n n 0 ∧ 0 ≤ c ∧ c ≤ 60 * t) (fun c hc => ?_) (fun t c t0 tl hc nx => ?_) (Int.le_refl 0) (by omega) ⟨rfl, by omega⟩)
  · refine gX0_roundOfRow_4 c n σ ⟨fun _ => ?_, fun q => absurd (by rw [e3]; exact Int.le_refl _) q⟩
    obtain ⟨hc, -⟩ := hc
    rw [show n - (n : Int).toNat = 0 by omega] at hc
    rw [← hc] at h
    exact h
  · obtain ⟨hc, c0, c1⟩ := hc
    rw [prR_step t0 tl] at hc
    have r1 := wrow t.toNat (by omega)
    have f1 := hr t.toNat (by omega)
    refine gX0_roundOfRow_4 c t σ ⟨fun q => absurd q (by omega), fun _ => ⟨by omega, fun c2 => ?_, fun c2 => ?_⟩⟩
    · have ez : (t.toNat + 1) % n = 0 := by rw [show t.toNat + 1 = n by omega]; exact Nat.mod_self n
      rw [ez] at hc
      have r0 := wrow 0 (by omega)
      have f0 := hr 0 (by omega)
      rw [f1, f0]
      have bd := okt (s (113 + t.toNat)).toNat (s (113 + 0)).toNat
      rw [hL _ _ (by omega) (by omega)]
      refine ⟨by omega, by omega, by omega, fun c3 => ⟨by omega, by omega, nx _ ?_⟩, fun c3 => ?_⟩
      · rw [if_neg (by omega)] at hc
        exact ⟨hc, by omega, by omega⟩
      · rw [if_pos (by omega)] at hc
        rw [← hc] at h
        exact h
    · have ez : (t.toNat + 1) % n = t.toNat + 1 := Nat.mod_eq_of_lt (by omega)
      rw [ez] at hc
      have r0 := wrow (t.toNat + 1) (by omega)
      have f0 := hr (t.toNat + 1) (by omega)
      have ei : (t + 1).toNat = t.toNat + 1 := by omega
      rw [ei] at hc ⊢
      rw [f1, f0]
      have bd := okt (s (113 + t.toNat)).toNat (s (113 + (t.toNat + 1))).toNat
      rw [hL _ _ (by omega) (by omega)]
      refine ⟨by omega, by omega, by omega, by omega, by omega, fun c3 => ⟨by omega, by omega, fun z1 ez1 => nx _ ?_⟩, fun c3 => ?_⟩
      · rw [if_neg (by omega)] at hc
        rw [ei, ez1]
        exact ⟨hc, by omega, by omega⟩
      · rw [if_pos (by omega)] at hc
        rw [← hc] at h
        exact h
/-- the reference's judge -/
theorem qX11_judge (hw : WF s) {σ : Hp} (hs : σ 36 0 = s) {n : Nat} (hn : s 0 = n) (h : ∀ σ' r, Off [46] σ σ' → JD s n r → K r σ') : Runs 4 mX11_judge 0 [zR 34 0, zU, zU] [] σ (rI K) := by
  have w0 := hw.1
  have w1 := hw.2.1
  have wst := hw.2.2.2.2.2.2.2.2.2.2.2.1
  refine gX11_judge_0 σ (upto (α := Unit) (N := s 1) (R := fun t c => Runs 4 mX11_judge 2 [zR 34 0, zI t, zU] [] σ (rI K)) (I := fun t c => ∀ t' : Int, 0 ≤ t' → t' < t → kept s (s 3) t') (fun c hc => ?_) (fun t c t0 tl hc nx => ?_) (a := ()) (Int.le_refl 0) (by omega) (fun t' h0 hl => by omega))
  · refine gX11_judge_2 (s 1) σ ⟨fun _ => ?_, fun q => absurd (by rw [hs]; exact Int.le_refl _) q⟩
    refine qX11_findsFar (by rw [hs]; exact hw) (by omega) (fun σ1 o1 l1 => ?_)
    rw [hs] at l1
    have okf := okD_FF hw (m := 0)
    have e36 : σ1 36 0 = s := by rw [o1 36 (by decide)]; exact hs
    have fin : ∀ r, FA (FF s 0) n r → K r σ1 := fun r hr => h σ1 r o1 (Or.inl ⟨fun t h0 hl => hc t h0 hl, hr⟩)
    generalize FF s 0 = D at *
    refine upto (α := Unit) (N := n) (R := fun t c => Runs 4 mX11_judge 56 [zR 34 0, zI t, zU] [] σ1 (rI K)) (I := fun t c => ∀ a b : Nat, (a : Int) < t → b < n → ¬ AP D a b) (fun c hI => ?_) (fun t c h0 hl hI nx => ?_) (a := ()) (Int.le_refl 0) (by omega) (fun a b ha => absurd ha (by omega))
    · exact gX11_judge_56 n σ1 ⟨fun _ => fin _ (Or.inl ⟨rfl, fun a b ha hb => hI a b (by omega) hb⟩), fun q => absurd (by rw [e36, hn]; exact Int.le_refl _) q⟩
    · refine gX11_judge_56 t σ1 ⟨fun q => absurd q (by rw [e36]; omega), fun _ => ?_⟩
      refine upto (α := Unit) (N := n) (R := fun u c => Runs 4 mX11_judge 68 [zR 34 0, zI t, zI u] [] σ1 (rI K)) (I := fun u c => ∀ a b : Nat, ((a : Int) < t ∨ ((a : Int) = t ∧ (b : Int) < u)) → b < n → ¬ AP D a b) (fun c hI2 => ?_) (fun u c u0 ul hI2 nx2 => ?_) (a := ()) (Int.le_refl 0) (by omega) (fun a b ha hb => hI a b (by omega) hb)
      · exact gX11_judge_68 t n σ1 ⟨fun _ => ⟨by omega, nx () (fun a b ha hb => hI2 a b (by omega) hb)⟩, fun q => absurd (by rw [e36, hn]; exact Int.le_refl _) q⟩
      · have old := l1 t.toNat u.toNat (by omega) (by omega)
        have cf := cvF_far (a := t.toNat) (b := u.toNat) (okD_b (by omega) okf t.toNat u.toNat).2
        refine gX11_judge_68 t u σ1 ⟨fun q => absurd q (by rw [e36]; omega), fun _ => ?_⟩
        rw [ix h0 u0, old]
        refine ⟨by omega, by omega, by omega, fun q => ⟨by omega, nx2 () (fun a b ha hb => ?_)⟩, fun q => ⟨by omega, by omega, by omega, fin _ (Or.inr ⟨t.toNat, u.toNat, by omega, by omega, cf.mp (by omega), by omega, fun a' b' ha hb hlt => hI2 a' b' (by omega) hb⟩)⟩⟩
        by_cases z : (a : Int) < t ∨ ((a : Int) = t ∧ (b : Int) < u)
        · exact hI2 a b z hb
        · have ea : a = t.toNat := by omega
          have eb : b = u.toNat := by omega
          rw [ea, eb]
          exact fun y => by have := cf.mpr y; omega
  · have st := wst t t0 tl
    unfold stOK at st
    have nx1 : kept s (s 3) t → Runs 4 mX11_judge 2 [zR 34 0, zI (t + 1), zU] [] σ (rI K) := fun hk => nx () (fun t' h0 hl => by
      by_cases q : t' = t
      · rw [q]; exact hk
      · exact hc t' h0 (by omega))
    refine gX11_judge_2 t σ ⟨fun q => absurd q (by rw [hs]; omega), fun _ => ?_⟩
    rw [hs]
    refine ⟨by omega, fun c2 => ⟨by omega, nx1 (Or.inl (by omega))⟩, fun c2 => ⟨by omega, fun c3 => ⟨by omega, nx1 (Or.inr c3)⟩, fun c3 => h σ t Off.rf (Or.inr ⟨t0, tl, fun q => q.elim (fun z => by omega) c3, hc⟩)⟩⟩
/-- the class's far -/
theorem qX9_nearestPointing (hw : WF s) {σ : Hp} (ht : TRc σ s) (hm : TMs σ s) (h10 : σ 11 0 3 = s 10) (e5 : ∀ t : Int, 0 ≤ t → t < s 1 → σ 5 0 t.toNat = sg s t 4) {n : Nat} (hn : s 0 = n)
    (h : ∀ σ' r, Off [16, 21] σ σ' → AM (fun b => musts s b ∧ 0 ≤ LG (FF (su s 3 b) 0) n) (fun b => LG (FF (su s 3 b) 0) n) (zshl 1 (s 1)) r → K r σ') : Runs 3 mX9_nearestPointing 0 [zR 26 0, zU, zU, zU, zU] [] σ (rI K) := by
  have w0 := hw.1
  have w1 := hw.2.1
  have nb := shl_b w1
  generalize hF : (fun b => LG (FF (su s 3 b) 0) n) = F at h
  have hFb : ∀ b, LG (FF (su s 3 b) 0) n = F b := fun b => by rw [← hF]
  have h : ∀ σ' r, Off [16, 21] σ σ' → AM (fun b => musts s b ∧ 0 ≤ F b) F (zshl 1 (s 1)) r → K r σ' := fun σ' r o a => by
    refine h σ' r o ?_
    have : (fun b => musts s b ∧ 0 ≤ LG (FF (su s 3 b) 0) n) = (fun b => musts s b ∧ 0 ≤ F b) := by funext b; rw [hFb]
    rw [this]; exact a
  refine gX9_nearestPointing_0 σ (upto (α := Hp × Int × Int × Int) (N := zshl 1 (s 1)) (R := fun b q => Runs 3 mX9_nearestPointing 8 [zR 26 0, zI q.2.1, zI q.2.2.1, zI b, zU] [] q.1 (rI K)) (I := fun b q => Off [16, 21] σ q.1 ∧ (0 ≤ q.2.2.2 ∧ q.2.2.2 < 16384) ∧ TRc q.1 (su s 3 q.2.2.2) ∧ AM (fun b => musts s b ∧ 0 ≤ F b) F b q.2.1 ∧ (0 ≤ q.2.1 → q.2.2.1 = F q.2.1) ∧ (q.2.1 < 0 → q.2.2.1 = 1000000)) (fun q hI => ?_) (fun b q b0 bl hI nx => ?_) (a := (σ, -9, 1000000, s 3)) (Int.le_refl 0) (by omega) ⟨Off.rf, hw.2.2.2.1, by rw [su_id]; exact ht, AM.zero, fun z => absurd (show (0 : Int) ≤ -9 from z) (by decide), fun _ => rfl⟩)
  · obtain ⟨σ1, r, l, p⟩ := q
    obtain ⟨ho, -, -, ha, -, -⟩ := hI
    dsimp only at ho ha
    have e1 : σ1 1 0 1 = s 1 := by rw [ho 1 (by decide)]; exact hm.2.1
    exact gX9_nearestPointing_8 r l _ σ1 ⟨fun _ => h σ1 r ho ha, fun z => absurd (by rw [e1]; exact Int.le_refl _) z⟩
  · obtain ⟨σ1, r, l, p⟩ := q
    obtain ⟨ho, hp0, htp, ha, hlr, hl9⟩ := hI
    dsimp only at ho hp0 htp ha hlr hl9
    have e1 : σ1 1 0 1 = s 1 := by rw [ho 1 (by decide)]; exact hm.2.1
    have hr9 := ha.r9
    refine gX9_nearestPointing_8 r l b σ1 ⟨fun z => absurd z (by rw [e1]; omega), fun _ => ?_⟩
    refine qX6_firstMustUnkept (s := s) hw e1 (fun t a0 a1 => by rw [ho 5 (by decide)]; exact e5 t a0 a1) (fun hmu => ⟨fun _ σ3 e3 => ?_, fun z => absurd rfl z⟩) (fun t t0 t1 hbad _ => ⟨fun z => absurd z (by omega), fun _ => ⟨by omega, nx (σ1, r, l, p) ⟨ho, hp0, htp, ha.skip (by omega) (fun b' x y z => ?_), hlr, hl9⟩⟩⟩)
    · subst e3
      have hb : 0 ≤ b ∧ b < 16384 := by omega
      have hwp := WF_su hw (k := 3) (v := p) (Or.inl ⟨Or.inl rfl, hp0⟩)
      have hwb := WF_su hw (k := 3) (v := b) (Or.inl ⟨Or.inl rfl, hb⟩)
      have ht3 : TRc (zup σ1 16 0 4 (tBits σ1 b)) (su s 3 b) := by
        have := TRc_point hwp htp (by rw [ho 11 (by decide), su_ne (by omega)]; exact h10) hb
        rw [su_su] at this
        exact this
      have o3 : Off [16, 21] σ (zup σ1 16 0 4 (tBits σ1 b)) := ho.up (by decide)
      have m3 : TMs (zup σ1 16 0 4 (tBits σ1 b)) (su s 3 b) := TMs_su (by omega) (hm.keep o3 (by decide) (by decide) (by decide) (by decide))
      refine qX0_lay hwb (by omega) ht3 m3 (fun σ4 o4 k4 l4 => ?_)
      have m4 : TMs σ4 (su s 3 b) := m3.keep o4 (by decide) (by decide) (by decide) (by decide)
      refine qX0_join hwb m4 l4 (fun σ5 o5 l5 => ?_)
      have o35 := (o3.tr o4).tr (o5.mono (by decide) : Off [16, 21] σ4 σ5)
      have t5 : TRc σ5 (su s 3 b) := ht3.keep (fun j hj => by rw [o5 16 (by decide)]; exact k4 j hj)
      have en : σ5 1 0 0 = n := by rw [o35 1 (by decide), hm.1]; exact hn
      have lb := LG_b (n := n) (m := 0) (okD_FF hwb (m := 0))
      rw [hFb] at lb
      refine qX0_farthest en (by omega) ?_
      have lc : LG (σ5 21) n = F b := by rw [← hFb]; exact LG_congr (fun a c ha hc hac => l5 a c (by omega) (by omega) hac)
      rw [lc]
      refine ⟨fun c => ⟨by omega, nx (σ5, r, l, b) ⟨o35, hb, t5, ha.skip (by omega) (fun b' x y z => ?_), hlr, hl9⟩⟩, fun c => ⟨fun c2 => ⟨by omega, nx (σ5, r, l, b) ⟨o35, hb, t5, ?_, hlr, hl9⟩⟩, fun c2 => ⟨by omega, nx (σ5, b, F b, b) ⟨o35, hb, t5, ha.less b0 ⟨hmu, by omega⟩ (fun z => by rw [← hlr z]; omega), fun _ => rfl, fun z => absurd z (by dsimp only; omega)⟩⟩⟩⟩
      · have : b' = b := by omega
        rw [this] at z
        have := z.2
        omega
      · have hr0 : 0 ≤ r := by
          by_cases y : r < 0
          · have := hl9 y; omega
          · omega
        exact ha.keep hr0 (by rw [← hlr hr0]; exact c2)
    · have : b' = b := by omega
      rw [this] at z
      exact hbad (z.1 t t0 t1)
end Rounds
