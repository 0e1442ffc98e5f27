/-! streets as they point at one minute, for ever -/
theorem upto {α : Type} {N : Int} {R I : Int → α → Prop} (done : ∀ a, I N a → R N a) (step : ∀ t a, 0 ≤ t → t < N → I t a → (∀ a', I (t + 1) a' → R (t + 1) a') → R t a) {t : Int} {a : α} (h0 : 0 ≤ t) (h1 : t ≤ N) (h : I t a) : R t a := by
  have key : ∀ (n : Nat) (t : Int) (a : α), (N - t).toNat ≤ n → 0 ≤ t → t ≤ N → I t a → R t a := by
    intro n
    induction n with
    | zero =>
      intro t a hn h0 h1 h
      have : t = N := by omega
      subst this
      exact done a h
    | succ n ih =>
      intro t a hn h0 h1 h
      by_cases q : t = N
      · subst q; exact done a h
      · exact step t a h0 (by omega) h (fun a' h' => ih (t + 1) a' (by omega) (by omega) (by omega) h')
  exact key _ t a (Nat.le_refl _) h0 h1 h
def lay1 (s : Nat → Int) (m t e : Int) (D : Nat → Nat → Int) (a b : Nat) : Int := if (wayS s t m = 2 ∨ wayS s t m = e) ∧ (a = ea s t e ∧ b = ea s t (1 - e)) ∧ sg s t 2 < D a b then sg s t 2 else D a b
def W0 (s : Nat → Int) (m : Int) : Nat → Nat → Nat → Int
  | 0 => fun _ _ => 1000000
  | t + 1 => lay1 s m (t : Int) 1 (lay1 s m (t : Int) 0 (W0 s m t))
def stp (k : Nat) (D : Nat → Nat → Int) (a b : Nat) : Int := if a ≠ k ∧ b ≠ k ∧ a ≠ b ∧ D a k < 1000000 ∧ D a k + D k b < D a b then D a k + D k b else D a b
def WK (s : Nat → Int) (m : Int) : Nat → Nat → Nat → Int
  | 0 => W0 s m (s 1).toNat
  | k + 1 => stp k (WK s m k)
def FF (s : Nat → Int) (m : Int) : Nat → Nat → Int := WK s m 10
/-- what holds of such a table -/
def okD (n : Int) (B : Int) (D : Nat → Nat → Int) : Prop := ∀ a b : Nat, (1 ≤ D a b ∧ (D a b ≤ B ∨ D a b = 1000000)) ∧ ((n ≤ (a : Int) ∨ n ≤ (b : Int) ∨ a = b) → D a b = 1000000)
theorem okD_lay1 {s : Nat → Int} (hw : WF s) {m t e : Int} (hv : vst s t e) {D : Nat → Nat → Int} (h : okD (s 0) 60 D) : okD (s 0) 60 (lay1 s m t e D) := by
  intro a b
  have v := vst_ok hw hv
  obtain ⟨h1, h2⟩ := h a b
  have w := hw.2.2.2.2.2.2.2.2.2.2.2.1 t hv.1 hv.2.1
  unfold stOK at w
  unfold lay1
  split
  · rename_i q
    refine ⟨by omega, fun z => ?_⟩
    exfalso
    rcases hv.2.2 with rfl | rfl
    · rw [show (1 : Int) - 0 = 1 by omega] at *
      omega
    · rw [show (1 : Int) - 1 = 0 by omega] at *
      omega
  · exact ⟨h1, h2⟩
theorem okD_W0 {s : Nat → Int} (hw : WF s) {m : Int} : ∀ t : Nat, (t : Int) ≤ s 1 → okD (s 0) 60 (W0 s m t)
  | 0, _ => fun a b => ⟨⟨show (1 : Int) ≤ 1000000 by omega, Or.inr rfl⟩, fun _ => rfl⟩
  | t + 1, h => okD_lay1 hw ⟨by omega, by omega, Or.inr rfl⟩ (okD_lay1 hw ⟨by omega, by omega, Or.inl rfl⟩ (okD_W0 hw t (by omega)))
theorem okD_stp {n B : Int} (hB : 2 * B < 1000000) {D : Nat → Nat → Int} (h : okD n B D) (k : Nat) : okD n (2 * B) (stp k D) := by
  intro a b
  have h1 := h a b
  have h2 := h a k
  have h3 := h k b
  unfold stp
  split
  · rename_i q
    refine ⟨by omega, fun z => ?_⟩
    exfalso
    rcases z with z | z | z
    · have := h2.2 (Or.inl z); omega
    · have := h3.2 (Or.inr (Or.inl z)); omega
    · exact q.2.2.1 z
  · refine ⟨?_, h1.2⟩
    omega
def Bk : Nat → Int
  | 0 => 60
  | k + 1 => 2 * Bk k
theorem okD_WK {s : Nat → Int} (hw : WF s) {m : Int} : ∀ k : Nat, k ≤ 10 → okD (s 0) (Bk k) (WK s m k)
  | 0, _ => okD_W0 hw _ (by have := hw.2.1; omega)
  | k + 1, h => okD_stp (by
      have : ∀ k : Nat, k < 10 → 2 * Bk k < 1000000 := by decide
      exact this k (by omega)) (okD_WK hw k (by omega)) k
theorem okD_FF {s : Nat → Int} (hw : WF s) {m : Int} : okD (s 0) 61440 (FF s m) := okD_WK hw 10 (Nat.le_refl _)
theorem WK_stay {s : Nat → Int} (hw : WF s) {m : Int} : ∀ j k : Nat, s 0 ≤ (k : Int) → k + j ≤ 10 → WK s m (k + j) = WK s m k
  | 0, _, _, _ => rfl
  | j + 1, k, h, hk => by
    have ih := WK_stay hw (m := m) j k h (by omega)
    rw [← ih]
    show stp (k + j) (WK s m (k + j)) = WK s m (k + j)
    funext a b
    have hd := okD_WK hw (m := m) (k + j) (by omega) a (k + j)
    have := hd.2 (Or.inr (Or.inl (by omega)))
    unfold stp
    rw [if_neg (by rw [this]; omega)]
theorem lay1_no {s : Nat → Int} {m t e : Int} {D : Nat → Nat → Int} (h : ¬ (wayS s t m = 2 ∨ wayS s t m = e)) : lay1 s m t e D = D := by
  funext a b
  unfold lay1
  rw [if_neg (fun q => h q.1)]
theorem z21 {σ : Hp} {x y a b : Nat} {v : Int} : (zup σ 21 x y v) 21 a b = if a = x ∧ b = y then v else σ 21 a b := by
  unfold zup
  by_cases q : a = x ∧ b = y
  · rw [if_pos ⟨rfl, q⟩, if_pos q]
  · rw [if_neg (fun z => q z.2), if_neg q]
/-- the class's table holds D -/
def L21 (σ : Hp) (D : Nat → Nat → Int) : Prop := ∀ a b, a < 10 → b < 10 → σ 21 a b = D a b
theorem L21_step {s : Nat → Int} (hw : WF s) {σ : Hp} {m t e : Int} (hv : vst s t e) {D : Nat → Nat → Int} (h : L21 σ D) (hg : wayS s t m = 2 ∨ wayS s t m = e) : L21 (zup σ 21 (ea s t e) (ea s t (1 - e)) (if sg s t 2 < σ 21 (ea s t e) (ea s t (1 - e)) then sg s t 2 else σ 21 (ea s t e) (ea s t (1 - e)))) (lay1 s m t e D) := by
  intro a b ha hb
  have v := vst_ok hw hv
  rw [z21]
  unfold lay1
  by_cases q : a = ea s t e ∧ b = ea s t (1 - e)
  · rw [if_pos q, h _ _ v.1 v.2.1]
    obtain ⟨rfl, rfl⟩ := q
    by_cases r : sg s t 2 < D (ea s t e) (ea s t (1 - e))
    · rw [if_pos r, if_pos ⟨hg, ⟨rfl, rfl⟩, r⟩]
    · rw [if_neg r, if_neg (fun z => r z.2.2)]
  · rw [if_neg q, if_neg (fun z => q z.2.1)]
    exact h a b ha hb
section Lay
variable {K' : Hp → Prop} {K : Int → Hp → Prop} {s : Nat → Int}
theorem lay_streets (hw : WF s) {σ0 : Hp} {m : Int} (ht : TRc σ0 s) (hst : Std σ0 s m) (hm : TMs σ0 s) (cont : ∀ σ', Off [21] σ0 σ' → L21 σ' (W0 s m (s 1).toNat) → K' σ') {σ : Hp} (ho : Off [21] σ0 σ) (hL : L21 σ (W0 s m 0)) : Runs 2 mX0_lay 35 [zR 19 0, zU, zI 0, zU] [] σ (rV K') := by
  have w1 := hw.2.1
  have w0 := hw.1
  refine upto (α := Hp) (N := s 1) (R := fun t σ => Runs 2 mX0_lay 35 [zR 19 0, zU, zI t, zU] [] σ (rV K')) (I := fun t σ => Off [21] σ0 σ ∧ L21 σ (W0 s m t.toNat)) (fun σ1 hI => ?_) (fun t σ1 h0 hl hI nx => ?_) (Int.le_refl 0) w1.1 ⟨ho, hL⟩
  · have e1 : σ1 1 0 1 = s 1 := by rw [hI.1 1 (by decide)]; exact hm.2.1
    exact gX0_lay_35 (s 1) σ1 ⟨fun _ => cont σ1 hI.1 hI.2, fun q => absurd (show σ1 1 0 1 ≤ s 1 by omega) q⟩
  · obtain ⟨o1, l1⟩ := hI
    have e1 : σ1 1 0 1 = s 1 := by rw [o1 1 (by decide)]; exact hm.2.1
    have e16 : σ1 16 = σ0 16 := o1 16 (by decide)
    have ht1 : TRc σ1 s := ht.keep (fun j _ => by rw [e16])
    have hst1 : Std σ1 s m := by unfold Std; rw [e16]; exact hst
    have hway : tWay σ1 t = wayS s t m := tWay_eq ht1 hst1 ⟨h0, hl⟩
    obtain ⟨t2, t3, t4⟩ := hm.2.2 t h0 hl
    have v0 : vst s t 0 := ⟨h0, hl, Or.inl rfl⟩
    have v1 : vst s t 1 := ⟨h0, hl, Or.inr rfl⟩
    have k0 := vst_ok hw v0
    have k1 := vst_ok hw v1
    rw [show (1 : Int) - 0 = 1 by omega] at k0
    rw [show (1 : Int) - 1 = 0 by omega] at k1
    have wnx : W0 s m (t + 1).toNat = lay1 s m t 1 (lay1 s m t 0 (W0 s m t.toNat)) := by
      rw [show (t + 1).toNat = t.toNat + 1 by omega]
      show lay1 s m (t.toNat : Int) 1 (lay1 s m (t.toNat : Int) 0 (W0 s m t.toNat)) = _
      rw [Int.toNat_of_nonneg h0]
    -- a street's second end
    have second : ∀ σ2, Off [21] σ0 σ2 → L21 σ2 (lay1 s m t 0 (W0 s m t.toNat)) → Runs 2 mX0_lay 95 [zR 19 0, zU, zI t, zI (wayS s t m)] [] σ2 (rV K') := fun σ2 o2 l2 => by
      have e2 : σ2 2 = σ0 2 := o2 2 (by decide)
      have e3 : σ2 3 = σ0 3 := o2 3 (by decide)
      have e4 : σ2 4 = σ0 4 := o2 4 (by decide)
      have go : (wayS s t m = 2 ∨ wayS s t m = 1) → Runs 2 mX0_lay 105 [zR 19 0, zU, zI t, zU] [] σ2 (rV K') := fun hg => by
        refine gX0_lay_105 t σ2 ?_
        rw [e2, e3, e4, t2, t3, t4]
        refine ⟨by omega, by omega, by omega, by omega, by omega, fun σ3 e => ⟨by omega, nx σ3 ?_⟩⟩
        subst e
        refine ⟨o2.up (by decide), ?_⟩
        rw [wnx]
        have := L21_step hw (m := m) v1 l2 hg
        rw [show (1 : Int) - 1 = 0 by omega] at this
        exact this
      refine gX0_lay_95 t (wayS s t m) σ2 ⟨fun c => go (Or.inr c), fun c => ⟨fun c2 => ⟨by omega, nx σ2 ⟨o2, ?_⟩⟩, fun c2 => go (Or.inl c2)⟩⟩
      rw [wnx, lay1_no (fun z => z.elim c2 c)]
      exact l2
    have first : (wayS s t m = 2 ∨ wayS s t m = 0) → Runs 2 mX0_lay 64 [zR 19 0, zU, zI t, zI (wayS s t m)] [] σ1 (rV K') := fun hg => by
      have e2 : σ1 2 = σ0 2 := o1 2 (by decide)
      have e3 : σ1 3 = σ0 3 := o1 3 (by decide)
      have e4 : σ1 4 = σ0 4 := o1 4 (by decide)
      refine gX0_lay_64 t (wayS s t m) σ1 ?_
      rw [e2, e3, e4, t2, t3, t4]
      refine ⟨by omega, by omega, by omega, by omega, by omega, fun σ3 e => second σ3 ?_ ?_⟩
      · subst e; exact o1.up (by decide)
      · subst e
        have := L21_step hw (m := m) v0 l1 hg
        rw [show (1 : Int) - 0 = 1 by omega] at this
        exact this
    refine gX0_lay_35 t σ1 ⟨fun q => absurd q (by omega), fun _ => ?_⟩
    rw [hway]
    refine ⟨fun c => first (Or.inr c), fun c => ⟨fun c2 => second σ1 o1 ?_, fun c2 => first (Or.inl c2)⟩⟩
    rw [lay1_no (fun z => z.elim c2 c)]
    exact l1
/-- lay: the single streets -/
theorem qX0_lay (hw : WF s) {σ : Hp} {m : Int} (hmm : 0 ≤ m ∧ m ≤ 2879) (ht : TRc σ s) (hm : TMs σ s) (cont : ∀ σ', Off [16, 21] σ σ' → (∀ j, j < 7 → σ' 16 0 j = σ 16 0 j) → L21 σ' (W0 s m (s 1).toNat) → K' σ') : Runs 2 mX0_lay 0 [zR 19 0, zI m, zU, zU] [] σ (rV K') := by
  have w7 := hw.2.2.2.2.2.2.2.1
  have w9 := hw.2.2.2.2.2.2.2.2.2.1
  refine gX0_lay_0 m σ (upto (α := Hp) (N := 10) (R := fun t σ1 => Runs 2 mX0_lay 2 [zR 19 0, zI m, zI t, zU] [] σ1 (rV K')) (I := fun t σ1 => Off [21] σ σ1 ∧ ∀ a b : Nat, (a : Int) < t → b < 10 → σ1 21 a b = 1000000) (fun σ1 hI => ?_) (fun t σ1 h0 hl hI nx => ?_) (Int.le_refl 0) (by omega) ⟨Off.rf, fun a b ha hb => absurd ha (by omega)⟩)
  · obtain ⟨o1, l1⟩ := hI
    have e16 : σ1 16 = σ 16 := o1 16 (by decide)
    have ht1 : TRc σ1 s := ht.keep (fun j _ => by rw [e16])
    have r1 := ht1.2.1
    have r2 := ht1.2.2.1
    obtain ⟨k1, k2⟩ := tStand_keep (σ := σ1) (m := m)
    refine gX0_lay_2 m 10 σ1 ⟨fun _ => ⟨by omega, by omega, by omega, fun σ2 e => ?_⟩, fun q => absurd (Int.le_refl 10) q⟩
    subst e
    refine lay_streets hw (m := m) (ht1.keep k1) (Std.of hw ht1 hmm.1) (hm.keep ((o1.mono (by decide)).tr (k2.mono (by decide)) : Off [16, 21] σ (tStand σ1 m)) (by decide) (by decide) (by decide) (by decide)) (fun σ3 o3 l3 => cont σ3 ?_ (fun j hj => ?_) l3) Off.rf (fun a b ha hb => ?_)
    · exact ((o1.mono (by decide)).tr (k2.mono (by decide))).tr (o3.mono (by decide))
    · rw [o3 16 (by decide), k1 j hj, e16]
    · rw [k2 21 (by decide)]
      exact l1 a b (by omega) hb
  · obtain ⟨o1, l1⟩ := hI
    refine gX0_lay_2 m t σ1 ⟨fun q => absurd q (by omega), fun _ => ⟨by omega, fill21 ⟨by omega, nx _ ⟨o1.tr zfillN_off, fun a b ha hb => ?_⟩⟩⟩⟩
    unfold zfillN
    by_cases q : a = t.toNat
    · rw [if_pos ⟨rfl, q, hb⟩]
    · rw [if_neg (fun z => q z.2.1)]
      exact l1 a b (by omega) hb
theorem zup_id {σ : Hp} {g i j : Nat} {v : Int} (h : v = σ g i j) : zup σ g i j v = σ := by
  funext g' i' j'
  unfold zup
  split
  · rename_i q
    obtain ⟨rfl, rfl, rfl⟩ := q
    exact h
  · rfl
theorem qX0_joinBy {σ : Hp} {x y : Nat} {w : Int} (hn : 0 ≤ σ 1 0 0 ∧ σ 1 0 0 ≤ 10) (hx : x < 10) (hyl : y < 10) (hw : 0 ≤ w ∧ w ≤ 1000000) (hy : ∀ b, b < 10 → 0 ≤ σ 21 y b ∧ σ 21 y b ≤ 1000000) (hxy : x ≠ y) (cont : ∀ σ', Off [21] σ σ' → (∀ a b, a < 10 → b < 10 → σ' 21 a b = if a = x ∧ (b : Int) < σ 1 0 0 ∧ w + σ 21 y b < σ 21 x b then w + σ 21 y b else σ 21 a b) → K' σ') : Runs 1 mX0_joinBy 0 [zR 19 0, zR 21 x, zR 21 y, zI w, zU] [] σ (rV K') := by
  refine gX0_joinBy_0 w x y σ (upto (α := Hp) (N := σ 1 0 0) (R := fun t σ1 => Runs 1 mX0_joinBy 3 [zR 19 0, zR 21 x, zR 21 y, zI w, zI t] [] σ1 (rV K')) (I := fun t σ1 => Off [21] σ σ1 ∧ ∀ a b, a < 10 → b < 10 → σ1 21 a b = if a = x ∧ (b : Int) < t ∧ w + σ 21 y b < σ 21 x b then w + σ 21 y b else σ 21 a b) (fun σ1 hI => ?_) (fun t σ1 h0 hl hI nx => ?_) (Int.le_refl 0) hn.1 ⟨Off.rf, fun a b ha hb => by rw [if_neg (by omega)]⟩)
  · obtain ⟨o1, l1⟩ := hI
    have e1 : σ1 1 = σ 1 := o1 1 (by decide)
    exact gX0_joinBy_3 w (σ 1 0 0) x y σ1 ⟨fun _ => cont σ1 o1 l1, fun q => absurd (by rw [e1]; exact Int.le_refl _) q⟩
  · obtain ⟨o1, l1⟩ := hI
    have e1 : σ1 1 = σ 1 := o1 1 (by decide)
    have hyt := hy t.toNat (by omega)
    have ey : σ1 21 y t.toNat = σ 21 y t.toNat := by rw [l1 y _ hyl (by omega), if_neg (fun z => hxy z.1.symm)]
    have ex : σ1 21 x t.toNat = σ 21 x t.toNat := by rw [l1 x _ hx (by omega), if_neg (by omega)]
    refine gX0_joinBy_3 w t x y σ1 ⟨fun q => absurd q (by rw [e1]; omega), fun _ => ⟨by omega, by omega, by omega, by omega, by omega, fun σ2 e => nx σ2 ?_⟩⟩
    subst e
    rw [ey, ex]
    refine ⟨o1.up (by decide), fun a b ha hb => ?_⟩
    rw [z21]
    by_cases q : a = x ∧ b = t.toNat
    · rw [if_pos q]
      obtain ⟨rfl, rfl⟩ := q
      by_cases r : w + σ 21 y t.toNat < σ 21 a t.toNat
      · rw [if_pos r, if_pos ⟨rfl, by omega, r⟩]
      · rw [if_neg r, if_neg (fun z => r z.2.2)]
    · rw [if_neg q, l1 a b ha hb]
      by_cases r : a = x
      · have hb' : b ≠ t.toNat := fun z => q ⟨r, z⟩
        have : ((b : Int) < t) ↔ ((b : Int) < t + 1) := by omega
        simp only [this]
      · rw [if_neg (fun z => r z.1), if_neg (fun z => r z.1)]
theorem qX0_joinBy_self {σ : Hp} {x : Nat} {w : Int} (hn : 0 ≤ σ 1 0 0 ∧ σ 1 0 0 ≤ 10) (hw : 0 ≤ w ∧ w ≤ 1000000) (hy : ∀ b, b < 10 → 0 ≤ σ 21 x b ∧ σ 21 x b ≤ 1000000) (cont : K' σ) : Runs 1 mX0_joinBy 0 [zR 19 0, zR 21 x, zR 21 x, zI w, zU] [] σ (rV K') := by
  refine gX0_joinBy_0 w x x σ (upto (α := Hp) (N := σ 1 0 0) (R := fun t σ1 => Runs 1 mX0_joinBy 3 [zR 19 0, zR 21 x, zR 21 x, zI w, zI t] [] σ1 (rV K')) (I := fun t σ1 => σ1 = σ) (fun σ1 hI => ?_) (fun t σ1 h0 hl hI nx => ?_) (Int.le_refl 0) hn.1 rfl)
  · subst hI
    exact gX0_joinBy_3 w (σ1 1 0 0) x x σ1 ⟨fun _ => cont, fun q => absurd (Int.le_refl _) q⟩
  · subst hI
    have hyt := hy t.toNat (by omega)
    refine gX0_joinBy_3 w t x x σ1 ⟨fun q => absurd q (by omega), fun _ => ⟨by omega, by omega, by omega, by omega, by omega, fun σ2 e => nx σ2 ?_⟩⟩
    rw [e]
    exact zup_id (by rw [if_neg (by omega)])
theorem stp_row {k : Nat} {D : Nat → Nat → Int} {b : Nat} : stp k D k b = D k b := by unfold stp; rw [if_neg (fun z => z.1 rfl)]
theorem stp_far {k : Nat} {D : Nat → Nat → Int} {a b : Nat} (h : 1000000 ≤ D a k) : stp k D a b = D a b := by unfold stp; rw [if_neg (fun z => by omega)]
theorem qX0_join (hw : WF s) {σ : Hp} {m : Int} (hm : TMs σ s) (h : L21 σ (W0 s m (s 1).toNat)) (cont : ∀ σ', Off [21] σ σ' → (∀ a b, a < 10 → b < 10 → a ≠ b → σ' 21 a b = FF s m a b) → K' σ') : Runs 2 mX0_join 0 [zR 19 0, zU, zU] [] σ (rV K') := by
  have w0 := hw.1
  have ok0 := okD_WK hw (m := m) 0 (by omega)
  refine gX0_join_0 σ (upto (α := Hp) (N := s 0) (R := fun k σ1 => Runs 2 mX0_join 2 [zR 19 0, zI k, zU] [] σ1 (rV K')) (I := fun k σ1 => Off [21] σ σ1 ∧ (∀ a b, a < 10 → b < 10 → a ≠ b → σ1 21 a b = WK s m k.toNat a b) ∧ ∀ a, a < 10 → 1 ≤ σ1 21 a a ∧ σ1 21 a a ≤ 1000000) (fun σ1 hI => ?_) (fun k σ1 k0 kl hI nx => ?_) (Int.le_refl 0) (by omega) ⟨Off.rf, fun a b ha hb _ => h a b ha hb, fun a ha => by
    have e1 : W0 s m (s 1).toNat a a = 1000000 := (ok0 a a).2 (Or.inr (Or.inr rfl))
    have e2 := h a a ha ha
    rw [e2, e1]
    omega⟩)
  · obtain ⟨o1, l1, d1⟩ := hI
    have e1 : σ1 1 0 0 = s 0 := by rw [o1 1 (by decide)]; exact hm.1
    refine gX0_join_2 (s 0) σ1 ⟨fun _ => cont σ1 o1 (fun a b ha hb hab => ?_), fun q => absurd (by rw [e1]; exact Int.le_refl _) q⟩
    have st := WK_stay hw (m := m) (10 - (s 0).toNat) (s 0).toNat (by omega) (by omega)
    rw [show (s 0).toNat + (10 - (s 0).toNat) = 10 by omega] at st
    unfold FF
    rw [st]
    exact l1 a b ha hb hab
  · obtain ⟨o1, l1, d1⟩ := hI
    have e1 : σ1 1 0 0 = s 0 := by rw [o1 1 (by decide)]; exact hm.1
    generalize hD : WK s m k.toNat = D at l1
    have okk := okD_WK hw (m := m) k.toNat (by omega)
    rw [hD] at okk
    have hnx : WK s m (k + 1).toNat = stp k.toNat D := by
      rw [show (k + 1).toNat = k.toNat + 1 by omega, ← hD]
      rfl
    refine gX0_join_2 k σ1 ⟨fun q => absurd q (by omega), fun _ => ?_⟩
    refine upto (α := Hp) (N := s 0) (R := fun a0 σ2 => Runs 2 mX0_join 15 [zR 19 0, zI k, zI a0] [] σ2 (rV K')) (I := fun a0 σ2 => Off [21] σ σ2 ∧ (∀ a b, a < 10 → b < 10 → a ≠ b → σ2 21 a b = if (a : Int) < a0 then stp k.toNat D a b else D a b) ∧ ∀ a, a < 10 → 1 ≤ σ2 21 a a ∧ σ2 21 a a ≤ 1000000) (fun σ2 hI => ?_) (fun a0 σ2 h0 hl hI nx2 => ?_) (Int.le_refl 0) (by omega) ⟨o1, fun a b ha hb hab => by rw [if_neg (by omega)]; exact l1 a b ha hb hab, d1⟩
    · obtain ⟨o2, l2, d2⟩ := hI
      have e2 : σ2 1 0 0 = s 0 := by rw [o2 1 (by decide)]; exact hm.1
      refine gX0_join_15 k (s 0) σ2 ⟨fun _ => ⟨by omega, nx σ2 ⟨o2, fun a b ha hb hab => ?_, d2⟩⟩, fun q => absurd (by rw [e2]; exact Int.le_refl _) q⟩
      rw [hnx, l2 a b ha hb hab]
      by_cases q : (a : Int) < s 0
      · rw [if_pos q]
      · rw [if_neg q]
        by_cases r : a = k.toNat
        · omega
        · exact (stp_far (by rw [(okk a k.toNat).2 (Or.inl (by omega))]; omega)).symm
    · obtain ⟨o2, l2, d2⟩ := hI
      have e2 : σ2 1 0 0 = s 0 := by rw [o2 1 (by decide)]; exact hm.1
      -- the whole table is within bounds
      have bd : ∀ a b, a < 10 → b < 10 → 1 ≤ σ2 21 a b ∧ σ2 21 a b ≤ 1000000 := fun a b ha hb => by
        by_cases q : a = b
        · rw [← q]; exact d2 a ha
        · rw [l2 a b ha hb q]
          have k1 := (okk a b).1
          have k2 := (okk a k.toNat).1
          have k3 := (okk k.toNat b).1
          have : Bk k.toNat ≤ 1000000 := by
            have : ∀ k : Nat, k < 10 → Bk k ≤ 1000000 := by decide
            exact this _ (by omega)
          split
          · unfold stp
            split <;> omega
          · omega
      have rowk : ∀ b, b < 10 → b ≠ k.toNat → σ2 21 k.toNat b = D k.toNat b := fun b hb hbk => by
        rw [l2 k.toNat b (by omega) hb (Ne.symm hbk), stp_row]
        split <;> rfl
      have same : (∀ b, b ≠ a0.toNat → stp k.toNat D a0.toNat b = D a0.toNat b) → ∀ a b, a < 10 → b < 10 → a ≠ b → σ2 21 a b = if (a : Int) < a0 + 1 then stp k.toNat D a b else D a b := fun hs a b ha hb hab => by
        rw [l2 a b ha hb hab]
        by_cases q : (a : Int) < a0
        · rw [if_pos q, if_pos (by omega)]
        · rw [if_neg q]
          by_cases r : a = a0.toNat
          · rw [if_pos (by omega), r, hs b (by omega)]
          · rw [if_neg (by omega)]
      refine gX0_join_15 k a0 σ2 ⟨fun q => absurd q (by omega), fun _ => ⟨by omega, by omega, fun c => ⟨by omega, nx2 σ2 ⟨o2, same (fun b hb => ?_), d2⟩⟩, fun c => ⟨by omega, by omega, by omega, by omega, ?_⟩⟩⟩
      · by_cases q : a0.toNat = k.toNat
        · rw [q]; exact stp_row
        · have := l2 a0.toNat k.toNat (by omega) (by omega) q
          rw [if_neg (by omega)] at this
          exact stp_far (by omega)
      · by_cases q : a0.toNat = k.toNat
        · rw [q]
          have bk := bd k.toNat k.toNat (by omega) (by omega)
          refine qX0_joinBy_self (by omega) (by omega) (fun b hb => by have := bd k.toNat b (by omega) hb; omega) ⟨by omega, nx2 σ2 ⟨o2, same (fun b hb => ?_), d2⟩⟩
          rw [q]; exact stp_row
        · have ew := l2 a0.toNat k.toNat (by omega) (by omega) q
          rw [if_neg (by omega)] at ew
          have bw := bd a0.toNat k.toNat (by omega) (by omega)
          refine qX0_joinBy (by omega) (by omega) (by omega) (by omega) (fun b hb => by have := bd k.toNat b (by omega) hb; omega) q (fun σ3 o3 l3 => ⟨by omega, nx2 σ3 ⟨o2.tr o3, fun a b ha hb hab => ?_, fun a ha => ?_⟩⟩)
          · rw [l3 a b ha hb, e2]
            by_cases r : a = a0.toNat
            · subst r
              have ab := l2 a0.toNat b (by omega) hb hab
              rw [if_neg (by omega)] at ab
              rw [if_pos (show ((a0.toNat : Nat) : Int) < a0 + 1 by omega)]
              by_cases rb : b = k.toNat
              · have bk := bd k.toNat k.toNat (by omega) (by omega)
                rw [rb] at ab ⊢
                rw [if_neg (by omega), ab]
                unfold stp
                rw [if_neg (fun z => z.2.1 rfl)]
              · rw [rowk b hb rb, ab, ew]
                have k3 := (okk k.toNat b)
                have k1 := (okk a0.toNat b).1
                have : Bk k.toNat ≤ 1000000 := by
                  have : ∀ k : Nat, k < 10 → Bk k ≤ 1000000 := by decide
                  exact this _ (by omega)
                by_cases z : D a0.toNat k.toNat + D k.toNat b < D a0.toNat b
                · have hbn : (b : Int) < s 0 := by
                    by_cases y : (b : Int) < s 0
                    · exact y
                    · have := k3.2 (Or.inr (Or.inl (by omega))); omega
                  rw [if_pos ⟨rfl, hbn, z⟩]
                  unfold stp
                  rw [if_pos ⟨q, rb, hab, by omega, z⟩]
                · rw [if_neg (fun y => z y.2.2)]
                  unfold stp
                  rw [if_neg (fun y => z y.2.2.2.2)]
            · rw [if_neg (fun z => r z.1), l2 a b ha hb hab]
              by_cases z : (a : Int) < a0
              · rw [if_pos z, if_pos (by omega)]
              · rw [if_neg z, if_neg (by omega)]
          · rw [l3 a a ha ha, e2]
            have x1 := bd a a ha ha
            have x2 := bd k.toNat a (by omega) ha
            split
            · rename_i z
              obtain ⟨za, zb, zc⟩ := z
              have e3 : σ2 21 a0.toNat a = σ2 21 a a := by rw [← za]
              omega
            · exact x1
end Lay
