/-! the class's town -/
def TW (σ : Hp) (t : Nat) (r : Nat → Int) : Prop := (σ 1 t 0 = r 0 ∧ σ 1 t 1 = r 1 ∧ σ 1 t 2 = r 2 ∧ σ 1 t 3 = r 6 ∧ σ 1 t 5 = r 4 ∧ σ 1 t 6 = r 3) ∧ ((0 ≤ σ 1 t 4 ∧ σ 1 t 4 < 16384) ∧ ∀ k : Nat, r 1 ≤ (k : Int) → k < 14 → bitz (σ 1 t 4) (k : Int) = 0) ∧
  (∀ x : Nat, (x : Int) < r 1 → σ 2 t x = sg r x 0 ∧ σ 3 t x = sg r x 1 ∧ σ 4 t x = sg r x 2 ∧ bitz (σ 1 t 4) (x : Int) = sg r x 3 ∧ σ 5 t x = sg r x 4) ∧ (∀ x : Nat, (x : Int) < r 2 → σ 6 t x = se r x 0 ∧ σ 7 t x = se r x 1 ∧ σ 8 t x = se r x 2 ∧ σ 9 t x = se r x 3) ∧ (∀ i : Nat, (i : Int) < r 6 → σ 10 t i = r (113 + i)) ∧ ∀ j, j < 4 → σ 11 t j = r (7 + j)
theorem TW.ms {σ : Hp} {r : Nat → Int} (h : TW σ 0 r) : TMs σ r := ⟨h.1.1, h.1.2.1, fun t h0 hl => by
  have := h.2.2.1 t.toNat (by omega)
  rw [Int.toNat_of_nonneg h0] at this
  exact ⟨this.1, this.2.1, this.2.2.1⟩⟩
theorem TW.me {σ : Hp} {r : Nat → Int} (h : TW σ 0 r) : TMe σ r := ⟨h.1.2.2.1, fun t h0 hl => by
  have := h.2.2.2.1 t.toNat (by omega)
  rw [Int.toNat_of_nonneg h0] at this
  exact this⟩
theorem TW.cs {σ : Hp} {r : Nat → Int} (h : TW σ 0 r) : CS σ r := ⟨h.2.2.2.2.2, h.1.2.2.2.1, h.1.2.2.2.2.1, h.1.2.2.2.2.2, h.2.1.1, fun t h0 hl => by
  have := h.2.2.1 t.toNat (by omega)
  rw [Int.toNat_of_nonneg h0] at this
  exact ⟨this.2.2.2.2, this.2.2.2.1⟩, h.2.2.2.2.1⟩
/-- only town u is written -/
def OffW (u : Nat) (σ σ' : Hp) : Prop := Off [1, 2, 3, 4, 5, 6, 7, 8, 9, 10, 11] σ σ' ∧ ∀ g t, t ≠ u → σ' g t = σ g t
theorem OffW.rf {u : Nat} {σ : Hp} : OffW u σ σ := ⟨Off.rf, fun _ _ _ => rfl⟩
theorem OffW.tr {u : Nat} {a b c : Hp} (h1 : OffW u a b) (h2 : OffW u b c) : OffW u a c := ⟨h1.1.tr h2.1, fun g t ht => (h2.2 g t ht).trans (h1.2 g t ht)⟩
theorem OffW.up {u : Nat} {a b : Hp} {g j : Nat} {v : Int} (h : OffW u a b) (hg : g ∈ [1, 2, 3, 4, 5, 6, 7, 8, 9, 10, 11]) : OffW u a (zup b g u j v) := ⟨h.1.up hg, fun g' t ht => by
  rw [zup_ne (by intro e; cases e; exact ht rfl)]
  exact h.2 g' t ht⟩
theorem TW.keep {σ σ' : Hp} {t : Nat} {r : Nat → Int} (h : TW σ t r) (hk : ∀ g, g < 12 → 0 < g → σ' g t = σ g t) : TW σ' t r := by
  unfold TW
  rw [hk 1 (by omega) (by omega), hk 2 (by omega) (by omega), hk 3 (by omega) (by omega), hk 4 (by omega) (by omega), hk 5 (by omega) (by omega), hk 6 (by omega) (by omega), hk 7 (by omega) (by omega), hk 8 (by omega) (by omega), hk 9 (by omega) (by omega), hk 10 (by omega) (by omega), hk 11 (by omega) (by omega)]
  exact h
section Tell
variable {K : Int → Hp → Prop} {K' : Hp → Prop} {r : Nat → Int} {t : Nat}
theorem qX6_cornersToldOf {σ : Hp} (h : TW σ t r) (hw : WF r) (hk : ∀ n, (∀ a, 0 ≤ a → (n ≤ a ↔ allT r a)) → K n σ) : Runs 1 mX6_cornersToldOf 0 [zR 1 t, zU, zU] [] σ (rI K) := by
  have w0 := hw.1
  have w1 := hw.2.1
  have w2 := hw.2.2.1
  have wst := hw.2.2.2.2.2.2.2.2.2.2.2.1
  have wer := hw.2.2.2.2.2.2.2.2.2.2.2.2.1
  have e1 : σ 1 t 1 = r 1 := h.1.2.1
  have e2 : σ 1 t 2 = r 2 := h.1.2.2.1
  have ers : ∀ n : Int, (-1 ≤ n ∧ n ≤ 9) → (∀ a, 0 ≤ a → (n < a ↔ ∀ t : Nat, (t : Int) < r 1 → sg r t 0 < a ∧ sg r t 1 < a)) → Runs 1 mX6_cornersToldOf 40 [zR 1 t, zI n, zI 0] [] σ (rI K) := fun n hn hI => by
    refine upto (α := Int) (N := r 2) (R := fun e n => Runs 1 mX6_cornersToldOf 40 [zR 1 t, zI n, zI e] [] σ (rI K)) (I := fun e n => (-1 ≤ n ∧ n ≤ 9) ∧ ∀ a, 0 ≤ a → (n < a ↔ (∀ t : Nat, (t : Int) < r 1 → sg r t 0 < a ∧ sg r t 1 < a) ∧ ∀ t : Nat, (t : Int) < e → se r t 0 < a ∧ se r t 1 < a)) (fun n hI => ?_) (fun e n e0 el hI nx => ?_) (Int.le_refl 0) w2.1 ⟨hn, fun a ha => by rw [hI a ha]; exact ⟨fun z => ⟨z, fun t ht => absurd ht (by omega)⟩, fun z => z.1⟩⟩
    · refine gX6_cornersToldOf_40 n (r 2) t σ ⟨fun _ => ⟨by omega, hk (n + 1) (fun a ha => ?_)⟩, fun q => absurd (by rw [e2]; exact Int.le_refl _) q⟩
      unfold allT
      rw [← hI.2 a ha]
      omega
    · obtain ⟨hb, hI⟩ := hI
      have we := wer e e0 el
      unfold erOK at we
      obtain ⟨x1, x2, -⟩ := h.2.2.2.1 e.toNat (by omega)
      rw [Int.toNat_of_nonneg e0] at x1 x2
      refine gX6_cornersToldOf_40 n e t σ ⟨fun q => absurd q (by omega), fun _ => ⟨by omega, by omega, fun z1 ez => ⟨by omega, nx _ ⟨?_, fun a ha => ?_⟩⟩⟩⟩
      · rw [x1, x2] at ez
        split at ez <;> split <;> omega
      · have hh : (if n < z1 then z1 else n) < a ↔ n < a ∧ se r e 0 < a ∧ se r e 1 < a := by
          rw [x1, x2] at ez
          split at ez <;> split <;> omega
        rw [hh, hI a ha]
        constructor
        · rintro ⟨⟨y1, y2⟩, y3⟩
          refine ⟨y1, fun t ht => ?_⟩
          by_cases q : (t : Int) < e
          · exact y2 t q
          · rw [show (t : Int) = e by omega]; exact y3
        · rintro ⟨y1, y2⟩
          have := y2 e.toNat (by omega)
          rw [Int.toNat_of_nonneg e0] at this
          exact ⟨⟨y1, fun t ht => y2 t (by omega)⟩, this⟩
  refine gX6_cornersToldOf_0 t σ (upto (α := Int) (N := r 1) (R := fun e n => Runs 1 mX6_cornersToldOf 4 [zR 1 t, zI n, zI e] [] σ (rI K)) (I := fun e n => (-1 ≤ n ∧ n ≤ 9) ∧ ∀ a, 0 ≤ a → (n < a ↔ ∀ t : Nat, (t : Int) < e → sg r t 0 < a ∧ sg r t 1 < a)) (fun n hI => ?_) (fun e n e0 el hI nx => ?_) (Int.le_refl 0) w1.1 ⟨by omega, fun a ha => ⟨fun _ t ht => absurd ht (by omega), fun _ => by omega⟩⟩)
  · exact gX6_cornersToldOf_4 n (r 1) t σ ⟨fun _ => ers n hI.1 hI.2, fun q => absurd (by rw [e1]; exact Int.le_refl _) q⟩
  · obtain ⟨hb, hI⟩ := hI
    have we := wst e e0 el
    unfold stOK at we
    obtain ⟨x1, x2, -⟩ := h.2.2.1 e.toNat (by omega)
    rw [Int.toNat_of_nonneg e0] at x1 x2
    refine gX6_cornersToldOf_4 n e t σ ⟨fun q => absurd q (by omega), fun _ => ⟨by omega, by omega, fun z1 ez => ⟨by omega, nx _ ⟨?_, fun a ha => ?_⟩⟩⟩⟩
    · rw [x1, x2] at ez
      split at ez <;> split <;> omega
    · have hh : (if n < z1 then z1 else n) < a ↔ n < a ∧ sg r e 0 < a ∧ sg r e 1 < a := by
        rw [x1, x2] at ez
        split at ez <;> split <;> omega
      rw [hh, hI a ha]
      constructor
      · rintro ⟨y1, y3⟩
        intro t ht
        by_cases q : (t : Int) < e
        · exact y1 t q
        · rw [show (t : Int) = e by omega]; exact y3
      · intro y2
        have := y2 e.toNat (by omega)
        rw [Int.toNat_of_nonneg e0] at this
        exact ⟨fun t ht => y2 t (by omega), this⟩
theorem qX6_tellCorners {σ : Hp} (h : TW σ t r) (hw : WF r) {a b c d : Int} (ha : 0 ≤ a) (h1 : ∀ σ', OffW t σ σ' → cOK 107 a b c d r → TW σ' t (su r 0 a) → K 1 σ') (h0 : ¬ cOK 107 a b c d r → K 0 σ) : Runs 2 mX6_tellCorners 0 [zR 1 t, zI a] [] σ (rI K) := by
  have no : ¬ (a ≤ 10 ∧ 2 ≤ a ∧ allT r a) → K 0 σ := fun q => h0 (fun z => by
    rcases z with z | z | z | z
    · exact q z.2
    · have := z.1; omega
    · have := z.1; omega
    · have := z.1; omega)
  refine gX6_tellCorners_0 a t σ ⟨fun c => no (fun z => by omega), fun c1 => ⟨fun c => no (fun z => by omega), fun c2 => qX6_cornersToldOf h hw (fun n hn => ⟨fun c3 => ?_, fun c3 => no (fun z => c3 ((hn a ha).mpr z.2.2))⟩)⟩⟩
  have al := (hn a ha).mp c3
  refine h1 _ (OffW.rf.up (by decide)) (Or.inl ⟨rfl, by omega, by omega, al⟩) ?_
  have e : ∀ j, j ≠ 0 → su r 0 a j = r j := fun j hj => su_ne hj
  have u1 : ∀ j, (zup σ 1 t 0 a) 1 t j = if j = 0 then a else σ 1 t j := fun j => by
    unfold zup
    by_cases q : j = 0 <;> simp [q]
  have u2 : ∀ g, g ≠ 1 → (zup σ 1 t 0 a) g t = σ g t := fun g hg => zup_ne (by intro q; cases q; exact hg rfl)
  obtain ⟨g1, g2, g3, g4, g5, g6⟩ := h
  unfold TW
  rw [u2 2 (by omega), u2 3 (by omega), u2 4 (by omega), u2 5 (by omega), u2 6 (by omega), u2 7 (by omega), u2 8 (by omega), u2 9 (by omega), u2 10 (by omega), u2 11 (by omega)]
  simp only [u1]
  rw [e 1 (by omega), e 2 (by omega), e 6 (by omega), e 4 (by omega), e 3 (by omega), su_eq]
  refine ⟨⟨rfl, g1.2⟩, g2, fun x hx => ?_, fun x hx => ?_, fun i hi => ?_, fun j hj => ?_⟩
  · rw [sg_su (by omega) (by omega) (by omega), sg_su (by omega) (by omega) (by omega), sg_su (by omega) (by omega) (by omega), sg_su (by omega) (by omega) (by omega), sg_su (by omega) (by omega) (by omega)]
    exact g3 x hx
  · rw [se_su (by omega) (by omega) (by omega), se_su (by omega) (by omega) (by omega), se_su (by omega) (by omega) (by omega), se_su (by omega) (by omega) (by omega)]
    exact g4 x hx
  · rw [e _ (by omega)]; exact g5 i hi
  · rw [e _ (by omega)]; exact g6 j hj
theorem qX6_tellStreet {σ : Hp} (h : TW σ t r) (hw : WF r) {a b c d : Int} (ha : 0 ≤ a) (hb : 0 ≤ b) (hd : d = 0 ∨ d = 1) (h1 : ∀ σ', OffW t σ σ' → cOK 115 a b c d r → TW σ' t (pst r a b c d) → K 1 σ') (h0 : ¬ cOK 115 a b c d r → K 0 σ) : Runs 2 mX6_tellStreet 0 [zR 1 t, zI a, zI b, zI c, zI d] [] σ (rI K) := by
  have w1 := hw.2.1
  have no : ¬ (two r a b ∧ 1 ≤ c ∧ c ≤ 60 ∧ r 1 ≠ 14) → K 0 σ := fun q => h0 (fun z => by
    rcases z with z | z | z | z
    · have := z.1; omega
    · exact q z.2
    · have := z.1; omega
    · have := z.1; omega)
  have h' := h
  obtain ⟨g1, g2, g3, g4, g5, g6⟩ := h
  obtain ⟨n, hn⟩ : ∃ n : Nat, r 1 = n := ⟨(r 1).toNat, by omega⟩
  have e1 : σ 1 t 1 = n := g1.2.1.trans hn
  have e0 : σ 1 t 0 = r 0 := g1.1
  refine gX6_tellStreet_0 a b c d t σ ⟨fun tw => ⟨fun c1 => no (fun z => by omega), fun c1 => ⟨fun c2 => no (fun z => by omega), fun c2 => ⟨fun c3 => ⟨by omega, by omega, by omega, by omega, fun σ1 es => ?_⟩, fun c3 => no (fun z => by omega)⟩⟩⟩, fun tw => no (fun z => tw (by have := z.1; unfold two at this; omega))⟩
  have tw' : two r a b := ⟨by omega, by omega, tw.2.2⟩
  have cok : cOK 115 a b c d r := Or.inr (Or.inl ⟨rfl, tw', by omega, by omega, by omega⟩)
  rw [e1] at es
  simp only [Int.toNat_natCast] at es
  -- the cells then, with the broad ones' bits
  have fin : ∀ (v : Int) (σ2 : Hp), (0 ≤ v ∧ v < 16384) → (∀ k : Nat, k < 14 → bitz v (k : Int) = if k = n then d else bitz (σ 1 t 4) (k : Int)) → σ2 = zup (zup σ1 1 t 4 v) 1 t 1 ((n : Int) + 1) → K 1 σ2 := fun v σ2 hv hbit e => by
    have o1 : OffW t σ σ1 := by rw [es]; exact (((OffW.rf.up (by decide)).up (by decide)).up (by decide)).up (by decide)
    have o2 : OffW t σ σ2 := by rw [e]; exact (o1.up (by decide)).up (by decide)
    have p1 : ∀ j, j ≠ 1 → j ≠ 4 → σ2 1 t j = σ 1 t j := fun j h1 h4 => by rw [e, es]; simp [zup, h1, h4]
    have p11 : σ2 1 t 1 = (n : Int) + 1 := by rw [e]; simp [zup]
    have p14 : σ2 1 t 4 = v := by rw [e]; simp [zup]
    have p2 : ∀ x, σ2 2 t x = if x = n then a else σ 2 t x := fun x => by rw [e, es]; by_cases q : x = n <;> simp [zup, q]
    have p3 : ∀ x, σ2 3 t x = if x = n then b else σ 3 t x := fun x => by rw [e, es]; by_cases q : x = n <;> simp [zup, q]
    have p4 : ∀ x, σ2 4 t x = if x = n then c else σ 4 t x := fun x => by rw [e, es]; by_cases q : x = n <;> simp [zup, q]
    have p5 : ∀ x, σ2 5 t x = if x = n then 2 else σ 5 t x := fun x => by rw [e, es]; by_cases q : x = n <;> simp [zup, q]
    have p6 : ∀ g, 6 ≤ g → σ2 g t = σ g t := fun g hg => by
      rw [e, es, zup_ne (by intro q; cases q; omega), zup_ne (by intro q; cases q; omega), zup_ne (by intro q; cases q; omega), zup_ne (by intro q; cases q; omega), zup_ne (by intro q; cases q; omega), zup_ne (by intro q; cases q; omega)]
    have eh : ∀ j, (81 ≤ j ∨ (j < 11 ∧ j ≠ 1)) → pst r a b c d j = r j := fun j hj => pst_hi hw (by omega) hj
    refine h1 σ2 o2 cok ?_
    unfold TW
    rw [p1 0 (by omega) (by omega), p11, p1 2 (by omega) (by omega), p1 3 (by omega) (by omega), p14, p1 5 (by omega) (by omega), p1 6 (by omega) (by omega), p6 6 (by omega), p6 7 (by omega), p6 8 (by omega), p6 9 (by omega), p6 10 (by omega), p6 11 (by omega), pst_1 hw, eh 0 (by omega), eh 2 (by omega), eh 6 (by omega), eh 4 (by omega), eh 3 (by omega)]
    refine ⟨⟨g1.1, by omega, g1.2.2⟩, ⟨hv, fun k hk hk14 => ?_⟩, fun x hx => ?_, fun x hx => ?_, fun i hi => ?_, fun j hj => ?_⟩
    · rw [hbit k hk14, if_neg (by omega)]
      exact g2.2 k (by omega) hk14
    · have q0 : sg (pst r a b c d) x 0 = _ := pst_sg (a := a) (b := b) (c := c) (d := d) hw (by omega) (x := x) (k := 0) (by omega) (by omega)
      have q1 : sg (pst r a b c d) x 1 = _ := pst_sg (a := a) (b := b) (c := c) (d := d) hw (by omega) (x := x) (k := 1) (by omega) (by omega)
      have q2 : sg (pst r a b c d) x 2 = _ := pst_sg (a := a) (b := b) (c := c) (d := d) hw (by omega) (x := x) (k := 2) (by omega) (by omega)
      have q3 : sg (pst r a b c d) x 3 = _ := pst_sg (a := a) (b := b) (c := c) (d := d) hw (by omega) (x := x) (k := 3) (by omega) (by omega)
      have q4 : sg (pst r a b c d) x 4 = _ := pst_sg (a := a) (b := b) (c := c) (d := d) hw (by omega) (x := x) (k := 4) (by omega) (by omega)
      rw [p2, p3, p4, p5, hbit x (by omega)]
      by_cases q : x = n
      · have qq : (x : Int) = r 1 := by omega
        rw [if_pos qq] at q0 q1 q2 q3 q4
        simp at q0 q1 q2 q3 q4
        rw [if_pos q, if_pos q, if_pos q, if_pos q, if_pos q, q0, q1, q2, q3, q4]
        exact ⟨rfl, rfl, rfl, rfl, rfl⟩
      · have qq : ¬ (x : Int) = r 1 := by omega
        rw [if_neg qq] at q0 q1 q2 q3 q4
        have old := g3 x (by omega)
        rw [if_neg q, if_neg q, if_neg q, if_neg q, if_neg q]
        exact ⟨old.1.trans q0.symm, old.2.1.trans q1.symm, old.2.2.1.trans q2.symm, old.2.2.2.1.trans q3.symm, old.2.2.2.2.trans q4.symm⟩
    · unfold se
      rw [eh _ (by omega), eh _ (by omega), eh _ (by omega), eh _ (by omega)]
      exact g4 x hx
    · rw [eh _ (by omega)]; exact g5 i hi
    · rw [eh _ (by omega)]; exact g6 j hj
  have f14 : σ1 1 t 1 = (n : Int) := by rw [es]; simp [zup]; exact e1
  refine ⟨fun c4 => ⟨?_, fun σ2 e => ?_⟩, fun c4 => ⟨?_, fun σ2 e => ?_⟩⟩
  · have : (zup σ1 1 t 4 (zor (σ 1 t 4) 0)) 1 t 1 = (n : Int) := by simp [zup]; exact f14
    omega
  · have e11 : (zup σ1 1 t 4 (zor (σ 1 t 4) 0)) 1 t 1 = (n : Int) := by simp [zup]; exact f14
    rw [e11, zor_0 g2.1] at e
    refine fin _ σ2 g2.1 (fun k hk => ?_) e
    by_cases q : k = n
    · rw [if_pos q, c4]
      exact g2.2 k (by omega) hk
    · rw [if_neg q]
  · have : (zup σ1 1 t 4 (zor (σ 1 t 4) (zshl 1 (σ1 1 t 1)))) 1 t 1 = (n : Int) := by simp [zup]; exact f14
    omega
  · have e11 : (zup σ1 1 t 4 (zor (σ 1 t 4) (zshl 1 (σ1 1 t 1)))) 1 t 1 = (n : Int) := by simp [zup]; exact f14
    rw [e11, f14] at e
    refine fin _ σ2 (zor_lt g2.1 (by omega)) (fun k hk => ?_) e
    rw [bitz_or g2.1 (by omega) k (by omega)]
    by_cases q : k = n
    · rw [if_pos q, if_pos q]; omega
    · rw [if_neg q, if_neg q]
theorem qX6_tellErrand {σ : Hp} (h : TW σ t r) (hw : WF r) {a b c d : Int} (ha : 0 ≤ a) (hb : 0 ≤ b) (hc : 0 ≤ c) (hd : d ≤ 9) (h1 : ∀ σ', OffW t σ σ' → cOK 101 a b c d r → TW σ' t (per r a b c d) → K 1 σ') (h0 : ¬ cOK 101 a b c d r → K 0 σ) : Runs 2 mX6_tellErrand 0 [zR 1 t, zI a, zI b, zI c, zI d] [] σ (rI K) := by
  have w2 := hw.2.2.1
  have no : ¬ (two r a b ∧ c ≤ 1439 ∧ 1 ≤ d ∧ r 2 ≠ 8) → K 0 σ := fun q => h0 (fun z => by
    rcases z with z | z | z | z
    · have := z.1; omega
    · have := z.1; omega
    · exact q z.2
    · have := z.1; omega)
  obtain ⟨g1, g2, g3, g4, g5, g6⟩ := h
  obtain ⟨n, hn⟩ : ∃ n : Nat, r 2 = n := ⟨(r 2).toNat, by omega⟩
  have e2 : σ 1 t 2 = n := g1.2.2.1.trans hn
  have e0 : σ 1 t 0 = r 0 := g1.1
  refine gX6_tellErrand_0 a b c d t σ ⟨fun tw => ⟨fun c1 => ⟨fun c2 => no (fun z => by omega), fun c2 => ⟨fun c3 => no (fun z => by omega), fun c3 => ⟨fun c4 => no (fun z => by omega), fun c4 => ⟨fun c5 => ⟨by omega, by omega, by omega, by omega, by omega, fun σ1 es => ?_⟩, fun c5 => absurd hd c5⟩⟩⟩⟩, fun c1 => no (fun z => by omega)⟩, fun tw => no (fun z => tw (by have := z.1; unfold two at this; omega))⟩
  have tw' : two r a b := ⟨by omega, by omega, tw.2.2⟩
  have cok : cOK 101 a b c d r := Or.inr (Or.inr (Or.inl ⟨rfl, tw', by omega, by omega, by omega⟩))
  rw [e2] at es
  simp only [Int.toNat_natCast] at es
  have o1 : OffW t σ σ1 := by rw [es]; exact ((((OffW.rf.up (by decide)).up (by decide)).up (by decide)).up (by decide)).up (by decide)
  have p1 : ∀ j, j ≠ 2 → σ1 1 t j = σ 1 t j := fun j hj => by rw [es]; simp [zup, hj]
  have p12 : σ1 1 t 2 = (n : Int) + 1 := by rw [es]; simp [zup]
  have p6 : ∀ x, σ1 6 t x = if x = n then a else σ 6 t x := fun x => by rw [es]; by_cases q : x = n <;> simp [zup, q]
  have p7 : ∀ x, σ1 7 t x = if x = n then b else σ 7 t x := fun x => by rw [es]; by_cases q : x = n <;> simp [zup, q]
  have p8 : ∀ x, σ1 8 t x = if x = n then c else σ 8 t x := fun x => by rw [es]; by_cases q : x = n <;> simp [zup, q]
  have p9 : ∀ x, σ1 9 t x = if x = n then d else σ 9 t x := fun x => by rw [es]; by_cases q : x = n <;> simp [zup, q]
  have pg : ∀ g, g = 2 ∨ g = 3 ∨ g = 4 ∨ g = 5 ∨ g = 10 ∨ g = 11 → σ1 g t = σ g t := fun g hg => by
    rw [es, zup_ne (by intro q; cases q; omega), zup_ne (by intro q; cases q; omega), zup_ne (by intro q; cases q; omega), zup_ne (by intro q; cases q; omega), zup_ne (by intro q; cases q; omega)]
  have eh : ∀ j, ((j < 81 ∧ j ≠ 2) ∨ 113 ≤ j) → per r a b c d j = r j := fun j hj => per_lo hw (by omega) hj
  refine h1 σ1 o1 cok ?_
  unfold TW
  rw [p1 0 (by omega), p1 1 (by omega), p12, p1 3 (by omega), p1 4 (by omega), p1 5 (by omega), p1 6 (by omega), pg 2 (by omega), pg 3 (by omega), pg 4 (by omega), pg 5 (by omega), pg 10 (by omega), pg 11 (by omega), per_2, eh 0 (by omega), eh 1 (by omega), eh 6 (by omega), eh 4 (by omega), eh 3 (by omega)]
  refine ⟨⟨g1.1, g1.2.1, by omega, g1.2.2.2⟩, g2, fun x hx => ?_, fun x hx => ?_, fun i hi => ?_, fun j hj => ?_⟩
  · unfold sg
    have w1 := hw.2.1
    rw [eh _ (by omega), eh _ (by omega), eh _ (by omega), eh _ (by omega), eh _ (by omega)]
    exact g3 x hx
  · have q0 : se (per r a b c d) x 0 = _ := per_se (a := a) (b := b) (c := c) (d := d) hw (x := x) (k := 0) (by omega) (by omega)
    have q1 : se (per r a b c d) x 1 = _ := per_se (a := a) (b := b) (c := c) (d := d) hw (x := x) (k := 1) (by omega) (by omega)
    have q2 : se (per r a b c d) x 2 = _ := per_se (a := a) (b := b) (c := c) (d := d) hw (x := x) (k := 2) (by omega) (by omega)
    have q3 : se (per r a b c d) x 3 = _ := per_se (a := a) (b := b) (c := c) (d := d) hw (x := x) (k := 3) (by omega) (by omega)
    rw [p6, p7, p8, p9]
    by_cases q : x = n
    · have qq : (x : Int) = r 2 := by omega
      rw [if_pos qq] at q0 q1 q2 q3
      simp at q0 q1 q2 q3
      rw [if_pos q, if_pos q, if_pos q, if_pos q, q0, q1, q2, q3]
      exact ⟨rfl, rfl, rfl, rfl⟩
    · have qq : ¬ (x : Int) = r 2 := by omega
      rw [if_neg qq] at q0 q1 q2 q3
      have old := g4 x (by omega)
      rw [if_neg q, if_neg q, if_neg q, if_neg q]
      exact ⟨old.1.trans q0.symm, old.2.1.trans q1.symm, old.2.2.1.trans q2.symm, old.2.2.2.trans q3.symm⟩
  · rw [eh _ (by omega)]; exact g5 i hi
  · rw [eh _ (by omega)]; exact g6 j hj
theorem qX6_tellMust {σ : Hp} (h : TW σ t r) (hw : WF r) {a b c d : Int} (ha : 0 ≤ a) (hb : 0 ≤ b) (h1 : ∀ σ', OffW t σ σ' → cOK 109 a b c d r → TW σ' t (su r (11 + 5 * a.toNat + 4) b) → K 1 σ') (h0 : ¬ cOK 109 a b c d r → K 0 σ) : Runs 1 mX6_tellMust 0 [zR 1 t, zI a, zI b] [] σ (rI K) := by
  have w1 := hw.2.1
  have no : ¬ (a < r 1 ∧ b ≤ 2) → K 0 σ := fun q => h0 (fun z => by
    rcases z with z | z | z | z
    · have := z.1; omega
    · have := z.1; omega
    · have := z.1; omega
    · exact q z.2)
  obtain ⟨g1, g2, g3, g4, g5, g6⟩ := h
  have e1 : σ 1 t 1 = r 1 := g1.2.1
  refine gX6_tellMust_0 a b t σ ⟨fun c => ⟨fun c2 => absurd hb (by omega), fun _ => ⟨fun c3 => ⟨by omega, ?_⟩, fun c3 => no (fun z => c3 z.2)⟩⟩, fun c => no (fun z => c (by omega))⟩
  refine h1 _ (OffW.rf.up (by decide)) (Or.inr (Or.inr (Or.inr ⟨rfl, by omega, c3⟩))) ?_
  have e : ∀ j, j ≠ 11 + 5 * a.toNat + 4 → su r (11 + 5 * a.toNat + 4) b j = r j := fun j hj => su_ne hj
  have u5 : ∀ x, (zup σ 5 t a.toNat b) 5 t x = if x = a.toNat then b else σ 5 t x := fun x => by
    by_cases q : x = a.toNat <;> simp [zup, q]
  have ug : ∀ g, g ≠ 5 → (zup σ 5 t a.toNat b) g t = σ g t := fun g hg => zup_ne (by intro q; cases q; exact hg rfl)
  unfold TW
  rw [ug 1 (by omega), ug 2 (by omega), ug 3 (by omega), ug 4 (by omega), ug 6 (by omega), ug 7 (by omega), ug 8 (by omega), ug 9 (by omega), ug 10 (by omega), ug 11 (by omega), e 0 (by omega), e 1 (by omega), e 2 (by omega), e 6 (by omega), e 4 (by omega), e 3 (by omega)]
  refine ⟨g1, g2, fun x hx => ?_, fun x hx => ?_, fun i hi => ?_, fun j hj => ?_⟩
  · have old := g3 x hx
    rw [u5]
    unfold sg at *
    rw [e (11 + 5 * (x : Int) + 0).toNat (by omega), e (11 + 5 * (x : Int) + 1).toNat (by omega), e (11 + 5 * (x : Int) + 2).toNat (by omega), e (11 + 5 * (x : Int) + 3).toNat (by omega)]
    refine ⟨old.1, old.2.1, old.2.2.1, old.2.2.2.1, ?_⟩
    by_cases q : x = a.toNat
    · rw [if_pos q, show (11 + 5 * (x : Int) + 4).toNat = 11 + 5 * a.toNat + 4 by omega, su_eq]
    · rw [if_neg q, e _ (by omega)]; exact old.2.2.2.2
  · unfold se
    have w2 := hw.2.2.1
    rw [e _ (by omega), e _ (by omega), e _ (by omega), e _ (by omega)]
    exact g4 x hx
  · rw [e _ (by omega)]; exact g5 i hi
  · rw [e _ (by omega)]; exact g6 j hj
/-- a statement told to the trial town -/
theorem qX3_tell {σ : Hp} (h : TW σ 2 r) (hw : WF r) {L a b c d : Int} (h3 : σ 14 0 3 = L) (hv : vals (σ 15 0) (σ 14 0 6) L a b c d) (hb : vbd L a b c d) (hL : L = 107 ∨ L = 115 ∨ L = 101 ∨ L = 109) (h1 : ∀ σ', OffW 2 σ σ' → cOK L a b c d r → TW σ' 2 (cRes L a b c d r) → K 1 σ') (h0 : ¬ cOK L a b c d r → K 0 σ) : Runs 3 mX3_tell 0 [zR 14 0] [] σ (rI K) := by
  obtain ⟨b1, b2, b3, b4, b5, b6⟩ := hb
  obtain ⟨v1, v2, v3, v4⟩ := hv
  refine gX3_tell_0 σ ?_
  rw [h3]
  refine ⟨fun eL => ?_, fun eL => ?_, fun eL => ?_, fun eL => ?_, fun eL => absurd hL (by omega)⟩
  · subst eL
    obtain ⟨w1, w2, w3, w4⟩ := v3 rfl
    rw [w1, w2, w3, w4]
    exact qX6_tellErrand h hw (by omega) (by omega) (by omega) (b5 rfl) (fun σ' o' c' t' => ⟨Or.inr rfl, h1 σ' o' c' t'⟩) (fun z => ⟨Or.inl rfl, h0 z⟩)
  · subst eL
    rw [v1 rfl]
    exact qX6_tellCorners h hw (by omega) (fun σ' o' c' t' => ⟨Or.inr rfl, h1 σ' o' c' t'⟩) (fun z => ⟨Or.inl rfl, h0 z⟩)
  · subst eL
    obtain ⟨w1, w2⟩ := v4 rfl
    rw [w1, w2]
    exact qX6_tellMust h hw (by omega) (by omega) (fun σ' o' c' t' => ⟨Or.inr rfl, h1 σ' o' c' t'⟩) (fun z => ⟨Or.inl rfl, h0 z⟩)
  · subst eL
    obtain ⟨w1, w2, w3, w4⟩ := v2 rfl
    rw [w1, w2, w3, w4]
    exact qX6_tellStreet h hw (by omega) (by omega) (b6 rfl) (fun σ' o' c' t' => ⟨Or.inr rfl, h1 σ' o' c' t'⟩) (fun z => ⟨Or.inl rfl, h0 z⟩)
end Tell
