/-! the pointing by one walk through -/
abbrev St3 : Type := Int × Int × Int
def wto (s : Nat → Int) (t c : Int) : Int := if sg s t 0 = c then sg s t 1 else sg s t 0
def wgo (s : Nat → Int) (t c : Int) (q : St3) : St3 := (q.1, zor q.2.1 (zshl 1 t), if sg s t 1 = c then zor q.2.2 (zshl 1 t) else q.2.2)
def wkF (s : Nat → Int) : Nat → Int → Int → St3 → St3
  | 0, _, _, q => q
  | n + 1, c, t, q =>
    if s 1 ≤ t then q
    else if bitz q.2.1 t = 1 ∨ (sg s t 0 ≠ c ∧ sg s t 1 ≠ c) then wkF s n c (t + 1) q
    else if bitz q.1 (wto s t c) = 1 then wkF s n c (t + 1) (wgo s t c q)
    else wkF s n c (t + 1) (wkF s n (wto s t c) 0 (zor q.1 (zshl 1 (wto s t c)), (wgo s t c q).2))
def ok3 (s : Nat → Int) (q : St3) : Prop := (0 ≤ q.1 ∧ q.1 < 16384) ∧ (0 ≤ q.2.1 ∧ q.2.1 < 16384) ∧ (0 ≤ q.2.2 ∧ q.2.2 < 16384) ∧ ∀ k : Nat, k < 14 → bitz q.1 (k : Int) = 1 → (k : Int) < s 0
def up3 (q q' : St3) : Prop := ∀ k : Nat, k < 14 → bitz q.1 (k : Int) = 1 → bitz q'.1 (k : Int) = 1
theorem cntB_mono {x y : Int} (h : ∀ k : Nat, k < 14 → bitz x (k : Int) = 1 → bitz y (k : Int) = 1) : cntB x ≤ cntB y := by
  have a : ∀ k : Nat, k < 10 → bitz x (k : Int) ≤ bitz y (k : Int) := fun k hk => by
    rcases bitz_01 x k with q | q <;> rcases bitz_01 y k with p | p
    · omega
    · omega
    · have := h k (by omega) q; omega
    · omega
  have a0 := a 0 (by omega); have a1 := a 1 (by omega); have a2 := a 2 (by omega); have a3 := a 3 (by omega); have a4 := a 4 (by omega)
  have a5 := a 5 (by omega); have a6 := a 6 (by omega); have a7 := a 7 (by omega); have a8 := a 8 (by omega); have a9 := a 9 (by omega)
  unfold cntB cnt10
  dsimp only
  omega
theorem cntB_10 (x : Int) : cntB x ≤ 10 := cnt10_le (fun c _ => by have := bitz_01 x c; omega)
theorem cntB_put {x : Int} (hx : 0 ≤ x ∧ x < 16384) {b : Nat} (hb : b < 10) (h : bitz x (b : Int) = 0) : cntB (zor x (zshl 1 (b : Int))) = cntB x + 1 := by
  have u := cnt10_up (z := fun c => bitz x (c : Int)) hb h
  have bits : ∀ c : Nat, c < 10 → bitz (zor x (zshl 1 (b : Int))) (c : Int) = if c = b then 1 else bitz x (c : Int) := fun c hc => bitz_or hx (by omega) c (by omega)
  have : cnt10 (fun c => bitz (zor x (zshl 1 (b : Int))) (c : Int)) = cnt10 (fun c => if c = b then 1 else bitz x (c : Int)) := by
    unfold cnt10
    simp only [bits 0 (by omega), bits 1 (by omega), bits 2 (by omega), bits 3 (by omega), bits 4 (by omega), bits 5 (by omega), bits 6 (by omega), bits 7 (by omega), bits 8 (by omega), bits 9 (by omega)]
  unfold cntB
  rw [this, u]
section Walk
variable {s : Nat → Int}
theorem wto_ok (hw : WF s) {t c : Int} (ht : 0 ≤ t ∧ t < s 1) : 0 ≤ wto s t c ∧ wto s t c < s 0 := by
  have w := hw.2.2.2.2.2.2.2.2.2.2.2.1 t ht.1 ht.2
  unfold stOK at w
  unfold wto
  split <;> omega
theorem wgo_ok (hw : WF s) {t c : Int} (ht : 0 ≤ t ∧ t < s 1) {q : St3} (h : ok3 s q) : ok3 s (wgo s t c q) := by
  have w1 := hw.2.1
  have sh := shl_r t.toNat (by omega)
  rw [Int.toNat_of_nonneg ht.1] at sh
  refine ⟨h.1, zor_r h.2.1 sh, ?_, h.2.2.2⟩
  show 0 ≤ (if sg s t 1 = c then zor q.2.2 (zshl 1 t) else q.2.2) ∧ (if sg s t 1 = c then zor q.2.2 (zshl 1 t) else q.2.2) < 16384
  split
  · exact zor_r h.2.2.1 sh
  · exact h.2.2.1
theorem put_ok (hw : WF s) {b : Int} (hb : 0 ≤ b ∧ b < s 0) {q : St3} (h : ok3 s q) (g w : Int) (hg : 0 ≤ g ∧ g < 16384) (hww : 0 ≤ w ∧ w < 16384) : ok3 s (zor q.1 (zshl 1 b), g, w) ∧ (∀ k : Nat, k < 14 → bitz (zor q.1 (zshl 1 b)) (k : Int) = if k = b.toNat then 1 else bitz q.1 (k : Int)) := by
  have w0 := hw.1
  have sh := shl_r b.toNat (by omega)
  have bo := fun (k : Nat) (hk : k < 14) => bitz_or h.1 (b := b.toNat) (by omega) k (by omega)
  rw [Int.toNat_of_nonneg hb.1] at sh bo
  refine ⟨⟨zor_r h.1 sh, hg, hww, fun k hk hbk => ?_⟩, bo⟩
  have hbk' : bitz (zor q.1 (zshl 1 b)) (k : Int) = 1 := hbk
  rw [bo k hk] at hbk'
  by_cases e : k = b.toNat
  · omega
  · rw [if_neg e] at hbk'
    exact h.2.2.2 k hk hbk'
theorem wkF_ok (hw : WF s) : ∀ (n : Nat) (c t : Int) (q : St3), ok3 s q → 0 ≤ t → ok3 s (wkF s n c t q) ∧ up3 q (wkF s n c t q)
  | 0, _, _, q, h, _ => ⟨h, fun _ _ hb => hb⟩
  | n + 1, c, t, q, h, ht => by
    unfold wkF
    by_cases c1 : s 1 ≤ t
    · rw [if_pos c1]; exact ⟨h, fun _ _ hb => hb⟩
    · rw [if_neg c1]
      have htl : 0 ≤ t ∧ t < s 1 := by omega
      by_cases c2 : bitz q.2.1 t = 1 ∨ (sg s t 0 ≠ c ∧ sg s t 1 ≠ c)
      · rw [if_pos c2]; exact wkF_ok hw n c (t + 1) q h (by omega)
      · rw [if_neg c2]
        have g := wgo_ok hw (c := c) htl h
        by_cases c3 : bitz q.1 (wto s t c) = 1
        · rw [if_pos c3]
          exact wkF_ok hw n c (t + 1) (wgo s t c q) g (by omega)
        · rw [if_neg c3]
          have wt := wto_ok hw (c := c) htl
          have pk := put_ok hw wt h (wgo s t c q).2.1 (wgo s t c q).2.2 g.2.1 g.2.2.1
          have i1 := wkF_ok hw n (wto s t c) 0 (zor q.1 (zshl 1 (wto s t c)), (wgo s t c q).2) pk.1 (by omega)
          have i2 := wkF_ok hw n c (t + 1) _ i1.1 (by omega)
          refine ⟨i2.1, fun k hk hb => i2.2 k hk (i1.2 k hk ?_)⟩
          show bitz (zor q.1 (zshl 1 (wto s t c))) (k : Int) = 1
          rw [pk.2 k hk]
          split
          · rfl
          · exact hb
def mu3 (q : St3) (t : Int) : Int := 15 * (10 - cntB q.1) + (14 - t)
variable {K' : Hp → Prop} {K : Int → Hp → Prop}
def hold3 (σ : Hp) (q : St3) : Prop := σ 34 0 17 = q.2.1 ∧ σ 34 0 18 = q.2.2 ∧ σ 34 0 19 = q.1
theorem cntB_put' (hw : WF s) {q : St3} (h : ok3 s q) {b : Int} (hb : 0 ≤ b ∧ b < s 0) (hz : ¬ bitz q.1 b = 1) : cntB (zor q.1 (zshl 1 b)) = cntB q.1 + 1 := by
  have w0 := hw.1
  have := cntB_put h.1 (b := b.toNat) (by omega) (by rw [Int.toNat_of_nonneg hb.1]; exact (bitz_01 _ _).resolve_right hz)
  rw [Int.toNat_of_nonneg hb.1] at this
  exact this
theorem ref_walks (hw : WF s) : ∀ (n : Nat) (d : Nat) (c t : Int) (q : St3) (σ : Hp) (K' : Hp → Prop), mu3 q t < n → ok3 s q → (0 ≤ t ∧ t ≤ s 1) → σ 36 0 = s → hold3 σ q → 10 - cntB q.1 ≤ d → (∀ σ', OffM [] [17, 18, 19] σ σ' → hold3 σ' (wkF s n c t q) → K' σ') → Runs (d + 1) mX11_walks 14 [zR 34 0, zI c, zI t, zU] [] σ (rV K') := by
  intro n
  have w0 := hw.1
  have w1 := hw.2.1
  induction n with
  | zero =>
    intro d c t q σ K' hmu _ ht
    exfalso
    have := cntB_10 q.1
    unfold mu3 at hmu
    omega
  | succ n ih =>
    intro d c t q σ K' hmu hok ht hs hh hd cont
    have hd0 := hd
    unfold wkF at cont
    unfold mu3 at hmu
    by_cases c1 : s 1 ≤ t
    · rw [if_pos c1] at cont
      exact gX11_walks_14 d c t σ ⟨fun _ => cont σ OffM.rf hh, fun z => absurd (by rw [hs]; exact c1) z⟩
    · rw [if_neg c1] at cont
      have htl : 0 ≤ t ∧ t < s 1 := by omega
      have wst := hw.2.2.2.2.2.2.2.2.2.2.2.1 t htl.1 htl.2
      unfold stOK at wst
      obtain ⟨h17, h18, h19⟩ := hh
      have skip : (bitz q.2.1 t = 1 ∨ (sg s t 0 ≠ c ∧ sg s t 1 ≠ c)) → Runs (d + 1) mX11_walks 14 [zR 34 0, zI c, zI (t + 1), zU] [] σ (rV K') := fun c2 => by
        rw [if_pos c2] at cont
        exact ih d c (t + 1) q σ K' (by unfold mu3; omega) hok (by omega) hs ⟨h17, h18, h19⟩ hd cont
      have go : ¬ (bitz q.2.1 t = 1 ∨ (sg s t 0 ≠ c ∧ sg s t 1 ≠ c)) → Runs (d + 1) mX11_walks 59 [zR 34 0, zI c, zI t, zU] [] σ (rV K') := fun c2 => by
        rw [if_neg c2] at cont
        have g := wgo_ok hw (c := c) htl hok
        have wt := wto_ok hw (c := c) htl
        -- with the street gone
        have next : ∀ σ1, OffM [] [17, 18, 19] σ σ1 → hold3 σ1 (wgo s t c q) → (¬ bitz (σ1 34 0 19) (wto s t c) = 0 → Runs (d + 1) mX11_walks 14 [zR 34 0, zI c, zI (t + 1), zU] [] σ1 (rV K')) ∧ (bitz (σ1 34 0 19) (wto s t c) = 0 → Runs d mX11_walks 0 [zR 34 0, zI (wto s t c), zU, zU] [] σ1 (rV (fun σ2 => (-2147483648 ≤ t + 1 ∧ t + 1 ≤ 2147483647) ∧ Runs (d + 1) mX11_walks 14 [zR 34 0, zI c, zI (t + 1), zU] [] σ2 (rV K')))) := fun σ1 o1 h1 => by
          have hs1 : σ1 36 0 = s := by rw [o1.1 36 (by decide)]; exact hs
          have e19 : σ1 34 0 19 = q.1 := h1.2.2
          rw [e19]
          refine ⟨fun c3 => ?_, fun c3 => ?_⟩
          · rw [if_pos ((bitz_01 _ _).resolve_left c3)] at cont
            exact ih d c (t + 1) (wgo s t c q) σ1 K' (by unfold mu3; show 15 * (10 - cntB q.1) + (14 - (t + 1)) < _; omega) g (by omega) hs1 h1 hd (fun σ' o' h' => cont σ' (o1.tr o') h')
          · have c3' : ¬ bitz q.1 (wto s t c) = 1 := by omega
            rw [if_neg c3'] at cont
            have pk := put_ok hw wt hok (wgo s t c q).2.1 (wgo s t c q).2.2 g.2.1 g.2.2.1
            have cp := cntB_put' hw hok wt c3'
            have c10 := cntB_10 (zor q.1 (zshl 1 (wto s t c)))
            obtain ⟨d', hd'⟩ : ∃ d', d = d' + 1 := ⟨d - 1, by omega⟩
            subst hd'
            refine gX11_walks_0 d' (wto s t c) σ1 ?_
            rw [e19]
            have f1 := wkF_ok hw n (wto s t c) 0 (zor q.1 (zshl 1 (wto s t c)), (wgo s t c q).2) pk.1 (by omega)
            have m1 := cntB_mono f1.2
            have m1' : cntB (zor q.1 (zshl 1 (wto s t c))) ≤ cntB (wkF s n (wto s t c) 0 (zor q.1 (zshl 1 (wto s t c)), (wgo s t c q).2)).1 := m1
            refine ih d' (wto s t c) 0 (zor q.1 (zshl 1 (wto s t c)), (wgo s t c q).2) (zup σ1 34 0 19 (zor q.1 (zshl 1 (wto s t c)))) _ (by unfold mu3; show 15 * (10 - cntB (zor q.1 (zshl 1 (wto s t c)))) + (14 - 0) < _; omega) pk.1 (by omega) ?_ ?_ (by show 10 - cntB (zor q.1 (zshl 1 (wto s t c))) ≤ _; omega) (fun σ2 o2 h2 => ⟨by omega, ?_⟩)
            · rw [zup_ne (by intro z; cases z)]; exact hs1
            · refine ⟨?_, ?_, ?_⟩
              · simp [zup]; exact h1.1
              · simp [zup]; exact h1.2.1
              · simp [zup]
            · have o12 : OffM [] [17, 18, 19] σ σ2 := (o1.up34 (by decide)).tr o2
              refine ih (d' + 1) c (t + 1) _ σ2 K' (by unfold mu3; omega) f1.1 (by omega) (by rw [o12.1 36 (by decide)]; exact hs) h2 (by omega) (fun σ' o' h' => cont σ' (o12.tr o') h')
        have z36 : (zup σ 34 0 17 (zor (σ 34 0 17) (zshl 1 t))) 36 0 = s := by rw [zup_ne (by intro z; cases z)]; exact hs
        refine gX11_walks_59 d c t σ ⟨by omega, ?_⟩
        rw [z36]
        refine ⟨fun c3 σ1 e1 => ?_, fun c3 σ1 e1 => ?_⟩
        · have o1 : OffM [] [17, 18, 19] σ σ1 := by rw [e1]; exact (OffM.rf.up34 (by decide)).up34 (by decide)
          have hs1 : σ1 36 0 = s := by rw [o1.1 36 (by decide)]; exact hs
          have h1 : hold3 σ1 (wgo s t c q) := by
            have z0 : zor q.2.2 0 = q.2.2 := zor_0 hok.2.2.1
            rw [e1, h17, h18, z0]
            refine ⟨?_, ?_, ?_⟩
            · simp [zup, wgo]
            · simp [zup, wgo, c3]
            · simp [zup, wgo]; exact h19
          have nx := next σ1 o1 h1
          have hc0 : sg s t 0 = c := by
            by_cases y : sg s t 0 = c
            · exact y
            · exact absurd (Or.inr ⟨y, c3⟩) c2
          have ew : wto s t c = sg s t 1 := by unfold wto; rw [if_pos hc0]
          rw [ew] at nx
          rw [hs1]
          exact ⟨by omega, fun y => absurd hc0 y, fun _ => ⟨by omega, fun y => ⟨by omega, nx.1 y⟩, fun y => nx.2 y⟩⟩
        · have o1 : OffM [] [17, 18, 19] σ σ1 := by rw [e1]; exact (OffM.rf.up34 (by decide)).up34 (by decide)
          have hs1 : σ1 36 0 = s := by rw [o1.1 36 (by decide)]; exact hs
          have h1 : hold3 σ1 (wgo s t c q) := by
            rw [e1, h17, h18]
            refine ⟨?_, ?_, ?_⟩
            · simp [zup, wgo]
            · simp [zup, wgo, c3]
            · simp [zup, wgo]; exact h19
          have nx := next σ1 o1 h1
          have hc0 : ¬ sg s t 0 = c := by omega
          have ew : wto s t c = sg s t 0 := by unfold wto; rw [if_neg hc0]
          rw [ew] at nx
          rw [hs1]
          exact ⟨by omega, fun _ => ⟨by omega, fun y => ⟨by omega, nx.1 y⟩, fun y => nx.2 y⟩, fun y => absurd y hc0⟩
      refine gX11_walks_14 d c t σ ⟨fun z => absurd z (by rw [hs]; omega), fun _ => ?_⟩
      rw [h17, hs]
      refine ⟨fun c2 => ⟨by omega, skip (Or.inl c2)⟩, fun c2 => ⟨by omega, fun c3 => go (fun z => z.elim c2 (fun y => y.1 c3)), fun c3 => ⟨by omega, fun c4 => go (fun z => z.elim c2 (fun y => y.2 c4)), fun c4 => ⟨by omega, skip (Or.inr ⟨c3, c4⟩)⟩⟩⟩⟩
/-- the class's -/
def wgL (q : St3) (c l5 : Int) : List AV := [zR 22 0, zI q.1, zI q.2.1, zI q.2.2, zI c, zI l5, zU, zU]
theorem cls_walks (hw : WF s) : ∀ (n : Nat) (c t : Int) (q : St3) (σ : Hp) (l5 p : Int), mu3 q t < n → ok3 s q → (0 ≤ t ∧ t ≤ s 1) → (0 ≤ c ∧ c < s 0) → TMs σ s → bitz q.1 c = 1 → σ 24 0 c.toNat = t → σ 23 0 c.toNat = p → (∀ k : Nat, k < 10 → bitz q.1 (k : Int) = 0 → σ 24 0 k = 0) → 0 ≤ l5 → l5 + (15 - t) + 15 * (10 - cntB q.1) ≤ 150 →
    (∀ σ' l5', Off [23, 24] σ σ' → (∀ k : Nat, k < 10 → bitz q.1 (k : Int) = 1 → (k : Int) ≠ c → σ' 24 0 k = σ 24 0 k ∧ σ' 23 0 k = σ 23 0 k) → (∀ k : Nat, k < 10 → bitz (wkF s n c t q).1 (k : Int) = 0 → σ' 24 0 k = 0) → 0 ≤ l5' → l5' ≤ l5 + (15 - t) + 15 * (cntB (wkF s n c t q).1 - cntB q.1) → Runs 1 mX2_walkThrough 27 (wgL (wkF s n c t q) p l5') [] σ' (rI K)) →
    Runs 1 mX2_walkThrough 27 (wgL q c l5) [] σ (rI K) := by
  intro n
  have w0 := hw.1
  have w1 := hw.2.1
  induction n with
  | zero =>
    intro c t q σ l5 p hmu _ ht
    exfalso
    have := cntB_10 q.1
    unfold mu3 at hmu
    omega
  | succ n ih =>
    intro c t q σ l5 p hmu hok ht hc hm hcs h24 h23 hun h50 h5 cont
    unfold wkF at cont
    unfold mu3 at hmu
    have c10 := cntB_10 q.1
    have e1 : σ 1 0 1 = s 1 := hm.2.1
    have hcn : ((c.toNat : Nat) : Int) = c := Int.toNat_of_nonneg hc.1
    by_cases c1 : s 1 ≤ t
    · rw [if_pos c1] at cont
      refine gX2_walkThrough_27 q.1 q.2.1 q.2.2 c l5 σ ⟨fun z => absurd z (by omega), fun _ => ⟨fun z => absurd z (by omega), fun _ => ⟨by omega, fun z => absurd z (by rw [h24]; omega), fun _ => ⟨by omega, by omega, ?_⟩⟩⟩⟩
      rw [h23]
      exact cont σ (l5 + 1) Off.rf (fun _ _ _ _ => ⟨rfl, rfl⟩) hun (by omega) (by omega)
    · rw [if_neg c1] at cont
      have htl : 0 ≤ t ∧ t < s 1 := by omega
      have wst := hw.2.2.2.2.2.2.2.2.2.2.2.1 t htl.1 htl.2
      unfold stOK at wst
      obtain ⟨t2, t3, -⟩ := hm.2.2 t htl.1 htl.2
      generalize hσ1 : zup σ 24 0 c.toNat (t + 1) = σ1
      have o1 : Off [23, 24] σ σ1 := by rw [← hσ1]; exact Off.rf.up (by decide)
      have hm1 : TMs σ1 s := hm.keep o1 (by decide) (by decide) (by decide) (by decide)
      have a24 : σ1 24 0 c.toNat = t + 1 := by rw [← hσ1]; simp [zup]
      have b24 : ∀ k : Nat, k ≠ c.toNat → σ1 24 0 k = σ 24 0 k := fun k hk => by rw [← hσ1]; simp [zup, hk]
      have a23 : σ1 23 = σ 23 := by
        rw [← hσ1]
        funext i'
        rw [zup_ne (by intro z; cases z)]
      have un1 : ∀ k : Nat, k < 10 → bitz q.1 (k : Int) = 0 → σ1 24 0 k = 0 := fun k hk hb => by
        rw [b24 k (fun z => by rw [z, hcn] at hb; omega)]
        exact hun k hk hb
      have old : ∀ k : Nat, k < 10 → (k : Int) ≠ c → σ1 24 0 k = σ 24 0 k ∧ σ1 23 0 k = σ 23 0 k := fun k hk hne => ⟨b24 k (by omega), by rw [a23]⟩
      -- go on with the next street of the same corner
      have nextS : ∀ q', ok3 s q' → q'.1 = q.1 → (∀ σ' l5', Off [23, 24] σ σ' → (∀ k : Nat, k < 10 → bitz q.1 (k : Int) = 1 → (k : Int) ≠ c → σ' 24 0 k = σ 24 0 k ∧ σ' 23 0 k = σ 23 0 k) → (∀ k : Nat, k < 10 → bitz (wkF s n c (t + 1) q').1 (k : Int) = 0 → σ' 24 0 k = 0) → 0 ≤ l5' → l5' ≤ l5 + (15 - t) + 15 * (cntB (wkF s n c (t + 1) q').1 - cntB q.1) → Runs 1 mX2_walkThrough 27 (wgL (wkF s n c (t + 1) q') p l5') [] σ' (rI K)) → Runs 1 mX2_walkThrough 27 (wgL q' c (l5 + 1)) [] σ1 (rI K) := fun q' ok' e' cont' => by
        refine ih c (t + 1) q' σ1 (l5 + 1) p (by unfold mu3; rw [e']; omega) ok' (by omega) hc hm1 (by rw [e']; exact hcs) a24 (by rw [a23]; exact h23) (by rw [e']; exact un1) (by omega) (by rw [e']; omega) (fun σ' l5' o' x1 x2 x3 x4 => ?_)
        rw [e'] at x1 x4
        exact cont' σ' l5' (o1.tr o') (fun k hk hb hne => ⟨(x1 k hk hb hne).1.trans (old k hk hne).1, (x1 k hk hb hne).2.trans (old k hk hne).2⟩) x2 x3 (by omega)
      have zo : zother σ1 t c = if sg s t 0 = c then sg s t 1 else if sg s t 1 = c then sg s t 0 else -1 := by
        obtain ⟨u2, u3, -⟩ := hm1.2.2 t htl.1 htl.2
        unfold zother
        rw [u2, u3]
      refine gX2_walkThrough_27 q.1 q.2.1 q.2.2 c l5 σ ⟨fun z => absurd z (by omega), fun _ => ⟨fun z => absurd z (by omega), fun _ => ⟨by omega, fun _ => ?_, fun z => absurd (by rw [h24]; omega) z⟩⟩⟩
      rw [h24, hσ1, t3]
      refine ⟨by omega, by omega, by omega, by omega, fun z1 ez1 => ?_⟩
      rw [zo] at ez1
      by_cases c2 : bitz q.2.1 t = 1 ∨ (sg s t 0 ≠ c ∧ sg s t 1 ≠ c)
      · rw [if_pos c2] at cont
        have nx := nextS q hok rfl cont
        refine ⟨fun _ => ⟨by omega, nx⟩, fun y => ⟨fun y2 => ?_, fun _ => ⟨by omega, nx⟩⟩⟩
        exfalso
        rcases c2 with z | z
        · exact y2 z
        · rw [if_neg z.1, if_neg z.2] at ez1
          exact y ez1
      · rw [if_neg c2] at cont
        have nb : ¬ bitz q.2.1 t = 1 := fun z => c2 (Or.inl z)
        have wt := wto_ok hw (c := c) htl
        have ewt : z1 = wto s t c := by
          rw [ez1]
          unfold wto
          by_cases y : sg s t 0 = c
          · rw [if_pos y, if_pos y]
          · rw [if_neg y, if_neg y]
            by_cases y2 : sg s t 1 = c
            · rw [if_pos y2]
            · exact absurd (Or.inr ⟨y, y2⟩) c2
        rw [ewt]
        have g := wgo_ok hw (c := c) htl hok
        have z0 : zor q.2.2 0 = q.2.2 := zor_0 hok.2.2.1
        rw [z0]
        -- the two ways on, whatever the bits
        have both : ∀ w : Int, (q.1, zor q.2.1 (zshl 1 t), w) = wgo s t c q → (¬ bitz q.1 (wto s t c) = 0 → (-2147483648 ≤ l5 + 1 ∧ l5 + 1 ≤ 2147483647) ∧ Runs 1 mX2_walkThrough 27 [zR 22 0, zI q.1, zI (zor q.2.1 (zshl 1 t)), zI w, zI c, zI (l5 + 1), zU, zU] [] σ1 (rI K)) ∧ (bitz q.1 (wto s t c) = 0 → (0 ≤ wto s t c ∧ wto s t c < 10) ∧ (-2147483648 ≤ l5 + 1 ∧ l5 + 1 ≤ 2147483647) ∧ Runs 1 mX2_walkThrough 27 [zR 22 0, zI (zor q.1 (zshl 1 (wto s t c))), zI (zor q.2.1 (zshl 1 t)), zI w, zI (wto s t c), zI (l5 + 1), zU, zU] [] (zup σ1 23 0 (wto s t c).toNat c) (rI K)) := fun w ew => by
          refine ⟨fun c3 => ⟨by omega, ?_⟩, fun c3 => ⟨by omega, by omega, ?_⟩⟩
          · rw [if_pos ((bitz_01 _ _).resolve_left c3)] at cont
            have := nextS (wgo s t c q) g rfl cont
            rw [← ew] at this
            exact this
          · have c3' : ¬ bitz q.1 (wto s t c) = 1 := by omega
            rw [if_neg c3'] at cont
            have pk := put_ok hw wt hok (wgo s t c q).2.1 (wgo s t c q).2.2 g.2.1 g.2.2.1
            have cp := cntB_put' hw hok wt c3'
            have c10' := cntB_10 (zor q.1 (zshl 1 (wto s t c)))
            have f1 := wkF_ok hw n (wto s t c) 0 (zor q.1 (zshl 1 (wto s t c)), (wgo s t c q).2) pk.1 (by omega)
            have m1 : cntB (zor q.1 (zshl 1 (wto s t c))) ≤ cntB (wkF s n (wto s t c) 0 (zor q.1 (zshl 1 (wto s t c)), (wgo s t c q).2)).1 := cntB_mono f1.2
            have hne : wto s t c ≠ c := fun z => c3' (by rw [z]; exact hcs)
            have hwn : (((wto s t c).toNat : Nat) : Int) = wto s t c := Int.toNat_of_nonneg wt.1
            generalize hσ2 : zup σ1 23 0 (wto s t c).toNat c = σ2
            have o2 : Off [23, 24] σ1 σ2 := by rw [← hσ2]; exact Off.rf.up (by decide)
            have hm2 : TMs σ2 s := hm1.keep o2 (by decide) (by decide) (by decide) (by decide)
            have d24 : σ2 24 = σ1 24 := by
              rw [← hσ2]
              funext i'
              rw [zup_ne (by intro z; cases z)]
            have d23 : ∀ k : Nat, k ≠ (wto s t c).toNat → σ2 23 0 k = σ1 23 0 k := fun k hk => by rw [← hσ2]; simp [zup, hk]
            have f23 : σ2 23 0 (wto s t c).toNat = c := by rw [← hσ2]; simp [zup]
            have st : ([zR 22 0, zI (zor q.1 (zshl 1 (wto s t c))), zI (zor q.2.1 (zshl 1 t)), zI w, zI (wto s t c), zI (l5 + 1), zU, zU] : List AV) = wgL (zor q.1 (zshl 1 (wto s t c)), (wgo s t c q).2) (wto s t c) (l5 + 1) := by
              rw [← ew]; rfl
            rw [st]
            have bz : bitz q.1 (wto s t c) = 0 := c3
            refine ih (wto s t c) 0 (zor q.1 (zshl 1 (wto s t c)), (wgo s t c q).2) σ2 (l5 + 1) c (by unfold mu3; show 15 * (10 - cntB (zor q.1 (zshl 1 (wto s t c)))) + (14 - 0) < _; omega) pk.1 (by omega) wt hm2 ?_ ?_ f23 (fun k hk hb => ?_) (by omega) (by show _ + 15 * (10 - cntB (zor q.1 (zshl 1 (wto s t c)))) ≤ 150; omega) (fun σ3 l53 o3 x1 x2 x3 x4 => ?_)
            · show bitz (zor q.1 (zshl 1 (wto s t c))) (wto s t c) = 1
              have := pk.2 (wto s t c).toNat (by omega)
              rw [hwn, if_pos rfl] at this
              exact this
            · rw [d24]
              exact un1 _ (by omega) (by rw [hwn]; exact bz)
            · rw [d24]
              have hb' : bitz (zor q.1 (zshl 1 (wto s t c))) (k : Int) = 0 := hb
              rw [pk.2 k (by omega)] at hb'
              by_cases y : k = (wto s t c).toNat
              · rw [if_pos y] at hb'; omega
              · rw [if_neg y] at hb'; exact un1 k hk hb'
            · have x4' : l53 ≤ l5 + 1 + (15 - 0) + 15 * (cntB (wkF s n (wto s t c) 0 (zor q.1 (zshl 1 (wto s t c)), (wgo s t c q).2)).1 - cntB (zor q.1 (zshl 1 (wto s t c)))) := x4
              have seen1 : ∀ k : Nat, k < 10 → bitz q.1 (k : Int) = 1 → bitz (zor q.1 (zshl 1 (wto s t c))) (k : Int) = 1 := fun k hk hb => by
                rw [pk.2 k (by omega)]
                split
                · rfl
                · exact hb
              have x1' : ∀ k : Nat, k < 10 → bitz q.1 (k : Int) = 1 → σ3 24 0 k = σ1 24 0 k ∧ σ3 23 0 k = σ1 23 0 k := fun k hk hb => by
                have hk2 : (k : Int) ≠ wto s t c := fun z => by rw [z] at hb; omega
                have := x1 k hk (seen1 k hk hb) hk2
                exact ⟨this.1.trans (by rw [d24]), this.2.trans (d23 k (by omega))⟩
              have cc := x1' c.toNat (by omega) (by rw [hcn]; exact hcs)
              have o13 := (o1.tr o2).tr o3
              have c10'' := cntB_10 (wkF s n (wto s t c) 0 (zor q.1 (zshl 1 (wto s t c)), (wgo s t c q).2)).1
              refine ih c (t + 1) _ σ3 l53 p (by unfold mu3; omega) f1.1 (by omega) hc (hm.keep o13 (by decide) (by decide) (by decide) (by decide)) ?_ (by rw [cc.1]; exact a24) (by rw [cc.2, a23]; exact h23) x2 x3 (by omega) (fun σ4 l54 o4 y1 y2 y3 y4 => ?_)
              · have := f1.2 c.toNat (by omega) (seen1 c.toNat (by omega) (by rw [hcn]; exact hcs))
                rw [hcn] at this
                exact this
              · refine cont σ4 l54 (o13.tr o4) (fun k hk hb hne2 => ?_) y2 y3 (by omega)
                have a := x1' k hk hb
                have b := y1 k hk (f1.2 k (by omega) (seen1 k hk hb)) hne2
                have o := old k hk hne2
                exact ⟨(b.1.trans a.1).trans o.1, (b.2.trans a.2).trans o.2⟩
        refine ⟨fun y => absurd y (by omega), fun _ => ⟨fun _ => ⟨by omega, fun y => ?_, fun y => ?_⟩, fun y => absurd y nb⟩⟩
        · exact both _ (by unfold wgo; rw [if_neg y])
        · exact both _ (by unfold wgo; rw [if_pos y])
def wkS (s : Nat → Int) : Int := (wkF s 150 0 0 (1, 0, 0)).2.2
theorem ok3_1 (hw : WF s) : ok3 s (1, 0, 0) ∧ cntB 1 = 1 ∧ bitz 1 0 = 1 := by
  have w0 := hw.1
  refine ⟨⟨by show (0 : Int) ≤ 1 ∧ (1 : Int) < 16384; omega, by show (0 : Int) ≤ 0 ∧ (0 : Int) < 16384; omega, by show (0 : Int) ≤ 0 ∧ (0 : Int) < 16384; omega, fun k hk hb => ?_⟩, by decide +kernel, by decide +kernel⟩
  have : ∀ k : Nat, k < 14 → bitz 1 (k : Int) = 1 → k = 0 := by decide +kernel
  have := this k hk hb
  omega
theorem qX2_walkThrough (hw : WF s) {σ : Hp} (hm : TMs σ s) (h : ∀ σ', Off [23, 24] σ σ' → K (wkS s) σ') : Runs 1 mX2_walkThrough 0 [zR 22 0, zU, zU, zU, zU, zU, zU, zU] [] σ (rI K) := by
  have w0 := hw.1
  have w1 := hw.2.1
  obtain ⟨k1, k2, k3⟩ := ok3_1 hw
  refine gX2_walkThrough_0 σ (fill24 ?_)
  generalize hσ1 : zup (zfillN σ 24 0 0 10) 23 0 0 (-1) = σ1
  have o1 : Off [23, 24] σ σ1 := by rw [← hσ1]; exact (zfillN_off.mono (by decide)).up (by decide)
  have f24 : ∀ k, k < 10 → σ1 24 0 k = 0 := fun k hk => by rw [← hσ1]; simp [zup, zfillN, hk]
  have f23 : σ1 23 0 0 = -1 := by rw [← hσ1]; simp [zup]
  refine cls_walks (K := K) hw 150 0 0 (1, 0, 0) σ1 0 (-1) (by unfold mu3; rw [k2]; decide) k1 (by omega) (by omega) (hm.keep o1 (by decide) (by decide) (by decide) (by decide)) k3 (f24 0 (by omega)) f23 (fun k hk _ => f24 k hk) (by omega) (by rw [k2]; decide) (fun σ2 l5 o2 _ _ _ _ => ?_)
  have hK := h σ2 (o1.tr o2)
  exact gX2_walkThrough_27 _ _ _ (-1) l5 σ2 ⟨fun _ => hK, fun _ => ⟨fun _ => hK, fun q => absurd rfl q⟩⟩
/-- the reference's -/
theorem qX11_walks (hw : WF s) {σ : Hp} (hs : σ 36 0 = s) (h17 : σ 34 0 17 = 0) (h18 : σ 34 0 18 = 0) (h19 : σ 34 0 19 = 0) (h : ∀ σ', OffM [] [17, 18, 19] σ σ' → σ' 34 0 18 = wkS s → K' σ') : Runs 10 mX11_walks 0 [zR 34 0, zI 0, zU, zU] [] σ (rV K') := by
  have w0 := hw.1
  have w1 := hw.2.1
  obtain ⟨k1, k2, k3⟩ := ok3_1 hw
  have e1 : zor 0 (zshl 1 0) = 1 := by decide +kernel
  refine gX11_walks_0 9 0 σ ?_
  rw [h19, e1]
  refine ref_walks hw 150 9 0 0 (1, 0, 0) _ K' (by unfold mu3; rw [k2]; decide) k1 (by omega) (by rw [zup_ne (by intro z; cases z)]; exact hs) ⟨by simp [zup]; exact h17, by simp [zup]; exact h18, by simp [zup]⟩ (by rw [k2]; decide) (fun σ2 o2 h2 => h σ2 ((OffM.rf.up34 (by decide)).tr o2) h2.2.1)
end Walk
