/-! what stays true between calls -/
def MWf (k : Nat) (s im : Nat → Int) (b N : Int) (rf : Nat → Int) : Prop := (WF s ∧ (∀ j, 123 ≤ j → s j = 0) ∧ s 5 = 0) ∧ (b = 1 → WF im ∧ (∀ j, 123 ≤ j → im j = 0) ∧ im 5 = 0) ∧ (b = 0 ∨ b = 1) ∧ (0 ≤ N ∧ N ≤ 64) ∧ ∀ j, j < 7 → 0 ≤ rf j ∧ rf j ≤ k
def CPt (σ : Hp) (s im : Nat → Int) (b N : Int) (T rf : Nat → Int) : Prop := TW σ 0 s ∧ (b = 1 → TW σ 1 im) ∧ σ 0 0 12 = b ∧ σ 12 0 1 = N ∧ (∀ i : Nat, (i : Int) < N → σ 13 0 i = T i) ∧ ∀ j, j < 7 → σ 33 0 j = rf j
def RPt (σ : Hp) (s im : Nat → Int) (b N : Int) (T rf : Nat → Int) : Prop := σ 36 0 = s ∧ (b = 1 → σ 37 0 = im) ∧ (∀ j, 123 ≤ j → σ 37 0 j = 0 ∧ σ 38 0 j = 0) ∧ σ 34 0 4 = b ∧ σ 34 0 7 = N ∧ (∀ i : Nat, (i : Int) < N → σ 39 0 i = T i) ∧ ∀ j, j < 7 → σ 35 0 j = rf j
def STt (σ : Hp) : Prop := (σ 61 0 0 = 0 ∧ σ 61 0 1 = 0 ∧ σ 61 0 2 = 10 ∧ σ 61 0 3 = 0) ∧ (σ 62 0 0 = 1439 ∧ σ 62 0 1 = 4 ∧ σ 62 0 2 = 720 ∧ σ 62 0 3 = 9)
def Good (k : Nat) (σ : Hp) : Prop := ∃ (s im : Nat → Int) (b N : Int) (T rf : Nat → Int), MWf k s im b N rf ∧ CPt σ s im b N T rf ∧ RPt σ s im b N T rf ∧ STt σ
def Fx (σ σ2 : Hp) : Prop := σ2 60 = σ 60 ∧ σ2 61 = σ 61 ∧ σ2 62 = σ 62
abbrev GC : List Nat := [16, 17, 18, 19, 20, 21, 22, 23, 24, 25, 26, 27, 28, 29, 30, 31, 32]
def RQ (σ1 σ2 : Hp) : Prop := (∀ g, g < 34 ∨ 52 ≤ g → σ2 g = σ1 g) ∧ σ2 35 = σ1 35 ∧ σ2 36 0 = σ1 36 0 ∧ σ2 37 = σ1 37 ∧ σ2 38 = σ1 38 ∧ σ2 39 = σ1 39 ∧ σ2 34 0 4 = σ1 34 0 4 ∧ σ2 34 0 7 = σ1 34 0 7
/-- a call of both -/
def Pr2 (k : Nat) (σ : Hp) (d1 : Nat) (M1 : Mt) (L1 : List AV) (d2 : Nat) (M2 : Mt) (L2 : List AV) : Prop := ∀ K2 : Hp → Prop, (∀ σ2, Good (k + 1) σ2 → Fx σ σ2 → K2 σ2) → Runs d1 M1 0 L1 [] σ (rI (fun z1 σ1 => Runs d2 M2 0 L2 [] σ1 (rI (fun z2 σ2 => z1 = z2 ∧ K2 σ2))))
section Inv
variable {k : Nat} {σ σ1 σ2 : Hp} {s im : Nat → Int} {b N : Int} {T rf : Nat → Int}
theorem STt.fx (h : STt σ) (hf : Fx σ σ2) : STt σ2 := by
  unfold STt
  rw [hf.2.1, hf.2.2]
  exact h
theorem MWf.up (h : MWf k s im b N rf) : MWf (k + 1) s im b N rf := ⟨h.1, h.2.1, h.2.2.1, h.2.2.2.1, fun j hj => by have := h.2.2.2.2 j hj; omega⟩
theorem CPt.keep (h : CPt σ s im b N T rf) (hk : ∀ g, g < 34 → g < 16 ∨ g = 33 → σ1 g = σ g) : CPt σ1 s im b N T rf := by
  obtain ⟨h1, h2, h3, h4, h5, h6⟩ := h
  refine ⟨h1.keep (fun g hg _ => by rw [hk g (by omega) (by omega)]), fun hb => (h2 hb).keep (fun g hg _ => by rw [hk g (by omega) (by omega)]), by rw [hk 0 (by omega) (by omega)]; exact h3, by rw [hk 12 (by omega) (by omega)]; exact h4, fun i hi => by rw [hk 13 (by omega) (by omega)]; exact h5 i hi, fun j hj => by rw [hk 33 (by omega) (by omega)]; exact h6 j hj⟩
theorem RPt.keep (h : RPt σ s im b N T rf) (hk : ∀ g, 34 ≤ g → g < 40 → σ1 g = σ g) : RPt σ1 s im b N T rf := by
  unfold RPt
  rw [hk 34 (by omega) (by omega), hk 35 (by omega) (by omega), hk 36 (by omega) (by omega), hk 37 (by omega) (by omega), hk 38 (by omega) (by omega), hk 39 (by omega) (by omega)]
  exact h
theorem notGC {g : Nat} (h : g < 16 ∨ 33 ≤ g) : g ∉ GC := by
  intro q
  simp at q
  omega
theorem RPt.offC (h : RPt σ s im b N T rf) (c : Off GC σ σ1) : RPt σ1 s im b N T rf := h.keep (fun g hg _ => c g (notGC (by omega)))
theorem RPt.rq (h : RPt σ1 s im b N T rf) (r : RQ σ1 σ2) : RPt σ2 s im b N T rf := by
  obtain ⟨r0, r1, r2, r3, r4, r5, r6, r7⟩ := r
  unfold RPt
  rw [r1, r2, r3, r4, r5, r6, r7]
  exact h
theorem qfin (hM : MWf k s im b N rf) (hC : CPt σ s im b N T rf) (hR : RPt σ s im b N T rf) (hS : STt σ) (c : Off GC σ σ1) (r : RQ σ1 σ2) : Good (k + 1) σ2 ∧ Fx σ σ2 := by
  have fx : Fx σ σ2 := ⟨by rw [r.1 60 (by omega), c 60 (notGC (by omega))], by rw [r.1 61 (by omega), c 61 (notGC (by omega))], by rw [r.1 62 (by omega), c 62 (notGC (by omega))]⟩
  exact ⟨⟨s, im, b, N, T, rf, hM.up, hC.keep (fun g hg h2 => by rw [r.1 g (by omega), c g (notGC (by omega))]), (hR.offC c).rq r, hS.fx fx⟩, fx⟩
theorem RQ.rf_ : RQ σ σ := ⟨fun _ _ => rfl, rfl, rfl, rfl, rfl, rfl, rfl, rfl⟩
theorem RQ.off {G : List Nat} (h : Off G σ1 σ2) (hG : ∀ g ∈ G, 40 ≤ g ∧ g < 52) : RQ σ1 σ2 := by
  have e : ∀ g, g < 40 ∨ 52 ≤ g → σ2 g = σ1 g := fun g hg => h g (fun q => by have := hG g q; omega)
  exact ⟨fun g hg => e g (by omega), e 35 (by omega), by rw [e 36 (by omega)], e 37 (by omega), e 38 (by omega), e 39 (by omega), by rw [e 34 (by omega)], by rw [e 34 (by omega)]⟩
theorem RQ.offm {G J : List Nat} (h : OffM G J σ1 σ2) (hG : ∀ g ∈ G, 40 ≤ g ∧ g < 52) (h4 : 4 ∉ J) (h7 : 7 ∉ J) : RQ σ1 σ2 := by
  have e : ∀ g, g ≠ 34 → g < 40 ∨ 52 ≤ g → σ2 g = σ1 g := fun g h34 hg => h.1 g (fun q => by
    rcases List.mem_cons.mp q with z | z
    · exact h34 z
    · have := hG g z; omega)
  exact ⟨fun g hg => e g (by omega) (by omega), e 35 (by omega) (by omega), by rw [e 36 (by omega) (by omega)], e 37 (by omega) (by omega), e 38 (by omega) (by omega), e 39 (by omega) (by omega), h.2 4 h4, h.2 7 h7⟩
theorem RQ.off36 {G : List Nat} (h : Off (36 :: G) σ1 σ2) (hG : ∀ g ∈ G, 40 ≤ g ∧ g < 52) (h36 : ∀ j, σ2 36 0 j = σ1 36 0 j) : RQ σ1 σ2 := by
  have e : ∀ g, g ≠ 36 → g < 40 ∨ 52 ≤ g → σ2 g = σ1 g := fun g h34 hg => h g (fun q => by
    rcases List.mem_cons.mp q with z | z
    · exact h34 z
    · have := hG g z; omega)
  exact ⟨fun g hg => e g (by omega) (by omega), e 35 (by omega) (by omega), funext h36, e 37 (by omega) (by omega), e 38 (by omega) (by omega), e 39 (by omega) (by omega), by rw [e 34 (by omega) (by omega)], by rw [e 34 (by omega) (by omega)]⟩
theorem RQ.tr {σ3 : Hp} (h1 : RQ σ σ1) (h2 : RQ σ1 σ3) : RQ σ σ3 := by
  obtain ⟨a0, a1, a2, a3, a4, a5, a6, a7⟩ := h1
  obtain ⟨b0, b1, b2, b3, b4, b5, b6, b7⟩ := h2
  exact ⟨fun g hg => (b0 g hg).trans (a0 g hg), b1.trans a1, b2.trans a2, b3.trans a3, b4.trans a4, b5.trans a5, b6.trans a6, b7.trans a7⟩
/-- both refuse -/
theorem leaf_ref (hM : MWf k s im b N rf) (hC : CPt σ s im b N T rf) (hR : RPt σ s im b N T rf) (hS : STt σ) (hk : k < 1000) {n : Int} (hn : -6 ≤ n ∧ n ≤ -1) {d2 : Nat} {M2 : Mt} {L2 : List AV} {K2 : Hp → Prop} (cont : ∀ σ2, Good (k + 1) σ2 → Fx σ σ2 → K2 σ2) {z : Int}
    (hRef : ∀ (σ1 : Hp) (K3 : Int → Hp → Prop), RPt σ1 s im b N T rf → ((-6 ≤ n ∧ n ≤ -1) ∧ (σ1 35 0 (-n).toNat ≤ 2147483646) ∧ ∀ σ2 : Hp, σ2 = zup σ1 35 0 (-n).toNat (σ1 35 0 (-n).toNat + 1) → rI K3 (some z) σ2) → Runs d2 M2 0 L2 [] σ1 (rI K3)) :
    (-6 ≤ n ∧ n ≤ -1) ∧ (σ 33 0 (-n).toNat ≤ 2147483646) ∧ ∀ σ1 : Hp, σ1 = zup σ 33 0 (-n).toNat (σ 33 0 (-n).toNat + 1) → rI (fun z1 σ1 => Runs d2 M2 0 L2 [] σ1 (rI (fun z2 σ2 => z1 = z2 ∧ K2 σ2))) (some z) σ1 := by
  have hj : (-n).toNat < 7 := by omega
  have hm := hM.2.2.2.2 _ hj
  have c33 := hC.2.2.2.2.2 _ hj
  have r35 := hR.2.2.2.2.2.2 _ hj
  refine ⟨hn, by omega, fun σ1 e1 => ?_⟩
  generalize hjj : (-n).toNat = j at *
  have k1 : ∀ g, g ≠ 33 → σ1 g = σ g := fun g hg => by
    rw [e1]
    funext i'
    rw [zup_ne (by intro q; cases q; exact hg rfl)]
  have hR1 : RPt σ1 s im b N T rf := hR.keep (fun g h1 _ => k1 g (by omega))
  refine hRef σ1 _ hR1 ⟨hn, by rw [k1 35 (by omega)]; omega, fun σ2 e2 => ⟨rfl, ?_⟩⟩
  have k2 : ∀ g, g ≠ 35 → σ2 g = σ1 g := fun g hg => by
    rw [e2]
    funext i'
    rw [zup_ne (by intro q; cases q; exact hg rfl)]
  have fx : Fx σ σ2 := ⟨by rw [k2 60 (by omega), k1 60 (by omega)], by rw [k2 61 (by omega), k1 61 (by omega)], by rw [k2 62 (by omega), k1 62 (by omega)]⟩
  refine cont σ2 ⟨s, im, b, N, T, (fun i => if i = j then rf i + 1 else rf i), ⟨hM.1, hM.2.1, hM.2.2.1, hM.2.2.2.1, fun i hi => ?_⟩, ?_, ?_, hS.fx fx⟩ fx
  · have := hM.2.2.2.2 i hi
    dsimp only
    split <;> omega
  · obtain ⟨c1, c2, c3, c4, c5, c6⟩ := hC
    refine ⟨c1.keep (fun g hg _ => by rw [k2 g (by omega), k1 g (by omega)]), fun hb => (c2 hb).keep (fun g hg _ => by rw [k2 g (by omega), k1 g (by omega)]), by rw [k2 0 (by omega), k1 0 (by omega)]; exact c3, by rw [k2 12 (by omega), k1 12 (by omega)]; exact c4, fun i hi => by rw [k2 13 (by omega), k1 13 (by omega)]; exact c5 i hi, fun i hi => ?_⟩
    rw [k2 33 (by omega), e1]
    by_cases q : i = j
    · subst q
      simp [zup, c33]
    · simp [zup, q]
      exact c6 i hi
  · obtain ⟨c1, c2, c3, c4, c5, c6, c7⟩ := hR1
    refine ⟨by rw [k2 36 (by omega)]; exact c1, fun hb => by rw [k2 37 (by omega)]; exact c2 hb, fun i hi => by rw [k2 37 (by omega), k2 38 (by omega)]; exact c3 i hi, by rw [k2 34 (by omega)]; exact c4, by rw [k2 34 (by omega)]; exact c5, fun i hi => by rw [k2 39 (by omega)]; exact c6 i hi, fun i hi => ?_⟩
    rw [e2]
    by_cases q : i = j
    · subst q
      have := c7 i hi
      simp [zup]
      exact this
    · simp [zup, q]
      exact c7 i hi
theorem zw (v x y : Int) : (zwithin v x y = 0 ∧ x ≤ v ∧ v ≤ y) ∨ (zwithin v x y = -4 ∧ v < x) ∨ (zwithin v x y = -6 ∧ x ≤ v ∧ y < v) := by
  unfold zwithin
  split
  · exact Or.inr (Or.inl ⟨rfl, by omega⟩)
  · split
    · exact Or.inr (Or.inr ⟨rfl, by omega, by omega⟩)
    · exact Or.inl ⟨rfl, by omega, by omega⟩
theorem zww (s : Nat → Int) (f t m : Int) : (zwrongWay s f t m = 0 ∧ (0 ≤ f ∧ f < s 0) ∧ (0 ≤ t ∧ t < s 0) ∧ 0 ≤ m ∧ m ≤ 2879) ∨ (-6 ≤ zwrongWay s f t m ∧ zwrongWay s f t m ≤ -1) := by
  unfold zwrongWay
  split
  · rename_i q
    rcases zw m 0 2879 with z | z | z
    · exact Or.inl ⟨z.1, q.1, q.2, z.2⟩
    · exact Or.inr (by omega)
    · exact Or.inr (by omega)
  · exact Or.inr (by omega)
theorem zww_eq {s s' : Nat → Int} (h : s 0 = s' 0) (f t m : Int) : zwrongWay s f t m = zwrongWay s' f t m := by
  unfold zwrongWay
  rw [h]
theorem take_ok (hM : MWf k s im b N rf) (hC : CPt σ s im b N T rf) (e : σ1 = tTake σ) : Off [16] σ σ1 ∧ TRc σ1 s ∧ TMs σ1 s ∧ TMe σ1 s := by
  subst e
  have o := tTake_off (σ := σ)
  exact ⟨o, TRc_take hM.1.1 hM.1.2.2 hC.1.cs, hC.1.ms.keep o (by decide) (by decide) (by decide) (by decide), hC.1.me.keep o (by decide) (by decide) (by decide) (by decide) (by decide)⟩
theorem zfew_c {n : Int} (h0 : 0 ≤ n) : (zfew n = 0 ∧ 1 ≤ n ∧ n ≤ 10) ∨ (-6 ≤ zfew n ∧ zfew n ≤ -1) := by
  unfold zfew
  split
  · exact Or.inr (by omega)
  · split
    · exact Or.inr (by omega)
    · exact Or.inl ⟨rfl, by omega, by omega⟩
end Inv
