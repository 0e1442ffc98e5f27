/-! the law's loop: call after call, both answer the same -/
theorem ro_same {G : Gw} {A : Nat → Prop} {σ σ' : Hp} {s : State} (h : RO G A σ s) (h' : RO G A σ' s) (ok : okH σ) (ok' : okH σ') : σ' 60 1 0 = σ 60 1 0 ∧ ∀ j : Nat, (j : Int) < σ 60 1 0 → σ' 60 0 j = σ 60 0 j := by
  obtain ⟨⟨⟨scr, a1, a2, a3, a4, a5⟩, -, -⟩, ⟨h6, -⟩, -⟩ := h
  obtain ⟨⟨⟨scr', b1, b2, b3, b4, b5⟩, -, -⟩, ⟨h6', -⟩, -⟩ := h'
  rw [a1] at b1
  cases b1
  refine ⟨by rw [h6, h6'], fun j hj => ?_⟩
  have q1 := a5 j (by omega)
  have q2 := b5 j (by omega)
  rw [q1] at q2
  have q3 : n32 (σ 60 0 j) = n32 (σ' 60 0 j) := by
    exact Value.int.inj (Option.some.inj q2)
  exact ((n32_inj (ok _ _ _) (ok' _ _ _)).mp q3).symm
theorem Runs.ro {d : Nat} {M : Mt} {pc : Nat} {L S : List AV} {σ : Hp} {K : Int → Hp → Prop} (h : Runs d M pc L S σ (rI (fun z σ' => (σ' 60 1 0 = σ 60 1 0 ∧ ∀ j : Nat, (j : Int) < σ 60 1 0 → σ' 60 0 j = σ 60 0 j) → K z σ'))) : Runs d M pc L S σ (rI K) := by
  intro h1 h2 G p l e R s m args below meth c cells slots A QQ C H locs ls hW hl hk
  refine h h1 h2 G p l e R s m args below meth c cells slots A QQ C H locs ls hW hl (fun rv σ' H' locs' ls' pc' q r hW' => hk rv σ' H' locs' ls' pc' ?_ r hW')
  cases rv with
  | none => exact q.elim
  | some z => exact q (ro_same hW.2.2.2.1 hW'.2.2.2.1 hW.2.2.2.2 hW'.2.2.2.2)
theorem Good.up {k : Nat} {σ : Hp} (h : Good k σ) : Good (k + 1) σ := by
  obtain ⟨s, im, b, N, T, rf, hM, hC, hR, hS⟩ := h
  exact ⟨s, im, b, N, T, rf, hM.up, hC, hR, hS⟩
theorem law_use {k : Nat} {σ : Hp} {d1 d2 : Nat} {M1 M2 : Mt} {L1 L2 : List AV} {X Y : Hp → Prop} (p : Pr2 k σ d1 M1 L1 d2 M2 L2) (nx : ∀ σ2, Good (k + 1) σ2 → σ2 60 = σ 60 → X σ2) : Runs d1 M1 0 L1 [] σ (rI (fun z1 σ1 => Runs d2 M2 0 L2 [] σ1 (rI (fun z2 σ2 => (z1 = z2 → X σ2) ∧ (¬ z1 = z2 → Y σ2))))) :=
  (p (fun σ2 => Good (k + 1) σ2 ∧ σ2 60 = σ 60) (fun _ g f => ⟨g, f.1⟩)).monoI (fun _ _ r => r.monoI (fun _ σ2 q => ⟨fun _ => nx σ2 q.2.1 q.2.2, fun c => absurd q.1 c⟩))
theorem zand_63 (a : Int) : 0 ≤ zand a 63 ∧ zand a 63 ≤ 63 := by
  unfold zand
  have h2 : (n32 a &&& n32 63).toBitVec.toNat = (n32 a).toBitVec.toNat % 64 := by
    show ((n32 a).toBitVec &&& (n32 63).toBitVec).toNat = _
    rw [BitVec.toNat_and]
    show (n32 a).toBitVec.toNat &&& (2 ^ 6 - 1) = _
    exact Nat.and_two_pow_sub_one_eq_mod _ 6
  have h3 : (n32 a &&& n32 63).toInt = ((n32 a).toBitVec.toNat % 64 : Nat) := by
    show (n32 a &&& n32 63).toBitVec.toInt = _
    rw [BitVec.toInt_eq_toNat_of_lt (by rw [h2]; omega), h2]
  rw [h3]
  omega
/-- from the k-th call on -/
theorem law_loop {Q : Option Int → Hp → Prop} (hQ : ∀ σ', Q (some 1) σ') : ∀ (n k : Nat) (σ : Hp), n + k = 65 → Good k σ → 0 ≤ σ 60 1 0 ∧ σ 60 1 0 ≤ 320 → Runs 12 mL_law 18 [zR 60 0, zR 0 0, zR 34 0, zI (5 * (k : Int))] [] σ Q := by
  intro n
  induction n with
  | zero =>
    intro k σ hk hG hl
    refine gL_law_18 _ σ ⟨by omega, fun _ => hQ σ, fun c => absurd (by omega) c⟩
  | succ n ih =>
    intro k σ hk hG hl
    have hk2 : k < 1000 := by omega
    have nx : ∀ σ2, Good (k + 1) σ2 → σ2 60 = σ 60 → (-2147483648 ≤ 5 * (k : Int) + 5 ∧ 5 * (k : Int) + 5 ≤ 2147483647) ∧ Runs 12 mL_law 18 [zR 60 0, zR 0 0, zR 34 0, zI (5 * (k : Int) + 5)] [] σ2 Q := fun σ2 g e => by
      have r := ih (k + 1) σ2 (by omega) g (by rw [e]; exact hl)
      rw [show 5 * ((k + 1 : Nat) : Int) = 5 * (k : Int) + 5 by omega] at r
      exact ⟨by omega, r⟩
    have hz := zand_63 (σ 60 0 (5 * (k : Int)).toNat)
    refine gL_law_18 _ σ ⟨by omega, fun _ => hQ σ, fun c => ⟨by omega, fun _ => nx σ hG.up rfl, ?_⟩⟩
    have i1 : (((5 * (k : Int) + 1).toNat : Nat) : Int) < σ 60 1 0 := by omega
    have i2 : (((5 * (k : Int) + 2).toNat : Nat) : Int) < σ 60 1 0 := by omega
    have i3 : (((5 * (k : Int) + 3).toNat : Nat) : Int) < σ 60 1 0 := by omega
    have i4 : (((5 * (k : Int) + 4).toNat : Nat) : Int) < σ 60 1 0 := by omega
    refine ⟨fun _ => ⟨by omega, by omega, by omega, by omega, by omega, by omega, ?_⟩, fun _ => ?_, fun _ => ⟨by omega, by omega, by omega, by omega, ?_⟩, fun _ => ⟨by omega, by omega, by omega, by omega, ?_⟩, fun _ => ⟨by omega, by omega, by omega, by omega, ?_⟩, fun _ => ⟨by omega, by omega, ?_⟩, fun _ => ⟨by omega, by omega, by omega, by omega, (fun h0 => ?_), (fun h0 => ?_)⟩, fun _ => ⟨by omega, by omega, by omega, by omega, ?_⟩, fun _ => ⟨by omega, by omega, by omega, by omega, by omega, by omega, ?_⟩, fun _ => ⟨by omega, by omega, by omega, by omega, by omega, by omega, ?_⟩, fun _ => ⟨by omega, by omega, by omega, by omega, by omega, by omega, by omega, by omega, ?_⟩, fun _ => ⟨by omega, by omega, ?_⟩, fun _ => ⟨by omega, by omega, ?_⟩, fun _ => ⟨by omega, by omega, ?_⟩, fun _ => ?_, fun _ => ?_, fun _ => ?_, fun _ => ?_, fun _ => ?_, fun _ => ?_, fun _ => ?_, fun _ => ⟨by omega, by omega, ?_⟩, fun _ => ⟨by omega, by omega, ?_⟩, fun _ => ?_, fun _ => ?_, fun _ => ?_, fun _ => ⟨by omega, by omega, by omega, by omega, ?_⟩, fun _ => ?_, fun _ => ⟨by omega, by omega, by omega, by omega, by omega, by omega, ?_⟩, fun _ => ⟨by omega, by omega, ?_⟩, fun _ => ⟨by omega, by omega, by omega, by omega, ?_⟩, fun _ => ?_, fun _ => ?_, fun _ => ?_, fun _ => ⟨by omega, by omega, ?_⟩⟩
    · exact Runs.ro ((law_use (pr_feed hG hk2) nx).monoI (fun z1 σ1 hr sa => by
        simp only [sa.1, sa.2 _ i1, sa.2 _ i2, sa.2 _ i3]
        exact ⟨by omega, by omega, by omega, by omega, by omega, by omega, hr⟩))
    · exact law_use (pr_town hG hk2) nx
    · exact Runs.ro ((law_use (pr_street hG hk2) nx).monoI (fun z1 σ1 hr sa => by
        simp only [sa.1, sa.2 _ i1, sa.2 _ i2]
        exact ⟨by omega, by omega, by omega, by omega, hr⟩))
    · exact Runs.ro ((law_use (pr_errand hG hk2) nx).monoI (fun z1 σ1 hr sa => by
        simp only [sa.1, sa.2 _ i1, sa.2 _ i2]
        exact ⟨by omega, by omega, by omega, by omega, hr⟩))
    · exact Runs.ro ((law_use (pr_set hG hk2) nx).monoI (fun z1 σ1 hr sa => by
        simp only [sa.1, sa.2 _ i1, sa.2 _ i2]
        exact ⟨by omega, by omega, by omega, by omega, hr⟩))
    · exact Runs.ro ((law_use (pr_point hG hk2) nx).monoI (fun z1 σ1 hr sa => by
        simp only [sa.1, sa.2 _ i1]
        exact ⟨by omega, by omega, hr⟩))
    · exact Runs.ro ((law_use (pr_shut hG hk2 (Or.inl rfl)) nx).monoI (fun z1 σ1 hr sa => by
        simp only [sa.1, sa.2 _ i1, sa.2 _ i2]
        exact ⟨by omega, by omega, by omega, by omega, ⟨fun _ => hr, fun q => absurd h0 q⟩⟩))
    · exact Runs.ro ((law_use (pr_shut hG hk2 (Or.inr rfl)) nx).monoI (fun z1 σ1 hr sa => by
        simp only [sa.1, sa.2 _ i1, sa.2 _ i2]
        exact ⟨by omega, by omega, by omega, by omega, ⟨fun q => absurd q h0, fun _ => hr⟩⟩))
    · exact Runs.ro ((law_use (pr_way hG hk2) nx).monoI (fun z1 σ1 hr sa => by
        simp only [sa.1, sa.2 _ i1, sa.2 _ i2]
        exact ⟨by omega, by omega, by omega, by omega, hr⟩))
    · exact Runs.ro ((law_use (pr_soonest hG hk2) nx).monoI (fun z1 σ1 hr sa => by
        simp only [sa.1, sa.2 _ i1, sa.2 _ i2, sa.2 _ i3]
        exact ⟨by omega, by omega, by omega, by omega, by omega, by omega, hr⟩))
    · exact Runs.ro ((law_use (pr_waited hG hk2) nx).monoI (fun z1 σ1 hr sa => by
        simp only [sa.1, sa.2 _ i1, sa.2 _ i2, sa.2 _ i3]
        exact ⟨by omega, by omega, by omega, by omega, by omega, by omega, hr⟩))
    · exact Runs.ro ((law_use (pr_road hG hk2) nx).monoI (fun z1 σ1 hr sa => by
        simp only [sa.1, sa.2 _ i1, sa.2 _ i2, sa.2 _ i3, sa.2 _ i4]
        exact ⟨by omega, by omega, by omega, by omega, by omega, by omega, by omega, by omega, hr⟩))
    · exact Runs.ro ((law_use (pq_all hG hk2) nx).monoI (fun z1 σ1 hr sa => by
        simp only [sa.1, sa.2 _ i1]
        exact ⟨by omega, by omega, hr⟩))
    · exact Runs.ro ((law_use (pr_longest hG hk2) nx).monoI (fun z1 σ1 hr sa => by
        simp only [sa.1, sa.2 _ i1]
        exact ⟨by omega, by omega, hr⟩))
    · exact Runs.ro ((law_use (pr_apart hG hk2) nx).monoI (fun z1 σ1 hr sa => by
        simp only [sa.1, sa.2 _ i1]
        exact ⟨by omega, by omega, hr⟩))
    · exact law_use (pr_can hG hk2) nx
    · exact law_use (pr_bridges hG hk2) nx
    · exact law_use (pr_walk hG hk2) nx
    · exact law_use (pr_cost hG hk2) nx
    · exact law_use (pr_best hG hk2) nx
    · exact law_use (pr_far hG hk2) nx
    · exact law_use (pr_turning hG hk2) nx
    · exact Runs.ro ((law_use (pr_bothWays hG hk2) nx).monoI (fun z1 σ1 hr sa => by
        simp only [sa.1, sa.2 _ i1]
        exact ⟨by omega, by omega, hr⟩))
    · exact Runs.ro ((law_use (pr_corner hG hk2) nx).monoI (fun z1 σ1 hr sa => by
        simp only [sa.1, sa.2 _ i1]
        exact ⟨by omega, by omega, hr⟩))
    · exact law_use (pr_procession hG hk2) nx
    · exact law_use (pr_bestNoon hG hk2) nx
    · exact law_use (pr_lives hG hk2) nx
    · exact Runs.ro ((law_use (pr_meets hG hk2) nx).monoI (fun z1 σ1 hr sa => by
        simp only [sa.1, sa.2 _ i1, sa.2 _ i2]
        exact ⟨by omega, by omega, by omega, by omega, hr⟩))
    · exact law_use (pr_pairs hG hk2) nx
    · exact Runs.ro ((law_use (pr_lanes hG hk2) nx).monoI (fun z1 σ1 hr sa => by
        simp only [sa.1, sa.2 _ i1, sa.2 _ i2, sa.2 _ i3]
        exact ⟨by omega, by omega, by omega, by omega, by omega, by omega, hr⟩))
    · exact Runs.ro ((law_use (pr_shuts hG hk2) nx).monoI (fun z1 σ1 hr sa => by
        simp only [sa.1, sa.2 _ i1]
        exact ⟨by omega, by omega, hr⟩))
    · exact Runs.ro ((law_use (pr_days hG hk2) nx).monoI (fun z1 σ1 hr sa => by
        simp only [sa.1, sa.2 _ i1, sa.2 _ i2]
        exact ⟨by omega, by omega, by omega, by omega, hr⟩))
    · exact law_use (pr_judge hG hk2) nx
    · exact law_use (pr_image hG hk2) nx
    · exact law_use (pr_on hG hk2) nx
    · exact Runs.ro ((law_use (pr_count hG hk2) nx).monoI (fun z1 σ1 hr sa => by
        simp only [sa.1, sa.2 _ i1]
        exact ⟨by omega, by omega, hr⟩))
