theorem gX11_readsNumber_0 (a0 : Int) (a1 : Int) (σ : Hp) {Q : Option Int → Hp → Prop} (h : (0 ≤ a0 ∧ a0 < 4) ∧ Runs 1 mX11_readsNumber 9 [zR 34 0, zI a0, zI a1, zI 0] [] (zup σ 40 0 a0.toNat 0) Q) : Runs 1 mX11_readsNumber 0 [zR 34 0, zI a0, zI a1, zU] [] σ Q := by
  refine r_blk [qO (.aload_n 0), qF (.getfield 25) 11 6, qO (.iload_n 1), qO (.iconst 0), qO .iastore, qO (.iconst 0), qO (.istore_n 3)] (pc' := 9) (L' := [zR 34 0, zI a0, zI a1, zI 0]) (S' := []) (σ' := (zup σ 40 0 a0.toNat 0)) (Ps := [0 ≤ a0 ∧ a0 < 4]) (by decide +kernel) rfl ⟨h.1, trivial⟩ ?_
  replace h := h.2
  exact Runs.fg (fgE (fgE (fgE (fgE fg0)))) h
theorem gX11_readsNumber_9 (l1 : Int) (l2 : Int) (l3 : Int) (σ : Hp) {Q : Option Int → Hp → Prop} (h : ((l2 ≤ l3 → ((l3 ≤ 0 → Q (some 0) σ) ∧ (¬ l3 ≤ 0 → Q (some 1) σ))) ∧ (¬ l2 ≤ l3 → (0 ≤ σ 34 0 8 ∧ σ 34 0 7 ≤ 64) ∧ ((zsign σ < 48 → ((l3 ≤ 0 → Q (some 0) σ) ∧ (¬ l3 ≤ 0 → Q (some 1) σ))) ∧ (¬ zsign σ < 48 → (0 ≤ σ 34 0 8 ∧ σ 34 0 7 ≤ 64) ∧ ((57 < zsign σ → ((l3 ≤ 0 → Q (some 0) σ) ∧ (¬ l3 ≤ 0 → Q (some 1) σ))) ∧ (¬ 57 < zsign σ → (0 ≤ l1 ∧ l1 < 4) ∧ (-2147483648 ≤ 10 * (σ 40 0 l1.toNat) ∧ 10 * (σ 40 0 l1.toNat) ≤ 2147483647) ∧ (0 ≤ σ 34 0 8 ∧ σ 34 0 7 ≤ 64) ∧ (-2147483648 ≤ (10 * (σ 40 0 l1.toNat)) + (zsign σ) ∧ (10 * (σ 40 0 l1.toNat)) + (zsign σ) ≤ 2147483647) ∧ (-2147483648 ≤ ((10 * (σ 40 0 l1.toNat)) + (zsign σ)) - 48 ∧ ((10 * (σ 40 0 l1.toNat)) + (zsign σ)) - 48 ≤ 2147483647) ∧ (0 ≤ l1 ∧ l1 < 4) ∧ (-2147483648 ≤ (σ 34 0 8) + 1 ∧ (σ 34 0 8) + 1 ≤ 2147483647) ∧ (-2147483648 ≤ l3 + 1 ∧ l3 + 1 ≤ 2147483647) ∧ ∀ σ1 : Hp, σ1 = (zup (zup σ 40 0 l1.toNat (((10 * (σ 40 0 l1.toNat)) + (zsign σ)) - 48)) 34 0 8 ((σ 34 0 8) + 1)) → Runs 1 mX11_readsNumber 9 [zR 34 0, zI l1, zI l2, zI (l3 + 1)] [] σ1 Q))))))) : Runs 1 mX11_readsNumber 9 [zR 34 0, zI l1, zI l2, zI l3] [] σ Q := by
  refine r_blk [qO (.iload_n 3), qO (.iload_n 2)] (pc' := 11) (L' := [zR 34 0, zI l1, zI l2, zI l3]) (S' := [zI l2, zI l3]) (σ' := σ) (Ps := []) (by decide +kernel) rfl trivial ?_
  refine r_icmp_ge (off := 60) (tgt := 71) (by decide +kernel) (by decide) (fun c => ?_) (fun c => ?_)
  · replace h := h.1 c
    refine r_blk [qO (.iload_n 3)] (pc' := 72) (L' := [zR 34 0, zI l1, zI l2, zI l3]) (S' := [zI l3]) (σ' := σ) (Ps := []) (by decide +kernel) rfl trivial ?_
    refine r_if_le (off := 7) (tgt := 79) (by decide +kernel) (by decide) (fun c => ?_) (fun c => ?_)
    · replace h := h.1 c
      refine r_blk [qO (.iconst 0)] (pc' := 80) (L' := [zR 34 0, zI l1, zI l2, zI l3]) (S' := [zI 0]) (σ' := σ) (Ps := []) (by decide +kernel) rfl trivial ?_
      exact r_retz (by decide +kernel) rfl (by decide) h
    · replace h := h.2 c
      refine r_blk [qO (.iconst 1), qO (.goto 4)] (pc' := 80) (L' := [zR 34 0, zI l1, zI l2, zI l3]) (S' := [zI 1]) (σ' := σ) (Ps := []) (by decide +kernel) rfl trivial ?_
      exact r_retz (by decide +kernel) rfl (by decide) h
  · replace h := h.2 c
    refine r_blk [qO (.aload_n 0)] (pc' := 15) (L' := [zR 34 0, zI l1, zI l2, zI l3]) (S' := [zR 34 0]) (σ' := σ) (Ps := []) (by decide +kernel) rfl trivial ?_
    refine r_callVI (As := []) (S := []) (Lc := [zR 34 0]) (d' := 0) (n := 0) (g := 34) (x := 0) (ci := 11) kX11_sign vX11_sign lkX11_79 (by decide +kernel) (by decide) rfl rfl (by decide) rfl rfl (Nat.le_of_ble_eq_true rfl) rfl rfl (Nat.le_of_ble_eq_true rfl) (pX11_sign h.1 ?_)
    replace h := h.2
    refine r_blk [qO (.bipush 48)] (pc' := 20) (L' := [zR 34 0, zI l1, zI l2, zI l3]) (S' := [zI 48, zI (zsign σ)]) (σ' := σ) (Ps := []) (by decide +kernel) rfl trivial ?_
    refine r_icmp_lt (off := 51) (tgt := 71) (by decide +kernel) (by decide) (fun c => ?_) (fun c => ?_)
    · replace h := h.1 c
      refine r_blk [qO (.iload_n 3)] (pc' := 72) (L' := [zR 34 0, zI l1, zI l2, zI l3]) (S' := [zI l3]) (σ' := σ) (Ps := []) (by decide +kernel) rfl trivial ?_
      refine r_if_le (off := 7) (tgt := 79) (by decide +kernel) (by decide) (fun c => ?_) (fun c => ?_)
      · replace h := h.1 c
        refine r_blk [qO (.iconst 0)] (pc' := 80) (L' := [zR 34 0, zI l1, zI l2, zI l3]) (S' := [zI 0]) (σ' := σ) (Ps := []) (by decide +kernel) rfl trivial ?_
        exact r_retz (by decide +kernel) rfl (by decide) h
      · replace h := h.2 c
        refine r_blk [qO (.iconst 1), qO (.goto 4)] (pc' := 80) (L' := [zR 34 0, zI l1, zI l2, zI l3]) (S' := [zI 1]) (σ' := σ) (Ps := []) (by decide +kernel) rfl trivial ?_
        exact r_retz (by decide +kernel) rfl (by decide) h
    · replace h := h.2 c
      refine r_blk [qO (.aload_n 0)] (pc' := 24) (L' := [zR 34 0, zI l1, zI l2, zI l3]) (S' := [zR 34 0]) (σ' := σ) (Ps := []) (by decide +kernel) rfl trivial ?_
      refine r_callVI (As := []) (S := []) (Lc := [zR 34 0]) (d' := 0) (n := 0) (g := 34) (x := 0) (ci := 11) kX11_sign vX11_sign lkX11_79 (by decide +kernel) (by decide) rfl rfl (by decide) rfl rfl (Nat.le_of_ble_eq_true rfl) rfl rfl (Nat.le_of_ble_eq_true rfl) (pX11_sign h.1 ?_)
      replace h := h.2
      refine r_blk [qO (.bipush 57)] (pc' := 29) (L' := [zR 34 0, zI l1, zI l2, zI l3]) (S' := [zI 57, zI (zsign σ)]) (σ' := σ) (Ps := []) (by decide +kernel) rfl trivial ?_
      refine r_icmp_gt (off := 42) (tgt := 71) (by decide +kernel) (by decide) (fun c => ?_) (fun c => ?_)
      · replace h := h.1 c
        refine r_blk [qO (.iload_n 3)] (pc' := 72) (L' := [zR 34 0, zI l1, zI l2, zI l3]) (S' := [zI l3]) (σ' := σ) (Ps := []) (by decide +kernel) rfl trivial ?_
        refine r_if_le (off := 7) (tgt := 79) (by decide +kernel) (by decide) (fun c => ?_) (fun c => ?_)
        · replace h := h.1 c
          refine r_blk [qO (.iconst 0)] (pc' := 80) (L' := [zR 34 0, zI l1, zI l2, zI l3]) (S' := [zI 0]) (σ' := σ) (Ps := []) (by decide +kernel) rfl trivial ?_
          exact r_retz (by decide +kernel) rfl (by decide) h
        · replace h := h.2 c
          refine r_blk [qO (.iconst 1), qO (.goto 4)] (pc' := 80) (L' := [zR 34 0, zI l1, zI l2, zI l3]) (S' := [zI 1]) (σ' := σ) (Ps := []) (by decide +kernel) rfl trivial ?_
          exact r_retz (by decide +kernel) rfl (by decide) h
      · replace h := h.2 c
        refine r_blk [qO (.aload_n 0), qF (.getfield 25) 11 6, qO (.iload_n 1), qO (.bipush 10), qO (.aload_n 0), qF (.getfield 25) 11 6, qO (.iload_n 1), qO .iaload, qO .imul, qO (.aload_n 0)] (pc' := 47) (L' := [zR 34 0, zI l1, zI l2, zI l3]) (S' := [zR 34 0, zI (10 * (σ 40 0 l1.toNat)), zI l1, zR 40 0]) (σ' := σ) (Ps := [0 ≤ l1 ∧ l1 < 4, -2147483648 ≤ 10 * (σ 40 0 l1.toNat) ∧ 10 * (σ 40 0 l1.toNat) ≤ 2147483647]) (by decide +kernel) rfl ⟨h.1, h.2.1, trivial⟩ ?_
        replace h := h.2.2
        refine r_callVI (As := []) (S := [zI (10 * (σ 40 0 l1.toNat)), zI l1, zR 40 0]) (Lc := [zR 34 0]) (d' := 0) (n := 0) (g := 34) (x := 0) (ci := 11) kX11_sign vX11_sign lkX11_79 (by decide +kernel) (by decide) rfl rfl (by decide) rfl rfl (Nat.le_of_ble_eq_true rfl) rfl rfl (Nat.le_of_ble_eq_true rfl) (pX11_sign h.1 ?_)
        replace h := h.2
        refine r_blk [qO .iadd, qO (.bipush 48), qO .isub, qO .iastore, qO (.aload_n 0), qO .dup, qF (.getfield 76) 11 8, qO (.iconst 1), qO .iadd, qF (.putfield 76) 11 8, qO (.iinc 3 1), qO (.goto (-59))] (pc' := 9) (L' := [zR 34 0, zI l1, zI l2, zI (l3 + 1)]) (S' := []) (σ' := (zup (zup σ 40 0 l1.toNat (((10 * (σ 40 0 l1.toNat)) + (zsign σ)) - 48)) 34 0 8 ((σ 34 0 8) + 1))) (Ps := [-2147483648 ≤ (10 * (σ 40 0 l1.toNat)) + (zsign σ) ∧ (10 * (σ 40 0 l1.toNat)) + (zsign σ) ≤ 2147483647, -2147483648 ≤ ((10 * (σ 40 0 l1.toNat)) + (zsign σ)) - 48 ∧ ((10 * (σ 40 0 l1.toNat)) + (zsign σ)) - 48 ≤ 2147483647, 0 ≤ l1 ∧ l1 < 4, -2147483648 ≤ (σ 34 0 8) + 1 ∧ (σ 34 0 8) + 1 ≤ 2147483647, -2147483648 ≤ l3 + 1 ∧ l3 + 1 ≤ 2147483647]) (by decide +kernel) rfl ⟨h.1, h.2.1, h.2.2.1, h.2.2.2.1, h.2.2.2.2.1, trivial⟩ ?_
        replace h := h.2.2.2.2.2
        generalize hσ1 : (zup (zup σ 40 0 l1.toNat (((10 * (σ 40 0 l1.toNat)) + (zsign σ)) - 48)) 34 0 8 ((σ 34 0 8) + 1)) = σ1
        replace h := h σ1 hσ1.symm
        exact Runs.fg (fgE (fgE (fgE (fgE fg0)))) h
theorem gX11_readsStatement_0 (σ : Hp) {Q : Option Int → Hp → Prop} (h : (0 ≤ σ 34 0 8 ∧ σ 34 0 7 ≤ 64) ∧ ((zsign σ = 107 → Runs 2 mX11_readsStatement 31 [zR 34 0, zI (zsign σ), zU] [] σ Q) ∧ (¬ zsign σ = 107 → ((zsign σ = 115 → Runs 2 mX11_readsStatement 31 [zR 34 0, zI (zsign σ), zU] [] σ Q) ∧ (¬ zsign σ = 115 → ((zsign σ = 101 → Runs 2 mX11_readsStatement 31 [zR 34 0, zI (zsign σ), zU] [] σ Q) ∧ (¬ zsign σ = 101 → ((zsign σ = 109 → Runs 2 mX11_readsStatement 31 [zR 34 0, zI (zsign σ), zU] [] σ Q) ∧ (¬ zsign σ = 109 → Q (some 0) σ))))))))) : Runs 2 mX11_readsStatement 0 [zR 34 0, zU, zU] [] σ Q := by
  refine r_blk [qO (.aload_n 0)] (pc' := 1) (L' := [zR 34 0, zU, zU]) (S' := [zR 34 0]) (σ' := σ) (Ps := []) (by decide +kernel) rfl trivial ?_
  refine r_callVI (As := []) (S := []) (Lc := [zR 34 0]) (d' := 0) (n := 0) (g := 34) (x := 0) (ci := 11) kX11_sign vX11_sign lkX11_79 (by decide +kernel) (by decide) rfl rfl (by decide) rfl rfl (Nat.le_of_ble_eq_true rfl) rfl rfl (Nat.le_of_ble_eq_true rfl) (pX11_sign h.1 ?_)
  replace h := h.2
  refine r_blk [qO (.istore_n 1), qO (.iload_n 1), qO (.bipush 107)] (pc' := 8) (L' := [zR 34 0, zI (zsign σ), zU]) (S' := [zI 107, zI (zsign σ)]) (σ' := σ) (Ps := []) (by decide +kernel) rfl trivial ?_
  refine r_icmp_eq (off := 23) (tgt := 31) (by decide +kernel) (by decide) (fun c => ?_) (fun c => ?_)
  · replace h := h.1 c
    exact Runs.fg (fgE (fgE (fgU fg0))) h
  · replace h := h.2 c
    refine r_blk [qO (.iload_n 1), qO (.bipush 115)] (pc' := 14) (L' := [zR 34 0, zI (zsign σ), zU]) (S' := [zI 115, zI (zsign σ)]) (σ' := σ) (Ps := []) (by decide +kernel) rfl trivial ?_
    refine r_icmp_eq (off := 17) (tgt := 31) (by decide +kernel) (by decide) (fun c => ?_) (fun c => ?_)
    · replace h := h.1 c
      exact Runs.fg (fgE (fgE (fgU fg0))) h
    · replace h := h.2 c
      refine r_blk [qO (.iload_n 1), qO (.bipush 101)] (pc' := 20) (L' := [zR 34 0, zI (zsign σ), zU]) (S' := [zI 101, zI (zsign σ)]) (σ' := σ) (Ps := []) (by decide +kernel) rfl trivial ?_
      refine r_icmp_eq (off := 11) (tgt := 31) (by decide +kernel) (by decide) (fun c => ?_) (fun c => ?_)
      · replace h := h.1 c
        exact Runs.fg (fgE (fgE (fgU fg0))) h
      · replace h := h.2 c
        refine r_blk [qO (.iload_n 1), qO (.bipush 109)] (pc' := 26) (L' := [zR 34 0, zI (zsign σ), zU]) (S' := [zI 109, zI (zsign σ)]) (σ' := σ) (Ps := []) (by decide +kernel) rfl trivial ?_
        refine r_icmp_eq (off := 5) (tgt := 31) (by decide +kernel) (by decide) (fun c => ?_) (fun c => ?_)
        · replace h := h.1 c
          exact Runs.fg (fgE (fgE (fgU fg0))) h
        · replace h := h.2 c
          refine r_blk [qO (.iconst 0)] (pc' := 30) (L' := [zR 34 0, zI (zsign σ), zU]) (S' := [zI 0]) (σ' := σ) (Ps := []) (by decide +kernel) rfl trivial ?_
          exact r_retz (by decide +kernel) rfl (by decide) h
theorem gX11_readsStatement_31 (l1 : Int) (σ : Hp) {Q : Option Int → Hp → Prop} (h : (-2147483648 ≤ (σ 34 0 8) + 1 ∧ (σ 34 0 8) + 1 ≤ 2147483647) ∧ ((l1 = 101 → Runs 1 mX11_readsNumber 0 [zR 34 0, zI 0, zI 1, zU] [] (zup σ 34 0 8 ((σ 34 0 8) + 1)) (rI (fun z2 σ1 => ((z2 = 0 → Q (some 0) σ1) ∧ (¬ z2 = 0 → Runs 1 mX11_readsNumber 0 [zR 34 0, zI 1, zI 1, zU] [] σ1 (rI (fun z4 σ3 => ((z4 = 0 → Q (some 0) σ3) ∧ (¬ z4 = 0 → (0 ≤ σ3 34 0 8 ∧ σ3 34 0 7 ≤ 64) ∧ (σ3 34 0 8 ≤ 1000) ∧ ((zsign σ3 = 64 → ∀ σ5 : Hp, σ5 = zup σ3 34 0 8 (σ3 34 0 8 + 1) → Runs 1 mX11_readsNumber 0 [zR 34 0, zI 2, zI 4, zU] [] σ5 (rI (fun z7 σ6 => ((z7 = 0 → Q (some 0) σ6) ∧ (¬ z7 = 0 → (0 ≤ σ6 34 0 8 ∧ σ6 34 0 7 ≤ 64) ∧ (σ6 34 0 8 ≤ 1000) ∧ ((zsign σ6 = 44 → ∀ σ8 : Hp, σ8 = zup σ6 34 0 8 (σ6 34 0 8 + 1) → Runs 1 mX11_readsNumber 0 [zR 34 0, zI 3, zI 1, zU] [] σ8 (rI (fun z10 σ9 => ((z10 = 0 → Q (some 0) σ9) ∧ (¬ z10 = 0 → (0 ≤ σ9 34 0 8 ∧ σ9 34 0 7 ≤ 64) ∧ (σ9 34 0 8 ≤ 1000) ∧ ((zsign σ9 = 59 → ∀ σ11 : Hp, σ11 = zup σ9 34 0 8 (σ9 34 0 8 + 1) → Q (some 1) σ11) ∧ (¬ (zsign σ9 = 59) → Q (some 0) σ9))))))) ∧ (¬ (zsign σ6 = 44) → Q (some 0) σ6))))))) ∧ (¬ (zsign σ3 = 64) → Q (some 0) σ3))))))))))) ∧ (l1 = 107 → Runs 1 mX11_readsNumber 0 [zR 34 0, zI 0, zI 2, zU] [] (zup σ 34 0 8 ((σ 34 0 8) + 1)) (rI (fun z13 σ12 => ((z13 = 0 → Q (some 0) σ12) ∧ (¬ z13 = 0 → (0 ≤ σ12 34 0 8 ∧ σ12 34 0 7 ≤ 64) ∧ (σ12 34 0 8 ≤ 1000) ∧ ((zsign σ12 = 59 → ∀ σ14 : Hp, σ14 = zup σ12 34 0 8 (σ12 34 0 8 + 1) → Q (some 1) σ14) ∧ (¬ (zsign σ12 = 59) → Q (some 0) σ12))))))) ∧ (l1 = 115 → Runs 1 mX11_readsNumber 0 [zR 34 0, zI 0, zI 1, zU] [] (zup σ 34 0 8 ((σ 34 0 8) + 1)) (rI (fun z16 σ15 => ((z16 = 0 → Runs 2 mX11_readsStatement 130 [zR 34 0, zU, zU] [] σ15 Q) ∧ (¬ z16 = 0 → Runs 1 mX11_readsNumber 0 [zR 34 0, zI 1, zI 1, zU] [] σ15 (rI (fun z18 σ17 => ((z18 = 0 → Runs 2 mX11_readsStatement 130 [zR 34 0, zU, zU] [] σ17 Q) ∧ (¬ z18 = 0 → (0 ≤ σ17 34 0 8 ∧ σ17 34 0 7 ≤ 64) ∧ (σ17 34 0 8 ≤ 1000) ∧ ((zsign σ17 = 44 → ∀ σ19 : Hp, σ19 = zup σ17 34 0 8 (σ17 34 0 8 + 1) → Runs 1 mX11_readsNumber 0 [zR 34 0, zI 2, zI 2, zU] [] σ19 (rI (fun z21 σ20 => ((z21 = 0 → Runs 2 mX11_readsStatement 130 [zR 34 0, zU, zU] [] σ20 Q) ∧ (¬ z21 = 0 → (0 ≤ σ20 34 0 8 ∧ σ20 34 0 7 ≤ 64) ∧ (σ20 34 0 8 ≤ 1000) ∧ ((zsign σ20 = 98 → ∀ σ22 : Hp, σ22 = zup σ20 34 0 8 (σ20 34 0 8 + 1) → (0 ≤ (zup σ22 40 0 3 1) 34 0 8 ∧ (zup σ22 40 0 3 1) 34 0 7 ≤ 64) ∧ ((zup σ22 40 0 3 1) 34 0 8 ≤ 1000) ∧ ((zsign (zup σ22 40 0 3 1) = 59 → ∀ σ23 : Hp, σ23 = zup (zup σ22 40 0 3 1) 34 0 8 ((zup σ22 40 0 3 1) 34 0 8 + 1) → Q (some 1) σ23) ∧ (¬ (zsign (zup σ22 40 0 3 1) = 59) → Q (some 0) (zup σ22 40 0 3 1)))) ∧ (¬ (zsign σ20 = 98) → (0 ≤ (zup σ20 40 0 3 0) 34 0 8 ∧ (zup σ20 40 0 3 0) 34 0 7 ≤ 64) ∧ ((zup σ20 40 0 3 0) 34 0 8 ≤ 1000) ∧ ((zsign (zup σ20 40 0 3 0) = 59 → ∀ σ24 : Hp, σ24 = zup (zup σ20 40 0 3 0) 34 0 8 ((zup σ20 40 0 3 0) 34 0 8 + 1) → Q (some 1) σ24) ∧ (¬ (zsign (zup σ20 40 0 3 0) = 59) → Q (some 0) (zup σ20 40 0 3 0)))))))))) ∧ (¬ (zsign σ17 = 44) → Runs 2 mX11_readsStatement 130 [zR 34 0, zU, zU] [] σ17 Q))))))))))) ∧ (¬ l1 = 101 ∧ ¬ l1 = 107 ∧ ¬ l1 = 115 → Runs 1 mX11_readsNumber 0 [zR 34 0, zI 0, zI 2, zU] [] (zup σ 34 0 8 ((σ 34 0 8) + 1)) (rI (fun z26 σ25 => ((z26 = 0 → Q (some 0) σ25) ∧ (¬ z26 = 0 → (0 ≤ σ25 34 0 8 ∧ σ25 34 0 7 ≤ 64) ∧ (σ25 34 0 8 ≤ 1000) ∧ ((zsign σ25 = 44 → ∀ σ27 : Hp, σ27 = zup σ25 34 0 8 (σ25 34 0 8 + 1) → Runs 1 mX11_readsNumber 0 [zR 34 0, zI 1, zI 1, zU] [] σ27 (rI (fun z29 σ28 => ((z29 = 0 → Q (some 0) σ28) ∧ (¬ z29 = 0 → (0 ≤ σ28 34 0 8 ∧ σ28 34 0 7 ≤ 64) ∧ (σ28 34 0 8 ≤ 1000) ∧ ((zsign σ28 = 59 → ∀ σ30 : Hp, σ30 = zup σ28 34 0 8 (σ28 34 0 8 + 1) → Q (some 1) σ30) ∧ (¬ (zsign σ28 = 59) → Q (some 0) σ28))))))) ∧ (¬ (zsign σ25 = 44) → Q (some 0) σ25))))))))) : Runs 2 mX11_readsStatement 31 [zR 34 0, zI l1, zU] [] σ Q := by
  refine r_blk [qO (.aload_n 0), qO .dup, qF (.getfield 76) 11 8, qO (.iconst 1), qO .iadd, qF (.putfield 76) 11 8, qO (.iconst 0), qO (.istore_n 2), qO (.iload_n 1)] (pc' := 44) (L' := [zR 34 0, zI l1, zI 0]) (S' := [zI l1]) (σ' := (zup σ 34 0 8 ((σ 34 0 8) + 1))) (Ps := [-2147483648 ≤ (σ 34 0 8) + 1 ∧ (σ 34 0 8) + 1 ≤ 2147483647]) (by decide +kernel) rfl ⟨h.1, trivial⟩ ?_
  replace h := h.2
  by_cases c101 : l1 = 101
  · replace h := h.1 c101
    refine r_lookup (dflt := 178) (ps := #[(101, 115), (107, 36), (115, 46)]) (len := 36) (off := 115) (tgt := 159) (by decide +kernel) (by decide +kernel) (by rw [c101]; decide) (by decide) ?_
    refine r_blk [qO (.aload_n 0), qO (.iconst 0), qO (.iconst 1)] (pc' := 162) (L' := [zR 34 0, zI l1, zI 0]) (S' := [zI 1, zI 0, zR 34 0]) (σ' := (zup σ 34 0 8 ((σ 34 0 8) + 1))) (Ps := []) (by decide +kernel) rfl trivial ?_
    refine r_callVI (As := [zI 0, zI 1]) (S := []) (Lc := [zR 34 0, zI 0, zI 1, zU]) (d' := 1) (n := 2) (g := 34) (x := 0) (ci := 11) kX11_readsNumber vX11_readsNumber lkX11_83 (by decide +kernel) (by decide) rfl rfl (by decide) rfl rfl (Nat.le_of_ble_eq_true rfl) rfl rfl (Nat.le_of_ble_eq_true rfl) (h.monoI (fun z2 σ1 h => ?_))
    refine r_if_eq (off := 52) (tgt := 217) (by decide +kernel) (by decide) (fun c => ?_) (fun c => ?_)
    · replace h := h.1 c
      refine r_blk [qO (.iconst 0), qO (.istore_n 2), qO (.goto 36), qO (.iload_n 2)] (pc' := 256) (L' := [zR 34 0, zI l1, zI 0]) (S' := [zI 0]) (σ' := σ1) (Ps := []) (by decide +kernel) rfl trivial ?_
      refine r_if_eq (off := 16) (tgt := 272) (by decide +kernel) (by decide) (fun c => ?_) (fun c => ?_)
      · refine r_blk [qO (.iconst 0)] (pc' := 273) (L' := [zR 34 0, zI l1, zI 0]) (S' := [zI 0]) (σ' := σ1) (Ps := []) (by decide +kernel) rfl trivial ?_
        exact r_retz (by decide +kernel) rfl (by decide) h
      · exact absurd c (by decide)
    · replace h := h.2 c
      refine r_blk [qO (.aload_n 0), qO (.iconst 1), qO (.iconst 1)] (pc' := 171) (L' := [zR 34 0, zI l1, zI 0]) (S' := [zI 1, zI 1, zR 34 0]) (σ' := σ1) (Ps := []) (by decide +kernel) rfl trivial ?_
      refine r_callVI (As := [zI 1, zI 1]) (S := []) (Lc := [zR 34 0, zI 1, zI 1, zU]) (d' := 1) (n := 2) (g := 34) (x := 0) (ci := 11) kX11_readsNumber vX11_readsNumber lkX11_83 (by decide +kernel) (by decide) rfl rfl (by decide) rfl rfl (Nat.le_of_ble_eq_true rfl) rfl rfl (Nat.le_of_ble_eq_true rfl) (h.monoI (fun z4 σ3 h => ?_))
      refine r_if_eq (off := 43) (tgt := 217) (by decide +kernel) (by decide) (fun c => ?_) (fun c => ?_)
      · replace h := h.1 c
        refine r_blk [qO (.iconst 0), qO (.istore_n 2), qO (.goto 36), qO (.iload_n 2)] (pc' := 256) (L' := [zR 34 0, zI l1, zI 0]) (S' := [zI 0]) (σ' := σ3) (Ps := []) (by decide +kernel) rfl trivial ?_
        refine r_if_eq (off := 16) (tgt := 272) (by decide +kernel) (by decide) (fun c => ?_) (fun c => ?_)
        · refine r_blk [qO (.iconst 0)] (pc' := 273) (L' := [zR 34 0, zI l1, zI 0]) (S' := [zI 0]) (σ' := σ3) (Ps := []) (by decide +kernel) rfl trivial ?_
          exact r_retz (by decide +kernel) rfl (by decide) h
        · exact absurd c (by decide)
      · replace h := h.2 c
        refine r_blk [qO (.aload_n 0), qO (.bipush 64)] (pc' := 180) (L' := [zR 34 0, zI l1, zI 0]) (S' := [zI 64, zR 34 0]) (σ' := σ3) (Ps := []) (by decide +kernel) rfl trivial ?_
        refine r_callVI (As := [zI 64]) (S := []) (Lc := [zR 34 0, zI 64]) (d' := 1) (n := 1) (g := 34) (x := 0) (ci := 11) kX11_takes vX11_takes lkX11_86 (by decide +kernel) (by decide) rfl rfl (by decide) rfl rfl (Nat.le_of_ble_eq_true rfl) rfl rfl (Nat.le_of_ble_eq_true rfl) (pX11_takes h.1 h.2.1 (fun c => ?_) (fun c => ?_))
        all_goals replace h := h.2.2
        · replace h := h.1 c
          generalize hσ5 : zup σ3 34 0 8 (σ3 34 0 8 + 1) = σ5
          replace h := h σ5 hσ5.symm
          refine r_if_eq (off := 34) (tgt := 217) (by decide +kernel) (by decide) (fun c => ?_) (fun c => ?_)
          · exact absurd c (by decide)
          · refine r_blk [qO (.aload_n 0), qO (.iconst 2), qO (.iconst 4)] (pc' := 189) (L' := [zR 34 0, zI l1, zI 0]) (S' := [zI 4, zI 2, zR 34 0]) (σ' := σ5) (Ps := []) (by decide +kernel) rfl trivial ?_
            refine r_callVI (As := [zI 2, zI 4]) (S := []) (Lc := [zR 34 0, zI 2, zI 4, zU]) (d' := 1) (n := 2) (g := 34) (x := 0) (ci := 11) kX11_readsNumber vX11_readsNumber lkX11_83 (by decide +kernel) (by decide) rfl rfl (by decide) rfl rfl (Nat.le_of_ble_eq_true rfl) rfl rfl (Nat.le_of_ble_eq_true rfl) (h.monoI (fun z7 σ6 h => ?_))
            refine r_if_eq (off := 25) (tgt := 217) (by decide +kernel) (by decide) (fun c => ?_) (fun c => ?_)
            · replace h := h.1 c
              refine r_blk [qO (.iconst 0), qO (.istore_n 2), qO (.goto 36), qO (.iload_n 2)] (pc' := 256) (L' := [zR 34 0, zI l1, zI 0]) (S' := [zI 0]) (σ' := σ6) (Ps := []) (by decide +kernel) rfl trivial ?_
              refine r_if_eq (off := 16) (tgt := 272) (by decide +kernel) (by decide) (fun c => ?_) (fun c => ?_)
              · refine r_blk [qO (.iconst 0)] (pc' := 273) (L' := [zR 34 0, zI l1, zI 0]) (S' := [zI 0]) (σ' := σ6) (Ps := []) (by decide +kernel) rfl trivial ?_
                exact r_retz (by decide +kernel) rfl (by decide) h
              · exact absurd c (by decide)
            · replace h := h.2 c
              refine r_blk [qO (.aload_n 0), qO (.bipush 44)] (pc' := 198) (L' := [zR 34 0, zI l1, zI 0]) (S' := [zI 44, zR 34 0]) (σ' := σ6) (Ps := []) (by decide +kernel) rfl trivial ?_
              refine r_callVI (As := [zI 44]) (S := []) (Lc := [zR 34 0, zI 44]) (d' := 1) (n := 1) (g := 34) (x := 0) (ci := 11) kX11_takes vX11_takes lkX11_86 (by decide +kernel) (by decide) rfl rfl (by decide) rfl rfl (Nat.le_of_ble_eq_true rfl) rfl rfl (Nat.le_of_ble_eq_true rfl) (pX11_takes h.1 h.2.1 (fun c => ?_) (fun c => ?_))
              all_goals replace h := h.2.2
              · replace h := h.1 c
                generalize hσ8 : zup σ6 34 0 8 (σ6 34 0 8 + 1) = σ8
                replace h := h σ8 hσ8.symm
                refine r_if_eq (off := 16) (tgt := 217) (by decide +kernel) (by decide) (fun c => ?_) (fun c => ?_)
                · exact absurd c (by decide)
                · refine r_blk [qO (.aload_n 0), qO (.iconst 3), qO (.iconst 1)] (pc' := 207) (L' := [zR 34 0, zI l1, zI 0]) (S' := [zI 1, zI 3, zR 34 0]) (σ' := σ8) (Ps := []) (by decide +kernel) rfl trivial ?_
                  refine r_callVI (As := [zI 3, zI 1]) (S := []) (Lc := [zR 34 0, zI 3, zI 1, zU]) (d' := 1) (n := 2) (g := 34) (x := 0) (ci := 11) kX11_readsNumber vX11_readsNumber lkX11_83 (by decide +kernel) (by decide) rfl rfl (by decide) rfl rfl (Nat.le_of_ble_eq_true rfl) rfl rfl (Nat.le_of_ble_eq_true rfl) (h.monoI (fun z10 σ9 h => ?_))
                  refine r_if_eq (off := 7) (tgt := 217) (by decide +kernel) (by decide) (fun c => ?_) (fun c => ?_)
                  · replace h := h.1 c
                    refine r_blk [qO (.iconst 0), qO (.istore_n 2), qO (.goto 36), qO (.iload_n 2)] (pc' := 256) (L' := [zR 34 0, zI l1, zI 0]) (S' := [zI 0]) (σ' := σ9) (Ps := []) (by decide +kernel) rfl trivial ?_
                    refine r_if_eq (off := 16) (tgt := 272) (by decide +kernel) (by decide) (fun c => ?_) (fun c => ?_)
                    · refine r_blk [qO (.iconst 0)] (pc' := 273) (L' := [zR 34 0, zI l1, zI 0]) (S' := [zI 0]) (σ' := σ9) (Ps := []) (by decide +kernel) rfl trivial ?_
                      exact r_retz (by decide +kernel) rfl (by decide) h
                    · exact absurd c (by decide)
                  · replace h := h.2 c
                    refine r_blk [qO (.iconst 1), qO (.goto 4), qO (.istore_n 2), qO (.goto 36), qO (.iload_n 2)] (pc' := 256) (L' := [zR 34 0, zI l1, zI 1]) (S' := [zI 1]) (σ' := σ9) (Ps := []) (by decide +kernel) rfl trivial ?_
                    refine r_if_eq (off := 16) (tgt := 272) (by decide +kernel) (by decide) (fun c => ?_) (fun c => ?_)
                    · exact absurd c (by decide)
                    · refine r_blk [qO (.aload_n 0), qO (.bipush 59)] (pc' := 262) (L' := [zR 34 0, zI l1, zI 1]) (S' := [zI 59, zR 34 0]) (σ' := σ9) (Ps := []) (by decide +kernel) rfl trivial ?_
                      refine r_callVI (As := [zI 59]) (S := []) (Lc := [zR 34 0, zI 59]) (d' := 1) (n := 1) (g := 34) (x := 0) (ci := 11) kX11_takes vX11_takes lkX11_86 (by decide +kernel) (by decide) rfl rfl (by decide) rfl rfl (Nat.le_of_ble_eq_true rfl) rfl rfl (Nat.le_of_ble_eq_true rfl) (pX11_takes h.1 h.2.1 (fun c => ?_) (fun c => ?_))
                      all_goals replace h := h.2.2
                      · replace h := h.1 c
                        generalize hσ11 : zup σ9 34 0 8 (σ9 34 0 8 + 1) = σ11
                        replace h := h σ11 hσ11.symm
                        refine r_if_eq (off := 7) (tgt := 272) (by decide +kernel) (by decide) (fun c => ?_) (fun c => ?_)
                        · exact absurd c (by decide)
                        · refine r_blk [qO (.iconst 1), qO (.goto 4)] (pc' := 273) (L' := [zR 34 0, zI l1, zI 1]) (S' := [zI 1]) (σ' := σ11) (Ps := []) (by decide +kernel) rfl trivial ?_
                          exact r_retz (by decide +kernel) rfl (by decide) h
                      · replace h := h.2 c
                        refine r_if_eq (off := 7) (tgt := 272) (by decide +kernel) (by decide) (fun c => ?_) (fun c => ?_)
                        · refine r_blk [qO (.iconst 0)] (pc' := 273) (L' := [zR 34 0, zI l1, zI 1]) (S' := [zI 0]) (σ' := σ9) (Ps := []) (by decide +kernel) rfl trivial ?_
                          exact r_retz (by decide +kernel) rfl (by decide) h
                        · exact absurd c (by decide)
              · replace h := h.2 c
                refine r_if_eq (off := 16) (tgt := 217) (by decide +kernel) (by decide) (fun c => ?_) (fun c => ?_)
                · refine r_blk [qO (.iconst 0), qO (.istore_n 2), qO (.goto 36), qO (.iload_n 2)] (pc' := 256) (L' := [zR 34 0, zI l1, zI 0]) (S' := [zI 0]) (σ' := σ6) (Ps := []) (by decide +kernel) rfl trivial ?_
                  refine r_if_eq (off := 16) (tgt := 272) (by decide +kernel) (by decide) (fun c => ?_) (fun c => ?_)
                  · refine r_blk [qO (.iconst 0)] (pc' := 273) (L' := [zR 34 0, zI l1, zI 0]) (S' := [zI 0]) (σ' := σ6) (Ps := []) (by decide +kernel) rfl trivial ?_
                    exact r_retz (by decide +kernel) rfl (by decide) h
                  · exact absurd c (by decide)
                · exact absurd c (by decide)
        · replace h := h.2 c
          refine r_if_eq (off := 34) (tgt := 217) (by decide +kernel) (by decide) (fun c => ?_) (fun c => ?_)
          · refine r_blk [qO (.iconst 0), qO (.istore_n 2), qO (.goto 36), qO (.iload_n 2)] (pc' := 256) (L' := [zR 34 0, zI l1, zI 0]) (S' := [zI 0]) (σ' := σ3) (Ps := []) (by decide +kernel) rfl trivial ?_
            refine r_if_eq (off := 16) (tgt := 272) (by decide +kernel) (by decide) (fun c => ?_) (fun c => ?_)
            · refine r_blk [qO (.iconst 0)] (pc' := 273) (L' := [zR 34 0, zI l1, zI 0]) (S' := [zI 0]) (σ' := σ3) (Ps := []) (by decide +kernel) rfl trivial ?_
              exact r_retz (by decide +kernel) rfl (by decide) h
            · exact absurd c (by decide)
          · exact absurd c (by decide)
  replace h := h.2
  by_cases c107 : l1 = 107
  · replace h := h.1 c107
    refine r_lookup (dflt := 178) (ps := #[(101, 115), (107, 36), (115, 46)]) (len := 36) (off := 36) (tgt := 80) (by decide +kernel) (by decide +kernel) (by rw [c107]; decide) (by decide) ?_
    refine r_blk [qO (.aload_n 0), qO (.iconst 0), qO (.iconst 2)] (pc' := 83) (L' := [zR 34 0, zI l1, zI 0]) (S' := [zI 2, zI 0, zR 34 0]) (σ' := (zup σ 34 0 8 ((σ 34 0 8) + 1))) (Ps := []) (by decide +kernel) rfl trivial ?_
    refine r_callVI (As := [zI 0, zI 2]) (S := []) (Lc := [zR 34 0, zI 0, zI 2, zU]) (d' := 1) (n := 2) (g := 34) (x := 0) (ci := 11) kX11_readsNumber vX11_readsNumber lkX11_83 (by decide +kernel) (by decide) rfl rfl (by decide) rfl rfl (Nat.le_of_ble_eq_true rfl) rfl rfl (Nat.le_of_ble_eq_true rfl) (h.monoI (fun z13 σ12 h => ?_))
    refine r_blk [qO (.istore_n 2), qO (.goto 168), qO (.iload_n 2)] (pc' := 256) (L' := [zR 34 0, zI l1, zI z13]) (S' := [zI z13]) (σ' := σ12) (Ps := []) (by decide +kernel) rfl trivial ?_
    refine r_if_eq (off := 16) (tgt := 272) (by decide +kernel) (by decide) (fun c => ?_) (fun c => ?_)
    · replace h := h.1 c
      refine r_blk [qO (.iconst 0)] (pc' := 273) (L' := [zR 34 0, zI l1, zI z13]) (S' := [zI 0]) (σ' := σ12) (Ps := []) (by decide +kernel) rfl trivial ?_
      exact r_retz (by decide +kernel) rfl (by decide) h
    · replace h := h.2 c
      refine r_blk [qO (.aload_n 0), qO (.bipush 59)] (pc' := 262) (L' := [zR 34 0, zI l1, zI z13]) (S' := [zI 59, zR 34 0]) (σ' := σ12) (Ps := []) (by decide +kernel) rfl trivial ?_
      refine r_callVI (As := [zI 59]) (S := []) (Lc := [zR 34 0, zI 59]) (d' := 1) (n := 1) (g := 34) (x := 0) (ci := 11) kX11_takes vX11_takes lkX11_86 (by decide +kernel) (by decide) rfl rfl (by decide) rfl rfl (Nat.le_of_ble_eq_true rfl) rfl rfl (Nat.le_of_ble_eq_true rfl) (pX11_takes h.1 h.2.1 (fun c => ?_) (fun c => ?_))
      all_goals replace h := h.2.2
      · replace h := h.1 c
        generalize hσ14 : zup σ12 34 0 8 (σ12 34 0 8 + 1) = σ14
        replace h := h σ14 hσ14.symm
        refine r_if_eq (off := 7) (tgt := 272) (by decide +kernel) (by decide) (fun c => ?_) (fun c => ?_)
        · exact absurd c (by decide)
        · refine r_blk [qO (.iconst 1), qO (.goto 4)] (pc' := 273) (L' := [zR 34 0, zI l1, zI z13]) (S' := [zI 1]) (σ' := σ14) (Ps := []) (by decide +kernel) rfl trivial ?_
          exact r_retz (by decide +kernel) rfl (by decide) h
      · replace h := h.2 c
        refine r_if_eq (off := 7) (tgt := 272) (by decide +kernel) (by decide) (fun c => ?_) (fun c => ?_)
        · refine r_blk [qO (.iconst 0)] (pc' := 273) (L' := [zR 34 0, zI l1, zI z13]) (S' := [zI 0]) (σ' := σ12) (Ps := []) (by decide +kernel) rfl trivial ?_
          exact r_retz (by decide +kernel) rfl (by decide) h
        · exact absurd c (by decide)
  replace h := h.2
  by_cases c115 : l1 = 115
  · replace h := h.1 c115
    refine r_lookup (dflt := 178) (ps := #[(101, 115), (107, 36), (115, 46)]) (len := 36) (off := 46) (tgt := 90) (by decide +kernel) (by decide +kernel) (by rw [c115]; decide) (by decide) ?_
    refine r_blk [qO (.aload_n 0), qO (.iconst 0), qO (.iconst 1)] (pc' := 93) (L' := [zR 34 0, zI l1, zI 0]) (S' := [zI 1, zI 0, zR 34 0]) (σ' := (zup σ 34 0 8 ((σ 34 0 8) + 1))) (Ps := []) (by decide +kernel) rfl trivial ?_
    refine r_callVI (As := [zI 0, zI 1]) (S := []) (Lc := [zR 34 0, zI 0, zI 1, zU]) (d' := 1) (n := 2) (g := 34) (x := 0) (ci := 11) kX11_readsNumber vX11_readsNumber lkX11_83 (by decide +kernel) (by decide) rfl rfl (by decide) rfl rfl (Nat.le_of_ble_eq_true rfl) rfl rfl (Nat.le_of_ble_eq_true rfl) (h.monoI (fun z16 σ15 h => ?_))
    refine r_if_eq (off := 34) (tgt := 130) (by decide +kernel) (by decide) (fun c => ?_) (fun c => ?_)
    · replace h := h.1 c
      exact Runs.fg (fgE (fgU (fgU fg0))) h
    · replace h := h.2 c
      refine r_blk [qO (.aload_n 0), qO (.iconst 1), qO (.iconst 1)] (pc' := 102) (L' := [zR 34 0, zI l1, zI 0]) (S' := [zI 1, zI 1, zR 34 0]) (σ' := σ15) (Ps := []) (by decide +kernel) rfl trivial ?_
      refine r_callVI (As := [zI 1, zI 1]) (S := []) (Lc := [zR 34 0, zI 1, zI 1, zU]) (d' := 1) (n := 2) (g := 34) (x := 0) (ci := 11) kX11_readsNumber vX11_readsNumber lkX11_83 (by decide +kernel) (by decide) rfl rfl (by decide) rfl rfl (Nat.le_of_ble_eq_true rfl) rfl rfl (Nat.le_of_ble_eq_true rfl) (h.monoI (fun z18 σ17 h => ?_))
      refine r_if_eq (off := 25) (tgt := 130) (by decide +kernel) (by decide) (fun c => ?_) (fun c => ?_)
      · replace h := h.1 c
        exact Runs.fg (fgE (fgU (fgU fg0))) h
      · replace h := h.2 c
        refine r_blk [qO (.aload_n 0), qO (.bipush 44)] (pc' := 111) (L' := [zR 34 0, zI l1, zI 0]) (S' := [zI 44, zR 34 0]) (σ' := σ17) (Ps := []) (by decide +kernel) rfl trivial ?_
        refine r_callVI (As := [zI 44]) (S := []) (Lc := [zR 34 0, zI 44]) (d' := 1) (n := 1) (g := 34) (x := 0) (ci := 11) kX11_takes vX11_takes lkX11_86 (by decide +kernel) (by decide) rfl rfl (by decide) rfl rfl (Nat.le_of_ble_eq_true rfl) rfl rfl (Nat.le_of_ble_eq_true rfl) (pX11_takes h.1 h.2.1 (fun c => ?_) (fun c => ?_))
        all_goals replace h := h.2.2
        · replace h := h.1 c
          generalize hσ19 : zup σ17 34 0 8 (σ17 34 0 8 + 1) = σ19
          replace h := h σ19 hσ19.symm
          refine r_if_eq (off := 16) (tgt := 130) (by decide +kernel) (by decide) (fun c => ?_) (fun c => ?_)
          · exact absurd c (by decide)
          · refine r_blk [qO (.aload_n 0), qO (.iconst 2), qO (.iconst 2)] (pc' := 120) (L' := [zR 34 0, zI l1, zI 0]) (S' := [zI 2, zI 2, zR 34 0]) (σ' := σ19) (Ps := []) (by decide +kernel) rfl trivial ?_
            refine r_callVI (As := [zI 2, zI 2]) (S := []) (Lc := [zR 34 0, zI 2, zI 2, zU]) (d' := 1) (n := 2) (g := 34) (x := 0) (ci := 11) kX11_readsNumber vX11_readsNumber lkX11_83 (by decide +kernel) (by decide) rfl rfl (by decide) rfl rfl (Nat.le_of_ble_eq_true rfl) rfl rfl (Nat.le_of_ble_eq_true rfl) (h.monoI (fun z21 σ20 h => ?_))
            refine r_if_eq (off := 7) (tgt := 130) (by decide +kernel) (by decide) (fun c => ?_) (fun c => ?_)
            · replace h := h.1 c
              exact Runs.fg (fgE (fgU (fgU fg0))) h
            · replace h := h.2 c
              refine r_blk [qO (.iconst 1), qO (.goto 4), qO (.istore_n 2), qO (.aload_n 0), qF (.getfield 25) 11 6, qO (.iconst 3), qO (.iload_n 2)] (pc' := 138) (L' := [zR 34 0, zI l1, zI 1]) (S' := [zI 1, zI 3, zR 40 0]) (σ' := σ20) (Ps := []) (by decide +kernel) rfl trivial ?_
              refine r_if_eq (off := 16) (tgt := 154) (by decide +kernel) (by decide) (fun c => ?_) (fun c => ?_)
              · exact absurd c (by decide)
              · refine r_blk [qO (.aload_n 0), qO (.bipush 98)] (pc' := 144) (L' := [zR 34 0, zI l1, zI 1]) (S' := [zI 98, zR 34 0, zI 3, zR 40 0]) (σ' := σ20) (Ps := []) (by decide +kernel) rfl trivial ?_
                refine r_callVI (As := [zI 98]) (S := [zI 3, zR 40 0]) (Lc := [zR 34 0, zI 98]) (d' := 1) (n := 1) (g := 34) (x := 0) (ci := 11) kX11_takes vX11_takes lkX11_86 (by decide +kernel) (by decide) rfl rfl (by decide) rfl rfl (Nat.le_of_ble_eq_true rfl) rfl rfl (Nat.le_of_ble_eq_true rfl) (pX11_takes h.1 h.2.1 (fun c => ?_) (fun c => ?_))
                all_goals replace h := h.2.2
                · replace h := h.1 c
                  generalize hσ22 : zup σ20 34 0 8 (σ20 34 0 8 + 1) = σ22
                  replace h := h σ22 hσ22.symm
                  refine r_if_eq (off := 7) (tgt := 154) (by decide +kernel) (by decide) (fun c => ?_) (fun c => ?_)
                  · exact absurd c (by decide)
                  · refine r_blk [qO (.iconst 1), qO (.goto 4), qO .iastore, qO (.goto 99), qO (.iload_n 2)] (pc' := 256) (L' := [zR 34 0, zI l1, zI 1]) (S' := [zI 1]) (σ' := (zup σ22 40 0 3 1)) (Ps := [0 ≤ 3 ∧ 3 < 4]) (by decide +kernel) rfl ⟨(by decide), trivial⟩ ?_
                    refine r_if_eq (off := 16) (tgt := 272) (by decide +kernel) (by decide) (fun c => ?_) (fun c => ?_)
                    · exact absurd c (by decide)
                    · refine r_blk [qO (.aload_n 0), qO (.bipush 59)] (pc' := 262) (L' := [zR 34 0, zI l1, zI 1]) (S' := [zI 59, zR 34 0]) (σ' := (zup σ22 40 0 3 1)) (Ps := []) (by decide +kernel) rfl trivial ?_
                      refine r_callVI (As := [zI 59]) (S := []) (Lc := [zR 34 0, zI 59]) (d' := 1) (n := 1) (g := 34) (x := 0) (ci := 11) kX11_takes vX11_takes lkX11_86 (by decide +kernel) (by decide) rfl rfl (by decide) rfl rfl (Nat.le_of_ble_eq_true rfl) rfl rfl (Nat.le_of_ble_eq_true rfl) (pX11_takes h.1 h.2.1 (fun c => ?_) (fun c => ?_))
                      all_goals replace h := h.2.2
                      · replace h := h.1 c
                        generalize hσ23 : zup (zup σ22 40 0 3 1) 34 0 8 ((zup σ22 40 0 3 1) 34 0 8 + 1) = σ23
                        replace h := h σ23 hσ23.symm
                        refine r_if_eq (off := 7) (tgt := 272) (by decide +kernel) (by decide) (fun c => ?_) (fun c => ?_)
                        · exact absurd c (by decide)
                        · refine r_blk [qO (.iconst 1), qO (.goto 4)] (pc' := 273) (L' := [zR 34 0, zI l1, zI 1]) (S' := [zI 1]) (σ' := σ23) (Ps := []) (by decide +kernel) rfl trivial ?_
                          exact r_retz (by decide +kernel) rfl (by decide) h
                      · replace h := h.2 c
                        refine r_if_eq (off := 7) (tgt := 272) (by decide +kernel) (by decide) (fun c => ?_) (fun c => ?_)
                        · refine r_blk [qO (.iconst 0)] (pc' := 273) (L' := [zR 34 0, zI l1, zI 1]) (S' := [zI 0]) (σ' := (zup σ22 40 0 3 1)) (Ps := []) (by decide +kernel) rfl trivial ?_
                          exact r_retz (by decide +kernel) rfl (by decide) h
                        · exact absurd c (by decide)
                · replace h := h.2 c
                  refine r_if_eq (off := 7) (tgt := 154) (by decide +kernel) (by decide) (fun c => ?_) (fun c => ?_)
                  · refine r_blk [qO (.iconst 0), qO .iastore, qO (.goto 99), qO (.iload_n 2)] (pc' := 256) (L' := [zR 34 0, zI l1, zI 1]) (S' := [zI 1]) (σ' := (zup σ20 40 0 3 0)) (Ps := [0 ≤ 3 ∧ 3 < 4]) (by decide +kernel) rfl ⟨(by decide), trivial⟩ ?_
                    refine r_if_eq (off := 16) (tgt := 272) (by decide +kernel) (by decide) (fun c => ?_) (fun c => ?_)
                    · exact absurd c (by decide)
                    · refine r_blk [qO (.aload_n 0), qO (.bipush 59)] (pc' := 262) (L' := [zR 34 0, zI l1, zI 1]) (S' := [zI 59, zR 34 0]) (σ' := (zup σ20 40 0 3 0)) (Ps := []) (by decide +kernel) rfl trivial ?_
                      refine r_callVI (As := [zI 59]) (S := []) (Lc := [zR 34 0, zI 59]) (d' := 1) (n := 1) (g := 34) (x := 0) (ci := 11) kX11_takes vX11_takes lkX11_86 (by decide +kernel) (by decide) rfl rfl (by decide) rfl rfl (Nat.le_of_ble_eq_true rfl) rfl rfl (Nat.le_of_ble_eq_true rfl) (pX11_takes h.1 h.2.1 (fun c => ?_) (fun c => ?_))
                      all_goals replace h := h.2.2
                      · replace h := h.1 c
                        generalize hσ24 : zup (zup σ20 40 0 3 0) 34 0 8 ((zup σ20 40 0 3 0) 34 0 8 + 1) = σ24
                        replace h := h σ24 hσ24.symm
                        refine r_if_eq (off := 7) (tgt := 272) (by decide +kernel) (by decide) (fun c => ?_) (fun c => ?_)
                        · exact absurd c (by decide)
                        · refine r_blk [qO (.iconst 1), qO (.goto 4)] (pc' := 273) (L' := [zR 34 0, zI l1, zI 1]) (S' := [zI 1]) (σ' := σ24) (Ps := []) (by decide +kernel) rfl trivial ?_
                          exact r_retz (by decide +kernel) rfl (by decide) h
                      · replace h := h.2 c
                        refine r_if_eq (off := 7) (tgt := 272) (by decide +kernel) (by decide) (fun c => ?_) (fun c => ?_)
                        · refine r_blk [qO (.iconst 0)] (pc' := 273) (L' := [zR 34 0, zI l1, zI 1]) (S' := [zI 0]) (σ' := (zup σ20 40 0 3 0)) (Ps := []) (by decide +kernel) rfl trivial ?_
                          exact r_retz (by decide +kernel) rfl (by decide) h
                        · exact absurd c (by decide)
                  · exact absurd c (by decide)
        · replace h := h.2 c
          refine r_if_eq (off := 16) (tgt := 130) (by decide +kernel) (by decide) (fun c => ?_) (fun c => ?_)
          · exact Runs.fg (fgE (fgU (fgU fg0))) h
          · exact absurd c (by decide)
  replace h := h.2
  replace h := h ⟨c101, c107, c115⟩
  refine r_lookup (dflt := 178) (ps := #[(101, 115), (107, 36), (115, 46)]) (len := 36) (off := 178) (tgt := 222) (by decide +kernel) (by decide +kernel) (by simp [Op.lookupswitch.offset, Ne.symm c101, Ne.symm c107, Ne.symm c115]) (by decide) ?_
  refine r_blk [qO (.aload_n 0), qO (.iconst 0), qO (.iconst 2)] (pc' := 225) (L' := [zR 34 0, zI l1, zI 0]) (S' := [zI 2, zI 0, zR 34 0]) (σ' := (zup σ 34 0 8 ((σ 34 0 8) + 1))) (Ps := []) (by decide +kernel) rfl trivial ?_
  refine r_callVI (As := [zI 0, zI 2]) (S := []) (Lc := [zR 34 0, zI 0, zI 2, zU]) (d' := 1) (n := 2) (g := 34) (x := 0) (ci := 11) kX11_readsNumber vX11_readsNumber lkX11_83 (by decide +kernel) (by decide) rfl rfl (by decide) rfl rfl (Nat.le_of_ble_eq_true rfl) rfl rfl (Nat.le_of_ble_eq_true rfl) (h.monoI (fun z26 σ25 h => ?_))
  refine r_if_eq (off := 25) (tgt := 253) (by decide +kernel) (by decide) (fun c => ?_) (fun c => ?_)
  · replace h := h.1 c
    refine r_blk [qO (.iconst 0), qO (.istore_n 2), qO (.iload_n 2)] (pc' := 256) (L' := [zR 34 0, zI l1, zI 0]) (S' := [zI 0]) (σ' := σ25) (Ps := []) (by decide +kernel) rfl trivial ?_
    refine r_if_eq (off := 16) (tgt := 272) (by decide +kernel) (by decide) (fun c => ?_) (fun c => ?_)
    · refine r_blk [qO (.iconst 0)] (pc' := 273) (L' := [zR 34 0, zI l1, zI 0]) (S' := [zI 0]) (σ' := σ25) (Ps := []) (by decide +kernel) rfl trivial ?_
      exact r_retz (by decide +kernel) rfl (by decide) h
    · exact absurd c (by decide)
  · replace h := h.2 c
    refine r_blk [qO (.aload_n 0), qO (.bipush 44)] (pc' := 234) (L' := [zR 34 0, zI l1, zI 0]) (S' := [zI 44, zR 34 0]) (σ' := σ25) (Ps := []) (by decide +kernel) rfl trivial ?_
    refine r_callVI (As := [zI 44]) (S := []) (Lc := [zR 34 0, zI 44]) (d' := 1) (n := 1) (g := 34) (x := 0) (ci := 11) kX11_takes vX11_takes lkX11_86 (by decide +kernel) (by decide) rfl rfl (by decide) rfl rfl (Nat.le_of_ble_eq_true rfl) rfl rfl (Nat.le_of_ble_eq_true rfl) (pX11_takes h.1 h.2.1 (fun c => ?_) (fun c => ?_))
    all_goals replace h := h.2.2
    · replace h := h.1 c
      generalize hσ27 : zup σ25 34 0 8 (σ25 34 0 8 + 1) = σ27
      replace h := h σ27 hσ27.symm
      refine r_if_eq (off := 16) (tgt := 253) (by decide +kernel) (by decide) (fun c => ?_) (fun c => ?_)
      · exact absurd c (by decide)
      · refine r_blk [qO (.aload_n 0), qO (.iconst 1), qO (.iconst 1)] (pc' := 243) (L' := [zR 34 0, zI l1, zI 0]) (S' := [zI 1, zI 1, zR 34 0]) (σ' := σ27) (Ps := []) (by decide +kernel) rfl trivial ?_
        refine r_callVI (As := [zI 1, zI 1]) (S := []) (Lc := [zR 34 0, zI 1, zI 1, zU]) (d' := 1) (n := 2) (g := 34) (x := 0) (ci := 11) kX11_readsNumber vX11_readsNumber lkX11_83 (by decide +kernel) (by decide) rfl rfl (by decide) rfl rfl (Nat.le_of_ble_eq_true rfl) rfl rfl (Nat.le_of_ble_eq_true rfl) (h.monoI (fun z29 σ28 h => ?_))
        refine r_if_eq (off := 7) (tgt := 253) (by decide +kernel) (by decide) (fun c => ?_) (fun c => ?_)
        · replace h := h.1 c
          refine r_blk [qO (.iconst 0), qO (.istore_n 2), qO (.iload_n 2)] (pc' := 256) (L' := [zR 34 0, zI l1, zI 0]) (S' := [zI 0]) (σ' := σ28) (Ps := []) (by decide +kernel) rfl trivial ?_
          refine r_if_eq (off := 16) (tgt := 272) (by decide +kernel) (by decide) (fun c => ?_) (fun c => ?_)
          · refine r_blk [qO (.iconst 0)] (pc' := 273) (L' := [zR 34 0, zI l1, zI 0]) (S' := [zI 0]) (σ' := σ28) (Ps := []) (by decide +kernel) rfl trivial ?_
            exact r_retz (by decide +kernel) rfl (by decide) h
          · exact absurd c (by decide)
        · replace h := h.2 c
          refine r_blk [qO (.iconst 1), qO (.goto 4), qO (.istore_n 2), qO (.iload_n 2)] (pc' := 256) (L' := [zR 34 0, zI l1, zI 1]) (S' := [zI 1]) (σ' := σ28) (Ps := []) (by decide +kernel) rfl trivial ?_
          refine r_if_eq (off := 16) (tgt := 272) (by decide +kernel) (by decide) (fun c => ?_) (fun c => ?_)
          · exact absurd c (by decide)
          · refine r_blk [qO (.aload_n 0), qO (.bipush 59)] (pc' := 262) (L' := [zR 34 0, zI l1, zI 1]) (S' := [zI 59, zR 34 0]) (σ' := σ28) (Ps := []) (by decide +kernel) rfl trivial ?_
            refine r_callVI (As := [zI 59]) (S := []) (Lc := [zR 34 0, zI 59]) (d' := 1) (n := 1) (g := 34) (x := 0) (ci := 11) kX11_takes vX11_takes lkX11_86 (by decide +kernel) (by decide) rfl rfl (by decide) rfl rfl (Nat.le_of_ble_eq_true rfl) rfl rfl (Nat.le_of_ble_eq_true rfl) (pX11_takes h.1 h.2.1 (fun c => ?_) (fun c => ?_))
            all_goals replace h := h.2.2
            · replace h := h.1 c
              generalize hσ30 : zup σ28 34 0 8 (σ28 34 0 8 + 1) = σ30
              replace h := h σ30 hσ30.symm
              refine r_if_eq (off := 7) (tgt := 272) (by decide +kernel) (by decide) (fun c => ?_) (fun c => ?_)
              · exact absurd c (by decide)
              · refine r_blk [qO (.iconst 1), qO (.goto 4)] (pc' := 273) (L' := [zR 34 0, zI l1, zI 1]) (S' := [zI 1]) (σ' := σ30) (Ps := []) (by decide +kernel) rfl trivial ?_
                exact r_retz (by decide +kernel) rfl (by decide) h
            · replace h := h.2 c
              refine r_if_eq (off := 7) (tgt := 272) (by decide +kernel) (by decide) (fun c => ?_) (fun c => ?_)
              · refine r_blk [qO (.iconst 0)] (pc' := 273) (L' := [zR 34 0, zI l1, zI 1]) (S' := [zI 0]) (σ' := σ28) (Ps := []) (by decide +kernel) rfl trivial ?_
                exact r_retz (by decide +kernel) rfl (by decide) h
              · exact absurd c (by decide)
    · replace h := h.2 c
      refine r_if_eq (off := 16) (tgt := 253) (by decide +kernel) (by decide) (fun c => ?_) (fun c => ?_)
      · refine r_blk [qO (.iconst 0), qO (.istore_n 2), qO (.iload_n 2)] (pc' := 256) (L' := [zR 34 0, zI l1, zI 0]) (S' := [zI 0]) (σ' := σ25) (Ps := []) (by decide +kernel) rfl trivial ?_
        refine r_if_eq (off := 16) (tgt := 272) (by decide +kernel) (by decide) (fun c => ?_) (fun c => ?_)
        · refine r_blk [qO (.iconst 0)] (pc' := 273) (L' := [zR 34 0, zI l1, zI 0]) (S' := [zI 0]) (σ' := σ25) (Ps := []) (by decide +kernel) rfl trivial ?_
          exact r_retz (by decide +kernel) rfl (by decide) h
        · exact absurd c (by decide)
      · exact absurd c (by decide)
theorem gX11_readsStatement_130 (σ : Hp) {Q : Option Int → Hp → Prop} (h : Q (some 0) (zup σ 40 0 3 0)) : Runs 2 mX11_readsStatement 130 [zR 34 0, zU, zU] [] σ Q := by
  refine r_blk [qO (.iconst 0), qO (.istore_n 2), qO (.aload_n 0), qF (.getfield 25) 11 6, qO (.iconst 3), qO (.iload_n 2)] (pc' := 138) (L' := [zR 34 0, zU, zI 0]) (S' := [zI 0, zI 3, zR 40 0]) (σ' := σ) (Ps := []) (by decide +kernel) rfl trivial ?_
  refine r_if_eq (off := 16) (tgt := 154) (by decide +kernel) (by decide) (fun c => ?_) (fun c => ?_)
  · refine r_blk [qO (.iconst 0), qO .iastore, qO (.goto 99), qO (.iload_n 2)] (pc' := 256) (L' := [zR 34 0, zU, zI 0]) (S' := [zI 0]) (σ' := (zup σ 40 0 3 0)) (Ps := [0 ≤ 3 ∧ 3 < 4]) (by decide +kernel) rfl ⟨(by decide), trivial⟩ ?_
    refine r_if_eq (off := 16) (tgt := 272) (by decide +kernel) (by decide) (fun c => ?_) (fun c => ?_)
    · refine r_blk [qO (.iconst 0)] (pc' := 273) (L' := [zR 34 0, zU, zI 0]) (S' := [zI 0]) (σ' := (zup σ 40 0 3 0)) (Ps := []) (by decide +kernel) rfl trivial ?_
      exact r_retz (by decide +kernel) rfl (by decide) h
    · exact absurd c (by decide)
  · exact absurd c (by decide)
theorem gX11_toldOf_0 (σ : Hp) {Q : Option Int → Hp → Prop} (h : Runs 0 mX11_toldOf 4 [zR 34 0, zI 2, zI 0, zU] [] σ Q) : Runs 0 mX11_toldOf 0 [zR 34 0, zU, zU, zU] [] σ Q := by
  refine r_blk [qO (.iconst 2), qO (.istore_n 1), qO (.iconst 0), qO (.istore_n 2)] (pc' := 4) (L' := [zR 34 0, zI 2, zI 0, zU]) (S' := []) (σ' := σ) (Ps := []) (by decide +kernel) rfl trivial ?_
  exact Runs.fg (fgE (fgE (fgE (fgU fg0)))) h
theorem gX11_toldOf_4 (l1 : Int) (l2 : Int) (σ : Hp) {Q : Option Int → Hp → Prop} (h : ((σ 38 0 1 ≤ l2 → Runs 0 mX11_toldOf 72 [zR 34 0, zI l1, zI 0, zU] [] σ Q) ∧ (¬ σ 38 0 1 ≤ l2 → Runs 0 mX11_toldOf 16 [zR 34 0, zI l1, zI l2, zI 0] [] σ Q))) : Runs 0 mX11_toldOf 4 [zR 34 0, zI l1, zI l2, zU] [] σ Q := by
  refine r_blk [qO (.iload_n 2), qO (.aload_n 0), qF (.getfield 19) 11 3, qO (.iconst 1), qO .iaload] (pc' := 11) (L' := [zR 34 0, zI l1, zI l2, zU]) (S' := [zI (σ 38 0 1), zI l2]) (σ' := σ) (Ps := [0 ≤ 1 ∧ 1 < 123]) (by decide +kernel) rfl ⟨(by decide), trivial⟩ ?_
  refine r_icmp_ge (off := 59) (tgt := 70) (by decide +kernel) (by decide) (fun c => ?_) (fun c => ?_)
  · replace h := h.1 c
    refine r_blk [qO (.iconst 0), qO (.istore_n 2)] (pc' := 72) (L' := [zR 34 0, zI l1, zI 0, zU]) (S' := []) (σ' := σ) (Ps := []) (by decide +kernel) rfl trivial ?_
    exact Runs.fg (fgE (fgE (fgE (fgU fg0)))) h
  · replace h := h.2 c
    refine r_blk [qO (.iconst 0), qO (.istore_n 3)] (pc' := 16) (L' := [zR 34 0, zI l1, zI l2, zI 0]) (S' := []) (σ' := σ) (Ps := []) (by decide +kernel) rfl trivial ?_
    exact Runs.fg (fgE (fgE (fgE (fgE fg0)))) h
theorem gX11_toldOf_16 (l1 : Int) (l2 : Int) (l3 : Int) (σ : Hp) {Q : Option Int → Hp → Prop} (h : ((2 ≤ l3 → (-2147483648 ≤ l2 + 1 ∧ l2 + 1 ≤ 2147483647) ∧ Runs 0 mX11_toldOf 4 [zR 34 0, zI l1, zI (l2 + 1), zU] [] σ Q) ∧ (¬ 2 ≤ l3 → (-2147483648 ≤ 5 * l2 ∧ 5 * l2 ≤ 2147483647) ∧ (-2147483648 ≤ 11 + (5 * l2) ∧ 11 + (5 * l2) ≤ 2147483647) ∧ (-2147483648 ≤ (11 + (5 * l2)) + l3 ∧ (11 + (5 * l2)) + l3 ≤ 2147483647) ∧ (0 ≤ (11 + (5 * l2)) + l3 ∧ (11 + (5 * l2)) + l3 < 123) ∧ ((σ 38 0 (((11 + (5 * l2)) + l3).toNat) < l1 → (-2147483648 ≤ l3 + 1 ∧ l3 + 1 ≤ 2147483647) ∧ Runs 0 mX11_toldOf 16 [zR 34 0, zI l1, zI l2, zI (l3 + 1)] [] σ Q) ∧ (¬ σ 38 0 (((11 + (5 * l2)) + l3).toNat) < l1 → (-2147483648 ≤ 5 * l2 ∧ 5 * l2 ≤ 2147483647) ∧ (-2147483648 ≤ 11 + (5 * l2) ∧ 11 + (5 * l2) ≤ 2147483647) ∧ (-2147483648 ≤ (11 + (5 * l2)) + l3 ∧ (11 + (5 * l2)) + l3 ≤ 2147483647) ∧ (0 ≤ (11 + (5 * l2)) + l3 ∧ (11 + (5 * l2)) + l3 < 123) ∧ (-2147483648 ≤ (σ 38 0 (((11 + (5 * l2)) + l3).toNat)) + 1 ∧ (σ 38 0 (((11 + (5 * l2)) + l3).toNat)) + 1 ≤ 2147483647) ∧ (-2147483648 ≤ l3 + 1 ∧ l3 + 1 ≤ 2147483647) ∧ Runs 0 mX11_toldOf 16 [zR 34 0, zI ((σ 38 0 (((11 + (5 * l2)) + l3).toNat)) + 1), zI l2, zI (l3 + 1)] [] σ Q))))) : Runs 0 mX11_toldOf 16 [zR 34 0, zI l1, zI l2, zI l3] [] σ Q := by
  refine r_blk [qO (.iload_n 3), qO (.iconst 2)] (pc' := 18) (L' := [zR 34 0, zI l1, zI l2, zI l3]) (S' := [zI 2, zI l3]) (σ' := σ) (Ps := []) (by decide +kernel) rfl trivial ?_
  refine r_icmp_ge (off := 46) (tgt := 64) (by decide +kernel) (by decide) (fun c => ?_) (fun c => ?_)
  · replace h := h.1 c
    refine r_blk [qO (.iinc 2 1), qO (.goto (-63))] (pc' := 4) (L' := [zR 34 0, zI l1, zI (l2 + 1), zI l3]) (S' := []) (σ' := σ) (Ps := [-2147483648 ≤ l2 + 1 ∧ l2 + 1 ≤ 2147483647]) (by decide +kernel) rfl ⟨h.1, trivial⟩ ?_
    replace h := h.2
    exact Runs.fg (fgE (fgE (fgE (fgU fg0)))) h
  · replace h := h.2 c
    refine r_blk [qO (.aload_n 0), qF (.getfield 19) 11 3, qO (.bipush 11), qO (.iconst 5), qO (.iload_n 2), qO .imul, qO .iadd, qO (.iload_n 3), qO .iadd, qO .iaload, qO (.iload_n 1)] (pc' := 35) (L' := [zR 34 0, zI l1, zI l2, zI l3]) (S' := [zI l1, zI (σ 38 0 (((11 + (5 * l2)) + l3).toNat))]) (σ' := σ) (Ps := [-2147483648 ≤ 5 * l2 ∧ 5 * l2 ≤ 2147483647, -2147483648 ≤ 11 + (5 * l2) ∧ 11 + (5 * l2) ≤ 2147483647, -2147483648 ≤ (11 + (5 * l2)) + l3 ∧ (11 + (5 * l2)) + l3 ≤ 2147483647, 0 ≤ (11 + (5 * l2)) + l3 ∧ (11 + (5 * l2)) + l3 < 123]) (by decide +kernel) rfl ⟨h.1, h.2.1, h.2.2.1, h.2.2.2.1, trivial⟩ ?_
    replace h := h.2.2.2.2
    refine r_icmp_lt (off := 21) (tgt := 56) (by decide +kernel) (by decide) (fun c => ?_) (fun c => ?_)
    · replace h := h.1 c
      refine r_blk [qO (.iload_n 1), qO (.istore_n 1), qO (.iinc 3 1), qO (.goto (-45))] (pc' := 16) (L' := [zR 34 0, zI l1, zI l2, zI (l3 + 1)]) (S' := []) (σ' := σ) (Ps := [-2147483648 ≤ l3 + 1 ∧ l3 + 1 ≤ 2147483647]) (by decide +kernel) rfl ⟨h.1, trivial⟩ ?_
      replace h := h.2
      exact Runs.fg (fgE (fgE (fgE (fgE fg0)))) h
    · replace h := h.2 c
      refine r_blk [qO (.aload_n 0), qF (.getfield 19) 11 3, qO (.bipush 11), qO (.iconst 5), qO (.iload_n 2), qO .imul, qO .iadd, qO (.iload_n 3), qO .iadd, qO .iaload, qO (.iconst 1), qO .iadd, qO (.goto 4), qO (.istore_n 1), qO (.iinc 3 1), qO (.goto (-45))] (pc' := 16) (L' := [zR 34 0, zI ((σ 38 0 (((11 + (5 * l2)) + l3).toNat)) + 1), zI l2, zI (l3 + 1)]) (S' := []) (σ' := σ) (Ps := [-2147483648 ≤ 5 * l2 ∧ 5 * l2 ≤ 2147483647, -2147483648 ≤ 11 + (5 * l2) ∧ 11 + (5 * l2) ≤ 2147483647, -2147483648 ≤ (11 + (5 * l2)) + l3 ∧ (11 + (5 * l2)) + l3 ≤ 2147483647, 0 ≤ (11 + (5 * l2)) + l3 ∧ (11 + (5 * l2)) + l3 < 123, -2147483648 ≤ (σ 38 0 (((11 + (5 * l2)) + l3).toNat)) + 1 ∧ (σ 38 0 (((11 + (5 * l2)) + l3).toNat)) + 1 ≤ 2147483647, -2147483648 ≤ l3 + 1 ∧ l3 + 1 ≤ 2147483647]) (by decide +kernel) rfl ⟨h.1, h.2.1, h.2.2.1, h.2.2.2.1, h.2.2.2.2.1, h.2.2.2.2.2.1, trivial⟩ ?_
      replace h := h.2.2.2.2.2.2
      exact Runs.fg (fgE (fgE (fgE (fgE fg0)))) h
theorem gX11_toldOf_72 (l1 : Int) (l2 : Int) (σ : Hp) {Q : Option Int → Hp → Prop} (h : ((σ 38 0 2 ≤ l2 → Q (some l1) σ) ∧ (¬ σ 38 0 2 ≤ l2 → Runs 0 mX11_toldOf 84 [zR 34 0, zI l1, zI l2, zI 0] [] σ Q))) : Runs 0 mX11_toldOf 72 [zR 34 0, zI l1, zI l2, zU] [] σ Q := by
  refine r_blk [qO (.iload_n 2), qO (.aload_n 0), qF (.getfield 19) 11 3, qO (.iconst 2), qO .iaload] (pc' := 79) (L' := [zR 34 0, zI l1, zI l2, zU]) (S' := [zI (σ 38 0 2), zI l2]) (σ' := σ) (Ps := [0 ≤ 2 ∧ 2 < 123]) (by decide +kernel) rfl ⟨(by decide), trivial⟩ ?_
  refine r_icmp_ge (off := 59) (tgt := 138) (by decide +kernel) (by decide) (fun c => ?_) (fun c => ?_)
  · replace h := h.1 c
    refine r_blk [qO (.iload_n 1)] (pc' := 139) (L' := [zR 34 0, zI l1, zI l2, zU]) (S' := [zI l1]) (σ' := σ) (Ps := []) (by decide +kernel) rfl trivial ?_
    exact r_ret (by decide +kernel) rfl (fun _ => h)
  · replace h := h.2 c
    refine r_blk [qO (.iconst 0), qO (.istore_n 3)] (pc' := 84) (L' := [zR 34 0, zI l1, zI l2, zI 0]) (S' := []) (σ' := σ) (Ps := []) (by decide +kernel) rfl trivial ?_
    exact Runs.fg (fgE (fgE (fgE (fgE fg0)))) h
theorem gX11_toldOf_84 (l1 : Int) (l2 : Int) (l3 : Int) (σ : Hp) {Q : Option Int → Hp → Prop} (h : ((2 ≤ l3 → (-2147483648 ≤ l2 + 1 ∧ l2 + 1 ≤ 2147483647) ∧ Runs 0 mX11_toldOf 72 [zR 34 0, zI l1, zI (l2 + 1), zU] [] σ Q) ∧ (¬ 2 ≤ l3 → (-2147483648 ≤ 4 * l2 ∧ 4 * l2 ≤ 2147483647) ∧ (-2147483648 ≤ 81 + (4 * l2) ∧ 81 + (4 * l2) ≤ 2147483647) ∧ (-2147483648 ≤ (81 + (4 * l2)) + l3 ∧ (81 + (4 * l2)) + l3 ≤ 2147483647) ∧ (0 ≤ (81 + (4 * l2)) + l3 ∧ (81 + (4 * l2)) + l3 < 123) ∧ ((σ 38 0 (((81 + (4 * l2)) + l3).toNat) < l1 → (-2147483648 ≤ l3 + 1 ∧ l3 + 1 ≤ 2147483647) ∧ Runs 0 mX11_toldOf 84 [zR 34 0, zI l1, zI l2, zI (l3 + 1)] [] σ Q) ∧ (¬ σ 38 0 (((81 + (4 * l2)) + l3).toNat) < l1 → (-2147483648 ≤ 4 * l2 ∧ 4 * l2 ≤ 2147483647) ∧ (-2147483648 ≤ 81 + (4 * l2) ∧ 81 + (4 * l2) ≤ 2147483647) ∧ (-2147483648 ≤ (81 + (4 * l2)) + l3 ∧ (81 + (4 * l2)) + l3 ≤ 2147483647) ∧ (0 ≤ (81 + (4 * l2)) + l3 ∧ (81 + (4 * l2)) + l3 < 123) ∧ (-2147483648 ≤ (σ 38 0 (((81 + (4 * l2)) + l3).toNat)) + 1 ∧ (σ 38 0 (((81 + (4 * l2)) + l3).toNat)) + 1 ≤ 2147483647) ∧ (-2147483648 ≤ l3 + 1 ∧ l3 + 1 ≤ 2147483647) ∧ Runs 0 mX11_toldOf 84 [zR 34 0, zI ((σ 38 0 (((81 + (4 * l2)) + l3).toNat)) + 1), zI l2, zI (l3 + 1)] [] σ Q))))) : Runs 0 mX11_toldOf 84 [zR 34 0, zI l1, zI l2, zI l3] [] σ Q := by
  refine r_blk [qO (.iload_n 3), qO (.iconst 2)] (pc' := 86) (L' := [zR 34 0, zI l1, zI l2, zI l3]) (S' := [zI 2, zI l3]) (σ' := σ) (Ps := []) (by decide +kernel) rfl trivial ?_
  refine r_icmp_ge (off := 46) (tgt := 132) (by decide +kernel) (by decide) (fun c => ?_) (fun c => ?_)
  · replace h := h.1 c
    refine r_blk [qO (.iinc 2 1), qO (.goto (-63))] (pc' := 72) (L' := [zR 34 0, zI l1, zI (l2 + 1), zI l3]) (S' := []) (σ' := σ) (Ps := [-2147483648 ≤ l2 + 1 ∧ l2 + 1 ≤ 2147483647]) (by decide +kernel) rfl ⟨h.1, trivial⟩ ?_
    replace h := h.2
    exact Runs.fg (fgE (fgE (fgE (fgU fg0)))) h
  · replace h := h.2 c
    refine r_blk [qO (.aload_n 0), qF (.getfield 19) 11 3, qO (.bipush 81), qO (.iconst 4), qO (.iload_n 2), qO .imul, qO .iadd, qO (.iload_n 3), qO .iadd, qO .iaload, qO (.iload_n 1)] (pc' := 103) (L' := [zR 34 0, zI l1, zI l2, zI l3]) (S' := [zI l1, zI (σ 38 0 (((81 + (4 * l2)) + l3).toNat))]) (σ' := σ) (Ps := [-2147483648 ≤ 4 * l2 ∧ 4 * l2 ≤ 2147483647, -2147483648 ≤ 81 + (4 * l2) ∧ 81 + (4 * l2) ≤ 2147483647, -2147483648 ≤ (81 + (4 * l2)) + l3 ∧ (81 + (4 * l2)) + l3 ≤ 2147483647, 0 ≤ (81 + (4 * l2)) + l3 ∧ (81 + (4 * l2)) + l3 < 123]) (by decide +kernel) rfl ⟨h.1, h.2.1, h.2.2.1, h.2.2.2.1, trivial⟩ ?_
    replace h := h.2.2.2.2
    refine r_icmp_lt (off := 21) (tgt := 124) (by decide +kernel) (by decide) (fun c => ?_) (fun c => ?_)
    · replace h := h.1 c
      refine r_blk [qO (.iload_n 1), qO (.istore_n 1), qO (.iinc 3 1), qO (.goto (-45))] (pc' := 84) (L' := [zR 34 0, zI l1, zI l2, zI (l3 + 1)]) (S' := []) (σ' := σ) (Ps := [-2147483648 ≤ l3 + 1 ∧ l3 + 1 ≤ 2147483647]) (by decide +kernel) rfl ⟨h.1, trivial⟩ ?_
      replace h := h.2
      exact Runs.fg (fgE (fgE (fgE (fgE fg0)))) h
    · replace h := h.2 c
      refine r_blk [qO (.aload_n 0), qF (.getfield 19) 11 3, qO (.bipush 81), qO (.iconst 4), qO (.iload_n 2), qO .imul, qO .iadd, qO (.iload_n 3), qO .iadd, qO .iaload, qO (.iconst 1), qO .iadd, qO (.goto 4), qO (.istore_n 1), qO (.iinc 3 1), qO (.goto (-45))] (pc' := 84) (L' := [zR 34 0, zI ((σ 38 0 (((81 + (4 * l2)) + l3).toNat)) + 1), zI l2, zI (l3 + 1)]) (S' := []) (σ' := σ) (Ps := [-2147483648 ≤ 4 * l2 ∧ 4 * l2 ≤ 2147483647, -2147483648 ≤ 81 + (4 * l2) ∧ 81 + (4 * l2) ≤ 2147483647, -2147483648 ≤ (81 + (4 * l2)) + l3 ∧ (81 + (4 * l2)) + l3 ≤ 2147483647, 0 ≤ (81 + (4 * l2)) + l3 ∧ (81 + (4 * l2)) + l3 < 123, -2147483648 ≤ (σ 38 0 (((81 + (4 * l2)) + l3).toNat)) + 1 ∧ (σ 38 0 (((81 + (4 * l2)) + l3).toNat)) + 1 ≤ 2147483647, -2147483648 ≤ l3 + 1 ∧ l3 + 1 ≤ 2147483647]) (by decide +kernel) rfl ⟨h.1, h.2.1, h.2.2.1, h.2.2.2.1, h.2.2.2.2.1, h.2.2.2.2.2.1, trivial⟩ ?_
      replace h := h.2.2.2.2.2.2
      exact Runs.fg (fgE (fgE (fgE (fgE fg0)))) h
theorem gX11_comes_0 (a0 : Int) (σ : Hp) {Q : Option Int → Hp → Prop} (h : ((σ 38 0 0 ≤ σ 40 0 0 → Runs 1 mX11_comes 43 [zR 34 0, zI a0, zI (σ 40 0 0), zI (σ 40 0 1), zU, zU, zU] [] σ Q) ∧ (¬ σ 38 0 0 ≤ σ 40 0 0 → ((σ 38 0 0 ≤ σ 40 0 1 → Runs 1 mX11_comes 43 [zR 34 0, zI a0, zI (σ 40 0 0), zI (σ 40 0 1), zU, zU, zU] [] σ Q) ∧ (¬ σ 38 0 0 ≤ σ 40 0 1 → ((σ 40 0 0 = σ 40 0 1 → Runs 1 mX11_comes 43 [zR 34 0, zI a0, zI (σ 40 0 0), zI (σ 40 0 1), zU, zU, zU] [] σ Q) ∧ (¬ σ 40 0 0 = σ 40 0 1 → ((a0 = 101 → ((1439 < σ 40 0 2 → Q (some 0) σ) ∧ (¬ 1439 < σ 40 0 2 → ((σ 40 0 3 < 1 → Q (some 0) σ) ∧ (¬ σ 40 0 3 < 1 → ((¬ σ 38 0 2 = 8 → (-2147483648 ≤ 4 * (σ 38 0 2) ∧ 4 * (σ 38 0 2) ≤ 2147483647) ∧ (-2147483648 ≤ 81 + (4 * (σ 38 0 2)) ∧ 81 + (4 * (σ 38 0 2)) ≤ 2147483647) ∧ Runs 1 mX11_comes 267 [zR 34 0, zU, zU, zU, zU, zI (81 + (4 * (σ 38 0 2))), zI 0] [] σ Q) ∧ (σ 38 0 2 = 8 → Q (some 0) σ))))))) ∧ (a0 = 107 → ((10 < σ 40 0 0 → Q (some 0) σ) ∧ (¬ 10 < σ 40 0 0 → Runs 0 mX11_toldOf 0 [zR 34 0, zU, zU, zU] [] σ (rI (fun z2 σ1 => ((z2 ≤ σ 40 0 0 → Q (some 1) (zup σ1 38 0 0 (σ 40 0 0))) ∧ (¬ z2 ≤ σ 40 0 0 → Q (some 0) σ1))))))) ∧ (a0 = 115 → ((σ 40 0 2 < 1 → Q (some 0) σ) ∧ (¬ σ 40 0 2 < 1 → ((60 < σ 40 0 2 → Q (some 0) σ) ∧ (¬ 60 < σ 40 0 2 → ((¬ σ 38 0 1 = 14 → (-2147483648 ≤ 5 * (σ 38 0 1) ∧ 5 * (σ 38 0 1) ≤ 2147483647) ∧ (-2147483648 ≤ 11 + (5 * (σ 38 0 1)) ∧ 11 + (5 * (σ 38 0 1)) ≤ 2147483647) ∧ Runs 1 mX11_comes 160 [zR 34 0, zU, zU, zU, zU, zI (11 + (5 * (σ 38 0 1))), zI 0] [] σ Q) ∧ (σ 38 0 1 = 14 → Q (some 0) σ))))))) ∧ (¬ a0 = 101 ∧ ¬ a0 = 107 ∧ ¬ a0 = 115 → ((σ 38 0 1 ≤ σ 40 0 0 → Q (some 0) σ) ∧ (¬ σ 38 0 1 ≤ σ 40 0 0 → ((σ 40 0 1 ≤ 2 → (-2147483648 ≤ 5 * (σ 40 0 0) ∧ 5 * (σ 40 0 0) ≤ 2147483647) ∧ (-2147483648 ≤ 11 + (5 * (σ 40 0 0)) ∧ 11 + (5 * (σ 40 0 0)) ≤ 2147483647) ∧ (-2147483648 ≤ (11 + (5 * (σ 40 0 0))) + 4 ∧ (11 + (5 * (σ 40 0 0))) + 4 ≤ 2147483647) ∧ (0 ≤ (11 + (5 * (σ 40 0 0))) + 4 ∧ (11 + (5 * (σ 40 0 0))) + 4 < 123) ∧ Q (some 1) (zup σ 38 0 (((11 + (5 * (σ 40 0 0))) + 4).toNat) (σ 40 0 1))) ∧ (¬ σ 40 0 1 ≤ 2 → Q (some 0) σ))))))))))))) : Runs 1 mX11_comes 0 [zR 34 0, zI a0, zU, zU, zU, zU, zU] [] σ Q := by
  refine r_blk [qO (.aload_n 0), qF (.getfield 25) 11 6, qO (.iconst 0), qO .iaload, qO (.istore_n 2), qO (.aload_n 0), qF (.getfield 25) 11 6, qO (.iconst 1), qO .iaload, qO (.istore_n 3), qO (.iload_n 2), qO (.aload_n 0), qF (.getfield 19) 11 3, qO (.iconst 0), qO .iaload] (pc' := 21) (L' := [zR 34 0, zI a0, zI (σ 40 0 0), zI (σ 40 0 1), zU, zU, zU]) (S' := [zI (σ 38 0 0), zI (σ 40 0 0)]) (σ' := σ) (Ps := [0 ≤ 0 ∧ 0 < 4, 0 ≤ 1 ∧ 1 < 4, 0 ≤ 0 ∧ 0 < 123]) (by decide +kernel) rfl ⟨(by decide), (by decide), (by decide), trivial⟩ ?_
  refine r_icmp_ge (off := 22) (tgt := 43) (by decide +kernel) (by decide) (fun c => ?_) (fun c => ?_)
  · replace h := h.1 c
    exact Runs.fg (fgE (fgE (fgE (fgE (fgU (fgU (fgU fg0))))))) h
  · replace h := h.2 c
    refine r_blk [qO (.iload_n 3), qO (.aload_n 0), qF (.getfield 19) 11 3, qO (.iconst 0), qO .iaload] (pc' := 31) (L' := [zR 34 0, zI a0, zI (σ 40 0 0), zI (σ 40 0 1), zU, zU, zU]) (S' := [zI (σ 38 0 0), zI (σ 40 0 1)]) (σ' := σ) (Ps := [0 ≤ 0 ∧ 0 < 123]) (by decide +kernel) rfl ⟨(by decide), trivial⟩ ?_
    refine r_icmp_ge (off := 12) (tgt := 43) (by decide +kernel) (by decide) (fun c => ?_) (fun c => ?_)
    · replace h := h.1 c
      exact Runs.fg (fgE (fgE (fgE (fgE (fgU (fgU (fgU fg0))))))) h
    · replace h := h.2 c
      refine r_blk [qO (.iload_n 2), qO (.iload_n 3)] (pc' := 36) (L' := [zR 34 0, zI a0, zI (σ 40 0 0), zI (σ 40 0 1), zU, zU, zU]) (S' := [zI (σ 40 0 1), zI (σ 40 0 0)]) (σ' := σ) (Ps := []) (by decide +kernel) rfl trivial ?_
      refine r_icmp_eq (off := 7) (tgt := 43) (by decide +kernel) (by decide) (fun c => ?_) (fun c => ?_)
      · replace h := h.1 c
        exact Runs.fg (fgE (fgE (fgE (fgE (fgU (fgU (fgU fg0))))))) h
      · replace h := h.2 c
        refine r_blk [qO (.iconst 1), qO (.goto 4), qO (.istore 4), qO (.iload_n 1)] (pc' := 47) (L' := [zR 34 0, zI a0, zI (σ 40 0 0), zI (σ 40 0 1), zI 1, zU, zU]) (S' := [zI a0]) (σ' := σ) (Ps := []) (by decide +kernel) rfl trivial ?_
        by_cases c101 : a0 = 101
        · replace h := h.1 c101
          refine r_lookup (dflt := 261) (ps := #[(101, 164), (107, 33), (115, 58)]) (len := 33) (off := 164) (tgt := 211) (by decide +kernel) (by decide +kernel) (by rw [c101]; decide) (by decide) ?_
          refine r_blk [qO (.iload 4)] (pc' := 213) (L' := [zR 34 0, zI a0, zI (σ 40 0 0), zI (σ 40 0 1), zI 1, zU, zU]) (S' := [zI 1]) (σ' := σ) (Ps := []) (by decide +kernel) rfl trivial ?_
          refine r_if_eq (off := 36) (tgt := 249) (by decide +kernel) (by decide) (fun c => ?_) (fun c => ?_)
          · exact absurd c (by decide)
          · refine r_blk [qO (.aload_n 0), qF (.getfield 25) 11 6, qO (.iconst 2), qO .iaload, qO (.sipush 1439)] (pc' := 225) (L' := [zR 34 0, zI a0, zI (σ 40 0 0), zI (σ 40 0 1), zI 1, zU, zU]) (S' := [zI 1439, zI (σ 40 0 2)]) (σ' := σ) (Ps := [0 ≤ 2 ∧ 2 < 4]) (by decide +kernel) rfl ⟨(by decide), trivial⟩ ?_
            refine r_icmp_gt (off := 24) (tgt := 249) (by decide +kernel) (by decide) (fun c => ?_) (fun c => ?_)
            · replace h := h.1 c
              refine r_blk [qO (.iconst 0)] (pc' := 250) (L' := [zR 34 0, zI a0, zI (σ 40 0 0), zI (σ 40 0 1), zI 1, zU, zU]) (S' := [zI 0]) (σ' := σ) (Ps := []) (by decide +kernel) rfl trivial ?_
              exact r_retz (by decide +kernel) rfl (by decide) h
            · replace h := h.2 c
              refine r_blk [qO (.aload_n 0), qF (.getfield 25) 11 6, qO (.iconst 3), qO .iaload, qO (.iconst 1)] (pc' := 235) (L' := [zR 34 0, zI a0, zI (σ 40 0 0), zI (σ 40 0 1), zI 1, zU, zU]) (S' := [zI 1, zI (σ 40 0 3)]) (σ' := σ) (Ps := [0 ≤ 3 ∧ 3 < 4]) (by decide +kernel) rfl ⟨(by decide), trivial⟩ ?_
              refine r_icmp_lt (off := 14) (tgt := 249) (by decide +kernel) (by decide) (fun c => ?_) (fun c => ?_)
              · replace h := h.1 c
                refine r_blk [qO (.iconst 0)] (pc' := 250) (L' := [zR 34 0, zI a0, zI (σ 40 0 0), zI (σ 40 0 1), zI 1, zU, zU]) (S' := [zI 0]) (σ' := σ) (Ps := []) (by decide +kernel) rfl trivial ?_
                exact r_retz (by decide +kernel) rfl (by decide) h
              · replace h := h.2 c
                refine r_blk [qO (.aload_n 0), qF (.getfield 19) 11 3, qO (.iconst 2), qO .iaload, qO (.bipush 8)] (pc' := 246) (L' := [zR 34 0, zI a0, zI (σ 40 0 0), zI (σ 40 0 1), zI 1, zU, zU]) (S' := [zI 8, zI (σ 38 0 2)]) (σ' := σ) (Ps := [0 ≤ 2 ∧ 2 < 123]) (by decide +kernel) rfl ⟨(by decide), trivial⟩ ?_
                refine r_icmp_ne (off := 5) (tgt := 251) (by decide +kernel) (by decide) (fun c => ?_) (fun c => ?_)
                · replace h := h.1 c
                  refine r_blk [qO (.bipush 81), qO (.iconst 4), qO (.aload_n 0), qF (.getfield 19) 11 3, qO (.iconst 2), qO .iaload, qO .imul, qO .iadd, qO (.istore 5), qO (.iconst 0), qO (.istore 6)] (pc' := 267) (L' := [zR 34 0, zI a0, zI (σ 40 0 0), zI (σ 40 0 1), zI 1, zI (81 + (4 * (σ 38 0 2))), zI 0]) (S' := []) (σ' := σ) (Ps := [0 ≤ 2 ∧ 2 < 123, -2147483648 ≤ 4 * (σ 38 0 2) ∧ 4 * (σ 38 0 2) ≤ 2147483647, -2147483648 ≤ 81 + (4 * (σ 38 0 2)) ∧ 81 + (4 * (σ 38 0 2)) ≤ 2147483647]) (by decide +kernel) rfl ⟨(by decide), h.1, h.2.1, trivial⟩ ?_
                  replace h := h.2.2
                  exact Runs.fg (fgE (fgU (fgU (fgU (fgU (fgE (fgE fg0))))))) h
                · replace h := h.2 c
                  refine r_blk [qO (.iconst 0)] (pc' := 250) (L' := [zR 34 0, zI a0, zI (σ 40 0 0), zI (σ 40 0 1), zI 1, zU, zU]) (S' := [zI 0]) (σ' := σ) (Ps := []) (by decide +kernel) rfl trivial ?_
                  exact r_retz (by decide +kernel) rfl (by decide) h
        replace h := h.2
        by_cases c107 : a0 = 107
        · replace h := h.1 c107
          refine r_lookup (dflt := 261) (ps := #[(101, 164), (107, 33), (115, 58)]) (len := 33) (off := 33) (tgt := 80) (by decide +kernel) (by decide +kernel) (by rw [c107]; decide) (by decide) ?_
          refine r_blk [qO (.iload_n 2), qO (.bipush 10)] (pc' := 83) (L' := [zR 34 0, zI a0, zI (σ 40 0 0), zI (σ 40 0 1), zI 1, zU, zU]) (S' := [zI 10, zI (σ 40 0 0)]) (σ' := σ) (Ps := []) (by decide +kernel) rfl trivial ?_
          refine r_icmp_gt (off := 11) (tgt := 94) (by decide +kernel) (by decide) (fun c => ?_) (fun c => ?_)
          · replace h := h.1 c
            refine r_blk [qO (.iconst 0)] (pc' := 95) (L' := [zR 34 0, zI a0, zI (σ 40 0 0), zI (σ 40 0 1), zI 1, zU, zU]) (S' := [zI 0]) (σ' := σ) (Ps := []) (by decide +kernel) rfl trivial ?_
            exact r_retz (by decide +kernel) rfl (by decide) h
          · replace h := h.2 c
            refine r_blk [qO (.iload_n 2), qO (.aload_n 0)] (pc' := 88) (L' := [zR 34 0, zI a0, zI (σ 40 0 0), zI (σ 40 0 1), zI 1, zU, zU]) (S' := [zR 34 0, zI (σ 40 0 0)]) (σ' := σ) (Ps := []) (by decide +kernel) rfl trivial ?_
            refine r_callVI (As := []) (S := [zI (σ 40 0 0)]) (Lc := [zR 34 0, zU, zU, zU]) (d' := 0) (n := 0) (g := 34) (x := 0) (ci := 11) kX11_toldOf vX11_toldOf lkX11_90 (by decide +kernel) (by decide) rfl rfl (by decide) rfl rfl (Nat.le_of_ble_eq_true rfl) rfl rfl (Nat.le_of_ble_eq_true rfl) (h.monoI (fun z2 σ1 h => ?_))
            refine r_icmp_ge (off := 5) (tgt := 96) (by decide +kernel) (by decide) (fun c => ?_) (fun c => ?_)
            · replace h := h.1 c
              refine r_blk [qO (.aload_n 0), qF (.getfield 19) 11 3, qO (.iconst 0), qO (.iload_n 2), qO .iastore, qO (.iconst 1)] (pc' := 104) (L' := [zR 34 0, zI a0, zI (σ 40 0 0), zI (σ 40 0 1), zI 1, zU, zU]) (S' := [zI 1]) (σ' := (zup σ1 38 0 0 (σ 40 0 0))) (Ps := [0 ≤ 0 ∧ 0 < 123]) (by decide +kernel) rfl ⟨(by decide), trivial⟩ ?_
              exact r_retz (by decide +kernel) rfl (by decide) h
            · replace h := h.2 c
              refine r_blk [qO (.iconst 0)] (pc' := 95) (L' := [zR 34 0, zI a0, zI (σ 40 0 0), zI (σ 40 0 1), zI 1, zU, zU]) (S' := [zI 0]) (σ' := σ1) (Ps := []) (by decide +kernel) rfl trivial ?_
              exact r_retz (by decide +kernel) rfl (by decide) h
        replace h := h.2
        by_cases c115 : a0 = 115
        · replace h := h.1 c115
          refine r_lookup (dflt := 261) (ps := #[(101, 164), (107, 33), (115, 58)]) (len := 33) (off := 58) (tgt := 105) (by decide +kernel) (by decide +kernel) (by rw [c115]; decide) (by decide) ?_
          refine r_blk [qO (.iload 4)] (pc' := 107) (L' := [zR 34 0, zI a0, zI (σ 40 0 0), zI (σ 40 0 1), zI 1, zU, zU]) (S' := [zI 1]) (σ' := σ) (Ps := []) (by decide +kernel) rfl trivial ?_
          refine r_if_eq (off := 35) (tgt := 142) (by decide +kernel) (by decide) (fun c => ?_) (fun c => ?_)
          · exact absurd c (by decide)
          · refine r_blk [qO (.aload_n 0), qF (.getfield 25) 11 6, qO (.iconst 2), qO .iaload, qO (.iconst 1)] (pc' := 117) (L' := [zR 34 0, zI a0, zI (σ 40 0 0), zI (σ 40 0 1), zI 1, zU, zU]) (S' := [zI 1, zI (σ 40 0 2)]) (σ' := σ) (Ps := [0 ≤ 2 ∧ 2 < 4]) (by decide +kernel) rfl ⟨(by decide), trivial⟩ ?_
            refine r_icmp_lt (off := 25) (tgt := 142) (by decide +kernel) (by decide) (fun c => ?_) (fun c => ?_)
            · replace h := h.1 c
              refine r_blk [qO (.iconst 0)] (pc' := 143) (L' := [zR 34 0, zI a0, zI (σ 40 0 0), zI (σ 40 0 1), zI 1, zU, zU]) (S' := [zI 0]) (σ' := σ) (Ps := []) (by decide +kernel) rfl trivial ?_
              exact r_retz (by decide +kernel) rfl (by decide) h
            · replace h := h.2 c
              refine r_blk [qO (.aload_n 0), qF (.getfield 25) 11 6, qO (.iconst 2), qO .iaload, qO (.bipush 60)] (pc' := 128) (L' := [zR 34 0, zI a0, zI (σ 40 0 0), zI (σ 40 0 1), zI 1, zU, zU]) (S' := [zI 60, zI (σ 40 0 2)]) (σ' := σ) (Ps := [0 ≤ 2 ∧ 2 < 4]) (by decide +kernel) rfl ⟨(by decide), trivial⟩ ?_
              refine r_icmp_gt (off := 14) (tgt := 142) (by decide +kernel) (by decide) (fun c => ?_) (fun c => ?_)
              · replace h := h.1 c
                refine r_blk [qO (.iconst 0)] (pc' := 143) (L' := [zR 34 0, zI a0, zI (σ 40 0 0), zI (σ 40 0 1), zI 1, zU, zU]) (S' := [zI 0]) (σ' := σ) (Ps := []) (by decide +kernel) rfl trivial ?_
                exact r_retz (by decide +kernel) rfl (by decide) h
              · replace h := h.2 c
                refine r_blk [qO (.aload_n 0), qF (.getfield 19) 11 3, qO (.iconst 1), qO .iaload, qO (.bipush 14)] (pc' := 139) (L' := [zR 34 0, zI a0, zI (σ 40 0 0), zI (σ 40 0 1), zI 1, zU, zU]) (S' := [zI 14, zI (σ 38 0 1)]) (σ' := σ) (Ps := [0 ≤ 1 ∧ 1 < 123]) (by decide +kernel) rfl ⟨(by decide), trivial⟩ ?_
                refine r_icmp_ne (off := 5) (tgt := 144) (by decide +kernel) (by decide) (fun c => ?_) (fun c => ?_)
                · replace h := h.1 c
                  refine r_blk [qO (.bipush 11), qO (.iconst 5), qO (.aload_n 0), qF (.getfield 19) 11 3, qO (.iconst 1), qO .iaload, qO .imul, qO .iadd, qO (.istore 5), qO (.iconst 0), qO (.istore 6)] (pc' := 160) (L' := [zR 34 0, zI a0, zI (σ 40 0 0), zI (σ 40 0 1), zI 1, zI (11 + (5 * (σ 38 0 1))), zI 0]) (S' := []) (σ' := σ) (Ps := [0 ≤ 1 ∧ 1 < 123, -2147483648 ≤ 5 * (σ 38 0 1) ∧ 5 * (σ 38 0 1) ≤ 2147483647, -2147483648 ≤ 11 + (5 * (σ 38 0 1)) ∧ 11 + (5 * (σ 38 0 1)) ≤ 2147483647]) (by decide +kernel) rfl ⟨(by decide), h.1, h.2.1, trivial⟩ ?_
                  replace h := h.2.2
                  exact Runs.fg (fgE (fgU (fgU (fgU (fgU (fgE (fgE fg0))))))) h
                · replace h := h.2 c
                  refine r_blk [qO (.iconst 0)] (pc' := 143) (L' := [zR 34 0, zI a0, zI (σ 40 0 0), zI (σ 40 0 1), zI 1, zU, zU]) (S' := [zI 0]) (σ' := σ) (Ps := []) (by decide +kernel) rfl trivial ?_
                  exact r_retz (by decide +kernel) rfl (by decide) h
        replace h := h.2
        replace h := h ⟨c101, c107, c115⟩
        refine r_lookup (dflt := 261) (ps := #[(101, 164), (107, 33), (115, 58)]) (len := 33) (off := 261) (tgt := 308) (by decide +kernel) (by decide +kernel) (by simp [Op.lookupswitch.offset, Ne.symm c101, Ne.symm c107, Ne.symm c115]) (by decide) ?_
        refine r_blk [qO (.iload_n 2), qO (.aload_n 0), qF (.getfield 19) 11 3, qO (.iconst 1), qO .iaload] (pc' := 315) (L' := [zR 34 0, zI a0, zI (σ 40 0 0), zI (σ 40 0 1), zI 1, zU, zU]) (S' := [zI (σ 38 0 1), zI (σ 40 0 0)]) (σ' := σ) (Ps := [0 ≤ 1 ∧ 1 < 123]) (by decide +kernel) rfl ⟨(by decide), trivial⟩ ?_
        refine r_icmp_ge (off := 8) (tgt := 323) (by decide +kernel) (by decide) (fun c => ?_) (fun c => ?_)
        · replace h := h.1 c
          refine r_blk [qO (.iconst 0)] (pc' := 324) (L' := [zR 34 0, zI a0, zI (σ 40 0 0), zI (σ 40 0 1), zI 1, zU, zU]) (S' := [zI 0]) (σ' := σ) (Ps := []) (by decide +kernel) rfl trivial ?_
          exact r_retz (by decide +kernel) rfl (by decide) h
        · replace h := h.2 c
          refine r_blk [qO (.iload_n 3), qO (.iconst 2)] (pc' := 320) (L' := [zR 34 0, zI a0, zI (σ 40 0 0), zI (σ 40 0 1), zI 1, zU, zU]) (S' := [zI 2, zI (σ 40 0 1)]) (σ' := σ) (Ps := []) (by decide +kernel) rfl trivial ?_
          refine r_icmp_le (off := 5) (tgt := 325) (by decide +kernel) (by decide) (fun c => ?_) (fun c => ?_)
          · replace h := h.1 c
            refine r_blk [qO (.aload_n 0), qF (.getfield 19) 11 3, qO (.bipush 11), qO (.iconst 5), qO (.iload_n 2), qO .imul, qO .iadd, qO (.iconst 4), qO .iadd, qO (.iload_n 3), qO .iastore, qO (.iconst 1)] (pc' := 340) (L' := [zR 34 0, zI a0, zI (σ 40 0 0), zI (σ 40 0 1), zI 1, zU, zU]) (S' := [zI 1]) (σ' := (zup σ 38 0 (((11 + (5 * (σ 40 0 0))) + 4).toNat) (σ 40 0 1))) (Ps := [-2147483648 ≤ 5 * (σ 40 0 0) ∧ 5 * (σ 40 0 0) ≤ 2147483647, -2147483648 ≤ 11 + (5 * (σ 40 0 0)) ∧ 11 + (5 * (σ 40 0 0)) ≤ 2147483647, -2147483648 ≤ (11 + (5 * (σ 40 0 0))) + 4 ∧ (11 + (5 * (σ 40 0 0))) + 4 ≤ 2147483647, 0 ≤ (11 + (5 * (σ 40 0 0))) + 4 ∧ (11 + (5 * (σ 40 0 0))) + 4 < 123]) (by decide +kernel) rfl ⟨h.1, h.2.1, h.2.2.1, h.2.2.2.1, trivial⟩ ?_
            replace h := h.2.2.2.2
            exact r_retz (by decide +kernel) rfl (by decide) h
          · replace h := h.2 c
            refine r_blk [qO (.iconst 0)] (pc' := 324) (L' := [zR 34 0, zI a0, zI (σ 40 0 0), zI (σ 40 0 1), zI 1, zU, zU]) (S' := [zI 0]) (σ' := σ) (Ps := []) (by decide +kernel) rfl trivial ?_
            exact r_retz (by decide +kernel) rfl (by decide) h
theorem gX11_comes_43 (l1 : Int) (l2 : Int) (l3 : Int) (σ : Hp) {Q : Option Int → Hp → Prop} (h : ((l1 = 101 → Q (some 0) σ) ∧ (l1 = 107 → ((10 < l2 → Q (some 0) σ) ∧ (¬ 10 < l2 → Runs 0 mX11_toldOf 0 [zR 34 0, zU, zU, zU] [] σ (rI (fun z2 σ1 => ((z2 ≤ l2 → Q (some 1) (zup σ1 38 0 0 l2)) ∧ (¬ z2 ≤ l2 → Q (some 0) σ1))))))) ∧ (l1 = 115 → Q (some 0) σ) ∧ (¬ l1 = 101 ∧ ¬ l1 = 107 ∧ ¬ l1 = 115 → ((σ 38 0 1 ≤ l2 → Q (some 0) σ) ∧ (¬ σ 38 0 1 ≤ l2 → ((l3 ≤ 2 → (-2147483648 ≤ 5 * l2 ∧ 5 * l2 ≤ 2147483647) ∧ (-2147483648 ≤ 11 + (5 * l2) ∧ 11 + (5 * l2) ≤ 2147483647) ∧ (-2147483648 ≤ (11 + (5 * l2)) + 4 ∧ (11 + (5 * l2)) + 4 ≤ 2147483647) ∧ (0 ≤ (11 + (5 * l2)) + 4 ∧ (11 + (5 * l2)) + 4 < 123) ∧ Q (some 1) (zup σ 38 0 (((11 + (5 * l2)) + 4).toNat) l3)) ∧ (¬ l3 ≤ 2 → Q (some 0) σ))))))) : Runs 1 mX11_comes 43 [zR 34 0, zI l1, zI l2, zI l3, zU, zU, zU] [] σ Q := by
  refine r_blk [qO (.iconst 0), qO (.istore 4), qO (.iload_n 1)] (pc' := 47) (L' := [zR 34 0, zI l1, zI l2, zI l3, zI 0, zU, zU]) (S' := [zI l1]) (σ' := σ) (Ps := []) (by decide +kernel) rfl trivial ?_
  by_cases c101 : l1 = 101
  · replace h := h.1 c101
    refine r_lookup (dflt := 261) (ps := #[(101, 164), (107, 33), (115, 58)]) (len := 33) (off := 164) (tgt := 211) (by decide +kernel) (by decide +kernel) (by rw [c101]; decide) (by decide) ?_
    refine r_blk [qO (.iload 4)] (pc' := 213) (L' := [zR 34 0, zI l1, zI l2, zI l3, zI 0, zU, zU]) (S' := [zI 0]) (σ' := σ) (Ps := []) (by decide +kernel) rfl trivial ?_
    refine r_if_eq (off := 36) (tgt := 249) (by decide +kernel) (by decide) (fun c => ?_) (fun c => ?_)
    · refine r_blk [qO (.iconst 0)] (pc' := 250) (L' := [zR 34 0, zI l1, zI l2, zI l3, zI 0, zU, zU]) (S' := [zI 0]) (σ' := σ) (Ps := []) (by decide +kernel) rfl trivial ?_
      exact r_retz (by decide +kernel) rfl (by decide) h
    · exact absurd c (by decide)
  replace h := h.2
  by_cases c107 : l1 = 107
  · replace h := h.1 c107
    refine r_lookup (dflt := 261) (ps := #[(101, 164), (107, 33), (115, 58)]) (len := 33) (off := 33) (tgt := 80) (by decide +kernel) (by decide +kernel) (by rw [c107]; decide) (by decide) ?_
    refine r_blk [qO (.iload_n 2), qO (.bipush 10)] (pc' := 83) (L' := [zR 34 0, zI l1, zI l2, zI l3, zI 0, zU, zU]) (S' := [zI 10, zI l2]) (σ' := σ) (Ps := []) (by decide +kernel) rfl trivial ?_
    refine r_icmp_gt (off := 11) (tgt := 94) (by decide +kernel) (by decide) (fun c => ?_) (fun c => ?_)
    · replace h := h.1 c
      refine r_blk [qO (.iconst 0)] (pc' := 95) (L' := [zR 34 0, zI l1, zI l2, zI l3, zI 0, zU, zU]) (S' := [zI 0]) (σ' := σ) (Ps := []) (by decide +kernel) rfl trivial ?_
      exact r_retz (by decide +kernel) rfl (by decide) h
    · replace h := h.2 c
      refine r_blk [qO (.iload_n 2), qO (.aload_n 0)] (pc' := 88) (L' := [zR 34 0, zI l1, zI l2, zI l3, zI 0, zU, zU]) (S' := [zR 34 0, zI l2]) (σ' := σ) (Ps := []) (by decide +kernel) rfl trivial ?_
      refine r_callVI (As := []) (S := [zI l2]) (Lc := [zR 34 0, zU, zU, zU]) (d' := 0) (n := 0) (g := 34) (x := 0) (ci := 11) kX11_toldOf vX11_toldOf lkX11_90 (by decide +kernel) (by decide) rfl rfl (by decide) rfl rfl (Nat.le_of_ble_eq_true rfl) rfl rfl (Nat.le_of_ble_eq_true rfl) (h.monoI (fun z2 σ1 h => ?_))
      refine r_icmp_ge (off := 5) (tgt := 96) (by decide +kernel) (by decide) (fun c => ?_) (fun c => ?_)
      · replace h := h.1 c
        refine r_blk [qO (.aload_n 0), qF (.getfield 19) 11 3, qO (.iconst 0), qO (.iload_n 2), qO .iastore, qO (.iconst 1)] (pc' := 104) (L' := [zR 34 0, zI l1, zI l2, zI l3, zI 0, zU, zU]) (S' := [zI 1]) (σ' := (zup σ1 38 0 0 l2)) (Ps := [0 ≤ 0 ∧ 0 < 123]) (by decide +kernel) rfl ⟨(by decide), trivial⟩ ?_
        exact r_retz (by decide +kernel) rfl (by decide) h
      · replace h := h.2 c
        refine r_blk [qO (.iconst 0)] (pc' := 95) (L' := [zR 34 0, zI l1, zI l2, zI l3, zI 0, zU, zU]) (S' := [zI 0]) (σ' := σ1) (Ps := []) (by decide +kernel) rfl trivial ?_
        exact r_retz (by decide +kernel) rfl (by decide) h
  replace h := h.2
  by_cases c115 : l1 = 115
  · replace h := h.1 c115
    refine r_lookup (dflt := 261) (ps := #[(101, 164), (107, 33), (115, 58)]) (len := 33) (off := 58) (tgt := 105) (by decide +kernel) (by decide +kernel) (by rw [c115]; decide) (by decide) ?_
    refine r_blk [qO (.iload 4)] (pc' := 107) (L' := [zR 34 0, zI l1, zI l2, zI l3, zI 0, zU, zU]) (S' := [zI 0]) (σ' := σ) (Ps := []) (by decide +kernel) rfl trivial ?_
    refine r_if_eq (off := 35) (tgt := 142) (by decide +kernel) (by decide) (fun c => ?_) (fun c => ?_)
    · refine r_blk [qO (.iconst 0)] (pc' := 143) (L' := [zR 34 0, zI l1, zI l2, zI l3, zI 0, zU, zU]) (S' := [zI 0]) (σ' := σ) (Ps := []) (by decide +kernel) rfl trivial ?_
      exact r_retz (by decide +kernel) rfl (by decide) h
    · exact absurd c (by decide)
  replace h := h.2
  replace h := h ⟨c101, c107, c115⟩
  refine r_lookup (dflt := 261) (ps := #[(101, 164), (107, 33), (115, 58)]) (len := 33) (off := 261) (tgt := 308) (by decide +kernel) (by decide +kernel) (by simp [Op.lookupswitch.offset, Ne.symm c101, Ne.symm c107, Ne.symm c115]) (by decide) ?_
  refine r_blk [qO (.iload_n 2), qO (.aload_n 0), qF (.getfield 19) 11 3, qO (.iconst 1), qO .iaload] (pc' := 315) (L' := [zR 34 0, zI l1, zI l2, zI l3, zI 0, zU, zU]) (S' := [zI (σ 38 0 1), zI l2]) (σ' := σ) (Ps := [0 ≤ 1 ∧ 1 < 123]) (by decide +kernel) rfl ⟨(by decide), trivial⟩ ?_
  refine r_icmp_ge (off := 8) (tgt := 323) (by decide +kernel) (by decide) (fun c => ?_) (fun c => ?_)
  · replace h := h.1 c
    refine r_blk [qO (.iconst 0)] (pc' := 324) (L' := [zR 34 0, zI l1, zI l2, zI l3, zI 0, zU, zU]) (S' := [zI 0]) (σ' := σ) (Ps := []) (by decide +kernel) rfl trivial ?_
    exact r_retz (by decide +kernel) rfl (by decide) h
  · replace h := h.2 c
    refine r_blk [qO (.iload_n 3), qO (.iconst 2)] (pc' := 320) (L' := [zR 34 0, zI l1, zI l2, zI l3, zI 0, zU, zU]) (S' := [zI 2, zI l3]) (σ' := σ) (Ps := []) (by decide +kernel) rfl trivial ?_
    refine r_icmp_le (off := 5) (tgt := 325) (by decide +kernel) (by decide) (fun c => ?_) (fun c => ?_)
    · replace h := h.1 c
      refine r_blk [qO (.aload_n 0), qF (.getfield 19) 11 3, qO (.bipush 11), qO (.iconst 5), qO (.iload_n 2), qO .imul, qO .iadd, qO (.iconst 4), qO .iadd, qO (.iload_n 3), qO .iastore, qO (.iconst 1)] (pc' := 340) (L' := [zR 34 0, zI l1, zI l2, zI l3, zI 0, zU, zU]) (S' := [zI 1]) (σ' := (zup σ 38 0 (((11 + (5 * l2)) + 4).toNat) l3)) (Ps := [-2147483648 ≤ 5 * l2 ∧ 5 * l2 ≤ 2147483647, -2147483648 ≤ 11 + (5 * l2) ∧ 11 + (5 * l2) ≤ 2147483647, -2147483648 ≤ (11 + (5 * l2)) + 4 ∧ (11 + (5 * l2)) + 4 ≤ 2147483647, 0 ≤ (11 + (5 * l2)) + 4 ∧ (11 + (5 * l2)) + 4 < 123]) (by decide +kernel) rfl ⟨h.1, h.2.1, h.2.2.1, h.2.2.2.1, trivial⟩ ?_
      replace h := h.2.2.2.2
      exact r_retz (by decide +kernel) rfl (by decide) h
    · replace h := h.2 c
      refine r_blk [qO (.iconst 0)] (pc' := 324) (L' := [zR 34 0, zI l1, zI l2, zI l3, zI 0, zU, zU]) (S' := [zI 0]) (σ' := σ) (Ps := []) (by decide +kernel) rfl trivial ?_
      exact r_retz (by decide +kernel) rfl (by decide) h
theorem gX11_comes_160 (l5 : Int) (l6 : Int) (σ : Hp) {Q : Option Int → Hp → Prop} (h : ((4 ≤ l6 → (-2147483648 ≤ l5 + 4 ∧ l5 + 4 ≤ 2147483647) ∧ (0 ≤ l5 + 4 ∧ l5 + 4 < 123) ∧ (-2147483648 ≤ ((zup σ 38 0 ((l5 + 4).toNat) 2) 38 0 1) + 1 ∧ ((zup σ 38 0 ((l5 + 4).toNat) 2) 38 0 1) + 1 ≤ 2147483647) ∧ ∀ σ1 : Hp, σ1 = (zup (zup σ 38 0 ((l5 + 4).toNat) 2) 38 0 1 (((zup σ 38 0 ((l5 + 4).toNat) 2) 38 0 1) + 1)) → Q (some 1) σ1) ∧ (¬ 4 ≤ l6 → (-2147483648 ≤ l5 + l6 ∧ l5 + l6 ≤ 2147483647) ∧ (0 ≤ l6 ∧ l6 < 4) ∧ (0 ≤ l5 + l6 ∧ l5 + l6 < 123) ∧ (-2147483648 ≤ l6 + 1 ∧ l6 + 1 ≤ 2147483647) ∧ Runs 1 mX11_comes 160 [zR 34 0, zU, zU, zU, zU, zI l5, zI (l6 + 1)] [] (zup σ 38 0 ((l5 + l6).toNat) (σ 40 0 l6.toNat)) Q))) : Runs 1 mX11_comes 160 [zR 34 0, zU, zU, zU, zU, zI l5, zI l6] [] σ Q := by
  refine r_blk [qO (.iload 6), qO (.iconst 4)] (pc' := 163) (L' := [zR 34 0, zU, zU, zU, zU, zI l5, zI l6]) (S' := [zI 4, zI l6]) (σ' := σ) (Ps := []) (by decide +kernel) rfl trivial ?_
  refine r_icmp_ge (off := 26) (tgt := 189) (by decide +kernel) (by decide) (fun c => ?_) (fun c => ?_)
  · replace h := h.1 c
    refine r_blk [qO (.aload_n 0), qF (.getfield 19) 11 3, qO (.iload 5), qO (.iconst 4), qO .iadd, qO (.iconst 2), qO .iastore, qO (.aload_n 0), qF (.getfield 19) 11 3, qO (.iconst 1), qO .dup2, qO .iaload, qO (.iconst 1), qO .iadd, qO .iastore, qO (.iconst 1)] (pc' := 210) (L' := [zR 34 0, zU, zU, zU, zU, zI l5, zI l6]) (S' := [zI 1]) (σ' := (zup (zup σ 38 0 ((l5 + 4).toNat) 2) 38 0 1 (((zup σ 38 0 ((l5 + 4).toNat) 2) 38 0 1) + 1))) (Ps := [-2147483648 ≤ l5 + 4 ∧ l5 + 4 ≤ 2147483647, 0 ≤ l5 + 4 ∧ l5 + 4 < 123, 0 ≤ 1 ∧ 1 < 123, -2147483648 ≤ ((zup σ 38 0 ((l5 + 4).toNat) 2) 38 0 1) + 1 ∧ ((zup σ 38 0 ((l5 + 4).toNat) 2) 38 0 1) + 1 ≤ 2147483647, 0 ≤ 1 ∧ 1 < 123]) (by decide +kernel) rfl ⟨h.1, h.2.1, (by decide), h.2.2.1, (by decide), trivial⟩ ?_
    replace h := h.2.2.2
    generalize hσ1 : (zup (zup σ 38 0 ((l5 + 4).toNat) 2) 38 0 1 (((zup σ 38 0 ((l5 + 4).toNat) 2) 38 0 1) + 1)) = σ1
    replace h := h σ1 hσ1.symm
    exact r_retz (by decide +kernel) rfl (by decide) h
  · replace h := h.2 c
    refine r_blk [qO (.aload_n 0), qF (.getfield 19) 11 3, qO (.iload 5), qO (.iload 6), qO .iadd, qO (.aload_n 0), qF (.getfield 25) 11 6, qO (.iload 6), qO .iaload, qO .iastore, qO (.iinc 6 1), qO (.goto (-26))] (pc' := 160) (L' := [zR 34 0, zU, zU, zU, zU, zI l5, zI (l6 + 1)]) (S' := []) (σ' := (zup σ 38 0 ((l5 + l6).toNat) (σ 40 0 l6.toNat))) (Ps := [-2147483648 ≤ l5 + l6 ∧ l5 + l6 ≤ 2147483647, 0 ≤ l6 ∧ l6 < 4, 0 ≤ l5 + l6 ∧ l5 + l6 < 123, -2147483648 ≤ l6 + 1 ∧ l6 + 1 ≤ 2147483647]) (by decide +kernel) rfl ⟨h.1, h.2.1, h.2.2.1, h.2.2.2.1, trivial⟩ ?_
    replace h := h.2.2.2.2
    exact Runs.fg (fgE (fgU (fgU (fgU (fgU (fgE (fgE fg0))))))) h
theorem gX11_comes_267 (l5 : Int) (l6 : Int) (σ : Hp) {Q : Option Int → Hp → Prop} (h : ((4 ≤ l6 → (-2147483648 ≤ (σ 38 0 2) + 1 ∧ (σ 38 0 2) + 1 ≤ 2147483647) ∧ Q (some 1) (zup σ 38 0 2 ((σ 38 0 2) + 1))) ∧ (¬ 4 ≤ l6 → (-2147483648 ≤ l5 + l6 ∧ l5 + l6 ≤ 2147483647) ∧ (0 ≤ l6 ∧ l6 < 4) ∧ (0 ≤ l5 + l6 ∧ l5 + l6 < 123) ∧ (-2147483648 ≤ l6 + 1 ∧ l6 + 1 ≤ 2147483647) ∧ Runs 1 mX11_comes 267 [zR 34 0, zU, zU, zU, zU, zI l5, zI (l6 + 1)] [] (zup σ 38 0 ((l5 + l6).toNat) (σ 40 0 l6.toNat)) Q))) : Runs 1 mX11_comes 267 [zR 34 0, zU, zU, zU, zU, zI l5, zI l6] [] σ Q := by
  refine r_blk [qO (.iload 6), qO (.iconst 4)] (pc' := 270) (L' := [zR 34 0, zU, zU, zU, zU, zI l5, zI l6]) (S' := [zI 4, zI l6]) (σ' := σ) (Ps := []) (by decide +kernel) rfl trivial ?_
  refine r_icmp_ge (off := 26) (tgt := 296) (by decide +kernel) (by decide) (fun c => ?_) (fun c => ?_)
  · replace h := h.1 c
    refine r_blk [qO (.aload_n 0), qF (.getfield 19) 11 3, qO (.iconst 2), qO .dup2, qO .iaload, qO (.iconst 1), qO .iadd, qO .iastore, qO (.iconst 1)] (pc' := 307) (L' := [zR 34 0, zU, zU, zU, zU, zI l5, zI l6]) (S' := [zI 1]) (σ' := (zup σ 38 0 2 ((σ 38 0 2) + 1))) (Ps := [0 ≤ 2 ∧ 2 < 123, -2147483648 ≤ (σ 38 0 2) + 1 ∧ (σ 38 0 2) + 1 ≤ 2147483647, 0 ≤ 2 ∧ 2 < 123]) (by decide +kernel) rfl ⟨(by decide), h.1, (by decide), trivial⟩ ?_
    replace h := h.2
    exact r_retz (by decide +kernel) rfl (by decide) h
  · replace h := h.2 c
    refine r_blk [qO (.aload_n 0), qF (.getfield 19) 11 3, qO (.iload 5), qO (.iload 6), qO .iadd, qO (.aload_n 0), qF (.getfield 25) 11 6, qO (.iload 6), qO .iaload, qO .iastore, qO (.iinc 6 1), qO (.goto (-26))] (pc' := 267) (L' := [zR 34 0, zU, zU, zU, zU, zI l5, zI (l6 + 1)]) (S' := []) (σ' := (zup σ 38 0 ((l5 + l6).toNat) (σ 40 0 l6.toNat))) (Ps := [-2147483648 ≤ l5 + l6 ∧ l5 + l6 ≤ 2147483647, 0 ≤ l6 ∧ l6 < 4, 0 ≤ l5 + l6 ∧ l5 + l6 < 123, -2147483648 ≤ l6 + 1 ∧ l6 + 1 ≤ 2147483647]) (by decide +kernel) rfl ⟨h.1, h.2.1, h.2.2.1, h.2.2.2.1, trivial⟩ ?_
    replace h := h.2.2.2.2
    exact Runs.fg (fgE (fgU (fgU (fgU (fgU (fgE (fgE fg0))))))) h
theorem gX11_reads_0 (σ : Hp) {Q : Option Int → Hp → Prop} (h : Runs 3 mX11_reads 7 [zR 34 0, zI 0, zU, zU, zU] [] (zup σ 34 0 8 0) Q) : Runs 3 mX11_reads 0 [zR 34 0, zU, zU, zU, zU] [] σ Q := by
  refine r_blk [qO (.aload_n 0), qO (.iconst 0), qF (.putfield 76) 11 8, qO (.iconst 0), qO (.istore_n 1)] (pc' := 7) (L' := [zR 34 0, zI 0, zU, zU, zU]) (S' := []) (σ' := (zup σ 34 0 8 0)) (Ps := []) (by decide +kernel) rfl trivial ?_
  exact Runs.fg (fgE (fgE (fgU (fgU (fgU fg0))))) h
theorem gX11_reads_7 (l1 : Int) (σ : Hp) {Q : Option Int → Hp → Prop} (h : Runs 2 mX11_readsStatement 0 [zR 34 0, zU, zU] [] σ (rI (fun z2 σ1 => ((¬ z2 = 0 → (-2147483648 ≤ l1 + 1 ∧ l1 + 1 ≤ 2147483647) ∧ ((σ1 34 0 8 < σ1 34 0 7 → Runs 3 mX11_reads 7 [zR 34 0, zI (l1 + 1), zU, zU, zU] [] σ1 Q) ∧ (¬ σ1 34 0 8 < σ1 34 0 7 → Runs 3 mX11_reads 39 [zR 34 0, zI (l1 + 1), zI 0, zU, zU] [] σ1 Q))) ∧ (z2 = 0 → (-2147483648 ≤ (-1000) - (σ1 34 0 8) ∧ (-1000) - (σ1 34 0 8) ≤ 2147483647) ∧ Q (some ((-1000) - (σ1 34 0 8))) σ1))))) : Runs 3 mX11_reads 7 [zR 34 0, zI l1, zU, zU, zU] [] σ Q := by
  refine r_blk [qO (.aload_n 0)] (pc' := 8) (L' := [zR 34 0, zI l1, zU, zU, zU]) (S' := [zR 34 0]) (σ' := σ) (Ps := []) (by decide +kernel) rfl trivial ?_
  refine r_callVI (As := []) (S := []) (Lc := [zR 34 0, zU, zU]) (d' := 2) (n := 0) (g := 34) (x := 0) (ci := 11) kX11_readsStatement vX11_readsStatement lkX11_93 (by decide +kernel) (by decide) rfl rfl (by decide) rfl rfl (Nat.le_of_ble_eq_true rfl) rfl rfl (Nat.le_of_ble_eq_true rfl) (h.monoI (fun z2 σ1 h => ?_))
  refine r_if_ne (off := 12) (tgt := 23) (by decide +kernel) (by decide) (fun c => ?_) (fun c => ?_)
  · replace h := h.1 c
    refine r_blk [qO (.iinc 1 1), qO (.aload_n 0), qF (.getfield 76) 11 8, qO (.aload_n 0), qF (.getfield 70) 11 7] (pc' := 34) (L' := [zR 34 0, zI (l1 + 1), zU, zU, zU]) (S' := [zI (σ1 34 0 7), zI (σ1 34 0 8)]) (σ' := σ1) (Ps := [-2147483648 ≤ l1 + 1 ∧ l1 + 1 ≤ 2147483647]) (by decide +kernel) rfl ⟨h.1, trivial⟩ ?_
    replace h := h.2
    refine r_icmp_lt (off := (-27)) (tgt := 7) (by decide +kernel) (by decide) (fun c => ?_) (fun c => ?_)
    · replace h := h.1 c
      exact Runs.fg (fgE (fgE (fgU (fgU (fgU fg0))))) h
    · replace h := h.2 c
      refine r_blk [qO (.iconst 0), qO (.istore_n 2)] (pc' := 39) (L' := [zR 34 0, zI (l1 + 1), zI 0, zU, zU]) (S' := []) (σ' := σ1) (Ps := []) (by decide +kernel) rfl trivial ?_
      exact Runs.fg (fgE (fgE (fgE (fgU (fgU fg0))))) h
  · replace h := h.2 c
    refine r_blk [qO (.sipush (-1000)), qO (.aload_n 0), qF (.getfield 76) 11 8, qO .isub] (pc' := 22) (L' := [zR 34 0, zI l1, zU, zU, zU]) (S' := [zI ((-1000) - (σ1 34 0 8))]) (σ' := σ1) (Ps := [-2147483648 ≤ (-1000) - (σ1 34 0 8) ∧ (-1000) - (σ1 34 0 8) ≤ 2147483647]) (by decide +kernel) rfl ⟨h.1, trivial⟩ ?_
    replace h := h.2
    exact r_ret (by decide +kernel) rfl (fun _ => h)
theorem gX11_reads_39 (l1 : Int) (l2 : Int) (σ : Hp) {Q : Option Int → Hp → Prop} (h : ((123 ≤ l2 → Runs 3 mX11_reads 68 [zR 34 0, zI l1, zU, zU, zU] [] (zup σ 34 0 8 0) Q) ∧ (¬ 123 ≤ l2 → (0 ≤ l2 ∧ l2 < 123) ∧ (0 ≤ l2 ∧ l2 < 123) ∧ (-2147483648 ≤ l2 + 1 ∧ l2 + 1 ≤ 2147483647) ∧ Runs 3 mX11_reads 39 [zR 34 0, zI l1, zI (l2 + 1), zU, zU] [] (zup σ 38 0 l2.toNat (σ 36 0 l2.toNat)) Q))) : Runs 3 mX11_reads 39 [zR 34 0, zI l1, zI l2, zU, zU] [] σ Q := by
  refine r_blk [qO (.iload_n 2), qO (.bipush 123)] (pc' := 42) (L' := [zR 34 0, zI l1, zI l2, zU, zU]) (S' := [zI 123, zI l2]) (σ' := σ) (Ps := []) (by decide +kernel) rfl trivial ?_
  refine r_icmp_ge (off := 21) (tgt := 63) (by decide +kernel) (by decide) (fun c => ?_) (fun c => ?_)
  · replace h := h.1 c
    refine r_blk [qO (.aload_n 0), qO (.iconst 0), qF (.putfield 76) 11 8] (pc' := 68) (L' := [zR 34 0, zI l1, zI l2, zU, zU]) (S' := []) (σ' := (zup σ 34 0 8 0)) (Ps := []) (by decide +kernel) rfl trivial ?_
    exact Runs.fg (fgE (fgE (fgU (fgU (fgU fg0))))) h
  · replace h := h.2 c
    refine r_blk [qO (.aload_n 0), qF (.getfield 19) 11 3, qO (.iload_n 2), qO (.aload_n 0), qF (.getfield 13) 11 1, qO (.iload_n 2), qO .iaload, qO .iastore, qO (.iinc 2 1), qO (.goto (-21))] (pc' := 39) (L' := [zR 34 0, zI l1, zI (l2 + 1), zU, zU]) (S' := []) (σ' := (zup σ 38 0 l2.toNat (σ 36 0 l2.toNat))) (Ps := [0 ≤ l2 ∧ l2 < 123, 0 ≤ l2 ∧ l2 < 123, -2147483648 ≤ l2 + 1 ∧ l2 + 1 ≤ 2147483647]) (by decide +kernel) rfl ⟨h.1, h.2.1, h.2.2.1, trivial⟩ ?_
    replace h := h.2.2.2
    exact Runs.fg (fgE (fgE (fgE (fgU (fgU fg0))))) h
theorem gX11_reads_68 (l1 : Int) (σ : Hp) {Q : Option Int → Hp → Prop} (h : ((σ 34 0 7 ≤ σ 34 0 8 → Runs 3 mX11_reads 114 [zR 34 0, zI l1, zI 0, zU, zU] [] σ Q) ∧ (¬ σ 34 0 7 ≤ σ 34 0 8 → (0 ≤ σ 34 0 8 ∧ σ 34 0 7 ≤ 64) ∧ Runs 2 mX11_readsStatement 0 [zR 34 0, zU, zU] [] σ (rI (fun z2 σ1 => Runs 1 mX11_comes 0 [zR 34 0, zI (zsign σ), zU, zU, zU, zU, zU] [] σ1 (rI (fun z4 σ3 => ((¬ z4 = 0 → Runs 3 mX11_reads 68 [zR 34 0, zI l1, zU, zU, zU] [] σ3 Q) ∧ (z4 = 0 → (-2147483648 ≤ (-2000) - (σ 34 0 8) ∧ (-2000) - (σ 34 0 8) ≤ 2147483647) ∧ Q (some ((-2000) - (σ 34 0 8))) σ3))))))))) : Runs 3 mX11_reads 68 [zR 34 0, zI l1, zU, zU, zU] [] σ Q := by
  refine r_blk [qO (.aload_n 0), qF (.getfield 76) 11 8, qO (.aload_n 0), qF (.getfield 70) 11 7] (pc' := 76) (L' := [zR 34 0, zI l1, zU, zU, zU]) (S' := [zI (σ 34 0 7), zI (σ 34 0 8)]) (σ' := σ) (Ps := []) (by decide +kernel) rfl trivial ?_
  refine r_icmp_ge (off := 36) (tgt := 112) (by decide +kernel) (by decide) (fun c => ?_) (fun c => ?_)
  · replace h := h.1 c
    refine r_blk [qO (.iconst 0), qO (.istore_n 2)] (pc' := 114) (L' := [zR 34 0, zI l1, zI 0, zU, zU]) (S' := []) (σ' := σ) (Ps := []) (by decide +kernel) rfl trivial ?_
    exact Runs.fg (fgE (fgE (fgE (fgU (fgU fg0))))) h
  · replace h := h.2 c
    refine r_blk [qO (.aload_n 0), qF (.getfield 76) 11 8, qO (.istore_n 2), qO (.aload_n 0)] (pc' := 85) (L' := [zR 34 0, zI l1, zI (σ 34 0 8), zU, zU]) (S' := [zR 34 0]) (σ' := σ) (Ps := []) (by decide +kernel) rfl trivial ?_
    refine r_callVI (As := []) (S := []) (Lc := [zR 34 0]) (d' := 0) (n := 0) (g := 34) (x := 0) (ci := 11) kX11_sign vX11_sign lkX11_79 (by decide +kernel) (by decide) rfl rfl (by decide) rfl rfl (Nat.le_of_ble_eq_true rfl) rfl rfl (Nat.le_of_ble_eq_true rfl) (pX11_sign h.1 ?_)
    replace h := h.2
    refine r_blk [qO (.istore_n 3), qO (.aload_n 0)] (pc' := 90) (L' := [zR 34 0, zI l1, zI (σ 34 0 8), zI (zsign σ), zU]) (S' := [zR 34 0]) (σ' := σ) (Ps := []) (by decide +kernel) rfl trivial ?_
    refine r_callVI (As := []) (S := []) (Lc := [zR 34 0, zU, zU]) (d' := 2) (n := 0) (g := 34) (x := 0) (ci := 11) kX11_readsStatement vX11_readsStatement lkX11_93 (by decide +kernel) (by decide) rfl rfl (by decide) rfl rfl (Nat.le_of_ble_eq_true rfl) rfl rfl (Nat.le_of_ble_eq_true rfl) (h.monoI (fun z2 σ1 h => ?_))
    refine r_blk [qO (.istore 4), qO (.aload_n 0), qO (.iload_n 3)] (pc' := 97) (L' := [zR 34 0, zI l1, zI (σ 34 0 8), zI (zsign σ), zI z2]) (S' := [zI (zsign σ), zR 34 0]) (σ' := σ1) (Ps := []) (by decide +kernel) rfl trivial ?_
    refine r_callVI (As := [zI (zsign σ)]) (S := []) (Lc := [zR 34 0, zI (zsign σ), zU, zU, zU, zU, zU]) (d' := 1) (n := 1) (g := 34) (x := 0) (ci := 11) kX11_comes vX11_comes lkX11_97 (by decide +kernel) (by decide) rfl rfl (by decide) rfl rfl (Nat.le_of_ble_eq_true rfl) rfl rfl (Nat.le_of_ble_eq_true rfl) (h.monoI (fun z4 σ3 h => ?_))
    refine r_if_ne (off := 9) (tgt := 109) (by decide +kernel) (by decide) (fun c => ?_) (fun c => ?_)
    · replace h := h.1 c
      refine r_blk [qO (.goto (-41))] (pc' := 68) (L' := [zR 34 0, zI l1, zI (σ 34 0 8), zI (zsign σ), zI z2]) (S' := []) (σ' := σ3) (Ps := []) (by decide +kernel) rfl trivial ?_
      exact Runs.fg (fgE (fgE (fgU (fgU (fgU fg0))))) h
    · replace h := h.2 c
      refine r_blk [qO (.sipush (-2000)), qO (.iload_n 2), qO .isub] (pc' := 108) (L' := [zR 34 0, zI l1, zI (σ 34 0 8), zI (zsign σ), zI z2]) (S' := [zI ((-2000) - (σ 34 0 8))]) (σ' := σ3) (Ps := [-2147483648 ≤ (-2000) - (σ 34 0 8) ∧ (-2000) - (σ 34 0 8) ≤ 2147483647]) (by decide +kernel) rfl ⟨h.1, trivial⟩ ?_
      replace h := h.2
      exact r_ret (by decide +kernel) rfl (fun _ => h)
theorem gX11_reads_114 (l1 : Int) (l2 : Int) (σ : Hp) {Q : Option Int → Hp → Prop} (h : ((123 ≤ l2 → Q (some l1) σ) ∧ (¬ 123 ≤ l2 → (0 ≤ l2 ∧ l2 < 123) ∧ (0 ≤ l2 ∧ l2 < 123) ∧ (-2147483648 ≤ l2 + 1 ∧ l2 + 1 ≤ 2147483647) ∧ Runs 3 mX11_reads 114 [zR 34 0, zI l1, zI (l2 + 1), zU, zU] [] (zup σ 36 0 l2.toNat (σ 38 0 l2.toNat)) Q))) : Runs 3 mX11_reads 114 [zR 34 0, zI l1, zI l2, zU, zU] [] σ Q := by
  refine r_blk [qO (.iload_n 2), qO (.bipush 123)] (pc' := 117) (L' := [zR 34 0, zI l1, zI l2, zU, zU]) (S' := [zI 123, zI l2]) (σ' := σ) (Ps := []) (by decide +kernel) rfl trivial ?_
  refine r_icmp_ge (off := 21) (tgt := 138) (by decide +kernel) (by decide) (fun c => ?_) (fun c => ?_)
  · replace h := h.1 c
    refine r_blk [qO (.iload_n 1)] (pc' := 139) (L' := [zR 34 0, zI l1, zI l2, zU, zU]) (S' := [zI l1]) (σ' := σ) (Ps := []) (by decide +kernel) rfl trivial ?_
    exact r_ret (by decide +kernel) rfl (fun _ => h)
  · replace h := h.2 c
    refine r_blk [qO (.aload_n 0), qF (.getfield 13) 11 1, qO (.iload_n 2), qO (.aload_n 0), qF (.getfield 19) 11 3, qO (.iload_n 2), qO .iaload, qO .iastore, qO (.iinc 2 1), qO (.goto (-21))] (pc' := 114) (L' := [zR 34 0, zI l1, zI (l2 + 1), zU, zU]) (S' := []) (σ' := (zup σ 36 0 l2.toNat (σ 38 0 l2.toNat))) (Ps := [0 ≤ l2 ∧ l2 < 123, 0 ≤ l2 ∧ l2 < 123, -2147483648 ≤ l2 + 1 ∧ l2 + 1 ≤ 2147483647]) (by decide +kernel) rfl ⟨h.1, h.2.1, h.2.2.1, trivial⟩ ?_
    replace h := h.2.2.2
    exact Runs.fg (fgE (fgE (fgE (fgU (fgU fg0))))) h
theorem gX11_town_0 (σ : Hp) {Q : Option Int → Hp → Prop} (h : Runs 3 mX11_reads 0 [zR 34 0, zU, zU, zU, zU] [] σ (rI (fun z2 σ1 => Q (some z2) (zup σ1 34 0 7 0)))) : Runs 4 mX11_town 0 [zR 34 0, zU] [] σ Q := by
  refine r_blk [qO (.aload_n 0)] (pc' := 1) (L' := [zR 34 0, zU]) (S' := [zR 34 0]) (σ' := σ) (Ps := []) (by decide +kernel) rfl trivial ?_
  refine r_callVI (As := []) (S := []) (Lc := [zR 34 0, zU, zU, zU, zU]) (d' := 3) (n := 0) (g := 34) (x := 0) (ci := 11) kX11_reads vX11_reads lkX11_100 (by decide +kernel) (by decide) rfl rfl (by decide) rfl rfl (Nat.le_of_ble_eq_true rfl) rfl rfl (Nat.le_of_ble_eq_true rfl) (h.monoI (fun z2 σ1 h => ?_))
  refine r_blk [qO (.istore_n 1), qO (.aload_n 0), qO (.iconst 0), qF (.putfield 70) 11 7, qO (.iload_n 1)] (pc' := 11) (L' := [zR 34 0, zI z2]) (S' := [zI z2]) (σ' := (zup σ1 34 0 7 0)) (Ps := []) (by decide +kernel) rfl trivial ?_
  exact r_ret (by decide +kernel) rfl (fun _ => h)
theorem gX3_number_0 (a0 : Int) (a1 : Int) (σ : Hp) {Q : Option Int → Hp → Prop} (h : Runs 1 mX3_number 5 [zR 14 0, zI a0, zI a1, zI 0, zI 0] [] σ Q) : Runs 1 mX3_number 0 [zR 14 0, zI a0, zI a1, zU, zU] [] σ Q := by
  refine r_blk [qO (.iconst 0), qO (.istore_n 3), qO (.iconst 0), qO (.istore 4)] (pc' := 5) (L' := [zR 14 0, zI a0, zI a1, zI 0, zI 0]) (S' := []) (σ' := σ) (Ps := []) (by decide +kernel) rfl trivial ?_
  exact Runs.fg (fgE (fgE (fgE (fgE (fgE fg0))))) h
theorem gX3_number_5 (l1 : Int) (l2 : Int) (l3 : Int) (l4 : Int) (σ : Hp) {Q : Option Int → Hp → Prop} (h : ((l2 ≤ l4 → (0 ≤ l1 ∧ l1 < 4) ∧ ((l4 ≤ 0 → Q (some 0) (zup σ 15 0 l1.toNat l3)) ∧ (¬ l4 ≤ 0 → Q (some 1) (zup σ 15 0 l1.toNat l3)))) ∧ (¬ l2 ≤ l4 → (σ 12 0 1 ≤ 64) ∧ ((48 ≤ (zbyte σ (σ 14 0 2)) ∧ (zbyte σ (σ 14 0 2)) ≤ 57 → (-2147483648 ≤ 10 * l3 ∧ 10 * l3 ≤ 2147483647) ∧ (σ 12 0 1 ≤ 64) ∧ (-2147483648 ≤ (10 * l3) + (zbyte σ (σ 14 0 2)) ∧ (10 * l3) + (zbyte σ (σ 14 0 2)) ≤ 2147483647) ∧ (-2147483648 ≤ ((10 * l3) + (zbyte σ (σ 14 0 2))) - 48 ∧ ((10 * l3) + (zbyte σ (σ 14 0 2))) - 48 ≤ 2147483647) ∧ (-2147483648 ≤ l4 + 1 ∧ l4 + 1 ≤ 2147483647) ∧ (-2147483648 ≤ (σ 14 0 2) + 1 ∧ (σ 14 0 2) + 1 ≤ 2147483647) ∧ Runs 1 mX3_number 5 [zR 14 0, zI l1, zI l2, zI (((10 * l3) + (zbyte σ (σ 14 0 2))) - 48), zI (l4 + 1)] [] (zup σ 14 0 2 ((σ 14 0 2) + 1)) Q) ∧ (¬ (48 ≤ (zbyte σ (σ 14 0 2)) ∧ (zbyte σ (σ 14 0 2)) ≤ 57) → (0 ≤ l1 ∧ l1 < 4) ∧ ((l4 ≤ 0 → Q (some 0) (zup σ 15 0 l1.toNat l3)) ∧ (¬ l4 ≤ 0 → Q (some 1) (zup σ 15 0 l1.toNat l3)))))))) : Runs 1 mX3_number 5 [zR 14 0, zI l1, zI l2, zI l3, zI l4] [] σ Q := by
  refine r_blk [qO (.iload 4), qO (.iload_n 2)] (pc' := 8) (L' := [zR 14 0, zI l1, zI l2, zI l3, zI l4]) (S' := [zI l2, zI l4]) (σ' := σ) (Ps := []) (by decide +kernel) rfl trivial ?_
  refine r_icmp_ge (off := 56) (tgt := 64) (by decide +kernel) (by decide) (fun c => ?_) (fun c => ?_)
  · replace h := h.1 c
    refine r_blk [qO (.aload_n 0), qF (.getfield 18) 3 5, qO (.iload_n 1), qO (.iload_n 3), qO .iastore, qO (.iload 4)] (pc' := 73) (L' := [zR 14 0, zI l1, zI l2, zI l3, zI l4]) (S' := [zI l4]) (σ' := (zup σ 15 0 l1.toNat l3)) (Ps := [0 ≤ l1 ∧ l1 < 4]) (by decide +kernel) rfl ⟨h.1, trivial⟩ ?_
    replace h := h.2
    refine r_if_le (off := 7) (tgt := 80) (by decide +kernel) (by decide) (fun c => ?_) (fun c => ?_)
    · replace h := h.1 c
      refine r_blk [qO (.iconst 0)] (pc' := 81) (L' := [zR 14 0, zI l1, zI l2, zI l3, zI l4]) (S' := [zI 0]) (σ' := (zup σ 15 0 l1.toNat l3)) (Ps := []) (by decide +kernel) rfl trivial ?_
      exact r_retz (by decide +kernel) rfl (by decide) h
    · replace h := h.2 c
      refine r_blk [qO (.iconst 1), qO (.goto 4)] (pc' := 81) (L' := [zR 14 0, zI l1, zI l2, zI l3, zI l4]) (S' := [zI 1]) (σ' := (zup σ 15 0 l1.toNat l3)) (Ps := []) (by decide +kernel) rfl trivial ?_
      exact r_retz (by decide +kernel) rfl (by decide) h
  · replace h := h.2 c
    refine r_blk [qO (.aload_n 0), qF (.getfield 22) 3 0, qO (.aload_n 0), qF (.getfield 34) 3 2] (pc' := 19) (L' := [zR 14 0, zI l1, zI l2, zI l3, zI l4]) (S' := [zI (σ 14 0 2), zR 12 0]) (σ' := σ) (Ps := []) (by decide +kernel) rfl trivial ?_
    refine r_callVI (As := [zI (σ 14 0 2)]) (S := []) (Lc := [zR 12 0, zI (σ 14 0 2)]) (d' := 0) (n := 1) (g := 12) (x := 0) (ci := 5) kX5_byteAt vX5_byteAt lkX3_53 (by decide +kernel) (by decide) rfl rfl (by decide) rfl rfl (Nat.le_of_ble_eq_true rfl) rfl rfl (Nat.le_of_ble_eq_true rfl) (pX5_byteAt h.1 ?_)
    replace h := h.2
    refine r_callSI (As := [zI (zbyte σ (σ 14 0 2))]) (S := []) (Lc := [zI (zbyte σ (σ 14 0 2))]) (d' := 0) (n := 1) kX3_isDigit vX3_isDigit lkX3_71 (by decide +kernel) (by decide) rfl rfl (Nat.le_of_ble_eq_true rfl) rfl rfl (Nat.le_of_ble_eq_true rfl) (pX3_isDigit  (fun c => ?_) (fun c => ?_))
    · replace h := h.1 c
      refine r_if_eq (off := 39) (tgt := 64) (by decide +kernel) (by decide) (fun c => ?_) (fun c => ?_)
      · exact absurd c (by decide)
      · refine r_blk [qO (.bipush 10), qO (.iload_n 3), qO .imul, qO (.aload_n 0), qF (.getfield 22) 3 0, qO (.aload_n 0), qF (.getfield 34) 3 2] (pc' := 40) (L' := [zR 14 0, zI l1, zI l2, zI l3, zI l4]) (S' := [zI (σ 14 0 2), zR 12 0, zI (10 * l3)]) (σ' := σ) (Ps := [-2147483648 ≤ 10 * l3 ∧ 10 * l3 ≤ 2147483647]) (by decide +kernel) rfl ⟨h.1, trivial⟩ ?_
        replace h := h.2
        refine r_callVI (As := [zI (σ 14 0 2)]) (S := [zI (10 * l3)]) (Lc := [zR 12 0, zI (σ 14 0 2)]) (d' := 0) (n := 1) (g := 12) (x := 0) (ci := 5) kX5_byteAt vX5_byteAt lkX3_53 (by decide +kernel) (by decide) rfl rfl (by decide) rfl rfl (Nat.le_of_ble_eq_true rfl) rfl rfl (Nat.le_of_ble_eq_true rfl) (pX5_byteAt h.1 ?_)
        replace h := h.2
        refine r_blk [qO .iadd, qO (.bipush 48), qO .isub, qO (.istore_n 3), qO (.iinc 4 1), qO (.aload_n 0), qO .dup, qF (.getfield 34) 3 2, qO (.iconst 1), qO .iadd, qF (.putfield 34) 3 2, qO (.goto (-56))] (pc' := 5) (L' := [zR 14 0, zI l1, zI l2, zI (((10 * l3) + (zbyte σ (σ 14 0 2))) - 48), zI (l4 + 1)]) (S' := []) (σ' := (zup σ 14 0 2 ((σ 14 0 2) + 1))) (Ps := [-2147483648 ≤ (10 * l3) + (zbyte σ (σ 14 0 2)) ∧ (10 * l3) + (zbyte σ (σ 14 0 2)) ≤ 2147483647, -2147483648 ≤ ((10 * l3) + (zbyte σ (σ 14 0 2))) - 48 ∧ ((10 * l3) + (zbyte σ (σ 14 0 2))) - 48 ≤ 2147483647, -2147483648 ≤ l4 + 1 ∧ l4 + 1 ≤ 2147483647, -2147483648 ≤ (σ 14 0 2) + 1 ∧ (σ 14 0 2) + 1 ≤ 2147483647]) (by decide +kernel) rfl ⟨h.1, h.2.1, h.2.2.1, h.2.2.2.1, trivial⟩ ?_
        replace h := h.2.2.2.2
        exact Runs.fg (fgE (fgE (fgE (fgE (fgE fg0))))) h
    · replace h := h.2 c
      refine r_if_eq (off := 39) (tgt := 64) (by decide +kernel) (by decide) (fun c => ?_) (fun c => ?_)
      · refine r_blk [qO (.aload_n 0), qF (.getfield 18) 3 5, qO (.iload_n 1), qO (.iload_n 3), qO .iastore, qO (.iload 4)] (pc' := 73) (L' := [zR 14 0, zI l1, zI l2, zI l3, zI l4]) (S' := [zI l4]) (σ' := (zup σ 15 0 l1.toNat l3)) (Ps := [0 ≤ l1 ∧ l1 < 4]) (by decide +kernel) rfl ⟨h.1, trivial⟩ ?_
        replace h := h.2
        refine r_if_le (off := 7) (tgt := 80) (by decide +kernel) (by decide) (fun c => ?_) (fun c => ?_)
        · replace h := h.1 c
          refine r_blk [qO (.iconst 0)] (pc' := 81) (L' := [zR 14 0, zI l1, zI l2, zI l3, zI l4]) (S' := [zI 0]) (σ' := (zup σ 15 0 l1.toNat l3)) (Ps := []) (by decide +kernel) rfl trivial ?_
          exact r_retz (by decide +kernel) rfl (by decide) h
        · replace h := h.2 c
          refine r_blk [qO (.iconst 1), qO (.goto 4)] (pc' := 81) (L' := [zR 14 0, zI l1, zI l2, zI l3, zI l4]) (S' := [zI 1]) (σ' := (zup σ 15 0 l1.toNat l3)) (Ps := []) (by decide +kernel) rfl trivial ?_
          exact r_retz (by decide +kernel) rfl (by decide) h
      · exact absurd c (by decide)
theorem gX3_broadOrNot_0 (σ : Hp) {Q : Option Int → Hp → Prop} (h : (σ 12 0 1 ≤ 64) ∧ (0 ≤ σ 14 0 2 ∧ σ 14 0 2 ≤ 1000) ∧ ((zbyte σ (σ 14 0 2) = 98 → ∀ σ1 : Hp, σ1 = zup σ 14 0 2 (σ 14 0 2 + 1) → Q (some 1) (zup σ1 14 0 6 1)) ∧ (¬ (zbyte σ (σ 14 0 2) = 98) → Q (some 1) (zup σ 14 0 6 0)))) : Runs 2 mX3_broadOrNot 0 [zR 14 0] [] σ Q := by
  refine r_blk [qO (.aload_n 0), qO (.aload_n 0), qO (.bipush 98)] (pc' := 4) (L' := [zR 14 0]) (S' := [zI 98, zR 14 0, zR 14 0]) (σ' := σ) (Ps := []) (by decide +kernel) rfl trivial ?_
  refine r_callVI (As := [zI 98]) (S := [zR 14 0]) (Lc := [zR 14 0, zI 98]) (d' := 1) (n := 1) (g := 14) (x := 0) (ci := 3) kX3_sign vX3_sign lkX3_64 (by decide +kernel) (by decide) rfl rfl (by decide) rfl rfl (Nat.le_of_ble_eq_true rfl) rfl rfl (Nat.le_of_ble_eq_true rfl) (pX3_sign h.1 h.2.1 (fun c => ?_) (fun c => ?_))
  all_goals replace h := h.2.2
  · replace h := h.1 c
    generalize hσ1 : zup σ 14 0 2 (σ 14 0 2 + 1) = σ1
    replace h := h σ1 hσ1.symm
    refine r_blk [qF (.putfield 75) 3 6, qO (.iconst 1)] (pc' := 11) (L' := [zR 14 0]) (S' := [zI 1]) (σ' := (zup σ1 14 0 6 1)) (Ps := [1 = 0 ∨ 1 = 1]) (by decide +kernel) rfl ⟨(by decide), trivial⟩ ?_
    exact r_retz (by decide +kernel) rfl (by decide) h
  · replace h := h.2 c
    refine r_blk [qF (.putfield 75) 3 6, qO (.iconst 1)] (pc' := 11) (L' := [zR 14 0]) (S' := [zI 1]) (σ' := (zup σ 14 0 6 0)) (Ps := [0 = 0 ∨ 0 = 1]) (by decide +kernel) rfl ⟨(by decide), trivial⟩ ?_
    exact r_retz (by decide +kernel) rfl (by decide) h
theorem gX3_readStatement_0 (σ : Hp) {Q : Option Int → Hp → Prop} (h : ((zup σ 14 0 4 (σ 14 0 2)) 12 0 1 ≤ 64) ∧ ∀ σ1 : Hp, σ1 = (zup (zup σ 14 0 4 (σ 14 0 2)) 14 0 3 (zbyte (zup σ 14 0 4 (σ 14 0 2)) (σ 14 0 2))) → ((zbyte (zup σ 14 0 4 (σ 14 0 2)) (σ 14 0 2) = 101 → (-2147483648 ≤ (σ1 14 0 2) + 1 ∧ (σ1 14 0 2) + 1 ≤ 2147483647) ∧ Runs 1 mX3_number 0 [zR 14 0, zI 0, zI 1, zU, zU] [] (zup σ1 14 0 2 ((σ1 14 0 2) + 1)) (rI (fun z3 σ2 => ((z3 = 0 → Q (some 0) σ2) ∧ (¬ z3 = 0 → Runs 1 mX3_number 0 [zR 14 0, zI 1, zI 1, zU, zU] [] σ2 (rI (fun z5 σ4 => ((z5 = 0 → Q (some 0) σ4) ∧ (¬ z5 = 0 → (σ4 12 0 1 ≤ 64) ∧ (0 ≤ σ4 14 0 2 ∧ σ4 14 0 2 ≤ 1000) ∧ ((zbyte σ4 (σ4 14 0 2) = 64 → ∀ σ6 : Hp, σ6 = zup σ4 14 0 2 (σ4 14 0 2 + 1) → Runs 1 mX3_number 0 [zR 14 0, zI 2, zI 4, zU, zU] [] σ6 (rI (fun z8 σ7 => ((z8 = 0 → Q (some 0) σ7) ∧ (¬ z8 = 0 → (σ7 12 0 1 ≤ 64) ∧ (0 ≤ σ7 14 0 2 ∧ σ7 14 0 2 ≤ 1000) ∧ ((zbyte σ7 (σ7 14 0 2) = 44 → ∀ σ9 : Hp, σ9 = zup σ7 14 0 2 (σ7 14 0 2 + 1) → Runs 1 mX3_number 0 [zR 14 0, zI 3, zI 1, zU, zU] [] σ9 (rI (fun z11 σ10 => ((z11 = 0 → Q (some 0) σ10) ∧ (¬ z11 = 0 → (σ10 12 0 1 ≤ 64) ∧ (0 ≤ σ10 14 0 2 ∧ σ10 14 0 2 ≤ 1000) ∧ ((zbyte σ10 (σ10 14 0 2) = 59 → ∀ σ12 : Hp, σ12 = zup σ10 14 0 2 (σ10 14 0 2 + 1) → Q (some 1) σ12) ∧ (¬ (zbyte σ10 (σ10 14 0 2) = 59) → Q (some 0) σ10))))))) ∧ (¬ (zbyte σ7 (σ7 14 0 2) = 44) → Q (some 0) σ7))))))) ∧ (¬ (zbyte σ4 (σ4 14 0 2) = 64) → Q (some 0) σ4))))))))))) ∧ (zbyte (zup σ 14 0 4 (σ 14 0 2)) (σ 14 0 2) = 107 → (-2147483648 ≤ (σ1 14 0 2) + 1 ∧ (σ1 14 0 2) + 1 ≤ 2147483647) ∧ Runs 1 mX3_number 0 [zR 14 0, zI 0, zI 2, zU, zU] [] (zup σ1 14 0 2 ((σ1 14 0 2) + 1)) (rI (fun z14 σ13 => ((z14 = 0 → Q (some 0) σ13) ∧ (¬ z14 = 0 → (σ13 12 0 1 ≤ 64) ∧ (0 ≤ σ13 14 0 2 ∧ σ13 14 0 2 ≤ 1000) ∧ ((zbyte σ13 (σ13 14 0 2) = 59 → ∀ σ15 : Hp, σ15 = zup σ13 14 0 2 (σ13 14 0 2 + 1) → Q (some 1) σ15) ∧ (¬ (zbyte σ13 (σ13 14 0 2) = 59) → Q (some 0) σ13))))))) ∧ (zbyte (zup σ 14 0 4 (σ 14 0 2)) (σ 14 0 2) = 109 → (-2147483648 ≤ (σ1 14 0 2) + 1 ∧ (σ1 14 0 2) + 1 ≤ 2147483647) ∧ Runs 1 mX3_number 0 [zR 14 0, zI 0, zI 2, zU, zU] [] (zup σ1 14 0 2 ((σ1 14 0 2) + 1)) (rI (fun z17 σ16 => ((z17 = 0 → Q (some 0) σ16) ∧ (¬ z17 = 0 → (σ16 12 0 1 ≤ 64) ∧ (0 ≤ σ16 14 0 2 ∧ σ16 14 0 2 ≤ 1000) ∧ ((zbyte σ16 (σ16 14 0 2) = 44 → ∀ σ18 : Hp, σ18 = zup σ16 14 0 2 (σ16 14 0 2 + 1) → Runs 1 mX3_number 0 [zR 14 0, zI 1, zI 1, zU, zU] [] σ18 (rI (fun z20 σ19 => ((z20 = 0 → Q (some 0) σ19) ∧ (¬ z20 = 0 → (σ19 12 0 1 ≤ 64) ∧ (0 ≤ σ19 14 0 2 ∧ σ19 14 0 2 ≤ 1000) ∧ ((zbyte σ19 (σ19 14 0 2) = 59 → ∀ σ21 : Hp, σ21 = zup σ19 14 0 2 (σ19 14 0 2 + 1) → Q (some 1) σ21) ∧ (¬ (zbyte σ19 (σ19 14 0 2) = 59) → Q (some 0) σ19))))))) ∧ (¬ (zbyte σ16 (σ16 14 0 2) = 44) → Q (some 0) σ16))))))) ∧ (zbyte (zup σ 14 0 4 (σ 14 0 2)) (σ 14 0 2) = 115 → (-2147483648 ≤ (σ1 14 0 2) + 1 ∧ (σ1 14 0 2) + 1 ≤ 2147483647) ∧ Runs 1 mX3_number 0 [zR 14 0, zI 0, zI 1, zU, zU] [] (zup σ1 14 0 2 ((σ1 14 0 2) + 1)) (rI (fun z23 σ22 => ((z23 = 0 → Q (some 0) σ22) ∧ (¬ z23 = 0 → Runs 1 mX3_number 0 [zR 14 0, zI 1, zI 1, zU, zU] [] σ22 (rI (fun z25 σ24 => ((z25 = 0 → Q (some 0) σ24) ∧ (¬ z25 = 0 → (σ24 12 0 1 ≤ 64) ∧ (0 ≤ σ24 14 0 2 ∧ σ24 14 0 2 ≤ 1000) ∧ ((zbyte σ24 (σ24 14 0 2) = 44 → ∀ σ26 : Hp, σ26 = zup σ24 14 0 2 (σ24 14 0 2 + 1) → Runs 1 mX3_number 0 [zR 14 0, zI 2, zI 2, zU, zU] [] σ26 (rI (fun z28 σ27 => ((z28 = 0 → Q (some 0) σ27) ∧ (¬ z28 = 0 → Runs 2 mX3_broadOrNot 0 [zR 14 0] [] σ27 (rI (fun z30 σ29 => ((z30 = 0 → Q (some 0) σ29) ∧ (¬ z30 = 0 → (σ29 12 0 1 ≤ 64) ∧ (0 ≤ σ29 14 0 2 ∧ σ29 14 0 2 ≤ 1000) ∧ ((zbyte σ29 (σ29 14 0 2) = 59 → ∀ σ31 : Hp, σ31 = zup σ29 14 0 2 (σ29 14 0 2 + 1) → Q (some 1) σ31) ∧ (¬ (zbyte σ29 (σ29 14 0 2) = 59) → Q (some 0) σ29))))))))))) ∧ (¬ (zbyte σ24 (σ24 14 0 2) = 44) → Q (some 0) σ24))))))))))) ∧ (¬ zbyte (zup σ 14 0 4 (σ 14 0 2)) (σ 14 0 2) = 101 ∧ ¬ zbyte (zup σ 14 0 4 (σ 14 0 2)) (σ 14 0 2) = 107 ∧ ¬ zbyte (zup σ 14 0 4 (σ 14 0 2)) (σ 14 0 2) = 109 ∧ ¬ zbyte (zup σ 14 0 4 (σ 14 0 2)) (σ 14 0 2) = 115 → Q (some 0) σ1))) : Runs 3 mX3_readStatement 0 [zR 14 0] [] σ Q := by
  refine r_blk [qO (.aload_n 0), qO (.aload_n 0), qF (.getfield 34) 3 2, qF (.putfield 45) 3 4, qO (.aload_n 0), qO (.aload_n 0), qF (.getfield 22) 3 0, qO (.aload_n 0), qF (.getfield 34) 3 2] (pc' := 17) (L' := [zR 14 0]) (S' := [zI (σ 14 0 2), zR 12 0, zR 14 0]) (σ' := (zup σ 14 0 4 (σ 14 0 2))) (Ps := []) (by decide +kernel) rfl trivial ?_
  refine r_callVI (As := [zI (σ 14 0 2)]) (S := [zR 14 0]) (Lc := [zR 12 0, zI (σ 14 0 2)]) (d' := 0) (n := 1) (g := 12) (x := 0) (ci := 5) kX5_byteAt vX5_byteAt lkX3_53 (by decide +kernel) (by decide) rfl rfl (by decide) rfl rfl (Nat.le_of_ble_eq_true rfl) rfl rfl (Nat.le_of_ble_eq_true rfl) (pX5_byteAt h.1 ?_)
  replace h := h.2
  refine r_blk [qF (.putfield 57) 3 3, qO (.aload_n 0), qF (.getfield 57) 3 3] (pc' := 27) (L' := [zR 14 0]) (S' := [zI (zbyte (zup σ 14 0 4 (σ 14 0 2)) (σ 14 0 2))]) (σ' := (zup (zup σ 14 0 4 (σ 14 0 2)) 14 0 3 (zbyte (zup σ 14 0 4 (σ 14 0 2)) (σ 14 0 2)))) (Ps := []) (by decide +kernel) rfl trivial ?_
  generalize hσ1 : (zup (zup σ 14 0 4 (σ 14 0 2)) 14 0 3 (zbyte (zup σ 14 0 4 (σ 14 0 2)) (σ 14 0 2))) = σ1
  replace h := h σ1 hσ1.symm
  by_cases c101 : zbyte (zup σ 14 0 4 (σ 14 0 2)) (σ 14 0 2) = 101
  · replace h := h.1 c101
    refine r_lookup (dflt := 274) (ps := #[(101, 143), (107, 41), (109, 222), (115, 75)]) (len := 41) (off := 143) (tgt := 170) (by decide +kernel) (by decide +kernel) (by rw [c101]; decide) (by decide) ?_
    refine r_blk [qO (.aload_n 0), qO .dup, qF (.getfield 34) 3 2, qO (.iconst 1), qO .iadd, qF (.putfield 34) 3 2, qO (.aload_n 0), qO (.iconst 0), qO (.iconst 1)] (pc' := 183) (L' := [zR 14 0]) (S' := [zI 1, zI 0, zR 14 0]) (σ' := (zup σ1 14 0 2 ((σ1 14 0 2) + 1))) (Ps := [-2147483648 ≤ (σ1 14 0 2) + 1 ∧ (σ1 14 0 2) + 1 ≤ 2147483647]) (by decide +kernel) rfl ⟨h.1, trivial⟩ ?_
    replace h := h.2
    refine r_callVI (As := [zI 0, zI 1]) (S := []) (Lc := [zR 14 0, zI 0, zI 1, zU, zU]) (d' := 1) (n := 2) (g := 14) (x := 0) (ci := 3) kX3_number vX3_number lkX3_60 (by decide +kernel) (by decide) rfl rfl (by decide) rfl rfl (Nat.le_of_ble_eq_true rfl) rfl rfl (Nat.le_of_ble_eq_true rfl) (h.monoI (fun z3 σ2 h => ?_))
    refine r_if_eq (off := 61) (tgt := 247) (by decide +kernel) (by decide) (fun c => ?_) (fun c => ?_)
    · replace h := h.1 c
      refine r_blk [qO (.iconst 0)] (pc' := 248) (L' := [zR 14 0]) (S' := [zI 0]) (σ' := σ2) (Ps := []) (by decide +kernel) rfl trivial ?_
      exact r_retz (by decide +kernel) rfl (by decide) h
    · replace h := h.2 c
      refine r_blk [qO (.aload_n 0), qO (.iconst 1), qO (.iconst 1)] (pc' := 192) (L' := [zR 14 0]) (S' := [zI 1, zI 1, zR 14 0]) (σ' := σ2) (Ps := []) (by decide +kernel) rfl trivial ?_
      refine r_callVI (As := [zI 1, zI 1]) (S := []) (Lc := [zR 14 0, zI 1, zI 1, zU, zU]) (d' := 1) (n := 2) (g := 14) (x := 0) (ci := 3) kX3_number vX3_number lkX3_60 (by decide +kernel) (by decide) rfl rfl (by decide) rfl rfl (Nat.le_of_ble_eq_true rfl) rfl rfl (Nat.le_of_ble_eq_true rfl) (h.monoI (fun z5 σ4 h => ?_))
      refine r_if_eq (off := 52) (tgt := 247) (by decide +kernel) (by decide) (fun c => ?_) (fun c => ?_)
      · replace h := h.1 c
        refine r_blk [qO (.iconst 0)] (pc' := 248) (L' := [zR 14 0]) (S' := [zI 0]) (σ' := σ4) (Ps := []) (by decide +kernel) rfl trivial ?_
        exact r_retz (by decide +kernel) rfl (by decide) h
      · replace h := h.2 c
        refine r_blk [qO (.aload_n 0), qO (.bipush 64)] (pc' := 201) (L' := [zR 14 0]) (S' := [zI 64, zR 14 0]) (σ' := σ4) (Ps := []) (by decide +kernel) rfl trivial ?_
        refine r_callVI (As := [zI 64]) (S := []) (Lc := [zR 14 0, zI 64]) (d' := 1) (n := 1) (g := 14) (x := 0) (ci := 3) kX3_sign vX3_sign lkX3_64 (by decide +kernel) (by decide) rfl rfl (by decide) rfl rfl (Nat.le_of_ble_eq_true rfl) rfl rfl (Nat.le_of_ble_eq_true rfl) (pX3_sign h.1 h.2.1 (fun c => ?_) (fun c => ?_))
        all_goals replace h := h.2.2
        · replace h := h.1 c
          generalize hσ6 : zup σ4 14 0 2 (σ4 14 0 2 + 1) = σ6
          replace h := h σ6 hσ6.symm
          refine r_if_eq (off := 43) (tgt := 247) (by decide +kernel) (by decide) (fun c => ?_) (fun c => ?_)
          · exact absurd c (by decide)
          · refine r_blk [qO (.aload_n 0), qO (.iconst 2), qO (.iconst 4)] (pc' := 210) (L' := [zR 14 0]) (S' := [zI 4, zI 2, zR 14 0]) (σ' := σ6) (Ps := []) (by decide +kernel) rfl trivial ?_
            refine r_callVI (As := [zI 2, zI 4]) (S := []) (Lc := [zR 14 0, zI 2, zI 4, zU, zU]) (d' := 1) (n := 2) (g := 14) (x := 0) (ci := 3) kX3_number vX3_number lkX3_60 (by decide +kernel) (by decide) rfl rfl (by decide) rfl rfl (Nat.le_of_ble_eq_true rfl) rfl rfl (Nat.le_of_ble_eq_true rfl) (h.monoI (fun z8 σ7 h => ?_))
            refine r_if_eq (off := 34) (tgt := 247) (by decide +kernel) (by decide) (fun c => ?_) (fun c => ?_)
            · replace h := h.1 c
              refine r_blk [qO (.iconst 0)] (pc' := 248) (L' := [zR 14 0]) (S' := [zI 0]) (σ' := σ7) (Ps := []) (by decide +kernel) rfl trivial ?_
              exact r_retz (by decide +kernel) rfl (by decide) h
            · replace h := h.2 c
              refine r_blk [qO (.aload_n 0), qO (.bipush 44)] (pc' := 219) (L' := [zR 14 0]) (S' := [zI 44, zR 14 0]) (σ' := σ7) (Ps := []) (by decide +kernel) rfl trivial ?_
              refine r_callVI (As := [zI 44]) (S := []) (Lc := [zR 14 0, zI 44]) (d' := 1) (n := 1) (g := 14) (x := 0) (ci := 3) kX3_sign vX3_sign lkX3_64 (by decide +kernel) (by decide) rfl rfl (by decide) rfl rfl (Nat.le_of_ble_eq_true rfl) rfl rfl (Nat.le_of_ble_eq_true rfl) (pX3_sign h.1 h.2.1 (fun c => ?_) (fun c => ?_))
              all_goals replace h := h.2.2
              · replace h := h.1 c
                generalize hσ9 : zup σ7 14 0 2 (σ7 14 0 2 + 1) = σ9
                replace h := h σ9 hσ9.symm
                refine r_if_eq (off := 25) (tgt := 247) (by decide +kernel) (by decide) (fun c => ?_) (fun c => ?_)
                · exact absurd c (by decide)
                · refine r_blk [qO (.aload_n 0), qO (.iconst 3), qO (.iconst 1)] (pc' := 228) (L' := [zR 14 0]) (S' := [zI 1, zI 3, zR 14 0]) (σ' := σ9) (Ps := []) (by decide +kernel) rfl trivial ?_
                  refine r_callVI (As := [zI 3, zI 1]) (S := []) (Lc := [zR 14 0, zI 3, zI 1, zU, zU]) (d' := 1) (n := 2) (g := 14) (x := 0) (ci := 3) kX3_number vX3_number lkX3_60 (by decide +kernel) (by decide) rfl rfl (by decide) rfl rfl (Nat.le_of_ble_eq_true rfl) rfl rfl (Nat.le_of_ble_eq_true rfl) (h.monoI (fun z11 σ10 h => ?_))
                  refine r_if_eq (off := 16) (tgt := 247) (by decide +kernel) (by decide) (fun c => ?_) (fun c => ?_)
                  · replace h := h.1 c
                    refine r_blk [qO (.iconst 0)] (pc' := 248) (L' := [zR 14 0]) (S' := [zI 0]) (σ' := σ10) (Ps := []) (by decide +kernel) rfl trivial ?_
                    exact r_retz (by decide +kernel) rfl (by decide) h
                  · replace h := h.2 c
                    refine r_blk [qO (.aload_n 0), qO (.bipush 59)] (pc' := 237) (L' := [zR 14 0]) (S' := [zI 59, zR 14 0]) (σ' := σ10) (Ps := []) (by decide +kernel) rfl trivial ?_
                    refine r_callVI (As := [zI 59]) (S := []) (Lc := [zR 14 0, zI 59]) (d' := 1) (n := 1) (g := 14) (x := 0) (ci := 3) kX3_sign vX3_sign lkX3_64 (by decide +kernel) (by decide) rfl rfl (by decide) rfl rfl (Nat.le_of_ble_eq_true rfl) rfl rfl (Nat.le_of_ble_eq_true rfl) (pX3_sign h.1 h.2.1 (fun c => ?_) (fun c => ?_))
                    all_goals replace h := h.2.2
                    · replace h := h.1 c
                      generalize hσ12 : zup σ10 14 0 2 (σ10 14 0 2 + 1) = σ12
                      replace h := h σ12 hσ12.symm
                      refine r_if_eq (off := 7) (tgt := 247) (by decide +kernel) (by decide) (fun c => ?_) (fun c => ?_)
                      · exact absurd c (by decide)
                      · refine r_blk [qO (.iconst 1), qO (.goto 4)] (pc' := 248) (L' := [zR 14 0]) (S' := [zI 1]) (σ' := σ12) (Ps := []) (by decide +kernel) rfl trivial ?_
                        exact r_retz (by decide +kernel) rfl (by decide) h
                    · replace h := h.2 c
                      refine r_if_eq (off := 7) (tgt := 247) (by decide +kernel) (by decide) (fun c => ?_) (fun c => ?_)
                      · refine r_blk [qO (.iconst 0)] (pc' := 248) (L' := [zR 14 0]) (S' := [zI 0]) (σ' := σ10) (Ps := []) (by decide +kernel) rfl trivial ?_
                        exact r_retz (by decide +kernel) rfl (by decide) h
                      · exact absurd c (by decide)
              · replace h := h.2 c
                refine r_if_eq (off := 25) (tgt := 247) (by decide +kernel) (by decide) (fun c => ?_) (fun c => ?_)
                · refine r_blk [qO (.iconst 0)] (pc' := 248) (L' := [zR 14 0]) (S' := [zI 0]) (σ' := σ7) (Ps := []) (by decide +kernel) rfl trivial ?_
                  exact r_retz (by decide +kernel) rfl (by decide) h
                · exact absurd c (by decide)
        · replace h := h.2 c
          refine r_if_eq (off := 43) (tgt := 247) (by decide +kernel) (by decide) (fun c => ?_) (fun c => ?_)
          · refine r_blk [qO (.iconst 0)] (pc' := 248) (L' := [zR 14 0]) (S' := [zI 0]) (σ' := σ4) (Ps := []) (by decide +kernel) rfl trivial ?_
            exact r_retz (by decide +kernel) rfl (by decide) h
          · exact absurd c (by decide)
  replace h := h.2
  by_cases c107 : zbyte (zup σ 14 0 4 (σ 14 0 2)) (σ 14 0 2) = 107
  · replace h := h.1 c107
    refine r_lookup (dflt := 274) (ps := #[(101, 143), (107, 41), (109, 222), (115, 75)]) (len := 41) (off := 41) (tgt := 68) (by decide +kernel) (by decide +kernel) (by rw [c107]; decide) (by decide) ?_
    refine r_blk [qO (.aload_n 0), qO .dup, qF (.getfield 34) 3 2, qO (.iconst 1), qO .iadd, qF (.putfield 34) 3 2, qO (.aload_n 0), qO (.iconst 0), qO (.iconst 2)] (pc' := 81) (L' := [zR 14 0]) (S' := [zI 2, zI 0, zR 14 0]) (σ' := (zup σ1 14 0 2 ((σ1 14 0 2) + 1))) (Ps := [-2147483648 ≤ (σ1 14 0 2) + 1 ∧ (σ1 14 0 2) + 1 ≤ 2147483647]) (by decide +kernel) rfl ⟨h.1, trivial⟩ ?_
    replace h := h.2
    refine r_callVI (As := [zI 0, zI 2]) (S := []) (Lc := [zR 14 0, zI 0, zI 2, zU, zU]) (d' := 1) (n := 2) (g := 14) (x := 0) (ci := 3) kX3_number vX3_number lkX3_60 (by decide +kernel) (by decide) rfl rfl (by decide) rfl rfl (Nat.le_of_ble_eq_true rfl) rfl rfl (Nat.le_of_ble_eq_true rfl) (h.monoI (fun z14 σ13 h => ?_))
    refine r_if_eq (off := 16) (tgt := 100) (by decide +kernel) (by decide) (fun c => ?_) (fun c => ?_)
    · replace h := h.1 c
      refine r_blk [qO (.iconst 0)] (pc' := 101) (L' := [zR 14 0]) (S' := [zI 0]) (σ' := σ13) (Ps := []) (by decide +kernel) rfl trivial ?_
      exact r_retz (by decide +kernel) rfl (by decide) h
    · replace h := h.2 c
      refine r_blk [qO (.aload_n 0), qO (.bipush 59)] (pc' := 90) (L' := [zR 14 0]) (S' := [zI 59, zR 14 0]) (σ' := σ13) (Ps := []) (by decide +kernel) rfl trivial ?_
      refine r_callVI (As := [zI 59]) (S := []) (Lc := [zR 14 0, zI 59]) (d' := 1) (n := 1) (g := 14) (x := 0) (ci := 3) kX3_sign vX3_sign lkX3_64 (by decide +kernel) (by decide) rfl rfl (by decide) rfl rfl (Nat.le_of_ble_eq_true rfl) rfl rfl (Nat.le_of_ble_eq_true rfl) (pX3_sign h.1 h.2.1 (fun c => ?_) (fun c => ?_))
      all_goals replace h := h.2.2
      · replace h := h.1 c
        generalize hσ15 : zup σ13 14 0 2 (σ13 14 0 2 + 1) = σ15
        replace h := h σ15 hσ15.symm
        refine r_if_eq (off := 7) (tgt := 100) (by decide +kernel) (by decide) (fun c => ?_) (fun c => ?_)
        · exact absurd c (by decide)
        · refine r_blk [qO (.iconst 1), qO (.goto 4)] (pc' := 101) (L' := [zR 14 0]) (S' := [zI 1]) (σ' := σ15) (Ps := []) (by decide +kernel) rfl trivial ?_
          exact r_retz (by decide +kernel) rfl (by decide) h
      · replace h := h.2 c
        refine r_if_eq (off := 7) (tgt := 100) (by decide +kernel) (by decide) (fun c => ?_) (fun c => ?_)
        · refine r_blk [qO (.iconst 0)] (pc' := 101) (L' := [zR 14 0]) (S' := [zI 0]) (σ' := σ13) (Ps := []) (by decide +kernel) rfl trivial ?_
          exact r_retz (by decide +kernel) rfl (by decide) h
        · exact absurd c (by decide)
  replace h := h.2
  by_cases c109 : zbyte (zup σ 14 0 4 (σ 14 0 2)) (σ 14 0 2) = 109
  · replace h := h.1 c109
    refine r_lookup (dflt := 274) (ps := #[(101, 143), (107, 41), (109, 222), (115, 75)]) (len := 41) (off := 222) (tgt := 249) (by decide +kernel) (by decide +kernel) (by rw [c109]; decide) (by decide) ?_
    refine r_blk [qO (.aload_n 0), qO .dup, qF (.getfield 34) 3 2, qO (.iconst 1), qO .iadd, qF (.putfield 34) 3 2, qO (.aload_n 0), qO (.iconst 0), qO (.iconst 2)] (pc' := 262) (L' := [zR 14 0]) (S' := [zI 2, zI 0, zR 14 0]) (σ' := (zup σ1 14 0 2 ((σ1 14 0 2) + 1))) (Ps := [-2147483648 ≤ (σ1 14 0 2) + 1 ∧ (σ1 14 0 2) + 1 ≤ 2147483647]) (by decide +kernel) rfl ⟨h.1, trivial⟩ ?_
    replace h := h.2
    refine r_callVI (As := [zI 0, zI 2]) (S := []) (Lc := [zR 14 0, zI 0, zI 2, zU, zU]) (d' := 1) (n := 2) (g := 14) (x := 0) (ci := 3) kX3_number vX3_number lkX3_60 (by decide +kernel) (by decide) rfl rfl (by decide) rfl rfl (Nat.le_of_ble_eq_true rfl) rfl rfl (Nat.le_of_ble_eq_true rfl) (h.monoI (fun z17 σ16 h => ?_))
    refine r_if_eq (off := 34) (tgt := 299) (by decide +kernel) (by decide) (fun c => ?_) (fun c => ?_)
    · replace h := h.1 c
      refine r_blk [qO (.iconst 0)] (pc' := 300) (L' := [zR 14 0]) (S' := [zI 0]) (σ' := σ16) (Ps := []) (by decide +kernel) rfl trivial ?_
      exact r_retz (by decide +kernel) rfl (by decide) h
    · replace h := h.2 c
      refine r_blk [qO (.aload_n 0), qO (.bipush 44)] (pc' := 271) (L' := [zR 14 0]) (S' := [zI 44, zR 14 0]) (σ' := σ16) (Ps := []) (by decide +kernel) rfl trivial ?_
      refine r_callVI (As := [zI 44]) (S := []) (Lc := [zR 14 0, zI 44]) (d' := 1) (n := 1) (g := 14) (x := 0) (ci := 3) kX3_sign vX3_sign lkX3_64 (by decide +kernel) (by decide) rfl rfl (by decide) rfl rfl (Nat.le_of_ble_eq_true rfl) rfl rfl (Nat.le_of_ble_eq_true rfl) (pX3_sign h.1 h.2.1 (fun c => ?_) (fun c => ?_))
      all_goals replace h := h.2.2
      · replace h := h.1 c
        generalize hσ18 : zup σ16 14 0 2 (σ16 14 0 2 + 1) = σ18
        replace h := h σ18 hσ18.symm
        refine r_if_eq (off := 25) (tgt := 299) (by decide +kernel) (by decide) (fun c => ?_) (fun c => ?_)
        · exact absurd c (by decide)
        · refine r_blk [qO (.aload_n 0), qO (.iconst 1), qO (.iconst 1)] (pc' := 280) (L' := [zR 14 0]) (S' := [zI 1, zI 1, zR 14 0]) (σ' := σ18) (Ps := []) (by decide +kernel) rfl trivial ?_
          refine r_callVI (As := [zI 1, zI 1]) (S := []) (Lc := [zR 14 0, zI 1, zI 1, zU, zU]) (d' := 1) (n := 2) (g := 14) (x := 0) (ci := 3) kX3_number vX3_number lkX3_60 (by decide +kernel) (by decide) rfl rfl (by decide) rfl rfl (Nat.le_of_ble_eq_true rfl) rfl rfl (Nat.le_of_ble_eq_true rfl) (h.monoI (fun z20 σ19 h => ?_))
          refine r_if_eq (off := 16) (tgt := 299) (by decide +kernel) (by decide) (fun c => ?_) (fun c => ?_)
          · replace h := h.1 c
            refine r_blk [qO (.iconst 0)] (pc' := 300) (L' := [zR 14 0]) (S' := [zI 0]) (σ' := σ19) (Ps := []) (by decide +kernel) rfl trivial ?_
            exact r_retz (by decide +kernel) rfl (by decide) h
          · replace h := h.2 c
            refine r_blk [qO (.aload_n 0), qO (.bipush 59)] (pc' := 289) (L' := [zR 14 0]) (S' := [zI 59, zR 14 0]) (σ' := σ19) (Ps := []) (by decide +kernel) rfl trivial ?_
            refine r_callVI (As := [zI 59]) (S := []) (Lc := [zR 14 0, zI 59]) (d' := 1) (n := 1) (g := 14) (x := 0) (ci := 3) kX3_sign vX3_sign lkX3_64 (by decide +kernel) (by decide) rfl rfl (by decide) rfl rfl (Nat.le_of_ble_eq_true rfl) rfl rfl (Nat.le_of_ble_eq_true rfl) (pX3_sign h.1 h.2.1 (fun c => ?_) (fun c => ?_))
            all_goals replace h := h.2.2
            · replace h := h.1 c
              generalize hσ21 : zup σ19 14 0 2 (σ19 14 0 2 + 1) = σ21
              replace h := h σ21 hσ21.symm
              refine r_if_eq (off := 7) (tgt := 299) (by decide +kernel) (by decide) (fun c => ?_) (fun c => ?_)
              · exact absurd c (by decide)
              · refine r_blk [qO (.iconst 1), qO (.goto 4)] (pc' := 300) (L' := [zR 14 0]) (S' := [zI 1]) (σ' := σ21) (Ps := []) (by decide +kernel) rfl trivial ?_
                exact r_retz (by decide +kernel) rfl (by decide) h
            · replace h := h.2 c
              refine r_if_eq (off := 7) (tgt := 299) (by decide +kernel) (by decide) (fun c => ?_) (fun c => ?_)
              · refine r_blk [qO (.iconst 0)] (pc' := 300) (L' := [zR 14 0]) (S' := [zI 0]) (σ' := σ19) (Ps := []) (by decide +kernel) rfl trivial ?_
                exact r_retz (by decide +kernel) rfl (by decide) h
              · exact absurd c (by decide)
      · replace h := h.2 c
        refine r_if_eq (off := 25) (tgt := 299) (by decide +kernel) (by decide) (fun c => ?_) (fun c => ?_)
        · refine r_blk [qO (.iconst 0)] (pc' := 300) (L' := [zR 14 0]) (S' := [zI 0]) (σ' := σ16) (Ps := []) (by decide +kernel) rfl trivial ?_
          exact r_retz (by decide +kernel) rfl (by decide) h
        · exact absurd c (by decide)
  replace h := h.2
  by_cases c115 : zbyte (zup σ 14 0 4 (σ 14 0 2)) (σ 14 0 2) = 115
  · replace h := h.1 c115
    refine r_lookup (dflt := 274) (ps := #[(101, 143), (107, 41), (109, 222), (115, 75)]) (len := 41) (off := 75) (tgt := 102) (by decide +kernel) (by decide +kernel) (by rw [c115]; decide) (by decide) ?_
    refine r_blk [qO (.aload_n 0), qO .dup, qF (.getfield 34) 3 2, qO (.iconst 1), qO .iadd, qF (.putfield 34) 3 2, qO (.aload_n 0), qO (.iconst 0), qO (.iconst 1)] (pc' := 115) (L' := [zR 14 0]) (S' := [zI 1, zI 0, zR 14 0]) (σ' := (zup σ1 14 0 2 ((σ1 14 0 2) + 1))) (Ps := [-2147483648 ≤ (σ1 14 0 2) + 1 ∧ (σ1 14 0 2) + 1 ≤ 2147483647]) (by decide +kernel) rfl ⟨h.1, trivial⟩ ?_
    replace h := h.2
    refine r_callVI (As := [zI 0, zI 1]) (S := []) (Lc := [zR 14 0, zI 0, zI 1, zU, zU]) (d' := 1) (n := 2) (g := 14) (x := 0) (ci := 3) kX3_number vX3_number lkX3_60 (by decide +kernel) (by decide) rfl rfl (by decide) rfl rfl (Nat.le_of_ble_eq_true rfl) rfl rfl (Nat.le_of_ble_eq_true rfl) (h.monoI (fun z23 σ22 h => ?_))
    refine r_if_eq (off := 50) (tgt := 168) (by decide +kernel) (by decide) (fun c => ?_) (fun c => ?_)
    · replace h := h.1 c
      refine r_blk [qO (.iconst 0)] (pc' := 169) (L' := [zR 14 0]) (S' := [zI 0]) (σ' := σ22) (Ps := []) (by decide +kernel) rfl trivial ?_
      exact r_retz (by decide +kernel) rfl (by decide) h
    · replace h := h.2 c
      refine r_blk [qO (.aload_n 0), qO (.iconst 1), qO (.iconst 1)] (pc' := 124) (L' := [zR 14 0]) (S' := [zI 1, zI 1, zR 14 0]) (σ' := σ22) (Ps := []) (by decide +kernel) rfl trivial ?_
      refine r_callVI (As := [zI 1, zI 1]) (S := []) (Lc := [zR 14 0, zI 1, zI 1, zU, zU]) (d' := 1) (n := 2) (g := 14) (x := 0) (ci := 3) kX3_number vX3_number lkX3_60 (by decide +kernel) (by decide) rfl rfl (by decide) rfl rfl (Nat.le_of_ble_eq_true rfl) rfl rfl (Nat.le_of_ble_eq_true rfl) (h.monoI (fun z25 σ24 h => ?_))
      refine r_if_eq (off := 41) (tgt := 168) (by decide +kernel) (by decide) (fun c => ?_) (fun c => ?_)
      · replace h := h.1 c
        refine r_blk [qO (.iconst 0)] (pc' := 169) (L' := [zR 14 0]) (S' := [zI 0]) (σ' := σ24) (Ps := []) (by decide +kernel) rfl trivial ?_
        exact r_retz (by decide +kernel) rfl (by decide) h
      · replace h := h.2 c
        refine r_blk [qO (.aload_n 0), qO (.bipush 44)] (pc' := 133) (L' := [zR 14 0]) (S' := [zI 44, zR 14 0]) (σ' := σ24) (Ps := []) (by decide +kernel) rfl trivial ?_
        refine r_callVI (As := [zI 44]) (S := []) (Lc := [zR 14 0, zI 44]) (d' := 1) (n := 1) (g := 14) (x := 0) (ci := 3) kX3_sign vX3_sign lkX3_64 (by decide +kernel) (by decide) rfl rfl (by decide) rfl rfl (Nat.le_of_ble_eq_true rfl) rfl rfl (Nat.le_of_ble_eq_true rfl) (pX3_sign h.1 h.2.1 (fun c => ?_) (fun c => ?_))
        all_goals replace h := h.2.2
        · replace h := h.1 c
          generalize hσ26 : zup σ24 14 0 2 (σ24 14 0 2 + 1) = σ26
          replace h := h σ26 hσ26.symm
          refine r_if_eq (off := 32) (tgt := 168) (by decide +kernel) (by decide) (fun c => ?_) (fun c => ?_)
          · exact absurd c (by decide)
          · refine r_blk [qO (.aload_n 0), qO (.iconst 2), qO (.iconst 2)] (pc' := 142) (L' := [zR 14 0]) (S' := [zI 2, zI 2, zR 14 0]) (σ' := σ26) (Ps := []) (by decide +kernel) rfl trivial ?_
            refine r_callVI (As := [zI 2, zI 2]) (S := []) (Lc := [zR 14 0, zI 2, zI 2, zU, zU]) (d' := 1) (n := 2) (g := 14) (x := 0) (ci := 3) kX3_number vX3_number lkX3_60 (by decide +kernel) (by decide) rfl rfl (by decide) rfl rfl (Nat.le_of_ble_eq_true rfl) rfl rfl (Nat.le_of_ble_eq_true rfl) (h.monoI (fun z28 σ27 h => ?_))
            refine r_if_eq (off := 23) (tgt := 168) (by decide +kernel) (by decide) (fun c => ?_) (fun c => ?_)
            · replace h := h.1 c
              refine r_blk [qO (.iconst 0)] (pc' := 169) (L' := [zR 14 0]) (S' := [zI 0]) (σ' := σ27) (Ps := []) (by decide +kernel) rfl trivial ?_
              exact r_retz (by decide +kernel) rfl (by decide) h
            · replace h := h.2 c
              refine r_blk [qO (.aload_n 0)] (pc' := 149) (L' := [zR 14 0]) (S' := [zR 14 0]) (σ' := σ27) (Ps := []) (by decide +kernel) rfl trivial ?_
              refine r_callVI (As := []) (S := []) (Lc := [zR 14 0]) (d' := 2) (n := 0) (g := 14) (x := 0) (ci := 3) kX3_broadOrNot vX3_broadOrNot lkX3_68 (by decide +kernel) (by decide) rfl rfl (by decide) rfl rfl (Nat.le_of_ble_eq_true rfl) rfl rfl (Nat.le_of_ble_eq_true rfl) (h.monoI (fun z30 σ29 h => ?_))
              refine r_if_eq (off := 16) (tgt := 168) (by decide +kernel) (by decide) (fun c => ?_) (fun c => ?_)
              · replace h := h.1 c
                refine r_blk [qO (.iconst 0)] (pc' := 169) (L' := [zR 14 0]) (S' := [zI 0]) (σ' := σ29) (Ps := []) (by decide +kernel) rfl trivial ?_
                exact r_retz (by decide +kernel) rfl (by decide) h
              · replace h := h.2 c
                refine r_blk [qO (.aload_n 0), qO (.bipush 59)] (pc' := 158) (L' := [zR 14 0]) (S' := [zI 59, zR 14 0]) (σ' := σ29) (Ps := []) (by decide +kernel) rfl trivial ?_
                refine r_callVI (As := [zI 59]) (S := []) (Lc := [zR 14 0, zI 59]) (d' := 1) (n := 1) (g := 14) (x := 0) (ci := 3) kX3_sign vX3_sign lkX3_64 (by decide +kernel) (by decide) rfl rfl (by decide) rfl rfl (Nat.le_of_ble_eq_true rfl) rfl rfl (Nat.le_of_ble_eq_true rfl) (pX3_sign h.1 h.2.1 (fun c => ?_) (fun c => ?_))
                all_goals replace h := h.2.2
                · replace h := h.1 c
                  generalize hσ31 : zup σ29 14 0 2 (σ29 14 0 2 + 1) = σ31
                  replace h := h σ31 hσ31.symm
                  refine r_if_eq (off := 7) (tgt := 168) (by decide +kernel) (by decide) (fun c => ?_) (fun c => ?_)
                  · exact absurd c (by decide)
                  · refine r_blk [qO (.iconst 1), qO (.goto 4)] (pc' := 169) (L' := [zR 14 0]) (S' := [zI 1]) (σ' := σ31) (Ps := []) (by decide +kernel) rfl trivial ?_
                    exact r_retz (by decide +kernel) rfl (by decide) h
                · replace h := h.2 c
                  refine r_if_eq (off := 7) (tgt := 168) (by decide +kernel) (by decide) (fun c => ?_) (fun c => ?_)
                  · refine r_blk [qO (.iconst 0)] (pc' := 169) (L' := [zR 14 0]) (S' := [zI 0]) (σ' := σ29) (Ps := []) (by decide +kernel) rfl trivial ?_
                    exact r_retz (by decide +kernel) rfl (by decide) h
                  · exact absurd c (by decide)
        · replace h := h.2 c
          refine r_if_eq (off := 32) (tgt := 168) (by decide +kernel) (by decide) (fun c => ?_) (fun c => ?_)
          · refine r_blk [qO (.iconst 0)] (pc' := 169) (L' := [zR 14 0]) (S' := [zI 0]) (σ' := σ24) (Ps := []) (by decide +kernel) rfl trivial ?_
            exact r_retz (by decide +kernel) rfl (by decide) h
          · exact absurd c (by decide)
  replace h := h.2
  replace h := h ⟨c101, c107, c109, c115⟩
  refine r_lookup (dflt := 274) (ps := #[(101, 143), (107, 41), (109, 222), (115, 75)]) (len := 41) (off := 274) (tgt := 301) (by decide +kernel) (by decide +kernel) (by simp [Op.lookupswitch.offset, Ne.symm c101, Ne.symm c107, Ne.symm c109, Ne.symm c115]) (by decide) ?_
  refine r_blk [qO (.iconst 0)] (pc' := 302) (L' := [zR 14 0]) (S' := [zI 0]) (σ' := σ1) (Ps := []) (by decide +kernel) rfl trivial ?_
  exact r_retz (by decide +kernel) rfl (by decide) h
theorem gX3_statementsWritten_0 (σ : Hp) {Q : Option Int → Hp → Prop} (h : Runs 4 mX3_statementsWritten 7 [zR 14 0, zI 0] [] (zup σ 14 0 2 0) Q) : Runs 4 mX3_statementsWritten 0 [zR 14 0, zU] [] σ Q := by
  refine r_blk [qO (.aload_n 0), qO (.iconst 0), qF (.putfield 34) 3 2, qO (.iconst 0), qO (.istore_n 1)] (pc' := 7) (L' := [zR 14 0, zI 0]) (S' := []) (σ' := (zup σ 14 0 2 0)) (Ps := []) (by decide +kernel) rfl trivial ?_
  exact Runs.fg (fgE (fgE fg0)) h
theorem gX3_statementsWritten_7 (l1 : Int) (σ : Hp) {Q : Option Int → Hp → Prop} (h : ((64 < l1 → (-2147483648 ≤ (-1000) - (σ 14 0 2) ∧ (-1000) - (σ 14 0 2) ≤ 2147483647) ∧ Q (some ((-1000) - (σ 14 0 2))) σ) ∧ (¬ 64 < l1 → ((l1 ≤ 0 → Runs 3 mX3_readStatement 0 [zR 14 0] [] σ (rI (fun z2 σ1 => ((¬ z2 = 0 → (-2147483648 ≤ l1 + 1 ∧ l1 + 1 ≤ 2147483647) ∧ Runs 4 mX3_statementsWritten 7 [zR 14 0, zI (l1 + 1)] [] σ1 Q) ∧ (z2 = 0 → (-2147483648 ≤ (-1000) - (σ1 14 0 2) ∧ (-1000) - (σ1 14 0 2) ≤ 2147483647) ∧ Q (some ((-1000) - (σ1 14 0 2))) σ1))))) ∧ (¬ l1 ≤ 0 → ((σ 14 0 2 < σ 12 0 1 → Runs 3 mX3_readStatement 0 [zR 14 0] [] σ (rI (fun z4 σ3 => ((¬ z4 = 0 → (-2147483648 ≤ l1 + 1 ∧ l1 + 1 ≤ 2147483647) ∧ Runs 4 mX3_statementsWritten 7 [zR 14 0, zI (l1 + 1)] [] σ3 Q) ∧ (z4 = 0 → (-2147483648 ≤ (-1000) - (σ3 14 0 2) ∧ (-1000) - (σ3 14 0 2) ≤ 2147483647) ∧ Q (some ((-1000) - (σ3 14 0 2))) σ3))))) ∧ (¬ σ 14 0 2 < σ 12 0 1 → Q (some l1) σ))))))) : Runs 4 mX3_statementsWritten 7 [zR 14 0, zI l1] [] σ Q := by
  refine r_blk [qO (.iload_n 1), qO (.bipush 64)] (pc' := 10) (L' := [zR 14 0, zI l1]) (S' := [zI 64, zI l1]) (σ' := σ) (Ps := []) (by decide +kernel) rfl trivial ?_
  refine r_icmp_gt (off := 39) (tgt := 49) (by decide +kernel) (by decide) (fun c => ?_) (fun c => ?_)
  · replace h := h.1 c
    refine r_blk [qO (.sipush (-1000)), qO (.aload_n 0), qF (.getfield 34) 3 2, qO .isub] (pc' := 57) (L' := [zR 14 0, zI l1]) (S' := [zI ((-1000) - (σ 14 0 2))]) (σ' := σ) (Ps := [-2147483648 ≤ (-1000) - (σ 14 0 2) ∧ (-1000) - (σ 14 0 2) ≤ 2147483647]) (by decide +kernel) rfl ⟨h.1, trivial⟩ ?_
    replace h := h.2
    exact r_ret (by decide +kernel) rfl (fun _ => h)
  · replace h := h.2 c
    refine r_blk [qO (.iload_n 1)] (pc' := 14) (L' := [zR 14 0, zI l1]) (S' := [zI l1]) (σ' := σ) (Ps := []) (by decide +kernel) rfl trivial ?_
    refine r_if_le (off := 19) (tgt := 33) (by decide +kernel) (by decide) (fun c => ?_) (fun c => ?_)
    · replace h := h.1 c
      refine r_blk [qO (.aload_n 0)] (pc' := 34) (L' := [zR 14 0, zI l1]) (S' := [zR 14 0]) (σ' := σ) (Ps := []) (by decide +kernel) rfl trivial ?_
      refine r_callVI (As := []) (S := []) (Lc := [zR 14 0]) (d' := 3) (n := 0) (g := 14) (x := 0) (ci := 3) kX3_readStatement vX3_readStatement lkX3_38 (by decide +kernel) (by decide) rfl rfl (by decide) rfl rfl (Nat.le_of_ble_eq_true rfl) rfl rfl (Nat.le_of_ble_eq_true rfl) (h.monoI (fun z2 σ1 h => ?_))
      refine r_if_ne (off := 6) (tgt := 43) (by decide +kernel) (by decide) (fun c => ?_) (fun c => ?_)
      · replace h := h.1 c
        refine r_blk [qO (.iinc 1 1), qO (.goto (-39))] (pc' := 7) (L' := [zR 14 0, zI (l1 + 1)]) (S' := []) (σ' := σ1) (Ps := [-2147483648 ≤ l1 + 1 ∧ l1 + 1 ≤ 2147483647]) (by decide +kernel) rfl ⟨h.1, trivial⟩ ?_
        replace h := h.2
        exact Runs.fg (fgE (fgE fg0)) h
      · replace h := h.2 c
        refine r_blk [qO (.goto 9), qO (.sipush (-1000)), qO (.aload_n 0), qF (.getfield 34) 3 2, qO .isub] (pc' := 57) (L' := [zR 14 0, zI l1]) (S' := [zI ((-1000) - (σ1 14 0 2))]) (σ' := σ1) (Ps := [-2147483648 ≤ (-1000) - (σ1 14 0 2) ∧ (-1000) - (σ1 14 0 2) ≤ 2147483647]) (by decide +kernel) rfl ⟨h.1, trivial⟩ ?_
        replace h := h.2
        exact r_ret (by decide +kernel) rfl (fun _ => h)
    · replace h := h.2 c
      refine r_blk [qO (.aload_n 0), qF (.getfield 34) 3 2, qO (.aload_n 0), qF (.getfield 22) 3 0, qF (.getfield 48) 5 1] (pc' := 28) (L' := [zR 14 0, zI l1]) (S' := [zI (σ 12 0 1), zI (σ 14 0 2)]) (σ' := σ) (Ps := []) (by decide +kernel) rfl trivial ?_
      refine r_icmp_lt (off := 5) (tgt := 33) (by decide +kernel) (by decide) (fun c => ?_) (fun c => ?_)
      · replace h := h.1 c
        refine r_blk [qO (.aload_n 0)] (pc' := 34) (L' := [zR 14 0, zI l1]) (S' := [zR 14 0]) (σ' := σ) (Ps := []) (by decide +kernel) rfl trivial ?_
        refine r_callVI (As := []) (S := []) (Lc := [zR 14 0]) (d' := 3) (n := 0) (g := 14) (x := 0) (ci := 3) kX3_readStatement vX3_readStatement lkX3_38 (by decide +kernel) (by decide) rfl rfl (by decide) rfl rfl (Nat.le_of_ble_eq_true rfl) rfl rfl (Nat.le_of_ble_eq_true rfl) (h.monoI (fun z4 σ3 h => ?_))
        refine r_if_ne (off := 6) (tgt := 43) (by decide +kernel) (by decide) (fun c => ?_) (fun c => ?_)
        · replace h := h.1 c
          refine r_blk [qO (.iinc 1 1), qO (.goto (-39))] (pc' := 7) (L' := [zR 14 0, zI (l1 + 1)]) (S' := []) (σ' := σ3) (Ps := [-2147483648 ≤ l1 + 1 ∧ l1 + 1 ≤ 2147483647]) (by decide +kernel) rfl ⟨h.1, trivial⟩ ?_
          replace h := h.2
          exact Runs.fg (fgE (fgE fg0)) h
        · replace h := h.2 c
          refine r_blk [qO (.goto 9), qO (.sipush (-1000)), qO (.aload_n 0), qF (.getfield 34) 3 2, qO .isub] (pc' := 57) (L' := [zR 14 0, zI l1]) (S' := [zI ((-1000) - (σ3 14 0 2))]) (σ' := σ3) (Ps := [-2147483648 ≤ (-1000) - (σ3 14 0 2) ∧ (-1000) - (σ3 14 0 2) ≤ 2147483647]) (by decide +kernel) rfl ⟨h.1, trivial⟩ ?_
          replace h := h.2
          exact r_ret (by decide +kernel) rfl (fun _ => h)
      · replace h := h.2 c
        refine r_blk [qO (.iload_n 1)] (pc' := 32) (L' := [zR 14 0, zI l1]) (S' := [zI l1]) (σ' := σ) (Ps := []) (by decide +kernel) rfl trivial ?_
        exact r_ret (by decide +kernel) rfl (fun _ => h)
theorem gX3_tell_0 (σ : Hp) {Q : Option Int → Hp → Prop} (h : ((σ 14 0 3 = 101 → Runs 2 mX6_tellErrand 0 [zR 1 2, zI (σ 15 0 0), zI (σ 15 0 1), zI (σ 15 0 2), zI (σ 15 0 3)] [] σ (rI (fun z2 σ1 => (z2 = 0 ∨ z2 = 1) ∧ Q (some z2) σ1))) ∧ (σ 14 0 3 = 107 → Runs 2 mX6_tellCorners 0 [zR 1 2, zI (σ 15 0 0)] [] σ (rI (fun z4 σ3 => (z4 = 0 ∨ z4 = 1) ∧ Q (some z4) σ3))) ∧ (σ 14 0 3 = 109 → Runs 1 mX6_tellMust 0 [zR 1 2, zI (σ 15 0 0), zI (σ 15 0 1)] [] σ (rI (fun z6 σ5 => (z6 = 0 ∨ z6 = 1) ∧ Q (some z6) σ5))) ∧ (σ 14 0 3 = 115 → Runs 2 mX6_tellStreet 0 [zR 1 2, zI (σ 15 0 0), zI (σ 15 0 1), zI (σ 15 0 2), zI (σ 14 0 6)] [] σ (rI (fun z8 σ7 => (z8 = 0 ∨ z8 = 1) ∧ Q (some z8) σ7))) ∧ (¬ σ 14 0 3 = 101 ∧ ¬ σ 14 0 3 = 107 ∧ ¬ σ 14 0 3 = 109 ∧ ¬ σ 14 0 3 = 115 → Q (some 0) σ))) : Runs 3 mX3_tell 0 [zR 14 0] [] σ Q := by
  refine r_blk [qO (.aload_n 0), qF (.getfield 57) 3 3] (pc' := 4) (L' := [zR 14 0]) (S' := [zI (σ 14 0 3)]) (σ' := σ) (Ps := []) (by decide +kernel) rfl trivial ?_
  by_cases c101 : σ 14 0 3 = 101
  · replace h := h.1 c101
    refine r_lookup (dflt := 140) (ps := #[(101, 88), (107, 44), (109, 120), (115, 58)]) (len := 44) (off := 88) (tgt := 92) (by decide +kernel) (by decide +kernel) (by rw [c101]; decide) (by decide) ?_
    refine r_blk [qO (.aload_n 0), qF (.getfield 12) 3 1, qO (.aload_n 0), qF (.getfield 18) 3 5, qO (.iconst 0), qO .iaload, qO (.aload_n 0), qF (.getfield 18) 3 5, qO (.iconst 1), qO .iaload, qO (.aload_n 0), qF (.getfield 18) 3 5, qO (.iconst 2), qO .iaload, qO (.aload_n 0), qF (.getfield 18) 3 5, qO (.iconst 3), qO .iaload] (pc' := 120) (L' := [zR 14 0]) (S' := [zI (σ 15 0 3), zI (σ 15 0 2), zI (σ 15 0 1), zI (σ 15 0 0), zR 1 2]) (σ' := σ) (Ps := [0 ≤ 0 ∧ 0 < 4, 0 ≤ 1 ∧ 1 < 4, 0 ≤ 2 ∧ 2 < 4, 0 ≤ 3 ∧ 3 < 4]) (by decide +kernel) rfl ⟨(by decide), (by decide), (by decide), (by decide), trivial⟩ ?_
    refine r_callVI (As := [zI (σ 15 0 0), zI (σ 15 0 1), zI (σ 15 0 2), zI (σ 15 0 3)]) (S := []) (Lc := [zR 1 2, zI (σ 15 0 0), zI (σ 15 0 1), zI (σ 15 0 2), zI (σ 15 0 3)]) (d' := 2) (n := 4) (g := 1) (x := 2) (ci := 6) kX6_tellErrand vX6_tellErrand lkX3_86 (by decide +kernel) (by decide) rfl rfl (by decide) rfl rfl (Nat.le_of_ble_eq_true rfl) rfl rfl (Nat.le_of_ble_eq_true rfl) (h.monoI (fun z2 σ1 h => ?_))
    exact r_retz (by decide +kernel) rfl h.1 h.2
  replace h := h.2
  by_cases c107 : σ 14 0 3 = 107
  · replace h := h.1 c107
    refine r_lookup (dflt := 140) (ps := #[(101, 88), (107, 44), (109, 120), (115, 58)]) (len := 44) (off := 44) (tgt := 48) (by decide +kernel) (by decide +kernel) (by rw [c107]; decide) (by decide) ?_
    refine r_blk [qO (.aload_n 0), qF (.getfield 12) 3 1, qO (.aload_n 0), qF (.getfield 18) 3 5, qO (.iconst 0), qO .iaload] (pc' := 58) (L' := [zR 14 0]) (S' := [zI (σ 15 0 0), zR 1 2]) (σ' := σ) (Ps := [0 ≤ 0 ∧ 0 < 4]) (by decide +kernel) rfl ⟨(by decide), trivial⟩ ?_
    refine r_callVI (As := [zI (σ 15 0 0)]) (S := []) (Lc := [zR 1 2, zI (σ 15 0 0)]) (d' := 2) (n := 1) (g := 1) (x := 2) (ci := 6) kX6_tellCorners vX6_tellCorners lkX3_79 (by decide +kernel) (by decide) rfl rfl (by decide) rfl rfl (Nat.le_of_ble_eq_true rfl) rfl rfl (Nat.le_of_ble_eq_true rfl) (h.monoI (fun z4 σ3 h => ?_))
    exact r_retz (by decide +kernel) rfl h.1 h.2
  replace h := h.2
  by_cases c109 : σ 14 0 3 = 109
  · replace h := h.1 c109
    refine r_lookup (dflt := 140) (ps := #[(101, 88), (107, 44), (109, 120), (115, 58)]) (len := 44) (off := 120) (tgt := 124) (by decide +kernel) (by decide +kernel) (by rw [c109]; decide) (by decide) ?_
    refine r_blk [qO (.aload_n 0), qF (.getfield 12) 3 1, qO (.aload_n 0), qF (.getfield 18) 3 5, qO (.iconst 0), qO .iaload, qO (.aload_n 0), qF (.getfield 18) 3 5, qO (.iconst 1), qO .iaload] (pc' := 140) (L' := [zR 14 0]) (S' := [zI (σ 15 0 1), zI (σ 15 0 0), zR 1 2]) (σ' := σ) (Ps := [0 ≤ 0 ∧ 0 < 4, 0 ≤ 1 ∧ 1 < 4]) (by decide +kernel) rfl ⟨(by decide), (by decide), trivial⟩ ?_
    refine r_callVI (As := [zI (σ 15 0 0), zI (σ 15 0 1)]) (S := []) (Lc := [zR 1 2, zI (σ 15 0 0), zI (σ 15 0 1)]) (d' := 1) (n := 2) (g := 1) (x := 2) (ci := 6) kX6_tellMust vX6_tellMust lkX3_90 (by decide +kernel) (by decide) rfl rfl (by decide) rfl rfl (Nat.le_of_ble_eq_true rfl) rfl rfl (Nat.le_of_ble_eq_true rfl) (h.monoI (fun z6 σ5 h => ?_))
    exact r_retz (by decide +kernel) rfl h.1 h.2
  replace h := h.2
  by_cases c115 : σ 14 0 3 = 115
  · replace h := h.1 c115
    refine r_lookup (dflt := 140) (ps := #[(101, 88), (107, 44), (109, 120), (115, 58)]) (len := 44) (off := 58) (tgt := 62) (by decide +kernel) (by decide +kernel) (by rw [c115]; decide) (by decide) ?_
    refine r_blk [qO (.aload_n 0), qF (.getfield 12) 3 1, qO (.aload_n 0), qF (.getfield 18) 3 5, qO (.iconst 0), qO .iaload, qO (.aload_n 0), qF (.getfield 18) 3 5, qO (.iconst 1), qO .iaload, qO (.aload_n 0), qF (.getfield 18) 3 5, qO (.iconst 2), qO .iaload, qO (.aload_n 0), qF (.getfield 75) 3 6] (pc' := 88) (L' := [zR 14 0]) (S' := [zI (σ 14 0 6), zI (σ 15 0 2), zI (σ 15 0 1), zI (σ 15 0 0), zR 1 2]) (σ' := σ) (Ps := [0 ≤ 0 ∧ 0 < 4, 0 ≤ 1 ∧ 1 < 4, 0 ≤ 2 ∧ 2 < 4]) (by decide +kernel) rfl ⟨(by decide), (by decide), (by decide), trivial⟩ ?_
    refine r_callVI (As := [zI (σ 15 0 0), zI (σ 15 0 1), zI (σ 15 0 2), zI (σ 14 0 6)]) (S := []) (Lc := [zR 1 2, zI (σ 15 0 0), zI (σ 15 0 1), zI (σ 15 0 2), zI (σ 14 0 6)]) (d' := 2) (n := 4) (g := 1) (x := 2) (ci := 6) kX6_tellStreet vX6_tellStreet lkX3_82 (by decide +kernel) (by decide) rfl rfl (by decide) rfl rfl (Nat.le_of_ble_eq_true rfl) rfl rfl (Nat.le_of_ble_eq_true rfl) (h.monoI (fun z8 σ7 h => ?_))
    exact r_retz (by decide +kernel) rfl h.1 h.2
  replace h := h.2
  replace h := h ⟨c101, c107, c109, c115⟩
  refine r_lookup (dflt := 140) (ps := #[(101, 88), (107, 44), (109, 120), (115, 58)]) (len := 44) (off := 140) (tgt := 144) (by decide +kernel) (by decide +kernel) (by simp [Op.lookupswitch.offset, Ne.symm c101, Ne.symm c107, Ne.symm c109, Ne.symm c115]) (by decide) ?_
  refine r_blk [qO (.iconst 0)] (pc' := 145) (L' := [zR 14 0]) (S' := [zI 0]) (σ' := σ) (Ps := []) (by decide +kernel) rfl trivial ?_
  exact r_retz (by decide +kernel) rfl (by decide) h
theorem gX6_cornersToldOf_0 (t : Nat) (σ : Hp) {Q : Option Int → Hp → Prop} (h : Runs 1 mX6_cornersToldOf 4 [zR 1 t, zI (-1), zI 0] [] σ Q) : Runs 1 mX6_cornersToldOf 0 [zR 1 t, zU, zU] [] σ Q := by
  refine r_blk [qO (.iconst (-1)), qO (.istore_n 1), qO (.iconst 0), qO (.istore_n 2)] (pc' := 4) (L' := [zR 1 t, zI (-1), zI 0]) (S' := []) (σ' := σ) (Ps := []) (by decide +kernel) rfl trivial ?_
  exact Runs.fg (fgE (fgE (fgE fg0))) h
theorem gX6_cornersToldOf_4 (l1 : Int) (l2 : Int) (t : Nat) (σ : Hp) {Q : Option Int → Hp → Prop} (h : ((σ 1 t 1 ≤ l2 → Runs 1 mX6_cornersToldOf 40 [zR 1 t, zI l1, zI 0] [] σ Q) ∧ (¬ σ 1 t 1 ≤ l2 → (0 ≤ l2 ∧ l2 < 14) ∧ (0 ≤ l2 ∧ l2 < 14) ∧ ∀ z1 : Int, z1 = (if σ 2 t l2.toNat < σ 3 t l2.toNat then σ 3 t l2.toNat else σ 2 t l2.toNat) → (-2147483648 ≤ l2 + 1 ∧ l2 + 1 ≤ 2147483647) ∧ Runs 1 mX6_cornersToldOf 4 [zR 1 t, zI (if l1 < z1 then z1 else l1), zI (l2 + 1)] [] σ Q))) : Runs 1 mX6_cornersToldOf 4 [zR 1 t, zI l1, zI l2] [] σ Q := by
  refine r_blk [qO (.iload_n 2), qO (.aload_n 0), qF (.getfield 46) 6 1] (pc' := 9) (L' := [zR 1 t, zI l1, zI l2]) (S' := [zI (σ 1 t 1), zI l2]) (σ' := σ) (Ps := []) (by decide +kernel) rfl trivial ?_
  refine r_icmp_ge (off := 29) (tgt := 38) (by decide +kernel) (by decide) (fun c => ?_) (fun c => ?_)
  · replace h := h.1 c
    refine r_blk [qO (.iconst 0), qO (.istore_n 2)] (pc' := 40) (L' := [zR 1 t, zI l1, zI 0]) (S' := []) (σ' := σ) (Ps := []) (by decide +kernel) rfl trivial ?_
    exact Runs.fg (fgE (fgE (fgE fg0))) h
  · replace h := h.2 c
    refine r_blk [qO (.iload_n 1), qO (.aload_n 0), qF (.getfield 15) 6 7, qO (.iload_n 2), qO .iaload, qO (.aload_n 0), qF (.getfield 19) 6 8, qO (.iload_n 2), qO .iaload] (pc' := 25) (L' := [zR 1 t, zI l1, zI l2]) (S' := [zI (σ 3 t l2.toNat), zI (σ 2 t l2.toNat), zI l1]) (σ' := σ) (Ps := [0 ≤ l2 ∧ l2 < 14, 0 ≤ l2 ∧ l2 < 14]) (by decide +kernel) rfl ⟨h.1, h.2.1, trivial⟩ ?_
    replace h := h.2.2
    refine r_max lkX6_74 (by decide +kernel) (by decide) (Nat.le_of_ble_eq_true rfl) ?_
    generalize hz1 : (if σ 2 t l2.toNat < σ 3 t l2.toNat then σ 3 t l2.toNat else σ 2 t l2.toNat) = z1
    replace h := h z1 hz1.symm
    refine r_max lkX6_74 (by decide +kernel) (by decide) (Nat.le_of_ble_eq_true rfl) ?_
    refine r_blk [qO (.istore_n 1), qO (.iinc 2 1), qO (.goto (-31))] (pc' := 4) (L' := [zR 1 t, zI (if l1 < z1 then z1 else l1), zI (l2 + 1)]) (S' := []) (σ' := σ) (Ps := [-2147483648 ≤ l2 + 1 ∧ l2 + 1 ≤ 2147483647]) (by decide +kernel) rfl ⟨h.1, trivial⟩ ?_
    replace h := h.2
    exact Runs.fg (fgE (fgE (fgE fg0))) h
theorem gX6_cornersToldOf_40 (l1 : Int) (l2 : Int) (t : Nat) (σ : Hp) {Q : Option Int → Hp → Prop} (h : ((σ 1 t 2 ≤ l2 → (-2147483648 ≤ l1 + 1 ∧ l1 + 1 ≤ 2147483647) ∧ Q (some (l1 + 1)) σ) ∧ (¬ σ 1 t 2 ≤ l2 → (0 ≤ l2 ∧ l2 < 8) ∧ (0 ≤ l2 ∧ l2 < 8) ∧ ∀ z1 : Int, z1 = (if σ 6 t l2.toNat < σ 7 t l2.toNat then σ 7 t l2.toNat else σ 6 t l2.toNat) → (-2147483648 ≤ l2 + 1 ∧ l2 + 1 ≤ 2147483647) ∧ Runs 1 mX6_cornersToldOf 40 [zR 1 t, zI (if l1 < z1 then z1 else l1), zI (l2 + 1)] [] σ Q))) : Runs 1 mX6_cornersToldOf 40 [zR 1 t, zI l1, zI l2] [] σ Q := by
  refine r_blk [qO (.iload_n 2), qO (.aload_n 0), qF (.getfield 49) 6 2] (pc' := 45) (L' := [zR 1 t, zI l1, zI l2]) (S' := [zI (σ 1 t 2), zI l2]) (σ' := σ) (Ps := []) (by decide +kernel) rfl trivial ?_
  refine r_icmp_ge (off := 29) (tgt := 74) (by decide +kernel) (by decide) (fun c => ?_) (fun c => ?_)
  · replace h := h.1 c
    refine r_blk [qO (.iload_n 1), qO (.iconst 1), qO .iadd] (pc' := 77) (L' := [zR 1 t, zI l1, zI l2]) (S' := [zI (l1 + 1)]) (σ' := σ) (Ps := [-2147483648 ≤ l1 + 1 ∧ l1 + 1 ≤ 2147483647]) (by decide +kernel) rfl ⟨h.1, trivial⟩ ?_
    replace h := h.2
    exact r_ret (by decide +kernel) rfl (fun _ => h)
  · replace h := h.2 c
    refine r_blk [qO (.iload_n 1), qO (.aload_n 0), qF (.getfield 28) 6 11, qO (.iload_n 2), qO .iaload, qO (.aload_n 0), qF (.getfield 31) 6 12, qO (.iload_n 2), qO .iaload] (pc' := 61) (L' := [zR 1 t, zI l1, zI l2]) (S' := [zI (σ 7 t l2.toNat), zI (σ 6 t l2.toNat), zI l1]) (σ' := σ) (Ps := [0 ≤ l2 ∧ l2 < 8, 0 ≤ l2 ∧ l2 < 8]) (by decide +kernel) rfl ⟨h.1, h.2.1, trivial⟩ ?_
    replace h := h.2.2
    refine r_max lkX6_74 (by decide +kernel) (by decide) (Nat.le_of_ble_eq_true rfl) ?_
    generalize hz1 : (if σ 6 t l2.toNat < σ 7 t l2.toNat then σ 7 t l2.toNat else σ 6 t l2.toNat) = z1
    replace h := h z1 hz1.symm
    refine r_max lkX6_74 (by decide +kernel) (by decide) (Nat.le_of_ble_eq_true rfl) ?_
    refine r_blk [qO (.istore_n 1), qO (.iinc 2 1), qO (.goto (-31))] (pc' := 40) (L' := [zR 1 t, zI (if l1 < z1 then z1 else l1), zI (l2 + 1)]) (S' := []) (σ' := σ) (Ps := [-2147483648 ≤ l2 + 1 ∧ l2 + 1 ≤ 2147483647]) (by decide +kernel) rfl ⟨h.1, trivial⟩ ?_
    replace h := h.2
    exact Runs.fg (fgE (fgE (fgE fg0))) h
theorem gX6_tellCorners_0 (a0 : Int) (t : Nat) (σ : Hp) {Q : Option Int → Hp → Prop} (h : ((a0 < 2 → Q (some 0) σ) ∧ (¬ a0 < 2 → ((10 < a0 → Q (some 0) σ) ∧ (¬ 10 < a0 → Runs 1 mX6_cornersToldOf 0 [zR 1 t, zU, zU] [] σ (rI (fun z2 σ1 => ((z2 ≤ a0 → Q (some 1) (zup σ1 1 t 0 a0)) ∧ (¬ z2 ≤ a0 → Q (some 0) σ1))))))))) : Runs 2 mX6_tellCorners 0 [zR 1 t, zI a0] [] σ Q := by
  refine r_blk [qO (.iload_n 1), qO (.iconst 2)] (pc' := 2) (L' := [zR 1 t, zI a0]) (S' := [zI 2, zI a0]) (σ' := σ) (Ps := []) (by decide +kernel) rfl trivial ?_
  refine r_icmp_lt (off := 17) (tgt := 19) (by decide +kernel) (by decide) (fun c => ?_) (fun c => ?_)
  · replace h := h.1 c
    refine r_blk [qO (.iconst 0)] (pc' := 20) (L' := [zR 1 t, zI a0]) (S' := [zI 0]) (σ' := σ) (Ps := []) (by decide +kernel) rfl trivial ?_
    exact r_retz (by decide +kernel) rfl (by decide) h
  · replace h := h.2 c
    refine r_blk [qO (.iload_n 1), qO (.bipush 10)] (pc' := 8) (L' := [zR 1 t, zI a0]) (S' := [zI 10, zI a0]) (σ' := σ) (Ps := []) (by decide +kernel) rfl trivial ?_
    refine r_icmp_gt (off := 11) (tgt := 19) (by decide +kernel) (by decide) (fun c => ?_) (fun c => ?_)
    · replace h := h.1 c
      refine r_blk [qO (.iconst 0)] (pc' := 20) (L' := [zR 1 t, zI a0]) (S' := [zI 0]) (σ' := σ) (Ps := []) (by decide +kernel) rfl trivial ?_
      exact r_retz (by decide +kernel) rfl (by decide) h
    · replace h := h.2 c
      refine r_blk [qO (.iload_n 1), qO (.aload_n 0)] (pc' := 13) (L' := [zR 1 t, zI a0]) (S' := [zR 1 t, zI a0]) (σ' := σ) (Ps := []) (by decide +kernel) rfl trivial ?_
      refine r_callVI (As := []) (S := [zI a0]) (Lc := [zR 1 t, zU, zU]) (d' := 1) (n := 0) (g := 1) (x := t) (ci := 6) kX6_cornersToldOf vX6_cornersToldOf lkX6_70 (by decide +kernel) (by decide) rfl rfl (by decide) rfl rfl (Nat.le_of_ble_eq_true rfl) rfl rfl (Nat.le_of_ble_eq_true rfl) (h.monoI (fun z2 σ1 h => ?_))
      refine r_icmp_ge (off := 5) (tgt := 21) (by decide +kernel) (by decide) (fun c => ?_) (fun c => ?_)
      · replace h := h.1 c
        refine r_blk [qO (.aload_n 0), qO (.iload_n 1), qF (.putfield 9) 6 0, qO (.iconst 1)] (pc' := 27) (L' := [zR 1 t, zI a0]) (S' := [zI 1]) (σ' := (zup σ1 1 t 0 a0)) (Ps := []) (by decide +kernel) rfl trivial ?_
        exact r_retz (by decide +kernel) rfl (by decide) h
      · replace h := h.2 c
        refine r_blk [qO (.iconst 0)] (pc' := 20) (L' := [zR 1 t, zI a0]) (S' := [zI 0]) (σ' := σ1) (Ps := []) (by decide +kernel) rfl trivial ?_
        exact r_retz (by decide +kernel) rfl (by decide) h
theorem gX6_tellStreet_0 (a0 : Int) (a1 : Int) (a2 : Int) (a3 : Int) (t : Nat) (σ : Hp) {Q : Option Int → Hp → Prop} (h : (((0 ≤ a0 ∧ a0 < σ 1 t 0) ∧ (0 ≤ a1 ∧ a1 < σ 1 t 0) ∧ a0 ≠ a1 → ((a2 < 1 → Q (some 0) σ) ∧ (¬ a2 < 1 → ((60 < a2 → Q (some 0) σ) ∧ (¬ 60 < a2 → ((σ 1 t 1 < 14 → (0 ≤ σ 1 t 1 ∧ σ 1 t 1 < 14) ∧ (0 ≤ σ 1 t 1 ∧ σ 1 t 1 < 14) ∧ (0 ≤ σ 1 t 1 ∧ σ 1 t 1 < 14) ∧ (0 ≤ σ 1 t 1 ∧ σ 1 t 1 < 14) ∧ ∀ σ1 : Hp, σ1 = (zup (zup (zup (zup σ 2 t ((σ 1 t 1).toNat) a0) 3 t ((σ 1 t 1).toNat) a1) 4 t ((σ 1 t 1).toNat) a2) 5 t ((σ 1 t 1).toNat) 2) → ((a3 = 0 → (-2147483648 ≤ ((zup σ1 1 t 4 (zor (σ 1 t 4) 0)) 1 t 1) + 1 ∧ ((zup σ1 1 t 4 (zor (σ 1 t 4) 0)) 1 t 1) + 1 ≤ 2147483647) ∧ ∀ σ2 : Hp, σ2 = (zup (zup σ1 1 t 4 (zor (σ 1 t 4) 0)) 1 t 1 (((zup σ1 1 t 4 (zor (σ 1 t 4) 0)) 1 t 1) + 1)) → Q (some 1) σ2) ∧ (¬ a3 = 0 → (-2147483648 ≤ ((zup σ1 1 t 4 (zor (σ 1 t 4) (zshl 1 (σ1 1 t 1)))) 1 t 1) + 1 ∧ ((zup σ1 1 t 4 (zor (σ 1 t 4) (zshl 1 (σ1 1 t 1)))) 1 t 1) + 1 ≤ 2147483647) ∧ ∀ σ3 : Hp, σ3 = (zup (zup σ1 1 t 4 (zor (σ 1 t 4) (zshl 1 (σ1 1 t 1)))) 1 t 1 (((zup σ1 1 t 4 (zor (σ 1 t 4) (zshl 1 (σ1 1 t 1)))) 1 t 1) + 1)) → Q (some 1) σ3))) ∧ (¬ σ 1 t 1 < 14 → Q (some 0) σ))))))) ∧ (¬ ((0 ≤ a0 ∧ a0 < σ 1 t 0) ∧ (0 ≤ a1 ∧ a1 < σ 1 t 0) ∧ a0 ≠ a1) → Q (some 0) σ))) : Runs 2 mX6_tellStreet 0 [zR 1 t, zI a0, zI a1, zI a2, zI a3] [] σ Q := by
  refine r_blk [qO (.aload_n 0), qO (.iload_n 1), qO (.iload_n 2)] (pc' := 3) (L' := [zR 1 t, zI a0, zI a1, zI a2, zI a3]) (S' := [zI a1, zI a0, zR 1 t]) (σ' := σ) (Ps := []) (by decide +kernel) rfl trivial ?_
  refine r_callVI (As := [zI a0, zI a1]) (S := []) (Lc := [zR 1 t, zI a0, zI a1]) (d' := 1) (n := 2) (g := 1) (x := t) (ci := 6) kX6_areTwoCorners vX6_areTwoCorners lkX6_84 (by decide +kernel) (by decide) rfl rfl (by decide) rfl rfl (Nat.le_of_ble_eq_true rfl) rfl rfl (Nat.le_of_ble_eq_true rfl) (pX6_areTwoCorners  (fun c => ?_) (fun c => ?_))
  · replace h := h.1 c
    refine r_if_eq (off := 23) (tgt := 29) (by decide +kernel) (by decide) (fun c => ?_) (fun c => ?_)
    · exact absurd c (by decide)
    · refine r_blk [qO (.iload_n 3), qO (.iconst 1)] (pc' := 11) (L' := [zR 1 t, zI a0, zI a1, zI a2, zI a3]) (S' := [zI 1, zI a2]) (σ' := σ) (Ps := []) (by decide +kernel) rfl trivial ?_
      refine r_icmp_lt (off := 18) (tgt := 29) (by decide +kernel) (by decide) (fun c => ?_) (fun c => ?_)
      · replace h := h.1 c
        refine r_blk [qO (.iconst 0)] (pc' := 30) (L' := [zR 1 t, zI a0, zI a1, zI a2, zI a3]) (S' := [zI 0]) (σ' := σ) (Ps := []) (by decide +kernel) rfl trivial ?_
        exact r_retz (by decide +kernel) rfl (by decide) h
      · replace h := h.2 c
        refine r_blk [qO (.iload_n 3), qO (.bipush 60)] (pc' := 17) (L' := [zR 1 t, zI a0, zI a1, zI a2, zI a3]) (S' := [zI 60, zI a2]) (σ' := σ) (Ps := []) (by decide +kernel) rfl trivial ?_
        refine r_icmp_gt (off := 12) (tgt := 29) (by decide +kernel) (by decide) (fun c => ?_) (fun c => ?_)
        · replace h := h.1 c
          refine r_blk [qO (.iconst 0)] (pc' := 30) (L' := [zR 1 t, zI a0, zI a1, zI a2, zI a3]) (S' := [zI 0]) (σ' := σ) (Ps := []) (by decide +kernel) rfl trivial ?_
          exact r_retz (by decide +kernel) rfl (by decide) h
        · replace h := h.2 c
          refine r_blk [qO (.aload_n 0), qF (.getfield 46) 6 1, qO (.bipush 14)] (pc' := 26) (L' := [zR 1 t, zI a0, zI a1, zI a2, zI a3]) (S' := [zI 14, zI (σ 1 t 1)]) (σ' := σ) (Ps := []) (by decide +kernel) rfl trivial ?_
          refine r_icmp_lt (off := 5) (tgt := 31) (by decide +kernel) (by decide) (fun c => ?_) (fun c => ?_)
          · replace h := h.1 c
            refine r_blk [qO (.aload_n 0), qF (.getfield 15) 6 7, qO (.aload_n 0), qF (.getfield 46) 6 1, qO (.iload_n 1), qO .iastore, qO (.aload_n 0), qF (.getfield 19) 6 8, qO (.aload_n 0), qF (.getfield 46) 6 1, qO (.iload_n 2), qO .iastore, qO (.aload_n 0), qF (.getfield 22) 6 9, qO (.aload_n 0), qF (.getfield 46) 6 1, qO (.iload_n 3), qO .iastore, qO (.aload_n 0), qF (.getfield 25) 6 10, qO (.aload_n 0), qF (.getfield 46) 6 1, qO (.iconst 2), qO .iastore, qO (.aload_n 0), qO .dup, qF (.getfield 55) 6 4, qO (.iload 4)] (pc' := 78) (L' := [zR 1 t, zI a0, zI a1, zI a2, zI a3]) (S' := [zI a3, zI (σ 1 t 4), zR 1 t]) (σ' := (zup (zup (zup (zup σ 2 t ((σ 1 t 1).toNat) a0) 3 t ((σ 1 t 1).toNat) a1) 4 t ((σ 1 t 1).toNat) a2) 5 t ((σ 1 t 1).toNat) 2)) (Ps := [0 ≤ σ 1 t 1 ∧ σ 1 t 1 < 14, 0 ≤ σ 1 t 1 ∧ σ 1 t 1 < 14, 0 ≤ σ 1 t 1 ∧ σ 1 t 1 < 14, 0 ≤ σ 1 t 1 ∧ σ 1 t 1 < 14]) (by decide +kernel) rfl ⟨h.1, h.2.1, h.2.2.1, h.2.2.2.1, trivial⟩ ?_
            replace h := h.2.2.2.2
            generalize hσ1 : (zup (zup (zup (zup σ 2 t ((σ 1 t 1).toNat) a0) 3 t ((σ 1 t 1).toNat) a1) 4 t ((σ 1 t 1).toNat) a2) 5 t ((σ 1 t 1).toNat) 2) = σ1
            replace h := h σ1 hσ1.symm
            refine r_if_eq (off := 12) (tgt := 90) (by decide +kernel) (by decide) (fun c => ?_) (fun c => ?_)
            · replace h := h.1 c
              refine r_blk [qO (.iconst 0), qO .ior, qF (.putfield 55) 6 4, qO (.aload_n 0), qO .dup, qF (.getfield 46) 6 1, qO (.iconst 1), qO .iadd, qF (.putfield 46) 6 1, qO (.iconst 1)] (pc' := 106) (L' := [zR 1 t, zI a0, zI a1, zI a2, zI a3]) (S' := [zI 1]) (σ' := (zup (zup σ1 1 t 4 (zor (σ 1 t 4) 0)) 1 t 1 (((zup σ1 1 t 4 (zor (σ 1 t 4) 0)) 1 t 1) + 1))) (Ps := [-2147483648 ≤ ((zup σ1 1 t 4 (zor (σ 1 t 4) 0)) 1 t 1) + 1 ∧ ((zup σ1 1 t 4 (zor (σ 1 t 4) 0)) 1 t 1) + 1 ≤ 2147483647]) (by decide +kernel) rfl ⟨h.1, trivial⟩ ?_
              replace h := h.2
              generalize hσ2 : (zup (zup σ1 1 t 4 (zor (σ 1 t 4) 0)) 1 t 1 (((zup σ1 1 t 4 (zor (σ 1 t 4) 0)) 1 t 1) + 1)) = σ2
              replace h := h σ2 hσ2.symm
              exact r_retz (by decide +kernel) rfl (by decide) h
            · replace h := h.2 c
              refine r_blk [qO (.iconst 1), qO (.aload_n 0), qF (.getfield 46) 6 1, qO .ishl, qO (.goto 4), qO .ior, qF (.putfield 55) 6 4, qO (.aload_n 0), qO .dup, qF (.getfield 46) 6 1, qO (.iconst 1), qO .iadd, qF (.putfield 46) 6 1, qO (.iconst 1)] (pc' := 106) (L' := [zR 1 t, zI a0, zI a1, zI a2, zI a3]) (S' := [zI 1]) (σ' := (zup (zup σ1 1 t 4 (zor (σ 1 t 4) (zshl 1 (σ1 1 t 1)))) 1 t 1 (((zup σ1 1 t 4 (zor (σ 1 t 4) (zshl 1 (σ1 1 t 1)))) 1 t 1) + 1))) (Ps := [-2147483648 ≤ ((zup σ1 1 t 4 (zor (σ 1 t 4) (zshl 1 (σ1 1 t 1)))) 1 t 1) + 1 ∧ ((zup σ1 1 t 4 (zor (σ 1 t 4) (zshl 1 (σ1 1 t 1)))) 1 t 1) + 1 ≤ 2147483647]) (by decide +kernel) rfl ⟨h.1, trivial⟩ ?_
              replace h := h.2
              generalize hσ3 : (zup (zup σ1 1 t 4 (zor (σ 1 t 4) (zshl 1 (σ1 1 t 1)))) 1 t 1 (((zup σ1 1 t 4 (zor (σ 1 t 4) (zshl 1 (σ1 1 t 1)))) 1 t 1) + 1)) = σ3
              replace h := h σ3 hσ3.symm
              exact r_retz (by decide +kernel) rfl (by decide) h
          · replace h := h.2 c
            refine r_blk [qO (.iconst 0)] (pc' := 30) (L' := [zR 1 t, zI a0, zI a1, zI a2, zI a3]) (S' := [zI 0]) (σ' := σ) (Ps := []) (by decide +kernel) rfl trivial ?_
            exact r_retz (by decide +kernel) rfl (by decide) h
  · replace h := h.2 c
    refine r_if_eq (off := 23) (tgt := 29) (by decide +kernel) (by decide) (fun c => ?_) (fun c => ?_)
    · refine r_blk [qO (.iconst 0)] (pc' := 30) (L' := [zR 1 t, zI a0, zI a1, zI a2, zI a3]) (S' := [zI 0]) (σ' := σ) (Ps := []) (by decide +kernel) rfl trivial ?_
      exact r_retz (by decide +kernel) rfl (by decide) h
    · exact absurd c (by decide)
theorem gX6_tellErrand_0 (a0 : Int) (a1 : Int) (a2 : Int) (a3 : Int) (t : Nat) (σ : Hp) {Q : Option Int → Hp → Prop} (h : (((0 ≤ a0 ∧ a0 < σ 1 t 0) ∧ (0 ≤ a1 ∧ a1 < σ 1 t 0) ∧ a0 ≠ a1 → ((σ 1 t 2 < 8 → ((a2 < 0 → Q (some 0) σ) ∧ (¬ a2 < 0 → ((1440 ≤ a2 → Q (some 0) σ) ∧ (¬ 1440 ≤ a2 → ((a3 < 1 → Q (some 0) σ) ∧ (¬ a3 < 1 → ((a3 ≤ 9 → (0 ≤ σ 1 t 2 ∧ σ 1 t 2 < 8) ∧ (0 ≤ σ 1 t 2 ∧ σ 1 t 2 < 8) ∧ (0 ≤ σ 1 t 2 ∧ σ 1 t 2 < 8) ∧ (0 ≤ σ 1 t 2 ∧ σ 1 t 2 < 8) ∧ (-2147483648 ≤ (σ 1 t 2) + 1 ∧ (σ 1 t 2) + 1 ≤ 2147483647) ∧ ∀ σ1 : Hp, σ1 = (zup (zup (zup (zup (zup σ 6 t ((σ 1 t 2).toNat) a0) 7 t ((σ 1 t 2).toNat) a1) 8 t ((σ 1 t 2).toNat) a2) 9 t ((σ 1 t 2).toNat) a3) 1 t 2 ((σ 1 t 2) + 1)) → Q (some 1) σ1) ∧ (¬ a3 ≤ 9 → Q (some 0) σ))))))))) ∧ (¬ σ 1 t 2 < 8 → Q (some 0) σ))) ∧ (¬ ((0 ≤ a0 ∧ a0 < σ 1 t 0) ∧ (0 ≤ a1 ∧ a1 < σ 1 t 0) ∧ a0 ≠ a1) → Q (some 0) σ))) : Runs 2 mX6_tellErrand 0 [zR 1 t, zI a0, zI a1, zI a2, zI a3] [] σ Q := by
  refine r_blk [qO (.aload_n 0), qO (.iload_n 1), qO (.iload_n 2)] (pc' := 3) (L' := [zR 1 t, zI a0, zI a1, zI a2, zI a3]) (S' := [zI a1, zI a0, zR 1 t]) (σ' := σ) (Ps := []) (by decide +kernel) rfl trivial ?_
  refine r_callVI (As := [zI a0, zI a1]) (S := []) (Lc := [zR 1 t, zI a0, zI a1]) (d' := 1) (n := 2) (g := 1) (x := t) (ci := 6) kX6_areTwoCorners vX6_areTwoCorners lkX6_84 (by decide +kernel) (by decide) rfl rfl (by decide) rfl rfl (Nat.le_of_ble_eq_true rfl) rfl rfl (Nat.le_of_ble_eq_true rfl) (pX6_areTwoCorners  (fun c => ?_) (fun c => ?_))
  · replace h := h.1 c
    refine r_if_eq (off := 12) (tgt := 18) (by decide +kernel) (by decide) (fun c => ?_) (fun c => ?_)
    · exact absurd c (by decide)
    · refine r_blk [qO (.aload_n 0), qF (.getfield 49) 6 2, qO (.bipush 8)] (pc' := 15) (L' := [zR 1 t, zI a0, zI a1, zI a2, zI a3]) (S' := [zI 8, zI (σ 1 t 2)]) (σ' := σ) (Ps := []) (by decide +kernel) rfl trivial ?_
      refine r_icmp_lt (off := 5) (tgt := 20) (by decide +kernel) (by decide) (fun c => ?_) (fun c => ?_)
      · replace h := h.1 c
        refine r_blk [qO (.iload_n 3)] (pc' := 21) (L' := [zR 1 t, zI a0, zI a1, zI a2, zI a3]) (S' := [zI a2]) (σ' := σ) (Ps := []) (by decide +kernel) rfl trivial ?_
        refine r_if_lt (off := 23) (tgt := 44) (by decide +kernel) (by decide) (fun c => ?_) (fun c => ?_)
        · replace h := h.1 c
          refine r_blk [qO (.iconst 0)] (pc' := 45) (L' := [zR 1 t, zI a0, zI a1, zI a2, zI a3]) (S' := [zI 0]) (σ' := σ) (Ps := []) (by decide +kernel) rfl trivial ?_
          exact r_retz (by decide +kernel) rfl (by decide) h
        · replace h := h.2 c
          refine r_blk [qO (.iload_n 3), qO (.sipush 1440)] (pc' := 28) (L' := [zR 1 t, zI a0, zI a1, zI a2, zI a3]) (S' := [zI 1440, zI a2]) (σ' := σ) (Ps := []) (by decide +kernel) rfl trivial ?_
          refine r_icmp_ge (off := 16) (tgt := 44) (by decide +kernel) (by decide) (fun c => ?_) (fun c => ?_)
          · replace h := h.1 c
            refine r_blk [qO (.iconst 0)] (pc' := 45) (L' := [zR 1 t, zI a0, zI a1, zI a2, zI a3]) (S' := [zI 0]) (σ' := σ) (Ps := []) (by decide +kernel) rfl trivial ?_
            exact r_retz (by decide +kernel) rfl (by decide) h
          · replace h := h.2 c
            refine r_blk [qO (.iload 4), qO (.iconst 1)] (pc' := 34) (L' := [zR 1 t, zI a0, zI a1, zI a2, zI a3]) (S' := [zI 1, zI a3]) (σ' := σ) (Ps := []) (by decide +kernel) rfl trivial ?_
            refine r_icmp_lt (off := 10) (tgt := 44) (by decide +kernel) (by decide) (fun c => ?_) (fun c => ?_)
            · replace h := h.1 c
              refine r_blk [qO (.iconst 0)] (pc' := 45) (L' := [zR 1 t, zI a0, zI a1, zI a2, zI a3]) (S' := [zI 0]) (σ' := σ) (Ps := []) (by decide +kernel) rfl trivial ?_
              exact r_retz (by decide +kernel) rfl (by decide) h
            · replace h := h.2 c
              refine r_blk [qO (.iload 4), qO (.bipush 9)] (pc' := 41) (L' := [zR 1 t, zI a0, zI a1, zI a2, zI a3]) (S' := [zI 9, zI a3]) (σ' := σ) (Ps := []) (by decide +kernel) rfl trivial ?_
              refine r_icmp_le (off := 5) (tgt := 46) (by decide +kernel) (by decide) (fun c => ?_) (fun c => ?_)
              · replace h := h.1 c
                refine r_blk [qO (.aload_n 0), qF (.getfield 28) 6 11, qO (.aload_n 0), qF (.getfield 49) 6 2, qO (.iload_n 1), qO .iastore, qO (.aload_n 0), qF (.getfield 31) 6 12, qO (.aload_n 0), qF (.getfield 49) 6 2, qO (.iload_n 2), qO .iastore, qO (.aload_n 0), qF (.getfield 34) 6 13, qO (.aload_n 0), qF (.getfield 49) 6 2, qO (.iload_n 3), qO .iastore, qO (.aload_n 0), qF (.getfield 37) 6 14, qO (.aload_n 0), qF (.getfield 49) 6 2, qO (.iload 4), qO .iastore, qO (.aload_n 0), qO .dup, qF (.getfield 49) 6 2, qO (.iconst 1), qO .iadd, qF (.putfield 49) 6 2, qO (.iconst 1)] (pc' := 98) (L' := [zR 1 t, zI a0, zI a1, zI a2, zI a3]) (S' := [zI 1]) (σ' := (zup (zup (zup (zup (zup σ 6 t ((σ 1 t 2).toNat) a0) 7 t ((σ 1 t 2).toNat) a1) 8 t ((σ 1 t 2).toNat) a2) 9 t ((σ 1 t 2).toNat) a3) 1 t 2 ((σ 1 t 2) + 1))) (Ps := [0 ≤ σ 1 t 2 ∧ σ 1 t 2 < 8, 0 ≤ σ 1 t 2 ∧ σ 1 t 2 < 8, 0 ≤ σ 1 t 2 ∧ σ 1 t 2 < 8, 0 ≤ σ 1 t 2 ∧ σ 1 t 2 < 8, -2147483648 ≤ (σ 1 t 2) + 1 ∧ (σ 1 t 2) + 1 ≤ 2147483647]) (by decide +kernel) rfl ⟨h.1, h.2.1, h.2.2.1, h.2.2.2.1, h.2.2.2.2.1, trivial⟩ ?_
                replace h := h.2.2.2.2.2
                generalize hσ1 : (zup (zup (zup (zup (zup σ 6 t ((σ 1 t 2).toNat) a0) 7 t ((σ 1 t 2).toNat) a1) 8 t ((σ 1 t 2).toNat) a2) 9 t ((σ 1 t 2).toNat) a3) 1 t 2 ((σ 1 t 2) + 1)) = σ1
                replace h := h σ1 hσ1.symm
                exact r_retz (by decide +kernel) rfl (by decide) h
              · replace h := h.2 c
                refine r_blk [qO (.iconst 0)] (pc' := 45) (L' := [zR 1 t, zI a0, zI a1, zI a2, zI a3]) (S' := [zI 0]) (σ' := σ) (Ps := []) (by decide +kernel) rfl trivial ?_
                exact r_retz (by decide +kernel) rfl (by decide) h
      · replace h := h.2 c
        refine r_blk [qO (.iconst 0)] (pc' := 19) (L' := [zR 1 t, zI a0, zI a1, zI a2, zI a3]) (S' := [zI 0]) (σ' := σ) (Ps := []) (by decide +kernel) rfl trivial ?_
        exact r_retz (by decide +kernel) rfl (by decide) h
  · replace h := h.2 c
    refine r_if_eq (off := 12) (tgt := 18) (by decide +kernel) (by decide) (fun c => ?_) (fun c => ?_)
    · refine r_blk [qO (.iconst 0)] (pc' := 19) (L' := [zR 1 t, zI a0, zI a1, zI a2, zI a3]) (S' := [zI 0]) (σ' := σ) (Ps := []) (by decide +kernel) rfl trivial ?_
      exact r_retz (by decide +kernel) rfl (by decide) h
    · exact absurd c (by decide)
theorem gX6_tellMust_0 (a0 : Int) (a1 : Int) (t : Nat) (σ : Hp) {Q : Option Int → Hp → Prop} (h : ((0 ≤ a0 ∧ a0 < σ 1 t 1 → ((a1 < 0 → Q (some 0) σ) ∧ (¬ a1 < 0 → ((a1 ≤ 2 → (0 ≤ a0 ∧ a0 < 14) ∧ Q (some 1) (zup σ 5 t a0.toNat a1)) ∧ (¬ a1 ≤ 2 → Q (some 0) σ))))) ∧ (¬ (0 ≤ a0 ∧ a0 < σ 1 t 1) → Q (some 0) σ))) : Runs 1 mX6_tellMust 0 [zR 1 t, zI a0, zI a1] [] σ Q := by
  refine r_blk [qO (.aload_n 0), qO (.iload_n 1)] (pc' := 2) (L' := [zR 1 t, zI a0, zI a1]) (S' := [zI a0, zR 1 t]) (σ' := σ) (Ps := []) (by decide +kernel) rfl trivial ?_
  refine r_callVI (As := [zI a0]) (S := []) (Lc := [zR 1 t, zI a0]) (d' := 0) (n := 1) (g := 1) (x := t) (ci := 6) kX6_hasStreet vX6_hasStreet lkX6_88 (by decide +kernel) (by decide) rfl rfl (by decide) rfl rfl (Nat.le_of_ble_eq_true rfl) rfl rfl (Nat.le_of_ble_eq_true rfl) (pX6_hasStreet  (fun c => ?_) (fun c => ?_))
  · replace h := h.1 c
    refine r_if_eq (off := 12) (tgt := 17) (by decide +kernel) (by decide) (fun c => ?_) (fun c => ?_)
    · exact absurd c (by decide)
    · refine r_blk [qO (.iload_n 2)] (pc' := 9) (L' := [zR 1 t, zI a0, zI a1]) (S' := [zI a1]) (σ' := σ) (Ps := []) (by decide +kernel) rfl trivial ?_
      refine r_if_lt (off := 8) (tgt := 17) (by decide +kernel) (by decide) (fun c => ?_) (fun c => ?_)
      · replace h := h.1 c
        refine r_blk [qO (.iconst 0)] (pc' := 18) (L' := [zR 1 t, zI a0, zI a1]) (S' := [zI 0]) (σ' := σ) (Ps := []) (by decide +kernel) rfl trivial ?_
        exact r_retz (by decide +kernel) rfl (by decide) h
      · replace h := h.2 c
        refine r_blk [qO (.iload_n 2), qO (.iconst 2)] (pc' := 14) (L' := [zR 1 t, zI a0, zI a1]) (S' := [zI 2, zI a1]) (σ' := σ) (Ps := []) (by decide +kernel) rfl trivial ?_
        refine r_icmp_le (off := 5) (tgt := 19) (by decide +kernel) (by decide) (fun c => ?_) (fun c => ?_)
        · replace h := h.1 c
          refine r_blk [qO (.aload_n 0), qF (.getfield 25) 6 10, qO (.iload_n 1), qO (.iload_n 2), qO .iastore, qO (.iconst 1)] (pc' := 27) (L' := [zR 1 t, zI a0, zI a1]) (S' := [zI 1]) (σ' := (zup σ 5 t a0.toNat a1)) (Ps := [0 ≤ a0 ∧ a0 < 14]) (by decide +kernel) rfl ⟨h.1, trivial⟩ ?_
          replace h := h.2
          exact r_retz (by decide +kernel) rfl (by decide) h
        · replace h := h.2 c
          refine r_blk [qO (.iconst 0)] (pc' := 18) (L' := [zR 1 t, zI a0, zI a1]) (S' := [zI 0]) (σ' := σ) (Ps := []) (by decide +kernel) rfl trivial ?_
          exact r_retz (by decide +kernel) rfl (by decide) h
  · replace h := h.2 c
    refine r_if_eq (off := 12) (tgt := 17) (by decide +kernel) (by decide) (fun c => ?_) (fun c => ?_)
    · refine r_blk [qO (.iconst 0)] (pc' := 18) (L' := [zR 1 t, zI a0, zI a1]) (S' := [zI 0]) (σ' := σ) (Ps := []) (by decide +kernel) rfl trivial ?_
      exact r_retz (by decide +kernel) rfl (by decide) h
    · exact absurd c (by decide)
theorem gX6_mustsTold_0 (t : Nat) (σ : Hp) {Q : Option Int → Hp → Prop} (h : Runs 0 mX6_mustsTold 4 [zR 1 t, zI 0, zI 0] [] σ Q) : Runs 0 mX6_mustsTold 0 [zR 1 t, zU, zU] [] σ Q := by
  refine r_blk [qO (.iconst 0), qO (.istore_n 1), qO (.iconst 0), qO (.istore_n 2)] (pc' := 4) (L' := [zR 1 t, zI 0, zI 0]) (S' := []) (σ' := σ) (Ps := []) (by decide +kernel) rfl trivial ?_
  exact Runs.fg (fgE (fgE (fgE fg0))) h
theorem gX6_mustsTold_4 (l1 : Int) (l2 : Int) (t : Nat) (σ : Hp) {Q : Option Int → Hp → Prop} (h : ((σ 1 t 1 ≤ l2 → Q (some l1) σ) ∧ (¬ σ 1 t 1 ≤ l2 → (0 ≤ l2 ∧ l2 < 14) ∧ ((¬ σ 5 t l2.toNat = 2 → (-2147483648 ≤ l1 + 1 ∧ l1 + 1 ≤ 2147483647) ∧ (-2147483648 ≤ l2 + 1 ∧ l2 + 1 ≤ 2147483647) ∧ Runs 0 mX6_mustsTold 4 [zR 1 t, zI (l1 + 1), zI (l2 + 1)] [] σ Q) ∧ (σ 5 t l2.toNat = 2 → (-2147483648 ≤ l1 + 0 ∧ l1 + 0 ≤ 2147483647) ∧ (-2147483648 ≤ l2 + 1 ∧ l2 + 1 ≤ 2147483647) ∧ Runs 0 mX6_mustsTold 4 [zR 1 t, zI (l1 + 0), zI (l2 + 1)] [] σ Q))))) : Runs 0 mX6_mustsTold 4 [zR 1 t, zI l1, zI l2] [] σ Q := by
  refine r_blk [qO (.iload_n 2), qO (.aload_n 0), qF (.getfield 46) 6 1] (pc' := 9) (L' := [zR 1 t, zI l1, zI l2]) (S' := [zI (σ 1 t 1), zI l2]) (σ' := σ) (Ps := []) (by decide +kernel) rfl trivial ?_
  refine r_icmp_ge (off := 27) (tgt := 36) (by decide +kernel) (by decide) (fun c => ?_) (fun c => ?_)
  · replace h := h.1 c
    refine r_blk [qO (.iload_n 1)] (pc' := 37) (L' := [zR 1 t, zI l1, zI l2]) (S' := [zI l1]) (σ' := σ) (Ps := []) (by decide +kernel) rfl trivial ?_
    exact r_ret (by decide +kernel) rfl (fun _ => h)
  · replace h := h.2 c
    refine r_blk [qO (.iload_n 1), qO (.aload_n 0), qF (.getfield 25) 6 10, qO (.iload_n 2), qO .iaload, qO (.iconst 2)] (pc' := 20) (L' := [zR 1 t, zI l1, zI l2]) (S' := [zI 2, zI (σ 5 t l2.toNat), zI l1]) (σ' := σ) (Ps := [0 ≤ l2 ∧ l2 < 14]) (by decide +kernel) rfl ⟨h.1, trivial⟩ ?_
    replace h := h.2
    refine r_icmp_ne (off := 7) (tgt := 27) (by decide +kernel) (by decide) (fun c => ?_) (fun c => ?_)
    · replace h := h.1 c
      refine r_blk [qO (.iconst 1), qO .iadd, qO (.istore_n 1), qO (.iinc 2 1), qO (.goto (-29))] (pc' := 4) (L' := [zR 1 t, zI (l1 + 1), zI (l2 + 1)]) (S' := []) (σ' := σ) (Ps := [-2147483648 ≤ l1 + 1 ∧ l1 + 1 ≤ 2147483647, -2147483648 ≤ l2 + 1 ∧ l2 + 1 ≤ 2147483647]) (by decide +kernel) rfl ⟨h.1, h.2.1, trivial⟩ ?_
      replace h := h.2.2
      exact Runs.fg (fgE (fgE (fgE fg0))) h
    · replace h := h.2 c
      refine r_blk [qO (.iconst 0), qO (.goto 4), qO .iadd, qO (.istore_n 1), qO (.iinc 2 1), qO (.goto (-29))] (pc' := 4) (L' := [zR 1 t, zI (l1 + 0), zI (l2 + 1)]) (S' := []) (σ' := σ) (Ps := [-2147483648 ≤ l1 + 0 ∧ l1 + 0 ≤ 2147483647, -2147483648 ≤ l2 + 1 ∧ l2 + 1 ≤ 2147483647]) (by decide +kernel) rfl ⟨h.1, h.2.1, trivial⟩ ?_
      replace h := h.2.2
      exact Runs.fg (fgE (fgE (fgE fg0))) h
theorem gX3_readInto_0 (σ : Hp) {Q : Option Int → Hp → Prop} (h : Runs 4 mX3_statementsWritten 0 [zR 14 0, zU] [] σ (rI (fun z2 σ1 => ((0 ≤ z2 → Runs 1 mX6_takeFrom 0 [zR 1 2, zR 1 0] [] σ1 (rV (fun σ3 => Runs 5 mX3_readInto 26 [zR 14 0, zR 1 0, zI z2, zI 0] [] (zup σ3 14 0 2 0) Q))) ∧ (¬ 0 ≤ z2 → Q (some z2) σ1))))) : Runs 5 mX3_readInto 0 [zR 14 0, zR 1 0, zU, zU] [] σ Q := by
  refine r_blk [qO (.aload_n 0)] (pc' := 1) (L' := [zR 14 0, zR 1 0, zU, zU]) (S' := [zR 14 0]) (σ' := σ) (Ps := []) (by decide +kernel) rfl trivial ?_
  refine r_callVI (As := []) (S := []) (Lc := [zR 14 0, zU]) (d' := 4) (n := 0) (g := 14) (x := 0) (ci := 3) kX3_statementsWritten vX3_statementsWritten lkX3_26 (by decide +kernel) (by decide) rfl rfl (by decide) rfl rfl (Nat.le_of_ble_eq_true rfl) rfl rfl (Nat.le_of_ble_eq_true rfl) (h.monoI (fun z2 σ1 h => ?_))
  refine r_blk [qO (.istore_n 2), qO (.iload_n 2)] (pc' := 6) (L' := [zR 14 0, zR 1 0, zI z2, zU]) (S' := [zI z2]) (σ' := σ1) (Ps := []) (by decide +kernel) rfl trivial ?_
  refine r_if_ge (off := 5) (tgt := 11) (by decide +kernel) (by decide) (fun c => ?_) (fun c => ?_)
  · replace h := h.1 c
    refine r_blk [qO (.aload_n 0), qF (.getfield 12) 3 1, qO (.aload_n 1)] (pc' := 16) (L' := [zR 14 0, zR 1 0, zI z2, zU]) (S' := [zR 1 0, zR 1 2]) (σ' := σ1) (Ps := []) (by decide +kernel) rfl trivial ?_
    refine r_callVV (As := [zR 1 0]) (S := []) (Lc := [zR 1 2, zR 1 0]) (d' := 1) (n := 1) (g := 1) (x := 2) (ci := 6) kX6_takeFrom vX6_takeFrom lkX3_30 (by decide +kernel) (by decide) rfl rfl (by decide) rfl rfl (Nat.le_of_ble_eq_true rfl) rfl rfl (Nat.le_of_ble_eq_true rfl) (h.monoV (fun σ3 h => ?_))
    refine r_blk [qO (.aload_n 0), qO (.iconst 0), qF (.putfield 34) 3 2, qO (.iconst 0), qO (.istore_n 3)] (pc' := 26) (L' := [zR 14 0, zR 1 0, zI z2, zI 0]) (S' := []) (σ' := (zup σ3 14 0 2 0)) (Ps := []) (by decide +kernel) rfl trivial ?_
    exact Runs.fg (fgE (fgE (fgE (fgE fg0)))) h
  · replace h := h.2 c
    refine r_blk [qO (.iload_n 2)] (pc' := 10) (L' := [zR 14 0, zR 1 0, zI z2, zU]) (S' := [zI z2]) (σ' := σ1) (Ps := []) (by decide +kernel) rfl trivial ?_
    exact r_ret (by decide +kernel) rfl (fun _ => h)
theorem gX3_readInto_26 (l2 : Int) (l3 : Int) (σ : Hp) {Q : Option Int → Hp → Prop} (h : ((l2 ≤ l3 → Runs 1 mX6_takeFrom 0 [zR 1 0, zR 1 2] [] σ (rV (fun σ1 => Q (some l2) σ1))) ∧ (¬ l2 ≤ l3 → Runs 3 mX3_readStatement 0 [zR 14 0] [] σ (rI (fun z3 σ2 => ((z3 = 0 → (-2147483648 ≤ (-2000) - (σ2 14 0 4) ∧ (-2000) - (σ2 14 0 4) ≤ 2147483647) ∧ Q (some ((-2000) - (σ2 14 0 4))) σ2) ∧ (¬ z3 = 0 → Runs 3 mX3_tell 0 [zR 14 0] [] σ2 (rI (fun z5 σ4 => ((¬ z5 = 0 → (-2147483648 ≤ l3 + 1 ∧ l3 + 1 ≤ 2147483647) ∧ Runs 5 mX3_readInto 26 [zR 14 0, zR 1 0, zI l2, zI (l3 + 1)] [] σ4 Q) ∧ (z5 = 0 → (-2147483648 ≤ (-2000) - (σ4 14 0 4) ∧ (-2000) - (σ4 14 0 4) ≤ 2147483647) ∧ Q (some ((-2000) - (σ4 14 0 4))) σ4))))))))))) : Runs 5 mX3_readInto 26 [zR 14 0, zR 1 0, zI l2, zI l3] [] σ Q := by
  refine r_blk [qO (.iload_n 3), qO (.iload_n 2)] (pc' := 28) (L' := [zR 14 0, zR 1 0, zI l2, zI l3]) (S' := [zI l2, zI l3]) (σ' := σ) (Ps := []) (by decide +kernel) rfl trivial ?_
  refine r_icmp_ge (off := 32) (tgt := 60) (by decide +kernel) (by decide) (fun c => ?_) (fun c => ?_)
  · replace h := h.1 c
    refine r_blk [qO (.aload_n 1), qO (.aload_n 0), qF (.getfield 12) 3 1] (pc' := 65) (L' := [zR 14 0, zR 1 0, zI l2, zI l3]) (S' := [zR 1 2, zR 1 0]) (σ' := σ) (Ps := []) (by decide +kernel) rfl trivial ?_
    refine r_callVV (As := [zR 1 2]) (S := []) (Lc := [zR 1 0, zR 1 2]) (d' := 1) (n := 1) (g := 1) (x := 0) (ci := 6) kX6_takeFrom vX6_takeFrom lkX3_30 (by decide +kernel) (by decide) rfl rfl (by decide) rfl rfl (Nat.le_of_ble_eq_true rfl) rfl rfl (Nat.le_of_ble_eq_true rfl) (h.monoV (fun σ1 h => ?_))
    refine r_blk [qO (.iload_n 2)] (pc' := 69) (L' := [zR 14 0, zR 1 0, zI l2, zI l3]) (S' := [zI l2]) (σ' := σ1) (Ps := []) (by decide +kernel) rfl trivial ?_
    exact r_ret (by decide +kernel) rfl (fun _ => h)
  · replace h := h.2 c
    refine r_blk [qO (.aload_n 0)] (pc' := 32) (L' := [zR 14 0, zR 1 0, zI l2, zI l3]) (S' := [zR 14 0]) (σ' := σ) (Ps := []) (by decide +kernel) rfl trivial ?_
    refine r_callVI (As := []) (S := []) (Lc := [zR 14 0]) (d' := 3) (n := 0) (g := 14) (x := 0) (ci := 3) kX3_readStatement vX3_readStatement lkX3_38 (by decide +kernel) (by decide) rfl rfl (by decide) rfl rfl (Nat.le_of_ble_eq_true rfl) rfl rfl (Nat.le_of_ble_eq_true rfl) (h.monoI (fun z3 σ2 h => ?_))
    refine r_if_eq (off := 10) (tgt := 45) (by decide +kernel) (by decide) (fun c => ?_) (fun c => ?_)
    · replace h := h.1 c
      refine r_blk [qO (.sipush (-2000)), qO (.aload_n 0), qF (.getfield 45) 3 4, qO .isub] (pc' := 53) (L' := [zR 14 0, zR 1 0, zI l2, zI l3]) (S' := [zI ((-2000) - (σ2 14 0 4))]) (σ' := σ2) (Ps := [-2147483648 ≤ (-2000) - (σ2 14 0 4) ∧ (-2000) - (σ2 14 0 4) ≤ 2147483647]) (by decide +kernel) rfl ⟨h.1, trivial⟩ ?_
      replace h := h.2
      exact r_ret (by decide +kernel) rfl (fun _ => h)
    · replace h := h.2 c
      refine r_blk [qO (.aload_n 0)] (pc' := 39) (L' := [zR 14 0, zR 1 0, zI l2, zI l3]) (S' := [zR 14 0]) (σ' := σ2) (Ps := []) (by decide +kernel) rfl trivial ?_
      refine r_callVI (As := []) (S := []) (Lc := [zR 14 0]) (d' := 3) (n := 0) (g := 14) (x := 0) (ci := 3) kX3_tell vX3_tell lkX3_42 (by decide +kernel) (by decide) rfl rfl (by decide) rfl rfl (Nat.le_of_ble_eq_true rfl) rfl rfl (Nat.le_of_ble_eq_true rfl) (h.monoI (fun z5 σ4 h => ?_))
      refine r_if_ne (off := 12) (tgt := 54) (by decide +kernel) (by decide) (fun c => ?_) (fun c => ?_)
      · replace h := h.1 c
        refine r_blk [qO (.iinc 3 1), qO (.goto (-31))] (pc' := 26) (L' := [zR 14 0, zR 1 0, zI l2, zI (l3 + 1)]) (S' := []) (σ' := σ4) (Ps := [-2147483648 ≤ l3 + 1 ∧ l3 + 1 ≤ 2147483647]) (by decide +kernel) rfl ⟨h.1, trivial⟩ ?_
        replace h := h.2
        exact Runs.fg (fgE (fgE (fgE (fgE fg0)))) h
      · replace h := h.2 c
        refine r_blk [qO (.sipush (-2000)), qO (.aload_n 0), qF (.getfield 45) 3 4, qO .isub] (pc' := 53) (L' := [zR 14 0, zR 1 0, zI l2, zI l3]) (S' := [zI ((-2000) - (σ4 14 0 4))]) (σ' := σ4) (Ps := [-2147483648 ≤ (-2000) - (σ4 14 0 4) ∧ (-2000) - (σ4 14 0 4) ≤ 2147483647]) (by decide +kernel) rfl ⟨h.1, trivial⟩ ?_
        replace h := h.2
        exact r_ret (by decide +kernel) rfl (fun _ => h)
theorem gX6_take02 (σ : Hp) {Q : Option Int → Hp → Prop} (h : ∀ σ1 : Hp, σ1 = (zup (zup (zup (zup (zup (zup (zup σ 1 0 0 (σ 1 2 0)) 1 0 1 (σ 1 2 1)) 1 0 2 (σ 1 2 2)) 1 0 3 (σ 1 2 3)) 1 0 4 (σ 1 2 4)) 1 0 5 (σ 1 2 5)) 1 0 6 (σ 1 2 6)) → ∀ σ2 : Hp, σ2 = (zcpy (zcpy (zcpy (zcpy σ1 2 2 2 0 14) 3 2 3 0 14) 4 2 4 0 14) 5 2 5 0 14) → ∀ σ3 : Hp, σ3 = (zcpy (zcpy (zcpy (zcpy (zcpy σ2 6 2 6 0 8) 7 2 7 0 8) 8 2 8 0 8) 9 2 9 0 8) 10 2 10 0 10) → Q none (zcpy σ3 11 2 11 0 4)) : Runs 1 mX6_takeFrom 0 [zR 1 0, zR 1 2] [] σ Q := by
  refine r_blk [qO (.aload_n 0), qO (.aload_n 1), qF (.getfield 9) 6 0, qF (.putfield 9) 6 0, qO (.aload_n 0), qO (.aload_n 1), qF (.getfield 46) 6 1, qF (.putfield 46) 6 1, qO (.aload_n 0), qO (.aload_n 1), qF (.getfield 49) 6 2, qF (.putfield 49) 6 2, qO (.aload_n 0), qO (.aload_n 1), qF (.getfield 52) 6 3, qF (.putfield 52) 6 3, qO (.aload_n 0), qO (.aload_n 1), qF (.getfield 55) 6 4, qF (.putfield 55) 6 4, qO (.aload_n 0), qO (.aload_n 1), qF (.getfield 58) 6 5, qF (.putfield 58) 6 5, qO (.aload_n 0), qO (.aload_n 1), qF (.getfield 61) 6 6, qF (.putfield 61) 6 6, qO (.aload_n 1), qF (.getfield 15) 6 7, qO (.iconst 0), qO (.aload_n 0), qF (.getfield 15) 6 7, qO (.iconst 0), qO (.bipush 14)] (pc' := 68) (L' := [zR 1 0, zR 1 2]) (S' := [zI 14, zI 0, zR 2 0, zI 0, zR 2 2]) (σ' := (zup (zup (zup (zup (zup (zup (zup σ 1 0 0 (σ 1 2 0)) 1 0 1 (σ 1 2 1)) 1 0 2 (σ 1 2 2)) 1 0 3 (σ 1 2 3)) 1 0 4 (σ 1 2 4)) 1 0 5 (σ 1 2 5)) 1 0 6 (σ 1 2 6))) (Ps := []) (by decide +kernel) rfl trivial ?_
  generalize hσ1 : (zup (zup (zup (zup (zup (zup (zup σ 1 0 0 (σ 1 2 0)) 1 0 1 (σ 1 2 1)) 1 0 2 (σ 1 2 2)) 1 0 3 (σ 1 2 3)) 1 0 4 (σ 1 2 4)) 1 0 5 (σ 1 2 5)) 1 0 6 (σ 1 2 6)) = σ1
  replace h := h σ1 hσ1.symm
  refine r_copy (gs := 2) (xs := 2) (gd := 2) (xd := 0) (n := 14) lkX6_64 (by decide +kernel) (by decide) rfl rfl (by decide) (Nat.le_of_ble_eq_true rfl) (by decide) ?_
  refine r_blk [qO (.aload_n 1), qF (.getfield 19) 6 8, qO (.iconst 0), qO (.aload_n 0), qF (.getfield 19) 6 8, qO (.iconst 0), qO (.bipush 14)] (pc' := 83) (L' := [zR 1 0, zR 1 2]) (S' := [zI 14, zI 0, zR 3 0, zI 0, zR 3 2]) (σ' := (zcpy σ1 2 2 2 0 14)) (Ps := []) (by decide +kernel) rfl trivial ?_
  refine r_copy (gs := 3) (xs := 2) (gd := 3) (xd := 0) (n := 14) lkX6_64 (by decide +kernel) (by decide) rfl rfl (by decide) (Nat.le_of_ble_eq_true rfl) (by decide) ?_
  refine r_blk [qO (.aload_n 1), qF (.getfield 22) 6 9, qO (.iconst 0), qO (.aload_n 0), qF (.getfield 22) 6 9, qO (.iconst 0), qO (.bipush 14)] (pc' := 98) (L' := [zR 1 0, zR 1 2]) (S' := [zI 14, zI 0, zR 4 0, zI 0, zR 4 2]) (σ' := (zcpy (zcpy σ1 2 2 2 0 14) 3 2 3 0 14)) (Ps := []) (by decide +kernel) rfl trivial ?_
  refine r_copy (gs := 4) (xs := 2) (gd := 4) (xd := 0) (n := 14) lkX6_64 (by decide +kernel) (by decide) rfl rfl (by decide) (Nat.le_of_ble_eq_true rfl) (by decide) ?_
  refine r_blk [qO (.aload_n 1), qF (.getfield 25) 6 10, qO (.iconst 0), qO (.aload_n 0), qF (.getfield 25) 6 10, qO (.iconst 0), qO (.bipush 14)] (pc' := 113) (L' := [zR 1 0, zR 1 2]) (S' := [zI 14, zI 0, zR 5 0, zI 0, zR 5 2]) (σ' := (zcpy (zcpy (zcpy σ1 2 2 2 0 14) 3 2 3 0 14) 4 2 4 0 14)) (Ps := []) (by decide +kernel) rfl trivial ?_
  refine r_copy (gs := 5) (xs := 2) (gd := 5) (xd := 0) (n := 14) lkX6_64 (by decide +kernel) (by decide) rfl rfl (by decide) (Nat.le_of_ble_eq_true rfl) (by decide) ?_
  refine r_blk [qO (.aload_n 1), qF (.getfield 28) 6 11, qO (.iconst 0), qO (.aload_n 0), qF (.getfield 28) 6 11, qO (.iconst 0), qO (.bipush 8)] (pc' := 128) (L' := [zR 1 0, zR 1 2]) (S' := [zI 8, zI 0, zR 6 0, zI 0, zR 6 2]) (σ' := (zcpy (zcpy (zcpy (zcpy σ1 2 2 2 0 14) 3 2 3 0 14) 4 2 4 0 14) 5 2 5 0 14)) (Ps := []) (by decide +kernel) rfl trivial ?_
  generalize hσ2 : (zcpy (zcpy (zcpy (zcpy σ1 2 2 2 0 14) 3 2 3 0 14) 4 2 4 0 14) 5 2 5 0 14) = σ2
  replace h := h σ2 hσ2.symm
  refine r_copy (gs := 6) (xs := 2) (gd := 6) (xd := 0) (n := 8) lkX6_64 (by decide +kernel) (by decide) rfl rfl (by decide) (Nat.le_of_ble_eq_true rfl) (by decide) ?_
  refine r_blk [qO (.aload_n 1), qF (.getfield 31) 6 12, qO (.iconst 0), qO (.aload_n 0), qF (.getfield 31) 6 12, qO (.iconst 0), qO (.bipush 8)] (pc' := 143) (L' := [zR 1 0, zR 1 2]) (S' := [zI 8, zI 0, zR 7 0, zI 0, zR 7 2]) (σ' := (zcpy σ2 6 2 6 0 8)) (Ps := []) (by decide +kernel) rfl trivial ?_
  refine r_copy (gs := 7) (xs := 2) (gd := 7) (xd := 0) (n := 8) lkX6_64 (by decide +kernel) (by decide) rfl rfl (by decide) (Nat.le_of_ble_eq_true rfl) (by decide) ?_
  refine r_blk [qO (.aload_n 1), qF (.getfield 34) 6 13, qO (.iconst 0), qO (.aload_n 0), qF (.getfield 34) 6 13, qO (.iconst 0), qO (.bipush 8)] (pc' := 158) (L' := [zR 1 0, zR 1 2]) (S' := [zI 8, zI 0, zR 8 0, zI 0, zR 8 2]) (σ' := (zcpy (zcpy σ2 6 2 6 0 8) 7 2 7 0 8)) (Ps := []) (by decide +kernel) rfl trivial ?_
  refine r_copy (gs := 8) (xs := 2) (gd := 8) (xd := 0) (n := 8) lkX6_64 (by decide +kernel) (by decide) rfl rfl (by decide) (Nat.le_of_ble_eq_true rfl) (by decide) ?_
  refine r_blk [qO (.aload_n 1), qF (.getfield 37) 6 14, qO (.iconst 0), qO (.aload_n 0), qF (.getfield 37) 6 14, qO (.iconst 0), qO (.bipush 8)] (pc' := 173) (L' := [zR 1 0, zR 1 2]) (S' := [zI 8, zI 0, zR 9 0, zI 0, zR 9 2]) (σ' := (zcpy (zcpy (zcpy σ2 6 2 6 0 8) 7 2 7 0 8) 8 2 8 0 8)) (Ps := []) (by decide +kernel) rfl trivial ?_
  refine r_copy (gs := 9) (xs := 2) (gd := 9) (xd := 0) (n := 8) lkX6_64 (by decide +kernel) (by decide) rfl rfl (by decide) (Nat.le_of_ble_eq_true rfl) (by decide) ?_
  refine r_blk [qO (.aload_n 1), qF (.getfield 40) 6 15, qO (.iconst 0), qO (.aload_n 0), qF (.getfield 40) 6 15, qO (.iconst 0), qO (.bipush 10)] (pc' := 188) (L' := [zR 1 0, zR 1 2]) (S' := [zI 10, zI 0, zR 10 0, zI 0, zR 10 2]) (σ' := (zcpy (zcpy (zcpy (zcpy σ2 6 2 6 0 8) 7 2 7 0 8) 8 2 8 0 8) 9 2 9 0 8)) (Ps := []) (by decide +kernel) rfl trivial ?_
  refine r_copy (gs := 10) (xs := 2) (gd := 10) (xd := 0) (n := 10) lkX6_64 (by decide +kernel) (by decide) rfl rfl (by decide) (Nat.le_of_ble_eq_true rfl) (by decide) ?_
  refine r_blk [qO (.aload_n 1), qF (.getfield 43) 6 16, qO (.iconst 0), qO (.aload_n 0), qF (.getfield 43) 6 16, qO (.iconst 0), qO (.iconst 4)] (pc' := 202) (L' := [zR 1 0, zR 1 2]) (S' := [zI 4, zI 0, zR 11 0, zI 0, zR 11 2]) (σ' := (zcpy (zcpy (zcpy (zcpy (zcpy σ2 6 2 6 0 8) 7 2 7 0 8) 8 2 8 0 8) 9 2 9 0 8) 10 2 10 0 10)) (Ps := []) (by decide +kernel) rfl trivial ?_
  generalize hσ3 : (zcpy (zcpy (zcpy (zcpy (zcpy σ2 6 2 6 0 8) 7 2 7 0 8) 8 2 8 0 8) 9 2 9 0 8) 10 2 10 0 10) = σ3
  replace h := h σ3 hσ3.symm
  refine r_copy (gs := 11) (xs := 2) (gd := 11) (xd := 0) (n := 4) lkX6_64 (by decide +kernel) (by decide) rfl rfl (by decide) (Nat.le_of_ble_eq_true rfl) (by decide) ?_
  exact r_retv (by decide +kernel) rfl h
theorem gX6_take20 (σ : Hp) {Q : Option Int → Hp → Prop} (h : ∀ σ1 : Hp, σ1 = (zup (zup (zup (zup (zup (zup (zup σ 1 2 0 (σ 1 0 0)) 1 2 1 (σ 1 0 1)) 1 2 2 (σ 1 0 2)) 1 2 3 (σ 1 0 3)) 1 2 4 (σ 1 0 4)) 1 2 5 (σ 1 0 5)) 1 2 6 (σ 1 0 6)) → ∀ σ2 : Hp, σ2 = (zcpy (zcpy (zcpy (zcpy σ1 2 0 2 2 14) 3 0 3 2 14) 4 0 4 2 14) 5 0 5 2 14) → ∀ σ3 : Hp, σ3 = (zcpy (zcpy (zcpy (zcpy (zcpy σ2 6 0 6 2 8) 7 0 7 2 8) 8 0 8 2 8) 9 0 9 2 8) 10 0 10 2 10) → Q none (zcpy σ3 11 0 11 2 4)) : Runs 1 mX6_takeFrom 0 [zR 1 2, zR 1 0] [] σ Q := by
  refine r_blk [qO (.aload_n 0), qO (.aload_n 1), qF (.getfield 9) 6 0, qF (.putfield 9) 6 0, qO (.aload_n 0), qO (.aload_n 1), qF (.getfield 46) 6 1, qF (.putfield 46) 6 1, qO (.aload_n 0), qO (.aload_n 1), qF (.getfield 49) 6 2, qF (.putfield 49) 6 2, qO (.aload_n 0), qO (.aload_n 1), qF (.getfield 52) 6 3, qF (.putfield 52) 6 3, qO (.aload_n 0), qO (.aload_n 1), qF (.getfield 55) 6 4, qF (.putfield 55) 6 4, qO (.aload_n 0), qO (.aload_n 1), qF (.getfield 58) 6 5, qF (.putfield 58) 6 5, qO (.aload_n 0), qO (.aload_n 1), qF (.getfield 61) 6 6, qF (.putfield 61) 6 6, qO (.aload_n 1), qF (.getfield 15) 6 7, qO (.iconst 0), qO (.aload_n 0), qF (.getfield 15) 6 7, qO (.iconst 0), qO (.bipush 14)] (pc' := 68) (L' := [zR 1 2, zR 1 0]) (S' := [zI 14, zI 0, zR 2 2, zI 0, zR 2 0]) (σ' := (zup (zup (zup (zup (zup (zup (zup σ 1 2 0 (σ 1 0 0)) 1 2 1 (σ 1 0 1)) 1 2 2 (σ 1 0 2)) 1 2 3 (σ 1 0 3)) 1 2 4 (σ 1 0 4)) 1 2 5 (σ 1 0 5)) 1 2 6 (σ 1 0 6))) (Ps := []) (by decide +kernel) rfl trivial ?_
  generalize hσ1 : (zup (zup (zup (zup (zup (zup (zup σ 1 2 0 (σ 1 0 0)) 1 2 1 (σ 1 0 1)) 1 2 2 (σ 1 0 2)) 1 2 3 (σ 1 0 3)) 1 2 4 (σ 1 0 4)) 1 2 5 (σ 1 0 5)) 1 2 6 (σ 1 0 6)) = σ1
  replace h := h σ1 hσ1.symm
  refine r_copy (gs := 2) (xs := 0) (gd := 2) (xd := 2) (n := 14) lkX6_64 (by decide +kernel) (by decide) rfl rfl (by decide) (Nat.le_of_ble_eq_true rfl) (by decide) ?_
  refine r_blk [qO (.aload_n 1), qF (.getfield 19) 6 8, qO (.iconst 0), qO (.aload_n 0), qF (.getfield 19) 6 8, qO (.iconst 0), qO (.bipush 14)] (pc' := 83) (L' := [zR 1 2, zR 1 0]) (S' := [zI 14, zI 0, zR 3 2, zI 0, zR 3 0]) (σ' := (zcpy σ1 2 0 2 2 14)) (Ps := []) (by decide +kernel) rfl trivial ?_
  refine r_copy (gs := 3) (xs := 0) (gd := 3) (xd := 2) (n := 14) lkX6_64 (by decide +kernel) (by decide) rfl rfl (by decide) (Nat.le_of_ble_eq_true rfl) (by decide) ?_
  refine r_blk [qO (.aload_n 1), qF (.getfield 22) 6 9, qO (.iconst 0), qO (.aload_n 0), qF (.getfield 22) 6 9, qO (.iconst 0), qO (.bipush 14)] (pc' := 98) (L' := [zR 1 2, zR 1 0]) (S' := [zI 14, zI 0, zR 4 2, zI 0, zR 4 0]) (σ' := (zcpy (zcpy σ1 2 0 2 2 14) 3 0 3 2 14)) (Ps := []) (by decide +kernel) rfl trivial ?_
  refine r_copy (gs := 4) (xs := 0) (gd := 4) (xd := 2) (n := 14) lkX6_64 (by decide +kernel) (by decide) rfl rfl (by decide) (Nat.le_of_ble_eq_true rfl) (by decide) ?_
  refine r_blk [qO (.aload_n 1), qF (.getfield 25) 6 10, qO (.iconst 0), qO (.aload_n 0), qF (.getfield 25) 6 10, qO (.iconst 0), qO (.bipush 14)] (pc' := 113) (L' := [zR 1 2, zR 1 0]) (S' := [zI 14, zI 0, zR 5 2, zI 0, zR 5 0]) (σ' := (zcpy (zcpy (zcpy σ1 2 0 2 2 14) 3 0 3 2 14) 4 0 4 2 14)) (Ps := []) (by decide +kernel) rfl trivial ?_
  refine r_copy (gs := 5) (xs := 0) (gd := 5) (xd := 2) (n := 14) lkX6_64 (by decide +kernel) (by decide) rfl rfl (by decide) (Nat.le_of_ble_eq_true rfl) (by decide) ?_
  refine r_blk [qO (.aload_n 1), qF (.getfield 28) 6 11, qO (.iconst 0), qO (.aload_n 0), qF (.getfield 28) 6 11, qO (.iconst 0), qO (.bipush 8)] (pc' := 128) (L' := [zR 1 2, zR 1 0]) (S' := [zI 8, zI 0, zR 6 2, zI 0, zR 6 0]) (σ' := (zcpy (zcpy (zcpy (zcpy σ1 2 0 2 2 14) 3 0 3 2 14) 4 0 4 2 14) 5 0 5 2 14)) (Ps := []) (by decide +kernel) rfl trivial ?_
  generalize hσ2 : (zcpy (zcpy (zcpy (zcpy σ1 2 0 2 2 14) 3 0 3 2 14) 4 0 4 2 14) 5 0 5 2 14) = σ2
  replace h := h σ2 hσ2.symm
  refine r_copy (gs := 6) (xs := 0) (gd := 6) (xd := 2) (n := 8) lkX6_64 (by decide +kernel) (by decide) rfl rfl (by decide) (Nat.le_of_ble_eq_true rfl) (by decide) ?_
  refine r_blk [qO (.aload_n 1), qF (.getfield 31) 6 12, qO (.iconst 0), qO (.aload_n 0), qF (.getfield 31) 6 12, qO (.iconst 0), qO (.bipush 8)] (pc' := 143) (L' := [zR 1 2, zR 1 0]) (S' := [zI 8, zI 0, zR 7 2, zI 0, zR 7 0]) (σ' := (zcpy σ2 6 0 6 2 8)) (Ps := []) (by decide +kernel) rfl trivial ?_
  refine r_copy (gs := 7) (xs := 0) (gd := 7) (xd := 2) (n := 8) lkX6_64 (by decide +kernel) (by decide) rfl rfl (by decide) (Nat.le_of_ble_eq_true rfl) (by decide) ?_
  refine r_blk [qO (.aload_n 1), qF (.getfield 34) 6 13, qO (.iconst 0), qO (.aload_n 0), qF (.getfield 34) 6 13, qO (.iconst 0), qO (.bipush 8)] (pc' := 158) (L' := [zR 1 2, zR 1 0]) (S' := [zI 8, zI 0, zR 8 2, zI 0, zR 8 0]) (σ' := (zcpy (zcpy σ2 6 0 6 2 8) 7 0 7 2 8)) (Ps := []) (by decide +kernel) rfl trivial ?_
  refine r_copy (gs := 8) (xs := 0) (gd := 8) (xd := 2) (n := 8) lkX6_64 (by decide +kernel) (by decide) rfl rfl (by decide) (Nat.le_of_ble_eq_true rfl) (by decide) ?_
  refine r_blk [qO (.aload_n 1), qF (.getfield 37) 6 14, qO (.iconst 0), qO (.aload_n 0), qF (.getfield 37) 6 14, qO (.iconst 0), qO (.bipush 8)] (pc' := 173) (L' := [zR 1 2, zR 1 0]) (S' := [zI 8, zI 0, zR 9 2, zI 0, zR 9 0]) (σ' := (zcpy (zcpy (zcpy σ2 6 0 6 2 8) 7 0 7 2 8) 8 0 8 2 8)) (Ps := []) (by decide +kernel) rfl trivial ?_
  refine r_copy (gs := 9) (xs := 0) (gd := 9) (xd := 2) (n := 8) lkX6_64 (by decide +kernel) (by decide) rfl rfl (by decide) (Nat.le_of_ble_eq_true rfl) (by decide) ?_
  refine r_blk [qO (.aload_n 1), qF (.getfield 40) 6 15, qO (.iconst 0), qO (.aload_n 0), qF (.getfield 40) 6 15, qO (.iconst 0), qO (.bipush 10)] (pc' := 188) (L' := [zR 1 2, zR 1 0]) (S' := [zI 10, zI 0, zR 10 2, zI 0, zR 10 0]) (σ' := (zcpy (zcpy (zcpy (zcpy σ2 6 0 6 2 8) 7 0 7 2 8) 8 0 8 2 8) 9 0 9 2 8)) (Ps := []) (by decide +kernel) rfl trivial ?_
  refine r_copy (gs := 10) (xs := 0) (gd := 10) (xd := 2) (n := 10) lkX6_64 (by decide +kernel) (by decide) rfl rfl (by decide) (Nat.le_of_ble_eq_true rfl) (by decide) ?_
  refine r_blk [qO (.aload_n 1), qF (.getfield 43) 6 16, qO (.iconst 0), qO (.aload_n 0), qF (.getfield 43) 6 16, qO (.iconst 0), qO (.iconst 4)] (pc' := 202) (L' := [zR 1 2, zR 1 0]) (S' := [zI 4, zI 0, zR 11 2, zI 0, zR 11 0]) (σ' := (zcpy (zcpy (zcpy (zcpy (zcpy σ2 6 0 6 2 8) 7 0 7 2 8) 8 0 8 2 8) 9 0 9 2 8) 10 0 10 2 10)) (Ps := []) (by decide +kernel) rfl trivial ?_
  generalize hσ3 : (zcpy (zcpy (zcpy (zcpy (zcpy σ2 6 0 6 2 8) 7 0 7 2 8) 8 0 8 2 8) 9 0 9 2 8) 10 0 10 2 10) = σ3
  replace h := h σ3 hσ3.symm
  refine r_copy (gs := 11) (xs := 0) (gd := 11) (xd := 2) (n := 4) lkX6_64 (by decide +kernel) (by decide) rfl rfl (by decide) (Nat.le_of_ble_eq_true rfl) (by decide) ?_
  exact r_retv (by decide +kernel) rfl h
theorem gX6_take10 (σ : Hp) {Q : Option Int → Hp → Prop} (h : ∀ σ1 : Hp, σ1 = (zup (zup (zup (zup (zup (zup (zup σ 1 1 0 (σ 1 0 0)) 1 1 1 (σ 1 0 1)) 1 1 2 (σ 1 0 2)) 1 1 3 (σ 1 0 3)) 1 1 4 (σ 1 0 4)) 1 1 5 (σ 1 0 5)) 1 1 6 (σ 1 0 6)) → ∀ σ2 : Hp, σ2 = (zcpy (zcpy (zcpy (zcpy σ1 2 0 2 1 14) 3 0 3 1 14) 4 0 4 1 14) 5 0 5 1 14) → ∀ σ3 : Hp, σ3 = (zcpy (zcpy (zcpy (zcpy (zcpy σ2 6 0 6 1 8) 7 0 7 1 8) 8 0 8 1 8) 9 0 9 1 8) 10 0 10 1 10) → Q none (zcpy σ3 11 0 11 1 4)) : Runs 1 mX6_takeFrom 0 [zR 1 1, zR 1 0] [] σ Q := by
  refine r_blk [qO (.aload_n 0), qO (.aload_n 1), qF (.getfield 9) 6 0, qF (.putfield 9) 6 0, qO (.aload_n 0), qO (.aload_n 1), qF (.getfield 46) 6 1, qF (.putfield 46) 6 1, qO (.aload_n 0), qO (.aload_n 1), qF (.getfield 49) 6 2, qF (.putfield 49) 6 2, qO (.aload_n 0), qO (.aload_n 1), qF (.getfield 52) 6 3, qF (.putfield 52) 6 3, qO (.aload_n 0), qO (.aload_n 1), qF (.getfield 55) 6 4, qF (.putfield 55) 6 4, qO (.aload_n 0), qO (.aload_n 1), qF (.getfield 58) 6 5, qF (.putfield 58) 6 5, qO (.aload_n 0), qO (.aload_n 1), qF (.getfield 61) 6 6, qF (.putfield 61) 6 6, qO (.aload_n 1), qF (.getfield 15) 6 7, qO (.iconst 0), qO (.aload_n 0), qF (.getfield 15) 6 7, qO (.iconst 0), qO (.bipush 14)] (pc' := 68) (L' := [zR 1 1, zR 1 0]) (S' := [zI 14, zI 0, zR 2 1, zI 0, zR 2 0]) (σ' := (zup (zup (zup (zup (zup (zup (zup σ 1 1 0 (σ 1 0 0)) 1 1 1 (σ 1 0 1)) 1 1 2 (σ 1 0 2)) 1 1 3 (σ 1 0 3)) 1 1 4 (σ 1 0 4)) 1 1 5 (σ 1 0 5)) 1 1 6 (σ 1 0 6))) (Ps := []) (by decide +kernel) rfl trivial ?_
  generalize hσ1 : (zup (zup (zup (zup (zup (zup (zup σ 1 1 0 (σ 1 0 0)) 1 1 1 (σ 1 0 1)) 1 1 2 (σ 1 0 2)) 1 1 3 (σ 1 0 3)) 1 1 4 (σ 1 0 4)) 1 1 5 (σ 1 0 5)) 1 1 6 (σ 1 0 6)) = σ1
  replace h := h σ1 hσ1.symm
  refine r_copy (gs := 2) (xs := 0) (gd := 2) (xd := 1) (n := 14) lkX6_64 (by decide +kernel) (by decide) rfl rfl (by decide) (Nat.le_of_ble_eq_true rfl) (by decide) ?_
  refine r_blk [qO (.aload_n 1), qF (.getfield 19) 6 8, qO (.iconst 0), qO (.aload_n 0), qF (.getfield 19) 6 8, qO (.iconst 0), qO (.bipush 14)] (pc' := 83) (L' := [zR 1 1, zR 1 0]) (S' := [zI 14, zI 0, zR 3 1, zI 0, zR 3 0]) (σ' := (zcpy σ1 2 0 2 1 14)) (Ps := []) (by decide +kernel) rfl trivial ?_
  refine r_copy (gs := 3) (xs := 0) (gd := 3) (xd := 1) (n := 14) lkX6_64 (by decide +kernel) (by decide) rfl rfl (by decide) (Nat.le_of_ble_eq_true rfl) (by decide) ?_
  refine r_blk [qO (.aload_n 1), qF (.getfield 22) 6 9, qO (.iconst 0), qO (.aload_n 0), qF (.getfield 22) 6 9, qO (.iconst 0), qO (.bipush 14)] (pc' := 98) (L' := [zR 1 1, zR 1 0]) (S' := [zI 14, zI 0, zR 4 1, zI 0, zR 4 0]) (σ' := (zcpy (zcpy σ1 2 0 2 1 14) 3 0 3 1 14)) (Ps := []) (by decide +kernel) rfl trivial ?_
  refine r_copy (gs := 4) (xs := 0) (gd := 4) (xd := 1) (n := 14) lkX6_64 (by decide +kernel) (by decide) rfl rfl (by decide) (Nat.le_of_ble_eq_true rfl) (by decide) ?_
  refine r_blk [qO (.aload_n 1), qF (.getfield 25) 6 10, qO (.iconst 0), qO (.aload_n 0), qF (.getfield 25) 6 10, qO (.iconst 0), qO (.bipush 14)] (pc' := 113) (L' := [zR 1 1, zR 1 0]) (S' := [zI 14, zI 0, zR 5 1, zI 0, zR 5 0]) (σ' := (zcpy (zcpy (zcpy σ1 2 0 2 1 14) 3 0 3 1 14) 4 0 4 1 14)) (Ps := []) (by decide +kernel) rfl trivial ?_
  refine r_copy (gs := 5) (xs := 0) (gd := 5) (xd := 1) (n := 14) lkX6_64 (by decide +kernel) (by decide) rfl rfl (by decide) (Nat.le_of_ble_eq_true rfl) (by decide) ?_
  refine r_blk [qO (.aload_n 1), qF (.getfield 28) 6 11, qO (.iconst 0), qO (.aload_n 0), qF (.getfield 28) 6 11, qO (.iconst 0), qO (.bipush 8)] (pc' := 128) (L' := [zR 1 1, zR 1 0]) (S' := [zI 8, zI 0, zR 6 1, zI 0, zR 6 0]) (σ' := (zcpy (zcpy (zcpy (zcpy σ1 2 0 2 1 14) 3 0 3 1 14) 4 0 4 1 14) 5 0 5 1 14)) (Ps := []) (by decide +kernel) rfl trivial ?_
  generalize hσ2 : (zcpy (zcpy (zcpy (zcpy σ1 2 0 2 1 14) 3 0 3 1 14) 4 0 4 1 14) 5 0 5 1 14) = σ2
  replace h := h σ2 hσ2.symm
  refine r_copy (gs := 6) (xs := 0) (gd := 6) (xd := 1) (n := 8) lkX6_64 (by decide +kernel) (by decide) rfl rfl (by decide) (Nat.le_of_ble_eq_true rfl) (by decide) ?_
  refine r_blk [qO (.aload_n 1), qF (.getfield 31) 6 12, qO (.iconst 0), qO (.aload_n 0), qF (.getfield 31) 6 12, qO (.iconst 0), qO (.bipush 8)] (pc' := 143) (L' := [zR 1 1, zR 1 0]) (S' := [zI 8, zI 0, zR 7 1, zI 0, zR 7 0]) (σ' := (zcpy σ2 6 0 6 1 8)) (Ps := []) (by decide +kernel) rfl trivial ?_
  refine r_copy (gs := 7) (xs := 0) (gd := 7) (xd := 1) (n := 8) lkX6_64 (by decide +kernel) (by decide) rfl rfl (by decide) (Nat.le_of_ble_eq_true rfl) (by decide) ?_
  refine r_blk [qO (.aload_n 1), qF (.getfield 34) 6 13, qO (.iconst 0), qO (.aload_n 0), qF (.getfield 34) 6 13, qO (.iconst 0), qO (.bipush 8)] (pc' := 158) (L' := [zR 1 1, zR 1 0]) (S' := [zI 8, zI 0, zR 8 1, zI 0, zR 8 0]) (σ' := (zcpy (zcpy σ2 6 0 6 1 8) 7 0 7 1 8)) (Ps := []) (by decide +kernel) rfl trivial ?_
  refine r_copy (gs := 8) (xs := 0) (gd := 8) (xd := 1) (n := 8) lkX6_64 (by decide +kernel) (by decide) rfl rfl (by decide) (Nat.le_of_ble_eq_true rfl) (by decide) ?_
  refine r_blk [qO (.aload_n 1), qF (.getfield 37) 6 14, qO (.iconst 0), qO (.aload_n 0), qF (.getfield 37) 6 14, qO (.iconst 0), qO (.bipush 8)] (pc' := 173) (L' := [zR 1 1, zR 1 0]) (S' := [zI 8, zI 0, zR 9 1, zI 0, zR 9 0]) (σ' := (zcpy (zcpy (zcpy σ2 6 0 6 1 8) 7 0 7 1 8) 8 0 8 1 8)) (Ps := []) (by decide +kernel) rfl trivial ?_
  refine r_copy (gs := 9) (xs := 0) (gd := 9) (xd := 1) (n := 8) lkX6_64 (by decide +kernel) (by decide) rfl rfl (by decide) (Nat.le_of_ble_eq_true rfl) (by decide) ?_
  refine r_blk [qO (.aload_n 1), qF (.getfield 40) 6 15, qO (.iconst 0), qO (.aload_n 0), qF (.getfield 40) 6 15, qO (.iconst 0), qO (.bipush 10)] (pc' := 188) (L' := [zR 1 1, zR 1 0]) (S' := [zI 10, zI 0, zR 10 1, zI 0, zR 10 0]) (σ' := (zcpy (zcpy (zcpy (zcpy σ2 6 0 6 1 8) 7 0 7 1 8) 8 0 8 1 8) 9 0 9 1 8)) (Ps := []) (by decide +kernel) rfl trivial ?_
  refine r_copy (gs := 10) (xs := 0) (gd := 10) (xd := 1) (n := 10) lkX6_64 (by decide +kernel) (by decide) rfl rfl (by decide) (Nat.le_of_ble_eq_true rfl) (by decide) ?_
  refine r_blk [qO (.aload_n 1), qF (.getfield 43) 6 16, qO (.iconst 0), qO (.aload_n 0), qF (.getfield 43) 6 16, qO (.iconst 0), qO (.iconst 4)] (pc' := 202) (L' := [zR 1 1, zR 1 0]) (S' := [zI 4, zI 0, zR 11 1, zI 0, zR 11 0]) (σ' := (zcpy (zcpy (zcpy (zcpy (zcpy σ2 6 0 6 1 8) 7 0 7 1 8) 8 0 8 1 8) 9 0 9 1 8) 10 0 10 1 10)) (Ps := []) (by decide +kernel) rfl trivial ?_
  generalize hσ3 : (zcpy (zcpy (zcpy (zcpy (zcpy σ2 6 0 6 1 8) 7 0 7 1 8) 8 0 8 1 8) 9 0 9 1 8) 10 0 10 1 10) = σ3
  replace h := h σ3 hσ3.symm
  refine r_copy (gs := 11) (xs := 0) (gd := 11) (xd := 1) (n := 4) lkX6_64 (by decide +kernel) (by decide) rfl rfl (by decide) (Nat.le_of_ble_eq_true rfl) (by decide) ?_
  exact r_retv (by decide +kernel) rfl h
theorem gX6_take01 (σ : Hp) {Q : Option Int → Hp → Prop} (h : ∀ σ1 : Hp, σ1 = (zup (zup (zup (zup (zup (zup (zup σ 1 0 0 (σ 1 1 0)) 1 0 1 (σ 1 1 1)) 1 0 2 (σ 1 1 2)) 1 0 3 (σ 1 1 3)) 1 0 4 (σ 1 1 4)) 1 0 5 (σ 1 1 5)) 1 0 6 (σ 1 1 6)) → ∀ σ2 : Hp, σ2 = (zcpy (zcpy (zcpy (zcpy σ1 2 1 2 0 14) 3 1 3 0 14) 4 1 4 0 14) 5 1 5 0 14) → ∀ σ3 : Hp, σ3 = (zcpy (zcpy (zcpy (zcpy (zcpy σ2 6 1 6 0 8) 7 1 7 0 8) 8 1 8 0 8) 9 1 9 0 8) 10 1 10 0 10) → Q none (zcpy σ3 11 1 11 0 4)) : Runs 1 mX6_takeFrom 0 [zR 1 0, zR 1 1] [] σ Q := by
  refine r_blk [qO (.aload_n 0), qO (.aload_n 1), qF (.getfield 9) 6 0, qF (.putfield 9) 6 0, qO (.aload_n 0), qO (.aload_n 1), qF (.getfield 46) 6 1, qF (.putfield 46) 6 1, qO (.aload_n 0), qO (.aload_n 1), qF (.getfield 49) 6 2, qF (.putfield 49) 6 2, qO (.aload_n 0), qO (.aload_n 1), qF (.getfield 52) 6 3, qF (.putfield 52) 6 3, qO (.aload_n 0), qO (.aload_n 1), qF (.getfield 55) 6 4, qF (.putfield 55) 6 4, qO (.aload_n 0), qO (.aload_n 1), qF (.getfield 58) 6 5, qF (.putfield 58) 6 5, qO (.aload_n 0), qO (.aload_n 1), qF (.getfield 61) 6 6, qF (.putfield 61) 6 6, qO (.aload_n 1), qF (.getfield 15) 6 7, qO (.iconst 0), qO (.aload_n 0), qF (.getfield 15) 6 7, qO (.iconst 0), qO (.bipush 14)] (pc' := 68) (L' := [zR 1 0, zR 1 1]) (S' := [zI 14, zI 0, zR 2 0, zI 0, zR 2 1]) (σ' := (zup (zup (zup (zup (zup (zup (zup σ 1 0 0 (σ 1 1 0)) 1 0 1 (σ 1 1 1)) 1 0 2 (σ 1 1 2)) 1 0 3 (σ 1 1 3)) 1 0 4 (σ 1 1 4)) 1 0 5 (σ 1 1 5)) 1 0 6 (σ 1 1 6))) (Ps := []) (by decide +kernel) rfl trivial ?_
  generalize hσ1 : (zup (zup (zup (zup (zup (zup (zup σ 1 0 0 (σ 1 1 0)) 1 0 1 (σ 1 1 1)) 1 0 2 (σ 1 1 2)) 1 0 3 (σ 1 1 3)) 1 0 4 (σ 1 1 4)) 1 0 5 (σ 1 1 5)) 1 0 6 (σ 1 1 6)) = σ1
  replace h := h σ1 hσ1.symm
  refine r_copy (gs := 2) (xs := 1) (gd := 2) (xd := 0) (n := 14) lkX6_64 (by decide +kernel) (by decide) rfl rfl (by decide) (Nat.le_of_ble_eq_true rfl) (by decide) ?_
  refine r_blk [qO (.aload_n 1), qF (.getfield 19) 6 8, qO (.iconst 0), qO (.aload_n 0), qF (.getfield 19) 6 8, qO (.iconst 0), qO (.bipush 14)] (pc' := 83) (L' := [zR 1 0, zR 1 1]) (S' := [zI 14, zI 0, zR 3 0, zI 0, zR 3 1]) (σ' := (zcpy σ1 2 1 2 0 14)) (Ps := []) (by decide +kernel) rfl trivial ?_
  refine r_copy (gs := 3) (xs := 1) (gd := 3) (xd := 0) (n := 14) lkX6_64 (by decide +kernel) (by decide) rfl rfl (by decide) (Nat.le_of_ble_eq_true rfl) (by decide) ?_
  refine r_blk [qO (.aload_n 1), qF (.getfield 22) 6 9, qO (.iconst 0), qO (.aload_n 0), qF (.getfield 22) 6 9, qO (.iconst 0), qO (.bipush 14)] (pc' := 98) (L' := [zR 1 0, zR 1 1]) (S' := [zI 14, zI 0, zR 4 0, zI 0, zR 4 1]) (σ' := (zcpy (zcpy σ1 2 1 2 0 14) 3 1 3 0 14)) (Ps := []) (by decide +kernel) rfl trivial ?_
  refine r_copy (gs := 4) (xs := 1) (gd := 4) (xd := 0) (n := 14) lkX6_64 (by decide +kernel) (by decide) rfl rfl (by decide) (Nat.le_of_ble_eq_true rfl) (by decide) ?_
  refine r_blk [qO (.aload_n 1), qF (.getfield 25) 6 10, qO (.iconst 0), qO (.aload_n 0), qF (.getfield 25) 6 10, qO (.iconst 0), qO (.bipush 14)] (pc' := 113) (L' := [zR 1 0, zR 1 1]) (S' := [zI 14, zI 0, zR 5 0, zI 0, zR 5 1]) (σ' := (zcpy (zcpy (zcpy σ1 2 1 2 0 14) 3 1 3 0 14) 4 1 4 0 14)) (Ps := []) (by decide +kernel) rfl trivial ?_
  refine r_copy (gs := 5) (xs := 1) (gd := 5) (xd := 0) (n := 14) lkX6_64 (by decide +kernel) (by decide) rfl rfl (by decide) (Nat.le_of_ble_eq_true rfl) (by decide) ?_
  refine r_blk [qO (.aload_n 1), qF (.getfield 28) 6 11, qO (.iconst 0), qO (.aload_n 0), qF (.getfield 28) 6 11, qO (.iconst 0), qO (.bipush 8)] (pc' := 128) (L' := [zR 1 0, zR 1 1]) (S' := [zI 8, zI 0, zR 6 0, zI 0, zR 6 1]) (σ' := (zcpy (zcpy (zcpy (zcpy σ1 2 1 2 0 14) 3 1 3 0 14) 4 1 4 0 14) 5 1 5 0 14)) (Ps := []) (by decide +kernel) rfl trivial ?_
  generalize hσ2 : (zcpy (zcpy (zcpy (zcpy σ1 2 1 2 0 14) 3 1 3 0 14) 4 1 4 0 14) 5 1 5 0 14) = σ2
  replace h := h σ2 hσ2.symm
  refine r_copy (gs := 6) (xs := 1) (gd := 6) (xd := 0) (n := 8) lkX6_64 (by decide +kernel) (by decide) rfl rfl (by decide) (Nat.le_of_ble_eq_true rfl) (by decide) ?_
  refine r_blk [qO (.aload_n 1), qF (.getfield 31) 6 12, qO (.iconst 0), qO (.aload_n 0), qF (.getfield 31) 6 12, qO (.iconst 0), qO (.bipush 8)] (pc' := 143) (L' := [zR 1 0, zR 1 1]) (S' := [zI 8, zI 0, zR 7 0, zI 0, zR 7 1]) (σ' := (zcpy σ2 6 1 6 0 8)) (Ps := []) (by decide +kernel) rfl trivial ?_
  refine r_copy (gs := 7) (xs := 1) (gd := 7) (xd := 0) (n := 8) lkX6_64 (by decide +kernel) (by decide) rfl rfl (by decide) (Nat.le_of_ble_eq_true rfl) (by decide) ?_
  refine r_blk [qO (.aload_n 1), qF (.getfield 34) 6 13, qO (.iconst 0), qO (.aload_n 0), qF (.getfield 34) 6 13, qO (.iconst 0), qO (.bipush 8)] (pc' := 158) (L' := [zR 1 0, zR 1 1]) (S' := [zI 8, zI 0, zR 8 0, zI 0, zR 8 1]) (σ' := (zcpy (zcpy σ2 6 1 6 0 8) 7 1 7 0 8)) (Ps := []) (by decide +kernel) rfl trivial ?_
  refine r_copy (gs := 8) (xs := 1) (gd := 8) (xd := 0) (n := 8) lkX6_64 (by decide +kernel) (by decide) rfl rfl (by decide) (Nat.le_of_ble_eq_true rfl) (by decide) ?_
  refine r_blk [qO (.aload_n 1), qF (.getfield 37) 6 14, qO (.iconst 0), qO (.aload_n 0), qF (.getfield 37) 6 14, qO (.iconst 0), qO (.bipush 8)] (pc' := 173) (L' := [zR 1 0, zR 1 1]) (S' := [zI 8, zI 0, zR 9 0, zI 0, zR 9 1]) (σ' := (zcpy (zcpy (zcpy σ2 6 1 6 0 8) 7 1 7 0 8) 8 1 8 0 8)) (Ps := []) (by decide +kernel) rfl trivial ?_
  refine r_copy (gs := 9) (xs := 1) (gd := 9) (xd := 0) (n := 8) lkX6_64 (by decide +kernel) (by decide) rfl rfl (by decide) (Nat.le_of_ble_eq_true rfl) (by decide) ?_
  refine r_blk [qO (.aload_n 1), qF (.getfield 40) 6 15, qO (.iconst 0), qO (.aload_n 0), qF (.getfield 40) 6 15, qO (.iconst 0), qO (.bipush 10)] (pc' := 188) (L' := [zR 1 0, zR 1 1]) (S' := [zI 10, zI 0, zR 10 0, zI 0, zR 10 1]) (σ' := (zcpy (zcpy (zcpy (zcpy σ2 6 1 6 0 8) 7 1 7 0 8) 8 1 8 0 8) 9 1 9 0 8)) (Ps := []) (by decide +kernel) rfl trivial ?_
  refine r_copy (gs := 10) (xs := 1) (gd := 10) (xd := 0) (n := 10) lkX6_64 (by decide +kernel) (by decide) rfl rfl (by decide) (Nat.le_of_ble_eq_true rfl) (by decide) ?_
  refine r_blk [qO (.aload_n 1), qF (.getfield 43) 6 16, qO (.iconst 0), qO (.aload_n 0), qF (.getfield 43) 6 16, qO (.iconst 0), qO (.iconst 4)] (pc' := 202) (L' := [zR 1 0, zR 1 1]) (S' := [zI 4, zI 0, zR 11 0, zI 0, zR 11 1]) (σ' := (zcpy (zcpy (zcpy (zcpy (zcpy σ2 6 1 6 0 8) 7 1 7 0 8) 8 1 8 0 8) 9 1 9 0 8) 10 1 10 0 10)) (Ps := []) (by decide +kernel) rfl trivial ?_
  generalize hσ3 : (zcpy (zcpy (zcpy (zcpy (zcpy σ2 6 1 6 0 8) 7 1 7 0 8) 8 1 8 0 8) 9 1 9 0 8) 10 1 10 0 10) = σ3
  replace h := h σ3 hσ3.symm
  refine r_copy (gs := 11) (xs := 1) (gd := 11) (xd := 0) (n := 4) lkX6_64 (by decide +kernel) (by decide) rfl rfl (by decide) (Nat.le_of_ble_eq_true rfl) (by decide) ?_
  exact r_retv (by decide +kernel) rfl h
