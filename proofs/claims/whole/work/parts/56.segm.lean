theorem gX11_procession_0 (σ : Hp) {Q : Option Int → Hp → Prop} (h : ((2 ≤ σ 36 0 6 → Runs 4 mX11_procession 32 [zR 34 0, zI (σ 36 0 6), zI 0, zI 0, zU] [] (zup σ 36 0 6 0) Q) ∧ (¬ 2 ≤ σ 36 0 6 → (-6 ≤ (-3) ∧ (-3) ≤ -1) ∧ (σ 35 0 (-(-3)).toNat ≤ 2147483646) ∧ ∀ σ1 : Hp, σ1 = zup σ 35 0 (-(-3)).toNat (σ 35 0 (-(-3)).toNat + 1) → Q (some (-3)) σ1))) : Runs 4 mX11_procession 0 [zR 34 0, zU, zU, zU, zU] [] σ Q := by
  refine r_blk [qO (.aload_n 0), qF (.getfield 13) 11 1, qO (.bipush 6), qO .iaload, qO (.istore_n 1), qO (.iload_n 1), qO (.iconst 2)] (pc' := 10) (L' := [zR 34 0, zI (σ 36 0 6), zU, zU, zU]) (S' := [zI 2, zI (σ 36 0 6)]) (σ' := σ) (Ps := [0 ≤ 6 ∧ 6 < 123]) (by decide +kernel) rfl ⟨(by decide), trivial⟩ ?_
  refine r_icmp_ge (off := 10) (tgt := 20) (by decide +kernel) (by decide) (fun c => ?_) (fun c => ?_)
  · replace h := h.1 c
    refine r_blk [qO (.aload_n 0), qF (.getfield 13) 11 1, qO (.bipush 6), qO (.iconst 0), qO .iastore, qO (.iconst 0), qO (.istore_n 2), qO (.iconst 0), qO (.istore_n 3)] (pc' := 32) (L' := [zR 34 0, zI (σ 36 0 6), zI 0, zI 0, zU]) (S' := []) (σ' := (zup σ 36 0 6 0)) (Ps := [0 ≤ 6 ∧ 6 < 123]) (by decide +kernel) rfl ⟨(by decide), trivial⟩ ?_
    exact Runs.fg (fgE (fgE (fgE (fgE (fgU fg0))))) h
  · replace h := h.2 c
    refine r_blk [qO (.aload_n 0), qO (.bipush (-3))] (pc' := 16) (L' := [zR 34 0, zI (σ 36 0 6), zU, zU, zU]) (S' := [zI (-3), zR 34 0]) (σ' := σ) (Ps := []) (by decide +kernel) rfl trivial ?_
    refine r_callVI (As := [zI (-3)]) (S := []) (Lc := [zR 34 0, zI (-3)]) (d' := 0) (n := 1) (g := 34) (x := 0) (ci := 11) kX11_refuse vX11_refuse lkX11_66 (by decide +kernel) (by decide) rfl rfl (by decide) rfl rfl (Nat.le_of_ble_eq_true rfl) rfl rfl (Nat.le_of_ble_eq_true rfl) (pX11_refuse h.1 h.2.1 ?_)
    replace h := h.2.2
    generalize hσ1 : zup σ 35 0 (-(-3)).toNat (σ 35 0 (-(-3)).toNat + 1) = σ1
    replace h := h σ1 hσ1.symm
    exact r_ret (by decide +kernel) rfl (fun _ => h)
theorem gX11_procession_32 (l1 : Int) (l2 : Int) (l3 : Int) (σ : Hp) {Q : Option Int → Hp → Prop} (h : ((l1 ≤ l3 → Q (some l2) σ) ∧ (¬ l1 ≤ l3 → (-2147483648 ≤ 113 + l3 ∧ 113 + l3 ≤ 2147483647) ∧ (0 ≤ 113 + l3 ∧ 113 + l3 < 123) ∧ (-2147483648 ≤ l3 + 1 ∧ l3 + 1 ≤ 2147483647) ∧ (l1 ≠ 0) ∧ (-2147483648 ≤ 113 + (zrem (l3 + 1) l1) ∧ 113 + (zrem (l3 + 1) l1) ≤ 2147483647) ∧ (0 ≤ 113 + (zrem (l3 + 1) l1) ∧ 113 + (zrem (l3 + 1) l1) < 123) ∧ Runs 3 mX11_along 0 [zR 34 0, zI (σ 36 0 ((113 + l3).toNat)), zI (σ 36 0 ((113 + (zrem (l3 + 1) l1)).toNat)), zU, zU, zU] [] σ (rI (fun z2 σ1 => ((0 ≤ z2 → (-2147483648 ≤ l2 + z2 ∧ l2 + z2 ≤ 2147483647) ∧ (-2147483648 ≤ l3 + 1 ∧ l3 + 1 ≤ 2147483647) ∧ Runs 4 mX11_procession 32 [zR 34 0, zI l1, zI (l2 + z2), zI (l3 + 1), zU] [] σ1 Q) ∧ (¬ 0 ≤ z2 → Q (some (-9)) σ1))))))) : Runs 4 mX11_procession 32 [zR 34 0, zI l1, zI l2, zI l3, zU] [] σ Q := by
  refine r_blk [qO (.iload_n 3), qO (.iload_n 1)] (pc' := 34) (L' := [zR 34 0, zI l1, zI l2, zI l3, zU]) (S' := [zI l1, zI l3]) (σ' := σ) (Ps := []) (by decide +kernel) rfl trivial ?_
  refine r_icmp_ge (off := 50) (tgt := 84) (by decide +kernel) (by decide) (fun c => ?_) (fun c => ?_)
  · replace h := h.1 c
    refine r_blk [qO (.iload_n 2)] (pc' := 85) (L' := [zR 34 0, zI l1, zI l2, zI l3, zU]) (S' := [zI l2]) (σ' := σ) (Ps := []) (by decide +kernel) rfl trivial ?_
    exact r_ret (by decide +kernel) rfl (fun _ => h)
  · replace h := h.2 c
    refine r_blk [qO (.aload_n 0), qO (.aload_n 0), qF (.getfield 13) 11 1, qO (.bipush 113), qO (.iload_n 3), qO .iadd, qO .iaload, qO (.aload_n 0), qF (.getfield 13) 11 1, qO (.bipush 113), qO (.iload_n 3), qO (.iconst 1), qO .iadd, qO (.iload_n 1), qO .irem, qO .iadd, qO .iaload] (pc' := 60) (L' := [zR 34 0, zI l1, zI l2, zI l3, zU]) (S' := [zI (σ 36 0 ((113 + (zrem (l3 + 1) l1)).toNat)), zI (σ 36 0 ((113 + l3).toNat)), zR 34 0]) (σ' := σ) (Ps := [-2147483648 ≤ 113 + l3 ∧ 113 + l3 ≤ 2147483647, 0 ≤ 113 + l3 ∧ 113 + l3 < 123, -2147483648 ≤ l3 + 1 ∧ l3 + 1 ≤ 2147483647, l1 ≠ 0, -2147483648 ≤ 113 + (zrem (l3 + 1) l1) ∧ 113 + (zrem (l3 + 1) l1) ≤ 2147483647, 0 ≤ 113 + (zrem (l3 + 1) l1) ∧ 113 + (zrem (l3 + 1) l1) < 123]) (by decide +kernel) rfl ⟨h.1, h.2.1, h.2.2.1, h.2.2.2.1, h.2.2.2.2.1, h.2.2.2.2.2.1, trivial⟩ ?_
    replace h := h.2.2.2.2.2.2
    refine r_callVI (As := [zI (σ 36 0 ((113 + l3).toNat)), zI (σ 36 0 ((113 + (zrem (l3 + 1) l1)).toNat))]) (S := []) (Lc := [zR 34 0, zI (σ 36 0 ((113 + l3).toNat)), zI (σ 36 0 ((113 + (zrem (l3 + 1) l1)).toNat)), zU, zU, zU]) (d' := 3) (n := 2) (g := 34) (x := 0) (ci := 11) kX11_along vX11_along lkX11_203 (by decide +kernel) (by decide) rfl rfl (by decide) rfl rfl (Nat.le_of_ble_eq_true rfl) rfl rfl (Nat.le_of_ble_eq_true rfl) (h.monoI (fun z2 σ1 h => ?_))
    refine r_blk [qO (.istore 4), qO (.iload 4)] (pc' := 67) (L' := [zR 34 0, zI l1, zI l2, zI l3, zI z2]) (S' := [zI z2]) (σ' := σ1) (Ps := []) (by decide +kernel) rfl trivial ?_
    refine r_if_ge (off := 6) (tgt := 73) (by decide +kernel) (by decide) (fun c => ?_) (fun c => ?_)
    · replace h := h.1 c
      refine r_blk [qO (.iload_n 2), qO (.iload 4), qO .iadd, qO (.istore_n 2), qO (.iinc 3 1), qO (.goto (-49))] (pc' := 32) (L' := [zR 34 0, zI l1, zI (l2 + z2), zI (l3 + 1), zI z2]) (S' := []) (σ' := σ1) (Ps := [-2147483648 ≤ l2 + z2 ∧ l2 + z2 ≤ 2147483647, -2147483648 ≤ l3 + 1 ∧ l3 + 1 ≤ 2147483647]) (by decide +kernel) rfl ⟨h.1, h.2.1, trivial⟩ ?_
      replace h := h.2.2
      exact Runs.fg (fgE (fgE (fgE (fgE (fgU fg0))))) h
    · replace h := h.2 c
      refine r_blk [qO (.bipush (-9))] (pc' := 72) (L' := [zR 34 0, zI l1, zI l2, zI l3, zI z2]) (S' := [zI (-9)]) (σ' := σ1) (Ps := []) (by decide +kernel) rfl trivial ?_
      exact r_ret (by decide +kernel) rfl (fun _ => h)
theorem gX11_judge_0 (σ : Hp) {Q : Option Int → Hp → Prop} (h : Runs 4 mX11_judge 2 [zR 34 0, zI 0, zU] [] σ Q) : Runs 4 mX11_judge 0 [zR 34 0, zU, zU] [] σ Q := by
  refine r_blk [qO (.iconst 0), qO (.istore_n 1)] (pc' := 2) (L' := [zR 34 0, zI 0, zU]) (S' := []) (σ' := σ) (Ps := []) (by decide +kernel) rfl trivial ?_
  exact Runs.fg (fgE (fgE (fgU fg0))) h
theorem gX11_judge_2 (l1 : Int) (σ : Hp) {Q : Option Int → Hp → Prop} (h : ((σ 36 0 1 ≤ l1 → Runs 3 mX11_findsFar 0 [zR 34 0, zI 0, zU, zU, zU, zU] [] σ (rV (fun σ1 => Runs 4 mX11_judge 56 [zR 34 0, zI 0, zU] [] σ1 Q))) ∧ (¬ σ 36 0 1 ≤ l1 → (0 ≤ l1 ∧ l1 < 14) ∧ ((2 ≤ sg (σ 36 0) l1 4 → (-2147483648 ≤ l1 + 1 ∧ l1 + 1 ≤ 2147483647) ∧ Runs 4 mX11_judge 2 [zR 34 0, zI (l1 + 1), zU] [] σ Q) ∧ (¬ 2 ≤ sg (σ 36 0) l1 4 → (0 ≤ l1 ∧ l1 < 14) ∧ ((bitz (σ 36 0 3) l1 = sg (σ 36 0) l1 4 → (-2147483648 ≤ l1 + 1 ∧ l1 + 1 ≤ 2147483647) ∧ Runs 4 mX11_judge 2 [zR 34 0, zI (l1 + 1), zU] [] σ Q) ∧ (¬ bitz (σ 36 0 3) l1 = sg (σ 36 0) l1 4 → Q (some l1) σ))))))) : Runs 4 mX11_judge 2 [zR 34 0, zI l1, zU] [] σ Q := by
  refine r_blk [qO (.iload_n 1), qO (.aload_n 0), qF (.getfield 13) 11 1, qO (.iconst 1), qO .iaload] (pc' := 9) (L' := [zR 34 0, zI l1, zU]) (S' := [zI (σ 36 0 1), zI l1]) (σ' := σ) (Ps := [0 ≤ 1 ∧ 1 < 123]) (by decide +kernel) rfl ⟨(by decide), trivial⟩ ?_
  refine r_icmp_ge (off := 40) (tgt := 49) (by decide +kernel) (by decide) (fun c => ?_) (fun c => ?_)
  · replace h := h.1 c
    refine r_blk [qO (.aload_n 0), qO (.iconst 0)] (pc' := 51) (L' := [zR 34 0, zI l1, zU]) (S' := [zI 0, zR 34 0]) (σ' := σ) (Ps := []) (by decide +kernel) rfl trivial ?_
    refine r_callVV (As := [zI 0]) (S := []) (Lc := [zR 34 0, zI 0, zU, zU, zU, zU]) (d' := 3) (n := 1) (g := 34) (x := 0) (ci := 11) kX11_findsFar vX11_findsFar lkX11_156 (by decide +kernel) (by decide) rfl rfl (by decide) rfl rfl (Nat.le_of_ble_eq_true rfl) rfl rfl (Nat.le_of_ble_eq_true rfl) (h.monoV (fun σ1 h => ?_))
    refine r_blk [qO (.iconst 0), qO (.istore_n 1)] (pc' := 56) (L' := [zR 34 0, zI 0, zU]) (S' := []) (σ' := σ1) (Ps := []) (by decide +kernel) rfl trivial ?_
    exact Runs.fg (fgE (fgE (fgU fg0))) h
  · replace h := h.2 c
    refine r_blk [qO (.aload_n 0), qO (.iload_n 1), qO (.iconst 4)] (pc' := 15) (L' := [zR 34 0, zI l1, zU]) (S' := [zI 4, zI l1, zR 34 0]) (σ' := σ) (Ps := []) (by decide +kernel) rfl trivial ?_
    refine r_callVI (As := [zI l1, zI 4]) (S := []) (Lc := [zR 34 0, zI l1, zI 4]) (d' := 0) (n := 2) (g := 34) (x := 0) (ci := 11) kX11_get vX11_get lkX11_106 (by decide +kernel) (by decide) rfl rfl (by decide) rfl rfl (Nat.le_of_ble_eq_true rfl) rfl rfl (Nat.le_of_ble_eq_true rfl) (pX11_get h.1 (by decide) ?_)
    replace h := h.2
    refine r_blk [qO (.iconst 2)] (pc' := 19) (L' := [zR 34 0, zI l1, zU]) (S' := [zI 2, zI (sg (σ 36 0) l1 4)]) (σ' := σ) (Ps := []) (by decide +kernel) rfl trivial ?_
    refine r_icmp_ge (off := 24) (tgt := 43) (by decide +kernel) (by decide) (fun c => ?_) (fun c => ?_)
    · replace h := h.1 c
      refine r_blk [qO (.iinc 1 1), qO (.goto (-44))] (pc' := 2) (L' := [zR 34 0, zI (l1 + 1), zU]) (S' := []) (σ' := σ) (Ps := [-2147483648 ≤ l1 + 1 ∧ l1 + 1 ≤ 2147483647]) (by decide +kernel) rfl ⟨h.1, trivial⟩ ?_
      replace h := h.2
      exact Runs.fg (fgE (fgE (fgU fg0))) h
    · replace h := h.2 c
      refine r_blk [qO (.aload_n 0), qF (.getfield 13) 11 1, qO (.iconst 3), qO .iaload, qO (.iload_n 1), qO .ishr, qO (.iconst 1), qO .iand, qO (.aload_n 0), qO (.iload_n 1), qO (.iconst 4)] (pc' := 35) (L' := [zR 34 0, zI l1, zU]) (S' := [zI 4, zI l1, zR 34 0, zI (bitz (σ 36 0 3) l1)]) (σ' := σ) (Ps := [0 ≤ 3 ∧ 3 < 123]) (by decide +kernel) rfl ⟨(by decide), trivial⟩ ?_
      refine r_callVI (As := [zI l1, zI 4]) (S := [zI (bitz (σ 36 0 3) l1)]) (Lc := [zR 34 0, zI l1, zI 4]) (d' := 0) (n := 2) (g := 34) (x := 0) (ci := 11) kX11_get vX11_get lkX11_106 (by decide +kernel) (by decide) rfl rfl (by decide) rfl rfl (Nat.le_of_ble_eq_true rfl) rfl rfl (Nat.le_of_ble_eq_true rfl) (pX11_get h.1 (by decide) ?_)
      replace h := h.2
      refine r_icmp_eq (off := 5) (tgt := 43) (by decide +kernel) (by decide) (fun c => ?_) (fun c => ?_)
      · replace h := h.1 c
        refine r_blk [qO (.iinc 1 1), qO (.goto (-44))] (pc' := 2) (L' := [zR 34 0, zI (l1 + 1), zU]) (S' := []) (σ' := σ) (Ps := [-2147483648 ≤ l1 + 1 ∧ l1 + 1 ≤ 2147483647]) (by decide +kernel) rfl ⟨h.1, trivial⟩ ?_
        replace h := h.2
        exact Runs.fg (fgE (fgE (fgU fg0))) h
      · replace h := h.2 c
        refine r_blk [qO (.iload_n 1)] (pc' := 42) (L' := [zR 34 0, zI l1, zU]) (S' := [zI l1]) (σ' := σ) (Ps := []) (by decide +kernel) rfl trivial ?_
        exact r_ret (by decide +kernel) rfl (fun _ => h)
theorem gX11_judge_56 (l1 : Int) (σ : Hp) {Q : Option Int → Hp → Prop} (h : ((σ 36 0 0 ≤ l1 → Q (some (-9)) σ) ∧ (¬ σ 36 0 0 ≤ l1 → Runs 4 mX11_judge 68 [zR 34 0, zI l1, zI 0] [] σ Q))) : Runs 4 mX11_judge 56 [zR 34 0, zI l1, zU] [] σ Q := by
  refine r_blk [qO (.iload_n 1), qO (.aload_n 0), qF (.getfield 13) 11 1, qO (.iconst 0), qO .iaload] (pc' := 63) (L' := [zR 34 0, zI l1, zU]) (S' := [zI (σ 36 0 0), zI l1]) (σ' := σ) (Ps := [0 ≤ 0 ∧ 0 < 123]) (by decide +kernel) rfl ⟨(by decide), trivial⟩ ?_
  refine r_icmp_ge (off := 53) (tgt := 116) (by decide +kernel) (by decide) (fun c => ?_) (fun c => ?_)
  · replace h := h.1 c
    refine r_blk [qO (.bipush (-9))] (pc' := 118) (L' := [zR 34 0, zI l1, zU]) (S' := [zI (-9)]) (σ' := σ) (Ps := []) (by decide +kernel) rfl trivial ?_
    exact r_ret (by decide +kernel) rfl (fun _ => h)
  · replace h := h.2 c
    refine r_blk [qO (.iconst 0), qO (.istore_n 2)] (pc' := 68) (L' := [zR 34 0, zI l1, zI 0]) (S' := []) (σ' := σ) (Ps := []) (by decide +kernel) rfl trivial ?_
    exact Runs.fg (fgE (fgE (fgE fg0))) h
theorem gX11_judge_68 (l1 : Int) (l2 : Int) (σ : Hp) {Q : Option Int → Hp → Prop} (h : ((σ 36 0 0 ≤ l2 → (-2147483648 ≤ l1 + 1 ∧ l1 + 1 ≤ 2147483647) ∧ Runs 4 mX11_judge 56 [zR 34 0, zI (l1 + 1), zU] [] σ Q) ∧ (¬ σ 36 0 0 ≤ l2 → (-2147483648 ≤ 10 * l1 ∧ 10 * l1 ≤ 2147483647) ∧ (-2147483648 ≤ (10 * l1) + l2 ∧ (10 * l1) + l2 ≤ 2147483647) ∧ (0 ≤ (10 * l1) + l2 ∧ (10 * l1) + l2 < 100) ∧ ((σ 46 0 (((10 * l1) + l2).toNat) < 1000000000 → (-2147483648 ≤ l2 + 1 ∧ l2 + 1 ≤ 2147483647) ∧ Runs 4 mX11_judge 68 [zR 34 0, zI l1, zI (l2 + 1)] [] σ Q) ∧ (¬ σ 46 0 (((10 * l1) + l2).toNat) < 1000000000 → (-2147483648 ≤ 10 * l1 ∧ 10 * l1 ≤ 2147483647) ∧ (-2147483648 ≤ 100 + (10 * l1) ∧ 100 + (10 * l1) ≤ 2147483647) ∧ (-2147483648 ≤ (100 + (10 * l1)) + l2 ∧ (100 + (10 * l1)) + l2 ≤ 2147483647) ∧ Q (some ((100 + (10 * l1)) + l2)) σ))))) : Runs 4 mX11_judge 68 [zR 34 0, zI l1, zI l2] [] σ Q := by
  refine r_blk [qO (.iload_n 2), qO (.aload_n 0), qF (.getfield 13) 11 1, qO (.iconst 0), qO .iaload] (pc' := 75) (L' := [zR 34 0, zI l1, zI l2]) (S' := [zI (σ 36 0 0), zI l2]) (σ' := σ) (Ps := [0 ≤ 0 ∧ 0 < 123]) (by decide +kernel) rfl ⟨(by decide), trivial⟩ ?_
  refine r_icmp_ge (off := 35) (tgt := 110) (by decide +kernel) (by decide) (fun c => ?_) (fun c => ?_)
  · replace h := h.1 c
    refine r_blk [qO (.iinc 1 1), qO (.goto (-57))] (pc' := 56) (L' := [zR 34 0, zI (l1 + 1), zI l2]) (S' := []) (σ' := σ) (Ps := [-2147483648 ≤ l1 + 1 ∧ l1 + 1 ≤ 2147483647]) (by decide +kernel) rfl ⟨h.1, trivial⟩ ?_
    replace h := h.2
    exact Runs.fg (fgE (fgE (fgU fg0))) h
  · replace h := h.2 c
    refine r_blk [qO (.aload_n 0), qF (.getfield 44) 11 16, qO (.bipush 10), qO (.iload_n 1), qO .imul, qO (.iload_n 2), qO .iadd, qO .iaload, qC (.ldc 155) 1000000000] (pc' := 91) (L' := [zR 34 0, zI l1, zI l2]) (S' := [zI 1000000000, zI (σ 46 0 (((10 * l1) + l2).toNat))]) (σ' := σ) (Ps := [-2147483648 ≤ 10 * l1 ∧ 10 * l1 ≤ 2147483647, -2147483648 ≤ (10 * l1) + l2 ∧ (10 * l1) + l2 ≤ 2147483647, 0 ≤ (10 * l1) + l2 ∧ (10 * l1) + l2 < 100]) (by decide +kernel) rfl ⟨h.1, h.2.1, h.2.2.1, trivial⟩ ?_
    replace h := h.2.2.2
    refine r_icmp_lt (off := 13) (tgt := 104) (by decide +kernel) (by decide) (fun c => ?_) (fun c => ?_)
    · replace h := h.1 c
      refine r_blk [qO (.iinc 2 1), qO (.goto (-39))] (pc' := 68) (L' := [zR 34 0, zI l1, zI (l2 + 1)]) (S' := []) (σ' := σ) (Ps := [-2147483648 ≤ l2 + 1 ∧ l2 + 1 ≤ 2147483647]) (by decide +kernel) rfl ⟨h.1, trivial⟩ ?_
      replace h := h.2
      exact Runs.fg (fgE (fgE (fgE fg0))) h
    · replace h := h.2 c
      refine r_blk [qO (.bipush 100), qO (.bipush 10), qO (.iload_n 1), qO .imul, qO .iadd, qO (.iload_n 2), qO .iadd] (pc' := 103) (L' := [zR 34 0, zI l1, zI l2]) (S' := [zI ((100 + (10 * l1)) + l2)]) (σ' := σ) (Ps := [-2147483648 ≤ 10 * l1 ∧ 10 * l1 ≤ 2147483647, -2147483648 ≤ 100 + (10 * l1) ∧ 100 + (10 * l1) ≤ 2147483647, -2147483648 ≤ (100 + (10 * l1)) + l2 ∧ (100 + (10 * l1)) + l2 ≤ 2147483647]) (by decide +kernel) rfl ⟨h.1, h.2.1, h.2.2.1, trivial⟩ ?_
      replace h := h.2.2.2
      exact r_ret (by decide +kernel) rfl (fun _ => h)
