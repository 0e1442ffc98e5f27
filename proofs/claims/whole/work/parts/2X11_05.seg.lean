theorem gX11_bestNoon_0 (σ : Hp) {Q : Option Int → Hp → Prop} (h : Runs 6 mX11_bestNoon 16 [zR 34 0, zI (σ 36 0 7), zI (-9), zI 0, zI 0, zU] [] σ Q) : Runs 6 mX11_bestNoon 0 [zR 34 0, zU, zU, zU, zU, zU] [] σ Q := by
  refine r_blk [qO (.aload_n 0), qF (.getfield 13) 11 1, qO (.bipush 7), qO .iaload, qO (.istore_n 1), qO (.bipush (-9)), qO (.istore_n 2), qO (.iconst 0), qO (.istore_n 3), qO (.iconst 0), qO (.istore 4)] (pc' := 16) (L' := [zR 34 0, zI (σ 36 0 7), zI (-9), zI 0, zI 0, zU]) (S' := []) (σ' := σ) (Ps := [0 ≤ 7 ∧ 7 < 123]) (by decide +kernel) rfl ⟨(by decide), trivial⟩ ?_
  exact Runs.fg (fgE (fgE (fgE (fgE (fgE (fgU fg0)))))) h
theorem gX11_bestNoon_16 (l1 : Int) (l2 : Int) (l3 : Int) (l4 : Int) (σ : Hp) {Q : Option Int → Hp → Prop} (h : ((1380 < l4 → Q (some l2) (zup σ 36 0 7 l1)) ∧ (¬ 1380 < l4 → Runs 5 mX11_costOf 0 [zR 34 0, zU, zU, zU] [] (zup σ 36 0 7 l4) (rI (fun z2 σ1 => ((l2 < 0 → (-2147483648 ≤ l4 + 60 ∧ l4 + 60 ≤ 2147483647) ∧ Runs 6 mX11_bestNoon 16 [zR 34 0, zI l1, zI l4, zI z2, zI (l4 + 60), zU] [] σ1 Q) ∧ (¬ l2 < 0 → ((z2 < l3 → (-2147483648 ≤ l4 + 60 ∧ l4 + 60 ≤ 2147483647) ∧ Runs 6 mX11_bestNoon 16 [zR 34 0, zI l1, zI l4, zI z2, zI (l4 + 60), zU] [] σ1 Q) ∧ (¬ z2 < l3 → (-2147483648 ≤ l4 + 60 ∧ l4 + 60 ≤ 2147483647) ∧ Runs 6 mX11_bestNoon 16 [zR 34 0, zI l1, zI l2, zI l3, zI (l4 + 60), zU] [] σ1 Q))))))))) : Runs 6 mX11_bestNoon 16 [zR 34 0, zI l1, zI l2, zI l3, zI l4, zU] [] σ Q := by
  refine r_blk [qO (.iload 4), qO (.sipush 1380)] (pc' := 21) (L' := [zR 34 0, zI l1, zI l2, zI l3, zI l4, zU]) (S' := [zI 1380, zI l4]) (σ' := σ) (Ps := []) (by decide +kernel) rfl trivial ?_
  refine r_icmp_gt (off := 43) (tgt := 64) (by decide +kernel) (by decide) (fun c => ?_) (fun c => ?_)
  · replace h := h.1 c
    refine r_blk [qO (.aload_n 0), qF (.getfield 13) 11 1, qO (.bipush 7), qO (.iload_n 1), qO .iastore, qO (.iload_n 2)] (pc' := 73) (L' := [zR 34 0, zI l1, zI l2, zI l3, zI l4, zU]) (S' := [zI l2]) (σ' := (zup σ 36 0 7 l1)) (Ps := [0 ≤ 7 ∧ 7 < 123]) (by decide +kernel) rfl ⟨(by decide), trivial⟩ ?_
    exact r_ret (by decide +kernel) rfl (fun _ => h)
  · replace h := h.2 c
    refine r_blk [qO (.aload_n 0), qF (.getfield 13) 11 1, qO (.bipush 7), qO (.iload 4), qO .iastore, qO (.aload_n 0)] (pc' := 34) (L' := [zR 34 0, zI l1, zI l2, zI l3, zI l4, zU]) (S' := [zR 34 0]) (σ' := (zup σ 36 0 7 l4)) (Ps := [0 ≤ 7 ∧ 7 < 123]) (by decide +kernel) rfl ⟨(by decide), trivial⟩ ?_
    refine r_callVI (As := []) (S := []) (Lc := [zR 34 0, zU, zU, zU]) (d' := 5) (n := 0) (g := 34) (x := 0) (ci := 11) kX11_costOf vX11_costOf lkX11_187 (by decide +kernel) (by decide) rfl rfl (by decide) rfl rfl (Nat.le_of_ble_eq_true rfl) rfl rfl (Nat.le_of_ble_eq_true rfl) (h.monoI (fun z2 σ1 h => ?_))
    refine r_blk [qO (.istore 5), qO (.iload_n 2)] (pc' := 40) (L' := [zR 34 0, zI l1, zI l2, zI l3, zI l4, zI z2]) (S' := [zI l2]) (σ' := σ1) (Ps := []) (by decide +kernel) rfl trivial ?_
    refine r_if_lt (off := 12) (tgt := 52) (by decide +kernel) (by decide) (fun c => ?_) (fun c => ?_)
    · replace h := h.1 c
      refine r_blk [qO (.iload 4), qO (.istore_n 2), qO (.iload 5), qO (.istore_n 3), qO (.iinc 4 60), qO (.goto (-45))] (pc' := 16) (L' := [zR 34 0, zI l1, zI l4, zI z2, zI (l4 + 60), zI z2]) (S' := []) (σ' := σ1) (Ps := [-2147483648 ≤ l4 + 60 ∧ l4 + 60 ≤ 2147483647]) (by decide +kernel) rfl ⟨h.1, trivial⟩ ?_
      replace h := h.2
      exact Runs.fg (fgE (fgE (fgE (fgE (fgE (fgU fg0)))))) h
    · replace h := h.2 c
      refine r_blk [qO (.iload 5), qO (.iload_n 3)] (pc' := 46) (L' := [zR 34 0, zI l1, zI l2, zI l3, zI l4, zI z2]) (S' := [zI l3, zI z2]) (σ' := σ1) (Ps := []) (by decide +kernel) rfl trivial ?_
      refine r_icmp_lt (off := 6) (tgt := 52) (by decide +kernel) (by decide) (fun c => ?_) (fun c => ?_)
      · replace h := h.1 c
        refine r_blk [qO (.iload 4), qO (.istore_n 2), qO (.iload 5), qO (.istore_n 3), qO (.iinc 4 60), qO (.goto (-45))] (pc' := 16) (L' := [zR 34 0, zI l1, zI l4, zI z2, zI (l4 + 60), zI z2]) (S' := []) (σ' := σ1) (Ps := [-2147483648 ≤ l4 + 60 ∧ l4 + 60 ≤ 2147483647]) (by decide +kernel) rfl ⟨h.1, trivial⟩ ?_
        replace h := h.2
        exact Runs.fg (fgE (fgE (fgE (fgE (fgE (fgU fg0)))))) h
      · replace h := h.2 c
        refine r_blk [qO (.goto 9), qO (.iinc 4 60), qO (.goto (-45))] (pc' := 16) (L' := [zR 34 0, zI l1, zI l2, zI l3, zI (l4 + 60), zI z2]) (S' := []) (σ' := σ1) (Ps := [-2147483648 ≤ l4 + 60 ∧ l4 + 60 ≤ 2147483647]) (by decide +kernel) rfl ⟨h.1, trivial⟩ ?_
        replace h := h.2
        exact Runs.fg (fgE (fgE (fgE (fgE (fgE (fgU fg0)))))) h
theorem gX11_lives_0 (σ : Hp) {Q : Option Int → Hp → Prop} (h : Runs 6 mX11_lives 2 [zR 34 0, zI 0, zU, zU, zU] [] σ Q) : Runs 6 mX11_lives 0 [zR 34 0, zU, zU, zU, zU] [] σ Q := by
  refine r_blk [qO (.iconst 0), qO (.istore_n 1)] (pc' := 2) (L' := [zR 34 0, zI 0, zU, zU, zU]) (S' := []) (σ' := σ) (Ps := []) (by decide +kernel) rfl trivial ?_
  exact Runs.fg (fgE (fgE (fgU (fgU (fgU fg0))))) h
theorem gX11_lives_2 (l1 : Int) (σ : Hp) {Q : Option Int → Hp → Prop} (h : ((8 ≤ l1 → Runs 6 mX11_lives 33 [zR 34 0, zI (-9), zI 0, zI 0, zU] [] σ Q) ∧ (¬ 8 ≤ l1 → Runs 0 mX11_of 0 [zR 34 0, zI l1, zI 0] [] σ (rI (fun z2 σ1 => (0 ≤ l1 ∧ l1 < 8) ∧ (-2147483648 ≤ l1 + 1 ∧ l1 + 1 ≤ 2147483647) ∧ Runs 6 mX11_lives 2 [zR 34 0, zI (l1 + 1), zU, zU, zU] [] (zup σ1 47 0 l1.toNat z2) Q))))) : Runs 6 mX11_lives 2 [zR 34 0, zI l1, zU, zU, zU] [] σ Q := by
  refine r_blk [qO (.iload_n 1), qO (.bipush 8)] (pc' := 5) (L' := [zR 34 0, zI l1, zU, zU, zU]) (S' := [zI 8, zI l1]) (σ' := σ) (Ps := []) (by decide +kernel) rfl trivial ?_
  refine r_icmp_ge (off := 21) (tgt := 26) (by decide +kernel) (by decide) (fun c => ?_) (fun c => ?_)
  · replace h := h.1 c
    refine r_blk [qO (.bipush (-9)), qO (.istore_n 1), qO (.iconst 0), qO (.istore_n 2), qO (.iconst 0), qO (.istore_n 3)] (pc' := 33) (L' := [zR 34 0, zI (-9), zI 0, zI 0, zU]) (S' := []) (σ' := σ) (Ps := []) (by decide +kernel) rfl trivial ?_
    exact Runs.fg (fgE (fgE (fgE (fgE (fgU fg0))))) h
  · replace h := h.2 c
    refine r_blk [qO (.aload_n 0), qF (.getfield 47) 11 20, qO (.iload_n 1), qO (.aload_n 0), qO (.iload_n 1), qO (.iconst 0)] (pc' := 16) (L' := [zR 34 0, zI l1, zU, zU, zU]) (S' := [zI 0, zI l1, zR 34 0, zI l1, zR 47 0]) (σ' := σ) (Ps := []) (by decide +kernel) rfl trivial ?_
    refine r_callVI (As := [zI l1, zI 0]) (S := [zI l1, zR 47 0]) (Lc := [zR 34 0, zI l1, zI 0]) (d' := 0) (n := 2) (g := 34) (x := 0) (ci := 11) kX11_of vX11_of lkX11_113 (by decide +kernel) (by decide) rfl rfl (by decide) rfl rfl (Nat.le_of_ble_eq_true rfl) rfl rfl (Nat.le_of_ble_eq_true rfl) (h.monoI (fun z2 σ1 h => ?_))
    refine r_blk [qO .iastore, qO (.iinc 1 1), qO (.goto (-21))] (pc' := 2) (L' := [zR 34 0, zI (l1 + 1), zU, zU, zU]) (S' := []) (σ' := (zup σ1 47 0 l1.toNat z2)) (Ps := [0 ≤ l1 ∧ l1 < 8, -2147483648 ≤ l1 + 1 ∧ l1 + 1 ≤ 2147483647]) (by decide +kernel) rfl ⟨h.1, h.2.1, trivial⟩ ?_
    replace h := h.2.2
    exact Runs.fg (fgE (fgE (fgU (fgU (fgU fg0))))) h
theorem gX11_lives_33 (l1 : Int) (l2 : Int) (l3 : Int) (σ : Hp) {Q : Option Int → Hp → Prop} (h : ((σ 36 0 0 ≤ l3 → Runs 6 mX11_lives 110 [zR 34 0, zI l1, zU, zI 0, zU] [] σ Q) ∧ (¬ σ 36 0 0 ≤ l3 → Runs 6 mX11_lives 46 [zR 34 0, zI l1, zI l2, zI l3, zI 0] [] σ Q))) : Runs 6 mX11_lives 33 [zR 34 0, zI l1, zI l2, zI l3, zU] [] σ Q := by
  refine r_blk [qO (.iload_n 3), qO (.aload_n 0), qF (.getfield 13) 11 1, qO (.iconst 0), qO .iaload] (pc' := 40) (L' := [zR 34 0, zI l1, zI l2, zI l3, zU]) (S' := [zI (σ 36 0 0), zI l3]) (σ' := σ) (Ps := [0 ≤ 0 ∧ 0 < 123]) (by decide +kernel) rfl ⟨(by decide), trivial⟩ ?_
  refine r_icmp_ge (off := 68) (tgt := 108) (by decide +kernel) (by decide) (fun c => ?_) (fun c => ?_)
  · replace h := h.1 c
    refine r_blk [qO (.iconst 0), qO (.istore_n 3)] (pc' := 110) (L' := [zR 34 0, zI l1, zI l2, zI 0, zU]) (S' := []) (σ' := σ) (Ps := []) (by decide +kernel) rfl trivial ?_
    exact Runs.fg (fgE (fgE (fgU (fgE (fgU fg0))))) h
  · replace h := h.2 c
    refine r_blk [qO (.iconst 0), qO (.istore 4)] (pc' := 46) (L' := [zR 34 0, zI l1, zI l2, zI l3, zI 0]) (S' := []) (σ' := σ) (Ps := []) (by decide +kernel) rfl trivial ?_
    exact Runs.fg (fgE (fgE (fgE (fgE (fgE fg0))))) h
theorem gX11_lives_46 (l1 : Int) (l2 : Int) (l3 : Int) (l4 : Int) (σ : Hp) {Q : Option Int → Hp → Prop} (h : ((σ 36 0 2 ≤ l4 → Runs 5 mX11_costOf 0 [zR 34 0, zU, zU, zU] [] σ (rI (fun z2 σ1 => ((l1 < 0 → (-2147483648 ≤ l3 + 1 ∧ l3 + 1 ≤ 2147483647) ∧ Runs 6 mX11_lives 33 [zR 34 0, zI l3, zI z2, zI (l3 + 1), zU] [] σ1 Q) ∧ (¬ l1 < 0 → ((z2 < l2 → (-2147483648 ≤ l3 + 1 ∧ l3 + 1 ≤ 2147483647) ∧ Runs 6 mX11_lives 33 [zR 34 0, zI l3, zI z2, zI (l3 + 1), zU] [] σ1 Q) ∧ (¬ z2 < l2 → (-2147483648 ≤ l3 + 1 ∧ l3 + 1 ≤ 2147483647) ∧ Runs 6 mX11_lives 33 [zR 34 0, zI l1, zI l2, zI (l3 + 1), zU] [] σ1 Q))))))) ∧ (¬ σ 36 0 2 ≤ l4 → (-2147483648 ≤ 4 * l4 ∧ 4 * l4 ≤ 2147483647) ∧ (-2147483648 ≤ 81 + (4 * l4) ∧ 81 + (4 * l4) ≤ 2147483647) ∧ (-2147483648 ≤ (81 + (4 * l4)) + 0 ∧ (81 + (4 * l4)) + 0 ≤ 2147483647) ∧ (0 ≤ (81 + (4 * l4)) + 0 ∧ (81 + (4 * l4)) + 0 < 123) ∧ (-2147483648 ≤ l4 + 1 ∧ l4 + 1 ≤ 2147483647) ∧ Runs 6 mX11_lives 46 [zR 34 0, zI l1, zI l2, zI l3, zI (l4 + 1)] [] (zup σ 36 0 (((81 + (4 * l4)) + 0).toNat) l3) Q))) : Runs 6 mX11_lives 46 [zR 34 0, zI l1, zI l2, zI l3, zI l4] [] σ Q := by
  refine r_blk [qO (.iload 4), qO (.aload_n 0), qF (.getfield 13) 11 1, qO (.iconst 2), qO .iaload] (pc' := 54) (L' := [zR 34 0, zI l1, zI l2, zI l3, zI l4]) (S' := [zI (σ 36 0 2), zI l4]) (σ' := σ) (Ps := [0 ≤ 2 ∧ 2 < 123]) (by decide +kernel) rfl ⟨(by decide), trivial⟩ ?_
  refine r_icmp_ge (off := 24) (tgt := 78) (by decide +kernel) (by decide) (fun c => ?_) (fun c => ?_)
  · replace h := h.1 c
    refine r_blk [qO (.aload_n 0)] (pc' := 79) (L' := [zR 34 0, zI l1, zI l2, zI l3, zI l4]) (S' := [zR 34 0]) (σ' := σ) (Ps := []) (by decide +kernel) rfl trivial ?_
    refine r_callVI (As := []) (S := []) (Lc := [zR 34 0, zU, zU, zU]) (d' := 5) (n := 0) (g := 34) (x := 0) (ci := 11) kX11_costOf vX11_costOf lkX11_187 (by decide +kernel) (by decide) rfl rfl (by decide) rfl rfl (Nat.le_of_ble_eq_true rfl) rfl rfl (Nat.le_of_ble_eq_true rfl) (h.monoI (fun z2 σ1 h => ?_))
    refine r_blk [qO (.istore 4), qO (.iload_n 1)] (pc' := 85) (L' := [zR 34 0, zI l1, zI l2, zI l3, zI z2]) (S' := [zI l1]) (σ' := σ1) (Ps := []) (by decide +kernel) rfl trivial ?_
    refine r_if_lt (off := 12) (tgt := 97) (by decide +kernel) (by decide) (fun c => ?_) (fun c => ?_)
    · replace h := h.1 c
      refine r_blk [qO (.iload_n 3), qO (.istore_n 1), qO (.iload 4), qO (.istore_n 2), qO (.iinc 3 1), qO (.goto (-72))] (pc' := 33) (L' := [zR 34 0, zI l3, zI z2, zI (l3 + 1), zI z2]) (S' := []) (σ' := σ1) (Ps := [-2147483648 ≤ l3 + 1 ∧ l3 + 1 ≤ 2147483647]) (by decide +kernel) rfl ⟨h.1, trivial⟩ ?_
      replace h := h.2
      exact Runs.fg (fgE (fgE (fgE (fgE (fgU fg0))))) h
    · replace h := h.2 c
      refine r_blk [qO (.iload 4), qO (.iload_n 2)] (pc' := 91) (L' := [zR 34 0, zI l1, zI l2, zI l3, zI z2]) (S' := [zI l2, zI z2]) (σ' := σ1) (Ps := []) (by decide +kernel) rfl trivial ?_
      refine r_icmp_lt (off := 6) (tgt := 97) (by decide +kernel) (by decide) (fun c => ?_) (fun c => ?_)
      · replace h := h.1 c
        refine r_blk [qO (.iload_n 3), qO (.istore_n 1), qO (.iload 4), qO (.istore_n 2), qO (.iinc 3 1), qO (.goto (-72))] (pc' := 33) (L' := [zR 34 0, zI l3, zI z2, zI (l3 + 1), zI z2]) (S' := []) (σ' := σ1) (Ps := [-2147483648 ≤ l3 + 1 ∧ l3 + 1 ≤ 2147483647]) (by decide +kernel) rfl ⟨h.1, trivial⟩ ?_
        replace h := h.2
        exact Runs.fg (fgE (fgE (fgE (fgE (fgU fg0))))) h
      · replace h := h.2 c
        refine r_blk [qO (.goto 8), qO (.iinc 3 1), qO (.goto (-72))] (pc' := 33) (L' := [zR 34 0, zI l1, zI l2, zI (l3 + 1), zI z2]) (S' := []) (σ' := σ1) (Ps := [-2147483648 ≤ l3 + 1 ∧ l3 + 1 ≤ 2147483647]) (by decide +kernel) rfl ⟨h.1, trivial⟩ ?_
        replace h := h.2
        exact Runs.fg (fgE (fgE (fgE (fgE (fgU fg0))))) h
  · replace h := h.2 c
    refine r_blk [qO (.aload_n 0), qF (.getfield 13) 11 1, qO (.bipush 81), qO (.iconst 4), qO (.iload 4), qO .imul, qO .iadd, qO (.iconst 0), qO .iadd, qO (.iload_n 3), qO .iastore, qO (.iinc 4 1), qO (.goto (-29))] (pc' := 46) (L' := [zR 34 0, zI l1, zI l2, zI l3, zI (l4 + 1)]) (S' := []) (σ' := (zup σ 36 0 (((81 + (4 * l4)) + 0).toNat) l3)) (Ps := [-2147483648 ≤ 4 * l4 ∧ 4 * l4 ≤ 2147483647, -2147483648 ≤ 81 + (4 * l4) ∧ 81 + (4 * l4) ≤ 2147483647, -2147483648 ≤ (81 + (4 * l4)) + 0 ∧ (81 + (4 * l4)) + 0 ≤ 2147483647, 0 ≤ (81 + (4 * l4)) + 0 ∧ (81 + (4 * l4)) + 0 < 123, -2147483648 ≤ l4 + 1 ∧ l4 + 1 ≤ 2147483647]) (by decide +kernel) rfl ⟨h.1, h.2.1, h.2.2.1, h.2.2.2.1, h.2.2.2.2.1, trivial⟩ ?_
    replace h := h.2.2.2.2.2
    exact Runs.fg (fgE (fgE (fgE (fgE (fgE fg0))))) h
theorem gX11_lives_110 (l1 : Int) (l3 : Int) (σ : Hp) {Q : Option Int → Hp → Prop} (h : ((8 ≤ l3 → Q (some l1) σ) ∧ (¬ 8 ≤ l3 → (-2147483648 ≤ 4 * l3 ∧ 4 * l3 ≤ 2147483647) ∧ (-2147483648 ≤ 81 + (4 * l3) ∧ 81 + (4 * l3) ≤ 2147483647) ∧ (-2147483648 ≤ (81 + (4 * l3)) + 0 ∧ (81 + (4 * l3)) + 0 ≤ 2147483647) ∧ (0 ≤ l3 ∧ l3 < 8) ∧ (0 ≤ (81 + (4 * l3)) + 0 ∧ (81 + (4 * l3)) + 0 < 123) ∧ (-2147483648 ≤ l3 + 1 ∧ l3 + 1 ≤ 2147483647) ∧ Runs 6 mX11_lives 110 [zR 34 0, zI l1, zU, zI (l3 + 1), zU] [] (zup σ 36 0 (((81 + (4 * l3)) + 0).toNat) (σ 47 0 l3.toNat)) Q))) : Runs 6 mX11_lives 110 [zR 34 0, zI l1, zU, zI l3, zU] [] σ Q := by
  refine r_blk [qO (.iload_n 3), qO (.bipush 8)] (pc' := 113) (L' := [zR 34 0, zI l1, zU, zI l3, zU]) (S' := [zI 8, zI l3]) (σ' := σ) (Ps := []) (by decide +kernel) rfl trivial ?_
  refine r_icmp_ge (off := 28) (tgt := 141) (by decide +kernel) (by decide) (fun c => ?_) (fun c => ?_)
  · replace h := h.1 c
    refine r_blk [qO (.iload_n 1)] (pc' := 142) (L' := [zR 34 0, zI l1, zU, zI l3, zU]) (S' := [zI l1]) (σ' := σ) (Ps := []) (by decide +kernel) rfl trivial ?_
    exact r_ret (by decide +kernel) rfl (fun _ => h)
  · replace h := h.2 c
    refine r_blk [qO (.aload_n 0), qF (.getfield 13) 11 1, qO (.bipush 81), qO (.iconst 4), qO (.iload_n 3), qO .imul, qO .iadd, qO (.iconst 0), qO .iadd, qO (.aload_n 0), qF (.getfield 47) 11 20, qO (.iload_n 3), qO .iaload, qO .iastore, qO (.iinc 3 1), qO (.goto (-28))] (pc' := 110) (L' := [zR 34 0, zI l1, zU, zI (l3 + 1), zU]) (S' := []) (σ' := (zup σ 36 0 (((81 + (4 * l3)) + 0).toNat) (σ 47 0 l3.toNat))) (Ps := [-2147483648 ≤ 4 * l3 ∧ 4 * l3 ≤ 2147483647, -2147483648 ≤ 81 + (4 * l3) ∧ 81 + (4 * l3) ≤ 2147483647, -2147483648 ≤ (81 + (4 * l3)) + 0 ∧ (81 + (4 * l3)) + 0 ≤ 2147483647, 0 ≤ l3 ∧ l3 < 8, 0 ≤ (81 + (4 * l3)) + 0 ∧ (81 + (4 * l3)) + 0 < 123, -2147483648 ≤ l3 + 1 ∧ l3 + 1 ≤ 2147483647]) (by decide +kernel) rfl ⟨h.1, h.2.1, h.2.2.1, h.2.2.2.1, h.2.2.2.2.1, h.2.2.2.2.2.1, trivial⟩ ?_
    replace h := h.2.2.2.2.2.2
    exact Runs.fg (fgE (fgE (fgU (fgE (fgU fg0))))) h
theorem gX11_stays_0 (a0 : Int) (σ : Hp) {Q : Option Int → Hp → Prop} (h : Runs 6 mX11_stays 2 [zR 34 0, zI a0, zI 0] [] σ Q) : Runs 6 mX11_stays 0 [zR 34 0, zI a0, zU] [] σ Q := by
  refine r_blk [qO (.iconst 0), qO (.istore_n 2)] (pc' := 2) (L' := [zR 34 0, zI a0, zI 0]) (S' := []) (σ' := σ) (Ps := []) (by decide +kernel) rfl trivial ?_
  exact Runs.fg (fgE (fgE (fgE fg0))) h
theorem gX11_stays_2 (l1 : Int) (l2 : Int) (σ : Hp) {Q : Option Int → Hp → Prop} (h : ((10 ≤ l2 → Runs 0 mX11_of 0 [zR 34 0, zI l1, zI 0] [] σ (rI (fun z2 σ1 => Runs 0 mX11_of 0 [zR 34 0, zI l1, zI 1] [] σ1 (rI (fun z4 σ3 => Runs 0 mX11_of 0 [zR 34 0, zI l1, zI 2] [] σ3 (rI (fun z6 σ5 => Runs 5 mX11_findsRoad 0 [zR 34 0, zI z2, zI z4, zI z6, zU, zU, zU, zU, zU, zU] [] σ5 (rI (fun z8 σ7 => ((¬ z8 = 0 → Runs 6 mX11_stays 50 [zR 34 0, zU, zI 0] [] σ7 Q) ∧ (z8 = 0 → Q none σ7))))))))))) ∧ (¬ 10 ≤ l2 → (0 ≤ l2 ∧ l2 < 10) ∧ (-2147483648 ≤ l2 + 1 ∧ l2 + 1 ≤ 2147483647) ∧ Runs 6 mX11_stays 2 [zR 34 0, zI l1, zI (l2 + 1)] [] (zup σ 48 0 l2.toNat (-9)) Q))) : Runs 6 mX11_stays 2 [zR 34 0, zI l1, zI l2] [] σ Q := by
  refine r_blk [qO (.iload_n 2), qO (.bipush 10)] (pc' := 5) (L' := [zR 34 0, zI l1, zI l2]) (S' := [zI 10, zI l2]) (σ' := σ) (Ps := []) (by decide +kernel) rfl trivial ?_
  refine r_icmp_ge (off := 17) (tgt := 22) (by decide +kernel) (by decide) (fun c => ?_) (fun c => ?_)
  · replace h := h.1 c
    refine r_blk [qO (.aload_n 0), qO (.aload_n 0), qO (.iload_n 1), qO (.iconst 0)] (pc' := 26) (L' := [zR 34 0, zI l1, zI l2]) (S' := [zI 0, zI l1, zR 34 0, zR 34 0]) (σ' := σ) (Ps := []) (by decide +kernel) rfl trivial ?_
    refine r_callVI (As := [zI l1, zI 0]) (S := [zR 34 0]) (Lc := [zR 34 0, zI l1, zI 0]) (d' := 0) (n := 2) (g := 34) (x := 0) (ci := 11) kX11_of vX11_of lkX11_113 (by decide +kernel) (by decide) rfl rfl (by decide) rfl rfl (Nat.le_of_ble_eq_true rfl) rfl rfl (Nat.le_of_ble_eq_true rfl) (h.monoI (fun z2 σ1 h => ?_))
    refine r_blk [qO (.aload_n 0), qO (.iload_n 1), qO (.iconst 1)] (pc' := 32) (L' := [zR 34 0, zI l1, zI l2]) (S' := [zI 1, zI l1, zR 34 0, zI z2, zR 34 0]) (σ' := σ1) (Ps := []) (by decide +kernel) rfl trivial ?_
    refine r_callVI (As := [zI l1, zI 1]) (S := [zI z2, zR 34 0]) (Lc := [zR 34 0, zI l1, zI 1]) (d' := 0) (n := 2) (g := 34) (x := 0) (ci := 11) kX11_of vX11_of lkX11_113 (by decide +kernel) (by decide) rfl rfl (by decide) rfl rfl (Nat.le_of_ble_eq_true rfl) rfl rfl (Nat.le_of_ble_eq_true rfl) (h.monoI (fun z4 σ3 h => ?_))
    refine r_blk [qO (.aload_n 0), qO (.iload_n 1), qO (.iconst 2)] (pc' := 38) (L' := [zR 34 0, zI l1, zI l2]) (S' := [zI 2, zI l1, zR 34 0, zI z4, zI z2, zR 34 0]) (σ' := σ3) (Ps := []) (by decide +kernel) rfl trivial ?_
    refine r_callVI (As := [zI l1, zI 2]) (S := [zI z4, zI z2, zR 34 0]) (Lc := [zR 34 0, zI l1, zI 2]) (d' := 0) (n := 2) (g := 34) (x := 0) (ci := 11) kX11_of vX11_of lkX11_113 (by decide +kernel) (by decide) rfl rfl (by decide) rfl rfl (Nat.le_of_ble_eq_true rfl) rfl rfl (Nat.le_of_ble_eq_true rfl) (h.monoI (fun z6 σ5 h => ?_))
    refine r_callVI (As := [zI z2, zI z4, zI z6]) (S := []) (Lc := [zR 34 0, zI z2, zI z4, zI z6, zU, zU, zU, zU, zU, zU]) (d' := 5) (n := 3) (g := 34) (x := 0) (ci := 11) kX11_findsRoad vX11_findsRoad lkX11_152 (by decide +kernel) (by decide) rfl rfl (by decide) rfl rfl (Nat.le_of_ble_eq_true rfl) rfl rfl (Nat.le_of_ble_eq_true rfl) (h.monoI (fun z8 σ7 h => ?_))
    refine r_if_ne (off := 4) (tgt := 48) (by decide +kernel) (by decide) (fun c => ?_) (fun c => ?_)
    · replace h := h.1 c
      refine r_blk [qO (.iconst 0), qO (.istore_n 2)] (pc' := 50) (L' := [zR 34 0, zI l1, zI 0]) (S' := []) (σ' := σ7) (Ps := []) (by decide +kernel) rfl trivial ?_
      exact Runs.fg (fgE (fgU (fgE fg0))) h
    · replace h := h.2 c
      exact r_retv (by decide +kernel) rfl h
  · replace h := h.2 c
    refine r_blk [qO (.aload_n 0), qF (.getfield 50) 11 21, qO (.iload_n 2), qO (.bipush (-9)), qO .iastore, qO (.iinc 2 1), qO (.goto (-17))] (pc' := 2) (L' := [zR 34 0, zI l1, zI (l2 + 1)]) (S' := []) (σ' := (zup σ 48 0 l2.toNat (-9))) (Ps := [0 ≤ l2 ∧ l2 < 10, -2147483648 ≤ l2 + 1 ∧ l2 + 1 ≤ 2147483647]) (by decide +kernel) rfl ⟨h.1, h.2.1, trivial⟩ ?_
    replace h := h.2.2
    exact Runs.fg (fgE (fgE (fgE fg0))) h
theorem gX11_stays_50 (l2 : Int) (σ : Hp) {Q : Option Int → Hp → Prop} (h : ((σ 34 0 14 < l2 → Q none σ) ∧ (¬ σ 34 0 14 < l2 → (0 ≤ l2 ∧ l2 < 11) ∧ (0 ≤ l2 ∧ l2 < 11) ∧ (0 ≤ σ 43 0 l2.toNat ∧ σ 43 0 l2.toNat < 10) ∧ (0 ≤ σ 43 0 l2.toNat ∧ σ 43 0 l2.toNat < 10) ∧ (0 ≤ l2 ∧ l2 < 11) ∧ ∀ σ1 : Hp, σ1 = (zup σ 48 0 ((σ 43 0 l2.toNat).toNat) (σ 41 0 ((σ 43 0 l2.toNat).toNat))) → ((¬ l2 = 0 → (-2147483648 ≤ l2 - 1 ∧ l2 - 1 ≤ 2147483647) ∧ (0 ≤ l2 - 1 ∧ l2 - 1 < 10) ∧ (0 ≤ σ 43 0 l2.toNat ∧ σ 43 0 l2.toNat < 10) ∧ (-2147483648 ≤ l2 + 1 ∧ l2 + 1 ≤ 2147483647) ∧ Runs 6 mX11_stays 50 [zR 34 0, zU, zI (l2 + 1)] [] (zup σ1 49 0 ((σ 43 0 l2.toNat).toNat) (σ1 45 0 ((l2 - 1).toNat))) Q) ∧ (l2 = 0 → (0 ≤ l2 ∧ l2 < 11) ∧ (0 ≤ σ1 43 0 l2.toNat ∧ σ1 43 0 l2.toNat < 10) ∧ (0 ≤ σ 43 0 l2.toNat ∧ σ 43 0 l2.toNat < 10) ∧ (-2147483648 ≤ l2 + 1 ∧ l2 + 1 ≤ 2147483647) ∧ ∀ σ2 : Hp, σ2 = (zup σ1 49 0 ((σ 43 0 l2.toNat).toNat) (σ1 41 0 ((σ1 43 0 l2.toNat).toNat))) → Runs 6 mX11_stays 50 [zR 34 0, zU, zI (l2 + 1)] [] σ2 Q))))) : Runs 6 mX11_stays 50 [zR 34 0, zU, zI l2] [] σ Q := by
  refine r_blk [qO (.iload_n 2), qO (.aload_n 0), qF (.getfield 146) 11 14] (pc' := 55) (L' := [zR 34 0, zU, zI l2]) (S' := [zI (σ 34 0 14), zI l2]) (σ' := σ) (Ps := []) (by decide +kernel) rfl trivial ?_
  refine r_icmp_gt (off := 68) (tgt := 123) (by decide +kernel) (by decide) (fun c => ?_) (fun c => ?_)
  · replace h := h.1 c
    exact r_retv (by decide +kernel) rfl h
  · replace h := h.2 c
    refine r_blk [qO (.aload_n 0), qF (.getfield 50) 11 21, qO (.aload_n 0), qF (.getfield 35) 11 11, qO (.iload_n 2), qO .iaload, qO (.aload_n 0), qF (.getfield 28) 11 9, qO (.aload_n 0), qF (.getfield 35) 11 11, qO (.iload_n 2), qO .iaload, qO .iaload, qO .iastore, qO (.aload_n 0), qF (.getfield 53) 11 22, qO (.aload_n 0), qF (.getfield 35) 11 11, qO (.iload_n 2), qO .iaload, qO (.iload_n 2)] (pc' := 91) (L' := [zR 34 0, zU, zI l2]) (S' := [zI l2, zI (σ 43 0 l2.toNat), zR 49 0]) (σ' := (zup σ 48 0 ((σ 43 0 l2.toNat).toNat) (σ 41 0 ((σ 43 0 l2.toNat).toNat)))) (Ps := [0 ≤ l2 ∧ l2 < 11, 0 ≤ l2 ∧ l2 < 11, 0 ≤ σ 43 0 l2.toNat ∧ σ 43 0 l2.toNat < 10, 0 ≤ σ 43 0 l2.toNat ∧ σ 43 0 l2.toNat < 10, 0 ≤ l2 ∧ l2 < 11]) (by decide +kernel) rfl ⟨h.1, h.2.1, h.2.2.1, h.2.2.2.1, h.2.2.2.2.1, trivial⟩ ?_
    replace h := h.2.2.2.2.2
    generalize hσ1 : (zup σ 48 0 ((σ 43 0 l2.toNat).toNat) (σ 41 0 ((σ 43 0 l2.toNat).toNat))) = σ1
    replace h := h σ1 hσ1.symm
    refine r_if_ne (off := 17) (tgt := 108) (by decide +kernel) (by decide) (fun c => ?_) (fun c => ?_)
    · replace h := h.1 c
      refine r_blk [qO (.aload_n 0), qF (.getfield 41) 11 13, qO (.iload_n 2), qO (.iconst 1), qO .isub, qO .iaload, qO .iastore, qO (.iinc 2 1), qO (.goto (-70))] (pc' := 50) (L' := [zR 34 0, zU, zI (l2 + 1)]) (S' := []) (σ' := (zup σ1 49 0 ((σ 43 0 l2.toNat).toNat) (σ1 45 0 ((l2 - 1).toNat)))) (Ps := [-2147483648 ≤ l2 - 1 ∧ l2 - 1 ≤ 2147483647, 0 ≤ l2 - 1 ∧ l2 - 1 < 10, 0 ≤ σ 43 0 l2.toNat ∧ σ 43 0 l2.toNat < 10, -2147483648 ≤ l2 + 1 ∧ l2 + 1 ≤ 2147483647]) (by decide +kernel) rfl ⟨h.1, h.2.1, h.2.2.1, h.2.2.2.1, trivial⟩ ?_
      replace h := h.2.2.2.2
      exact Runs.fg (fgE (fgU (fgE fg0))) h
    · replace h := h.2 c
      refine r_blk [qO (.aload_n 0), qF (.getfield 28) 11 9, qO (.aload_n 0), qF (.getfield 35) 11 11, qO (.iload_n 2), qO .iaload, qO .iaload, qO (.goto 11), qO .iastore, qO (.iinc 2 1), qO (.goto (-70))] (pc' := 50) (L' := [zR 34 0, zU, zI (l2 + 1)]) (S' := []) (σ' := (zup σ1 49 0 ((σ 43 0 l2.toNat).toNat) (σ1 41 0 ((σ1 43 0 l2.toNat).toNat)))) (Ps := [0 ≤ l2 ∧ l2 < 11, 0 ≤ σ1 43 0 l2.toNat ∧ σ1 43 0 l2.toNat < 10, 0 ≤ σ 43 0 l2.toNat ∧ σ 43 0 l2.toNat < 10, -2147483648 ≤ l2 + 1 ∧ l2 + 1 ≤ 2147483647]) (by decide +kernel) rfl ⟨h.1, h.2.1, h.2.2.1, h.2.2.2.1, trivial⟩ ?_
      replace h := h.2.2.2.2
      generalize hσ2 : (zup σ1 49 0 ((σ 43 0 l2.toNat).toNat) (σ1 41 0 ((σ1 43 0 l2.toNat).toNat))) = σ2
      replace h := h σ2 hσ2.symm
      exact Runs.fg (fgE (fgU (fgE fg0))) h
theorem gX11_areMet_0 (a0 : Int) (a1 : Int) (σ : Hp) {Q : Option Int → Hp → Prop} (h : Runs 6 mX11_stays 0 [zR 34 0, zI a0, zU] [] σ (rV (fun σ1 => Runs 7 mX11_areMet 7 [zR 34 0, zU, zI a1, zI 0] [] σ1 Q))) : Runs 7 mX11_areMet 0 [zR 34 0, zI a0, zI a1, zU] [] σ Q := by
  refine r_blk [qO (.aload_n 0), qO (.iload_n 1)] (pc' := 2) (L' := [zR 34 0, zI a0, zI a1, zU]) (S' := [zI a0, zR 34 0]) (σ' := σ) (Ps := []) (by decide +kernel) rfl trivial ?_
  refine r_callVV (As := [zI a0]) (S := []) (Lc := [zR 34 0, zI a0, zU]) (d' := 6) (n := 1) (g := 34) (x := 0) (ci := 11) kX11_stays vX11_stays lkX11_206 (by decide +kernel) (by decide) rfl rfl (by decide) rfl rfl (Nat.le_of_ble_eq_true rfl) rfl rfl (Nat.le_of_ble_eq_true rfl) (h.monoV (fun σ1 h => ?_))
  refine r_blk [qO (.iconst 0), qO (.istore_n 3)] (pc' := 7) (L' := [zR 34 0, zI a0, zI a1, zI 0]) (S' := []) (σ' := σ1) (Ps := []) (by decide +kernel) rfl trivial ?_
  exact Runs.fg (fgE (fgU (fgE (fgE fg0)))) h
theorem gX11_areMet_7 (l2 : Int) (l3 : Int) (σ : Hp) {Q : Option Int → Hp → Prop} (h : ((10 ≤ l3 → Runs 6 mX11_stays 0 [zR 34 0, zI l2, zU] [] σ (rV (fun σ1 => Runs 7 mX11_areMet 50 [zR 34 0, zU, zU, zI 0] [] σ1 Q))) ∧ (¬ 10 ≤ l3 → (0 ≤ l3 ∧ l3 < 10) ∧ (0 ≤ l3 ∧ l3 < 10) ∧ (0 ≤ l3 ∧ l3 < 10) ∧ (0 ≤ l3 ∧ l3 < 10) ∧ (-2147483648 ≤ l3 + 1 ∧ l3 + 1 ≤ 2147483647) ∧ ∀ σ2 : Hp, σ2 = (zup (zup σ 50 0 l3.toNat (σ 48 0 l3.toNat)) 51 0 l3.toNat (σ 49 0 l3.toNat)) → Runs 7 mX11_areMet 7 [zR 34 0, zU, zI l2, zI (l3 + 1)] [] σ2 Q))) : Runs 7 mX11_areMet 7 [zR 34 0, zU, zI l2, zI l3] [] σ Q := by
  refine r_blk [qO (.iload_n 3), qO (.bipush 10)] (pc' := 10) (L' := [zR 34 0, zU, zI l2, zI l3]) (S' := [zI 10, zI l3]) (σ' := σ) (Ps := []) (by decide +kernel) rfl trivial ?_
  refine r_icmp_ge (off := 33) (tgt := 43) (by decide +kernel) (by decide) (fun c => ?_) (fun c => ?_)
  · replace h := h.1 c
    refine r_blk [qO (.aload_n 0), qO (.iload_n 2)] (pc' := 45) (L' := [zR 34 0, zU, zI l2, zI l3]) (S' := [zI l2, zR 34 0]) (σ' := σ) (Ps := []) (by decide +kernel) rfl trivial ?_
    refine r_callVV (As := [zI l2]) (S := []) (Lc := [zR 34 0, zI l2, zU]) (d' := 6) (n := 1) (g := 34) (x := 0) (ci := 11) kX11_stays vX11_stays lkX11_206 (by decide +kernel) (by decide) rfl rfl (by decide) rfl rfl (Nat.le_of_ble_eq_true rfl) rfl rfl (Nat.le_of_ble_eq_true rfl) (h.monoV (fun σ1 h => ?_))
    refine r_blk [qO (.iconst 0), qO (.istore_n 3)] (pc' := 50) (L' := [zR 34 0, zU, zI l2, zI 0]) (S' := []) (σ' := σ1) (Ps := []) (by decide +kernel) rfl trivial ?_
    exact Runs.fg (fgE (fgU (fgU (fgE fg0)))) h
  · replace h := h.2 c
    refine r_blk [qO (.aload_n 0), qF (.getfield 56) 11 23, qO (.iload_n 3), qO (.aload_n 0), qF (.getfield 50) 11 21, qO (.iload_n 3), qO .iaload, qO .iastore, qO (.aload_n 0), qF (.getfield 59) 11 24, qO (.iload_n 3), qO (.aload_n 0), qF (.getfield 53) 11 22, qO (.iload_n 3), qO .iaload, qO .iastore, qO (.iinc 3 1), qO (.goto (-33))] (pc' := 7) (L' := [zR 34 0, zU, zI l2, zI (l3 + 1)]) (S' := []) (σ' := (zup (zup σ 50 0 l3.toNat (σ 48 0 l3.toNat)) 51 0 l3.toNat (σ 49 0 l3.toNat))) (Ps := [0 ≤ l3 ∧ l3 < 10, 0 ≤ l3 ∧ l3 < 10, 0 ≤ l3 ∧ l3 < 10, 0 ≤ l3 ∧ l3 < 10, -2147483648 ≤ l3 + 1 ∧ l3 + 1 ≤ 2147483647]) (by decide +kernel) rfl ⟨h.1, h.2.1, h.2.2.1, h.2.2.2.1, h.2.2.2.2.1, trivial⟩ ?_
    replace h := h.2.2.2.2.2
    generalize hσ2 : (zup (zup σ 50 0 l3.toNat (σ 48 0 l3.toNat)) 51 0 l3.toNat (σ 49 0 l3.toNat)) = σ2
    replace h := h σ2 hσ2.symm
    exact Runs.fg (fgE (fgU (fgE (fgE fg0)))) h
theorem gX11_areMet_50 (l3 : Int) (σ : Hp) {Q : Option Int → Hp → Prop} (h : ((10 ≤ l3 → Q (some 0) σ) ∧ (¬ 10 ≤ l3 → (0 ≤ l3 ∧ l3 < 10) ∧ ((σ 50 0 l3.toNat < 0 → (-2147483648 ≤ l3 + 1 ∧ l3 + 1 ≤ 2147483647) ∧ Runs 7 mX11_areMet 50 [zR 34 0, zU, zU, zI (l3 + 1)] [] σ Q) ∧ (¬ σ 50 0 l3.toNat < 0 → (0 ≤ l3 ∧ l3 < 10) ∧ ((σ 48 0 l3.toNat < 0 → (-2147483648 ≤ l3 + 1 ∧ l3 + 1 ≤ 2147483647) ∧ Runs 7 mX11_areMet 50 [zR 34 0, zU, zU, zI (l3 + 1)] [] σ Q) ∧ (¬ σ 48 0 l3.toNat < 0 → (0 ≤ l3 ∧ l3 < 10) ∧ (0 ≤ l3 ∧ l3 < 10) ∧ ((σ 49 0 l3.toNat < σ 50 0 l3.toNat → (-2147483648 ≤ l3 + 1 ∧ l3 + 1 ≤ 2147483647) ∧ Runs 7 mX11_areMet 50 [zR 34 0, zU, zU, zI (l3 + 1)] [] σ Q) ∧ (¬ σ 49 0 l3.toNat < σ 50 0 l3.toNat → (0 ≤ l3 ∧ l3 < 10) ∧ (0 ≤ l3 ∧ l3 < 10) ∧ ((σ 51 0 l3.toNat < σ 48 0 l3.toNat → (-2147483648 ≤ l3 + 1 ∧ l3 + 1 ≤ 2147483647) ∧ Runs 7 mX11_areMet 50 [zR 34 0, zU, zU, zI (l3 + 1)] [] σ Q) ∧ (¬ σ 51 0 l3.toNat < σ 48 0 l3.toNat → Q (some 1) σ))))))))))) : Runs 7 mX11_areMet 50 [zR 34 0, zU, zU, zI l3] [] σ Q := by
  refine r_blk [qO (.iload_n 3), qO (.bipush 10)] (pc' := 53) (L' := [zR 34 0, zU, zU, zI l3]) (S' := [zI 10, zI l3]) (σ' := σ) (Ps := []) (by decide +kernel) rfl trivial ?_
  refine r_icmp_ge (off := 59) (tgt := 112) (by decide +kernel) (by decide) (fun c => ?_) (fun c => ?_)
  · replace h := h.1 c
    refine r_blk [qO (.iconst 0)] (pc' := 113) (L' := [zR 34 0, zU, zU, zI l3]) (S' := [zI 0]) (σ' := σ) (Ps := []) (by decide +kernel) rfl trivial ?_
    exact r_retz (by decide +kernel) rfl (by decide) h
  · replace h := h.2 c
    refine r_blk [qO (.aload_n 0), qF (.getfield 56) 11 23, qO (.iload_n 3), qO .iaload] (pc' := 62) (L' := [zR 34 0, zU, zU, zI l3]) (S' := [zI (σ 50 0 l3.toNat)]) (σ' := σ) (Ps := [0 ≤ l3 ∧ l3 < 10]) (by decide +kernel) rfl ⟨h.1, trivial⟩ ?_
    replace h := h.2
    refine r_if_lt (off := 44) (tgt := 106) (by decide +kernel) (by decide) (fun c => ?_) (fun c => ?_)
    · replace h := h.1 c
      refine r_blk [qO (.iinc 3 1), qO (.goto (-59))] (pc' := 50) (L' := [zR 34 0, zU, zU, zI (l3 + 1)]) (S' := []) (σ' := σ) (Ps := [-2147483648 ≤ l3 + 1 ∧ l3 + 1 ≤ 2147483647]) (by decide +kernel) rfl ⟨h.1, trivial⟩ ?_
      replace h := h.2
      exact Runs.fg (fgE (fgU (fgU (fgE fg0)))) h
    · replace h := h.2 c
      refine r_blk [qO (.aload_n 0), qF (.getfield 50) 11 21, qO (.iload_n 3), qO .iaload] (pc' := 71) (L' := [zR 34 0, zU, zU, zI l3]) (S' := [zI (σ 48 0 l3.toNat)]) (σ' := σ) (Ps := [0 ≤ l3 ∧ l3 < 10]) (by decide +kernel) rfl ⟨h.1, trivial⟩ ?_
      replace h := h.2
      refine r_if_lt (off := 35) (tgt := 106) (by decide +kernel) (by decide) (fun c => ?_) (fun c => ?_)
      · replace h := h.1 c
        refine r_blk [qO (.iinc 3 1), qO (.goto (-59))] (pc' := 50) (L' := [zR 34 0, zU, zU, zI (l3 + 1)]) (S' := []) (σ' := σ) (Ps := [-2147483648 ≤ l3 + 1 ∧ l3 + 1 ≤ 2147483647]) (by decide +kernel) rfl ⟨h.1, trivial⟩ ?_
        replace h := h.2
        exact Runs.fg (fgE (fgU (fgU (fgE fg0)))) h
      · replace h := h.2 c
        refine r_blk [qO (.aload_n 0), qF (.getfield 56) 11 23, qO (.iload_n 3), qO .iaload, qO (.aload_n 0), qF (.getfield 53) 11 22, qO (.iload_n 3), qO .iaload] (pc' := 86) (L' := [zR 34 0, zU, zU, zI l3]) (S' := [zI (σ 49 0 l3.toNat), zI (σ 50 0 l3.toNat)]) (σ' := σ) (Ps := [0 ≤ l3 ∧ l3 < 10, 0 ≤ l3 ∧ l3 < 10]) (by decide +kernel) rfl ⟨h.1, h.2.1, trivial⟩ ?_
        replace h := h.2.2
        refine r_icmp_gt (off := 20) (tgt := 106) (by decide +kernel) (by decide) (fun c => ?_) (fun c => ?_)
        · replace h := h.1 c
          refine r_blk [qO (.iinc 3 1), qO (.goto (-59))] (pc' := 50) (L' := [zR 34 0, zU, zU, zI (l3 + 1)]) (S' := []) (σ' := σ) (Ps := [-2147483648 ≤ l3 + 1 ∧ l3 + 1 ≤ 2147483647]) (by decide +kernel) rfl ⟨h.1, trivial⟩ ?_
          replace h := h.2
          exact Runs.fg (fgE (fgU (fgU (fgE fg0)))) h
        · replace h := h.2 c
          refine r_blk [qO (.aload_n 0), qF (.getfield 50) 11 21, qO (.iload_n 3), qO .iaload, qO (.aload_n 0), qF (.getfield 59) 11 24, qO (.iload_n 3), qO .iaload] (pc' := 101) (L' := [zR 34 0, zU, zU, zI l3]) (S' := [zI (σ 51 0 l3.toNat), zI (σ 48 0 l3.toNat)]) (σ' := σ) (Ps := [0 ≤ l3 ∧ l3 < 10, 0 ≤ l3 ∧ l3 < 10]) (by decide +kernel) rfl ⟨h.1, h.2.1, trivial⟩ ?_
          replace h := h.2.2
          refine r_icmp_gt (off := 5) (tgt := 106) (by decide +kernel) (by decide) (fun c => ?_) (fun c => ?_)
          · replace h := h.1 c
            refine r_blk [qO (.iinc 3 1), qO (.goto (-59))] (pc' := 50) (L' := [zR 34 0, zU, zU, zI (l3 + 1)]) (S' := []) (σ' := σ) (Ps := [-2147483648 ≤ l3 + 1 ∧ l3 + 1 ≤ 2147483647]) (by decide +kernel) rfl ⟨h.1, trivial⟩ ?_
            replace h := h.2
            exact Runs.fg (fgE (fgU (fgU (fgE fg0)))) h
          · replace h := h.2 c
            refine r_blk [qO (.iconst 1)] (pc' := 105) (L' := [zR 34 0, zU, zU, zI l3]) (S' := [zI 1]) (σ' := σ) (Ps := []) (by decide +kernel) rfl trivial ?_
            exact r_retz (by decide +kernel) rfl (by decide) h
theorem gX11_meets_0 (a0 : Int) (a1 : Int) (σ : Hp) {Q : Option Int → Hp → Prop} (h : Runs 1 mX11_isErrand 0 [zR 34 0, zI a0] [] σ (rI (fun z2 σ1 => ((z2 = 0 → Runs 0 mX11_refuse 0 [zR 34 0, zI (-1)] [] σ1 (rI (fun z4 σ3 => Q (some z4) σ3))) ∧ (¬ z2 = 0 → Runs 1 mX11_isErrand 0 [zR 34 0, zI a1] [] σ1 (rI (fun z6 σ5 => ((z6 = 0 → Runs 0 mX11_refuse 0 [zR 34 0, zI (-1)] [] σ5 (rI (fun z8 σ7 => Q (some z8) σ7))) ∧ (¬ z6 = 0 → ((¬ a0 = a1 → Runs 7 mX11_areMet 0 [zR 34 0, zI a0, zI a1, zU] [] σ5 (rI (fun z10 σ9 => ((z10 = 0 → Q (some 0) σ9) ∧ (¬ z10 = 0 → Q (some 1) σ9))))) ∧ (a0 = a1 → Runs 0 mX11_refuse 0 [zR 34 0, zI (-1)] [] σ5 (rI (fun z12 σ11 => Q (some z12) σ11))))))))))))) : Runs 8 mX11_meets 0 [zR 34 0, zI a0, zI a1] [] σ Q := by
  refine r_blk [qO (.aload_n 0), qO (.iload_n 1)] (pc' := 2) (L' := [zR 34 0, zI a0, zI a1]) (S' := [zI a0, zR 34 0]) (σ' := σ) (Ps := []) (by decide +kernel) rfl trivial ?_
  refine r_callVI (As := [zI a0]) (S := []) (Lc := [zR 34 0, zI a0]) (d' := 1) (n := 1) (g := 34) (x := 0) (ci := 11) kX11_isErrand vX11_isErrand lkX11_110 (by decide +kernel) (by decide) rfl rfl (by decide) rfl rfl (Nat.le_of_ble_eq_true rfl) rfl rfl (Nat.le_of_ble_eq_true rfl) (h.monoI (fun z2 σ1 h => ?_))
  refine r_if_eq (off := 16) (tgt := 21) (by decide +kernel) (by decide) (fun c => ?_) (fun c => ?_)
  · replace h := h.1 c
    refine r_blk [qO (.aload_n 0), qO (.iconst (-1))] (pc' := 23) (L' := [zR 34 0, zI a0, zI a1]) (S' := [zI (-1), zR 34 0]) (σ' := σ1) (Ps := []) (by decide +kernel) rfl trivial ?_
    refine r_callVI (As := [zI (-1)]) (S := []) (Lc := [zR 34 0, zI (-1)]) (d' := 0) (n := 1) (g := 34) (x := 0) (ci := 11) kX11_refuse vX11_refuse lkX11_66 (by decide +kernel) (by decide) rfl rfl (by decide) rfl rfl (Nat.le_of_ble_eq_true rfl) rfl rfl (Nat.le_of_ble_eq_true rfl) (h.monoI (fun z4 σ3 h => ?_))
    refine r_blk [qO (.goto 17)] (pc' := 43) (L' := [zR 34 0, zI a0, zI a1]) (S' := [zI z4]) (σ' := σ3) (Ps := []) (by decide +kernel) rfl trivial ?_
    exact r_ret (by decide +kernel) rfl (fun _ => h)
  · replace h := h.2 c
    refine r_blk [qO (.aload_n 0), qO (.iload_n 2)] (pc' := 10) (L' := [zR 34 0, zI a0, zI a1]) (S' := [zI a1, zR 34 0]) (σ' := σ1) (Ps := []) (by decide +kernel) rfl trivial ?_
    refine r_callVI (As := [zI a1]) (S := []) (Lc := [zR 34 0, zI a1]) (d' := 1) (n := 1) (g := 34) (x := 0) (ci := 11) kX11_isErrand vX11_isErrand lkX11_110 (by decide +kernel) (by decide) rfl rfl (by decide) rfl rfl (Nat.le_of_ble_eq_true rfl) rfl rfl (Nat.le_of_ble_eq_true rfl) (h.monoI (fun z6 σ5 h => ?_))
    refine r_if_eq (off := 8) (tgt := 21) (by decide +kernel) (by decide) (fun c => ?_) (fun c => ?_)
    · replace h := h.1 c
      refine r_blk [qO (.aload_n 0), qO (.iconst (-1))] (pc' := 23) (L' := [zR 34 0, zI a0, zI a1]) (S' := [zI (-1), zR 34 0]) (σ' := σ5) (Ps := []) (by decide +kernel) rfl trivial ?_
      refine r_callVI (As := [zI (-1)]) (S := []) (Lc := [zR 34 0, zI (-1)]) (d' := 0) (n := 1) (g := 34) (x := 0) (ci := 11) kX11_refuse vX11_refuse lkX11_66 (by decide +kernel) (by decide) rfl rfl (by decide) rfl rfl (Nat.le_of_ble_eq_true rfl) rfl rfl (Nat.le_of_ble_eq_true rfl) (h.monoI (fun z8 σ7 h => ?_))
      refine r_blk [qO (.goto 17)] (pc' := 43) (L' := [zR 34 0, zI a0, zI a1]) (S' := [zI z8]) (σ' := σ7) (Ps := []) (by decide +kernel) rfl trivial ?_
      exact r_ret (by decide +kernel) rfl (fun _ => h)
    · replace h := h.2 c
      refine r_blk [qO (.iload_n 1), qO (.iload_n 2)] (pc' := 18) (L' := [zR 34 0, zI a0, zI a1]) (S' := [zI a1, zI a0]) (σ' := σ5) (Ps := []) (by decide +kernel) rfl trivial ?_
      refine r_icmp_ne (off := 11) (tgt := 29) (by decide +kernel) (by decide) (fun c => ?_) (fun c => ?_)
      · replace h := h.1 c
        refine r_blk [qO (.aload_n 0), qO (.iload_n 1), qO (.iload_n 2)] (pc' := 32) (L' := [zR 34 0, zI a0, zI a1]) (S' := [zI a1, zI a0, zR 34 0]) (σ' := σ5) (Ps := []) (by decide +kernel) rfl trivial ?_
        refine r_callVI (As := [zI a0, zI a1]) (S := []) (Lc := [zR 34 0, zI a0, zI a1, zU]) (d' := 7) (n := 2) (g := 34) (x := 0) (ci := 11) kX11_areMet vX11_areMet lkX11_209 (by decide +kernel) (by decide) rfl rfl (by decide) rfl rfl (Nat.le_of_ble_eq_true rfl) rfl rfl (Nat.le_of_ble_eq_true rfl) (h.monoI (fun z10 σ9 h => ?_))
        refine r_if_eq (off := 7) (tgt := 42) (by decide +kernel) (by decide) (fun c => ?_) (fun c => ?_)
        · replace h := h.1 c
          refine r_blk [qO (.iconst 0)] (pc' := 43) (L' := [zR 34 0, zI a0, zI a1]) (S' := [zI 0]) (σ' := σ9) (Ps := []) (by decide +kernel) rfl trivial ?_
          exact r_ret (by decide +kernel) rfl (fun _ => h)
        · replace h := h.2 c
          refine r_blk [qO (.iconst 1), qO (.goto 4)] (pc' := 43) (L' := [zR 34 0, zI a0, zI a1]) (S' := [zI 1]) (σ' := σ9) (Ps := []) (by decide +kernel) rfl trivial ?_
          exact r_ret (by decide +kernel) rfl (fun _ => h)
      · replace h := h.2 c
        refine r_blk [qO (.aload_n 0), qO (.iconst (-1))] (pc' := 23) (L' := [zR 34 0, zI a0, zI a1]) (S' := [zI (-1), zR 34 0]) (σ' := σ5) (Ps := []) (by decide +kernel) rfl trivial ?_
        refine r_callVI (As := [zI (-1)]) (S := []) (Lc := [zR 34 0, zI (-1)]) (d' := 0) (n := 1) (g := 34) (x := 0) (ci := 11) kX11_refuse vX11_refuse lkX11_66 (by decide +kernel) (by decide) rfl rfl (by decide) rfl rfl (Nat.le_of_ble_eq_true rfl) rfl rfl (Nat.le_of_ble_eq_true rfl) (h.monoI (fun z12 σ11 h => ?_))
        refine r_blk [qO (.goto 17)] (pc' := 43) (L' := [zR 34 0, zI a0, zI a1]) (S' := [zI z12]) (σ' := σ11) (Ps := []) (by decide +kernel) rfl trivial ?_
        exact r_ret (by decide +kernel) rfl (fun _ => h)
theorem gX11_pairs_0 (σ : Hp) {Q : Option Int → Hp → Prop} (h : Runs 8 mX11_pairs 4 [zR 34 0, zI 0, zI 0, zU] [] σ Q) : Runs 8 mX11_pairs 0 [zR 34 0, zU, zU, zU] [] σ Q := by
  refine r_blk [qO (.iconst 0), qO (.istore_n 1), qO (.iconst 0), qO (.istore_n 2)] (pc' := 4) (L' := [zR 34 0, zI 0, zI 0, zU]) (S' := []) (σ' := σ) (Ps := []) (by decide +kernel) rfl trivial ?_
  exact Runs.fg (fgE (fgE (fgE (fgU fg0)))) h
theorem gX11_pairs_4 (l1 : Int) (l2 : Int) (σ : Hp) {Q : Option Int → Hp → Prop} (h : ((σ 36 0 2 ≤ l2 → Q (some l1) σ) ∧ (¬ σ 36 0 2 ≤ l2 → (-2147483648 ≤ l2 + 1 ∧ l2 + 1 ≤ 2147483647) ∧ Runs 8 mX11_pairs 18 [zR 34 0, zI l1, zI l2, zI (l2 + 1)] [] σ Q))) : Runs 8 mX11_pairs 4 [zR 34 0, zI l1, zI l2, zU] [] σ Q := by
  refine r_blk [qO (.iload_n 2), qO (.aload_n 0), qF (.getfield 13) 11 1, qO (.iconst 2), qO .iaload] (pc' := 11) (L' := [zR 34 0, zI l1, zI l2, zU]) (S' := [zI (σ 36 0 2), zI l2]) (σ' := σ) (Ps := [0 ≤ 2 ∧ 2 < 123]) (by decide +kernel) rfl ⟨(by decide), trivial⟩ ?_
  refine r_icmp_ge (off := 46) (tgt := 57) (by decide +kernel) (by decide) (fun c => ?_) (fun c => ?_)
  · replace h := h.1 c
    refine r_blk [qO (.iload_n 1)] (pc' := 58) (L' := [zR 34 0, zI l1, zI l2, zU]) (S' := [zI l1]) (σ' := σ) (Ps := []) (by decide +kernel) rfl trivial ?_
    exact r_ret (by decide +kernel) rfl (fun _ => h)
  · replace h := h.2 c
    refine r_blk [qO (.iload_n 2), qO (.iconst 1), qO .iadd, qO (.istore_n 3)] (pc' := 18) (L' := [zR 34 0, zI l1, zI l2, zI (l2 + 1)]) (S' := []) (σ' := σ) (Ps := [-2147483648 ≤ l2 + 1 ∧ l2 + 1 ≤ 2147483647]) (by decide +kernel) rfl ⟨h.1, trivial⟩ ?_
    replace h := h.2
    exact Runs.fg (fgE (fgE (fgE (fgE fg0)))) h
theorem gX11_pairs_18 (l1 : Int) (l2 : Int) (l3 : Int) (σ : Hp) {Q : Option Int → Hp → Prop} (h : ((σ 36 0 2 ≤ l3 → (-2147483648 ≤ l2 + 1 ∧ l2 + 1 ≤ 2147483647) ∧ Runs 8 mX11_pairs 4 [zR 34 0, zI l1, zI (l2 + 1), zU] [] σ Q) ∧ (¬ σ 36 0 2 ≤ l3 → Runs 7 mX11_areMet 0 [zR 34 0, zI l2, zI l3, zU] [] σ (rI (fun z2 σ1 => ((z2 = 0 → (-2147483648 ≤ l1 + 1 ∧ l1 + 1 ≤ 2147483647) ∧ (-2147483648 ≤ l3 + 1 ∧ l3 + 1 ≤ 2147483647) ∧ Runs 8 mX11_pairs 18 [zR 34 0, zI (l1 + 1), zI l2, zI (l3 + 1)] [] σ1 Q) ∧ (¬ z2 = 0 → (-2147483648 ≤ l1 + 0 ∧ l1 + 0 ≤ 2147483647) ∧ (-2147483648 ≤ l3 + 1 ∧ l3 + 1 ≤ 2147483647) ∧ Runs 8 mX11_pairs 18 [zR 34 0, zI (l1 + 0), zI l2, zI (l3 + 1)] [] σ1 Q))))))) : Runs 8 mX11_pairs 18 [zR 34 0, zI l1, zI l2, zI l3] [] σ Q := by
  refine r_blk [qO (.iload_n 3), qO (.aload_n 0), qF (.getfield 13) 11 1, qO (.iconst 2), qO .iaload] (pc' := 25) (L' := [zR 34 0, zI l1, zI l2, zI l3]) (S' := [zI (σ 36 0 2), zI l3]) (σ' := σ) (Ps := [0 ≤ 2 ∧ 2 < 123]) (by decide +kernel) rfl ⟨(by decide), trivial⟩ ?_
  refine r_icmp_ge (off := 26) (tgt := 51) (by decide +kernel) (by decide) (fun c => ?_) (fun c => ?_)
  · replace h := h.1 c
    refine r_blk [qO (.iinc 2 1), qO (.goto (-50))] (pc' := 4) (L' := [zR 34 0, zI l1, zI (l2 + 1), zI l3]) (S' := []) (σ' := σ) (Ps := [-2147483648 ≤ l2 + 1 ∧ l2 + 1 ≤ 2147483647]) (by decide +kernel) rfl ⟨h.1, trivial⟩ ?_
    replace h := h.2
    exact Runs.fg (fgE (fgE (fgE (fgU fg0)))) h
  · replace h := h.2 c
    refine r_blk [qO (.iload_n 1), qO (.aload_n 0), qO (.iload_n 2), qO (.iload_n 3)] (pc' := 32) (L' := [zR 34 0, zI l1, zI l2, zI l3]) (S' := [zI l3, zI l2, zR 34 0, zI l1]) (σ' := σ) (Ps := []) (by decide +kernel) rfl trivial ?_
    refine r_callVI (As := [zI l2, zI l3]) (S := [zI l1]) (Lc := [zR 34 0, zI l2, zI l3, zU]) (d' := 7) (n := 2) (g := 34) (x := 0) (ci := 11) kX11_areMet vX11_areMet lkX11_209 (by decide +kernel) (by decide) rfl rfl (by decide) rfl rfl (Nat.le_of_ble_eq_true rfl) rfl rfl (Nat.le_of_ble_eq_true rfl) (h.monoI (fun z2 σ1 h => ?_))
    refine r_if_eq (off := 7) (tgt := 42) (by decide +kernel) (by decide) (fun c => ?_) (fun c => ?_)
    · replace h := h.1 c
      refine r_blk [qO (.iconst 1), qO .iadd, qO (.istore_n 1), qO (.iinc 3 1), qO (.goto (-30))] (pc' := 18) (L' := [zR 34 0, zI (l1 + 1), zI l2, zI (l3 + 1)]) (S' := []) (σ' := σ1) (Ps := [-2147483648 ≤ l1 + 1 ∧ l1 + 1 ≤ 2147483647, -2147483648 ≤ l3 + 1 ∧ l3 + 1 ≤ 2147483647]) (by decide +kernel) rfl ⟨h.1, h.2.1, trivial⟩ ?_
      replace h := h.2.2
      exact Runs.fg (fgE (fgE (fgE (fgE fg0)))) h
    · replace h := h.2 c
      refine r_blk [qO (.iconst 0), qO (.goto 4), qO .iadd, qO (.istore_n 1), qO (.iinc 3 1), qO (.goto (-30))] (pc' := 18) (L' := [zR 34 0, zI (l1 + 0), zI l2, zI (l3 + 1)]) (S' := []) (σ' := σ1) (Ps := [-2147483648 ≤ l1 + 0 ∧ l1 + 0 ≤ 2147483647, -2147483648 ≤ l3 + 1 ∧ l3 + 1 ≤ 2147483647]) (by decide +kernel) rfl ⟨h.1, h.2.1, trivial⟩ ?_
      replace h := h.2.2
      exact Runs.fg (fgE (fgE (fgE (fgE fg0)))) h
theorem gX11_isReached_0 (a0 : Int) (a1 : Int) (a2 : Int) (σ : Hp) {Q : Option Int → Hp → Prop} (h : Runs 4 mX11_finds 0 [zR 34 0, zI a0, zI a1, zU, zU, zU, zU, zU] [] σ (rV (fun σ1 => Runs 5 mX11_isReached 9 [zR 34 0, zU, zI a1, zI a2, zI 0] [] σ1 Q))) : Runs 5 mX11_isReached 0 [zR 34 0, zI a0, zI a1, zI a2, zU] [] σ Q := by
  refine r_blk [qO (.aload_n 0), qO (.iload_n 1), qO (.iload_n 2)] (pc' := 3) (L' := [zR 34 0, zI a0, zI a1, zI a2, zU]) (S' := [zI a1, zI a0, zR 34 0]) (σ' := σ) (Ps := []) (by decide +kernel) rfl trivial ?_
  refine r_callVV (As := [zI a0, zI a1]) (S := []) (Lc := [zR 34 0, zI a0, zI a1, zU, zU, zU, zU, zU]) (d' := 4) (n := 2) (g := 34) (x := 0) (ci := 11) kX11_finds vX11_finds lkX11_142 (by decide +kernel) (by decide) rfl rfl (by decide) rfl rfl (Nat.le_of_ble_eq_true rfl) rfl rfl (Nat.le_of_ble_eq_true rfl) (h.monoV (fun σ1 h => ?_))
  refine r_blk [qO (.iconst 0), qO (.istore 4)] (pc' := 9) (L' := [zR 34 0, zI a0, zI a1, zI a2, zI 0]) (S' := []) (σ' := σ1) (Ps := []) (by decide +kernel) rfl trivial ?_
  exact Runs.fg (fgE (fgU (fgE (fgE (fgE fg0))))) h
theorem gX11_isReached_9 (l2 : Int) (l3 : Int) (l4 : Int) (σ : Hp) {Q : Option Int → Hp → Prop} (h : ((σ 36 0 0 ≤ l4 → Q (some 1) σ) ∧ (¬ σ 36 0 0 ≤ l4 → (0 ≤ l4 ∧ l4 < 10) ∧ ((σ 41 0 l4.toNat < 0 → Q (some 0) σ) ∧ (¬ σ 41 0 l4.toNat < 0 → (0 ≤ l4 ∧ l4 < 10) ∧ (-2147483648 ≤ l2 + l3 ∧ l2 + l3 ≤ 2147483647) ∧ ((σ 41 0 l4.toNat ≤ l2 + l3 → (-2147483648 ≤ l4 + 1 ∧ l4 + 1 ≤ 2147483647) ∧ Runs 5 mX11_isReached 9 [zR 34 0, zU, zI l2, zI l3, zI (l4 + 1)] [] σ Q) ∧ (¬ σ 41 0 l4.toNat ≤ l2 + l3 → Q (some 0) σ))))))) : Runs 5 mX11_isReached 9 [zR 34 0, zU, zI l2, zI l3, zI l4] [] σ Q := by
  refine r_blk [qO (.iload 4), qO (.aload_n 0), qF (.getfield 13) 11 1, qO (.iconst 0), qO .iaload] (pc' := 17) (L' := [zR 34 0, zU, zI l2, zI l3, zI l4]) (S' := [zI (σ 36 0 0), zI l4]) (σ' := σ) (Ps := [0 ≤ 0 ∧ 0 < 123]) (by decide +kernel) rfl ⟨(by decide), trivial⟩ ?_
  refine r_icmp_ge (off := 34) (tgt := 51) (by decide +kernel) (by decide) (fun c => ?_) (fun c => ?_)
  · replace h := h.1 c
    refine r_blk [qO (.iconst 1)] (pc' := 52) (L' := [zR 34 0, zU, zI l2, zI l3, zI l4]) (S' := [zI 1]) (σ' := σ) (Ps := []) (by decide +kernel) rfl trivial ?_
    exact r_retz (by decide +kernel) rfl (by decide) h
  · replace h := h.2 c
    refine r_blk [qO (.aload_n 0), qF (.getfield 28) 11 9, qO (.iload 4), qO .iaload] (pc' := 27) (L' := [zR 34 0, zU, zI l2, zI l3, zI l4]) (S' := [zI (σ 41 0 l4.toNat)]) (σ' := σ) (Ps := [0 ≤ l4 ∧ l4 < 10]) (by decide +kernel) rfl ⟨h.1, trivial⟩ ?_
    replace h := h.2
    refine r_if_lt (off := 16) (tgt := 43) (by decide +kernel) (by decide) (fun c => ?_) (fun c => ?_)
    · replace h := h.1 c
      refine r_blk [qO (.iconst 0)] (pc' := 44) (L' := [zR 34 0, zU, zI l2, zI l3, zI l4]) (S' := [zI 0]) (σ' := σ) (Ps := []) (by decide +kernel) rfl trivial ?_
      exact r_retz (by decide +kernel) rfl (by decide) h
    · replace h := h.2 c
      refine r_blk [qO (.aload_n 0), qF (.getfield 28) 11 9, qO (.iload 4), qO .iaload, qO (.iload_n 2), qO (.iload_n 3), qO .iadd] (pc' := 40) (L' := [zR 34 0, zU, zI l2, zI l3, zI l4]) (S' := [zI (l2 + l3), zI (σ 41 0 l4.toNat)]) (σ' := σ) (Ps := [0 ≤ l4 ∧ l4 < 10, -2147483648 ≤ l2 + l3 ∧ l2 + l3 ≤ 2147483647]) (by decide +kernel) rfl ⟨h.1, h.2.1, trivial⟩ ?_
      replace h := h.2.2
      refine r_icmp_le (off := 5) (tgt := 45) (by decide +kernel) (by decide) (fun c => ?_) (fun c => ?_)
      · replace h := h.1 c
        refine r_blk [qO (.iinc 4 1), qO (.goto (-39))] (pc' := 9) (L' := [zR 34 0, zU, zI l2, zI l3, zI (l4 + 1)]) (S' := []) (σ' := σ) (Ps := [-2147483648 ≤ l4 + 1 ∧ l4 + 1 ≤ 2147483647]) (by decide +kernel) rfl ⟨h.1, trivial⟩ ?_
        replace h := h.2
        exact Runs.fg (fgE (fgU (fgE (fgE (fgE fg0))))) h
      · replace h := h.2 c
        refine r_blk [qO (.iconst 0)] (pc' := 44) (L' := [zR 34 0, zU, zI l2, zI l3, zI l4]) (S' := [zI 0]) (σ' := σ) (Ps := []) (by decide +kernel) rfl trivial ?_
        exact r_retz (by decide +kernel) rfl (by decide) h
theorem gX11_lanes_0 (a0 : Int) (a1 : Int) (a2 : Int) (σ : Hp) {Q : Option Int → Hp → Prop} (h : Runs 1 mX11_isCorner 0 [zR 34 0, zI a0] [] σ (rI (fun z2 σ1 => ((¬ z2 = 0 → ((a1 < 0 → Runs 0 mX11_refuse 0 [zR 34 0, zI (-4)] [] σ1 (rI (fun z4 σ3 => Q (some z4) σ3))) ∧ (¬ a1 < 0 → ((0 ≤ a2 → ((2879 < a1 → Runs 0 mX11_refuse 0 [zR 34 0, zI (-6)] [] σ1 (rI (fun z6 σ5 => Q (some z6) σ5))) ∧ (¬ 2879 < a1 → ((2879 < a2 → Runs 0 mX11_refuse 0 [zR 34 0, zI (-6)] [] σ1 (rI (fun z8 σ7 => Q (some z8) σ7))) ∧ (¬ 2879 < a2 → ((σ1 36 0 1 ≤ 10 → Runs 6 mX11_lanes 77 [zR 34 0, zI a0, zI a1, zI a2, zU, zI (-9), zI 0] [] σ1 Q) ∧ (¬ σ1 36 0 1 ≤ 10 → Runs 0 mX11_refuse 0 [zR 34 0, zI (-6)] [] σ1 (rI (fun z10 σ9 => Q (some z10) σ9))))))))) ∧ (¬ 0 ≤ a2 → Runs 0 mX11_refuse 0 [zR 34 0, zI (-4)] [] σ1 (rI (fun z12 σ11 => Q (some z12) σ11))))))) ∧ (z2 = 0 → Runs 0 mX11_refuse 0 [zR 34 0, zI (-1)] [] σ1 (rI (fun z14 σ13 => Q (some z14) σ13))))))) : Runs 6 mX11_lanes 0 [zR 34 0, zI a0, zI a1, zI a2, zU, zU, zU] [] σ Q := by
  refine r_blk [qO (.aload_n 0), qO (.iload_n 1)] (pc' := 2) (L' := [zR 34 0, zI a0, zI a1, zI a2, zU, zU, zU]) (S' := [zI a0, zR 34 0]) (σ' := σ) (Ps := []) (by decide +kernel) rfl trivial ?_
  refine r_callVI (As := [zI a0]) (S := []) (Lc := [zR 34 0, zI a0]) (d' := 1) (n := 1) (g := 34) (x := 0) (ci := 11) kX11_isCorner vX11_isCorner lkX11_136 (by decide +kernel) (by decide) rfl rfl (by decide) rfl rfl (Nat.le_of_ble_eq_true rfl) rfl rfl (Nat.le_of_ble_eq_true rfl) (h.monoI (fun z2 σ1 h => ?_))
  refine r_if_ne (off := 7) (tgt := 12) (by decide +kernel) (by decide) (fun c => ?_) (fun c => ?_)
  · replace h := h.1 c
    refine r_blk [qO (.iload_n 2)] (pc' := 13) (L' := [zR 34 0, zI a0, zI a1, zI a2, zU, zU, zU]) (S' := [zI a1]) (σ' := σ1) (Ps := []) (by decide +kernel) rfl trivial ?_
    refine r_if_lt (off := 7) (tgt := 20) (by decide +kernel) (by decide) (fun c => ?_) (fun c => ?_)
    · replace h := h.1 c
      refine r_blk [qO (.bipush (-4)), qO (.goto 34), qO (.istore 4), qO (.iload 4)] (pc' := 60) (L' := [zR 34 0, zI a0, zI a1, zI a2, zI (-4), zU, zU]) (S' := [zI (-4)]) (σ' := σ1) (Ps := []) (by decide +kernel) rfl trivial ?_
      refine r_if_eq (off := 10) (tgt := 70) (by decide +kernel) (by decide) (fun c => ?_) (fun c => ?_)
      · exact absurd c (by decide)
      · refine r_blk [qO (.aload_n 0), qO (.iload 4)] (pc' := 66) (L' := [zR 34 0, zI a0, zI a1, zI a2, zI (-4), zU, zU]) (S' := [zI (-4), zR 34 0]) (σ' := σ1) (Ps := []) (by decide +kernel) rfl trivial ?_
        refine r_callVI (As := [zI (-4)]) (S := []) (Lc := [zR 34 0, zI (-4)]) (d' := 0) (n := 1) (g := 34) (x := 0) (ci := 11) kX11_refuse vX11_refuse lkX11_66 (by decide +kernel) (by decide) rfl rfl (by decide) rfl rfl (Nat.le_of_ble_eq_true rfl) rfl rfl (Nat.le_of_ble_eq_true rfl) (h.monoI (fun z4 σ3 h => ?_))
        exact r_ret (by decide +kernel) rfl (fun _ => h)
    · replace h := h.2 c
      refine r_blk [qO (.iload_n 3)] (pc' := 17) (L' := [zR 34 0, zI a0, zI a1, zI a2, zU, zU, zU]) (S' := [zI a2]) (σ' := σ1) (Ps := []) (by decide +kernel) rfl trivial ?_
      refine r_if_ge (off := 8) (tgt := 25) (by decide +kernel) (by decide) (fun c => ?_) (fun c => ?_)
      · replace h := h.1 c
        refine r_blk [qO (.iload_n 2), qO (.sipush 2879)] (pc' := 29) (L' := [zR 34 0, zI a0, zI a1, zI a2, zU, zU, zU]) (S' := [zI 2879, zI a1]) (σ' := σ1) (Ps := []) (by decide +kernel) rfl trivial ?_
        refine r_icmp_gt (off := 21) (tgt := 50) (by decide +kernel) (by decide) (fun c => ?_) (fun c => ?_)
        · replace h := h.1 c
          refine r_blk [qO (.bipush (-6)), qO (.goto 4), qO (.istore 4), qO (.iload 4)] (pc' := 60) (L' := [zR 34 0, zI a0, zI a1, zI a2, zI (-6), zU, zU]) (S' := [zI (-6)]) (σ' := σ1) (Ps := []) (by decide +kernel) rfl trivial ?_
          refine r_if_eq (off := 10) (tgt := 70) (by decide +kernel) (by decide) (fun c => ?_) (fun c => ?_)
          · exact absurd c (by decide)
          · refine r_blk [qO (.aload_n 0), qO (.iload 4)] (pc' := 66) (L' := [zR 34 0, zI a0, zI a1, zI a2, zI (-6), zU, zU]) (S' := [zI (-6), zR 34 0]) (σ' := σ1) (Ps := []) (by decide +kernel) rfl trivial ?_
            refine r_callVI (As := [zI (-6)]) (S := []) (Lc := [zR 34 0, zI (-6)]) (d' := 0) (n := 1) (g := 34) (x := 0) (ci := 11) kX11_refuse vX11_refuse lkX11_66 (by decide +kernel) (by decide) rfl rfl (by decide) rfl rfl (Nat.le_of_ble_eq_true rfl) rfl rfl (Nat.le_of_ble_eq_true rfl) (h.monoI (fun z6 σ5 h => ?_))
            exact r_ret (by decide +kernel) rfl (fun _ => h)
        · replace h := h.2 c
          refine r_blk [qO (.iload_n 3), qO (.sipush 2879)] (pc' := 36) (L' := [zR 34 0, zI a0, zI a1, zI a2, zU, zU, zU]) (S' := [zI 2879, zI a2]) (σ' := σ1) (Ps := []) (by decide +kernel) rfl trivial ?_
          refine r_icmp_gt (off := 14) (tgt := 50) (by decide +kernel) (by decide) (fun c => ?_) (fun c => ?_)
          · replace h := h.1 c
            refine r_blk [qO (.bipush (-6)), qO (.goto 4), qO (.istore 4), qO (.iload 4)] (pc' := 60) (L' := [zR 34 0, zI a0, zI a1, zI a2, zI (-6), zU, zU]) (S' := [zI (-6)]) (σ' := σ1) (Ps := []) (by decide +kernel) rfl trivial ?_
            refine r_if_eq (off := 10) (tgt := 70) (by decide +kernel) (by decide) (fun c => ?_) (fun c => ?_)
            · exact absurd c (by decide)
            · refine r_blk [qO (.aload_n 0), qO (.iload 4)] (pc' := 66) (L' := [zR 34 0, zI a0, zI a1, zI a2, zI (-6), zU, zU]) (S' := [zI (-6), zR 34 0]) (σ' := σ1) (Ps := []) (by decide +kernel) rfl trivial ?_
              refine r_callVI (As := [zI (-6)]) (S := []) (Lc := [zR 34 0, zI (-6)]) (d' := 0) (n := 1) (g := 34) (x := 0) (ci := 11) kX11_refuse vX11_refuse lkX11_66 (by decide +kernel) (by decide) rfl rfl (by decide) rfl rfl (Nat.le_of_ble_eq_true rfl) rfl rfl (Nat.le_of_ble_eq_true rfl) (h.monoI (fun z8 σ7 h => ?_))
              exact r_ret (by decide +kernel) rfl (fun _ => h)
          · replace h := h.2 c
            refine r_blk [qO (.aload_n 0), qF (.getfield 13) 11 1, qO (.iconst 1), qO .iaload, qO (.bipush 10)] (pc' := 47) (L' := [zR 34 0, zI a0, zI a1, zI a2, zU, zU, zU]) (S' := [zI 10, zI (σ1 36 0 1)]) (σ' := σ1) (Ps := [0 ≤ 1 ∧ 1 < 123]) (by decide +kernel) rfl ⟨(by decide), trivial⟩ ?_
            refine r_icmp_le (off := 8) (tgt := 55) (by decide +kernel) (by decide) (fun c => ?_) (fun c => ?_)
            · replace h := h.1 c
              refine r_blk [qO (.iconst 0), qO (.istore 4), qO (.iload 4)] (pc' := 60) (L' := [zR 34 0, zI a0, zI a1, zI a2, zI 0, zU, zU]) (S' := [zI 0]) (σ' := σ1) (Ps := []) (by decide +kernel) rfl trivial ?_
              refine r_if_eq (off := 10) (tgt := 70) (by decide +kernel) (by decide) (fun c => ?_) (fun c => ?_)
              · refine r_blk [qO (.bipush (-9)), qO (.istore 5), qO (.iconst 0), qO (.istore 6)] (pc' := 77) (L' := [zR 34 0, zI a0, zI a1, zI a2, zI 0, zI (-9), zI 0]) (S' := []) (σ' := σ1) (Ps := []) (by decide +kernel) rfl trivial ?_
                exact Runs.fg (fgE (fgE (fgE (fgE (fgU (fgE (fgE fg0))))))) h
              · exact absurd c (by decide)
            · replace h := h.2 c
              refine r_blk [qO (.bipush (-6)), qO (.goto 4), qO (.istore 4), qO (.iload 4)] (pc' := 60) (L' := [zR 34 0, zI a0, zI a1, zI a2, zI (-6), zU, zU]) (S' := [zI (-6)]) (σ' := σ1) (Ps := []) (by decide +kernel) rfl trivial ?_
              refine r_if_eq (off := 10) (tgt := 70) (by decide +kernel) (by decide) (fun c => ?_) (fun c => ?_)
              · exact absurd c (by decide)
              · refine r_blk [qO (.aload_n 0), qO (.iload 4)] (pc' := 66) (L' := [zR 34 0, zI a0, zI a1, zI a2, zI (-6), zU, zU]) (S' := [zI (-6), zR 34 0]) (σ' := σ1) (Ps := []) (by decide +kernel) rfl trivial ?_
                refine r_callVI (As := [zI (-6)]) (S := []) (Lc := [zR 34 0, zI (-6)]) (d' := 0) (n := 1) (g := 34) (x := 0) (ci := 11) kX11_refuse vX11_refuse lkX11_66 (by decide +kernel) (by decide) rfl rfl (by decide) rfl rfl (Nat.le_of_ble_eq_true rfl) rfl rfl (Nat.le_of_ble_eq_true rfl) (h.monoI (fun z10 σ9 h => ?_))
                exact r_ret (by decide +kernel) rfl (fun _ => h)
      · replace h := h.2 c
        refine r_blk [qO (.bipush (-4)), qO (.goto 34), qO (.istore 4), qO (.iload 4)] (pc' := 60) (L' := [zR 34 0, zI a0, zI a1, zI a2, zI (-4), zU, zU]) (S' := [zI (-4)]) (σ' := σ1) (Ps := []) (by decide +kernel) rfl trivial ?_
        refine r_if_eq (off := 10) (tgt := 70) (by decide +kernel) (by decide) (fun c => ?_) (fun c => ?_)
        · exact absurd c (by decide)
        · refine r_blk [qO (.aload_n 0), qO (.iload 4)] (pc' := 66) (L' := [zR 34 0, zI a0, zI a1, zI a2, zI (-4), zU, zU]) (S' := [zI (-4), zR 34 0]) (σ' := σ1) (Ps := []) (by decide +kernel) rfl trivial ?_
          refine r_callVI (As := [zI (-4)]) (S := []) (Lc := [zR 34 0, zI (-4)]) (d' := 0) (n := 1) (g := 34) (x := 0) (ci := 11) kX11_refuse vX11_refuse lkX11_66 (by decide +kernel) (by decide) rfl rfl (by decide) rfl rfl (Nat.le_of_ble_eq_true rfl) rfl rfl (Nat.le_of_ble_eq_true rfl) (h.monoI (fun z12 σ11 h => ?_))
          exact r_ret (by decide +kernel) rfl (fun _ => h)
  · replace h := h.2 c
    refine r_blk [qO (.iconst (-1)), qO (.goto 47), qO (.istore 4), qO (.iload 4)] (pc' := 60) (L' := [zR 34 0, zI a0, zI a1, zI a2, zI (-1), zU, zU]) (S' := [zI (-1)]) (σ' := σ1) (Ps := []) (by decide +kernel) rfl trivial ?_
    refine r_if_eq (off := 10) (tgt := 70) (by decide +kernel) (by decide) (fun c => ?_) (fun c => ?_)
    · exact absurd c (by decide)
    · refine r_blk [qO (.aload_n 0), qO (.iload 4)] (pc' := 66) (L' := [zR 34 0, zI a0, zI a1, zI a2, zI (-1), zU, zU]) (S' := [zI (-1), zR 34 0]) (σ' := σ1) (Ps := []) (by decide +kernel) rfl trivial ?_
      refine r_callVI (As := [zI (-1)]) (S := []) (Lc := [zR 34 0, zI (-1)]) (d' := 0) (n := 1) (g := 34) (x := 0) (ci := 11) kX11_refuse vX11_refuse lkX11_66 (by decide +kernel) (by decide) rfl rfl (by decide) rfl rfl (Nat.le_of_ble_eq_true rfl) rfl rfl (Nat.le_of_ble_eq_true rfl) (h.monoI (fun z14 σ13 h => ?_))
      exact r_ret (by decide +kernel) rfl (fun _ => h)
theorem gX11_lanes_77 (l1 : Int) (l2 : Int) (l3 : Int) (l5 : Int) (l6 : Int) (σ : Hp) {Q : Option Int → Hp → Prop} (h : ((zshl 1 (σ 36 0 1) ≤ l6 → Q (some l5) (zup σ 36 0 5 0)) ∧ (¬ zshl 1 (σ 36 0 1) ≤ l6 → ((l5 < 0 → Runs 6 mX11_lanes 111 [zR 34 0, zI l1, zI l2, zI l3, zU, zI l5, zI l6] [] σ Q) ∧ (¬ l5 < 0 → Runs 0 mX11_bits 0 [zI l6, zU, zU] [] σ (rI (fun z2 σ1 => Runs 0 mX11_bits 0 [zI l5, zU, zU] [] σ1 (rI (fun z4 σ3 => ((z2 < z4 → Runs 6 mX11_lanes 111 [zR 34 0, zI l1, zI l2, zI l3, zU, zI l5, zI l6] [] σ3 Q) ∧ (¬ z2 < z4 → (-2147483648 ≤ l6 + 1 ∧ l6 + 1 ≤ 2147483647) ∧ Runs 6 mX11_lanes 77 [zR 34 0, zI l1, zI l2, zI l3, zU, zI l5, zI (l6 + 1)] [] σ3 Q))))))))))) : Runs 6 mX11_lanes 77 [zR 34 0, zI l1, zI l2, zI l3, zU, zI l5, zI l6] [] σ Q := by
  refine r_blk [qO (.iload 6), qO (.iconst 1), qO (.aload_n 0), qF (.getfield 13) 11 1, qO (.iconst 1), qO .iaload, qO .ishl] (pc' := 87) (L' := [zR 34 0, zI l1, zI l2, zI l3, zU, zI l5, zI l6]) (S' := [zI (zshl 1 (σ 36 0 1)), zI l6]) (σ' := σ) (Ps := [0 ≤ 1 ∧ 1 < 123]) (by decide +kernel) rfl ⟨(by decide), trivial⟩ ?_
  refine r_icmp_ge (off := 57) (tgt := 144) (by decide +kernel) (by decide) (fun c => ?_) (fun c => ?_)
  · replace h := h.1 c
    refine r_blk [qO (.aload_n 0), qF (.getfield 13) 11 1, qO (.iconst 5), qO (.iconst 0), qO .iastore, qO (.iload 5)] (pc' := 153) (L' := [zR 34 0, zI l1, zI l2, zI l3, zU, zI l5, zI l6]) (S' := [zI l5]) (σ' := (zup σ 36 0 5 0)) (Ps := [0 ≤ 5 ∧ 5 < 123]) (by decide +kernel) rfl ⟨(by decide), trivial⟩ ?_
    exact r_ret (by decide +kernel) rfl (fun _ => h)
  · replace h := h.2 c
    refine r_blk [qO (.iload 5)] (pc' := 92) (L' := [zR 34 0, zI l1, zI l2, zI l3, zU, zI l5, zI l6]) (S' := [zI l5]) (σ' := σ) (Ps := []) (by decide +kernel) rfl trivial ?_
    refine r_if_lt (off := 19) (tgt := 111) (by decide +kernel) (by decide) (fun c => ?_) (fun c => ?_)
    · replace h := h.1 c
      exact Runs.fg (fgE (fgE (fgE (fgE (fgU (fgE (fgE fg0))))))) h
    · replace h := h.2 c
      refine r_blk [qO (.iload 6)] (pc' := 97) (L' := [zR 34 0, zI l1, zI l2, zI l3, zU, zI l5, zI l6]) (S' := [zI l6]) (σ' := σ) (Ps := []) (by decide +kernel) rfl trivial ?_
      refine r_callSI (As := [zI l6]) (S := []) (Lc := [zI l6, zU, zU]) (d' := 0) (n := 1) kX11_bits vX11_bits lkX11_200 (by decide +kernel) (by decide) rfl rfl (Nat.le_of_ble_eq_true rfl) rfl rfl (Nat.le_of_ble_eq_true rfl) (h.monoI (fun z2 σ1 h => ?_))
      refine r_blk [qO (.iload 5)] (pc' := 102) (L' := [zR 34 0, zI l1, zI l2, zI l3, zU, zI l5, zI l6]) (S' := [zI l5, zI z2]) (σ' := σ1) (Ps := []) (by decide +kernel) rfl trivial ?_
      refine r_callSI (As := [zI l5]) (S := [zI z2]) (Lc := [zI l5, zU, zU]) (d' := 0) (n := 1) kX11_bits vX11_bits lkX11_200 (by decide +kernel) (by decide) rfl rfl (Nat.le_of_ble_eq_true rfl) rfl rfl (Nat.le_of_ble_eq_true rfl) (h.monoI (fun z4 σ3 h => ?_))
      refine r_icmp_lt (off := 6) (tgt := 111) (by decide +kernel) (by decide) (fun c => ?_) (fun c => ?_)
      · replace h := h.1 c
        exact Runs.fg (fgE (fgE (fgE (fgE (fgU (fgE (fgE fg0))))))) h
      · replace h := h.2 c
        refine r_blk [qO (.goto 30), qO (.iinc 6 1), qO (.goto (-64))] (pc' := 77) (L' := [zR 34 0, zI l1, zI l2, zI l3, zU, zI l5, zI (l6 + 1)]) (S' := []) (σ' := σ3) (Ps := [-2147483648 ≤ l6 + 1 ∧ l6 + 1 ≤ 2147483647]) (by decide +kernel) rfl ⟨h.1, trivial⟩ ?_
        replace h := h.2
        exact Runs.fg (fgE (fgE (fgE (fgE (fgU (fgE (fgE fg0))))))) h
theorem gX11_lanes_111 (l1 : Int) (l2 : Int) (l3 : Int) (l5 : Int) (l6 : Int) (σ : Hp) {Q : Option Int → Hp → Prop} (h : Runs 5 mX11_isReached 0 [zR 34 0, zI l1, zI l2, zI l3, zU] [] (zup σ 36 0 5 l6) (rI (fun z2 σ1 => ((z2 = 0 → (-2147483648 ≤ l6 + 1 ∧ l6 + 1 ≤ 2147483647) ∧ Runs 6 mX11_lanes 77 [zR 34 0, zI l1, zI l2, zI l3, zU, zI l5, zI (l6 + 1)] [] σ1 Q) ∧ (¬ z2 = 0 → (-2147483648 ≤ l6 + 1 ∧ l6 + 1 ≤ 2147483647) ∧ Runs 6 mX11_lanes 77 [zR 34 0, zI l1, zI l2, zI l3, zU, zI l6, zI (l6 + 1)] [] σ1 Q))))) : Runs 6 mX11_lanes 111 [zR 34 0, zI l1, zI l2, zI l3, zU, zI l5, zI l6] [] σ Q := by
  refine r_blk [qO (.aload_n 0), qF (.getfield 13) 11 1, qO (.iconst 5), qO (.iload 6), qO .iastore, qO (.aload_n 0), qO (.iload_n 1), qO (.iload_n 2), qO (.iload_n 3)] (pc' := 123) (L' := [zR 34 0, zI l1, zI l2, zI l3, zU, zI l5, zI l6]) (S' := [zI l3, zI l2, zI l1, zR 34 0]) (σ' := (zup σ 36 0 5 l6)) (Ps := [0 ≤ 5 ∧ 5 < 123]) (by decide +kernel) rfl ⟨(by decide), trivial⟩ ?_
  refine r_callVI (As := [zI l1, zI l2, zI l3]) (S := []) (Lc := [zR 34 0, zI l1, zI l2, zI l3, zU]) (d' := 5) (n := 3) (g := 34) (x := 0) (ci := 11) kX11_isReached vX11_isReached lkX11_212 (by decide +kernel) (by decide) rfl rfl (by decide) rfl rfl (Nat.le_of_ble_eq_true rfl) rfl rfl (Nat.le_of_ble_eq_true rfl) (h.monoI (fun z2 σ1 h => ?_))
  refine r_if_eq (off := 8) (tgt := 134) (by decide +kernel) (by decide) (fun c => ?_) (fun c => ?_)
  · replace h := h.1 c
    refine r_blk [qO (.iload 5), qO (.istore 5), qO (.iinc 6 1), qO (.goto (-64))] (pc' := 77) (L' := [zR 34 0, zI l1, zI l2, zI l3, zU, zI l5, zI (l6 + 1)]) (S' := []) (σ' := σ1) (Ps := [-2147483648 ≤ l6 + 1 ∧ l6 + 1 ≤ 2147483647]) (by decide +kernel) rfl ⟨h.1, trivial⟩ ?_
    replace h := h.2
    exact Runs.fg (fgE (fgE (fgE (fgE (fgU (fgE (fgE fg0))))))) h
  · replace h := h.2 c
    refine r_blk [qO (.iload 6), qO (.goto 5), qO (.istore 5), qO (.iinc 6 1), qO (.goto (-64))] (pc' := 77) (L' := [zR 34 0, zI l1, zI l2, zI l3, zU, zI l6, zI (l6 + 1)]) (S' := []) (σ' := σ1) (Ps := [-2147483648 ≤ l6 + 1 ∧ l6 + 1 ≤ 2147483647]) (by decide +kernel) rfl ⟨h.1, trivial⟩ ?_
    replace h := h.2
    exact Runs.fg (fgE (fgE (fgE (fgE (fgU (fgE (fgE fg0))))))) h
theorem gX11_shuts_0 (a0 : Int) (σ : Hp) {Q : Option Int → Hp → Prop} (h : Runs 1 mX11_isStreet 0 [zR 34 0, zI a0] [] σ (rI (fun z2 σ1 => ((¬ z2 = 0 → Runs 5 mX11_costOf 0 [zR 34 0, zU, zU, zU] [] σ1 (rI (fun z4 σ3 => Runs 5 mX11_costOf 0 [zR 34 0, zU, zU, zU] [] (zup σ3 36 0 4 (zor (σ3 36 0 4) (zshl 1 a0))) (rI (fun z6 σ5 => (-2147483648 ≤ z6 - z4 ∧ z6 - z4 ≤ 2147483647) ∧ Q (some (z6 - z4)) (zup σ5 36 0 4 (σ3 36 0 4))))))) ∧ (z2 = 0 → Runs 0 mX11_refuse 0 [zR 34 0, zI (-1)] [] σ1 (rI (fun z8 σ7 => (-2147483648 ≤ 1000000000 - z8 ∧ 1000000000 - z8 ≤ 2147483647) ∧ Q (some (1000000000 - z8)) σ7))))))) : Runs 6 mX11_shuts 0 [zR 34 0, zI a0, zU, zU, zU] [] σ Q := by
  refine r_blk [qO (.aload_n 0), qO (.iload_n 1)] (pc' := 2) (L' := [zR 34 0, zI a0, zU, zU, zU]) (S' := [zI a0, zR 34 0]) (σ' := σ) (Ps := []) (by decide +kernel) rfl trivial ?_
  refine r_callVI (As := [zI a0]) (S := []) (Lc := [zR 34 0, zI a0]) (d' := 1) (n := 1) (g := 34) (x := 0) (ci := 11) kX11_isStreet vX11_isStreet lkX11_103 (by decide +kernel) (by decide) rfl rfl (by decide) rfl rfl (Nat.le_of_ble_eq_true rfl) rfl rfl (Nat.le_of_ble_eq_true rfl) (h.monoI (fun z2 σ1 h => ?_))
  refine r_if_ne (off := 12) (tgt := 17) (by decide +kernel) (by decide) (fun c => ?_) (fun c => ?_)
  · replace h := h.1 c
    refine r_blk [qO (.aload_n 0)] (pc' := 18) (L' := [zR 34 0, zI a0, zU, zU, zU]) (S' := [zR 34 0]) (σ' := σ1) (Ps := []) (by decide +kernel) rfl trivial ?_
    refine r_callVI (As := []) (S := []) (Lc := [zR 34 0, zU, zU, zU]) (d' := 5) (n := 0) (g := 34) (x := 0) (ci := 11) kX11_costOf vX11_costOf lkX11_187 (by decide +kernel) (by decide) rfl rfl (by decide) rfl rfl (Nat.le_of_ble_eq_true rfl) rfl rfl (Nat.le_of_ble_eq_true rfl) (h.monoI (fun z4 σ3 h => ?_))
    refine r_blk [qO (.istore_n 2), qO (.aload_n 0), qF (.getfield 13) 11 1, qO (.iconst 4), qO .iaload, qO (.istore_n 3), qO (.aload_n 0), qF (.getfield 13) 11 1, qO (.iconst 4), qO .dup2, qO .iaload, qO (.iconst 1), qO (.iload_n 1), qO .ishl, qO .ior, qO .iastore, qO (.aload_n 0)] (pc' := 42) (L' := [zR 34 0, zI a0, zI z4, zI (σ3 36 0 4), zU]) (S' := [zR 34 0]) (σ' := (zup σ3 36 0 4 (zor (σ3 36 0 4) (zshl 1 a0)))) (Ps := [0 ≤ 4 ∧ 4 < 123, 0 ≤ 4 ∧ 4 < 123, 0 ≤ 4 ∧ 4 < 123]) (by decide +kernel) rfl ⟨(by decide), (by decide), (by decide), trivial⟩ ?_
    refine r_callVI (As := []) (S := []) (Lc := [zR 34 0, zU, zU, zU]) (d' := 5) (n := 0) (g := 34) (x := 0) (ci := 11) kX11_costOf vX11_costOf lkX11_187 (by decide +kernel) (by decide) rfl rfl (by decide) rfl rfl (Nat.le_of_ble_eq_true rfl) rfl rfl (Nat.le_of_ble_eq_true rfl) (h.monoI (fun z6 σ5 h => ?_))
    refine r_blk [qO (.istore 4), qO (.aload_n 0), qF (.getfield 13) 11 1, qO (.iconst 4), qO (.iload_n 3), qO .iastore, qO (.iload 4), qO (.iload_n 2), qO .isub] (pc' := 58) (L' := [zR 34 0, zI a0, zI z4, zI (σ3 36 0 4), zI z6]) (S' := [zI (z6 - z4)]) (σ' := (zup σ5 36 0 4 (σ3 36 0 4))) (Ps := [0 ≤ 4 ∧ 4 < 123, -2147483648 ≤ z6 - z4 ∧ z6 - z4 ≤ 2147483647]) (by decide +kernel) rfl ⟨(by decide), h.1, trivial⟩ ?_
    replace h := h.2
    exact r_ret (by decide +kernel) rfl (fun _ => h)
  · replace h := h.2 c
    refine r_blk [qC (.ldc 155) 1000000000, qO (.aload_n 0), qO (.iconst (-1))] (pc' := 12) (L' := [zR 34 0, zI a0, zU, zU, zU]) (S' := [zI (-1), zR 34 0, zI 1000000000]) (σ' := σ1) (Ps := []) (by decide +kernel) rfl trivial ?_
    refine r_callVI (As := [zI (-1)]) (S := [zI 1000000000]) (Lc := [zR 34 0, zI (-1)]) (d' := 0) (n := 1) (g := 34) (x := 0) (ci := 11) kX11_refuse vX11_refuse lkX11_66 (by decide +kernel) (by decide) rfl rfl (by decide) rfl rfl (Nat.le_of_ble_eq_true rfl) rfl rfl (Nat.le_of_ble_eq_true rfl) (h.monoI (fun z8 σ7 h => ?_))
    refine r_blk [qO .isub] (pc' := 16) (L' := [zR 34 0, zI a0, zU, zU, zU]) (S' := [zI (1000000000 - z8)]) (σ' := σ7) (Ps := [-2147483648 ≤ 1000000000 - z8 ∧ 1000000000 - z8 ≤ 2147483647]) (by decide +kernel) rfl ⟨h.1, trivial⟩ ?_
    replace h := h.2
    exact r_ret (by decide +kernel) rfl (fun _ => h)
theorem gX11_days_0 (a0 : Int) (a1 : Int) (σ : Hp) {Q : Option Int → Hp → Prop} (h : Runs 0 mX11_within 0 [zI a0, zI 1, zI 10] [] σ (rI (fun z2 σ1 => ((z2 = 0 → Runs 6 mX11_days 21 [zR 34 0, zI a0, zI a1, zU, zI 0, zU, zU, zU] [] σ1 Q) ∧ (¬ z2 = 0 → Runs 0 mX11_refuse 0 [zR 34 0, zI z2] [] σ1 (rI (fun z4 σ3 => Q (some z4) σ3))))))) : Runs 6 mX11_days 0 [zR 34 0, zI a0, zI a1, zU, zU, zU, zU, zU] [] σ Q := by
  refine r_blk [qO (.iload_n 1), qO (.iconst 1), qO (.bipush 10)] (pc' := 4) (L' := [zR 34 0, zI a0, zI a1, zU, zU, zU, zU, zU]) (S' := [zI 10, zI 1, zI a0]) (σ' := σ) (Ps := []) (by decide +kernel) rfl trivial ?_
  refine r_callSI (As := [zI a0, zI 1, zI 10]) (S := []) (Lc := [zI a0, zI 1, zI 10]) (d' := 0) (n := 3) kX11_within vX11_within lkX11_119 (by decide +kernel) (by decide) rfl rfl (Nat.le_of_ble_eq_true rfl) rfl rfl (Nat.le_of_ble_eq_true rfl) (h.monoI (fun z2 σ1 h => ?_))
  refine r_blk [qO (.istore_n 3), qO (.iload_n 3)] (pc' := 9) (L' := [zR 34 0, zI a0, zI a1, zI z2, zU, zU, zU, zU]) (S' := [zI z2]) (σ' := σ1) (Ps := []) (by decide +kernel) rfl trivial ?_
  refine r_if_eq (off := 9) (tgt := 18) (by decide +kernel) (by decide) (fun c => ?_) (fun c => ?_)
  · replace h := h.1 c
    refine r_blk [qO (.iconst 0), qO (.istore 4)] (pc' := 21) (L' := [zR 34 0, zI a0, zI a1, zI z2, zI 0, zU, zU, zU]) (S' := []) (σ' := σ1) (Ps := []) (by decide +kernel) rfl trivial ?_
    exact Runs.fg (fgE (fgE (fgE (fgU (fgE (fgU (fgU (fgU fg0)))))))) h
  · replace h := h.2 c
    refine r_blk [qO (.aload_n 0), qO (.iload_n 3)] (pc' := 14) (L' := [zR 34 0, zI a0, zI a1, zI z2, zU, zU, zU, zU]) (S' := [zI z2, zR 34 0]) (σ' := σ1) (Ps := []) (by decide +kernel) rfl trivial ?_
    refine r_callVI (As := [zI z2]) (S := []) (Lc := [zR 34 0, zI z2]) (d' := 0) (n := 1) (g := 34) (x := 0) (ci := 11) kX11_refuse vX11_refuse lkX11_66 (by decide +kernel) (by decide) rfl rfl (by decide) rfl rfl (Nat.le_of_ble_eq_true rfl) rfl rfl (Nat.le_of_ble_eq_true rfl) (h.monoI (fun z4 σ3 h => ?_))
    exact r_ret (by decide +kernel) rfl (fun _ => h)
theorem gX11_days_21 (l1 : Int) (l2 : Int) (l4 : Int) (σ : Hp) {Q : Option Int → Hp → Prop} (h : ((8 ≤ l4 → Runs 6 mX11_days 57 [zR 34 0, zI l1, zU, zU, zI l2, zI 0, zI 0, zU] [] σ Q) ∧ (¬ 8 ≤ l4 → Runs 0 mX11_of 0 [zR 34 0, zI l4, zI 2] [] σ (rI (fun z2 σ1 => (0 ≤ l4 ∧ l4 < 8) ∧ (-2147483648 ≤ l4 + 1 ∧ l4 + 1 ≤ 2147483647) ∧ Runs 6 mX11_days 21 [zR 34 0, zI l1, zI l2, zU, zI (l4 + 1), zU, zU, zU] [] (zup σ1 47 0 l4.toNat z2) Q))))) : Runs 6 mX11_days 21 [zR 34 0, zI l1, zI l2, zU, zI l4, zU, zU, zU] [] σ Q := by
  refine r_blk [qO (.iload 4), qO (.bipush 8)] (pc' := 25) (L' := [zR 34 0, zI l1, zI l2, zU, zI l4, zU, zU, zU]) (S' := [zI 8, zI l4]) (σ' := σ) (Ps := []) (by decide +kernel) rfl trivial ?_
  refine r_icmp_ge (off := 23) (tgt := 48) (by decide +kernel) (by decide) (fun c => ?_) (fun c => ?_)
  · replace h := h.1 c
    refine r_blk [qO (.iload_n 2), qO (.istore 4), qO (.iconst 0), qO (.istore 5), qO (.iconst 0), qO (.istore 6)] (pc' := 57) (L' := [zR 34 0, zI l1, zI l2, zU, zI l2, zI 0, zI 0, zU]) (S' := []) (σ' := σ) (Ps := []) (by decide +kernel) rfl trivial ?_
    exact Runs.fg (fgE (fgE (fgU (fgU (fgE (fgE (fgE (fgU fg0)))))))) h
  · replace h := h.2 c
    refine r_blk [qO (.aload_n 0), qF (.getfield 47) 11 20, qO (.iload 4), qO (.aload_n 0), qO (.iload 4), qO (.iconst 2)] (pc' := 38) (L' := [zR 34 0, zI l1, zI l2, zU, zI l4, zU, zU, zU]) (S' := [zI 2, zI l4, zR 34 0, zI l4, zR 47 0]) (σ' := σ) (Ps := []) (by decide +kernel) rfl trivial ?_
    refine r_callVI (As := [zI l4, zI 2]) (S := [zI l4, zR 47 0]) (Lc := [zR 34 0, zI l4, zI 2]) (d' := 0) (n := 2) (g := 34) (x := 0) (ci := 11) kX11_of vX11_of lkX11_113 (by decide +kernel) (by decide) rfl rfl (by decide) rfl rfl (Nat.le_of_ble_eq_true rfl) rfl rfl (Nat.le_of_ble_eq_true rfl) (h.monoI (fun z2 σ1 h => ?_))
    refine r_blk [qO .iastore, qO (.iinc 4 1), qO (.goto (-24))] (pc' := 21) (L' := [zR 34 0, zI l1, zI l2, zU, zI (l4 + 1), zU, zU, zU]) (S' := []) (σ' := (zup σ1 47 0 l4.toNat z2)) (Ps := [0 ≤ l4 ∧ l4 < 8, -2147483648 ≤ l4 + 1 ∧ l4 + 1 ≤ 2147483647]) (by decide +kernel) rfl ⟨h.1, h.2.1, trivial⟩ ?_
    replace h := h.2.2
    exact Runs.fg (fgE (fgE (fgE (fgU (fgE (fgU (fgU (fgU fg0)))))))) h
theorem gX11_days_57 (l1 : Int) (l4 : Int) (l5 : Int) (l6 : Int) (σ : Hp) {Q : Option Int → Hp → Prop} (h : ((l1 ≤ l6 → Runs 6 mX11_days 138 [zR 34 0, zU, zU, zU, zU, zI l5, zI 0, zU] [] σ Q) ∧ (¬ l1 ≤ l6 → Runs 6 mX11_days 66 [zR 34 0, zI l1, zU, zU, zI l4, zI l5, zI l6, zI 0] [] σ Q))) : Runs 6 mX11_days 57 [zR 34 0, zI l1, zU, zU, zI l4, zI l5, zI l6, zU] [] σ Q := by
  refine r_blk [qO (.iload 6), qO (.iload_n 1)] (pc' := 60) (L' := [zR 34 0, zI l1, zU, zU, zI l4, zI l5, zI l6, zU]) (S' := [zI l1, zI l6]) (σ' := σ) (Ps := []) (by decide +kernel) rfl trivial ?_
  refine r_icmp_ge (off := 75) (tgt := 135) (by decide +kernel) (by decide) (fun c => ?_) (fun c => ?_)
  · replace h := h.1 c
    refine r_blk [qO (.iconst 0), qO (.istore 6)] (pc' := 138) (L' := [zR 34 0, zI l1, zU, zU, zI l4, zI l5, zI 0, zU]) (S' := []) (σ' := σ) (Ps := []) (by decide +kernel) rfl trivial ?_
    exact Runs.fg (fgE (fgU (fgU (fgU (fgU (fgE (fgE (fgU fg0)))))))) h
  · replace h := h.2 c
    refine r_blk [qO (.iconst 0), qO (.istore 7)] (pc' := 66) (L' := [zR 34 0, zI l1, zU, zU, zI l4, zI l5, zI l6, zI 0]) (S' := []) (σ' := σ) (Ps := []) (by decide +kernel) rfl trivial ?_
    exact Runs.fg (fgE (fgE (fgU (fgU (fgE (fgE (fgE (fgE fg0)))))))) h
theorem gX11_days_66 (l1 : Int) (l4 : Int) (l5 : Int) (l6 : Int) (l7 : Int) (σ : Hp) {Q : Option Int → Hp → Prop} (h : ((σ 36 0 2 ≤ l7 → Runs 5 mX11_costOf 0 [zR 34 0, zU, zU, zU] [] σ (rI (fun z2 σ1 => (-2147483648 ≤ l5 + z2 ∧ l5 + z2 ≤ 2147483647) ∧ (-2147483648 ≤ l6 + 1 ∧ l6 + 1 ≤ 2147483647) ∧ Runs 6 mX11_days 57 [zR 34 0, zI l1, zU, zU, zI l4, zI (l5 + z2), zI (l6 + 1), zU] [] σ1 Q))) ∧ (¬ σ 36 0 2 ≤ l7 → (-2147483648 ≤ l4 * 1664525 ∧ l4 * 1664525 ≤ 2147483647) ∧ (-2147483648 ≤ (l4 * 1664525) + 1013904223 ∧ (l4 * 1664525) + 1013904223 ≤ 2147483647) ∧ (-2147483648 ≤ 4 * l7 ∧ 4 * l7 ≤ 2147483647) ∧ (-2147483648 ≤ 81 + (4 * l7) ∧ 81 + (4 * l7) ≤ 2147483647) ∧ (-2147483648 ≤ (81 + (4 * l7)) + 2 ∧ (81 + (4 * l7)) + 2 ≤ 2147483647) ∧ (0 ≤ (81 + (4 * l7)) + 2 ∧ (81 + (4 * l7)) + 2 < 123) ∧ (-2147483648 ≤ l7 + 1 ∧ l7 + 1 ≤ 2147483647) ∧ ∀ σ3 : Hp, σ3 = (zup σ 36 0 (((81 + (4 * l7)) + 2).toNat) (zrem (zdiv (zand ((l4 * 1664525) + 1013904223) 2147483647) 256) 1440)) → Runs 6 mX11_days 66 [zR 34 0, zI l1, zU, zU, zI ((l4 * 1664525) + 1013904223), zI l5, zI l6, zI (l7 + 1)] [] σ3 Q))) : Runs 6 mX11_days 66 [zR 34 0, zI l1, zU, zU, zI l4, zI l5, zI l6, zI l7] [] σ Q := by
  refine r_blk [qO (.iload 7), qO (.aload_n 0), qF (.getfield 13) 11 1, qO (.iconst 2), qO .iaload] (pc' := 74) (L' := [zR 34 0, zI l1, zU, zU, zI l4, zI l5, zI l6, zI l7]) (S' := [zI (σ 36 0 2), zI l7]) (σ' := σ) (Ps := [0 ≤ 2 ∧ 2 < 123]) (by decide +kernel) rfl ⟨(by decide), trivial⟩ ?_
  refine r_icmp_ge (off := 46) (tgt := 120) (by decide +kernel) (by decide) (fun c => ?_) (fun c => ?_)
  · replace h := h.1 c
    refine r_blk [qO (.iload 5), qO (.aload_n 0)] (pc' := 123) (L' := [zR 34 0, zI l1, zU, zU, zI l4, zI l5, zI l6, zI l7]) (S' := [zR 34 0, zI l5]) (σ' := σ) (Ps := []) (by decide +kernel) rfl trivial ?_
    refine r_callVI (As := []) (S := [zI l5]) (Lc := [zR 34 0, zU, zU, zU]) (d' := 5) (n := 0) (g := 34) (x := 0) (ci := 11) kX11_costOf vX11_costOf lkX11_187 (by decide +kernel) (by decide) rfl rfl (by decide) rfl rfl (Nat.le_of_ble_eq_true rfl) rfl rfl (Nat.le_of_ble_eq_true rfl) (h.monoI (fun z2 σ1 h => ?_))
    refine r_blk [qO .iadd, qO (.istore 5), qO (.iinc 6 1), qO (.goto (-75))] (pc' := 57) (L' := [zR 34 0, zI l1, zU, zU, zI l4, zI (l5 + z2), zI (l6 + 1), zI l7]) (S' := []) (σ' := σ1) (Ps := [-2147483648 ≤ l5 + z2 ∧ l5 + z2 ≤ 2147483647, -2147483648 ≤ l6 + 1 ∧ l6 + 1 ≤ 2147483647]) (by decide +kernel) rfl ⟨h.1, h.2.1, trivial⟩ ?_
    replace h := h.2.2
    exact Runs.fg (fgE (fgE (fgU (fgU (fgE (fgE (fgE (fgU fg0)))))))) h
  · replace h := h.2 c
    refine r_blk [qO (.iload 4), qC (.ldc 215) 1664525, qO .imul, qC (.ldc 216) 1013904223, qO .iadd, qO (.istore 4), qO (.aload_n 0), qF (.getfield 13) 11 1, qO (.bipush 81), qO (.iconst 4), qO (.iload 7), qO .imul, qO .iadd, qO (.iconst 2), qO .iadd, qO (.iload 4), qC (.ldc 217) 2147483647, qO .iand, qO (.sipush 256), qO .idiv, qO (.sipush 1440), qO .irem, qO .iastore, qO (.iinc 7 1), qO (.goto (-51))] (pc' := 66) (L' := [zR 34 0, zI l1, zU, zU, zI ((l4 * 1664525) + 1013904223), zI l5, zI l6, zI (l7 + 1)]) (S' := []) (σ' := (zup σ 36 0 (((81 + (4 * l7)) + 2).toNat) (zrem (zdiv (zand ((l4 * 1664525) + 1013904223) 2147483647) 256) 1440))) (Ps := [-2147483648 ≤ l4 * 1664525 ∧ l4 * 1664525 ≤ 2147483647, -2147483648 ≤ (l4 * 1664525) + 1013904223 ∧ (l4 * 1664525) + 1013904223 ≤ 2147483647, -2147483648 ≤ 4 * l7 ∧ 4 * l7 ≤ 2147483647, -2147483648 ≤ 81 + (4 * l7) ∧ 81 + (4 * l7) ≤ 2147483647, -2147483648 ≤ (81 + (4 * l7)) + 2 ∧ (81 + (4 * l7)) + 2 ≤ 2147483647, 256 ≠ 0, 1440 ≠ 0, 0 ≤ (81 + (4 * l7)) + 2 ∧ (81 + (4 * l7)) + 2 < 123, -2147483648 ≤ l7 + 1 ∧ l7 + 1 ≤ 2147483647]) (by decide +kernel) rfl ⟨h.1, h.2.1, h.2.2.1, h.2.2.2.1, h.2.2.2.2.1, (by decide), (by decide), h.2.2.2.2.2.1, h.2.2.2.2.2.2.1, trivial⟩ ?_
    replace h := h.2.2.2.2.2.2.2
    generalize hσ3 : (zup σ 36 0 (((81 + (4 * l7)) + 2).toNat) (zrem (zdiv (zand ((l4 * 1664525) + 1013904223) 2147483647) 256) 1440)) = σ3
    replace h := h σ3 hσ3.symm
    exact Runs.fg (fgE (fgE (fgU (fgU (fgE (fgE (fgE (fgE fg0)))))))) h
theorem gX11_days_138 (l5 : Int) (l6 : Int) (σ : Hp) {Q : Option Int → Hp → Prop} (h : ((8 ≤ l6 → Q (some l5) σ) ∧ (¬ 8 ≤ l6 → (-2147483648 ≤ 4 * l6 ∧ 4 * l6 ≤ 2147483647) ∧ (-2147483648 ≤ 81 + (4 * l6) ∧ 81 + (4 * l6) ≤ 2147483647) ∧ (-2147483648 ≤ (81 + (4 * l6)) + 2 ∧ (81 + (4 * l6)) + 2 ≤ 2147483647) ∧ (0 ≤ l6 ∧ l6 < 8) ∧ (0 ≤ (81 + (4 * l6)) + 2 ∧ (81 + (4 * l6)) + 2 < 123) ∧ (-2147483648 ≤ l6 + 1 ∧ l6 + 1 ≤ 2147483647) ∧ Runs 6 mX11_days 138 [zR 34 0, zU, zU, zU, zU, zI l5, zI (l6 + 1), zU] [] (zup σ 36 0 (((81 + (4 * l6)) + 2).toNat) (σ 47 0 l6.toNat)) Q))) : Runs 6 mX11_days 138 [zR 34 0, zU, zU, zU, zU, zI l5, zI l6, zU] [] σ Q := by
  refine r_blk [qO (.iload 6), qO (.bipush 8)] (pc' := 142) (L' := [zR 34 0, zU, zU, zU, zU, zI l5, zI l6, zU]) (S' := [zI 8, zI l6]) (σ' := σ) (Ps := []) (by decide +kernel) rfl trivial ?_
  refine r_icmp_ge (off := 30) (tgt := 172) (by decide +kernel) (by decide) (fun c => ?_) (fun c => ?_)
  · replace h := h.1 c
    refine r_blk [qO (.iload 5)] (pc' := 174) (L' := [zR 34 0, zU, zU, zU, zU, zI l5, zI l6, zU]) (S' := [zI l5]) (σ' := σ) (Ps := []) (by decide +kernel) rfl trivial ?_
    exact r_ret (by decide +kernel) rfl (fun _ => h)
  · replace h := h.2 c
    refine r_blk [qO (.aload_n 0), qF (.getfield 13) 11 1, qO (.bipush 81), qO (.iconst 4), qO (.iload 6), qO .imul, qO .iadd, qO (.iconst 2), qO .iadd, qO (.aload_n 0), qF (.getfield 47) 11 20, qO (.iload 6), qO .iaload, qO .iastore, qO (.iinc 6 1), qO (.goto (-31))] (pc' := 138) (L' := [zR 34 0, zU, zU, zU, zU, zI l5, zI (l6 + 1), zU]) (S' := []) (σ' := (zup σ 36 0 (((81 + (4 * l6)) + 2).toNat) (σ 47 0 l6.toNat))) (Ps := [-2147483648 ≤ 4 * l6 ∧ 4 * l6 ≤ 2147483647, -2147483648 ≤ 81 + (4 * l6) ∧ 81 + (4 * l6) ≤ 2147483647, -2147483648 ≤ (81 + (4 * l6)) + 2 ∧ (81 + (4 * l6)) + 2 ≤ 2147483647, 0 ≤ l6 ∧ l6 < 8, 0 ≤ (81 + (4 * l6)) + 2 ∧ (81 + (4 * l6)) + 2 < 123, -2147483648 ≤ l6 + 1 ∧ l6 + 1 ≤ 2147483647]) (by decide +kernel) rfl ⟨h.1, h.2.1, h.2.2.1, h.2.2.2.1, h.2.2.2.2.1, h.2.2.2.2.2.1, trivial⟩ ?_
    replace h := h.2.2.2.2.2.2
    exact Runs.fg (fgE (fgU (fgU (fgU (fgU (fgE (fgE (fgU fg0)))))))) h
theorem gX11_judge_0 (σ : Hp) {Q : Option Int → Hp → Prop} (h : Runs 4 mX11_judge 2 [zR 34 0, zI 0, zU] [] σ Q) : Runs 4 mX11_judge 0 [zR 34 0, zU, zU] [] σ Q := by
  refine r_blk [qO (.iconst 0), qO (.istore_n 1)] (pc' := 2) (L' := [zR 34 0, zI 0, zU]) (S' := []) (σ' := σ) (Ps := []) (by decide +kernel) rfl trivial ?_
  exact Runs.fg (fgE (fgE (fgU fg0))) h
theorem gX11_judge_2 (l1 : Int) (σ : Hp) {Q : Option Int → Hp → Prop} (h : ((σ 36 0 1 ≤ l1 → Runs 3 mX11_findsFar 0 [zR 34 0, zI 0, zU, zU, zU, zU] [] σ (rV (fun σ1 => Runs 4 mX11_judge 56 [zR 34 0, zI 0, zU] [] σ1 Q))) ∧ (¬ σ 36 0 1 ≤ l1 → Runs 0 mX11_get 0 [zR 34 0, zI l1, zI 4] [] σ (rI (fun z3 σ2 => ((2 ≤ z3 → (-2147483648 ≤ l1 + 1 ∧ l1 + 1 ≤ 2147483647) ∧ Runs 4 mX11_judge 2 [zR 34 0, zI (l1 + 1), zU] [] σ2 Q) ∧ (¬ 2 ≤ z3 → Runs 0 mX11_get 0 [zR 34 0, zI l1, zI 4] [] σ2 (rI (fun z5 σ4 => ((bitz (σ2 36 0 3) l1 = z5 → (-2147483648 ≤ l1 + 1 ∧ l1 + 1 ≤ 2147483647) ∧ Runs 4 mX11_judge 2 [zR 34 0, zI (l1 + 1), zU] [] σ4 Q) ∧ (¬ bitz (σ2 36 0 3) l1 = z5 → Q (some l1) σ4))))))))))) : Runs 4 mX11_judge 2 [zR 34 0, zI l1, zU] [] σ Q := by
  refine r_blk [qO (.iload_n 1), qO (.aload_n 0), qF (.getfield 13) 11 1, qO (.iconst 1), qO .iaload] (pc' := 9) (L' := [zR 34 0, zI l1, zU]) (S' := [zI (σ 36 0 1), zI l1]) (σ' := σ) (Ps := [0 ≤ 1 ∧ 1 < 123]) (by decide +kernel) rfl ⟨(by decide), trivial⟩ ?_
  refine r_icmp_ge (off := 40) (tgt := 49) (by decide +kernel) (by decide) (fun c => ?_) (fun c => ?_)
  · replace h := h.1 c
    refine r_blk [qO (.aload_n 0), qO (.iconst 0)] (pc' := 51) (L' := [zR 34 0, zI l1, zU]) (S' := [zI 0, zR 34 0]) (σ' := σ) (Ps := []) (by decide +kernel) rfl trivial ?_
    refine r_callVV (As := [zI 0]) (S := []) (Lc := [zR 34 0, zI 0, zU, zU, zU, zU]) (d' := 3) (n := 1) (g := 34) (x := 0) (ci := 11) kX11_findsFar vX11_findsFar lkX11_156 (by decide +kernel) (by decide) rfl rfl (by decide) rfl rfl (Nat.le_of_ble_eq_true rfl) rfl rfl (Nat.le_of_ble_eq_true rfl) (h.monoV (fun σ1 h => ?_))
    refine r_blk [qO (.iconst 0), qO (.istore_n 1)] (pc' := 56) (L' := [zR 34 0, zI 0, zU]) (S' := []) (σ' := σ1) (Ps := []) (by decide +kernel) rfl trivial ?_
    exact Runs.fg (fgE (fgE (fgU fg0))) h
  · replace h := h.2 c
    refine r_blk [qO (.aload_n 0), qO (.iload_n 1), qO (.iconst 4)] (pc' := 15) (L' := [zR 34 0, zI l1, zU]) (S' := [zI 4, zI l1, zR 34 0]) (σ' := σ) (Ps := []) (by decide +kernel) rfl trivial ?_
    refine r_callVI (As := [zI l1, zI 4]) (S := []) (Lc := [zR 34 0, zI l1, zI 4]) (d' := 0) (n := 2) (g := 34) (x := 0) (ci := 11) kX11_get vX11_get lkX11_106 (by decide +kernel) (by decide) rfl rfl (by decide) rfl rfl (Nat.le_of_ble_eq_true rfl) rfl rfl (Nat.le_of_ble_eq_true rfl) (h.monoI (fun z3 σ2 h => ?_))
    refine r_blk [qO (.iconst 2)] (pc' := 19) (L' := [zR 34 0, zI l1, zU]) (S' := [zI 2, zI z3]) (σ' := σ2) (Ps := []) (by decide +kernel) rfl trivial ?_
    refine r_icmp_ge (off := 24) (tgt := 43) (by decide +kernel) (by decide) (fun c => ?_) (fun c => ?_)
    · replace h := h.1 c
      refine r_blk [qO (.iinc 1 1), qO (.goto (-44))] (pc' := 2) (L' := [zR 34 0, zI (l1 + 1), zU]) (S' := []) (σ' := σ2) (Ps := [-2147483648 ≤ l1 + 1 ∧ l1 + 1 ≤ 2147483647]) (by decide +kernel) rfl ⟨h.1, trivial⟩ ?_
      replace h := h.2
      exact Runs.fg (fgE (fgE (fgU fg0))) h
    · replace h := h.2 c
      refine r_blk [qO (.aload_n 0), qF (.getfield 13) 11 1, qO (.iconst 3), qO .iaload, qO (.iload_n 1), qO .ishr, qO (.iconst 1), qO .iand, qO (.aload_n 0), qO (.iload_n 1), qO (.iconst 4)] (pc' := 35) (L' := [zR 34 0, zI l1, zU]) (S' := [zI 4, zI l1, zR 34 0, zI (bitz (σ2 36 0 3) l1)]) (σ' := σ2) (Ps := [0 ≤ 3 ∧ 3 < 123]) (by decide +kernel) rfl ⟨(by decide), trivial⟩ ?_
      refine r_callVI (As := [zI l1, zI 4]) (S := [zI (bitz (σ2 36 0 3) l1)]) (Lc := [zR 34 0, zI l1, zI 4]) (d' := 0) (n := 2) (g := 34) (x := 0) (ci := 11) kX11_get vX11_get lkX11_106 (by decide +kernel) (by decide) rfl rfl (by decide) rfl rfl (Nat.le_of_ble_eq_true rfl) rfl rfl (Nat.le_of_ble_eq_true rfl) (h.monoI (fun z5 σ4 h => ?_))
      refine r_icmp_eq (off := 5) (tgt := 43) (by decide +kernel) (by decide) (fun c => ?_) (fun c => ?_)
      · replace h := h.1 c
        refine r_blk [qO (.iinc 1 1), qO (.goto (-44))] (pc' := 2) (L' := [zR 34 0, zI (l1 + 1), zU]) (S' := []) (σ' := σ4) (Ps := [-2147483648 ≤ l1 + 1 ∧ l1 + 1 ≤ 2147483647]) (by decide +kernel) rfl ⟨h.1, trivial⟩ ?_
        replace h := h.2
        exact Runs.fg (fgE (fgE (fgU fg0))) h
      · replace h := h.2 c
        refine r_blk [qO (.iload_n 1)] (pc' := 42) (L' := [zR 34 0, zI l1, zU]) (S' := [zI l1]) (σ' := σ4) (Ps := []) (by decide +kernel) rfl trivial ?_
        exact r_ret (by decide +kernel) rfl (fun _ => h)
theorem gX11_judge_56 (l1 : Int) (σ : Hp) {Q : Option Int → Hp → Prop} (h : ((σ 36 0 0 ≤ l1 → Q (some (-9)) σ) ∧ (¬ σ 36 0 0 ≤ l1 → Runs 4 mX11_judge 68 [zR 34 0, zI l1, zI 0] [] σ Q))) : Runs 4 mX11_judge 56 [zR 34 0, zI l1, zU] [] σ Q := by
  refine r_blk [qO (.iload_n 1), qO (.aload_n 0), qF (.getfield 13) 11 1, qO (.iconst 0), qO .iaload] (pc' := 63) (L' := [zR 34 0, zI l1, zU]) (S' := [zI (σ 36 0 0), zI l1]) (σ' := σ) (Ps := [0 ≤ 0 ∧ 0 < 123]) (by decide +kernel) rfl ⟨(by decide), trivial⟩ ?_
  refine r_icmp_ge (off := 53) (tgt := 116) (by decide +kernel) (by decide) (fun c => ?_) (fun c => ?_)
  · replace h := h.1 c
    refine r_blk [qO (.bipush (-9))] (pc' := 118) (L' := [zR 34 0, zI l1, zU]) (S' := [zI (-9)]) (σ' := σ) (Ps := []) (by decide +kernel) rfl trivial ?_
    exact r_ret (by decide +kernel) rfl (fun _ => h)
  · replace h := h.2 c
    refine r_blk [qO (.iconst 0), qO (.istore_n 2)] (pc' := 68) (L' := [zR 34 0, zI l1, zI 0]) (S' := []) (σ' := σ) (Ps := []) (by decide +kernel) rfl trivial ?_
    exact Runs.fg (fgE (fgE (fgE fg0))) h
theorem gX11_judge_68 (l1 : Int) (l2 : Int) (σ : Hp) {Q : Option Int → Hp → Prop} (h : ((σ 36 0 0 ≤ l2 → (-2147483648 ≤ l1 + 1 ∧ l1 + 1 ≤ 2147483647) ∧ Runs 4 mX11_judge 56 [zR 34 0, zI (l1 + 1), zU] [] σ Q) ∧ (¬ σ 36 0 0 ≤ l2 → (-2147483648 ≤ 10 * l1 ∧ 10 * l1 ≤ 2147483647) ∧ (-2147483648 ≤ (10 * l1) + l2 ∧ (10 * l1) + l2 ≤ 2147483647) ∧ (0 ≤ (10 * l1) + l2 ∧ (10 * l1) + l2 < 100) ∧ ((σ 46 0 (((10 * l1) + l2).toNat) < 1000000000 → (-2147483648 ≤ l2 + 1 ∧ l2 + 1 ≤ 2147483647) ∧ Runs 4 mX11_judge 68 [zR 34 0, zI l1, zI (l2 + 1)] [] σ Q) ∧ (¬ σ 46 0 (((10 * l1) + l2).toNat) < 1000000000 → (-2147483648 ≤ 10 * l1 ∧ 10 * l1 ≤ 2147483647) ∧ (-2147483648 ≤ 100 + (10 * l1) ∧ 100 + (10 * l1) ≤ 2147483647) ∧ (-2147483648 ≤ (100 + (10 * l1)) + l2 ∧ (100 + (10 * l1)) + l2 ≤ 2147483647) ∧ Q (some ((100 + (10 * l1)) + l2)) σ))))) : Runs 4 mX11_judge 68 [zR 34 0, zI l1, zI l2] [] σ Q := by
  refine r_blk [qO (.iload_n 2), qO (.aload_n 0), qF (.getfield 13) 11 1, qO (.iconst 0), qO .iaload] (pc' := 75) (L' := [zR 34 0, zI l1, zI l2]) (S' := [zI (σ 36 0 0), zI l2]) (σ' := σ) (Ps := [0 ≤ 0 ∧ 0 < 123]) (by decide +kernel) rfl ⟨(by decide), trivial⟩ ?_
  refine r_icmp_ge (off := 35) (tgt := 110) (by decide +kernel) (by decide) (fun c => ?_) (fun c => ?_)
  · replace h := h.1 c
    refine r_blk [qO (.iinc 1 1), qO (.goto (-57))] (pc' := 56) (L' := [zR 34 0, zI (l1 + 1), zI l2]) (S' := []) (σ' := σ) (Ps := [-2147483648 ≤ l1 + 1 ∧ l1 + 1 ≤ 2147483647]) (by decide +kernel) rfl ⟨h.1, trivial⟩ ?_
    replace h := h.2
    exact Runs.fg (fgE (fgE (fgU fg0))) h
  · replace h := h.2 c
    refine r_blk [qO (.aload_n 0), qF (.getfield 44) 11 16, qO (.bipush 10), qO (.iload_n 1), qO .imul, qO (.iload_n 2), qO .iadd, qO .iaload, qC (.ldc 155) 1000000000] (pc' := 91) (L' := [zR 34 0, zI l1, zI l2]) (S' := [zI 1000000000, zI (σ 46 0 (((10 * l1) + l2).toNat))]) (σ' := σ) (Ps := [-2147483648 ≤ 10 * l1 ∧ 10 * l1 ≤ 2147483647, -2147483648 ≤ (10 * l1) + l2 ∧ (10 * l1) + l2 ≤ 2147483647, 0 ≤ (10 * l1) + l2 ∧ (10 * l1) + l2 < 100]) (by decide +kernel) rfl ⟨h.1, h.2.1, h.2.2.1, trivial⟩ ?_
    replace h := h.2.2.2
    refine r_icmp_lt (off := 13) (tgt := 104) (by decide +kernel) (by decide) (fun c => ?_) (fun c => ?_)
    · replace h := h.1 c
      refine r_blk [qO (.iinc 2 1), qO (.goto (-39))] (pc' := 68) (L' := [zR 34 0, zI l1, zI (l2 + 1)]) (S' := []) (σ' := σ) (Ps := [-2147483648 ≤ l2 + 1 ∧ l2 + 1 ≤ 2147483647]) (by decide +kernel) rfl ⟨h.1, trivial⟩ ?_
      replace h := h.2
      exact Runs.fg (fgE (fgE (fgE fg0))) h
    · replace h := h.2 c
      refine r_blk [qO (.bipush 100), qO (.bipush 10), qO (.iload_n 1), qO .imul, qO .iadd, qO (.iload_n 2), qO .iadd] (pc' := 103) (L' := [zR 34 0, zI l1, zI l2]) (S' := [zI ((100 + (10 * l1)) + l2)]) (σ' := σ) (Ps := [-2147483648 ≤ 10 * l1 ∧ 10 * l1 ≤ 2147483647, -2147483648 ≤ 100 + (10 * l1) ∧ 100 + (10 * l1) ≤ 2147483647, -2147483648 ≤ (100 + (10 * l1)) + l2 ∧ (100 + (10 * l1)) + l2 ≤ 2147483647]) (by decide +kernel) rfl ⟨h.1, h.2.1, h.2.2.1, trivial⟩ ?_
      replace h := h.2.2.2
      exact r_ret (by decide +kernel) rfl (fun _ => h)
theorem gX11_image_0 (σ : Hp) {Q : Option Int → Hp → Prop} (h : Runs 0 mX11_image 2 [zR 34 0, zI 0] [] σ Q) : Runs 0 mX11_image 0 [zR 34 0, zU] [] σ Q := by
  refine r_blk [qO (.iconst 0), qO (.istore_n 1)] (pc' := 2) (L' := [zR 34 0, zI 0]) (S' := []) (σ' := σ) (Ps := []) (by decide +kernel) rfl trivial ?_
  exact Runs.fg (fgE (fgE fg0)) h
theorem gX11_image_2 (l1 : Int) (σ : Hp) {Q : Option Int → Hp → Prop} (h : ((123 ≤ l1 → Q (some (σ 36 0 1)) (zup σ 34 0 4 1)) ∧ (¬ 123 ≤ l1 → (0 ≤ l1 ∧ l1 < 123) ∧ (0 ≤ l1 ∧ l1 < 123) ∧ (-2147483648 ≤ l1 + 1 ∧ l1 + 1 ≤ 2147483647) ∧ Runs 0 mX11_image 2 [zR 34 0, zI (l1 + 1)] [] (zup σ 37 0 l1.toNat (σ 36 0 l1.toNat)) Q))) : Runs 0 mX11_image 2 [zR 34 0, zI l1] [] σ Q := by
  refine r_blk [qO (.iload_n 1), qO (.bipush 123)] (pc' := 5) (L' := [zR 34 0, zI l1]) (S' := [zI 123, zI l1]) (σ' := σ) (Ps := []) (by decide +kernel) rfl trivial ?_
  refine r_icmp_ge (off := 21) (tgt := 26) (by decide +kernel) (by decide) (fun c => ?_) (fun c => ?_)
  · replace h := h.1 c
    refine r_blk [qO (.aload_n 0), qO (.iconst 1), qF (.putfield 218) 11 4, qO (.aload_n 0), qF (.getfield 13) 11 1, qO (.iconst 1), qO .iaload] (pc' := 37) (L' := [zR 34 0, zI l1]) (S' := [zI (σ 36 0 1)]) (σ' := (zup σ 34 0 4 1)) (Ps := [1 = 0 ∨ 1 = 1, 0 ≤ 1 ∧ 1 < 123]) (by decide +kernel) rfl ⟨(by decide), (by decide), trivial⟩ ?_
    exact r_ret (by decide +kernel) rfl (fun _ => h)
  · replace h := h.2 c
    refine r_blk [qO (.aload_n 0), qF (.getfield 16) 11 2, qO (.iload_n 1), qO (.aload_n 0), qF (.getfield 13) 11 1, qO (.iload_n 1), qO .iaload, qO .iastore, qO (.iinc 1 1), qO (.goto (-21))] (pc' := 2) (L' := [zR 34 0, zI (l1 + 1)]) (S' := []) (σ' := (zup σ 37 0 l1.toNat (σ 36 0 l1.toNat))) (Ps := [0 ≤ l1 ∧ l1 < 123, 0 ≤ l1 ∧ l1 < 123, -2147483648 ≤ l1 + 1 ∧ l1 + 1 ≤ 2147483647]) (by decide +kernel) rfl ⟨h.1, h.2.1, h.2.2.1, trivial⟩ ?_
    replace h := h.2.2.2
    exact Runs.fg (fgE (fgE fg0)) h
