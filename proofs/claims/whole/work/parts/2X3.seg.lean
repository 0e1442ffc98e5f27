theorem gX3_readInto_0 (u : Nat) (σ : Hp) {Q : Option Int → Hp → Prop} (h : Runs 4 mX3_statementsWritten 0 [zR 14 0, zU] [] σ (rI (fun z2 σ1 => ((0 ≤ z2 → Runs 1 mX6_takeFrom 0 [zR 1 2, zR 1 u] [] σ1 (rV (fun σ3 => Runs 5 mX3_readInto 26 [zR 14 0, zR 1 u, zI z2, zI 0] [] (zup σ3 14 0 2 0) Q))) ∧ (¬ 0 ≤ z2 → Q (some z2) σ1))))) : Runs 5 mX3_readInto 0 [zR 14 0, zR 1 u, zU, zU] [] σ Q := by
  refine r_blk [qO (.aload_n 0)] (pc' := 1) (L' := [zR 14 0, zR 1 u, zU, zU]) (S' := [zR 14 0]) (σ' := σ) (Ps := []) (by decide +kernel) rfl trivial ?_
  refine r_callVI (As := []) (S := []) (Lc := [zR 14 0, zU]) (d' := 4) (n := 0) (g := 14) (x := 0) (ci := 3) kX3_statementsWritten vX3_statementsWritten lkX3_26 (by decide +kernel) (by decide) rfl rfl (by decide) rfl rfl (Nat.le_of_ble_eq_true rfl) rfl rfl (Nat.le_of_ble_eq_true rfl) (h.monoI (fun z2 σ1 h => ?_))
  refine r_blk [qO (.istore_n 2), qO (.iload_n 2)] (pc' := 6) (L' := [zR 14 0, zR 1 u, zI z2, zU]) (S' := [zI z2]) (σ' := σ1) (Ps := []) (by decide +kernel) rfl trivial ?_
  refine r_if_ge (off := 5) (tgt := 11) (by decide +kernel) (by decide) (fun c => ?_) (fun c => ?_)
  · replace h := h.1 c
    refine r_blk [qO (.aload_n 0), qF (.getfield 12) 3 1, qO (.aload_n 1)] (pc' := 16) (L' := [zR 14 0, zR 1 u, zI z2, zU]) (S' := [zR 1 u, zR 1 2]) (σ' := σ1) (Ps := []) (by decide +kernel) rfl trivial ?_
    refine r_callVV (As := [zR 1 u]) (S := []) (Lc := [zR 1 2, zR 1 u]) (d' := 1) (n := 1) (g := 1) (x := 2) (ci := 6) kX6_takeFrom vX6_takeFrom lkX3_30 (by decide +kernel) (by decide) rfl rfl (by decide) rfl rfl (Nat.le_of_ble_eq_true rfl) rfl rfl (Nat.le_of_ble_eq_true rfl) (h.monoV (fun σ3 h => ?_))
    refine r_blk [qO (.aload_n 0), qO (.iconst 0), qF (.putfield 34) 3 2, qO (.iconst 0), qO (.istore_n 3)] (pc' := 26) (L' := [zR 14 0, zR 1 u, zI z2, zI 0]) (S' := []) (σ' := (zup σ3 14 0 2 0)) (Ps := []) (by decide +kernel) rfl trivial ?_
    exact Runs.fg (fgE (fgE (fgE (fgE fg0)))) h
  · replace h := h.2 c
    refine r_blk [qO (.iload_n 2)] (pc' := 10) (L' := [zR 14 0, zR 1 u, zI z2, zU]) (S' := [zI z2]) (σ' := σ1) (Ps := []) (by decide +kernel) rfl trivial ?_
    exact r_ret (by decide +kernel) rfl (fun _ => h)
theorem gX3_readInto_26 (l2 : Int) (l3 : Int) (u : Nat) (σ : Hp) {Q : Option Int → Hp → Prop} (h : ((l2 ≤ l3 → Runs 1 mX6_takeFrom 0 [zR 1 u, zR 1 2] [] σ (rV (fun σ1 => Q (some l2) σ1))) ∧ (¬ l2 ≤ l3 → Runs 3 mX3_readStatement 0 [zR 14 0] [] σ (rI (fun z3 σ2 => ((z3 = 0 → (-2147483648 ≤ (-2000) - (σ2 14 0 4) ∧ (-2000) - (σ2 14 0 4) ≤ 2147483647) ∧ Q (some ((-2000) - (σ2 14 0 4))) σ2) ∧ (¬ z3 = 0 → Runs 3 mX3_tell 0 [zR 14 0] [] σ2 (rI (fun z5 σ4 => ((¬ z5 = 0 → (-2147483648 ≤ l3 + 1 ∧ l3 + 1 ≤ 2147483647) ∧ Runs 5 mX3_readInto 26 [zR 14 0, zR 1 u, zI l2, zI (l3 + 1)] [] σ4 Q) ∧ (z5 = 0 → (-2147483648 ≤ (-2000) - (σ4 14 0 4) ∧ (-2000) - (σ4 14 0 4) ≤ 2147483647) ∧ Q (some ((-2000) - (σ4 14 0 4))) σ4))))))))))) : Runs 5 mX3_readInto 26 [zR 14 0, zR 1 u, zI l2, zI l3] [] σ Q := by
  refine r_blk [qO (.iload_n 3), qO (.iload_n 2)] (pc' := 28) (L' := [zR 14 0, zR 1 u, zI l2, zI l3]) (S' := [zI l2, zI l3]) (σ' := σ) (Ps := []) (by decide +kernel) rfl trivial ?_
  refine r_icmp_ge (off := 32) (tgt := 60) (by decide +kernel) (by decide) (fun c => ?_) (fun c => ?_)
  · replace h := h.1 c
    refine r_blk [qO (.aload_n 1), qO (.aload_n 0), qF (.getfield 12) 3 1] (pc' := 65) (L' := [zR 14 0, zR 1 u, zI l2, zI l3]) (S' := [zR 1 2, zR 1 u]) (σ' := σ) (Ps := []) (by decide +kernel) rfl trivial ?_
    refine r_callVV (As := [zR 1 2]) (S := []) (Lc := [zR 1 u, zR 1 2]) (d' := 1) (n := 1) (g := 1) (x := u) (ci := 6) kX6_takeFrom vX6_takeFrom lkX3_30 (by decide +kernel) (by decide) rfl rfl (by decide) rfl rfl (Nat.le_of_ble_eq_true rfl) rfl rfl (Nat.le_of_ble_eq_true rfl) (h.monoV (fun σ1 h => ?_))
    refine r_blk [qO (.iload_n 2)] (pc' := 69) (L' := [zR 14 0, zR 1 u, zI l2, zI l3]) (S' := [zI l2]) (σ' := σ1) (Ps := []) (by decide +kernel) rfl trivial ?_
    exact r_ret (by decide +kernel) rfl (fun _ => h)
  · replace h := h.2 c
    refine r_blk [qO (.aload_n 0)] (pc' := 32) (L' := [zR 14 0, zR 1 u, zI l2, zI l3]) (S' := [zR 14 0]) (σ' := σ) (Ps := []) (by decide +kernel) rfl trivial ?_
    refine r_callVI (As := []) (S := []) (Lc := [zR 14 0]) (d' := 3) (n := 0) (g := 14) (x := 0) (ci := 3) kX3_readStatement vX3_readStatement lkX3_38 (by decide +kernel) (by decide) rfl rfl (by decide) rfl rfl (Nat.le_of_ble_eq_true rfl) rfl rfl (Nat.le_of_ble_eq_true rfl) (h.monoI (fun z3 σ2 h => ?_))
    refine r_if_eq (off := 10) (tgt := 45) (by decide +kernel) (by decide) (fun c => ?_) (fun c => ?_)
    · replace h := h.1 c
      refine r_blk [qO (.sipush (-2000)), qO (.aload_n 0), qF (.getfield 45) 3 4, qO .isub] (pc' := 53) (L' := [zR 14 0, zR 1 u, zI l2, zI l3]) (S' := [zI ((-2000) - (σ2 14 0 4))]) (σ' := σ2) (Ps := [-2147483648 ≤ (-2000) - (σ2 14 0 4) ∧ (-2000) - (σ2 14 0 4) ≤ 2147483647]) (by decide +kernel) rfl ⟨h.1, trivial⟩ ?_
      replace h := h.2
      exact r_ret (by decide +kernel) rfl (fun _ => h)
    · replace h := h.2 c
      refine r_blk [qO (.aload_n 0)] (pc' := 39) (L' := [zR 14 0, zR 1 u, zI l2, zI l3]) (S' := [zR 14 0]) (σ' := σ2) (Ps := []) (by decide +kernel) rfl trivial ?_
      refine r_callVI (As := []) (S := []) (Lc := [zR 14 0]) (d' := 3) (n := 0) (g := 14) (x := 0) (ci := 3) kX3_tell vX3_tell lkX3_42 (by decide +kernel) (by decide) rfl rfl (by decide) rfl rfl (Nat.le_of_ble_eq_true rfl) rfl rfl (Nat.le_of_ble_eq_true rfl) (h.monoI (fun z5 σ4 h => ?_))
      refine r_if_ne (off := 12) (tgt := 54) (by decide +kernel) (by decide) (fun c => ?_) (fun c => ?_)
      · replace h := h.1 c
        refine r_blk [qO (.iinc 3 1), qO (.goto (-31))] (pc' := 26) (L' := [zR 14 0, zR 1 u, zI l2, zI (l3 + 1)]) (S' := []) (σ' := σ4) (Ps := [-2147483648 ≤ l3 + 1 ∧ l3 + 1 ≤ 2147483647]) (by decide +kernel) rfl ⟨h.1, trivial⟩ ?_
        replace h := h.2
        exact Runs.fg (fgE (fgE (fgE (fgE fg0)))) h
      · replace h := h.2 c
        refine r_blk [qO (.sipush (-2000)), qO (.aload_n 0), qF (.getfield 45) 3 4, qO .isub] (pc' := 53) (L' := [zR 14 0, zR 1 u, zI l2, zI l3]) (S' := [zI ((-2000) - (σ4 14 0 4))]) (σ' := σ4) (Ps := [-2147483648 ≤ (-2000) - (σ4 14 0 4) ∧ (-2000) - (σ4 14 0 4) ≤ 2147483647]) (by decide +kernel) rfl ⟨h.1, trivial⟩ ?_
        replace h := h.2
        exact r_ret (by decide +kernel) rfl (fun _ => h)
theorem gX3_statementsWritten_0 (σ : Hp) {Q : Option Int → Hp → Prop} (h : Runs 4 mX3_statementsWritten 7 [zR 14 0, zI 0] [] (zup σ 14 0 2 0) Q) : Runs 4 mX3_statementsWritten 0 [zR 14 0, zU] [] σ Q := by
  refine r_blk [qO (.aload_n 0), qO (.iconst 0), qF (.putfield 34) 3 2, qO (.iconst 0), qO (.istore_n 1)] (pc' := 7) (L' := [zR 14 0, zI 0]) (S' := []) (σ' := (zup σ 14 0 2 0)) (Ps := []) (by decide +kernel) rfl trivial ?_
  exact Runs.fg (fgE (fgE fg0)) h
theorem gX3_statementsWritten_7 (l1 : Int) (σ : Hp) {Q : Option Int → Hp → Prop} (h : ((64 < l1 → (-2147483648 ≤ (-1000) - (σ 14 0 2) ∧ (-1000) - (σ 14 0 2) ≤ 2147483647) ∧ Q (some ((-1000) - (σ 14 0 2))) σ) ∧ (¬ 64 < l1 → ((l1 ≤ 0 → Runs 3 mX3_readStatement 0 [zR 14 0] [] σ (rI (fun z2 σ1 => ((¬ z2 = 0 → (-2147483648 ≤ l1 + 1 ∧ l1 + 1 ≤ 2147483647) ∧ Runs 4 mX3_statementsWritten 7 [zR 14 0, zI (l1 + 1)] [] σ1 Q) ∧ (z2 = 0 → (-2147483648 ≤ (-1000) - (σ1 14 0 2) ∧ (-1000) - (σ1 14 0 2) ≤ 2147483647) ∧ Q (some ((-1000) - (σ1 14 0 2))) σ1))))) ∧ (¬ l1 ≤ 0 → ((σ 14 0 2 < σ 12 0 1 → Runs 3 mX3_readStatement 0 [zR 14 0] [] σ (rI (fun z4 σ3 => ((¬ z4 = 0 → (-2147483648 ≤ l1 + 1 ∧ l1 + 1 ≤ 2147483647) ∧ Runs 4 mX3_statementsWritten 7 [zR 14 0, zI (l1 + 1)] [] σ3 Q) ∧ (z4 = 0 → (-2147483648 ≤ (-1000) - (σ3 14 0 2) ∧ (-1000) - (σ3 14 0 2) ≤ 2147483647) ∧ Q (some ((-1000) - (σ3 14 0 2))) σ3))))) ∧ (¬ σ 14 0 2 < σ 12 0 1 → Q (some l1) σ))))))) : Runs 4 mX3_statementsWritten 7 [zR 14 0, zI l1] [] σ Q := by
  refine r_blk [qO (.iload_n 1), qO (.bipush 64)] (pc' := 10) (L' := [zR 14 0, zI l1]) (S' := [zI 64, zI l1]) (σ' := σ) (Ps := []) (by decide +kernel) rfl trivial ?_
  refine r_icmp_gt (off := 39) (tgt := 49) (by decide +kernel) (by decide) (fun c => ?_) (fun c => ?_)
  · replace h := h.1 c
    refine r_blk [qO (.sipush (-1000)), qO (.aload_n 0), qF (.getfield 34) 3 2, qO .isub] (pc' := 57) (L' := [zR 14 0, zI l1]) (S' := [zI ((-1000) - (σ 14 0 2))]) (σ' := σ) (Ps := [-2147483648 ≤ (-1000) - (σ 14 0 2) ∧ (-1000) - (σ 14 0 2) ≤ 2147483647]) (by decide +kernel) rfl ⟨h.1, trivial⟩ ?_
    replace h := h.2
    exact r_ret (by decide +kernel) rfl (fun _ => h)
  · replace h := h.2 c
    refine r_blk [qO (.iload_n 1)] (pc' := 14) (L' := [zR 14 0, zI l1]) (S' := [zI l1]) (σ' := σ) (Ps := []) (by decide +kernel) rfl trivial ?_
    refine r_if_le (off := 19) (tgt := 33) (by decide +kernel) (by decide) (fun c => ?_) (fun c => ?_)
    · replace h := h.1 c
      refine r_blk [qO (.aload_n 0)] (pc' := 34) (L' := [zR 14 0, zI l1]) (S' := [zR 14 0]) (σ' := σ) (Ps := []) (by decide +kernel) rfl trivial ?_
      refine r_callVI (As := []) (S := []) (Lc := [zR 14 0]) (d' := 3) (n := 0) (g := 14) (x := 0) (ci := 3) kX3_readStatement vX3_readStatement lkX3_38 (by decide +kernel) (by decide) rfl rfl (by decide) rfl rfl (Nat.le_of_ble_eq_true rfl) rfl rfl (Nat.le_of_ble_eq_true rfl) (h.monoI (fun z2 σ1 h => ?_))
      refine r_if_ne (off := 6) (tgt := 43) (by decide +kernel) (by decide) (fun c => ?_) (fun c => ?_)
      · replace h := h.1 c
        refine r_blk [qO (.iinc 1 1), qO (.goto (-39))] (pc' := 7) (L' := [zR 14 0, zI (l1 + 1)]) (S' := []) (σ' := σ1) (Ps := [-2147483648 ≤ l1 + 1 ∧ l1 + 1 ≤ 2147483647]) (by decide +kernel) rfl ⟨h.1, trivial⟩ ?_
        replace h := h.2
        exact Runs.fg (fgE (fgE fg0)) h
      · replace h := h.2 c
        refine r_blk [qO (.goto 9), qO (.sipush (-1000)), qO (.aload_n 0), qF (.getfield 34) 3 2, qO .isub] (pc' := 57) (L' := [zR 14 0, zI l1]) (S' := [zI ((-1000) - (σ1 14 0 2))]) (σ' := σ1) (Ps := [-2147483648 ≤ (-1000) - (σ1 14 0 2) ∧ (-1000) - (σ1 14 0 2) ≤ 2147483647]) (by decide +kernel) rfl ⟨h.1, trivial⟩ ?_
        replace h := h.2
        exact r_ret (by decide +kernel) rfl (fun _ => h)
    · replace h := h.2 c
      refine r_blk [qO (.aload_n 0), qF (.getfield 34) 3 2, qO (.aload_n 0), qF (.getfield 22) 3 0, qF (.getfield 48) 5 1] (pc' := 28) (L' := [zR 14 0, zI l1]) (S' := [zI (σ 12 0 1), zI (σ 14 0 2)]) (σ' := σ) (Ps := []) (by decide +kernel) rfl trivial ?_
      refine r_icmp_lt (off := 5) (tgt := 33) (by decide +kernel) (by decide) (fun c => ?_) (fun c => ?_)
      · replace h := h.1 c
        refine r_blk [qO (.aload_n 0)] (pc' := 34) (L' := [zR 14 0, zI l1]) (S' := [zR 14 0]) (σ' := σ) (Ps := []) (by decide +kernel) rfl trivial ?_
        refine r_callVI (As := []) (S := []) (Lc := [zR 14 0]) (d' := 3) (n := 0) (g := 14) (x := 0) (ci := 3) kX3_readStatement vX3_readStatement lkX3_38 (by decide +kernel) (by decide) rfl rfl (by decide) rfl rfl (Nat.le_of_ble_eq_true rfl) rfl rfl (Nat.le_of_ble_eq_true rfl) (h.monoI (fun z4 σ3 h => ?_))
        refine r_if_ne (off := 6) (tgt := 43) (by decide +kernel) (by decide) (fun c => ?_) (fun c => ?_)
        · replace h := h.1 c
          refine r_blk [qO (.iinc 1 1), qO (.goto (-39))] (pc' := 7) (L' := [zR 14 0, zI (l1 + 1)]) (S' := []) (σ' := σ3) (Ps := [-2147483648 ≤ l1 + 1 ∧ l1 + 1 ≤ 2147483647]) (by decide +kernel) rfl ⟨h.1, trivial⟩ ?_
          replace h := h.2
          exact Runs.fg (fgE (fgE fg0)) h
        · replace h := h.2 c
          refine r_blk [qO (.goto 9), qO (.sipush (-1000)), qO (.aload_n 0), qF (.getfield 34) 3 2, qO .isub] (pc' := 57) (L' := [zR 14 0, zI l1]) (S' := [zI ((-1000) - (σ3 14 0 2))]) (σ' := σ3) (Ps := [-2147483648 ≤ (-1000) - (σ3 14 0 2) ∧ (-1000) - (σ3 14 0 2) ≤ 2147483647]) (by decide +kernel) rfl ⟨h.1, trivial⟩ ?_
          replace h := h.2
          exact r_ret (by decide +kernel) rfl (fun _ => h)
      · replace h := h.2 c
        refine r_blk [qO (.iload_n 1)] (pc' := 32) (L' := [zR 14 0, zI l1]) (S' := [zI l1]) (σ' := σ) (Ps := []) (by decide +kernel) rfl trivial ?_
        exact r_ret (by decide +kernel) rfl (fun _ => h)
theorem gX3_readStatement_0 (σ : Hp) {Q : Option Int → Hp → Prop} (h : Runs 0 mX5_byteAt 0 [zR 12 0, zI (σ 14 0 2)] [] (zup σ 14 0 4 (σ 14 0 2)) (rI (fun z2 σ1 => ((z2 = 101 → (-2147483648 ≤ (σ1 14 0 2) + 1 ∧ (σ1 14 0 2) + 1 ≤ 2147483647) ∧ Runs 1 mX3_number 0 [zR 14 0, zI 0, zI 1, zU, zU] [] (zup (zup σ1 14 0 3 z2) 14 0 2 ((σ1 14 0 2) + 1)) (rI (fun z4 σ3 => ((z4 = 0 → Q (some 0) σ3) ∧ (¬ z4 = 0 → Runs 1 mX3_number 0 [zR 14 0, zI 1, zI 1, zU, zU] [] σ3 (rI (fun z6 σ5 => ((z6 = 0 → Q (some 0) σ5) ∧ (¬ z6 = 0 → Runs 1 mX3_sign 0 [zR 14 0, zI 64] [] σ5 (rI (fun z8 σ7 => ((z8 = 0 → Q (some 0) σ7) ∧ (¬ z8 = 0 → Runs 1 mX3_number 0 [zR 14 0, zI 2, zI 4, zU, zU] [] σ7 (rI (fun z10 σ9 => ((z10 = 0 → Q (some 0) σ9) ∧ (¬ z10 = 0 → Runs 1 mX3_sign 0 [zR 14 0, zI 44] [] σ9 (rI (fun z12 σ11 => ((z12 = 0 → Q (some 0) σ11) ∧ (¬ z12 = 0 → Runs 1 mX3_number 0 [zR 14 0, zI 3, zI 1, zU, zU] [] σ11 (rI (fun z14 σ13 => ((z14 = 0 → Q (some 0) σ13) ∧ (¬ z14 = 0 → Runs 1 mX3_sign 0 [zR 14 0, zI 59] [] σ13 (rI (fun z16 σ15 => ((z16 = 0 → Q (some 0) σ15) ∧ (¬ z16 = 0 → Q (some 1) σ15))))))))))))))))))))))))))))) ∧ (z2 = 107 → (-2147483648 ≤ (σ1 14 0 2) + 1 ∧ (σ1 14 0 2) + 1 ≤ 2147483647) ∧ Runs 1 mX3_number 0 [zR 14 0, zI 0, zI 2, zU, zU] [] (zup (zup σ1 14 0 3 z2) 14 0 2 ((σ1 14 0 2) + 1)) (rI (fun z18 σ17 => ((z18 = 0 → Q (some 0) σ17) ∧ (¬ z18 = 0 → Runs 1 mX3_sign 0 [zR 14 0, zI 59] [] σ17 (rI (fun z20 σ19 => ((z20 = 0 → Q (some 0) σ19) ∧ (¬ z20 = 0 → Q (some 1) σ19))))))))) ∧ (z2 = 109 → (-2147483648 ≤ (σ1 14 0 2) + 1 ∧ (σ1 14 0 2) + 1 ≤ 2147483647) ∧ Runs 1 mX3_number 0 [zR 14 0, zI 0, zI 2, zU, zU] [] (zup (zup σ1 14 0 3 z2) 14 0 2 ((σ1 14 0 2) + 1)) (rI (fun z22 σ21 => ((z22 = 0 → Q (some 0) σ21) ∧ (¬ z22 = 0 → Runs 1 mX3_sign 0 [zR 14 0, zI 44] [] σ21 (rI (fun z24 σ23 => ((z24 = 0 → Q (some 0) σ23) ∧ (¬ z24 = 0 → Runs 1 mX3_number 0 [zR 14 0, zI 1, zI 1, zU, zU] [] σ23 (rI (fun z26 σ25 => ((z26 = 0 → Q (some 0) σ25) ∧ (¬ z26 = 0 → Runs 1 mX3_sign 0 [zR 14 0, zI 59] [] σ25 (rI (fun z28 σ27 => ((z28 = 0 → Q (some 0) σ27) ∧ (¬ z28 = 0 → Q (some 1) σ27))))))))))))))))) ∧ (z2 = 115 → (-2147483648 ≤ (σ1 14 0 2) + 1 ∧ (σ1 14 0 2) + 1 ≤ 2147483647) ∧ Runs 1 mX3_number 0 [zR 14 0, zI 0, zI 1, zU, zU] [] (zup (zup σ1 14 0 3 z2) 14 0 2 ((σ1 14 0 2) + 1)) (rI (fun z30 σ29 => ((z30 = 0 → Q (some 0) σ29) ∧ (¬ z30 = 0 → Runs 1 mX3_number 0 [zR 14 0, zI 1, zI 1, zU, zU] [] σ29 (rI (fun z32 σ31 => ((z32 = 0 → Q (some 0) σ31) ∧ (¬ z32 = 0 → Runs 1 mX3_sign 0 [zR 14 0, zI 44] [] σ31 (rI (fun z34 σ33 => ((z34 = 0 → Q (some 0) σ33) ∧ (¬ z34 = 0 → Runs 1 mX3_number 0 [zR 14 0, zI 2, zI 2, zU, zU] [] σ33 (rI (fun z36 σ35 => ((z36 = 0 → Q (some 0) σ35) ∧ (¬ z36 = 0 → Runs 2 mX3_broadOrNot 0 [zR 14 0] [] σ35 (rI (fun z38 σ37 => ((z38 = 0 → Q (some 0) σ37) ∧ (¬ z38 = 0 → Runs 1 mX3_sign 0 [zR 14 0, zI 59] [] σ37 (rI (fun z40 σ39 => ((z40 = 0 → Q (some 0) σ39) ∧ (¬ z40 = 0 → Q (some 1) σ39))))))))))))))))))))))))) ∧ (¬ z2 = 101 ∧ ¬ z2 = 107 ∧ ¬ z2 = 109 ∧ ¬ z2 = 115 → Q (some 0) (zup σ1 14 0 3 z2)))))) : Runs 3 mX3_readStatement 0 [zR 14 0] [] σ Q := by
  refine r_blk [qO (.aload_n 0), qO (.aload_n 0), qF (.getfield 34) 3 2, qF (.putfield 45) 3 4, qO (.aload_n 0), qO (.aload_n 0), qF (.getfield 22) 3 0, qO (.aload_n 0), qF (.getfield 34) 3 2] (pc' := 17) (L' := [zR 14 0]) (S' := [zI (σ 14 0 2), zR 12 0, zR 14 0]) (σ' := (zup σ 14 0 4 (σ 14 0 2))) (Ps := []) (by decide +kernel) rfl trivial ?_
  refine r_callVI (As := [zI (σ 14 0 2)]) (S := [zR 14 0]) (Lc := [zR 12 0, zI (σ 14 0 2)]) (d' := 0) (n := 1) (g := 12) (x := 0) (ci := 5) kX5_byteAt vX5_byteAt lkX3_53 (by decide +kernel) (by decide) rfl rfl (by decide) rfl rfl (Nat.le_of_ble_eq_true rfl) rfl rfl (Nat.le_of_ble_eq_true rfl) (h.monoI (fun z2 σ1 h => ?_))
  refine r_blk [qF (.putfield 57) 3 3, qO (.aload_n 0), qF (.getfield 57) 3 3] (pc' := 27) (L' := [zR 14 0]) (S' := [zI z2]) (σ' := (zup σ1 14 0 3 z2)) (Ps := []) (by decide +kernel) rfl trivial ?_
  by_cases c101 : z2 = 101
  · replace h := h.1 c101
    refine r_lookup (dflt := 274) (ps := #[(101, 143), (107, 41), (109, 222), (115, 75)]) (len := 41) (off := 143) (tgt := 170) (by decide +kernel) (by decide +kernel) (by rw [c101]; decide) (by decide) ?_
    refine r_blk [qO (.aload_n 0), qO .dup, qF (.getfield 34) 3 2, qO (.iconst 1), qO .iadd, qF (.putfield 34) 3 2, qO (.aload_n 0), qO (.iconst 0), qO (.iconst 1)] (pc' := 183) (L' := [zR 14 0]) (S' := [zI 1, zI 0, zR 14 0]) (σ' := (zup (zup σ1 14 0 3 z2) 14 0 2 ((σ1 14 0 2) + 1))) (Ps := [-2147483648 ≤ (σ1 14 0 2) + 1 ∧ (σ1 14 0 2) + 1 ≤ 2147483647]) (by decide +kernel) rfl ⟨h.1, trivial⟩ ?_
    replace h := h.2
    refine r_callVI (As := [zI 0, zI 1]) (S := []) (Lc := [zR 14 0, zI 0, zI 1, zU, zU]) (d' := 1) (n := 2) (g := 14) (x := 0) (ci := 3) kX3_number vX3_number lkX3_60 (by decide +kernel) (by decide) rfl rfl (by decide) rfl rfl (Nat.le_of_ble_eq_true rfl) rfl rfl (Nat.le_of_ble_eq_true rfl) (h.monoI (fun z4 σ3 h => ?_))
    refine r_if_eq (off := 61) (tgt := 247) (by decide +kernel) (by decide) (fun c => ?_) (fun c => ?_)
    · replace h := h.1 c
      refine r_blk [qO (.iconst 0)] (pc' := 248) (L' := [zR 14 0]) (S' := [zI 0]) (σ' := σ3) (Ps := []) (by decide +kernel) rfl trivial ?_
      exact r_retz (by decide +kernel) rfl (by decide) h
    · replace h := h.2 c
      refine r_blk [qO (.aload_n 0), qO (.iconst 1), qO (.iconst 1)] (pc' := 192) (L' := [zR 14 0]) (S' := [zI 1, zI 1, zR 14 0]) (σ' := σ3) (Ps := []) (by decide +kernel) rfl trivial ?_
      refine r_callVI (As := [zI 1, zI 1]) (S := []) (Lc := [zR 14 0, zI 1, zI 1, zU, zU]) (d' := 1) (n := 2) (g := 14) (x := 0) (ci := 3) kX3_number vX3_number lkX3_60 (by decide +kernel) (by decide) rfl rfl (by decide) rfl rfl (Nat.le_of_ble_eq_true rfl) rfl rfl (Nat.le_of_ble_eq_true rfl) (h.monoI (fun z6 σ5 h => ?_))
      refine r_if_eq (off := 52) (tgt := 247) (by decide +kernel) (by decide) (fun c => ?_) (fun c => ?_)
      · replace h := h.1 c
        refine r_blk [qO (.iconst 0)] (pc' := 248) (L' := [zR 14 0]) (S' := [zI 0]) (σ' := σ5) (Ps := []) (by decide +kernel) rfl trivial ?_
        exact r_retz (by decide +kernel) rfl (by decide) h
      · replace h := h.2 c
        refine r_blk [qO (.aload_n 0), qO (.bipush 64)] (pc' := 201) (L' := [zR 14 0]) (S' := [zI 64, zR 14 0]) (σ' := σ5) (Ps := []) (by decide +kernel) rfl trivial ?_
        refine r_callVI (As := [zI 64]) (S := []) (Lc := [zR 14 0, zI 64]) (d' := 1) (n := 1) (g := 14) (x := 0) (ci := 3) kX3_sign vX3_sign lkX3_64 (by decide +kernel) (by decide) rfl rfl (by decide) rfl rfl (Nat.le_of_ble_eq_true rfl) rfl rfl (Nat.le_of_ble_eq_true rfl) (h.monoI (fun z8 σ7 h => ?_))
        refine r_if_eq (off := 43) (tgt := 247) (by decide +kernel) (by decide) (fun c => ?_) (fun c => ?_)
        · replace h := h.1 c
          refine r_blk [qO (.iconst 0)] (pc' := 248) (L' := [zR 14 0]) (S' := [zI 0]) (σ' := σ7) (Ps := []) (by decide +kernel) rfl trivial ?_
          exact r_retz (by decide +kernel) rfl (by decide) h
        · replace h := h.2 c
          refine r_blk [qO (.aload_n 0), qO (.iconst 2), qO (.iconst 4)] (pc' := 210) (L' := [zR 14 0]) (S' := [zI 4, zI 2, zR 14 0]) (σ' := σ7) (Ps := []) (by decide +kernel) rfl trivial ?_
          refine r_callVI (As := [zI 2, zI 4]) (S := []) (Lc := [zR 14 0, zI 2, zI 4, zU, zU]) (d' := 1) (n := 2) (g := 14) (x := 0) (ci := 3) kX3_number vX3_number lkX3_60 (by decide +kernel) (by decide) rfl rfl (by decide) rfl rfl (Nat.le_of_ble_eq_true rfl) rfl rfl (Nat.le_of_ble_eq_true rfl) (h.monoI (fun z10 σ9 h => ?_))
          refine r_if_eq (off := 34) (tgt := 247) (by decide +kernel) (by decide) (fun c => ?_) (fun c => ?_)
          · replace h := h.1 c
            refine r_blk [qO (.iconst 0)] (pc' := 248) (L' := [zR 14 0]) (S' := [zI 0]) (σ' := σ9) (Ps := []) (by decide +kernel) rfl trivial ?_
            exact r_retz (by decide +kernel) rfl (by decide) h
          · replace h := h.2 c
            refine r_blk [qO (.aload_n 0), qO (.bipush 44)] (pc' := 219) (L' := [zR 14 0]) (S' := [zI 44, zR 14 0]) (σ' := σ9) (Ps := []) (by decide +kernel) rfl trivial ?_
            refine r_callVI (As := [zI 44]) (S := []) (Lc := [zR 14 0, zI 44]) (d' := 1) (n := 1) (g := 14) (x := 0) (ci := 3) kX3_sign vX3_sign lkX3_64 (by decide +kernel) (by decide) rfl rfl (by decide) rfl rfl (Nat.le_of_ble_eq_true rfl) rfl rfl (Nat.le_of_ble_eq_true rfl) (h.monoI (fun z12 σ11 h => ?_))
            refine r_if_eq (off := 25) (tgt := 247) (by decide +kernel) (by decide) (fun c => ?_) (fun c => ?_)
            · replace h := h.1 c
              refine r_blk [qO (.iconst 0)] (pc' := 248) (L' := [zR 14 0]) (S' := [zI 0]) (σ' := σ11) (Ps := []) (by decide +kernel) rfl trivial ?_
              exact r_retz (by decide +kernel) rfl (by decide) h
            · replace h := h.2 c
              refine r_blk [qO (.aload_n 0), qO (.iconst 3), qO (.iconst 1)] (pc' := 228) (L' := [zR 14 0]) (S' := [zI 1, zI 3, zR 14 0]) (σ' := σ11) (Ps := []) (by decide +kernel) rfl trivial ?_
              refine r_callVI (As := [zI 3, zI 1]) (S := []) (Lc := [zR 14 0, zI 3, zI 1, zU, zU]) (d' := 1) (n := 2) (g := 14) (x := 0) (ci := 3) kX3_number vX3_number lkX3_60 (by decide +kernel) (by decide) rfl rfl (by decide) rfl rfl (Nat.le_of_ble_eq_true rfl) rfl rfl (Nat.le_of_ble_eq_true rfl) (h.monoI (fun z14 σ13 h => ?_))
              refine r_if_eq (off := 16) (tgt := 247) (by decide +kernel) (by decide) (fun c => ?_) (fun c => ?_)
              · replace h := h.1 c
                refine r_blk [qO (.iconst 0)] (pc' := 248) (L' := [zR 14 0]) (S' := [zI 0]) (σ' := σ13) (Ps := []) (by decide +kernel) rfl trivial ?_
                exact r_retz (by decide +kernel) rfl (by decide) h
              · replace h := h.2 c
                refine r_blk [qO (.aload_n 0), qO (.bipush 59)] (pc' := 237) (L' := [zR 14 0]) (S' := [zI 59, zR 14 0]) (σ' := σ13) (Ps := []) (by decide +kernel) rfl trivial ?_
                refine r_callVI (As := [zI 59]) (S := []) (Lc := [zR 14 0, zI 59]) (d' := 1) (n := 1) (g := 14) (x := 0) (ci := 3) kX3_sign vX3_sign lkX3_64 (by decide +kernel) (by decide) rfl rfl (by decide) rfl rfl (Nat.le_of_ble_eq_true rfl) rfl rfl (Nat.le_of_ble_eq_true rfl) (h.monoI (fun z16 σ15 h => ?_))
                refine r_if_eq (off := 7) (tgt := 247) (by decide +kernel) (by decide) (fun c => ?_) (fun c => ?_)
                · replace h := h.1 c
                  refine r_blk [qO (.iconst 0)] (pc' := 248) (L' := [zR 14 0]) (S' := [zI 0]) (σ' := σ15) (Ps := []) (by decide +kernel) rfl trivial ?_
                  exact r_retz (by decide +kernel) rfl (by decide) h
                · replace h := h.2 c
                  refine r_blk [qO (.iconst 1), qO (.goto 4)] (pc' := 248) (L' := [zR 14 0]) (S' := [zI 1]) (σ' := σ15) (Ps := []) (by decide +kernel) rfl trivial ?_
                  exact r_retz (by decide +kernel) rfl (by decide) h
  replace h := h.2
  by_cases c107 : z2 = 107
  · replace h := h.1 c107
    refine r_lookup (dflt := 274) (ps := #[(101, 143), (107, 41), (109, 222), (115, 75)]) (len := 41) (off := 41) (tgt := 68) (by decide +kernel) (by decide +kernel) (by rw [c107]; decide) (by decide) ?_
    refine r_blk [qO (.aload_n 0), qO .dup, qF (.getfield 34) 3 2, qO (.iconst 1), qO .iadd, qF (.putfield 34) 3 2, qO (.aload_n 0), qO (.iconst 0), qO (.iconst 2)] (pc' := 81) (L' := [zR 14 0]) (S' := [zI 2, zI 0, zR 14 0]) (σ' := (zup (zup σ1 14 0 3 z2) 14 0 2 ((σ1 14 0 2) + 1))) (Ps := [-2147483648 ≤ (σ1 14 0 2) + 1 ∧ (σ1 14 0 2) + 1 ≤ 2147483647]) (by decide +kernel) rfl ⟨h.1, trivial⟩ ?_
    replace h := h.2
    refine r_callVI (As := [zI 0, zI 2]) (S := []) (Lc := [zR 14 0, zI 0, zI 2, zU, zU]) (d' := 1) (n := 2) (g := 14) (x := 0) (ci := 3) kX3_number vX3_number lkX3_60 (by decide +kernel) (by decide) rfl rfl (by decide) rfl rfl (Nat.le_of_ble_eq_true rfl) rfl rfl (Nat.le_of_ble_eq_true rfl) (h.monoI (fun z18 σ17 h => ?_))
    refine r_if_eq (off := 16) (tgt := 100) (by decide +kernel) (by decide) (fun c => ?_) (fun c => ?_)
    · replace h := h.1 c
      refine r_blk [qO (.iconst 0)] (pc' := 101) (L' := [zR 14 0]) (S' := [zI 0]) (σ' := σ17) (Ps := []) (by decide +kernel) rfl trivial ?_
      exact r_retz (by decide +kernel) rfl (by decide) h
    · replace h := h.2 c
      refine r_blk [qO (.aload_n 0), qO (.bipush 59)] (pc' := 90) (L' := [zR 14 0]) (S' := [zI 59, zR 14 0]) (σ' := σ17) (Ps := []) (by decide +kernel) rfl trivial ?_
      refine r_callVI (As := [zI 59]) (S := []) (Lc := [zR 14 0, zI 59]) (d' := 1) (n := 1) (g := 14) (x := 0) (ci := 3) kX3_sign vX3_sign lkX3_64 (by decide +kernel) (by decide) rfl rfl (by decide) rfl rfl (Nat.le_of_ble_eq_true rfl) rfl rfl (Nat.le_of_ble_eq_true rfl) (h.monoI (fun z20 σ19 h => ?_))
      refine r_if_eq (off := 7) (tgt := 100) (by decide +kernel) (by decide) (fun c => ?_) (fun c => ?_)
      · replace h := h.1 c
        refine r_blk [qO (.iconst 0)] (pc' := 101) (L' := [zR 14 0]) (S' := [zI 0]) (σ' := σ19) (Ps := []) (by decide +kernel) rfl trivial ?_
        exact r_retz (by decide +kernel) rfl (by decide) h
      · replace h := h.2 c
        refine r_blk [qO (.iconst 1), qO (.goto 4)] (pc' := 101) (L' := [zR 14 0]) (S' := [zI 1]) (σ' := σ19) (Ps := []) (by decide +kernel) rfl trivial ?_
        exact r_retz (by decide +kernel) rfl (by decide) h
  replace h := h.2
  by_cases c109 : z2 = 109
  · replace h := h.1 c109
    refine r_lookup (dflt := 274) (ps := #[(101, 143), (107, 41), (109, 222), (115, 75)]) (len := 41) (off := 222) (tgt := 249) (by decide +kernel) (by decide +kernel) (by rw [c109]; decide) (by decide) ?_
    refine r_blk [qO (.aload_n 0), qO .dup, qF (.getfield 34) 3 2, qO (.iconst 1), qO .iadd, qF (.putfield 34) 3 2, qO (.aload_n 0), qO (.iconst 0), qO (.iconst 2)] (pc' := 262) (L' := [zR 14 0]) (S' := [zI 2, zI 0, zR 14 0]) (σ' := (zup (zup σ1 14 0 3 z2) 14 0 2 ((σ1 14 0 2) + 1))) (Ps := [-2147483648 ≤ (σ1 14 0 2) + 1 ∧ (σ1 14 0 2) + 1 ≤ 2147483647]) (by decide +kernel) rfl ⟨h.1, trivial⟩ ?_
    replace h := h.2
    refine r_callVI (As := [zI 0, zI 2]) (S := []) (Lc := [zR 14 0, zI 0, zI 2, zU, zU]) (d' := 1) (n := 2) (g := 14) (x := 0) (ci := 3) kX3_number vX3_number lkX3_60 (by decide +kernel) (by decide) rfl rfl (by decide) rfl rfl (Nat.le_of_ble_eq_true rfl) rfl rfl (Nat.le_of_ble_eq_true rfl) (h.monoI (fun z22 σ21 h => ?_))
    refine r_if_eq (off := 34) (tgt := 299) (by decide +kernel) (by decide) (fun c => ?_) (fun c => ?_)
    · replace h := h.1 c
      refine r_blk [qO (.iconst 0)] (pc' := 300) (L' := [zR 14 0]) (S' := [zI 0]) (σ' := σ21) (Ps := []) (by decide +kernel) rfl trivial ?_
      exact r_retz (by decide +kernel) rfl (by decide) h
    · replace h := h.2 c
      refine r_blk [qO (.aload_n 0), qO (.bipush 44)] (pc' := 271) (L' := [zR 14 0]) (S' := [zI 44, zR 14 0]) (σ' := σ21) (Ps := []) (by decide +kernel) rfl trivial ?_
      refine r_callVI (As := [zI 44]) (S := []) (Lc := [zR 14 0, zI 44]) (d' := 1) (n := 1) (g := 14) (x := 0) (ci := 3) kX3_sign vX3_sign lkX3_64 (by decide +kernel) (by decide) rfl rfl (by decide) rfl rfl (Nat.le_of_ble_eq_true rfl) rfl rfl (Nat.le_of_ble_eq_true rfl) (h.monoI (fun z24 σ23 h => ?_))
      refine r_if_eq (off := 25) (tgt := 299) (by decide +kernel) (by decide) (fun c => ?_) (fun c => ?_)
      · replace h := h.1 c
        refine r_blk [qO (.iconst 0)] (pc' := 300) (L' := [zR 14 0]) (S' := [zI 0]) (σ' := σ23) (Ps := []) (by decide +kernel) rfl trivial ?_
        exact r_retz (by decide +kernel) rfl (by decide) h
      · replace h := h.2 c
        refine r_blk [qO (.aload_n 0), qO (.iconst 1), qO (.iconst 1)] (pc' := 280) (L' := [zR 14 0]) (S' := [zI 1, zI 1, zR 14 0]) (σ' := σ23) (Ps := []) (by decide +kernel) rfl trivial ?_
        refine r_callVI (As := [zI 1, zI 1]) (S := []) (Lc := [zR 14 0, zI 1, zI 1, zU, zU]) (d' := 1) (n := 2) (g := 14) (x := 0) (ci := 3) kX3_number vX3_number lkX3_60 (by decide +kernel) (by decide) rfl rfl (by decide) rfl rfl (Nat.le_of_ble_eq_true rfl) rfl rfl (Nat.le_of_ble_eq_true rfl) (h.monoI (fun z26 σ25 h => ?_))
        refine r_if_eq (off := 16) (tgt := 299) (by decide +kernel) (by decide) (fun c => ?_) (fun c => ?_)
        · replace h := h.1 c
          refine r_blk [qO (.iconst 0)] (pc' := 300) (L' := [zR 14 0]) (S' := [zI 0]) (σ' := σ25) (Ps := []) (by decide +kernel) rfl trivial ?_
          exact r_retz (by decide +kernel) rfl (by decide) h
        · replace h := h.2 c
          refine r_blk [qO (.aload_n 0), qO (.bipush 59)] (pc' := 289) (L' := [zR 14 0]) (S' := [zI 59, zR 14 0]) (σ' := σ25) (Ps := []) (by decide +kernel) rfl trivial ?_
          refine r_callVI (As := [zI 59]) (S := []) (Lc := [zR 14 0, zI 59]) (d' := 1) (n := 1) (g := 14) (x := 0) (ci := 3) kX3_sign vX3_sign lkX3_64 (by decide +kernel) (by decide) rfl rfl (by decide) rfl rfl (Nat.le_of_ble_eq_true rfl) rfl rfl (Nat.le_of_ble_eq_true rfl) (h.monoI (fun z28 σ27 h => ?_))
          refine r_if_eq (off := 7) (tgt := 299) (by decide +kernel) (by decide) (fun c => ?_) (fun c => ?_)
          · replace h := h.1 c
            refine r_blk [qO (.iconst 0)] (pc' := 300) (L' := [zR 14 0]) (S' := [zI 0]) (σ' := σ27) (Ps := []) (by decide +kernel) rfl trivial ?_
            exact r_retz (by decide +kernel) rfl (by decide) h
          · replace h := h.2 c
            refine r_blk [qO (.iconst 1), qO (.goto 4)] (pc' := 300) (L' := [zR 14 0]) (S' := [zI 1]) (σ' := σ27) (Ps := []) (by decide +kernel) rfl trivial ?_
            exact r_retz (by decide +kernel) rfl (by decide) h
  replace h := h.2
  by_cases c115 : z2 = 115
  · replace h := h.1 c115
    refine r_lookup (dflt := 274) (ps := #[(101, 143), (107, 41), (109, 222), (115, 75)]) (len := 41) (off := 75) (tgt := 102) (by decide +kernel) (by decide +kernel) (by rw [c115]; decide) (by decide) ?_
    refine r_blk [qO (.aload_n 0), qO .dup, qF (.getfield 34) 3 2, qO (.iconst 1), qO .iadd, qF (.putfield 34) 3 2, qO (.aload_n 0), qO (.iconst 0), qO (.iconst 1)] (pc' := 115) (L' := [zR 14 0]) (S' := [zI 1, zI 0, zR 14 0]) (σ' := (zup (zup σ1 14 0 3 z2) 14 0 2 ((σ1 14 0 2) + 1))) (Ps := [-2147483648 ≤ (σ1 14 0 2) + 1 ∧ (σ1 14 0 2) + 1 ≤ 2147483647]) (by decide +kernel) rfl ⟨h.1, trivial⟩ ?_
    replace h := h.2
    refine r_callVI (As := [zI 0, zI 1]) (S := []) (Lc := [zR 14 0, zI 0, zI 1, zU, zU]) (d' := 1) (n := 2) (g := 14) (x := 0) (ci := 3) kX3_number vX3_number lkX3_60 (by decide +kernel) (by decide) rfl rfl (by decide) rfl rfl (Nat.le_of_ble_eq_true rfl) rfl rfl (Nat.le_of_ble_eq_true rfl) (h.monoI (fun z30 σ29 h => ?_))
    refine r_if_eq (off := 50) (tgt := 168) (by decide +kernel) (by decide) (fun c => ?_) (fun c => ?_)
    · replace h := h.1 c
      refine r_blk [qO (.iconst 0)] (pc' := 169) (L' := [zR 14 0]) (S' := [zI 0]) (σ' := σ29) (Ps := []) (by decide +kernel) rfl trivial ?_
      exact r_retz (by decide +kernel) rfl (by decide) h
    · replace h := h.2 c
      refine r_blk [qO (.aload_n 0), qO (.iconst 1), qO (.iconst 1)] (pc' := 124) (L' := [zR 14 0]) (S' := [zI 1, zI 1, zR 14 0]) (σ' := σ29) (Ps := []) (by decide +kernel) rfl trivial ?_
      refine r_callVI (As := [zI 1, zI 1]) (S := []) (Lc := [zR 14 0, zI 1, zI 1, zU, zU]) (d' := 1) (n := 2) (g := 14) (x := 0) (ci := 3) kX3_number vX3_number lkX3_60 (by decide +kernel) (by decide) rfl rfl (by decide) rfl rfl (Nat.le_of_ble_eq_true rfl) rfl rfl (Nat.le_of_ble_eq_true rfl) (h.monoI (fun z32 σ31 h => ?_))
      refine r_if_eq (off := 41) (tgt := 168) (by decide +kernel) (by decide) (fun c => ?_) (fun c => ?_)
      · replace h := h.1 c
        refine r_blk [qO (.iconst 0)] (pc' := 169) (L' := [zR 14 0]) (S' := [zI 0]) (σ' := σ31) (Ps := []) (by decide +kernel) rfl trivial ?_
        exact r_retz (by decide +kernel) rfl (by decide) h
      · replace h := h.2 c
        refine r_blk [qO (.aload_n 0), qO (.bipush 44)] (pc' := 133) (L' := [zR 14 0]) (S' := [zI 44, zR 14 0]) (σ' := σ31) (Ps := []) (by decide +kernel) rfl trivial ?_
        refine r_callVI (As := [zI 44]) (S := []) (Lc := [zR 14 0, zI 44]) (d' := 1) (n := 1) (g := 14) (x := 0) (ci := 3) kX3_sign vX3_sign lkX3_64 (by decide +kernel) (by decide) rfl rfl (by decide) rfl rfl (Nat.le_of_ble_eq_true rfl) rfl rfl (Nat.le_of_ble_eq_true rfl) (h.monoI (fun z34 σ33 h => ?_))
        refine r_if_eq (off := 32) (tgt := 168) (by decide +kernel) (by decide) (fun c => ?_) (fun c => ?_)
        · replace h := h.1 c
          refine r_blk [qO (.iconst 0)] (pc' := 169) (L' := [zR 14 0]) (S' := [zI 0]) (σ' := σ33) (Ps := []) (by decide +kernel) rfl trivial ?_
          exact r_retz (by decide +kernel) rfl (by decide) h
        · replace h := h.2 c
          refine r_blk [qO (.aload_n 0), qO (.iconst 2), qO (.iconst 2)] (pc' := 142) (L' := [zR 14 0]) (S' := [zI 2, zI 2, zR 14 0]) (σ' := σ33) (Ps := []) (by decide +kernel) rfl trivial ?_
          refine r_callVI (As := [zI 2, zI 2]) (S := []) (Lc := [zR 14 0, zI 2, zI 2, zU, zU]) (d' := 1) (n := 2) (g := 14) (x := 0) (ci := 3) kX3_number vX3_number lkX3_60 (by decide +kernel) (by decide) rfl rfl (by decide) rfl rfl (Nat.le_of_ble_eq_true rfl) rfl rfl (Nat.le_of_ble_eq_true rfl) (h.monoI (fun z36 σ35 h => ?_))
          refine r_if_eq (off := 23) (tgt := 168) (by decide +kernel) (by decide) (fun c => ?_) (fun c => ?_)
          · replace h := h.1 c
            refine r_blk [qO (.iconst 0)] (pc' := 169) (L' := [zR 14 0]) (S' := [zI 0]) (σ' := σ35) (Ps := []) (by decide +kernel) rfl trivial ?_
            exact r_retz (by decide +kernel) rfl (by decide) h
          · replace h := h.2 c
            refine r_blk [qO (.aload_n 0)] (pc' := 149) (L' := [zR 14 0]) (S' := [zR 14 0]) (σ' := σ35) (Ps := []) (by decide +kernel) rfl trivial ?_
            refine r_callVI (As := []) (S := []) (Lc := [zR 14 0]) (d' := 2) (n := 0) (g := 14) (x := 0) (ci := 3) kX3_broadOrNot vX3_broadOrNot lkX3_68 (by decide +kernel) (by decide) rfl rfl (by decide) rfl rfl (Nat.le_of_ble_eq_true rfl) rfl rfl (Nat.le_of_ble_eq_true rfl) (h.monoI (fun z38 σ37 h => ?_))
            refine r_if_eq (off := 16) (tgt := 168) (by decide +kernel) (by decide) (fun c => ?_) (fun c => ?_)
            · replace h := h.1 c
              refine r_blk [qO (.iconst 0)] (pc' := 169) (L' := [zR 14 0]) (S' := [zI 0]) (σ' := σ37) (Ps := []) (by decide +kernel) rfl trivial ?_
              exact r_retz (by decide +kernel) rfl (by decide) h
            · replace h := h.2 c
              refine r_blk [qO (.aload_n 0), qO (.bipush 59)] (pc' := 158) (L' := [zR 14 0]) (S' := [zI 59, zR 14 0]) (σ' := σ37) (Ps := []) (by decide +kernel) rfl trivial ?_
              refine r_callVI (As := [zI 59]) (S := []) (Lc := [zR 14 0, zI 59]) (d' := 1) (n := 1) (g := 14) (x := 0) (ci := 3) kX3_sign vX3_sign lkX3_64 (by decide +kernel) (by decide) rfl rfl (by decide) rfl rfl (Nat.le_of_ble_eq_true rfl) rfl rfl (Nat.le_of_ble_eq_true rfl) (h.monoI (fun z40 σ39 h => ?_))
              refine r_if_eq (off := 7) (tgt := 168) (by decide +kernel) (by decide) (fun c => ?_) (fun c => ?_)
              · replace h := h.1 c
                refine r_blk [qO (.iconst 0)] (pc' := 169) (L' := [zR 14 0]) (S' := [zI 0]) (σ' := σ39) (Ps := []) (by decide +kernel) rfl trivial ?_
                exact r_retz (by decide +kernel) rfl (by decide) h
              · replace h := h.2 c
                refine r_blk [qO (.iconst 1), qO (.goto 4)] (pc' := 169) (L' := [zR 14 0]) (S' := [zI 1]) (σ' := σ39) (Ps := []) (by decide +kernel) rfl trivial ?_
                exact r_retz (by decide +kernel) rfl (by decide) h
  replace h := h.2
  replace h := h ⟨c101, c107, c109, c115⟩
  refine r_lookup (dflt := 274) (ps := #[(101, 143), (107, 41), (109, 222), (115, 75)]) (len := 41) (off := 274) (tgt := 301) (by decide +kernel) (by decide +kernel) (by simp [Op.lookupswitch.offset, Ne.symm c101, Ne.symm c107, Ne.symm c109, Ne.symm c115]) (by decide) ?_
  refine r_blk [qO (.iconst 0)] (pc' := 302) (L' := [zR 14 0]) (S' := [zI 0]) (σ' := (zup σ1 14 0 3 z2)) (Ps := []) (by decide +kernel) rfl trivial ?_
  exact r_retz (by decide +kernel) rfl (by decide) h
theorem gX3_number_0 (a0 : Int) (a1 : Int) (σ : Hp) {Q : Option Int → Hp → Prop} (h : Runs 1 mX3_number 5 [zR 14 0, zI a0, zI a1, zI 0, zI 0] [] σ Q) : Runs 1 mX3_number 0 [zR 14 0, zI a0, zI a1, zU, zU] [] σ Q := by
  refine r_blk [qO (.iconst 0), qO (.istore_n 3), qO (.iconst 0), qO (.istore 4)] (pc' := 5) (L' := [zR 14 0, zI a0, zI a1, zI 0, zI 0]) (S' := []) (σ' := σ) (Ps := []) (by decide +kernel) rfl trivial ?_
  exact Runs.fg (fgE (fgE (fgE (fgE (fgE fg0))))) h
theorem gX3_number_5 (l1 : Int) (l2 : Int) (l3 : Int) (l4 : Int) (σ : Hp) {Q : Option Int → Hp → Prop} (h : ((l2 ≤ l4 → (0 ≤ l1 ∧ l1 < 4) ∧ ((l4 ≤ 0 → Q (some 0) (zup σ 15 0 l1.toNat l3)) ∧ (¬ l4 ≤ 0 → Q (some 1) (zup σ 15 0 l1.toNat l3)))) ∧ (¬ l2 ≤ l4 → Runs 0 mX5_byteAt 0 [zR 12 0, zI (σ 14 0 2)] [] σ (rI (fun z2 σ1 => Runs 0 mX3_isDigit 0 [zI z2] [] σ1 (rI (fun z4 σ3 => ((z4 = 0 → (0 ≤ l1 ∧ l1 < 4) ∧ ((l4 ≤ 0 → Q (some 0) (zup σ3 15 0 l1.toNat l3)) ∧ (¬ l4 ≤ 0 → Q (some 1) (zup σ3 15 0 l1.toNat l3)))) ∧ (¬ z4 = 0 → (-2147483648 ≤ 10 * l3 ∧ 10 * l3 ≤ 2147483647) ∧ Runs 0 mX5_byteAt 0 [zR 12 0, zI (σ3 14 0 2)] [] σ3 (rI (fun z6 σ5 => (-2147483648 ≤ (10 * l3) + z6 ∧ (10 * l3) + z6 ≤ 2147483647) ∧ (-2147483648 ≤ ((10 * l3) + z6) - 48 ∧ ((10 * l3) + z6) - 48 ≤ 2147483647) ∧ (-2147483648 ≤ l4 + 1 ∧ l4 + 1 ≤ 2147483647) ∧ (-2147483648 ≤ (σ5 14 0 2) + 1 ∧ (σ5 14 0 2) + 1 ≤ 2147483647) ∧ Runs 1 mX3_number 5 [zR 14 0, zI l1, zI l2, zI (((10 * l3) + z6) - 48), zI (l4 + 1)] [] (zup σ5 14 0 2 ((σ5 14 0 2) + 1)) Q))))))))))) : Runs 1 mX3_number 5 [zR 14 0, zI l1, zI l2, zI l3, zI l4] [] σ Q := by
  refine r_blk [qO (.iload 4), qO (.iload_n 2)] (pc' := 8) (L' := [zR 14 0, zI l1, zI l2, zI l3, zI l4]) (S' := [zI l2, zI l4]) (σ' := σ) (Ps := []) (by decide +kernel) rfl trivial ?_
  refine r_icmp_ge (off := 56) (tgt := 64) (by decide +kernel) (by decide) (fun c => ?_) (fun c => ?_)
  · replace h := h.1 c
    refine r_blk [qO (.aload_n 0), qF (.getfield 18) 3 5, qO (.iload_n 1), qO (.iload_n 3), qO .iastore, qO (.iload 4)] (pc' := 73) (L' := [zR 14 0, zI l1, zI l2, zI l3, zI l4]) (S' := [zI l4]) (σ' := (zup σ 15 0 l1.toNat l3)) (Ps := [0 ≤ l1 ∧ l1 < 4]) (by decide +kernel) rfl ⟨h.1, trivial⟩ ?_
    replace h := h.2
    refine r_if_le (off := 7) (tgt := 80) (by decide +kernel) (by decide) (fun c => ?_) (fun c => ?_)
    · replace h := h.1 c
      refine r_blk [qO (.iconst 0)] (pc' := 81) (L' := [zR 14 0, zI l1, zI l2, zI l3, zI l4]) (S' := [zI 0]) (σ' := (zup σ 15 0 l1.toNat l3)) (Ps := []) (by decide +kernel) rfl trivial ?_
      exact r_retz (by decide +kernel) rfl (by decide) h
    · replace h := h.2 c
      refine r_blk [qO (.iconst 1), qO (.goto 4)] (pc' := 81) (L' := [zR 14 0, zI l1, zI l2, zI l3, zI l4]) (S' := [zI 1]) (σ' := (zup σ 15 0 l1.toNat l3)) (Ps := []) (by decide +kernel) rfl trivial ?_
      exact r_retz (by decide +kernel) rfl (by decide) h
  · replace h := h.2 c
    refine r_blk [qO (.aload_n 0), qF (.getfield 22) 3 0, qO (.aload_n 0), qF (.getfield 34) 3 2] (pc' := 19) (L' := [zR 14 0, zI l1, zI l2, zI l3, zI l4]) (S' := [zI (σ 14 0 2), zR 12 0]) (σ' := σ) (Ps := []) (by decide +kernel) rfl trivial ?_
    refine r_callVI (As := [zI (σ 14 0 2)]) (S := []) (Lc := [zR 12 0, zI (σ 14 0 2)]) (d' := 0) (n := 1) (g := 12) (x := 0) (ci := 5) kX5_byteAt vX5_byteAt lkX3_53 (by decide +kernel) (by decide) rfl rfl (by decide) rfl rfl (Nat.le_of_ble_eq_true rfl) rfl rfl (Nat.le_of_ble_eq_true rfl) (h.monoI (fun z2 σ1 h => ?_))
    refine r_callSI (As := [zI z2]) (S := []) (Lc := [zI z2]) (d' := 0) (n := 1) kX3_isDigit vX3_isDigit lkX3_71 (by decide +kernel) (by decide) rfl rfl (Nat.le_of_ble_eq_true rfl) rfl rfl (Nat.le_of_ble_eq_true rfl) (h.monoI (fun z4 σ3 h => ?_))
    refine r_if_eq (off := 39) (tgt := 64) (by decide +kernel) (by decide) (fun c => ?_) (fun c => ?_)
    · replace h := h.1 c
      refine r_blk [qO (.aload_n 0), qF (.getfield 18) 3 5, qO (.iload_n 1), qO (.iload_n 3), qO .iastore, qO (.iload 4)] (pc' := 73) (L' := [zR 14 0, zI l1, zI l2, zI l3, zI l4]) (S' := [zI l4]) (σ' := (zup σ3 15 0 l1.toNat l3)) (Ps := [0 ≤ l1 ∧ l1 < 4]) (by decide +kernel) rfl ⟨h.1, trivial⟩ ?_
      replace h := h.2
      refine r_if_le (off := 7) (tgt := 80) (by decide +kernel) (by decide) (fun c => ?_) (fun c => ?_)
      · replace h := h.1 c
        refine r_blk [qO (.iconst 0)] (pc' := 81) (L' := [zR 14 0, zI l1, zI l2, zI l3, zI l4]) (S' := [zI 0]) (σ' := (zup σ3 15 0 l1.toNat l3)) (Ps := []) (by decide +kernel) rfl trivial ?_
        exact r_retz (by decide +kernel) rfl (by decide) h
      · replace h := h.2 c
        refine r_blk [qO (.iconst 1), qO (.goto 4)] (pc' := 81) (L' := [zR 14 0, zI l1, zI l2, zI l3, zI l4]) (S' := [zI 1]) (σ' := (zup σ3 15 0 l1.toNat l3)) (Ps := []) (by decide +kernel) rfl trivial ?_
        exact r_retz (by decide +kernel) rfl (by decide) h
    · replace h := h.2 c
      refine r_blk [qO (.bipush 10), qO (.iload_n 3), qO .imul, qO (.aload_n 0), qF (.getfield 22) 3 0, qO (.aload_n 0), qF (.getfield 34) 3 2] (pc' := 40) (L' := [zR 14 0, zI l1, zI l2, zI l3, zI l4]) (S' := [zI (σ3 14 0 2), zR 12 0, zI (10 * l3)]) (σ' := σ3) (Ps := [-2147483648 ≤ 10 * l3 ∧ 10 * l3 ≤ 2147483647]) (by decide +kernel) rfl ⟨h.1, trivial⟩ ?_
      replace h := h.2
      refine r_callVI (As := [zI (σ3 14 0 2)]) (S := [zI (10 * l3)]) (Lc := [zR 12 0, zI (σ3 14 0 2)]) (d' := 0) (n := 1) (g := 12) (x := 0) (ci := 5) kX5_byteAt vX5_byteAt lkX3_53 (by decide +kernel) (by decide) rfl rfl (by decide) rfl rfl (Nat.le_of_ble_eq_true rfl) rfl rfl (Nat.le_of_ble_eq_true rfl) (h.monoI (fun z6 σ5 h => ?_))
      refine r_blk [qO .iadd, qO (.bipush 48), qO .isub, qO (.istore_n 3), qO (.iinc 4 1), qO (.aload_n 0), qO .dup, qF (.getfield 34) 3 2, qO (.iconst 1), qO .iadd, qF (.putfield 34) 3 2, qO (.goto (-56))] (pc' := 5) (L' := [zR 14 0, zI l1, zI l2, zI (((10 * l3) + z6) - 48), zI (l4 + 1)]) (S' := []) (σ' := (zup σ5 14 0 2 ((σ5 14 0 2) + 1))) (Ps := [-2147483648 ≤ (10 * l3) + z6 ∧ (10 * l3) + z6 ≤ 2147483647, -2147483648 ≤ ((10 * l3) + z6) - 48 ∧ ((10 * l3) + z6) - 48 ≤ 2147483647, -2147483648 ≤ l4 + 1 ∧ l4 + 1 ≤ 2147483647, -2147483648 ≤ (σ5 14 0 2) + 1 ∧ (σ5 14 0 2) + 1 ≤ 2147483647]) (by decide +kernel) rfl ⟨h.1, h.2.1, h.2.2.1, h.2.2.2.1, trivial⟩ ?_
      replace h := h.2.2.2.2
      exact Runs.fg (fgE (fgE (fgE (fgE (fgE fg0))))) h
theorem gX3_isDigit_0 (a0 : Int) (σ : Hp) {Q : Option Int → Hp → Prop} (h : ((a0 < 48 → Q (some 0) σ) ∧ (¬ a0 < 48 → ((57 < a0 → Q (some 0) σ) ∧ (¬ 57 < a0 → Q (some 1) σ))))) : Runs 0 mX3_isDigit 0 [zI a0] [] σ Q := by
  refine r_blk [qO (.iload_n 0), qO (.bipush 48)] (pc' := 3) (L' := [zI a0]) (S' := [zI 48, zI a0]) (σ' := σ) (Ps := []) (by decide +kernel) rfl trivial ?_
  refine r_icmp_lt (off := 13) (tgt := 16) (by decide +kernel) (by decide) (fun c => ?_) (fun c => ?_)
  · replace h := h.1 c
    refine r_blk [qO (.iconst 0)] (pc' := 17) (L' := [zI a0]) (S' := [zI 0]) (σ' := σ) (Ps := []) (by decide +kernel) rfl trivial ?_
    exact r_retz (by decide +kernel) rfl (by decide) h
  · replace h := h.2 c
    refine r_blk [qO (.iload_n 0), qO (.bipush 57)] (pc' := 9) (L' := [zI a0]) (S' := [zI 57, zI a0]) (σ' := σ) (Ps := []) (by decide +kernel) rfl trivial ?_
    refine r_icmp_gt (off := 7) (tgt := 16) (by decide +kernel) (by decide) (fun c => ?_) (fun c => ?_)
    · replace h := h.1 c
      refine r_blk [qO (.iconst 0)] (pc' := 17) (L' := [zI a0]) (S' := [zI 0]) (σ' := σ) (Ps := []) (by decide +kernel) rfl trivial ?_
      exact r_retz (by decide +kernel) rfl (by decide) h
    · replace h := h.2 c
      refine r_blk [qO (.iconst 1), qO (.goto 4)] (pc' := 17) (L' := [zI a0]) (S' := [zI 1]) (σ' := σ) (Ps := []) (by decide +kernel) rfl trivial ?_
      exact r_retz (by decide +kernel) rfl (by decide) h
theorem gX3_sign_0 (a0 : Int) (σ : Hp) {Q : Option Int → Hp → Prop} (h : Runs 0 mX5_byteAt 0 [zR 12 0, zI (σ 14 0 2)] [] σ (rI (fun z2 σ1 => ((z2 = a0 → (-2147483648 ≤ (σ1 14 0 2) + 1 ∧ (σ1 14 0 2) + 1 ≤ 2147483647) ∧ Q (some 1) (zup σ1 14 0 2 ((σ1 14 0 2) + 1))) ∧ (¬ z2 = a0 → Q (some 0) σ1))))) : Runs 1 mX3_sign 0 [zR 14 0, zI a0] [] σ Q := by
  refine r_blk [qO (.aload_n 0), qF (.getfield 22) 3 0, qO (.aload_n 0), qF (.getfield 34) 3 2] (pc' := 8) (L' := [zR 14 0, zI a0]) (S' := [zI (σ 14 0 2), zR 12 0]) (σ' := σ) (Ps := []) (by decide +kernel) rfl trivial ?_
  refine r_callVI (As := [zI (σ 14 0 2)]) (S := []) (Lc := [zR 12 0, zI (σ 14 0 2)]) (d' := 0) (n := 1) (g := 12) (x := 0) (ci := 5) kX5_byteAt vX5_byteAt lkX3_53 (by decide +kernel) (by decide) rfl rfl (by decide) rfl rfl (Nat.le_of_ble_eq_true rfl) rfl rfl (Nat.le_of_ble_eq_true rfl) (h.monoI (fun z2 σ1 h => ?_))
  refine r_blk [qO (.iload_n 1)] (pc' := 12) (L' := [zR 14 0, zI a0]) (S' := [zI a0, zI z2]) (σ' := σ1) (Ps := []) (by decide +kernel) rfl trivial ?_
  refine r_icmp_eq (off := 5) (tgt := 17) (by decide +kernel) (by decide) (fun c => ?_) (fun c => ?_)
  · replace h := h.1 c
    refine r_blk [qO (.aload_n 0), qO .dup, qF (.getfield 34) 3 2, qO (.iconst 1), qO .iadd, qF (.putfield 34) 3 2, qO (.iconst 1)] (pc' := 28) (L' := [zR 14 0, zI a0]) (S' := [zI 1]) (σ' := (zup σ1 14 0 2 ((σ1 14 0 2) + 1))) (Ps := [-2147483648 ≤ (σ1 14 0 2) + 1 ∧ (σ1 14 0 2) + 1 ≤ 2147483647]) (by decide +kernel) rfl ⟨h.1, trivial⟩ ?_
    replace h := h.2
    exact r_retz (by decide +kernel) rfl (by decide) h
  · replace h := h.2 c
    refine r_blk [qO (.iconst 0)] (pc' := 16) (L' := [zR 14 0, zI a0]) (S' := [zI 0]) (σ' := σ1) (Ps := []) (by decide +kernel) rfl trivial ?_
    exact r_retz (by decide +kernel) rfl (by decide) h
theorem gX3_broadOrNot_0 (σ : Hp) {Q : Option Int → Hp → Prop} (h : Runs 1 mX3_sign 0 [zR 14 0, zI 98] [] σ (rI (fun z2 σ1 => (z2 = 0 ∨ z2 = 1) ∧ Q (some 1) (zup σ1 14 0 6 z2)))) : Runs 2 mX3_broadOrNot 0 [zR 14 0] [] σ Q := by
  refine r_blk [qO (.aload_n 0), qO (.aload_n 0), qO (.bipush 98)] (pc' := 4) (L' := [zR 14 0]) (S' := [zI 98, zR 14 0, zR 14 0]) (σ' := σ) (Ps := []) (by decide +kernel) rfl trivial ?_
  refine r_callVI (As := [zI 98]) (S := [zR 14 0]) (Lc := [zR 14 0, zI 98]) (d' := 1) (n := 1) (g := 14) (x := 0) (ci := 3) kX3_sign vX3_sign lkX3_64 (by decide +kernel) (by decide) rfl rfl (by decide) rfl rfl (Nat.le_of_ble_eq_true rfl) rfl rfl (Nat.le_of_ble_eq_true rfl) (h.monoI (fun z2 σ1 h => ?_))
  refine r_blk [qF (.putfield 75) 3 6, qO (.iconst 1)] (pc' := 11) (L' := [zR 14 0]) (S' := [zI 1]) (σ' := (zup σ1 14 0 6 z2)) (Ps := [z2 = 0 ∨ z2 = 1]) (by decide +kernel) rfl ⟨h.1, trivial⟩ ?_
  replace h := h.2
  exact r_retz (by decide +kernel) rfl (by decide) h
theorem gX3_tell_0 (σ : Hp) {Q : Option Int → Hp → Prop} (h : ((σ 14 0 3 = 101 → Runs 2 mX6_tellErrand 0 [zR 1 2, zI (σ 15 0 0), zI (σ 15 0 1), zI (σ 15 0 2), zI (σ 15 0 3)] [] σ (rI (fun z2 σ1 => (z2 = 0 ∨ z2 = 1) ∧ Q (some z2) σ1))) ∧ (σ 14 0 3 = 107 → Runs 2 mX6_tellCorners 0 [zR 1 2, zI (σ 15 0 0)] [] σ (rI (fun z4 σ3 => (z4 = 0 ∨ z4 = 1) ∧ Q (some z4) σ3))) ∧ (σ 14 0 3 = 109 → Runs 1 mX6_tellMust 0 [zR 1 2, zI (σ 15 0 0), zI (σ 15 0 1)] [] σ (rI (fun z6 σ5 => (z6 = 0 ∨ z6 = 1) ∧ Q (some z6) σ5))) ∧ (σ 14 0 3 = 115 → Runs 2 mX6_tellStreet 0 [zR 1 2, zI (σ 15 0 0), zI (σ 15 0 1), zI (σ 15 0 2), zI (σ 14 0 6)] [] σ (rI (fun z8 σ7 => (z8 = 0 ∨ z8 = 1) ∧ Q (some z8) σ7))) ∧ (¬ σ 14 0 3 = 101 ∧ ¬ σ 14 0 3 = 107 ∧ ¬ σ 14 0 3 = 109 ∧ ¬ σ 14 0 3 = 115 → Q (some 0) σ))) : Runs 3 mX3_tell 0 [zR 14 0] [] σ Q := by
  refine r_blk [qO (.aload_n 0), qF (.getfield 57) 3 3] (pc' := 4) (L' := [zR 14 0]) (S' := [zI (σ 14 0 3)]) (σ' := σ) (Ps := []) (by decide +kernel) rfl trivial ?_
  by_cases c101 : σ 14 0 3 = 101
  · replace h := h.1 c101
    refine r_lookup (dflt := 140) (ps := #[(101, 88), (107, 44), (109, 120), (115, 58)]) (len := 44) (off := 88) (tgt := 92) (by decide +kernel) (by decide +kernel) (by rw [c101]; decide) (by decide) ?_
    refine r_blk [qO (.aload_n 0), qF (.getfield 12) 3 1, qO (.aload_n 0), qF (.getfield 18) 3 5, qO (.iconst 0), qO .iaload, qO (.aload_n 0), qF (.getfield 18) 3 5, qO (.iconst 1), qO .iaload, qO (.aload_n 0), qF (.getfield 18) 3 5, qO (.iconst 2), qO .iaload, qO (.aload_n 0), qF (.getfield 18) 3 5, qO (.iconst 3), qO .iaload] (pc' := 120) (L' := [zR 14 0]) (S' := [zI (σ 15 0 3), zI (σ 15 0 2), zI (σ 15 0 1), zI (σ 15 0 0), zR 1 2]) (σ' := σ) (Ps := [0 ≤ 0 ∧ 0 < 4, 0 ≤ 1 ∧ 1 < 4, 0 ≤ 2 ∧ 2 < 4, 0 ≤ 3 ∧ 3 < 4]) (by decide +kernel) rfl ⟨(by decide), (by decide), (by decide), (by decide), trivial⟩ ?_
    refine r_callVI (As := [zI (σ 15 0 0), zI (σ 15 0 1), zI (σ 15 0 2), zI (σ 15 0 3)]) (S := []) (Lc := [zR 1 2, zI (σ 15 0 0), zI (σ 15 0 1), zI (σ 15 0 2), zI (σ 15 0 3)]) (d' := 2) (n := 4) (g := 1) (x := 2) (ci := 6) kX6_tellErrand vX6_tellErrand lkX3_86 (by decide +kernel) (by decide) rfl rfl (by decide) rfl rfl (Nat.le_of_ble_eq_true rfl) rfl rfl (Nat.le_of_ble_eq_true rfl) (h.monoI (fun z2 σ1 h => ?_))
    exact r_retz (by decide +kernel) rfl h.1 h.2
  replace h := h.2
  by_cases c107 : σ 14 0 3 = 107
  · replace h := h.1 c107
    refine r_lookup (dflt := 140) (ps := #[(101, 88), (107, 44), (109, 120), (115, 58)]) (len := 44) (off := 44) (tgt := 48) (by decide +kernel) (by decide +kernel) (by rw [c107]; decide) (by decide) ?_
    refine r_blk [qO (.aload_n 0), qF (.getfield 12) 3 1, qO (.aload_n 0), qF (.getfield 18) 3 5, qO (.iconst 0), qO .iaload] (pc' := 58) (L' := [zR 14 0]) (S' := [zI (σ 15 0 0), zR 1 2]) (σ' := σ) (Ps := [0 ≤ 0 ∧ 0 < 4]) (by decide +kernel) rfl ⟨(by decide), trivial⟩ ?_
    refine r_callVI (As := [zI (σ 15 0 0)]) (S := []) (Lc := [zR 1 2, zI (σ 15 0 0)]) (d' := 2) (n := 1) (g := 1) (x := 2) (ci := 6) kX6_tellCorners vX6_tellCorners lkX3_79 (by decide +kernel) (by decide) rfl rfl (by decide) rfl rfl (Nat.le_of_ble_eq_true rfl) rfl rfl (Nat.le_of_ble_eq_true rfl) (h.monoI (fun z4 σ3 h => ?_))
    exact r_retz (by decide +kernel) rfl h.1 h.2
  replace h := h.2
  by_cases c109 : σ 14 0 3 = 109
  · replace h := h.1 c109
    refine r_lookup (dflt := 140) (ps := #[(101, 88), (107, 44), (109, 120), (115, 58)]) (len := 44) (off := 120) (tgt := 124) (by decide +kernel) (by decide +kernel) (by rw [c109]; decide) (by decide) ?_
    refine r_blk [qO (.aload_n 0), qF (.getfield 12) 3 1, qO (.aload_n 0), qF (.getfield 18) 3 5, qO (.iconst 0), qO .iaload, qO (.aload_n 0), qF (.getfield 18) 3 5, qO (.iconst 1), qO .iaload] (pc' := 140) (L' := [zR 14 0]) (S' := [zI (σ 15 0 1), zI (σ 15 0 0), zR 1 2]) (σ' := σ) (Ps := [0 ≤ 0 ∧ 0 < 4, 0 ≤ 1 ∧ 1 < 4]) (by decide +kernel) rfl ⟨(by decide), (by decide), trivial⟩ ?_
    refine r_callVI (As := [zI (σ 15 0 0), zI (σ 15 0 1)]) (S := []) (Lc := [zR 1 2, zI (σ 15 0 0), zI (σ 15 0 1)]) (d' := 1) (n := 2) (g := 1) (x := 2) (ci := 6) kX6_tellMust vX6_tellMust lkX3_90 (by decide +kernel) (by decide) rfl rfl (by decide) rfl rfl (Nat.le_of_ble_eq_true rfl) rfl rfl (Nat.le_of_ble_eq_true rfl) (h.monoI (fun z6 σ5 h => ?_))
    exact r_retz (by decide +kernel) rfl h.1 h.2
  replace h := h.2
  by_cases c115 : σ 14 0 3 = 115
  · replace h := h.1 c115
    refine r_lookup (dflt := 140) (ps := #[(101, 88), (107, 44), (109, 120), (115, 58)]) (len := 44) (off := 58) (tgt := 62) (by decide +kernel) (by decide +kernel) (by rw [c115]; decide) (by decide) ?_
    refine r_blk [qO (.aload_n 0), qF (.getfield 12) 3 1, qO (.aload_n 0), qF (.getfield 18) 3 5, qO (.iconst 0), qO .iaload, qO (.aload_n 0), qF (.getfield 18) 3 5, qO (.iconst 1), qO .iaload, qO (.aload_n 0), qF (.getfield 18) 3 5, qO (.iconst 2), qO .iaload, qO (.aload_n 0), qF (.getfield 75) 3 6] (pc' := 88) (L' := [zR 14 0]) (S' := [zI (σ 14 0 6), zI (σ 15 0 2), zI (σ 15 0 1), zI (σ 15 0 0), zR 1 2]) (σ' := σ) (Ps := [0 ≤ 0 ∧ 0 < 4, 0 ≤ 1 ∧ 1 < 4, 0 ≤ 2 ∧ 2 < 4]) (by decide +kernel) rfl ⟨(by decide), (by decide), (by decide), trivial⟩ ?_
    refine r_callVI (As := [zI (σ 15 0 0), zI (σ 15 0 1), zI (σ 15 0 2), zI (σ 14 0 6)]) (S := []) (Lc := [zR 1 2, zI (σ 15 0 0), zI (σ 15 0 1), zI (σ 15 0 2), zI (σ 14 0 6)]) (d' := 2) (n := 4) (g := 1) (x := 2) (ci := 6) kX6_tellStreet vX6_tellStreet lkX3_82 (by decide +kernel) (by decide) rfl rfl (by decide) rfl rfl (Nat.le_of_ble_eq_true rfl) rfl rfl (Nat.le_of_ble_eq_true rfl) (h.monoI (fun z8 σ7 h => ?_))
    exact r_retz (by decide +kernel) rfl h.1 h.2
  replace h := h.2
  replace h := h ⟨c101, c107, c109, c115⟩
  refine r_lookup (dflt := 140) (ps := #[(101, 88), (107, 44), (109, 120), (115, 58)]) (len := 44) (off := 140) (tgt := 144) (by decide +kernel) (by decide +kernel) (by simp [Op.lookupswitch.offset, Ne.symm c101, Ne.symm c107, Ne.symm c109, Ne.symm c115]) (by decide) ?_
  refine r_blk [qO (.iconst 0)] (pc' := 145) (L' := [zR 14 0]) (S' := [zI 0]) (σ' := σ) (Ps := []) (by decide +kernel) rfl trivial ?_
  exact r_retz (by decide +kernel) rfl (by decide) h
