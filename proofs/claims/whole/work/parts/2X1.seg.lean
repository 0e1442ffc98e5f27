theorem gX1_total_0 (σ : Hp) {Q : Option Int → Hp → Prop} (h : Runs 5 mX1_totalUpTo 0 [zR 25 0, zI 1000000, zU, zU] [] σ (rI (fun z2 σ1 => Q (some z2) σ1))) : Runs 6 mX1_total 0 [zR 25 0] [] σ Q := by
  refine r_blk [qO (.aload_n 0), qC (.ldc 19) 1000000] (pc' := 3) (L' := [zR 25 0]) (S' := [zI 1000000, zR 25 0]) (σ' := σ) (Ps := []) (by decide +kernel) rfl trivial ?_
  refine r_callVI (As := [zI 1000000]) (S := []) (Lc := [zR 25 0, zI 1000000, zU, zU]) (d' := 5) (n := 1) (g := 25) (x := 0) (ci := 1) kX1_totalUpTo vX1_totalUpTo lkX1_20 (by decide +kernel) (by decide) rfl rfl (by decide) rfl rfl (Nat.le_of_ble_eq_true rfl) rfl rfl (Nat.le_of_ble_eq_true rfl) (h.monoI (fun z2 σ1 h => ?_))
  exact r_ret (by decide +kernel) rfl (fun _ => h)
theorem gX1_totalUpTo_0 (a0 : Int) (σ : Hp) {Q : Option Int → Hp → Prop} (h : Runs 5 mX1_totalUpTo 4 [zR 25 0, zI a0, zI 0, zI 0] [] σ Q) : Runs 5 mX1_totalUpTo 0 [zR 25 0, zI a0, zU, zU] [] σ Q := by
  refine r_blk [qO (.iconst 0), qO (.istore_n 2), qO (.iconst 0), qO (.istore_n 3)] (pc' := 4) (L' := [zR 25 0, zI a0, zI 0, zI 0]) (S' := []) (σ' := σ) (Ps := []) (by decide +kernel) rfl trivial ?_
  exact Runs.fg (fgE (fgE (fgE (fgE fg0)))) h
theorem gX1_totalUpTo_4 (l1 : Int) (l2 : Int) (l3 : Int) (σ : Hp) {Q : Option Int → Hp → Prop} (h : ((σ 1 0 2 ≤ l3 → Q (some l2) σ) ∧ (¬ σ 1 0 2 ≤ l3 → ((l1 ≤ l2 → Q (some l2) σ) ∧ (¬ l1 ≤ l2 → (0 ≤ l3 ∧ l3 < 8) ∧ (0 ≤ l3 ∧ l3 < 8) ∧ (0 ≤ l3 ∧ l3 < 8) ∧ (0 ≤ l3 ∧ l3 < 8) ∧ Runs 4 mX1_minutesOf 0 [zR 25 0, zI (σ 6 0 l3.toNat), zI (σ 7 0 l3.toNat), zI (σ 8 0 l3.toNat), zU] [] σ (rI (fun z2 σ1 => (-2147483648 ≤ (σ 9 0 l3.toNat) * z2 ∧ (σ 9 0 l3.toNat) * z2 ≤ 2147483647) ∧ (-2147483648 ≤ l2 + ((σ 9 0 l3.toNat) * z2) ∧ l2 + ((σ 9 0 l3.toNat) * z2) ≤ 2147483647) ∧ (-2147483648 ≤ l3 + 1 ∧ l3 + 1 ≤ 2147483647) ∧ Runs 5 mX1_totalUpTo 4 [zR 25 0, zI l1, zI (l2 + ((σ 9 0 l3.toNat) * z2)), zI (l3 + 1)] [] σ1 Q))))))) : Runs 5 mX1_totalUpTo 4 [zR 25 0, zI l1, zI l2, zI l3] [] σ Q := by
  refine r_blk [qO (.iload_n 3), qO (.aload_n 0), qF (.getfield 9) 1 0, qF (.getfield 24) 6 2] (pc' := 12) (L' := [zR 25 0, zI l1, zI l2, zI l3]) (S' := [zI (σ 1 0 2), zI l3]) (σ' := σ) (Ps := []) (by decide +kernel) rfl trivial ?_
  refine r_icmp_ge (off := 58) (tgt := 70) (by decide +kernel) (by decide) (fun c => ?_) (fun c => ?_)
  · replace h := h.1 c
    refine r_blk [qO (.iload_n 2)] (pc' := 71) (L' := [zR 25 0, zI l1, zI l2, zI l3]) (S' := [zI l2]) (σ' := σ) (Ps := []) (by decide +kernel) rfl trivial ?_
    exact r_ret (by decide +kernel) rfl (fun _ => h)
  · replace h := h.2 c
    refine r_blk [qO (.iload_n 2), qO (.iload_n 1)] (pc' := 17) (L' := [zR 25 0, zI l1, zI l2, zI l3]) (S' := [zI l1, zI l2]) (σ' := σ) (Ps := []) (by decide +kernel) rfl trivial ?_
    refine r_icmp_ge (off := 53) (tgt := 70) (by decide +kernel) (by decide) (fun c => ?_) (fun c => ?_)
    · replace h := h.1 c
      refine r_blk [qO (.iload_n 2)] (pc' := 71) (L' := [zR 25 0, zI l1, zI l2, zI l3]) (S' := [zI l2]) (σ' := σ) (Ps := []) (by decide +kernel) rfl trivial ?_
      exact r_ret (by decide +kernel) rfl (fun _ => h)
    · replace h := h.2 c
      refine r_blk [qO (.iload_n 2), qO (.aload_n 0), qF (.getfield 9) 1 0, qF (.getfield 30) 6 14, qO (.iload_n 3), qO .iaload, qO (.aload_n 0), qO (.aload_n 0), qF (.getfield 9) 1 0, qF (.getfield 34) 6 11, qO (.iload_n 3), qO .iaload, qO (.aload_n 0), qF (.getfield 9) 1 0, qF (.getfield 37) 6 12, qO (.iload_n 3), qO .iaload, qO (.aload_n 0), qF (.getfield 9) 1 0, qF (.getfield 40) 6 13, qO (.iload_n 3), qO .iaload] (pc' := 58) (L' := [zR 25 0, zI l1, zI l2, zI l3]) (S' := [zI (σ 8 0 l3.toNat), zI (σ 7 0 l3.toNat), zI (σ 6 0 l3.toNat), zR 25 0, zI (σ 9 0 l3.toNat), zI l2]) (σ' := σ) (Ps := [0 ≤ l3 ∧ l3 < 8, 0 ≤ l3 ∧ l3 < 8, 0 ≤ l3 ∧ l3 < 8, 0 ≤ l3 ∧ l3 < 8]) (by decide +kernel) rfl ⟨h.1, h.2.1, h.2.2.1, h.2.2.2.1, trivial⟩ ?_
      replace h := h.2.2.2.2
      refine r_callVI (As := [zI (σ 6 0 l3.toNat), zI (σ 7 0 l3.toNat), zI (σ 8 0 l3.toNat)]) (S := [zI (σ 9 0 l3.toNat), zI l2]) (Lc := [zR 25 0, zI (σ 6 0 l3.toNat), zI (σ 7 0 l3.toNat), zI (σ 8 0 l3.toNat), zU]) (d' := 4) (n := 3) (g := 25) (x := 0) (ci := 1) kX1_minutesOf vX1_minutesOf lkX1_43 (by decide +kernel) (by decide) rfl rfl (by decide) rfl rfl (Nat.le_of_ble_eq_true rfl) rfl rfl (Nat.le_of_ble_eq_true rfl) (h.monoI (fun z2 σ1 h => ?_))
      refine r_blk [qO .imul, qO .iadd, qO (.istore_n 2), qO (.iinc 3 1), qO (.goto (-63))] (pc' := 4) (L' := [zR 25 0, zI l1, zI (l2 + ((σ 9 0 l3.toNat) * z2)), zI (l3 + 1)]) (S' := []) (σ' := σ1) (Ps := [-2147483648 ≤ (σ 9 0 l3.toNat) * z2 ∧ (σ 9 0 l3.toNat) * z2 ≤ 2147483647, -2147483648 ≤ l2 + ((σ 9 0 l3.toNat) * z2) ∧ l2 + ((σ 9 0 l3.toNat) * z2) ≤ 2147483647, -2147483648 ≤ l3 + 1 ∧ l3 + 1 ≤ 2147483647]) (by decide +kernel) rfl ⟨h.1, h.2.1, h.2.2.1, trivial⟩ ?_
      replace h := h.2.2.2
      exact Runs.fg (fgE (fgE (fgE (fgE fg0)))) h
theorem gX1_minutesOf_0 (a0 : Int) (a1 : Int) (a2 : Int) (σ : Hp) {Q : Option Int → Hp → Prop} (h : Runs 3 mX8_setOut 0 [zR 17 0, zI a0, zI a1, zI a2, zU, zU] [] σ (rV (fun σ1 => Runs 0 mX8_minuteAt 0 [zR 17 0, zI a1] [] σ1 (rI (fun z3 σ2 => ((¬ z3 = (-9) → (-2147483648 ≤ z3 - a2 ∧ z3 - a2 ≤ 2147483647) ∧ Q (some (z3 - a2)) σ2) ∧ (z3 = (-9) → Q (some 3000) σ2))))))) : Runs 4 mX1_minutesOf 0 [zR 25 0, zI a0, zI a1, zI a2, zU] [] σ Q := by
  refine r_blk [qO (.aload_n 0), qF (.getfield 15) 1 1, qO (.iload_n 1), qO (.iload_n 2), qO (.iload_n 3)] (pc' := 7) (L' := [zR 25 0, zI a0, zI a1, zI a2, zU]) (S' := [zI a2, zI a1, zI a0, zR 17 0]) (σ' := σ) (Ps := []) (by decide +kernel) rfl trivial ?_
  refine r_callVV (As := [zI a0, zI a1, zI a2]) (S := []) (Lc := [zR 17 0, zI a0, zI a1, zI a2, zU, zU]) (d' := 3) (n := 3) (g := 17) (x := 0) (ci := 8) kX8_setOut vX8_setOut lkX1_47 (by decide +kernel) (by decide) rfl rfl (by decide) rfl rfl (Nat.le_of_ble_eq_true rfl) rfl rfl (Nat.le_of_ble_eq_true rfl) (h.monoV (fun σ1 h => ?_))
  refine r_blk [qO (.aload_n 0), qF (.getfield 15) 1 1, qO (.iload_n 2)] (pc' := 15) (L' := [zR 25 0, zI a0, zI a1, zI a2, zU]) (S' := [zI a1, zR 17 0]) (σ' := σ1) (Ps := []) (by decide +kernel) rfl trivial ?_
  refine r_callVI (As := [zI a1]) (S := []) (Lc := [zR 17 0, zI a1]) (d' := 0) (n := 1) (g := 17) (x := 0) (ci := 8) kX8_minuteAt vX8_minuteAt lkX1_53 (by decide +kernel) (by decide) rfl rfl (by decide) rfl rfl (Nat.le_of_ble_eq_true rfl) rfl rfl (Nat.le_of_ble_eq_true rfl) (h.monoI (fun z3 σ2 h => ?_))
  refine r_blk [qO (.istore 4), qO (.iload 4), qO (.bipush (-9))] (pc' := 24) (L' := [zR 25 0, zI a0, zI a1, zI a2, zI z3]) (S' := [zI (-9), zI z3]) (σ' := σ2) (Ps := []) (by decide +kernel) rfl trivial ?_
  refine r_icmp_ne (off := 9) (tgt := 33) (by decide +kernel) (by decide) (fun c => ?_) (fun c => ?_)
  · replace h := h.1 c
    refine r_blk [qO (.iload 4), qO (.iload_n 3), qO .isub] (pc' := 37) (L' := [zR 25 0, zI a0, zI a1, zI a2, zI z3]) (S' := [zI (z3 - a2)]) (σ' := σ2) (Ps := [-2147483648 ≤ z3 - a2 ∧ z3 - a2 ≤ 2147483647]) (by decide +kernel) rfl ⟨h.1, trivial⟩ ?_
    replace h := h.2
    exact r_ret (by decide +kernel) rfl (fun _ => h)
  · replace h := h.2 c
    refine r_blk [qO (.sipush 3000), qO (.goto 7)] (pc' := 37) (L' := [zR 25 0, zI a0, zI a1, zI a2, zI z3]) (S' := [zI 3000]) (σ' := σ2) (Ps := []) (by decide +kernel) rfl trivial ?_
    exact r_ret (by decide +kernel) rfl (fun _ => h)
theorem gX1_cheapestHome_0 (σ : Hp) {Q : Option Int → Hp → Prop} (h : Runs 5 mX1_cheapestHome 7 [zR 25 0, zI 0, zI 1000000, zI 0, zU, zU] [] σ Q) : Runs 5 mX1_cheapestHome 0 [zR 25 0, zU, zU, zU, zU, zU] [] σ Q := by
  refine r_blk [qO (.iconst 0), qO (.istore_n 1), qC (.ldc 19) 1000000, qO (.istore_n 2), qO (.iconst 0), qO (.istore_n 3)] (pc' := 7) (L' := [zR 25 0, zI 0, zI 1000000, zI 0, zU, zU]) (S' := []) (σ' := σ) (Ps := []) (by decide +kernel) rfl trivial ?_
  exact Runs.fg (fgE (fgE (fgE (fgE (fgU (fgU fg0)))))) h
theorem gX1_cheapestHome_7 (l1 : Int) (l2 : Int) (l3 : Int) (σ : Hp) {Q : Option Int → Hp → Prop} (h : ((σ 1 0 0 ≤ l3 → Q (some l1) σ) ∧ (¬ σ 1 0 0 ≤ l3 → Runs 5 mX1_cheapestHome 24 [zR 25 0, zI l1, zI l2, zI l3, zI 0, zI 0] [] σ Q))) : Runs 5 mX1_cheapestHome 7 [zR 25 0, zI l1, zI l2, zI l3, zU, zU] [] σ Q := by
  refine r_blk [qO (.iload_n 3), qO (.aload_n 0), qF (.getfield 9) 1 0, qF (.getfield 56) 6 0] (pc' := 15) (L' := [zR 25 0, zI l1, zI l2, zI l3, zU, zU]) (S' := [zI (σ 1 0 0), zI l3]) (σ' := σ) (Ps := []) (by decide +kernel) rfl trivial ?_
  refine r_icmp_ge (off := 91) (tgt := 106) (by decide +kernel) (by decide) (fun c => ?_) (fun c => ?_)
  · replace h := h.1 c
    refine r_blk [qO (.iload_n 1)] (pc' := 107) (L' := [zR 25 0, zI l1, zI l2, zI l3, zU, zU]) (S' := [zI l1]) (σ' := σ) (Ps := []) (by decide +kernel) rfl trivial ?_
    exact r_ret (by decide +kernel) rfl (fun _ => h)
  · replace h := h.2 c
    refine r_blk [qO (.iconst 0), qO (.istore 4), qO (.iconst 0), qO (.istore 5)] (pc' := 24) (L' := [zR 25 0, zI l1, zI l2, zI l3, zI 0, zI 0]) (S' := []) (σ' := σ) (Ps := []) (by decide +kernel) rfl trivial ?_
    exact Runs.fg (fgE (fgE (fgE (fgE (fgE (fgE fg0)))))) h
theorem gX1_cheapestHome_24 (l1 : Int) (l2 : Int) (l3 : Int) (l4 : Int) (l5 : Int) (σ : Hp) {Q : Option Int → Hp → Prop} (h : ((σ 1 0 2 ≤ l5 → ((l2 ≤ l4 → (-2147483648 ≤ l3 + 1 ∧ l3 + 1 ≤ 2147483647) ∧ Runs 5 mX1_cheapestHome 7 [zR 25 0, zI l1, zI l2, zI (l3 + 1), zU, zU] [] σ Q) ∧ (¬ l2 ≤ l4 → (-2147483648 ≤ l3 + 1 ∧ l3 + 1 ≤ 2147483647) ∧ Runs 5 mX1_cheapestHome 7 [zR 25 0, zI l3, zI l4, zI (l3 + 1), zU, zU] [] σ Q))) ∧ (¬ σ 1 0 2 ≤ l5 → ((l2 ≤ l4 → ((l2 ≤ l4 → (-2147483648 ≤ l3 + 1 ∧ l3 + 1 ≤ 2147483647) ∧ Runs 5 mX1_cheapestHome 7 [zR 25 0, zI l1, zI l2, zI (l3 + 1), zU, zU] [] σ Q) ∧ (¬ l2 ≤ l4 → (-2147483648 ≤ l3 + 1 ∧ l3 + 1 ≤ 2147483647) ∧ Runs 5 mX1_cheapestHome 7 [zR 25 0, zI l3, zI l4, zI (l3 + 1), zU, zU] [] σ Q))) ∧ (¬ l2 ≤ l4 → (0 ≤ l5 ∧ l5 < 8) ∧ (0 ≤ l5 ∧ l5 < 8) ∧ (0 ≤ l5 ∧ l5 < 8) ∧ Runs 4 mX1_minutesOf 0 [zR 25 0, zI l3, zI (σ 7 0 l5.toNat), zI (σ 8 0 l5.toNat), zU] [] σ (rI (fun z2 σ1 => (-2147483648 ≤ (σ 9 0 l5.toNat) * z2 ∧ (σ 9 0 l5.toNat) * z2 ≤ 2147483647) ∧ (-2147483648 ≤ l4 + ((σ 9 0 l5.toNat) * z2) ∧ l4 + ((σ 9 0 l5.toNat) * z2) ≤ 2147483647) ∧ (-2147483648 ≤ l5 + 1 ∧ l5 + 1 ≤ 2147483647) ∧ Runs 5 mX1_cheapestHome 24 [zR 25 0, zI l1, zI l2, zI l3, zI (l4 + ((σ 9 0 l5.toNat) * z2)), zI (l5 + 1)] [] σ1 Q))))))) : Runs 5 mX1_cheapestHome 24 [zR 25 0, zI l1, zI l2, zI l3, zI l4, zI l5] [] σ Q := by
  refine r_blk [qO (.iload 5), qO (.aload_n 0), qF (.getfield 9) 1 0, qF (.getfield 24) 6 2] (pc' := 33) (L' := [zR 25 0, zI l1, zI l2, zI l3, zI l4, zI l5]) (S' := [zI (σ 1 0 2), zI l5]) (σ' := σ) (Ps := []) (by decide +kernel) rfl trivial ?_
  refine r_icmp_ge (off := 56) (tgt := 89) (by decide +kernel) (by decide) (fun c => ?_) (fun c => ?_)
  · replace h := h.1 c
    refine r_blk [qO (.iload 4), qO (.iload_n 2)] (pc' := 92) (L' := [zR 25 0, zI l1, zI l2, zI l3, zI l4, zI l5]) (S' := [zI l2, zI l4]) (σ' := σ) (Ps := []) (by decide +kernel) rfl trivial ?_
    refine r_icmp_ge (off := 8) (tgt := 100) (by decide +kernel) (by decide) (fun c => ?_) (fun c => ?_)
    · replace h := h.1 c
      refine r_blk [qO (.iinc 3 1), qO (.goto (-96))] (pc' := 7) (L' := [zR 25 0, zI l1, zI l2, zI (l3 + 1), zI l4, zI l5]) (S' := []) (σ' := σ) (Ps := [-2147483648 ≤ l3 + 1 ∧ l3 + 1 ≤ 2147483647]) (by decide +kernel) rfl ⟨h.1, trivial⟩ ?_
      replace h := h.2
      exact Runs.fg (fgE (fgE (fgE (fgE (fgU (fgU fg0)))))) h
    · replace h := h.2 c
      refine r_blk [qO (.iload 4), qO (.istore_n 2), qO (.iload_n 3), qO (.istore_n 1), qO (.iinc 3 1), qO (.goto (-96))] (pc' := 7) (L' := [zR 25 0, zI l3, zI l4, zI (l3 + 1), zI l4, zI l5]) (S' := []) (σ' := σ) (Ps := [-2147483648 ≤ l3 + 1 ∧ l3 + 1 ≤ 2147483647]) (by decide +kernel) rfl ⟨h.1, trivial⟩ ?_
      replace h := h.2
      exact Runs.fg (fgE (fgE (fgE (fgE (fgU (fgU fg0)))))) h
  · replace h := h.2 c
    refine r_blk [qO (.iload 4), qO (.iload_n 2)] (pc' := 39) (L' := [zR 25 0, zI l1, zI l2, zI l3, zI l4, zI l5]) (S' := [zI l2, zI l4]) (σ' := σ) (Ps := []) (by decide +kernel) rfl trivial ?_
    refine r_icmp_ge (off := 50) (tgt := 89) (by decide +kernel) (by decide) (fun c => ?_) (fun c => ?_)
    · replace h := h.1 c
      refine r_blk [qO (.iload 4), qO (.iload_n 2)] (pc' := 92) (L' := [zR 25 0, zI l1, zI l2, zI l3, zI l4, zI l5]) (S' := [zI l2, zI l4]) (σ' := σ) (Ps := []) (by decide +kernel) rfl trivial ?_
      refine r_icmp_ge (off := 8) (tgt := 100) (by decide +kernel) (by decide) (fun c => ?_) (fun c => ?_)
      · replace h := h.1 c
        refine r_blk [qO (.iinc 3 1), qO (.goto (-96))] (pc' := 7) (L' := [zR 25 0, zI l1, zI l2, zI (l3 + 1), zI l4, zI l5]) (S' := []) (σ' := σ) (Ps := [-2147483648 ≤ l3 + 1 ∧ l3 + 1 ≤ 2147483647]) (by decide +kernel) rfl ⟨h.1, trivial⟩ ?_
        replace h := h.2
        exact Runs.fg (fgE (fgE (fgE (fgE (fgU (fgU fg0)))))) h
      · replace h := h.2 c
        refine r_blk [qO (.iload 4), qO (.istore_n 2), qO (.iload_n 3), qO (.istore_n 1), qO (.iinc 3 1), qO (.goto (-96))] (pc' := 7) (L' := [zR 25 0, zI l3, zI l4, zI (l3 + 1), zI l4, zI l5]) (S' := []) (σ' := σ) (Ps := [-2147483648 ≤ l3 + 1 ∧ l3 + 1 ≤ 2147483647]) (by decide +kernel) rfl ⟨h.1, trivial⟩ ?_
        replace h := h.2
        exact Runs.fg (fgE (fgE (fgE (fgE (fgU (fgU fg0)))))) h
    · replace h := h.2 c
      refine r_blk [qO (.iload 4), qO (.aload_n 0), qF (.getfield 9) 1 0, qF (.getfield 30) 6 14, qO (.iload 5), qO .iaload, qO (.aload_n 0), qO (.iload_n 3), qO (.aload_n 0), qF (.getfield 9) 1 0, qF (.getfield 37) 6 12, qO (.iload 5), qO .iaload, qO (.aload_n 0), qF (.getfield 9) 1 0, qF (.getfield 40) 6 13, qO (.iload 5), qO .iaload] (pc' := 76) (L' := [zR 25 0, zI l1, zI l2, zI l3, zI l4, zI l5]) (S' := [zI (σ 8 0 l5.toNat), zI (σ 7 0 l5.toNat), zI l3, zR 25 0, zI (σ 9 0 l5.toNat), zI l4]) (σ' := σ) (Ps := [0 ≤ l5 ∧ l5 < 8, 0 ≤ l5 ∧ l5 < 8, 0 ≤ l5 ∧ l5 < 8]) (by decide +kernel) rfl ⟨h.1, h.2.1, h.2.2.1, trivial⟩ ?_
      replace h := h.2.2.2
      refine r_callVI (As := [zI l3, zI (σ 7 0 l5.toNat), zI (σ 8 0 l5.toNat)]) (S := [zI (σ 9 0 l5.toNat), zI l4]) (Lc := [zR 25 0, zI l3, zI (σ 7 0 l5.toNat), zI (σ 8 0 l5.toNat), zU]) (d' := 4) (n := 3) (g := 25) (x := 0) (ci := 1) kX1_minutesOf vX1_minutesOf lkX1_43 (by decide +kernel) (by decide) rfl rfl (by decide) rfl rfl (Nat.le_of_ble_eq_true rfl) rfl rfl (Nat.le_of_ble_eq_true rfl) (h.monoI (fun z2 σ1 h => ?_))
      refine r_blk [qO .imul, qO .iadd, qO (.istore 4), qO (.iinc 5 1), qO (.goto (-62))] (pc' := 24) (L' := [zR 25 0, zI l1, zI l2, zI l3, zI (l4 + ((σ 9 0 l5.toNat) * z2)), zI (l5 + 1)]) (S' := []) (σ' := σ1) (Ps := [-2147483648 ≤ (σ 9 0 l5.toNat) * z2 ∧ (σ 9 0 l5.toNat) * z2 ≤ 2147483647, -2147483648 ≤ l4 + ((σ 9 0 l5.toNat) * z2) ∧ l4 + ((σ 9 0 l5.toNat) * z2) ≤ 2147483647, -2147483648 ≤ l5 + 1 ∧ l5 + 1 ≤ 2147483647]) (by decide +kernel) rfl ⟨h.1, h.2.1, h.2.2.1, trivial⟩ ?_
      replace h := h.2.2.2
      exact Runs.fg (fgE (fgE (fgE (fgE (fgE (fgE fg0)))))) h
theorem gX1_totalOfDays_0 (a0 : Int) (a1 : Int) (σ : Hp) {Q : Option Int → Hp → Prop} (h : Runs 5 mX1_totalOfDays 10 [zR 25 0, zI a0, zU, zI 0, zI 0, zU] [] (zup σ 25 0 2 a1) Q) : Runs 5 mX1_totalOfDays 0 [zR 25 0, zI a0, zI a1, zU, zU, zU] [] σ Q := by
  refine r_blk [qO (.aload_n 0), qO (.iload_n 2), qF (.putfield 59) 1 2, qO (.iconst 0), qO (.istore_n 3), qO (.iconst 0), qO (.istore 4)] (pc' := 10) (L' := [zR 25 0, zI a0, zI a1, zI 0, zI 0, zU]) (S' := []) (σ' := (zup σ 25 0 2 a1)) (Ps := []) (by decide +kernel) rfl trivial ?_
  exact Runs.fg (fgE (fgE (fgU (fgE (fgE (fgU fg0)))))) h
theorem gX1_totalOfDays_10 (l1 : Int) (l3 : Int) (l4 : Int) (σ : Hp) {Q : Option Int → Hp → Prop} (h : ((l1 ≤ l4 → Q (some l3) σ) ∧ (¬ l1 ≤ l4 → Runs 5 mX1_totalOfDays 19 [zR 25 0, zI l1, zU, zI l3, zI l4, zI 0] [] σ Q))) : Runs 5 mX1_totalOfDays 10 [zR 25 0, zI l1, zU, zI l3, zI l4, zU] [] σ Q := by
  refine r_blk [qO (.iload 4), qO (.iload_n 1)] (pc' := 13) (L' := [zR 25 0, zI l1, zU, zI l3, zI l4, zU]) (S' := [zI l1, zI l4]) (σ' := σ) (Ps := []) (by decide +kernel) rfl trivial ?_
  refine r_icmp_ge (off := 75) (tgt := 88) (by decide +kernel) (by decide) (fun c => ?_) (fun c => ?_)
  · replace h := h.1 c
    refine r_blk [qO (.iload_n 3)] (pc' := 89) (L' := [zR 25 0, zI l1, zU, zI l3, zI l4, zU]) (S' := [zI l3]) (σ' := σ) (Ps := []) (by decide +kernel) rfl trivial ?_
    exact r_ret (by decide +kernel) rfl (fun _ => h)
  · replace h := h.2 c
    refine r_blk [qO (.iconst 0), qO (.istore 5)] (pc' := 19) (L' := [zR 25 0, zI l1, zU, zI l3, zI l4, zI 0]) (S' := []) (σ' := σ) (Ps := []) (by decide +kernel) rfl trivial ?_
    exact Runs.fg (fgE (fgE (fgU (fgE (fgE (fgE fg0)))))) h
theorem gX1_totalOfDays_19 (l1 : Int) (l3 : Int) (l4 : Int) (l5 : Int) (σ : Hp) {Q : Option Int → Hp → Prop} (h : ((σ 1 0 2 ≤ l5 → (-2147483648 ≤ l4 + 1 ∧ l4 + 1 ≤ 2147483647) ∧ Runs 5 mX1_totalOfDays 10 [zR 25 0, zI l1, zU, zI l3, zI (l4 + 1), zU] [] σ Q) ∧ (¬ σ 1 0 2 ≤ l5 → (0 ≤ l5 ∧ l5 < 8) ∧ (0 ≤ l5 ∧ l5 < 8) ∧ (0 ≤ l5 ∧ l5 < 8) ∧ Runs 0 mX1_drawBelow 0 [zR 25 0, zI 1440] [] σ (rI (fun z2 σ1 => Runs 4 mX1_minutesOf 0 [zR 25 0, zI (σ 6 0 l5.toNat), zI (σ 7 0 l5.toNat), zI z2, zU] [] σ1 (rI (fun z4 σ3 => (-2147483648 ≤ (σ 9 0 l5.toNat) * z4 ∧ (σ 9 0 l5.toNat) * z4 ≤ 2147483647) ∧ (-2147483648 ≤ l3 + ((σ 9 0 l5.toNat) * z4) ∧ l3 + ((σ 9 0 l5.toNat) * z4) ≤ 2147483647) ∧ (-2147483648 ≤ l5 + 1 ∧ l5 + 1 ≤ 2147483647) ∧ Runs 5 mX1_totalOfDays 19 [zR 25 0, zI l1, zU, zI (l3 + ((σ 9 0 l5.toNat) * z4)), zI l4, zI (l5 + 1)] [] σ3 Q))))))) : Runs 5 mX1_totalOfDays 19 [zR 25 0, zI l1, zU, zI l3, zI l4, zI l5] [] σ Q := by
  refine r_blk [qO (.iload 5), qO (.aload_n 0), qF (.getfield 9) 1 0, qF (.getfield 24) 6 2] (pc' := 28) (L' := [zR 25 0, zI l1, zU, zI l3, zI l4, zI l5]) (S' := [zI (σ 1 0 2), zI l5]) (σ' := σ) (Ps := []) (by decide +kernel) rfl trivial ?_
  refine r_icmp_ge (off := 54) (tgt := 82) (by decide +kernel) (by decide) (fun c => ?_) (fun c => ?_)
  · replace h := h.1 c
    refine r_blk [qO (.iinc 4 1), qO (.goto (-75))] (pc' := 10) (L' := [zR 25 0, zI l1, zU, zI l3, zI (l4 + 1), zI l5]) (S' := []) (σ' := σ) (Ps := [-2147483648 ≤ l4 + 1 ∧ l4 + 1 ≤ 2147483647]) (by decide +kernel) rfl ⟨h.1, trivial⟩ ?_
    replace h := h.2
    exact Runs.fg (fgE (fgE (fgU (fgE (fgE (fgU fg0)))))) h
  · replace h := h.2 c
    refine r_blk [qO (.iload_n 3), qO (.aload_n 0), qF (.getfield 9) 1 0, qF (.getfield 30) 6 14, qO (.iload 5), qO .iaload, qO (.aload_n 0), qO (.aload_n 0), qF (.getfield 9) 1 0, qF (.getfield 34) 6 11, qO (.iload 5), qO .iaload, qO (.aload_n 0), qF (.getfield 9) 1 0, qF (.getfield 37) 6 12, qO (.iload 5), qO .iaload, qO (.aload_n 0), qO (.sipush 1440)] (pc' := 67) (L' := [zR 25 0, zI l1, zU, zI l3, zI l4, zI l5]) (S' := [zI 1440, zR 25 0, zI (σ 7 0 l5.toNat), zI (σ 6 0 l5.toNat), zR 25 0, zI (σ 9 0 l5.toNat), zI l3]) (σ' := σ) (Ps := [0 ≤ l5 ∧ l5 < 8, 0 ≤ l5 ∧ l5 < 8, 0 ≤ l5 ∧ l5 < 8]) (by decide +kernel) rfl ⟨h.1, h.2.1, h.2.2.1, trivial⟩ ?_
    replace h := h.2.2.2
    refine r_callVI (As := [zI 1440]) (S := [zI (σ 7 0 l5.toNat), zI (σ 6 0 l5.toNat), zR 25 0, zI (σ 9 0 l5.toNat), zI l3]) (Lc := [zR 25 0, zI 1440]) (d' := 0) (n := 1) (g := 25) (x := 0) (ci := 1) kX1_drawBelow vX1_drawBelow lkX1_62 (by decide +kernel) (by decide) rfl rfl (by decide) rfl rfl (Nat.le_of_ble_eq_true rfl) rfl rfl (Nat.le_of_ble_eq_true rfl) (h.monoI (fun z2 σ1 h => ?_))
    refine r_callVI (As := [zI (σ 6 0 l5.toNat), zI (σ 7 0 l5.toNat), zI z2]) (S := [zI (σ 9 0 l5.toNat), zI l3]) (Lc := [zR 25 0, zI (σ 6 0 l5.toNat), zI (σ 7 0 l5.toNat), zI z2, zU]) (d' := 4) (n := 3) (g := 25) (x := 0) (ci := 1) kX1_minutesOf vX1_minutesOf lkX1_43 (by decide +kernel) (by decide) rfl rfl (by decide) rfl rfl (Nat.le_of_ble_eq_true rfl) rfl rfl (Nat.le_of_ble_eq_true rfl) (h.monoI (fun z4 σ3 h => ?_))
    refine r_blk [qO .imul, qO .iadd, qO (.istore_n 3), qO (.iinc 5 1), qO (.goto (-60))] (pc' := 19) (L' := [zR 25 0, zI l1, zU, zI (l3 + ((σ 9 0 l5.toNat) * z4)), zI l4, zI (l5 + 1)]) (S' := []) (σ' := σ3) (Ps := [-2147483648 ≤ (σ 9 0 l5.toNat) * z4 ∧ (σ 9 0 l5.toNat) * z4 ≤ 2147483647, -2147483648 ≤ l3 + ((σ 9 0 l5.toNat) * z4) ∧ l3 + ((σ 9 0 l5.toNat) * z4) ≤ 2147483647, -2147483648 ≤ l5 + 1 ∧ l5 + 1 ≤ 2147483647]) (by decide +kernel) rfl ⟨h.1, h.2.1, h.2.2.1, trivial⟩ ?_
    replace h := h.2.2.2
    exact Runs.fg (fgE (fgE (fgU (fgE (fgE (fgE fg0)))))) h
theorem gX1_drawBelow_0 (a0 : Int) (σ : Hp) {Q : Option Int → Hp → Prop} (h : (-2147483648 ≤ (σ 25 0 2) * 1664525 ∧ (σ 25 0 2) * 1664525 ≤ 2147483647) ∧ (-2147483648 ≤ ((σ 25 0 2) * 1664525) + 1013904223 ∧ ((σ 25 0 2) * 1664525) + 1013904223 ≤ 2147483647) ∧ ((1 ≤ a0 → (a0 ≠ 0) ∧ ∀ z1 : Int, z1 = zrem (zdiv (zand (((σ 25 0 2) * 1664525) + 1013904223) 2147483647) 256) a0 → Q (some z1) (zup σ 25 0 2 (((σ 25 0 2) * 1664525) + 1013904223))) ∧ (¬ 1 ≤ a0 → Q (some 0) (zup σ 25 0 2 (((σ 25 0 2) * 1664525) + 1013904223))))) : Runs 0 mX1_drawBelow 0 [zR 25 0, zI a0] [] σ Q := by
  refine r_blk [qO (.aload_n 0), qO (.aload_n 0), qF (.getfield 59) 1 2, qC (.ldc 65) 1664525, qO .imul, qC (.ldc 66) 1013904223, qO .iadd, qF (.putfield 59) 1 2, qO (.iload_n 1), qO (.iconst 1)] (pc' := 16) (L' := [zR 25 0, zI a0]) (S' := [zI 1, zI a0]) (σ' := (zup σ 25 0 2 (((σ 25 0 2) * 1664525) + 1013904223))) (Ps := [-2147483648 ≤ (σ 25 0 2) * 1664525 ∧ (σ 25 0 2) * 1664525 ≤ 2147483647, -2147483648 ≤ ((σ 25 0 2) * 1664525) + 1013904223 ∧ ((σ 25 0 2) * 1664525) + 1013904223 ≤ 2147483647]) (by decide +kernel) rfl ⟨h.1, h.2.1, trivial⟩ ?_
  replace h := h.2.2
  refine r_icmp_ge (off := 7) (tgt := 23) (by decide +kernel) (by decide) (fun c => ?_) (fun c => ?_)
  · replace h := h.1 c
    refine r_blk [qO (.aload_n 0), qF (.getfield 59) 1 2, qC (.ldc 67) 2147483647, qO .iand, qO (.sipush 256), qO .idiv, qO (.iload_n 1), qO .irem] (pc' := 36) (L' := [zR 25 0, zI a0]) (S' := [zI (zrem (zdiv (zand (((σ 25 0 2) * 1664525) + 1013904223) 2147483647) 256) a0)]) (σ' := (zup σ 25 0 2 (((σ 25 0 2) * 1664525) + 1013904223))) (Ps := [256 ≠ 0, a0 ≠ 0]) (by decide +kernel) rfl ⟨(by decide), h.1, trivial⟩ ?_
    replace h := h.2
    generalize hz1 : zrem (zdiv (zand (((σ 25 0 2) * 1664525) + 1013904223) 2147483647) 256) a0 = z1
    replace h := h z1 hz1.symm
    exact r_ret (by decide +kernel) rfl (fun _ => h)
  · replace h := h.2 c
    refine r_blk [qO (.iconst 0), qO (.goto 16)] (pc' := 36) (L' := [zR 25 0, zI a0]) (S' := [zI 0]) (σ' := (zup σ 25 0 2 (((σ 25 0 2) * 1664525) + 1013904223))) (Ps := []) (by decide +kernel) rfl trivial ?_
    exact r_ret (by decide +kernel) rfl (fun _ => h)
