theorem gX4_trace_0 (a0 : Int) (a1 : Int) (a2 : Int) (t : Nat) (σ : Hp) {Q : Option Int → Hp → Prop} (h : Runs 3 mX8_setOut 0 [zR 17 0, zI a0, zI (-1), zI a2, zU, zU] [] σ (rV (fun σ1 => Runs 0 mX8_minuteAt 0 [zR 17 0, zI a1] [] (zup σ1 28 t 7 (-9)) (rI (fun z3 σ2 => ((¬ z3 = (-9) → Runs 0 mX8_minuteAt 0 [zR 17 0, zI a1] [] (zup (zup σ2 28 t 7 0) 30 t 0 a1) (rI (fun z5 σ4 => Runs 4 mX4_trace 71 [zR 28 t, zI a0, zU, zU, zI 1] [] (zup (zup σ4 31 t 0 z5) 32 t 0 ((zup σ4 31 t 0 z5) 31 t 0)) Q))) ∧ (z3 = (-9) → Q none σ2))))))) : Runs 4 mX4_trace 0 [zR 28 t, zI a0, zI a1, zI a2, zU] [] σ Q := by
  refine r_blk [qO (.aload_n 0), qF (.getfield 32) 4 2, qO (.iload_n 1), qO (.iconst (-1)), qO (.iload_n 3)] (pc' := 7) (L' := [zR 28 t, zI a0, zI a1, zI a2, zU]) (S' := [zI a2, zI (-1), zI a0, zR 17 0]) (σ' := σ) (Ps := []) (by decide +kernel) rfl trivial ?_
  refine r_callVV (As := [zI a0, zI (-1), zI a2]) (S := []) (Lc := [zR 17 0, zI a0, zI (-1), zI a2, zU, zU]) (d' := 3) (n := 3) (g := 17) (x := 0) (ci := 8) kX8_setOut vX8_setOut lkX4_36 (by decide +kernel) (by decide) rfl rfl (by decide) rfl rfl (Nat.le_of_ble_eq_true rfl) rfl rfl (Nat.le_of_ble_eq_true rfl) (h.monoV (fun σ1 h => ?_))
  refine r_blk [qO (.aload_n 0), qO (.bipush (-9)), qF (.putfield 42) 4 7, qO (.aload_n 0), qF (.getfield 32) 4 2, qO (.iload_n 2)] (pc' := 21) (L' := [zR 28 t, zI a0, zI a1, zI a2, zU]) (S' := [zI a1, zR 17 0]) (σ' := (zup σ1 28 t 7 (-9))) (Ps := []) (by decide +kernel) rfl trivial ?_
  refine r_callVI (As := [zI a1]) (S := []) (Lc := [zR 17 0, zI a1]) (d' := 0) (n := 1) (g := 17) (x := 0) (ci := 8) kX8_minuteAt vX8_minuteAt lkX4_46 (by decide +kernel) (by decide) rfl rfl (by decide) rfl rfl (Nat.le_of_ble_eq_true rfl) rfl rfl (Nat.le_of_ble_eq_true rfl) (h.monoI (fun z3 σ2 h => ?_))
  refine r_blk [qO (.bipush (-9))] (pc' := 26) (L' := [zR 28 t, zI a0, zI a1, zI a2, zU]) (S' := [zI (-9), zI z3]) (σ' := σ2) (Ps := []) (by decide +kernel) rfl trivial ?_
  refine r_icmp_ne (off := 4) (tgt := 30) (by decide +kernel) (by decide) (fun c => ?_) (fun c => ?_)
  · replace h := h.1 c
    refine r_blk [qO (.aload_n 0), qO (.iconst 0), qF (.putfield 42) 4 7, qO (.aload_n 0), qF (.getfield 15) 4 4, qO (.iconst 0), qO (.iload_n 2), qO .iastore, qO (.aload_n 0), qF (.getfield 18) 4 5, qO (.iconst 0), qO (.aload_n 0), qF (.getfield 32) 4 2, qO (.iload_n 2)] (pc' := 52) (L' := [zR 28 t, zI a0, zI a1, zI a2, zU]) (S' := [zI a1, zR 17 0, zI 0, zR 31 t]) (σ' := (zup (zup σ2 28 t 7 0) 30 t 0 a1)) (Ps := [0 ≤ 0 ∧ 0 < 10]) (by decide +kernel) rfl ⟨(by decide), trivial⟩ ?_
    refine r_callVI (As := [zI a1]) (S := [zI 0, zR 31 t]) (Lc := [zR 17 0, zI a1]) (d' := 0) (n := 1) (g := 17) (x := 0) (ci := 8) kX8_minuteAt vX8_minuteAt lkX4_46 (by decide +kernel) (by decide) rfl rfl (by decide) rfl rfl (Nat.le_of_ble_eq_true rfl) rfl rfl (Nat.le_of_ble_eq_true rfl) (h.monoI (fun z5 σ4 h => ?_))
    refine r_blk [qO .iastore, qO (.aload_n 0), qF (.getfield 21) 4 6, qO (.iconst 0), qO (.aload_n 0), qF (.getfield 18) 4 5, qO (.iconst 0), qO .iaload, qO .iastore, qO (.iconst 1), qO (.istore 4)] (pc' := 71) (L' := [zR 28 t, zI a0, zI a1, zI a2, zI 1]) (S' := []) (σ' := (zup (zup σ4 31 t 0 z5) 32 t 0 ((zup σ4 31 t 0 z5) 31 t 0))) (Ps := [0 ≤ 0 ∧ 0 < 10, 0 ≤ 0 ∧ 0 < 10, 0 ≤ 0 ∧ 0 < 10]) (by decide +kernel) rfl ⟨(by decide), (by decide), (by decide), trivial⟩ ?_
    exact Runs.fg (fgE (fgE (fgU (fgU (fgE fg0))))) h
  · replace h := h.2 c
    exact r_retv (by decide +kernel) rfl h
theorem gX4_trace_71 (l1 : Int) (l4 : Int) (t : Nat) (σ : Hp) {Q : Option Int → Hp → Prop} (h : ((10 ≤ l4 → Q none σ) ∧ (¬ 10 ≤ l4 → (0 ≤ σ 28 t 7 ∧ σ 28 t 7 < 10) ∧ ((σ 30 t ((σ 28 t 7).toNat) = l1 → Q none σ) ∧ (¬ σ 30 t ((σ 28 t 7).toNat) = l1 → Runs 2 mX4_traceBack 0 [zR 28 t, zU] [] σ (rI (fun z2 σ1 => ((¬ z2 = 0 → (-2147483648 ≤ l4 + 1 ∧ l4 + 1 ≤ 2147483647) ∧ Runs 4 mX4_trace 71 [zR 28 t, zI l1, zU, zU, zI (l4 + 1)] [] σ1 Q) ∧ (z2 = 0 → Q none σ1))))))))) : Runs 4 mX4_trace 71 [zR 28 t, zI l1, zU, zU, zI l4] [] σ Q := by
  refine r_blk [qO (.iload 4), qO (.bipush 10)] (pc' := 75) (L' := [zR 28 t, zI l1, zU, zU, zI l4]) (S' := [zI 10, zI l4]) (σ' := σ) (Ps := []) (by decide +kernel) rfl trivial ?_
  refine r_icmp_ge (off := 30) (tgt := 105) (by decide +kernel) (by decide) (fun c => ?_) (fun c => ?_)
  · replace h := h.1 c
    exact r_retv (by decide +kernel) rfl h
  · replace h := h.2 c
    refine r_blk [qO (.aload_n 0), qF (.getfield 15) 4 4, qO (.aload_n 0), qF (.getfield 42) 4 7, qO .iaload, qO (.iload_n 1)] (pc' := 88) (L' := [zR 28 t, zI l1, zU, zU, zI l4]) (S' := [zI l1, zI (σ 30 t ((σ 28 t 7).toNat))]) (σ' := σ) (Ps := [0 ≤ σ 28 t 7 ∧ σ 28 t 7 < 10]) (by decide +kernel) rfl ⟨h.1, trivial⟩ ?_
    replace h := h.2
    refine r_icmp_eq (off := 17) (tgt := 105) (by decide +kernel) (by decide) (fun c => ?_) (fun c => ?_)
    · replace h := h.1 c
      exact r_retv (by decide +kernel) rfl h
    · replace h := h.2 c
      refine r_blk [qO (.aload_n 0)] (pc' := 92) (L' := [zR 28 t, zI l1, zU, zU, zI l4]) (S' := [zR 28 t]) (σ' := σ) (Ps := []) (by decide +kernel) rfl trivial ?_
      refine r_callVI (As := []) (S := []) (Lc := [zR 28 t, zU]) (d' := 2) (n := 0) (g := 28) (x := t) (ci := 4) kX4_traceBack vX4_traceBack lkX4_50 (by decide +kernel) (by decide) rfl rfl (by decide) rfl rfl (Nat.le_of_ble_eq_true rfl) rfl rfl (Nat.le_of_ble_eq_true rfl) (h.monoI (fun z2 σ1 h => ?_))
      refine r_if_ne (off := 4) (tgt := 99) (by decide +kernel) (by decide) (fun c => ?_) (fun c => ?_)
      · replace h := h.1 c
        refine r_blk [qO (.iinc 4 1), qO (.goto (-31))] (pc' := 71) (L' := [zR 28 t, zI l1, zU, zU, zI (l4 + 1)]) (S' := []) (σ' := σ1) (Ps := [-2147483648 ≤ l4 + 1 ∧ l4 + 1 ≤ 2147483647]) (by decide +kernel) rfl ⟨h.1, trivial⟩ ?_
        replace h := h.2
        exact Runs.fg (fgE (fgE (fgU (fgU (fgE fg0))))) h
      · replace h := h.2 c
        exact r_retv (by decide +kernel) rfl h
theorem gX4_traceBack_0 (t : Nat) (σ : Hp) {Q : Option Int → Hp → Prop} (h : Runs 2 mX4_traceBack 2 [zR 28 t, zI 0] [] σ Q) : Runs 2 mX4_traceBack 0 [zR 28 t, zU] [] σ Q := by
  refine r_blk [qO (.iconst 0), qO (.istore_n 1)] (pc' := 2) (L' := [zR 28 t, zI 0]) (S' := []) (σ' := σ) (Ps := []) (by decide +kernel) rfl trivial ?_
  exact Runs.fg (fgE (fgE fg0)) h
theorem gX4_traceBack_2 (l1 : Int) (t : Nat) (σ : Hp) {Q : Option Int → Hp → Prop} (h : ((σ 1 0 1 ≤ l1 → Q (some 0) σ) ∧ (¬ σ 1 0 1 ≤ l1 → (0 ≤ l1 ∧ l1 < 14) ∧ (0 ≤ σ 28 t 7 ∧ σ 28 t 7 < 10) ∧ ((¬ σ 3 0 l1.toNat = σ 30 t ((σ 28 t 7).toNat) → Runs 2 mX4_traceBack 54 [zR 28 t, zI l1] [] σ Q) ∧ (σ 3 0 l1.toNat = σ 30 t ((σ 28 t 7).toNat) → (0 ≤ l1 ∧ l1 < 14) ∧ Runs 1 mX4_cameBy 0 [zR 28 t, zI l1, zI 0, zI (σ 2 0 l1.toNat), zU, zU] [] σ (rI (fun z2 σ1 => ((z2 = 0 → Runs 2 mX4_traceBack 54 [zR 28 t, zI l1] [] σ1 Q) ∧ (¬ z2 = 0 → Q (some 1) σ1))))))))) : Runs 2 mX4_traceBack 2 [zR 28 t, zI l1] [] σ Q := by
  refine r_blk [qO (.iload_n 1), qO (.aload_n 0), qF (.getfield 24) 4 0, qF (.getfield 54) 6 1] (pc' := 10) (L' := [zR 28 t, zI l1]) (S' := [zI (σ 1 0 1), zI l1]) (σ' := σ) (Ps := []) (by decide +kernel) rfl trivial ?_
  refine r_icmp_ge (off := 91) (tgt := 101) (by decide +kernel) (by decide) (fun c => ?_) (fun c => ?_)
  · replace h := h.1 c
    refine r_blk [qO (.iconst 0)] (pc' := 102) (L' := [zR 28 t, zI l1]) (S' := [zI 0]) (σ' := σ) (Ps := []) (by decide +kernel) rfl trivial ?_
    exact r_retz (by decide +kernel) rfl (by decide) h
  · replace h := h.2 c
    refine r_blk [qO (.aload_n 0), qF (.getfield 24) 4 0, qF (.getfield 58) 6 8, qO (.iload_n 1), qO .iaload, qO (.aload_n 0), qF (.getfield 15) 4 4, qO (.aload_n 0), qF (.getfield 42) 4 7, qO .iaload] (pc' := 31) (L' := [zR 28 t, zI l1]) (S' := [zI (σ 30 t ((σ 28 t 7).toNat)), zI (σ 3 0 l1.toNat)]) (σ' := σ) (Ps := [0 ≤ l1 ∧ l1 < 14, 0 ≤ σ 28 t 7 ∧ σ 28 t 7 < 10]) (by decide +kernel) rfl ⟨h.1, h.2.1, trivial⟩ ?_
    replace h := h.2.2
    refine r_icmp_ne (off := 23) (tgt := 54) (by decide +kernel) (by decide) (fun c => ?_) (fun c => ?_)
    · replace h := h.1 c
      exact Runs.fg (fgE (fgE fg0)) h
    · replace h := h.2 c
      refine r_blk [qO (.aload_n 0), qO (.iload_n 1), qO (.iconst 0), qO (.aload_n 0), qF (.getfield 24) 4 0, qF (.getfield 61) 6 7, qO (.iload_n 1), qO .iaload] (pc' := 46) (L' := [zR 28 t, zI l1]) (S' := [zI (σ 2 0 l1.toNat), zI 0, zI l1, zR 28 t]) (σ' := σ) (Ps := [0 ≤ l1 ∧ l1 < 14]) (by decide +kernel) rfl ⟨h.1, trivial⟩ ?_
      replace h := h.2
      refine r_callVI (As := [zI l1, zI 0, zI (σ 2 0 l1.toNat)]) (S := []) (Lc := [zR 28 t, zI l1, zI 0, zI (σ 2 0 l1.toNat), zU, zU]) (d' := 1) (n := 3) (g := 28) (x := t) (ci := 4) kX4_cameBy vX4_cameBy lkX4_64 (by decide +kernel) (by decide) rfl rfl (by decide) rfl rfl (Nat.le_of_ble_eq_true rfl) rfl rfl (Nat.le_of_ble_eq_true rfl) (h.monoI (fun z2 σ1 h => ?_))
      refine r_if_eq (off := 5) (tgt := 54) (by decide +kernel) (by decide) (fun c => ?_) (fun c => ?_)
      · replace h := h.1 c
        exact Runs.fg (fgE (fgE fg0)) h
      · replace h := h.2 c
        refine r_blk [qO (.iconst 1)] (pc' := 53) (L' := [zR 28 t, zI l1]) (S' := [zI 1]) (σ' := σ1) (Ps := []) (by decide +kernel) rfl trivial ?_
        exact r_retz (by decide +kernel) rfl (by decide) h
theorem gX4_traceBack_54 (l1 : Int) (t : Nat) (σ : Hp) {Q : Option Int → Hp → Prop} (h : (0 ≤ l1 ∧ l1 < 14) ∧ (0 ≤ σ 28 t 7 ∧ σ 28 t 7 < 10) ∧ ((¬ σ 2 0 l1.toNat = σ 30 t ((σ 28 t 7).toNat) → (-2147483648 ≤ l1 + 1 ∧ l1 + 1 ≤ 2147483647) ∧ Runs 2 mX4_traceBack 2 [zR 28 t, zI (l1 + 1)] [] σ Q) ∧ (σ 2 0 l1.toNat = σ 30 t ((σ 28 t 7).toNat) → (0 ≤ l1 ∧ l1 < 14) ∧ Runs 1 mX4_cameBy 0 [zR 28 t, zI l1, zI 1, zI (σ 3 0 l1.toNat), zU, zU] [] σ (rI (fun z2 σ1 => ((z2 = 0 → (-2147483648 ≤ l1 + 1 ∧ l1 + 1 ≤ 2147483647) ∧ Runs 2 mX4_traceBack 2 [zR 28 t, zI (l1 + 1)] [] σ1 Q) ∧ (¬ z2 = 0 → Q (some 1) σ1))))))) : Runs 2 mX4_traceBack 54 [zR 28 t, zI l1] [] σ Q := by
  refine r_blk [qO (.aload_n 0), qF (.getfield 24) 4 0, qF (.getfield 61) 6 7, qO (.iload_n 1), qO .iaload, qO (.aload_n 0), qF (.getfield 15) 4 4, qO (.aload_n 0), qF (.getfield 42) 4 7, qO .iaload] (pc' := 72) (L' := [zR 28 t, zI l1]) (S' := [zI (σ 30 t ((σ 28 t 7).toNat)), zI (σ 2 0 l1.toNat)]) (σ' := σ) (Ps := [0 ≤ l1 ∧ l1 < 14, 0 ≤ σ 28 t 7 ∧ σ 28 t 7 < 10]) (by decide +kernel) rfl ⟨h.1, h.2.1, trivial⟩ ?_
  replace h := h.2.2
  refine r_icmp_ne (off := 23) (tgt := 95) (by decide +kernel) (by decide) (fun c => ?_) (fun c => ?_)
  · replace h := h.1 c
    refine r_blk [qO (.iinc 1 1), qO (.goto (-96))] (pc' := 2) (L' := [zR 28 t, zI (l1 + 1)]) (S' := []) (σ' := σ) (Ps := [-2147483648 ≤ l1 + 1 ∧ l1 + 1 ≤ 2147483647]) (by decide +kernel) rfl ⟨h.1, trivial⟩ ?_
    replace h := h.2
    exact Runs.fg (fgE (fgE fg0)) h
  · replace h := h.2 c
    refine r_blk [qO (.aload_n 0), qO (.iload_n 1), qO (.iconst 1), qO (.aload_n 0), qF (.getfield 24) 4 0, qF (.getfield 58) 6 8, qO (.iload_n 1), qO .iaload] (pc' := 87) (L' := [zR 28 t, zI l1]) (S' := [zI (σ 3 0 l1.toNat), zI 1, zI l1, zR 28 t]) (σ' := σ) (Ps := [0 ≤ l1 ∧ l1 < 14]) (by decide +kernel) rfl ⟨h.1, trivial⟩ ?_
    replace h := h.2
    refine r_callVI (As := [zI l1, zI 1, zI (σ 3 0 l1.toNat)]) (S := []) (Lc := [zR 28 t, zI l1, zI 1, zI (σ 3 0 l1.toNat), zU, zU]) (d' := 1) (n := 3) (g := 28) (x := t) (ci := 4) kX4_cameBy vX4_cameBy lkX4_64 (by decide +kernel) (by decide) rfl rfl (by decide) rfl rfl (Nat.le_of_ble_eq_true rfl) rfl rfl (Nat.le_of_ble_eq_true rfl) (h.monoI (fun z2 σ1 h => ?_))
    refine r_if_eq (off := 5) (tgt := 95) (by decide +kernel) (by decide) (fun c => ?_) (fun c => ?_)
    · replace h := h.1 c
      refine r_blk [qO (.iinc 1 1), qO (.goto (-96))] (pc' := 2) (L' := [zR 28 t, zI (l1 + 1)]) (S' := []) (σ' := σ1) (Ps := [-2147483648 ≤ l1 + 1 ∧ l1 + 1 ≤ 2147483647]) (by decide +kernel) rfl ⟨h.1, trivial⟩ ?_
      replace h := h.2
      exact Runs.fg (fgE (fgE fg0)) h
    · replace h := h.2 c
      refine r_blk [qO (.iconst 1)] (pc' := 94) (L' := [zR 28 t, zI l1]) (S' := [zI 1]) (σ' := σ1) (Ps := []) (by decide +kernel) rfl trivial ?_
      exact r_retz (by decide +kernel) rfl (by decide) h
theorem gX4_cameBy_0 (a0 : Int) (a1 : Int) (a2 : Int) (t : Nat) (σ : Hp) {Q : Option Int → Hp → Prop} (h : Runs 0 mX8_minuteAt 0 [zR 17 0, zI a2] [] σ (rI (fun z2 σ1 => ((z2 = (-9) → Q (some 0) σ1) ∧ (¬ z2 = (-9) → (-2147483648 ≤ (σ1 28 t 7) + 1 ∧ (σ1 28 t 7) + 1 ≤ 2147483647) ∧ (((σ1 28 t 7) + 1 < 10 → Runs 0 mX7_standAt 0 [zR 16 0, zI z2, zU, zU] [] σ1 (rV (fun σ3 => Runs 0 mX7_entryOf 0 [zR 16 0, zI a0, zI a1] [] σ3 (rI (fun z5 σ4 => ((z5 = (-9) → Q (some 0) σ4) ∧ (¬ z5 = (-9) → (0 ≤ a0 ∧ a0 < 14) ∧ (-2147483648 ≤ z5 + (σ4 4 0 a0.toNat) ∧ z5 + (σ4 4 0 a0.toNat) ≤ 2147483647) ∧ (0 ≤ σ4 28 t 7 ∧ σ4 28 t 7 < 10) ∧ ((z5 + (σ4 4 0 a0.toNat) = σ4 31 t ((σ4 28 t 7).toNat) → (0 ≤ σ4 28 t 7 ∧ σ4 28 t 7 < 10) ∧ (-2147483648 ≤ (σ4 28 t 7) + 1 ∧ (σ4 28 t 7) + 1 ≤ 2147483647) ∧ (0 ≤ (zup (zup σ4 29 t ((σ4 28 t 7).toNat) a0) 28 t 7 ((σ4 28 t 7) + 1)) 28 t 7 ∧ (zup (zup σ4 29 t ((σ4 28 t 7).toNat) a0) 28 t 7 ((σ4 28 t 7) + 1)) 28 t 7 < 10) ∧ (0 ≤ (zup (zup σ4 29 t ((σ4 28 t 7).toNat) a0) 28 t 7 ((σ4 28 t 7) + 1)) 28 t 7 ∧ (zup (zup σ4 29 t ((σ4 28 t 7).toNat) a0) 28 t 7 ((σ4 28 t 7) + 1)) 28 t 7 < 10) ∧ (0 ≤ (zup (zup σ4 29 t ((σ4 28 t 7).toNat) a0) 28 t 7 ((σ4 28 t 7) + 1)) 28 t 7 ∧ (zup (zup σ4 29 t ((σ4 28 t 7).toNat) a0) 28 t 7 ((σ4 28 t 7) + 1)) 28 t 7 < 10) ∧ ∀ σ6 : Hp, σ6 = (zup (zup (zup (zup (zup σ4 29 t ((σ4 28 t 7).toNat) a0) 28 t 7 ((σ4 28 t 7) + 1)) 30 t (((zup (zup σ4 29 t ((σ4 28 t 7).toNat) a0) 28 t 7 ((σ4 28 t 7) + 1)) 28 t 7).toNat) a2) 31 t (((zup (zup σ4 29 t ((σ4 28 t 7).toNat) a0) 28 t 7 ((σ4 28 t 7) + 1)) 28 t 7).toNat) z2) 32 t (((zup (zup σ4 29 t ((σ4 28 t 7).toNat) a0) 28 t 7 ((σ4 28 t 7) + 1)) 28 t 7).toNat) z5) → Q (some 1) σ6) ∧ (¬ z5 + (σ4 4 0 a0.toNat) = σ4 31 t ((σ4 28 t 7).toNat) → Q (some 0) σ4))))))))) ∧ (¬ (σ1 28 t 7) + 1 < 10 → Q (some 0) σ1))))))) : Runs 1 mX4_cameBy 0 [zR 28 t, zI a0, zI a1, zI a2, zU, zU] [] σ Q := by
  refine r_blk [qO (.aload_n 0), qF (.getfield 32) 4 2, qO (.iload_n 3)] (pc' := 5) (L' := [zR 28 t, zI a0, zI a1, zI a2, zU, zU]) (S' := [zI a2, zR 17 0]) (σ' := σ) (Ps := []) (by decide +kernel) rfl trivial ?_
  refine r_callVI (As := [zI a2]) (S := []) (Lc := [zR 17 0, zI a2]) (d' := 0) (n := 1) (g := 17) (x := 0) (ci := 8) kX8_minuteAt vX8_minuteAt lkX4_46 (by decide +kernel) (by decide) rfl rfl (by decide) rfl rfl (Nat.le_of_ble_eq_true rfl) rfl rfl (Nat.le_of_ble_eq_true rfl) (h.monoI (fun z2 σ1 h => ?_))
  refine r_blk [qO (.istore 4), qO (.iload 4), qO (.bipush (-9))] (pc' := 14) (L' := [zR 28 t, zI a0, zI a1, zI a2, zI z2, zU]) (S' := [zI (-9), zI z2]) (σ' := σ1) (Ps := []) (by decide +kernel) rfl trivial ?_
  refine r_icmp_eq (off := 14) (tgt := 28) (by decide +kernel) (by decide) (fun c => ?_) (fun c => ?_)
  · replace h := h.1 c
    refine r_blk [qO (.iconst 0)] (pc' := 29) (L' := [zR 28 t, zI a0, zI a1, zI a2, zI z2, zU]) (S' := [zI 0]) (σ' := σ1) (Ps := []) (by decide +kernel) rfl trivial ?_
    exact r_retz (by decide +kernel) rfl (by decide) h
  · replace h := h.2 c
    refine r_blk [qO (.aload_n 0), qF (.getfield 42) 4 7, qO (.iconst 1), qO .iadd, qO (.bipush 10)] (pc' := 25) (L' := [zR 28 t, zI a0, zI a1, zI a2, zI z2, zU]) (S' := [zI 10, zI ((σ1 28 t 7) + 1)]) (σ' := σ1) (Ps := [-2147483648 ≤ (σ1 28 t 7) + 1 ∧ (σ1 28 t 7) + 1 ≤ 2147483647]) (by decide +kernel) rfl ⟨h.1, trivial⟩ ?_
    replace h := h.2
    refine r_icmp_lt (off := 5) (tgt := 30) (by decide +kernel) (by decide) (fun c => ?_) (fun c => ?_)
    · replace h := h.1 c
      refine r_blk [qO (.aload_n 0), qF (.getfield 28) 4 1, qO (.iload 4)] (pc' := 36) (L' := [zR 28 t, zI a0, zI a1, zI a2, zI z2, zU]) (S' := [zI z2, zR 16 0]) (σ' := σ1) (Ps := []) (by decide +kernel) rfl trivial ?_
      refine r_callVV (As := [zI z2]) (S := []) (Lc := [zR 16 0, zI z2, zU, zU]) (d' := 0) (n := 1) (g := 16) (x := 0) (ci := 7) kX7_standAt vX7_standAt lkX4_68 (by decide +kernel) (by decide) rfl rfl (by decide) rfl rfl (Nat.le_of_ble_eq_true rfl) rfl rfl (Nat.le_of_ble_eq_true rfl) (h.monoV (fun σ3 h => ?_))
      refine r_blk [qO (.aload_n 0), qF (.getfield 28) 4 1, qO (.iload_n 1), qO (.iload_n 2)] (pc' := 45) (L' := [zR 28 t, zI a0, zI a1, zI a2, zI z2, zU]) (S' := [zI a1, zI a0, zR 16 0]) (σ' := σ3) (Ps := []) (by decide +kernel) rfl trivial ?_
      refine r_callVI (As := [zI a0, zI a1]) (S := []) (Lc := [zR 16 0, zI a0, zI a1]) (d' := 0) (n := 2) (g := 16) (x := 0) (ci := 7) kX7_entryOf vX7_entryOf lkX4_74 (by decide +kernel) (by decide) rfl rfl (by decide) rfl rfl (Nat.le_of_ble_eq_true rfl) rfl rfl (Nat.le_of_ble_eq_true rfl) (h.monoI (fun z5 σ4 h => ?_))
      refine r_blk [qO (.istore 5), qO (.iload 5), qO (.bipush (-9))] (pc' := 54) (L' := [zR 28 t, zI a0, zI a1, zI a2, zI z2, zI z5]) (S' := [zI (-9), zI z5]) (σ' := σ4) (Ps := []) (by decide +kernel) rfl trivial ?_
      refine r_icmp_eq (off := 27) (tgt := 81) (by decide +kernel) (by decide) (fun c => ?_) (fun c => ?_)
      · replace h := h.1 c
        refine r_blk [qO (.iconst 0)] (pc' := 82) (L' := [zR 28 t, zI a0, zI a1, zI a2, zI z2, zI z5]) (S' := [zI 0]) (σ' := σ4) (Ps := []) (by decide +kernel) rfl trivial ?_
        exact r_retz (by decide +kernel) rfl (by decide) h
      · replace h := h.2 c
        refine r_blk [qO (.iload 5), qO (.aload_n 0), qF (.getfield 24) 4 0, qF (.getfield 78) 6 9, qO (.iload_n 1), qO .iaload, qO .iadd, qO (.aload_n 0), qF (.getfield 18) 4 5, qO (.aload_n 0), qF (.getfield 42) 4 7, qO .iaload] (pc' := 78) (L' := [zR 28 t, zI a0, zI a1, zI a2, zI z2, zI z5]) (S' := [zI (σ4 31 t ((σ4 28 t 7).toNat)), zI (z5 + (σ4 4 0 a0.toNat))]) (σ' := σ4) (Ps := [0 ≤ a0 ∧ a0 < 14, -2147483648 ≤ z5 + (σ4 4 0 a0.toNat) ∧ z5 + (σ4 4 0 a0.toNat) ≤ 2147483647, 0 ≤ σ4 28 t 7 ∧ σ4 28 t 7 < 10]) (by decide +kernel) rfl ⟨h.1, h.2.1, h.2.2.1, trivial⟩ ?_
        replace h := h.2.2.2
        refine r_icmp_eq (off := 5) (tgt := 83) (by decide +kernel) (by decide) (fun c => ?_) (fun c => ?_)
        · replace h := h.1 c
          refine r_blk [qO (.aload_n 0), qF (.getfield 9) 4 3, qO (.aload_n 0), qF (.getfield 42) 4 7, qO (.iload_n 1), qO .iastore, qO (.aload_n 0), qO .dup, qF (.getfield 42) 4 7, qO (.iconst 1), qO .iadd, qF (.putfield 42) 4 7, qO (.aload_n 0), qF (.getfield 15) 4 4, qO (.aload_n 0), qF (.getfield 42) 4 7, qO (.iload_n 3), qO .iastore, qO (.aload_n 0), qF (.getfield 18) 4 5, qO (.aload_n 0), qF (.getfield 42) 4 7, qO (.iload 4), qO .iastore, qO (.aload_n 0), qF (.getfield 21) 4 6, qO (.aload_n 0), qF (.getfield 42) 4 7, qO (.iload 5), qO .iastore, qO (.iconst 1)] (pc' := 136) (L' := [zR 28 t, zI a0, zI a1, zI a2, zI z2, zI z5]) (S' := [zI 1]) (σ' := (zup (zup (zup (zup (zup σ4 29 t ((σ4 28 t 7).toNat) a0) 28 t 7 ((σ4 28 t 7) + 1)) 30 t (((zup (zup σ4 29 t ((σ4 28 t 7).toNat) a0) 28 t 7 ((σ4 28 t 7) + 1)) 28 t 7).toNat) a2) 31 t (((zup (zup σ4 29 t ((σ4 28 t 7).toNat) a0) 28 t 7 ((σ4 28 t 7) + 1)) 28 t 7).toNat) z2) 32 t (((zup (zup σ4 29 t ((σ4 28 t 7).toNat) a0) 28 t 7 ((σ4 28 t 7) + 1)) 28 t 7).toNat) z5)) (Ps := [0 ≤ σ4 28 t 7 ∧ σ4 28 t 7 < 10, -2147483648 ≤ (σ4 28 t 7) + 1 ∧ (σ4 28 t 7) + 1 ≤ 2147483647, 0 ≤ (zup (zup σ4 29 t ((σ4 28 t 7).toNat) a0) 28 t 7 ((σ4 28 t 7) + 1)) 28 t 7 ∧ (zup (zup σ4 29 t ((σ4 28 t 7).toNat) a0) 28 t 7 ((σ4 28 t 7) + 1)) 28 t 7 < 10, 0 ≤ (zup (zup σ4 29 t ((σ4 28 t 7).toNat) a0) 28 t 7 ((σ4 28 t 7) + 1)) 28 t 7 ∧ (zup (zup σ4 29 t ((σ4 28 t 7).toNat) a0) 28 t 7 ((σ4 28 t 7) + 1)) 28 t 7 < 10, 0 ≤ (zup (zup σ4 29 t ((σ4 28 t 7).toNat) a0) 28 t 7 ((σ4 28 t 7) + 1)) 28 t 7 ∧ (zup (zup σ4 29 t ((σ4 28 t 7).toNat) a0) 28 t 7 ((σ4 28 t 7) + 1)) 28 t 7 < 10]) (by decide +kernel) rfl ⟨h.1, h.2.1, h.2.2.1, h.2.2.2.1, h.2.2.2.2.1, trivial⟩ ?_
          replace h := h.2.2.2.2.2
          generalize hσ6 : (zup (zup (zup (zup (zup σ4 29 t ((σ4 28 t 7).toNat) a0) 28 t 7 ((σ4 28 t 7) + 1)) 30 t (((zup (zup σ4 29 t ((σ4 28 t 7).toNat) a0) 28 t 7 ((σ4 28 t 7) + 1)) 28 t 7).toNat) a2) 31 t (((zup (zup σ4 29 t ((σ4 28 t 7).toNat) a0) 28 t 7 ((σ4 28 t 7) + 1)) 28 t 7).toNat) z2) 32 t (((zup (zup σ4 29 t ((σ4 28 t 7).toNat) a0) 28 t 7 ((σ4 28 t 7) + 1)) 28 t 7).toNat) z5) = σ6
          replace h := h σ6 hσ6.symm
          exact r_retz (by decide +kernel) rfl (by decide) h
        · replace h := h.2 c
          refine r_blk [qO (.iconst 0)] (pc' := 82) (L' := [zR 28 t, zI a0, zI a1, zI a2, zI z2, zI z5]) (S' := [zI 0]) (σ' := σ4) (Ps := []) (by decide +kernel) rfl trivial ?_
          exact r_retz (by decide +kernel) rfl (by decide) h
    · replace h := h.2 c
      refine r_blk [qO (.iconst 0)] (pc' := 29) (L' := [zR 28 t, zI a0, zI a1, zI a2, zI z2, zU]) (S' := [zI 0]) (σ' := σ1) (Ps := []) (by decide +kernel) rfl trivial ?_
      exact r_retz (by decide +kernel) rfl (by decide) h
theorem gX4_streetAt_0 (a0 : Int) (t : Nat) (σ : Hp) {Q : Option Int → Hp → Prop} (h : ((a0 < 0 → Q (some (-9)) σ) ∧ (¬ a0 < 0 → ((σ 28 t 7 ≤ a0 → Q (some (-9)) σ) ∧ (¬ σ 28 t 7 ≤ a0 → (-2147483648 ≤ (σ 28 t 7) - 1 ∧ (σ 28 t 7) - 1 ≤ 2147483647) ∧ (-2147483648 ≤ ((σ 28 t 7) - 1) - a0 ∧ ((σ 28 t 7) - 1) - a0 ≤ 2147483647) ∧ (0 ≤ ((σ 28 t 7) - 1) - a0 ∧ ((σ 28 t 7) - 1) - a0 < 10) ∧ Q (some (σ 29 t ((((σ 28 t 7) - 1) - a0).toNat))) σ))))) : Runs 0 mX4_streetAt 0 [zR 28 t, zI a0] [] σ Q := by
  refine r_blk [qO (.iload_n 1)] (pc' := 1) (L' := [zR 28 t, zI a0]) (S' := [zI a0]) (σ' := σ) (Ps := []) (by decide +kernel) rfl trivial ?_
  refine r_if_lt (off := 27) (tgt := 28) (by decide +kernel) (by decide) (fun c => ?_) (fun c => ?_)
  · replace h := h.1 c
    refine r_blk [qO (.bipush (-9))] (pc' := 30) (L' := [zR 28 t, zI a0]) (S' := [zI (-9)]) (σ' := σ) (Ps := []) (by decide +kernel) rfl trivial ?_
    exact r_ret (by decide +kernel) rfl (fun _ => h)
  · replace h := h.2 c
    refine r_blk [qO (.iload_n 1), qO (.aload_n 0), qF (.getfield 42) 4 7] (pc' := 9) (L' := [zR 28 t, zI a0]) (S' := [zI (σ 28 t 7), zI a0]) (σ' := σ) (Ps := []) (by decide +kernel) rfl trivial ?_
    refine r_icmp_ge (off := 19) (tgt := 28) (by decide +kernel) (by decide) (fun c => ?_) (fun c => ?_)
    · replace h := h.1 c
      refine r_blk [qO (.bipush (-9))] (pc' := 30) (L' := [zR 28 t, zI a0]) (S' := [zI (-9)]) (σ' := σ) (Ps := []) (by decide +kernel) rfl trivial ?_
      exact r_ret (by decide +kernel) rfl (fun _ => h)
    · replace h := h.2 c
      refine r_blk [qO (.aload_n 0), qF (.getfield 9) 4 3, qO (.aload_n 0), qF (.getfield 42) 4 7, qO (.iconst 1), qO .isub, qO (.iload_n 1), qO .isub, qO .iaload, qO (.goto 5)] (pc' := 30) (L' := [zR 28 t, zI a0]) (S' := [zI (σ 29 t ((((σ 28 t 7) - 1) - a0).toNat))]) (σ' := σ) (Ps := [-2147483648 ≤ (σ 28 t 7) - 1 ∧ (σ 28 t 7) - 1 ≤ 2147483647, -2147483648 ≤ ((σ 28 t 7) - 1) - a0 ∧ ((σ 28 t 7) - 1) - a0 ≤ 2147483647, 0 ≤ ((σ 28 t 7) - 1) - a0 ∧ ((σ 28 t 7) - 1) - a0 < 10]) (by decide +kernel) rfl ⟨h.1, h.2.1, h.2.2.1, trivial⟩ ?_
      replace h := h.2.2.2
      exact r_ret (by decide +kernel) rfl (fun _ => h)
theorem gX4_minutesWaited_0 (t : Nat) (σ : Hp) {Q : Option Int → Hp → Prop} (h : ((¬ σ 28 t 7 = (-9) → Runs 0 mX4_minutesWaited 16 [zR 28 t, zI 0, zI 0] [] σ Q) ∧ (σ 28 t 7 = (-9) → Q (some (-9)) σ))) : Runs 0 mX4_minutesWaited 0 [zR 28 t, zU, zU] [] σ Q := by
  refine r_blk [qO (.aload_n 0), qF (.getfield 42) 4 7, qO (.bipush (-9))] (pc' := 6) (L' := [zR 28 t, zU, zU]) (S' := [zI (-9), zI (σ 28 t 7)]) (σ' := σ) (Ps := []) (by decide +kernel) rfl trivial ?_
  refine r_icmp_ne (off := 6) (tgt := 12) (by decide +kernel) (by decide) (fun c => ?_) (fun c => ?_)
  · replace h := h.1 c
    refine r_blk [qO (.iconst 0), qO (.istore_n 1), qO (.iconst 0), qO (.istore_n 2)] (pc' := 16) (L' := [zR 28 t, zI 0, zI 0]) (S' := []) (σ' := σ) (Ps := []) (by decide +kernel) rfl trivial ?_
    exact Runs.fg (fgE (fgE (fgE fg0))) h
  · replace h := h.2 c
    refine r_blk [qO (.bipush (-9))] (pc' := 11) (L' := [zR 28 t, zU, zU]) (S' := [zI (-9)]) (σ' := σ) (Ps := []) (by decide +kernel) rfl trivial ?_
    exact r_ret (by decide +kernel) rfl (fun _ => h)
theorem gX4_minutesWaited_16 (l1 : Int) (l2 : Int) (t : Nat) (σ : Hp) {Q : Option Int → Hp → Prop} (h : ((σ 28 t 7 < l2 → Q (some l1) σ) ∧ (¬ σ 28 t 7 < l2 → (0 ≤ l2 ∧ l2 < 10) ∧ (0 ≤ l2 ∧ l2 < 10) ∧ (-2147483648 ≤ (σ 32 t l2.toNat) - (σ 31 t l2.toNat) ∧ (σ 32 t l2.toNat) - (σ 31 t l2.toNat) ≤ 2147483647) ∧ (-2147483648 ≤ l1 + ((σ 32 t l2.toNat) - (σ 31 t l2.toNat)) ∧ l1 + ((σ 32 t l2.toNat) - (σ 31 t l2.toNat)) ≤ 2147483647) ∧ (-2147483648 ≤ l2 + 1 ∧ l2 + 1 ≤ 2147483647) ∧ Runs 0 mX4_minutesWaited 16 [zR 28 t, zI (l1 + ((σ 32 t l2.toNat) - (σ 31 t l2.toNat))), zI (l2 + 1)] [] σ Q))) : Runs 0 mX4_minutesWaited 16 [zR 28 t, zI l1, zI l2] [] σ Q := by
  refine r_blk [qO (.iload_n 2), qO (.aload_n 0), qF (.getfield 42) 4 7] (pc' := 21) (L' := [zR 28 t, zI l1, zI l2]) (S' := [zI (σ 28 t 7), zI l2]) (σ' := σ) (Ps := []) (by decide +kernel) rfl trivial ?_
  refine r_icmp_gt (off := 25) (tgt := 46) (by decide +kernel) (by decide) (fun c => ?_) (fun c => ?_)
  · replace h := h.1 c
    refine r_blk [qO (.iload_n 1)] (pc' := 47) (L' := [zR 28 t, zI l1, zI l2]) (S' := [zI l1]) (σ' := σ) (Ps := []) (by decide +kernel) rfl trivial ?_
    exact r_ret (by decide +kernel) rfl (fun _ => h)
  · replace h := h.2 c
    refine r_blk [qO (.iload_n 1), qO (.aload_n 0), qF (.getfield 21) 4 6, qO (.iload_n 2), qO .iaload, qO (.aload_n 0), qF (.getfield 18) 4 5, qO (.iload_n 2), qO .iaload, qO .isub, qO .iadd, qO (.istore_n 1), qO (.iinc 2 1), qO (.goto (-27))] (pc' := 16) (L' := [zR 28 t, zI (l1 + ((σ 32 t l2.toNat) - (σ 31 t l2.toNat))), zI (l2 + 1)]) (S' := []) (σ' := σ) (Ps := [0 ≤ l2 ∧ l2 < 10, 0 ≤ l2 ∧ l2 < 10, -2147483648 ≤ (σ 32 t l2.toNat) - (σ 31 t l2.toNat) ∧ (σ 32 t l2.toNat) - (σ 31 t l2.toNat) ≤ 2147483647, -2147483648 ≤ l1 + ((σ 32 t l2.toNat) - (σ 31 t l2.toNat)) ∧ l1 + ((σ 32 t l2.toNat) - (σ 31 t l2.toNat)) ≤ 2147483647, -2147483648 ≤ l2 + 1 ∧ l2 + 1 ≤ 2147483647]) (by decide +kernel) rfl ⟨h.1, h.2.1, h.2.2.1, h.2.2.2.1, h.2.2.2.2.1, trivial⟩ ?_
    replace h := h.2.2.2.2.2
    exact Runs.fg (fgE (fgE (fgE fg0))) h
theorem gX4_crosses_0 (t : Nat) (u : Nat) (σ : Hp) {Q : Option Int → Hp → Prop} (h : Runs 0 mX4_crosses 2 [zR 28 t, zR 28 u, zI 0, zU] [] σ Q) : Runs 0 mX4_crosses 0 [zR 28 t, zR 28 u, zU, zU] [] σ Q := by
  refine r_blk [qO (.iconst 0), qO (.istore_n 2)] (pc' := 2) (L' := [zR 28 t, zR 28 u, zI 0, zU]) (S' := []) (σ' := σ) (Ps := []) (by decide +kernel) rfl trivial ?_
  exact Runs.fg (fgE (fgE (fgE (fgU fg0)))) h
theorem gX4_crosses_2 (l2 : Int) (t : Nat) (u : Nat) (σ : Hp) {Q : Option Int → Hp → Prop} (h : ((σ 28 t 7 < l2 → Q (some 0) σ) ∧ (¬ σ 28 t 7 < l2 → Runs 0 mX4_crosses 12 [zR 28 t, zR 28 u, zI l2, zI 0] [] σ Q))) : Runs 0 mX4_crosses 2 [zR 28 t, zR 28 u, zI l2, zU] [] σ Q := by
  refine r_blk [qO (.iload_n 2), qO (.aload_n 0), qF (.getfield 42) 4 7] (pc' := 7) (L' := [zR 28 t, zR 28 u, zI l2, zU]) (S' := [zI (σ 28 t 7), zI l2]) (σ' := σ) (Ps := []) (by decide +kernel) rfl trivial ?_
  refine r_icmp_gt (off := 72) (tgt := 79) (by decide +kernel) (by decide) (fun c => ?_) (fun c => ?_)
  · replace h := h.1 c
    refine r_blk [qO (.iconst 0)] (pc' := 80) (L' := [zR 28 t, zR 28 u, zI l2, zU]) (S' := [zI 0]) (σ' := σ) (Ps := []) (by decide +kernel) rfl trivial ?_
    exact r_retz (by decide +kernel) rfl (by decide) h
  · replace h := h.2 c
    refine r_blk [qO (.iconst 0), qO (.istore_n 3)] (pc' := 12) (L' := [zR 28 t, zR 28 u, zI l2, zI 0]) (S' := []) (σ' := σ) (Ps := []) (by decide +kernel) rfl trivial ?_
    exact Runs.fg (fgE (fgE (fgE (fgE fg0)))) h
theorem gX4_crosses_12 (l2 : Int) (l3 : Int) (t : Nat) (u : Nat) (σ : Hp) {Q : Option Int → Hp → Prop} (h : ((σ 28 u 7 < l3 → (-2147483648 ≤ l2 + 1 ∧ l2 + 1 ≤ 2147483647) ∧ Runs 0 mX4_crosses 2 [zR 28 t, zR 28 u, zI (l2 + 1), zU] [] σ Q) ∧ (¬ σ 28 u 7 < l3 → (0 ≤ l2 ∧ l2 < 10) ∧ (0 ≤ l3 ∧ l3 < 10) ∧ ((¬ σ 30 t l2.toNat = σ 30 u l3.toNat → (-2147483648 ≤ l3 + 1 ∧ l3 + 1 ≤ 2147483647) ∧ Runs 0 mX4_crosses 12 [zR 28 t, zR 28 u, zI l2, zI (l3 + 1)] [] σ Q) ∧ (σ 30 t l2.toNat = σ 30 u l3.toNat → (0 ≤ l2 ∧ l2 < 10) ∧ (0 ≤ l3 ∧ l3 < 10) ∧ ((σ 32 u l3.toNat < σ 31 t l2.toNat → (-2147483648 ≤ l3 + 1 ∧ l3 + 1 ≤ 2147483647) ∧ Runs 0 mX4_crosses 12 [zR 28 t, zR 28 u, zI l2, zI (l3 + 1)] [] σ Q) ∧ (¬ σ 32 u l3.toNat < σ 31 t l2.toNat → (0 ≤ l3 ∧ l3 < 10) ∧ (0 ≤ l2 ∧ l2 < 10) ∧ ((σ 32 t l2.toNat < σ 31 u l3.toNat → (-2147483648 ≤ l3 + 1 ∧ l3 + 1 ≤ 2147483647) ∧ Runs 0 mX4_crosses 12 [zR 28 t, zR 28 u, zI l2, zI (l3 + 1)] [] σ Q) ∧ (¬ σ 32 t l2.toNat < σ 31 u l3.toNat → Q (some 1) σ))))))))) : Runs 0 mX4_crosses 12 [zR 28 t, zR 28 u, zI l2, zI l3] [] σ Q := by
  refine r_blk [qO (.iload_n 3), qO (.aload_n 1), qF (.getfield 42) 4 7] (pc' := 17) (L' := [zR 28 t, zR 28 u, zI l2, zI l3]) (S' := [zI (σ 28 u 7), zI l3]) (σ' := σ) (Ps := []) (by decide +kernel) rfl trivial ?_
  refine r_icmp_gt (off := 56) (tgt := 73) (by decide +kernel) (by decide) (fun c => ?_) (fun c => ?_)
  · replace h := h.1 c
    refine r_blk [qO (.iinc 2 1), qO (.goto (-74))] (pc' := 2) (L' := [zR 28 t, zR 28 u, zI (l2 + 1), zI l3]) (S' := []) (σ' := σ) (Ps := [-2147483648 ≤ l2 + 1 ∧ l2 + 1 ≤ 2147483647]) (by decide +kernel) rfl ⟨h.1, trivial⟩ ?_
    replace h := h.2
    exact Runs.fg (fgE (fgE (fgE (fgU fg0)))) h
  · replace h := h.2 c
    refine r_blk [qO (.aload_n 0), qF (.getfield 15) 4 4, qO (.iload_n 2), qO .iaload, qO (.aload_n 1), qF (.getfield 15) 4 4, qO (.iload_n 3), qO .iaload] (pc' := 32) (L' := [zR 28 t, zR 28 u, zI l2, zI l3]) (S' := [zI (σ 30 u l3.toNat), zI (σ 30 t l2.toNat)]) (σ' := σ) (Ps := [0 ≤ l2 ∧ l2 < 10, 0 ≤ l3 ∧ l3 < 10]) (by decide +kernel) rfl ⟨h.1, h.2.1, trivial⟩ ?_
    replace h := h.2.2
    refine r_icmp_ne (off := 35) (tgt := 67) (by decide +kernel) (by decide) (fun c => ?_) (fun c => ?_)
    · replace h := h.1 c
      refine r_blk [qO (.iinc 3 1), qO (.goto (-58))] (pc' := 12) (L' := [zR 28 t, zR 28 u, zI l2, zI (l3 + 1)]) (S' := []) (σ' := σ) (Ps := [-2147483648 ≤ l3 + 1 ∧ l3 + 1 ≤ 2147483647]) (by decide +kernel) rfl ⟨h.1, trivial⟩ ?_
      replace h := h.2
      exact Runs.fg (fgE (fgE (fgE (fgE fg0)))) h
    · replace h := h.2 c
      refine r_blk [qO (.aload_n 0), qF (.getfield 18) 4 5, qO (.iload_n 2), qO .iaload, qO (.aload_n 1), qF (.getfield 21) 4 6, qO (.iload_n 3), qO .iaload] (pc' := 47) (L' := [zR 28 t, zR 28 u, zI l2, zI l3]) (S' := [zI (σ 32 u l3.toNat), zI (σ 31 t l2.toNat)]) (σ' := σ) (Ps := [0 ≤ l2 ∧ l2 < 10, 0 ≤ l3 ∧ l3 < 10]) (by decide +kernel) rfl ⟨h.1, h.2.1, trivial⟩ ?_
      replace h := h.2.2
      refine r_icmp_gt (off := 20) (tgt := 67) (by decide +kernel) (by decide) (fun c => ?_) (fun c => ?_)
      · replace h := h.1 c
        refine r_blk [qO (.iinc 3 1), qO (.goto (-58))] (pc' := 12) (L' := [zR 28 t, zR 28 u, zI l2, zI (l3 + 1)]) (S' := []) (σ' := σ) (Ps := [-2147483648 ≤ l3 + 1 ∧ l3 + 1 ≤ 2147483647]) (by decide +kernel) rfl ⟨h.1, trivial⟩ ?_
        replace h := h.2
        exact Runs.fg (fgE (fgE (fgE (fgE fg0)))) h
      · replace h := h.2 c
        refine r_blk [qO (.aload_n 1), qF (.getfield 18) 4 5, qO (.iload_n 3), qO .iaload, qO (.aload_n 0), qF (.getfield 21) 4 6, qO (.iload_n 2), qO .iaload] (pc' := 62) (L' := [zR 28 t, zR 28 u, zI l2, zI l3]) (S' := [zI (σ 32 t l2.toNat), zI (σ 31 u l3.toNat)]) (σ' := σ) (Ps := [0 ≤ l3 ∧ l3 < 10, 0 ≤ l2 ∧ l2 < 10]) (by decide +kernel) rfl ⟨h.1, h.2.1, trivial⟩ ?_
        replace h := h.2.2
        refine r_icmp_gt (off := 5) (tgt := 67) (by decide +kernel) (by decide) (fun c => ?_) (fun c => ?_)
        · replace h := h.1 c
          refine r_blk [qO (.iinc 3 1), qO (.goto (-58))] (pc' := 12) (L' := [zR 28 t, zR 28 u, zI l2, zI (l3 + 1)]) (S' := []) (σ' := σ) (Ps := [-2147483648 ≤ l3 + 1 ∧ l3 + 1 ≤ 2147483647]) (by decide +kernel) rfl ⟨h.1, trivial⟩ ?_
          replace h := h.2
          exact Runs.fg (fgE (fgE (fgE (fgE fg0)))) h
        · replace h := h.2 c
          refine r_blk [qO (.iconst 1)] (pc' := 66) (L' := [zR 28 t, zR 28 u, zI l2, zI l3]) (S' := [zI 1]) (σ' := σ) (Ps := []) (by decide +kernel) rfl trivial ?_
          exact r_retz (by decide +kernel) rfl (by decide) h
