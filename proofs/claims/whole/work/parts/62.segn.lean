theorem gX4_trace_0 (a0 : Int) (a1 : Int) (a2 : Int) (t : Nat) (σ : Hp) {Q : Option Int → Hp → Prop} (h : Runs 3 mX8_setOut 0 [zR 17 0, zI a0, zI (-1), zI a2, zU, zU] [] σ (rV (fun σ1 => (0 ≤ a1 ∧ a1 < 10) ∧ ((¬ zmin (zup σ1 28 t 7 (-9)) a1 = (-9) → (0 ≤ a1 ∧ a1 < 10) ∧ ∀ σ2 : Hp, σ2 = (zup (zup (zup (zup (zup σ1 28 t 7 (-9)) 28 t 7 0) 30 t 0 a1) 31 t 0 (zmin (zup (zup (zup σ1 28 t 7 (-9)) 28 t 7 0) 30 t 0 a1) a1)) 32 t 0 ((zup (zup (zup (zup σ1 28 t 7 (-9)) 28 t 7 0) 30 t 0 a1) 31 t 0 (zmin (zup (zup (zup σ1 28 t 7 (-9)) 28 t 7 0) 30 t 0 a1) a1)) 31 t 0)) → Runs 4 mX4_trace 71 [zR 28 t, zI a0, zU, zU, zI 1] [] σ2 Q) ∧ (zmin (zup σ1 28 t 7 (-9)) a1 = (-9) → Q none (zup σ1 28 t 7 (-9))))))) : Runs 4 mX4_trace 0 [zR 28 t, zI a0, zI a1, zI a2, zU] [] σ Q := by
  refine r_blk [qO (.aload_n 0), qF (.getfield 32) 4 2, qO (.iload_n 1), qO (.iconst (-1)), qO (.iload_n 3)] (pc' := 7) (L' := [zR 28 t, zI a0, zI a1, zI a2, zU]) (S' := [zI a2, zI (-1), zI a0, zR 17 0]) (σ' := σ) (Ps := []) (by decide +kernel) rfl trivial ?_
  refine r_callVV (As := [zI a0, zI (-1), zI a2]) (S := []) (Lc := [zR 17 0, zI a0, zI (-1), zI a2, zU, zU]) (d' := 3) (n := 3) (g := 17) (x := 0) (ci := 8) kX8_setOut vX8_setOut lkX4_36 (by decide +kernel) (by decide) rfl rfl (by decide) rfl rfl (Nat.le_of_ble_eq_true rfl) rfl rfl (Nat.le_of_ble_eq_true rfl) (h.monoV (fun σ1 h => ?_))
  refine r_blk [qO (.aload_n 0), qO (.bipush (-9)), qF (.putfield 42) 4 7, qO (.aload_n 0), qF (.getfield 32) 4 2, qO (.iload_n 2)] (pc' := 21) (L' := [zR 28 t, zI a0, zI a1, zI a2, zU]) (S' := [zI a1, zR 17 0]) (σ' := (zup σ1 28 t 7 (-9))) (Ps := []) (by decide +kernel) rfl trivial ?_
  refine r_callVI (As := [zI a1]) (S := []) (Lc := [zR 17 0, zI a1]) (d' := 0) (n := 1) (g := 17) (x := 0) (ci := 8) kX8_minuteAt vX8_minuteAt lkX4_46 (by decide +kernel) (by decide) rfl rfl (by decide) rfl rfl (Nat.le_of_ble_eq_true rfl) rfl rfl (Nat.le_of_ble_eq_true rfl) (pX8_minuteAt h.1 ?_)
  replace h := h.2
  refine r_blk [qO (.bipush (-9))] (pc' := 26) (L' := [zR 28 t, zI a0, zI a1, zI a2, zU]) (S' := [zI (-9), zI (zmin (zup σ1 28 t 7 (-9)) a1)]) (σ' := (zup σ1 28 t 7 (-9))) (Ps := []) (by decide +kernel) rfl trivial ?_
  refine r_icmp_ne (off := 4) (tgt := 30) (by decide +kernel) (by decide) (fun c => ?_) (fun c => ?_)
  · replace h := h.1 c
    refine r_blk [qO (.aload_n 0), qO (.iconst 0), qF (.putfield 42) 4 7, qO (.aload_n 0), qF (.getfield 15) 4 4, qO (.iconst 0), qO (.iload_n 2), qO .iastore, qO (.aload_n 0), qF (.getfield 18) 4 5, qO (.iconst 0), qO (.aload_n 0), qF (.getfield 32) 4 2, qO (.iload_n 2)] (pc' := 52) (L' := [zR 28 t, zI a0, zI a1, zI a2, zU]) (S' := [zI a1, zR 17 0, zI 0, zR 31 t]) (σ' := (zup (zup (zup σ1 28 t 7 (-9)) 28 t 7 0) 30 t 0 a1)) (Ps := [0 ≤ 0 ∧ 0 < 10]) (by decide +kernel) rfl ⟨(by decide), trivial⟩ ?_
    refine r_callVI (As := [zI a1]) (S := [zI 0, zR 31 t]) (Lc := [zR 17 0, zI a1]) (d' := 0) (n := 1) (g := 17) (x := 0) (ci := 8) kX8_minuteAt vX8_minuteAt lkX4_46 (by decide +kernel) (by decide) rfl rfl (by decide) rfl rfl (Nat.le_of_ble_eq_true rfl) rfl rfl (Nat.le_of_ble_eq_true rfl) (pX8_minuteAt h.1 ?_)
    replace h := h.2
    refine r_blk [qO .iastore, qO (.aload_n 0), qF (.getfield 21) 4 6, qO (.iconst 0), qO (.aload_n 0), qF (.getfield 18) 4 5, qO (.iconst 0), qO .iaload, qO .iastore, qO (.iconst 1), qO (.istore 4)] (pc' := 71) (L' := [zR 28 t, zI a0, zI a1, zI a2, zI 1]) (S' := []) (σ' := (zup (zup (zup (zup (zup σ1 28 t 7 (-9)) 28 t 7 0) 30 t 0 a1) 31 t 0 (zmin (zup (zup (zup σ1 28 t 7 (-9)) 28 t 7 0) 30 t 0 a1) a1)) 32 t 0 ((zup (zup (zup (zup σ1 28 t 7 (-9)) 28 t 7 0) 30 t 0 a1) 31 t 0 (zmin (zup (zup (zup σ1 28 t 7 (-9)) 28 t 7 0) 30 t 0 a1) a1)) 31 t 0))) (Ps := [0 ≤ 0 ∧ 0 < 10, 0 ≤ 0 ∧ 0 < 10, 0 ≤ 0 ∧ 0 < 10]) (by decide +kernel) rfl ⟨(by decide), (by decide), (by decide), trivial⟩ ?_
    generalize hσ2 : (zup (zup (zup (zup (zup σ1 28 t 7 (-9)) 28 t 7 0) 30 t 0 a1) 31 t 0 (zmin (zup (zup (zup σ1 28 t 7 (-9)) 28 t 7 0) 30 t 0 a1) a1)) 32 t 0 ((zup (zup (zup (zup σ1 28 t 7 (-9)) 28 t 7 0) 30 t 0 a1) 31 t 0 (zmin (zup (zup (zup σ1 28 t 7 (-9)) 28 t 7 0) 30 t 0 a1) a1)) 31 t 0)) = σ2
    replace h := h σ2 hσ2.symm
    exact Runs.fg (fgE (fgE (fgU (fgU (fgE fg0))))) h
  · replace h := h.2 c
    exact r_retv (by decide +kernel) rfl h
theorem gX4_trace_71 (l1 : Int) (l4 : Int) (t : Nat) (σ : Hp) {Q : Option Int → Hp → Prop} (h : ((10 ≤ l4 → Q none σ) ∧ (¬ 10 ≤ l4 → (0 ≤ σ 28 t 7 ∧ σ 28 t 7 < 10) ∧ ((σ 30 t ((σ 28 t 7).toNat) = l1 → Q none σ) ∧ (¬ σ 30 t ((σ 28 t 7).toNat) = l1 → Runs 2 mX4_traceBack 0 [zR 28 t, zU] [] σ (rI (fun z2 σ1 => ((¬ z2 = 0 → (-2147483648 ≤ l4 + 1 ∧ l4 + 1 ≤ 2147483647) ∧ Runs 4 mX4_trace 71 [zR 28 t, zI l1, zU, zU, zI (l4 + 1)] [] σ1 Q) ∧ (z2 = 0 → Q none σ1))))))))) : Runs 4 mX4_trace 71 [zR 28 t, zI l1, zU, zU, zI l4] [] σ Q := by
  refine r_blk [qO (.iload 4), qO (.bipush 10)] (pc' := 75) (L' := [zR 28 t, zI l1, zU, zU, zI l4]) (S' := [zI 10, zI l4]) (σ' := σ) (Ps := []) (by decide +kernel) rfl trivial ?_
  refine r_icmp_ge (off := 30) (tgt := 105) (by decide +kernel) (by decide) (fun c => ?_) (fun c => ?_)
  · replace h := h.1 c
    exact r_retv (by decide +kernel) rfl h
  · replace h := h.2 c
    refine r_blk [qO (.aload_n 0), qF (.getfield 15) 4 4, qO (.aload_n 0), qF (.getfield 42) 4 7, qO .iaload, qO (.iload_n 1)] (pc' := 88) (L' := [zR 28 t, zI l1, zU, zU, zI l4]) (S' := [zI l1, zI (σ 30 t ((σ 28 t 7).toNat))]) (σ' := σ) (Ps := [0 ≤ σ 28 t 7 ∧ σ 28 t 7 < 10]) (by decide +kernel) rfl ⟨h.1, trivial⟩ ?_
    replace h := h.2
    refine r_icmp_eq (off := 17) (tgt := 105) (by decide +kernel) (by decide) (fun c => ?_) (fun c => ?_)
    · replace h := h.1 c
      exact r_retv (by decide +kernel) rfl h
    · replace h := h.2 c
      refine r_blk [qO (.aload_n 0)] (pc' := 92) (L' := [zR 28 t, zI l1, zU, zU, zI l4]) (S' := [zR 28 t]) (σ' := σ) (Ps := []) (by decide +kernel) rfl trivial ?_
      refine r_callVI (As := []) (S := []) (Lc := [zR 28 t, zU]) (d' := 2) (n := 0) (g := 28) (x := t) (ci := 4) kX4_traceBack vX4_traceBack lkX4_50 (by decide +kernel) (by decide) rfl rfl (by decide) rfl rfl (Nat.le_of_ble_eq_true rfl) rfl rfl (Nat.le_of_ble_eq_true rfl) (h.monoI (fun z2 σ1 h => ?_))
      refine r_if_ne (off := 4) (tgt := 99) (by decide +kernel) (by decide) (fun c => ?_) (fun c => ?_)
      · replace h := h.1 c
        refine r_blk [qO (.iinc 4 1), qO (.goto (-31))] (pc' := 71) (L' := [zR 28 t, zI l1, zU, zU, zI (l4 + 1)]) (S' := []) (σ' := σ1) (Ps := [-2147483648 ≤ l4 + 1 ∧ l4 + 1 ≤ 2147483647]) (by decide +kernel) rfl ⟨h.1, trivial⟩ ?_
        replace h := h.2
        exact Runs.fg (fgE (fgE (fgU (fgU (fgE fg0))))) h
      · replace h := h.2 c
        exact r_retv (by decide +kernel) rfl h
theorem gX4_traceBack_0 (t : Nat) (σ : Hp) {Q : Option Int → Hp → Prop} (h : Runs 2 mX4_traceBack 2 [zR 28 t, zI 0] [] σ Q) : Runs 2 mX4_traceBack 0 [zR 28 t, zU] [] σ Q := by
  refine r_blk [qO (.iconst 0), qO (.istore_n 1)] (pc' := 2) (L' := [zR 28 t, zI 0]) (S' := []) (σ' := σ) (Ps := []) (by decide +kernel) rfl trivial ?_
  exact Runs.fg (fgE (fgE fg0)) h
theorem gX4_traceBack_2 (l1 : Int) (t : Nat) (σ : Hp) {Q : Option Int → Hp → Prop} (h : ((σ 1 0 1 ≤ l1 → Q (some 0) σ) ∧ (¬ σ 1 0 1 ≤ l1 → (0 ≤ l1 ∧ l1 < 14) ∧ (0 ≤ σ 28 t 7 ∧ σ 28 t 7 < 10) ∧ ((¬ σ 3 0 l1.toNat = σ 30 t ((σ 28 t 7).toNat) → Runs 2 mX4_traceBack 54 [zR 28 t, zI l1] [] σ Q) ∧ (σ 3 0 l1.toNat = σ 30 t ((σ 28 t 7).toNat) → (0 ≤ l1 ∧ l1 < 14) ∧ Runs 1 mX4_cameBy 0 [zR 28 t, zI l1, zI 0, zI (σ 2 0 l1.toNat), zU, zU] [] σ (rI (fun z2 σ1 => ((z2 = 0 → Runs 2 mX4_traceBack 54 [zR 28 t, zI l1] [] σ1 Q) ∧ (¬ z2 = 0 → Q (some 1) σ1))))))))) : Runs 2 mX4_traceBack 2 [zR 28 t, zI l1] [] σ Q := by
  refine r_blk [qO (.iload_n 1), qO (.aload_n 0), qF (.getfield 24) 4 0, qF (.getfield 54) 6 1] (pc' := 10) (L' := [zR 28 t, zI l1]) (S' := [zI (σ 1 0 1), zI l1]) (σ' := σ) (Ps := []) (by decide +kernel) rfl trivial ?_
  refine r_icmp_ge (off := 91) (tgt := 101) (by decide +kernel) (by decide) (fun c => ?_) (fun c => ?_)
  · replace h := h.1 c
    refine r_blk [qO (.iconst 0)] (pc' := 102) (L' := [zR 28 t, zI l1]) (S' := [zI 0]) (σ' := σ) (Ps := []) (by decide +kernel) rfl trivial ?_
    exact r_retz (by decide +kernel) rfl (by decide) h
  · replace h := h.2 c
    refine r_blk [qO (.aload_n 0), qF (.getfield 24) 4 0, qF (.getfield 58) 6 8, qO (.iload_n 1), qO .iaload, qO (.aload_n 0), qF (.getfield 15) 4 4, qO (.aload_n 0), qF (.getfield 42) 4 7, qO .iaload] (pc' := 31) (L' := [zR 28 t, zI l1]) (S' := [zI (σ 30 t ((σ 28 t 7).toNat)), zI (σ 3 0 l1.toNat)]) (σ' := σ) (Ps := [0 ≤ l1 ∧ l1 < 14, 0 ≤ σ 28 t 7 ∧ σ 28 t 7 < 10]) (by decide +kernel) rfl ⟨h.1, h.2.1, trivial⟩ ?_
    replace h := h.2.2
    refine r_icmp_ne (off := 23) (tgt := 54) (by decide +kernel) (by decide) (fun c => ?_) (fun c => ?_)
    · replace h := h.1 c
      exact Runs.fg (fgE (fgE fg0)) h
    · replace h := h.2 c
      refine r_blk [qO (.aload_n 0), qO (.iload_n 1), qO (.iconst 0), qO (.aload_n 0), qF (.getfield 24) 4 0, qF (.getfield 61) 6 7, qO (.iload_n 1), qO .iaload] (pc' := 46) (L' := [zR 28 t, zI l1]) (S' := [zI (σ 2 0 l1.toNat), zI 0, zI l1, zR 28 t]) (σ' := σ) (Ps := [0 ≤ l1 ∧ l1 < 14]) (by decide +kernel) rfl ⟨h.1, trivial⟩ ?_
      replace h := h.2
      refine r_callVI (As := [zI l1, zI 0, zI (σ 2 0 l1.toNat)]) (S := []) (Lc := [zR 28 t, zI l1, zI 0, zI (σ 2 0 l1.toNat), zU, zU]) (d' := 1) (n := 3) (g := 28) (x := t) (ci := 4) kX4_cameBy vX4_cameBy lkX4_64 (by decide +kernel) (by decide) rfl rfl (by decide) rfl rfl (Nat.le_of_ble_eq_true rfl) rfl rfl (Nat.le_of_ble_eq_true rfl) (h.monoI (fun z2 σ1 h => ?_))
      refine r_if_eq (off := 5) (tgt := 54) (by decide +kernel) (by decide) (fun c => ?_) (fun c => ?_)
      · replace h := h.1 c
        exact Runs.fg (fgE (fgE fg0)) h
      · replace h := h.2 c
        refine r_blk [qO (.iconst 1)] (pc' := 53) (L' := [zR 28 t, zI l1]) (S' := [zI 1]) (σ' := σ1) (Ps := []) (by decide +kernel) rfl trivial ?_
        exact r_retz (by decide +kernel) rfl (by decide) h
theorem gX4_traceBack_54 (l1 : Int) (t : Nat) (σ : Hp) {Q : Option Int → Hp → Prop} (h : (0 ≤ l1 ∧ l1 < 14) ∧ (0 ≤ σ 28 t 7 ∧ σ 28 t 7 < 10) ∧ ((¬ σ 2 0 l1.toNat = σ 30 t ((σ 28 t 7).toNat) → (-2147483648 ≤ l1 + 1 ∧ l1 + 1 ≤ 2147483647) ∧ Runs 2 mX4_traceBack 2 [zR 28 t, zI (l1 + 1)] [] σ Q) ∧ (σ 2 0 l1.toNat = σ 30 t ((σ 28 t 7).toNat) → (0 ≤ l1 ∧ l1 < 14) ∧ Runs 1 mX4_cameBy 0 [zR 28 t, zI l1, zI 1, zI (σ 3 0 l1.toNat), zU, zU] [] σ (rI (fun z2 σ1 => ((z2 = 0 → (-2147483648 ≤ l1 + 1 ∧ l1 + 1 ≤ 2147483647) ∧ Runs 2 mX4_traceBack 2 [zR 28 t, zI (l1 + 1)] [] σ1 Q) ∧ (¬ z2 = 0 → Q (some 1) σ1))))))) : Runs 2 mX4_traceBack 54 [zR 28 t, zI l1] [] σ Q := by
  refine r_blk [qO (.aload_n 0), qF (.getfield 24) 4 0, qF (.getfield 61) 6 7, qO (.iload_n 1), qO .iaload, qO (.aload_n 0), qF (.getfield 15) 4 4, qO (.aload_n 0), qF (.getfield 42) 4 7, qO .iaload] (pc' := 72) (L' := [zR 28 t, zI l1]) (S' := [zI (σ 30 t ((σ 28 t 7).toNat)), zI (σ 2 0 l1.toNat)]) (σ' := σ) (Ps := [0 ≤ l1 ∧ l1 < 14, 0 ≤ σ 28 t 7 ∧ σ 28 t 7 < 10]) (by decide +kernel) rfl ⟨h.1, h.2.1, trivial⟩ ?_
  replace h := h.2.2
  refine r_icmp_ne (off := 23) (tgt := 95) (by decide +kernel) (by decide) (fun c => ?_) (fun c => ?_)
  · replace h := h.1 c
    refine r_blk [qO (.iinc 1 1), qO (.goto (-96))] (pc' := 2) (L' := [zR 28 t, zI (l1 + 1)]) (S' := []) (σ' := σ) (Ps := [-2147483648 ≤ l1 + 1 ∧ l1 + 1 ≤ 2147483647]) (by decide +kernel) rfl ⟨h.1, trivial⟩ ?_
    replace h := h.2
    exact Runs.fg (fgE (fgE fg0)) h
  · replace h := h.2 c
    refine r_blk [qO (.aload_n 0), qO (.iload_n 1), qO (.iconst 1), qO (.aload_n 0), qF (.getfield 24) 4 0, qF (.getfield 58) 6 8, qO (.iload_n 1), qO .iaload] (pc' := 87) (L' := [zR 28 t, zI l1]) (S' := [zI (σ 3 0 l1.toNat), zI 1, zI l1, zR 28 t]) (σ' := σ) (Ps := [0 ≤ l1 ∧ l1 < 14]) (by decide +kernel) rfl ⟨h.1, trivial⟩ ?_
    replace h := h.2
    refine r_callVI (As := [zI l1, zI 1, zI (σ 3 0 l1.toNat)]) (S := []) (Lc := [zR 28 t, zI l1, zI 1, zI (σ 3 0 l1.toNat), zU, zU]) (d' := 1) (n := 3) (g := 28) (x := t) (ci := 4) kX4_cameBy vX4_cameBy lkX4_64 (by decide +kernel) (by decide) rfl rfl (by decide) rfl rfl (Nat.le_of_ble_eq_true rfl) rfl rfl (Nat.le_of_ble_eq_true rfl) (h.monoI (fun z2 σ1 h => ?_))
    refine r_if_eq (off := 5) (tgt := 95) (by decide +kernel) (by decide) (fun c => ?_) (fun c => ?_)
    · replace h := h.1 c
      refine r_blk [qO (.iinc 1 1), qO (.goto (-96))] (pc' := 2) (L' := [zR 28 t, zI (l1 + 1)]) (S' := []) (σ' := σ1) (Ps := [-2147483648 ≤ l1 + 1 ∧ l1 + 1 ≤ 2147483647]) (by decide +kernel) rfl ⟨h.1, trivial⟩ ?_
      replace h := h.2
      exact Runs.fg (fgE (fgE fg0)) h
    · replace h := h.2 c
      refine r_blk [qO (.iconst 1)] (pc' := 94) (L' := [zR 28 t, zI l1]) (S' := [zI 1]) (σ' := σ1) (Ps := []) (by decide +kernel) rfl trivial ?_
      exact r_retz (by decide +kernel) rfl (by decide) h
theorem gX4_cameBy_0 (a0 : Int) (a1 : Int) (a2 : Int) (t : Nat) (σ : Hp) {Q : Option Int → Hp → Prop} (h : (0 ≤ a2 ∧ a2 < 10) ∧ ((zmin σ a2 = (-9) → Q (some 0) σ) ∧ (¬ zmin σ a2 = (-9) → (-2147483648 ≤ (σ 28 t 7) + 1 ∧ (σ 28 t 7) + 1 ≤ 2147483647) ∧ (((σ 28 t 7) + 1 < 10 → (0 ≤ σ 16 0 2 ∧ σ 16 0 2 ≤ 1439) ∧ (10 ≤ σ 16 0 3 ∧ σ 16 0 3 ≤ 720) ∧ (0 ≤ (zmin σ a2) ∧ (zmin σ a2) ≤ 1000000) ∧ ∀ σ1 : Hp, σ1 = tStand σ (zmin σ a2) → ((tEnt σ1 a0 a1 = (-9) → Q (some 0) σ1) ∧ (¬ tEnt σ1 a0 a1 = (-9) → (0 ≤ a0 ∧ a0 < 14) ∧ (-2147483648 ≤ (tEnt σ1 a0 a1) + (σ1 4 0 a0.toNat) ∧ (tEnt σ1 a0 a1) + (σ1 4 0 a0.toNat) ≤ 2147483647) ∧ (0 ≤ σ1 28 t 7 ∧ σ1 28 t 7 < 10) ∧ (((tEnt σ1 a0 a1) + (σ1 4 0 a0.toNat) = σ1 31 t ((σ1 28 t 7).toNat) → (0 ≤ σ1 28 t 7 ∧ σ1 28 t 7 < 10) ∧ (-2147483648 ≤ (σ1 28 t 7) + 1 ∧ (σ1 28 t 7) + 1 ≤ 2147483647) ∧ (0 ≤ (zup (zup σ1 29 t ((σ1 28 t 7).toNat) a0) 28 t 7 ((σ1 28 t 7) + 1)) 28 t 7 ∧ (zup (zup σ1 29 t ((σ1 28 t 7).toNat) a0) 28 t 7 ((σ1 28 t 7) + 1)) 28 t 7 < 10) ∧ (0 ≤ (zup (zup σ1 29 t ((σ1 28 t 7).toNat) a0) 28 t 7 ((σ1 28 t 7) + 1)) 28 t 7 ∧ (zup (zup σ1 29 t ((σ1 28 t 7).toNat) a0) 28 t 7 ((σ1 28 t 7) + 1)) 28 t 7 < 10) ∧ (0 ≤ (zup (zup σ1 29 t ((σ1 28 t 7).toNat) a0) 28 t 7 ((σ1 28 t 7) + 1)) 28 t 7 ∧ (zup (zup σ1 29 t ((σ1 28 t 7).toNat) a0) 28 t 7 ((σ1 28 t 7) + 1)) 28 t 7 < 10) ∧ ∀ σ2 : Hp, σ2 = (zup (zup (zup (zup (zup σ1 29 t ((σ1 28 t 7).toNat) a0) 28 t 7 ((σ1 28 t 7) + 1)) 30 t (((zup (zup σ1 29 t ((σ1 28 t 7).toNat) a0) 28 t 7 ((σ1 28 t 7) + 1)) 28 t 7).toNat) a2) 31 t (((zup (zup σ1 29 t ((σ1 28 t 7).toNat) a0) 28 t 7 ((σ1 28 t 7) + 1)) 28 t 7).toNat) (zmin σ a2)) 32 t (((zup (zup σ1 29 t ((σ1 28 t 7).toNat) a0) 28 t 7 ((σ1 28 t 7) + 1)) 28 t 7).toNat) (tEnt σ1 a0 a1)) → Q (some 1) σ2) ∧ (¬ (tEnt σ1 a0 a1) + (σ1 4 0 a0.toNat) = σ1 31 t ((σ1 28 t 7).toNat) → Q (some 0) σ1))))) ∧ (¬ (σ 28 t 7) + 1 < 10 → Q (some 0) σ))))) : Runs 1 mX4_cameBy 0 [zR 28 t, zI a0, zI a1, zI a2, zU, zU] [] σ Q := by
  refine r_blk [qO (.aload_n 0), qF (.getfield 32) 4 2, qO (.iload_n 3)] (pc' := 5) (L' := [zR 28 t, zI a0, zI a1, zI a2, zU, zU]) (S' := [zI a2, zR 17 0]) (σ' := σ) (Ps := []) (by decide +kernel) rfl trivial ?_
  refine r_callVI (As := [zI a2]) (S := []) (Lc := [zR 17 0, zI a2]) (d' := 0) (n := 1) (g := 17) (x := 0) (ci := 8) kX8_minuteAt vX8_minuteAt lkX4_46 (by decide +kernel) (by decide) rfl rfl (by decide) rfl rfl (Nat.le_of_ble_eq_true rfl) rfl rfl (Nat.le_of_ble_eq_true rfl) (pX8_minuteAt h.1 ?_)
  replace h := h.2
  refine r_blk [qO (.istore 4), qO (.iload 4), qO (.bipush (-9))] (pc' := 14) (L' := [zR 28 t, zI a0, zI a1, zI a2, zI (zmin σ a2), zU]) (S' := [zI (-9), zI (zmin σ a2)]) (σ' := σ) (Ps := []) (by decide +kernel) rfl trivial ?_
  refine r_icmp_eq (off := 14) (tgt := 28) (by decide +kernel) (by decide) (fun c => ?_) (fun c => ?_)
  · replace h := h.1 c
    refine r_blk [qO (.iconst 0)] (pc' := 29) (L' := [zR 28 t, zI a0, zI a1, zI a2, zI (zmin σ a2), zU]) (S' := [zI 0]) (σ' := σ) (Ps := []) (by decide +kernel) rfl trivial ?_
    exact r_retz (by decide +kernel) rfl (by decide) h
  · replace h := h.2 c
    refine r_blk [qO (.aload_n 0), qF (.getfield 42) 4 7, qO (.iconst 1), qO .iadd, qO (.bipush 10)] (pc' := 25) (L' := [zR 28 t, zI a0, zI a1, zI a2, zI (zmin σ a2), zU]) (S' := [zI 10, zI ((σ 28 t 7) + 1)]) (σ' := σ) (Ps := [-2147483648 ≤ (σ 28 t 7) + 1 ∧ (σ 28 t 7) + 1 ≤ 2147483647]) (by decide +kernel) rfl ⟨h.1, trivial⟩ ?_
    replace h := h.2
    refine r_icmp_lt (off := 5) (tgt := 30) (by decide +kernel) (by decide) (fun c => ?_) (fun c => ?_)
    · replace h := h.1 c
      refine r_blk [qO (.aload_n 0), qF (.getfield 28) 4 1, qO (.iload 4)] (pc' := 36) (L' := [zR 28 t, zI a0, zI a1, zI a2, zI (zmin σ a2), zU]) (S' := [zI (zmin σ a2), zR 16 0]) (σ' := σ) (Ps := []) (by decide +kernel) rfl trivial ?_
      refine r_callVV (As := [zI (zmin σ a2)]) (S := []) (Lc := [zR 16 0, zI (zmin σ a2), zU, zU]) (d' := 0) (n := 1) (g := 16) (x := 0) (ci := 7) kX7_standAt vX7_standAt lkX4_68 (by decide +kernel) (by decide) rfl rfl (by decide) rfl rfl (Nat.le_of_ble_eq_true rfl) rfl rfl (Nat.le_of_ble_eq_true rfl) (pX7_standAt h.1 h.2.1 h.2.2.1 ?_)
      replace h := h.2.2.2
      generalize hσ1 : tStand σ (zmin σ a2) = σ1
      replace h := h σ1 hσ1.symm
      refine r_blk [qO (.aload_n 0), qF (.getfield 28) 4 1, qO (.iload_n 1), qO (.iload_n 2)] (pc' := 45) (L' := [zR 28 t, zI a0, zI a1, zI a2, zI (zmin σ a2), zU]) (S' := [zI a1, zI a0, zR 16 0]) (σ' := σ1) (Ps := []) (by decide +kernel) rfl trivial ?_
      refine r_callVI (As := [zI a0, zI a1]) (S := []) (Lc := [zR 16 0, zI a0, zI a1]) (d' := 0) (n := 2) (g := 16) (x := 0) (ci := 7) kX7_entryOf vX7_entryOf lkX4_74 (by decide +kernel) (by decide) rfl rfl (by decide) rfl rfl (Nat.le_of_ble_eq_true rfl) rfl rfl (Nat.le_of_ble_eq_true rfl) (pX7_entryOf  ?_)
      refine r_blk [qO (.istore 5), qO (.iload 5), qO (.bipush (-9))] (pc' := 54) (L' := [zR 28 t, zI a0, zI a1, zI a2, zI (zmin σ a2), zI (tEnt σ1 a0 a1)]) (S' := [zI (-9), zI (tEnt σ1 a0 a1)]) (σ' := σ1) (Ps := []) (by decide +kernel) rfl trivial ?_
      refine r_icmp_eq (off := 27) (tgt := 81) (by decide +kernel) (by decide) (fun c => ?_) (fun c => ?_)
      · replace h := h.1 c
        refine r_blk [qO (.iconst 0)] (pc' := 82) (L' := [zR 28 t, zI a0, zI a1, zI a2, zI (zmin σ a2), zI (tEnt σ1 a0 a1)]) (S' := [zI 0]) (σ' := σ1) (Ps := []) (by decide +kernel) rfl trivial ?_
        exact r_retz (by decide +kernel) rfl (by decide) h
      · replace h := h.2 c
        refine r_blk [qO (.iload 5), qO (.aload_n 0), qF (.getfield 24) 4 0, qF (.getfield 78) 6 9, qO (.iload_n 1), qO .iaload, qO .iadd, qO (.aload_n 0), qF (.getfield 18) 4 5, qO (.aload_n 0), qF (.getfield 42) 4 7, qO .iaload] (pc' := 78) (L' := [zR 28 t, zI a0, zI a1, zI a2, zI (zmin σ a2), zI (tEnt σ1 a0 a1)]) (S' := [zI (σ1 31 t ((σ1 28 t 7).toNat)), zI ((tEnt σ1 a0 a1) + (σ1 4 0 a0.toNat))]) (σ' := σ1) (Ps := [0 ≤ a0 ∧ a0 < 14, -2147483648 ≤ (tEnt σ1 a0 a1) + (σ1 4 0 a0.toNat) ∧ (tEnt σ1 a0 a1) + (σ1 4 0 a0.toNat) ≤ 2147483647, 0 ≤ σ1 28 t 7 ∧ σ1 28 t 7 < 10]) (by decide +kernel) rfl ⟨h.1, h.2.1, h.2.2.1, trivial⟩ ?_
        replace h := h.2.2.2
        refine r_icmp_eq (off := 5) (tgt := 83) (by decide +kernel) (by decide) (fun c => ?_) (fun c => ?_)
        · replace h := h.1 c
          refine r_blk [qO (.aload_n 0), qF (.getfield 9) 4 3, qO (.aload_n 0), qF (.getfield 42) 4 7, qO (.iload_n 1), qO .iastore, qO (.aload_n 0), qO .dup, qF (.getfield 42) 4 7, qO (.iconst 1), qO .iadd, qF (.putfield 42) 4 7, qO (.aload_n 0), qF (.getfield 15) 4 4, qO (.aload_n 0), qF (.getfield 42) 4 7, qO (.iload_n 3), qO .iastore, qO (.aload_n 0), qF (.getfield 18) 4 5, qO (.aload_n 0), qF (.getfield 42) 4 7, qO (.iload 4), qO .iastore, qO (.aload_n 0), qF (.getfield 21) 4 6, qO (.aload_n 0), qF (.getfield 42) 4 7, qO (.iload 5), qO .iastore, qO (.iconst 1)] (pc' := 136) (L' := [zR 28 t, zI a0, zI a1, zI a2, zI (zmin σ a2), zI (tEnt σ1 a0 a1)]) (S' := [zI 1]) (σ' := (zup (zup (zup (zup (zup σ1 29 t ((σ1 28 t 7).toNat) a0) 28 t 7 ((σ1 28 t 7) + 1)) 30 t (((zup (zup σ1 29 t ((σ1 28 t 7).toNat) a0) 28 t 7 ((σ1 28 t 7) + 1)) 28 t 7).toNat) a2) 31 t (((zup (zup σ1 29 t ((σ1 28 t 7).toNat) a0) 28 t 7 ((σ1 28 t 7) + 1)) 28 t 7).toNat) (zmin σ a2)) 32 t (((zup (zup σ1 29 t ((σ1 28 t 7).toNat) a0) 28 t 7 ((σ1 28 t 7) + 1)) 28 t 7).toNat) (tEnt σ1 a0 a1))) (Ps := [0 ≤ σ1 28 t 7 ∧ σ1 28 t 7 < 10, -2147483648 ≤ (σ1 28 t 7) + 1 ∧ (σ1 28 t 7) + 1 ≤ 2147483647, 0 ≤ (zup (zup σ1 29 t ((σ1 28 t 7).toNat) a0) 28 t 7 ((σ1 28 t 7) + 1)) 28 t 7 ∧ (zup (zup σ1 29 t ((σ1 28 t 7).toNat) a0) 28 t 7 ((σ1 28 t 7) + 1)) 28 t 7 < 10, 0 ≤ (zup (zup σ1 29 t ((σ1 28 t 7).toNat) a0) 28 t 7 ((σ1 28 t 7) + 1)) 28 t 7 ∧ (zup (zup σ1 29 t ((σ1 28 t 7).toNat) a0) 28 t 7 ((σ1 28 t 7) + 1)) 28 t 7 < 10, 0 ≤ (zup (zup σ1 29 t ((σ1 28 t 7).toNat) a0) 28 t 7 ((σ1 28 t 7) + 1)) 28 t 7 ∧ (zup (zup σ1 29 t ((σ1 28 t 7).toNat) a0) 28 t 7 ((σ1 28 t 7) + 1)) 28 t 7 < 10]) (by decide +kernel) rfl ⟨h.1, h.2.1, h.2.2.1, h.2.2.2.1, h.2.2.2.2.1, trivial⟩ ?_
          replace h := h.2.2.2.2.2
          generalize hσ2 : (zup (zup (zup (zup (zup σ1 29 t ((σ1 28 t 7).toNat) a0) 28 t 7 ((σ1 28 t 7) + 1)) 30 t (((zup (zup σ1 29 t ((σ1 28 t 7).toNat) a0) 28 t 7 ((σ1 28 t 7) + 1)) 28 t 7).toNat) a2) 31 t (((zup (zup σ1 29 t ((σ1 28 t 7).toNat) a0) 28 t 7 ((σ1 28 t 7) + 1)) 28 t 7).toNat) (zmin σ a2)) 32 t (((zup (zup σ1 29 t ((σ1 28 t 7).toNat) a0) 28 t 7 ((σ1 28 t 7) + 1)) 28 t 7).toNat) (tEnt σ1 a0 a1)) = σ2
          replace h := h σ2 hσ2.symm
          exact r_retz (by decide +kernel) rfl (by decide) h
        · replace h := h.2 c
          refine r_blk [qO (.iconst 0)] (pc' := 82) (L' := [zR 28 t, zI a0, zI a1, zI a2, zI (zmin σ a2), zI (tEnt σ1 a0 a1)]) (S' := [zI 0]) (σ' := σ1) (Ps := []) (by decide +kernel) rfl trivial ?_
          exact r_retz (by decide +kernel) rfl (by decide) h
    · replace h := h.2 c
      refine r_blk [qO (.iconst 0)] (pc' := 29) (L' := [zR 28 t, zI a0, zI a1, zI a2, zI (zmin σ a2), zU]) (S' := [zI 0]) (σ' := σ) (Ps := []) (by decide +kernel) rfl trivial ?_
      exact r_retz (by decide +kernel) rfl (by decide) h
theorem gX4_streetAt_0 (a0 : Int) (t : Nat) (σ : Hp) {Q : Option Int → Hp → Prop} (h : ((a0 < 0 → Q (some (-9)) σ) ∧ (¬ a0 < 0 → ((σ 28 t 7 ≤ a0 → Q (some (-9)) σ) ∧ (¬ σ 28 t 7 ≤ a0 → (-2147483648 ≤ (σ 28 t 7) - 1 ∧ (σ 28 t 7) - 1 ≤ 2147483647) ∧ (-2147483648 ≤ ((σ 28 t 7) - 1) - a0 ∧ ((σ 28 t 7) - 1) - a0 ≤ 2147483647) ∧ (0 ≤ ((σ 28 t 7) - 1) - a0 ∧ ((σ 28 t 7) - 1) - a0 < 10) ∧ Q (some (σ 29 t ((((σ 28 t 7) - 1) - a0).toNat))) σ))))) : Runs 0 mX4_streetAt 0 [zR 28 t, zI a0] [] σ Q := by
  refine r_blk [qO (.iload_n 1)] (pc' := 1) (L' := [zR 28 t, zI a0]) (S' := [zI a0]) (σ' := σ) (Ps := []) (by decide +kernel) rfl trivial ?_
  refine r_if_lt (off := 27) (tgt := 28) (by decide +kernel) (by decide) (fun c => ?_) (fun c => ?_)
  · replace h := h.1 c
    refine r_blk [qO (.bipush (-9))] (pc' := 30) (L' := [zR 28 t, zI a0]) (S' := [zI (-9)]) (σ' := σ) (Ps := []) (by decide +kernel) rfl trivial ?_
    exact r_ret (by decide +kernel) rfl (fun _ => h)
  · replace h := h.2 c
    refine r_blk [qO (.iload_n 1), qO (.aload_n 0), qF (.getfield 42) 4 7] (pc' := 9) (L' := [zR 28 t, zI a0]) (S' := [zI (σ 28 t 7), zI a0]) (σ' := σ) (Ps := []) (by decide +kernel) rfl trivial ?_
    refine r_icmp_ge (off := 19) (tgt := 28) (by decide +kernel) (by decide) (fun c => ?_) (fun c => ?_)
    · replace h := h.1 c
      refine r_blk [qO (.bipush (-9))] (pc' := 30) (L' := [zR 28 t, zI a0]) (S' := [zI (-9)]) (σ' := σ) (Ps := []) (by decide +kernel) rfl trivial ?_
      exact r_ret (by decide +kernel) rfl (fun _ => h)
    · replace h := h.2 c
      refine r_blk [qO (.aload_n 0), qF (.getfield 9) 4 3, qO (.aload_n 0), qF (.getfield 42) 4 7, qO (.iconst 1), qO .isub, qO (.iload_n 1), qO .isub, qO .iaload, qO (.goto 5)] (pc' := 30) (L' := [zR 28 t, zI a0]) (S' := [zI (σ 29 t ((((σ 28 t 7) - 1) - a0).toNat))]) (σ' := σ) (Ps := [-2147483648 ≤ (σ 28 t 7) - 1 ∧ (σ 28 t 7) - 1 ≤ 2147483647, -2147483648 ≤ ((σ 28 t 7) - 1) - a0 ∧ ((σ 28 t 7) - 1) - a0 ≤ 2147483647, 0 ≤ ((σ 28 t 7) - 1) - a0 ∧ ((σ 28 t 7) - 1) - a0 < 10]) (by decide +kernel) rfl ⟨h.1, h.2.1, h.2.2.1, trivial⟩ ?_
      replace h := h.2.2.2
      exact r_ret (by decide +kernel) rfl (fun _ => h)
theorem gX4_minutesWaited_0 (t : Nat) (σ : Hp) {Q : Option Int → Hp → Prop} (h : ((¬ σ 28 t 7 = (-9) → Runs 0 mX4_minutesWaited 16 [zR 28 t, zI 0, zI 0] [] σ Q) ∧ (σ 28 t 7 = (-9) → Q (some (-9)) σ))) : Runs 0 mX4_minutesWaited 0 [zR 28 t, zU, zU] [] σ Q := by
  refine r_blk [qO (.aload_n 0), qF (.getfield 42) 4 7, qO (.bipush (-9))] (pc' := 6) (L' := [zR 28 t, zU, zU]) (S' := [zI (-9), zI (σ 28 t 7)]) (σ' := σ) (Ps := []) (by decide +kernel) rfl trivial ?_
  refine r_icmp_ne (off := 6) (tgt := 12) (by decide +kernel) (by decide) (fun c => ?_) (fun c => ?_)
  · replace h := h.1 c
    refine r_blk [qO (.iconst 0), qO (.istore_n 1), qO (.iconst 0), qO (.istore_n 2)] (pc' := 16) (L' := [zR 28 t, zI 0, zI 0]) (S' := []) (σ' := σ) (Ps := []) (by decide +kernel) rfl trivial ?_
    exact Runs.fg (fgE (fgE (fgE fg0))) h
  · replace h := h.2 c
    refine r_blk [qO (.bipush (-9))] (pc' := 11) (L' := [zR 28 t, zU, zU]) (S' := [zI (-9)]) (σ' := σ) (Ps := []) (by decide +kernel) rfl trivial ?_
    exact r_ret (by decide +kernel) rfl (fun _ => h)
theorem gX4_minutesWaited_16 (l1 : Int) (l2 : Int) (t : Nat) (σ : Hp) {Q : Option Int → Hp → Prop} (h : ((σ 28 t 7 < l2 → Q (some l1) σ) ∧ (¬ σ 28 t 7 < l2 → (0 ≤ l2 ∧ l2 < 10) ∧ (0 ≤ l2 ∧ l2 < 10) ∧ (-2147483648 ≤ (σ 32 t l2.toNat) - (σ 31 t l2.toNat) ∧ (σ 32 t l2.toNat) - (σ 31 t l2.toNat) ≤ 2147483647) ∧ (-2147483648 ≤ l1 + ((σ 32 t l2.toNat) - (σ 31 t l2.toNat)) ∧ l1 + ((σ 32 t l2.toNat) - (σ 31 t l2.toNat)) ≤ 2147483647) ∧ (-2147483648 ≤ l2 + 1 ∧ l2 + 1 ≤ 2147483647) ∧ Runs 0 mX4_minutesWaited 16 [zR 28 t, zI (l1 + ((σ 32 t l2.toNat) - (σ 31 t l2.toNat))), zI (l2 + 1)] [] σ Q))) : Runs 0 mX4_minutesWaited 16 [zR 28 t, zI l1, zI l2] [] σ Q := by
  refine r_blk [qO (.iload_n 2), qO (.aload_n 0), qF (.getfield 42) 4 7] (pc' := 21) (L' := [zR 28 t, zI l1, zI l2]) (S' := [zI (σ 28 t 7), zI l2]) (σ' := σ) (Ps := []) (by decide +kernel) rfl trivial ?_
  refine r_icmp_gt (off := 25) (tgt := 46) (by decide +kernel) (by decide) (fun c => ?_) (fun c => ?_)
  · replace h := h.1 c
    refine r_blk [qO (.iload_n 1)] (pc' := 47) (L' := [zR 28 t, zI l1, zI l2]) (S' := [zI l1]) (σ' := σ) (Ps := []) (by decide +kernel) rfl trivial ?_
    exact r_ret (by decide +kernel) rfl (fun _ => h)
  · replace h := h.2 c
    refine r_blk [qO (.iload_n 1), qO (.aload_n 0), qF (.getfield 21) 4 6, qO (.iload_n 2), qO .iaload, qO (.aload_n 0), qF (.getfield 18) 4 5, qO (.iload_n 2), qO .iaload, qO .isub, qO .iadd, qO (.istore_n 1), qO (.iinc 2 1), qO (.goto (-27))] (pc' := 16) (L' := [zR 28 t, zI (l1 + ((σ 32 t l2.toNat) - (σ 31 t l2.toNat))), zI (l2 + 1)]) (S' := []) (σ' := σ) (Ps := [0 ≤ l2 ∧ l2 < 10, 0 ≤ l2 ∧ l2 < 10, -2147483648 ≤ (σ 32 t l2.toNat) - (σ 31 t l2.toNat) ∧ (σ 32 t l2.toNat) - (σ 31 t l2.toNat) ≤ 2147483647, -2147483648 ≤ l1 + ((σ 32 t l2.toNat) - (σ 31 t l2.toNat)) ∧ l1 + ((σ 32 t l2.toNat) - (σ 31 t l2.toNat)) ≤ 2147483647, -2147483648 ≤ l2 + 1 ∧ l2 + 1 ≤ 2147483647]) (by decide +kernel) rfl ⟨h.1, h.2.1, h.2.2.1, h.2.2.2.1, h.2.2.2.2.1, trivial⟩ ?_
    replace h := h.2.2.2.2.2
    exact Runs.fg (fgE (fgE (fgE fg0))) h
theorem gX11_findsRoad_0 (a0 : Int) (a1 : Int) (a2 : Int) (σ : Hp) {Q : Option Int → Hp → Prop} (h : Runs 4 mX11_finds 0 [zR 34 0, zI a0, zI a2, zU, zU, zU, zU, zU] [] σ (rV (fun σ1 => (0 ≤ a1 ∧ a1 < 10) ∧ ((0 ≤ σ1 41 0 a1.toNat → Runs 5 mX11_findsRoad 30 [zR 34 0, zI a0, zU, zU, zI a1, zU, zU, zU, zU, zU] [] (zup (zup σ1 34 0 14 0) 34 0 15 0) Q) ∧ (¬ 0 ≤ σ1 41 0 a1.toNat → Q (some 0) (zup (zup σ1 34 0 14 0) 34 0 15 0)))))) : Runs 5 mX11_findsRoad 0 [zR 34 0, zI a0, zI a1, zI a2, zU, zU, zU, zU, zU, zU] [] σ Q := by
  refine r_blk [qO (.aload_n 0), qO (.iload_n 1), qO (.iload_n 3)] (pc' := 3) (L' := [zR 34 0, zI a0, zI a1, zI a2, zU, zU, zU, zU, zU, zU]) (S' := [zI a2, zI a0, zR 34 0]) (σ' := σ) (Ps := []) (by decide +kernel) rfl trivial ?_
  refine r_callVV (As := [zI a0, zI a2]) (S := []) (Lc := [zR 34 0, zI a0, zI a2, zU, zU, zU, zU, zU]) (d' := 4) (n := 2) (g := 34) (x := 0) (ci := 11) kX11_finds vX11_finds lkX11_142 (by decide +kernel) (by decide) rfl rfl (by decide) rfl rfl (Nat.le_of_ble_eq_true rfl) rfl rfl (Nat.le_of_ble_eq_true rfl) (h.monoV (fun σ1 h => ?_))
  refine r_blk [qO (.aload_n 0), qO (.iconst 0), qF (.putfield 146) 11 14, qO (.aload_n 0), qO (.iconst 0), qF (.putfield 149) 11 15, qO (.aload_n 0), qF (.getfield 28) 11 9, qO (.iload_n 2), qO .iaload] (pc' := 22) (L' := [zR 34 0, zI a0, zI a1, zI a2, zU, zU, zU, zU, zU, zU]) (S' := [zI (σ1 41 0 a1.toNat)]) (σ' := (zup (zup σ1 34 0 14 0) 34 0 15 0)) (Ps := [0 ≤ a1 ∧ a1 < 10]) (by decide +kernel) rfl ⟨h.1, trivial⟩ ?_
  replace h := h.2
  refine r_if_ge (off := 5) (tgt := 27) (by decide +kernel) (by decide) (fun c => ?_) (fun c => ?_)
  · replace h := h.1 c
    refine r_blk [qO (.iload_n 2), qO (.istore 4)] (pc' := 30) (L' := [zR 34 0, zI a0, zI a1, zI a2, zI a1, zU, zU, zU, zU, zU]) (S' := []) (σ' := (zup (zup σ1 34 0 14 0) 34 0 15 0)) (Ps := []) (by decide +kernel) rfl trivial ?_
    exact Runs.fg (fgE (fgE (fgU (fgU (fgE (fgU (fgU (fgU (fgU (fgU fg0)))))))))) h
  · replace h := h.2 c
    refine r_blk [qO (.iconst 0)] (pc' := 26) (L' := [zR 34 0, zI a0, zI a1, zI a2, zU, zU, zU, zU, zU, zU]) (S' := [zI 0]) (σ' := (zup (zup σ1 34 0 14 0) 34 0 15 0)) (Ps := []) (by decide +kernel) rfl trivial ?_
    exact r_retz (by decide +kernel) rfl (by decide) h
theorem gX11_findsRoad_30 (l1 : Int) (l4 : Int) (σ : Hp) {Q : Option Int → Hp → Prop} (h : ((l4 = l1 → (0 ≤ σ 34 0 14 ∧ σ 34 0 14 < 11) ∧ Q (some 1) (zup σ 43 0 ((σ 34 0 14).toNat) l1)) ∧ (¬ l4 = l1 → (0 ≤ σ 34 0 14 ∧ σ 34 0 14 < 11) ∧ (-2147483648 ≤ (σ 36 0 1) - 1 ∧ (σ 36 0 1) - 1 ≤ 2147483647) ∧ Runs 5 mX11_findsRoad 61 [zR 34 0, zI l1, zU, zU, zI l4, zI (-9), zI ((σ 36 0 1) - 1), zU, zU, zU] [] (zup σ 43 0 ((σ 34 0 14).toNat) l4) Q))) : Runs 5 mX11_findsRoad 30 [zR 34 0, zI l1, zU, zU, zI l4, zU, zU, zU, zU, zU] [] σ Q := by
  refine r_blk [qO (.iload 4), qO (.iload_n 1)] (pc' := 33) (L' := [zR 34 0, zI l1, zU, zU, zI l4, zU, zU, zU, zU, zU]) (S' := [zI l1, zI l4]) (σ' := σ) (Ps := []) (by decide +kernel) rfl trivial ?_
  refine r_icmp_eq (off := 237) (tgt := 270) (by decide +kernel) (by decide) (fun c => ?_) (fun c => ?_)
  · replace h := h.1 c
    refine r_blk [qO (.aload_n 0), qF (.getfield 35) 11 11, qO (.aload_n 0), qF (.getfield 146) 11 14, qO (.iload_n 1), qO .iastore, qO (.iconst 1)] (pc' := 281) (L' := [zR 34 0, zI l1, zU, zU, zI l4, zU, zU, zU, zU, zU]) (S' := [zI 1]) (σ' := (zup σ 43 0 ((σ 34 0 14).toNat) l1)) (Ps := [0 ≤ σ 34 0 14 ∧ σ 34 0 14 < 11]) (by decide +kernel) rfl ⟨h.1, trivial⟩ ?_
    replace h := h.2
    exact r_retz (by decide +kernel) rfl (by decide) h
  · replace h := h.2 c
    refine r_blk [qO (.aload_n 0), qF (.getfield 35) 11 11, qO (.aload_n 0), qF (.getfield 146) 11 14, qO (.iload 4), qO .iastore, qO (.bipush (-9)), qO (.istore 5), qO (.aload_n 0), qF (.getfield 13) 11 1, qO (.iconst 1), qO .iaload, qO (.iconst 1), qO .isub, qO (.istore 6)] (pc' := 61) (L' := [zR 34 0, zI l1, zU, zU, zI l4, zI (-9), zI ((σ 36 0 1) - 1), zU, zU, zU]) (S' := []) (σ' := (zup σ 43 0 ((σ 34 0 14).toNat) l4)) (Ps := [0 ≤ σ 34 0 14 ∧ σ 34 0 14 < 11, 0 ≤ 1 ∧ 1 < 123, -2147483648 ≤ (σ 36 0 1) - 1 ∧ (σ 36 0 1) - 1 ≤ 2147483647]) (by decide +kernel) rfl ⟨h.1, (by decide), h.2.1, trivial⟩ ?_
    replace h := h.2.2
    exact Runs.fg (fgE (fgE (fgU (fgU (fgE (fgE (fgE (fgU (fgU (fgU fg0)))))))))) h
theorem gX11_findsRoad_61 (l1 : Int) (l4 : Int) (l5 : Int) (l6 : Int) (σ : Hp) {Q : Option Int → Hp → Prop} (h : ((l6 < 0 → (0 ≤ σ 34 0 14 ∧ σ 34 0 14 < 10) ∧ (0 ≤ l5 ∧ l5 < 14) ∧ ((¬ sg ((zup σ 44 0 ((σ 34 0 14).toNat) l5) 36 0) l5 0 = l4 → (0 ≤ l5 ∧ l5 < 14) ∧ (0 ≤ σ 34 0 14 ∧ σ 34 0 14 < 10) ∧ (0 ≤ sg ((zup σ 44 0 ((σ 34 0 14).toNat) l5) 36 0) l5 0 ∧ sg ((zup σ 44 0 ((σ 34 0 14).toNat) l5) 36 0) l5 0 < 10) ∧ (-2147483648 ≤ (σ 45 0 ((σ 34 0 14).toNat)) - (σ 41 0 ((sg ((zup σ 44 0 ((σ 34 0 14).toNat) l5) 36 0) l5 0).toNat)) ∧ (σ 45 0 ((σ 34 0 14).toNat)) - (σ 41 0 ((sg ((zup σ 44 0 ((σ 34 0 14).toNat) l5) 36 0) l5 0).toNat)) ≤ 2147483647) ∧ (-2147483648 ≤ (σ 34 0 15) + ((σ 45 0 ((σ 34 0 14).toNat)) - (σ 41 0 ((sg ((zup σ 44 0 ((σ 34 0 14).toNat) l5) 36 0) l5 0).toNat))) ∧ (σ 34 0 15) + ((σ 45 0 ((σ 34 0 14).toNat)) - (σ 41 0 ((sg ((zup σ 44 0 ((σ 34 0 14).toNat) l5) 36 0) l5 0).toNat))) ≤ 2147483647) ∧ (-2147483648 ≤ (σ 34 0 14) + 1 ∧ (σ 34 0 14) + 1 ≤ 2147483647) ∧ ∀ σ1 : Hp, σ1 = (zup (zup (zup σ 44 0 ((σ 34 0 14).toNat) l5) 34 0 15 ((σ 34 0 15) + ((σ 45 0 ((σ 34 0 14).toNat)) - (σ 41 0 ((sg ((zup σ 44 0 ((σ 34 0 14).toNat) l5) 36 0) l5 0).toNat))))) 34 0 14 ((σ 34 0 14) + 1)) → Runs 5 mX11_findsRoad 30 [zR 34 0, zI l1, zU, zU, zI (sg ((zup σ 44 0 ((σ 34 0 14).toNat) l5) 36 0) l5 0), zU, zU, zU, zU, zU] [] σ1 Q) ∧ (sg ((zup σ 44 0 ((σ 34 0 14).toNat) l5) 36 0) l5 0 = l4 → (0 ≤ l5 ∧ l5 < 14) ∧ (0 ≤ σ 34 0 14 ∧ σ 34 0 14 < 10) ∧ (0 ≤ sg ((zup σ 44 0 ((σ 34 0 14).toNat) l5) 36 0) l5 1 ∧ sg ((zup σ 44 0 ((σ 34 0 14).toNat) l5) 36 0) l5 1 < 10) ∧ (-2147483648 ≤ (σ 45 0 ((σ 34 0 14).toNat)) - (σ 41 0 ((sg ((zup σ 44 0 ((σ 34 0 14).toNat) l5) 36 0) l5 1).toNat)) ∧ (σ 45 0 ((σ 34 0 14).toNat)) - (σ 41 0 ((sg ((zup σ 44 0 ((σ 34 0 14).toNat) l5) 36 0) l5 1).toNat)) ≤ 2147483647) ∧ (-2147483648 ≤ (σ 34 0 15) + ((σ 45 0 ((σ 34 0 14).toNat)) - (σ 41 0 ((sg ((zup σ 44 0 ((σ 34 0 14).toNat) l5) 36 0) l5 1).toNat))) ∧ (σ 34 0 15) + ((σ 45 0 ((σ 34 0 14).toNat)) - (σ 41 0 ((sg ((zup σ 44 0 ((σ 34 0 14).toNat) l5) 36 0) l5 1).toNat))) ≤ 2147483647) ∧ (-2147483648 ≤ (σ 34 0 14) + 1 ∧ (σ 34 0 14) + 1 ≤ 2147483647) ∧ ∀ σ2 : Hp, σ2 = (zup (zup (zup σ 44 0 ((σ 34 0 14).toNat) l5) 34 0 15 ((σ 34 0 15) + ((σ 45 0 ((σ 34 0 14).toNat)) - (σ 41 0 ((sg ((zup σ 44 0 ((σ 34 0 14).toNat) l5) 36 0) l5 1).toNat))))) 34 0 14 ((σ 34 0 14) + 1)) → Runs 5 mX11_findsRoad 30 [zR 34 0, zI l1, zU, zU, zI (sg ((zup σ 44 0 ((σ 34 0 14).toNat) l5) 36 0) l5 1), zU, zU, zU, zU, zU] [] σ2 Q))) ∧ (¬ l6 < 0 → Runs 5 mX11_findsRoad 69 [zR 34 0, zI l1, zU, zU, zI l4, zI l5, zI l6, zI 0, zU, zU] [] σ Q))) : Runs 5 mX11_findsRoad 61 [zR 34 0, zI l1, zU, zU, zI l4, zI l5, zI l6, zU, zU, zU] [] σ Q := by
  refine r_blk [qO (.iload 6)] (pc' := 63) (L' := [zR 34 0, zI l1, zU, zU, zI l4, zI l5, zI l6, zU, zU, zU]) (S' := [zI l6]) (σ' := σ) (Ps := []) (by decide +kernel) rfl trivial ?_
  refine r_if_lt (off := 122) (tgt := 185) (by decide +kernel) (by decide) (fun c => ?_) (fun c => ?_)
  · replace h := h.1 c
    refine r_blk [qO (.aload_n 0), qF (.getfield 38) 11 12, qO (.aload_n 0), qF (.getfield 146) 11 14, qO (.iload 5), qO .iastore, qO (.aload_n 0), qO (.iload 5), qO (.iconst 0)] (pc' := 200) (L' := [zR 34 0, zI l1, zU, zU, zI l4, zI l5, zI l6, zU, zU, zU]) (S' := [zI 0, zI l5, zR 34 0]) (σ' := (zup σ 44 0 ((σ 34 0 14).toNat) l5)) (Ps := [0 ≤ σ 34 0 14 ∧ σ 34 0 14 < 10]) (by decide +kernel) rfl ⟨h.1, trivial⟩ ?_
    replace h := h.2
    refine r_callVI (As := [zI l5, zI 0]) (S := []) (Lc := [zR 34 0, zI l5, zI 0]) (d' := 0) (n := 2) (g := 34) (x := 0) (ci := 11) kX11_get vX11_get lkX11_106 (by decide +kernel) (by decide) rfl rfl (by decide) rfl rfl (Nat.le_of_ble_eq_true rfl) rfl rfl (Nat.le_of_ble_eq_true rfl) (pX11_get h.1 (by decide) ?_)
    replace h := h.2
    refine r_blk [qO (.iload 4)] (pc' := 205) (L' := [zR 34 0, zI l1, zU, zU, zI l4, zI l5, zI l6, zU, zU, zU]) (S' := [zI l4, zI (sg ((zup σ 44 0 ((σ 34 0 14).toNat) l5) 36 0) l5 0)]) (σ' := (zup σ 44 0 ((σ 34 0 14).toNat) l5)) (Ps := []) (by decide +kernel) rfl trivial ?_
    refine r_icmp_ne (off := 13) (tgt := 218) (by decide +kernel) (by decide) (fun c => ?_) (fun c => ?_)
    · replace h := h.1 c
      refine r_blk [qO (.aload_n 0), qO (.iload 5), qO (.iconst 0)] (pc' := 222) (L' := [zR 34 0, zI l1, zU, zU, zI l4, zI l5, zI l6, zU, zU, zU]) (S' := [zI 0, zI l5, zR 34 0]) (σ' := (zup σ 44 0 ((σ 34 0 14).toNat) l5)) (Ps := []) (by decide +kernel) rfl trivial ?_
      refine r_callVI (As := [zI l5, zI 0]) (S := []) (Lc := [zR 34 0, zI l5, zI 0]) (d' := 0) (n := 2) (g := 34) (x := 0) (ci := 11) kX11_get vX11_get lkX11_106 (by decide +kernel) (by decide) rfl rfl (by decide) rfl rfl (Nat.le_of_ble_eq_true rfl) rfl rfl (Nat.le_of_ble_eq_true rfl) (pX11_get h.1 (by decide) ?_)
      replace h := h.2
      refine r_blk [qO (.istore 6), qO (.aload_n 0), qO .dup, qF (.getfield 149) 11 15, qO (.aload_n 0), qF (.getfield 41) 11 13, qO (.aload_n 0), qF (.getfield 146) 11 14, qO .iaload, qO (.aload_n 0), qF (.getfield 28) 11 9, qO (.iload 6), qO .iaload, qO .isub, qO .iadd, qF (.putfield 149) 11 15, qO (.aload_n 0), qO .dup, qF (.getfield 146) 11 14, qO (.iconst 1), qO .iadd, qF (.putfield 146) 11 14, qO (.iload 6), qO (.istore 4), qO (.goto (-237))] (pc' := 30) (L' := [zR 34 0, zI l1, zU, zU, zI (sg ((zup σ 44 0 ((σ 34 0 14).toNat) l5) 36 0) l5 0), zI l5, zI (sg ((zup σ 44 0 ((σ 34 0 14).toNat) l5) 36 0) l5 0), zU, zU, zU]) (S' := []) (σ' := (zup (zup (zup σ 44 0 ((σ 34 0 14).toNat) l5) 34 0 15 ((σ 34 0 15) + ((σ 45 0 ((σ 34 0 14).toNat)) - (σ 41 0 ((sg ((zup σ 44 0 ((σ 34 0 14).toNat) l5) 36 0) l5 0).toNat))))) 34 0 14 ((σ 34 0 14) + 1))) (Ps := [0 ≤ σ 34 0 14 ∧ σ 34 0 14 < 10, 0 ≤ sg ((zup σ 44 0 ((σ 34 0 14).toNat) l5) 36 0) l5 0 ∧ sg ((zup σ 44 0 ((σ 34 0 14).toNat) l5) 36 0) l5 0 < 10, -2147483648 ≤ (σ 45 0 ((σ 34 0 14).toNat)) - (σ 41 0 ((sg ((zup σ 44 0 ((σ 34 0 14).toNat) l5) 36 0) l5 0).toNat)) ∧ (σ 45 0 ((σ 34 0 14).toNat)) - (σ 41 0 ((sg ((zup σ 44 0 ((σ 34 0 14).toNat) l5) 36 0) l5 0).toNat)) ≤ 2147483647, -2147483648 ≤ (σ 34 0 15) + ((σ 45 0 ((σ 34 0 14).toNat)) - (σ 41 0 ((sg ((zup σ 44 0 ((σ 34 0 14).toNat) l5) 36 0) l5 0).toNat))) ∧ (σ 34 0 15) + ((σ 45 0 ((σ 34 0 14).toNat)) - (σ 41 0 ((sg ((zup σ 44 0 ((σ 34 0 14).toNat) l5) 36 0) l5 0).toNat))) ≤ 2147483647, -2147483648 ≤ (σ 34 0 14) + 1 ∧ (σ 34 0 14) + 1 ≤ 2147483647]) (by decide +kernel) rfl ⟨h.1, h.2.1, h.2.2.1, h.2.2.2.1, h.2.2.2.2.1, trivial⟩ ?_
      replace h := h.2.2.2.2.2
      generalize hσ1 : (zup (zup (zup σ 44 0 ((σ 34 0 14).toNat) l5) 34 0 15 ((σ 34 0 15) + ((σ 45 0 ((σ 34 0 14).toNat)) - (σ 41 0 ((sg ((zup σ 44 0 ((σ 34 0 14).toNat) l5) 36 0) l5 0).toNat))))) 34 0 14 ((σ 34 0 14) + 1)) = σ1
      replace h := h σ1 hσ1.symm
      exact Runs.fg (fgE (fgE (fgU (fgU (fgE (fgU (fgU (fgU (fgU (fgU fg0)))))))))) h
    · replace h := h.2 c
      refine r_blk [qO (.aload_n 0), qO (.iload 5), qO (.iconst 1)] (pc' := 212) (L' := [zR 34 0, zI l1, zU, zU, zI l4, zI l5, zI l6, zU, zU, zU]) (S' := [zI 1, zI l5, zR 34 0]) (σ' := (zup σ 44 0 ((σ 34 0 14).toNat) l5)) (Ps := []) (by decide +kernel) rfl trivial ?_
      refine r_callVI (As := [zI l5, zI 1]) (S := []) (Lc := [zR 34 0, zI l5, zI 1]) (d' := 0) (n := 2) (g := 34) (x := 0) (ci := 11) kX11_get vX11_get lkX11_106 (by decide +kernel) (by decide) rfl rfl (by decide) rfl rfl (Nat.le_of_ble_eq_true rfl) rfl rfl (Nat.le_of_ble_eq_true rfl) (pX11_get h.1 (by decide) ?_)
      replace h := h.2
      refine r_blk [qO (.goto 10), qO (.istore 6), qO (.aload_n 0), qO .dup, qF (.getfield 149) 11 15, qO (.aload_n 0), qF (.getfield 41) 11 13, qO (.aload_n 0), qF (.getfield 146) 11 14, qO .iaload, qO (.aload_n 0), qF (.getfield 28) 11 9, qO (.iload 6), qO .iaload, qO .isub, qO .iadd, qF (.putfield 149) 11 15, qO (.aload_n 0), qO .dup, qF (.getfield 146) 11 14, qO (.iconst 1), qO .iadd, qF (.putfield 146) 11 14, qO (.iload 6), qO (.istore 4), qO (.goto (-237))] (pc' := 30) (L' := [zR 34 0, zI l1, zU, zU, zI (sg ((zup σ 44 0 ((σ 34 0 14).toNat) l5) 36 0) l5 1), zI l5, zI (sg ((zup σ 44 0 ((σ 34 0 14).toNat) l5) 36 0) l5 1), zU, zU, zU]) (S' := []) (σ' := (zup (zup (zup σ 44 0 ((σ 34 0 14).toNat) l5) 34 0 15 ((σ 34 0 15) + ((σ 45 0 ((σ 34 0 14).toNat)) - (σ 41 0 ((sg ((zup σ 44 0 ((σ 34 0 14).toNat) l5) 36 0) l5 1).toNat))))) 34 0 14 ((σ 34 0 14) + 1))) (Ps := [0 ≤ σ 34 0 14 ∧ σ 34 0 14 < 10, 0 ≤ sg ((zup σ 44 0 ((σ 34 0 14).toNat) l5) 36 0) l5 1 ∧ sg ((zup σ 44 0 ((σ 34 0 14).toNat) l5) 36 0) l5 1 < 10, -2147483648 ≤ (σ 45 0 ((σ 34 0 14).toNat)) - (σ 41 0 ((sg ((zup σ 44 0 ((σ 34 0 14).toNat) l5) 36 0) l5 1).toNat)) ∧ (σ 45 0 ((σ 34 0 14).toNat)) - (σ 41 0 ((sg ((zup σ 44 0 ((σ 34 0 14).toNat) l5) 36 0) l5 1).toNat)) ≤ 2147483647, -2147483648 ≤ (σ 34 0 15) + ((σ 45 0 ((σ 34 0 14).toNat)) - (σ 41 0 ((sg ((zup σ 44 0 ((σ 34 0 14).toNat) l5) 36 0) l5 1).toNat))) ∧ (σ 34 0 15) + ((σ 45 0 ((σ 34 0 14).toNat)) - (σ 41 0 ((sg ((zup σ 44 0 ((σ 34 0 14).toNat) l5) 36 0) l5 1).toNat))) ≤ 2147483647, -2147483648 ≤ (σ 34 0 14) + 1 ∧ (σ 34 0 14) + 1 ≤ 2147483647]) (by decide +kernel) rfl ⟨h.1, h.2.1, h.2.2.1, h.2.2.2.1, h.2.2.2.2.1, trivial⟩ ?_
      replace h := h.2.2.2.2.2
      generalize hσ2 : (zup (zup (zup σ 44 0 ((σ 34 0 14).toNat) l5) 34 0 15 ((σ 34 0 15) + ((σ 45 0 ((σ 34 0 14).toNat)) - (σ 41 0 ((sg ((zup σ 44 0 ((σ 34 0 14).toNat) l5) 36 0) l5 1).toNat))))) 34 0 14 ((σ 34 0 14) + 1)) = σ2
      replace h := h σ2 hσ2.symm
      exact Runs.fg (fgE (fgE (fgU (fgU (fgE (fgU (fgU (fgU (fgU (fgU fg0)))))))))) h
  · replace h := h.2 c
    refine r_blk [qO (.iconst 0), qO (.istore 7)] (pc' := 69) (L' := [zR 34 0, zI l1, zU, zU, zI l4, zI l5, zI l6, zI 0, zU, zU]) (S' := []) (σ' := σ) (Ps := []) (by decide +kernel) rfl trivial ?_
    exact Runs.fg (fgE (fgE (fgU (fgU (fgE (fgE (fgE (fgE (fgU (fgU fg0)))))))))) h
theorem gX11_findsRoad_69 (l1 : Int) (l4 : Int) (l5 : Int) (l6 : Int) (l7 : Int) (σ : Hp) {Q : Option Int → Hp → Prop} (h : ((2 ≤ l7 → (-2147483648 ≤ l6 + (-1) ∧ l6 + (-1) ≤ 2147483647) ∧ Runs 5 mX11_findsRoad 61 [zR 34 0, zI l1, zU, zU, zI l4, zI l5, zI (l6 + (-1)), zU, zU, zU] [] σ Q) ∧ (¬ 2 ≤ l7 → (0 ≤ l6 ∧ l6 < 14) ∧ ((0 : Int) ≤ l7 ∧ l7 < 5) ∧ (-2147483648 ≤ 1 - l7 ∧ 1 - l7 ≤ 2147483647) ∧ (0 ≤ l6 ∧ l6 < 14) ∧ ((0 : Int) ≤ (1 - l7) ∧ (1 - l7) < 5) ∧ ((¬ sg (σ 36 0) l6 (1 - l7) = l4 → (-2147483648 ≤ l7 + 1 ∧ l7 + 1 ≤ 2147483647) ∧ Runs 5 mX11_findsRoad 69 [zR 34 0, zI l1, zU, zU, zI l4, zI l5, zI l6, zI (l7 + 1), zU, zU] [] σ Q) ∧ (sg (σ 36 0) l6 (1 - l7) = l4 → (0 ≤ sg (σ 36 0) l6 l7 ∧ sg (σ 36 0) l6 l7 < 10) ∧ ((0 ≤ σ 41 0 ((sg (σ 36 0) l6 l7).toNat) → (0 ≤ sg (σ 36 0) l6 l7 ∧ sg (σ 36 0) l6 l7 < 10) ∧ (WF (σ 36 0)) ∧ (0 ≤ l6 ∧ l6 < σ 36 0 1) ∧ ((0 : Int) ≤ (σ 41 0 ((sg (σ 36 0) l6 l7).toNat)) ∧ (σ 41 0 ((sg (σ 36 0) l6 l7).toNat)) ≤ 1000000) ∧ (l7 = 0 ∨ l7 = 1) ∧ ((entS (σ 36 0) l6 l7 (σ 41 0 ((sg (σ 36 0) l6 l7).toNat)) < 0 → (-2147483648 ≤ l7 + 1 ∧ l7 + 1 ≤ 2147483647) ∧ Runs 5 mX11_findsRoad 69 [zR 34 0, zI l1, zU, zU, zI l4, zI l5, zI l6, zI (l7 + 1), zU, zU] [] σ Q) ∧ (¬ entS (σ 36 0) l6 l7 (σ 41 0 ((sg (σ 36 0) l6 l7).toNat)) < 0 → (0 ≤ l6 ∧ l6 < 14) ∧ (-2147483648 ≤ (entS (σ 36 0) l6 l7 (σ 41 0 ((sg (σ 36 0) l6 l7).toNat))) + (sg (σ 36 0) l6 2) ∧ (entS (σ 36 0) l6 l7 (σ 41 0 ((sg (σ 36 0) l6 l7).toNat))) + (sg (σ 36 0) l6 2) ≤ 2147483647) ∧ (0 ≤ l4 ∧ l4 < 10) ∧ ∀ z1 : Int, z1 = (entS (σ 36 0) l6 l7 (σ 41 0 ((sg (σ 36 0) l6 l7).toNat))) + (sg (σ 36 0) l6 2) → ((z1 = σ 41 0 l4.toNat → (0 ≤ σ 34 0 14 ∧ σ 34 0 14 < 10) ∧ (-2147483648 ≤ l7 + 1 ∧ l7 + 1 ≤ 2147483647) ∧ ∀ σ2 : Hp, σ2 = (zup σ 45 0 ((σ 34 0 14).toNat) (entS (σ 36 0) l6 l7 (σ 41 0 ((sg (σ 36 0) l6 l7).toNat)))) → Runs 5 mX11_findsRoad 69 [zR 34 0, zI l1, zU, zU, zI l4, zI l6, zI l6, zI (l7 + 1), zU, zU] [] σ2 Q) ∧ (¬ z1 = σ 41 0 l4.toNat → (-2147483648 ≤ l7 + 1 ∧ l7 + 1 ≤ 2147483647) ∧ Runs 5 mX11_findsRoad 69 [zR 34 0, zI l1, zU, zU, zI l4, zI l5, zI l6, zI (l7 + 1), zU, zU] [] σ Q))))) ∧ (¬ 0 ≤ σ 41 0 ((sg (σ 36 0) l6 l7).toNat) → (-2147483648 ≤ l7 + 1 ∧ l7 + 1 ≤ 2147483647) ∧ Runs 5 mX11_findsRoad 69 [zR 34 0, zI l1, zU, zU, zI l4, zI l5, zI l6, zI (l7 + 1), zU, zU] [] σ Q))))))) : Runs 5 mX11_findsRoad 69 [zR 34 0, zI l1, zU, zU, zI l4, zI l5, zI l6, zI l7, zU, zU] [] σ Q := by
  refine r_blk [qO (.iload 7), qO (.iconst 2)] (pc' := 72) (L' := [zR 34 0, zI l1, zU, zU, zI l4, zI l5, zI l6, zI l7, zU, zU]) (S' := [zI 2, zI l7]) (σ' := σ) (Ps := []) (by decide +kernel) rfl trivial ?_
  refine r_icmp_ge (off := 107) (tgt := 179) (by decide +kernel) (by decide) (fun c => ?_) (fun c => ?_)
  · replace h := h.1 c
    refine r_blk [qO (.iinc 6 (-1)), qO (.goto (-121))] (pc' := 61) (L' := [zR 34 0, zI l1, zU, zU, zI l4, zI l5, zI (l6 + (-1)), zI l7, zU, zU]) (S' := []) (σ' := σ) (Ps := [-2147483648 ≤ l6 + (-1) ∧ l6 + (-1) ≤ 2147483647]) (by decide +kernel) rfl ⟨h.1, trivial⟩ ?_
    replace h := h.2
    exact Runs.fg (fgE (fgE (fgU (fgU (fgE (fgE (fgE (fgU (fgU (fgU fg0)))))))))) h
  · replace h := h.2 c
    refine r_blk [qO (.aload_n 0), qO (.iload 6), qO (.iload 7)] (pc' := 80) (L' := [zR 34 0, zI l1, zU, zU, zI l4, zI l5, zI l6, zI l7, zU, zU]) (S' := [zI l7, zI l6, zR 34 0]) (σ' := σ) (Ps := []) (by decide +kernel) rfl trivial ?_
    refine r_callVI (As := [zI l6, zI l7]) (S := []) (Lc := [zR 34 0, zI l6, zI l7]) (d' := 0) (n := 2) (g := 34) (x := 0) (ci := 11) kX11_get vX11_get lkX11_106 (by decide +kernel) (by decide) rfl rfl (by decide) rfl rfl (Nat.le_of_ble_eq_true rfl) rfl rfl (Nat.le_of_ble_eq_true rfl) (pX11_get h.1 h.2.1 ?_)
    replace h := h.2.2
    refine r_blk [qO (.istore 8), qO (.aload_n 0), qO (.iload 6), qO (.iconst 1), qO (.iload 7), qO .isub] (pc' := 92) (L' := [zR 34 0, zI l1, zU, zU, zI l4, zI l5, zI l6, zI l7, zI (sg (σ 36 0) l6 l7), zU]) (S' := [zI (1 - l7), zI l6, zR 34 0]) (σ' := σ) (Ps := [-2147483648 ≤ 1 - l7 ∧ 1 - l7 ≤ 2147483647]) (by decide +kernel) rfl ⟨h.1, trivial⟩ ?_
    replace h := h.2
    refine r_callVI (As := [zI l6, zI (1 - l7)]) (S := []) (Lc := [zR 34 0, zI l6, zI (1 - l7)]) (d' := 0) (n := 2) (g := 34) (x := 0) (ci := 11) kX11_get vX11_get lkX11_106 (by decide +kernel) (by decide) rfl rfl (by decide) rfl rfl (Nat.le_of_ble_eq_true rfl) rfl rfl (Nat.le_of_ble_eq_true rfl) (pX11_get h.1 h.2.1 ?_)
    replace h := h.2.2
    refine r_blk [qO (.iload 4)] (pc' := 97) (L' := [zR 34 0, zI l1, zU, zU, zI l4, zI l5, zI l6, zI l7, zI (sg (σ 36 0) l6 l7), zU]) (S' := [zI l4, zI (sg (σ 36 0) l6 (1 - l7))]) (σ' := σ) (Ps := []) (by decide +kernel) rfl trivial ?_
    refine r_icmp_ne (off := 76) (tgt := 173) (by decide +kernel) (by decide) (fun c => ?_) (fun c => ?_)
    · replace h := h.1 c
      refine r_blk [qO (.iinc 7 1), qO (.goto (-107))] (pc' := 69) (L' := [zR 34 0, zI l1, zU, zU, zI l4, zI l5, zI l6, zI (l7 + 1), zI (sg (σ 36 0) l6 l7), zU]) (S' := []) (σ' := σ) (Ps := [-2147483648 ≤ l7 + 1 ∧ l7 + 1 ≤ 2147483647]) (by decide +kernel) rfl ⟨h.1, trivial⟩ ?_
      replace h := h.2
      exact Runs.fg (fgE (fgE (fgU (fgU (fgE (fgE (fgE (fgE (fgU (fgU fg0)))))))))) h
    · replace h := h.2 c
      refine r_blk [qO (.aload_n 0), qF (.getfield 28) 11 9, qO (.iload 8), qO .iaload] (pc' := 107) (L' := [zR 34 0, zI l1, zU, zU, zI l4, zI l5, zI l6, zI l7, zI (sg (σ 36 0) l6 l7), zU]) (S' := [zI (σ 41 0 ((sg (σ 36 0) l6 l7).toNat))]) (σ' := σ) (Ps := [0 ≤ sg (σ 36 0) l6 l7 ∧ sg (σ 36 0) l6 l7 < 10]) (by decide +kernel) rfl ⟨h.1, trivial⟩ ?_
      replace h := h.2
      refine r_if_ge (off := 6) (tgt := 113) (by decide +kernel) (by decide) (fun c => ?_) (fun c => ?_)
      · replace h := h.1 c
        refine r_blk [qO (.aload_n 0), qO (.iload 6), qO (.iload 7), qO (.aload_n 0), qF (.getfield 28) 11 9, qO (.iload 8), qO .iaload] (pc' := 125) (L' := [zR 34 0, zI l1, zU, zU, zI l4, zI l5, zI l6, zI l7, zI (sg (σ 36 0) l6 l7), zU]) (S' := [zI (σ 41 0 ((sg (σ 36 0) l6 l7).toNat)), zI l7, zI l6, zR 34 0]) (σ' := σ) (Ps := [0 ≤ sg (σ 36 0) l6 l7 ∧ sg (σ 36 0) l6 l7 < 10]) (by decide +kernel) rfl ⟨h.1, trivial⟩ ?_
        replace h := h.2
        refine r_callVI (As := [zI l6, zI l7, zI (σ 41 0 ((sg (σ 36 0) l6 l7).toNat))]) (S := []) (Lc := [zR 34 0, zI l6, zI l7, zI (σ 41 0 ((sg (σ 36 0) l6 l7).toNat)), zU, zU]) (d' := 3) (n := 3) (g := 34) (x := 0) (ci := 11) kX11_enters vX11_enters lkX11_133 (by decide +kernel) (by decide) rfl rfl (by decide) rfl rfl (Nat.le_of_ble_eq_true rfl) rfl rfl (Nat.le_of_ble_eq_true rfl) (pX11_enters h.1 h.2.1 h.2.2.1 h.2.2.2.1 ?_)
        replace h := h.2.2.2.2
        refine r_blk [qO (.istore 9), qO (.iload 9)] (pc' := 132) (L' := [zR 34 0, zI l1, zU, zU, zI l4, zI l5, zI l6, zI l7, zI (sg (σ 36 0) l6 l7), zI (entS (σ 36 0) l6 l7 (σ 41 0 ((sg (σ 36 0) l6 l7).toNat)))]) (S' := [zI (entS (σ 36 0) l6 l7 (σ 41 0 ((sg (σ 36 0) l6 l7).toNat)))]) (σ' := σ) (Ps := []) (by decide +kernel) rfl trivial ?_
        refine r_if_lt (off := 41) (tgt := 173) (by decide +kernel) (by decide) (fun c => ?_) (fun c => ?_)
        · replace h := h.1 c
          refine r_blk [qO (.iinc 7 1), qO (.goto (-107))] (pc' := 69) (L' := [zR 34 0, zI l1, zU, zU, zI l4, zI l5, zI l6, zI (l7 + 1), zI (sg (σ 36 0) l6 l7), zI (entS (σ 36 0) l6 l7 (σ 41 0 ((sg (σ 36 0) l6 l7).toNat)))]) (S' := []) (σ' := σ) (Ps := [-2147483648 ≤ l7 + 1 ∧ l7 + 1 ≤ 2147483647]) (by decide +kernel) rfl ⟨h.1, trivial⟩ ?_
          replace h := h.2
          exact Runs.fg (fgE (fgE (fgU (fgU (fgE (fgE (fgE (fgE (fgU (fgU fg0)))))))))) h
        · replace h := h.2 c
          refine r_blk [qO (.iload 9), qO (.aload_n 0), qO (.iload 6), qO (.iconst 2)] (pc' := 141) (L' := [zR 34 0, zI l1, zU, zU, zI l4, zI l5, zI l6, zI l7, zI (sg (σ 36 0) l6 l7), zI (entS (σ 36 0) l6 l7 (σ 41 0 ((sg (σ 36 0) l6 l7).toNat)))]) (S' := [zI 2, zI l6, zR 34 0, zI (entS (σ 36 0) l6 l7 (σ 41 0 ((sg (σ 36 0) l6 l7).toNat)))]) (σ' := σ) (Ps := []) (by decide +kernel) rfl trivial ?_
          refine r_callVI (As := [zI l6, zI 2]) (S := [zI (entS (σ 36 0) l6 l7 (σ 41 0 ((sg (σ 36 0) l6 l7).toNat)))]) (Lc := [zR 34 0, zI l6, zI 2]) (d' := 0) (n := 2) (g := 34) (x := 0) (ci := 11) kX11_get vX11_get lkX11_106 (by decide +kernel) (by decide) rfl rfl (by decide) rfl rfl (Nat.le_of_ble_eq_true rfl) rfl rfl (Nat.le_of_ble_eq_true rfl) (pX11_get h.1 (by decide) ?_)
          replace h := h.2
          refine r_blk [qO .iadd, qO (.aload_n 0), qF (.getfield 28) 11 9, qO (.iload 4), qO .iaload] (pc' := 152) (L' := [zR 34 0, zI l1, zU, zU, zI l4, zI l5, zI l6, zI l7, zI (sg (σ 36 0) l6 l7), zI (entS (σ 36 0) l6 l7 (σ 41 0 ((sg (σ 36 0) l6 l7).toNat)))]) (S' := [zI (σ 41 0 l4.toNat), zI ((entS (σ 36 0) l6 l7 (σ 41 0 ((sg (σ 36 0) l6 l7).toNat))) + (sg (σ 36 0) l6 2))]) (σ' := σ) (Ps := [-2147483648 ≤ (entS (σ 36 0) l6 l7 (σ 41 0 ((sg (σ 36 0) l6 l7).toNat))) + (sg (σ 36 0) l6 2) ∧ (entS (σ 36 0) l6 l7 (σ 41 0 ((sg (σ 36 0) l6 l7).toNat))) + (sg (σ 36 0) l6 2) ≤ 2147483647, 0 ≤ l4 ∧ l4 < 10]) (by decide +kernel) rfl ⟨h.1, h.2.1, trivial⟩ ?_
          replace h := h.2.2
          generalize hz1 : (entS (σ 36 0) l6 l7 (σ 41 0 ((sg (σ 36 0) l6 l7).toNat))) + (sg (σ 36 0) l6 2) = z1
          replace h := h z1 hz1.symm
          refine r_icmp_eq (off := 6) (tgt := 158) (by decide +kernel) (by decide) (fun c => ?_) (fun c => ?_)
          · replace h := h.1 c
            refine r_blk [qO (.iload 6), qO (.istore 5), qO (.aload_n 0), qF (.getfield 41) 11 13, qO (.aload_n 0), qF (.getfield 146) 11 14, qO (.iload 9), qO .iastore, qO (.iinc 7 1), qO (.goto (-107))] (pc' := 69) (L' := [zR 34 0, zI l1, zU, zU, zI l4, zI l6, zI l6, zI (l7 + 1), zI (sg (σ 36 0) l6 l7), zI (entS (σ 36 0) l6 l7 (σ 41 0 ((sg (σ 36 0) l6 l7).toNat)))]) (S' := []) (σ' := (zup σ 45 0 ((σ 34 0 14).toNat) (entS (σ 36 0) l6 l7 (σ 41 0 ((sg (σ 36 0) l6 l7).toNat))))) (Ps := [0 ≤ σ 34 0 14 ∧ σ 34 0 14 < 10, -2147483648 ≤ l7 + 1 ∧ l7 + 1 ≤ 2147483647]) (by decide +kernel) rfl ⟨h.1, h.2.1, trivial⟩ ?_
            replace h := h.2.2
            generalize hσ2 : (zup σ 45 0 ((σ 34 0 14).toNat) (entS (σ 36 0) l6 l7 (σ 41 0 ((sg (σ 36 0) l6 l7).toNat)))) = σ2
            replace h := h σ2 hσ2.symm
            exact Runs.fg (fgE (fgE (fgU (fgU (fgE (fgE (fgE (fgE (fgU (fgU fg0)))))))))) h
          · replace h := h.2 c
            refine r_blk [qO (.goto 18), qO (.iinc 7 1), qO (.goto (-107))] (pc' := 69) (L' := [zR 34 0, zI l1, zU, zU, zI l4, zI l5, zI l6, zI (l7 + 1), zI (sg (σ 36 0) l6 l7), zI (entS (σ 36 0) l6 l7 (σ 41 0 ((sg (σ 36 0) l6 l7).toNat)))]) (S' := []) (σ' := σ) (Ps := [-2147483648 ≤ l7 + 1 ∧ l7 + 1 ≤ 2147483647]) (by decide +kernel) rfl ⟨h.1, trivial⟩ ?_
            replace h := h.2
            exact Runs.fg (fgE (fgE (fgU (fgU (fgE (fgE (fgE (fgE (fgU (fgU fg0)))))))))) h
      · replace h := h.2 c
        refine r_blk [qO (.goto 63), qO (.iinc 7 1), qO (.goto (-107))] (pc' := 69) (L' := [zR 34 0, zI l1, zU, zU, zI l4, zI l5, zI l6, zI (l7 + 1), zI (sg (σ 36 0) l6 l7), zU]) (S' := []) (σ' := σ) (Ps := [-2147483648 ≤ l7 + 1 ∧ l7 + 1 ≤ 2147483647]) (by decide +kernel) rfl ⟨h.1, trivial⟩ ?_
        replace h := h.2
        exact Runs.fg (fgE (fgE (fgU (fgU (fgE (fgE (fgE (fgE (fgU (fgU fg0)))))))))) h
theorem gX11_stays_0 (a0 : Int) (σ : Hp) {Q : Option Int → Hp → Prop} (h : Runs 6 mX11_stays 2 [zR 34 0, zI a0, zI 0] [] σ Q) : Runs 6 mX11_stays 0 [zR 34 0, zI a0, zU] [] σ Q := by
  refine r_blk [qO (.iconst 0), qO (.istore_n 2)] (pc' := 2) (L' := [zR 34 0, zI a0, zI 0]) (S' := []) (σ' := σ) (Ps := []) (by decide +kernel) rfl trivial ?_
  exact Runs.fg (fgE (fgE (fgE fg0))) h
theorem gX11_stays_2 (l1 : Int) (l2 : Int) (σ : Hp) {Q : Option Int → Hp → Prop} (h : ((10 ≤ l2 → (0 ≤ l1 ∧ l1 < 8) ∧ (0 ≤ l1 ∧ l1 < 8) ∧ (0 ≤ l1 ∧ l1 < 8) ∧ Runs 5 mX11_findsRoad 0 [zR 34 0, zI (se (σ 36 0) l1 0), zI (se (σ 36 0) l1 1), zI (se (σ 36 0) l1 2), zU, zU, zU, zU, zU, zU] [] σ (rI (fun z2 σ1 => ((¬ z2 = 0 → Runs 6 mX11_stays 50 [zR 34 0, zU, zI 0] [] σ1 Q) ∧ (z2 = 0 → Q none σ1))))) ∧ (¬ 10 ≤ l2 → (0 ≤ l2 ∧ l2 < 10) ∧ (-2147483648 ≤ l2 + 1 ∧ l2 + 1 ≤ 2147483647) ∧ Runs 6 mX11_stays 2 [zR 34 0, zI l1, zI (l2 + 1)] [] (zup σ 48 0 l2.toNat (-9)) Q))) : Runs 6 mX11_stays 2 [zR 34 0, zI l1, zI l2] [] σ Q := by
  refine r_blk [qO (.iload_n 2), qO (.bipush 10)] (pc' := 5) (L' := [zR 34 0, zI l1, zI l2]) (S' := [zI 10, zI l2]) (σ' := σ) (Ps := []) (by decide +kernel) rfl trivial ?_
  refine r_icmp_ge (off := 17) (tgt := 22) (by decide +kernel) (by decide) (fun c => ?_) (fun c => ?_)
  · replace h := h.1 c
    refine r_blk [qO (.aload_n 0), qO (.aload_n 0), qO (.iload_n 1), qO (.iconst 0)] (pc' := 26) (L' := [zR 34 0, zI l1, zI l2]) (S' := [zI 0, zI l1, zR 34 0, zR 34 0]) (σ' := σ) (Ps := []) (by decide +kernel) rfl trivial ?_
    refine r_callVI (As := [zI l1, zI 0]) (S := [zR 34 0]) (Lc := [zR 34 0, zI l1, zI 0]) (d' := 0) (n := 2) (g := 34) (x := 0) (ci := 11) kX11_of vX11_of lkX11_113 (by decide +kernel) (by decide) rfl rfl (by decide) rfl rfl (Nat.le_of_ble_eq_true rfl) rfl rfl (Nat.le_of_ble_eq_true rfl) (pX11_of h.1 (by decide) ?_)
    replace h := h.2
    refine r_blk [qO (.aload_n 0), qO (.iload_n 1), qO (.iconst 1)] (pc' := 32) (L' := [zR 34 0, zI l1, zI l2]) (S' := [zI 1, zI l1, zR 34 0, zI (se (σ 36 0) l1 0), zR 34 0]) (σ' := σ) (Ps := []) (by decide +kernel) rfl trivial ?_
    refine r_callVI (As := [zI l1, zI 1]) (S := [zI (se (σ 36 0) l1 0), zR 34 0]) (Lc := [zR 34 0, zI l1, zI 1]) (d' := 0) (n := 2) (g := 34) (x := 0) (ci := 11) kX11_of vX11_of lkX11_113 (by decide +kernel) (by decide) rfl rfl (by decide) rfl rfl (Nat.le_of_ble_eq_true rfl) rfl rfl (Nat.le_of_ble_eq_true rfl) (pX11_of h.1 (by decide) ?_)
    replace h := h.2
    refine r_blk [qO (.aload_n 0), qO (.iload_n 1), qO (.iconst 2)] (pc' := 38) (L' := [zR 34 0, zI l1, zI l2]) (S' := [zI 2, zI l1, zR 34 0, zI (se (σ 36 0) l1 1), zI (se (σ 36 0) l1 0), zR 34 0]) (σ' := σ) (Ps := []) (by decide +kernel) rfl trivial ?_
    refine r_callVI (As := [zI l1, zI 2]) (S := [zI (se (σ 36 0) l1 1), zI (se (σ 36 0) l1 0), zR 34 0]) (Lc := [zR 34 0, zI l1, zI 2]) (d' := 0) (n := 2) (g := 34) (x := 0) (ci := 11) kX11_of vX11_of lkX11_113 (by decide +kernel) (by decide) rfl rfl (by decide) rfl rfl (Nat.le_of_ble_eq_true rfl) rfl rfl (Nat.le_of_ble_eq_true rfl) (pX11_of h.1 (by decide) ?_)
    replace h := h.2
    refine r_callVI (As := [zI (se (σ 36 0) l1 0), zI (se (σ 36 0) l1 1), zI (se (σ 36 0) l1 2)]) (S := []) (Lc := [zR 34 0, zI (se (σ 36 0) l1 0), zI (se (σ 36 0) l1 1), zI (se (σ 36 0) l1 2), zU, zU, zU, zU, zU, zU]) (d' := 5) (n := 3) (g := 34) (x := 0) (ci := 11) kX11_findsRoad vX11_findsRoad lkX11_152 (by decide +kernel) (by decide) rfl rfl (by decide) rfl rfl (Nat.le_of_ble_eq_true rfl) rfl rfl (Nat.le_of_ble_eq_true rfl) (h.monoI (fun z2 σ1 h => ?_))
    refine r_if_ne (off := 4) (tgt := 48) (by decide +kernel) (by decide) (fun c => ?_) (fun c => ?_)
    · replace h := h.1 c
      refine r_blk [qO (.iconst 0), qO (.istore_n 2)] (pc' := 50) (L' := [zR 34 0, zI l1, zI 0]) (S' := []) (σ' := σ1) (Ps := []) (by decide +kernel) rfl trivial ?_
      exact Runs.fg (fgE (fgU (fgE fg0))) h
    · replace h := h.2 c
      exact r_retv (by decide +kernel) rfl h
  · replace h := h.2 c
    refine r_blk [qO (.aload_n 0), qF (.getfield 50) 11 21, qO (.iload_n 2), qO (.bipush (-9)), qO .iastore, qO (.iinc 2 1), qO (.goto (-17))] (pc' := 2) (L' := [zR 34 0, zI l1, zI (l2 + 1)]) (S' := []) (σ' := (zup σ 48 0 l2.toNat (-9))) (Ps := [0 ≤ l2 ∧ l2 < 10, -2147483648 ≤ l2 + 1 ∧ l2 + 1 ≤ 2147483647]) (by decide +kernel) rfl ⟨h.1, h.2.1, trivial⟩ ?_
    replace h := h.2.2
    exact Runs.fg (fgE (fgE (fgE fg0))) h
theorem gX11_stays_50 (l2 : Int) (σ : Hp) {Q : Option Int → Hp → Prop} (h : ((σ 34 0 14 < l2 → Q none σ) ∧ (¬ σ 34 0 14 < l2 → (0 ≤ l2 ∧ l2 < 11) ∧ (0 ≤ l2 ∧ l2 < 11) ∧ (0 ≤ σ 43 0 l2.toNat ∧ σ 43 0 l2.toNat < 10) ∧ (0 ≤ σ 43 0 l2.toNat ∧ σ 43 0 l2.toNat < 10) ∧ (0 ≤ l2 ∧ l2 < 11) ∧ ∀ σ1 : Hp, σ1 = (zup σ 48 0 ((σ 43 0 l2.toNat).toNat) (σ 41 0 ((σ 43 0 l2.toNat).toNat))) → ((¬ l2 = 0 → (-2147483648 ≤ l2 - 1 ∧ l2 - 1 ≤ 2147483647) ∧ (0 ≤ l2 - 1 ∧ l2 - 1 < 10) ∧ (0 ≤ σ 43 0 l2.toNat ∧ σ 43 0 l2.toNat < 10) ∧ (-2147483648 ≤ l2 + 1 ∧ l2 + 1 ≤ 2147483647) ∧ Runs 6 mX11_stays 50 [zR 34 0, zU, zI (l2 + 1)] [] (zup σ1 49 0 ((σ 43 0 l2.toNat).toNat) (σ1 45 0 ((l2 - 1).toNat))) Q) ∧ (l2 = 0 → (0 ≤ l2 ∧ l2 < 11) ∧ (0 ≤ σ1 43 0 l2.toNat ∧ σ1 43 0 l2.toNat < 10) ∧ (0 ≤ σ 43 0 l2.toNat ∧ σ 43 0 l2.toNat < 10) ∧ (-2147483648 ≤ l2 + 1 ∧ l2 + 1 ≤ 2147483647) ∧ ∀ σ2 : Hp, σ2 = (zup σ1 49 0 ((σ 43 0 l2.toNat).toNat) (σ1 41 0 ((σ1 43 0 l2.toNat).toNat))) → Runs 6 mX11_stays 50 [zR 34 0, zU, zI (l2 + 1)] [] σ2 Q))))) : Runs 6 mX11_stays 50 [zR 34 0, zU, zI l2] [] σ Q := by
  refine r_blk [qO (.iload_n 2), qO (.aload_n 0), qF (.getfield 146) 11 14] (pc' := 55) (L' := [zR 34 0, zU, zI l2]) (S' := [zI (σ 34 0 14), zI l2]) (σ' := σ) (Ps := []) (by decide +kernel) rfl trivial ?_
  refine r_icmp_gt (off := 68) (tgt := 123) (by decide +kernel) (by decide) (fun c => ?_) (fun c => ?_)
  · replace h := h.1 c
    exact r_retv (by decide +kernel) rfl h
  · replace h := h.2 c
    refine r_blk [qO (.aload_n 0), qF (.getfield 50) 11 21, qO (.aload_n 0), qF (.getfield 35) 11 11, qO (.iload_n 2), qO .iaload, qO (.aload_n 0), qF (.getfield 28) 11 9, qO (.aload_n 0), qF (.getfield 35) 11 11, qO (.iload_n 2), qO .iaload, qO .iaload, qO .iastore, qO (.aload_n 0), qF (.getfield 53) 11 22, qO (.aload_n 0), qF (.getfield 35) 11 11, qO (.iload_n 2), qO .iaload, qO (.iload_n 2)] (pc' := 91) (L' := [zR 34 0, zU, zI l2]) (S' := [zI l2, zI (σ 43 0 l2.toNat), zR 49 0]) (σ' := (zup σ 48 0 ((σ 43 0 l2.toNat).toNat) (σ 41 0 ((σ 43 0 l2.toNat).toNat)))) (Ps := [0 ≤ l2 ∧ l2 < 11, 0 ≤ l2 ∧ l2 < 11, 0 ≤ σ 43 0 l2.toNat ∧ σ 43 0 l2.toNat < 10, 0 ≤ σ 43 0 l2.toNat ∧ σ 43 0 l2.toNat < 10, 0 ≤ l2 ∧ l2 < 11]) (by decide +kernel) rfl ⟨h.1, h.2.1, h.2.2.1, h.2.2.2.1, h.2.2.2.2.1, trivial⟩ ?_
    replace h := h.2.2.2.2.2
    generalize hσ1 : (zup σ 48 0 ((σ 43 0 l2.toNat).toNat) (σ 41 0 ((σ 43 0 l2.toNat).toNat))) = σ1
    replace h := h σ1 hσ1.symm
    refine r_if_ne (off := 17) (tgt := 108) (by decide +kernel) (by decide) (fun c => ?_) (fun c => ?_)
    · replace h := h.1 c
      refine r_blk [qO (.aload_n 0), qF (.getfield 41) 11 13, qO (.iload_n 2), qO (.iconst 1), qO .isub, qO .iaload, qO .iastore, qO (.iinc 2 1), qO (.goto (-70))] (pc' := 50) (L' := [zR 34 0, zU, zI (l2 + 1)]) (S' := []) (σ' := (zup σ1 49 0 ((σ 43 0 l2.toNat).toNat) (σ1 45 0 ((l2 - 1).toNat)))) (Ps := [-2147483648 ≤ l2 - 1 ∧ l2 - 1 ≤ 2147483647, 0 ≤ l2 - 1 ∧ l2 - 1 < 10, 0 ≤ σ 43 0 l2.toNat ∧ σ 43 0 l2.toNat < 10, -2147483648 ≤ l2 + 1 ∧ l2 + 1 ≤ 2147483647]) (by decide +kernel) rfl ⟨h.1, h.2.1, h.2.2.1, h.2.2.2.1, trivial⟩ ?_
      replace h := h.2.2.2.2
      exact Runs.fg (fgE (fgU (fgE fg0))) h
    · replace h := h.2 c
      refine r_blk [qO (.aload_n 0), qF (.getfield 28) 11 9, qO (.aload_n 0), qF (.getfield 35) 11 11, qO (.iload_n 2), qO .iaload, qO .iaload, qO (.goto 11), qO .iastore, qO (.iinc 2 1), qO (.goto (-70))] (pc' := 50) (L' := [zR 34 0, zU, zI (l2 + 1)]) (S' := []) (σ' := (zup σ1 49 0 ((σ 43 0 l2.toNat).toNat) (σ1 41 0 ((σ1 43 0 l2.toNat).toNat)))) (Ps := [0 ≤ l2 ∧ l2 < 11, 0 ≤ σ1 43 0 l2.toNat ∧ σ1 43 0 l2.toNat < 10, 0 ≤ σ 43 0 l2.toNat ∧ σ 43 0 l2.toNat < 10, -2147483648 ≤ l2 + 1 ∧ l2 + 1 ≤ 2147483647]) (by decide +kernel) rfl ⟨h.1, h.2.1, h.2.2.1, h.2.2.2.1, trivial⟩ ?_
      replace h := h.2.2.2.2
      generalize hσ2 : (zup σ1 49 0 ((σ 43 0 l2.toNat).toNat) (σ1 41 0 ((σ1 43 0 l2.toNat).toNat))) = σ2
      replace h := h σ2 hσ2.symm
      exact Runs.fg (fgE (fgU (fgE fg0))) h
theorem gX11_areMet_0 (a0 : Int) (a1 : Int) (σ : Hp) {Q : Option Int → Hp → Prop} (h : Runs 6 mX11_stays 0 [zR 34 0, zI a0, zU] [] σ (rV (fun σ1 => Runs 7 mX11_areMet 7 [zR 34 0, zU, zI a1, zI 0] [] σ1 Q))) : Runs 7 mX11_areMet 0 [zR 34 0, zI a0, zI a1, zU] [] σ Q := by
  refine r_blk [qO (.aload_n 0), qO (.iload_n 1)] (pc' := 2) (L' := [zR 34 0, zI a0, zI a1, zU]) (S' := [zI a0, zR 34 0]) (σ' := σ) (Ps := []) (by decide +kernel) rfl trivial ?_
  refine r_callVV (As := [zI a0]) (S := []) (Lc := [zR 34 0, zI a0, zU]) (d' := 6) (n := 1) (g := 34) (x := 0) (ci := 11) kX11_stays vX11_stays lkX11_206 (by decide +kernel) (by decide) rfl rfl (by decide) rfl rfl (Nat.le_of_ble_eq_true rfl) rfl rfl (Nat.le_of_ble_eq_true rfl) (h.monoV (fun σ1 h => ?_))
  refine r_blk [qO (.iconst 0), qO (.istore_n 3)] (pc' := 7) (L' := [zR 34 0, zI a0, zI a1, zI 0]) (S' := []) (σ' := σ1) (Ps := []) (by decide +kernel) rfl trivial ?_
  exact Runs.fg (fgE (fgU (fgE (fgE fg0)))) h
theorem gX11_areMet_7 (l2 : Int) (l3 : Int) (σ : Hp) {Q : Option Int → Hp → Prop} (h : ((10 ≤ l3 → Runs 6 mX11_stays 0 [zR 34 0, zI l2, zU] [] σ (rV (fun σ1 => Runs 7 mX11_areMet 50 [zR 34 0, zU, zU, zI 0] [] σ1 Q))) ∧ (¬ 10 ≤ l3 → (0 ≤ l3 ∧ l3 < 10) ∧ (0 ≤ l3 ∧ l3 < 10) ∧ (0 ≤ l3 ∧ l3 < 10) ∧ (0 ≤ l3 ∧ l3 < 10) ∧ (-2147483648 ≤ l3 + 1 ∧ l3 + 1 ≤ 2147483647) ∧ ∀ σ2 : Hp, σ2 = (zup (zup σ 50 0 l3.toNat (σ 48 0 l3.toNat)) 51 0 l3.toNat (σ 49 0 l3.toNat)) → Runs 7 mX11_areMet 7 [zR 34 0, zU, zI l2, zI (l3 + 1)] [] σ2 Q))) : Runs 7 mX11_areMet 7 [zR 34 0, zU, zI l2, zI l3] [] σ Q := by
  refine r_blk [qO (.iload_n 3), qO (.bipush 10)] (pc' := 10) (L' := [zR 34 0, zU, zI l2, zI l3]) (S' := [zI 10, zI l3]) (σ' := σ) (Ps := []) (by decide +kernel) rfl trivial ?_
  refine r_icmp_ge (off := 33) (tgt := 43) (by decide +kernel) (by decide) (fun c => ?_) (fun c => ?_)
  · replace h := h.1 c
    refine r_blk [qO (.aload_n 0), qO (.iload_n 2)] (pc' := 45) (L' := [zR 34 0, zU, zI l2, zI l3]) (S' := [zI l2, zR 34 0]) (σ' := σ) (Ps := []) (by decide +kernel) rfl trivial ?_
    refine r_callVV (As := [zI l2]) (S := []) (Lc := [zR 34 0, zI l2, zU]) (d' := 6) (n := 1) (g := 34) (x := 0) (ci := 11) kX11_stays vX11_stays lkX11_206 (by decide +kernel) (by decide) rfl rfl (by decide) rfl rfl (Nat.le_of_ble_eq_true rfl) rfl rfl (Nat.le_of_ble_eq_true rfl) (h.monoV (fun σ1 h => ?_))
    refine r_blk [qO (.iconst 0), qO (.istore_n 3)] (pc' := 50) (L' := [zR 34 0, zU, zI l2, zI 0]) (S' := []) (σ' := σ1) (Ps := []) (by decide +kernel) rfl trivial ?_
    exact Runs.fg (fgE (fgU (fgU (fgE fg0)))) h
  · replace h := h.2 c
    refine r_blk [qO (.aload_n 0), qF (.getfield 56) 11 23, qO (.iload_n 3), qO (.aload_n 0), qF (.getfield 50) 11 21, qO (.iload_n 3), qO .iaload, qO .iastore, qO (.aload_n 0), qF (.getfield 59) 11 24, qO (.iload_n 3), qO (.aload_n 0), qF (.getfield 53) 11 22, qO (.iload_n 3), qO .iaload, qO .iastore, qO (.iinc 3 1), qO (.goto (-33))] (pc' := 7) (L' := [zR 34 0, zU, zI l2, zI (l3 + 1)]) (S' := []) (σ' := (zup (zup σ 50 0 l3.toNat (σ 48 0 l3.toNat)) 51 0 l3.toNat (σ 49 0 l3.toNat))) (Ps := [0 ≤ l3 ∧ l3 < 10, 0 ≤ l3 ∧ l3 < 10, 0 ≤ l3 ∧ l3 < 10, 0 ≤ l3 ∧ l3 < 10, -2147483648 ≤ l3 + 1 ∧ l3 + 1 ≤ 2147483647]) (by decide +kernel) rfl ⟨h.1, h.2.1, h.2.2.1, h.2.2.2.1, h.2.2.2.2.1, trivial⟩ ?_
    replace h := h.2.2.2.2.2
    generalize hσ2 : (zup (zup σ 50 0 l3.toNat (σ 48 0 l3.toNat)) 51 0 l3.toNat (σ 49 0 l3.toNat)) = σ2
    replace h := h σ2 hσ2.symm
    exact Runs.fg (fgE (fgU (fgE (fgE fg0)))) h
theorem gX11_areMet_50 (l3 : Int) (σ : Hp) {Q : Option Int → Hp → Prop} (h : ((10 ≤ l3 → Q (some 0) σ) ∧ (¬ 10 ≤ l3 → (0 ≤ l3 ∧ l3 < 10) ∧ ((σ 50 0 l3.toNat < 0 → (-2147483648 ≤ l3 + 1 ∧ l3 + 1 ≤ 2147483647) ∧ Runs 7 mX11_areMet 50 [zR 34 0, zU, zU, zI (l3 + 1)] [] σ Q) ∧ (¬ σ 50 0 l3.toNat < 0 → (0 ≤ l3 ∧ l3 < 10) ∧ ((σ 48 0 l3.toNat < 0 → (-2147483648 ≤ l3 + 1 ∧ l3 + 1 ≤ 2147483647) ∧ Runs 7 mX11_areMet 50 [zR 34 0, zU, zU, zI (l3 + 1)] [] σ Q) ∧ (¬ σ 48 0 l3.toNat < 0 → (0 ≤ l3 ∧ l3 < 10) ∧ (0 ≤ l3 ∧ l3 < 10) ∧ ((σ 49 0 l3.toNat < σ 50 0 l3.toNat → (-2147483648 ≤ l3 + 1 ∧ l3 + 1 ≤ 2147483647) ∧ Runs 7 mX11_areMet 50 [zR 34 0, zU, zU, zI (l3 + 1)] [] σ Q) ∧ (¬ σ 49 0 l3.toNat < σ 50 0 l3.toNat → (0 ≤ l3 ∧ l3 < 10) ∧ (0 ≤ l3 ∧ l3 < 10) ∧ ((σ 51 0 l3.toNat < σ 48 0 l3.toNat → (-2147483648 ≤ l3 + 1 ∧ l3 + 1 ≤ 2147483647) ∧ Runs 7 mX11_areMet 50 [zR 34 0, zU, zU, zI (l3 + 1)] [] σ Q) ∧ (¬ σ 51 0 l3.toNat < σ 48 0 l3.toNat → Q (some 1) σ))))))))))) : Runs 7 mX11_areMet 50 [zR 34 0, zU, zU, zI l3] [] σ Q := by
  refine r_blk [qO (.iload_n 3), qO (.bipush 10)] (pc' := 53) (L' := [zR 34 0, zU, zU, zI l3]) (S' := [zI 10, zI l3]) (σ' := σ) (Ps := []) (by decide +kernel) rfl trivial ?_
  refine r_icmp_ge (off := 59) (tgt := 112) (by decide +kernel) (by decide) (fun c => ?_) (fun c => ?_)
  · replace h := h.1 c
    refine r_blk [qO (.iconst 0)] (pc' := 113) (L' := [zR 34 0, zU, zU, zI l3]) (S' := [zI 0]) (σ' := σ) (Ps := []) (by decide +kernel) rfl trivial ?_
    exact r_retz (by decide +kernel) rfl (by decide) h
  · replace h := h.2 c
    refine r_blk [qO (.aload_n 0), qF (.getfield 56) 11 23, qO (.iload_n 3), qO .iaload] (pc' := 62) (L' := [zR 34 0, zU, zU, zI l3]) (S' := [zI (σ 50 0 l3.toNat)]) (σ' := σ) (Ps := [0 ≤ l3 ∧ l3 < 10]) (by decide +kernel) rfl ⟨h.1, trivial⟩ ?_
    replace h := h.2
    refine r_if_lt (off := 44) (tgt := 106) (by decide +kernel) (by decide) (fun c => ?_) (fun c => ?_)
    · replace h := h.1 c
      refine r_blk [qO (.iinc 3 1), qO (.goto (-59))] (pc' := 50) (L' := [zR 34 0, zU, zU, zI (l3 + 1)]) (S' := []) (σ' := σ) (Ps := [-2147483648 ≤ l3 + 1 ∧ l3 + 1 ≤ 2147483647]) (by decide +kernel) rfl ⟨h.1, trivial⟩ ?_
      replace h := h.2
      exact Runs.fg (fgE (fgU (fgU (fgE fg0)))) h
    · replace h := h.2 c
      refine r_blk [qO (.aload_n 0), qF (.getfield 50) 11 21, qO (.iload_n 3), qO .iaload] (pc' := 71) (L' := [zR 34 0, zU, zU, zI l3]) (S' := [zI (σ 48 0 l3.toNat)]) (σ' := σ) (Ps := [0 ≤ l3 ∧ l3 < 10]) (by decide +kernel) rfl ⟨h.1, trivial⟩ ?_
      replace h := h.2
      refine r_if_lt (off := 35) (tgt := 106) (by decide +kernel) (by decide) (fun c => ?_) (fun c => ?_)
      · replace h := h.1 c
        refine r_blk [qO (.iinc 3 1), qO (.goto (-59))] (pc' := 50) (L' := [zR 34 0, zU, zU, zI (l3 + 1)]) (S' := []) (σ' := σ) (Ps := [-2147483648 ≤ l3 + 1 ∧ l3 + 1 ≤ 2147483647]) (by decide +kernel) rfl ⟨h.1, trivial⟩ ?_
        replace h := h.2
        exact Runs.fg (fgE (fgU (fgU (fgE fg0)))) h
      · replace h := h.2 c
        refine r_blk [qO (.aload_n 0), qF (.getfield 56) 11 23, qO (.iload_n 3), qO .iaload, qO (.aload_n 0), qF (.getfield 53) 11 22, qO (.iload_n 3), qO .iaload] (pc' := 86) (L' := [zR 34 0, zU, zU, zI l3]) (S' := [zI (σ 49 0 l3.toNat), zI (σ 50 0 l3.toNat)]) (σ' := σ) (Ps := [0 ≤ l3 ∧ l3 < 10, 0 ≤ l3 ∧ l3 < 10]) (by decide +kernel) rfl ⟨h.1, h.2.1, trivial⟩ ?_
        replace h := h.2.2
        refine r_icmp_gt (off := 20) (tgt := 106) (by decide +kernel) (by decide) (fun c => ?_) (fun c => ?_)
        · replace h := h.1 c
          refine r_blk [qO (.iinc 3 1), qO (.goto (-59))] (pc' := 50) (L' := [zR 34 0, zU, zU, zI (l3 + 1)]) (S' := []) (σ' := σ) (Ps := [-2147483648 ≤ l3 + 1 ∧ l3 + 1 ≤ 2147483647]) (by decide +kernel) rfl ⟨h.1, trivial⟩ ?_
          replace h := h.2
          exact Runs.fg (fgE (fgU (fgU (fgE fg0)))) h
        · replace h := h.2 c
          refine r_blk [qO (.aload_n 0), qF (.getfield 50) 11 21, qO (.iload_n 3), qO .iaload, qO (.aload_n 0), qF (.getfield 59) 11 24, qO (.iload_n 3), qO .iaload] (pc' := 101) (L' := [zR 34 0, zU, zU, zI l3]) (S' := [zI (σ 51 0 l3.toNat), zI (σ 48 0 l3.toNat)]) (σ' := σ) (Ps := [0 ≤ l3 ∧ l3 < 10, 0 ≤ l3 ∧ l3 < 10]) (by decide +kernel) rfl ⟨h.1, h.2.1, trivial⟩ ?_
          replace h := h.2.2
          refine r_icmp_gt (off := 5) (tgt := 106) (by decide +kernel) (by decide) (fun c => ?_) (fun c => ?_)
          · replace h := h.1 c
            refine r_blk [qO (.iinc 3 1), qO (.goto (-59))] (pc' := 50) (L' := [zR 34 0, zU, zU, zI (l3 + 1)]) (S' := []) (σ' := σ) (Ps := [-2147483648 ≤ l3 + 1 ∧ l3 + 1 ≤ 2147483647]) (by decide +kernel) rfl ⟨h.1, trivial⟩ ?_
            replace h := h.2
            exact Runs.fg (fgE (fgU (fgU (fgE fg0)))) h
          · replace h := h.2 c
            refine r_blk [qO (.iconst 1)] (pc' := 105) (L' := [zR 34 0, zU, zU, zI l3]) (S' := [zI 1]) (σ' := σ) (Ps := []) (by decide +kernel) rfl trivial ?_
            exact r_retz (by decide +kernel) rfl (by decide) h
theorem gX4_crosses_0 (t : Nat) (u : Nat) (σ : Hp) {Q : Option Int → Hp → Prop} (h : Runs 0 mX4_crosses 2 [zR 28 t, zR 28 u, zI 0, zU] [] σ Q) : Runs 0 mX4_crosses 0 [zR 28 t, zR 28 u, zU, zU] [] σ Q := by
  refine r_blk [qO (.iconst 0), qO (.istore_n 2)] (pc' := 2) (L' := [zR 28 t, zR 28 u, zI 0, zU]) (S' := []) (σ' := σ) (Ps := []) (by decide +kernel) rfl trivial ?_
  exact Runs.fg (fgE (fgE (fgE (fgU fg0)))) h
theorem gX4_crosses_2 (l2 : Int) (t : Nat) (u : Nat) (σ : Hp) {Q : Option Int → Hp → Prop} (h : ((σ 28 t 7 < l2 → Q (some 0) σ) ∧ (¬ σ 28 t 7 < l2 → Runs 0 mX4_crosses 12 [zR 28 t, zR 28 u, zI l2, zI 0] [] σ Q))) : Runs 0 mX4_crosses 2 [zR 28 t, zR 28 u, zI l2, zU] [] σ Q := by
  refine r_blk [qO (.iload_n 2), qO (.aload_n 0), qF (.getfield 42) 4 7] (pc' := 7) (L' := [zR 28 t, zR 28 u, zI l2, zU]) (S' := [zI (σ 28 t 7), zI l2]) (σ' := σ) (Ps := []) (by decide +kernel) rfl trivial ?_
  refine r_icmp_gt (off := 72) (tgt := 79) (by decide +kernel) (by decide) (fun c => ?_) (fun c => ?_)
  · replace h := h.1 c
    refine r_blk [qO (.iconst 0)] (pc' := 80) (L' := [zR 28 t, zR 28 u, zI l2, zU]) (S' := [zI 0]) (σ' := σ) (Ps := []) (by decide +kernel) rfl trivial ?_
    exact r_retz (by decide +kernel) rfl (by decide) h
  · replace h := h.2 c
    refine r_blk [qO (.iconst 0), qO (.istore_n 3)] (pc' := 12) (L' := [zR 28 t, zR 28 u, zI l2, zI 0]) (S' := []) (σ' := σ) (Ps := []) (by decide +kernel) rfl trivial ?_
    exact Runs.fg (fgE (fgE (fgE (fgE fg0)))) h
theorem gX4_crosses_12 (l2 : Int) (l3 : Int) (t : Nat) (u : Nat) (σ : Hp) {Q : Option Int → Hp → Prop} (h : ((σ 28 u 7 < l3 → (-2147483648 ≤ l2 + 1 ∧ l2 + 1 ≤ 2147483647) ∧ Runs 0 mX4_crosses 2 [zR 28 t, zR 28 u, zI (l2 + 1), zU] [] σ Q) ∧ (¬ σ 28 u 7 < l3 → (0 ≤ l2 ∧ l2 < 10) ∧ (0 ≤ l3 ∧ l3 < 10) ∧ ((¬ σ 30 t l2.toNat = σ 30 u l3.toNat → (-2147483648 ≤ l3 + 1 ∧ l3 + 1 ≤ 2147483647) ∧ Runs 0 mX4_crosses 12 [zR 28 t, zR 28 u, zI l2, zI (l3 + 1)] [] σ Q) ∧ (σ 30 t l2.toNat = σ 30 u l3.toNat → (0 ≤ l2 ∧ l2 < 10) ∧ (0 ≤ l3 ∧ l3 < 10) ∧ ((σ 32 u l3.toNat < σ 31 t l2.toNat → (-2147483648 ≤ l3 + 1 ∧ l3 + 1 ≤ 2147483647) ∧ Runs 0 mX4_crosses 12 [zR 28 t, zR 28 u, zI l2, zI (l3 + 1)] [] σ Q) ∧ (¬ σ 32 u l3.toNat < σ 31 t l2.toNat → (0 ≤ l3 ∧ l3 < 10) ∧ (0 ≤ l2 ∧ l2 < 10) ∧ ((σ 32 t l2.toNat < σ 31 u l3.toNat → (-2147483648 ≤ l3 + 1 ∧ l3 + 1 ≤ 2147483647) ∧ Runs 0 mX4_crosses 12 [zR 28 t, zR 28 u, zI l2, zI (l3 + 1)] [] σ Q) ∧ (¬ σ 32 t l2.toNat < σ 31 u l3.toNat → Q (some 1) σ))))))))) : Runs 0 mX4_crosses 12 [zR 28 t, zR 28 u, zI l2, zI l3] [] σ Q := by
  refine r_blk [qO (.iload_n 3), qO (.aload_n 1), qF (.getfield 42) 4 7] (pc' := 17) (L' := [zR 28 t, zR 28 u, zI l2, zI l3]) (S' := [zI (σ 28 u 7), zI l3]) (σ' := σ) (Ps := []) (by decide +kernel) rfl trivial ?_
  refine r_icmp_gt (off := 56) (tgt := 73) (by decide +kernel) (by decide) (fun c => ?_) (fun c => ?_)
  · replace h := h.1 c
    refine r_blk [qO (.iinc 2 1), qO (.goto (-74))] (pc' := 2) (L' := [zR 28 t, zR 28 u, zI (l2 + 1), zI l3]) (S' := []) (σ' := σ) (Ps := [-2147483648 ≤ l2 + 1 ∧ l2 + 1 ≤ 2147483647]) (by decide +kernel) rfl ⟨h.1, trivial⟩ ?_
    replace h := h.2
    exact Runs.fg (fgE (fgE (fgE (fgU fg0)))) h
  · replace h := h.2 c
    refine r_blk [qO (.aload_n 0), qF (.getfield 15) 4 4, qO (.iload_n 2), qO .iaload, qO (.aload_n 1), qF (.getfield 15) 4 4, qO (.iload_n 3), qO .iaload] (pc' := 32) (L' := [zR 28 t, zR 28 u, zI l2, zI l3]) (S' := [zI (σ 30 u l3.toNat), zI (σ 30 t l2.toNat)]) (σ' := σ) (Ps := [0 ≤ l2 ∧ l2 < 10, 0 ≤ l3 ∧ l3 < 10]) (by decide +kernel) rfl ⟨h.1, h.2.1, trivial⟩ ?_
    replace h := h.2.2
    refine r_icmp_ne (off := 35) (tgt := 67) (by decide +kernel) (by decide) (fun c => ?_) (fun c => ?_)
    · replace h := h.1 c
      refine r_blk [qO (.iinc 3 1), qO (.goto (-58))] (pc' := 12) (L' := [zR 28 t, zR 28 u, zI l2, zI (l3 + 1)]) (S' := []) (σ' := σ) (Ps := [-2147483648 ≤ l3 + 1 ∧ l3 + 1 ≤ 2147483647]) (by decide +kernel) rfl ⟨h.1, trivial⟩ ?_
      replace h := h.2
      exact Runs.fg (fgE (fgE (fgE (fgE fg0)))) h
    · replace h := h.2 c
      refine r_blk [qO (.aload_n 0), qF (.getfield 18) 4 5, qO (.iload_n 2), qO .iaload, qO (.aload_n 1), qF (.getfield 21) 4 6, qO (.iload_n 3), qO .iaload] (pc' := 47) (L' := [zR 28 t, zR 28 u, zI l2, zI l3]) (S' := [zI (σ 32 u l3.toNat), zI (σ 31 t l2.toNat)]) (σ' := σ) (Ps := [0 ≤ l2 ∧ l2 < 10, 0 ≤ l3 ∧ l3 < 10]) (by decide +kernel) rfl ⟨h.1, h.2.1, trivial⟩ ?_
      replace h := h.2.2
      refine r_icmp_gt (off := 20) (tgt := 67) (by decide +kernel) (by decide) (fun c => ?_) (fun c => ?_)
      · replace h := h.1 c
        refine r_blk [qO (.iinc 3 1), qO (.goto (-58))] (pc' := 12) (L' := [zR 28 t, zR 28 u, zI l2, zI (l3 + 1)]) (S' := []) (σ' := σ) (Ps := [-2147483648 ≤ l3 + 1 ∧ l3 + 1 ≤ 2147483647]) (by decide +kernel) rfl ⟨h.1, trivial⟩ ?_
        replace h := h.2
        exact Runs.fg (fgE (fgE (fgE (fgE fg0)))) h
      · replace h := h.2 c
        refine r_blk [qO (.aload_n 1), qF (.getfield 18) 4 5, qO (.iload_n 3), qO .iaload, qO (.aload_n 0), qF (.getfield 21) 4 6, qO (.iload_n 2), qO .iaload] (pc' := 62) (L' := [zR 28 t, zR 28 u, zI l2, zI l3]) (S' := [zI (σ 32 t l2.toNat), zI (σ 31 u l3.toNat)]) (σ' := σ) (Ps := [0 ≤ l3 ∧ l3 < 10, 0 ≤ l2 ∧ l2 < 10]) (by decide +kernel) rfl ⟨h.1, h.2.1, trivial⟩ ?_
        replace h := h.2.2
        refine r_icmp_gt (off := 5) (tgt := 67) (by decide +kernel) (by decide) (fun c => ?_) (fun c => ?_)
        · replace h := h.1 c
          refine r_blk [qO (.iinc 3 1), qO (.goto (-58))] (pc' := 12) (L' := [zR 28 t, zR 28 u, zI l2, zI (l3 + 1)]) (S' := []) (σ' := σ) (Ps := [-2147483648 ≤ l3 + 1 ∧ l3 + 1 ≤ 2147483647]) (by decide +kernel) rfl ⟨h.1, trivial⟩ ?_
          replace h := h.2
          exact Runs.fg (fgE (fgE (fgE (fgE fg0)))) h
        · replace h := h.2 c
          refine r_blk [qO (.iconst 1)] (pc' := 66) (L' := [zR 28 t, zR 28 u, zI l2, zI l3]) (S' := [zI 1]) (σ' := σ) (Ps := []) (by decide +kernel) rfl trivial ?_
          exact r_retz (by decide +kernel) rfl (by decide) h
