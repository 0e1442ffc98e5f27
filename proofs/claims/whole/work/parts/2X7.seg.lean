theorem gX7_takeAsItIs_0 (σ : Hp) {Q : Option Int → Hp → Prop} (h : ∀ σ1 : Hp, σ1 = (zup (zup (zup (zup σ 16 0 1 (σ 11 0 1)) 16 0 2 (σ 11 0 0)) 16 0 3 (σ 11 0 2)) 16 0 5 (σ 1 0 5)) → Runs 0 mX7_openBothWays 0 [zR 16 0, zI 0] [] σ1 (rV (fun σ2 => Runs 0 mX7_pointAs 0 [zR 16 0, zI (σ2 1 0 6), zU] [] σ2 (rV (fun σ3 => Q none σ3))))) : Runs 1 mX7_takeAsItIs 0 [zR 16 0] [] σ Q := by
  refine r_blk [qO (.aload_n 0), qO (.aload_n 0), qF (.getfield 9) 7 0, qF (.getfield 15) 6 16, qO (.iconst 1), qO .iaload, qF (.putfield 21) 7 1, qO (.aload_n 0), qO (.aload_n 0), qF (.getfield 9) 7 0, qF (.getfield 15) 6 16, qO (.iconst 0), qO .iaload, qF (.putfield 25) 7 2, qO (.aload_n 0), qO (.aload_n 0), qF (.getfield 9) 7 0, qF (.getfield 15) 6 16, qO (.iconst 2), qO .iaload, qF (.putfield 28) 7 3, qO (.aload_n 0), qO (.aload_n 0), qF (.getfield 9) 7 0, qF (.getfield 31) 6 5, qF (.putfield 34) 7 5, qO (.aload_n 0), qO (.iconst 0)] (pc' := 52) (L' := [zR 16 0]) (S' := [zI 0, zR 16 0]) (σ' := (zup (zup (zup (zup σ 16 0 1 (σ 11 0 1)) 16 0 2 (σ 11 0 0)) 16 0 3 (σ 11 0 2)) 16 0 5 (σ 1 0 5))) (Ps := [0 ≤ 1 ∧ 1 < 4, 0 ≤ 0 ∧ 0 < 4, 0 ≤ 2 ∧ 2 < 4]) (by decide +kernel) rfl ⟨(by decide), (by decide), (by decide), trivial⟩ ?_
  generalize hσ1 : (zup (zup (zup (zup σ 16 0 1 (σ 11 0 1)) 16 0 2 (σ 11 0 0)) 16 0 3 (σ 11 0 2)) 16 0 5 (σ 1 0 5)) = σ1
  replace h := h σ1 hσ1.symm
  refine r_callVV (As := [zI 0]) (S := []) (Lc := [zR 16 0, zI 0]) (d' := 0) (n := 1) (g := 16) (x := 0) (ci := 7) kX7_openBothWays vX7_openBothWays lkX7_35 (by decide +kernel) (by decide) rfl rfl (by decide) rfl rfl (Nat.le_of_ble_eq_true rfl) rfl rfl (Nat.le_of_ble_eq_true rfl) (h.monoV (fun σ2 h => ?_))
  refine r_blk [qO (.aload_n 0), qO (.aload_n 0), qF (.getfield 9) 7 0, qF (.getfield 39) 6 6] (pc' := 63) (L' := [zR 16 0]) (S' := [zI (σ2 1 0 6), zR 16 0]) (σ' := σ2) (Ps := []) (by decide +kernel) rfl trivial ?_
  refine r_callVV (As := [zI (σ2 1 0 6)]) (S := []) (Lc := [zR 16 0, zI (σ2 1 0 6), zU]) (d' := 0) (n := 1) (g := 16) (x := 0) (ci := 7) kX7_pointAs vX7_pointAs lkX7_42 (by decide +kernel) (by decide) rfl rfl (by decide) rfl rfl (Nat.le_of_ble_eq_true rfl) rfl rfl (Nat.le_of_ble_eq_true rfl) (h.monoV (fun σ3 h => ?_))
  exact r_retv (by decide +kernel) rfl h
theorem gX7_pointAs_0 (a0 : Int) (σ : Hp) {Q : Option Int → Hp → Prop} (h : ((¬ σ 16 0 1 = 3 → Q none (zup σ 16 0 4 a0)) ∧ (σ 16 0 1 = 3 → ((¬ zand (σ 11 0 3) 1 = 1 → Q none (zup σ 16 0 4 a0)) ∧ (zand (σ 11 0 3) 1 = 1 → Q none (zup σ 16 0 4 (zxor a0 (-1)))))))) : Runs 0 mX7_pointAs 0 [zR 16 0, zI a0, zU] [] σ Q := by
  refine r_blk [qO (.aload_n 0), qF (.getfield 21) 7 1, qO (.iconst 3)] (pc' := 5) (L' := [zR 16 0, zI a0, zU]) (S' := [zI 3, zI (σ 16 0 1)]) (σ' := σ) (Ps := []) (by decide +kernel) rfl trivial ?_
  refine r_icmp_ne (off := 22) (tgt := 27) (by decide +kernel) (by decide) (fun c => ?_) (fun c => ?_)
  · replace h := h.1 c
    refine r_blk [qO (.iconst 0), qO (.istore_n 2), qO (.aload_n 0), qO (.iload_n 2)] (pc' := 31) (L' := [zR 16 0, zI a0, zI 0]) (S' := [zI 0, zR 16 0]) (σ' := σ) (Ps := []) (by decide +kernel) rfl trivial ?_
    refine r_if_eq (off := 9) (tgt := 40) (by decide +kernel) (by decide) (fun c => ?_) (fun c => ?_)
    · refine r_blk [qO (.iload_n 1), qF (.putfield 45) 7 4] (pc' := 44) (L' := [zR 16 0, zI a0, zI 0]) (S' := []) (σ' := (zup σ 16 0 4 a0)) (Ps := []) (by decide +kernel) rfl trivial ?_
      exact r_retv (by decide +kernel) rfl h
    · exact absurd c (by decide)
  · replace h := h.2 c
    refine r_blk [qO (.aload_n 0), qF (.getfield 9) 7 0, qF (.getfield 15) 6 16, qO (.iconst 3), qO .iaload, qO (.iconst 1), qO .iand, qO (.iconst 1)] (pc' := 20) (L' := [zR 16 0, zI a0, zU]) (S' := [zI 1, zI (zand (σ 11 0 3) 1)]) (σ' := σ) (Ps := [0 ≤ 3 ∧ 3 < 4]) (by decide +kernel) rfl ⟨(by decide), trivial⟩ ?_
    refine r_icmp_ne (off := 7) (tgt := 27) (by decide +kernel) (by decide) (fun c => ?_) (fun c => ?_)
    · replace h := h.1 c
      refine r_blk [qO (.iconst 0), qO (.istore_n 2), qO (.aload_n 0), qO (.iload_n 2)] (pc' := 31) (L' := [zR 16 0, zI a0, zI 0]) (S' := [zI 0, zR 16 0]) (σ' := σ) (Ps := []) (by decide +kernel) rfl trivial ?_
      refine r_if_eq (off := 9) (tgt := 40) (by decide +kernel) (by decide) (fun c => ?_) (fun c => ?_)
      · refine r_blk [qO (.iload_n 1), qF (.putfield 45) 7 4] (pc' := 44) (L' := [zR 16 0, zI a0, zI 0]) (S' := []) (σ' := (zup σ 16 0 4 a0)) (Ps := []) (by decide +kernel) rfl trivial ?_
        exact r_retv (by decide +kernel) rfl h
      · exact absurd c (by decide)
    · replace h := h.2 c
      refine r_blk [qO (.iconst 1), qO (.goto 4), qO (.istore_n 2), qO (.aload_n 0), qO (.iload_n 2)] (pc' := 31) (L' := [zR 16 0, zI a0, zI 1]) (S' := [zI 1, zR 16 0]) (σ' := σ) (Ps := []) (by decide +kernel) rfl trivial ?_
      refine r_if_eq (off := 9) (tgt := 40) (by decide +kernel) (by decide) (fun c => ?_) (fun c => ?_)
      · exact absurd c (by decide)
      · refine r_blk [qO (.iload_n 1), qO (.iconst (-1)), qO .ixor, qO (.goto 4), qF (.putfield 45) 7 4] (pc' := 44) (L' := [zR 16 0, zI a0, zI 1]) (S' := []) (σ' := (zup σ 16 0 4 (zxor a0 (-1)))) (Ps := []) (by decide +kernel) rfl trivial ?_
        exact r_retv (by decide +kernel) rfl h
theorem gX7_openBothWays_0 (a0 : Int) (σ : Hp) {Q : Option Int → Hp → Prop} (h : ((¬ σ 16 0 1 = 1 → Q none (zup σ 16 0 6 a0)) ∧ (σ 16 0 1 = 1 → Q none (zup σ 16 0 6 (zor (σ 1 0 4) a0))))) : Runs 0 mX7_openBothWays 0 [zR 16 0, zI a0] [] σ Q := by
  refine r_blk [qO (.aload_n 0), qO (.aload_n 0), qF (.getfield 21) 7 1, qO (.iconst 1)] (pc' := 6) (L' := [zR 16 0, zI a0]) (S' := [zI 1, zI (σ 16 0 1), zR 16 0]) (σ' := σ) (Ps := []) (by decide +kernel) rfl trivial ?_
  refine r_icmp_ne (off := 15) (tgt := 21) (by decide +kernel) (by decide) (fun c => ?_) (fun c => ?_)
  · replace h := h.1 c
    refine r_blk [qO (.iload_n 1), qF (.putfield 51) 7 6] (pc' := 25) (L' := [zR 16 0, zI a0]) (S' := []) (σ' := (zup σ 16 0 6 a0)) (Ps := []) (by decide +kernel) rfl trivial ?_
    exact r_retv (by decide +kernel) rfl h
  · replace h := h.2 c
    refine r_blk [qO (.aload_n 0), qF (.getfield 9) 7 0, qF (.getfield 48) 6 4, qO (.iload_n 1), qO .ior, qO (.goto 4), qF (.putfield 51) 7 6] (pc' := 25) (L' := [zR 16 0, zI a0]) (S' := []) (σ' := (zup σ 16 0 6 (zor (σ 1 0 4) a0))) (Ps := []) (by decide +kernel) rfl trivial ?_
    exact r_retv (by decide +kernel) rfl h
theorem gX7_shutAlso_0 (a0 : Int) (σ : Hp) {Q : Option Int → Hp → Prop} (h : Q none (zup σ 16 0 5 (zor (σ 1 0 5) (zshl 1 a0)))) : Runs 0 mX7_shutAlso 0 [zR 16 0, zI a0] [] σ Q := by
  refine r_blk [qO (.aload_n 0), qO (.aload_n 0), qF (.getfield 9) 7 0, qF (.getfield 31) 6 5, qO (.iconst 1), qO (.iload_n 1), qO .ishl, qO .ior, qF (.putfield 34) 7 5] (pc' := 15) (L' := [zR 16 0, zI a0]) (S' := []) (σ' := (zup σ 16 0 5 (zor (σ 1 0 5) (zshl 1 a0)))) (Ps := []) (by decide +kernel) rfl trivial ?_
  exact r_retv (by decide +kernel) rfl h
theorem gX7_turnAt_0 (a0 : Int) (σ : Hp) {Q : Option Int → Hp → Prop} (h : Q none (zup σ 16 0 2 a0)) : Runs 0 mX7_turnAt 0 [zR 16 0, zI a0] [] σ Q := by
  refine r_blk [qO (.aload_n 0), qO (.iload_n 1), qF (.putfield 25) 7 2] (pc' := 5) (L' := [zR 16 0, zI a0]) (S' := []) (σ' := (zup σ 16 0 2 a0)) (Ps := []) (by decide +kernel) rfl trivial ?_
  exact r_retv (by decide +kernel) rfl h
theorem gX7_standAt_0 (a0 : Int) (σ : Hp) {Q : Option Int → Hp → Prop} (h : ((σ 16 0 1 = 4 → Runs 0 mX7_standAt 29 [zR 16 0, zI a0, zI 0, zI (-9)] [] σ Q) ∧ (¬ σ 16 0 1 = 4 → ((σ 16 0 2 ≤ a0 → Runs 0 mX7_standAt 29 [zR 16 0, zI a0, zI 0, zI (-9)] [] σ Q) ∧ (¬ σ 16 0 2 ≤ a0 → Runs 0 mX7_standAt 83 [zR 16 0, zI a0, zI 0, zI (σ 16 0 2)] [] σ Q))))) : Runs 0 mX7_standAt 0 [zR 16 0, zI a0, zU, zU] [] σ Q := by
  refine r_blk [qO (.iconst 0), qO (.istore_n 2), qO (.bipush (-9)), qO (.istore_n 3), qO (.aload_n 0), qF (.getfield 21) 7 1, qO (.iconst 4)] (pc' := 10) (L' := [zR 16 0, zI a0, zI 0, zI (-9)]) (S' := [zI 4, zI (σ 16 0 1)]) (σ' := σ) (Ps := []) (by decide +kernel) rfl trivial ?_
  refine r_icmp_eq (off := 19) (tgt := 29) (by decide +kernel) (by decide) (fun c => ?_) (fun c => ?_)
  · replace h := h.1 c
    exact Runs.fg (fgE (fgE (fgE (fgE fg0)))) h
  · replace h := h.2 c
    refine r_blk [qO (.iload_n 1), qO (.aload_n 0), qF (.getfield 25) 7 2] (pc' := 18) (L' := [zR 16 0, zI a0, zI 0, zI (-9)]) (S' := [zI (σ 16 0 2), zI a0]) (σ' := σ) (Ps := []) (by decide +kernel) rfl trivial ?_
    refine r_icmp_ge (off := 11) (tgt := 29) (by decide +kernel) (by decide) (fun c => ?_) (fun c => ?_)
    · replace h := h.1 c
      exact Runs.fg (fgE (fgE (fgE (fgE fg0)))) h
    · replace h := h.2 c
      refine r_blk [qO (.aload_n 0), qF (.getfield 25) 7 2, qO (.istore_n 3), qO (.goto 57)] (pc' := 83) (L' := [zR 16 0, zI a0, zI 0, zI (σ 16 0 2)]) (S' := []) (σ' := σ) (Ps := []) (by decide +kernel) rfl trivial ?_
      exact Runs.fg (fgE (fgE (fgE (fgE fg0)))) h
theorem gX7_standAt_29 (l1 : Int) (l2 : Int) (l3 : Int) (σ : Hp) {Q : Option Int → Hp → Prop} (h : ((¬ σ 16 0 1 = 2 → Runs 0 mX7_standAt 73 [zR 16 0, zI l1, zI l2, zI l3] [] σ Q) ∧ (σ 16 0 1 = 2 → ((σ 16 0 3 ≤ 0 → Runs 0 mX7_standAt 73 [zR 16 0, zI l1, zI l2, zI l3] [] σ Q) ∧ (¬ σ 16 0 3 ≤ 0 → (-2147483648 ≤ l1 - (σ 16 0 2) ∧ l1 - (σ 16 0 2) ≤ 2147483647) ∧ (σ 16 0 3 ≠ 0) ∧ (-2147483648 ≤ 1 + (zdiv (l1 - (σ 16 0 2)) (σ 16 0 3)) ∧ 1 + (zdiv (l1 - (σ 16 0 2)) (σ 16 0 3)) ≤ 2147483647) ∧ (-2147483648 ≤ (1 + (zdiv (l1 - (σ 16 0 2)) (σ 16 0 3))) * (σ 16 0 3) ∧ (1 + (zdiv (l1 - (σ 16 0 2)) (σ 16 0 3))) * (σ 16 0 3) ≤ 2147483647) ∧ (-2147483648 ≤ (σ 16 0 2) + ((1 + (zdiv (l1 - (σ 16 0 2)) (σ 16 0 3))) * (σ 16 0 3)) ∧ (σ 16 0 2) + ((1 + (zdiv (l1 - (σ 16 0 2)) (σ 16 0 3))) * (σ 16 0 3)) ≤ 2147483647) ∧ Runs 0 mX7_standAt 83 [zR 16 0, zI l1, zI (1 + (zdiv (l1 - (σ 16 0 2)) (σ 16 0 3))), zI ((σ 16 0 2) + ((1 + (zdiv (l1 - (σ 16 0 2)) (σ 16 0 3))) * (σ 16 0 3)))] [] σ Q))))) : Runs 0 mX7_standAt 29 [zR 16 0, zI l1, zI l2, zI l3] [] σ Q := by
  refine r_blk [qO (.aload_n 0), qF (.getfield 21) 7 1, qO (.iconst 2)] (pc' := 34) (L' := [zR 16 0, zI l1, zI l2, zI l3]) (S' := [zI 2, zI (σ 16 0 1)]) (σ' := σ) (Ps := []) (by decide +kernel) rfl trivial ?_
  refine r_icmp_ne (off := 39) (tgt := 73) (by decide +kernel) (by decide) (fun c => ?_) (fun c => ?_)
  · replace h := h.1 c
    exact Runs.fg (fgE (fgE (fgE (fgE fg0)))) h
  · replace h := h.2 c
    refine r_blk [qO (.aload_n 0), qF (.getfield 28) 7 3] (pc' := 41) (L' := [zR 16 0, zI l1, zI l2, zI l3]) (S' := [zI (σ 16 0 3)]) (σ' := σ) (Ps := []) (by decide +kernel) rfl trivial ?_
    refine r_if_le (off := 32) (tgt := 73) (by decide +kernel) (by decide) (fun c => ?_) (fun c => ?_)
    · replace h := h.1 c
      exact Runs.fg (fgE (fgE (fgE (fgE fg0)))) h
    · replace h := h.2 c
      refine r_blk [qO (.iconst 1), qO (.iload_n 1), qO (.aload_n 0), qF (.getfield 25) 7 2, qO .isub, qO (.aload_n 0), qF (.getfield 28) 7 3, qO .idiv, qO .iadd, qO (.istore_n 2), qO (.aload_n 0), qF (.getfield 25) 7 2, qO (.iload_n 2), qO (.aload_n 0), qF (.getfield 28) 7 3, qO .imul, qO .iadd, qO (.istore_n 3), qO (.goto 13)] (pc' := 83) (L' := [zR 16 0, zI l1, zI (1 + (zdiv (l1 - (σ 16 0 2)) (σ 16 0 3))), zI ((σ 16 0 2) + ((1 + (zdiv (l1 - (σ 16 0 2)) (σ 16 0 3))) * (σ 16 0 3)))]) (S' := []) (σ' := σ) (Ps := [-2147483648 ≤ l1 - (σ 16 0 2) ∧ l1 - (σ 16 0 2) ≤ 2147483647, σ 16 0 3 ≠ 0, -2147483648 ≤ 1 + (zdiv (l1 - (σ 16 0 2)) (σ 16 0 3)) ∧ 1 + (zdiv (l1 - (σ 16 0 2)) (σ 16 0 3)) ≤ 2147483647, -2147483648 ≤ (1 + (zdiv (l1 - (σ 16 0 2)) (σ 16 0 3))) * (σ 16 0 3) ∧ (1 + (zdiv (l1 - (σ 16 0 2)) (σ 16 0 3))) * (σ 16 0 3) ≤ 2147483647, -2147483648 ≤ (σ 16 0 2) + ((1 + (zdiv (l1 - (σ 16 0 2)) (σ 16 0 3))) * (σ 16 0 3)) ∧ (σ 16 0 2) + ((1 + (zdiv (l1 - (σ 16 0 2)) (σ 16 0 3))) * (σ 16 0 3)) ≤ 2147483647]) (by decide +kernel) rfl ⟨h.1, h.2.1, h.2.2.1, h.2.2.2.1, h.2.2.2.2.1, trivial⟩ ?_
      replace h := h.2.2.2.2.2
      exact Runs.fg (fgE (fgE (fgE (fgE fg0)))) h
theorem gX7_standAt_73 (l1 : Int) (l2 : Int) (l3 : Int) (σ : Hp) {Q : Option Int → Hp → Prop} (h : ((σ 16 0 1 = 4 → Runs 0 mX7_standAt 83 [zR 16 0, zI l1, zI l2, zI l3] [] σ Q) ∧ (¬ σ 16 0 1 = 4 → Runs 0 mX7_standAt 83 [zR 16 0, zI l1, zI 1, zI l3] [] σ Q))) : Runs 0 mX7_standAt 73 [zR 16 0, zI l1, zI l2, zI l3] [] σ Q := by
  refine r_blk [qO (.aload_n 0), qF (.getfield 21) 7 1, qO (.iconst 4)] (pc' := 78) (L' := [zR 16 0, zI l1, zI l2, zI l3]) (S' := [zI 4, zI (σ 16 0 1)]) (σ' := σ) (Ps := []) (by decide +kernel) rfl trivial ?_
  refine r_icmp_eq (off := 5) (tgt := 83) (by decide +kernel) (by decide) (fun c => ?_) (fun c => ?_)
  · replace h := h.1 c
    exact Runs.fg (fgE (fgE (fgE (fgE fg0)))) h
  · replace h := h.2 c
    refine r_blk [qO (.iconst 1), qO (.istore_n 2)] (pc' := 83) (L' := [zR 16 0, zI l1, zI 1, zI l3]) (S' := []) (σ' := σ) (Ps := []) (by decide +kernel) rfl trivial ?_
    exact Runs.fg (fgE (fgE (fgE (fgE fg0)))) h
theorem gX7_standAt_83 (l1 : Int) (l2 : Int) (l3 : Int) (σ : Hp) {Q : Option Int → Hp → Prop} (h : ((l3 ≤ 2879 → ((¬ zand l2 1 = 1 → Q none (zup (zup (zup σ 16 0 7 l1) 16 0 8 l3) 16 0 9 (σ 16 0 4))) ∧ (zand l2 1 = 1 → Q none (zup (zup (zup σ 16 0 7 l1) 16 0 8 l3) 16 0 9 (zxor (σ 16 0 4) (-1)))))) ∧ (¬ l3 ≤ 2879 → ((¬ zand l2 1 = 1 → Q none (zup (zup (zup σ 16 0 7 l1) 16 0 8 (-9)) 16 0 9 (σ 16 0 4))) ∧ (zand l2 1 = 1 → ∀ σ1 : Hp, σ1 = (zup (zup (zup σ 16 0 7 l1) 16 0 8 (-9)) 16 0 9 (zxor (σ 16 0 4) (-1))) → Q none σ1))))) : Runs 0 mX7_standAt 83 [zR 16 0, zI l1, zI l2, zI l3] [] σ Q := by
  refine r_blk [qO (.aload_n 0), qO (.iload_n 1), qF (.putfield 54) 7 7, qO (.aload_n 0), qO (.iload_n 3), qO (.sipush 2879)] (pc' := 93) (L' := [zR 16 0, zI l1, zI l2, zI l3]) (S' := [zI 2879, zI l3, zR 16 0]) (σ' := (zup σ 16 0 7 l1)) (Ps := []) (by decide +kernel) rfl trivial ?_
  refine r_icmp_le (off := 8) (tgt := 101) (by decide +kernel) (by decide) (fun c => ?_) (fun c => ?_)
  · replace h := h.1 c
    refine r_blk [qO (.iload_n 3), qF (.putfield 57) 7 8, qO (.aload_n 0), qO (.iload_n 2), qO (.iconst 1), qO .iand, qO (.iconst 1)] (pc' := 110) (L' := [zR 16 0, zI l1, zI l2, zI l3]) (S' := [zI 1, zI (zand l2 1), zR 16 0]) (σ' := (zup (zup σ 16 0 7 l1) 16 0 8 l3)) (Ps := []) (by decide +kernel) rfl trivial ?_
    refine r_icmp_ne (off := 12) (tgt := 122) (by decide +kernel) (by decide) (fun c => ?_) (fun c => ?_)
    · replace h := h.1 c
      refine r_blk [qO (.aload_n 0), qF (.getfield 45) 7 4, qF (.putfield 60) 7 9] (pc' := 129) (L' := [zR 16 0, zI l1, zI l2, zI l3]) (S' := []) (σ' := (zup (zup (zup σ 16 0 7 l1) 16 0 8 l3) 16 0 9 (σ 16 0 4))) (Ps := []) (by decide +kernel) rfl trivial ?_
      exact r_retv (by decide +kernel) rfl h
    · replace h := h.2 c
      refine r_blk [qO (.aload_n 0), qF (.getfield 45) 7 4, qO (.iconst (-1)), qO .ixor, qO (.goto 7), qF (.putfield 60) 7 9] (pc' := 129) (L' := [zR 16 0, zI l1, zI l2, zI l3]) (S' := []) (σ' := (zup (zup (zup σ 16 0 7 l1) 16 0 8 l3) 16 0 9 (zxor (σ 16 0 4) (-1)))) (Ps := []) (by decide +kernel) rfl trivial ?_
      exact r_retv (by decide +kernel) rfl h
  · replace h := h.2 c
    refine r_blk [qO (.bipush (-9)), qO (.goto 4), qF (.putfield 57) 7 8, qO (.aload_n 0), qO (.iload_n 2), qO (.iconst 1), qO .iand, qO (.iconst 1)] (pc' := 110) (L' := [zR 16 0, zI l1, zI l2, zI l3]) (S' := [zI 1, zI (zand l2 1), zR 16 0]) (σ' := (zup (zup σ 16 0 7 l1) 16 0 8 (-9))) (Ps := []) (by decide +kernel) rfl trivial ?_
    refine r_icmp_ne (off := 12) (tgt := 122) (by decide +kernel) (by decide) (fun c => ?_) (fun c => ?_)
    · replace h := h.1 c
      refine r_blk [qO (.aload_n 0), qF (.getfield 45) 7 4, qF (.putfield 60) 7 9] (pc' := 129) (L' := [zR 16 0, zI l1, zI l2, zI l3]) (S' := []) (σ' := (zup (zup (zup σ 16 0 7 l1) 16 0 8 (-9)) 16 0 9 (σ 16 0 4))) (Ps := []) (by decide +kernel) rfl trivial ?_
      exact r_retv (by decide +kernel) rfl h
    · replace h := h.2 c
      refine r_blk [qO (.aload_n 0), qF (.getfield 45) 7 4, qO (.iconst (-1)), qO .ixor, qO (.goto 7), qF (.putfield 60) 7 9] (pc' := 129) (L' := [zR 16 0, zI l1, zI l2, zI l3]) (S' := []) (σ' := (zup (zup (zup σ 16 0 7 l1) 16 0 8 (-9)) 16 0 9 (zxor (σ 16 0 4) (-1)))) (Ps := []) (by decide +kernel) rfl trivial ?_
      generalize hσ1 : (zup (zup (zup σ 16 0 7 l1) 16 0 8 (-9)) 16 0 9 (zxor (σ 16 0 4) (-1))) = σ1
      replace h := h σ1 hσ1.symm
      exact r_retv (by decide +kernel) rfl h
theorem gX7_wayOf_0 (a0 : Int) (σ : Hp) {Q : Option Int → Hp → Prop} (h : Runs 0 mX10_bitOf 0 [zI (σ 16 0 5), zI a0] [] σ (rI (fun z2 σ1 => ((¬ z2 = 1 → Runs 0 mX10_bitOf 0 [zI (σ1 16 0 6), zI a0] [] σ1 (rI (fun z4 σ3 => ((¬ z4 = 1 → Runs 0 mX10_bitOf 0 [zI (σ3 16 0 9), zI a0] [] σ3 (rI (fun z6 σ5 => Q (some z6) σ5))) ∧ (z4 = 1 → Q (some 2) σ3))))) ∧ (z2 = 1 → Q (some 3) σ1))))) : Runs 1 mX7_wayOf 0 [zR 16 0, zI a0] [] σ Q := by
  refine r_blk [qO (.aload_n 0), qF (.getfield 34) 7 5, qO (.iload_n 1)] (pc' := 5) (L' := [zR 16 0, zI a0]) (S' := [zI a0, zI (σ 16 0 5)]) (σ' := σ) (Ps := []) (by decide +kernel) rfl trivial ?_
  refine r_callNI (As := [zI (σ 16 0 5), zI a0]) (S := []) (Lc := [zI (σ 16 0 5), zI a0]) (d' := 0) (n := 2) kX10_bitOf vX10_bitOf lkX7_63 (by decide +kernel) (by decide) rfl rfl (Nat.le_of_ble_eq_true rfl) rfl rfl (Nat.le_of_ble_eq_true rfl) (h.monoI (fun z2 σ1 h => ?_))
  refine r_blk [qO (.iconst 1)] (pc' := 9) (L' := [zR 16 0, zI a0]) (S' := [zI 1, zI z2]) (σ' := σ1) (Ps := []) (by decide +kernel) rfl trivial ?_
  refine r_icmp_ne (off := 5) (tgt := 14) (by decide +kernel) (by decide) (fun c => ?_) (fun c => ?_)
  · replace h := h.1 c
    refine r_blk [qO (.aload_n 0), qF (.getfield 51) 7 6, qO (.iload_n 1)] (pc' := 19) (L' := [zR 16 0, zI a0]) (S' := [zI a0, zI (σ1 16 0 6)]) (σ' := σ1) (Ps := []) (by decide +kernel) rfl trivial ?_
    refine r_callNI (As := [zI (σ1 16 0 6), zI a0]) (S := []) (Lc := [zI (σ1 16 0 6), zI a0]) (d' := 0) (n := 2) kX10_bitOf vX10_bitOf lkX7_63 (by decide +kernel) (by decide) rfl rfl (Nat.le_of_ble_eq_true rfl) rfl rfl (Nat.le_of_ble_eq_true rfl) (h.monoI (fun z4 σ3 h => ?_))
    refine r_blk [qO (.iconst 1)] (pc' := 23) (L' := [zR 16 0, zI a0]) (S' := [zI 1, zI z4]) (σ' := σ3) (Ps := []) (by decide +kernel) rfl trivial ?_
    refine r_icmp_ne (off := 7) (tgt := 30) (by decide +kernel) (by decide) (fun c => ?_) (fun c => ?_)
    · replace h := h.1 c
      refine r_blk [qO (.aload_n 0), qF (.getfield 60) 7 9, qO (.iload_n 1)] (pc' := 35) (L' := [zR 16 0, zI a0]) (S' := [zI a0, zI (σ3 16 0 9)]) (σ' := σ3) (Ps := []) (by decide +kernel) rfl trivial ?_
      refine r_callNI (As := [zI (σ3 16 0 9), zI a0]) (S := []) (Lc := [zI (σ3 16 0 9), zI a0]) (d' := 0) (n := 2) kX10_bitOf vX10_bitOf lkX7_63 (by decide +kernel) (by decide) rfl rfl (Nat.le_of_ble_eq_true rfl) rfl rfl (Nat.le_of_ble_eq_true rfl) (h.monoI (fun z6 σ5 h => ?_))
      exact r_ret (by decide +kernel) rfl (fun _ => h)
    · replace h := h.2 c
      refine r_blk [qO (.iconst 2), qO (.goto 11)] (pc' := 38) (L' := [zR 16 0, zI a0]) (S' := [zI 2]) (σ' := σ3) (Ps := []) (by decide +kernel) rfl trivial ?_
      exact r_ret (by decide +kernel) rfl (fun _ => h)
  · replace h := h.2 c
    refine r_blk [qO (.iconst 3)] (pc' := 13) (L' := [zR 16 0, zI a0]) (S' := [zI 3]) (σ' := σ1) (Ps := []) (by decide +kernel) rfl trivial ?_
    exact r_ret (by decide +kernel) rfl (fun _ => h)
theorem gX7_entryOf_0 (a0 : Int) (a1 : Int) (σ : Hp) {Q : Option Int → Hp → Prop} (h : ((2879 < σ 16 0 7 → Q (some (-9)) σ) ∧ (¬ 2879 < σ 16 0 7 → ((¬ bitz (σ 16 0 5) a0 = 1 → ((bitz (σ 16 0 6) a0 = 1 → Q (some (σ 16 0 7)) σ) ∧ (¬ bitz (σ 16 0 6) a0 = 1 → ((¬ bitz (σ 16 0 9) a0 = a1 → Q (some (σ 16 0 8)) σ) ∧ (bitz (σ 16 0 9) a0 = a1 → Q (some (σ 16 0 7)) σ))))) ∧ (bitz (σ 16 0 5) a0 = 1 → Q (some (-9)) σ))))) : Runs 0 mX7_entryOf 0 [zR 16 0, zI a0, zI a1] [] σ Q := by
  refine r_blk [qO (.aload_n 0), qF (.getfield 54) 7 7, qO (.sipush 2879)] (pc' := 7) (L' := [zR 16 0, zI a0, zI a1]) (S' := [zI 2879, zI (σ 16 0 7)]) (σ' := σ) (Ps := []) (by decide +kernel) rfl trivial ?_
  refine r_icmp_gt (off := 15) (tgt := 22) (by decide +kernel) (by decide) (fun c => ?_) (fun c => ?_)
  · replace h := h.1 c
    refine r_blk [qO (.bipush (-9))] (pc' := 24) (L' := [zR 16 0, zI a0, zI a1]) (S' := [zI (-9)]) (σ' := σ) (Ps := []) (by decide +kernel) rfl trivial ?_
    exact r_ret (by decide +kernel) rfl (fun _ => h)
  · replace h := h.2 c
    refine r_blk [qO (.aload_n 0), qF (.getfield 34) 7 5, qO (.iload_n 1), qO .ishr, qO (.iconst 1), qO .iand, qO (.iconst 1)] (pc' := 19) (L' := [zR 16 0, zI a0, zI a1]) (S' := [zI 1, zI (bitz (σ 16 0 5) a0)]) (σ' := σ) (Ps := []) (by decide +kernel) rfl trivial ?_
    refine r_icmp_ne (off := 6) (tgt := 25) (by decide +kernel) (by decide) (fun c => ?_) (fun c => ?_)
    · replace h := h.1 c
      refine r_blk [qO (.aload_n 0), qF (.getfield 51) 7 6, qO (.iload_n 1), qO .ishr, qO (.iconst 1), qO .iand, qO (.iconst 1)] (pc' := 34) (L' := [zR 16 0, zI a0, zI a1]) (S' := [zI 1, zI (bitz (σ 16 0 6) a0)]) (σ' := σ) (Ps := []) (by decide +kernel) rfl trivial ?_
      refine r_icmp_eq (off := 15) (tgt := 49) (by decide +kernel) (by decide) (fun c => ?_) (fun c => ?_)
      · replace h := h.1 c
        refine r_blk [qO (.aload_n 0), qF (.getfield 54) 7 7, qO (.goto 7)] (pc' := 60) (L' := [zR 16 0, zI a0, zI a1]) (S' := [zI (σ 16 0 7)]) (σ' := σ) (Ps := []) (by decide +kernel) rfl trivial ?_
        exact r_ret (by decide +kernel) rfl (fun _ => h)
      · replace h := h.2 c
        refine r_blk [qO (.aload_n 0), qF (.getfield 60) 7 9, qO (.iload_n 1), qO .ishr, qO (.iconst 1), qO .iand, qO (.iload_n 2)] (pc' := 46) (L' := [zR 16 0, zI a0, zI a1]) (S' := [zI a1, zI (bitz (σ 16 0 9) a0)]) (σ' := σ) (Ps := []) (by decide +kernel) rfl trivial ?_
        refine r_icmp_ne (off := 10) (tgt := 56) (by decide +kernel) (by decide) (fun c => ?_) (fun c => ?_)
        · replace h := h.1 c
          refine r_blk [qO (.aload_n 0), qF (.getfield 57) 7 8] (pc' := 60) (L' := [zR 16 0, zI a0, zI a1]) (S' := [zI (σ 16 0 8)]) (σ' := σ) (Ps := []) (by decide +kernel) rfl trivial ?_
          exact r_ret (by decide +kernel) rfl (fun _ => h)
        · replace h := h.2 c
          refine r_blk [qO (.aload_n 0), qF (.getfield 54) 7 7, qO (.goto 7)] (pc' := 60) (L' := [zR 16 0, zI a0, zI a1]) (S' := [zI (σ 16 0 7)]) (σ' := σ) (Ps := []) (by decide +kernel) rfl trivial ?_
          exact r_ret (by decide +kernel) rfl (fun _ => h)
    · replace h := h.2 c
      refine r_blk [qO (.bipush (-9))] (pc' := 24) (L' := [zR 16 0, zI a0, zI a1]) (S' := [zI (-9)]) (σ' := σ) (Ps := []) (by decide +kernel) rfl trivial ?_
      exact r_ret (by decide +kernel) rfl (fun _ => h)
