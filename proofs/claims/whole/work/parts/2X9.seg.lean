theorem gX9_cheapestPointing_0 (σ : Hp) {Q : Option Int → Hp → Prop} (h : Runs 6 mX9_cheapestPointing 8 [zR 26 0, zI (-9), zI 1000000, zI 0, zU] [] σ Q) : Runs 6 mX9_cheapestPointing 0 [zR 26 0, zU, zU, zU, zU] [] σ Q := by
  refine r_blk [qO (.bipush (-9)), qO (.istore_n 1), qC (.ldc 31) 1000000, qO (.istore_n 2), qO (.iconst 0), qO (.istore_n 3)] (pc' := 8) (L' := [zR 26 0, zI (-9), zI 1000000, zI 0, zU]) (S' := []) (σ' := σ) (Ps := []) (by decide +kernel) rfl trivial ?_
  exact Runs.fg (fgE (fgE (fgE (fgE (fgU fg0))))) h
theorem gX9_cheapestPointing_8 (l1 : Int) (l2 : Int) (l3 : Int) (σ : Hp) {Q : Option Int → Hp → Prop} (h : ((zshl 1 (σ 1 0 1) ≤ l3 → Q (some l1) σ) ∧ (¬ zshl 1 (σ 1 0 1) ≤ l3 → Runs 1 mX6_firstMustUnkept 0 [zR 1 0, zI l3, zU] [] σ (rI (fun z2 σ1 => ((z2 = (-1) → Runs 0 mX7_pointAs 0 [zR 16 0, zI l3, zU] [] σ1 (rV (fun σ3 => Runs 5 mX1_totalUpTo 0 [zR 25 0, zI l2, zU, zU] [] σ3 (rI (fun z5 σ4 => ((l2 ≤ z5 → (-2147483648 ≤ l3 + 1 ∧ l3 + 1 ≤ 2147483647) ∧ Runs 6 mX9_cheapestPointing 8 [zR 26 0, zI l1, zI l2, zI (l3 + 1), zU] [] σ4 Q) ∧ (¬ l2 ≤ z5 → (-2147483648 ≤ l3 + 1 ∧ l3 + 1 ≤ 2147483647) ∧ Runs 6 mX9_cheapestPointing 8 [zR 26 0, zI l3, zI z5, zI (l3 + 1), zU] [] σ4 Q))))))) ∧ (¬ z2 = (-1) → (-2147483648 ≤ l3 + 1 ∧ l3 + 1 ≤ 2147483647) ∧ Runs 6 mX9_cheapestPointing 8 [zR 26 0, zI l1, zI l2, zI (l3 + 1), zU] [] σ1 Q))))))) : Runs 6 mX9_cheapestPointing 8 [zR 26 0, zI l1, zI l2, zI l3, zU] [] σ Q := by
  refine r_blk [qO (.iload_n 3), qO (.iconst 1), qO (.aload_n 0), qF (.getfield 9) 9 0, qF (.getfield 32) 6 1, qO .ishl] (pc' := 18) (L' := [zR 26 0, zI l1, zI l2, zI l3, zU]) (S' := [zI (zshl 1 (σ 1 0 1)), zI l3]) (σ' := σ) (Ps := []) (by decide +kernel) rfl trivial ?_
  refine r_icmp_ge (off := 53) (tgt := 71) (by decide +kernel) (by decide) (fun c => ?_) (fun c => ?_)
  · replace h := h.1 c
    refine r_blk [qO (.iload_n 1)] (pc' := 72) (L' := [zR 26 0, zI l1, zI l2, zI l3, zU]) (S' := [zI l1]) (σ' := σ) (Ps := []) (by decide +kernel) rfl trivial ?_
    exact r_ret (by decide +kernel) rfl (fun _ => h)
  · replace h := h.2 c
    refine r_blk [qO (.aload_n 0), qF (.getfield 9) 9 0, qO (.iload_n 3)] (pc' := 26) (L' := [zR 26 0, zI l1, zI l2, zI l3, zU]) (S' := [zI l3, zR 1 0]) (σ' := σ) (Ps := []) (by decide +kernel) rfl trivial ?_
    refine r_callVI (As := [zI l3]) (S := []) (Lc := [zR 1 0, zI l3, zU]) (d' := 1) (n := 1) (g := 1) (x := 0) (ci := 6) kX6_firstMustUnkept vX6_firstMustUnkept lkX9_38 (by decide +kernel) (by decide) rfl rfl (by decide) rfl rfl (Nat.le_of_ble_eq_true rfl) rfl rfl (Nat.le_of_ble_eq_true rfl) (h.monoI (fun z2 σ1 h => ?_))
    refine r_blk [qO (.iconst (-1))] (pc' := 30) (L' := [zR 26 0, zI l1, zI l2, zI l3, zU]) (S' := [zI (-1), zI z2]) (σ' := σ1) (Ps := []) (by decide +kernel) rfl trivial ?_
    refine r_icmp_eq (off := 6) (tgt := 36) (by decide +kernel) (by decide) (fun c => ?_) (fun c => ?_)
    · replace h := h.1 c
      refine r_blk [qO (.aload_n 0), qF (.getfield 15) 9 1, qO (.iload_n 3)] (pc' := 41) (L' := [zR 26 0, zI l1, zI l2, zI l3, zU]) (S' := [zI l3, zR 16 0]) (σ' := σ1) (Ps := []) (by decide +kernel) rfl trivial ?_
      refine r_callVV (As := [zI l3]) (S := []) (Lc := [zR 16 0, zI l3, zU]) (d' := 0) (n := 1) (g := 16) (x := 0) (ci := 7) kX7_pointAs vX7_pointAs lkX9_42 (by decide +kernel) (by decide) rfl rfl (by decide) rfl rfl (Nat.le_of_ble_eq_true rfl) rfl rfl (Nat.le_of_ble_eq_true rfl) (h.monoV (fun σ3 h => ?_))
      refine r_blk [qO (.aload_n 0), qF (.getfield 27) 9 4, qO (.iload_n 2)] (pc' := 49) (L' := [zR 26 0, zI l1, zI l2, zI l3, zU]) (S' := [zI l2, zR 25 0]) (σ' := σ3) (Ps := []) (by decide +kernel) rfl trivial ?_
      refine r_callVI (As := [zI l2]) (S := []) (Lc := [zR 25 0, zI l2, zU, zU]) (d' := 5) (n := 1) (g := 25) (x := 0) (ci := 1) kX1_totalUpTo vX1_totalUpTo lkX9_48 (by decide +kernel) (by decide) rfl rfl (by decide) rfl rfl (Nat.le_of_ble_eq_true rfl) rfl rfl (Nat.le_of_ble_eq_true rfl) (h.monoI (fun z5 σ4 h => ?_))
      refine r_blk [qO (.istore 4), qO (.iload 4), qO (.iload_n 2)] (pc' := 57) (L' := [zR 26 0, zI l1, zI l2, zI l3, zI z5]) (S' := [zI l2, zI z5]) (σ' := σ4) (Ps := []) (by decide +kernel) rfl trivial ?_
      refine r_icmp_ge (off := 8) (tgt := 65) (by decide +kernel) (by decide) (fun c => ?_) (fun c => ?_)
      · replace h := h.1 c
        refine r_blk [qO (.iinc 3 1), qO (.goto (-60))] (pc' := 8) (L' := [zR 26 0, zI l1, zI l2, zI (l3 + 1), zI z5]) (S' := []) (σ' := σ4) (Ps := [-2147483648 ≤ l3 + 1 ∧ l3 + 1 ≤ 2147483647]) (by decide +kernel) rfl ⟨h.1, trivial⟩ ?_
        replace h := h.2
        exact Runs.fg (fgE (fgE (fgE (fgE (fgU fg0))))) h
      · replace h := h.2 c
        refine r_blk [qO (.iload 4), qO (.istore_n 2), qO (.iload_n 3), qO (.istore_n 1), qO (.iinc 3 1), qO (.goto (-60))] (pc' := 8) (L' := [zR 26 0, zI l3, zI z5, zI (l3 + 1), zI z5]) (S' := []) (σ' := σ4) (Ps := [-2147483648 ≤ l3 + 1 ∧ l3 + 1 ≤ 2147483647]) (by decide +kernel) rfl ⟨h.1, trivial⟩ ?_
        replace h := h.2
        exact Runs.fg (fgE (fgE (fgE (fgE (fgU fg0))))) h
    · replace h := h.2 c
      refine r_blk [qO (.goto 32), qO (.iinc 3 1), qO (.goto (-60))] (pc' := 8) (L' := [zR 26 0, zI l1, zI l2, zI (l3 + 1), zU]) (S' := []) (σ' := σ1) (Ps := [-2147483648 ≤ l3 + 1 ∧ l3 + 1 ≤ 2147483647]) (by decide +kernel) rfl ⟨h.1, trivial⟩ ?_
      replace h := h.2
      exact Runs.fg (fgE (fgE (fgE (fgE (fgU fg0))))) h
theorem gX9_nearestPointing_0 (σ : Hp) {Q : Option Int → Hp → Prop} (h : Runs 3 mX9_nearestPointing 8 [zR 26 0, zI (-9), zI 1000000, zI 0, zU] [] σ Q) : Runs 3 mX9_nearestPointing 0 [zR 26 0, zU, zU, zU, zU] [] σ Q := by
  refine r_blk [qO (.bipush (-9)), qO (.istore_n 1), qC (.ldc 31) 1000000, qO (.istore_n 2), qO (.iconst 0), qO (.istore_n 3)] (pc' := 8) (L' := [zR 26 0, zI (-9), zI 1000000, zI 0, zU]) (S' := []) (σ' := σ) (Ps := []) (by decide +kernel) rfl trivial ?_
  exact Runs.fg (fgE (fgE (fgE (fgE (fgU fg0))))) h
theorem gX9_nearestPointing_8 (l1 : Int) (l2 : Int) (l3 : Int) (σ : Hp) {Q : Option Int → Hp → Prop} (h : ((zshl 1 (σ 1 0 1) ≤ l3 → Q (some l1) σ) ∧ (¬ zshl 1 (σ 1 0 1) ≤ l3 → Runs 1 mX6_firstMustUnkept 0 [zR 1 0, zI l3, zU] [] σ (rI (fun z2 σ1 => ((z2 = (-1) → Runs 0 mX7_pointAs 0 [zR 16 0, zI l3, zU] [] σ1 (rV (fun σ3 => Runs 2 mX0_lay 0 [zR 19 0, zI 0, zU, zU] [] σ3 (rV (fun σ4 => Runs 2 mX0_join 0 [zR 19 0, zU, zU] [] σ4 (rV (fun σ5 => Runs 1 mX0_farthest 0 [zR 19 0, zU, zU, zU] [] σ5 (rI (fun z7 σ6 => ((z7 = (-9) → (-2147483648 ≤ l3 + 1 ∧ l3 + 1 ≤ 2147483647) ∧ Runs 3 mX9_nearestPointing 8 [zR 26 0, zI l1, zI l2, zI (l3 + 1), zU] [] σ6 Q) ∧ (¬ z7 = (-9) → ((l2 ≤ z7 → (-2147483648 ≤ l3 + 1 ∧ l3 + 1 ≤ 2147483647) ∧ Runs 3 mX9_nearestPointing 8 [zR 26 0, zI l1, zI l2, zI (l3 + 1), zU] [] σ6 Q) ∧ (¬ l2 ≤ z7 → (-2147483648 ≤ l3 + 1 ∧ l3 + 1 ≤ 2147483647) ∧ Runs 3 mX9_nearestPointing 8 [zR 26 0, zI l3, zI z7, zI (l3 + 1), zU] [] σ6 Q))))))))))))) ∧ (¬ z2 = (-1) → (-2147483648 ≤ l3 + 1 ∧ l3 + 1 ≤ 2147483647) ∧ Runs 3 mX9_nearestPointing 8 [zR 26 0, zI l1, zI l2, zI (l3 + 1), zU] [] σ1 Q))))))) : Runs 3 mX9_nearestPointing 8 [zR 26 0, zI l1, zI l2, zI l3, zU] [] σ Q := by
  refine r_blk [qO (.iload_n 3), qO (.iconst 1), qO (.aload_n 0), qF (.getfield 9) 9 0, qF (.getfield 32) 6 1, qO .ishl] (pc' := 18) (L' := [zR 26 0, zI l1, zI l2, zI l3, zU]) (S' := [zI (zshl 1 (σ 1 0 1)), zI l3]) (σ' := σ) (Ps := []) (by decide +kernel) rfl trivial ?_
  refine r_icmp_ge (off := 74) (tgt := 92) (by decide +kernel) (by decide) (fun c => ?_) (fun c => ?_)
  · replace h := h.1 c
    refine r_blk [qO (.iload_n 1)] (pc' := 93) (L' := [zR 26 0, zI l1, zI l2, zI l3, zU]) (S' := [zI l1]) (σ' := σ) (Ps := []) (by decide +kernel) rfl trivial ?_
    exact r_ret (by decide +kernel) rfl (fun _ => h)
  · replace h := h.2 c
    refine r_blk [qO (.aload_n 0), qF (.getfield 9) 9 0, qO (.iload_n 3)] (pc' := 26) (L' := [zR 26 0, zI l1, zI l2, zI l3, zU]) (S' := [zI l3, zR 1 0]) (σ' := σ) (Ps := []) (by decide +kernel) rfl trivial ?_
    refine r_callVI (As := [zI l3]) (S := []) (Lc := [zR 1 0, zI l3, zU]) (d' := 1) (n := 1) (g := 1) (x := 0) (ci := 6) kX6_firstMustUnkept vX6_firstMustUnkept lkX9_38 (by decide +kernel) (by decide) rfl rfl (by decide) rfl rfl (Nat.le_of_ble_eq_true rfl) rfl rfl (Nat.le_of_ble_eq_true rfl) (h.monoI (fun z2 σ1 h => ?_))
    refine r_blk [qO (.iconst (-1))] (pc' := 30) (L' := [zR 26 0, zI l1, zI l2, zI l3, zU]) (S' := [zI (-1), zI z2]) (σ' := σ1) (Ps := []) (by decide +kernel) rfl trivial ?_
    refine r_icmp_eq (off := 6) (tgt := 36) (by decide +kernel) (by decide) (fun c => ?_) (fun c => ?_)
    · replace h := h.1 c
      refine r_blk [qO (.aload_n 0), qF (.getfield 15) 9 1, qO (.iload_n 3)] (pc' := 41) (L' := [zR 26 0, zI l1, zI l2, zI l3, zU]) (S' := [zI l3, zR 16 0]) (σ' := σ1) (Ps := []) (by decide +kernel) rfl trivial ?_
      refine r_callVV (As := [zI l3]) (S := []) (Lc := [zR 16 0, zI l3, zU]) (d' := 0) (n := 1) (g := 16) (x := 0) (ci := 7) kX7_pointAs vX7_pointAs lkX9_42 (by decide +kernel) (by decide) rfl rfl (by decide) rfl rfl (Nat.le_of_ble_eq_true rfl) rfl rfl (Nat.le_of_ble_eq_true rfl) (h.monoV (fun σ3 h => ?_))
      refine r_blk [qO (.aload_n 0), qF (.getfield 23) 9 3, qO (.iconst 0)] (pc' := 49) (L' := [zR 26 0, zI l1, zI l2, zI l3, zU]) (S' := [zI 0, zR 19 0]) (σ' := σ3) (Ps := []) (by decide +kernel) rfl trivial ?_
      refine r_callVV (As := [zI 0]) (S := []) (Lc := [zR 19 0, zI 0, zU, zU]) (d' := 2) (n := 1) (g := 19) (x := 0) (ci := 0) kX0_lay vX0_lay lkX9_53 (by decide +kernel) (by decide) rfl rfl (by decide) rfl rfl (Nat.le_of_ble_eq_true rfl) rfl rfl (Nat.le_of_ble_eq_true rfl) (h.monoV (fun σ4 h => ?_))
      refine r_blk [qO (.aload_n 0), qF (.getfield 23) 9 3] (pc' := 56) (L' := [zR 26 0, zI l1, zI l2, zI l3, zU]) (S' := [zR 19 0]) (σ' := σ4) (Ps := []) (by decide +kernel) rfl trivial ?_
      refine r_callVV (As := []) (S := []) (Lc := [zR 19 0, zU, zU]) (d' := 2) (n := 0) (g := 19) (x := 0) (ci := 0) kX0_join vX0_join lkX9_58 (by decide +kernel) (by decide) rfl rfl (by decide) rfl rfl (Nat.le_of_ble_eq_true rfl) rfl rfl (Nat.le_of_ble_eq_true rfl) (h.monoV (fun σ5 h => ?_))
      refine r_blk [qO (.aload_n 0), qF (.getfield 23) 9 3] (pc' := 63) (L' := [zR 26 0, zI l1, zI l2, zI l3, zU]) (S' := [zR 19 0]) (σ' := σ5) (Ps := []) (by decide +kernel) rfl trivial ?_
      refine r_callVI (As := []) (S := []) (Lc := [zR 19 0, zU, zU, zU]) (d' := 1) (n := 0) (g := 19) (x := 0) (ci := 0) kX0_farthest vX0_farthest lkX9_61 (by decide +kernel) (by decide) rfl rfl (by decide) rfl rfl (Nat.le_of_ble_eq_true rfl) rfl rfl (Nat.le_of_ble_eq_true rfl) (h.monoI (fun z7 σ6 h => ?_))
      refine r_blk [qO (.istore 4), qO (.iload 4), qO (.bipush (-9))] (pc' := 72) (L' := [zR 26 0, zI l1, zI l2, zI l3, zI z7]) (S' := [zI (-9), zI z7]) (σ' := σ6) (Ps := []) (by decide +kernel) rfl trivial ?_
      refine r_icmp_eq (off := 14) (tgt := 86) (by decide +kernel) (by decide) (fun c => ?_) (fun c => ?_)
      · replace h := h.1 c
        refine r_blk [qO (.iinc 3 1), qO (.goto (-81))] (pc' := 8) (L' := [zR 26 0, zI l1, zI l2, zI (l3 + 1), zI z7]) (S' := []) (σ' := σ6) (Ps := [-2147483648 ≤ l3 + 1 ∧ l3 + 1 ≤ 2147483647]) (by decide +kernel) rfl ⟨h.1, trivial⟩ ?_
        replace h := h.2
        exact Runs.fg (fgE (fgE (fgE (fgE (fgU fg0))))) h
      · replace h := h.2 c
        refine r_blk [qO (.iload 4), qO (.iload_n 2)] (pc' := 78) (L' := [zR 26 0, zI l1, zI l2, zI l3, zI z7]) (S' := [zI l2, zI z7]) (σ' := σ6) (Ps := []) (by decide +kernel) rfl trivial ?_
        refine r_icmp_ge (off := 8) (tgt := 86) (by decide +kernel) (by decide) (fun c => ?_) (fun c => ?_)
        · replace h := h.1 c
          refine r_blk [qO (.iinc 3 1), qO (.goto (-81))] (pc' := 8) (L' := [zR 26 0, zI l1, zI l2, zI (l3 + 1), zI z7]) (S' := []) (σ' := σ6) (Ps := [-2147483648 ≤ l3 + 1 ∧ l3 + 1 ≤ 2147483647]) (by decide +kernel) rfl ⟨h.1, trivial⟩ ?_
          replace h := h.2
          exact Runs.fg (fgE (fgE (fgE (fgE (fgU fg0))))) h
        · replace h := h.2 c
          refine r_blk [qO (.iload 4), qO (.istore_n 2), qO (.iload_n 3), qO (.istore_n 1), qO (.iinc 3 1), qO (.goto (-81))] (pc' := 8) (L' := [zR 26 0, zI l3, zI z7, zI (l3 + 1), zI z7]) (S' := []) (σ' := σ6) (Ps := [-2147483648 ≤ l3 + 1 ∧ l3 + 1 ≤ 2147483647]) (by decide +kernel) rfl ⟨h.1, trivial⟩ ?_
          replace h := h.2
          exact Runs.fg (fgE (fgE (fgE (fgE (fgU fg0))))) h
    · replace h := h.2 c
      refine r_blk [qO (.goto 53), qO (.iinc 3 1), qO (.goto (-81))] (pc' := 8) (L' := [zR 26 0, zI l1, zI l2, zI (l3 + 1), zU]) (S' := []) (σ' := σ1) (Ps := [-2147483648 ≤ l3 + 1 ∧ l3 + 1 ≤ 2147483647]) (by decide +kernel) rfl ⟨h.1, trivial⟩ ?_
      replace h := h.2
      exact Runs.fg (fgE (fgE (fgE (fgE (fgU fg0))))) h
theorem gX9_turnedPointing_0 (σ : Hp) {Q : Option Int → Hp → Prop} (h : Runs 5 mX1_totalUpTo 0 [zR 25 0, zI 1000000, zU, zU] [] σ (rI (fun z2 σ1 => Runs 6 mX9_turnedPointing 23 [zR 26 0, zI (σ 1 0 6), zI z2, zI 1, zI 0, zU, zU, zU] [] σ1 Q))) : Runs 6 mX9_turnedPointing 0 [zR 26 0, zU, zU, zU, zU, zU, zU, zU] [] σ Q := by
  refine r_blk [qO (.aload_n 0), qF (.getfield 9) 9 0, qF (.getfield 65) 6 6, qO (.istore_n 1), qO (.aload_n 0), qF (.getfield 27) 9 4, qC (.ldc 31) 1000000] (pc' := 14) (L' := [zR 26 0, zI (σ 1 0 6), zU, zU, zU, zU, zU, zU]) (S' := [zI 1000000, zR 25 0]) (σ' := σ) (Ps := []) (by decide +kernel) rfl trivial ?_
  refine r_callVI (As := [zI 1000000]) (S := []) (Lc := [zR 25 0, zI 1000000, zU, zU]) (d' := 5) (n := 1) (g := 25) (x := 0) (ci := 1) kX1_totalUpTo vX1_totalUpTo lkX9_48 (by decide +kernel) (by decide) rfl rfl (by decide) rfl rfl (Nat.le_of_ble_eq_true rfl) rfl rfl (Nat.le_of_ble_eq_true rfl) (h.monoI (fun z2 σ1 h => ?_))
  refine r_blk [qO (.istore_n 2), qO (.iconst 1), qO (.istore_n 3), qO (.iconst 0), qO (.istore 4)] (pc' := 23) (L' := [zR 26 0, zI (σ 1 0 6), zI z2, zI 1, zI 0, zU, zU, zU]) (S' := []) (σ' := σ1) (Ps := []) (by decide +kernel) rfl trivial ?_
  exact Runs.fg (fgE (fgE (fgE (fgE (fgE (fgU (fgU (fgU fg0)))))))) h
theorem gX9_turnedPointing_23 (l1 : Int) (l2 : Int) (l3 : Int) (l4 : Int) (σ : Hp) {Q : Option Int → Hp → Prop} (h : ((20 ≤ l4 → Q (some l1) σ) ∧ (¬ 20 ≤ l4 → ((l3 = 0 → Q (some l1) σ) ∧ (¬ l3 = 0 → Runs 6 mX9_turnedPointing 39 [zR 26 0, zI l1, zI l2, zI 0, zI l4, zI 0, zU, zU] [] σ Q))))) : Runs 6 mX9_turnedPointing 23 [zR 26 0, zI l1, zI l2, zI l3, zI l4, zU, zU, zU] [] σ Q := by
  refine r_blk [qO (.iload 4), qO (.bipush 20)] (pc' := 27) (L' := [zR 26 0, zI l1, zI l2, zI l3, zI l4, zU, zU, zU]) (S' := [zI 20, zI l4]) (σ' := σ) (Ps := []) (by decide +kernel) rfl trivial ?_
  refine r_icmp_ge (off := 99) (tgt := 126) (by decide +kernel) (by decide) (fun c => ?_) (fun c => ?_)
  · replace h := h.1 c
    refine r_blk [qO (.iload_n 1)] (pc' := 127) (L' := [zR 26 0, zI l1, zI l2, zI l3, zI l4, zU, zU, zU]) (S' := [zI l1]) (σ' := σ) (Ps := []) (by decide +kernel) rfl trivial ?_
    exact r_ret (by decide +kernel) rfl (fun _ => h)
  · replace h := h.2 c
    refine r_blk [qO (.iload_n 3)] (pc' := 31) (L' := [zR 26 0, zI l1, zI l2, zI l3, zI l4, zU, zU, zU]) (S' := [zI l3]) (σ' := σ) (Ps := []) (by decide +kernel) rfl trivial ?_
    refine r_if_eq (off := 95) (tgt := 126) (by decide +kernel) (by decide) (fun c => ?_) (fun c => ?_)
    · replace h := h.1 c
      refine r_blk [qO (.iload_n 1)] (pc' := 127) (L' := [zR 26 0, zI l1, zI l2, zI l3, zI l4, zU, zU, zU]) (S' := [zI l1]) (σ' := σ) (Ps := []) (by decide +kernel) rfl trivial ?_
      exact r_ret (by decide +kernel) rfl (fun _ => h)
    · replace h := h.2 c
      refine r_blk [qO (.iconst 0), qO (.istore_n 3), qO (.iconst 0), qO (.istore 5)] (pc' := 39) (L' := [zR 26 0, zI l1, zI l2, zI 0, zI l4, zI 0, zU, zU]) (S' := []) (σ' := σ) (Ps := []) (by decide +kernel) rfl trivial ?_
      exact Runs.fg (fgE (fgE (fgE (fgE (fgE (fgE (fgU (fgU fg0)))))))) h
theorem gX9_turnedPointing_39 (l1 : Int) (l2 : Int) (l3 : Int) (l4 : Int) (l5 : Int) (σ : Hp) {Q : Option Int → Hp → Prop} (h : ((σ 1 0 1 ≤ l5 → (-2147483648 ≤ l4 + 1 ∧ l4 + 1 ≤ 2147483647) ∧ Runs 6 mX9_turnedPointing 23 [zR 26 0, zI l1, zI l2, zI l3, zI (l4 + 1), zU, zU, zU] [] σ Q) ∧ (¬ σ 1 0 1 ≤ l5 → Runs 0 mX10_bitOf 0 [zI (zxor l1 (zshl 1 l5)), zI l5] [] σ (rI (fun z2 σ1 => Runs 0 mX6_mustLets 0 [zR 1 0, zI l5, zI z2] [] σ1 (rI (fun z4 σ3 => ((¬ z4 = 0 → Runs 0 mX7_pointAs 0 [zR 16 0, zI (zxor l1 (zshl 1 l5)), zU] [] σ3 (rV (fun σ5 => Runs 5 mX1_totalUpTo 0 [zR 25 0, zI l2, zU, zU] [] σ5 (rI (fun z7 σ6 => ((l2 ≤ z7 → (-2147483648 ≤ l5 + 1 ∧ l5 + 1 ≤ 2147483647) ∧ Runs 6 mX9_turnedPointing 39 [zR 26 0, zI l1, zI l2, zI l3, zI l4, zI (l5 + 1), zU, zU] [] σ6 Q) ∧ (¬ l2 ≤ z7 → (-2147483648 ≤ l5 + 1 ∧ l5 + 1 ≤ 2147483647) ∧ Runs 6 mX9_turnedPointing 39 [zR 26 0, zI (zxor l1 (zshl 1 l5)), zI z7, zI 1, zI l4, zI (l5 + 1), zU, zU] [] σ6 Q))))))) ∧ (z4 = 0 → (-2147483648 ≤ l5 + 1 ∧ l5 + 1 ≤ 2147483647) ∧ Runs 6 mX9_turnedPointing 39 [zR 26 0, zI l1, zI l2, zI l3, zI l4, zI (l5 + 1), zU, zU] [] σ3 Q))))))))) : Runs 6 mX9_turnedPointing 39 [zR 26 0, zI l1, zI l2, zI l3, zI l4, zI l5, zU, zU] [] σ Q := by
  refine r_blk [qO (.iload 5), qO (.aload_n 0), qF (.getfield 9) 9 0, qF (.getfield 32) 6 1] (pc' := 48) (L' := [zR 26 0, zI l1, zI l2, zI l3, zI l4, zI l5, zU, zU]) (S' := [zI (σ 1 0 1), zI l5]) (σ' := σ) (Ps := []) (by decide +kernel) rfl trivial ?_
  refine r_icmp_ge (off := 72) (tgt := 120) (by decide +kernel) (by decide) (fun c => ?_) (fun c => ?_)
  · replace h := h.1 c
    refine r_blk [qO (.iinc 4 1), qO (.goto (-100))] (pc' := 23) (L' := [zR 26 0, zI l1, zI l2, zI l3, zI (l4 + 1), zI l5, zU, zU]) (S' := []) (σ' := σ) (Ps := [-2147483648 ≤ l4 + 1 ∧ l4 + 1 ≤ 2147483647]) (by decide +kernel) rfl ⟨h.1, trivial⟩ ?_
    replace h := h.2
    exact Runs.fg (fgE (fgE (fgE (fgE (fgE (fgU (fgU (fgU fg0)))))))) h
  · replace h := h.2 c
    refine r_blk [qO (.iload_n 1), qO (.iconst 1), qO (.iload 5), qO .ishl, qO .ixor, qO (.istore 6), qO (.aload_n 0), qF (.getfield 9) 9 0, qO (.iload 5), qO (.iload 6), qO (.iload 5)] (pc' := 69) (L' := [zR 26 0, zI l1, zI l2, zI l3, zI l4, zI l5, zI (zxor l1 (zshl 1 l5)), zU]) (S' := [zI l5, zI (zxor l1 (zshl 1 l5)), zI l5, zR 1 0]) (σ' := σ) (Ps := []) (by decide +kernel) rfl trivial ?_
    refine r_callNI (As := [zI (zxor l1 (zshl 1 l5)), zI l5]) (S := [zI l5, zR 1 0]) (Lc := [zI (zxor l1 (zshl 1 l5)), zI l5]) (d' := 0) (n := 2) kX10_bitOf vX10_bitOf lkX9_68 (by decide +kernel) (by decide) rfl rfl (Nat.le_of_ble_eq_true rfl) rfl rfl (Nat.le_of_ble_eq_true rfl) (h.monoI (fun z2 σ1 h => ?_))
    refine r_callVI (As := [zI l5, zI z2]) (S := []) (Lc := [zR 1 0, zI l5, zI z2]) (d' := 0) (n := 2) (g := 1) (x := 0) (ci := 6) kX6_mustLets vX6_mustLets lkX9_72 (by decide +kernel) (by decide) rfl rfl (by decide) rfl rfl (Nat.le_of_ble_eq_true rfl) rfl rfl (Nat.le_of_ble_eq_true rfl) (h.monoI (fun z4 σ3 h => ?_))
    refine r_if_ne (off := 6) (tgt := 81) (by decide +kernel) (by decide) (fun c => ?_) (fun c => ?_)
    · replace h := h.1 c
      refine r_blk [qO (.aload_n 0), qF (.getfield 15) 9 1, qO (.iload 6)] (pc' := 87) (L' := [zR 26 0, zI l1, zI l2, zI l3, zI l4, zI l5, zI (zxor l1 (zshl 1 l5)), zU]) (S' := [zI (zxor l1 (zshl 1 l5)), zR 16 0]) (σ' := σ3) (Ps := []) (by decide +kernel) rfl trivial ?_
      refine r_callVV (As := [zI (zxor l1 (zshl 1 l5))]) (S := []) (Lc := [zR 16 0, zI (zxor l1 (zshl 1 l5)), zU]) (d' := 0) (n := 1) (g := 16) (x := 0) (ci := 7) kX7_pointAs vX7_pointAs lkX9_42 (by decide +kernel) (by decide) rfl rfl (by decide) rfl rfl (Nat.le_of_ble_eq_true rfl) rfl rfl (Nat.le_of_ble_eq_true rfl) (h.monoV (fun σ5 h => ?_))
      refine r_blk [qO (.aload_n 0), qF (.getfield 27) 9 4, qO (.iload_n 2)] (pc' := 95) (L' := [zR 26 0, zI l1, zI l2, zI l3, zI l4, zI l5, zI (zxor l1 (zshl 1 l5)), zU]) (S' := [zI l2, zR 25 0]) (σ' := σ5) (Ps := []) (by decide +kernel) rfl trivial ?_
      refine r_callVI (As := [zI l2]) (S := []) (Lc := [zR 25 0, zI l2, zU, zU]) (d' := 5) (n := 1) (g := 25) (x := 0) (ci := 1) kX1_totalUpTo vX1_totalUpTo lkX9_48 (by decide +kernel) (by decide) rfl rfl (by decide) rfl rfl (Nat.le_of_ble_eq_true rfl) rfl rfl (Nat.le_of_ble_eq_true rfl) (h.monoI (fun z7 σ6 h => ?_))
      refine r_blk [qO (.istore 7), qO (.iload 7), qO (.iload_n 2)] (pc' := 103) (L' := [zR 26 0, zI l1, zI l2, zI l3, zI l4, zI l5, zI (zxor l1 (zshl 1 l5)), zI z7]) (S' := [zI l2, zI z7]) (σ' := σ6) (Ps := []) (by decide +kernel) rfl trivial ?_
      refine r_icmp_ge (off := 11) (tgt := 114) (by decide +kernel) (by decide) (fun c => ?_) (fun c => ?_)
      · replace h := h.1 c
        refine r_blk [qO (.iinc 5 1), qO (.goto (-78))] (pc' := 39) (L' := [zR 26 0, zI l1, zI l2, zI l3, zI l4, zI (l5 + 1), zI (zxor l1 (zshl 1 l5)), zI z7]) (S' := []) (σ' := σ6) (Ps := [-2147483648 ≤ l5 + 1 ∧ l5 + 1 ≤ 2147483647]) (by decide +kernel) rfl ⟨h.1, trivial⟩ ?_
        replace h := h.2
        exact Runs.fg (fgE (fgE (fgE (fgE (fgE (fgE (fgU (fgU fg0)))))))) h
      · replace h := h.2 c
        refine r_blk [qO (.iload 7), qO (.istore_n 2), qO (.iload 6), qO (.istore_n 1), qO (.iconst 1), qO (.istore_n 3), qO (.iinc 5 1), qO (.goto (-78))] (pc' := 39) (L' := [zR 26 0, zI (zxor l1 (zshl 1 l5)), zI z7, zI 1, zI l4, zI (l5 + 1), zI (zxor l1 (zshl 1 l5)), zI z7]) (S' := []) (σ' := σ6) (Ps := [-2147483648 ≤ l5 + 1 ∧ l5 + 1 ≤ 2147483647]) (by decide +kernel) rfl ⟨h.1, trivial⟩ ?_
        replace h := h.2
        exact Runs.fg (fgE (fgE (fgE (fgE (fgE (fgE (fgU (fgU fg0)))))))) h
    · replace h := h.2 c
      refine r_blk [qO (.goto 36), qO (.iinc 5 1), qO (.goto (-78))] (pc' := 39) (L' := [zR 26 0, zI l1, zI l2, zI l3, zI l4, zI (l5 + 1), zI (zxor l1 (zshl 1 l5)), zU]) (S' := []) (σ' := σ3) (Ps := [-2147483648 ≤ l5 + 1 ∧ l5 + 1 ≤ 2147483647]) (by decide +kernel) rfl ⟨h.1, trivial⟩ ?_
      replace h := h.2
      exact Runs.fg (fgE (fgE (fgE (fgE (fgE (fgE (fgU (fgU fg0)))))))) h
theorem gX9_fewestForCost_0 (a0 : Int) (σ : Hp) {Q : Option Int → Hp → Prop} (h : (-2147483648 ≤ (if 1000000 < a0 then 1000000 else a0) + 1 ∧ (if 1000000 < a0 then 1000000 else a0) + 1 ≤ 2147483647) ∧ (-2147483648 ≤ (zshl 1 (σ 1 0 1)) - 1 ∧ (zshl 1 (σ 1 0 1)) - 1 ≤ 2147483647) ∧ Runs 0 mX7_openBothWays 0 [zR 16 0, zI ((zshl 1 (σ 1 0 1)) - 1)] [] σ (rV (fun σ1 => Runs 5 mX1_totalUpTo 0 [zR 25 0, zI ((if 1000000 < a0 then 1000000 else a0) + 1), zU, zU] [] σ1 (rI (fun z3 σ2 => ((z3 ≤ a0 → Runs 6 mX9_fewestForCost 47 [zR 26 0, zI a0, zI ((if 1000000 < a0 then 1000000 else a0) + 1), zI 0, zI 0] [] σ2 Q) ∧ (¬ z3 ≤ a0 → Q (some (-9)) σ2))))))) : Runs 6 mX9_fewestForCost 0 [zR 26 0, zI a0, zU, zU, zU] [] σ Q := by
  refine r_blk [qO (.iload_n 1), qC (.ldc 31) 1000000] (pc' := 3) (L' := [zR 26 0, zI a0, zU, zU, zU]) (S' := [zI 1000000, zI a0]) (σ' := σ) (Ps := []) (by decide +kernel) rfl trivial ?_
  refine r_min lkX9_76 (by decide +kernel) (by decide) (Nat.le_of_ble_eq_true rfl) ?_
  refine r_blk [qO (.iconst 1), qO .iadd, qO (.istore_n 2), qO (.aload_n 0), qF (.getfield 15) 9 1, qO (.iconst 1), qO (.aload_n 0), qF (.getfield 9) 9 0, qF (.getfield 32) 6 1, qO .ishl, qO (.iconst 1), qO .isub] (pc' := 24) (L' := [zR 26 0, zI a0, zI ((if 1000000 < a0 then 1000000 else a0) + 1), zU, zU]) (S' := [zI ((zshl 1 (σ 1 0 1)) - 1), zR 16 0]) (σ' := σ) (Ps := [-2147483648 ≤ (if 1000000 < a0 then 1000000 else a0) + 1 ∧ (if 1000000 < a0 then 1000000 else a0) + 1 ≤ 2147483647, -2147483648 ≤ (zshl 1 (σ 1 0 1)) - 1 ∧ (zshl 1 (σ 1 0 1)) - 1 ≤ 2147483647]) (by decide +kernel) rfl ⟨h.1, h.2.1, trivial⟩ ?_
  replace h := h.2.2
  refine r_callVV (As := [zI ((zshl 1 (σ 1 0 1)) - 1)]) (S := []) (Lc := [zR 16 0, zI ((zshl 1 (σ 1 0 1)) - 1)]) (d' := 0) (n := 1) (g := 16) (x := 0) (ci := 7) kX7_openBothWays vX7_openBothWays lkX9_81 (by decide +kernel) (by decide) rfl rfl (by decide) rfl rfl (Nat.le_of_ble_eq_true rfl) rfl rfl (Nat.le_of_ble_eq_true rfl) (h.monoV (fun σ1 h => ?_))
  refine r_blk [qO (.aload_n 0), qF (.getfield 27) 9 4, qO (.iload_n 2)] (pc' := 32) (L' := [zR 26 0, zI a0, zI ((if 1000000 < a0 then 1000000 else a0) + 1), zU, zU]) (S' := [zI ((if 1000000 < a0 then 1000000 else a0) + 1), zR 25 0]) (σ' := σ1) (Ps := []) (by decide +kernel) rfl trivial ?_
  refine r_callVI (As := [zI ((if 1000000 < a0 then 1000000 else a0) + 1)]) (S := []) (Lc := [zR 25 0, zI ((if 1000000 < a0 then 1000000 else a0) + 1), zU, zU]) (d' := 5) (n := 1) (g := 25) (x := 0) (ci := 1) kX1_totalUpTo vX1_totalUpTo lkX9_48 (by decide +kernel) (by decide) rfl rfl (by decide) rfl rfl (Nat.le_of_ble_eq_true rfl) rfl rfl (Nat.le_of_ble_eq_true rfl) (h.monoI (fun z3 σ2 h => ?_))
  refine r_blk [qO (.iload_n 1)] (pc' := 36) (L' := [zR 26 0, zI a0, zI ((if 1000000 < a0 then 1000000 else a0) + 1), zU, zU]) (S' := [zI a0, zI z3]) (σ' := σ2) (Ps := []) (by decide +kernel) rfl trivial ?_
  refine r_icmp_le (off := 6) (tgt := 42) (by decide +kernel) (by decide) (fun c => ?_) (fun c => ?_)
  · replace h := h.1 c
    refine r_blk [qO (.iconst 0), qO (.istore_n 3), qO (.iconst 0), qO (.istore 4)] (pc' := 47) (L' := [zR 26 0, zI a0, zI ((if 1000000 < a0 then 1000000 else a0) + 1), zI 0, zI 0]) (S' := []) (σ' := σ2) (Ps := []) (by decide +kernel) rfl trivial ?_
    exact Runs.fg (fgE (fgE (fgE (fgE (fgE fg0))))) h
  · replace h := h.2 c
    refine r_blk [qO (.bipush (-9))] (pc' := 41) (L' := [zR 26 0, zI a0, zI ((if 1000000 < a0 then 1000000 else a0) + 1), zU, zU]) (S' := [zI (-9)]) (σ' := σ2) (Ps := []) (by decide +kernel) rfl trivial ?_
    exact r_ret (by decide +kernel) rfl (fun _ => h)
theorem gX9_fewestForCost_47 (l1 : Int) (l2 : Int) (l3 : Int) (l4 : Int) (σ : Hp) {Q : Option Int → Hp → Prop} (h : ((zshl 1 (σ 1 0 1) ≤ l4 → Q (some (-9)) σ) ∧ (¬ zshl 1 (σ 1 0 1) ≤ l4 → Runs 0 mX7_openBothWays 0 [zR 16 0, zI l3] [] σ (rV (fun σ1 => Runs 5 mX1_totalUpTo 0 [zR 25 0, zI l2, zU, zU] [] σ1 (rI (fun z3 σ2 => ((l1 < z3 → Runs 1 mX9_nextByFewest 0 [zR 26 0, zI l3, zU, zU, zU] [] σ2 (rI (fun z5 σ4 => (-2147483648 ≤ l4 + 1 ∧ l4 + 1 ≤ 2147483647) ∧ Runs 6 mX9_fewestForCost 47 [zR 26 0, zI l1, zI l2, zI z5, zI (l4 + 1)] [] σ4 Q))) ∧ (¬ l1 < z3 → Q (some l3) σ2))))))))) : Runs 6 mX9_fewestForCost 47 [zR 26 0, zI l1, zI l2, zI l3, zI l4] [] σ Q := by
  refine r_blk [qO (.iload 4), qO (.iconst 1), qO (.aload_n 0), qF (.getfield 9) 9 0, qF (.getfield 32) 6 1, qO .ishl] (pc' := 58) (L' := [zR 26 0, zI l1, zI l2, zI l3, zI l4]) (S' := [zI (zshl 1 (σ 1 0 1)), zI l4]) (σ' := σ) (Ps := []) (by decide +kernel) rfl trivial ?_
  refine r_icmp_ge (off := 37) (tgt := 95) (by decide +kernel) (by decide) (fun c => ?_) (fun c => ?_)
  · replace h := h.1 c
    refine r_blk [qO (.bipush (-9))] (pc' := 97) (L' := [zR 26 0, zI l1, zI l2, zI l3, zI l4]) (S' := [zI (-9)]) (σ' := σ) (Ps := []) (by decide +kernel) rfl trivial ?_
    exact r_ret (by decide +kernel) rfl (fun _ => h)
  · replace h := h.2 c
    refine r_blk [qO (.aload_n 0), qF (.getfield 15) 9 1, qO (.iload_n 3)] (pc' := 66) (L' := [zR 26 0, zI l1, zI l2, zI l3, zI l4]) (S' := [zI l3, zR 16 0]) (σ' := σ) (Ps := []) (by decide +kernel) rfl trivial ?_
    refine r_callVV (As := [zI l3]) (S := []) (Lc := [zR 16 0, zI l3]) (d' := 0) (n := 1) (g := 16) (x := 0) (ci := 7) kX7_openBothWays vX7_openBothWays lkX9_81 (by decide +kernel) (by decide) rfl rfl (by decide) rfl rfl (Nat.le_of_ble_eq_true rfl) rfl rfl (Nat.le_of_ble_eq_true rfl) (h.monoV (fun σ1 h => ?_))
    refine r_blk [qO (.aload_n 0), qF (.getfield 27) 9 4, qO (.iload_n 2)] (pc' := 74) (L' := [zR 26 0, zI l1, zI l2, zI l3, zI l4]) (S' := [zI l2, zR 25 0]) (σ' := σ1) (Ps := []) (by decide +kernel) rfl trivial ?_
    refine r_callVI (As := [zI l2]) (S := []) (Lc := [zR 25 0, zI l2, zU, zU]) (d' := 5) (n := 1) (g := 25) (x := 0) (ci := 1) kX1_totalUpTo vX1_totalUpTo lkX9_48 (by decide +kernel) (by decide) rfl rfl (by decide) rfl rfl (Nat.le_of_ble_eq_true rfl) rfl rfl (Nat.le_of_ble_eq_true rfl) (h.monoI (fun z3 σ2 h => ?_))
    refine r_blk [qO (.iload_n 1)] (pc' := 78) (L' := [zR 26 0, zI l1, zI l2, zI l3, zI l4]) (S' := [zI l1, zI z3]) (σ' := σ2) (Ps := []) (by decide +kernel) rfl trivial ?_
    refine r_icmp_gt (off := 5) (tgt := 83) (by decide +kernel) (by decide) (fun c => ?_) (fun c => ?_)
    · replace h := h.1 c
      refine r_blk [qO (.aload_n 0), qO (.iload_n 3)] (pc' := 85) (L' := [zR 26 0, zI l1, zI l2, zI l3, zI l4]) (S' := [zI l3, zR 26 0]) (σ' := σ2) (Ps := []) (by decide +kernel) rfl trivial ?_
      refine r_callVI (As := [zI l3]) (S := []) (Lc := [zR 26 0, zI l3, zU, zU, zU]) (d' := 1) (n := 1) (g := 26) (x := 0) (ci := 9) kX9_nextByFewest vX9_nextByFewest lkX9_84 (by decide +kernel) (by decide) rfl rfl (by decide) rfl rfl (Nat.le_of_ble_eq_true rfl) rfl rfl (Nat.le_of_ble_eq_true rfl) (h.monoI (fun z5 σ4 h => ?_))
      refine r_blk [qO (.istore_n 3), qO (.iinc 4 1), qO (.goto (-45))] (pc' := 47) (L' := [zR 26 0, zI l1, zI l2, zI z5, zI (l4 + 1)]) (S' := []) (σ' := σ4) (Ps := [-2147483648 ≤ l4 + 1 ∧ l4 + 1 ≤ 2147483647]) (by decide +kernel) rfl ⟨h.1, trivial⟩ ?_
      replace h := h.2
      exact Runs.fg (fgE (fgE (fgE (fgE (fgE fg0))))) h
    · replace h := h.2 c
      refine r_blk [qO (.iload_n 3)] (pc' := 82) (L' := [zR 26 0, zI l1, zI l2, zI l3, zI l4]) (S' := [zI l3]) (σ' := σ2) (Ps := []) (by decide +kernel) rfl trivial ?_
      exact r_ret (by decide +kernel) rfl (fun _ => h)
theorem gX9_fewestForReach_0 (a0 : Int) (a1 : Int) (a2 : Int) (σ : Hp) {Q : Option Int → Hp → Prop} (h : (-2147483648 ≤ (zshl 1 (σ 1 0 1)) - 1 ∧ (zshl 1 (σ 1 0 1)) - 1 ≤ 2147483647) ∧ Runs 0 mX7_openBothWays 0 [zR 16 0, zI ((zshl 1 (σ 1 0 1)) - 1)] [] σ (rV (fun σ1 => Runs 3 mX8_setOut 0 [zR 17 0, zI a0, zI (-1), zI a1, zU, zU] [] σ1 (rV (fun σ2 => (-2147483648 ≤ a1 + a2 ∧ a1 + a2 ≤ 2147483647) ∧ Runs 1 mX9_allReachedBy 0 [zR 26 0, zI (a1 + a2), zU, zU] [] σ2 (rI (fun z4 σ3 => ((¬ z4 = 0 → Runs 4 mX9_fewestForReach 47 [zR 26 0, zI a0, zI a1, zI a2, zI 0, zI 0] [] σ3 Q) ∧ (z4 = 0 → Q (some (-9)) σ3))))))))) : Runs 4 mX9_fewestForReach 0 [zR 26 0, zI a0, zI a1, zI a2, zU, zU] [] σ Q := by
  refine r_blk [qO (.aload_n 0), qF (.getfield 15) 9 1, qO (.iconst 1), qO (.aload_n 0), qF (.getfield 9) 9 0, qF (.getfield 32) 6 1, qO .ishl, qO (.iconst 1), qO .isub] (pc' := 15) (L' := [zR 26 0, zI a0, zI a1, zI a2, zU, zU]) (S' := [zI ((zshl 1 (σ 1 0 1)) - 1), zR 16 0]) (σ' := σ) (Ps := [-2147483648 ≤ (zshl 1 (σ 1 0 1)) - 1 ∧ (zshl 1 (σ 1 0 1)) - 1 ≤ 2147483647]) (by decide +kernel) rfl ⟨h.1, trivial⟩ ?_
  replace h := h.2
  refine r_callVV (As := [zI ((zshl 1 (σ 1 0 1)) - 1)]) (S := []) (Lc := [zR 16 0, zI ((zshl 1 (σ 1 0 1)) - 1)]) (d' := 0) (n := 1) (g := 16) (x := 0) (ci := 7) kX7_openBothWays vX7_openBothWays lkX9_81 (by decide +kernel) (by decide) rfl rfl (by decide) rfl rfl (Nat.le_of_ble_eq_true rfl) rfl rfl (Nat.le_of_ble_eq_true rfl) (h.monoV (fun σ1 h => ?_))
  refine r_blk [qO (.aload_n 0), qF (.getfield 19) 9 2, qO (.iload_n 1), qO (.iconst (-1)), qO (.iload_n 2)] (pc' := 25) (L' := [zR 26 0, zI a0, zI a1, zI a2, zU, zU]) (S' := [zI a1, zI (-1), zI a0, zR 17 0]) (σ' := σ1) (Ps := []) (by decide +kernel) rfl trivial ?_
  refine r_callVV (As := [zI a0, zI (-1), zI a1]) (S := []) (Lc := [zR 17 0, zI a0, zI (-1), zI a1, zU, zU]) (d' := 3) (n := 3) (g := 17) (x := 0) (ci := 8) kX8_setOut vX8_setOut lkX9_87 (by decide +kernel) (by decide) rfl rfl (by decide) rfl rfl (Nat.le_of_ble_eq_true rfl) rfl rfl (Nat.le_of_ble_eq_true rfl) (h.monoV (fun σ2 h => ?_))
  refine r_blk [qO (.aload_n 0), qO (.iload_n 2), qO (.iload_n 3), qO .iadd] (pc' := 32) (L' := [zR 26 0, zI a0, zI a1, zI a2, zU, zU]) (S' := [zI (a1 + a2), zR 26 0]) (σ' := σ2) (Ps := [-2147483648 ≤ a1 + a2 ∧ a1 + a2 ≤ 2147483647]) (by decide +kernel) rfl ⟨h.1, trivial⟩ ?_
  replace h := h.2
  refine r_callVI (As := [zI (a1 + a2)]) (S := []) (Lc := [zR 26 0, zI (a1 + a2), zU, zU]) (d' := 1) (n := 1) (g := 26) (x := 0) (ci := 9) kX9_allReachedBy vX9_allReachedBy lkX9_93 (by decide +kernel) (by decide) rfl rfl (by decide) rfl rfl (Nat.le_of_ble_eq_true rfl) rfl rfl (Nat.le_of_ble_eq_true rfl) (h.monoI (fun z4 σ3 h => ?_))
  refine r_if_ne (off := 6) (tgt := 41) (by decide +kernel) (by decide) (fun c => ?_) (fun c => ?_)
  · replace h := h.1 c
    refine r_blk [qO (.iconst 0), qO (.istore 4), qO (.iconst 0), qO (.istore 5)] (pc' := 47) (L' := [zR 26 0, zI a0, zI a1, zI a2, zI 0, zI 0]) (S' := []) (σ' := σ3) (Ps := []) (by decide +kernel) rfl trivial ?_
    exact Runs.fg (fgE (fgE (fgE (fgE (fgE (fgE fg0)))))) h
  · replace h := h.2 c
    refine r_blk [qO (.bipush (-9))] (pc' := 40) (L' := [zR 26 0, zI a0, zI a1, zI a2, zU, zU]) (S' := [zI (-9)]) (σ' := σ3) (Ps := []) (by decide +kernel) rfl trivial ?_
    exact r_ret (by decide +kernel) rfl (fun _ => h)
theorem gX9_fewestForReach_47 (l1 : Int) (l2 : Int) (l3 : Int) (l4 : Int) (l5 : Int) (σ : Hp) {Q : Option Int → Hp → Prop} (h : ((zshl 1 (σ 1 0 1) ≤ l5 → Q (some (-9)) σ) ∧ (¬ zshl 1 (σ 1 0 1) ≤ l5 → Runs 0 mX7_openBothWays 0 [zR 16 0, zI l4] [] σ (rV (fun σ1 => Runs 3 mX8_setOut 0 [zR 17 0, zI l1, zI (-1), zI l2, zU, zU] [] σ1 (rV (fun σ2 => (-2147483648 ≤ l2 + l3 ∧ l2 + l3 ≤ 2147483647) ∧ Runs 1 mX9_allReachedBy 0 [zR 26 0, zI (l2 + l3), zU, zU] [] σ2 (rI (fun z4 σ3 => ((z4 = 0 → Runs 1 mX9_nextByFewest 0 [zR 26 0, zI l4, zU, zU, zU] [] σ3 (rI (fun z6 σ5 => (-2147483648 ≤ l5 + 1 ∧ l5 + 1 ≤ 2147483647) ∧ Runs 4 mX9_fewestForReach 47 [zR 26 0, zI l1, zI l2, zI l3, zI z6, zI (l5 + 1)] [] σ5 Q))) ∧ (¬ z4 = 0 → Q (some l4) σ3))))))))))) : Runs 4 mX9_fewestForReach 47 [zR 26 0, zI l1, zI l2, zI l3, zI l4, zI l5] [] σ Q := by
  refine r_blk [qO (.iload 5), qO (.iconst 1), qO (.aload_n 0), qF (.getfield 9) 9 0, qF (.getfield 32) 6 1, qO .ishl] (pc' := 58) (L' := [zR 26 0, zI l1, zI l2, zI l3, zI l4, zI l5]) (S' := [zI (zshl 1 (σ 1 0 1)), zI l5]) (σ' := σ) (Ps := []) (by decide +kernel) rfl trivial ?_
  refine r_icmp_ge (off := 49) (tgt := 107) (by decide +kernel) (by decide) (fun c => ?_) (fun c => ?_)
  · replace h := h.1 c
    refine r_blk [qO (.bipush (-9))] (pc' := 109) (L' := [zR 26 0, zI l1, zI l2, zI l3, zI l4, zI l5]) (S' := [zI (-9)]) (σ' := σ) (Ps := []) (by decide +kernel) rfl trivial ?_
    exact r_ret (by decide +kernel) rfl (fun _ => h)
  · replace h := h.2 c
    refine r_blk [qO (.aload_n 0), qF (.getfield 15) 9 1, qO (.iload 4)] (pc' := 67) (L' := [zR 26 0, zI l1, zI l2, zI l3, zI l4, zI l5]) (S' := [zI l4, zR 16 0]) (σ' := σ) (Ps := []) (by decide +kernel) rfl trivial ?_
    refine r_callVV (As := [zI l4]) (S := []) (Lc := [zR 16 0, zI l4]) (d' := 0) (n := 1) (g := 16) (x := 0) (ci := 7) kX7_openBothWays vX7_openBothWays lkX9_81 (by decide +kernel) (by decide) rfl rfl (by decide) rfl rfl (Nat.le_of_ble_eq_true rfl) rfl rfl (Nat.le_of_ble_eq_true rfl) (h.monoV (fun σ1 h => ?_))
    refine r_blk [qO (.aload_n 0), qF (.getfield 19) 9 2, qO (.iload_n 1), qO (.iconst (-1)), qO (.iload_n 2)] (pc' := 77) (L' := [zR 26 0, zI l1, zI l2, zI l3, zI l4, zI l5]) (S' := [zI l2, zI (-1), zI l1, zR 17 0]) (σ' := σ1) (Ps := []) (by decide +kernel) rfl trivial ?_
    refine r_callVV (As := [zI l1, zI (-1), zI l2]) (S := []) (Lc := [zR 17 0, zI l1, zI (-1), zI l2, zU, zU]) (d' := 3) (n := 3) (g := 17) (x := 0) (ci := 8) kX8_setOut vX8_setOut lkX9_87 (by decide +kernel) (by decide) rfl rfl (by decide) rfl rfl (Nat.le_of_ble_eq_true rfl) rfl rfl (Nat.le_of_ble_eq_true rfl) (h.monoV (fun σ2 h => ?_))
    refine r_blk [qO (.aload_n 0), qO (.iload_n 2), qO (.iload_n 3), qO .iadd] (pc' := 84) (L' := [zR 26 0, zI l1, zI l2, zI l3, zI l4, zI l5]) (S' := [zI (l2 + l3), zR 26 0]) (σ' := σ2) (Ps := [-2147483648 ≤ l2 + l3 ∧ l2 + l3 ≤ 2147483647]) (by decide +kernel) rfl ⟨h.1, trivial⟩ ?_
    replace h := h.2
    refine r_callVI (As := [zI (l2 + l3)]) (S := []) (Lc := [zR 26 0, zI (l2 + l3), zU, zU]) (d' := 1) (n := 1) (g := 26) (x := 0) (ci := 9) kX9_allReachedBy vX9_allReachedBy lkX9_93 (by decide +kernel) (by decide) rfl rfl (by decide) rfl rfl (Nat.le_of_ble_eq_true rfl) rfl rfl (Nat.le_of_ble_eq_true rfl) (h.monoI (fun z4 σ3 h => ?_))
    refine r_if_eq (off := 6) (tgt := 93) (by decide +kernel) (by decide) (fun c => ?_) (fun c => ?_)
    · replace h := h.1 c
      refine r_blk [qO (.aload_n 0), qO (.iload 4)] (pc' := 96) (L' := [zR 26 0, zI l1, zI l2, zI l3, zI l4, zI l5]) (S' := [zI l4, zR 26 0]) (σ' := σ3) (Ps := []) (by decide +kernel) rfl trivial ?_
      refine r_callVI (As := [zI l4]) (S := []) (Lc := [zR 26 0, zI l4, zU, zU, zU]) (d' := 1) (n := 1) (g := 26) (x := 0) (ci := 9) kX9_nextByFewest vX9_nextByFewest lkX9_84 (by decide +kernel) (by decide) rfl rfl (by decide) rfl rfl (Nat.le_of_ble_eq_true rfl) rfl rfl (Nat.le_of_ble_eq_true rfl) (h.monoI (fun z6 σ5 h => ?_))
      refine r_blk [qO (.istore 4), qO (.iinc 5 1), qO (.goto (-57))] (pc' := 47) (L' := [zR 26 0, zI l1, zI l2, zI l3, zI z6, zI (l5 + 1)]) (S' := []) (σ' := σ5) (Ps := [-2147483648 ≤ l5 + 1 ∧ l5 + 1 ≤ 2147483647]) (by decide +kernel) rfl ⟨h.1, trivial⟩ ?_
      replace h := h.2
      exact Runs.fg (fgE (fgE (fgE (fgE (fgE (fgE fg0)))))) h
    · replace h := h.2 c
      refine r_blk [qO (.iload 4)] (pc' := 92) (L' := [zR 26 0, zI l1, zI l2, zI l3, zI l4, zI l5]) (S' := [zI l4]) (σ' := σ3) (Ps := []) (by decide +kernel) rfl trivial ?_
      exact r_ret (by decide +kernel) rfl (fun _ => h)
theorem gX9_allReachedBy_0 (a0 : Int) (σ : Hp) {Q : Option Int → Hp → Prop} (h : Runs 1 mX9_allReachedBy 2 [zR 26 0, zI a0, zI 0, zU] [] σ Q) : Runs 1 mX9_allReachedBy 0 [zR 26 0, zI a0, zU, zU] [] σ Q := by
  refine r_blk [qO (.iconst 0), qO (.istore_n 2)] (pc' := 2) (L' := [zR 26 0, zI a0, zI 0, zU]) (S' := []) (σ' := σ) (Ps := []) (by decide +kernel) rfl trivial ?_
  exact Runs.fg (fgE (fgE (fgE (fgU fg0)))) h
theorem gX9_allReachedBy_2 (l1 : Int) (l2 : Int) (σ : Hp) {Q : Option Int → Hp → Prop} (h : ((σ 1 0 0 ≤ l2 → Q (some 1) σ) ∧ (¬ σ 1 0 0 ≤ l2 → Runs 0 mX8_minuteAt 0 [zR 17 0, zI l2] [] σ (rI (fun z2 σ1 => ((z2 = (-9) → Q (some 0) σ1) ∧ (¬ z2 = (-9) → ((z2 ≤ l1 → (-2147483648 ≤ l2 + 1 ∧ l2 + 1 ≤ 2147483647) ∧ Runs 1 mX9_allReachedBy 2 [zR 26 0, zI l1, zI (l2 + 1), zU] [] σ1 Q) ∧ (¬ z2 ≤ l1 → Q (some 0) σ1))))))))) : Runs 1 mX9_allReachedBy 2 [zR 26 0, zI l1, zI l2, zU] [] σ Q := by
  refine r_blk [qO (.iload_n 2), qO (.aload_n 0), qF (.getfield 9) 9 0, qF (.getfield 97) 6 0] (pc' := 10) (L' := [zR 26 0, zI l1, zI l2, zU]) (S' := [zI (σ 1 0 0), zI l2]) (σ' := σ) (Ps := []) (by decide +kernel) rfl trivial ?_
  refine r_icmp_ge (off := 31) (tgt := 41) (by decide +kernel) (by decide) (fun c => ?_) (fun c => ?_)
  · replace h := h.1 c
    refine r_blk [qO (.iconst 1)] (pc' := 42) (L' := [zR 26 0, zI l1, zI l2, zU]) (S' := [zI 1]) (σ' := σ) (Ps := []) (by decide +kernel) rfl trivial ?_
    exact r_retz (by decide +kernel) rfl (by decide) h
  · replace h := h.2 c
    refine r_blk [qO (.aload_n 0), qF (.getfield 19) 9 2, qO (.iload_n 2)] (pc' := 18) (L' := [zR 26 0, zI l1, zI l2, zU]) (S' := [zI l2, zR 17 0]) (σ' := σ) (Ps := []) (by decide +kernel) rfl trivial ?_
    refine r_callVI (As := [zI l2]) (S := []) (Lc := [zR 17 0, zI l2]) (d' := 0) (n := 1) (g := 17) (x := 0) (ci := 8) kX8_minuteAt vX8_minuteAt lkX9_100 (by decide +kernel) (by decide) rfl rfl (by decide) rfl rfl (Nat.le_of_ble_eq_true rfl) rfl rfl (Nat.le_of_ble_eq_true rfl) (h.monoI (fun z2 σ1 h => ?_))
    refine r_blk [qO (.istore_n 3), qO (.iload_n 3), qO (.bipush (-9))] (pc' := 25) (L' := [zR 26 0, zI l1, zI l2, zI z2]) (S' := [zI (-9), zI z2]) (σ' := σ1) (Ps := []) (by decide +kernel) rfl trivial ?_
    refine r_icmp_eq (off := 8) (tgt := 33) (by decide +kernel) (by decide) (fun c => ?_) (fun c => ?_)
    · replace h := h.1 c
      refine r_blk [qO (.iconst 0)] (pc' := 34) (L' := [zR 26 0, zI l1, zI l2, zI z2]) (S' := [zI 0]) (σ' := σ1) (Ps := []) (by decide +kernel) rfl trivial ?_
      exact r_retz (by decide +kernel) rfl (by decide) h
    · replace h := h.2 c
      refine r_blk [qO (.iload_n 3), qO (.iload_n 1)] (pc' := 30) (L' := [zR 26 0, zI l1, zI l2, zI z2]) (S' := [zI l1, zI z2]) (σ' := σ1) (Ps := []) (by decide +kernel) rfl trivial ?_
      refine r_icmp_le (off := 5) (tgt := 35) (by decide +kernel) (by decide) (fun c => ?_) (fun c => ?_)
      · replace h := h.1 c
        refine r_blk [qO (.iinc 2 1), qO (.goto (-36))] (pc' := 2) (L' := [zR 26 0, zI l1, zI (l2 + 1), zI z2]) (S' := []) (σ' := σ1) (Ps := [-2147483648 ≤ l2 + 1 ∧ l2 + 1 ≤ 2147483647]) (by decide +kernel) rfl ⟨h.1, trivial⟩ ?_
        replace h := h.2
        exact Runs.fg (fgE (fgE (fgE (fgU fg0)))) h
      · replace h := h.2 c
        refine r_blk [qO (.iconst 0)] (pc' := 34) (L' := [zR 26 0, zI l1, zI l2, zI z2]) (S' := [zI 0]) (σ' := σ1) (Ps := []) (by decide +kernel) rfl trivial ?_
        exact r_retz (by decide +kernel) rfl (by decide) h
theorem gX9_nextByFewest_0 (a0 : Int) (σ : Hp) {Q : Option Int → Hp → Prop} (h : (-2147483648 ≤ -a0 ∧ -a0 ≤ 2147483647) ∧ ((zand a0 (-a0) = 0 → Runs 0 mJ6_bitCount_0f7a4 0 [zI a0] [] σ (rI (fun z2 σ1 => (-2147483648 ≤ (zshl 2 z2) - 1 ∧ (zshl 2 z2) - 1 ≤ 2147483647) ∧ Q (some ((zshl 2 z2) - 1)) σ1))) ∧ (¬ zand a0 (-a0) = 0 → (-2147483648 ≤ a0 + (zand a0 (-a0)) ∧ a0 + (zand a0 (-a0)) ≤ 2147483647) ∧ (zand a0 (-a0) ≠ 0) ∧ ∀ z3 : Int, z3 = zor (a0 + (zand a0 (-a0))) (zdiv (zushr (zxor a0 (a0 + (zand a0 (-a0)))) 2) (zand a0 (-a0))) → ((zshl 1 (σ 1 0 1) ≤ z3 → Runs 0 mJ6_bitCount_0f7a4 0 [zI a0] [] σ (rI (fun z5 σ4 => (-2147483648 ≤ (zshl 2 z5) - 1 ∧ (zshl 2 z5) - 1 ≤ 2147483647) ∧ Q (some ((zshl 2 z5) - 1)) σ4))) ∧ (¬ zshl 1 (σ 1 0 1) ≤ z3 → Q (some z3) σ))))) : Runs 1 mX9_nextByFewest 0 [zR 26 0, zI a0, zU, zU, zU] [] σ Q := by
  refine r_blk [qO (.iload_n 1), qO (.iload_n 1), qO .ineg, qO .iand, qO (.istore_n 2), qO (.iload_n 2)] (pc' := 6) (L' := [zR 26 0, zI a0, zI (zand a0 (-a0)), zU, zU]) (S' := [zI (zand a0 (-a0))]) (σ' := σ) (Ps := [-2147483648 ≤ -a0 ∧ -a0 ≤ 2147483647]) (by decide +kernel) rfl ⟨h.1, trivial⟩ ?_
  replace h := h.2
  refine r_if_eq (off := 35) (tgt := 41) (by decide +kernel) (by decide) (fun c => ?_) (fun c => ?_)
  · replace h := h.1 c
    refine r_blk [qO (.iconst 2), qO (.iload_n 1)] (pc' := 43) (L' := [zR 26 0, zI a0, zI (zand a0 (-a0)), zU, zU]) (S' := [zI a0, zI 2]) (σ' := σ) (Ps := []) (by decide +kernel) rfl trivial ?_
    refine r_callSI (As := [zI a0]) (S := [zI 2]) (Lc := [zI a0]) (d' := 0) (n := 1) kJ6_bitCount_0f7a4 vJ6_bitCount_0f7a4 lkX9_103 (by decide +kernel) (by decide) rfl rfl (Nat.le_of_ble_eq_true rfl) rfl rfl (Nat.le_of_ble_eq_true rfl) (h.monoI (fun z2 σ1 h => ?_))
    refine r_blk [qO .ishl, qO (.iconst 1), qO .isub] (pc' := 49) (L' := [zR 26 0, zI a0, zI (zand a0 (-a0)), zU, zU]) (S' := [zI ((zshl 2 z2) - 1)]) (σ' := σ1) (Ps := [-2147483648 ≤ (zshl 2 z2) - 1 ∧ (zshl 2 z2) - 1 ≤ 2147483647]) (by decide +kernel) rfl ⟨h.1, trivial⟩ ?_
    replace h := h.2
    exact r_ret (by decide +kernel) rfl (fun _ => h)
  · replace h := h.2 c
    refine r_blk [qO (.iload_n 1), qO (.iload_n 2), qO .iadd, qO (.istore_n 3), qO (.iload_n 3), qO (.iload_n 1), qO (.iload_n 3), qO .ixor, qO (.iconst 2), qO .iushr, qO (.iload_n 2), qO .idiv, qO .ior, qO (.istore 4), qO (.iload 4), qO (.iconst 1), qO (.aload_n 0), qF (.getfield 9) 9 0, qF (.getfield 32) 6 1, qO .ishl] (pc' := 35) (L' := [zR 26 0, zI a0, zI (zand a0 (-a0)), zI (a0 + (zand a0 (-a0))), zI (zor (a0 + (zand a0 (-a0))) (zdiv (zushr (zxor a0 (a0 + (zand a0 (-a0)))) 2) (zand a0 (-a0))))]) (S' := [zI (zshl 1 (σ 1 0 1)), zI (zor (a0 + (zand a0 (-a0))) (zdiv (zushr (zxor a0 (a0 + (zand a0 (-a0)))) 2) (zand a0 (-a0))))]) (σ' := σ) (Ps := [-2147483648 ≤ a0 + (zand a0 (-a0)) ∧ a0 + (zand a0 (-a0)) ≤ 2147483647, zand a0 (-a0) ≠ 0]) (by decide +kernel) rfl ⟨h.1, h.2.1, trivial⟩ ?_
    replace h := h.2.2
    generalize hz3 : zor (a0 + (zand a0 (-a0))) (zdiv (zushr (zxor a0 (a0 + (zand a0 (-a0)))) 2) (zand a0 (-a0))) = z3
    replace h := h z3 hz3.symm
    refine r_icmp_ge (off := 6) (tgt := 41) (by decide +kernel) (by decide) (fun c => ?_) (fun c => ?_)
    · replace h := h.1 c
      refine r_blk [qO (.iconst 2), qO (.iload_n 1)] (pc' := 43) (L' := [zR 26 0, zI a0, zI (zand a0 (-a0)), zI (a0 + (zand a0 (-a0))), zI z3]) (S' := [zI a0, zI 2]) (σ' := σ) (Ps := []) (by decide +kernel) rfl trivial ?_
      refine r_callSI (As := [zI a0]) (S := [zI 2]) (Lc := [zI a0]) (d' := 0) (n := 1) kJ6_bitCount_0f7a4 vJ6_bitCount_0f7a4 lkX9_103 (by decide +kernel) (by decide) rfl rfl (Nat.le_of_ble_eq_true rfl) rfl rfl (Nat.le_of_ble_eq_true rfl) (h.monoI (fun z5 σ4 h => ?_))
      refine r_blk [qO .ishl, qO (.iconst 1), qO .isub] (pc' := 49) (L' := [zR 26 0, zI a0, zI (zand a0 (-a0)), zI (a0 + (zand a0 (-a0))), zI z3]) (S' := [zI ((zshl 2 z5) - 1)]) (σ' := σ4) (Ps := [-2147483648 ≤ (zshl 2 z5) - 1 ∧ (zshl 2 z5) - 1 ≤ 2147483647]) (by decide +kernel) rfl ⟨h.1, trivial⟩ ?_
      replace h := h.2
      exact r_ret (by decide +kernel) rfl (fun _ => h)
    · replace h := h.2 c
      refine r_blk [qO (.iload 4)] (pc' := 40) (L' := [zR 26 0, zI a0, zI (zand a0 (-a0)), zI (a0 + (zand a0 (-a0))), zI z3]) (S' := [zI z3]) (σ' := σ) (Ps := []) (by decide +kernel) rfl trivial ?_
      exact r_ret (by decide +kernel) rfl (fun _ => h)
theorem gX9_cheapestNoon_0 (σ : Hp) {Q : Option Int → Hp → Prop} (h : Runs 6 mX9_cheapestNoon 7 [zR 26 0, zI 0, zI 1000000, zI 0, zU] [] σ Q) : Runs 6 mX9_cheapestNoon 0 [zR 26 0, zU, zU, zU, zU] [] σ Q := by
  refine r_blk [qO (.iconst 0), qO (.istore_n 1), qC (.ldc 31) 1000000, qO (.istore_n 2), qO (.iconst 0), qO (.istore_n 3)] (pc' := 7) (L' := [zR 26 0, zI 0, zI 1000000, zI 0, zU]) (S' := []) (σ' := σ) (Ps := []) (by decide +kernel) rfl trivial ?_
  exact Runs.fg (fgE (fgE (fgE (fgE (fgU fg0))))) h
theorem gX9_cheapestNoon_7 (l1 : Int) (l2 : Int) (l3 : Int) (σ : Hp) {Q : Option Int → Hp → Prop} (h : ((1440 ≤ l3 → Q (some l1) σ) ∧ (¬ 1440 ≤ l3 → Runs 0 mX7_turnAt 0 [zR 16 0, zI l3] [] σ (rV (fun σ1 => Runs 5 mX1_totalUpTo 0 [zR 25 0, zI l2, zU, zU] [] σ1 (rI (fun z3 σ2 => ((l2 ≤ z3 → (-2147483648 ≤ l3 + 60 ∧ l3 + 60 ≤ 2147483647) ∧ Runs 6 mX9_cheapestNoon 7 [zR 26 0, zI l1, zI l2, zI (l3 + 60), zU] [] σ2 Q) ∧ (¬ l2 ≤ z3 → (-2147483648 ≤ l3 + 60 ∧ l3 + 60 ≤ 2147483647) ∧ Runs 6 mX9_cheapestNoon 7 [zR 26 0, zI l3, zI z3, zI (l3 + 60), zU] [] σ2 Q))))))))) : Runs 6 mX9_cheapestNoon 7 [zR 26 0, zI l1, zI l2, zI l3, zU] [] σ Q := by
  refine r_blk [qO (.iload_n 3), qO (.sipush 1440)] (pc' := 11) (L' := [zR 26 0, zI l1, zI l2, zI l3, zU]) (S' := [zI 1440, zI l3]) (σ' := σ) (Ps := []) (by decide +kernel) rfl trivial ?_
  refine r_icmp_ge (off := 38) (tgt := 49) (by decide +kernel) (by decide) (fun c => ?_) (fun c => ?_)
  · replace h := h.1 c
    refine r_blk [qO (.iload_n 1)] (pc' := 50) (L' := [zR 26 0, zI l1, zI l2, zI l3, zU]) (S' := [zI l1]) (σ' := σ) (Ps := []) (by decide +kernel) rfl trivial ?_
    exact r_ret (by decide +kernel) rfl (fun _ => h)
  · replace h := h.2 c
    refine r_blk [qO (.aload_n 0), qF (.getfield 15) 9 1, qO (.iload_n 3)] (pc' := 19) (L' := [zR 26 0, zI l1, zI l2, zI l3, zU]) (S' := [zI l3, zR 16 0]) (σ' := σ) (Ps := []) (by decide +kernel) rfl trivial ?_
    refine r_callVV (As := [zI l3]) (S := []) (Lc := [zR 16 0, zI l3]) (d' := 0) (n := 1) (g := 16) (x := 0) (ci := 7) kX7_turnAt vX7_turnAt lkX9_108 (by decide +kernel) (by decide) rfl rfl (by decide) rfl rfl (Nat.le_of_ble_eq_true rfl) rfl rfl (Nat.le_of_ble_eq_true rfl) (h.monoV (fun σ1 h => ?_))
    refine r_blk [qO (.aload_n 0), qF (.getfield 27) 9 4, qO (.iload_n 2)] (pc' := 27) (L' := [zR 26 0, zI l1, zI l2, zI l3, zU]) (S' := [zI l2, zR 25 0]) (σ' := σ1) (Ps := []) (by decide +kernel) rfl trivial ?_
    refine r_callVI (As := [zI l2]) (S := []) (Lc := [zR 25 0, zI l2, zU, zU]) (d' := 5) (n := 1) (g := 25) (x := 0) (ci := 1) kX1_totalUpTo vX1_totalUpTo lkX9_48 (by decide +kernel) (by decide) rfl rfl (by decide) rfl rfl (Nat.le_of_ble_eq_true rfl) rfl rfl (Nat.le_of_ble_eq_true rfl) (h.monoI (fun z3 σ2 h => ?_))
    refine r_blk [qO (.istore 4), qO (.iload 4), qO (.iload_n 2)] (pc' := 35) (L' := [zR 26 0, zI l1, zI l2, zI l3, zI z3]) (S' := [zI l2, zI z3]) (σ' := σ2) (Ps := []) (by decide +kernel) rfl trivial ?_
    refine r_icmp_ge (off := 8) (tgt := 43) (by decide +kernel) (by decide) (fun c => ?_) (fun c => ?_)
    · replace h := h.1 c
      refine r_blk [qO (.iinc 3 60), qO (.goto (-39))] (pc' := 7) (L' := [zR 26 0, zI l1, zI l2, zI (l3 + 60), zI z3]) (S' := []) (σ' := σ2) (Ps := [-2147483648 ≤ l3 + 60 ∧ l3 + 60 ≤ 2147483647]) (by decide +kernel) rfl ⟨h.1, trivial⟩ ?_
      replace h := h.2
      exact Runs.fg (fgE (fgE (fgE (fgE (fgU fg0))))) h
    · replace h := h.2 c
      refine r_blk [qO (.iload 4), qO (.istore_n 2), qO (.iload_n 3), qO (.istore_n 1), qO (.iinc 3 60), qO (.goto (-39))] (pc' := 7) (L' := [zR 26 0, zI l3, zI z3, zI (l3 + 60), zI z3]) (S' := []) (σ' := σ2) (Ps := [-2147483648 ≤ l3 + 60 ∧ l3 + 60 ≤ 2147483647]) (by decide +kernel) rfl ⟨h.1, trivial⟩ ?_
      replace h := h.2
      exact Runs.fg (fgE (fgE (fgE (fgE (fgU fg0))))) h
