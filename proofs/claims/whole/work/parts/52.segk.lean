theorem gX0_lay_0 (a0 : Int) (σ : Hp) {Q : Option Int → Hp → Prop} (h : Runs 2 mX0_lay 2 [zR 19 0, zI a0, zI 0, zU] [] σ Q) : Runs 2 mX0_lay 0 [zR 19 0, zI a0, zU, zU] [] σ Q := by
  refine r_blk [qO (.iconst 0), qO (.istore_n 2)] (pc' := 2) (L' := [zR 19 0, zI a0, zI 0, zU]) (S' := []) (σ' := σ) (Ps := []) (by decide +kernel) rfl trivial ?_
  exact Runs.fg (fgE (fgE (fgE (fgU fg0)))) h
theorem gX0_lay_2 (l1 : Int) (l2 : Int) (σ : Hp) {Q : Option Int → Hp → Prop} (h : ((10 ≤ l2 → (0 ≤ σ 16 0 2 ∧ σ 16 0 2 ≤ 1439) ∧ (10 ≤ σ 16 0 3 ∧ σ 16 0 3 ≤ 720) ∧ (0 ≤ l1 ∧ l1 ≤ 1000000) ∧ ∀ σ1 : Hp, σ1 = tStand σ l1 → Runs 2 mX0_lay 35 [zR 19 0, zU, zI 0, zU] [] σ1 Q) ∧ (¬ 10 ≤ l2 → (0 ≤ l2 ∧ l2 < 10) ∧ Runs 0 mJ7_fill_53178 0 [zR 21 l2.toNat, zI 1000000, zU, zU] [] σ (rV (fun σ2 => (-2147483648 ≤ l2 + 1 ∧ l2 + 1 ≤ 2147483647) ∧ Runs 2 mX0_lay 2 [zR 19 0, zI l1, zI (l2 + 1), zU] [] σ2 Q))))) : Runs 2 mX0_lay 2 [zR 19 0, zI l1, zI l2, zU] [] σ Q := by
  refine r_blk [qO (.iload_n 2), qO (.bipush 10)] (pc' := 5) (L' := [zR 19 0, zI l1, zI l2, zU]) (S' := [zI 10, zI l2]) (σ' := σ) (Ps := []) (by decide +kernel) rfl trivial ?_
  refine r_icmp_ge (off := 20) (tgt := 25) (by decide +kernel) (by decide) (fun c => ?_) (fun c => ?_)
  · replace h := h.1 c
    refine r_blk [qO (.aload_n 0), qF (.getfield 20) 0 1, qO (.iload_n 1)] (pc' := 30) (L' := [zR 19 0, zI l1, zI l2, zU]) (S' := [zI l1, zR 16 0]) (σ' := σ) (Ps := []) (by decide +kernel) rfl trivial ?_
    refine r_callVV (As := [zI l1]) (S := []) (Lc := [zR 16 0, zI l1, zU, zU]) (d' := 0) (n := 1) (g := 16) (x := 0) (ci := 7) kX7_standAt vX7_standAt lkX0_31 (by decide +kernel) (by decide) rfl rfl (by decide) rfl rfl (Nat.le_of_ble_eq_true rfl) rfl rfl (Nat.le_of_ble_eq_true rfl) (pX7_standAt h.1 h.2.1 h.2.2.1 ?_)
    replace h := h.2.2.2
    generalize hσ1 : tStand σ l1 = σ1
    replace h := h σ1 hσ1.symm
    refine r_blk [qO (.iconst 0), qO (.istore_n 2)] (pc' := 35) (L' := [zR 19 0, zI l1, zI 0, zU]) (S' := []) (σ' := σ1) (Ps := []) (by decide +kernel) rfl trivial ?_
    exact Runs.fg (fgE (fgU (fgE (fgU fg0)))) h
  · replace h := h.2 c
    refine r_blk [qO (.aload_n 0), qF (.getfield 11) 0 2, qO (.iload_n 2), qO .aaload, qC (.ldc 24) 1000000] (pc' := 16) (L' := [zR 19 0, zI l1, zI l2, zU]) (S' := [zI 1000000, zR 21 l2.toNat]) (σ' := σ) (Ps := [0 ≤ l2 ∧ l2 < 10]) (by decide +kernel) rfl ⟨h.1, trivial⟩ ?_
    replace h := h.2
    refine r_callSV (As := [zR 21 l2.toNat, zI 1000000]) (S := []) (Lc := [zR 21 l2.toNat, zI 1000000, zU, zU]) (d' := 0) (n := 2) kJ7_fill_53178 vJ7_fill_53178 lkX0_25 (by decide +kernel) (by decide) rfl rfl (Nat.le_of_ble_eq_true rfl) rfl rfl (Nat.le_of_ble_eq_true rfl) (h.monoV (fun σ2 h => ?_))
    refine r_blk [qO (.iinc 2 1), qO (.goto (-20))] (pc' := 2) (L' := [zR 19 0, zI l1, zI (l2 + 1), zU]) (S' := []) (σ' := σ2) (Ps := [-2147483648 ≤ l2 + 1 ∧ l2 + 1 ≤ 2147483647]) (by decide +kernel) rfl ⟨h.1, trivial⟩ ?_
    replace h := h.2
    exact Runs.fg (fgE (fgE (fgE (fgU fg0)))) h
theorem gX0_lay_35 (l2 : Int) (σ : Hp) {Q : Option Int → Hp → Prop} (h : ((σ 1 0 1 ≤ l2 → Q none σ) ∧ (¬ σ 1 0 1 ≤ l2 → ((tWay σ l2 = 0 → Runs 2 mX0_lay 64 [zR 19 0, zU, zI l2, zI (tWay σ l2)] [] σ Q) ∧ (¬ tWay σ l2 = 0 → ((¬ tWay σ l2 = 2 → Runs 2 mX0_lay 95 [zR 19 0, zU, zI l2, zI (tWay σ l2)] [] σ Q) ∧ (tWay σ l2 = 2 → Runs 2 mX0_lay 64 [zR 19 0, zU, zI l2, zI (tWay σ l2)] [] σ Q))))))) : Runs 2 mX0_lay 35 [zR 19 0, zU, zI l2, zU] [] σ Q := by
  refine r_blk [qO (.iload_n 2), qO (.aload_n 0), qF (.getfield 16) 0 0, qF (.getfield 37) 6 1] (pc' := 43) (L' := [zR 19 0, zU, zI l2, zU]) (S' := [zI (σ 1 0 1), zI l2]) (σ' := σ) (Ps := []) (by decide +kernel) rfl trivial ?_
  refine r_icmp_ge (off := 99) (tgt := 142) (by decide +kernel) (by decide) (fun c => ?_) (fun c => ?_)
  · replace h := h.1 c
    exact r_retv (by decide +kernel) rfl h
  · replace h := h.2 c
    refine r_blk [qO (.aload_n 0), qF (.getfield 20) 0 1, qO (.iload_n 2)] (pc' := 51) (L' := [zR 19 0, zU, zI l2, zU]) (S' := [zI l2, zR 16 0]) (σ' := σ) (Ps := []) (by decide +kernel) rfl trivial ?_
    refine r_callVI (As := [zI l2]) (S := []) (Lc := [zR 16 0, zI l2]) (d' := 1) (n := 1) (g := 16) (x := 0) (ci := 7) kX7_wayOf vX7_wayOf lkX0_43 (by decide +kernel) (by decide) rfl rfl (by decide) rfl rfl (Nat.le_of_ble_eq_true rfl) rfl rfl (Nat.le_of_ble_eq_true rfl) (pX7_wayOf  ?_)
    refine r_blk [qO (.istore_n 3), qO (.iload_n 3)] (pc' := 56) (L' := [zR 19 0, zU, zI l2, zI (tWay σ l2)]) (S' := [zI (tWay σ l2)]) (σ' := σ) (Ps := []) (by decide +kernel) rfl trivial ?_
    refine r_if_eq (off := 8) (tgt := 64) (by decide +kernel) (by decide) (fun c => ?_) (fun c => ?_)
    · replace h := h.1 c
      exact Runs.fg (fgE (fgU (fgE (fgE fg0)))) h
    · replace h := h.2 c
      refine r_blk [qO (.iload_n 3), qO (.iconst 2)] (pc' := 61) (L' := [zR 19 0, zU, zI l2, zI (tWay σ l2)]) (S' := [zI 2, zI (tWay σ l2)]) (σ' := σ) (Ps := []) (by decide +kernel) rfl trivial ?_
      refine r_icmp_ne (off := 34) (tgt := 95) (by decide +kernel) (by decide) (fun c => ?_) (fun c => ?_)
      · replace h := h.1 c
        exact Runs.fg (fgE (fgU (fgE (fgE fg0)))) h
      · replace h := h.2 c
        exact Runs.fg (fgE (fgU (fgE (fgE fg0)))) h
theorem gX0_lay_64 (l2 : Int) (l3 : Int) (σ : Hp) {Q : Option Int → Hp → Prop} (h : (0 ≤ l2 ∧ l2 < 14) ∧ (0 ≤ l2 ∧ l2 < 14) ∧ (0 ≤ l2 ∧ l2 < 14) ∧ (0 ≤ (σ 2 0 l2.toNat) ∧ (σ 2 0 l2.toNat) < 10) ∧ (0 ≤ (σ 3 0 l2.toNat) ∧ (σ 3 0 l2.toNat) < 10) ∧ ∀ σ1 : Hp, σ1 = zup σ 21 ((σ 2 0 l2.toNat)).toNat ((σ 3 0 l2.toNat)).toNat (if (σ 4 0 l2.toNat) < σ 21 ((σ 2 0 l2.toNat)).toNat ((σ 3 0 l2.toNat)).toNat then (σ 4 0 l2.toNat) else σ 21 ((σ 2 0 l2.toNat)).toNat ((σ 3 0 l2.toNat)).toNat) → Runs 2 mX0_lay 95 [zR 19 0, zU, zI l2, zI l3] [] σ1 Q) : Runs 2 mX0_lay 64 [zR 19 0, zU, zI l2, zI l3] [] σ Q := by
  refine r_blk [qO (.aload_n 0), qO (.aload_n 0), qF (.getfield 16) 0 0, qF (.getfield 47) 6 7, qO (.iload_n 2), qO .iaload, qO (.aload_n 0), qF (.getfield 16) 0 0, qF (.getfield 51) 6 8, qO (.iload_n 2), qO .iaload, qO (.aload_n 0), qF (.getfield 16) 0 0, qF (.getfield 54) 6 9, qO (.iload_n 2), qO .iaload] (pc' := 92) (L' := [zR 19 0, zU, zI l2, zI l3]) (S' := [zI (σ 4 0 l2.toNat), zI (σ 3 0 l2.toNat), zI (σ 2 0 l2.toNat), zR 19 0]) (σ' := σ) (Ps := [0 ≤ l2 ∧ l2 < 14, 0 ≤ l2 ∧ l2 < 14, 0 ≤ l2 ∧ l2 < 14]) (by decide +kernel) rfl ⟨h.1, h.2.1, h.2.2.1, trivial⟩ ?_
  replace h := h.2.2.2
  refine r_callVV (As := [zI (σ 2 0 l2.toNat), zI (σ 3 0 l2.toNat), zI (σ 4 0 l2.toNat)]) (S := []) (Lc := [zR 19 0, zI (σ 2 0 l2.toNat), zI (σ 3 0 l2.toNat), zI (σ 4 0 l2.toNat)]) (d' := 1) (n := 3) (g := 19) (x := 0) (ci := 0) kX0_layStep vX0_layStep lkX0_57 (by decide +kernel) (by decide) rfl rfl (by decide) rfl rfl (Nat.le_of_ble_eq_true rfl) rfl rfl (Nat.le_of_ble_eq_true rfl) (pX0_layStep h.1 h.2.1 ?_)
  replace h := h.2.2
  generalize hσ1 : zup σ 21 ((σ 2 0 l2.toNat)).toNat ((σ 3 0 l2.toNat)).toNat (if (σ 4 0 l2.toNat) < σ 21 ((σ 2 0 l2.toNat)).toNat ((σ 3 0 l2.toNat)).toNat then (σ 4 0 l2.toNat) else σ 21 ((σ 2 0 l2.toNat)).toNat ((σ 3 0 l2.toNat)).toNat) = σ1
  replace h := h σ1 hσ1.symm
  exact Runs.fg (fgE (fgU (fgE (fgE fg0)))) h
theorem gX0_lay_95 (l2 : Int) (l3 : Int) (σ : Hp) {Q : Option Int → Hp → Prop} (h : ((l3 = 1 → Runs 2 mX0_lay 105 [zR 19 0, zU, zI l2, zU] [] σ Q) ∧ (¬ l3 = 1 → ((¬ l3 = 2 → (-2147483648 ≤ l2 + 1 ∧ l2 + 1 ≤ 2147483647) ∧ Runs 2 mX0_lay 35 [zR 19 0, zU, zI (l2 + 1), zU] [] σ Q) ∧ (l3 = 2 → Runs 2 mX0_lay 105 [zR 19 0, zU, zI l2, zU] [] σ Q))))) : Runs 2 mX0_lay 95 [zR 19 0, zU, zI l2, zI l3] [] σ Q := by
  refine r_blk [qO (.iload_n 3), qO (.iconst 1)] (pc' := 97) (L' := [zR 19 0, zU, zI l2, zI l3]) (S' := [zI 1, zI l3]) (σ' := σ) (Ps := []) (by decide +kernel) rfl trivial ?_
  refine r_icmp_eq (off := 8) (tgt := 105) (by decide +kernel) (by decide) (fun c => ?_) (fun c => ?_)
  · replace h := h.1 c
    exact Runs.fg (fgE (fgU (fgE (fgU fg0)))) h
  · replace h := h.2 c
    refine r_blk [qO (.iload_n 3), qO (.iconst 2)] (pc' := 102) (L' := [zR 19 0, zU, zI l2, zI l3]) (S' := [zI 2, zI l3]) (σ' := σ) (Ps := []) (by decide +kernel) rfl trivial ?_
    refine r_icmp_ne (off := 34) (tgt := 136) (by decide +kernel) (by decide) (fun c => ?_) (fun c => ?_)
    · replace h := h.1 c
      refine r_blk [qO (.iinc 2 1), qO (.goto (-104))] (pc' := 35) (L' := [zR 19 0, zU, zI (l2 + 1), zI l3]) (S' := []) (σ' := σ) (Ps := [-2147483648 ≤ l2 + 1 ∧ l2 + 1 ≤ 2147483647]) (by decide +kernel) rfl ⟨h.1, trivial⟩ ?_
      replace h := h.2
      exact Runs.fg (fgE (fgU (fgE (fgU fg0)))) h
    · replace h := h.2 c
      exact Runs.fg (fgE (fgU (fgE (fgU fg0)))) h
theorem gX0_lay_105 (l2 : Int) (σ : Hp) {Q : Option Int → Hp → Prop} (h : (0 ≤ l2 ∧ l2 < 14) ∧ (0 ≤ l2 ∧ l2 < 14) ∧ (0 ≤ l2 ∧ l2 < 14) ∧ (0 ≤ (σ 3 0 l2.toNat) ∧ (σ 3 0 l2.toNat) < 10) ∧ (0 ≤ (σ 2 0 l2.toNat) ∧ (σ 2 0 l2.toNat) < 10) ∧ ∀ σ1 : Hp, σ1 = zup σ 21 ((σ 3 0 l2.toNat)).toNat ((σ 2 0 l2.toNat)).toNat (if (σ 4 0 l2.toNat) < σ 21 ((σ 3 0 l2.toNat)).toNat ((σ 2 0 l2.toNat)).toNat then (σ 4 0 l2.toNat) else σ 21 ((σ 3 0 l2.toNat)).toNat ((σ 2 0 l2.toNat)).toNat) → (-2147483648 ≤ l2 + 1 ∧ l2 + 1 ≤ 2147483647) ∧ Runs 2 mX0_lay 35 [zR 19 0, zU, zI (l2 + 1), zU] [] σ1 Q) : Runs 2 mX0_lay 105 [zR 19 0, zU, zI l2, zU] [] σ Q := by
  refine r_blk [qO (.aload_n 0), qO (.aload_n 0), qF (.getfield 16) 0 0, qF (.getfield 51) 6 8, qO (.iload_n 2), qO .iaload, qO (.aload_n 0), qF (.getfield 16) 0 0, qF (.getfield 47) 6 7, qO (.iload_n 2), qO .iaload, qO (.aload_n 0), qF (.getfield 16) 0 0, qF (.getfield 54) 6 9, qO (.iload_n 2), qO .iaload] (pc' := 133) (L' := [zR 19 0, zU, zI l2, zU]) (S' := [zI (σ 4 0 l2.toNat), zI (σ 2 0 l2.toNat), zI (σ 3 0 l2.toNat), zR 19 0]) (σ' := σ) (Ps := [0 ≤ l2 ∧ l2 < 14, 0 ≤ l2 ∧ l2 < 14, 0 ≤ l2 ∧ l2 < 14]) (by decide +kernel) rfl ⟨h.1, h.2.1, h.2.2.1, trivial⟩ ?_
  replace h := h.2.2.2
  refine r_callVV (As := [zI (σ 3 0 l2.toNat), zI (σ 2 0 l2.toNat), zI (σ 4 0 l2.toNat)]) (S := []) (Lc := [zR 19 0, zI (σ 3 0 l2.toNat), zI (σ 2 0 l2.toNat), zI (σ 4 0 l2.toNat)]) (d' := 1) (n := 3) (g := 19) (x := 0) (ci := 0) kX0_layStep vX0_layStep lkX0_57 (by decide +kernel) (by decide) rfl rfl (by decide) rfl rfl (Nat.le_of_ble_eq_true rfl) rfl rfl (Nat.le_of_ble_eq_true rfl) (pX0_layStep h.1 h.2.1 ?_)
  replace h := h.2.2
  generalize hσ1 : zup σ 21 ((σ 3 0 l2.toNat)).toNat ((σ 2 0 l2.toNat)).toNat (if (σ 4 0 l2.toNat) < σ 21 ((σ 3 0 l2.toNat)).toNat ((σ 2 0 l2.toNat)).toNat then (σ 4 0 l2.toNat) else σ 21 ((σ 3 0 l2.toNat)).toNat ((σ 2 0 l2.toNat)).toNat) = σ1
  replace h := h σ1 hσ1.symm
  refine r_blk [qO (.iinc 2 1), qO (.goto (-104))] (pc' := 35) (L' := [zR 19 0, zU, zI (l2 + 1), zU]) (S' := []) (σ' := σ1) (Ps := [-2147483648 ≤ l2 + 1 ∧ l2 + 1 ≤ 2147483647]) (by decide +kernel) rfl ⟨h.1, trivial⟩ ?_
  replace h := h.2
  exact Runs.fg (fgE (fgU (fgE (fgU fg0)))) h
theorem gX0_join_0 (σ : Hp) {Q : Option Int → Hp → Prop} (h : Runs 2 mX0_join 2 [zR 19 0, zI 0, zU] [] σ Q) : Runs 2 mX0_join 0 [zR 19 0, zU, zU] [] σ Q := by
  refine r_blk [qO (.iconst 0), qO (.istore_n 1)] (pc' := 2) (L' := [zR 19 0, zI 0, zU]) (S' := []) (σ' := σ) (Ps := []) (by decide +kernel) rfl trivial ?_
  exact Runs.fg (fgE (fgE (fgU fg0))) h
theorem gX0_join_2 (l1 : Int) (σ : Hp) {Q : Option Int → Hp → Prop} (h : ((σ 1 0 0 ≤ l1 → Q none σ) ∧ (¬ σ 1 0 0 ≤ l1 → Runs 2 mX0_join 15 [zR 19 0, zI l1, zI 0] [] σ Q))) : Runs 2 mX0_join 2 [zR 19 0, zI l1, zU] [] σ Q := by
  refine r_blk [qO (.iload_n 1), qO (.aload_n 0), qF (.getfield 16) 0 0, qF (.getfield 67) 6 0] (pc' := 10) (L' := [zR 19 0, zI l1, zU]) (S' := [zI (σ 1 0 0), zI l1]) (σ' := σ) (Ps := []) (by decide +kernel) rfl trivial ?_
  refine r_icmp_ge (off := 65) (tgt := 75) (by decide +kernel) (by decide) (fun c => ?_) (fun c => ?_)
  · replace h := h.1 c
    exact r_retv (by decide +kernel) rfl h
  · replace h := h.2 c
    refine r_blk [qO (.iconst 0), qO (.istore_n 2)] (pc' := 15) (L' := [zR 19 0, zI l1, zI 0]) (S' := []) (σ' := σ) (Ps := []) (by decide +kernel) rfl trivial ?_
    exact Runs.fg (fgE (fgE (fgE fg0))) h
theorem gX0_join_15 (l1 : Int) (l2 : Int) (σ : Hp) {Q : Option Int → Hp → Prop} (h : ((σ 1 0 0 ≤ l2 → (-2147483648 ≤ l1 + 1 ∧ l1 + 1 ≤ 2147483647) ∧ Runs 2 mX0_join 2 [zR 19 0, zI (l1 + 1), zU] [] σ Q) ∧ (¬ σ 1 0 0 ≤ l2 → (0 ≤ l2 ∧ l2 < 10) ∧ (0 ≤ l1 ∧ l1 < 10) ∧ ((1000000 ≤ σ 21 l2.toNat l1.toNat → (-2147483648 ≤ l2 + 1 ∧ l2 + 1 ≤ 2147483647) ∧ Runs 2 mX0_join 15 [zR 19 0, zI l1, zI (l2 + 1)] [] σ Q) ∧ (¬ 1000000 ≤ σ 21 l2.toNat l1.toNat → (0 ≤ l2 ∧ l2 < 10) ∧ (0 ≤ l1 ∧ l1 < 10) ∧ (0 ≤ l2 ∧ l2 < 10) ∧ (0 ≤ l1 ∧ l1 < 10) ∧ Runs 1 mX0_joinBy 0 [zR 19 0, zR 21 l2.toNat, zR 21 l1.toNat, zI (σ 21 l2.toNat l1.toNat), zU] [] σ (rV (fun σ1 => (-2147483648 ≤ l2 + 1 ∧ l2 + 1 ≤ 2147483647) ∧ Runs 2 mX0_join 15 [zR 19 0, zI l1, zI (l2 + 1)] [] σ1 Q))))))) : Runs 2 mX0_join 15 [zR 19 0, zI l1, zI l2] [] σ Q := by
  refine r_blk [qO (.iload_n 2), qO (.aload_n 0), qF (.getfield 16) 0 0, qF (.getfield 67) 6 0] (pc' := 23) (L' := [zR 19 0, zI l1, zI l2]) (S' := [zI (σ 1 0 0), zI l2]) (σ' := σ) (Ps := []) (by decide +kernel) rfl trivial ?_
  refine r_icmp_ge (off := 46) (tgt := 69) (by decide +kernel) (by decide) (fun c => ?_) (fun c => ?_)
  · replace h := h.1 c
    refine r_blk [qO (.iinc 1 1), qO (.goto (-70))] (pc' := 2) (L' := [zR 19 0, zI (l1 + 1), zI l2]) (S' := []) (σ' := σ) (Ps := [-2147483648 ≤ l1 + 1 ∧ l1 + 1 ≤ 2147483647]) (by decide +kernel) rfl ⟨h.1, trivial⟩ ?_
    replace h := h.2
    exact Runs.fg (fgE (fgE (fgU fg0))) h
  · replace h := h.2 c
    refine r_blk [qO (.aload_n 0), qF (.getfield 11) 0 2, qO (.iload_n 2), qO .aaload, qO (.iload_n 1), qO .iaload, qC (.ldc 24) 1000000] (pc' := 36) (L' := [zR 19 0, zI l1, zI l2]) (S' := [zI 1000000, zI (σ 21 l2.toNat l1.toNat)]) (σ' := σ) (Ps := [0 ≤ l2 ∧ l2 < 10, 0 ≤ l1 ∧ l1 < 10]) (by decide +kernel) rfl ⟨h.1, h.2.1, trivial⟩ ?_
    replace h := h.2.2
    refine r_icmp_ge (off := 27) (tgt := 63) (by decide +kernel) (by decide) (fun c => ?_) (fun c => ?_)
    · replace h := h.1 c
      refine r_blk [qO (.iinc 2 1), qO (.goto (-51))] (pc' := 15) (L' := [zR 19 0, zI l1, zI (l2 + 1)]) (S' := []) (σ' := σ) (Ps := [-2147483648 ≤ l2 + 1 ∧ l2 + 1 ≤ 2147483647]) (by decide +kernel) rfl ⟨h.1, trivial⟩ ?_
      replace h := h.2
      exact Runs.fg (fgE (fgE (fgE fg0))) h
    · replace h := h.2 c
      refine r_blk [qO (.aload_n 0), qO (.aload_n 0), qF (.getfield 11) 0 2, qO (.iload_n 2), qO .aaload, qO (.aload_n 0), qF (.getfield 11) 0 2, qO (.iload_n 1), qO .aaload, qO (.aload_n 0), qF (.getfield 11) 0 2, qO (.iload_n 2), qO .aaload, qO (.iload_n 1), qO .iaload] (pc' := 60) (L' := [zR 19 0, zI l1, zI l2]) (S' := [zI (σ 21 l2.toNat l1.toNat), zR 21 l1.toNat, zR 21 l2.toNat, zR 19 0]) (σ' := σ) (Ps := [0 ≤ l2 ∧ l2 < 10, 0 ≤ l1 ∧ l1 < 10, 0 ≤ l2 ∧ l2 < 10, 0 ≤ l1 ∧ l1 < 10]) (by decide +kernel) rfl ⟨h.1, h.2.1, h.2.2.1, h.2.2.2.1, trivial⟩ ?_
      replace h := h.2.2.2.2
      refine r_callVV (As := [zR 21 l2.toNat, zR 21 l1.toNat, zI (σ 21 l2.toNat l1.toNat)]) (S := []) (Lc := [zR 19 0, zR 21 l2.toNat, zR 21 l1.toNat, zI (σ 21 l2.toNat l1.toNat), zU]) (d' := 1) (n := 3) (g := 19) (x := 0) (ci := 0) kX0_joinBy vX0_joinBy lkX0_70 (by decide +kernel) (by decide) rfl rfl (by decide) rfl rfl (Nat.le_of_ble_eq_true rfl) rfl rfl (Nat.le_of_ble_eq_true rfl) (h.monoV (fun σ1 h => ?_))
      refine r_blk [qO (.iinc 2 1), qO (.goto (-51))] (pc' := 15) (L' := [zR 19 0, zI l1, zI (l2 + 1)]) (S' := []) (σ' := σ1) (Ps := [-2147483648 ≤ l2 + 1 ∧ l2 + 1 ≤ 2147483647]) (by decide +kernel) rfl ⟨h.1, trivial⟩ ?_
      replace h := h.2
      exact Runs.fg (fgE (fgE (fgE fg0))) h
theorem gX0_pairsApart_0 (σ : Hp) {Q : Option Int → Hp → Prop} (h : Runs 1 mX0_pairsApart 4 [zR 19 0, zI 0, zI 0, zU] [] σ Q) : Runs 1 mX0_pairsApart 0 [zR 19 0, zU, zU, zU] [] σ Q := by
  refine r_blk [qO (.iconst 0), qO (.istore_n 1), qO (.iconst 0), qO (.istore_n 2)] (pc' := 4) (L' := [zR 19 0, zI 0, zI 0, zU]) (S' := []) (σ' := σ) (Ps := []) (by decide +kernel) rfl trivial ?_
  exact Runs.fg (fgE (fgE (fgE (fgU fg0)))) h
theorem gX0_pairsApart_4 (l1 : Int) (l2 : Int) (σ : Hp) {Q : Option Int → Hp → Prop} (h : ((σ 1 0 0 ≤ l2 → Q (some l1) σ) ∧ (¬ σ 1 0 0 ≤ l2 → Runs 1 mX0_pairsApart 17 [zR 19 0, zI l1, zI l2, zI 0] [] σ Q))) : Runs 1 mX0_pairsApart 4 [zR 19 0, zI l1, zI l2, zU] [] σ Q := by
  refine r_blk [qO (.iload_n 2), qO (.aload_n 0), qF (.getfield 16) 0 0, qF (.getfield 67) 6 0] (pc' := 12) (L' := [zR 19 0, zI l1, zI l2, zU]) (S' := [zI (σ 1 0 0), zI l2]) (σ' := σ) (Ps := []) (by decide +kernel) rfl trivial ?_
  refine r_icmp_ge (off := 45) (tgt := 57) (by decide +kernel) (by decide) (fun c => ?_) (fun c => ?_)
  · replace h := h.1 c
    refine r_blk [qO (.iload_n 1)] (pc' := 58) (L' := [zR 19 0, zI l1, zI l2, zU]) (S' := [zI l1]) (σ' := σ) (Ps := []) (by decide +kernel) rfl trivial ?_
    exact r_ret (by decide +kernel) rfl (fun _ => h)
  · replace h := h.2 c
    refine r_blk [qO (.iconst 0), qO (.istore_n 3)] (pc' := 17) (L' := [zR 19 0, zI l1, zI l2, zI 0]) (S' := []) (σ' := σ) (Ps := []) (by decide +kernel) rfl trivial ?_
    exact Runs.fg (fgE (fgE (fgE (fgE fg0)))) h
theorem gX0_pairsApart_17 (l1 : Int) (l2 : Int) (l3 : Int) (σ : Hp) {Q : Option Int → Hp → Prop} (h : ((σ 1 0 0 ≤ l3 → (-2147483648 ≤ l2 + 1 ∧ l2 + 1 ≤ 2147483647) ∧ Runs 1 mX0_pairsApart 4 [zR 19 0, zI l1, zI (l2 + 1), zU] [] σ Q) ∧ (¬ σ 1 0 0 ≤ l3 → (0 ≤ l2 ∧ l2 < 10) ∧ (0 ≤ l3 ∧ l3 < 10) ∧ ((l2 ≠ l3 ∧ 1000000 ≤ σ 21 (l2).toNat (l3).toNat → (-2147483648 ≤ l1 + 1 ∧ l1 + 1 ≤ 2147483647) ∧ (-2147483648 ≤ l3 + 1 ∧ l3 + 1 ≤ 2147483647) ∧ Runs 1 mX0_pairsApart 17 [zR 19 0, zI (l1 + 1), zI l2, zI (l3 + 1)] [] σ Q) ∧ (¬ (l2 ≠ l3 ∧ 1000000 ≤ σ 21 (l2).toNat (l3).toNat) → (-2147483648 ≤ l1 + 0 ∧ l1 + 0 ≤ 2147483647) ∧ (-2147483648 ≤ l3 + 1 ∧ l3 + 1 ≤ 2147483647) ∧ Runs 1 mX0_pairsApart 17 [zR 19 0, zI (l1 + 0), zI l2, zI (l3 + 1)] [] σ Q))))) : Runs 1 mX0_pairsApart 17 [zR 19 0, zI l1, zI l2, zI l3] [] σ Q := by
  refine r_blk [qO (.iload_n 3), qO (.aload_n 0), qF (.getfield 16) 0 0, qF (.getfield 67) 6 0] (pc' := 25) (L' := [zR 19 0, zI l1, zI l2, zI l3]) (S' := [zI (σ 1 0 0), zI l3]) (σ' := σ) (Ps := []) (by decide +kernel) rfl trivial ?_
  refine r_icmp_ge (off := 26) (tgt := 51) (by decide +kernel) (by decide) (fun c => ?_) (fun c => ?_)
  · replace h := h.1 c
    refine r_blk [qO (.iinc 2 1), qO (.goto (-50))] (pc' := 4) (L' := [zR 19 0, zI l1, zI (l2 + 1), zI l3]) (S' := []) (σ' := σ) (Ps := [-2147483648 ≤ l2 + 1 ∧ l2 + 1 ≤ 2147483647]) (by decide +kernel) rfl ⟨h.1, trivial⟩ ?_
    replace h := h.2
    exact Runs.fg (fgE (fgE (fgE (fgU fg0)))) h
  · replace h := h.2 c
    refine r_blk [qO (.iload_n 1), qO (.aload_n 0), qO (.iload_n 2), qO (.iload_n 3)] (pc' := 32) (L' := [zR 19 0, zI l1, zI l2, zI l3]) (S' := [zI l3, zI l2, zR 19 0, zI l1]) (σ' := σ) (Ps := []) (by decide +kernel) rfl trivial ?_
    refine r_callVI (As := [zI l2, zI l3]) (S := [zI l1]) (Lc := [zR 19 0, zI l2, zI l3]) (d' := 0) (n := 2) (g := 19) (x := 0) (ci := 0) kX0_isApart vX0_isApart lkX0_74 (by decide +kernel) (by decide) rfl rfl (by decide) rfl rfl (Nat.le_of_ble_eq_true rfl) rfl rfl (Nat.le_of_ble_eq_true rfl) (pX0_isApart h.1 h.2.1 (fun c => ?_) (fun c => ?_))
    all_goals replace h := h.2.2
    · replace h := h.1 c
      refine r_if_eq (off := 7) (tgt := 42) (by decide +kernel) (by decide) (fun c => ?_) (fun c => ?_)
      · exact absurd c (by decide)
      · refine r_blk [qO (.iconst 1), qO (.goto 4), qO .iadd, qO (.istore_n 1), qO (.iinc 3 1), qO (.goto (-31))] (pc' := 17) (L' := [zR 19 0, zI (l1 + 1), zI l2, zI (l3 + 1)]) (S' := []) (σ' := σ) (Ps := [-2147483648 ≤ l1 + 1 ∧ l1 + 1 ≤ 2147483647, -2147483648 ≤ l3 + 1 ∧ l3 + 1 ≤ 2147483647]) (by decide +kernel) rfl ⟨h.1, h.2.1, trivial⟩ ?_
        replace h := h.2.2
        exact Runs.fg (fgE (fgE (fgE (fgE fg0)))) h
    · replace h := h.2 c
      refine r_if_eq (off := 7) (tgt := 42) (by decide +kernel) (by decide) (fun c => ?_) (fun c => ?_)
      · refine r_blk [qO (.iconst 0), qO .iadd, qO (.istore_n 1), qO (.iinc 3 1), qO (.goto (-31))] (pc' := 17) (L' := [zR 19 0, zI (l1 + 0), zI l2, zI (l3 + 1)]) (S' := []) (σ' := σ) (Ps := [-2147483648 ≤ l1 + 0 ∧ l1 + 0 ≤ 2147483647, -2147483648 ≤ l3 + 1 ∧ l3 + 1 ≤ 2147483647]) (by decide +kernel) rfl ⟨h.1, h.2.1, trivial⟩ ?_
        replace h := h.2.2
        exact Runs.fg (fgE (fgE (fgE (fgE fg0)))) h
      · exact absurd c (by decide)
theorem gX0_firstApart_0 (σ : Hp) {Q : Option Int → Hp → Prop} (h : Runs 1 mX0_firstApart 2 [zR 19 0, zI 0, zU] [] σ Q) : Runs 1 mX0_firstApart 0 [zR 19 0, zU, zU] [] σ Q := by
  refine r_blk [qO (.iconst 0), qO (.istore_n 1)] (pc' := 2) (L' := [zR 19 0, zI 0, zU]) (S' := []) (σ' := σ) (Ps := []) (by decide +kernel) rfl trivial ?_
  exact Runs.fg (fgE (fgE (fgU fg0))) h
theorem gX0_firstApart_2 (l1 : Int) (σ : Hp) {Q : Option Int → Hp → Prop} (h : ((σ 1 0 0 ≤ l1 → Q (some (-9)) σ) ∧ (¬ σ 1 0 0 ≤ l1 → Runs 1 mX0_firstApart 15 [zR 19 0, zI l1, zI 0] [] σ Q))) : Runs 1 mX0_firstApart 2 [zR 19 0, zI l1, zU] [] σ Q := by
  refine r_blk [qO (.iload_n 1), qO (.aload_n 0), qF (.getfield 16) 0 0, qF (.getfield 67) 6 0] (pc' := 10) (L' := [zR 19 0, zI l1, zU]) (S' := [zI (σ 1 0 0), zI l1]) (σ' := σ) (Ps := []) (by decide +kernel) rfl trivial ?_
  refine r_icmp_ge (off := 47) (tgt := 57) (by decide +kernel) (by decide) (fun c => ?_) (fun c => ?_)
  · replace h := h.1 c
    refine r_blk [qO (.bipush (-9))] (pc' := 59) (L' := [zR 19 0, zI l1, zU]) (S' := [zI (-9)]) (σ' := σ) (Ps := []) (by decide +kernel) rfl trivial ?_
    exact r_ret (by decide +kernel) rfl (fun _ => h)
  · replace h := h.2 c
    refine r_blk [qO (.iconst 0), qO (.istore_n 2)] (pc' := 15) (L' := [zR 19 0, zI l1, zI 0]) (S' := []) (σ' := σ) (Ps := []) (by decide +kernel) rfl trivial ?_
    exact Runs.fg (fgE (fgE (fgE fg0))) h
theorem gX0_firstApart_15 (l1 : Int) (l2 : Int) (σ : Hp) {Q : Option Int → Hp → Prop} (h : ((σ 1 0 0 ≤ l2 → (-2147483648 ≤ l1 + 1 ∧ l1 + 1 ≤ 2147483647) ∧ Runs 1 mX0_firstApart 2 [zR 19 0, zI (l1 + 1), zU] [] σ Q) ∧ (¬ σ 1 0 0 ≤ l2 → (0 ≤ l1 ∧ l1 < 10) ∧ (0 ≤ l2 ∧ l2 < 10) ∧ ((l1 ≠ l2 ∧ 1000000 ≤ σ 21 (l1).toNat (l2).toNat → (-2147483648 ≤ 10 * l1 ∧ 10 * l1 ≤ 2147483647) ∧ (-2147483648 ≤ 100 + (10 * l1) ∧ 100 + (10 * l1) ≤ 2147483647) ∧ (-2147483648 ≤ (100 + (10 * l1)) + l2 ∧ (100 + (10 * l1)) + l2 ≤ 2147483647) ∧ Q (some ((100 + (10 * l1)) + l2)) σ) ∧ (¬ (l1 ≠ l2 ∧ 1000000 ≤ σ 21 (l1).toNat (l2).toNat) → (-2147483648 ≤ l2 + 1 ∧ l2 + 1 ≤ 2147483647) ∧ Runs 1 mX0_firstApart 15 [zR 19 0, zI l1, zI (l2 + 1)] [] σ Q))))) : Runs 1 mX0_firstApart 15 [zR 19 0, zI l1, zI l2] [] σ Q := by
  refine r_blk [qO (.iload_n 2), qO (.aload_n 0), qF (.getfield 16) 0 0, qF (.getfield 67) 6 0] (pc' := 23) (L' := [zR 19 0, zI l1, zI l2]) (S' := [zI (σ 1 0 0), zI l2]) (σ' := σ) (Ps := []) (by decide +kernel) rfl trivial ?_
  refine r_icmp_ge (off := 28) (tgt := 51) (by decide +kernel) (by decide) (fun c => ?_) (fun c => ?_)
  · replace h := h.1 c
    refine r_blk [qO (.iinc 1 1), qO (.goto (-52))] (pc' := 2) (L' := [zR 19 0, zI (l1 + 1), zI l2]) (S' := []) (σ' := σ) (Ps := [-2147483648 ≤ l1 + 1 ∧ l1 + 1 ≤ 2147483647]) (by decide +kernel) rfl ⟨h.1, trivial⟩ ?_
    replace h := h.2
    exact Runs.fg (fgE (fgE (fgU fg0))) h
  · replace h := h.2 c
    refine r_blk [qO (.aload_n 0), qO (.iload_n 1), qO (.iload_n 2)] (pc' := 29) (L' := [zR 19 0, zI l1, zI l2]) (S' := [zI l2, zI l1, zR 19 0]) (σ' := σ) (Ps := []) (by decide +kernel) rfl trivial ?_
    refine r_callVI (As := [zI l1, zI l2]) (S := []) (Lc := [zR 19 0, zI l1, zI l2]) (d' := 0) (n := 2) (g := 19) (x := 0) (ci := 0) kX0_isApart vX0_isApart lkX0_74 (by decide +kernel) (by decide) rfl rfl (by decide) rfl rfl (Nat.le_of_ble_eq_true rfl) rfl rfl (Nat.le_of_ble_eq_true rfl) (pX0_isApart h.1 h.2.1 (fun c => ?_) (fun c => ?_))
    all_goals replace h := h.2.2
    · replace h := h.1 c
      refine r_if_eq (off := 13) (tgt := 45) (by decide +kernel) (by decide) (fun c => ?_) (fun c => ?_)
      · exact absurd c (by decide)
      · refine r_blk [qO (.bipush 100), qO (.bipush 10), qO (.iload_n 1), qO .imul, qO .iadd, qO (.iload_n 2), qO .iadd] (pc' := 44) (L' := [zR 19 0, zI l1, zI l2]) (S' := [zI ((100 + (10 * l1)) + l2)]) (σ' := σ) (Ps := [-2147483648 ≤ 10 * l1 ∧ 10 * l1 ≤ 2147483647, -2147483648 ≤ 100 + (10 * l1) ∧ 100 + (10 * l1) ≤ 2147483647, -2147483648 ≤ (100 + (10 * l1)) + l2 ∧ (100 + (10 * l1)) + l2 ≤ 2147483647]) (by decide +kernel) rfl ⟨h.1, h.2.1, h.2.2.1, trivial⟩ ?_
        replace h := h.2.2.2
        exact r_ret (by decide +kernel) rfl (fun _ => h)
    · replace h := h.2 c
      refine r_if_eq (off := 13) (tgt := 45) (by decide +kernel) (by decide) (fun c => ?_) (fun c => ?_)
      · refine r_blk [qO (.iinc 2 1), qO (.goto (-33))] (pc' := 15) (L' := [zR 19 0, zI l1, zI (l2 + 1)]) (S' := []) (σ' := σ) (Ps := [-2147483648 ≤ l2 + 1 ∧ l2 + 1 ≤ 2147483647]) (by decide +kernel) rfl ⟨h.1, trivial⟩ ?_
        replace h := h.2
        exact Runs.fg (fgE (fgE (fgE fg0))) h
      · exact absurd c (by decide)
theorem gX0_farthest_0 (σ : Hp) {Q : Option Int → Hp → Prop} (h : Runs 1 mX0_farthest 4 [zR 19 0, zI 0, zI 0, zU] [] σ Q) : Runs 1 mX0_farthest 0 [zR 19 0, zU, zU, zU] [] σ Q := by
  refine r_blk [qO (.iconst 0), qO (.istore_n 1), qO (.iconst 0), qO (.istore_n 2)] (pc' := 4) (L' := [zR 19 0, zI 0, zI 0, zU]) (S' := []) (σ' := σ) (Ps := []) (by decide +kernel) rfl trivial ?_
  exact Runs.fg (fgE (fgE (fgE (fgU fg0)))) h
theorem gX0_farthest_4 (l1 : Int) (l2 : Int) (σ : Hp) {Q : Option Int → Hp → Prop} (h : ((σ 1 0 0 ≤ l2 → Q (some l1) σ) ∧ (¬ σ 1 0 0 ≤ l2 → Runs 1 mX0_farthest 17 [zR 19 0, zI l1, zI l2, zI 0] [] σ Q))) : Runs 1 mX0_farthest 4 [zR 19 0, zI l1, zI l2, zU] [] σ Q := by
  refine r_blk [qO (.iload_n 2), qO (.aload_n 0), qF (.getfield 16) 0 0, qF (.getfield 67) 6 0] (pc' := 12) (L' := [zR 19 0, zI l1, zI l2, zU]) (S' := [zI (σ 1 0 0), zI l2]) (σ' := σ) (Ps := []) (by decide +kernel) rfl trivial ?_
  refine r_icmp_ge (off := 62) (tgt := 74) (by decide +kernel) (by decide) (fun c => ?_) (fun c => ?_)
  · replace h := h.1 c
    refine r_blk [qO (.iload_n 1)] (pc' := 75) (L' := [zR 19 0, zI l1, zI l2, zU]) (S' := [zI l1]) (σ' := σ) (Ps := []) (by decide +kernel) rfl trivial ?_
    exact r_ret (by decide +kernel) rfl (fun _ => h)
  · replace h := h.2 c
    refine r_blk [qO (.iconst 0), qO (.istore_n 3)] (pc' := 17) (L' := [zR 19 0, zI l1, zI l2, zI 0]) (S' := []) (σ' := σ) (Ps := []) (by decide +kernel) rfl trivial ?_
    exact Runs.fg (fgE (fgE (fgE (fgE fg0)))) h
theorem gX0_farthest_17 (l1 : Int) (l2 : Int) (l3 : Int) (σ : Hp) {Q : Option Int → Hp → Prop} (h : ((σ 1 0 0 ≤ l3 → (-2147483648 ≤ l2 + 1 ∧ l2 + 1 ≤ 2147483647) ∧ Runs 1 mX0_farthest 4 [zR 19 0, zI l1, zI (l2 + 1), zU] [] σ Q) ∧ (¬ σ 1 0 0 ≤ l3 → (0 ≤ l2 ∧ l2 < 10) ∧ (0 ≤ l3 ∧ l3 < 10) ∧ ((l2 ≠ l3 ∧ 1000000 ≤ σ 21 (l2).toNat (l3).toNat → Q (some (-9)) σ) ∧ (¬ (l2 ≠ l3 ∧ 1000000 ≤ σ 21 (l2).toNat (l3).toNat) → ((¬ l2 = l3 → (0 ≤ l2 ∧ l2 < 10) ∧ (0 ≤ l3 ∧ l3 < 10) ∧ (-2147483648 ≤ l3 + 1 ∧ l3 + 1 ≤ 2147483647) ∧ Runs 1 mX0_farthest 17 [zR 19 0, zI (if l1 < σ 21 l2.toNat l3.toNat then σ 21 l2.toNat l3.toNat else l1), zI l2, zI (l3 + 1)] [] σ Q) ∧ (l2 = l3 → (-2147483648 ≤ l3 + 1 ∧ l3 + 1 ≤ 2147483647) ∧ Runs 1 mX0_farthest 17 [zR 19 0, zI l1, zI l2, zI (l3 + 1)] [] σ Q))))))) : Runs 1 mX0_farthest 17 [zR 19 0, zI l1, zI l2, zI l3] [] σ Q := by
  refine r_blk [qO (.iload_n 3), qO (.aload_n 0), qF (.getfield 16) 0 0, qF (.getfield 67) 6 0] (pc' := 25) (L' := [zR 19 0, zI l1, zI l2, zI l3]) (S' := [zI (σ 1 0 0), zI l3]) (σ' := σ) (Ps := []) (by decide +kernel) rfl trivial ?_
  refine r_icmp_ge (off := 43) (tgt := 68) (by decide +kernel) (by decide) (fun c => ?_) (fun c => ?_)
  · replace h := h.1 c
    refine r_blk [qO (.iinc 2 1), qO (.goto (-67))] (pc' := 4) (L' := [zR 19 0, zI l1, zI (l2 + 1), zI l3]) (S' := []) (σ' := σ) (Ps := [-2147483648 ≤ l2 + 1 ∧ l2 + 1 ≤ 2147483647]) (by decide +kernel) rfl ⟨h.1, trivial⟩ ?_
    replace h := h.2
    exact Runs.fg (fgE (fgE (fgE (fgU fg0)))) h
  · replace h := h.2 c
    refine r_blk [qO (.aload_n 0), qO (.iload_n 2), qO (.iload_n 3)] (pc' := 31) (L' := [zR 19 0, zI l1, zI l2, zI l3]) (S' := [zI l3, zI l2, zR 19 0]) (σ' := σ) (Ps := []) (by decide +kernel) rfl trivial ?_
    refine r_callVI (As := [zI l2, zI l3]) (S := []) (Lc := [zR 19 0, zI l2, zI l3]) (d' := 0) (n := 2) (g := 19) (x := 0) (ci := 0) kX0_isApart vX0_isApart lkX0_74 (by decide +kernel) (by decide) rfl rfl (by decide) rfl rfl (Nat.le_of_ble_eq_true rfl) rfl rfl (Nat.le_of_ble_eq_true rfl) (pX0_isApart h.1 h.2.1 (fun c => ?_) (fun c => ?_))
    all_goals replace h := h.2.2
    · replace h := h.1 c
      refine r_if_eq (off := 6) (tgt := 40) (by decide +kernel) (by decide) (fun c => ?_) (fun c => ?_)
      · exact absurd c (by decide)
      · refine r_blk [qO (.bipush (-9))] (pc' := 39) (L' := [zR 19 0, zI l1, zI l2, zI l3]) (S' := [zI (-9)]) (σ' := σ) (Ps := []) (by decide +kernel) rfl trivial ?_
        exact r_ret (by decide +kernel) rfl (fun _ => h)
    · replace h := h.2 c
      refine r_if_eq (off := 6) (tgt := 40) (by decide +kernel) (by decide) (fun c => ?_) (fun c => ?_)
      · refine r_blk [qO (.iload_n 2), qO (.iload_n 3)] (pc' := 42) (L' := [zR 19 0, zI l1, zI l2, zI l3]) (S' := [zI l3, zI l2]) (σ' := σ) (Ps := []) (by decide +kernel) rfl trivial ?_
        refine r_icmp_ne (off := 7) (tgt := 49) (by decide +kernel) (by decide) (fun c => ?_) (fun c => ?_)
        · replace h := h.1 c
          refine r_blk [qO (.iload_n 1), qO (.aload_n 0), qF (.getfield 11) 0 2, qO (.iload_n 2), qO .aaload, qO (.iload_n 3), qO .iaload] (pc' := 58) (L' := [zR 19 0, zI l1, zI l2, zI l3]) (S' := [zI (σ 21 l2.toNat l3.toNat), zI l1]) (σ' := σ) (Ps := [0 ≤ l2 ∧ l2 < 10, 0 ≤ l3 ∧ l3 < 10]) (by decide +kernel) rfl ⟨h.1, h.2.1, trivial⟩ ?_
          replace h := h.2.2
          refine r_max lkX0_78 (by decide +kernel) (by decide) (Nat.le_of_ble_eq_true rfl) ?_
          refine r_blk [qO (.istore_n 1), qO (.iinc 3 1), qO (.goto (-48))] (pc' := 17) (L' := [zR 19 0, zI (if l1 < σ 21 l2.toNat l3.toNat then σ 21 l2.toNat l3.toNat else l1), zI l2, zI (l3 + 1)]) (S' := []) (σ' := σ) (Ps := [-2147483648 ≤ l3 + 1 ∧ l3 + 1 ≤ 2147483647]) (by decide +kernel) rfl ⟨h.1, trivial⟩ ?_
          replace h := h.2
          exact Runs.fg (fgE (fgE (fgE (fgE fg0)))) h
        · replace h := h.2 c
          refine r_blk [qO (.iload_n 1), qO (.goto 15), qO (.istore_n 1), qO (.iinc 3 1), qO (.goto (-48))] (pc' := 17) (L' := [zR 19 0, zI l1, zI l2, zI (l3 + 1)]) (S' := []) (σ' := σ) (Ps := [-2147483648 ≤ l3 + 1 ∧ l3 + 1 ≤ 2147483647]) (by decide +kernel) rfl ⟨h.1, trivial⟩ ?_
          replace h := h.2
          exact Runs.fg (fgE (fgE (fgE (fgE fg0)))) h
      · exact absurd c (by decide)
theorem gX0_roundOfRow_0 (σ : Hp) {Q : Option Int → Hp → Prop} (h : Runs 0 mX0_roundOfRow 4 [zR 19 0, zI 0, zI 0, zU, zU] [] σ Q) : Runs 0 mX0_roundOfRow 0 [zR 19 0, zU, zU, zU, zU] [] σ Q := by
  refine r_blk [qO (.iconst 0), qO (.istore_n 1), qO (.iconst 0), qO (.istore_n 2)] (pc' := 4) (L' := [zR 19 0, zI 0, zI 0, zU, zU]) (S' := []) (σ' := σ) (Ps := []) (by decide +kernel) rfl trivial ?_
  exact Runs.fg (fgE (fgE (fgE (fgU (fgU fg0))))) h
theorem gX0_roundOfRow_4 (l1 : Int) (l2 : Int) (σ : Hp) {Q : Option Int → Hp → Prop} (h : ((σ 1 0 3 ≤ l2 → Q (some l1) σ) ∧ (¬ σ 1 0 3 ≤ l2 → (-2147483648 ≤ l2 + 1 ∧ l2 + 1 ≤ 2147483647) ∧ ((σ 1 0 3 ≤ l2 + 1 → (0 ≤ l2 ∧ l2 < 10) ∧ (0 ≤ σ 10 0 l2.toNat ∧ σ 10 0 l2.toNat < 10) ∧ (0 ≤ σ 10 0 0 ∧ σ 10 0 0 < 10) ∧ ((σ 21 ((σ 10 0 l2.toNat).toNat) ((σ 10 0 0).toNat) < 1000000 → (-2147483648 ≤ l1 + (σ 21 ((σ 10 0 l2.toNat).toNat) ((σ 10 0 0).toNat)) ∧ l1 + (σ 21 ((σ 10 0 l2.toNat).toNat) ((σ 10 0 0).toNat)) ≤ 2147483647) ∧ (-2147483648 ≤ l2 + 1 ∧ l2 + 1 ≤ 2147483647) ∧ Runs 0 mX0_roundOfRow 4 [zR 19 0, zI (l1 + (σ 21 ((σ 10 0 l2.toNat).toNat) ((σ 10 0 0).toNat))), zI (l2 + 1), zU, zU] [] σ Q) ∧ (¬ σ 21 ((σ 10 0 l2.toNat).toNat) ((σ 10 0 0).toNat) < 1000000 → Q (some (-9)) σ))) ∧ (¬ σ 1 0 3 ≤ l2 + 1 → (-2147483648 ≤ l2 + 1 ∧ l2 + 1 ≤ 2147483647) ∧ (0 ≤ l2 ∧ l2 < 10) ∧ (0 ≤ σ 10 0 l2.toNat ∧ σ 10 0 l2.toNat < 10) ∧ (0 ≤ l2 + 1 ∧ l2 + 1 < 10) ∧ (0 ≤ σ 10 0 ((l2 + 1).toNat) ∧ σ 10 0 ((l2 + 1).toNat) < 10) ∧ ((σ 21 ((σ 10 0 l2.toNat).toNat) ((σ 10 0 ((l2 + 1).toNat)).toNat) < 1000000 → (-2147483648 ≤ l1 + (σ 21 ((σ 10 0 l2.toNat).toNat) ((σ 10 0 ((l2 + 1).toNat)).toNat)) ∧ l1 + (σ 21 ((σ 10 0 l2.toNat).toNat) ((σ 10 0 ((l2 + 1).toNat)).toNat)) ≤ 2147483647) ∧ (-2147483648 ≤ l2 + 1 ∧ l2 + 1 ≤ 2147483647) ∧ ∀ z1 : Int, z1 = l1 + (σ 21 ((σ 10 0 l2.toNat).toNat) ((σ 10 0 ((l2 + 1).toNat)).toNat)) → Runs 0 mX0_roundOfRow 4 [zR 19 0, zI z1, zI (l2 + 1), zU, zU] [] σ Q) ∧ (¬ σ 21 ((σ 10 0 l2.toNat).toNat) ((σ 10 0 ((l2 + 1).toNat)).toNat) < 1000000 → Q (some (-9)) σ))))))) : Runs 0 mX0_roundOfRow 4 [zR 19 0, zI l1, zI l2, zU, zU] [] σ Q := by
  refine r_blk [qO (.iload_n 2), qO (.aload_n 0), qF (.getfield 16) 0 0, qF (.getfield 81) 6 3] (pc' := 12) (L' := [zR 19 0, zI l1, zI l2, zU, zU]) (S' := [zI (σ 1 0 3), zI l2]) (σ' := σ) (Ps := []) (by decide +kernel) rfl trivial ?_
  refine r_icmp_ge (off := 71) (tgt := 83) (by decide +kernel) (by decide) (fun c => ?_) (fun c => ?_)
  · replace h := h.1 c
    refine r_blk [qO (.iload_n 1)] (pc' := 84) (L' := [zR 19 0, zI l1, zI l2, zU, zU]) (S' := [zI l1]) (σ' := σ) (Ps := []) (by decide +kernel) rfl trivial ?_
    exact r_ret (by decide +kernel) rfl (fun _ => h)
  · replace h := h.2 c
    refine r_blk [qO (.iload_n 2), qO (.iconst 1), qO .iadd, qO (.aload_n 0), qF (.getfield 16) 0 0, qF (.getfield 81) 6 3] (pc' := 25) (L' := [zR 19 0, zI l1, zI l2, zU, zU]) (S' := [zI (σ 1 0 3), zI (l2 + 1)]) (σ' := σ) (Ps := [-2147483648 ≤ l2 + 1 ∧ l2 + 1 ≤ 2147483647]) (by decide +kernel) rfl ⟨h.1, trivial⟩ ?_
    replace h := h.2
    refine r_icmp_ge (off := 9) (tgt := 34) (by decide +kernel) (by decide) (fun c => ?_) (fun c => ?_)
    · replace h := h.1 c
      refine r_blk [qO (.iconst 0), qO (.istore_n 3), qO (.aload_n 0), qF (.getfield 11) 0 2, qO (.aload_n 0), qF (.getfield 16) 0 0, qF (.getfield 84) 6 15, qO (.iload_n 2), qO .iaload, qO .aaload, qO (.aload_n 0), qF (.getfield 16) 0 0, qF (.getfield 84) 6 15, qO (.iload_n 3), qO .iaload, qO .iaload, qO (.istore 4), qO (.iload 4), qC (.ldc 24) 1000000] (pc' := 66) (L' := [zR 19 0, zI l1, zI l2, zI 0, zI (σ 21 ((σ 10 0 l2.toNat).toNat) ((σ 10 0 0).toNat))]) (S' := [zI 1000000, zI (σ 21 ((σ 10 0 l2.toNat).toNat) ((σ 10 0 0).toNat))]) (σ' := σ) (Ps := [0 ≤ l2 ∧ l2 < 10, 0 ≤ σ 10 0 l2.toNat ∧ σ 10 0 l2.toNat < 10, 0 ≤ 0 ∧ 0 < 10, 0 ≤ σ 10 0 0 ∧ σ 10 0 0 < 10]) (by decide +kernel) rfl ⟨h.1, h.2.1, (by decide), h.2.2.1, trivial⟩ ?_
      replace h := h.2.2.2
      refine r_icmp_lt (off := 6) (tgt := 72) (by decide +kernel) (by decide) (fun c => ?_) (fun c => ?_)
      · replace h := h.1 c
        refine r_blk [qO (.iload_n 1), qO (.iload 4), qO .iadd, qO (.istore_n 1), qO (.iinc 2 1), qO (.goto (-76))] (pc' := 4) (L' := [zR 19 0, zI (l1 + (σ 21 ((σ 10 0 l2.toNat).toNat) ((σ 10 0 0).toNat))), zI (l2 + 1), zI 0, zI (σ 21 ((σ 10 0 l2.toNat).toNat) ((σ 10 0 0).toNat))]) (S' := []) (σ' := σ) (Ps := [-2147483648 ≤ l1 + (σ 21 ((σ 10 0 l2.toNat).toNat) ((σ 10 0 0).toNat)) ∧ l1 + (σ 21 ((σ 10 0 l2.toNat).toNat) ((σ 10 0 0).toNat)) ≤ 2147483647, -2147483648 ≤ l2 + 1 ∧ l2 + 1 ≤ 2147483647]) (by decide +kernel) rfl ⟨h.1, h.2.1, trivial⟩ ?_
        replace h := h.2.2
        exact Runs.fg (fgE (fgE (fgE (fgU (fgU fg0))))) h
      · replace h := h.2 c
        refine r_blk [qO (.bipush (-9))] (pc' := 71) (L' := [zR 19 0, zI l1, zI l2, zI 0, zI (σ 21 ((σ 10 0 l2.toNat).toNat) ((σ 10 0 0).toNat))]) (S' := [zI (-9)]) (σ' := σ) (Ps := []) (by decide +kernel) rfl trivial ?_
        exact r_ret (by decide +kernel) rfl (fun _ => h)
    · replace h := h.2 c
      refine r_blk [qO (.iload_n 2), qO (.iconst 1), qO .iadd, qO (.goto 4), qO (.istore_n 3), qO (.aload_n 0), qF (.getfield 11) 0 2, qO (.aload_n 0), qF (.getfield 16) 0 0, qF (.getfield 84) 6 15, qO (.iload_n 2), qO .iaload, qO .aaload, qO (.aload_n 0), qF (.getfield 16) 0 0, qF (.getfield 84) 6 15, qO (.iload_n 3), qO .iaload, qO .iaload, qO (.istore 4), qO (.iload 4), qC (.ldc 24) 1000000] (pc' := 66) (L' := [zR 19 0, zI l1, zI l2, zI (l2 + 1), zI (σ 21 ((σ 10 0 l2.toNat).toNat) ((σ 10 0 ((l2 + 1).toNat)).toNat))]) (S' := [zI 1000000, zI (σ 21 ((σ 10 0 l2.toNat).toNat) ((σ 10 0 ((l2 + 1).toNat)).toNat))]) (σ' := σ) (Ps := [-2147483648 ≤ l2 + 1 ∧ l2 + 1 ≤ 2147483647, 0 ≤ l2 ∧ l2 < 10, 0 ≤ σ 10 0 l2.toNat ∧ σ 10 0 l2.toNat < 10, 0 ≤ l2 + 1 ∧ l2 + 1 < 10, 0 ≤ σ 10 0 ((l2 + 1).toNat) ∧ σ 10 0 ((l2 + 1).toNat) < 10]) (by decide +kernel) rfl ⟨h.1, h.2.1, h.2.2.1, h.2.2.2.1, h.2.2.2.2.1, trivial⟩ ?_
      replace h := h.2.2.2.2.2
      refine r_icmp_lt (off := 6) (tgt := 72) (by decide +kernel) (by decide) (fun c => ?_) (fun c => ?_)
      · replace h := h.1 c
        refine r_blk [qO (.iload_n 1), qO (.iload 4), qO .iadd, qO (.istore_n 1), qO (.iinc 2 1), qO (.goto (-76))] (pc' := 4) (L' := [zR 19 0, zI (l1 + (σ 21 ((σ 10 0 l2.toNat).toNat) ((σ 10 0 ((l2 + 1).toNat)).toNat))), zI (l2 + 1), zI (l2 + 1), zI (σ 21 ((σ 10 0 l2.toNat).toNat) ((σ 10 0 ((l2 + 1).toNat)).toNat))]) (S' := []) (σ' := σ) (Ps := [-2147483648 ≤ l1 + (σ 21 ((σ 10 0 l2.toNat).toNat) ((σ 10 0 ((l2 + 1).toNat)).toNat)) ∧ l1 + (σ 21 ((σ 10 0 l2.toNat).toNat) ((σ 10 0 ((l2 + 1).toNat)).toNat)) ≤ 2147483647, -2147483648 ≤ l2 + 1 ∧ l2 + 1 ≤ 2147483647]) (by decide +kernel) rfl ⟨h.1, h.2.1, trivial⟩ ?_
        replace h := h.2.2
        generalize hz1 : l1 + (σ 21 ((σ 10 0 l2.toNat).toNat) ((σ 10 0 ((l2 + 1).toNat)).toNat)) = z1
        replace h := h z1 hz1.symm
        exact Runs.fg (fgE (fgE (fgE (fgU (fgU fg0))))) h
      · replace h := h.2 c
        refine r_blk [qO (.bipush (-9))] (pc' := 71) (L' := [zR 19 0, zI l1, zI l2, zI (l2 + 1), zI (σ 21 ((σ 10 0 l2.toNat).toNat) ((σ 10 0 ((l2 + 1).toNat)).toNat))]) (S' := [zI (-9)]) (σ' := σ) (Ps := []) (by decide +kernel) rfl trivial ?_
        exact r_ret (by decide +kernel) rfl (fun _ => h)
theorem gX9_nearestPointing_0 (σ : Hp) {Q : Option Int → Hp → Prop} (h : Runs 3 mX9_nearestPointing 8 [zR 26 0, zI (-9), zI 1000000, zI 0, zU] [] σ Q) : Runs 3 mX9_nearestPointing 0 [zR 26 0, zU, zU, zU, zU] [] σ Q := by
  refine r_blk [qO (.bipush (-9)), qO (.istore_n 1), qC (.ldc 31) 1000000, qO (.istore_n 2), qO (.iconst 0), qO (.istore_n 3)] (pc' := 8) (L' := [zR 26 0, zI (-9), zI 1000000, zI 0, zU]) (S' := []) (σ' := σ) (Ps := []) (by decide +kernel) rfl trivial ?_
  exact Runs.fg (fgE (fgE (fgE (fgE (fgU fg0))))) h
theorem gX9_nearestPointing_8 (l1 : Int) (l2 : Int) (l3 : Int) (σ : Hp) {Q : Option Int → Hp → Prop} (h : ((zshl 1 (σ 1 0 1) ≤ l3 → Q (some l1) σ) ∧ (¬ zshl 1 (σ 1 0 1) ≤ l3 → Runs 1 mX6_firstMustUnkept 0 [zR 1 0, zI l3, zU] [] σ (rI (fun z2 σ1 => ((z2 = (-1) → ∀ σ3 : Hp, σ3 = zup σ1 16 0 4 (tBits σ1 l3) → Runs 2 mX0_lay 0 [zR 19 0, zI 0, zU, zU] [] σ3 (rV (fun σ4 => Runs 2 mX0_join 0 [zR 19 0, zU, zU] [] σ4 (rV (fun σ5 => Runs 1 mX0_farthest 0 [zR 19 0, zU, zU, zU] [] σ5 (rI (fun z7 σ6 => ((z7 = (-9) → (-2147483648 ≤ l3 + 1 ∧ l3 + 1 ≤ 2147483647) ∧ Runs 3 mX9_nearestPointing 8 [zR 26 0, zI l1, zI l2, zI (l3 + 1), zU] [] σ6 Q) ∧ (¬ z7 = (-9) → ((l2 ≤ z7 → (-2147483648 ≤ l3 + 1 ∧ l3 + 1 ≤ 2147483647) ∧ Runs 3 mX9_nearestPointing 8 [zR 26 0, zI l1, zI l2, zI (l3 + 1), zU] [] σ6 Q) ∧ (¬ l2 ≤ z7 → (-2147483648 ≤ l3 + 1 ∧ l3 + 1 ≤ 2147483647) ∧ Runs 3 mX9_nearestPointing 8 [zR 26 0, zI l3, zI z7, zI (l3 + 1), zU] [] σ6 Q))))))))))) ∧ (¬ z2 = (-1) → (-2147483648 ≤ l3 + 1 ∧ l3 + 1 ≤ 2147483647) ∧ Runs 3 mX9_nearestPointing 8 [zR 26 0, zI l1, zI l2, zI (l3 + 1), zU] [] σ1 Q))))))) : Runs 3 mX9_nearestPointing 8 [zR 26 0, zI l1, zI l2, zI l3, zU] [] σ Q := by
  refine r_blk [qO (.iload_n 3), qO (.iconst 1), qO (.aload_n 0), qF (.getfield 9) 9 0, qF (.getfield 32) 6 1, qO .ishl] (pc' := 18) (L' := [zR 26 0, zI l1, zI l2, zI l3, zU]) (S' := [zI (zshl 1 (σ 1 0 1)), zI l3]) (σ' := σ) (Ps := []) (by decide +kernel) rfl trivial ?_
  refine r_icmp_ge (off := 74) (tgt := 92) (by decide +kernel) (by decide) (fun c => ?_) (fun c => ?_)
  · replace h := h.1 c
    refine r_blk [qO (.iload_n 1)] (pc' := 93) (L' := [zR 26 0, zI l1, zI l2, zI l3, zU]) (S' := [zI l1]) (σ' := σ) (Ps := []) (by decide +kernel) rfl trivial ?_
    exact r_ret (by decide +kernel) rfl (fun _ => h)
  · replace h := h.2 c
    refine r_blk [qO (.aload_n 0), qF (.getfield 9) 9 0, qO (.iload_n 3)] (pc' := 26) (L' := [zR 26 0, zI l1, zI l2, zI l3, zU]) (S' := [zI l3, zR 1 0]) (σ' := σ) (Ps := []) (by decide +kernel) rfl trivial ?_
    refine r_callVI (As := [zI l3]) (S := []) (Lc := [zR 1 0, zI l3, zU]) (d' := 1) (n := 1) (g := 1) (x := 0) (ci := 6) kX6_firstMustUnkept vX6_firstMustUnkept lkX9_38 (by decide +kernel) (by decide) rfl rfl (by decide) rfl rfl (Nat.le_of_ble_eq_true rfl) rfl rfl (Nat.le_of_ble_eq_true rfl) (h.monoI (fun z2 σ1 h => ?_))
    refine r_blk [qO (.iconst (-1))] (pc' := 30) (L' := [zR 26 0, zI l1, zI l2, zI l3, zU]) (S' := [zI (-1), zI z2]) (σ' := σ1) (Ps := []) (by decide +kernel) rfl trivial ?_
    refine r_icmp_eq (off := 6) (tgt := 36) (by decide +kernel) (by decide) (fun c => ?_) (fun c => ?_)
    · replace h := h.1 c
      refine r_blk [qO (.aload_n 0), qF (.getfield 15) 9 1, qO (.iload_n 3)] (pc' := 41) (L' := [zR 26 0, zI l1, zI l2, zI l3, zU]) (S' := [zI l3, zR 16 0]) (σ' := σ1) (Ps := []) (by decide +kernel) rfl trivial ?_
      refine r_callVV (As := [zI l3]) (S := []) (Lc := [zR 16 0, zI l3, zU]) (d' := 0) (n := 1) (g := 16) (x := 0) (ci := 7) kX7_pointAs vX7_pointAs lkX9_42 (by decide +kernel) (by decide) rfl rfl (by decide) rfl rfl (Nat.le_of_ble_eq_true rfl) rfl rfl (Nat.le_of_ble_eq_true rfl) (pX7_pointAs  ?_)
      generalize hσ3 : zup σ1 16 0 4 (tBits σ1 l3) = σ3
      replace h := h σ3 hσ3.symm
      refine r_blk [qO (.aload_n 0), qF (.getfield 23) 9 3, qO (.iconst 0)] (pc' := 49) (L' := [zR 26 0, zI l1, zI l2, zI l3, zU]) (S' := [zI 0, zR 19 0]) (σ' := σ3) (Ps := []) (by decide +kernel) rfl trivial ?_
      refine r_callVV (As := [zI 0]) (S := []) (Lc := [zR 19 0, zI 0, zU, zU]) (d' := 2) (n := 1) (g := 19) (x := 0) (ci := 0) kX0_lay vX0_lay lkX9_53 (by decide +kernel) (by decide) rfl rfl (by decide) rfl rfl (Nat.le_of_ble_eq_true rfl) rfl rfl (Nat.le_of_ble_eq_true rfl) (h.monoV (fun σ4 h => ?_))
      refine r_blk [qO (.aload_n 0), qF (.getfield 23) 9 3] (pc' := 56) (L' := [zR 26 0, zI l1, zI l2, zI l3, zU]) (S' := [zR 19 0]) (σ' := σ4) (Ps := []) (by decide +kernel) rfl trivial ?_
      refine r_callVV (As := []) (S := []) (Lc := [zR 19 0, zU, zU]) (d' := 2) (n := 0) (g := 19) (x := 0) (ci := 0) kX0_join vX0_join lkX9_58 (by decide +kernel) (by decide) rfl rfl (by decide) rfl rfl (Nat.le_of_ble_eq_true rfl) rfl rfl (Nat.le_of_ble_eq_true rfl) (h.monoV (fun σ5 h => ?_))
      refine r_blk [qO (.aload_n 0), qF (.getfield 23) 9 3] (pc' := 63) (L' := [zR 26 0, zI l1, zI l2, zI l3, zU]) (S' := [zR 19 0]) (σ' := σ5) (Ps := []) (by decide +kernel) rfl trivial ?_
      refine r_callVI (As := []) (S := []) (Lc := [zR 19 0, zU, zU, zU]) (d' := 1) (n := 0) (g := 19) (x := 0) (ci := 0) kX0_farthest vX0_farthest lkX9_61 (by decide +kernel) (by decide) rfl rfl (by decide) rfl rfl (Nat.le_of_ble_eq_true rfl) rfl rfl (Nat.le_of_ble_eq_true rfl) (h.monoI (fun z7 σ6 h => ?_))
      refine r_blk [qO (.istore 4), qO (.iload 4), qO (.bipush (-9))] (pc' := 72) (L' := [zR 26 0, zI l1, zI l2, zI l3, zI z7]) (S' := [zI (-9), zI z7]) (σ' := σ6) (Ps := []) (by decide +kernel) rfl trivial ?_
      refine r_icmp_eq (off := 14) (tgt := 86) (by decide +kernel) (by decide) (fun c => ?_) (fun c => ?_)
      · replace h := h.1 c
        refine r_blk [qO (.iinc 3 1), qO (.goto (-81))] (pc' := 8) (L' := [zR 26 0, zI l1, zI l2, zI (l3 + 1), zI z7]) (S' := []) (σ' := σ6) (Ps := [-2147483648 ≤ l3 + 1 ∧ l3 + 1 ≤ 2147483647]) (by decide +kernel) rfl ⟨h.1, trivial⟩ ?_
        replace h := h.2
        exact Runs.fg (fgE (fgE (fgE (fgE (fgU fg0))))) h
      · replace h := h.2 c
        refine r_blk [qO (.iload 4), qO (.iload_n 2)] (pc' := 78) (L' := [zR 26 0, zI l1, zI l2, zI l3, zI z7]) (S' := [zI l2, zI z7]) (σ' := σ6) (Ps := []) (by decide +kernel) rfl trivial ?_
        refine r_icmp_ge (off := 8) (tgt := 86) (by decide +kernel) (by decide) (fun c => ?_) (fun c => ?_)
        · replace h := h.1 c
          refine r_blk [qO (.iinc 3 1), qO (.goto (-81))] (pc' := 8) (L' := [zR 26 0, zI l1, zI l2, zI (l3 + 1), zI z7]) (S' := []) (σ' := σ6) (Ps := [-2147483648 ≤ l3 + 1 ∧ l3 + 1 ≤ 2147483647]) (by decide +kernel) rfl ⟨h.1, trivial⟩ ?_
          replace h := h.2
          exact Runs.fg (fgE (fgE (fgE (fgE (fgU fg0))))) h
        · replace h := h.2 c
          refine r_blk [qO (.iload 4), qO (.istore_n 2), qO (.iload_n 3), qO (.istore_n 1), qO (.iinc 3 1), qO (.goto (-81))] (pc' := 8) (L' := [zR 26 0, zI l3, zI z7, zI (l3 + 1), zI z7]) (S' := []) (σ' := σ6) (Ps := [-2147483648 ≤ l3 + 1 ∧ l3 + 1 ≤ 2147483647]) (by decide +kernel) rfl ⟨h.1, trivial⟩ ?_
          replace h := h.2
          exact Runs.fg (fgE (fgE (fgE (fgE (fgU fg0))))) h
    · replace h := h.2 c
      refine r_blk [qO (.goto 53), qO (.iinc 3 1), qO (.goto (-81))] (pc' := 8) (L' := [zR 26 0, zI l1, zI l2, zI (l3 + 1), zU]) (S' := []) (σ' := σ1) (Ps := [-2147483648 ≤ l3 + 1 ∧ l3 + 1 ≤ 2147483647]) (by decide +kernel) rfl ⟨h.1, trivial⟩ ?_
      replace h := h.2
      exact Runs.fg (fgE (fgE (fgE (fgE (fgU fg0))))) h
theorem gX11_findsFar_0 (a0 : Int) (σ : Hp) {Q : Option Int → Hp → Prop} (h : Runs 3 mX11_findsFar 2 [zR 34 0, zI a0, zI 0, zU, zU, zU] [] σ Q) : Runs 3 mX11_findsFar 0 [zR 34 0, zI a0, zU, zU, zU, zU] [] σ Q := by
  refine r_blk [qO (.iconst 0), qO (.istore_n 2)] (pc' := 2) (L' := [zR 34 0, zI a0, zI 0, zU, zU, zU]) (S' := []) (σ' := σ) (Ps := []) (by decide +kernel) rfl trivial ?_
  exact Runs.fg (fgE (fgE (fgE (fgU (fgU (fgU fg0)))))) h
theorem gX11_findsFar_2 (l1 : Int) (l2 : Int) (σ : Hp) {Q : Option Int → Hp → Prop} (h : ((10 ≤ l2 → Runs 3 mX11_findsFar 52 [zR 34 0, zI l1, zI 0, zU, zU, zU] [] σ Q) ∧ (¬ 10 ≤ l2 → Runs 3 mX11_findsFar 10 [zR 34 0, zI l1, zI l2, zI 0, zU, zU] [] σ Q))) : Runs 3 mX11_findsFar 2 [zR 34 0, zI l1, zI l2, zU, zU, zU] [] σ Q := by
  refine r_blk [qO (.iload_n 2), qO (.bipush 10)] (pc' := 5) (L' := [zR 34 0, zI l1, zI l2, zU, zU, zU]) (S' := [zI 10, zI l2]) (σ' := σ) (Ps := []) (by decide +kernel) rfl trivial ?_
  refine r_icmp_ge (off := 45) (tgt := 50) (by decide +kernel) (by decide) (fun c => ?_) (fun c => ?_)
  · replace h := h.1 c
    refine r_blk [qO (.iconst 0), qO (.istore_n 2)] (pc' := 52) (L' := [zR 34 0, zI l1, zI 0, zU, zU, zU]) (S' := []) (σ' := σ) (Ps := []) (by decide +kernel) rfl trivial ?_
    exact Runs.fg (fgE (fgE (fgE (fgU (fgU (fgU fg0)))))) h
  · replace h := h.2 c
    refine r_blk [qO (.iconst 0), qO (.istore_n 3)] (pc' := 10) (L' := [zR 34 0, zI l1, zI l2, zI 0, zU, zU]) (S' := []) (σ' := σ) (Ps := []) (by decide +kernel) rfl trivial ?_
    exact Runs.fg (fgE (fgE (fgE (fgE (fgU (fgU fg0)))))) h
theorem gX11_findsFar_10 (l1 : Int) (l2 : Int) (l3 : Int) (σ : Hp) {Q : Option Int → Hp → Prop} (h : ((10 ≤ l3 → (-2147483648 ≤ l2 + 1 ∧ l2 + 1 ≤ 2147483647) ∧ Runs 3 mX11_findsFar 2 [zR 34 0, zI l1, zI (l2 + 1), zU, zU, zU] [] σ Q) ∧ (¬ 10 ≤ l3 → (-2147483648 ≤ 10 * l2 ∧ 10 * l2 ≤ 2147483647) ∧ (-2147483648 ≤ (10 * l2) + l3 ∧ (10 * l2) + l3 ≤ 2147483647) ∧ ((¬ l2 = l3 → (0 ≤ (10 * l2) + l3 ∧ (10 * l2) + l3 < 100) ∧ (-2147483648 ≤ l3 + 1 ∧ l3 + 1 ≤ 2147483647) ∧ Runs 3 mX11_findsFar 10 [zR 34 0, zI l1, zI l2, zI (l3 + 1), zU, zU] [] (zup σ 46 0 (((10 * l2) + l3).toNat) 1000000000) Q) ∧ (l2 = l3 → (0 ≤ (10 * l2) + l3 ∧ (10 * l2) + l3 < 100) ∧ (-2147483648 ≤ l3 + 1 ∧ l3 + 1 ≤ 2147483647) ∧ Runs 3 mX11_findsFar 10 [zR 34 0, zI l1, zI l2, zI (l3 + 1), zU, zU] [] (zup σ 46 0 (((10 * l2) + l3).toNat) 0) Q))))) : Runs 3 mX11_findsFar 10 [zR 34 0, zI l1, zI l2, zI l3, zU, zU] [] σ Q := by
  refine r_blk [qO (.iload_n 3), qO (.bipush 10)] (pc' := 13) (L' := [zR 34 0, zI l1, zI l2, zI l3, zU, zU]) (S' := [zI 10, zI l3]) (σ' := σ) (Ps := []) (by decide +kernel) rfl trivial ?_
  refine r_icmp_ge (off := 31) (tgt := 44) (by decide +kernel) (by decide) (fun c => ?_) (fun c => ?_)
  · replace h := h.1 c
    refine r_blk [qO (.iinc 2 1), qO (.goto (-45))] (pc' := 2) (L' := [zR 34 0, zI l1, zI (l2 + 1), zI l3, zU, zU]) (S' := []) (σ' := σ) (Ps := [-2147483648 ≤ l2 + 1 ∧ l2 + 1 ≤ 2147483647]) (by decide +kernel) rfl ⟨h.1, trivial⟩ ?_
    replace h := h.2
    exact Runs.fg (fgE (fgE (fgE (fgU (fgU (fgU fg0)))))) h
  · replace h := h.2 c
    refine r_blk [qO (.aload_n 0), qF (.getfield 44) 11 16, qO (.bipush 10), qO (.iload_n 2), qO .imul, qO (.iload_n 3), qO .iadd, qO (.iload_n 2), qO (.iload_n 3)] (pc' := 28) (L' := [zR 34 0, zI l1, zI l2, zI l3, zU, zU]) (S' := [zI l3, zI l2, zI ((10 * l2) + l3), zR 46 0]) (σ' := σ) (Ps := [-2147483648 ≤ 10 * l2 ∧ 10 * l2 ≤ 2147483647, -2147483648 ≤ (10 * l2) + l3 ∧ (10 * l2) + l3 ≤ 2147483647]) (by decide +kernel) rfl ⟨h.1, h.2.1, trivial⟩ ?_
    replace h := h.2.2
    refine r_icmp_ne (off := 7) (tgt := 35) (by decide +kernel) (by decide) (fun c => ?_) (fun c => ?_)
    · replace h := h.1 c
      refine r_blk [qC (.ldc 155) 1000000000, qO .iastore, qO (.iinc 3 1), qO (.goto (-31))] (pc' := 10) (L' := [zR 34 0, zI l1, zI l2, zI (l3 + 1), zU, zU]) (S' := []) (σ' := (zup σ 46 0 (((10 * l2) + l3).toNat) 1000000000)) (Ps := [0 ≤ (10 * l2) + l3 ∧ (10 * l2) + l3 < 100, -2147483648 ≤ l3 + 1 ∧ l3 + 1 ≤ 2147483647]) (by decide +kernel) rfl ⟨h.1, h.2.1, trivial⟩ ?_
      replace h := h.2.2
      exact Runs.fg (fgE (fgE (fgE (fgE (fgU (fgU fg0)))))) h
    · replace h := h.2 c
      refine r_blk [qO (.iconst 0), qO (.goto 5), qO .iastore, qO (.iinc 3 1), qO (.goto (-31))] (pc' := 10) (L' := [zR 34 0, zI l1, zI l2, zI (l3 + 1), zU, zU]) (S' := []) (σ' := (zup σ 46 0 (((10 * l2) + l3).toNat) 0)) (Ps := [0 ≤ (10 * l2) + l3 ∧ (10 * l2) + l3 < 100, -2147483648 ≤ l3 + 1 ∧ l3 + 1 ≤ 2147483647]) (by decide +kernel) rfl ⟨h.1, h.2.1, trivial⟩ ?_
      replace h := h.2.2
      exact Runs.fg (fgE (fgE (fgE (fgE (fgU (fgU fg0)))))) h
theorem gX11_findsFar_52 (l1 : Int) (l2 : Int) (σ : Hp) {Q : Option Int → Hp → Prop} (h : ((σ 36 0 1 ≤ l2 → Runs 3 mX11_findsFar 155 [zR 34 0, zU, zI 0, zU, zU, zU] [] σ Q) ∧ (¬ σ 36 0 1 ≤ l2 → Runs 3 mX11_findsFar 64 [zR 34 0, zI l1, zI l2, zI 0, zU, zU] [] σ Q))) : Runs 3 mX11_findsFar 52 [zR 34 0, zI l1, zI l2, zU, zU, zU] [] σ Q := by
  refine r_blk [qO (.iload_n 2), qO (.aload_n 0), qF (.getfield 13) 11 1, qO (.iconst 1), qO .iaload] (pc' := 59) (L' := [zR 34 0, zI l1, zI l2, zU, zU, zU]) (S' := [zI (σ 36 0 1), zI l2]) (σ' := σ) (Ps := [0 ≤ 1 ∧ 1 < 123]) (by decide +kernel) rfl ⟨(by decide), trivial⟩ ?_
  refine r_icmp_ge (off := 94) (tgt := 153) (by decide +kernel) (by decide) (fun c => ?_) (fun c => ?_)
  · replace h := h.1 c
    refine r_blk [qO (.iconst 0), qO (.istore_n 2)] (pc' := 155) (L' := [zR 34 0, zI l1, zI 0, zU, zU, zU]) (S' := []) (σ' := σ) (Ps := []) (by decide +kernel) rfl trivial ?_
    exact Runs.fg (fgE (fgU (fgE (fgU (fgU (fgU fg0)))))) h
  · replace h := h.2 c
    refine r_blk [qO (.iconst 0), qO (.istore_n 3)] (pc' := 64) (L' := [zR 34 0, zI l1, zI l2, zI 0, zU, zU]) (S' := []) (σ' := σ) (Ps := []) (by decide +kernel) rfl trivial ?_
    exact Runs.fg (fgE (fgE (fgE (fgE (fgU (fgU fg0)))))) h
theorem gX11_findsFar_64 (l1 : Int) (l2 : Int) (l3 : Int) (σ : Hp) {Q : Option Int → Hp → Prop} (h : ((2 ≤ l3 → (-2147483648 ≤ l2 + 1 ∧ l2 + 1 ≤ 2147483647) ∧ Runs 3 mX11_findsFar 52 [zR 34 0, zI l1, zI (l2 + 1), zU, zU, zU] [] σ Q) ∧ (¬ 2 ≤ l3 → (WF (σ 36 0)) ∧ (0 ≤ l2 ∧ l2 < σ 36 0 1) ∧ ((0 : Int) ≤ l1 ∧ l1 ≤ 1000000) ∧ ((wayS (σ 36 0) l2 l1 = 2 ∨ wayS (σ 36 0) l2 l1 = l3 → (0 ≤ l2 ∧ l2 < 14) ∧ ((0 : Int) ≤ l3 ∧ l3 < 5) ∧ (-2147483648 ≤ 10 * (sg (σ 36 0) l2 l3) ∧ 10 * (sg (σ 36 0) l2 l3) ≤ 2147483647) ∧ (-2147483648 ≤ 1 - l3 ∧ 1 - l3 ≤ 2147483647) ∧ (0 ≤ l2 ∧ l2 < 14) ∧ ((0 : Int) ≤ (1 - l3) ∧ (1 - l3) < 5) ∧ (-2147483648 ≤ (10 * (sg (σ 36 0) l2 l3)) + (sg (σ 36 0) l2 (1 - l3)) ∧ (10 * (sg (σ 36 0) l2 l3)) + (sg (σ 36 0) l2 (1 - l3)) ≤ 2147483647) ∧ (0 ≤ l2 ∧ l2 < 14) ∧ (0 ≤ (10 * (sg (σ 36 0) l2 l3)) + (sg (σ 36 0) l2 (1 - l3)) ∧ (10 * (sg (σ 36 0) l2 l3)) + (sg (σ 36 0) l2 (1 - l3)) < 100) ∧ ∀ z1 : Int, z1 = σ 46 0 (((10 * (sg (σ 36 0) l2 l3)) + (sg (σ 36 0) l2 (1 - l3))).toNat) → ((z1 ≤ sg (σ 36 0) l2 2 → (0 ≤ (10 * (sg (σ 36 0) l2 l3)) + (sg (σ 36 0) l2 (1 - l3)) ∧ (10 * (sg (σ 36 0) l2 l3)) + (sg (σ 36 0) l2 (1 - l3)) < 100) ∧ (0 ≤ (10 * (sg (σ 36 0) l2 l3)) + (sg (σ 36 0) l2 (1 - l3)) ∧ (10 * (sg (σ 36 0) l2 l3)) + (sg (σ 36 0) l2 (1 - l3)) < 100) ∧ (-2147483648 ≤ l3 + 1 ∧ l3 + 1 ≤ 2147483647) ∧ ∀ σ2 : Hp, σ2 = (zup σ 46 0 (((10 * (sg (σ 36 0) l2 l3)) + (sg (σ 36 0) l2 (1 - l3))).toNat) (σ 46 0 (((10 * (sg (σ 36 0) l2 l3)) + (sg (σ 36 0) l2 (1 - l3))).toNat))) → Runs 3 mX11_findsFar 64 [zR 34 0, zI l1, zI l2, zI (l3 + 1), zU, zU] [] σ2 Q) ∧ (¬ z1 ≤ sg (σ 36 0) l2 2 → (0 ≤ l2 ∧ l2 < 14) ∧ (0 ≤ (10 * (sg (σ 36 0) l2 l3)) + (sg (σ 36 0) l2 (1 - l3)) ∧ (10 * (sg (σ 36 0) l2 l3)) + (sg (σ 36 0) l2 (1 - l3)) < 100) ∧ (-2147483648 ≤ l3 + 1 ∧ l3 + 1 ≤ 2147483647) ∧ ∀ σ3 : Hp, σ3 = (zup σ 46 0 (((10 * (sg (σ 36 0) l2 l3)) + (sg (σ 36 0) l2 (1 - l3))).toNat) (sg (σ 36 0) l2 2)) → Runs 3 mX11_findsFar 64 [zR 34 0, zI l1, zI l2, zI (l3 + 1), zU, zU] [] σ3 Q))) ∧ (¬ (wayS (σ 36 0) l2 l1 = 2 ∨ wayS (σ 36 0) l2 l1 = l3) → (-2147483648 ≤ l3 + 1 ∧ l3 + 1 ≤ 2147483647) ∧ Runs 3 mX11_findsFar 64 [zR 34 0, zI l1, zI l2, zI (l3 + 1), zU, zU] [] σ Q))))) : Runs 3 mX11_findsFar 64 [zR 34 0, zI l1, zI l2, zI l3, zU, zU] [] σ Q := by
  refine r_blk [qO (.iload_n 3), qO (.iconst 2)] (pc' := 66) (L' := [zR 34 0, zI l1, zI l2, zI l3, zU, zU]) (S' := [zI 2, zI l3]) (σ' := σ) (Ps := []) (by decide +kernel) rfl trivial ?_
  refine r_icmp_ge (off := 81) (tgt := 147) (by decide +kernel) (by decide) (fun c => ?_) (fun c => ?_)
  · replace h := h.1 c
    refine r_blk [qO (.iinc 2 1), qO (.goto (-98))] (pc' := 52) (L' := [zR 34 0, zI l1, zI (l2 + 1), zI l3, zU, zU]) (S' := []) (σ' := σ) (Ps := [-2147483648 ≤ l2 + 1 ∧ l2 + 1 ≤ 2147483647]) (by decide +kernel) rfl ⟨h.1, trivial⟩ ?_
    replace h := h.2
    exact Runs.fg (fgE (fgE (fgE (fgU (fgU (fgU fg0)))))) h
  · replace h := h.2 c
    refine r_blk [qO (.aload_n 0), qO (.iload_n 2), qO (.iload_n 3), qO (.iload_n 1)] (pc' := 73) (L' := [zR 34 0, zI l1, zI l2, zI l3, zU, zU]) (S' := [zI l1, zI l3, zI l2, zR 34 0]) (σ' := σ) (Ps := []) (by decide +kernel) rfl trivial ?_
    refine r_callVI (As := [zI l2, zI l3, zI l1]) (S := []) (Lc := [zR 34 0, zI l2, zI l3, zI l1, zU]) (d' := 2) (n := 3) (g := 34) (x := 0) (ci := 11) kX11_goesFrom vX11_goesFrom lkX11_129 (by decide +kernel) (by decide) rfl rfl (by decide) rfl rfl (Nat.le_of_ble_eq_true rfl) rfl rfl (Nat.le_of_ble_eq_true rfl) (pX11_goesFrom h.1 h.2.1 h.2.2.1 (fun c => ?_) (fun c => ?_))
    all_goals replace h := h.2.2.2
    · replace h := h.1 c
      refine r_if_ne (off := 6) (tgt := 82) (by decide +kernel) (by decide) (fun c => ?_) (fun c => ?_)
      · refine r_blk [qO (.bipush 10), qO (.aload_n 0), qO (.iload_n 2), qO (.iload_n 3)] (pc' := 87) (L' := [zR 34 0, zI l1, zI l2, zI l3, zU, zU]) (S' := [zI l3, zI l2, zR 34 0, zI 10]) (σ' := σ) (Ps := []) (by decide +kernel) rfl trivial ?_
        refine r_callVI (As := [zI l2, zI l3]) (S := [zI 10]) (Lc := [zR 34 0, zI l2, zI l3]) (d' := 0) (n := 2) (g := 34) (x := 0) (ci := 11) kX11_get vX11_get lkX11_106 (by decide +kernel) (by decide) rfl rfl (by decide) rfl rfl (Nat.le_of_ble_eq_true rfl) rfl rfl (Nat.le_of_ble_eq_true rfl) (pX11_get h.1 h.2.1 ?_)
        replace h := h.2.2
        refine r_blk [qO .imul, qO (.aload_n 0), qO (.iload_n 2), qO (.iconst 1), qO (.iload_n 3), qO .isub] (pc' := 96) (L' := [zR 34 0, zI l1, zI l2, zI l3, zU, zU]) (S' := [zI (1 - l3), zI l2, zR 34 0, zI (10 * (sg (σ 36 0) l2 l3))]) (σ' := σ) (Ps := [-2147483648 ≤ 10 * (sg (σ 36 0) l2 l3) ∧ 10 * (sg (σ 36 0) l2 l3) ≤ 2147483647, -2147483648 ≤ 1 - l3 ∧ 1 - l3 ≤ 2147483647]) (by decide +kernel) rfl ⟨h.1, h.2.1, trivial⟩ ?_
        replace h := h.2.2
        refine r_callVI (As := [zI l2, zI (1 - l3)]) (S := [zI (10 * (sg (σ 36 0) l2 l3))]) (Lc := [zR 34 0, zI l2, zI (1 - l3)]) (d' := 0) (n := 2) (g := 34) (x := 0) (ci := 11) kX11_get vX11_get lkX11_106 (by decide +kernel) (by decide) rfl rfl (by decide) rfl rfl (Nat.le_of_ble_eq_true rfl) rfl rfl (Nat.le_of_ble_eq_true rfl) (pX11_get h.1 h.2.1 ?_)
        replace h := h.2.2
        refine r_blk [qO .iadd, qO (.istore 4), qO (.aload_n 0), qF (.getfield 44) 11 16, qO (.iload 4), qO (.aload_n 0), qO (.iload_n 2), qO (.iconst 2)] (pc' := 111) (L' := [zR 34 0, zI l1, zI l2, zI l3, zI ((10 * (sg (σ 36 0) l2 l3)) + (sg (σ 36 0) l2 (1 - l3))), zU]) (S' := [zI 2, zI l2, zR 34 0, zI ((10 * (sg (σ 36 0) l2 l3)) + (sg (σ 36 0) l2 (1 - l3))), zR 46 0]) (σ' := σ) (Ps := [-2147483648 ≤ (10 * (sg (σ 36 0) l2 l3)) + (sg (σ 36 0) l2 (1 - l3)) ∧ (10 * (sg (σ 36 0) l2 l3)) + (sg (σ 36 0) l2 (1 - l3)) ≤ 2147483647]) (by decide +kernel) rfl ⟨h.1, trivial⟩ ?_
        replace h := h.2
        refine r_callVI (As := [zI l2, zI 2]) (S := [zI ((10 * (sg (σ 36 0) l2 l3)) + (sg (σ 36 0) l2 (1 - l3))), zR 46 0]) (Lc := [zR 34 0, zI l2, zI 2]) (d' := 0) (n := 2) (g := 34) (x := 0) (ci := 11) kX11_get vX11_get lkX11_106 (by decide +kernel) (by decide) rfl rfl (by decide) rfl rfl (Nat.le_of_ble_eq_true rfl) rfl rfl (Nat.le_of_ble_eq_true rfl) (pX11_get h.1 (by decide) ?_)
        replace h := h.2
        refine r_blk [qO (.aload_n 0), qF (.getfield 44) 11 16, qO (.iload 4), qO .iaload] (pc' := 121) (L' := [zR 34 0, zI l1, zI l2, zI l3, zI ((10 * (sg (σ 36 0) l2 l3)) + (sg (σ 36 0) l2 (1 - l3))), zU]) (S' := [zI (σ 46 0 (((10 * (sg (σ 36 0) l2 l3)) + (sg (σ 36 0) l2 (1 - l3))).toNat)), zI (sg (σ 36 0) l2 2), zI ((10 * (sg (σ 36 0) l2 l3)) + (sg (σ 36 0) l2 (1 - l3))), zR 46 0]) (σ' := σ) (Ps := [0 ≤ (10 * (sg (σ 36 0) l2 l3)) + (sg (σ 36 0) l2 (1 - l3)) ∧ (10 * (sg (σ 36 0) l2 l3)) + (sg (σ 36 0) l2 (1 - l3)) < 100]) (by decide +kernel) rfl ⟨h.1, trivial⟩ ?_
        replace h := h.2
        generalize hz1 : σ 46 0 (((10 * (sg (σ 36 0) l2 l3)) + (sg (σ 36 0) l2 (1 - l3))).toNat) = z1
        replace h := h z1 hz1.symm
        refine r_icmp_ge (off := 12) (tgt := 133) (by decide +kernel) (by decide) (fun c => ?_) (fun c => ?_)
        · replace h := h.1 c
          refine r_blk [qO (.aload_n 0), qF (.getfield 44) 11 16, qO (.iload 4), qO .iaload, qO .iastore, qO (.iinc 3 1), qO (.goto (-80))] (pc' := 64) (L' := [zR 34 0, zI l1, zI l2, zI (l3 + 1), zI ((10 * (sg (σ 36 0) l2 l3)) + (sg (σ 36 0) l2 (1 - l3))), zU]) (S' := []) (σ' := (zup σ 46 0 (((10 * (sg (σ 36 0) l2 l3)) + (sg (σ 36 0) l2 (1 - l3))).toNat) (σ 46 0 (((10 * (sg (σ 36 0) l2 l3)) + (sg (σ 36 0) l2 (1 - l3))).toNat)))) (Ps := [0 ≤ (10 * (sg (σ 36 0) l2 l3)) + (sg (σ 36 0) l2 (1 - l3)) ∧ (10 * (sg (σ 36 0) l2 l3)) + (sg (σ 36 0) l2 (1 - l3)) < 100, 0 ≤ (10 * (sg (σ 36 0) l2 l3)) + (sg (σ 36 0) l2 (1 - l3)) ∧ (10 * (sg (σ 36 0) l2 l3)) + (sg (σ 36 0) l2 (1 - l3)) < 100, -2147483648 ≤ l3 + 1 ∧ l3 + 1 ≤ 2147483647]) (by decide +kernel) rfl ⟨h.1, h.2.1, h.2.2.1, trivial⟩ ?_
          replace h := h.2.2.2
          generalize hσ2 : (zup σ 46 0 (((10 * (sg (σ 36 0) l2 l3)) + (sg (σ 36 0) l2 (1 - l3))).toNat) (σ 46 0 (((10 * (sg (σ 36 0) l2 l3)) + (sg (σ 36 0) l2 (1 - l3))).toNat))) = σ2
          replace h := h σ2 hσ2.symm
          exact Runs.fg (fgE (fgE (fgE (fgE (fgU (fgU fg0)))))) h
        · replace h := h.2 c
          refine r_blk [qO (.aload_n 0), qO (.iload_n 2), qO (.iconst 2)] (pc' := 127) (L' := [zR 34 0, zI l1, zI l2, zI l3, zI ((10 * (sg (σ 36 0) l2 l3)) + (sg (σ 36 0) l2 (1 - l3))), zU]) (S' := [zI 2, zI l2, zR 34 0, zI ((10 * (sg (σ 36 0) l2 l3)) + (sg (σ 36 0) l2 (1 - l3))), zR 46 0]) (σ' := σ) (Ps := []) (by decide +kernel) rfl trivial ?_
          refine r_callVI (As := [zI l2, zI 2]) (S := [zI ((10 * (sg (σ 36 0) l2 l3)) + (sg (σ 36 0) l2 (1 - l3))), zR 46 0]) (Lc := [zR 34 0, zI l2, zI 2]) (d' := 0) (n := 2) (g := 34) (x := 0) (ci := 11) kX11_get vX11_get lkX11_106 (by decide +kernel) (by decide) rfl rfl (by decide) rfl rfl (Nat.le_of_ble_eq_true rfl) rfl rfl (Nat.le_of_ble_eq_true rfl) (pX11_get h.1 (by decide) ?_)
          replace h := h.2
          refine r_blk [qO (.goto 10), qO .iastore, qO (.iinc 3 1), qO (.goto (-80))] (pc' := 64) (L' := [zR 34 0, zI l1, zI l2, zI (l3 + 1), zI ((10 * (sg (σ 36 0) l2 l3)) + (sg (σ 36 0) l2 (1 - l3))), zU]) (S' := []) (σ' := (zup σ 46 0 (((10 * (sg (σ 36 0) l2 l3)) + (sg (σ 36 0) l2 (1 - l3))).toNat) (sg (σ 36 0) l2 2))) (Ps := [0 ≤ (10 * (sg (σ 36 0) l2 l3)) + (sg (σ 36 0) l2 (1 - l3)) ∧ (10 * (sg (σ 36 0) l2 l3)) + (sg (σ 36 0) l2 (1 - l3)) < 100, -2147483648 ≤ l3 + 1 ∧ l3 + 1 ≤ 2147483647]) (by decide +kernel) rfl ⟨h.1, h.2.1, trivial⟩ ?_
          replace h := h.2.2
          generalize hσ3 : (zup σ 46 0 (((10 * (sg (σ 36 0) l2 l3)) + (sg (σ 36 0) l2 (1 - l3))).toNat) (sg (σ 36 0) l2 2)) = σ3
          replace h := h σ3 hσ3.symm
          exact Runs.fg (fgE (fgE (fgE (fgE (fgU (fgU fg0)))))) h
      · exact absurd c (by decide)
    · replace h := h.2 c
      refine r_if_ne (off := 6) (tgt := 82) (by decide +kernel) (by decide) (fun c => ?_) (fun c => ?_)
      · exact absurd c (by decide)
      · refine r_blk [qO (.goto 62), qO (.iinc 3 1), qO (.goto (-80))] (pc' := 64) (L' := [zR 34 0, zI l1, zI l2, zI (l3 + 1), zU, zU]) (S' := []) (σ' := σ) (Ps := [-2147483648 ≤ l3 + 1 ∧ l3 + 1 ≤ 2147483647]) (by decide +kernel) rfl ⟨h.1, trivial⟩ ?_
        replace h := h.2
        exact Runs.fg (fgE (fgE (fgE (fgE (fgU (fgU fg0)))))) h
theorem gX11_findsFar_155 (l2 : Int) (σ : Hp) {Q : Option Int → Hp → Prop} (h : ((10 ≤ l2 → Q none σ) ∧ (¬ 10 ≤ l2 → Runs 3 mX11_findsFar 163 [zR 34 0, zU, zI l2, zI 0, zU, zU] [] σ Q))) : Runs 3 mX11_findsFar 155 [zR 34 0, zU, zI l2, zU, zU, zU] [] σ Q := by
  refine r_blk [qO (.iload_n 2), qO (.bipush 10)] (pc' := 158) (L' := [zR 34 0, zU, zI l2, zU, zU, zU]) (S' := [zI 10, zI l2]) (σ' := σ) (Ps := []) (by decide +kernel) rfl trivial ?_
  refine r_icmp_ge (off := 149) (tgt := 307) (by decide +kernel) (by decide) (fun c => ?_) (fun c => ?_)
  · replace h := h.1 c
    exact r_retv (by decide +kernel) rfl h
  · replace h := h.2 c
    refine r_blk [qO (.iconst 0), qO (.istore_n 3)] (pc' := 163) (L' := [zR 34 0, zU, zI l2, zI 0, zU, zU]) (S' := []) (σ' := σ) (Ps := []) (by decide +kernel) rfl trivial ?_
    exact Runs.fg (fgE (fgU (fgE (fgE (fgU (fgU fg0)))))) h
theorem gX11_findsFar_163 (l2 : Int) (l3 : Int) (σ : Hp) {Q : Option Int → Hp → Prop} (h : ((10 ≤ l3 → (-2147483648 ≤ l2 + 1 ∧ l2 + 1 ≤ 2147483647) ∧ Runs 3 mX11_findsFar 155 [zR 34 0, zU, zI (l2 + 1), zU, zU, zU] [] σ Q) ∧ (¬ 10 ≤ l3 → Runs 3 mX11_findsFar 172 [zR 34 0, zU, zI l2, zI l3, zI 0, zU] [] σ Q))) : Runs 3 mX11_findsFar 163 [zR 34 0, zU, zI l2, zI l3, zU, zU] [] σ Q := by
  refine r_blk [qO (.iload_n 3), qO (.bipush 10)] (pc' := 166) (L' := [zR 34 0, zU, zI l2, zI l3, zU, zU]) (S' := [zI 10, zI l3]) (σ' := σ) (Ps := []) (by decide +kernel) rfl trivial ?_
  refine r_icmp_ge (off := 135) (tgt := 301) (by decide +kernel) (by decide) (fun c => ?_) (fun c => ?_)
  · replace h := h.1 c
    refine r_blk [qO (.iinc 2 1), qO (.goto (-149))] (pc' := 155) (L' := [zR 34 0, zU, zI (l2 + 1), zI l3, zU, zU]) (S' := []) (σ' := σ) (Ps := [-2147483648 ≤ l2 + 1 ∧ l2 + 1 ≤ 2147483647]) (by decide +kernel) rfl ⟨h.1, trivial⟩ ?_
    replace h := h.2
    exact Runs.fg (fgE (fgU (fgE (fgU (fgU (fgU fg0)))))) h
  · replace h := h.2 c
    refine r_blk [qO (.iconst 0), qO (.istore 4)] (pc' := 172) (L' := [zR 34 0, zU, zI l2, zI l3, zI 0, zU]) (S' := []) (σ' := σ) (Ps := []) (by decide +kernel) rfl trivial ?_
    exact Runs.fg (fgE (fgU (fgE (fgE (fgE (fgU fg0)))))) h
theorem gX11_findsFar_172 (l2 : Int) (l3 : Int) (l4 : Int) (σ : Hp) {Q : Option Int → Hp → Prop} (h : ((10 ≤ l4 → (-2147483648 ≤ l3 + 1 ∧ l3 + 1 ≤ 2147483647) ∧ Runs 3 mX11_findsFar 163 [zR 34 0, zU, zI l2, zI (l3 + 1), zU, zU] [] σ Q) ∧ (¬ 10 ≤ l4 → (-2147483648 ≤ 10 * l3 ∧ 10 * l3 ≤ 2147483647) ∧ (-2147483648 ≤ (10 * l3) + l2 ∧ (10 * l3) + l2 ≤ 2147483647) ∧ (0 ≤ (10 * l3) + l2 ∧ (10 * l3) + l2 < 100) ∧ ((1000000000 ≤ σ 46 0 (((10 * l3) + l2).toNat) → Runs 3 mX11_findsFar 212 [zR 34 0, zU, zI l2, zI l3, zI l4, zU] [] σ Q) ∧ (¬ 1000000000 ≤ σ 46 0 (((10 * l3) + l2).toNat) → (-2147483648 ≤ 10 * l2 ∧ 10 * l2 ≤ 2147483647) ∧ (-2147483648 ≤ (10 * l2) + l4 ∧ (10 * l2) + l4 ≤ 2147483647) ∧ (0 ≤ (10 * l2) + l4 ∧ (10 * l2) + l4 < 100) ∧ ((σ 46 0 (((10 * l2) + l4).toNat) < 1000000000 → (-2147483648 ≤ 10 * l3 ∧ 10 * l3 ≤ 2147483647) ∧ (-2147483648 ≤ (10 * l3) + l2 ∧ (10 * l3) + l2 ≤ 2147483647) ∧ (0 ≤ (10 * l3) + l2 ∧ (10 * l3) + l2 < 100) ∧ (-2147483648 ≤ 10 * l2 ∧ 10 * l2 ≤ 2147483647) ∧ (-2147483648 ≤ (10 * l2) + l4 ∧ (10 * l2) + l4 ≤ 2147483647) ∧ (0 ≤ (10 * l2) + l4 ∧ (10 * l2) + l4 < 100) ∧ (-2147483648 ≤ (σ 46 0 (((10 * l3) + l2).toNat)) + (σ 46 0 (((10 * l2) + l4).toNat)) ∧ (σ 46 0 (((10 * l3) + l2).toNat)) + (σ 46 0 (((10 * l2) + l4).toNat)) ≤ 2147483647) ∧ (-2147483648 ≤ 10 * l3 ∧ 10 * l3 ≤ 2147483647) ∧ (-2147483648 ≤ (10 * l3) + l4 ∧ (10 * l3) + l4 ≤ 2147483647) ∧ (-2147483648 ≤ 10 * l3 ∧ 10 * l3 ≤ 2147483647) ∧ (-2147483648 ≤ (10 * l3) + l4 ∧ (10 * l3) + l4 ≤ 2147483647) ∧ (0 ≤ (10 * l3) + l4 ∧ (10 * l3) + l4 < 100) ∧ ((σ 46 0 (((10 * l3) + l4).toNat) ≤ (σ 46 0 (((10 * l3) + l2).toNat)) + (σ 46 0 (((10 * l2) + l4).toNat)) → (-2147483648 ≤ 10 * l3 ∧ 10 * l3 ≤ 2147483647) ∧ (-2147483648 ≤ (10 * l3) + l4 ∧ (10 * l3) + l4 ≤ 2147483647) ∧ (0 ≤ (10 * l3) + l4 ∧ (10 * l3) + l4 < 100) ∧ (0 ≤ (10 * l3) + l4 ∧ (10 * l3) + l4 < 100) ∧ (-2147483648 ≤ l4 + 1 ∧ l4 + 1 ≤ 2147483647) ∧ ∀ σ1 : Hp, σ1 = (zup σ 46 0 (((10 * l3) + l4).toNat) (σ 46 0 (((10 * l3) + l4).toNat))) → Runs 3 mX11_findsFar 172 [zR 34 0, zU, zI l2, zI l3, zI (l4 + 1), zU] [] σ1 Q) ∧ (¬ σ 46 0 (((10 * l3) + l4).toNat) ≤ (σ 46 0 (((10 * l3) + l2).toNat)) + (σ 46 0 (((10 * l2) + l4).toNat)) → (0 ≤ (10 * l3) + l4 ∧ (10 * l3) + l4 < 100) ∧ (-2147483648 ≤ l4 + 1 ∧ l4 + 1 ≤ 2147483647) ∧ ∀ σ2 : Hp, σ2 = (zup σ 46 0 (((10 * l3) + l4).toNat) ((σ 46 0 (((10 * l3) + l2).toNat)) + (σ 46 0 (((10 * l2) + l4).toNat)))) → Runs 3 mX11_findsFar 172 [zR 34 0, zU, zI l2, zI l3, zI (l4 + 1), zU] [] σ2 Q))) ∧ (¬ σ 46 0 (((10 * l2) + l4).toNat) < 1000000000 → Runs 3 mX11_findsFar 212 [zR 34 0, zU, zI l2, zI l3, zI l4, zU] [] σ Q))))))) : Runs 3 mX11_findsFar 172 [zR 34 0, zU, zI l2, zI l3, zI l4, zU] [] σ Q := by
  refine r_blk [qO (.iload 4), qO (.bipush 10)] (pc' := 176) (L' := [zR 34 0, zU, zI l2, zI l3, zI l4, zU]) (S' := [zI 10, zI l4]) (σ' := σ) (Ps := []) (by decide +kernel) rfl trivial ?_
  refine r_icmp_ge (off := 119) (tgt := 295) (by decide +kernel) (by decide) (fun c => ?_) (fun c => ?_)
  · replace h := h.1 c
    refine r_blk [qO (.iinc 3 1), qO (.goto (-135))] (pc' := 163) (L' := [zR 34 0, zU, zI l2, zI (l3 + 1), zI l4, zU]) (S' := []) (σ' := σ) (Ps := [-2147483648 ≤ l3 + 1 ∧ l3 + 1 ≤ 2147483647]) (by decide +kernel) rfl ⟨h.1, trivial⟩ ?_
    replace h := h.2
    exact Runs.fg (fgE (fgU (fgE (fgE (fgU (fgU fg0)))))) h
  · replace h := h.2 c
    refine r_blk [qO (.aload_n 0), qF (.getfield 44) 11 16, qO (.bipush 10), qO (.iload_n 3), qO .imul, qO (.iload_n 2), qO .iadd, qO .iaload, qC (.ldc 155) 1000000000] (pc' := 192) (L' := [zR 34 0, zU, zI l2, zI l3, zI l4, zU]) (S' := [zI 1000000000, zI (σ 46 0 (((10 * l3) + l2).toNat))]) (σ' := σ) (Ps := [-2147483648 ≤ 10 * l3 ∧ 10 * l3 ≤ 2147483647, -2147483648 ≤ (10 * l3) + l2 ∧ (10 * l3) + l2 ≤ 2147483647, 0 ≤ (10 * l3) + l2 ∧ (10 * l3) + l2 < 100]) (by decide +kernel) rfl ⟨h.1, h.2.1, h.2.2.1, trivial⟩ ?_
    replace h := h.2.2.2
    refine r_icmp_ge (off := 20) (tgt := 212) (by decide +kernel) (by decide) (fun c => ?_) (fun c => ?_)
    · replace h := h.1 c
      exact Runs.fg (fgE (fgU (fgE (fgE (fgE (fgU fg0)))))) h
    · replace h := h.2 c
      refine r_blk [qO (.aload_n 0), qF (.getfield 44) 11 16, qO (.bipush 10), qO (.iload_n 2), qO .imul, qO (.iload 4), qO .iadd, qO .iaload, qC (.ldc 155) 1000000000] (pc' := 209) (L' := [zR 34 0, zU, zI l2, zI l3, zI l4, zU]) (S' := [zI 1000000000, zI (σ 46 0 (((10 * l2) + l4).toNat))]) (σ' := σ) (Ps := [-2147483648 ≤ 10 * l2 ∧ 10 * l2 ≤ 2147483647, -2147483648 ≤ (10 * l2) + l4 ∧ (10 * l2) + l4 ≤ 2147483647, 0 ≤ (10 * l2) + l4 ∧ (10 * l2) + l4 < 100]) (by decide +kernel) rfl ⟨h.1, h.2.1, h.2.2.1, trivial⟩ ?_
      replace h := h.2.2.2
      refine r_icmp_lt (off := 8) (tgt := 217) (by decide +kernel) (by decide) (fun c => ?_) (fun c => ?_)
      · replace h := h.1 c
        refine r_blk [qO (.aload_n 0), qF (.getfield 44) 11 16, qO (.bipush 10), qO (.iload_n 3), qO .imul, qO (.iload_n 2), qO .iadd, qO .iaload, qO (.aload_n 0), qF (.getfield 44) 11 16, qO (.bipush 10), qO (.iload_n 2), qO .imul, qO (.iload 4), qO .iadd, qO .iaload, qO .iadd, qO (.istore 5), qO (.aload_n 0), qF (.getfield 44) 11 16, qO (.bipush 10), qO (.iload_n 3), qO .imul, qO (.iload 4), qO .iadd, qO (.iload 5), qO (.aload_n 0), qF (.getfield 44) 11 16, qO (.bipush 10), qO (.iload_n 3), qO .imul, qO (.iload 4), qO .iadd, qO .iaload] (pc' := 268) (L' := [zR 34 0, zU, zI l2, zI l3, zI l4, zI ((σ 46 0 (((10 * l3) + l2).toNat)) + (σ 46 0 (((10 * l2) + l4).toNat)))]) (S' := [zI (σ 46 0 (((10 * l3) + l4).toNat)), zI ((σ 46 0 (((10 * l3) + l2).toNat)) + (σ 46 0 (((10 * l2) + l4).toNat))), zI ((10 * l3) + l4), zR 46 0]) (σ' := σ) (Ps := [-2147483648 ≤ 10 * l3 ∧ 10 * l3 ≤ 2147483647, -2147483648 ≤ (10 * l3) + l2 ∧ (10 * l3) + l2 ≤ 2147483647, 0 ≤ (10 * l3) + l2 ∧ (10 * l3) + l2 < 100, -2147483648 ≤ 10 * l2 ∧ 10 * l2 ≤ 2147483647, -2147483648 ≤ (10 * l2) + l4 ∧ (10 * l2) + l4 ≤ 2147483647, 0 ≤ (10 * l2) + l4 ∧ (10 * l2) + l4 < 100, -2147483648 ≤ (σ 46 0 (((10 * l3) + l2).toNat)) + (σ 46 0 (((10 * l2) + l4).toNat)) ∧ (σ 46 0 (((10 * l3) + l2).toNat)) + (σ 46 0 (((10 * l2) + l4).toNat)) ≤ 2147483647, -2147483648 ≤ 10 * l3 ∧ 10 * l3 ≤ 2147483647, -2147483648 ≤ (10 * l3) + l4 ∧ (10 * l3) + l4 ≤ 2147483647, -2147483648 ≤ 10 * l3 ∧ 10 * l3 ≤ 2147483647, -2147483648 ≤ (10 * l3) + l4 ∧ (10 * l3) + l4 ≤ 2147483647, 0 ≤ (10 * l3) + l4 ∧ (10 * l3) + l4 < 100]) (by decide +kernel) rfl ⟨h.1, h.2.1, h.2.2.1, h.2.2.2.1, h.2.2.2.2.1, h.2.2.2.2.2.1, h.2.2.2.2.2.2.1, h.2.2.2.2.2.2.2.1, h.2.2.2.2.2.2.2.2.1, h.2.2.2.2.2.2.2.2.2.1, h.2.2.2.2.2.2.2.2.2.2.1, h.2.2.2.2.2.2.2.2.2.2.2.1, trivial⟩ ?_
        replace h := h.2.2.2.2.2.2.2.2.2.2.2.2
        refine r_icmp_ge (off := 8) (tgt := 276) (by decide +kernel) (by decide) (fun c => ?_) (fun c => ?_)
        · replace h := h.1 c
          refine r_blk [qO (.aload_n 0), qF (.getfield 44) 11 16, qO (.bipush 10), qO (.iload_n 3), qO .imul, qO (.iload 4), qO .iadd, qO .iaload, qO .iastore, qO (.iinc 4 1), qO (.goto (-120))] (pc' := 172) (L' := [zR 34 0, zU, zI l2, zI l3, zI (l4 + 1), zI ((σ 46 0 (((10 * l3) + l2).toNat)) + (σ 46 0 (((10 * l2) + l4).toNat)))]) (S' := []) (σ' := (zup σ 46 0 (((10 * l3) + l4).toNat) (σ 46 0 (((10 * l3) + l4).toNat)))) (Ps := [-2147483648 ≤ 10 * l3 ∧ 10 * l3 ≤ 2147483647, -2147483648 ≤ (10 * l3) + l4 ∧ (10 * l3) + l4 ≤ 2147483647, 0 ≤ (10 * l3) + l4 ∧ (10 * l3) + l4 < 100, 0 ≤ (10 * l3) + l4 ∧ (10 * l3) + l4 < 100, -2147483648 ≤ l4 + 1 ∧ l4 + 1 ≤ 2147483647]) (by decide +kernel) rfl ⟨h.1, h.2.1, h.2.2.1, h.2.2.2.1, h.2.2.2.2.1, trivial⟩ ?_
          replace h := h.2.2.2.2.2
          generalize hσ1 : (zup σ 46 0 (((10 * l3) + l4).toNat) (σ 46 0 (((10 * l3) + l4).toNat))) = σ1
          replace h := h σ1 hσ1.symm
          exact Runs.fg (fgE (fgU (fgE (fgE (fgE (fgU fg0)))))) h
        · replace h := h.2 c
          refine r_blk [qO (.iload 5), qO (.goto 15), qO .iastore, qO (.iinc 4 1), qO (.goto (-120))] (pc' := 172) (L' := [zR 34 0, zU, zI l2, zI l3, zI (l4 + 1), zI ((σ 46 0 (((10 * l3) + l2).toNat)) + (σ 46 0 (((10 * l2) + l4).toNat)))]) (S' := []) (σ' := (zup σ 46 0 (((10 * l3) + l4).toNat) ((σ 46 0 (((10 * l3) + l2).toNat)) + (σ 46 0 (((10 * l2) + l4).toNat))))) (Ps := [0 ≤ (10 * l3) + l4 ∧ (10 * l3) + l4 < 100, -2147483648 ≤ l4 + 1 ∧ l4 + 1 ≤ 2147483647]) (by decide +kernel) rfl ⟨h.1, h.2.1, trivial⟩ ?_
          replace h := h.2.2
          generalize hσ2 : (zup σ 46 0 (((10 * l3) + l4).toNat) ((σ 46 0 (((10 * l3) + l2).toNat)) + (σ 46 0 (((10 * l2) + l4).toNat)))) = σ2
          replace h := h σ2 hσ2.symm
          exact Runs.fg (fgE (fgU (fgE (fgE (fgE (fgU fg0)))))) h
      · replace h := h.2 c
        exact Runs.fg (fgE (fgU (fgE (fgE (fgE (fgU fg0)))))) h
theorem gX11_findsFar_212 (l2 : Int) (l3 : Int) (l4 : Int) (σ : Hp) {Q : Option Int → Hp → Prop} (h : (-2147483648 ≤ 10 * l3 ∧ 10 * l3 ≤ 2147483647) ∧ (-2147483648 ≤ (10 * l3) + l4 ∧ (10 * l3) + l4 ≤ 2147483647) ∧ (-2147483648 ≤ 10 * l3 ∧ 10 * l3 ≤ 2147483647) ∧ (-2147483648 ≤ (10 * l3) + l4 ∧ (10 * l3) + l4 ≤ 2147483647) ∧ (0 ≤ (10 * l3) + l4 ∧ (10 * l3) + l4 < 100) ∧ ((σ 46 0 (((10 * l3) + l4).toNat) ≤ 1000000000 → (-2147483648 ≤ 10 * l3 ∧ 10 * l3 ≤ 2147483647) ∧ (-2147483648 ≤ (10 * l3) + l4 ∧ (10 * l3) + l4 ≤ 2147483647) ∧ (0 ≤ (10 * l3) + l4 ∧ (10 * l3) + l4 < 100) ∧ (0 ≤ (10 * l3) + l4 ∧ (10 * l3) + l4 < 100) ∧ (-2147483648 ≤ l4 + 1 ∧ l4 + 1 ≤ 2147483647) ∧ ∀ σ1 : Hp, σ1 = (zup σ 46 0 (((10 * l3) + l4).toNat) (σ 46 0 (((10 * l3) + l4).toNat))) → Runs 3 mX11_findsFar 172 [zR 34 0, zU, zI l2, zI l3, zI (l4 + 1), zU] [] σ1 Q) ∧ (¬ σ 46 0 (((10 * l3) + l4).toNat) ≤ 1000000000 → (0 ≤ (10 * l3) + l4 ∧ (10 * l3) + l4 < 100) ∧ (-2147483648 ≤ l4 + 1 ∧ l4 + 1 ≤ 2147483647) ∧ Runs 3 mX11_findsFar 172 [zR 34 0, zU, zI l2, zI l3, zI (l4 + 1), zU] [] (zup σ 46 0 (((10 * l3) + l4).toNat) 1000000000) Q))) : Runs 3 mX11_findsFar 212 [zR 34 0, zU, zI l2, zI l3, zI l4, zU] [] σ Q := by
  refine r_blk [qC (.ldc 155) 1000000000, qO (.goto 27), qO (.istore 5), qO (.aload_n 0), qF (.getfield 44) 11 16, qO (.bipush 10), qO (.iload_n 3), qO .imul, qO (.iload 4), qO .iadd, qO (.iload 5), qO (.aload_n 0), qF (.getfield 44) 11 16, qO (.bipush 10), qO (.iload_n 3), qO .imul, qO (.iload 4), qO .iadd, qO .iaload] (pc' := 268) (L' := [zR 34 0, zU, zI l2, zI l3, zI l4, zI 1000000000]) (S' := [zI (σ 46 0 (((10 * l3) + l4).toNat)), zI 1000000000, zI ((10 * l3) + l4), zR 46 0]) (σ' := σ) (Ps := [-2147483648 ≤ 10 * l3 ∧ 10 * l3 ≤ 2147483647, -2147483648 ≤ (10 * l3) + l4 ∧ (10 * l3) + l4 ≤ 2147483647, -2147483648 ≤ 10 * l3 ∧ 10 * l3 ≤ 2147483647, -2147483648 ≤ (10 * l3) + l4 ∧ (10 * l3) + l4 ≤ 2147483647, 0 ≤ (10 * l3) + l4 ∧ (10 * l3) + l4 < 100]) (by decide +kernel) rfl ⟨h.1, h.2.1, h.2.2.1, h.2.2.2.1, h.2.2.2.2.1, trivial⟩ ?_
  replace h := h.2.2.2.2.2
  refine r_icmp_ge (off := 8) (tgt := 276) (by decide +kernel) (by decide) (fun c => ?_) (fun c => ?_)
  · replace h := h.1 c
    refine r_blk [qO (.aload_n 0), qF (.getfield 44) 11 16, qO (.bipush 10), qO (.iload_n 3), qO .imul, qO (.iload 4), qO .iadd, qO .iaload, qO .iastore, qO (.iinc 4 1), qO (.goto (-120))] (pc' := 172) (L' := [zR 34 0, zU, zI l2, zI l3, zI (l4 + 1), zI 1000000000]) (S' := []) (σ' := (zup σ 46 0 (((10 * l3) + l4).toNat) (σ 46 0 (((10 * l3) + l4).toNat)))) (Ps := [-2147483648 ≤ 10 * l3 ∧ 10 * l3 ≤ 2147483647, -2147483648 ≤ (10 * l3) + l4 ∧ (10 * l3) + l4 ≤ 2147483647, 0 ≤ (10 * l3) + l4 ∧ (10 * l3) + l4 < 100, 0 ≤ (10 * l3) + l4 ∧ (10 * l3) + l4 < 100, -2147483648 ≤ l4 + 1 ∧ l4 + 1 ≤ 2147483647]) (by decide +kernel) rfl ⟨h.1, h.2.1, h.2.2.1, h.2.2.2.1, h.2.2.2.2.1, trivial⟩ ?_
    replace h := h.2.2.2.2.2
    generalize hσ1 : (zup σ 46 0 (((10 * l3) + l4).toNat) (σ 46 0 (((10 * l3) + l4).toNat))) = σ1
    replace h := h σ1 hσ1.symm
    exact Runs.fg (fgE (fgU (fgE (fgE (fgE (fgU fg0)))))) h
  · replace h := h.2 c
    refine r_blk [qO (.iload 5), qO (.goto 15), qO .iastore, qO (.iinc 4 1), qO (.goto (-120))] (pc' := 172) (L' := [zR 34 0, zU, zI l2, zI l3, zI (l4 + 1), zI 1000000000]) (S' := []) (σ' := (zup σ 46 0 (((10 * l3) + l4).toNat) 1000000000)) (Ps := [0 ≤ (10 * l3) + l4 ∧ (10 * l3) + l4 < 100, -2147483648 ≤ l4 + 1 ∧ l4 + 1 ≤ 2147483647]) (by decide +kernel) rfl ⟨h.1, h.2.1, trivial⟩ ?_
    replace h := h.2.2
    exact Runs.fg (fgE (fgU (fgE (fgE (fgE (fgU fg0)))))) h
theorem gX11_apartAt_0 (a0 : Int) (σ : Hp) {Q : Option Int → Hp → Prop} (h : Runs 3 mX11_findsFar 0 [zR 34 0, zI a0, zU, zU, zU, zU] [] σ (rV (fun σ1 => Runs 4 mX11_apartAt 9 [zR 34 0, zU, zI 0, zI 0, zU] [] σ1 Q))) : Runs 4 mX11_apartAt 0 [zR 34 0, zI a0, zU, zU, zU] [] σ Q := by
  refine r_blk [qO (.aload_n 0), qO (.iload_n 1)] (pc' := 2) (L' := [zR 34 0, zI a0, zU, zU, zU]) (S' := [zI a0, zR 34 0]) (σ' := σ) (Ps := []) (by decide +kernel) rfl trivial ?_
  refine r_callVV (As := [zI a0]) (S := []) (Lc := [zR 34 0, zI a0, zU, zU, zU, zU]) (d' := 3) (n := 1) (g := 34) (x := 0) (ci := 11) kX11_findsFar vX11_findsFar lkX11_156 (by decide +kernel) (by decide) rfl rfl (by decide) rfl rfl (Nat.le_of_ble_eq_true rfl) rfl rfl (Nat.le_of_ble_eq_true rfl) (h.monoV (fun σ1 h => ?_))
  refine r_blk [qO (.iconst 0), qO (.istore_n 2), qO (.iconst 0), qO (.istore_n 3)] (pc' := 9) (L' := [zR 34 0, zI a0, zI 0, zI 0, zU]) (S' := []) (σ' := σ1) (Ps := []) (by decide +kernel) rfl trivial ?_
  exact Runs.fg (fgE (fgU (fgE (fgE (fgU fg0))))) h
theorem gX11_apartAt_9 (l2 : Int) (l3 : Int) (σ : Hp) {Q : Option Int → Hp → Prop} (h : ((σ 36 0 0 ≤ l3 → Q (some l2) σ) ∧ (¬ σ 36 0 0 ≤ l3 → Runs 4 mX11_apartAt 22 [zR 34 0, zU, zI l2, zI l3, zI 0] [] σ Q))) : Runs 4 mX11_apartAt 9 [zR 34 0, zU, zI l2, zI l3, zU] [] σ Q := by
  refine r_blk [qO (.iload_n 3), qO (.aload_n 0), qF (.getfield 13) 11 1, qO (.iconst 0), qO .iaload] (pc' := 16) (L' := [zR 34 0, zU, zI l2, zI l3, zU]) (S' := [zI (σ 36 0 0), zI l3]) (σ' := σ) (Ps := [0 ≤ 0 ∧ 0 < 123]) (by decide +kernel) rfl ⟨(by decide), trivial⟩ ?_
  refine r_icmp_ge (off := 54) (tgt := 70) (by decide +kernel) (by decide) (fun c => ?_) (fun c => ?_)
  · replace h := h.1 c
    refine r_blk [qO (.iload_n 2)] (pc' := 71) (L' := [zR 34 0, zU, zI l2, zI l3, zU]) (S' := [zI l2]) (σ' := σ) (Ps := []) (by decide +kernel) rfl trivial ?_
    exact r_ret (by decide +kernel) rfl (fun _ => h)
  · replace h := h.2 c
    refine r_blk [qO (.iconst 0), qO (.istore 4)] (pc' := 22) (L' := [zR 34 0, zU, zI l2, zI l3, zI 0]) (S' := []) (σ' := σ) (Ps := []) (by decide +kernel) rfl trivial ?_
    exact Runs.fg (fgE (fgU (fgE (fgE (fgE fg0))))) h
theorem gX11_apartAt_22 (l2 : Int) (l3 : Int) (l4 : Int) (σ : Hp) {Q : Option Int → Hp → Prop} (h : ((σ 36 0 0 ≤ l4 → (-2147483648 ≤ l3 + 1 ∧ l3 + 1 ≤ 2147483647) ∧ Runs 4 mX11_apartAt 9 [zR 34 0, zU, zI l2, zI (l3 + 1), zU] [] σ Q) ∧ (¬ σ 36 0 0 ≤ l4 → (-2147483648 ≤ 10 * l3 ∧ 10 * l3 ≤ 2147483647) ∧ (-2147483648 ≤ (10 * l3) + l4 ∧ (10 * l3) + l4 ≤ 2147483647) ∧ (0 ≤ (10 * l3) + l4 ∧ (10 * l3) + l4 < 100) ∧ ((σ 46 0 (((10 * l3) + l4).toNat) < 1000000000 → (-2147483648 ≤ l2 + 0 ∧ l2 + 0 ≤ 2147483647) ∧ (-2147483648 ≤ l4 + 1 ∧ l4 + 1 ≤ 2147483647) ∧ Runs 4 mX11_apartAt 22 [zR 34 0, zU, zI (l2 + 0), zI l3, zI (l4 + 1)] [] σ Q) ∧ (¬ σ 46 0 (((10 * l3) + l4).toNat) < 1000000000 → (-2147483648 ≤ l2 + 1 ∧ l2 + 1 ≤ 2147483647) ∧ (-2147483648 ≤ l4 + 1 ∧ l4 + 1 ≤ 2147483647) ∧ Runs 4 mX11_apartAt 22 [zR 34 0, zU, zI (l2 + 1), zI l3, zI (l4 + 1)] [] σ Q))))) : Runs 4 mX11_apartAt 22 [zR 34 0, zU, zI l2, zI l3, zI l4] [] σ Q := by
  refine r_blk [qO (.iload 4), qO (.aload_n 0), qF (.getfield 13) 11 1, qO (.iconst 0), qO .iaload] (pc' := 30) (L' := [zR 34 0, zU, zI l2, zI l3, zI l4]) (S' := [zI (σ 36 0 0), zI l4]) (σ' := σ) (Ps := [0 ≤ 0 ∧ 0 < 123]) (by decide +kernel) rfl ⟨(by decide), trivial⟩ ?_
  refine r_icmp_ge (off := 34) (tgt := 64) (by decide +kernel) (by decide) (fun c => ?_) (fun c => ?_)
  · replace h := h.1 c
    refine r_blk [qO (.iinc 3 1), qO (.goto (-58))] (pc' := 9) (L' := [zR 34 0, zU, zI l2, zI (l3 + 1), zI l4]) (S' := []) (σ' := σ) (Ps := [-2147483648 ≤ l3 + 1 ∧ l3 + 1 ≤ 2147483647]) (by decide +kernel) rfl ⟨h.1, trivial⟩ ?_
    replace h := h.2
    exact Runs.fg (fgE (fgU (fgE (fgE (fgU fg0))))) h
  · replace h := h.2 c
    refine r_blk [qO (.iload_n 2), qO (.aload_n 0), qF (.getfield 44) 11 16, qO (.bipush 10), qO (.iload_n 3), qO .imul, qO (.iload 4), qO .iadd, qO .iaload, qC (.ldc 155) 1000000000] (pc' := 48) (L' := [zR 34 0, zU, zI l2, zI l3, zI l4]) (S' := [zI 1000000000, zI (σ 46 0 (((10 * l3) + l4).toNat)), zI l2]) (σ' := σ) (Ps := [-2147483648 ≤ 10 * l3 ∧ 10 * l3 ≤ 2147483647, -2147483648 ≤ (10 * l3) + l4 ∧ (10 * l3) + l4 ≤ 2147483647, 0 ≤ (10 * l3) + l4 ∧ (10 * l3) + l4 < 100]) (by decide +kernel) rfl ⟨h.1, h.2.1, h.2.2.1, trivial⟩ ?_
    replace h := h.2.2.2
    refine r_icmp_lt (off := 7) (tgt := 55) (by decide +kernel) (by decide) (fun c => ?_) (fun c => ?_)
    · replace h := h.1 c
      refine r_blk [qO (.iconst 0), qO .iadd, qO (.istore_n 2), qO (.iinc 4 1), qO (.goto (-39))] (pc' := 22) (L' := [zR 34 0, zU, zI (l2 + 0), zI l3, zI (l4 + 1)]) (S' := []) (σ' := σ) (Ps := [-2147483648 ≤ l2 + 0 ∧ l2 + 0 ≤ 2147483647, -2147483648 ≤ l4 + 1 ∧ l4 + 1 ≤ 2147483647]) (by decide +kernel) rfl ⟨h.1, h.2.1, trivial⟩ ?_
      replace h := h.2.2
      exact Runs.fg (fgE (fgU (fgE (fgE (fgE fg0))))) h
    · replace h := h.2 c
      refine r_blk [qO (.iconst 1), qO (.goto 4), qO .iadd, qO (.istore_n 2), qO (.iinc 4 1), qO (.goto (-39))] (pc' := 22) (L' := [zR 34 0, zU, zI (l2 + 1), zI l3, zI (l4 + 1)]) (S' := []) (σ' := σ) (Ps := [-2147483648 ≤ l2 + 1 ∧ l2 + 1 ≤ 2147483647, -2147483648 ≤ l4 + 1 ∧ l4 + 1 ≤ 2147483647]) (by decide +kernel) rfl ⟨h.1, h.2.1, trivial⟩ ?_
      replace h := h.2.2
      exact Runs.fg (fgE (fgU (fgE (fgE (fgE fg0))))) h
theorem gX11_longestAt_0 (a0 : Int) (σ : Hp) {Q : Option Int → Hp → Prop} (h : Runs 4 mX11_apartAt 0 [zR 34 0, zI a0, zU, zU, zU] [] σ (rI (fun z2 σ1 => ((z2 ≤ 0 → Runs 5 mX11_longestAt 15 [zR 34 0, zU, zI 0, zI 0, zU] [] σ1 Q) ∧ (¬ z2 ≤ 0 → Q (some (-9)) σ1))))) : Runs 5 mX11_longestAt 0 [zR 34 0, zI a0, zU, zU, zU] [] σ Q := by
  refine r_blk [qO (.aload_n 0), qO (.iload_n 1)] (pc' := 2) (L' := [zR 34 0, zI a0, zU, zU, zU]) (S' := [zI a0, zR 34 0]) (σ' := σ) (Ps := []) (by decide +kernel) rfl trivial ?_
  refine r_callVI (As := [zI a0]) (S := []) (Lc := [zR 34 0, zI a0, zU, zU, zU]) (d' := 4) (n := 1) (g := 34) (x := 0) (ci := 11) kX11_apartAt vX11_apartAt lkX11_160 (by decide +kernel) (by decide) rfl rfl (by decide) rfl rfl (Nat.le_of_ble_eq_true rfl) rfl rfl (Nat.le_of_ble_eq_true rfl) (h.monoI (fun z2 σ1 h => ?_))
  refine r_if_le (off := 6) (tgt := 11) (by decide +kernel) (by decide) (fun c => ?_) (fun c => ?_)
  · replace h := h.1 c
    refine r_blk [qO (.iconst 0), qO (.istore_n 2), qO (.iconst 0), qO (.istore_n 3)] (pc' := 15) (L' := [zR 34 0, zI a0, zI 0, zI 0, zU]) (S' := []) (σ' := σ1) (Ps := []) (by decide +kernel) rfl trivial ?_
    exact Runs.fg (fgE (fgU (fgE (fgE (fgU fg0))))) h
  · replace h := h.2 c
    refine r_blk [qO (.bipush (-9))] (pc' := 10) (L' := [zR 34 0, zI a0, zU, zU, zU]) (S' := [zI (-9)]) (σ' := σ1) (Ps := []) (by decide +kernel) rfl trivial ?_
    exact r_ret (by decide +kernel) rfl (fun _ => h)
theorem gX11_longestAt_15 (l2 : Int) (l3 : Int) (σ : Hp) {Q : Option Int → Hp → Prop} (h : ((σ 36 0 0 ≤ l3 → Q (some l2) σ) ∧ (¬ σ 36 0 0 ≤ l3 → Runs 5 mX11_longestAt 28 [zR 34 0, zU, zI l2, zI l3, zI 0] [] σ Q))) : Runs 5 mX11_longestAt 15 [zR 34 0, zU, zI l2, zI l3, zU] [] σ Q := by
  refine r_blk [qO (.iload_n 3), qO (.aload_n 0), qF (.getfield 13) 11 1, qO (.iconst 0), qO .iaload] (pc' := 22) (L' := [zR 34 0, zU, zI l2, zI l3, zU]) (S' := [zI (σ 36 0 0), zI l3]) (σ' := σ) (Ps := [0 ≤ 0 ∧ 0 < 123]) (by decide +kernel) rfl ⟨(by decide), trivial⟩ ?_
  refine r_icmp_ge (off := 62) (tgt := 84) (by decide +kernel) (by decide) (fun c => ?_) (fun c => ?_)
  · replace h := h.1 c
    refine r_blk [qO (.iload_n 2)] (pc' := 85) (L' := [zR 34 0, zU, zI l2, zI l3, zU]) (S' := [zI l2]) (σ' := σ) (Ps := []) (by decide +kernel) rfl trivial ?_
    exact r_ret (by decide +kernel) rfl (fun _ => h)
  · replace h := h.2 c
    refine r_blk [qO (.iconst 0), qO (.istore 4)] (pc' := 28) (L' := [zR 34 0, zU, zI l2, zI l3, zI 0]) (S' := []) (σ' := σ) (Ps := []) (by decide +kernel) rfl trivial ?_
    exact Runs.fg (fgE (fgU (fgE (fgE (fgE fg0))))) h
theorem gX11_longestAt_28 (l2 : Int) (l3 : Int) (l4 : Int) (σ : Hp) {Q : Option Int → Hp → Prop} (h : ((σ 36 0 0 ≤ l4 → (-2147483648 ≤ l3 + 1 ∧ l3 + 1 ≤ 2147483647) ∧ Runs 5 mX11_longestAt 15 [zR 34 0, zU, zI l2, zI (l3 + 1), zU] [] σ Q) ∧ (¬ σ 36 0 0 ≤ l4 → (-2147483648 ≤ 10 * l3 ∧ 10 * l3 ≤ 2147483647) ∧ (-2147483648 ≤ (10 * l3) + l4 ∧ (10 * l3) + l4 ≤ 2147483647) ∧ (0 ≤ (10 * l3) + l4 ∧ (10 * l3) + l4 < 100) ∧ ((σ 46 0 (((10 * l3) + l4).toNat) ≤ l2 → (-2147483648 ≤ l4 + 1 ∧ l4 + 1 ≤ 2147483647) ∧ Runs 5 mX11_longestAt 28 [zR 34 0, zU, zI l2, zI l3, zI (l4 + 1)] [] σ Q) ∧ (¬ σ 46 0 (((10 * l3) + l4).toNat) ≤ l2 → (-2147483648 ≤ 10 * l3 ∧ 10 * l3 ≤ 2147483647) ∧ (-2147483648 ≤ (10 * l3) + l4 ∧ (10 * l3) + l4 ≤ 2147483647) ∧ (0 ≤ (10 * l3) + l4 ∧ (10 * l3) + l4 < 100) ∧ (-2147483648 ≤ l4 + 1 ∧ l4 + 1 ≤ 2147483647) ∧ Runs 5 mX11_longestAt 28 [zR 34 0, zU, zI (σ 46 0 (((10 * l3) + l4).toNat)), zI l3, zI (l4 + 1)] [] σ Q))))) : Runs 5 mX11_longestAt 28 [zR 34 0, zU, zI l2, zI l3, zI l4] [] σ Q := by
  refine r_blk [qO (.iload 4), qO (.aload_n 0), qF (.getfield 13) 11 1, qO (.iconst 0), qO .iaload] (pc' := 36) (L' := [zR 34 0, zU, zI l2, zI l3, zI l4]) (S' := [zI (σ 36 0 0), zI l4]) (σ' := σ) (Ps := [0 ≤ 0 ∧ 0 < 123]) (by decide +kernel) rfl ⟨(by decide), trivial⟩ ?_
  refine r_icmp_ge (off := 42) (tgt := 78) (by decide +kernel) (by decide) (fun c => ?_) (fun c => ?_)
  · replace h := h.1 c
    refine r_blk [qO (.iinc 3 1), qO (.goto (-66))] (pc' := 15) (L' := [zR 34 0, zU, zI l2, zI (l3 + 1), zI l4]) (S' := []) (σ' := σ) (Ps := [-2147483648 ≤ l3 + 1 ∧ l3 + 1 ≤ 2147483647]) (by decide +kernel) rfl ⟨h.1, trivial⟩ ?_
    replace h := h.2
    exact Runs.fg (fgE (fgU (fgE (fgE (fgU fg0))))) h
  · replace h := h.2 c
    refine r_blk [qO (.aload_n 0), qF (.getfield 44) 11 16, qO (.bipush 10), qO (.iload_n 3), qO .imul, qO (.iload 4), qO .iadd, qO .iaload, qO (.iload_n 2)] (pc' := 52) (L' := [zR 34 0, zU, zI l2, zI l3, zI l4]) (S' := [zI l2, zI (σ 46 0 (((10 * l3) + l4).toNat))]) (σ' := σ) (Ps := [-2147483648 ≤ 10 * l3 ∧ 10 * l3 ≤ 2147483647, -2147483648 ≤ (10 * l3) + l4 ∧ (10 * l3) + l4 ≤ 2147483647, 0 ≤ (10 * l3) + l4 ∧ (10 * l3) + l4 < 100]) (by decide +kernel) rfl ⟨h.1, h.2.1, h.2.2.1, trivial⟩ ?_
    replace h := h.2.2.2
    refine r_icmp_le (off := 18) (tgt := 70) (by decide +kernel) (by decide) (fun c => ?_) (fun c => ?_)
    · replace h := h.1 c
      refine r_blk [qO (.iload_n 2), qO (.istore_n 2), qO (.iinc 4 1), qO (.goto (-47))] (pc' := 28) (L' := [zR 34 0, zU, zI l2, zI l3, zI (l4 + 1)]) (S' := []) (σ' := σ) (Ps := [-2147483648 ≤ l4 + 1 ∧ l4 + 1 ≤ 2147483647]) (by decide +kernel) rfl ⟨h.1, trivial⟩ ?_
      replace h := h.2
      exact Runs.fg (fgE (fgU (fgE (fgE (fgE fg0))))) h
    · replace h := h.2 c
      refine r_blk [qO (.aload_n 0), qF (.getfield 44) 11 16, qO (.bipush 10), qO (.iload_n 3), qO .imul, qO (.iload 4), qO .iadd, qO .iaload, qO (.goto 4), qO (.istore_n 2), qO (.iinc 4 1), qO (.goto (-47))] (pc' := 28) (L' := [zR 34 0, zU, zI (σ 46 0 (((10 * l3) + l4).toNat)), zI l3, zI (l4 + 1)]) (S' := []) (σ' := σ) (Ps := [-2147483648 ≤ 10 * l3 ∧ 10 * l3 ≤ 2147483647, -2147483648 ≤ (10 * l3) + l4 ∧ (10 * l3) + l4 ≤ 2147483647, 0 ≤ (10 * l3) + l4 ∧ (10 * l3) + l4 < 100, -2147483648 ≤ l4 + 1 ∧ l4 + 1 ≤ 2147483647]) (by decide +kernel) rfl ⟨h.1, h.2.1, h.2.2.1, h.2.2.2.1, trivial⟩ ?_
      replace h := h.2.2.2.2
      exact Runs.fg (fgE (fgU (fgE (fgE (fgE fg0))))) h
theorem gX11_along_0 (a0 : Int) (a1 : Int) (σ : Hp) {Q : Option Int → Hp → Prop} (h : Runs 3 mX11_along 6 [zR 34 0, zI a0, zI a1, zI (-9), zI 0, zU] [] σ Q) : Runs 3 mX11_along 0 [zR 34 0, zI a0, zI a1, zU, zU, zU] [] σ Q := by
  refine r_blk [qO (.bipush (-9)), qO (.istore_n 3), qO (.iconst 0), qO (.istore 4)] (pc' := 6) (L' := [zR 34 0, zI a0, zI a1, zI (-9), zI 0, zU]) (S' := []) (σ' := σ) (Ps := []) (by decide +kernel) rfl trivial ?_
  exact Runs.fg (fgE (fgE (fgE (fgE (fgE (fgU fg0)))))) h
theorem gX11_along_6 (l1 : Int) (l2 : Int) (l3 : Int) (l4 : Int) (σ : Hp) {Q : Option Int → Hp → Prop} (h : ((σ 36 0 1 ≤ l4 → Q (some l3) σ) ∧ (¬ σ 36 0 1 ≤ l4 → Runs 3 mX11_along 20 [zR 34 0, zI l1, zI l2, zI l3, zI l4, zI 0] [] σ Q))) : Runs 3 mX11_along 6 [zR 34 0, zI l1, zI l2, zI l3, zI l4, zU] [] σ Q := by
  refine r_blk [qO (.iload 4), qO (.aload_n 0), qF (.getfield 13) 11 1, qO (.iconst 1), qO .iaload] (pc' := 14) (L' := [zR 34 0, zI l1, zI l2, zI l3, zI l4, zU]) (S' := [zI (σ 36 0 1), zI l4]) (σ' := σ) (Ps := [0 ≤ 1 ∧ 1 < 123]) (by decide +kernel) rfl ⟨(by decide), trivial⟩ ?_
  refine r_icmp_ge (off := 92) (tgt := 106) (by decide +kernel) (by decide) (fun c => ?_) (fun c => ?_)
  · replace h := h.1 c
    refine r_blk [qO (.iload_n 3)] (pc' := 107) (L' := [zR 34 0, zI l1, zI l2, zI l3, zI l4, zU]) (S' := [zI l3]) (σ' := σ) (Ps := []) (by decide +kernel) rfl trivial ?_
    exact r_ret (by decide +kernel) rfl (fun _ => h)
  · replace h := h.2 c
    refine r_blk [qO (.iconst 0), qO (.istore 5)] (pc' := 20) (L' := [zR 34 0, zI l1, zI l2, zI l3, zI l4, zI 0]) (S' := []) (σ' := σ) (Ps := []) (by decide +kernel) rfl trivial ?_
    exact Runs.fg (fgE (fgE (fgE (fgE (fgE (fgE fg0)))))) h
theorem gX11_along_20 (l1 : Int) (l2 : Int) (l3 : Int) (l4 : Int) (l5 : Int) (σ : Hp) {Q : Option Int → Hp → Prop} (h : ((2 ≤ l5 → (-2147483648 ≤ l4 + 1 ∧ l4 + 1 ≤ 2147483647) ∧ Runs 3 mX11_along 6 [zR 34 0, zI l1, zI l2, zI l3, zI (l4 + 1), zU] [] σ Q) ∧ (¬ 2 ≤ l5 → (0 ≤ l4 ∧ l4 < 14) ∧ ((0 : Int) ≤ l5 ∧ l5 < 5) ∧ ((¬ sg (σ 36 0) l4 l5 = l1 → (-2147483648 ≤ l5 + 1 ∧ l5 + 1 ≤ 2147483647) ∧ Runs 3 mX11_along 20 [zR 34 0, zI l1, zI l2, zI l3, zI l4, zI (l5 + 1)] [] σ Q) ∧ (sg (σ 36 0) l4 l5 = l1 → (-2147483648 ≤ 1 - l5 ∧ 1 - l5 ≤ 2147483647) ∧ (0 ≤ l4 ∧ l4 < 14) ∧ ((0 : Int) ≤ (1 - l5) ∧ (1 - l5) < 5) ∧ ((¬ sg (σ 36 0) l4 (1 - l5) = l2 → (-2147483648 ≤ l5 + 1 ∧ l5 + 1 ≤ 2147483647) ∧ Runs 3 mX11_along 20 [zR 34 0, zI l1, zI l2, zI l3, zI l4, zI (l5 + 1)] [] σ Q) ∧ (sg (σ 36 0) l4 (1 - l5) = l2 → (WF (σ 36 0)) ∧ (0 ≤ l4 ∧ l4 < σ 36 0 1) ∧ ((wayS (σ 36 0) l4 0 = 2 ∨ wayS (σ 36 0) l4 0 = l5 → ((l3 < 0 → (0 ≤ l4 ∧ l4 < 14) ∧ (-2147483648 ≤ l5 + 1 ∧ l5 + 1 ≤ 2147483647) ∧ Runs 3 mX11_along 20 [zR 34 0, zI l1, zI l2, zI (sg (σ 36 0) l4 2), zI l4, zI (l5 + 1)] [] σ Q) ∧ (¬ l3 < 0 → (0 ≤ l4 ∧ l4 < 14) ∧ ((l3 ≤ sg (σ 36 0) l4 2 → (-2147483648 ≤ l5 + 1 ∧ l5 + 1 ≤ 2147483647) ∧ Runs 3 mX11_along 20 [zR 34 0, zI l1, zI l2, zI l3, zI l4, zI (l5 + 1)] [] σ Q) ∧ (¬ l3 ≤ sg (σ 36 0) l4 2 → (0 ≤ l4 ∧ l4 < 14) ∧ (-2147483648 ≤ l5 + 1 ∧ l5 + 1 ≤ 2147483647) ∧ Runs 3 mX11_along 20 [zR 34 0, zI l1, zI l2, zI (sg (σ 36 0) l4 2), zI l4, zI (l5 + 1)] [] σ Q))))) ∧ (¬ (wayS (σ 36 0) l4 0 = 2 ∨ wayS (σ 36 0) l4 0 = l5) → (-2147483648 ≤ l5 + 1 ∧ l5 + 1 ≤ 2147483647) ∧ Runs 3 mX11_along 20 [zR 34 0, zI l1, zI l2, zI l3, zI l4, zI (l5 + 1)] [] σ Q))))))))) : Runs 3 mX11_along 20 [zR 34 0, zI l1, zI l2, zI l3, zI l4, zI l5] [] σ Q := by
  refine r_blk [qO (.iload 5), qO (.iconst 2)] (pc' := 23) (L' := [zR 34 0, zI l1, zI l2, zI l3, zI l4, zI l5]) (S' := [zI 2, zI l5]) (σ' := σ) (Ps := []) (by decide +kernel) rfl trivial ?_
  refine r_icmp_ge (off := 77) (tgt := 100) (by decide +kernel) (by decide) (fun c => ?_) (fun c => ?_)
  · replace h := h.1 c
    refine r_blk [qO (.iinc 4 1), qO (.goto (-97))] (pc' := 6) (L' := [zR 34 0, zI l1, zI l2, zI l3, zI (l4 + 1), zI l5]) (S' := []) (σ' := σ) (Ps := [-2147483648 ≤ l4 + 1 ∧ l4 + 1 ≤ 2147483647]) (by decide +kernel) rfl ⟨h.1, trivial⟩ ?_
    replace h := h.2
    exact Runs.fg (fgE (fgE (fgE (fgE (fgE (fgU fg0)))))) h
  · replace h := h.2 c
    refine r_blk [qO (.aload_n 0), qO (.iload 4), qO (.iload 5)] (pc' := 31) (L' := [zR 34 0, zI l1, zI l2, zI l3, zI l4, zI l5]) (S' := [zI l5, zI l4, zR 34 0]) (σ' := σ) (Ps := []) (by decide +kernel) rfl trivial ?_
    refine r_callVI (As := [zI l4, zI l5]) (S := []) (Lc := [zR 34 0, zI l4, zI l5]) (d' := 0) (n := 2) (g := 34) (x := 0) (ci := 11) kX11_get vX11_get lkX11_106 (by decide +kernel) (by decide) rfl rfl (by decide) rfl rfl (Nat.le_of_ble_eq_true rfl) rfl rfl (Nat.le_of_ble_eq_true rfl) (pX11_get h.1 h.2.1 ?_)
    replace h := h.2.2
    refine r_blk [qO (.iload_n 1)] (pc' := 35) (L' := [zR 34 0, zI l1, zI l2, zI l3, zI l4, zI l5]) (S' := [zI l1, zI (sg (σ 36 0) l4 l5)]) (σ' := σ) (Ps := []) (by decide +kernel) rfl trivial ?_
    refine r_icmp_ne (off := 59) (tgt := 94) (by decide +kernel) (by decide) (fun c => ?_) (fun c => ?_)
    · replace h := h.1 c
      refine r_blk [qO (.iinc 5 1), qO (.goto (-77))] (pc' := 20) (L' := [zR 34 0, zI l1, zI l2, zI l3, zI l4, zI (l5 + 1)]) (S' := []) (σ' := σ) (Ps := [-2147483648 ≤ l5 + 1 ∧ l5 + 1 ≤ 2147483647]) (by decide +kernel) rfl ⟨h.1, trivial⟩ ?_
      replace h := h.2
      exact Runs.fg (fgE (fgE (fgE (fgE (fgE (fgE fg0)))))) h
    · replace h := h.2 c
      refine r_blk [qO (.aload_n 0), qO (.iload 4), qO (.iconst 1), qO (.iload 5), qO .isub] (pc' := 45) (L' := [zR 34 0, zI l1, zI l2, zI l3, zI l4, zI l5]) (S' := [zI (1 - l5), zI l4, zR 34 0]) (σ' := σ) (Ps := [-2147483648 ≤ 1 - l5 ∧ 1 - l5 ≤ 2147483647]) (by decide +kernel) rfl ⟨h.1, trivial⟩ ?_
      replace h := h.2
      refine r_callVI (As := [zI l4, zI (1 - l5)]) (S := []) (Lc := [zR 34 0, zI l4, zI (1 - l5)]) (d' := 0) (n := 2) (g := 34) (x := 0) (ci := 11) kX11_get vX11_get lkX11_106 (by decide +kernel) (by decide) rfl rfl (by decide) rfl rfl (Nat.le_of_ble_eq_true rfl) rfl rfl (Nat.le_of_ble_eq_true rfl) (pX11_get h.1 h.2.1 ?_)
      replace h := h.2.2
      refine r_blk [qO (.iload_n 2)] (pc' := 49) (L' := [zR 34 0, zI l1, zI l2, zI l3, zI l4, zI l5]) (S' := [zI l2, zI (sg (σ 36 0) l4 (1 - l5))]) (σ' := σ) (Ps := []) (by decide +kernel) rfl trivial ?_
      refine r_icmp_ne (off := 45) (tgt := 94) (by decide +kernel) (by decide) (fun c => ?_) (fun c => ?_)
      · replace h := h.1 c
        refine r_blk [qO (.iinc 5 1), qO (.goto (-77))] (pc' := 20) (L' := [zR 34 0, zI l1, zI l2, zI l3, zI l4, zI (l5 + 1)]) (S' := []) (σ' := σ) (Ps := [-2147483648 ≤ l5 + 1 ∧ l5 + 1 ≤ 2147483647]) (by decide +kernel) rfl ⟨h.1, trivial⟩ ?_
        replace h := h.2
        exact Runs.fg (fgE (fgE (fgE (fgE (fgE (fgE fg0)))))) h
      · replace h := h.2 c
        refine r_blk [qO (.aload_n 0), qO (.iload 4), qO (.iload 5), qO (.iconst 0)] (pc' := 58) (L' := [zR 34 0, zI l1, zI l2, zI l3, zI l4, zI l5]) (S' := [zI 0, zI l5, zI l4, zR 34 0]) (σ' := σ) (Ps := []) (by decide +kernel) rfl trivial ?_
        refine r_callVI (As := [zI l4, zI l5, zI 0]) (S := []) (Lc := [zR 34 0, zI l4, zI l5, zI 0, zU]) (d' := 2) (n := 3) (g := 34) (x := 0) (ci := 11) kX11_goesFrom vX11_goesFrom lkX11_129 (by decide +kernel) (by decide) rfl rfl (by decide) rfl rfl (Nat.le_of_ble_eq_true rfl) rfl rfl (Nat.le_of_ble_eq_true rfl) (pX11_goesFrom h.1 h.2.1 (by decide) (fun c => ?_) (fun c => ?_))
        all_goals replace h := h.2.2
        · replace h := h.1 c
          refine r_if_ne (off := 6) (tgt := 67) (by decide +kernel) (by decide) (fun c => ?_) (fun c => ?_)
          · refine r_blk [qO (.iload_n 3)] (pc' := 68) (L' := [zR 34 0, zI l1, zI l2, zI l3, zI l4, zI l5]) (S' := [zI l3]) (σ' := σ) (Ps := []) (by decide +kernel) rfl trivial ?_
            refine r_if_lt (off := 14) (tgt := 82) (by decide +kernel) (by decide) (fun c => ?_) (fun c => ?_)
            · replace h := h.1 c
              refine r_blk [qO (.aload_n 0), qO (.iload 4), qO (.iconst 2)] (pc' := 86) (L' := [zR 34 0, zI l1, zI l2, zI l3, zI l4, zI l5]) (S' := [zI 2, zI l4, zR 34 0]) (σ' := σ) (Ps := []) (by decide +kernel) rfl trivial ?_
              refine r_callVI (As := [zI l4, zI 2]) (S := []) (Lc := [zR 34 0, zI l4, zI 2]) (d' := 0) (n := 2) (g := 34) (x := 0) (ci := 11) kX11_get vX11_get lkX11_106 (by decide +kernel) (by decide) rfl rfl (by decide) rfl rfl (Nat.le_of_ble_eq_true rfl) rfl rfl (Nat.le_of_ble_eq_true rfl) (pX11_get h.1 (by decide) ?_)
              replace h := h.2
              refine r_blk [qO (.goto 4), qO (.istore_n 3), qO (.iinc 5 1), qO (.goto (-77))] (pc' := 20) (L' := [zR 34 0, zI l1, zI l2, zI (sg (σ 36 0) l4 2), zI l4, zI (l5 + 1)]) (S' := []) (σ' := σ) (Ps := [-2147483648 ≤ l5 + 1 ∧ l5 + 1 ≤ 2147483647]) (by decide +kernel) rfl ⟨h.1, trivial⟩ ?_
              replace h := h.2
              exact Runs.fg (fgE (fgE (fgE (fgE (fgE (fgE fg0)))))) h
            · replace h := h.2 c
              refine r_blk [qO (.aload_n 0), qO (.iload 4), qO (.iconst 2)] (pc' := 75) (L' := [zR 34 0, zI l1, zI l2, zI l3, zI l4, zI l5]) (S' := [zI 2, zI l4, zR 34 0]) (σ' := σ) (Ps := []) (by decide +kernel) rfl trivial ?_
              refine r_callVI (As := [zI l4, zI 2]) (S := []) (Lc := [zR 34 0, zI l4, zI 2]) (d' := 0) (n := 2) (g := 34) (x := 0) (ci := 11) kX11_get vX11_get lkX11_106 (by decide +kernel) (by decide) rfl rfl (by decide) rfl rfl (Nat.le_of_ble_eq_true rfl) rfl rfl (Nat.le_of_ble_eq_true rfl) (pX11_get h.1 (by decide) ?_)
              replace h := h.2
              refine r_blk [qO (.iload_n 3)] (pc' := 79) (L' := [zR 34 0, zI l1, zI l2, zI l3, zI l4, zI l5]) (S' := [zI l3, zI (sg (σ 36 0) l4 2)]) (σ' := σ) (Ps := []) (by decide +kernel) rfl trivial ?_
              refine r_icmp_ge (off := 13) (tgt := 92) (by decide +kernel) (by decide) (fun c => ?_) (fun c => ?_)
              · replace h := h.1 c
                refine r_blk [qO (.iload_n 3), qO (.istore_n 3), qO (.iinc 5 1), qO (.goto (-77))] (pc' := 20) (L' := [zR 34 0, zI l1, zI l2, zI l3, zI l4, zI (l5 + 1)]) (S' := []) (σ' := σ) (Ps := [-2147483648 ≤ l5 + 1 ∧ l5 + 1 ≤ 2147483647]) (by decide +kernel) rfl ⟨h.1, trivial⟩ ?_
                replace h := h.2
                exact Runs.fg (fgE (fgE (fgE (fgE (fgE (fgE fg0)))))) h
              · replace h := h.2 c
                refine r_blk [qO (.aload_n 0), qO (.iload 4), qO (.iconst 2)] (pc' := 86) (L' := [zR 34 0, zI l1, zI l2, zI l3, zI l4, zI l5]) (S' := [zI 2, zI l4, zR 34 0]) (σ' := σ) (Ps := []) (by decide +kernel) rfl trivial ?_
                refine r_callVI (As := [zI l4, zI 2]) (S := []) (Lc := [zR 34 0, zI l4, zI 2]) (d' := 0) (n := 2) (g := 34) (x := 0) (ci := 11) kX11_get vX11_get lkX11_106 (by decide +kernel) (by decide) rfl rfl (by decide) rfl rfl (Nat.le_of_ble_eq_true rfl) rfl rfl (Nat.le_of_ble_eq_true rfl) (pX11_get h.1 (by decide) ?_)
                replace h := h.2
                refine r_blk [qO (.goto 4), qO (.istore_n 3), qO (.iinc 5 1), qO (.goto (-77))] (pc' := 20) (L' := [zR 34 0, zI l1, zI l2, zI (sg (σ 36 0) l4 2), zI l4, zI (l5 + 1)]) (S' := []) (σ' := σ) (Ps := [-2147483648 ≤ l5 + 1 ∧ l5 + 1 ≤ 2147483647]) (by decide +kernel) rfl ⟨h.1, trivial⟩ ?_
                replace h := h.2
                exact Runs.fg (fgE (fgE (fgE (fgE (fgE (fgE fg0)))))) h
          · exact absurd c (by decide)
        · replace h := h.2 c
          refine r_if_ne (off := 6) (tgt := 67) (by decide +kernel) (by decide) (fun c => ?_) (fun c => ?_)
          · exact absurd c (by decide)
          · refine r_blk [qO (.goto 30), qO (.iinc 5 1), qO (.goto (-77))] (pc' := 20) (L' := [zR 34 0, zI l1, zI l2, zI l3, zI l4, zI (l5 + 1)]) (S' := []) (σ' := σ) (Ps := [-2147483648 ≤ l5 + 1 ∧ l5 + 1 ≤ 2147483647]) (by decide +kernel) rfl ⟨h.1, trivial⟩ ?_
            replace h := h.2
            exact Runs.fg (fgE (fgE (fgE (fgE (fgE (fgE fg0)))))) h
theorem gX0_joinBy_0 (a2 : Int) (x : Nat) (y : Nat) (σ : Hp) {Q : Option Int → Hp → Prop} (h : Runs 1 mX0_joinBy 3 [zR 19 0, zR 21 x, zR 21 y, zI a2, zI 0] [] σ Q) : Runs 1 mX0_joinBy 0 [zR 19 0, zR 21 x, zR 21 y, zI a2, zU] [] σ Q := by
  refine r_blk [qO (.iconst 0), qO (.istore 4)] (pc' := 3) (L' := [zR 19 0, zR 21 x, zR 21 y, zI a2, zI 0]) (S' := []) (σ' := σ) (Ps := []) (by decide +kernel) rfl trivial ?_
  exact Runs.fg (fgE (fgE (fgE (fgE (fgE fg0))))) h
theorem gX0_joinBy_3 (l3 : Int) (l4 : Int) (x : Nat) (y : Nat) (σ : Hp) {Q : Option Int → Hp → Prop} (h : ((σ 1 0 0 ≤ l4 → Q none σ) ∧ (¬ σ 1 0 0 ≤ l4 → (0 ≤ l4 ∧ l4 < 10) ∧ (0 ≤ l4 ∧ l4 < 10) ∧ (-2147483648 ≤ l3 + (σ 21 y l4.toNat) ∧ l3 + (σ 21 y l4.toNat) ≤ 2147483647) ∧ (0 ≤ l4 ∧ l4 < 10) ∧ (-2147483648 ≤ l4 + 1 ∧ l4 + 1 ≤ 2147483647) ∧ ∀ σ1 : Hp, σ1 = (zup σ 21 x l4.toNat (if l3 + (σ 21 y l4.toNat) < σ 21 x l4.toNat then l3 + (σ 21 y l4.toNat) else σ 21 x l4.toNat)) → Runs 1 mX0_joinBy 3 [zR 19 0, zR 21 x, zR 21 y, zI l3, zI (l4 + 1)] [] σ1 Q))) : Runs 1 mX0_joinBy 3 [zR 19 0, zR 21 x, zR 21 y, zI l3, zI l4] [] σ Q := by
  refine r_blk [qO (.iload 4), qO (.aload_n 0), qF (.getfield 16) 0 0, qF (.getfield 67) 6 0] (pc' := 12) (L' := [zR 19 0, zR 21 x, zR 21 y, zI l3, zI l4]) (S' := [zI (σ 1 0 0), zI l4]) (σ' := σ) (Ps := []) (by decide +kernel) rfl trivial ?_
  refine r_icmp_ge (off := 26) (tgt := 38) (by decide +kernel) (by decide) (fun c => ?_) (fun c => ?_)
  · replace h := h.1 c
    exact r_retv (by decide +kernel) rfl h
  · replace h := h.2 c
    refine r_blk [qO (.aload_n 1), qO (.iload 4), qO (.aload_n 1), qO (.iload 4), qO .iaload, qO (.iload_n 3), qO (.aload_n 2), qO (.iload 4), qO .iaload, qO .iadd] (pc' := 28) (L' := [zR 19 0, zR 21 x, zR 21 y, zI l3, zI l4]) (S' := [zI (l3 + (σ 21 y l4.toNat)), zI (σ 21 x l4.toNat), zI l4, zR 21 x]) (σ' := σ) (Ps := [0 ≤ l4 ∧ l4 < 10, 0 ≤ l4 ∧ l4 < 10, -2147483648 ≤ l3 + (σ 21 y l4.toNat) ∧ l3 + (σ 21 y l4.toNat) ≤ 2147483647]) (by decide +kernel) rfl ⟨h.1, h.2.1, h.2.2.1, trivial⟩ ?_
    replace h := h.2.2.2
    refine r_min lkX0_61 (by decide +kernel) (by decide) (Nat.le_of_ble_eq_true rfl) ?_
    refine r_blk [qO .iastore, qO (.iinc 4 1), qO (.goto (-32))] (pc' := 3) (L' := [zR 19 0, zR 21 x, zR 21 y, zI l3, zI (l4 + 1)]) (S' := []) (σ' := (zup σ 21 x l4.toNat (if l3 + (σ 21 y l4.toNat) < σ 21 x l4.toNat then l3 + (σ 21 y l4.toNat) else σ 21 x l4.toNat))) (Ps := [0 ≤ l4 ∧ l4 < 10, -2147483648 ≤ l4 + 1 ∧ l4 + 1 ≤ 2147483647]) (by decide +kernel) rfl ⟨h.1, h.2.1, trivial⟩ ?_
    replace h := h.2.2
    generalize hσ1 : (zup σ 21 x l4.toNat (if l3 + (σ 21 y l4.toNat) < σ 21 x l4.toNat then l3 + (σ 21 y l4.toNat) else σ 21 x l4.toNat)) = σ1
    replace h := h σ1 hσ1.symm
    exact Runs.fg (fgE (fgE (fgE (fgE (fgE fg0))))) h
