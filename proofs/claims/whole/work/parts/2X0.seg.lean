theorem gX0_lay_0 (a0 : Int) (σ : Hp) {Q : Option Int → Hp → Prop} (h : Runs 2 mX0_lay 2 [zR 19 0, zI a0, zI 0, zU] [] σ Q) : Runs 2 mX0_lay 0 [zR 19 0, zI a0, zU, zU] [] σ Q := by
  refine r_blk [qO (.iconst 0), qO (.istore_n 2)] (pc' := 2) (L' := [zR 19 0, zI a0, zI 0, zU]) (S' := []) (σ' := σ) (Ps := []) (by decide +kernel) rfl trivial ?_
  exact Runs.fg (fgE (fgE (fgE (fgU fg0)))) h
theorem gX0_lay_2 (l1 : Int) (l2 : Int) (σ : Hp) {Q : Option Int → Hp → Prop} (h : ((10 ≤ l2 → Runs 0 mX7_standAt 0 [zR 16 0, zI l1, zU, zU] [] σ (rV (fun σ1 => Runs 2 mX0_lay 35 [zR 19 0, zU, zI 0, zU] [] σ1 Q))) ∧ (¬ 10 ≤ l2 → (0 ≤ l2 ∧ l2 < 10) ∧ Runs 0 mJ7_fill_53178 0 [zR 21 l2.toNat, zI 1000000, zU, zU] [] σ (rV (fun σ2 => (-2147483648 ≤ l2 + 1 ∧ l2 + 1 ≤ 2147483647) ∧ Runs 2 mX0_lay 2 [zR 19 0, zI l1, zI (l2 + 1), zU] [] σ2 Q))))) : Runs 2 mX0_lay 2 [zR 19 0, zI l1, zI l2, zU] [] σ Q := by
  refine r_blk [qO (.iload_n 2), qO (.bipush 10)] (pc' := 5) (L' := [zR 19 0, zI l1, zI l2, zU]) (S' := [zI 10, zI l2]) (σ' := σ) (Ps := []) (by decide +kernel) rfl trivial ?_
  refine r_icmp_ge (off := 20) (tgt := 25) (by decide +kernel) (by decide) (fun c => ?_) (fun c => ?_)
  · replace h := h.1 c
    refine r_blk [qO (.aload_n 0), qF (.getfield 20) 0 1, qO (.iload_n 1)] (pc' := 30) (L' := [zR 19 0, zI l1, zI l2, zU]) (S' := [zI l1, zR 16 0]) (σ' := σ) (Ps := []) (by decide +kernel) rfl trivial ?_
    refine r_callVV (As := [zI l1]) (S := []) (Lc := [zR 16 0, zI l1, zU, zU]) (d' := 0) (n := 1) (g := 16) (x := 0) (ci := 7) kX7_standAt vX7_standAt lkX0_31 (by decide +kernel) (by decide) rfl rfl (by decide) rfl rfl (Nat.le_of_ble_eq_true rfl) rfl rfl (Nat.le_of_ble_eq_true rfl) (h.monoV (fun σ1 h => ?_))
    refine r_blk [qO (.iconst 0), qO (.istore_n 2)] (pc' := 35) (L' := [zR 19 0, zI l1, zI 0, zU]) (S' := []) (σ' := σ1) (Ps := []) (by decide +kernel) rfl trivial ?_
    exact Runs.fg (fgE (fgU (fgE (fgU fg0)))) h
  · replace h := h.2 c
    refine r_blk [qO (.aload_n 0), qF (.getfield 11) 0 2, qO (.iload_n 2), qO .aaload, qC (.ldc 24) 1000000] (pc' := 16) (L' := [zR 19 0, zI l1, zI l2, zU]) (S' := [zI 1000000, zR 21 l2.toNat]) (σ' := σ) (Ps := [0 ≤ l2 ∧ l2 < 10]) (by decide +kernel) rfl ⟨h.1, trivial⟩ ?_
    replace h := h.2
    refine r_callSV (As := [zR 21 l2.toNat, zI 1000000]) (S := []) (Lc := [zR 21 l2.toNat, zI 1000000, zU, zU]) (d' := 0) (n := 2) kJ7_fill_53178 vJ7_fill_53178 lkX0_25 (by decide +kernel) (by decide) rfl rfl (Nat.le_of_ble_eq_true rfl) rfl rfl (Nat.le_of_ble_eq_true rfl) (h.monoV (fun σ2 h => ?_))
    refine r_blk [qO (.iinc 2 1), qO (.goto (-20))] (pc' := 2) (L' := [zR 19 0, zI l1, zI (l2 + 1), zU]) (S' := []) (σ' := σ2) (Ps := [-2147483648 ≤ l2 + 1 ∧ l2 + 1 ≤ 2147483647]) (by decide +kernel) rfl ⟨h.1, trivial⟩ ?_
    replace h := h.2
    exact Runs.fg (fgE (fgE (fgE (fgU fg0)))) h
theorem gX0_lay_35 (l2 : Int) (σ : Hp) {Q : Option Int → Hp → Prop} (h : ((σ 1 0 1 ≤ l2 → Q none σ) ∧ (¬ σ 1 0 1 ≤ l2 → Runs 1 mX7_wayOf 0 [zR 16 0, zI l2] [] σ (rI (fun z2 σ1 => ((z2 = 0 → Runs 2 mX0_lay 64 [zR 19 0, zU, zI l2, zI z2] [] σ1 Q) ∧ (¬ z2 = 0 → ((¬ z2 = 2 → Runs 2 mX0_lay 95 [zR 19 0, zU, zI l2, zI z2] [] σ1 Q) ∧ (z2 = 2 → Runs 2 mX0_lay 64 [zR 19 0, zU, zI l2, zI z2] [] σ1 Q))))))))) : Runs 2 mX0_lay 35 [zR 19 0, zU, zI l2, zU] [] σ Q := by
  refine r_blk [qO (.iload_n 2), qO (.aload_n 0), qF (.getfield 16) 0 0, qF (.getfield 37) 6 1] (pc' := 43) (L' := [zR 19 0, zU, zI l2, zU]) (S' := [zI (σ 1 0 1), zI l2]) (σ' := σ) (Ps := []) (by decide +kernel) rfl trivial ?_
  refine r_icmp_ge (off := 99) (tgt := 142) (by decide +kernel) (by decide) (fun c => ?_) (fun c => ?_)
  · replace h := h.1 c
    exact r_retv (by decide +kernel) rfl h
  · replace h := h.2 c
    refine r_blk [qO (.aload_n 0), qF (.getfield 20) 0 1, qO (.iload_n 2)] (pc' := 51) (L' := [zR 19 0, zU, zI l2, zU]) (S' := [zI l2, zR 16 0]) (σ' := σ) (Ps := []) (by decide +kernel) rfl trivial ?_
    refine r_callVI (As := [zI l2]) (S := []) (Lc := [zR 16 0, zI l2]) (d' := 1) (n := 1) (g := 16) (x := 0) (ci := 7) kX7_wayOf vX7_wayOf lkX0_43 (by decide +kernel) (by decide) rfl rfl (by decide) rfl rfl (Nat.le_of_ble_eq_true rfl) rfl rfl (Nat.le_of_ble_eq_true rfl) (h.monoI (fun z2 σ1 h => ?_))
    refine r_blk [qO (.istore_n 3), qO (.iload_n 3)] (pc' := 56) (L' := [zR 19 0, zU, zI l2, zI z2]) (S' := [zI z2]) (σ' := σ1) (Ps := []) (by decide +kernel) rfl trivial ?_
    refine r_if_eq (off := 8) (tgt := 64) (by decide +kernel) (by decide) (fun c => ?_) (fun c => ?_)
    · replace h := h.1 c
      exact Runs.fg (fgE (fgU (fgE (fgE fg0)))) h
    · replace h := h.2 c
      refine r_blk [qO (.iload_n 3), qO (.iconst 2)] (pc' := 61) (L' := [zR 19 0, zU, zI l2, zI z2]) (S' := [zI 2, zI z2]) (σ' := σ1) (Ps := []) (by decide +kernel) rfl trivial ?_
      refine r_icmp_ne (off := 34) (tgt := 95) (by decide +kernel) (by decide) (fun c => ?_) (fun c => ?_)
      · replace h := h.1 c
        exact Runs.fg (fgE (fgU (fgE (fgE fg0)))) h
      · replace h := h.2 c
        exact Runs.fg (fgE (fgU (fgE (fgE fg0)))) h
theorem gX0_lay_64 (l2 : Int) (l3 : Int) (σ : Hp) {Q : Option Int → Hp → Prop} (h : (0 ≤ l2 ∧ l2 < 14) ∧ (0 ≤ l2 ∧ l2 < 14) ∧ (0 ≤ l2 ∧ l2 < 14) ∧ Runs 1 mX0_layStep 0 [zR 19 0, zI (σ 2 0 l2.toNat), zI (σ 3 0 l2.toNat), zI (σ 4 0 l2.toNat)] [] σ (rV (fun σ1 => Runs 2 mX0_lay 95 [zR 19 0, zU, zI l2, zI l3] [] σ1 Q))) : Runs 2 mX0_lay 64 [zR 19 0, zU, zI l2, zI l3] [] σ Q := by
  refine r_blk [qO (.aload_n 0), qO (.aload_n 0), qF (.getfield 16) 0 0, qF (.getfield 47) 6 7, qO (.iload_n 2), qO .iaload, qO (.aload_n 0), qF (.getfield 16) 0 0, qF (.getfield 51) 6 8, qO (.iload_n 2), qO .iaload, qO (.aload_n 0), qF (.getfield 16) 0 0, qF (.getfield 54) 6 9, qO (.iload_n 2), qO .iaload] (pc' := 92) (L' := [zR 19 0, zU, zI l2, zI l3]) (S' := [zI (σ 4 0 l2.toNat), zI (σ 3 0 l2.toNat), zI (σ 2 0 l2.toNat), zR 19 0]) (σ' := σ) (Ps := [0 ≤ l2 ∧ l2 < 14, 0 ≤ l2 ∧ l2 < 14, 0 ≤ l2 ∧ l2 < 14]) (by decide +kernel) rfl ⟨h.1, h.2.1, h.2.2.1, trivial⟩ ?_
  replace h := h.2.2.2
  refine r_callVV (As := [zI (σ 2 0 l2.toNat), zI (σ 3 0 l2.toNat), zI (σ 4 0 l2.toNat)]) (S := []) (Lc := [zR 19 0, zI (σ 2 0 l2.toNat), zI (σ 3 0 l2.toNat), zI (σ 4 0 l2.toNat)]) (d' := 1) (n := 3) (g := 19) (x := 0) (ci := 0) kX0_layStep vX0_layStep lkX0_57 (by decide +kernel) (by decide) rfl rfl (by decide) rfl rfl (Nat.le_of_ble_eq_true rfl) rfl rfl (Nat.le_of_ble_eq_true rfl) (h.monoV (fun σ1 h => ?_))
  exact Runs.fg (fgE (fgU (fgE (fgE fg0)))) h
theorem gX0_lay_95 (l2 : Int) (l3 : Int) (σ : Hp) {Q : Option Int → Hp → Prop} (h : ((l3 = 1 → Runs 2 mX0_lay 105 [zR 19 0, zU, zI l2, zU] [] σ Q) ∧ (¬ l3 = 1 → ((¬ l3 = 2 → (-2147483648 ≤ l2 + 1 ∧ l2 + 1 ≤ 2147483647) ∧ Runs 2 mX0_lay 35 [zR 19 0, zU, zI (l2 + 1), zU] [] σ Q) ∧ (l3 = 2 → Runs 2 mX0_lay 105 [zR 19 0, zU, zI l2, zU] [] σ Q))))) : Runs 2 mX0_lay 95 [zR 19 0, zU, zI l2, zI l3] [] σ Q := by
  refine r_blk [qO (.iload_n 3), qO (.iconst 1)] (pc' := 97) (L' := [zR 19 0, zU, zI l2, zI l3]) (S' := [zI 1, zI l3]) (σ' := σ) (Ps := []) (by decide +kernel) rfl trivial ?_
  refine r_icmp_eq (off := 8) (tgt := 105) (by decide +kernel) (by decide) (fun c => ?_) (fun c => ?_)
  · replace h := h.1 c
    exact Runs.fg (fgE (fgU (fgE (fgU fg0)))) h
  · replace h := h.2 c
    refine r_blk [qO (.iload_n 3), qO (.iconst 2)] (pc' := 102) (L' := [zR 19 0, zU, zI l2, zI l3]) (S' := [zI 2, zI l3]) (σ' := σ) (Ps := []) (by decide +kernel) rfl trivial ?_
    refine r_icmp_ne (off := 34) (tgt := 136) (by decide +kernel) (by decide) (fun c => ?_) (fun c => ?_)
    · replace h := h.1 c
      refine r_blk [qO (.iinc 2 1), qO (.goto (-104))] (pc' := 35) (L' := [zR 19 0, zU, zI (l2 + 1), zI l3]) (S' := []) (σ' := σ) (Ps := [-2147483648 ≤ l2 + 1 ∧ l2 + 1 ≤ 2147483647]) (by decide +kernel) rfl ⟨h.1, trivial⟩ ?_
      replace h := h.2
      exact Runs.fg (fgE (fgU (fgE (fgU fg0)))) h
    · replace h := h.2 c
      exact Runs.fg (fgE (fgU (fgE (fgU fg0)))) h
theorem gX0_lay_105 (l2 : Int) (σ : Hp) {Q : Option Int → Hp → Prop} (h : (0 ≤ l2 ∧ l2 < 14) ∧ (0 ≤ l2 ∧ l2 < 14) ∧ (0 ≤ l2 ∧ l2 < 14) ∧ Runs 1 mX0_layStep 0 [zR 19 0, zI (σ 3 0 l2.toNat), zI (σ 2 0 l2.toNat), zI (σ 4 0 l2.toNat)] [] σ (rV (fun σ1 => (-2147483648 ≤ l2 + 1 ∧ l2 + 1 ≤ 2147483647) ∧ Runs 2 mX0_lay 35 [zR 19 0, zU, zI (l2 + 1), zU] [] σ1 Q))) : Runs 2 mX0_lay 105 [zR 19 0, zU, zI l2, zU] [] σ Q := by
  refine r_blk [qO (.aload_n 0), qO (.aload_n 0), qF (.getfield 16) 0 0, qF (.getfield 51) 6 8, qO (.iload_n 2), qO .iaload, qO (.aload_n 0), qF (.getfield 16) 0 0, qF (.getfield 47) 6 7, qO (.iload_n 2), qO .iaload, qO (.aload_n 0), qF (.getfield 16) 0 0, qF (.getfield 54) 6 9, qO (.iload_n 2), qO .iaload] (pc' := 133) (L' := [zR 19 0, zU, zI l2, zU]) (S' := [zI (σ 4 0 l2.toNat), zI (σ 2 0 l2.toNat), zI (σ 3 0 l2.toNat), zR 19 0]) (σ' := σ) (Ps := [0 ≤ l2 ∧ l2 < 14, 0 ≤ l2 ∧ l2 < 14, 0 ≤ l2 ∧ l2 < 14]) (by decide +kernel) rfl ⟨h.1, h.2.1, h.2.2.1, trivial⟩ ?_
  replace h := h.2.2.2
  refine r_callVV (As := [zI (σ 3 0 l2.toNat), zI (σ 2 0 l2.toNat), zI (σ 4 0 l2.toNat)]) (S := []) (Lc := [zR 19 0, zI (σ 3 0 l2.toNat), zI (σ 2 0 l2.toNat), zI (σ 4 0 l2.toNat)]) (d' := 1) (n := 3) (g := 19) (x := 0) (ci := 0) kX0_layStep vX0_layStep lkX0_57 (by decide +kernel) (by decide) rfl rfl (by decide) rfl rfl (Nat.le_of_ble_eq_true rfl) rfl rfl (Nat.le_of_ble_eq_true rfl) (h.monoV (fun σ1 h => ?_))
  refine r_blk [qO (.iinc 2 1), qO (.goto (-104))] (pc' := 35) (L' := [zR 19 0, zU, zI (l2 + 1), zU]) (S' := []) (σ' := σ1) (Ps := [-2147483648 ≤ l2 + 1 ∧ l2 + 1 ≤ 2147483647]) (by decide +kernel) rfl ⟨h.1, trivial⟩ ?_
  replace h := h.2
  exact Runs.fg (fgE (fgU (fgE (fgU fg0)))) h
theorem gX0_layStep_0 (a0 : Int) (a1 : Int) (a2 : Int) (σ : Hp) {Q : Option Int → Hp → Prop} (h : (0 ≤ a0 ∧ a0 < 10) ∧ (0 ≤ a0 ∧ a0 < 10) ∧ (0 ≤ a1 ∧ a1 < 10) ∧ (0 ≤ a1 ∧ a1 < 10) ∧ ∀ σ1 : Hp, σ1 = (zup σ 21 a0.toNat a1.toNat (if a2 < σ 21 a0.toNat a1.toNat then a2 else σ 21 a0.toNat a1.toNat)) → Q none σ1) : Runs 1 mX0_layStep 0 [zR 19 0, zI a0, zI a1, zI a2] [] σ Q := by
  refine r_blk [qO (.aload_n 0), qF (.getfield 11) 0 2, qO (.iload_n 1), qO .aaload, qO (.iload_n 2), qO (.aload_n 0), qF (.getfield 11) 0 2, qO (.iload_n 1), qO .aaload, qO (.iload_n 2), qO .iaload, qO (.iload_n 3)] (pc' := 16) (L' := [zR 19 0, zI a0, zI a1, zI a2]) (S' := [zI a2, zI (σ 21 a0.toNat a1.toNat), zI a1, zR 21 a0.toNat]) (σ' := σ) (Ps := [0 ≤ a0 ∧ a0 < 10, 0 ≤ a0 ∧ a0 < 10, 0 ≤ a1 ∧ a1 < 10]) (by decide +kernel) rfl ⟨h.1, h.2.1, h.2.2.1, trivial⟩ ?_
  replace h := h.2.2.2
  refine r_min lkX0_61 (by decide +kernel) (by decide) (Nat.le_of_ble_eq_true rfl) ?_
  refine r_blk [qO .iastore] (pc' := 20) (L' := [zR 19 0, zI a0, zI a1, zI a2]) (S' := []) (σ' := (zup σ 21 a0.toNat a1.toNat (if a2 < σ 21 a0.toNat a1.toNat then a2 else σ 21 a0.toNat a1.toNat))) (Ps := [0 ≤ a1 ∧ a1 < 10]) (by decide +kernel) rfl ⟨h.1, trivial⟩ ?_
  replace h := h.2
  generalize hσ1 : (zup σ 21 a0.toNat a1.toNat (if a2 < σ 21 a0.toNat a1.toNat then a2 else σ 21 a0.toNat a1.toNat)) = σ1
  replace h := h σ1 hσ1.symm
  exact r_retv (by decide +kernel) rfl h
theorem gX0_join_0 (σ : Hp) {Q : Option Int → Hp → Prop} (h : Runs 2 mX0_join 2 [zR 19 0, zI 0, zU] [] σ Q) : Runs 2 mX0_join 0 [zR 19 0, zU, zU] [] σ Q := by
  refine r_blk [qO (.iconst 0), qO (.istore_n 1)] (pc' := 2) (L' := [zR 19 0, zI 0, zU]) (S' := []) (σ' := σ) (Ps := []) (by decide +kernel) rfl trivial ?_
  exact Runs.fg (fgE (fgE (fgU fg0))) h
theorem gX0_join_2 (l1 : Int) (σ : Hp) {Q : Option Int → Hp → Prop} (h : ((σ 1 0 0 ≤ l1 → Q none σ) ∧ (¬ σ 1 0 0 ≤ l1 → Runs 2 mX0_join 15 [zR 19 0, zI l1, zI 0] [] σ Q))) : Runs 2 mX0_join 2 [zR 19 0, zI l1, zU] [] σ Q := by
  refine r_blk [qO (.iload_n 1), qO (.aload_n 0), qF (.getfield 16) 0 0, qF (.getfield 67) 6 0] (pc' := 10) (L' := [zR 19 0, zI l1, zU]) (S' := [zI (σ 1 0 0), zI l1]) (σ' := σ) (Ps := []) (by decide +kernel) rfl trivial ?_
  refine r_icmp_ge (off := 65) (tgt := 75) (by decide +kernel) (by decide) (fun c => ?_) (fun c => ?_)
  · replace h := h.1 c
    exact r_retv (by decide +kernel) rfl h
  · replace h := h.2 c
    refine r_blk [qO (.iconst 0), qO (.istore_n 2)] (pc' := 15) (L' := [zR 19 0, zI l1, zI 0]) (S' := []) (σ' := σ) (Ps := []) (by decide +kernel) rfl trivial ?_
    exact Runs.fg (fgE (fgE (fgE fg0))) h
theorem gX0_join_15 (l1 : Int) (l2 : Int) (σ : Hp) {Q : Option Int → Hp → Prop} (h : ((σ 1 0 0 ≤ l2 → (-2147483648 ≤ l1 + 1 ∧ l1 + 1 ≤ 2147483647) ∧ Runs 2 mX0_join 2 [zR 19 0, zI (l1 + 1), zU] [] σ Q) ∧ (¬ σ 1 0 0 ≤ l2 → (0 ≤ l2 ∧ l2 < 10) ∧ (0 ≤ l1 ∧ l1 < 10) ∧ ((1000000 ≤ σ 21 l2.toNat l1.toNat → (-2147483648 ≤ l2 + 1 ∧ l2 + 1 ≤ 2147483647) ∧ Runs 2 mX0_join 15 [zR 19 0, zI l1, zI (l2 + 1)] [] σ Q) ∧ (¬ 1000000 ≤ σ 21 l2.toNat l1.toNat → (0 ≤ l2 ∧ l2 < 10) ∧ (0 ≤ l1 ∧ l1 < 10) ∧ (0 ≤ l2 ∧ l2 < 10) ∧ (0 ≤ l1 ∧ l1 < 10) ∧ Runs 1 mX0_joinBy 0 [zR 19 0, zR 21 l2.toNat, zR 21 l1.toNat, zI (σ 21 l2.toNat l1.toNat), zU] [] σ (rV (fun σ1 => (-2147483648 ≤ l2 + 1 ∧ l2 + 1 ≤ 2147483647) ∧ Runs 2 mX0_join 15 [zR 19 0, zI l1, zI (l2 + 1)] [] σ1 Q))))))) : Runs 2 mX0_join 15 [zR 19 0, zI l1, zI l2] [] σ Q := by
  refine r_blk [qO (.iload_n 2), qO (.aload_n 0), qF (.getfield 16) 0 0, qF (.getfield 67) 6 0] (pc' := 23) (L' := [zR 19 0, zI l1, zI l2]) (S' := [zI (σ 1 0 0), zI l2]) (σ' := σ) (Ps := []) (by decide +kernel) rfl trivial ?_
  refine r_icmp_ge (off := 46) (tgt := 69) (by decide +kernel) (by decide) (fun c => ?_) (fun c => ?_)
  · replace h := h.1 c
    refine r_blk [qO (.iinc 1 1), qO (.goto (-70))] (pc' := 2) (L' := [zR 19 0, zI (l1 + 1), zI l2]) (S' := []) (σ' := σ) (Ps := [-2147483648 ≤ l1 + 1 ∧ l1 + 1 ≤ 2147483647]) (by decide +kernel) rfl ⟨h.1, trivial⟩ ?_
    replace h := h.2
    exact Runs.fg (fgE (fgE (fgU fg0))) h
  · replace h := h.2 c
    refine r_blk [qO (.aload_n 0), qF (.getfield 11) 0 2, qO (.iload_n 2), qO .aaload, qO (.iload_n 1), qO .iaload, qC (.ldc 24) 1000000] (pc' := 36) (L' := [zR 19 0, zI l1, zI l2]) (S' := [zI 1000000, zI (σ 21 l2.toNat l1.toNat)]) (σ' := σ) (Ps := [0 ≤ l2 ∧ l2 < 10, 0 ≤ l1 ∧ l1 < 10]) (by decide +kernel) rfl ⟨h.1, h.2.1, trivial⟩ ?_
    replace h := h.2.2
    refine r_icmp_ge (off := 27) (tgt := 63) (by decide +kernel) (by decide) (fun c => ?_) (fun c => ?_)
    · replace h := h.1 c
      refine r_blk [qO (.iinc 2 1), qO (.goto (-51))] (pc' := 15) (L' := [zR 19 0, zI l1, zI (l2 + 1)]) (S' := []) (σ' := σ) (Ps := [-2147483648 ≤ l2 + 1 ∧ l2 + 1 ≤ 2147483647]) (by decide +kernel) rfl ⟨h.1, trivial⟩ ?_
      replace h := h.2
      exact Runs.fg (fgE (fgE (fgE fg0))) h
    · replace h := h.2 c
      refine r_blk [qO (.aload_n 0), qO (.aload_n 0), qF (.getfield 11) 0 2, qO (.iload_n 2), qO .aaload, qO (.aload_n 0), qF (.getfield 11) 0 2, qO (.iload_n 1), qO .aaload, qO (.aload_n 0), qF (.getfield 11) 0 2, qO (.iload_n 2), qO .aaload, qO (.iload_n 1), qO .iaload] (pc' := 60) (L' := [zR 19 0, zI l1, zI l2]) (S' := [zI (σ 21 l2.toNat l1.toNat), zR 21 l1.toNat, zR 21 l2.toNat, zR 19 0]) (σ' := σ) (Ps := [0 ≤ l2 ∧ l2 < 10, 0 ≤ l1 ∧ l1 < 10, 0 ≤ l2 ∧ l2 < 10, 0 ≤ l1 ∧ l1 < 10]) (by decide +kernel) rfl ⟨h.1, h.2.1, h.2.2.1, h.2.2.2.1, trivial⟩ ?_
      replace h := h.2.2.2.2
      refine r_callVV (As := [zR 21 l2.toNat, zR 21 l1.toNat, zI (σ 21 l2.toNat l1.toNat)]) (S := []) (Lc := [zR 19 0, zR 21 l2.toNat, zR 21 l1.toNat, zI (σ 21 l2.toNat l1.toNat), zU]) (d' := 1) (n := 3) (g := 19) (x := 0) (ci := 0) kX0_joinBy vX0_joinBy lkX0_70 (by decide +kernel) (by decide) rfl rfl (by decide) rfl rfl (Nat.le_of_ble_eq_true rfl) rfl rfl (Nat.le_of_ble_eq_true rfl) (h.monoV (fun σ1 h => ?_))
      refine r_blk [qO (.iinc 2 1), qO (.goto (-51))] (pc' := 15) (L' := [zR 19 0, zI l1, zI (l2 + 1)]) (S' := []) (σ' := σ1) (Ps := [-2147483648 ≤ l2 + 1 ∧ l2 + 1 ≤ 2147483647]) (by decide +kernel) rfl ⟨h.1, trivial⟩ ?_
      replace h := h.2
      exact Runs.fg (fgE (fgE (fgE fg0))) h
theorem gX0_joinBy_0 (a2 : Int) (x : Nat) (y : Nat) (σ : Hp) {Q : Option Int → Hp → Prop} (h : Runs 1 mX0_joinBy 3 [zR 19 0, zR 21 x, zR 21 y, zI a2, zI 0] [] σ Q) : Runs 1 mX0_joinBy 0 [zR 19 0, zR 21 x, zR 21 y, zI a2, zU] [] σ Q := by
  refine r_blk [qO (.iconst 0), qO (.istore 4)] (pc' := 3) (L' := [zR 19 0, zR 21 x, zR 21 y, zI a2, zI 0]) (S' := []) (σ' := σ) (Ps := []) (by decide +kernel) rfl trivial ?_
  exact Runs.fg (fgE (fgE (fgE (fgE (fgE fg0))))) h
theorem gX0_joinBy_3 (l3 : Int) (l4 : Int) (x : Nat) (y : Nat) (σ : Hp) {Q : Option Int → Hp → Prop} (h : ((σ 1 0 0 ≤ l4 → Q none σ) ∧ (¬ σ 1 0 0 ≤ l4 → (0 ≤ l4 ∧ l4 < 10) ∧ (0 ≤ l4 ∧ l4 < 10) ∧ (-2147483648 ≤ l3 + (σ 21 y l4.toNat) ∧ l3 + (σ 21 y l4.toNat) ≤ 2147483647) ∧ (0 ≤ l4 ∧ l4 < 10) ∧ (-2147483648 ≤ l4 + 1 ∧ l4 + 1 ≤ 2147483647) ∧ ∀ σ1 : Hp, σ1 = (zup σ 21 x l4.toNat (if l3 + (σ 21 y l4.toNat) < σ 21 x l4.toNat then l3 + (σ 21 y l4.toNat) else σ 21 x l4.toNat)) → Runs 1 mX0_joinBy 3 [zR 19 0, zR 21 x, zR 21 y, zI l3, zI (l4 + 1)] [] σ1 Q))) : Runs 1 mX0_joinBy 3 [zR 19 0, zR 21 x, zR 21 y, zI l3, zI l4] [] σ Q := by
  refine r_blk [qO (.iload 4), qO (.aload_n 0), qF (.getfield 16) 0 0, qF (.getfield 67) 6 0] (pc' := 12) (L' := [zR 19 0, zR 21 x, zR 21 y, zI l3, zI l4]) (S' := [zI (σ 1 0 0), zI l4]) (σ' := σ) (Ps := []) (by decide +kernel) rfl trivial ?_
  refine r_icmp_ge (off := 26) (tgt := 38) (by decide +kernel) (by decide) (fun c => ?_) (fun c => ?_)
  · replace h := h.1 c
    exact r_retv (by decide +kernel) rfl h
  · replace h := h.2 c
    refine r_blk [qO (.aload_n 1), qO (.iload 4), qO (.aload_n 1), qO (.iload 4), qO .iaload, qO (.iload_n 3), qO (.aload_n 2), qO (.iload 4), qO .iaload, qO .iadd] (pc' := 28) (L' := [zR 19 0, zR 21 x, zR 21 y, zI l3, zI l4]) (S' := [zI (l3 + (σ 21 y l4.toNat)), zI (σ 21 x l4.toNat), zI l4, zR 21 x]) (σ' := σ) (Ps := [0 ≤ l4 ∧ l4 < 10, 0 ≤ l4 ∧ l4 < 10, -2147483648 ≤ l3 + (σ 21 y l4.toNat) ∧ l3 + (σ 21 y l4.toNat) ≤ 2147483647]) (by decide +kernel) rfl ⟨h.1, h.2.1, h.2.2.1, trivial⟩ ?_
    replace h := h.2.2.2
    refine r_min lkX0_61 (by decide +kernel) (by decide) (Nat.le_of_ble_eq_true rfl) ?_
    refine r_blk [qO .iastore, qO (.iinc 4 1), qO (.goto (-32))] (pc' := 3) (L' := [zR 19 0, zR 21 x, zR 21 y, zI l3, zI (l4 + 1)]) (S' := []) (σ' := (zup σ 21 x l4.toNat (if l3 + (σ 21 y l4.toNat) < σ 21 x l4.toNat then l3 + (σ 21 y l4.toNat) else σ 21 x l4.toNat))) (Ps := [0 ≤ l4 ∧ l4 < 10, -2147483648 ≤ l4 + 1 ∧ l4 + 1 ≤ 2147483647]) (by decide +kernel) rfl ⟨h.1, h.2.1, trivial⟩ ?_
    replace h := h.2.2
    generalize hσ1 : (zup σ 21 x l4.toNat (if l3 + (σ 21 y l4.toNat) < σ 21 x l4.toNat then l3 + (σ 21 y l4.toNat) else σ 21 x l4.toNat)) = σ1
    replace h := h σ1 hσ1.symm
    exact Runs.fg (fgE (fgE (fgE (fgE (fgE fg0))))) h
theorem gX0_pairsApart_0 (σ : Hp) {Q : Option Int → Hp → Prop} (h : Runs 1 mX0_pairsApart 4 [zR 19 0, zI 0, zI 0, zU] [] σ Q) : Runs 1 mX0_pairsApart 0 [zR 19 0, zU, zU, zU] [] σ Q := by
  refine r_blk [qO (.iconst 0), qO (.istore_n 1), qO (.iconst 0), qO (.istore_n 2)] (pc' := 4) (L' := [zR 19 0, zI 0, zI 0, zU]) (S' := []) (σ' := σ) (Ps := []) (by decide +kernel) rfl trivial ?_
  exact Runs.fg (fgE (fgE (fgE (fgU fg0)))) h
theorem gX0_pairsApart_4 (l1 : Int) (l2 : Int) (σ : Hp) {Q : Option Int → Hp → Prop} (h : ((σ 1 0 0 ≤ l2 → Q (some l1) σ) ∧ (¬ σ 1 0 0 ≤ l2 → Runs 1 mX0_pairsApart 17 [zR 19 0, zI l1, zI l2, zI 0] [] σ Q))) : Runs 1 mX0_pairsApart 4 [zR 19 0, zI l1, zI l2, zU] [] σ Q := by
  refine r_blk [qO (.iload_n 2), qO (.aload_n 0), qF (.getfield 16) 0 0, qF (.getfield 67) 6 0] (pc' := 12) (L' := [zR 19 0, zI l1, zI l2, zU]) (S' := [zI (σ 1 0 0), zI l2]) (σ' := σ) (Ps := []) (by decide +kernel) rfl trivial ?_
  refine r_icmp_ge (off := 45) (tgt := 57) (by decide +kernel) (by decide) (fun c => ?_) (fun c => ?_)
  · replace h := h.1 c
    refine r_blk [qO (.iload_n 1)] (pc' := 58) (L' := [zR 19 0, zI l1, zI l2, zU]) (S' := [zI l1]) (σ' := σ) (Ps := []) (by decide +kernel) rfl trivial ?_
    exact r_ret (by decide +kernel) rfl (fun _ => h)
  · replace h := h.2 c
    refine r_blk [qO (.iconst 0), qO (.istore_n 3)] (pc' := 17) (L' := [zR 19 0, zI l1, zI l2, zI 0]) (S' := []) (σ' := σ) (Ps := []) (by decide +kernel) rfl trivial ?_
    exact Runs.fg (fgE (fgE (fgE (fgE fg0)))) h
theorem gX0_pairsApart_17 (l1 : Int) (l2 : Int) (l3 : Int) (σ : Hp) {Q : Option Int → Hp → Prop} (h : ((σ 1 0 0 ≤ l3 → (-2147483648 ≤ l2 + 1 ∧ l2 + 1 ≤ 2147483647) ∧ Runs 1 mX0_pairsApart 4 [zR 19 0, zI l1, zI (l2 + 1), zU] [] σ Q) ∧ (¬ σ 1 0 0 ≤ l3 → Runs 0 mX0_isApart 0 [zR 19 0, zI l2, zI l3] [] σ (rI (fun z2 σ1 => ((z2 = 0 → (-2147483648 ≤ l1 + 0 ∧ l1 + 0 ≤ 2147483647) ∧ (-2147483648 ≤ l3 + 1 ∧ l3 + 1 ≤ 2147483647) ∧ Runs 1 mX0_pairsApart 17 [zR 19 0, zI (l1 + 0), zI l2, zI (l3 + 1)] [] σ1 Q) ∧ (¬ z2 = 0 → (-2147483648 ≤ l1 + 1 ∧ l1 + 1 ≤ 2147483647) ∧ (-2147483648 ≤ l3 + 1 ∧ l3 + 1 ≤ 2147483647) ∧ Runs 1 mX0_pairsApart 17 [zR 19 0, zI (l1 + 1), zI l2, zI (l3 + 1)] [] σ1 Q))))))) : Runs 1 mX0_pairsApart 17 [zR 19 0, zI l1, zI l2, zI l3] [] σ Q := by
  refine r_blk [qO (.iload_n 3), qO (.aload_n 0), qF (.getfield 16) 0 0, qF (.getfield 67) 6 0] (pc' := 25) (L' := [zR 19 0, zI l1, zI l2, zI l3]) (S' := [zI (σ 1 0 0), zI l3]) (σ' := σ) (Ps := []) (by decide +kernel) rfl trivial ?_
  refine r_icmp_ge (off := 26) (tgt := 51) (by decide +kernel) (by decide) (fun c => ?_) (fun c => ?_)
  · replace h := h.1 c
    refine r_blk [qO (.iinc 2 1), qO (.goto (-50))] (pc' := 4) (L' := [zR 19 0, zI l1, zI (l2 + 1), zI l3]) (S' := []) (σ' := σ) (Ps := [-2147483648 ≤ l2 + 1 ∧ l2 + 1 ≤ 2147483647]) (by decide +kernel) rfl ⟨h.1, trivial⟩ ?_
    replace h := h.2
    exact Runs.fg (fgE (fgE (fgE (fgU fg0)))) h
  · replace h := h.2 c
    refine r_blk [qO (.iload_n 1), qO (.aload_n 0), qO (.iload_n 2), qO (.iload_n 3)] (pc' := 32) (L' := [zR 19 0, zI l1, zI l2, zI l3]) (S' := [zI l3, zI l2, zR 19 0, zI l1]) (σ' := σ) (Ps := []) (by decide +kernel) rfl trivial ?_
    refine r_callVI (As := [zI l2, zI l3]) (S := [zI l1]) (Lc := [zR 19 0, zI l2, zI l3]) (d' := 0) (n := 2) (g := 19) (x := 0) (ci := 0) kX0_isApart vX0_isApart lkX0_74 (by decide +kernel) (by decide) rfl rfl (by decide) rfl rfl (Nat.le_of_ble_eq_true rfl) rfl rfl (Nat.le_of_ble_eq_true rfl) (h.monoI (fun z2 σ1 h => ?_))
    refine r_if_eq (off := 7) (tgt := 42) (by decide +kernel) (by decide) (fun c => ?_) (fun c => ?_)
    · replace h := h.1 c
      refine r_blk [qO (.iconst 0), qO .iadd, qO (.istore_n 1), qO (.iinc 3 1), qO (.goto (-31))] (pc' := 17) (L' := [zR 19 0, zI (l1 + 0), zI l2, zI (l3 + 1)]) (S' := []) (σ' := σ1) (Ps := [-2147483648 ≤ l1 + 0 ∧ l1 + 0 ≤ 2147483647, -2147483648 ≤ l3 + 1 ∧ l3 + 1 ≤ 2147483647]) (by decide +kernel) rfl ⟨h.1, h.2.1, trivial⟩ ?_
      replace h := h.2.2
      exact Runs.fg (fgE (fgE (fgE (fgE fg0)))) h
    · replace h := h.2 c
      refine r_blk [qO (.iconst 1), qO (.goto 4), qO .iadd, qO (.istore_n 1), qO (.iinc 3 1), qO (.goto (-31))] (pc' := 17) (L' := [zR 19 0, zI (l1 + 1), zI l2, zI (l3 + 1)]) (S' := []) (σ' := σ1) (Ps := [-2147483648 ≤ l1 + 1 ∧ l1 + 1 ≤ 2147483647, -2147483648 ≤ l3 + 1 ∧ l3 + 1 ≤ 2147483647]) (by decide +kernel) rfl ⟨h.1, h.2.1, trivial⟩ ?_
      replace h := h.2.2
      exact Runs.fg (fgE (fgE (fgE (fgE fg0)))) h
theorem gX0_firstApart_0 (σ : Hp) {Q : Option Int → Hp → Prop} (h : Runs 1 mX0_firstApart 2 [zR 19 0, zI 0, zU] [] σ Q) : Runs 1 mX0_firstApart 0 [zR 19 0, zU, zU] [] σ Q := by
  refine r_blk [qO (.iconst 0), qO (.istore_n 1)] (pc' := 2) (L' := [zR 19 0, zI 0, zU]) (S' := []) (σ' := σ) (Ps := []) (by decide +kernel) rfl trivial ?_
  exact Runs.fg (fgE (fgE (fgU fg0))) h
theorem gX0_firstApart_2 (l1 : Int) (σ : Hp) {Q : Option Int → Hp → Prop} (h : ((σ 1 0 0 ≤ l1 → Q (some (-9)) σ) ∧ (¬ σ 1 0 0 ≤ l1 → Runs 1 mX0_firstApart 15 [zR 19 0, zI l1, zI 0] [] σ Q))) : Runs 1 mX0_firstApart 2 [zR 19 0, zI l1, zU] [] σ Q := by
  refine r_blk [qO (.iload_n 1), qO (.aload_n 0), qF (.getfield 16) 0 0, qF (.getfield 67) 6 0] (pc' := 10) (L' := [zR 19 0, zI l1, zU]) (S' := [zI (σ 1 0 0), zI l1]) (σ' := σ) (Ps := []) (by decide +kernel) rfl trivial ?_
  refine r_icmp_ge (off := 47) (tgt := 57) (by decide +kernel) (by decide) (fun c => ?_) (fun c => ?_)
  · replace h := h.1 c
    refine r_blk [qO (.bipush (-9))] (pc' := 59) (L' := [zR 19 0, zI l1, zU]) (S' := [zI (-9)]) (σ' := σ) (Ps := []) (by decide +kernel) rfl trivial ?_
    exact r_ret (by decide +kernel) rfl (fun _ => h)
  · replace h := h.2 c
    refine r_blk [qO (.iconst 0), qO (.istore_n 2)] (pc' := 15) (L' := [zR 19 0, zI l1, zI 0]) (S' := []) (σ' := σ) (Ps := []) (by decide +kernel) rfl trivial ?_
    exact Runs.fg (fgE (fgE (fgE fg0))) h
theorem gX0_firstApart_15 (l1 : Int) (l2 : Int) (σ : Hp) {Q : Option Int → Hp → Prop} (h : ((σ 1 0 0 ≤ l2 → (-2147483648 ≤ l1 + 1 ∧ l1 + 1 ≤ 2147483647) ∧ Runs 1 mX0_firstApart 2 [zR 19 0, zI (l1 + 1), zU] [] σ Q) ∧ (¬ σ 1 0 0 ≤ l2 → Runs 0 mX0_isApart 0 [zR 19 0, zI l1, zI l2] [] σ (rI (fun z2 σ1 => ((z2 = 0 → (-2147483648 ≤ l2 + 1 ∧ l2 + 1 ≤ 2147483647) ∧ Runs 1 mX0_firstApart 15 [zR 19 0, zI l1, zI (l2 + 1)] [] σ1 Q) ∧ (¬ z2 = 0 → (-2147483648 ≤ 10 * l1 ∧ 10 * l1 ≤ 2147483647) ∧ (-2147483648 ≤ 100 + (10 * l1) ∧ 100 + (10 * l1) ≤ 2147483647) ∧ (-2147483648 ≤ (100 + (10 * l1)) + l2 ∧ (100 + (10 * l1)) + l2 ≤ 2147483647) ∧ Q (some ((100 + (10 * l1)) + l2)) σ1))))))) : Runs 1 mX0_firstApart 15 [zR 19 0, zI l1, zI l2] [] σ Q := by
  refine r_blk [qO (.iload_n 2), qO (.aload_n 0), qF (.getfield 16) 0 0, qF (.getfield 67) 6 0] (pc' := 23) (L' := [zR 19 0, zI l1, zI l2]) (S' := [zI (σ 1 0 0), zI l2]) (σ' := σ) (Ps := []) (by decide +kernel) rfl trivial ?_
  refine r_icmp_ge (off := 28) (tgt := 51) (by decide +kernel) (by decide) (fun c => ?_) (fun c => ?_)
  · replace h := h.1 c
    refine r_blk [qO (.iinc 1 1), qO (.goto (-52))] (pc' := 2) (L' := [zR 19 0, zI (l1 + 1), zI l2]) (S' := []) (σ' := σ) (Ps := [-2147483648 ≤ l1 + 1 ∧ l1 + 1 ≤ 2147483647]) (by decide +kernel) rfl ⟨h.1, trivial⟩ ?_
    replace h := h.2
    exact Runs.fg (fgE (fgE (fgU fg0))) h
  · replace h := h.2 c
    refine r_blk [qO (.aload_n 0), qO (.iload_n 1), qO (.iload_n 2)] (pc' := 29) (L' := [zR 19 0, zI l1, zI l2]) (S' := [zI l2, zI l1, zR 19 0]) (σ' := σ) (Ps := []) (by decide +kernel) rfl trivial ?_
    refine r_callVI (As := [zI l1, zI l2]) (S := []) (Lc := [zR 19 0, zI l1, zI l2]) (d' := 0) (n := 2) (g := 19) (x := 0) (ci := 0) kX0_isApart vX0_isApart lkX0_74 (by decide +kernel) (by decide) rfl rfl (by decide) rfl rfl (Nat.le_of_ble_eq_true rfl) rfl rfl (Nat.le_of_ble_eq_true rfl) (h.monoI (fun z2 σ1 h => ?_))
    refine r_if_eq (off := 13) (tgt := 45) (by decide +kernel) (by decide) (fun c => ?_) (fun c => ?_)
    · replace h := h.1 c
      refine r_blk [qO (.iinc 2 1), qO (.goto (-33))] (pc' := 15) (L' := [zR 19 0, zI l1, zI (l2 + 1)]) (S' := []) (σ' := σ1) (Ps := [-2147483648 ≤ l2 + 1 ∧ l2 + 1 ≤ 2147483647]) (by decide +kernel) rfl ⟨h.1, trivial⟩ ?_
      replace h := h.2
      exact Runs.fg (fgE (fgE (fgE fg0))) h
    · replace h := h.2 c
      refine r_blk [qO (.bipush 100), qO (.bipush 10), qO (.iload_n 1), qO .imul, qO .iadd, qO (.iload_n 2), qO .iadd] (pc' := 44) (L' := [zR 19 0, zI l1, zI l2]) (S' := [zI ((100 + (10 * l1)) + l2)]) (σ' := σ1) (Ps := [-2147483648 ≤ 10 * l1 ∧ 10 * l1 ≤ 2147483647, -2147483648 ≤ 100 + (10 * l1) ∧ 100 + (10 * l1) ≤ 2147483647, -2147483648 ≤ (100 + (10 * l1)) + l2 ∧ (100 + (10 * l1)) + l2 ≤ 2147483647]) (by decide +kernel) rfl ⟨h.1, h.2.1, h.2.2.1, trivial⟩ ?_
      replace h := h.2.2.2
      exact r_ret (by decide +kernel) rfl (fun _ => h)
theorem gX0_isApart_0 (a0 : Int) (a1 : Int) (σ : Hp) {Q : Option Int → Hp → Prop} (h : ((a0 = a1 → Q (some 0) σ) ∧ (¬ a0 = a1 → (0 ≤ a0 ∧ a0 < 10) ∧ (0 ≤ a1 ∧ a1 < 10) ∧ ((σ 21 a0.toNat a1.toNat < 1000000 → Q (some 0) σ) ∧ (¬ σ 21 a0.toNat a1.toNat < 1000000 → Q (some 1) σ))))) : Runs 0 mX0_isApart 0 [zR 19 0, zI a0, zI a1] [] σ Q := by
  refine r_blk [qO (.iload_n 1), qO (.iload_n 2)] (pc' := 2) (L' := [zR 19 0, zI a0, zI a1]) (S' := [zI a1, zI a0]) (σ' := σ) (Ps := []) (by decide +kernel) rfl trivial ?_
  refine r_icmp_eq (off := 20) (tgt := 22) (by decide +kernel) (by decide) (fun c => ?_) (fun c => ?_)
  · replace h := h.1 c
    refine r_blk [qO (.iconst 0)] (pc' := 23) (L' := [zR 19 0, zI a0, zI a1]) (S' := [zI 0]) (σ' := σ) (Ps := []) (by decide +kernel) rfl trivial ?_
    exact r_retz (by decide +kernel) rfl (by decide) h
  · replace h := h.2 c
    refine r_blk [qO (.aload_n 0), qF (.getfield 11) 0 2, qO (.iload_n 1), qO .aaload, qO (.iload_n 2), qO .iaload, qC (.ldc 24) 1000000] (pc' := 15) (L' := [zR 19 0, zI a0, zI a1]) (S' := [zI 1000000, zI (σ 21 a0.toNat a1.toNat)]) (σ' := σ) (Ps := [0 ≤ a0 ∧ a0 < 10, 0 ≤ a1 ∧ a1 < 10]) (by decide +kernel) rfl ⟨h.1, h.2.1, trivial⟩ ?_
    replace h := h.2.2
    refine r_icmp_lt (off := 7) (tgt := 22) (by decide +kernel) (by decide) (fun c => ?_) (fun c => ?_)
    · replace h := h.1 c
      refine r_blk [qO (.iconst 0)] (pc' := 23) (L' := [zR 19 0, zI a0, zI a1]) (S' := [zI 0]) (σ' := σ) (Ps := []) (by decide +kernel) rfl trivial ?_
      exact r_retz (by decide +kernel) rfl (by decide) h
    · replace h := h.2 c
      refine r_blk [qO (.iconst 1), qO (.goto 4)] (pc' := 23) (L' := [zR 19 0, zI a0, zI a1]) (S' := [zI 1]) (σ' := σ) (Ps := []) (by decide +kernel) rfl trivial ?_
      exact r_retz (by decide +kernel) rfl (by decide) h
theorem gX0_farthest_0 (σ : Hp) {Q : Option Int → Hp → Prop} (h : Runs 1 mX0_farthest 4 [zR 19 0, zI 0, zI 0, zU] [] σ Q) : Runs 1 mX0_farthest 0 [zR 19 0, zU, zU, zU] [] σ Q := by
  refine r_blk [qO (.iconst 0), qO (.istore_n 1), qO (.iconst 0), qO (.istore_n 2)] (pc' := 4) (L' := [zR 19 0, zI 0, zI 0, zU]) (S' := []) (σ' := σ) (Ps := []) (by decide +kernel) rfl trivial ?_
  exact Runs.fg (fgE (fgE (fgE (fgU fg0)))) h
theorem gX0_farthest_4 (l1 : Int) (l2 : Int) (σ : Hp) {Q : Option Int → Hp → Prop} (h : ((σ 1 0 0 ≤ l2 → Q (some l1) σ) ∧ (¬ σ 1 0 0 ≤ l2 → Runs 1 mX0_farthest 17 [zR 19 0, zI l1, zI l2, zI 0] [] σ Q))) : Runs 1 mX0_farthest 4 [zR 19 0, zI l1, zI l2, zU] [] σ Q := by
  refine r_blk [qO (.iload_n 2), qO (.aload_n 0), qF (.getfield 16) 0 0, qF (.getfield 67) 6 0] (pc' := 12) (L' := [zR 19 0, zI l1, zI l2, zU]) (S' := [zI (σ 1 0 0), zI l2]) (σ' := σ) (Ps := []) (by decide +kernel) rfl trivial ?_
  refine r_icmp_ge (off := 62) (tgt := 74) (by decide +kernel) (by decide) (fun c => ?_) (fun c => ?_)
  · replace h := h.1 c
    refine r_blk [qO (.iload_n 1)] (pc' := 75) (L' := [zR 19 0, zI l1, zI l2, zU]) (S' := [zI l1]) (σ' := σ) (Ps := []) (by decide +kernel) rfl trivial ?_
    exact r_ret (by decide +kernel) rfl (fun _ => h)
  · replace h := h.2 c
    refine r_blk [qO (.iconst 0), qO (.istore_n 3)] (pc' := 17) (L' := [zR 19 0, zI l1, zI l2, zI 0]) (S' := []) (σ' := σ) (Ps := []) (by decide +kernel) rfl trivial ?_
    exact Runs.fg (fgE (fgE (fgE (fgE fg0)))) h
theorem gX0_farthest_17 (l1 : Int) (l2 : Int) (l3 : Int) (σ : Hp) {Q : Option Int → Hp → Prop} (h : ((σ 1 0 0 ≤ l3 → (-2147483648 ≤ l2 + 1 ∧ l2 + 1 ≤ 2147483647) ∧ Runs 1 mX0_farthest 4 [zR 19 0, zI l1, zI (l2 + 1), zU] [] σ Q) ∧ (¬ σ 1 0 0 ≤ l3 → Runs 0 mX0_isApart 0 [zR 19 0, zI l2, zI l3] [] σ (rI (fun z2 σ1 => ((z2 = 0 → ((¬ l2 = l3 → (0 ≤ l2 ∧ l2 < 10) ∧ (0 ≤ l3 ∧ l3 < 10) ∧ (-2147483648 ≤ l3 + 1 ∧ l3 + 1 ≤ 2147483647) ∧ Runs 1 mX0_farthest 17 [zR 19 0, zI (if l1 < σ1 21 l2.toNat l3.toNat then σ1 21 l2.toNat l3.toNat else l1), zI l2, zI (l3 + 1)] [] σ1 Q) ∧ (l2 = l3 → (-2147483648 ≤ l3 + 1 ∧ l3 + 1 ≤ 2147483647) ∧ Runs 1 mX0_farthest 17 [zR 19 0, zI l1, zI l2, zI (l3 + 1)] [] σ1 Q))) ∧ (¬ z2 = 0 → Q (some (-9)) σ1))))))) : Runs 1 mX0_farthest 17 [zR 19 0, zI l1, zI l2, zI l3] [] σ Q := by
  refine r_blk [qO (.iload_n 3), qO (.aload_n 0), qF (.getfield 16) 0 0, qF (.getfield 67) 6 0] (pc' := 25) (L' := [zR 19 0, zI l1, zI l2, zI l3]) (S' := [zI (σ 1 0 0), zI l3]) (σ' := σ) (Ps := []) (by decide +kernel) rfl trivial ?_
  refine r_icmp_ge (off := 43) (tgt := 68) (by decide +kernel) (by decide) (fun c => ?_) (fun c => ?_)
  · replace h := h.1 c
    refine r_blk [qO (.iinc 2 1), qO (.goto (-67))] (pc' := 4) (L' := [zR 19 0, zI l1, zI (l2 + 1), zI l3]) (S' := []) (σ' := σ) (Ps := [-2147483648 ≤ l2 + 1 ∧ l2 + 1 ≤ 2147483647]) (by decide +kernel) rfl ⟨h.1, trivial⟩ ?_
    replace h := h.2
    exact Runs.fg (fgE (fgE (fgE (fgU fg0)))) h
  · replace h := h.2 c
    refine r_blk [qO (.aload_n 0), qO (.iload_n 2), qO (.iload_n 3)] (pc' := 31) (L' := [zR 19 0, zI l1, zI l2, zI l3]) (S' := [zI l3, zI l2, zR 19 0]) (σ' := σ) (Ps := []) (by decide +kernel) rfl trivial ?_
    refine r_callVI (As := [zI l2, zI l3]) (S := []) (Lc := [zR 19 0, zI l2, zI l3]) (d' := 0) (n := 2) (g := 19) (x := 0) (ci := 0) kX0_isApart vX0_isApart lkX0_74 (by decide +kernel) (by decide) rfl rfl (by decide) rfl rfl (Nat.le_of_ble_eq_true rfl) rfl rfl (Nat.le_of_ble_eq_true rfl) (h.monoI (fun z2 σ1 h => ?_))
    refine r_if_eq (off := 6) (tgt := 40) (by decide +kernel) (by decide) (fun c => ?_) (fun c => ?_)
    · replace h := h.1 c
      refine r_blk [qO (.iload_n 2), qO (.iload_n 3)] (pc' := 42) (L' := [zR 19 0, zI l1, zI l2, zI l3]) (S' := [zI l3, zI l2]) (σ' := σ1) (Ps := []) (by decide +kernel) rfl trivial ?_
      refine r_icmp_ne (off := 7) (tgt := 49) (by decide +kernel) (by decide) (fun c => ?_) (fun c => ?_)
      · replace h := h.1 c
        refine r_blk [qO (.iload_n 1), qO (.aload_n 0), qF (.getfield 11) 0 2, qO (.iload_n 2), qO .aaload, qO (.iload_n 3), qO .iaload] (pc' := 58) (L' := [zR 19 0, zI l1, zI l2, zI l3]) (S' := [zI (σ1 21 l2.toNat l3.toNat), zI l1]) (σ' := σ1) (Ps := [0 ≤ l2 ∧ l2 < 10, 0 ≤ l3 ∧ l3 < 10]) (by decide +kernel) rfl ⟨h.1, h.2.1, trivial⟩ ?_
        replace h := h.2.2
        refine r_max lkX0_78 (by decide +kernel) (by decide) (Nat.le_of_ble_eq_true rfl) ?_
        refine r_blk [qO (.istore_n 1), qO (.iinc 3 1), qO (.goto (-48))] (pc' := 17) (L' := [zR 19 0, zI (if l1 < σ1 21 l2.toNat l3.toNat then σ1 21 l2.toNat l3.toNat else l1), zI l2, zI (l3 + 1)]) (S' := []) (σ' := σ1) (Ps := [-2147483648 ≤ l3 + 1 ∧ l3 + 1 ≤ 2147483647]) (by decide +kernel) rfl ⟨h.1, trivial⟩ ?_
        replace h := h.2
        exact Runs.fg (fgE (fgE (fgE (fgE fg0)))) h
      · replace h := h.2 c
        refine r_blk [qO (.iload_n 1), qO (.goto 15), qO (.istore_n 1), qO (.iinc 3 1), qO (.goto (-48))] (pc' := 17) (L' := [zR 19 0, zI l1, zI l2, zI (l3 + 1)]) (S' := []) (σ' := σ1) (Ps := [-2147483648 ≤ l3 + 1 ∧ l3 + 1 ≤ 2147483647]) (by decide +kernel) rfl ⟨h.1, trivial⟩ ?_
        replace h := h.2
        exact Runs.fg (fgE (fgE (fgE (fgE fg0)))) h
    · replace h := h.2 c
      refine r_blk [qO (.bipush (-9))] (pc' := 39) (L' := [zR 19 0, zI l1, zI l2, zI l3]) (S' := [zI (-9)]) (σ' := σ1) (Ps := []) (by decide +kernel) rfl trivial ?_
      exact r_ret (by decide +kernel) rfl (fun _ => h)
theorem gX0_roundOfRow_0 (σ : Hp) {Q : Option Int → Hp → Prop} (h : Runs 0 mX0_roundOfRow 4 [zR 19 0, zI 0, zI 0, zU, zU] [] σ Q) : Runs 0 mX0_roundOfRow 0 [zR 19 0, zU, zU, zU, zU] [] σ Q := by
  refine r_blk [qO (.iconst 0), qO (.istore_n 1), qO (.iconst 0), qO (.istore_n 2)] (pc' := 4) (L' := [zR 19 0, zI 0, zI 0, zU, zU]) (S' := []) (σ' := σ) (Ps := []) (by decide +kernel) rfl trivial ?_
  exact Runs.fg (fgE (fgE (fgE (fgU (fgU fg0))))) h
theorem gX0_roundOfRow_4 (l1 : Int) (l2 : Int) (σ : Hp) {Q : Option Int → Hp → Prop} (h : ((σ 1 0 3 ≤ l2 → Q (some l1) σ) ∧ (¬ σ 1 0 3 ≤ l2 → (-2147483648 ≤ l2 + 1 ∧ l2 + 1 ≤ 2147483647) ∧ ((σ 1 0 3 ≤ l2 + 1 → (0 ≤ l2 ∧ l2 < 10) ∧ (0 ≤ σ 10 0 l2.toNat ∧ σ 10 0 l2.toNat < 10) ∧ (0 ≤ σ 10 0 0 ∧ σ 10 0 0 < 10) ∧ ((σ 21 ((σ 10 0 l2.toNat).toNat) ((σ 10 0 0).toNat) < 1000000 → (-2147483648 ≤ l1 + (σ 21 ((σ 10 0 l2.toNat).toNat) ((σ 10 0 0).toNat)) ∧ l1 + (σ 21 ((σ 10 0 l2.toNat).toNat) ((σ 10 0 0).toNat)) ≤ 2147483647) ∧ (-2147483648 ≤ l2 + 1 ∧ l2 + 1 ≤ 2147483647) ∧ Runs 0 mX0_roundOfRow 4 [zR 19 0, zI (l1 + (σ 21 ((σ 10 0 l2.toNat).toNat) ((σ 10 0 0).toNat))), zI (l2 + 1), zU, zU] [] σ Q) ∧ (¬ σ 21 ((σ 10 0 l2.toNat).toNat) ((σ 10 0 0).toNat) < 1000000 → Q (some (-9)) σ))) ∧ (¬ σ 1 0 3 ≤ l2 + 1 → (-2147483648 ≤ l2 + 1 ∧ l2 + 1 ≤ 2147483647) ∧ (0 ≤ l2 ∧ l2 < 10) ∧ (0 ≤ σ 10 0 l2.toNat ∧ σ 10 0 l2.toNat < 10) ∧ (0 ≤ l2 + 1 ∧ l2 + 1 < 10) ∧ (0 ≤ σ 10 0 ((l2 + 1).toNat) ∧ σ 10 0 ((l2 + 1).toNat) < 10) ∧ ((σ 21 ((σ 10 0 l2.toNat).toNat) ((σ 10 0 ((l2 + 1).toNat)).toNat) < 1000000 → (-2147483648 ≤ l1 + (σ 21 ((σ 10 0 l2.toNat).toNat) ((σ 10 0 ((l2 + 1).toNat)).toNat)) ∧ l1 + (σ 21 ((σ 10 0 l2.toNat).toNat) ((σ 10 0 ((l2 + 1).toNat)).toNat)) ≤ 2147483647) ∧ (-2147483648 ≤ l2 + 1 ∧ l2 + 1 ≤ 2147483647) ∧ ∀ z1 : Int, z1 = l1 + (σ 21 ((σ 10 0 l2.toNat).toNat) ((σ 10 0 ((l2 + 1).toNat)).toNat)) → Runs 0 mX0_roundOfRow 4 [zR 19 0, zI z1, zI (l2 + 1), zU, zU] [] σ Q) ∧ (¬ σ 21 ((σ 10 0 l2.toNat).toNat) ((σ 10 0 ((l2 + 1).toNat)).toNat) < 1000000 → Q (some (-9)) σ))))))) : Runs 0 mX0_roundOfRow 4 [zR 19 0, zI l1, zI l2, zU, zU] [] σ Q := by
  refine r_blk [qO (.iload_n 2), qO (.aload_n 0), qF (.getfield 16) 0 0, qF (.getfield 81) 6 3] (pc' := 12) (L' := [zR 19 0, zI l1, zI l2, zU, zU]) (S' := [zI (σ 1 0 3), zI l2]) (σ' := σ) (Ps := []) (by decide +kernel) rfl trivial ?_
  refine r_icmp_ge (off := 71) (tgt := 83) (by decide +kernel) (by decide) (fun c => ?_) (fun c => ?_)
  · replace h := h.1 c
    refine r_blk [qO (.iload_n 1)] (pc' := 84) (L' := [zR 19 0, zI l1, zI l2, zU, zU]) (S' := [zI l1]) (σ' := σ) (Ps := []) (by decide +kernel) rfl trivial ?_
    exact r_ret (by decide +kernel) rfl (fun _ => h)
  · replace h := h.2 c
    refine r_blk [qO (.iload_n 2), qO (.iconst 1), qO .iadd, qO (.aload_n 0), qF (.getfield 16) 0 0, qF (.getfield 81) 6 3] (pc' := 25) (L' := [zR 19 0, zI l1, zI l2, zU, zU]) (S' := [zI (σ 1 0 3), zI (l2 + 1)]) (σ' := σ) (Ps := [-2147483648 ≤ l2 + 1 ∧ l2 + 1 ≤ 2147483647]) (by decide +kernel) rfl ⟨h.1, trivial⟩ ?_
    replace h := h.2
    refine r_icmp_ge (off := 9) (tgt := 34) (by decide +kernel) (by decide) (fun c => ?_) (fun c => ?_)
    · replace h := h.1 c
      refine r_blk [qO (.iconst 0), qO (.istore_n 3), qO (.aload_n 0), qF (.getfield 11) 0 2, qO (.aload_n 0), qF (.getfield 16) 0 0, qF (.getfield 84) 6 15, qO (.iload_n 2), qO .iaload, qO .aaload, qO (.aload_n 0), qF (.getfield 16) 0 0, qF (.getfield 84) 6 15, qO (.iload_n 3), qO .iaload, qO .iaload, qO (.istore 4), qO (.iload 4), qC (.ldc 24) 1000000] (pc' := 66) (L' := [zR 19 0, zI l1, zI l2, zI 0, zI (σ 21 ((σ 10 0 l2.toNat).toNat) ((σ 10 0 0).toNat))]) (S' := [zI 1000000, zI (σ 21 ((σ 10 0 l2.toNat).toNat) ((σ 10 0 0).toNat))]) (σ' := σ) (Ps := [0 ≤ l2 ∧ l2 < 10, 0 ≤ σ 10 0 l2.toNat ∧ σ 10 0 l2.toNat < 10, 0 ≤ 0 ∧ 0 < 10, 0 ≤ σ 10 0 0 ∧ σ 10 0 0 < 10]) (by decide +kernel) rfl ⟨h.1, h.2.1, (by decide), h.2.2.1, trivial⟩ ?_
      replace h := h.2.2.2
      refine r_icmp_lt (off := 6) (tgt := 72) (by decide +kernel) (by decide) (fun c => ?_) (fun c => ?_)
      · replace h := h.1 c
        refine r_blk [qO (.iload_n 1), qO (.iload 4), qO .iadd, qO (.istore_n 1), qO (.iinc 2 1), qO (.goto (-76))] (pc' := 4) (L' := [zR 19 0, zI (l1 + (σ 21 ((σ 10 0 l2.toNat).toNat) ((σ 10 0 0).toNat))), zI (l2 + 1), zI 0, zI (σ 21 ((σ 10 0 l2.toNat).toNat) ((σ 10 0 0).toNat))]) (S' := []) (σ' := σ) (Ps := [-2147483648 ≤ l1 + (σ 21 ((σ 10 0 l2.toNat).toNat) ((σ 10 0 0).toNat)) ∧ l1 + (σ 21 ((σ 10 0 l2.toNat).toNat) ((σ 10 0 0).toNat)) ≤ 2147483647, -2147483648 ≤ l2 + 1 ∧ l2 + 1 ≤ 2147483647]) (by decide +kernel) rfl ⟨h.1, h.2.1, trivial⟩ ?_
        replace h := h.2.2
        exact Runs.fg (fgE (fgE (fgE (fgU (fgU fg0))))) h
      · replace h := h.2 c
        refine r_blk [qO (.bipush (-9))] (pc' := 71) (L' := [zR 19 0, zI l1, zI l2, zI 0, zI (σ 21 ((σ 10 0 l2.toNat).toNat) ((σ 10 0 0).toNat))]) (S' := [zI (-9)]) (σ' := σ) (Ps := []) (by decide +kernel) rfl trivial ?_
        exact r_ret (by decide +kernel) rfl (fun _ => h)
    · replace h := h.2 c
      refine r_blk [qO (.iload_n 2), qO (.iconst 1), qO .iadd, qO (.goto 4), qO (.istore_n 3), qO (.aload_n 0), qF (.getfield 11) 0 2, qO (.aload_n 0), qF (.getfield 16) 0 0, qF (.getfield 84) 6 15, qO (.iload_n 2), qO .iaload, qO .aaload, qO (.aload_n 0), qF (.getfield 16) 0 0, qF (.getfield 84) 6 15, qO (.iload_n 3), qO .iaload, qO .iaload, qO (.istore 4), qO (.iload 4), qC (.ldc 24) 1000000] (pc' := 66) (L' := [zR 19 0, zI l1, zI l2, zI (l2 + 1), zI (σ 21 ((σ 10 0 l2.toNat).toNat) ((σ 10 0 ((l2 + 1).toNat)).toNat))]) (S' := [zI 1000000, zI (σ 21 ((σ 10 0 l2.toNat).toNat) ((σ 10 0 ((l2 + 1).toNat)).toNat))]) (σ' := σ) (Ps := [-2147483648 ≤ l2 + 1 ∧ l2 + 1 ≤ 2147483647, 0 ≤ l2 ∧ l2 < 10, 0 ≤ σ 10 0 l2.toNat ∧ σ 10 0 l2.toNat < 10, 0 ≤ l2 + 1 ∧ l2 + 1 < 10, 0 ≤ σ 10 0 ((l2 + 1).toNat) ∧ σ 10 0 ((l2 + 1).toNat) < 10]) (by decide +kernel) rfl ⟨h.1, h.2.1, h.2.2.1, h.2.2.2.1, h.2.2.2.2.1, trivial⟩ ?_
      replace h := h.2.2.2.2.2
      refine r_icmp_lt (off := 6) (tgt := 72) (by decide +kernel) (by decide) (fun c => ?_) (fun c => ?_)
      · replace h := h.1 c
        refine r_blk [qO (.iload_n 1), qO (.iload 4), qO .iadd, qO (.istore_n 1), qO (.iinc 2 1), qO (.goto (-76))] (pc' := 4) (L' := [zR 19 0, zI (l1 + (σ 21 ((σ 10 0 l2.toNat).toNat) ((σ 10 0 ((l2 + 1).toNat)).toNat))), zI (l2 + 1), zI (l2 + 1), zI (σ 21 ((σ 10 0 l2.toNat).toNat) ((σ 10 0 ((l2 + 1).toNat)).toNat))]) (S' := []) (σ' := σ) (Ps := [-2147483648 ≤ l1 + (σ 21 ((σ 10 0 l2.toNat).toNat) ((σ 10 0 ((l2 + 1).toNat)).toNat)) ∧ l1 + (σ 21 ((σ 10 0 l2.toNat).toNat) ((σ 10 0 ((l2 + 1).toNat)).toNat)) ≤ 2147483647, -2147483648 ≤ l2 + 1 ∧ l2 + 1 ≤ 2147483647]) (by decide +kernel) rfl ⟨h.1, h.2.1, trivial⟩ ?_
        replace h := h.2.2
        generalize hz1 : l1 + (σ 21 ((σ 10 0 l2.toNat).toNat) ((σ 10 0 ((l2 + 1).toNat)).toNat)) = z1
        replace h := h z1 hz1.symm
        exact Runs.fg (fgE (fgE (fgE (fgU (fgU fg0))))) h
      · replace h := h.2 c
        refine r_blk [qO (.bipush (-9))] (pc' := 71) (L' := [zR 19 0, zI l1, zI l2, zI (l2 + 1), zI (σ 21 ((σ 10 0 l2.toNat).toNat) ((σ 10 0 ((l2 + 1).toNat)).toNat))]) (S' := [zI (-9)]) (σ' := σ) (Ps := []) (by decide +kernel) rfl trivial ?_
        exact r_ret (by decide +kernel) rfl (fun _ => h)
