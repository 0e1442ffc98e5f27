theorem gX10_bestNoon_0 (σ : Hp) {Q : Option Int → Hp → Prop} (h : Runs 1 mX7_takeAsItIs 0 [zR 16 0] [] σ (rV (fun σ1 => Runs 6 mX9_cheapestNoon 0 [zR 26 0, zU, zU, zU, zU] [] σ1 (rI (fun z3 σ2 => Q (some z3) σ2))))) : Runs 7 mX10_bestNoon 0 [zR 0 0] [] σ Q := by
  refine r_blk [qO (.aload_n 0), qF (.getfield 40) 10 4] (pc' := 4) (L' := [zR 0 0]) (S' := [zR 16 0]) (σ' := σ) (Ps := []) (by decide +kernel) rfl trivial ?_
  refine r_callVV (As := []) (S := []) (Lc := [zR 16 0]) (d' := 1) (n := 0) (g := 16) (x := 0) (ci := 7) kX7_takeAsItIs vX7_takeAsItIs lkX10_173 (by decide +kernel) (by decide) rfl rfl (by decide) rfl rfl (Nat.le_of_ble_eq_true rfl) rfl rfl (Nat.le_of_ble_eq_true rfl) (h.monoV (fun σ1 h => ?_))
  refine r_blk [qO (.aload_n 0), qF (.getfield 81) 10 9] (pc' := 11) (L' := [zR 0 0]) (S' := [zR 26 0]) (σ' := σ1) (Ps := []) (by decide +kernel) rfl trivial ?_
  refine r_callVI (As := []) (S := []) (Lc := [zR 26 0, zU, zU, zU, zU]) (d' := 6) (n := 0) (g := 26) (x := 0) (ci := 9) kX9_cheapestNoon vX9_cheapestNoon lkX10_256 (by decide +kernel) (by decide) rfl rfl (by decide) rfl rfl (Nat.le_of_ble_eq_true rfl) rfl rfl (Nat.le_of_ble_eq_true rfl) (h.monoI (fun z3 σ2 h => ?_))
  exact r_ret (by decide +kernel) rfl (fun _ => h)
theorem gX10_lives_0 (σ : Hp) {Q : Option Int → Hp → Prop} (h : Runs 1 mX7_takeAsItIs 0 [zR 16 0] [] σ (rV (fun σ1 => Runs 5 mX1_cheapestHome 0 [zR 25 0, zU, zU, zU, zU, zU] [] σ1 (rI (fun z3 σ2 => Q (some z3) σ2))))) : Runs 6 mX10_lives 0 [zR 0 0] [] σ Q := by
  refine r_blk [qO (.aload_n 0), qF (.getfield 40) 10 4] (pc' := 4) (L' := [zR 0 0]) (S' := [zR 16 0]) (σ' := σ) (Ps := []) (by decide +kernel) rfl trivial ?_
  refine r_callVV (As := []) (S := []) (Lc := [zR 16 0]) (d' := 1) (n := 0) (g := 16) (x := 0) (ci := 7) kX7_takeAsItIs vX7_takeAsItIs lkX10_173 (by decide +kernel) (by decide) rfl rfl (by decide) rfl rfl (Nat.le_of_ble_eq_true rfl) rfl rfl (Nat.le_of_ble_eq_true rfl) (h.monoV (fun σ1 h => ?_))
  refine r_blk [qO (.aload_n 0), qF (.getfield 72) 10 8] (pc' := 11) (L' := [zR 0 0]) (S' := [zR 25 0]) (σ' := σ1) (Ps := []) (by decide +kernel) rfl trivial ?_
  refine r_callVI (As := []) (S := []) (Lc := [zR 25 0, zU, zU, zU, zU, zU]) (d' := 5) (n := 0) (g := 25) (x := 0) (ci := 1) kX1_cheapestHome vX1_cheapestHome lkX10_259 (by decide +kernel) (by decide) rfl rfl (by decide) rfl rfl (Nat.le_of_ble_eq_true rfl) rfl rfl (Nat.le_of_ble_eq_true rfl) (h.monoI (fun z3 σ2 h => ?_))
  exact r_ret (by decide +kernel) rfl (fun _ => h)
theorem gX10_meets_0 (a0 : Int) (a1 : Int) (σ : Hp) {Q : Option Int → Hp → Prop} (h : Runs 0 mX6_hasErrand 0 [zR 1 0, zI a0] [] σ (rI (fun z2 σ1 => ((z2 = 0 → Runs 0 mX10_refuse 0 [zR 0 0, zI (-1)] [] σ1 (rI (fun z4 σ3 => Q (some z4) σ3))) ∧ (¬ z2 = 0 → Runs 0 mX6_hasErrand 0 [zR 1 0, zI a1] [] σ1 (rI (fun z6 σ5 => ((z6 = 0 → Runs 0 mX10_refuse 0 [zR 0 0, zI (-1)] [] σ5 (rI (fun z8 σ7 => Q (some z8) σ7))) ∧ (¬ z6 = 0 → ((¬ a0 = a1 → Runs 1 mX7_takeAsItIs 0 [zR 16 0] [] σ5 (rV (fun σ9 => Runs 5 mX10_traceErrand 0 [zR 0 0, zI a0] [] σ9 (rV (fun σ10 => Runs 5 mX10_traceErrand 0 [zR 0 0, zI a1] [] σ10 (rV (fun σ11 => (0 ≤ a0 ∧ a0 < 8) ∧ (0 ≤ a1 ∧ a1 < 8) ∧ Runs 0 mX4_crosses 0 [zR 28 a0.toNat, zR 28 a1.toNat, zU, zU] [] σ11 (rI (fun z13 σ12 => ((z13 = 0 → Q (some 0) σ12) ∧ (¬ z13 = 0 → Q (some 1) σ12))))))))))) ∧ (a0 = a1 → Runs 0 mX10_refuse 0 [zR 0 0, zI (-1)] [] σ5 (rI (fun z15 σ14 => Q (some z15) σ14))))))))))))) : Runs 6 mX10_meets 0 [zR 0 0, zI a0, zI a1] [] σ Q := by
  refine r_blk [qO (.aload_n 0), qF (.getfield 10) 10 0, qO (.iload_n 1)] (pc' := 5) (L' := [zR 0 0, zI a0, zI a1]) (S' := [zI a0, zR 1 0]) (σ' := σ) (Ps := []) (by decide +kernel) rfl trivial ?_
  refine r_callVI (As := [zI a0]) (S := []) (Lc := [zR 1 0, zI a0]) (d' := 0) (n := 1) (g := 1) (x := 0) (ci := 6) kX6_hasErrand vX6_hasErrand lkX10_140 (by decide +kernel) (by decide) rfl rfl (by decide) rfl rfl (Nat.le_of_ble_eq_true rfl) rfl rfl (Nat.le_of_ble_eq_true rfl) (h.monoI (fun z2 σ1 h => ?_))
  refine r_if_eq (off := 19) (tgt := 27) (by decide +kernel) (by decide) (fun c => ?_) (fun c => ?_)
  · replace h := h.1 c
    refine r_blk [qO (.aload_n 0), qO (.iconst (-1))] (pc' := 29) (L' := [zR 0 0, zI a0, zI a1]) (S' := [zI (-1), zR 0 0]) (σ' := σ1) (Ps := []) (by decide +kernel) rfl trivial ?_
    refine r_callVI (As := [zI (-1)]) (S := []) (Lc := [zR 0 0, zI (-1)]) (d' := 0) (n := 1) (g := 0) (x := 0) (ci := 10) kX10_refuse vX10_refuse lkX10_98 (by decide +kernel) (by decide) rfl rfl (by decide) rfl rfl (Nat.le_of_ble_eq_true rfl) rfl rfl (Nat.le_of_ble_eq_true rfl) (h.monoI (fun z4 σ3 h => ?_))
    exact r_ret (by decide +kernel) rfl (fun _ => h)
  · replace h := h.2 c
    refine r_blk [qO (.aload_n 0), qF (.getfield 10) 10 0, qO (.iload_n 2)] (pc' := 16) (L' := [zR 0 0, zI a0, zI a1]) (S' := [zI a1, zR 1 0]) (σ' := σ1) (Ps := []) (by decide +kernel) rfl trivial ?_
    refine r_callVI (As := [zI a1]) (S := []) (Lc := [zR 1 0, zI a1]) (d' := 0) (n := 1) (g := 1) (x := 0) (ci := 6) kX6_hasErrand vX6_hasErrand lkX10_140 (by decide +kernel) (by decide) rfl rfl (by decide) rfl rfl (Nat.le_of_ble_eq_true rfl) rfl rfl (Nat.le_of_ble_eq_true rfl) (h.monoI (fun z6 σ5 h => ?_))
    refine r_if_eq (off := 8) (tgt := 27) (by decide +kernel) (by decide) (fun c => ?_) (fun c => ?_)
    · replace h := h.1 c
      refine r_blk [qO (.aload_n 0), qO (.iconst (-1))] (pc' := 29) (L' := [zR 0 0, zI a0, zI a1]) (S' := [zI (-1), zR 0 0]) (σ' := σ5) (Ps := []) (by decide +kernel) rfl trivial ?_
      refine r_callVI (As := [zI (-1)]) (S := []) (Lc := [zR 0 0, zI (-1)]) (d' := 0) (n := 1) (g := 0) (x := 0) (ci := 10) kX10_refuse vX10_refuse lkX10_98 (by decide +kernel) (by decide) rfl rfl (by decide) rfl rfl (Nat.le_of_ble_eq_true rfl) rfl rfl (Nat.le_of_ble_eq_true rfl) (h.monoI (fun z8 σ7 h => ?_))
      exact r_ret (by decide +kernel) rfl (fun _ => h)
    · replace h := h.2 c
      refine r_blk [qO (.iload_n 1), qO (.iload_n 2)] (pc' := 24) (L' := [zR 0 0, zI a0, zI a1]) (S' := [zI a1, zI a0]) (σ' := σ5) (Ps := []) (by decide +kernel) rfl trivial ?_
      refine r_icmp_ne (off := 9) (tgt := 33) (by decide +kernel) (by decide) (fun c => ?_) (fun c => ?_)
      · replace h := h.1 c
        refine r_blk [qO (.aload_n 0), qF (.getfield 40) 10 4] (pc' := 37) (L' := [zR 0 0, zI a0, zI a1]) (S' := [zR 16 0]) (σ' := σ5) (Ps := []) (by decide +kernel) rfl trivial ?_
        refine r_callVV (As := []) (S := []) (Lc := [zR 16 0]) (d' := 1) (n := 0) (g := 16) (x := 0) (ci := 7) kX7_takeAsItIs vX7_takeAsItIs lkX10_173 (by decide +kernel) (by decide) rfl rfl (by decide) rfl rfl (Nat.le_of_ble_eq_true rfl) rfl rfl (Nat.le_of_ble_eq_true rfl) (h.monoV (fun σ9 h => ?_))
        refine r_blk [qO (.aload_n 0), qO (.iload_n 1)] (pc' := 42) (L' := [zR 0 0, zI a0, zI a1]) (S' := [zI a0, zR 0 0]) (σ' := σ9) (Ps := []) (by decide +kernel) rfl trivial ?_
        refine r_callVV (As := [zI a0]) (S := []) (Lc := [zR 0 0, zI a0]) (d' := 5) (n := 1) (g := 0) (x := 0) (ci := 10) kX10_traceErrand vX10_traceErrand lkX10_262 (by decide +kernel) (by decide) rfl rfl (by decide) rfl rfl (Nat.le_of_ble_eq_true rfl) rfl rfl (Nat.le_of_ble_eq_true rfl) (h.monoV (fun σ10 h => ?_))
        refine r_blk [qO (.aload_n 0), qO (.iload_n 2)] (pc' := 47) (L' := [zR 0 0, zI a0, zI a1]) (S' := [zI a1, zR 0 0]) (σ' := σ10) (Ps := []) (by decide +kernel) rfl trivial ?_
        refine r_callVV (As := [zI a1]) (S := []) (Lc := [zR 0 0, zI a1]) (d' := 5) (n := 1) (g := 0) (x := 0) (ci := 10) kX10_traceErrand vX10_traceErrand lkX10_262 (by decide +kernel) (by decide) rfl rfl (by decide) rfl rfl (Nat.le_of_ble_eq_true rfl) rfl rfl (Nat.le_of_ble_eq_true rfl) (h.monoV (fun σ11 h => ?_))
        refine r_blk [qO (.aload_n 0), qF (.getfield 87) 10 10, qO (.iload_n 1), qO .aaload, qO (.aload_n 0), qF (.getfield 87) 10 10, qO (.iload_n 2), qO .aaload] (pc' := 62) (L' := [zR 0 0, zI a0, zI a1]) (S' := [zR 28 a1.toNat, zR 28 a0.toNat]) (σ' := σ11) (Ps := [0 ≤ a0 ∧ a0 < 8, 0 ≤ a1 ∧ a1 < 8]) (by decide +kernel) rfl ⟨h.1, h.2.1, trivial⟩ ?_
        replace h := h.2.2
        refine r_callVI (As := [zR 28 a1.toNat]) (S := []) (Lc := [zR 28 a0.toNat, zR 28 a1.toNat, zU, zU]) (d' := 0) (n := 1) (g := 28) (x := a0.toNat) (ci := 4) kX4_crosses vX4_crosses lkX10_265 (by decide +kernel) (by decide) rfl rfl (by decide) rfl rfl (Nat.le_of_ble_eq_true rfl) rfl rfl (Nat.le_of_ble_eq_true rfl) (h.monoI (fun z13 σ12 h => ?_))
        refine r_if_eq (off := 7) (tgt := 72) (by decide +kernel) (by decide) (fun c => ?_) (fun c => ?_)
        · replace h := h.1 c
          refine r_blk [qO (.iconst 0)] (pc' := 73) (L' := [zR 0 0, zI a0, zI a1]) (S' := [zI 0]) (σ' := σ12) (Ps := []) (by decide +kernel) rfl trivial ?_
          exact r_ret (by decide +kernel) rfl (fun _ => h)
        · replace h := h.2 c
          refine r_blk [qO (.iconst 1), qO (.goto 4)] (pc' := 73) (L' := [zR 0 0, zI a0, zI a1]) (S' := [zI 1]) (σ' := σ12) (Ps := []) (by decide +kernel) rfl trivial ?_
          exact r_ret (by decide +kernel) rfl (fun _ => h)
      · replace h := h.2 c
        refine r_blk [qO (.aload_n 0), qO (.iconst (-1))] (pc' := 29) (L' := [zR 0 0, zI a0, zI a1]) (S' := [zI (-1), zR 0 0]) (σ' := σ5) (Ps := []) (by decide +kernel) rfl trivial ?_
        refine r_callVI (As := [zI (-1)]) (S := []) (Lc := [zR 0 0, zI (-1)]) (d' := 0) (n := 1) (g := 0) (x := 0) (ci := 10) kX10_refuse vX10_refuse lkX10_98 (by decide +kernel) (by decide) rfl rfl (by decide) rfl rfl (Nat.le_of_ble_eq_true rfl) rfl rfl (Nat.le_of_ble_eq_true rfl) (h.monoI (fun z15 σ14 h => ?_))
        exact r_ret (by decide +kernel) rfl (fun _ => h)
theorem gX10_pairs_0 (σ : Hp) {Q : Option Int → Hp → Prop} (h : Runs 1 mX7_takeAsItIs 0 [zR 16 0] [] σ (rV (fun σ1 => Runs 6 mX10_pairs 11 [zR 0 0, zI 0, zI 0, zU] [] σ1 Q))) : Runs 6 mX10_pairs 0 [zR 0 0, zU, zU, zU] [] σ Q := by
  refine r_blk [qO (.aload_n 0), qF (.getfield 40) 10 4] (pc' := 4) (L' := [zR 0 0, zU, zU, zU]) (S' := [zR 16 0]) (σ' := σ) (Ps := []) (by decide +kernel) rfl trivial ?_
  refine r_callVV (As := []) (S := []) (Lc := [zR 16 0]) (d' := 1) (n := 0) (g := 16) (x := 0) (ci := 7) kX7_takeAsItIs vX7_takeAsItIs lkX10_173 (by decide +kernel) (by decide) rfl rfl (by decide) rfl rfl (Nat.le_of_ble_eq_true rfl) rfl rfl (Nat.le_of_ble_eq_true rfl) (h.monoV (fun σ1 h => ?_))
  refine r_blk [qO (.iconst 0), qO (.istore_n 1), qO (.iconst 0), qO (.istore_n 2)] (pc' := 11) (L' := [zR 0 0, zI 0, zI 0, zU]) (S' := []) (σ' := σ1) (Ps := []) (by decide +kernel) rfl trivial ?_
  exact Runs.fg (fgE (fgE (fgE (fgU fg0)))) h
theorem gX10_pairs_11 (l1 : Int) (l2 : Int) (σ : Hp) {Q : Option Int → Hp → Prop} (h : ((σ 1 0 2 ≤ l2 → Q (some l1) σ) ∧ (¬ σ 1 0 2 ≤ l2 → Runs 5 mX10_traceErrand 0 [zR 0 0, zI l2] [] σ (rV (fun σ1 => Runs 6 mX10_pairs 29 [zR 0 0, zI l1, zI l2, zI 0] [] σ1 Q))))) : Runs 6 mX10_pairs 11 [zR 0 0, zI l1, zI l2, zU] [] σ Q := by
  refine r_blk [qO (.iload_n 2), qO (.aload_n 0), qF (.getfield 10) 10 0, qF (.getfield 269) 6 2] (pc' := 19) (L' := [zR 0 0, zI l1, zI l2, zU]) (S' := [zI (σ 1 0 2), zI l2]) (σ' := σ) (Ps := []) (by decide +kernel) rfl trivial ?_
  refine r_icmp_ge (off := 53) (tgt := 72) (by decide +kernel) (by decide) (fun c => ?_) (fun c => ?_)
  · replace h := h.1 c
    refine r_blk [qO (.iload_n 1)] (pc' := 73) (L' := [zR 0 0, zI l1, zI l2, zU]) (S' := [zI l1]) (σ' := σ) (Ps := []) (by decide +kernel) rfl trivial ?_
    exact r_ret (by decide +kernel) rfl (fun _ => h)
  · replace h := h.2 c
    refine r_blk [qO (.aload_n 0), qO (.iload_n 2)] (pc' := 24) (L' := [zR 0 0, zI l1, zI l2, zU]) (S' := [zI l2, zR 0 0]) (σ' := σ) (Ps := []) (by decide +kernel) rfl trivial ?_
    refine r_callVV (As := [zI l2]) (S := []) (Lc := [zR 0 0, zI l2]) (d' := 5) (n := 1) (g := 0) (x := 0) (ci := 10) kX10_traceErrand vX10_traceErrand lkX10_262 (by decide +kernel) (by decide) rfl rfl (by decide) rfl rfl (Nat.le_of_ble_eq_true rfl) rfl rfl (Nat.le_of_ble_eq_true rfl) (h.monoV (fun σ1 h => ?_))
    refine r_blk [qO (.iconst 0), qO (.istore_n 3)] (pc' := 29) (L' := [zR 0 0, zI l1, zI l2, zI 0]) (S' := []) (σ' := σ1) (Ps := []) (by decide +kernel) rfl trivial ?_
    exact Runs.fg (fgE (fgE (fgE (fgE fg0)))) h
theorem gX10_pairs_29 (l1 : Int) (l2 : Int) (l3 : Int) (σ : Hp) {Q : Option Int → Hp → Prop} (h : ((l2 ≤ l3 → (-2147483648 ≤ l2 + 1 ∧ l2 + 1 ≤ 2147483647) ∧ Runs 6 mX10_pairs 11 [zR 0 0, zI l1, zI (l2 + 1), zU] [] σ Q) ∧ (¬ l2 ≤ l3 → (0 ≤ l2 ∧ l2 < 8) ∧ (0 ≤ l3 ∧ l3 < 8) ∧ Runs 0 mX4_crosses 0 [zR 28 l2.toNat, zR 28 l3.toNat, zU, zU] [] σ (rI (fun z2 σ1 => ((z2 = 0 → (-2147483648 ≤ l1 + 1 ∧ l1 + 1 ≤ 2147483647) ∧ (-2147483648 ≤ l3 + 1 ∧ l3 + 1 ≤ 2147483647) ∧ Runs 6 mX10_pairs 29 [zR 0 0, zI (l1 + 1), zI l2, zI (l3 + 1)] [] σ1 Q) ∧ (¬ z2 = 0 → (-2147483648 ≤ l1 + 0 ∧ l1 + 0 ≤ 2147483647) ∧ (-2147483648 ≤ l3 + 1 ∧ l3 + 1 ≤ 2147483647) ∧ Runs 6 mX10_pairs 29 [zR 0 0, zI (l1 + 0), zI l2, zI (l3 + 1)] [] σ1 Q))))))) : Runs 6 mX10_pairs 29 [zR 0 0, zI l1, zI l2, zI l3] [] σ Q := by
  refine r_blk [qO (.iload_n 3), qO (.iload_n 2)] (pc' := 31) (L' := [zR 0 0, zI l1, zI l2, zI l3]) (S' := [zI l2, zI l3]) (σ' := σ) (Ps := []) (by decide +kernel) rfl trivial ?_
  refine r_icmp_ge (off := 35) (tgt := 66) (by decide +kernel) (by decide) (fun c => ?_) (fun c => ?_)
  · replace h := h.1 c
    refine r_blk [qO (.iinc 2 1), qO (.goto (-58))] (pc' := 11) (L' := [zR 0 0, zI l1, zI (l2 + 1), zI l3]) (S' := []) (σ' := σ) (Ps := [-2147483648 ≤ l2 + 1 ∧ l2 + 1 ≤ 2147483647]) (by decide +kernel) rfl ⟨h.1, trivial⟩ ?_
    replace h := h.2
    exact Runs.fg (fgE (fgE (fgE (fgU fg0)))) h
  · replace h := h.2 c
    refine r_blk [qO (.iload_n 1), qO (.aload_n 0), qF (.getfield 87) 10 10, qO (.iload_n 2), qO .aaload, qO (.aload_n 0), qF (.getfield 87) 10 10, qO (.iload_n 3), qO .aaload] (pc' := 47) (L' := [zR 0 0, zI l1, zI l2, zI l3]) (S' := [zR 28 l3.toNat, zR 28 l2.toNat, zI l1]) (σ' := σ) (Ps := [0 ≤ l2 ∧ l2 < 8, 0 ≤ l3 ∧ l3 < 8]) (by decide +kernel) rfl ⟨h.1, h.2.1, trivial⟩ ?_
    replace h := h.2.2
    refine r_callVI (As := [zR 28 l3.toNat]) (S := [zI l1]) (Lc := [zR 28 l2.toNat, zR 28 l3.toNat, zU, zU]) (d' := 0) (n := 1) (g := 28) (x := l2.toNat) (ci := 4) kX4_crosses vX4_crosses lkX10_265 (by decide +kernel) (by decide) rfl rfl (by decide) rfl rfl (Nat.le_of_ble_eq_true rfl) rfl rfl (Nat.le_of_ble_eq_true rfl) (h.monoI (fun z2 σ1 h => ?_))
    refine r_if_eq (off := 7) (tgt := 57) (by decide +kernel) (by decide) (fun c => ?_) (fun c => ?_)
    · replace h := h.1 c
      refine r_blk [qO (.iconst 1), qO .iadd, qO (.istore_n 1), qO (.iinc 3 1), qO (.goto (-34))] (pc' := 29) (L' := [zR 0 0, zI (l1 + 1), zI l2, zI (l3 + 1)]) (S' := []) (σ' := σ1) (Ps := [-2147483648 ≤ l1 + 1 ∧ l1 + 1 ≤ 2147483647, -2147483648 ≤ l3 + 1 ∧ l3 + 1 ≤ 2147483647]) (by decide +kernel) rfl ⟨h.1, h.2.1, trivial⟩ ?_
      replace h := h.2.2
      exact Runs.fg (fgE (fgE (fgE (fgE fg0)))) h
    · replace h := h.2 c
      refine r_blk [qO (.iconst 0), qO (.goto 4), qO .iadd, qO (.istore_n 1), qO (.iinc 3 1), qO (.goto (-34))] (pc' := 29) (L' := [zR 0 0, zI (l1 + 0), zI l2, zI (l3 + 1)]) (S' := []) (σ' := σ1) (Ps := [-2147483648 ≤ l1 + 0 ∧ l1 + 0 ≤ 2147483647, -2147483648 ≤ l3 + 1 ∧ l3 + 1 ≤ 2147483647]) (by decide +kernel) rfl ⟨h.1, h.2.1, trivial⟩ ?_
      replace h := h.2.2
      exact Runs.fg (fgE (fgE (fgE (fgE fg0)))) h
theorem gX10_lanes_0 (a0 : Int) (a1 : Int) (a2 : Int) (σ : Hp) {Q : Option Int → Hp → Prop} (h : Runs 0 mX6_hasCorner 0 [zR 1 0, zI a0] [] σ (rI (fun z2 σ1 => ((¬ z2 = 0 → ((a1 < 0 → Runs 0 mX10_refuse 0 [zR 0 0, zI (-4)] [] σ1 (rI (fun z4 σ3 => Q (some z4) σ3))) ∧ (¬ a1 < 0 → ((0 ≤ a2 → ((2879 < a1 → Runs 0 mX10_refuse 0 [zR 0 0, zI (-6)] [] σ1 (rI (fun z6 σ5 => Q (some z6) σ5))) ∧ (¬ 2879 < a1 → ((2879 < a2 → Runs 0 mX10_refuse 0 [zR 0 0, zI (-6)] [] σ1 (rI (fun z8 σ7 => Q (some z8) σ7))) ∧ (¬ 2879 < a2 → ((σ1 1 0 1 ≤ 10 → Runs 1 mX7_takeAsItIs 0 [zR 16 0] [] σ1 (rV (fun σ9 => Runs 4 mX9_fewestForReach 0 [zR 26 0, zI a0, zI a1, zI a2, zU, zU] [] σ9 (rI (fun z11 σ10 => Q (some z11) σ10))))) ∧ (¬ σ1 1 0 1 ≤ 10 → Runs 0 mX10_refuse 0 [zR 0 0, zI (-6)] [] σ1 (rI (fun z13 σ12 => Q (some z13) σ12))))))))) ∧ (¬ 0 ≤ a2 → Runs 0 mX10_refuse 0 [zR 0 0, zI (-4)] [] σ1 (rI (fun z15 σ14 => Q (some z15) σ14))))))) ∧ (z2 = 0 → Runs 0 mX10_refuse 0 [zR 0 0, zI (-1)] [] σ1 (rI (fun z17 σ16 => Q (some z17) σ16))))))) : Runs 5 mX10_lanes 0 [zR 0 0, zI a0, zI a1, zI a2] [] σ Q := by
  refine r_blk [qO (.aload_n 0), qF (.getfield 10) 10 0, qO (.iload_n 1)] (pc' := 5) (L' := [zR 0 0, zI a0, zI a1, zI a2]) (S' := [zI a0, zR 1 0]) (σ' := σ) (Ps := []) (by decide +kernel) rfl trivial ?_
  refine r_callVI (As := [zI a0]) (S := []) (Lc := [zR 1 0, zI a0]) (d' := 0) (n := 1) (g := 1) (x := 0) (ci := 6) kX6_hasCorner vX6_hasCorner lkX10_241 (by decide +kernel) (by decide) rfl rfl (by decide) rfl rfl (Nat.le_of_ble_eq_true rfl) rfl rfl (Nat.le_of_ble_eq_true rfl) (h.monoI (fun z2 σ1 h => ?_))
  refine r_if_ne (off := 9) (tgt := 17) (by decide +kernel) (by decide) (fun c => ?_) (fun c => ?_)
  · replace h := h.1 c
    refine r_blk [qO (.iload_n 2)] (pc' := 18) (L' := [zR 0 0, zI a0, zI a1, zI a2]) (S' := [zI a1]) (σ' := σ1) (Ps := []) (by decide +kernel) rfl trivial ?_
    refine r_if_lt (off := 7) (tgt := 25) (by decide +kernel) (by decide) (fun c => ?_) (fun c => ?_)
    · replace h := h.1 c
      refine r_blk [qO (.aload_n 0), qO (.bipush (-4))] (pc' := 28) (L' := [zR 0 0, zI a0, zI a1, zI a2]) (S' := [zI (-4), zR 0 0]) (σ' := σ1) (Ps := []) (by decide +kernel) rfl trivial ?_
      refine r_callVI (As := [zI (-4)]) (S := []) (Lc := [zR 0 0, zI (-4)]) (d' := 0) (n := 1) (g := 0) (x := 0) (ci := 10) kX10_refuse vX10_refuse lkX10_98 (by decide +kernel) (by decide) rfl rfl (by decide) rfl rfl (Nat.le_of_ble_eq_true rfl) rfl rfl (Nat.le_of_ble_eq_true rfl) (h.monoI (fun z4 σ3 h => ?_))
      exact r_ret (by decide +kernel) rfl (fun _ => h)
    · replace h := h.2 c
      refine r_blk [qO (.iload_n 3)] (pc' := 22) (L' := [zR 0 0, zI a0, zI a1, zI a2]) (S' := [zI a2]) (σ' := σ1) (Ps := []) (by decide +kernel) rfl trivial ?_
      refine r_if_ge (off := 10) (tgt := 32) (by decide +kernel) (by decide) (fun c => ?_) (fun c => ?_)
      · replace h := h.1 c
        refine r_blk [qO (.iload_n 2), qO (.sipush 2879)] (pc' := 36) (L' := [zR 0 0, zI a0, zI a1, zI a2]) (S' := [zI 2879, zI a1]) (σ' := σ1) (Ps := []) (by decide +kernel) rfl trivial ?_
        refine r_icmp_gt (off := 22) (tgt := 58) (by decide +kernel) (by decide) (fun c => ?_) (fun c => ?_)
        · replace h := h.1 c
          refine r_blk [qO (.aload_n 0), qO (.bipush (-6))] (pc' := 61) (L' := [zR 0 0, zI a0, zI a1, zI a2]) (S' := [zI (-6), zR 0 0]) (σ' := σ1) (Ps := []) (by decide +kernel) rfl trivial ?_
          refine r_callVI (As := [zI (-6)]) (S := []) (Lc := [zR 0 0, zI (-6)]) (d' := 0) (n := 1) (g := 0) (x := 0) (ci := 10) kX10_refuse vX10_refuse lkX10_98 (by decide +kernel) (by decide) rfl rfl (by decide) rfl rfl (Nat.le_of_ble_eq_true rfl) rfl rfl (Nat.le_of_ble_eq_true rfl) (h.monoI (fun z6 σ5 h => ?_))
          exact r_ret (by decide +kernel) rfl (fun _ => h)
        · replace h := h.2 c
          refine r_blk [qO (.iload_n 3), qO (.sipush 2879)] (pc' := 43) (L' := [zR 0 0, zI a0, zI a1, zI a2]) (S' := [zI 2879, zI a2]) (σ' := σ1) (Ps := []) (by decide +kernel) rfl trivial ?_
          refine r_icmp_gt (off := 15) (tgt := 58) (by decide +kernel) (by decide) (fun c => ?_) (fun c => ?_)
          · replace h := h.1 c
            refine r_blk [qO (.aload_n 0), qO (.bipush (-6))] (pc' := 61) (L' := [zR 0 0, zI a0, zI a1, zI a2]) (S' := [zI (-6), zR 0 0]) (σ' := σ1) (Ps := []) (by decide +kernel) rfl trivial ?_
            refine r_callVI (As := [zI (-6)]) (S := []) (Lc := [zR 0 0, zI (-6)]) (d' := 0) (n := 1) (g := 0) (x := 0) (ci := 10) kX10_refuse vX10_refuse lkX10_98 (by decide +kernel) (by decide) rfl rfl (by decide) rfl rfl (Nat.le_of_ble_eq_true rfl) rfl rfl (Nat.le_of_ble_eq_true rfl) (h.monoI (fun z8 σ7 h => ?_))
            exact r_ret (by decide +kernel) rfl (fun _ => h)
          · replace h := h.2 c
            refine r_blk [qO (.aload_n 0), qF (.getfield 10) 10 0, qF (.getfield 164) 6 1, qO (.bipush 10)] (pc' := 55) (L' := [zR 0 0, zI a0, zI a1, zI a2]) (S' := [zI 10, zI (σ1 1 0 1)]) (σ' := σ1) (Ps := []) (by decide +kernel) rfl trivial ?_
            refine r_icmp_le (off := 10) (tgt := 65) (by decide +kernel) (by decide) (fun c => ?_) (fun c => ?_)
            · replace h := h.1 c
              refine r_blk [qO (.aload_n 0), qF (.getfield 40) 10 4] (pc' := 69) (L' := [zR 0 0, zI a0, zI a1, zI a2]) (S' := [zR 16 0]) (σ' := σ1) (Ps := []) (by decide +kernel) rfl trivial ?_
              refine r_callVV (As := []) (S := []) (Lc := [zR 16 0]) (d' := 1) (n := 0) (g := 16) (x := 0) (ci := 7) kX7_takeAsItIs vX7_takeAsItIs lkX10_173 (by decide +kernel) (by decide) rfl rfl (by decide) rfl rfl (Nat.le_of_ble_eq_true rfl) rfl rfl (Nat.le_of_ble_eq_true rfl) (h.monoV (fun σ9 h => ?_))
              refine r_blk [qO (.aload_n 0), qF (.getfield 81) 10 9, qO (.iload_n 1), qO (.iload_n 2), qO (.iload_n 3)] (pc' := 79) (L' := [zR 0 0, zI a0, zI a1, zI a2]) (S' := [zI a2, zI a1, zI a0, zR 26 0]) (σ' := σ9) (Ps := []) (by decide +kernel) rfl trivial ?_
              refine r_callVI (As := [zI a0, zI a1, zI a2]) (S := []) (Lc := [zR 26 0, zI a0, zI a1, zI a2, zU, zU]) (d' := 4) (n := 3) (g := 26) (x := 0) (ci := 9) kX9_fewestForReach vX9_fewestForReach lkX10_272 (by decide +kernel) (by decide) rfl rfl (by decide) rfl rfl (Nat.le_of_ble_eq_true rfl) rfl rfl (Nat.le_of_ble_eq_true rfl) (h.monoI (fun z11 σ10 h => ?_))
              exact r_ret (by decide +kernel) rfl (fun _ => h)
            · replace h := h.2 c
              refine r_blk [qO (.aload_n 0), qO (.bipush (-6))] (pc' := 61) (L' := [zR 0 0, zI a0, zI a1, zI a2]) (S' := [zI (-6), zR 0 0]) (σ' := σ1) (Ps := []) (by decide +kernel) rfl trivial ?_
              refine r_callVI (As := [zI (-6)]) (S := []) (Lc := [zR 0 0, zI (-6)]) (d' := 0) (n := 1) (g := 0) (x := 0) (ci := 10) kX10_refuse vX10_refuse lkX10_98 (by decide +kernel) (by decide) rfl rfl (by decide) rfl rfl (Nat.le_of_ble_eq_true rfl) rfl rfl (Nat.le_of_ble_eq_true rfl) (h.monoI (fun z13 σ12 h => ?_))
              exact r_ret (by decide +kernel) rfl (fun _ => h)
      · replace h := h.2 c
        refine r_blk [qO (.aload_n 0), qO (.bipush (-4))] (pc' := 28) (L' := [zR 0 0, zI a0, zI a1, zI a2]) (S' := [zI (-4), zR 0 0]) (σ' := σ1) (Ps := []) (by decide +kernel) rfl trivial ?_
        refine r_callVI (As := [zI (-4)]) (S := []) (Lc := [zR 0 0, zI (-4)]) (d' := 0) (n := 1) (g := 0) (x := 0) (ci := 10) kX10_refuse vX10_refuse lkX10_98 (by decide +kernel) (by decide) rfl rfl (by decide) rfl rfl (Nat.le_of_ble_eq_true rfl) rfl rfl (Nat.le_of_ble_eq_true rfl) (h.monoI (fun z15 σ14 h => ?_))
        exact r_ret (by decide +kernel) rfl (fun _ => h)
  · replace h := h.2 c
    refine r_blk [qO (.aload_n 0), qO (.iconst (-1))] (pc' := 13) (L' := [zR 0 0, zI a0, zI a1, zI a2]) (S' := [zI (-1), zR 0 0]) (σ' := σ1) (Ps := []) (by decide +kernel) rfl trivial ?_
    refine r_callVI (As := [zI (-1)]) (S := []) (Lc := [zR 0 0, zI (-1)]) (d' := 0) (n := 1) (g := 0) (x := 0) (ci := 10) kX10_refuse vX10_refuse lkX10_98 (by decide +kernel) (by decide) rfl rfl (by decide) rfl rfl (Nat.le_of_ble_eq_true rfl) rfl rfl (Nat.le_of_ble_eq_true rfl) (h.monoI (fun z17 σ16 h => ?_))
    exact r_ret (by decide +kernel) rfl (fun _ => h)
theorem gX10_shuts_0 (a0 : Int) (σ : Hp) {Q : Option Int → Hp → Prop} (h : Runs 0 mX6_hasStreet 0 [zR 1 0, zI a0] [] σ (rI (fun z2 σ1 => ((¬ z2 = 0 → Runs 1 mX7_takeAsItIs 0 [zR 16 0] [] σ1 (rV (fun σ3 => Runs 6 mX1_total 0 [zR 25 0] [] σ3 (rI (fun z5 σ4 => Runs 0 mX7_shutAlso 0 [zR 16 0, zI a0] [] σ4 (rV (fun σ6 => Runs 6 mX1_total 0 [zR 25 0] [] σ6 (rI (fun z8 σ7 => (-2147483648 ≤ z8 - z5 ∧ z8 - z5 ≤ 2147483647) ∧ Q (some (z8 - z5)) σ7))))))))) ∧ (z2 = 0 → Runs 0 mX10_refuse 0 [zR 0 0, zI (-1)] [] σ1 (rI (fun z10 σ9 => (-2147483648 ≤ 1000000000 - z10 ∧ 1000000000 - z10 ≤ 2147483647) ∧ Q (some (1000000000 - z10)) σ9))))))) : Runs 7 mX10_shuts 0 [zR 0 0, zI a0, zU] [] σ Q := by
  refine r_blk [qO (.aload_n 0), qF (.getfield 10) 10 0, qO (.iload_n 1)] (pc' := 5) (L' := [zR 0 0, zI a0, zU]) (S' := [zI a0, zR 1 0]) (σ' := σ) (Ps := []) (by decide +kernel) rfl trivial ?_
  refine r_callVI (As := [zI a0]) (S := []) (Lc := [zR 1 0, zI a0]) (d' := 0) (n := 1) (g := 1) (x := 0) (ci := 6) kX6_hasStreet vX6_hasStreet lkX10_114 (by decide +kernel) (by decide) rfl rfl (by decide) rfl rfl (Nat.le_of_ble_eq_true rfl) rfl rfl (Nat.le_of_ble_eq_true rfl) (h.monoI (fun z2 σ1 h => ?_))
  refine r_if_ne (off := 13) (tgt := 21) (by decide +kernel) (by decide) (fun c => ?_) (fun c => ?_)
  · replace h := h.1 c
    refine r_blk [qO (.aload_n 0), qF (.getfield 40) 10 4] (pc' := 25) (L' := [zR 0 0, zI a0, zU]) (S' := [zR 16 0]) (σ' := σ1) (Ps := []) (by decide +kernel) rfl trivial ?_
    refine r_callVV (As := []) (S := []) (Lc := [zR 16 0]) (d' := 1) (n := 0) (g := 16) (x := 0) (ci := 7) kX7_takeAsItIs vX7_takeAsItIs lkX10_173 (by decide +kernel) (by decide) rfl rfl (by decide) rfl rfl (Nat.le_of_ble_eq_true rfl) rfl rfl (Nat.le_of_ble_eq_true rfl) (h.monoV (fun σ3 h => ?_))
    refine r_blk [qO (.aload_n 0), qF (.getfield 72) 10 8] (pc' := 32) (L' := [zR 0 0, zI a0, zU]) (S' := [zR 25 0]) (σ' := σ3) (Ps := []) (by decide +kernel) rfl trivial ?_
    refine r_callVI (As := []) (S := []) (Lc := [zR 25 0]) (d' := 6) (n := 0) (g := 25) (x := 0) (ci := 1) kX1_total vX1_total lkX10_223 (by decide +kernel) (by decide) rfl rfl (by decide) rfl rfl (Nat.le_of_ble_eq_true rfl) rfl rfl (Nat.le_of_ble_eq_true rfl) (h.monoI (fun z5 σ4 h => ?_))
    refine r_blk [qO (.istore_n 2), qO (.aload_n 0), qF (.getfield 40) 10 4, qO (.iload_n 1)] (pc' := 41) (L' := [zR 0 0, zI a0, zI z5]) (S' := [zI a0, zR 16 0]) (σ' := σ4) (Ps := []) (by decide +kernel) rfl trivial ?_
    refine r_callVV (As := [zI a0]) (S := []) (Lc := [zR 16 0, zI a0]) (d' := 0) (n := 1) (g := 16) (x := 0) (ci := 7) kX7_shutAlso vX7_shutAlso lkX10_276 (by decide +kernel) (by decide) rfl rfl (by decide) rfl rfl (Nat.le_of_ble_eq_true rfl) rfl rfl (Nat.le_of_ble_eq_true rfl) (h.monoV (fun σ6 h => ?_))
    refine r_blk [qO (.aload_n 0), qF (.getfield 72) 10 8] (pc' := 48) (L' := [zR 0 0, zI a0, zI z5]) (S' := [zR 25 0]) (σ' := σ6) (Ps := []) (by decide +kernel) rfl trivial ?_
    refine r_callVI (As := []) (S := []) (Lc := [zR 25 0]) (d' := 6) (n := 0) (g := 25) (x := 0) (ci := 1) kX1_total vX1_total lkX10_223 (by decide +kernel) (by decide) rfl rfl (by decide) rfl rfl (Nat.le_of_ble_eq_true rfl) rfl rfl (Nat.le_of_ble_eq_true rfl) (h.monoI (fun z8 σ7 h => ?_))
    refine r_blk [qO (.iload_n 2), qO .isub] (pc' := 53) (L' := [zR 0 0, zI a0, zI z5]) (S' := [zI (z8 - z5)]) (σ' := σ7) (Ps := [-2147483648 ≤ z8 - z5 ∧ z8 - z5 ≤ 2147483647]) (by decide +kernel) rfl ⟨h.1, trivial⟩ ?_
    replace h := h.2
    exact r_ret (by decide +kernel) rfl (fun _ => h)
  · replace h := h.2 c
    refine r_blk [qC (.ldc_w 275) 1000000000, qO (.aload_n 0), qO (.iconst (-1))] (pc' := 16) (L' := [zR 0 0, zI a0, zU]) (S' := [zI (-1), zR 0 0, zI 1000000000]) (σ' := σ1) (Ps := []) (by decide +kernel) rfl trivial ?_
    refine r_callVI (As := [zI (-1)]) (S := [zI 1000000000]) (Lc := [zR 0 0, zI (-1)]) (d' := 0) (n := 1) (g := 0) (x := 0) (ci := 10) kX10_refuse vX10_refuse lkX10_98 (by decide +kernel) (by decide) rfl rfl (by decide) rfl rfl (Nat.le_of_ble_eq_true rfl) rfl rfl (Nat.le_of_ble_eq_true rfl) (h.monoI (fun z10 σ9 h => ?_))
    refine r_blk [qO .isub] (pc' := 20) (L' := [zR 0 0, zI a0, zU]) (S' := [zI (1000000000 - z10)]) (σ' := σ9) (Ps := [-2147483648 ≤ 1000000000 - z10 ∧ 1000000000 - z10 ≤ 2147483647]) (by decide +kernel) rfl ⟨h.1, trivial⟩ ?_
    replace h := h.2
    exact r_ret (by decide +kernel) rfl (fun _ => h)
theorem gX10_days_0 (a0 : Int) (a1 : Int) (σ : Hp) {Q : Option Int → Hp → Prop} (h : ((1 ≤ a0 → ((a0 ≤ 10 → Runs 1 mX7_takeAsItIs 0 [zR 16 0] [] σ (rV (fun σ1 => Runs 5 mX1_totalOfDays 0 [zR 25 0, zI a0, zI a1, zU, zU, zU] [] σ1 (rI (fun z3 σ2 => Q (some z3) σ2))))) ∧ (¬ a0 ≤ 10 → Runs 0 mX10_refuse 0 [zR 0 0, zI (-6)] [] σ (rI (fun z5 σ4 => Q (some z5) σ4))))) ∧ (¬ 1 ≤ a0 → Runs 0 mX10_refuse 0 [zR 0 0, zI (-4)] [] σ (rI (fun z7 σ6 => Q (some z7) σ6))))) : Runs 6 mX10_days 0 [zR 0 0, zI a0, zI a1] [] σ Q := by
  refine r_blk [qO (.iload_n 1), qO (.iconst 1)] (pc' := 2) (L' := [zR 0 0, zI a0, zI a1]) (S' := [zI 1, zI a0]) (σ' := σ) (Ps := []) (by decide +kernel) rfl trivial ?_
  refine r_icmp_ge (off := 10) (tgt := 12) (by decide +kernel) (by decide) (fun c => ?_) (fun c => ?_)
  · replace h := h.1 c
    refine r_blk [qO (.iload_n 1), qO (.bipush 10)] (pc' := 15) (L' := [zR 0 0, zI a0, zI a1]) (S' := [zI 10, zI a0]) (σ' := σ) (Ps := []) (by decide +kernel) rfl trivial ?_
    refine r_icmp_le (off := 10) (tgt := 25) (by decide +kernel) (by decide) (fun c => ?_) (fun c => ?_)
    · replace h := h.1 c
      refine r_blk [qO (.aload_n 0), qF (.getfield 40) 10 4] (pc' := 29) (L' := [zR 0 0, zI a0, zI a1]) (S' := [zR 16 0]) (σ' := σ) (Ps := []) (by decide +kernel) rfl trivial ?_
      refine r_callVV (As := []) (S := []) (Lc := [zR 16 0]) (d' := 1) (n := 0) (g := 16) (x := 0) (ci := 7) kX7_takeAsItIs vX7_takeAsItIs lkX10_173 (by decide +kernel) (by decide) rfl rfl (by decide) rfl rfl (Nat.le_of_ble_eq_true rfl) rfl rfl (Nat.le_of_ble_eq_true rfl) (h.monoV (fun σ1 h => ?_))
      refine r_blk [qO (.aload_n 0), qF (.getfield 72) 10 8, qO (.iload_n 1), qO (.iload_n 2)] (pc' := 38) (L' := [zR 0 0, zI a0, zI a1]) (S' := [zI a1, zI a0, zR 25 0]) (σ' := σ1) (Ps := []) (by decide +kernel) rfl trivial ?_
      refine r_callVI (As := [zI a0, zI a1]) (S := []) (Lc := [zR 25 0, zI a0, zI a1, zU, zU, zU]) (d' := 5) (n := 2) (g := 25) (x := 0) (ci := 1) kX1_totalOfDays vX1_totalOfDays lkX10_279 (by decide +kernel) (by decide) rfl rfl (by decide) rfl rfl (Nat.le_of_ble_eq_true rfl) rfl rfl (Nat.le_of_ble_eq_true rfl) (h.monoI (fun z3 σ2 h => ?_))
      exact r_ret (by decide +kernel) rfl (fun _ => h)
    · replace h := h.2 c
      refine r_blk [qO (.aload_n 0), qO (.bipush (-6))] (pc' := 21) (L' := [zR 0 0, zI a0, zI a1]) (S' := [zI (-6), zR 0 0]) (σ' := σ) (Ps := []) (by decide +kernel) rfl trivial ?_
      refine r_callVI (As := [zI (-6)]) (S := []) (Lc := [zR 0 0, zI (-6)]) (d' := 0) (n := 1) (g := 0) (x := 0) (ci := 10) kX10_refuse vX10_refuse lkX10_98 (by decide +kernel) (by decide) rfl rfl (by decide) rfl rfl (Nat.le_of_ble_eq_true rfl) rfl rfl (Nat.le_of_ble_eq_true rfl) (h.monoI (fun z5 σ4 h => ?_))
      exact r_ret (by decide +kernel) rfl (fun _ => h)
  · replace h := h.2 c
    refine r_blk [qO (.aload_n 0), qO (.bipush (-4))] (pc' := 8) (L' := [zR 0 0, zI a0, zI a1]) (S' := [zI (-4), zR 0 0]) (σ' := σ) (Ps := []) (by decide +kernel) rfl trivial ?_
    refine r_callVI (As := [zI (-4)]) (S := []) (Lc := [zR 0 0, zI (-4)]) (d' := 0) (n := 1) (g := 0) (x := 0) (ci := 10) kX10_refuse vX10_refuse lkX10_98 (by decide +kernel) (by decide) rfl rfl (by decide) rfl rfl (Nat.le_of_ble_eq_true rfl) rfl rfl (Nat.le_of_ble_eq_true rfl) (h.monoI (fun z7 σ6 h => ?_))
    exact r_ret (by decide +kernel) rfl (fun _ => h)
theorem gX10_judge_0 (σ : Hp) {Q : Option Int → Hp → Prop} (h : Runs 1 mX6_firstMustUnkept 0 [zR 1 0, zI (σ 1 0 6), zU] [] σ (rI (fun z2 σ1 => ((z2 = (-1) → Runs 3 mX10_freezeAsItIs 0 [zR 0 0, zI 0] [] σ1 (rV (fun σ3 => Runs 1 mX0_firstApart 0 [zR 19 0, zU, zU] [] σ3 (rI (fun z5 σ4 => Q (some z5) σ4))))) ∧ (¬ z2 = (-1) → Q (some z2) σ1))))) : Runs 4 mX10_judge 0 [zR 0 0, zU] [] σ Q := by
  refine r_blk [qO (.aload_n 0), qF (.getfield 10) 10 0, qO (.aload_n 0), qF (.getfield 10) 10 0, qF (.getfield 167) 6 6] (pc' := 11) (L' := [zR 0 0, zU]) (S' := [zI (σ 1 0 6), zR 1 0]) (σ' := σ) (Ps := []) (by decide +kernel) rfl trivial ?_
  refine r_callVI (As := [zI (σ 1 0 6)]) (S := []) (Lc := [zR 1 0, zI (σ 1 0 6), zU]) (d' := 1) (n := 1) (g := 1) (x := 0) (ci := 6) kX6_firstMustUnkept vX6_firstMustUnkept lkX10_282 (by decide +kernel) (by decide) rfl rfl (by decide) rfl rfl (Nat.le_of_ble_eq_true rfl) rfl rfl (Nat.le_of_ble_eq_true rfl) (h.monoI (fun z2 σ1 h => ?_))
  refine r_blk [qO (.istore_n 1), qO (.iload_n 1), qO (.iconst (-1))] (pc' := 17) (L' := [zR 0 0, zI z2]) (S' := [zI (-1), zI z2]) (σ' := σ1) (Ps := []) (by decide +kernel) rfl trivial ?_
  refine r_icmp_eq (off := 5) (tgt := 22) (by decide +kernel) (by decide) (fun c => ?_) (fun c => ?_)
  · replace h := h.1 c
    refine r_blk [qO (.aload_n 0), qO (.iconst 0)] (pc' := 24) (L' := [zR 0 0, zI z2]) (S' := [zI 0, zR 0 0]) (σ' := σ1) (Ps := []) (by decide +kernel) rfl trivial ?_
    refine r_callVV (As := [zI 0]) (S := []) (Lc := [zR 0 0, zI 0]) (d' := 3) (n := 1) (g := 0) (x := 0) (ci := 10) kX10_freezeAsItIs vX10_freezeAsItIs lkX10_204 (by decide +kernel) (by decide) rfl rfl (by decide) rfl rfl (Nat.le_of_ble_eq_true rfl) rfl rfl (Nat.le_of_ble_eq_true rfl) (h.monoV (fun σ3 h => ?_))
    refine r_blk [qO (.aload_n 0), qF (.getfield 56) 10 6] (pc' := 31) (L' := [zR 0 0, zI z2]) (S' := [zR 19 0]) (σ' := σ3) (Ps := []) (by decide +kernel) rfl trivial ?_
    refine r_callVI (As := []) (S := []) (Lc := [zR 19 0, zU, zU]) (d' := 1) (n := 0) (g := 19) (x := 0) (ci := 0) kX0_firstApart vX0_firstApart lkX10_285 (by decide +kernel) (by decide) rfl rfl (by decide) rfl rfl (Nat.le_of_ble_eq_true rfl) rfl rfl (Nat.le_of_ble_eq_true rfl) (h.monoI (fun z5 σ4 h => ?_))
    exact r_ret (by decide +kernel) rfl (fun _ => h)
  · replace h := h.2 c
    refine r_blk [qO (.iload_n 1)] (pc' := 21) (L' := [zR 0 0, zI z2]) (S' := [zI z2]) (σ' := σ1) (Ps := []) (by decide +kernel) rfl trivial ?_
    exact r_ret (by decide +kernel) rfl (fun _ => h)
theorem gX10_image_0 (σ : Hp) {Q : Option Int → Hp → Prop} (h : Runs 1 mX6_takeFrom 0 [zR 1 1, zR 1 0] [] σ (rV (fun σ1 => Q (some (σ1 1 1 1)) (zup σ1 0 0 12 1)))) : Runs 2 mX10_image 0 [zR 0 0] [] σ Q := by
  refine r_blk [qO (.aload_n 0), qF (.getfield 16) 10 1, qO (.aload_n 0), qF (.getfield 10) 10 0] (pc' := 8) (L' := [zR 0 0]) (S' := [zR 1 0, zR 1 1]) (σ' := σ) (Ps := []) (by decide +kernel) rfl trivial ?_
  refine r_callVV (As := [zR 1 0]) (S := []) (Lc := [zR 1 1, zR 1 0]) (d' := 1) (n := 1) (g := 1) (x := 1) (ci := 6) kX6_takeFrom vX6_takeFrom lkX10_288 (by decide +kernel) (by decide) rfl rfl (by decide) rfl rfl (Nat.le_of_ble_eq_true rfl) rfl rfl (Nat.le_of_ble_eq_true rfl) (h.monoV (fun σ1 h => ?_))
  refine r_blk [qO (.aload_n 0), qO (.iconst 1), qF (.putfield 291) 10 12, qO (.aload_n 0), qF (.getfield 16) 10 1, qF (.getfield 164) 6 1] (pc' := 23) (L' := [zR 0 0]) (S' := [zI (σ1 1 1 1)]) (σ' := (zup σ1 0 0 12 1)) (Ps := [1 = 0 ∨ 1 = 1]) (by decide +kernel) rfl ⟨(by decide), trivial⟩ ?_
  exact r_ret (by decide +kernel) rfl (fun _ => h)
theorem gX10_on_0 (σ : Hp) {Q : Option Int → Hp → Prop} (h : ((¬ σ 0 0 12 = 0 → Runs 1 mX6_takeFrom 0 [zR 1 0, zR 1 1] [] σ (rV (fun σ1 => Q (some (σ1 1 0 1)) σ1))) ∧ (σ 0 0 12 = 0 → Runs 0 mX10_refuse 0 [zR 0 0, zI (-3)] [] σ (rI (fun z3 σ2 => Q (some z3) σ2))))) : Runs 2 mX10_on 0 [zR 0 0] [] σ Q := by
  refine r_blk [qO (.aload_n 0), qF (.getfield 291) 10 12] (pc' := 4) (L' := [zR 0 0]) (S' := [zI (σ 0 0 12)]) (σ' := σ) (Ps := []) (by decide +kernel) rfl trivial ?_
  refine r_if_ne (off := 10) (tgt := 14) (by decide +kernel) (by decide) (fun c => ?_) (fun c => ?_)
  · replace h := h.1 c
    refine r_blk [qO (.aload_n 0), qF (.getfield 10) 10 0, qO (.aload_n 0), qF (.getfield 16) 10 1] (pc' := 22) (L' := [zR 0 0]) (S' := [zR 1 1, zR 1 0]) (σ' := σ) (Ps := []) (by decide +kernel) rfl trivial ?_
    refine r_callVV (As := [zR 1 1]) (S := []) (Lc := [zR 1 0, zR 1 1]) (d' := 1) (n := 1) (g := 1) (x := 0) (ci := 6) kX6_takeFrom vX6_takeFrom lkX10_288 (by decide +kernel) (by decide) rfl rfl (by decide) rfl rfl (Nat.le_of_ble_eq_true rfl) rfl rfl (Nat.le_of_ble_eq_true rfl) (h.monoV (fun σ1 h => ?_))
    refine r_blk [qO (.aload_n 0), qF (.getfield 10) 10 0, qF (.getfield 164) 6 1] (pc' := 32) (L' := [zR 0 0]) (S' := [zI (σ1 1 0 1)]) (σ' := σ1) (Ps := []) (by decide +kernel) rfl trivial ?_
    exact r_ret (by decide +kernel) rfl (fun _ => h)
  · replace h := h.2 c
    refine r_blk [qO (.aload_n 0), qO (.bipush (-3))] (pc' := 10) (L' := [zR 0 0]) (S' := [zI (-3), zR 0 0]) (σ' := σ) (Ps := []) (by decide +kernel) rfl trivial ?_
    refine r_callVI (As := [zI (-3)]) (S := []) (Lc := [zR 0 0, zI (-3)]) (d' := 0) (n := 1) (g := 0) (x := 0) (ci := 10) kX10_refuse vX10_refuse lkX10_98 (by decide +kernel) (by decide) rfl rfl (by decide) rfl rfl (Nat.le_of_ble_eq_true rfl) rfl rfl (Nat.le_of_ble_eq_true rfl) (h.monoI (fun z3 σ2 h => ?_))
    exact r_ret (by decide +kernel) rfl (fun _ => h)
theorem gX10_count_0 (a0 : Int) (σ : Hp) {Q : Option Int → Hp → Prop} (h : ((a0 < 11 → Runs 1 mX10_count 22 [zR 0 0, zI a0] [] σ Q) ∧ (¬ a0 < 11 → ((16 < a0 → Runs 1 mX10_count 22 [zR 0 0, zI a0] [] σ Q) ∧ (¬ 16 < a0 → (-2147483648 ≤ a0 - 10 ∧ a0 - 10 ≤ 2147483647) ∧ (0 ≤ a0 - 10 ∧ a0 - 10 < 7) ∧ Q (some (σ 33 0 ((a0 - 10).toNat))) σ))))) : Runs 1 mX10_count 0 [zR 0 0, zI a0] [] σ Q := by
  refine r_blk [qO (.iload_n 1), qO (.bipush 11)] (pc' := 3) (L' := [zR 0 0, zI a0]) (S' := [zI 11, zI a0]) (σ' := σ) (Ps := []) (by decide +kernel) rfl trivial ?_
  refine r_icmp_lt (off := 19) (tgt := 22) (by decide +kernel) (by decide) (fun c => ?_) (fun c => ?_)
  · replace h := h.1 c
    exact Runs.fg (fgE (fgE fg0)) h
  · replace h := h.2 c
    refine r_blk [qO (.iload_n 1), qO (.bipush 16)] (pc' := 9) (L' := [zR 0 0, zI a0]) (S' := [zI 16, zI a0]) (σ' := σ) (Ps := []) (by decide +kernel) rfl trivial ?_
    refine r_icmp_gt (off := 13) (tgt := 22) (by decide +kernel) (by decide) (fun c => ?_) (fun c => ?_)
    · replace h := h.1 c
      exact Runs.fg (fgE (fgE fg0)) h
    · replace h := h.2 c
      refine r_blk [qO (.aload_n 0), qF (.getfield 91) 10 11, qO (.iload_n 1), qO (.bipush 10), qO .isub, qO .iaload] (pc' := 21) (L' := [zR 0 0, zI a0]) (S' := [zI (σ 33 0 ((a0 - 10).toNat))]) (σ' := σ) (Ps := [-2147483648 ≤ a0 - 10 ∧ a0 - 10 ≤ 2147483647, 0 ≤ a0 - 10 ∧ a0 - 10 < 7]) (by decide +kernel) rfl ⟨h.1, h.2.1, trivial⟩ ?_
      replace h := h.2.2
      exact r_ret (by decide +kernel) rfl (fun _ => h)
theorem gX10_count_22 (l1 : Int) (σ : Hp) {Q : Option Int → Hp → Prop} (h : ((l1 < 0 ∨ 7 < l1 → Q (some (-9)) σ) ∧ (l1 = 0 → Q (some (σ 1 0 0)) σ) ∧ (l1 = 1 → Q (some (σ 1 0 1)) σ) ∧ (l1 = 2 → Q (some (σ 1 0 2)) σ) ∧ (l1 = 3 → Runs 0 mJ6_bitCount_0f7a4 0 [zI (σ 1 0 4)] [] σ (rI (fun z2 σ1 => Q (some z2) σ1))) ∧ (l1 = 4 → Runs 0 mX6_mustsTold 0 [zR 1 0, zU, zU] [] σ (rI (fun z4 σ3 => Q (some z4) σ3))) ∧ (l1 = 5 → Runs 0 mJ6_bitCount_0f7a4 0 [zI (σ 1 0 5)] [] σ (rI (fun z6 σ5 => Q (some z6) σ5))) ∧ (l1 = 6 → Q (some (σ 1 0 3)) σ) ∧ (l1 = 7 → Q (some (σ 12 0 1)) σ))) : Runs 1 mX10_count 22 [zR 0 0, zI l1] [] σ Q := by
  refine r_blk [qO (.iload_n 1)] (pc' := 23) (L' := [zR 0 0, zI l1]) (S' := [zI l1]) (σ' := σ) (Ps := []) (by decide +kernel) rfl trivial ?_
  by_cases c : l1 < 0 ∨ 7 < l1
  · replace h := h.1 c
    refine r_tableOut (dflt := 115) (lo := 0) (hi := 7) (offs := #[45, 53, 61, 69, 80, 88, 99, 107]) (len := 45) (tgt := 138) (by decide +kernel) c (by decide) ?_
    refine r_blk [qO (.bipush (-9))] (pc' := 140) (L' := [zR 0 0, zI l1]) (S' := [zI (-9)]) (σ' := σ) (Ps := []) (by decide +kernel) rfl trivial ?_
    exact r_ret (by decide +kernel) rfl (fun _ => h)
  replace h := h.2
  have hc : l1 = 0 ∨ l1 = 1 ∨ l1 = 2 ∨ l1 = 3 ∨ l1 = 4 ∨ l1 = 5 ∨ l1 = 6 ∨ l1 = 7 := by omega
  rcases hc with c | c | c | c | c | c | c | c
  · replace h := h.1 c
    refine r_tableIn (dflt := 115) (lo := 0) (hi := 7) (offs := #[45, 53, 61, 69, 80, 88, 99, 107]) (len := 45) (off := 45) (tgt := 68) (by decide +kernel) (by omega) (by omega) (by rw [c]; rfl) (by decide) ?_
    refine r_blk [qO (.aload_n 0), qF (.getfield 10) 10 0, qF (.getfield 295) 6 0] (pc' := 75) (L' := [zR 0 0, zI l1]) (S' := [zI (σ 1 0 0)]) (σ' := σ) (Ps := []) (by decide +kernel) rfl trivial ?_
    exact r_ret (by decide +kernel) rfl (fun _ => h)
  · replace h := h.2.1 c
    refine r_tableIn (dflt := 115) (lo := 0) (hi := 7) (offs := #[45, 53, 61, 69, 80, 88, 99, 107]) (len := 45) (off := 53) (tgt := 76) (by decide +kernel) (by omega) (by omega) (by rw [c]; rfl) (by decide) ?_
    refine r_blk [qO (.aload_n 0), qF (.getfield 10) 10 0, qF (.getfield 164) 6 1] (pc' := 83) (L' := [zR 0 0, zI l1]) (S' := [zI (σ 1 0 1)]) (σ' := σ) (Ps := []) (by decide +kernel) rfl trivial ?_
    exact r_ret (by decide +kernel) rfl (fun _ => h)
  · replace h := h.2.2.1 c
    refine r_tableIn (dflt := 115) (lo := 0) (hi := 7) (offs := #[45, 53, 61, 69, 80, 88, 99, 107]) (len := 45) (off := 61) (tgt := 84) (by decide +kernel) (by omega) (by omega) (by rw [c]; rfl) (by decide) ?_
    refine r_blk [qO (.aload_n 0), qF (.getfield 10) 10 0, qF (.getfield 269) 6 2] (pc' := 91) (L' := [zR 0 0, zI l1]) (S' := [zI (σ 1 0 2)]) (σ' := σ) (Ps := []) (by decide +kernel) rfl trivial ?_
    exact r_ret (by decide +kernel) rfl (fun _ => h)
  · replace h := h.2.2.2.1 c
    refine r_tableIn (dflt := 115) (lo := 0) (hi := 7) (offs := #[45, 53, 61, 69, 80, 88, 99, 107]) (len := 45) (off := 69) (tgt := 92) (by decide +kernel) (by omega) (by omega) (by rw [c]; rfl) (by decide) ?_
    refine r_blk [qO (.aload_n 0), qF (.getfield 10) 10 0, qF (.getfield 127) 6 4] (pc' := 99) (L' := [zR 0 0, zI l1]) (S' := [zI (σ 1 0 4)]) (σ' := σ) (Ps := []) (by decide +kernel) rfl trivial ?_
    refine r_callSI (As := [zI (σ 1 0 4)]) (S := []) (Lc := [zI (σ 1 0 4)]) (d' := 0) (n := 1) kJ6_bitCount_0f7a4 vJ6_bitCount_0f7a4 lkX10_298 (by decide +kernel) (by decide) rfl rfl (Nat.le_of_ble_eq_true rfl) rfl rfl (Nat.le_of_ble_eq_true rfl) (h.monoI (fun z2 σ1 h => ?_))
    exact r_ret (by decide +kernel) rfl (fun _ => h)
  · replace h := h.2.2.2.2.1 c
    refine r_tableIn (dflt := 115) (lo := 0) (hi := 7) (offs := #[45, 53, 61, 69, 80, 88, 99, 107]) (len := 45) (off := 80) (tgt := 103) (by decide +kernel) (by omega) (by omega) (by rw [c]; rfl) (by decide) ?_
    refine r_blk [qO (.aload_n 0), qF (.getfield 10) 10 0] (pc' := 107) (L' := [zR 0 0, zI l1]) (S' := [zR 1 0]) (σ' := σ) (Ps := []) (by decide +kernel) rfl trivial ?_
    refine r_callVI (As := []) (S := []) (Lc := [zR 1 0, zU, zU]) (d' := 0) (n := 0) (g := 1) (x := 0) (ci := 6) kX6_mustsTold vX6_mustsTold lkX10_303 (by decide +kernel) (by decide) rfl rfl (by decide) rfl rfl (Nat.le_of_ble_eq_true rfl) rfl rfl (Nat.le_of_ble_eq_true rfl) (h.monoI (fun z4 σ3 h => ?_))
    exact r_ret (by decide +kernel) rfl (fun _ => h)
  · replace h := h.2.2.2.2.2.1 c
    refine r_tableIn (dflt := 115) (lo := 0) (hi := 7) (offs := #[45, 53, 61, 69, 80, 88, 99, 107]) (len := 45) (off := 88) (tgt := 111) (by decide +kernel) (by omega) (by omega) (by rw [c]; rfl) (by decide) ?_
    refine r_blk [qO (.aload_n 0), qF (.getfield 10) 10 0, qF (.getfield 137) 6 5] (pc' := 118) (L' := [zR 0 0, zI l1]) (S' := [zI (σ 1 0 5)]) (σ' := σ) (Ps := []) (by decide +kernel) rfl trivial ?_
    refine r_callSI (As := [zI (σ 1 0 5)]) (S := []) (Lc := [zI (σ 1 0 5)]) (d' := 0) (n := 1) kJ6_bitCount_0f7a4 vJ6_bitCount_0f7a4 lkX10_298 (by decide +kernel) (by decide) rfl rfl (Nat.le_of_ble_eq_true rfl) rfl rfl (Nat.le_of_ble_eq_true rfl) (h.monoI (fun z6 σ5 h => ?_))
    exact r_ret (by decide +kernel) rfl (fun _ => h)
  · replace h := h.2.2.2.2.2.2.1 c
    refine r_tableIn (dflt := 115) (lo := 0) (hi := 7) (offs := #[45, 53, 61, 69, 80, 88, 99, 107]) (len := 45) (off := 99) (tgt := 122) (by decide +kernel) (by omega) (by omega) (by rw [c]; rfl) (by decide) ?_
    refine r_blk [qO (.aload_n 0), qF (.getfield 10) 10 0, qF (.getfield 244) 6 3] (pc' := 129) (L' := [zR 0 0, zI l1]) (S' := [zI (σ 1 0 3)]) (σ' := σ) (Ps := []) (by decide +kernel) rfl trivial ?_
    exact r_ret (by decide +kernel) rfl (fun _ => h)
  · replace h := h.2.2.2.2.2.2.2 c
    refine r_tableIn (dflt := 115) (lo := 0) (hi := 7) (offs := #[45, 53, 61, 69, 80, 88, 99, 107]) (len := 45) (off := 107) (tgt := 130) (by decide +kernel) (by omega) (by omega) (by rw [c]; rfl) (by decide) ?_
    refine r_blk [qO (.aload_n 0), qF (.getfield 22) 10 2, qF (.getfield 102) 5 1] (pc' := 137) (L' := [zR 0 0, zI l1]) (S' := [zI (σ 12 0 1)]) (σ' := σ) (Ps := []) (by decide +kernel) rfl trivial ?_
    exact r_ret (by decide +kernel) rfl (fun _ => h)
theorem gX10_refuse_0 (a0 : Int) (σ : Hp) {Q : Option Int → Hp → Prop} (h : (((-1) < a0 → Q (some a0) σ) ∧ (¬ (-1) < a0 → ((a0 < (-6) → Q (some a0) σ) ∧ (¬ a0 < (-6) → (-2147483648 ≤ -a0 ∧ -a0 ≤ 2147483647) ∧ (0 ≤ (-a0) ∧ (-a0) < 7) ∧ (-2147483648 ≤ (σ 33 0 ((-a0).toNat)) + 1 ∧ (σ 33 0 ((-a0).toNat)) + 1 ≤ 2147483647) ∧ (0 ≤ (-a0) ∧ (-a0) < 7) ∧ Q (some a0) (zup σ 33 0 ((-a0).toNat) ((σ 33 0 ((-a0).toNat)) + 1))))))) : Runs 0 mX10_refuse 0 [zR 0 0, zI a0] [] σ Q := by
  refine r_blk [qO (.iload_n 1), qO (.iconst (-1))] (pc' := 2) (L' := [zR 0 0, zI a0]) (S' := [zI (-1), zI a0]) (σ' := σ) (Ps := []) (by decide +kernel) rfl trivial ?_
  refine r_icmp_gt (off := 20) (tgt := 22) (by decide +kernel) (by decide) (fun c => ?_) (fun c => ?_)
  · replace h := h.1 c
    refine r_blk [qO (.iload_n 1)] (pc' := 23) (L' := [zR 0 0, zI a0]) (S' := [zI a0]) (σ' := σ) (Ps := []) (by decide +kernel) rfl trivial ?_
    exact r_ret (by decide +kernel) rfl (fun _ => h)
  · replace h := h.2 c
    refine r_blk [qO (.iload_n 1), qO (.bipush (-6))] (pc' := 8) (L' := [zR 0 0, zI a0]) (S' := [zI (-6), zI a0]) (σ' := σ) (Ps := []) (by decide +kernel) rfl trivial ?_
    refine r_icmp_lt (off := 14) (tgt := 22) (by decide +kernel) (by decide) (fun c => ?_) (fun c => ?_)
    · replace h := h.1 c
      refine r_blk [qO (.iload_n 1)] (pc' := 23) (L' := [zR 0 0, zI a0]) (S' := [zI a0]) (σ' := σ) (Ps := []) (by decide +kernel) rfl trivial ?_
      exact r_ret (by decide +kernel) rfl (fun _ => h)
    · replace h := h.2 c
      refine r_blk [qO (.aload_n 0), qF (.getfield 91) 10 11, qO (.iload_n 1), qO .ineg, qO .dup2, qO .iaload, qO (.iconst 1), qO .iadd, qO .iastore, qO (.iload_n 1)] (pc' := 23) (L' := [zR 0 0, zI a0]) (S' := [zI a0]) (σ' := (zup σ 33 0 ((-a0).toNat) ((σ 33 0 ((-a0).toNat)) + 1))) (Ps := [-2147483648 ≤ -a0 ∧ -a0 ≤ 2147483647, 0 ≤ (-a0) ∧ (-a0) < 7, -2147483648 ≤ (σ 33 0 ((-a0).toNat)) + 1 ∧ (σ 33 0 ((-a0).toNat)) + 1 ≤ 2147483647, 0 ≤ (-a0) ∧ (-a0) < 7]) (by decide +kernel) rfl ⟨h.1, h.2.1, h.2.2.1, h.2.2.2.1, trivial⟩ ?_
      replace h := h.2.2.2.2
      exact r_ret (by decide +kernel) rfl (fun _ => h)
