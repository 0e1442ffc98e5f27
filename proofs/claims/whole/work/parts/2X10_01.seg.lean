theorem gX10_longest_0 (a0 : Int) (σ : Hp) {Q : Option Int → Hp → Prop} (h : Runs 0 mX10_refusalOfMinute 0 [zR 0 0, zI a0] [] σ (rI (fun z2 σ1 => ((z2 = 0 → Runs 3 mX10_freezeAsItIs 0 [zR 0 0, zI a0] [] σ1 (rV (fun σ3 => Runs 1 mX0_farthest 0 [zR 19 0, zU, zU, zU] [] σ3 (rI (fun z5 σ4 => Q (some z5) σ4))))) ∧ (¬ z2 = 0 → Runs 0 mX10_refuse 0 [zR 0 0, zI z2] [] σ1 (rI (fun z7 σ6 => Q (some z7) σ6))))))) : Runs 4 mX10_longest 0 [zR 0 0, zI a0, zU] [] σ Q := by
  refine r_blk [qO (.aload_n 0), qO (.iload_n 1)] (pc' := 2) (L' := [zR 0 0, zI a0, zU]) (S' := [zI a0, zR 0 0]) (σ' := σ) (Ps := []) (by decide +kernel) rfl trivial ?_
  refine r_callVI (As := [zI a0]) (S := []) (Lc := [zR 0 0, zI a0]) (d' := 0) (n := 1) (g := 0) (x := 0) (ci := 10) kX10_refusalOfMinute vX10_refusalOfMinute lkX10_170 (by decide +kernel) (by decide) rfl rfl (by decide) rfl rfl (Nat.le_of_ble_eq_true rfl) rfl rfl (Nat.le_of_ble_eq_true rfl) (h.monoI (fun z2 σ1 h => ?_))
  refine r_blk [qO (.istore_n 2), qO (.iload_n 2)] (pc' := 7) (L' := [zR 0 0, zI a0, zI z2]) (S' := [zI z2]) (σ' := σ1) (Ps := []) (by decide +kernel) rfl trivial ?_
  refine r_if_eq (off := 9) (tgt := 16) (by decide +kernel) (by decide) (fun c => ?_) (fun c => ?_)
  · replace h := h.1 c
    refine r_blk [qO (.aload_n 0), qO (.iload_n 1)] (pc' := 18) (L' := [zR 0 0, zI a0, zI z2]) (S' := [zI a0, zR 0 0]) (σ' := σ1) (Ps := []) (by decide +kernel) rfl trivial ?_
    refine r_callVV (As := [zI a0]) (S := []) (Lc := [zR 0 0, zI a0]) (d' := 3) (n := 1) (g := 0) (x := 0) (ci := 10) kX10_freezeAsItIs vX10_freezeAsItIs lkX10_204 (by decide +kernel) (by decide) rfl rfl (by decide) rfl rfl (Nat.le_of_ble_eq_true rfl) rfl rfl (Nat.le_of_ble_eq_true rfl) (h.monoV (fun σ3 h => ?_))
    refine r_blk [qO (.aload_n 0), qF (.getfield 56) 10 6] (pc' := 25) (L' := [zR 0 0, zI a0, zI z2]) (S' := [zR 19 0]) (σ' := σ3) (Ps := []) (by decide +kernel) rfl trivial ?_
    refine r_callVI (As := []) (S := []) (Lc := [zR 19 0, zU, zU, zU]) (d' := 1) (n := 0) (g := 19) (x := 0) (ci := 0) kX0_farthest vX0_farthest lkX10_210 (by decide +kernel) (by decide) rfl rfl (by decide) rfl rfl (Nat.le_of_ble_eq_true rfl) rfl rfl (Nat.le_of_ble_eq_true rfl) (h.monoI (fun z5 σ4 h => ?_))
    exact r_ret (by decide +kernel) rfl (fun _ => h)
  · replace h := h.2 c
    refine r_blk [qO (.aload_n 0), qO (.iload_n 2)] (pc' := 12) (L' := [zR 0 0, zI a0, zI z2]) (S' := [zI z2, zR 0 0]) (σ' := σ1) (Ps := []) (by decide +kernel) rfl trivial ?_
    refine r_callVI (As := [zI z2]) (S := []) (Lc := [zR 0 0, zI z2]) (d' := 0) (n := 1) (g := 0) (x := 0) (ci := 10) kX10_refuse vX10_refuse lkX10_98 (by decide +kernel) (by decide) rfl rfl (by decide) rfl rfl (Nat.le_of_ble_eq_true rfl) rfl rfl (Nat.le_of_ble_eq_true rfl) (h.monoI (fun z7 σ6 h => ?_))
    exact r_ret (by decide +kernel) rfl (fun _ => h)
theorem gX10_apart_0 (a0 : Int) (σ : Hp) {Q : Option Int → Hp → Prop} (h : Runs 0 mX10_refusalOfMinute 0 [zR 0 0, zI a0] [] σ (rI (fun z2 σ1 => ((z2 = 0 → Runs 3 mX10_freezeAsItIs 0 [zR 0 0, zI a0] [] σ1 (rV (fun σ3 => Runs 1 mX0_pairsApart 0 [zR 19 0, zU, zU, zU] [] σ3 (rI (fun z5 σ4 => Q (some z5) σ4))))) ∧ (¬ z2 = 0 → Runs 0 mX10_refuse 0 [zR 0 0, zI z2] [] σ1 (rI (fun z7 σ6 => Q (some z7) σ6))))))) : Runs 4 mX10_apart 0 [zR 0 0, zI a0, zU] [] σ Q := by
  refine r_blk [qO (.aload_n 0), qO (.iload_n 1)] (pc' := 2) (L' := [zR 0 0, zI a0, zU]) (S' := [zI a0, zR 0 0]) (σ' := σ) (Ps := []) (by decide +kernel) rfl trivial ?_
  refine r_callVI (As := [zI a0]) (S := []) (Lc := [zR 0 0, zI a0]) (d' := 0) (n := 1) (g := 0) (x := 0) (ci := 10) kX10_refusalOfMinute vX10_refusalOfMinute lkX10_170 (by decide +kernel) (by decide) rfl rfl (by decide) rfl rfl (Nat.le_of_ble_eq_true rfl) rfl rfl (Nat.le_of_ble_eq_true rfl) (h.monoI (fun z2 σ1 h => ?_))
  refine r_blk [qO (.istore_n 2), qO (.iload_n 2)] (pc' := 7) (L' := [zR 0 0, zI a0, zI z2]) (S' := [zI z2]) (σ' := σ1) (Ps := []) (by decide +kernel) rfl trivial ?_
  refine r_if_eq (off := 9) (tgt := 16) (by decide +kernel) (by decide) (fun c => ?_) (fun c => ?_)
  · replace h := h.1 c
    refine r_blk [qO (.aload_n 0), qO (.iload_n 1)] (pc' := 18) (L' := [zR 0 0, zI a0, zI z2]) (S' := [zI a0, zR 0 0]) (σ' := σ1) (Ps := []) (by decide +kernel) rfl trivial ?_
    refine r_callVV (As := [zI a0]) (S := []) (Lc := [zR 0 0, zI a0]) (d' := 3) (n := 1) (g := 0) (x := 0) (ci := 10) kX10_freezeAsItIs vX10_freezeAsItIs lkX10_204 (by decide +kernel) (by decide) rfl rfl (by decide) rfl rfl (Nat.le_of_ble_eq_true rfl) rfl rfl (Nat.le_of_ble_eq_true rfl) (h.monoV (fun σ3 h => ?_))
    refine r_blk [qO (.aload_n 0), qF (.getfield 56) 10 6] (pc' := 25) (L' := [zR 0 0, zI a0, zI z2]) (S' := [zR 19 0]) (σ' := σ3) (Ps := []) (by decide +kernel) rfl trivial ?_
    refine r_callVI (As := []) (S := []) (Lc := [zR 19 0, zU, zU, zU]) (d' := 1) (n := 0) (g := 19) (x := 0) (ci := 0) kX0_pairsApart vX0_pairsApart lkX10_207 (by decide +kernel) (by decide) rfl rfl (by decide) rfl rfl (Nat.le_of_ble_eq_true rfl) rfl rfl (Nat.le_of_ble_eq_true rfl) (h.monoI (fun z5 σ4 h => ?_))
    exact r_ret (by decide +kernel) rfl (fun _ => h)
  · replace h := h.2 c
    refine r_blk [qO (.aload_n 0), qO (.iload_n 2)] (pc' := 12) (L' := [zR 0 0, zI a0, zI z2]) (S' := [zI z2, zR 0 0]) (σ' := σ1) (Ps := []) (by decide +kernel) rfl trivial ?_
    refine r_callVI (As := [zI z2]) (S := []) (Lc := [zR 0 0, zI z2]) (d' := 0) (n := 1) (g := 0) (x := 0) (ci := 10) kX10_refuse vX10_refuse lkX10_98 (by decide +kernel) (by decide) rfl rfl (by decide) rfl rfl (Nat.le_of_ble_eq_true rfl) rfl rfl (Nat.le_of_ble_eq_true rfl) (h.monoI (fun z7 σ6 h => ?_))
    exact r_ret (by decide +kernel) rfl (fun _ => h)
theorem gX10_can_0 (σ : Hp) {Q : Option Int → Hp → Prop} (h : Runs 1 mX2_hangsTogether 0 [zR 22 0] [] σ (rI (fun z2 σ1 => ((z2 = 0 → Q (some 0) σ1) ∧ (¬ z2 = 0 → Runs 1 mX2_bridgeOnes 0 [zR 22 0, zU, zU, zU] [] σ1 (rI (fun z4 σ3 => ((¬ z4 = 0 → Q (some 0) σ3) ∧ (z4 = 0 → Q (some 1) σ3))))))))) : Runs 2 mX10_can 0 [zR 0 0] [] σ Q := by
  refine r_blk [qO (.aload_n 0), qF (.getfield 63) 10 7] (pc' := 4) (L' := [zR 0 0]) (S' := [zR 22 0]) (σ' := σ) (Ps := []) (by decide +kernel) rfl trivial ?_
  refine r_callVI (As := []) (S := []) (Lc := [zR 22 0]) (d' := 1) (n := 0) (g := 22) (x := 0) (ci := 2) kX2_hangsTogether vX2_hangsTogether lkX10_213 (by decide +kernel) (by decide) rfl rfl (by decide) rfl rfl (Nat.le_of_ble_eq_true rfl) rfl rfl (Nat.le_of_ble_eq_true rfl) (h.monoI (fun z2 σ1 h => ?_))
  refine r_if_eq (off := 17) (tgt := 24) (by decide +kernel) (by decide) (fun c => ?_) (fun c => ?_)
  · replace h := h.1 c
    refine r_blk [qO (.iconst 0)] (pc' := 25) (L' := [zR 0 0]) (S' := [zI 0]) (σ' := σ1) (Ps := []) (by decide +kernel) rfl trivial ?_
    exact r_ret (by decide +kernel) rfl (fun _ => h)
  · replace h := h.2 c
    refine r_blk [qO (.aload_n 0), qF (.getfield 63) 10 7] (pc' := 14) (L' := [zR 0 0]) (S' := [zR 22 0]) (σ' := σ1) (Ps := []) (by decide +kernel) rfl trivial ?_
    refine r_callVI (As := []) (S := []) (Lc := [zR 22 0, zU, zU, zU]) (d' := 1) (n := 0) (g := 22) (x := 0) (ci := 2) kX2_bridgeOnes vX2_bridgeOnes lkX10_217 (by decide +kernel) (by decide) rfl rfl (by decide) rfl rfl (Nat.le_of_ble_eq_true rfl) rfl rfl (Nat.le_of_ble_eq_true rfl) (h.monoI (fun z4 σ3 h => ?_))
    refine r_if_ne (off := 7) (tgt := 24) (by decide +kernel) (by decide) (fun c => ?_) (fun c => ?_)
    · replace h := h.1 c
      refine r_blk [qO (.iconst 0)] (pc' := 25) (L' := [zR 0 0]) (S' := [zI 0]) (σ' := σ3) (Ps := []) (by decide +kernel) rfl trivial ?_
      exact r_ret (by decide +kernel) rfl (fun _ => h)
    · replace h := h.2 c
      refine r_blk [qO (.iconst 1), qO (.goto 4)] (pc' := 25) (L' := [zR 0 0]) (S' := [zI 1]) (σ' := σ3) (Ps := []) (by decide +kernel) rfl trivial ?_
      exact r_ret (by decide +kernel) rfl (fun _ => h)
theorem gX10_bridges_0 (σ : Hp) {Q : Option Int → Hp → Prop} (h : Runs 1 mX2_bridgeOnes 0 [zR 22 0, zU, zU, zU] [] σ (rI (fun z2 σ1 => Q (some z2) σ1))) : Runs 2 mX10_bridges 0 [zR 0 0] [] σ Q := by
  refine r_blk [qO (.aload_n 0), qF (.getfield 63) 10 7] (pc' := 4) (L' := [zR 0 0]) (S' := [zR 22 0]) (σ' := σ) (Ps := []) (by decide +kernel) rfl trivial ?_
  refine r_callVI (As := []) (S := []) (Lc := [zR 22 0, zU, zU, zU]) (d' := 1) (n := 0) (g := 22) (x := 0) (ci := 2) kX2_bridgeOnes vX2_bridgeOnes lkX10_217 (by decide +kernel) (by decide) rfl rfl (by decide) rfl rfl (Nat.le_of_ble_eq_true rfl) rfl rfl (Nat.le_of_ble_eq_true rfl) (h.monoI (fun z2 σ1 h => ?_))
  exact r_ret (by decide +kernel) rfl (fun _ => h)
theorem gX10_walk_0 (σ : Hp) {Q : Option Int → Hp → Prop} (h : Runs 1 mX2_walkThrough 0 [zR 22 0, zU, zU, zU, zU, zU, zU, zU] [] σ (rI (fun z2 σ1 => Q (some z2) σ1))) : Runs 2 mX10_walk 0 [zR 0 0] [] σ Q := by
  refine r_blk [qO (.aload_n 0), qF (.getfield 63) 10 7] (pc' := 4) (L' := [zR 0 0]) (S' := [zR 22 0]) (σ' := σ) (Ps := []) (by decide +kernel) rfl trivial ?_
  refine r_callVI (As := []) (S := []) (Lc := [zR 22 0, zU, zU, zU, zU, zU, zU, zU]) (d' := 1) (n := 0) (g := 22) (x := 0) (ci := 2) kX2_walkThrough vX2_walkThrough lkX10_220 (by decide +kernel) (by decide) rfl rfl (by decide) rfl rfl (Nat.le_of_ble_eq_true rfl) rfl rfl (Nat.le_of_ble_eq_true rfl) (h.monoI (fun z2 σ1 h => ?_))
  exact r_ret (by decide +kernel) rfl (fun _ => h)
theorem gX10_cost_0 (σ : Hp) {Q : Option Int → Hp → Prop} (h : Runs 1 mX7_takeAsItIs 0 [zR 16 0] [] σ (rV (fun σ1 => Runs 6 mX1_total 0 [zR 25 0] [] σ1 (rI (fun z3 σ2 => Q (some z3) σ2))))) : Runs 7 mX10_cost 0 [zR 0 0] [] σ Q := by
  refine r_blk [qO (.aload_n 0), qF (.getfield 40) 10 4] (pc' := 4) (L' := [zR 0 0]) (S' := [zR 16 0]) (σ' := σ) (Ps := []) (by decide +kernel) rfl trivial ?_
  refine r_callVV (As := []) (S := []) (Lc := [zR 16 0]) (d' := 1) (n := 0) (g := 16) (x := 0) (ci := 7) kX7_takeAsItIs vX7_takeAsItIs lkX10_173 (by decide +kernel) (by decide) rfl rfl (by decide) rfl rfl (Nat.le_of_ble_eq_true rfl) rfl rfl (Nat.le_of_ble_eq_true rfl) (h.monoV (fun σ1 h => ?_))
  refine r_blk [qO (.aload_n 0), qF (.getfield 72) 10 8] (pc' := 11) (L' := [zR 0 0]) (S' := [zR 25 0]) (σ' := σ1) (Ps := []) (by decide +kernel) rfl trivial ?_
  refine r_callVI (As := []) (S := []) (Lc := [zR 25 0]) (d' := 6) (n := 0) (g := 25) (x := 0) (ci := 1) kX1_total vX1_total lkX10_223 (by decide +kernel) (by decide) rfl rfl (by decide) rfl rfl (Nat.le_of_ble_eq_true rfl) rfl rfl (Nat.le_of_ble_eq_true rfl) (h.monoI (fun z3 σ2 h => ?_))
  exact r_ret (by decide +kernel) rfl (fun _ => h)
theorem gX10_best_0 (σ : Hp) {Q : Option Int → Hp → Prop} (h : Runs 0 mX10_refusalOfTrying 0 [zR 0 0] [] σ (rI (fun z2 σ1 => ((z2 = 0 → Runs 1 mX7_takeAsItIs 0 [zR 16 0] [] σ1 (rV (fun σ3 => Runs 6 mX9_cheapestPointing 0 [zR 26 0, zU, zU, zU, zU] [] σ3 (rI (fun z5 σ4 => Q (some z5) σ4))))) ∧ (¬ z2 = 0 → Runs 0 mX10_refuse 0 [zR 0 0, zI z2] [] σ1 (rI (fun z7 σ6 => Q (some z7) σ6))))))) : Runs 7 mX10_best 0 [zR 0 0, zU] [] σ Q := by
  refine r_blk [qO (.aload_n 0)] (pc' := 1) (L' := [zR 0 0, zU]) (S' := [zR 0 0]) (σ' := σ) (Ps := []) (by decide +kernel) rfl trivial ?_
  refine r_callVI (As := []) (S := []) (Lc := [zR 0 0]) (d' := 0) (n := 0) (g := 0) (x := 0) (ci := 10) kX10_refusalOfTrying vX10_refusalOfTrying lkX10_226 (by decide +kernel) (by decide) rfl rfl (by decide) rfl rfl (Nat.le_of_ble_eq_true rfl) rfl rfl (Nat.le_of_ble_eq_true rfl) (h.monoI (fun z2 σ1 h => ?_))
  refine r_blk [qO (.istore_n 1), qO (.iload_n 1)] (pc' := 6) (L' := [zR 0 0, zI z2]) (S' := [zI z2]) (σ' := σ1) (Ps := []) (by decide +kernel) rfl trivial ?_
  refine r_if_eq (off := 9) (tgt := 15) (by decide +kernel) (by decide) (fun c => ?_) (fun c => ?_)
  · replace h := h.1 c
    refine r_blk [qO (.aload_n 0), qF (.getfield 40) 10 4] (pc' := 19) (L' := [zR 0 0, zI z2]) (S' := [zR 16 0]) (σ' := σ1) (Ps := []) (by decide +kernel) rfl trivial ?_
    refine r_callVV (As := []) (S := []) (Lc := [zR 16 0]) (d' := 1) (n := 0) (g := 16) (x := 0) (ci := 7) kX7_takeAsItIs vX7_takeAsItIs lkX10_173 (by decide +kernel) (by decide) rfl rfl (by decide) rfl rfl (Nat.le_of_ble_eq_true rfl) rfl rfl (Nat.le_of_ble_eq_true rfl) (h.monoV (fun σ3 h => ?_))
    refine r_blk [qO (.aload_n 0), qF (.getfield 81) 10 9] (pc' := 26) (L' := [zR 0 0, zI z2]) (S' := [zR 26 0]) (σ' := σ3) (Ps := []) (by decide +kernel) rfl trivial ?_
    refine r_callVI (As := []) (S := []) (Lc := [zR 26 0, zU, zU, zU, zU]) (d' := 6) (n := 0) (g := 26) (x := 0) (ci := 9) kX9_cheapestPointing vX9_cheapestPointing lkX10_229 (by decide +kernel) (by decide) rfl rfl (by decide) rfl rfl (Nat.le_of_ble_eq_true rfl) rfl rfl (Nat.le_of_ble_eq_true rfl) (h.monoI (fun z5 σ4 h => ?_))
    exact r_ret (by decide +kernel) rfl (fun _ => h)
  · replace h := h.2 c
    refine r_blk [qO (.aload_n 0), qO (.iload_n 1)] (pc' := 11) (L' := [zR 0 0, zI z2]) (S' := [zI z2, zR 0 0]) (σ' := σ1) (Ps := []) (by decide +kernel) rfl trivial ?_
    refine r_callVI (As := [zI z2]) (S := []) (Lc := [zR 0 0, zI z2]) (d' := 0) (n := 1) (g := 0) (x := 0) (ci := 10) kX10_refuse vX10_refuse lkX10_98 (by decide +kernel) (by decide) rfl rfl (by decide) rfl rfl (Nat.le_of_ble_eq_true rfl) rfl rfl (Nat.le_of_ble_eq_true rfl) (h.monoI (fun z7 σ6 h => ?_))
    exact r_ret (by decide +kernel) rfl (fun _ => h)
theorem gX10_far_0 (σ : Hp) {Q : Option Int → Hp → Prop} (h : Runs 0 mX10_refusalOfTrying 0 [zR 0 0] [] σ (rI (fun z2 σ1 => ((z2 = 0 → Runs 1 mX7_takeAsItIs 0 [zR 16 0] [] σ1 (rV (fun σ3 => Runs 3 mX9_nearestPointing 0 [zR 26 0, zU, zU, zU, zU] [] σ3 (rI (fun z5 σ4 => Q (some z5) σ4))))) ∧ (¬ z2 = 0 → Runs 0 mX10_refuse 0 [zR 0 0, zI z2] [] σ1 (rI (fun z7 σ6 => Q (some z7) σ6))))))) : Runs 4 mX10_far 0 [zR 0 0, zU] [] σ Q := by
  refine r_blk [qO (.aload_n 0)] (pc' := 1) (L' := [zR 0 0, zU]) (S' := [zR 0 0]) (σ' := σ) (Ps := []) (by decide +kernel) rfl trivial ?_
  refine r_callVI (As := []) (S := []) (Lc := [zR 0 0]) (d' := 0) (n := 0) (g := 0) (x := 0) (ci := 10) kX10_refusalOfTrying vX10_refusalOfTrying lkX10_226 (by decide +kernel) (by decide) rfl rfl (by decide) rfl rfl (Nat.le_of_ble_eq_true rfl) rfl rfl (Nat.le_of_ble_eq_true rfl) (h.monoI (fun z2 σ1 h => ?_))
  refine r_blk [qO (.istore_n 1), qO (.iload_n 1)] (pc' := 6) (L' := [zR 0 0, zI z2]) (S' := [zI z2]) (σ' := σ1) (Ps := []) (by decide +kernel) rfl trivial ?_
  refine r_if_eq (off := 9) (tgt := 15) (by decide +kernel) (by decide) (fun c => ?_) (fun c => ?_)
  · replace h := h.1 c
    refine r_blk [qO (.aload_n 0), qF (.getfield 40) 10 4] (pc' := 19) (L' := [zR 0 0, zI z2]) (S' := [zR 16 0]) (σ' := σ1) (Ps := []) (by decide +kernel) rfl trivial ?_
    refine r_callVV (As := []) (S := []) (Lc := [zR 16 0]) (d' := 1) (n := 0) (g := 16) (x := 0) (ci := 7) kX7_takeAsItIs vX7_takeAsItIs lkX10_173 (by decide +kernel) (by decide) rfl rfl (by decide) rfl rfl (Nat.le_of_ble_eq_true rfl) rfl rfl (Nat.le_of_ble_eq_true rfl) (h.monoV (fun σ3 h => ?_))
    refine r_blk [qO (.aload_n 0), qF (.getfield 81) 10 9] (pc' := 26) (L' := [zR 0 0, zI z2]) (S' := [zR 26 0]) (σ' := σ3) (Ps := []) (by decide +kernel) rfl trivial ?_
    refine r_callVI (As := []) (S := []) (Lc := [zR 26 0, zU, zU, zU, zU]) (d' := 3) (n := 0) (g := 26) (x := 0) (ci := 9) kX9_nearestPointing vX9_nearestPointing lkX10_232 (by decide +kernel) (by decide) rfl rfl (by decide) rfl rfl (Nat.le_of_ble_eq_true rfl) rfl rfl (Nat.le_of_ble_eq_true rfl) (h.monoI (fun z5 σ4 h => ?_))
    exact r_ret (by decide +kernel) rfl (fun _ => h)
  · replace h := h.2 c
    refine r_blk [qO (.aload_n 0), qO (.iload_n 1)] (pc' := 11) (L' := [zR 0 0, zI z2]) (S' := [zI z2, zR 0 0]) (σ' := σ1) (Ps := []) (by decide +kernel) rfl trivial ?_
    refine r_callVI (As := [zI z2]) (S := []) (Lc := [zR 0 0, zI z2]) (d' := 0) (n := 1) (g := 0) (x := 0) (ci := 10) kX10_refuse vX10_refuse lkX10_98 (by decide +kernel) (by decide) rfl rfl (by decide) rfl rfl (Nat.le_of_ble_eq_true rfl) rfl rfl (Nat.le_of_ble_eq_true rfl) (h.monoI (fun z7 σ6 h => ?_))
    exact r_ret (by decide +kernel) rfl (fun _ => h)
theorem gX10_turning_0 (σ : Hp) {Q : Option Int → Hp → Prop} (h : Runs 1 mX7_takeAsItIs 0 [zR 16 0] [] σ (rV (fun σ1 => Runs 6 mX9_turnedPointing 0 [zR 26 0, zU, zU, zU, zU, zU, zU, zU] [] σ1 (rI (fun z3 σ2 => Q (some z3) σ2))))) : Runs 7 mX10_turning 0 [zR 0 0] [] σ Q := by
  refine r_blk [qO (.aload_n 0), qF (.getfield 40) 10 4] (pc' := 4) (L' := [zR 0 0]) (S' := [zR 16 0]) (σ' := σ) (Ps := []) (by decide +kernel) rfl trivial ?_
  refine r_callVV (As := []) (S := []) (Lc := [zR 16 0]) (d' := 1) (n := 0) (g := 16) (x := 0) (ci := 7) kX7_takeAsItIs vX7_takeAsItIs lkX10_173 (by decide +kernel) (by decide) rfl rfl (by decide) rfl rfl (Nat.le_of_ble_eq_true rfl) rfl rfl (Nat.le_of_ble_eq_true rfl) (h.monoV (fun σ1 h => ?_))
  refine r_blk [qO (.aload_n 0), qF (.getfield 81) 10 9] (pc' := 11) (L' := [zR 0 0]) (S' := [zR 26 0]) (σ' := σ1) (Ps := []) (by decide +kernel) rfl trivial ?_
  refine r_callVI (As := []) (S := []) (Lc := [zR 26 0, zU, zU, zU, zU, zU, zU, zU]) (d' := 6) (n := 0) (g := 26) (x := 0) (ci := 9) kX9_turnedPointing vX9_turnedPointing lkX10_235 (by decide +kernel) (by decide) rfl rfl (by decide) rfl rfl (Nat.le_of_ble_eq_true rfl) rfl rfl (Nat.le_of_ble_eq_true rfl) (h.monoI (fun z3 σ2 h => ?_))
  exact r_ret (by decide +kernel) rfl (fun _ => h)
theorem gX10_bothWays_0 (a0 : Int) (σ : Hp) {Q : Option Int → Hp → Prop} (h : ((0 ≤ a0 → ((σ 1 0 1 ≤ 10 → Runs 1 mX7_takeAsItIs 0 [zR 16 0] [] σ (rV (fun σ1 => Runs 6 mX9_fewestForCost 0 [zR 26 0, zI a0, zU, zU, zU] [] σ1 (rI (fun z3 σ2 => Q (some z3) σ2))))) ∧ (¬ σ 1 0 1 ≤ 10 → Runs 0 mX10_refuse 0 [zR 0 0, zI (-6)] [] σ (rI (fun z5 σ4 => Q (some z5) σ4))))) ∧ (¬ 0 ≤ a0 → Runs 0 mX10_refuse 0 [zR 0 0, zI (-4)] [] σ (rI (fun z7 σ6 => Q (some z7) σ6))))) : Runs 7 mX10_bothWays 0 [zR 0 0, zI a0] [] σ Q := by
  refine r_blk [qO (.iload_n 1)] (pc' := 1) (L' := [zR 0 0, zI a0]) (S' := [zI a0]) (σ' := σ) (Ps := []) (by decide +kernel) rfl trivial ?_
  refine r_if_ge (off := 10) (tgt := 11) (by decide +kernel) (by decide) (fun c => ?_) (fun c => ?_)
  · replace h := h.1 c
    refine r_blk [qO (.aload_n 0), qF (.getfield 10) 10 0, qF (.getfield 164) 6 1, qO (.bipush 10)] (pc' := 20) (L' := [zR 0 0, zI a0]) (S' := [zI 10, zI (σ 1 0 1)]) (σ' := σ) (Ps := []) (by decide +kernel) rfl trivial ?_
    refine r_icmp_le (off := 10) (tgt := 30) (by decide +kernel) (by decide) (fun c => ?_) (fun c => ?_)
    · replace h := h.1 c
      refine r_blk [qO (.aload_n 0), qF (.getfield 40) 10 4] (pc' := 34) (L' := [zR 0 0, zI a0]) (S' := [zR 16 0]) (σ' := σ) (Ps := []) (by decide +kernel) rfl trivial ?_
      refine r_callVV (As := []) (S := []) (Lc := [zR 16 0]) (d' := 1) (n := 0) (g := 16) (x := 0) (ci := 7) kX7_takeAsItIs vX7_takeAsItIs lkX10_173 (by decide +kernel) (by decide) rfl rfl (by decide) rfl rfl (Nat.le_of_ble_eq_true rfl) rfl rfl (Nat.le_of_ble_eq_true rfl) (h.monoV (fun σ1 h => ?_))
      refine r_blk [qO (.aload_n 0), qF (.getfield 81) 10 9, qO (.iload_n 1)] (pc' := 42) (L' := [zR 0 0, zI a0]) (S' := [zI a0, zR 26 0]) (σ' := σ1) (Ps := []) (by decide +kernel) rfl trivial ?_
      refine r_callVI (As := [zI a0]) (S := []) (Lc := [zR 26 0, zI a0, zU, zU, zU]) (d' := 6) (n := 1) (g := 26) (x := 0) (ci := 9) kX9_fewestForCost vX9_fewestForCost lkX10_238 (by decide +kernel) (by decide) rfl rfl (by decide) rfl rfl (Nat.le_of_ble_eq_true rfl) rfl rfl (Nat.le_of_ble_eq_true rfl) (h.monoI (fun z3 σ2 h => ?_))
      exact r_ret (by decide +kernel) rfl (fun _ => h)
    · replace h := h.2 c
      refine r_blk [qO (.aload_n 0), qO (.bipush (-6))] (pc' := 26) (L' := [zR 0 0, zI a0]) (S' := [zI (-6), zR 0 0]) (σ' := σ) (Ps := []) (by decide +kernel) rfl trivial ?_
      refine r_callVI (As := [zI (-6)]) (S := []) (Lc := [zR 0 0, zI (-6)]) (d' := 0) (n := 1) (g := 0) (x := 0) (ci := 10) kX10_refuse vX10_refuse lkX10_98 (by decide +kernel) (by decide) rfl rfl (by decide) rfl rfl (Nat.le_of_ble_eq_true rfl) rfl rfl (Nat.le_of_ble_eq_true rfl) (h.monoI (fun z5 σ4 h => ?_))
      exact r_ret (by decide +kernel) rfl (fun _ => h)
  · replace h := h.2 c
    refine r_blk [qO (.aload_n 0), qO (.bipush (-4))] (pc' := 7) (L' := [zR 0 0, zI a0]) (S' := [zI (-4), zR 0 0]) (σ' := σ) (Ps := []) (by decide +kernel) rfl trivial ?_
    refine r_callVI (As := [zI (-4)]) (S := []) (Lc := [zR 0 0, zI (-4)]) (d' := 0) (n := 1) (g := 0) (x := 0) (ci := 10) kX10_refuse vX10_refuse lkX10_98 (by decide +kernel) (by decide) rfl rfl (by decide) rfl rfl (Nat.le_of_ble_eq_true rfl) rfl rfl (Nat.le_of_ble_eq_true rfl) (h.monoI (fun z7 σ6 h => ?_))
    exact r_ret (by decide +kernel) rfl (fun _ => h)
theorem gX10_corner_0 (a0 : Int) (σ : Hp) {Q : Option Int → Hp → Prop} (h : Runs 0 mX6_hasCorner 0 [zR 1 0, zI a0] [] σ (rI (fun z2 σ1 => ((¬ z2 = 0 → ((σ1 1 0 3 < 10 → (0 ≤ σ1 1 0 3 ∧ σ1 1 0 3 < 10) ∧ (-2147483648 ≤ (σ1 1 0 3) + 1 ∧ (σ1 1 0 3) + 1 ≤ 2147483647) ∧ Q (some ((σ1 1 0 3) + 1)) (zup (zup σ1 10 0 ((σ1 1 0 3).toNat) a0) 1 0 3 ((σ1 1 0 3) + 1))) ∧ (¬ σ1 1 0 3 < 10 → Runs 0 mX10_refuse 0 [zR 0 0, zI (-6)] [] σ1 (rI (fun z4 σ3 => Q (some z4) σ3))))) ∧ (z2 = 0 → Runs 0 mX10_refuse 0 [zR 0 0, zI (-1)] [] σ1 (rI (fun z6 σ5 => Q (some z6) σ5))))))) : Runs 1 mX10_corner 0 [zR 0 0, zI a0] [] σ Q := by
  refine r_blk [qO (.aload_n 0), qF (.getfield 10) 10 0, qO (.iload_n 1)] (pc' := 5) (L' := [zR 0 0, zI a0]) (S' := [zI a0, zR 1 0]) (σ' := σ) (Ps := []) (by decide +kernel) rfl trivial ?_
  refine r_callVI (As := [zI a0]) (S := []) (Lc := [zR 1 0, zI a0]) (d' := 0) (n := 1) (g := 1) (x := 0) (ci := 6) kX6_hasCorner vX6_hasCorner lkX10_241 (by decide +kernel) (by decide) rfl rfl (by decide) rfl rfl (Nat.le_of_ble_eq_true rfl) rfl rfl (Nat.le_of_ble_eq_true rfl) (h.monoI (fun z2 σ1 h => ?_))
  refine r_if_ne (off := 9) (tgt := 17) (by decide +kernel) (by decide) (fun c => ?_) (fun c => ?_)
  · replace h := h.1 c
    refine r_blk [qO (.aload_n 0), qF (.getfield 10) 10 0, qF (.getfield 244) 6 3, qO (.bipush 10)] (pc' := 26) (L' := [zR 0 0, zI a0]) (S' := [zI 10, zI (σ1 1 0 3)]) (σ' := σ1) (Ps := []) (by decide +kernel) rfl trivial ?_
    refine r_icmp_lt (off := 10) (tgt := 36) (by decide +kernel) (by decide) (fun c => ?_) (fun c => ?_)
    · replace h := h.1 c
      refine r_blk [qO (.aload_n 0), qF (.getfield 10) 10 0, qF (.getfield 247) 6 15, qO (.aload_n 0), qF (.getfield 10) 10 0, qF (.getfield 244) 6 3, qO (.iload_n 1), qO .iastore, qO (.aload_n 0), qF (.getfield 10) 10 0, qO .dup, qF (.getfield 244) 6 3, qO (.iconst 1), qO .iadd, qF (.putfield 244) 6 3, qO (.aload_n 0), qF (.getfield 10) 10 0, qF (.getfield 244) 6 3] (pc' := 72) (L' := [zR 0 0, zI a0]) (S' := [zI ((σ1 1 0 3) + 1)]) (σ' := (zup (zup σ1 10 0 ((σ1 1 0 3).toNat) a0) 1 0 3 ((σ1 1 0 3) + 1))) (Ps := [0 ≤ σ1 1 0 3 ∧ σ1 1 0 3 < 10, -2147483648 ≤ (σ1 1 0 3) + 1 ∧ (σ1 1 0 3) + 1 ≤ 2147483647]) (by decide +kernel) rfl ⟨h.1, h.2.1, trivial⟩ ?_
      replace h := h.2.2
      exact r_ret (by decide +kernel) rfl (fun _ => h)
    · replace h := h.2 c
      refine r_blk [qO (.aload_n 0), qO (.bipush (-6))] (pc' := 32) (L' := [zR 0 0, zI a0]) (S' := [zI (-6), zR 0 0]) (σ' := σ1) (Ps := []) (by decide +kernel) rfl trivial ?_
      refine r_callVI (As := [zI (-6)]) (S := []) (Lc := [zR 0 0, zI (-6)]) (d' := 0) (n := 1) (g := 0) (x := 0) (ci := 10) kX10_refuse vX10_refuse lkX10_98 (by decide +kernel) (by decide) rfl rfl (by decide) rfl rfl (Nat.le_of_ble_eq_true rfl) rfl rfl (Nat.le_of_ble_eq_true rfl) (h.monoI (fun z4 σ3 h => ?_))
      exact r_ret (by decide +kernel) rfl (fun _ => h)
  · replace h := h.2 c
    refine r_blk [qO (.aload_n 0), qO (.iconst (-1))] (pc' := 13) (L' := [zR 0 0, zI a0]) (S' := [zI (-1), zR 0 0]) (σ' := σ1) (Ps := []) (by decide +kernel) rfl trivial ?_
    refine r_callVI (As := [zI (-1)]) (S := []) (Lc := [zR 0 0, zI (-1)]) (d' := 0) (n := 1) (g := 0) (x := 0) (ci := 10) kX10_refuse vX10_refuse lkX10_98 (by decide +kernel) (by decide) rfl rfl (by decide) rfl rfl (Nat.le_of_ble_eq_true rfl) rfl rfl (Nat.le_of_ble_eq_true rfl) (h.monoI (fun z6 σ5 h => ?_))
    exact r_ret (by decide +kernel) rfl (fun _ => h)
theorem gX10_procession_0 (σ : Hp) {Q : Option Int → Hp → Prop} (h : ((2 ≤ σ 1 0 3 → Runs 1 mX7_takeAsItIs 0 [zR 16 0] [] σ (rV (fun σ1 => Runs 2 mX0_lay 0 [zR 19 0, zI 0, zU, zU] [] σ1 (rV (fun σ2 => Runs 0 mX0_roundOfRow 0 [zR 19 0, zU, zU, zU, zU] [] σ2 (rI (fun z4 σ3 => Q (some z4) (zup σ3 1 0 3 0)))))))) ∧ (¬ 2 ≤ σ 1 0 3 → Runs 0 mX10_refuse 0 [zR 0 0, zI (-3)] [] σ (rI (fun z6 σ5 => Q (some z6) σ5))))) : Runs 3 mX10_procession 0 [zR 0 0, zU] [] σ Q := by
  refine r_blk [qO (.aload_n 0), qF (.getfield 10) 10 0, qF (.getfield 244) 6 3, qO (.iconst 2)] (pc' := 8) (L' := [zR 0 0, zU]) (S' := [zI 2, zI (σ 1 0 3)]) (σ' := σ) (Ps := []) (by decide +kernel) rfl trivial ?_
  refine r_icmp_ge (off := 10) (tgt := 18) (by decide +kernel) (by decide) (fun c => ?_) (fun c => ?_)
  · replace h := h.1 c
    refine r_blk [qO (.aload_n 0), qF (.getfield 40) 10 4] (pc' := 22) (L' := [zR 0 0, zU]) (S' := [zR 16 0]) (σ' := σ) (Ps := []) (by decide +kernel) rfl trivial ?_
    refine r_callVV (As := []) (S := []) (Lc := [zR 16 0]) (d' := 1) (n := 0) (g := 16) (x := 0) (ci := 7) kX7_takeAsItIs vX7_takeAsItIs lkX10_173 (by decide +kernel) (by decide) rfl rfl (by decide) rfl rfl (Nat.le_of_ble_eq_true rfl) rfl rfl (Nat.le_of_ble_eq_true rfl) (h.monoV (fun σ1 h => ?_))
    refine r_blk [qO (.aload_n 0), qF (.getfield 56) 10 6, qO (.iconst 0)] (pc' := 30) (L' := [zR 0 0, zU]) (S' := [zI 0, zR 19 0]) (σ' := σ1) (Ps := []) (by decide +kernel) rfl trivial ?_
    refine r_callVV (As := [zI 0]) (S := []) (Lc := [zR 19 0, zI 0, zU, zU]) (d' := 2) (n := 1) (g := 19) (x := 0) (ci := 0) kX0_lay vX0_lay lkX10_250 (by decide +kernel) (by decide) rfl rfl (by decide) rfl rfl (Nat.le_of_ble_eq_true rfl) rfl rfl (Nat.le_of_ble_eq_true rfl) (h.monoV (fun σ2 h => ?_))
    refine r_blk [qO (.aload_n 0), qF (.getfield 56) 10 6] (pc' := 37) (L' := [zR 0 0, zU]) (S' := [zR 19 0]) (σ' := σ2) (Ps := []) (by decide +kernel) rfl trivial ?_
    refine r_callVI (As := []) (S := []) (Lc := [zR 19 0, zU, zU, zU, zU]) (d' := 0) (n := 0) (g := 19) (x := 0) (ci := 0) kX0_roundOfRow vX0_roundOfRow lkX10_253 (by decide +kernel) (by decide) rfl rfl (by decide) rfl rfl (Nat.le_of_ble_eq_true rfl) rfl rfl (Nat.le_of_ble_eq_true rfl) (h.monoI (fun z4 σ3 h => ?_))
    refine r_blk [qO (.istore_n 1), qO (.aload_n 0), qF (.getfield 10) 10 0, qO (.iconst 0), qF (.putfield 244) 6 3, qO (.iload_n 1)] (pc' := 50) (L' := [zR 0 0, zI z4]) (S' := [zI z4]) (σ' := (zup σ3 1 0 3 0)) (Ps := []) (by decide +kernel) rfl trivial ?_
    exact r_ret (by decide +kernel) rfl (fun _ => h)
  · replace h := h.2 c
    refine r_blk [qO (.aload_n 0), qO (.bipush (-3))] (pc' := 14) (L' := [zR 0 0, zU]) (S' := [zI (-3), zR 0 0]) (σ' := σ) (Ps := []) (by decide +kernel) rfl trivial ?_
    refine r_callVI (As := [zI (-3)]) (S := []) (Lc := [zR 0 0, zI (-3)]) (d' := 0) (n := 1) (g := 0) (x := 0) (ci := 10) kX10_refuse vX10_refuse lkX10_98 (by decide +kernel) (by decide) rfl rfl (by decide) rfl rfl (Nat.le_of_ble_eq_true rfl) rfl rfl (Nat.le_of_ble_eq_true rfl) (h.monoI (fun z6 σ5 h => ?_))
    exact r_ret (by decide +kernel) rfl (fun _ => h)
