theorem gX10_refusalOfMinute_0 (a0 : Int) (σ : Hp) {Q : Option Int → Hp → Prop} (h : ((0 ≤ a0 → ((a0 ≤ 2879 → Q (some 0) σ) ∧ (¬ a0 ≤ 2879 → Q (some (-6)) σ))) ∧ (¬ 0 ≤ a0 → Q (some (-4)) σ))) : Runs 0 mX10_refusalOfMinute 0 [zR 0 0, zI a0] [] σ Q := by
  refine r_blk [qO (.iload_n 1)] (pc' := 1) (L' := [zR 0 0, zI a0]) (S' := [zI a0]) (σ' := σ) (Ps := []) (by decide +kernel) rfl trivial ?_
  refine r_if_ge (off := 6) (tgt := 7) (by decide +kernel) (by decide) (fun c => ?_) (fun c => ?_)
  · replace h := h.1 c
    refine r_blk [qO (.iload_n 1), qO (.sipush 2879)] (pc' := 11) (L' := [zR 0 0, zI a0]) (S' := [zI 2879, zI a0]) (σ' := σ) (Ps := []) (by decide +kernel) rfl trivial ?_
    refine r_icmp_le (off := 8) (tgt := 19) (by decide +kernel) (by decide) (fun c => ?_) (fun c => ?_)
    · replace h := h.1 c
      refine r_blk [qO (.iconst 0)] (pc' := 20) (L' := [zR 0 0, zI a0]) (S' := [zI 0]) (σ' := σ) (Ps := []) (by decide +kernel) rfl trivial ?_
      exact r_ret (by decide +kernel) rfl (fun _ => h)
    · replace h := h.2 c
      refine r_blk [qO (.bipush (-6)), qO (.goto 4)] (pc' := 20) (L' := [zR 0 0, zI a0]) (S' := [zI (-6)]) (σ' := σ) (Ps := []) (by decide +kernel) rfl trivial ?_
      exact r_ret (by decide +kernel) rfl (fun _ => h)
  · replace h := h.2 c
    refine r_blk [qO (.bipush (-4))] (pc' := 6) (L' := [zR 0 0, zI a0]) (S' := [zI (-4)]) (σ' := σ) (Ps := []) (by decide +kernel) rfl trivial ?_
    exact r_ret (by decide +kernel) rfl (fun _ => h)
theorem gX10_refusalOfWay_0 (a0 : Int) (a1 : Int) (a2 : Int) (σ : Hp) {Q : Option Int → Hp → Prop} (h : Runs 0 mX6_hasCorner 0 [zR 1 0, zI a0] [] σ (rI (fun z2 σ1 => ((z2 = 0 → Q (some (-1)) σ1) ∧ (¬ z2 = 0 → Runs 0 mX6_hasCorner 0 [zR 1 0, zI a1] [] σ1 (rI (fun z4 σ3 => ((¬ z4 = 0 → Runs 0 mX10_refusalOfMinute 0 [zR 0 0, zI a2] [] σ3 (rI (fun z6 σ5 => Q (some z6) σ5))) ∧ (z4 = 0 → Q (some (-1)) σ3))))))))) : Runs 1 mX10_refusalOfWay 0 [zR 0 0, zI a0, zI a1, zI a2] [] σ Q := by
  refine r_blk [qO (.aload_n 0), qF (.getfield 10) 10 0, qO (.iload_n 1)] (pc' := 5) (L' := [zR 0 0, zI a0, zI a1, zI a2]) (S' := [zI a0, zR 1 0]) (σ' := σ) (Ps := []) (by decide +kernel) rfl trivial ?_
  refine r_callVI (As := [zI a0]) (S := []) (Lc := [zR 1 0, zI a0]) (d' := 0) (n := 1) (g := 1) (x := 0) (ci := 6) kX6_hasCorner vX6_hasCorner lkX10_241 (by decide +kernel) (by decide) rfl rfl (by decide) rfl rfl (Nat.le_of_ble_eq_true rfl) rfl rfl (Nat.le_of_ble_eq_true rfl) (h.monoI (fun z2 σ1 h => ?_))
  refine r_if_eq (off := 14) (tgt := 22) (by decide +kernel) (by decide) (fun c => ?_) (fun c => ?_)
  · replace h := h.1 c
    refine r_blk [qO (.iconst (-1))] (pc' := 23) (L' := [zR 0 0, zI a0, zI a1, zI a2]) (S' := [zI (-1)]) (σ' := σ1) (Ps := []) (by decide +kernel) rfl trivial ?_
    exact r_ret (by decide +kernel) rfl (fun _ => h)
  · replace h := h.2 c
    refine r_blk [qO (.aload_n 0), qF (.getfield 10) 10 0, qO (.iload_n 2)] (pc' := 16) (L' := [zR 0 0, zI a0, zI a1, zI a2]) (S' := [zI a1, zR 1 0]) (σ' := σ1) (Ps := []) (by decide +kernel) rfl trivial ?_
    refine r_callVI (As := [zI a1]) (S := []) (Lc := [zR 1 0, zI a1]) (d' := 0) (n := 1) (g := 1) (x := 0) (ci := 6) kX6_hasCorner vX6_hasCorner lkX10_241 (by decide +kernel) (by decide) rfl rfl (by decide) rfl rfl (Nat.le_of_ble_eq_true rfl) rfl rfl (Nat.le_of_ble_eq_true rfl) (h.monoI (fun z4 σ3 h => ?_))
    refine r_if_ne (off := 5) (tgt := 24) (by decide +kernel) (by decide) (fun c => ?_) (fun c => ?_)
    · replace h := h.1 c
      refine r_blk [qO (.aload_n 0), qO (.iload_n 3)] (pc' := 26) (L' := [zR 0 0, zI a0, zI a1, zI a2]) (S' := [zI a2, zR 0 0]) (σ' := σ3) (Ps := []) (by decide +kernel) rfl trivial ?_
      refine r_callVI (As := [zI a2]) (S := []) (Lc := [zR 0 0, zI a2]) (d' := 0) (n := 1) (g := 0) (x := 0) (ci := 10) kX10_refusalOfMinute vX10_refusalOfMinute lkX10_170 (by decide +kernel) (by decide) rfl rfl (by decide) rfl rfl (Nat.le_of_ble_eq_true rfl) rfl rfl (Nat.le_of_ble_eq_true rfl) (h.monoI (fun z6 σ5 h => ?_))
      exact r_ret (by decide +kernel) rfl (fun _ => h)
    · replace h := h.2 c
      refine r_blk [qO (.iconst (-1))] (pc' := 23) (L' := [zR 0 0, zI a0, zI a1, zI a2]) (S' := [zI (-1)]) (σ' := σ3) (Ps := []) (by decide +kernel) rfl trivial ?_
      exact r_ret (by decide +kernel) rfl (fun _ => h)
theorem gX10_refusalOfTrying_0 (σ : Hp) {Q : Option Int → Hp → Prop} (h : ((σ 1 0 1 ≤ 10 → ((¬ σ 1 0 1 = 0 → Q (some 0) σ) ∧ (σ 1 0 1 = 0 → Q (some (-3)) σ))) ∧ (¬ σ 1 0 1 ≤ 10 → Q (some (-6)) σ))) : Runs 0 mX10_refusalOfTrying 0 [zR 0 0] [] σ Q := by
  refine r_blk [qO (.aload_n 0), qF (.getfield 10) 10 0, qF (.getfield 164) 6 1, qO (.bipush 10)] (pc' := 9) (L' := [zR 0 0]) (S' := [zI 10, zI (σ 1 0 1)]) (σ' := σ) (Ps := []) (by decide +kernel) rfl trivial ?_
  refine r_icmp_le (off := 6) (tgt := 15) (by decide +kernel) (by decide) (fun c => ?_) (fun c => ?_)
  · replace h := h.1 c
    refine r_blk [qO (.aload_n 0), qF (.getfield 10) 10 0, qF (.getfield 164) 6 1] (pc' := 22) (L' := [zR 0 0]) (S' := [zI (σ 1 0 1)]) (σ' := σ) (Ps := []) (by decide +kernel) rfl trivial ?_
    refine r_if_ne (off := 8) (tgt := 30) (by decide +kernel) (by decide) (fun c => ?_) (fun c => ?_)
    · replace h := h.1 c
      refine r_blk [qO (.iconst 0)] (pc' := 31) (L' := [zR 0 0]) (S' := [zI 0]) (σ' := σ) (Ps := []) (by decide +kernel) rfl trivial ?_
      exact r_ret (by decide +kernel) rfl (fun _ => h)
    · replace h := h.2 c
      refine r_blk [qO (.bipush (-3)), qO (.goto 4)] (pc' := 31) (L' := [zR 0 0]) (S' := [zI (-3)]) (σ' := σ) (Ps := []) (by decide +kernel) rfl trivial ?_
      exact r_ret (by decide +kernel) rfl (fun _ => h)
  · replace h := h.2 c
    refine r_blk [qO (.bipush (-6))] (pc' := 14) (L' := [zR 0 0]) (S' := [zI (-6)]) (σ' := σ) (Ps := []) (by decide +kernel) rfl trivial ?_
    exact r_ret (by decide +kernel) rfl (fun _ => h)
theorem gX10_freezeAsItIs_0 (a0 : Int) (σ : Hp) {Q : Option Int → Hp → Prop} (h : Runs 1 mX7_takeAsItIs 0 [zR 16 0] [] σ (rV (fun σ1 => Runs 2 mX0_lay 0 [zR 19 0, zI a0, zU, zU] [] σ1 (rV (fun σ2 => Runs 2 mX0_join 0 [zR 19 0, zU, zU] [] σ2 (rV (fun σ3 => Q none σ3))))))) : Runs 3 mX10_freezeAsItIs 0 [zR 0 0, zI a0] [] σ Q := by
  refine r_blk [qO (.aload_n 0), qF (.getfield 40) 10 4] (pc' := 4) (L' := [zR 0 0, zI a0]) (S' := [zR 16 0]) (σ' := σ) (Ps := []) (by decide +kernel) rfl trivial ?_
  refine r_callVV (As := []) (S := []) (Lc := [zR 16 0]) (d' := 1) (n := 0) (g := 16) (x := 0) (ci := 7) kX7_takeAsItIs vX7_takeAsItIs lkX10_173 (by decide +kernel) (by decide) rfl rfl (by decide) rfl rfl (Nat.le_of_ble_eq_true rfl) rfl rfl (Nat.le_of_ble_eq_true rfl) (h.monoV (fun σ1 h => ?_))
  refine r_blk [qO (.aload_n 0), qF (.getfield 56) 10 6, qO (.iload_n 1)] (pc' := 12) (L' := [zR 0 0, zI a0]) (S' := [zI a0, zR 19 0]) (σ' := σ1) (Ps := []) (by decide +kernel) rfl trivial ?_
  refine r_callVV (As := [zI a0]) (S := []) (Lc := [zR 19 0, zI a0, zU, zU]) (d' := 2) (n := 1) (g := 19) (x := 0) (ci := 0) kX0_lay vX0_lay lkX10_250 (by decide +kernel) (by decide) rfl rfl (by decide) rfl rfl (Nat.le_of_ble_eq_true rfl) rfl rfl (Nat.le_of_ble_eq_true rfl) (h.monoV (fun σ2 h => ?_))
  refine r_blk [qO (.aload_n 0), qF (.getfield 56) 10 6] (pc' := 19) (L' := [zR 0 0, zI a0]) (S' := [zR 19 0]) (σ' := σ2) (Ps := []) (by decide +kernel) rfl trivial ?_
  refine r_callVV (As := []) (S := []) (Lc := [zR 19 0, zU, zU]) (d' := 2) (n := 0) (g := 19) (x := 0) (ci := 0) kX0_join vX0_join lkX10_306 (by decide +kernel) (by decide) rfl rfl (by decide) rfl rfl (Nat.le_of_ble_eq_true rfl) rfl rfl (Nat.le_of_ble_eq_true rfl) (h.monoV (fun σ3 h => ?_))
  exact r_retv (by decide +kernel) rfl h
theorem gX10_traceErrand_0 (a0 : Int) (σ : Hp) {Q : Option Int → Hp → Prop} (h : (0 ≤ a0 ∧ a0 < 8) ∧ (0 ≤ a0 ∧ a0 < 8) ∧ (0 ≤ a0 ∧ a0 < 8) ∧ (0 ≤ a0 ∧ a0 < 8) ∧ Runs 4 mX4_trace 0 [zR 28 a0.toNat, zI (σ 6 0 a0.toNat), zI (σ 7 0 a0.toNat), zI (σ 8 0 a0.toNat), zU] [] σ (rV (fun σ1 => Q none σ1))) : Runs 5 mX10_traceErrand 0 [zR 0 0, zI a0] [] σ Q := by
  refine r_blk [qO (.aload_n 0), qF (.getfield 87) 10 10, qO (.iload_n 1), qO .aaload, qO (.aload_n 0), qF (.getfield 10) 10 0, qF (.getfield 143) 6 11, qO (.iload_n 1), qO .iaload, qO (.aload_n 0), qF (.getfield 10) 10 0, qF (.getfield 146) 6 12, qO (.iload_n 1), qO .iaload, qO (.aload_n 0), qF (.getfield 10) 10 0, qF (.getfield 149) 6 13, qO (.iload_n 1), qO .iaload] (pc' := 33) (L' := [zR 0 0, zI a0]) (S' := [zI (σ 8 0 a0.toNat), zI (σ 7 0 a0.toNat), zI (σ 6 0 a0.toNat), zR 28 a0.toNat]) (σ' := σ) (Ps := [0 ≤ a0 ∧ a0 < 8, 0 ≤ a0 ∧ a0 < 8, 0 ≤ a0 ∧ a0 < 8, 0 ≤ a0 ∧ a0 < 8]) (by decide +kernel) rfl ⟨h.1, h.2.1, h.2.2.1, h.2.2.2.1, trivial⟩ ?_
  replace h := h.2.2.2.2
  refine r_callVV (As := [zI (σ 6 0 a0.toNat), zI (σ 7 0 a0.toNat), zI (σ 8 0 a0.toNat)]) (S := []) (Lc := [zR 28 a0.toNat, zI (σ 6 0 a0.toNat), zI (σ 7 0 a0.toNat), zI (σ 8 0 a0.toNat), zU]) (d' := 4) (n := 3) (g := 28) (x := a0.toNat) (ci := 4) kX4_trace vX4_trace lkX10_193 (by decide +kernel) (by decide) rfl rfl (by decide) rfl rfl (Nat.le_of_ble_eq_true rfl) rfl rfl (Nat.le_of_ble_eq_true rfl) (h.monoV (fun σ1 h => ?_))
  exact r_retv (by decide +kernel) rfl h
theorem gX10_bitOf_0 (a0 : Int) (a1 : Int) (σ : Hp) {Q : Option Int → Hp → Prop} (h : Q (some (bitz a0 a1)) σ) : Runs 0 mX10_bitOf 0 [zI a0, zI a1] [] σ Q := by
  refine r_blk [qO (.iload_n 0), qO (.iload_n 1), qO .ishr, qO (.iconst 1), qO .iand] (pc' := 5) (L' := [zI a0, zI a1]) (S' := [zI (bitz a0 a1)]) (σ' := σ) (Ps := []) (by decide +kernel) rfl trivial ?_
  exact r_ret (by decide +kernel) rfl (fun _ => h)
