theorem gX10_feed_0 (a0 : Int) (a1 : Int64) (σ : Hp) {Q : Option Int → Hp → Prop} (h : ((1 ≤ a0 → ((8 < a0 → Runs 0 mX10_refuse 0 [zR 0 0, zI (-6)] [] σ (rI (fun z2 σ1 => Q (some z2) σ1))) ∧ (¬ 8 < a0 → (-2147483648 ≤ (σ 12 0 1) + a0 ∧ (σ 12 0 1) + a0 ≤ 2147483647) ∧ (((σ 12 0 1) + a0 ≤ 64 → Runs 1 mX10_feed 42 [zR 0 0, zI a0, zJ a1, zU, zI 0] [] σ Q) ∧ (¬ (σ 12 0 1) + a0 ≤ 64 → Runs 0 mX10_refuse 0 [zR 0 0, zI (-6)] [] σ (rI (fun z4 σ3 => Q (some z4) σ3))))))) ∧ (¬ 1 ≤ a0 → Runs 0 mX10_refuse 0 [zR 0 0, zI (-4)] [] σ (rI (fun z6 σ5 => Q (some z6) σ5))))) : Runs 1 mX10_feed 0 [zR 0 0, zI a0, zJ a1, zU, zU] [] σ Q := by
  refine r_blk [qO (.iload_n 1), qO (.iconst 1)] (pc' := 2) (L' := [zR 0 0, zI a0, zJ a1, zU, zU]) (S' := [zI 1, zI a0]) (σ' := σ) (Ps := []) (by decide +kernel) rfl trivial ?_
  refine r_icmp_ge (off := 10) (tgt := 12) (by decide +kernel) (by decide) (fun c => ?_) (fun c => ?_)
  · replace h := h.1 c
    refine r_blk [qO (.iload_n 1), qO (.bipush 8)] (pc' := 15) (L' := [zR 0 0, zI a0, zJ a1, zU, zU]) (S' := [zI 8, zI a0]) (σ' := σ) (Ps := []) (by decide +kernel) rfl trivial ?_
    refine r_icmp_gt (off := 17) (tgt := 32) (by decide +kernel) (by decide) (fun c => ?_) (fun c => ?_)
    · replace h := h.1 c
      refine r_blk [qO (.aload_n 0), qO (.bipush (-6))] (pc' := 35) (L' := [zR 0 0, zI a0, zJ a1, zU, zU]) (S' := [zI (-6), zR 0 0]) (σ' := σ) (Ps := []) (by decide +kernel) rfl trivial ?_
      refine r_callVI (As := [zI (-6)]) (S := []) (Lc := [zR 0 0, zI (-6)]) (d' := 0) (n := 1) (g := 0) (x := 0) (ci := 10) kX10_refuse vX10_refuse lkX10_98 (by decide +kernel) (by decide) rfl rfl (by decide) rfl rfl (Nat.le_of_ble_eq_true rfl) rfl rfl (Nat.le_of_ble_eq_true rfl) (h.monoI (fun z2 σ1 h => ?_))
      exact r_ret (by decide +kernel) rfl (fun _ => h)
    · replace h := h.2 c
      refine r_blk [qO (.aload_n 0), qF (.getfield 22) 10 2, qF (.getfield 102) 5 1, qO (.iload_n 1), qO .iadd, qO (.bipush 64)] (pc' := 29) (L' := [zR 0 0, zI a0, zJ a1, zU, zU]) (S' := [zI 64, zI ((σ 12 0 1) + a0)]) (σ' := σ) (Ps := [-2147483648 ≤ (σ 12 0 1) + a0 ∧ (σ 12 0 1) + a0 ≤ 2147483647]) (by decide +kernel) rfl ⟨h.1, trivial⟩ ?_
      replace h := h.2
      refine r_icmp_le (off := 10) (tgt := 39) (by decide +kernel) (by decide) (fun c => ?_) (fun c => ?_)
      · replace h := h.1 c
        refine r_blk [qO (.iconst 0), qO (.istore 4)] (pc' := 42) (L' := [zR 0 0, zI a0, zJ a1, zU, zI 0]) (S' := []) (σ' := σ) (Ps := []) (by decide +kernel) rfl trivial ?_
        exact Runs.fg (fgE (fgE (fgE (fgU (fgE fg0))))) h
      · replace h := h.2 c
        refine r_blk [qO (.aload_n 0), qO (.bipush (-6))] (pc' := 35) (L' := [zR 0 0, zI a0, zJ a1, zU, zU]) (S' := [zI (-6), zR 0 0]) (σ' := σ) (Ps := []) (by decide +kernel) rfl trivial ?_
        refine r_callVI (As := [zI (-6)]) (S := []) (Lc := [zR 0 0, zI (-6)]) (d' := 0) (n := 1) (g := 0) (x := 0) (ci := 10) kX10_refuse vX10_refuse lkX10_98 (by decide +kernel) (by decide) rfl rfl (by decide) rfl rfl (Nat.le_of_ble_eq_true rfl) rfl rfl (Nat.le_of_ble_eq_true rfl) (h.monoI (fun z4 σ3 h => ?_))
        exact r_ret (by decide +kernel) rfl (fun _ => h)
  · replace h := h.2 c
    refine r_blk [qO (.aload_n 0), qO (.bipush (-4))] (pc' := 8) (L' := [zR 0 0, zI a0, zJ a1, zU, zU]) (S' := [zI (-4), zR 0 0]) (σ' := σ) (Ps := []) (by decide +kernel) rfl trivial ?_
    refine r_callVI (As := [zI (-4)]) (S := []) (Lc := [zR 0 0, zI (-4)]) (d' := 0) (n := 1) (g := 0) (x := 0) (ci := 10) kX10_refuse vX10_refuse lkX10_98 (by decide +kernel) (by decide) rfl rfl (by decide) rfl rfl (Nat.le_of_ble_eq_true rfl) rfl rfl (Nat.le_of_ble_eq_true rfl) (h.monoI (fun z6 σ5 h => ?_))
    exact r_ret (by decide +kernel) rfl (fun _ => h)
theorem gX10_feed_42 (l1 : Int) (l4 : Int) (l2 : Int64) (σ : Hp) {Q : Option Int → Hp → Prop} (h : ((l1 ≤ l4 → Q (some (σ 12 0 1)) σ) ∧ (¬ l1 ≤ l4 → (-2147483648 ≤ 8 * l4 ∧ 8 * l4 ≤ 2147483647) ∧ Runs 0 mX5_add 0 [zR 12 0, zI (zand (zl2i (zlushr l2 (8 * l4))) 255)] [] σ (rV (fun σ1 => (-2147483648 ≤ l4 + 1 ∧ l4 + 1 ≤ 2147483647) ∧ Runs 1 mX10_feed 42 [zR 0 0, zI l1, zJ l2, zU, zI (l4 + 1)] [] σ1 Q))))) : Runs 1 mX10_feed 42 [zR 0 0, zI l1, zJ l2, zU, zI l4] [] σ Q := by
  refine r_blk [qO (.iload 4), qO (.iload_n 1)] (pc' := 45) (L' := [zR 0 0, zI l1, zJ l2, zU, zI l4]) (S' := [zI l1, zI l4]) (σ' := σ) (Ps := []) (by decide +kernel) rfl trivial ?_
  refine r_icmp_ge (off := 28) (tgt := 73) (by decide +kernel) (by decide) (fun c => ?_) (fun c => ?_)
  · replace h := h.1 c
    refine r_blk [qO (.aload_n 0), qF (.getfield 22) 10 2, qF (.getfield 102) 5 1] (pc' := 80) (L' := [zR 0 0, zI l1, zJ l2, zU, zI l4]) (S' := [zI (σ 12 0 1)]) (σ' := σ) (Ps := []) (by decide +kernel) rfl trivial ?_
    exact r_ret (by decide +kernel) rfl (fun _ => h)
  · replace h := h.2 c
    refine r_blk [qO (.aload_n 0), qF (.getfield 22) 10 2, qO (.lload_n 2), qO (.bipush 8), qO (.iload 4), qO .imul, qO .lushr, qO .l2i, qO (.sipush 255), qO .iand] (pc' := 64) (L' := [zR 0 0, zI l1, zJ l2, zU, zI l4]) (S' := [zI (zand (zl2i (zlushr l2 (8 * l4))) 255), zR 12 0]) (σ' := σ) (Ps := [-2147483648 ≤ 8 * l4 ∧ 8 * l4 ≤ 2147483647]) (by decide +kernel) rfl ⟨h.1, trivial⟩ ?_
    replace h := h.2
    refine r_callVV (As := [zI (zand (zl2i (zlushr l2 (8 * l4))) 255)]) (S := []) (Lc := [zR 12 0, zI (zand (zl2i (zlushr l2 (8 * l4))) 255)]) (d' := 0) (n := 1) (g := 12) (x := 0) (ci := 5) kX5_add vX5_add lkX10_106 (by decide +kernel) (by decide) rfl rfl (by decide) rfl rfl (Nat.le_of_ble_eq_true rfl) rfl rfl (Nat.le_of_ble_eq_true rfl) (h.monoV (fun σ1 h => ?_))
    refine r_blk [qO (.iinc 4 1), qO (.goto (-28))] (pc' := 42) (L' := [zR 0 0, zI l1, zJ l2, zU, zI (l4 + 1)]) (S' := []) (σ' := σ1) (Ps := [-2147483648 ≤ l4 + 1 ∧ l4 + 1 ≤ 2147483647]) (by decide +kernel) rfl ⟨h.1, trivial⟩ ?_
    replace h := h.2
    exact Runs.fg (fgE (fgE (fgE (fgU (fgE fg0))))) h
theorem gX10_town_0 (σ : Hp) {Q : Option Int → Hp → Prop} (h : Runs 5 mX3_readInto 0 [zR 14 0, zR 1 0, zU, zU] [] σ (rI (fun z2 σ1 => Q (some z2) (zup σ1 12 0 1 0)))) : Runs 6 mX10_town 0 [zR 0 0, zU] [] σ Q := by
  refine r_blk [qO (.aload_n 0), qF (.getfield 31) 10 3, qO (.aload_n 0), qF (.getfield 10) 10 0] (pc' := 8) (L' := [zR 0 0, zU]) (S' := [zR 1 0, zR 14 0]) (σ' := σ) (Ps := []) (by decide +kernel) rfl trivial ?_
  refine r_callVI (As := [zR 1 0]) (S := []) (Lc := [zR 14 0, zR 1 0, zU, zU]) (d' := 5) (n := 1) (g := 14) (x := 0) (ci := 3) kX3_readInto vX3_readInto lkX10_110 (by decide +kernel) (by decide) rfl rfl (by decide) rfl rfl (Nat.le_of_ble_eq_true rfl) rfl rfl (Nat.le_of_ble_eq_true rfl) (h.monoI (fun z2 σ1 h => ?_))
  refine r_blk [qO (.istore_n 1), qO (.aload_n 0), qF (.getfield 22) 10 2, qO (.iconst 0), qF (.putfield 102) 5 1, qO (.iload_n 1)] (pc' := 21) (L' := [zR 0 0, zI z2]) (S' := [zI z2]) (σ' := (zup σ1 12 0 1 0)) (Ps := []) (by decide +kernel) rfl trivial ?_
  exact r_ret (by decide +kernel) rfl (fun _ => h)
theorem gX10_street_0 (a0 : Int) (a1 : Int) (σ : Hp) {Q : Option Int → Hp → Prop} (h : Runs 0 mX6_hasStreet 0 [zR 1 0, zI a0] [] σ (rI (fun z2 σ1 => ((¬ z2 = 0 → ((a1 < 0 ∨ 5 < a1 → Runs 0 mX10_refuse 0 [zR 0 0, zI (-2)] [] σ1 (rI (fun z4 σ3 => Q (some z4) σ3))) ∧ (a1 = 0 → (0 ≤ a0 ∧ a0 < 14) ∧ Q (some (σ1 2 0 a0.toNat)) σ1) ∧ (a1 = 1 → (0 ≤ a0 ∧ a0 < 14) ∧ Q (some (σ1 3 0 a0.toNat)) σ1) ∧ (a1 = 2 → (0 ≤ a0 ∧ a0 < 14) ∧ Q (some (σ1 4 0 a0.toNat)) σ1) ∧ (a1 = 3 → Runs 0 mX10_bitOf 0 [zI (σ1 1 0 4), zI a0] [] σ1 (rI (fun z6 σ5 => Q (some z6) σ5))) ∧ (a1 = 4 → (0 ≤ a0 ∧ a0 < 14) ∧ Q (some (σ1 5 0 a0.toNat)) σ1) ∧ (a1 = 5 → Runs 0 mX10_bitOf 0 [zI (σ1 1 0 5), zI a0] [] σ1 (rI (fun z8 σ7 => Q (some z8) σ7))))) ∧ (z2 = 0 → Runs 0 mX10_refuse 0 [zR 0 0, zI (-1)] [] σ1 (rI (fun z10 σ9 => Q (some z10) σ9))))))) : Runs 1 mX10_street 0 [zR 0 0, zI a0, zI a1] [] σ Q := by
  refine r_blk [qO (.aload_n 0), qF (.getfield 10) 10 0, qO (.iload_n 1)] (pc' := 5) (L' := [zR 0 0, zI a0, zI a1]) (S' := [zI a0, zR 1 0]) (σ' := σ) (Ps := []) (by decide +kernel) rfl trivial ?_
  refine r_callVI (As := [zI a0]) (S := []) (Lc := [zR 1 0, zI a0]) (d' := 0) (n := 1) (g := 1) (x := 0) (ci := 6) kX6_hasStreet vX6_hasStreet lkX10_114 (by decide +kernel) (by decide) rfl rfl (by decide) rfl rfl (Nat.le_of_ble_eq_true rfl) rfl rfl (Nat.le_of_ble_eq_true rfl) (h.monoI (fun z2 σ1 h => ?_))
  refine r_if_ne (off := 9) (tgt := 17) (by decide +kernel) (by decide) (fun c => ?_) (fun c => ?_)
  · replace h := h.1 c
    refine r_blk [qO (.iload_n 2)] (pc' := 18) (L' := [zR 0 0, zI a0, zI a1]) (S' := [zI a1]) (σ' := σ1) (Ps := []) (by decide +kernel) rfl trivial ?_
    by_cases c : a1 < 0 ∨ 5 < a1
    · replace h := h.1 c
      refine r_tableOut (dflt := 102) (lo := 0) (hi := 5) (offs := #[38, 48, 58, 68, 80, 90]) (len := 38) (tgt := 120) (by decide +kernel) c (by decide) ?_
      refine r_blk [qO (.aload_n 0), qO (.bipush (-2))] (pc' := 123) (L' := [zR 0 0, zI a0, zI a1]) (S' := [zI (-2), zR 0 0]) (σ' := σ1) (Ps := []) (by decide +kernel) rfl trivial ?_
      refine r_callVI (As := [zI (-2)]) (S := []) (Lc := [zR 0 0, zI (-2)]) (d' := 0) (n := 1) (g := 0) (x := 0) (ci := 10) kX10_refuse vX10_refuse lkX10_98 (by decide +kernel) (by decide) rfl rfl (by decide) rfl rfl (Nat.le_of_ble_eq_true rfl) rfl rfl (Nat.le_of_ble_eq_true rfl) (h.monoI (fun z4 σ3 h => ?_))
      exact r_ret (by decide +kernel) rfl (fun _ => h)
    replace h := h.2
    have hc : a1 = 0 ∨ a1 = 1 ∨ a1 = 2 ∨ a1 = 3 ∨ a1 = 4 ∨ a1 = 5 := by omega
    rcases hc with c | c | c | c | c | c
    · replace h := h.1 c
      refine r_tableIn (dflt := 102) (lo := 0) (hi := 5) (offs := #[38, 48, 58, 68, 80, 90]) (len := 38) (off := 38) (tgt := 56) (by decide +kernel) (by omega) (by omega) (by rw [c]; rfl) (by decide) ?_
      refine r_blk [qO (.aload_n 0), qF (.getfield 10) 10 0, qF (.getfield 118) 6 7, qO (.iload_n 1), qO .iaload] (pc' := 65) (L' := [zR 0 0, zI a0, zI a1]) (S' := [zI (σ1 2 0 a0.toNat)]) (σ' := σ1) (Ps := [0 ≤ a0 ∧ a0 < 14]) (by decide +kernel) rfl ⟨h.1, trivial⟩ ?_
      replace h := h.2
      exact r_ret (by decide +kernel) rfl (fun _ => h)
    · replace h := h.2.1 c
      refine r_tableIn (dflt := 102) (lo := 0) (hi := 5) (offs := #[38, 48, 58, 68, 80, 90]) (len := 38) (off := 48) (tgt := 66) (by decide +kernel) (by omega) (by omega) (by rw [c]; rfl) (by decide) ?_
      refine r_blk [qO (.aload_n 0), qF (.getfield 10) 10 0, qF (.getfield 121) 6 8, qO (.iload_n 1), qO .iaload] (pc' := 75) (L' := [zR 0 0, zI a0, zI a1]) (S' := [zI (σ1 3 0 a0.toNat)]) (σ' := σ1) (Ps := [0 ≤ a0 ∧ a0 < 14]) (by decide +kernel) rfl ⟨h.1, trivial⟩ ?_
      replace h := h.2
      exact r_ret (by decide +kernel) rfl (fun _ => h)
    · replace h := h.2.2.1 c
      refine r_tableIn (dflt := 102) (lo := 0) (hi := 5) (offs := #[38, 48, 58, 68, 80, 90]) (len := 38) (off := 58) (tgt := 76) (by decide +kernel) (by omega) (by omega) (by rw [c]; rfl) (by decide) ?_
      refine r_blk [qO (.aload_n 0), qF (.getfield 10) 10 0, qF (.getfield 124) 6 9, qO (.iload_n 1), qO .iaload] (pc' := 85) (L' := [zR 0 0, zI a0, zI a1]) (S' := [zI (σ1 4 0 a0.toNat)]) (σ' := σ1) (Ps := [0 ≤ a0 ∧ a0 < 14]) (by decide +kernel) rfl ⟨h.1, trivial⟩ ?_
      replace h := h.2
      exact r_ret (by decide +kernel) rfl (fun _ => h)
    · replace h := h.2.2.2.1 c
      refine r_tableIn (dflt := 102) (lo := 0) (hi := 5) (offs := #[38, 48, 58, 68, 80, 90]) (len := 38) (off := 68) (tgt := 86) (by decide +kernel) (by omega) (by omega) (by rw [c]; rfl) (by decide) ?_
      refine r_blk [qO (.aload_n 0), qF (.getfield 10) 10 0, qF (.getfield 127) 6 4, qO (.iload_n 1)] (pc' := 94) (L' := [zR 0 0, zI a0, zI a1]) (S' := [zI a0, zI (σ1 1 0 4)]) (σ' := σ1) (Ps := []) (by decide +kernel) rfl trivial ?_
      refine r_callSI (As := [zI (σ1 1 0 4), zI a0]) (S := []) (Lc := [zI (σ1 1 0 4), zI a0]) (d' := 0) (n := 2) kX10_bitOf vX10_bitOf lkX10_130 (by decide +kernel) (by decide) rfl rfl (Nat.le_of_ble_eq_true rfl) rfl rfl (Nat.le_of_ble_eq_true rfl) (h.monoI (fun z6 σ5 h => ?_))
      exact r_ret (by decide +kernel) rfl (fun _ => h)
    · replace h := h.2.2.2.2.1 c
      refine r_tableIn (dflt := 102) (lo := 0) (hi := 5) (offs := #[38, 48, 58, 68, 80, 90]) (len := 38) (off := 80) (tgt := 98) (by decide +kernel) (by omega) (by omega) (by rw [c]; rfl) (by decide) ?_
      refine r_blk [qO (.aload_n 0), qF (.getfield 10) 10 0, qF (.getfield 134) 6 10, qO (.iload_n 1), qO .iaload] (pc' := 107) (L' := [zR 0 0, zI a0, zI a1]) (S' := [zI (σ1 5 0 a0.toNat)]) (σ' := σ1) (Ps := [0 ≤ a0 ∧ a0 < 14]) (by decide +kernel) rfl ⟨h.1, trivial⟩ ?_
      replace h := h.2
      exact r_ret (by decide +kernel) rfl (fun _ => h)
    · replace h := h.2.2.2.2.2 c
      refine r_tableIn (dflt := 102) (lo := 0) (hi := 5) (offs := #[38, 48, 58, 68, 80, 90]) (len := 38) (off := 90) (tgt := 108) (by decide +kernel) (by omega) (by omega) (by rw [c]; rfl) (by decide) ?_
      refine r_blk [qO (.aload_n 0), qF (.getfield 10) 10 0, qF (.getfield 137) 6 5, qO (.iload_n 1)] (pc' := 116) (L' := [zR 0 0, zI a0, zI a1]) (S' := [zI a0, zI (σ1 1 0 5)]) (σ' := σ1) (Ps := []) (by decide +kernel) rfl trivial ?_
      refine r_callSI (As := [zI (σ1 1 0 5), zI a0]) (S := []) (Lc := [zI (σ1 1 0 5), zI a0]) (d' := 0) (n := 2) kX10_bitOf vX10_bitOf lkX10_130 (by decide +kernel) (by decide) rfl rfl (Nat.le_of_ble_eq_true rfl) rfl rfl (Nat.le_of_ble_eq_true rfl) (h.monoI (fun z8 σ7 h => ?_))
      exact r_ret (by decide +kernel) rfl (fun _ => h)
  · replace h := h.2 c
    refine r_blk [qO (.aload_n 0), qO (.iconst (-1))] (pc' := 13) (L' := [zR 0 0, zI a0, zI a1]) (S' := [zI (-1), zR 0 0]) (σ' := σ1) (Ps := []) (by decide +kernel) rfl trivial ?_
    refine r_callVI (As := [zI (-1)]) (S := []) (Lc := [zR 0 0, zI (-1)]) (d' := 0) (n := 1) (g := 0) (x := 0) (ci := 10) kX10_refuse vX10_refuse lkX10_98 (by decide +kernel) (by decide) rfl rfl (by decide) rfl rfl (Nat.le_of_ble_eq_true rfl) rfl rfl (Nat.le_of_ble_eq_true rfl) (h.monoI (fun z10 σ9 h => ?_))
    exact r_ret (by decide +kernel) rfl (fun _ => h)
theorem gX10_errand_0 (a0 : Int) (a1 : Int) (σ : Hp) {Q : Option Int → Hp → Prop} (h : Runs 0 mX6_hasErrand 0 [zR 1 0, zI a0] [] σ (rI (fun z2 σ1 => ((¬ z2 = 0 → ((a1 < 0 ∨ 3 < a1 → Runs 0 mX10_refuse 0 [zR 0 0, zI (-2)] [] σ1 (rI (fun z4 σ3 => Q (some z4) σ3))) ∧ (a1 = 0 → (0 ≤ a0 ∧ a0 < 8) ∧ Q (some (σ1 6 0 a0.toNat)) σ1) ∧ (a1 = 1 → (0 ≤ a0 ∧ a0 < 8) ∧ Q (some (σ1 7 0 a0.toNat)) σ1) ∧ (a1 = 2 → (0 ≤ a0 ∧ a0 < 8) ∧ Q (some (σ1 8 0 a0.toNat)) σ1) ∧ (a1 = 3 → (0 ≤ a0 ∧ a0 < 8) ∧ Q (some (σ1 9 0 a0.toNat)) σ1))) ∧ (z2 = 0 → Runs 0 mX10_refuse 0 [zR 0 0, zI (-1)] [] σ1 (rI (fun z6 σ5 => Q (some z6) σ5))))))) : Runs 1 mX10_errand 0 [zR 0 0, zI a0, zI a1] [] σ Q := by
  refine r_blk [qO (.aload_n 0), qF (.getfield 10) 10 0, qO (.iload_n 1)] (pc' := 5) (L' := [zR 0 0, zI a0, zI a1]) (S' := [zI a0, zR 1 0]) (σ' := σ) (Ps := []) (by decide +kernel) rfl trivial ?_
  refine r_callVI (As := [zI a0]) (S := []) (Lc := [zR 1 0, zI a0]) (d' := 0) (n := 1) (g := 1) (x := 0) (ci := 6) kX6_hasErrand vX6_hasErrand lkX10_140 (by decide +kernel) (by decide) rfl rfl (by decide) rfl rfl (Nat.le_of_ble_eq_true rfl) rfl rfl (Nat.le_of_ble_eq_true rfl) (h.monoI (fun z2 σ1 h => ?_))
  refine r_if_ne (off := 9) (tgt := 17) (by decide +kernel) (by decide) (fun c => ?_) (fun c => ?_)
  · replace h := h.1 c
    refine r_blk [qO (.iload_n 2)] (pc' := 18) (L' := [zR 0 0, zI a0, zI a1]) (S' := [zI a1]) (σ' := σ1) (Ps := []) (by decide +kernel) rfl trivial ?_
    by_cases c : a1 < 0 ∨ 3 < a1
    · replace h := h.1 c
      refine r_tableOut (dflt := 70) (lo := 0) (hi := 3) (offs := #[30, 40, 50, 60]) (len := 30) (tgt := 88) (by decide +kernel) c (by decide) ?_
      refine r_blk [qO (.aload_n 0), qO (.bipush (-2))] (pc' := 91) (L' := [zR 0 0, zI a0, zI a1]) (S' := [zI (-2), zR 0 0]) (σ' := σ1) (Ps := []) (by decide +kernel) rfl trivial ?_
      refine r_callVI (As := [zI (-2)]) (S := []) (Lc := [zR 0 0, zI (-2)]) (d' := 0) (n := 1) (g := 0) (x := 0) (ci := 10) kX10_refuse vX10_refuse lkX10_98 (by decide +kernel) (by decide) rfl rfl (by decide) rfl rfl (Nat.le_of_ble_eq_true rfl) rfl rfl (Nat.le_of_ble_eq_true rfl) (h.monoI (fun z4 σ3 h => ?_))
      exact r_ret (by decide +kernel) rfl (fun _ => h)
    replace h := h.2
    have hc : a1 = 0 ∨ a1 = 1 ∨ a1 = 2 ∨ a1 = 3 := by omega
    rcases hc with c | c | c | c
    · replace h := h.1 c
      refine r_tableIn (dflt := 70) (lo := 0) (hi := 3) (offs := #[30, 40, 50, 60]) (len := 30) (off := 30) (tgt := 48) (by decide +kernel) (by omega) (by omega) (by rw [c]; rfl) (by decide) ?_
      refine r_blk [qO (.aload_n 0), qF (.getfield 10) 10 0, qF (.getfield 143) 6 11, qO (.iload_n 1), qO .iaload] (pc' := 57) (L' := [zR 0 0, zI a0, zI a1]) (S' := [zI (σ1 6 0 a0.toNat)]) (σ' := σ1) (Ps := [0 ≤ a0 ∧ a0 < 8]) (by decide +kernel) rfl ⟨h.1, trivial⟩ ?_
      replace h := h.2
      exact r_ret (by decide +kernel) rfl (fun _ => h)
    · replace h := h.2.1 c
      refine r_tableIn (dflt := 70) (lo := 0) (hi := 3) (offs := #[30, 40, 50, 60]) (len := 30) (off := 40) (tgt := 58) (by decide +kernel) (by omega) (by omega) (by rw [c]; rfl) (by decide) ?_
      refine r_blk [qO (.aload_n 0), qF (.getfield 10) 10 0, qF (.getfield 146) 6 12, qO (.iload_n 1), qO .iaload] (pc' := 67) (L' := [zR 0 0, zI a0, zI a1]) (S' := [zI (σ1 7 0 a0.toNat)]) (σ' := σ1) (Ps := [0 ≤ a0 ∧ a0 < 8]) (by decide +kernel) rfl ⟨h.1, trivial⟩ ?_
      replace h := h.2
      exact r_ret (by decide +kernel) rfl (fun _ => h)
    · replace h := h.2.2.1 c
      refine r_tableIn (dflt := 70) (lo := 0) (hi := 3) (offs := #[30, 40, 50, 60]) (len := 30) (off := 50) (tgt := 68) (by decide +kernel) (by omega) (by omega) (by rw [c]; rfl) (by decide) ?_
      refine r_blk [qO (.aload_n 0), qF (.getfield 10) 10 0, qF (.getfield 149) 6 13, qO (.iload_n 1), qO .iaload] (pc' := 77) (L' := [zR 0 0, zI a0, zI a1]) (S' := [zI (σ1 8 0 a0.toNat)]) (σ' := σ1) (Ps := [0 ≤ a0 ∧ a0 < 8]) (by decide +kernel) rfl ⟨h.1, trivial⟩ ?_
      replace h := h.2
      exact r_ret (by decide +kernel) rfl (fun _ => h)
    · replace h := h.2.2.2 c
      refine r_tableIn (dflt := 70) (lo := 0) (hi := 3) (offs := #[30, 40, 50, 60]) (len := 30) (off := 60) (tgt := 78) (by decide +kernel) (by omega) (by omega) (by rw [c]; rfl) (by decide) ?_
      refine r_blk [qO (.aload_n 0), qF (.getfield 10) 10 0, qF (.getfield 152) 6 14, qO (.iload_n 1), qO .iaload] (pc' := 87) (L' := [zR 0 0, zI a0, zI a1]) (S' := [zI (σ1 9 0 a0.toNat)]) (σ' := σ1) (Ps := [0 ≤ a0 ∧ a0 < 8]) (by decide +kernel) rfl ⟨h.1, trivial⟩ ?_
      replace h := h.2
      exact r_ret (by decide +kernel) rfl (fun _ => h)
  · replace h := h.2 c
    refine r_blk [qO (.aload_n 0), qO (.iconst (-1))] (pc' := 13) (L' := [zR 0 0, zI a0, zI a1]) (S' := [zI (-1), zR 0 0]) (σ' := σ1) (Ps := []) (by decide +kernel) rfl trivial ?_
    refine r_callVI (As := [zI (-1)]) (S := []) (Lc := [zR 0 0, zI (-1)]) (d' := 0) (n := 1) (g := 0) (x := 0) (ci := 10) kX10_refuse vX10_refuse lkX10_98 (by decide +kernel) (by decide) rfl rfl (by decide) rfl rfl (Nat.le_of_ble_eq_true rfl) rfl rfl (Nat.le_of_ble_eq_true rfl) (h.monoI (fun z6 σ5 h => ?_))
    exact r_ret (by decide +kernel) rfl (fun _ => h)
theorem gX10_set_0 (a0 : Int) (a1 : Int) (σ : Hp) {Q : Option Int → Hp → Prop} (h : ((a0 < 0 → Runs 0 mX10_refuse 0 [zR 0 0, zI (-2)] [] σ (rI (fun z2 σ1 => Q (some z2) σ1))) ∧ (¬ a0 < 0 → ((a0 ≤ 3 → (0 ≤ a0 ∧ a0 < 4) ∧ ((σ 61 0 a0.toNat ≤ a1 → (0 ≤ a0 ∧ a0 < 4) ∧ ((a1 ≤ σ 62 0 a0.toNat → (0 ≤ a0 ∧ a0 < 4) ∧ (0 ≤ a0 ∧ a0 < 4) ∧ Q (some (σ 11 0 a0.toNat)) (zup σ 11 0 a0.toNat a1)) ∧ (¬ a1 ≤ σ 62 0 a0.toNat → Runs 0 mX10_refuse 0 [zR 0 0, zI (-6)] [] σ (rI (fun z4 σ3 => Q (some z4) σ3))))) ∧ (¬ σ 61 0 a0.toNat ≤ a1 → Runs 0 mX10_refuse 0 [zR 0 0, zI (-4)] [] σ (rI (fun z6 σ5 => Q (some z6) σ5))))) ∧ (¬ a0 ≤ 3 → Runs 0 mX10_refuse 0 [zR 0 0, zI (-2)] [] σ (rI (fun z8 σ7 => Q (some z8) σ7))))))) : Runs 1 mX10_set 0 [zR 0 0, zI a0, zI a1, zU] [] σ Q := by
  refine r_blk [qO (.iload_n 1)] (pc' := 1) (L' := [zR 0 0, zI a0, zI a1, zU]) (S' := [zI a0]) (σ' := σ) (Ps := []) (by decide +kernel) rfl trivial ?_
  refine r_if_lt (off := 8) (tgt := 9) (by decide +kernel) (by decide) (fun c => ?_) (fun c => ?_)
  · replace h := h.1 c
    refine r_blk [qO (.aload_n 0), qO (.bipush (-2))] (pc' := 12) (L' := [zR 0 0, zI a0, zI a1, zU]) (S' := [zI (-2), zR 0 0]) (σ' := σ) (Ps := []) (by decide +kernel) rfl trivial ?_
    refine r_callVI (As := [zI (-2)]) (S := []) (Lc := [zR 0 0, zI (-2)]) (d' := 0) (n := 1) (g := 0) (x := 0) (ci := 10) kX10_refuse vX10_refuse lkX10_98 (by decide +kernel) (by decide) rfl rfl (by decide) rfl rfl (Nat.le_of_ble_eq_true rfl) rfl rfl (Nat.le_of_ble_eq_true rfl) (h.monoI (fun z2 σ1 h => ?_))
    exact r_ret (by decide +kernel) rfl (fun _ => h)
  · replace h := h.2 c
    refine r_blk [qO (.iload_n 1), qO (.iconst 3)] (pc' := 6) (L' := [zR 0 0, zI a0, zI a1, zU]) (S' := [zI 3, zI a0]) (σ' := σ) (Ps := []) (by decide +kernel) rfl trivial ?_
    refine r_icmp_le (off := 10) (tgt := 16) (by decide +kernel) (by decide) (fun c => ?_) (fun c => ?_)
    · replace h := h.1 c
      refine r_blk [qO (.iload_n 2), qF (.getstatic 155) 61 0, qO (.iload_n 1), qO .iaload] (pc' := 22) (L' := [zR 0 0, zI a0, zI a1, zU]) (S' := [zI (σ 61 0 a0.toNat), zI a1]) (σ' := σ) (Ps := [0 ≤ a0 ∧ a0 < 4]) (by decide +kernel) rfl ⟨h.1, trivial⟩ ?_
      replace h := h.2
      refine r_icmp_ge (off := 10) (tgt := 32) (by decide +kernel) (by decide) (fun c => ?_) (fun c => ?_)
      · replace h := h.1 c
        refine r_blk [qO (.iload_n 2), qF (.getstatic 158) 62 0, qO (.iload_n 1), qO .iaload] (pc' := 38) (L' := [zR 0 0, zI a0, zI a1, zU]) (S' := [zI (σ 62 0 a0.toNat), zI a1]) (σ' := σ) (Ps := [0 ≤ a0 ∧ a0 < 4]) (by decide +kernel) rfl ⟨h.1, trivial⟩ ?_
        replace h := h.2
        refine r_icmp_le (off := 10) (tgt := 48) (by decide +kernel) (by decide) (fun c => ?_) (fun c => ?_)
        · replace h := h.1 c
          refine r_blk [qO (.aload_n 0), qF (.getfield 10) 10 0, qF (.getfield 161) 6 16, qO (.iload_n 1), qO .iaload, qO (.istore_n 3), qO (.aload_n 0), qF (.getfield 10) 10 0, qF (.getfield 161) 6 16, qO (.iload_n 1), qO (.iload_n 2), qO .iastore, qO (.iload_n 3)] (pc' := 69) (L' := [zR 0 0, zI a0, zI a1, zI (σ 11 0 a0.toNat)]) (S' := [zI (σ 11 0 a0.toNat)]) (σ' := (zup σ 11 0 a0.toNat a1)) (Ps := [0 ≤ a0 ∧ a0 < 4, 0 ≤ a0 ∧ a0 < 4]) (by decide +kernel) rfl ⟨h.1, h.2.1, trivial⟩ ?_
          replace h := h.2.2
          exact r_ret (by decide +kernel) rfl (fun _ => h)
        · replace h := h.2 c
          refine r_blk [qO (.aload_n 0), qO (.bipush (-6))] (pc' := 44) (L' := [zR 0 0, zI a0, zI a1, zU]) (S' := [zI (-6), zR 0 0]) (σ' := σ) (Ps := []) (by decide +kernel) rfl trivial ?_
          refine r_callVI (As := [zI (-6)]) (S := []) (Lc := [zR 0 0, zI (-6)]) (d' := 0) (n := 1) (g := 0) (x := 0) (ci := 10) kX10_refuse vX10_refuse lkX10_98 (by decide +kernel) (by decide) rfl rfl (by decide) rfl rfl (Nat.le_of_ble_eq_true rfl) rfl rfl (Nat.le_of_ble_eq_true rfl) (h.monoI (fun z4 σ3 h => ?_))
          exact r_ret (by decide +kernel) rfl (fun _ => h)
      · replace h := h.2 c
        refine r_blk [qO (.aload_n 0), qO (.bipush (-4))] (pc' := 28) (L' := [zR 0 0, zI a0, zI a1, zU]) (S' := [zI (-4), zR 0 0]) (σ' := σ) (Ps := []) (by decide +kernel) rfl trivial ?_
        refine r_callVI (As := [zI (-4)]) (S := []) (Lc := [zR 0 0, zI (-4)]) (d' := 0) (n := 1) (g := 0) (x := 0) (ci := 10) kX10_refuse vX10_refuse lkX10_98 (by decide +kernel) (by decide) rfl rfl (by decide) rfl rfl (Nat.le_of_ble_eq_true rfl) rfl rfl (Nat.le_of_ble_eq_true rfl) (h.monoI (fun z6 σ5 h => ?_))
        exact r_ret (by decide +kernel) rfl (fun _ => h)
    · replace h := h.2 c
      refine r_blk [qO (.aload_n 0), qO (.bipush (-2))] (pc' := 12) (L' := [zR 0 0, zI a0, zI a1, zU]) (S' := [zI (-2), zR 0 0]) (σ' := σ) (Ps := []) (by decide +kernel) rfl trivial ?_
      refine r_callVI (As := [zI (-2)]) (S := []) (Lc := [zR 0 0, zI (-2)]) (d' := 0) (n := 1) (g := 0) (x := 0) (ci := 10) kX10_refuse vX10_refuse lkX10_98 (by decide +kernel) (by decide) rfl rfl (by decide) rfl rfl (Nat.le_of_ble_eq_true rfl) rfl rfl (Nat.le_of_ble_eq_true rfl) (h.monoI (fun z8 σ7 h => ?_))
      exact r_ret (by decide +kernel) rfl (fun _ => h)
theorem gX10_point_0 (a0 : Int) (σ : Hp) {Q : Option Int → Hp → Prop} (h : ((a0 < 0 → Runs 0 mX10_refuse 0 [zR 0 0, zI (-1)] [] σ (rI (fun z2 σ1 => Q (some z2) σ1))) ∧ (¬ a0 < 0 → ((a0 < zshl 1 (σ 1 0 1) → Q (some (σ 1 0 6)) (zup σ 1 0 6 a0)) ∧ (¬ a0 < zshl 1 (σ 1 0 1) → Runs 0 mX10_refuse 0 [zR 0 0, zI (-1)] [] σ (rI (fun z4 σ3 => Q (some z4) σ3))))))) : Runs 1 mX10_point 0 [zR 0 0, zI a0, zU] [] σ Q := by
  refine r_blk [qO (.iload_n 1)] (pc' := 1) (L' := [zR 0 0, zI a0, zU]) (S' := [zI a0]) (σ' := σ) (Ps := []) (by decide +kernel) rfl trivial ?_
  refine r_if_lt (off := 16) (tgt := 17) (by decide +kernel) (by decide) (fun c => ?_) (fun c => ?_)
  · replace h := h.1 c
    refine r_blk [qO (.aload_n 0), qO (.iconst (-1))] (pc' := 19) (L' := [zR 0 0, zI a0, zU]) (S' := [zI (-1), zR 0 0]) (σ' := σ) (Ps := []) (by decide +kernel) rfl trivial ?_
    refine r_callVI (As := [zI (-1)]) (S := []) (Lc := [zR 0 0, zI (-1)]) (d' := 0) (n := 1) (g := 0) (x := 0) (ci := 10) kX10_refuse vX10_refuse lkX10_98 (by decide +kernel) (by decide) rfl rfl (by decide) rfl rfl (Nat.le_of_ble_eq_true rfl) rfl rfl (Nat.le_of_ble_eq_true rfl) (h.monoI (fun z2 σ1 h => ?_))
    exact r_ret (by decide +kernel) rfl (fun _ => h)
  · replace h := h.2 c
    refine r_blk [qO (.iload_n 1), qO (.iconst 1), qO (.aload_n 0), qF (.getfield 10) 10 0, qF (.getfield 164) 6 1, qO .ishl] (pc' := 14) (L' := [zR 0 0, zI a0, zU]) (S' := [zI (zshl 1 (σ 1 0 1)), zI a0]) (σ' := σ) (Ps := []) (by decide +kernel) rfl trivial ?_
    refine r_icmp_lt (off := 9) (tgt := 23) (by decide +kernel) (by decide) (fun c => ?_) (fun c => ?_)
    · replace h := h.1 c
      refine r_blk [qO (.aload_n 0), qF (.getfield 10) 10 0, qF (.getfield 167) 6 6, qO (.istore_n 2), qO (.aload_n 0), qF (.getfield 10) 10 0, qO (.iload_n 1), qF (.putfield 167) 6 6, qO (.iload_n 2)] (pc' := 40) (L' := [zR 0 0, zI a0, zI (σ 1 0 6)]) (S' := [zI (σ 1 0 6)]) (σ' := (zup σ 1 0 6 a0)) (Ps := []) (by decide +kernel) rfl trivial ?_
      exact r_ret (by decide +kernel) rfl (fun _ => h)
    · replace h := h.2 c
      refine r_blk [qO (.aload_n 0), qO (.iconst (-1))] (pc' := 19) (L' := [zR 0 0, zI a0, zU]) (S' := [zI (-1), zR 0 0]) (σ' := σ) (Ps := []) (by decide +kernel) rfl trivial ?_
      refine r_callVI (As := [zI (-1)]) (S := []) (Lc := [zR 0 0, zI (-1)]) (d' := 0) (n := 1) (g := 0) (x := 0) (ci := 10) kX10_refuse vX10_refuse lkX10_98 (by decide +kernel) (by decide) rfl rfl (by decide) rfl rfl (Nat.le_of_ble_eq_true rfl) rfl rfl (Nat.le_of_ble_eq_true rfl) (h.monoI (fun z4 σ3 h => ?_))
      exact r_ret (by decide +kernel) rfl (fun _ => h)
theorem gX10_shut_0 (a0 : Int) (a1 : Int) (σ : Hp) {Q : Option Int → Hp → Prop} (h : Runs 0 mX6_hasStreet 0 [zR 1 0, zI a0] [] σ (rI (fun z2 σ1 => ((¬ z2 = 0 → Runs 0 mX10_bitOf 0 [zI (σ1 1 0 5), zI a0] [] σ1 (rI (fun z4 σ3 => ((¬ z4 = 1 → ((¬ 0 = a1 → ((¬ 0 = a1 → Q (some 1) (zup σ3 1 0 5 (zxor (σ3 1 0 5) (zshl 1 a0)))) ∧ (0 = a1 → Q (some 0) (zup σ3 1 0 5 (zxor (σ3 1 0 5) (zshl 1 a0)))))) ∧ (0 = a1 → ((¬ 0 = a1 → Q (some 1) (zup σ3 1 0 5 (zxor (σ3 1 0 5) 0))) ∧ (0 = a1 → Q (some 0) (zup σ3 1 0 5 (zxor (σ3 1 0 5) 0))))))) ∧ (z4 = 1 → ((¬ 1 = a1 → ((¬ 1 = a1 → Q (some 1) (zup σ3 1 0 5 (zxor (σ3 1 0 5) (zshl 1 a0)))) ∧ (1 = a1 → Q (some 0) (zup σ3 1 0 5 (zxor (σ3 1 0 5) (zshl 1 a0)))))) ∧ (1 = a1 → ((¬ 1 = a1 → Q (some 1) (zup σ3 1 0 5 (zxor (σ3 1 0 5) 0))) ∧ (1 = a1 → Q (some 0) (zup σ3 1 0 5 (zxor (σ3 1 0 5) 0))))))))))) ∧ (z2 = 0 → Runs 0 mX10_refuse 0 [zR 0 0, zI (-1)] [] σ1 (rI (fun z6 σ5 => Q (some z6) σ5))))))) : Runs 1 mX10_shut 0 [zR 0 0, zI a0, zI a1, zU] [] σ Q := by
  refine r_blk [qO (.aload_n 0), qF (.getfield 10) 10 0, qO (.iload_n 1)] (pc' := 5) (L' := [zR 0 0, zI a0, zI a1, zU]) (S' := [zI a0, zR 1 0]) (σ' := σ) (Ps := []) (by decide +kernel) rfl trivial ?_
  refine r_callVI (As := [zI a0]) (S := []) (Lc := [zR 1 0, zI a0]) (d' := 0) (n := 1) (g := 1) (x := 0) (ci := 6) kX6_hasStreet vX6_hasStreet lkX10_114 (by decide +kernel) (by decide) rfl rfl (by decide) rfl rfl (Nat.le_of_ble_eq_true rfl) rfl rfl (Nat.le_of_ble_eq_true rfl) (h.monoI (fun z2 σ1 h => ?_))
  refine r_if_ne (off := 9) (tgt := 17) (by decide +kernel) (by decide) (fun c => ?_) (fun c => ?_)
  · replace h := h.1 c
    refine r_blk [qO (.aload_n 0), qF (.getfield 10) 10 0, qF (.getfield 137) 6 5, qO (.iload_n 1)] (pc' := 25) (L' := [zR 0 0, zI a0, zI a1, zU]) (S' := [zI a0, zI (σ1 1 0 5)]) (σ' := σ1) (Ps := []) (by decide +kernel) rfl trivial ?_
    refine r_callSI (As := [zI (σ1 1 0 5), zI a0]) (S := []) (Lc := [zI (σ1 1 0 5), zI a0]) (d' := 0) (n := 2) kX10_bitOf vX10_bitOf lkX10_130 (by decide +kernel) (by decide) rfl rfl (Nat.le_of_ble_eq_true rfl) rfl rfl (Nat.le_of_ble_eq_true rfl) (h.monoI (fun z4 σ3 h => ?_))
    refine r_blk [qO (.iconst 1)] (pc' := 29) (L' := [zR 0 0, zI a0, zI a1, zU]) (S' := [zI 1, zI z4]) (σ' := σ3) (Ps := []) (by decide +kernel) rfl trivial ?_
    refine r_icmp_ne (off := 7) (tgt := 36) (by decide +kernel) (by decide) (fun c => ?_) (fun c => ?_)
    · replace h := h.1 c
      refine r_blk [qO (.iconst 0), qO (.istore_n 3), qO (.aload_n 0), qF (.getfield 10) 10 0, qO .dup, qF (.getfield 137) 6 5, qO (.iload_n 3), qO (.iload_n 2)] (pc' := 48) (L' := [zR 0 0, zI a0, zI a1, zI 0]) (S' := [zI a1, zI 0, zI (σ3 1 0 5), zR 1 0]) (σ' := σ3) (Ps := []) (by decide +kernel) rfl trivial ?_
      refine r_icmp_ne (off := 7) (tgt := 55) (by decide +kernel) (by decide) (fun c => ?_) (fun c => ?_)
      · replace h := h.1 c
        refine r_blk [qO (.iconst 1), qO (.iload_n 1), qO .ishl, qO .ixor, qF (.putfield 137) 6 5, qO (.iload_n 3), qO (.iload_n 2)] (pc' := 64) (L' := [zR 0 0, zI a0, zI a1, zI 0]) (S' := [zI a1, zI 0]) (σ' := (zup σ3 1 0 5 (zxor (σ3 1 0 5) (zshl 1 a0)))) (Ps := []) (by decide +kernel) rfl trivial ?_
        refine r_icmp_ne (off := 7) (tgt := 71) (by decide +kernel) (by decide) (fun c => ?_) (fun c => ?_)
        · replace h := h.1 c
          refine r_blk [qO (.iconst 1)] (pc' := 72) (L' := [zR 0 0, zI a0, zI a1, zI 0]) (S' := [zI 1]) (σ' := (zup σ3 1 0 5 (zxor (σ3 1 0 5) (zshl 1 a0)))) (Ps := []) (by decide +kernel) rfl trivial ?_
          exact r_ret (by decide +kernel) rfl (fun _ => h)
        · replace h := h.2 c
          refine r_blk [qO (.iconst 0), qO (.goto 4)] (pc' := 72) (L' := [zR 0 0, zI a0, zI a1, zI 0]) (S' := [zI 0]) (σ' := (zup σ3 1 0 5 (zxor (σ3 1 0 5) (zshl 1 a0)))) (Ps := []) (by decide +kernel) rfl trivial ?_
          exact r_ret (by decide +kernel) rfl (fun _ => h)
      · replace h := h.2 c
        refine r_blk [qO (.iconst 0), qO (.goto 6), qO .ixor, qF (.putfield 137) 6 5, qO (.iload_n 3), qO (.iload_n 2)] (pc' := 64) (L' := [zR 0 0, zI a0, zI a1, zI 0]) (S' := [zI a1, zI 0]) (σ' := (zup σ3 1 0 5 (zxor (σ3 1 0 5) 0))) (Ps := []) (by decide +kernel) rfl trivial ?_
        refine r_icmp_ne (off := 7) (tgt := 71) (by decide +kernel) (by decide) (fun c => ?_) (fun c => ?_)
        · replace h := h.1 c
          refine r_blk [qO (.iconst 1)] (pc' := 72) (L' := [zR 0 0, zI a0, zI a1, zI 0]) (S' := [zI 1]) (σ' := (zup σ3 1 0 5 (zxor (σ3 1 0 5) 0))) (Ps := []) (by decide +kernel) rfl trivial ?_
          exact r_ret (by decide +kernel) rfl (fun _ => h)
        · replace h := h.2 c
          refine r_blk [qO (.iconst 0), qO (.goto 4)] (pc' := 72) (L' := [zR 0 0, zI a0, zI a1, zI 0]) (S' := [zI 0]) (σ' := (zup σ3 1 0 5 (zxor (σ3 1 0 5) 0))) (Ps := []) (by decide +kernel) rfl trivial ?_
          exact r_ret (by decide +kernel) rfl (fun _ => h)
    · replace h := h.2 c
      refine r_blk [qO (.iconst 1), qO (.goto 4), qO (.istore_n 3), qO (.aload_n 0), qF (.getfield 10) 10 0, qO .dup, qF (.getfield 137) 6 5, qO (.iload_n 3), qO (.iload_n 2)] (pc' := 48) (L' := [zR 0 0, zI a0, zI a1, zI 1]) (S' := [zI a1, zI 1, zI (σ3 1 0 5), zR 1 0]) (σ' := σ3) (Ps := []) (by decide +kernel) rfl trivial ?_
      refine r_icmp_ne (off := 7) (tgt := 55) (by decide +kernel) (by decide) (fun c => ?_) (fun c => ?_)
      · replace h := h.1 c
        refine r_blk [qO (.iconst 1), qO (.iload_n 1), qO .ishl, qO .ixor, qF (.putfield 137) 6 5, qO (.iload_n 3), qO (.iload_n 2)] (pc' := 64) (L' := [zR 0 0, zI a0, zI a1, zI 1]) (S' := [zI a1, zI 1]) (σ' := (zup σ3 1 0 5 (zxor (σ3 1 0 5) (zshl 1 a0)))) (Ps := []) (by decide +kernel) rfl trivial ?_
        refine r_icmp_ne (off := 7) (tgt := 71) (by decide +kernel) (by decide) (fun c => ?_) (fun c => ?_)
        · replace h := h.1 c
          refine r_blk [qO (.iconst 1)] (pc' := 72) (L' := [zR 0 0, zI a0, zI a1, zI 1]) (S' := [zI 1]) (σ' := (zup σ3 1 0 5 (zxor (σ3 1 0 5) (zshl 1 a0)))) (Ps := []) (by decide +kernel) rfl trivial ?_
          exact r_ret (by decide +kernel) rfl (fun _ => h)
        · replace h := h.2 c
          refine r_blk [qO (.iconst 0), qO (.goto 4)] (pc' := 72) (L' := [zR 0 0, zI a0, zI a1, zI 1]) (S' := [zI 0]) (σ' := (zup σ3 1 0 5 (zxor (σ3 1 0 5) (zshl 1 a0)))) (Ps := []) (by decide +kernel) rfl trivial ?_
          exact r_ret (by decide +kernel) rfl (fun _ => h)
      · replace h := h.2 c
        refine r_blk [qO (.iconst 0), qO (.goto 6), qO .ixor, qF (.putfield 137) 6 5, qO (.iload_n 3), qO (.iload_n 2)] (pc' := 64) (L' := [zR 0 0, zI a0, zI a1, zI 1]) (S' := [zI a1, zI 1]) (σ' := (zup σ3 1 0 5 (zxor (σ3 1 0 5) 0))) (Ps := []) (by decide +kernel) rfl trivial ?_
        refine r_icmp_ne (off := 7) (tgt := 71) (by decide +kernel) (by decide) (fun c => ?_) (fun c => ?_)
        · replace h := h.1 c
          refine r_blk [qO (.iconst 1)] (pc' := 72) (L' := [zR 0 0, zI a0, zI a1, zI 1]) (S' := [zI 1]) (σ' := (zup σ3 1 0 5 (zxor (σ3 1 0 5) 0))) (Ps := []) (by decide +kernel) rfl trivial ?_
          exact r_ret (by decide +kernel) rfl (fun _ => h)
        · replace h := h.2 c
          refine r_blk [qO (.iconst 0), qO (.goto 4)] (pc' := 72) (L' := [zR 0 0, zI a0, zI a1, zI 1]) (S' := [zI 0]) (σ' := (zup σ3 1 0 5 (zxor (σ3 1 0 5) 0))) (Ps := []) (by decide +kernel) rfl trivial ?_
          exact r_ret (by decide +kernel) rfl (fun _ => h)
  · replace h := h.2 c
    refine r_blk [qO (.aload_n 0), qO (.iconst (-1))] (pc' := 13) (L' := [zR 0 0, zI a0, zI a1, zU]) (S' := [zI (-1), zR 0 0]) (σ' := σ1) (Ps := []) (by decide +kernel) rfl trivial ?_
    refine r_callVI (As := [zI (-1)]) (S := []) (Lc := [zR 0 0, zI (-1)]) (d' := 0) (n := 1) (g := 0) (x := 0) (ci := 10) kX10_refuse vX10_refuse lkX10_98 (by decide +kernel) (by decide) rfl rfl (by decide) rfl rfl (Nat.le_of_ble_eq_true rfl) rfl rfl (Nat.le_of_ble_eq_true rfl) (h.monoI (fun z6 σ5 h => ?_))
    exact r_ret (by decide +kernel) rfl (fun _ => h)
theorem gX10_way_0 (a0 : Int) (a1 : Int) (σ : Hp) {Q : Option Int → Hp → Prop} (h : Runs 0 mX6_hasStreet 0 [zR 1 0, zI a0] [] σ (rI (fun z2 σ1 => ((¬ z2 = 0 → Runs 0 mX10_refusalOfMinute 0 [zR 0 0, zI a1] [] σ1 (rI (fun z4 σ3 => ((z4 = 0 → Runs 1 mX7_takeAsItIs 0 [zR 16 0] [] σ3 (rV (fun σ5 => Runs 0 mX7_standAt 0 [zR 16 0, zI a1, zU, zU] [] σ5 (rV (fun σ6 => Runs 1 mX7_wayOf 0 [zR 16 0, zI a0] [] σ6 (rI (fun z8 σ7 => Q (some z8) σ7))))))) ∧ (¬ z4 = 0 → Runs 0 mX10_refuse 0 [zR 0 0, zI z4] [] σ3 (rI (fun z10 σ9 => Q (some z10) σ9))))))) ∧ (z2 = 0 → Runs 0 mX10_refuse 0 [zR 0 0, zI (-1)] [] σ1 (rI (fun z12 σ11 => Q (some z12) σ11))))))) : Runs 2 mX10_way 0 [zR 0 0, zI a0, zI a1, zU] [] σ Q := by
  refine r_blk [qO (.aload_n 0), qF (.getfield 10) 10 0, qO (.iload_n 1)] (pc' := 5) (L' := [zR 0 0, zI a0, zI a1, zU]) (S' := [zI a0, zR 1 0]) (σ' := σ) (Ps := []) (by decide +kernel) rfl trivial ?_
  refine r_callVI (As := [zI a0]) (S := []) (Lc := [zR 1 0, zI a0]) (d' := 0) (n := 1) (g := 1) (x := 0) (ci := 6) kX6_hasStreet vX6_hasStreet lkX10_114 (by decide +kernel) (by decide) rfl rfl (by decide) rfl rfl (Nat.le_of_ble_eq_true rfl) rfl rfl (Nat.le_of_ble_eq_true rfl) (h.monoI (fun z2 σ1 h => ?_))
  refine r_if_ne (off := 9) (tgt := 17) (by decide +kernel) (by decide) (fun c => ?_) (fun c => ?_)
  · replace h := h.1 c
    refine r_blk [qO (.aload_n 0), qO (.iload_n 2)] (pc' := 19) (L' := [zR 0 0, zI a0, zI a1, zU]) (S' := [zI a1, zR 0 0]) (σ' := σ1) (Ps := []) (by decide +kernel) rfl trivial ?_
    refine r_callVI (As := [zI a1]) (S := []) (Lc := [zR 0 0, zI a1]) (d' := 0) (n := 1) (g := 0) (x := 0) (ci := 10) kX10_refusalOfMinute vX10_refusalOfMinute lkX10_170 (by decide +kernel) (by decide) rfl rfl (by decide) rfl rfl (Nat.le_of_ble_eq_true rfl) rfl rfl (Nat.le_of_ble_eq_true rfl) (h.monoI (fun z4 σ3 h => ?_))
    refine r_blk [qO (.istore_n 3), qO (.iload_n 3)] (pc' := 24) (L' := [zR 0 0, zI a0, zI a1, zI z4]) (S' := [zI z4]) (σ' := σ3) (Ps := []) (by decide +kernel) rfl trivial ?_
    refine r_if_eq (off := 9) (tgt := 33) (by decide +kernel) (by decide) (fun c => ?_) (fun c => ?_)
    · replace h := h.1 c
      refine r_blk [qO (.aload_n 0), qF (.getfield 40) 10 4] (pc' := 37) (L' := [zR 0 0, zI a0, zI a1, zI z4]) (S' := [zR 16 0]) (σ' := σ3) (Ps := []) (by decide +kernel) rfl trivial ?_
      refine r_callVV (As := []) (S := []) (Lc := [zR 16 0]) (d' := 1) (n := 0) (g := 16) (x := 0) (ci := 7) kX7_takeAsItIs vX7_takeAsItIs lkX10_173 (by decide +kernel) (by decide) rfl rfl (by decide) rfl rfl (Nat.le_of_ble_eq_true rfl) rfl rfl (Nat.le_of_ble_eq_true rfl) (h.monoV (fun σ5 h => ?_))
      refine r_blk [qO (.aload_n 0), qF (.getfield 40) 10 4, qO (.iload_n 2)] (pc' := 45) (L' := [zR 0 0, zI a0, zI a1, zI z4]) (S' := [zI a1, zR 16 0]) (σ' := σ5) (Ps := []) (by decide +kernel) rfl trivial ?_
      refine r_callVV (As := [zI a1]) (S := []) (Lc := [zR 16 0, zI a1, zU, zU]) (d' := 0) (n := 1) (g := 16) (x := 0) (ci := 7) kX7_standAt vX7_standAt lkX10_176 (by decide +kernel) (by decide) rfl rfl (by decide) rfl rfl (Nat.le_of_ble_eq_true rfl) rfl rfl (Nat.le_of_ble_eq_true rfl) (h.monoV (fun σ6 h => ?_))
      refine r_blk [qO (.aload_n 0), qF (.getfield 40) 10 4, qO (.iload_n 1)] (pc' := 53) (L' := [zR 0 0, zI a0, zI a1, zI z4]) (S' := [zI a0, zR 16 0]) (σ' := σ6) (Ps := []) (by decide +kernel) rfl trivial ?_
      refine r_callVI (As := [zI a0]) (S := []) (Lc := [zR 16 0, zI a0]) (d' := 1) (n := 1) (g := 16) (x := 0) (ci := 7) kX7_wayOf vX7_wayOf lkX10_179 (by decide +kernel) (by decide) rfl rfl (by decide) rfl rfl (Nat.le_of_ble_eq_true rfl) rfl rfl (Nat.le_of_ble_eq_true rfl) (h.monoI (fun z8 σ7 h => ?_))
      exact r_ret (by decide +kernel) rfl (fun _ => h)
    · replace h := h.2 c
      refine r_blk [qO (.aload_n 0), qO (.iload_n 3)] (pc' := 29) (L' := [zR 0 0, zI a0, zI a1, zI z4]) (S' := [zI z4, zR 0 0]) (σ' := σ3) (Ps := []) (by decide +kernel) rfl trivial ?_
      refine r_callVI (As := [zI z4]) (S := []) (Lc := [zR 0 0, zI z4]) (d' := 0) (n := 1) (g := 0) (x := 0) (ci := 10) kX10_refuse vX10_refuse lkX10_98 (by decide +kernel) (by decide) rfl rfl (by decide) rfl rfl (Nat.le_of_ble_eq_true rfl) rfl rfl (Nat.le_of_ble_eq_true rfl) (h.monoI (fun z10 σ9 h => ?_))
      exact r_ret (by decide +kernel) rfl (fun _ => h)
  · replace h := h.2 c
    refine r_blk [qO (.aload_n 0), qO (.iconst (-1))] (pc' := 13) (L' := [zR 0 0, zI a0, zI a1, zU]) (S' := [zI (-1), zR 0 0]) (σ' := σ1) (Ps := []) (by decide +kernel) rfl trivial ?_
    refine r_callVI (As := [zI (-1)]) (S := []) (Lc := [zR 0 0, zI (-1)]) (d' := 0) (n := 1) (g := 0) (x := 0) (ci := 10) kX10_refuse vX10_refuse lkX10_98 (by decide +kernel) (by decide) rfl rfl (by decide) rfl rfl (Nat.le_of_ble_eq_true rfl) rfl rfl (Nat.le_of_ble_eq_true rfl) (h.monoI (fun z12 σ11 h => ?_))
    exact r_ret (by decide +kernel) rfl (fun _ => h)
theorem gX10_soonest_0 (a0 : Int) (a1 : Int) (a2 : Int) (σ : Hp) {Q : Option Int → Hp → Prop} (h : Runs 1 mX10_refusalOfWay 0 [zR 0 0, zI a0, zI a1, zI a2] [] σ (rI (fun z2 σ1 => ((z2 = 0 → Runs 1 mX7_takeAsItIs 0 [zR 16 0] [] σ1 (rV (fun σ3 => Runs 3 mX8_setOut 0 [zR 17 0, zI a0, zI a1, zI a2, zU, zU] [] σ3 (rV (fun σ4 => Runs 0 mX8_minuteAt 0 [zR 17 0, zI a1] [] σ4 (rI (fun z6 σ5 => Q (some z6) σ5))))))) ∧ (¬ z2 = 0 → Runs 0 mX10_refuse 0 [zR 0 0, zI z2] [] σ1 (rI (fun z8 σ7 => Q (some z8) σ7))))))) : Runs 4 mX10_soonest 0 [zR 0 0, zI a0, zI a1, zI a2, zU] [] σ Q := by
  refine r_blk [qO (.aload_n 0), qO (.iload_n 1), qO (.iload_n 2), qO (.iload_n 3)] (pc' := 4) (L' := [zR 0 0, zI a0, zI a1, zI a2, zU]) (S' := [zI a2, zI a1, zI a0, zR 0 0]) (σ' := σ) (Ps := []) (by decide +kernel) rfl trivial ?_
  refine r_callVI (As := [zI a0, zI a1, zI a2]) (S := []) (Lc := [zR 0 0, zI a0, zI a1, zI a2]) (d' := 1) (n := 3) (g := 0) (x := 0) (ci := 10) kX10_refusalOfWay vX10_refusalOfWay lkX10_182 (by decide +kernel) (by decide) rfl rfl (by decide) rfl rfl (Nat.le_of_ble_eq_true rfl) rfl rfl (Nat.le_of_ble_eq_true rfl) (h.monoI (fun z2 σ1 h => ?_))
  refine r_blk [qO (.istore 4), qO (.iload 4)] (pc' := 11) (L' := [zR 0 0, zI a0, zI a1, zI a2, zI z2]) (S' := [zI z2]) (σ' := σ1) (Ps := []) (by decide +kernel) rfl trivial ?_
  refine r_if_eq (off := 10) (tgt := 21) (by decide +kernel) (by decide) (fun c => ?_) (fun c => ?_)
  · replace h := h.1 c
    refine r_blk [qO (.aload_n 0), qF (.getfield 40) 10 4] (pc' := 25) (L' := [zR 0 0, zI a0, zI a1, zI a2, zI z2]) (S' := [zR 16 0]) (σ' := σ1) (Ps := []) (by decide +kernel) rfl trivial ?_
    refine r_callVV (As := []) (S := []) (Lc := [zR 16 0]) (d' := 1) (n := 0) (g := 16) (x := 0) (ci := 7) kX7_takeAsItIs vX7_takeAsItIs lkX10_173 (by decide +kernel) (by decide) rfl rfl (by decide) rfl rfl (Nat.le_of_ble_eq_true rfl) rfl rfl (Nat.le_of_ble_eq_true rfl) (h.monoV (fun σ3 h => ?_))
    refine r_blk [qO (.aload_n 0), qF (.getfield 49) 10 5, qO (.iload_n 1), qO (.iload_n 2), qO (.iload_n 3)] (pc' := 35) (L' := [zR 0 0, zI a0, zI a1, zI a2, zI z2]) (S' := [zI a2, zI a1, zI a0, zR 17 0]) (σ' := σ3) (Ps := []) (by decide +kernel) rfl trivial ?_
    refine r_callVV (As := [zI a0, zI a1, zI a2]) (S := []) (Lc := [zR 17 0, zI a0, zI a1, zI a2, zU, zU]) (d' := 3) (n := 3) (g := 17) (x := 0) (ci := 8) kX8_setOut vX8_setOut lkX10_186 (by decide +kernel) (by decide) rfl rfl (by decide) rfl rfl (Nat.le_of_ble_eq_true rfl) rfl rfl (Nat.le_of_ble_eq_true rfl) (h.monoV (fun σ4 h => ?_))
    refine r_blk [qO (.aload_n 0), qF (.getfield 49) 10 5, qO (.iload_n 2)] (pc' := 43) (L' := [zR 0 0, zI a0, zI a1, zI a2, zI z2]) (S' := [zI a1, zR 17 0]) (σ' := σ4) (Ps := []) (by decide +kernel) rfl trivial ?_
    refine r_callVI (As := [zI a1]) (S := []) (Lc := [zR 17 0, zI a1]) (d' := 0) (n := 1) (g := 17) (x := 0) (ci := 8) kX8_minuteAt vX8_minuteAt lkX10_190 (by decide +kernel) (by decide) rfl rfl (by decide) rfl rfl (Nat.le_of_ble_eq_true rfl) rfl rfl (Nat.le_of_ble_eq_true rfl) (h.monoI (fun z6 σ5 h => ?_))
    exact r_ret (by decide +kernel) rfl (fun _ => h)
  · replace h := h.2 c
    refine r_blk [qO (.aload_n 0), qO (.iload 4)] (pc' := 17) (L' := [zR 0 0, zI a0, zI a1, zI a2, zI z2]) (S' := [zI z2, zR 0 0]) (σ' := σ1) (Ps := []) (by decide +kernel) rfl trivial ?_
    refine r_callVI (As := [zI z2]) (S := []) (Lc := [zR 0 0, zI z2]) (d' := 0) (n := 1) (g := 0) (x := 0) (ci := 10) kX10_refuse vX10_refuse lkX10_98 (by decide +kernel) (by decide) rfl rfl (by decide) rfl rfl (Nat.le_of_ble_eq_true rfl) rfl rfl (Nat.le_of_ble_eq_true rfl) (h.monoI (fun z8 σ7 h => ?_))
    exact r_ret (by decide +kernel) rfl (fun _ => h)
theorem gX10_waited_0 (a0 : Int) (a1 : Int) (a2 : Int) (σ : Hp) {Q : Option Int → Hp → Prop} (h : Runs 1 mX10_refusalOfWay 0 [zR 0 0, zI a0, zI a1, zI a2] [] σ (rI (fun z2 σ1 => ((z2 = 0 → Runs 1 mX7_takeAsItIs 0 [zR 16 0] [] σ1 (rV (fun σ3 => Runs 4 mX4_trace 0 [zR 28 0, zI a0, zI a1, zI a2, zU] [] σ3 (rV (fun σ4 => Runs 0 mX4_minutesWaited 0 [zR 28 0, zU, zU] [] σ4 (rI (fun z6 σ5 => Q (some z6) σ5))))))) ∧ (¬ z2 = 0 → Runs 0 mX10_refuse 0 [zR 0 0, zI z2] [] σ1 (rI (fun z8 σ7 => Q (some z8) σ7))))))) : Runs 5 mX10_waited 0 [zR 0 0, zI a0, zI a1, zI a2, zU] [] σ Q := by
  refine r_blk [qO (.aload_n 0), qO (.iload_n 1), qO (.iload_n 2), qO (.iload_n 3)] (pc' := 4) (L' := [zR 0 0, zI a0, zI a1, zI a2, zU]) (S' := [zI a2, zI a1, zI a0, zR 0 0]) (σ' := σ) (Ps := []) (by decide +kernel) rfl trivial ?_
  refine r_callVI (As := [zI a0, zI a1, zI a2]) (S := []) (Lc := [zR 0 0, zI a0, zI a1, zI a2]) (d' := 1) (n := 3) (g := 0) (x := 0) (ci := 10) kX10_refusalOfWay vX10_refusalOfWay lkX10_182 (by decide +kernel) (by decide) rfl rfl (by decide) rfl rfl (Nat.le_of_ble_eq_true rfl) rfl rfl (Nat.le_of_ble_eq_true rfl) (h.monoI (fun z2 σ1 h => ?_))
  refine r_blk [qO (.istore 4), qO (.iload 4)] (pc' := 11) (L' := [zR 0 0, zI a0, zI a1, zI a2, zI z2]) (S' := [zI z2]) (σ' := σ1) (Ps := []) (by decide +kernel) rfl trivial ?_
  refine r_if_eq (off := 10) (tgt := 21) (by decide +kernel) (by decide) (fun c => ?_) (fun c => ?_)
  · replace h := h.1 c
    refine r_blk [qO (.aload_n 0), qF (.getfield 40) 10 4] (pc' := 25) (L' := [zR 0 0, zI a0, zI a1, zI a2, zI z2]) (S' := [zR 16 0]) (σ' := σ1) (Ps := []) (by decide +kernel) rfl trivial ?_
    refine r_callVV (As := []) (S := []) (Lc := [zR 16 0]) (d' := 1) (n := 0) (g := 16) (x := 0) (ci := 7) kX7_takeAsItIs vX7_takeAsItIs lkX10_173 (by decide +kernel) (by decide) rfl rfl (by decide) rfl rfl (Nat.le_of_ble_eq_true rfl) rfl rfl (Nat.le_of_ble_eq_true rfl) (h.monoV (fun σ3 h => ?_))
    refine r_blk [qO (.aload_n 0), qF (.getfield 87) 10 10, qO (.iconst 0), qO .aaload, qO (.iload_n 1), qO (.iload_n 2), qO (.iload_n 3)] (pc' := 37) (L' := [zR 0 0, zI a0, zI a1, zI a2, zI z2]) (S' := [zI a2, zI a1, zI a0, zR 28 0]) (σ' := σ3) (Ps := [0 ≤ 0 ∧ 0 < 8]) (by decide +kernel) rfl ⟨(by decide), trivial⟩ ?_
    refine r_callVV (As := [zI a0, zI a1, zI a2]) (S := []) (Lc := [zR 28 0, zI a0, zI a1, zI a2, zU]) (d' := 4) (n := 3) (g := 28) (x := 0) (ci := 4) kX4_trace vX4_trace lkX10_193 (by decide +kernel) (by decide) rfl rfl (by decide) rfl rfl (Nat.le_of_ble_eq_true rfl) rfl rfl (Nat.le_of_ble_eq_true rfl) (h.monoV (fun σ4 h => ?_))
    refine r_blk [qO (.aload_n 0), qF (.getfield 87) 10 10, qO (.iconst 0), qO .aaload] (pc' := 46) (L' := [zR 0 0, zI a0, zI a1, zI a2, zI z2]) (S' := [zR 28 0]) (σ' := σ4) (Ps := [0 ≤ 0 ∧ 0 < 8]) (by decide +kernel) rfl ⟨(by decide), trivial⟩ ?_
    refine r_callVI (As := []) (S := []) (Lc := [zR 28 0, zU, zU]) (d' := 0) (n := 0) (g := 28) (x := 0) (ci := 4) kX4_minutesWaited vX4_minutesWaited lkX10_196 (by decide +kernel) (by decide) rfl rfl (by decide) rfl rfl (Nat.le_of_ble_eq_true rfl) rfl rfl (Nat.le_of_ble_eq_true rfl) (h.monoI (fun z6 σ5 h => ?_))
    exact r_ret (by decide +kernel) rfl (fun _ => h)
  · replace h := h.2 c
    refine r_blk [qO (.aload_n 0), qO (.iload 4)] (pc' := 17) (L' := [zR 0 0, zI a0, zI a1, zI a2, zI z2]) (S' := [zI z2, zR 0 0]) (σ' := σ1) (Ps := []) (by decide +kernel) rfl trivial ?_
    refine r_callVI (As := [zI z2]) (S := []) (Lc := [zR 0 0, zI z2]) (d' := 0) (n := 1) (g := 0) (x := 0) (ci := 10) kX10_refuse vX10_refuse lkX10_98 (by decide +kernel) (by decide) rfl rfl (by decide) rfl rfl (Nat.le_of_ble_eq_true rfl) rfl rfl (Nat.le_of_ble_eq_true rfl) (h.monoI (fun z8 σ7 h => ?_))
    exact r_ret (by decide +kernel) rfl (fun _ => h)
theorem gX10_road_0 (a0 : Int) (a1 : Int) (a2 : Int) (a3 : Int) (σ : Hp) {Q : Option Int → Hp → Prop} (h : Runs 1 mX10_refusalOfWay 0 [zR 0 0, zI a0, zI a1, zI a2] [] σ (rI (fun z2 σ1 => ((z2 = (-1) → Runs 5 mX10_road 25 [zR 0 0, zI a0, zI a1, zI a2, zI a3, zI z2] [] σ1 Q) ∧ (¬ z2 = (-1) → (((-1) ≤ a3 → Runs 5 mX10_road 25 [zR 0 0, zI a0, zI a1, zI a2, zI a3, zI z2] [] σ1 Q) ∧ (¬ (-1) ≤ a3 → Runs 5 mX10_road 25 [zR 0 0, zI a0, zI a1, zI a2, zI a3, zI (-4)] [] σ1 Q))))))) : Runs 5 mX10_road 0 [zR 0 0, zI a0, zI a1, zI a2, zI a3, zU] [] σ Q := by
  refine r_blk [qO (.aload_n 0), qO (.iload_n 1), qO (.iload_n 2), qO (.iload_n 3)] (pc' := 4) (L' := [zR 0 0, zI a0, zI a1, zI a2, zI a3, zU]) (S' := [zI a2, zI a1, zI a0, zR 0 0]) (σ' := σ) (Ps := []) (by decide +kernel) rfl trivial ?_
  refine r_callVI (As := [zI a0, zI a1, zI a2]) (S := []) (Lc := [zR 0 0, zI a0, zI a1, zI a2]) (d' := 1) (n := 3) (g := 0) (x := 0) (ci := 10) kX10_refusalOfWay vX10_refusalOfWay lkX10_182 (by decide +kernel) (by decide) rfl rfl (by decide) rfl rfl (Nat.le_of_ble_eq_true rfl) rfl rfl (Nat.le_of_ble_eq_true rfl) (h.monoI (fun z2 σ1 h => ?_))
  refine r_blk [qO (.istore 5), qO (.iload 5), qO (.iconst (-1))] (pc' := 12) (L' := [zR 0 0, zI a0, zI a1, zI a2, zI a3, zI z2]) (S' := [zI (-1), zI z2]) (σ' := σ1) (Ps := []) (by decide +kernel) rfl trivial ?_
  refine r_icmp_eq (off := 13) (tgt := 25) (by decide +kernel) (by decide) (fun c => ?_) (fun c => ?_)
  · replace h := h.1 c
    exact Runs.fg (fgE (fgE (fgE (fgE (fgE (fgE fg0)))))) h
  · replace h := h.2 c
    refine r_blk [qO (.iload 4), qO (.iconst (-1))] (pc' := 18) (L' := [zR 0 0, zI a0, zI a1, zI a2, zI a3, zI z2]) (S' := [zI (-1), zI a3]) (σ' := σ1) (Ps := []) (by decide +kernel) rfl trivial ?_
    refine r_icmp_ge (off := 7) (tgt := 25) (by decide +kernel) (by decide) (fun c => ?_) (fun c => ?_)
    · replace h := h.1 c
      exact Runs.fg (fgE (fgE (fgE (fgE (fgE (fgE fg0)))))) h
    · replace h := h.2 c
      refine r_blk [qO (.bipush (-4)), qO (.istore 5)] (pc' := 25) (L' := [zR 0 0, zI a0, zI a1, zI a2, zI a3, zI (-4)]) (S' := []) (σ' := σ1) (Ps := []) (by decide +kernel) rfl trivial ?_
      exact Runs.fg (fgE (fgE (fgE (fgE (fgE (fgE fg0)))))) h
theorem gX10_road_25 (l1 : Int) (l2 : Int) (l3 : Int) (l4 : Int) (l5 : Int) (σ : Hp) {Q : Option Int → Hp → Prop} (h : ((l5 = 0 → Runs 1 mX7_takeAsItIs 0 [zR 16 0] [] σ (rV (fun σ1 => Runs 4 mX4_trace 0 [zR 28 0, zI l1, zI l2, zI l3, zU] [] σ1 (rV (fun σ2 => ((¬ l4 = (-1) → Runs 0 mX4_streetAt 0 [zR 28 0, zI l4] [] σ2 (rI (fun z4 σ3 => Q (some z4) σ3))) ∧ (l4 = (-1) → Q (some (σ2 28 0 7)) σ2))))))) ∧ (¬ l5 = 0 → Runs 0 mX10_refuse 0 [zR 0 0, zI l5] [] σ (rI (fun z6 σ5 => Q (some z6) σ5))))) : Runs 5 mX10_road 25 [zR 0 0, zI l1, zI l2, zI l3, zI l4, zI l5] [] σ Q := by
  refine r_blk [qO (.iload 5)] (pc' := 27) (L' := [zR 0 0, zI l1, zI l2, zI l3, zI l4, zI l5]) (S' := [zI l5]) (σ' := σ) (Ps := []) (by decide +kernel) rfl trivial ?_
  refine r_if_eq (off := 10) (tgt := 37) (by decide +kernel) (by decide) (fun c => ?_) (fun c => ?_)
  · replace h := h.1 c
    refine r_blk [qO (.aload_n 0), qF (.getfield 40) 10 4] (pc' := 41) (L' := [zR 0 0, zI l1, zI l2, zI l3, zI l4, zI l5]) (S' := [zR 16 0]) (σ' := σ) (Ps := []) (by decide +kernel) rfl trivial ?_
    refine r_callVV (As := []) (S := []) (Lc := [zR 16 0]) (d' := 1) (n := 0) (g := 16) (x := 0) (ci := 7) kX7_takeAsItIs vX7_takeAsItIs lkX10_173 (by decide +kernel) (by decide) rfl rfl (by decide) rfl rfl (Nat.le_of_ble_eq_true rfl) rfl rfl (Nat.le_of_ble_eq_true rfl) (h.monoV (fun σ1 h => ?_))
    refine r_blk [qO (.aload_n 0), qF (.getfield 87) 10 10, qO (.iconst 0), qO .aaload, qO (.iload_n 1), qO (.iload_n 2), qO (.iload_n 3)] (pc' := 53) (L' := [zR 0 0, zI l1, zI l2, zI l3, zI l4, zI l5]) (S' := [zI l3, zI l2, zI l1, zR 28 0]) (σ' := σ1) (Ps := [0 ≤ 0 ∧ 0 < 8]) (by decide +kernel) rfl ⟨(by decide), trivial⟩ ?_
    refine r_callVV (As := [zI l1, zI l2, zI l3]) (S := []) (Lc := [zR 28 0, zI l1, zI l2, zI l3, zU]) (d' := 4) (n := 3) (g := 28) (x := 0) (ci := 4) kX4_trace vX4_trace lkX10_193 (by decide +kernel) (by decide) rfl rfl (by decide) rfl rfl (Nat.le_of_ble_eq_true rfl) rfl rfl (Nat.le_of_ble_eq_true rfl) (h.monoV (fun σ2 h => ?_))
    refine r_blk [qO (.iload 4), qO (.iconst (-1))] (pc' := 59) (L' := [zR 0 0, zI l1, zI l2, zI l3, zI l4, zI l5]) (S' := [zI (-1), zI l4]) (σ' := σ2) (Ps := []) (by decide +kernel) rfl trivial ?_
    refine r_icmp_ne (off := 15) (tgt := 74) (by decide +kernel) (by decide) (fun c => ?_) (fun c => ?_)
    · replace h := h.1 c
      refine r_blk [qO (.aload_n 0), qF (.getfield 87) 10 10, qO (.iconst 0), qO .aaload, qO (.iload 4)] (pc' := 82) (L' := [zR 0 0, zI l1, zI l2, zI l3, zI l4, zI l5]) (S' := [zI l4, zR 28 0]) (σ' := σ2) (Ps := [0 ≤ 0 ∧ 0 < 8]) (by decide +kernel) rfl ⟨(by decide), trivial⟩ ?_
      refine r_callVI (As := [zI l4]) (S := []) (Lc := [zR 28 0, zI l4]) (d' := 0) (n := 1) (g := 28) (x := 0) (ci := 4) kX4_streetAt vX4_streetAt lkX10_201 (by decide +kernel) (by decide) rfl rfl (by decide) rfl rfl (Nat.le_of_ble_eq_true rfl) rfl rfl (Nat.le_of_ble_eq_true rfl) (h.monoI (fun z4 σ3 h => ?_))
      exact r_ret (by decide +kernel) rfl (fun _ => h)
    · replace h := h.2 c
      refine r_blk [qO (.aload_n 0), qF (.getfield 87) 10 10, qO (.iconst 0), qO .aaload, qF (.getfield 200) 4 7, qO (.goto 14)] (pc' := 85) (L' := [zR 0 0, zI l1, zI l2, zI l3, zI l4, zI l5]) (S' := [zI (σ2 28 0 7)]) (σ' := σ2) (Ps := [0 ≤ 0 ∧ 0 < 8]) (by decide +kernel) rfl ⟨(by decide), trivial⟩ ?_
      exact r_ret (by decide +kernel) rfl (fun _ => h)
  · replace h := h.2 c
    refine r_blk [qO (.aload_n 0), qO (.iload 5)] (pc' := 33) (L' := [zR 0 0, zI l1, zI l2, zI l3, zI l4, zI l5]) (S' := [zI l5, zR 0 0]) (σ' := σ) (Ps := []) (by decide +kernel) rfl trivial ?_
    refine r_callVI (As := [zI l5]) (S := []) (Lc := [zR 0 0, zI l5]) (d' := 0) (n := 1) (g := 0) (x := 0) (ci := 10) kX10_refuse vX10_refuse lkX10_98 (by decide +kernel) (by decide) rfl rfl (by decide) rfl rfl (Nat.le_of_ble_eq_true rfl) rfl rfl (Nat.le_of_ble_eq_true rfl) (h.monoI (fun z6 σ5 h => ?_))
    exact r_ret (by decide +kernel) rfl (fun _ => h)
theorem gX10_all_0 (a0 : Int) (σ : Hp) {Q : Option Int → Hp → Prop} (h : Runs 0 mX10_refusalOfMinute 0 [zR 0 0, zI a0] [] σ (rI (fun z2 σ1 => ((z2 = 0 → Runs 3 mX10_freezeAsItIs 0 [zR 0 0, zI a0] [] σ1 (rV (fun σ3 => Runs 1 mX0_pairsApart 0 [zR 19 0, zU, zU, zU] [] σ3 (rI (fun z5 σ4 => ((¬ z5 = 0 → Q (some 0) σ4) ∧ (z5 = 0 → Q (some 1) σ4))))))) ∧ (¬ z2 = 0 → Runs 0 mX10_refuse 0 [zR 0 0, zI z2] [] σ1 (rI (fun z7 σ6 => Q (some z7) σ6))))))) : Runs 4 mX10_all 0 [zR 0 0, zI a0, zU] [] σ Q := by
  refine r_blk [qO (.aload_n 0), qO (.iload_n 1)] (pc' := 2) (L' := [zR 0 0, zI a0, zU]) (S' := [zI a0, zR 0 0]) (σ' := σ) (Ps := []) (by decide +kernel) rfl trivial ?_
  refine r_callVI (As := [zI a0]) (S := []) (Lc := [zR 0 0, zI a0]) (d' := 0) (n := 1) (g := 0) (x := 0) (ci := 10) kX10_refusalOfMinute vX10_refusalOfMinute lkX10_170 (by decide +kernel) (by decide) rfl rfl (by decide) rfl rfl (Nat.le_of_ble_eq_true rfl) rfl rfl (Nat.le_of_ble_eq_true rfl) (h.monoI (fun z2 σ1 h => ?_))
  refine r_blk [qO (.istore_n 2), qO (.iload_n 2)] (pc' := 7) (L' := [zR 0 0, zI a0, zI z2]) (S' := [zI z2]) (σ' := σ1) (Ps := []) (by decide +kernel) rfl trivial ?_
  refine r_if_eq (off := 9) (tgt := 16) (by decide +kernel) (by decide) (fun c => ?_) (fun c => ?_)
  · replace h := h.1 c
    refine r_blk [qO (.aload_n 0), qO (.iload_n 1)] (pc' := 18) (L' := [zR 0 0, zI a0, zI z2]) (S' := [zI a0, zR 0 0]) (σ' := σ1) (Ps := []) (by decide +kernel) rfl trivial ?_
    refine r_callVV (As := [zI a0]) (S := []) (Lc := [zR 0 0, zI a0]) (d' := 3) (n := 1) (g := 0) (x := 0) (ci := 10) kX10_freezeAsItIs vX10_freezeAsItIs lkX10_204 (by decide +kernel) (by decide) rfl rfl (by decide) rfl rfl (Nat.le_of_ble_eq_true rfl) rfl rfl (Nat.le_of_ble_eq_true rfl) (h.monoV (fun σ3 h => ?_))
    refine r_blk [qO (.aload_n 0), qF (.getfield 56) 10 6] (pc' := 25) (L' := [zR 0 0, zI a0, zI z2]) (S' := [zR 19 0]) (σ' := σ3) (Ps := []) (by decide +kernel) rfl trivial ?_
    refine r_callVI (As := []) (S := []) (Lc := [zR 19 0, zU, zU, zU]) (d' := 1) (n := 0) (g := 19) (x := 0) (ci := 0) kX0_pairsApart vX0_pairsApart lkX10_207 (by decide +kernel) (by decide) rfl rfl (by decide) rfl rfl (Nat.le_of_ble_eq_true rfl) rfl rfl (Nat.le_of_ble_eq_true rfl) (h.monoI (fun z5 σ4 h => ?_))
    refine r_if_ne (off := 7) (tgt := 35) (by decide +kernel) (by decide) (fun c => ?_) (fun c => ?_)
    · replace h := h.1 c
      refine r_blk [qO (.iconst 0)] (pc' := 36) (L' := [zR 0 0, zI a0, zI z2]) (S' := [zI 0]) (σ' := σ4) (Ps := []) (by decide +kernel) rfl trivial ?_
      exact r_ret (by decide +kernel) rfl (fun _ => h)
    · replace h := h.2 c
      refine r_blk [qO (.iconst 1), qO (.goto 4)] (pc' := 36) (L' := [zR 0 0, zI a0, zI z2]) (S' := [zI 1]) (σ' := σ4) (Ps := []) (by decide +kernel) rfl trivial ?_
      exact r_ret (by decide +kernel) rfl (fun _ => h)
  · replace h := h.2 c
    refine r_blk [qO (.aload_n 0), qO (.iload_n 2)] (pc' := 12) (L' := [zR 0 0, zI a0, zI z2]) (S' := [zI z2, zR 0 0]) (σ' := σ1) (Ps := []) (by decide +kernel) rfl trivial ?_
    refine r_callVI (As := [zI z2]) (S := []) (Lc := [zR 0 0, zI z2]) (d' := 0) (n := 1) (g := 0) (x := 0) (ci := 10) kX10_refuse vX10_refuse lkX10_98 (by decide +kernel) (by decide) rfl rfl (by decide) rfl rfl (Nat.le_of_ble_eq_true rfl) rfl rfl (Nat.le_of_ble_eq_true rfl) (h.monoI (fun z7 σ6 h => ?_))
    exact r_ret (by decide +kernel) rfl (fun _ => h)
