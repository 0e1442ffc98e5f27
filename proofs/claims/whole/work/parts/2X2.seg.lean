theorem gX2_hangsTogether_0 (σ : Hp) {Q : Option Int → Hp → Prop} (h : Runs 0 mX2_cornersFrom 0 [zR 22 0, zI 0, zI (-1), zU, zU, zU, zU] [] σ (rI (fun z2 σ1 => (-2147483648 ≤ (zshl 1 (σ1 1 0 0)) - 1 ∧ (zshl 1 (σ1 1 0 0)) - 1 ≤ 2147483647) ∧ ((¬ z2 = (zshl 1 (σ1 1 0 0)) - 1 → Q (some 0) σ1) ∧ (z2 = (zshl 1 (σ1 1 0 0)) - 1 → Q (some 1) σ1))))) : Runs 1 mX2_hangsTogether 0 [zR 22 0] [] σ Q := by
  refine r_blk [qO (.aload_n 0), qO (.iconst 0), qO (.iconst (-1))] (pc' := 3) (L' := [zR 22 0]) (S' := [zI (-1), zI 0, zR 22 0]) (σ' := σ) (Ps := []) (by decide +kernel) rfl trivial ?_
  refine r_callVI (As := [zI 0, zI (-1)]) (S := []) (Lc := [zR 22 0, zI 0, zI (-1), zU, zU, zU, zU]) (d' := 0) (n := 2) (g := 22) (x := 0) (ci := 2) kX2_cornersFrom vX2_cornersFrom lkX2_22 (by decide +kernel) (by decide) rfl rfl (by decide) rfl rfl (Nat.le_of_ble_eq_true rfl) rfl rfl (Nat.le_of_ble_eq_true rfl) (h.monoI (fun z2 σ1 h => ?_))
  refine r_blk [qO (.iconst 1), qO (.aload_n 0), qF (.getfield 18) 2 0, qF (.getfield 26) 6 0, qO .ishl, qO (.iconst 1), qO .isub] (pc' := 17) (L' := [zR 22 0]) (S' := [zI ((zshl 1 (σ1 1 0 0)) - 1), zI z2]) (σ' := σ1) (Ps := [-2147483648 ≤ (zshl 1 (σ1 1 0 0)) - 1 ∧ (zshl 1 (σ1 1 0 0)) - 1 ≤ 2147483647]) (by decide +kernel) rfl ⟨h.1, trivial⟩ ?_
  replace h := h.2
  refine r_icmp_ne (off := 7) (tgt := 24) (by decide +kernel) (by decide) (fun c => ?_) (fun c => ?_)
  · replace h := h.1 c
    refine r_blk [qO (.iconst 0)] (pc' := 25) (L' := [zR 22 0]) (S' := [zI 0]) (σ' := σ1) (Ps := []) (by decide +kernel) rfl trivial ?_
    exact r_retz (by decide +kernel) rfl (by decide) h
  · replace h := h.2 c
    refine r_blk [qO (.iconst 1), qO (.goto 4)] (pc' := 25) (L' := [zR 22 0]) (S' := [zI 1]) (σ' := σ1) (Ps := []) (by decide +kernel) rfl trivial ?_
    exact r_retz (by decide +kernel) rfl (by decide) h
theorem gX2_bridgeOnes_0 (σ : Hp) {Q : Option Int → Hp → Prop} (h : Runs 1 mX2_bridgeOnes 4 [zR 22 0, zI 0, zI 0, zU] [] σ Q) : Runs 1 mX2_bridgeOnes 0 [zR 22 0, zU, zU, zU] [] σ Q := by
  refine r_blk [qO (.iconst 0), qO (.istore_n 1), qO (.iconst 0), qO (.istore_n 2)] (pc' := 4) (L' := [zR 22 0, zI 0, zI 0, zU]) (S' := []) (σ' := σ) (Ps := []) (by decide +kernel) rfl trivial ?_
  exact Runs.fg (fgE (fgE (fgE (fgU fg0)))) h
theorem gX2_bridgeOnes_4 (l1 : Int) (l2 : Int) (σ : Hp) {Q : Option Int → Hp → Prop} (h : ((σ 1 0 1 ≤ l2 → Q (some l1) σ) ∧ (¬ σ 1 0 1 ≤ l2 → (0 ≤ l2 ∧ l2 < 14) ∧ Runs 0 mX2_cornersFrom 0 [zR 22 0, zI (σ 2 0 l2.toNat), zI l2, zU, zU, zU, zU] [] σ (rI (fun z2 σ1 => (0 ≤ l2 ∧ l2 < 14) ∧ Runs 0 mX10_bitOf 0 [zI z2, zI (σ1 3 0 l2.toNat)] [] σ1 (rI (fun z4 σ3 => ((¬ z4 = 0 → (-2147483648 ≤ l2 + 1 ∧ l2 + 1 ≤ 2147483647) ∧ Runs 1 mX2_bridgeOnes 4 [zR 22 0, zI (zor l1 0), zI (l2 + 1), zU] [] σ3 Q) ∧ (z4 = 0 → (-2147483648 ≤ l2 + 1 ∧ l2 + 1 ≤ 2147483647) ∧ Runs 1 mX2_bridgeOnes 4 [zR 22 0, zI (zor l1 (zshl 1 l2)), zI (l2 + 1), zU] [] σ3 Q))))))))) : Runs 1 mX2_bridgeOnes 4 [zR 22 0, zI l1, zI l2, zU] [] σ Q := by
  refine r_blk [qO (.iload_n 2), qO (.aload_n 0), qF (.getfield 18) 2 0, qF (.getfield 32) 6 1] (pc' := 12) (L' := [zR 22 0, zI l1, zI l2, zU]) (S' := [zI (σ 1 0 1), zI l2]) (σ' := σ) (Ps := []) (by decide +kernel) rfl trivial ?_
  refine r_icmp_ge (off := 50) (tgt := 62) (by decide +kernel) (by decide) (fun c => ?_) (fun c => ?_)
  · replace h := h.1 c
    refine r_blk [qO (.iload_n 1)] (pc' := 63) (L' := [zR 22 0, zI l1, zI l2, zU]) (S' := [zI l1]) (σ' := σ) (Ps := []) (by decide +kernel) rfl trivial ?_
    exact r_ret (by decide +kernel) rfl (fun _ => h)
  · replace h := h.2 c
    refine r_blk [qO (.aload_n 0), qO (.aload_n 0), qF (.getfield 18) 2 0, qF (.getfield 35) 6 7, qO (.iload_n 2), qO .iaload, qO (.iload_n 2)] (pc' := 26) (L' := [zR 22 0, zI l1, zI l2, zU]) (S' := [zI l2, zI (σ 2 0 l2.toNat), zR 22 0]) (σ' := σ) (Ps := [0 ≤ l2 ∧ l2 < 14]) (by decide +kernel) rfl ⟨h.1, trivial⟩ ?_
    replace h := h.2
    refine r_callVI (As := [zI (σ 2 0 l2.toNat), zI l2]) (S := []) (Lc := [zR 22 0, zI (σ 2 0 l2.toNat), zI l2, zU, zU, zU, zU]) (d' := 0) (n := 2) (g := 22) (x := 0) (ci := 2) kX2_cornersFrom vX2_cornersFrom lkX2_22 (by decide +kernel) (by decide) rfl rfl (by decide) rfl rfl (Nat.le_of_ble_eq_true rfl) rfl rfl (Nat.le_of_ble_eq_true rfl) (h.monoI (fun z2 σ1 h => ?_))
    refine r_blk [qO (.istore_n 3), qO (.iload_n 1), qO (.iload_n 3), qO (.aload_n 0), qF (.getfield 18) 2 0, qF (.getfield 38) 6 8, qO (.iload_n 2), qO .iaload] (pc' := 41) (L' := [zR 22 0, zI l1, zI l2, zI z2]) (S' := [zI (σ1 3 0 l2.toNat), zI z2, zI l1]) (σ' := σ1) (Ps := [0 ≤ l2 ∧ l2 < 14]) (by decide +kernel) rfl ⟨h.1, trivial⟩ ?_
    replace h := h.2
    refine r_callNI (As := [zI z2, zI (σ1 3 0 l2.toNat)]) (S := [zI l1]) (Lc := [zI z2, zI (σ1 3 0 l2.toNat)]) (d' := 0) (n := 2) kX10_bitOf vX10_bitOf lkX2_41 (by decide +kernel) (by decide) rfl rfl (Nat.le_of_ble_eq_true rfl) rfl rfl (Nat.le_of_ble_eq_true rfl) (h.monoI (fun z4 σ3 h => ?_))
    refine r_if_ne (off := 9) (tgt := 53) (by decide +kernel) (by decide) (fun c => ?_) (fun c => ?_)
    · replace h := h.1 c
      refine r_blk [qO (.iconst 0), qO .ior, qO (.istore_n 1), qO (.iinc 2 1), qO (.goto (-55))] (pc' := 4) (L' := [zR 22 0, zI (zor l1 0), zI (l2 + 1), zI z2]) (S' := []) (σ' := σ3) (Ps := [-2147483648 ≤ l2 + 1 ∧ l2 + 1 ≤ 2147483647]) (by decide +kernel) rfl ⟨h.1, trivial⟩ ?_
      replace h := h.2
      exact Runs.fg (fgE (fgE (fgE (fgU fg0)))) h
    · replace h := h.2 c
      refine r_blk [qO (.iconst 1), qO (.iload_n 2), qO .ishl, qO (.goto 4), qO .ior, qO (.istore_n 1), qO (.iinc 2 1), qO (.goto (-55))] (pc' := 4) (L' := [zR 22 0, zI (zor l1 (zshl 1 l2)), zI (l2 + 1), zI z2]) (S' := []) (σ' := σ3) (Ps := [-2147483648 ≤ l2 + 1 ∧ l2 + 1 ≤ 2147483647]) (by decide +kernel) rfl ⟨h.1, trivial⟩ ?_
      replace h := h.2
      exact Runs.fg (fgE (fgE (fgE (fgU fg0)))) h
theorem gX2_cornersFrom_0 (a0 : Int) (a1 : Int) (σ : Hp) {Q : Option Int → Hp → Prop} (h : Runs 0 mX2_cornersFrom 7 [zR 22 0, zU, zI a1, zI (zshl 1 a0), zI 0, zU, zU] [] σ Q) : Runs 0 mX2_cornersFrom 0 [zR 22 0, zI a0, zI a1, zU, zU, zU, zU] [] σ Q := by
  refine r_blk [qO (.iconst 1), qO (.iload_n 1), qO .ishl, qO (.istore_n 3), qO (.iconst 0), qO (.istore 4)] (pc' := 7) (L' := [zR 22 0, zI a0, zI a1, zI (zshl 1 a0), zI 0, zU, zU]) (S' := []) (σ' := σ) (Ps := []) (by decide +kernel) rfl trivial ?_
  exact Runs.fg (fgE (fgU (fgE (fgE (fgE (fgU (fgU fg0))))))) h
theorem gX2_cornersFrom_7 (l2 : Int) (l3 : Int) (l4 : Int) (σ : Hp) {Q : Option Int → Hp → Prop} (h : ((σ 1 0 0 ≤ l4 → Q (some l3) σ) ∧ (¬ σ 1 0 0 ≤ l4 → Runs 0 mX2_cornersFrom 22 [zR 22 0, zU, zI l2, zI l3, zI l4, zI 0, zU] [] σ Q))) : Runs 0 mX2_cornersFrom 7 [zR 22 0, zU, zI l2, zI l3, zI l4, zU, zU] [] σ Q := by
  refine r_blk [qO (.iload 4), qO (.aload_n 0), qF (.getfield 18) 2 0, qF (.getfield 26) 6 0] (pc' := 16) (L' := [zR 22 0, zU, zI l2, zI l3, zI l4, zU, zU]) (S' := [zI (σ 1 0 0), zI l4]) (σ' := σ) (Ps := []) (by decide +kernel) rfl trivial ?_
  refine r_icmp_ge (off := 79) (tgt := 95) (by decide +kernel) (by decide) (fun c => ?_) (fun c => ?_)
  · replace h := h.1 c
    refine r_blk [qO (.iload_n 3)] (pc' := 96) (L' := [zR 22 0, zU, zI l2, zI l3, zI l4, zU, zU]) (S' := [zI l3]) (σ' := σ) (Ps := []) (by decide +kernel) rfl trivial ?_
    exact r_ret (by decide +kernel) rfl (fun _ => h)
  · replace h := h.2 c
    refine r_blk [qO (.iconst 0), qO (.istore 5)] (pc' := 22) (L' := [zR 22 0, zU, zI l2, zI l3, zI l4, zI 0, zU]) (S' := []) (σ' := σ) (Ps := []) (by decide +kernel) rfl trivial ?_
    exact Runs.fg (fgE (fgU (fgE (fgE (fgE (fgE (fgU fg0))))))) h
theorem gX2_cornersFrom_22 (l2 : Int) (l3 : Int) (l4 : Int) (l5 : Int) (σ : Hp) {Q : Option Int → Hp → Prop} (h : ((σ 1 0 1 ≤ l5 → (-2147483648 ≤ l4 + 1 ∧ l4 + 1 ≤ 2147483647) ∧ Runs 0 mX2_cornersFrom 7 [zR 22 0, zU, zI l2, zI l3, zI (l4 + 1), zU, zU] [] σ Q) ∧ (¬ σ 1 0 1 ≤ l5 → (0 ≤ l5 ∧ l5 < 14) ∧ (0 ≤ l5 ∧ l5 < 14) ∧ ((l5 = l2 → (-2147483648 ≤ l5 + 1 ∧ l5 + 1 ≤ 2147483647) ∧ Runs 0 mX2_cornersFrom 22 [zR 22 0, zU, zI l2, zI (zor l3 0), zI l4, zI (l5 + 1), zU] [] σ Q) ∧ (¬ l5 = l2 → ((zand l3 (zor (zshl 1 (σ 2 0 l5.toNat)) (zshl 1 (σ 3 0 l5.toNat))) = 0 → (-2147483648 ≤ l5 + 1 ∧ l5 + 1 ≤ 2147483647) ∧ Runs 0 mX2_cornersFrom 22 [zR 22 0, zU, zI l2, zI (zor l3 0), zI l4, zI (l5 + 1), zU] [] σ Q) ∧ (¬ zand l3 (zor (zshl 1 (σ 2 0 l5.toNat)) (zshl 1 (σ 3 0 l5.toNat))) = 0 → (-2147483648 ≤ l5 + 1 ∧ l5 + 1 ≤ 2147483647) ∧ Runs 0 mX2_cornersFrom 22 [zR 22 0, zU, zI l2, zI (zor l3 (zor (zshl 1 (σ 2 0 l5.toNat)) (zshl 1 (σ 3 0 l5.toNat)))), zI l4, zI (l5 + 1), zU] [] σ Q))))))) : Runs 0 mX2_cornersFrom 22 [zR 22 0, zU, zI l2, zI l3, zI l4, zI l5, zU] [] σ Q := by
  refine r_blk [qO (.iload 5), qO (.aload_n 0), qF (.getfield 18) 2 0, qF (.getfield 32) 6 1] (pc' := 31) (L' := [zR 22 0, zU, zI l2, zI l3, zI l4, zI l5, zU]) (S' := [zI (σ 1 0 1), zI l5]) (σ' := σ) (Ps := []) (by decide +kernel) rfl trivial ?_
  refine r_icmp_ge (off := 58) (tgt := 89) (by decide +kernel) (by decide) (fun c => ?_) (fun c => ?_)
  · replace h := h.1 c
    refine r_blk [qO (.iinc 4 1), qO (.goto (-85))] (pc' := 7) (L' := [zR 22 0, zU, zI l2, zI l3, zI (l4 + 1), zI l5, zU]) (S' := []) (σ' := σ) (Ps := [-2147483648 ≤ l4 + 1 ∧ l4 + 1 ≤ 2147483647]) (by decide +kernel) rfl ⟨h.1, trivial⟩ ?_
    replace h := h.2
    exact Runs.fg (fgE (fgU (fgE (fgE (fgE (fgU (fgU fg0))))))) h
  · replace h := h.2 c
    refine r_blk [qO (.iconst 1), qO (.aload_n 0), qF (.getfield 18) 2 0, qF (.getfield 35) 6 7, qO (.iload 5), qO .iaload, qO .ishl, qO (.iconst 1), qO (.aload_n 0), qF (.getfield 18) 2 0, qF (.getfield 38) 6 8, qO (.iload 5), qO .iaload, qO .ishl, qO .ior, qO (.istore 6), qO (.iload_n 3), qO (.iload 5), qO (.iload_n 2)] (pc' := 65) (L' := [zR 22 0, zU, zI l2, zI l3, zI l4, zI l5, zI (zor (zshl 1 (σ 2 0 l5.toNat)) (zshl 1 (σ 3 0 l5.toNat)))]) (S' := [zI l2, zI l5, zI l3]) (σ' := σ) (Ps := [0 ≤ l5 ∧ l5 < 14, 0 ≤ l5 ∧ l5 < 14]) (by decide +kernel) rfl ⟨h.1, h.2.1, trivial⟩ ?_
    replace h := h.2.2
    refine r_icmp_eq (off := 15) (tgt := 80) (by decide +kernel) (by decide) (fun c => ?_) (fun c => ?_)
    · replace h := h.1 c
      refine r_blk [qO (.iconst 0), qO .ior, qO (.istore_n 3), qO (.iinc 5 1), qO (.goto (-64))] (pc' := 22) (L' := [zR 22 0, zU, zI l2, zI (zor l3 0), zI l4, zI (l5 + 1), zI (zor (zshl 1 (σ 2 0 l5.toNat)) (zshl 1 (σ 3 0 l5.toNat)))]) (S' := []) (σ' := σ) (Ps := [-2147483648 ≤ l5 + 1 ∧ l5 + 1 ≤ 2147483647]) (by decide +kernel) rfl ⟨h.1, trivial⟩ ?_
      replace h := h.2
      exact Runs.fg (fgE (fgU (fgE (fgE (fgE (fgE (fgU fg0))))))) h
    · replace h := h.2 c
      refine r_blk [qO (.iload_n 3), qO (.iload 6), qO .iand] (pc' := 72) (L' := [zR 22 0, zU, zI l2, zI l3, zI l4, zI l5, zI (zor (zshl 1 (σ 2 0 l5.toNat)) (zshl 1 (σ 3 0 l5.toNat)))]) (S' := [zI (zand l3 (zor (zshl 1 (σ 2 0 l5.toNat)) (zshl 1 (σ 3 0 l5.toNat)))), zI l3]) (σ' := σ) (Ps := []) (by decide +kernel) rfl trivial ?_
      refine r_if_eq (off := 8) (tgt := 80) (by decide +kernel) (by decide) (fun c => ?_) (fun c => ?_)
      · replace h := h.1 c
        refine r_blk [qO (.iconst 0), qO .ior, qO (.istore_n 3), qO (.iinc 5 1), qO (.goto (-64))] (pc' := 22) (L' := [zR 22 0, zU, zI l2, zI (zor l3 0), zI l4, zI (l5 + 1), zI (zor (zshl 1 (σ 2 0 l5.toNat)) (zshl 1 (σ 3 0 l5.toNat)))]) (S' := []) (σ' := σ) (Ps := [-2147483648 ≤ l5 + 1 ∧ l5 + 1 ≤ 2147483647]) (by decide +kernel) rfl ⟨h.1, trivial⟩ ?_
        replace h := h.2
        exact Runs.fg (fgE (fgU (fgE (fgE (fgE (fgE (fgU fg0))))))) h
      · replace h := h.2 c
        refine r_blk [qO (.iload 6), qO (.goto 4), qO .ior, qO (.istore_n 3), qO (.iinc 5 1), qO (.goto (-64))] (pc' := 22) (L' := [zR 22 0, zU, zI l2, zI (zor l3 (zor (zshl 1 (σ 2 0 l5.toNat)) (zshl 1 (σ 3 0 l5.toNat)))), zI l4, zI (l5 + 1), zI (zor (zshl 1 (σ 2 0 l5.toNat)) (zshl 1 (σ 3 0 l5.toNat)))]) (S' := []) (σ' := σ) (Ps := [-2147483648 ≤ l5 + 1 ∧ l5 + 1 ≤ 2147483647]) (by decide +kernel) rfl ⟨h.1, trivial⟩ ?_
        replace h := h.2
        exact Runs.fg (fgE (fgU (fgE (fgE (fgE (fgE (fgU fg0))))))) h
theorem gX2_walkThrough_0 (σ : Hp) {Q : Option Int → Hp → Prop} (h : Runs 0 mJ7_fill_53178 0 [zR 24 0, zI 0, zU, zU] [] σ (rV (fun σ1 => Runs 1 mX2_walkThrough 27 [zR 22 0, zI 1, zI 0, zI 0, zI 0, zI 0, zU, zU] [] (zup σ1 23 0 0 (-1)) Q))) : Runs 1 mX2_walkThrough 0 [zR 22 0, zU, zU, zU, zU, zU, zU, zU] [] σ Q := by
  refine r_blk [qO (.aload_n 0), qF (.getfield 15) 2 2, qO (.iconst 0)] (pc' := 5) (L' := [zR 22 0, zU, zU, zU, zU, zU, zU, zU]) (S' := [zI 0, zR 24 0]) (σ' := σ) (Ps := []) (by decide +kernel) rfl trivial ?_
  refine r_callSV (As := [zR 24 0, zI 0]) (S := []) (Lc := [zR 24 0, zI 0, zU, zU]) (d' := 0) (n := 2) kJ7_fill_53178 vJ7_fill_53178 lkX2_44 (by decide +kernel) (by decide) rfl rfl (Nat.le_of_ble_eq_true rfl) rfl rfl (Nat.le_of_ble_eq_true rfl) (h.monoV (fun σ1 h => ?_))
  refine r_blk [qO (.aload_n 0), qF (.getfield 9) 2 1, qO (.iconst 0), qO (.iconst (-1)), qO .iastore, qO (.iconst 1), qO (.istore_n 1), qO (.iconst 0), qO (.istore_n 2), qO (.iconst 0), qO (.istore_n 3), qO (.iconst 0), qO (.istore 4), qO (.iconst 0), qO (.istore 5)] (pc' := 27) (L' := [zR 22 0, zI 1, zI 0, zI 0, zI 0, zI 0, zU, zU]) (S' := []) (σ' := (zup σ1 23 0 0 (-1))) (Ps := [0 ≤ 0 ∧ 0 < 10]) (by decide +kernel) rfl ⟨(by decide), trivial⟩ ?_
  exact Runs.fg (fgE (fgE (fgE (fgE (fgE (fgE (fgU (fgU fg0)))))))) h
theorem gX2_walkThrough_27 (l1 : Int) (l2 : Int) (l3 : Int) (l4 : Int) (l5 : Int) (σ : Hp) {Q : Option Int → Hp → Prop} (h : ((150 ≤ l5 → Q (some l3) σ) ∧ (¬ 150 ≤ l5 → ((l4 = (-1) → Q (some l3) σ) ∧ (¬ l4 = (-1) → (0 ≤ l4 ∧ l4 < 10) ∧ ((σ 24 0 l4.toNat < σ 1 0 1 → (0 ≤ l4 ∧ l4 < 10) ∧ (-2147483648 ≤ (σ 24 0 l4.toNat) + 1 ∧ (σ 24 0 l4.toNat) + 1 ≤ 2147483647) ∧ (0 ≤ l4 ∧ l4 < 10) ∧ Runs 0 mX2_otherEnd 0 [zR 22 0, zI (σ 24 0 l4.toNat), zI l4] [] (zup σ 24 0 l4.toNat ((σ 24 0 l4.toNat) + 1)) (rI (fun z2 σ1 => ((z2 = (-1) → (-2147483648 ≤ l5 + 1 ∧ l5 + 1 ≤ 2147483647) ∧ Runs 1 mX2_walkThrough 27 [zR 22 0, zI l1, zI l2, zI l3, zI l4, zI (l5 + 1), zU, zU] [] σ1 Q) ∧ (¬ z2 = (-1) → Runs 0 mX10_bitOf 0 [zI l2, zI (σ 24 0 l4.toNat)] [] σ1 (rI (fun z4 σ3 => ((¬ z4 = 1 → (0 ≤ σ 24 0 l4.toNat ∧ σ 24 0 l4.toNat < 14) ∧ ((¬ σ3 3 0 ((σ 24 0 l4.toNat).toNat) = l4 → Runs 0 mX10_bitOf 0 [zI l1, zI z2] [] σ3 (rI (fun z6 σ5 => ((¬ z6 = 0 → (-2147483648 ≤ l5 + 1 ∧ l5 + 1 ≤ 2147483647) ∧ Runs 1 mX2_walkThrough 27 [zR 22 0, zI l1, zI (zor l2 (zshl 1 (σ 24 0 l4.toNat))), zI (zor l3 0), zI l4, zI (l5 + 1), zU, zU] [] σ5 Q) ∧ (z6 = 0 → (0 ≤ z2 ∧ z2 < 10) ∧ (-2147483648 ≤ l5 + 1 ∧ l5 + 1 ≤ 2147483647) ∧ Runs 1 mX2_walkThrough 27 [zR 22 0, zI (zor l1 (zshl 1 z2)), zI (zor l2 (zshl 1 (σ 24 0 l4.toNat))), zI (zor l3 0), zI z2, zI (l5 + 1), zU, zU] [] (zup σ5 23 0 z2.toNat l4) Q))))) ∧ (σ3 3 0 ((σ 24 0 l4.toNat).toNat) = l4 → Runs 0 mX10_bitOf 0 [zI l1, zI z2] [] σ3 (rI (fun z8 σ7 => ((¬ z8 = 0 → (-2147483648 ≤ l5 + 1 ∧ l5 + 1 ≤ 2147483647) ∧ Runs 1 mX2_walkThrough 27 [zR 22 0, zI l1, zI (zor l2 (zshl 1 (σ 24 0 l4.toNat))), zI (zor l3 (zshl 1 (σ 24 0 l4.toNat))), zI l4, zI (l5 + 1), zU, zU] [] σ7 Q) ∧ (z8 = 0 → (0 ≤ z2 ∧ z2 < 10) ∧ (-2147483648 ≤ l5 + 1 ∧ l5 + 1 ≤ 2147483647) ∧ Runs 1 mX2_walkThrough 27 [zR 22 0, zI (zor l1 (zshl 1 z2)), zI (zor l2 (zshl 1 (σ 24 0 l4.toNat))), zI (zor l3 (zshl 1 (σ 24 0 l4.toNat))), zI z2, zI (l5 + 1), zU, zU] [] (zup σ7 23 0 z2.toNat l4) Q))))))) ∧ (z4 = 1 → (-2147483648 ≤ l5 + 1 ∧ l5 + 1 ≤ 2147483647) ∧ Runs 1 mX2_walkThrough 27 [zR 22 0, zI l1, zI l2, zI l3, zI l4, zI (l5 + 1), zU, zU] [] σ3 Q))))))))) ∧ (¬ σ 24 0 l4.toNat < σ 1 0 1 → (0 ≤ l4 ∧ l4 < 10) ∧ (-2147483648 ≤ l5 + 1 ∧ l5 + 1 ≤ 2147483647) ∧ Runs 1 mX2_walkThrough 27 [zR 22 0, zI l1, zI l2, zI l3, zI (σ 23 0 l4.toNat), zI (l5 + 1), zU, zU] [] σ Q))))))) : Runs 1 mX2_walkThrough 27 [zR 22 0, zI l1, zI l2, zI l3, zI l4, zI l5, zU, zU] [] σ Q := by
  refine r_blk [qO (.iload 5), qO (.sipush 150)] (pc' := 32) (L' := [zR 22 0, zI l1, zI l2, zI l3, zI l4, zI l5, zU, zU]) (S' := [zI 150, zI l5]) (σ' := σ) (Ps := []) (by decide +kernel) rfl trivial ?_
  refine r_icmp_ge (off := 150) (tgt := 182) (by decide +kernel) (by decide) (fun c => ?_) (fun c => ?_)
  · replace h := h.1 c
    refine r_blk [qO (.iload_n 3)] (pc' := 183) (L' := [zR 22 0, zI l1, zI l2, zI l3, zI l4, zI l5, zU, zU]) (S' := [zI l3]) (σ' := σ) (Ps := []) (by decide +kernel) rfl trivial ?_
    exact r_ret (by decide +kernel) rfl (fun _ => h)
  · replace h := h.2 c
    refine r_blk [qO (.iload 4), qO (.iconst (-1))] (pc' := 38) (L' := [zR 22 0, zI l1, zI l2, zI l3, zI l4, zI l5, zU, zU]) (S' := [zI (-1), zI l4]) (σ' := σ) (Ps := []) (by decide +kernel) rfl trivial ?_
    refine r_icmp_eq (off := 144) (tgt := 182) (by decide +kernel) (by decide) (fun c => ?_) (fun c => ?_)
    · replace h := h.1 c
      refine r_blk [qO (.iload_n 3)] (pc' := 183) (L' := [zR 22 0, zI l1, zI l2, zI l3, zI l4, zI l5, zU, zU]) (S' := [zI l3]) (σ' := σ) (Ps := []) (by decide +kernel) rfl trivial ?_
      exact r_ret (by decide +kernel) rfl (fun _ => h)
    · replace h := h.2 c
      refine r_blk [qO (.aload_n 0), qF (.getfield 15) 2 2, qO (.iload 4), qO .iaload, qO (.istore 6), qO (.iload 6), qO (.aload_n 0), qF (.getfield 18) 2 0, qF (.getfield 32) 6 1] (pc' := 59) (L' := [zR 22 0, zI l1, zI l2, zI l3, zI l4, zI l5, zI (σ 24 0 l4.toNat), zU]) (S' := [zI (σ 1 0 1), zI (σ 24 0 l4.toNat)]) (σ' := σ) (Ps := [0 ≤ l4 ∧ l4 < 10]) (by decide +kernel) rfl ⟨h.1, trivial⟩ ?_
      replace h := h.2
      refine r_icmp_lt (off := 15) (tgt := 74) (by decide +kernel) (by decide) (fun c => ?_) (fun c => ?_)
      · replace h := h.1 c
        refine r_blk [qO (.aload_n 0), qF (.getfield 15) 2 2, qO (.iload 4), qO .dup2, qO .iaload, qO (.iconst 1), qO .iadd, qO .iastore, qO (.aload_n 0), qO (.iload 6), qO (.iload 4)] (pc' := 90) (L' := [zR 22 0, zI l1, zI l2, zI l3, zI l4, zI l5, zI (σ 24 0 l4.toNat), zU]) (S' := [zI l4, zI (σ 24 0 l4.toNat), zR 22 0]) (σ' := (zup σ 24 0 l4.toNat ((σ 24 0 l4.toNat) + 1))) (Ps := [0 ≤ l4 ∧ l4 < 10, -2147483648 ≤ (σ 24 0 l4.toNat) + 1 ∧ (σ 24 0 l4.toNat) + 1 ≤ 2147483647, 0 ≤ l4 ∧ l4 < 10]) (by decide +kernel) rfl ⟨h.1, h.2.1, h.2.2.1, trivial⟩ ?_
        replace h := h.2.2.2
        refine r_callVI (As := [zI (σ 24 0 l4.toNat), zI l4]) (S := []) (Lc := [zR 22 0, zI (σ 24 0 l4.toNat), zI l4]) (d' := 0) (n := 2) (g := 22) (x := 0) (ci := 2) kX2_otherEnd vX2_otherEnd lkX2_50 (by decide +kernel) (by decide) rfl rfl (by decide) rfl rfl (Nat.le_of_ble_eq_true rfl) rfl rfl (Nat.le_of_ble_eq_true rfl) (h.monoI (fun z2 σ1 h => ?_))
        refine r_blk [qO (.istore 7), qO (.iload 7), qO (.iconst (-1))] (pc' := 98) (L' := [zR 22 0, zI l1, zI l2, zI l3, zI l4, zI l5, zI (σ 24 0 l4.toNat), zI z2]) (S' := [zI (-1), zI z2]) (σ' := σ1) (Ps := []) (by decide +kernel) rfl trivial ?_
        refine r_icmp_eq (off := 78) (tgt := 176) (by decide +kernel) (by decide) (fun c => ?_) (fun c => ?_)
        · replace h := h.1 c
          refine r_blk [qO (.iinc 5 1), qO (.goto (-152))] (pc' := 27) (L' := [zR 22 0, zI l1, zI l2, zI l3, zI l4, zI (l5 + 1), zI (σ 24 0 l4.toNat), zI z2]) (S' := []) (σ' := σ1) (Ps := [-2147483648 ≤ l5 + 1 ∧ l5 + 1 ≤ 2147483647]) (by decide +kernel) rfl ⟨h.1, trivial⟩ ?_
          replace h := h.2
          exact Runs.fg (fgE (fgE (fgE (fgE (fgE (fgE (fgU (fgU fg0)))))))) h
        · replace h := h.2 c
          refine r_blk [qO (.iload_n 2), qO (.iload 6)] (pc' := 104) (L' := [zR 22 0, zI l1, zI l2, zI l3, zI l4, zI l5, zI (σ 24 0 l4.toNat), zI z2]) (S' := [zI (σ 24 0 l4.toNat), zI l2]) (σ' := σ1) (Ps := []) (by decide +kernel) rfl trivial ?_
          refine r_callNI (As := [zI l2, zI (σ 24 0 l4.toNat)]) (S := []) (Lc := [zI l2, zI (σ 24 0 l4.toNat)]) (d' := 0) (n := 2) kX10_bitOf vX10_bitOf lkX2_41 (by decide +kernel) (by decide) rfl rfl (Nat.le_of_ble_eq_true rfl) rfl rfl (Nat.le_of_ble_eq_true rfl) (h.monoI (fun z4 σ3 h => ?_))
          refine r_blk [qO (.iconst 1)] (pc' := 108) (L' := [zR 22 0, zI l1, zI l2, zI l3, zI l4, zI l5, zI (σ 24 0 l4.toNat), zI z2]) (S' := [zI 1, zI z4]) (σ' := σ3) (Ps := []) (by decide +kernel) rfl trivial ?_
          refine r_icmp_ne (off := 6) (tgt := 114) (by decide +kernel) (by decide) (fun c => ?_) (fun c => ?_)
          · replace h := h.1 c
            refine r_blk [qO (.iload_n 2), qO (.iconst 1), qO (.iload 6), qO .ishl, qO .ior, qO (.istore_n 2), qO (.iload_n 3), qO (.aload_n 0), qF (.getfield 18) 2 0, qF (.getfield 38) 6 8, qO (.iload 6), qO .iaload, qO (.iload 4)] (pc' := 134) (L' := [zR 22 0, zI l1, zI (zor l2 (zshl 1 (σ 24 0 l4.toNat))), zI l3, zI l4, zI l5, zI (σ 24 0 l4.toNat), zI z2]) (S' := [zI l4, zI (σ3 3 0 ((σ 24 0 l4.toNat).toNat)), zI l3]) (σ' := σ3) (Ps := [0 ≤ σ 24 0 l4.toNat ∧ σ 24 0 l4.toNat < 14]) (by decide +kernel) rfl ⟨h.1, trivial⟩ ?_
            replace h := h.2
            refine r_icmp_ne (off := 10) (tgt := 144) (by decide +kernel) (by decide) (fun c => ?_) (fun c => ?_)
            · replace h := h.1 c
              refine r_blk [qO (.iconst 0), qO .ior, qO (.istore_n 3), qO (.iload_n 1), qO (.iload 7)] (pc' := 150) (L' := [zR 22 0, zI l1, zI (zor l2 (zshl 1 (σ 24 0 l4.toNat))), zI (zor l3 0), zI l4, zI l5, zI (σ 24 0 l4.toNat), zI z2]) (S' := [zI z2, zI l1]) (σ' := σ3) (Ps := []) (by decide +kernel) rfl trivial ?_
              refine r_callNI (As := [zI l1, zI z2]) (S := []) (Lc := [zI l1, zI z2]) (d' := 0) (n := 2) kX10_bitOf vX10_bitOf lkX2_41 (by decide +kernel) (by decide) rfl rfl (Nat.le_of_ble_eq_true rfl) rfl rfl (Nat.le_of_ble_eq_true rfl) (h.monoI (fun z6 σ5 h => ?_))
              refine r_if_ne (off := 23) (tgt := 176) (by decide +kernel) (by decide) (fun c => ?_) (fun c => ?_)
              · replace h := h.1 c
                refine r_blk [qO (.iinc 5 1), qO (.goto (-152))] (pc' := 27) (L' := [zR 22 0, zI l1, zI (zor l2 (zshl 1 (σ 24 0 l4.toNat))), zI (zor l3 0), zI l4, zI (l5 + 1), zI (σ 24 0 l4.toNat), zI z2]) (S' := []) (σ' := σ5) (Ps := [-2147483648 ≤ l5 + 1 ∧ l5 + 1 ≤ 2147483647]) (by decide +kernel) rfl ⟨h.1, trivial⟩ ?_
                replace h := h.2
                exact Runs.fg (fgE (fgE (fgE (fgE (fgE (fgE (fgU (fgU fg0)))))))) h
              · replace h := h.2 c
                refine r_blk [qO (.iload_n 1), qO (.iconst 1), qO (.iload 7), qO .ishl, qO .ior, qO (.istore_n 1), qO (.aload_n 0), qF (.getfield 9) 2 1, qO (.iload 7), qO (.iload 4), qO .iastore, qO (.iload 7), qO (.istore 4), qO (.iinc 5 1), qO (.goto (-152))] (pc' := 27) (L' := [zR 22 0, zI (zor l1 (zshl 1 z2)), zI (zor l2 (zshl 1 (σ 24 0 l4.toNat))), zI (zor l3 0), zI z2, zI (l5 + 1), zI (σ 24 0 l4.toNat), zI z2]) (S' := []) (σ' := (zup σ5 23 0 z2.toNat l4)) (Ps := [0 ≤ z2 ∧ z2 < 10, -2147483648 ≤ l5 + 1 ∧ l5 + 1 ≤ 2147483647]) (by decide +kernel) rfl ⟨h.1, h.2.1, trivial⟩ ?_
                replace h := h.2.2
                exact Runs.fg (fgE (fgE (fgE (fgE (fgE (fgE (fgU (fgU fg0)))))))) h
            · replace h := h.2 c
              refine r_blk [qO (.iconst 1), qO (.iload 6), qO .ishl, qO (.goto 4), qO .ior, qO (.istore_n 3), qO (.iload_n 1), qO (.iload 7)] (pc' := 150) (L' := [zR 22 0, zI l1, zI (zor l2 (zshl 1 (σ 24 0 l4.toNat))), zI (zor l3 (zshl 1 (σ 24 0 l4.toNat))), zI l4, zI l5, zI (σ 24 0 l4.toNat), zI z2]) (S' := [zI z2, zI l1]) (σ' := σ3) (Ps := []) (by decide +kernel) rfl trivial ?_
              refine r_callNI (As := [zI l1, zI z2]) (S := []) (Lc := [zI l1, zI z2]) (d' := 0) (n := 2) kX10_bitOf vX10_bitOf lkX2_41 (by decide +kernel) (by decide) rfl rfl (Nat.le_of_ble_eq_true rfl) rfl rfl (Nat.le_of_ble_eq_true rfl) (h.monoI (fun z8 σ7 h => ?_))
              refine r_if_ne (off := 23) (tgt := 176) (by decide +kernel) (by decide) (fun c => ?_) (fun c => ?_)
              · replace h := h.1 c
                refine r_blk [qO (.iinc 5 1), qO (.goto (-152))] (pc' := 27) (L' := [zR 22 0, zI l1, zI (zor l2 (zshl 1 (σ 24 0 l4.toNat))), zI (zor l3 (zshl 1 (σ 24 0 l4.toNat))), zI l4, zI (l5 + 1), zI (σ 24 0 l4.toNat), zI z2]) (S' := []) (σ' := σ7) (Ps := [-2147483648 ≤ l5 + 1 ∧ l5 + 1 ≤ 2147483647]) (by decide +kernel) rfl ⟨h.1, trivial⟩ ?_
                replace h := h.2
                exact Runs.fg (fgE (fgE (fgE (fgE (fgE (fgE (fgU (fgU fg0)))))))) h
              · replace h := h.2 c
                refine r_blk [qO (.iload_n 1), qO (.iconst 1), qO (.iload 7), qO .ishl, qO .ior, qO (.istore_n 1), qO (.aload_n 0), qF (.getfield 9) 2 1, qO (.iload 7), qO (.iload 4), qO .iastore, qO (.iload 7), qO (.istore 4), qO (.iinc 5 1), qO (.goto (-152))] (pc' := 27) (L' := [zR 22 0, zI (zor l1 (zshl 1 z2)), zI (zor l2 (zshl 1 (σ 24 0 l4.toNat))), zI (zor l3 (zshl 1 (σ 24 0 l4.toNat))), zI z2, zI (l5 + 1), zI (σ 24 0 l4.toNat), zI z2]) (S' := []) (σ' := (zup σ7 23 0 z2.toNat l4)) (Ps := [0 ≤ z2 ∧ z2 < 10, -2147483648 ≤ l5 + 1 ∧ l5 + 1 ≤ 2147483647]) (by decide +kernel) rfl ⟨h.1, h.2.1, trivial⟩ ?_
                replace h := h.2.2
                exact Runs.fg (fgE (fgE (fgE (fgE (fgE (fgE (fgU (fgU fg0)))))))) h
          · replace h := h.2 c
            refine r_blk [qO (.goto 65), qO (.iinc 5 1), qO (.goto (-152))] (pc' := 27) (L' := [zR 22 0, zI l1, zI l2, zI l3, zI l4, zI (l5 + 1), zI (σ 24 0 l4.toNat), zI z2]) (S' := []) (σ' := σ3) (Ps := [-2147483648 ≤ l5 + 1 ∧ l5 + 1 ≤ 2147483647]) (by decide +kernel) rfl ⟨h.1, trivial⟩ ?_
            replace h := h.2
            exact Runs.fg (fgE (fgE (fgE (fgE (fgE (fgE (fgU (fgU fg0)))))))) h
      · replace h := h.2 c
        refine r_blk [qO (.aload_n 0), qF (.getfield 9) 2 1, qO (.iload 4), qO .iaload, qO (.istore 4), qO (.goto 105), qO (.iinc 5 1), qO (.goto (-152))] (pc' := 27) (L' := [zR 22 0, zI l1, zI l2, zI l3, zI (σ 23 0 l4.toNat), zI (l5 + 1), zI (σ 24 0 l4.toNat), zU]) (S' := []) (σ' := σ) (Ps := [0 ≤ l4 ∧ l4 < 10, -2147483648 ≤ l5 + 1 ∧ l5 + 1 ≤ 2147483647]) (by decide +kernel) rfl ⟨h.1, h.2.1, trivial⟩ ?_
        replace h := h.2.2
        exact Runs.fg (fgE (fgE (fgE (fgE (fgE (fgE (fgU (fgU fg0)))))))) h
theorem gX2_otherEnd_0 (a0 : Int) (a1 : Int) (σ : Hp) {Q : Option Int → Hp → Prop} (h : (0 ≤ a0 ∧ a0 < 14) ∧ ((¬ σ 2 0 a0.toNat = a1 → (0 ≤ a0 ∧ a0 < 14) ∧ ((¬ σ 3 0 a0.toNat = a1 → Q (some (-1)) σ) ∧ (σ 3 0 a0.toNat = a1 → (0 ≤ a0 ∧ a0 < 14) ∧ Q (some (σ 2 0 a0.toNat)) σ))) ∧ (σ 2 0 a0.toNat = a1 → (0 ≤ a0 ∧ a0 < 14) ∧ Q (some (σ 3 0 a0.toNat)) σ))) : Runs 0 mX2_otherEnd 0 [zR 22 0, zI a0, zI a1] [] σ Q := by
  refine r_blk [qO (.aload_n 0), qF (.getfield 18) 2 0, qF (.getfield 35) 6 7, qO (.iload_n 1), qO .iaload, qO (.iload_n 2)] (pc' := 10) (L' := [zR 22 0, zI a0, zI a1]) (S' := [zI a1, zI (σ 2 0 a0.toNat)]) (σ' := σ) (Ps := [0 ≤ a0 ∧ a0 < 14]) (by decide +kernel) rfl ⟨h.1, trivial⟩ ?_
  replace h := h.2
  refine r_icmp_ne (off := 13) (tgt := 23) (by decide +kernel) (by decide) (fun c => ?_) (fun c => ?_)
  · replace h := h.1 c
    refine r_blk [qO (.aload_n 0), qF (.getfield 18) 2 0, qF (.getfield 38) 6 8, qO (.iload_n 1), qO .iaload, qO (.iload_n 2)] (pc' := 33) (L' := [zR 22 0, zI a0, zI a1]) (S' := [zI a1, zI (σ 3 0 a0.toNat)]) (σ' := σ) (Ps := [0 ≤ a0 ∧ a0 < 14]) (by decide +kernel) rfl ⟨h.1, trivial⟩ ?_
    replace h := h.2
    refine r_icmp_ne (off := 15) (tgt := 48) (by decide +kernel) (by decide) (fun c => ?_) (fun c => ?_)
    · replace h := h.1 c
      refine r_blk [qO (.iconst (-1))] (pc' := 49) (L' := [zR 22 0, zI a0, zI a1]) (S' := [zI (-1)]) (σ' := σ) (Ps := []) (by decide +kernel) rfl trivial ?_
      exact r_ret (by decide +kernel) rfl (fun _ => h)
    · replace h := h.2 c
      refine r_blk [qO (.aload_n 0), qF (.getfield 18) 2 0, qF (.getfield 35) 6 7, qO (.iload_n 1), qO .iaload, qO (.goto 4)] (pc' := 49) (L' := [zR 22 0, zI a0, zI a1]) (S' := [zI (σ 2 0 a0.toNat)]) (σ' := σ) (Ps := [0 ≤ a0 ∧ a0 < 14]) (by decide +kernel) rfl ⟨h.1, trivial⟩ ?_
      replace h := h.2
      exact r_ret (by decide +kernel) rfl (fun _ => h)
  · replace h := h.2 c
    refine r_blk [qO (.aload_n 0), qF (.getfield 18) 2 0, qF (.getfield 38) 6 8, qO (.iload_n 1), qO .iaload] (pc' := 22) (L' := [zR 22 0, zI a0, zI a1]) (S' := [zI (σ 3 0 a0.toNat)]) (σ' := σ) (Ps := [0 ≤ a0 ∧ a0 < 14]) (by decide +kernel) rfl ⟨h.1, trivial⟩ ?_
    replace h := h.2
    exact r_ret (by decide +kernel) rfl (fun _ => h)
