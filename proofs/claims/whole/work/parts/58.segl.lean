theorem gX2_cornersFrom_0 (a0 : Int) (a1 : Int) (σ : Hp) {Q : Option Int → Hp → Prop} (h : Runs 0 mX2_cornersFrom 7 [zR 22 0, zU, zI a1, zI (zshl 1 a0), zI 0, zU, zU] [] σ Q) : Runs 0 mX2_cornersFrom 0 [zR 22 0, zI a0, zI a1, zU, zU, zU, zU] [] σ Q := by
  refine r_blk [qO (.iconst 1), qO (.iload_n 1), qO .ishl, qO (.istore_n 3), qO (.iconst 0), qO (.istore 4)] (pc' := 7) (L' := [zR 22 0, zI a0, zI a1, zI (zshl 1 a0), zI 0, zU, zU]) (S' := []) (σ' := σ) (Ps := []) (by decide +kernel) rfl trivial ?_
  exact Runs.fg (fgE (fgU (fgE (fgE (fgE (fgU (fgU fg0))))))) h
theorem gX2_cornersFrom_7 (l2 : Int) (l3 : Int) (l4 : Int) (σ : Hp) {Q : Option Int → Hp → Prop} (h : ((σ 1 0 0 ≤ l4 → Q (some l3) σ) ∧ (¬ σ 1 0 0 ≤ l4 → Runs 0 mX2_cornersFrom 22 [zR 22 0, zU, zI l2, zI l3, zI l4, zI 0, zU] [] σ Q))) : Runs 0 mX2_cornersFrom 7 [zR 22 0, zU, zI l2, zI l3, zI l4, zU, zU] [] σ Q := by
  refine r_blk [qO (.iload 4), qO (.aload_n 0), qF (.getfield 18) 2 0, qF (.getfield 26) 6 0] (pc' := 16) (L' := [zR 22 0, zU, zI l2, zI l3, zI l4, zU, zU]) (S' := [zI (σ 1 0 0), zI l4]) (σ' := σ) (Ps := []) (by decide +kernel) rfl trivial ?_
  refine r_icmp_ge (off := 79) (tgt := 95) (by decide +kernel) (by decide) (fun c => ?_) (fun c => ?_)
  · replace h := h.1 c
    refine r_blk [qO (.iload_n 3)] (pc' := 96) (L' := [zR 22 0, zU, zI l2, zI l3, zI l4, zU, zU]) (S' := [zI l3]) (σ' := σ) (Ps := []) (by decide +kernel) rfl trivial ?_
    exact r_ret (by decide +kernel) rfl (fun _ => h)
  · replace h := h.2 c
    refine r_blk [qO (.iconst 0), qO (.istore 5)] (pc' := 22) (L' := [zR 22 0, zU, zI l2, zI l3, zI l4, zI 0, zU]) (S' := []) (σ' := σ) (Ps := []) (by decide +kernel) rfl trivial ?_
    exact Runs.fg (fgE (fgU (fgE (fgE (fgE (fgE (fgU fg0))))))) h
theorem gX2_cornersFrom_22 (l2 : Int) (l3 : Int) (l4 : Int) (l5 : Int) (σ : Hp) {Q : Option Int → Hp → Prop} (h : ((σ 1 0 1 ≤ l5 → (-2147483648 ≤ l4 + 1 ∧ l4 + 1 ≤ 2147483647) ∧ Runs 0 mX2_cornersFrom 7 [zR 22 0, zU, zI l2, zI l3, zI (l4 + 1), zU, zU] [] σ Q) ∧ (¬ σ 1 0 1 ≤ l5 → (0 ≤ l5 ∧ l5 < 14) ∧ (0 ≤ l5 ∧ l5 < 14) ∧ ((l5 = l2 → (-2147483648 ≤ l5 + 1 ∧ l5 + 1 ≤ 2147483647) ∧ Runs 0 mX2_cornersFrom 22 [zR 22 0, zU, zI l2, zI (zor l3 0), zI l4, zI (l5 + 1), zU] [] σ Q) ∧ (¬ l5 = l2 → ((zand l3 (zor (zshl 1 (σ 2 0 l5.toNat)) (zshl 1 (σ 3 0 l5.toNat))) = 0 → (-2147483648 ≤ l5 + 1 ∧ l5 + 1 ≤ 2147483647) ∧ Runs 0 mX2_cornersFrom 22 [zR 22 0, zU, zI l2, zI (zor l3 0), zI l4, zI (l5 + 1), zU] [] σ Q) ∧ (¬ zand l3 (zor (zshl 1 (σ 2 0 l5.toNat)) (zshl 1 (σ 3 0 l5.toNat))) = 0 → (-2147483648 ≤ l5 + 1 ∧ l5 + 1 ≤ 2147483647) ∧ Runs 0 mX2_cornersFrom 22 [zR 22 0, zU, zI l2, zI (zor l3 (zor (zshl 1 (σ 2 0 l5.toNat)) (zshl 1 (σ 3 0 l5.toNat)))), zI l4, zI (l5 + 1), zU] [] σ Q))))))) : Runs 0 mX2_cornersFrom 22 [zR 22 0, zU, zI l2, zI l3, zI l4, zI l5, zU] [] σ Q := by
  refine r_blk [qO (.iload 5), qO (.aload_n 0), qF (.getfield 18) 2 0, qF (.getfield 32) 6 1] (pc' := 31) (L' := [zR 22 0, zU, zI l2, zI l3, zI l4, zI l5, zU]) (S' := [zI (σ 1 0 1), zI l5]) (σ' := σ) (Ps := []) (by decide +kernel) rfl trivial ?_
  refine r_icmp_ge (off := 58) (tgt := 89) (by decide +kernel) (by decide) (fun c => ?_) (fun c => ?_)
  · replace h := h.1 c
    refine r_blk [qO (.iinc 4 1), qO (.goto (-85))] (pc' := 7) (L' := [zR 22 0, zU, zI l2, zI l3, zI (l4 + 1), zI l5, zU]) (S' := []) (σ' := σ) (Ps := [-2147483648 ≤ l4 + 1 ∧ l4 + 1 ≤ 2147483647]) (by decide +kernel) rfl ⟨h.1, trivial⟩ ?_
    replace h := h.2
    exact Runs.fg (fgE (fgU (fgE (fgE (fgE (fgU (fgU fg0))))))) h
  · replace h := h.2 c
    refine r_blk [qO (.iconst 1), qO (.aload_n 0), qF (.getfield 18) 2 0, qF (.getfield 35) 6 7, qO (.iload 5), qO .iaload, qO .ishl, qO (.iconst 1), qO (.aload_n 0), qF (.getfield 18) 2 0, qF (.getfield 38) 6 8, qO (.iload 5), qO .iaload, qO .ishl, qO .ior, qO (.istore 6), qO (.iload_n 3), qO (.iload 5), qO (.iload_n 2)] (pc' := 65) (L' := [zR 22 0, zU, zI l2, zI l3, zI l4, zI l5, zI (zor (zshl 1 (σ 2 0 l5.toNat)) (zshl 1 (σ 3 0 l5.toNat)))]) (S' := [zI l2, zI l5, zI l3]) (σ' := σ) (Ps := [0 ≤ l5 ∧ l5 < 14, 0 ≤ l5 ∧ l5 < 14]) (by decide +kernel) rfl ⟨h.1, h.2.1, trivial⟩ ?_
    replace h := h.2.2
    refine r_icmp_eq (off := 15) (tgt := 80) (by decide +kernel) (by decide) (fun c => ?_) (fun c => ?_)
    · replace h := h.1 c
      refine r_blk [qO (.iconst 0), qO .ior, qO (.istore_n 3), qO (.iinc 5 1), qO (.goto (-64))] (pc' := 22) (L' := [zR 22 0, zU, zI l2, zI (zor l3 0), zI l4, zI (l5 + 1), zI (zor (zshl 1 (σ 2 0 l5.toNat)) (zshl 1 (σ 3 0 l5.toNat)))]) (S' := []) (σ' := σ) (Ps := [-2147483648 ≤ l5 + 1 ∧ l5 + 1 ≤ 2147483647]) (by decide +kernel) rfl ⟨h.1, trivial⟩ ?_
      replace h := h.2
      exact Runs.fg (fgE (fgU (fgE (fgE (fgE (fgE (fgU fg0))))))) h
    · replace h := h.2 c
      refine r_blk [qO (.iload_n 3), qO (.iload 6), qO .iand] (pc' := 72) (L' := [zR 22 0, zU, zI l2, zI l3, zI l4, zI l5, zI (zor (zshl 1 (σ 2 0 l5.toNat)) (zshl 1 (σ 3 0 l5.toNat)))]) (S' := [zI (zand l3 (zor (zshl 1 (σ 2 0 l5.toNat)) (zshl 1 (σ 3 0 l5.toNat)))), zI l3]) (σ' := σ) (Ps := []) (by decide +kernel) rfl trivial ?_
      refine r_if_eq (off := 8) (tgt := 80) (by decide +kernel) (by decide) (fun c => ?_) (fun c => ?_)
      · replace h := h.1 c
        refine r_blk [qO (.iconst 0), qO .ior, qO (.istore_n 3), qO (.iinc 5 1), qO (.goto (-64))] (pc' := 22) (L' := [zR 22 0, zU, zI l2, zI (zor l3 0), zI l4, zI (l5 + 1), zI (zor (zshl 1 (σ 2 0 l5.toNat)) (zshl 1 (σ 3 0 l5.toNat)))]) (S' := []) (σ' := σ) (Ps := [-2147483648 ≤ l5 + 1 ∧ l5 + 1 ≤ 2147483647]) (by decide +kernel) rfl ⟨h.1, trivial⟩ ?_
        replace h := h.2
        exact Runs.fg (fgE (fgU (fgE (fgE (fgE (fgE (fgU fg0))))))) h
      · replace h := h.2 c
        refine r_blk [qO (.iload 6), qO (.goto 4), qO .ior, qO (.istore_n 3), qO (.iinc 5 1), qO (.goto (-64))] (pc' := 22) (L' := [zR 22 0, zU, zI l2, zI (zor l3 (zor (zshl 1 (σ 2 0 l5.toNat)) (zshl 1 (σ 3 0 l5.toNat)))), zI l4, zI (l5 + 1), zI (zor (zshl 1 (σ 2 0 l5.toNat)) (zshl 1 (σ 3 0 l5.toNat)))]) (S' := []) (σ' := σ) (Ps := [-2147483648 ≤ l5 + 1 ∧ l5 + 1 ≤ 2147483647]) (by decide +kernel) rfl ⟨h.1, trivial⟩ ?_
        replace h := h.2
        exact Runs.fg (fgE (fgU (fgE (fgE (fgE (fgE (fgU fg0))))))) h
theorem gX2_hangsTogether_0 (σ : Hp) {Q : Option Int → Hp → Prop} (h : Runs 0 mX2_cornersFrom 0 [zR 22 0, zI 0, zI (-1), zU, zU, zU, zU] [] σ (rI (fun z2 σ1 => (-2147483648 ≤ (zshl 1 (σ1 1 0 0)) - 1 ∧ (zshl 1 (σ1 1 0 0)) - 1 ≤ 2147483647) ∧ ((¬ z2 = (zshl 1 (σ1 1 0 0)) - 1 → Q (some 0) σ1) ∧ (z2 = (zshl 1 (σ1 1 0 0)) - 1 → Q (some 1) σ1))))) : Runs 1 mX2_hangsTogether 0 [zR 22 0] [] σ Q := by
  refine r_blk [qO (.aload_n 0), qO (.iconst 0), qO (.iconst (-1))] (pc' := 3) (L' := [zR 22 0]) (S' := [zI (-1), zI 0, zR 22 0]) (σ' := σ) (Ps := []) (by decide +kernel) rfl trivial ?_
  refine r_callVI (As := [zI 0, zI (-1)]) (S := []) (Lc := [zR 22 0, zI 0, zI (-1), zU, zU, zU, zU]) (d' := 0) (n := 2) (g := 22) (x := 0) (ci := 2) kX2_cornersFrom vX2_cornersFrom lkX2_22 (by decide +kernel) (by decide) rfl rfl (by decide) rfl rfl (Nat.le_of_ble_eq_true rfl) rfl rfl (Nat.le_of_ble_eq_true rfl) (h.monoI (fun z2 σ1 h => ?_))
  refine r_blk [qO (.iconst 1), qO (.aload_n 0), qF (.getfield 18) 2 0, qF (.getfield 26) 6 0, qO .ishl, qO (.iconst 1), qO .isub] (pc' := 17) (L' := [zR 22 0]) (S' := [zI ((zshl 1 (σ1 1 0 0)) - 1), zI z2]) (σ' := σ1) (Ps := [-2147483648 ≤ (zshl 1 (σ1 1 0 0)) - 1 ∧ (zshl 1 (σ1 1 0 0)) - 1 ≤ 2147483647]) (by decide +kernel) rfl ⟨h.1, trivial⟩ ?_
  replace h := h.2
  refine r_icmp_ne (off := 7) (tgt := 24) (by decide +kernel) (by decide) (fun c => ?_) (fun c => ?_)
  · replace h := h.1 c
    refine r_blk [qO (.iconst 0)] (pc' := 25) (L' := [zR 22 0]) (S' := [zI 0]) (σ' := σ1) (Ps := []) (by decide +kernel) rfl trivial ?_
    exact r_retz (by decide +kernel) rfl (by decide) h
  · replace h := h.2 c
    refine r_blk [qO (.iconst 1), qO (.goto 4)] (pc' := 25) (L' := [zR 22 0]) (S' := [zI 1]) (σ' := σ1) (Ps := []) (by decide +kernel) rfl trivial ?_
    exact r_retz (by decide +kernel) rfl (by decide) h
theorem gX2_bridgeOnes_0 (σ : Hp) {Q : Option Int → Hp → Prop} (h : Runs 1 mX2_bridgeOnes 4 [zR 22 0, zI 0, zI 0, zU] [] σ Q) : Runs 1 mX2_bridgeOnes 0 [zR 22 0, zU, zU, zU] [] σ Q := by
  refine r_blk [qO (.iconst 0), qO (.istore_n 1), qO (.iconst 0), qO (.istore_n 2)] (pc' := 4) (L' := [zR 22 0, zI 0, zI 0, zU]) (S' := []) (σ' := σ) (Ps := []) (by decide +kernel) rfl trivial ?_
  exact Runs.fg (fgE (fgE (fgE (fgU fg0)))) h
theorem gX2_bridgeOnes_4 (l1 : Int) (l2 : Int) (σ : Hp) {Q : Option Int → Hp → Prop} (h : ((σ 1 0 1 ≤ l2 → Q (some l1) σ) ∧ (¬ σ 1 0 1 ≤ l2 → (0 ≤ l2 ∧ l2 < 14) ∧ Runs 0 mX2_cornersFrom 0 [zR 22 0, zI (σ 2 0 l2.toNat), zI l2, zU, zU, zU, zU] [] σ (rI (fun z2 σ1 => (0 ≤ l2 ∧ l2 < 14) ∧ ((¬ bitz z2 (σ1 3 0 l2.toNat) = 0 → (-2147483648 ≤ l2 + 1 ∧ l2 + 1 ≤ 2147483647) ∧ Runs 1 mX2_bridgeOnes 4 [zR 22 0, zI (zor l1 0), zI (l2 + 1), zU] [] σ1 Q) ∧ (bitz z2 (σ1 3 0 l2.toNat) = 0 → (-2147483648 ≤ l2 + 1 ∧ l2 + 1 ≤ 2147483647) ∧ Runs 1 mX2_bridgeOnes 4 [zR 22 0, zI (zor l1 (zshl 1 l2)), zI (l2 + 1), zU] [] σ1 Q))))))) : Runs 1 mX2_bridgeOnes 4 [zR 22 0, zI l1, zI l2, zU] [] σ Q := by
  refine r_blk [qO (.iload_n 2), qO (.aload_n 0), qF (.getfield 18) 2 0, qF (.getfield 32) 6 1] (pc' := 12) (L' := [zR 22 0, zI l1, zI l2, zU]) (S' := [zI (σ 1 0 1), zI l2]) (σ' := σ) (Ps := []) (by decide +kernel) rfl trivial ?_
  refine r_icmp_ge (off := 50) (tgt := 62) (by decide +kernel) (by decide) (fun c => ?_) (fun c => ?_)
  · replace h := h.1 c
    refine r_blk [qO (.iload_n 1)] (pc' := 63) (L' := [zR 22 0, zI l1, zI l2, zU]) (S' := [zI l1]) (σ' := σ) (Ps := []) (by decide +kernel) rfl trivial ?_
    exact r_ret (by decide +kernel) rfl (fun _ => h)
  · replace h := h.2 c
    refine r_blk [qO (.aload_n 0), qO (.aload_n 0), qF (.getfield 18) 2 0, qF (.getfield 35) 6 7, qO (.iload_n 2), qO .iaload, qO (.iload_n 2)] (pc' := 26) (L' := [zR 22 0, zI l1, zI l2, zU]) (S' := [zI l2, zI (σ 2 0 l2.toNat), zR 22 0]) (σ' := σ) (Ps := [0 ≤ l2 ∧ l2 < 14]) (by decide +kernel) rfl ⟨h.1, trivial⟩ ?_
    replace h := h.2
    refine r_callVI (As := [zI (σ 2 0 l2.toNat), zI l2]) (S := []) (Lc := [zR 22 0, zI (σ 2 0 l2.toNat), zI l2, zU, zU, zU, zU]) (d' := 0) (n := 2) (g := 22) (x := 0) (ci := 2) kX2_cornersFrom vX2_cornersFrom lkX2_22 (by decide +kernel) (by decide) rfl rfl (by decide) rfl rfl (Nat.le_of_ble_eq_true rfl) rfl rfl (Nat.le_of_ble_eq_true rfl) (h.monoI (fun z2 σ1 h => ?_))
    refine r_blk [qO (.istore_n 3), qO (.iload_n 1), qO (.iload_n 3), qO (.aload_n 0), qF (.getfield 18) 2 0, qF (.getfield 38) 6 8, qO (.iload_n 2), qO .iaload] (pc' := 41) (L' := [zR 22 0, zI l1, zI l2, zI z2]) (S' := [zI (σ1 3 0 l2.toNat), zI z2, zI l1]) (σ' := σ1) (Ps := [0 ≤ l2 ∧ l2 < 14]) (by decide +kernel) rfl ⟨h.1, trivial⟩ ?_
    replace h := h.2
    refine r_callNI (As := [zI z2, zI (σ1 3 0 l2.toNat)]) (S := [zI l1]) (Lc := [zI z2, zI (σ1 3 0 l2.toNat)]) (d' := 0) (n := 2) kX10_bitOf vX10_bitOf lkX2_41 (by decide +kernel) (by decide) rfl rfl (Nat.le_of_ble_eq_true rfl) rfl rfl (Nat.le_of_ble_eq_true rfl) (pX10_bitOf  ?_)
    refine r_if_ne (off := 9) (tgt := 53) (by decide +kernel) (by decide) (fun c => ?_) (fun c => ?_)
    · replace h := h.1 c
      refine r_blk [qO (.iconst 0), qO .ior, qO (.istore_n 1), qO (.iinc 2 1), qO (.goto (-55))] (pc' := 4) (L' := [zR 22 0, zI (zor l1 0), zI (l2 + 1), zI z2]) (S' := []) (σ' := σ1) (Ps := [-2147483648 ≤ l2 + 1 ∧ l2 + 1 ≤ 2147483647]) (by decide +kernel) rfl ⟨h.1, trivial⟩ ?_
      replace h := h.2
      exact Runs.fg (fgE (fgE (fgE (fgU fg0)))) h
    · replace h := h.2 c
      refine r_blk [qO (.iconst 1), qO (.iload_n 2), qO .ishl, qO (.goto 4), qO .ior, qO (.istore_n 1), qO (.iinc 2 1), qO (.goto (-55))] (pc' := 4) (L' := [zR 22 0, zI (zor l1 (zshl 1 l2)), zI (l2 + 1), zI z2]) (S' := []) (σ' := σ1) (Ps := [-2147483648 ≤ l2 + 1 ∧ l2 + 1 ≤ 2147483647]) (by decide +kernel) rfl ⟨h.1, trivial⟩ ?_
      replace h := h.2
      exact Runs.fg (fgE (fgE (fgE (fgU fg0)))) h
theorem gX2_walkThrough_0 (σ : Hp) {Q : Option Int → Hp → Prop} (h : Runs 0 mJ7_fill_53178 0 [zR 24 0, zI 0, zU, zU] [] σ (rV (fun σ1 => Runs 1 mX2_walkThrough 27 [zR 22 0, zI 1, zI 0, zI 0, zI 0, zI 0, zU, zU] [] (zup σ1 23 0 0 (-1)) Q))) : Runs 1 mX2_walkThrough 0 [zR 22 0, zU, zU, zU, zU, zU, zU, zU] [] σ Q := by
  refine r_blk [qO (.aload_n 0), qF (.getfield 15) 2 2, qO (.iconst 0)] (pc' := 5) (L' := [zR 22 0, zU, zU, zU, zU, zU, zU, zU]) (S' := [zI 0, zR 24 0]) (σ' := σ) (Ps := []) (by decide +kernel) rfl trivial ?_
  refine r_callSV (As := [zR 24 0, zI 0]) (S := []) (Lc := [zR 24 0, zI 0, zU, zU]) (d' := 0) (n := 2) kJ7_fill_53178 vJ7_fill_53178 lkX2_44 (by decide +kernel) (by decide) rfl rfl (Nat.le_of_ble_eq_true rfl) rfl rfl (Nat.le_of_ble_eq_true rfl) (h.monoV (fun σ1 h => ?_))
  refine r_blk [qO (.aload_n 0), qF (.getfield 9) 2 1, qO (.iconst 0), qO (.iconst (-1)), qO .iastore, qO (.iconst 1), qO (.istore_n 1), qO (.iconst 0), qO (.istore_n 2), qO (.iconst 0), qO (.istore_n 3), qO (.iconst 0), qO (.istore 4), qO (.iconst 0), qO (.istore 5)] (pc' := 27) (L' := [zR 22 0, zI 1, zI 0, zI 0, zI 0, zI 0, zU, zU]) (S' := []) (σ' := (zup σ1 23 0 0 (-1))) (Ps := [0 ≤ 0 ∧ 0 < 10]) (by decide +kernel) rfl ⟨(by decide), trivial⟩ ?_
  exact Runs.fg (fgE (fgE (fgE (fgE (fgE (fgE (fgU (fgU fg0)))))))) h
theorem gX2_walkThrough_27 (l1 : Int) (l2 : Int) (l3 : Int) (l4 : Int) (l5 : Int) (σ : Hp) {Q : Option Int → Hp → Prop} (h : ((150 ≤ l5 → Q (some l3) σ) ∧ (¬ 150 ≤ l5 → ((l4 = (-1) → Q (some l3) σ) ∧ (¬ l4 = (-1) → (0 ≤ l4 ∧ l4 < 10) ∧ ((σ 24 0 l4.toNat < σ 1 0 1 → (0 ≤ l4 ∧ l4 < 10) ∧ (-2147483648 ≤ (σ 24 0 l4.toNat) + 1 ∧ (σ 24 0 l4.toNat) + 1 ≤ 2147483647) ∧ (0 ≤ l4 ∧ l4 < 10) ∧ (0 ≤ (σ 24 0 l4.toNat) ∧ (σ 24 0 l4.toNat) < 14) ∧ ∀ z1 : Int, z1 = zother (zup σ 24 0 l4.toNat ((σ 24 0 l4.toNat) + 1)) (σ 24 0 l4.toNat) l4 → ((z1 = (-1) → (-2147483648 ≤ l5 + 1 ∧ l5 + 1 ≤ 2147483647) ∧ Runs 1 mX2_walkThrough 27 [zR 22 0, zI l1, zI l2, zI l3, zI l4, zI (l5 + 1), zU, zU] [] (zup σ 24 0 l4.toNat ((σ 24 0 l4.toNat) + 1)) Q) ∧ (¬ z1 = (-1) → ((¬ bitz l2 (σ 24 0 l4.toNat) = 1 → (0 ≤ σ 24 0 l4.toNat ∧ σ 24 0 l4.toNat < 14) ∧ ((¬ σ 3 0 ((σ 24 0 l4.toNat).toNat) = l4 → ((¬ bitz l1 z1 = 0 → (-2147483648 ≤ l5 + 1 ∧ l5 + 1 ≤ 2147483647) ∧ Runs 1 mX2_walkThrough 27 [zR 22 0, zI l1, zI (zor l2 (zshl 1 (σ 24 0 l4.toNat))), zI (zor l3 0), zI l4, zI (l5 + 1), zU, zU] [] (zup σ 24 0 l4.toNat ((σ 24 0 l4.toNat) + 1)) Q) ∧ (bitz l1 z1 = 0 → (0 ≤ z1 ∧ z1 < 10) ∧ (-2147483648 ≤ l5 + 1 ∧ l5 + 1 ≤ 2147483647) ∧ Runs 1 mX2_walkThrough 27 [zR 22 0, zI (zor l1 (zshl 1 z1)), zI (zor l2 (zshl 1 (σ 24 0 l4.toNat))), zI (zor l3 0), zI z1, zI (l5 + 1), zU, zU] [] (zup (zup σ 24 0 l4.toNat ((σ 24 0 l4.toNat) + 1)) 23 0 z1.toNat l4) Q))) ∧ (σ 3 0 ((σ 24 0 l4.toNat).toNat) = l4 → ((¬ bitz l1 z1 = 0 → (-2147483648 ≤ l5 + 1 ∧ l5 + 1 ≤ 2147483647) ∧ Runs 1 mX2_walkThrough 27 [zR 22 0, zI l1, zI (zor l2 (zshl 1 (σ 24 0 l4.toNat))), zI (zor l3 (zshl 1 (σ 24 0 l4.toNat))), zI l4, zI (l5 + 1), zU, zU] [] (zup σ 24 0 l4.toNat ((σ 24 0 l4.toNat) + 1)) Q) ∧ (bitz l1 z1 = 0 → (0 ≤ z1 ∧ z1 < 10) ∧ (-2147483648 ≤ l5 + 1 ∧ l5 + 1 ≤ 2147483647) ∧ Runs 1 mX2_walkThrough 27 [zR 22 0, zI (zor l1 (zshl 1 z1)), zI (zor l2 (zshl 1 (σ 24 0 l4.toNat))), zI (zor l3 (zshl 1 (σ 24 0 l4.toNat))), zI z1, zI (l5 + 1), zU, zU] [] (zup (zup σ 24 0 l4.toNat ((σ 24 0 l4.toNat) + 1)) 23 0 z1.toNat l4) Q))))) ∧ (bitz l2 (σ 24 0 l4.toNat) = 1 → (-2147483648 ≤ l5 + 1 ∧ l5 + 1 ≤ 2147483647) ∧ Runs 1 mX2_walkThrough 27 [zR 22 0, zI l1, zI l2, zI l3, zI l4, zI (l5 + 1), zU, zU] [] (zup σ 24 0 l4.toNat ((σ 24 0 l4.toNat) + 1)) Q))))) ∧ (¬ σ 24 0 l4.toNat < σ 1 0 1 → (0 ≤ l4 ∧ l4 < 10) ∧ (-2147483648 ≤ l5 + 1 ∧ l5 + 1 ≤ 2147483647) ∧ Runs 1 mX2_walkThrough 27 [zR 22 0, zI l1, zI l2, zI l3, zI (σ 23 0 l4.toNat), zI (l5 + 1), zU, zU] [] σ Q))))))) : Runs 1 mX2_walkThrough 27 [zR 22 0, zI l1, zI l2, zI l3, zI l4, zI l5, zU, zU] [] σ Q := by
  refine r_blk [qO (.iload 5), qO (.sipush 150)] (pc' := 32) (L' := [zR 22 0, zI l1, zI l2, zI l3, zI l4, zI l5, zU, zU]) (S' := [zI 150, zI l5]) (σ' := σ) (Ps := []) (by decide +kernel) rfl trivial ?_
  refine r_icmp_ge (off := 150) (tgt := 182) (by decide +kernel) (by decide) (fun c => ?_) (fun c => ?_)
  · replace h := h.1 c
    refine r_blk [qO (.iload_n 3)] (pc' := 183) (L' := [zR 22 0, zI l1, zI l2, zI l3, zI l4, zI l5, zU, zU]) (S' := [zI l3]) (σ' := σ) (Ps := []) (by decide +kernel) rfl trivial ?_
    exact r_ret (by decide +kernel) rfl (fun _ => h)
  · replace h := h.2 c
    refine r_blk [qO (.iload 4), qO (.iconst (-1))] (pc' := 38) (L' := [zR 22 0, zI l1, zI l2, zI l3, zI l4, zI l5, zU, zU]) (S' := [zI (-1), zI l4]) (σ' := σ) (Ps := []) (by decide +kernel) rfl trivial ?_
    refine r_icmp_eq (off := 144) (tgt := 182) (by decide +kernel) (by decide) (fun c => ?_) (fun c => ?_)
    · replace h := h.1 c
      refine r_blk [qO (.iload_n 3)] (pc' := 183) (L' := [zR 22 0, zI l1, zI l2, zI l3, zI l4, zI l5, zU, zU]) (S' := [zI l3]) (σ' := σ) (Ps := []) (by decide +kernel) rfl trivial ?_
      exact r_ret (by decide +kernel) rfl (fun _ => h)
    · replace h := h.2 c
      refine r_blk [qO (.aload_n 0), qF (.getfield 15) 2 2, qO (.iload 4), qO .iaload, qO (.istore 6), qO (.iload 6), qO (.aload_n 0), qF (.getfield 18) 2 0, qF (.getfield 32) 6 1] (pc' := 59) (L' := [zR 22 0, zI l1, zI l2, zI l3, zI l4, zI l5, zI (σ 24 0 l4.toNat), zU]) (S' := [zI (σ 1 0 1), zI (σ 24 0 l4.toNat)]) (σ' := σ) (Ps := [0 ≤ l4 ∧ l4 < 10]) (by decide +kernel) rfl ⟨h.1, trivial⟩ ?_
      replace h := h.2
      refine r_icmp_lt (off := 15) (tgt := 74) (by decide +kernel) (by decide) (fun c => ?_) (fun c => ?_)
      · replace h := h.1 c
        refine r_blk [qO (.aload_n 0), qF (.getfield 15) 2 2, qO (.iload 4), qO .dup2, qO .iaload, qO (.iconst 1), qO .iadd, qO .iastore, qO (.aload_n 0), qO (.iload 6), qO (.iload 4)] (pc' := 90) (L' := [zR 22 0, zI l1, zI l2, zI l3, zI l4, zI l5, zI (σ 24 0 l4.toNat), zU]) (S' := [zI l4, zI (σ 24 0 l4.toNat), zR 22 0]) (σ' := (zup σ 24 0 l4.toNat ((σ 24 0 l4.toNat) + 1))) (Ps := [0 ≤ l4 ∧ l4 < 10, -2147483648 ≤ (σ 24 0 l4.toNat) + 1 ∧ (σ 24 0 l4.toNat) + 1 ≤ 2147483647, 0 ≤ l4 ∧ l4 < 10]) (by decide +kernel) rfl ⟨h.1, h.2.1, h.2.2.1, trivial⟩ ?_
        replace h := h.2.2.2
        refine r_callVI (As := [zI (σ 24 0 l4.toNat), zI l4]) (S := []) (Lc := [zR 22 0, zI (σ 24 0 l4.toNat), zI l4]) (d' := 0) (n := 2) (g := 22) (x := 0) (ci := 2) kX2_otherEnd vX2_otherEnd lkX2_50 (by decide +kernel) (by decide) rfl rfl (by decide) rfl rfl (Nat.le_of_ble_eq_true rfl) rfl rfl (Nat.le_of_ble_eq_true rfl) (pX2_otherEnd h.1 ?_)
        replace h := h.2
        generalize hz1 : zother (zup σ 24 0 l4.toNat ((σ 24 0 l4.toNat) + 1)) (σ 24 0 l4.toNat) l4 = z1
        replace h := h z1 hz1.symm
        refine r_blk [qO (.istore 7), qO (.iload 7), qO (.iconst (-1))] (pc' := 98) (L' := [zR 22 0, zI l1, zI l2, zI l3, zI l4, zI l5, zI (σ 24 0 l4.toNat), zI z1]) (S' := [zI (-1), zI z1]) (σ' := (zup σ 24 0 l4.toNat ((σ 24 0 l4.toNat) + 1))) (Ps := []) (by decide +kernel) rfl trivial ?_
        refine r_icmp_eq (off := 78) (tgt := 176) (by decide +kernel) (by decide) (fun c => ?_) (fun c => ?_)
        · replace h := h.1 c
          refine r_blk [qO (.iinc 5 1), qO (.goto (-152))] (pc' := 27) (L' := [zR 22 0, zI l1, zI l2, zI l3, zI l4, zI (l5 + 1), zI (σ 24 0 l4.toNat), zI z1]) (S' := []) (σ' := (zup σ 24 0 l4.toNat ((σ 24 0 l4.toNat) + 1))) (Ps := [-2147483648 ≤ l5 + 1 ∧ l5 + 1 ≤ 2147483647]) (by decide +kernel) rfl ⟨h.1, trivial⟩ ?_
          replace h := h.2
          exact Runs.fg (fgE (fgE (fgE (fgE (fgE (fgE (fgU (fgU fg0)))))))) h
        · replace h := h.2 c
          refine r_blk [qO (.iload_n 2), qO (.iload 6)] (pc' := 104) (L' := [zR 22 0, zI l1, zI l2, zI l3, zI l4, zI l5, zI (σ 24 0 l4.toNat), zI z1]) (S' := [zI (σ 24 0 l4.toNat), zI l2]) (σ' := (zup σ 24 0 l4.toNat ((σ 24 0 l4.toNat) + 1))) (Ps := []) (by decide +kernel) rfl trivial ?_
          refine r_callNI (As := [zI l2, zI (σ 24 0 l4.toNat)]) (S := []) (Lc := [zI l2, zI (σ 24 0 l4.toNat)]) (d' := 0) (n := 2) kX10_bitOf vX10_bitOf lkX2_41 (by decide +kernel) (by decide) rfl rfl (Nat.le_of_ble_eq_true rfl) rfl rfl (Nat.le_of_ble_eq_true rfl) (pX10_bitOf  ?_)
          refine r_blk [qO (.iconst 1)] (pc' := 108) (L' := [zR 22 0, zI l1, zI l2, zI l3, zI l4, zI l5, zI (σ 24 0 l4.toNat), zI z1]) (S' := [zI 1, zI (bitz l2 (σ 24 0 l4.toNat))]) (σ' := (zup σ 24 0 l4.toNat ((σ 24 0 l4.toNat) + 1))) (Ps := []) (by decide +kernel) rfl trivial ?_
          refine r_icmp_ne (off := 6) (tgt := 114) (by decide +kernel) (by decide) (fun c => ?_) (fun c => ?_)
          · replace h := h.1 c
            refine r_blk [qO (.iload_n 2), qO (.iconst 1), qO (.iload 6), qO .ishl, qO .ior, qO (.istore_n 2), qO (.iload_n 3), qO (.aload_n 0), qF (.getfield 18) 2 0, qF (.getfield 38) 6 8, qO (.iload 6), qO .iaload, qO (.iload 4)] (pc' := 134) (L' := [zR 22 0, zI l1, zI (zor l2 (zshl 1 (σ 24 0 l4.toNat))), zI l3, zI l4, zI l5, zI (σ 24 0 l4.toNat), zI z1]) (S' := [zI l4, zI (σ 3 0 ((σ 24 0 l4.toNat).toNat)), zI l3]) (σ' := (zup σ 24 0 l4.toNat ((σ 24 0 l4.toNat) + 1))) (Ps := [0 ≤ σ 24 0 l4.toNat ∧ σ 24 0 l4.toNat < 14]) (by decide +kernel) rfl ⟨h.1, trivial⟩ ?_
            replace h := h.2
            refine r_icmp_ne (off := 10) (tgt := 144) (by decide +kernel) (by decide) (fun c => ?_) (fun c => ?_)
            · replace h := h.1 c
              refine r_blk [qO (.iconst 0), qO .ior, qO (.istore_n 3), qO (.iload_n 1), qO (.iload 7)] (pc' := 150) (L' := [zR 22 0, zI l1, zI (zor l2 (zshl 1 (σ 24 0 l4.toNat))), zI (zor l3 0), zI l4, zI l5, zI (σ 24 0 l4.toNat), zI z1]) (S' := [zI z1, zI l1]) (σ' := (zup σ 24 0 l4.toNat ((σ 24 0 l4.toNat) + 1))) (Ps := []) (by decide +kernel) rfl trivial ?_
              refine r_callNI (As := [zI l1, zI z1]) (S := []) (Lc := [zI l1, zI z1]) (d' := 0) (n := 2) kX10_bitOf vX10_bitOf lkX2_41 (by decide +kernel) (by decide) rfl rfl (Nat.le_of_ble_eq_true rfl) rfl rfl (Nat.le_of_ble_eq_true rfl) (pX10_bitOf  ?_)
              refine r_if_ne (off := 23) (tgt := 176) (by decide +kernel) (by decide) (fun c => ?_) (fun c => ?_)
              · replace h := h.1 c
                refine r_blk [qO (.iinc 5 1), qO (.goto (-152))] (pc' := 27) (L' := [zR 22 0, zI l1, zI (zor l2 (zshl 1 (σ 24 0 l4.toNat))), zI (zor l3 0), zI l4, zI (l5 + 1), zI (σ 24 0 l4.toNat), zI z1]) (S' := []) (σ' := (zup σ 24 0 l4.toNat ((σ 24 0 l4.toNat) + 1))) (Ps := [-2147483648 ≤ l5 + 1 ∧ l5 + 1 ≤ 2147483647]) (by decide +kernel) rfl ⟨h.1, trivial⟩ ?_
                replace h := h.2
                exact Runs.fg (fgE (fgE (fgE (fgE (fgE (fgE (fgU (fgU fg0)))))))) h
              · replace h := h.2 c
                refine r_blk [qO (.iload_n 1), qO (.iconst 1), qO (.iload 7), qO .ishl, qO .ior, qO (.istore_n 1), qO (.aload_n 0), qF (.getfield 9) 2 1, qO (.iload 7), qO (.iload 4), qO .iastore, qO (.iload 7), qO (.istore 4), qO (.iinc 5 1), qO (.goto (-152))] (pc' := 27) (L' := [zR 22 0, zI (zor l1 (zshl 1 z1)), zI (zor l2 (zshl 1 (σ 24 0 l4.toNat))), zI (zor l3 0), zI z1, zI (l5 + 1), zI (σ 24 0 l4.toNat), zI z1]) (S' := []) (σ' := (zup (zup σ 24 0 l4.toNat ((σ 24 0 l4.toNat) + 1)) 23 0 z1.toNat l4)) (Ps := [0 ≤ z1 ∧ z1 < 10, -2147483648 ≤ l5 + 1 ∧ l5 + 1 ≤ 2147483647]) (by decide +kernel) rfl ⟨h.1, h.2.1, trivial⟩ ?_
                replace h := h.2.2
                exact Runs.fg (fgE (fgE (fgE (fgE (fgE (fgE (fgU (fgU fg0)))))))) h
            · replace h := h.2 c
              refine r_blk [qO (.iconst 1), qO (.iload 6), qO .ishl, qO (.goto 4), qO .ior, qO (.istore_n 3), qO (.iload_n 1), qO (.iload 7)] (pc' := 150) (L' := [zR 22 0, zI l1, zI (zor l2 (zshl 1 (σ 24 0 l4.toNat))), zI (zor l3 (zshl 1 (σ 24 0 l4.toNat))), zI l4, zI l5, zI (σ 24 0 l4.toNat), zI z1]) (S' := [zI z1, zI l1]) (σ' := (zup σ 24 0 l4.toNat ((σ 24 0 l4.toNat) + 1))) (Ps := []) (by decide +kernel) rfl trivial ?_
              refine r_callNI (As := [zI l1, zI z1]) (S := []) (Lc := [zI l1, zI z1]) (d' := 0) (n := 2) kX10_bitOf vX10_bitOf lkX2_41 (by decide +kernel) (by decide) rfl rfl (Nat.le_of_ble_eq_true rfl) rfl rfl (Nat.le_of_ble_eq_true rfl) (pX10_bitOf  ?_)
              refine r_if_ne (off := 23) (tgt := 176) (by decide +kernel) (by decide) (fun c => ?_) (fun c => ?_)
              · replace h := h.1 c
                refine r_blk [qO (.iinc 5 1), qO (.goto (-152))] (pc' := 27) (L' := [zR 22 0, zI l1, zI (zor l2 (zshl 1 (σ 24 0 l4.toNat))), zI (zor l3 (zshl 1 (σ 24 0 l4.toNat))), zI l4, zI (l5 + 1), zI (σ 24 0 l4.toNat), zI z1]) (S' := []) (σ' := (zup σ 24 0 l4.toNat ((σ 24 0 l4.toNat) + 1))) (Ps := [-2147483648 ≤ l5 + 1 ∧ l5 + 1 ≤ 2147483647]) (by decide +kernel) rfl ⟨h.1, trivial⟩ ?_
                replace h := h.2
                exact Runs.fg (fgE (fgE (fgE (fgE (fgE (fgE (fgU (fgU fg0)))))))) h
              · replace h := h.2 c
                refine r_blk [qO (.iload_n 1), qO (.iconst 1), qO (.iload 7), qO .ishl, qO .ior, qO (.istore_n 1), qO (.aload_n 0), qF (.getfield 9) 2 1, qO (.iload 7), qO (.iload 4), qO .iastore, qO (.iload 7), qO (.istore 4), qO (.iinc 5 1), qO (.goto (-152))] (pc' := 27) (L' := [zR 22 0, zI (zor l1 (zshl 1 z1)), zI (zor l2 (zshl 1 (σ 24 0 l4.toNat))), zI (zor l3 (zshl 1 (σ 24 0 l4.toNat))), zI z1, zI (l5 + 1), zI (σ 24 0 l4.toNat), zI z1]) (S' := []) (σ' := (zup (zup σ 24 0 l4.toNat ((σ 24 0 l4.toNat) + 1)) 23 0 z1.toNat l4)) (Ps := [0 ≤ z1 ∧ z1 < 10, -2147483648 ≤ l5 + 1 ∧ l5 + 1 ≤ 2147483647]) (by decide +kernel) rfl ⟨h.1, h.2.1, trivial⟩ ?_
                replace h := h.2.2
                exact Runs.fg (fgE (fgE (fgE (fgE (fgE (fgE (fgU (fgU fg0)))))))) h
          · replace h := h.2 c
            refine r_blk [qO (.goto 65), qO (.iinc 5 1), qO (.goto (-152))] (pc' := 27) (L' := [zR 22 0, zI l1, zI l2, zI l3, zI l4, zI (l5 + 1), zI (σ 24 0 l4.toNat), zI z1]) (S' := []) (σ' := (zup σ 24 0 l4.toNat ((σ 24 0 l4.toNat) + 1))) (Ps := [-2147483648 ≤ l5 + 1 ∧ l5 + 1 ≤ 2147483647]) (by decide +kernel) rfl ⟨h.1, trivial⟩ ?_
            replace h := h.2
            exact Runs.fg (fgE (fgE (fgE (fgE (fgE (fgE (fgU (fgU fg0)))))))) h
      · replace h := h.2 c
        refine r_blk [qO (.aload_n 0), qF (.getfield 9) 2 1, qO (.iload 4), qO .iaload, qO (.istore 4), qO (.goto 105), qO (.iinc 5 1), qO (.goto (-152))] (pc' := 27) (L' := [zR 22 0, zI l1, zI l2, zI l3, zI (σ 23 0 l4.toNat), zI (l5 + 1), zI (σ 24 0 l4.toNat), zU]) (S' := []) (σ' := σ) (Ps := [0 ≤ l4 ∧ l4 < 10, -2147483648 ≤ l5 + 1 ∧ l5 + 1 ≤ 2147483647]) (by decide +kernel) rfl ⟨h.1, h.2.1, trivial⟩ ?_
        replace h := h.2.2
        exact Runs.fg (fgE (fgE (fgE (fgE (fgE (fgE (fgU (fgU fg0)))))))) h
theorem gX11_hang_0 (a0 : Int) (a1 : Int) (σ : Hp) {Q : Option Int → Hp → Prop} (h : Runs 1 mX11_hang 7 [zR 34 0, zU, zI a1, zI (zshl 1 a0), zI 1, zU, zU, zU] [] σ Q) : Runs 1 mX11_hang 0 [zR 34 0, zI a0, zI a1, zU, zU, zU, zU, zU] [] σ Q := by
  refine r_blk [qO (.iconst 1), qO (.iload_n 1), qO .ishl, qO (.istore_n 3), qO (.iconst 1), qO (.istore 4)] (pc' := 7) (L' := [zR 34 0, zI a0, zI a1, zI (zshl 1 a0), zI 1, zU, zU, zU]) (S' := []) (σ' := σ) (Ps := []) (by decide +kernel) rfl trivial ?_
  exact Runs.fg (fgE (fgU (fgE (fgE (fgE (fgU (fgU (fgU fg0)))))))) h
theorem gX11_hang_7 (l2 : Int) (l3 : Int) (l4 : Int) (σ : Hp) {Q : Option Int → Hp → Prop} (h : ((l4 = 0 → Q (some l3) σ) ∧ (¬ l4 = 0 → Runs 1 mX11_hang 18 [zR 34 0, zU, zI l2, zI l3, zU, zI l3, zI 0, zU] [] σ Q))) : Runs 1 mX11_hang 7 [zR 34 0, zU, zI l2, zI l3, zI l4, zU, zU, zU] [] σ Q := by
  refine r_blk [qO (.iload 4)] (pc' := 9) (L' := [zR 34 0, zU, zI l2, zI l3, zI l4, zU, zU, zU]) (S' := [zI l4]) (σ' := σ) (Ps := []) (by decide +kernel) rfl trivial ?_
  refine r_if_eq (off := 84) (tgt := 93) (by decide +kernel) (by decide) (fun c => ?_) (fun c => ?_)
  · replace h := h.1 c
    refine r_blk [qO (.iload_n 3)] (pc' := 94) (L' := [zR 34 0, zU, zI l2, zI l3, zI l4, zU, zU, zU]) (S' := [zI l3]) (σ' := σ) (Ps := []) (by decide +kernel) rfl trivial ?_
    exact r_ret (by decide +kernel) rfl (fun _ => h)
  · replace h := h.2 c
    refine r_blk [qO (.iload_n 3), qO (.istore 5), qO (.iconst 0), qO (.istore 6)] (pc' := 18) (L' := [zR 34 0, zU, zI l2, zI l3, zI l4, zI l3, zI 0, zU]) (S' := []) (σ' := σ) (Ps := []) (by decide +kernel) rfl trivial ?_
    exact Runs.fg (fgE (fgU (fgE (fgE (fgU (fgE (fgE (fgU fg0)))))))) h
theorem gX11_hang_18 (l2 : Int) (l3 : Int) (l5 : Int) (l6 : Int) (σ : Hp) {Q : Option Int → Hp → Prop} (h : ((σ 36 0 1 ≤ l6 → ((l3 = l5 → Runs 1 mX11_hang 7 [zR 34 0, zU, zI l2, zI l3, zI 0, zU, zU, zU] [] σ Q) ∧ (¬ l3 = l5 → Runs 1 mX11_hang 7 [zR 34 0, zU, zI l2, zI l3, zI 1, zU, zU, zU] [] σ Q))) ∧ (¬ σ 36 0 1 ≤ l6 → ((¬ l6 = l2 → (0 ≤ l6 ∧ l6 < 14) ∧ (0 ≤ l6 ∧ l6 < 14) ∧ ((zand l3 (zor (zshl 1 (sg (σ 36 0) l6 0)) (zshl 1 (sg (σ 36 0) l6 1))) = 0 → (-2147483648 ≤ l6 + 1 ∧ l6 + 1 ≤ 2147483647) ∧ Runs 1 mX11_hang 18 [zR 34 0, zU, zI l2, zI l3, zU, zI l5, zI (l6 + 1), zU] [] σ Q) ∧ (¬ zand l3 (zor (zshl 1 (sg (σ 36 0) l6 0)) (zshl 1 (sg (σ 36 0) l6 1))) = 0 → (-2147483648 ≤ l6 + 1 ∧ l6 + 1 ≤ 2147483647) ∧ Runs 1 mX11_hang 18 [zR 34 0, zU, zI l2, zI (zor l3 (zor (zshl 1 (sg (σ 36 0) l6 0)) (zshl 1 (sg (σ 36 0) l6 1)))), zU, zI l5, zI (l6 + 1), zU] [] σ Q))) ∧ (l6 = l2 → (-2147483648 ≤ l6 + 1 ∧ l6 + 1 ≤ 2147483647) ∧ Runs 1 mX11_hang 18 [zR 34 0, zU, zI l2, zI l3, zU, zI l5, zI (l6 + 1), zU] [] σ Q))))) : Runs 1 mX11_hang 18 [zR 34 0, zU, zI l2, zI l3, zU, zI l5, zI l6, zU] [] σ Q := by
  refine r_blk [qO (.iload 6), qO (.aload_n 0), qF (.getfield 13) 11 1, qO (.iconst 1), qO .iaload] (pc' := 26) (L' := [zR 34 0, zU, zI l2, zI l3, zU, zI l5, zI l6, zU]) (S' := [zI (σ 36 0 1), zI l6]) (σ' := σ) (Ps := [0 ≤ 1 ∧ 1 < 123]) (by decide +kernel) rfl ⟨(by decide), trivial⟩ ?_
  refine r_icmp_ge (off := 51) (tgt := 77) (by decide +kernel) (by decide) (fun c => ?_) (fun c => ?_)
  · replace h := h.1 c
    refine r_blk [qO (.iload_n 3), qO (.iload 5)] (pc' := 80) (L' := [zR 34 0, zU, zI l2, zI l3, zU, zI l5, zI l6, zU]) (S' := [zI l5, zI l3]) (σ' := σ) (Ps := []) (by decide +kernel) rfl trivial ?_
    refine r_icmp_eq (off := 7) (tgt := 87) (by decide +kernel) (by decide) (fun c => ?_) (fun c => ?_)
    · replace h := h.1 c
      refine r_blk [qO (.iconst 0), qO (.istore 4), qO (.goto (-83))] (pc' := 7) (L' := [zR 34 0, zU, zI l2, zI l3, zI 0, zI l5, zI l6, zU]) (S' := []) (σ' := σ) (Ps := []) (by decide +kernel) rfl trivial ?_
      exact Runs.fg (fgE (fgU (fgE (fgE (fgE (fgU (fgU (fgU fg0)))))))) h
    · replace h := h.2 c
      refine r_blk [qO (.iconst 1), qO (.goto 4), qO (.istore 4), qO (.goto (-83))] (pc' := 7) (L' := [zR 34 0, zU, zI l2, zI l3, zI 1, zI l5, zI l6, zU]) (S' := []) (σ' := σ) (Ps := []) (by decide +kernel) rfl trivial ?_
      exact Runs.fg (fgE (fgU (fgE (fgE (fgE (fgU (fgU (fgU fg0)))))))) h
  · replace h := h.2 c
    refine r_blk [qO (.iload 6), qO (.iload_n 2)] (pc' := 32) (L' := [zR 34 0, zU, zI l2, zI l3, zU, zI l5, zI l6, zU]) (S' := [zI l2, zI l6]) (σ' := σ) (Ps := []) (by decide +kernel) rfl trivial ?_
    refine r_icmp_ne (off := 6) (tgt := 38) (by decide +kernel) (by decide) (fun c => ?_) (fun c => ?_)
    · replace h := h.1 c
      refine r_blk [qO (.iconst 1), qO (.aload_n 0), qO (.iload 6), qO (.iconst 0)] (pc' := 43) (L' := [zR 34 0, zU, zI l2, zI l3, zU, zI l5, zI l6, zU]) (S' := [zI 0, zI l6, zR 34 0, zI 1]) (σ' := σ) (Ps := []) (by decide +kernel) rfl trivial ?_
      refine r_callVI (As := [zI l6, zI 0]) (S := [zI 1]) (Lc := [zR 34 0, zI l6, zI 0]) (d' := 0) (n := 2) (g := 34) (x := 0) (ci := 11) kX11_get vX11_get lkX11_106 (by decide +kernel) (by decide) rfl rfl (by decide) rfl rfl (Nat.le_of_ble_eq_true rfl) rfl rfl (Nat.le_of_ble_eq_true rfl) (pX11_get h.1 (by decide) ?_)
      replace h := h.2
      refine r_blk [qO .ishl, qO (.iconst 1), qO (.aload_n 0), qO (.iload 6), qO (.iconst 1)] (pc' := 52) (L' := [zR 34 0, zU, zI l2, zI l3, zU, zI l5, zI l6, zU]) (S' := [zI 1, zI l6, zR 34 0, zI 1, zI (zshl 1 (sg (σ 36 0) l6 0))]) (σ' := σ) (Ps := []) (by decide +kernel) rfl trivial ?_
      refine r_callVI (As := [zI l6, zI 1]) (S := [zI 1, zI (zshl 1 (sg (σ 36 0) l6 0))]) (Lc := [zR 34 0, zI l6, zI 1]) (d' := 0) (n := 2) (g := 34) (x := 0) (ci := 11) kX11_get vX11_get lkX11_106 (by decide +kernel) (by decide) rfl rfl (by decide) rfl rfl (Nat.le_of_ble_eq_true rfl) rfl rfl (Nat.le_of_ble_eq_true rfl) (pX11_get h.1 (by decide) ?_)
      replace h := h.2
      refine r_blk [qO .ishl, qO .ior, qO (.istore 7), qO (.iload_n 3), qO (.iload 7), qO .iand] (pc' := 63) (L' := [zR 34 0, zU, zI l2, zI l3, zU, zI l5, zI l6, zI (zor (zshl 1 (sg (σ 36 0) l6 0)) (zshl 1 (sg (σ 36 0) l6 1)))]) (S' := [zI (zand l3 (zor (zshl 1 (sg (σ 36 0) l6 0)) (zshl 1 (sg (σ 36 0) l6 1))))]) (σ' := σ) (Ps := []) (by decide +kernel) rfl trivial ?_
      refine r_if_eq (off := 8) (tgt := 71) (by decide +kernel) (by decide) (fun c => ?_) (fun c => ?_)
      · replace h := h.1 c
        refine r_blk [qO (.iinc 6 1), qO (.goto (-56))] (pc' := 18) (L' := [zR 34 0, zU, zI l2, zI l3, zU, zI l5, zI (l6 + 1), zI (zor (zshl 1 (sg (σ 36 0) l6 0)) (zshl 1 (sg (σ 36 0) l6 1)))]) (S' := []) (σ' := σ) (Ps := [-2147483648 ≤ l6 + 1 ∧ l6 + 1 ≤ 2147483647]) (by decide +kernel) rfl ⟨h.1, trivial⟩ ?_
        replace h := h.2
        exact Runs.fg (fgE (fgU (fgE (fgE (fgU (fgE (fgE (fgU fg0)))))))) h
      · replace h := h.2 c
        refine r_blk [qO (.iload_n 3), qO (.iload 7), qO .ior, qO (.istore_n 3), qO (.iinc 6 1), qO (.goto (-56))] (pc' := 18) (L' := [zR 34 0, zU, zI l2, zI (zor l3 (zor (zshl 1 (sg (σ 36 0) l6 0)) (zshl 1 (sg (σ 36 0) l6 1)))), zU, zI l5, zI (l6 + 1), zI (zor (zshl 1 (sg (σ 36 0) l6 0)) (zshl 1 (sg (σ 36 0) l6 1)))]) (S' := []) (σ' := σ) (Ps := [-2147483648 ≤ l6 + 1 ∧ l6 + 1 ≤ 2147483647]) (by decide +kernel) rfl ⟨h.1, trivial⟩ ?_
        replace h := h.2
        exact Runs.fg (fgE (fgU (fgE (fgE (fgU (fgE (fgE (fgU fg0)))))))) h
    · replace h := h.2 c
      refine r_blk [qO (.goto 36), qO (.iinc 6 1), qO (.goto (-56))] (pc' := 18) (L' := [zR 34 0, zU, zI l2, zI l3, zU, zI l5, zI (l6 + 1), zU]) (S' := []) (σ' := σ) (Ps := [-2147483648 ≤ l6 + 1 ∧ l6 + 1 ≤ 2147483647]) (by decide +kernel) rfl ⟨h.1, trivial⟩ ?_
      replace h := h.2
      exact Runs.fg (fgE (fgU (fgE (fgE (fgU (fgE (fgE (fgU fg0)))))))) h
theorem gX11_isBridge_0 (a0 : Int) (σ : Hp) {Q : Option Int → Hp → Prop} (h : (0 ≤ a0 ∧ a0 < 14) ∧ Runs 1 mX11_hang 0 [zR 34 0, zI (sg (σ 36 0) a0 0), zI a0, zU, zU, zU, zU, zU] [] σ (rI (fun z2 σ1 => (0 ≤ a0 ∧ a0 < 14) ∧ ((¬ bitz z2 (sg (σ1 36 0) a0 1) = 0 → Q (some 0) σ1) ∧ (bitz z2 (sg (σ1 36 0) a0 1) = 0 → Q (some 1) σ1))))) : Runs 2 mX11_isBridge 0 [zR 34 0, zI a0] [] σ Q := by
  refine r_blk [qO (.aload_n 0), qO (.aload_n 0), qO (.iload_n 1), qO (.iconst 0)] (pc' := 4) (L' := [zR 34 0, zI a0]) (S' := [zI 0, zI a0, zR 34 0, zR 34 0]) (σ' := σ) (Ps := []) (by decide +kernel) rfl trivial ?_
  refine r_callVI (As := [zI a0, zI 0]) (S := [zR 34 0]) (Lc := [zR 34 0, zI a0, zI 0]) (d' := 0) (n := 2) (g := 34) (x := 0) (ci := 11) kX11_get vX11_get lkX11_106 (by decide +kernel) (by decide) rfl rfl (by decide) rfl rfl (Nat.le_of_ble_eq_true rfl) rfl rfl (Nat.le_of_ble_eq_true rfl) (pX11_get h.1 (by decide) ?_)
  replace h := h.2
  refine r_blk [qO (.iload_n 1)] (pc' := 8) (L' := [zR 34 0, zI a0]) (S' := [zI a0, zI (sg (σ 36 0) a0 0), zR 34 0]) (σ' := σ) (Ps := []) (by decide +kernel) rfl trivial ?_
  refine r_callVI (As := [zI (sg (σ 36 0) a0 0), zI a0]) (S := []) (Lc := [zR 34 0, zI (sg (σ 36 0) a0 0), zI a0, zU, zU, zU, zU, zU]) (d' := 1) (n := 2) (g := 34) (x := 0) (ci := 11) kX11_hang vX11_hang lkX11_166 (by decide +kernel) (by decide) rfl rfl (by decide) rfl rfl (Nat.le_of_ble_eq_true rfl) rfl rfl (Nat.le_of_ble_eq_true rfl) (h.monoI (fun z2 σ1 h => ?_))
  refine r_blk [qO (.aload_n 0), qO (.iload_n 1), qO (.iconst 1)] (pc' := 14) (L' := [zR 34 0, zI a0]) (S' := [zI 1, zI a0, zR 34 0, zI z2]) (σ' := σ1) (Ps := []) (by decide +kernel) rfl trivial ?_
  refine r_callVI (As := [zI a0, zI 1]) (S := [zI z2]) (Lc := [zR 34 0, zI a0, zI 1]) (d' := 0) (n := 2) (g := 34) (x := 0) (ci := 11) kX11_get vX11_get lkX11_106 (by decide +kernel) (by decide) rfl rfl (by decide) rfl rfl (Nat.le_of_ble_eq_true rfl) rfl rfl (Nat.le_of_ble_eq_true rfl) (pX11_get h.1 (by decide) ?_)
  replace h := h.2
  refine r_blk [qO .ishr, qO (.iconst 1), qO .iand] (pc' := 20) (L' := [zR 34 0, zI a0]) (S' := [zI (bitz z2 (sg (σ1 36 0) a0 1))]) (σ' := σ1) (Ps := []) (by decide +kernel) rfl trivial ?_
  refine r_if_ne (off := 7) (tgt := 27) (by decide +kernel) (by decide) (fun c => ?_) (fun c => ?_)
  · replace h := h.1 c
    refine r_blk [qO (.iconst 0)] (pc' := 28) (L' := [zR 34 0, zI a0]) (S' := [zI 0]) (σ' := σ1) (Ps := []) (by decide +kernel) rfl trivial ?_
    exact r_retz (by decide +kernel) rfl (by decide) h
  · replace h := h.2 c
    refine r_blk [qO (.iconst 1), qO (.goto 4)] (pc' := 28) (L' := [zR 34 0, zI a0]) (S' := [zI 1]) (σ' := σ1) (Ps := []) (by decide +kernel) rfl trivial ?_
    exact r_retz (by decide +kernel) rfl (by decide) h
theorem gX11_bridgeBits_0 (σ : Hp) {Q : Option Int → Hp → Prop} (h : Runs 3 mX11_bridgeBits 4 [zR 34 0, zI 0, zI 0] [] σ Q) : Runs 3 mX11_bridgeBits 0 [zR 34 0, zU, zU] [] σ Q := by
  refine r_blk [qO (.iconst 0), qO (.istore_n 1), qO (.iconst 0), qO (.istore_n 2)] (pc' := 4) (L' := [zR 34 0, zI 0, zI 0]) (S' := []) (σ' := σ) (Ps := []) (by decide +kernel) rfl trivial ?_
  exact Runs.fg (fgE (fgE (fgE fg0))) h
theorem gX11_bridgeBits_4 (l1 : Int) (l2 : Int) (σ : Hp) {Q : Option Int → Hp → Prop} (h : ((σ 36 0 1 ≤ l2 → Q (some l1) σ) ∧ (¬ σ 36 0 1 ≤ l2 → Runs 2 mX11_isBridge 0 [zR 34 0, zI l2] [] σ (rI (fun z2 σ1 => ((z2 = 0 → (-2147483648 ≤ l2 + 1 ∧ l2 + 1 ≤ 2147483647) ∧ Runs 3 mX11_bridgeBits 4 [zR 34 0, zI (zor l1 0), zI (l2 + 1)] [] σ1 Q) ∧ (¬ z2 = 0 → (-2147483648 ≤ l2 + 1 ∧ l2 + 1 ≤ 2147483647) ∧ Runs 3 mX11_bridgeBits 4 [zR 34 0, zI (zor l1 (zshl 1 l2)), zI (l2 + 1)] [] σ1 Q))))))) : Runs 3 mX11_bridgeBits 4 [zR 34 0, zI l1, zI l2] [] σ Q := by
  refine r_blk [qO (.iload_n 2), qO (.aload_n 0), qF (.getfield 13) 11 1, qO (.iconst 1), qO .iaload] (pc' := 11) (L' := [zR 34 0, zI l1, zI l2]) (S' := [zI (σ 36 0 1), zI l2]) (σ' := σ) (Ps := [0 ≤ 1 ∧ 1 < 123]) (by decide +kernel) rfl ⟨(by decide), trivial⟩ ?_
  refine r_icmp_ge (off := 27) (tgt := 38) (by decide +kernel) (by decide) (fun c => ?_) (fun c => ?_)
  · replace h := h.1 c
    refine r_blk [qO (.iload_n 1)] (pc' := 39) (L' := [zR 34 0, zI l1, zI l2]) (S' := [zI l1]) (σ' := σ) (Ps := []) (by decide +kernel) rfl trivial ?_
    exact r_ret (by decide +kernel) rfl (fun _ => h)
  · replace h := h.2 c
    refine r_blk [qO (.iload_n 1), qO (.aload_n 0), qO (.iload_n 2)] (pc' := 17) (L' := [zR 34 0, zI l1, zI l2]) (S' := [zI l2, zR 34 0, zI l1]) (σ' := σ) (Ps := []) (by decide +kernel) rfl trivial ?_
    refine r_callVI (As := [zI l2]) (S := [zI l1]) (Lc := [zR 34 0, zI l2]) (d' := 2) (n := 1) (g := 34) (x := 0) (ci := 11) kX11_isBridge vX11_isBridge lkX11_169 (by decide +kernel) (by decide) rfl rfl (by decide) rfl rfl (Nat.le_of_ble_eq_true rfl) rfl rfl (Nat.le_of_ble_eq_true rfl) (h.monoI (fun z2 σ1 h => ?_))
    refine r_if_eq (off := 9) (tgt := 29) (by decide +kernel) (by decide) (fun c => ?_) (fun c => ?_)
    · replace h := h.1 c
      refine r_blk [qO (.iconst 0), qO .ior, qO (.istore_n 1), qO (.iinc 2 1), qO (.goto (-31))] (pc' := 4) (L' := [zR 34 0, zI (zor l1 0), zI (l2 + 1)]) (S' := []) (σ' := σ1) (Ps := [-2147483648 ≤ l2 + 1 ∧ l2 + 1 ≤ 2147483647]) (by decide +kernel) rfl ⟨h.1, trivial⟩ ?_
      replace h := h.2
      exact Runs.fg (fgE (fgE (fgE fg0))) h
    · replace h := h.2 c
      refine r_blk [qO (.iconst 1), qO (.iload_n 2), qO .ishl, qO (.goto 4), qO .ior, qO (.istore_n 1), qO (.iinc 2 1), qO (.goto (-31))] (pc' := 4) (L' := [zR 34 0, zI (zor l1 (zshl 1 l2)), zI (l2 + 1)]) (S' := []) (σ' := σ1) (Ps := [-2147483648 ≤ l2 + 1 ∧ l2 + 1 ≤ 2147483647]) (by decide +kernel) rfl ⟨h.1, trivial⟩ ?_
      replace h := h.2
      exact Runs.fg (fgE (fgE (fgE fg0))) h
theorem gX11_can_0 (σ : Hp) {Q : Option Int → Hp → Prop} (h : Runs 1 mX11_hang 0 [zR 34 0, zI 0, zI (-9), zU, zU, zU, zU, zU] [] σ (rI (fun z2 σ1 => (-2147483648 ≤ (zshl 1 (σ1 36 0 0)) - 1 ∧ (zshl 1 (σ1 36 0 0)) - 1 ≤ 2147483647) ∧ ((¬ z2 = (zshl 1 (σ1 36 0 0)) - 1 → Q (some 0) σ1) ∧ (z2 = (zshl 1 (σ1 36 0 0)) - 1 → Runs 3 mX11_bridgeBits 0 [zR 34 0, zU, zU] [] σ1 (rI (fun z4 σ3 => ((¬ z4 = 0 → Q (some 0) σ3) ∧ (z4 = 0 → Q (some 1) σ3))))))))) : Runs 4 mX11_can 0 [zR 34 0] [] σ Q := by
  refine r_blk [qO (.aload_n 0), qO (.iconst 0), qO (.bipush (-9))] (pc' := 4) (L' := [zR 34 0]) (S' := [zI (-9), zI 0, zR 34 0]) (σ' := σ) (Ps := []) (by decide +kernel) rfl trivial ?_
  refine r_callVI (As := [zI 0, zI (-9)]) (S := []) (Lc := [zR 34 0, zI 0, zI (-9), zU, zU, zU, zU, zU]) (d' := 1) (n := 2) (g := 34) (x := 0) (ci := 11) kX11_hang vX11_hang lkX11_166 (by decide +kernel) (by decide) rfl rfl (by decide) rfl rfl (Nat.le_of_ble_eq_true rfl) rfl rfl (Nat.le_of_ble_eq_true rfl) (h.monoI (fun z2 σ1 h => ?_))
  refine r_blk [qO (.iconst 1), qO (.aload_n 0), qF (.getfield 13) 11 1, qO (.iconst 0), qO .iaload, qO .ishl, qO (.iconst 1), qO .isub] (pc' := 17) (L' := [zR 34 0]) (S' := [zI ((zshl 1 (σ1 36 0 0)) - 1), zI z2]) (σ' := σ1) (Ps := [0 ≤ 0 ∧ 0 < 123, -2147483648 ≤ (zshl 1 (σ1 36 0 0)) - 1 ∧ (zshl 1 (σ1 36 0 0)) - 1 ≤ 2147483647]) (by decide +kernel) rfl ⟨(by decide), h.1, trivial⟩ ?_
  replace h := h.2
  refine r_icmp_ne (off := 14) (tgt := 31) (by decide +kernel) (by decide) (fun c => ?_) (fun c => ?_)
  · replace h := h.1 c
    refine r_blk [qO (.iconst 0)] (pc' := 32) (L' := [zR 34 0]) (S' := [zI 0]) (σ' := σ1) (Ps := []) (by decide +kernel) rfl trivial ?_
    exact r_ret (by decide +kernel) rfl (fun _ => h)
  · replace h := h.2 c
    refine r_blk [qO (.aload_n 0)] (pc' := 21) (L' := [zR 34 0]) (S' := [zR 34 0]) (σ' := σ1) (Ps := []) (by decide +kernel) rfl trivial ?_
    refine r_callVI (As := []) (S := []) (Lc := [zR 34 0, zU, zU]) (d' := 3) (n := 0) (g := 34) (x := 0) (ci := 11) kX11_bridgeBits vX11_bridgeBits lkX11_172 (by decide +kernel) (by decide) rfl rfl (by decide) rfl rfl (Nat.le_of_ble_eq_true rfl) rfl rfl (Nat.le_of_ble_eq_true rfl) (h.monoI (fun z4 σ3 h => ?_))
    refine r_if_ne (off := 7) (tgt := 31) (by decide +kernel) (by decide) (fun c => ?_) (fun c => ?_)
    · replace h := h.1 c
      refine r_blk [qO (.iconst 0)] (pc' := 32) (L' := [zR 34 0]) (S' := [zI 0]) (σ' := σ3) (Ps := []) (by decide +kernel) rfl trivial ?_
      exact r_ret (by decide +kernel) rfl (fun _ => h)
    · replace h := h.2 c
      refine r_blk [qO (.iconst 1), qO (.goto 4)] (pc' := 32) (L' := [zR 34 0]) (S' := [zI 1]) (σ' := σ3) (Ps := []) (by decide +kernel) rfl trivial ?_
      exact r_ret (by decide +kernel) rfl (fun _ => h)
theorem gX11_bridges_0 (σ : Hp) {Q : Option Int → Hp → Prop} (h : Runs 3 mX11_bridgeBits 0 [zR 34 0, zU, zU] [] σ (rI (fun z2 σ1 => Q (some z2) σ1))) : Runs 4 mX11_bridges 0 [zR 34 0] [] σ Q := by
  refine r_blk [qO (.aload_n 0)] (pc' := 1) (L' := [zR 34 0]) (S' := [zR 34 0]) (σ' := σ) (Ps := []) (by decide +kernel) rfl trivial ?_
  refine r_callVI (As := []) (S := []) (Lc := [zR 34 0, zU, zU]) (d' := 3) (n := 0) (g := 34) (x := 0) (ci := 11) kX11_bridgeBits vX11_bridgeBits lkX11_172 (by decide +kernel) (by decide) rfl rfl (by decide) rfl rfl (Nat.le_of_ble_eq_true rfl) rfl rfl (Nat.le_of_ble_eq_true rfl) (h.monoI (fun z2 σ1 h => ?_))
  exact r_ret (by decide +kernel) rfl (fun _ => h)
theorem gX11_walks_0 (d : Nat) (a0 : Int) (σ : Hp) {Q : Option Int → Hp → Prop} (h : Runs (d + 1) mX11_walks 14 [zR 34 0, zI a0, zI 0, zU] [] (zup σ 34 0 19 (zor (σ 34 0 19) (zshl 1 a0))) Q) : Runs (d + 1) mX11_walks 0 [zR 34 0, zI a0, zU, zU] [] σ Q := by
  refine r_blk [qO (.aload_n 0), qO .dup, qF (.getfield 175) 11 19, qO (.iconst 1), qO (.iload_n 1), qO .ishl, qO .ior, qF (.putfield 175) 11 19, qO (.iconst 0), qO (.istore_n 2)] (pc' := 14) (L' := [zR 34 0, zI a0, zI 0, zU]) (S' := []) (σ' := (zup σ 34 0 19 (zor (σ 34 0 19) (zshl 1 a0)))) (Ps := []) (by decide +kernel) rfl trivial ?_
  exact Runs.fg (fgE (fgE (fgE (fgU fg0)))) h
theorem gX11_walks_14 (d : Nat) (l1 : Int) (l2 : Int) (σ : Hp) {Q : Option Int → Hp → Prop} (h : ((σ 36 0 1 ≤ l2 → Q none σ) ∧ (¬ σ 36 0 1 ≤ l2 → ((bitz (σ 34 0 17) l2 = 1 → (-2147483648 ≤ l2 + 1 ∧ l2 + 1 ≤ 2147483647) ∧ Runs (d + 1) mX11_walks 14 [zR 34 0, zI l1, zI (l2 + 1), zU] [] σ Q) ∧ (¬ bitz (σ 34 0 17) l2 = 1 → (0 ≤ l2 ∧ l2 < 14) ∧ ((sg (σ 36 0) l2 0 = l1 → Runs (d + 1) mX11_walks 59 [zR 34 0, zI l1, zI l2, zU] [] σ Q) ∧ (¬ sg (σ 36 0) l2 0 = l1 → (0 ≤ l2 ∧ l2 < 14) ∧ ((sg (σ 36 0) l2 1 = l1 → Runs (d + 1) mX11_walks 59 [zR 34 0, zI l1, zI l2, zU] [] σ Q) ∧ (¬ sg (σ 36 0) l2 1 = l1 → (-2147483648 ≤ l2 + 1 ∧ l2 + 1 ≤ 2147483647) ∧ Runs (d + 1) mX11_walks 14 [zR 34 0, zI l1, zI (l2 + 1), zU] [] σ Q))))))))) : Runs (d + 1) mX11_walks 14 [zR 34 0, zI l1, zI l2, zU] [] σ Q := by
  refine r_blk [qO (.iload_n 2), qO (.aload_n 0), qF (.getfield 13) 11 1, qO (.iconst 1), qO .iaload] (pc' := 21) (L' := [zR 34 0, zI l1, zI l2, zU]) (S' := [zI (σ 36 0 1), zI l2]) (σ' := σ) (Ps := [0 ≤ 1 ∧ 1 < 123]) (by decide +kernel) rfl ⟨(by decide), trivial⟩ ?_
  refine r_icmp_ge (off := 124) (tgt := 145) (by decide +kernel) (by decide) (fun c => ?_) (fun c => ?_)
  · replace h := h.1 c
    exact r_retv (by decide +kernel) rfl h
  · replace h := h.2 c
    refine r_blk [qO (.aload_n 0), qF (.getfield 178) 11 17, qO (.iload_n 2), qO .ishr, qO (.iconst 1), qO .iand, qO (.iconst 1)] (pc' := 33) (L' := [zR 34 0, zI l1, zI l2, zU]) (S' := [zI 1, zI (bitz (σ 34 0 17) l2)]) (σ' := σ) (Ps := []) (by decide +kernel) rfl trivial ?_
    refine r_icmp_eq (off := 106) (tgt := 139) (by decide +kernel) (by decide) (fun c => ?_) (fun c => ?_)
    · replace h := h.1 c
      refine r_blk [qO (.iinc 2 1), qO (.goto (-128))] (pc' := 14) (L' := [zR 34 0, zI l1, zI (l2 + 1), zU]) (S' := []) (σ' := σ) (Ps := [-2147483648 ≤ l2 + 1 ∧ l2 + 1 ≤ 2147483647]) (by decide +kernel) rfl ⟨h.1, trivial⟩ ?_
      replace h := h.2
      exact Runs.fg (fgE (fgE (fgE (fgU fg0)))) h
    · replace h := h.2 c
      refine r_blk [qO (.aload_n 0), qO (.iload_n 2), qO (.iconst 0)] (pc' := 39) (L' := [zR 34 0, zI l1, zI l2, zU]) (S' := [zI 0, zI l2, zR 34 0]) (σ' := σ) (Ps := []) (by decide +kernel) rfl trivial ?_
      refine r_callVI (As := [zI l2, zI 0]) (S := []) (Lc := [zR 34 0, zI l2, zI 0]) (d' := 0) (n := 2) (g := 34) (x := 0) (ci := 11) kX11_get vX11_get lkX11_106 (by decide +kernel) (by omega) rfl rfl (by decide) rfl rfl (Nat.le_of_ble_eq_true rfl) rfl rfl (Nat.le_of_ble_eq_true rfl) (pX11_get h.1 (by decide) ?_)
      replace h := h.2
      refine r_blk [qO (.iload_n 1)] (pc' := 43) (L' := [zR 34 0, zI l1, zI l2, zU]) (S' := [zI l1, zI (sg (σ 36 0) l2 0)]) (σ' := σ) (Ps := []) (by decide +kernel) rfl trivial ?_
      refine r_icmp_eq (off := 16) (tgt := 59) (by decide +kernel) (by decide) (fun c => ?_) (fun c => ?_)
      · replace h := h.1 c
        exact Runs.fg (fgE (fgE (fgE (fgU fg0)))) h
      · replace h := h.2 c
        refine r_blk [qO (.aload_n 0), qO (.iload_n 2), qO (.iconst 1)] (pc' := 49) (L' := [zR 34 0, zI l1, zI l2, zU]) (S' := [zI 1, zI l2, zR 34 0]) (σ' := σ) (Ps := []) (by decide +kernel) rfl trivial ?_
        refine r_callVI (As := [zI l2, zI 1]) (S := []) (Lc := [zR 34 0, zI l2, zI 1]) (d' := 0) (n := 2) (g := 34) (x := 0) (ci := 11) kX11_get vX11_get lkX11_106 (by decide +kernel) (by omega) rfl rfl (by decide) rfl rfl (Nat.le_of_ble_eq_true rfl) rfl rfl (Nat.le_of_ble_eq_true rfl) (pX11_get h.1 (by decide) ?_)
        replace h := h.2
        refine r_blk [qO (.iload_n 1)] (pc' := 53) (L' := [zR 34 0, zI l1, zI l2, zU]) (S' := [zI l1, zI (sg (σ 36 0) l2 1)]) (σ' := σ) (Ps := []) (by decide +kernel) rfl trivial ?_
        refine r_icmp_eq (off := 6) (tgt := 59) (by decide +kernel) (by decide) (fun c => ?_) (fun c => ?_)
        · replace h := h.1 c
          exact Runs.fg (fgE (fgE (fgE (fgU fg0)))) h
        · replace h := h.2 c
          refine r_blk [qO (.goto 83), qO (.iinc 2 1), qO (.goto (-128))] (pc' := 14) (L' := [zR 34 0, zI l1, zI (l2 + 1), zU]) (S' := []) (σ' := σ) (Ps := [-2147483648 ≤ l2 + 1 ∧ l2 + 1 ≤ 2147483647]) (by decide +kernel) rfl ⟨h.1, trivial⟩ ?_
          replace h := h.2
          exact Runs.fg (fgE (fgE (fgE (fgU fg0)))) h
theorem gX11_walks_59 (d : Nat) (l1 : Int) (l2 : Int) (σ : Hp) {Q : Option Int → Hp → Prop} (h : (0 ≤ l2 ∧ l2 < 14) ∧ ((¬ sg ((zup σ 34 0 17 (zor (σ 34 0 17) (zshl 1 l2))) 36 0) l2 1 = l1 → ∀ σ1 : Hp, σ1 = (zup (zup σ 34 0 17 (zor (σ 34 0 17) (zshl 1 l2))) 34 0 18 (zor (σ 34 0 18) 0)) → (0 ≤ l2 ∧ l2 < 14) ∧ ((¬ sg (σ1 36 0) l2 0 = l1 → (0 ≤ l2 ∧ l2 < 14) ∧ ((¬ bitz (σ1 34 0 19) (sg (σ1 36 0) l2 0) = 0 → (-2147483648 ≤ l2 + 1 ∧ l2 + 1 ≤ 2147483647) ∧ Runs (d + 1) mX11_walks 14 [zR 34 0, zI l1, zI (l2 + 1), zU] [] σ1 Q) ∧ (bitz (σ1 34 0 19) (sg (σ1 36 0) l2 0) = 0 → Runs d mX11_walks 0 [zR 34 0, zI (sg (σ1 36 0) l2 0), zU, zU] [] σ1 (rV (fun σ2 => (-2147483648 ≤ l2 + 1 ∧ l2 + 1 ≤ 2147483647) ∧ Runs (d + 1) mX11_walks 14 [zR 34 0, zI l1, zI (l2 + 1), zU] [] σ2 Q))))) ∧ (sg (σ1 36 0) l2 0 = l1 → (0 ≤ l2 ∧ l2 < 14) ∧ ((¬ bitz (σ1 34 0 19) (sg (σ1 36 0) l2 1) = 0 → (-2147483648 ≤ l2 + 1 ∧ l2 + 1 ≤ 2147483647) ∧ Runs (d + 1) mX11_walks 14 [zR 34 0, zI l1, zI (l2 + 1), zU] [] σ1 Q) ∧ (bitz (σ1 34 0 19) (sg (σ1 36 0) l2 1) = 0 → Runs d mX11_walks 0 [zR 34 0, zI (sg (σ1 36 0) l2 1), zU, zU] [] σ1 (rV (fun σ3 => (-2147483648 ≤ l2 + 1 ∧ l2 + 1 ≤ 2147483647) ∧ Runs (d + 1) mX11_walks 14 [zR 34 0, zI l1, zI (l2 + 1), zU] [] σ3 Q))))))) ∧ (sg ((zup σ 34 0 17 (zor (σ 34 0 17) (zshl 1 l2))) 36 0) l2 1 = l1 → ∀ σ4 : Hp, σ4 = (zup (zup σ 34 0 17 (zor (σ 34 0 17) (zshl 1 l2))) 34 0 18 (zor (σ 34 0 18) (zshl 1 l2))) → (0 ≤ l2 ∧ l2 < 14) ∧ ((¬ sg (σ4 36 0) l2 0 = l1 → (0 ≤ l2 ∧ l2 < 14) ∧ ((¬ bitz (σ4 34 0 19) (sg (σ4 36 0) l2 0) = 0 → (-2147483648 ≤ l2 + 1 ∧ l2 + 1 ≤ 2147483647) ∧ Runs (d + 1) mX11_walks 14 [zR 34 0, zI l1, zI (l2 + 1), zU] [] σ4 Q) ∧ (bitz (σ4 34 0 19) (sg (σ4 36 0) l2 0) = 0 → Runs d mX11_walks 0 [zR 34 0, zI (sg (σ4 36 0) l2 0), zU, zU] [] σ4 (rV (fun σ5 => (-2147483648 ≤ l2 + 1 ∧ l2 + 1 ≤ 2147483647) ∧ Runs (d + 1) mX11_walks 14 [zR 34 0, zI l1, zI (l2 + 1), zU] [] σ5 Q))))) ∧ (sg (σ4 36 0) l2 0 = l1 → (0 ≤ l2 ∧ l2 < 14) ∧ ((¬ bitz (σ4 34 0 19) (sg (σ4 36 0) l2 1) = 0 → (-2147483648 ≤ l2 + 1 ∧ l2 + 1 ≤ 2147483647) ∧ Runs (d + 1) mX11_walks 14 [zR 34 0, zI l1, zI (l2 + 1), zU] [] σ4 Q) ∧ (bitz (σ4 34 0 19) (sg (σ4 36 0) l2 1) = 0 → Runs d mX11_walks 0 [zR 34 0, zI (sg (σ4 36 0) l2 1), zU, zU] [] σ4 (rV (fun σ6 => (-2147483648 ≤ l2 + 1 ∧ l2 + 1 ≤ 2147483647) ∧ Runs (d + 1) mX11_walks 14 [zR 34 0, zI l1, zI (l2 + 1), zU] [] σ6 Q))))))))) : Runs (d + 1) mX11_walks 59 [zR 34 0, zI l1, zI l2, zU] [] σ Q := by
  refine r_blk [qO (.aload_n 0), qO .dup, qF (.getfield 178) 11 17, qO (.iconst 1), qO (.iload_n 2), qO .ishl, qO .ior, qF (.putfield 178) 11 17, qO (.aload_n 0), qO .dup, qF (.getfield 181) 11 18, qO (.aload_n 0), qO (.iload_n 2), qO (.iconst 1)] (pc' := 79) (L' := [zR 34 0, zI l1, zI l2, zU]) (S' := [zI 1, zI l2, zR 34 0, zI (σ 34 0 18), zR 34 0]) (σ' := (zup σ 34 0 17 (zor (σ 34 0 17) (zshl 1 l2)))) (Ps := []) (by decide +kernel) rfl trivial ?_
  refine r_callVI (As := [zI l2, zI 1]) (S := [zI (σ 34 0 18), zR 34 0]) (Lc := [zR 34 0, zI l2, zI 1]) (d' := 0) (n := 2) (g := 34) (x := 0) (ci := 11) kX11_get vX11_get lkX11_106 (by decide +kernel) (by omega) rfl rfl (by decide) rfl rfl (Nat.le_of_ble_eq_true rfl) rfl rfl (Nat.le_of_ble_eq_true rfl) (pX11_get h.1 (by decide) ?_)
  replace h := h.2
  refine r_blk [qO (.iload_n 1)] (pc' := 83) (L' := [zR 34 0, zI l1, zI l2, zU]) (S' := [zI l1, zI (sg ((zup σ 34 0 17 (zor (σ 34 0 17) (zshl 1 l2))) 36 0) l2 1), zI (σ 34 0 18), zR 34 0]) (σ' := (zup σ 34 0 17 (zor (σ 34 0 17) (zshl 1 l2)))) (Ps := []) (by decide +kernel) rfl trivial ?_
  refine r_icmp_ne (off := 9) (tgt := 92) (by decide +kernel) (by decide) (fun c => ?_) (fun c => ?_)
  · replace h := h.1 c
    refine r_blk [qO (.iconst 0), qO .ior, qF (.putfield 181) 11 18, qO (.aload_n 0), qO (.iload_n 2), qO (.iconst 0)] (pc' := 100) (L' := [zR 34 0, zI l1, zI l2, zU]) (S' := [zI 0, zI l2, zR 34 0]) (σ' := (zup (zup σ 34 0 17 (zor (σ 34 0 17) (zshl 1 l2))) 34 0 18 (zor (σ 34 0 18) 0))) (Ps := []) (by decide +kernel) rfl trivial ?_
    generalize hσ1 : (zup (zup σ 34 0 17 (zor (σ 34 0 17) (zshl 1 l2))) 34 0 18 (zor (σ 34 0 18) 0)) = σ1
    replace h := h σ1 hσ1.symm
    refine r_callVI (As := [zI l2, zI 0]) (S := []) (Lc := [zR 34 0, zI l2, zI 0]) (d' := 0) (n := 2) (g := 34) (x := 0) (ci := 11) kX11_get vX11_get lkX11_106 (by decide +kernel) (by omega) rfl rfl (by decide) rfl rfl (Nat.le_of_ble_eq_true rfl) rfl rfl (Nat.le_of_ble_eq_true rfl) (pX11_get h.1 (by decide) ?_)
    replace h := h.2
    refine r_blk [qO (.iload_n 1)] (pc' := 104) (L' := [zR 34 0, zI l1, zI l2, zU]) (S' := [zI l1, zI (sg (σ1 36 0) l2 0)]) (σ' := σ1) (Ps := []) (by decide +kernel) rfl trivial ?_
    refine r_icmp_ne (off := 12) (tgt := 116) (by decide +kernel) (by decide) (fun c => ?_) (fun c => ?_)
    · replace h := h.1 c
      refine r_blk [qO (.aload_n 0), qO (.iload_n 2), qO (.iconst 0)] (pc' := 119) (L' := [zR 34 0, zI l1, zI l2, zU]) (S' := [zI 0, zI l2, zR 34 0]) (σ' := σ1) (Ps := []) (by decide +kernel) rfl trivial ?_
      refine r_callVI (As := [zI l2, zI 0]) (S := []) (Lc := [zR 34 0, zI l2, zI 0]) (d' := 0) (n := 2) (g := 34) (x := 0) (ci := 11) kX11_get vX11_get lkX11_106 (by decide +kernel) (by omega) rfl rfl (by decide) rfl rfl (Nat.le_of_ble_eq_true rfl) rfl rfl (Nat.le_of_ble_eq_true rfl) (pX11_get h.1 (by decide) ?_)
      replace h := h.2
      refine r_blk [qO (.istore_n 3), qO (.aload_n 0), qF (.getfield 175) 11 19, qO (.iload_n 3), qO .ishr, qO (.iconst 1), qO .iand] (pc' := 131) (L' := [zR 34 0, zI l1, zI l2, zI (sg (σ1 36 0) l2 0)]) (S' := [zI (bitz (σ1 34 0 19) (sg (σ1 36 0) l2 0))]) (σ' := σ1) (Ps := []) (by decide +kernel) rfl trivial ?_
      refine r_if_ne (off := 8) (tgt := 139) (by decide +kernel) (by decide) (fun c => ?_) (fun c => ?_)
      · replace h := h.1 c
        refine r_blk [qO (.iinc 2 1), qO (.goto (-128))] (pc' := 14) (L' := [zR 34 0, zI l1, zI (l2 + 1), zI (sg (σ1 36 0) l2 0)]) (S' := []) (σ' := σ1) (Ps := [-2147483648 ≤ l2 + 1 ∧ l2 + 1 ≤ 2147483647]) (by decide +kernel) rfl ⟨h.1, trivial⟩ ?_
        replace h := h.2
        exact Runs.fg (fgE (fgE (fgE (fgU fg0)))) h
      · replace h := h.2 c
        refine r_blk [qO (.aload_n 0), qO (.iload_n 3)] (pc' := 136) (L' := [zR 34 0, zI l1, zI l2, zI (sg (σ1 36 0) l2 0)]) (S' := [zI (sg (σ1 36 0) l2 0), zR 34 0]) (σ' := σ1) (Ps := []) (by decide +kernel) rfl trivial ?_
        refine r_callVV (As := [zI (sg (σ1 36 0) l2 0)]) (S := []) (Lc := [zR 34 0, zI (sg (σ1 36 0) l2 0), zU, zU]) (d' := d) (n := 1) (g := 34) (x := 0) (ci := 11) kX11_walks vX11_walks lkX11_184 (by decide +kernel) (by omega) rfl rfl (by decide) rfl rfl (Nat.le_of_ble_eq_true rfl) rfl rfl (Nat.le_of_ble_eq_true rfl) (h.monoV (fun σ2 h => ?_))
        refine r_blk [qO (.iinc 2 1), qO (.goto (-128))] (pc' := 14) (L' := [zR 34 0, zI l1, zI (l2 + 1), zI (sg (σ1 36 0) l2 0)]) (S' := []) (σ' := σ2) (Ps := [-2147483648 ≤ l2 + 1 ∧ l2 + 1 ≤ 2147483647]) (by decide +kernel) rfl ⟨h.1, trivial⟩ ?_
        replace h := h.2
        exact Runs.fg (fgE (fgE (fgE (fgU fg0)))) h
    · replace h := h.2 c
      refine r_blk [qO (.aload_n 0), qO (.iload_n 2), qO (.iconst 1)] (pc' := 110) (L' := [zR 34 0, zI l1, zI l2, zU]) (S' := [zI 1, zI l2, zR 34 0]) (σ' := σ1) (Ps := []) (by decide +kernel) rfl trivial ?_
      refine r_callVI (As := [zI l2, zI 1]) (S := []) (Lc := [zR 34 0, zI l2, zI 1]) (d' := 0) (n := 2) (g := 34) (x := 0) (ci := 11) kX11_get vX11_get lkX11_106 (by decide +kernel) (by omega) rfl rfl (by decide) rfl rfl (Nat.le_of_ble_eq_true rfl) rfl rfl (Nat.le_of_ble_eq_true rfl) (pX11_get h.1 (by decide) ?_)
      replace h := h.2
      refine r_blk [qO (.goto 9), qO (.istore_n 3), qO (.aload_n 0), qF (.getfield 175) 11 19, qO (.iload_n 3), qO .ishr, qO (.iconst 1), qO .iand] (pc' := 131) (L' := [zR 34 0, zI l1, zI l2, zI (sg (σ1 36 0) l2 1)]) (S' := [zI (bitz (σ1 34 0 19) (sg (σ1 36 0) l2 1))]) (σ' := σ1) (Ps := []) (by decide +kernel) rfl trivial ?_
      refine r_if_ne (off := 8) (tgt := 139) (by decide +kernel) (by decide) (fun c => ?_) (fun c => ?_)
      · replace h := h.1 c
        refine r_blk [qO (.iinc 2 1), qO (.goto (-128))] (pc' := 14) (L' := [zR 34 0, zI l1, zI (l2 + 1), zI (sg (σ1 36 0) l2 1)]) (S' := []) (σ' := σ1) (Ps := [-2147483648 ≤ l2 + 1 ∧ l2 + 1 ≤ 2147483647]) (by decide +kernel) rfl ⟨h.1, trivial⟩ ?_
        replace h := h.2
        exact Runs.fg (fgE (fgE (fgE (fgU fg0)))) h
      · replace h := h.2 c
        refine r_blk [qO (.aload_n 0), qO (.iload_n 3)] (pc' := 136) (L' := [zR 34 0, zI l1, zI l2, zI (sg (σ1 36 0) l2 1)]) (S' := [zI (sg (σ1 36 0) l2 1), zR 34 0]) (σ' := σ1) (Ps := []) (by decide +kernel) rfl trivial ?_
        refine r_callVV (As := [zI (sg (σ1 36 0) l2 1)]) (S := []) (Lc := [zR 34 0, zI (sg (σ1 36 0) l2 1), zU, zU]) (d' := d) (n := 1) (g := 34) (x := 0) (ci := 11) kX11_walks vX11_walks lkX11_184 (by decide +kernel) (by omega) rfl rfl (by decide) rfl rfl (Nat.le_of_ble_eq_true rfl) rfl rfl (Nat.le_of_ble_eq_true rfl) (h.monoV (fun σ3 h => ?_))
        refine r_blk [qO (.iinc 2 1), qO (.goto (-128))] (pc' := 14) (L' := [zR 34 0, zI l1, zI (l2 + 1), zI (sg (σ1 36 0) l2 1)]) (S' := []) (σ' := σ3) (Ps := [-2147483648 ≤ l2 + 1 ∧ l2 + 1 ≤ 2147483647]) (by decide +kernel) rfl ⟨h.1, trivial⟩ ?_
        replace h := h.2
        exact Runs.fg (fgE (fgE (fgE (fgU fg0)))) h
  · replace h := h.2 c
    refine r_blk [qO (.iconst 1), qO (.iload_n 2), qO .ishl, qO (.goto 4), qO .ior, qF (.putfield 181) 11 18, qO (.aload_n 0), qO (.iload_n 2), qO (.iconst 0)] (pc' := 100) (L' := [zR 34 0, zI l1, zI l2, zU]) (S' := [zI 0, zI l2, zR 34 0]) (σ' := (zup (zup σ 34 0 17 (zor (σ 34 0 17) (zshl 1 l2))) 34 0 18 (zor (σ 34 0 18) (zshl 1 l2)))) (Ps := []) (by decide +kernel) rfl trivial ?_
    generalize hσ4 : (zup (zup σ 34 0 17 (zor (σ 34 0 17) (zshl 1 l2))) 34 0 18 (zor (σ 34 0 18) (zshl 1 l2))) = σ4
    replace h := h σ4 hσ4.symm
    refine r_callVI (As := [zI l2, zI 0]) (S := []) (Lc := [zR 34 0, zI l2, zI 0]) (d' := 0) (n := 2) (g := 34) (x := 0) (ci := 11) kX11_get vX11_get lkX11_106 (by decide +kernel) (by omega) rfl rfl (by decide) rfl rfl (Nat.le_of_ble_eq_true rfl) rfl rfl (Nat.le_of_ble_eq_true rfl) (pX11_get h.1 (by decide) ?_)
    replace h := h.2
    refine r_blk [qO (.iload_n 1)] (pc' := 104) (L' := [zR 34 0, zI l1, zI l2, zU]) (S' := [zI l1, zI (sg (σ4 36 0) l2 0)]) (σ' := σ4) (Ps := []) (by decide +kernel) rfl trivial ?_
    refine r_icmp_ne (off := 12) (tgt := 116) (by decide +kernel) (by decide) (fun c => ?_) (fun c => ?_)
    · replace h := h.1 c
      refine r_blk [qO (.aload_n 0), qO (.iload_n 2), qO (.iconst 0)] (pc' := 119) (L' := [zR 34 0, zI l1, zI l2, zU]) (S' := [zI 0, zI l2, zR 34 0]) (σ' := σ4) (Ps := []) (by decide +kernel) rfl trivial ?_
      refine r_callVI (As := [zI l2, zI 0]) (S := []) (Lc := [zR 34 0, zI l2, zI 0]) (d' := 0) (n := 2) (g := 34) (x := 0) (ci := 11) kX11_get vX11_get lkX11_106 (by decide +kernel) (by omega) rfl rfl (by decide) rfl rfl (Nat.le_of_ble_eq_true rfl) rfl rfl (Nat.le_of_ble_eq_true rfl) (pX11_get h.1 (by decide) ?_)
      replace h := h.2
      refine r_blk [qO (.istore_n 3), qO (.aload_n 0), qF (.getfield 175) 11 19, qO (.iload_n 3), qO .ishr, qO (.iconst 1), qO .iand] (pc' := 131) (L' := [zR 34 0, zI l1, zI l2, zI (sg (σ4 36 0) l2 0)]) (S' := [zI (bitz (σ4 34 0 19) (sg (σ4 36 0) l2 0))]) (σ' := σ4) (Ps := []) (by decide +kernel) rfl trivial ?_
      refine r_if_ne (off := 8) (tgt := 139) (by decide +kernel) (by decide) (fun c => ?_) (fun c => ?_)
      · replace h := h.1 c
        refine r_blk [qO (.iinc 2 1), qO (.goto (-128))] (pc' := 14) (L' := [zR 34 0, zI l1, zI (l2 + 1), zI (sg (σ4 36 0) l2 0)]) (S' := []) (σ' := σ4) (Ps := [-2147483648 ≤ l2 + 1 ∧ l2 + 1 ≤ 2147483647]) (by decide +kernel) rfl ⟨h.1, trivial⟩ ?_
        replace h := h.2
        exact Runs.fg (fgE (fgE (fgE (fgU fg0)))) h
      · replace h := h.2 c
        refine r_blk [qO (.aload_n 0), qO (.iload_n 3)] (pc' := 136) (L' := [zR 34 0, zI l1, zI l2, zI (sg (σ4 36 0) l2 0)]) (S' := [zI (sg (σ4 36 0) l2 0), zR 34 0]) (σ' := σ4) (Ps := []) (by decide +kernel) rfl trivial ?_
        refine r_callVV (As := [zI (sg (σ4 36 0) l2 0)]) (S := []) (Lc := [zR 34 0, zI (sg (σ4 36 0) l2 0), zU, zU]) (d' := d) (n := 1) (g := 34) (x := 0) (ci := 11) kX11_walks vX11_walks lkX11_184 (by decide +kernel) (by omega) rfl rfl (by decide) rfl rfl (Nat.le_of_ble_eq_true rfl) rfl rfl (Nat.le_of_ble_eq_true rfl) (h.monoV (fun σ5 h => ?_))
        refine r_blk [qO (.iinc 2 1), qO (.goto (-128))] (pc' := 14) (L' := [zR 34 0, zI l1, zI (l2 + 1), zI (sg (σ4 36 0) l2 0)]) (S' := []) (σ' := σ5) (Ps := [-2147483648 ≤ l2 + 1 ∧ l2 + 1 ≤ 2147483647]) (by decide +kernel) rfl ⟨h.1, trivial⟩ ?_
        replace h := h.2
        exact Runs.fg (fgE (fgE (fgE (fgU fg0)))) h
    · replace h := h.2 c
      refine r_blk [qO (.aload_n 0), qO (.iload_n 2), qO (.iconst 1)] (pc' := 110) (L' := [zR 34 0, zI l1, zI l2, zU]) (S' := [zI 1, zI l2, zR 34 0]) (σ' := σ4) (Ps := []) (by decide +kernel) rfl trivial ?_
      refine r_callVI (As := [zI l2, zI 1]) (S := []) (Lc := [zR 34 0, zI l2, zI 1]) (d' := 0) (n := 2) (g := 34) (x := 0) (ci := 11) kX11_get vX11_get lkX11_106 (by decide +kernel) (by omega) rfl rfl (by decide) rfl rfl (Nat.le_of_ble_eq_true rfl) rfl rfl (Nat.le_of_ble_eq_true rfl) (pX11_get h.1 (by decide) ?_)
      replace h := h.2
      refine r_blk [qO (.goto 9), qO (.istore_n 3), qO (.aload_n 0), qF (.getfield 175) 11 19, qO (.iload_n 3), qO .ishr, qO (.iconst 1), qO .iand] (pc' := 131) (L' := [zR 34 0, zI l1, zI l2, zI (sg (σ4 36 0) l2 1)]) (S' := [zI (bitz (σ4 34 0 19) (sg (σ4 36 0) l2 1))]) (σ' := σ4) (Ps := []) (by decide +kernel) rfl trivial ?_
      refine r_if_ne (off := 8) (tgt := 139) (by decide +kernel) (by decide) (fun c => ?_) (fun c => ?_)
      · replace h := h.1 c
        refine r_blk [qO (.iinc 2 1), qO (.goto (-128))] (pc' := 14) (L' := [zR 34 0, zI l1, zI (l2 + 1), zI (sg (σ4 36 0) l2 1)]) (S' := []) (σ' := σ4) (Ps := [-2147483648 ≤ l2 + 1 ∧ l2 + 1 ≤ 2147483647]) (by decide +kernel) rfl ⟨h.1, trivial⟩ ?_
        replace h := h.2
        exact Runs.fg (fgE (fgE (fgE (fgU fg0)))) h
      · replace h := h.2 c
        refine r_blk [qO (.aload_n 0), qO (.iload_n 3)] (pc' := 136) (L' := [zR 34 0, zI l1, zI l2, zI (sg (σ4 36 0) l2 1)]) (S' := [zI (sg (σ4 36 0) l2 1), zR 34 0]) (σ' := σ4) (Ps := []) (by decide +kernel) rfl trivial ?_
        refine r_callVV (As := [zI (sg (σ4 36 0) l2 1)]) (S := []) (Lc := [zR 34 0, zI (sg (σ4 36 0) l2 1), zU, zU]) (d' := d) (n := 1) (g := 34) (x := 0) (ci := 11) kX11_walks vX11_walks lkX11_184 (by decide +kernel) (by omega) rfl rfl (by decide) rfl rfl (Nat.le_of_ble_eq_true rfl) rfl rfl (Nat.le_of_ble_eq_true rfl) (h.monoV (fun σ6 h => ?_))
        refine r_blk [qO (.iinc 2 1), qO (.goto (-128))] (pc' := 14) (L' := [zR 34 0, zI l1, zI (l2 + 1), zI (sg (σ4 36 0) l2 1)]) (S' := []) (σ' := σ6) (Ps := [-2147483648 ≤ l2 + 1 ∧ l2 + 1 ≤ 2147483647]) (by decide +kernel) rfl ⟨h.1, trivial⟩ ?_
        replace h := h.2
        exact Runs.fg (fgE (fgE (fgE (fgU fg0)))) h
