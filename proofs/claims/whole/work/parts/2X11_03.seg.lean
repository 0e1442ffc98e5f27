theorem gX11_longestAt_0 (a0 : Int) (σ : Hp) {Q : Option Int → Hp → Prop} (h : Runs 4 mX11_apartAt 0 [zR 34 0, zI a0, zU, zU, zU] [] σ (rI (fun z2 σ1 => ((z2 ≤ 0 → Runs 5 mX11_longestAt 15 [zR 34 0, zU, zI 0, zI 0, zU] [] σ1 Q) ∧ (¬ z2 ≤ 0 → Q (some (-9)) σ1))))) : Runs 5 mX11_longestAt 0 [zR 34 0, zI a0, zU, zU, zU] [] σ Q := by
  refine r_blk [qO (.aload_n 0), qO (.iload_n 1)] (pc' := 2) (L' := [zR 34 0, zI a0, zU, zU, zU]) (S' := [zI a0, zR 34 0]) (σ' := σ) (Ps := []) (by decide +kernel) rfl trivial ?_
  refine r_callVI (As := [zI a0]) (S := []) (Lc := [zR 34 0, zI a0, zU, zU, zU]) (d' := 4) (n := 1) (g := 34) (x := 0) (ci := 11) kX11_apartAt vX11_apartAt lkX11_160 (by decide +kernel) (by decide) rfl rfl (by decide) rfl rfl (Nat.le_of_ble_eq_true rfl) rfl rfl (Nat.le_of_ble_eq_true rfl) (h.monoI (fun z2 σ1 h => ?_))
  refine r_if_le (off := 6) (tgt := 11) (by decide +kernel) (by decide) (fun c => ?_) (fun c => ?_)
  · replace h := h.1 c
    refine r_blk [qO (.iconst 0), qO (.istore_n 2), qO (.iconst 0), qO (.istore_n 3)] (pc' := 15) (L' := [zR 34 0, zI a0, zI 0, zI 0, zU]) (S' := []) (σ' := σ1) (Ps := []) (by decide +kernel) rfl trivial ?_
    exact Runs.fg (fgE (fgU (fgE (fgE (fgU fg0))))) h
  · replace h := h.2 c
    refine r_blk [qO (.bipush (-9))] (pc' := 10) (L' := [zR 34 0, zI a0, zU, zU, zU]) (S' := [zI (-9)]) (σ' := σ1) (Ps := []) (by decide +kernel) rfl trivial ?_
    exact r_ret (by decide +kernel) rfl (fun _ => h)
theorem gX11_longestAt_15 (l2 : Int) (l3 : Int) (σ : Hp) {Q : Option Int → Hp → Prop} (h : ((σ 36 0 0 ≤ l3 → Q (some l2) σ) ∧ (¬ σ 36 0 0 ≤ l3 → Runs 5 mX11_longestAt 28 [zR 34 0, zU, zI l2, zI l3, zI 0] [] σ Q))) : Runs 5 mX11_longestAt 15 [zR 34 0, zU, zI l2, zI l3, zU] [] σ Q := by
  refine r_blk [qO (.iload_n 3), qO (.aload_n 0), qF (.getfield 13) 11 1, qO (.iconst 0), qO .iaload] (pc' := 22) (L' := [zR 34 0, zU, zI l2, zI l3, zU]) (S' := [zI (σ 36 0 0), zI l3]) (σ' := σ) (Ps := [0 ≤ 0 ∧ 0 < 123]) (by decide +kernel) rfl ⟨(by decide), trivial⟩ ?_
  refine r_icmp_ge (off := 62) (tgt := 84) (by decide +kernel) (by decide) (fun c => ?_) (fun c => ?_)
  · replace h := h.1 c
    refine r_blk [qO (.iload_n 2)] (pc' := 85) (L' := [zR 34 0, zU, zI l2, zI l3, zU]) (S' := [zI l2]) (σ' := σ) (Ps := []) (by decide +kernel) rfl trivial ?_
    exact r_ret (by decide +kernel) rfl (fun _ => h)
  · replace h := h.2 c
    refine r_blk [qO (.iconst 0), qO (.istore 4)] (pc' := 28) (L' := [zR 34 0, zU, zI l2, zI l3, zI 0]) (S' := []) (σ' := σ) (Ps := []) (by decide +kernel) rfl trivial ?_
    exact Runs.fg (fgE (fgU (fgE (fgE (fgE fg0))))) h
theorem gX11_longestAt_28 (l2 : Int) (l3 : Int) (l4 : Int) (σ : Hp) {Q : Option Int → Hp → Prop} (h : ((σ 36 0 0 ≤ l4 → (-2147483648 ≤ l3 + 1 ∧ l3 + 1 ≤ 2147483647) ∧ Runs 5 mX11_longestAt 15 [zR 34 0, zU, zI l2, zI (l3 + 1), zU] [] σ Q) ∧ (¬ σ 36 0 0 ≤ l4 → (-2147483648 ≤ 10 * l3 ∧ 10 * l3 ≤ 2147483647) ∧ (-2147483648 ≤ (10 * l3) + l4 ∧ (10 * l3) + l4 ≤ 2147483647) ∧ (0 ≤ (10 * l3) + l4 ∧ (10 * l3) + l4 < 100) ∧ ((σ 46 0 (((10 * l3) + l4).toNat) ≤ l2 → (-2147483648 ≤ l4 + 1 ∧ l4 + 1 ≤ 2147483647) ∧ Runs 5 mX11_longestAt 28 [zR 34 0, zU, zI l2, zI l3, zI (l4 + 1)] [] σ Q) ∧ (¬ σ 46 0 (((10 * l3) + l4).toNat) ≤ l2 → (-2147483648 ≤ 10 * l3 ∧ 10 * l3 ≤ 2147483647) ∧ (-2147483648 ≤ (10 * l3) + l4 ∧ (10 * l3) + l4 ≤ 2147483647) ∧ (0 ≤ (10 * l3) + l4 ∧ (10 * l3) + l4 < 100) ∧ (-2147483648 ≤ l4 + 1 ∧ l4 + 1 ≤ 2147483647) ∧ Runs 5 mX11_longestAt 28 [zR 34 0, zU, zI (σ 46 0 (((10 * l3) + l4).toNat)), zI l3, zI (l4 + 1)] [] σ Q))))) : Runs 5 mX11_longestAt 28 [zR 34 0, zU, zI l2, zI l3, zI l4] [] σ Q := by
  refine r_blk [qO (.iload 4), qO (.aload_n 0), qF (.getfield 13) 11 1, qO (.iconst 0), qO .iaload] (pc' := 36) (L' := [zR 34 0, zU, zI l2, zI l3, zI l4]) (S' := [zI (σ 36 0 0), zI l4]) (σ' := σ) (Ps := [0 ≤ 0 ∧ 0 < 123]) (by decide +kernel) rfl ⟨(by decide), trivial⟩ ?_
  refine r_icmp_ge (off := 42) (tgt := 78) (by decide +kernel) (by decide) (fun c => ?_) (fun c => ?_)
  · replace h := h.1 c
    refine r_blk [qO (.iinc 3 1), qO (.goto (-66))] (pc' := 15) (L' := [zR 34 0, zU, zI l2, zI (l3 + 1), zI l4]) (S' := []) (σ' := σ) (Ps := [-2147483648 ≤ l3 + 1 ∧ l3 + 1 ≤ 2147483647]) (by decide +kernel) rfl ⟨h.1, trivial⟩ ?_
    replace h := h.2
    exact Runs.fg (fgE (fgU (fgE (fgE (fgU fg0))))) h
  · replace h := h.2 c
    refine r_blk [qO (.aload_n 0), qF (.getfield 44) 11 16, qO (.bipush 10), qO (.iload_n 3), qO .imul, qO (.iload 4), qO .iadd, qO .iaload, qO (.iload_n 2)] (pc' := 52) (L' := [zR 34 0, zU, zI l2, zI l3, zI l4]) (S' := [zI l2, zI (σ 46 0 (((10 * l3) + l4).toNat))]) (σ' := σ) (Ps := [-2147483648 ≤ 10 * l3 ∧ 10 * l3 ≤ 2147483647, -2147483648 ≤ (10 * l3) + l4 ∧ (10 * l3) + l4 ≤ 2147483647, 0 ≤ (10 * l3) + l4 ∧ (10 * l3) + l4 < 100]) (by decide +kernel) rfl ⟨h.1, h.2.1, h.2.2.1, trivial⟩ ?_
    replace h := h.2.2.2
    refine r_icmp_le (off := 18) (tgt := 70) (by decide +kernel) (by decide) (fun c => ?_) (fun c => ?_)
    · replace h := h.1 c
      refine r_blk [qO (.iload_n 2), qO (.istore_n 2), qO (.iinc 4 1), qO (.goto (-47))] (pc' := 28) (L' := [zR 34 0, zU, zI l2, zI l3, zI (l4 + 1)]) (S' := []) (σ' := σ) (Ps := [-2147483648 ≤ l4 + 1 ∧ l4 + 1 ≤ 2147483647]) (by decide +kernel) rfl ⟨h.1, trivial⟩ ?_
      replace h := h.2
      exact Runs.fg (fgE (fgU (fgE (fgE (fgE fg0))))) h
    · replace h := h.2 c
      refine r_blk [qO (.aload_n 0), qF (.getfield 44) 11 16, qO (.bipush 10), qO (.iload_n 3), qO .imul, qO (.iload 4), qO .iadd, qO .iaload, qO (.goto 4), qO (.istore_n 2), qO (.iinc 4 1), qO (.goto (-47))] (pc' := 28) (L' := [zR 34 0, zU, zI (σ 46 0 (((10 * l3) + l4).toNat)), zI l3, zI (l4 + 1)]) (S' := []) (σ' := σ) (Ps := [-2147483648 ≤ 10 * l3 ∧ 10 * l3 ≤ 2147483647, -2147483648 ≤ (10 * l3) + l4 ∧ (10 * l3) + l4 ≤ 2147483647, 0 ≤ (10 * l3) + l4 ∧ (10 * l3) + l4 < 100, -2147483648 ≤ l4 + 1 ∧ l4 + 1 ≤ 2147483647]) (by decide +kernel) rfl ⟨h.1, h.2.1, h.2.2.1, h.2.2.2.1, trivial⟩ ?_
      replace h := h.2.2.2.2
      exact Runs.fg (fgE (fgU (fgE (fgE (fgE fg0))))) h
theorem gX11_all_0 (a0 : Int) (σ : Hp) {Q : Option Int → Hp → Prop} (h : Runs 0 mX11_within 0 [zI a0, zI 0, zI 2879] [] σ (rI (fun z2 σ1 => ((z2 = 0 → Runs 4 mX11_apartAt 0 [zR 34 0, zI a0, zU, zU, zU] [] σ1 (rI (fun z4 σ3 => ((¬ z4 = 0 → Q (some 0) σ3) ∧ (z4 = 0 → Q (some 1) σ3))))) ∧ (¬ z2 = 0 → Runs 0 mX11_refuse 0 [zR 34 0, zI z2] [] σ1 (rI (fun z6 σ5 => Q (some z6) σ5))))))) : Runs 5 mX11_all 0 [zR 34 0, zI a0, zU] [] σ Q := by
  refine r_blk [qO (.iload_n 1), qO (.iconst 0), qO (.sipush 2879)] (pc' := 5) (L' := [zR 34 0, zI a0, zU]) (S' := [zI 2879, zI 0, zI a0]) (σ' := σ) (Ps := []) (by decide +kernel) rfl trivial ?_
  refine r_callSI (As := [zI a0, zI 0, zI 2879]) (S := []) (Lc := [zI a0, zI 0, zI 2879]) (d' := 0) (n := 3) kX11_within vX11_within lkX11_119 (by decide +kernel) (by decide) rfl rfl (Nat.le_of_ble_eq_true rfl) rfl rfl (Nat.le_of_ble_eq_true rfl) (h.monoI (fun z2 σ1 h => ?_))
  refine r_blk [qO (.istore_n 2), qO (.iload_n 2)] (pc' := 10) (L' := [zR 34 0, zI a0, zI z2]) (S' := [zI z2]) (σ' := σ1) (Ps := []) (by decide +kernel) rfl trivial ?_
  refine r_if_eq (off := 11) (tgt := 21) (by decide +kernel) (by decide) (fun c => ?_) (fun c => ?_)
  · replace h := h.1 c
    refine r_blk [qO (.aload_n 0), qO (.iload_n 1)] (pc' := 23) (L' := [zR 34 0, zI a0, zI z2]) (S' := [zI a0, zR 34 0]) (σ' := σ1) (Ps := []) (by decide +kernel) rfl trivial ?_
    refine r_callVI (As := [zI a0]) (S := []) (Lc := [zR 34 0, zI a0, zU, zU, zU]) (d' := 4) (n := 1) (g := 34) (x := 0) (ci := 11) kX11_apartAt vX11_apartAt lkX11_160 (by decide +kernel) (by decide) rfl rfl (by decide) rfl rfl (Nat.le_of_ble_eq_true rfl) rfl rfl (Nat.le_of_ble_eq_true rfl) (h.monoI (fun z4 σ3 h => ?_))
    refine r_if_ne (off := 7) (tgt := 33) (by decide +kernel) (by decide) (fun c => ?_) (fun c => ?_)
    · replace h := h.1 c
      refine r_blk [qO (.iconst 0)] (pc' := 34) (L' := [zR 34 0, zI a0, zI z2]) (S' := [zI 0]) (σ' := σ3) (Ps := []) (by decide +kernel) rfl trivial ?_
      exact r_ret (by decide +kernel) rfl (fun _ => h)
    · replace h := h.2 c
      refine r_blk [qO (.iconst 1), qO (.goto 4)] (pc' := 34) (L' := [zR 34 0, zI a0, zI z2]) (S' := [zI 1]) (σ' := σ3) (Ps := []) (by decide +kernel) rfl trivial ?_
      exact r_ret (by decide +kernel) rfl (fun _ => h)
  · replace h := h.2 c
    refine r_blk [qO (.aload_n 0), qO (.iload_n 2)] (pc' := 15) (L' := [zR 34 0, zI a0, zI z2]) (S' := [zI z2, zR 34 0]) (σ' := σ1) (Ps := []) (by decide +kernel) rfl trivial ?_
    refine r_callVI (As := [zI z2]) (S := []) (Lc := [zR 34 0, zI z2]) (d' := 0) (n := 1) (g := 34) (x := 0) (ci := 11) kX11_refuse vX11_refuse lkX11_66 (by decide +kernel) (by decide) rfl rfl (by decide) rfl rfl (Nat.le_of_ble_eq_true rfl) rfl rfl (Nat.le_of_ble_eq_true rfl) (h.monoI (fun z6 σ5 h => ?_))
    refine r_blk [qO (.goto 16)] (pc' := 34) (L' := [zR 34 0, zI a0, zI z2]) (S' := [zI z6]) (σ' := σ5) (Ps := []) (by decide +kernel) rfl trivial ?_
    exact r_ret (by decide +kernel) rfl (fun _ => h)
theorem gX11_longest_0 (a0 : Int) (σ : Hp) {Q : Option Int → Hp → Prop} (h : Runs 0 mX11_within 0 [zI a0, zI 0, zI 2879] [] σ (rI (fun z2 σ1 => ((z2 = 0 → Runs 5 mX11_longestAt 0 [zR 34 0, zI a0, zU, zU, zU] [] σ1 (rI (fun z4 σ3 => Q (some z4) σ3))) ∧ (¬ z2 = 0 → Runs 0 mX11_refuse 0 [zR 34 0, zI z2] [] σ1 (rI (fun z6 σ5 => Q (some z6) σ5))))))) : Runs 6 mX11_longest 0 [zR 34 0, zI a0, zU] [] σ Q := by
  refine r_blk [qO (.iload_n 1), qO (.iconst 0), qO (.sipush 2879)] (pc' := 5) (L' := [zR 34 0, zI a0, zU]) (S' := [zI 2879, zI 0, zI a0]) (σ' := σ) (Ps := []) (by decide +kernel) rfl trivial ?_
  refine r_callSI (As := [zI a0, zI 0, zI 2879]) (S := []) (Lc := [zI a0, zI 0, zI 2879]) (d' := 0) (n := 3) kX11_within vX11_within lkX11_119 (by decide +kernel) (by decide) rfl rfl (Nat.le_of_ble_eq_true rfl) rfl rfl (Nat.le_of_ble_eq_true rfl) (h.monoI (fun z2 σ1 h => ?_))
  refine r_blk [qO (.istore_n 2), qO (.iload_n 2)] (pc' := 10) (L' := [zR 34 0, zI a0, zI z2]) (S' := [zI z2]) (σ' := σ1) (Ps := []) (by decide +kernel) rfl trivial ?_
  refine r_if_eq (off := 11) (tgt := 21) (by decide +kernel) (by decide) (fun c => ?_) (fun c => ?_)
  · replace h := h.1 c
    refine r_blk [qO (.aload_n 0), qO (.iload_n 1)] (pc' := 23) (L' := [zR 34 0, zI a0, zI z2]) (S' := [zI a0, zR 34 0]) (σ' := σ1) (Ps := []) (by decide +kernel) rfl trivial ?_
    refine r_callVI (As := [zI a0]) (S := []) (Lc := [zR 34 0, zI a0, zU, zU, zU]) (d' := 5) (n := 1) (g := 34) (x := 0) (ci := 11) kX11_longestAt vX11_longestAt lkX11_163 (by decide +kernel) (by decide) rfl rfl (by decide) rfl rfl (Nat.le_of_ble_eq_true rfl) rfl rfl (Nat.le_of_ble_eq_true rfl) (h.monoI (fun z4 σ3 h => ?_))
    exact r_ret (by decide +kernel) rfl (fun _ => h)
  · replace h := h.2 c
    refine r_blk [qO (.aload_n 0), qO (.iload_n 2)] (pc' := 15) (L' := [zR 34 0, zI a0, zI z2]) (S' := [zI z2, zR 34 0]) (σ' := σ1) (Ps := []) (by decide +kernel) rfl trivial ?_
    refine r_callVI (As := [zI z2]) (S := []) (Lc := [zR 34 0, zI z2]) (d' := 0) (n := 1) (g := 34) (x := 0) (ci := 11) kX11_refuse vX11_refuse lkX11_66 (by decide +kernel) (by decide) rfl rfl (by decide) rfl rfl (Nat.le_of_ble_eq_true rfl) rfl rfl (Nat.le_of_ble_eq_true rfl) (h.monoI (fun z6 σ5 h => ?_))
    refine r_blk [qO (.goto 8)] (pc' := 26) (L' := [zR 34 0, zI a0, zI z2]) (S' := [zI z6]) (σ' := σ5) (Ps := []) (by decide +kernel) rfl trivial ?_
    exact r_ret (by decide +kernel) rfl (fun _ => h)
theorem gX11_apart_0 (a0 : Int) (σ : Hp) {Q : Option Int → Hp → Prop} (h : Runs 0 mX11_within 0 [zI a0, zI 0, zI 2879] [] σ (rI (fun z2 σ1 => ((z2 = 0 → Runs 4 mX11_apartAt 0 [zR 34 0, zI a0, zU, zU, zU] [] σ1 (rI (fun z4 σ3 => Q (some z4) σ3))) ∧ (¬ z2 = 0 → Runs 0 mX11_refuse 0 [zR 34 0, zI z2] [] σ1 (rI (fun z6 σ5 => Q (some z6) σ5))))))) : Runs 5 mX11_apart 0 [zR 34 0, zI a0, zU] [] σ Q := by
  refine r_blk [qO (.iload_n 1), qO (.iconst 0), qO (.sipush 2879)] (pc' := 5) (L' := [zR 34 0, zI a0, zU]) (S' := [zI 2879, zI 0, zI a0]) (σ' := σ) (Ps := []) (by decide +kernel) rfl trivial ?_
  refine r_callSI (As := [zI a0, zI 0, zI 2879]) (S := []) (Lc := [zI a0, zI 0, zI 2879]) (d' := 0) (n := 3) kX11_within vX11_within lkX11_119 (by decide +kernel) (by decide) rfl rfl (Nat.le_of_ble_eq_true rfl) rfl rfl (Nat.le_of_ble_eq_true rfl) (h.monoI (fun z2 σ1 h => ?_))
  refine r_blk [qO (.istore_n 2), qO (.iload_n 2)] (pc' := 10) (L' := [zR 34 0, zI a0, zI z2]) (S' := [zI z2]) (σ' := σ1) (Ps := []) (by decide +kernel) rfl trivial ?_
  refine r_if_eq (off := 11) (tgt := 21) (by decide +kernel) (by decide) (fun c => ?_) (fun c => ?_)
  · replace h := h.1 c
    refine r_blk [qO (.aload_n 0), qO (.iload_n 1)] (pc' := 23) (L' := [zR 34 0, zI a0, zI z2]) (S' := [zI a0, zR 34 0]) (σ' := σ1) (Ps := []) (by decide +kernel) rfl trivial ?_
    refine r_callVI (As := [zI a0]) (S := []) (Lc := [zR 34 0, zI a0, zU, zU, zU]) (d' := 4) (n := 1) (g := 34) (x := 0) (ci := 11) kX11_apartAt vX11_apartAt lkX11_160 (by decide +kernel) (by decide) rfl rfl (by decide) rfl rfl (Nat.le_of_ble_eq_true rfl) rfl rfl (Nat.le_of_ble_eq_true rfl) (h.monoI (fun z4 σ3 h => ?_))
    exact r_ret (by decide +kernel) rfl (fun _ => h)
  · replace h := h.2 c
    refine r_blk [qO (.aload_n 0), qO (.iload_n 2)] (pc' := 15) (L' := [zR 34 0, zI a0, zI z2]) (S' := [zI z2, zR 34 0]) (σ' := σ1) (Ps := []) (by decide +kernel) rfl trivial ?_
    refine r_callVI (As := [zI z2]) (S := []) (Lc := [zR 34 0, zI z2]) (d' := 0) (n := 1) (g := 34) (x := 0) (ci := 11) kX11_refuse vX11_refuse lkX11_66 (by decide +kernel) (by decide) rfl rfl (by decide) rfl rfl (Nat.le_of_ble_eq_true rfl) rfl rfl (Nat.le_of_ble_eq_true rfl) (h.monoI (fun z6 σ5 h => ?_))
    refine r_blk [qO (.goto 8)] (pc' := 26) (L' := [zR 34 0, zI a0, zI z2]) (S' := [zI z6]) (σ' := σ5) (Ps := []) (by decide +kernel) rfl trivial ?_
    exact r_ret (by decide +kernel) rfl (fun _ => h)
theorem gX11_hang_0 (a0 : Int) (a1 : Int) (σ : Hp) {Q : Option Int → Hp → Prop} (h : Runs 1 mX11_hang 7 [zR 34 0, zU, zI a1, zI (zshl 1 a0), zI 1, zU, zU, zU] [] σ Q) : Runs 1 mX11_hang 0 [zR 34 0, zI a0, zI a1, zU, zU, zU, zU, zU] [] σ Q := by
  refine r_blk [qO (.iconst 1), qO (.iload_n 1), qO .ishl, qO (.istore_n 3), qO (.iconst 1), qO (.istore 4)] (pc' := 7) (L' := [zR 34 0, zI a0, zI a1, zI (zshl 1 a0), zI 1, zU, zU, zU]) (S' := []) (σ' := σ) (Ps := []) (by decide +kernel) rfl trivial ?_
  exact Runs.fg (fgE (fgU (fgE (fgE (fgE (fgU (fgU (fgU fg0)))))))) h
theorem gX11_hang_7 (l2 : Int) (l3 : Int) (l4 : Int) (σ : Hp) {Q : Option Int → Hp → Prop} (h : ((l4 = 0 → Q (some l3) σ) ∧ (¬ l4 = 0 → Runs 1 mX11_hang 18 [zR 34 0, zU, zI l2, zI l3, zU, zI l3, zI 0, zU] [] σ Q))) : Runs 1 mX11_hang 7 [zR 34 0, zU, zI l2, zI l3, zI l4, zU, zU, zU] [] σ Q := by
  refine r_blk [qO (.iload 4)] (pc' := 9) (L' := [zR 34 0, zU, zI l2, zI l3, zI l4, zU, zU, zU]) (S' := [zI l4]) (σ' := σ) (Ps := []) (by decide +kernel) rfl trivial ?_
  refine r_if_eq (off := 84) (tgt := 93) (by decide +kernel) (by decide) (fun c => ?_) (fun c => ?_)
  · replace h := h.1 c
    refine r_blk [qO (.iload_n 3)] (pc' := 94) (L' := [zR 34 0, zU, zI l2, zI l3, zI l4, zU, zU, zU]) (S' := [zI l3]) (σ' := σ) (Ps := []) (by decide +kernel) rfl trivial ?_
    exact r_ret (by decide +kernel) rfl (fun _ => h)
  · replace h := h.2 c
    refine r_blk [qO (.iload_n 3), qO (.istore 5), qO (.iconst 0), qO (.istore 6)] (pc' := 18) (L' := [zR 34 0, zU, zI l2, zI l3, zI l4, zI l3, zI 0, zU]) (S' := []) (σ' := σ) (Ps := []) (by decide +kernel) rfl trivial ?_
    exact Runs.fg (fgE (fgU (fgE (fgE (fgU (fgE (fgE (fgU fg0)))))))) h
theorem gX11_hang_18 (l2 : Int) (l3 : Int) (l5 : Int) (l6 : Int) (σ : Hp) {Q : Option Int → Hp → Prop} (h : ((σ 36 0 1 ≤ l6 → ((l3 = l5 → Runs 1 mX11_hang 7 [zR 34 0, zU, zI l2, zI l3, zI 0, zU, zU, zU] [] σ Q) ∧ (¬ l3 = l5 → Runs 1 mX11_hang 7 [zR 34 0, zU, zI l2, zI l3, zI 1, zU, zU, zU] [] σ Q))) ∧ (¬ σ 36 0 1 ≤ l6 → ((¬ l6 = l2 → Runs 0 mX11_get 0 [zR 34 0, zI l6, zI 0] [] σ (rI (fun z2 σ1 => Runs 0 mX11_get 0 [zR 34 0, zI l6, zI 1] [] σ1 (rI (fun z4 σ3 => ((zand l3 (zor (zshl 1 z2) (zshl 1 z4)) = 0 → (-2147483648 ≤ l6 + 1 ∧ l6 + 1 ≤ 2147483647) ∧ Runs 1 mX11_hang 18 [zR 34 0, zU, zI l2, zI l3, zU, zI l5, zI (l6 + 1), zU] [] σ3 Q) ∧ (¬ zand l3 (zor (zshl 1 z2) (zshl 1 z4)) = 0 → (-2147483648 ≤ l6 + 1 ∧ l6 + 1 ≤ 2147483647) ∧ Runs 1 mX11_hang 18 [zR 34 0, zU, zI l2, zI (zor l3 (zor (zshl 1 z2) (zshl 1 z4))), zU, zI l5, zI (l6 + 1), zU] [] σ3 Q))))))) ∧ (l6 = l2 → (-2147483648 ≤ l6 + 1 ∧ l6 + 1 ≤ 2147483647) ∧ Runs 1 mX11_hang 18 [zR 34 0, zU, zI l2, zI l3, zU, zI l5, zI (l6 + 1), zU] [] σ Q))))) : Runs 1 mX11_hang 18 [zR 34 0, zU, zI l2, zI l3, zU, zI l5, zI l6, zU] [] σ Q := by
  refine r_blk [qO (.iload 6), qO (.aload_n 0), qF (.getfield 13) 11 1, qO (.iconst 1), qO .iaload] (pc' := 26) (L' := [zR 34 0, zU, zI l2, zI l3, zU, zI l5, zI l6, zU]) (S' := [zI (σ 36 0 1), zI l6]) (σ' := σ) (Ps := [0 ≤ 1 ∧ 1 < 123]) (by decide +kernel) rfl ⟨(by decide), trivial⟩ ?_
  refine r_icmp_ge (off := 51) (tgt := 77) (by decide +kernel) (by decide) (fun c => ?_) (fun c => ?_)
  · replace h := h.1 c
    refine r_blk [qO (.iload_n 3), qO (.iload 5)] (pc' := 80) (L' := [zR 34 0, zU, zI l2, zI l3, zU, zI l5, zI l6, zU]) (S' := [zI l5, zI l3]) (σ' := σ) (Ps := []) (by decide +kernel) rfl trivial ?_
    refine r_icmp_eq (off := 7) (tgt := 87) (by decide +kernel) (by decide) (fun c => ?_) (fun c => ?_)
    · replace h := h.1 c
      refine r_blk [qO (.iconst 0), qO (.istore 4), qO (.goto (-83))] (pc' := 7) (L' := [zR 34 0, zU, zI l2, zI l3, zI 0, zI l5, zI l6, zU]) (S' := []) (σ' := σ) (Ps := []) (by decide +kernel) rfl trivial ?_
      exact Runs.fg (fgE (fgU (fgE (fgE (fgE (fgU (fgU (fgU fg0)))))))) h
    · replace h := h.2 c
      refine r_blk [qO (.iconst 1), qO (.goto 4), qO (.istore 4), qO (.goto (-83))] (pc' := 7) (L' := [zR 34 0, zU, zI l2, zI l3, zI 1, zI l5, zI l6, zU]) (S' := []) (σ' := σ) (Ps := []) (by decide +kernel) rfl trivial ?_
      exact Runs.fg (fgE (fgU (fgE (fgE (fgE (fgU (fgU (fgU fg0)))))))) h
  · replace h := h.2 c
    refine r_blk [qO (.iload 6), qO (.iload_n 2)] (pc' := 32) (L' := [zR 34 0, zU, zI l2, zI l3, zU, zI l5, zI l6, zU]) (S' := [zI l2, zI l6]) (σ' := σ) (Ps := []) (by decide +kernel) rfl trivial ?_
    refine r_icmp_ne (off := 6) (tgt := 38) (by decide +kernel) (by decide) (fun c => ?_) (fun c => ?_)
    · replace h := h.1 c
      refine r_blk [qO (.iconst 1), qO (.aload_n 0), qO (.iload 6), qO (.iconst 0)] (pc' := 43) (L' := [zR 34 0, zU, zI l2, zI l3, zU, zI l5, zI l6, zU]) (S' := [zI 0, zI l6, zR 34 0, zI 1]) (σ' := σ) (Ps := []) (by decide +kernel) rfl trivial ?_
      refine r_callVI (As := [zI l6, zI 0]) (S := [zI 1]) (Lc := [zR 34 0, zI l6, zI 0]) (d' := 0) (n := 2) (g := 34) (x := 0) (ci := 11) kX11_get vX11_get lkX11_106 (by decide +kernel) (by decide) rfl rfl (by decide) rfl rfl (Nat.le_of_ble_eq_true rfl) rfl rfl (Nat.le_of_ble_eq_true rfl) (h.monoI (fun z2 σ1 h => ?_))
      refine r_blk [qO .ishl, qO (.iconst 1), qO (.aload_n 0), qO (.iload 6), qO (.iconst 1)] (pc' := 52) (L' := [zR 34 0, zU, zI l2, zI l3, zU, zI l5, zI l6, zU]) (S' := [zI 1, zI l6, zR 34 0, zI 1, zI (zshl 1 z2)]) (σ' := σ1) (Ps := []) (by decide +kernel) rfl trivial ?_
      refine r_callVI (As := [zI l6, zI 1]) (S := [zI 1, zI (zshl 1 z2)]) (Lc := [zR 34 0, zI l6, zI 1]) (d' := 0) (n := 2) (g := 34) (x := 0) (ci := 11) kX11_get vX11_get lkX11_106 (by decide +kernel) (by decide) rfl rfl (by decide) rfl rfl (Nat.le_of_ble_eq_true rfl) rfl rfl (Nat.le_of_ble_eq_true rfl) (h.monoI (fun z4 σ3 h => ?_))
      refine r_blk [qO .ishl, qO .ior, qO (.istore 7), qO (.iload_n 3), qO (.iload 7), qO .iand] (pc' := 63) (L' := [zR 34 0, zU, zI l2, zI l3, zU, zI l5, zI l6, zI (zor (zshl 1 z2) (zshl 1 z4))]) (S' := [zI (zand l3 (zor (zshl 1 z2) (zshl 1 z4)))]) (σ' := σ3) (Ps := []) (by decide +kernel) rfl trivial ?_
      refine r_if_eq (off := 8) (tgt := 71) (by decide +kernel) (by decide) (fun c => ?_) (fun c => ?_)
      · replace h := h.1 c
        refine r_blk [qO (.iinc 6 1), qO (.goto (-56))] (pc' := 18) (L' := [zR 34 0, zU, zI l2, zI l3, zU, zI l5, zI (l6 + 1), zI (zor (zshl 1 z2) (zshl 1 z4))]) (S' := []) (σ' := σ3) (Ps := [-2147483648 ≤ l6 + 1 ∧ l6 + 1 ≤ 2147483647]) (by decide +kernel) rfl ⟨h.1, trivial⟩ ?_
        replace h := h.2
        exact Runs.fg (fgE (fgU (fgE (fgE (fgU (fgE (fgE (fgU fg0)))))))) h
      · replace h := h.2 c
        refine r_blk [qO (.iload_n 3), qO (.iload 7), qO .ior, qO (.istore_n 3), qO (.iinc 6 1), qO (.goto (-56))] (pc' := 18) (L' := [zR 34 0, zU, zI l2, zI (zor l3 (zor (zshl 1 z2) (zshl 1 z4))), zU, zI l5, zI (l6 + 1), zI (zor (zshl 1 z2) (zshl 1 z4))]) (S' := []) (σ' := σ3) (Ps := [-2147483648 ≤ l6 + 1 ∧ l6 + 1 ≤ 2147483647]) (by decide +kernel) rfl ⟨h.1, trivial⟩ ?_
        replace h := h.2
        exact Runs.fg (fgE (fgU (fgE (fgE (fgU (fgE (fgE (fgU fg0)))))))) h
    · replace h := h.2 c
      refine r_blk [qO (.goto 36), qO (.iinc 6 1), qO (.goto (-56))] (pc' := 18) (L' := [zR 34 0, zU, zI l2, zI l3, zU, zI l5, zI (l6 + 1), zU]) (S' := []) (σ' := σ) (Ps := [-2147483648 ≤ l6 + 1 ∧ l6 + 1 ≤ 2147483647]) (by decide +kernel) rfl ⟨h.1, trivial⟩ ?_
      replace h := h.2
      exact Runs.fg (fgE (fgU (fgE (fgE (fgU (fgE (fgE (fgU fg0)))))))) h
theorem gX11_isBridge_0 (a0 : Int) (σ : Hp) {Q : Option Int → Hp → Prop} (h : Runs 0 mX11_get 0 [zR 34 0, zI a0, zI 0] [] σ (rI (fun z2 σ1 => Runs 1 mX11_hang 0 [zR 34 0, zI z2, zI a0, zU, zU, zU, zU, zU] [] σ1 (rI (fun z4 σ3 => Runs 0 mX11_get 0 [zR 34 0, zI a0, zI 1] [] σ3 (rI (fun z6 σ5 => ((¬ bitz z4 z6 = 0 → Q (some 0) σ5) ∧ (bitz z4 z6 = 0 → Q (some 1) σ5))))))))) : Runs 2 mX11_isBridge 0 [zR 34 0, zI a0] [] σ Q := by
  refine r_blk [qO (.aload_n 0), qO (.aload_n 0), qO (.iload_n 1), qO (.iconst 0)] (pc' := 4) (L' := [zR 34 0, zI a0]) (S' := [zI 0, zI a0, zR 34 0, zR 34 0]) (σ' := σ) (Ps := []) (by decide +kernel) rfl trivial ?_
  refine r_callVI (As := [zI a0, zI 0]) (S := [zR 34 0]) (Lc := [zR 34 0, zI a0, zI 0]) (d' := 0) (n := 2) (g := 34) (x := 0) (ci := 11) kX11_get vX11_get lkX11_106 (by decide +kernel) (by decide) rfl rfl (by decide) rfl rfl (Nat.le_of_ble_eq_true rfl) rfl rfl (Nat.le_of_ble_eq_true rfl) (h.monoI (fun z2 σ1 h => ?_))
  refine r_blk [qO (.iload_n 1)] (pc' := 8) (L' := [zR 34 0, zI a0]) (S' := [zI a0, zI z2, zR 34 0]) (σ' := σ1) (Ps := []) (by decide +kernel) rfl trivial ?_
  refine r_callVI (As := [zI z2, zI a0]) (S := []) (Lc := [zR 34 0, zI z2, zI a0, zU, zU, zU, zU, zU]) (d' := 1) (n := 2) (g := 34) (x := 0) (ci := 11) kX11_hang vX11_hang lkX11_166 (by decide +kernel) (by decide) rfl rfl (by decide) rfl rfl (Nat.le_of_ble_eq_true rfl) rfl rfl (Nat.le_of_ble_eq_true rfl) (h.monoI (fun z4 σ3 h => ?_))
  refine r_blk [qO (.aload_n 0), qO (.iload_n 1), qO (.iconst 1)] (pc' := 14) (L' := [zR 34 0, zI a0]) (S' := [zI 1, zI a0, zR 34 0, zI z4]) (σ' := σ3) (Ps := []) (by decide +kernel) rfl trivial ?_
  refine r_callVI (As := [zI a0, zI 1]) (S := [zI z4]) (Lc := [zR 34 0, zI a0, zI 1]) (d' := 0) (n := 2) (g := 34) (x := 0) (ci := 11) kX11_get vX11_get lkX11_106 (by decide +kernel) (by decide) rfl rfl (by decide) rfl rfl (Nat.le_of_ble_eq_true rfl) rfl rfl (Nat.le_of_ble_eq_true rfl) (h.monoI (fun z6 σ5 h => ?_))
  refine r_blk [qO .ishr, qO (.iconst 1), qO .iand] (pc' := 20) (L' := [zR 34 0, zI a0]) (S' := [zI (bitz z4 z6)]) (σ' := σ5) (Ps := []) (by decide +kernel) rfl trivial ?_
  refine r_if_ne (off := 7) (tgt := 27) (by decide +kernel) (by decide) (fun c => ?_) (fun c => ?_)
  · replace h := h.1 c
    refine r_blk [qO (.iconst 0)] (pc' := 28) (L' := [zR 34 0, zI a0]) (S' := [zI 0]) (σ' := σ5) (Ps := []) (by decide +kernel) rfl trivial ?_
    exact r_retz (by decide +kernel) rfl (by decide) h
  · replace h := h.2 c
    refine r_blk [qO (.iconst 1), qO (.goto 4)] (pc' := 28) (L' := [zR 34 0, zI a0]) (S' := [zI 1]) (σ' := σ5) (Ps := []) (by decide +kernel) rfl trivial ?_
    exact r_retz (by decide +kernel) rfl (by decide) h
theorem gX11_bridgeBits_0 (σ : Hp) {Q : Option Int → Hp → Prop} (h : Runs 3 mX11_bridgeBits 4 [zR 34 0, zI 0, zI 0] [] σ Q) : Runs 3 mX11_bridgeBits 0 [zR 34 0, zU, zU] [] σ Q := by
  refine r_blk [qO (.iconst 0), qO (.istore_n 1), qO (.iconst 0), qO (.istore_n 2)] (pc' := 4) (L' := [zR 34 0, zI 0, zI 0]) (S' := []) (σ' := σ) (Ps := []) (by decide +kernel) rfl trivial ?_
  exact Runs.fg (fgE (fgE (fgE fg0))) h
theorem gX11_bridgeBits_4 (l1 : Int) (l2 : Int) (σ : Hp) {Q : Option Int → Hp → Prop} (h : ((σ 36 0 1 ≤ l2 → Q (some l1) σ) ∧ (¬ σ 36 0 1 ≤ l2 → Runs 2 mX11_isBridge 0 [zR 34 0, zI l2] [] σ (rI (fun z2 σ1 => ((z2 = 0 → (-2147483648 ≤ l2 + 1 ∧ l2 + 1 ≤ 2147483647) ∧ Runs 3 mX11_bridgeBits 4 [zR 34 0, zI (zor l1 0), zI (l2 + 1)] [] σ1 Q) ∧ (¬ z2 = 0 → (-2147483648 ≤ l2 + 1 ∧ l2 + 1 ≤ 2147483647) ∧ Runs 3 mX11_bridgeBits 4 [zR 34 0, zI (zor l1 (zshl 1 l2)), zI (l2 + 1)] [] σ1 Q))))))) : Runs 3 mX11_bridgeBits 4 [zR 34 0, zI l1, zI l2] [] σ Q := by
  refine r_blk [qO (.iload_n 2), qO (.aload_n 0), qF (.getfield 13) 11 1, qO (.iconst 1), qO .iaload] (pc' := 11) (L' := [zR 34 0, zI l1, zI l2]) (S' := [zI (σ 36 0 1), zI l2]) (σ' := σ) (Ps := [0 ≤ 1 ∧ 1 < 123]) (by decide +kernel) rfl ⟨(by decide), trivial⟩ ?_
  refine r_icmp_ge (off := 27) (tgt := 38) (by decide +kernel) (by decide) (fun c => ?_) (fun c => ?_)
  · replace h := h.1 c
    refine r_blk [qO (.iload_n 1)] (pc' := 39) (L' := [zR 34 0, zI l1, zI l2]) (S' := [zI l1]) (σ' := σ) (Ps := []) (by decide +kernel) rfl trivial ?_
    exact r_ret (by decide +kernel) rfl (fun _ => h)
  · replace h := h.2 c
    refine r_blk [qO (.iload_n 1), qO (.aload_n 0), qO (.iload_n 2)] (pc' := 17) (L' := [zR 34 0, zI l1, zI l2]) (S' := [zI l2, zR 34 0, zI l1]) (σ' := σ) (Ps := []) (by decide +kernel) rfl trivial ?_
    refine r_callVI (As := [zI l2]) (S := [zI l1]) (Lc := [zR 34 0, zI l2]) (d' := 2) (n := 1) (g := 34) (x := 0) (ci := 11) kX11_isBridge vX11_isBridge lkX11_169 (by decide +kernel) (by decide) rfl rfl (by decide) rfl rfl (Nat.le_of_ble_eq_true rfl) rfl rfl (Nat.le_of_ble_eq_true rfl) (h.monoI (fun z2 σ1 h => ?_))
    refine r_if_eq (off := 9) (tgt := 29) (by decide +kernel) (by decide) (fun c => ?_) (fun c => ?_)
    · replace h := h.1 c
      refine r_blk [qO (.iconst 0), qO .ior, qO (.istore_n 1), qO (.iinc 2 1), qO (.goto (-31))] (pc' := 4) (L' := [zR 34 0, zI (zor l1 0), zI (l2 + 1)]) (S' := []) (σ' := σ1) (Ps := [-2147483648 ≤ l2 + 1 ∧ l2 + 1 ≤ 2147483647]) (by decide +kernel) rfl ⟨h.1, trivial⟩ ?_
      replace h := h.2
      exact Runs.fg (fgE (fgE (fgE fg0))) h
    · replace h := h.2 c
      refine r_blk [qO (.iconst 1), qO (.iload_n 2), qO .ishl, qO (.goto 4), qO .ior, qO (.istore_n 1), qO (.iinc 2 1), qO (.goto (-31))] (pc' := 4) (L' := [zR 34 0, zI (zor l1 (zshl 1 l2)), zI (l2 + 1)]) (S' := []) (σ' := σ1) (Ps := [-2147483648 ≤ l2 + 1 ∧ l2 + 1 ≤ 2147483647]) (by decide +kernel) rfl ⟨h.1, trivial⟩ ?_
      replace h := h.2
      exact Runs.fg (fgE (fgE (fgE fg0))) h
theorem gX11_can_0 (σ : Hp) {Q : Option Int → Hp → Prop} (h : Runs 1 mX11_hang 0 [zR 34 0, zI 0, zI (-9), zU, zU, zU, zU, zU] [] σ (rI (fun z2 σ1 => (-2147483648 ≤ (zshl 1 (σ1 36 0 0)) - 1 ∧ (zshl 1 (σ1 36 0 0)) - 1 ≤ 2147483647) ∧ ((¬ z2 = (zshl 1 (σ1 36 0 0)) - 1 → Q (some 0) σ1) ∧ (z2 = (zshl 1 (σ1 36 0 0)) - 1 → Runs 3 mX11_bridgeBits 0 [zR 34 0, zU, zU] [] σ1 (rI (fun z4 σ3 => ((¬ z4 = 0 → Q (some 0) σ3) ∧ (z4 = 0 → Q (some 1) σ3))))))))) : Runs 4 mX11_can 0 [zR 34 0] [] σ Q := by
  refine r_blk [qO (.aload_n 0), qO (.iconst 0), qO (.bipush (-9))] (pc' := 4) (L' := [zR 34 0]) (S' := [zI (-9), zI 0, zR 34 0]) (σ' := σ) (Ps := []) (by decide +kernel) rfl trivial ?_
  refine r_callVI (As := [zI 0, zI (-9)]) (S := []) (Lc := [zR 34 0, zI 0, zI (-9), zU, zU, zU, zU, zU]) (d' := 1) (n := 2) (g := 34) (x := 0) (ci := 11) kX11_hang vX11_hang lkX11_166 (by decide +kernel) (by decide) rfl rfl (by decide) rfl rfl (Nat.le_of_ble_eq_true rfl) rfl rfl (Nat.le_of_ble_eq_true rfl) (h.monoI (fun z2 σ1 h => ?_))
  refine r_blk [qO (.iconst 1), qO (.aload_n 0), qF (.getfield 13) 11 1, qO (.iconst 0), qO .iaload, qO .ishl, qO (.iconst 1), qO .isub] (pc' := 17) (L' := [zR 34 0]) (S' := [zI ((zshl 1 (σ1 36 0 0)) - 1), zI z2]) (σ' := σ1) (Ps := [0 ≤ 0 ∧ 0 < 123, -2147483648 ≤ (zshl 1 (σ1 36 0 0)) - 1 ∧ (zshl 1 (σ1 36 0 0)) - 1 ≤ 2147483647]) (by decide +kernel) rfl ⟨(by decide), h.1, trivial⟩ ?_
  replace h := h.2
  refine r_icmp_ne (off := 14) (tgt := 31) (by decide +kernel) (by decide) (fun c => ?_) (fun c => ?_)
  · replace h := h.1 c
    refine r_blk [qO (.iconst 0)] (pc' := 32) (L' := [zR 34 0]) (S' := [zI 0]) (σ' := σ1) (Ps := []) (by decide +kernel) rfl trivial ?_
    exact r_ret (by decide +kernel) rfl (fun _ => h)
  · replace h := h.2 c
    refine r_blk [qO (.aload_n 0)] (pc' := 21) (L' := [zR 34 0]) (S' := [zR 34 0]) (σ' := σ1) (Ps := []) (by decide +kernel) rfl trivial ?_
    refine r_callVI (As := []) (S := []) (Lc := [zR 34 0, zU, zU]) (d' := 3) (n := 0) (g := 34) (x := 0) (ci := 11) kX11_bridgeBits vX11_bridgeBits lkX11_172 (by decide +kernel) (by decide) rfl rfl (by decide) rfl rfl (Nat.le_of_ble_eq_true rfl) rfl rfl (Nat.le_of_ble_eq_true rfl) (h.monoI (fun z4 σ3 h => ?_))
    refine r_if_ne (off := 7) (tgt := 31) (by decide +kernel) (by decide) (fun c => ?_) (fun c => ?_)
    · replace h := h.1 c
      refine r_blk [qO (.iconst 0)] (pc' := 32) (L' := [zR 34 0]) (S' := [zI 0]) (σ' := σ3) (Ps := []) (by decide +kernel) rfl trivial ?_
      exact r_ret (by decide +kernel) rfl (fun _ => h)
    · replace h := h.2 c
      refine r_blk [qO (.iconst 1), qO (.goto 4)] (pc' := 32) (L' := [zR 34 0]) (S' := [zI 1]) (σ' := σ3) (Ps := []) (by decide +kernel) rfl trivial ?_
      exact r_ret (by decide +kernel) rfl (fun _ => h)
theorem gX11_bridges_0 (σ : Hp) {Q : Option Int → Hp → Prop} (h : Runs 3 mX11_bridgeBits 0 [zR 34 0, zU, zU] [] σ (rI (fun z2 σ1 => Q (some z2) σ1))) : Runs 4 mX11_bridges 0 [zR 34 0] [] σ Q := by
  refine r_blk [qO (.aload_n 0)] (pc' := 1) (L' := [zR 34 0]) (S' := [zR 34 0]) (σ' := σ) (Ps := []) (by decide +kernel) rfl trivial ?_
  refine r_callVI (As := []) (S := []) (Lc := [zR 34 0, zU, zU]) (d' := 3) (n := 0) (g := 34) (x := 0) (ci := 11) kX11_bridgeBits vX11_bridgeBits lkX11_172 (by decide +kernel) (by decide) rfl rfl (by decide) rfl rfl (Nat.le_of_ble_eq_true rfl) rfl rfl (Nat.le_of_ble_eq_true rfl) (h.monoI (fun z2 σ1 h => ?_))
  exact r_ret (by decide +kernel) rfl (fun _ => h)
theorem gX11_walks_0 (d : Nat) (a0 : Int) (σ : Hp) {Q : Option Int → Hp → Prop} (h : Runs (d + 1) mX11_walks 14 [zR 34 0, zI a0, zI 0, zU] [] (zup σ 34 0 19 (zor (σ 34 0 19) (zshl 1 a0))) Q) : Runs (d + 1) mX11_walks 0 [zR 34 0, zI a0, zU, zU] [] σ Q := by
  refine r_blk [qO (.aload_n 0), qO .dup, qF (.getfield 175) 11 19, qO (.iconst 1), qO (.iload_n 1), qO .ishl, qO .ior, qF (.putfield 175) 11 19, qO (.iconst 0), qO (.istore_n 2)] (pc' := 14) (L' := [zR 34 0, zI a0, zI 0, zU]) (S' := []) (σ' := (zup σ 34 0 19 (zor (σ 34 0 19) (zshl 1 a0)))) (Ps := []) (by decide +kernel) rfl trivial ?_
  exact Runs.fg (fgE (fgE (fgE (fgU fg0)))) h
theorem gX11_walks_14 (d : Nat) (l1 : Int) (l2 : Int) (σ : Hp) {Q : Option Int → Hp → Prop} (h : ((σ 36 0 1 ≤ l2 → Q none σ) ∧ (¬ σ 36 0 1 ≤ l2 → ((bitz (σ 34 0 17) l2 = 1 → (-2147483648 ≤ l2 + 1 ∧ l2 + 1 ≤ 2147483647) ∧ Runs (d + 1) mX11_walks 14 [zR 34 0, zI l1, zI (l2 + 1), zU] [] σ Q) ∧ (¬ bitz (σ 34 0 17) l2 = 1 → Runs 0 mX11_get 0 [zR 34 0, zI l2, zI 0] [] σ (rI (fun z2 σ1 => ((z2 = l1 → Runs (d + 1) mX11_walks 59 [zR 34 0, zI l1, zI l2, zU] [] σ1 Q) ∧ (¬ z2 = l1 → Runs 0 mX11_get 0 [zR 34 0, zI l2, zI 1] [] σ1 (rI (fun z4 σ3 => ((z4 = l1 → Runs (d + 1) mX11_walks 59 [zR 34 0, zI l1, zI l2, zU] [] σ3 Q) ∧ (¬ z4 = l1 → (-2147483648 ≤ l2 + 1 ∧ l2 + 1 ≤ 2147483647) ∧ Runs (d + 1) mX11_walks 14 [zR 34 0, zI l1, zI (l2 + 1), zU] [] σ3 Q))))))))))))) : Runs (d + 1) mX11_walks 14 [zR 34 0, zI l1, zI l2, zU] [] σ Q := by
  refine r_blk [qO (.iload_n 2), qO (.aload_n 0), qF (.getfield 13) 11 1, qO (.iconst 1), qO .iaload] (pc' := 21) (L' := [zR 34 0, zI l1, zI l2, zU]) (S' := [zI (σ 36 0 1), zI l2]) (σ' := σ) (Ps := [0 ≤ 1 ∧ 1 < 123]) (by decide +kernel) rfl ⟨(by decide), trivial⟩ ?_
  refine r_icmp_ge (off := 124) (tgt := 145) (by decide +kernel) (by decide) (fun c => ?_) (fun c => ?_)
  · replace h := h.1 c
    exact r_retv (by decide +kernel) rfl h
  · replace h := h.2 c
    refine r_blk [qO (.aload_n 0), qF (.getfield 178) 11 17, qO (.iload_n 2), qO .ishr, qO (.iconst 1), qO .iand, qO (.iconst 1)] (pc' := 33) (L' := [zR 34 0, zI l1, zI l2, zU]) (S' := [zI 1, zI (bitz (σ 34 0 17) l2)]) (σ' := σ) (Ps := []) (by decide +kernel) rfl trivial ?_
    refine r_icmp_eq (off := 106) (tgt := 139) (by decide +kernel) (by decide) (fun c => ?_) (fun c => ?_)
    · replace h := h.1 c
      refine r_blk [qO (.iinc 2 1), qO (.goto (-128))] (pc' := 14) (L' := [zR 34 0, zI l1, zI (l2 + 1), zU]) (S' := []) (σ' := σ) (Ps := [-2147483648 ≤ l2 + 1 ∧ l2 + 1 ≤ 2147483647]) (by decide +kernel) rfl ⟨h.1, trivial⟩ ?_
      replace h := h.2
      exact Runs.fg (fgE (fgE (fgE (fgU fg0)))) h
    · replace h := h.2 c
      refine r_blk [qO (.aload_n 0), qO (.iload_n 2), qO (.iconst 0)] (pc' := 39) (L' := [zR 34 0, zI l1, zI l2, zU]) (S' := [zI 0, zI l2, zR 34 0]) (σ' := σ) (Ps := []) (by decide +kernel) rfl trivial ?_
      refine r_callVI (As := [zI l2, zI 0]) (S := []) (Lc := [zR 34 0, zI l2, zI 0]) (d' := 0) (n := 2) (g := 34) (x := 0) (ci := 11) kX11_get vX11_get lkX11_106 (by decide +kernel) (by omega) rfl rfl (by decide) rfl rfl (Nat.le_of_ble_eq_true rfl) rfl rfl (Nat.le_of_ble_eq_true rfl) (h.monoI (fun z2 σ1 h => ?_))
      refine r_blk [qO (.iload_n 1)] (pc' := 43) (L' := [zR 34 0, zI l1, zI l2, zU]) (S' := [zI l1, zI z2]) (σ' := σ1) (Ps := []) (by decide +kernel) rfl trivial ?_
      refine r_icmp_eq (off := 16) (tgt := 59) (by decide +kernel) (by decide) (fun c => ?_) (fun c => ?_)
      · replace h := h.1 c
        exact Runs.fg (fgE (fgE (fgE (fgU fg0)))) h
      · replace h := h.2 c
        refine r_blk [qO (.aload_n 0), qO (.iload_n 2), qO (.iconst 1)] (pc' := 49) (L' := [zR 34 0, zI l1, zI l2, zU]) (S' := [zI 1, zI l2, zR 34 0]) (σ' := σ1) (Ps := []) (by decide +kernel) rfl trivial ?_
        refine r_callVI (As := [zI l2, zI 1]) (S := []) (Lc := [zR 34 0, zI l2, zI 1]) (d' := 0) (n := 2) (g := 34) (x := 0) (ci := 11) kX11_get vX11_get lkX11_106 (by decide +kernel) (by omega) rfl rfl (by decide) rfl rfl (Nat.le_of_ble_eq_true rfl) rfl rfl (Nat.le_of_ble_eq_true rfl) (h.monoI (fun z4 σ3 h => ?_))
        refine r_blk [qO (.iload_n 1)] (pc' := 53) (L' := [zR 34 0, zI l1, zI l2, zU]) (S' := [zI l1, zI z4]) (σ' := σ3) (Ps := []) (by decide +kernel) rfl trivial ?_
        refine r_icmp_eq (off := 6) (tgt := 59) (by decide +kernel) (by decide) (fun c => ?_) (fun c => ?_)
        · replace h := h.1 c
          exact Runs.fg (fgE (fgE (fgE (fgU fg0)))) h
        · replace h := h.2 c
          refine r_blk [qO (.goto 83), qO (.iinc 2 1), qO (.goto (-128))] (pc' := 14) (L' := [zR 34 0, zI l1, zI (l2 + 1), zU]) (S' := []) (σ' := σ3) (Ps := [-2147483648 ≤ l2 + 1 ∧ l2 + 1 ≤ 2147483647]) (by decide +kernel) rfl ⟨h.1, trivial⟩ ?_
          replace h := h.2
          exact Runs.fg (fgE (fgE (fgE (fgU fg0)))) h
theorem gX11_walks_59 (d : Nat) (l1 : Int) (l2 : Int) (σ : Hp) {Q : Option Int → Hp → Prop} (h : Runs 0 mX11_get 0 [zR 34 0, zI l2, zI 1] [] (zup σ 34 0 17 (zor (σ 34 0 17) (zshl 1 l2))) (rI (fun z2 σ1 => ((¬ z2 = l1 → Runs 0 mX11_get 0 [zR 34 0, zI l2, zI 0] [] (zup σ1 34 0 18 (zor (σ 34 0 18) 0)) (rI (fun z4 σ3 => ((¬ z4 = l1 → Runs 0 mX11_get 0 [zR 34 0, zI l2, zI 0] [] σ3 (rI (fun z6 σ5 => ((¬ bitz (σ5 34 0 19) z6 = 0 → (-2147483648 ≤ l2 + 1 ∧ l2 + 1 ≤ 2147483647) ∧ Runs (d + 1) mX11_walks 14 [zR 34 0, zI l1, zI (l2 + 1), zU] [] σ5 Q) ∧ (bitz (σ5 34 0 19) z6 = 0 → Runs d mX11_walks 0 [zR 34 0, zI z6, zU, zU] [] σ5 (rV (fun σ7 => (-2147483648 ≤ l2 + 1 ∧ l2 + 1 ≤ 2147483647) ∧ Runs (d + 1) mX11_walks 14 [zR 34 0, zI l1, zI (l2 + 1), zU] [] σ7 Q))))))) ∧ (z4 = l1 → Runs 0 mX11_get 0 [zR 34 0, zI l2, zI 1] [] σ3 (rI (fun z9 σ8 => ((¬ bitz (σ8 34 0 19) z9 = 0 → (-2147483648 ≤ l2 + 1 ∧ l2 + 1 ≤ 2147483647) ∧ Runs (d + 1) mX11_walks 14 [zR 34 0, zI l1, zI (l2 + 1), zU] [] σ8 Q) ∧ (bitz (σ8 34 0 19) z9 = 0 → Runs d mX11_walks 0 [zR 34 0, zI z9, zU, zU] [] σ8 (rV (fun σ10 => (-2147483648 ≤ l2 + 1 ∧ l2 + 1 ≤ 2147483647) ∧ Runs (d + 1) mX11_walks 14 [zR 34 0, zI l1, zI (l2 + 1), zU] [] σ10 Q))))))))))) ∧ (z2 = l1 → Runs 0 mX11_get 0 [zR 34 0, zI l2, zI 0] [] (zup σ1 34 0 18 (zor (σ 34 0 18) (zshl 1 l2))) (rI (fun z12 σ11 => ((¬ z12 = l1 → Runs 0 mX11_get 0 [zR 34 0, zI l2, zI 0] [] σ11 (rI (fun z14 σ13 => ((¬ bitz (σ13 34 0 19) z14 = 0 → (-2147483648 ≤ l2 + 1 ∧ l2 + 1 ≤ 2147483647) ∧ Runs (d + 1) mX11_walks 14 [zR 34 0, zI l1, zI (l2 + 1), zU] [] σ13 Q) ∧ (bitz (σ13 34 0 19) z14 = 0 → Runs d mX11_walks 0 [zR 34 0, zI z14, zU, zU] [] σ13 (rV (fun σ15 => (-2147483648 ≤ l2 + 1 ∧ l2 + 1 ≤ 2147483647) ∧ Runs (d + 1) mX11_walks 14 [zR 34 0, zI l1, zI (l2 + 1), zU] [] σ15 Q))))))) ∧ (z12 = l1 → Runs 0 mX11_get 0 [zR 34 0, zI l2, zI 1] [] σ11 (rI (fun z17 σ16 => ((¬ bitz (σ16 34 0 19) z17 = 0 → (-2147483648 ≤ l2 + 1 ∧ l2 + 1 ≤ 2147483647) ∧ Runs (d + 1) mX11_walks 14 [zR 34 0, zI l1, zI (l2 + 1), zU] [] σ16 Q) ∧ (bitz (σ16 34 0 19) z17 = 0 → Runs d mX11_walks 0 [zR 34 0, zI z17, zU, zU] [] σ16 (rV (fun σ18 => (-2147483648 ≤ l2 + 1 ∧ l2 + 1 ≤ 2147483647) ∧ Runs (d + 1) mX11_walks 14 [zR 34 0, zI l1, zI (l2 + 1), zU] [] σ18 Q))))))))))))))) : Runs (d + 1) mX11_walks 59 [zR 34 0, zI l1, zI l2, zU] [] σ Q := by
  refine r_blk [qO (.aload_n 0), qO .dup, qF (.getfield 178) 11 17, qO (.iconst 1), qO (.iload_n 2), qO .ishl, qO .ior, qF (.putfield 178) 11 17, qO (.aload_n 0), qO .dup, qF (.getfield 181) 11 18, qO (.aload_n 0), qO (.iload_n 2), qO (.iconst 1)] (pc' := 79) (L' := [zR 34 0, zI l1, zI l2, zU]) (S' := [zI 1, zI l2, zR 34 0, zI (σ 34 0 18), zR 34 0]) (σ' := (zup σ 34 0 17 (zor (σ 34 0 17) (zshl 1 l2)))) (Ps := []) (by decide +kernel) rfl trivial ?_
  refine r_callVI (As := [zI l2, zI 1]) (S := [zI (σ 34 0 18), zR 34 0]) (Lc := [zR 34 0, zI l2, zI 1]) (d' := 0) (n := 2) (g := 34) (x := 0) (ci := 11) kX11_get vX11_get lkX11_106 (by decide +kernel) (by omega) rfl rfl (by decide) rfl rfl (Nat.le_of_ble_eq_true rfl) rfl rfl (Nat.le_of_ble_eq_true rfl) (h.monoI (fun z2 σ1 h => ?_))
  refine r_blk [qO (.iload_n 1)] (pc' := 83) (L' := [zR 34 0, zI l1, zI l2, zU]) (S' := [zI l1, zI z2, zI (σ 34 0 18), zR 34 0]) (σ' := σ1) (Ps := []) (by decide +kernel) rfl trivial ?_
  refine r_icmp_ne (off := 9) (tgt := 92) (by decide +kernel) (by decide) (fun c => ?_) (fun c => ?_)
  · replace h := h.1 c
    refine r_blk [qO (.iconst 0), qO .ior, qF (.putfield 181) 11 18, qO (.aload_n 0), qO (.iload_n 2), qO (.iconst 0)] (pc' := 100) (L' := [zR 34 0, zI l1, zI l2, zU]) (S' := [zI 0, zI l2, zR 34 0]) (σ' := (zup σ1 34 0 18 (zor (σ 34 0 18) 0))) (Ps := []) (by decide +kernel) rfl trivial ?_
    refine r_callVI (As := [zI l2, zI 0]) (S := []) (Lc := [zR 34 0, zI l2, zI 0]) (d' := 0) (n := 2) (g := 34) (x := 0) (ci := 11) kX11_get vX11_get lkX11_106 (by decide +kernel) (by omega) rfl rfl (by decide) rfl rfl (Nat.le_of_ble_eq_true rfl) rfl rfl (Nat.le_of_ble_eq_true rfl) (h.monoI (fun z4 σ3 h => ?_))
    refine r_blk [qO (.iload_n 1)] (pc' := 104) (L' := [zR 34 0, zI l1, zI l2, zU]) (S' := [zI l1, zI z4]) (σ' := σ3) (Ps := []) (by decide +kernel) rfl trivial ?_
    refine r_icmp_ne (off := 12) (tgt := 116) (by decide +kernel) (by decide) (fun c => ?_) (fun c => ?_)
    · replace h := h.1 c
      refine r_blk [qO (.aload_n 0), qO (.iload_n 2), qO (.iconst 0)] (pc' := 119) (L' := [zR 34 0, zI l1, zI l2, zU]) (S' := [zI 0, zI l2, zR 34 0]) (σ' := σ3) (Ps := []) (by decide +kernel) rfl trivial ?_
      refine r_callVI (As := [zI l2, zI 0]) (S := []) (Lc := [zR 34 0, zI l2, zI 0]) (d' := 0) (n := 2) (g := 34) (x := 0) (ci := 11) kX11_get vX11_get lkX11_106 (by decide +kernel) (by omega) rfl rfl (by decide) rfl rfl (Nat.le_of_ble_eq_true rfl) rfl rfl (Nat.le_of_ble_eq_true rfl) (h.monoI (fun z6 σ5 h => ?_))
      refine r_blk [qO (.istore_n 3), qO (.aload_n 0), qF (.getfield 175) 11 19, qO (.iload_n 3), qO .ishr, qO (.iconst 1), qO .iand] (pc' := 131) (L' := [zR 34 0, zI l1, zI l2, zI z6]) (S' := [zI (bitz (σ5 34 0 19) z6)]) (σ' := σ5) (Ps := []) (by decide +kernel) rfl trivial ?_
      refine r_if_ne (off := 8) (tgt := 139) (by decide +kernel) (by decide) (fun c => ?_) (fun c => ?_)
      · replace h := h.1 c
        refine r_blk [qO (.iinc 2 1), qO (.goto (-128))] (pc' := 14) (L' := [zR 34 0, zI l1, zI (l2 + 1), zI z6]) (S' := []) (σ' := σ5) (Ps := [-2147483648 ≤ l2 + 1 ∧ l2 + 1 ≤ 2147483647]) (by decide +kernel) rfl ⟨h.1, trivial⟩ ?_
        replace h := h.2
        exact Runs.fg (fgE (fgE (fgE (fgU fg0)))) h
      · replace h := h.2 c
        refine r_blk [qO (.aload_n 0), qO (.iload_n 3)] (pc' := 136) (L' := [zR 34 0, zI l1, zI l2, zI z6]) (S' := [zI z6, zR 34 0]) (σ' := σ5) (Ps := []) (by decide +kernel) rfl trivial ?_
        refine r_callVV (As := [zI z6]) (S := []) (Lc := [zR 34 0, zI z6, zU, zU]) (d' := d) (n := 1) (g := 34) (x := 0) (ci := 11) kX11_walks vX11_walks lkX11_184 (by decide +kernel) (by omega) rfl rfl (by decide) rfl rfl (Nat.le_of_ble_eq_true rfl) rfl rfl (Nat.le_of_ble_eq_true rfl) (h.monoV (fun σ7 h => ?_))
        refine r_blk [qO (.iinc 2 1), qO (.goto (-128))] (pc' := 14) (L' := [zR 34 0, zI l1, zI (l2 + 1), zI z6]) (S' := []) (σ' := σ7) (Ps := [-2147483648 ≤ l2 + 1 ∧ l2 + 1 ≤ 2147483647]) (by decide +kernel) rfl ⟨h.1, trivial⟩ ?_
        replace h := h.2
        exact Runs.fg (fgE (fgE (fgE (fgU fg0)))) h
    · replace h := h.2 c
      refine r_blk [qO (.aload_n 0), qO (.iload_n 2), qO (.iconst 1)] (pc' := 110) (L' := [zR 34 0, zI l1, zI l2, zU]) (S' := [zI 1, zI l2, zR 34 0]) (σ' := σ3) (Ps := []) (by decide +kernel) rfl trivial ?_
      refine r_callVI (As := [zI l2, zI 1]) (S := []) (Lc := [zR 34 0, zI l2, zI 1]) (d' := 0) (n := 2) (g := 34) (x := 0) (ci := 11) kX11_get vX11_get lkX11_106 (by decide +kernel) (by omega) rfl rfl (by decide) rfl rfl (Nat.le_of_ble_eq_true rfl) rfl rfl (Nat.le_of_ble_eq_true rfl) (h.monoI (fun z9 σ8 h => ?_))
      refine r_blk [qO (.goto 9), qO (.istore_n 3), qO (.aload_n 0), qF (.getfield 175) 11 19, qO (.iload_n 3), qO .ishr, qO (.iconst 1), qO .iand] (pc' := 131) (L' := [zR 34 0, zI l1, zI l2, zI z9]) (S' := [zI (bitz (σ8 34 0 19) z9)]) (σ' := σ8) (Ps := []) (by decide +kernel) rfl trivial ?_
      refine r_if_ne (off := 8) (tgt := 139) (by decide +kernel) (by decide) (fun c => ?_) (fun c => ?_)
      · replace h := h.1 c
        refine r_blk [qO (.iinc 2 1), qO (.goto (-128))] (pc' := 14) (L' := [zR 34 0, zI l1, zI (l2 + 1), zI z9]) (S' := []) (σ' := σ8) (Ps := [-2147483648 ≤ l2 + 1 ∧ l2 + 1 ≤ 2147483647]) (by decide +kernel) rfl ⟨h.1, trivial⟩ ?_
        replace h := h.2
        exact Runs.fg (fgE (fgE (fgE (fgU fg0)))) h
      · replace h := h.2 c
        refine r_blk [qO (.aload_n 0), qO (.iload_n 3)] (pc' := 136) (L' := [zR 34 0, zI l1, zI l2, zI z9]) (S' := [zI z9, zR 34 0]) (σ' := σ8) (Ps := []) (by decide +kernel) rfl trivial ?_
        refine r_callVV (As := [zI z9]) (S := []) (Lc := [zR 34 0, zI z9, zU, zU]) (d' := d) (n := 1) (g := 34) (x := 0) (ci := 11) kX11_walks vX11_walks lkX11_184 (by decide +kernel) (by omega) rfl rfl (by decide) rfl rfl (Nat.le_of_ble_eq_true rfl) rfl rfl (Nat.le_of_ble_eq_true rfl) (h.monoV (fun σ10 h => ?_))
        refine r_blk [qO (.iinc 2 1), qO (.goto (-128))] (pc' := 14) (L' := [zR 34 0, zI l1, zI (l2 + 1), zI z9]) (S' := []) (σ' := σ10) (Ps := [-2147483648 ≤ l2 + 1 ∧ l2 + 1 ≤ 2147483647]) (by decide +kernel) rfl ⟨h.1, trivial⟩ ?_
        replace h := h.2
        exact Runs.fg (fgE (fgE (fgE (fgU fg0)))) h
  · replace h := h.2 c
    refine r_blk [qO (.iconst 1), qO (.iload_n 2), qO .ishl, qO (.goto 4), qO .ior, qF (.putfield 181) 11 18, qO (.aload_n 0), qO (.iload_n 2), qO (.iconst 0)] (pc' := 100) (L' := [zR 34 0, zI l1, zI l2, zU]) (S' := [zI 0, zI l2, zR 34 0]) (σ' := (zup σ1 34 0 18 (zor (σ 34 0 18) (zshl 1 l2)))) (Ps := []) (by decide +kernel) rfl trivial ?_
    refine r_callVI (As := [zI l2, zI 0]) (S := []) (Lc := [zR 34 0, zI l2, zI 0]) (d' := 0) (n := 2) (g := 34) (x := 0) (ci := 11) kX11_get vX11_get lkX11_106 (by decide +kernel) (by omega) rfl rfl (by decide) rfl rfl (Nat.le_of_ble_eq_true rfl) rfl rfl (Nat.le_of_ble_eq_true rfl) (h.monoI (fun z12 σ11 h => ?_))
    refine r_blk [qO (.iload_n 1)] (pc' := 104) (L' := [zR 34 0, zI l1, zI l2, zU]) (S' := [zI l1, zI z12]) (σ' := σ11) (Ps := []) (by decide +kernel) rfl trivial ?_
    refine r_icmp_ne (off := 12) (tgt := 116) (by decide +kernel) (by decide) (fun c => ?_) (fun c => ?_)
    · replace h := h.1 c
      refine r_blk [qO (.aload_n 0), qO (.iload_n 2), qO (.iconst 0)] (pc' := 119) (L' := [zR 34 0, zI l1, zI l2, zU]) (S' := [zI 0, zI l2, zR 34 0]) (σ' := σ11) (Ps := []) (by decide +kernel) rfl trivial ?_
      refine r_callVI (As := [zI l2, zI 0]) (S := []) (Lc := [zR 34 0, zI l2, zI 0]) (d' := 0) (n := 2) (g := 34) (x := 0) (ci := 11) kX11_get vX11_get lkX11_106 (by decide +kernel) (by omega) rfl rfl (by decide) rfl rfl (Nat.le_of_ble_eq_true rfl) rfl rfl (Nat.le_of_ble_eq_true rfl) (h.monoI (fun z14 σ13 h => ?_))
      refine r_blk [qO (.istore_n 3), qO (.aload_n 0), qF (.getfield 175) 11 19, qO (.iload_n 3), qO .ishr, qO (.iconst 1), qO .iand] (pc' := 131) (L' := [zR 34 0, zI l1, zI l2, zI z14]) (S' := [zI (bitz (σ13 34 0 19) z14)]) (σ' := σ13) (Ps := []) (by decide +kernel) rfl trivial ?_
      refine r_if_ne (off := 8) (tgt := 139) (by decide +kernel) (by decide) (fun c => ?_) (fun c => ?_)
      · replace h := h.1 c
        refine r_blk [qO (.iinc 2 1), qO (.goto (-128))] (pc' := 14) (L' := [zR 34 0, zI l1, zI (l2 + 1), zI z14]) (S' := []) (σ' := σ13) (Ps := [-2147483648 ≤ l2 + 1 ∧ l2 + 1 ≤ 2147483647]) (by decide +kernel) rfl ⟨h.1, trivial⟩ ?_
        replace h := h.2
        exact Runs.fg (fgE (fgE (fgE (fgU fg0)))) h
      · replace h := h.2 c
        refine r_blk [qO (.aload_n 0), qO (.iload_n 3)] (pc' := 136) (L' := [zR 34 0, zI l1, zI l2, zI z14]) (S' := [zI z14, zR 34 0]) (σ' := σ13) (Ps := []) (by decide +kernel) rfl trivial ?_
        refine r_callVV (As := [zI z14]) (S := []) (Lc := [zR 34 0, zI z14, zU, zU]) (d' := d) (n := 1) (g := 34) (x := 0) (ci := 11) kX11_walks vX11_walks lkX11_184 (by decide +kernel) (by omega) rfl rfl (by decide) rfl rfl (Nat.le_of_ble_eq_true rfl) rfl rfl (Nat.le_of_ble_eq_true rfl) (h.monoV (fun σ15 h => ?_))
        refine r_blk [qO (.iinc 2 1), qO (.goto (-128))] (pc' := 14) (L' := [zR 34 0, zI l1, zI (l2 + 1), zI z14]) (S' := []) (σ' := σ15) (Ps := [-2147483648 ≤ l2 + 1 ∧ l2 + 1 ≤ 2147483647]) (by decide +kernel) rfl ⟨h.1, trivial⟩ ?_
        replace h := h.2
        exact Runs.fg (fgE (fgE (fgE (fgU fg0)))) h
    · replace h := h.2 c
      refine r_blk [qO (.aload_n 0), qO (.iload_n 2), qO (.iconst 1)] (pc' := 110) (L' := [zR 34 0, zI l1, zI l2, zU]) (S' := [zI 1, zI l2, zR 34 0]) (σ' := σ11) (Ps := []) (by decide +kernel) rfl trivial ?_
      refine r_callVI (As := [zI l2, zI 1]) (S := []) (Lc := [zR 34 0, zI l2, zI 1]) (d' := 0) (n := 2) (g := 34) (x := 0) (ci := 11) kX11_get vX11_get lkX11_106 (by decide +kernel) (by omega) rfl rfl (by decide) rfl rfl (Nat.le_of_ble_eq_true rfl) rfl rfl (Nat.le_of_ble_eq_true rfl) (h.monoI (fun z17 σ16 h => ?_))
      refine r_blk [qO (.goto 9), qO (.istore_n 3), qO (.aload_n 0), qF (.getfield 175) 11 19, qO (.iload_n 3), qO .ishr, qO (.iconst 1), qO .iand] (pc' := 131) (L' := [zR 34 0, zI l1, zI l2, zI z17]) (S' := [zI (bitz (σ16 34 0 19) z17)]) (σ' := σ16) (Ps := []) (by decide +kernel) rfl trivial ?_
      refine r_if_ne (off := 8) (tgt := 139) (by decide +kernel) (by decide) (fun c => ?_) (fun c => ?_)
      · replace h := h.1 c
        refine r_blk [qO (.iinc 2 1), qO (.goto (-128))] (pc' := 14) (L' := [zR 34 0, zI l1, zI (l2 + 1), zI z17]) (S' := []) (σ' := σ16) (Ps := [-2147483648 ≤ l2 + 1 ∧ l2 + 1 ≤ 2147483647]) (by decide +kernel) rfl ⟨h.1, trivial⟩ ?_
        replace h := h.2
        exact Runs.fg (fgE (fgE (fgE (fgU fg0)))) h
      · replace h := h.2 c
        refine r_blk [qO (.aload_n 0), qO (.iload_n 3)] (pc' := 136) (L' := [zR 34 0, zI l1, zI l2, zI z17]) (S' := [zI z17, zR 34 0]) (σ' := σ16) (Ps := []) (by decide +kernel) rfl trivial ?_
        refine r_callVV (As := [zI z17]) (S := []) (Lc := [zR 34 0, zI z17, zU, zU]) (d' := d) (n := 1) (g := 34) (x := 0) (ci := 11) kX11_walks vX11_walks lkX11_184 (by decide +kernel) (by omega) rfl rfl (by decide) rfl rfl (Nat.le_of_ble_eq_true rfl) rfl rfl (Nat.le_of_ble_eq_true rfl) (h.monoV (fun σ18 h => ?_))
        refine r_blk [qO (.iinc 2 1), qO (.goto (-128))] (pc' := 14) (L' := [zR 34 0, zI l1, zI (l2 + 1), zI z17]) (S' := []) (σ' := σ18) (Ps := [-2147483648 ≤ l2 + 1 ∧ l2 + 1 ≤ 2147483647]) (by decide +kernel) rfl ⟨h.1, trivial⟩ ?_
        replace h := h.2
        exact Runs.fg (fgE (fgE (fgE (fgU fg0)))) h
theorem gX11_walk_0 (σ : Hp) {Q : Option Int → Hp → Prop} (h : Runs 1 mX11_walks 0 [zR 34 0, zI 0, zU, zU] [] (zup (zup (zup σ 34 0 17 0) 34 0 18 0) 34 0 19 0) (rV (fun σ1 => Q (some (σ1 34 0 18)) σ1))) : Runs 2 mX11_walk 0 [zR 34 0] [] σ Q := by
  refine r_blk [qO (.aload_n 0), qO (.iconst 0), qF (.putfield 178) 11 17, qO (.aload_n 0), qO (.iconst 0), qF (.putfield 181) 11 18, qO (.aload_n 0), qO (.iconst 0), qF (.putfield 175) 11 19, qO (.aload_n 0), qO (.iconst 0)] (pc' := 17) (L' := [zR 34 0]) (S' := [zI 0, zR 34 0]) (σ' := (zup (zup (zup σ 34 0 17 0) 34 0 18 0) 34 0 19 0)) (Ps := []) (by decide +kernel) rfl trivial ?_
  refine r_callVV (As := [zI 0]) (S := []) (Lc := [zR 34 0, zI 0, zU, zU]) (d' := 1) (n := 1) (g := 34) (x := 0) (ci := 11) kX11_walks vX11_walks lkX11_184 (by decide +kernel) (by decide) rfl rfl (by decide) rfl rfl (Nat.le_of_ble_eq_true rfl) rfl rfl (Nat.le_of_ble_eq_true rfl) (h.monoV (fun σ1 h => ?_))
  refine r_blk [qO (.aload_n 0), qF (.getfield 181) 11 18] (pc' := 24) (L' := [zR 34 0]) (S' := [zI (σ1 34 0 18)]) (σ' := σ1) (Ps := []) (by decide +kernel) rfl trivial ?_
  exact r_ret (by decide +kernel) rfl (fun _ => h)
theorem gX11_costOf_0 (σ : Hp) {Q : Option Int → Hp → Prop} (h : Runs 5 mX11_costOf 4 [zR 34 0, zI 0, zI 0, zU] [] σ Q) : Runs 5 mX11_costOf 0 [zR 34 0, zU, zU, zU] [] σ Q := by
  refine r_blk [qO (.iconst 0), qO (.istore_n 1), qO (.iconst 0), qO (.istore_n 2)] (pc' := 4) (L' := [zR 34 0, zI 0, zI 0, zU]) (S' := []) (σ' := σ) (Ps := []) (by decide +kernel) rfl trivial ?_
  exact Runs.fg (fgE (fgE (fgE (fgU fg0)))) h
theorem gX11_costOf_4 (l1 : Int) (l2 : Int) (σ : Hp) {Q : Option Int → Hp → Prop} (h : ((σ 36 0 2 ≤ l2 → Q (some l1) σ) ∧ (¬ σ 36 0 2 ≤ l2 → Runs 0 mX11_of 0 [zR 34 0, zI l2, zI 0] [] σ (rI (fun z2 σ1 => Runs 0 mX11_of 0 [zR 34 0, zI l2, zI 2] [] σ1 (rI (fun z4 σ3 => Runs 4 mX11_finds 0 [zR 34 0, zI z2, zI z4, zU, zU, zU, zU, zU] [] σ3 (rV (fun σ5 => Runs 0 mX11_of 0 [zR 34 0, zI l2, zI 1] [] σ5 (rI (fun z7 σ6 => (0 ≤ z7 ∧ z7 < 10) ∧ Runs 0 mX11_of 0 [zR 34 0, zI l2, zI 3] [] σ6 (rI (fun z9 σ8 => ((0 ≤ σ6 41 0 z7.toNat → Runs 0 mX11_of 0 [zR 34 0, zI l2, zI 2] [] σ8 (rI (fun z11 σ10 => (-2147483648 ≤ (σ6 41 0 z7.toNat) - z11 ∧ (σ6 41 0 z7.toNat) - z11 ≤ 2147483647) ∧ (-2147483648 ≤ z9 * ((σ6 41 0 z7.toNat) - z11) ∧ z9 * ((σ6 41 0 z7.toNat) - z11) ≤ 2147483647) ∧ (-2147483648 ≤ l1 + (z9 * ((σ6 41 0 z7.toNat) - z11)) ∧ l1 + (z9 * ((σ6 41 0 z7.toNat) - z11)) ≤ 2147483647) ∧ (-2147483648 ≤ l2 + 1 ∧ l2 + 1 ≤ 2147483647) ∧ Runs 5 mX11_costOf 4 [zR 34 0, zI (l1 + (z9 * ((σ6 41 0 z7.toNat) - z11))), zI (l2 + 1), zU] [] σ10 Q))) ∧ (¬ 0 ≤ σ6 41 0 z7.toNat → (-2147483648 ≤ z9 * 3000 ∧ z9 * 3000 ≤ 2147483647) ∧ (-2147483648 ≤ l1 + (z9 * 3000) ∧ l1 + (z9 * 3000) ≤ 2147483647) ∧ (-2147483648 ≤ l2 + 1 ∧ l2 + 1 ≤ 2147483647) ∧ Runs 5 mX11_costOf 4 [zR 34 0, zI (l1 + (z9 * 3000)), zI (l2 + 1), zU] [] σ8 Q))))))))))))))) : Runs 5 mX11_costOf 4 [zR 34 0, zI l1, zI l2, zU] [] σ Q := by
  refine r_blk [qO (.iload_n 2), qO (.aload_n 0), qF (.getfield 13) 11 1, qO (.iconst 2), qO .iaload] (pc' := 11) (L' := [zR 34 0, zI l1, zI l2, zU]) (S' := [zI (σ 36 0 2), zI l2]) (σ' := σ) (Ps := [0 ≤ 2 ∧ 2 < 123]) (by decide +kernel) rfl ⟨(by decide), trivial⟩ ?_
  refine r_icmp_ge (off := 65) (tgt := 76) (by decide +kernel) (by decide) (fun c => ?_) (fun c => ?_)
  · replace h := h.1 c
    refine r_blk [qO (.iload_n 1)] (pc' := 77) (L' := [zR 34 0, zI l1, zI l2, zU]) (S' := [zI l1]) (σ' := σ) (Ps := []) (by decide +kernel) rfl trivial ?_
    exact r_ret (by decide +kernel) rfl (fun _ => h)
  · replace h := h.2 c
    refine r_blk [qO (.aload_n 0), qO (.aload_n 0), qO (.iload_n 2), qO (.iconst 0)] (pc' := 18) (L' := [zR 34 0, zI l1, zI l2, zU]) (S' := [zI 0, zI l2, zR 34 0, zR 34 0]) (σ' := σ) (Ps := []) (by decide +kernel) rfl trivial ?_
    refine r_callVI (As := [zI l2, zI 0]) (S := [zR 34 0]) (Lc := [zR 34 0, zI l2, zI 0]) (d' := 0) (n := 2) (g := 34) (x := 0) (ci := 11) kX11_of vX11_of lkX11_113 (by decide +kernel) (by decide) rfl rfl (by decide) rfl rfl (Nat.le_of_ble_eq_true rfl) rfl rfl (Nat.le_of_ble_eq_true rfl) (h.monoI (fun z2 σ1 h => ?_))
    refine r_blk [qO (.aload_n 0), qO (.iload_n 2), qO (.iconst 2)] (pc' := 24) (L' := [zR 34 0, zI l1, zI l2, zU]) (S' := [zI 2, zI l2, zR 34 0, zI z2, zR 34 0]) (σ' := σ1) (Ps := []) (by decide +kernel) rfl trivial ?_
    refine r_callVI (As := [zI l2, zI 2]) (S := [zI z2, zR 34 0]) (Lc := [zR 34 0, zI l2, zI 2]) (d' := 0) (n := 2) (g := 34) (x := 0) (ci := 11) kX11_of vX11_of lkX11_113 (by decide +kernel) (by decide) rfl rfl (by decide) rfl rfl (Nat.le_of_ble_eq_true rfl) rfl rfl (Nat.le_of_ble_eq_true rfl) (h.monoI (fun z4 σ3 h => ?_))
    refine r_callVV (As := [zI z2, zI z4]) (S := []) (Lc := [zR 34 0, zI z2, zI z4, zU, zU, zU, zU, zU]) (d' := 4) (n := 2) (g := 34) (x := 0) (ci := 11) kX11_finds vX11_finds lkX11_142 (by decide +kernel) (by decide) rfl rfl (by decide) rfl rfl (Nat.le_of_ble_eq_true rfl) rfl rfl (Nat.le_of_ble_eq_true rfl) (h.monoV (fun σ5 h => ?_))
    refine r_blk [qO (.aload_n 0), qF (.getfield 28) 11 9, qO (.aload_n 0), qO (.iload_n 2), qO (.iconst 1)] (pc' := 37) (L' := [zR 34 0, zI l1, zI l2, zU]) (S' := [zI 1, zI l2, zR 34 0, zR 41 0]) (σ' := σ5) (Ps := []) (by decide +kernel) rfl trivial ?_
    refine r_callVI (As := [zI l2, zI 1]) (S := [zR 41 0]) (Lc := [zR 34 0, zI l2, zI 1]) (d' := 0) (n := 2) (g := 34) (x := 0) (ci := 11) kX11_of vX11_of lkX11_113 (by decide +kernel) (by decide) rfl rfl (by decide) rfl rfl (Nat.le_of_ble_eq_true rfl) rfl rfl (Nat.le_of_ble_eq_true rfl) (h.monoI (fun z7 σ6 h => ?_))
    refine r_blk [qO .iaload, qO (.istore_n 3), qO (.iload_n 1), qO (.aload_n 0), qO (.iload_n 2), qO (.iconst 3)] (pc' := 46) (L' := [zR 34 0, zI l1, zI l2, zI (σ6 41 0 z7.toNat)]) (S' := [zI 3, zI l2, zR 34 0, zI l1]) (σ' := σ6) (Ps := [0 ≤ z7 ∧ z7 < 10]) (by decide +kernel) rfl ⟨h.1, trivial⟩ ?_
    replace h := h.2
    refine r_callVI (As := [zI l2, zI 3]) (S := [zI l1]) (Lc := [zR 34 0, zI l2, zI 3]) (d' := 0) (n := 2) (g := 34) (x := 0) (ci := 11) kX11_of vX11_of lkX11_113 (by decide +kernel) (by decide) rfl rfl (by decide) rfl rfl (Nat.le_of_ble_eq_true rfl) rfl rfl (Nat.le_of_ble_eq_true rfl) (h.monoI (fun z9 σ8 h => ?_))
    refine r_blk [qO (.iload_n 3)] (pc' := 50) (L' := [zR 34 0, zI l1, zI l2, zI (σ6 41 0 z7.toNat)]) (S' := [zI (σ6 41 0 z7.toNat), zI z9, zI l1]) (σ' := σ8) (Ps := []) (by decide +kernel) rfl trivial ?_
    refine r_if_ge (off := 9) (tgt := 59) (by decide +kernel) (by decide) (fun c => ?_) (fun c => ?_)
    · replace h := h.1 c
      refine r_blk [qO (.iload_n 3), qO (.aload_n 0), qO (.iload_n 2), qO (.iconst 2)] (pc' := 63) (L' := [zR 34 0, zI l1, zI l2, zI (σ6 41 0 z7.toNat)]) (S' := [zI 2, zI l2, zR 34 0, zI (σ6 41 0 z7.toNat), zI z9, zI l1]) (σ' := σ8) (Ps := []) (by decide +kernel) rfl trivial ?_
      refine r_callVI (As := [zI l2, zI 2]) (S := [zI (σ6 41 0 z7.toNat), zI z9, zI l1]) (Lc := [zR 34 0, zI l2, zI 2]) (d' := 0) (n := 2) (g := 34) (x := 0) (ci := 11) kX11_of vX11_of lkX11_113 (by decide +kernel) (by decide) rfl rfl (by decide) rfl rfl (Nat.le_of_ble_eq_true rfl) rfl rfl (Nat.le_of_ble_eq_true rfl) (h.monoI (fun z11 σ10 h => ?_))
      refine r_blk [qO .isub, qO .imul, qO .iadd, qO (.istore_n 1), qO (.iinc 2 1), qO (.goto (-69))] (pc' := 4) (L' := [zR 34 0, zI (l1 + (z9 * ((σ6 41 0 z7.toNat) - z11))), zI (l2 + 1), zI (σ6 41 0 z7.toNat)]) (S' := []) (σ' := σ10) (Ps := [-2147483648 ≤ (σ6 41 0 z7.toNat) - z11 ∧ (σ6 41 0 z7.toNat) - z11 ≤ 2147483647, -2147483648 ≤ z9 * ((σ6 41 0 z7.toNat) - z11) ∧ z9 * ((σ6 41 0 z7.toNat) - z11) ≤ 2147483647, -2147483648 ≤ l1 + (z9 * ((σ6 41 0 z7.toNat) - z11)) ∧ l1 + (z9 * ((σ6 41 0 z7.toNat) - z11)) ≤ 2147483647, -2147483648 ≤ l2 + 1 ∧ l2 + 1 ≤ 2147483647]) (by decide +kernel) rfl ⟨h.1, h.2.1, h.2.2.1, h.2.2.2.1, trivial⟩ ?_
      replace h := h.2.2.2.2
      exact Runs.fg (fgE (fgE (fgE (fgU fg0)))) h
    · replace h := h.2 c
      refine r_blk [qO (.sipush 3000), qO (.goto 11), qO .imul, qO .iadd, qO (.istore_n 1), qO (.iinc 2 1), qO (.goto (-69))] (pc' := 4) (L' := [zR 34 0, zI (l1 + (z9 * 3000)), zI (l2 + 1), zI (σ6 41 0 z7.toNat)]) (S' := []) (σ' := σ8) (Ps := [-2147483648 ≤ z9 * 3000 ∧ z9 * 3000 ≤ 2147483647, -2147483648 ≤ l1 + (z9 * 3000) ∧ l1 + (z9 * 3000) ≤ 2147483647, -2147483648 ≤ l2 + 1 ∧ l2 + 1 ≤ 2147483647]) (by decide +kernel) rfl ⟨h.1, h.2.1, h.2.2.1, trivial⟩ ?_
      replace h := h.2.2.2
      exact Runs.fg (fgE (fgE (fgE (fgU fg0)))) h
