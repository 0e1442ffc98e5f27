theorem gX11_bits_0 (a0 : Int) (σ : Hp) {Q : Option Int → Hp → Prop} (h : Runs 0 mX11_bits 4 [zU, zI 0, zI a0] [] σ Q) : Runs 0 mX11_bits 0 [zI a0, zU, zU] [] σ Q := by
  refine r_blk [qO (.iconst 0), qO (.istore_n 1), qO (.iload_n 0), qO (.istore_n 2)] (pc' := 4) (L' := [zI a0, zI 0, zI a0]) (S' := []) (σ' := σ) (Ps := []) (by decide +kernel) rfl trivial ?_
  exact Runs.fg (fgU (fgE (fgE fg0))) h
theorem gX11_bits_4 (l1 : Int) (l2 : Int) (σ : Hp) {Q : Option Int → Hp → Prop} (h : ((l2 ≤ 0 → Q (some l1) σ) ∧ (¬ l2 ≤ 0 → (-2147483648 ≤ l1 + (zand l2 1) ∧ l1 + (zand l2 1) ≤ 2147483647) ∧ Runs 0 mX11_bits 4 [zU, zI (l1 + (zand l2 1)), zI (zshr l2 1)] [] σ Q))) : Runs 0 mX11_bits 4 [zU, zI l1, zI l2] [] σ Q := by
  refine r_blk [qO (.iload_n 2)] (pc' := 5) (L' := [zU, zI l1, zI l2]) (S' := [zI l2]) (σ' := σ) (Ps := []) (by decide +kernel) rfl trivial ?_
  refine r_if_le (off := 16) (tgt := 21) (by decide +kernel) (by decide) (fun c => ?_) (fun c => ?_)
  · replace h := h.1 c
    refine r_blk [qO (.iload_n 1)] (pc' := 22) (L' := [zU, zI l1, zI l2]) (S' := [zI l1]) (σ' := σ) (Ps := []) (by decide +kernel) rfl trivial ?_
    exact r_ret (by decide +kernel) rfl (fun _ => h)
  · replace h := h.2 c
    refine r_blk [qO (.iload_n 1), qO (.iload_n 2), qO (.iconst 1), qO .iand, qO .iadd, qO (.istore_n 1), qO (.iload_n 2), qO (.iconst 1), qO .ishr, qO (.istore_n 2), qO (.goto (-14))] (pc' := 4) (L' := [zU, zI (l1 + (zand l2 1)), zI (zshr l2 1)]) (S' := []) (σ' := σ) (Ps := [-2147483648 ≤ l1 + (zand l2 1) ∧ l1 + (zand l2 1) ≤ 2147483647]) (by decide +kernel) rfl ⟨h.1, trivial⟩ ?_
    replace h := h.2
    exact Runs.fg (fgU (fgE (fgE fg0))) h
theorem gX11_bothWays_0 (a0 : Int) (σ : Hp) {Q : Option Int → Hp → Prop} (h : ((0 ≤ a0 → ((σ 36 0 1 ≤ 10 → Runs 6 mX11_bothWays 43 [zR 34 0, zI a0, zU, zI (-9), zI 0] [] σ Q) ∧ (¬ σ 36 0 1 ≤ 10 → (-6 ≤ (-6) ∧ (-6) ≤ -1) ∧ (σ 35 0 (-(-6)).toNat ≤ 2147483646) ∧ ∀ σ1 : Hp, σ1 = zup σ 35 0 (-(-6)).toNat (σ 35 0 (-(-6)).toNat + 1) → Q (some (-6)) σ1))) ∧ (¬ 0 ≤ a0 → (-6 ≤ (-4) ∧ (-4) ≤ -1) ∧ (σ 35 0 (-(-4)).toNat ≤ 2147483646) ∧ ∀ σ2 : Hp, σ2 = zup σ 35 0 (-(-4)).toNat (σ 35 0 (-(-4)).toNat + 1) → Q (some (-4)) σ2))) : Runs 6 mX11_bothWays 0 [zR 34 0, zI a0, zU, zU, zU] [] σ Q := by
  refine r_blk [qO (.iload_n 1)] (pc' := 1) (L' := [zR 34 0, zI a0, zU, zU, zU]) (S' := [zI a0]) (σ' := σ) (Ps := []) (by decide +kernel) rfl trivial ?_
  refine r_if_ge (off := 8) (tgt := 9) (by decide +kernel) (by decide) (fun c => ?_) (fun c => ?_)
  · replace h := h.1 c
    refine r_blk [qO (.aload_n 0), qF (.getfield 13) 11 1, qO (.iconst 1), qO .iaload, qO (.bipush 10)] (pc' := 17) (L' := [zR 34 0, zI a0, zU, zU, zU]) (S' := [zI 10, zI (σ 36 0 1)]) (σ' := σ) (Ps := [0 ≤ 1 ∧ 1 < 123]) (by decide +kernel) rfl ⟨(by decide), trivial⟩ ?_
    refine r_icmp_le (off := 8) (tgt := 25) (by decide +kernel) (by decide) (fun c => ?_) (fun c => ?_)
    · replace h := h.1 c
      refine r_blk [qO (.iconst 0), qO (.istore_n 2), qO (.iload_n 2)] (pc' := 28) (L' := [zR 34 0, zI a0, zI 0, zU, zU]) (S' := [zI 0]) (σ' := σ) (Ps := []) (by decide +kernel) rfl trivial ?_
      refine r_if_eq (off := 9) (tgt := 37) (by decide +kernel) (by decide) (fun c => ?_) (fun c => ?_)
      · refine r_blk [qO (.bipush (-9)), qO (.istore_n 3), qO (.iconst 0), qO (.istore 4)] (pc' := 43) (L' := [zR 34 0, zI a0, zI 0, zI (-9), zI 0]) (S' := []) (σ' := σ) (Ps := []) (by decide +kernel) rfl trivial ?_
        exact Runs.fg (fgE (fgE (fgU (fgE (fgE fg0))))) h
      · exact absurd c (by decide)
    · replace h := h.2 c
      refine r_blk [qO (.bipush (-6)), qO (.goto 4), qO (.istore_n 2), qO (.iload_n 2)] (pc' := 28) (L' := [zR 34 0, zI a0, zI (-6), zU, zU]) (S' := [zI (-6)]) (σ' := σ) (Ps := []) (by decide +kernel) rfl trivial ?_
      refine r_if_eq (off := 9) (tgt := 37) (by decide +kernel) (by decide) (fun c => ?_) (fun c => ?_)
      · exact absurd c (by decide)
      · refine r_blk [qO (.aload_n 0), qO (.iload_n 2)] (pc' := 33) (L' := [zR 34 0, zI a0, zI (-6), zU, zU]) (S' := [zI (-6), zR 34 0]) (σ' := σ) (Ps := []) (by decide +kernel) rfl trivial ?_
        refine r_callVI (As := [zI (-6)]) (S := []) (Lc := [zR 34 0, zI (-6)]) (d' := 0) (n := 1) (g := 34) (x := 0) (ci := 11) kX11_refuse vX11_refuse lkX11_66 (by decide +kernel) (by decide) rfl rfl (by decide) rfl rfl (Nat.le_of_ble_eq_true rfl) rfl rfl (Nat.le_of_ble_eq_true rfl) (pX11_refuse h.1 h.2.1 ?_)
        replace h := h.2.2
        generalize hσ1 : zup σ 35 0 (-(-6)).toNat (σ 35 0 (-(-6)).toNat + 1) = σ1
        replace h := h σ1 hσ1.symm
        exact r_ret (by decide +kernel) rfl (fun _ => h)
  · replace h := h.2 c
    refine r_blk [qO (.bipush (-4)), qO (.goto 20), qO (.istore_n 2), qO (.iload_n 2)] (pc' := 28) (L' := [zR 34 0, zI a0, zI (-4), zU, zU]) (S' := [zI (-4)]) (σ' := σ) (Ps := []) (by decide +kernel) rfl trivial ?_
    refine r_if_eq (off := 9) (tgt := 37) (by decide +kernel) (by decide) (fun c => ?_) (fun c => ?_)
    · exact absurd c (by decide)
    · refine r_blk [qO (.aload_n 0), qO (.iload_n 2)] (pc' := 33) (L' := [zR 34 0, zI a0, zI (-4), zU, zU]) (S' := [zI (-4), zR 34 0]) (σ' := σ) (Ps := []) (by decide +kernel) rfl trivial ?_
      refine r_callVI (As := [zI (-4)]) (S := []) (Lc := [zR 34 0, zI (-4)]) (d' := 0) (n := 1) (g := 34) (x := 0) (ci := 11) kX11_refuse vX11_refuse lkX11_66 (by decide +kernel) (by decide) rfl rfl (by decide) rfl rfl (Nat.le_of_ble_eq_true rfl) rfl rfl (Nat.le_of_ble_eq_true rfl) (pX11_refuse h.1 h.2.1 ?_)
      replace h := h.2.2
      generalize hσ2 : zup σ 35 0 (-(-4)).toNat (σ 35 0 (-(-4)).toNat + 1) = σ2
      replace h := h σ2 hσ2.symm
      exact r_ret (by decide +kernel) rfl (fun _ => h)
theorem gX11_bothWays_43 (l1 : Int) (l3 : Int) (l4 : Int) (σ : Hp) {Q : Option Int → Hp → Prop} (h : ((zshl 1 (σ 36 0 1) ≤ l4 → Q (some l3) (zup σ 36 0 5 0)) ∧ (¬ zshl 1 (σ 36 0 1) ≤ l4 → ((l3 < 0 → Runs 6 mX11_bothWays 75 [zR 34 0, zI l1, zU, zI l3, zI l4] [] σ Q) ∧ (¬ l3 < 0 → Runs 0 mX11_bits 0 [zI l4, zU, zU] [] σ (rI (fun z2 σ1 => Runs 0 mX11_bits 0 [zI l3, zU, zU] [] σ1 (rI (fun z4 σ3 => ((z2 < z4 → Runs 6 mX11_bothWays 75 [zR 34 0, zI l1, zU, zI l3, zI l4] [] σ3 Q) ∧ (¬ z2 < z4 → (-2147483648 ≤ l4 + 1 ∧ l4 + 1 ≤ 2147483647) ∧ Runs 6 mX11_bothWays 43 [zR 34 0, zI l1, zU, zI l3, zI (l4 + 1)] [] σ3 Q))))))))))) : Runs 6 mX11_bothWays 43 [zR 34 0, zI l1, zU, zI l3, zI l4] [] σ Q := by
  refine r_blk [qO (.iload 4), qO (.iconst 1), qO (.aload_n 0), qF (.getfield 13) 11 1, qO (.iconst 1), qO .iaload, qO .ishl] (pc' := 53) (L' := [zR 34 0, zI l1, zU, zI l3, zI l4]) (S' := [zI (zshl 1 (σ 36 0 1)), zI l4]) (σ' := σ) (Ps := [0 ≤ 1 ∧ 1 < 123]) (by decide +kernel) rfl ⟨(by decide), trivial⟩ ?_
  refine r_icmp_ge (off := 51) (tgt := 104) (by decide +kernel) (by decide) (fun c => ?_) (fun c => ?_)
  · replace h := h.1 c
    refine r_blk [qO (.aload_n 0), qF (.getfield 13) 11 1, qO (.iconst 5), qO (.iconst 0), qO .iastore, qO (.iload_n 3)] (pc' := 112) (L' := [zR 34 0, zI l1, zU, zI l3, zI l4]) (S' := [zI l3]) (σ' := (zup σ 36 0 5 0)) (Ps := [0 ≤ 5 ∧ 5 < 123]) (by decide +kernel) rfl ⟨(by decide), trivial⟩ ?_
    exact r_ret (by decide +kernel) rfl (fun _ => h)
  · replace h := h.2 c
    refine r_blk [qO (.iload_n 3)] (pc' := 57) (L' := [zR 34 0, zI l1, zU, zI l3, zI l4]) (S' := [zI l3]) (σ' := σ) (Ps := []) (by decide +kernel) rfl trivial ?_
    refine r_if_lt (off := 18) (tgt := 75) (by decide +kernel) (by decide) (fun c => ?_) (fun c => ?_)
    · replace h := h.1 c
      exact Runs.fg (fgE (fgE (fgU (fgE (fgE fg0))))) h
    · replace h := h.2 c
      refine r_blk [qO (.iload 4)] (pc' := 62) (L' := [zR 34 0, zI l1, zU, zI l3, zI l4]) (S' := [zI l4]) (σ' := σ) (Ps := []) (by decide +kernel) rfl trivial ?_
      refine r_callSI (As := [zI l4]) (S := []) (Lc := [zI l4, zU, zU]) (d' := 0) (n := 1) kX11_bits vX11_bits lkX11_200 (by decide +kernel) (by decide) rfl rfl (Nat.le_of_ble_eq_true rfl) rfl rfl (Nat.le_of_ble_eq_true rfl) (h.monoI (fun z2 σ1 h => ?_))
      refine r_blk [qO (.iload_n 3)] (pc' := 66) (L' := [zR 34 0, zI l1, zU, zI l3, zI l4]) (S' := [zI l3, zI z2]) (σ' := σ1) (Ps := []) (by decide +kernel) rfl trivial ?_
      refine r_callSI (As := [zI l3]) (S := [zI z2]) (Lc := [zI l3, zU, zU]) (d' := 0) (n := 1) kX11_bits vX11_bits lkX11_200 (by decide +kernel) (by decide) rfl rfl (Nat.le_of_ble_eq_true rfl) rfl rfl (Nat.le_of_ble_eq_true rfl) (h.monoI (fun z4 σ3 h => ?_))
      refine r_icmp_lt (off := 6) (tgt := 75) (by decide +kernel) (by decide) (fun c => ?_) (fun c => ?_)
      · replace h := h.1 c
        exact Runs.fg (fgE (fgE (fgU (fgE (fgE fg0))))) h
      · replace h := h.2 c
        refine r_blk [qO (.goto 26), qO (.iinc 4 1), qO (.goto (-58))] (pc' := 43) (L' := [zR 34 0, zI l1, zU, zI l3, zI (l4 + 1)]) (S' := []) (σ' := σ3) (Ps := [-2147483648 ≤ l4 + 1 ∧ l4 + 1 ≤ 2147483647]) (by decide +kernel) rfl ⟨h.1, trivial⟩ ?_
        replace h := h.2
        exact Runs.fg (fgE (fgE (fgU (fgE (fgE fg0))))) h
theorem gX11_bothWays_75 (l1 : Int) (l3 : Int) (l4 : Int) (σ : Hp) {Q : Option Int → Hp → Prop} (h : Runs 5 mX11_costOf 0 [zR 34 0, zU, zU, zU] [] (zup σ 36 0 5 l4) (rI (fun z2 σ1 => ((l1 < z2 → (-2147483648 ≤ l4 + 1 ∧ l4 + 1 ≤ 2147483647) ∧ Runs 6 mX11_bothWays 43 [zR 34 0, zI l1, zU, zI l3, zI (l4 + 1)] [] σ1 Q) ∧ (¬ l1 < z2 → (-2147483648 ≤ l4 + 1 ∧ l4 + 1 ≤ 2147483647) ∧ Runs 6 mX11_bothWays 43 [zR 34 0, zI l1, zU, zI l4, zI (l4 + 1)] [] σ1 Q))))) : Runs 6 mX11_bothWays 75 [zR 34 0, zI l1, zU, zI l3, zI l4] [] σ Q := by
  refine r_blk [qO (.aload_n 0), qF (.getfield 13) 11 1, qO (.iconst 5), qO (.iload 4), qO .iastore, qO (.aload_n 0)] (pc' := 84) (L' := [zR 34 0, zI l1, zU, zI l3, zI l4]) (S' := [zR 34 0]) (σ' := (zup σ 36 0 5 l4)) (Ps := [0 ≤ 5 ∧ 5 < 123]) (by decide +kernel) rfl ⟨(by decide), trivial⟩ ?_
  refine r_callVI (As := []) (S := []) (Lc := [zR 34 0, zU, zU, zU]) (d' := 5) (n := 0) (g := 34) (x := 0) (ci := 11) kX11_costOf vX11_costOf lkX11_187 (by decide +kernel) (by decide) rfl rfl (by decide) rfl rfl (Nat.le_of_ble_eq_true rfl) rfl rfl (Nat.le_of_ble_eq_true rfl) (h.monoI (fun z2 σ1 h => ?_))
  refine r_blk [qO (.iload_n 1)] (pc' := 88) (L' := [zR 34 0, zI l1, zU, zI l3, zI l4]) (S' := [zI l1, zI z2]) (σ' := σ1) (Ps := []) (by decide +kernel) rfl trivial ?_
  refine r_icmp_gt (off := 8) (tgt := 96) (by decide +kernel) (by decide) (fun c => ?_) (fun c => ?_)
  · replace h := h.1 c
    refine r_blk [qO (.iload_n 3), qO (.istore_n 3), qO (.iinc 4 1), qO (.goto (-58))] (pc' := 43) (L' := [zR 34 0, zI l1, zU, zI l3, zI (l4 + 1)]) (S' := []) (σ' := σ1) (Ps := [-2147483648 ≤ l4 + 1 ∧ l4 + 1 ≤ 2147483647]) (by decide +kernel) rfl ⟨h.1, trivial⟩ ?_
    replace h := h.2
    exact Runs.fg (fgE (fgE (fgU (fgE (fgE fg0))))) h
  · replace h := h.2 c
    refine r_blk [qO (.iload 4), qO (.goto 4), qO (.istore_n 3), qO (.iinc 4 1), qO (.goto (-58))] (pc' := 43) (L' := [zR 34 0, zI l1, zU, zI l4, zI (l4 + 1)]) (S' := []) (σ' := σ1) (Ps := [-2147483648 ≤ l4 + 1 ∧ l4 + 1 ≤ 2147483647]) (by decide +kernel) rfl ⟨h.1, trivial⟩ ?_
    replace h := h.2
    exact Runs.fg (fgE (fgE (fgU (fgE (fgE fg0))))) h
theorem gX11_isReached_0 (a0 : Int) (a1 : Int) (a2 : Int) (σ : Hp) {Q : Option Int → Hp → Prop} (h : Runs 4 mX11_finds 0 [zR 34 0, zI a0, zI a1, zU, zU, zU, zU, zU] [] σ (rV (fun σ1 => Runs 5 mX11_isReached 9 [zR 34 0, zU, zI a1, zI a2, zI 0] [] σ1 Q))) : Runs 5 mX11_isReached 0 [zR 34 0, zI a0, zI a1, zI a2, zU] [] σ Q := by
  refine r_blk [qO (.aload_n 0), qO (.iload_n 1), qO (.iload_n 2)] (pc' := 3) (L' := [zR 34 0, zI a0, zI a1, zI a2, zU]) (S' := [zI a1, zI a0, zR 34 0]) (σ' := σ) (Ps := []) (by decide +kernel) rfl trivial ?_
  refine r_callVV (As := [zI a0, zI a1]) (S := []) (Lc := [zR 34 0, zI a0, zI a1, zU, zU, zU, zU, zU]) (d' := 4) (n := 2) (g := 34) (x := 0) (ci := 11) kX11_finds vX11_finds lkX11_142 (by decide +kernel) (by decide) rfl rfl (by decide) rfl rfl (Nat.le_of_ble_eq_true rfl) rfl rfl (Nat.le_of_ble_eq_true rfl) (h.monoV (fun σ1 h => ?_))
  refine r_blk [qO (.iconst 0), qO (.istore 4)] (pc' := 9) (L' := [zR 34 0, zI a0, zI a1, zI a2, zI 0]) (S' := []) (σ' := σ1) (Ps := []) (by decide +kernel) rfl trivial ?_
  exact Runs.fg (fgE (fgU (fgE (fgE (fgE fg0))))) h
theorem gX11_isReached_9 (l2 : Int) (l3 : Int) (l4 : Int) (σ : Hp) {Q : Option Int → Hp → Prop} (h : ((σ 36 0 0 ≤ l4 → Q (some 1) σ) ∧ (¬ σ 36 0 0 ≤ l4 → (0 ≤ l4 ∧ l4 < 10) ∧ ((σ 41 0 l4.toNat < 0 → Q (some 0) σ) ∧ (¬ σ 41 0 l4.toNat < 0 → (0 ≤ l4 ∧ l4 < 10) ∧ (-2147483648 ≤ l2 + l3 ∧ l2 + l3 ≤ 2147483647) ∧ ((σ 41 0 l4.toNat ≤ l2 + l3 → (-2147483648 ≤ l4 + 1 ∧ l4 + 1 ≤ 2147483647) ∧ Runs 5 mX11_isReached 9 [zR 34 0, zU, zI l2, zI l3, zI (l4 + 1)] [] σ Q) ∧ (¬ σ 41 0 l4.toNat ≤ l2 + l3 → Q (some 0) σ))))))) : Runs 5 mX11_isReached 9 [zR 34 0, zU, zI l2, zI l3, zI l4] [] σ Q := by
  refine r_blk [qO (.iload 4), qO (.aload_n 0), qF (.getfield 13) 11 1, qO (.iconst 0), qO .iaload] (pc' := 17) (L' := [zR 34 0, zU, zI l2, zI l3, zI l4]) (S' := [zI (σ 36 0 0), zI l4]) (σ' := σ) (Ps := [0 ≤ 0 ∧ 0 < 123]) (by decide +kernel) rfl ⟨(by decide), trivial⟩ ?_
  refine r_icmp_ge (off := 34) (tgt := 51) (by decide +kernel) (by decide) (fun c => ?_) (fun c => ?_)
  · replace h := h.1 c
    refine r_blk [qO (.iconst 1)] (pc' := 52) (L' := [zR 34 0, zU, zI l2, zI l3, zI l4]) (S' := [zI 1]) (σ' := σ) (Ps := []) (by decide +kernel) rfl trivial ?_
    exact r_retz (by decide +kernel) rfl (by decide) h
  · replace h := h.2 c
    refine r_blk [qO (.aload_n 0), qF (.getfield 28) 11 9, qO (.iload 4), qO .iaload] (pc' := 27) (L' := [zR 34 0, zU, zI l2, zI l3, zI l4]) (S' := [zI (σ 41 0 l4.toNat)]) (σ' := σ) (Ps := [0 ≤ l4 ∧ l4 < 10]) (by decide +kernel) rfl ⟨h.1, trivial⟩ ?_
    replace h := h.2
    refine r_if_lt (off := 16) (tgt := 43) (by decide +kernel) (by decide) (fun c => ?_) (fun c => ?_)
    · replace h := h.1 c
      refine r_blk [qO (.iconst 0)] (pc' := 44) (L' := [zR 34 0, zU, zI l2, zI l3, zI l4]) (S' := [zI 0]) (σ' := σ) (Ps := []) (by decide +kernel) rfl trivial ?_
      exact r_retz (by decide +kernel) rfl (by decide) h
    · replace h := h.2 c
      refine r_blk [qO (.aload_n 0), qF (.getfield 28) 11 9, qO (.iload 4), qO .iaload, qO (.iload_n 2), qO (.iload_n 3), qO .iadd] (pc' := 40) (L' := [zR 34 0, zU, zI l2, zI l3, zI l4]) (S' := [zI (l2 + l3), zI (σ 41 0 l4.toNat)]) (σ' := σ) (Ps := [0 ≤ l4 ∧ l4 < 10, -2147483648 ≤ l2 + l3 ∧ l2 + l3 ≤ 2147483647]) (by decide +kernel) rfl ⟨h.1, h.2.1, trivial⟩ ?_
      replace h := h.2.2
      refine r_icmp_le (off := 5) (tgt := 45) (by decide +kernel) (by decide) (fun c => ?_) (fun c => ?_)
      · replace h := h.1 c
        refine r_blk [qO (.iinc 4 1), qO (.goto (-39))] (pc' := 9) (L' := [zR 34 0, zU, zI l2, zI l3, zI (l4 + 1)]) (S' := []) (σ' := σ) (Ps := [-2147483648 ≤ l4 + 1 ∧ l4 + 1 ≤ 2147483647]) (by decide +kernel) rfl ⟨h.1, trivial⟩ ?_
        replace h := h.2
        exact Runs.fg (fgE (fgU (fgE (fgE (fgE fg0))))) h
      · replace h := h.2 c
        refine r_blk [qO (.iconst 0)] (pc' := 44) (L' := [zR 34 0, zU, zI l2, zI l3, zI l4]) (S' := [zI 0]) (σ' := σ) (Ps := []) (by decide +kernel) rfl trivial ?_
        exact r_retz (by decide +kernel) rfl (by decide) h
theorem gX11_lanes_0 (a0 : Int) (a1 : Int) (a2 : Int) (σ : Hp) {Q : Option Int → Hp → Prop} (h : ((0 ≤ a0 ∧ a0 < σ 36 0 0 → ((a1 < 0 → (-6 ≤ (-4) ∧ (-4) ≤ -1) ∧ (σ 35 0 (-(-4)).toNat ≤ 2147483646) ∧ ∀ σ1 : Hp, σ1 = zup σ 35 0 (-(-4)).toNat (σ 35 0 (-(-4)).toNat + 1) → Q (some (-4)) σ1) ∧ (¬ a1 < 0 → ((0 ≤ a2 → ((2879 < a1 → (-6 ≤ (-6) ∧ (-6) ≤ -1) ∧ (σ 35 0 (-(-6)).toNat ≤ 2147483646) ∧ ∀ σ2 : Hp, σ2 = zup σ 35 0 (-(-6)).toNat (σ 35 0 (-(-6)).toNat + 1) → Q (some (-6)) σ2) ∧ (¬ 2879 < a1 → ((2879 < a2 → (-6 ≤ (-6) ∧ (-6) ≤ -1) ∧ (σ 35 0 (-(-6)).toNat ≤ 2147483646) ∧ ∀ σ3 : Hp, σ3 = zup σ 35 0 (-(-6)).toNat (σ 35 0 (-(-6)).toNat + 1) → Q (some (-6)) σ3) ∧ (¬ 2879 < a2 → ((σ 36 0 1 ≤ 10 → Runs 6 mX11_lanes 77 [zR 34 0, zI a0, zI a1, zI a2, zU, zI (-9), zI 0] [] σ Q) ∧ (¬ σ 36 0 1 ≤ 10 → (-6 ≤ (-6) ∧ (-6) ≤ -1) ∧ (σ 35 0 (-(-6)).toNat ≤ 2147483646) ∧ ∀ σ4 : Hp, σ4 = zup σ 35 0 (-(-6)).toNat (σ 35 0 (-(-6)).toNat + 1) → Q (some (-6)) σ4))))))) ∧ (¬ 0 ≤ a2 → (-6 ≤ (-4) ∧ (-4) ≤ -1) ∧ (σ 35 0 (-(-4)).toNat ≤ 2147483646) ∧ ∀ σ5 : Hp, σ5 = zup σ 35 0 (-(-4)).toNat (σ 35 0 (-(-4)).toNat + 1) → Q (some (-4)) σ5))))) ∧ (¬ (0 ≤ a0 ∧ a0 < σ 36 0 0) → (-6 ≤ (-1) ∧ (-1) ≤ -1) ∧ (σ 35 0 (-(-1)).toNat ≤ 2147483646) ∧ ∀ σ6 : Hp, σ6 = zup σ 35 0 (-(-1)).toNat (σ 35 0 (-(-1)).toNat + 1) → Q (some (-1)) σ6))) : Runs 6 mX11_lanes 0 [zR 34 0, zI a0, zI a1, zI a2, zU, zU, zU] [] σ Q := by
  refine r_blk [qO (.aload_n 0), qO (.iload_n 1)] (pc' := 2) (L' := [zR 34 0, zI a0, zI a1, zI a2, zU, zU, zU]) (S' := [zI a0, zR 34 0]) (σ' := σ) (Ps := []) (by decide +kernel) rfl trivial ?_
  refine r_callVI (As := [zI a0]) (S := []) (Lc := [zR 34 0, zI a0]) (d' := 1) (n := 1) (g := 34) (x := 0) (ci := 11) kX11_isCorner vX11_isCorner lkX11_136 (by decide +kernel) (by decide) rfl rfl (by decide) rfl rfl (Nat.le_of_ble_eq_true rfl) rfl rfl (Nat.le_of_ble_eq_true rfl) (pX11_isCorner  (fun c => ?_) (fun c => ?_))
  · replace h := h.1 c
    refine r_if_ne (off := 7) (tgt := 12) (by decide +kernel) (by decide) (fun c => ?_) (fun c => ?_)
    · refine r_blk [qO (.iload_n 2)] (pc' := 13) (L' := [zR 34 0, zI a0, zI a1, zI a2, zU, zU, zU]) (S' := [zI a1]) (σ' := σ) (Ps := []) (by decide +kernel) rfl trivial ?_
      refine r_if_lt (off := 7) (tgt := 20) (by decide +kernel) (by decide) (fun c => ?_) (fun c => ?_)
      · replace h := h.1 c
        refine r_blk [qO (.bipush (-4)), qO (.goto 34), qO (.istore 4), qO (.iload 4)] (pc' := 60) (L' := [zR 34 0, zI a0, zI a1, zI a2, zI (-4), zU, zU]) (S' := [zI (-4)]) (σ' := σ) (Ps := []) (by decide +kernel) rfl trivial ?_
        refine r_if_eq (off := 10) (tgt := 70) (by decide +kernel) (by decide) (fun c => ?_) (fun c => ?_)
        · exact absurd c (by decide)
        · refine r_blk [qO (.aload_n 0), qO (.iload 4)] (pc' := 66) (L' := [zR 34 0, zI a0, zI a1, zI a2, zI (-4), zU, zU]) (S' := [zI (-4), zR 34 0]) (σ' := σ) (Ps := []) (by decide +kernel) rfl trivial ?_
          refine r_callVI (As := [zI (-4)]) (S := []) (Lc := [zR 34 0, zI (-4)]) (d' := 0) (n := 1) (g := 34) (x := 0) (ci := 11) kX11_refuse vX11_refuse lkX11_66 (by decide +kernel) (by decide) rfl rfl (by decide) rfl rfl (Nat.le_of_ble_eq_true rfl) rfl rfl (Nat.le_of_ble_eq_true rfl) (pX11_refuse h.1 h.2.1 ?_)
          replace h := h.2.2
          generalize hσ1 : zup σ 35 0 (-(-4)).toNat (σ 35 0 (-(-4)).toNat + 1) = σ1
          replace h := h σ1 hσ1.symm
          exact r_ret (by decide +kernel) rfl (fun _ => h)
      · replace h := h.2 c
        refine r_blk [qO (.iload_n 3)] (pc' := 17) (L' := [zR 34 0, zI a0, zI a1, zI a2, zU, zU, zU]) (S' := [zI a2]) (σ' := σ) (Ps := []) (by decide +kernel) rfl trivial ?_
        refine r_if_ge (off := 8) (tgt := 25) (by decide +kernel) (by decide) (fun c => ?_) (fun c => ?_)
        · replace h := h.1 c
          refine r_blk [qO (.iload_n 2), qO (.sipush 2879)] (pc' := 29) (L' := [zR 34 0, zI a0, zI a1, zI a2, zU, zU, zU]) (S' := [zI 2879, zI a1]) (σ' := σ) (Ps := []) (by decide +kernel) rfl trivial ?_
          refine r_icmp_gt (off := 21) (tgt := 50) (by decide +kernel) (by decide) (fun c => ?_) (fun c => ?_)
          · replace h := h.1 c
            refine r_blk [qO (.bipush (-6)), qO (.goto 4), qO (.istore 4), qO (.iload 4)] (pc' := 60) (L' := [zR 34 0, zI a0, zI a1, zI a2, zI (-6), zU, zU]) (S' := [zI (-6)]) (σ' := σ) (Ps := []) (by decide +kernel) rfl trivial ?_
            refine r_if_eq (off := 10) (tgt := 70) (by decide +kernel) (by decide) (fun c => ?_) (fun c => ?_)
            · exact absurd c (by decide)
            · refine r_blk [qO (.aload_n 0), qO (.iload 4)] (pc' := 66) (L' := [zR 34 0, zI a0, zI a1, zI a2, zI (-6), zU, zU]) (S' := [zI (-6), zR 34 0]) (σ' := σ) (Ps := []) (by decide +kernel) rfl trivial ?_
              refine r_callVI (As := [zI (-6)]) (S := []) (Lc := [zR 34 0, zI (-6)]) (d' := 0) (n := 1) (g := 34) (x := 0) (ci := 11) kX11_refuse vX11_refuse lkX11_66 (by decide +kernel) (by decide) rfl rfl (by decide) rfl rfl (Nat.le_of_ble_eq_true rfl) rfl rfl (Nat.le_of_ble_eq_true rfl) (pX11_refuse h.1 h.2.1 ?_)
              replace h := h.2.2
              generalize hσ2 : zup σ 35 0 (-(-6)).toNat (σ 35 0 (-(-6)).toNat + 1) = σ2
              replace h := h σ2 hσ2.symm
              exact r_ret (by decide +kernel) rfl (fun _ => h)
          · replace h := h.2 c
            refine r_blk [qO (.iload_n 3), qO (.sipush 2879)] (pc' := 36) (L' := [zR 34 0, zI a0, zI a1, zI a2, zU, zU, zU]) (S' := [zI 2879, zI a2]) (σ' := σ) (Ps := []) (by decide +kernel) rfl trivial ?_
            refine r_icmp_gt (off := 14) (tgt := 50) (by decide +kernel) (by decide) (fun c => ?_) (fun c => ?_)
            · replace h := h.1 c
              refine r_blk [qO (.bipush (-6)), qO (.goto 4), qO (.istore 4), qO (.iload 4)] (pc' := 60) (L' := [zR 34 0, zI a0, zI a1, zI a2, zI (-6), zU, zU]) (S' := [zI (-6)]) (σ' := σ) (Ps := []) (by decide +kernel) rfl trivial ?_
              refine r_if_eq (off := 10) (tgt := 70) (by decide +kernel) (by decide) (fun c => ?_) (fun c => ?_)
              · exact absurd c (by decide)
              · refine r_blk [qO (.aload_n 0), qO (.iload 4)] (pc' := 66) (L' := [zR 34 0, zI a0, zI a1, zI a2, zI (-6), zU, zU]) (S' := [zI (-6), zR 34 0]) (σ' := σ) (Ps := []) (by decide +kernel) rfl trivial ?_
                refine r_callVI (As := [zI (-6)]) (S := []) (Lc := [zR 34 0, zI (-6)]) (d' := 0) (n := 1) (g := 34) (x := 0) (ci := 11) kX11_refuse vX11_refuse lkX11_66 (by decide +kernel) (by decide) rfl rfl (by decide) rfl rfl (Nat.le_of_ble_eq_true rfl) rfl rfl (Nat.le_of_ble_eq_true rfl) (pX11_refuse h.1 h.2.1 ?_)
                replace h := h.2.2
                generalize hσ3 : zup σ 35 0 (-(-6)).toNat (σ 35 0 (-(-6)).toNat + 1) = σ3
                replace h := h σ3 hσ3.symm
                exact r_ret (by decide +kernel) rfl (fun _ => h)
            · replace h := h.2 c
              refine r_blk [qO (.aload_n 0), qF (.getfield 13) 11 1, qO (.iconst 1), qO .iaload, qO (.bipush 10)] (pc' := 47) (L' := [zR 34 0, zI a0, zI a1, zI a2, zU, zU, zU]) (S' := [zI 10, zI (σ 36 0 1)]) (σ' := σ) (Ps := [0 ≤ 1 ∧ 1 < 123]) (by decide +kernel) rfl ⟨(by decide), trivial⟩ ?_
              refine r_icmp_le (off := 8) (tgt := 55) (by decide +kernel) (by decide) (fun c => ?_) (fun c => ?_)
              · replace h := h.1 c
                refine r_blk [qO (.iconst 0), qO (.istore 4), qO (.iload 4)] (pc' := 60) (L' := [zR 34 0, zI a0, zI a1, zI a2, zI 0, zU, zU]) (S' := [zI 0]) (σ' := σ) (Ps := []) (by decide +kernel) rfl trivial ?_
                refine r_if_eq (off := 10) (tgt := 70) (by decide +kernel) (by decide) (fun c => ?_) (fun c => ?_)
                · refine r_blk [qO (.bipush (-9)), qO (.istore 5), qO (.iconst 0), qO (.istore 6)] (pc' := 77) (L' := [zR 34 0, zI a0, zI a1, zI a2, zI 0, zI (-9), zI 0]) (S' := []) (σ' := σ) (Ps := []) (by decide +kernel) rfl trivial ?_
                  exact Runs.fg (fgE (fgE (fgE (fgE (fgU (fgE (fgE fg0))))))) h
                · exact absurd c (by decide)
              · replace h := h.2 c
                refine r_blk [qO (.bipush (-6)), qO (.goto 4), qO (.istore 4), qO (.iload 4)] (pc' := 60) (L' := [zR 34 0, zI a0, zI a1, zI a2, zI (-6), zU, zU]) (S' := [zI (-6)]) (σ' := σ) (Ps := []) (by decide +kernel) rfl trivial ?_
                refine r_if_eq (off := 10) (tgt := 70) (by decide +kernel) (by decide) (fun c => ?_) (fun c => ?_)
                · exact absurd c (by decide)
                · refine r_blk [qO (.aload_n 0), qO (.iload 4)] (pc' := 66) (L' := [zR 34 0, zI a0, zI a1, zI a2, zI (-6), zU, zU]) (S' := [zI (-6), zR 34 0]) (σ' := σ) (Ps := []) (by decide +kernel) rfl trivial ?_
                  refine r_callVI (As := [zI (-6)]) (S := []) (Lc := [zR 34 0, zI (-6)]) (d' := 0) (n := 1) (g := 34) (x := 0) (ci := 11) kX11_refuse vX11_refuse lkX11_66 (by decide +kernel) (by decide) rfl rfl (by decide) rfl rfl (Nat.le_of_ble_eq_true rfl) rfl rfl (Nat.le_of_ble_eq_true rfl) (pX11_refuse h.1 h.2.1 ?_)
                  replace h := h.2.2
                  generalize hσ4 : zup σ 35 0 (-(-6)).toNat (σ 35 0 (-(-6)).toNat + 1) = σ4
                  replace h := h σ4 hσ4.symm
                  exact r_ret (by decide +kernel) rfl (fun _ => h)
        · replace h := h.2 c
          refine r_blk [qO (.bipush (-4)), qO (.goto 34), qO (.istore 4), qO (.iload 4)] (pc' := 60) (L' := [zR 34 0, zI a0, zI a1, zI a2, zI (-4), zU, zU]) (S' := [zI (-4)]) (σ' := σ) (Ps := []) (by decide +kernel) rfl trivial ?_
          refine r_if_eq (off := 10) (tgt := 70) (by decide +kernel) (by decide) (fun c => ?_) (fun c => ?_)
          · exact absurd c (by decide)
          · refine r_blk [qO (.aload_n 0), qO (.iload 4)] (pc' := 66) (L' := [zR 34 0, zI a0, zI a1, zI a2, zI (-4), zU, zU]) (S' := [zI (-4), zR 34 0]) (σ' := σ) (Ps := []) (by decide +kernel) rfl trivial ?_
            refine r_callVI (As := [zI (-4)]) (S := []) (Lc := [zR 34 0, zI (-4)]) (d' := 0) (n := 1) (g := 34) (x := 0) (ci := 11) kX11_refuse vX11_refuse lkX11_66 (by decide +kernel) (by decide) rfl rfl (by decide) rfl rfl (Nat.le_of_ble_eq_true rfl) rfl rfl (Nat.le_of_ble_eq_true rfl) (pX11_refuse h.1 h.2.1 ?_)
            replace h := h.2.2
            generalize hσ5 : zup σ 35 0 (-(-4)).toNat (σ 35 0 (-(-4)).toNat + 1) = σ5
            replace h := h σ5 hσ5.symm
            exact r_ret (by decide +kernel) rfl (fun _ => h)
    · exact absurd c (by decide)
  · replace h := h.2 c
    refine r_if_ne (off := 7) (tgt := 12) (by decide +kernel) (by decide) (fun c => ?_) (fun c => ?_)
    · exact absurd c (by decide)
    · refine r_blk [qO (.iconst (-1)), qO (.goto 47), qO (.istore 4), qO (.iload 4)] (pc' := 60) (L' := [zR 34 0, zI a0, zI a1, zI a2, zI (-1), zU, zU]) (S' := [zI (-1)]) (σ' := σ) (Ps := []) (by decide +kernel) rfl trivial ?_
      refine r_if_eq (off := 10) (tgt := 70) (by decide +kernel) (by decide) (fun c => ?_) (fun c => ?_)
      · exact absurd c (by decide)
      · refine r_blk [qO (.aload_n 0), qO (.iload 4)] (pc' := 66) (L' := [zR 34 0, zI a0, zI a1, zI a2, zI (-1), zU, zU]) (S' := [zI (-1), zR 34 0]) (σ' := σ) (Ps := []) (by decide +kernel) rfl trivial ?_
        refine r_callVI (As := [zI (-1)]) (S := []) (Lc := [zR 34 0, zI (-1)]) (d' := 0) (n := 1) (g := 34) (x := 0) (ci := 11) kX11_refuse vX11_refuse lkX11_66 (by decide +kernel) (by decide) rfl rfl (by decide) rfl rfl (Nat.le_of_ble_eq_true rfl) rfl rfl (Nat.le_of_ble_eq_true rfl) (pX11_refuse h.1 h.2.1 ?_)
        replace h := h.2.2
        generalize hσ6 : zup σ 35 0 (-(-1)).toNat (σ 35 0 (-(-1)).toNat + 1) = σ6
        replace h := h σ6 hσ6.symm
        exact r_ret (by decide +kernel) rfl (fun _ => h)
theorem gX11_lanes_77 (l1 : Int) (l2 : Int) (l3 : Int) (l5 : Int) (l6 : Int) (σ : Hp) {Q : Option Int → Hp → Prop} (h : ((zshl 1 (σ 36 0 1) ≤ l6 → Q (some l5) (zup σ 36 0 5 0)) ∧ (¬ zshl 1 (σ 36 0 1) ≤ l6 → ((l5 < 0 → Runs 6 mX11_lanes 111 [zR 34 0, zI l1, zI l2, zI l3, zU, zI l5, zI l6] [] σ Q) ∧ (¬ l5 < 0 → Runs 0 mX11_bits 0 [zI l6, zU, zU] [] σ (rI (fun z2 σ1 => Runs 0 mX11_bits 0 [zI l5, zU, zU] [] σ1 (rI (fun z4 σ3 => ((z2 < z4 → Runs 6 mX11_lanes 111 [zR 34 0, zI l1, zI l2, zI l3, zU, zI l5, zI l6] [] σ3 Q) ∧ (¬ z2 < z4 → (-2147483648 ≤ l6 + 1 ∧ l6 + 1 ≤ 2147483647) ∧ Runs 6 mX11_lanes 77 [zR 34 0, zI l1, zI l2, zI l3, zU, zI l5, zI (l6 + 1)] [] σ3 Q))))))))))) : Runs 6 mX11_lanes 77 [zR 34 0, zI l1, zI l2, zI l3, zU, zI l5, zI l6] [] σ Q := by
  refine r_blk [qO (.iload 6), qO (.iconst 1), qO (.aload_n 0), qF (.getfield 13) 11 1, qO (.iconst 1), qO .iaload, qO .ishl] (pc' := 87) (L' := [zR 34 0, zI l1, zI l2, zI l3, zU, zI l5, zI l6]) (S' := [zI (zshl 1 (σ 36 0 1)), zI l6]) (σ' := σ) (Ps := [0 ≤ 1 ∧ 1 < 123]) (by decide +kernel) rfl ⟨(by decide), trivial⟩ ?_
  refine r_icmp_ge (off := 57) (tgt := 144) (by decide +kernel) (by decide) (fun c => ?_) (fun c => ?_)
  · replace h := h.1 c
    refine r_blk [qO (.aload_n 0), qF (.getfield 13) 11 1, qO (.iconst 5), qO (.iconst 0), qO .iastore, qO (.iload 5)] (pc' := 153) (L' := [zR 34 0, zI l1, zI l2, zI l3, zU, zI l5, zI l6]) (S' := [zI l5]) (σ' := (zup σ 36 0 5 0)) (Ps := [0 ≤ 5 ∧ 5 < 123]) (by decide +kernel) rfl ⟨(by decide), trivial⟩ ?_
    exact r_ret (by decide +kernel) rfl (fun _ => h)
  · replace h := h.2 c
    refine r_blk [qO (.iload 5)] (pc' := 92) (L' := [zR 34 0, zI l1, zI l2, zI l3, zU, zI l5, zI l6]) (S' := [zI l5]) (σ' := σ) (Ps := []) (by decide +kernel) rfl trivial ?_
    refine r_if_lt (off := 19) (tgt := 111) (by decide +kernel) (by decide) (fun c => ?_) (fun c => ?_)
    · replace h := h.1 c
      exact Runs.fg (fgE (fgE (fgE (fgE (fgU (fgE (fgE fg0))))))) h
    · replace h := h.2 c
      refine r_blk [qO (.iload 6)] (pc' := 97) (L' := [zR 34 0, zI l1, zI l2, zI l3, zU, zI l5, zI l6]) (S' := [zI l6]) (σ' := σ) (Ps := []) (by decide +kernel) rfl trivial ?_
      refine r_callSI (As := [zI l6]) (S := []) (Lc := [zI l6, zU, zU]) (d' := 0) (n := 1) kX11_bits vX11_bits lkX11_200 (by decide +kernel) (by decide) rfl rfl (Nat.le_of_ble_eq_true rfl) rfl rfl (Nat.le_of_ble_eq_true rfl) (h.monoI (fun z2 σ1 h => ?_))
      refine r_blk [qO (.iload 5)] (pc' := 102) (L' := [zR 34 0, zI l1, zI l2, zI l3, zU, zI l5, zI l6]) (S' := [zI l5, zI z2]) (σ' := σ1) (Ps := []) (by decide +kernel) rfl trivial ?_
      refine r_callSI (As := [zI l5]) (S := [zI z2]) (Lc := [zI l5, zU, zU]) (d' := 0) (n := 1) kX11_bits vX11_bits lkX11_200 (by decide +kernel) (by decide) rfl rfl (Nat.le_of_ble_eq_true rfl) rfl rfl (Nat.le_of_ble_eq_true rfl) (h.monoI (fun z4 σ3 h => ?_))
      refine r_icmp_lt (off := 6) (tgt := 111) (by decide +kernel) (by decide) (fun c => ?_) (fun c => ?_)
      · replace h := h.1 c
        exact Runs.fg (fgE (fgE (fgE (fgE (fgU (fgE (fgE fg0))))))) h
      · replace h := h.2 c
        refine r_blk [qO (.goto 30), qO (.iinc 6 1), qO (.goto (-64))] (pc' := 77) (L' := [zR 34 0, zI l1, zI l2, zI l3, zU, zI l5, zI (l6 + 1)]) (S' := []) (σ' := σ3) (Ps := [-2147483648 ≤ l6 + 1 ∧ l6 + 1 ≤ 2147483647]) (by decide +kernel) rfl ⟨h.1, trivial⟩ ?_
        replace h := h.2
        exact Runs.fg (fgE (fgE (fgE (fgE (fgU (fgE (fgE fg0))))))) h
theorem gX11_lanes_111 (l1 : Int) (l2 : Int) (l3 : Int) (l5 : Int) (l6 : Int) (σ : Hp) {Q : Option Int → Hp → Prop} (h : Runs 5 mX11_isReached 0 [zR 34 0, zI l1, zI l2, zI l3, zU] [] (zup σ 36 0 5 l6) (rI (fun z2 σ1 => ((z2 = 0 → (-2147483648 ≤ l6 + 1 ∧ l6 + 1 ≤ 2147483647) ∧ Runs 6 mX11_lanes 77 [zR 34 0, zI l1, zI l2, zI l3, zU, zI l5, zI (l6 + 1)] [] σ1 Q) ∧ (¬ z2 = 0 → (-2147483648 ≤ l6 + 1 ∧ l6 + 1 ≤ 2147483647) ∧ Runs 6 mX11_lanes 77 [zR 34 0, zI l1, zI l2, zI l3, zU, zI l6, zI (l6 + 1)] [] σ1 Q))))) : Runs 6 mX11_lanes 111 [zR 34 0, zI l1, zI l2, zI l3, zU, zI l5, zI l6] [] σ Q := by
  refine r_blk [qO (.aload_n 0), qF (.getfield 13) 11 1, qO (.iconst 5), qO (.iload 6), qO .iastore, qO (.aload_n 0), qO (.iload_n 1), qO (.iload_n 2), qO (.iload_n 3)] (pc' := 123) (L' := [zR 34 0, zI l1, zI l2, zI l3, zU, zI l5, zI l6]) (S' := [zI l3, zI l2, zI l1, zR 34 0]) (σ' := (zup σ 36 0 5 l6)) (Ps := [0 ≤ 5 ∧ 5 < 123]) (by decide +kernel) rfl ⟨(by decide), trivial⟩ ?_
  refine r_callVI (As := [zI l1, zI l2, zI l3]) (S := []) (Lc := [zR 34 0, zI l1, zI l2, zI l3, zU]) (d' := 5) (n := 3) (g := 34) (x := 0) (ci := 11) kX11_isReached vX11_isReached lkX11_212 (by decide +kernel) (by decide) rfl rfl (by decide) rfl rfl (Nat.le_of_ble_eq_true rfl) rfl rfl (Nat.le_of_ble_eq_true rfl) (h.monoI (fun z2 σ1 h => ?_))
  refine r_if_eq (off := 8) (tgt := 134) (by decide +kernel) (by decide) (fun c => ?_) (fun c => ?_)
  · replace h := h.1 c
    refine r_blk [qO (.iload 5), qO (.istore 5), qO (.iinc 6 1), qO (.goto (-64))] (pc' := 77) (L' := [zR 34 0, zI l1, zI l2, zI l3, zU, zI l5, zI (l6 + 1)]) (S' := []) (σ' := σ1) (Ps := [-2147483648 ≤ l6 + 1 ∧ l6 + 1 ≤ 2147483647]) (by decide +kernel) rfl ⟨h.1, trivial⟩ ?_
    replace h := h.2
    exact Runs.fg (fgE (fgE (fgE (fgE (fgU (fgE (fgE fg0))))))) h
  · replace h := h.2 c
    refine r_blk [qO (.iload 6), qO (.goto 5), qO (.istore 5), qO (.iinc 6 1), qO (.goto (-64))] (pc' := 77) (L' := [zR 34 0, zI l1, zI l2, zI l3, zU, zI l6, zI (l6 + 1)]) (S' := []) (σ' := σ1) (Ps := [-2147483648 ≤ l6 + 1 ∧ l6 + 1 ≤ 2147483647]) (by decide +kernel) rfl ⟨h.1, trivial⟩ ?_
    replace h := h.2
    exact Runs.fg (fgE (fgE (fgE (fgE (fgU (fgE (fgE fg0))))))) h
theorem gX11_shuts_0 (a0 : Int) (σ : Hp) {Q : Option Int → Hp → Prop} (h : ((0 ≤ a0 ∧ a0 < σ 36 0 1 → Runs 5 mX11_costOf 0 [zR 34 0, zU, zU, zU] [] σ (rI (fun z2 σ1 => Runs 5 mX11_costOf 0 [zR 34 0, zU, zU, zU] [] (zup σ1 36 0 4 (zor (σ1 36 0 4) (zshl 1 a0))) (rI (fun z4 σ3 => (-2147483648 ≤ z4 - z2 ∧ z4 - z2 ≤ 2147483647) ∧ Q (some (z4 - z2)) (zup σ3 36 0 4 (σ1 36 0 4))))))) ∧ (¬ (0 ≤ a0 ∧ a0 < σ 36 0 1) → (-6 ≤ (-1) ∧ (-1) ≤ -1) ∧ (σ 35 0 (-(-1)).toNat ≤ 2147483646) ∧ ∀ σ5 : Hp, σ5 = zup σ 35 0 (-(-1)).toNat (σ 35 0 (-(-1)).toNat + 1) → Q (some (1000000000 - (-1))) σ5))) : Runs 6 mX11_shuts 0 [zR 34 0, zI a0, zU, zU, zU] [] σ Q := by
  refine r_blk [qO (.aload_n 0), qO (.iload_n 1)] (pc' := 2) (L' := [zR 34 0, zI a0, zU, zU, zU]) (S' := [zI a0, zR 34 0]) (σ' := σ) (Ps := []) (by decide +kernel) rfl trivial ?_
  refine r_callVI (As := [zI a0]) (S := []) (Lc := [zR 34 0, zI a0]) (d' := 1) (n := 1) (g := 34) (x := 0) (ci := 11) kX11_isStreet vX11_isStreet lkX11_103 (by decide +kernel) (by decide) rfl rfl (by decide) rfl rfl (Nat.le_of_ble_eq_true rfl) rfl rfl (Nat.le_of_ble_eq_true rfl) (pX11_isStreet  (fun c => ?_) (fun c => ?_))
  · replace h := h.1 c
    refine r_if_ne (off := 12) (tgt := 17) (by decide +kernel) (by decide) (fun c => ?_) (fun c => ?_)
    · refine r_blk [qO (.aload_n 0)] (pc' := 18) (L' := [zR 34 0, zI a0, zU, zU, zU]) (S' := [zR 34 0]) (σ' := σ) (Ps := []) (by decide +kernel) rfl trivial ?_
      refine r_callVI (As := []) (S := []) (Lc := [zR 34 0, zU, zU, zU]) (d' := 5) (n := 0) (g := 34) (x := 0) (ci := 11) kX11_costOf vX11_costOf lkX11_187 (by decide +kernel) (by decide) rfl rfl (by decide) rfl rfl (Nat.le_of_ble_eq_true rfl) rfl rfl (Nat.le_of_ble_eq_true rfl) (h.monoI (fun z2 σ1 h => ?_))
      refine r_blk [qO (.istore_n 2), qO (.aload_n 0), qF (.getfield 13) 11 1, qO (.iconst 4), qO .iaload, qO (.istore_n 3), qO (.aload_n 0), qF (.getfield 13) 11 1, qO (.iconst 4), qO .dup2, qO .iaload, qO (.iconst 1), qO (.iload_n 1), qO .ishl, qO .ior, qO .iastore, qO (.aload_n 0)] (pc' := 42) (L' := [zR 34 0, zI a0, zI z2, zI (σ1 36 0 4), zU]) (S' := [zR 34 0]) (σ' := (zup σ1 36 0 4 (zor (σ1 36 0 4) (zshl 1 a0)))) (Ps := [0 ≤ 4 ∧ 4 < 123, 0 ≤ 4 ∧ 4 < 123, 0 ≤ 4 ∧ 4 < 123]) (by decide +kernel) rfl ⟨(by decide), (by decide), (by decide), trivial⟩ ?_
      refine r_callVI (As := []) (S := []) (Lc := [zR 34 0, zU, zU, zU]) (d' := 5) (n := 0) (g := 34) (x := 0) (ci := 11) kX11_costOf vX11_costOf lkX11_187 (by decide +kernel) (by decide) rfl rfl (by decide) rfl rfl (Nat.le_of_ble_eq_true rfl) rfl rfl (Nat.le_of_ble_eq_true rfl) (h.monoI (fun z4 σ3 h => ?_))
      refine r_blk [qO (.istore 4), qO (.aload_n 0), qF (.getfield 13) 11 1, qO (.iconst 4), qO (.iload_n 3), qO .iastore, qO (.iload 4), qO (.iload_n 2), qO .isub] (pc' := 58) (L' := [zR 34 0, zI a0, zI z2, zI (σ1 36 0 4), zI z4]) (S' := [zI (z4 - z2)]) (σ' := (zup σ3 36 0 4 (σ1 36 0 4))) (Ps := [0 ≤ 4 ∧ 4 < 123, -2147483648 ≤ z4 - z2 ∧ z4 - z2 ≤ 2147483647]) (by decide +kernel) rfl ⟨(by decide), h.1, trivial⟩ ?_
      replace h := h.2
      exact r_ret (by decide +kernel) rfl (fun _ => h)
    · exact absurd c (by decide)
  · replace h := h.2 c
    refine r_if_ne (off := 12) (tgt := 17) (by decide +kernel) (by decide) (fun c => ?_) (fun c => ?_)
    · exact absurd c (by decide)
    · refine r_blk [qC (.ldc 155) 1000000000, qO (.aload_n 0), qO (.iconst (-1))] (pc' := 12) (L' := [zR 34 0, zI a0, zU, zU, zU]) (S' := [zI (-1), zR 34 0, zI 1000000000]) (σ' := σ) (Ps := []) (by decide +kernel) rfl trivial ?_
      refine r_callVI (As := [zI (-1)]) (S := [zI 1000000000]) (Lc := [zR 34 0, zI (-1)]) (d' := 0) (n := 1) (g := 34) (x := 0) (ci := 11) kX11_refuse vX11_refuse lkX11_66 (by decide +kernel) (by decide) rfl rfl (by decide) rfl rfl (Nat.le_of_ble_eq_true rfl) rfl rfl (Nat.le_of_ble_eq_true rfl) (pX11_refuse h.1 h.2.1 ?_)
      replace h := h.2.2
      generalize hσ5 : zup σ 35 0 (-(-1)).toNat (σ 35 0 (-(-1)).toNat + 1) = σ5
      replace h := h σ5 hσ5.symm
      refine r_blk [qO .isub] (pc' := 16) (L' := [zR 34 0, zI a0, zU, zU, zU]) (S' := [zI (1000000000 - (-1))]) (σ' := σ5) (Ps := [-2147483648 ≤ 1000000000 - (-1) ∧ 1000000000 - (-1) ≤ 2147483647]) (by decide +kernel) rfl ⟨(by decide), trivial⟩ ?_
      exact r_ret (by decide +kernel) rfl (fun _ => h)
theorem gJ6_bitCount_0f7a4_0 (a0 : Int) (σ : Hp) {Q : Option Int → Hp → Prop} (h : (-2147483648 ≤ a0 - (zand (zushr a0 1) 1431655765) ∧ a0 - (zand (zushr a0 1) 1431655765) ≤ 2147483647) ∧ (-2147483648 ≤ (zand (a0 - (zand (zushr a0 1) 1431655765)) 858993459) + (zand (zushr (a0 - (zand (zushr a0 1) 1431655765)) 2) 858993459) ∧ (zand (a0 - (zand (zushr a0 1) 1431655765)) 858993459) + (zand (zushr (a0 - (zand (zushr a0 1) 1431655765)) 2) 858993459) ≤ 2147483647) ∧ (-2147483648 ≤ ((zand (a0 - (zand (zushr a0 1) 1431655765)) 858993459) + (zand (zushr (a0 - (zand (zushr a0 1) 1431655765)) 2) 858993459)) + (zushr ((zand (a0 - (zand (zushr a0 1) 1431655765)) 858993459) + (zand (zushr (a0 - (zand (zushr a0 1) 1431655765)) 2) 858993459)) 4) ∧ ((zand (a0 - (zand (zushr a0 1) 1431655765)) 858993459) + (zand (zushr (a0 - (zand (zushr a0 1) 1431655765)) 2) 858993459)) + (zushr ((zand (a0 - (zand (zushr a0 1) 1431655765)) 858993459) + (zand (zushr (a0 - (zand (zushr a0 1) 1431655765)) 2) 858993459)) 4) ≤ 2147483647) ∧ (-2147483648 ≤ (zand (((zand (a0 - (zand (zushr a0 1) 1431655765)) 858993459) + (zand (zushr (a0 - (zand (zushr a0 1) 1431655765)) 2) 858993459)) + (zushr ((zand (a0 - (zand (zushr a0 1) 1431655765)) 858993459) + (zand (zushr (a0 - (zand (zushr a0 1) 1431655765)) 2) 858993459)) 4)) 252645135) + (zushr (zand (((zand (a0 - (zand (zushr a0 1) 1431655765)) 858993459) + (zand (zushr (a0 - (zand (zushr a0 1) 1431655765)) 2) 858993459)) + (zushr ((zand (a0 - (zand (zushr a0 1) 1431655765)) 858993459) + (zand (zushr (a0 - (zand (zushr a0 1) 1431655765)) 2) 858993459)) 4)) 252645135) 8) ∧ (zand (((zand (a0 - (zand (zushr a0 1) 1431655765)) 858993459) + (zand (zushr (a0 - (zand (zushr a0 1) 1431655765)) 2) 858993459)) + (zushr ((zand (a0 - (zand (zushr a0 1) 1431655765)) 858993459) + (zand (zushr (a0 - (zand (zushr a0 1) 1431655765)) 2) 858993459)) 4)) 252645135) + (zushr (zand (((zand (a0 - (zand (zushr a0 1) 1431655765)) 858993459) + (zand (zushr (a0 - (zand (zushr a0 1) 1431655765)) 2) 858993459)) + (zushr ((zand (a0 - (zand (zushr a0 1) 1431655765)) 858993459) + (zand (zushr (a0 - (zand (zushr a0 1) 1431655765)) 2) 858993459)) 4)) 252645135) 8) ≤ 2147483647) ∧ (-2147483648 ≤ ((zand (((zand (a0 - (zand (zushr a0 1) 1431655765)) 858993459) + (zand (zushr (a0 - (zand (zushr a0 1) 1431655765)) 2) 858993459)) + (zushr ((zand (a0 - (zand (zushr a0 1) 1431655765)) 858993459) + (zand (zushr (a0 - (zand (zushr a0 1) 1431655765)) 2) 858993459)) 4)) 252645135) + (zushr (zand (((zand (a0 - (zand (zushr a0 1) 1431655765)) 858993459) + (zand (zushr (a0 - (zand (zushr a0 1) 1431655765)) 2) 858993459)) + (zushr ((zand (a0 - (zand (zushr a0 1) 1431655765)) 858993459) + (zand (zushr (a0 - (zand (zushr a0 1) 1431655765)) 2) 858993459)) 4)) 252645135) 8)) + (zushr ((zand (((zand (a0 - (zand (zushr a0 1) 1431655765)) 858993459) + (zand (zushr (a0 - (zand (zushr a0 1) 1431655765)) 2) 858993459)) + (zushr ((zand (a0 - (zand (zushr a0 1) 1431655765)) 858993459) + (zand (zushr (a0 - (zand (zushr a0 1) 1431655765)) 2) 858993459)) 4)) 252645135) + (zushr (zand (((zand (a0 - (zand (zushr a0 1) 1431655765)) 858993459) + (zand (zushr (a0 - (zand (zushr a0 1) 1431655765)) 2) 858993459)) + (zushr ((zand (a0 - (zand (zushr a0 1) 1431655765)) 858993459) + (zand (zushr (a0 - (zand (zushr a0 1) 1431655765)) 2) 858993459)) 4)) 252645135) 8)) 16) ∧ ((zand (((zand (a0 - (zand (zushr a0 1) 1431655765)) 858993459) + (zand (zushr (a0 - (zand (zushr a0 1) 1431655765)) 2) 858993459)) + (zushr ((zand (a0 - (zand (zushr a0 1) 1431655765)) 858993459) + (zand (zushr (a0 - (zand (zushr a0 1) 1431655765)) 2) 858993459)) 4)) 252645135) + (zushr (zand (((zand (a0 - (zand (zushr a0 1) 1431655765)) 858993459) + (zand (zushr (a0 - (zand (zushr a0 1) 1431655765)) 2) 858993459)) + (zushr ((zand (a0 - (zand (zushr a0 1) 1431655765)) 858993459) + (zand (zushr (a0 - (zand (zushr a0 1) 1431655765)) 2) 858993459)) 4)) 252645135) 8)) + (zushr ((zand (((zand (a0 - (zand (zushr a0 1) 1431655765)) 858993459) + (zand (zushr (a0 - (zand (zushr a0 1) 1431655765)) 2) 858993459)) + (zushr ((zand (a0 - (zand (zushr a0 1) 1431655765)) 858993459) + (zand (zushr (a0 - (zand (zushr a0 1) 1431655765)) 2) 858993459)) 4)) 252645135) + (zushr (zand (((zand (a0 - (zand (zushr a0 1) 1431655765)) 858993459) + (zand (zushr (a0 - (zand (zushr a0 1) 1431655765)) 2) 858993459)) + (zushr ((zand (a0 - (zand (zushr a0 1) 1431655765)) 858993459) + (zand (zushr (a0 - (zand (zushr a0 1) 1431655765)) 2) 858993459)) 4)) 252645135) 8)) 16) ≤ 2147483647) ∧ ∀ z1 : Int, z1 = ((zand (((zand (a0 - (zand (zushr a0 1) 1431655765)) 858993459) + (zand (zushr (a0 - (zand (zushr a0 1) 1431655765)) 2) 858993459)) + (zushr ((zand (a0 - (zand (zushr a0 1) 1431655765)) 858993459) + (zand (zushr (a0 - (zand (zushr a0 1) 1431655765)) 2) 858993459)) 4)) 252645135) + (zushr (zand (((zand (a0 - (zand (zushr a0 1) 1431655765)) 858993459) + (zand (zushr (a0 - (zand (zushr a0 1) 1431655765)) 2) 858993459)) + (zushr ((zand (a0 - (zand (zushr a0 1) 1431655765)) 858993459) + (zand (zushr (a0 - (zand (zushr a0 1) 1431655765)) 2) 858993459)) 4)) 252645135) 8)) + (zushr ((zand (((zand (a0 - (zand (zushr a0 1) 1431655765)) 858993459) + (zand (zushr (a0 - (zand (zushr a0 1) 1431655765)) 2) 858993459)) + (zushr ((zand (a0 - (zand (zushr a0 1) 1431655765)) 858993459) + (zand (zushr (a0 - (zand (zushr a0 1) 1431655765)) 2) 858993459)) 4)) 252645135) + (zushr (zand (((zand (a0 - (zand (zushr a0 1) 1431655765)) 858993459) + (zand (zushr (a0 - (zand (zushr a0 1) 1431655765)) 2) 858993459)) + (zushr ((zand (a0 - (zand (zushr a0 1) 1431655765)) 858993459) + (zand (zushr (a0 - (zand (zushr a0 1) 1431655765)) 2) 858993459)) 4)) 252645135) 8)) 16) → Q (some (zand z1 63)) σ) : Runs 0 mJ6_bitCount_0f7a4 0 [zI a0] [] σ Q := by
  refine r_blk [qO (.iload_n 0), qO (.iload_n 0), qO (.iconst 1), qO .iushr, qC (.ldc_w 265) 1431655765, qO .iand, qO .isub, qO (.istore_n 0), qO (.iload_n 0), qC (.ldc_w 266) 858993459, qO .iand, qO (.iload_n 0), qO (.iconst 2), qO .iushr, qC (.ldc_w 266) 858993459, qO .iand, qO .iadd, qO (.istore_n 0), qO (.iload_n 0), qO (.iload_n 0), qO (.iconst 4), qO .iushr, qO .iadd, qC (.ldc_w 267) 252645135, qO .iand, qO (.istore_n 0), qO (.iload_n 0), qO (.iload_n 0), qO (.bipush 8), qO .iushr, qO .iadd, qO (.istore_n 0), qO (.iload_n 0), qO (.iload_n 0), qO (.bipush 16), qO .iushr, qO .iadd, qO (.istore_n 0), qO (.iload_n 0), qO (.bipush 63), qO .iand] (pc' := 52) (L' := [zI (((zand (((zand (a0 - (zand (zushr a0 1) 1431655765)) 858993459) + (zand (zushr (a0 - (zand (zushr a0 1) 1431655765)) 2) 858993459)) + (zushr ((zand (a0 - (zand (zushr a0 1) 1431655765)) 858993459) + (zand (zushr (a0 - (zand (zushr a0 1) 1431655765)) 2) 858993459)) 4)) 252645135) + (zushr (zand (((zand (a0 - (zand (zushr a0 1) 1431655765)) 858993459) + (zand (zushr (a0 - (zand (zushr a0 1) 1431655765)) 2) 858993459)) + (zushr ((zand (a0 - (zand (zushr a0 1) 1431655765)) 858993459) + (zand (zushr (a0 - (zand (zushr a0 1) 1431655765)) 2) 858993459)) 4)) 252645135) 8)) + (zushr ((zand (((zand (a0 - (zand (zushr a0 1) 1431655765)) 858993459) + (zand (zushr (a0 - (zand (zushr a0 1) 1431655765)) 2) 858993459)) + (zushr ((zand (a0 - (zand (zushr a0 1) 1431655765)) 858993459) + (zand (zushr (a0 - (zand (zushr a0 1) 1431655765)) 2) 858993459)) 4)) 252645135) + (zushr (zand (((zand (a0 - (zand (zushr a0 1) 1431655765)) 858993459) + (zand (zushr (a0 - (zand (zushr a0 1) 1431655765)) 2) 858993459)) + (zushr ((zand (a0 - (zand (zushr a0 1) 1431655765)) 858993459) + (zand (zushr (a0 - (zand (zushr a0 1) 1431655765)) 2) 858993459)) 4)) 252645135) 8)) 16))]) (S' := [zI (zand (((zand (((zand (a0 - (zand (zushr a0 1) 1431655765)) 858993459) + (zand (zushr (a0 - (zand (zushr a0 1) 1431655765)) 2) 858993459)) + (zushr ((zand (a0 - (zand (zushr a0 1) 1431655765)) 858993459) + (zand (zushr (a0 - (zand (zushr a0 1) 1431655765)) 2) 858993459)) 4)) 252645135) + (zushr (zand (((zand (a0 - (zand (zushr a0 1) 1431655765)) 858993459) + (zand (zushr (a0 - (zand (zushr a0 1) 1431655765)) 2) 858993459)) + (zushr ((zand (a0 - (zand (zushr a0 1) 1431655765)) 858993459) + (zand (zushr (a0 - (zand (zushr a0 1) 1431655765)) 2) 858993459)) 4)) 252645135) 8)) + (zushr ((zand (((zand (a0 - (zand (zushr a0 1) 1431655765)) 858993459) + (zand (zushr (a0 - (zand (zushr a0 1) 1431655765)) 2) 858993459)) + (zushr ((zand (a0 - (zand (zushr a0 1) 1431655765)) 858993459) + (zand (zushr (a0 - (zand (zushr a0 1) 1431655765)) 2) 858993459)) 4)) 252645135) + (zushr (zand (((zand (a0 - (zand (zushr a0 1) 1431655765)) 858993459) + (zand (zushr (a0 - (zand (zushr a0 1) 1431655765)) 2) 858993459)) + (zushr ((zand (a0 - (zand (zushr a0 1) 1431655765)) 858993459) + (zand (zushr (a0 - (zand (zushr a0 1) 1431655765)) 2) 858993459)) 4)) 252645135) 8)) 16)) 63)]) (σ' := σ) (Ps := [-2147483648 ≤ a0 - (zand (zushr a0 1) 1431655765) ∧ a0 - (zand (zushr a0 1) 1431655765) ≤ 2147483647, -2147483648 ≤ (zand (a0 - (zand (zushr a0 1) 1431655765)) 858993459) + (zand (zushr (a0 - (zand (zushr a0 1) 1431655765)) 2) 858993459) ∧ (zand (a0 - (zand (zushr a0 1) 1431655765)) 858993459) + (zand (zushr (a0 - (zand (zushr a0 1) 1431655765)) 2) 858993459) ≤ 2147483647, -2147483648 ≤ ((zand (a0 - (zand (zushr a0 1) 1431655765)) 858993459) + (zand (zushr (a0 - (zand (zushr a0 1) 1431655765)) 2) 858993459)) + (zushr ((zand (a0 - (zand (zushr a0 1) 1431655765)) 858993459) + (zand (zushr (a0 - (zand (zushr a0 1) 1431655765)) 2) 858993459)) 4) ∧ ((zand (a0 - (zand (zushr a0 1) 1431655765)) 858993459) + (zand (zushr (a0 - (zand (zushr a0 1) 1431655765)) 2) 858993459)) + (zushr ((zand (a0 - (zand (zushr a0 1) 1431655765)) 858993459) + (zand (zushr (a0 - (zand (zushr a0 1) 1431655765)) 2) 858993459)) 4) ≤ 2147483647, -2147483648 ≤ (zand (((zand (a0 - (zand (zushr a0 1) 1431655765)) 858993459) + (zand (zushr (a0 - (zand (zushr a0 1) 1431655765)) 2) 858993459)) + (zushr ((zand (a0 - (zand (zushr a0 1) 1431655765)) 858993459) + (zand (zushr (a0 - (zand (zushr a0 1) 1431655765)) 2) 858993459)) 4)) 252645135) + (zushr (zand (((zand (a0 - (zand (zushr a0 1) 1431655765)) 858993459) + (zand (zushr (a0 - (zand (zushr a0 1) 1431655765)) 2) 858993459)) + (zushr ((zand (a0 - (zand (zushr a0 1) 1431655765)) 858993459) + (zand (zushr (a0 - (zand (zushr a0 1) 1431655765)) 2) 858993459)) 4)) 252645135) 8) ∧ (zand (((zand (a0 - (zand (zushr a0 1) 1431655765)) 858993459) + (zand (zushr (a0 - (zand (zushr a0 1) 1431655765)) 2) 858993459)) + (zushr ((zand (a0 - (zand (zushr a0 1) 1431655765)) 858993459) + (zand (zushr (a0 - (zand (zushr a0 1) 1431655765)) 2) 858993459)) 4)) 252645135) + (zushr (zand (((zand (a0 - (zand (zushr a0 1) 1431655765)) 858993459) + (zand (zushr (a0 - (zand (zushr a0 1) 1431655765)) 2) 858993459)) + (zushr ((zand (a0 - (zand (zushr a0 1) 1431655765)) 858993459) + (zand (zushr (a0 - (zand (zushr a0 1) 1431655765)) 2) 858993459)) 4)) 252645135) 8) ≤ 2147483647, -2147483648 ≤ ((zand (((zand (a0 - (zand (zushr a0 1) 1431655765)) 858993459) + (zand (zushr (a0 - (zand (zushr a0 1) 1431655765)) 2) 858993459)) + (zushr ((zand (a0 - (zand (zushr a0 1) 1431655765)) 858993459) + (zand (zushr (a0 - (zand (zushr a0 1) 1431655765)) 2) 858993459)) 4)) 252645135) + (zushr (zand (((zand (a0 - (zand (zushr a0 1) 1431655765)) 858993459) + (zand (zushr (a0 - (zand (zushr a0 1) 1431655765)) 2) 858993459)) + (zushr ((zand (a0 - (zand (zushr a0 1) 1431655765)) 858993459) + (zand (zushr (a0 - (zand (zushr a0 1) 1431655765)) 2) 858993459)) 4)) 252645135) 8)) + (zushr ((zand (((zand (a0 - (zand (zushr a0 1) 1431655765)) 858993459) + (zand (zushr (a0 - (zand (zushr a0 1) 1431655765)) 2) 858993459)) + (zushr ((zand (a0 - (zand (zushr a0 1) 1431655765)) 858993459) + (zand (zushr (a0 - (zand (zushr a0 1) 1431655765)) 2) 858993459)) 4)) 252645135) + (zushr (zand (((zand (a0 - (zand (zushr a0 1) 1431655765)) 858993459) + (zand (zushr (a0 - (zand (zushr a0 1) 1431655765)) 2) 858993459)) + (zushr ((zand (a0 - (zand (zushr a0 1) 1431655765)) 858993459) + (zand (zushr (a0 - (zand (zushr a0 1) 1431655765)) 2) 858993459)) 4)) 252645135) 8)) 16) ∧ ((zand (((zand (a0 - (zand (zushr a0 1) 1431655765)) 858993459) + (zand (zushr (a0 - (zand (zushr a0 1) 1431655765)) 2) 858993459)) + (zushr ((zand (a0 - (zand (zushr a0 1) 1431655765)) 858993459) + (zand (zushr (a0 - (zand (zushr a0 1) 1431655765)) 2) 858993459)) 4)) 252645135) + (zushr (zand (((zand (a0 - (zand (zushr a0 1) 1431655765)) 858993459) + (zand (zushr (a0 - (zand (zushr a0 1) 1431655765)) 2) 858993459)) + (zushr ((zand (a0 - (zand (zushr a0 1) 1431655765)) 858993459) + (zand (zushr (a0 - (zand (zushr a0 1) 1431655765)) 2) 858993459)) 4)) 252645135) 8)) + (zushr ((zand (((zand (a0 - (zand (zushr a0 1) 1431655765)) 858993459) + (zand (zushr (a0 - (zand (zushr a0 1) 1431655765)) 2) 858993459)) + (zushr ((zand (a0 - (zand (zushr a0 1) 1431655765)) 858993459) + (zand (zushr (a0 - (zand (zushr a0 1) 1431655765)) 2) 858993459)) 4)) 252645135) + (zushr (zand (((zand (a0 - (zand (zushr a0 1) 1431655765)) 858993459) + (zand (zushr (a0 - (zand (zushr a0 1) 1431655765)) 2) 858993459)) + (zushr ((zand (a0 - (zand (zushr a0 1) 1431655765)) 858993459) + (zand (zushr (a0 - (zand (zushr a0 1) 1431655765)) 2) 858993459)) 4)) 252645135) 8)) 16) ≤ 2147483647]) (by decide +kernel) rfl ⟨h.1, h.2.1, h.2.2.1, h.2.2.2.1, h.2.2.2.2.1, trivial⟩ ?_
  replace h := h.2.2.2.2.2
  generalize hz1 : ((zand (((zand (a0 - (zand (zushr a0 1) 1431655765)) 858993459) + (zand (zushr (a0 - (zand (zushr a0 1) 1431655765)) 2) 858993459)) + (zushr ((zand (a0 - (zand (zushr a0 1) 1431655765)) 858993459) + (zand (zushr (a0 - (zand (zushr a0 1) 1431655765)) 2) 858993459)) 4)) 252645135) + (zushr (zand (((zand (a0 - (zand (zushr a0 1) 1431655765)) 858993459) + (zand (zushr (a0 - (zand (zushr a0 1) 1431655765)) 2) 858993459)) + (zushr ((zand (a0 - (zand (zushr a0 1) 1431655765)) 858993459) + (zand (zushr (a0 - (zand (zushr a0 1) 1431655765)) 2) 858993459)) 4)) 252645135) 8)) + (zushr ((zand (((zand (a0 - (zand (zushr a0 1) 1431655765)) 858993459) + (zand (zushr (a0 - (zand (zushr a0 1) 1431655765)) 2) 858993459)) + (zushr ((zand (a0 - (zand (zushr a0 1) 1431655765)) 858993459) + (zand (zushr (a0 - (zand (zushr a0 1) 1431655765)) 2) 858993459)) 4)) 252645135) + (zushr (zand (((zand (a0 - (zand (zushr a0 1) 1431655765)) 858993459) + (zand (zushr (a0 - (zand (zushr a0 1) 1431655765)) 2) 858993459)) + (zushr ((zand (a0 - (zand (zushr a0 1) 1431655765)) 858993459) + (zand (zushr (a0 - (zand (zushr a0 1) 1431655765)) 2) 858993459)) 4)) 252645135) 8)) 16) = z1
  replace h := h z1 hz1.symm
  exact r_ret (by decide +kernel) rfl (fun _ => h)
theorem gX9_fewestForCost_0 (a0 : Int) (σ : Hp) {Q : Option Int → Hp → Prop} (h : (-2147483648 ≤ (if 1000000 < a0 then 1000000 else a0) + 1 ∧ (if 1000000 < a0 then 1000000 else a0) + 1 ≤ 2147483647) ∧ (-2147483648 ≤ (zshl 1 (σ 1 0 1)) - 1 ∧ (zshl 1 (σ 1 0 1)) - 1 ≤ 2147483647) ∧ ∀ σ1 : Hp, σ1 = zup σ 16 0 6 (tOpen σ ((zshl 1 (σ 1 0 1)) - 1)) → Runs 5 mX1_totalUpTo 0 [zR 25 0, zI ((if 1000000 < a0 then 1000000 else a0) + 1), zU, zU] [] σ1 (rI (fun z3 σ2 => ((z3 ≤ a0 → Runs 6 mX9_fewestForCost 47 [zR 26 0, zI a0, zI ((if 1000000 < a0 then 1000000 else a0) + 1), zI 0, zI 0] [] σ2 Q) ∧ (¬ z3 ≤ a0 → Q (some (-9)) σ2))))) : Runs 6 mX9_fewestForCost 0 [zR 26 0, zI a0, zU, zU, zU] [] σ Q := by
  refine r_blk [qO (.iload_n 1), qC (.ldc 31) 1000000] (pc' := 3) (L' := [zR 26 0, zI a0, zU, zU, zU]) (S' := [zI 1000000, zI a0]) (σ' := σ) (Ps := []) (by decide +kernel) rfl trivial ?_
  refine r_min lkX9_76 (by decide +kernel) (by decide) (Nat.le_of_ble_eq_true rfl) ?_
  refine r_blk [qO (.iconst 1), qO .iadd, qO (.istore_n 2), qO (.aload_n 0), qF (.getfield 15) 9 1, qO (.iconst 1), qO (.aload_n 0), qF (.getfield 9) 9 0, qF (.getfield 32) 6 1, qO .ishl, qO (.iconst 1), qO .isub] (pc' := 24) (L' := [zR 26 0, zI a0, zI ((if 1000000 < a0 then 1000000 else a0) + 1), zU, zU]) (S' := [zI ((zshl 1 (σ 1 0 1)) - 1), zR 16 0]) (σ' := σ) (Ps := [-2147483648 ≤ (if 1000000 < a0 then 1000000 else a0) + 1 ∧ (if 1000000 < a0 then 1000000 else a0) + 1 ≤ 2147483647, -2147483648 ≤ (zshl 1 (σ 1 0 1)) - 1 ∧ (zshl 1 (σ 1 0 1)) - 1 ≤ 2147483647]) (by decide +kernel) rfl ⟨h.1, h.2.1, trivial⟩ ?_
  replace h := h.2.2
  refine r_callVV (As := [zI ((zshl 1 (σ 1 0 1)) - 1)]) (S := []) (Lc := [zR 16 0, zI ((zshl 1 (σ 1 0 1)) - 1)]) (d' := 0) (n := 1) (g := 16) (x := 0) (ci := 7) kX7_openBothWays vX7_openBothWays lkX9_81 (by decide +kernel) (by decide) rfl rfl (by decide) rfl rfl (Nat.le_of_ble_eq_true rfl) rfl rfl (Nat.le_of_ble_eq_true rfl) (pX7_openBothWays  ?_)
  generalize hσ1 : zup σ 16 0 6 (tOpen σ ((zshl 1 (σ 1 0 1)) - 1)) = σ1
  replace h := h σ1 hσ1.symm
  refine r_blk [qO (.aload_n 0), qF (.getfield 27) 9 4, qO (.iload_n 2)] (pc' := 32) (L' := [zR 26 0, zI a0, zI ((if 1000000 < a0 then 1000000 else a0) + 1), zU, zU]) (S' := [zI ((if 1000000 < a0 then 1000000 else a0) + 1), zR 25 0]) (σ' := σ1) (Ps := []) (by decide +kernel) rfl trivial ?_
  refine r_callVI (As := [zI ((if 1000000 < a0 then 1000000 else a0) + 1)]) (S := []) (Lc := [zR 25 0, zI ((if 1000000 < a0 then 1000000 else a0) + 1), zU, zU]) (d' := 5) (n := 1) (g := 25) (x := 0) (ci := 1) kX1_totalUpTo vX1_totalUpTo lkX9_48 (by decide +kernel) (by decide) rfl rfl (by decide) rfl rfl (Nat.le_of_ble_eq_true rfl) rfl rfl (Nat.le_of_ble_eq_true rfl) (h.monoI (fun z3 σ2 h => ?_))
  refine r_blk [qO (.iload_n 1)] (pc' := 36) (L' := [zR 26 0, zI a0, zI ((if 1000000 < a0 then 1000000 else a0) + 1), zU, zU]) (S' := [zI a0, zI z3]) (σ' := σ2) (Ps := []) (by decide +kernel) rfl trivial ?_
  refine r_icmp_le (off := 6) (tgt := 42) (by decide +kernel) (by decide) (fun c => ?_) (fun c => ?_)
  · replace h := h.1 c
    refine r_blk [qO (.iconst 0), qO (.istore_n 3), qO (.iconst 0), qO (.istore 4)] (pc' := 47) (L' := [zR 26 0, zI a0, zI ((if 1000000 < a0 then 1000000 else a0) + 1), zI 0, zI 0]) (S' := []) (σ' := σ2) (Ps := []) (by decide +kernel) rfl trivial ?_
    exact Runs.fg (fgE (fgE (fgE (fgE (fgE fg0))))) h
  · replace h := h.2 c
    refine r_blk [qO (.bipush (-9))] (pc' := 41) (L' := [zR 26 0, zI a0, zI ((if 1000000 < a0 then 1000000 else a0) + 1), zU, zU]) (S' := [zI (-9)]) (σ' := σ2) (Ps := []) (by decide +kernel) rfl trivial ?_
    exact r_ret (by decide +kernel) rfl (fun _ => h)
theorem gX9_fewestForCost_47 (l1 : Int) (l2 : Int) (l3 : Int) (l4 : Int) (σ : Hp) {Q : Option Int → Hp → Prop} (h : ((zshl 1 (σ 1 0 1) ≤ l4 → Q (some (-9)) σ) ∧ (¬ zshl 1 (σ 1 0 1) ≤ l4 → ∀ σ1 : Hp, σ1 = zup σ 16 0 6 (tOpen σ l3) → Runs 5 mX1_totalUpTo 0 [zR 25 0, zI l2, zU, zU] [] σ1 (rI (fun z3 σ2 => ((l1 < z3 → Runs 1 mX9_nextByFewest 0 [zR 26 0, zI l3, zU, zU, zU] [] σ2 (rI (fun z5 σ4 => (-2147483648 ≤ l4 + 1 ∧ l4 + 1 ≤ 2147483647) ∧ Runs 6 mX9_fewestForCost 47 [zR 26 0, zI l1, zI l2, zI z5, zI (l4 + 1)] [] σ4 Q))) ∧ (¬ l1 < z3 → Q (some l3) σ2))))))) : Runs 6 mX9_fewestForCost 47 [zR 26 0, zI l1, zI l2, zI l3, zI l4] [] σ Q := by
  refine r_blk [qO (.iload 4), qO (.iconst 1), qO (.aload_n 0), qF (.getfield 9) 9 0, qF (.getfield 32) 6 1, qO .ishl] (pc' := 58) (L' := [zR 26 0, zI l1, zI l2, zI l3, zI l4]) (S' := [zI (zshl 1 (σ 1 0 1)), zI l4]) (σ' := σ) (Ps := []) (by decide +kernel) rfl trivial ?_
  refine r_icmp_ge (off := 37) (tgt := 95) (by decide +kernel) (by decide) (fun c => ?_) (fun c => ?_)
  · replace h := h.1 c
    refine r_blk [qO (.bipush (-9))] (pc' := 97) (L' := [zR 26 0, zI l1, zI l2, zI l3, zI l4]) (S' := [zI (-9)]) (σ' := σ) (Ps := []) (by decide +kernel) rfl trivial ?_
    exact r_ret (by decide +kernel) rfl (fun _ => h)
  · replace h := h.2 c
    refine r_blk [qO (.aload_n 0), qF (.getfield 15) 9 1, qO (.iload_n 3)] (pc' := 66) (L' := [zR 26 0, zI l1, zI l2, zI l3, zI l4]) (S' := [zI l3, zR 16 0]) (σ' := σ) (Ps := []) (by decide +kernel) rfl trivial ?_
    refine r_callVV (As := [zI l3]) (S := []) (Lc := [zR 16 0, zI l3]) (d' := 0) (n := 1) (g := 16) (x := 0) (ci := 7) kX7_openBothWays vX7_openBothWays lkX9_81 (by decide +kernel) (by decide) rfl rfl (by decide) rfl rfl (Nat.le_of_ble_eq_true rfl) rfl rfl (Nat.le_of_ble_eq_true rfl) (pX7_openBothWays  ?_)
    generalize hσ1 : zup σ 16 0 6 (tOpen σ l3) = σ1
    replace h := h σ1 hσ1.symm
    refine r_blk [qO (.aload_n 0), qF (.getfield 27) 9 4, qO (.iload_n 2)] (pc' := 74) (L' := [zR 26 0, zI l1, zI l2, zI l3, zI l4]) (S' := [zI l2, zR 25 0]) (σ' := σ1) (Ps := []) (by decide +kernel) rfl trivial ?_
    refine r_callVI (As := [zI l2]) (S := []) (Lc := [zR 25 0, zI l2, zU, zU]) (d' := 5) (n := 1) (g := 25) (x := 0) (ci := 1) kX1_totalUpTo vX1_totalUpTo lkX9_48 (by decide +kernel) (by decide) rfl rfl (by decide) rfl rfl (Nat.le_of_ble_eq_true rfl) rfl rfl (Nat.le_of_ble_eq_true rfl) (h.monoI (fun z3 σ2 h => ?_))
    refine r_blk [qO (.iload_n 1)] (pc' := 78) (L' := [zR 26 0, zI l1, zI l2, zI l3, zI l4]) (S' := [zI l1, zI z3]) (σ' := σ2) (Ps := []) (by decide +kernel) rfl trivial ?_
    refine r_icmp_gt (off := 5) (tgt := 83) (by decide +kernel) (by decide) (fun c => ?_) (fun c => ?_)
    · replace h := h.1 c
      refine r_blk [qO (.aload_n 0), qO (.iload_n 3)] (pc' := 85) (L' := [zR 26 0, zI l1, zI l2, zI l3, zI l4]) (S' := [zI l3, zR 26 0]) (σ' := σ2) (Ps := []) (by decide +kernel) rfl trivial ?_
      refine r_callVI (As := [zI l3]) (S := []) (Lc := [zR 26 0, zI l3, zU, zU, zU]) (d' := 1) (n := 1) (g := 26) (x := 0) (ci := 9) kX9_nextByFewest vX9_nextByFewest lkX9_84 (by decide +kernel) (by decide) rfl rfl (by decide) rfl rfl (Nat.le_of_ble_eq_true rfl) rfl rfl (Nat.le_of_ble_eq_true rfl) (h.monoI (fun z5 σ4 h => ?_))
      refine r_blk [qO (.istore_n 3), qO (.iinc 4 1), qO (.goto (-45))] (pc' := 47) (L' := [zR 26 0, zI l1, zI l2, zI z5, zI (l4 + 1)]) (S' := []) (σ' := σ4) (Ps := [-2147483648 ≤ l4 + 1 ∧ l4 + 1 ≤ 2147483647]) (by decide +kernel) rfl ⟨h.1, trivial⟩ ?_
      replace h := h.2
      exact Runs.fg (fgE (fgE (fgE (fgE (fgE fg0))))) h
    · replace h := h.2 c
      refine r_blk [qO (.iload_n 3)] (pc' := 82) (L' := [zR 26 0, zI l1, zI l2, zI l3, zI l4]) (S' := [zI l3]) (σ' := σ2) (Ps := []) (by decide +kernel) rfl trivial ?_
      exact r_ret (by decide +kernel) rfl (fun _ => h)
theorem gX9_fewestForReach_0 (a0 : Int) (a1 : Int) (a2 : Int) (σ : Hp) {Q : Option Int → Hp → Prop} (h : (-2147483648 ≤ (zshl 1 (σ 1 0 1)) - 1 ∧ (zshl 1 (σ 1 0 1)) - 1 ≤ 2147483647) ∧ ∀ σ1 : Hp, σ1 = zup σ 16 0 6 (tOpen σ ((zshl 1 (σ 1 0 1)) - 1)) → Runs 3 mX8_setOut 0 [zR 17 0, zI a0, zI (-1), zI a1, zU, zU] [] σ1 (rV (fun σ2 => (-2147483648 ≤ a1 + a2 ∧ a1 + a2 ≤ 2147483647) ∧ Runs 1 mX9_allReachedBy 0 [zR 26 0, zI (a1 + a2), zU, zU] [] σ2 (rI (fun z4 σ3 => ((¬ z4 = 0 → Runs 4 mX9_fewestForReach 47 [zR 26 0, zI a0, zI a1, zI a2, zI 0, zI 0] [] σ3 Q) ∧ (z4 = 0 → Q (some (-9)) σ3))))))) : Runs 4 mX9_fewestForReach 0 [zR 26 0, zI a0, zI a1, zI a2, zU, zU] [] σ Q := by
  refine r_blk [qO (.aload_n 0), qF (.getfield 15) 9 1, qO (.iconst 1), qO (.aload_n 0), qF (.getfield 9) 9 0, qF (.getfield 32) 6 1, qO .ishl, qO (.iconst 1), qO .isub] (pc' := 15) (L' := [zR 26 0, zI a0, zI a1, zI a2, zU, zU]) (S' := [zI ((zshl 1 (σ 1 0 1)) - 1), zR 16 0]) (σ' := σ) (Ps := [-2147483648 ≤ (zshl 1 (σ 1 0 1)) - 1 ∧ (zshl 1 (σ 1 0 1)) - 1 ≤ 2147483647]) (by decide +kernel) rfl ⟨h.1, trivial⟩ ?_
  replace h := h.2
  refine r_callVV (As := [zI ((zshl 1 (σ 1 0 1)) - 1)]) (S := []) (Lc := [zR 16 0, zI ((zshl 1 (σ 1 0 1)) - 1)]) (d' := 0) (n := 1) (g := 16) (x := 0) (ci := 7) kX7_openBothWays vX7_openBothWays lkX9_81 (by decide +kernel) (by decide) rfl rfl (by decide) rfl rfl (Nat.le_of_ble_eq_true rfl) rfl rfl (Nat.le_of_ble_eq_true rfl) (pX7_openBothWays  ?_)
  generalize hσ1 : zup σ 16 0 6 (tOpen σ ((zshl 1 (σ 1 0 1)) - 1)) = σ1
  replace h := h σ1 hσ1.symm
  refine r_blk [qO (.aload_n 0), qF (.getfield 19) 9 2, qO (.iload_n 1), qO (.iconst (-1)), qO (.iload_n 2)] (pc' := 25) (L' := [zR 26 0, zI a0, zI a1, zI a2, zU, zU]) (S' := [zI a1, zI (-1), zI a0, zR 17 0]) (σ' := σ1) (Ps := []) (by decide +kernel) rfl trivial ?_
  refine r_callVV (As := [zI a0, zI (-1), zI a1]) (S := []) (Lc := [zR 17 0, zI a0, zI (-1), zI a1, zU, zU]) (d' := 3) (n := 3) (g := 17) (x := 0) (ci := 8) kX8_setOut vX8_setOut lkX9_87 (by decide +kernel) (by decide) rfl rfl (by decide) rfl rfl (Nat.le_of_ble_eq_true rfl) rfl rfl (Nat.le_of_ble_eq_true rfl) (h.monoV (fun σ2 h => ?_))
  refine r_blk [qO (.aload_n 0), qO (.iload_n 2), qO (.iload_n 3), qO .iadd] (pc' := 32) (L' := [zR 26 0, zI a0, zI a1, zI a2, zU, zU]) (S' := [zI (a1 + a2), zR 26 0]) (σ' := σ2) (Ps := [-2147483648 ≤ a1 + a2 ∧ a1 + a2 ≤ 2147483647]) (by decide +kernel) rfl ⟨h.1, trivial⟩ ?_
  replace h := h.2
  refine r_callVI (As := [zI (a1 + a2)]) (S := []) (Lc := [zR 26 0, zI (a1 + a2), zU, zU]) (d' := 1) (n := 1) (g := 26) (x := 0) (ci := 9) kX9_allReachedBy vX9_allReachedBy lkX9_93 (by decide +kernel) (by decide) rfl rfl (by decide) rfl rfl (Nat.le_of_ble_eq_true rfl) rfl rfl (Nat.le_of_ble_eq_true rfl) (h.monoI (fun z4 σ3 h => ?_))
  refine r_if_ne (off := 6) (tgt := 41) (by decide +kernel) (by decide) (fun c => ?_) (fun c => ?_)
  · replace h := h.1 c
    refine r_blk [qO (.iconst 0), qO (.istore 4), qO (.iconst 0), qO (.istore 5)] (pc' := 47) (L' := [zR 26 0, zI a0, zI a1, zI a2, zI 0, zI 0]) (S' := []) (σ' := σ3) (Ps := []) (by decide +kernel) rfl trivial ?_
    exact Runs.fg (fgE (fgE (fgE (fgE (fgE (fgE fg0)))))) h
  · replace h := h.2 c
    refine r_blk [qO (.bipush (-9))] (pc' := 40) (L' := [zR 26 0, zI a0, zI a1, zI a2, zU, zU]) (S' := [zI (-9)]) (σ' := σ3) (Ps := []) (by decide +kernel) rfl trivial ?_
    exact r_ret (by decide +kernel) rfl (fun _ => h)
theorem gX9_fewestForReach_47 (l1 : Int) (l2 : Int) (l3 : Int) (l4 : Int) (l5 : Int) (σ : Hp) {Q : Option Int → Hp → Prop} (h : ((zshl 1 (σ 1 0 1) ≤ l5 → Q (some (-9)) σ) ∧ (¬ zshl 1 (σ 1 0 1) ≤ l5 → ∀ σ1 : Hp, σ1 = zup σ 16 0 6 (tOpen σ l4) → Runs 3 mX8_setOut 0 [zR 17 0, zI l1, zI (-1), zI l2, zU, zU] [] σ1 (rV (fun σ2 => (-2147483648 ≤ l2 + l3 ∧ l2 + l3 ≤ 2147483647) ∧ Runs 1 mX9_allReachedBy 0 [zR 26 0, zI (l2 + l3), zU, zU] [] σ2 (rI (fun z4 σ3 => ((z4 = 0 → Runs 1 mX9_nextByFewest 0 [zR 26 0, zI l4, zU, zU, zU] [] σ3 (rI (fun z6 σ5 => (-2147483648 ≤ l5 + 1 ∧ l5 + 1 ≤ 2147483647) ∧ Runs 4 mX9_fewestForReach 47 [zR 26 0, zI l1, zI l2, zI l3, zI z6, zI (l5 + 1)] [] σ5 Q))) ∧ (¬ z4 = 0 → Q (some l4) σ3))))))))) : Runs 4 mX9_fewestForReach 47 [zR 26 0, zI l1, zI l2, zI l3, zI l4, zI l5] [] σ Q := by
  refine r_blk [qO (.iload 5), qO (.iconst 1), qO (.aload_n 0), qF (.getfield 9) 9 0, qF (.getfield 32) 6 1, qO .ishl] (pc' := 58) (L' := [zR 26 0, zI l1, zI l2, zI l3, zI l4, zI l5]) (S' := [zI (zshl 1 (σ 1 0 1)), zI l5]) (σ' := σ) (Ps := []) (by decide +kernel) rfl trivial ?_
  refine r_icmp_ge (off := 49) (tgt := 107) (by decide +kernel) (by decide) (fun c => ?_) (fun c => ?_)
  · replace h := h.1 c
    refine r_blk [qO (.bipush (-9))] (pc' := 109) (L' := [zR 26 0, zI l1, zI l2, zI l3, zI l4, zI l5]) (S' := [zI (-9)]) (σ' := σ) (Ps := []) (by decide +kernel) rfl trivial ?_
    exact r_ret (by decide +kernel) rfl (fun _ => h)
  · replace h := h.2 c
    refine r_blk [qO (.aload_n 0), qF (.getfield 15) 9 1, qO (.iload 4)] (pc' := 67) (L' := [zR 26 0, zI l1, zI l2, zI l3, zI l4, zI l5]) (S' := [zI l4, zR 16 0]) (σ' := σ) (Ps := []) (by decide +kernel) rfl trivial ?_
    refine r_callVV (As := [zI l4]) (S := []) (Lc := [zR 16 0, zI l4]) (d' := 0) (n := 1) (g := 16) (x := 0) (ci := 7) kX7_openBothWays vX7_openBothWays lkX9_81 (by decide +kernel) (by decide) rfl rfl (by decide) rfl rfl (Nat.le_of_ble_eq_true rfl) rfl rfl (Nat.le_of_ble_eq_true rfl) (pX7_openBothWays  ?_)
    generalize hσ1 : zup σ 16 0 6 (tOpen σ l4) = σ1
    replace h := h σ1 hσ1.symm
    refine r_blk [qO (.aload_n 0), qF (.getfield 19) 9 2, qO (.iload_n 1), qO (.iconst (-1)), qO (.iload_n 2)] (pc' := 77) (L' := [zR 26 0, zI l1, zI l2, zI l3, zI l4, zI l5]) (S' := [zI l2, zI (-1), zI l1, zR 17 0]) (σ' := σ1) (Ps := []) (by decide +kernel) rfl trivial ?_
    refine r_callVV (As := [zI l1, zI (-1), zI l2]) (S := []) (Lc := [zR 17 0, zI l1, zI (-1), zI l2, zU, zU]) (d' := 3) (n := 3) (g := 17) (x := 0) (ci := 8) kX8_setOut vX8_setOut lkX9_87 (by decide +kernel) (by decide) rfl rfl (by decide) rfl rfl (Nat.le_of_ble_eq_true rfl) rfl rfl (Nat.le_of_ble_eq_true rfl) (h.monoV (fun σ2 h => ?_))
    refine r_blk [qO (.aload_n 0), qO (.iload_n 2), qO (.iload_n 3), qO .iadd] (pc' := 84) (L' := [zR 26 0, zI l1, zI l2, zI l3, zI l4, zI l5]) (S' := [zI (l2 + l3), zR 26 0]) (σ' := σ2) (Ps := [-2147483648 ≤ l2 + l3 ∧ l2 + l3 ≤ 2147483647]) (by decide +kernel) rfl ⟨h.1, trivial⟩ ?_
    replace h := h.2
    refine r_callVI (As := [zI (l2 + l3)]) (S := []) (Lc := [zR 26 0, zI (l2 + l3), zU, zU]) (d' := 1) (n := 1) (g := 26) (x := 0) (ci := 9) kX9_allReachedBy vX9_allReachedBy lkX9_93 (by decide +kernel) (by decide) rfl rfl (by decide) rfl rfl (Nat.le_of_ble_eq_true rfl) rfl rfl (Nat.le_of_ble_eq_true rfl) (h.monoI (fun z4 σ3 h => ?_))
    refine r_if_eq (off := 6) (tgt := 93) (by decide +kernel) (by decide) (fun c => ?_) (fun c => ?_)
    · replace h := h.1 c
      refine r_blk [qO (.aload_n 0), qO (.iload 4)] (pc' := 96) (L' := [zR 26 0, zI l1, zI l2, zI l3, zI l4, zI l5]) (S' := [zI l4, zR 26 0]) (σ' := σ3) (Ps := []) (by decide +kernel) rfl trivial ?_
      refine r_callVI (As := [zI l4]) (S := []) (Lc := [zR 26 0, zI l4, zU, zU, zU]) (d' := 1) (n := 1) (g := 26) (x := 0) (ci := 9) kX9_nextByFewest vX9_nextByFewest lkX9_84 (by decide +kernel) (by decide) rfl rfl (by decide) rfl rfl (Nat.le_of_ble_eq_true rfl) rfl rfl (Nat.le_of_ble_eq_true rfl) (h.monoI (fun z6 σ5 h => ?_))
      refine r_blk [qO (.istore 4), qO (.iinc 5 1), qO (.goto (-57))] (pc' := 47) (L' := [zR 26 0, zI l1, zI l2, zI l3, zI z6, zI (l5 + 1)]) (S' := []) (σ' := σ5) (Ps := [-2147483648 ≤ l5 + 1 ∧ l5 + 1 ≤ 2147483647]) (by decide +kernel) rfl ⟨h.1, trivial⟩ ?_
      replace h := h.2
      exact Runs.fg (fgE (fgE (fgE (fgE (fgE (fgE fg0)))))) h
    · replace h := h.2 c
      refine r_blk [qO (.iload 4)] (pc' := 92) (L' := [zR 26 0, zI l1, zI l2, zI l3, zI l4, zI l5]) (S' := [zI l4]) (σ' := σ3) (Ps := []) (by decide +kernel) rfl trivial ?_
      exact r_ret (by decide +kernel) rfl (fun _ => h)
theorem gX9_allReachedBy_0 (a0 : Int) (σ : Hp) {Q : Option Int → Hp → Prop} (h : Runs 1 mX9_allReachedBy 2 [zR 26 0, zI a0, zI 0, zU] [] σ Q) : Runs 1 mX9_allReachedBy 0 [zR 26 0, zI a0, zU, zU] [] σ Q := by
  refine r_blk [qO (.iconst 0), qO (.istore_n 2)] (pc' := 2) (L' := [zR 26 0, zI a0, zI 0, zU]) (S' := []) (σ' := σ) (Ps := []) (by decide +kernel) rfl trivial ?_
  exact Runs.fg (fgE (fgE (fgE (fgU fg0)))) h
theorem gX9_allReachedBy_2 (l1 : Int) (l2 : Int) (σ : Hp) {Q : Option Int → Hp → Prop} (h : ((σ 1 0 0 ≤ l2 → Q (some 1) σ) ∧ (¬ σ 1 0 0 ≤ l2 → (0 ≤ l2 ∧ l2 < 10) ∧ ((zmin σ l2 = (-9) → Q (some 0) σ) ∧ (¬ zmin σ l2 = (-9) → ((zmin σ l2 ≤ l1 → (-2147483648 ≤ l2 + 1 ∧ l2 + 1 ≤ 2147483647) ∧ Runs 1 mX9_allReachedBy 2 [zR 26 0, zI l1, zI (l2 + 1), zU] [] σ Q) ∧ (¬ zmin σ l2 ≤ l1 → Q (some 0) σ))))))) : Runs 1 mX9_allReachedBy 2 [zR 26 0, zI l1, zI l2, zU] [] σ Q := by
  refine r_blk [qO (.iload_n 2), qO (.aload_n 0), qF (.getfield 9) 9 0, qF (.getfield 97) 6 0] (pc' := 10) (L' := [zR 26 0, zI l1, zI l2, zU]) (S' := [zI (σ 1 0 0), zI l2]) (σ' := σ) (Ps := []) (by decide +kernel) rfl trivial ?_
  refine r_icmp_ge (off := 31) (tgt := 41) (by decide +kernel) (by decide) (fun c => ?_) (fun c => ?_)
  · replace h := h.1 c
    refine r_blk [qO (.iconst 1)] (pc' := 42) (L' := [zR 26 0, zI l1, zI l2, zU]) (S' := [zI 1]) (σ' := σ) (Ps := []) (by decide +kernel) rfl trivial ?_
    exact r_retz (by decide +kernel) rfl (by decide) h
  · replace h := h.2 c
    refine r_blk [qO (.aload_n 0), qF (.getfield 19) 9 2, qO (.iload_n 2)] (pc' := 18) (L' := [zR 26 0, zI l1, zI l2, zU]) (S' := [zI l2, zR 17 0]) (σ' := σ) (Ps := []) (by decide +kernel) rfl trivial ?_
    refine r_callVI (As := [zI l2]) (S := []) (Lc := [zR 17 0, zI l2]) (d' := 0) (n := 1) (g := 17) (x := 0) (ci := 8) kX8_minuteAt vX8_minuteAt lkX9_100 (by decide +kernel) (by decide) rfl rfl (by decide) rfl rfl (Nat.le_of_ble_eq_true rfl) rfl rfl (Nat.le_of_ble_eq_true rfl) (pX8_minuteAt h.1 ?_)
    replace h := h.2
    refine r_blk [qO (.istore_n 3), qO (.iload_n 3), qO (.bipush (-9))] (pc' := 25) (L' := [zR 26 0, zI l1, zI l2, zI (zmin σ l2)]) (S' := [zI (-9), zI (zmin σ l2)]) (σ' := σ) (Ps := []) (by decide +kernel) rfl trivial ?_
    refine r_icmp_eq (off := 8) (tgt := 33) (by decide +kernel) (by decide) (fun c => ?_) (fun c => ?_)
    · replace h := h.1 c
      refine r_blk [qO (.iconst 0)] (pc' := 34) (L' := [zR 26 0, zI l1, zI l2, zI (zmin σ l2)]) (S' := [zI 0]) (σ' := σ) (Ps := []) (by decide +kernel) rfl trivial ?_
      exact r_retz (by decide +kernel) rfl (by decide) h
    · replace h := h.2 c
      refine r_blk [qO (.iload_n 3), qO (.iload_n 1)] (pc' := 30) (L' := [zR 26 0, zI l1, zI l2, zI (zmin σ l2)]) (S' := [zI l1, zI (zmin σ l2)]) (σ' := σ) (Ps := []) (by decide +kernel) rfl trivial ?_
      refine r_icmp_le (off := 5) (tgt := 35) (by decide +kernel) (by decide) (fun c => ?_) (fun c => ?_)
      · replace h := h.1 c
        refine r_blk [qO (.iinc 2 1), qO (.goto (-36))] (pc' := 2) (L' := [zR 26 0, zI l1, zI (l2 + 1), zI (zmin σ l2)]) (S' := []) (σ' := σ) (Ps := [-2147483648 ≤ l2 + 1 ∧ l2 + 1 ≤ 2147483647]) (by decide +kernel) rfl ⟨h.1, trivial⟩ ?_
        replace h := h.2
        exact Runs.fg (fgE (fgE (fgE (fgU fg0)))) h
      · replace h := h.2 c
        refine r_blk [qO (.iconst 0)] (pc' := 34) (L' := [zR 26 0, zI l1, zI l2, zI (zmin σ l2)]) (S' := [zI 0]) (σ' := σ) (Ps := []) (by decide +kernel) rfl trivial ?_
        exact r_retz (by decide +kernel) rfl (by decide) h
theorem gX9_nextByFewest_0 (a0 : Int) (σ : Hp) {Q : Option Int → Hp → Prop} (h : (-2147483648 ≤ -a0 ∧ -a0 ≤ 2147483647) ∧ ((zand a0 (-a0) = 0 → Runs 0 mJ6_bitCount_0f7a4 0 [zI a0] [] σ (rI (fun z2 σ1 => (-2147483648 ≤ (zshl 2 z2) - 1 ∧ (zshl 2 z2) - 1 ≤ 2147483647) ∧ Q (some ((zshl 2 z2) - 1)) σ1))) ∧ (¬ zand a0 (-a0) = 0 → (-2147483648 ≤ a0 + (zand a0 (-a0)) ∧ a0 + (zand a0 (-a0)) ≤ 2147483647) ∧ (zand a0 (-a0) ≠ 0) ∧ ∀ z3 : Int, z3 = zor (a0 + (zand a0 (-a0))) (zdiv (zushr (zxor a0 (a0 + (zand a0 (-a0)))) 2) (zand a0 (-a0))) → ((zshl 1 (σ 1 0 1) ≤ z3 → Runs 0 mJ6_bitCount_0f7a4 0 [zI a0] [] σ (rI (fun z5 σ4 => (-2147483648 ≤ (zshl 2 z5) - 1 ∧ (zshl 2 z5) - 1 ≤ 2147483647) ∧ Q (some ((zshl 2 z5) - 1)) σ4))) ∧ (¬ zshl 1 (σ 1 0 1) ≤ z3 → Q (some z3) σ))))) : Runs 1 mX9_nextByFewest 0 [zR 26 0, zI a0, zU, zU, zU] [] σ Q := by
  refine r_blk [qO (.iload_n 1), qO (.iload_n 1), qO .ineg, qO .iand, qO (.istore_n 2), qO (.iload_n 2)] (pc' := 6) (L' := [zR 26 0, zI a0, zI (zand a0 (-a0)), zU, zU]) (S' := [zI (zand a0 (-a0))]) (σ' := σ) (Ps := [-2147483648 ≤ -a0 ∧ -a0 ≤ 2147483647]) (by decide +kernel) rfl ⟨h.1, trivial⟩ ?_
  replace h := h.2
  refine r_if_eq (off := 35) (tgt := 41) (by decide +kernel) (by decide) (fun c => ?_) (fun c => ?_)
  · replace h := h.1 c
    refine r_blk [qO (.iconst 2), qO (.iload_n 1)] (pc' := 43) (L' := [zR 26 0, zI a0, zI (zand a0 (-a0)), zU, zU]) (S' := [zI a0, zI 2]) (σ' := σ) (Ps := []) (by decide +kernel) rfl trivial ?_
    refine r_callSI (As := [zI a0]) (S := [zI 2]) (Lc := [zI a0]) (d' := 0) (n := 1) kJ6_bitCount_0f7a4 vJ6_bitCount_0f7a4 lkX9_103 (by decide +kernel) (by decide) rfl rfl (Nat.le_of_ble_eq_true rfl) rfl rfl (Nat.le_of_ble_eq_true rfl) (h.monoI (fun z2 σ1 h => ?_))
    refine r_blk [qO .ishl, qO (.iconst 1), qO .isub] (pc' := 49) (L' := [zR 26 0, zI a0, zI (zand a0 (-a0)), zU, zU]) (S' := [zI ((zshl 2 z2) - 1)]) (σ' := σ1) (Ps := [-2147483648 ≤ (zshl 2 z2) - 1 ∧ (zshl 2 z2) - 1 ≤ 2147483647]) (by decide +kernel) rfl ⟨h.1, trivial⟩ ?_
    replace h := h.2
    exact r_ret (by decide +kernel) rfl (fun _ => h)
  · replace h := h.2 c
    refine r_blk [qO (.iload_n 1), qO (.iload_n 2), qO .iadd, qO (.istore_n 3), qO (.iload_n 3), qO (.iload_n 1), qO (.iload_n 3), qO .ixor, qO (.iconst 2), qO .iushr, qO (.iload_n 2), qO .idiv, qO .ior, qO (.istore 4), qO (.iload 4), qO (.iconst 1), qO (.aload_n 0), qF (.getfield 9) 9 0, qF (.getfield 32) 6 1, qO .ishl] (pc' := 35) (L' := [zR 26 0, zI a0, zI (zand a0 (-a0)), zI (a0 + (zand a0 (-a0))), zI (zor (a0 + (zand a0 (-a0))) (zdiv (zushr (zxor a0 (a0 + (zand a0 (-a0)))) 2) (zand a0 (-a0))))]) (S' := [zI (zshl 1 (σ 1 0 1)), zI (zor (a0 + (zand a0 (-a0))) (zdiv (zushr (zxor a0 (a0 + (zand a0 (-a0)))) 2) (zand a0 (-a0))))]) (σ' := σ) (Ps := [-2147483648 ≤ a0 + (zand a0 (-a0)) ∧ a0 + (zand a0 (-a0)) ≤ 2147483647, zand a0 (-a0) ≠ 0]) (by decide +kernel) rfl ⟨h.1, h.2.1, trivial⟩ ?_
    replace h := h.2.2
    generalize hz3 : zor (a0 + (zand a0 (-a0))) (zdiv (zushr (zxor a0 (a0 + (zand a0 (-a0)))) 2) (zand a0 (-a0))) = z3
    replace h := h z3 hz3.symm
    refine r_icmp_ge (off := 6) (tgt := 41) (by decide +kernel) (by decide) (fun c => ?_) (fun c => ?_)
    · replace h := h.1 c
      refine r_blk [qO (.iconst 2), qO (.iload_n 1)] (pc' := 43) (L' := [zR 26 0, zI a0, zI (zand a0 (-a0)), zI (a0 + (zand a0 (-a0))), zI z3]) (S' := [zI a0, zI 2]) (σ' := σ) (Ps := []) (by decide +kernel) rfl trivial ?_
      refine r_callSI (As := [zI a0]) (S := [zI 2]) (Lc := [zI a0]) (d' := 0) (n := 1) kJ6_bitCount_0f7a4 vJ6_bitCount_0f7a4 lkX9_103 (by decide +kernel) (by decide) rfl rfl (Nat.le_of_ble_eq_true rfl) rfl rfl (Nat.le_of_ble_eq_true rfl) (h.monoI (fun z5 σ4 h => ?_))
      refine r_blk [qO .ishl, qO (.iconst 1), qO .isub] (pc' := 49) (L' := [zR 26 0, zI a0, zI (zand a0 (-a0)), zI (a0 + (zand a0 (-a0))), zI z3]) (S' := [zI ((zshl 2 z5) - 1)]) (σ' := σ4) (Ps := [-2147483648 ≤ (zshl 2 z5) - 1 ∧ (zshl 2 z5) - 1 ≤ 2147483647]) (by decide +kernel) rfl ⟨h.1, trivial⟩ ?_
      replace h := h.2
      exact r_ret (by decide +kernel) rfl (fun _ => h)
    · replace h := h.2 c
      refine r_blk [qO (.iload 4)] (pc' := 40) (L' := [zR 26 0, zI a0, zI (zand a0 (-a0)), zI (a0 + (zand a0 (-a0))), zI z3]) (S' := [zI z3]) (σ' := σ) (Ps := []) (by decide +kernel) rfl trivial ?_
      exact r_ret (by decide +kernel) rfl (fun _ => h)
