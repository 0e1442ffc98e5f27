theorem gX10_feed_0 (a0 : Int) (a1 : Int64) (σ : Hp) {Q : Option Int → Hp → Prop} (h : ((1 ≤ a0 → ((8 < a0 → (-6 ≤ (-6) ∧ (-6) ≤ -1) ∧ (σ 33 0 (-(-6)).toNat ≤ 2147483646) ∧ ∀ σ1 : Hp, σ1 = zup σ 33 0 (-(-6)).toNat (σ 33 0 (-(-6)).toNat + 1) → Q (some (-6)) σ1) ∧ (¬ 8 < a0 → (-2147483648 ≤ (σ 12 0 1) + a0 ∧ (σ 12 0 1) + a0 ≤ 2147483647) ∧ (((σ 12 0 1) + a0 ≤ 64 → Runs 1 mX10_feed 42 [zR 0 0, zI a0, zJ a1, zU, zI 0] [] σ Q) ∧ (¬ (σ 12 0 1) + a0 ≤ 64 → (-6 ≤ (-6) ∧ (-6) ≤ -1) ∧ (σ 33 0 (-(-6)).toNat ≤ 2147483646) ∧ ∀ σ2 : Hp, σ2 = zup σ 33 0 (-(-6)).toNat (σ 33 0 (-(-6)).toNat + 1) → Q (some (-6)) σ2))))) ∧ (¬ 1 ≤ a0 → (-6 ≤ (-4) ∧ (-4) ≤ -1) ∧ (σ 33 0 (-(-4)).toNat ≤ 2147483646) ∧ ∀ σ3 : Hp, σ3 = zup σ 33 0 (-(-4)).toNat (σ 33 0 (-(-4)).toNat + 1) → Q (some (-4)) σ3))) : Runs 1 mX10_feed 0 [zR 0 0, zI a0, zJ a1, zU, zU] [] σ Q := by
  refine r_blk [qO (.iload_n 1), qO (.iconst 1)] (pc' := 2) (L' := [zR 0 0, zI a0, zJ a1, zU, zU]) (S' := [zI 1, zI a0]) (σ' := σ) (Ps := []) (by decide +kernel) rfl trivial ?_
  refine r_icmp_ge (off := 10) (tgt := 12) (by decide +kernel) (by decide) (fun c => ?_) (fun c => ?_)
  · replace h := h.1 c
    refine r_blk [qO (.iload_n 1), qO (.bipush 8)] (pc' := 15) (L' := [zR 0 0, zI a0, zJ a1, zU, zU]) (S' := [zI 8, zI a0]) (σ' := σ) (Ps := []) (by decide +kernel) rfl trivial ?_
    refine r_icmp_gt (off := 17) (tgt := 32) (by decide +kernel) (by decide) (fun c => ?_) (fun c => ?_)
    · replace h := h.1 c
      refine r_blk [qO (.aload_n 0), qO (.bipush (-6))] (pc' := 35) (L' := [zR 0 0, zI a0, zJ a1, zU, zU]) (S' := [zI (-6), zR 0 0]) (σ' := σ) (Ps := []) (by decide +kernel) rfl trivial ?_
      refine r_callVI (As := [zI (-6)]) (S := []) (Lc := [zR 0 0, zI (-6)]) (d' := 0) (n := 1) (g := 0) (x := 0) (ci := 10) kX10_refuse vX10_refuse lkX10_98 (by decide +kernel) (by decide) rfl rfl (by decide) rfl rfl (Nat.le_of_ble_eq_true rfl) rfl rfl (Nat.le_of_ble_eq_true rfl) (pX10_refuse h.1 h.2.1 ?_)
      replace h := h.2.2
      generalize hσ1 : zup σ 33 0 (-(-6)).toNat (σ 33 0 (-(-6)).toNat + 1) = σ1
      replace h := h σ1 hσ1.symm
      exact r_ret (by decide +kernel) rfl (fun _ => h)
    · replace h := h.2 c
      refine r_blk [qO (.aload_n 0), qF (.getfield 22) 10 2, qF (.getfield 102) 5 1, qO (.iload_n 1), qO .iadd, qO (.bipush 64)] (pc' := 29) (L' := [zR 0 0, zI a0, zJ a1, zU, zU]) (S' := [zI 64, zI ((σ 12 0 1) + a0)]) (σ' := σ) (Ps := [-2147483648 ≤ (σ 12 0 1) + a0 ∧ (σ 12 0 1) + a0 ≤ 2147483647]) (by decide +kernel) rfl ⟨h.1, trivial⟩ ?_
      replace h := h.2
      refine r_icmp_le (off := 10) (tgt := 39) (by decide +kernel) (by decide) (fun c => ?_) (fun c => ?_)
      · replace h := h.1 c
        refine r_blk [qO (.iconst 0), qO (.istore 4)] (pc' := 42) (L' := [zR 0 0, zI a0, zJ a1, zU, zI 0]) (S' := []) (σ' := σ) (Ps := []) (by decide +kernel) rfl trivial ?_
        exact Runs.fg (fgE (fgE (fgE (fgU (fgE fg0))))) h
      · replace h := h.2 c
        refine r_blk [qO (.aload_n 0), qO (.bipush (-6))] (pc' := 35) (L' := [zR 0 0, zI a0, zJ a1, zU, zU]) (S' := [zI (-6), zR 0 0]) (σ' := σ) (Ps := []) (by decide +kernel) rfl trivial ?_
        refine r_callVI (As := [zI (-6)]) (S := []) (Lc := [zR 0 0, zI (-6)]) (d' := 0) (n := 1) (g := 0) (x := 0) (ci := 10) kX10_refuse vX10_refuse lkX10_98 (by decide +kernel) (by decide) rfl rfl (by decide) rfl rfl (Nat.le_of_ble_eq_true rfl) rfl rfl (Nat.le_of_ble_eq_true rfl) (pX10_refuse h.1 h.2.1 ?_)
        replace h := h.2.2
        generalize hσ2 : zup σ 33 0 (-(-6)).toNat (σ 33 0 (-(-6)).toNat + 1) = σ2
        replace h := h σ2 hσ2.symm
        exact r_ret (by decide +kernel) rfl (fun _ => h)
  · replace h := h.2 c
    refine r_blk [qO (.aload_n 0), qO (.bipush (-4))] (pc' := 8) (L' := [zR 0 0, zI a0, zJ a1, zU, zU]) (S' := [zI (-4), zR 0 0]) (σ' := σ) (Ps := []) (by decide +kernel) rfl trivial ?_
    refine r_callVI (As := [zI (-4)]) (S := []) (Lc := [zR 0 0, zI (-4)]) (d' := 0) (n := 1) (g := 0) (x := 0) (ci := 10) kX10_refuse vX10_refuse lkX10_98 (by decide +kernel) (by decide) rfl rfl (by decide) rfl rfl (Nat.le_of_ble_eq_true rfl) rfl rfl (Nat.le_of_ble_eq_true rfl) (pX10_refuse h.1 h.2.1 ?_)
    replace h := h.2.2
    generalize hσ3 : zup σ 33 0 (-(-4)).toNat (σ 33 0 (-(-4)).toNat + 1) = σ3
    replace h := h σ3 hσ3.symm
    exact r_ret (by decide +kernel) rfl (fun _ => h)
theorem gX10_feed_42 (l1 : Int) (l4 : Int) (l2 : Int64) (σ : Hp) {Q : Option Int → Hp → Prop} (h : ((l1 ≤ l4 → Q (some (σ 12 0 1)) σ) ∧ (¬ l1 ≤ l4 → (-2147483648 ≤ 8 * l4 ∧ 8 * l4 ≤ 2147483647) ∧ (0 ≤ σ 12 0 1 ∧ σ 12 0 1 < 64) ∧ ∀ σ1 : Hp, σ1 = zup (zup σ 13 0 (σ 12 0 1).toNat (zand (zl2i (zlushr l2 (8 * l4))) 255)) 12 0 1 (σ 12 0 1 + 1) → (-2147483648 ≤ l4 + 1 ∧ l4 + 1 ≤ 2147483647) ∧ Runs 1 mX10_feed 42 [zR 0 0, zI l1, zJ l2, zU, zI (l4 + 1)] [] σ1 Q))) : Runs 1 mX10_feed 42 [zR 0 0, zI l1, zJ l2, zU, zI l4] [] σ Q := by
  refine r_blk [qO (.iload 4), qO (.iload_n 1)] (pc' := 45) (L' := [zR 0 0, zI l1, zJ l2, zU, zI l4]) (S' := [zI l1, zI l4]) (σ' := σ) (Ps := []) (by decide +kernel) rfl trivial ?_
  refine r_icmp_ge (off := 28) (tgt := 73) (by decide +kernel) (by decide) (fun c => ?_) (fun c => ?_)
  · replace h := h.1 c
    refine r_blk [qO (.aload_n 0), qF (.getfield 22) 10 2, qF (.getfield 102) 5 1] (pc' := 80) (L' := [zR 0 0, zI l1, zJ l2, zU, zI l4]) (S' := [zI (σ 12 0 1)]) (σ' := σ) (Ps := []) (by decide +kernel) rfl trivial ?_
    exact r_ret (by decide +kernel) rfl (fun _ => h)
  · replace h := h.2 c
    refine r_blk [qO (.aload_n 0), qF (.getfield 22) 10 2, qO (.lload_n 2), qO (.bipush 8), qO (.iload 4), qO .imul, qO .lushr, qO .l2i, qO (.sipush 255), qO .iand] (pc' := 64) (L' := [zR 0 0, zI l1, zJ l2, zU, zI l4]) (S' := [zI (zand (zl2i (zlushr l2 (8 * l4))) 255), zR 12 0]) (σ' := σ) (Ps := [-2147483648 ≤ 8 * l4 ∧ 8 * l4 ≤ 2147483647]) (by decide +kernel) rfl ⟨h.1, trivial⟩ ?_
    replace h := h.2
    refine r_callVV (As := [zI (zand (zl2i (zlushr l2 (8 * l4))) 255)]) (S := []) (Lc := [zR 12 0, zI (zand (zl2i (zlushr l2 (8 * l4))) 255)]) (d' := 0) (n := 1) (g := 12) (x := 0) (ci := 5) kX5_add vX5_add lkX10_106 (by decide +kernel) (by decide) rfl rfl (by decide) rfl rfl (Nat.le_of_ble_eq_true rfl) rfl rfl (Nat.le_of_ble_eq_true rfl) (pX5_add h.1 ?_)
    replace h := h.2
    generalize hσ1 : zup (zup σ 13 0 (σ 12 0 1).toNat (zand (zl2i (zlushr l2 (8 * l4))) 255)) 12 0 1 (σ 12 0 1 + 1) = σ1
    replace h := h σ1 hσ1.symm
    refine r_blk [qO (.iinc 4 1), qO (.goto (-28))] (pc' := 42) (L' := [zR 0 0, zI l1, zJ l2, zU, zI (l4 + 1)]) (S' := []) (σ' := σ1) (Ps := [-2147483648 ≤ l4 + 1 ∧ l4 + 1 ≤ 2147483647]) (by decide +kernel) rfl ⟨h.1, trivial⟩ ?_
    replace h := h.2
    exact Runs.fg (fgE (fgE (fgE (fgU (fgE fg0))))) h
theorem gX11_feed_0 (a0 : Int) (a1 : Int64) (σ : Hp) {Q : Option Int → Hp → Prop} (h : ((1 ≤ a0 → ((8 < a0 → (-6 ≤ (-6) ∧ (-6) ≤ -1) ∧ (σ 35 0 (-(-6)).toNat ≤ 2147483646) ∧ ∀ σ1 : Hp, σ1 = zup σ 35 0 (-(-6)).toNat (σ 35 0 (-(-6)).toNat + 1) → Q (some (-6)) σ1) ∧ (¬ 8 < a0 → (-2147483648 ≤ (σ 34 0 7) + a0 ∧ (σ 34 0 7) + a0 ≤ 2147483647) ∧ (((σ 34 0 7) + a0 ≤ 64 → Runs 1 mX11_feed 39 [zR 34 0, zI a0, zJ a1, zU, zI 0] [] σ Q) ∧ (¬ (σ 34 0 7) + a0 ≤ 64 → (-6 ≤ (-6) ∧ (-6) ≤ -1) ∧ (σ 35 0 (-(-6)).toNat ≤ 2147483646) ∧ ∀ σ2 : Hp, σ2 = zup σ 35 0 (-(-6)).toNat (σ 35 0 (-(-6)).toNat + 1) → Q (some (-6)) σ2))))) ∧ (¬ 1 ≤ a0 → (-6 ≤ (-4) ∧ (-4) ≤ -1) ∧ (σ 35 0 (-(-4)).toNat ≤ 2147483646) ∧ ∀ σ3 : Hp, σ3 = zup σ 35 0 (-(-4)).toNat (σ 35 0 (-(-4)).toNat + 1) → Q (some (-4)) σ3))) : Runs 1 mX11_feed 0 [zR 34 0, zI a0, zJ a1, zU, zU] [] σ Q := by
  refine r_blk [qO (.iload_n 1), qO (.iconst 1)] (pc' := 2) (L' := [zR 34 0, zI a0, zJ a1, zU, zU]) (S' := [zI 1, zI a0]) (σ' := σ) (Ps := []) (by decide +kernel) rfl trivial ?_
  refine r_icmp_ge (off := 10) (tgt := 12) (by decide +kernel) (by decide) (fun c => ?_) (fun c => ?_)
  · replace h := h.1 c
    refine r_blk [qO (.iload_n 1), qO (.bipush 8)] (pc' := 15) (L' := [zR 34 0, zI a0, zJ a1, zU, zU]) (S' := [zI 8, zI a0]) (σ' := σ) (Ps := []) (by decide +kernel) rfl trivial ?_
    refine r_icmp_gt (off := 14) (tgt := 29) (by decide +kernel) (by decide) (fun c => ?_) (fun c => ?_)
    · replace h := h.1 c
      refine r_blk [qO (.aload_n 0), qO (.bipush (-6))] (pc' := 32) (L' := [zR 34 0, zI a0, zJ a1, zU, zU]) (S' := [zI (-6), zR 34 0]) (σ' := σ) (Ps := []) (by decide +kernel) rfl trivial ?_
      refine r_callVI (As := [zI (-6)]) (S := []) (Lc := [zR 34 0, zI (-6)]) (d' := 0) (n := 1) (g := 34) (x := 0) (ci := 11) kX11_refuse vX11_refuse lkX11_66 (by decide +kernel) (by decide) rfl rfl (by decide) rfl rfl (Nat.le_of_ble_eq_true rfl) rfl rfl (Nat.le_of_ble_eq_true rfl) (pX11_refuse h.1 h.2.1 ?_)
      replace h := h.2.2
      generalize hσ1 : zup σ 35 0 (-(-6)).toNat (σ 35 0 (-(-6)).toNat + 1) = σ1
      replace h := h σ1 hσ1.symm
      exact r_ret (by decide +kernel) rfl (fun _ => h)
    · replace h := h.2 c
      refine r_blk [qO (.aload_n 0), qF (.getfield 70) 11 7, qO (.iload_n 1), qO .iadd, qO (.bipush 64)] (pc' := 26) (L' := [zR 34 0, zI a0, zJ a1, zU, zU]) (S' := [zI 64, zI ((σ 34 0 7) + a0)]) (σ' := σ) (Ps := [-2147483648 ≤ (σ 34 0 7) + a0 ∧ (σ 34 0 7) + a0 ≤ 2147483647]) (by decide +kernel) rfl ⟨h.1, trivial⟩ ?_
      replace h := h.2
      refine r_icmp_le (off := 10) (tgt := 36) (by decide +kernel) (by decide) (fun c => ?_) (fun c => ?_)
      · replace h := h.1 c
        refine r_blk [qO (.iconst 0), qO (.istore 4)] (pc' := 39) (L' := [zR 34 0, zI a0, zJ a1, zU, zI 0]) (S' := []) (σ' := σ) (Ps := []) (by decide +kernel) rfl trivial ?_
        exact Runs.fg (fgE (fgE (fgE (fgU (fgE fg0))))) h
      · replace h := h.2 c
        refine r_blk [qO (.aload_n 0), qO (.bipush (-6))] (pc' := 32) (L' := [zR 34 0, zI a0, zJ a1, zU, zU]) (S' := [zI (-6), zR 34 0]) (σ' := σ) (Ps := []) (by decide +kernel) rfl trivial ?_
        refine r_callVI (As := [zI (-6)]) (S := []) (Lc := [zR 34 0, zI (-6)]) (d' := 0) (n := 1) (g := 34) (x := 0) (ci := 11) kX11_refuse vX11_refuse lkX11_66 (by decide +kernel) (by decide) rfl rfl (by decide) rfl rfl (Nat.le_of_ble_eq_true rfl) rfl rfl (Nat.le_of_ble_eq_true rfl) (pX11_refuse h.1 h.2.1 ?_)
        replace h := h.2.2
        generalize hσ2 : zup σ 35 0 (-(-6)).toNat (σ 35 0 (-(-6)).toNat + 1) = σ2
        replace h := h σ2 hσ2.symm
        exact r_ret (by decide +kernel) rfl (fun _ => h)
  · replace h := h.2 c
    refine r_blk [qO (.aload_n 0), qO (.bipush (-4))] (pc' := 8) (L' := [zR 34 0, zI a0, zJ a1, zU, zU]) (S' := [zI (-4), zR 34 0]) (σ' := σ) (Ps := []) (by decide +kernel) rfl trivial ?_
    refine r_callVI (As := [zI (-4)]) (S := []) (Lc := [zR 34 0, zI (-4)]) (d' := 0) (n := 1) (g := 34) (x := 0) (ci := 11) kX11_refuse vX11_refuse lkX11_66 (by decide +kernel) (by decide) rfl rfl (by decide) rfl rfl (Nat.le_of_ble_eq_true rfl) rfl rfl (Nat.le_of_ble_eq_true rfl) (pX11_refuse h.1 h.2.1 ?_)
    replace h := h.2.2
    generalize hσ3 : zup σ 35 0 (-(-4)).toNat (σ 35 0 (-(-4)).toNat + 1) = σ3
    replace h := h σ3 hσ3.symm
    exact r_ret (by decide +kernel) rfl (fun _ => h)
theorem gX11_feed_39 (l1 : Int) (l4 : Int) (l2 : Int64) (σ : Hp) {Q : Option Int → Hp → Prop} (h : ((l1 ≤ l4 → Q (some (σ 34 0 7)) σ) ∧ (¬ l1 ≤ l4 → (-2147483648 ≤ 8 * l4 ∧ 8 * l4 ≤ 2147483647) ∧ (0 ≤ σ 34 0 7 ∧ σ 34 0 7 < 64) ∧ (-2147483648 ≤ (σ 34 0 7) + 1 ∧ (σ 34 0 7) + 1 ≤ 2147483647) ∧ (-2147483648 ≤ l4 + 1 ∧ l4 + 1 ≤ 2147483647) ∧ ∀ σ1 : Hp, σ1 = (zup (zup σ 39 0 ((σ 34 0 7).toNat) (zl2i ((zlshr l2 (8 * l4)) &&& (Int64.ofInt 255)))) 34 0 7 ((σ 34 0 7) + 1)) → Runs 1 mX11_feed 39 [zR 34 0, zI l1, zJ l2, zU, zI (l4 + 1)] [] σ1 Q))) : Runs 1 mX11_feed 39 [zR 34 0, zI l1, zJ l2, zU, zI l4] [] σ Q := by
  refine r_blk [qO (.iload 4), qO (.iload_n 1)] (pc' := 42) (L' := [zR 34 0, zI l1, zJ l2, zU, zI l4]) (S' := [zI l1, zI l4]) (σ' := σ) (Ps := []) (by decide +kernel) rfl trivial ?_
  refine r_icmp_ge (off := 40) (tgt := 82) (by decide +kernel) (by decide) (fun c => ?_) (fun c => ?_)
  · replace h := h.1 c
    refine r_blk [qO (.aload_n 0), qF (.getfield 70) 11 7] (pc' := 86) (L' := [zR 34 0, zI l1, zJ l2, zU, zI l4]) (S' := [zI (σ 34 0 7)]) (σ' := σ) (Ps := []) (by decide +kernel) rfl trivial ?_
    exact r_ret (by decide +kernel) rfl (fun _ => h)
  · replace h := h.2 c
    refine r_blk [qO (.aload_n 0), qF (.getfield 22) 11 5, qO (.aload_n 0), qF (.getfield 70) 11 7, qO (.lload_n 2), qO (.bipush 8), qO (.iload 4), qO .imul, qO .lshr, qC (.ldc2_w 74) 255, qO .land, qO .l2i, qO .iastore, qO (.aload_n 0), qO .dup, qF (.getfield 70) 11 7, qO (.iconst 1), qO .iadd, qF (.putfield 70) 11 7, qO (.iinc 4 1), qO (.goto (-40))] (pc' := 39) (L' := [zR 34 0, zI l1, zJ l2, zU, zI (l4 + 1)]) (S' := []) (σ' := (zup (zup σ 39 0 ((σ 34 0 7).toNat) (zl2i ((zlshr l2 (8 * l4)) &&& (Int64.ofInt 255)))) 34 0 7 ((σ 34 0 7) + 1))) (Ps := [-2147483648 ≤ 8 * l4 ∧ 8 * l4 ≤ 2147483647, 0 ≤ σ 34 0 7 ∧ σ 34 0 7 < 64, -2147483648 ≤ (σ 34 0 7) + 1 ∧ (σ 34 0 7) + 1 ≤ 2147483647, -2147483648 ≤ l4 + 1 ∧ l4 + 1 ≤ 2147483647]) (by decide +kernel) rfl ⟨h.1, h.2.1, h.2.2.1, h.2.2.2.1, trivial⟩ ?_
    replace h := h.2.2.2.2
    generalize hσ1 : (zup (zup σ 39 0 ((σ 34 0 7).toNat) (zl2i ((zlshr l2 (8 * l4)) &&& (Int64.ofInt 255)))) 34 0 7 ((σ 34 0 7) + 1)) = σ1
    replace h := h σ1 hσ1.symm
    exact Runs.fg (fgE (fgE (fgE (fgU (fgE fg0))))) h
theorem gX10_town_0 (σ : Hp) {Q : Option Int → Hp → Prop} (h : Runs 5 mX3_readInto 0 [zR 14 0, zR 1 0, zU, zU] [] σ (rI (fun z2 σ1 => Q (some z2) (zup σ1 12 0 1 0)))) : Runs 6 mX10_town 0 [zR 0 0, zU] [] σ Q := by
  refine r_blk [qO (.aload_n 0), qF (.getfield 31) 10 3, qO (.aload_n 0), qF (.getfield 10) 10 0] (pc' := 8) (L' := [zR 0 0, zU]) (S' := [zR 1 0, zR 14 0]) (σ' := σ) (Ps := []) (by decide +kernel) rfl trivial ?_
  refine r_callVI (As := [zR 1 0]) (S := []) (Lc := [zR 14 0, zR 1 0, zU, zU]) (d' := 5) (n := 1) (g := 14) (x := 0) (ci := 3) kX3_readInto vX3_readInto lkX10_110 (by decide +kernel) (by decide) rfl rfl (by decide) rfl rfl (Nat.le_of_ble_eq_true rfl) rfl rfl (Nat.le_of_ble_eq_true rfl) (h.monoI (fun z2 σ1 h => ?_))
  refine r_blk [qO (.istore_n 1), qO (.aload_n 0), qF (.getfield 22) 10 2, qO (.iconst 0), qF (.putfield 102) 5 1, qO (.iload_n 1)] (pc' := 21) (L' := [zR 0 0, zI z2]) (S' := [zI z2]) (σ' := (zup σ1 12 0 1 0)) (Ps := []) (by decide +kernel) rfl trivial ?_
  exact r_ret (by decide +kernel) rfl (fun _ => h)
theorem gX10_street_0 (a0 : Int) (a1 : Int) (σ : Hp) {Q : Option Int → Hp → Prop} (h : ((0 ≤ a0 ∧ a0 < σ 1 0 1 → ((a1 < 0 ∨ 5 < a1 → (-6 ≤ (-2) ∧ (-2) ≤ -1) ∧ (σ 33 0 (-(-2)).toNat ≤ 2147483646) ∧ ∀ σ1 : Hp, σ1 = zup σ 33 0 (-(-2)).toNat (σ 33 0 (-(-2)).toNat + 1) → Q (some (-2)) σ1) ∧ (a1 = 0 → (0 ≤ a0 ∧ a0 < 14) ∧ Q (some (σ 2 0 a0.toNat)) σ) ∧ (a1 = 1 → (0 ≤ a0 ∧ a0 < 14) ∧ Q (some (σ 3 0 a0.toNat)) σ) ∧ (a1 = 2 → (0 ≤ a0 ∧ a0 < 14) ∧ Q (some (σ 4 0 a0.toNat)) σ) ∧ (a1 = 3 → Q (some (bitz (σ 1 0 4) a0)) σ) ∧ (a1 = 4 → (0 ≤ a0 ∧ a0 < 14) ∧ Q (some (σ 5 0 a0.toNat)) σ) ∧ (a1 = 5 → Q (some (bitz (σ 1 0 5) a0)) σ))) ∧ (¬ (0 ≤ a0 ∧ a0 < σ 1 0 1) → (-6 ≤ (-1) ∧ (-1) ≤ -1) ∧ (σ 33 0 (-(-1)).toNat ≤ 2147483646) ∧ ∀ σ2 : Hp, σ2 = zup σ 33 0 (-(-1)).toNat (σ 33 0 (-(-1)).toNat + 1) → Q (some (-1)) σ2))) : Runs 1 mX10_street 0 [zR 0 0, zI a0, zI a1] [] σ Q := by
  refine r_blk [qO (.aload_n 0), qF (.getfield 10) 10 0, qO (.iload_n 1)] (pc' := 5) (L' := [zR 0 0, zI a0, zI a1]) (S' := [zI a0, zR 1 0]) (σ' := σ) (Ps := []) (by decide +kernel) rfl trivial ?_
  refine r_callVI (As := [zI a0]) (S := []) (Lc := [zR 1 0, zI a0]) (d' := 0) (n := 1) (g := 1) (x := 0) (ci := 6) kX6_hasStreet vX6_hasStreet lkX10_114 (by decide +kernel) (by decide) rfl rfl (by decide) rfl rfl (Nat.le_of_ble_eq_true rfl) rfl rfl (Nat.le_of_ble_eq_true rfl) (pX6_hasStreet  (fun c => ?_) (fun c => ?_))
  · replace h := h.1 c
    refine r_if_ne (off := 9) (tgt := 17) (by decide +kernel) (by decide) (fun c => ?_) (fun c => ?_)
    · refine r_blk [qO (.iload_n 2)] (pc' := 18) (L' := [zR 0 0, zI a0, zI a1]) (S' := [zI a1]) (σ' := σ) (Ps := []) (by decide +kernel) rfl trivial ?_
      by_cases c : a1 < 0 ∨ 5 < a1
      · replace h := h.1 c
        refine r_tableOut (dflt := 102) (lo := 0) (hi := 5) (offs := #[38, 48, 58, 68, 80, 90]) (len := 38) (tgt := 120) (by decide +kernel) c (by decide) ?_
        refine r_blk [qO (.aload_n 0), qO (.bipush (-2))] (pc' := 123) (L' := [zR 0 0, zI a0, zI a1]) (S' := [zI (-2), zR 0 0]) (σ' := σ) (Ps := []) (by decide +kernel) rfl trivial ?_
        refine r_callVI (As := [zI (-2)]) (S := []) (Lc := [zR 0 0, zI (-2)]) (d' := 0) (n := 1) (g := 0) (x := 0) (ci := 10) kX10_refuse vX10_refuse lkX10_98 (by decide +kernel) (by decide) rfl rfl (by decide) rfl rfl (Nat.le_of_ble_eq_true rfl) rfl rfl (Nat.le_of_ble_eq_true rfl) (pX10_refuse h.1 h.2.1 ?_)
        replace h := h.2.2
        generalize hσ1 : zup σ 33 0 (-(-2)).toNat (σ 33 0 (-(-2)).toNat + 1) = σ1
        replace h := h σ1 hσ1.symm
        exact r_ret (by decide +kernel) rfl (fun _ => h)
      replace h := h.2
      have hc : a1 = 0 ∨ a1 = 1 ∨ a1 = 2 ∨ a1 = 3 ∨ a1 = 4 ∨ a1 = 5 := by omega
      rcases hc with c | c | c | c | c | c
      · replace h := h.1 c
        refine r_tableIn (dflt := 102) (lo := 0) (hi := 5) (offs := #[38, 48, 58, 68, 80, 90]) (len := 38) (off := 38) (tgt := 56) (by decide +kernel) (by omega) (by omega) (by rw [c]; rfl) (by decide) ?_
        refine r_blk [qO (.aload_n 0), qF (.getfield 10) 10 0, qF (.getfield 118) 6 7, qO (.iload_n 1), qO .iaload] (pc' := 65) (L' := [zR 0 0, zI a0, zI a1]) (S' := [zI (σ 2 0 a0.toNat)]) (σ' := σ) (Ps := [0 ≤ a0 ∧ a0 < 14]) (by decide +kernel) rfl ⟨h.1, trivial⟩ ?_
        replace h := h.2
        exact r_ret (by decide +kernel) rfl (fun _ => h)
      · replace h := h.2.1 c
        refine r_tableIn (dflt := 102) (lo := 0) (hi := 5) (offs := #[38, 48, 58, 68, 80, 90]) (len := 38) (off := 48) (tgt := 66) (by decide +kernel) (by omega) (by omega) (by rw [c]; rfl) (by decide) ?_
        refine r_blk [qO (.aload_n 0), qF (.getfield 10) 10 0, qF (.getfield 121) 6 8, qO (.iload_n 1), qO .iaload] (pc' := 75) (L' := [zR 0 0, zI a0, zI a1]) (S' := [zI (σ 3 0 a0.toNat)]) (σ' := σ) (Ps := [0 ≤ a0 ∧ a0 < 14]) (by decide +kernel) rfl ⟨h.1, trivial⟩ ?_
        replace h := h.2
        exact r_ret (by decide +kernel) rfl (fun _ => h)
      · replace h := h.2.2.1 c
        refine r_tableIn (dflt := 102) (lo := 0) (hi := 5) (offs := #[38, 48, 58, 68, 80, 90]) (len := 38) (off := 58) (tgt := 76) (by decide +kernel) (by omega) (by omega) (by rw [c]; rfl) (by decide) ?_
        refine r_blk [qO (.aload_n 0), qF (.getfield 10) 10 0, qF (.getfield 124) 6 9, qO (.iload_n 1), qO .iaload] (pc' := 85) (L' := [zR 0 0, zI a0, zI a1]) (S' := [zI (σ 4 0 a0.toNat)]) (σ' := σ) (Ps := [0 ≤ a0 ∧ a0 < 14]) (by decide +kernel) rfl ⟨h.1, trivial⟩ ?_
        replace h := h.2
        exact r_ret (by decide +kernel) rfl (fun _ => h)
      · replace h := h.2.2.2.1 c
        refine r_tableIn (dflt := 102) (lo := 0) (hi := 5) (offs := #[38, 48, 58, 68, 80, 90]) (len := 38) (off := 68) (tgt := 86) (by decide +kernel) (by omega) (by omega) (by rw [c]; rfl) (by decide) ?_
        refine r_blk [qO (.aload_n 0), qF (.getfield 10) 10 0, qF (.getfield 127) 6 4, qO (.iload_n 1)] (pc' := 94) (L' := [zR 0 0, zI a0, zI a1]) (S' := [zI a0, zI (σ 1 0 4)]) (σ' := σ) (Ps := []) (by decide +kernel) rfl trivial ?_
        refine r_callSI (As := [zI (σ 1 0 4), zI a0]) (S := []) (Lc := [zI (σ 1 0 4), zI a0]) (d' := 0) (n := 2) kX10_bitOf vX10_bitOf lkX10_130 (by decide +kernel) (by decide) rfl rfl (Nat.le_of_ble_eq_true rfl) rfl rfl (Nat.le_of_ble_eq_true rfl) (pX10_bitOf  ?_)
        exact r_ret (by decide +kernel) rfl (fun _ => h)
      · replace h := h.2.2.2.2.1 c
        refine r_tableIn (dflt := 102) (lo := 0) (hi := 5) (offs := #[38, 48, 58, 68, 80, 90]) (len := 38) (off := 80) (tgt := 98) (by decide +kernel) (by omega) (by omega) (by rw [c]; rfl) (by decide) ?_
        refine r_blk [qO (.aload_n 0), qF (.getfield 10) 10 0, qF (.getfield 134) 6 10, qO (.iload_n 1), qO .iaload] (pc' := 107) (L' := [zR 0 0, zI a0, zI a1]) (S' := [zI (σ 5 0 a0.toNat)]) (σ' := σ) (Ps := [0 ≤ a0 ∧ a0 < 14]) (by decide +kernel) rfl ⟨h.1, trivial⟩ ?_
        replace h := h.2
        exact r_ret (by decide +kernel) rfl (fun _ => h)
      · replace h := h.2.2.2.2.2 c
        refine r_tableIn (dflt := 102) (lo := 0) (hi := 5) (offs := #[38, 48, 58, 68, 80, 90]) (len := 38) (off := 90) (tgt := 108) (by decide +kernel) (by omega) (by omega) (by rw [c]; rfl) (by decide) ?_
        refine r_blk [qO (.aload_n 0), qF (.getfield 10) 10 0, qF (.getfield 137) 6 5, qO (.iload_n 1)] (pc' := 116) (L' := [zR 0 0, zI a0, zI a1]) (S' := [zI a0, zI (σ 1 0 5)]) (σ' := σ) (Ps := []) (by decide +kernel) rfl trivial ?_
        refine r_callSI (As := [zI (σ 1 0 5), zI a0]) (S := []) (Lc := [zI (σ 1 0 5), zI a0]) (d' := 0) (n := 2) kX10_bitOf vX10_bitOf lkX10_130 (by decide +kernel) (by decide) rfl rfl (Nat.le_of_ble_eq_true rfl) rfl rfl (Nat.le_of_ble_eq_true rfl) (pX10_bitOf  ?_)
        exact r_ret (by decide +kernel) rfl (fun _ => h)
    · exact absurd c (by decide)
  · replace h := h.2 c
    refine r_if_ne (off := 9) (tgt := 17) (by decide +kernel) (by decide) (fun c => ?_) (fun c => ?_)
    · exact absurd c (by decide)
    · refine r_blk [qO (.aload_n 0), qO (.iconst (-1))] (pc' := 13) (L' := [zR 0 0, zI a0, zI a1]) (S' := [zI (-1), zR 0 0]) (σ' := σ) (Ps := []) (by decide +kernel) rfl trivial ?_
      refine r_callVI (As := [zI (-1)]) (S := []) (Lc := [zR 0 0, zI (-1)]) (d' := 0) (n := 1) (g := 0) (x := 0) (ci := 10) kX10_refuse vX10_refuse lkX10_98 (by decide +kernel) (by decide) rfl rfl (by decide) rfl rfl (Nat.le_of_ble_eq_true rfl) rfl rfl (Nat.le_of_ble_eq_true rfl) (pX10_refuse h.1 h.2.1 ?_)
      replace h := h.2.2
      generalize hσ2 : zup σ 33 0 (-(-1)).toNat (σ 33 0 (-(-1)).toNat + 1) = σ2
      replace h := h σ2 hσ2.symm
      exact r_ret (by decide +kernel) rfl (fun _ => h)
theorem gX11_street_0 (a0 : Int) (a1 : Int) (σ : Hp) {Q : Option Int → Hp → Prop} (h : ((0 ≤ a0 ∧ a0 < σ 36 0 1 → ((¬ a1 = 5 → ((0 ≤ a1 ∧ a1 < 5 → (0 ≤ a0 ∧ a0 < 14) ∧ ((0 : Int) ≤ a1 ∧ a1 < 5) ∧ Q (some (sg (σ 36 0) a0 a1)) σ) ∧ (¬ (0 ≤ a1 ∧ a1 < 5) → (-6 ≤ (-2) ∧ (-2) ≤ -1) ∧ (σ 35 0 (-(-2)).toNat ≤ 2147483646) ∧ ∀ σ1 : Hp, σ1 = zup σ 35 0 (-(-2)).toNat (σ 35 0 (-(-2)).toNat + 1) → Q (some (-2)) σ1))) ∧ (a1 = 5 → Q (some (bitz (σ 36 0 4) a0)) σ))) ∧ (¬ (0 ≤ a0 ∧ a0 < σ 36 0 1) → (-6 ≤ (-1) ∧ (-1) ≤ -1) ∧ (σ 35 0 (-(-1)).toNat ≤ 2147483646) ∧ ∀ σ2 : Hp, σ2 = zup σ 35 0 (-(-1)).toNat (σ 35 0 (-(-1)).toNat + 1) → Q (some (-1)) σ2))) : Runs 2 mX11_street 0 [zR 34 0, zI a0, zI a1] [] σ Q := by
  refine r_blk [qO (.aload_n 0), qO (.iload_n 1)] (pc' := 2) (L' := [zR 34 0, zI a0, zI a1]) (S' := [zI a0, zR 34 0]) (σ' := σ) (Ps := []) (by decide +kernel) rfl trivial ?_
  refine r_callVI (As := [zI a0]) (S := []) (Lc := [zR 34 0, zI a0]) (d' := 1) (n := 1) (g := 34) (x := 0) (ci := 11) kX11_isStreet vX11_isStreet lkX11_103 (by decide +kernel) (by decide) rfl rfl (by decide) rfl rfl (Nat.le_of_ble_eq_true rfl) rfl rfl (Nat.le_of_ble_eq_true rfl) (pX11_isStreet  (fun c => ?_) (fun c => ?_))
  · replace h := h.1 c
    refine r_if_ne (off := 11) (tgt := 16) (by decide +kernel) (by decide) (fun c => ?_) (fun c => ?_)
    · refine r_blk [qO (.iload_n 2), qO (.iconst 5)] (pc' := 18) (L' := [zR 34 0, zI a0, zI a1]) (S' := [zI 5, zI a1]) (σ' := σ) (Ps := []) (by decide +kernel) rfl trivial ?_
      refine r_icmp_ne (off := 16) (tgt := 34) (by decide +kernel) (by decide) (fun c => ?_) (fun c => ?_)
      · replace h := h.1 c
        refine r_blk [qO (.iload_n 2), qO (.iconst 5)] (pc' := 36) (L' := [zR 34 0, zI a0, zI a1]) (S' := [zI 5, zI a1]) (σ' := σ) (Ps := []) (by decide +kernel) rfl trivial ?_
        refine r_callSI (As := [zI a1, zI 5]) (S := []) (Lc := [zI a1, zI 5]) (d' := 0) (n := 2) kX11_isIn vX11_isIn lkX11_62 (by decide +kernel) (by decide) rfl rfl (Nat.le_of_ble_eq_true rfl) rfl rfl (Nat.le_of_ble_eq_true rfl) (pX11_isIn  (fun c => ?_) (fun c => ?_))
        · replace h := h.1 c
          refine r_if_eq (off := 12) (tgt := 51) (by decide +kernel) (by decide) (fun c => ?_) (fun c => ?_)
          · exact absurd c (by decide)
          · refine r_blk [qO (.aload_n 0), qO (.iload_n 1), qO (.iload_n 2)] (pc' := 45) (L' := [zR 34 0, zI a0, zI a1]) (S' := [zI a1, zI a0, zR 34 0]) (σ' := σ) (Ps := []) (by decide +kernel) rfl trivial ?_
            refine r_callVI (As := [zI a0, zI a1]) (S := []) (Lc := [zR 34 0, zI a0, zI a1]) (d' := 0) (n := 2) (g := 34) (x := 0) (ci := 11) kX11_get vX11_get lkX11_106 (by decide +kernel) (by decide) rfl rfl (by decide) rfl rfl (Nat.le_of_ble_eq_true rfl) rfl rfl (Nat.le_of_ble_eq_true rfl) (pX11_get h.1 h.2.1 ?_)
            replace h := h.2.2
            refine r_blk [qO (.goto 9)] (pc' := 57) (L' := [zR 34 0, zI a0, zI a1]) (S' := [zI (sg (σ 36 0) a0 a1)]) (σ' := σ) (Ps := []) (by decide +kernel) rfl trivial ?_
            exact r_ret (by decide +kernel) rfl (fun _ => h)
        · replace h := h.2 c
          refine r_if_eq (off := 12) (tgt := 51) (by decide +kernel) (by decide) (fun c => ?_) (fun c => ?_)
          · refine r_blk [qO (.aload_n 0), qO (.bipush (-2))] (pc' := 54) (L' := [zR 34 0, zI a0, zI a1]) (S' := [zI (-2), zR 34 0]) (σ' := σ) (Ps := []) (by decide +kernel) rfl trivial ?_
            refine r_callVI (As := [zI (-2)]) (S := []) (Lc := [zR 34 0, zI (-2)]) (d' := 0) (n := 1) (g := 34) (x := 0) (ci := 11) kX11_refuse vX11_refuse lkX11_66 (by decide +kernel) (by decide) rfl rfl (by decide) rfl rfl (Nat.le_of_ble_eq_true rfl) rfl rfl (Nat.le_of_ble_eq_true rfl) (pX11_refuse h.1 h.2.1 ?_)
            replace h := h.2.2
            generalize hσ1 : zup σ 35 0 (-(-2)).toNat (σ 35 0 (-(-2)).toNat + 1) = σ1
            replace h := h σ1 hσ1.symm
            exact r_ret (by decide +kernel) rfl (fun _ => h)
          · exact absurd c (by decide)
      · replace h := h.2 c
        refine r_blk [qO (.aload_n 0), qF (.getfield 13) 11 1, qO (.iconst 4), qO .iaload, qO (.iload_n 1), qO .ishr, qO (.iconst 1), qO .iand, qO (.goto 26)] (pc' := 57) (L' := [zR 34 0, zI a0, zI a1]) (S' := [zI (bitz (σ 36 0 4) a0)]) (σ' := σ) (Ps := [0 ≤ 4 ∧ 4 < 123]) (by decide +kernel) rfl ⟨(by decide), trivial⟩ ?_
        exact r_ret (by decide +kernel) rfl (fun _ => h)
    · exact absurd c (by decide)
  · replace h := h.2 c
    refine r_if_ne (off := 11) (tgt := 16) (by decide +kernel) (by decide) (fun c => ?_) (fun c => ?_)
    · exact absurd c (by decide)
    · refine r_blk [qO (.aload_n 0), qO (.iconst (-1))] (pc' := 10) (L' := [zR 34 0, zI a0, zI a1]) (S' := [zI (-1), zR 34 0]) (σ' := σ) (Ps := []) (by decide +kernel) rfl trivial ?_
      refine r_callVI (As := [zI (-1)]) (S := []) (Lc := [zR 34 0, zI (-1)]) (d' := 0) (n := 1) (g := 34) (x := 0) (ci := 11) kX11_refuse vX11_refuse lkX11_66 (by decide +kernel) (by decide) rfl rfl (by decide) rfl rfl (Nat.le_of_ble_eq_true rfl) rfl rfl (Nat.le_of_ble_eq_true rfl) (pX11_refuse h.1 h.2.1 ?_)
      replace h := h.2.2
      generalize hσ2 : zup σ 35 0 (-(-1)).toNat (σ 35 0 (-(-1)).toNat + 1) = σ2
      replace h := h σ2 hσ2.symm
      refine r_blk [qO (.goto 44)] (pc' := 57) (L' := [zR 34 0, zI a0, zI a1]) (S' := [zI (-1)]) (σ' := σ2) (Ps := []) (by decide +kernel) rfl trivial ?_
      exact r_ret (by decide +kernel) rfl (fun _ => h)
theorem gX10_errand_0 (a0 : Int) (a1 : Int) (σ : Hp) {Q : Option Int → Hp → Prop} (h : ((0 ≤ a0 ∧ a0 < σ 1 0 2 → ((a1 < 0 ∨ 3 < a1 → (-6 ≤ (-2) ∧ (-2) ≤ -1) ∧ (σ 33 0 (-(-2)).toNat ≤ 2147483646) ∧ ∀ σ1 : Hp, σ1 = zup σ 33 0 (-(-2)).toNat (σ 33 0 (-(-2)).toNat + 1) → Q (some (-2)) σ1) ∧ (a1 = 0 → (0 ≤ a0 ∧ a0 < 8) ∧ Q (some (σ 6 0 a0.toNat)) σ) ∧ (a1 = 1 → (0 ≤ a0 ∧ a0 < 8) ∧ Q (some (σ 7 0 a0.toNat)) σ) ∧ (a1 = 2 → (0 ≤ a0 ∧ a0 < 8) ∧ Q (some (σ 8 0 a0.toNat)) σ) ∧ (a1 = 3 → (0 ≤ a0 ∧ a0 < 8) ∧ Q (some (σ 9 0 a0.toNat)) σ))) ∧ (¬ (0 ≤ a0 ∧ a0 < σ 1 0 2) → (-6 ≤ (-1) ∧ (-1) ≤ -1) ∧ (σ 33 0 (-(-1)).toNat ≤ 2147483646) ∧ ∀ σ2 : Hp, σ2 = zup σ 33 0 (-(-1)).toNat (σ 33 0 (-(-1)).toNat + 1) → Q (some (-1)) σ2))) : Runs 1 mX10_errand 0 [zR 0 0, zI a0, zI a1] [] σ Q := by
  refine r_blk [qO (.aload_n 0), qF (.getfield 10) 10 0, qO (.iload_n 1)] (pc' := 5) (L' := [zR 0 0, zI a0, zI a1]) (S' := [zI a0, zR 1 0]) (σ' := σ) (Ps := []) (by decide +kernel) rfl trivial ?_
  refine r_callVI (As := [zI a0]) (S := []) (Lc := [zR 1 0, zI a0]) (d' := 0) (n := 1) (g := 1) (x := 0) (ci := 6) kX6_hasErrand vX6_hasErrand lkX10_140 (by decide +kernel) (by decide) rfl rfl (by decide) rfl rfl (Nat.le_of_ble_eq_true rfl) rfl rfl (Nat.le_of_ble_eq_true rfl) (pX6_hasErrand  (fun c => ?_) (fun c => ?_))
  · replace h := h.1 c
    refine r_if_ne (off := 9) (tgt := 17) (by decide +kernel) (by decide) (fun c => ?_) (fun c => ?_)
    · refine r_blk [qO (.iload_n 2)] (pc' := 18) (L' := [zR 0 0, zI a0, zI a1]) (S' := [zI a1]) (σ' := σ) (Ps := []) (by decide +kernel) rfl trivial ?_
      by_cases c : a1 < 0 ∨ 3 < a1
      · replace h := h.1 c
        refine r_tableOut (dflt := 70) (lo := 0) (hi := 3) (offs := #[30, 40, 50, 60]) (len := 30) (tgt := 88) (by decide +kernel) c (by decide) ?_
        refine r_blk [qO (.aload_n 0), qO (.bipush (-2))] (pc' := 91) (L' := [zR 0 0, zI a0, zI a1]) (S' := [zI (-2), zR 0 0]) (σ' := σ) (Ps := []) (by decide +kernel) rfl trivial ?_
        refine r_callVI (As := [zI (-2)]) (S := []) (Lc := [zR 0 0, zI (-2)]) (d' := 0) (n := 1) (g := 0) (x := 0) (ci := 10) kX10_refuse vX10_refuse lkX10_98 (by decide +kernel) (by decide) rfl rfl (by decide) rfl rfl (Nat.le_of_ble_eq_true rfl) rfl rfl (Nat.le_of_ble_eq_true rfl) (pX10_refuse h.1 h.2.1 ?_)
        replace h := h.2.2
        generalize hσ1 : zup σ 33 0 (-(-2)).toNat (σ 33 0 (-(-2)).toNat + 1) = σ1
        replace h := h σ1 hσ1.symm
        exact r_ret (by decide +kernel) rfl (fun _ => h)
      replace h := h.2
      have hc : a1 = 0 ∨ a1 = 1 ∨ a1 = 2 ∨ a1 = 3 := by omega
      rcases hc with c | c | c | c
      · replace h := h.1 c
        refine r_tableIn (dflt := 70) (lo := 0) (hi := 3) (offs := #[30, 40, 50, 60]) (len := 30) (off := 30) (tgt := 48) (by decide +kernel) (by omega) (by omega) (by rw [c]; rfl) (by decide) ?_
        refine r_blk [qO (.aload_n 0), qF (.getfield 10) 10 0, qF (.getfield 143) 6 11, qO (.iload_n 1), qO .iaload] (pc' := 57) (L' := [zR 0 0, zI a0, zI a1]) (S' := [zI (σ 6 0 a0.toNat)]) (σ' := σ) (Ps := [0 ≤ a0 ∧ a0 < 8]) (by decide +kernel) rfl ⟨h.1, trivial⟩ ?_
        replace h := h.2
        exact r_ret (by decide +kernel) rfl (fun _ => h)
      · replace h := h.2.1 c
        refine r_tableIn (dflt := 70) (lo := 0) (hi := 3) (offs := #[30, 40, 50, 60]) (len := 30) (off := 40) (tgt := 58) (by decide +kernel) (by omega) (by omega) (by rw [c]; rfl) (by decide) ?_
        refine r_blk [qO (.aload_n 0), qF (.getfield 10) 10 0, qF (.getfield 146) 6 12, qO (.iload_n 1), qO .iaload] (pc' := 67) (L' := [zR 0 0, zI a0, zI a1]) (S' := [zI (σ 7 0 a0.toNat)]) (σ' := σ) (Ps := [0 ≤ a0 ∧ a0 < 8]) (by decide +kernel) rfl ⟨h.1, trivial⟩ ?_
        replace h := h.2
        exact r_ret (by decide +kernel) rfl (fun _ => h)
      · replace h := h.2.2.1 c
        refine r_tableIn (dflt := 70) (lo := 0) (hi := 3) (offs := #[30, 40, 50, 60]) (len := 30) (off := 50) (tgt := 68) (by decide +kernel) (by omega) (by omega) (by rw [c]; rfl) (by decide) ?_
        refine r_blk [qO (.aload_n 0), qF (.getfield 10) 10 0, qF (.getfield 149) 6 13, qO (.iload_n 1), qO .iaload] (pc' := 77) (L' := [zR 0 0, zI a0, zI a1]) (S' := [zI (σ 8 0 a0.toNat)]) (σ' := σ) (Ps := [0 ≤ a0 ∧ a0 < 8]) (by decide +kernel) rfl ⟨h.1, trivial⟩ ?_
        replace h := h.2
        exact r_ret (by decide +kernel) rfl (fun _ => h)
      · replace h := h.2.2.2 c
        refine r_tableIn (dflt := 70) (lo := 0) (hi := 3) (offs := #[30, 40, 50, 60]) (len := 30) (off := 60) (tgt := 78) (by decide +kernel) (by omega) (by omega) (by rw [c]; rfl) (by decide) ?_
        refine r_blk [qO (.aload_n 0), qF (.getfield 10) 10 0, qF (.getfield 152) 6 14, qO (.iload_n 1), qO .iaload] (pc' := 87) (L' := [zR 0 0, zI a0, zI a1]) (S' := [zI (σ 9 0 a0.toNat)]) (σ' := σ) (Ps := [0 ≤ a0 ∧ a0 < 8]) (by decide +kernel) rfl ⟨h.1, trivial⟩ ?_
        replace h := h.2
        exact r_ret (by decide +kernel) rfl (fun _ => h)
    · exact absurd c (by decide)
  · replace h := h.2 c
    refine r_if_ne (off := 9) (tgt := 17) (by decide +kernel) (by decide) (fun c => ?_) (fun c => ?_)
    · exact absurd c (by decide)
    · refine r_blk [qO (.aload_n 0), qO (.iconst (-1))] (pc' := 13) (L' := [zR 0 0, zI a0, zI a1]) (S' := [zI (-1), zR 0 0]) (σ' := σ) (Ps := []) (by decide +kernel) rfl trivial ?_
      refine r_callVI (As := [zI (-1)]) (S := []) (Lc := [zR 0 0, zI (-1)]) (d' := 0) (n := 1) (g := 0) (x := 0) (ci := 10) kX10_refuse vX10_refuse lkX10_98 (by decide +kernel) (by decide) rfl rfl (by decide) rfl rfl (Nat.le_of_ble_eq_true rfl) rfl rfl (Nat.le_of_ble_eq_true rfl) (pX10_refuse h.1 h.2.1 ?_)
      replace h := h.2.2
      generalize hσ2 : zup σ 33 0 (-(-1)).toNat (σ 33 0 (-(-1)).toNat + 1) = σ2
      replace h := h σ2 hσ2.symm
      exact r_ret (by decide +kernel) rfl (fun _ => h)
theorem gX11_errand_0 (a0 : Int) (a1 : Int) (σ : Hp) {Q : Option Int → Hp → Prop} (h : ((0 ≤ a0 ∧ a0 < σ 36 0 2 → ((0 ≤ a1 ∧ a1 < 4 → (0 ≤ a0 ∧ a0 < 8) ∧ ((0 : Int) ≤ a1 ∧ a1 < 4) ∧ Q (some (se (σ 36 0) a0 a1)) σ) ∧ (¬ (0 ≤ a1 ∧ a1 < 4) → (-6 ≤ (-2) ∧ (-2) ≤ -1) ∧ (σ 35 0 (-(-2)).toNat ≤ 2147483646) ∧ ∀ σ1 : Hp, σ1 = zup σ 35 0 (-(-2)).toNat (σ 35 0 (-(-2)).toNat + 1) → Q (some (-2)) σ1))) ∧ (¬ (0 ≤ a0 ∧ a0 < σ 36 0 2) → (-6 ≤ (-1) ∧ (-1) ≤ -1) ∧ (σ 35 0 (-(-1)).toNat ≤ 2147483646) ∧ ∀ σ2 : Hp, σ2 = zup σ 35 0 (-(-1)).toNat (σ 35 0 (-(-1)).toNat + 1) → Q (some (-1)) σ2))) : Runs 2 mX11_errand 0 [zR 34 0, zI a0, zI a1] [] σ Q := by
  refine r_blk [qO (.aload_n 0), qO (.iload_n 1)] (pc' := 2) (L' := [zR 34 0, zI a0, zI a1]) (S' := [zI a0, zR 34 0]) (σ' := σ) (Ps := []) (by decide +kernel) rfl trivial ?_
  refine r_callVI (As := [zI a0]) (S := []) (Lc := [zR 34 0, zI a0]) (d' := 1) (n := 1) (g := 34) (x := 0) (ci := 11) kX11_isErrand vX11_isErrand lkX11_110 (by decide +kernel) (by decide) rfl rfl (by decide) rfl rfl (Nat.le_of_ble_eq_true rfl) rfl rfl (Nat.le_of_ble_eq_true rfl) (pX11_isErrand  (fun c => ?_) (fun c => ?_))
  · replace h := h.1 c
    refine r_if_ne (off := 11) (tgt := 16) (by decide +kernel) (by decide) (fun c => ?_) (fun c => ?_)
    · refine r_blk [qO (.iload_n 2), qO (.iconst 4)] (pc' := 18) (L' := [zR 34 0, zI a0, zI a1]) (S' := [zI 4, zI a1]) (σ' := σ) (Ps := []) (by decide +kernel) rfl trivial ?_
      refine r_callSI (As := [zI a1, zI 4]) (S := []) (Lc := [zI a1, zI 4]) (d' := 0) (n := 2) kX11_isIn vX11_isIn lkX11_62 (by decide +kernel) (by decide) rfl rfl (Nat.le_of_ble_eq_true rfl) rfl rfl (Nat.le_of_ble_eq_true rfl) (pX11_isIn  (fun c => ?_) (fun c => ?_))
      · replace h := h.1 c
        refine r_if_eq (off := 12) (tgt := 33) (by decide +kernel) (by decide) (fun c => ?_) (fun c => ?_)
        · exact absurd c (by decide)
        · refine r_blk [qO (.aload_n 0), qO (.iload_n 1), qO (.iload_n 2)] (pc' := 27) (L' := [zR 34 0, zI a0, zI a1]) (S' := [zI a1, zI a0, zR 34 0]) (σ' := σ) (Ps := []) (by decide +kernel) rfl trivial ?_
          refine r_callVI (As := [zI a0, zI a1]) (S := []) (Lc := [zR 34 0, zI a0, zI a1]) (d' := 0) (n := 2) (g := 34) (x := 0) (ci := 11) kX11_of vX11_of lkX11_113 (by decide +kernel) (by decide) rfl rfl (by decide) rfl rfl (Nat.le_of_ble_eq_true rfl) rfl rfl (Nat.le_of_ble_eq_true rfl) (pX11_of h.1 h.2.1 ?_)
          replace h := h.2.2
          refine r_blk [qO (.goto 9)] (pc' := 39) (L' := [zR 34 0, zI a0, zI a1]) (S' := [zI (se (σ 36 0) a0 a1)]) (σ' := σ) (Ps := []) (by decide +kernel) rfl trivial ?_
          exact r_ret (by decide +kernel) rfl (fun _ => h)
      · replace h := h.2 c
        refine r_if_eq (off := 12) (tgt := 33) (by decide +kernel) (by decide) (fun c => ?_) (fun c => ?_)
        · refine r_blk [qO (.aload_n 0), qO (.bipush (-2))] (pc' := 36) (L' := [zR 34 0, zI a0, zI a1]) (S' := [zI (-2), zR 34 0]) (σ' := σ) (Ps := []) (by decide +kernel) rfl trivial ?_
          refine r_callVI (As := [zI (-2)]) (S := []) (Lc := [zR 34 0, zI (-2)]) (d' := 0) (n := 1) (g := 34) (x := 0) (ci := 11) kX11_refuse vX11_refuse lkX11_66 (by decide +kernel) (by decide) rfl rfl (by decide) rfl rfl (Nat.le_of_ble_eq_true rfl) rfl rfl (Nat.le_of_ble_eq_true rfl) (pX11_refuse h.1 h.2.1 ?_)
          replace h := h.2.2
          generalize hσ1 : zup σ 35 0 (-(-2)).toNat (σ 35 0 (-(-2)).toNat + 1) = σ1
          replace h := h σ1 hσ1.symm
          exact r_ret (by decide +kernel) rfl (fun _ => h)
        · exact absurd c (by decide)
    · exact absurd c (by decide)
  · replace h := h.2 c
    refine r_if_ne (off := 11) (tgt := 16) (by decide +kernel) (by decide) (fun c => ?_) (fun c => ?_)
    · exact absurd c (by decide)
    · refine r_blk [qO (.aload_n 0), qO (.iconst (-1))] (pc' := 10) (L' := [zR 34 0, zI a0, zI a1]) (S' := [zI (-1), zR 34 0]) (σ' := σ) (Ps := []) (by decide +kernel) rfl trivial ?_
      refine r_callVI (As := [zI (-1)]) (S := []) (Lc := [zR 34 0, zI (-1)]) (d' := 0) (n := 1) (g := 34) (x := 0) (ci := 11) kX11_refuse vX11_refuse lkX11_66 (by decide +kernel) (by decide) rfl rfl (by decide) rfl rfl (Nat.le_of_ble_eq_true rfl) rfl rfl (Nat.le_of_ble_eq_true rfl) (pX11_refuse h.1 h.2.1 ?_)
      replace h := h.2.2
      generalize hσ2 : zup σ 35 0 (-(-1)).toNat (σ 35 0 (-(-1)).toNat + 1) = σ2
      replace h := h σ2 hσ2.symm
      refine r_blk [qO (.goto 26)] (pc' := 39) (L' := [zR 34 0, zI a0, zI a1]) (S' := [zI (-1)]) (σ' := σ2) (Ps := []) (by decide +kernel) rfl trivial ?_
      exact r_ret (by decide +kernel) rfl (fun _ => h)
theorem gX10_set_0 (a0 : Int) (a1 : Int) (σ : Hp) {Q : Option Int → Hp → Prop} (h : ((a0 < 0 → (-6 ≤ (-2) ∧ (-2) ≤ -1) ∧ (σ 33 0 (-(-2)).toNat ≤ 2147483646) ∧ ∀ σ1 : Hp, σ1 = zup σ 33 0 (-(-2)).toNat (σ 33 0 (-(-2)).toNat + 1) → Q (some (-2)) σ1) ∧ (¬ a0 < 0 → ((a0 ≤ 3 → (0 ≤ a0 ∧ a0 < 4) ∧ ((σ 61 0 a0.toNat ≤ a1 → (0 ≤ a0 ∧ a0 < 4) ∧ ((a1 ≤ σ 62 0 a0.toNat → (0 ≤ a0 ∧ a0 < 4) ∧ (0 ≤ a0 ∧ a0 < 4) ∧ Q (some (σ 11 0 a0.toNat)) (zup σ 11 0 a0.toNat a1)) ∧ (¬ a1 ≤ σ 62 0 a0.toNat → (-6 ≤ (-6) ∧ (-6) ≤ -1) ∧ (σ 33 0 (-(-6)).toNat ≤ 2147483646) ∧ ∀ σ2 : Hp, σ2 = zup σ 33 0 (-(-6)).toNat (σ 33 0 (-(-6)).toNat + 1) → Q (some (-6)) σ2))) ∧ (¬ σ 61 0 a0.toNat ≤ a1 → (-6 ≤ (-4) ∧ (-4) ≤ -1) ∧ (σ 33 0 (-(-4)).toNat ≤ 2147483646) ∧ ∀ σ3 : Hp, σ3 = zup σ 33 0 (-(-4)).toNat (σ 33 0 (-(-4)).toNat + 1) → Q (some (-4)) σ3))) ∧ (¬ a0 ≤ 3 → (-6 ≤ (-2) ∧ (-2) ≤ -1) ∧ (σ 33 0 (-(-2)).toNat ≤ 2147483646) ∧ ∀ σ4 : Hp, σ4 = zup σ 33 0 (-(-2)).toNat (σ 33 0 (-(-2)).toNat + 1) → Q (some (-2)) σ4))))) : Runs 1 mX10_set 0 [zR 0 0, zI a0, zI a1, zU] [] σ Q := by
  refine r_blk [qO (.iload_n 1)] (pc' := 1) (L' := [zR 0 0, zI a0, zI a1, zU]) (S' := [zI a0]) (σ' := σ) (Ps := []) (by decide +kernel) rfl trivial ?_
  refine r_if_lt (off := 8) (tgt := 9) (by decide +kernel) (by decide) (fun c => ?_) (fun c => ?_)
  · replace h := h.1 c
    refine r_blk [qO (.aload_n 0), qO (.bipush (-2))] (pc' := 12) (L' := [zR 0 0, zI a0, zI a1, zU]) (S' := [zI (-2), zR 0 0]) (σ' := σ) (Ps := []) (by decide +kernel) rfl trivial ?_
    refine r_callVI (As := [zI (-2)]) (S := []) (Lc := [zR 0 0, zI (-2)]) (d' := 0) (n := 1) (g := 0) (x := 0) (ci := 10) kX10_refuse vX10_refuse lkX10_98 (by decide +kernel) (by decide) rfl rfl (by decide) rfl rfl (Nat.le_of_ble_eq_true rfl) rfl rfl (Nat.le_of_ble_eq_true rfl) (pX10_refuse h.1 h.2.1 ?_)
    replace h := h.2.2
    generalize hσ1 : zup σ 33 0 (-(-2)).toNat (σ 33 0 (-(-2)).toNat + 1) = σ1
    replace h := h σ1 hσ1.symm
    exact r_ret (by decide +kernel) rfl (fun _ => h)
  · replace h := h.2 c
    refine r_blk [qO (.iload_n 1), qO (.iconst 3)] (pc' := 6) (L' := [zR 0 0, zI a0, zI a1, zU]) (S' := [zI 3, zI a0]) (σ' := σ) (Ps := []) (by decide +kernel) rfl trivial ?_
    refine r_icmp_le (off := 10) (tgt := 16) (by decide +kernel) (by decide) (fun c => ?_) (fun c => ?_)
    · replace h := h.1 c
      refine r_blk [qO (.iload_n 2), qF (.getstatic 155) 61 0, qO (.iload_n 1), qO .iaload] (pc' := 22) (L' := [zR 0 0, zI a0, zI a1, zU]) (S' := [zI (σ 61 0 a0.toNat), zI a1]) (σ' := σ) (Ps := [0 ≤ a0 ∧ a0 < 4]) (by decide +kernel) rfl ⟨h.1, trivial⟩ ?_
      replace h := h.2
      refine r_icmp_ge (off := 10) (tgt := 32) (by decide +kernel) (by decide) (fun c => ?_) (fun c => ?_)
      · replace h := h.1 c
        refine r_blk [qO (.iload_n 2), qF (.getstatic 158) 62 0, qO (.iload_n 1), qO .iaload] (pc' := 38) (L' := [zR 0 0, zI a0, zI a1, zU]) (S' := [zI (σ 62 0 a0.toNat), zI a1]) (σ' := σ) (Ps := [0 ≤ a0 ∧ a0 < 4]) (by decide +kernel) rfl ⟨h.1, trivial⟩ ?_
        replace h := h.2
        refine r_icmp_le (off := 10) (tgt := 48) (by decide +kernel) (by decide) (fun c => ?_) (fun c => ?_)
        · replace h := h.1 c
          refine r_blk [qO (.aload_n 0), qF (.getfield 10) 10 0, qF (.getfield 161) 6 16, qO (.iload_n 1), qO .iaload, qO (.istore_n 3), qO (.aload_n 0), qF (.getfield 10) 10 0, qF (.getfield 161) 6 16, qO (.iload_n 1), qO (.iload_n 2), qO .iastore, qO (.iload_n 3)] (pc' := 69) (L' := [zR 0 0, zI a0, zI a1, zI (σ 11 0 a0.toNat)]) (S' := [zI (σ 11 0 a0.toNat)]) (σ' := (zup σ 11 0 a0.toNat a1)) (Ps := [0 ≤ a0 ∧ a0 < 4, 0 ≤ a0 ∧ a0 < 4]) (by decide +kernel) rfl ⟨h.1, h.2.1, trivial⟩ ?_
          replace h := h.2.2
          exact r_ret (by decide +kernel) rfl (fun _ => h)
        · replace h := h.2 c
          refine r_blk [qO (.aload_n 0), qO (.bipush (-6))] (pc' := 44) (L' := [zR 0 0, zI a0, zI a1, zU]) (S' := [zI (-6), zR 0 0]) (σ' := σ) (Ps := []) (by decide +kernel) rfl trivial ?_
          refine r_callVI (As := [zI (-6)]) (S := []) (Lc := [zR 0 0, zI (-6)]) (d' := 0) (n := 1) (g := 0) (x := 0) (ci := 10) kX10_refuse vX10_refuse lkX10_98 (by decide +kernel) (by decide) rfl rfl (by decide) rfl rfl (Nat.le_of_ble_eq_true rfl) rfl rfl (Nat.le_of_ble_eq_true rfl) (pX10_refuse h.1 h.2.1 ?_)
          replace h := h.2.2
          generalize hσ2 : zup σ 33 0 (-(-6)).toNat (σ 33 0 (-(-6)).toNat + 1) = σ2
          replace h := h σ2 hσ2.symm
          exact r_ret (by decide +kernel) rfl (fun _ => h)
      · replace h := h.2 c
        refine r_blk [qO (.aload_n 0), qO (.bipush (-4))] (pc' := 28) (L' := [zR 0 0, zI a0, zI a1, zU]) (S' := [zI (-4), zR 0 0]) (σ' := σ) (Ps := []) (by decide +kernel) rfl trivial ?_
        refine r_callVI (As := [zI (-4)]) (S := []) (Lc := [zR 0 0, zI (-4)]) (d' := 0) (n := 1) (g := 0) (x := 0) (ci := 10) kX10_refuse vX10_refuse lkX10_98 (by decide +kernel) (by decide) rfl rfl (by decide) rfl rfl (Nat.le_of_ble_eq_true rfl) rfl rfl (Nat.le_of_ble_eq_true rfl) (pX10_refuse h.1 h.2.1 ?_)
        replace h := h.2.2
        generalize hσ3 : zup σ 33 0 (-(-4)).toNat (σ 33 0 (-(-4)).toNat + 1) = σ3
        replace h := h σ3 hσ3.symm
        exact r_ret (by decide +kernel) rfl (fun _ => h)
    · replace h := h.2 c
      refine r_blk [qO (.aload_n 0), qO (.bipush (-2))] (pc' := 12) (L' := [zR 0 0, zI a0, zI a1, zU]) (S' := [zI (-2), zR 0 0]) (σ' := σ) (Ps := []) (by decide +kernel) rfl trivial ?_
      refine r_callVI (As := [zI (-2)]) (S := []) (Lc := [zR 0 0, zI (-2)]) (d' := 0) (n := 1) (g := 0) (x := 0) (ci := 10) kX10_refuse vX10_refuse lkX10_98 (by decide +kernel) (by decide) rfl rfl (by decide) rfl rfl (Nat.le_of_ble_eq_true rfl) rfl rfl (Nat.le_of_ble_eq_true rfl) (pX10_refuse h.1 h.2.1 ?_)
      replace h := h.2.2
      generalize hσ4 : zup σ 33 0 (-(-2)).toNat (σ 33 0 (-(-2)).toNat + 1) = σ4
      replace h := h σ4 hσ4.symm
      exact r_ret (by decide +kernel) rfl (fun _ => h)
theorem gX11_set_0 (a0 : Int) (a1 : Int) (σ : Hp) {Q : Option Int → Hp → Prop} (h : ((0 ≤ a0 ∧ a0 < 4 → ((¬ a0 = 2 → ((zwithin a1 0 (zmost a0) = 0 → (-2147483648 ≤ 7 + a0 ∧ 7 + a0 ≤ 2147483647) ∧ (0 ≤ (7 + a0) ∧ (7 + a0) < 123) ∧ ∀ σ1 : Hp, σ1 = zup σ 36 0 ((7 + a0)).toNat a1 → Q (some (σ 36 0 ((7 + a0)).toNat)) σ1) ∧ (¬ zwithin a1 0 (zmost a0) = 0 → (-6 ≤ (zwithin a1 0 (zmost a0)) ∧ (zwithin a1 0 (zmost a0)) ≤ -1) ∧ (σ 35 0 (-(zwithin a1 0 (zmost a0))).toNat ≤ 2147483646) ∧ ∀ σ2 : Hp, σ2 = zup σ 35 0 (-(zwithin a1 0 (zmost a0))).toNat (σ 35 0 (-(zwithin a1 0 (zmost a0))).toNat + 1) → Q (some (zwithin a1 0 (zmost a0))) σ2))) ∧ (a0 = 2 → ((zwithin a1 10 (zmost a0) = 0 → (-2147483648 ≤ 7 + a0 ∧ 7 + a0 ≤ 2147483647) ∧ (0 ≤ (7 + a0) ∧ (7 + a0) < 123) ∧ ∀ σ3 : Hp, σ3 = zup σ 36 0 ((7 + a0)).toNat a1 → Q (some (σ 36 0 ((7 + a0)).toNat)) σ3) ∧ (¬ zwithin a1 10 (zmost a0) = 0 → (-6 ≤ (zwithin a1 10 (zmost a0)) ∧ (zwithin a1 10 (zmost a0)) ≤ -1) ∧ (σ 35 0 (-(zwithin a1 10 (zmost a0))).toNat ≤ 2147483646) ∧ ∀ σ4 : Hp, σ4 = zup σ 35 0 (-(zwithin a1 10 (zmost a0))).toNat (σ 35 0 (-(zwithin a1 10 (zmost a0))).toNat + 1) → Q (some (zwithin a1 10 (zmost a0))) σ4))))) ∧ (¬ (0 ≤ a0 ∧ a0 < 4) → (-6 ≤ (-2) ∧ (-2) ≤ -1) ∧ (σ 35 0 (-(-2)).toNat ≤ 2147483646) ∧ ∀ σ5 : Hp, σ5 = zup σ 35 0 (-(-2)).toNat (σ 35 0 (-(-2)).toNat + 1) → Q (some (-2)) σ5))) : Runs 1 mX11_set 0 [zR 34 0, zI a0, zI a1, zU] [] σ Q := by
  refine r_blk [qO (.iload_n 1), qO (.iconst 4)] (pc' := 2) (L' := [zR 34 0, zI a0, zI a1, zU]) (S' := [zI 4, zI a0]) (σ' := σ) (Ps := []) (by decide +kernel) rfl trivial ?_
  refine r_callSI (As := [zI a0, zI 4]) (S := []) (Lc := [zI a0, zI 4]) (d' := 0) (n := 2) kX11_isIn vX11_isIn lkX11_62 (by decide +kernel) (by decide) rfl rfl (Nat.le_of_ble_eq_true rfl) rfl rfl (Nat.le_of_ble_eq_true rfl) (pX11_isIn  (fun c => ?_) (fun c => ?_))
  · replace h := h.1 c
    refine r_if_ne (off := 10) (tgt := 15) (by decide +kernel) (by decide) (fun c => ?_) (fun c => ?_)
    · refine r_blk [qO (.iload_n 2), qO (.iload_n 1), qO (.iconst 2)] (pc' := 18) (L' := [zR 34 0, zI a0, zI a1, zU]) (S' := [zI 2, zI a0, zI a1]) (σ' := σ) (Ps := []) (by decide +kernel) rfl trivial ?_
      refine r_icmp_ne (off := 8) (tgt := 26) (by decide +kernel) (by decide) (fun c => ?_) (fun c => ?_)
      · replace h := h.1 c
        refine r_blk [qO (.iconst 0), qO (.iload_n 1)] (pc' := 28) (L' := [zR 34 0, zI a0, zI a1, zU]) (S' := [zI a0, zI 0, zI a1]) (σ' := σ) (Ps := []) (by decide +kernel) rfl trivial ?_
        refine r_callSI (As := [zI a0]) (S := [zI 0, zI a1]) (Lc := [zI a0]) (d' := 0) (n := 1) kX11_most vX11_most lkX11_116 (by decide +kernel) (by decide) rfl rfl (Nat.le_of_ble_eq_true rfl) rfl rfl (Nat.le_of_ble_eq_true rfl) (pX11_most  ?_)
        refine r_callSI (As := [zI a1, zI 0, zI (zmost a0)]) (S := []) (Lc := [zI a1, zI 0, zI (zmost a0)]) (d' := 0) (n := 3) kX11_within vX11_within lkX11_119 (by decide +kernel) (by decide) rfl rfl (Nat.le_of_ble_eq_true rfl) rfl rfl (Nat.le_of_ble_eq_true rfl) (pX11_within  ?_)
        refine r_blk [qO (.istore_n 3), qO (.iload_n 3)] (pc' := 36) (L' := [zR 34 0, zI a0, zI a1, zI (zwithin a1 0 (zmost a0))]) (S' := [zI (zwithin a1 0 (zmost a0))]) (σ' := σ) (Ps := []) (by decide +kernel) rfl trivial ?_
        refine r_if_eq (off := 11) (tgt := 47) (by decide +kernel) (by decide) (fun c => ?_) (fun c => ?_)
        · replace h := h.1 c
          refine r_blk [qO (.aload_n 0), qO (.bipush 7), qO (.iload_n 1), qO .iadd, qO (.iload_n 2)] (pc' := 53) (L' := [zR 34 0, zI a0, zI a1, zI (zwithin a1 0 (zmost a0))]) (S' := [zI a1, zI (7 + a0), zR 34 0]) (σ' := σ) (Ps := [-2147483648 ≤ 7 + a0 ∧ 7 + a0 ≤ 2147483647]) (by decide +kernel) rfl ⟨h.1, trivial⟩ ?_
          replace h := h.2
          refine r_callVI (As := [zI (7 + a0), zI a1]) (S := []) (Lc := [zR 34 0, zI (7 + a0), zI a1, zU]) (d' := 0) (n := 2) (g := 34) (x := 0) (ci := 11) kX11_becomes vX11_becomes lkX11_123 (by decide +kernel) (by decide) rfl rfl (by decide) rfl rfl (Nat.le_of_ble_eq_true rfl) rfl rfl (Nat.le_of_ble_eq_true rfl) (pX11_becomes h.1 ?_)
          replace h := h.2
          generalize hσ1 : zup σ 36 0 ((7 + a0)).toNat a1 = σ1
          replace h := h σ1 hσ1.symm
          exact r_ret (by decide +kernel) rfl (fun _ => h)
        · replace h := h.2 c
          refine r_blk [qO (.aload_n 0), qO (.iload_n 3)] (pc' := 41) (L' := [zR 34 0, zI a0, zI a1, zI (zwithin a1 0 (zmost a0))]) (S' := [zI (zwithin a1 0 (zmost a0)), zR 34 0]) (σ' := σ) (Ps := []) (by decide +kernel) rfl trivial ?_
          refine r_callVI (As := [zI (zwithin a1 0 (zmost a0))]) (S := []) (Lc := [zR 34 0, zI (zwithin a1 0 (zmost a0))]) (d' := 0) (n := 1) (g := 34) (x := 0) (ci := 11) kX11_refuse vX11_refuse lkX11_66 (by decide +kernel) (by decide) rfl rfl (by decide) rfl rfl (Nat.le_of_ble_eq_true rfl) rfl rfl (Nat.le_of_ble_eq_true rfl) (pX11_refuse h.1 h.2.1 ?_)
          replace h := h.2.2
          generalize hσ2 : zup σ 35 0 (-(zwithin a1 0 (zmost a0))).toNat (σ 35 0 (-(zwithin a1 0 (zmost a0))).toNat + 1) = σ2
          replace h := h σ2 hσ2.symm
          refine r_blk [qO (.goto 12)] (pc' := 56) (L' := [zR 34 0, zI a0, zI a1, zI (zwithin a1 0 (zmost a0))]) (S' := [zI (zwithin a1 0 (zmost a0))]) (σ' := σ2) (Ps := []) (by decide +kernel) rfl trivial ?_
          exact r_ret (by decide +kernel) rfl (fun _ => h)
      · replace h := h.2 c
        refine r_blk [qO (.bipush 10), qO (.goto 4), qO (.iload_n 1)] (pc' := 28) (L' := [zR 34 0, zI a0, zI a1, zU]) (S' := [zI a0, zI 10, zI a1]) (σ' := σ) (Ps := []) (by decide +kernel) rfl trivial ?_
        refine r_callSI (As := [zI a0]) (S := [zI 10, zI a1]) (Lc := [zI a0]) (d' := 0) (n := 1) kX11_most vX11_most lkX11_116 (by decide +kernel) (by decide) rfl rfl (Nat.le_of_ble_eq_true rfl) rfl rfl (Nat.le_of_ble_eq_true rfl) (pX11_most  ?_)
        refine r_callSI (As := [zI a1, zI 10, zI (zmost a0)]) (S := []) (Lc := [zI a1, zI 10, zI (zmost a0)]) (d' := 0) (n := 3) kX11_within vX11_within lkX11_119 (by decide +kernel) (by decide) rfl rfl (Nat.le_of_ble_eq_true rfl) rfl rfl (Nat.le_of_ble_eq_true rfl) (pX11_within  ?_)
        refine r_blk [qO (.istore_n 3), qO (.iload_n 3)] (pc' := 36) (L' := [zR 34 0, zI a0, zI a1, zI (zwithin a1 10 (zmost a0))]) (S' := [zI (zwithin a1 10 (zmost a0))]) (σ' := σ) (Ps := []) (by decide +kernel) rfl trivial ?_
        refine r_if_eq (off := 11) (tgt := 47) (by decide +kernel) (by decide) (fun c => ?_) (fun c => ?_)
        · replace h := h.1 c
          refine r_blk [qO (.aload_n 0), qO (.bipush 7), qO (.iload_n 1), qO .iadd, qO (.iload_n 2)] (pc' := 53) (L' := [zR 34 0, zI a0, zI a1, zI (zwithin a1 10 (zmost a0))]) (S' := [zI a1, zI (7 + a0), zR 34 0]) (σ' := σ) (Ps := [-2147483648 ≤ 7 + a0 ∧ 7 + a0 ≤ 2147483647]) (by decide +kernel) rfl ⟨h.1, trivial⟩ ?_
          replace h := h.2
          refine r_callVI (As := [zI (7 + a0), zI a1]) (S := []) (Lc := [zR 34 0, zI (7 + a0), zI a1, zU]) (d' := 0) (n := 2) (g := 34) (x := 0) (ci := 11) kX11_becomes vX11_becomes lkX11_123 (by decide +kernel) (by decide) rfl rfl (by decide) rfl rfl (Nat.le_of_ble_eq_true rfl) rfl rfl (Nat.le_of_ble_eq_true rfl) (pX11_becomes h.1 ?_)
          replace h := h.2
          generalize hσ3 : zup σ 36 0 ((7 + a0)).toNat a1 = σ3
          replace h := h σ3 hσ3.symm
          exact r_ret (by decide +kernel) rfl (fun _ => h)
        · replace h := h.2 c
          refine r_blk [qO (.aload_n 0), qO (.iload_n 3)] (pc' := 41) (L' := [zR 34 0, zI a0, zI a1, zI (zwithin a1 10 (zmost a0))]) (S' := [zI (zwithin a1 10 (zmost a0)), zR 34 0]) (σ' := σ) (Ps := []) (by decide +kernel) rfl trivial ?_
          refine r_callVI (As := [zI (zwithin a1 10 (zmost a0))]) (S := []) (Lc := [zR 34 0, zI (zwithin a1 10 (zmost a0))]) (d' := 0) (n := 1) (g := 34) (x := 0) (ci := 11) kX11_refuse vX11_refuse lkX11_66 (by decide +kernel) (by decide) rfl rfl (by decide) rfl rfl (Nat.le_of_ble_eq_true rfl) rfl rfl (Nat.le_of_ble_eq_true rfl) (pX11_refuse h.1 h.2.1 ?_)
          replace h := h.2.2
          generalize hσ4 : zup σ 35 0 (-(zwithin a1 10 (zmost a0))).toNat (σ 35 0 (-(zwithin a1 10 (zmost a0))).toNat + 1) = σ4
          replace h := h σ4 hσ4.symm
          refine r_blk [qO (.goto 12)] (pc' := 56) (L' := [zR 34 0, zI a0, zI a1, zI (zwithin a1 10 (zmost a0))]) (S' := [zI (zwithin a1 10 (zmost a0))]) (σ' := σ4) (Ps := []) (by decide +kernel) rfl trivial ?_
          exact r_ret (by decide +kernel) rfl (fun _ => h)
    · exact absurd c (by decide)
  · replace h := h.2 c
    refine r_if_ne (off := 10) (tgt := 15) (by decide +kernel) (by decide) (fun c => ?_) (fun c => ?_)
    · exact absurd c (by decide)
    · refine r_blk [qO (.aload_n 0), qO (.bipush (-2))] (pc' := 11) (L' := [zR 34 0, zI a0, zI a1, zU]) (S' := [zI (-2), zR 34 0]) (σ' := σ) (Ps := []) (by decide +kernel) rfl trivial ?_
      refine r_callVI (As := [zI (-2)]) (S := []) (Lc := [zR 34 0, zI (-2)]) (d' := 0) (n := 1) (g := 34) (x := 0) (ci := 11) kX11_refuse vX11_refuse lkX11_66 (by decide +kernel) (by decide) rfl rfl (by decide) rfl rfl (Nat.le_of_ble_eq_true rfl) rfl rfl (Nat.le_of_ble_eq_true rfl) (pX11_refuse h.1 h.2.1 ?_)
      replace h := h.2.2
      generalize hσ5 : zup σ 35 0 (-(-2)).toNat (σ 35 0 (-(-2)).toNat + 1) = σ5
      replace h := h σ5 hσ5.symm
      exact r_ret (by decide +kernel) rfl (fun _ => h)
theorem gX10_point_0 (a0 : Int) (σ : Hp) {Q : Option Int → Hp → Prop} (h : ((a0 < 0 → (-6 ≤ (-1) ∧ (-1) ≤ -1) ∧ (σ 33 0 (-(-1)).toNat ≤ 2147483646) ∧ ∀ σ1 : Hp, σ1 = zup σ 33 0 (-(-1)).toNat (σ 33 0 (-(-1)).toNat + 1) → Q (some (-1)) σ1) ∧ (¬ a0 < 0 → ((a0 < zshl 1 (σ 1 0 1) → Q (some (σ 1 0 6)) (zup σ 1 0 6 a0)) ∧ (¬ a0 < zshl 1 (σ 1 0 1) → (-6 ≤ (-1) ∧ (-1) ≤ -1) ∧ (σ 33 0 (-(-1)).toNat ≤ 2147483646) ∧ ∀ σ2 : Hp, σ2 = zup σ 33 0 (-(-1)).toNat (σ 33 0 (-(-1)).toNat + 1) → Q (some (-1)) σ2))))) : Runs 1 mX10_point 0 [zR 0 0, zI a0, zU] [] σ Q := by
  refine r_blk [qO (.iload_n 1)] (pc' := 1) (L' := [zR 0 0, zI a0, zU]) (S' := [zI a0]) (σ' := σ) (Ps := []) (by decide +kernel) rfl trivial ?_
  refine r_if_lt (off := 16) (tgt := 17) (by decide +kernel) (by decide) (fun c => ?_) (fun c => ?_)
  · replace h := h.1 c
    refine r_blk [qO (.aload_n 0), qO (.iconst (-1))] (pc' := 19) (L' := [zR 0 0, zI a0, zU]) (S' := [zI (-1), zR 0 0]) (σ' := σ) (Ps := []) (by decide +kernel) rfl trivial ?_
    refine r_callVI (As := [zI (-1)]) (S := []) (Lc := [zR 0 0, zI (-1)]) (d' := 0) (n := 1) (g := 0) (x := 0) (ci := 10) kX10_refuse vX10_refuse lkX10_98 (by decide +kernel) (by decide) rfl rfl (by decide) rfl rfl (Nat.le_of_ble_eq_true rfl) rfl rfl (Nat.le_of_ble_eq_true rfl) (pX10_refuse h.1 h.2.1 ?_)
    replace h := h.2.2
    generalize hσ1 : zup σ 33 0 (-(-1)).toNat (σ 33 0 (-(-1)).toNat + 1) = σ1
    replace h := h σ1 hσ1.symm
    exact r_ret (by decide +kernel) rfl (fun _ => h)
  · replace h := h.2 c
    refine r_blk [qO (.iload_n 1), qO (.iconst 1), qO (.aload_n 0), qF (.getfield 10) 10 0, qF (.getfield 164) 6 1, qO .ishl] (pc' := 14) (L' := [zR 0 0, zI a0, zU]) (S' := [zI (zshl 1 (σ 1 0 1)), zI a0]) (σ' := σ) (Ps := []) (by decide +kernel) rfl trivial ?_
    refine r_icmp_lt (off := 9) (tgt := 23) (by decide +kernel) (by decide) (fun c => ?_) (fun c => ?_)
    · replace h := h.1 c
      refine r_blk [qO (.aload_n 0), qF (.getfield 10) 10 0, qF (.getfield 167) 6 6, qO (.istore_n 2), qO (.aload_n 0), qF (.getfield 10) 10 0, qO (.iload_n 1), qF (.putfield 167) 6 6, qO (.iload_n 2)] (pc' := 40) (L' := [zR 0 0, zI a0, zI (σ 1 0 6)]) (S' := [zI (σ 1 0 6)]) (σ' := (zup σ 1 0 6 a0)) (Ps := []) (by decide +kernel) rfl trivial ?_
      exact r_ret (by decide +kernel) rfl (fun _ => h)
    · replace h := h.2 c
      refine r_blk [qO (.aload_n 0), qO (.iconst (-1))] (pc' := 19) (L' := [zR 0 0, zI a0, zU]) (S' := [zI (-1), zR 0 0]) (σ' := σ) (Ps := []) (by decide +kernel) rfl trivial ?_
      refine r_callVI (As := [zI (-1)]) (S := []) (Lc := [zR 0 0, zI (-1)]) (d' := 0) (n := 1) (g := 0) (x := 0) (ci := 10) kX10_refuse vX10_refuse lkX10_98 (by decide +kernel) (by decide) rfl rfl (by decide) rfl rfl (Nat.le_of_ble_eq_true rfl) rfl rfl (Nat.le_of_ble_eq_true rfl) (pX10_refuse h.1 h.2.1 ?_)
      replace h := h.2.2
      generalize hσ2 : zup σ 33 0 (-(-1)).toNat (σ 33 0 (-(-1)).toNat + 1) = σ2
      replace h := h σ2 hσ2.symm
      exact r_ret (by decide +kernel) rfl (fun _ => h)
theorem gX11_point_0 (a0 : Int) (σ : Hp) {Q : Option Int → Hp → Prop} (h : ((0 ≤ a0 ∧ a0 < (zshl 1 (σ 36 0 1)) → ∀ σ1 : Hp, σ1 = zup σ 36 0 (3 : Int).toNat a0 → Q (some (σ 36 0 (3 : Int).toNat)) σ1) ∧ (¬ (0 ≤ a0 ∧ a0 < (zshl 1 (σ 36 0 1))) → (-6 ≤ (-1) ∧ (-1) ≤ -1) ∧ (σ 35 0 (-(-1)).toNat ≤ 2147483646) ∧ ∀ σ2 : Hp, σ2 = zup σ 35 0 (-(-1)).toNat (σ 35 0 (-(-1)).toNat + 1) → Q (some (-1)) σ2))) : Runs 1 mX11_point 0 [zR 34 0, zI a0] [] σ Q := by
  refine r_blk [qO (.iload_n 1), qO (.iconst 1), qO (.aload_n 0), qF (.getfield 13) 11 1, qO (.iconst 1), qO .iaload, qO .ishl] (pc' := 9) (L' := [zR 34 0, zI a0]) (S' := [zI (zshl 1 (σ 36 0 1)), zI a0]) (σ' := σ) (Ps := [0 ≤ 1 ∧ 1 < 123]) (by decide +kernel) rfl ⟨(by decide), trivial⟩ ?_
  refine r_callSI (As := [zI a0, zI (zshl 1 (σ 36 0 1))]) (S := []) (Lc := [zI a0, zI (zshl 1 (σ 36 0 1))]) (d' := 0) (n := 2) kX11_isIn vX11_isIn lkX11_62 (by decide +kernel) (by decide) rfl rfl (Nat.le_of_ble_eq_true rfl) rfl rfl (Nat.le_of_ble_eq_true rfl) (pX11_isIn  (fun c => ?_) (fun c => ?_))
  · replace h := h.1 c
    refine r_if_eq (off := 12) (tgt := 24) (by decide +kernel) (by decide) (fun c => ?_) (fun c => ?_)
    · exact absurd c (by decide)
    · refine r_blk [qO (.aload_n 0), qO (.iconst 3), qO (.iload_n 1)] (pc' := 18) (L' := [zR 34 0, zI a0]) (S' := [zI a0, zI 3, zR 34 0]) (σ' := σ) (Ps := []) (by decide +kernel) rfl trivial ?_
      refine r_callVI (As := [zI 3, zI a0]) (S := []) (Lc := [zR 34 0, zI 3, zI a0, zU]) (d' := 0) (n := 2) (g := 34) (x := 0) (ci := 11) kX11_becomes vX11_becomes lkX11_123 (by decide +kernel) (by decide) rfl rfl (by decide) rfl rfl (Nat.le_of_ble_eq_true rfl) rfl rfl (Nat.le_of_ble_eq_true rfl) (pX11_becomes (by decide) ?_)
      generalize hσ1 : zup σ 36 0 (3 : Int).toNat a0 = σ1
      replace h := h σ1 hσ1.symm
      refine r_blk [qO (.goto 8)] (pc' := 29) (L' := [zR 34 0, zI a0]) (S' := [zI (σ 36 0 (3 : Int).toNat)]) (σ' := σ1) (Ps := []) (by decide +kernel) rfl trivial ?_
      exact r_ret (by decide +kernel) rfl (fun _ => h)
  · replace h := h.2 c
    refine r_if_eq (off := 12) (tgt := 24) (by decide +kernel) (by decide) (fun c => ?_) (fun c => ?_)
    · refine r_blk [qO (.aload_n 0), qO (.iconst (-1))] (pc' := 26) (L' := [zR 34 0, zI a0]) (S' := [zI (-1), zR 34 0]) (σ' := σ) (Ps := []) (by decide +kernel) rfl trivial ?_
      refine r_callVI (As := [zI (-1)]) (S := []) (Lc := [zR 34 0, zI (-1)]) (d' := 0) (n := 1) (g := 34) (x := 0) (ci := 11) kX11_refuse vX11_refuse lkX11_66 (by decide +kernel) (by decide) rfl rfl (by decide) rfl rfl (Nat.le_of_ble_eq_true rfl) rfl rfl (Nat.le_of_ble_eq_true rfl) (pX11_refuse h.1 h.2.1 ?_)
      replace h := h.2.2
      generalize hσ2 : zup σ 35 0 (-(-1)).toNat (σ 35 0 (-(-1)).toNat + 1) = σ2
      replace h := h σ2 hσ2.symm
      exact r_ret (by decide +kernel) rfl (fun _ => h)
    · exact absurd c (by decide)
theorem gX10_shut_0 (a0 : Int) (a1 : Int) (σ : Hp) {Q : Option Int → Hp → Prop} (h : ((0 ≤ a0 ∧ a0 < σ 1 0 1 → ((¬ bitz (σ 1 0 5) a0 = 1 → ((¬ 0 = a1 → ((¬ 0 = a1 → Q (some 1) (zup σ 1 0 5 (zxor (σ 1 0 5) (zshl 1 a0)))) ∧ (0 = a1 → Q (some 0) (zup σ 1 0 5 (zxor (σ 1 0 5) (zshl 1 a0)))))) ∧ (0 = a1 → ((¬ 0 = a1 → Q (some 1) (zup σ 1 0 5 (zxor (σ 1 0 5) 0))) ∧ (0 = a1 → Q (some 0) (zup σ 1 0 5 (zxor (σ 1 0 5) 0))))))) ∧ (bitz (σ 1 0 5) a0 = 1 → ((¬ 1 = a1 → ((¬ 1 = a1 → Q (some 1) (zup σ 1 0 5 (zxor (σ 1 0 5) (zshl 1 a0)))) ∧ (1 = a1 → Q (some 0) (zup σ 1 0 5 (zxor (σ 1 0 5) (zshl 1 a0)))))) ∧ (1 = a1 → ((¬ 1 = a1 → Q (some 1) (zup σ 1 0 5 (zxor (σ 1 0 5) 0))) ∧ (1 = a1 → Q (some 0) (zup σ 1 0 5 (zxor (σ 1 0 5) 0))))))))) ∧ (¬ (0 ≤ a0 ∧ a0 < σ 1 0 1) → (-6 ≤ (-1) ∧ (-1) ≤ -1) ∧ (σ 33 0 (-(-1)).toNat ≤ 2147483646) ∧ ∀ σ1 : Hp, σ1 = zup σ 33 0 (-(-1)).toNat (σ 33 0 (-(-1)).toNat + 1) → Q (some (-1)) σ1))) : Runs 1 mX10_shut 0 [zR 0 0, zI a0, zI a1, zU] [] σ Q := by
  refine r_blk [qO (.aload_n 0), qF (.getfield 10) 10 0, qO (.iload_n 1)] (pc' := 5) (L' := [zR 0 0, zI a0, zI a1, zU]) (S' := [zI a0, zR 1 0]) (σ' := σ) (Ps := []) (by decide +kernel) rfl trivial ?_
  refine r_callVI (As := [zI a0]) (S := []) (Lc := [zR 1 0, zI a0]) (d' := 0) (n := 1) (g := 1) (x := 0) (ci := 6) kX6_hasStreet vX6_hasStreet lkX10_114 (by decide +kernel) (by decide) rfl rfl (by decide) rfl rfl (Nat.le_of_ble_eq_true rfl) rfl rfl (Nat.le_of_ble_eq_true rfl) (pX6_hasStreet  (fun c => ?_) (fun c => ?_))
  · replace h := h.1 c
    refine r_if_ne (off := 9) (tgt := 17) (by decide +kernel) (by decide) (fun c => ?_) (fun c => ?_)
    · refine r_blk [qO (.aload_n 0), qF (.getfield 10) 10 0, qF (.getfield 137) 6 5, qO (.iload_n 1)] (pc' := 25) (L' := [zR 0 0, zI a0, zI a1, zU]) (S' := [zI a0, zI (σ 1 0 5)]) (σ' := σ) (Ps := []) (by decide +kernel) rfl trivial ?_
      refine r_callSI (As := [zI (σ 1 0 5), zI a0]) (S := []) (Lc := [zI (σ 1 0 5), zI a0]) (d' := 0) (n := 2) kX10_bitOf vX10_bitOf lkX10_130 (by decide +kernel) (by decide) rfl rfl (Nat.le_of_ble_eq_true rfl) rfl rfl (Nat.le_of_ble_eq_true rfl) (pX10_bitOf  ?_)
      refine r_blk [qO (.iconst 1)] (pc' := 29) (L' := [zR 0 0, zI a0, zI a1, zU]) (S' := [zI 1, zI (bitz (σ 1 0 5) a0)]) (σ' := σ) (Ps := []) (by decide +kernel) rfl trivial ?_
      refine r_icmp_ne (off := 7) (tgt := 36) (by decide +kernel) (by decide) (fun c => ?_) (fun c => ?_)
      · replace h := h.1 c
        refine r_blk [qO (.iconst 0), qO (.istore_n 3), qO (.aload_n 0), qF (.getfield 10) 10 0, qO .dup, qF (.getfield 137) 6 5, qO (.iload_n 3), qO (.iload_n 2)] (pc' := 48) (L' := [zR 0 0, zI a0, zI a1, zI 0]) (S' := [zI a1, zI 0, zI (σ 1 0 5), zR 1 0]) (σ' := σ) (Ps := []) (by decide +kernel) rfl trivial ?_
        refine r_icmp_ne (off := 7) (tgt := 55) (by decide +kernel) (by decide) (fun c => ?_) (fun c => ?_)
        · replace h := h.1 c
          refine r_blk [qO (.iconst 1), qO (.iload_n 1), qO .ishl, qO .ixor, qF (.putfield 137) 6 5, qO (.iload_n 3), qO (.iload_n 2)] (pc' := 64) (L' := [zR 0 0, zI a0, zI a1, zI 0]) (S' := [zI a1, zI 0]) (σ' := (zup σ 1 0 5 (zxor (σ 1 0 5) (zshl 1 a0)))) (Ps := []) (by decide +kernel) rfl trivial ?_
          refine r_icmp_ne (off := 7) (tgt := 71) (by decide +kernel) (by decide) (fun c => ?_) (fun c => ?_)
          · replace h := h.1 c
            refine r_blk [qO (.iconst 1)] (pc' := 72) (L' := [zR 0 0, zI a0, zI a1, zI 0]) (S' := [zI 1]) (σ' := (zup σ 1 0 5 (zxor (σ 1 0 5) (zshl 1 a0)))) (Ps := []) (by decide +kernel) rfl trivial ?_
            exact r_ret (by decide +kernel) rfl (fun _ => h)
          · replace h := h.2 c
            refine r_blk [qO (.iconst 0), qO (.goto 4)] (pc' := 72) (L' := [zR 0 0, zI a0, zI a1, zI 0]) (S' := [zI 0]) (σ' := (zup σ 1 0 5 (zxor (σ 1 0 5) (zshl 1 a0)))) (Ps := []) (by decide +kernel) rfl trivial ?_
            exact r_ret (by decide +kernel) rfl (fun _ => h)
        · replace h := h.2 c
          refine r_blk [qO (.iconst 0), qO (.goto 6), qO .ixor, qF (.putfield 137) 6 5, qO (.iload_n 3), qO (.iload_n 2)] (pc' := 64) (L' := [zR 0 0, zI a0, zI a1, zI 0]) (S' := [zI a1, zI 0]) (σ' := (zup σ 1 0 5 (zxor (σ 1 0 5) 0))) (Ps := []) (by decide +kernel) rfl trivial ?_
          refine r_icmp_ne (off := 7) (tgt := 71) (by decide +kernel) (by decide) (fun c => ?_) (fun c => ?_)
          · replace h := h.1 c
            refine r_blk [qO (.iconst 1)] (pc' := 72) (L' := [zR 0 0, zI a0, zI a1, zI 0]) (S' := [zI 1]) (σ' := (zup σ 1 0 5 (zxor (σ 1 0 5) 0))) (Ps := []) (by decide +kernel) rfl trivial ?_
            exact r_ret (by decide +kernel) rfl (fun _ => h)
          · replace h := h.2 c
            refine r_blk [qO (.iconst 0), qO (.goto 4)] (pc' := 72) (L' := [zR 0 0, zI a0, zI a1, zI 0]) (S' := [zI 0]) (σ' := (zup σ 1 0 5 (zxor (σ 1 0 5) 0))) (Ps := []) (by decide +kernel) rfl trivial ?_
            exact r_ret (by decide +kernel) rfl (fun _ => h)
      · replace h := h.2 c
        refine r_blk [qO (.iconst 1), qO (.goto 4), qO (.istore_n 3), qO (.aload_n 0), qF (.getfield 10) 10 0, qO .dup, qF (.getfield 137) 6 5, qO (.iload_n 3), qO (.iload_n 2)] (pc' := 48) (L' := [zR 0 0, zI a0, zI a1, zI 1]) (S' := [zI a1, zI 1, zI (σ 1 0 5), zR 1 0]) (σ' := σ) (Ps := []) (by decide +kernel) rfl trivial ?_
        refine r_icmp_ne (off := 7) (tgt := 55) (by decide +kernel) (by decide) (fun c => ?_) (fun c => ?_)
        · replace h := h.1 c
          refine r_blk [qO (.iconst 1), qO (.iload_n 1), qO .ishl, qO .ixor, qF (.putfield 137) 6 5, qO (.iload_n 3), qO (.iload_n 2)] (pc' := 64) (L' := [zR 0 0, zI a0, zI a1, zI 1]) (S' := [zI a1, zI 1]) (σ' := (zup σ 1 0 5 (zxor (σ 1 0 5) (zshl 1 a0)))) (Ps := []) (by decide +kernel) rfl trivial ?_
          refine r_icmp_ne (off := 7) (tgt := 71) (by decide +kernel) (by decide) (fun c => ?_) (fun c => ?_)
          · replace h := h.1 c
            refine r_blk [qO (.iconst 1)] (pc' := 72) (L' := [zR 0 0, zI a0, zI a1, zI 1]) (S' := [zI 1]) (σ' := (zup σ 1 0 5 (zxor (σ 1 0 5) (zshl 1 a0)))) (Ps := []) (by decide +kernel) rfl trivial ?_
            exact r_ret (by decide +kernel) rfl (fun _ => h)
          · replace h := h.2 c
            refine r_blk [qO (.iconst 0), qO (.goto 4)] (pc' := 72) (L' := [zR 0 0, zI a0, zI a1, zI 1]) (S' := [zI 0]) (σ' := (zup σ 1 0 5 (zxor (σ 1 0 5) (zshl 1 a0)))) (Ps := []) (by decide +kernel) rfl trivial ?_
            exact r_ret (by decide +kernel) rfl (fun _ => h)
        · replace h := h.2 c
          refine r_blk [qO (.iconst 0), qO (.goto 6), qO .ixor, qF (.putfield 137) 6 5, qO (.iload_n 3), qO (.iload_n 2)] (pc' := 64) (L' := [zR 0 0, zI a0, zI a1, zI 1]) (S' := [zI a1, zI 1]) (σ' := (zup σ 1 0 5 (zxor (σ 1 0 5) 0))) (Ps := []) (by decide +kernel) rfl trivial ?_
          refine r_icmp_ne (off := 7) (tgt := 71) (by decide +kernel) (by decide) (fun c => ?_) (fun c => ?_)
          · replace h := h.1 c
            refine r_blk [qO (.iconst 1)] (pc' := 72) (L' := [zR 0 0, zI a0, zI a1, zI 1]) (S' := [zI 1]) (σ' := (zup σ 1 0 5 (zxor (σ 1 0 5) 0))) (Ps := []) (by decide +kernel) rfl trivial ?_
            exact r_ret (by decide +kernel) rfl (fun _ => h)
          · replace h := h.2 c
            refine r_blk [qO (.iconst 0), qO (.goto 4)] (pc' := 72) (L' := [zR 0 0, zI a0, zI a1, zI 1]) (S' := [zI 0]) (σ' := (zup σ 1 0 5 (zxor (σ 1 0 5) 0))) (Ps := []) (by decide +kernel) rfl trivial ?_
            exact r_ret (by decide +kernel) rfl (fun _ => h)
    · exact absurd c (by decide)
  · replace h := h.2 c
    refine r_if_ne (off := 9) (tgt := 17) (by decide +kernel) (by decide) (fun c => ?_) (fun c => ?_)
    · exact absurd c (by decide)
    · refine r_blk [qO (.aload_n 0), qO (.iconst (-1))] (pc' := 13) (L' := [zR 0 0, zI a0, zI a1, zU]) (S' := [zI (-1), zR 0 0]) (σ' := σ) (Ps := []) (by decide +kernel) rfl trivial ?_
      refine r_callVI (As := [zI (-1)]) (S := []) (Lc := [zR 0 0, zI (-1)]) (d' := 0) (n := 1) (g := 0) (x := 0) (ci := 10) kX10_refuse vX10_refuse lkX10_98 (by decide +kernel) (by decide) rfl rfl (by decide) rfl rfl (Nat.le_of_ble_eq_true rfl) rfl rfl (Nat.le_of_ble_eq_true rfl) (pX10_refuse h.1 h.2.1 ?_)
      replace h := h.2.2
      generalize hσ1 : zup σ 33 0 (-(-1)).toNat (σ 33 0 (-(-1)).toNat + 1) = σ1
      replace h := h σ1 hσ1.symm
      exact r_ret (by decide +kernel) rfl (fun _ => h)
theorem gX11_shut_0 (a0 : Int) (a1 : Int) (σ : Hp) {Q : Option Int → Hp → Prop} (h : ((0 ≤ a0 ∧ a0 < σ 36 0 1 → ((¬ bitz (σ 36 0 4) a0 = 1 → ((0 = a1 → ((¬ 0 = a1 → Q (some 1) σ) ∧ (0 = a1 → Q (some 0) σ))) ∧ (¬ 0 = a1 → ((¬ 0 = a1 → Q (some 1) (zup σ 36 0 4 (zxor (σ 36 0 4) (zshl 1 a0)))) ∧ (0 = a1 → Q (some 0) (zup σ 36 0 4 (zxor (σ 36 0 4) (zshl 1 a0)))))))) ∧ (bitz (σ 36 0 4) a0 = 1 → ((1 = a1 → ((¬ 1 = a1 → Q (some 1) σ) ∧ (1 = a1 → Q (some 0) σ))) ∧ (¬ 1 = a1 → ((¬ 1 = a1 → Q (some 1) (zup σ 36 0 4 (zxor (σ 36 0 4) (zshl 1 a0)))) ∧ (1 = a1 → Q (some 0) (zup σ 36 0 4 (zxor (σ 36 0 4) (zshl 1 a0)))))))))) ∧ (¬ (0 ≤ a0 ∧ a0 < σ 36 0 1) → (-6 ≤ (-1) ∧ (-1) ≤ -1) ∧ (σ 35 0 (-(-1)).toNat ≤ 2147483646) ∧ ∀ σ1 : Hp, σ1 = zup σ 35 0 (-(-1)).toNat (σ 35 0 (-(-1)).toNat + 1) → Q (some (-1)) σ1))) : Runs 2 mX11_shut 0 [zR 34 0, zI a0, zI a1, zU] [] σ Q := by
  refine r_blk [qO (.aload_n 0), qO (.iload_n 1)] (pc' := 2) (L' := [zR 34 0, zI a0, zI a1, zU]) (S' := [zI a0, zR 34 0]) (σ' := σ) (Ps := []) (by decide +kernel) rfl trivial ?_
  refine r_callVI (As := [zI a0]) (S := []) (Lc := [zR 34 0, zI a0]) (d' := 1) (n := 1) (g := 34) (x := 0) (ci := 11) kX11_isStreet vX11_isStreet lkX11_103 (by decide +kernel) (by decide) rfl rfl (by decide) rfl rfl (Nat.le_of_ble_eq_true rfl) rfl rfl (Nat.le_of_ble_eq_true rfl) (pX11_isStreet  (fun c => ?_) (fun c => ?_))
  · replace h := h.1 c
    refine r_if_ne (off := 9) (tgt := 14) (by decide +kernel) (by decide) (fun c => ?_) (fun c => ?_)
    · refine r_blk [qO (.aload_n 0), qF (.getfield 13) 11 1, qO (.iconst 4), qO .iaload, qO (.iload_n 1), qO .ishr, qO (.iconst 1), qO .iand, qO (.iconst 1)] (pc' := 25) (L' := [zR 34 0, zI a0, zI a1, zU]) (S' := [zI 1, zI (bitz (σ 36 0 4) a0)]) (σ' := σ) (Ps := [0 ≤ 4 ∧ 4 < 123]) (by decide +kernel) rfl ⟨(by decide), trivial⟩ ?_
      refine r_icmp_ne (off := 7) (tgt := 32) (by decide +kernel) (by decide) (fun c => ?_) (fun c => ?_)
      · replace h := h.1 c
        refine r_blk [qO (.iconst 0), qO (.istore_n 3), qO (.iload_n 3), qO (.iload_n 2)] (pc' := 36) (L' := [zR 34 0, zI a0, zI a1, zI 0]) (S' := [zI a1, zI 0]) (σ' := σ) (Ps := []) (by decide +kernel) rfl trivial ?_
        refine r_icmp_eq (off := 15) (tgt := 51) (by decide +kernel) (by decide) (fun c => ?_) (fun c => ?_)
        · replace h := h.1 c
          refine r_blk [qO (.iload_n 3), qO (.iload_n 2)] (pc' := 53) (L' := [zR 34 0, zI a0, zI a1, zI 0]) (S' := [zI a1, zI 0]) (σ' := σ) (Ps := []) (by decide +kernel) rfl trivial ?_
          refine r_icmp_ne (off := 7) (tgt := 60) (by decide +kernel) (by decide) (fun c => ?_) (fun c => ?_)
          · replace h := h.1 c
            refine r_blk [qO (.iconst 1)] (pc' := 61) (L' := [zR 34 0, zI a0, zI a1, zI 0]) (S' := [zI 1]) (σ' := σ) (Ps := []) (by decide +kernel) rfl trivial ?_
            exact r_ret (by decide +kernel) rfl (fun _ => h)
          · replace h := h.2 c
            refine r_blk [qO (.iconst 0), qO (.goto 4)] (pc' := 61) (L' := [zR 34 0, zI a0, zI a1, zI 0]) (S' := [zI 0]) (σ' := σ) (Ps := []) (by decide +kernel) rfl trivial ?_
            exact r_ret (by decide +kernel) rfl (fun _ => h)
        · replace h := h.2 c
          refine r_blk [qO (.aload_n 0), qF (.getfield 13) 11 1, qO (.iconst 4), qO .dup2, qO .iaload, qO (.iconst 1), qO (.iload_n 1), qO .ishl, qO .ixor, qO .iastore, qO (.iload_n 3), qO (.iload_n 2)] (pc' := 53) (L' := [zR 34 0, zI a0, zI a1, zI 0]) (S' := [zI a1, zI 0]) (σ' := (zup σ 36 0 4 (zxor (σ 36 0 4) (zshl 1 a0)))) (Ps := [0 ≤ 4 ∧ 4 < 123, 0 ≤ 4 ∧ 4 < 123]) (by decide +kernel) rfl ⟨(by decide), (by decide), trivial⟩ ?_
          refine r_icmp_ne (off := 7) (tgt := 60) (by decide +kernel) (by decide) (fun c => ?_) (fun c => ?_)
          · replace h := h.1 c
            refine r_blk [qO (.iconst 1)] (pc' := 61) (L' := [zR 34 0, zI a0, zI a1, zI 0]) (S' := [zI 1]) (σ' := (zup σ 36 0 4 (zxor (σ 36 0 4) (zshl 1 a0)))) (Ps := []) (by decide +kernel) rfl trivial ?_
            exact r_ret (by decide +kernel) rfl (fun _ => h)
          · replace h := h.2 c
            refine r_blk [qO (.iconst 0), qO (.goto 4)] (pc' := 61) (L' := [zR 34 0, zI a0, zI a1, zI 0]) (S' := [zI 0]) (σ' := (zup σ 36 0 4 (zxor (σ 36 0 4) (zshl 1 a0)))) (Ps := []) (by decide +kernel) rfl trivial ?_
            exact r_ret (by decide +kernel) rfl (fun _ => h)
      · replace h := h.2 c
        refine r_blk [qO (.iconst 1), qO (.goto 4), qO (.istore_n 3), qO (.iload_n 3), qO (.iload_n 2)] (pc' := 36) (L' := [zR 34 0, zI a0, zI a1, zI 1]) (S' := [zI a1, zI 1]) (σ' := σ) (Ps := []) (by decide +kernel) rfl trivial ?_
        refine r_icmp_eq (off := 15) (tgt := 51) (by decide +kernel) (by decide) (fun c => ?_) (fun c => ?_)
        · replace h := h.1 c
          refine r_blk [qO (.iload_n 3), qO (.iload_n 2)] (pc' := 53) (L' := [zR 34 0, zI a0, zI a1, zI 1]) (S' := [zI a1, zI 1]) (σ' := σ) (Ps := []) (by decide +kernel) rfl trivial ?_
          refine r_icmp_ne (off := 7) (tgt := 60) (by decide +kernel) (by decide) (fun c => ?_) (fun c => ?_)
          · replace h := h.1 c
            refine r_blk [qO (.iconst 1)] (pc' := 61) (L' := [zR 34 0, zI a0, zI a1, zI 1]) (S' := [zI 1]) (σ' := σ) (Ps := []) (by decide +kernel) rfl trivial ?_
            exact r_ret (by decide +kernel) rfl (fun _ => h)
          · replace h := h.2 c
            refine r_blk [qO (.iconst 0), qO (.goto 4)] (pc' := 61) (L' := [zR 34 0, zI a0, zI a1, zI 1]) (S' := [zI 0]) (σ' := σ) (Ps := []) (by decide +kernel) rfl trivial ?_
            exact r_ret (by decide +kernel) rfl (fun _ => h)
        · replace h := h.2 c
          refine r_blk [qO (.aload_n 0), qF (.getfield 13) 11 1, qO (.iconst 4), qO .dup2, qO .iaload, qO (.iconst 1), qO (.iload_n 1), qO .ishl, qO .ixor, qO .iastore, qO (.iload_n 3), qO (.iload_n 2)] (pc' := 53) (L' := [zR 34 0, zI a0, zI a1, zI 1]) (S' := [zI a1, zI 1]) (σ' := (zup σ 36 0 4 (zxor (σ 36 0 4) (zshl 1 a0)))) (Ps := [0 ≤ 4 ∧ 4 < 123, 0 ≤ 4 ∧ 4 < 123]) (by decide +kernel) rfl ⟨(by decide), (by decide), trivial⟩ ?_
          refine r_icmp_ne (off := 7) (tgt := 60) (by decide +kernel) (by decide) (fun c => ?_) (fun c => ?_)
          · replace h := h.1 c
            refine r_blk [qO (.iconst 1)] (pc' := 61) (L' := [zR 34 0, zI a0, zI a1, zI 1]) (S' := [zI 1]) (σ' := (zup σ 36 0 4 (zxor (σ 36 0 4) (zshl 1 a0)))) (Ps := []) (by decide +kernel) rfl trivial ?_
            exact r_ret (by decide +kernel) rfl (fun _ => h)
          · replace h := h.2 c
            refine r_blk [qO (.iconst 0), qO (.goto 4)] (pc' := 61) (L' := [zR 34 0, zI a0, zI a1, zI 1]) (S' := [zI 0]) (σ' := (zup σ 36 0 4 (zxor (σ 36 0 4) (zshl 1 a0)))) (Ps := []) (by decide +kernel) rfl trivial ?_
            exact r_ret (by decide +kernel) rfl (fun _ => h)
    · exact absurd c (by decide)
  · replace h := h.2 c
    refine r_if_ne (off := 9) (tgt := 14) (by decide +kernel) (by decide) (fun c => ?_) (fun c => ?_)
    · exact absurd c (by decide)
    · refine r_blk [qO (.aload_n 0), qO (.iconst (-1))] (pc' := 10) (L' := [zR 34 0, zI a0, zI a1, zU]) (S' := [zI (-1), zR 34 0]) (σ' := σ) (Ps := []) (by decide +kernel) rfl trivial ?_
      refine r_callVI (As := [zI (-1)]) (S := []) (Lc := [zR 34 0, zI (-1)]) (d' := 0) (n := 1) (g := 34) (x := 0) (ci := 11) kX11_refuse vX11_refuse lkX11_66 (by decide +kernel) (by decide) rfl rfl (by decide) rfl rfl (Nat.le_of_ble_eq_true rfl) rfl rfl (Nat.le_of_ble_eq_true rfl) (pX11_refuse h.1 h.2.1 ?_)
      replace h := h.2.2
      generalize hσ1 : zup σ 35 0 (-(-1)).toNat (σ 35 0 (-(-1)).toNat + 1) = σ1
      replace h := h σ1 hσ1.symm
      exact r_ret (by decide +kernel) rfl (fun _ => h)
theorem gX10_way_0 (a0 : Int) (a1 : Int) (σ : Hp) {Q : Option Int → Hp → Prop} (h : ((0 ≤ a0 ∧ a0 < σ 1 0 1 → ((zwithin a1 0 2879 = 0 → ∀ σ1 : Hp, σ1 = tTake σ → (0 ≤ σ1 16 0 2 ∧ σ1 16 0 2 ≤ 1439) ∧ (10 ≤ σ1 16 0 3 ∧ σ1 16 0 3 ≤ 720) ∧ (0 ≤ a1 ∧ a1 ≤ 1000000) ∧ ∀ σ2 : Hp, σ2 = tStand σ1 a1 → Q (some (tWay σ2 a0)) σ2) ∧ (¬ zwithin a1 0 2879 = 0 → (-6 ≤ (zwithin a1 0 2879) ∧ (zwithin a1 0 2879) ≤ -1) ∧ (σ 33 0 (-(zwithin a1 0 2879)).toNat ≤ 2147483646) ∧ ∀ σ3 : Hp, σ3 = zup σ 33 0 (-(zwithin a1 0 2879)).toNat (σ 33 0 (-(zwithin a1 0 2879)).toNat + 1) → Q (some (zwithin a1 0 2879)) σ3))) ∧ (¬ (0 ≤ a0 ∧ a0 < σ 1 0 1) → (-6 ≤ (-1) ∧ (-1) ≤ -1) ∧ (σ 33 0 (-(-1)).toNat ≤ 2147483646) ∧ ∀ σ4 : Hp, σ4 = zup σ 33 0 (-(-1)).toNat (σ 33 0 (-(-1)).toNat + 1) → Q (some (-1)) σ4))) : Runs 2 mX10_way 0 [zR 0 0, zI a0, zI a1, zU] [] σ Q := by
  refine r_blk [qO (.aload_n 0), qF (.getfield 10) 10 0, qO (.iload_n 1)] (pc' := 5) (L' := [zR 0 0, zI a0, zI a1, zU]) (S' := [zI a0, zR 1 0]) (σ' := σ) (Ps := []) (by decide +kernel) rfl trivial ?_
  refine r_callVI (As := [zI a0]) (S := []) (Lc := [zR 1 0, zI a0]) (d' := 0) (n := 1) (g := 1) (x := 0) (ci := 6) kX6_hasStreet vX6_hasStreet lkX10_114 (by decide +kernel) (by decide) rfl rfl (by decide) rfl rfl (Nat.le_of_ble_eq_true rfl) rfl rfl (Nat.le_of_ble_eq_true rfl) (pX6_hasStreet  (fun c => ?_) (fun c => ?_))
  · replace h := h.1 c
    refine r_if_ne (off := 9) (tgt := 17) (by decide +kernel) (by decide) (fun c => ?_) (fun c => ?_)
    · refine r_blk [qO (.aload_n 0), qO (.iload_n 2)] (pc' := 19) (L' := [zR 0 0, zI a0, zI a1, zU]) (S' := [zI a1, zR 0 0]) (σ' := σ) (Ps := []) (by decide +kernel) rfl trivial ?_
      refine r_callVI (As := [zI a1]) (S := []) (Lc := [zR 0 0, zI a1]) (d' := 0) (n := 1) (g := 0) (x := 0) (ci := 10) kX10_refusalOfMinute vX10_refusalOfMinute lkX10_170 (by decide +kernel) (by decide) rfl rfl (by decide) rfl rfl (Nat.le_of_ble_eq_true rfl) rfl rfl (Nat.le_of_ble_eq_true rfl) (pX10_refusalOfMinute  ?_)
      refine r_blk [qO (.istore_n 3), qO (.iload_n 3)] (pc' := 24) (L' := [zR 0 0, zI a0, zI a1, zI (zwithin a1 0 2879)]) (S' := [zI (zwithin a1 0 2879)]) (σ' := σ) (Ps := []) (by decide +kernel) rfl trivial ?_
      refine r_if_eq (off := 9) (tgt := 33) (by decide +kernel) (by decide) (fun c => ?_) (fun c => ?_)
      · replace h := h.1 c
        refine r_blk [qO (.aload_n 0), qF (.getfield 40) 10 4] (pc' := 37) (L' := [zR 0 0, zI a0, zI a1, zI (zwithin a1 0 2879)]) (S' := [zR 16 0]) (σ' := σ) (Ps := []) (by decide +kernel) rfl trivial ?_
        refine r_callVV (As := []) (S := []) (Lc := [zR 16 0]) (d' := 1) (n := 0) (g := 16) (x := 0) (ci := 7) kX7_takeAsItIs vX7_takeAsItIs lkX10_173 (by decide +kernel) (by decide) rfl rfl (by decide) rfl rfl (Nat.le_of_ble_eq_true rfl) rfl rfl (Nat.le_of_ble_eq_true rfl) (pX7_takeAsItIs  ?_)
        generalize hσ1 : tTake σ = σ1
        replace h := h σ1 hσ1.symm
        refine r_blk [qO (.aload_n 0), qF (.getfield 40) 10 4, qO (.iload_n 2)] (pc' := 45) (L' := [zR 0 0, zI a0, zI a1, zI (zwithin a1 0 2879)]) (S' := [zI a1, zR 16 0]) (σ' := σ1) (Ps := []) (by decide +kernel) rfl trivial ?_
        refine r_callVV (As := [zI a1]) (S := []) (Lc := [zR 16 0, zI a1, zU, zU]) (d' := 0) (n := 1) (g := 16) (x := 0) (ci := 7) kX7_standAt vX7_standAt lkX10_176 (by decide +kernel) (by decide) rfl rfl (by decide) rfl rfl (Nat.le_of_ble_eq_true rfl) rfl rfl (Nat.le_of_ble_eq_true rfl) (pX7_standAt h.1 h.2.1 h.2.2.1 ?_)
        replace h := h.2.2.2
        generalize hσ2 : tStand σ1 a1 = σ2
        replace h := h σ2 hσ2.symm
        refine r_blk [qO (.aload_n 0), qF (.getfield 40) 10 4, qO (.iload_n 1)] (pc' := 53) (L' := [zR 0 0, zI a0, zI a1, zI (zwithin a1 0 2879)]) (S' := [zI a0, zR 16 0]) (σ' := σ2) (Ps := []) (by decide +kernel) rfl trivial ?_
        refine r_callVI (As := [zI a0]) (S := []) (Lc := [zR 16 0, zI a0]) (d' := 1) (n := 1) (g := 16) (x := 0) (ci := 7) kX7_wayOf vX7_wayOf lkX10_179 (by decide +kernel) (by decide) rfl rfl (by decide) rfl rfl (Nat.le_of_ble_eq_true rfl) rfl rfl (Nat.le_of_ble_eq_true rfl) (pX7_wayOf  ?_)
        exact r_ret (by decide +kernel) rfl (fun _ => h)
      · replace h := h.2 c
        refine r_blk [qO (.aload_n 0), qO (.iload_n 3)] (pc' := 29) (L' := [zR 0 0, zI a0, zI a1, zI (zwithin a1 0 2879)]) (S' := [zI (zwithin a1 0 2879), zR 0 0]) (σ' := σ) (Ps := []) (by decide +kernel) rfl trivial ?_
        refine r_callVI (As := [zI (zwithin a1 0 2879)]) (S := []) (Lc := [zR 0 0, zI (zwithin a1 0 2879)]) (d' := 0) (n := 1) (g := 0) (x := 0) (ci := 10) kX10_refuse vX10_refuse lkX10_98 (by decide +kernel) (by decide) rfl rfl (by decide) rfl rfl (Nat.le_of_ble_eq_true rfl) rfl rfl (Nat.le_of_ble_eq_true rfl) (pX10_refuse h.1 h.2.1 ?_)
        replace h := h.2.2
        generalize hσ3 : zup σ 33 0 (-(zwithin a1 0 2879)).toNat (σ 33 0 (-(zwithin a1 0 2879)).toNat + 1) = σ3
        replace h := h σ3 hσ3.symm
        exact r_ret (by decide +kernel) rfl (fun _ => h)
    · exact absurd c (by decide)
  · replace h := h.2 c
    refine r_if_ne (off := 9) (tgt := 17) (by decide +kernel) (by decide) (fun c => ?_) (fun c => ?_)
    · exact absurd c (by decide)
    · refine r_blk [qO (.aload_n 0), qO (.iconst (-1))] (pc' := 13) (L' := [zR 0 0, zI a0, zI a1, zU]) (S' := [zI (-1), zR 0 0]) (σ' := σ) (Ps := []) (by decide +kernel) rfl trivial ?_
      refine r_callVI (As := [zI (-1)]) (S := []) (Lc := [zR 0 0, zI (-1)]) (d' := 0) (n := 1) (g := 0) (x := 0) (ci := 10) kX10_refuse vX10_refuse lkX10_98 (by decide +kernel) (by decide) rfl rfl (by decide) rfl rfl (Nat.le_of_ble_eq_true rfl) rfl rfl (Nat.le_of_ble_eq_true rfl) (pX10_refuse h.1 h.2.1 ?_)
      replace h := h.2.2
      generalize hσ4 : zup σ 33 0 (-(-1)).toNat (σ 33 0 (-(-1)).toNat + 1) = σ4
      replace h := h σ4 hσ4.symm
      exact r_ret (by decide +kernel) rfl (fun _ => h)
theorem gX11_way_0 (a0 : Int) (a1 : Int) (σ : Hp) {Q : Option Int → Hp → Prop} (h : ((0 ≤ a0 ∧ a0 < σ 36 0 1 → ((zwithin a1 0 2879 = 0 → (WF (σ 36 0)) ∧ (0 ≤ a0 ∧ a0 < σ 36 0 1) ∧ ((0 : Int) ≤ a1 ∧ a1 ≤ 1000000) ∧ Q (some (wayS (σ 36 0) a0 a1)) σ) ∧ (¬ zwithin a1 0 2879 = 0 → (-6 ≤ (zwithin a1 0 2879) ∧ (zwithin a1 0 2879) ≤ -1) ∧ (σ 35 0 (-(zwithin a1 0 2879)).toNat ≤ 2147483646) ∧ ∀ σ1 : Hp, σ1 = zup σ 35 0 (-(zwithin a1 0 2879)).toNat (σ 35 0 (-(zwithin a1 0 2879)).toNat + 1) → Q (some (zwithin a1 0 2879)) σ1))) ∧ (¬ (0 ≤ a0 ∧ a0 < σ 36 0 1) → (-6 ≤ (-1) ∧ (-1) ≤ -1) ∧ (σ 35 0 (-(-1)).toNat ≤ 2147483646) ∧ ∀ σ2 : Hp, σ2 = zup σ 35 0 (-(-1)).toNat (σ 35 0 (-(-1)).toNat + 1) → Q (some (-1)) σ2))) : Runs 2 mX11_way 0 [zR 34 0, zI a0, zI a1, zU] [] σ Q := by
  refine r_blk [qO (.aload_n 0), qO (.iload_n 1)] (pc' := 2) (L' := [zR 34 0, zI a0, zI a1, zU]) (S' := [zI a0, zR 34 0]) (σ' := σ) (Ps := []) (by decide +kernel) rfl trivial ?_
  refine r_callVI (As := [zI a0]) (S := []) (Lc := [zR 34 0, zI a0]) (d' := 1) (n := 1) (g := 34) (x := 0) (ci := 11) kX11_isStreet vX11_isStreet lkX11_103 (by decide +kernel) (by decide) rfl rfl (by decide) rfl rfl (Nat.le_of_ble_eq_true rfl) rfl rfl (Nat.le_of_ble_eq_true rfl) (pX11_isStreet  (fun c => ?_) (fun c => ?_))
  · replace h := h.1 c
    refine r_if_eq (off := 14) (tgt := 19) (by decide +kernel) (by decide) (fun c => ?_) (fun c => ?_)
    · exact absurd c (by decide)
    · refine r_blk [qO (.iload_n 2), qO (.iconst 0), qO (.sipush 2879)] (pc' := 13) (L' := [zR 34 0, zI a0, zI a1, zU]) (S' := [zI 2879, zI 0, zI a1]) (σ' := σ) (Ps := []) (by decide +kernel) rfl trivial ?_
      refine r_callSI (As := [zI a1, zI 0, zI 2879]) (S := []) (Lc := [zI a1, zI 0, zI 2879]) (d' := 0) (n := 3) kX11_within vX11_within lkX11_119 (by decide +kernel) (by decide) rfl rfl (Nat.le_of_ble_eq_true rfl) rfl rfl (Nat.le_of_ble_eq_true rfl) (pX11_within  ?_)
      refine r_blk [qO (.goto 4), qO (.istore_n 3), qO (.iload_n 3)] (pc' := 22) (L' := [zR 34 0, zI a0, zI a1, zI (zwithin a1 0 2879)]) (S' := [zI (zwithin a1 0 2879)]) (σ' := σ) (Ps := []) (by decide +kernel) rfl trivial ?_
      refine r_if_eq (off := 11) (tgt := 33) (by decide +kernel) (by decide) (fun c => ?_) (fun c => ?_)
      · replace h := h.1 c
        refine r_blk [qO (.aload_n 0), qO (.iload_n 1), qO (.iload_n 2)] (pc' := 36) (L' := [zR 34 0, zI a0, zI a1, zI (zwithin a1 0 2879)]) (S' := [zI a1, zI a0, zR 34 0]) (σ' := σ) (Ps := []) (by decide +kernel) rfl trivial ?_
        refine r_callVI (As := [zI a0, zI a1]) (S := []) (Lc := [zR 34 0, zI a0, zI a1, zU, zU, zU]) (d' := 1) (n := 2) (g := 34) (x := 0) (ci := 11) kX11_wayOf vX11_wayOf lkX11_126 (by decide +kernel) (by decide) rfl rfl (by decide) rfl rfl (Nat.le_of_ble_eq_true rfl) rfl rfl (Nat.le_of_ble_eq_true rfl) (pX11_wayOf h.1 h.2.1 h.2.2.1 ?_)
        replace h := h.2.2.2
        exact r_ret (by decide +kernel) rfl (fun _ => h)
      · replace h := h.2 c
        refine r_blk [qO (.aload_n 0), qO (.iload_n 3)] (pc' := 27) (L' := [zR 34 0, zI a0, zI a1, zI (zwithin a1 0 2879)]) (S' := [zI (zwithin a1 0 2879), zR 34 0]) (σ' := σ) (Ps := []) (by decide +kernel) rfl trivial ?_
        refine r_callVI (As := [zI (zwithin a1 0 2879)]) (S := []) (Lc := [zR 34 0, zI (zwithin a1 0 2879)]) (d' := 0) (n := 1) (g := 34) (x := 0) (ci := 11) kX11_refuse vX11_refuse lkX11_66 (by decide +kernel) (by decide) rfl rfl (by decide) rfl rfl (Nat.le_of_ble_eq_true rfl) rfl rfl (Nat.le_of_ble_eq_true rfl) (pX11_refuse h.1 h.2.1 ?_)
        replace h := h.2.2
        generalize hσ1 : zup σ 35 0 (-(zwithin a1 0 2879)).toNat (σ 35 0 (-(zwithin a1 0 2879)).toNat + 1) = σ1
        replace h := h σ1 hσ1.symm
        refine r_blk [qO (.goto 9)] (pc' := 39) (L' := [zR 34 0, zI a0, zI a1, zI (zwithin a1 0 2879)]) (S' := [zI (zwithin a1 0 2879)]) (σ' := σ1) (Ps := []) (by decide +kernel) rfl trivial ?_
        exact r_ret (by decide +kernel) rfl (fun _ => h)
  · replace h := h.2 c
    refine r_if_eq (off := 14) (tgt := 19) (by decide +kernel) (by decide) (fun c => ?_) (fun c => ?_)
    · refine r_blk [qO (.iconst (-1)), qO (.istore_n 3), qO (.iload_n 3)] (pc' := 22) (L' := [zR 34 0, zI a0, zI a1, zI (-1)]) (S' := [zI (-1)]) (σ' := σ) (Ps := []) (by decide +kernel) rfl trivial ?_
      refine r_if_eq (off := 11) (tgt := 33) (by decide +kernel) (by decide) (fun c => ?_) (fun c => ?_)
      · exact absurd c (by decide)
      · refine r_blk [qO (.aload_n 0), qO (.iload_n 3)] (pc' := 27) (L' := [zR 34 0, zI a0, zI a1, zI (-1)]) (S' := [zI (-1), zR 34 0]) (σ' := σ) (Ps := []) (by decide +kernel) rfl trivial ?_
        refine r_callVI (As := [zI (-1)]) (S := []) (Lc := [zR 34 0, zI (-1)]) (d' := 0) (n := 1) (g := 34) (x := 0) (ci := 11) kX11_refuse vX11_refuse lkX11_66 (by decide +kernel) (by decide) rfl rfl (by decide) rfl rfl (Nat.le_of_ble_eq_true rfl) rfl rfl (Nat.le_of_ble_eq_true rfl) (pX11_refuse h.1 h.2.1 ?_)
        replace h := h.2.2
        generalize hσ2 : zup σ 35 0 (-(-1)).toNat (σ 35 0 (-(-1)).toNat + 1) = σ2
        replace h := h σ2 hσ2.symm
        refine r_blk [qO (.goto 9)] (pc' := 39) (L' := [zR 34 0, zI a0, zI a1, zI (-1)]) (S' := [zI (-1)]) (σ' := σ2) (Ps := []) (by decide +kernel) rfl trivial ?_
        exact r_ret (by decide +kernel) rfl (fun _ => h)
    · exact absurd c (by decide)
theorem gX10_soonest_0 (a0 : Int) (a1 : Int) (a2 : Int) (σ : Hp) {Q : Option Int → Hp → Prop} (h : ((zwrongWay (σ 1 0) a0 a1 a2 = 0 → ∀ σ1 : Hp, σ1 = tTake σ → Runs 3 mX8_setOut 0 [zR 17 0, zI a0, zI a1, zI a2, zU, zU] [] σ1 (rV (fun σ2 => (0 ≤ a1 ∧ a1 < 10) ∧ Q (some (zmin σ2 a1)) σ2))) ∧ (¬ zwrongWay (σ 1 0) a0 a1 a2 = 0 → (-6 ≤ (zwrongWay (σ 1 0) a0 a1 a2) ∧ (zwrongWay (σ 1 0) a0 a1 a2) ≤ -1) ∧ (σ 33 0 (-(zwrongWay (σ 1 0) a0 a1 a2)).toNat ≤ 2147483646) ∧ ∀ σ3 : Hp, σ3 = zup σ 33 0 (-(zwrongWay (σ 1 0) a0 a1 a2)).toNat (σ 33 0 (-(zwrongWay (σ 1 0) a0 a1 a2)).toNat + 1) → Q (some (zwrongWay (σ 1 0) a0 a1 a2)) σ3))) : Runs 4 mX10_soonest 0 [zR 0 0, zI a0, zI a1, zI a2, zU] [] σ Q := by
  refine r_blk [qO (.aload_n 0), qO (.iload_n 1), qO (.iload_n 2), qO (.iload_n 3)] (pc' := 4) (L' := [zR 0 0, zI a0, zI a1, zI a2, zU]) (S' := [zI a2, zI a1, zI a0, zR 0 0]) (σ' := σ) (Ps := []) (by decide +kernel) rfl trivial ?_
  refine r_callVI (As := [zI a0, zI a1, zI a2]) (S := []) (Lc := [zR 0 0, zI a0, zI a1, zI a2]) (d' := 1) (n := 3) (g := 0) (x := 0) (ci := 10) kX10_refusalOfWay vX10_refusalOfWay lkX10_182 (by decide +kernel) (by decide) rfl rfl (by decide) rfl rfl (Nat.le_of_ble_eq_true rfl) rfl rfl (Nat.le_of_ble_eq_true rfl) (pX10_refusalOfWay  ?_)
  refine r_blk [qO (.istore 4), qO (.iload 4)] (pc' := 11) (L' := [zR 0 0, zI a0, zI a1, zI a2, zI (zwrongWay (σ 1 0) a0 a1 a2)]) (S' := [zI (zwrongWay (σ 1 0) a0 a1 a2)]) (σ' := σ) (Ps := []) (by decide +kernel) rfl trivial ?_
  refine r_if_eq (off := 10) (tgt := 21) (by decide +kernel) (by decide) (fun c => ?_) (fun c => ?_)
  · replace h := h.1 c
    refine r_blk [qO (.aload_n 0), qF (.getfield 40) 10 4] (pc' := 25) (L' := [zR 0 0, zI a0, zI a1, zI a2, zI (zwrongWay (σ 1 0) a0 a1 a2)]) (S' := [zR 16 0]) (σ' := σ) (Ps := []) (by decide +kernel) rfl trivial ?_
    refine r_callVV (As := []) (S := []) (Lc := [zR 16 0]) (d' := 1) (n := 0) (g := 16) (x := 0) (ci := 7) kX7_takeAsItIs vX7_takeAsItIs lkX10_173 (by decide +kernel) (by decide) rfl rfl (by decide) rfl rfl (Nat.le_of_ble_eq_true rfl) rfl rfl (Nat.le_of_ble_eq_true rfl) (pX7_takeAsItIs  ?_)
    generalize hσ1 : tTake σ = σ1
    replace h := h σ1 hσ1.symm
    refine r_blk [qO (.aload_n 0), qF (.getfield 49) 10 5, qO (.iload_n 1), qO (.iload_n 2), qO (.iload_n 3)] (pc' := 35) (L' := [zR 0 0, zI a0, zI a1, zI a2, zI (zwrongWay (σ 1 0) a0 a1 a2)]) (S' := [zI a2, zI a1, zI a0, zR 17 0]) (σ' := σ1) (Ps := []) (by decide +kernel) rfl trivial ?_
    refine r_callVV (As := [zI a0, zI a1, zI a2]) (S := []) (Lc := [zR 17 0, zI a0, zI a1, zI a2, zU, zU]) (d' := 3) (n := 3) (g := 17) (x := 0) (ci := 8) kX8_setOut vX8_setOut lkX10_186 (by decide +kernel) (by decide) rfl rfl (by decide) rfl rfl (Nat.le_of_ble_eq_true rfl) rfl rfl (Nat.le_of_ble_eq_true rfl) (h.monoV (fun σ2 h => ?_))
    refine r_blk [qO (.aload_n 0), qF (.getfield 49) 10 5, qO (.iload_n 2)] (pc' := 43) (L' := [zR 0 0, zI a0, zI a1, zI a2, zI (zwrongWay (σ 1 0) a0 a1 a2)]) (S' := [zI a1, zR 17 0]) (σ' := σ2) (Ps := []) (by decide +kernel) rfl trivial ?_
    refine r_callVI (As := [zI a1]) (S := []) (Lc := [zR 17 0, zI a1]) (d' := 0) (n := 1) (g := 17) (x := 0) (ci := 8) kX8_minuteAt vX8_minuteAt lkX10_190 (by decide +kernel) (by decide) rfl rfl (by decide) rfl rfl (Nat.le_of_ble_eq_true rfl) rfl rfl (Nat.le_of_ble_eq_true rfl) (pX8_minuteAt h.1 ?_)
    replace h := h.2
    exact r_ret (by decide +kernel) rfl (fun _ => h)
  · replace h := h.2 c
    refine r_blk [qO (.aload_n 0), qO (.iload 4)] (pc' := 17) (L' := [zR 0 0, zI a0, zI a1, zI a2, zI (zwrongWay (σ 1 0) a0 a1 a2)]) (S' := [zI (zwrongWay (σ 1 0) a0 a1 a2), zR 0 0]) (σ' := σ) (Ps := []) (by decide +kernel) rfl trivial ?_
    refine r_callVI (As := [zI (zwrongWay (σ 1 0) a0 a1 a2)]) (S := []) (Lc := [zR 0 0, zI (zwrongWay (σ 1 0) a0 a1 a2)]) (d' := 0) (n := 1) (g := 0) (x := 0) (ci := 10) kX10_refuse vX10_refuse lkX10_98 (by decide +kernel) (by decide) rfl rfl (by decide) rfl rfl (Nat.le_of_ble_eq_true rfl) rfl rfl (Nat.le_of_ble_eq_true rfl) (pX10_refuse h.1 h.2.1 ?_)
    replace h := h.2.2
    generalize hσ3 : zup σ 33 0 (-(zwrongWay (σ 1 0) a0 a1 a2)).toNat (σ 33 0 (-(zwrongWay (σ 1 0) a0 a1 a2)).toNat + 1) = σ3
    replace h := h σ3 hσ3.symm
    exact r_ret (by decide +kernel) rfl (fun _ => h)
theorem gX11_soonest_0 (a0 : Int) (a1 : Int) (a2 : Int) (σ : Hp) {Q : Option Int → Hp → Prop} (h : ((zwrongWay (σ 36 0) a0 a1 a2 = 0 → Runs 4 mX11_finds 0 [zR 34 0, zI a0, zI a2, zU, zU, zU, zU, zU] [] σ (rV (fun σ1 => (0 ≤ a1 ∧ a1 < 10) ∧ Q (some (σ1 41 0 a1.toNat)) σ1))) ∧ (¬ zwrongWay (σ 36 0) a0 a1 a2 = 0 → (-6 ≤ (zwrongWay (σ 36 0) a0 a1 a2) ∧ (zwrongWay (σ 36 0) a0 a1 a2) ≤ -1) ∧ (σ 35 0 (-(zwrongWay (σ 36 0) a0 a1 a2)).toNat ≤ 2147483646) ∧ ∀ σ2 : Hp, σ2 = zup σ 35 0 (-(zwrongWay (σ 36 0) a0 a1 a2)).toNat (σ 35 0 (-(zwrongWay (σ 36 0) a0 a1 a2)).toNat + 1) → Q (some (zwrongWay (σ 36 0) a0 a1 a2)) σ2))) : Runs 5 mX11_soonest 0 [zR 34 0, zI a0, zI a1, zI a2, zU] [] σ Q := by
  refine r_blk [qO (.aload_n 0), qO (.iload_n 1), qO (.iload_n 2), qO (.iload_n 3)] (pc' := 4) (L' := [zR 34 0, zI a0, zI a1, zI a2, zU]) (S' := [zI a2, zI a1, zI a0, zR 34 0]) (σ' := σ) (Ps := []) (by decide +kernel) rfl trivial ?_
  refine r_callVI (As := [zI a0, zI a1, zI a2]) (S := []) (Lc := [zR 34 0, zI a0, zI a1, zI a2]) (d' := 2) (n := 3) (g := 34) (x := 0) (ci := 11) kX11_wrongWay vX11_wrongWay lkX11_139 (by decide +kernel) (by decide) rfl rfl (by decide) rfl rfl (Nat.le_of_ble_eq_true rfl) rfl rfl (Nat.le_of_ble_eq_true rfl) (pX11_wrongWay  ?_)
  refine r_blk [qO (.istore 4), qO (.iload 4)] (pc' := 11) (L' := [zR 34 0, zI a0, zI a1, zI a2, zI (zwrongWay (σ 36 0) a0 a1 a2)]) (S' := [zI (zwrongWay (σ 36 0) a0 a1 a2)]) (σ' := σ) (Ps := []) (by decide +kernel) rfl trivial ?_
  refine r_if_eq (off := 10) (tgt := 21) (by decide +kernel) (by decide) (fun c => ?_) (fun c => ?_)
  · replace h := h.1 c
    refine r_blk [qO (.aload_n 0), qO (.iload_n 1), qO (.iload_n 3)] (pc' := 24) (L' := [zR 34 0, zI a0, zI a1, zI a2, zI (zwrongWay (σ 36 0) a0 a1 a2)]) (S' := [zI a2, zI a0, zR 34 0]) (σ' := σ) (Ps := []) (by decide +kernel) rfl trivial ?_
    refine r_callVV (As := [zI a0, zI a2]) (S := []) (Lc := [zR 34 0, zI a0, zI a2, zU, zU, zU, zU, zU]) (d' := 4) (n := 2) (g := 34) (x := 0) (ci := 11) kX11_finds vX11_finds lkX11_142 (by decide +kernel) (by decide) rfl rfl (by decide) rfl rfl (Nat.le_of_ble_eq_true rfl) rfl rfl (Nat.le_of_ble_eq_true rfl) (h.monoV (fun σ1 h => ?_))
    refine r_blk [qO (.aload_n 0), qF (.getfield 28) 11 9, qO (.iload_n 2), qO .iaload] (pc' := 33) (L' := [zR 34 0, zI a0, zI a1, zI a2, zI (zwrongWay (σ 36 0) a0 a1 a2)]) (S' := [zI (σ1 41 0 a1.toNat)]) (σ' := σ1) (Ps := [0 ≤ a1 ∧ a1 < 10]) (by decide +kernel) rfl ⟨h.1, trivial⟩ ?_
    replace h := h.2
    exact r_ret (by decide +kernel) rfl (fun _ => h)
  · replace h := h.2 c
    refine r_blk [qO (.aload_n 0), qO (.iload 4)] (pc' := 17) (L' := [zR 34 0, zI a0, zI a1, zI a2, zI (zwrongWay (σ 36 0) a0 a1 a2)]) (S' := [zI (zwrongWay (σ 36 0) a0 a1 a2), zR 34 0]) (σ' := σ) (Ps := []) (by decide +kernel) rfl trivial ?_
    refine r_callVI (As := [zI (zwrongWay (σ 36 0) a0 a1 a2)]) (S := []) (Lc := [zR 34 0, zI (zwrongWay (σ 36 0) a0 a1 a2)]) (d' := 0) (n := 1) (g := 34) (x := 0) (ci := 11) kX11_refuse vX11_refuse lkX11_66 (by decide +kernel) (by decide) rfl rfl (by decide) rfl rfl (Nat.le_of_ble_eq_true rfl) rfl rfl (Nat.le_of_ble_eq_true rfl) (pX11_refuse h.1 h.2.1 ?_)
    replace h := h.2.2
    generalize hσ2 : zup σ 35 0 (-(zwrongWay (σ 36 0) a0 a1 a2)).toNat (σ 35 0 (-(zwrongWay (σ 36 0) a0 a1 a2)).toNat + 1) = σ2
    replace h := h σ2 hσ2.symm
    exact r_ret (by decide +kernel) rfl (fun _ => h)
theorem gX10_waited_0 (a0 : Int) (a1 : Int) (a2 : Int) (σ : Hp) {Q : Option Int → Hp → Prop} (h : ((zwrongWay (σ 1 0) a0 a1 a2 = 0 → ∀ σ1 : Hp, σ1 = tTake σ → Runs 4 mX4_trace 0 [zR 28 0, zI a0, zI a1, zI a2, zU] [] σ1 (rV (fun σ2 => Runs 0 mX4_minutesWaited 0 [zR 28 0, zU, zU] [] σ2 (rI (fun z4 σ3 => Q (some z4) σ3))))) ∧ (¬ zwrongWay (σ 1 0) a0 a1 a2 = 0 → (-6 ≤ (zwrongWay (σ 1 0) a0 a1 a2) ∧ (zwrongWay (σ 1 0) a0 a1 a2) ≤ -1) ∧ (σ 33 0 (-(zwrongWay (σ 1 0) a0 a1 a2)).toNat ≤ 2147483646) ∧ ∀ σ5 : Hp, σ5 = zup σ 33 0 (-(zwrongWay (σ 1 0) a0 a1 a2)).toNat (σ 33 0 (-(zwrongWay (σ 1 0) a0 a1 a2)).toNat + 1) → Q (some (zwrongWay (σ 1 0) a0 a1 a2)) σ5))) : Runs 5 mX10_waited 0 [zR 0 0, zI a0, zI a1, zI a2, zU] [] σ Q := by
  refine r_blk [qO (.aload_n 0), qO (.iload_n 1), qO (.iload_n 2), qO (.iload_n 3)] (pc' := 4) (L' := [zR 0 0, zI a0, zI a1, zI a2, zU]) (S' := [zI a2, zI a1, zI a0, zR 0 0]) (σ' := σ) (Ps := []) (by decide +kernel) rfl trivial ?_
  refine r_callVI (As := [zI a0, zI a1, zI a2]) (S := []) (Lc := [zR 0 0, zI a0, zI a1, zI a2]) (d' := 1) (n := 3) (g := 0) (x := 0) (ci := 10) kX10_refusalOfWay vX10_refusalOfWay lkX10_182 (by decide +kernel) (by decide) rfl rfl (by decide) rfl rfl (Nat.le_of_ble_eq_true rfl) rfl rfl (Nat.le_of_ble_eq_true rfl) (pX10_refusalOfWay  ?_)
  refine r_blk [qO (.istore 4), qO (.iload 4)] (pc' := 11) (L' := [zR 0 0, zI a0, zI a1, zI a2, zI (zwrongWay (σ 1 0) a0 a1 a2)]) (S' := [zI (zwrongWay (σ 1 0) a0 a1 a2)]) (σ' := σ) (Ps := []) (by decide +kernel) rfl trivial ?_
  refine r_if_eq (off := 10) (tgt := 21) (by decide +kernel) (by decide) (fun c => ?_) (fun c => ?_)
  · replace h := h.1 c
    refine r_blk [qO (.aload_n 0), qF (.getfield 40) 10 4] (pc' := 25) (L' := [zR 0 0, zI a0, zI a1, zI a2, zI (zwrongWay (σ 1 0) a0 a1 a2)]) (S' := [zR 16 0]) (σ' := σ) (Ps := []) (by decide +kernel) rfl trivial ?_
    refine r_callVV (As := []) (S := []) (Lc := [zR 16 0]) (d' := 1) (n := 0) (g := 16) (x := 0) (ci := 7) kX7_takeAsItIs vX7_takeAsItIs lkX10_173 (by decide +kernel) (by decide) rfl rfl (by decide) rfl rfl (Nat.le_of_ble_eq_true rfl) rfl rfl (Nat.le_of_ble_eq_true rfl) (pX7_takeAsItIs  ?_)
    generalize hσ1 : tTake σ = σ1
    replace h := h σ1 hσ1.symm
    refine r_blk [qO (.aload_n 0), qF (.getfield 87) 10 10, qO (.iconst 0), qO .aaload, qO (.iload_n 1), qO (.iload_n 2), qO (.iload_n 3)] (pc' := 37) (L' := [zR 0 0, zI a0, zI a1, zI a2, zI (zwrongWay (σ 1 0) a0 a1 a2)]) (S' := [zI a2, zI a1, zI a0, zR 28 0]) (σ' := σ1) (Ps := [0 ≤ 0 ∧ 0 < 8]) (by decide +kernel) rfl ⟨(by decide), trivial⟩ ?_
    refine r_callVV (As := [zI a0, zI a1, zI a2]) (S := []) (Lc := [zR 28 0, zI a0, zI a1, zI a2, zU]) (d' := 4) (n := 3) (g := 28) (x := 0) (ci := 4) kX4_trace vX4_trace lkX10_193 (by decide +kernel) (by decide) rfl rfl (by decide) rfl rfl (Nat.le_of_ble_eq_true rfl) rfl rfl (Nat.le_of_ble_eq_true rfl) (h.monoV (fun σ2 h => ?_))
    refine r_blk [qO (.aload_n 0), qF (.getfield 87) 10 10, qO (.iconst 0), qO .aaload] (pc' := 46) (L' := [zR 0 0, zI a0, zI a1, zI a2, zI (zwrongWay (σ 1 0) a0 a1 a2)]) (S' := [zR 28 0]) (σ' := σ2) (Ps := [0 ≤ 0 ∧ 0 < 8]) (by decide +kernel) rfl ⟨(by decide), trivial⟩ ?_
    refine r_callVI (As := []) (S := []) (Lc := [zR 28 0, zU, zU]) (d' := 0) (n := 0) (g := 28) (x := 0) (ci := 4) kX4_minutesWaited vX4_minutesWaited lkX10_196 (by decide +kernel) (by decide) rfl rfl (by decide) rfl rfl (Nat.le_of_ble_eq_true rfl) rfl rfl (Nat.le_of_ble_eq_true rfl) (h.monoI (fun z4 σ3 h => ?_))
    exact r_ret (by decide +kernel) rfl (fun _ => h)
  · replace h := h.2 c
    refine r_blk [qO (.aload_n 0), qO (.iload 4)] (pc' := 17) (L' := [zR 0 0, zI a0, zI a1, zI a2, zI (zwrongWay (σ 1 0) a0 a1 a2)]) (S' := [zI (zwrongWay (σ 1 0) a0 a1 a2), zR 0 0]) (σ' := σ) (Ps := []) (by decide +kernel) rfl trivial ?_
    refine r_callVI (As := [zI (zwrongWay (σ 1 0) a0 a1 a2)]) (S := []) (Lc := [zR 0 0, zI (zwrongWay (σ 1 0) a0 a1 a2)]) (d' := 0) (n := 1) (g := 0) (x := 0) (ci := 10) kX10_refuse vX10_refuse lkX10_98 (by decide +kernel) (by decide) rfl rfl (by decide) rfl rfl (Nat.le_of_ble_eq_true rfl) rfl rfl (Nat.le_of_ble_eq_true rfl) (pX10_refuse h.1 h.2.1 ?_)
    replace h := h.2.2
    generalize hσ5 : zup σ 33 0 (-(zwrongWay (σ 1 0) a0 a1 a2)).toNat (σ 33 0 (-(zwrongWay (σ 1 0) a0 a1 a2)).toNat + 1) = σ5
    replace h := h σ5 hσ5.symm
    exact r_ret (by decide +kernel) rfl (fun _ => h)
theorem gX11_waited_0 (a0 : Int) (a1 : Int) (a2 : Int) (σ : Hp) {Q : Option Int → Hp → Prop} (h : ((zwrongWay (σ 36 0) a0 a1 a2 = 0 → Runs 5 mX11_findsRoad 0 [zR 34 0, zI a0, zI a1, zI a2, zU, zU, zU, zU, zU, zU] [] σ (rI (fun z2 σ1 => ((z2 = 0 → Q (some (-9)) σ1) ∧ (¬ z2 = 0 → Q (some (σ1 34 0 15)) σ1))))) ∧ (¬ zwrongWay (σ 36 0) a0 a1 a2 = 0 → (-6 ≤ (zwrongWay (σ 36 0) a0 a1 a2) ∧ (zwrongWay (σ 36 0) a0 a1 a2) ≤ -1) ∧ (σ 35 0 (-(zwrongWay (σ 36 0) a0 a1 a2)).toNat ≤ 2147483646) ∧ ∀ σ3 : Hp, σ3 = zup σ 35 0 (-(zwrongWay (σ 36 0) a0 a1 a2)).toNat (σ 35 0 (-(zwrongWay (σ 36 0) a0 a1 a2)).toNat + 1) → Q (some (zwrongWay (σ 36 0) a0 a1 a2)) σ3))) : Runs 6 mX11_waited 0 [zR 34 0, zI a0, zI a1, zI a2, zU] [] σ Q := by
  refine r_blk [qO (.aload_n 0), qO (.iload_n 1), qO (.iload_n 2), qO (.iload_n 3)] (pc' := 4) (L' := [zR 34 0, zI a0, zI a1, zI a2, zU]) (S' := [zI a2, zI a1, zI a0, zR 34 0]) (σ' := σ) (Ps := []) (by decide +kernel) rfl trivial ?_
  refine r_callVI (As := [zI a0, zI a1, zI a2]) (S := []) (Lc := [zR 34 0, zI a0, zI a1, zI a2]) (d' := 2) (n := 3) (g := 34) (x := 0) (ci := 11) kX11_wrongWay vX11_wrongWay lkX11_139 (by decide +kernel) (by decide) rfl rfl (by decide) rfl rfl (Nat.le_of_ble_eq_true rfl) rfl rfl (Nat.le_of_ble_eq_true rfl) (pX11_wrongWay  ?_)
  refine r_blk [qO (.istore 4), qO (.iload 4)] (pc' := 11) (L' := [zR 34 0, zI a0, zI a1, zI a2, zI (zwrongWay (σ 36 0) a0 a1 a2)]) (S' := [zI (zwrongWay (σ 36 0) a0 a1 a2)]) (σ' := σ) (Ps := []) (by decide +kernel) rfl trivial ?_
  refine r_if_eq (off := 10) (tgt := 21) (by decide +kernel) (by decide) (fun c => ?_) (fun c => ?_)
  · replace h := h.1 c
    refine r_blk [qO (.aload_n 0), qO (.iload_n 1), qO (.iload_n 2), qO (.iload_n 3)] (pc' := 25) (L' := [zR 34 0, zI a0, zI a1, zI a2, zI (zwrongWay (σ 36 0) a0 a1 a2)]) (S' := [zI a2, zI a1, zI a0, zR 34 0]) (σ' := σ) (Ps := []) (by decide +kernel) rfl trivial ?_
    refine r_callVI (As := [zI a0, zI a1, zI a2]) (S := []) (Lc := [zR 34 0, zI a0, zI a1, zI a2, zU, zU, zU, zU, zU, zU]) (d' := 5) (n := 3) (g := 34) (x := 0) (ci := 11) kX11_findsRoad vX11_findsRoad lkX11_152 (by decide +kernel) (by decide) rfl rfl (by decide) rfl rfl (Nat.le_of_ble_eq_true rfl) rfl rfl (Nat.le_of_ble_eq_true rfl) (h.monoI (fun z2 σ1 h => ?_))
    refine r_if_eq (off := 10) (tgt := 38) (by decide +kernel) (by decide) (fun c => ?_) (fun c => ?_)
    · replace h := h.1 c
      refine r_blk [qO (.bipush (-9))] (pc' := 40) (L' := [zR 34 0, zI a0, zI a1, zI a2, zI (zwrongWay (σ 36 0) a0 a1 a2)]) (S' := [zI (-9)]) (σ' := σ1) (Ps := []) (by decide +kernel) rfl trivial ?_
      exact r_ret (by decide +kernel) rfl (fun _ => h)
    · replace h := h.2 c
      refine r_blk [qO (.aload_n 0), qF (.getfield 149) 11 15, qO (.goto 5)] (pc' := 40) (L' := [zR 34 0, zI a0, zI a1, zI a2, zI (zwrongWay (σ 36 0) a0 a1 a2)]) (S' := [zI (σ1 34 0 15)]) (σ' := σ1) (Ps := []) (by decide +kernel) rfl trivial ?_
      exact r_ret (by decide +kernel) rfl (fun _ => h)
  · replace h := h.2 c
    refine r_blk [qO (.aload_n 0), qO (.iload 4)] (pc' := 17) (L' := [zR 34 0, zI a0, zI a1, zI a2, zI (zwrongWay (σ 36 0) a0 a1 a2)]) (S' := [zI (zwrongWay (σ 36 0) a0 a1 a2), zR 34 0]) (σ' := σ) (Ps := []) (by decide +kernel) rfl trivial ?_
    refine r_callVI (As := [zI (zwrongWay (σ 36 0) a0 a1 a2)]) (S := []) (Lc := [zR 34 0, zI (zwrongWay (σ 36 0) a0 a1 a2)]) (d' := 0) (n := 1) (g := 34) (x := 0) (ci := 11) kX11_refuse vX11_refuse lkX11_66 (by decide +kernel) (by decide) rfl rfl (by decide) rfl rfl (Nat.le_of_ble_eq_true rfl) rfl rfl (Nat.le_of_ble_eq_true rfl) (pX11_refuse h.1 h.2.1 ?_)
    replace h := h.2.2
    generalize hσ3 : zup σ 35 0 (-(zwrongWay (σ 36 0) a0 a1 a2)).toNat (σ 35 0 (-(zwrongWay (σ 36 0) a0 a1 a2)).toNat + 1) = σ3
    replace h := h σ3 hσ3.symm
    exact r_ret (by decide +kernel) rfl (fun _ => h)
theorem gX10_road_0 (a0 : Int) (a1 : Int) (a2 : Int) (a3 : Int) (σ : Hp) {Q : Option Int → Hp → Prop} (h : ((zwrongWay (σ 1 0) a0 a1 a2 = (-1) → Runs 5 mX10_road 25 [zR 0 0, zI a0, zI a1, zI a2, zI a3, zI (zwrongWay (σ 1 0) a0 a1 a2)] [] σ Q) ∧ (¬ zwrongWay (σ 1 0) a0 a1 a2 = (-1) → (((-1) ≤ a3 → Runs 5 mX10_road 25 [zR 0 0, zI a0, zI a1, zI a2, zI a3, zI (zwrongWay (σ 1 0) a0 a1 a2)] [] σ Q) ∧ (¬ (-1) ≤ a3 → Runs 5 mX10_road 25 [zR 0 0, zI a0, zI a1, zI a2, zI a3, zI (-4)] [] σ Q))))) : Runs 5 mX10_road 0 [zR 0 0, zI a0, zI a1, zI a2, zI a3, zU] [] σ Q := by
  refine r_blk [qO (.aload_n 0), qO (.iload_n 1), qO (.iload_n 2), qO (.iload_n 3)] (pc' := 4) (L' := [zR 0 0, zI a0, zI a1, zI a2, zI a3, zU]) (S' := [zI a2, zI a1, zI a0, zR 0 0]) (σ' := σ) (Ps := []) (by decide +kernel) rfl trivial ?_
  refine r_callVI (As := [zI a0, zI a1, zI a2]) (S := []) (Lc := [zR 0 0, zI a0, zI a1, zI a2]) (d' := 1) (n := 3) (g := 0) (x := 0) (ci := 10) kX10_refusalOfWay vX10_refusalOfWay lkX10_182 (by decide +kernel) (by decide) rfl rfl (by decide) rfl rfl (Nat.le_of_ble_eq_true rfl) rfl rfl (Nat.le_of_ble_eq_true rfl) (pX10_refusalOfWay  ?_)
  refine r_blk [qO (.istore 5), qO (.iload 5), qO (.iconst (-1))] (pc' := 12) (L' := [zR 0 0, zI a0, zI a1, zI a2, zI a3, zI (zwrongWay (σ 1 0) a0 a1 a2)]) (S' := [zI (-1), zI (zwrongWay (σ 1 0) a0 a1 a2)]) (σ' := σ) (Ps := []) (by decide +kernel) rfl trivial ?_
  refine r_icmp_eq (off := 13) (tgt := 25) (by decide +kernel) (by decide) (fun c => ?_) (fun c => ?_)
  · replace h := h.1 c
    exact Runs.fg (fgE (fgE (fgE (fgE (fgE (fgE fg0)))))) h
  · replace h := h.2 c
    refine r_blk [qO (.iload 4), qO (.iconst (-1))] (pc' := 18) (L' := [zR 0 0, zI a0, zI a1, zI a2, zI a3, zI (zwrongWay (σ 1 0) a0 a1 a2)]) (S' := [zI (-1), zI a3]) (σ' := σ) (Ps := []) (by decide +kernel) rfl trivial ?_
    refine r_icmp_ge (off := 7) (tgt := 25) (by decide +kernel) (by decide) (fun c => ?_) (fun c => ?_)
    · replace h := h.1 c
      exact Runs.fg (fgE (fgE (fgE (fgE (fgE (fgE fg0)))))) h
    · replace h := h.2 c
      refine r_blk [qO (.bipush (-4)), qO (.istore 5)] (pc' := 25) (L' := [zR 0 0, zI a0, zI a1, zI a2, zI a3, zI (-4)]) (S' := []) (σ' := σ) (Ps := []) (by decide +kernel) rfl trivial ?_
      exact Runs.fg (fgE (fgE (fgE (fgE (fgE (fgE fg0)))))) h
theorem gX10_road_25 (l1 : Int) (l2 : Int) (l3 : Int) (l4 : Int) (l5 : Int) (σ : Hp) {Q : Option Int → Hp → Prop} (h : ((l5 = 0 → ∀ σ1 : Hp, σ1 = tTake σ → Runs 4 mX4_trace 0 [zR 28 0, zI l1, zI l2, zI l3, zU] [] σ1 (rV (fun σ2 => ((¬ l4 = (-1) → Runs 0 mX4_streetAt 0 [zR 28 0, zI l4] [] σ2 (rI (fun z4 σ3 => Q (some z4) σ3))) ∧ (l4 = (-1) → Q (some (σ2 28 0 7)) σ2))))) ∧ (¬ l5 = 0 → (-6 ≤ l5 ∧ l5 ≤ -1) ∧ (σ 33 0 (-l5).toNat ≤ 2147483646) ∧ ∀ σ5 : Hp, σ5 = zup σ 33 0 (-l5).toNat (σ 33 0 (-l5).toNat + 1) → Q (some l5) σ5))) : Runs 5 mX10_road 25 [zR 0 0, zI l1, zI l2, zI l3, zI l4, zI l5] [] σ Q := by
  refine r_blk [qO (.iload 5)] (pc' := 27) (L' := [zR 0 0, zI l1, zI l2, zI l3, zI l4, zI l5]) (S' := [zI l5]) (σ' := σ) (Ps := []) (by decide +kernel) rfl trivial ?_
  refine r_if_eq (off := 10) (tgt := 37) (by decide +kernel) (by decide) (fun c => ?_) (fun c => ?_)
  · replace h := h.1 c
    refine r_blk [qO (.aload_n 0), qF (.getfield 40) 10 4] (pc' := 41) (L' := [zR 0 0, zI l1, zI l2, zI l3, zI l4, zI l5]) (S' := [zR 16 0]) (σ' := σ) (Ps := []) (by decide +kernel) rfl trivial ?_
    refine r_callVV (As := []) (S := []) (Lc := [zR 16 0]) (d' := 1) (n := 0) (g := 16) (x := 0) (ci := 7) kX7_takeAsItIs vX7_takeAsItIs lkX10_173 (by decide +kernel) (by decide) rfl rfl (by decide) rfl rfl (Nat.le_of_ble_eq_true rfl) rfl rfl (Nat.le_of_ble_eq_true rfl) (pX7_takeAsItIs  ?_)
    generalize hσ1 : tTake σ = σ1
    replace h := h σ1 hσ1.symm
    refine r_blk [qO (.aload_n 0), qF (.getfield 87) 10 10, qO (.iconst 0), qO .aaload, qO (.iload_n 1), qO (.iload_n 2), qO (.iload_n 3)] (pc' := 53) (L' := [zR 0 0, zI l1, zI l2, zI l3, zI l4, zI l5]) (S' := [zI l3, zI l2, zI l1, zR 28 0]) (σ' := σ1) (Ps := [0 ≤ 0 ∧ 0 < 8]) (by decide +kernel) rfl ⟨(by decide), trivial⟩ ?_
    refine r_callVV (As := [zI l1, zI l2, zI l3]) (S := []) (Lc := [zR 28 0, zI l1, zI l2, zI l3, zU]) (d' := 4) (n := 3) (g := 28) (x := 0) (ci := 4) kX4_trace vX4_trace lkX10_193 (by decide +kernel) (by decide) rfl rfl (by decide) rfl rfl (Nat.le_of_ble_eq_true rfl) rfl rfl (Nat.le_of_ble_eq_true rfl) (h.monoV (fun σ2 h => ?_))
    refine r_blk [qO (.iload 4), qO (.iconst (-1))] (pc' := 59) (L' := [zR 0 0, zI l1, zI l2, zI l3, zI l4, zI l5]) (S' := [zI (-1), zI l4]) (σ' := σ2) (Ps := []) (by decide +kernel) rfl trivial ?_
    refine r_icmp_ne (off := 15) (tgt := 74) (by decide +kernel) (by decide) (fun c => ?_) (fun c => ?_)
    · replace h := h.1 c
      refine r_blk [qO (.aload_n 0), qF (.getfield 87) 10 10, qO (.iconst 0), qO .aaload, qO (.iload 4)] (pc' := 82) (L' := [zR 0 0, zI l1, zI l2, zI l3, zI l4, zI l5]) (S' := [zI l4, zR 28 0]) (σ' := σ2) (Ps := [0 ≤ 0 ∧ 0 < 8]) (by decide +kernel) rfl ⟨(by decide), trivial⟩ ?_
      refine r_callVI (As := [zI l4]) (S := []) (Lc := [zR 28 0, zI l4]) (d' := 0) (n := 1) (g := 28) (x := 0) (ci := 4) kX4_streetAt vX4_streetAt lkX10_201 (by decide +kernel) (by decide) rfl rfl (by decide) rfl rfl (Nat.le_of_ble_eq_true rfl) rfl rfl (Nat.le_of_ble_eq_true rfl) (h.monoI (fun z4 σ3 h => ?_))
      exact r_ret (by decide +kernel) rfl (fun _ => h)
    · replace h := h.2 c
      refine r_blk [qO (.aload_n 0), qF (.getfield 87) 10 10, qO (.iconst 0), qO .aaload, qF (.getfield 200) 4 7, qO (.goto 14)] (pc' := 85) (L' := [zR 0 0, zI l1, zI l2, zI l3, zI l4, zI l5]) (S' := [zI (σ2 28 0 7)]) (σ' := σ2) (Ps := [0 ≤ 0 ∧ 0 < 8]) (by decide +kernel) rfl ⟨(by decide), trivial⟩ ?_
      exact r_ret (by decide +kernel) rfl (fun _ => h)
  · replace h := h.2 c
    refine r_blk [qO (.aload_n 0), qO (.iload 5)] (pc' := 33) (L' := [zR 0 0, zI l1, zI l2, zI l3, zI l4, zI l5]) (S' := [zI l5, zR 0 0]) (σ' := σ) (Ps := []) (by decide +kernel) rfl trivial ?_
    refine r_callVI (As := [zI l5]) (S := []) (Lc := [zR 0 0, zI l5]) (d' := 0) (n := 1) (g := 0) (x := 0) (ci := 10) kX10_refuse vX10_refuse lkX10_98 (by decide +kernel) (by decide) rfl rfl (by decide) rfl rfl (Nat.le_of_ble_eq_true rfl) rfl rfl (Nat.le_of_ble_eq_true rfl) (pX10_refuse h.1 h.2.1 ?_)
    replace h := h.2.2
    generalize hσ5 : zup σ 33 0 (-l5).toNat (σ 33 0 (-l5).toNat + 1) = σ5
    replace h := h σ5 hσ5.symm
    exact r_ret (by decide +kernel) rfl (fun _ => h)
theorem gX11_road_0 (a0 : Int) (a1 : Int) (a2 : Int) (a3 : Int) (σ : Hp) {Q : Option Int → Hp → Prop} (h : ((zwrongWay (σ 36 0) a0 a1 a2 = (-1) → Runs 6 mX11_road 25 [zR 34 0, zI a0, zI a1, zI a2, zI a3, zI (zwrongWay (σ 36 0) a0 a1 a2)] [] σ Q) ∧ (¬ zwrongWay (σ 36 0) a0 a1 a2 = (-1) → (((-1) ≤ a3 → Runs 6 mX11_road 25 [zR 34 0, zI a0, zI a1, zI a2, zI a3, zI (zwrongWay (σ 36 0) a0 a1 a2)] [] σ Q) ∧ (¬ (-1) ≤ a3 → Runs 6 mX11_road 25 [zR 34 0, zI a0, zI a1, zI a2, zI a3, zI (-4)] [] σ Q))))) : Runs 6 mX11_road 0 [zR 34 0, zI a0, zI a1, zI a2, zI a3, zU] [] σ Q := by
  refine r_blk [qO (.aload_n 0), qO (.iload_n 1), qO (.iload_n 2), qO (.iload_n 3)] (pc' := 4) (L' := [zR 34 0, zI a0, zI a1, zI a2, zI a3, zU]) (S' := [zI a2, zI a1, zI a0, zR 34 0]) (σ' := σ) (Ps := []) (by decide +kernel) rfl trivial ?_
  refine r_callVI (As := [zI a0, zI a1, zI a2]) (S := []) (Lc := [zR 34 0, zI a0, zI a1, zI a2]) (d' := 2) (n := 3) (g := 34) (x := 0) (ci := 11) kX11_wrongWay vX11_wrongWay lkX11_139 (by decide +kernel) (by decide) rfl rfl (by decide) rfl rfl (Nat.le_of_ble_eq_true rfl) rfl rfl (Nat.le_of_ble_eq_true rfl) (pX11_wrongWay  ?_)
  refine r_blk [qO (.istore 5), qO (.iload 5), qO (.iconst (-1))] (pc' := 12) (L' := [zR 34 0, zI a0, zI a1, zI a2, zI a3, zI (zwrongWay (σ 36 0) a0 a1 a2)]) (S' := [zI (-1), zI (zwrongWay (σ 36 0) a0 a1 a2)]) (σ' := σ) (Ps := []) (by decide +kernel) rfl trivial ?_
  refine r_icmp_eq (off := 13) (tgt := 25) (by decide +kernel) (by decide) (fun c => ?_) (fun c => ?_)
  · replace h := h.1 c
    exact Runs.fg (fgE (fgE (fgE (fgE (fgE (fgE fg0)))))) h
  · replace h := h.2 c
    refine r_blk [qO (.iload 4), qO (.iconst (-1))] (pc' := 18) (L' := [zR 34 0, zI a0, zI a1, zI a2, zI a3, zI (zwrongWay (σ 36 0) a0 a1 a2)]) (S' := [zI (-1), zI a3]) (σ' := σ) (Ps := []) (by decide +kernel) rfl trivial ?_
    refine r_icmp_ge (off := 7) (tgt := 25) (by decide +kernel) (by decide) (fun c => ?_) (fun c => ?_)
    · replace h := h.1 c
      exact Runs.fg (fgE (fgE (fgE (fgE (fgE (fgE fg0)))))) h
    · replace h := h.2 c
      refine r_blk [qO (.bipush (-4)), qO (.istore 5)] (pc' := 25) (L' := [zR 34 0, zI a0, zI a1, zI a2, zI a3, zI (-4)]) (S' := []) (σ' := σ) (Ps := []) (by decide +kernel) rfl trivial ?_
      exact Runs.fg (fgE (fgE (fgE (fgE (fgE (fgE fg0)))))) h
theorem gX11_road_25 (l1 : Int) (l2 : Int) (l3 : Int) (l4 : Int) (l5 : Int) (σ : Hp) {Q : Option Int → Hp → Prop} (h : ((l5 = 0 → Runs 5 mX11_findsRoad 0 [zR 34 0, zI l1, zI l2, zI l3, zU, zU, zU, zU, zU, zU] [] σ (rI (fun z2 σ1 => ((¬ z2 = 0 → ((0 ≤ l4 → ((σ1 34 0 14 ≤ l4 → Q (some (-9)) σ1) ∧ (¬ σ1 34 0 14 ≤ l4 → (-2147483648 ≤ (σ1 34 0 14) - 1 ∧ (σ1 34 0 14) - 1 ≤ 2147483647) ∧ (-2147483648 ≤ ((σ1 34 0 14) - 1) - l4 ∧ ((σ1 34 0 14) - 1) - l4 ≤ 2147483647) ∧ (0 ≤ ((σ1 34 0 14) - 1) - l4 ∧ ((σ1 34 0 14) - 1) - l4 < 10) ∧ Q (some (σ1 44 0 ((((σ1 34 0 14) - 1) - l4).toNat))) σ1))) ∧ (¬ 0 ≤ l4 → Q (some (σ1 34 0 14)) σ1))) ∧ (z2 = 0 → Q (some (-9)) σ1))))) ∧ (¬ l5 = 0 → (-6 ≤ l5 ∧ l5 ≤ -1) ∧ (σ 35 0 (-l5).toNat ≤ 2147483646) ∧ ∀ σ3 : Hp, σ3 = zup σ 35 0 (-l5).toNat (σ 35 0 (-l5).toNat + 1) → Q (some l5) σ3))) : Runs 6 mX11_road 25 [zR 34 0, zI l1, zI l2, zI l3, zI l4, zI l5] [] σ Q := by
  refine r_blk [qO (.iload 5)] (pc' := 27) (L' := [zR 34 0, zI l1, zI l2, zI l3, zI l4, zI l5]) (S' := [zI l5]) (σ' := σ) (Ps := []) (by decide +kernel) rfl trivial ?_
  refine r_if_eq (off := 10) (tgt := 37) (by decide +kernel) (by decide) (fun c => ?_) (fun c => ?_)
  · replace h := h.1 c
    refine r_blk [qO (.aload_n 0), qO (.iload_n 1), qO (.iload_n 2), qO (.iload_n 3)] (pc' := 41) (L' := [zR 34 0, zI l1, zI l2, zI l3, zI l4, zI l5]) (S' := [zI l3, zI l2, zI l1, zR 34 0]) (σ' := σ) (Ps := []) (by decide +kernel) rfl trivial ?_
    refine r_callVI (As := [zI l1, zI l2, zI l3]) (S := []) (Lc := [zR 34 0, zI l1, zI l2, zI l3, zU, zU, zU, zU, zU, zU]) (d' := 5) (n := 3) (g := 34) (x := 0) (ci := 11) kX11_findsRoad vX11_findsRoad lkX11_152 (by decide +kernel) (by decide) rfl rfl (by decide) rfl rfl (Nat.le_of_ble_eq_true rfl) rfl rfl (Nat.le_of_ble_eq_true rfl) (h.monoI (fun z2 σ1 h => ?_))
    refine r_if_ne (off := 6) (tgt := 50) (by decide +kernel) (by decide) (fun c => ?_) (fun c => ?_)
    · replace h := h.1 c
      refine r_blk [qO (.iload 4)] (pc' := 52) (L' := [zR 34 0, zI l1, zI l2, zI l3, zI l4, zI l5]) (S' := [zI l4]) (σ' := σ1) (Ps := []) (by decide +kernel) rfl trivial ?_
      refine r_if_ge (off := 10) (tgt := 62) (by decide +kernel) (by decide) (fun c => ?_) (fun c => ?_)
      · replace h := h.1 c
        refine r_blk [qO (.iload 4), qO (.aload_n 0), qF (.getfield 146) 11 14] (pc' := 68) (L' := [zR 34 0, zI l1, zI l2, zI l3, zI l4, zI l5]) (S' := [zI (σ1 34 0 14), zI l4]) (σ' := σ1) (Ps := []) (by decide +kernel) rfl trivial ?_
        refine r_icmp_ge (off := 20) (tgt := 88) (by decide +kernel) (by decide) (fun c => ?_) (fun c => ?_)
        · replace h := h.1 c
          refine r_blk [qO (.bipush (-9))] (pc' := 90) (L' := [zR 34 0, zI l1, zI l2, zI l3, zI l4, zI l5]) (S' := [zI (-9)]) (σ' := σ1) (Ps := []) (by decide +kernel) rfl trivial ?_
          exact r_ret (by decide +kernel) rfl (fun _ => h)
        · replace h := h.2 c
          refine r_blk [qO (.aload_n 0), qF (.getfield 38) 11 12, qO (.aload_n 0), qF (.getfield 146) 11 14, qO (.iconst 1), qO .isub, qO (.iload 4), qO .isub, qO .iaload, qO (.goto 5)] (pc' := 90) (L' := [zR 34 0, zI l1, zI l2, zI l3, zI l4, zI l5]) (S' := [zI (σ1 44 0 ((((σ1 34 0 14) - 1) - l4).toNat))]) (σ' := σ1) (Ps := [-2147483648 ≤ (σ1 34 0 14) - 1 ∧ (σ1 34 0 14) - 1 ≤ 2147483647, -2147483648 ≤ ((σ1 34 0 14) - 1) - l4 ∧ ((σ1 34 0 14) - 1) - l4 ≤ 2147483647, 0 ≤ ((σ1 34 0 14) - 1) - l4 ∧ ((σ1 34 0 14) - 1) - l4 < 10]) (by decide +kernel) rfl ⟨h.1, h.2.1, h.2.2.1, trivial⟩ ?_
          replace h := h.2.2.2
          exact r_ret (by decide +kernel) rfl (fun _ => h)
      · replace h := h.2 c
        refine r_blk [qO (.aload_n 0), qF (.getfield 146) 11 14, qO (.goto 31)] (pc' := 90) (L' := [zR 34 0, zI l1, zI l2, zI l3, zI l4, zI l5]) (S' := [zI (σ1 34 0 14)]) (σ' := σ1) (Ps := []) (by decide +kernel) rfl trivial ?_
        exact r_ret (by decide +kernel) rfl (fun _ => h)
    · replace h := h.2 c
      refine r_blk [qO (.bipush (-9))] (pc' := 49) (L' := [zR 34 0, zI l1, zI l2, zI l3, zI l4, zI l5]) (S' := [zI (-9)]) (σ' := σ1) (Ps := []) (by decide +kernel) rfl trivial ?_
      exact r_ret (by decide +kernel) rfl (fun _ => h)
  · replace h := h.2 c
    refine r_blk [qO (.aload_n 0), qO (.iload 5)] (pc' := 33) (L' := [zR 34 0, zI l1, zI l2, zI l3, zI l4, zI l5]) (S' := [zI l5, zR 34 0]) (σ' := σ) (Ps := []) (by decide +kernel) rfl trivial ?_
    refine r_callVI (As := [zI l5]) (S := []) (Lc := [zR 34 0, zI l5]) (d' := 0) (n := 1) (g := 34) (x := 0) (ci := 11) kX11_refuse vX11_refuse lkX11_66 (by decide +kernel) (by decide) rfl rfl (by decide) rfl rfl (Nat.le_of_ble_eq_true rfl) rfl rfl (Nat.le_of_ble_eq_true rfl) (pX11_refuse h.1 h.2.1 ?_)
    replace h := h.2.2
    generalize hσ3 : zup σ 35 0 (-l5).toNat (σ 35 0 (-l5).toNat + 1) = σ3
    replace h := h σ3 hσ3.symm
    exact r_ret (by decide +kernel) rfl (fun _ => h)
theorem gX10_all_0 (a0 : Int) (σ : Hp) {Q : Option Int → Hp → Prop} (h : ((zwithin a0 0 2879 = 0 → Runs 3 mX10_freezeAsItIs 0 [zR 0 0, zI a0] [] σ (rV (fun σ1 => Runs 1 mX0_pairsApart 0 [zR 19 0, zU, zU, zU] [] σ1 (rI (fun z3 σ2 => ((¬ z3 = 0 → Q (some 0) σ2) ∧ (z3 = 0 → Q (some 1) σ2))))))) ∧ (¬ zwithin a0 0 2879 = 0 → (-6 ≤ (zwithin a0 0 2879) ∧ (zwithin a0 0 2879) ≤ -1) ∧ (σ 33 0 (-(zwithin a0 0 2879)).toNat ≤ 2147483646) ∧ ∀ σ4 : Hp, σ4 = zup σ 33 0 (-(zwithin a0 0 2879)).toNat (σ 33 0 (-(zwithin a0 0 2879)).toNat + 1) → Q (some (zwithin a0 0 2879)) σ4))) : Runs 4 mX10_all 0 [zR 0 0, zI a0, zU] [] σ Q := by
  refine r_blk [qO (.aload_n 0), qO (.iload_n 1)] (pc' := 2) (L' := [zR 0 0, zI a0, zU]) (S' := [zI a0, zR 0 0]) (σ' := σ) (Ps := []) (by decide +kernel) rfl trivial ?_
  refine r_callVI (As := [zI a0]) (S := []) (Lc := [zR 0 0, zI a0]) (d' := 0) (n := 1) (g := 0) (x := 0) (ci := 10) kX10_refusalOfMinute vX10_refusalOfMinute lkX10_170 (by decide +kernel) (by decide) rfl rfl (by decide) rfl rfl (Nat.le_of_ble_eq_true rfl) rfl rfl (Nat.le_of_ble_eq_true rfl) (pX10_refusalOfMinute  ?_)
  refine r_blk [qO (.istore_n 2), qO (.iload_n 2)] (pc' := 7) (L' := [zR 0 0, zI a0, zI (zwithin a0 0 2879)]) (S' := [zI (zwithin a0 0 2879)]) (σ' := σ) (Ps := []) (by decide +kernel) rfl trivial ?_
  refine r_if_eq (off := 9) (tgt := 16) (by decide +kernel) (by decide) (fun c => ?_) (fun c => ?_)
  · replace h := h.1 c
    refine r_blk [qO (.aload_n 0), qO (.iload_n 1)] (pc' := 18) (L' := [zR 0 0, zI a0, zI (zwithin a0 0 2879)]) (S' := [zI a0, zR 0 0]) (σ' := σ) (Ps := []) (by decide +kernel) rfl trivial ?_
    refine r_callVV (As := [zI a0]) (S := []) (Lc := [zR 0 0, zI a0]) (d' := 3) (n := 1) (g := 0) (x := 0) (ci := 10) kX10_freezeAsItIs vX10_freezeAsItIs lkX10_204 (by decide +kernel) (by decide) rfl rfl (by decide) rfl rfl (Nat.le_of_ble_eq_true rfl) rfl rfl (Nat.le_of_ble_eq_true rfl) (h.monoV (fun σ1 h => ?_))
    refine r_blk [qO (.aload_n 0), qF (.getfield 56) 10 6] (pc' := 25) (L' := [zR 0 0, zI a0, zI (zwithin a0 0 2879)]) (S' := [zR 19 0]) (σ' := σ1) (Ps := []) (by decide +kernel) rfl trivial ?_
    refine r_callVI (As := []) (S := []) (Lc := [zR 19 0, zU, zU, zU]) (d' := 1) (n := 0) (g := 19) (x := 0) (ci := 0) kX0_pairsApart vX0_pairsApart lkX10_207 (by decide +kernel) (by decide) rfl rfl (by decide) rfl rfl (Nat.le_of_ble_eq_true rfl) rfl rfl (Nat.le_of_ble_eq_true rfl) (h.monoI (fun z3 σ2 h => ?_))
    refine r_if_ne (off := 7) (tgt := 35) (by decide +kernel) (by decide) (fun c => ?_) (fun c => ?_)
    · replace h := h.1 c
      refine r_blk [qO (.iconst 0)] (pc' := 36) (L' := [zR 0 0, zI a0, zI (zwithin a0 0 2879)]) (S' := [zI 0]) (σ' := σ2) (Ps := []) (by decide +kernel) rfl trivial ?_
      exact r_ret (by decide +kernel) rfl (fun _ => h)
    · replace h := h.2 c
      refine r_blk [qO (.iconst 1), qO (.goto 4)] (pc' := 36) (L' := [zR 0 0, zI a0, zI (zwithin a0 0 2879)]) (S' := [zI 1]) (σ' := σ2) (Ps := []) (by decide +kernel) rfl trivial ?_
      exact r_ret (by decide +kernel) rfl (fun _ => h)
  · replace h := h.2 c
    refine r_blk [qO (.aload_n 0), qO (.iload_n 2)] (pc' := 12) (L' := [zR 0 0, zI a0, zI (zwithin a0 0 2879)]) (S' := [zI (zwithin a0 0 2879), zR 0 0]) (σ' := σ) (Ps := []) (by decide +kernel) rfl trivial ?_
    refine r_callVI (As := [zI (zwithin a0 0 2879)]) (S := []) (Lc := [zR 0 0, zI (zwithin a0 0 2879)]) (d' := 0) (n := 1) (g := 0) (x := 0) (ci := 10) kX10_refuse vX10_refuse lkX10_98 (by decide +kernel) (by decide) rfl rfl (by decide) rfl rfl (Nat.le_of_ble_eq_true rfl) rfl rfl (Nat.le_of_ble_eq_true rfl) (pX10_refuse h.1 h.2.1 ?_)
    replace h := h.2.2
    generalize hσ4 : zup σ 33 0 (-(zwithin a0 0 2879)).toNat (σ 33 0 (-(zwithin a0 0 2879)).toNat + 1) = σ4
    replace h := h σ4 hσ4.symm
    exact r_ret (by decide +kernel) rfl (fun _ => h)
theorem gX11_all_0 (a0 : Int) (σ : Hp) {Q : Option Int → Hp → Prop} (h : ((zwithin a0 0 2879 = 0 → Runs 4 mX11_apartAt 0 [zR 34 0, zI a0, zU, zU, zU] [] σ (rI (fun z2 σ1 => ((¬ z2 = 0 → Q (some 0) σ1) ∧ (z2 = 0 → Q (some 1) σ1))))) ∧ (¬ zwithin a0 0 2879 = 0 → (-6 ≤ (zwithin a0 0 2879) ∧ (zwithin a0 0 2879) ≤ -1) ∧ (σ 35 0 (-(zwithin a0 0 2879)).toNat ≤ 2147483646) ∧ ∀ σ3 : Hp, σ3 = zup σ 35 0 (-(zwithin a0 0 2879)).toNat (σ 35 0 (-(zwithin a0 0 2879)).toNat + 1) → Q (some (zwithin a0 0 2879)) σ3))) : Runs 5 mX11_all 0 [zR 34 0, zI a0, zU] [] σ Q := by
  refine r_blk [qO (.iload_n 1), qO (.iconst 0), qO (.sipush 2879)] (pc' := 5) (L' := [zR 34 0, zI a0, zU]) (S' := [zI 2879, zI 0, zI a0]) (σ' := σ) (Ps := []) (by decide +kernel) rfl trivial ?_
  refine r_callSI (As := [zI a0, zI 0, zI 2879]) (S := []) (Lc := [zI a0, zI 0, zI 2879]) (d' := 0) (n := 3) kX11_within vX11_within lkX11_119 (by decide +kernel) (by decide) rfl rfl (Nat.le_of_ble_eq_true rfl) rfl rfl (Nat.le_of_ble_eq_true rfl) (pX11_within  ?_)
  refine r_blk [qO (.istore_n 2), qO (.iload_n 2)] (pc' := 10) (L' := [zR 34 0, zI a0, zI (zwithin a0 0 2879)]) (S' := [zI (zwithin a0 0 2879)]) (σ' := σ) (Ps := []) (by decide +kernel) rfl trivial ?_
  refine r_if_eq (off := 11) (tgt := 21) (by decide +kernel) (by decide) (fun c => ?_) (fun c => ?_)
  · replace h := h.1 c
    refine r_blk [qO (.aload_n 0), qO (.iload_n 1)] (pc' := 23) (L' := [zR 34 0, zI a0, zI (zwithin a0 0 2879)]) (S' := [zI a0, zR 34 0]) (σ' := σ) (Ps := []) (by decide +kernel) rfl trivial ?_
    refine r_callVI (As := [zI a0]) (S := []) (Lc := [zR 34 0, zI a0, zU, zU, zU]) (d' := 4) (n := 1) (g := 34) (x := 0) (ci := 11) kX11_apartAt vX11_apartAt lkX11_160 (by decide +kernel) (by decide) rfl rfl (by decide) rfl rfl (Nat.le_of_ble_eq_true rfl) rfl rfl (Nat.le_of_ble_eq_true rfl) (h.monoI (fun z2 σ1 h => ?_))
    refine r_if_ne (off := 7) (tgt := 33) (by decide +kernel) (by decide) (fun c => ?_) (fun c => ?_)
    · replace h := h.1 c
      refine r_blk [qO (.iconst 0)] (pc' := 34) (L' := [zR 34 0, zI a0, zI (zwithin a0 0 2879)]) (S' := [zI 0]) (σ' := σ1) (Ps := []) (by decide +kernel) rfl trivial ?_
      exact r_ret (by decide +kernel) rfl (fun _ => h)
    · replace h := h.2 c
      refine r_blk [qO (.iconst 1), qO (.goto 4)] (pc' := 34) (L' := [zR 34 0, zI a0, zI (zwithin a0 0 2879)]) (S' := [zI 1]) (σ' := σ1) (Ps := []) (by decide +kernel) rfl trivial ?_
      exact r_ret (by decide +kernel) rfl (fun _ => h)
  · replace h := h.2 c
    refine r_blk [qO (.aload_n 0), qO (.iload_n 2)] (pc' := 15) (L' := [zR 34 0, zI a0, zI (zwithin a0 0 2879)]) (S' := [zI (zwithin a0 0 2879), zR 34 0]) (σ' := σ) (Ps := []) (by decide +kernel) rfl trivial ?_
    refine r_callVI (As := [zI (zwithin a0 0 2879)]) (S := []) (Lc := [zR 34 0, zI (zwithin a0 0 2879)]) (d' := 0) (n := 1) (g := 34) (x := 0) (ci := 11) kX11_refuse vX11_refuse lkX11_66 (by decide +kernel) (by decide) rfl rfl (by decide) rfl rfl (Nat.le_of_ble_eq_true rfl) rfl rfl (Nat.le_of_ble_eq_true rfl) (pX11_refuse h.1 h.2.1 ?_)
    replace h := h.2.2
    generalize hσ3 : zup σ 35 0 (-(zwithin a0 0 2879)).toNat (σ 35 0 (-(zwithin a0 0 2879)).toNat + 1) = σ3
    replace h := h σ3 hσ3.symm
    refine r_blk [qO (.goto 16)] (pc' := 34) (L' := [zR 34 0, zI a0, zI (zwithin a0 0 2879)]) (S' := [zI (zwithin a0 0 2879)]) (σ' := σ3) (Ps := []) (by decide +kernel) rfl trivial ?_
    exact r_ret (by decide +kernel) rfl (fun _ => h)
theorem gX10_longest_0 (a0 : Int) (σ : Hp) {Q : Option Int → Hp → Prop} (h : ((zwithin a0 0 2879 = 0 → Runs 3 mX10_freezeAsItIs 0 [zR 0 0, zI a0] [] σ (rV (fun σ1 => Runs 1 mX0_farthest 0 [zR 19 0, zU, zU, zU] [] σ1 (rI (fun z3 σ2 => Q (some z3) σ2))))) ∧ (¬ zwithin a0 0 2879 = 0 → (-6 ≤ (zwithin a0 0 2879) ∧ (zwithin a0 0 2879) ≤ -1) ∧ (σ 33 0 (-(zwithin a0 0 2879)).toNat ≤ 2147483646) ∧ ∀ σ4 : Hp, σ4 = zup σ 33 0 (-(zwithin a0 0 2879)).toNat (σ 33 0 (-(zwithin a0 0 2879)).toNat + 1) → Q (some (zwithin a0 0 2879)) σ4))) : Runs 4 mX10_longest 0 [zR 0 0, zI a0, zU] [] σ Q := by
  refine r_blk [qO (.aload_n 0), qO (.iload_n 1)] (pc' := 2) (L' := [zR 0 0, zI a0, zU]) (S' := [zI a0, zR 0 0]) (σ' := σ) (Ps := []) (by decide +kernel) rfl trivial ?_
  refine r_callVI (As := [zI a0]) (S := []) (Lc := [zR 0 0, zI a0]) (d' := 0) (n := 1) (g := 0) (x := 0) (ci := 10) kX10_refusalOfMinute vX10_refusalOfMinute lkX10_170 (by decide +kernel) (by decide) rfl rfl (by decide) rfl rfl (Nat.le_of_ble_eq_true rfl) rfl rfl (Nat.le_of_ble_eq_true rfl) (pX10_refusalOfMinute  ?_)
  refine r_blk [qO (.istore_n 2), qO (.iload_n 2)] (pc' := 7) (L' := [zR 0 0, zI a0, zI (zwithin a0 0 2879)]) (S' := [zI (zwithin a0 0 2879)]) (σ' := σ) (Ps := []) (by decide +kernel) rfl trivial ?_
  refine r_if_eq (off := 9) (tgt := 16) (by decide +kernel) (by decide) (fun c => ?_) (fun c => ?_)
  · replace h := h.1 c
    refine r_blk [qO (.aload_n 0), qO (.iload_n 1)] (pc' := 18) (L' := [zR 0 0, zI a0, zI (zwithin a0 0 2879)]) (S' := [zI a0, zR 0 0]) (σ' := σ) (Ps := []) (by decide +kernel) rfl trivial ?_
    refine r_callVV (As := [zI a0]) (S := []) (Lc := [zR 0 0, zI a0]) (d' := 3) (n := 1) (g := 0) (x := 0) (ci := 10) kX10_freezeAsItIs vX10_freezeAsItIs lkX10_204 (by decide +kernel) (by decide) rfl rfl (by decide) rfl rfl (Nat.le_of_ble_eq_true rfl) rfl rfl (Nat.le_of_ble_eq_true rfl) (h.monoV (fun σ1 h => ?_))
    refine r_blk [qO (.aload_n 0), qF (.getfield 56) 10 6] (pc' := 25) (L' := [zR 0 0, zI a0, zI (zwithin a0 0 2879)]) (S' := [zR 19 0]) (σ' := σ1) (Ps := []) (by decide +kernel) rfl trivial ?_
    refine r_callVI (As := []) (S := []) (Lc := [zR 19 0, zU, zU, zU]) (d' := 1) (n := 0) (g := 19) (x := 0) (ci := 0) kX0_farthest vX0_farthest lkX10_210 (by decide +kernel) (by decide) rfl rfl (by decide) rfl rfl (Nat.le_of_ble_eq_true rfl) rfl rfl (Nat.le_of_ble_eq_true rfl) (h.monoI (fun z3 σ2 h => ?_))
    exact r_ret (by decide +kernel) rfl (fun _ => h)
  · replace h := h.2 c
    refine r_blk [qO (.aload_n 0), qO (.iload_n 2)] (pc' := 12) (L' := [zR 0 0, zI a0, zI (zwithin a0 0 2879)]) (S' := [zI (zwithin a0 0 2879), zR 0 0]) (σ' := σ) (Ps := []) (by decide +kernel) rfl trivial ?_
    refine r_callVI (As := [zI (zwithin a0 0 2879)]) (S := []) (Lc := [zR 0 0, zI (zwithin a0 0 2879)]) (d' := 0) (n := 1) (g := 0) (x := 0) (ci := 10) kX10_refuse vX10_refuse lkX10_98 (by decide +kernel) (by decide) rfl rfl (by decide) rfl rfl (Nat.le_of_ble_eq_true rfl) rfl rfl (Nat.le_of_ble_eq_true rfl) (pX10_refuse h.1 h.2.1 ?_)
    replace h := h.2.2
    generalize hσ4 : zup σ 33 0 (-(zwithin a0 0 2879)).toNat (σ 33 0 (-(zwithin a0 0 2879)).toNat + 1) = σ4
    replace h := h σ4 hσ4.symm
    exact r_ret (by decide +kernel) rfl (fun _ => h)
theorem gX11_longest_0 (a0 : Int) (σ : Hp) {Q : Option Int → Hp → Prop} (h : ((zwithin a0 0 2879 = 0 → Runs 5 mX11_longestAt 0 [zR 34 0, zI a0, zU, zU, zU] [] σ (rI (fun z2 σ1 => Q (some z2) σ1))) ∧ (¬ zwithin a0 0 2879 = 0 → (-6 ≤ (zwithin a0 0 2879) ∧ (zwithin a0 0 2879) ≤ -1) ∧ (σ 35 0 (-(zwithin a0 0 2879)).toNat ≤ 2147483646) ∧ ∀ σ3 : Hp, σ3 = zup σ 35 0 (-(zwithin a0 0 2879)).toNat (σ 35 0 (-(zwithin a0 0 2879)).toNat + 1) → Q (some (zwithin a0 0 2879)) σ3))) : Runs 6 mX11_longest 0 [zR 34 0, zI a0, zU] [] σ Q := by
  refine r_blk [qO (.iload_n 1), qO (.iconst 0), qO (.sipush 2879)] (pc' := 5) (L' := [zR 34 0, zI a0, zU]) (S' := [zI 2879, zI 0, zI a0]) (σ' := σ) (Ps := []) (by decide +kernel) rfl trivial ?_
  refine r_callSI (As := [zI a0, zI 0, zI 2879]) (S := []) (Lc := [zI a0, zI 0, zI 2879]) (d' := 0) (n := 3) kX11_within vX11_within lkX11_119 (by decide +kernel) (by decide) rfl rfl (Nat.le_of_ble_eq_true rfl) rfl rfl (Nat.le_of_ble_eq_true rfl) (pX11_within  ?_)
  refine r_blk [qO (.istore_n 2), qO (.iload_n 2)] (pc' := 10) (L' := [zR 34 0, zI a0, zI (zwithin a0 0 2879)]) (S' := [zI (zwithin a0 0 2879)]) (σ' := σ) (Ps := []) (by decide +kernel) rfl trivial ?_
  refine r_if_eq (off := 11) (tgt := 21) (by decide +kernel) (by decide) (fun c => ?_) (fun c => ?_)
  · replace h := h.1 c
    refine r_blk [qO (.aload_n 0), qO (.iload_n 1)] (pc' := 23) (L' := [zR 34 0, zI a0, zI (zwithin a0 0 2879)]) (S' := [zI a0, zR 34 0]) (σ' := σ) (Ps := []) (by decide +kernel) rfl trivial ?_
    refine r_callVI (As := [zI a0]) (S := []) (Lc := [zR 34 0, zI a0, zU, zU, zU]) (d' := 5) (n := 1) (g := 34) (x := 0) (ci := 11) kX11_longestAt vX11_longestAt lkX11_163 (by decide +kernel) (by decide) rfl rfl (by decide) rfl rfl (Nat.le_of_ble_eq_true rfl) rfl rfl (Nat.le_of_ble_eq_true rfl) (h.monoI (fun z2 σ1 h => ?_))
    exact r_ret (by decide +kernel) rfl (fun _ => h)
  · replace h := h.2 c
    refine r_blk [qO (.aload_n 0), qO (.iload_n 2)] (pc' := 15) (L' := [zR 34 0, zI a0, zI (zwithin a0 0 2879)]) (S' := [zI (zwithin a0 0 2879), zR 34 0]) (σ' := σ) (Ps := []) (by decide +kernel) rfl trivial ?_
    refine r_callVI (As := [zI (zwithin a0 0 2879)]) (S := []) (Lc := [zR 34 0, zI (zwithin a0 0 2879)]) (d' := 0) (n := 1) (g := 34) (x := 0) (ci := 11) kX11_refuse vX11_refuse lkX11_66 (by decide +kernel) (by decide) rfl rfl (by decide) rfl rfl (Nat.le_of_ble_eq_true rfl) rfl rfl (Nat.le_of_ble_eq_true rfl) (pX11_refuse h.1 h.2.1 ?_)
    replace h := h.2.2
    generalize hσ3 : zup σ 35 0 (-(zwithin a0 0 2879)).toNat (σ 35 0 (-(zwithin a0 0 2879)).toNat + 1) = σ3
    replace h := h σ3 hσ3.symm
    refine r_blk [qO (.goto 8)] (pc' := 26) (L' := [zR 34 0, zI a0, zI (zwithin a0 0 2879)]) (S' := [zI (zwithin a0 0 2879)]) (σ' := σ3) (Ps := []) (by decide +kernel) rfl trivial ?_
    exact r_ret (by decide +kernel) rfl (fun _ => h)
theorem gX10_apart_0 (a0 : Int) (σ : Hp) {Q : Option Int → Hp → Prop} (h : ((zwithin a0 0 2879 = 0 → Runs 3 mX10_freezeAsItIs 0 [zR 0 0, zI a0] [] σ (rV (fun σ1 => Runs 1 mX0_pairsApart 0 [zR 19 0, zU, zU, zU] [] σ1 (rI (fun z3 σ2 => Q (some z3) σ2))))) ∧ (¬ zwithin a0 0 2879 = 0 → (-6 ≤ (zwithin a0 0 2879) ∧ (zwithin a0 0 2879) ≤ -1) ∧ (σ 33 0 (-(zwithin a0 0 2879)).toNat ≤ 2147483646) ∧ ∀ σ4 : Hp, σ4 = zup σ 33 0 (-(zwithin a0 0 2879)).toNat (σ 33 0 (-(zwithin a0 0 2879)).toNat + 1) → Q (some (zwithin a0 0 2879)) σ4))) : Runs 4 mX10_apart 0 [zR 0 0, zI a0, zU] [] σ Q := by
  refine r_blk [qO (.aload_n 0), qO (.iload_n 1)] (pc' := 2) (L' := [zR 0 0, zI a0, zU]) (S' := [zI a0, zR 0 0]) (σ' := σ) (Ps := []) (by decide +kernel) rfl trivial ?_
  refine r_callVI (As := [zI a0]) (S := []) (Lc := [zR 0 0, zI a0]) (d' := 0) (n := 1) (g := 0) (x := 0) (ci := 10) kX10_refusalOfMinute vX10_refusalOfMinute lkX10_170 (by decide +kernel) (by decide) rfl rfl (by decide) rfl rfl (Nat.le_of_ble_eq_true rfl) rfl rfl (Nat.le_of_ble_eq_true rfl) (pX10_refusalOfMinute  ?_)
  refine r_blk [qO (.istore_n 2), qO (.iload_n 2)] (pc' := 7) (L' := [zR 0 0, zI a0, zI (zwithin a0 0 2879)]) (S' := [zI (zwithin a0 0 2879)]) (σ' := σ) (Ps := []) (by decide +kernel) rfl trivial ?_
  refine r_if_eq (off := 9) (tgt := 16) (by decide +kernel) (by decide) (fun c => ?_) (fun c => ?_)
  · replace h := h.1 c
    refine r_blk [qO (.aload_n 0), qO (.iload_n 1)] (pc' := 18) (L' := [zR 0 0, zI a0, zI (zwithin a0 0 2879)]) (S' := [zI a0, zR 0 0]) (σ' := σ) (Ps := []) (by decide +kernel) rfl trivial ?_
    refine r_callVV (As := [zI a0]) (S := []) (Lc := [zR 0 0, zI a0]) (d' := 3) (n := 1) (g := 0) (x := 0) (ci := 10) kX10_freezeAsItIs vX10_freezeAsItIs lkX10_204 (by decide +kernel) (by decide) rfl rfl (by decide) rfl rfl (Nat.le_of_ble_eq_true rfl) rfl rfl (Nat.le_of_ble_eq_true rfl) (h.monoV (fun σ1 h => ?_))
    refine r_blk [qO (.aload_n 0), qF (.getfield 56) 10 6] (pc' := 25) (L' := [zR 0 0, zI a0, zI (zwithin a0 0 2879)]) (S' := [zR 19 0]) (σ' := σ1) (Ps := []) (by decide +kernel) rfl trivial ?_
    refine r_callVI (As := []) (S := []) (Lc := [zR 19 0, zU, zU, zU]) (d' := 1) (n := 0) (g := 19) (x := 0) (ci := 0) kX0_pairsApart vX0_pairsApart lkX10_207 (by decide +kernel) (by decide) rfl rfl (by decide) rfl rfl (Nat.le_of_ble_eq_true rfl) rfl rfl (Nat.le_of_ble_eq_true rfl) (h.monoI (fun z3 σ2 h => ?_))
    exact r_ret (by decide +kernel) rfl (fun _ => h)
  · replace h := h.2 c
    refine r_blk [qO (.aload_n 0), qO (.iload_n 2)] (pc' := 12) (L' := [zR 0 0, zI a0, zI (zwithin a0 0 2879)]) (S' := [zI (zwithin a0 0 2879), zR 0 0]) (σ' := σ) (Ps := []) (by decide +kernel) rfl trivial ?_
    refine r_callVI (As := [zI (zwithin a0 0 2879)]) (S := []) (Lc := [zR 0 0, zI (zwithin a0 0 2879)]) (d' := 0) (n := 1) (g := 0) (x := 0) (ci := 10) kX10_refuse vX10_refuse lkX10_98 (by decide +kernel) (by decide) rfl rfl (by decide) rfl rfl (Nat.le_of_ble_eq_true rfl) rfl rfl (Nat.le_of_ble_eq_true rfl) (pX10_refuse h.1 h.2.1 ?_)
    replace h := h.2.2
    generalize hσ4 : zup σ 33 0 (-(zwithin a0 0 2879)).toNat (σ 33 0 (-(zwithin a0 0 2879)).toNat + 1) = σ4
    replace h := h σ4 hσ4.symm
    exact r_ret (by decide +kernel) rfl (fun _ => h)
theorem gX11_apart_0 (a0 : Int) (σ : Hp) {Q : Option Int → Hp → Prop} (h : ((zwithin a0 0 2879 = 0 → Runs 4 mX11_apartAt 0 [zR 34 0, zI a0, zU, zU, zU] [] σ (rI (fun z2 σ1 => Q (some z2) σ1))) ∧ (¬ zwithin a0 0 2879 = 0 → (-6 ≤ (zwithin a0 0 2879) ∧ (zwithin a0 0 2879) ≤ -1) ∧ (σ 35 0 (-(zwithin a0 0 2879)).toNat ≤ 2147483646) ∧ ∀ σ3 : Hp, σ3 = zup σ 35 0 (-(zwithin a0 0 2879)).toNat (σ 35 0 (-(zwithin a0 0 2879)).toNat + 1) → Q (some (zwithin a0 0 2879)) σ3))) : Runs 5 mX11_apart 0 [zR 34 0, zI a0, zU] [] σ Q := by
  refine r_blk [qO (.iload_n 1), qO (.iconst 0), qO (.sipush 2879)] (pc' := 5) (L' := [zR 34 0, zI a0, zU]) (S' := [zI 2879, zI 0, zI a0]) (σ' := σ) (Ps := []) (by decide +kernel) rfl trivial ?_
  refine r_callSI (As := [zI a0, zI 0, zI 2879]) (S := []) (Lc := [zI a0, zI 0, zI 2879]) (d' := 0) (n := 3) kX11_within vX11_within lkX11_119 (by decide +kernel) (by decide) rfl rfl (Nat.le_of_ble_eq_true rfl) rfl rfl (Nat.le_of_ble_eq_true rfl) (pX11_within  ?_)
  refine r_blk [qO (.istore_n 2), qO (.iload_n 2)] (pc' := 10) (L' := [zR 34 0, zI a0, zI (zwithin a0 0 2879)]) (S' := [zI (zwithin a0 0 2879)]) (σ' := σ) (Ps := []) (by decide +kernel) rfl trivial ?_
  refine r_if_eq (off := 11) (tgt := 21) (by decide +kernel) (by decide) (fun c => ?_) (fun c => ?_)
  · replace h := h.1 c
    refine r_blk [qO (.aload_n 0), qO (.iload_n 1)] (pc' := 23) (L' := [zR 34 0, zI a0, zI (zwithin a0 0 2879)]) (S' := [zI a0, zR 34 0]) (σ' := σ) (Ps := []) (by decide +kernel) rfl trivial ?_
    refine r_callVI (As := [zI a0]) (S := []) (Lc := [zR 34 0, zI a0, zU, zU, zU]) (d' := 4) (n := 1) (g := 34) (x := 0) (ci := 11) kX11_apartAt vX11_apartAt lkX11_160 (by decide +kernel) (by decide) rfl rfl (by decide) rfl rfl (Nat.le_of_ble_eq_true rfl) rfl rfl (Nat.le_of_ble_eq_true rfl) (h.monoI (fun z2 σ1 h => ?_))
    exact r_ret (by decide +kernel) rfl (fun _ => h)
  · replace h := h.2 c
    refine r_blk [qO (.aload_n 0), qO (.iload_n 2)] (pc' := 15) (L' := [zR 34 0, zI a0, zI (zwithin a0 0 2879)]) (S' := [zI (zwithin a0 0 2879), zR 34 0]) (σ' := σ) (Ps := []) (by decide +kernel) rfl trivial ?_
    refine r_callVI (As := [zI (zwithin a0 0 2879)]) (S := []) (Lc := [zR 34 0, zI (zwithin a0 0 2879)]) (d' := 0) (n := 1) (g := 34) (x := 0) (ci := 11) kX11_refuse vX11_refuse lkX11_66 (by decide +kernel) (by decide) rfl rfl (by decide) rfl rfl (Nat.le_of_ble_eq_true rfl) rfl rfl (Nat.le_of_ble_eq_true rfl) (pX11_refuse h.1 h.2.1 ?_)
    replace h := h.2.2
    generalize hσ3 : zup σ 35 0 (-(zwithin a0 0 2879)).toNat (σ 35 0 (-(zwithin a0 0 2879)).toNat + 1) = σ3
    replace h := h σ3 hσ3.symm
    refine r_blk [qO (.goto 8)] (pc' := 26) (L' := [zR 34 0, zI a0, zI (zwithin a0 0 2879)]) (S' := [zI (zwithin a0 0 2879)]) (σ' := σ3) (Ps := []) (by decide +kernel) rfl trivial ?_
    exact r_ret (by decide +kernel) rfl (fun _ => h)
theorem gX10_can_0 (σ : Hp) {Q : Option Int → Hp → Prop} (h : Runs 1 mX2_hangsTogether 0 [zR 22 0] [] σ (rI (fun z2 σ1 => ((z2 = 0 → Q (some 0) σ1) ∧ (¬ z2 = 0 → Runs 1 mX2_bridgeOnes 0 [zR 22 0, zU, zU, zU] [] σ1 (rI (fun z4 σ3 => ((¬ z4 = 0 → Q (some 0) σ3) ∧ (z4 = 0 → Q (some 1) σ3))))))))) : Runs 2 mX10_can 0 [zR 0 0] [] σ Q := by
  refine r_blk [qO (.aload_n 0), qF (.getfield 63) 10 7] (pc' := 4) (L' := [zR 0 0]) (S' := [zR 22 0]) (σ' := σ) (Ps := []) (by decide +kernel) rfl trivial ?_
  refine r_callVI (As := []) (S := []) (Lc := [zR 22 0]) (d' := 1) (n := 0) (g := 22) (x := 0) (ci := 2) kX2_hangsTogether vX2_hangsTogether lkX10_213 (by decide +kernel) (by decide) rfl rfl (by decide) rfl rfl (Nat.le_of_ble_eq_true rfl) rfl rfl (Nat.le_of_ble_eq_true rfl) (h.monoI (fun z2 σ1 h => ?_))
  refine r_if_eq (off := 17) (tgt := 24) (by decide +kernel) (by decide) (fun c => ?_) (fun c => ?_)
  · replace h := h.1 c
    refine r_blk [qO (.iconst 0)] (pc' := 25) (L' := [zR 0 0]) (S' := [zI 0]) (σ' := σ1) (Ps := []) (by decide +kernel) rfl trivial ?_
    exact r_ret (by decide +kernel) rfl (fun _ => h)
  · replace h := h.2 c
    refine r_blk [qO (.aload_n 0), qF (.getfield 63) 10 7] (pc' := 14) (L' := [zR 0 0]) (S' := [zR 22 0]) (σ' := σ1) (Ps := []) (by decide +kernel) rfl trivial ?_
    refine r_callVI (As := []) (S := []) (Lc := [zR 22 0, zU, zU, zU]) (d' := 1) (n := 0) (g := 22) (x := 0) (ci := 2) kX2_bridgeOnes vX2_bridgeOnes lkX10_217 (by decide +kernel) (by decide) rfl rfl (by decide) rfl rfl (Nat.le_of_ble_eq_true rfl) rfl rfl (Nat.le_of_ble_eq_true rfl) (h.monoI (fun z4 σ3 h => ?_))
    refine r_if_ne (off := 7) (tgt := 24) (by decide +kernel) (by decide) (fun c => ?_) (fun c => ?_)
    · replace h := h.1 c
      refine r_blk [qO (.iconst 0)] (pc' := 25) (L' := [zR 0 0]) (S' := [zI 0]) (σ' := σ3) (Ps := []) (by decide +kernel) rfl trivial ?_
      exact r_ret (by decide +kernel) rfl (fun _ => h)
    · replace h := h.2 c
      refine r_blk [qO (.iconst 1), qO (.goto 4)] (pc' := 25) (L' := [zR 0 0]) (S' := [zI 1]) (σ' := σ3) (Ps := []) (by decide +kernel) rfl trivial ?_
      exact r_ret (by decide +kernel) rfl (fun _ => h)
theorem gX10_bridges_0 (σ : Hp) {Q : Option Int → Hp → Prop} (h : Runs 1 mX2_bridgeOnes 0 [zR 22 0, zU, zU, zU] [] σ (rI (fun z2 σ1 => Q (some z2) σ1))) : Runs 2 mX10_bridges 0 [zR 0 0] [] σ Q := by
  refine r_blk [qO (.aload_n 0), qF (.getfield 63) 10 7] (pc' := 4) (L' := [zR 0 0]) (S' := [zR 22 0]) (σ' := σ) (Ps := []) (by decide +kernel) rfl trivial ?_
  refine r_callVI (As := []) (S := []) (Lc := [zR 22 0, zU, zU, zU]) (d' := 1) (n := 0) (g := 22) (x := 0) (ci := 2) kX2_bridgeOnes vX2_bridgeOnes lkX10_217 (by decide +kernel) (by decide) rfl rfl (by decide) rfl rfl (Nat.le_of_ble_eq_true rfl) rfl rfl (Nat.le_of_ble_eq_true rfl) (h.monoI (fun z2 σ1 h => ?_))
  exact r_ret (by decide +kernel) rfl (fun _ => h)
theorem gX10_walk_0 (σ : Hp) {Q : Option Int → Hp → Prop} (h : Runs 1 mX2_walkThrough 0 [zR 22 0, zU, zU, zU, zU, zU, zU, zU] [] σ (rI (fun z2 σ1 => Q (some z2) σ1))) : Runs 2 mX10_walk 0 [zR 0 0] [] σ Q := by
  refine r_blk [qO (.aload_n 0), qF (.getfield 63) 10 7] (pc' := 4) (L' := [zR 0 0]) (S' := [zR 22 0]) (σ' := σ) (Ps := []) (by decide +kernel) rfl trivial ?_
  refine r_callVI (As := []) (S := []) (Lc := [zR 22 0, zU, zU, zU, zU, zU, zU, zU]) (d' := 1) (n := 0) (g := 22) (x := 0) (ci := 2) kX2_walkThrough vX2_walkThrough lkX10_220 (by decide +kernel) (by decide) rfl rfl (by decide) rfl rfl (Nat.le_of_ble_eq_true rfl) rfl rfl (Nat.le_of_ble_eq_true rfl) (h.monoI (fun z2 σ1 h => ?_))
  exact r_ret (by decide +kernel) rfl (fun _ => h)
theorem gX11_walk_0 (σ : Hp) {Q : Option Int → Hp → Prop} (h : Runs 10 mX11_walks 0 [zR 34 0, zI 0, zU, zU] [] (zup (zup (zup σ 34 0 17 0) 34 0 18 0) 34 0 19 0) (rV (fun σ1 => Q (some (σ1 34 0 18)) σ1))) : Runs 11 mX11_walk 0 [zR 34 0] [] σ Q := by
  refine r_blk [qO (.aload_n 0), qO (.iconst 0), qF (.putfield 178) 11 17, qO (.aload_n 0), qO (.iconst 0), qF (.putfield 181) 11 18, qO (.aload_n 0), qO (.iconst 0), qF (.putfield 175) 11 19, qO (.aload_n 0), qO (.iconst 0)] (pc' := 17) (L' := [zR 34 0]) (S' := [zI 0, zR 34 0]) (σ' := (zup (zup (zup σ 34 0 17 0) 34 0 18 0) 34 0 19 0)) (Ps := []) (by decide +kernel) rfl trivial ?_
  refine r_callVV (As := [zI 0]) (S := []) (Lc := [zR 34 0, zI 0, zU, zU]) (d' := 10) (n := 1) (g := 34) (x := 0) (ci := 11) kX11_walks vX11_walks lkX11_184 (by decide +kernel) (by decide) rfl rfl (by decide) rfl rfl (Nat.le_of_ble_eq_true rfl) rfl rfl (Nat.le_of_ble_eq_true rfl) (h.monoV (fun σ1 h => ?_))
  refine r_blk [qO (.aload_n 0), qF (.getfield 181) 11 18] (pc' := 24) (L' := [zR 34 0]) (S' := [zI (σ1 34 0 18)]) (σ' := σ1) (Ps := []) (by decide +kernel) rfl trivial ?_
  exact r_ret (by decide +kernel) rfl (fun _ => h)
theorem gX10_cost_0 (σ : Hp) {Q : Option Int → Hp → Prop} (h : ∀ σ1 : Hp, σ1 = tTake σ → Runs 6 mX1_total 0 [zR 25 0] [] σ1 (rI (fun z3 σ2 => Q (some z3) σ2))) : Runs 7 mX10_cost 0 [zR 0 0] [] σ Q := by
  refine r_blk [qO (.aload_n 0), qF (.getfield 40) 10 4] (pc' := 4) (L' := [zR 0 0]) (S' := [zR 16 0]) (σ' := σ) (Ps := []) (by decide +kernel) rfl trivial ?_
  refine r_callVV (As := []) (S := []) (Lc := [zR 16 0]) (d' := 1) (n := 0) (g := 16) (x := 0) (ci := 7) kX7_takeAsItIs vX7_takeAsItIs lkX10_173 (by decide +kernel) (by decide) rfl rfl (by decide) rfl rfl (Nat.le_of_ble_eq_true rfl) rfl rfl (Nat.le_of_ble_eq_true rfl) (pX7_takeAsItIs  ?_)
  generalize hσ1 : tTake σ = σ1
  replace h := h σ1 hσ1.symm
  refine r_blk [qO (.aload_n 0), qF (.getfield 72) 10 8] (pc' := 11) (L' := [zR 0 0]) (S' := [zR 25 0]) (σ' := σ1) (Ps := []) (by decide +kernel) rfl trivial ?_
  refine r_callVI (As := []) (S := []) (Lc := [zR 25 0]) (d' := 6) (n := 0) (g := 25) (x := 0) (ci := 1) kX1_total vX1_total lkX10_223 (by decide +kernel) (by decide) rfl rfl (by decide) rfl rfl (Nat.le_of_ble_eq_true rfl) rfl rfl (Nat.le_of_ble_eq_true rfl) (h.monoI (fun z3 σ2 h => ?_))
  exact r_ret (by decide +kernel) rfl (fun _ => h)
theorem gX11_cost_0 (σ : Hp) {Q : Option Int → Hp → Prop} (h : Runs 5 mX11_costOf 0 [zR 34 0, zU, zU, zU] [] σ (rI (fun z2 σ1 => Q (some z2) σ1))) : Runs 6 mX11_cost 0 [zR 34 0] [] σ Q := by
  refine r_blk [qO (.aload_n 0)] (pc' := 1) (L' := [zR 34 0]) (S' := [zR 34 0]) (σ' := σ) (Ps := []) (by decide +kernel) rfl trivial ?_
  refine r_callVI (As := []) (S := []) (Lc := [zR 34 0, zU, zU, zU]) (d' := 5) (n := 0) (g := 34) (x := 0) (ci := 11) kX11_costOf vX11_costOf lkX11_187 (by decide +kernel) (by decide) rfl rfl (by decide) rfl rfl (Nat.le_of_ble_eq_true rfl) rfl rfl (Nat.le_of_ble_eq_true rfl) (h.monoI (fun z2 σ1 h => ?_))
  exact r_ret (by decide +kernel) rfl (fun _ => h)
theorem gX10_best_0 (σ : Hp) {Q : Option Int → Hp → Prop} (h : ((zfew (σ 1 0 1) = 0 → ∀ σ1 : Hp, σ1 = tTake σ → Runs 6 mX9_cheapestPointing 0 [zR 26 0, zU, zU, zU, zU] [] σ1 (rI (fun z3 σ2 => Q (some z3) σ2))) ∧ (¬ zfew (σ 1 0 1) = 0 → (-6 ≤ (zfew (σ 1 0 1)) ∧ (zfew (σ 1 0 1)) ≤ -1) ∧ (σ 33 0 (-(zfew (σ 1 0 1))).toNat ≤ 2147483646) ∧ ∀ σ4 : Hp, σ4 = zup σ 33 0 (-(zfew (σ 1 0 1))).toNat (σ 33 0 (-(zfew (σ 1 0 1))).toNat + 1) → Q (some (zfew (σ 1 0 1))) σ4))) : Runs 7 mX10_best 0 [zR 0 0, zU] [] σ Q := by
  refine r_blk [qO (.aload_n 0)] (pc' := 1) (L' := [zR 0 0, zU]) (S' := [zR 0 0]) (σ' := σ) (Ps := []) (by decide +kernel) rfl trivial ?_
  refine r_callVI (As := []) (S := []) (Lc := [zR 0 0]) (d' := 0) (n := 0) (g := 0) (x := 0) (ci := 10) kX10_refusalOfTrying vX10_refusalOfTrying lkX10_226 (by decide +kernel) (by decide) rfl rfl (by decide) rfl rfl (Nat.le_of_ble_eq_true rfl) rfl rfl (Nat.le_of_ble_eq_true rfl) (pX10_refusalOfTrying  ?_)
  refine r_blk [qO (.istore_n 1), qO (.iload_n 1)] (pc' := 6) (L' := [zR 0 0, zI (zfew (σ 1 0 1))]) (S' := [zI (zfew (σ 1 0 1))]) (σ' := σ) (Ps := []) (by decide +kernel) rfl trivial ?_
  refine r_if_eq (off := 9) (tgt := 15) (by decide +kernel) (by decide) (fun c => ?_) (fun c => ?_)
  · replace h := h.1 c
    refine r_blk [qO (.aload_n 0), qF (.getfield 40) 10 4] (pc' := 19) (L' := [zR 0 0, zI (zfew (σ 1 0 1))]) (S' := [zR 16 0]) (σ' := σ) (Ps := []) (by decide +kernel) rfl trivial ?_
    refine r_callVV (As := []) (S := []) (Lc := [zR 16 0]) (d' := 1) (n := 0) (g := 16) (x := 0) (ci := 7) kX7_takeAsItIs vX7_takeAsItIs lkX10_173 (by decide +kernel) (by decide) rfl rfl (by decide) rfl rfl (Nat.le_of_ble_eq_true rfl) rfl rfl (Nat.le_of_ble_eq_true rfl) (pX7_takeAsItIs  ?_)
    generalize hσ1 : tTake σ = σ1
    replace h := h σ1 hσ1.symm
    refine r_blk [qO (.aload_n 0), qF (.getfield 81) 10 9] (pc' := 26) (L' := [zR 0 0, zI (zfew (σ 1 0 1))]) (S' := [zR 26 0]) (σ' := σ1) (Ps := []) (by decide +kernel) rfl trivial ?_
    refine r_callVI (As := []) (S := []) (Lc := [zR 26 0, zU, zU, zU, zU]) (d' := 6) (n := 0) (g := 26) (x := 0) (ci := 9) kX9_cheapestPointing vX9_cheapestPointing lkX10_229 (by decide +kernel) (by decide) rfl rfl (by decide) rfl rfl (Nat.le_of_ble_eq_true rfl) rfl rfl (Nat.le_of_ble_eq_true rfl) (h.monoI (fun z3 σ2 h => ?_))
    exact r_ret (by decide +kernel) rfl (fun _ => h)
  · replace h := h.2 c
    refine r_blk [qO (.aload_n 0), qO (.iload_n 1)] (pc' := 11) (L' := [zR 0 0, zI (zfew (σ 1 0 1))]) (S' := [zI (zfew (σ 1 0 1)), zR 0 0]) (σ' := σ) (Ps := []) (by decide +kernel) rfl trivial ?_
    refine r_callVI (As := [zI (zfew (σ 1 0 1))]) (S := []) (Lc := [zR 0 0, zI (zfew (σ 1 0 1))]) (d' := 0) (n := 1) (g := 0) (x := 0) (ci := 10) kX10_refuse vX10_refuse lkX10_98 (by decide +kernel) (by decide) rfl rfl (by decide) rfl rfl (Nat.le_of_ble_eq_true rfl) rfl rfl (Nat.le_of_ble_eq_true rfl) (pX10_refuse h.1 h.2.1 ?_)
    replace h := h.2.2
    generalize hσ4 : zup σ 33 0 (-(zfew (σ 1 0 1))).toNat (σ 33 0 (-(zfew (σ 1 0 1))).toNat + 1) = σ4
    replace h := h σ4 hσ4.symm
    exact r_ret (by decide +kernel) rfl (fun _ => h)
theorem gX11_best_0 (σ : Hp) {Q : Option Int → Hp → Prop} (h : ((zfew (σ 36 0 1) = 0 → Runs 6 mX11_bestOf 0 [zR 34 0, zI 0, zU, zU, zU, zU, zU] [] σ (rI (fun z2 σ1 => Q (some z2) σ1))) ∧ (¬ zfew (σ 36 0 1) = 0 → (-6 ≤ (zfew (σ 36 0 1)) ∧ (zfew (σ 36 0 1)) ≤ -1) ∧ (σ 35 0 (-(zfew (σ 36 0 1))).toNat ≤ 2147483646) ∧ ∀ σ3 : Hp, σ3 = zup σ 35 0 (-(zfew (σ 36 0 1))).toNat (σ 35 0 (-(zfew (σ 36 0 1))).toNat + 1) → Q (some (zfew (σ 36 0 1))) σ3))) : Runs 7 mX11_best 0 [zR 34 0, zU] [] σ Q := by
  refine r_blk [qO (.aload_n 0)] (pc' := 1) (L' := [zR 34 0, zU]) (S' := [zR 34 0]) (σ' := σ) (Ps := []) (by decide +kernel) rfl trivial ?_
  refine r_callVI (As := []) (S := []) (Lc := [zR 34 0]) (d' := 0) (n := 0) (g := 34) (x := 0) (ci := 11) kX11_wrongFew vX11_wrongFew lkX11_193 (by decide +kernel) (by decide) rfl rfl (by decide) rfl rfl (Nat.le_of_ble_eq_true rfl) rfl rfl (Nat.le_of_ble_eq_true rfl) (pX11_wrongFew  ?_)
  refine r_blk [qO (.istore_n 1), qO (.iload_n 1)] (pc' := 6) (L' := [zR 34 0, zI (zfew (σ 36 0 1))]) (S' := [zI (zfew (σ 36 0 1))]) (σ' := σ) (Ps := []) (by decide +kernel) rfl trivial ?_
  refine r_if_eq (off := 11) (tgt := 17) (by decide +kernel) (by decide) (fun c => ?_) (fun c => ?_)
  · replace h := h.1 c
    refine r_blk [qO (.aload_n 0), qO (.iconst 0)] (pc' := 19) (L' := [zR 34 0, zI (zfew (σ 36 0 1))]) (S' := [zI 0, zR 34 0]) (σ' := σ) (Ps := []) (by decide +kernel) rfl trivial ?_
    refine r_callVI (As := [zI 0]) (S := []) (Lc := [zR 34 0, zI 0, zU, zU, zU, zU, zU]) (d' := 6) (n := 1) (g := 34) (x := 0) (ci := 11) kX11_bestOf vX11_bestOf lkX11_196 (by decide +kernel) (by decide) rfl rfl (by decide) rfl rfl (Nat.le_of_ble_eq_true rfl) rfl rfl (Nat.le_of_ble_eq_true rfl) (h.monoI (fun z2 σ1 h => ?_))
    exact r_ret (by decide +kernel) rfl (fun _ => h)
  · replace h := h.2 c
    refine r_blk [qO (.aload_n 0), qO (.iload_n 1)] (pc' := 11) (L' := [zR 34 0, zI (zfew (σ 36 0 1))]) (S' := [zI (zfew (σ 36 0 1)), zR 34 0]) (σ' := σ) (Ps := []) (by decide +kernel) rfl trivial ?_
    refine r_callVI (As := [zI (zfew (σ 36 0 1))]) (S := []) (Lc := [zR 34 0, zI (zfew (σ 36 0 1))]) (d' := 0) (n := 1) (g := 34) (x := 0) (ci := 11) kX11_refuse vX11_refuse lkX11_66 (by decide +kernel) (by decide) rfl rfl (by decide) rfl rfl (Nat.le_of_ble_eq_true rfl) rfl rfl (Nat.le_of_ble_eq_true rfl) (pX11_refuse h.1 h.2.1 ?_)
    replace h := h.2.2
    generalize hσ3 : zup σ 35 0 (-(zfew (σ 36 0 1))).toNat (σ 35 0 (-(zfew (σ 36 0 1))).toNat + 1) = σ3
    replace h := h σ3 hσ3.symm
    refine r_blk [qO (.goto 8)] (pc' := 22) (L' := [zR 34 0, zI (zfew (σ 36 0 1))]) (S' := [zI (zfew (σ 36 0 1))]) (σ' := σ3) (Ps := []) (by decide +kernel) rfl trivial ?_
    exact r_ret (by decide +kernel) rfl (fun _ => h)
theorem gX10_far_0 (σ : Hp) {Q : Option Int → Hp → Prop} (h : ((zfew (σ 1 0 1) = 0 → ∀ σ1 : Hp, σ1 = tTake σ → Runs 3 mX9_nearestPointing 0 [zR 26 0, zU, zU, zU, zU] [] σ1 (rI (fun z3 σ2 => Q (some z3) σ2))) ∧ (¬ zfew (σ 1 0 1) = 0 → (-6 ≤ (zfew (σ 1 0 1)) ∧ (zfew (σ 1 0 1)) ≤ -1) ∧ (σ 33 0 (-(zfew (σ 1 0 1))).toNat ≤ 2147483646) ∧ ∀ σ4 : Hp, σ4 = zup σ 33 0 (-(zfew (σ 1 0 1))).toNat (σ 33 0 (-(zfew (σ 1 0 1))).toNat + 1) → Q (some (zfew (σ 1 0 1))) σ4))) : Runs 4 mX10_far 0 [zR 0 0, zU] [] σ Q := by
  refine r_blk [qO (.aload_n 0)] (pc' := 1) (L' := [zR 0 0, zU]) (S' := [zR 0 0]) (σ' := σ) (Ps := []) (by decide +kernel) rfl trivial ?_
  refine r_callVI (As := []) (S := []) (Lc := [zR 0 0]) (d' := 0) (n := 0) (g := 0) (x := 0) (ci := 10) kX10_refusalOfTrying vX10_refusalOfTrying lkX10_226 (by decide +kernel) (by decide) rfl rfl (by decide) rfl rfl (Nat.le_of_ble_eq_true rfl) rfl rfl (Nat.le_of_ble_eq_true rfl) (pX10_refusalOfTrying  ?_)
  refine r_blk [qO (.istore_n 1), qO (.iload_n 1)] (pc' := 6) (L' := [zR 0 0, zI (zfew (σ 1 0 1))]) (S' := [zI (zfew (σ 1 0 1))]) (σ' := σ) (Ps := []) (by decide +kernel) rfl trivial ?_
  refine r_if_eq (off := 9) (tgt := 15) (by decide +kernel) (by decide) (fun c => ?_) (fun c => ?_)
  · replace h := h.1 c
    refine r_blk [qO (.aload_n 0), qF (.getfield 40) 10 4] (pc' := 19) (L' := [zR 0 0, zI (zfew (σ 1 0 1))]) (S' := [zR 16 0]) (σ' := σ) (Ps := []) (by decide +kernel) rfl trivial ?_
    refine r_callVV (As := []) (S := []) (Lc := [zR 16 0]) (d' := 1) (n := 0) (g := 16) (x := 0) (ci := 7) kX7_takeAsItIs vX7_takeAsItIs lkX10_173 (by decide +kernel) (by decide) rfl rfl (by decide) rfl rfl (Nat.le_of_ble_eq_true rfl) rfl rfl (Nat.le_of_ble_eq_true rfl) (pX7_takeAsItIs  ?_)
    generalize hσ1 : tTake σ = σ1
    replace h := h σ1 hσ1.symm
    refine r_blk [qO (.aload_n 0), qF (.getfield 81) 10 9] (pc' := 26) (L' := [zR 0 0, zI (zfew (σ 1 0 1))]) (S' := [zR 26 0]) (σ' := σ1) (Ps := []) (by decide +kernel) rfl trivial ?_
    refine r_callVI (As := []) (S := []) (Lc := [zR 26 0, zU, zU, zU, zU]) (d' := 3) (n := 0) (g := 26) (x := 0) (ci := 9) kX9_nearestPointing vX9_nearestPointing lkX10_232 (by decide +kernel) (by decide) rfl rfl (by decide) rfl rfl (Nat.le_of_ble_eq_true rfl) rfl rfl (Nat.le_of_ble_eq_true rfl) (h.monoI (fun z3 σ2 h => ?_))
    exact r_ret (by decide +kernel) rfl (fun _ => h)
  · replace h := h.2 c
    refine r_blk [qO (.aload_n 0), qO (.iload_n 1)] (pc' := 11) (L' := [zR 0 0, zI (zfew (σ 1 0 1))]) (S' := [zI (zfew (σ 1 0 1)), zR 0 0]) (σ' := σ) (Ps := []) (by decide +kernel) rfl trivial ?_
    refine r_callVI (As := [zI (zfew (σ 1 0 1))]) (S := []) (Lc := [zR 0 0, zI (zfew (σ 1 0 1))]) (d' := 0) (n := 1) (g := 0) (x := 0) (ci := 10) kX10_refuse vX10_refuse lkX10_98 (by decide +kernel) (by decide) rfl rfl (by decide) rfl rfl (Nat.le_of_ble_eq_true rfl) rfl rfl (Nat.le_of_ble_eq_true rfl) (pX10_refuse h.1 h.2.1 ?_)
    replace h := h.2.2
    generalize hσ4 : zup σ 33 0 (-(zfew (σ 1 0 1))).toNat (σ 33 0 (-(zfew (σ 1 0 1))).toNat + 1) = σ4
    replace h := h σ4 hσ4.symm
    exact r_ret (by decide +kernel) rfl (fun _ => h)
theorem gX11_far_0 (σ : Hp) {Q : Option Int → Hp → Prop} (h : ((zfew (σ 36 0 1) = 0 → Runs 6 mX11_bestOf 0 [zR 34 0, zI 1, zU, zU, zU, zU, zU] [] σ (rI (fun z2 σ1 => Q (some z2) σ1))) ∧ (¬ zfew (σ 36 0 1) = 0 → (-6 ≤ (zfew (σ 36 0 1)) ∧ (zfew (σ 36 0 1)) ≤ -1) ∧ (σ 35 0 (-(zfew (σ 36 0 1))).toNat ≤ 2147483646) ∧ ∀ σ3 : Hp, σ3 = zup σ 35 0 (-(zfew (σ 36 0 1))).toNat (σ 35 0 (-(zfew (σ 36 0 1))).toNat + 1) → Q (some (zfew (σ 36 0 1))) σ3))) : Runs 7 mX11_far 0 [zR 34 0, zU] [] σ Q := by
  refine r_blk [qO (.aload_n 0)] (pc' := 1) (L' := [zR 34 0, zU]) (S' := [zR 34 0]) (σ' := σ) (Ps := []) (by decide +kernel) rfl trivial ?_
  refine r_callVI (As := []) (S := []) (Lc := [zR 34 0]) (d' := 0) (n := 0) (g := 34) (x := 0) (ci := 11) kX11_wrongFew vX11_wrongFew lkX11_193 (by decide +kernel) (by decide) rfl rfl (by decide) rfl rfl (Nat.le_of_ble_eq_true rfl) rfl rfl (Nat.le_of_ble_eq_true rfl) (pX11_wrongFew  ?_)
  refine r_blk [qO (.istore_n 1), qO (.iload_n 1)] (pc' := 6) (L' := [zR 34 0, zI (zfew (σ 36 0 1))]) (S' := [zI (zfew (σ 36 0 1))]) (σ' := σ) (Ps := []) (by decide +kernel) rfl trivial ?_
  refine r_if_eq (off := 11) (tgt := 17) (by decide +kernel) (by decide) (fun c => ?_) (fun c => ?_)
  · replace h := h.1 c
    refine r_blk [qO (.aload_n 0), qO (.iconst 1)] (pc' := 19) (L' := [zR 34 0, zI (zfew (σ 36 0 1))]) (S' := [zI 1, zR 34 0]) (σ' := σ) (Ps := []) (by decide +kernel) rfl trivial ?_
    refine r_callVI (As := [zI 1]) (S := []) (Lc := [zR 34 0, zI 1, zU, zU, zU, zU, zU]) (d' := 6) (n := 1) (g := 34) (x := 0) (ci := 11) kX11_bestOf vX11_bestOf lkX11_196 (by decide +kernel) (by decide) rfl rfl (by decide) rfl rfl (Nat.le_of_ble_eq_true rfl) rfl rfl (Nat.le_of_ble_eq_true rfl) (h.monoI (fun z2 σ1 h => ?_))
    exact r_ret (by decide +kernel) rfl (fun _ => h)
  · replace h := h.2 c
    refine r_blk [qO (.aload_n 0), qO (.iload_n 1)] (pc' := 11) (L' := [zR 34 0, zI (zfew (σ 36 0 1))]) (S' := [zI (zfew (σ 36 0 1)), zR 34 0]) (σ' := σ) (Ps := []) (by decide +kernel) rfl trivial ?_
    refine r_callVI (As := [zI (zfew (σ 36 0 1))]) (S := []) (Lc := [zR 34 0, zI (zfew (σ 36 0 1))]) (d' := 0) (n := 1) (g := 34) (x := 0) (ci := 11) kX11_refuse vX11_refuse lkX11_66 (by decide +kernel) (by decide) rfl rfl (by decide) rfl rfl (Nat.le_of_ble_eq_true rfl) rfl rfl (Nat.le_of_ble_eq_true rfl) (pX11_refuse h.1 h.2.1 ?_)
    replace h := h.2.2
    generalize hσ3 : zup σ 35 0 (-(zfew (σ 36 0 1))).toNat (σ 35 0 (-(zfew (σ 36 0 1))).toNat + 1) = σ3
    replace h := h σ3 hσ3.symm
    refine r_blk [qO (.goto 8)] (pc' := 22) (L' := [zR 34 0, zI (zfew (σ 36 0 1))]) (S' := [zI (zfew (σ 36 0 1))]) (σ' := σ3) (Ps := []) (by decide +kernel) rfl trivial ?_
    exact r_ret (by decide +kernel) rfl (fun _ => h)
theorem gX10_turning_0 (σ : Hp) {Q : Option Int → Hp → Prop} (h : ∀ σ1 : Hp, σ1 = tTake σ → Runs 6 mX9_turnedPointing 0 [zR 26 0, zU, zU, zU, zU, zU, zU, zU] [] σ1 (rI (fun z3 σ2 => Q (some z3) σ2))) : Runs 7 mX10_turning 0 [zR 0 0] [] σ Q := by
  refine r_blk [qO (.aload_n 0), qF (.getfield 40) 10 4] (pc' := 4) (L' := [zR 0 0]) (S' := [zR 16 0]) (σ' := σ) (Ps := []) (by decide +kernel) rfl trivial ?_
  refine r_callVV (As := []) (S := []) (Lc := [zR 16 0]) (d' := 1) (n := 0) (g := 16) (x := 0) (ci := 7) kX7_takeAsItIs vX7_takeAsItIs lkX10_173 (by decide +kernel) (by decide) rfl rfl (by decide) rfl rfl (Nat.le_of_ble_eq_true rfl) rfl rfl (Nat.le_of_ble_eq_true rfl) (pX7_takeAsItIs  ?_)
  generalize hσ1 : tTake σ = σ1
  replace h := h σ1 hσ1.symm
  refine r_blk [qO (.aload_n 0), qF (.getfield 81) 10 9] (pc' := 11) (L' := [zR 0 0]) (S' := [zR 26 0]) (σ' := σ1) (Ps := []) (by decide +kernel) rfl trivial ?_
  refine r_callVI (As := []) (S := []) (Lc := [zR 26 0, zU, zU, zU, zU, zU, zU, zU]) (d' := 6) (n := 0) (g := 26) (x := 0) (ci := 9) kX9_turnedPointing vX9_turnedPointing lkX10_235 (by decide +kernel) (by decide) rfl rfl (by decide) rfl rfl (Nat.le_of_ble_eq_true rfl) rfl rfl (Nat.le_of_ble_eq_true rfl) (h.monoI (fun z3 σ2 h => ?_))
  exact r_ret (by decide +kernel) rfl (fun _ => h)
theorem gX10_bothWays_0 (a0 : Int) (σ : Hp) {Q : Option Int → Hp → Prop} (h : ((0 ≤ a0 → ((σ 1 0 1 ≤ 10 → ∀ σ1 : Hp, σ1 = tTake σ → Runs 6 mX9_fewestForCost 0 [zR 26 0, zI a0, zU, zU, zU] [] σ1 (rI (fun z3 σ2 => Q (some z3) σ2))) ∧ (¬ σ 1 0 1 ≤ 10 → (-6 ≤ (-6) ∧ (-6) ≤ -1) ∧ (σ 33 0 (-(-6)).toNat ≤ 2147483646) ∧ ∀ σ4 : Hp, σ4 = zup σ 33 0 (-(-6)).toNat (σ 33 0 (-(-6)).toNat + 1) → Q (some (-6)) σ4))) ∧ (¬ 0 ≤ a0 → (-6 ≤ (-4) ∧ (-4) ≤ -1) ∧ (σ 33 0 (-(-4)).toNat ≤ 2147483646) ∧ ∀ σ5 : Hp, σ5 = zup σ 33 0 (-(-4)).toNat (σ 33 0 (-(-4)).toNat + 1) → Q (some (-4)) σ5))) : Runs 7 mX10_bothWays 0 [zR 0 0, zI a0] [] σ Q := by
  refine r_blk [qO (.iload_n 1)] (pc' := 1) (L' := [zR 0 0, zI a0]) (S' := [zI a0]) (σ' := σ) (Ps := []) (by decide +kernel) rfl trivial ?_
  refine r_if_ge (off := 10) (tgt := 11) (by decide +kernel) (by decide) (fun c => ?_) (fun c => ?_)
  · replace h := h.1 c
    refine r_blk [qO (.aload_n 0), qF (.getfield 10) 10 0, qF (.getfield 164) 6 1, qO (.bipush 10)] (pc' := 20) (L' := [zR 0 0, zI a0]) (S' := [zI 10, zI (σ 1 0 1)]) (σ' := σ) (Ps := []) (by decide +kernel) rfl trivial ?_
    refine r_icmp_le (off := 10) (tgt := 30) (by decide +kernel) (by decide) (fun c => ?_) (fun c => ?_)
    · replace h := h.1 c
      refine r_blk [qO (.aload_n 0), qF (.getfield 40) 10 4] (pc' := 34) (L' := [zR 0 0, zI a0]) (S' := [zR 16 0]) (σ' := σ) (Ps := []) (by decide +kernel) rfl trivial ?_
      refine r_callVV (As := []) (S := []) (Lc := [zR 16 0]) (d' := 1) (n := 0) (g := 16) (x := 0) (ci := 7) kX7_takeAsItIs vX7_takeAsItIs lkX10_173 (by decide +kernel) (by decide) rfl rfl (by decide) rfl rfl (Nat.le_of_ble_eq_true rfl) rfl rfl (Nat.le_of_ble_eq_true rfl) (pX7_takeAsItIs  ?_)
      generalize hσ1 : tTake σ = σ1
      replace h := h σ1 hσ1.symm
      refine r_blk [qO (.aload_n 0), qF (.getfield 81) 10 9, qO (.iload_n 1)] (pc' := 42) (L' := [zR 0 0, zI a0]) (S' := [zI a0, zR 26 0]) (σ' := σ1) (Ps := []) (by decide +kernel) rfl trivial ?_
      refine r_callVI (As := [zI a0]) (S := []) (Lc := [zR 26 0, zI a0, zU, zU, zU]) (d' := 6) (n := 1) (g := 26) (x := 0) (ci := 9) kX9_fewestForCost vX9_fewestForCost lkX10_238 (by decide +kernel) (by decide) rfl rfl (by decide) rfl rfl (Nat.le_of_ble_eq_true rfl) rfl rfl (Nat.le_of_ble_eq_true rfl) (h.monoI (fun z3 σ2 h => ?_))
      exact r_ret (by decide +kernel) rfl (fun _ => h)
    · replace h := h.2 c
      refine r_blk [qO (.aload_n 0), qO (.bipush (-6))] (pc' := 26) (L' := [zR 0 0, zI a0]) (S' := [zI (-6), zR 0 0]) (σ' := σ) (Ps := []) (by decide +kernel) rfl trivial ?_
      refine r_callVI (As := [zI (-6)]) (S := []) (Lc := [zR 0 0, zI (-6)]) (d' := 0) (n := 1) (g := 0) (x := 0) (ci := 10) kX10_refuse vX10_refuse lkX10_98 (by decide +kernel) (by decide) rfl rfl (by decide) rfl rfl (Nat.le_of_ble_eq_true rfl) rfl rfl (Nat.le_of_ble_eq_true rfl) (pX10_refuse h.1 h.2.1 ?_)
      replace h := h.2.2
      generalize hσ4 : zup σ 33 0 (-(-6)).toNat (σ 33 0 (-(-6)).toNat + 1) = σ4
      replace h := h σ4 hσ4.symm
      exact r_ret (by decide +kernel) rfl (fun _ => h)
  · replace h := h.2 c
    refine r_blk [qO (.aload_n 0), qO (.bipush (-4))] (pc' := 7) (L' := [zR 0 0, zI a0]) (S' := [zI (-4), zR 0 0]) (σ' := σ) (Ps := []) (by decide +kernel) rfl trivial ?_
    refine r_callVI (As := [zI (-4)]) (S := []) (Lc := [zR 0 0, zI (-4)]) (d' := 0) (n := 1) (g := 0) (x := 0) (ci := 10) kX10_refuse vX10_refuse lkX10_98 (by decide +kernel) (by decide) rfl rfl (by decide) rfl rfl (Nat.le_of_ble_eq_true rfl) rfl rfl (Nat.le_of_ble_eq_true rfl) (pX10_refuse h.1 h.2.1 ?_)
    replace h := h.2.2
    generalize hσ5 : zup σ 33 0 (-(-4)).toNat (σ 33 0 (-(-4)).toNat + 1) = σ5
    replace h := h σ5 hσ5.symm
    exact r_ret (by decide +kernel) rfl (fun _ => h)
theorem gX10_corner_0 (a0 : Int) (σ : Hp) {Q : Option Int → Hp → Prop} (h : ((0 ≤ a0 ∧ a0 < σ 1 0 0 → ((σ 1 0 3 < 10 → (0 ≤ σ 1 0 3 ∧ σ 1 0 3 < 10) ∧ (-2147483648 ≤ (σ 1 0 3) + 1 ∧ (σ 1 0 3) + 1 ≤ 2147483647) ∧ Q (some ((σ 1 0 3) + 1)) (zup (zup σ 10 0 ((σ 1 0 3).toNat) a0) 1 0 3 ((σ 1 0 3) + 1))) ∧ (¬ σ 1 0 3 < 10 → (-6 ≤ (-6) ∧ (-6) ≤ -1) ∧ (σ 33 0 (-(-6)).toNat ≤ 2147483646) ∧ ∀ σ1 : Hp, σ1 = zup σ 33 0 (-(-6)).toNat (σ 33 0 (-(-6)).toNat + 1) → Q (some (-6)) σ1))) ∧ (¬ (0 ≤ a0 ∧ a0 < σ 1 0 0) → (-6 ≤ (-1) ∧ (-1) ≤ -1) ∧ (σ 33 0 (-(-1)).toNat ≤ 2147483646) ∧ ∀ σ2 : Hp, σ2 = zup σ 33 0 (-(-1)).toNat (σ 33 0 (-(-1)).toNat + 1) → Q (some (-1)) σ2))) : Runs 1 mX10_corner 0 [zR 0 0, zI a0] [] σ Q := by
  refine r_blk [qO (.aload_n 0), qF (.getfield 10) 10 0, qO (.iload_n 1)] (pc' := 5) (L' := [zR 0 0, zI a0]) (S' := [zI a0, zR 1 0]) (σ' := σ) (Ps := []) (by decide +kernel) rfl trivial ?_
  refine r_callVI (As := [zI a0]) (S := []) (Lc := [zR 1 0, zI a0]) (d' := 0) (n := 1) (g := 1) (x := 0) (ci := 6) kX6_hasCorner vX6_hasCorner lkX10_241 (by decide +kernel) (by decide) rfl rfl (by decide) rfl rfl (Nat.le_of_ble_eq_true rfl) rfl rfl (Nat.le_of_ble_eq_true rfl) (pX6_hasCorner  (fun c => ?_) (fun c => ?_))
  · replace h := h.1 c
    refine r_if_ne (off := 9) (tgt := 17) (by decide +kernel) (by decide) (fun c => ?_) (fun c => ?_)
    · refine r_blk [qO (.aload_n 0), qF (.getfield 10) 10 0, qF (.getfield 244) 6 3, qO (.bipush 10)] (pc' := 26) (L' := [zR 0 0, zI a0]) (S' := [zI 10, zI (σ 1 0 3)]) (σ' := σ) (Ps := []) (by decide +kernel) rfl trivial ?_
      refine r_icmp_lt (off := 10) (tgt := 36) (by decide +kernel) (by decide) (fun c => ?_) (fun c => ?_)
      · replace h := h.1 c
        refine r_blk [qO (.aload_n 0), qF (.getfield 10) 10 0, qF (.getfield 247) 6 15, qO (.aload_n 0), qF (.getfield 10) 10 0, qF (.getfield 244) 6 3, qO (.iload_n 1), qO .iastore, qO (.aload_n 0), qF (.getfield 10) 10 0, qO .dup, qF (.getfield 244) 6 3, qO (.iconst 1), qO .iadd, qF (.putfield 244) 6 3, qO (.aload_n 0), qF (.getfield 10) 10 0, qF (.getfield 244) 6 3] (pc' := 72) (L' := [zR 0 0, zI a0]) (S' := [zI ((σ 1 0 3) + 1)]) (σ' := (zup (zup σ 10 0 ((σ 1 0 3).toNat) a0) 1 0 3 ((σ 1 0 3) + 1))) (Ps := [0 ≤ σ 1 0 3 ∧ σ 1 0 3 < 10, -2147483648 ≤ (σ 1 0 3) + 1 ∧ (σ 1 0 3) + 1 ≤ 2147483647]) (by decide +kernel) rfl ⟨h.1, h.2.1, trivial⟩ ?_
        replace h := h.2.2
        exact r_ret (by decide +kernel) rfl (fun _ => h)
      · replace h := h.2 c
        refine r_blk [qO (.aload_n 0), qO (.bipush (-6))] (pc' := 32) (L' := [zR 0 0, zI a0]) (S' := [zI (-6), zR 0 0]) (σ' := σ) (Ps := []) (by decide +kernel) rfl trivial ?_
        refine r_callVI (As := [zI (-6)]) (S := []) (Lc := [zR 0 0, zI (-6)]) (d' := 0) (n := 1) (g := 0) (x := 0) (ci := 10) kX10_refuse vX10_refuse lkX10_98 (by decide +kernel) (by decide) rfl rfl (by decide) rfl rfl (Nat.le_of_ble_eq_true rfl) rfl rfl (Nat.le_of_ble_eq_true rfl) (pX10_refuse h.1 h.2.1 ?_)
        replace h := h.2.2
        generalize hσ1 : zup σ 33 0 (-(-6)).toNat (σ 33 0 (-(-6)).toNat + 1) = σ1
        replace h := h σ1 hσ1.symm
        exact r_ret (by decide +kernel) rfl (fun _ => h)
    · exact absurd c (by decide)
  · replace h := h.2 c
    refine r_if_ne (off := 9) (tgt := 17) (by decide +kernel) (by decide) (fun c => ?_) (fun c => ?_)
    · exact absurd c (by decide)
    · refine r_blk [qO (.aload_n 0), qO (.iconst (-1))] (pc' := 13) (L' := [zR 0 0, zI a0]) (S' := [zI (-1), zR 0 0]) (σ' := σ) (Ps := []) (by decide +kernel) rfl trivial ?_
      refine r_callVI (As := [zI (-1)]) (S := []) (Lc := [zR 0 0, zI (-1)]) (d' := 0) (n := 1) (g := 0) (x := 0) (ci := 10) kX10_refuse vX10_refuse lkX10_98 (by decide +kernel) (by decide) rfl rfl (by decide) rfl rfl (Nat.le_of_ble_eq_true rfl) rfl rfl (Nat.le_of_ble_eq_true rfl) (pX10_refuse h.1 h.2.1 ?_)
      replace h := h.2.2
      generalize hσ2 : zup σ 33 0 (-(-1)).toNat (σ 33 0 (-(-1)).toNat + 1) = σ2
      replace h := h σ2 hσ2.symm
      exact r_ret (by decide +kernel) rfl (fun _ => h)
theorem gX11_corner_0 (a0 : Int) (σ : Hp) {Q : Option Int → Hp → Prop} (h : ((0 ≤ a0 ∧ a0 < σ 36 0 0 → ((¬ σ 36 0 6 = 10 → (-2147483648 ≤ 113 + (σ 36 0 6) ∧ 113 + (σ 36 0 6) ≤ 2147483647) ∧ (0 ≤ 113 + (σ 36 0 6) ∧ 113 + (σ 36 0 6) < 123) ∧ (-2147483648 ≤ ((zup σ 36 0 ((113 + (σ 36 0 6)).toNat) a0) 36 0 6) + 1 ∧ ((zup σ 36 0 ((113 + (σ 36 0 6)).toNat) a0) 36 0 6) + 1 ≤ 2147483647) ∧ ∀ σ1 : Hp, σ1 = (zup (zup σ 36 0 ((113 + (σ 36 0 6)).toNat) a0) 36 0 6 (((zup σ 36 0 ((113 + (σ 36 0 6)).toNat) a0) 36 0 6) + 1)) → Q (some (((zup σ 36 0 ((113 + (σ 36 0 6)).toNat) a0) 36 0 6) + 1)) σ1) ∧ (σ 36 0 6 = 10 → (-6 ≤ (-6) ∧ (-6) ≤ -1) ∧ (σ 35 0 (-(-6)).toNat ≤ 2147483646) ∧ ∀ σ2 : Hp, σ2 = zup σ 35 0 (-(-6)).toNat (σ 35 0 (-(-6)).toNat + 1) → Q (some (-6)) σ2))) ∧ (¬ (0 ≤ a0 ∧ a0 < σ 36 0 0) → (-6 ≤ (-1) ∧ (-1) ≤ -1) ∧ (σ 35 0 (-(-1)).toNat ≤ 2147483646) ∧ ∀ σ3 : Hp, σ3 = zup σ 35 0 (-(-1)).toNat (σ 35 0 (-(-1)).toNat + 1) → Q (some (-1)) σ3))) : Runs 2 mX11_corner 0 [zR 34 0, zI a0, zU] [] σ Q := by
  refine r_blk [qO (.aload_n 0), qO (.iload_n 1)] (pc' := 2) (L' := [zR 34 0, zI a0, zU]) (S' := [zI a0, zR 34 0]) (σ' := σ) (Ps := []) (by decide +kernel) rfl trivial ?_
  refine r_callVI (As := [zI a0]) (S := []) (Lc := [zR 34 0, zI a0]) (d' := 1) (n := 1) (g := 34) (x := 0) (ci := 11) kX11_isCorner vX11_isCorner lkX11_136 (by decide +kernel) (by decide) rfl rfl (by decide) rfl rfl (Nat.le_of_ble_eq_true rfl) rfl rfl (Nat.le_of_ble_eq_true rfl) (pX11_isCorner  (fun c => ?_) (fun c => ?_))
  · replace h := h.1 c
    refine r_if_ne (off := 7) (tgt := 12) (by decide +kernel) (by decide) (fun c => ?_) (fun c => ?_)
    · refine r_blk [qO (.aload_n 0), qF (.getfield 13) 11 1, qO (.bipush 6), qO .iaload, qO (.bipush 10)] (pc' := 21) (L' := [zR 34 0, zI a0, zU]) (S' := [zI 10, zI (σ 36 0 6)]) (σ' := σ) (Ps := [0 ≤ 6 ∧ 6 < 123]) (by decide +kernel) rfl ⟨(by decide), trivial⟩ ?_
      refine r_icmp_ne (off := 8) (tgt := 29) (by decide +kernel) (by decide) (fun c => ?_) (fun c => ?_)
      · replace h := h.1 c
        refine r_blk [qO (.iconst 0), qO (.istore_n 2), qO (.iload_n 2)] (pc' := 32) (L' := [zR 34 0, zI a0, zI 0]) (S' := [zI 0]) (σ' := σ) (Ps := []) (by decide +kernel) rfl trivial ?_
        refine r_if_eq (off := 9) (tgt := 41) (by decide +kernel) (by decide) (fun c => ?_) (fun c => ?_)
        · refine r_blk [qO (.aload_n 0), qF (.getfield 13) 11 1, qO (.bipush 113), qO (.aload_n 0), qF (.getfield 13) 11 1, qO (.bipush 6), qO .iaload, qO .iadd, qO (.iload_n 1), qO .iastore, qO (.aload_n 0), qF (.getfield 13) 11 1, qO (.bipush 6), qO .dup2, qO .iaload, qO (.iconst 1), qO .iadd, qO .iastore, qO (.aload_n 0), qF (.getfield 13) 11 1, qO (.bipush 6), qO .iaload] (pc' := 75) (L' := [zR 34 0, zI a0, zI 0]) (S' := [zI (((zup σ 36 0 ((113 + (σ 36 0 6)).toNat) a0) 36 0 6) + 1)]) (σ' := (zup (zup σ 36 0 ((113 + (σ 36 0 6)).toNat) a0) 36 0 6 (((zup σ 36 0 ((113 + (σ 36 0 6)).toNat) a0) 36 0 6) + 1))) (Ps := [0 ≤ 6 ∧ 6 < 123, -2147483648 ≤ 113 + (σ 36 0 6) ∧ 113 + (σ 36 0 6) ≤ 2147483647, 0 ≤ 113 + (σ 36 0 6) ∧ 113 + (σ 36 0 6) < 123, 0 ≤ 6 ∧ 6 < 123, -2147483648 ≤ ((zup σ 36 0 ((113 + (σ 36 0 6)).toNat) a0) 36 0 6) + 1 ∧ ((zup σ 36 0 ((113 + (σ 36 0 6)).toNat) a0) 36 0 6) + 1 ≤ 2147483647, 0 ≤ 6 ∧ 6 < 123, 0 ≤ 6 ∧ 6 < 123]) (by decide +kernel) rfl ⟨(by decide), h.1, h.2.1, (by decide), h.2.2.1, (by decide), (by decide), trivial⟩ ?_
          replace h := h.2.2.2
          generalize hσ1 : (zup (zup σ 36 0 ((113 + (σ 36 0 6)).toNat) a0) 36 0 6 (((zup σ 36 0 ((113 + (σ 36 0 6)).toNat) a0) 36 0 6) + 1)) = σ1
          replace h := h σ1 hσ1.symm
          exact r_ret (by decide +kernel) rfl (fun _ => h)
        · exact absurd c (by decide)
      · replace h := h.2 c
        refine r_blk [qO (.bipush (-6)), qO (.goto 4), qO (.istore_n 2), qO (.iload_n 2)] (pc' := 32) (L' := [zR 34 0, zI a0, zI (-6)]) (S' := [zI (-6)]) (σ' := σ) (Ps := []) (by decide +kernel) rfl trivial ?_
        refine r_if_eq (off := 9) (tgt := 41) (by decide +kernel) (by decide) (fun c => ?_) (fun c => ?_)
        · exact absurd c (by decide)
        · refine r_blk [qO (.aload_n 0), qO (.iload_n 2)] (pc' := 37) (L' := [zR 34 0, zI a0, zI (-6)]) (S' := [zI (-6), zR 34 0]) (σ' := σ) (Ps := []) (by decide +kernel) rfl trivial ?_
          refine r_callVI (As := [zI (-6)]) (S := []) (Lc := [zR 34 0, zI (-6)]) (d' := 0) (n := 1) (g := 34) (x := 0) (ci := 11) kX11_refuse vX11_refuse lkX11_66 (by decide +kernel) (by decide) rfl rfl (by decide) rfl rfl (Nat.le_of_ble_eq_true rfl) rfl rfl (Nat.le_of_ble_eq_true rfl) (pX11_refuse h.1 h.2.1 ?_)
          replace h := h.2.2
          generalize hσ2 : zup σ 35 0 (-(-6)).toNat (σ 35 0 (-(-6)).toNat + 1) = σ2
          replace h := h σ2 hσ2.symm
          exact r_ret (by decide +kernel) rfl (fun _ => h)
    · exact absurd c (by decide)
  · replace h := h.2 c
    refine r_if_ne (off := 7) (tgt := 12) (by decide +kernel) (by decide) (fun c => ?_) (fun c => ?_)
    · exact absurd c (by decide)
    · refine r_blk [qO (.iconst (-1)), qO (.goto 21), qO (.istore_n 2), qO (.iload_n 2)] (pc' := 32) (L' := [zR 34 0, zI a0, zI (-1)]) (S' := [zI (-1)]) (σ' := σ) (Ps := []) (by decide +kernel) rfl trivial ?_
      refine r_if_eq (off := 9) (tgt := 41) (by decide +kernel) (by decide) (fun c => ?_) (fun c => ?_)
      · exact absurd c (by decide)
      · refine r_blk [qO (.aload_n 0), qO (.iload_n 2)] (pc' := 37) (L' := [zR 34 0, zI a0, zI (-1)]) (S' := [zI (-1), zR 34 0]) (σ' := σ) (Ps := []) (by decide +kernel) rfl trivial ?_
        refine r_callVI (As := [zI (-1)]) (S := []) (Lc := [zR 34 0, zI (-1)]) (d' := 0) (n := 1) (g := 34) (x := 0) (ci := 11) kX11_refuse vX11_refuse lkX11_66 (by decide +kernel) (by decide) rfl rfl (by decide) rfl rfl (Nat.le_of_ble_eq_true rfl) rfl rfl (Nat.le_of_ble_eq_true rfl) (pX11_refuse h.1 h.2.1 ?_)
        replace h := h.2.2
        generalize hσ3 : zup σ 35 0 (-(-1)).toNat (σ 35 0 (-(-1)).toNat + 1) = σ3
        replace h := h σ3 hσ3.symm
        exact r_ret (by decide +kernel) rfl (fun _ => h)
theorem gX10_procession_0 (σ : Hp) {Q : Option Int → Hp → Prop} (h : ((2 ≤ σ 1 0 3 → ∀ σ1 : Hp, σ1 = tTake σ → Runs 2 mX0_lay 0 [zR 19 0, zI 0, zU, zU] [] σ1 (rV (fun σ2 => Runs 0 mX0_roundOfRow 0 [zR 19 0, zU, zU, zU, zU] [] σ2 (rI (fun z4 σ3 => Q (some z4) (zup σ3 1 0 3 0)))))) ∧ (¬ 2 ≤ σ 1 0 3 → (-6 ≤ (-3) ∧ (-3) ≤ -1) ∧ (σ 33 0 (-(-3)).toNat ≤ 2147483646) ∧ ∀ σ5 : Hp, σ5 = zup σ 33 0 (-(-3)).toNat (σ 33 0 (-(-3)).toNat + 1) → Q (some (-3)) σ5))) : Runs 3 mX10_procession 0 [zR 0 0, zU] [] σ Q := by
  refine r_blk [qO (.aload_n 0), qF (.getfield 10) 10 0, qF (.getfield 244) 6 3, qO (.iconst 2)] (pc' := 8) (L' := [zR 0 0, zU]) (S' := [zI 2, zI (σ 1 0 3)]) (σ' := σ) (Ps := []) (by decide +kernel) rfl trivial ?_
  refine r_icmp_ge (off := 10) (tgt := 18) (by decide +kernel) (by decide) (fun c => ?_) (fun c => ?_)
  · replace h := h.1 c
    refine r_blk [qO (.aload_n 0), qF (.getfield 40) 10 4] (pc' := 22) (L' := [zR 0 0, zU]) (S' := [zR 16 0]) (σ' := σ) (Ps := []) (by decide +kernel) rfl trivial ?_
    refine r_callVV (As := []) (S := []) (Lc := [zR 16 0]) (d' := 1) (n := 0) (g := 16) (x := 0) (ci := 7) kX7_takeAsItIs vX7_takeAsItIs lkX10_173 (by decide +kernel) (by decide) rfl rfl (by decide) rfl rfl (Nat.le_of_ble_eq_true rfl) rfl rfl (Nat.le_of_ble_eq_true rfl) (pX7_takeAsItIs  ?_)
    generalize hσ1 : tTake σ = σ1
    replace h := h σ1 hσ1.symm
    refine r_blk [qO (.aload_n 0), qF (.getfield 56) 10 6, qO (.iconst 0)] (pc' := 30) (L' := [zR 0 0, zU]) (S' := [zI 0, zR 19 0]) (σ' := σ1) (Ps := []) (by decide +kernel) rfl trivial ?_
    refine r_callVV (As := [zI 0]) (S := []) (Lc := [zR 19 0, zI 0, zU, zU]) (d' := 2) (n := 1) (g := 19) (x := 0) (ci := 0) kX0_lay vX0_lay lkX10_250 (by decide +kernel) (by decide) rfl rfl (by decide) rfl rfl (Nat.le_of_ble_eq_true rfl) rfl rfl (Nat.le_of_ble_eq_true rfl) (h.monoV (fun σ2 h => ?_))
    refine r_blk [qO (.aload_n 0), qF (.getfield 56) 10 6] (pc' := 37) (L' := [zR 0 0, zU]) (S' := [zR 19 0]) (σ' := σ2) (Ps := []) (by decide +kernel) rfl trivial ?_
    refine r_callVI (As := []) (S := []) (Lc := [zR 19 0, zU, zU, zU, zU]) (d' := 0) (n := 0) (g := 19) (x := 0) (ci := 0) kX0_roundOfRow vX0_roundOfRow lkX10_253 (by decide +kernel) (by decide) rfl rfl (by decide) rfl rfl (Nat.le_of_ble_eq_true rfl) rfl rfl (Nat.le_of_ble_eq_true rfl) (h.monoI (fun z4 σ3 h => ?_))
    refine r_blk [qO (.istore_n 1), qO (.aload_n 0), qF (.getfield 10) 10 0, qO (.iconst 0), qF (.putfield 244) 6 3, qO (.iload_n 1)] (pc' := 50) (L' := [zR 0 0, zI z4]) (S' := [zI z4]) (σ' := (zup σ3 1 0 3 0)) (Ps := []) (by decide +kernel) rfl trivial ?_
    exact r_ret (by decide +kernel) rfl (fun _ => h)
  · replace h := h.2 c
    refine r_blk [qO (.aload_n 0), qO (.bipush (-3))] (pc' := 14) (L' := [zR 0 0, zU]) (S' := [zI (-3), zR 0 0]) (σ' := σ) (Ps := []) (by decide +kernel) rfl trivial ?_
    refine r_callVI (As := [zI (-3)]) (S := []) (Lc := [zR 0 0, zI (-3)]) (d' := 0) (n := 1) (g := 0) (x := 0) (ci := 10) kX10_refuse vX10_refuse lkX10_98 (by decide +kernel) (by decide) rfl rfl (by decide) rfl rfl (Nat.le_of_ble_eq_true rfl) rfl rfl (Nat.le_of_ble_eq_true rfl) (pX10_refuse h.1 h.2.1 ?_)
    replace h := h.2.2
    generalize hσ5 : zup σ 33 0 (-(-3)).toNat (σ 33 0 (-(-3)).toNat + 1) = σ5
    replace h := h σ5 hσ5.symm
    exact r_ret (by decide +kernel) rfl (fun _ => h)
theorem gX10_bestNoon_0 (σ : Hp) {Q : Option Int → Hp → Prop} (h : ∀ σ1 : Hp, σ1 = tTake σ → Runs 6 mX9_cheapestNoon 0 [zR 26 0, zU, zU, zU, zU] [] σ1 (rI (fun z3 σ2 => Q (some z3) σ2))) : Runs 7 mX10_bestNoon 0 [zR 0 0] [] σ Q := by
  refine r_blk [qO (.aload_n 0), qF (.getfield 40) 10 4] (pc' := 4) (L' := [zR 0 0]) (S' := [zR 16 0]) (σ' := σ) (Ps := []) (by decide +kernel) rfl trivial ?_
  refine r_callVV (As := []) (S := []) (Lc := [zR 16 0]) (d' := 1) (n := 0) (g := 16) (x := 0) (ci := 7) kX7_takeAsItIs vX7_takeAsItIs lkX10_173 (by decide +kernel) (by decide) rfl rfl (by decide) rfl rfl (Nat.le_of_ble_eq_true rfl) rfl rfl (Nat.le_of_ble_eq_true rfl) (pX7_takeAsItIs  ?_)
  generalize hσ1 : tTake σ = σ1
  replace h := h σ1 hσ1.symm
  refine r_blk [qO (.aload_n 0), qF (.getfield 81) 10 9] (pc' := 11) (L' := [zR 0 0]) (S' := [zR 26 0]) (σ' := σ1) (Ps := []) (by decide +kernel) rfl trivial ?_
  refine r_callVI (As := []) (S := []) (Lc := [zR 26 0, zU, zU, zU, zU]) (d' := 6) (n := 0) (g := 26) (x := 0) (ci := 9) kX9_cheapestNoon vX9_cheapestNoon lkX10_256 (by decide +kernel) (by decide) rfl rfl (by decide) rfl rfl (Nat.le_of_ble_eq_true rfl) rfl rfl (Nat.le_of_ble_eq_true rfl) (h.monoI (fun z3 σ2 h => ?_))
  exact r_ret (by decide +kernel) rfl (fun _ => h)
theorem gX10_lives_0 (σ : Hp) {Q : Option Int → Hp → Prop} (h : ∀ σ1 : Hp, σ1 = tTake σ → Runs 5 mX1_cheapestHome 0 [zR 25 0, zU, zU, zU, zU, zU] [] σ1 (rI (fun z3 σ2 => Q (some z3) σ2))) : Runs 6 mX10_lives 0 [zR 0 0] [] σ Q := by
  refine r_blk [qO (.aload_n 0), qF (.getfield 40) 10 4] (pc' := 4) (L' := [zR 0 0]) (S' := [zR 16 0]) (σ' := σ) (Ps := []) (by decide +kernel) rfl trivial ?_
  refine r_callVV (As := []) (S := []) (Lc := [zR 16 0]) (d' := 1) (n := 0) (g := 16) (x := 0) (ci := 7) kX7_takeAsItIs vX7_takeAsItIs lkX10_173 (by decide +kernel) (by decide) rfl rfl (by decide) rfl rfl (Nat.le_of_ble_eq_true rfl) rfl rfl (Nat.le_of_ble_eq_true rfl) (pX7_takeAsItIs  ?_)
  generalize hσ1 : tTake σ = σ1
  replace h := h σ1 hσ1.symm
  refine r_blk [qO (.aload_n 0), qF (.getfield 72) 10 8] (pc' := 11) (L' := [zR 0 0]) (S' := [zR 25 0]) (σ' := σ1) (Ps := []) (by decide +kernel) rfl trivial ?_
  refine r_callVI (As := []) (S := []) (Lc := [zR 25 0, zU, zU, zU, zU, zU]) (d' := 5) (n := 0) (g := 25) (x := 0) (ci := 1) kX1_cheapestHome vX1_cheapestHome lkX10_259 (by decide +kernel) (by decide) rfl rfl (by decide) rfl rfl (Nat.le_of_ble_eq_true rfl) rfl rfl (Nat.le_of_ble_eq_true rfl) (h.monoI (fun z3 σ2 h => ?_))
  exact r_ret (by decide +kernel) rfl (fun _ => h)
theorem gX10_meets_0 (a0 : Int) (a1 : Int) (σ : Hp) {Q : Option Int → Hp → Prop} (h : ((0 ≤ a0 ∧ a0 < σ 1 0 2 → ((0 ≤ a1 ∧ a1 < σ 1 0 2 → ((¬ a0 = a1 → ∀ σ1 : Hp, σ1 = tTake σ → Runs 5 mX10_traceErrand 0 [zR 0 0, zI a0] [] σ1 (rV (fun σ2 => Runs 5 mX10_traceErrand 0 [zR 0 0, zI a1] [] σ2 (rV (fun σ3 => (0 ≤ a0 ∧ a0 < 8) ∧ (0 ≤ a1 ∧ a1 < 8) ∧ Runs 0 mX4_crosses 0 [zR 28 a0.toNat, zR 28 a1.toNat, zU, zU] [] σ3 (rI (fun z5 σ4 => ((z5 = 0 → Q (some 0) σ4) ∧ (¬ z5 = 0 → Q (some 1) σ4))))))))) ∧ (a0 = a1 → (-6 ≤ (-1) ∧ (-1) ≤ -1) ∧ (σ 33 0 (-(-1)).toNat ≤ 2147483646) ∧ ∀ σ6 : Hp, σ6 = zup σ 33 0 (-(-1)).toNat (σ 33 0 (-(-1)).toNat + 1) → Q (some (-1)) σ6))) ∧ (¬ (0 ≤ a1 ∧ a1 < σ 1 0 2) → (-6 ≤ (-1) ∧ (-1) ≤ -1) ∧ (σ 33 0 (-(-1)).toNat ≤ 2147483646) ∧ ∀ σ7 : Hp, σ7 = zup σ 33 0 (-(-1)).toNat (σ 33 0 (-(-1)).toNat + 1) → Q (some (-1)) σ7))) ∧ (¬ (0 ≤ a0 ∧ a0 < σ 1 0 2) → (-6 ≤ (-1) ∧ (-1) ≤ -1) ∧ (σ 33 0 (-(-1)).toNat ≤ 2147483646) ∧ ∀ σ8 : Hp, σ8 = zup σ 33 0 (-(-1)).toNat (σ 33 0 (-(-1)).toNat + 1) → Q (some (-1)) σ8))) : Runs 6 mX10_meets 0 [zR 0 0, zI a0, zI a1] [] σ Q := by
  refine r_blk [qO (.aload_n 0), qF (.getfield 10) 10 0, qO (.iload_n 1)] (pc' := 5) (L' := [zR 0 0, zI a0, zI a1]) (S' := [zI a0, zR 1 0]) (σ' := σ) (Ps := []) (by decide +kernel) rfl trivial ?_
  refine r_callVI (As := [zI a0]) (S := []) (Lc := [zR 1 0, zI a0]) (d' := 0) (n := 1) (g := 1) (x := 0) (ci := 6) kX6_hasErrand vX6_hasErrand lkX10_140 (by decide +kernel) (by decide) rfl rfl (by decide) rfl rfl (Nat.le_of_ble_eq_true rfl) rfl rfl (Nat.le_of_ble_eq_true rfl) (pX6_hasErrand  (fun c => ?_) (fun c => ?_))
  · replace h := h.1 c
    refine r_if_eq (off := 19) (tgt := 27) (by decide +kernel) (by decide) (fun c => ?_) (fun c => ?_)
    · exact absurd c (by decide)
    · refine r_blk [qO (.aload_n 0), qF (.getfield 10) 10 0, qO (.iload_n 2)] (pc' := 16) (L' := [zR 0 0, zI a0, zI a1]) (S' := [zI a1, zR 1 0]) (σ' := σ) (Ps := []) (by decide +kernel) rfl trivial ?_
      refine r_callVI (As := [zI a1]) (S := []) (Lc := [zR 1 0, zI a1]) (d' := 0) (n := 1) (g := 1) (x := 0) (ci := 6) kX6_hasErrand vX6_hasErrand lkX10_140 (by decide +kernel) (by decide) rfl rfl (by decide) rfl rfl (Nat.le_of_ble_eq_true rfl) rfl rfl (Nat.le_of_ble_eq_true rfl) (pX6_hasErrand  (fun c => ?_) (fun c => ?_))
      · replace h := h.1 c
        refine r_if_eq (off := 8) (tgt := 27) (by decide +kernel) (by decide) (fun c => ?_) (fun c => ?_)
        · exact absurd c (by decide)
        · refine r_blk [qO (.iload_n 1), qO (.iload_n 2)] (pc' := 24) (L' := [zR 0 0, zI a0, zI a1]) (S' := [zI a1, zI a0]) (σ' := σ) (Ps := []) (by decide +kernel) rfl trivial ?_
          refine r_icmp_ne (off := 9) (tgt := 33) (by decide +kernel) (by decide) (fun c => ?_) (fun c => ?_)
          · replace h := h.1 c
            refine r_blk [qO (.aload_n 0), qF (.getfield 40) 10 4] (pc' := 37) (L' := [zR 0 0, zI a0, zI a1]) (S' := [zR 16 0]) (σ' := σ) (Ps := []) (by decide +kernel) rfl trivial ?_
            refine r_callVV (As := []) (S := []) (Lc := [zR 16 0]) (d' := 1) (n := 0) (g := 16) (x := 0) (ci := 7) kX7_takeAsItIs vX7_takeAsItIs lkX10_173 (by decide +kernel) (by decide) rfl rfl (by decide) rfl rfl (Nat.le_of_ble_eq_true rfl) rfl rfl (Nat.le_of_ble_eq_true rfl) (pX7_takeAsItIs  ?_)
            generalize hσ1 : tTake σ = σ1
            replace h := h σ1 hσ1.symm
            refine r_blk [qO (.aload_n 0), qO (.iload_n 1)] (pc' := 42) (L' := [zR 0 0, zI a0, zI a1]) (S' := [zI a0, zR 0 0]) (σ' := σ1) (Ps := []) (by decide +kernel) rfl trivial ?_
            refine r_callVV (As := [zI a0]) (S := []) (Lc := [zR 0 0, zI a0]) (d' := 5) (n := 1) (g := 0) (x := 0) (ci := 10) kX10_traceErrand vX10_traceErrand lkX10_262 (by decide +kernel) (by decide) rfl rfl (by decide) rfl rfl (Nat.le_of_ble_eq_true rfl) rfl rfl (Nat.le_of_ble_eq_true rfl) (h.monoV (fun σ2 h => ?_))
            refine r_blk [qO (.aload_n 0), qO (.iload_n 2)] (pc' := 47) (L' := [zR 0 0, zI a0, zI a1]) (S' := [zI a1, zR 0 0]) (σ' := σ2) (Ps := []) (by decide +kernel) rfl trivial ?_
            refine r_callVV (As := [zI a1]) (S := []) (Lc := [zR 0 0, zI a1]) (d' := 5) (n := 1) (g := 0) (x := 0) (ci := 10) kX10_traceErrand vX10_traceErrand lkX10_262 (by decide +kernel) (by decide) rfl rfl (by decide) rfl rfl (Nat.le_of_ble_eq_true rfl) rfl rfl (Nat.le_of_ble_eq_true rfl) (h.monoV (fun σ3 h => ?_))
            refine r_blk [qO (.aload_n 0), qF (.getfield 87) 10 10, qO (.iload_n 1), qO .aaload, qO (.aload_n 0), qF (.getfield 87) 10 10, qO (.iload_n 2), qO .aaload] (pc' := 62) (L' := [zR 0 0, zI a0, zI a1]) (S' := [zR 28 a1.toNat, zR 28 a0.toNat]) (σ' := σ3) (Ps := [0 ≤ a0 ∧ a0 < 8, 0 ≤ a1 ∧ a1 < 8]) (by decide +kernel) rfl ⟨h.1, h.2.1, trivial⟩ ?_
            replace h := h.2.2
            refine r_callVI (As := [zR 28 a1.toNat]) (S := []) (Lc := [zR 28 a0.toNat, zR 28 a1.toNat, zU, zU]) (d' := 0) (n := 1) (g := 28) (x := a0.toNat) (ci := 4) kX4_crosses vX4_crosses lkX10_265 (by decide +kernel) (by decide) rfl rfl (by decide) rfl rfl (Nat.le_of_ble_eq_true rfl) rfl rfl (Nat.le_of_ble_eq_true rfl) (h.monoI (fun z5 σ4 h => ?_))
            refine r_if_eq (off := 7) (tgt := 72) (by decide +kernel) (by decide) (fun c => ?_) (fun c => ?_)
            · replace h := h.1 c
              refine r_blk [qO (.iconst 0)] (pc' := 73) (L' := [zR 0 0, zI a0, zI a1]) (S' := [zI 0]) (σ' := σ4) (Ps := []) (by decide +kernel) rfl trivial ?_
              exact r_ret (by decide +kernel) rfl (fun _ => h)
            · replace h := h.2 c
              refine r_blk [qO (.iconst 1), qO (.goto 4)] (pc' := 73) (L' := [zR 0 0, zI a0, zI a1]) (S' := [zI 1]) (σ' := σ4) (Ps := []) (by decide +kernel) rfl trivial ?_
              exact r_ret (by decide +kernel) rfl (fun _ => h)
          · replace h := h.2 c
            refine r_blk [qO (.aload_n 0), qO (.iconst (-1))] (pc' := 29) (L' := [zR 0 0, zI a0, zI a1]) (S' := [zI (-1), zR 0 0]) (σ' := σ) (Ps := []) (by decide +kernel) rfl trivial ?_
            refine r_callVI (As := [zI (-1)]) (S := []) (Lc := [zR 0 0, zI (-1)]) (d' := 0) (n := 1) (g := 0) (x := 0) (ci := 10) kX10_refuse vX10_refuse lkX10_98 (by decide +kernel) (by decide) rfl rfl (by decide) rfl rfl (Nat.le_of_ble_eq_true rfl) rfl rfl (Nat.le_of_ble_eq_true rfl) (pX10_refuse h.1 h.2.1 ?_)
            replace h := h.2.2
            generalize hσ6 : zup σ 33 0 (-(-1)).toNat (σ 33 0 (-(-1)).toNat + 1) = σ6
            replace h := h σ6 hσ6.symm
            exact r_ret (by decide +kernel) rfl (fun _ => h)
      · replace h := h.2 c
        refine r_if_eq (off := 8) (tgt := 27) (by decide +kernel) (by decide) (fun c => ?_) (fun c => ?_)
        · refine r_blk [qO (.aload_n 0), qO (.iconst (-1))] (pc' := 29) (L' := [zR 0 0, zI a0, zI a1]) (S' := [zI (-1), zR 0 0]) (σ' := σ) (Ps := []) (by decide +kernel) rfl trivial ?_
          refine r_callVI (As := [zI (-1)]) (S := []) (Lc := [zR 0 0, zI (-1)]) (d' := 0) (n := 1) (g := 0) (x := 0) (ci := 10) kX10_refuse vX10_refuse lkX10_98 (by decide +kernel) (by decide) rfl rfl (by decide) rfl rfl (Nat.le_of_ble_eq_true rfl) rfl rfl (Nat.le_of_ble_eq_true rfl) (pX10_refuse h.1 h.2.1 ?_)
          replace h := h.2.2
          generalize hσ7 : zup σ 33 0 (-(-1)).toNat (σ 33 0 (-(-1)).toNat + 1) = σ7
          replace h := h σ7 hσ7.symm
          exact r_ret (by decide +kernel) rfl (fun _ => h)
        · exact absurd c (by decide)
  · replace h := h.2 c
    refine r_if_eq (off := 19) (tgt := 27) (by decide +kernel) (by decide) (fun c => ?_) (fun c => ?_)
    · refine r_blk [qO (.aload_n 0), qO (.iconst (-1))] (pc' := 29) (L' := [zR 0 0, zI a0, zI a1]) (S' := [zI (-1), zR 0 0]) (σ' := σ) (Ps := []) (by decide +kernel) rfl trivial ?_
      refine r_callVI (As := [zI (-1)]) (S := []) (Lc := [zR 0 0, zI (-1)]) (d' := 0) (n := 1) (g := 0) (x := 0) (ci := 10) kX10_refuse vX10_refuse lkX10_98 (by decide +kernel) (by decide) rfl rfl (by decide) rfl rfl (Nat.le_of_ble_eq_true rfl) rfl rfl (Nat.le_of_ble_eq_true rfl) (pX10_refuse h.1 h.2.1 ?_)
      replace h := h.2.2
      generalize hσ8 : zup σ 33 0 (-(-1)).toNat (σ 33 0 (-(-1)).toNat + 1) = σ8
      replace h := h σ8 hσ8.symm
      exact r_ret (by decide +kernel) rfl (fun _ => h)
    · exact absurd c (by decide)
theorem gX11_meets_0 (a0 : Int) (a1 : Int) (σ : Hp) {Q : Option Int → Hp → Prop} (h : ((0 ≤ a0 ∧ a0 < σ 36 0 2 → ((0 ≤ a1 ∧ a1 < σ 36 0 2 → ((¬ a0 = a1 → Runs 7 mX11_areMet 0 [zR 34 0, zI a0, zI a1, zU] [] σ (rI (fun z2 σ1 => ((z2 = 0 → Q (some 0) σ1) ∧ (¬ z2 = 0 → Q (some 1) σ1))))) ∧ (a0 = a1 → (-6 ≤ (-1) ∧ (-1) ≤ -1) ∧ (σ 35 0 (-(-1)).toNat ≤ 2147483646) ∧ ∀ σ3 : Hp, σ3 = zup σ 35 0 (-(-1)).toNat (σ 35 0 (-(-1)).toNat + 1) → Q (some (-1)) σ3))) ∧ (¬ (0 ≤ a1 ∧ a1 < σ 36 0 2) → (-6 ≤ (-1) ∧ (-1) ≤ -1) ∧ (σ 35 0 (-(-1)).toNat ≤ 2147483646) ∧ ∀ σ4 : Hp, σ4 = zup σ 35 0 (-(-1)).toNat (σ 35 0 (-(-1)).toNat + 1) → Q (some (-1)) σ4))) ∧ (¬ (0 ≤ a0 ∧ a0 < σ 36 0 2) → (-6 ≤ (-1) ∧ (-1) ≤ -1) ∧ (σ 35 0 (-(-1)).toNat ≤ 2147483646) ∧ ∀ σ5 : Hp, σ5 = zup σ 35 0 (-(-1)).toNat (σ 35 0 (-(-1)).toNat + 1) → Q (some (-1)) σ5))) : Runs 8 mX11_meets 0 [zR 34 0, zI a0, zI a1] [] σ Q := by
  refine r_blk [qO (.aload_n 0), qO (.iload_n 1)] (pc' := 2) (L' := [zR 34 0, zI a0, zI a1]) (S' := [zI a0, zR 34 0]) (σ' := σ) (Ps := []) (by decide +kernel) rfl trivial ?_
  refine r_callVI (As := [zI a0]) (S := []) (Lc := [zR 34 0, zI a0]) (d' := 1) (n := 1) (g := 34) (x := 0) (ci := 11) kX11_isErrand vX11_isErrand lkX11_110 (by decide +kernel) (by decide) rfl rfl (by decide) rfl rfl (Nat.le_of_ble_eq_true rfl) rfl rfl (Nat.le_of_ble_eq_true rfl) (pX11_isErrand  (fun c => ?_) (fun c => ?_))
  · replace h := h.1 c
    refine r_if_eq (off := 16) (tgt := 21) (by decide +kernel) (by decide) (fun c => ?_) (fun c => ?_)
    · exact absurd c (by decide)
    · refine r_blk [qO (.aload_n 0), qO (.iload_n 2)] (pc' := 10) (L' := [zR 34 0, zI a0, zI a1]) (S' := [zI a1, zR 34 0]) (σ' := σ) (Ps := []) (by decide +kernel) rfl trivial ?_
      refine r_callVI (As := [zI a1]) (S := []) (Lc := [zR 34 0, zI a1]) (d' := 1) (n := 1) (g := 34) (x := 0) (ci := 11) kX11_isErrand vX11_isErrand lkX11_110 (by decide +kernel) (by decide) rfl rfl (by decide) rfl rfl (Nat.le_of_ble_eq_true rfl) rfl rfl (Nat.le_of_ble_eq_true rfl) (pX11_isErrand  (fun c => ?_) (fun c => ?_))
      · replace h := h.1 c
        refine r_if_eq (off := 8) (tgt := 21) (by decide +kernel) (by decide) (fun c => ?_) (fun c => ?_)
        · exact absurd c (by decide)
        · refine r_blk [qO (.iload_n 1), qO (.iload_n 2)] (pc' := 18) (L' := [zR 34 0, zI a0, zI a1]) (S' := [zI a1, zI a0]) (σ' := σ) (Ps := []) (by decide +kernel) rfl trivial ?_
          refine r_icmp_ne (off := 11) (tgt := 29) (by decide +kernel) (by decide) (fun c => ?_) (fun c => ?_)
          · replace h := h.1 c
            refine r_blk [qO (.aload_n 0), qO (.iload_n 1), qO (.iload_n 2)] (pc' := 32) (L' := [zR 34 0, zI a0, zI a1]) (S' := [zI a1, zI a0, zR 34 0]) (σ' := σ) (Ps := []) (by decide +kernel) rfl trivial ?_
            refine r_callVI (As := [zI a0, zI a1]) (S := []) (Lc := [zR 34 0, zI a0, zI a1, zU]) (d' := 7) (n := 2) (g := 34) (x := 0) (ci := 11) kX11_areMet vX11_areMet lkX11_209 (by decide +kernel) (by decide) rfl rfl (by decide) rfl rfl (Nat.le_of_ble_eq_true rfl) rfl rfl (Nat.le_of_ble_eq_true rfl) (h.monoI (fun z2 σ1 h => ?_))
            refine r_if_eq (off := 7) (tgt := 42) (by decide +kernel) (by decide) (fun c => ?_) (fun c => ?_)
            · replace h := h.1 c
              refine r_blk [qO (.iconst 0)] (pc' := 43) (L' := [zR 34 0, zI a0, zI a1]) (S' := [zI 0]) (σ' := σ1) (Ps := []) (by decide +kernel) rfl trivial ?_
              exact r_ret (by decide +kernel) rfl (fun _ => h)
            · replace h := h.2 c
              refine r_blk [qO (.iconst 1), qO (.goto 4)] (pc' := 43) (L' := [zR 34 0, zI a0, zI a1]) (S' := [zI 1]) (σ' := σ1) (Ps := []) (by decide +kernel) rfl trivial ?_
              exact r_ret (by decide +kernel) rfl (fun _ => h)
          · replace h := h.2 c
            refine r_blk [qO (.aload_n 0), qO (.iconst (-1))] (pc' := 23) (L' := [zR 34 0, zI a0, zI a1]) (S' := [zI (-1), zR 34 0]) (σ' := σ) (Ps := []) (by decide +kernel) rfl trivial ?_
            refine r_callVI (As := [zI (-1)]) (S := []) (Lc := [zR 34 0, zI (-1)]) (d' := 0) (n := 1) (g := 34) (x := 0) (ci := 11) kX11_refuse vX11_refuse lkX11_66 (by decide +kernel) (by decide) rfl rfl (by decide) rfl rfl (Nat.le_of_ble_eq_true rfl) rfl rfl (Nat.le_of_ble_eq_true rfl) (pX11_refuse h.1 h.2.1 ?_)
            replace h := h.2.2
            generalize hσ3 : zup σ 35 0 (-(-1)).toNat (σ 35 0 (-(-1)).toNat + 1) = σ3
            replace h := h σ3 hσ3.symm
            refine r_blk [qO (.goto 17)] (pc' := 43) (L' := [zR 34 0, zI a0, zI a1]) (S' := [zI (-1)]) (σ' := σ3) (Ps := []) (by decide +kernel) rfl trivial ?_
            exact r_ret (by decide +kernel) rfl (fun _ => h)
      · replace h := h.2 c
        refine r_if_eq (off := 8) (tgt := 21) (by decide +kernel) (by decide) (fun c => ?_) (fun c => ?_)
        · refine r_blk [qO (.aload_n 0), qO (.iconst (-1))] (pc' := 23) (L' := [zR 34 0, zI a0, zI a1]) (S' := [zI (-1), zR 34 0]) (σ' := σ) (Ps := []) (by decide +kernel) rfl trivial ?_
          refine r_callVI (As := [zI (-1)]) (S := []) (Lc := [zR 34 0, zI (-1)]) (d' := 0) (n := 1) (g := 34) (x := 0) (ci := 11) kX11_refuse vX11_refuse lkX11_66 (by decide +kernel) (by decide) rfl rfl (by decide) rfl rfl (Nat.le_of_ble_eq_true rfl) rfl rfl (Nat.le_of_ble_eq_true rfl) (pX11_refuse h.1 h.2.1 ?_)
          replace h := h.2.2
          generalize hσ4 : zup σ 35 0 (-(-1)).toNat (σ 35 0 (-(-1)).toNat + 1) = σ4
          replace h := h σ4 hσ4.symm
          refine r_blk [qO (.goto 17)] (pc' := 43) (L' := [zR 34 0, zI a0, zI a1]) (S' := [zI (-1)]) (σ' := σ4) (Ps := []) (by decide +kernel) rfl trivial ?_
          exact r_ret (by decide +kernel) rfl (fun _ => h)
        · exact absurd c (by decide)
  · replace h := h.2 c
    refine r_if_eq (off := 16) (tgt := 21) (by decide +kernel) (by decide) (fun c => ?_) (fun c => ?_)
    · refine r_blk [qO (.aload_n 0), qO (.iconst (-1))] (pc' := 23) (L' := [zR 34 0, zI a0, zI a1]) (S' := [zI (-1), zR 34 0]) (σ' := σ) (Ps := []) (by decide +kernel) rfl trivial ?_
      refine r_callVI (As := [zI (-1)]) (S := []) (Lc := [zR 34 0, zI (-1)]) (d' := 0) (n := 1) (g := 34) (x := 0) (ci := 11) kX11_refuse vX11_refuse lkX11_66 (by decide +kernel) (by decide) rfl rfl (by decide) rfl rfl (Nat.le_of_ble_eq_true rfl) rfl rfl (Nat.le_of_ble_eq_true rfl) (pX11_refuse h.1 h.2.1 ?_)
      replace h := h.2.2
      generalize hσ5 : zup σ 35 0 (-(-1)).toNat (σ 35 0 (-(-1)).toNat + 1) = σ5
      replace h := h σ5 hσ5.symm
      refine r_blk [qO (.goto 17)] (pc' := 43) (L' := [zR 34 0, zI a0, zI a1]) (S' := [zI (-1)]) (σ' := σ5) (Ps := []) (by decide +kernel) rfl trivial ?_
      exact r_ret (by decide +kernel) rfl (fun _ => h)
    · exact absurd c (by decide)
theorem gX10_pairs_0 (σ : Hp) {Q : Option Int → Hp → Prop} (h : ∀ σ1 : Hp, σ1 = tTake σ → Runs 6 mX10_pairs 11 [zR 0 0, zI 0, zI 0, zU] [] σ1 Q) : Runs 6 mX10_pairs 0 [zR 0 0, zU, zU, zU] [] σ Q := by
  refine r_blk [qO (.aload_n 0), qF (.getfield 40) 10 4] (pc' := 4) (L' := [zR 0 0, zU, zU, zU]) (S' := [zR 16 0]) (σ' := σ) (Ps := []) (by decide +kernel) rfl trivial ?_
  refine r_callVV (As := []) (S := []) (Lc := [zR 16 0]) (d' := 1) (n := 0) (g := 16) (x := 0) (ci := 7) kX7_takeAsItIs vX7_takeAsItIs lkX10_173 (by decide +kernel) (by decide) rfl rfl (by decide) rfl rfl (Nat.le_of_ble_eq_true rfl) rfl rfl (Nat.le_of_ble_eq_true rfl) (pX7_takeAsItIs  ?_)
  generalize hσ1 : tTake σ = σ1
  replace h := h σ1 hσ1.symm
  refine r_blk [qO (.iconst 0), qO (.istore_n 1), qO (.iconst 0), qO (.istore_n 2)] (pc' := 11) (L' := [zR 0 0, zI 0, zI 0, zU]) (S' := []) (σ' := σ1) (Ps := []) (by decide +kernel) rfl trivial ?_
  exact Runs.fg (fgE (fgE (fgE (fgU fg0)))) h
theorem gX10_pairs_11 (l1 : Int) (l2 : Int) (σ : Hp) {Q : Option Int → Hp → Prop} (h : ((σ 1 0 2 ≤ l2 → Q (some l1) σ) ∧ (¬ σ 1 0 2 ≤ l2 → Runs 5 mX10_traceErrand 0 [zR 0 0, zI l2] [] σ (rV (fun σ1 => Runs 6 mX10_pairs 29 [zR 0 0, zI l1, zI l2, zI 0] [] σ1 Q))))) : Runs 6 mX10_pairs 11 [zR 0 0, zI l1, zI l2, zU] [] σ Q := by
  refine r_blk [qO (.iload_n 2), qO (.aload_n 0), qF (.getfield 10) 10 0, qF (.getfield 269) 6 2] (pc' := 19) (L' := [zR 0 0, zI l1, zI l2, zU]) (S' := [zI (σ 1 0 2), zI l2]) (σ' := σ) (Ps := []) (by decide +kernel) rfl trivial ?_
  refine r_icmp_ge (off := 53) (tgt := 72) (by decide +kernel) (by decide) (fun c => ?_) (fun c => ?_)
  · replace h := h.1 c
    refine r_blk [qO (.iload_n 1)] (pc' := 73) (L' := [zR 0 0, zI l1, zI l2, zU]) (S' := [zI l1]) (σ' := σ) (Ps := []) (by decide +kernel) rfl trivial ?_
    exact r_ret (by decide +kernel) rfl (fun _ => h)
  · replace h := h.2 c
    refine r_blk [qO (.aload_n 0), qO (.iload_n 2)] (pc' := 24) (L' := [zR 0 0, zI l1, zI l2, zU]) (S' := [zI l2, zR 0 0]) (σ' := σ) (Ps := []) (by decide +kernel) rfl trivial ?_
    refine r_callVV (As := [zI l2]) (S := []) (Lc := [zR 0 0, zI l2]) (d' := 5) (n := 1) (g := 0) (x := 0) (ci := 10) kX10_traceErrand vX10_traceErrand lkX10_262 (by decide +kernel) (by decide) rfl rfl (by decide) rfl rfl (Nat.le_of_ble_eq_true rfl) rfl rfl (Nat.le_of_ble_eq_true rfl) (h.monoV (fun σ1 h => ?_))
    refine r_blk [qO (.iconst 0), qO (.istore_n 3)] (pc' := 29) (L' := [zR 0 0, zI l1, zI l2, zI 0]) (S' := []) (σ' := σ1) (Ps := []) (by decide +kernel) rfl trivial ?_
    exact Runs.fg (fgE (fgE (fgE (fgE fg0)))) h
theorem gX10_pairs_29 (l1 : Int) (l2 : Int) (l3 : Int) (σ : Hp) {Q : Option Int → Hp → Prop} (h : ((l2 ≤ l3 → (-2147483648 ≤ l2 + 1 ∧ l2 + 1 ≤ 2147483647) ∧ Runs 6 mX10_pairs 11 [zR 0 0, zI l1, zI (l2 + 1), zU] [] σ Q) ∧ (¬ l2 ≤ l3 → (0 ≤ l2 ∧ l2 < 8) ∧ (0 ≤ l3 ∧ l3 < 8) ∧ Runs 0 mX4_crosses 0 [zR 28 l2.toNat, zR 28 l3.toNat, zU, zU] [] σ (rI (fun z2 σ1 => ((z2 = 0 → (-2147483648 ≤ l1 + 1 ∧ l1 + 1 ≤ 2147483647) ∧ (-2147483648 ≤ l3 + 1 ∧ l3 + 1 ≤ 2147483647) ∧ Runs 6 mX10_pairs 29 [zR 0 0, zI (l1 + 1), zI l2, zI (l3 + 1)] [] σ1 Q) ∧ (¬ z2 = 0 → (-2147483648 ≤ l1 + 0 ∧ l1 + 0 ≤ 2147483647) ∧ (-2147483648 ≤ l3 + 1 ∧ l3 + 1 ≤ 2147483647) ∧ Runs 6 mX10_pairs 29 [zR 0 0, zI (l1 + 0), zI l2, zI (l3 + 1)] [] σ1 Q))))))) : Runs 6 mX10_pairs 29 [zR 0 0, zI l1, zI l2, zI l3] [] σ Q := by
  refine r_blk [qO (.iload_n 3), qO (.iload_n 2)] (pc' := 31) (L' := [zR 0 0, zI l1, zI l2, zI l3]) (S' := [zI l2, zI l3]) (σ' := σ) (Ps := []) (by decide +kernel) rfl trivial ?_
  refine r_icmp_ge (off := 35) (tgt := 66) (by decide +kernel) (by decide) (fun c => ?_) (fun c => ?_)
  · replace h := h.1 c
    refine r_blk [qO (.iinc 2 1), qO (.goto (-58))] (pc' := 11) (L' := [zR 0 0, zI l1, zI (l2 + 1), zI l3]) (S' := []) (σ' := σ) (Ps := [-2147483648 ≤ l2 + 1 ∧ l2 + 1 ≤ 2147483647]) (by decide +kernel) rfl ⟨h.1, trivial⟩ ?_
    replace h := h.2
    exact Runs.fg (fgE (fgE (fgE (fgU fg0)))) h
  · replace h := h.2 c
    refine r_blk [qO (.iload_n 1), qO (.aload_n 0), qF (.getfield 87) 10 10, qO (.iload_n 2), qO .aaload, qO (.aload_n 0), qF (.getfield 87) 10 10, qO (.iload_n 3), qO .aaload] (pc' := 47) (L' := [zR 0 0, zI l1, zI l2, zI l3]) (S' := [zR 28 l3.toNat, zR 28 l2.toNat, zI l1]) (σ' := σ) (Ps := [0 ≤ l2 ∧ l2 < 8, 0 ≤ l3 ∧ l3 < 8]) (by decide +kernel) rfl ⟨h.1, h.2.1, trivial⟩ ?_
    replace h := h.2.2
    refine r_callVI (As := [zR 28 l3.toNat]) (S := [zI l1]) (Lc := [zR 28 l2.toNat, zR 28 l3.toNat, zU, zU]) (d' := 0) (n := 1) (g := 28) (x := l2.toNat) (ci := 4) kX4_crosses vX4_crosses lkX10_265 (by decide +kernel) (by decide) rfl rfl (by decide) rfl rfl (Nat.le_of_ble_eq_true rfl) rfl rfl (Nat.le_of_ble_eq_true rfl) (h.monoI (fun z2 σ1 h => ?_))
    refine r_if_eq (off := 7) (tgt := 57) (by decide +kernel) (by decide) (fun c => ?_) (fun c => ?_)
    · replace h := h.1 c
      refine r_blk [qO (.iconst 1), qO .iadd, qO (.istore_n 1), qO (.iinc 3 1), qO (.goto (-34))] (pc' := 29) (L' := [zR 0 0, zI (l1 + 1), zI l2, zI (l3 + 1)]) (S' := []) (σ' := σ1) (Ps := [-2147483648 ≤ l1 + 1 ∧ l1 + 1 ≤ 2147483647, -2147483648 ≤ l3 + 1 ∧ l3 + 1 ≤ 2147483647]) (by decide +kernel) rfl ⟨h.1, h.2.1, trivial⟩ ?_
      replace h := h.2.2
      exact Runs.fg (fgE (fgE (fgE (fgE fg0)))) h
    · replace h := h.2 c
      refine r_blk [qO (.iconst 0), qO (.goto 4), qO .iadd, qO (.istore_n 1), qO (.iinc 3 1), qO (.goto (-34))] (pc' := 29) (L' := [zR 0 0, zI (l1 + 0), zI l2, zI (l3 + 1)]) (S' := []) (σ' := σ1) (Ps := [-2147483648 ≤ l1 + 0 ∧ l1 + 0 ≤ 2147483647, -2147483648 ≤ l3 + 1 ∧ l3 + 1 ≤ 2147483647]) (by decide +kernel) rfl ⟨h.1, h.2.1, trivial⟩ ?_
      replace h := h.2.2
      exact Runs.fg (fgE (fgE (fgE (fgE fg0)))) h
theorem gX11_pairs_0 (σ : Hp) {Q : Option Int → Hp → Prop} (h : Runs 8 mX11_pairs 4 [zR 34 0, zI 0, zI 0, zU] [] σ Q) : Runs 8 mX11_pairs 0 [zR 34 0, zU, zU, zU] [] σ Q := by
  refine r_blk [qO (.iconst 0), qO (.istore_n 1), qO (.iconst 0), qO (.istore_n 2)] (pc' := 4) (L' := [zR 34 0, zI 0, zI 0, zU]) (S' := []) (σ' := σ) (Ps := []) (by decide +kernel) rfl trivial ?_
  exact Runs.fg (fgE (fgE (fgE (fgU fg0)))) h
theorem gX11_pairs_4 (l1 : Int) (l2 : Int) (σ : Hp) {Q : Option Int → Hp → Prop} (h : ((σ 36 0 2 ≤ l2 → Q (some l1) σ) ∧ (¬ σ 36 0 2 ≤ l2 → (-2147483648 ≤ l2 + 1 ∧ l2 + 1 ≤ 2147483647) ∧ Runs 8 mX11_pairs 18 [zR 34 0, zI l1, zI l2, zI (l2 + 1)] [] σ Q))) : Runs 8 mX11_pairs 4 [zR 34 0, zI l1, zI l2, zU] [] σ Q := by
  refine r_blk [qO (.iload_n 2), qO (.aload_n 0), qF (.getfield 13) 11 1, qO (.iconst 2), qO .iaload] (pc' := 11) (L' := [zR 34 0, zI l1, zI l2, zU]) (S' := [zI (σ 36 0 2), zI l2]) (σ' := σ) (Ps := [0 ≤ 2 ∧ 2 < 123]) (by decide +kernel) rfl ⟨(by decide), trivial⟩ ?_
  refine r_icmp_ge (off := 46) (tgt := 57) (by decide +kernel) (by decide) (fun c => ?_) (fun c => ?_)
  · replace h := h.1 c
    refine r_blk [qO (.iload_n 1)] (pc' := 58) (L' := [zR 34 0, zI l1, zI l2, zU]) (S' := [zI l1]) (σ' := σ) (Ps := []) (by decide +kernel) rfl trivial ?_
    exact r_ret (by decide +kernel) rfl (fun _ => h)
  · replace h := h.2 c
    refine r_blk [qO (.iload_n 2), qO (.iconst 1), qO .iadd, qO (.istore_n 3)] (pc' := 18) (L' := [zR 34 0, zI l1, zI l2, zI (l2 + 1)]) (S' := []) (σ' := σ) (Ps := [-2147483648 ≤ l2 + 1 ∧ l2 + 1 ≤ 2147483647]) (by decide +kernel) rfl ⟨h.1, trivial⟩ ?_
    replace h := h.2
    exact Runs.fg (fgE (fgE (fgE (fgE fg0)))) h
theorem gX11_pairs_18 (l1 : Int) (l2 : Int) (l3 : Int) (σ : Hp) {Q : Option Int → Hp → Prop} (h : ((σ 36 0 2 ≤ l3 → (-2147483648 ≤ l2 + 1 ∧ l2 + 1 ≤ 2147483647) ∧ Runs 8 mX11_pairs 4 [zR 34 0, zI l1, zI (l2 + 1), zU] [] σ Q) ∧ (¬ σ 36 0 2 ≤ l3 → Runs 7 mX11_areMet 0 [zR 34 0, zI l2, zI l3, zU] [] σ (rI (fun z2 σ1 => ((z2 = 0 → (-2147483648 ≤ l1 + 1 ∧ l1 + 1 ≤ 2147483647) ∧ (-2147483648 ≤ l3 + 1 ∧ l3 + 1 ≤ 2147483647) ∧ Runs 8 mX11_pairs 18 [zR 34 0, zI (l1 + 1), zI l2, zI (l3 + 1)] [] σ1 Q) ∧ (¬ z2 = 0 → (-2147483648 ≤ l1 + 0 ∧ l1 + 0 ≤ 2147483647) ∧ (-2147483648 ≤ l3 + 1 ∧ l3 + 1 ≤ 2147483647) ∧ Runs 8 mX11_pairs 18 [zR 34 0, zI (l1 + 0), zI l2, zI (l3 + 1)] [] σ1 Q))))))) : Runs 8 mX11_pairs 18 [zR 34 0, zI l1, zI l2, zI l3] [] σ Q := by
  refine r_blk [qO (.iload_n 3), qO (.aload_n 0), qF (.getfield 13) 11 1, qO (.iconst 2), qO .iaload] (pc' := 25) (L' := [zR 34 0, zI l1, zI l2, zI l3]) (S' := [zI (σ 36 0 2), zI l3]) (σ' := σ) (Ps := [0 ≤ 2 ∧ 2 < 123]) (by decide +kernel) rfl ⟨(by decide), trivial⟩ ?_
  refine r_icmp_ge (off := 26) (tgt := 51) (by decide +kernel) (by decide) (fun c => ?_) (fun c => ?_)
  · replace h := h.1 c
    refine r_blk [qO (.iinc 2 1), qO (.goto (-50))] (pc' := 4) (L' := [zR 34 0, zI l1, zI (l2 + 1), zI l3]) (S' := []) (σ' := σ) (Ps := [-2147483648 ≤ l2 + 1 ∧ l2 + 1 ≤ 2147483647]) (by decide +kernel) rfl ⟨h.1, trivial⟩ ?_
    replace h := h.2
    exact Runs.fg (fgE (fgE (fgE (fgU fg0)))) h
  · replace h := h.2 c
    refine r_blk [qO (.iload_n 1), qO (.aload_n 0), qO (.iload_n 2), qO (.iload_n 3)] (pc' := 32) (L' := [zR 34 0, zI l1, zI l2, zI l3]) (S' := [zI l3, zI l2, zR 34 0, zI l1]) (σ' := σ) (Ps := []) (by decide +kernel) rfl trivial ?_
    refine r_callVI (As := [zI l2, zI l3]) (S := [zI l1]) (Lc := [zR 34 0, zI l2, zI l3, zU]) (d' := 7) (n := 2) (g := 34) (x := 0) (ci := 11) kX11_areMet vX11_areMet lkX11_209 (by decide +kernel) (by decide) rfl rfl (by decide) rfl rfl (Nat.le_of_ble_eq_true rfl) rfl rfl (Nat.le_of_ble_eq_true rfl) (h.monoI (fun z2 σ1 h => ?_))
    refine r_if_eq (off := 7) (tgt := 42) (by decide +kernel) (by decide) (fun c => ?_) (fun c => ?_)
    · replace h := h.1 c
      refine r_blk [qO (.iconst 1), qO .iadd, qO (.istore_n 1), qO (.iinc 3 1), qO (.goto (-30))] (pc' := 18) (L' := [zR 34 0, zI (l1 + 1), zI l2, zI (l3 + 1)]) (S' := []) (σ' := σ1) (Ps := [-2147483648 ≤ l1 + 1 ∧ l1 + 1 ≤ 2147483647, -2147483648 ≤ l3 + 1 ∧ l3 + 1 ≤ 2147483647]) (by decide +kernel) rfl ⟨h.1, h.2.1, trivial⟩ ?_
      replace h := h.2.2
      exact Runs.fg (fgE (fgE (fgE (fgE fg0)))) h
    · replace h := h.2 c
      refine r_blk [qO (.iconst 0), qO (.goto 4), qO .iadd, qO (.istore_n 1), qO (.iinc 3 1), qO (.goto (-30))] (pc' := 18) (L' := [zR 34 0, zI (l1 + 0), zI l2, zI (l3 + 1)]) (S' := []) (σ' := σ1) (Ps := [-2147483648 ≤ l1 + 0 ∧ l1 + 0 ≤ 2147483647, -2147483648 ≤ l3 + 1 ∧ l3 + 1 ≤ 2147483647]) (by decide +kernel) rfl ⟨h.1, h.2.1, trivial⟩ ?_
      replace h := h.2.2
      exact Runs.fg (fgE (fgE (fgE (fgE fg0)))) h
theorem gX10_lanes_0 (a0 : Int) (a1 : Int) (a2 : Int) (σ : Hp) {Q : Option Int → Hp → Prop} (h : ((0 ≤ a0 ∧ a0 < σ 1 0 0 → ((a1 < 0 → (-6 ≤ (-4) ∧ (-4) ≤ -1) ∧ (σ 33 0 (-(-4)).toNat ≤ 2147483646) ∧ ∀ σ1 : Hp, σ1 = zup σ 33 0 (-(-4)).toNat (σ 33 0 (-(-4)).toNat + 1) → Q (some (-4)) σ1) ∧ (¬ a1 < 0 → ((0 ≤ a2 → ((2879 < a1 → (-6 ≤ (-6) ∧ (-6) ≤ -1) ∧ (σ 33 0 (-(-6)).toNat ≤ 2147483646) ∧ ∀ σ2 : Hp, σ2 = zup σ 33 0 (-(-6)).toNat (σ 33 0 (-(-6)).toNat + 1) → Q (some (-6)) σ2) ∧ (¬ 2879 < a1 → ((2879 < a2 → (-6 ≤ (-6) ∧ (-6) ≤ -1) ∧ (σ 33 0 (-(-6)).toNat ≤ 2147483646) ∧ ∀ σ3 : Hp, σ3 = zup σ 33 0 (-(-6)).toNat (σ 33 0 (-(-6)).toNat + 1) → Q (some (-6)) σ3) ∧ (¬ 2879 < a2 → ((σ 1 0 1 ≤ 10 → ∀ σ4 : Hp, σ4 = tTake σ → Runs 4 mX9_fewestForReach 0 [zR 26 0, zI a0, zI a1, zI a2, zU, zU] [] σ4 (rI (fun z6 σ5 => Q (some z6) σ5))) ∧ (¬ σ 1 0 1 ≤ 10 → (-6 ≤ (-6) ∧ (-6) ≤ -1) ∧ (σ 33 0 (-(-6)).toNat ≤ 2147483646) ∧ ∀ σ7 : Hp, σ7 = zup σ 33 0 (-(-6)).toNat (σ 33 0 (-(-6)).toNat + 1) → Q (some (-6)) σ7))))))) ∧ (¬ 0 ≤ a2 → (-6 ≤ (-4) ∧ (-4) ≤ -1) ∧ (σ 33 0 (-(-4)).toNat ≤ 2147483646) ∧ ∀ σ8 : Hp, σ8 = zup σ 33 0 (-(-4)).toNat (σ 33 0 (-(-4)).toNat + 1) → Q (some (-4)) σ8))))) ∧ (¬ (0 ≤ a0 ∧ a0 < σ 1 0 0) → (-6 ≤ (-1) ∧ (-1) ≤ -1) ∧ (σ 33 0 (-(-1)).toNat ≤ 2147483646) ∧ ∀ σ9 : Hp, σ9 = zup σ 33 0 (-(-1)).toNat (σ 33 0 (-(-1)).toNat + 1) → Q (some (-1)) σ9))) : Runs 5 mX10_lanes 0 [zR 0 0, zI a0, zI a1, zI a2] [] σ Q := by
  refine r_blk [qO (.aload_n 0), qF (.getfield 10) 10 0, qO (.iload_n 1)] (pc' := 5) (L' := [zR 0 0, zI a0, zI a1, zI a2]) (S' := [zI a0, zR 1 0]) (σ' := σ) (Ps := []) (by decide +kernel) rfl trivial ?_
  refine r_callVI (As := [zI a0]) (S := []) (Lc := [zR 1 0, zI a0]) (d' := 0) (n := 1) (g := 1) (x := 0) (ci := 6) kX6_hasCorner vX6_hasCorner lkX10_241 (by decide +kernel) (by decide) rfl rfl (by decide) rfl rfl (Nat.le_of_ble_eq_true rfl) rfl rfl (Nat.le_of_ble_eq_true rfl) (pX6_hasCorner  (fun c => ?_) (fun c => ?_))
  · replace h := h.1 c
    refine r_if_ne (off := 9) (tgt := 17) (by decide +kernel) (by decide) (fun c => ?_) (fun c => ?_)
    · refine r_blk [qO (.iload_n 2)] (pc' := 18) (L' := [zR 0 0, zI a0, zI a1, zI a2]) (S' := [zI a1]) (σ' := σ) (Ps := []) (by decide +kernel) rfl trivial ?_
      refine r_if_lt (off := 7) (tgt := 25) (by decide +kernel) (by decide) (fun c => ?_) (fun c => ?_)
      · replace h := h.1 c
        refine r_blk [qO (.aload_n 0), qO (.bipush (-4))] (pc' := 28) (L' := [zR 0 0, zI a0, zI a1, zI a2]) (S' := [zI (-4), zR 0 0]) (σ' := σ) (Ps := []) (by decide +kernel) rfl trivial ?_
        refine r_callVI (As := [zI (-4)]) (S := []) (Lc := [zR 0 0, zI (-4)]) (d' := 0) (n := 1) (g := 0) (x := 0) (ci := 10) kX10_refuse vX10_refuse lkX10_98 (by decide +kernel) (by decide) rfl rfl (by decide) rfl rfl (Nat.le_of_ble_eq_true rfl) rfl rfl (Nat.le_of_ble_eq_true rfl) (pX10_refuse h.1 h.2.1 ?_)
        replace h := h.2.2
        generalize hσ1 : zup σ 33 0 (-(-4)).toNat (σ 33 0 (-(-4)).toNat + 1) = σ1
        replace h := h σ1 hσ1.symm
        exact r_ret (by decide +kernel) rfl (fun _ => h)
      · replace h := h.2 c
        refine r_blk [qO (.iload_n 3)] (pc' := 22) (L' := [zR 0 0, zI a0, zI a1, zI a2]) (S' := [zI a2]) (σ' := σ) (Ps := []) (by decide +kernel) rfl trivial ?_
        refine r_if_ge (off := 10) (tgt := 32) (by decide +kernel) (by decide) (fun c => ?_) (fun c => ?_)
        · replace h := h.1 c
          refine r_blk [qO (.iload_n 2), qO (.sipush 2879)] (pc' := 36) (L' := [zR 0 0, zI a0, zI a1, zI a2]) (S' := [zI 2879, zI a1]) (σ' := σ) (Ps := []) (by decide +kernel) rfl trivial ?_
          refine r_icmp_gt (off := 22) (tgt := 58) (by decide +kernel) (by decide) (fun c => ?_) (fun c => ?_)
          · replace h := h.1 c
            refine r_blk [qO (.aload_n 0), qO (.bipush (-6))] (pc' := 61) (L' := [zR 0 0, zI a0, zI a1, zI a2]) (S' := [zI (-6), zR 0 0]) (σ' := σ) (Ps := []) (by decide +kernel) rfl trivial ?_
            refine r_callVI (As := [zI (-6)]) (S := []) (Lc := [zR 0 0, zI (-6)]) (d' := 0) (n := 1) (g := 0) (x := 0) (ci := 10) kX10_refuse vX10_refuse lkX10_98 (by decide +kernel) (by decide) rfl rfl (by decide) rfl rfl (Nat.le_of_ble_eq_true rfl) rfl rfl (Nat.le_of_ble_eq_true rfl) (pX10_refuse h.1 h.2.1 ?_)
            replace h := h.2.2
            generalize hσ2 : zup σ 33 0 (-(-6)).toNat (σ 33 0 (-(-6)).toNat + 1) = σ2
            replace h := h σ2 hσ2.symm
            exact r_ret (by decide +kernel) rfl (fun _ => h)
          · replace h := h.2 c
            refine r_blk [qO (.iload_n 3), qO (.sipush 2879)] (pc' := 43) (L' := [zR 0 0, zI a0, zI a1, zI a2]) (S' := [zI 2879, zI a2]) (σ' := σ) (Ps := []) (by decide +kernel) rfl trivial ?_
            refine r_icmp_gt (off := 15) (tgt := 58) (by decide +kernel) (by decide) (fun c => ?_) (fun c => ?_)
            · replace h := h.1 c
              refine r_blk [qO (.aload_n 0), qO (.bipush (-6))] (pc' := 61) (L' := [zR 0 0, zI a0, zI a1, zI a2]) (S' := [zI (-6), zR 0 0]) (σ' := σ) (Ps := []) (by decide +kernel) rfl trivial ?_
              refine r_callVI (As := [zI (-6)]) (S := []) (Lc := [zR 0 0, zI (-6)]) (d' := 0) (n := 1) (g := 0) (x := 0) (ci := 10) kX10_refuse vX10_refuse lkX10_98 (by decide +kernel) (by decide) rfl rfl (by decide) rfl rfl (Nat.le_of_ble_eq_true rfl) rfl rfl (Nat.le_of_ble_eq_true rfl) (pX10_refuse h.1 h.2.1 ?_)
              replace h := h.2.2
              generalize hσ3 : zup σ 33 0 (-(-6)).toNat (σ 33 0 (-(-6)).toNat + 1) = σ3
              replace h := h σ3 hσ3.symm
              exact r_ret (by decide +kernel) rfl (fun _ => h)
            · replace h := h.2 c
              refine r_blk [qO (.aload_n 0), qF (.getfield 10) 10 0, qF (.getfield 164) 6 1, qO (.bipush 10)] (pc' := 55) (L' := [zR 0 0, zI a0, zI a1, zI a2]) (S' := [zI 10, zI (σ 1 0 1)]) (σ' := σ) (Ps := []) (by decide +kernel) rfl trivial ?_
              refine r_icmp_le (off := 10) (tgt := 65) (by decide +kernel) (by decide) (fun c => ?_) (fun c => ?_)
              · replace h := h.1 c
                refine r_blk [qO (.aload_n 0), qF (.getfield 40) 10 4] (pc' := 69) (L' := [zR 0 0, zI a0, zI a1, zI a2]) (S' := [zR 16 0]) (σ' := σ) (Ps := []) (by decide +kernel) rfl trivial ?_
                refine r_callVV (As := []) (S := []) (Lc := [zR 16 0]) (d' := 1) (n := 0) (g := 16) (x := 0) (ci := 7) kX7_takeAsItIs vX7_takeAsItIs lkX10_173 (by decide +kernel) (by decide) rfl rfl (by decide) rfl rfl (Nat.le_of_ble_eq_true rfl) rfl rfl (Nat.le_of_ble_eq_true rfl) (pX7_takeAsItIs  ?_)
                generalize hσ4 : tTake σ = σ4
                replace h := h σ4 hσ4.symm
                refine r_blk [qO (.aload_n 0), qF (.getfield 81) 10 9, qO (.iload_n 1), qO (.iload_n 2), qO (.iload_n 3)] (pc' := 79) (L' := [zR 0 0, zI a0, zI a1, zI a2]) (S' := [zI a2, zI a1, zI a0, zR 26 0]) (σ' := σ4) (Ps := []) (by decide +kernel) rfl trivial ?_
                refine r_callVI (As := [zI a0, zI a1, zI a2]) (S := []) (Lc := [zR 26 0, zI a0, zI a1, zI a2, zU, zU]) (d' := 4) (n := 3) (g := 26) (x := 0) (ci := 9) kX9_fewestForReach vX9_fewestForReach lkX10_272 (by decide +kernel) (by decide) rfl rfl (by decide) rfl rfl (Nat.le_of_ble_eq_true rfl) rfl rfl (Nat.le_of_ble_eq_true rfl) (h.monoI (fun z6 σ5 h => ?_))
                exact r_ret (by decide +kernel) rfl (fun _ => h)
              · replace h := h.2 c
                refine r_blk [qO (.aload_n 0), qO (.bipush (-6))] (pc' := 61) (L' := [zR 0 0, zI a0, zI a1, zI a2]) (S' := [zI (-6), zR 0 0]) (σ' := σ) (Ps := []) (by decide +kernel) rfl trivial ?_
                refine r_callVI (As := [zI (-6)]) (S := []) (Lc := [zR 0 0, zI (-6)]) (d' := 0) (n := 1) (g := 0) (x := 0) (ci := 10) kX10_refuse vX10_refuse lkX10_98 (by decide +kernel) (by decide) rfl rfl (by decide) rfl rfl (Nat.le_of_ble_eq_true rfl) rfl rfl (Nat.le_of_ble_eq_true rfl) (pX10_refuse h.1 h.2.1 ?_)
                replace h := h.2.2
                generalize hσ7 : zup σ 33 0 (-(-6)).toNat (σ 33 0 (-(-6)).toNat + 1) = σ7
                replace h := h σ7 hσ7.symm
                exact r_ret (by decide +kernel) rfl (fun _ => h)
        · replace h := h.2 c
          refine r_blk [qO (.aload_n 0), qO (.bipush (-4))] (pc' := 28) (L' := [zR 0 0, zI a0, zI a1, zI a2]) (S' := [zI (-4), zR 0 0]) (σ' := σ) (Ps := []) (by decide +kernel) rfl trivial ?_
          refine r_callVI (As := [zI (-4)]) (S := []) (Lc := [zR 0 0, zI (-4)]) (d' := 0) (n := 1) (g := 0) (x := 0) (ci := 10) kX10_refuse vX10_refuse lkX10_98 (by decide +kernel) (by decide) rfl rfl (by decide) rfl rfl (Nat.le_of_ble_eq_true rfl) rfl rfl (Nat.le_of_ble_eq_true rfl) (pX10_refuse h.1 h.2.1 ?_)
          replace h := h.2.2
          generalize hσ8 : zup σ 33 0 (-(-4)).toNat (σ 33 0 (-(-4)).toNat + 1) = σ8
          replace h := h σ8 hσ8.symm
          exact r_ret (by decide +kernel) rfl (fun _ => h)
    · exact absurd c (by decide)
  · replace h := h.2 c
    refine r_if_ne (off := 9) (tgt := 17) (by decide +kernel) (by decide) (fun c => ?_) (fun c => ?_)
    · exact absurd c (by decide)
    · refine r_blk [qO (.aload_n 0), qO (.iconst (-1))] (pc' := 13) (L' := [zR 0 0, zI a0, zI a1, zI a2]) (S' := [zI (-1), zR 0 0]) (σ' := σ) (Ps := []) (by decide +kernel) rfl trivial ?_
      refine r_callVI (As := [zI (-1)]) (S := []) (Lc := [zR 0 0, zI (-1)]) (d' := 0) (n := 1) (g := 0) (x := 0) (ci := 10) kX10_refuse vX10_refuse lkX10_98 (by decide +kernel) (by decide) rfl rfl (by decide) rfl rfl (Nat.le_of_ble_eq_true rfl) rfl rfl (Nat.le_of_ble_eq_true rfl) (pX10_refuse h.1 h.2.1 ?_)
      replace h := h.2.2
      generalize hσ9 : zup σ 33 0 (-(-1)).toNat (σ 33 0 (-(-1)).toNat + 1) = σ9
      replace h := h σ9 hσ9.symm
      exact r_ret (by decide +kernel) rfl (fun _ => h)
theorem gX10_shuts_0 (a0 : Int) (σ : Hp) {Q : Option Int → Hp → Prop} (h : ((0 ≤ a0 ∧ a0 < σ 1 0 1 → ∀ σ1 : Hp, σ1 = tTake σ → Runs 6 mX1_total 0 [zR 25 0] [] σ1 (rI (fun z3 σ2 => ∀ σ4 : Hp, σ4 = zup σ2 16 0 5 (zor (σ2 1 0 5) (zshl 1 a0)) → Runs 6 mX1_total 0 [zR 25 0] [] σ4 (rI (fun z6 σ5 => (-2147483648 ≤ z6 - z3 ∧ z6 - z3 ≤ 2147483647) ∧ Q (some (z6 - z3)) σ5))))) ∧ (¬ (0 ≤ a0 ∧ a0 < σ 1 0 1) → (-6 ≤ (-1) ∧ (-1) ≤ -1) ∧ (σ 33 0 (-(-1)).toNat ≤ 2147483646) ∧ ∀ σ7 : Hp, σ7 = zup σ 33 0 (-(-1)).toNat (σ 33 0 (-(-1)).toNat + 1) → Q (some (1000000000 - (-1))) σ7))) : Runs 7 mX10_shuts 0 [zR 0 0, zI a0, zU] [] σ Q := by
  refine r_blk [qO (.aload_n 0), qF (.getfield 10) 10 0, qO (.iload_n 1)] (pc' := 5) (L' := [zR 0 0, zI a0, zU]) (S' := [zI a0, zR 1 0]) (σ' := σ) (Ps := []) (by decide +kernel) rfl trivial ?_
  refine r_callVI (As := [zI a0]) (S := []) (Lc := [zR 1 0, zI a0]) (d' := 0) (n := 1) (g := 1) (x := 0) (ci := 6) kX6_hasStreet vX6_hasStreet lkX10_114 (by decide +kernel) (by decide) rfl rfl (by decide) rfl rfl (Nat.le_of_ble_eq_true rfl) rfl rfl (Nat.le_of_ble_eq_true rfl) (pX6_hasStreet  (fun c => ?_) (fun c => ?_))
  · replace h := h.1 c
    refine r_if_ne (off := 13) (tgt := 21) (by decide +kernel) (by decide) (fun c => ?_) (fun c => ?_)
    · refine r_blk [qO (.aload_n 0), qF (.getfield 40) 10 4] (pc' := 25) (L' := [zR 0 0, zI a0, zU]) (S' := [zR 16 0]) (σ' := σ) (Ps := []) (by decide +kernel) rfl trivial ?_
      refine r_callVV (As := []) (S := []) (Lc := [zR 16 0]) (d' := 1) (n := 0) (g := 16) (x := 0) (ci := 7) kX7_takeAsItIs vX7_takeAsItIs lkX10_173 (by decide +kernel) (by decide) rfl rfl (by decide) rfl rfl (Nat.le_of_ble_eq_true rfl) rfl rfl (Nat.le_of_ble_eq_true rfl) (pX7_takeAsItIs  ?_)
      generalize hσ1 : tTake σ = σ1
      replace h := h σ1 hσ1.symm
      refine r_blk [qO (.aload_n 0), qF (.getfield 72) 10 8] (pc' := 32) (L' := [zR 0 0, zI a0, zU]) (S' := [zR 25 0]) (σ' := σ1) (Ps := []) (by decide +kernel) rfl trivial ?_
      refine r_callVI (As := []) (S := []) (Lc := [zR 25 0]) (d' := 6) (n := 0) (g := 25) (x := 0) (ci := 1) kX1_total vX1_total lkX10_223 (by decide +kernel) (by decide) rfl rfl (by decide) rfl rfl (Nat.le_of_ble_eq_true rfl) rfl rfl (Nat.le_of_ble_eq_true rfl) (h.monoI (fun z3 σ2 h => ?_))
      refine r_blk [qO (.istore_n 2), qO (.aload_n 0), qF (.getfield 40) 10 4, qO (.iload_n 1)] (pc' := 41) (L' := [zR 0 0, zI a0, zI z3]) (S' := [zI a0, zR 16 0]) (σ' := σ2) (Ps := []) (by decide +kernel) rfl trivial ?_
      refine r_callVV (As := [zI a0]) (S := []) (Lc := [zR 16 0, zI a0]) (d' := 0) (n := 1) (g := 16) (x := 0) (ci := 7) kX7_shutAlso vX7_shutAlso lkX10_276 (by decide +kernel) (by decide) rfl rfl (by decide) rfl rfl (Nat.le_of_ble_eq_true rfl) rfl rfl (Nat.le_of_ble_eq_true rfl) (pX7_shutAlso  ?_)
      generalize hσ4 : zup σ2 16 0 5 (zor (σ2 1 0 5) (zshl 1 a0)) = σ4
      replace h := h σ4 hσ4.symm
      refine r_blk [qO (.aload_n 0), qF (.getfield 72) 10 8] (pc' := 48) (L' := [zR 0 0, zI a0, zI z3]) (S' := [zR 25 0]) (σ' := σ4) (Ps := []) (by decide +kernel) rfl trivial ?_
      refine r_callVI (As := []) (S := []) (Lc := [zR 25 0]) (d' := 6) (n := 0) (g := 25) (x := 0) (ci := 1) kX1_total vX1_total lkX10_223 (by decide +kernel) (by decide) rfl rfl (by decide) rfl rfl (Nat.le_of_ble_eq_true rfl) rfl rfl (Nat.le_of_ble_eq_true rfl) (h.monoI (fun z6 σ5 h => ?_))
      refine r_blk [qO (.iload_n 2), qO .isub] (pc' := 53) (L' := [zR 0 0, zI a0, zI z3]) (S' := [zI (z6 - z3)]) (σ' := σ5) (Ps := [-2147483648 ≤ z6 - z3 ∧ z6 - z3 ≤ 2147483647]) (by decide +kernel) rfl ⟨h.1, trivial⟩ ?_
      replace h := h.2
      exact r_ret (by decide +kernel) rfl (fun _ => h)
    · exact absurd c (by decide)
  · replace h := h.2 c
    refine r_if_ne (off := 13) (tgt := 21) (by decide +kernel) (by decide) (fun c => ?_) (fun c => ?_)
    · exact absurd c (by decide)
    · refine r_blk [qC (.ldc_w 275) 1000000000, qO (.aload_n 0), qO (.iconst (-1))] (pc' := 16) (L' := [zR 0 0, zI a0, zU]) (S' := [zI (-1), zR 0 0, zI 1000000000]) (σ' := σ) (Ps := []) (by decide +kernel) rfl trivial ?_
      refine r_callVI (As := [zI (-1)]) (S := [zI 1000000000]) (Lc := [zR 0 0, zI (-1)]) (d' := 0) (n := 1) (g := 0) (x := 0) (ci := 10) kX10_refuse vX10_refuse lkX10_98 (by decide +kernel) (by decide) rfl rfl (by decide) rfl rfl (Nat.le_of_ble_eq_true rfl) rfl rfl (Nat.le_of_ble_eq_true rfl) (pX10_refuse h.1 h.2.1 ?_)
      replace h := h.2.2
      generalize hσ7 : zup σ 33 0 (-(-1)).toNat (σ 33 0 (-(-1)).toNat + 1) = σ7
      replace h := h σ7 hσ7.symm
      refine r_blk [qO .isub] (pc' := 20) (L' := [zR 0 0, zI a0, zU]) (S' := [zI (1000000000 - (-1))]) (σ' := σ7) (Ps := [-2147483648 ≤ 1000000000 - (-1) ∧ 1000000000 - (-1) ≤ 2147483647]) (by decide +kernel) rfl ⟨(by decide), trivial⟩ ?_
      exact r_ret (by decide +kernel) rfl (fun _ => h)
theorem gX10_days_0 (a0 : Int) (a1 : Int) (σ : Hp) {Q : Option Int → Hp → Prop} (h : ((1 ≤ a0 → ((a0 ≤ 10 → ∀ σ1 : Hp, σ1 = tTake σ → Runs 5 mX1_totalOfDays 0 [zR 25 0, zI a0, zI a1, zU, zU, zU] [] σ1 (rI (fun z3 σ2 => Q (some z3) σ2))) ∧ (¬ a0 ≤ 10 → (-6 ≤ (-6) ∧ (-6) ≤ -1) ∧ (σ 33 0 (-(-6)).toNat ≤ 2147483646) ∧ ∀ σ4 : Hp, σ4 = zup σ 33 0 (-(-6)).toNat (σ 33 0 (-(-6)).toNat + 1) → Q (some (-6)) σ4))) ∧ (¬ 1 ≤ a0 → (-6 ≤ (-4) ∧ (-4) ≤ -1) ∧ (σ 33 0 (-(-4)).toNat ≤ 2147483646) ∧ ∀ σ5 : Hp, σ5 = zup σ 33 0 (-(-4)).toNat (σ 33 0 (-(-4)).toNat + 1) → Q (some (-4)) σ5))) : Runs 6 mX10_days 0 [zR 0 0, zI a0, zI a1] [] σ Q := by
  refine r_blk [qO (.iload_n 1), qO (.iconst 1)] (pc' := 2) (L' := [zR 0 0, zI a0, zI a1]) (S' := [zI 1, zI a0]) (σ' := σ) (Ps := []) (by decide +kernel) rfl trivial ?_
  refine r_icmp_ge (off := 10) (tgt := 12) (by decide +kernel) (by decide) (fun c => ?_) (fun c => ?_)
  · replace h := h.1 c
    refine r_blk [qO (.iload_n 1), qO (.bipush 10)] (pc' := 15) (L' := [zR 0 0, zI a0, zI a1]) (S' := [zI 10, zI a0]) (σ' := σ) (Ps := []) (by decide +kernel) rfl trivial ?_
    refine r_icmp_le (off := 10) (tgt := 25) (by decide +kernel) (by decide) (fun c => ?_) (fun c => ?_)
    · replace h := h.1 c
      refine r_blk [qO (.aload_n 0), qF (.getfield 40) 10 4] (pc' := 29) (L' := [zR 0 0, zI a0, zI a1]) (S' := [zR 16 0]) (σ' := σ) (Ps := []) (by decide +kernel) rfl trivial ?_
      refine r_callVV (As := []) (S := []) (Lc := [zR 16 0]) (d' := 1) (n := 0) (g := 16) (x := 0) (ci := 7) kX7_takeAsItIs vX7_takeAsItIs lkX10_173 (by decide +kernel) (by decide) rfl rfl (by decide) rfl rfl (Nat.le_of_ble_eq_true rfl) rfl rfl (Nat.le_of_ble_eq_true rfl) (pX7_takeAsItIs  ?_)
      generalize hσ1 : tTake σ = σ1
      replace h := h σ1 hσ1.symm
      refine r_blk [qO (.aload_n 0), qF (.getfield 72) 10 8, qO (.iload_n 1), qO (.iload_n 2)] (pc' := 38) (L' := [zR 0 0, zI a0, zI a1]) (S' := [zI a1, zI a0, zR 25 0]) (σ' := σ1) (Ps := []) (by decide +kernel) rfl trivial ?_
      refine r_callVI (As := [zI a0, zI a1]) (S := []) (Lc := [zR 25 0, zI a0, zI a1, zU, zU, zU]) (d' := 5) (n := 2) (g := 25) (x := 0) (ci := 1) kX1_totalOfDays vX1_totalOfDays lkX10_279 (by decide +kernel) (by decide) rfl rfl (by decide) rfl rfl (Nat.le_of_ble_eq_true rfl) rfl rfl (Nat.le_of_ble_eq_true rfl) (h.monoI (fun z3 σ2 h => ?_))
      exact r_ret (by decide +kernel) rfl (fun _ => h)
    · replace h := h.2 c
      refine r_blk [qO (.aload_n 0), qO (.bipush (-6))] (pc' := 21) (L' := [zR 0 0, zI a0, zI a1]) (S' := [zI (-6), zR 0 0]) (σ' := σ) (Ps := []) (by decide +kernel) rfl trivial ?_
      refine r_callVI (As := [zI (-6)]) (S := []) (Lc := [zR 0 0, zI (-6)]) (d' := 0) (n := 1) (g := 0) (x := 0) (ci := 10) kX10_refuse vX10_refuse lkX10_98 (by decide +kernel) (by decide) rfl rfl (by decide) rfl rfl (Nat.le_of_ble_eq_true rfl) rfl rfl (Nat.le_of_ble_eq_true rfl) (pX10_refuse h.1 h.2.1 ?_)
      replace h := h.2.2
      generalize hσ4 : zup σ 33 0 (-(-6)).toNat (σ 33 0 (-(-6)).toNat + 1) = σ4
      replace h := h σ4 hσ4.symm
      exact r_ret (by decide +kernel) rfl (fun _ => h)
  · replace h := h.2 c
    refine r_blk [qO (.aload_n 0), qO (.bipush (-4))] (pc' := 8) (L' := [zR 0 0, zI a0, zI a1]) (S' := [zI (-4), zR 0 0]) (σ' := σ) (Ps := []) (by decide +kernel) rfl trivial ?_
    refine r_callVI (As := [zI (-4)]) (S := []) (Lc := [zR 0 0, zI (-4)]) (d' := 0) (n := 1) (g := 0) (x := 0) (ci := 10) kX10_refuse vX10_refuse lkX10_98 (by decide +kernel) (by decide) rfl rfl (by decide) rfl rfl (Nat.le_of_ble_eq_true rfl) rfl rfl (Nat.le_of_ble_eq_true rfl) (pX10_refuse h.1 h.2.1 ?_)
    replace h := h.2.2
    generalize hσ5 : zup σ 33 0 (-(-4)).toNat (σ 33 0 (-(-4)).toNat + 1) = σ5
    replace h := h σ5 hσ5.symm
    exact r_ret (by decide +kernel) rfl (fun _ => h)
theorem gX10_judge_0 (σ : Hp) {Q : Option Int → Hp → Prop} (h : Runs 1 mX6_firstMustUnkept 0 [zR 1 0, zI (σ 1 0 6), zU] [] σ (rI (fun z2 σ1 => ((z2 = (-1) → Runs 3 mX10_freezeAsItIs 0 [zR 0 0, zI 0] [] σ1 (rV (fun σ3 => Runs 1 mX0_firstApart 0 [zR 19 0, zU, zU] [] σ3 (rI (fun z5 σ4 => Q (some z5) σ4))))) ∧ (¬ z2 = (-1) → Q (some z2) σ1))))) : Runs 4 mX10_judge 0 [zR 0 0, zU] [] σ Q := by
  refine r_blk [qO (.aload_n 0), qF (.getfield 10) 10 0, qO (.aload_n 0), qF (.getfield 10) 10 0, qF (.getfield 167) 6 6] (pc' := 11) (L' := [zR 0 0, zU]) (S' := [zI (σ 1 0 6), zR 1 0]) (σ' := σ) (Ps := []) (by decide +kernel) rfl trivial ?_
  refine r_callVI (As := [zI (σ 1 0 6)]) (S := []) (Lc := [zR 1 0, zI (σ 1 0 6), zU]) (d' := 1) (n := 1) (g := 1) (x := 0) (ci := 6) kX6_firstMustUnkept vX6_firstMustUnkept lkX10_282 (by decide +kernel) (by decide) rfl rfl (by decide) rfl rfl (Nat.le_of_ble_eq_true rfl) rfl rfl (Nat.le_of_ble_eq_true rfl) (h.monoI (fun z2 σ1 h => ?_))
  refine r_blk [qO (.istore_n 1), qO (.iload_n 1), qO (.iconst (-1))] (pc' := 17) (L' := [zR 0 0, zI z2]) (S' := [zI (-1), zI z2]) (σ' := σ1) (Ps := []) (by decide +kernel) rfl trivial ?_
  refine r_icmp_eq (off := 5) (tgt := 22) (by decide +kernel) (by decide) (fun c => ?_) (fun c => ?_)
  · replace h := h.1 c
    refine r_blk [qO (.aload_n 0), qO (.iconst 0)] (pc' := 24) (L' := [zR 0 0, zI z2]) (S' := [zI 0, zR 0 0]) (σ' := σ1) (Ps := []) (by decide +kernel) rfl trivial ?_
    refine r_callVV (As := [zI 0]) (S := []) (Lc := [zR 0 0, zI 0]) (d' := 3) (n := 1) (g := 0) (x := 0) (ci := 10) kX10_freezeAsItIs vX10_freezeAsItIs lkX10_204 (by decide +kernel) (by decide) rfl rfl (by decide) rfl rfl (Nat.le_of_ble_eq_true rfl) rfl rfl (Nat.le_of_ble_eq_true rfl) (h.monoV (fun σ3 h => ?_))
    refine r_blk [qO (.aload_n 0), qF (.getfield 56) 10 6] (pc' := 31) (L' := [zR 0 0, zI z2]) (S' := [zR 19 0]) (σ' := σ3) (Ps := []) (by decide +kernel) rfl trivial ?_
    refine r_callVI (As := []) (S := []) (Lc := [zR 19 0, zU, zU]) (d' := 1) (n := 0) (g := 19) (x := 0) (ci := 0) kX0_firstApart vX0_firstApart lkX10_285 (by decide +kernel) (by decide) rfl rfl (by decide) rfl rfl (Nat.le_of_ble_eq_true rfl) rfl rfl (Nat.le_of_ble_eq_true rfl) (h.monoI (fun z5 σ4 h => ?_))
    exact r_ret (by decide +kernel) rfl (fun _ => h)
  · replace h := h.2 c
    refine r_blk [qO (.iload_n 1)] (pc' := 21) (L' := [zR 0 0, zI z2]) (S' := [zI z2]) (σ' := σ1) (Ps := []) (by decide +kernel) rfl trivial ?_
    exact r_ret (by decide +kernel) rfl (fun _ => h)
theorem gX10_image_0 (σ : Hp) {Q : Option Int → Hp → Prop} (h : Runs 1 mX6_takeFrom 0 [zR 1 1, zR 1 0] [] σ (rV (fun σ1 => Q (some (σ1 1 1 1)) (zup σ1 0 0 12 1)))) : Runs 2 mX10_image 0 [zR 0 0] [] σ Q := by
  refine r_blk [qO (.aload_n 0), qF (.getfield 16) 10 1, qO (.aload_n 0), qF (.getfield 10) 10 0] (pc' := 8) (L' := [zR 0 0]) (S' := [zR 1 0, zR 1 1]) (σ' := σ) (Ps := []) (by decide +kernel) rfl trivial ?_
  refine r_callVV (As := [zR 1 0]) (S := []) (Lc := [zR 1 1, zR 1 0]) (d' := 1) (n := 1) (g := 1) (x := 1) (ci := 6) kX6_takeFrom vX6_takeFrom lkX10_288 (by decide +kernel) (by decide) rfl rfl (by decide) rfl rfl (Nat.le_of_ble_eq_true rfl) rfl rfl (Nat.le_of_ble_eq_true rfl) (h.monoV (fun σ1 h => ?_))
  refine r_blk [qO (.aload_n 0), qO (.iconst 1), qF (.putfield 291) 10 12, qO (.aload_n 0), qF (.getfield 16) 10 1, qF (.getfield 164) 6 1] (pc' := 23) (L' := [zR 0 0]) (S' := [zI (σ1 1 1 1)]) (σ' := (zup σ1 0 0 12 1)) (Ps := [1 = 0 ∨ 1 = 1]) (by decide +kernel) rfl ⟨(by decide), trivial⟩ ?_
  exact r_ret (by decide +kernel) rfl (fun _ => h)
theorem gX11_image_0 (σ : Hp) {Q : Option Int → Hp → Prop} (h : Runs 0 mX11_image 2 [zR 34 0, zI 0] [] σ Q) : Runs 0 mX11_image 0 [zR 34 0, zU] [] σ Q := by
  refine r_blk [qO (.iconst 0), qO (.istore_n 1)] (pc' := 2) (L' := [zR 34 0, zI 0]) (S' := []) (σ' := σ) (Ps := []) (by decide +kernel) rfl trivial ?_
  exact Runs.fg (fgE (fgE fg0)) h
theorem gX11_image_2 (l1 : Int) (σ : Hp) {Q : Option Int → Hp → Prop} (h : ((123 ≤ l1 → Q (some (σ 36 0 1)) (zup σ 34 0 4 1)) ∧ (¬ 123 ≤ l1 → (0 ≤ l1 ∧ l1 < 123) ∧ (0 ≤ l1 ∧ l1 < 123) ∧ (-2147483648 ≤ l1 + 1 ∧ l1 + 1 ≤ 2147483647) ∧ Runs 0 mX11_image 2 [zR 34 0, zI (l1 + 1)] [] (zup σ 37 0 l1.toNat (σ 36 0 l1.toNat)) Q))) : Runs 0 mX11_image 2 [zR 34 0, zI l1] [] σ Q := by
  refine r_blk [qO (.iload_n 1), qO (.bipush 123)] (pc' := 5) (L' := [zR 34 0, zI l1]) (S' := [zI 123, zI l1]) (σ' := σ) (Ps := []) (by decide +kernel) rfl trivial ?_
  refine r_icmp_ge (off := 21) (tgt := 26) (by decide +kernel) (by decide) (fun c => ?_) (fun c => ?_)
  · replace h := h.1 c
    refine r_blk [qO (.aload_n 0), qO (.iconst 1), qF (.putfield 218) 11 4, qO (.aload_n 0), qF (.getfield 13) 11 1, qO (.iconst 1), qO .iaload] (pc' := 37) (L' := [zR 34 0, zI l1]) (S' := [zI (σ 36 0 1)]) (σ' := (zup σ 34 0 4 1)) (Ps := [1 = 0 ∨ 1 = 1, 0 ≤ 1 ∧ 1 < 123]) (by decide +kernel) rfl ⟨(by decide), (by decide), trivial⟩ ?_
    exact r_ret (by decide +kernel) rfl (fun _ => h)
  · replace h := h.2 c
    refine r_blk [qO (.aload_n 0), qF (.getfield 16) 11 2, qO (.iload_n 1), qO (.aload_n 0), qF (.getfield 13) 11 1, qO (.iload_n 1), qO .iaload, qO .iastore, qO (.iinc 1 1), qO (.goto (-21))] (pc' := 2) (L' := [zR 34 0, zI (l1 + 1)]) (S' := []) (σ' := (zup σ 37 0 l1.toNat (σ 36 0 l1.toNat))) (Ps := [0 ≤ l1 ∧ l1 < 123, 0 ≤ l1 ∧ l1 < 123, -2147483648 ≤ l1 + 1 ∧ l1 + 1 ≤ 2147483647]) (by decide +kernel) rfl ⟨h.1, h.2.1, h.2.2.1, trivial⟩ ?_
    replace h := h.2.2.2
    exact Runs.fg (fgE (fgE fg0)) h
theorem gX10_on_0 (σ : Hp) {Q : Option Int → Hp → Prop} (h : ((¬ σ 0 0 12 = 0 → Runs 1 mX6_takeFrom 0 [zR 1 0, zR 1 1] [] σ (rV (fun σ1 => Q (some (σ1 1 0 1)) σ1))) ∧ (σ 0 0 12 = 0 → (-6 ≤ (-3) ∧ (-3) ≤ -1) ∧ (σ 33 0 (-(-3)).toNat ≤ 2147483646) ∧ ∀ σ2 : Hp, σ2 = zup σ 33 0 (-(-3)).toNat (σ 33 0 (-(-3)).toNat + 1) → Q (some (-3)) σ2))) : Runs 2 mX10_on 0 [zR 0 0] [] σ Q := by
  refine r_blk [qO (.aload_n 0), qF (.getfield 291) 10 12] (pc' := 4) (L' := [zR 0 0]) (S' := [zI (σ 0 0 12)]) (σ' := σ) (Ps := []) (by decide +kernel) rfl trivial ?_
  refine r_if_ne (off := 10) (tgt := 14) (by decide +kernel) (by decide) (fun c => ?_) (fun c => ?_)
  · replace h := h.1 c
    refine r_blk [qO (.aload_n 0), qF (.getfield 10) 10 0, qO (.aload_n 0), qF (.getfield 16) 10 1] (pc' := 22) (L' := [zR 0 0]) (S' := [zR 1 1, zR 1 0]) (σ' := σ) (Ps := []) (by decide +kernel) rfl trivial ?_
    refine r_callVV (As := [zR 1 1]) (S := []) (Lc := [zR 1 0, zR 1 1]) (d' := 1) (n := 1) (g := 1) (x := 0) (ci := 6) kX6_takeFrom vX6_takeFrom lkX10_288 (by decide +kernel) (by decide) rfl rfl (by decide) rfl rfl (Nat.le_of_ble_eq_true rfl) rfl rfl (Nat.le_of_ble_eq_true rfl) (h.monoV (fun σ1 h => ?_))
    refine r_blk [qO (.aload_n 0), qF (.getfield 10) 10 0, qF (.getfield 164) 6 1] (pc' := 32) (L' := [zR 0 0]) (S' := [zI (σ1 1 0 1)]) (σ' := σ1) (Ps := []) (by decide +kernel) rfl trivial ?_
    exact r_ret (by decide +kernel) rfl (fun _ => h)
  · replace h := h.2 c
    refine r_blk [qO (.aload_n 0), qO (.bipush (-3))] (pc' := 10) (L' := [zR 0 0]) (S' := [zI (-3), zR 0 0]) (σ' := σ) (Ps := []) (by decide +kernel) rfl trivial ?_
    refine r_callVI (As := [zI (-3)]) (S := []) (Lc := [zR 0 0, zI (-3)]) (d' := 0) (n := 1) (g := 0) (x := 0) (ci := 10) kX10_refuse vX10_refuse lkX10_98 (by decide +kernel) (by decide) rfl rfl (by decide) rfl rfl (Nat.le_of_ble_eq_true rfl) rfl rfl (Nat.le_of_ble_eq_true rfl) (pX10_refuse h.1 h.2.1 ?_)
    replace h := h.2.2
    generalize hσ2 : zup σ 33 0 (-(-3)).toNat (σ 33 0 (-(-3)).toNat + 1) = σ2
    replace h := h σ2 hσ2.symm
    exact r_ret (by decide +kernel) rfl (fun _ => h)
theorem gX11_on_0 (σ : Hp) {Q : Option Int → Hp → Prop} (h : ((¬ σ 34 0 4 = 0 → Runs 1 mX11_on 16 [zR 34 0, zI 0] [] σ Q) ∧ (σ 34 0 4 = 0 → (-6 ≤ (-3) ∧ (-3) ≤ -1) ∧ (σ 35 0 (-(-3)).toNat ≤ 2147483646) ∧ ∀ σ1 : Hp, σ1 = zup σ 35 0 (-(-3)).toNat (σ 35 0 (-(-3)).toNat + 1) → Q (some (-3)) σ1))) : Runs 1 mX11_on 0 [zR 34 0, zU] [] σ Q := by
  refine r_blk [qO (.aload_n 0), qF (.getfield 218) 11 4] (pc' := 4) (L' := [zR 34 0, zU]) (S' := [zI (σ 34 0 4)]) (σ' := σ) (Ps := []) (by decide +kernel) rfl trivial ?_
  refine r_if_ne (off := 10) (tgt := 14) (by decide +kernel) (by decide) (fun c => ?_) (fun c => ?_)
  · replace h := h.1 c
    refine r_blk [qO (.iconst 0), qO (.istore_n 1)] (pc' := 16) (L' := [zR 34 0, zI 0]) (S' := []) (σ' := σ) (Ps := []) (by decide +kernel) rfl trivial ?_
    exact Runs.fg (fgE (fgE fg0)) h
  · replace h := h.2 c
    refine r_blk [qO (.aload_n 0), qO (.bipush (-3))] (pc' := 10) (L' := [zR 34 0, zU]) (S' := [zI (-3), zR 34 0]) (σ' := σ) (Ps := []) (by decide +kernel) rfl trivial ?_
    refine r_callVI (As := [zI (-3)]) (S := []) (Lc := [zR 34 0, zI (-3)]) (d' := 0) (n := 1) (g := 34) (x := 0) (ci := 11) kX11_refuse vX11_refuse lkX11_66 (by decide +kernel) (by decide) rfl rfl (by decide) rfl rfl (Nat.le_of_ble_eq_true rfl) rfl rfl (Nat.le_of_ble_eq_true rfl) (pX11_refuse h.1 h.2.1 ?_)
    replace h := h.2.2
    generalize hσ1 : zup σ 35 0 (-(-3)).toNat (σ 35 0 (-(-3)).toNat + 1) = σ1
    replace h := h σ1 hσ1.symm
    exact r_ret (by decide +kernel) rfl (fun _ => h)
theorem gX11_on_16 (l1 : Int) (σ : Hp) {Q : Option Int → Hp → Prop} (h : ((123 ≤ l1 → Q (some (σ 36 0 1)) σ) ∧ (¬ 123 ≤ l1 → (0 ≤ l1 ∧ l1 < 123) ∧ (0 ≤ l1 ∧ l1 < 123) ∧ (-2147483648 ≤ l1 + 1 ∧ l1 + 1 ≤ 2147483647) ∧ Runs 1 mX11_on 16 [zR 34 0, zI (l1 + 1)] [] (zup σ 36 0 l1.toNat (σ 37 0 l1.toNat)) Q))) : Runs 1 mX11_on 16 [zR 34 0, zI l1] [] σ Q := by
  refine r_blk [qO (.iload_n 1), qO (.bipush 123)] (pc' := 19) (L' := [zR 34 0, zI l1]) (S' := [zI 123, zI l1]) (σ' := σ) (Ps := []) (by decide +kernel) rfl trivial ?_
  refine r_icmp_ge (off := 21) (tgt := 40) (by decide +kernel) (by decide) (fun c => ?_) (fun c => ?_)
  · replace h := h.1 c
    refine r_blk [qO (.aload_n 0), qF (.getfield 13) 11 1, qO (.iconst 1), qO .iaload] (pc' := 46) (L' := [zR 34 0, zI l1]) (S' := [zI (σ 36 0 1)]) (σ' := σ) (Ps := [0 ≤ 1 ∧ 1 < 123]) (by decide +kernel) rfl ⟨(by decide), trivial⟩ ?_
    exact r_ret (by decide +kernel) rfl (fun _ => h)
  · replace h := h.2 c
    refine r_blk [qO (.aload_n 0), qF (.getfield 13) 11 1, qO (.iload_n 1), qO (.aload_n 0), qF (.getfield 16) 11 2, qO (.iload_n 1), qO .iaload, qO .iastore, qO (.iinc 1 1), qO (.goto (-21))] (pc' := 16) (L' := [zR 34 0, zI (l1 + 1)]) (S' := []) (σ' := (zup σ 36 0 l1.toNat (σ 37 0 l1.toNat))) (Ps := [0 ≤ l1 ∧ l1 < 123, 0 ≤ l1 ∧ l1 < 123, -2147483648 ≤ l1 + 1 ∧ l1 + 1 ≤ 2147483647]) (by decide +kernel) rfl ⟨h.1, h.2.1, h.2.2.1, trivial⟩ ?_
    replace h := h.2.2.2
    exact Runs.fg (fgE (fgE fg0)) h
theorem gX10_count_0 (a0 : Int) (σ : Hp) {Q : Option Int → Hp → Prop} (h : ((a0 < 11 → Runs 1 mX10_count 22 [zR 0 0, zI a0] [] σ Q) ∧ (¬ a0 < 11 → ((16 < a0 → Runs 1 mX10_count 22 [zR 0 0, zI a0] [] σ Q) ∧ (¬ 16 < a0 → (-2147483648 ≤ a0 - 10 ∧ a0 - 10 ≤ 2147483647) ∧ (0 ≤ a0 - 10 ∧ a0 - 10 < 7) ∧ Q (some (σ 33 0 ((a0 - 10).toNat))) σ))))) : Runs 1 mX10_count 0 [zR 0 0, zI a0] [] σ Q := by
  refine r_blk [qO (.iload_n 1), qO (.bipush 11)] (pc' := 3) (L' := [zR 0 0, zI a0]) (S' := [zI 11, zI a0]) (σ' := σ) (Ps := []) (by decide +kernel) rfl trivial ?_
  refine r_icmp_lt (off := 19) (tgt := 22) (by decide +kernel) (by decide) (fun c => ?_) (fun c => ?_)
  · replace h := h.1 c
    exact Runs.fg (fgE (fgE fg0)) h
  · replace h := h.2 c
    refine r_blk [qO (.iload_n 1), qO (.bipush 16)] (pc' := 9) (L' := [zR 0 0, zI a0]) (S' := [zI 16, zI a0]) (σ' := σ) (Ps := []) (by decide +kernel) rfl trivial ?_
    refine r_icmp_gt (off := 13) (tgt := 22) (by decide +kernel) (by decide) (fun c => ?_) (fun c => ?_)
    · replace h := h.1 c
      exact Runs.fg (fgE (fgE fg0)) h
    · replace h := h.2 c
      refine r_blk [qO (.aload_n 0), qF (.getfield 91) 10 11, qO (.iload_n 1), qO (.bipush 10), qO .isub, qO .iaload] (pc' := 21) (L' := [zR 0 0, zI a0]) (S' := [zI (σ 33 0 ((a0 - 10).toNat))]) (σ' := σ) (Ps := [-2147483648 ≤ a0 - 10 ∧ a0 - 10 ≤ 2147483647, 0 ≤ a0 - 10 ∧ a0 - 10 < 7]) (by decide +kernel) rfl ⟨h.1, h.2.1, trivial⟩ ?_
      replace h := h.2.2
      exact r_ret (by decide +kernel) rfl (fun _ => h)
theorem gX10_count_22 (l1 : Int) (σ : Hp) {Q : Option Int → Hp → Prop} (h : ((l1 < 0 ∨ 7 < l1 → Q (some (-9)) σ) ∧ (l1 = 0 → Q (some (σ 1 0 0)) σ) ∧ (l1 = 1 → Q (some (σ 1 0 1)) σ) ∧ (l1 = 2 → Q (some (σ 1 0 2)) σ) ∧ (l1 = 3 → Runs 0 mJ6_bitCount_0f7a4 0 [zI (σ 1 0 4)] [] σ (rI (fun z2 σ1 => Q (some z2) σ1))) ∧ (l1 = 4 → Runs 0 mX6_mustsTold 0 [zR 1 0, zU, zU] [] σ (rI (fun z4 σ3 => Q (some z4) σ3))) ∧ (l1 = 5 → Runs 0 mJ6_bitCount_0f7a4 0 [zI (σ 1 0 5)] [] σ (rI (fun z6 σ5 => Q (some z6) σ5))) ∧ (l1 = 6 → Q (some (σ 1 0 3)) σ) ∧ (l1 = 7 → Q (some (σ 12 0 1)) σ))) : Runs 1 mX10_count 22 [zR 0 0, zI l1] [] σ Q := by
  refine r_blk [qO (.iload_n 1)] (pc' := 23) (L' := [zR 0 0, zI l1]) (S' := [zI l1]) (σ' := σ) (Ps := []) (by decide +kernel) rfl trivial ?_
  by_cases c : l1 < 0 ∨ 7 < l1
  · replace h := h.1 c
    refine r_tableOut (dflt := 115) (lo := 0) (hi := 7) (offs := #[45, 53, 61, 69, 80, 88, 99, 107]) (len := 45) (tgt := 138) (by decide +kernel) c (by decide) ?_
    refine r_blk [qO (.bipush (-9))] (pc' := 140) (L' := [zR 0 0, zI l1]) (S' := [zI (-9)]) (σ' := σ) (Ps := []) (by decide +kernel) rfl trivial ?_
    exact r_ret (by decide +kernel) rfl (fun _ => h)
  replace h := h.2
  have hc : l1 = 0 ∨ l1 = 1 ∨ l1 = 2 ∨ l1 = 3 ∨ l1 = 4 ∨ l1 = 5 ∨ l1 = 6 ∨ l1 = 7 := by omega
  rcases hc with c | c | c | c | c | c | c | c
  · replace h := h.1 c
    refine r_tableIn (dflt := 115) (lo := 0) (hi := 7) (offs := #[45, 53, 61, 69, 80, 88, 99, 107]) (len := 45) (off := 45) (tgt := 68) (by decide +kernel) (by omega) (by omega) (by rw [c]; rfl) (by decide) ?_
    refine r_blk [qO (.aload_n 0), qF (.getfield 10) 10 0, qF (.getfield 295) 6 0] (pc' := 75) (L' := [zR 0 0, zI l1]) (S' := [zI (σ 1 0 0)]) (σ' := σ) (Ps := []) (by decide +kernel) rfl trivial ?_
    exact r_ret (by decide +kernel) rfl (fun _ => h)
  · replace h := h.2.1 c
    refine r_tableIn (dflt := 115) (lo := 0) (hi := 7) (offs := #[45, 53, 61, 69, 80, 88, 99, 107]) (len := 45) (off := 53) (tgt := 76) (by decide +kernel) (by omega) (by omega) (by rw [c]; rfl) (by decide) ?_
    refine r_blk [qO (.aload_n 0), qF (.getfield 10) 10 0, qF (.getfield 164) 6 1] (pc' := 83) (L' := [zR 0 0, zI l1]) (S' := [zI (σ 1 0 1)]) (σ' := σ) (Ps := []) (by decide +kernel) rfl trivial ?_
    exact r_ret (by decide +kernel) rfl (fun _ => h)
  · replace h := h.2.2.1 c
    refine r_tableIn (dflt := 115) (lo := 0) (hi := 7) (offs := #[45, 53, 61, 69, 80, 88, 99, 107]) (len := 45) (off := 61) (tgt := 84) (by decide +kernel) (by omega) (by omega) (by rw [c]; rfl) (by decide) ?_
    refine r_blk [qO (.aload_n 0), qF (.getfield 10) 10 0, qF (.getfield 269) 6 2] (pc' := 91) (L' := [zR 0 0, zI l1]) (S' := [zI (σ 1 0 2)]) (σ' := σ) (Ps := []) (by decide +kernel) rfl trivial ?_
    exact r_ret (by decide +kernel) rfl (fun _ => h)
  · replace h := h.2.2.2.1 c
    refine r_tableIn (dflt := 115) (lo := 0) (hi := 7) (offs := #[45, 53, 61, 69, 80, 88, 99, 107]) (len := 45) (off := 69) (tgt := 92) (by decide +kernel) (by omega) (by omega) (by rw [c]; rfl) (by decide) ?_
    refine r_blk [qO (.aload_n 0), qF (.getfield 10) 10 0, qF (.getfield 127) 6 4] (pc' := 99) (L' := [zR 0 0, zI l1]) (S' := [zI (σ 1 0 4)]) (σ' := σ) (Ps := []) (by decide +kernel) rfl trivial ?_
    refine r_callSI (As := [zI (σ 1 0 4)]) (S := []) (Lc := [zI (σ 1 0 4)]) (d' := 0) (n := 1) kJ6_bitCount_0f7a4 vJ6_bitCount_0f7a4 lkX10_298 (by decide +kernel) (by decide) rfl rfl (Nat.le_of_ble_eq_true rfl) rfl rfl (Nat.le_of_ble_eq_true rfl) (h.monoI (fun z2 σ1 h => ?_))
    exact r_ret (by decide +kernel) rfl (fun _ => h)
  · replace h := h.2.2.2.2.1 c
    refine r_tableIn (dflt := 115) (lo := 0) (hi := 7) (offs := #[45, 53, 61, 69, 80, 88, 99, 107]) (len := 45) (off := 80) (tgt := 103) (by decide +kernel) (by omega) (by omega) (by rw [c]; rfl) (by decide) ?_
    refine r_blk [qO (.aload_n 0), qF (.getfield 10) 10 0] (pc' := 107) (L' := [zR 0 0, zI l1]) (S' := [zR 1 0]) (σ' := σ) (Ps := []) (by decide +kernel) rfl trivial ?_
    refine r_callVI (As := []) (S := []) (Lc := [zR 1 0, zU, zU]) (d' := 0) (n := 0) (g := 1) (x := 0) (ci := 6) kX6_mustsTold vX6_mustsTold lkX10_303 (by decide +kernel) (by decide) rfl rfl (by decide) rfl rfl (Nat.le_of_ble_eq_true rfl) rfl rfl (Nat.le_of_ble_eq_true rfl) (h.monoI (fun z4 σ3 h => ?_))
    exact r_ret (by decide +kernel) rfl (fun _ => h)
  · replace h := h.2.2.2.2.2.1 c
    refine r_tableIn (dflt := 115) (lo := 0) (hi := 7) (offs := #[45, 53, 61, 69, 80, 88, 99, 107]) (len := 45) (off := 88) (tgt := 111) (by decide +kernel) (by omega) (by omega) (by rw [c]; rfl) (by decide) ?_
    refine r_blk [qO (.aload_n 0), qF (.getfield 10) 10 0, qF (.getfield 137) 6 5] (pc' := 118) (L' := [zR 0 0, zI l1]) (S' := [zI (σ 1 0 5)]) (σ' := σ) (Ps := []) (by decide +kernel) rfl trivial ?_
    refine r_callSI (As := [zI (σ 1 0 5)]) (S := []) (Lc := [zI (σ 1 0 5)]) (d' := 0) (n := 1) kJ6_bitCount_0f7a4 vJ6_bitCount_0f7a4 lkX10_298 (by decide +kernel) (by decide) rfl rfl (Nat.le_of_ble_eq_true rfl) rfl rfl (Nat.le_of_ble_eq_true rfl) (h.monoI (fun z6 σ5 h => ?_))
    exact r_ret (by decide +kernel) rfl (fun _ => h)
  · replace h := h.2.2.2.2.2.2.1 c
    refine r_tableIn (dflt := 115) (lo := 0) (hi := 7) (offs := #[45, 53, 61, 69, 80, 88, 99, 107]) (len := 45) (off := 99) (tgt := 122) (by decide +kernel) (by omega) (by omega) (by rw [c]; rfl) (by decide) ?_
    refine r_blk [qO (.aload_n 0), qF (.getfield 10) 10 0, qF (.getfield 244) 6 3] (pc' := 129) (L' := [zR 0 0, zI l1]) (S' := [zI (σ 1 0 3)]) (σ' := σ) (Ps := []) (by decide +kernel) rfl trivial ?_
    exact r_ret (by decide +kernel) rfl (fun _ => h)
  · replace h := h.2.2.2.2.2.2.2 c
    refine r_tableIn (dflt := 115) (lo := 0) (hi := 7) (offs := #[45, 53, 61, 69, 80, 88, 99, 107]) (len := 45) (off := 107) (tgt := 130) (by decide +kernel) (by omega) (by omega) (by rw [c]; rfl) (by decide) ?_
    refine r_blk [qO (.aload_n 0), qF (.getfield 22) 10 2, qF (.getfield 102) 5 1] (pc' := 137) (L' := [zR 0 0, zI l1]) (S' := [zI (σ 12 0 1)]) (σ' := σ) (Ps := []) (by decide +kernel) rfl trivial ?_
    exact r_ret (by decide +kernel) rfl (fun _ => h)
theorem gX11_count_0 (a0 : Int) (σ : Hp) {Q : Option Int → Hp → Prop} (h : ((a0 ≤ 10 → Runs 1 mX11_count 22 [zR 34 0, zI a0, zU, zU] [] σ Q) ∧ (¬ a0 ≤ 10 → ((17 ≤ a0 → Runs 1 mX11_count 22 [zR 34 0, zI a0, zU, zU] [] σ Q) ∧ (¬ 17 ≤ a0 → (-2147483648 ≤ a0 - 10 ∧ a0 - 10 ≤ 2147483647) ∧ (0 ≤ a0 - 10 ∧ a0 - 10 < 7) ∧ Q (some (σ 35 0 ((a0 - 10).toNat))) σ))))) : Runs 1 mX11_count 0 [zR 34 0, zI a0, zU, zU] [] σ Q := by
  refine r_blk [qO (.iload_n 1), qO (.bipush 10)] (pc' := 3) (L' := [zR 34 0, zI a0, zU, zU]) (S' := [zI 10, zI a0]) (σ' := σ) (Ps := []) (by decide +kernel) rfl trivial ?_
  refine r_icmp_le (off := 19) (tgt := 22) (by decide +kernel) (by decide) (fun c => ?_) (fun c => ?_)
  · replace h := h.1 c
    exact Runs.fg (fgE (fgE (fgU (fgU fg0)))) h
  · replace h := h.2 c
    refine r_blk [qO (.iload_n 1), qO (.bipush 17)] (pc' := 9) (L' := [zR 34 0, zI a0, zU, zU]) (S' := [zI 17, zI a0]) (σ' := σ) (Ps := []) (by decide +kernel) rfl trivial ?_
    refine r_icmp_ge (off := 13) (tgt := 22) (by decide +kernel) (by decide) (fun c => ?_) (fun c => ?_)
    · replace h := h.1 c
      exact Runs.fg (fgE (fgE (fgU (fgU fg0)))) h
    · replace h := h.2 c
      refine r_blk [qO (.aload_n 0), qF (.getfield 7) 11 0, qO (.iload_n 1), qO (.bipush 10), qO .isub, qO .iaload] (pc' := 21) (L' := [zR 34 0, zI a0, zU, zU]) (S' := [zI (σ 35 0 ((a0 - 10).toNat))]) (σ' := σ) (Ps := [-2147483648 ≤ a0 - 10 ∧ a0 - 10 ≤ 2147483647, 0 ≤ a0 - 10 ∧ a0 - 10 < 7]) (by decide +kernel) rfl ⟨h.1, h.2.1, trivial⟩ ?_
      replace h := h.2.2
      exact r_ret (by decide +kernel) rfl (fun _ => h)
theorem gX11_count_22 (l1 : Int) (σ : Hp) {Q : Option Int → Hp → Prop} (h : ((l1 < 0 ∨ 7 < l1 → Q (some (-9)) σ) ∧ (l1 = 0 → (0 ≤ l1 ∧ l1 < 123) ∧ Q (some (σ 36 0 l1.toNat)) σ) ∧ (l1 = 1 → (0 ≤ l1 ∧ l1 < 123) ∧ Q (some (σ 36 0 l1.toNat)) σ) ∧ (l1 = 2 → (0 ≤ l1 ∧ l1 < 123) ∧ Q (some (σ 36 0 l1.toNat)) σ) ∧ (l1 = 3 → Runs 1 mX11_count 81 [zR 34 0, zI l1, zI 0, zI 0] [] σ Q) ∧ (l1 = 4 → Runs 1 mX11_count 81 [zR 34 0, zI l1, zI 0, zI 0] [] σ Q) ∧ (l1 = 5 → Runs 0 mX11_bits 0 [zI (σ 36 0 4), zU, zU] [] σ (rI (fun z2 σ1 => Q (some z2) σ1))) ∧ (l1 = 6 → Q (some (σ 36 0 6)) σ) ∧ (l1 = 7 → Q (some (σ 34 0 7)) σ))) : Runs 1 mX11_count 22 [zR 34 0, zI l1, zU, zU] [] σ Q := by
  refine r_blk [qO (.iconst 0), qO (.istore_n 2), qO (.iload_n 1)] (pc' := 25) (L' := [zR 34 0, zI l1, zI 0, zU]) (S' := [zI l1]) (σ' := σ) (Ps := []) (by decide +kernel) rfl trivial ?_
  by_cases c : l1 < 0 ∨ 7 < l1
  · replace h := h.1 c
    refine r_tableOut (dflt := 129) (lo := 0) (hi := 7) (offs := #[47, 47, 47, 54, 54, 106, 116, 124]) (len := 47) (tgt := 154) (by decide +kernel) c (by decide) ?_
    refine r_blk [qO (.bipush (-9))] (pc' := 156) (L' := [zR 34 0, zI l1, zI 0, zU]) (S' := [zI (-9)]) (σ' := σ) (Ps := []) (by decide +kernel) rfl trivial ?_
    exact r_ret (by decide +kernel) rfl (fun _ => h)
  replace h := h.2
  have hc : l1 = 0 ∨ l1 = 1 ∨ l1 = 2 ∨ l1 = 3 ∨ l1 = 4 ∨ l1 = 5 ∨ l1 = 6 ∨ l1 = 7 := by omega
  rcases hc with c | c | c | c | c | c | c | c
  · replace h := h.1 c
    refine r_tableIn (dflt := 129) (lo := 0) (hi := 7) (offs := #[47, 47, 47, 54, 54, 106, 116, 124]) (len := 47) (off := 47) (tgt := 72) (by decide +kernel) (by omega) (by omega) (by rw [c]; rfl) (by decide) ?_
    refine r_blk [qO (.aload_n 0), qF (.getfield 13) 11 1, qO (.iload_n 1), qO .iaload] (pc' := 78) (L' := [zR 34 0, zI l1, zI 0, zU]) (S' := [zI (σ 36 0 l1.toNat)]) (σ' := σ) (Ps := [0 ≤ l1 ∧ l1 < 123]) (by decide +kernel) rfl ⟨h.1, trivial⟩ ?_
    replace h := h.2
    exact r_ret (by decide +kernel) rfl (fun _ => h)
  · replace h := h.2.1 c
    refine r_tableIn (dflt := 129) (lo := 0) (hi := 7) (offs := #[47, 47, 47, 54, 54, 106, 116, 124]) (len := 47) (off := 47) (tgt := 72) (by decide +kernel) (by omega) (by omega) (by rw [c]; rfl) (by decide) ?_
    refine r_blk [qO (.aload_n 0), qF (.getfield 13) 11 1, qO (.iload_n 1), qO .iaload] (pc' := 78) (L' := [zR 34 0, zI l1, zI 0, zU]) (S' := [zI (σ 36 0 l1.toNat)]) (σ' := σ) (Ps := [0 ≤ l1 ∧ l1 < 123]) (by decide +kernel) rfl ⟨h.1, trivial⟩ ?_
    replace h := h.2
    exact r_ret (by decide +kernel) rfl (fun _ => h)
  · replace h := h.2.2.1 c
    refine r_tableIn (dflt := 129) (lo := 0) (hi := 7) (offs := #[47, 47, 47, 54, 54, 106, 116, 124]) (len := 47) (off := 47) (tgt := 72) (by decide +kernel) (by omega) (by omega) (by rw [c]; rfl) (by decide) ?_
    refine r_blk [qO (.aload_n 0), qF (.getfield 13) 11 1, qO (.iload_n 1), qO .iaload] (pc' := 78) (L' := [zR 34 0, zI l1, zI 0, zU]) (S' := [zI (σ 36 0 l1.toNat)]) (σ' := σ) (Ps := [0 ≤ l1 ∧ l1 < 123]) (by decide +kernel) rfl ⟨h.1, trivial⟩ ?_
    replace h := h.2
    exact r_ret (by decide +kernel) rfl (fun _ => h)
  · replace h := h.2.2.2.1 c
    refine r_tableIn (dflt := 129) (lo := 0) (hi := 7) (offs := #[47, 47, 47, 54, 54, 106, 116, 124]) (len := 47) (off := 54) (tgt := 79) (by decide +kernel) (by omega) (by omega) (by rw [c]; rfl) (by decide) ?_
    refine r_blk [qO (.iconst 0), qO (.istore_n 3)] (pc' := 81) (L' := [zR 34 0, zI l1, zI 0, zI 0]) (S' := []) (σ' := σ) (Ps := []) (by decide +kernel) rfl trivial ?_
    exact Runs.fg (fgE (fgE (fgE (fgE fg0)))) h
  · replace h := h.2.2.2.2.1 c
    refine r_tableIn (dflt := 129) (lo := 0) (hi := 7) (offs := #[47, 47, 47, 54, 54, 106, 116, 124]) (len := 47) (off := 54) (tgt := 79) (by decide +kernel) (by omega) (by omega) (by rw [c]; rfl) (by decide) ?_
    refine r_blk [qO (.iconst 0), qO (.istore_n 3)] (pc' := 81) (L' := [zR 34 0, zI l1, zI 0, zI 0]) (S' := []) (σ' := σ) (Ps := []) (by decide +kernel) rfl trivial ?_
    exact Runs.fg (fgE (fgE (fgE (fgE fg0)))) h
  · replace h := h.2.2.2.2.2.1 c
    refine r_tableIn (dflt := 129) (lo := 0) (hi := 7) (offs := #[47, 47, 47, 54, 54, 106, 116, 124]) (len := 47) (off := 106) (tgt := 131) (by decide +kernel) (by omega) (by omega) (by rw [c]; rfl) (by decide) ?_
    refine r_blk [qO (.aload_n 0), qF (.getfield 13) 11 1, qO (.iconst 4), qO .iaload] (pc' := 137) (L' := [zR 34 0, zI l1, zI 0, zU]) (S' := [zI (σ 36 0 4)]) (σ' := σ) (Ps := [0 ≤ 4 ∧ 4 < 123]) (by decide +kernel) rfl ⟨(by decide), trivial⟩ ?_
    refine r_callSI (As := [zI (σ 36 0 4)]) (S := []) (Lc := [zI (σ 36 0 4), zU, zU]) (d' := 0) (n := 1) kX11_bits vX11_bits lkX11_200 (by decide +kernel) (by decide) rfl rfl (Nat.le_of_ble_eq_true rfl) rfl rfl (Nat.le_of_ble_eq_true rfl) (h.monoI (fun z2 σ1 h => ?_))
    exact r_ret (by decide +kernel) rfl (fun _ => h)
  · replace h := h.2.2.2.2.2.2.1 c
    refine r_tableIn (dflt := 129) (lo := 0) (hi := 7) (offs := #[47, 47, 47, 54, 54, 106, 116, 124]) (len := 47) (off := 116) (tgt := 141) (by decide +kernel) (by omega) (by omega) (by rw [c]; rfl) (by decide) ?_
    refine r_blk [qO (.aload_n 0), qF (.getfield 13) 11 1, qO (.bipush 6), qO .iaload] (pc' := 148) (L' := [zR 34 0, zI l1, zI 0, zU]) (S' := [zI (σ 36 0 6)]) (σ' := σ) (Ps := [0 ≤ 6 ∧ 6 < 123]) (by decide +kernel) rfl ⟨(by decide), trivial⟩ ?_
    exact r_ret (by decide +kernel) rfl (fun _ => h)
  · replace h := h.2.2.2.2.2.2.2 c
    refine r_tableIn (dflt := 129) (lo := 0) (hi := 7) (offs := #[47, 47, 47, 54, 54, 106, 116, 124]) (len := 47) (off := 124) (tgt := 149) (by decide +kernel) (by omega) (by omega) (by rw [c]; rfl) (by decide) ?_
    refine r_blk [qO (.aload_n 0), qF (.getfield 70) 11 7] (pc' := 153) (L' := [zR 34 0, zI l1, zI 0, zU]) (S' := [zI (σ 34 0 7)]) (σ' := σ) (Ps := []) (by decide +kernel) rfl trivial ?_
    exact r_ret (by decide +kernel) rfl (fun _ => h)
theorem gX11_count_81 (l1 : Int) (l2 : Int) (l3 : Int) (σ : Hp) {Q : Option Int → Hp → Prop} (h : ((σ 36 0 1 ≤ l3 → Q (some l2) σ) ∧ (¬ σ 36 0 1 ≤ l3 → ((¬ l1 = 3 → (0 ≤ l3 ∧ l3 < 14) ∧ ((2 ≤ sg (σ 36 0) l3 4 → (-2147483648 ≤ l2 + 0 ∧ l2 + 0 ≤ 2147483647) ∧ (-2147483648 ≤ l3 + 1 ∧ l3 + 1 ≤ 2147483647) ∧ Runs 1 mX11_count 81 [zR 34 0, zI l1, zI (l2 + 0), zI (l3 + 1)] [] σ Q) ∧ (¬ 2 ≤ sg (σ 36 0) l3 4 → (-2147483648 ≤ l2 + 1 ∧ l2 + 1 ≤ 2147483647) ∧ (-2147483648 ≤ l3 + 1 ∧ l3 + 1 ≤ 2147483647) ∧ Runs 1 mX11_count 81 [zR 34 0, zI l1, zI (l2 + 1), zI (l3 + 1)] [] σ Q))) ∧ (l1 = 3 → (0 ≤ l3 ∧ l3 < 14) ∧ (-2147483648 ≤ l2 + (sg (σ 36 0) l3 3) ∧ l2 + (sg (σ 36 0) l3 3) ≤ 2147483647) ∧ (-2147483648 ≤ l3 + 1 ∧ l3 + 1 ≤ 2147483647) ∧ Runs 1 mX11_count 81 [zR 34 0, zI l1, zI (l2 + (sg (σ 36 0) l3 3)), zI (l3 + 1)] [] σ Q))))) : Runs 1 mX11_count 81 [zR 34 0, zI l1, zI l2, zI l3] [] σ Q := by
  refine r_blk [qO (.iload_n 3), qO (.aload_n 0), qF (.getfield 13) 11 1, qO (.iconst 1), qO .iaload] (pc' := 88) (L' := [zR 34 0, zI l1, zI l2, zI l3]) (S' := [zI (σ 36 0 1), zI l3]) (σ' := σ) (Ps := [0 ≤ 1 ∧ 1 < 123]) (by decide +kernel) rfl ⟨(by decide), trivial⟩ ?_
  refine r_icmp_ge (off := 41) (tgt := 129) (by decide +kernel) (by decide) (fun c => ?_) (fun c => ?_)
  · replace h := h.1 c
    refine r_blk [qO (.iload_n 2)] (pc' := 130) (L' := [zR 34 0, zI l1, zI l2, zI l3]) (S' := [zI l2]) (σ' := σ) (Ps := []) (by decide +kernel) rfl trivial ?_
    exact r_ret (by decide +kernel) rfl (fun _ => h)
  · replace h := h.2 c
    refine r_blk [qO (.iload_n 2), qO (.iload_n 1), qO (.iconst 3)] (pc' := 94) (L' := [zR 34 0, zI l1, zI l2, zI l3]) (S' := [zI 3, zI l1, zI l2]) (σ' := σ) (Ps := []) (by decide +kernel) rfl trivial ?_
    refine r_icmp_ne (off := 12) (tgt := 106) (by decide +kernel) (by decide) (fun c => ?_) (fun c => ?_)
    · replace h := h.1 c
      refine r_blk [qO (.aload_n 0), qO (.iload_n 3), qO (.iconst 4)] (pc' := 109) (L' := [zR 34 0, zI l1, zI l2, zI l3]) (S' := [zI 4, zI l3, zR 34 0, zI l2]) (σ' := σ) (Ps := []) (by decide +kernel) rfl trivial ?_
      refine r_callVI (As := [zI l3, zI 4]) (S := [zI l2]) (Lc := [zR 34 0, zI l3, zI 4]) (d' := 0) (n := 2) (g := 34) (x := 0) (ci := 11) kX11_get vX11_get lkX11_106 (by decide +kernel) (by decide) rfl rfl (by decide) rfl rfl (Nat.le_of_ble_eq_true rfl) rfl rfl (Nat.le_of_ble_eq_true rfl) (pX11_get h.1 (by decide) ?_)
      replace h := h.2
      refine r_blk [qO (.iconst 2)] (pc' := 113) (L' := [zR 34 0, zI l1, zI l2, zI l3]) (S' := [zI 2, zI (sg (σ 36 0) l3 4), zI l2]) (σ' := σ) (Ps := []) (by decide +kernel) rfl trivial ?_
      refine r_icmp_ge (off := 7) (tgt := 120) (by decide +kernel) (by decide) (fun c => ?_) (fun c => ?_)
      · replace h := h.1 c
        refine r_blk [qO (.iconst 0), qO .iadd, qO (.istore_n 2), qO (.iinc 3 1), qO (.goto (-45))] (pc' := 81) (L' := [zR 34 0, zI l1, zI (l2 + 0), zI (l3 + 1)]) (S' := []) (σ' := σ) (Ps := [-2147483648 ≤ l2 + 0 ∧ l2 + 0 ≤ 2147483647, -2147483648 ≤ l3 + 1 ∧ l3 + 1 ≤ 2147483647]) (by decide +kernel) rfl ⟨h.1, h.2.1, trivial⟩ ?_
        replace h := h.2.2
        exact Runs.fg (fgE (fgE (fgE (fgE fg0)))) h
      · replace h := h.2 c
        refine r_blk [qO (.iconst 1), qO (.goto 4), qO .iadd, qO (.istore_n 2), qO (.iinc 3 1), qO (.goto (-45))] (pc' := 81) (L' := [zR 34 0, zI l1, zI (l2 + 1), zI (l3 + 1)]) (S' := []) (σ' := σ) (Ps := [-2147483648 ≤ l2 + 1 ∧ l2 + 1 ≤ 2147483647, -2147483648 ≤ l3 + 1 ∧ l3 + 1 ≤ 2147483647]) (by decide +kernel) rfl ⟨h.1, h.2.1, trivial⟩ ?_
        replace h := h.2.2
        exact Runs.fg (fgE (fgE (fgE (fgE fg0)))) h
    · replace h := h.2 c
      refine r_blk [qO (.aload_n 0), qO (.iload_n 3), qO (.iconst 3)] (pc' := 100) (L' := [zR 34 0, zI l1, zI l2, zI l3]) (S' := [zI 3, zI l3, zR 34 0, zI l2]) (σ' := σ) (Ps := []) (by decide +kernel) rfl trivial ?_
      refine r_callVI (As := [zI l3, zI 3]) (S := [zI l2]) (Lc := [zR 34 0, zI l3, zI 3]) (d' := 0) (n := 2) (g := 34) (x := 0) (ci := 11) kX11_get vX11_get lkX11_106 (by decide +kernel) (by decide) rfl rfl (by decide) rfl rfl (Nat.le_of_ble_eq_true rfl) rfl rfl (Nat.le_of_ble_eq_true rfl) (pX11_get h.1 (by decide) ?_)
      replace h := h.2
      refine r_blk [qO (.goto 18), qO .iadd, qO (.istore_n 2), qO (.iinc 3 1), qO (.goto (-45))] (pc' := 81) (L' := [zR 34 0, zI l1, zI (l2 + (sg (σ 36 0) l3 3)), zI (l3 + 1)]) (S' := []) (σ' := σ) (Ps := [-2147483648 ≤ l2 + (sg (σ 36 0) l3 3) ∧ l2 + (sg (σ 36 0) l3 3) ≤ 2147483647, -2147483648 ≤ l3 + 1 ∧ l3 + 1 ≤ 2147483647]) (by decide +kernel) rfl ⟨h.1, h.2.1, trivial⟩ ?_
      replace h := h.2.2
      exact Runs.fg (fgE (fgE (fgE (fgE fg0)))) h
theorem gX10_freezeAsItIs_0 (a0 : Int) (σ : Hp) {Q : Option Int → Hp → Prop} (h : ∀ σ1 : Hp, σ1 = tTake σ → Runs 2 mX0_lay 0 [zR 19 0, zI a0, zU, zU] [] σ1 (rV (fun σ2 => Runs 2 mX0_join 0 [zR 19 0, zU, zU] [] σ2 (rV (fun σ3 => Q none σ3))))) : Runs 3 mX10_freezeAsItIs 0 [zR 0 0, zI a0] [] σ Q := by
  refine r_blk [qO (.aload_n 0), qF (.getfield 40) 10 4] (pc' := 4) (L' := [zR 0 0, zI a0]) (S' := [zR 16 0]) (σ' := σ) (Ps := []) (by decide +kernel) rfl trivial ?_
  refine r_callVV (As := []) (S := []) (Lc := [zR 16 0]) (d' := 1) (n := 0) (g := 16) (x := 0) (ci := 7) kX7_takeAsItIs vX7_takeAsItIs lkX10_173 (by decide +kernel) (by decide) rfl rfl (by decide) rfl rfl (Nat.le_of_ble_eq_true rfl) rfl rfl (Nat.le_of_ble_eq_true rfl) (pX7_takeAsItIs  ?_)
  generalize hσ1 : tTake σ = σ1
  replace h := h σ1 hσ1.symm
  refine r_blk [qO (.aload_n 0), qF (.getfield 56) 10 6, qO (.iload_n 1)] (pc' := 12) (L' := [zR 0 0, zI a0]) (S' := [zI a0, zR 19 0]) (σ' := σ1) (Ps := []) (by decide +kernel) rfl trivial ?_
  refine r_callVV (As := [zI a0]) (S := []) (Lc := [zR 19 0, zI a0, zU, zU]) (d' := 2) (n := 1) (g := 19) (x := 0) (ci := 0) kX0_lay vX0_lay lkX10_250 (by decide +kernel) (by decide) rfl rfl (by decide) rfl rfl (Nat.le_of_ble_eq_true rfl) rfl rfl (Nat.le_of_ble_eq_true rfl) (h.monoV (fun σ2 h => ?_))
  refine r_blk [qO (.aload_n 0), qF (.getfield 56) 10 6] (pc' := 19) (L' := [zR 0 0, zI a0]) (S' := [zR 19 0]) (σ' := σ2) (Ps := []) (by decide +kernel) rfl trivial ?_
  refine r_callVV (As := []) (S := []) (Lc := [zR 19 0, zU, zU]) (d' := 2) (n := 0) (g := 19) (x := 0) (ci := 0) kX0_join vX0_join lkX10_306 (by decide +kernel) (by decide) rfl rfl (by decide) rfl rfl (Nat.le_of_ble_eq_true rfl) rfl rfl (Nat.le_of_ble_eq_true rfl) (h.monoV (fun σ3 h => ?_))
  exact r_retv (by decide +kernel) rfl h
theorem gX10_traceErrand_0 (a0 : Int) (σ : Hp) {Q : Option Int → Hp → Prop} (h : (0 ≤ a0 ∧ a0 < 8) ∧ (0 ≤ a0 ∧ a0 < 8) ∧ (0 ≤ a0 ∧ a0 < 8) ∧ (0 ≤ a0 ∧ a0 < 8) ∧ Runs 4 mX4_trace 0 [zR 28 a0.toNat, zI (σ 6 0 a0.toNat), zI (σ 7 0 a0.toNat), zI (σ 8 0 a0.toNat), zU] [] σ (rV (fun σ1 => Q none σ1))) : Runs 5 mX10_traceErrand 0 [zR 0 0, zI a0] [] σ Q := by
  refine r_blk [qO (.aload_n 0), qF (.getfield 87) 10 10, qO (.iload_n 1), qO .aaload, qO (.aload_n 0), qF (.getfield 10) 10 0, qF (.getfield 143) 6 11, qO (.iload_n 1), qO .iaload, qO (.aload_n 0), qF (.getfield 10) 10 0, qF (.getfield 146) 6 12, qO (.iload_n 1), qO .iaload, qO (.aload_n 0), qF (.getfield 10) 10 0, qF (.getfield 149) 6 13, qO (.iload_n 1), qO .iaload] (pc' := 33) (L' := [zR 0 0, zI a0]) (S' := [zI (σ 8 0 a0.toNat), zI (σ 7 0 a0.toNat), zI (σ 6 0 a0.toNat), zR 28 a0.toNat]) (σ' := σ) (Ps := [0 ≤ a0 ∧ a0 < 8, 0 ≤ a0 ∧ a0 < 8, 0 ≤ a0 ∧ a0 < 8, 0 ≤ a0 ∧ a0 < 8]) (by decide +kernel) rfl ⟨h.1, h.2.1, h.2.2.1, h.2.2.2.1, trivial⟩ ?_
  replace h := h.2.2.2.2
  refine r_callVV (As := [zI (σ 6 0 a0.toNat), zI (σ 7 0 a0.toNat), zI (σ 8 0 a0.toNat)]) (S := []) (Lc := [zR 28 a0.toNat, zI (σ 6 0 a0.toNat), zI (σ 7 0 a0.toNat), zI (σ 8 0 a0.toNat), zU]) (d' := 4) (n := 3) (g := 28) (x := a0.toNat) (ci := 4) kX4_trace vX4_trace lkX10_193 (by decide +kernel) (by decide) rfl rfl (by decide) rfl rfl (Nat.le_of_ble_eq_true rfl) rfl rfl (Nat.le_of_ble_eq_true rfl) (h.monoV (fun σ1 h => ?_))
  exact r_retv (by decide +kernel) rfl h
