theorem gX11_days_0 (a0 : Int) (a1 : Int) (σ : Hp) {Q : Option Int → Hp → Prop} (h : ((zwithin a0 1 10 = 0 → Runs 6 mX11_days 21 [zR 34 0, zI a0, zI a1, zU, zI 0, zU, zU, zU] [] σ Q) ∧ (¬ zwithin a0 1 10 = 0 → (-6 ≤ (zwithin a0 1 10) ∧ (zwithin a0 1 10) ≤ -1) ∧ (σ 35 0 (-(zwithin a0 1 10)).toNat ≤ 2147483646) ∧ ∀ σ1 : Hp, σ1 = zup σ 35 0 (-(zwithin a0 1 10)).toNat (σ 35 0 (-(zwithin a0 1 10)).toNat + 1) → Q (some (zwithin a0 1 10)) σ1))) : Runs 6 mX11_days 0 [zR 34 0, zI a0, zI a1, zU, zU, zU, zU, zU] [] σ Q := by
  refine r_blk [qO (.iload_n 1), qO (.iconst 1), qO (.bipush 10)] (pc' := 4) (L' := [zR 34 0, zI a0, zI a1, zU, zU, zU, zU, zU]) (S' := [zI 10, zI 1, zI a0]) (σ' := σ) (Ps := []) (by decide +kernel) rfl trivial ?_
  refine r_callSI (As := [zI a0, zI 1, zI 10]) (S := []) (Lc := [zI a0, zI 1, zI 10]) (d' := 0) (n := 3) kX11_within vX11_within lkX11_119 (by decide +kernel) (by decide) rfl rfl (Nat.le_of_ble_eq_true rfl) rfl rfl (Nat.le_of_ble_eq_true rfl) (pX11_within  ?_)
  refine r_blk [qO (.istore_n 3), qO (.iload_n 3)] (pc' := 9) (L' := [zR 34 0, zI a0, zI a1, zI (zwithin a0 1 10), zU, zU, zU, zU]) (S' := [zI (zwithin a0 1 10)]) (σ' := σ) (Ps := []) (by decide +kernel) rfl trivial ?_
  refine r_if_eq (off := 9) (tgt := 18) (by decide +kernel) (by decide) (fun c => ?_) (fun c => ?_)
  · replace h := h.1 c
    refine r_blk [qO (.iconst 0), qO (.istore 4)] (pc' := 21) (L' := [zR 34 0, zI a0, zI a1, zI (zwithin a0 1 10), zI 0, zU, zU, zU]) (S' := []) (σ' := σ) (Ps := []) (by decide +kernel) rfl trivial ?_
    exact Runs.fg (fgE (fgE (fgE (fgU (fgE (fgU (fgU (fgU fg0)))))))) h
  · replace h := h.2 c
    refine r_blk [qO (.aload_n 0), qO (.iload_n 3)] (pc' := 14) (L' := [zR 34 0, zI a0, zI a1, zI (zwithin a0 1 10), zU, zU, zU, zU]) (S' := [zI (zwithin a0 1 10), zR 34 0]) (σ' := σ) (Ps := []) (by decide +kernel) rfl trivial ?_
    refine r_callVI (As := [zI (zwithin a0 1 10)]) (S := []) (Lc := [zR 34 0, zI (zwithin a0 1 10)]) (d' := 0) (n := 1) (g := 34) (x := 0) (ci := 11) kX11_refuse vX11_refuse lkX11_66 (by decide +kernel) (by decide) rfl rfl (by decide) rfl rfl (Nat.le_of_ble_eq_true rfl) rfl rfl (Nat.le_of_ble_eq_true rfl) (pX11_refuse h.1 h.2.1 ?_)
    replace h := h.2.2
    generalize hσ1 : zup σ 35 0 (-(zwithin a0 1 10)).toNat (σ 35 0 (-(zwithin a0 1 10)).toNat + 1) = σ1
    replace h := h σ1 hσ1.symm
    exact r_ret (by decide +kernel) rfl (fun _ => h)
theorem gX11_days_21 (l1 : Int) (l2 : Int) (l4 : Int) (σ : Hp) {Q : Option Int → Hp → Prop} (h : ((8 ≤ l4 → Runs 6 mX11_days 57 [zR 34 0, zI l1, zU, zU, zI l2, zI 0, zI 0, zU] [] σ Q) ∧ (¬ 8 ≤ l4 → (0 ≤ l4 ∧ l4 < 8) ∧ (0 ≤ l4 ∧ l4 < 8) ∧ (-2147483648 ≤ l4 + 1 ∧ l4 + 1 ≤ 2147483647) ∧ Runs 6 mX11_days 21 [zR 34 0, zI l1, zI l2, zU, zI (l4 + 1), zU, zU, zU] [] (zup σ 47 0 l4.toNat (se (σ 36 0) l4 2)) Q))) : Runs 6 mX11_days 21 [zR 34 0, zI l1, zI l2, zU, zI l4, zU, zU, zU] [] σ Q := by
  refine r_blk [qO (.iload 4), qO (.bipush 8)] (pc' := 25) (L' := [zR 34 0, zI l1, zI l2, zU, zI l4, zU, zU, zU]) (S' := [zI 8, zI l4]) (σ' := σ) (Ps := []) (by decide +kernel) rfl trivial ?_
  refine r_icmp_ge (off := 23) (tgt := 48) (by decide +kernel) (by decide) (fun c => ?_) (fun c => ?_)
  · replace h := h.1 c
    refine r_blk [qO (.iload_n 2), qO (.istore 4), qO (.iconst 0), qO (.istore 5), qO (.iconst 0), qO (.istore 6)] (pc' := 57) (L' := [zR 34 0, zI l1, zI l2, zU, zI l2, zI 0, zI 0, zU]) (S' := []) (σ' := σ) (Ps := []) (by decide +kernel) rfl trivial ?_
    exact Runs.fg (fgE (fgE (fgU (fgU (fgE (fgE (fgE (fgU fg0)))))))) h
  · replace h := h.2 c
    refine r_blk [qO (.aload_n 0), qF (.getfield 47) 11 20, qO (.iload 4), qO (.aload_n 0), qO (.iload 4), qO (.iconst 2)] (pc' := 38) (L' := [zR 34 0, zI l1, zI l2, zU, zI l4, zU, zU, zU]) (S' := [zI 2, zI l4, zR 34 0, zI l4, zR 47 0]) (σ' := σ) (Ps := []) (by decide +kernel) rfl trivial ?_
    refine r_callVI (As := [zI l4, zI 2]) (S := [zI l4, zR 47 0]) (Lc := [zR 34 0, zI l4, zI 2]) (d' := 0) (n := 2) (g := 34) (x := 0) (ci := 11) kX11_of vX11_of lkX11_113 (by decide +kernel) (by decide) rfl rfl (by decide) rfl rfl (Nat.le_of_ble_eq_true rfl) rfl rfl (Nat.le_of_ble_eq_true rfl) (pX11_of h.1 (by decide) ?_)
    replace h := h.2
    refine r_blk [qO .iastore, qO (.iinc 4 1), qO (.goto (-24))] (pc' := 21) (L' := [zR 34 0, zI l1, zI l2, zU, zI (l4 + 1), zU, zU, zU]) (S' := []) (σ' := (zup σ 47 0 l4.toNat (se (σ 36 0) l4 2))) (Ps := [0 ≤ l4 ∧ l4 < 8, -2147483648 ≤ l4 + 1 ∧ l4 + 1 ≤ 2147483647]) (by decide +kernel) rfl ⟨h.1, h.2.1, trivial⟩ ?_
    replace h := h.2.2
    exact Runs.fg (fgE (fgE (fgE (fgU (fgE (fgU (fgU (fgU fg0)))))))) h
theorem gX11_days_57 (l1 : Int) (l4 : Int) (l5 : Int) (l6 : Int) (σ : Hp) {Q : Option Int → Hp → Prop} (h : ((l1 ≤ l6 → Runs 6 mX11_days 138 [zR 34 0, zU, zU, zU, zU, zI l5, zI 0, zU] [] σ Q) ∧ (¬ l1 ≤ l6 → Runs 6 mX11_days 66 [zR 34 0, zI l1, zU, zU, zI l4, zI l5, zI l6, zI 0] [] σ Q))) : Runs 6 mX11_days 57 [zR 34 0, zI l1, zU, zU, zI l4, zI l5, zI l6, zU] [] σ Q := by
  refine r_blk [qO (.iload 6), qO (.iload_n 1)] (pc' := 60) (L' := [zR 34 0, zI l1, zU, zU, zI l4, zI l5, zI l6, zU]) (S' := [zI l1, zI l6]) (σ' := σ) (Ps := []) (by decide +kernel) rfl trivial ?_
  refine r_icmp_ge (off := 75) (tgt := 135) (by decide +kernel) (by decide) (fun c => ?_) (fun c => ?_)
  · replace h := h.1 c
    refine r_blk [qO (.iconst 0), qO (.istore 6)] (pc' := 138) (L' := [zR 34 0, zI l1, zU, zU, zI l4, zI l5, zI 0, zU]) (S' := []) (σ' := σ) (Ps := []) (by decide +kernel) rfl trivial ?_
    exact Runs.fg (fgE (fgU (fgU (fgU (fgU (fgE (fgE (fgU fg0)))))))) h
  · replace h := h.2 c
    refine r_blk [qO (.iconst 0), qO (.istore 7)] (pc' := 66) (L' := [zR 34 0, zI l1, zU, zU, zI l4, zI l5, zI l6, zI 0]) (S' := []) (σ' := σ) (Ps := []) (by decide +kernel) rfl trivial ?_
    exact Runs.fg (fgE (fgE (fgU (fgU (fgE (fgE (fgE (fgE fg0)))))))) h
theorem gX11_days_66 (l1 : Int) (l4 : Int) (l5 : Int) (l6 : Int) (l7 : Int) (σ : Hp) {Q : Option Int → Hp → Prop} (h : ((σ 36 0 2 ≤ l7 → Runs 5 mX11_costOf 0 [zR 34 0, zU, zU, zU] [] σ (rI (fun z2 σ1 => (-2147483648 ≤ l5 + z2 ∧ l5 + z2 ≤ 2147483647) ∧ (-2147483648 ≤ l6 + 1 ∧ l6 + 1 ≤ 2147483647) ∧ Runs 6 mX11_days 57 [zR 34 0, zI l1, zU, zU, zI l4, zI (l5 + z2), zI (l6 + 1), zU] [] σ1 Q))) ∧ (¬ σ 36 0 2 ≤ l7 → (-2147483648 ≤ 4 * l7 ∧ 4 * l7 ≤ 2147483647) ∧ (-2147483648 ≤ 81 + (4 * l7) ∧ 81 + (4 * l7) ≤ 2147483647) ∧ (-2147483648 ≤ (81 + (4 * l7)) + 2 ∧ (81 + (4 * l7)) + 2 ≤ 2147483647) ∧ (0 ≤ (81 + (4 * l7)) + 2 ∧ (81 + (4 * l7)) + 2 < 123) ∧ (-2147483648 ≤ l7 + 1 ∧ l7 + 1 ≤ 2147483647) ∧ ∀ σ3 : Hp, σ3 = (zup σ 36 0 (((81 + (4 * l7)) + 2).toNat) (zrem (zdiv (zand (wrap ((wrap (l4 * 1664525)) + 1013904223)) 2147483647) 256) 1440)) → Runs 6 mX11_days 66 [zR 34 0, zI l1, zU, zU, zI (wrap ((wrap (l4 * 1664525)) + 1013904223)), zI l5, zI l6, zI (l7 + 1)] [] σ3 Q))) : Runs 6 mX11_days 66 [zR 34 0, zI l1, zU, zU, zI l4, zI l5, zI l6, zI l7] [] σ Q := by
  refine r_blk [qO (.iload 7), qO (.aload_n 0), qF (.getfield 13) 11 1, qO (.iconst 2), qO .iaload] (pc' := 74) (L' := [zR 34 0, zI l1, zU, zU, zI l4, zI l5, zI l6, zI l7]) (S' := [zI (σ 36 0 2), zI l7]) (σ' := σ) (Ps := [0 ≤ 2 ∧ 2 < 123]) (by decide +kernel) rfl ⟨(by decide), trivial⟩ ?_
  refine r_icmp_ge (off := 46) (tgt := 120) (by decide +kernel) (by decide) (fun c => ?_) (fun c => ?_)
  · replace h := h.1 c
    refine r_blk [qO (.iload 5), qO (.aload_n 0)] (pc' := 123) (L' := [zR 34 0, zI l1, zU, zU, zI l4, zI l5, zI l6, zI l7]) (S' := [zR 34 0, zI l5]) (σ' := σ) (Ps := []) (by decide +kernel) rfl trivial ?_
    refine r_callVI (As := []) (S := [zI l5]) (Lc := [zR 34 0, zU, zU, zU]) (d' := 5) (n := 0) (g := 34) (x := 0) (ci := 11) kX11_costOf vX11_costOf lkX11_187 (by decide +kernel) (by decide) rfl rfl (by decide) rfl rfl (Nat.le_of_ble_eq_true rfl) rfl rfl (Nat.le_of_ble_eq_true rfl) (h.monoI (fun z2 σ1 h => ?_))
    refine r_blk [qO .iadd, qO (.istore 5), qO (.iinc 6 1), qO (.goto (-75))] (pc' := 57) (L' := [zR 34 0, zI l1, zU, zU, zI l4, zI (l5 + z2), zI (l6 + 1), zI l7]) (S' := []) (σ' := σ1) (Ps := [-2147483648 ≤ l5 + z2 ∧ l5 + z2 ≤ 2147483647, -2147483648 ≤ l6 + 1 ∧ l6 + 1 ≤ 2147483647]) (by decide +kernel) rfl ⟨h.1, h.2.1, trivial⟩ ?_
    replace h := h.2.2
    exact Runs.fg (fgE (fgE (fgU (fgU (fgE (fgE (fgE (fgU fg0)))))))) h
  · replace h := h.2 c
    refine r_blk [qO (.iload 4), qC (.ldc 215) 1664525, qC .imul 1, qC (.ldc 216) 1013904223, qC .iadd 1, qO (.istore 4), qO (.aload_n 0), qF (.getfield 13) 11 1, qO (.bipush 81), qO (.iconst 4), qO (.iload 7), qO .imul, qO .iadd, qO (.iconst 2), qO .iadd, qO (.iload 4), qC (.ldc 217) 2147483647, qO .iand, qO (.sipush 256), qO .idiv, qO (.sipush 1440), qO .irem, qO .iastore, qO (.iinc 7 1), qO (.goto (-51))] (pc' := 66) (L' := [zR 34 0, zI l1, zU, zU, zI (wrap ((wrap (l4 * 1664525)) + 1013904223)), zI l5, zI l6, zI (l7 + 1)]) (S' := []) (σ' := (zup σ 36 0 (((81 + (4 * l7)) + 2).toNat) (zrem (zdiv (zand (wrap ((wrap (l4 * 1664525)) + 1013904223)) 2147483647) 256) 1440))) (Ps := [-2147483648 ≤ 4 * l7 ∧ 4 * l7 ≤ 2147483647, -2147483648 ≤ 81 + (4 * l7) ∧ 81 + (4 * l7) ≤ 2147483647, -2147483648 ≤ (81 + (4 * l7)) + 2 ∧ (81 + (4 * l7)) + 2 ≤ 2147483647, 256 ≠ 0, 1440 ≠ 0, 0 ≤ (81 + (4 * l7)) + 2 ∧ (81 + (4 * l7)) + 2 < 123, -2147483648 ≤ l7 + 1 ∧ l7 + 1 ≤ 2147483647]) (by decide +kernel) rfl ⟨h.1, h.2.1, h.2.2.1, (by decide), (by decide), h.2.2.2.1, h.2.2.2.2.1, trivial⟩ ?_
    replace h := h.2.2.2.2.2
    generalize hσ3 : (zup σ 36 0 (((81 + (4 * l7)) + 2).toNat) (zrem (zdiv (zand (wrap ((wrap (l4 * 1664525)) + 1013904223)) 2147483647) 256) 1440)) = σ3
    replace h := h σ3 hσ3.symm
    exact Runs.fg (fgE (fgE (fgU (fgU (fgE (fgE (fgE (fgE fg0)))))))) h
theorem gX11_days_138 (l5 : Int) (l6 : Int) (σ : Hp) {Q : Option Int → Hp → Prop} (h : ((8 ≤ l6 → Q (some l5) σ) ∧ (¬ 8 ≤ l6 → (-2147483648 ≤ 4 * l6 ∧ 4 * l6 ≤ 2147483647) ∧ (-2147483648 ≤ 81 + (4 * l6) ∧ 81 + (4 * l6) ≤ 2147483647) ∧ (-2147483648 ≤ (81 + (4 * l6)) + 2 ∧ (81 + (4 * l6)) + 2 ≤ 2147483647) ∧ (0 ≤ l6 ∧ l6 < 8) ∧ (0 ≤ (81 + (4 * l6)) + 2 ∧ (81 + (4 * l6)) + 2 < 123) ∧ (-2147483648 ≤ l6 + 1 ∧ l6 + 1 ≤ 2147483647) ∧ Runs 6 mX11_days 138 [zR 34 0, zU, zU, zU, zU, zI l5, zI (l6 + 1), zU] [] (zup σ 36 0 (((81 + (4 * l6)) + 2).toNat) (σ 47 0 l6.toNat)) Q))) : Runs 6 mX11_days 138 [zR 34 0, zU, zU, zU, zU, zI l5, zI l6, zU] [] σ Q := by
  refine r_blk [qO (.iload 6), qO (.bipush 8)] (pc' := 142) (L' := [zR 34 0, zU, zU, zU, zU, zI l5, zI l6, zU]) (S' := [zI 8, zI l6]) (σ' := σ) (Ps := []) (by decide +kernel) rfl trivial ?_
  refine r_icmp_ge (off := 30) (tgt := 172) (by decide +kernel) (by decide) (fun c => ?_) (fun c => ?_)
  · replace h := h.1 c
    refine r_blk [qO (.iload 5)] (pc' := 174) (L' := [zR 34 0, zU, zU, zU, zU, zI l5, zI l6, zU]) (S' := [zI l5]) (σ' := σ) (Ps := []) (by decide +kernel) rfl trivial ?_
    exact r_ret (by decide +kernel) rfl (fun _ => h)
  · replace h := h.2 c
    refine r_blk [qO (.aload_n 0), qF (.getfield 13) 11 1, qO (.bipush 81), qO (.iconst 4), qO (.iload 6), qO .imul, qO .iadd, qO (.iconst 2), qO .iadd, qO (.aload_n 0), qF (.getfield 47) 11 20, qO (.iload 6), qO .iaload, qO .iastore, qO (.iinc 6 1), qO (.goto (-31))] (pc' := 138) (L' := [zR 34 0, zU, zU, zU, zU, zI l5, zI (l6 + 1), zU]) (S' := []) (σ' := (zup σ 36 0 (((81 + (4 * l6)) + 2).toNat) (σ 47 0 l6.toNat))) (Ps := [-2147483648 ≤ 4 * l6 ∧ 4 * l6 ≤ 2147483647, -2147483648 ≤ 81 + (4 * l6) ∧ 81 + (4 * l6) ≤ 2147483647, -2147483648 ≤ (81 + (4 * l6)) + 2 ∧ (81 + (4 * l6)) + 2 ≤ 2147483647, 0 ≤ l6 ∧ l6 < 8, 0 ≤ (81 + (4 * l6)) + 2 ∧ (81 + (4 * l6)) + 2 < 123, -2147483648 ≤ l6 + 1 ∧ l6 + 1 ≤ 2147483647]) (by decide +kernel) rfl ⟨h.1, h.2.1, h.2.2.1, h.2.2.2.1, h.2.2.2.2.1, h.2.2.2.2.2.1, trivial⟩ ?_
    replace h := h.2.2.2.2.2.2
    exact Runs.fg (fgE (fgU (fgU (fgU (fgU (fgE (fgE (fgU fg0)))))))) h
