theorem gX11_turning_0 (σ : Hp) {Q : Option Int → Hp → Prop} (h : Runs 5 mX11_costOf 0 [zR 34 0, zU, zU, zU] [] σ (rI (fun z2 σ1 => Runs 6 mX11_turning 17 [zR 34 0, zI (σ 36 0 3), zI z2, zI 1, zI 0, zU, zU, zU] [] σ1 Q))) : Runs 6 mX11_turning 0 [zR 34 0, zU, zU, zU, zU, zU, zU, zU] [] σ Q := by
  refine r_blk [qO (.aload_n 0), qF (.getfield 13) 11 1, qO (.iconst 3), qO .iaload, qO (.istore_n 1), qO (.aload_n 0)] (pc' := 8) (L' := [zR 34 0, zI (σ 36 0 3), zU, zU, zU, zU, zU, zU]) (S' := [zR 34 0]) (σ' := σ) (Ps := [0 ≤ 3 ∧ 3 < 123]) (by decide +kernel) rfl ⟨(by decide), trivial⟩ ?_
  refine r_callVI (As := []) (S := []) (Lc := [zR 34 0, zU, zU, zU]) (d' := 5) (n := 0) (g := 34) (x := 0) (ci := 11) kX11_costOf vX11_costOf lkX11_187 (by decide +kernel) (by decide) rfl rfl (by decide) rfl rfl (Nat.le_of_ble_eq_true rfl) rfl rfl (Nat.le_of_ble_eq_true rfl) (h.monoI (fun z2 σ1 h => ?_))
  refine r_blk [qO (.istore_n 2), qO (.iconst 1), qO (.istore_n 3), qO (.iconst 0), qO (.istore 4)] (pc' := 17) (L' := [zR 34 0, zI (σ 36 0 3), zI z2, zI 1, zI 0, zU, zU, zU]) (S' := []) (σ' := σ1) (Ps := []) (by decide +kernel) rfl trivial ?_
  exact Runs.fg (fgE (fgE (fgE (fgE (fgE (fgU (fgU (fgU fg0)))))))) h
theorem gX11_turning_17 (l1 : Int) (l2 : Int) (l3 : Int) (l4 : Int) (σ : Hp) {Q : Option Int → Hp → Prop} (h : ((20 ≤ l4 → Q (some (σ 36 0 3)) (zup σ 36 0 3 l1)) ∧ (¬ 20 ≤ l4 → ((l3 = 0 → Q (some (σ 36 0 3)) (zup σ 36 0 3 l1)) ∧ (¬ l3 = 0 → Runs 6 mX11_turning 33 [zR 34 0, zI l1, zI l2, zI 0, zI l4, zI 0, zU, zU] [] σ Q))))) : Runs 6 mX11_turning 17 [zR 34 0, zI l1, zI l2, zI l3, zI l4, zU, zU, zU] [] σ Q := by
  refine r_blk [qO (.iload 4), qO (.bipush 20)] (pc' := 21) (L' := [zR 34 0, zI l1, zI l2, zI l3, zI l4, zU, zU, zU]) (S' := [zI 20, zI l4]) (σ' := σ) (Ps := []) (by decide +kernel) rfl trivial ?_
  refine r_icmp_ge (off := 122) (tgt := 143) (by decide +kernel) (by decide) (fun c => ?_) (fun c => ?_)
  · replace h := h.1 c
    refine r_blk [qO (.aload_n 0), qF (.getfield 13) 11 1, qO (.iconst 3), qO .iaload, qO (.istore 4), qO (.aload_n 0), qF (.getfield 13) 11 1, qO (.iconst 3), qO (.iload_n 1), qO .iastore, qO (.iload 4)] (pc' := 160) (L' := [zR 34 0, zI l1, zI l2, zI l3, zI (σ 36 0 3), zU, zU, zU]) (S' := [zI (σ 36 0 3)]) (σ' := (zup σ 36 0 3 l1)) (Ps := [0 ≤ 3 ∧ 3 < 123, 0 ≤ 3 ∧ 3 < 123]) (by decide +kernel) rfl ⟨(by decide), (by decide), trivial⟩ ?_
    exact r_ret (by decide +kernel) rfl (fun _ => h)
  · replace h := h.2 c
    refine r_blk [qO (.iload_n 3)] (pc' := 25) (L' := [zR 34 0, zI l1, zI l2, zI l3, zI l4, zU, zU, zU]) (S' := [zI l3]) (σ' := σ) (Ps := []) (by decide +kernel) rfl trivial ?_
    refine r_if_eq (off := 118) (tgt := 143) (by decide +kernel) (by decide) (fun c => ?_) (fun c => ?_)
    · replace h := h.1 c
      refine r_blk [qO (.aload_n 0), qF (.getfield 13) 11 1, qO (.iconst 3), qO .iaload, qO (.istore 4), qO (.aload_n 0), qF (.getfield 13) 11 1, qO (.iconst 3), qO (.iload_n 1), qO .iastore, qO (.iload 4)] (pc' := 160) (L' := [zR 34 0, zI l1, zI l2, zI l3, zI (σ 36 0 3), zU, zU, zU]) (S' := [zI (σ 36 0 3)]) (σ' := (zup σ 36 0 3 l1)) (Ps := [0 ≤ 3 ∧ 3 < 123, 0 ≤ 3 ∧ 3 < 123]) (by decide +kernel) rfl ⟨(by decide), (by decide), trivial⟩ ?_
      exact r_ret (by decide +kernel) rfl (fun _ => h)
    · replace h := h.2 c
      refine r_blk [qO (.iconst 0), qO (.istore_n 3), qO (.iconst 0), qO (.istore 5)] (pc' := 33) (L' := [zR 34 0, zI l1, zI l2, zI 0, zI l4, zI 0, zU, zU]) (S' := []) (σ' := σ) (Ps := []) (by decide +kernel) rfl trivial ?_
      exact Runs.fg (fgE (fgE (fgE (fgE (fgE (fgE (fgU (fgU fg0)))))))) h
theorem gX11_turning_33 (l1 : Int) (l2 : Int) (l3 : Int) (l4 : Int) (l5 : Int) (σ : Hp) {Q : Option Int → Hp → Prop} (h : ((σ 36 0 1 ≤ l5 → (-2147483648 ≤ l4 + 1 ∧ l4 + 1 ≤ 2147483647) ∧ Runs 6 mX11_turning 17 [zR 34 0, zI l1, zI l2, zI l3, zI (l4 + 1), zU, zU, zU] [] σ Q) ∧ (¬ σ 36 0 1 ≤ l5 → (-2147483648 ≤ 1 - (bitz (σ 36 0 3) l5) ∧ 1 - (bitz (σ 36 0 3) l5) ≤ 2147483647) ∧ (0 ≤ l5 ∧ l5 < 14) ∧ ((2 ≤ sg (σ 36 0) l5 4 → Runs 6 mX11_turning 85 [zR 34 0, zI l1, zI l2, zI l3, zI l4, zI l5, zU, zU] [] σ Q) ∧ (¬ 2 ≤ sg (σ 36 0) l5 4 → (0 ≤ l5 ∧ l5 < 14) ∧ ((sg (σ 36 0) l5 4 = 1 - (bitz (σ 36 0 3) l5) → Runs 6 mX11_turning 85 [zR 34 0, zI l1, zI l2, zI l3, zI l4, zI l5, zU, zU] [] σ Q) ∧ (¬ sg (σ 36 0) l5 4 = 1 - (bitz (σ 36 0 3) l5) → (-2147483648 ≤ l5 + 1 ∧ l5 + 1 ≤ 2147483647) ∧ Runs 6 mX11_turning 33 [zR 34 0, zI l1, zI l2, zI l3, zI l4, zI (l5 + 1), zU, zU] [] σ Q))))))) : Runs 6 mX11_turning 33 [zR 34 0, zI l1, zI l2, zI l3, zI l4, zI l5, zU, zU] [] σ Q := by
  refine r_blk [qO (.iload 5), qO (.aload_n 0), qF (.getfield 13) 11 1, qO (.iconst 1), qO .iaload] (pc' := 41) (L' := [zR 34 0, zI l1, zI l2, zI l3, zI l4, zI l5, zU, zU]) (S' := [zI (σ 36 0 1), zI l5]) (σ' := σ) (Ps := [0 ≤ 1 ∧ 1 < 123]) (by decide +kernel) rfl ⟨(by decide), trivial⟩ ?_
  refine r_icmp_ge (off := 96) (tgt := 137) (by decide +kernel) (by decide) (fun c => ?_) (fun c => ?_)
  · replace h := h.1 c
    refine r_blk [qO (.iinc 4 1), qO (.goto (-123))] (pc' := 17) (L' := [zR 34 0, zI l1, zI l2, zI l3, zI (l4 + 1), zI l5, zU, zU]) (S' := []) (σ' := σ) (Ps := [-2147483648 ≤ l4 + 1 ∧ l4 + 1 ≤ 2147483647]) (by decide +kernel) rfl ⟨h.1, trivial⟩ ?_
    replace h := h.2
    exact Runs.fg (fgE (fgE (fgE (fgE (fgE (fgU (fgU (fgU fg0)))))))) h
  · replace h := h.2 c
    refine r_blk [qO (.iconst 1), qO (.aload_n 0), qF (.getfield 13) 11 1, qO (.iconst 3), qO .iaload, qO (.iload 5), qO .ishr, qO (.iconst 1), qO .iand, qO .isub, qO (.istore 6), qO (.aload_n 0), qO (.iload 5), qO (.iconst 4)] (pc' := 63) (L' := [zR 34 0, zI l1, zI l2, zI l3, zI l4, zI l5, zI (1 - (bitz (σ 36 0 3) l5)), zU]) (S' := [zI 4, zI l5, zR 34 0]) (σ' := σ) (Ps := [0 ≤ 3 ∧ 3 < 123, -2147483648 ≤ 1 - (bitz (σ 36 0 3) l5) ∧ 1 - (bitz (σ 36 0 3) l5) ≤ 2147483647]) (by decide +kernel) rfl ⟨(by decide), h.1, trivial⟩ ?_
    replace h := h.2
    refine r_callVI (As := [zI l5, zI 4]) (S := []) (Lc := [zR 34 0, zI l5, zI 4]) (d' := 0) (n := 2) (g := 34) (x := 0) (ci := 11) kX11_get vX11_get lkX11_106 (by decide +kernel) (by decide) rfl rfl (by decide) rfl rfl (Nat.le_of_ble_eq_true rfl) rfl rfl (Nat.le_of_ble_eq_true rfl) (pX11_get h.1 (by decide) ?_)
    replace h := h.2
    refine r_blk [qO (.iconst 2)] (pc' := 67) (L' := [zR 34 0, zI l1, zI l2, zI l3, zI l4, zI l5, zI (1 - (bitz (σ 36 0 3) l5)), zU]) (S' := [zI 2, zI (sg (σ 36 0) l5 4)]) (σ' := σ) (Ps := []) (by decide +kernel) rfl trivial ?_
    refine r_icmp_ge (off := 18) (tgt := 85) (by decide +kernel) (by decide) (fun c => ?_) (fun c => ?_)
    · replace h := h.1 c
      exact Runs.fg (fgE (fgE (fgE (fgE (fgE (fgE (fgU (fgU fg0)))))))) h
    · replace h := h.2 c
      refine r_blk [qO (.aload_n 0), qO (.iload 5), qO (.iconst 4)] (pc' := 74) (L' := [zR 34 0, zI l1, zI l2, zI l3, zI l4, zI l5, zI (1 - (bitz (σ 36 0 3) l5)), zU]) (S' := [zI 4, zI l5, zR 34 0]) (σ' := σ) (Ps := []) (by decide +kernel) rfl trivial ?_
      refine r_callVI (As := [zI l5, zI 4]) (S := []) (Lc := [zR 34 0, zI l5, zI 4]) (d' := 0) (n := 2) (g := 34) (x := 0) (ci := 11) kX11_get vX11_get lkX11_106 (by decide +kernel) (by decide) rfl rfl (by decide) rfl rfl (Nat.le_of_ble_eq_true rfl) rfl rfl (Nat.le_of_ble_eq_true rfl) (pX11_get h.1 (by decide) ?_)
      replace h := h.2
      refine r_blk [qO (.iload 6)] (pc' := 79) (L' := [zR 34 0, zI l1, zI l2, zI l3, zI l4, zI l5, zI (1 - (bitz (σ 36 0 3) l5)), zU]) (S' := [zI (1 - (bitz (σ 36 0 3) l5)), zI (sg (σ 36 0) l5 4)]) (σ' := σ) (Ps := []) (by decide +kernel) rfl trivial ?_
      refine r_icmp_eq (off := 6) (tgt := 85) (by decide +kernel) (by decide) (fun c => ?_) (fun c => ?_)
      · replace h := h.1 c
        exact Runs.fg (fgE (fgE (fgE (fgE (fgE (fgE (fgU (fgU fg0)))))))) h
      · replace h := h.2 c
        refine r_blk [qO (.goto 49), qO (.iinc 5 1), qO (.goto (-101))] (pc' := 33) (L' := [zR 34 0, zI l1, zI l2, zI l3, zI l4, zI (l5 + 1), zI (1 - (bitz (σ 36 0 3) l5)), zU]) (S' := []) (σ' := σ) (Ps := [-2147483648 ≤ l5 + 1 ∧ l5 + 1 ≤ 2147483647]) (by decide +kernel) rfl ⟨h.1, trivial⟩ ?_
        replace h := h.2
        exact Runs.fg (fgE (fgE (fgE (fgE (fgE (fgE (fgU (fgU fg0)))))))) h
theorem gX11_turning_85 (l1 : Int) (l2 : Int) (l3 : Int) (l4 : Int) (l5 : Int) (σ : Hp) {Q : Option Int → Hp → Prop} (h : Runs 5 mX11_costOf 0 [zR 34 0, zU, zU, zU] [] (zup σ 36 0 3 (zxor (σ 36 0 3) (zshl 1 l5))) (rI (fun z2 σ1 => ((l2 ≤ z2 → (-2147483648 ≤ l5 + 1 ∧ l5 + 1 ≤ 2147483647) ∧ Runs 6 mX11_turning 33 [zR 34 0, zI l1, zI l2, zI l3, zI l4, zI (l5 + 1), zU, zU] [] (zup σ1 36 0 3 (zxor (σ1 36 0 3) (zshl 1 l5))) Q) ∧ (¬ l2 ≤ z2 → (-2147483648 ≤ l5 + 1 ∧ l5 + 1 ≤ 2147483647) ∧ Runs 6 mX11_turning 33 [zR 34 0, zI l1, zI z2, zI 1, zI l4, zI (l5 + 1), zU, zU] [] σ1 Q))))) : Runs 6 mX11_turning 85 [zR 34 0, zI l1, zI l2, zI l3, zI l4, zI l5, zU, zU] [] σ Q := by
  refine r_blk [qO (.aload_n 0), qF (.getfield 13) 11 1, qO (.iconst 3), qO .dup2, qO .iaload, qO (.iconst 1), qO (.iload 5), qO .ishl, qO .ixor, qO .iastore, qO (.aload_n 0)] (pc' := 99) (L' := [zR 34 0, zI l1, zI l2, zI l3, zI l4, zI l5, zU, zU]) (S' := [zR 34 0]) (σ' := (zup σ 36 0 3 (zxor (σ 36 0 3) (zshl 1 l5)))) (Ps := [0 ≤ 3 ∧ 3 < 123, 0 ≤ 3 ∧ 3 < 123]) (by decide +kernel) rfl ⟨(by decide), (by decide), trivial⟩ ?_
  refine r_callVI (As := []) (S := []) (Lc := [zR 34 0, zU, zU, zU]) (d' := 5) (n := 0) (g := 34) (x := 0) (ci := 11) kX11_costOf vX11_costOf lkX11_187 (by decide +kernel) (by decide) rfl rfl (by decide) rfl rfl (Nat.le_of_ble_eq_true rfl) rfl rfl (Nat.le_of_ble_eq_true rfl) (h.monoI (fun z2 σ1 h => ?_))
  refine r_blk [qO (.istore 7), qO (.iload 7), qO (.iload_n 2)] (pc' := 107) (L' := [zR 34 0, zI l1, zI l2, zI l3, zI l4, zI l5, zU, zI z2]) (S' := [zI l2, zI z2]) (σ' := σ1) (Ps := []) (by decide +kernel) rfl trivial ?_
  refine r_icmp_ge (off := 11) (tgt := 118) (by decide +kernel) (by decide) (fun c => ?_) (fun c => ?_)
  · replace h := h.1 c
    refine r_blk [qO (.aload_n 0), qF (.getfield 13) 11 1, qO (.iconst 3), qO .dup2, qO .iaload, qO (.iconst 1), qO (.iload 5), qO .ishl, qO .ixor, qO .iastore, qO (.iinc 5 1), qO (.goto (-101))] (pc' := 33) (L' := [zR 34 0, zI l1, zI l2, zI l3, zI l4, zI (l5 + 1), zU, zI z2]) (S' := []) (σ' := (zup σ1 36 0 3 (zxor (σ1 36 0 3) (zshl 1 l5)))) (Ps := [0 ≤ 3 ∧ 3 < 123, 0 ≤ 3 ∧ 3 < 123, -2147483648 ≤ l5 + 1 ∧ l5 + 1 ≤ 2147483647]) (by decide +kernel) rfl ⟨(by decide), (by decide), h.1, trivial⟩ ?_
    replace h := h.2
    exact Runs.fg (fgE (fgE (fgE (fgE (fgE (fgE (fgU (fgU fg0)))))))) h
  · replace h := h.2 c
    refine r_blk [qO (.iload 7), qO (.istore_n 2), qO (.iconst 1), qO (.istore_n 3), qO (.goto 16), qO (.iinc 5 1), qO (.goto (-101))] (pc' := 33) (L' := [zR 34 0, zI l1, zI z2, zI 1, zI l4, zI (l5 + 1), zU, zI z2]) (S' := []) (σ' := σ1) (Ps := [-2147483648 ≤ l5 + 1 ∧ l5 + 1 ≤ 2147483647]) (by decide +kernel) rfl ⟨h.1, trivial⟩ ?_
    replace h := h.2
    exact Runs.fg (fgE (fgE (fgE (fgE (fgE (fgE (fgU (fgU fg0)))))))) h
theorem gX9_turnedPointing_0 (σ : Hp) {Q : Option Int → Hp → Prop} (h : Runs 5 mX1_totalUpTo 0 [zR 25 0, zI 1000000, zU, zU] [] σ (rI (fun z2 σ1 => Runs 6 mX9_turnedPointing 23 [zR 26 0, zI (σ 1 0 6), zI z2, zI 1, zI 0, zU, zU, zU] [] σ1 Q))) : Runs 6 mX9_turnedPointing 0 [zR 26 0, zU, zU, zU, zU, zU, zU, zU] [] σ Q := by
  refine r_blk [qO (.aload_n 0), qF (.getfield 9) 9 0, qF (.getfield 65) 6 6, qO (.istore_n 1), qO (.aload_n 0), qF (.getfield 27) 9 4, qC (.ldc 31) 1000000] (pc' := 14) (L' := [zR 26 0, zI (σ 1 0 6), zU, zU, zU, zU, zU, zU]) (S' := [zI 1000000, zR 25 0]) (σ' := σ) (Ps := []) (by decide +kernel) rfl trivial ?_
  refine r_callVI (As := [zI 1000000]) (S := []) (Lc := [zR 25 0, zI 1000000, zU, zU]) (d' := 5) (n := 1) (g := 25) (x := 0) (ci := 1) kX1_totalUpTo vX1_totalUpTo lkX9_48 (by decide +kernel) (by decide) rfl rfl (by decide) rfl rfl (Nat.le_of_ble_eq_true rfl) rfl rfl (Nat.le_of_ble_eq_true rfl) (h.monoI (fun z2 σ1 h => ?_))
  refine r_blk [qO (.istore_n 2), qO (.iconst 1), qO (.istore_n 3), qO (.iconst 0), qO (.istore 4)] (pc' := 23) (L' := [zR 26 0, zI (σ 1 0 6), zI z2, zI 1, zI 0, zU, zU, zU]) (S' := []) (σ' := σ1) (Ps := []) (by decide +kernel) rfl trivial ?_
  exact Runs.fg (fgE (fgE (fgE (fgE (fgE (fgU (fgU (fgU fg0)))))))) h
theorem gX9_turnedPointing_23 (l1 : Int) (l2 : Int) (l3 : Int) (l4 : Int) (σ : Hp) {Q : Option Int → Hp → Prop} (h : ((20 ≤ l4 → Q (some l1) σ) ∧ (¬ 20 ≤ l4 → ((l3 = 0 → Q (some l1) σ) ∧ (¬ l3 = 0 → Runs 6 mX9_turnedPointing 39 [zR 26 0, zI l1, zI l2, zI 0, zI l4, zI 0, zU, zU] [] σ Q))))) : Runs 6 mX9_turnedPointing 23 [zR 26 0, zI l1, zI l2, zI l3, zI l4, zU, zU, zU] [] σ Q := by
  refine r_blk [qO (.iload 4), qO (.bipush 20)] (pc' := 27) (L' := [zR 26 0, zI l1, zI l2, zI l3, zI l4, zU, zU, zU]) (S' := [zI 20, zI l4]) (σ' := σ) (Ps := []) (by decide +kernel) rfl trivial ?_
  refine r_icmp_ge (off := 99) (tgt := 126) (by decide +kernel) (by decide) (fun c => ?_) (fun c => ?_)
  · replace h := h.1 c
    refine r_blk [qO (.iload_n 1)] (pc' := 127) (L' := [zR 26 0, zI l1, zI l2, zI l3, zI l4, zU, zU, zU]) (S' := [zI l1]) (σ' := σ) (Ps := []) (by decide +kernel) rfl trivial ?_
    exact r_ret (by decide +kernel) rfl (fun _ => h)
  · replace h := h.2 c
    refine r_blk [qO (.iload_n 3)] (pc' := 31) (L' := [zR 26 0, zI l1, zI l2, zI l3, zI l4, zU, zU, zU]) (S' := [zI l3]) (σ' := σ) (Ps := []) (by decide +kernel) rfl trivial ?_
    refine r_if_eq (off := 95) (tgt := 126) (by decide +kernel) (by decide) (fun c => ?_) (fun c => ?_)
    · replace h := h.1 c
      refine r_blk [qO (.iload_n 1)] (pc' := 127) (L' := [zR 26 0, zI l1, zI l2, zI l3, zI l4, zU, zU, zU]) (S' := [zI l1]) (σ' := σ) (Ps := []) (by decide +kernel) rfl trivial ?_
      exact r_ret (by decide +kernel) rfl (fun _ => h)
    · replace h := h.2 c
      refine r_blk [qO (.iconst 0), qO (.istore_n 3), qO (.iconst 0), qO (.istore 5)] (pc' := 39) (L' := [zR 26 0, zI l1, zI l2, zI 0, zI l4, zI 0, zU, zU]) (S' := []) (σ' := σ) (Ps := []) (by decide +kernel) rfl trivial ?_
      exact Runs.fg (fgE (fgE (fgE (fgE (fgE (fgE (fgU (fgU fg0)))))))) h
theorem gX9_turnedPointing_39 (l1 : Int) (l2 : Int) (l3 : Int) (l4 : Int) (l5 : Int) (σ : Hp) {Q : Option Int → Hp → Prop} (h : ((σ 1 0 1 ≤ l5 → (-2147483648 ≤ l4 + 1 ∧ l4 + 1 ≤ 2147483647) ∧ Runs 6 mX9_turnedPointing 23 [zR 26 0, zI l1, zI l2, zI l3, zI (l4 + 1), zU, zU, zU] [] σ Q) ∧ (¬ σ 1 0 1 ≤ l5 → (0 ≤ l5 ∧ l5 < 14) ∧ ((σ 5 0 (l5).toNat = 2 ∨ σ 5 0 (l5).toNat = (bitz (zxor l1 (zshl 1 l5)) l5) → ∀ σ1 : Hp, σ1 = zup σ 16 0 4 (tBits σ (zxor l1 (zshl 1 l5))) → Runs 5 mX1_totalUpTo 0 [zR 25 0, zI l2, zU, zU] [] σ1 (rI (fun z3 σ2 => ((l2 ≤ z3 → (-2147483648 ≤ l5 + 1 ∧ l5 + 1 ≤ 2147483647) ∧ Runs 6 mX9_turnedPointing 39 [zR 26 0, zI l1, zI l2, zI l3, zI l4, zI (l5 + 1), zU, zU] [] σ2 Q) ∧ (¬ l2 ≤ z3 → (-2147483648 ≤ l5 + 1 ∧ l5 + 1 ≤ 2147483647) ∧ Runs 6 mX9_turnedPointing 39 [zR 26 0, zI (zxor l1 (zshl 1 l5)), zI z3, zI 1, zI l4, zI (l5 + 1), zU, zU] [] σ2 Q))))) ∧ (¬ (σ 5 0 (l5).toNat = 2 ∨ σ 5 0 (l5).toNat = (bitz (zxor l1 (zshl 1 l5)) l5)) → (-2147483648 ≤ l5 + 1 ∧ l5 + 1 ≤ 2147483647) ∧ Runs 6 mX9_turnedPointing 39 [zR 26 0, zI l1, zI l2, zI l3, zI l4, zI (l5 + 1), zU, zU] [] σ Q))))) : Runs 6 mX9_turnedPointing 39 [zR 26 0, zI l1, zI l2, zI l3, zI l4, zI l5, zU, zU] [] σ Q := by
  refine r_blk [qO (.iload 5), qO (.aload_n 0), qF (.getfield 9) 9 0, qF (.getfield 32) 6 1] (pc' := 48) (L' := [zR 26 0, zI l1, zI l2, zI l3, zI l4, zI l5, zU, zU]) (S' := [zI (σ 1 0 1), zI l5]) (σ' := σ) (Ps := []) (by decide +kernel) rfl trivial ?_
  refine r_icmp_ge (off := 72) (tgt := 120) (by decide +kernel) (by decide) (fun c => ?_) (fun c => ?_)
  · replace h := h.1 c
    refine r_blk [qO (.iinc 4 1), qO (.goto (-100))] (pc' := 23) (L' := [zR 26 0, zI l1, zI l2, zI l3, zI (l4 + 1), zI l5, zU, zU]) (S' := []) (σ' := σ) (Ps := [-2147483648 ≤ l4 + 1 ∧ l4 + 1 ≤ 2147483647]) (by decide +kernel) rfl ⟨h.1, trivial⟩ ?_
    replace h := h.2
    exact Runs.fg (fgE (fgE (fgE (fgE (fgE (fgU (fgU (fgU fg0)))))))) h
  · replace h := h.2 c
    refine r_blk [qO (.iload_n 1), qO (.iconst 1), qO (.iload 5), qO .ishl, qO .ixor, qO (.istore 6), qO (.aload_n 0), qF (.getfield 9) 9 0, qO (.iload 5), qO (.iload 6), qO (.iload 5)] (pc' := 69) (L' := [zR 26 0, zI l1, zI l2, zI l3, zI l4, zI l5, zI (zxor l1 (zshl 1 l5)), zU]) (S' := [zI l5, zI (zxor l1 (zshl 1 l5)), zI l5, zR 1 0]) (σ' := σ) (Ps := []) (by decide +kernel) rfl trivial ?_
    refine r_callNI (As := [zI (zxor l1 (zshl 1 l5)), zI l5]) (S := [zI l5, zR 1 0]) (Lc := [zI (zxor l1 (zshl 1 l5)), zI l5]) (d' := 0) (n := 2) kX10_bitOf vX10_bitOf lkX9_68 (by decide +kernel) (by decide) rfl rfl (Nat.le_of_ble_eq_true rfl) rfl rfl (Nat.le_of_ble_eq_true rfl) (pX10_bitOf  ?_)
    refine r_callVI (As := [zI l5, zI (bitz (zxor l1 (zshl 1 l5)) l5)]) (S := []) (Lc := [zR 1 0, zI l5, zI (bitz (zxor l1 (zshl 1 l5)) l5)]) (d' := 0) (n := 2) (g := 1) (x := 0) (ci := 6) kX6_mustLets vX6_mustLets lkX9_72 (by decide +kernel) (by decide) rfl rfl (by decide) rfl rfl (Nat.le_of_ble_eq_true rfl) rfl rfl (Nat.le_of_ble_eq_true rfl) (pX6_mustLets h.1 (fun c => ?_) (fun c => ?_))
    all_goals replace h := h.2
    · replace h := h.1 c
      refine r_if_ne (off := 6) (tgt := 81) (by decide +kernel) (by decide) (fun c => ?_) (fun c => ?_)
      · refine r_blk [qO (.aload_n 0), qF (.getfield 15) 9 1, qO (.iload 6)] (pc' := 87) (L' := [zR 26 0, zI l1, zI l2, zI l3, zI l4, zI l5, zI (zxor l1 (zshl 1 l5)), zU]) (S' := [zI (zxor l1 (zshl 1 l5)), zR 16 0]) (σ' := σ) (Ps := []) (by decide +kernel) rfl trivial ?_
        refine r_callVV (As := [zI (zxor l1 (zshl 1 l5))]) (S := []) (Lc := [zR 16 0, zI (zxor l1 (zshl 1 l5)), zU]) (d' := 0) (n := 1) (g := 16) (x := 0) (ci := 7) kX7_pointAs vX7_pointAs lkX9_42 (by decide +kernel) (by decide) rfl rfl (by decide) rfl rfl (Nat.le_of_ble_eq_true rfl) rfl rfl (Nat.le_of_ble_eq_true rfl) (pX7_pointAs  ?_)
        generalize hσ1 : zup σ 16 0 4 (tBits σ (zxor l1 (zshl 1 l5))) = σ1
        replace h := h σ1 hσ1.symm
        refine r_blk [qO (.aload_n 0), qF (.getfield 27) 9 4, qO (.iload_n 2)] (pc' := 95) (L' := [zR 26 0, zI l1, zI l2, zI l3, zI l4, zI l5, zI (zxor l1 (zshl 1 l5)), zU]) (S' := [zI l2, zR 25 0]) (σ' := σ1) (Ps := []) (by decide +kernel) rfl trivial ?_
        refine r_callVI (As := [zI l2]) (S := []) (Lc := [zR 25 0, zI l2, zU, zU]) (d' := 5) (n := 1) (g := 25) (x := 0) (ci := 1) kX1_totalUpTo vX1_totalUpTo lkX9_48 (by decide +kernel) (by decide) rfl rfl (by decide) rfl rfl (Nat.le_of_ble_eq_true rfl) rfl rfl (Nat.le_of_ble_eq_true rfl) (h.monoI (fun z3 σ2 h => ?_))
        refine r_blk [qO (.istore 7), qO (.iload 7), qO (.iload_n 2)] (pc' := 103) (L' := [zR 26 0, zI l1, zI l2, zI l3, zI l4, zI l5, zI (zxor l1 (zshl 1 l5)), zI z3]) (S' := [zI l2, zI z3]) (σ' := σ2) (Ps := []) (by decide +kernel) rfl trivial ?_
        refine r_icmp_ge (off := 11) (tgt := 114) (by decide +kernel) (by decide) (fun c => ?_) (fun c => ?_)
        · replace h := h.1 c
          refine r_blk [qO (.iinc 5 1), qO (.goto (-78))] (pc' := 39) (L' := [zR 26 0, zI l1, zI l2, zI l3, zI l4, zI (l5 + 1), zI (zxor l1 (zshl 1 l5)), zI z3]) (S' := []) (σ' := σ2) (Ps := [-2147483648 ≤ l5 + 1 ∧ l5 + 1 ≤ 2147483647]) (by decide +kernel) rfl ⟨h.1, trivial⟩ ?_
          replace h := h.2
          exact Runs.fg (fgE (fgE (fgE (fgE (fgE (fgE (fgU (fgU fg0)))))))) h
        · replace h := h.2 c
          refine r_blk [qO (.iload 7), qO (.istore_n 2), qO (.iload 6), qO (.istore_n 1), qO (.iconst 1), qO (.istore_n 3), qO (.iinc 5 1), qO (.goto (-78))] (pc' := 39) (L' := [zR 26 0, zI (zxor l1 (zshl 1 l5)), zI z3, zI 1, zI l4, zI (l5 + 1), zI (zxor l1 (zshl 1 l5)), zI z3]) (S' := []) (σ' := σ2) (Ps := [-2147483648 ≤ l5 + 1 ∧ l5 + 1 ≤ 2147483647]) (by decide +kernel) rfl ⟨h.1, trivial⟩ ?_
          replace h := h.2
          exact Runs.fg (fgE (fgE (fgE (fgE (fgE (fgE (fgU (fgU fg0)))))))) h
      · exact absurd c (by decide)
    · replace h := h.2 c
      refine r_if_ne (off := 6) (tgt := 81) (by decide +kernel) (by decide) (fun c => ?_) (fun c => ?_)
      · exact absurd c (by decide)
      · refine r_blk [qO (.goto 36), qO (.iinc 5 1), qO (.goto (-78))] (pc' := 39) (L' := [zR 26 0, zI l1, zI l2, zI l3, zI l4, zI (l5 + 1), zI (zxor l1 (zshl 1 l5)), zU]) (S' := []) (σ' := σ) (Ps := [-2147483648 ≤ l5 + 1 ∧ l5 + 1 ≤ 2147483647]) (by decide +kernel) rfl ⟨h.1, trivial⟩ ?_
        replace h := h.2
        exact Runs.fg (fgE (fgE (fgE (fgE (fgE (fgE (fgU (fgU fg0)))))))) h
theorem gX11_lives_0 (σ : Hp) {Q : Option Int → Hp → Prop} (h : Runs 6 mX11_lives 2 [zR 34 0, zI 0, zU, zU, zU] [] σ Q) : Runs 6 mX11_lives 0 [zR 34 0, zU, zU, zU, zU] [] σ Q := by
  refine r_blk [qO (.iconst 0), qO (.istore_n 1)] (pc' := 2) (L' := [zR 34 0, zI 0, zU, zU, zU]) (S' := []) (σ' := σ) (Ps := []) (by decide +kernel) rfl trivial ?_
  exact Runs.fg (fgE (fgE (fgU (fgU (fgU fg0))))) h
theorem gX11_lives_2 (l1 : Int) (σ : Hp) {Q : Option Int → Hp → Prop} (h : ((8 ≤ l1 → Runs 6 mX11_lives 33 [zR 34 0, zI (-9), zI 0, zI 0, zU] [] σ Q) ∧ (¬ 8 ≤ l1 → (0 ≤ l1 ∧ l1 < 8) ∧ (0 ≤ l1 ∧ l1 < 8) ∧ (-2147483648 ≤ l1 + 1 ∧ l1 + 1 ≤ 2147483647) ∧ Runs 6 mX11_lives 2 [zR 34 0, zI (l1 + 1), zU, zU, zU] [] (zup σ 47 0 l1.toNat (se (σ 36 0) l1 0)) Q))) : Runs 6 mX11_lives 2 [zR 34 0, zI l1, zU, zU, zU] [] σ Q := by
  refine r_blk [qO (.iload_n 1), qO (.bipush 8)] (pc' := 5) (L' := [zR 34 0, zI l1, zU, zU, zU]) (S' := [zI 8, zI l1]) (σ' := σ) (Ps := []) (by decide +kernel) rfl trivial ?_
  refine r_icmp_ge (off := 21) (tgt := 26) (by decide +kernel) (by decide) (fun c => ?_) (fun c => ?_)
  · replace h := h.1 c
    refine r_blk [qO (.bipush (-9)), qO (.istore_n 1), qO (.iconst 0), qO (.istore_n 2), qO (.iconst 0), qO (.istore_n 3)] (pc' := 33) (L' := [zR 34 0, zI (-9), zI 0, zI 0, zU]) (S' := []) (σ' := σ) (Ps := []) (by decide +kernel) rfl trivial ?_
    exact Runs.fg (fgE (fgE (fgE (fgE (fgU fg0))))) h
  · replace h := h.2 c
    refine r_blk [qO (.aload_n 0), qF (.getfield 47) 11 20, qO (.iload_n 1), qO (.aload_n 0), qO (.iload_n 1), qO (.iconst 0)] (pc' := 16) (L' := [zR 34 0, zI l1, zU, zU, zU]) (S' := [zI 0, zI l1, zR 34 0, zI l1, zR 47 0]) (σ' := σ) (Ps := []) (by decide +kernel) rfl trivial ?_
    refine r_callVI (As := [zI l1, zI 0]) (S := [zI l1, zR 47 0]) (Lc := [zR 34 0, zI l1, zI 0]) (d' := 0) (n := 2) (g := 34) (x := 0) (ci := 11) kX11_of vX11_of lkX11_113 (by decide +kernel) (by decide) rfl rfl (by decide) rfl rfl (Nat.le_of_ble_eq_true rfl) rfl rfl (Nat.le_of_ble_eq_true rfl) (pX11_of h.1 (by decide) ?_)
    replace h := h.2
    refine r_blk [qO .iastore, qO (.iinc 1 1), qO (.goto (-21))] (pc' := 2) (L' := [zR 34 0, zI (l1 + 1), zU, zU, zU]) (S' := []) (σ' := (zup σ 47 0 l1.toNat (se (σ 36 0) l1 0))) (Ps := [0 ≤ l1 ∧ l1 < 8, -2147483648 ≤ l1 + 1 ∧ l1 + 1 ≤ 2147483647]) (by decide +kernel) rfl ⟨h.1, h.2.1, trivial⟩ ?_
    replace h := h.2.2
    exact Runs.fg (fgE (fgE (fgU (fgU (fgU fg0))))) h
theorem gX11_lives_33 (l1 : Int) (l2 : Int) (l3 : Int) (σ : Hp) {Q : Option Int → Hp → Prop} (h : ((σ 36 0 0 ≤ l3 → Runs 6 mX11_lives 110 [zR 34 0, zI l1, zU, zI 0, zU] [] σ Q) ∧ (¬ σ 36 0 0 ≤ l3 → Runs 6 mX11_lives 46 [zR 34 0, zI l1, zI l2, zI l3, zI 0] [] σ Q))) : Runs 6 mX11_lives 33 [zR 34 0, zI l1, zI l2, zI l3, zU] [] σ Q := by
  refine r_blk [qO (.iload_n 3), qO (.aload_n 0), qF (.getfield 13) 11 1, qO (.iconst 0), qO .iaload] (pc' := 40) (L' := [zR 34 0, zI l1, zI l2, zI l3, zU]) (S' := [zI (σ 36 0 0), zI l3]) (σ' := σ) (Ps := [0 ≤ 0 ∧ 0 < 123]) (by decide +kernel) rfl ⟨(by decide), trivial⟩ ?_
  refine r_icmp_ge (off := 68) (tgt := 108) (by decide +kernel) (by decide) (fun c => ?_) (fun c => ?_)
  · replace h := h.1 c
    refine r_blk [qO (.iconst 0), qO (.istore_n 3)] (pc' := 110) (L' := [zR 34 0, zI l1, zI l2, zI 0, zU]) (S' := []) (σ' := σ) (Ps := []) (by decide +kernel) rfl trivial ?_
    exact Runs.fg (fgE (fgE (fgU (fgE (fgU fg0))))) h
  · replace h := h.2 c
    refine r_blk [qO (.iconst 0), qO (.istore 4)] (pc' := 46) (L' := [zR 34 0, zI l1, zI l2, zI l3, zI 0]) (S' := []) (σ' := σ) (Ps := []) (by decide +kernel) rfl trivial ?_
    exact Runs.fg (fgE (fgE (fgE (fgE (fgE fg0))))) h
theorem gX11_lives_46 (l1 : Int) (l2 : Int) (l3 : Int) (l4 : Int) (σ : Hp) {Q : Option Int → Hp → Prop} (h : ((σ 36 0 2 ≤ l4 → Runs 5 mX11_costOf 0 [zR 34 0, zU, zU, zU] [] σ (rI (fun z2 σ1 => ((l1 < 0 → (-2147483648 ≤ l3 + 1 ∧ l3 + 1 ≤ 2147483647) ∧ Runs 6 mX11_lives 33 [zR 34 0, zI l3, zI z2, zI (l3 + 1), zU] [] σ1 Q) ∧ (¬ l1 < 0 → ((z2 < l2 → (-2147483648 ≤ l3 + 1 ∧ l3 + 1 ≤ 2147483647) ∧ Runs 6 mX11_lives 33 [zR 34 0, zI l3, zI z2, zI (l3 + 1), zU] [] σ1 Q) ∧ (¬ z2 < l2 → (-2147483648 ≤ l3 + 1 ∧ l3 + 1 ≤ 2147483647) ∧ Runs 6 mX11_lives 33 [zR 34 0, zI l1, zI l2, zI (l3 + 1), zU] [] σ1 Q))))))) ∧ (¬ σ 36 0 2 ≤ l4 → (-2147483648 ≤ 4 * l4 ∧ 4 * l4 ≤ 2147483647) ∧ (-2147483648 ≤ 81 + (4 * l4) ∧ 81 + (4 * l4) ≤ 2147483647) ∧ (-2147483648 ≤ (81 + (4 * l4)) + 0 ∧ (81 + (4 * l4)) + 0 ≤ 2147483647) ∧ (0 ≤ (81 + (4 * l4)) + 0 ∧ (81 + (4 * l4)) + 0 < 123) ∧ (-2147483648 ≤ l4 + 1 ∧ l4 + 1 ≤ 2147483647) ∧ Runs 6 mX11_lives 46 [zR 34 0, zI l1, zI l2, zI l3, zI (l4 + 1)] [] (zup σ 36 0 (((81 + (4 * l4)) + 0).toNat) l3) Q))) : Runs 6 mX11_lives 46 [zR 34 0, zI l1, zI l2, zI l3, zI l4] [] σ Q := by
  refine r_blk [qO (.iload 4), qO (.aload_n 0), qF (.getfield 13) 11 1, qO (.iconst 2), qO .iaload] (pc' := 54) (L' := [zR 34 0, zI l1, zI l2, zI l3, zI l4]) (S' := [zI (σ 36 0 2), zI l4]) (σ' := σ) (Ps := [0 ≤ 2 ∧ 2 < 123]) (by decide +kernel) rfl ⟨(by decide), trivial⟩ ?_
  refine r_icmp_ge (off := 24) (tgt := 78) (by decide +kernel) (by decide) (fun c => ?_) (fun c => ?_)
  · replace h := h.1 c
    refine r_blk [qO (.aload_n 0)] (pc' := 79) (L' := [zR 34 0, zI l1, zI l2, zI l3, zI l4]) (S' := [zR 34 0]) (σ' := σ) (Ps := []) (by decide +kernel) rfl trivial ?_
    refine r_callVI (As := []) (S := []) (Lc := [zR 34 0, zU, zU, zU]) (d' := 5) (n := 0) (g := 34) (x := 0) (ci := 11) kX11_costOf vX11_costOf lkX11_187 (by decide +kernel) (by decide) rfl rfl (by decide) rfl rfl (Nat.le_of_ble_eq_true rfl) rfl rfl (Nat.le_of_ble_eq_true rfl) (h.monoI (fun z2 σ1 h => ?_))
    refine r_blk [qO (.istore 4), qO (.iload_n 1)] (pc' := 85) (L' := [zR 34 0, zI l1, zI l2, zI l3, zI z2]) (S' := [zI l1]) (σ' := σ1) (Ps := []) (by decide +kernel) rfl trivial ?_
    refine r_if_lt (off := 12) (tgt := 97) (by decide +kernel) (by decide) (fun c => ?_) (fun c => ?_)
    · replace h := h.1 c
      refine r_blk [qO (.iload_n 3), qO (.istore_n 1), qO (.iload 4), qO (.istore_n 2), qO (.iinc 3 1), qO (.goto (-72))] (pc' := 33) (L' := [zR 34 0, zI l3, zI z2, zI (l3 + 1), zI z2]) (S' := []) (σ' := σ1) (Ps := [-2147483648 ≤ l3 + 1 ∧ l3 + 1 ≤ 2147483647]) (by decide +kernel) rfl ⟨h.1, trivial⟩ ?_
      replace h := h.2
      exact Runs.fg (fgE (fgE (fgE (fgE (fgU fg0))))) h
    · replace h := h.2 c
      refine r_blk [qO (.iload 4), qO (.iload_n 2)] (pc' := 91) (L' := [zR 34 0, zI l1, zI l2, zI l3, zI z2]) (S' := [zI l2, zI z2]) (σ' := σ1) (Ps := []) (by decide +kernel) rfl trivial ?_
      refine r_icmp_lt (off := 6) (tgt := 97) (by decide +kernel) (by decide) (fun c => ?_) (fun c => ?_)
      · replace h := h.1 c
        refine r_blk [qO (.iload_n 3), qO (.istore_n 1), qO (.iload 4), qO (.istore_n 2), qO (.iinc 3 1), qO (.goto (-72))] (pc' := 33) (L' := [zR 34 0, zI l3, zI z2, zI (l3 + 1), zI z2]) (S' := []) (σ' := σ1) (Ps := [-2147483648 ≤ l3 + 1 ∧ l3 + 1 ≤ 2147483647]) (by decide +kernel) rfl ⟨h.1, trivial⟩ ?_
        replace h := h.2
        exact Runs.fg (fgE (fgE (fgE (fgE (fgU fg0))))) h
      · replace h := h.2 c
        refine r_blk [qO (.goto 8), qO (.iinc 3 1), qO (.goto (-72))] (pc' := 33) (L' := [zR 34 0, zI l1, zI l2, zI (l3 + 1), zI z2]) (S' := []) (σ' := σ1) (Ps := [-2147483648 ≤ l3 + 1 ∧ l3 + 1 ≤ 2147483647]) (by decide +kernel) rfl ⟨h.1, trivial⟩ ?_
        replace h := h.2
        exact Runs.fg (fgE (fgE (fgE (fgE (fgU fg0))))) h
  · replace h := h.2 c
    refine r_blk [qO (.aload_n 0), qF (.getfield 13) 11 1, qO (.bipush 81), qO (.iconst 4), qO (.iload 4), qO .imul, qO .iadd, qO (.iconst 0), qO .iadd, qO (.iload_n 3), qO .iastore, qO (.iinc 4 1), qO (.goto (-29))] (pc' := 46) (L' := [zR 34 0, zI l1, zI l2, zI l3, zI (l4 + 1)]) (S' := []) (σ' := (zup σ 36 0 (((81 + (4 * l4)) + 0).toNat) l3)) (Ps := [-2147483648 ≤ 4 * l4 ∧ 4 * l4 ≤ 2147483647, -2147483648 ≤ 81 + (4 * l4) ∧ 81 + (4 * l4) ≤ 2147483647, -2147483648 ≤ (81 + (4 * l4)) + 0 ∧ (81 + (4 * l4)) + 0 ≤ 2147483647, 0 ≤ (81 + (4 * l4)) + 0 ∧ (81 + (4 * l4)) + 0 < 123, -2147483648 ≤ l4 + 1 ∧ l4 + 1 ≤ 2147483647]) (by decide +kernel) rfl ⟨h.1, h.2.1, h.2.2.1, h.2.2.2.1, h.2.2.2.2.1, trivial⟩ ?_
    replace h := h.2.2.2.2.2
    exact Runs.fg (fgE (fgE (fgE (fgE (fgE fg0))))) h
theorem gX11_lives_110 (l1 : Int) (l3 : Int) (σ : Hp) {Q : Option Int → Hp → Prop} (h : ((8 ≤ l3 → Q (some l1) σ) ∧ (¬ 8 ≤ l3 → (-2147483648 ≤ 4 * l3 ∧ 4 * l3 ≤ 2147483647) ∧ (-2147483648 ≤ 81 + (4 * l3) ∧ 81 + (4 * l3) ≤ 2147483647) ∧ (-2147483648 ≤ (81 + (4 * l3)) + 0 ∧ (81 + (4 * l3)) + 0 ≤ 2147483647) ∧ (0 ≤ l3 ∧ l3 < 8) ∧ (0 ≤ (81 + (4 * l3)) + 0 ∧ (81 + (4 * l3)) + 0 < 123) ∧ (-2147483648 ≤ l3 + 1 ∧ l3 + 1 ≤ 2147483647) ∧ Runs 6 mX11_lives 110 [zR 34 0, zI l1, zU, zI (l3 + 1), zU] [] (zup σ 36 0 (((81 + (4 * l3)) + 0).toNat) (σ 47 0 l3.toNat)) Q))) : Runs 6 mX11_lives 110 [zR 34 0, zI l1, zU, zI l3, zU] [] σ Q := by
  refine r_blk [qO (.iload_n 3), qO (.bipush 8)] (pc' := 113) (L' := [zR 34 0, zI l1, zU, zI l3, zU]) (S' := [zI 8, zI l3]) (σ' := σ) (Ps := []) (by decide +kernel) rfl trivial ?_
  refine r_icmp_ge (off := 28) (tgt := 141) (by decide +kernel) (by decide) (fun c => ?_) (fun c => ?_)
  · replace h := h.1 c
    refine r_blk [qO (.iload_n 1)] (pc' := 142) (L' := [zR 34 0, zI l1, zU, zI l3, zU]) (S' := [zI l1]) (σ' := σ) (Ps := []) (by decide +kernel) rfl trivial ?_
    exact r_ret (by decide +kernel) rfl (fun _ => h)
  · replace h := h.2 c
    refine r_blk [qO (.aload_n 0), qF (.getfield 13) 11 1, qO (.bipush 81), qO (.iconst 4), qO (.iload_n 3), qO .imul, qO .iadd, qO (.iconst 0), qO .iadd, qO (.aload_n 0), qF (.getfield 47) 11 20, qO (.iload_n 3), qO .iaload, qO .iastore, qO (.iinc 3 1), qO (.goto (-28))] (pc' := 110) (L' := [zR 34 0, zI l1, zU, zI (l3 + 1), zU]) (S' := []) (σ' := (zup σ 36 0 (((81 + (4 * l3)) + 0).toNat) (σ 47 0 l3.toNat))) (Ps := [-2147483648 ≤ 4 * l3 ∧ 4 * l3 ≤ 2147483647, -2147483648 ≤ 81 + (4 * l3) ∧ 81 + (4 * l3) ≤ 2147483647, -2147483648 ≤ (81 + (4 * l3)) + 0 ∧ (81 + (4 * l3)) + 0 ≤ 2147483647, 0 ≤ l3 ∧ l3 < 8, 0 ≤ (81 + (4 * l3)) + 0 ∧ (81 + (4 * l3)) + 0 < 123, -2147483648 ≤ l3 + 1 ∧ l3 + 1 ≤ 2147483647]) (by decide +kernel) rfl ⟨h.1, h.2.1, h.2.2.1, h.2.2.2.1, h.2.2.2.2.1, h.2.2.2.2.2.1, trivial⟩ ?_
    replace h := h.2.2.2.2.2.2
    exact Runs.fg (fgE (fgE (fgU (fgE (fgU fg0))))) h
theorem gX1_cheapestHome_0 (σ : Hp) {Q : Option Int → Hp → Prop} (h : Runs 5 mX1_cheapestHome 7 [zR 25 0, zI 0, zI 1000000, zI 0, zU, zU] [] σ Q) : Runs 5 mX1_cheapestHome 0 [zR 25 0, zU, zU, zU, zU, zU] [] σ Q := by
  refine r_blk [qO (.iconst 0), qO (.istore_n 1), qC (.ldc 19) 1000000, qO (.istore_n 2), qO (.iconst 0), qO (.istore_n 3)] (pc' := 7) (L' := [zR 25 0, zI 0, zI 1000000, zI 0, zU, zU]) (S' := []) (σ' := σ) (Ps := []) (by decide +kernel) rfl trivial ?_
  exact Runs.fg (fgE (fgE (fgE (fgE (fgU (fgU fg0)))))) h
theorem gX1_cheapestHome_7 (l1 : Int) (l2 : Int) (l3 : Int) (σ : Hp) {Q : Option Int → Hp → Prop} (h : ((σ 1 0 0 ≤ l3 → Q (some l1) σ) ∧ (¬ σ 1 0 0 ≤ l3 → Runs 5 mX1_cheapestHome 24 [zR 25 0, zI l1, zI l2, zI l3, zI 0, zI 0] [] σ Q))) : Runs 5 mX1_cheapestHome 7 [zR 25 0, zI l1, zI l2, zI l3, zU, zU] [] σ Q := by
  refine r_blk [qO (.iload_n 3), qO (.aload_n 0), qF (.getfield 9) 1 0, qF (.getfield 56) 6 0] (pc' := 15) (L' := [zR 25 0, zI l1, zI l2, zI l3, zU, zU]) (S' := [zI (σ 1 0 0), zI l3]) (σ' := σ) (Ps := []) (by decide +kernel) rfl trivial ?_
  refine r_icmp_ge (off := 91) (tgt := 106) (by decide +kernel) (by decide) (fun c => ?_) (fun c => ?_)
  · replace h := h.1 c
    refine r_blk [qO (.iload_n 1)] (pc' := 107) (L' := [zR 25 0, zI l1, zI l2, zI l3, zU, zU]) (S' := [zI l1]) (σ' := σ) (Ps := []) (by decide +kernel) rfl trivial ?_
    exact r_ret (by decide +kernel) rfl (fun _ => h)
  · replace h := h.2 c
    refine r_blk [qO (.iconst 0), qO (.istore 4), qO (.iconst 0), qO (.istore 5)] (pc' := 24) (L' := [zR 25 0, zI l1, zI l2, zI l3, zI 0, zI 0]) (S' := []) (σ' := σ) (Ps := []) (by decide +kernel) rfl trivial ?_
    exact Runs.fg (fgE (fgE (fgE (fgE (fgE (fgE fg0)))))) h
theorem gX1_cheapestHome_24 (l1 : Int) (l2 : Int) (l3 : Int) (l4 : Int) (l5 : Int) (σ : Hp) {Q : Option Int → Hp → Prop} (h : ((σ 1 0 2 ≤ l5 → ((l2 ≤ l4 → (-2147483648 ≤ l3 + 1 ∧ l3 + 1 ≤ 2147483647) ∧ Runs 5 mX1_cheapestHome 7 [zR 25 0, zI l1, zI l2, zI (l3 + 1), zU, zU] [] σ Q) ∧ (¬ l2 ≤ l4 → (-2147483648 ≤ l3 + 1 ∧ l3 + 1 ≤ 2147483647) ∧ Runs 5 mX1_cheapestHome 7 [zR 25 0, zI l3, zI l4, zI (l3 + 1), zU, zU] [] σ Q))) ∧ (¬ σ 1 0 2 ≤ l5 → ((l2 ≤ l4 → ((l2 ≤ l4 → (-2147483648 ≤ l3 + 1 ∧ l3 + 1 ≤ 2147483647) ∧ Runs 5 mX1_cheapestHome 7 [zR 25 0, zI l1, zI l2, zI (l3 + 1), zU, zU] [] σ Q) ∧ (¬ l2 ≤ l4 → (-2147483648 ≤ l3 + 1 ∧ l3 + 1 ≤ 2147483647) ∧ Runs 5 mX1_cheapestHome 7 [zR 25 0, zI l3, zI l4, zI (l3 + 1), zU, zU] [] σ Q))) ∧ (¬ l2 ≤ l4 → (0 ≤ l5 ∧ l5 < 8) ∧ (0 ≤ l5 ∧ l5 < 8) ∧ (0 ≤ l5 ∧ l5 < 8) ∧ Runs 4 mX1_minutesOf 0 [zR 25 0, zI l3, zI (σ 7 0 l5.toNat), zI (σ 8 0 l5.toNat), zU] [] σ (rI (fun z2 σ1 => (-2147483648 ≤ (σ 9 0 l5.toNat) * z2 ∧ (σ 9 0 l5.toNat) * z2 ≤ 2147483647) ∧ (-2147483648 ≤ l4 + ((σ 9 0 l5.toNat) * z2) ∧ l4 + ((σ 9 0 l5.toNat) * z2) ≤ 2147483647) ∧ (-2147483648 ≤ l5 + 1 ∧ l5 + 1 ≤ 2147483647) ∧ Runs 5 mX1_cheapestHome 24 [zR 25 0, zI l1, zI l2, zI l3, zI (l4 + ((σ 9 0 l5.toNat) * z2)), zI (l5 + 1)] [] σ1 Q))))))) : Runs 5 mX1_cheapestHome 24 [zR 25 0, zI l1, zI l2, zI l3, zI l4, zI l5] [] σ Q := by
  refine r_blk [qO (.iload 5), qO (.aload_n 0), qF (.getfield 9) 1 0, qF (.getfield 24) 6 2] (pc' := 33) (L' := [zR 25 0, zI l1, zI l2, zI l3, zI l4, zI l5]) (S' := [zI (σ 1 0 2), zI l5]) (σ' := σ) (Ps := []) (by decide +kernel) rfl trivial ?_
  refine r_icmp_ge (off := 56) (tgt := 89) (by decide +kernel) (by decide) (fun c => ?_) (fun c => ?_)
  · replace h := h.1 c
    refine r_blk [qO (.iload 4), qO (.iload_n 2)] (pc' := 92) (L' := [zR 25 0, zI l1, zI l2, zI l3, zI l4, zI l5]) (S' := [zI l2, zI l4]) (σ' := σ) (Ps := []) (by decide +kernel) rfl trivial ?_
    refine r_icmp_ge (off := 8) (tgt := 100) (by decide +kernel) (by decide) (fun c => ?_) (fun c => ?_)
    · replace h := h.1 c
      refine r_blk [qO (.iinc 3 1), qO (.goto (-96))] (pc' := 7) (L' := [zR 25 0, zI l1, zI l2, zI (l3 + 1), zI l4, zI l5]) (S' := []) (σ' := σ) (Ps := [-2147483648 ≤ l3 + 1 ∧ l3 + 1 ≤ 2147483647]) (by decide +kernel) rfl ⟨h.1, trivial⟩ ?_
      replace h := h.2
      exact Runs.fg (fgE (fgE (fgE (fgE (fgU (fgU fg0)))))) h
    · replace h := h.2 c
      refine r_blk [qO (.iload 4), qO (.istore_n 2), qO (.iload_n 3), qO (.istore_n 1), qO (.iinc 3 1), qO (.goto (-96))] (pc' := 7) (L' := [zR 25 0, zI l3, zI l4, zI (l3 + 1), zI l4, zI l5]) (S' := []) (σ' := σ) (Ps := [-2147483648 ≤ l3 + 1 ∧ l3 + 1 ≤ 2147483647]) (by decide +kernel) rfl ⟨h.1, trivial⟩ ?_
      replace h := h.2
      exact Runs.fg (fgE (fgE (fgE (fgE (fgU (fgU fg0)))))) h
  · replace h := h.2 c
    refine r_blk [qO (.iload 4), qO (.iload_n 2)] (pc' := 39) (L' := [zR 25 0, zI l1, zI l2, zI l3, zI l4, zI l5]) (S' := [zI l2, zI l4]) (σ' := σ) (Ps := []) (by decide +kernel) rfl trivial ?_
    refine r_icmp_ge (off := 50) (tgt := 89) (by decide +kernel) (by decide) (fun c => ?_) (fun c => ?_)
    · replace h := h.1 c
      refine r_blk [qO (.iload 4), qO (.iload_n 2)] (pc' := 92) (L' := [zR 25 0, zI l1, zI l2, zI l3, zI l4, zI l5]) (S' := [zI l2, zI l4]) (σ' := σ) (Ps := []) (by decide +kernel) rfl trivial ?_
      refine r_icmp_ge (off := 8) (tgt := 100) (by decide +kernel) (by decide) (fun c => ?_) (fun c => ?_)
      · replace h := h.1 c
        refine r_blk [qO (.iinc 3 1), qO (.goto (-96))] (pc' := 7) (L' := [zR 25 0, zI l1, zI l2, zI (l3 + 1), zI l4, zI l5]) (S' := []) (σ' := σ) (Ps := [-2147483648 ≤ l3 + 1 ∧ l3 + 1 ≤ 2147483647]) (by decide +kernel) rfl ⟨h.1, trivial⟩ ?_
        replace h := h.2
        exact Runs.fg (fgE (fgE (fgE (fgE (fgU (fgU fg0)))))) h
      · replace h := h.2 c
        refine r_blk [qO (.iload 4), qO (.istore_n 2), qO (.iload_n 3), qO (.istore_n 1), qO (.iinc 3 1), qO (.goto (-96))] (pc' := 7) (L' := [zR 25 0, zI l3, zI l4, zI (l3 + 1), zI l4, zI l5]) (S' := []) (σ' := σ) (Ps := [-2147483648 ≤ l3 + 1 ∧ l3 + 1 ≤ 2147483647]) (by decide +kernel) rfl ⟨h.1, trivial⟩ ?_
        replace h := h.2
        exact Runs.fg (fgE (fgE (fgE (fgE (fgU (fgU fg0)))))) h
    · replace h := h.2 c
      refine r_blk [qO (.iload 4), qO (.aload_n 0), qF (.getfield 9) 1 0, qF (.getfield 30) 6 14, qO (.iload 5), qO .iaload, qO (.aload_n 0), qO (.iload_n 3), qO (.aload_n 0), qF (.getfield 9) 1 0, qF (.getfield 37) 6 12, qO (.iload 5), qO .iaload, qO (.aload_n 0), qF (.getfield 9) 1 0, qF (.getfield 40) 6 13, qO (.iload 5), qO .iaload] (pc' := 76) (L' := [zR 25 0, zI l1, zI l2, zI l3, zI l4, zI l5]) (S' := [zI (σ 8 0 l5.toNat), zI (σ 7 0 l5.toNat), zI l3, zR 25 0, zI (σ 9 0 l5.toNat), zI l4]) (σ' := σ) (Ps := [0 ≤ l5 ∧ l5 < 8, 0 ≤ l5 ∧ l5 < 8, 0 ≤ l5 ∧ l5 < 8]) (by decide +kernel) rfl ⟨h.1, h.2.1, h.2.2.1, trivial⟩ ?_
      replace h := h.2.2.2
      refine r_callVI (As := [zI l3, zI (σ 7 0 l5.toNat), zI (σ 8 0 l5.toNat)]) (S := [zI (σ 9 0 l5.toNat), zI l4]) (Lc := [zR 25 0, zI l3, zI (σ 7 0 l5.toNat), zI (σ 8 0 l5.toNat), zU]) (d' := 4) (n := 3) (g := 25) (x := 0) (ci := 1) kX1_minutesOf vX1_minutesOf lkX1_43 (by decide +kernel) (by decide) rfl rfl (by decide) rfl rfl (Nat.le_of_ble_eq_true rfl) rfl rfl (Nat.le_of_ble_eq_true rfl) (h.monoI (fun z2 σ1 h => ?_))
      refine r_blk [qO .imul, qO .iadd, qO (.istore 4), qO (.iinc 5 1), qO (.goto (-62))] (pc' := 24) (L' := [zR 25 0, zI l1, zI l2, zI l3, zI (l4 + ((σ 9 0 l5.toNat) * z2)), zI (l5 + 1)]) (S' := []) (σ' := σ1) (Ps := [-2147483648 ≤ (σ 9 0 l5.toNat) * z2 ∧ (σ 9 0 l5.toNat) * z2 ≤ 2147483647, -2147483648 ≤ l4 + ((σ 9 0 l5.toNat) * z2) ∧ l4 + ((σ 9 0 l5.toNat) * z2) ≤ 2147483647, -2147483648 ≤ l5 + 1 ∧ l5 + 1 ≤ 2147483647]) (by decide +kernel) rfl ⟨h.1, h.2.1, h.2.2.1, trivial⟩ ?_
      replace h := h.2.2.2
      exact Runs.fg (fgE (fgE (fgE (fgE (fgE (fgE fg0)))))) h
theorem gX1_totalOfDays_0 (a0 : Int) (a1 : Int) (σ : Hp) {Q : Option Int → Hp → Prop} (h : Runs 5 mX1_totalOfDays 10 [zR 25 0, zI a0, zU, zI 0, zI 0, zU] [] (zup σ 25 0 2 a1) Q) : Runs 5 mX1_totalOfDays 0 [zR 25 0, zI a0, zI a1, zU, zU, zU] [] σ Q := by
  refine r_blk [qO (.aload_n 0), qO (.iload_n 2), qF (.putfield 59) 1 2, qO (.iconst 0), qO (.istore_n 3), qO (.iconst 0), qO (.istore 4)] (pc' := 10) (L' := [zR 25 0, zI a0, zI a1, zI 0, zI 0, zU]) (S' := []) (σ' := (zup σ 25 0 2 a1)) (Ps := []) (by decide +kernel) rfl trivial ?_
  exact Runs.fg (fgE (fgE (fgU (fgE (fgE (fgU fg0)))))) h
theorem gX1_totalOfDays_10 (l1 : Int) (l3 : Int) (l4 : Int) (σ : Hp) {Q : Option Int → Hp → Prop} (h : ((l1 ≤ l4 → Q (some l3) σ) ∧ (¬ l1 ≤ l4 → Runs 5 mX1_totalOfDays 19 [zR 25 0, zI l1, zU, zI l3, zI l4, zI 0] [] σ Q))) : Runs 5 mX1_totalOfDays 10 [zR 25 0, zI l1, zU, zI l3, zI l4, zU] [] σ Q := by
  refine r_blk [qO (.iload 4), qO (.iload_n 1)] (pc' := 13) (L' := [zR 25 0, zI l1, zU, zI l3, zI l4, zU]) (S' := [zI l1, zI l4]) (σ' := σ) (Ps := []) (by decide +kernel) rfl trivial ?_
  refine r_icmp_ge (off := 75) (tgt := 88) (by decide +kernel) (by decide) (fun c => ?_) (fun c => ?_)
  · replace h := h.1 c
    refine r_blk [qO (.iload_n 3)] (pc' := 89) (L' := [zR 25 0, zI l1, zU, zI l3, zI l4, zU]) (S' := [zI l3]) (σ' := σ) (Ps := []) (by decide +kernel) rfl trivial ?_
    exact r_ret (by decide +kernel) rfl (fun _ => h)
  · replace h := h.2 c
    refine r_blk [qO (.iconst 0), qO (.istore 5)] (pc' := 19) (L' := [zR 25 0, zI l1, zU, zI l3, zI l4, zI 0]) (S' := []) (σ' := σ) (Ps := []) (by decide +kernel) rfl trivial ?_
    exact Runs.fg (fgE (fgE (fgU (fgE (fgE (fgE fg0)))))) h
theorem gX1_totalOfDays_19 (l1 : Int) (l3 : Int) (l4 : Int) (l5 : Int) (σ : Hp) {Q : Option Int → Hp → Prop} (h : ((σ 1 0 2 ≤ l5 → (-2147483648 ≤ l4 + 1 ∧ l4 + 1 ≤ 2147483647) ∧ Runs 5 mX1_totalOfDays 10 [zR 25 0, zI l1, zU, zI l3, zI (l4 + 1), zU] [] σ Q) ∧ (¬ σ 1 0 2 ≤ l5 → (0 ≤ l5 ∧ l5 < 8) ∧ (0 ≤ l5 ∧ l5 < 8) ∧ (0 ≤ l5 ∧ l5 < 8) ∧ ∀ σ1 : Hp, σ1 = zup σ 25 0 2 (zlcg (σ 25 0 2)) → Runs 4 mX1_minutesOf 0 [zR 25 0, zI (σ 6 0 l5.toNat), zI (σ 7 0 l5.toNat), zI (zdraw (σ 25 0 2)), zU] [] σ1 (rI (fun z3 σ2 => (-2147483648 ≤ (σ 9 0 l5.toNat) * z3 ∧ (σ 9 0 l5.toNat) * z3 ≤ 2147483647) ∧ (-2147483648 ≤ l3 + ((σ 9 0 l5.toNat) * z3) ∧ l3 + ((σ 9 0 l5.toNat) * z3) ≤ 2147483647) ∧ (-2147483648 ≤ l5 + 1 ∧ l5 + 1 ≤ 2147483647) ∧ Runs 5 mX1_totalOfDays 19 [zR 25 0, zI l1, zU, zI (l3 + ((σ 9 0 l5.toNat) * z3)), zI l4, zI (l5 + 1)] [] σ2 Q))))) : Runs 5 mX1_totalOfDays 19 [zR 25 0, zI l1, zU, zI l3, zI l4, zI l5] [] σ Q := by
  refine r_blk [qO (.iload 5), qO (.aload_n 0), qF (.getfield 9) 1 0, qF (.getfield 24) 6 2] (pc' := 28) (L' := [zR 25 0, zI l1, zU, zI l3, zI l4, zI l5]) (S' := [zI (σ 1 0 2), zI l5]) (σ' := σ) (Ps := []) (by decide +kernel) rfl trivial ?_
  refine r_icmp_ge (off := 54) (tgt := 82) (by decide +kernel) (by decide) (fun c => ?_) (fun c => ?_)
  · replace h := h.1 c
    refine r_blk [qO (.iinc 4 1), qO (.goto (-75))] (pc' := 10) (L' := [zR 25 0, zI l1, zU, zI l3, zI (l4 + 1), zI l5]) (S' := []) (σ' := σ) (Ps := [-2147483648 ≤ l4 + 1 ∧ l4 + 1 ≤ 2147483647]) (by decide +kernel) rfl ⟨h.1, trivial⟩ ?_
    replace h := h.2
    exact Runs.fg (fgE (fgE (fgU (fgE (fgE (fgU fg0)))))) h
  · replace h := h.2 c
    refine r_blk [qO (.iload_n 3), qO (.aload_n 0), qF (.getfield 9) 1 0, qF (.getfield 30) 6 14, qO (.iload 5), qO .iaload, qO (.aload_n 0), qO (.aload_n 0), qF (.getfield 9) 1 0, qF (.getfield 34) 6 11, qO (.iload 5), qO .iaload, qO (.aload_n 0), qF (.getfield 9) 1 0, qF (.getfield 37) 6 12, qO (.iload 5), qO .iaload, qO (.aload_n 0), qO (.sipush 1440)] (pc' := 67) (L' := [zR 25 0, zI l1, zU, zI l3, zI l4, zI l5]) (S' := [zI 1440, zR 25 0, zI (σ 7 0 l5.toNat), zI (σ 6 0 l5.toNat), zR 25 0, zI (σ 9 0 l5.toNat), zI l3]) (σ' := σ) (Ps := [0 ≤ l5 ∧ l5 < 8, 0 ≤ l5 ∧ l5 < 8, 0 ≤ l5 ∧ l5 < 8]) (by decide +kernel) rfl ⟨h.1, h.2.1, h.2.2.1, trivial⟩ ?_
    replace h := h.2.2.2
    refine r_callVI (As := [zI 1440]) (S := [zI (σ 7 0 l5.toNat), zI (σ 6 0 l5.toNat), zR 25 0, zI (σ 9 0 l5.toNat), zI l3]) (Lc := [zR 25 0, zI 1440]) (d' := 0) (n := 1) (g := 25) (x := 0) (ci := 1) kX1_drawBelow vX1_drawBelow lkX1_62 (by decide +kernel) (by decide) rfl rfl (by decide) rfl rfl (Nat.le_of_ble_eq_true rfl) rfl rfl (Nat.le_of_ble_eq_true rfl) (pX1_drawBelow  ?_)
    generalize hσ1 : zup σ 25 0 2 (zlcg (σ 25 0 2)) = σ1
    replace h := h σ1 hσ1.symm
    refine r_callVI (As := [zI (σ 6 0 l5.toNat), zI (σ 7 0 l5.toNat), zI (zdraw (σ 25 0 2))]) (S := [zI (σ 9 0 l5.toNat), zI l3]) (Lc := [zR 25 0, zI (σ 6 0 l5.toNat), zI (σ 7 0 l5.toNat), zI (zdraw (σ 25 0 2)), zU]) (d' := 4) (n := 3) (g := 25) (x := 0) (ci := 1) kX1_minutesOf vX1_minutesOf lkX1_43 (by decide +kernel) (by decide) rfl rfl (by decide) rfl rfl (Nat.le_of_ble_eq_true rfl) rfl rfl (Nat.le_of_ble_eq_true rfl) (h.monoI (fun z3 σ2 h => ?_))
    refine r_blk [qO .imul, qO .iadd, qO (.istore_n 3), qO (.iinc 5 1), qO (.goto (-60))] (pc' := 19) (L' := [zR 25 0, zI l1, zU, zI (l3 + ((σ 9 0 l5.toNat) * z3)), zI l4, zI (l5 + 1)]) (S' := []) (σ' := σ2) (Ps := [-2147483648 ≤ (σ 9 0 l5.toNat) * z3 ∧ (σ 9 0 l5.toNat) * z3 ≤ 2147483647, -2147483648 ≤ l3 + ((σ 9 0 l5.toNat) * z3) ∧ l3 + ((σ 9 0 l5.toNat) * z3) ≤ 2147483647, -2147483648 ≤ l5 + 1 ∧ l5 + 1 ≤ 2147483647]) (by decide +kernel) rfl ⟨h.1, h.2.1, h.2.2.1, trivial⟩ ?_
    replace h := h.2.2.2
    exact Runs.fg (fgE (fgE (fgU (fgE (fgE (fgE fg0)))))) h
