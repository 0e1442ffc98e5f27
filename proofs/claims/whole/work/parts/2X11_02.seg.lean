theorem gX11_wayOf_0 (a0 : Int) (a1 : Int) (σ : Hp) {Q : Option Int → Hp → Prop} (h : ((¬ bitz (σ 36 0 4) a0 = 1 → ((bitz (σ 36 0 5) a0 = 1 → Q (some 2) σ) ∧ (¬ bitz (σ 36 0 5) a0 = 1 → ((¬ σ 36 0 8 = 1 → Runs 1 mX11_wayOf 55 [zR 34 0, zI a0, zI a1, zI (σ 36 0 8), zU, zU] [] σ Q) ∧ (σ 36 0 8 = 1 → Runs 0 mX11_get 0 [zR 34 0, zI a0, zI 3] [] σ (rI (fun z2 σ1 => ((¬ z2 = 1 → Runs 1 mX11_wayOf 55 [zR 34 0, zI a0, zI a1, zI (σ 36 0 8), zU, zU] [] σ1 Q) ∧ (z2 = 1 → Q (some 2) σ1))))))))) ∧ (bitz (σ 36 0 4) a0 = 1 → Q (some 3) σ))) : Runs 1 mX11_wayOf 0 [zR 34 0, zI a0, zI a1, zU, zU, zU] [] σ Q := by
  refine r_blk [qO (.aload_n 0), qF (.getfield 13) 11 1, qO (.iconst 4), qO .iaload, qO (.iload_n 1), qO .ishr, qO (.iconst 1), qO .iand, qO (.iconst 1)] (pc' := 11) (L' := [zR 34 0, zI a0, zI a1, zU, zU, zU]) (S' := [zI 1, zI (bitz (σ 36 0 4) a0)]) (σ' := σ) (Ps := [0 ≤ 4 ∧ 4 < 123]) (by decide +kernel) rfl ⟨(by decide), trivial⟩ ?_
  refine r_icmp_ne (off := 5) (tgt := 16) (by decide +kernel) (by decide) (fun c => ?_) (fun c => ?_)
  · replace h := h.1 c
    refine r_blk [qO (.aload_n 0), qF (.getfield 13) 11 1, qO (.bipush 8), qO .iaload, qO (.istore_n 3), qO (.aload_n 0), qF (.getfield 13) 11 1, qO (.iconst 5), qO .iaload, qO (.iload_n 1), qO .ishr, qO (.iconst 1), qO .iand, qO (.iconst 1)] (pc' := 35) (L' := [zR 34 0, zI a0, zI a1, zI (σ 36 0 8), zU, zU]) (S' := [zI 1, zI (bitz (σ 36 0 5) a0)]) (σ' := σ) (Ps := [0 ≤ 8 ∧ 8 < 123, 0 ≤ 5 ∧ 5 < 123]) (by decide +kernel) rfl ⟨(by decide), (by decide), trivial⟩ ?_
    refine r_icmp_eq (off := 18) (tgt := 53) (by decide +kernel) (by decide) (fun c => ?_) (fun c => ?_)
    · replace h := h.1 c
      refine r_blk [qO (.iconst 2)] (pc' := 54) (L' := [zR 34 0, zI a0, zI a1, zI (σ 36 0 8), zU, zU]) (S' := [zI 2]) (σ' := σ) (Ps := []) (by decide +kernel) rfl trivial ?_
      exact r_ret (by decide +kernel) rfl (fun _ => h)
    · replace h := h.2 c
      refine r_blk [qO (.iload_n 3), qO (.iconst 1)] (pc' := 40) (L' := [zR 34 0, zI a0, zI a1, zI (σ 36 0 8), zU, zU]) (S' := [zI 1, zI (σ 36 0 8)]) (σ' := σ) (Ps := []) (by decide +kernel) rfl trivial ?_
      refine r_icmp_ne (off := 15) (tgt := 55) (by decide +kernel) (by decide) (fun c => ?_) (fun c => ?_)
      · replace h := h.1 c
        exact Runs.fg (fgE (fgE (fgE (fgE (fgU (fgU fg0)))))) h
      · replace h := h.2 c
        refine r_blk [qO (.aload_n 0), qO (.iload_n 1), qO (.iconst 3)] (pc' := 46) (L' := [zR 34 0, zI a0, zI a1, zI (σ 36 0 8), zU, zU]) (S' := [zI 3, zI a0, zR 34 0]) (σ' := σ) (Ps := []) (by decide +kernel) rfl trivial ?_
        refine r_callVI (As := [zI a0, zI 3]) (S := []) (Lc := [zR 34 0, zI a0, zI 3]) (d' := 0) (n := 2) (g := 34) (x := 0) (ci := 11) kX11_get vX11_get lkX11_106 (by decide +kernel) (by decide) rfl rfl (by decide) rfl rfl (Nat.le_of_ble_eq_true rfl) rfl rfl (Nat.le_of_ble_eq_true rfl) (h.monoI (fun z2 σ1 h => ?_))
        refine r_blk [qO (.iconst 1)] (pc' := 50) (L' := [zR 34 0, zI a0, zI a1, zI (σ 36 0 8), zU, zU]) (S' := [zI 1, zI z2]) (σ' := σ1) (Ps := []) (by decide +kernel) rfl trivial ?_
        refine r_icmp_ne (off := 5) (tgt := 55) (by decide +kernel) (by decide) (fun c => ?_) (fun c => ?_)
        · replace h := h.1 c
          exact Runs.fg (fgE (fgE (fgE (fgE (fgU (fgU fg0)))))) h
        · replace h := h.2 c
          refine r_blk [qO (.iconst 2)] (pc' := 54) (L' := [zR 34 0, zI a0, zI a1, zI (σ 36 0 8), zU, zU]) (S' := [zI 2]) (σ' := σ1) (Ps := []) (by decide +kernel) rfl trivial ?_
          exact r_ret (by decide +kernel) rfl (fun _ => h)
  · replace h := h.2 c
    refine r_blk [qO (.iconst 3)] (pc' := 15) (L' := [zR 34 0, zI a0, zI a1, zU, zU, zU]) (S' := [zI 3]) (σ' := σ) (Ps := []) (by decide +kernel) rfl trivial ?_
    exact r_ret (by decide +kernel) rfl (fun _ => h)
theorem gX11_wayOf_55 (l1 : Int) (l2 : Int) (l3 : Int) (σ : Hp) {Q : Option Int → Hp → Prop} (h : ((¬ l3 = 4 → ((¬ l3 = 3 → Runs 1 mX11_wayOf 108 [zR 34 0, zU, zI l2, zI l3, zI (bitz (σ 36 0 3) l1), zI (σ 36 0 7)] [] σ Q) ∧ (l3 = 3 → ((¬ zrem (σ 36 0 10) 2 = 1 → Runs 1 mX11_wayOf 108 [zR 34 0, zU, zI l2, zI l3, zI (bitz (σ 36 0 3) l1), zI (σ 36 0 7)] [] σ Q) ∧ (zrem (σ 36 0 10) 2 = 1 → (-2147483648 ≤ 1 - (bitz (σ 36 0 3) l1) ∧ 1 - (bitz (σ 36 0 3) l1) ≤ 2147483647) ∧ Runs 1 mX11_wayOf 108 [zR 34 0, zU, zI l2, zI l3, zI (1 - (bitz (σ 36 0 3) l1)), zI (σ 36 0 7)] [] σ Q))))) ∧ (l3 = 4 → Q (some (bitz (σ 36 0 3) l1)) σ))) : Runs 1 mX11_wayOf 55 [zR 34 0, zI l1, zI l2, zI l3, zU, zU] [] σ Q := by
  refine r_blk [qO (.aload_n 0), qF (.getfield 13) 11 1, qO (.iconst 3), qO .iaload, qO (.iload_n 1), qO .ishr, qO (.iconst 1), qO .iand, qO (.istore 4), qO (.aload_n 0), qF (.getfield 13) 11 1, qO (.bipush 7), qO .iaload, qO (.istore 5), qO (.iload_n 3), qO (.iconst 4)] (pc' := 78) (L' := [zR 34 0, zI l1, zI l2, zI l3, zI (bitz (σ 36 0 3) l1), zI (σ 36 0 7)]) (S' := [zI 4, zI l3]) (σ' := σ) (Ps := [0 ≤ 3 ∧ 3 < 123, 0 ≤ 7 ∧ 7 < 123]) (by decide +kernel) rfl ⟨(by decide), (by decide), trivial⟩ ?_
  refine r_icmp_ne (off := 6) (tgt := 84) (by decide +kernel) (by decide) (fun c => ?_) (fun c => ?_)
  · replace h := h.1 c
    refine r_blk [qO (.iload_n 3), qO (.iconst 3)] (pc' := 86) (L' := [zR 34 0, zI l1, zI l2, zI l3, zI (bitz (σ 36 0 3) l1), zI (σ 36 0 7)]) (S' := [zI 3, zI l3]) (σ' := σ) (Ps := []) (by decide +kernel) rfl trivial ?_
    refine r_icmp_ne (off := 22) (tgt := 108) (by decide +kernel) (by decide) (fun c => ?_) (fun c => ?_)
    · replace h := h.1 c
      exact Runs.fg (fgE (fgU (fgE (fgE (fgE (fgE fg0)))))) h
    · replace h := h.2 c
      refine r_blk [qO (.aload_n 0), qF (.getfield 13) 11 1, qO (.bipush 10), qO .iaload, qO (.iconst 2), qO .irem, qO (.iconst 1)] (pc' := 99) (L' := [zR 34 0, zI l1, zI l2, zI l3, zI (bitz (σ 36 0 3) l1), zI (σ 36 0 7)]) (S' := [zI 1, zI (zrem (σ 36 0 10) 2)]) (σ' := σ) (Ps := [0 ≤ 10 ∧ 10 < 123, 2 ≠ 0]) (by decide +kernel) rfl ⟨(by decide), (by decide), trivial⟩ ?_
      refine r_icmp_ne (off := 9) (tgt := 108) (by decide +kernel) (by decide) (fun c => ?_) (fun c => ?_)
      · replace h := h.1 c
        exact Runs.fg (fgE (fgU (fgE (fgE (fgE (fgE fg0)))))) h
      · replace h := h.2 c
        refine r_blk [qO (.iconst 1), qO (.iload 4), qO .isub, qO (.istore 4)] (pc' := 108) (L' := [zR 34 0, zI l1, zI l2, zI l3, zI (1 - (bitz (σ 36 0 3) l1)), zI (σ 36 0 7)]) (S' := []) (σ' := σ) (Ps := [-2147483648 ≤ 1 - (bitz (σ 36 0 3) l1) ∧ 1 - (bitz (σ 36 0 3) l1) ≤ 2147483647]) (by decide +kernel) rfl ⟨h.1, trivial⟩ ?_
        replace h := h.2
        exact Runs.fg (fgE (fgU (fgE (fgE (fgE (fgE fg0)))))) h
  · replace h := h.2 c
    refine r_blk [qO (.iload 4)] (pc' := 83) (L' := [zR 34 0, zI l1, zI l2, zI l3, zI (bitz (σ 36 0 3) l1), zI (σ 36 0 7)]) (S' := [zI (bitz (σ 36 0 3) l1)]) (σ' := σ) (Ps := []) (by decide +kernel) rfl trivial ?_
    exact r_ret (by decide +kernel) rfl (fun _ => h)
theorem gX11_wayOf_108 (l2 : Int) (l3 : Int) (l4 : Int) (l5 : Int) (σ : Hp) {Q : Option Int → Hp → Prop} (h : ((l5 ≤ l2 → ((¬ l3 = 2 → (-2147483648 ≤ 1 - l4 ∧ 1 - l4 ≤ 2147483647) ∧ Q (some (1 - l4)) σ) ∧ (l3 = 2 → (-2147483648 ≤ l4 + 1 ∧ l4 + 1 ≤ 2147483647) ∧ (-2147483648 ≤ l2 - l5 ∧ l2 - l5 ≤ 2147483647) ∧ (σ 36 0 9 ≠ 0) ∧ (-2147483648 ≤ (l4 + 1) + (zdiv (l2 - l5) (σ 36 0 9)) ∧ (l4 + 1) + (zdiv (l2 - l5) (σ 36 0 9)) ≤ 2147483647) ∧ Q (some (zrem ((l4 + 1) + (zdiv (l2 - l5) (σ 36 0 9))) 2)) σ))) ∧ (¬ l5 ≤ l2 → Q (some l4) σ))) : Runs 1 mX11_wayOf 108 [zR 34 0, zU, zI l2, zI l3, zI l4, zI l5] [] σ Q := by
  refine r_blk [qO (.iload_n 2), qO (.iload 5)] (pc' := 111) (L' := [zR 34 0, zU, zI l2, zI l3, zI l4, zI l5]) (S' := [zI l5, zI l2]) (σ' := σ) (Ps := []) (by decide +kernel) rfl trivial ?_
  refine r_icmp_ge (off := 6) (tgt := 117) (by decide +kernel) (by decide) (fun c => ?_) (fun c => ?_)
  · replace h := h.1 c
    refine r_blk [qO (.iload_n 3), qO (.iconst 2)] (pc' := 119) (L' := [zR 34 0, zU, zI l2, zI l3, zI l4, zI l5]) (S' := [zI 2, zI l3]) (σ' := σ) (Ps := []) (by decide +kernel) rfl trivial ?_
    refine r_icmp_ne (off := 23) (tgt := 142) (by decide +kernel) (by decide) (fun c => ?_) (fun c => ?_)
    · replace h := h.1 c
      refine r_blk [qO (.iconst 1), qO (.iload 4), qO .isub] (pc' := 146) (L' := [zR 34 0, zU, zI l2, zI l3, zI l4, zI l5]) (S' := [zI (1 - l4)]) (σ' := σ) (Ps := [-2147483648 ≤ 1 - l4 ∧ 1 - l4 ≤ 2147483647]) (by decide +kernel) rfl ⟨h.1, trivial⟩ ?_
      replace h := h.2
      exact r_ret (by decide +kernel) rfl (fun _ => h)
    · replace h := h.2 c
      refine r_blk [qO (.iload 4), qO (.iconst 1), qO .iadd, qO (.iload_n 2), qO (.iload 5), qO .isub, qO (.aload_n 0), qF (.getfield 13) 11 1, qO (.bipush 9), qO .iaload, qO .idiv, qO .iadd, qO (.iconst 2), qO .irem] (pc' := 141) (L' := [zR 34 0, zU, zI l2, zI l3, zI l4, zI l5]) (S' := [zI (zrem ((l4 + 1) + (zdiv (l2 - l5) (σ 36 0 9))) 2)]) (σ' := σ) (Ps := [-2147483648 ≤ l4 + 1 ∧ l4 + 1 ≤ 2147483647, -2147483648 ≤ l2 - l5 ∧ l2 - l5 ≤ 2147483647, 0 ≤ 9 ∧ 9 < 123, σ 36 0 9 ≠ 0, -2147483648 ≤ (l4 + 1) + (zdiv (l2 - l5) (σ 36 0 9)) ∧ (l4 + 1) + (zdiv (l2 - l5) (σ 36 0 9)) ≤ 2147483647, 2 ≠ 0]) (by decide +kernel) rfl ⟨h.1, h.2.1, (by decide), h.2.2.1, h.2.2.2.1, (by decide), trivial⟩ ?_
      replace h := h.2.2.2.2
      exact r_ret (by decide +kernel) rfl (fun _ => h)
  · replace h := h.2 c
    refine r_blk [qO (.iload 4)] (pc' := 116) (L' := [zR 34 0, zU, zI l2, zI l3, zI l4, zI l5]) (S' := [zI l4]) (σ' := σ) (Ps := []) (by decide +kernel) rfl trivial ?_
    exact r_ret (by decide +kernel) rfl (fun _ => h)
theorem gX11_way_0 (a0 : Int) (a1 : Int) (σ : Hp) {Q : Option Int → Hp → Prop} (h : Runs 1 mX11_isStreet 0 [zR 34 0, zI a0] [] σ (rI (fun z2 σ1 => ((z2 = 0 → Runs 0 mX11_refuse 0 [zR 34 0, zI (-1)] [] σ1 (rI (fun z4 σ3 => Q (some z4) σ3))) ∧ (¬ z2 = 0 → Runs 0 mX11_within 0 [zI a1, zI 0, zI 2879] [] σ1 (rI (fun z6 σ5 => ((z6 = 0 → Runs 1 mX11_wayOf 0 [zR 34 0, zI a0, zI a1, zU, zU, zU] [] σ5 (rI (fun z8 σ7 => Q (some z8) σ7))) ∧ (¬ z6 = 0 → Runs 0 mX11_refuse 0 [zR 34 0, zI z6] [] σ5 (rI (fun z10 σ9 => Q (some z10) σ9))))))))))) : Runs 2 mX11_way 0 [zR 34 0, zI a0, zI a1, zU] [] σ Q := by
  refine r_blk [qO (.aload_n 0), qO (.iload_n 1)] (pc' := 2) (L' := [zR 34 0, zI a0, zI a1, zU]) (S' := [zI a0, zR 34 0]) (σ' := σ) (Ps := []) (by decide +kernel) rfl trivial ?_
  refine r_callVI (As := [zI a0]) (S := []) (Lc := [zR 34 0, zI a0]) (d' := 1) (n := 1) (g := 34) (x := 0) (ci := 11) kX11_isStreet vX11_isStreet lkX11_103 (by decide +kernel) (by decide) rfl rfl (by decide) rfl rfl (Nat.le_of_ble_eq_true rfl) rfl rfl (Nat.le_of_ble_eq_true rfl) (h.monoI (fun z2 σ1 h => ?_))
  refine r_if_eq (off := 14) (tgt := 19) (by decide +kernel) (by decide) (fun c => ?_) (fun c => ?_)
  · replace h := h.1 c
    refine r_blk [qO (.iconst (-1)), qO (.istore_n 3), qO (.iload_n 3)] (pc' := 22) (L' := [zR 34 0, zI a0, zI a1, zI (-1)]) (S' := [zI (-1)]) (σ' := σ1) (Ps := []) (by decide +kernel) rfl trivial ?_
    refine r_if_eq (off := 11) (tgt := 33) (by decide +kernel) (by decide) (fun c => ?_) (fun c => ?_)
    · exact absurd c (by decide)
    · refine r_blk [qO (.aload_n 0), qO (.iload_n 3)] (pc' := 27) (L' := [zR 34 0, zI a0, zI a1, zI (-1)]) (S' := [zI (-1), zR 34 0]) (σ' := σ1) (Ps := []) (by decide +kernel) rfl trivial ?_
      refine r_callVI (As := [zI (-1)]) (S := []) (Lc := [zR 34 0, zI (-1)]) (d' := 0) (n := 1) (g := 34) (x := 0) (ci := 11) kX11_refuse vX11_refuse lkX11_66 (by decide +kernel) (by decide) rfl rfl (by decide) rfl rfl (Nat.le_of_ble_eq_true rfl) rfl rfl (Nat.le_of_ble_eq_true rfl) (h.monoI (fun z4 σ3 h => ?_))
      refine r_blk [qO (.goto 9)] (pc' := 39) (L' := [zR 34 0, zI a0, zI a1, zI (-1)]) (S' := [zI z4]) (σ' := σ3) (Ps := []) (by decide +kernel) rfl trivial ?_
      exact r_ret (by decide +kernel) rfl (fun _ => h)
  · replace h := h.2 c
    refine r_blk [qO (.iload_n 2), qO (.iconst 0), qO (.sipush 2879)] (pc' := 13) (L' := [zR 34 0, zI a0, zI a1, zU]) (S' := [zI 2879, zI 0, zI a1]) (σ' := σ1) (Ps := []) (by decide +kernel) rfl trivial ?_
    refine r_callSI (As := [zI a1, zI 0, zI 2879]) (S := []) (Lc := [zI a1, zI 0, zI 2879]) (d' := 0) (n := 3) kX11_within vX11_within lkX11_119 (by decide +kernel) (by decide) rfl rfl (Nat.le_of_ble_eq_true rfl) rfl rfl (Nat.le_of_ble_eq_true rfl) (h.monoI (fun z6 σ5 h => ?_))
    refine r_blk [qO (.goto 4), qO (.istore_n 3), qO (.iload_n 3)] (pc' := 22) (L' := [zR 34 0, zI a0, zI a1, zI z6]) (S' := [zI z6]) (σ' := σ5) (Ps := []) (by decide +kernel) rfl trivial ?_
    refine r_if_eq (off := 11) (tgt := 33) (by decide +kernel) (by decide) (fun c => ?_) (fun c => ?_)
    · replace h := h.1 c
      refine r_blk [qO (.aload_n 0), qO (.iload_n 1), qO (.iload_n 2)] (pc' := 36) (L' := [zR 34 0, zI a0, zI a1, zI z6]) (S' := [zI a1, zI a0, zR 34 0]) (σ' := σ5) (Ps := []) (by decide +kernel) rfl trivial ?_
      refine r_callVI (As := [zI a0, zI a1]) (S := []) (Lc := [zR 34 0, zI a0, zI a1, zU, zU, zU]) (d' := 1) (n := 2) (g := 34) (x := 0) (ci := 11) kX11_wayOf vX11_wayOf lkX11_126 (by decide +kernel) (by decide) rfl rfl (by decide) rfl rfl (Nat.le_of_ble_eq_true rfl) rfl rfl (Nat.le_of_ble_eq_true rfl) (h.monoI (fun z8 σ7 h => ?_))
      exact r_ret (by decide +kernel) rfl (fun _ => h)
    · replace h := h.2 c
      refine r_blk [qO (.aload_n 0), qO (.iload_n 3)] (pc' := 27) (L' := [zR 34 0, zI a0, zI a1, zI z6]) (S' := [zI z6, zR 34 0]) (σ' := σ5) (Ps := []) (by decide +kernel) rfl trivial ?_
      refine r_callVI (As := [zI z6]) (S := []) (Lc := [zR 34 0, zI z6]) (d' := 0) (n := 1) (g := 34) (x := 0) (ci := 11) kX11_refuse vX11_refuse lkX11_66 (by decide +kernel) (by decide) rfl rfl (by decide) rfl rfl (Nat.le_of_ble_eq_true rfl) rfl rfl (Nat.le_of_ble_eq_true rfl) (h.monoI (fun z10 σ9 h => ?_))
      refine r_blk [qO (.goto 9)] (pc' := 39) (L' := [zR 34 0, zI a0, zI a1, zI z6]) (S' := [zI z10]) (σ' := σ9) (Ps := []) (by decide +kernel) rfl trivial ?_
      exact r_ret (by decide +kernel) rfl (fun _ => h)
theorem gX11_goesFrom_0 (a0 : Int) (a1 : Int) (a2 : Int) (σ : Hp) {Q : Option Int → Hp → Prop} (h : Runs 1 mX11_wayOf 0 [zR 34 0, zI a0, zI a2, zU, zU, zU] [] σ (rI (fun z2 σ1 => ((z2 = 2 → Q (some 1) σ1) ∧ (¬ z2 = 2 → ((¬ z2 = a1 → Q (some 0) σ1) ∧ (z2 = a1 → Q (some 1) σ1))))))) : Runs 2 mX11_goesFrom 0 [zR 34 0, zI a0, zI a1, zI a2, zU] [] σ Q := by
  refine r_blk [qO (.aload_n 0), qO (.iload_n 1), qO (.iload_n 3)] (pc' := 3) (L' := [zR 34 0, zI a0, zI a1, zI a2, zU]) (S' := [zI a2, zI a0, zR 34 0]) (σ' := σ) (Ps := []) (by decide +kernel) rfl trivial ?_
  refine r_callVI (As := [zI a0, zI a2]) (S := []) (Lc := [zR 34 0, zI a0, zI a2, zU, zU, zU]) (d' := 1) (n := 2) (g := 34) (x := 0) (ci := 11) kX11_wayOf vX11_wayOf lkX11_126 (by decide +kernel) (by decide) rfl rfl (by decide) rfl rfl (Nat.le_of_ble_eq_true rfl) rfl rfl (Nat.le_of_ble_eq_true rfl) (h.monoI (fun z2 σ1 h => ?_))
  refine r_blk [qO (.istore 4), qO (.iload 4), qO (.iconst 2)] (pc' := 11) (L' := [zR 34 0, zI a0, zI a1, zI a2, zI z2]) (S' := [zI 2, zI z2]) (σ' := σ1) (Ps := []) (by decide +kernel) rfl trivial ?_
  refine r_icmp_eq (off := 9) (tgt := 20) (by decide +kernel) (by decide) (fun c => ?_) (fun c => ?_)
  · replace h := h.1 c
    refine r_blk [qO (.iconst 1), qO (.goto 4)] (pc' := 25) (L' := [zR 34 0, zI a0, zI a1, zI a2, zI z2]) (S' := [zI 1]) (σ' := σ1) (Ps := []) (by decide +kernel) rfl trivial ?_
    exact r_retz (by decide +kernel) rfl (by decide) h
  · replace h := h.2 c
    refine r_blk [qO (.iload 4), qO (.iload_n 2)] (pc' := 17) (L' := [zR 34 0, zI a0, zI a1, zI a2, zI z2]) (S' := [zI a1, zI z2]) (σ' := σ1) (Ps := []) (by decide +kernel) rfl trivial ?_
    refine r_icmp_ne (off := 7) (tgt := 24) (by decide +kernel) (by decide) (fun c => ?_) (fun c => ?_)
    · replace h := h.1 c
      refine r_blk [qO (.iconst 0)] (pc' := 25) (L' := [zR 34 0, zI a0, zI a1, zI a2, zI z2]) (S' := [zI 0]) (σ' := σ1) (Ps := []) (by decide +kernel) rfl trivial ?_
      exact r_retz (by decide +kernel) rfl (by decide) h
    · replace h := h.2 c
      refine r_blk [qO (.iconst 1), qO (.goto 4)] (pc' := 25) (L' := [zR 34 0, zI a0, zI a1, zI a2, zI z2]) (S' := [zI 1]) (σ' := σ1) (Ps := []) (by decide +kernel) rfl trivial ?_
      exact r_retz (by decide +kernel) rfl (by decide) h
theorem gX11_enters_0 (a0 : Int) (a1 : Int) (a2 : Int) (σ : Hp) {Q : Option Int → Hp → Prop} (h : ((bitz (σ 36 0 4) a0 = 1 → Q (some (-9)) σ) ∧ (¬ bitz (σ 36 0 4) a0 = 1 → ((a2 ≤ 2879 → Runs 2 mX11_goesFrom 0 [zR 34 0, zI a0, zI a1, zI a2, zU] [] σ (rI (fun z2 σ1 => ((z2 = 0 → ((σ1 36 0 8 = 4 → Q (some (-9)) σ1) ∧ (¬ σ1 36 0 8 = 4 → ((a2 < σ1 36 0 7 → Runs 3 mX11_enters 76 [zR 34 0, zU, zU, zI a2, zI (σ1 36 0 7), zU] [] σ1 Q) ∧ (¬ a2 < σ1 36 0 7 → ((σ1 36 0 8 = 2 → Runs 3 mX11_enters 76 [zR 34 0, zU, zU, zI a2, zI (σ1 36 0 7), zU] [] σ1 Q) ∧ (¬ σ1 36 0 8 = 2 → Q (some (-9)) σ1))))))) ∧ (¬ z2 = 0 → Q (some a2) σ1))))) ∧ (¬ a2 ≤ 2879 → Q (some (-9)) σ))))) : Runs 3 mX11_enters 0 [zR 34 0, zI a0, zI a1, zI a2, zU, zU] [] σ Q := by
  refine r_blk [qO (.aload_n 0), qF (.getfield 13) 11 1, qO (.iconst 4), qO .iaload, qO (.iload_n 1), qO .ishr, qO (.iconst 1), qO .iand, qO (.iconst 1)] (pc' := 11) (L' := [zR 34 0, zI a0, zI a1, zI a2, zU, zU]) (S' := [zI 1, zI (bitz (σ 36 0 4) a0)]) (σ' := σ) (Ps := [0 ≤ 4 ∧ 4 < 123]) (by decide +kernel) rfl ⟨(by decide), trivial⟩ ?_
  refine r_icmp_eq (off := 10) (tgt := 21) (by decide +kernel) (by decide) (fun c => ?_) (fun c => ?_)
  · replace h := h.1 c
    refine r_blk [qO (.bipush (-9))] (pc' := 23) (L' := [zR 34 0, zI a0, zI a1, zI a2, zU, zU]) (S' := [zI (-9)]) (σ' := σ) (Ps := []) (by decide +kernel) rfl trivial ?_
    exact r_ret (by decide +kernel) rfl (fun _ => h)
  · replace h := h.2 c
    refine r_blk [qO (.iload_n 3), qO (.sipush 2879)] (pc' := 18) (L' := [zR 34 0, zI a0, zI a1, zI a2, zU, zU]) (S' := [zI 2879, zI a2]) (σ' := σ) (Ps := []) (by decide +kernel) rfl trivial ?_
    refine r_icmp_le (off := 6) (tgt := 24) (by decide +kernel) (by decide) (fun c => ?_) (fun c => ?_)
    · replace h := h.1 c
      refine r_blk [qO (.aload_n 0), qO (.iload_n 1), qO (.iload_n 2), qO (.iload_n 3)] (pc' := 28) (L' := [zR 34 0, zI a0, zI a1, zI a2, zU, zU]) (S' := [zI a2, zI a1, zI a0, zR 34 0]) (σ' := σ) (Ps := []) (by decide +kernel) rfl trivial ?_
      refine r_callVI (As := [zI a0, zI a1, zI a2]) (S := []) (Lc := [zR 34 0, zI a0, zI a1, zI a2, zU]) (d' := 2) (n := 3) (g := 34) (x := 0) (ci := 11) kX11_goesFrom vX11_goesFrom lkX11_129 (by decide +kernel) (by decide) rfl rfl (by decide) rfl rfl (Nat.le_of_ble_eq_true rfl) rfl rfl (Nat.le_of_ble_eq_true rfl) (h.monoI (fun z2 σ1 h => ?_))
      refine r_if_eq (off := 5) (tgt := 36) (by decide +kernel) (by decide) (fun c => ?_) (fun c => ?_)
      · replace h := h.1 c
        refine r_blk [qO (.aload_n 0), qF (.getfield 13) 11 1, qO (.bipush 7), qO .iaload, qO (.istore 4), qO (.aload_n 0), qF (.getfield 13) 11 1, qO (.bipush 8), qO .iaload, qO (.iconst 4)] (pc' := 53) (L' := [zR 34 0, zI a0, zI a1, zI a2, zI (σ1 36 0 7), zU]) (S' := [zI 4, zI (σ1 36 0 8)]) (σ' := σ1) (Ps := [0 ≤ 7 ∧ 7 < 123, 0 ≤ 8 ∧ 8 < 123]) (by decide +kernel) rfl ⟨(by decide), (by decide), trivial⟩ ?_
        refine r_icmp_eq (off := 20) (tgt := 73) (by decide +kernel) (by decide) (fun c => ?_) (fun c => ?_)
        · replace h := h.1 c
          refine r_blk [qO (.bipush (-9))] (pc' := 75) (L' := [zR 34 0, zI a0, zI a1, zI a2, zI (σ1 36 0 7), zU]) (S' := [zI (-9)]) (σ' := σ1) (Ps := []) (by decide +kernel) rfl trivial ?_
          exact r_ret (by decide +kernel) rfl (fun _ => h)
        · replace h := h.2 c
          refine r_blk [qO (.iload_n 3), qO (.iload 4)] (pc' := 59) (L' := [zR 34 0, zI a0, zI a1, zI a2, zI (σ1 36 0 7), zU]) (S' := [zI (σ1 36 0 7), zI a2]) (σ' := σ1) (Ps := []) (by decide +kernel) rfl trivial ?_
          refine r_icmp_lt (off := 17) (tgt := 76) (by decide +kernel) (by decide) (fun c => ?_) (fun c => ?_)
          · replace h := h.1 c
            exact Runs.fg (fgE (fgU (fgU (fgE (fgE (fgU fg0)))))) h
          · replace h := h.2 c
            refine r_blk [qO (.aload_n 0), qF (.getfield 13) 11 1, qO (.bipush 8), qO .iaload, qO (.iconst 2)] (pc' := 70) (L' := [zR 34 0, zI a0, zI a1, zI a2, zI (σ1 36 0 7), zU]) (S' := [zI 2, zI (σ1 36 0 8)]) (σ' := σ1) (Ps := [0 ≤ 8 ∧ 8 < 123]) (by decide +kernel) rfl ⟨(by decide), trivial⟩ ?_
            refine r_icmp_eq (off := 6) (tgt := 76) (by decide +kernel) (by decide) (fun c => ?_) (fun c => ?_)
            · replace h := h.1 c
              exact Runs.fg (fgE (fgU (fgU (fgE (fgE (fgU fg0)))))) h
            · replace h := h.2 c
              refine r_blk [qO (.bipush (-9))] (pc' := 75) (L' := [zR 34 0, zI a0, zI a1, zI a2, zI (σ1 36 0 7), zU]) (S' := [zI (-9)]) (σ' := σ1) (Ps := []) (by decide +kernel) rfl trivial ?_
              exact r_ret (by decide +kernel) rfl (fun _ => h)
      · replace h := h.2 c
        refine r_blk [qO (.iload_n 3)] (pc' := 35) (L' := [zR 34 0, zI a0, zI a1, zI a2, zU, zU]) (S' := [zI a2]) (σ' := σ1) (Ps := []) (by decide +kernel) rfl trivial ?_
        exact r_ret (by decide +kernel) rfl (fun _ => h)
    · replace h := h.2 c
      refine r_blk [qO (.bipush (-9))] (pc' := 23) (L' := [zR 34 0, zI a0, zI a1, zI a2, zU, zU]) (S' := [zI (-9)]) (σ' := σ) (Ps := []) (by decide +kernel) rfl trivial ?_
      exact r_ret (by decide +kernel) rfl (fun _ => h)
theorem gX11_enters_76 (l3 : Int) (l4 : Int) (σ : Hp) {Q : Option Int → Hp → Prop} (h : ((l4 ≤ l3 → (-2147483648 ≤ l3 - l4 ∧ l3 - l4 ≤ 2147483647) ∧ (σ 36 0 9 ≠ 0) ∧ (-2147483648 ≤ (zdiv (l3 - l4) (σ 36 0 9)) + 1 ∧ (zdiv (l3 - l4) (σ 36 0 9)) + 1 ≤ 2147483647) ∧ (-2147483648 ≤ ((zdiv (l3 - l4) (σ 36 0 9)) + 1) * (σ 36 0 9) ∧ ((zdiv (l3 - l4) (σ 36 0 9)) + 1) * (σ 36 0 9) ≤ 2147483647) ∧ (-2147483648 ≤ l4 + (((zdiv (l3 - l4) (σ 36 0 9)) + 1) * (σ 36 0 9)) ∧ l4 + (((zdiv (l3 - l4) (σ 36 0 9)) + 1) * (σ 36 0 9)) ≤ 2147483647) ∧ ((2879 < l4 + (((zdiv (l3 - l4) (σ 36 0 9)) + 1) * (σ 36 0 9)) → Q (some (-9)) σ) ∧ (¬ 2879 < l4 + (((zdiv (l3 - l4) (σ 36 0 9)) + 1) * (σ 36 0 9)) → Q (some (l4 + (((zdiv (l3 - l4) (σ 36 0 9)) + 1) * (σ 36 0 9)))) σ))) ∧ (¬ l4 ≤ l3 → ((2879 < l4 → Q (some (-9)) σ) ∧ (¬ 2879 < l4 → Q (some l4) σ))))) : Runs 3 mX11_enters 76 [zR 34 0, zU, zU, zI l3, zI l4, zU] [] σ Q := by
  refine r_blk [qO (.iload_n 3), qO (.iload 4)] (pc' := 79) (L' := [zR 34 0, zU, zU, zI l3, zI l4, zU]) (S' := [zI l4, zI l3]) (σ' := σ) (Ps := []) (by decide +kernel) rfl trivial ?_
  refine r_icmp_ge (off := 8) (tgt := 87) (by decide +kernel) (by decide) (fun c => ?_) (fun c => ?_)
  · replace h := h.1 c
    refine r_blk [qO (.iload 4), qO (.iload_n 3), qO (.iload 4), qO .isub, qO (.aload_n 0), qF (.getfield 13) 11 1, qO (.bipush 9), qO .iaload, qO .idiv, qO (.iconst 1), qO .iadd, qO (.aload_n 0), qF (.getfield 13) 11 1, qO (.bipush 9), qO .iaload, qO .imul, qO .iadd, qO (.istore 5), qO (.iload 5), qO (.sipush 2879)] (pc' := 119) (L' := [zR 34 0, zU, zU, zI l3, zI l4, zI (l4 + (((zdiv (l3 - l4) (σ 36 0 9)) + 1) * (σ 36 0 9)))]) (S' := [zI 2879, zI (l4 + (((zdiv (l3 - l4) (σ 36 0 9)) + 1) * (σ 36 0 9)))]) (σ' := σ) (Ps := [-2147483648 ≤ l3 - l4 ∧ l3 - l4 ≤ 2147483647, 0 ≤ 9 ∧ 9 < 123, σ 36 0 9 ≠ 0, -2147483648 ≤ (zdiv (l3 - l4) (σ 36 0 9)) + 1 ∧ (zdiv (l3 - l4) (σ 36 0 9)) + 1 ≤ 2147483647, 0 ≤ 9 ∧ 9 < 123, -2147483648 ≤ ((zdiv (l3 - l4) (σ 36 0 9)) + 1) * (σ 36 0 9) ∧ ((zdiv (l3 - l4) (σ 36 0 9)) + 1) * (σ 36 0 9) ≤ 2147483647, -2147483648 ≤ l4 + (((zdiv (l3 - l4) (σ 36 0 9)) + 1) * (σ 36 0 9)) ∧ l4 + (((zdiv (l3 - l4) (σ 36 0 9)) + 1) * (σ 36 0 9)) ≤ 2147483647]) (by decide +kernel) rfl ⟨h.1, (by decide), h.2.1, h.2.2.1, (by decide), h.2.2.2.1, h.2.2.2.2.1, trivial⟩ ?_
    replace h := h.2.2.2.2.2
    refine r_icmp_gt (off := 8) (tgt := 127) (by decide +kernel) (by decide) (fun c => ?_) (fun c => ?_)
    · replace h := h.1 c
      refine r_blk [qO (.bipush (-9))] (pc' := 129) (L' := [zR 34 0, zU, zU, zI l3, zI l4, zI (l4 + (((zdiv (l3 - l4) (σ 36 0 9)) + 1) * (σ 36 0 9)))]) (S' := [zI (-9)]) (σ' := σ) (Ps := []) (by decide +kernel) rfl trivial ?_
      exact r_ret (by decide +kernel) rfl (fun _ => h)
    · replace h := h.2 c
      refine r_blk [qO (.iload 5), qO (.goto 5)] (pc' := 129) (L' := [zR 34 0, zU, zU, zI l3, zI l4, zI (l4 + (((zdiv (l3 - l4) (σ 36 0 9)) + 1) * (σ 36 0 9)))]) (S' := [zI (l4 + (((zdiv (l3 - l4) (σ 36 0 9)) + 1) * (σ 36 0 9)))]) (σ' := σ) (Ps := []) (by decide +kernel) rfl trivial ?_
      exact r_ret (by decide +kernel) rfl (fun _ => h)
  · replace h := h.2 c
    refine r_blk [qO (.iload 4), qO (.goto 28), qO (.istore 5), qO (.iload 5), qO (.sipush 2879)] (pc' := 119) (L' := [zR 34 0, zU, zU, zI l3, zI l4, zI l4]) (S' := [zI 2879, zI l4]) (σ' := σ) (Ps := []) (by decide +kernel) rfl trivial ?_
    refine r_icmp_gt (off := 8) (tgt := 127) (by decide +kernel) (by decide) (fun c => ?_) (fun c => ?_)
    · replace h := h.1 c
      refine r_blk [qO (.bipush (-9))] (pc' := 129) (L' := [zR 34 0, zU, zU, zI l3, zI l4, zI l4]) (S' := [zI (-9)]) (σ' := σ) (Ps := []) (by decide +kernel) rfl trivial ?_
      exact r_ret (by decide +kernel) rfl (fun _ => h)
    · replace h := h.2 c
      refine r_blk [qO (.iload 5), qO (.goto 5)] (pc' := 129) (L' := [zR 34 0, zU, zU, zI l3, zI l4, zI l4]) (S' := [zI l4]) (σ' := σ) (Ps := []) (by decide +kernel) rfl trivial ?_
      exact r_ret (by decide +kernel) rfl (fun _ => h)
theorem gX11_finds_0 (a0 : Int) (a1 : Int) (σ : Hp) {Q : Option Int → Hp → Prop} (h : Runs 4 mX11_finds 2 [zR 34 0, zI a0, zI a1, zI 0, zU, zU, zU, zU] [] σ Q) : Runs 4 mX11_finds 0 [zR 34 0, zI a0, zI a1, zU, zU, zU, zU, zU] [] σ Q := by
  refine r_blk [qO (.iconst 0), qO (.istore_n 3)] (pc' := 2) (L' := [zR 34 0, zI a0, zI a1, zI 0, zU, zU, zU, zU]) (S' := []) (σ' := σ) (Ps := []) (by decide +kernel) rfl trivial ?_
  exact Runs.fg (fgE (fgE (fgE (fgE (fgU (fgU (fgU (fgU fg0)))))))) h
theorem gX11_finds_2 (l1 : Int) (l2 : Int) (l3 : Int) (σ : Hp) {Q : Option Int → Hp → Prop} (h : ((10 ≤ l3 → (0 ≤ l1 ∧ l1 < 10) ∧ Runs 4 mX11_finds 36 [zR 34 0, zU, zU, zU, zU, zU, zU, zU] [] (zup σ 41 0 l1.toNat l2) Q) ∧ (¬ 10 ≤ l3 → (0 ≤ l3 ∧ l3 < 10) ∧ (0 ≤ l3 ∧ l3 < 10) ∧ (-2147483648 ≤ l3 + 1 ∧ l3 + 1 ≤ 2147483647) ∧ Runs 4 mX11_finds 2 [zR 34 0, zI l1, zI l2, zI (l3 + 1), zU, zU, zU, zU] [] (zup (zup σ 41 0 l3.toNat (-9)) 42 0 l3.toNat 0) Q))) : Runs 4 mX11_finds 2 [zR 34 0, zI l1, zI l2, zI l3, zU, zU, zU, zU] [] σ Q := by
  refine r_blk [qO (.iload_n 3), qO (.bipush 10)] (pc' := 5) (L' := [zR 34 0, zI l1, zI l2, zI l3, zU, zU, zU, zU]) (S' := [zI 10, zI l3]) (σ' := σ) (Ps := []) (by decide +kernel) rfl trivial ?_
  refine r_icmp_ge (off := 24) (tgt := 29) (by decide +kernel) (by decide) (fun c => ?_) (fun c => ?_)
  · replace h := h.1 c
    refine r_blk [qO (.aload_n 0), qF (.getfield 28) 11 9, qO (.iload_n 1), qO (.iload_n 2), qO .iastore] (pc' := 36) (L' := [zR 34 0, zI l1, zI l2, zI l3, zU, zU, zU, zU]) (S' := []) (σ' := (zup σ 41 0 l1.toNat l2)) (Ps := [0 ≤ l1 ∧ l1 < 10]) (by decide +kernel) rfl ⟨h.1, trivial⟩ ?_
    replace h := h.2
    exact Runs.fg (fgE (fgU (fgU (fgU (fgU (fgU (fgU (fgU fg0)))))))) h
  · replace h := h.2 c
    refine r_blk [qO (.aload_n 0), qF (.getfield 28) 11 9, qO (.iload_n 3), qO (.bipush (-9)), qO .iastore, qO (.aload_n 0), qF (.getfield 31) 11 10, qO (.iload_n 3), qO (.iconst 0), qO .bastore, qO (.iinc 3 1), qO (.goto (-24))] (pc' := 2) (L' := [zR 34 0, zI l1, zI l2, zI (l3 + 1), zU, zU, zU, zU]) (S' := []) (σ' := (zup (zup σ 41 0 l3.toNat (-9)) 42 0 l3.toNat 0)) (Ps := [0 ≤ l3 ∧ l3 < 10, 0 ≤ l3 ∧ l3 < 10, 0 = 0 ∨ 0 = 1, -2147483648 ≤ l3 + 1 ∧ l3 + 1 ≤ 2147483647]) (by decide +kernel) rfl ⟨h.1, h.2.1, (by decide), h.2.2.1, trivial⟩ ?_
    replace h := h.2.2.2
    exact Runs.fg (fgE (fgE (fgE (fgE (fgU (fgU (fgU (fgU fg0)))))))) h
theorem gX11_finds_36 (σ : Hp) {Q : Option Int → Hp → Prop} (h : Runs 4 mX11_finds 42 [zR 34 0, zU, zU, zI (-9), zI 0, zU, zU, zU] [] σ Q) : Runs 4 mX11_finds 36 [zR 34 0, zU, zU, zU, zU, zU, zU, zU] [] σ Q := by
  refine r_blk [qO (.bipush (-9)), qO (.istore_n 3), qO (.iconst 0), qO (.istore 4)] (pc' := 42) (L' := [zR 34 0, zU, zU, zI (-9), zI 0, zU, zU, zU]) (S' := []) (σ' := σ) (Ps := []) (by decide +kernel) rfl trivial ?_
  exact Runs.fg (fgE (fgU (fgU (fgE (fgE (fgU (fgU (fgU fg0)))))))) h
theorem gX11_finds_42 (l3 : Int) (l4 : Int) (σ : Hp) {Q : Option Int → Hp → Prop} (h : ((σ 36 0 0 ≤ l4 → ((0 ≤ l3 → (0 ≤ l3 ∧ l3 < 10) ∧ Runs 4 mX11_finds 117 [zR 34 0, zU, zU, zI l3, zI 0, zU, zU, zU] [] (zup σ 42 0 l3.toNat 1) Q) ∧ (¬ 0 ≤ l3 → Q none σ))) ∧ (¬ σ 36 0 0 ≤ l4 → (0 ≤ l4 ∧ l4 < 10) ∧ ((¬ σ 42 0 l4.toNat = 0 → (-2147483648 ≤ l4 + 1 ∧ l4 + 1 ≤ 2147483647) ∧ Runs 4 mX11_finds 42 [zR 34 0, zU, zU, zI l3, zI (l4 + 1), zU, zU, zU] [] σ Q) ∧ (σ 42 0 l4.toNat = 0 → (0 ≤ l4 ∧ l4 < 10) ∧ ((σ 41 0 l4.toNat < 0 → (-2147483648 ≤ l4 + 1 ∧ l4 + 1 ≤ 2147483647) ∧ Runs 4 mX11_finds 42 [zR 34 0, zU, zU, zI l3, zI (l4 + 1), zU, zU, zU] [] σ Q) ∧ (¬ σ 41 0 l4.toNat < 0 → ((l3 < 0 → (-2147483648 ≤ l4 + 1 ∧ l4 + 1 ≤ 2147483647) ∧ Runs 4 mX11_finds 42 [zR 34 0, zU, zU, zI l4, zI (l4 + 1), zU, zU, zU] [] σ Q) ∧ (¬ l3 < 0 → (0 ≤ l4 ∧ l4 < 10) ∧ (0 ≤ l3 ∧ l3 < 10) ∧ ((σ 41 0 l3.toNat ≤ σ 41 0 l4.toNat → (-2147483648 ≤ l4 + 1 ∧ l4 + 1 ≤ 2147483647) ∧ Runs 4 mX11_finds 42 [zR 34 0, zU, zU, zI l3, zI (l4 + 1), zU, zU, zU] [] σ Q) ∧ (¬ σ 41 0 l3.toNat ≤ σ 41 0 l4.toNat → (-2147483648 ≤ l4 + 1 ∧ l4 + 1 ≤ 2147483647) ∧ Runs 4 mX11_finds 42 [zR 34 0, zU, zU, zI l4, zI (l4 + 1), zU, zU, zU] [] σ Q))))))))))) : Runs 4 mX11_finds 42 [zR 34 0, zU, zU, zI l3, zI l4, zU, zU, zU] [] σ Q := by
  refine r_blk [qO (.iload 4), qO (.aload_n 0), qF (.getfield 13) 11 1, qO (.iconst 0), qO .iaload] (pc' := 50) (L' := [zR 34 0, zU, zU, zI l3, zI l4, zU, zU, zU]) (S' := [zI (σ 36 0 0), zI l4]) (σ' := σ) (Ps := [0 ≤ 0 ∧ 0 < 123]) (by decide +kernel) rfl ⟨(by decide), trivial⟩ ?_
  refine r_icmp_ge (off := 52) (tgt := 102) (by decide +kernel) (by decide) (fun c => ?_) (fun c => ?_)
  · replace h := h.1 c
    refine r_blk [qO (.iload_n 3)] (pc' := 103) (L' := [zR 34 0, zU, zU, zI l3, zI l4, zU, zU, zU]) (S' := [zI l3]) (σ' := σ) (Ps := []) (by decide +kernel) rfl trivial ?_
    refine r_if_ge (off := 4) (tgt := 107) (by decide +kernel) (by decide) (fun c => ?_) (fun c => ?_)
    · replace h := h.1 c
      refine r_blk [qO (.aload_n 0), qF (.getfield 31) 11 10, qO (.iload_n 3), qO (.iconst 1), qO .bastore, qO (.iconst 0), qO (.istore 4)] (pc' := 117) (L' := [zR 34 0, zU, zU, zI l3, zI 0, zU, zU, zU]) (S' := []) (σ' := (zup σ 42 0 l3.toNat 1)) (Ps := [0 ≤ l3 ∧ l3 < 10, 1 = 0 ∨ 1 = 1]) (by decide +kernel) rfl ⟨h.1, (by decide), trivial⟩ ?_
      replace h := h.2
      exact Runs.fg (fgE (fgU (fgU (fgE (fgE (fgU (fgU (fgU fg0)))))))) h
    · replace h := h.2 c
      exact r_retv (by decide +kernel) rfl h
  · replace h := h.2 c
    refine r_blk [qO (.aload_n 0), qF (.getfield 31) 11 10, qO (.iload 4), qO .baload] (pc' := 60) (L' := [zR 34 0, zU, zU, zI l3, zI l4, zU, zU, zU]) (S' := [zI (σ 42 0 l4.toNat)]) (σ' := σ) (Ps := [0 ≤ l4 ∧ l4 < 10]) (by decide +kernel) rfl ⟨h.1, trivial⟩ ?_
    replace h := h.2
    refine r_if_ne (off := 36) (tgt := 96) (by decide +kernel) (by decide) (fun c => ?_) (fun c => ?_)
    · replace h := h.1 c
      refine r_blk [qO (.iinc 4 1), qO (.goto (-57))] (pc' := 42) (L' := [zR 34 0, zU, zU, zI l3, zI (l4 + 1), zU, zU, zU]) (S' := []) (σ' := σ) (Ps := [-2147483648 ≤ l4 + 1 ∧ l4 + 1 ≤ 2147483647]) (by decide +kernel) rfl ⟨h.1, trivial⟩ ?_
      replace h := h.2
      exact Runs.fg (fgE (fgU (fgU (fgE (fgE (fgU (fgU (fgU fg0)))))))) h
    · replace h := h.2 c
      refine r_blk [qO (.aload_n 0), qF (.getfield 28) 11 9, qO (.iload 4), qO .iaload] (pc' := 70) (L' := [zR 34 0, zU, zU, zI l3, zI l4, zU, zU, zU]) (S' := [zI (σ 41 0 l4.toNat)]) (σ' := σ) (Ps := [0 ≤ l4 ∧ l4 < 10]) (by decide +kernel) rfl ⟨h.1, trivial⟩ ?_
      replace h := h.2
      refine r_if_lt (off := 26) (tgt := 96) (by decide +kernel) (by decide) (fun c => ?_) (fun c => ?_)
      · replace h := h.1 c
        refine r_blk [qO (.iinc 4 1), qO (.goto (-57))] (pc' := 42) (L' := [zR 34 0, zU, zU, zI l3, zI (l4 + 1), zU, zU, zU]) (S' := []) (σ' := σ) (Ps := [-2147483648 ≤ l4 + 1 ∧ l4 + 1 ≤ 2147483647]) (by decide +kernel) rfl ⟨h.1, trivial⟩ ?_
        replace h := h.2
        exact Runs.fg (fgE (fgU (fgU (fgE (fgE (fgU (fgU (fgU fg0)))))))) h
      · replace h := h.2 c
        refine r_blk [qO (.iload_n 3)] (pc' := 74) (L' := [zR 34 0, zU, zU, zI l3, zI l4, zU, zU, zU]) (S' := [zI l3]) (σ' := σ) (Ps := []) (by decide +kernel) rfl trivial ?_
        refine r_if_lt (off := 19) (tgt := 93) (by decide +kernel) (by decide) (fun c => ?_) (fun c => ?_)
        · replace h := h.1 c
          refine r_blk [qO (.iload 4), qO (.istore_n 3), qO (.iinc 4 1), qO (.goto (-57))] (pc' := 42) (L' := [zR 34 0, zU, zU, zI l4, zI (l4 + 1), zU, zU, zU]) (S' := []) (σ' := σ) (Ps := [-2147483648 ≤ l4 + 1 ∧ l4 + 1 ≤ 2147483647]) (by decide +kernel) rfl ⟨h.1, trivial⟩ ?_
          replace h := h.2
          exact Runs.fg (fgE (fgU (fgU (fgE (fgE (fgU (fgU (fgU fg0)))))))) h
        · replace h := h.2 c
          refine r_blk [qO (.aload_n 0), qF (.getfield 28) 11 9, qO (.iload 4), qO .iaload, qO (.aload_n 0), qF (.getfield 28) 11 9, qO (.iload_n 3), qO .iaload] (pc' := 90) (L' := [zR 34 0, zU, zU, zI l3, zI l4, zU, zU, zU]) (S' := [zI (σ 41 0 l3.toNat), zI (σ 41 0 l4.toNat)]) (σ' := σ) (Ps := [0 ≤ l4 ∧ l4 < 10, 0 ≤ l3 ∧ l3 < 10]) (by decide +kernel) rfl ⟨h.1, h.2.1, trivial⟩ ?_
          replace h := h.2.2
          refine r_icmp_ge (off := 6) (tgt := 96) (by decide +kernel) (by decide) (fun c => ?_) (fun c => ?_)
          · replace h := h.1 c
            refine r_blk [qO (.iinc 4 1), qO (.goto (-57))] (pc' := 42) (L' := [zR 34 0, zU, zU, zI l3, zI (l4 + 1), zU, zU, zU]) (S' := []) (σ' := σ) (Ps := [-2147483648 ≤ l4 + 1 ∧ l4 + 1 ≤ 2147483647]) (by decide +kernel) rfl ⟨h.1, trivial⟩ ?_
            replace h := h.2
            exact Runs.fg (fgE (fgU (fgU (fgE (fgE (fgU (fgU (fgU fg0)))))))) h
          · replace h := h.2 c
            refine r_blk [qO (.iload 4), qO (.istore_n 3), qO (.iinc 4 1), qO (.goto (-57))] (pc' := 42) (L' := [zR 34 0, zU, zU, zI l4, zI (l4 + 1), zU, zU, zU]) (S' := []) (σ' := σ) (Ps := [-2147483648 ≤ l4 + 1 ∧ l4 + 1 ≤ 2147483647]) (by decide +kernel) rfl ⟨h.1, trivial⟩ ?_
            replace h := h.2
            exact Runs.fg (fgE (fgU (fgU (fgE (fgE (fgU (fgU (fgU fg0)))))))) h
theorem gX11_finds_117 (l3 : Int) (l4 : Int) (σ : Hp) {Q : Option Int → Hp → Prop} (h : ((σ 36 0 1 ≤ l4 → Runs 4 mX11_finds 36 [zR 34 0, zU, zU, zU, zU, zU, zU, zU] [] σ Q) ∧ (¬ σ 36 0 1 ≤ l4 → Runs 4 mX11_finds 131 [zR 34 0, zU, zU, zI l3, zI l4, zI 0, zU, zU] [] σ Q))) : Runs 4 mX11_finds 117 [zR 34 0, zU, zU, zI l3, zI l4, zU, zU, zU] [] σ Q := by
  refine r_blk [qO (.iload 4), qO (.aload_n 0), qF (.getfield 13) 11 1, qO (.iconst 1), qO .iaload] (pc' := 125) (L' := [zR 34 0, zU, zU, zI l3, zI l4, zU, zU, zU]) (S' := [zI (σ 36 0 1), zI l4]) (σ' := σ) (Ps := [0 ≤ 1 ∧ 1 < 123]) (by decide +kernel) rfl ⟨(by decide), trivial⟩ ?_
  refine r_icmp_ge (off := 122) (tgt := 247) (by decide +kernel) (by decide) (fun c => ?_) (fun c => ?_)
  · replace h := h.1 c
    refine r_blk [qO (.goto (-211))] (pc' := 36) (L' := [zR 34 0, zU, zU, zI l3, zI l4, zU, zU, zU]) (S' := []) (σ' := σ) (Ps := []) (by decide +kernel) rfl trivial ?_
    exact Runs.fg (fgE (fgU (fgU (fgU (fgU (fgU (fgU (fgU fg0)))))))) h
  · replace h := h.2 c
    refine r_blk [qO (.iconst 0), qO (.istore 5)] (pc' := 131) (L' := [zR 34 0, zU, zU, zI l3, zI l4, zI 0, zU, zU]) (S' := []) (σ' := σ) (Ps := []) (by decide +kernel) rfl trivial ?_
    exact Runs.fg (fgE (fgU (fgU (fgE (fgE (fgE (fgU (fgU fg0)))))))) h
theorem gX11_finds_131 (l3 : Int) (l4 : Int) (l5 : Int) (σ : Hp) {Q : Option Int → Hp → Prop} (h : ((2 ≤ l5 → (-2147483648 ≤ l4 + 1 ∧ l4 + 1 ≤ 2147483647) ∧ Runs 4 mX11_finds 117 [zR 34 0, zU, zU, zI l3, zI (l4 + 1), zU, zU, zU] [] σ Q) ∧ (¬ 2 ≤ l5 → Runs 0 mX11_get 0 [zR 34 0, zI l4, zI l5] [] σ (rI (fun z2 σ1 => ((z2 = l3 → (0 ≤ l3 ∧ l3 < 10) ∧ Runs 3 mX11_enters 0 [zR 34 0, zI l4, zI l5, zI (σ1 41 0 l3.toNat), zU, zU] [] σ1 (rI (fun z4 σ3 => (-2147483648 ≤ 1 - l5 ∧ 1 - l5 ≤ 2147483647) ∧ Runs 0 mX11_get 0 [zR 34 0, zI l4, zI (1 - l5)] [] σ3 (rI (fun z6 σ5 => ((z4 < 0 → (-2147483648 ≤ l5 + 1 ∧ l5 + 1 ≤ 2147483647) ∧ Runs 4 mX11_finds 131 [zR 34 0, zU, zU, zI l3, zI l4, zI (l5 + 1), zU, zU] [] σ5 Q) ∧ (¬ z4 < 0 → (0 ≤ z6 ∧ z6 < 10) ∧ ((σ5 41 0 z6.toNat < 0 → Runs 0 mX11_get 0 [zR 34 0, zI l4, zI 2] [] σ5 (rI (fun z8 σ7 => (-2147483648 ≤ z4 + z8 ∧ z4 + z8 ≤ 2147483647) ∧ (0 ≤ z6 ∧ z6 < 10) ∧ (-2147483648 ≤ l5 + 1 ∧ l5 + 1 ≤ 2147483647) ∧ Runs 4 mX11_finds 131 [zR 34 0, zU, zU, zI l3, zI l4, zI (l5 + 1), zU, zU] [] (zup σ7 41 0 z6.toNat (z4 + z8)) Q))) ∧ (¬ σ5 41 0 z6.toNat < 0 → Runs 0 mX11_get 0 [zR 34 0, zI l4, zI 2] [] σ5 (rI (fun z10 σ9 => (-2147483648 ≤ z4 + z10 ∧ z4 + z10 ≤ 2147483647) ∧ (0 ≤ z6 ∧ z6 < 10) ∧ ((z4 + z10 < σ9 41 0 z6.toNat → Runs 0 mX11_get 0 [zR 34 0, zI l4, zI 2] [] σ9 (rI (fun z12 σ11 => (-2147483648 ≤ z4 + z12 ∧ z4 + z12 ≤ 2147483647) ∧ (0 ≤ z6 ∧ z6 < 10) ∧ (-2147483648 ≤ l5 + 1 ∧ l5 + 1 ≤ 2147483647) ∧ Runs 4 mX11_finds 131 [zR 34 0, zU, zU, zI l3, zI l4, zI (l5 + 1), zU, zU] [] (zup σ11 41 0 z6.toNat (z4 + z12)) Q))) ∧ (¬ z4 + z10 < σ9 41 0 z6.toNat → (-2147483648 ≤ l5 + 1 ∧ l5 + 1 ≤ 2147483647) ∧ Runs 4 mX11_finds 131 [zR 34 0, zU, zU, zI l3, zI l4, zI (l5 + 1), zU, zU] [] σ9 Q))))))))))))) ∧ (¬ z2 = l3 → (-2147483648 ≤ l5 + 1 ∧ l5 + 1 ≤ 2147483647) ∧ Runs 4 mX11_finds 131 [zR 34 0, zU, zU, zI l3, zI l4, zI (l5 + 1), zU, zU] [] σ1 Q))))))) : Runs 4 mX11_finds 131 [zR 34 0, zU, zU, zI l3, zI l4, zI l5, zU, zU] [] σ Q := by
  refine r_blk [qO (.iload 5), qO (.iconst 2)] (pc' := 134) (L' := [zR 34 0, zU, zU, zI l3, zI l4, zI l5, zU, zU]) (S' := [zI 2, zI l5]) (σ' := σ) (Ps := []) (by decide +kernel) rfl trivial ?_
  refine r_icmp_ge (off := 107) (tgt := 241) (by decide +kernel) (by decide) (fun c => ?_) (fun c => ?_)
  · replace h := h.1 c
    refine r_blk [qO (.iinc 4 1), qO (.goto (-127))] (pc' := 117) (L' := [zR 34 0, zU, zU, zI l3, zI (l4 + 1), zI l5, zU, zU]) (S' := []) (σ' := σ) (Ps := [-2147483648 ≤ l4 + 1 ∧ l4 + 1 ≤ 2147483647]) (by decide +kernel) rfl ⟨h.1, trivial⟩ ?_
    replace h := h.2
    exact Runs.fg (fgE (fgU (fgU (fgE (fgE (fgU (fgU (fgU fg0)))))))) h
  · replace h := h.2 c
    refine r_blk [qO (.aload_n 0), qO (.iload 4), qO (.iload 5)] (pc' := 142) (L' := [zR 34 0, zU, zU, zI l3, zI l4, zI l5, zU, zU]) (S' := [zI l5, zI l4, zR 34 0]) (σ' := σ) (Ps := []) (by decide +kernel) rfl trivial ?_
    refine r_callVI (As := [zI l4, zI l5]) (S := []) (Lc := [zR 34 0, zI l4, zI l5]) (d' := 0) (n := 2) (g := 34) (x := 0) (ci := 11) kX11_get vX11_get lkX11_106 (by decide +kernel) (by decide) rfl rfl (by decide) rfl rfl (Nat.le_of_ble_eq_true rfl) rfl rfl (Nat.le_of_ble_eq_true rfl) (h.monoI (fun z2 σ1 h => ?_))
    refine r_blk [qO (.iload_n 3)] (pc' := 146) (L' := [zR 34 0, zU, zU, zI l3, zI l4, zI l5, zU, zU]) (S' := [zI l3, zI z2]) (σ' := σ1) (Ps := []) (by decide +kernel) rfl trivial ?_
    refine r_icmp_eq (off := 6) (tgt := 152) (by decide +kernel) (by decide) (fun c => ?_) (fun c => ?_)
    · replace h := h.1 c
      refine r_blk [qO (.aload_n 0), qO (.iload 4), qO (.iload 5), qO (.aload_n 0), qF (.getfield 28) 11 9, qO (.iload_n 3), qO .iaload] (pc' := 163) (L' := [zR 34 0, zU, zU, zI l3, zI l4, zI l5, zU, zU]) (S' := [zI (σ1 41 0 l3.toNat), zI l5, zI l4, zR 34 0]) (σ' := σ1) (Ps := [0 ≤ l3 ∧ l3 < 10]) (by decide +kernel) rfl ⟨h.1, trivial⟩ ?_
      replace h := h.2
      refine r_callVI (As := [zI l4, zI l5, zI (σ1 41 0 l3.toNat)]) (S := []) (Lc := [zR 34 0, zI l4, zI l5, zI (σ1 41 0 l3.toNat), zU, zU]) (d' := 3) (n := 3) (g := 34) (x := 0) (ci := 11) kX11_enters vX11_enters lkX11_133 (by decide +kernel) (by decide) rfl rfl (by decide) rfl rfl (Nat.le_of_ble_eq_true rfl) rfl rfl (Nat.le_of_ble_eq_true rfl) (h.monoI (fun z4 σ3 h => ?_))
      refine r_blk [qO (.istore 6), qO (.aload_n 0), qO (.iload 4), qO (.iconst 1), qO (.iload 5), qO .isub] (pc' := 175) (L' := [zR 34 0, zU, zU, zI l3, zI l4, zI l5, zI z4, zU]) (S' := [zI (1 - l5), zI l4, zR 34 0]) (σ' := σ3) (Ps := [-2147483648 ≤ 1 - l5 ∧ 1 - l5 ≤ 2147483647]) (by decide +kernel) rfl ⟨h.1, trivial⟩ ?_
      replace h := h.2
      refine r_callVI (As := [zI l4, zI (1 - l5)]) (S := []) (Lc := [zR 34 0, zI l4, zI (1 - l5)]) (d' := 0) (n := 2) (g := 34) (x := 0) (ci := 11) kX11_get vX11_get lkX11_106 (by decide +kernel) (by decide) rfl rfl (by decide) rfl rfl (Nat.le_of_ble_eq_true rfl) rfl rfl (Nat.le_of_ble_eq_true rfl) (h.monoI (fun z6 σ5 h => ?_))
      refine r_blk [qO (.istore 7), qO (.iload 6)] (pc' := 182) (L' := [zR 34 0, zU, zU, zI l3, zI l4, zI l5, zI z4, zI z6]) (S' := [zI z4]) (σ' := σ5) (Ps := []) (by decide +kernel) rfl trivial ?_
      refine r_if_lt (off := 53) (tgt := 235) (by decide +kernel) (by decide) (fun c => ?_) (fun c => ?_)
      · replace h := h.1 c
        refine r_blk [qO (.iinc 5 1), qO (.goto (-107))] (pc' := 131) (L' := [zR 34 0, zU, zU, zI l3, zI l4, zI (l5 + 1), zI z4, zI z6]) (S' := []) (σ' := σ5) (Ps := [-2147483648 ≤ l5 + 1 ∧ l5 + 1 ≤ 2147483647]) (by decide +kernel) rfl ⟨h.1, trivial⟩ ?_
        replace h := h.2
        exact Runs.fg (fgE (fgU (fgU (fgE (fgE (fgE (fgU (fgU fg0)))))))) h
      · replace h := h.2 c
        refine r_blk [qO (.aload_n 0), qF (.getfield 28) 11 9, qO (.iload 7), qO .iaload] (pc' := 192) (L' := [zR 34 0, zU, zU, zI l3, zI l4, zI l5, zI z4, zI z6]) (S' := [zI (σ5 41 0 z6.toNat)]) (σ' := σ5) (Ps := [0 ≤ z6 ∧ z6 < 10]) (by decide +kernel) rfl ⟨h.1, trivial⟩ ?_
        replace h := h.2
        refine r_if_lt (off := 26) (tgt := 218) (by decide +kernel) (by decide) (fun c => ?_) (fun c => ?_)
        · replace h := h.1 c
          refine r_blk [qO (.aload_n 0), qF (.getfield 28) 11 9, qO (.iload 7), qO (.iload 6), qO (.aload_n 0), qO (.iload 4), qO (.iconst 2)] (pc' := 230) (L' := [zR 34 0, zU, zU, zI l3, zI l4, zI l5, zI z4, zI z6]) (S' := [zI 2, zI l4, zR 34 0, zI z4, zI z6, zR 41 0]) (σ' := σ5) (Ps := []) (by decide +kernel) rfl trivial ?_
          refine r_callVI (As := [zI l4, zI 2]) (S := [zI z4, zI z6, zR 41 0]) (Lc := [zR 34 0, zI l4, zI 2]) (d' := 0) (n := 2) (g := 34) (x := 0) (ci := 11) kX11_get vX11_get lkX11_106 (by decide +kernel) (by decide) rfl rfl (by decide) rfl rfl (Nat.le_of_ble_eq_true rfl) rfl rfl (Nat.le_of_ble_eq_true rfl) (h.monoI (fun z8 σ7 h => ?_))
          refine r_blk [qO .iadd, qO .iastore, qO (.iinc 5 1), qO (.goto (-107))] (pc' := 131) (L' := [zR 34 0, zU, zU, zI l3, zI l4, zI (l5 + 1), zI z4, zI z6]) (S' := []) (σ' := (zup σ7 41 0 z6.toNat (z4 + z8))) (Ps := [-2147483648 ≤ z4 + z8 ∧ z4 + z8 ≤ 2147483647, 0 ≤ z6 ∧ z6 < 10, -2147483648 ≤ l5 + 1 ∧ l5 + 1 ≤ 2147483647]) (by decide +kernel) rfl ⟨h.1, h.2.1, h.2.2.1, trivial⟩ ?_
          replace h := h.2.2.2
          exact Runs.fg (fgE (fgU (fgU (fgE (fgE (fgE (fgU (fgU fg0)))))))) h
        · replace h := h.2 c
          refine r_blk [qO (.iload 6), qO (.aload_n 0), qO (.iload 4), qO (.iconst 2)] (pc' := 201) (L' := [zR 34 0, zU, zU, zI l3, zI l4, zI l5, zI z4, zI z6]) (S' := [zI 2, zI l4, zR 34 0, zI z4]) (σ' := σ5) (Ps := []) (by decide +kernel) rfl trivial ?_
          refine r_callVI (As := [zI l4, zI 2]) (S := [zI z4]) (Lc := [zR 34 0, zI l4, zI 2]) (d' := 0) (n := 2) (g := 34) (x := 0) (ci := 11) kX11_get vX11_get lkX11_106 (by decide +kernel) (by decide) rfl rfl (by decide) rfl rfl (Nat.le_of_ble_eq_true rfl) rfl rfl (Nat.le_of_ble_eq_true rfl) (h.monoI (fun z10 σ9 h => ?_))
          refine r_blk [qO .iadd, qO (.aload_n 0), qF (.getfield 28) 11 9, qO (.iload 7), qO .iaload] (pc' := 212) (L' := [zR 34 0, zU, zU, zI l3, zI l4, zI l5, zI z4, zI z6]) (S' := [zI (σ9 41 0 z6.toNat), zI (z4 + z10)]) (σ' := σ9) (Ps := [-2147483648 ≤ z4 + z10 ∧ z4 + z10 ≤ 2147483647, 0 ≤ z6 ∧ z6 < 10]) (by decide +kernel) rfl ⟨h.1, h.2.1, trivial⟩ ?_
          replace h := h.2.2
          refine r_icmp_lt (off := 6) (tgt := 218) (by decide +kernel) (by decide) (fun c => ?_) (fun c => ?_)
          · replace h := h.1 c
            refine r_blk [qO (.aload_n 0), qF (.getfield 28) 11 9, qO (.iload 7), qO (.iload 6), qO (.aload_n 0), qO (.iload 4), qO (.iconst 2)] (pc' := 230) (L' := [zR 34 0, zU, zU, zI l3, zI l4, zI l5, zI z4, zI z6]) (S' := [zI 2, zI l4, zR 34 0, zI z4, zI z6, zR 41 0]) (σ' := σ9) (Ps := []) (by decide +kernel) rfl trivial ?_
            refine r_callVI (As := [zI l4, zI 2]) (S := [zI z4, zI z6, zR 41 0]) (Lc := [zR 34 0, zI l4, zI 2]) (d' := 0) (n := 2) (g := 34) (x := 0) (ci := 11) kX11_get vX11_get lkX11_106 (by decide +kernel) (by decide) rfl rfl (by decide) rfl rfl (Nat.le_of_ble_eq_true rfl) rfl rfl (Nat.le_of_ble_eq_true rfl) (h.monoI (fun z12 σ11 h => ?_))
            refine r_blk [qO .iadd, qO .iastore, qO (.iinc 5 1), qO (.goto (-107))] (pc' := 131) (L' := [zR 34 0, zU, zU, zI l3, zI l4, zI (l5 + 1), zI z4, zI z6]) (S' := []) (σ' := (zup σ11 41 0 z6.toNat (z4 + z12))) (Ps := [-2147483648 ≤ z4 + z12 ∧ z4 + z12 ≤ 2147483647, 0 ≤ z6 ∧ z6 < 10, -2147483648 ≤ l5 + 1 ∧ l5 + 1 ≤ 2147483647]) (by decide +kernel) rfl ⟨h.1, h.2.1, h.2.2.1, trivial⟩ ?_
            replace h := h.2.2.2
            exact Runs.fg (fgE (fgU (fgU (fgE (fgE (fgE (fgU (fgU fg0)))))))) h
          · replace h := h.2 c
            refine r_blk [qO (.goto 20), qO (.iinc 5 1), qO (.goto (-107))] (pc' := 131) (L' := [zR 34 0, zU, zU, zI l3, zI l4, zI (l5 + 1), zI z4, zI z6]) (S' := []) (σ' := σ9) (Ps := [-2147483648 ≤ l5 + 1 ∧ l5 + 1 ≤ 2147483647]) (by decide +kernel) rfl ⟨h.1, trivial⟩ ?_
            replace h := h.2
            exact Runs.fg (fgE (fgU (fgU (fgE (fgE (fgE (fgU (fgU fg0)))))))) h
    · replace h := h.2 c
      refine r_blk [qO (.goto 86), qO (.iinc 5 1), qO (.goto (-107))] (pc' := 131) (L' := [zR 34 0, zU, zU, zI l3, zI l4, zI (l5 + 1), zU, zU]) (S' := []) (σ' := σ1) (Ps := [-2147483648 ≤ l5 + 1 ∧ l5 + 1 ≤ 2147483647]) (by decide +kernel) rfl ⟨h.1, trivial⟩ ?_
      replace h := h.2
      exact Runs.fg (fgE (fgU (fgU (fgE (fgE (fgE (fgU (fgU fg0)))))))) h
theorem gX11_wrongWay_0 (a0 : Int) (a1 : Int) (a2 : Int) (σ : Hp) {Q : Option Int → Hp → Prop} (h : Runs 1 mX11_isCorner 0 [zR 34 0, zI a0] [] σ (rI (fun z2 σ1 => ((z2 = 0 → Q (some (-1)) σ1) ∧ (¬ z2 = 0 → Runs 1 mX11_isCorner 0 [zR 34 0, zI a1] [] σ1 (rI (fun z4 σ3 => ((z4 = 0 → Q (some (-1)) σ3) ∧ (¬ z4 = 0 → Runs 0 mX11_within 0 [zI a2, zI 0, zI 2879] [] σ3 (rI (fun z6 σ5 => Q (some z6) σ5))))))))))) : Runs 2 mX11_wrongWay 0 [zR 34 0, zI a0, zI a1, zI a2] [] σ Q := by
  refine r_blk [qO (.aload_n 0), qO (.iload_n 1)] (pc' := 2) (L' := [zR 34 0, zI a0, zI a1, zI a2]) (S' := [zI a0, zR 34 0]) (σ' := σ) (Ps := []) (by decide +kernel) rfl trivial ?_
  refine r_callVI (As := [zI a0]) (S := []) (Lc := [zR 34 0, zI a0]) (d' := 1) (n := 1) (g := 34) (x := 0) (ci := 11) kX11_isCorner vX11_isCorner lkX11_136 (by decide +kernel) (by decide) rfl rfl (by decide) rfl rfl (Nat.le_of_ble_eq_true rfl) rfl rfl (Nat.le_of_ble_eq_true rfl) (h.monoI (fun z2 σ1 h => ?_))
  refine r_if_eq (off := 22) (tgt := 27) (by decide +kernel) (by decide) (fun c => ?_) (fun c => ?_)
  · replace h := h.1 c
    refine r_blk [qO (.iconst (-1))] (pc' := 28) (L' := [zR 34 0, zI a0, zI a1, zI a2]) (S' := [zI (-1)]) (σ' := σ1) (Ps := []) (by decide +kernel) rfl trivial ?_
    exact r_ret (by decide +kernel) rfl (fun _ => h)
  · replace h := h.2 c
    refine r_blk [qO (.aload_n 0), qO (.iload_n 2)] (pc' := 10) (L' := [zR 34 0, zI a0, zI a1, zI a2]) (S' := [zI a1, zR 34 0]) (σ' := σ1) (Ps := []) (by decide +kernel) rfl trivial ?_
    refine r_callVI (As := [zI a1]) (S := []) (Lc := [zR 34 0, zI a1]) (d' := 1) (n := 1) (g := 34) (x := 0) (ci := 11) kX11_isCorner vX11_isCorner lkX11_136 (by decide +kernel) (by decide) rfl rfl (by decide) rfl rfl (Nat.le_of_ble_eq_true rfl) rfl rfl (Nat.le_of_ble_eq_true rfl) (h.monoI (fun z4 σ3 h => ?_))
    refine r_if_eq (off := 14) (tgt := 27) (by decide +kernel) (by decide) (fun c => ?_) (fun c => ?_)
    · replace h := h.1 c
      refine r_blk [qO (.iconst (-1))] (pc' := 28) (L' := [zR 34 0, zI a0, zI a1, zI a2]) (S' := [zI (-1)]) (σ' := σ3) (Ps := []) (by decide +kernel) rfl trivial ?_
      exact r_ret (by decide +kernel) rfl (fun _ => h)
    · replace h := h.2 c
      refine r_blk [qO (.iload_n 3), qO (.iconst 0), qO (.sipush 2879)] (pc' := 21) (L' := [zR 34 0, zI a0, zI a1, zI a2]) (S' := [zI 2879, zI 0, zI a2]) (σ' := σ3) (Ps := []) (by decide +kernel) rfl trivial ?_
      refine r_callSI (As := [zI a2, zI 0, zI 2879]) (S := []) (Lc := [zI a2, zI 0, zI 2879]) (d' := 0) (n := 3) kX11_within vX11_within lkX11_119 (by decide +kernel) (by decide) rfl rfl (Nat.le_of_ble_eq_true rfl) rfl rfl (Nat.le_of_ble_eq_true rfl) (h.monoI (fun z6 σ5 h => ?_))
      refine r_blk [qO (.goto 4)] (pc' := 28) (L' := [zR 34 0, zI a0, zI a1, zI a2]) (S' := [zI z6]) (σ' := σ5) (Ps := []) (by decide +kernel) rfl trivial ?_
      exact r_ret (by decide +kernel) rfl (fun _ => h)
theorem gX11_soonest_0 (a0 : Int) (a1 : Int) (a2 : Int) (σ : Hp) {Q : Option Int → Hp → Prop} (h : Runs 2 mX11_wrongWay 0 [zR 34 0, zI a0, zI a1, zI a2] [] σ (rI (fun z2 σ1 => ((z2 = 0 → Runs 4 mX11_finds 0 [zR 34 0, zI a0, zI a2, zU, zU, zU, zU, zU] [] σ1 (rV (fun σ3 => (0 ≤ a1 ∧ a1 < 10) ∧ Q (some (σ3 41 0 a1.toNat)) σ3))) ∧ (¬ z2 = 0 → Runs 0 mX11_refuse 0 [zR 34 0, zI z2] [] σ1 (rI (fun z5 σ4 => Q (some z5) σ4))))))) : Runs 5 mX11_soonest 0 [zR 34 0, zI a0, zI a1, zI a2, zU] [] σ Q := by
  refine r_blk [qO (.aload_n 0), qO (.iload_n 1), qO (.iload_n 2), qO (.iload_n 3)] (pc' := 4) (L' := [zR 34 0, zI a0, zI a1, zI a2, zU]) (S' := [zI a2, zI a1, zI a0, zR 34 0]) (σ' := σ) (Ps := []) (by decide +kernel) rfl trivial ?_
  refine r_callVI (As := [zI a0, zI a1, zI a2]) (S := []) (Lc := [zR 34 0, zI a0, zI a1, zI a2]) (d' := 2) (n := 3) (g := 34) (x := 0) (ci := 11) kX11_wrongWay vX11_wrongWay lkX11_139 (by decide +kernel) (by decide) rfl rfl (by decide) rfl rfl (Nat.le_of_ble_eq_true rfl) rfl rfl (Nat.le_of_ble_eq_true rfl) (h.monoI (fun z2 σ1 h => ?_))
  refine r_blk [qO (.istore 4), qO (.iload 4)] (pc' := 11) (L' := [zR 34 0, zI a0, zI a1, zI a2, zI z2]) (S' := [zI z2]) (σ' := σ1) (Ps := []) (by decide +kernel) rfl trivial ?_
  refine r_if_eq (off := 10) (tgt := 21) (by decide +kernel) (by decide) (fun c => ?_) (fun c => ?_)
  · replace h := h.1 c
    refine r_blk [qO (.aload_n 0), qO (.iload_n 1), qO (.iload_n 3)] (pc' := 24) (L' := [zR 34 0, zI a0, zI a1, zI a2, zI z2]) (S' := [zI a2, zI a0, zR 34 0]) (σ' := σ1) (Ps := []) (by decide +kernel) rfl trivial ?_
    refine r_callVV (As := [zI a0, zI a2]) (S := []) (Lc := [zR 34 0, zI a0, zI a2, zU, zU, zU, zU, zU]) (d' := 4) (n := 2) (g := 34) (x := 0) (ci := 11) kX11_finds vX11_finds lkX11_142 (by decide +kernel) (by decide) rfl rfl (by decide) rfl rfl (Nat.le_of_ble_eq_true rfl) rfl rfl (Nat.le_of_ble_eq_true rfl) (h.monoV (fun σ3 h => ?_))
    refine r_blk [qO (.aload_n 0), qF (.getfield 28) 11 9, qO (.iload_n 2), qO .iaload] (pc' := 33) (L' := [zR 34 0, zI a0, zI a1, zI a2, zI z2]) (S' := [zI (σ3 41 0 a1.toNat)]) (σ' := σ3) (Ps := [0 ≤ a1 ∧ a1 < 10]) (by decide +kernel) rfl ⟨h.1, trivial⟩ ?_
    replace h := h.2
    exact r_ret (by decide +kernel) rfl (fun _ => h)
  · replace h := h.2 c
    refine r_blk [qO (.aload_n 0), qO (.iload 4)] (pc' := 17) (L' := [zR 34 0, zI a0, zI a1, zI a2, zI z2]) (S' := [zI z2, zR 34 0]) (σ' := σ1) (Ps := []) (by decide +kernel) rfl trivial ?_
    refine r_callVI (As := [zI z2]) (S := []) (Lc := [zR 34 0, zI z2]) (d' := 0) (n := 1) (g := 34) (x := 0) (ci := 11) kX11_refuse vX11_refuse lkX11_66 (by decide +kernel) (by decide) rfl rfl (by decide) rfl rfl (Nat.le_of_ble_eq_true rfl) rfl rfl (Nat.le_of_ble_eq_true rfl) (h.monoI (fun z5 σ4 h => ?_))
    exact r_ret (by decide +kernel) rfl (fun _ => h)
theorem gX11_findsRoad_0 (a0 : Int) (a1 : Int) (a2 : Int) (σ : Hp) {Q : Option Int → Hp → Prop} (h : Runs 4 mX11_finds 0 [zR 34 0, zI a0, zI a2, zU, zU, zU, zU, zU] [] σ (rV (fun σ1 => (0 ≤ a1 ∧ a1 < 10) ∧ ((0 ≤ σ1 41 0 a1.toNat → Runs 5 mX11_findsRoad 30 [zR 34 0, zI a0, zU, zU, zI a1, zU, zU, zU, zU, zU] [] (zup (zup σ1 34 0 14 0) 34 0 15 0) Q) ∧ (¬ 0 ≤ σ1 41 0 a1.toNat → Q (some 0) (zup (zup σ1 34 0 14 0) 34 0 15 0)))))) : Runs 5 mX11_findsRoad 0 [zR 34 0, zI a0, zI a1, zI a2, zU, zU, zU, zU, zU, zU] [] σ Q := by
  refine r_blk [qO (.aload_n 0), qO (.iload_n 1), qO (.iload_n 3)] (pc' := 3) (L' := [zR 34 0, zI a0, zI a1, zI a2, zU, zU, zU, zU, zU, zU]) (S' := [zI a2, zI a0, zR 34 0]) (σ' := σ) (Ps := []) (by decide +kernel) rfl trivial ?_
  refine r_callVV (As := [zI a0, zI a2]) (S := []) (Lc := [zR 34 0, zI a0, zI a2, zU, zU, zU, zU, zU]) (d' := 4) (n := 2) (g := 34) (x := 0) (ci := 11) kX11_finds vX11_finds lkX11_142 (by decide +kernel) (by decide) rfl rfl (by decide) rfl rfl (Nat.le_of_ble_eq_true rfl) rfl rfl (Nat.le_of_ble_eq_true rfl) (h.monoV (fun σ1 h => ?_))
  refine r_blk [qO (.aload_n 0), qO (.iconst 0), qF (.putfield 146) 11 14, qO (.aload_n 0), qO (.iconst 0), qF (.putfield 149) 11 15, qO (.aload_n 0), qF (.getfield 28) 11 9, qO (.iload_n 2), qO .iaload] (pc' := 22) (L' := [zR 34 0, zI a0, zI a1, zI a2, zU, zU, zU, zU, zU, zU]) (S' := [zI (σ1 41 0 a1.toNat)]) (σ' := (zup (zup σ1 34 0 14 0) 34 0 15 0)) (Ps := [0 ≤ a1 ∧ a1 < 10]) (by decide +kernel) rfl ⟨h.1, trivial⟩ ?_
  replace h := h.2
  refine r_if_ge (off := 5) (tgt := 27) (by decide +kernel) (by decide) (fun c => ?_) (fun c => ?_)
  · replace h := h.1 c
    refine r_blk [qO (.iload_n 2), qO (.istore 4)] (pc' := 30) (L' := [zR 34 0, zI a0, zI a1, zI a2, zI a1, zU, zU, zU, zU, zU]) (S' := []) (σ' := (zup (zup σ1 34 0 14 0) 34 0 15 0)) (Ps := []) (by decide +kernel) rfl trivial ?_
    exact Runs.fg (fgE (fgE (fgU (fgU (fgE (fgU (fgU (fgU (fgU (fgU fg0)))))))))) h
  · replace h := h.2 c
    refine r_blk [qO (.iconst 0)] (pc' := 26) (L' := [zR 34 0, zI a0, zI a1, zI a2, zU, zU, zU, zU, zU, zU]) (S' := [zI 0]) (σ' := (zup (zup σ1 34 0 14 0) 34 0 15 0)) (Ps := []) (by decide +kernel) rfl trivial ?_
    exact r_retz (by decide +kernel) rfl (by decide) h
theorem gX11_findsRoad_30 (l1 : Int) (l4 : Int) (σ : Hp) {Q : Option Int → Hp → Prop} (h : ((l4 = l1 → (0 ≤ σ 34 0 14 ∧ σ 34 0 14 < 11) ∧ Q (some 1) (zup σ 43 0 ((σ 34 0 14).toNat) l1)) ∧ (¬ l4 = l1 → (0 ≤ σ 34 0 14 ∧ σ 34 0 14 < 11) ∧ (-2147483648 ≤ (σ 36 0 1) - 1 ∧ (σ 36 0 1) - 1 ≤ 2147483647) ∧ Runs 5 mX11_findsRoad 61 [zR 34 0, zI l1, zU, zU, zI l4, zI (-9), zI ((σ 36 0 1) - 1), zU, zU, zU] [] (zup σ 43 0 ((σ 34 0 14).toNat) l4) Q))) : Runs 5 mX11_findsRoad 30 [zR 34 0, zI l1, zU, zU, zI l4, zU, zU, zU, zU, zU] [] σ Q := by
  refine r_blk [qO (.iload 4), qO (.iload_n 1)] (pc' := 33) (L' := [zR 34 0, zI l1, zU, zU, zI l4, zU, zU, zU, zU, zU]) (S' := [zI l1, zI l4]) (σ' := σ) (Ps := []) (by decide +kernel) rfl trivial ?_
  refine r_icmp_eq (off := 237) (tgt := 270) (by decide +kernel) (by decide) (fun c => ?_) (fun c => ?_)
  · replace h := h.1 c
    refine r_blk [qO (.aload_n 0), qF (.getfield 35) 11 11, qO (.aload_n 0), qF (.getfield 146) 11 14, qO (.iload_n 1), qO .iastore, qO (.iconst 1)] (pc' := 281) (L' := [zR 34 0, zI l1, zU, zU, zI l4, zU, zU, zU, zU, zU]) (S' := [zI 1]) (σ' := (zup σ 43 0 ((σ 34 0 14).toNat) l1)) (Ps := [0 ≤ σ 34 0 14 ∧ σ 34 0 14 < 11]) (by decide +kernel) rfl ⟨h.1, trivial⟩ ?_
    replace h := h.2
    exact r_retz (by decide +kernel) rfl (by decide) h
  · replace h := h.2 c
    refine r_blk [qO (.aload_n 0), qF (.getfield 35) 11 11, qO (.aload_n 0), qF (.getfield 146) 11 14, qO (.iload 4), qO .iastore, qO (.bipush (-9)), qO (.istore 5), qO (.aload_n 0), qF (.getfield 13) 11 1, qO (.iconst 1), qO .iaload, qO (.iconst 1), qO .isub, qO (.istore 6)] (pc' := 61) (L' := [zR 34 0, zI l1, zU, zU, zI l4, zI (-9), zI ((σ 36 0 1) - 1), zU, zU, zU]) (S' := []) (σ' := (zup σ 43 0 ((σ 34 0 14).toNat) l4)) (Ps := [0 ≤ σ 34 0 14 ∧ σ 34 0 14 < 11, 0 ≤ 1 ∧ 1 < 123, -2147483648 ≤ (σ 36 0 1) - 1 ∧ (σ 36 0 1) - 1 ≤ 2147483647]) (by decide +kernel) rfl ⟨h.1, (by decide), h.2.1, trivial⟩ ?_
    replace h := h.2.2
    exact Runs.fg (fgE (fgE (fgU (fgU (fgE (fgE (fgE (fgU (fgU (fgU fg0)))))))))) h
theorem gX11_findsRoad_61 (l1 : Int) (l4 : Int) (l5 : Int) (l6 : Int) (σ : Hp) {Q : Option Int → Hp → Prop} (h : ((l6 < 0 → (0 ≤ σ 34 0 14 ∧ σ 34 0 14 < 10) ∧ Runs 0 mX11_get 0 [zR 34 0, zI l5, zI 0] [] (zup σ 44 0 ((σ 34 0 14).toNat) l5) (rI (fun z2 σ1 => ((¬ z2 = l4 → Runs 0 mX11_get 0 [zR 34 0, zI l5, zI 0] [] σ1 (rI (fun z4 σ3 => (0 ≤ σ3 34 0 14 ∧ σ3 34 0 14 < 10) ∧ (0 ≤ z4 ∧ z4 < 10) ∧ (-2147483648 ≤ (σ3 45 0 ((σ3 34 0 14).toNat)) - (σ3 41 0 z4.toNat) ∧ (σ3 45 0 ((σ3 34 0 14).toNat)) - (σ3 41 0 z4.toNat) ≤ 2147483647) ∧ (-2147483648 ≤ (σ3 34 0 15) + ((σ3 45 0 ((σ3 34 0 14).toNat)) - (σ3 41 0 z4.toNat)) ∧ (σ3 34 0 15) + ((σ3 45 0 ((σ3 34 0 14).toNat)) - (σ3 41 0 z4.toNat)) ≤ 2147483647) ∧ (-2147483648 ≤ (σ3 34 0 14) + 1 ∧ (σ3 34 0 14) + 1 ≤ 2147483647) ∧ ∀ σ5 : Hp, σ5 = (zup (zup σ3 34 0 15 ((σ3 34 0 15) + ((σ3 45 0 ((σ3 34 0 14).toNat)) - (σ3 41 0 z4.toNat)))) 34 0 14 ((σ3 34 0 14) + 1)) → Runs 5 mX11_findsRoad 30 [zR 34 0, zI l1, zU, zU, zI z4, zU, zU, zU, zU, zU] [] σ5 Q))) ∧ (z2 = l4 → Runs 0 mX11_get 0 [zR 34 0, zI l5, zI 1] [] σ1 (rI (fun z7 σ6 => (0 ≤ σ6 34 0 14 ∧ σ6 34 0 14 < 10) ∧ (0 ≤ z7 ∧ z7 < 10) ∧ (-2147483648 ≤ (σ6 45 0 ((σ6 34 0 14).toNat)) - (σ6 41 0 z7.toNat) ∧ (σ6 45 0 ((σ6 34 0 14).toNat)) - (σ6 41 0 z7.toNat) ≤ 2147483647) ∧ (-2147483648 ≤ (σ6 34 0 15) + ((σ6 45 0 ((σ6 34 0 14).toNat)) - (σ6 41 0 z7.toNat)) ∧ (σ6 34 0 15) + ((σ6 45 0 ((σ6 34 0 14).toNat)) - (σ6 41 0 z7.toNat)) ≤ 2147483647) ∧ (-2147483648 ≤ (σ6 34 0 14) + 1 ∧ (σ6 34 0 14) + 1 ≤ 2147483647) ∧ ∀ σ8 : Hp, σ8 = (zup (zup σ6 34 0 15 ((σ6 34 0 15) + ((σ6 45 0 ((σ6 34 0 14).toNat)) - (σ6 41 0 z7.toNat)))) 34 0 14 ((σ6 34 0 14) + 1)) → Runs 5 mX11_findsRoad 30 [zR 34 0, zI l1, zU, zU, zI z7, zU, zU, zU, zU, zU] [] σ8 Q))))))) ∧ (¬ l6 < 0 → Runs 5 mX11_findsRoad 69 [zR 34 0, zI l1, zU, zU, zI l4, zI l5, zI l6, zI 0, zU, zU] [] σ Q))) : Runs 5 mX11_findsRoad 61 [zR 34 0, zI l1, zU, zU, zI l4, zI l5, zI l6, zU, zU, zU] [] σ Q := by
  refine r_blk [qO (.iload 6)] (pc' := 63) (L' := [zR 34 0, zI l1, zU, zU, zI l4, zI l5, zI l6, zU, zU, zU]) (S' := [zI l6]) (σ' := σ) (Ps := []) (by decide +kernel) rfl trivial ?_
  refine r_if_lt (off := 122) (tgt := 185) (by decide +kernel) (by decide) (fun c => ?_) (fun c => ?_)
  · replace h := h.1 c
    refine r_blk [qO (.aload_n 0), qF (.getfield 38) 11 12, qO (.aload_n 0), qF (.getfield 146) 11 14, qO (.iload 5), qO .iastore, qO (.aload_n 0), qO (.iload 5), qO (.iconst 0)] (pc' := 200) (L' := [zR 34 0, zI l1, zU, zU, zI l4, zI l5, zI l6, zU, zU, zU]) (S' := [zI 0, zI l5, zR 34 0]) (σ' := (zup σ 44 0 ((σ 34 0 14).toNat) l5)) (Ps := [0 ≤ σ 34 0 14 ∧ σ 34 0 14 < 10]) (by decide +kernel) rfl ⟨h.1, trivial⟩ ?_
    replace h := h.2
    refine r_callVI (As := [zI l5, zI 0]) (S := []) (Lc := [zR 34 0, zI l5, zI 0]) (d' := 0) (n := 2) (g := 34) (x := 0) (ci := 11) kX11_get vX11_get lkX11_106 (by decide +kernel) (by decide) rfl rfl (by decide) rfl rfl (Nat.le_of_ble_eq_true rfl) rfl rfl (Nat.le_of_ble_eq_true rfl) (h.monoI (fun z2 σ1 h => ?_))
    refine r_blk [qO (.iload 4)] (pc' := 205) (L' := [zR 34 0, zI l1, zU, zU, zI l4, zI l5, zI l6, zU, zU, zU]) (S' := [zI l4, zI z2]) (σ' := σ1) (Ps := []) (by decide +kernel) rfl trivial ?_
    refine r_icmp_ne (off := 13) (tgt := 218) (by decide +kernel) (by decide) (fun c => ?_) (fun c => ?_)
    · replace h := h.1 c
      refine r_blk [qO (.aload_n 0), qO (.iload 5), qO (.iconst 0)] (pc' := 222) (L' := [zR 34 0, zI l1, zU, zU, zI l4, zI l5, zI l6, zU, zU, zU]) (S' := [zI 0, zI l5, zR 34 0]) (σ' := σ1) (Ps := []) (by decide +kernel) rfl trivial ?_
      refine r_callVI (As := [zI l5, zI 0]) (S := []) (Lc := [zR 34 0, zI l5, zI 0]) (d' := 0) (n := 2) (g := 34) (x := 0) (ci := 11) kX11_get vX11_get lkX11_106 (by decide +kernel) (by decide) rfl rfl (by decide) rfl rfl (Nat.le_of_ble_eq_true rfl) rfl rfl (Nat.le_of_ble_eq_true rfl) (h.monoI (fun z4 σ3 h => ?_))
      refine r_blk [qO (.istore 6), qO (.aload_n 0), qO .dup, qF (.getfield 149) 11 15, qO (.aload_n 0), qF (.getfield 41) 11 13, qO (.aload_n 0), qF (.getfield 146) 11 14, qO .iaload, qO (.aload_n 0), qF (.getfield 28) 11 9, qO (.iload 6), qO .iaload, qO .isub, qO .iadd, qF (.putfield 149) 11 15, qO (.aload_n 0), qO .dup, qF (.getfield 146) 11 14, qO (.iconst 1), qO .iadd, qF (.putfield 146) 11 14, qO (.iload 6), qO (.istore 4), qO (.goto (-237))] (pc' := 30) (L' := [zR 34 0, zI l1, zU, zU, zI z4, zI l5, zI z4, zU, zU, zU]) (S' := []) (σ' := (zup (zup σ3 34 0 15 ((σ3 34 0 15) + ((σ3 45 0 ((σ3 34 0 14).toNat)) - (σ3 41 0 z4.toNat)))) 34 0 14 ((σ3 34 0 14) + 1))) (Ps := [0 ≤ σ3 34 0 14 ∧ σ3 34 0 14 < 10, 0 ≤ z4 ∧ z4 < 10, -2147483648 ≤ (σ3 45 0 ((σ3 34 0 14).toNat)) - (σ3 41 0 z4.toNat) ∧ (σ3 45 0 ((σ3 34 0 14).toNat)) - (σ3 41 0 z4.toNat) ≤ 2147483647, -2147483648 ≤ (σ3 34 0 15) + ((σ3 45 0 ((σ3 34 0 14).toNat)) - (σ3 41 0 z4.toNat)) ∧ (σ3 34 0 15) + ((σ3 45 0 ((σ3 34 0 14).toNat)) - (σ3 41 0 z4.toNat)) ≤ 2147483647, -2147483648 ≤ (σ3 34 0 14) + 1 ∧ (σ3 34 0 14) + 1 ≤ 2147483647]) (by decide +kernel) rfl ⟨h.1, h.2.1, h.2.2.1, h.2.2.2.1, h.2.2.2.2.1, trivial⟩ ?_
      replace h := h.2.2.2.2.2
      generalize hσ5 : (zup (zup σ3 34 0 15 ((σ3 34 0 15) + ((σ3 45 0 ((σ3 34 0 14).toNat)) - (σ3 41 0 z4.toNat)))) 34 0 14 ((σ3 34 0 14) + 1)) = σ5
      replace h := h σ5 hσ5.symm
      exact Runs.fg (fgE (fgE (fgU (fgU (fgE (fgU (fgU (fgU (fgU (fgU fg0)))))))))) h
    · replace h := h.2 c
      refine r_blk [qO (.aload_n 0), qO (.iload 5), qO (.iconst 1)] (pc' := 212) (L' := [zR 34 0, zI l1, zU, zU, zI l4, zI l5, zI l6, zU, zU, zU]) (S' := [zI 1, zI l5, zR 34 0]) (σ' := σ1) (Ps := []) (by decide +kernel) rfl trivial ?_
      refine r_callVI (As := [zI l5, zI 1]) (S := []) (Lc := [zR 34 0, zI l5, zI 1]) (d' := 0) (n := 2) (g := 34) (x := 0) (ci := 11) kX11_get vX11_get lkX11_106 (by decide +kernel) (by decide) rfl rfl (by decide) rfl rfl (Nat.le_of_ble_eq_true rfl) rfl rfl (Nat.le_of_ble_eq_true rfl) (h.monoI (fun z7 σ6 h => ?_))
      refine r_blk [qO (.goto 10), qO (.istore 6), qO (.aload_n 0), qO .dup, qF (.getfield 149) 11 15, qO (.aload_n 0), qF (.getfield 41) 11 13, qO (.aload_n 0), qF (.getfield 146) 11 14, qO .iaload, qO (.aload_n 0), qF (.getfield 28) 11 9, qO (.iload 6), qO .iaload, qO .isub, qO .iadd, qF (.putfield 149) 11 15, qO (.aload_n 0), qO .dup, qF (.getfield 146) 11 14, qO (.iconst 1), qO .iadd, qF (.putfield 146) 11 14, qO (.iload 6), qO (.istore 4), qO (.goto (-237))] (pc' := 30) (L' := [zR 34 0, zI l1, zU, zU, zI z7, zI l5, zI z7, zU, zU, zU]) (S' := []) (σ' := (zup (zup σ6 34 0 15 ((σ6 34 0 15) + ((σ6 45 0 ((σ6 34 0 14).toNat)) - (σ6 41 0 z7.toNat)))) 34 0 14 ((σ6 34 0 14) + 1))) (Ps := [0 ≤ σ6 34 0 14 ∧ σ6 34 0 14 < 10, 0 ≤ z7 ∧ z7 < 10, -2147483648 ≤ (σ6 45 0 ((σ6 34 0 14).toNat)) - (σ6 41 0 z7.toNat) ∧ (σ6 45 0 ((σ6 34 0 14).toNat)) - (σ6 41 0 z7.toNat) ≤ 2147483647, -2147483648 ≤ (σ6 34 0 15) + ((σ6 45 0 ((σ6 34 0 14).toNat)) - (σ6 41 0 z7.toNat)) ∧ (σ6 34 0 15) + ((σ6 45 0 ((σ6 34 0 14).toNat)) - (σ6 41 0 z7.toNat)) ≤ 2147483647, -2147483648 ≤ (σ6 34 0 14) + 1 ∧ (σ6 34 0 14) + 1 ≤ 2147483647]) (by decide +kernel) rfl ⟨h.1, h.2.1, h.2.2.1, h.2.2.2.1, h.2.2.2.2.1, trivial⟩ ?_
      replace h := h.2.2.2.2.2
      generalize hσ8 : (zup (zup σ6 34 0 15 ((σ6 34 0 15) + ((σ6 45 0 ((σ6 34 0 14).toNat)) - (σ6 41 0 z7.toNat)))) 34 0 14 ((σ6 34 0 14) + 1)) = σ8
      replace h := h σ8 hσ8.symm
      exact Runs.fg (fgE (fgE (fgU (fgU (fgE (fgU (fgU (fgU (fgU (fgU fg0)))))))))) h
  · replace h := h.2 c
    refine r_blk [qO (.iconst 0), qO (.istore 7)] (pc' := 69) (L' := [zR 34 0, zI l1, zU, zU, zI l4, zI l5, zI l6, zI 0, zU, zU]) (S' := []) (σ' := σ) (Ps := []) (by decide +kernel) rfl trivial ?_
    exact Runs.fg (fgE (fgE (fgU (fgU (fgE (fgE (fgE (fgE (fgU (fgU fg0)))))))))) h
theorem gX11_findsRoad_69 (l1 : Int) (l4 : Int) (l5 : Int) (l6 : Int) (l7 : Int) (σ : Hp) {Q : Option Int → Hp → Prop} (h : ((2 ≤ l7 → (-2147483648 ≤ l6 + (-1) ∧ l6 + (-1) ≤ 2147483647) ∧ Runs 5 mX11_findsRoad 61 [zR 34 0, zI l1, zU, zU, zI l4, zI l5, zI (l6 + (-1)), zU, zU, zU] [] σ Q) ∧ (¬ 2 ≤ l7 → Runs 0 mX11_get 0 [zR 34 0, zI l6, zI l7] [] σ (rI (fun z2 σ1 => (-2147483648 ≤ 1 - l7 ∧ 1 - l7 ≤ 2147483647) ∧ Runs 0 mX11_get 0 [zR 34 0, zI l6, zI (1 - l7)] [] σ1 (rI (fun z4 σ3 => ((¬ z4 = l4 → (-2147483648 ≤ l7 + 1 ∧ l7 + 1 ≤ 2147483647) ∧ Runs 5 mX11_findsRoad 69 [zR 34 0, zI l1, zU, zU, zI l4, zI l5, zI l6, zI (l7 + 1), zU, zU] [] σ3 Q) ∧ (z4 = l4 → (0 ≤ z2 ∧ z2 < 10) ∧ ((0 ≤ σ3 41 0 z2.toNat → (0 ≤ z2 ∧ z2 < 10) ∧ Runs 3 mX11_enters 0 [zR 34 0, zI l6, zI l7, zI (σ3 41 0 z2.toNat), zU, zU] [] σ3 (rI (fun z6 σ5 => ((z6 < 0 → (-2147483648 ≤ l7 + 1 ∧ l7 + 1 ≤ 2147483647) ∧ Runs 5 mX11_findsRoad 69 [zR 34 0, zI l1, zU, zU, zI l4, zI l5, zI l6, zI (l7 + 1), zU, zU] [] σ5 Q) ∧ (¬ z6 < 0 → Runs 0 mX11_get 0 [zR 34 0, zI l6, zI 2] [] σ5 (rI (fun z8 σ7 => (-2147483648 ≤ z6 + z8 ∧ z6 + z8 ≤ 2147483647) ∧ (0 ≤ l4 ∧ l4 < 10) ∧ ((z6 + z8 = σ7 41 0 l4.toNat → (0 ≤ σ7 34 0 14 ∧ σ7 34 0 14 < 10) ∧ (-2147483648 ≤ l7 + 1 ∧ l7 + 1 ≤ 2147483647) ∧ Runs 5 mX11_findsRoad 69 [zR 34 0, zI l1, zU, zU, zI l4, zI l6, zI l6, zI (l7 + 1), zU, zU] [] (zup σ7 45 0 ((σ7 34 0 14).toNat) z6) Q) ∧ (¬ z6 + z8 = σ7 41 0 l4.toNat → (-2147483648 ≤ l7 + 1 ∧ l7 + 1 ≤ 2147483647) ∧ Runs 5 mX11_findsRoad 69 [zR 34 0, zI l1, zU, zU, zI l4, zI l5, zI l6, zI (l7 + 1), zU, zU] [] σ7 Q))))))))) ∧ (¬ 0 ≤ σ3 41 0 z2.toNat → (-2147483648 ≤ l7 + 1 ∧ l7 + 1 ≤ 2147483647) ∧ Runs 5 mX11_findsRoad 69 [zR 34 0, zI l1, zU, zU, zI l4, zI l5, zI l6, zI (l7 + 1), zU, zU] [] σ3 Q))))))))))) : Runs 5 mX11_findsRoad 69 [zR 34 0, zI l1, zU, zU, zI l4, zI l5, zI l6, zI l7, zU, zU] [] σ Q := by
  refine r_blk [qO (.iload 7), qO (.iconst 2)] (pc' := 72) (L' := [zR 34 0, zI l1, zU, zU, zI l4, zI l5, zI l6, zI l7, zU, zU]) (S' := [zI 2, zI l7]) (σ' := σ) (Ps := []) (by decide +kernel) rfl trivial ?_
  refine r_icmp_ge (off := 107) (tgt := 179) (by decide +kernel) (by decide) (fun c => ?_) (fun c => ?_)
  · replace h := h.1 c
    refine r_blk [qO (.iinc 6 (-1)), qO (.goto (-121))] (pc' := 61) (L' := [zR 34 0, zI l1, zU, zU, zI l4, zI l5, zI (l6 + (-1)), zI l7, zU, zU]) (S' := []) (σ' := σ) (Ps := [-2147483648 ≤ l6 + (-1) ∧ l6 + (-1) ≤ 2147483647]) (by decide +kernel) rfl ⟨h.1, trivial⟩ ?_
    replace h := h.2
    exact Runs.fg (fgE (fgE (fgU (fgU (fgE (fgE (fgE (fgU (fgU (fgU fg0)))))))))) h
  · replace h := h.2 c
    refine r_blk [qO (.aload_n 0), qO (.iload 6), qO (.iload 7)] (pc' := 80) (L' := [zR 34 0, zI l1, zU, zU, zI l4, zI l5, zI l6, zI l7, zU, zU]) (S' := [zI l7, zI l6, zR 34 0]) (σ' := σ) (Ps := []) (by decide +kernel) rfl trivial ?_
    refine r_callVI (As := [zI l6, zI l7]) (S := []) (Lc := [zR 34 0, zI l6, zI l7]) (d' := 0) (n := 2) (g := 34) (x := 0) (ci := 11) kX11_get vX11_get lkX11_106 (by decide +kernel) (by decide) rfl rfl (by decide) rfl rfl (Nat.le_of_ble_eq_true rfl) rfl rfl (Nat.le_of_ble_eq_true rfl) (h.monoI (fun z2 σ1 h => ?_))
    refine r_blk [qO (.istore 8), qO (.aload_n 0), qO (.iload 6), qO (.iconst 1), qO (.iload 7), qO .isub] (pc' := 92) (L' := [zR 34 0, zI l1, zU, zU, zI l4, zI l5, zI l6, zI l7, zI z2, zU]) (S' := [zI (1 - l7), zI l6, zR 34 0]) (σ' := σ1) (Ps := [-2147483648 ≤ 1 - l7 ∧ 1 - l7 ≤ 2147483647]) (by decide +kernel) rfl ⟨h.1, trivial⟩ ?_
    replace h := h.2
    refine r_callVI (As := [zI l6, zI (1 - l7)]) (S := []) (Lc := [zR 34 0, zI l6, zI (1 - l7)]) (d' := 0) (n := 2) (g := 34) (x := 0) (ci := 11) kX11_get vX11_get lkX11_106 (by decide +kernel) (by decide) rfl rfl (by decide) rfl rfl (Nat.le_of_ble_eq_true rfl) rfl rfl (Nat.le_of_ble_eq_true rfl) (h.monoI (fun z4 σ3 h => ?_))
    refine r_blk [qO (.iload 4)] (pc' := 97) (L' := [zR 34 0, zI l1, zU, zU, zI l4, zI l5, zI l6, zI l7, zI z2, zU]) (S' := [zI l4, zI z4]) (σ' := σ3) (Ps := []) (by decide +kernel) rfl trivial ?_
    refine r_icmp_ne (off := 76) (tgt := 173) (by decide +kernel) (by decide) (fun c => ?_) (fun c => ?_)
    · replace h := h.1 c
      refine r_blk [qO (.iinc 7 1), qO (.goto (-107))] (pc' := 69) (L' := [zR 34 0, zI l1, zU, zU, zI l4, zI l5, zI l6, zI (l7 + 1), zI z2, zU]) (S' := []) (σ' := σ3) (Ps := [-2147483648 ≤ l7 + 1 ∧ l7 + 1 ≤ 2147483647]) (by decide +kernel) rfl ⟨h.1, trivial⟩ ?_
      replace h := h.2
      exact Runs.fg (fgE (fgE (fgU (fgU (fgE (fgE (fgE (fgE (fgU (fgU fg0)))))))))) h
    · replace h := h.2 c
      refine r_blk [qO (.aload_n 0), qF (.getfield 28) 11 9, qO (.iload 8), qO .iaload] (pc' := 107) (L' := [zR 34 0, zI l1, zU, zU, zI l4, zI l5, zI l6, zI l7, zI z2, zU]) (S' := [zI (σ3 41 0 z2.toNat)]) (σ' := σ3) (Ps := [0 ≤ z2 ∧ z2 < 10]) (by decide +kernel) rfl ⟨h.1, trivial⟩ ?_
      replace h := h.2
      refine r_if_ge (off := 6) (tgt := 113) (by decide +kernel) (by decide) (fun c => ?_) (fun c => ?_)
      · replace h := h.1 c
        refine r_blk [qO (.aload_n 0), qO (.iload 6), qO (.iload 7), qO (.aload_n 0), qF (.getfield 28) 11 9, qO (.iload 8), qO .iaload] (pc' := 125) (L' := [zR 34 0, zI l1, zU, zU, zI l4, zI l5, zI l6, zI l7, zI z2, zU]) (S' := [zI (σ3 41 0 z2.toNat), zI l7, zI l6, zR 34 0]) (σ' := σ3) (Ps := [0 ≤ z2 ∧ z2 < 10]) (by decide +kernel) rfl ⟨h.1, trivial⟩ ?_
        replace h := h.2
        refine r_callVI (As := [zI l6, zI l7, zI (σ3 41 0 z2.toNat)]) (S := []) (Lc := [zR 34 0, zI l6, zI l7, zI (σ3 41 0 z2.toNat), zU, zU]) (d' := 3) (n := 3) (g := 34) (x := 0) (ci := 11) kX11_enters vX11_enters lkX11_133 (by decide +kernel) (by decide) rfl rfl (by decide) rfl rfl (Nat.le_of_ble_eq_true rfl) rfl rfl (Nat.le_of_ble_eq_true rfl) (h.monoI (fun z6 σ5 h => ?_))
        refine r_blk [qO (.istore 9), qO (.iload 9)] (pc' := 132) (L' := [zR 34 0, zI l1, zU, zU, zI l4, zI l5, zI l6, zI l7, zI z2, zI z6]) (S' := [zI z6]) (σ' := σ5) (Ps := []) (by decide +kernel) rfl trivial ?_
        refine r_if_lt (off := 41) (tgt := 173) (by decide +kernel) (by decide) (fun c => ?_) (fun c => ?_)
        · replace h := h.1 c
          refine r_blk [qO (.iinc 7 1), qO (.goto (-107))] (pc' := 69) (L' := [zR 34 0, zI l1, zU, zU, zI l4, zI l5, zI l6, zI (l7 + 1), zI z2, zI z6]) (S' := []) (σ' := σ5) (Ps := [-2147483648 ≤ l7 + 1 ∧ l7 + 1 ≤ 2147483647]) (by decide +kernel) rfl ⟨h.1, trivial⟩ ?_
          replace h := h.2
          exact Runs.fg (fgE (fgE (fgU (fgU (fgE (fgE (fgE (fgE (fgU (fgU fg0)))))))))) h
        · replace h := h.2 c
          refine r_blk [qO (.iload 9), qO (.aload_n 0), qO (.iload 6), qO (.iconst 2)] (pc' := 141) (L' := [zR 34 0, zI l1, zU, zU, zI l4, zI l5, zI l6, zI l7, zI z2, zI z6]) (S' := [zI 2, zI l6, zR 34 0, zI z6]) (σ' := σ5) (Ps := []) (by decide +kernel) rfl trivial ?_
          refine r_callVI (As := [zI l6, zI 2]) (S := [zI z6]) (Lc := [zR 34 0, zI l6, zI 2]) (d' := 0) (n := 2) (g := 34) (x := 0) (ci := 11) kX11_get vX11_get lkX11_106 (by decide +kernel) (by decide) rfl rfl (by decide) rfl rfl (Nat.le_of_ble_eq_true rfl) rfl rfl (Nat.le_of_ble_eq_true rfl) (h.monoI (fun z8 σ7 h => ?_))
          refine r_blk [qO .iadd, qO (.aload_n 0), qF (.getfield 28) 11 9, qO (.iload 4), qO .iaload] (pc' := 152) (L' := [zR 34 0, zI l1, zU, zU, zI l4, zI l5, zI l6, zI l7, zI z2, zI z6]) (S' := [zI (σ7 41 0 l4.toNat), zI (z6 + z8)]) (σ' := σ7) (Ps := [-2147483648 ≤ z6 + z8 ∧ z6 + z8 ≤ 2147483647, 0 ≤ l4 ∧ l4 < 10]) (by decide +kernel) rfl ⟨h.1, h.2.1, trivial⟩ ?_
          replace h := h.2.2
          refine r_icmp_eq (off := 6) (tgt := 158) (by decide +kernel) (by decide) (fun c => ?_) (fun c => ?_)
          · replace h := h.1 c
            refine r_blk [qO (.iload 6), qO (.istore 5), qO (.aload_n 0), qF (.getfield 41) 11 13, qO (.aload_n 0), qF (.getfield 146) 11 14, qO (.iload 9), qO .iastore, qO (.iinc 7 1), qO (.goto (-107))] (pc' := 69) (L' := [zR 34 0, zI l1, zU, zU, zI l4, zI l6, zI l6, zI (l7 + 1), zI z2, zI z6]) (S' := []) (σ' := (zup σ7 45 0 ((σ7 34 0 14).toNat) z6)) (Ps := [0 ≤ σ7 34 0 14 ∧ σ7 34 0 14 < 10, -2147483648 ≤ l7 + 1 ∧ l7 + 1 ≤ 2147483647]) (by decide +kernel) rfl ⟨h.1, h.2.1, trivial⟩ ?_
            replace h := h.2.2
            exact Runs.fg (fgE (fgE (fgU (fgU (fgE (fgE (fgE (fgE (fgU (fgU fg0)))))))))) h
          · replace h := h.2 c
            refine r_blk [qO (.goto 18), qO (.iinc 7 1), qO (.goto (-107))] (pc' := 69) (L' := [zR 34 0, zI l1, zU, zU, zI l4, zI l5, zI l6, zI (l7 + 1), zI z2, zI z6]) (S' := []) (σ' := σ7) (Ps := [-2147483648 ≤ l7 + 1 ∧ l7 + 1 ≤ 2147483647]) (by decide +kernel) rfl ⟨h.1, trivial⟩ ?_
            replace h := h.2
            exact Runs.fg (fgE (fgE (fgU (fgU (fgE (fgE (fgE (fgE (fgU (fgU fg0)))))))))) h
      · replace h := h.2 c
        refine r_blk [qO (.goto 63), qO (.iinc 7 1), qO (.goto (-107))] (pc' := 69) (L' := [zR 34 0, zI l1, zU, zU, zI l4, zI l5, zI l6, zI (l7 + 1), zI z2, zU]) (S' := []) (σ' := σ3) (Ps := [-2147483648 ≤ l7 + 1 ∧ l7 + 1 ≤ 2147483647]) (by decide +kernel) rfl ⟨h.1, trivial⟩ ?_
        replace h := h.2
        exact Runs.fg (fgE (fgE (fgU (fgU (fgE (fgE (fgE (fgE (fgU (fgU fg0)))))))))) h
theorem gX11_waited_0 (a0 : Int) (a1 : Int) (a2 : Int) (σ : Hp) {Q : Option Int → Hp → Prop} (h : Runs 2 mX11_wrongWay 0 [zR 34 0, zI a0, zI a1, zI a2] [] σ (rI (fun z2 σ1 => ((z2 = 0 → Runs 5 mX11_findsRoad 0 [zR 34 0, zI a0, zI a1, zI a2, zU, zU, zU, zU, zU, zU] [] σ1 (rI (fun z4 σ3 => ((z4 = 0 → Q (some (-9)) σ3) ∧ (¬ z4 = 0 → Q (some (σ3 34 0 15)) σ3))))) ∧ (¬ z2 = 0 → Runs 0 mX11_refuse 0 [zR 34 0, zI z2] [] σ1 (rI (fun z6 σ5 => Q (some z6) σ5))))))) : Runs 6 mX11_waited 0 [zR 34 0, zI a0, zI a1, zI a2, zU] [] σ Q := by
  refine r_blk [qO (.aload_n 0), qO (.iload_n 1), qO (.iload_n 2), qO (.iload_n 3)] (pc' := 4) (L' := [zR 34 0, zI a0, zI a1, zI a2, zU]) (S' := [zI a2, zI a1, zI a0, zR 34 0]) (σ' := σ) (Ps := []) (by decide +kernel) rfl trivial ?_
  refine r_callVI (As := [zI a0, zI a1, zI a2]) (S := []) (Lc := [zR 34 0, zI a0, zI a1, zI a2]) (d' := 2) (n := 3) (g := 34) (x := 0) (ci := 11) kX11_wrongWay vX11_wrongWay lkX11_139 (by decide +kernel) (by decide) rfl rfl (by decide) rfl rfl (Nat.le_of_ble_eq_true rfl) rfl rfl (Nat.le_of_ble_eq_true rfl) (h.monoI (fun z2 σ1 h => ?_))
  refine r_blk [qO (.istore 4), qO (.iload 4)] (pc' := 11) (L' := [zR 34 0, zI a0, zI a1, zI a2, zI z2]) (S' := [zI z2]) (σ' := σ1) (Ps := []) (by decide +kernel) rfl trivial ?_
  refine r_if_eq (off := 10) (tgt := 21) (by decide +kernel) (by decide) (fun c => ?_) (fun c => ?_)
  · replace h := h.1 c
    refine r_blk [qO (.aload_n 0), qO (.iload_n 1), qO (.iload_n 2), qO (.iload_n 3)] (pc' := 25) (L' := [zR 34 0, zI a0, zI a1, zI a2, zI z2]) (S' := [zI a2, zI a1, zI a0, zR 34 0]) (σ' := σ1) (Ps := []) (by decide +kernel) rfl trivial ?_
    refine r_callVI (As := [zI a0, zI a1, zI a2]) (S := []) (Lc := [zR 34 0, zI a0, zI a1, zI a2, zU, zU, zU, zU, zU, zU]) (d' := 5) (n := 3) (g := 34) (x := 0) (ci := 11) kX11_findsRoad vX11_findsRoad lkX11_152 (by decide +kernel) (by decide) rfl rfl (by decide) rfl rfl (Nat.le_of_ble_eq_true rfl) rfl rfl (Nat.le_of_ble_eq_true rfl) (h.monoI (fun z4 σ3 h => ?_))
    refine r_if_eq (off := 10) (tgt := 38) (by decide +kernel) (by decide) (fun c => ?_) (fun c => ?_)
    · replace h := h.1 c
      refine r_blk [qO (.bipush (-9))] (pc' := 40) (L' := [zR 34 0, zI a0, zI a1, zI a2, zI z2]) (S' := [zI (-9)]) (σ' := σ3) (Ps := []) (by decide +kernel) rfl trivial ?_
      exact r_ret (by decide +kernel) rfl (fun _ => h)
    · replace h := h.2 c
      refine r_blk [qO (.aload_n 0), qF (.getfield 149) 11 15, qO (.goto 5)] (pc' := 40) (L' := [zR 34 0, zI a0, zI a1, zI a2, zI z2]) (S' := [zI (σ3 34 0 15)]) (σ' := σ3) (Ps := []) (by decide +kernel) rfl trivial ?_
      exact r_ret (by decide +kernel) rfl (fun _ => h)
  · replace h := h.2 c
    refine r_blk [qO (.aload_n 0), qO (.iload 4)] (pc' := 17) (L' := [zR 34 0, zI a0, zI a1, zI a2, zI z2]) (S' := [zI z2, zR 34 0]) (σ' := σ1) (Ps := []) (by decide +kernel) rfl trivial ?_
    refine r_callVI (As := [zI z2]) (S := []) (Lc := [zR 34 0, zI z2]) (d' := 0) (n := 1) (g := 34) (x := 0) (ci := 11) kX11_refuse vX11_refuse lkX11_66 (by decide +kernel) (by decide) rfl rfl (by decide) rfl rfl (Nat.le_of_ble_eq_true rfl) rfl rfl (Nat.le_of_ble_eq_true rfl) (h.monoI (fun z6 σ5 h => ?_))
    exact r_ret (by decide +kernel) rfl (fun _ => h)
theorem gX11_road_0 (a0 : Int) (a1 : Int) (a2 : Int) (a3 : Int) (σ : Hp) {Q : Option Int → Hp → Prop} (h : Runs 2 mX11_wrongWay 0 [zR 34 0, zI a0, zI a1, zI a2] [] σ (rI (fun z2 σ1 => ((z2 = (-1) → Runs 6 mX11_road 25 [zR 34 0, zI a0, zI a1, zI a2, zI a3, zI z2] [] σ1 Q) ∧ (¬ z2 = (-1) → (((-1) ≤ a3 → Runs 6 mX11_road 25 [zR 34 0, zI a0, zI a1, zI a2, zI a3, zI z2] [] σ1 Q) ∧ (¬ (-1) ≤ a3 → Runs 6 mX11_road 25 [zR 34 0, zI a0, zI a1, zI a2, zI a3, zI (-4)] [] σ1 Q))))))) : Runs 6 mX11_road 0 [zR 34 0, zI a0, zI a1, zI a2, zI a3, zU] [] σ Q := by
  refine r_blk [qO (.aload_n 0), qO (.iload_n 1), qO (.iload_n 2), qO (.iload_n 3)] (pc' := 4) (L' := [zR 34 0, zI a0, zI a1, zI a2, zI a3, zU]) (S' := [zI a2, zI a1, zI a0, zR 34 0]) (σ' := σ) (Ps := []) (by decide +kernel) rfl trivial ?_
  refine r_callVI (As := [zI a0, zI a1, zI a2]) (S := []) (Lc := [zR 34 0, zI a0, zI a1, zI a2]) (d' := 2) (n := 3) (g := 34) (x := 0) (ci := 11) kX11_wrongWay vX11_wrongWay lkX11_139 (by decide +kernel) (by decide) rfl rfl (by decide) rfl rfl (Nat.le_of_ble_eq_true rfl) rfl rfl (Nat.le_of_ble_eq_true rfl) (h.monoI (fun z2 σ1 h => ?_))
  refine r_blk [qO (.istore 5), qO (.iload 5), qO (.iconst (-1))] (pc' := 12) (L' := [zR 34 0, zI a0, zI a1, zI a2, zI a3, zI z2]) (S' := [zI (-1), zI z2]) (σ' := σ1) (Ps := []) (by decide +kernel) rfl trivial ?_
  refine r_icmp_eq (off := 13) (tgt := 25) (by decide +kernel) (by decide) (fun c => ?_) (fun c => ?_)
  · replace h := h.1 c
    exact Runs.fg (fgE (fgE (fgE (fgE (fgE (fgE fg0)))))) h
  · replace h := h.2 c
    refine r_blk [qO (.iload 4), qO (.iconst (-1))] (pc' := 18) (L' := [zR 34 0, zI a0, zI a1, zI a2, zI a3, zI z2]) (S' := [zI (-1), zI a3]) (σ' := σ1) (Ps := []) (by decide +kernel) rfl trivial ?_
    refine r_icmp_ge (off := 7) (tgt := 25) (by decide +kernel) (by decide) (fun c => ?_) (fun c => ?_)
    · replace h := h.1 c
      exact Runs.fg (fgE (fgE (fgE (fgE (fgE (fgE fg0)))))) h
    · replace h := h.2 c
      refine r_blk [qO (.bipush (-4)), qO (.istore 5)] (pc' := 25) (L' := [zR 34 0, zI a0, zI a1, zI a2, zI a3, zI (-4)]) (S' := []) (σ' := σ1) (Ps := []) (by decide +kernel) rfl trivial ?_
      exact Runs.fg (fgE (fgE (fgE (fgE (fgE (fgE fg0)))))) h
theorem gX11_road_25 (l1 : Int) (l2 : Int) (l3 : Int) (l4 : Int) (l5 : Int) (σ : Hp) {Q : Option Int → Hp → Prop} (h : ((l5 = 0 → Runs 5 mX11_findsRoad 0 [zR 34 0, zI l1, zI l2, zI l3, zU, zU, zU, zU, zU, zU] [] σ (rI (fun z2 σ1 => ((¬ z2 = 0 → ((0 ≤ l4 → ((σ1 34 0 14 ≤ l4 → Q (some (-9)) σ1) ∧ (¬ σ1 34 0 14 ≤ l4 → (-2147483648 ≤ (σ1 34 0 14) - 1 ∧ (σ1 34 0 14) - 1 ≤ 2147483647) ∧ (-2147483648 ≤ ((σ1 34 0 14) - 1) - l4 ∧ ((σ1 34 0 14) - 1) - l4 ≤ 2147483647) ∧ (0 ≤ ((σ1 34 0 14) - 1) - l4 ∧ ((σ1 34 0 14) - 1) - l4 < 10) ∧ Q (some (σ1 44 0 ((((σ1 34 0 14) - 1) - l4).toNat))) σ1))) ∧ (¬ 0 ≤ l4 → Q (some (σ1 34 0 14)) σ1))) ∧ (z2 = 0 → Q (some (-9)) σ1))))) ∧ (¬ l5 = 0 → Runs 0 mX11_refuse 0 [zR 34 0, zI l5] [] σ (rI (fun z4 σ3 => Q (some z4) σ3))))) : Runs 6 mX11_road 25 [zR 34 0, zI l1, zI l2, zI l3, zI l4, zI l5] [] σ Q := by
  refine r_blk [qO (.iload 5)] (pc' := 27) (L' := [zR 34 0, zI l1, zI l2, zI l3, zI l4, zI l5]) (S' := [zI l5]) (σ' := σ) (Ps := []) (by decide +kernel) rfl trivial ?_
  refine r_if_eq (off := 10) (tgt := 37) (by decide +kernel) (by decide) (fun c => ?_) (fun c => ?_)
  · replace h := h.1 c
    refine r_blk [qO (.aload_n 0), qO (.iload_n 1), qO (.iload_n 2), qO (.iload_n 3)] (pc' := 41) (L' := [zR 34 0, zI l1, zI l2, zI l3, zI l4, zI l5]) (S' := [zI l3, zI l2, zI l1, zR 34 0]) (σ' := σ) (Ps := []) (by decide +kernel) rfl trivial ?_
    refine r_callVI (As := [zI l1, zI l2, zI l3]) (S := []) (Lc := [zR 34 0, zI l1, zI l2, zI l3, zU, zU, zU, zU, zU, zU]) (d' := 5) (n := 3) (g := 34) (x := 0) (ci := 11) kX11_findsRoad vX11_findsRoad lkX11_152 (by decide +kernel) (by decide) rfl rfl (by decide) rfl rfl (Nat.le_of_ble_eq_true rfl) rfl rfl (Nat.le_of_ble_eq_true rfl) (h.monoI (fun z2 σ1 h => ?_))
    refine r_if_ne (off := 6) (tgt := 50) (by decide +kernel) (by decide) (fun c => ?_) (fun c => ?_)
    · replace h := h.1 c
      refine r_blk [qO (.iload 4)] (pc' := 52) (L' := [zR 34 0, zI l1, zI l2, zI l3, zI l4, zI l5]) (S' := [zI l4]) (σ' := σ1) (Ps := []) (by decide +kernel) rfl trivial ?_
      refine r_if_ge (off := 10) (tgt := 62) (by decide +kernel) (by decide) (fun c => ?_) (fun c => ?_)
      · replace h := h.1 c
        refine r_blk [qO (.iload 4), qO (.aload_n 0), qF (.getfield 146) 11 14] (pc' := 68) (L' := [zR 34 0, zI l1, zI l2, zI l3, zI l4, zI l5]) (S' := [zI (σ1 34 0 14), zI l4]) (σ' := σ1) (Ps := []) (by decide +kernel) rfl trivial ?_
        refine r_icmp_ge (off := 20) (tgt := 88) (by decide +kernel) (by decide) (fun c => ?_) (fun c => ?_)
        · replace h := h.1 c
          refine r_blk [qO (.bipush (-9))] (pc' := 90) (L' := [zR 34 0, zI l1, zI l2, zI l3, zI l4, zI l5]) (S' := [zI (-9)]) (σ' := σ1) (Ps := []) (by decide +kernel) rfl trivial ?_
          exact r_ret (by decide +kernel) rfl (fun _ => h)
        · replace h := h.2 c
          refine r_blk [qO (.aload_n 0), qF (.getfield 38) 11 12, qO (.aload_n 0), qF (.getfield 146) 11 14, qO (.iconst 1), qO .isub, qO (.iload 4), qO .isub, qO .iaload, qO (.goto 5)] (pc' := 90) (L' := [zR 34 0, zI l1, zI l2, zI l3, zI l4, zI l5]) (S' := [zI (σ1 44 0 ((((σ1 34 0 14) - 1) - l4).toNat))]) (σ' := σ1) (Ps := [-2147483648 ≤ (σ1 34 0 14) - 1 ∧ (σ1 34 0 14) - 1 ≤ 2147483647, -2147483648 ≤ ((σ1 34 0 14) - 1) - l4 ∧ ((σ1 34 0 14) - 1) - l4 ≤ 2147483647, 0 ≤ ((σ1 34 0 14) - 1) - l4 ∧ ((σ1 34 0 14) - 1) - l4 < 10]) (by decide +kernel) rfl ⟨h.1, h.2.1, h.2.2.1, trivial⟩ ?_
          replace h := h.2.2.2
          exact r_ret (by decide +kernel) rfl (fun _ => h)
      · replace h := h.2 c
        refine r_blk [qO (.aload_n 0), qF (.getfield 146) 11 14, qO (.goto 31)] (pc' := 90) (L' := [zR 34 0, zI l1, zI l2, zI l3, zI l4, zI l5]) (S' := [zI (σ1 34 0 14)]) (σ' := σ1) (Ps := []) (by decide +kernel) rfl trivial ?_
        exact r_ret (by decide +kernel) rfl (fun _ => h)
    · replace h := h.2 c
      refine r_blk [qO (.bipush (-9))] (pc' := 49) (L' := [zR 34 0, zI l1, zI l2, zI l3, zI l4, zI l5]) (S' := [zI (-9)]) (σ' := σ1) (Ps := []) (by decide +kernel) rfl trivial ?_
      exact r_ret (by decide +kernel) rfl (fun _ => h)
  · replace h := h.2 c
    refine r_blk [qO (.aload_n 0), qO (.iload 5)] (pc' := 33) (L' := [zR 34 0, zI l1, zI l2, zI l3, zI l4, zI l5]) (S' := [zI l5, zR 34 0]) (σ' := σ) (Ps := []) (by decide +kernel) rfl trivial ?_
    refine r_callVI (As := [zI l5]) (S := []) (Lc := [zR 34 0, zI l5]) (d' := 0) (n := 1) (g := 34) (x := 0) (ci := 11) kX11_refuse vX11_refuse lkX11_66 (by decide +kernel) (by decide) rfl rfl (by decide) rfl rfl (Nat.le_of_ble_eq_true rfl) rfl rfl (Nat.le_of_ble_eq_true rfl) (h.monoI (fun z4 σ3 h => ?_))
    exact r_ret (by decide +kernel) rfl (fun _ => h)
theorem gX11_findsFar_0 (a0 : Int) (σ : Hp) {Q : Option Int → Hp → Prop} (h : Runs 3 mX11_findsFar 2 [zR 34 0, zI a0, zI 0, zU, zU, zU] [] σ Q) : Runs 3 mX11_findsFar 0 [zR 34 0, zI a0, zU, zU, zU, zU] [] σ Q := by
  refine r_blk [qO (.iconst 0), qO (.istore_n 2)] (pc' := 2) (L' := [zR 34 0, zI a0, zI 0, zU, zU, zU]) (S' := []) (σ' := σ) (Ps := []) (by decide +kernel) rfl trivial ?_
  exact Runs.fg (fgE (fgE (fgE (fgU (fgU (fgU fg0)))))) h
theorem gX11_findsFar_2 (l1 : Int) (l2 : Int) (σ : Hp) {Q : Option Int → Hp → Prop} (h : ((10 ≤ l2 → Runs 3 mX11_findsFar 52 [zR 34 0, zI l1, zI 0, zU, zU, zU] [] σ Q) ∧ (¬ 10 ≤ l2 → Runs 3 mX11_findsFar 10 [zR 34 0, zI l1, zI l2, zI 0, zU, zU] [] σ Q))) : Runs 3 mX11_findsFar 2 [zR 34 0, zI l1, zI l2, zU, zU, zU] [] σ Q := by
  refine r_blk [qO (.iload_n 2), qO (.bipush 10)] (pc' := 5) (L' := [zR 34 0, zI l1, zI l2, zU, zU, zU]) (S' := [zI 10, zI l2]) (σ' := σ) (Ps := []) (by decide +kernel) rfl trivial ?_
  refine r_icmp_ge (off := 45) (tgt := 50) (by decide +kernel) (by decide) (fun c => ?_) (fun c => ?_)
  · replace h := h.1 c
    refine r_blk [qO (.iconst 0), qO (.istore_n 2)] (pc' := 52) (L' := [zR 34 0, zI l1, zI 0, zU, zU, zU]) (S' := []) (σ' := σ) (Ps := []) (by decide +kernel) rfl trivial ?_
    exact Runs.fg (fgE (fgE (fgE (fgU (fgU (fgU fg0)))))) h
  · replace h := h.2 c
    refine r_blk [qO (.iconst 0), qO (.istore_n 3)] (pc' := 10) (L' := [zR 34 0, zI l1, zI l2, zI 0, zU, zU]) (S' := []) (σ' := σ) (Ps := []) (by decide +kernel) rfl trivial ?_
    exact Runs.fg (fgE (fgE (fgE (fgE (fgU (fgU fg0)))))) h
theorem gX11_findsFar_10 (l1 : Int) (l2 : Int) (l3 : Int) (σ : Hp) {Q : Option Int → Hp → Prop} (h : ((10 ≤ l3 → (-2147483648 ≤ l2 + 1 ∧ l2 + 1 ≤ 2147483647) ∧ Runs 3 mX11_findsFar 2 [zR 34 0, zI l1, zI (l2 + 1), zU, zU, zU] [] σ Q) ∧ (¬ 10 ≤ l3 → (-2147483648 ≤ 10 * l2 ∧ 10 * l2 ≤ 2147483647) ∧ (-2147483648 ≤ (10 * l2) + l3 ∧ (10 * l2) + l3 ≤ 2147483647) ∧ ((¬ l2 = l3 → (0 ≤ (10 * l2) + l3 ∧ (10 * l2) + l3 < 100) ∧ (-2147483648 ≤ l3 + 1 ∧ l3 + 1 ≤ 2147483647) ∧ Runs 3 mX11_findsFar 10 [zR 34 0, zI l1, zI l2, zI (l3 + 1), zU, zU] [] (zup σ 46 0 (((10 * l2) + l3).toNat) 1000000000) Q) ∧ (l2 = l3 → (0 ≤ (10 * l2) + l3 ∧ (10 * l2) + l3 < 100) ∧ (-2147483648 ≤ l3 + 1 ∧ l3 + 1 ≤ 2147483647) ∧ Runs 3 mX11_findsFar 10 [zR 34 0, zI l1, zI l2, zI (l3 + 1), zU, zU] [] (zup σ 46 0 (((10 * l2) + l3).toNat) 0) Q))))) : Runs 3 mX11_findsFar 10 [zR 34 0, zI l1, zI l2, zI l3, zU, zU] [] σ Q := by
  refine r_blk [qO (.iload_n 3), qO (.bipush 10)] (pc' := 13) (L' := [zR 34 0, zI l1, zI l2, zI l3, zU, zU]) (S' := [zI 10, zI l3]) (σ' := σ) (Ps := []) (by decide +kernel) rfl trivial ?_
  refine r_icmp_ge (off := 31) (tgt := 44) (by decide +kernel) (by decide) (fun c => ?_) (fun c => ?_)
  · replace h := h.1 c
    refine r_blk [qO (.iinc 2 1), qO (.goto (-45))] (pc' := 2) (L' := [zR 34 0, zI l1, zI (l2 + 1), zI l3, zU, zU]) (S' := []) (σ' := σ) (Ps := [-2147483648 ≤ l2 + 1 ∧ l2 + 1 ≤ 2147483647]) (by decide +kernel) rfl ⟨h.1, trivial⟩ ?_
    replace h := h.2
    exact Runs.fg (fgE (fgE (fgE (fgU (fgU (fgU fg0)))))) h
  · replace h := h.2 c
    refine r_blk [qO (.aload_n 0), qF (.getfield 44) 11 16, qO (.bipush 10), qO (.iload_n 2), qO .imul, qO (.iload_n 3), qO .iadd, qO (.iload_n 2), qO (.iload_n 3)] (pc' := 28) (L' := [zR 34 0, zI l1, zI l2, zI l3, zU, zU]) (S' := [zI l3, zI l2, zI ((10 * l2) + l3), zR 46 0]) (σ' := σ) (Ps := [-2147483648 ≤ 10 * l2 ∧ 10 * l2 ≤ 2147483647, -2147483648 ≤ (10 * l2) + l3 ∧ (10 * l2) + l3 ≤ 2147483647]) (by decide +kernel) rfl ⟨h.1, h.2.1, trivial⟩ ?_
    replace h := h.2.2
    refine r_icmp_ne (off := 7) (tgt := 35) (by decide +kernel) (by decide) (fun c => ?_) (fun c => ?_)
    · replace h := h.1 c
      refine r_blk [qC (.ldc 155) 1000000000, qO .iastore, qO (.iinc 3 1), qO (.goto (-31))] (pc' := 10) (L' := [zR 34 0, zI l1, zI l2, zI (l3 + 1), zU, zU]) (S' := []) (σ' := (zup σ 46 0 (((10 * l2) + l3).toNat) 1000000000)) (Ps := [0 ≤ (10 * l2) + l3 ∧ (10 * l2) + l3 < 100, -2147483648 ≤ l3 + 1 ∧ l3 + 1 ≤ 2147483647]) (by decide +kernel) rfl ⟨h.1, h.2.1, trivial⟩ ?_
      replace h := h.2.2
      exact Runs.fg (fgE (fgE (fgE (fgE (fgU (fgU fg0)))))) h
    · replace h := h.2 c
      refine r_blk [qO (.iconst 0), qO (.goto 5), qO .iastore, qO (.iinc 3 1), qO (.goto (-31))] (pc' := 10) (L' := [zR 34 0, zI l1, zI l2, zI (l3 + 1), zU, zU]) (S' := []) (σ' := (zup σ 46 0 (((10 * l2) + l3).toNat) 0)) (Ps := [0 ≤ (10 * l2) + l3 ∧ (10 * l2) + l3 < 100, -2147483648 ≤ l3 + 1 ∧ l3 + 1 ≤ 2147483647]) (by decide +kernel) rfl ⟨h.1, h.2.1, trivial⟩ ?_
      replace h := h.2.2
      exact Runs.fg (fgE (fgE (fgE (fgE (fgU (fgU fg0)))))) h
theorem gX11_findsFar_52 (l1 : Int) (l2 : Int) (σ : Hp) {Q : Option Int → Hp → Prop} (h : ((σ 36 0 1 ≤ l2 → Runs 3 mX11_findsFar 155 [zR 34 0, zU, zI 0, zU, zU, zU] [] σ Q) ∧ (¬ σ 36 0 1 ≤ l2 → Runs 3 mX11_findsFar 64 [zR 34 0, zI l1, zI l2, zI 0, zU, zU] [] σ Q))) : Runs 3 mX11_findsFar 52 [zR 34 0, zI l1, zI l2, zU, zU, zU] [] σ Q := by
  refine r_blk [qO (.iload_n 2), qO (.aload_n 0), qF (.getfield 13) 11 1, qO (.iconst 1), qO .iaload] (pc' := 59) (L' := [zR 34 0, zI l1, zI l2, zU, zU, zU]) (S' := [zI (σ 36 0 1), zI l2]) (σ' := σ) (Ps := [0 ≤ 1 ∧ 1 < 123]) (by decide +kernel) rfl ⟨(by decide), trivial⟩ ?_
  refine r_icmp_ge (off := 94) (tgt := 153) (by decide +kernel) (by decide) (fun c => ?_) (fun c => ?_)
  · replace h := h.1 c
    refine r_blk [qO (.iconst 0), qO (.istore_n 2)] (pc' := 155) (L' := [zR 34 0, zI l1, zI 0, zU, zU, zU]) (S' := []) (σ' := σ) (Ps := []) (by decide +kernel) rfl trivial ?_
    exact Runs.fg (fgE (fgU (fgE (fgU (fgU (fgU fg0)))))) h
  · replace h := h.2 c
    refine r_blk [qO (.iconst 0), qO (.istore_n 3)] (pc' := 64) (L' := [zR 34 0, zI l1, zI l2, zI 0, zU, zU]) (S' := []) (σ' := σ) (Ps := []) (by decide +kernel) rfl trivial ?_
    exact Runs.fg (fgE (fgE (fgE (fgE (fgU (fgU fg0)))))) h
theorem gX11_findsFar_64 (l1 : Int) (l2 : Int) (l3 : Int) (σ : Hp) {Q : Option Int → Hp → Prop} (h : ((2 ≤ l3 → (-2147483648 ≤ l2 + 1 ∧ l2 + 1 ≤ 2147483647) ∧ Runs 3 mX11_findsFar 52 [zR 34 0, zI l1, zI (l2 + 1), zU, zU, zU] [] σ Q) ∧ (¬ 2 ≤ l3 → Runs 2 mX11_goesFrom 0 [zR 34 0, zI l2, zI l3, zI l1, zU] [] σ (rI (fun z2 σ1 => ((¬ z2 = 0 → Runs 0 mX11_get 0 [zR 34 0, zI l2, zI l3] [] σ1 (rI (fun z4 σ3 => (-2147483648 ≤ 10 * z4 ∧ 10 * z4 ≤ 2147483647) ∧ (-2147483648 ≤ 1 - l3 ∧ 1 - l3 ≤ 2147483647) ∧ Runs 0 mX11_get 0 [zR 34 0, zI l2, zI (1 - l3)] [] σ3 (rI (fun z6 σ5 => (-2147483648 ≤ (10 * z4) + z6 ∧ (10 * z4) + z6 ≤ 2147483647) ∧ Runs 0 mX11_get 0 [zR 34 0, zI l2, zI 2] [] σ5 (rI (fun z8 σ7 => (0 ≤ (10 * z4) + z6 ∧ (10 * z4) + z6 < 100) ∧ ((σ7 46 0 (((10 * z4) + z6).toNat) ≤ z8 → (0 ≤ (10 * z4) + z6 ∧ (10 * z4) + z6 < 100) ∧ (0 ≤ (10 * z4) + z6 ∧ (10 * z4) + z6 < 100) ∧ (-2147483648 ≤ l3 + 1 ∧ l3 + 1 ≤ 2147483647) ∧ ∀ σ9 : Hp, σ9 = (zup σ7 46 0 (((10 * z4) + z6).toNat) (σ7 46 0 (((10 * z4) + z6).toNat))) → Runs 3 mX11_findsFar 64 [zR 34 0, zI l1, zI l2, zI (l3 + 1), zU, zU] [] σ9 Q) ∧ (¬ σ7 46 0 (((10 * z4) + z6).toNat) ≤ z8 → Runs 0 mX11_get 0 [zR 34 0, zI l2, zI 2] [] σ7 (rI (fun z11 σ10 => (0 ≤ (10 * z4) + z6 ∧ (10 * z4) + z6 < 100) ∧ (-2147483648 ≤ l3 + 1 ∧ l3 + 1 ≤ 2147483647) ∧ Runs 3 mX11_findsFar 64 [zR 34 0, zI l1, zI l2, zI (l3 + 1), zU, zU] [] (zup σ10 46 0 (((10 * z4) + z6).toNat) z11) Q))))))))))) ∧ (z2 = 0 → (-2147483648 ≤ l3 + 1 ∧ l3 + 1 ≤ 2147483647) ∧ Runs 3 mX11_findsFar 64 [zR 34 0, zI l1, zI l2, zI (l3 + 1), zU, zU] [] σ1 Q))))))) : Runs 3 mX11_findsFar 64 [zR 34 0, zI l1, zI l2, zI l3, zU, zU] [] σ Q := by
  refine r_blk [qO (.iload_n 3), qO (.iconst 2)] (pc' := 66) (L' := [zR 34 0, zI l1, zI l2, zI l3, zU, zU]) (S' := [zI 2, zI l3]) (σ' := σ) (Ps := []) (by decide +kernel) rfl trivial ?_
  refine r_icmp_ge (off := 81) (tgt := 147) (by decide +kernel) (by decide) (fun c => ?_) (fun c => ?_)
  · replace h := h.1 c
    refine r_blk [qO (.iinc 2 1), qO (.goto (-98))] (pc' := 52) (L' := [zR 34 0, zI l1, zI (l2 + 1), zI l3, zU, zU]) (S' := []) (σ' := σ) (Ps := [-2147483648 ≤ l2 + 1 ∧ l2 + 1 ≤ 2147483647]) (by decide +kernel) rfl ⟨h.1, trivial⟩ ?_
    replace h := h.2
    exact Runs.fg (fgE (fgE (fgE (fgU (fgU (fgU fg0)))))) h
  · replace h := h.2 c
    refine r_blk [qO (.aload_n 0), qO (.iload_n 2), qO (.iload_n 3), qO (.iload_n 1)] (pc' := 73) (L' := [zR 34 0, zI l1, zI l2, zI l3, zU, zU]) (S' := [zI l1, zI l3, zI l2, zR 34 0]) (σ' := σ) (Ps := []) (by decide +kernel) rfl trivial ?_
    refine r_callVI (As := [zI l2, zI l3, zI l1]) (S := []) (Lc := [zR 34 0, zI l2, zI l3, zI l1, zU]) (d' := 2) (n := 3) (g := 34) (x := 0) (ci := 11) kX11_goesFrom vX11_goesFrom lkX11_129 (by decide +kernel) (by decide) rfl rfl (by decide) rfl rfl (Nat.le_of_ble_eq_true rfl) rfl rfl (Nat.le_of_ble_eq_true rfl) (h.monoI (fun z2 σ1 h => ?_))
    refine r_if_ne (off := 6) (tgt := 82) (by decide +kernel) (by decide) (fun c => ?_) (fun c => ?_)
    · replace h := h.1 c
      refine r_blk [qO (.bipush 10), qO (.aload_n 0), qO (.iload_n 2), qO (.iload_n 3)] (pc' := 87) (L' := [zR 34 0, zI l1, zI l2, zI l3, zU, zU]) (S' := [zI l3, zI l2, zR 34 0, zI 10]) (σ' := σ1) (Ps := []) (by decide +kernel) rfl trivial ?_
      refine r_callVI (As := [zI l2, zI l3]) (S := [zI 10]) (Lc := [zR 34 0, zI l2, zI l3]) (d' := 0) (n := 2) (g := 34) (x := 0) (ci := 11) kX11_get vX11_get lkX11_106 (by decide +kernel) (by decide) rfl rfl (by decide) rfl rfl (Nat.le_of_ble_eq_true rfl) rfl rfl (Nat.le_of_ble_eq_true rfl) (h.monoI (fun z4 σ3 h => ?_))
      refine r_blk [qO .imul, qO (.aload_n 0), qO (.iload_n 2), qO (.iconst 1), qO (.iload_n 3), qO .isub] (pc' := 96) (L' := [zR 34 0, zI l1, zI l2, zI l3, zU, zU]) (S' := [zI (1 - l3), zI l2, zR 34 0, zI (10 * z4)]) (σ' := σ3) (Ps := [-2147483648 ≤ 10 * z4 ∧ 10 * z4 ≤ 2147483647, -2147483648 ≤ 1 - l3 ∧ 1 - l3 ≤ 2147483647]) (by decide +kernel) rfl ⟨h.1, h.2.1, trivial⟩ ?_
      replace h := h.2.2
      refine r_callVI (As := [zI l2, zI (1 - l3)]) (S := [zI (10 * z4)]) (Lc := [zR 34 0, zI l2, zI (1 - l3)]) (d' := 0) (n := 2) (g := 34) (x := 0) (ci := 11) kX11_get vX11_get lkX11_106 (by decide +kernel) (by decide) rfl rfl (by decide) rfl rfl (Nat.le_of_ble_eq_true rfl) rfl rfl (Nat.le_of_ble_eq_true rfl) (h.monoI (fun z6 σ5 h => ?_))
      refine r_blk [qO .iadd, qO (.istore 4), qO (.aload_n 0), qF (.getfield 44) 11 16, qO (.iload 4), qO (.aload_n 0), qO (.iload_n 2), qO (.iconst 2)] (pc' := 111) (L' := [zR 34 0, zI l1, zI l2, zI l3, zI ((10 * z4) + z6), zU]) (S' := [zI 2, zI l2, zR 34 0, zI ((10 * z4) + z6), zR 46 0]) (σ' := σ5) (Ps := [-2147483648 ≤ (10 * z4) + z6 ∧ (10 * z4) + z6 ≤ 2147483647]) (by decide +kernel) rfl ⟨h.1, trivial⟩ ?_
      replace h := h.2
      refine r_callVI (As := [zI l2, zI 2]) (S := [zI ((10 * z4) + z6), zR 46 0]) (Lc := [zR 34 0, zI l2, zI 2]) (d' := 0) (n := 2) (g := 34) (x := 0) (ci := 11) kX11_get vX11_get lkX11_106 (by decide +kernel) (by decide) rfl rfl (by decide) rfl rfl (Nat.le_of_ble_eq_true rfl) rfl rfl (Nat.le_of_ble_eq_true rfl) (h.monoI (fun z8 σ7 h => ?_))
      refine r_blk [qO (.aload_n 0), qF (.getfield 44) 11 16, qO (.iload 4), qO .iaload] (pc' := 121) (L' := [zR 34 0, zI l1, zI l2, zI l3, zI ((10 * z4) + z6), zU]) (S' := [zI (σ7 46 0 (((10 * z4) + z6).toNat)), zI z8, zI ((10 * z4) + z6), zR 46 0]) (σ' := σ7) (Ps := [0 ≤ (10 * z4) + z6 ∧ (10 * z4) + z6 < 100]) (by decide +kernel) rfl ⟨h.1, trivial⟩ ?_
      replace h := h.2
      refine r_icmp_ge (off := 12) (tgt := 133) (by decide +kernel) (by decide) (fun c => ?_) (fun c => ?_)
      · replace h := h.1 c
        refine r_blk [qO (.aload_n 0), qF (.getfield 44) 11 16, qO (.iload 4), qO .iaload, qO .iastore, qO (.iinc 3 1), qO (.goto (-80))] (pc' := 64) (L' := [zR 34 0, zI l1, zI l2, zI (l3 + 1), zI ((10 * z4) + z6), zU]) (S' := []) (σ' := (zup σ7 46 0 (((10 * z4) + z6).toNat) (σ7 46 0 (((10 * z4) + z6).toNat)))) (Ps := [0 ≤ (10 * z4) + z6 ∧ (10 * z4) + z6 < 100, 0 ≤ (10 * z4) + z6 ∧ (10 * z4) + z6 < 100, -2147483648 ≤ l3 + 1 ∧ l3 + 1 ≤ 2147483647]) (by decide +kernel) rfl ⟨h.1, h.2.1, h.2.2.1, trivial⟩ ?_
        replace h := h.2.2.2
        generalize hσ9 : (zup σ7 46 0 (((10 * z4) + z6).toNat) (σ7 46 0 (((10 * z4) + z6).toNat))) = σ9
        replace h := h σ9 hσ9.symm
        exact Runs.fg (fgE (fgE (fgE (fgE (fgU (fgU fg0)))))) h
      · replace h := h.2 c
        refine r_blk [qO (.aload_n 0), qO (.iload_n 2), qO (.iconst 2)] (pc' := 127) (L' := [zR 34 0, zI l1, zI l2, zI l3, zI ((10 * z4) + z6), zU]) (S' := [zI 2, zI l2, zR 34 0, zI ((10 * z4) + z6), zR 46 0]) (σ' := σ7) (Ps := []) (by decide +kernel) rfl trivial ?_
        refine r_callVI (As := [zI l2, zI 2]) (S := [zI ((10 * z4) + z6), zR 46 0]) (Lc := [zR 34 0, zI l2, zI 2]) (d' := 0) (n := 2) (g := 34) (x := 0) (ci := 11) kX11_get vX11_get lkX11_106 (by decide +kernel) (by decide) rfl rfl (by decide) rfl rfl (Nat.le_of_ble_eq_true rfl) rfl rfl (Nat.le_of_ble_eq_true rfl) (h.monoI (fun z11 σ10 h => ?_))
        refine r_blk [qO (.goto 10), qO .iastore, qO (.iinc 3 1), qO (.goto (-80))] (pc' := 64) (L' := [zR 34 0, zI l1, zI l2, zI (l3 + 1), zI ((10 * z4) + z6), zU]) (S' := []) (σ' := (zup σ10 46 0 (((10 * z4) + z6).toNat) z11)) (Ps := [0 ≤ (10 * z4) + z6 ∧ (10 * z4) + z6 < 100, -2147483648 ≤ l3 + 1 ∧ l3 + 1 ≤ 2147483647]) (by decide +kernel) rfl ⟨h.1, h.2.1, trivial⟩ ?_
        replace h := h.2.2
        exact Runs.fg (fgE (fgE (fgE (fgE (fgU (fgU fg0)))))) h
    · replace h := h.2 c
      refine r_blk [qO (.goto 62), qO (.iinc 3 1), qO (.goto (-80))] (pc' := 64) (L' := [zR 34 0, zI l1, zI l2, zI (l3 + 1), zU, zU]) (S' := []) (σ' := σ1) (Ps := [-2147483648 ≤ l3 + 1 ∧ l3 + 1 ≤ 2147483647]) (by decide +kernel) rfl ⟨h.1, trivial⟩ ?_
      replace h := h.2
      exact Runs.fg (fgE (fgE (fgE (fgE (fgU (fgU fg0)))))) h
theorem gX11_findsFar_155 (l2 : Int) (σ : Hp) {Q : Option Int → Hp → Prop} (h : ((10 ≤ l2 → Q none σ) ∧ (¬ 10 ≤ l2 → Runs 3 mX11_findsFar 163 [zR 34 0, zU, zI l2, zI 0, zU, zU] [] σ Q))) : Runs 3 mX11_findsFar 155 [zR 34 0, zU, zI l2, zU, zU, zU] [] σ Q := by
  refine r_blk [qO (.iload_n 2), qO (.bipush 10)] (pc' := 158) (L' := [zR 34 0, zU, zI l2, zU, zU, zU]) (S' := [zI 10, zI l2]) (σ' := σ) (Ps := []) (by decide +kernel) rfl trivial ?_
  refine r_icmp_ge (off := 149) (tgt := 307) (by decide +kernel) (by decide) (fun c => ?_) (fun c => ?_)
  · replace h := h.1 c
    exact r_retv (by decide +kernel) rfl h
  · replace h := h.2 c
    refine r_blk [qO (.iconst 0), qO (.istore_n 3)] (pc' := 163) (L' := [zR 34 0, zU, zI l2, zI 0, zU, zU]) (S' := []) (σ' := σ) (Ps := []) (by decide +kernel) rfl trivial ?_
    exact Runs.fg (fgE (fgU (fgE (fgE (fgU (fgU fg0)))))) h
theorem gX11_findsFar_163 (l2 : Int) (l3 : Int) (σ : Hp) {Q : Option Int → Hp → Prop} (h : ((10 ≤ l3 → (-2147483648 ≤ l2 + 1 ∧ l2 + 1 ≤ 2147483647) ∧ Runs 3 mX11_findsFar 155 [zR 34 0, zU, zI (l2 + 1), zU, zU, zU] [] σ Q) ∧ (¬ 10 ≤ l3 → Runs 3 mX11_findsFar 172 [zR 34 0, zU, zI l2, zI l3, zI 0, zU] [] σ Q))) : Runs 3 mX11_findsFar 163 [zR 34 0, zU, zI l2, zI l3, zU, zU] [] σ Q := by
  refine r_blk [qO (.iload_n 3), qO (.bipush 10)] (pc' := 166) (L' := [zR 34 0, zU, zI l2, zI l3, zU, zU]) (S' := [zI 10, zI l3]) (σ' := σ) (Ps := []) (by decide +kernel) rfl trivial ?_
  refine r_icmp_ge (off := 135) (tgt := 301) (by decide +kernel) (by decide) (fun c => ?_) (fun c => ?_)
  · replace h := h.1 c
    refine r_blk [qO (.iinc 2 1), qO (.goto (-149))] (pc' := 155) (L' := [zR 34 0, zU, zI (l2 + 1), zI l3, zU, zU]) (S' := []) (σ' := σ) (Ps := [-2147483648 ≤ l2 + 1 ∧ l2 + 1 ≤ 2147483647]) (by decide +kernel) rfl ⟨h.1, trivial⟩ ?_
    replace h := h.2
    exact Runs.fg (fgE (fgU (fgE (fgU (fgU (fgU fg0)))))) h
  · replace h := h.2 c
    refine r_blk [qO (.iconst 0), qO (.istore 4)] (pc' := 172) (L' := [zR 34 0, zU, zI l2, zI l3, zI 0, zU]) (S' := []) (σ' := σ) (Ps := []) (by decide +kernel) rfl trivial ?_
    exact Runs.fg (fgE (fgU (fgE (fgE (fgE (fgU fg0)))))) h
theorem gX11_findsFar_172 (l2 : Int) (l3 : Int) (l4 : Int) (σ : Hp) {Q : Option Int → Hp → Prop} (h : ((10 ≤ l4 → (-2147483648 ≤ l3 + 1 ∧ l3 + 1 ≤ 2147483647) ∧ Runs 3 mX11_findsFar 163 [zR 34 0, zU, zI l2, zI (l3 + 1), zU, zU] [] σ Q) ∧ (¬ 10 ≤ l4 → (-2147483648 ≤ 10 * l3 ∧ 10 * l3 ≤ 2147483647) ∧ (-2147483648 ≤ (10 * l3) + l2 ∧ (10 * l3) + l2 ≤ 2147483647) ∧ (0 ≤ (10 * l3) + l2 ∧ (10 * l3) + l2 < 100) ∧ ((1000000000 ≤ σ 46 0 (((10 * l3) + l2).toNat) → Runs 3 mX11_findsFar 212 [zR 34 0, zU, zI l2, zI l3, zI l4, zU] [] σ Q) ∧ (¬ 1000000000 ≤ σ 46 0 (((10 * l3) + l2).toNat) → (-2147483648 ≤ 10 * l2 ∧ 10 * l2 ≤ 2147483647) ∧ (-2147483648 ≤ (10 * l2) + l4 ∧ (10 * l2) + l4 ≤ 2147483647) ∧ (0 ≤ (10 * l2) + l4 ∧ (10 * l2) + l4 < 100) ∧ ((σ 46 0 (((10 * l2) + l4).toNat) < 1000000000 → (-2147483648 ≤ 10 * l3 ∧ 10 * l3 ≤ 2147483647) ∧ (-2147483648 ≤ (10 * l3) + l2 ∧ (10 * l3) + l2 ≤ 2147483647) ∧ (0 ≤ (10 * l3) + l2 ∧ (10 * l3) + l2 < 100) ∧ (-2147483648 ≤ 10 * l2 ∧ 10 * l2 ≤ 2147483647) ∧ (-2147483648 ≤ (10 * l2) + l4 ∧ (10 * l2) + l4 ≤ 2147483647) ∧ (0 ≤ (10 * l2) + l4 ∧ (10 * l2) + l4 < 100) ∧ (-2147483648 ≤ (σ 46 0 (((10 * l3) + l2).toNat)) + (σ 46 0 (((10 * l2) + l4).toNat)) ∧ (σ 46 0 (((10 * l3) + l2).toNat)) + (σ 46 0 (((10 * l2) + l4).toNat)) ≤ 2147483647) ∧ (-2147483648 ≤ 10 * l3 ∧ 10 * l3 ≤ 2147483647) ∧ (-2147483648 ≤ (10 * l3) + l4 ∧ (10 * l3) + l4 ≤ 2147483647) ∧ (-2147483648 ≤ 10 * l3 ∧ 10 * l3 ≤ 2147483647) ∧ (-2147483648 ≤ (10 * l3) + l4 ∧ (10 * l3) + l4 ≤ 2147483647) ∧ (0 ≤ (10 * l3) + l4 ∧ (10 * l3) + l4 < 100) ∧ ((σ 46 0 (((10 * l3) + l4).toNat) ≤ (σ 46 0 (((10 * l3) + l2).toNat)) + (σ 46 0 (((10 * l2) + l4).toNat)) → (-2147483648 ≤ 10 * l3 ∧ 10 * l3 ≤ 2147483647) ∧ (-2147483648 ≤ (10 * l3) + l4 ∧ (10 * l3) + l4 ≤ 2147483647) ∧ (0 ≤ (10 * l3) + l4 ∧ (10 * l3) + l4 < 100) ∧ (0 ≤ (10 * l3) + l4 ∧ (10 * l3) + l4 < 100) ∧ (-2147483648 ≤ l4 + 1 ∧ l4 + 1 ≤ 2147483647) ∧ ∀ σ1 : Hp, σ1 = (zup σ 46 0 (((10 * l3) + l4).toNat) (σ 46 0 (((10 * l3) + l4).toNat))) → Runs 3 mX11_findsFar 172 [zR 34 0, zU, zI l2, zI l3, zI (l4 + 1), zU] [] σ1 Q) ∧ (¬ σ 46 0 (((10 * l3) + l4).toNat) ≤ (σ 46 0 (((10 * l3) + l2).toNat)) + (σ 46 0 (((10 * l2) + l4).toNat)) → (0 ≤ (10 * l3) + l4 ∧ (10 * l3) + l4 < 100) ∧ (-2147483648 ≤ l4 + 1 ∧ l4 + 1 ≤ 2147483647) ∧ ∀ σ2 : Hp, σ2 = (zup σ 46 0 (((10 * l3) + l4).toNat) ((σ 46 0 (((10 * l3) + l2).toNat)) + (σ 46 0 (((10 * l2) + l4).toNat)))) → Runs 3 mX11_findsFar 172 [zR 34 0, zU, zI l2, zI l3, zI (l4 + 1), zU] [] σ2 Q))) ∧ (¬ σ 46 0 (((10 * l2) + l4).toNat) < 1000000000 → Runs 3 mX11_findsFar 212 [zR 34 0, zU, zI l2, zI l3, zI l4, zU] [] σ Q))))))) : Runs 3 mX11_findsFar 172 [zR 34 0, zU, zI l2, zI l3, zI l4, zU] [] σ Q := by
  refine r_blk [qO (.iload 4), qO (.bipush 10)] (pc' := 176) (L' := [zR 34 0, zU, zI l2, zI l3, zI l4, zU]) (S' := [zI 10, zI l4]) (σ' := σ) (Ps := []) (by decide +kernel) rfl trivial ?_
  refine r_icmp_ge (off := 119) (tgt := 295) (by decide +kernel) (by decide) (fun c => ?_) (fun c => ?_)
  · replace h := h.1 c
    refine r_blk [qO (.iinc 3 1), qO (.goto (-135))] (pc' := 163) (L' := [zR 34 0, zU, zI l2, zI (l3 + 1), zI l4, zU]) (S' := []) (σ' := σ) (Ps := [-2147483648 ≤ l3 + 1 ∧ l3 + 1 ≤ 2147483647]) (by decide +kernel) rfl ⟨h.1, trivial⟩ ?_
    replace h := h.2
    exact Runs.fg (fgE (fgU (fgE (fgE (fgU (fgU fg0)))))) h
  · replace h := h.2 c
    refine r_blk [qO (.aload_n 0), qF (.getfield 44) 11 16, qO (.bipush 10), qO (.iload_n 3), qO .imul, qO (.iload_n 2), qO .iadd, qO .iaload, qC (.ldc 155) 1000000000] (pc' := 192) (L' := [zR 34 0, zU, zI l2, zI l3, zI l4, zU]) (S' := [zI 1000000000, zI (σ 46 0 (((10 * l3) + l2).toNat))]) (σ' := σ) (Ps := [-2147483648 ≤ 10 * l3 ∧ 10 * l3 ≤ 2147483647, -2147483648 ≤ (10 * l3) + l2 ∧ (10 * l3) + l2 ≤ 2147483647, 0 ≤ (10 * l3) + l2 ∧ (10 * l3) + l2 < 100]) (by decide +kernel) rfl ⟨h.1, h.2.1, h.2.2.1, trivial⟩ ?_
    replace h := h.2.2.2
    refine r_icmp_ge (off := 20) (tgt := 212) (by decide +kernel) (by decide) (fun c => ?_) (fun c => ?_)
    · replace h := h.1 c
      exact Runs.fg (fgE (fgU (fgE (fgE (fgE (fgU fg0)))))) h
    · replace h := h.2 c
      refine r_blk [qO (.aload_n 0), qF (.getfield 44) 11 16, qO (.bipush 10), qO (.iload_n 2), qO .imul, qO (.iload 4), qO .iadd, qO .iaload, qC (.ldc 155) 1000000000] (pc' := 209) (L' := [zR 34 0, zU, zI l2, zI l3, zI l4, zU]) (S' := [zI 1000000000, zI (σ 46 0 (((10 * l2) + l4).toNat))]) (σ' := σ) (Ps := [-2147483648 ≤ 10 * l2 ∧ 10 * l2 ≤ 2147483647, -2147483648 ≤ (10 * l2) + l4 ∧ (10 * l2) + l4 ≤ 2147483647, 0 ≤ (10 * l2) + l4 ∧ (10 * l2) + l4 < 100]) (by decide +kernel) rfl ⟨h.1, h.2.1, h.2.2.1, trivial⟩ ?_
      replace h := h.2.2.2
      refine r_icmp_lt (off := 8) (tgt := 217) (by decide +kernel) (by decide) (fun c => ?_) (fun c => ?_)
      · replace h := h.1 c
        refine r_blk [qO (.aload_n 0), qF (.getfield 44) 11 16, qO (.bipush 10), qO (.iload_n 3), qO .imul, qO (.iload_n 2), qO .iadd, qO .iaload, qO (.aload_n 0), qF (.getfield 44) 11 16, qO (.bipush 10), qO (.iload_n 2), qO .imul, qO (.iload 4), qO .iadd, qO .iaload, qO .iadd, qO (.istore 5), qO (.aload_n 0), qF (.getfield 44) 11 16, qO (.bipush 10), qO (.iload_n 3), qO .imul, qO (.iload 4), qO .iadd, qO (.iload 5), qO (.aload_n 0), qF (.getfield 44) 11 16, qO (.bipush 10), qO (.iload_n 3), qO .imul, qO (.iload 4), qO .iadd, qO .iaload] (pc' := 268) (L' := [zR 34 0, zU, zI l2, zI l3, zI l4, zI ((σ 46 0 (((10 * l3) + l2).toNat)) + (σ 46 0 (((10 * l2) + l4).toNat)))]) (S' := [zI (σ 46 0 (((10 * l3) + l4).toNat)), zI ((σ 46 0 (((10 * l3) + l2).toNat)) + (σ 46 0 (((10 * l2) + l4).toNat))), zI ((10 * l3) + l4), zR 46 0]) (σ' := σ) (Ps := [-2147483648 ≤ 10 * l3 ∧ 10 * l3 ≤ 2147483647, -2147483648 ≤ (10 * l3) + l2 ∧ (10 * l3) + l2 ≤ 2147483647, 0 ≤ (10 * l3) + l2 ∧ (10 * l3) + l2 < 100, -2147483648 ≤ 10 * l2 ∧ 10 * l2 ≤ 2147483647, -2147483648 ≤ (10 * l2) + l4 ∧ (10 * l2) + l4 ≤ 2147483647, 0 ≤ (10 * l2) + l4 ∧ (10 * l2) + l4 < 100, -2147483648 ≤ (σ 46 0 (((10 * l3) + l2).toNat)) + (σ 46 0 (((10 * l2) + l4).toNat)) ∧ (σ 46 0 (((10 * l3) + l2).toNat)) + (σ 46 0 (((10 * l2) + l4).toNat)) ≤ 2147483647, -2147483648 ≤ 10 * l3 ∧ 10 * l3 ≤ 2147483647, -2147483648 ≤ (10 * l3) + l4 ∧ (10 * l3) + l4 ≤ 2147483647, -2147483648 ≤ 10 * l3 ∧ 10 * l3 ≤ 2147483647, -2147483648 ≤ (10 * l3) + l4 ∧ (10 * l3) + l4 ≤ 2147483647, 0 ≤ (10 * l3) + l4 ∧ (10 * l3) + l4 < 100]) (by decide +kernel) rfl ⟨h.1, h.2.1, h.2.2.1, h.2.2.2.1, h.2.2.2.2.1, h.2.2.2.2.2.1, h.2.2.2.2.2.2.1, h.2.2.2.2.2.2.2.1, h.2.2.2.2.2.2.2.2.1, h.2.2.2.2.2.2.2.2.2.1, h.2.2.2.2.2.2.2.2.2.2.1, h.2.2.2.2.2.2.2.2.2.2.2.1, trivial⟩ ?_
        replace h := h.2.2.2.2.2.2.2.2.2.2.2.2
        refine r_icmp_ge (off := 8) (tgt := 276) (by decide +kernel) (by decide) (fun c => ?_) (fun c => ?_)
        · replace h := h.1 c
          refine r_blk [qO (.aload_n 0), qF (.getfield 44) 11 16, qO (.bipush 10), qO (.iload_n 3), qO .imul, qO (.iload 4), qO .iadd, qO .iaload, qO .iastore, qO (.iinc 4 1), qO (.goto (-120))] (pc' := 172) (L' := [zR 34 0, zU, zI l2, zI l3, zI (l4 + 1), zI ((σ 46 0 (((10 * l3) + l2).toNat)) + (σ 46 0 (((10 * l2) + l4).toNat)))]) (S' := []) (σ' := (zup σ 46 0 (((10 * l3) + l4).toNat) (σ 46 0 (((10 * l3) + l4).toNat)))) (Ps := [-2147483648 ≤ 10 * l3 ∧ 10 * l3 ≤ 2147483647, -2147483648 ≤ (10 * l3) + l4 ∧ (10 * l3) + l4 ≤ 2147483647, 0 ≤ (10 * l3) + l4 ∧ (10 * l3) + l4 < 100, 0 ≤ (10 * l3) + l4 ∧ (10 * l3) + l4 < 100, -2147483648 ≤ l4 + 1 ∧ l4 + 1 ≤ 2147483647]) (by decide +kernel) rfl ⟨h.1, h.2.1, h.2.2.1, h.2.2.2.1, h.2.2.2.2.1, trivial⟩ ?_
          replace h := h.2.2.2.2.2
          generalize hσ1 : (zup σ 46 0 (((10 * l3) + l4).toNat) (σ 46 0 (((10 * l3) + l4).toNat))) = σ1
          replace h := h σ1 hσ1.symm
          exact Runs.fg (fgE (fgU (fgE (fgE (fgE (fgU fg0)))))) h
        · replace h := h.2 c
          refine r_blk [qO (.iload 5), qO (.goto 15), qO .iastore, qO (.iinc 4 1), qO (.goto (-120))] (pc' := 172) (L' := [zR 34 0, zU, zI l2, zI l3, zI (l4 + 1), zI ((σ 46 0 (((10 * l3) + l2).toNat)) + (σ 46 0 (((10 * l2) + l4).toNat)))]) (S' := []) (σ' := (zup σ 46 0 (((10 * l3) + l4).toNat) ((σ 46 0 (((10 * l3) + l2).toNat)) + (σ 46 0 (((10 * l2) + l4).toNat))))) (Ps := [0 ≤ (10 * l3) + l4 ∧ (10 * l3) + l4 < 100, -2147483648 ≤ l4 + 1 ∧ l4 + 1 ≤ 2147483647]) (by decide +kernel) rfl ⟨h.1, h.2.1, trivial⟩ ?_
          replace h := h.2.2
          generalize hσ2 : (zup σ 46 0 (((10 * l3) + l4).toNat) ((σ 46 0 (((10 * l3) + l2).toNat)) + (σ 46 0 (((10 * l2) + l4).toNat)))) = σ2
          replace h := h σ2 hσ2.symm
          exact Runs.fg (fgE (fgU (fgE (fgE (fgE (fgU fg0)))))) h
      · replace h := h.2 c
        exact Runs.fg (fgE (fgU (fgE (fgE (fgE (fgU fg0)))))) h
theorem gX11_findsFar_212 (l2 : Int) (l3 : Int) (l4 : Int) (σ : Hp) {Q : Option Int → Hp → Prop} (h : (-2147483648 ≤ 10 * l3 ∧ 10 * l3 ≤ 2147483647) ∧ (-2147483648 ≤ (10 * l3) + l4 ∧ (10 * l3) + l4 ≤ 2147483647) ∧ (-2147483648 ≤ 10 * l3 ∧ 10 * l3 ≤ 2147483647) ∧ (-2147483648 ≤ (10 * l3) + l4 ∧ (10 * l3) + l4 ≤ 2147483647) ∧ (0 ≤ (10 * l3) + l4 ∧ (10 * l3) + l4 < 100) ∧ ((σ 46 0 (((10 * l3) + l4).toNat) ≤ 1000000000 → (-2147483648 ≤ 10 * l3 ∧ 10 * l3 ≤ 2147483647) ∧ (-2147483648 ≤ (10 * l3) + l4 ∧ (10 * l3) + l4 ≤ 2147483647) ∧ (0 ≤ (10 * l3) + l4 ∧ (10 * l3) + l4 < 100) ∧ (0 ≤ (10 * l3) + l4 ∧ (10 * l3) + l4 < 100) ∧ (-2147483648 ≤ l4 + 1 ∧ l4 + 1 ≤ 2147483647) ∧ ∀ σ1 : Hp, σ1 = (zup σ 46 0 (((10 * l3) + l4).toNat) (σ 46 0 (((10 * l3) + l4).toNat))) → Runs 3 mX11_findsFar 172 [zR 34 0, zU, zI l2, zI l3, zI (l4 + 1), zU] [] σ1 Q) ∧ (¬ σ 46 0 (((10 * l3) + l4).toNat) ≤ 1000000000 → (0 ≤ (10 * l3) + l4 ∧ (10 * l3) + l4 < 100) ∧ (-2147483648 ≤ l4 + 1 ∧ l4 + 1 ≤ 2147483647) ∧ Runs 3 mX11_findsFar 172 [zR 34 0, zU, zI l2, zI l3, zI (l4 + 1), zU] [] (zup σ 46 0 (((10 * l3) + l4).toNat) 1000000000) Q))) : Runs 3 mX11_findsFar 212 [zR 34 0, zU, zI l2, zI l3, zI l4, zU] [] σ Q := by
  refine r_blk [qC (.ldc 155) 1000000000, qO (.goto 27), qO (.istore 5), qO (.aload_n 0), qF (.getfield 44) 11 16, qO (.bipush 10), qO (.iload_n 3), qO .imul, qO (.iload 4), qO .iadd, qO (.iload 5), qO (.aload_n 0), qF (.getfield 44) 11 16, qO (.bipush 10), qO (.iload_n 3), qO .imul, qO (.iload 4), qO .iadd, qO .iaload] (pc' := 268) (L' := [zR 34 0, zU, zI l2, zI l3, zI l4, zI 1000000000]) (S' := [zI (σ 46 0 (((10 * l3) + l4).toNat)), zI 1000000000, zI ((10 * l3) + l4), zR 46 0]) (σ' := σ) (Ps := [-2147483648 ≤ 10 * l3 ∧ 10 * l3 ≤ 2147483647, -2147483648 ≤ (10 * l3) + l4 ∧ (10 * l3) + l4 ≤ 2147483647, -2147483648 ≤ 10 * l3 ∧ 10 * l3 ≤ 2147483647, -2147483648 ≤ (10 * l3) + l4 ∧ (10 * l3) + l4 ≤ 2147483647, 0 ≤ (10 * l3) + l4 ∧ (10 * l3) + l4 < 100]) (by decide +kernel) rfl ⟨h.1, h.2.1, h.2.2.1, h.2.2.2.1, h.2.2.2.2.1, trivial⟩ ?_
  replace h := h.2.2.2.2.2
  refine r_icmp_ge (off := 8) (tgt := 276) (by decide +kernel) (by decide) (fun c => ?_) (fun c => ?_)
  · replace h := h.1 c
    refine r_blk [qO (.aload_n 0), qF (.getfield 44) 11 16, qO (.bipush 10), qO (.iload_n 3), qO .imul, qO (.iload 4), qO .iadd, qO .iaload, qO .iastore, qO (.iinc 4 1), qO (.goto (-120))] (pc' := 172) (L' := [zR 34 0, zU, zI l2, zI l3, zI (l4 + 1), zI 1000000000]) (S' := []) (σ' := (zup σ 46 0 (((10 * l3) + l4).toNat) (σ 46 0 (((10 * l3) + l4).toNat)))) (Ps := [-2147483648 ≤ 10 * l3 ∧ 10 * l3 ≤ 2147483647, -2147483648 ≤ (10 * l3) + l4 ∧ (10 * l3) + l4 ≤ 2147483647, 0 ≤ (10 * l3) + l4 ∧ (10 * l3) + l4 < 100, 0 ≤ (10 * l3) + l4 ∧ (10 * l3) + l4 < 100, -2147483648 ≤ l4 + 1 ∧ l4 + 1 ≤ 2147483647]) (by decide +kernel) rfl ⟨h.1, h.2.1, h.2.2.1, h.2.2.2.1, h.2.2.2.2.1, trivial⟩ ?_
    replace h := h.2.2.2.2.2
    generalize hσ1 : (zup σ 46 0 (((10 * l3) + l4).toNat) (σ 46 0 (((10 * l3) + l4).toNat))) = σ1
    replace h := h σ1 hσ1.symm
    exact Runs.fg (fgE (fgU (fgE (fgE (fgE (fgU fg0)))))) h
  · replace h := h.2 c
    refine r_blk [qO (.iload 5), qO (.goto 15), qO .iastore, qO (.iinc 4 1), qO (.goto (-120))] (pc' := 172) (L' := [zR 34 0, zU, zI l2, zI l3, zI (l4 + 1), zI 1000000000]) (S' := []) (σ' := (zup σ 46 0 (((10 * l3) + l4).toNat) 1000000000)) (Ps := [0 ≤ (10 * l3) + l4 ∧ (10 * l3) + l4 < 100, -2147483648 ≤ l4 + 1 ∧ l4 + 1 ≤ 2147483647]) (by decide +kernel) rfl ⟨h.1, h.2.1, trivial⟩ ?_
    replace h := h.2.2
    exact Runs.fg (fgE (fgU (fgE (fgE (fgE (fgU fg0)))))) h
theorem gX11_apartAt_0 (a0 : Int) (σ : Hp) {Q : Option Int → Hp → Prop} (h : Runs 3 mX11_findsFar 0 [zR 34 0, zI a0, zU, zU, zU, zU] [] σ (rV (fun σ1 => Runs 4 mX11_apartAt 9 [zR 34 0, zU, zI 0, zI 0, zU] [] σ1 Q))) : Runs 4 mX11_apartAt 0 [zR 34 0, zI a0, zU, zU, zU] [] σ Q := by
  refine r_blk [qO (.aload_n 0), qO (.iload_n 1)] (pc' := 2) (L' := [zR 34 0, zI a0, zU, zU, zU]) (S' := [zI a0, zR 34 0]) (σ' := σ) (Ps := []) (by decide +kernel) rfl trivial ?_
  refine r_callVV (As := [zI a0]) (S := []) (Lc := [zR 34 0, zI a0, zU, zU, zU, zU]) (d' := 3) (n := 1) (g := 34) (x := 0) (ci := 11) kX11_findsFar vX11_findsFar lkX11_156 (by decide +kernel) (by decide) rfl rfl (by decide) rfl rfl (Nat.le_of_ble_eq_true rfl) rfl rfl (Nat.le_of_ble_eq_true rfl) (h.monoV (fun σ1 h => ?_))
  refine r_blk [qO (.iconst 0), qO (.istore_n 2), qO (.iconst 0), qO (.istore_n 3)] (pc' := 9) (L' := [zR 34 0, zI a0, zI 0, zI 0, zU]) (S' := []) (σ' := σ1) (Ps := []) (by decide +kernel) rfl trivial ?_
  exact Runs.fg (fgE (fgU (fgE (fgE (fgU fg0))))) h
theorem gX11_apartAt_9 (l2 : Int) (l3 : Int) (σ : Hp) {Q : Option Int → Hp → Prop} (h : ((σ 36 0 0 ≤ l3 → Q (some l2) σ) ∧ (¬ σ 36 0 0 ≤ l3 → Runs 4 mX11_apartAt 22 [zR 34 0, zU, zI l2, zI l3, zI 0] [] σ Q))) : Runs 4 mX11_apartAt 9 [zR 34 0, zU, zI l2, zI l3, zU] [] σ Q := by
  refine r_blk [qO (.iload_n 3), qO (.aload_n 0), qF (.getfield 13) 11 1, qO (.iconst 0), qO .iaload] (pc' := 16) (L' := [zR 34 0, zU, zI l2, zI l3, zU]) (S' := [zI (σ 36 0 0), zI l3]) (σ' := σ) (Ps := [0 ≤ 0 ∧ 0 < 123]) (by decide +kernel) rfl ⟨(by decide), trivial⟩ ?_
  refine r_icmp_ge (off := 54) (tgt := 70) (by decide +kernel) (by decide) (fun c => ?_) (fun c => ?_)
  · replace h := h.1 c
    refine r_blk [qO (.iload_n 2)] (pc' := 71) (L' := [zR 34 0, zU, zI l2, zI l3, zU]) (S' := [zI l2]) (σ' := σ) (Ps := []) (by decide +kernel) rfl trivial ?_
    exact r_ret (by decide +kernel) rfl (fun _ => h)
  · replace h := h.2 c
    refine r_blk [qO (.iconst 0), qO (.istore 4)] (pc' := 22) (L' := [zR 34 0, zU, zI l2, zI l3, zI 0]) (S' := []) (σ' := σ) (Ps := []) (by decide +kernel) rfl trivial ?_
    exact Runs.fg (fgE (fgU (fgE (fgE (fgE fg0))))) h
theorem gX11_apartAt_22 (l2 : Int) (l3 : Int) (l4 : Int) (σ : Hp) {Q : Option Int → Hp → Prop} (h : ((σ 36 0 0 ≤ l4 → (-2147483648 ≤ l3 + 1 ∧ l3 + 1 ≤ 2147483647) ∧ Runs 4 mX11_apartAt 9 [zR 34 0, zU, zI l2, zI (l3 + 1), zU] [] σ Q) ∧ (¬ σ 36 0 0 ≤ l4 → (-2147483648 ≤ 10 * l3 ∧ 10 * l3 ≤ 2147483647) ∧ (-2147483648 ≤ (10 * l3) + l4 ∧ (10 * l3) + l4 ≤ 2147483647) ∧ (0 ≤ (10 * l3) + l4 ∧ (10 * l3) + l4 < 100) ∧ ((σ 46 0 (((10 * l3) + l4).toNat) < 1000000000 → (-2147483648 ≤ l2 + 0 ∧ l2 + 0 ≤ 2147483647) ∧ (-2147483648 ≤ l4 + 1 ∧ l4 + 1 ≤ 2147483647) ∧ Runs 4 mX11_apartAt 22 [zR 34 0, zU, zI (l2 + 0), zI l3, zI (l4 + 1)] [] σ Q) ∧ (¬ σ 46 0 (((10 * l3) + l4).toNat) < 1000000000 → (-2147483648 ≤ l2 + 1 ∧ l2 + 1 ≤ 2147483647) ∧ (-2147483648 ≤ l4 + 1 ∧ l4 + 1 ≤ 2147483647) ∧ Runs 4 mX11_apartAt 22 [zR 34 0, zU, zI (l2 + 1), zI l3, zI (l4 + 1)] [] σ Q))))) : Runs 4 mX11_apartAt 22 [zR 34 0, zU, zI l2, zI l3, zI l4] [] σ Q := by
  refine r_blk [qO (.iload 4), qO (.aload_n 0), qF (.getfield 13) 11 1, qO (.iconst 0), qO .iaload] (pc' := 30) (L' := [zR 34 0, zU, zI l2, zI l3, zI l4]) (S' := [zI (σ 36 0 0), zI l4]) (σ' := σ) (Ps := [0 ≤ 0 ∧ 0 < 123]) (by decide +kernel) rfl ⟨(by decide), trivial⟩ ?_
  refine r_icmp_ge (off := 34) (tgt := 64) (by decide +kernel) (by decide) (fun c => ?_) (fun c => ?_)
  · replace h := h.1 c
    refine r_blk [qO (.iinc 3 1), qO (.goto (-58))] (pc' := 9) (L' := [zR 34 0, zU, zI l2, zI (l3 + 1), zI l4]) (S' := []) (σ' := σ) (Ps := [-2147483648 ≤ l3 + 1 ∧ l3 + 1 ≤ 2147483647]) (by decide +kernel) rfl ⟨h.1, trivial⟩ ?_
    replace h := h.2
    exact Runs.fg (fgE (fgU (fgE (fgE (fgU fg0))))) h
  · replace h := h.2 c
    refine r_blk [qO (.iload_n 2), qO (.aload_n 0), qF (.getfield 44) 11 16, qO (.bipush 10), qO (.iload_n 3), qO .imul, qO (.iload 4), qO .iadd, qO .iaload, qC (.ldc 155) 1000000000] (pc' := 48) (L' := [zR 34 0, zU, zI l2, zI l3, zI l4]) (S' := [zI 1000000000, zI (σ 46 0 (((10 * l3) + l4).toNat)), zI l2]) (σ' := σ) (Ps := [-2147483648 ≤ 10 * l3 ∧ 10 * l3 ≤ 2147483647, -2147483648 ≤ (10 * l3) + l4 ∧ (10 * l3) + l4 ≤ 2147483647, 0 ≤ (10 * l3) + l4 ∧ (10 * l3) + l4 < 100]) (by decide +kernel) rfl ⟨h.1, h.2.1, h.2.2.1, trivial⟩ ?_
    replace h := h.2.2.2
    refine r_icmp_lt (off := 7) (tgt := 55) (by decide +kernel) (by decide) (fun c => ?_) (fun c => ?_)
    · replace h := h.1 c
      refine r_blk [qO (.iconst 0), qO .iadd, qO (.istore_n 2), qO (.iinc 4 1), qO (.goto (-39))] (pc' := 22) (L' := [zR 34 0, zU, zI (l2 + 0), zI l3, zI (l4 + 1)]) (S' := []) (σ' := σ) (Ps := [-2147483648 ≤ l2 + 0 ∧ l2 + 0 ≤ 2147483647, -2147483648 ≤ l4 + 1 ∧ l4 + 1 ≤ 2147483647]) (by decide +kernel) rfl ⟨h.1, h.2.1, trivial⟩ ?_
      replace h := h.2.2
      exact Runs.fg (fgE (fgU (fgE (fgE (fgE fg0))))) h
    · replace h := h.2 c
      refine r_blk [qO (.iconst 1), qO (.goto 4), qO .iadd, qO (.istore_n 2), qO (.iinc 4 1), qO (.goto (-39))] (pc' := 22) (L' := [zR 34 0, zU, zI (l2 + 1), zI l3, zI (l4 + 1)]) (S' := []) (σ' := σ) (Ps := [-2147483648 ≤ l2 + 1 ∧ l2 + 1 ≤ 2147483647, -2147483648 ≤ l4 + 1 ∧ l4 + 1 ≤ 2147483647]) (by decide +kernel) rfl ⟨h.1, h.2.1, trivial⟩ ?_
      replace h := h.2.2
      exact Runs.fg (fgE (fgU (fgE (fgE (fgE fg0))))) h
