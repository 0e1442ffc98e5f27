theorem gX11_isIn_0 (a0 : Int) (a1 : Int) (σ : Hp) {Q : Option Int → Hp → Prop} (h : ((a0 < 0 → Q (some 0) σ) ∧ (¬ a0 < 0 → ((a1 ≤ a0 → Q (some 0) σ) ∧ (¬ a1 ≤ a0 → Q (some 1) σ))))) : Runs 0 mX11_isIn 0 [zI a0, zI a1] [] σ Q := by
  refine r_blk [qO (.iload_n 0)] (pc' := 1) (L' := [zI a0, zI a1]) (S' := [zI a0]) (σ' := σ) (Ps := []) (by decide +kernel) rfl trivial ?_
  refine r_if_lt (off := 12) (tgt := 13) (by decide +kernel) (by decide) (fun c => ?_) (fun c => ?_)
  · replace h := h.1 c
    refine r_blk [qO (.iconst 0)] (pc' := 14) (L' := [zI a0, zI a1]) (S' := [zI 0]) (σ' := σ) (Ps := []) (by decide +kernel) rfl trivial ?_
    exact r_retz (by decide +kernel) rfl (by decide) h
  · replace h := h.2 c
    refine r_blk [qO (.iload_n 0), qO (.iload_n 1)] (pc' := 6) (L' := [zI a0, zI a1]) (S' := [zI a1, zI a0]) (σ' := σ) (Ps := []) (by decide +kernel) rfl trivial ?_
    refine r_icmp_ge (off := 7) (tgt := 13) (by decide +kernel) (by decide) (fun c => ?_) (fun c => ?_)
    · replace h := h.1 c
      refine r_blk [qO (.iconst 0)] (pc' := 14) (L' := [zI a0, zI a1]) (S' := [zI 0]) (σ' := σ) (Ps := []) (by decide +kernel) rfl trivial ?_
      exact r_retz (by decide +kernel) rfl (by decide) h
    · replace h := h.2 c
      refine r_blk [qO (.iconst 1), qO (.goto 4)] (pc' := 14) (L' := [zI a0, zI a1]) (S' := [zI 1]) (σ' := σ) (Ps := []) (by decide +kernel) rfl trivial ?_
      exact r_retz (by decide +kernel) rfl (by decide) h
theorem gX11_within_0 (a0 : Int) (a1 : Int) (a2 : Int) (σ : Hp) {Q : Option Int → Hp → Prop} (h : ((a1 ≤ a0 → ((a0 ≤ a2 → Q (some 0) σ) ∧ (¬ a0 ≤ a2 → Q (some (-6)) σ))) ∧ (¬ a1 ≤ a0 → Q (some (-4)) σ))) : Runs 0 mX11_within 0 [zI a0, zI a1, zI a2] [] σ Q := by
  refine r_blk [qO (.iload_n 0), qO (.iload_n 1)] (pc' := 2) (L' := [zI a0, zI a1, zI a2]) (S' := [zI a1, zI a0]) (σ' := σ) (Ps := []) (by decide +kernel) rfl trivial ?_
  refine r_icmp_ge (off := 8) (tgt := 10) (by decide +kernel) (by decide) (fun c => ?_) (fun c => ?_)
  · replace h := h.1 c
    refine r_blk [qO (.iload_n 0), qO (.iload_n 2)] (pc' := 12) (L' := [zI a0, zI a1, zI a2]) (S' := [zI a2, zI a0]) (σ' := σ) (Ps := []) (by decide +kernel) rfl trivial ?_
    refine r_icmp_le (off := 8) (tgt := 20) (by decide +kernel) (by decide) (fun c => ?_) (fun c => ?_)
    · replace h := h.1 c
      refine r_blk [qO (.iconst 0)] (pc' := 21) (L' := [zI a0, zI a1, zI a2]) (S' := [zI 0]) (σ' := σ) (Ps := []) (by decide +kernel) rfl trivial ?_
      exact r_ret (by decide +kernel) rfl (fun _ => h)
    · replace h := h.2 c
      refine r_blk [qO (.bipush (-6)), qO (.goto 4)] (pc' := 21) (L' := [zI a0, zI a1, zI a2]) (S' := [zI (-6)]) (σ' := σ) (Ps := []) (by decide +kernel) rfl trivial ?_
      exact r_ret (by decide +kernel) rfl (fun _ => h)
  · replace h := h.2 c
    refine r_blk [qO (.bipush (-4)), qO (.goto 14)] (pc' := 21) (L' := [zI a0, zI a1, zI a2]) (S' := [zI (-4)]) (σ' := σ) (Ps := []) (by decide +kernel) rfl trivial ?_
    exact r_ret (by decide +kernel) rfl (fun _ => h)
theorem gX11_get_0 (a0 : Int) (a1 : Int) (σ : Hp) {Q : Option Int → Hp → Prop} (h : (-2147483648 ≤ 5 * a0 ∧ 5 * a0 ≤ 2147483647) ∧ (-2147483648 ≤ 11 + (5 * a0) ∧ 11 + (5 * a0) ≤ 2147483647) ∧ (-2147483648 ≤ (11 + (5 * a0)) + a1 ∧ (11 + (5 * a0)) + a1 ≤ 2147483647) ∧ (0 ≤ (11 + (5 * a0)) + a1 ∧ (11 + (5 * a0)) + a1 < 123) ∧ Q (some (σ 36 0 (((11 + (5 * a0)) + a1).toNat))) σ) : Runs 0 mX11_get 0 [zR 34 0, zI a0, zI a1] [] σ Q := by
  refine r_blk [qO (.aload_n 0), qF (.getfield 13) 11 1, qO (.bipush 11), qO (.iconst 5), qO (.iload_n 1), qO .imul, qO .iadd, qO (.iload_n 2), qO .iadd, qO .iaload] (pc' := 13) (L' := [zR 34 0, zI a0, zI a1]) (S' := [zI (σ 36 0 (((11 + (5 * a0)) + a1).toNat))]) (σ' := σ) (Ps := [-2147483648 ≤ 5 * a0 ∧ 5 * a0 ≤ 2147483647, -2147483648 ≤ 11 + (5 * a0) ∧ 11 + (5 * a0) ≤ 2147483647, -2147483648 ≤ (11 + (5 * a0)) + a1 ∧ (11 + (5 * a0)) + a1 ≤ 2147483647, 0 ≤ (11 + (5 * a0)) + a1 ∧ (11 + (5 * a0)) + a1 < 123]) (by decide +kernel) rfl ⟨h.1, h.2.1, h.2.2.1, h.2.2.2.1, trivial⟩ ?_
  replace h := h.2.2.2.2
  exact r_ret (by decide +kernel) rfl (fun _ => h)
theorem gX11_of_0 (a0 : Int) (a1 : Int) (σ : Hp) {Q : Option Int → Hp → Prop} (h : (-2147483648 ≤ 4 * a0 ∧ 4 * a0 ≤ 2147483647) ∧ (-2147483648 ≤ 81 + (4 * a0) ∧ 81 + (4 * a0) ≤ 2147483647) ∧ (-2147483648 ≤ (81 + (4 * a0)) + a1 ∧ (81 + (4 * a0)) + a1 ≤ 2147483647) ∧ (0 ≤ (81 + (4 * a0)) + a1 ∧ (81 + (4 * a0)) + a1 < 123) ∧ Q (some (σ 36 0 (((81 + (4 * a0)) + a1).toNat))) σ) : Runs 0 mX11_of 0 [zR 34 0, zI a0, zI a1] [] σ Q := by
  refine r_blk [qO (.aload_n 0), qF (.getfield 13) 11 1, qO (.bipush 81), qO (.iconst 4), qO (.iload_n 1), qO .imul, qO .iadd, qO (.iload_n 2), qO .iadd, qO .iaload] (pc' := 13) (L' := [zR 34 0, zI a0, zI a1]) (S' := [zI (σ 36 0 (((81 + (4 * a0)) + a1).toNat))]) (σ' := σ) (Ps := [-2147483648 ≤ 4 * a0 ∧ 4 * a0 ≤ 2147483647, -2147483648 ≤ 81 + (4 * a0) ∧ 81 + (4 * a0) ≤ 2147483647, -2147483648 ≤ (81 + (4 * a0)) + a1 ∧ (81 + (4 * a0)) + a1 ≤ 2147483647, 0 ≤ (81 + (4 * a0)) + a1 ∧ (81 + (4 * a0)) + a1 < 123]) (by decide +kernel) rfl ⟨h.1, h.2.1, h.2.2.1, h.2.2.2.1, trivial⟩ ?_
  replace h := h.2.2.2.2
  exact r_ret (by decide +kernel) rfl (fun _ => h)
theorem gX11_isCorner_0 (a0 : Int) (σ : Hp) {Q : Option Int → Hp → Prop} (h : Runs 0 mX11_isIn 0 [zI a0, zI (σ 36 0 0)] [] σ (rI (fun z2 σ1 => (z2 = 0 ∨ z2 = 1) ∧ Q (some z2) σ1))) : Runs 1 mX11_isCorner 0 [zR 34 0, zI a0] [] σ Q := by
  refine r_blk [qO (.iload_n 1), qO (.aload_n 0), qF (.getfield 13) 11 1, qO (.iconst 0), qO .iaload] (pc' := 7) (L' := [zR 34 0, zI a0]) (S' := [zI (σ 36 0 0), zI a0]) (σ' := σ) (Ps := [0 ≤ 0 ∧ 0 < 123]) (by decide +kernel) rfl ⟨(by decide), trivial⟩ ?_
  refine r_callSI (As := [zI a0, zI (σ 36 0 0)]) (S := []) (Lc := [zI a0, zI (σ 36 0 0)]) (d' := 0) (n := 2) kX11_isIn vX11_isIn lkX11_62 (by decide +kernel) (by decide) rfl rfl (Nat.le_of_ble_eq_true rfl) rfl rfl (Nat.le_of_ble_eq_true rfl) (h.monoI (fun z2 σ1 h => ?_))
  exact r_retz (by decide +kernel) rfl h.1 h.2
theorem gX11_wayOf_0 (a0 : Int) (a1 : Int) (σ : Hp) {Q : Option Int → Hp → Prop} (h : ((¬ bitz (σ 36 0 4) a0 = 1 → ((bitz (σ 36 0 5) a0 = 1 → Q (some 2) σ) ∧ (¬ bitz (σ 36 0 5) a0 = 1 → ((¬ σ 36 0 8 = 1 → Runs 1 mX11_wayOf 55 [zR 34 0, zI a0, zI a1, zI (σ 36 0 8), zU, zU] [] σ Q) ∧ (σ 36 0 8 = 1 → Runs 0 mX11_get 0 [zR 34 0, zI a0, zI 3] [] σ (rI (fun z2 σ1 => ((¬ z2 = 1 → Runs 1 mX11_wayOf 55 [zR 34 0, zI a0, zI a1, zI (σ 36 0 8), zU, zU] [] σ1 Q) ∧ (z2 = 1 → Q (some 2) σ1))))))))) ∧ (bitz (σ 36 0 4) a0 = 1 → Q (some 3) σ))) : Runs 1 mX11_wayOf 0 [zR 34 0, zI a0, zI a1, zU, zU, zU] [] σ Q := by
  refine r_blk [qO (.aload_n 0), qF (.getfield 13) 11 1, qO (.iconst 4), qO .iaload, qO (.iload_n 1), qO .ishr, qO (.iconst 1), qO .iand, qO (.iconst 1)] (pc' := 11) (L' := [zR 34 0, zI a0, zI a1, zU, zU, zU]) (S' := [zI 1, zI (bitz (σ 36 0 4) a0)]) (σ' := σ) (Ps := [0 ≤ 4 ∧ 4 < 123]) (by decide +kernel) rfl ⟨(by decide), trivial⟩ ?_
  refine r_icmp_ne (off := 5) (tgt := 16) (by decide +kernel) (by decide) (fun c => ?_) (fun c => ?_)
  · replace h := h.1 c
    refine r_blk [qO (.aload_n 0), qF (.getfield 13) 11 1, qO (.bipush 8), qO .iaload, qO (.istore_n 3), qO (.aload_n 0), qF (.getfield 13) 11 1, qO (.iconst 5), qO .iaload, qO (.iload_n 1), qO .ishr, qO (.iconst 1), qO .iand, qO (.iconst 1)] (pc' := 35) (L' := [zR 34 0, zI a0, zI a1, zI (σ 36 0 8), zU, zU]) (S' := [zI 1, zI (bitz (σ 36 0 5) a0)]) (σ' := σ) (Ps := [0 ≤ 8 ∧ 8 < 123, 0 ≤ 5 ∧ 5 < 123]) (by decide +kernel) rfl ⟨(by decide), (by decide), trivial⟩ ?_
    refine r_icmp_eq (off := 18) (tgt := 53) (by decide +kernel) (by decide) (fun c => ?_) (fun c => ?_)
    · replace h := h.1 c
      refine r_blk [qO (.iconst 2)] (pc' := 54) (L' := [zR 34 0, zI a0, zI a1, zI (σ 36 0 8), zU, zU]) (S' := [zI 2]) (σ' := σ) (Ps := []) (by decide +kernel) rfl trivial ?_
      exact r_ret (by decide +kernel) rfl (fun _ => h)
    · replace h := h.2 c
      refine r_blk [qO (.iload_n 3), qO (.iconst 1)] (pc' := 40) (L' := [zR 34 0, zI a0, zI a1, zI (σ 36 0 8), zU, zU]) (S' := [zI 1, zI (σ 36 0 8)]) (σ' := σ) (Ps := []) (by decide +kernel) rfl trivial ?_
      refine r_icmp_ne (off := 15) (tgt := 55) (by decide +kernel) (by decide) (fun c => ?_) (fun c => ?_)
      · replace h := h.1 c
        exact Runs.fg (fgE (fgE (fgE (fgE (fgU (fgU fg0)))))) h
      · replace h := h.2 c
        refine r_blk [qO (.aload_n 0), qO (.iload_n 1), qO (.iconst 3)] (pc' := 46) (L' := [zR 34 0, zI a0, zI a1, zI (σ 36 0 8), zU, zU]) (S' := [zI 3, zI a0, zR 34 0]) (σ' := σ) (Ps := []) (by decide +kernel) rfl trivial ?_
        refine r_callVI (As := [zI a0, zI 3]) (S := []) (Lc := [zR 34 0, zI a0, zI 3]) (d' := 0) (n := 2) (g := 34) (x := 0) (ci := 11) kX11_get vX11_get lkX11_106 (by decide +kernel) (by decide) rfl rfl (by decide) rfl rfl (Nat.le_of_ble_eq_true rfl) rfl rfl (Nat.le_of_ble_eq_true rfl) (h.monoI (fun z2 σ1 h => ?_))
        refine r_blk [qO (.iconst 1)] (pc' := 50) (L' := [zR 34 0, zI a0, zI a1, zI (σ 36 0 8), zU, zU]) (S' := [zI 1, zI z2]) (σ' := σ1) (Ps := []) (by decide +kernel) rfl trivial ?_
        refine r_icmp_ne (off := 5) (tgt := 55) (by decide +kernel) (by decide) (fun c => ?_) (fun c => ?_)
        · replace h := h.1 c
          exact Runs.fg (fgE (fgE (fgE (fgE (fgU (fgU fg0)))))) h
        · replace h := h.2 c
          refine r_blk [qO (.iconst 2)] (pc' := 54) (L' := [zR 34 0, zI a0, zI a1, zI (σ 36 0 8), zU, zU]) (S' := [zI 2]) (σ' := σ1) (Ps := []) (by decide +kernel) rfl trivial ?_
          exact r_ret (by decide +kernel) rfl (fun _ => h)
  · replace h := h.2 c
    refine r_blk [qO (.iconst 3)] (pc' := 15) (L' := [zR 34 0, zI a0, zI a1, zU, zU, zU]) (S' := [zI 3]) (σ' := σ) (Ps := []) (by decide +kernel) rfl trivial ?_
    exact r_ret (by decide +kernel) rfl (fun _ => h)
theorem gX11_wayOf_55 (l1 : Int) (l2 : Int) (l3 : Int) (σ : Hp) {Q : Option Int → Hp → Prop} (h : ((¬ l3 = 4 → ((¬ l3 = 3 → Runs 1 mX11_wayOf 108 [zR 34 0, zU, zI l2, zI l3, zI (bitz (σ 36 0 3) l1), zI (σ 36 0 7)] [] σ Q) ∧ (l3 = 3 → ((¬ zrem (σ 36 0 10) 2 = 1 → Runs 1 mX11_wayOf 108 [zR 34 0, zU, zI l2, zI l3, zI (bitz (σ 36 0 3) l1), zI (σ 36 0 7)] [] σ Q) ∧ (zrem (σ 36 0 10) 2 = 1 → (-2147483648 ≤ 1 - (bitz (σ 36 0 3) l1) ∧ 1 - (bitz (σ 36 0 3) l1) ≤ 2147483647) ∧ Runs 1 mX11_wayOf 108 [zR 34 0, zU, zI l2, zI l3, zI (1 - (bitz (σ 36 0 3) l1)), zI (σ 36 0 7)] [] σ Q))))) ∧ (l3 = 4 → Q (some (bitz (σ 36 0 3) l1)) σ))) : Runs 1 mX11_wayOf 55 [zR 34 0, zI l1, zI l2, zI l3, zU, zU] [] σ Q := by
  refine r_blk [qO (.aload_n 0), qF (.getfield 13) 11 1, qO (.iconst 3), qO .iaload, qO (.iload_n 1), qO .ishr, qO (.iconst 1), qO .iand, qO (.istore 4), qO (.aload_n 0), qF (.getfield 13) 11 1, qO (.bipush 7), qO .iaload, qO (.istore 5), qO (.iload_n 3), qO (.iconst 4)] (pc' := 78) (L' := [zR 34 0, zI l1, zI l2, zI l3, zI (bitz (σ 36 0 3) l1), zI (σ 36 0 7)]) (S' := [zI 4, zI l3]) (σ' := σ) (Ps := [0 ≤ 3 ∧ 3 < 123, 0 ≤ 7 ∧ 7 < 123]) (by decide +kernel) rfl ⟨(by decide), (by decide), trivial⟩ ?_
  refine r_icmp_ne (off := 6) (tgt := 84) (by decide +kernel) (by decide) (fun c => ?_) (fun c => ?_)
  · replace h := h.1 c
    refine r_blk [qO (.iload_n 3), qO (.iconst 3)] (pc' := 86) (L' := [zR 34 0, zI l1, zI l2, zI l3, zI (bitz (σ 36 0 3) l1), zI (σ 36 0 7)]) (S' := [zI 3, zI l3]) (σ' := σ) (Ps := []) (by decide +kernel) rfl trivial ?_
    refine r_icmp_ne (off := 22) (tgt := 108) (by decide +kernel) (by decide) (fun c => ?_) (fun c => ?_)
    · replace h := h.1 c
      exact Runs.fg (fgE (fgU (fgE (fgE (fgE (fgE fg0)))))) h
    · replace h := h.2 c
      refine r_blk [qO (.aload_n 0), qF (.getfield 13) 11 1, qO (.bipush 10), qO .iaload, qO (.iconst 2), qO .irem, qO (.iconst 1)] (pc' := 99) (L' := [zR 34 0, zI l1, zI l2, zI l3, zI (bitz (σ 36 0 3) l1), zI (σ 36 0 7)]) (S' := [zI 1, zI (zrem (σ 36 0 10) 2)]) (σ' := σ) (Ps := [0 ≤ 10 ∧ 10 < 123, 2 ≠ 0]) (by decide +kernel) rfl ⟨(by decide), (by decide), trivial⟩ ?_
      refine r_icmp_ne (off := 9) (tgt := 108) (by decide +kernel) (by decide) (fun c => ?_) (fun c => ?_)
      · replace h := h.1 c
        exact Runs.fg (fgE (fgU (fgE (fgE (fgE (fgE fg0)))))) h
      · replace h := h.2 c
        refine r_blk [qO (.iconst 1), qO (.iload 4), qO .isub, qO (.istore 4)] (pc' := 108) (L' := [zR 34 0, zI l1, zI l2, zI l3, zI (1 - (bitz (σ 36 0 3) l1)), zI (σ 36 0 7)]) (S' := []) (σ' := σ) (Ps := [-2147483648 ≤ 1 - (bitz (σ 36 0 3) l1) ∧ 1 - (bitz (σ 36 0 3) l1) ≤ 2147483647]) (by decide +kernel) rfl ⟨h.1, trivial⟩ ?_
        replace h := h.2
        exact Runs.fg (fgE (fgU (fgE (fgE (fgE (fgE fg0)))))) h
  · replace h := h.2 c
    refine r_blk [qO (.iload 4)] (pc' := 83) (L' := [zR 34 0, zI l1, zI l2, zI l3, zI (bitz (σ 36 0 3) l1), zI (σ 36 0 7)]) (S' := [zI (bitz (σ 36 0 3) l1)]) (σ' := σ) (Ps := []) (by decide +kernel) rfl trivial ?_
    exact r_ret (by decide +kernel) rfl (fun _ => h)
theorem gX11_wayOf_108 (l2 : Int) (l3 : Int) (l4 : Int) (l5 : Int) (σ : Hp) {Q : Option Int → Hp → Prop} (h : ((l5 ≤ l2 → ((¬ l3 = 2 → (-2147483648 ≤ 1 - l4 ∧ 1 - l4 ≤ 2147483647) ∧ Q (some (1 - l4)) σ) ∧ (l3 = 2 → (-2147483648 ≤ l4 + 1 ∧ l4 + 1 ≤ 2147483647) ∧ (-2147483648 ≤ l2 - l5 ∧ l2 - l5 ≤ 2147483647) ∧ (σ 36 0 9 ≠ 0) ∧ (-2147483648 ≤ (l4 + 1) + (zdiv (l2 - l5) (σ 36 0 9)) ∧ (l4 + 1) + (zdiv (l2 - l5) (σ 36 0 9)) ≤ 2147483647) ∧ Q (some (zrem ((l4 + 1) + (zdiv (l2 - l5) (σ 36 0 9))) 2)) σ))) ∧ (¬ l5 ≤ l2 → Q (some l4) σ))) : Runs 1 mX11_wayOf 108 [zR 34 0, zU, zI l2, zI l3, zI l4, zI l5] [] σ Q := by
  refine r_blk [qO (.iload_n 2), qO (.iload 5)] (pc' := 111) (L' := [zR 34 0, zU, zI l2, zI l3, zI l4, zI l5]) (S' := [zI l5, zI l2]) (σ' := σ) (Ps := []) (by decide +kernel) rfl trivial ?_
  refine r_icmp_ge (off := 6) (tgt := 117) (by decide +kernel) (by decide) (fun c => ?_) (fun c => ?_)
  · replace h := h.1 c
    refine r_blk [qO (.iload_n 3), qO (.iconst 2)] (pc' := 119) (L' := [zR 34 0, zU, zI l2, zI l3, zI l4, zI l5]) (S' := [zI 2, zI l3]) (σ' := σ) (Ps := []) (by decide +kernel) rfl trivial ?_
    refine r_icmp_ne (off := 23) (tgt := 142) (by decide +kernel) (by decide) (fun c => ?_) (fun c => ?_)
    · replace h := h.1 c
      refine r_blk [qO (.iconst 1), qO (.iload 4), qO .isub] (pc' := 146) (L' := [zR 34 0, zU, zI l2, zI l3, zI l4, zI l5]) (S' := [zI (1 - l4)]) (σ' := σ) (Ps := [-2147483648 ≤ 1 - l4 ∧ 1 - l4 ≤ 2147483647]) (by decide +kernel) rfl ⟨h.1, trivial⟩ ?_
      replace h := h.2
      exact r_ret (by decide +kernel) rfl (fun _ => h)
    · replace h := h.2 c
      refine r_blk [qO (.iload 4), qO (.iconst 1), qO .iadd, qO (.iload_n 2), qO (.iload 5), qO .isub, qO (.aload_n 0), qF (.getfield 13) 11 1, qO (.bipush 9), qO .iaload, qO .idiv, qO .iadd, qO (.iconst 2), qO .irem] (pc' := 141) (L' := [zR 34 0, zU, zI l2, zI l3, zI l4, zI l5]) (S' := [zI (zrem ((l4 + 1) + (zdiv (l2 - l5) (σ 36 0 9))) 2)]) (σ' := σ) (Ps := [-2147483648 ≤ l4 + 1 ∧ l4 + 1 ≤ 2147483647, -2147483648 ≤ l2 - l5 ∧ l2 - l5 ≤ 2147483647, 0 ≤ 9 ∧ 9 < 123, σ 36 0 9 ≠ 0, -2147483648 ≤ (l4 + 1) + (zdiv (l2 - l5) (σ 36 0 9)) ∧ (l4 + 1) + (zdiv (l2 - l5) (σ 36 0 9)) ≤ 2147483647, 2 ≠ 0]) (by decide +kernel) rfl ⟨h.1, h.2.1, (by decide), h.2.2.1, h.2.2.2.1, (by decide), trivial⟩ ?_
      replace h := h.2.2.2.2
      exact r_ret (by decide +kernel) rfl (fun _ => h)
  · replace h := h.2 c
    refine r_blk [qO (.iload 4)] (pc' := 116) (L' := [zR 34 0, zU, zI l2, zI l3, zI l4, zI l5]) (S' := [zI l4]) (σ' := σ) (Ps := []) (by decide +kernel) rfl trivial ?_
    exact r_ret (by decide +kernel) rfl (fun _ => h)
theorem gX11_sign_0 (σ : Hp) {Q : Option Int → Hp → Prop} (h : ((σ 34 0 8 < σ 34 0 7 → (0 ≤ σ 34 0 8 ∧ σ 34 0 8 < 64) ∧ Q (some (σ 39 0 ((σ 34 0 8).toNat))) σ) ∧ (¬ σ 34 0 8 < σ 34 0 7 → Q (some (-1)) σ))) : Runs 0 mX11_sign 0 [zR 34 0] [] σ Q := by
  refine r_blk [qO (.aload_n 0), qF (.getfield 76) 11 8, qO (.aload_n 0), qF (.getfield 70) 11 7] (pc' := 8) (L' := [zR 34 0]) (S' := [zI (σ 34 0 7), zI (σ 34 0 8)]) (σ' := σ) (Ps := []) (by decide +kernel) rfl trivial ?_
  refine r_icmp_lt (off := 7) (tgt := 15) (by decide +kernel) (by decide) (fun c => ?_) (fun c => ?_)
  · replace h := h.1 c
    refine r_blk [qO (.aload_n 0), qF (.getfield 22) 11 5, qO (.aload_n 0), qF (.getfield 76) 11 8, qO .iaload] (pc' := 24) (L' := [zR 34 0]) (S' := [zI (σ 39 0 ((σ 34 0 8).toNat))]) (σ' := σ) (Ps := [0 ≤ σ 34 0 8 ∧ σ 34 0 8 < 64]) (by decide +kernel) rfl ⟨h.1, trivial⟩ ?_
    replace h := h.2
    exact r_ret (by decide +kernel) rfl (fun _ => h)
  · replace h := h.2 c
    refine r_blk [qO (.iconst (-1)), qO (.goto 12)] (pc' := 24) (L' := [zR 34 0]) (S' := [zI (-1)]) (σ' := σ) (Ps := []) (by decide +kernel) rfl trivial ?_
    exact r_ret (by decide +kernel) rfl (fun _ => h)
theorem gX11_refuse_0 (a0 : Int) (σ : Hp) {Q : Option Int → Hp → Prop} (h : (-2147483648 ≤ -a0 ∧ -a0 ≤ 2147483647) ∧ (0 ≤ (-a0) ∧ (-a0) < 7) ∧ (-2147483648 ≤ (σ 35 0 ((-a0).toNat)) + 1 ∧ (σ 35 0 ((-a0).toNat)) + 1 ≤ 2147483647) ∧ (0 ≤ (-a0) ∧ (-a0) < 7) ∧ Q (some a0) (zup σ 35 0 ((-a0).toNat) ((σ 35 0 ((-a0).toNat)) + 1))) : Runs 0 mX11_refuse 0 [zR 34 0, zI a0] [] σ Q := by
  refine r_blk [qO (.aload_n 0), qF (.getfield 7) 11 0, qO (.iload_n 1), qO .ineg, qO .dup2, qO .iaload, qO (.iconst 1), qO .iadd, qO .iastore, qO (.iload_n 1)] (pc' := 12) (L' := [zR 34 0, zI a0]) (S' := [zI a0]) (σ' := (zup σ 35 0 ((-a0).toNat) ((σ 35 0 ((-a0).toNat)) + 1))) (Ps := [-2147483648 ≤ -a0 ∧ -a0 ≤ 2147483647, 0 ≤ (-a0) ∧ (-a0) < 7, -2147483648 ≤ (σ 35 0 ((-a0).toNat)) + 1 ∧ (σ 35 0 ((-a0).toNat)) + 1 ≤ 2147483647, 0 ≤ (-a0) ∧ (-a0) < 7]) (by decide +kernel) rfl ⟨h.1, h.2.1, h.2.2.1, h.2.2.2.1, trivial⟩ ?_
  replace h := h.2.2.2.2
  exact r_ret (by decide +kernel) rfl (fun _ => h)
