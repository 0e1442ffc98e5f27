theorem gX11_refuse_0 (a0 : Int) (σ : Hp) {Q : Option Int → Hp → Prop} (h : (-2147483648 ≤ -a0 ∧ -a0 ≤ 2147483647) ∧ (0 ≤ (-a0) ∧ (-a0) < 7) ∧ (-2147483648 ≤ (σ 35 0 ((-a0).toNat)) + 1 ∧ (σ 35 0 ((-a0).toNat)) + 1 ≤ 2147483647) ∧ (0 ≤ (-a0) ∧ (-a0) < 7) ∧ Q (some a0) (zup σ 35 0 ((-a0).toNat) ((σ 35 0 ((-a0).toNat)) + 1))) : Runs 0 mX11_refuse 0 [zR 34 0, zI a0] [] σ Q := by
  refine r_blk [qO (.aload_n 0), qF (.getfield 7) 11 0, qO (.iload_n 1), qO .ineg, qO .dup2, qO .iaload, qO (.iconst 1), qO .iadd, qO .iastore, qO (.iload_n 1)] (pc' := 12) (L' := [zR 34 0, zI a0]) (S' := [zI a0]) (σ' := (zup σ 35 0 ((-a0).toNat) ((σ 35 0 ((-a0).toNat)) + 1))) (Ps := [-2147483648 ≤ -a0 ∧ -a0 ≤ 2147483647, 0 ≤ (-a0) ∧ (-a0) < 7, -2147483648 ≤ (σ 35 0 ((-a0).toNat)) + 1 ∧ (σ 35 0 ((-a0).toNat)) + 1 ≤ 2147483647, 0 ≤ (-a0) ∧ (-a0) < 7]) (by decide +kernel) rfl ⟨h.1, h.2.1, h.2.2.1, h.2.2.2.1, trivial⟩ ?_
  replace h := h.2.2.2.2
  exact r_ret (by decide +kernel) rfl (fun _ => h)
theorem gX11_isIn_0 (a0 : Int) (a1 : Int) (σ : Hp) {Q : Option Int → Hp → Prop} (h : ((a0 < 0 → Q (some 0) σ) ∧ (¬ a0 < 0 → ((a1 ≤ a0 → Q (some 0) σ) ∧ (¬ a1 ≤ a0 → Q (some 1) σ))))) : Runs 0 mX11_isIn 0 [zI a0, zI a1] [] σ Q := by
  refine r_blk [qO (.iload_n 0)] (pc' := 1) (L' := [zI a0, zI a1]) (S' := [zI a0]) (σ' := σ) (Ps := []) (by decide +kernel) rfl trivial ?_
  refine r_if_lt (off := 12) (tgt := 13) (by decide +kernel) (by decide) (fun c => ?_) (fun c => ?_)
  · replace h := h.1 c
    refine r_blk [qO (.iconst 0)] (pc' := 14) (L' := [zI a0, zI a1]) (S' := [zI 0]) (σ' := σ) (Ps := []) (by decide +kernel) rfl trivial ?_
    exact r_retz (by decide +kernel) rfl (by decide) h
  · replace h := h.2 c
    refine r_blk [qO (.iload_n 0), qO (.iload_n 1)] (pc' := 6) (L' := [zI a0, zI a1]) (S' := [zI a1, zI a0]) (σ' := σ) (Ps := []) (by decide +kernel) rfl trivial ?_
    refine r_icmp_ge (off := 7) (tgt := 13) (by decide +kernel) (by decide) (fun c => ?_) (fun c => ?_)
    · replace h := h.1 c
      refine r_blk [qO (.iconst 0)] (pc' := 14) (L' := [zI a0, zI a1]) (S' := [zI 0]) (σ' := σ) (Ps := []) (by decide +kernel) rfl trivial ?_
      exact r_retz (by decide +kernel) rfl (by decide) h
    · replace h := h.2 c
      refine r_blk [qO (.iconst 1), qO (.goto 4)] (pc' := 14) (L' := [zI a0, zI a1]) (S' := [zI 1]) (σ' := σ) (Ps := []) (by decide +kernel) rfl trivial ?_
      exact r_retz (by decide +kernel) rfl (by decide) h
theorem gX11_within_0 (a0 : Int) (a1 : Int) (a2 : Int) (σ : Hp) {Q : Option Int → Hp → Prop} (h : ((a1 ≤ a0 → ((a0 ≤ a2 → Q (some 0) σ) ∧ (¬ a0 ≤ a2 → Q (some (-6)) σ))) ∧ (¬ a1 ≤ a0 → Q (some (-4)) σ))) : Runs 0 mX11_within 0 [zI a0, zI a1, zI a2] [] σ Q := by
  refine r_blk [qO (.iload_n 0), qO (.iload_n 1)] (pc' := 2) (L' := [zI a0, zI a1, zI a2]) (S' := [zI a1, zI a0]) (σ' := σ) (Ps := []) (by decide +kernel) rfl trivial ?_
  refine r_icmp_ge (off := 8) (tgt := 10) (by decide +kernel) (by decide) (fun c => ?_) (fun c => ?_)
  · replace h := h.1 c
    refine r_blk [qO (.iload_n 0), qO (.iload_n 2)] (pc' := 12) (L' := [zI a0, zI a1, zI a2]) (S' := [zI a2, zI a0]) (σ' := σ) (Ps := []) (by decide +kernel) rfl trivial ?_
    refine r_icmp_le (off := 8) (tgt := 20) (by decide +kernel) (by decide) (fun c => ?_) (fun c => ?_)
    · replace h := h.1 c
      refine r_blk [qO (.iconst 0)] (pc' := 21) (L' := [zI a0, zI a1, zI a2]) (S' := [zI 0]) (σ' := σ) (Ps := []) (by decide +kernel) rfl trivial ?_
      exact r_ret (by decide +kernel) rfl (fun _ => h)
    · replace h := h.2 c
      refine r_blk [qO (.bipush (-6)), qO (.goto 4)] (pc' := 21) (L' := [zI a0, zI a1, zI a2]) (S' := [zI (-6)]) (σ' := σ) (Ps := []) (by decide +kernel) rfl trivial ?_
      exact r_ret (by decide +kernel) rfl (fun _ => h)
  · replace h := h.2 c
    refine r_blk [qO (.bipush (-4)), qO (.goto 14)] (pc' := 21) (L' := [zI a0, zI a1, zI a2]) (S' := [zI (-4)]) (σ' := σ) (Ps := []) (by decide +kernel) rfl trivial ?_
    exact r_ret (by decide +kernel) rfl (fun _ => h)
theorem gX11_isCorner_0 (a0 : Int) (σ : Hp) {Q : Option Int → Hp → Prop} (h : Runs 0 mX11_isIn 0 [zI a0, zI (σ 36 0 0)] [] σ (rI (fun z2 σ1 => (z2 = 0 ∨ z2 = 1) ∧ Q (some z2) σ1))) : Runs 1 mX11_isCorner 0 [zR 34 0, zI a0] [] σ Q := by
  refine r_blk [qO (.iload_n 1), qO (.aload_n 0), qF (.getfield 13) 11 1, qO (.iconst 0), qO .iaload] (pc' := 7) (L' := [zR 34 0, zI a0]) (S' := [zI (σ 36 0 0), zI a0]) (σ' := σ) (Ps := [0 ≤ 0 ∧ 0 < 123]) (by decide +kernel) rfl ⟨(by decide), trivial⟩ ?_
  refine r_callSI (As := [zI a0, zI (σ 36 0 0)]) (S := []) (Lc := [zI a0, zI (σ 36 0 0)]) (d' := 0) (n := 2) kX11_isIn vX11_isIn lkX11_62 (by decide +kernel) (by decide) rfl rfl (Nat.le_of_ble_eq_true rfl) rfl rfl (Nat.le_of_ble_eq_true rfl) (h.monoI (fun z2 σ1 h => ?_))
  exact r_retz (by decide +kernel) rfl h.1 h.2
theorem gX11_isStreet_0 (a0 : Int) (σ : Hp) {Q : Option Int → Hp → Prop} (h : Runs 0 mX11_isIn 0 [zI a0, zI (σ 36 0 1)] [] σ (rI (fun z2 σ1 => (z2 = 0 ∨ z2 = 1) ∧ Q (some z2) σ1))) : Runs 1 mX11_isStreet 0 [zR 34 0, zI a0] [] σ Q := by
  refine r_blk [qO (.iload_n 1), qO (.aload_n 0), qF (.getfield 13) 11 1, qO (.iconst 1), qO .iaload] (pc' := 7) (L' := [zR 34 0, zI a0]) (S' := [zI (σ 36 0 1), zI a0]) (σ' := σ) (Ps := [0 ≤ 1 ∧ 1 < 123]) (by decide +kernel) rfl ⟨(by decide), trivial⟩ ?_
  refine r_callSI (As := [zI a0, zI (σ 36 0 1)]) (S := []) (Lc := [zI a0, zI (σ 36 0 1)]) (d' := 0) (n := 2) kX11_isIn vX11_isIn lkX11_62 (by decide +kernel) (by decide) rfl rfl (Nat.le_of_ble_eq_true rfl) rfl rfl (Nat.le_of_ble_eq_true rfl) (h.monoI (fun z2 σ1 h => ?_))
  exact r_retz (by decide +kernel) rfl h.1 h.2
theorem gX11_isErrand_0 (a0 : Int) (σ : Hp) {Q : Option Int → Hp → Prop} (h : Runs 0 mX11_isIn 0 [zI a0, zI (σ 36 0 2)] [] σ (rI (fun z2 σ1 => (z2 = 0 ∨ z2 = 1) ∧ Q (some z2) σ1))) : Runs 1 mX11_isErrand 0 [zR 34 0, zI a0] [] σ Q := by
  refine r_blk [qO (.iload_n 1), qO (.aload_n 0), qF (.getfield 13) 11 1, qO (.iconst 2), qO .iaload] (pc' := 7) (L' := [zR 34 0, zI a0]) (S' := [zI (σ 36 0 2), zI a0]) (σ' := σ) (Ps := [0 ≤ 2 ∧ 2 < 123]) (by decide +kernel) rfl ⟨(by decide), trivial⟩ ?_
  refine r_callSI (As := [zI a0, zI (σ 36 0 2)]) (S := []) (Lc := [zI a0, zI (σ 36 0 2)]) (d' := 0) (n := 2) kX11_isIn vX11_isIn lkX11_62 (by decide +kernel) (by decide) rfl rfl (Nat.le_of_ble_eq_true rfl) rfl rfl (Nat.le_of_ble_eq_true rfl) (h.monoI (fun z2 σ1 h => ?_))
  exact r_retz (by decide +kernel) rfl h.1 h.2
theorem gX11_get_0 (a0 : Int) (a1 : Int) (σ : Hp) {Q : Option Int → Hp → Prop} (h : (-2147483648 ≤ 5 * a0 ∧ 5 * a0 ≤ 2147483647) ∧ (-2147483648 ≤ 11 + (5 * a0) ∧ 11 + (5 * a0) ≤ 2147483647) ∧ (-2147483648 ≤ (11 + (5 * a0)) + a1 ∧ (11 + (5 * a0)) + a1 ≤ 2147483647) ∧ (0 ≤ (11 + (5 * a0)) + a1 ∧ (11 + (5 * a0)) + a1 < 123) ∧ Q (some (σ 36 0 (((11 + (5 * a0)) + a1).toNat))) σ) : Runs 0 mX11_get 0 [zR 34 0, zI a0, zI a1] [] σ Q := by
  refine r_blk [qO (.aload_n 0), qF (.getfield 13) 11 1, qO (.bipush 11), qO (.iconst 5), qO (.iload_n 1), qO .imul, qO .iadd, qO (.iload_n 2), qO .iadd, qO .iaload] (pc' := 13) (L' := [zR 34 0, zI a0, zI a1]) (S' := [zI (σ 36 0 (((11 + (5 * a0)) + a1).toNat))]) (σ' := σ) (Ps := [-2147483648 ≤ 5 * a0 ∧ 5 * a0 ≤ 2147483647, -2147483648 ≤ 11 + (5 * a0) ∧ 11 + (5 * a0) ≤ 2147483647, -2147483648 ≤ (11 + (5 * a0)) + a1 ∧ (11 + (5 * a0)) + a1 ≤ 2147483647, 0 ≤ (11 + (5 * a0)) + a1 ∧ (11 + (5 * a0)) + a1 < 123]) (by decide +kernel) rfl ⟨h.1, h.2.1, h.2.2.1, h.2.2.2.1, trivial⟩ ?_
  replace h := h.2.2.2.2
  exact r_ret (by decide +kernel) rfl (fun _ => h)
theorem gX11_of_0 (a0 : Int) (a1 : Int) (σ : Hp) {Q : Option Int → Hp → Prop} (h : (-2147483648 ≤ 4 * a0 ∧ 4 * a0 ≤ 2147483647) ∧ (-2147483648 ≤ 81 + (4 * a0) ∧ 81 + (4 * a0) ≤ 2147483647) ∧ (-2147483648 ≤ (81 + (4 * a0)) + a1 ∧ (81 + (4 * a0)) + a1 ≤ 2147483647) ∧ (0 ≤ (81 + (4 * a0)) + a1 ∧ (81 + (4 * a0)) + a1 < 123) ∧ Q (some (σ 36 0 (((81 + (4 * a0)) + a1).toNat))) σ) : Runs 0 mX11_of 0 [zR 34 0, zI a0, zI a1] [] σ Q := by
  refine r_blk [qO (.aload_n 0), qF (.getfield 13) 11 1, qO (.bipush 81), qO (.iconst 4), qO (.iload_n 1), qO .imul, qO .iadd, qO (.iload_n 2), qO .iadd, qO .iaload] (pc' := 13) (L' := [zR 34 0, zI a0, zI a1]) (S' := [zI (σ 36 0 (((81 + (4 * a0)) + a1).toNat))]) (σ' := σ) (Ps := [-2147483648 ≤ 4 * a0 ∧ 4 * a0 ≤ 2147483647, -2147483648 ≤ 81 + (4 * a0) ∧ 81 + (4 * a0) ≤ 2147483647, -2147483648 ≤ (81 + (4 * a0)) + a1 ∧ (81 + (4 * a0)) + a1 ≤ 2147483647, 0 ≤ (81 + (4 * a0)) + a1 ∧ (81 + (4 * a0)) + a1 < 123]) (by decide +kernel) rfl ⟨h.1, h.2.1, h.2.2.1, h.2.2.2.1, trivial⟩ ?_
  replace h := h.2.2.2.2
  exact r_ret (by decide +kernel) rfl (fun _ => h)
theorem gX11_feed_0 (a0 : Int) (a1 : Int64) (σ : Hp) {Q : Option Int → Hp → Prop} (h : ((1 ≤ a0 → ((8 < a0 → Runs 0 mX11_refuse 0 [zR 34 0, zI (-6)] [] σ (rI (fun z2 σ1 => Q (some z2) σ1))) ∧ (¬ 8 < a0 → (-2147483648 ≤ (σ 34 0 7) + a0 ∧ (σ 34 0 7) + a0 ≤ 2147483647) ∧ (((σ 34 0 7) + a0 ≤ 64 → Runs 1 mX11_feed 39 [zR 34 0, zI a0, zJ a1, zU, zI 0] [] σ Q) ∧ (¬ (σ 34 0 7) + a0 ≤ 64 → Runs 0 mX11_refuse 0 [zR 34 0, zI (-6)] [] σ (rI (fun z4 σ3 => Q (some z4) σ3))))))) ∧ (¬ 1 ≤ a0 → Runs 0 mX11_refuse 0 [zR 34 0, zI (-4)] [] σ (rI (fun z6 σ5 => Q (some z6) σ5))))) : Runs 1 mX11_feed 0 [zR 34 0, zI a0, zJ a1, zU, zU] [] σ Q := by
  refine r_blk [qO (.iload_n 1), qO (.iconst 1)] (pc' := 2) (L' := [zR 34 0, zI a0, zJ a1, zU, zU]) (S' := [zI 1, zI a0]) (σ' := σ) (Ps := []) (by decide +kernel) rfl trivial ?_
  refine r_icmp_ge (off := 10) (tgt := 12) (by decide +kernel) (by decide) (fun c => ?_) (fun c => ?_)
  · replace h := h.1 c
    refine r_blk [qO (.iload_n 1), qO (.bipush 8)] (pc' := 15) (L' := [zR 34 0, zI a0, zJ a1, zU, zU]) (S' := [zI 8, zI a0]) (σ' := σ) (Ps := []) (by decide +kernel) rfl trivial ?_
    refine r_icmp_gt (off := 14) (tgt := 29) (by decide +kernel) (by decide) (fun c => ?_) (fun c => ?_)
    · replace h := h.1 c
      refine r_blk [qO (.aload_n 0), qO (.bipush (-6))] (pc' := 32) (L' := [zR 34 0, zI a0, zJ a1, zU, zU]) (S' := [zI (-6), zR 34 0]) (σ' := σ) (Ps := []) (by decide +kernel) rfl trivial ?_
      refine r_callVI (As := [zI (-6)]) (S := []) (Lc := [zR 34 0, zI (-6)]) (d' := 0) (n := 1) (g := 34) (x := 0) (ci := 11) kX11_refuse vX11_refuse lkX11_66 (by decide +kernel) (by decide) rfl rfl (by decide) rfl rfl (Nat.le_of_ble_eq_true rfl) rfl rfl (Nat.le_of_ble_eq_true rfl) (h.monoI (fun z2 σ1 h => ?_))
      exact r_ret (by decide +kernel) rfl (fun _ => h)
    · replace h := h.2 c
      refine r_blk [qO (.aload_n 0), qF (.getfield 70) 11 7, qO (.iload_n 1), qO .iadd, qO (.bipush 64)] (pc' := 26) (L' := [zR 34 0, zI a0, zJ a1, zU, zU]) (S' := [zI 64, zI ((σ 34 0 7) + a0)]) (σ' := σ) (Ps := [-2147483648 ≤ (σ 34 0 7) + a0 ∧ (σ 34 0 7) + a0 ≤ 2147483647]) (by decide +kernel) rfl ⟨h.1, trivial⟩ ?_
      replace h := h.2
      refine r_icmp_le (off := 10) (tgt := 36) (by decide +kernel) (by decide) (fun c => ?_) (fun c => ?_)
      · replace h := h.1 c
        refine r_blk [qO (.iconst 0), qO (.istore 4)] (pc' := 39) (L' := [zR 34 0, zI a0, zJ a1, zU, zI 0]) (S' := []) (σ' := σ) (Ps := []) (by decide +kernel) rfl trivial ?_
        exact Runs.fg (fgE (fgE (fgE (fgU (fgE fg0))))) h
      · replace h := h.2 c
        refine r_blk [qO (.aload_n 0), qO (.bipush (-6))] (pc' := 32) (L' := [zR 34 0, zI a0, zJ a1, zU, zU]) (S' := [zI (-6), zR 34 0]) (σ' := σ) (Ps := []) (by decide +kernel) rfl trivial ?_
        refine r_callVI (As := [zI (-6)]) (S := []) (Lc := [zR 34 0, zI (-6)]) (d' := 0) (n := 1) (g := 34) (x := 0) (ci := 11) kX11_refuse vX11_refuse lkX11_66 (by decide +kernel) (by decide) rfl rfl (by decide) rfl rfl (Nat.le_of_ble_eq_true rfl) rfl rfl (Nat.le_of_ble_eq_true rfl) (h.monoI (fun z4 σ3 h => ?_))
        exact r_ret (by decide +kernel) rfl (fun _ => h)
  · replace h := h.2 c
    refine r_blk [qO (.aload_n 0), qO (.bipush (-4))] (pc' := 8) (L' := [zR 34 0, zI a0, zJ a1, zU, zU]) (S' := [zI (-4), zR 34 0]) (σ' := σ) (Ps := []) (by decide +kernel) rfl trivial ?_
    refine r_callVI (As := [zI (-4)]) (S := []) (Lc := [zR 34 0, zI (-4)]) (d' := 0) (n := 1) (g := 34) (x := 0) (ci := 11) kX11_refuse vX11_refuse lkX11_66 (by decide +kernel) (by decide) rfl rfl (by decide) rfl rfl (Nat.le_of_ble_eq_true rfl) rfl rfl (Nat.le_of_ble_eq_true rfl) (h.monoI (fun z6 σ5 h => ?_))
    exact r_ret (by decide +kernel) rfl (fun _ => h)
theorem gX11_feed_39 (l1 : Int) (l4 : Int) (l2 : Int64) (σ : Hp) {Q : Option Int → Hp → Prop} (h : ((l1 ≤ l4 → Q (some (σ 34 0 7)) σ) ∧ (¬ l1 ≤ l4 → (-2147483648 ≤ 8 * l4 ∧ 8 * l4 ≤ 2147483647) ∧ (0 ≤ σ 34 0 7 ∧ σ 34 0 7 < 64) ∧ (-2147483648 ≤ (σ 34 0 7) + 1 ∧ (σ 34 0 7) + 1 ≤ 2147483647) ∧ (-2147483648 ≤ l4 + 1 ∧ l4 + 1 ≤ 2147483647) ∧ ∀ σ1 : Hp, σ1 = (zup (zup σ 39 0 ((σ 34 0 7).toNat) (zl2i ((zlshr l2 (8 * l4)) &&& (Int64.ofInt 255)))) 34 0 7 ((σ 34 0 7) + 1)) → Runs 1 mX11_feed 39 [zR 34 0, zI l1, zJ l2, zU, zI (l4 + 1)] [] σ1 Q))) : Runs 1 mX11_feed 39 [zR 34 0, zI l1, zJ l2, zU, zI l4] [] σ Q := by
  refine r_blk [qO (.iload 4), qO (.iload_n 1)] (pc' := 42) (L' := [zR 34 0, zI l1, zJ l2, zU, zI l4]) (S' := [zI l1, zI l4]) (σ' := σ) (Ps := []) (by decide +kernel) rfl trivial ?_
  refine r_icmp_ge (off := 40) (tgt := 82) (by decide +kernel) (by decide) (fun c => ?_) (fun c => ?_)
  · replace h := h.1 c
    refine r_blk [qO (.aload_n 0), qF (.getfield 70) 11 7] (pc' := 86) (L' := [zR 34 0, zI l1, zJ l2, zU, zI l4]) (S' := [zI (σ 34 0 7)]) (σ' := σ) (Ps := []) (by decide +kernel) rfl trivial ?_
    exact r_ret (by decide +kernel) rfl (fun _ => h)
  · replace h := h.2 c
    refine r_blk [qO (.aload_n 0), qF (.getfield 22) 11 5, qO (.aload_n 0), qF (.getfield 70) 11 7, qO (.lload_n 2), qO (.bipush 8), qO (.iload 4), qO .imul, qO .lshr, qC (.ldc2_w 74) 255, qO .land, qO .l2i, qO .iastore, qO (.aload_n 0), qO .dup, qF (.getfield 70) 11 7, qO (.iconst 1), qO .iadd, qF (.putfield 70) 11 7, qO (.iinc 4 1), qO (.goto (-40))] (pc' := 39) (L' := [zR 34 0, zI l1, zJ l2, zU, zI (l4 + 1)]) (S' := []) (σ' := (zup (zup σ 39 0 ((σ 34 0 7).toNat) (zl2i ((zlshr l2 (8 * l4)) &&& (Int64.ofInt 255)))) 34 0 7 ((σ 34 0 7) + 1))) (Ps := [-2147483648 ≤ 8 * l4 ∧ 8 * l4 ≤ 2147483647, 0 ≤ σ 34 0 7 ∧ σ 34 0 7 < 64, -2147483648 ≤ (σ 34 0 7) + 1 ∧ (σ 34 0 7) + 1 ≤ 2147483647, -2147483648 ≤ l4 + 1 ∧ l4 + 1 ≤ 2147483647]) (by decide +kernel) rfl ⟨h.1, h.2.1, h.2.2.1, h.2.2.2.1, trivial⟩ ?_
    replace h := h.2.2.2.2
    generalize hσ1 : (zup (zup σ 39 0 ((σ 34 0 7).toNat) (zl2i ((zlshr l2 (8 * l4)) &&& (Int64.ofInt 255)))) 34 0 7 ((σ 34 0 7) + 1)) = σ1
    replace h := h σ1 hσ1.symm
    exact Runs.fg (fgE (fgE (fgE (fgU (fgE fg0))))) h
theorem gX11_sign_0 (σ : Hp) {Q : Option Int → Hp → Prop} (h : ((σ 34 0 8 < σ 34 0 7 → (0 ≤ σ 34 0 8 ∧ σ 34 0 8 < 64) ∧ Q (some (σ 39 0 ((σ 34 0 8).toNat))) σ) ∧ (¬ σ 34 0 8 < σ 34 0 7 → Q (some (-1)) σ))) : Runs 0 mX11_sign 0 [zR 34 0] [] σ Q := by
  refine r_blk [qO (.aload_n 0), qF (.getfield 76) 11 8, qO (.aload_n 0), qF (.getfield 70) 11 7] (pc' := 8) (L' := [zR 34 0]) (S' := [zI (σ 34 0 7), zI (σ 34 0 8)]) (σ' := σ) (Ps := []) (by decide +kernel) rfl trivial ?_
  refine r_icmp_lt (off := 7) (tgt := 15) (by decide +kernel) (by decide) (fun c => ?_) (fun c => ?_)
  · replace h := h.1 c
    refine r_blk [qO (.aload_n 0), qF (.getfield 22) 11 5, qO (.aload_n 0), qF (.getfield 76) 11 8, qO .iaload] (pc' := 24) (L' := [zR 34 0]) (S' := [zI (σ 39 0 ((σ 34 0 8).toNat))]) (σ' := σ) (Ps := [0 ≤ σ 34 0 8 ∧ σ 34 0 8 < 64]) (by decide +kernel) rfl ⟨h.1, trivial⟩ ?_
    replace h := h.2
    exact r_ret (by decide +kernel) rfl (fun _ => h)
  · replace h := h.2 c
    refine r_blk [qO (.iconst (-1)), qO (.goto 12)] (pc' := 24) (L' := [zR 34 0]) (S' := [zI (-1)]) (σ' := σ) (Ps := []) (by decide +kernel) rfl trivial ?_
    exact r_ret (by decide +kernel) rfl (fun _ => h)
theorem gX11_takes_0 (a0 : Int) (σ : Hp) {Q : Option Int → Hp → Prop} (h : Runs 0 mX11_sign 0 [zR 34 0] [] σ (rI (fun z2 σ1 => ((z2 = a0 → (-2147483648 ≤ (σ1 34 0 8) + 1 ∧ (σ1 34 0 8) + 1 ≤ 2147483647) ∧ Q (some 1) (zup σ1 34 0 8 ((σ1 34 0 8) + 1))) ∧ (¬ z2 = a0 → Q (some 0) σ1))))) : Runs 1 mX11_takes 0 [zR 34 0, zI a0] [] σ Q := by
  refine r_blk [qO (.aload_n 0)] (pc' := 1) (L' := [zR 34 0, zI a0]) (S' := [zR 34 0]) (σ' := σ) (Ps := []) (by decide +kernel) rfl trivial ?_
  refine r_callVI (As := []) (S := []) (Lc := [zR 34 0]) (d' := 0) (n := 0) (g := 34) (x := 0) (ci := 11) kX11_sign vX11_sign lkX11_79 (by decide +kernel) (by decide) rfl rfl (by decide) rfl rfl (Nat.le_of_ble_eq_true rfl) rfl rfl (Nat.le_of_ble_eq_true rfl) (h.monoI (fun z2 σ1 h => ?_))
  refine r_blk [qO (.iload_n 1)] (pc' := 5) (L' := [zR 34 0, zI a0]) (S' := [zI a0, zI z2]) (σ' := σ1) (Ps := []) (by decide +kernel) rfl trivial ?_
  refine r_icmp_eq (off := 5) (tgt := 10) (by decide +kernel) (by decide) (fun c => ?_) (fun c => ?_)
  · replace h := h.1 c
    refine r_blk [qO (.aload_n 0), qO .dup, qF (.getfield 76) 11 8, qO (.iconst 1), qO .iadd, qF (.putfield 76) 11 8, qO (.iconst 1)] (pc' := 21) (L' := [zR 34 0, zI a0]) (S' := [zI 1]) (σ' := (zup σ1 34 0 8 ((σ1 34 0 8) + 1))) (Ps := [-2147483648 ≤ (σ1 34 0 8) + 1 ∧ (σ1 34 0 8) + 1 ≤ 2147483647]) (by decide +kernel) rfl ⟨h.1, trivial⟩ ?_
    replace h := h.2
    exact r_retz (by decide +kernel) rfl (by decide) h
  · replace h := h.2 c
    refine r_blk [qO (.iconst 0)] (pc' := 9) (L' := [zR 34 0, zI a0]) (S' := [zI 0]) (σ' := σ1) (Ps := []) (by decide +kernel) rfl trivial ?_
    exact r_retz (by decide +kernel) rfl (by decide) h
theorem gX11_readsNumber_0 (a0 : Int) (a1 : Int) (σ : Hp) {Q : Option Int → Hp → Prop} (h : (0 ≤ a0 ∧ a0 < 4) ∧ Runs 1 mX11_readsNumber 9 [zR 34 0, zI a0, zI a1, zI 0] [] (zup σ 40 0 a0.toNat 0) Q) : Runs 1 mX11_readsNumber 0 [zR 34 0, zI a0, zI a1, zU] [] σ Q := by
  refine r_blk [qO (.aload_n 0), qF (.getfield 25) 11 6, qO (.iload_n 1), qO (.iconst 0), qO .iastore, qO (.iconst 0), qO (.istore_n 3)] (pc' := 9) (L' := [zR 34 0, zI a0, zI a1, zI 0]) (S' := []) (σ' := (zup σ 40 0 a0.toNat 0)) (Ps := [0 ≤ a0 ∧ a0 < 4]) (by decide +kernel) rfl ⟨h.1, trivial⟩ ?_
  replace h := h.2
  exact Runs.fg (fgE (fgE (fgE (fgE fg0)))) h
theorem gX11_readsNumber_9 (l1 : Int) (l2 : Int) (l3 : Int) (σ : Hp) {Q : Option Int → Hp → Prop} (h : ((l2 ≤ l3 → ((l3 ≤ 0 → Q (some 0) σ) ∧ (¬ l3 ≤ 0 → Q (some 1) σ))) ∧ (¬ l2 ≤ l3 → Runs 0 mX11_sign 0 [zR 34 0] [] σ (rI (fun z2 σ1 => ((z2 < 48 → ((l3 ≤ 0 → Q (some 0) σ1) ∧ (¬ l3 ≤ 0 → Q (some 1) σ1))) ∧ (¬ z2 < 48 → Runs 0 mX11_sign 0 [zR 34 0] [] σ1 (rI (fun z4 σ3 => ((57 < z4 → ((l3 ≤ 0 → Q (some 0) σ3) ∧ (¬ l3 ≤ 0 → Q (some 1) σ3))) ∧ (¬ 57 < z4 → (0 ≤ l1 ∧ l1 < 4) ∧ (-2147483648 ≤ 10 * (σ3 40 0 l1.toNat) ∧ 10 * (σ3 40 0 l1.toNat) ≤ 2147483647) ∧ Runs 0 mX11_sign 0 [zR 34 0] [] σ3 (rI (fun z6 σ5 => (-2147483648 ≤ (10 * (σ3 40 0 l1.toNat)) + z6 ∧ (10 * (σ3 40 0 l1.toNat)) + z6 ≤ 2147483647) ∧ (-2147483648 ≤ ((10 * (σ3 40 0 l1.toNat)) + z6) - 48 ∧ ((10 * (σ3 40 0 l1.toNat)) + z6) - 48 ≤ 2147483647) ∧ (0 ≤ l1 ∧ l1 < 4) ∧ (-2147483648 ≤ (σ5 34 0 8) + 1 ∧ (σ5 34 0 8) + 1 ≤ 2147483647) ∧ (-2147483648 ≤ l3 + 1 ∧ l3 + 1 ≤ 2147483647) ∧ ∀ σ7 : Hp, σ7 = (zup (zup σ5 40 0 l1.toNat (((10 * (σ3 40 0 l1.toNat)) + z6) - 48)) 34 0 8 ((σ5 34 0 8) + 1)) → Runs 1 mX11_readsNumber 9 [zR 34 0, zI l1, zI l2, zI (l3 + 1)] [] σ7 Q))))))))))))) : Runs 1 mX11_readsNumber 9 [zR 34 0, zI l1, zI l2, zI l3] [] σ Q := by
  refine r_blk [qO (.iload_n 3), qO (.iload_n 2)] (pc' := 11) (L' := [zR 34 0, zI l1, zI l2, zI l3]) (S' := [zI l2, zI l3]) (σ' := σ) (Ps := []) (by decide +kernel) rfl trivial ?_
  refine r_icmp_ge (off := 60) (tgt := 71) (by decide +kernel) (by decide) (fun c => ?_) (fun c => ?_)
  · replace h := h.1 c
    refine r_blk [qO (.iload_n 3)] (pc' := 72) (L' := [zR 34 0, zI l1, zI l2, zI l3]) (S' := [zI l3]) (σ' := σ) (Ps := []) (by decide +kernel) rfl trivial ?_
    refine r_if_le (off := 7) (tgt := 79) (by decide +kernel) (by decide) (fun c => ?_) (fun c => ?_)
    · replace h := h.1 c
      refine r_blk [qO (.iconst 0)] (pc' := 80) (L' := [zR 34 0, zI l1, zI l2, zI l3]) (S' := [zI 0]) (σ' := σ) (Ps := []) (by decide +kernel) rfl trivial ?_
      exact r_retz (by decide +kernel) rfl (by decide) h
    · replace h := h.2 c
      refine r_blk [qO (.iconst 1), qO (.goto 4)] (pc' := 80) (L' := [zR 34 0, zI l1, zI l2, zI l3]) (S' := [zI 1]) (σ' := σ) (Ps := []) (by decide +kernel) rfl trivial ?_
      exact r_retz (by decide +kernel) rfl (by decide) h
  · replace h := h.2 c
    refine r_blk [qO (.aload_n 0)] (pc' := 15) (L' := [zR 34 0, zI l1, zI l2, zI l3]) (S' := [zR 34 0]) (σ' := σ) (Ps := []) (by decide +kernel) rfl trivial ?_
    refine r_callVI (As := []) (S := []) (Lc := [zR 34 0]) (d' := 0) (n := 0) (g := 34) (x := 0) (ci := 11) kX11_sign vX11_sign lkX11_79 (by decide +kernel) (by decide) rfl rfl (by decide) rfl rfl (Nat.le_of_ble_eq_true rfl) rfl rfl (Nat.le_of_ble_eq_true rfl) (h.monoI (fun z2 σ1 h => ?_))
    refine r_blk [qO (.bipush 48)] (pc' := 20) (L' := [zR 34 0, zI l1, zI l2, zI l3]) (S' := [zI 48, zI z2]) (σ' := σ1) (Ps := []) (by decide +kernel) rfl trivial ?_
    refine r_icmp_lt (off := 51) (tgt := 71) (by decide +kernel) (by decide) (fun c => ?_) (fun c => ?_)
    · replace h := h.1 c
      refine r_blk [qO (.iload_n 3)] (pc' := 72) (L' := [zR 34 0, zI l1, zI l2, zI l3]) (S' := [zI l3]) (σ' := σ1) (Ps := []) (by decide +kernel) rfl trivial ?_
      refine r_if_le (off := 7) (tgt := 79) (by decide +kernel) (by decide) (fun c => ?_) (fun c => ?_)
      · replace h := h.1 c
        refine r_blk [qO (.iconst 0)] (pc' := 80) (L' := [zR 34 0, zI l1, zI l2, zI l3]) (S' := [zI 0]) (σ' := σ1) (Ps := []) (by decide +kernel) rfl trivial ?_
        exact r_retz (by decide +kernel) rfl (by decide) h
      · replace h := h.2 c
        refine r_blk [qO (.iconst 1), qO (.goto 4)] (pc' := 80) (L' := [zR 34 0, zI l1, zI l2, zI l3]) (S' := [zI 1]) (σ' := σ1) (Ps := []) (by decide +kernel) rfl trivial ?_
        exact r_retz (by decide +kernel) rfl (by decide) h
    · replace h := h.2 c
      refine r_blk [qO (.aload_n 0)] (pc' := 24) (L' := [zR 34 0, zI l1, zI l2, zI l3]) (S' := [zR 34 0]) (σ' := σ1) (Ps := []) (by decide +kernel) rfl trivial ?_
      refine r_callVI (As := []) (S := []) (Lc := [zR 34 0]) (d' := 0) (n := 0) (g := 34) (x := 0) (ci := 11) kX11_sign vX11_sign lkX11_79 (by decide +kernel) (by decide) rfl rfl (by decide) rfl rfl (Nat.le_of_ble_eq_true rfl) rfl rfl (Nat.le_of_ble_eq_true rfl) (h.monoI (fun z4 σ3 h => ?_))
      refine r_blk [qO (.bipush 57)] (pc' := 29) (L' := [zR 34 0, zI l1, zI l2, zI l3]) (S' := [zI 57, zI z4]) (σ' := σ3) (Ps := []) (by decide +kernel) rfl trivial ?_
      refine r_icmp_gt (off := 42) (tgt := 71) (by decide +kernel) (by decide) (fun c => ?_) (fun c => ?_)
      · replace h := h.1 c
        refine r_blk [qO (.iload_n 3)] (pc' := 72) (L' := [zR 34 0, zI l1, zI l2, zI l3]) (S' := [zI l3]) (σ' := σ3) (Ps := []) (by decide +kernel) rfl trivial ?_
        refine r_if_le (off := 7) (tgt := 79) (by decide +kernel) (by decide) (fun c => ?_) (fun c => ?_)
        · replace h := h.1 c
          refine r_blk [qO (.iconst 0)] (pc' := 80) (L' := [zR 34 0, zI l1, zI l2, zI l3]) (S' := [zI 0]) (σ' := σ3) (Ps := []) (by decide +kernel) rfl trivial ?_
          exact r_retz (by decide +kernel) rfl (by decide) h
        · replace h := h.2 c
          refine r_blk [qO (.iconst 1), qO (.goto 4)] (pc' := 80) (L' := [zR 34 0, zI l1, zI l2, zI l3]) (S' := [zI 1]) (σ' := σ3) (Ps := []) (by decide +kernel) rfl trivial ?_
          exact r_retz (by decide +kernel) rfl (by decide) h
      · replace h := h.2 c
        refine r_blk [qO (.aload_n 0), qF (.getfield 25) 11 6, qO (.iload_n 1), qO (.bipush 10), qO (.aload_n 0), qF (.getfield 25) 11 6, qO (.iload_n 1), qO .iaload, qO .imul, qO (.aload_n 0)] (pc' := 47) (L' := [zR 34 0, zI l1, zI l2, zI l3]) (S' := [zR 34 0, zI (10 * (σ3 40 0 l1.toNat)), zI l1, zR 40 0]) (σ' := σ3) (Ps := [0 ≤ l1 ∧ l1 < 4, -2147483648 ≤ 10 * (σ3 40 0 l1.toNat) ∧ 10 * (σ3 40 0 l1.toNat) ≤ 2147483647]) (by decide +kernel) rfl ⟨h.1, h.2.1, trivial⟩ ?_
        replace h := h.2.2
        refine r_callVI (As := []) (S := [zI (10 * (σ3 40 0 l1.toNat)), zI l1, zR 40 0]) (Lc := [zR 34 0]) (d' := 0) (n := 0) (g := 34) (x := 0) (ci := 11) kX11_sign vX11_sign lkX11_79 (by decide +kernel) (by decide) rfl rfl (by decide) rfl rfl (Nat.le_of_ble_eq_true rfl) rfl rfl (Nat.le_of_ble_eq_true rfl) (h.monoI (fun z6 σ5 h => ?_))
        refine r_blk [qO .iadd, qO (.bipush 48), qO .isub, qO .iastore, qO (.aload_n 0), qO .dup, qF (.getfield 76) 11 8, qO (.iconst 1), qO .iadd, qF (.putfield 76) 11 8, qO (.iinc 3 1), qO (.goto (-59))] (pc' := 9) (L' := [zR 34 0, zI l1, zI l2, zI (l3 + 1)]) (S' := []) (σ' := (zup (zup σ5 40 0 l1.toNat (((10 * (σ3 40 0 l1.toNat)) + z6) - 48)) 34 0 8 ((σ5 34 0 8) + 1))) (Ps := [-2147483648 ≤ (10 * (σ3 40 0 l1.toNat)) + z6 ∧ (10 * (σ3 40 0 l1.toNat)) + z6 ≤ 2147483647, -2147483648 ≤ ((10 * (σ3 40 0 l1.toNat)) + z6) - 48 ∧ ((10 * (σ3 40 0 l1.toNat)) + z6) - 48 ≤ 2147483647, 0 ≤ l1 ∧ l1 < 4, -2147483648 ≤ (σ5 34 0 8) + 1 ∧ (σ5 34 0 8) + 1 ≤ 2147483647, -2147483648 ≤ l3 + 1 ∧ l3 + 1 ≤ 2147483647]) (by decide +kernel) rfl ⟨h.1, h.2.1, h.2.2.1, h.2.2.2.1, h.2.2.2.2.1, trivial⟩ ?_
        replace h := h.2.2.2.2.2
        generalize hσ7 : (zup (zup σ5 40 0 l1.toNat (((10 * (σ3 40 0 l1.toNat)) + z6) - 48)) 34 0 8 ((σ5 34 0 8) + 1)) = σ7
        replace h := h σ7 hσ7.symm
        exact Runs.fg (fgE (fgE (fgE (fgE fg0)))) h
