theorem gX11_isIn_0 (a0 : Int) (a1 : Int) (σ : Hp) {Q : Option Int → Hp → Prop} (h : ((a0 < 0 → Q (some 0) σ) ∧ (¬ a0 < 0 → ((a1 ≤ a0 → Q (some 0) σ) ∧ (¬ a1 ≤ a0 → Q (some 1) σ))))) : Runs 0 mX11_isIn 0 [zI a0, zI a1] [] σ Q := by
  refine r_blk [qO (.iload_n 0)] (pc' := 1) (L' := [zI a0, zI a1]) (S' := [zI a0]) (σ' := σ) (Ps := []) (by decide +kernel) rfl trivial ?_
  refine r_if_lt (off := 12) (tgt := 13) (by decide +kernel) (by decide) (fun c => ?_) (fun c => ?_)
  · replace h := h.1 c
    refine r_blk [qO (.iconst 0)] (pc' := 14) (L' := [zI a0, zI a1]) (S' := [zI 0]) (σ' := σ) (Ps := []) (by decide +kernel) rfl trivial ?_
    exact r_retz (by decide +kernel) rfl (by decide) h
  · replace h := h.2 c
    refine r_blk [qO (.iload_n 0), qO (.iload_n 1)] (pc' := 6) (L' := [zI a0, zI a1]) (S' := [zI a1, zI a0]) (σ' := σ) (Ps := []) (by decide +kernel) rfl trivial ?_
    refine r_icmp_ge (off := 7) (tgt := 13) (by decide +kernel) (by decide) (fun c => ?_) (fun c => ?_)
    · replace h := h.1 c
      refine r_blk [qO (.iconst 0)] (pc' := 14) (L' := [zI a0, zI a1]) (S' := [zI 0]) (σ' := σ) (Ps := []) (by decide +kernel) rfl trivial ?_
      exact r_retz (by decide +kernel) rfl (by decide) h
    · replace h := h.2 c
      refine r_blk [qO (.iconst 1), qO (.goto 4)] (pc' := 14) (L' := [zI a0, zI a1]) (S' := [zI 1]) (σ' := σ) (Ps := []) (by decide +kernel) rfl trivial ?_
      exact r_retz (by decide +kernel) rfl (by decide) h
theorem gX11_within_0 (a0 : Int) (a1 : Int) (a2 : Int) (σ : Hp) {Q : Option Int → Hp → Prop} (h : ((a1 ≤ a0 → ((a0 ≤ a2 → Q (some 0) σ) ∧ (¬ a0 ≤ a2 → Q (some (-6)) σ))) ∧ (¬ a1 ≤ a0 → Q (some (-4)) σ))) : Runs 0 mX11_within 0 [zI a0, zI a1, zI a2] [] σ Q := by
  refine r_blk [qO (.iload_n 0), qO (.iload_n 1)] (pc' := 2) (L' := [zI a0, zI a1, zI a2]) (S' := [zI a1, zI a0]) (σ' := σ) (Ps := []) (by decide +kernel) rfl trivial ?_
  refine r_icmp_ge (off := 8) (tgt := 10) (by decide +kernel) (by decide) (fun c => ?_) (fun c => ?_)
  · replace h := h.1 c
    refine r_blk [qO (.iload_n 0), qO (.iload_n 2)] (pc' := 12) (L' := [zI a0, zI a1, zI a2]) (S' := [zI a2, zI a0]) (σ' := σ) (Ps := []) (by decide +kernel) rfl trivial ?_
    refine r_icmp_le (off := 8) (tgt := 20) (by decide +kernel) (by decide) (fun c => ?_) (fun c => ?_)
    · replace h := h.1 c
      refine r_blk [qO (.iconst 0)] (pc' := 21) (L' := [zI a0, zI a1, zI a2]) (S' := [zI 0]) (σ' := σ) (Ps := []) (by decide +kernel) rfl trivial ?_
      exact r_ret (by decide +kernel) rfl (fun _ => h)
    · replace h := h.2 c
      refine r_blk [qO (.bipush (-6)), qO (.goto 4)] (pc' := 21) (L' := [zI a0, zI a1, zI a2]) (S' := [zI (-6)]) (σ' := σ) (Ps := []) (by decide +kernel) rfl trivial ?_
      exact r_ret (by decide +kernel) rfl (fun _ => h)
  · replace h := h.2 c
    refine r_blk [qO (.bipush (-4)), qO (.goto 14)] (pc' := 21) (L' := [zI a0, zI a1, zI a2]) (S' := [zI (-4)]) (σ' := σ) (Ps := []) (by decide +kernel) rfl trivial ?_
    exact r_ret (by decide +kernel) rfl (fun _ => h)
theorem gX11_get_0 (a0 : Int) (a1 : Int) (σ : Hp) {Q : Option Int → Hp → Prop} (h : (-2147483648 ≤ 5 * a0 ∧ 5 * a0 ≤ 2147483647) ∧ (-2147483648 ≤ 11 + (5 * a0) ∧ 11 + (5 * a0) ≤ 2147483647) ∧ (-2147483648 ≤ (11 + (5 * a0)) + a1 ∧ (11 + (5 * a0)) + a1 ≤ 2147483647) ∧ (0 ≤ (11 + (5 * a0)) + a1 ∧ (11 + (5 * a0)) + a1 < 123) ∧ Q (some (σ 36 0 (((11 + (5 * a0)) + a1).toNat))) σ) : Runs 0 mX11_get 0 [zR 34 0, zI a0, zI a1] [] σ Q := by
  refine r_blk [qO (.aload_n 0), qF (.getfield 13) 11 1, qO (.bipush 11), qO (.iconst 5), qO (.iload_n 1), qO .imul, qO .iadd, qO (.iload_n 2), qO .iadd, qO .iaload] (pc' := 13) (L' := [zR 34 0, zI a0, zI a1]) (S' := [zI (σ 36 0 (((11 + (5 * a0)) + a1).toNat))]) (σ' := σ) (Ps := [-2147483648 ≤ 5 * a0 ∧ 5 * a0 ≤ 2147483647, -2147483648 ≤ 11 + (5 * a0) ∧ 11 + (5 * a0) ≤ 2147483647, -2147483648 ≤ (11 + (5 * a0)) + a1 ∧ (11 + (5 * a0)) + a1 ≤ 2147483647, 0 ≤ (11 + (5 * a0)) + a1 ∧ (11 + (5 * a0)) + a1 < 123]) (by decide +kernel) rfl ⟨h.1, h.2.1, h.2.2.1, h.2.2.2.1, trivial⟩ ?_
  replace h := h.2.2.2.2
  exact r_ret (by decide +kernel) rfl (fun _ => h)
theorem gX11_of_0 (a0 : Int) (a1 : Int) (σ : Hp) {Q : Option Int → Hp → Prop} (h : (-2147483648 ≤ 4 * a0 ∧ 4 * a0 ≤ 2147483647) ∧ (-2147483648 ≤ 81 + (4 * a0) ∧ 81 + (4 * a0) ≤ 2147483647) ∧ (-2147483648 ≤ (81 + (4 * a0)) + a1 ∧ (81 + (4 * a0)) + a1 ≤ 2147483647) ∧ (0 ≤ (81 + (4 * a0)) + a1 ∧ (81 + (4 * a0)) + a1 < 123) ∧ Q (some (σ 36 0 (((81 + (4 * a0)) + a1).toNat))) σ) : Runs 0 mX11_of 0 [zR 34 0, zI a0, zI a1] [] σ Q := by
  refine r_blk [qO (.aload_n 0), qF (.getfield 13) 11 1, qO (.bipush 81), qO (.iconst 4), qO (.iload_n 1), qO .imul, qO .iadd, qO (.iload_n 2), qO .iadd, qO .iaload] (pc' := 13) (L' := [zR 34 0, zI a0, zI a1]) (S' := [zI (σ 36 0 (((81 + (4 * a0)) + a1).toNat))]) (σ' := σ) (Ps := [-2147483648 ≤ 4 * a0 ∧ 4 * a0 ≤ 2147483647, -2147483648 ≤ 81 + (4 * a0) ∧ 81 + (4 * a0) ≤ 2147483647, -2147483648 ≤ (81 + (4 * a0)) + a1 ∧ (81 + (4 * a0)) + a1 ≤ 2147483647, 0 ≤ (81 + (4 * a0)) + a1 ∧ (81 + (4 * a0)) + a1 < 123]) (by decide +kernel) rfl ⟨h.1, h.2.1, h.2.2.1, h.2.2.2.1, trivial⟩ ?_
  replace h := h.2.2.2.2
  exact r_ret (by decide +kernel) rfl (fun _ => h)
theorem gX11_refuse_0 (a0 : Int) (σ : Hp) {Q : Option Int → Hp → Prop} (h : (-2147483648 ≤ -a0 ∧ -a0 ≤ 2147483647) ∧ (0 ≤ (-a0) ∧ (-a0) < 7) ∧ (-2147483648 ≤ (σ 35 0 ((-a0).toNat)) + 1 ∧ (σ 35 0 ((-a0).toNat)) + 1 ≤ 2147483647) ∧ (0 ≤ (-a0) ∧ (-a0) < 7) ∧ Q (some a0) (zup σ 35 0 ((-a0).toNat) ((σ 35 0 ((-a0).toNat)) + 1))) : Runs 0 mX11_refuse 0 [zR 34 0, zI a0] [] σ Q := by
  refine r_blk [qO (.aload_n 0), qF (.getfield 7) 11 0, qO (.iload_n 1), qO .ineg, qO .dup2, qO .iaload, qO (.iconst 1), qO .iadd, qO .iastore, qO (.iload_n 1)] (pc' := 12) (L' := [zR 34 0, zI a0]) (S' := [zI a0]) (σ' := (zup σ 35 0 ((-a0).toNat) ((σ 35 0 ((-a0).toNat)) + 1))) (Ps := [-2147483648 ≤ -a0 ∧ -a0 ≤ 2147483647, 0 ≤ (-a0) ∧ (-a0) < 7, -2147483648 ≤ (σ 35 0 ((-a0).toNat)) + 1 ∧ (σ 35 0 ((-a0).toNat)) + 1 ≤ 2147483647, 0 ≤ (-a0) ∧ (-a0) < 7]) (by decide +kernel) rfl ⟨h.1, h.2.1, h.2.2.1, h.2.2.2.1, trivial⟩ ?_
  replace h := h.2.2.2.2
  exact r_ret (by decide +kernel) rfl (fun _ => h)
theorem gX11_sign_0 (σ : Hp) {Q : Option Int → Hp → Prop} (h : ((σ 34 0 8 < σ 34 0 7 → (0 ≤ σ 34 0 8 ∧ σ 34 0 8 < 64) ∧ Q (some (σ 39 0 ((σ 34 0 8).toNat))) σ) ∧ (¬ σ 34 0 8 < σ 34 0 7 → Q (some (-1)) σ))) : Runs 0 mX11_sign 0 [zR 34 0] [] σ Q := by
  refine r_blk [qO (.aload_n 0), qF (.getfield 76) 11 8, qO (.aload_n 0), qF (.getfield 70) 11 7] (pc' := 8) (L' := [zR 34 0]) (S' := [zI (σ 34 0 7), zI (σ 34 0 8)]) (σ' := σ) (Ps := []) (by decide +kernel) rfl trivial ?_
  refine r_icmp_lt (off := 7) (tgt := 15) (by decide +kernel) (by decide) (fun c => ?_) (fun c => ?_)
  · replace h := h.1 c
    refine r_blk [qO (.aload_n 0), qF (.getfield 22) 11 5, qO (.aload_n 0), qF (.getfield 76) 11 8, qO .iaload] (pc' := 24) (L' := [zR 34 0]) (S' := [zI (σ 39 0 ((σ 34 0 8).toNat))]) (σ' := σ) (Ps := [0 ≤ σ 34 0 8 ∧ σ 34 0 8 < 64]) (by decide +kernel) rfl ⟨h.1, trivial⟩ ?_
    replace h := h.2
    exact r_ret (by decide +kernel) rfl (fun _ => h)
  · replace h := h.2 c
    refine r_blk [qO (.iconst (-1)), qO (.goto 12)] (pc' := 24) (L' := [zR 34 0]) (S' := [zI (-1)]) (σ' := σ) (Ps := []) (by decide +kernel) rfl trivial ?_
    exact r_ret (by decide +kernel) rfl (fun _ => h)
theorem gX11_becomes_0 (a0 : Int) (a1 : Int) (σ : Hp) {Q : Option Int → Hp → Prop} (h : (0 ≤ a0 ∧ a0 < 123) ∧ (0 ≤ a0 ∧ a0 < 123) ∧ Q (some (σ 36 0 a0.toNat)) (zup σ 36 0 a0.toNat a1)) : Runs 0 mX11_becomes 0 [zR 34 0, zI a0, zI a1, zU] [] σ Q := by
  refine r_blk [qO (.aload_n 0), qF (.getfield 13) 11 1, qO (.iload_n 1), qO .iaload, qO (.istore_n 3), qO (.aload_n 0), qF (.getfield 13) 11 1, qO (.iload_n 1), qO (.iload_n 2), qO .iastore, qO (.iload_n 3)] (pc' := 15) (L' := [zR 34 0, zI a0, zI a1, zI (σ 36 0 a0.toNat)]) (S' := [zI (σ 36 0 a0.toNat)]) (σ' := (zup σ 36 0 a0.toNat a1)) (Ps := [0 ≤ a0 ∧ a0 < 123, 0 ≤ a0 ∧ a0 < 123]) (by decide +kernel) rfl ⟨h.1, h.2.1, trivial⟩ ?_
  replace h := h.2.2
  exact r_ret (by decide +kernel) rfl (fun _ => h)
theorem gX11_most_0 (a0 : Int) (σ : Hp) {Q : Option Int → Hp → Prop} (h : ((¬ a0 = 0 → ((¬ a0 = 1 → ((¬ a0 = 2 → Q (some 9) σ) ∧ (a0 = 2 → Q (some 720) σ))) ∧ (a0 = 1 → Q (some 4) σ))) ∧ (a0 = 0 → Q (some 1439) σ))) : Runs 0 mX11_most 0 [zI a0] [] σ Q := by
  refine r_blk [qO (.iload_n 0)] (pc' := 1) (L' := [zI a0]) (S' := [zI a0]) (σ' := σ) (Ps := []) (by decide +kernel) rfl trivial ?_
  refine r_if_ne (off := 9) (tgt := 10) (by decide +kernel) (by decide) (fun c => ?_) (fun c => ?_)
  · replace h := h.1 c
    refine r_blk [qO (.iload_n 0), qO (.iconst 1)] (pc' := 12) (L' := [zI a0]) (S' := [zI 1, zI a0]) (σ' := σ) (Ps := []) (by decide +kernel) rfl trivial ?_
    refine r_icmp_ne (off := 7) (tgt := 19) (by decide +kernel) (by decide) (fun c => ?_) (fun c => ?_)
    · replace h := h.1 c
      refine r_blk [qO (.iload_n 0), qO (.iconst 2)] (pc' := 21) (L' := [zI a0]) (S' := [zI 2, zI a0]) (σ' := σ) (Ps := []) (by decide +kernel) rfl trivial ?_
      refine r_icmp_ne (off := 9) (tgt := 30) (by decide +kernel) (by decide) (fun c => ?_) (fun c => ?_)
      · replace h := h.1 c
        refine r_blk [qO (.bipush 9)] (pc' := 32) (L' := [zI a0]) (S' := [zI 9]) (σ' := σ) (Ps := []) (by decide +kernel) rfl trivial ?_
        exact r_ret (by decide +kernel) rfl (fun _ => h)
      · replace h := h.2 c
        refine r_blk [qO (.sipush 720), qO (.goto 5)] (pc' := 32) (L' := [zI a0]) (S' := [zI 720]) (σ' := σ) (Ps := []) (by decide +kernel) rfl trivial ?_
        exact r_ret (by decide +kernel) rfl (fun _ => h)
    · replace h := h.2 c
      refine r_blk [qO (.iconst 4), qO (.goto 16)] (pc' := 32) (L' := [zI a0]) (S' := [zI 4]) (σ' := σ) (Ps := []) (by decide +kernel) rfl trivial ?_
      exact r_ret (by decide +kernel) rfl (fun _ => h)
  · replace h := h.2 c
    refine r_blk [qO (.sipush 1439), qO (.goto 25)] (pc' := 32) (L' := [zI a0]) (S' := [zI 1439]) (σ' := σ) (Ps := []) (by decide +kernel) rfl trivial ?_
    exact r_ret (by decide +kernel) rfl (fun _ => h)
theorem gX10_bitOf_0 (a0 : Int) (a1 : Int) (σ : Hp) {Q : Option Int → Hp → Prop} (h : Q (some (bitz a0 a1)) σ) : Runs 0 mX10_bitOf 0 [zI a0, zI a1] [] σ Q := by
  refine r_blk [qO (.iload_n 0), qO (.iload_n 1), qO .ishr, qO (.iconst 1), qO .iand] (pc' := 5) (L' := [zI a0, zI a1]) (S' := [zI (bitz a0 a1)]) (σ' := σ) (Ps := []) (by decide +kernel) rfl trivial ?_
  exact r_ret (by decide +kernel) rfl (fun _ => h)
theorem gX6_hasCorner_0 (a0 : Int) (t : Nat) (σ : Hp) {Q : Option Int → Hp → Prop} (h : ((a0 < 0 → Q (some 0) σ) ∧ (¬ a0 < 0 → ((σ 1 t 0 ≤ a0 → Q (some 0) σ) ∧ (¬ σ 1 t 0 ≤ a0 → Q (some 1) σ))))) : Runs 0 mX6_hasCorner 0 [zR 1 t, zI a0] [] σ Q := by
  refine r_blk [qO (.iload_n 1)] (pc' := 1) (L' := [zR 1 t, zI a0]) (S' := [zI a0]) (σ' := σ) (Ps := []) (by decide +kernel) rfl trivial ?_
  refine r_if_lt (off := 15) (tgt := 16) (by decide +kernel) (by decide) (fun c => ?_) (fun c => ?_)
  · replace h := h.1 c
    refine r_blk [qO (.iconst 0)] (pc' := 17) (L' := [zR 1 t, zI a0]) (S' := [zI 0]) (σ' := σ) (Ps := []) (by decide +kernel) rfl trivial ?_
    exact r_retz (by decide +kernel) rfl (by decide) h
  · replace h := h.2 c
    refine r_blk [qO (.iload_n 1), qO (.aload_n 0), qF (.getfield 9) 6 0] (pc' := 9) (L' := [zR 1 t, zI a0]) (S' := [zI (σ 1 t 0), zI a0]) (σ' := σ) (Ps := []) (by decide +kernel) rfl trivial ?_
    refine r_icmp_ge (off := 7) (tgt := 16) (by decide +kernel) (by decide) (fun c => ?_) (fun c => ?_)
    · replace h := h.1 c
      refine r_blk [qO (.iconst 0)] (pc' := 17) (L' := [zR 1 t, zI a0]) (S' := [zI 0]) (σ' := σ) (Ps := []) (by decide +kernel) rfl trivial ?_
      exact r_retz (by decide +kernel) rfl (by decide) h
    · replace h := h.2 c
      refine r_blk [qO (.iconst 1), qO (.goto 4)] (pc' := 17) (L' := [zR 1 t, zI a0]) (S' := [zI 1]) (σ' := σ) (Ps := []) (by decide +kernel) rfl trivial ?_
      exact r_retz (by decide +kernel) rfl (by decide) h
theorem gX6_hasStreet_0 (a0 : Int) (t : Nat) (σ : Hp) {Q : Option Int → Hp → Prop} (h : ((a0 < 0 → Q (some 0) σ) ∧ (¬ a0 < 0 → ((σ 1 t 1 ≤ a0 → Q (some 0) σ) ∧ (¬ σ 1 t 1 ≤ a0 → Q (some 1) σ))))) : Runs 0 mX6_hasStreet 0 [zR 1 t, zI a0] [] σ Q := by
  refine r_blk [qO (.iload_n 1)] (pc' := 1) (L' := [zR 1 t, zI a0]) (S' := [zI a0]) (σ' := σ) (Ps := []) (by decide +kernel) rfl trivial ?_
  refine r_if_lt (off := 15) (tgt := 16) (by decide +kernel) (by decide) (fun c => ?_) (fun c => ?_)
  · replace h := h.1 c
    refine r_blk [qO (.iconst 0)] (pc' := 17) (L' := [zR 1 t, zI a0]) (S' := [zI 0]) (σ' := σ) (Ps := []) (by decide +kernel) rfl trivial ?_
    exact r_retz (by decide +kernel) rfl (by decide) h
  · replace h := h.2 c
    refine r_blk [qO (.iload_n 1), qO (.aload_n 0), qF (.getfield 46) 6 1] (pc' := 9) (L' := [zR 1 t, zI a0]) (S' := [zI (σ 1 t 1), zI a0]) (σ' := σ) (Ps := []) (by decide +kernel) rfl trivial ?_
    refine r_icmp_ge (off := 7) (tgt := 16) (by decide +kernel) (by decide) (fun c => ?_) (fun c => ?_)
    · replace h := h.1 c
      refine r_blk [qO (.iconst 0)] (pc' := 17) (L' := [zR 1 t, zI a0]) (S' := [zI 0]) (σ' := σ) (Ps := []) (by decide +kernel) rfl trivial ?_
      exact r_retz (by decide +kernel) rfl (by decide) h
    · replace h := h.2 c
      refine r_blk [qO (.iconst 1), qO (.goto 4)] (pc' := 17) (L' := [zR 1 t, zI a0]) (S' := [zI 1]) (σ' := σ) (Ps := []) (by decide +kernel) rfl trivial ?_
      exact r_retz (by decide +kernel) rfl (by decide) h
theorem gX6_hasErrand_0 (a0 : Int) (t : Nat) (σ : Hp) {Q : Option Int → Hp → Prop} (h : ((a0 < 0 → Q (some 0) σ) ∧ (¬ a0 < 0 → ((σ 1 t 2 ≤ a0 → Q (some 0) σ) ∧ (¬ σ 1 t 2 ≤ a0 → Q (some 1) σ))))) : Runs 0 mX6_hasErrand 0 [zR 1 t, zI a0] [] σ Q := by
  refine r_blk [qO (.iload_n 1)] (pc' := 1) (L' := [zR 1 t, zI a0]) (S' := [zI a0]) (σ' := σ) (Ps := []) (by decide +kernel) rfl trivial ?_
  refine r_if_lt (off := 15) (tgt := 16) (by decide +kernel) (by decide) (fun c => ?_) (fun c => ?_)
  · replace h := h.1 c
    refine r_blk [qO (.iconst 0)] (pc' := 17) (L' := [zR 1 t, zI a0]) (S' := [zI 0]) (σ' := σ) (Ps := []) (by decide +kernel) rfl trivial ?_
    exact r_retz (by decide +kernel) rfl (by decide) h
  · replace h := h.2 c
    refine r_blk [qO (.iload_n 1), qO (.aload_n 0), qF (.getfield 49) 6 2] (pc' := 9) (L' := [zR 1 t, zI a0]) (S' := [zI (σ 1 t 2), zI a0]) (σ' := σ) (Ps := []) (by decide +kernel) rfl trivial ?_
    refine r_icmp_ge (off := 7) (tgt := 16) (by decide +kernel) (by decide) (fun c => ?_) (fun c => ?_)
    · replace h := h.1 c
      refine r_blk [qO (.iconst 0)] (pc' := 17) (L' := [zR 1 t, zI a0]) (S' := [zI 0]) (σ' := σ) (Ps := []) (by decide +kernel) rfl trivial ?_
      exact r_retz (by decide +kernel) rfl (by decide) h
    · replace h := h.2 c
      refine r_blk [qO (.iconst 1), qO (.goto 4)] (pc' := 17) (L' := [zR 1 t, zI a0]) (S' := [zI 1]) (σ' := σ) (Ps := []) (by decide +kernel) rfl trivial ?_
      exact r_retz (by decide +kernel) rfl (by decide) h
theorem gX10_refuse_0 (a0 : Int) (σ : Hp) {Q : Option Int → Hp → Prop} (h : (((-1) < a0 → Q (some a0) σ) ∧ (¬ (-1) < a0 → ((a0 < (-6) → Q (some a0) σ) ∧ (¬ a0 < (-6) → (-2147483648 ≤ -a0 ∧ -a0 ≤ 2147483647) ∧ (0 ≤ (-a0) ∧ (-a0) < 7) ∧ (-2147483648 ≤ (σ 33 0 ((-a0).toNat)) + 1 ∧ (σ 33 0 ((-a0).toNat)) + 1 ≤ 2147483647) ∧ (0 ≤ (-a0) ∧ (-a0) < 7) ∧ Q (some a0) (zup σ 33 0 ((-a0).toNat) ((σ 33 0 ((-a0).toNat)) + 1))))))) : Runs 0 mX10_refuse 0 [zR 0 0, zI a0] [] σ Q := by
  refine r_blk [qO (.iload_n 1), qO (.iconst (-1))] (pc' := 2) (L' := [zR 0 0, zI a0]) (S' := [zI (-1), zI a0]) (σ' := σ) (Ps := []) (by decide +kernel) rfl trivial ?_
  refine r_icmp_gt (off := 20) (tgt := 22) (by decide +kernel) (by decide) (fun c => ?_) (fun c => ?_)
  · replace h := h.1 c
    refine r_blk [qO (.iload_n 1)] (pc' := 23) (L' := [zR 0 0, zI a0]) (S' := [zI a0]) (σ' := σ) (Ps := []) (by decide +kernel) rfl trivial ?_
    exact r_ret (by decide +kernel) rfl (fun _ => h)
  · replace h := h.2 c
    refine r_blk [qO (.iload_n 1), qO (.bipush (-6))] (pc' := 8) (L' := [zR 0 0, zI a0]) (S' := [zI (-6), zI a0]) (σ' := σ) (Ps := []) (by decide +kernel) rfl trivial ?_
    refine r_icmp_lt (off := 14) (tgt := 22) (by decide +kernel) (by decide) (fun c => ?_) (fun c => ?_)
    · replace h := h.1 c
      refine r_blk [qO (.iload_n 1)] (pc' := 23) (L' := [zR 0 0, zI a0]) (S' := [zI a0]) (σ' := σ) (Ps := []) (by decide +kernel) rfl trivial ?_
      exact r_ret (by decide +kernel) rfl (fun _ => h)
    · replace h := h.2 c
      refine r_blk [qO (.aload_n 0), qF (.getfield 91) 10 11, qO (.iload_n 1), qO .ineg, qO .dup2, qO .iaload, qO (.iconst 1), qO .iadd, qO .iastore, qO (.iload_n 1)] (pc' := 23) (L' := [zR 0 0, zI a0]) (S' := [zI a0]) (σ' := (zup σ 33 0 ((-a0).toNat) ((σ 33 0 ((-a0).toNat)) + 1))) (Ps := [-2147483648 ≤ -a0 ∧ -a0 ≤ 2147483647, 0 ≤ (-a0) ∧ (-a0) < 7, -2147483648 ≤ (σ 33 0 ((-a0).toNat)) + 1 ∧ (σ 33 0 ((-a0).toNat)) + 1 ≤ 2147483647, 0 ≤ (-a0) ∧ (-a0) < 7]) (by decide +kernel) rfl ⟨h.1, h.2.1, h.2.2.1, h.2.2.2.1, trivial⟩ ?_
      replace h := h.2.2.2.2
      exact r_ret (by decide +kernel) rfl (fun _ => h)
theorem gX10_refusalOfMinute_0 (a0 : Int) (σ : Hp) {Q : Option Int → Hp → Prop} (h : ((0 ≤ a0 → ((a0 ≤ 2879 → Q (some 0) σ) ∧ (¬ a0 ≤ 2879 → Q (some (-6)) σ))) ∧ (¬ 0 ≤ a0 → Q (some (-4)) σ))) : Runs 0 mX10_refusalOfMinute 0 [zR 0 0, zI a0] [] σ Q := by
  refine r_blk [qO (.iload_n 1)] (pc' := 1) (L' := [zR 0 0, zI a0]) (S' := [zI a0]) (σ' := σ) (Ps := []) (by decide +kernel) rfl trivial ?_
  refine r_if_ge (off := 6) (tgt := 7) (by decide +kernel) (by decide) (fun c => ?_) (fun c => ?_)
  · replace h := h.1 c
    refine r_blk [qO (.iload_n 1), qO (.sipush 2879)] (pc' := 11) (L' := [zR 0 0, zI a0]) (S' := [zI 2879, zI a0]) (σ' := σ) (Ps := []) (by decide +kernel) rfl trivial ?_
    refine r_icmp_le (off := 8) (tgt := 19) (by decide +kernel) (by decide) (fun c => ?_) (fun c => ?_)
    · replace h := h.1 c
      refine r_blk [qO (.iconst 0)] (pc' := 20) (L' := [zR 0 0, zI a0]) (S' := [zI 0]) (σ' := σ) (Ps := []) (by decide +kernel) rfl trivial ?_
      exact r_ret (by decide +kernel) rfl (fun _ => h)
    · replace h := h.2 c
      refine r_blk [qO (.bipush (-6)), qO (.goto 4)] (pc' := 20) (L' := [zR 0 0, zI a0]) (S' := [zI (-6)]) (σ' := σ) (Ps := []) (by decide +kernel) rfl trivial ?_
      exact r_ret (by decide +kernel) rfl (fun _ => h)
  · replace h := h.2 c
    refine r_blk [qO (.bipush (-4))] (pc' := 6) (L' := [zR 0 0, zI a0]) (S' := [zI (-4)]) (σ' := σ) (Ps := []) (by decide +kernel) rfl trivial ?_
    exact r_ret (by decide +kernel) rfl (fun _ => h)
theorem gX5_byteAt_0 (a0 : Int) (σ : Hp) {Q : Option Int → Hp → Prop} (h : ((a0 < 0 → Q (some (-1)) σ) ∧ (¬ a0 < 0 → ((σ 12 0 1 ≤ a0 → Q (some (-1)) σ) ∧ (¬ σ 12 0 1 ≤ a0 → (0 ≤ a0 ∧ a0 < 64) ∧ Q (some (σ 13 0 a0.toNat)) σ))))) : Runs 0 mX5_byteAt 0 [zR 12 0, zI a0] [] σ Q := by
  refine r_blk [qO (.iload_n 1)] (pc' := 1) (L' := [zR 12 0, zI a0]) (S' := [zI a0]) (σ' := σ) (Ps := []) (by decide +kernel) rfl trivial ?_
  refine r_if_lt (off := 20) (tgt := 21) (by decide +kernel) (by decide) (fun c => ?_) (fun c => ?_)
  · replace h := h.1 c
    refine r_blk [qO (.iconst (-1))] (pc' := 22) (L' := [zR 12 0, zI a0]) (S' := [zI (-1)]) (σ' := σ) (Ps := []) (by decide +kernel) rfl trivial ?_
    exact r_ret (by decide +kernel) rfl (fun _ => h)
  · replace h := h.2 c
    refine r_blk [qO (.iload_n 1), qO (.aload_n 0), qF (.getfield 15) 5 1] (pc' := 9) (L' := [zR 12 0, zI a0]) (S' := [zI (σ 12 0 1), zI a0]) (σ' := σ) (Ps := []) (by decide +kernel) rfl trivial ?_
    refine r_icmp_ge (off := 12) (tgt := 21) (by decide +kernel) (by decide) (fun c => ?_) (fun c => ?_)
    · replace h := h.1 c
      refine r_blk [qO (.iconst (-1))] (pc' := 22) (L' := [zR 12 0, zI a0]) (S' := [zI (-1)]) (σ' := σ) (Ps := []) (by decide +kernel) rfl trivial ?_
      exact r_ret (by decide +kernel) rfl (fun _ => h)
    · replace h := h.2 c
      refine r_blk [qO (.aload_n 0), qF (.getfield 9) 5 0, qO (.iload_n 1), qO .iaload, qO (.goto 4)] (pc' := 22) (L' := [zR 12 0, zI a0]) (S' := [zI (σ 13 0 a0.toNat)]) (σ' := σ) (Ps := [0 ≤ a0 ∧ a0 < 64]) (by decide +kernel) rfl ⟨h.1, trivial⟩ ?_
      replace h := h.2
      exact r_ret (by decide +kernel) rfl (fun _ => h)
theorem gX3_isDigit_0 (a0 : Int) (σ : Hp) {Q : Option Int → Hp → Prop} (h : ((a0 < 48 → Q (some 0) σ) ∧ (¬ a0 < 48 → ((57 < a0 → Q (some 0) σ) ∧ (¬ 57 < a0 → Q (some 1) σ))))) : Runs 0 mX3_isDigit 0 [zI a0] [] σ Q := by
  refine r_blk [qO (.iload_n 0), qO (.bipush 48)] (pc' := 3) (L' := [zI a0]) (S' := [zI 48, zI a0]) (σ' := σ) (Ps := []) (by decide +kernel) rfl trivial ?_
  refine r_icmp_lt (off := 13) (tgt := 16) (by decide +kernel) (by decide) (fun c => ?_) (fun c => ?_)
  · replace h := h.1 c
    refine r_blk [qO (.iconst 0)] (pc' := 17) (L' := [zI a0]) (S' := [zI 0]) (σ' := σ) (Ps := []) (by decide +kernel) rfl trivial ?_
    exact r_retz (by decide +kernel) rfl (by decide) h
  · replace h := h.2 c
    refine r_blk [qO (.iload_n 0), qO (.bipush 57)] (pc' := 9) (L' := [zI a0]) (S' := [zI 57, zI a0]) (σ' := σ) (Ps := []) (by decide +kernel) rfl trivial ?_
    refine r_icmp_gt (off := 7) (tgt := 16) (by decide +kernel) (by decide) (fun c => ?_) (fun c => ?_)
    · replace h := h.1 c
      refine r_blk [qO (.iconst 0)] (pc' := 17) (L' := [zI a0]) (S' := [zI 0]) (σ' := σ) (Ps := []) (by decide +kernel) rfl trivial ?_
      exact r_retz (by decide +kernel) rfl (by decide) h
    · replace h := h.2 c
      refine r_blk [qO (.iconst 1), qO (.goto 4)] (pc' := 17) (L' := [zI a0]) (S' := [zI 1]) (σ' := σ) (Ps := []) (by decide +kernel) rfl trivial ?_
      exact r_retz (by decide +kernel) rfl (by decide) h
theorem gX8_minuteAt_0 (a0 : Int) (σ : Hp) {Q : Option Int → Hp → Prop} (h : (0 ≤ a0 ∧ a0 < 10) ∧ ((¬ σ 18 0 a0.toNat = 1000000 → (0 ≤ a0 ∧ a0 < 10) ∧ Q (some (σ 18 0 a0.toNat)) σ) ∧ (σ 18 0 a0.toNat = 1000000 → Q (some (-9)) σ))) : Runs 0 mX8_minuteAt 0 [zR 17 0, zI a0] [] σ Q := by
  refine r_blk [qO (.aload_n 0), qF (.getfield 9) 8 2, qO (.iload_n 1), qO .iaload, qC (.ldc 23) 1000000] (pc' := 8) (L' := [zR 17 0, zI a0]) (S' := [zI 1000000, zI (σ 18 0 a0.toNat)]) (σ' := σ) (Ps := [0 ≤ a0 ∧ a0 < 10]) (by decide +kernel) rfl ⟨h.1, trivial⟩ ?_
  replace h := h.2
  refine r_icmp_ne (off := 8) (tgt := 16) (by decide +kernel) (by decide) (fun c => ?_) (fun c => ?_)
  · replace h := h.1 c
    refine r_blk [qO (.aload_n 0), qF (.getfield 9) 8 2, qO (.iload_n 1), qO .iaload] (pc' := 22) (L' := [zR 17 0, zI a0]) (S' := [zI (σ 18 0 a0.toNat)]) (σ' := σ) (Ps := [0 ≤ a0 ∧ a0 < 10]) (by decide +kernel) rfl ⟨h.1, trivial⟩ ?_
    replace h := h.2
    exact r_ret (by decide +kernel) rfl (fun _ => h)
  · replace h := h.2 c
    refine r_blk [qO (.bipush (-9)), qO (.goto 9)] (pc' := 22) (L' := [zR 17 0, zI a0]) (S' := [zI (-9)]) (σ' := σ) (Ps := []) (by decide +kernel) rfl trivial ?_
    exact r_ret (by decide +kernel) rfl (fun _ => h)
theorem gX7_turnAt_0 (a0 : Int) (σ : Hp) {Q : Option Int → Hp → Prop} (h : Q none (zup σ 16 0 2 a0)) : Runs 0 mX7_turnAt 0 [zR 16 0, zI a0] [] σ Q := by
  refine r_blk [qO (.aload_n 0), qO (.iload_n 1), qF (.putfield 25) 7 2] (pc' := 5) (L' := [zR 16 0, zI a0]) (S' := []) (σ' := (zup σ 16 0 2 a0)) (Ps := []) (by decide +kernel) rfl trivial ?_
  exact r_retv (by decide +kernel) rfl h
theorem gX7_entryOf_0 (a0 : Int) (a1 : Int) (σ : Hp) {Q : Option Int → Hp → Prop} (h : ((2879 < σ 16 0 7 → Q (some (-9)) σ) ∧ (¬ 2879 < σ 16 0 7 → ((¬ bitz (σ 16 0 5) a0 = 1 → ((bitz (σ 16 0 6) a0 = 1 → Q (some (σ 16 0 7)) σ) ∧ (¬ bitz (σ 16 0 6) a0 = 1 → ((¬ bitz (σ 16 0 9) a0 = a1 → Q (some (σ 16 0 8)) σ) ∧ (bitz (σ 16 0 9) a0 = a1 → Q (some (σ 16 0 7)) σ))))) ∧ (bitz (σ 16 0 5) a0 = 1 → Q (some (-9)) σ))))) : Runs 0 mX7_entryOf 0 [zR 16 0, zI a0, zI a1] [] σ Q := by
  refine r_blk [qO (.aload_n 0), qF (.getfield 54) 7 7, qO (.sipush 2879)] (pc' := 7) (L' := [zR 16 0, zI a0, zI a1]) (S' := [zI 2879, zI (σ 16 0 7)]) (σ' := σ) (Ps := []) (by decide +kernel) rfl trivial ?_
  refine r_icmp_gt (off := 15) (tgt := 22) (by decide +kernel) (by decide) (fun c => ?_) (fun c => ?_)
  · replace h := h.1 c
    refine r_blk [qO (.bipush (-9))] (pc' := 24) (L' := [zR 16 0, zI a0, zI a1]) (S' := [zI (-9)]) (σ' := σ) (Ps := []) (by decide +kernel) rfl trivial ?_
    exact r_ret (by decide +kernel) rfl (fun _ => h)
  · replace h := h.2 c
    refine r_blk [qO (.aload_n 0), qF (.getfield 34) 7 5, qO (.iload_n 1), qO .ishr, qO (.iconst 1), qO .iand, qO (.iconst 1)] (pc' := 19) (L' := [zR 16 0, zI a0, zI a1]) (S' := [zI 1, zI (bitz (σ 16 0 5) a0)]) (σ' := σ) (Ps := []) (by decide +kernel) rfl trivial ?_
    refine r_icmp_ne (off := 6) (tgt := 25) (by decide +kernel) (by decide) (fun c => ?_) (fun c => ?_)
    · replace h := h.1 c
      refine r_blk [qO (.aload_n 0), qF (.getfield 51) 7 6, qO (.iload_n 1), qO .ishr, qO (.iconst 1), qO .iand, qO (.iconst 1)] (pc' := 34) (L' := [zR 16 0, zI a0, zI a1]) (S' := [zI 1, zI (bitz (σ 16 0 6) a0)]) (σ' := σ) (Ps := []) (by decide +kernel) rfl trivial ?_
      refine r_icmp_eq (off := 15) (tgt := 49) (by decide +kernel) (by decide) (fun c => ?_) (fun c => ?_)
      · replace h := h.1 c
        refine r_blk [qO (.aload_n 0), qF (.getfield 54) 7 7, qO (.goto 7)] (pc' := 60) (L' := [zR 16 0, zI a0, zI a1]) (S' := [zI (σ 16 0 7)]) (σ' := σ) (Ps := []) (by decide +kernel) rfl trivial ?_
        exact r_ret (by decide +kernel) rfl (fun _ => h)
      · replace h := h.2 c
        refine r_blk [qO (.aload_n 0), qF (.getfield 60) 7 9, qO (.iload_n 1), qO .ishr, qO (.iconst 1), qO .iand, qO (.iload_n 2)] (pc' := 46) (L' := [zR 16 0, zI a0, zI a1]) (S' := [zI a1, zI (bitz (σ 16 0 9) a0)]) (σ' := σ) (Ps := []) (by decide +kernel) rfl trivial ?_
        refine r_icmp_ne (off := 10) (tgt := 56) (by decide +kernel) (by decide) (fun c => ?_) (fun c => ?_)
        · replace h := h.1 c
          refine r_blk [qO (.aload_n 0), qF (.getfield 57) 7 8] (pc' := 60) (L' := [zR 16 0, zI a0, zI a1]) (S' := [zI (σ 16 0 8)]) (σ' := σ) (Ps := []) (by decide +kernel) rfl trivial ?_
          exact r_ret (by decide +kernel) rfl (fun _ => h)
        · replace h := h.2 c
          refine r_blk [qO (.aload_n 0), qF (.getfield 54) 7 7, qO (.goto 7)] (pc' := 60) (L' := [zR 16 0, zI a0, zI a1]) (S' := [zI (σ 16 0 7)]) (σ' := σ) (Ps := []) (by decide +kernel) rfl trivial ?_
          exact r_ret (by decide +kernel) rfl (fun _ => h)
    · replace h := h.2 c
      refine r_blk [qO (.bipush (-9))] (pc' := 24) (L' := [zR 16 0, zI a0, zI a1]) (S' := [zI (-9)]) (σ' := σ) (Ps := []) (by decide +kernel) rfl trivial ?_
      exact r_ret (by decide +kernel) rfl (fun _ => h)
theorem gX7_standAt_0 (a0 : Int) (σ : Hp) {Q : Option Int → Hp → Prop} (h : ((σ 16 0 1 = 4 → Runs 0 mX7_standAt 29 [zR 16 0, zI a0, zI 0, zI (-9)] [] σ Q) ∧ (¬ σ 16 0 1 = 4 → ((σ 16 0 2 ≤ a0 → Runs 0 mX7_standAt 29 [zR 16 0, zI a0, zI 0, zI (-9)] [] σ Q) ∧ (¬ σ 16 0 2 ≤ a0 → Runs 0 mX7_standAt 83 [zR 16 0, zI a0, zI 0, zI (σ 16 0 2)] [] σ Q))))) : Runs 0 mX7_standAt 0 [zR 16 0, zI a0, zU, zU] [] σ Q := by
  refine r_blk [qO (.iconst 0), qO (.istore_n 2), qO (.bipush (-9)), qO (.istore_n 3), qO (.aload_n 0), qF (.getfield 21) 7 1, qO (.iconst 4)] (pc' := 10) (L' := [zR 16 0, zI a0, zI 0, zI (-9)]) (S' := [zI 4, zI (σ 16 0 1)]) (σ' := σ) (Ps := []) (by decide +kernel) rfl trivial ?_
  refine r_icmp_eq (off := 19) (tgt := 29) (by decide +kernel) (by decide) (fun c => ?_) (fun c => ?_)
  · replace h := h.1 c
    exact Runs.fg (fgE (fgE (fgE (fgE fg0)))) h
  · replace h := h.2 c
    refine r_blk [qO (.iload_n 1), qO (.aload_n 0), qF (.getfield 25) 7 2] (pc' := 18) (L' := [zR 16 0, zI a0, zI 0, zI (-9)]) (S' := [zI (σ 16 0 2), zI a0]) (σ' := σ) (Ps := []) (by decide +kernel) rfl trivial ?_
    refine r_icmp_ge (off := 11) (tgt := 29) (by decide +kernel) (by decide) (fun c => ?_) (fun c => ?_)
    · replace h := h.1 c
      exact Runs.fg (fgE (fgE (fgE (fgE fg0)))) h
    · replace h := h.2 c
      refine r_blk [qO (.aload_n 0), qF (.getfield 25) 7 2, qO (.istore_n 3), qO (.goto 57)] (pc' := 83) (L' := [zR 16 0, zI a0, zI 0, zI (σ 16 0 2)]) (S' := []) (σ' := σ) (Ps := []) (by decide +kernel) rfl trivial ?_
      exact Runs.fg (fgE (fgE (fgE (fgE fg0)))) h
theorem gX7_standAt_29 (l1 : Int) (l2 : Int) (l3 : Int) (σ : Hp) {Q : Option Int → Hp → Prop} (h : ((¬ σ 16 0 1 = 2 → Runs 0 mX7_standAt 73 [zR 16 0, zI l1, zI l2, zI l3] [] σ Q) ∧ (σ 16 0 1 = 2 → ((σ 16 0 3 ≤ 0 → Runs 0 mX7_standAt 73 [zR 16 0, zI l1, zI l2, zI l3] [] σ Q) ∧ (¬ σ 16 0 3 ≤ 0 → (-2147483648 ≤ l1 - (σ 16 0 2) ∧ l1 - (σ 16 0 2) ≤ 2147483647) ∧ (σ 16 0 3 ≠ 0) ∧ (-2147483648 ≤ 1 + (zdiv (l1 - (σ 16 0 2)) (σ 16 0 3)) ∧ 1 + (zdiv (l1 - (σ 16 0 2)) (σ 16 0 3)) ≤ 2147483647) ∧ (-2147483648 ≤ (1 + (zdiv (l1 - (σ 16 0 2)) (σ 16 0 3))) * (σ 16 0 3) ∧ (1 + (zdiv (l1 - (σ 16 0 2)) (σ 16 0 3))) * (σ 16 0 3) ≤ 2147483647) ∧ (-2147483648 ≤ (σ 16 0 2) + ((1 + (zdiv (l1 - (σ 16 0 2)) (σ 16 0 3))) * (σ 16 0 3)) ∧ (σ 16 0 2) + ((1 + (zdiv (l1 - (σ 16 0 2)) (σ 16 0 3))) * (σ 16 0 3)) ≤ 2147483647) ∧ Runs 0 mX7_standAt 83 [zR 16 0, zI l1, zI (1 + (zdiv (l1 - (σ 16 0 2)) (σ 16 0 3))), zI ((σ 16 0 2) + ((1 + (zdiv (l1 - (σ 16 0 2)) (σ 16 0 3))) * (σ 16 0 3)))] [] σ Q))))) : Runs 0 mX7_standAt 29 [zR 16 0, zI l1, zI l2, zI l3] [] σ Q := by
  refine r_blk [qO (.aload_n 0), qF (.getfield 21) 7 1, qO (.iconst 2)] (pc' := 34) (L' := [zR 16 0, zI l1, zI l2, zI l3]) (S' := [zI 2, zI (σ 16 0 1)]) (σ' := σ) (Ps := []) (by decide +kernel) rfl trivial ?_
  refine r_icmp_ne (off := 39) (tgt := 73) (by decide +kernel) (by decide) (fun c => ?_) (fun c => ?_)
  · replace h := h.1 c
    exact Runs.fg (fgE (fgE (fgE (fgE fg0)))) h
  · replace h := h.2 c
    refine r_blk [qO (.aload_n 0), qF (.getfield 28) 7 3] (pc' := 41) (L' := [zR 16 0, zI l1, zI l2, zI l3]) (S' := [zI (σ 16 0 3)]) (σ' := σ) (Ps := []) (by decide +kernel) rfl trivial ?_
    refine r_if_le (off := 32) (tgt := 73) (by decide +kernel) (by decide) (fun c => ?_) (fun c => ?_)
    · replace h := h.1 c
      exact Runs.fg (fgE (fgE (fgE (fgE fg0)))) h
    · replace h := h.2 c
      refine r_blk [qO (.iconst 1), qO (.iload_n 1), qO (.aload_n 0), qF (.getfield 25) 7 2, qO .isub, qO (.aload_n 0), qF (.getfield 28) 7 3, qO .idiv, qO .iadd, qO (.istore_n 2), qO (.aload_n 0), qF (.getfield 25) 7 2, qO (.iload_n 2), qO (.aload_n 0), qF (.getfield 28) 7 3, qO .imul, qO .iadd, qO (.istore_n 3), qO (.goto 13)] (pc' := 83) (L' := [zR 16 0, zI l1, zI (1 + (zdiv (l1 - (σ 16 0 2)) (σ 16 0 3))), zI ((σ 16 0 2) + ((1 + (zdiv (l1 - (σ 16 0 2)) (σ 16 0 3))) * (σ 16 0 3)))]) (S' := []) (σ' := σ) (Ps := [-2147483648 ≤ l1 - (σ 16 0 2) ∧ l1 - (σ 16 0 2) ≤ 2147483647, σ 16 0 3 ≠ 0, -2147483648 ≤ 1 + (zdiv (l1 - (σ 16 0 2)) (σ 16 0 3)) ∧ 1 + (zdiv (l1 - (σ 16 0 2)) (σ 16 0 3)) ≤ 2147483647, -2147483648 ≤ (1 + (zdiv (l1 - (σ 16 0 2)) (σ 16 0 3))) * (σ 16 0 3) ∧ (1 + (zdiv (l1 - (σ 16 0 2)) (σ 16 0 3))) * (σ 16 0 3) ≤ 2147483647, -2147483648 ≤ (σ 16 0 2) + ((1 + (zdiv (l1 - (σ 16 0 2)) (σ 16 0 3))) * (σ 16 0 3)) ∧ (σ 16 0 2) + ((1 + (zdiv (l1 - (σ 16 0 2)) (σ 16 0 3))) * (σ 16 0 3)) ≤ 2147483647]) (by decide +kernel) rfl ⟨h.1, h.2.1, h.2.2.1, h.2.2.2.1, h.2.2.2.2.1, trivial⟩ ?_
      replace h := h.2.2.2.2.2
      exact Runs.fg (fgE (fgE (fgE (fgE fg0)))) h
theorem gX7_standAt_73 (l1 : Int) (l2 : Int) (l3 : Int) (σ : Hp) {Q : Option Int → Hp → Prop} (h : ((σ 16 0 1 = 4 → Runs 0 mX7_standAt 83 [zR 16 0, zI l1, zI l2, zI l3] [] σ Q) ∧ (¬ σ 16 0 1 = 4 → Runs 0 mX7_standAt 83 [zR 16 0, zI l1, zI 1, zI l3] [] σ Q))) : Runs 0 mX7_standAt 73 [zR 16 0, zI l1, zI l2, zI l3] [] σ Q := by
  refine r_blk [qO (.aload_n 0), qF (.getfield 21) 7 1, qO (.iconst 4)] (pc' := 78) (L' := [zR 16 0, zI l1, zI l2, zI l3]) (S' := [zI 4, zI (σ 16 0 1)]) (σ' := σ) (Ps := []) (by decide +kernel) rfl trivial ?_
  refine r_icmp_eq (off := 5) (tgt := 83) (by decide +kernel) (by decide) (fun c => ?_) (fun c => ?_)
  · replace h := h.1 c
    exact Runs.fg (fgE (fgE (fgE (fgE fg0)))) h
  · replace h := h.2 c
    refine r_blk [qO (.iconst 1), qO (.istore_n 2)] (pc' := 83) (L' := [zR 16 0, zI l1, zI 1, zI l3]) (S' := []) (σ' := σ) (Ps := []) (by decide +kernel) rfl trivial ?_
    exact Runs.fg (fgE (fgE (fgE (fgE fg0)))) h
theorem gX7_standAt_83 (l1 : Int) (l2 : Int) (l3 : Int) (σ : Hp) {Q : Option Int → Hp → Prop} (h : ((l3 ≤ 2879 → ((¬ zand l2 1 = 1 → Q none (zup (zup (zup σ 16 0 7 l1) 16 0 8 l3) 16 0 9 (σ 16 0 4))) ∧ (zand l2 1 = 1 → Q none (zup (zup (zup σ 16 0 7 l1) 16 0 8 l3) 16 0 9 (zxor (σ 16 0 4) (-1)))))) ∧ (¬ l3 ≤ 2879 → ((¬ zand l2 1 = 1 → Q none (zup (zup (zup σ 16 0 7 l1) 16 0 8 (-9)) 16 0 9 (σ 16 0 4))) ∧ (zand l2 1 = 1 → ∀ σ1 : Hp, σ1 = (zup (zup (zup σ 16 0 7 l1) 16 0 8 (-9)) 16 0 9 (zxor (σ 16 0 4) (-1))) → Q none σ1))))) : Runs 0 mX7_standAt 83 [zR 16 0, zI l1, zI l2, zI l3] [] σ Q := by
  refine r_blk [qO (.aload_n 0), qO (.iload_n 1), qF (.putfield 54) 7 7, qO (.aload_n 0), qO (.iload_n 3), qO (.sipush 2879)] (pc' := 93) (L' := [zR 16 0, zI l1, zI l2, zI l3]) (S' := [zI 2879, zI l3, zR 16 0]) (σ' := (zup σ 16 0 7 l1)) (Ps := []) (by decide +kernel) rfl trivial ?_
  refine r_icmp_le (off := 8) (tgt := 101) (by decide +kernel) (by decide) (fun c => ?_) (fun c => ?_)
  · replace h := h.1 c
    refine r_blk [qO (.iload_n 3), qF (.putfield 57) 7 8, qO (.aload_n 0), qO (.iload_n 2), qO (.iconst 1), qO .iand, qO (.iconst 1)] (pc' := 110) (L' := [zR 16 0, zI l1, zI l2, zI l3]) (S' := [zI 1, zI (zand l2 1), zR 16 0]) (σ' := (zup (zup σ 16 0 7 l1) 16 0 8 l3)) (Ps := []) (by decide +kernel) rfl trivial ?_
    refine r_icmp_ne (off := 12) (tgt := 122) (by decide +kernel) (by decide) (fun c => ?_) (fun c => ?_)
    · replace h := h.1 c
      refine r_blk [qO (.aload_n 0), qF (.getfield 45) 7 4, qF (.putfield 60) 7 9] (pc' := 129) (L' := [zR 16 0, zI l1, zI l2, zI l3]) (S' := []) (σ' := (zup (zup (zup σ 16 0 7 l1) 16 0 8 l3) 16 0 9 (σ 16 0 4))) (Ps := []) (by decide +kernel) rfl trivial ?_
      exact r_retv (by decide +kernel) rfl h
    · replace h := h.2 c
      refine r_blk [qO (.aload_n 0), qF (.getfield 45) 7 4, qO (.iconst (-1)), qO .ixor, qO (.goto 7), qF (.putfield 60) 7 9] (pc' := 129) (L' := [zR 16 0, zI l1, zI l2, zI l3]) (S' := []) (σ' := (zup (zup (zup σ 16 0 7 l1) 16 0 8 l3) 16 0 9 (zxor (σ 16 0 4) (-1)))) (Ps := []) (by decide +kernel) rfl trivial ?_
      exact r_retv (by decide +kernel) rfl h
  · replace h := h.2 c
    refine r_blk [qO (.bipush (-9)), qO (.goto 4), qF (.putfield 57) 7 8, qO (.aload_n 0), qO (.iload_n 2), qO (.iconst 1), qO .iand, qO (.iconst 1)] (pc' := 110) (L' := [zR 16 0, zI l1, zI l2, zI l3]) (S' := [zI 1, zI (zand l2 1), zR 16 0]) (σ' := (zup (zup σ 16 0 7 l1) 16 0 8 (-9))) (Ps := []) (by decide +kernel) rfl trivial ?_
    refine r_icmp_ne (off := 12) (tgt := 122) (by decide +kernel) (by decide) (fun c => ?_) (fun c => ?_)
    · replace h := h.1 c
      refine r_blk [qO (.aload_n 0), qF (.getfield 45) 7 4, qF (.putfield 60) 7 9] (pc' := 129) (L' := [zR 16 0, zI l1, zI l2, zI l3]) (S' := []) (σ' := (zup (zup (zup σ 16 0 7 l1) 16 0 8 (-9)) 16 0 9 (σ 16 0 4))) (Ps := []) (by decide +kernel) rfl trivial ?_
      exact r_retv (by decide +kernel) rfl h
    · replace h := h.2 c
      refine r_blk [qO (.aload_n 0), qF (.getfield 45) 7 4, qO (.iconst (-1)), qO .ixor, qO (.goto 7), qF (.putfield 60) 7 9] (pc' := 129) (L' := [zR 16 0, zI l1, zI l2, zI l3]) (S' := []) (σ' := (zup (zup (zup σ 16 0 7 l1) 16 0 8 (-9)) 16 0 9 (zxor (σ 16 0 4) (-1)))) (Ps := []) (by decide +kernel) rfl trivial ?_
      generalize hσ1 : (zup (zup (zup σ 16 0 7 l1) 16 0 8 (-9)) 16 0 9 (zxor (σ 16 0 4) (-1))) = σ1
      replace h := h σ1 hσ1.symm
      exact r_retv (by decide +kernel) rfl h
theorem gX7_pointAs_0 (a0 : Int) (σ : Hp) {Q : Option Int → Hp → Prop} (h : ((¬ σ 16 0 1 = 3 → Q none (zup σ 16 0 4 a0)) ∧ (σ 16 0 1 = 3 → ((¬ zand (σ 11 0 3) 1 = 1 → Q none (zup σ 16 0 4 a0)) ∧ (zand (σ 11 0 3) 1 = 1 → Q none (zup σ 16 0 4 (zxor a0 (-1)))))))) : Runs 0 mX7_pointAs 0 [zR 16 0, zI a0, zU] [] σ Q := by
  refine r_blk [qO (.aload_n 0), qF (.getfield 21) 7 1, qO (.iconst 3)] (pc' := 5) (L' := [zR 16 0, zI a0, zU]) (S' := [zI 3, zI (σ 16 0 1)]) (σ' := σ) (Ps := []) (by decide +kernel) rfl trivial ?_
  refine r_icmp_ne (off := 22) (tgt := 27) (by decide +kernel) (by decide) (fun c => ?_) (fun c => ?_)
  · replace h := h.1 c
    refine r_blk [qO (.iconst 0), qO (.istore_n 2), qO (.aload_n 0), qO (.iload_n 2)] (pc' := 31) (L' := [zR 16 0, zI a0, zI 0]) (S' := [zI 0, zR 16 0]) (σ' := σ) (Ps := []) (by decide +kernel) rfl trivial ?_
    refine r_if_eq (off := 9) (tgt := 40) (by decide +kernel) (by decide) (fun c => ?_) (fun c => ?_)
    · refine r_blk [qO (.iload_n 1), qF (.putfield 45) 7 4] (pc' := 44) (L' := [zR 16 0, zI a0, zI 0]) (S' := []) (σ' := (zup σ 16 0 4 a0)) (Ps := []) (by decide +kernel) rfl trivial ?_
      exact r_retv (by decide +kernel) rfl h
    · exact absurd c (by decide)
  · replace h := h.2 c
    refine r_blk [qO (.aload_n 0), qF (.getfield 9) 7 0, qF (.getfield 15) 6 16, qO (.iconst 3), qO .iaload, qO (.iconst 1), qO .iand, qO (.iconst 1)] (pc' := 20) (L' := [zR 16 0, zI a0, zU]) (S' := [zI 1, zI (zand (σ 11 0 3) 1)]) (σ' := σ) (Ps := [0 ≤ 3 ∧ 3 < 4]) (by decide +kernel) rfl ⟨(by decide), trivial⟩ ?_
    refine r_icmp_ne (off := 7) (tgt := 27) (by decide +kernel) (by decide) (fun c => ?_) (fun c => ?_)
    · replace h := h.1 c
      refine r_blk [qO (.iconst 0), qO (.istore_n 2), qO (.aload_n 0), qO (.iload_n 2)] (pc' := 31) (L' := [zR 16 0, zI a0, zI 0]) (S' := [zI 0, zR 16 0]) (σ' := σ) (Ps := []) (by decide +kernel) rfl trivial ?_
      refine r_if_eq (off := 9) (tgt := 40) (by decide +kernel) (by decide) (fun c => ?_) (fun c => ?_)
      · refine r_blk [qO (.iload_n 1), qF (.putfield 45) 7 4] (pc' := 44) (L' := [zR 16 0, zI a0, zI 0]) (S' := []) (σ' := (zup σ 16 0 4 a0)) (Ps := []) (by decide +kernel) rfl trivial ?_
        exact r_retv (by decide +kernel) rfl h
      · exact absurd c (by decide)
    · replace h := h.2 c
      refine r_blk [qO (.iconst 1), qO (.goto 4), qO (.istore_n 2), qO (.aload_n 0), qO (.iload_n 2)] (pc' := 31) (L' := [zR 16 0, zI a0, zI 1]) (S' := [zI 1, zR 16 0]) (σ' := σ) (Ps := []) (by decide +kernel) rfl trivial ?_
      refine r_if_eq (off := 9) (tgt := 40) (by decide +kernel) (by decide) (fun c => ?_) (fun c => ?_)
      · exact absurd c (by decide)
      · refine r_blk [qO (.iload_n 1), qO (.iconst (-1)), qO .ixor, qO (.goto 4), qF (.putfield 45) 7 4] (pc' := 44) (L' := [zR 16 0, zI a0, zI 1]) (S' := []) (σ' := (zup σ 16 0 4 (zxor a0 (-1)))) (Ps := []) (by decide +kernel) rfl trivial ?_
        exact r_retv (by decide +kernel) rfl h
theorem gX7_openBothWays_0 (a0 : Int) (σ : Hp) {Q : Option Int → Hp → Prop} (h : ((¬ σ 16 0 1 = 1 → Q none (zup σ 16 0 6 a0)) ∧ (σ 16 0 1 = 1 → Q none (zup σ 16 0 6 (zor (σ 1 0 4) a0))))) : Runs 0 mX7_openBothWays 0 [zR 16 0, zI a0] [] σ Q := by
  refine r_blk [qO (.aload_n 0), qO (.aload_n 0), qF (.getfield 21) 7 1, qO (.iconst 1)] (pc' := 6) (L' := [zR 16 0, zI a0]) (S' := [zI 1, zI (σ 16 0 1), zR 16 0]) (σ' := σ) (Ps := []) (by decide +kernel) rfl trivial ?_
  refine r_icmp_ne (off := 15) (tgt := 21) (by decide +kernel) (by decide) (fun c => ?_) (fun c => ?_)
  · replace h := h.1 c
    refine r_blk [qO (.iload_n 1), qF (.putfield 51) 7 6] (pc' := 25) (L' := [zR 16 0, zI a0]) (S' := []) (σ' := (zup σ 16 0 6 a0)) (Ps := []) (by decide +kernel) rfl trivial ?_
    exact r_retv (by decide +kernel) rfl h
  · replace h := h.2 c
    refine r_blk [qO (.aload_n 0), qF (.getfield 9) 7 0, qF (.getfield 48) 6 4, qO (.iload_n 1), qO .ior, qO (.goto 4), qF (.putfield 51) 7 6] (pc' := 25) (L' := [zR 16 0, zI a0]) (S' := []) (σ' := (zup σ 16 0 6 (zor (σ 1 0 4) a0))) (Ps := []) (by decide +kernel) rfl trivial ?_
    exact r_retv (by decide +kernel) rfl h
theorem gX7_shutAlso_0 (a0 : Int) (σ : Hp) {Q : Option Int → Hp → Prop} (h : Q none (zup σ 16 0 5 (zor (σ 1 0 5) (zshl 1 a0)))) : Runs 0 mX7_shutAlso 0 [zR 16 0, zI a0] [] σ Q := by
  refine r_blk [qO (.aload_n 0), qO (.aload_n 0), qF (.getfield 9) 7 0, qF (.getfield 31) 6 5, qO (.iconst 1), qO (.iload_n 1), qO .ishl, qO .ior, qF (.putfield 34) 7 5] (pc' := 15) (L' := [zR 16 0, zI a0]) (S' := []) (σ' := (zup σ 16 0 5 (zor (σ 1 0 5) (zshl 1 a0)))) (Ps := []) (by decide +kernel) rfl trivial ?_
  exact r_retv (by decide +kernel) rfl h
