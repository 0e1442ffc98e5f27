theorem gX11_isCorner_0 (a0 : Int) (σ : Hp) {Q : Option Int → Hp → Prop} (h : ((0 ≤ a0 ∧ a0 < (σ 36 0 0) → Q (some 1) σ) ∧ (¬ (0 ≤ a0 ∧ a0 < (σ 36 0 0)) → Q (some 0) σ))) : Runs 1 mX11_isCorner 0 [zR 34 0, zI a0] [] σ Q := by
  refine r_blk [qO (.iload_n 1), qO (.aload_n 0), qF (.getfield 13) 11 1, qO (.iconst 0), qO .iaload] (pc' := 7) (L' := [zR 34 0, zI a0]) (S' := [zI (σ 36 0 0), zI a0]) (σ' := σ) (Ps := [0 ≤ 0 ∧ 0 < 123]) (by decide +kernel) rfl ⟨(by decide), trivial⟩ ?_
  refine r_callSI (As := [zI a0, zI (σ 36 0 0)]) (S := []) (Lc := [zI a0, zI (σ 36 0 0)]) (d' := 0) (n := 2) kX11_isIn vX11_isIn lkX11_62 (by decide +kernel) (by decide) rfl rfl (Nat.le_of_ble_eq_true rfl) rfl rfl (Nat.le_of_ble_eq_true rfl) (pX11_isIn  (fun c => ?_) (fun c => ?_))
  · replace h := h.1 c
    exact r_retz (by decide +kernel) rfl (by decide) h
  · replace h := h.2 c
    exact r_retz (by decide +kernel) rfl (by decide) h
theorem gX11_isStreet_0 (a0 : Int) (σ : Hp) {Q : Option Int → Hp → Prop} (h : ((0 ≤ a0 ∧ a0 < (σ 36 0 1) → Q (some 1) σ) ∧ (¬ (0 ≤ a0 ∧ a0 < (σ 36 0 1)) → Q (some 0) σ))) : Runs 1 mX11_isStreet 0 [zR 34 0, zI a0] [] σ Q := by
  refine r_blk [qO (.iload_n 1), qO (.aload_n 0), qF (.getfield 13) 11 1, qO (.iconst 1), qO .iaload] (pc' := 7) (L' := [zR 34 0, zI a0]) (S' := [zI (σ 36 0 1), zI a0]) (σ' := σ) (Ps := [0 ≤ 1 ∧ 1 < 123]) (by decide +kernel) rfl ⟨(by decide), trivial⟩ ?_
  refine r_callSI (As := [zI a0, zI (σ 36 0 1)]) (S := []) (Lc := [zI a0, zI (σ 36 0 1)]) (d' := 0) (n := 2) kX11_isIn vX11_isIn lkX11_62 (by decide +kernel) (by decide) rfl rfl (Nat.le_of_ble_eq_true rfl) rfl rfl (Nat.le_of_ble_eq_true rfl) (pX11_isIn  (fun c => ?_) (fun c => ?_))
  · replace h := h.1 c
    exact r_retz (by decide +kernel) rfl (by decide) h
  · replace h := h.2 c
    exact r_retz (by decide +kernel) rfl (by decide) h
theorem gX11_isErrand_0 (a0 : Int) (σ : Hp) {Q : Option Int → Hp → Prop} (h : ((0 ≤ a0 ∧ a0 < (σ 36 0 2) → Q (some 1) σ) ∧ (¬ (0 ≤ a0 ∧ a0 < (σ 36 0 2)) → Q (some 0) σ))) : Runs 1 mX11_isErrand 0 [zR 34 0, zI a0] [] σ Q := by
  refine r_blk [qO (.iload_n 1), qO (.aload_n 0), qF (.getfield 13) 11 1, qO (.iconst 2), qO .iaload] (pc' := 7) (L' := [zR 34 0, zI a0]) (S' := [zI (σ 36 0 2), zI a0]) (σ' := σ) (Ps := [0 ≤ 2 ∧ 2 < 123]) (by decide +kernel) rfl ⟨(by decide), trivial⟩ ?_
  refine r_callSI (As := [zI a0, zI (σ 36 0 2)]) (S := []) (Lc := [zI a0, zI (σ 36 0 2)]) (d' := 0) (n := 2) kX11_isIn vX11_isIn lkX11_62 (by decide +kernel) (by decide) rfl rfl (Nat.le_of_ble_eq_true rfl) rfl rfl (Nat.le_of_ble_eq_true rfl) (pX11_isIn  (fun c => ?_) (fun c => ?_))
  · replace h := h.1 c
    exact r_retz (by decide +kernel) rfl (by decide) h
  · replace h := h.2 c
    exact r_retz (by decide +kernel) rfl (by decide) h
theorem gX11_takes_0 (a0 : Int) (σ : Hp) {Q : Option Int → Hp → Prop} (h : (0 ≤ σ 34 0 8 ∧ σ 34 0 7 ≤ 64) ∧ ((zsign σ = a0 → (-2147483648 ≤ (σ 34 0 8) + 1 ∧ (σ 34 0 8) + 1 ≤ 2147483647) ∧ Q (some 1) (zup σ 34 0 8 ((σ 34 0 8) + 1))) ∧ (¬ zsign σ = a0 → Q (some 0) σ))) : Runs 1 mX11_takes 0 [zR 34 0, zI a0] [] σ Q := by
  refine r_blk [qO (.aload_n 0)] (pc' := 1) (L' := [zR 34 0, zI a0]) (S' := [zR 34 0]) (σ' := σ) (Ps := []) (by decide +kernel) rfl trivial ?_
  refine r_callVI (As := []) (S := []) (Lc := [zR 34 0]) (d' := 0) (n := 0) (g := 34) (x := 0) (ci := 11) kX11_sign vX11_sign lkX11_79 (by decide +kernel) (by decide) rfl rfl (by decide) rfl rfl (Nat.le_of_ble_eq_true rfl) rfl rfl (Nat.le_of_ble_eq_true rfl) (pX11_sign h.1 ?_)
  replace h := h.2
  refine r_blk [qO (.iload_n 1)] (pc' := 5) (L' := [zR 34 0, zI a0]) (S' := [zI a0, zI (zsign σ)]) (σ' := σ) (Ps := []) (by decide +kernel) rfl trivial ?_
  refine r_icmp_eq (off := 5) (tgt := 10) (by decide +kernel) (by decide) (fun c => ?_) (fun c => ?_)
  · replace h := h.1 c
    refine r_blk [qO (.aload_n 0), qO .dup, qF (.getfield 76) 11 8, qO (.iconst 1), qO .iadd, qF (.putfield 76) 11 8, qO (.iconst 1)] (pc' := 21) (L' := [zR 34 0, zI a0]) (S' := [zI 1]) (σ' := (zup σ 34 0 8 ((σ 34 0 8) + 1))) (Ps := [-2147483648 ≤ (σ 34 0 8) + 1 ∧ (σ 34 0 8) + 1 ≤ 2147483647]) (by decide +kernel) rfl ⟨h.1, trivial⟩ ?_
    replace h := h.2
    exact r_retz (by decide +kernel) rfl (by decide) h
  · replace h := h.2 c
    refine r_blk [qO (.iconst 0)] (pc' := 9) (L' := [zR 34 0, zI a0]) (S' := [zI 0]) (σ' := σ) (Ps := []) (by decide +kernel) rfl trivial ?_
    exact r_retz (by decide +kernel) rfl (by decide) h
theorem gX11_wayOf_0 (a0 : Int) (a1 : Int) (σ : Hp) {Q : Option Int → Hp → Prop} (h : ((¬ bitz (σ 36 0 4) a0 = 1 → ((bitz (σ 36 0 5) a0 = 1 → Q (some 2) σ) ∧ (¬ bitz (σ 36 0 5) a0 = 1 → ((¬ σ 36 0 8 = 1 → Runs 1 mX11_wayOf 55 [zR 34 0, zI a0, zI a1, zI (σ 36 0 8), zU, zU] [] σ Q) ∧ (σ 36 0 8 = 1 → (0 ≤ a0 ∧ a0 < 14) ∧ ((¬ sg (σ 36 0) a0 3 = 1 → Runs 1 mX11_wayOf 55 [zR 34 0, zI a0, zI a1, zI (σ 36 0 8), zU, zU] [] σ Q) ∧ (sg (σ 36 0) a0 3 = 1 → Q (some 2) σ))))))) ∧ (bitz (σ 36 0 4) a0 = 1 → Q (some 3) σ))) : Runs 1 mX11_wayOf 0 [zR 34 0, zI a0, zI a1, zU, zU, zU] [] σ Q := by
  refine r_blk [qO (.aload_n 0), qF (.getfield 13) 11 1, qO (.iconst 4), qO .iaload, qO (.iload_n 1), qO .ishr, qO (.iconst 1), qO .iand, qO (.iconst 1)] (pc' := 11) (L' := [zR 34 0, zI a0, zI a1, zU, zU, zU]) (S' := [zI 1, zI (bitz (σ 36 0 4) a0)]) (σ' := σ) (Ps := [0 ≤ 4 ∧ 4 < 123]) (by decide +kernel) rfl ⟨(by decide), trivial⟩ ?_
  refine r_icmp_ne (off := 5) (tgt := 16) (by decide +kernel) (by decide) (fun c => ?_) (fun c => ?_)
  · replace h := h.1 c
    refine r_blk [qO (.aload_n 0), qF (.getfield 13) 11 1, qO (.bipush 8), qO .iaload, qO (.istore_n 3), qO (.aload_n 0), qF (.getfield 13) 11 1, qO (.iconst 5), qO .iaload, qO (.iload_n 1), qO .ishr, qO (.iconst 1), qO .iand, qO (.iconst 1)] (pc' := 35) (L' := [zR 34 0, zI a0, zI a1, zI (σ 36 0 8), zU, zU]) (S' := [zI 1, zI (bitz (σ 36 0 5) a0)]) (σ' := σ) (Ps := [0 ≤ 8 ∧ 8 < 123, 0 ≤ 5 ∧ 5 < 123]) (by decide +kernel) rfl ⟨(by decide), (by decide), trivial⟩ ?_
    refine r_icmp_eq (off := 18) (tgt := 53) (by decide +kernel) (by decide) (fun c => ?_) (fun c => ?_)
    · replace h := h.1 c
      refine r_blk [qO (.iconst 2)] (pc' := 54) (L' := [zR 34 0, zI a0, zI a1, zI (σ 36 0 8), zU, zU]) (S' := [zI 2]) (σ' := σ) (Ps := []) (by decide +kernel) rfl trivial ?_
      exact r_ret (by decide +kernel) rfl (fun _ => h)
    · replace h := h.2 c
      refine r_blk [qO (.iload_n 3), qO (.iconst 1)] (pc' := 40) (L' := [zR 34 0, zI a0, zI a1, zI (σ 36 0 8), zU, zU]) (S' := [zI 1, zI (σ 36 0 8)]) (σ' := σ) (Ps := []) (by decide +kernel) rfl trivial ?_
      refine r_icmp_ne (off := 15) (tgt := 55) (by decide +kernel) (by decide) (fun c => ?_) (fun c => ?_)
      · replace h := h.1 c
        exact Runs.fg (fgE (fgE (fgE (fgE (fgU (fgU fg0)))))) h
      · replace h := h.2 c
        refine r_blk [qO (.aload_n 0), qO (.iload_n 1), qO (.iconst 3)] (pc' := 46) (L' := [zR 34 0, zI a0, zI a1, zI (σ 36 0 8), zU, zU]) (S' := [zI 3, zI a0, zR 34 0]) (σ' := σ) (Ps := []) (by decide +kernel) rfl trivial ?_
        refine r_callVI (As := [zI a0, zI 3]) (S := []) (Lc := [zR 34 0, zI a0, zI 3]) (d' := 0) (n := 2) (g := 34) (x := 0) (ci := 11) kX11_get vX11_get lkX11_106 (by decide +kernel) (by decide) rfl rfl (by decide) rfl rfl (Nat.le_of_ble_eq_true rfl) rfl rfl (Nat.le_of_ble_eq_true rfl) (pX11_get h.1 (by decide) ?_)
        replace h := h.2
        refine r_blk [qO (.iconst 1)] (pc' := 50) (L' := [zR 34 0, zI a0, zI a1, zI (σ 36 0 8), zU, zU]) (S' := [zI 1, zI (sg (σ 36 0) a0 3)]) (σ' := σ) (Ps := []) (by decide +kernel) rfl trivial ?_
        refine r_icmp_ne (off := 5) (tgt := 55) (by decide +kernel) (by decide) (fun c => ?_) (fun c => ?_)
        · replace h := h.1 c
          exact Runs.fg (fgE (fgE (fgE (fgE (fgU (fgU fg0)))))) h
        · replace h := h.2 c
          refine r_blk [qO (.iconst 2)] (pc' := 54) (L' := [zR 34 0, zI a0, zI a1, zI (σ 36 0 8), zU, zU]) (S' := [zI 2]) (σ' := σ) (Ps := []) (by decide +kernel) rfl trivial ?_
          exact r_ret (by decide +kernel) rfl (fun _ => h)
  · replace h := h.2 c
    refine r_blk [qO (.iconst 3)] (pc' := 15) (L' := [zR 34 0, zI a0, zI a1, zU, zU, zU]) (S' := [zI 3]) (σ' := σ) (Ps := []) (by decide +kernel) rfl trivial ?_
    exact r_ret (by decide +kernel) rfl (fun _ => h)
theorem gX11_wayOf_55 (l1 : Int) (l2 : Int) (l3 : Int) (σ : Hp) {Q : Option Int → Hp → Prop} (h : ((¬ l3 = 4 → ((¬ l3 = 3 → Runs 1 mX11_wayOf 108 [zR 34 0, zU, zI l2, zI l3, zI (bitz (σ 36 0 3) l1), zI (σ 36 0 7)] [] σ Q) ∧ (l3 = 3 → ((¬ zrem (σ 36 0 10) 2 = 1 → Runs 1 mX11_wayOf 108 [zR 34 0, zU, zI l2, zI l3, zI (bitz (σ 36 0 3) l1), zI (σ 36 0 7)] [] σ Q) ∧ (zrem (σ 36 0 10) 2 = 1 → (-2147483648 ≤ 1 - (bitz (σ 36 0 3) l1) ∧ 1 - (bitz (σ 36 0 3) l1) ≤ 2147483647) ∧ Runs 1 mX11_wayOf 108 [zR 34 0, zU, zI l2, zI l3, zI (1 - (bitz (σ 36 0 3) l1)), zI (σ 36 0 7)] [] σ Q))))) ∧ (l3 = 4 → Q (some (bitz (σ 36 0 3) l1)) σ))) : Runs 1 mX11_wayOf 55 [zR 34 0, zI l1, zI l2, zI l3, zU, zU] [] σ Q := by
  refine r_blk [qO (.aload_n 0), qF (.getfield 13) 11 1, qO (.iconst 3), qO .iaload, qO (.iload_n 1), qO .ishr, qO (.iconst 1), qO .iand, qO (.istore 4), qO (.aload_n 0), qF (.getfield 13) 11 1, qO (.bipush 7), qO .iaload, qO (.istore 5), qO (.iload_n 3), qO (.iconst 4)] (pc' := 78) (L' := [zR 34 0, zI l1, zI l2, zI l3, zI (bitz (σ 36 0 3) l1), zI (σ 36 0 7)]) (S' := [zI 4, zI l3]) (σ' := σ) (Ps := [0 ≤ 3 ∧ 3 < 123, 0 ≤ 7 ∧ 7 < 123]) (by decide +kernel) rfl ⟨(by decide), (by decide), trivial⟩ ?_
  refine r_icmp_ne (off := 6) (tgt := 84) (by decide +kernel) (by decide) (fun c => ?_) (fun c => ?_)
  · replace h := h.1 c
    refine r_blk [qO (.iload_n 3), qO (.iconst 3)] (pc' := 86) (L' := [zR 34 0, zI l1, zI l2, zI l3, zI (bitz (σ 36 0 3) l1), zI (σ 36 0 7)]) (S' := [zI 3, zI l3]) (σ' := σ) (Ps := []) (by decide +kernel) rfl trivial ?_
    refine r_icmp_ne (off := 22) (tgt := 108) (by decide +kernel) (by decide) (fun c => ?_) (fun c => ?_)
    · replace h := h.1 c
      exact Runs.fg (fgE (fgU (fgE (fgE (fgE (fgE fg0)))))) h
    · replace h := h.2 c
      refine r_blk [qO (.aload_n 0), qF (.getfield 13) 11 1, qO (.bipush 10), qO .iaload, qO (.iconst 2), qO .irem, qO (.iconst 1)] (pc' := 99) (L' := [zR 34 0, zI l1, zI l2, zI l3, zI (bitz (σ 36 0 3) l1), zI (σ 36 0 7)]) (S' := [zI 1, zI (zrem (σ 36 0 10) 2)]) (σ' := σ) (Ps := [0 ≤ 10 ∧ 10 < 123, 2 ≠ 0]) (by decide +kernel) rfl ⟨(by decide), (by decide), trivial⟩ ?_
      refine r_icmp_ne (off := 9) (tgt := 108) (by decide +kernel) (by decide) (fun c => ?_) (fun c => ?_)
      · replace h := h.1 c
        exact Runs.fg (fgE (fgU (fgE (fgE (fgE (fgE fg0)))))) h
      · replace h := h.2 c
        refine r_blk [qO (.iconst 1), qO (.iload 4), qO .isub, qO (.istore 4)] (pc' := 108) (L' := [zR 34 0, zI l1, zI l2, zI l3, zI (1 - (bitz (σ 36 0 3) l1)), zI (σ 36 0 7)]) (S' := []) (σ' := σ) (Ps := [-2147483648 ≤ 1 - (bitz (σ 36 0 3) l1) ∧ 1 - (bitz (σ 36 0 3) l1) ≤ 2147483647]) (by decide +kernel) rfl ⟨h.1, trivial⟩ ?_
        replace h := h.2
        exact Runs.fg (fgE (fgU (fgE (fgE (fgE (fgE fg0)))))) h
  · replace h := h.2 c
    refine r_blk [qO (.iload 4)] (pc' := 83) (L' := [zR 34 0, zI l1, zI l2, zI l3, zI (bitz (σ 36 0 3) l1), zI (σ 36 0 7)]) (S' := [zI (bitz (σ 36 0 3) l1)]) (σ' := σ) (Ps := []) (by decide +kernel) rfl trivial ?_
    exact r_ret (by decide +kernel) rfl (fun _ => h)
theorem gX11_wayOf_108 (l2 : Int) (l3 : Int) (l4 : Int) (l5 : Int) (σ : Hp) {Q : Option Int → Hp → Prop} (h : ((l5 ≤ l2 → ((¬ l3 = 2 → (-2147483648 ≤ 1 - l4 ∧ 1 - l4 ≤ 2147483647) ∧ Q (some (1 - l4)) σ) ∧ (l3 = 2 → (-2147483648 ≤ l4 + 1 ∧ l4 + 1 ≤ 2147483647) ∧ (-2147483648 ≤ l2 - l5 ∧ l2 - l5 ≤ 2147483647) ∧ (σ 36 0 9 ≠ 0) ∧ (-2147483648 ≤ (l4 + 1) + (zdiv (l2 - l5) (σ 36 0 9)) ∧ (l4 + 1) + (zdiv (l2 - l5) (σ 36 0 9)) ≤ 2147483647) ∧ Q (some (zrem ((l4 + 1) + (zdiv (l2 - l5) (σ 36 0 9))) 2)) σ))) ∧ (¬ l5 ≤ l2 → Q (some l4) σ))) : Runs 1 mX11_wayOf 108 [zR 34 0, zU, zI l2, zI l3, zI l4, zI l5] [] σ Q := by
  refine r_blk [qO (.iload_n 2), qO (.iload 5)] (pc' := 111) (L' := [zR 34 0, zU, zI l2, zI l3, zI l4, zI l5]) (S' := [zI l5, zI l2]) (σ' := σ) (Ps := []) (by decide +kernel) rfl trivial ?_
  refine r_icmp_ge (off := 6) (tgt := 117) (by decide +kernel) (by decide) (fun c => ?_) (fun c => ?_)
  · replace h := h.1 c
    refine r_blk [qO (.iload_n 3), qO (.iconst 2)] (pc' := 119) (L' := [zR 34 0, zU, zI l2, zI l3, zI l4, zI l5]) (S' := [zI 2, zI l3]) (σ' := σ) (Ps := []) (by decide +kernel) rfl trivial ?_
    refine r_icmp_ne (off := 23) (tgt := 142) (by decide +kernel) (by decide) (fun c => ?_) (fun c => ?_)
    · replace h := h.1 c
      refine r_blk [qO (.iconst 1), qO (.iload 4), qO .isub] (pc' := 146) (L' := [zR 34 0, zU, zI l2, zI l3, zI l4, zI l5]) (S' := [zI (1 - l4)]) (σ' := σ) (Ps := [-2147483648 ≤ 1 - l4 ∧ 1 - l4 ≤ 2147483647]) (by decide +kernel) rfl ⟨h.1, trivial⟩ ?_
      replace h := h.2
      exact r_ret (by decide +kernel) rfl (fun _ => h)
    · replace h := h.2 c
      refine r_blk [qO (.iload 4), qO (.iconst 1), qO .iadd, qO (.iload_n 2), qO (.iload 5), qO .isub, qO (.aload_n 0), qF (.getfield 13) 11 1, qO (.bipush 9), qO .iaload, qO .idiv, qO .iadd, qO (.iconst 2), qO .irem] (pc' := 141) (L' := [zR 34 0, zU, zI l2, zI l3, zI l4, zI l5]) (S' := [zI (zrem ((l4 + 1) + (zdiv (l2 - l5) (σ 36 0 9))) 2)]) (σ' := σ) (Ps := [-2147483648 ≤ l4 + 1 ∧ l4 + 1 ≤ 2147483647, -2147483648 ≤ l2 - l5 ∧ l2 - l5 ≤ 2147483647, 0 ≤ 9 ∧ 9 < 123, σ 36 0 9 ≠ 0, -2147483648 ≤ (l4 + 1) + (zdiv (l2 - l5) (σ 36 0 9)) ∧ (l4 + 1) + (zdiv (l2 - l5) (σ 36 0 9)) ≤ 2147483647, 2 ≠ 0]) (by decide +kernel) rfl ⟨h.1, h.2.1, (by decide), h.2.2.1, h.2.2.2.1, (by decide), trivial⟩ ?_
      replace h := h.2.2.2.2
      exact r_ret (by decide +kernel) rfl (fun _ => h)
  · replace h := h.2 c
    refine r_blk [qO (.iload 4)] (pc' := 116) (L' := [zR 34 0, zU, zI l2, zI l3, zI l4, zI l5]) (S' := [zI l4]) (σ' := σ) (Ps := []) (by decide +kernel) rfl trivial ?_
    exact r_ret (by decide +kernel) rfl (fun _ => h)
theorem gX11_wrongFew_0 (σ : Hp) {Q : Option Int → Hp → Prop} (h : ((σ 36 0 1 ≤ 10 → ((¬ σ 36 0 1 = 0 → Q (some 0) σ) ∧ (σ 36 0 1 = 0 → Q (some (-3)) σ))) ∧ (¬ σ 36 0 1 ≤ 10 → Q (some (-6)) σ))) : Runs 0 mX11_wrongFew 0 [zR 34 0] [] σ Q := by
  refine r_blk [qO (.aload_n 0), qF (.getfield 13) 11 1, qO (.iconst 1), qO .iaload, qO (.bipush 10)] (pc' := 8) (L' := [zR 34 0]) (S' := [zI 10, zI (σ 36 0 1)]) (σ' := σ) (Ps := [0 ≤ 1 ∧ 1 < 123]) (by decide +kernel) rfl ⟨(by decide), trivial⟩ ?_
  refine r_icmp_le (off := 8) (tgt := 16) (by decide +kernel) (by decide) (fun c => ?_) (fun c => ?_)
  · replace h := h.1 c
    refine r_blk [qO (.aload_n 0), qF (.getfield 13) 11 1, qO (.iconst 1), qO .iaload] (pc' := 22) (L' := [zR 34 0]) (S' := [zI (σ 36 0 1)]) (σ' := σ) (Ps := [0 ≤ 1 ∧ 1 < 123]) (by decide +kernel) rfl ⟨(by decide), trivial⟩ ?_
    refine r_if_ne (off := 8) (tgt := 30) (by decide +kernel) (by decide) (fun c => ?_) (fun c => ?_)
    · replace h := h.1 c
      refine r_blk [qO (.iconst 0)] (pc' := 31) (L' := [zR 34 0]) (S' := [zI 0]) (σ' := σ) (Ps := []) (by decide +kernel) rfl trivial ?_
      exact r_ret (by decide +kernel) rfl (fun _ => h)
    · replace h := h.2 c
      refine r_blk [qO (.bipush (-3)), qO (.goto 4)] (pc' := 31) (L' := [zR 34 0]) (S' := [zI (-3)]) (σ' := σ) (Ps := []) (by decide +kernel) rfl trivial ?_
      exact r_ret (by decide +kernel) rfl (fun _ => h)
  · replace h := h.2 c
    refine r_blk [qO (.bipush (-6)), qO (.goto 18)] (pc' := 31) (L' := [zR 34 0]) (S' := [zI (-6)]) (σ' := σ) (Ps := []) (by decide +kernel) rfl trivial ?_
    exact r_ret (by decide +kernel) rfl (fun _ => h)
theorem gX7_wayOf_0 (a0 : Int) (σ : Hp) {Q : Option Int → Hp → Prop} (h : ((¬ bitz (σ 16 0 5) a0 = 1 → ((¬ bitz (σ 16 0 6) a0 = 1 → Q (some (bitz (σ 16 0 9) a0)) σ) ∧ (bitz (σ 16 0 6) a0 = 1 → Q (some 2) σ))) ∧ (bitz (σ 16 0 5) a0 = 1 → Q (some 3) σ))) : Runs 1 mX7_wayOf 0 [zR 16 0, zI a0] [] σ Q := by
  refine r_blk [qO (.aload_n 0), qF (.getfield 34) 7 5, qO (.iload_n 1)] (pc' := 5) (L' := [zR 16 0, zI a0]) (S' := [zI a0, zI (σ 16 0 5)]) (σ' := σ) (Ps := []) (by decide +kernel) rfl trivial ?_
  refine r_callNI (As := [zI (σ 16 0 5), zI a0]) (S := []) (Lc := [zI (σ 16 0 5), zI a0]) (d' := 0) (n := 2) kX10_bitOf vX10_bitOf lkX7_63 (by decide +kernel) (by decide) rfl rfl (Nat.le_of_ble_eq_true rfl) rfl rfl (Nat.le_of_ble_eq_true rfl) (pX10_bitOf  ?_)
  refine r_blk [qO (.iconst 1)] (pc' := 9) (L' := [zR 16 0, zI a0]) (S' := [zI 1, zI (bitz (σ 16 0 5) a0)]) (σ' := σ) (Ps := []) (by decide +kernel) rfl trivial ?_
  refine r_icmp_ne (off := 5) (tgt := 14) (by decide +kernel) (by decide) (fun c => ?_) (fun c => ?_)
  · replace h := h.1 c
    refine r_blk [qO (.aload_n 0), qF (.getfield 51) 7 6, qO (.iload_n 1)] (pc' := 19) (L' := [zR 16 0, zI a0]) (S' := [zI a0, zI (σ 16 0 6)]) (σ' := σ) (Ps := []) (by decide +kernel) rfl trivial ?_
    refine r_callNI (As := [zI (σ 16 0 6), zI a0]) (S := []) (Lc := [zI (σ 16 0 6), zI a0]) (d' := 0) (n := 2) kX10_bitOf vX10_bitOf lkX7_63 (by decide +kernel) (by decide) rfl rfl (Nat.le_of_ble_eq_true rfl) rfl rfl (Nat.le_of_ble_eq_true rfl) (pX10_bitOf  ?_)
    refine r_blk [qO (.iconst 1)] (pc' := 23) (L' := [zR 16 0, zI a0]) (S' := [zI 1, zI (bitz (σ 16 0 6) a0)]) (σ' := σ) (Ps := []) (by decide +kernel) rfl trivial ?_
    refine r_icmp_ne (off := 7) (tgt := 30) (by decide +kernel) (by decide) (fun c => ?_) (fun c => ?_)
    · replace h := h.1 c
      refine r_blk [qO (.aload_n 0), qF (.getfield 60) 7 9, qO (.iload_n 1)] (pc' := 35) (L' := [zR 16 0, zI a0]) (S' := [zI a0, zI (σ 16 0 9)]) (σ' := σ) (Ps := []) (by decide +kernel) rfl trivial ?_
      refine r_callNI (As := [zI (σ 16 0 9), zI a0]) (S := []) (Lc := [zI (σ 16 0 9), zI a0]) (d' := 0) (n := 2) kX10_bitOf vX10_bitOf lkX7_63 (by decide +kernel) (by decide) rfl rfl (Nat.le_of_ble_eq_true rfl) rfl rfl (Nat.le_of_ble_eq_true rfl) (pX10_bitOf  ?_)
      exact r_ret (by decide +kernel) rfl (fun _ => h)
    · replace h := h.2 c
      refine r_blk [qO (.iconst 2), qO (.goto 11)] (pc' := 38) (L' := [zR 16 0, zI a0]) (S' := [zI 2]) (σ' := σ) (Ps := []) (by decide +kernel) rfl trivial ?_
      exact r_ret (by decide +kernel) rfl (fun _ => h)
  · replace h := h.2 c
    refine r_blk [qO (.iconst 3)] (pc' := 13) (L' := [zR 16 0, zI a0]) (S' := [zI 3]) (σ' := σ) (Ps := []) (by decide +kernel) rfl trivial ?_
    exact r_ret (by decide +kernel) rfl (fun _ => h)
theorem gX10_refusalOfWay_0 (a0 : Int) (a1 : Int) (a2 : Int) (σ : Hp) {Q : Option Int → Hp → Prop} (h : ((0 ≤ a0 ∧ a0 < σ 1 0 0 → ((0 ≤ a1 ∧ a1 < σ 1 0 0 → Q (some (zwithin a2 0 2879)) σ) ∧ (¬ (0 ≤ a1 ∧ a1 < σ 1 0 0) → Q (some (-1)) σ))) ∧ (¬ (0 ≤ a0 ∧ a0 < σ 1 0 0) → Q (some (-1)) σ))) : Runs 1 mX10_refusalOfWay 0 [zR 0 0, zI a0, zI a1, zI a2] [] σ Q := by
  refine r_blk [qO (.aload_n 0), qF (.getfield 10) 10 0, qO (.iload_n 1)] (pc' := 5) (L' := [zR 0 0, zI a0, zI a1, zI a2]) (S' := [zI a0, zR 1 0]) (σ' := σ) (Ps := []) (by decide +kernel) rfl trivial ?_
  refine r_callVI (As := [zI a0]) (S := []) (Lc := [zR 1 0, zI a0]) (d' := 0) (n := 1) (g := 1) (x := 0) (ci := 6) kX6_hasCorner vX6_hasCorner lkX10_241 (by decide +kernel) (by decide) rfl rfl (by decide) rfl rfl (Nat.le_of_ble_eq_true rfl) rfl rfl (Nat.le_of_ble_eq_true rfl) (pX6_hasCorner  (fun c => ?_) (fun c => ?_))
  · replace h := h.1 c
    refine r_if_eq (off := 14) (tgt := 22) (by decide +kernel) (by decide) (fun c => ?_) (fun c => ?_)
    · exact absurd c (by decide)
    · refine r_blk [qO (.aload_n 0), qF (.getfield 10) 10 0, qO (.iload_n 2)] (pc' := 16) (L' := [zR 0 0, zI a0, zI a1, zI a2]) (S' := [zI a1, zR 1 0]) (σ' := σ) (Ps := []) (by decide +kernel) rfl trivial ?_
      refine r_callVI (As := [zI a1]) (S := []) (Lc := [zR 1 0, zI a1]) (d' := 0) (n := 1) (g := 1) (x := 0) (ci := 6) kX6_hasCorner vX6_hasCorner lkX10_241 (by decide +kernel) (by decide) rfl rfl (by decide) rfl rfl (Nat.le_of_ble_eq_true rfl) rfl rfl (Nat.le_of_ble_eq_true rfl) (pX6_hasCorner  (fun c => ?_) (fun c => ?_))
      · replace h := h.1 c
        refine r_if_ne (off := 5) (tgt := 24) (by decide +kernel) (by decide) (fun c => ?_) (fun c => ?_)
        · refine r_blk [qO (.aload_n 0), qO (.iload_n 3)] (pc' := 26) (L' := [zR 0 0, zI a0, zI a1, zI a2]) (S' := [zI a2, zR 0 0]) (σ' := σ) (Ps := []) (by decide +kernel) rfl trivial ?_
          refine r_callVI (As := [zI a2]) (S := []) (Lc := [zR 0 0, zI a2]) (d' := 0) (n := 1) (g := 0) (x := 0) (ci := 10) kX10_refusalOfMinute vX10_refusalOfMinute lkX10_170 (by decide +kernel) (by decide) rfl rfl (by decide) rfl rfl (Nat.le_of_ble_eq_true rfl) rfl rfl (Nat.le_of_ble_eq_true rfl) (pX10_refusalOfMinute  ?_)
          exact r_ret (by decide +kernel) rfl (fun _ => h)
        · exact absurd c (by decide)
      · replace h := h.2 c
        refine r_if_ne (off := 5) (tgt := 24) (by decide +kernel) (by decide) (fun c => ?_) (fun c => ?_)
        · exact absurd c (by decide)
        · refine r_blk [qO (.iconst (-1))] (pc' := 23) (L' := [zR 0 0, zI a0, zI a1, zI a2]) (S' := [zI (-1)]) (σ' := σ) (Ps := []) (by decide +kernel) rfl trivial ?_
          exact r_ret (by decide +kernel) rfl (fun _ => h)
  · replace h := h.2 c
    refine r_if_eq (off := 14) (tgt := 22) (by decide +kernel) (by decide) (fun c => ?_) (fun c => ?_)
    · refine r_blk [qO (.iconst (-1))] (pc' := 23) (L' := [zR 0 0, zI a0, zI a1, zI a2]) (S' := [zI (-1)]) (σ' := σ) (Ps := []) (by decide +kernel) rfl trivial ?_
      exact r_ret (by decide +kernel) rfl (fun _ => h)
    · exact absurd c (by decide)
theorem gX10_refusalOfTrying_0 (σ : Hp) {Q : Option Int → Hp → Prop} (h : ((σ 1 0 1 ≤ 10 → ((¬ σ 1 0 1 = 0 → Q (some 0) σ) ∧ (σ 1 0 1 = 0 → Q (some (-3)) σ))) ∧ (¬ σ 1 0 1 ≤ 10 → Q (some (-6)) σ))) : Runs 0 mX10_refusalOfTrying 0 [zR 0 0] [] σ Q := by
  refine r_blk [qO (.aload_n 0), qF (.getfield 10) 10 0, qF (.getfield 164) 6 1, qO (.bipush 10)] (pc' := 9) (L' := [zR 0 0]) (S' := [zI 10, zI (σ 1 0 1)]) (σ' := σ) (Ps := []) (by decide +kernel) rfl trivial ?_
  refine r_icmp_le (off := 6) (tgt := 15) (by decide +kernel) (by decide) (fun c => ?_) (fun c => ?_)
  · replace h := h.1 c
    refine r_blk [qO (.aload_n 0), qF (.getfield 10) 10 0, qF (.getfield 164) 6 1] (pc' := 22) (L' := [zR 0 0]) (S' := [zI (σ 1 0 1)]) (σ' := σ) (Ps := []) (by decide +kernel) rfl trivial ?_
    refine r_if_ne (off := 8) (tgt := 30) (by decide +kernel) (by decide) (fun c => ?_) (fun c => ?_)
    · replace h := h.1 c
      refine r_blk [qO (.iconst 0)] (pc' := 31) (L' := [zR 0 0]) (S' := [zI 0]) (σ' := σ) (Ps := []) (by decide +kernel) rfl trivial ?_
      exact r_ret (by decide +kernel) rfl (fun _ => h)
    · replace h := h.2 c
      refine r_blk [qO (.bipush (-3)), qO (.goto 4)] (pc' := 31) (L' := [zR 0 0]) (S' := [zI (-3)]) (σ' := σ) (Ps := []) (by decide +kernel) rfl trivial ?_
      exact r_ret (by decide +kernel) rfl (fun _ => h)
  · replace h := h.2 c
    refine r_blk [qO (.bipush (-6))] (pc' := 14) (L' := [zR 0 0]) (S' := [zI (-6)]) (σ' := σ) (Ps := []) (by decide +kernel) rfl trivial ?_
    exact r_ret (by decide +kernel) rfl (fun _ => h)
theorem gX6_areTwoCorners_0 (a0 : Int) (a1 : Int) (t : Nat) (σ : Hp) {Q : Option Int → Hp → Prop} (h : ((0 ≤ a0 ∧ a0 < σ 1 t 0 → ((0 ≤ a1 ∧ a1 < σ 1 t 0 → ((a0 = a1 → Q (some 0) σ) ∧ (¬ a0 = a1 → Q (some 1) σ))) ∧ (¬ (0 ≤ a1 ∧ a1 < σ 1 t 0) → Q (some 0) σ))) ∧ (¬ (0 ≤ a0 ∧ a0 < σ 1 t 0) → Q (some 0) σ))) : Runs 1 mX6_areTwoCorners 0 [zR 1 t, zI a0, zI a1] [] σ Q := by
  refine r_blk [qO (.aload_n 0), qO (.iload_n 1)] (pc' := 2) (L' := [zR 1 t, zI a0, zI a1]) (S' := [zI a0, zR 1 t]) (σ' := σ) (Ps := []) (by decide +kernel) rfl trivial ?_
  refine r_callVI (As := [zI a0]) (S := []) (Lc := [zR 1 t, zI a0]) (d' := 0) (n := 1) (g := 1) (x := t) (ci := 6) kX6_hasCorner vX6_hasCorner lkX6_80 (by decide +kernel) (by decide) rfl rfl (by decide) rfl rfl (Nat.le_of_ble_eq_true rfl) rfl rfl (Nat.le_of_ble_eq_true rfl) (pX6_hasCorner  (fun c => ?_) (fun c => ?_))
  · replace h := h.1 c
    refine r_if_eq (off := 20) (tgt := 25) (by decide +kernel) (by decide) (fun c => ?_) (fun c => ?_)
    · exact absurd c (by decide)
    · refine r_blk [qO (.aload_n 0), qO (.iload_n 2)] (pc' := 10) (L' := [zR 1 t, zI a0, zI a1]) (S' := [zI a1, zR 1 t]) (σ' := σ) (Ps := []) (by decide +kernel) rfl trivial ?_
      refine r_callVI (As := [zI a1]) (S := []) (Lc := [zR 1 t, zI a1]) (d' := 0) (n := 1) (g := 1) (x := t) (ci := 6) kX6_hasCorner vX6_hasCorner lkX6_80 (by decide +kernel) (by decide) rfl rfl (by decide) rfl rfl (Nat.le_of_ble_eq_true rfl) rfl rfl (Nat.le_of_ble_eq_true rfl) (pX6_hasCorner  (fun c => ?_) (fun c => ?_))
      · replace h := h.1 c
        refine r_if_eq (off := 12) (tgt := 25) (by decide +kernel) (by decide) (fun c => ?_) (fun c => ?_)
        · exact absurd c (by decide)
        · refine r_blk [qO (.iload_n 1), qO (.iload_n 2)] (pc' := 18) (L' := [zR 1 t, zI a0, zI a1]) (S' := [zI a1, zI a0]) (σ' := σ) (Ps := []) (by decide +kernel) rfl trivial ?_
          refine r_icmp_eq (off := 7) (tgt := 25) (by decide +kernel) (by decide) (fun c => ?_) (fun c => ?_)
          · replace h := h.1 c
            refine r_blk [qO (.iconst 0)] (pc' := 26) (L' := [zR 1 t, zI a0, zI a1]) (S' := [zI 0]) (σ' := σ) (Ps := []) (by decide +kernel) rfl trivial ?_
            exact r_retz (by decide +kernel) rfl (by decide) h
          · replace h := h.2 c
            refine r_blk [qO (.iconst 1), qO (.goto 4)] (pc' := 26) (L' := [zR 1 t, zI a0, zI a1]) (S' := [zI 1]) (σ' := σ) (Ps := []) (by decide +kernel) rfl trivial ?_
            exact r_retz (by decide +kernel) rfl (by decide) h
      · replace h := h.2 c
        refine r_if_eq (off := 12) (tgt := 25) (by decide +kernel) (by decide) (fun c => ?_) (fun c => ?_)
        · refine r_blk [qO (.iconst 0)] (pc' := 26) (L' := [zR 1 t, zI a0, zI a1]) (S' := [zI 0]) (σ' := σ) (Ps := []) (by decide +kernel) rfl trivial ?_
          exact r_retz (by decide +kernel) rfl (by decide) h
        · exact absurd c (by decide)
  · replace h := h.2 c
    refine r_if_eq (off := 20) (tgt := 25) (by decide +kernel) (by decide) (fun c => ?_) (fun c => ?_)
    · refine r_blk [qO (.iconst 0)] (pc' := 26) (L' := [zR 1 t, zI a0, zI a1]) (S' := [zI 0]) (σ' := σ) (Ps := []) (by decide +kernel) rfl trivial ?_
      exact r_retz (by decide +kernel) rfl (by decide) h
    · exact absurd c (by decide)
theorem gX6_mustLets_0 (a0 : Int) (a1 : Int) (t : Nat) (σ : Hp) {Q : Option Int → Hp → Prop} (h : (0 ≤ a0 ∧ a0 < 14) ∧ ((σ 5 t a0.toNat = 2 → Q (some 1) σ) ∧ (¬ σ 5 t a0.toNat = 2 → (0 ≤ a0 ∧ a0 < 14) ∧ ((¬ σ 5 t a0.toNat = a1 → Q (some 0) σ) ∧ (σ 5 t a0.toNat = a1 → Q (some 1) σ))))) : Runs 0 mX6_mustLets 0 [zR 1 t, zI a0, zI a1] [] σ Q := by
  refine r_blk [qO (.aload_n 0), qF (.getfield 25) 6 10, qO (.iload_n 1), qO .iaload, qO (.iconst 2)] (pc' := 7) (L' := [zR 1 t, zI a0, zI a1]) (S' := [zI 2, zI (σ 5 t a0.toNat)]) (σ' := σ) (Ps := [0 ≤ a0 ∧ a0 < 14]) (by decide +kernel) rfl ⟨h.1, trivial⟩ ?_
  replace h := h.2
  refine r_icmp_eq (off := 13) (tgt := 20) (by decide +kernel) (by decide) (fun c => ?_) (fun c => ?_)
  · replace h := h.1 c
    refine r_blk [qO (.iconst 1), qO (.goto 4)] (pc' := 25) (L' := [zR 1 t, zI a0, zI a1]) (S' := [zI 1]) (σ' := σ) (Ps := []) (by decide +kernel) rfl trivial ?_
    exact r_retz (by decide +kernel) rfl (by decide) h
  · replace h := h.2 c
    refine r_blk [qO (.aload_n 0), qF (.getfield 25) 6 10, qO (.iload_n 1), qO .iaload, qO (.iload_n 2)] (pc' := 17) (L' := [zR 1 t, zI a0, zI a1]) (S' := [zI a1, zI (σ 5 t a0.toNat)]) (σ' := σ) (Ps := [0 ≤ a0 ∧ a0 < 14]) (by decide +kernel) rfl ⟨h.1, trivial⟩ ?_
    replace h := h.2
    refine r_icmp_ne (off := 7) (tgt := 24) (by decide +kernel) (by decide) (fun c => ?_) (fun c => ?_)
    · replace h := h.1 c
      refine r_blk [qO (.iconst 0)] (pc' := 25) (L' := [zR 1 t, zI a0, zI a1]) (S' := [zI 0]) (σ' := σ) (Ps := []) (by decide +kernel) rfl trivial ?_
      exact r_retz (by decide +kernel) rfl (by decide) h
    · replace h := h.2 c
      refine r_blk [qO (.iconst 1), qO (.goto 4)] (pc' := 25) (L' := [zR 1 t, zI a0, zI a1]) (S' := [zI 1]) (σ' := σ) (Ps := []) (by decide +kernel) rfl trivial ?_
      exact r_retz (by decide +kernel) rfl (by decide) h
theorem gX3_sign_0 (a0 : Int) (σ : Hp) {Q : Option Int → Hp → Prop} (h : (σ 12 0 1 ≤ 64) ∧ ((zbyte σ (σ 14 0 2) = a0 → (-2147483648 ≤ (σ 14 0 2) + 1 ∧ (σ 14 0 2) + 1 ≤ 2147483647) ∧ Q (some 1) (zup σ 14 0 2 ((σ 14 0 2) + 1))) ∧ (¬ zbyte σ (σ 14 0 2) = a0 → Q (some 0) σ))) : Runs 1 mX3_sign 0 [zR 14 0, zI a0] [] σ Q := by
  refine r_blk [qO (.aload_n 0), qF (.getfield 22) 3 0, qO (.aload_n 0), qF (.getfield 34) 3 2] (pc' := 8) (L' := [zR 14 0, zI a0]) (S' := [zI (σ 14 0 2), zR 12 0]) (σ' := σ) (Ps := []) (by decide +kernel) rfl trivial ?_
  refine r_callVI (As := [zI (σ 14 0 2)]) (S := []) (Lc := [zR 12 0, zI (σ 14 0 2)]) (d' := 0) (n := 1) (g := 12) (x := 0) (ci := 5) kX5_byteAt vX5_byteAt lkX3_53 (by decide +kernel) (by decide) rfl rfl (by decide) rfl rfl (Nat.le_of_ble_eq_true rfl) rfl rfl (Nat.le_of_ble_eq_true rfl) (pX5_byteAt h.1 ?_)
  replace h := h.2
  refine r_blk [qO (.iload_n 1)] (pc' := 12) (L' := [zR 14 0, zI a0]) (S' := [zI a0, zI (zbyte σ (σ 14 0 2))]) (σ' := σ) (Ps := []) (by decide +kernel) rfl trivial ?_
  refine r_icmp_eq (off := 5) (tgt := 17) (by decide +kernel) (by decide) (fun c => ?_) (fun c => ?_)
  · replace h := h.1 c
    refine r_blk [qO (.aload_n 0), qO .dup, qF (.getfield 34) 3 2, qO (.iconst 1), qO .iadd, qF (.putfield 34) 3 2, qO (.iconst 1)] (pc' := 28) (L' := [zR 14 0, zI a0]) (S' := [zI 1]) (σ' := (zup σ 14 0 2 ((σ 14 0 2) + 1))) (Ps := [-2147483648 ≤ (σ 14 0 2) + 1 ∧ (σ 14 0 2) + 1 ≤ 2147483647]) (by decide +kernel) rfl ⟨h.1, trivial⟩ ?_
    replace h := h.2
    exact r_retz (by decide +kernel) rfl (by decide) h
  · replace h := h.2 c
    refine r_blk [qO (.iconst 0)] (pc' := 16) (L' := [zR 14 0, zI a0]) (S' := [zI 0]) (σ' := σ) (Ps := []) (by decide +kernel) rfl trivial ?_
    exact r_retz (by decide +kernel) rfl (by decide) h
theorem gX8_goAlong_0 (a0 : Int) (a1 : Int) (a2 : Int) (σ : Hp) {Q : Option Int → Hp → Prop} (h : ((a2 = (-9) → Q none σ) ∧ (¬ a2 = (-9) → (0 ≤ a0 ∧ a0 < 14) ∧ (-2147483648 ≤ a2 + (σ 4 0 a0.toNat) ∧ a2 + (σ 4 0 a0.toNat) ≤ 2147483647) ∧ (0 ≤ a1 ∧ a1 < 10) ∧ ((σ 18 0 a1.toNat ≤ a2 + (σ 4 0 a0.toNat) → Q none σ) ∧ (¬ σ 18 0 a1.toNat ≤ a2 + (σ 4 0 a0.toNat) → (0 ≤ a0 ∧ a0 < 14) ∧ (-2147483648 ≤ a2 + (σ 4 0 a0.toNat) ∧ a2 + (σ 4 0 a0.toNat) ≤ 2147483647) ∧ (0 ≤ a1 ∧ a1 < 10) ∧ Q none (zup σ 18 0 a1.toNat (a2 + (σ 4 0 a0.toNat)))))))) : Runs 1 mX8_goAlong 0 [zR 17 0, zI a0, zI a1, zI a2] [] σ Q := by
  refine r_blk [qO (.iload_n 3), qO (.bipush (-9))] (pc' := 3) (L' := [zR 17 0, zI a0, zI a1, zI a2]) (S' := [zI (-9), zI a2]) (σ' := σ) (Ps := []) (by decide +kernel) rfl trivial ?_
  refine r_icmp_eq (off := 40) (tgt := 43) (by decide +kernel) (by decide) (fun c => ?_) (fun c => ?_)
  · replace h := h.1 c
    exact r_retv (by decide +kernel) rfl h
  · replace h := h.2 c
    refine r_blk [qO (.iload_n 3), qO (.aload_n 0), qF (.getfield 15) 8 0, qF (.getfield 72) 6 9, qO (.iload_n 1), qO .iaload, qO .iadd, qO (.aload_n 0), qF (.getfield 9) 8 2, qO (.iload_n 2), qO .iaload] (pc' := 23) (L' := [zR 17 0, zI a0, zI a1, zI a2]) (S' := [zI (σ 18 0 a1.toNat), zI (a2 + (σ 4 0 a0.toNat))]) (σ' := σ) (Ps := [0 ≤ a0 ∧ a0 < 14, -2147483648 ≤ a2 + (σ 4 0 a0.toNat) ∧ a2 + (σ 4 0 a0.toNat) ≤ 2147483647, 0 ≤ a1 ∧ a1 < 10]) (by decide +kernel) rfl ⟨h.1, h.2.1, h.2.2.1, trivial⟩ ?_
    replace h := h.2.2.2
    refine r_icmp_ge (off := 20) (tgt := 43) (by decide +kernel) (by decide) (fun c => ?_) (fun c => ?_)
    · replace h := h.1 c
      exact r_retv (by decide +kernel) rfl h
    · replace h := h.2 c
      refine r_blk [qO (.aload_n 0), qF (.getfield 9) 8 2, qO (.iload_n 2), qO (.iload_n 3), qO (.aload_n 0), qF (.getfield 15) 8 0, qF (.getfield 72) 6 9, qO (.iload_n 1), qO .iaload, qO .iadd, qO .iastore] (pc' := 43) (L' := [zR 17 0, zI a0, zI a1, zI a2]) (S' := []) (σ' := (zup σ 18 0 a1.toNat (a2 + (σ 4 0 a0.toNat)))) (Ps := [0 ≤ a0 ∧ a0 < 14, -2147483648 ≤ a2 + (σ 4 0 a0.toNat) ∧ a2 + (σ 4 0 a0.toNat) ≤ 2147483647, 0 ≤ a1 ∧ a1 < 10]) (by decide +kernel) rfl ⟨h.1, h.2.1, h.2.2.1, trivial⟩ ?_
      replace h := h.2.2.2
      exact r_retv (by decide +kernel) rfl h
theorem gX0_layStep_0 (a0 : Int) (a1 : Int) (a2 : Int) (σ : Hp) {Q : Option Int → Hp → Prop} (h : (0 ≤ a0 ∧ a0 < 10) ∧ (0 ≤ a0 ∧ a0 < 10) ∧ (0 ≤ a1 ∧ a1 < 10) ∧ (0 ≤ a1 ∧ a1 < 10) ∧ ∀ σ1 : Hp, σ1 = (zup σ 21 a0.toNat a1.toNat (if a2 < σ 21 a0.toNat a1.toNat then a2 else σ 21 a0.toNat a1.toNat)) → Q none σ1) : Runs 1 mX0_layStep 0 [zR 19 0, zI a0, zI a1, zI a2] [] σ Q := by
  refine r_blk [qO (.aload_n 0), qF (.getfield 11) 0 2, qO (.iload_n 1), qO .aaload, qO (.iload_n 2), qO (.aload_n 0), qF (.getfield 11) 0 2, qO (.iload_n 1), qO .aaload, qO (.iload_n 2), qO .iaload, qO (.iload_n 3)] (pc' := 16) (L' := [zR 19 0, zI a0, zI a1, zI a2]) (S' := [zI a2, zI (σ 21 a0.toNat a1.toNat), zI a1, zR 21 a0.toNat]) (σ' := σ) (Ps := [0 ≤ a0 ∧ a0 < 10, 0 ≤ a0 ∧ a0 < 10, 0 ≤ a1 ∧ a1 < 10]) (by decide +kernel) rfl ⟨h.1, h.2.1, h.2.2.1, trivial⟩ ?_
  replace h := h.2.2.2
  refine r_min lkX0_61 (by decide +kernel) (by decide) (Nat.le_of_ble_eq_true rfl) ?_
  refine r_blk [qO .iastore] (pc' := 20) (L' := [zR 19 0, zI a0, zI a1, zI a2]) (S' := []) (σ' := (zup σ 21 a0.toNat a1.toNat (if a2 < σ 21 a0.toNat a1.toNat then a2 else σ 21 a0.toNat a1.toNat))) (Ps := [0 ≤ a1 ∧ a1 < 10]) (by decide +kernel) rfl ⟨h.1, trivial⟩ ?_
  replace h := h.2
  generalize hσ1 : (zup σ 21 a0.toNat a1.toNat (if a2 < σ 21 a0.toNat a1.toNat then a2 else σ 21 a0.toNat a1.toNat)) = σ1
  replace h := h σ1 hσ1.symm
  exact r_retv (by decide +kernel) rfl h
theorem gX0_isApart_0 (a0 : Int) (a1 : Int) (σ : Hp) {Q : Option Int → Hp → Prop} (h : ((a0 = a1 → Q (some 0) σ) ∧ (¬ a0 = a1 → (0 ≤ a0 ∧ a0 < 10) ∧ (0 ≤ a1 ∧ a1 < 10) ∧ ((σ 21 a0.toNat a1.toNat < 1000000 → Q (some 0) σ) ∧ (¬ σ 21 a0.toNat a1.toNat < 1000000 → Q (some 1) σ))))) : Runs 0 mX0_isApart 0 [zR 19 0, zI a0, zI a1] [] σ Q := by
  refine r_blk [qO (.iload_n 1), qO (.iload_n 2)] (pc' := 2) (L' := [zR 19 0, zI a0, zI a1]) (S' := [zI a1, zI a0]) (σ' := σ) (Ps := []) (by decide +kernel) rfl trivial ?_
  refine r_icmp_eq (off := 20) (tgt := 22) (by decide +kernel) (by decide) (fun c => ?_) (fun c => ?_)
  · replace h := h.1 c
    refine r_blk [qO (.iconst 0)] (pc' := 23) (L' := [zR 19 0, zI a0, zI a1]) (S' := [zI 0]) (σ' := σ) (Ps := []) (by decide +kernel) rfl trivial ?_
    exact r_retz (by decide +kernel) rfl (by decide) h
  · replace h := h.2 c
    refine r_blk [qO (.aload_n 0), qF (.getfield 11) 0 2, qO (.iload_n 1), qO .aaload, qO (.iload_n 2), qO .iaload, qC (.ldc 24) 1000000] (pc' := 15) (L' := [zR 19 0, zI a0, zI a1]) (S' := [zI 1000000, zI (σ 21 a0.toNat a1.toNat)]) (σ' := σ) (Ps := [0 ≤ a0 ∧ a0 < 10, 0 ≤ a1 ∧ a1 < 10]) (by decide +kernel) rfl ⟨h.1, h.2.1, trivial⟩ ?_
    replace h := h.2.2
    refine r_icmp_lt (off := 7) (tgt := 22) (by decide +kernel) (by decide) (fun c => ?_) (fun c => ?_)
    · replace h := h.1 c
      refine r_blk [qO (.iconst 0)] (pc' := 23) (L' := [zR 19 0, zI a0, zI a1]) (S' := [zI 0]) (σ' := σ) (Ps := []) (by decide +kernel) rfl trivial ?_
      exact r_retz (by decide +kernel) rfl (by decide) h
    · replace h := h.2 c
      refine r_blk [qO (.iconst 1), qO (.goto 4)] (pc' := 23) (L' := [zR 19 0, zI a0, zI a1]) (S' := [zI 1]) (σ' := σ) (Ps := []) (by decide +kernel) rfl trivial ?_
      exact r_retz (by decide +kernel) rfl (by decide) h
theorem gX2_otherEnd_0 (a0 : Int) (a1 : Int) (σ : Hp) {Q : Option Int → Hp → Prop} (h : (0 ≤ a0 ∧ a0 < 14) ∧ ((¬ σ 2 0 a0.toNat = a1 → (0 ≤ a0 ∧ a0 < 14) ∧ ((¬ σ 3 0 a0.toNat = a1 → Q (some (-1)) σ) ∧ (σ 3 0 a0.toNat = a1 → (0 ≤ a0 ∧ a0 < 14) ∧ Q (some (σ 2 0 a0.toNat)) σ))) ∧ (σ 2 0 a0.toNat = a1 → (0 ≤ a0 ∧ a0 < 14) ∧ Q (some (σ 3 0 a0.toNat)) σ))) : Runs 0 mX2_otherEnd 0 [zR 22 0, zI a0, zI a1] [] σ Q := by
  refine r_blk [qO (.aload_n 0), qF (.getfield 18) 2 0, qF (.getfield 35) 6 7, qO (.iload_n 1), qO .iaload, qO (.iload_n 2)] (pc' := 10) (L' := [zR 22 0, zI a0, zI a1]) (S' := [zI a1, zI (σ 2 0 a0.toNat)]) (σ' := σ) (Ps := [0 ≤ a0 ∧ a0 < 14]) (by decide +kernel) rfl ⟨h.1, trivial⟩ ?_
  replace h := h.2
  refine r_icmp_ne (off := 13) (tgt := 23) (by decide +kernel) (by decide) (fun c => ?_) (fun c => ?_)
  · replace h := h.1 c
    refine r_blk [qO (.aload_n 0), qF (.getfield 18) 2 0, qF (.getfield 38) 6 8, qO (.iload_n 1), qO .iaload, qO (.iload_n 2)] (pc' := 33) (L' := [zR 22 0, zI a0, zI a1]) (S' := [zI a1, zI (σ 3 0 a0.toNat)]) (σ' := σ) (Ps := [0 ≤ a0 ∧ a0 < 14]) (by decide +kernel) rfl ⟨h.1, trivial⟩ ?_
    replace h := h.2
    refine r_icmp_ne (off := 15) (tgt := 48) (by decide +kernel) (by decide) (fun c => ?_) (fun c => ?_)
    · replace h := h.1 c
      refine r_blk [qO (.iconst (-1))] (pc' := 49) (L' := [zR 22 0, zI a0, zI a1]) (S' := [zI (-1)]) (σ' := σ) (Ps := []) (by decide +kernel) rfl trivial ?_
      exact r_ret (by decide +kernel) rfl (fun _ => h)
    · replace h := h.2 c
      refine r_blk [qO (.aload_n 0), qF (.getfield 18) 2 0, qF (.getfield 35) 6 7, qO (.iload_n 1), qO .iaload, qO (.goto 4)] (pc' := 49) (L' := [zR 22 0, zI a0, zI a1]) (S' := [zI (σ 2 0 a0.toNat)]) (σ' := σ) (Ps := [0 ≤ a0 ∧ a0 < 14]) (by decide +kernel) rfl ⟨h.1, trivial⟩ ?_
      replace h := h.2
      exact r_ret (by decide +kernel) rfl (fun _ => h)
  · replace h := h.2 c
    refine r_blk [qO (.aload_n 0), qF (.getfield 18) 2 0, qF (.getfield 38) 6 8, qO (.iload_n 1), qO .iaload] (pc' := 22) (L' := [zR 22 0, zI a0, zI a1]) (S' := [zI (σ 3 0 a0.toNat)]) (σ' := σ) (Ps := [0 ≤ a0 ∧ a0 < 14]) (by decide +kernel) rfl ⟨h.1, trivial⟩ ?_
    replace h := h.2
    exact r_ret (by decide +kernel) rfl (fun _ => h)
theorem gX7_takeAsItIs_0 (σ : Hp) {Q : Option Int → Hp → Prop} (h : ∀ σ1 : Hp, σ1 = (zup (zup (zup (zup σ 16 0 1 (σ 11 0 1)) 16 0 2 (σ 11 0 0)) 16 0 3 (σ 11 0 2)) 16 0 5 (σ 1 0 5)) → ∀ σ2 : Hp, σ2 = zup σ1 16 0 6 (tOpen σ1 0) → ∀ σ3 : Hp, σ3 = zup σ2 16 0 4 (tBits σ2 (σ2 1 0 6)) → Q none σ3) : Runs 1 mX7_takeAsItIs 0 [zR 16 0] [] σ Q := by
  refine r_blk [qO (.aload_n 0), qO (.aload_n 0), qF (.getfield 9) 7 0, qF (.getfield 15) 6 16, qO (.iconst 1), qO .iaload, qF (.putfield 21) 7 1, qO (.aload_n 0), qO (.aload_n 0), qF (.getfield 9) 7 0, qF (.getfield 15) 6 16, qO (.iconst 0), qO .iaload, qF (.putfield 25) 7 2, qO (.aload_n 0), qO (.aload_n 0), qF (.getfield 9) 7 0, qF (.getfield 15) 6 16, qO (.iconst 2), qO .iaload, qF (.putfield 28) 7 3, qO (.aload_n 0), qO (.aload_n 0), qF (.getfield 9) 7 0, qF (.getfield 31) 6 5, qF (.putfield 34) 7 5, qO (.aload_n 0), qO (.iconst 0)] (pc' := 52) (L' := [zR 16 0]) (S' := [zI 0, zR 16 0]) (σ' := (zup (zup (zup (zup σ 16 0 1 (σ 11 0 1)) 16 0 2 (σ 11 0 0)) 16 0 3 (σ 11 0 2)) 16 0 5 (σ 1 0 5))) (Ps := [0 ≤ 1 ∧ 1 < 4, 0 ≤ 0 ∧ 0 < 4, 0 ≤ 2 ∧ 2 < 4]) (by decide +kernel) rfl ⟨(by decide), (by decide), (by decide), trivial⟩ ?_
  generalize hσ1 : (zup (zup (zup (zup σ 16 0 1 (σ 11 0 1)) 16 0 2 (σ 11 0 0)) 16 0 3 (σ 11 0 2)) 16 0 5 (σ 1 0 5)) = σ1
  replace h := h σ1 hσ1.symm
  refine r_callVV (As := [zI 0]) (S := []) (Lc := [zR 16 0, zI 0]) (d' := 0) (n := 1) (g := 16) (x := 0) (ci := 7) kX7_openBothWays vX7_openBothWays lkX7_35 (by decide +kernel) (by decide) rfl rfl (by decide) rfl rfl (Nat.le_of_ble_eq_true rfl) rfl rfl (Nat.le_of_ble_eq_true rfl) (pX7_openBothWays  ?_)
  generalize hσ2 : zup σ1 16 0 6 (tOpen σ1 0) = σ2
  replace h := h σ2 hσ2.symm
  refine r_blk [qO (.aload_n 0), qO (.aload_n 0), qF (.getfield 9) 7 0, qF (.getfield 39) 6 6] (pc' := 63) (L' := [zR 16 0]) (S' := [zI (σ2 1 0 6), zR 16 0]) (σ' := σ2) (Ps := []) (by decide +kernel) rfl trivial ?_
  refine r_callVV (As := [zI (σ2 1 0 6)]) (S := []) (Lc := [zR 16 0, zI (σ2 1 0 6), zU]) (d' := 0) (n := 1) (g := 16) (x := 0) (ci := 7) kX7_pointAs vX7_pointAs lkX7_42 (by decide +kernel) (by decide) rfl rfl (by decide) rfl rfl (Nat.le_of_ble_eq_true rfl) rfl rfl (Nat.le_of_ble_eq_true rfl) (pX7_pointAs  ?_)
  generalize hσ3 : zup σ2 16 0 4 (tBits σ2 (σ2 1 0 6)) = σ3
  replace h := h σ3 hσ3.symm
  exact r_retv (by decide +kernel) rfl h
theorem gX1_drawBelow_0 (a0 : Int) (σ : Hp) {Q : Option Int → Hp → Prop} (h : ((1 ≤ a0 → (a0 ≠ 0) ∧ ∀ z1 : Int, z1 = zrem (zdiv (zand (wrap ((wrap ((σ 25 0 2) * 1664525)) + 1013904223)) 2147483647) 256) a0 → Q (some z1) (zup σ 25 0 2 (wrap ((wrap ((σ 25 0 2) * 1664525)) + 1013904223)))) ∧ (¬ 1 ≤ a0 → Q (some 0) (zup σ 25 0 2 (wrap ((wrap ((σ 25 0 2) * 1664525)) + 1013904223)))))) : Runs 0 mX1_drawBelow 0 [zR 25 0, zI a0] [] σ Q := by
  refine r_blk [qO (.aload_n 0), qO (.aload_n 0), qF (.getfield 59) 1 2, qC (.ldc 65) 1664525, qC .imul 1, qC (.ldc 66) 1013904223, qC .iadd 1, qF (.putfield 59) 1 2, qO (.iload_n 1), qO (.iconst 1)] (pc' := 16) (L' := [zR 25 0, zI a0]) (S' := [zI 1, zI a0]) (σ' := (zup σ 25 0 2 (wrap ((wrap ((σ 25 0 2) * 1664525)) + 1013904223)))) (Ps := []) (by decide +kernel) rfl trivial ?_
  refine r_icmp_ge (off := 7) (tgt := 23) (by decide +kernel) (by decide) (fun c => ?_) (fun c => ?_)
  · replace h := h.1 c
    refine r_blk [qO (.aload_n 0), qF (.getfield 59) 1 2, qC (.ldc 67) 2147483647, qO .iand, qO (.sipush 256), qO .idiv, qO (.iload_n 1), qO .irem] (pc' := 36) (L' := [zR 25 0, zI a0]) (S' := [zI (zrem (zdiv (zand (wrap ((wrap ((σ 25 0 2) * 1664525)) + 1013904223)) 2147483647) 256) a0)]) (σ' := (zup σ 25 0 2 (wrap ((wrap ((σ 25 0 2) * 1664525)) + 1013904223)))) (Ps := [256 ≠ 0, a0 ≠ 0]) (by decide +kernel) rfl ⟨(by decide), h.1, trivial⟩ ?_
    replace h := h.2
    generalize hz1 : zrem (zdiv (zand (wrap ((wrap ((σ 25 0 2) * 1664525)) + 1013904223)) 2147483647) 256) a0 = z1
    replace h := h z1 hz1.symm
    exact r_ret (by decide +kernel) rfl (fun _ => h)
  · replace h := h.2 c
    refine r_blk [qO (.iconst 0), qO (.goto 16)] (pc' := 36) (L' := [zR 25 0, zI a0]) (S' := [zI 0]) (σ' := (zup σ 25 0 2 (wrap ((wrap ((σ 25 0 2) * 1664525)) + 1013904223)))) (Ps := []) (by decide +kernel) rfl trivial ?_
    exact r_ret (by decide +kernel) rfl (fun _ => h)
theorem gX5_add_0 (a0 : Int) (σ : Hp) {Q : Option Int → Hp → Prop} (h : ((64 ≤ σ 12 0 1 → Q none σ) ∧ (¬ 64 ≤ σ 12 0 1 → (0 ≤ σ 12 0 1 ∧ σ 12 0 1 < 64) ∧ (-2147483648 ≤ (σ 12 0 1) + 1 ∧ (σ 12 0 1) + 1 ≤ 2147483647) ∧ Q none (zup (zup σ 13 0 ((σ 12 0 1).toNat) a0) 12 0 1 ((σ 12 0 1) + 1))))) : Runs 0 mX5_add 0 [zR 12 0, zI a0] [] σ Q := by
  refine r_blk [qO (.aload_n 0), qF (.getfield 15) 5 1, qO (.bipush 64)] (pc' := 6) (L' := [zR 12 0, zI a0]) (S' := [zI 64, zI (σ 12 0 1)]) (σ' := σ) (Ps := []) (by decide +kernel) rfl trivial ?_
  refine r_icmp_ge (off := 23) (tgt := 29) (by decide +kernel) (by decide) (fun c => ?_) (fun c => ?_)
  · replace h := h.1 c
    exact r_retv (by decide +kernel) rfl h
  · replace h := h.2 c
    refine r_blk [qO (.aload_n 0), qF (.getfield 9) 5 0, qO (.aload_n 0), qF (.getfield 15) 5 1, qO (.iload_n 1), qO .iastore, qO (.aload_n 0), qO .dup, qF (.getfield 15) 5 1, qO (.iconst 1), qO .iadd, qF (.putfield 15) 5 1] (pc' := 29) (L' := [zR 12 0, zI a0]) (S' := []) (σ' := (zup (zup σ 13 0 ((σ 12 0 1).toNat) a0) 12 0 1 ((σ 12 0 1) + 1))) (Ps := [0 ≤ σ 12 0 1 ∧ σ 12 0 1 < 64, -2147483648 ≤ (σ 12 0 1) + 1 ∧ (σ 12 0 1) + 1 ≤ 2147483647]) (by decide +kernel) rfl ⟨h.1, h.2.1, trivial⟩ ?_
    replace h := h.2.2
    exact r_retv (by decide +kernel) rfl h
