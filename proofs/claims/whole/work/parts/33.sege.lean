theorem gJ7_fill18_0 (a1 : Int) (x : Nat) (σ : Hp) {Q : Option Int → Hp → Prop} (h : Runs 0 mJ7_fill_53178 5 [zR 18 x, zI a1, zI 0, zI 10] [] σ Q) : Runs 0 mJ7_fill_53178 0 [zR 18 x, zI a1, zU, zU] [] σ Q := by
  refine r_blk [qO (.iconst 0), qO (.istore_n 2), qO (.aload_n 0), qO .arraylength, qO (.istore_n 3)] (pc' := 5) (L' := [zR 18 x, zI a1, zI 0, zI 10]) (S' := []) (σ' := σ) (Ps := []) (by decide +kernel) rfl trivial ?_
  exact Runs.fg (fgE (fgE (fgE (fgE fg0)))) h
theorem gJ7_fill18_5 (l1 : Int) (l2 : Int) (l3 : Int) (x : Nat) (σ : Hp) {Q : Option Int → Hp → Prop} (h : ((l3 ≤ l2 → Q none σ) ∧ (¬ l3 ≤ l2 → (0 ≤ l2 ∧ l2 < 10) ∧ (-2147483648 ≤ l2 + 1 ∧ l2 + 1 ≤ 2147483647) ∧ Runs 0 mJ7_fill_53178 5 [zR 18 x, zI l1, zI (l2 + 1), zI l3] [] (zup σ 18 x l2.toNat l1) Q))) : Runs 0 mJ7_fill_53178 5 [zR 18 x, zI l1, zI l2, zI l3] [] σ Q := by
  refine r_blk [qO (.iload_n 2), qO (.iload_n 3)] (pc' := 7) (L' := [zR 18 x, zI l1, zI l2, zI l3]) (S' := [zI l3, zI l2]) (σ' := σ) (Ps := []) (by decide +kernel) rfl trivial ?_
  refine r_icmp_ge (off := 13) (tgt := 20) (by decide +kernel) (by decide) (fun c => ?_) (fun c => ?_)
  · replace h := h.1 c
    exact r_retv (by decide +kernel) rfl h
  · replace h := h.2 c
    refine r_blk [qO (.aload_n 0), qO (.iload_n 2), qO (.iload_n 1), qO .iastore, qO (.iinc 2 1), qO (.goto (-12))] (pc' := 5) (L' := [zR 18 x, zI l1, zI (l2 + 1), zI l3]) (S' := []) (σ' := (zup σ 18 x l2.toNat l1)) (Ps := [0 ≤ l2 ∧ l2 < 10, -2147483648 ≤ l2 + 1 ∧ l2 + 1 ≤ 2147483647]) (by decide +kernel) rfl ⟨h.1, h.2.1, trivial⟩ ?_
    replace h := h.2.2
    exact Runs.fg (fgE (fgE (fgE (fgE fg0)))) h
theorem gJ7_fill21_0 (a1 : Int) (x : Nat) (σ : Hp) {Q : Option Int → Hp → Prop} (h : Runs 0 mJ7_fill_53178 5 [zR 21 x, zI a1, zI 0, zI 10] [] σ Q) : Runs 0 mJ7_fill_53178 0 [zR 21 x, zI a1, zU, zU] [] σ Q := by
  refine r_blk [qO (.iconst 0), qO (.istore_n 2), qO (.aload_n 0), qO .arraylength, qO (.istore_n 3)] (pc' := 5) (L' := [zR 21 x, zI a1, zI 0, zI 10]) (S' := []) (σ' := σ) (Ps := []) (by decide +kernel) rfl trivial ?_
  exact Runs.fg (fgE (fgE (fgE (fgE fg0)))) h
theorem gJ7_fill21_5 (l1 : Int) (l2 : Int) (l3 : Int) (x : Nat) (σ : Hp) {Q : Option Int → Hp → Prop} (h : ((l3 ≤ l2 → Q none σ) ∧ (¬ l3 ≤ l2 → (0 ≤ l2 ∧ l2 < 10) ∧ (-2147483648 ≤ l2 + 1 ∧ l2 + 1 ≤ 2147483647) ∧ Runs 0 mJ7_fill_53178 5 [zR 21 x, zI l1, zI (l2 + 1), zI l3] [] (zup σ 21 x l2.toNat l1) Q))) : Runs 0 mJ7_fill_53178 5 [zR 21 x, zI l1, zI l2, zI l3] [] σ Q := by
  refine r_blk [qO (.iload_n 2), qO (.iload_n 3)] (pc' := 7) (L' := [zR 21 x, zI l1, zI l2, zI l3]) (S' := [zI l3, zI l2]) (σ' := σ) (Ps := []) (by decide +kernel) rfl trivial ?_
  refine r_icmp_ge (off := 13) (tgt := 20) (by decide +kernel) (by decide) (fun c => ?_) (fun c => ?_)
  · replace h := h.1 c
    exact r_retv (by decide +kernel) rfl h
  · replace h := h.2 c
    refine r_blk [qO (.aload_n 0), qO (.iload_n 2), qO (.iload_n 1), qO .iastore, qO (.iinc 2 1), qO (.goto (-12))] (pc' := 5) (L' := [zR 21 x, zI l1, zI (l2 + 1), zI l3]) (S' := []) (σ' := (zup σ 21 x l2.toNat l1)) (Ps := [0 ≤ l2 ∧ l2 < 10, -2147483648 ≤ l2 + 1 ∧ l2 + 1 ≤ 2147483647]) (by decide +kernel) rfl ⟨h.1, h.2.1, trivial⟩ ?_
    replace h := h.2.2
    exact Runs.fg (fgE (fgE (fgE (fgE fg0)))) h
theorem gJ7_fill24_0 (a1 : Int) (x : Nat) (σ : Hp) {Q : Option Int → Hp → Prop} (h : Runs 0 mJ7_fill_53178 5 [zR 24 x, zI a1, zI 0, zI 10] [] σ Q) : Runs 0 mJ7_fill_53178 0 [zR 24 x, zI a1, zU, zU] [] σ Q := by
  refine r_blk [qO (.iconst 0), qO (.istore_n 2), qO (.aload_n 0), qO .arraylength, qO (.istore_n 3)] (pc' := 5) (L' := [zR 24 x, zI a1, zI 0, zI 10]) (S' := []) (σ' := σ) (Ps := []) (by decide +kernel) rfl trivial ?_
  exact Runs.fg (fgE (fgE (fgE (fgE fg0)))) h
theorem gJ7_fill24_5 (l1 : Int) (l2 : Int) (l3 : Int) (x : Nat) (σ : Hp) {Q : Option Int → Hp → Prop} (h : ((l3 ≤ l2 → Q none σ) ∧ (¬ l3 ≤ l2 → (0 ≤ l2 ∧ l2 < 10) ∧ (-2147483648 ≤ l2 + 1 ∧ l2 + 1 ≤ 2147483647) ∧ Runs 0 mJ7_fill_53178 5 [zR 24 x, zI l1, zI (l2 + 1), zI l3] [] (zup σ 24 x l2.toNat l1) Q))) : Runs 0 mJ7_fill_53178 5 [zR 24 x, zI l1, zI l2, zI l3] [] σ Q := by
  refine r_blk [qO (.iload_n 2), qO (.iload_n 3)] (pc' := 7) (L' := [zR 24 x, zI l1, zI l2, zI l3]) (S' := [zI l3, zI l2]) (σ' := σ) (Ps := []) (by decide +kernel) rfl trivial ?_
  refine r_icmp_ge (off := 13) (tgt := 20) (by decide +kernel) (by decide) (fun c => ?_) (fun c => ?_)
  · replace h := h.1 c
    exact r_retv (by decide +kernel) rfl h
  · replace h := h.2 c
    refine r_blk [qO (.aload_n 0), qO (.iload_n 2), qO (.iload_n 1), qO .iastore, qO (.iinc 2 1), qO (.goto (-12))] (pc' := 5) (L' := [zR 24 x, zI l1, zI (l2 + 1), zI l3]) (S' := []) (σ' := (zup σ 24 x l2.toNat l1)) (Ps := [0 ≤ l2 ∧ l2 < 10, -2147483648 ≤ l2 + 1 ∧ l2 + 1 ≤ 2147483647]) (by decide +kernel) rfl ⟨h.1, h.2.1, trivial⟩ ?_
    replace h := h.2.2
    exact Runs.fg (fgE (fgE (fgE (fgE fg0)))) h
theorem gX8_soonestUnsettled_0 (σ : Hp) {Q : Option Int → Hp → Prop} (h : Runs 1 mX8_soonestUnsettled 7 [zR 17 0, zI (-1), zI 1000000, zI 0] [] σ Q) : Runs 1 mX8_soonestUnsettled 0 [zR 17 0, zU, zU, zU] [] σ Q := by
  refine r_blk [qO (.iconst (-1)), qO (.istore_n 1), qC (.ldc 23) 1000000, qO (.istore_n 2), qO (.iconst 0), qO (.istore_n 3)] (pc' := 7) (L' := [zR 17 0, zI (-1), zI 1000000, zI 0]) (S' := []) (σ' := σ) (Ps := []) (by decide +kernel) rfl trivial ?_
  exact Runs.fg (fgE (fgE (fgE (fgE fg0)))) h
theorem gX8_soonestUnsettled_7 (l1 : Int) (l2 : Int) (l3 : Int) (σ : Hp) {Q : Option Int → Hp → Prop} (h : ((σ 1 0 0 ≤ l3 → Q (some l1) σ) ∧ (¬ σ 1 0 0 ≤ l3 → (0 ≤ l3 ∧ l3 < 10) ∧ ((l2 ≤ σ 18 0 l3.toNat → (-2147483648 ≤ l3 + 1 ∧ l3 + 1 ≤ 2147483647) ∧ Runs 1 mX8_soonestUnsettled 7 [zR 17 0, zI l1, zI l2, zI (l3 + 1)] [] σ Q) ∧ (¬ l2 ≤ σ 18 0 l3.toNat → ((¬ bitz (σ 17 0 3) l3 = 0 → (-2147483648 ≤ l3 + 1 ∧ l3 + 1 ≤ 2147483647) ∧ Runs 1 mX8_soonestUnsettled 7 [zR 17 0, zI l1, zI l2, zI (l3 + 1)] [] σ Q) ∧ (bitz (σ 17 0 3) l3 = 0 → (0 ≤ l3 ∧ l3 < 10) ∧ (-2147483648 ≤ l3 + 1 ∧ l3 + 1 ≤ 2147483647) ∧ Runs 1 mX8_soonestUnsettled 7 [zR 17 0, zI l3, zI (σ 18 0 l3.toNat), zI (l3 + 1)] [] σ Q))))))) : Runs 1 mX8_soonestUnsettled 7 [zR 17 0, zI l1, zI l2, zI l3] [] σ Q := by
  refine r_blk [qO (.iload_n 3), qO (.aload_n 0), qF (.getfield 15) 8 0, qF (.getfield 34) 6 0] (pc' := 15) (L' := [zR 17 0, zI l1, zI l2, zI l3]) (S' := [zI (σ 1 0 0), zI l3]) (σ' := σ) (Ps := []) (by decide +kernel) rfl trivial ?_
  refine r_icmp_ge (off := 39) (tgt := 54) (by decide +kernel) (by decide) (fun c => ?_) (fun c => ?_)
  · replace h := h.1 c
    refine r_blk [qO (.iload_n 1)] (pc' := 55) (L' := [zR 17 0, zI l1, zI l2, zI l3]) (S' := [zI l1]) (σ' := σ) (Ps := []) (by decide +kernel) rfl trivial ?_
    exact r_ret (by decide +kernel) rfl (fun _ => h)
  · replace h := h.2 c
    refine r_blk [qO (.aload_n 0), qF (.getfield 9) 8 2, qO (.iload_n 3), qO .iaload, qO (.iload_n 2)] (pc' := 25) (L' := [zR 17 0, zI l1, zI l2, zI l3]) (S' := [zI l2, zI (σ 18 0 l3.toNat)]) (σ' := σ) (Ps := [0 ≤ l3 ∧ l3 < 10]) (by decide +kernel) rfl ⟨h.1, trivial⟩ ?_
    replace h := h.2
    refine r_icmp_ge (off := 23) (tgt := 48) (by decide +kernel) (by decide) (fun c => ?_) (fun c => ?_)
    · replace h := h.1 c
      refine r_blk [qO (.iinc 3 1), qO (.goto (-44))] (pc' := 7) (L' := [zR 17 0, zI l1, zI l2, zI (l3 + 1)]) (S' := []) (σ' := σ) (Ps := [-2147483648 ≤ l3 + 1 ∧ l3 + 1 ≤ 2147483647]) (by decide +kernel) rfl ⟨h.1, trivial⟩ ?_
      replace h := h.2
      exact Runs.fg (fgE (fgE (fgE (fgE fg0)))) h
    · replace h := h.2 c
      refine r_blk [qO (.aload_n 0), qF (.getfield 30) 8 3, qO (.iload_n 3)] (pc' := 33) (L' := [zR 17 0, zI l1, zI l2, zI l3]) (S' := [zI l3, zI (σ 17 0 3)]) (σ' := σ) (Ps := []) (by decide +kernel) rfl trivial ?_
      refine r_callNI (As := [zI (σ 17 0 3), zI l3]) (S := []) (Lc := [zI (σ 17 0 3), zI l3]) (d' := 0) (n := 2) kX10_bitOf vX10_bitOf lkX8_47 (by decide +kernel) (by decide) rfl rfl (Nat.le_of_ble_eq_true rfl) rfl rfl (Nat.le_of_ble_eq_true rfl) (pX10_bitOf  ?_)
      refine r_if_ne (off := 12) (tgt := 48) (by decide +kernel) (by decide) (fun c => ?_) (fun c => ?_)
      · replace h := h.1 c
        refine r_blk [qO (.iinc 3 1), qO (.goto (-44))] (pc' := 7) (L' := [zR 17 0, zI l1, zI l2, zI (l3 + 1)]) (S' := []) (σ' := σ) (Ps := [-2147483648 ≤ l3 + 1 ∧ l3 + 1 ≤ 2147483647]) (by decide +kernel) rfl ⟨h.1, trivial⟩ ?_
        replace h := h.2
        exact Runs.fg (fgE (fgE (fgE (fgE fg0)))) h
      · replace h := h.2 c
        refine r_blk [qO (.iload_n 3), qO (.istore_n 1), qO (.aload_n 0), qF (.getfield 9) 8 2, qO (.iload_n 3), qO .iaload, qO (.istore_n 2), qO (.iinc 3 1), qO (.goto (-44))] (pc' := 7) (L' := [zR 17 0, zI l3, zI (σ 18 0 l3.toNat), zI (l3 + 1)]) (S' := []) (σ' := σ) (Ps := [0 ≤ l3 ∧ l3 < 10, -2147483648 ≤ l3 + 1 ∧ l3 + 1 ≤ 2147483647]) (by decide +kernel) rfl ⟨h.1, h.2.1, trivial⟩ ?_
        replace h := h.2.2
        exact Runs.fg (fgE (fgE (fgE (fgE fg0)))) h
theorem gX8_goOnFrom_0 (a0 : Int) (σ : Hp) {Q : Option Int → Hp → Prop} (h : (0 ≤ a0 ∧ a0 < 10) ∧ (0 ≤ σ 16 0 2 ∧ σ 16 0 2 ≤ 1439) ∧ (10 ≤ σ 16 0 3 ∧ σ 16 0 3 ≤ 720) ∧ (0 ≤ (σ 18 0 a0.toNat) ∧ (σ 18 0 a0.toNat) ≤ 1000000) ∧ ∀ σ1 : Hp, σ1 = tStand σ (σ 18 0 a0.toNat) → Runs 2 mX8_goOnFrom 15 [zR 17 0, zI a0, zI 0] [] σ1 Q) : Runs 2 mX8_goOnFrom 0 [zR 17 0, zI a0, zU] [] σ Q := by
  refine r_blk [qO (.aload_n 0), qF (.getfield 19) 8 1, qO (.aload_n 0), qF (.getfield 9) 8 2, qO (.iload_n 1), qO .iaload] (pc' := 10) (L' := [zR 17 0, zI a0, zU]) (S' := [zI (σ 18 0 a0.toNat), zR 16 0]) (σ' := σ) (Ps := [0 ≤ a0 ∧ a0 < 10]) (by decide +kernel) rfl ⟨h.1, trivial⟩ ?_
  replace h := h.2
  refine r_callVV (As := [zI (σ 18 0 a0.toNat)]) (S := []) (Lc := [zR 16 0, zI (σ 18 0 a0.toNat), zU, zU]) (d' := 0) (n := 1) (g := 16) (x := 0) (ci := 7) kX7_standAt vX7_standAt lkX8_51 (by decide +kernel) (by decide) rfl rfl (by decide) rfl rfl (Nat.le_of_ble_eq_true rfl) rfl rfl (Nat.le_of_ble_eq_true rfl) (pX7_standAt h.1 h.2.1 h.2.2.1 ?_)
  replace h := h.2.2.2
  generalize hσ1 : tStand σ (σ 18 0 a0.toNat) = σ1
  replace h := h σ1 hσ1.symm
  refine r_blk [qO (.iconst 0), qO (.istore_n 2)] (pc' := 15) (L' := [zR 17 0, zI a0, zI 0]) (S' := []) (σ' := σ1) (Ps := []) (by decide +kernel) rfl trivial ?_
  exact Runs.fg (fgE (fgE (fgE fg0))) h
theorem gX8_goOnFrom_15 (l1 : Int) (l2 : Int) (σ : Hp) {Q : Option Int → Hp → Prop} (h : ((σ 1 0 1 ≤ l2 → Q none σ) ∧ (¬ σ 1 0 1 ≤ l2 → (0 ≤ l2 ∧ l2 < 14) ∧ ((¬ σ 2 0 l2.toNat = l1 → (0 ≤ l2 ∧ l2 < 14) ∧ ((¬ σ 3 0 l2.toNat = l1 → (-2147483648 ≤ l2 + 1 ∧ l2 + 1 ≤ 2147483647) ∧ Runs 2 mX8_goOnFrom 15 [zR 17 0, zI l1, zI (l2 + 1)] [] σ Q) ∧ (σ 3 0 l2.toNat = l1 → (0 ≤ l2 ∧ l2 < 14) ∧ (0 ≤ l2 ∧ l2 < 14) ∧ (0 ≤ (σ 2 0 l2.toNat) ∧ (σ 2 0 l2.toNat) < 10) ∧ (-9 ≤ (tEnt σ l2 1) ∧ (tEnt σ l2 1) ≤ 1000000) ∧ (0 ≤ σ 4 0 (l2).toNat ∧ σ 4 0 (l2).toNat ≤ 60) ∧ ∀ σ1 : Hp, σ1 = tAlong σ l2 (σ 2 0 l2.toNat) (tEnt σ l2 1) → (-2147483648 ≤ l2 + 1 ∧ l2 + 1 ≤ 2147483647) ∧ Runs 2 mX8_goOnFrom 15 [zR 17 0, zI l1, zI (l2 + 1)] [] σ1 Q))) ∧ (σ 2 0 l2.toNat = l1 → (0 ≤ l2 ∧ l2 < 14) ∧ (0 ≤ l2 ∧ l2 < 14) ∧ (0 ≤ (σ 3 0 l2.toNat) ∧ (σ 3 0 l2.toNat) < 10) ∧ (-9 ≤ (tEnt σ l2 0) ∧ (tEnt σ l2 0) ≤ 1000000) ∧ (0 ≤ σ 4 0 (l2).toNat ∧ σ 4 0 (l2).toNat ≤ 60) ∧ ∀ σ2 : Hp, σ2 = tAlong σ l2 (σ 3 0 l2.toNat) (tEnt σ l2 0) → (-2147483648 ≤ l2 + 1 ∧ l2 + 1 ≤ 2147483647) ∧ Runs 2 mX8_goOnFrom 15 [zR 17 0, zI l1, zI (l2 + 1)] [] σ2 Q))))) : Runs 2 mX8_goOnFrom 15 [zR 17 0, zI l1, zI l2] [] σ Q := by
  refine r_blk [qO (.iload_n 2), qO (.aload_n 0), qF (.getfield 15) 8 0, qF (.getfield 56) 6 1] (pc' := 23) (L' := [zR 17 0, zI l1, zI l2]) (S' := [zI (σ 1 0 1), zI l2]) (σ' := σ) (Ps := []) (by decide +kernel) rfl trivial ?_
  refine r_icmp_ge (off := 84) (tgt := 107) (by decide +kernel) (by decide) (fun c => ?_) (fun c => ?_)
  · replace h := h.1 c
    exact r_retv (by decide +kernel) rfl h
  · replace h := h.2 c
    refine r_blk [qO (.aload_n 0), qF (.getfield 15) 8 0, qF (.getfield 59) 6 7, qO (.iload_n 2), qO .iaload, qO (.iload_n 1)] (pc' := 36) (L' := [zR 17 0, zI l1, zI l2]) (S' := [zI l1, zI (σ 2 0 l2.toNat)]) (σ' := σ) (Ps := [0 ≤ l2 ∧ l2 < 14]) (by decide +kernel) rfl ⟨h.1, trivial⟩ ?_
    replace h := h.2
    refine r_icmp_ne (off := 29) (tgt := 65) (by decide +kernel) (by decide) (fun c => ?_) (fun c => ?_)
    · replace h := h.1 c
      refine r_blk [qO (.aload_n 0), qF (.getfield 15) 8 0, qF (.getfield 62) 6 8, qO (.iload_n 2), qO .iaload, qO (.iload_n 1)] (pc' := 75) (L' := [zR 17 0, zI l1, zI l2]) (S' := [zI l1, zI (σ 3 0 l2.toNat)]) (σ' := σ) (Ps := [0 ≤ l2 ∧ l2 < 14]) (by decide +kernel) rfl ⟨h.1, trivial⟩ ?_
      replace h := h.2
      refine r_icmp_ne (off := 26) (tgt := 101) (by decide +kernel) (by decide) (fun c => ?_) (fun c => ?_)
      · replace h := h.1 c
        refine r_blk [qO (.iinc 2 1), qO (.goto (-89))] (pc' := 15) (L' := [zR 17 0, zI l1, zI (l2 + 1)]) (S' := []) (σ' := σ) (Ps := [-2147483648 ≤ l2 + 1 ∧ l2 + 1 ≤ 2147483647]) (by decide +kernel) rfl ⟨h.1, trivial⟩ ?_
        replace h := h.2
        exact Runs.fg (fgE (fgE (fgE fg0))) h
      · replace h := h.2 c
        refine r_blk [qO (.aload_n 0), qO (.iload_n 2), qO (.aload_n 0), qF (.getfield 15) 8 0, qF (.getfield 59) 6 7, qO (.iload_n 2), qO .iaload, qO (.aload_n 0), qF (.getfield 19) 8 1, qO (.iload_n 2), qO (.iconst 1)] (pc' := 95) (L' := [zR 17 0, zI l1, zI l2]) (S' := [zI 1, zI l2, zR 16 0, zI (σ 2 0 l2.toNat), zI l2, zR 17 0]) (σ' := σ) (Ps := [0 ≤ l2 ∧ l2 < 14]) (by decide +kernel) rfl ⟨h.1, trivial⟩ ?_
        replace h := h.2
        refine r_callVI (As := [zI l2, zI 1]) (S := [zI (σ 2 0 l2.toNat), zI l2, zR 17 0]) (Lc := [zR 16 0, zI l2, zI 1]) (d' := 0) (n := 2) (g := 16) (x := 0) (ci := 7) kX7_entryOf vX7_entryOf lkX8_65 (by decide +kernel) (by decide) rfl rfl (by decide) rfl rfl (Nat.le_of_ble_eq_true rfl) rfl rfl (Nat.le_of_ble_eq_true rfl) (pX7_entryOf  ?_)
        refine r_callVV (As := [zI l2, zI (σ 2 0 l2.toNat), zI (tEnt σ l2 1)]) (S := []) (Lc := [zR 17 0, zI l2, zI (σ 2 0 l2.toNat), zI (tEnt σ l2 1)]) (d' := 1) (n := 3) (g := 17) (x := 0) (ci := 8) kX8_goAlong vX8_goAlong lkX8_68 (by decide +kernel) (by decide) rfl rfl (by decide) rfl rfl (Nat.le_of_ble_eq_true rfl) rfl rfl (Nat.le_of_ble_eq_true rfl) (pX8_goAlongB h.1 h.2.1 h.2.2.1 h.2.2.2.1 ?_)
        replace h := h.2.2.2.2
        generalize hσ1 : tAlong σ l2 (σ 2 0 l2.toNat) (tEnt σ l2 1) = σ1
        replace h := h σ1 hσ1.symm
        refine r_blk [qO (.iinc 2 1), qO (.goto (-89))] (pc' := 15) (L' := [zR 17 0, zI l1, zI (l2 + 1)]) (S' := []) (σ' := σ1) (Ps := [-2147483648 ≤ l2 + 1 ∧ l2 + 1 ≤ 2147483647]) (by decide +kernel) rfl ⟨h.1, trivial⟩ ?_
        replace h := h.2
        exact Runs.fg (fgE (fgE (fgE fg0))) h
    · replace h := h.2 c
      refine r_blk [qO (.aload_n 0), qO (.iload_n 2), qO (.aload_n 0), qF (.getfield 15) 8 0, qF (.getfield 62) 6 8, qO (.iload_n 2), qO .iaload, qO (.aload_n 0), qF (.getfield 19) 8 1, qO (.iload_n 2), qO (.iconst 0)] (pc' := 56) (L' := [zR 17 0, zI l1, zI l2]) (S' := [zI 0, zI l2, zR 16 0, zI (σ 3 0 l2.toNat), zI l2, zR 17 0]) (σ' := σ) (Ps := [0 ≤ l2 ∧ l2 < 14]) (by decide +kernel) rfl ⟨h.1, trivial⟩ ?_
      replace h := h.2
      refine r_callVI (As := [zI l2, zI 0]) (S := [zI (σ 3 0 l2.toNat), zI l2, zR 17 0]) (Lc := [zR 16 0, zI l2, zI 0]) (d' := 0) (n := 2) (g := 16) (x := 0) (ci := 7) kX7_entryOf vX7_entryOf lkX8_65 (by decide +kernel) (by decide) rfl rfl (by decide) rfl rfl (Nat.le_of_ble_eq_true rfl) rfl rfl (Nat.le_of_ble_eq_true rfl) (pX7_entryOf  ?_)
      refine r_callVV (As := [zI l2, zI (σ 3 0 l2.toNat), zI (tEnt σ l2 0)]) (S := []) (Lc := [zR 17 0, zI l2, zI (σ 3 0 l2.toNat), zI (tEnt σ l2 0)]) (d' := 1) (n := 3) (g := 17) (x := 0) (ci := 8) kX8_goAlong vX8_goAlong lkX8_68 (by decide +kernel) (by decide) rfl rfl (by decide) rfl rfl (Nat.le_of_ble_eq_true rfl) rfl rfl (Nat.le_of_ble_eq_true rfl) (pX8_goAlongB h.1 h.2.1 h.2.2.1 h.2.2.2.1 ?_)
      replace h := h.2.2.2.2
      generalize hσ2 : tAlong σ l2 (σ 3 0 l2.toNat) (tEnt σ l2 0) = σ2
      replace h := h σ2 hσ2.symm
      refine r_blk [qO (.goto 39), qO (.iinc 2 1), qO (.goto (-89))] (pc' := 15) (L' := [zR 17 0, zI l1, zI (l2 + 1)]) (S' := []) (σ' := σ2) (Ps := [-2147483648 ≤ l2 + 1 ∧ l2 + 1 ≤ 2147483647]) (by decide +kernel) rfl ⟨h.1, trivial⟩ ?_
      replace h := h.2
      exact Runs.fg (fgE (fgE (fgE fg0))) h
theorem gX8_setOut_0 (a0 : Int) (a1 : Int) (a2 : Int) (σ : Hp) {Q : Option Int → Hp → Prop} (h : Runs 0 mJ7_fill_53178 0 [zR 18 0, zI 1000000, zU, zU] [] σ (rV (fun σ1 => (0 ≤ a0 ∧ a0 < 10) ∧ Runs 3 mX8_setOut 24 [zR 17 0, zU, zI a1, zU, zI 0, zU] [] (zup (zup σ1 18 0 a0.toNat a2) 17 0 3 0) Q))) : Runs 3 mX8_setOut 0 [zR 17 0, zI a0, zI a1, zI a2, zU, zU] [] σ Q := by
  refine r_blk [qO (.aload_n 0), qF (.getfield 9) 8 2, qC (.ldc 23) 1000000] (pc' := 6) (L' := [zR 17 0, zI a0, zI a1, zI a2, zU, zU]) (S' := [zI 1000000, zR 18 0]) (σ' := σ) (Ps := []) (by decide +kernel) rfl trivial ?_
  refine r_callSV (As := [zR 18 0, zI 1000000]) (S := []) (Lc := [zR 18 0, zI 1000000, zU, zU]) (d' := 0) (n := 2) kJ7_fill_53178 vJ7_fill_53178 lkX8_24 (by decide +kernel) (by decide) rfl rfl (Nat.le_of_ble_eq_true rfl) rfl rfl (Nat.le_of_ble_eq_true rfl) (h.monoV (fun σ1 h => ?_))
  refine r_blk [qO (.aload_n 0), qF (.getfield 9) 8 2, qO (.iload_n 1), qO (.iload_n 3), qO .iastore, qO (.aload_n 0), qO (.iconst 0), qF (.putfield 30) 8 3, qO (.iconst 0), qO (.istore 4)] (pc' := 24) (L' := [zR 17 0, zI a0, zI a1, zI a2, zI 0, zU]) (S' := []) (σ' := (zup (zup σ1 18 0 a0.toNat a2) 17 0 3 0)) (Ps := [0 ≤ a0 ∧ a0 < 10]) (by decide +kernel) rfl ⟨h.1, trivial⟩ ?_
  replace h := h.2
  exact Runs.fg (fgE (fgU (fgE (fgU (fgE (fgU fg0)))))) h
theorem gX8_setOut_24 (l2 : Int) (l4 : Int) (σ : Hp) {Q : Option Int → Hp → Prop} (h : ((σ 1 0 0 ≤ l4 → Q none σ) ∧ (¬ σ 1 0 0 ≤ l4 → Runs 1 mX8_soonestUnsettled 0 [zR 17 0, zU, zU, zU] [] σ (rI (fun z2 σ1 => ((z2 = (-1) → Q none σ1) ∧ (¬ z2 = (-1) → ((¬ z2 = l2 → Runs 2 mX8_goOnFrom 0 [zR 17 0, zI z2, zU] [] (zup σ1 17 0 3 (zor (σ1 17 0 3) (zshl 1 z2))) (rV (fun σ3 => (-2147483648 ≤ l4 + 1 ∧ l4 + 1 ≤ 2147483647) ∧ Runs 3 mX8_setOut 24 [zR 17 0, zU, zI l2, zU, zI (l4 + 1), zU] [] σ3 Q))) ∧ (z2 = l2 → Q none σ1))))))))) : Runs 3 mX8_setOut 24 [zR 17 0, zU, zI l2, zU, zI l4, zU] [] σ Q := by
  refine r_blk [qO (.iload 4), qO (.aload_n 0), qF (.getfield 15) 8 0, qF (.getfield 34) 6 0] (pc' := 33) (L' := [zR 17 0, zU, zI l2, zU, zI l4, zU]) (S' := [zI (σ 1 0 0), zI l4]) (σ' := σ) (Ps := []) (by decide +kernel) rfl trivial ?_
  refine r_icmp_ge (off := 47) (tgt := 80) (by decide +kernel) (by decide) (fun c => ?_) (fun c => ?_)
  · replace h := h.1 c
    exact r_retv (by decide +kernel) rfl h
  · replace h := h.2 c
    refine r_blk [qO (.aload_n 0)] (pc' := 37) (L' := [zR 17 0, zU, zI l2, zU, zI l4, zU]) (S' := [zR 17 0]) (σ' := σ) (Ps := []) (by decide +kernel) rfl trivial ?_
    refine r_callVI (As := []) (S := []) (Lc := [zR 17 0, zU, zU, zU]) (d' := 1) (n := 0) (g := 17) (x := 0) (ci := 8) kX8_soonestUnsettled vX8_soonestUnsettled lkX8_39 (by decide +kernel) (by decide) rfl rfl (by decide) rfl rfl (Nat.le_of_ble_eq_true rfl) rfl rfl (Nat.le_of_ble_eq_true rfl) (h.monoI (fun z2 σ1 h => ?_))
    refine r_blk [qO (.istore 5), qO (.iload 5), qO (.iconst (-1))] (pc' := 45) (L' := [zR 17 0, zU, zI l2, zU, zI l4, zI z2]) (S' := [zI (-1), zI z2]) (σ' := σ1) (Ps := []) (by decide +kernel) rfl trivial ?_
    refine r_icmp_eq (off := 9) (tgt := 54) (by decide +kernel) (by decide) (fun c => ?_) (fun c => ?_)
    · replace h := h.1 c
      exact r_retv (by decide +kernel) rfl h
    · replace h := h.2 c
      refine r_blk [qO (.iload 5), qO (.iload_n 2)] (pc' := 51) (L' := [zR 17 0, zU, zI l2, zU, zI l4, zI z2]) (S' := [zI l2, zI z2]) (σ' := σ1) (Ps := []) (by decide +kernel) rfl trivial ?_
      refine r_icmp_ne (off := 4) (tgt := 55) (by decide +kernel) (by decide) (fun c => ?_) (fun c => ?_)
      · replace h := h.1 c
        refine r_blk [qO (.aload_n 0), qO .dup, qF (.getfield 30) 8 3, qO (.iconst 1), qO (.iload 5), qO .ishl, qO .ior, qF (.putfield 30) 8 3, qO (.aload_n 0), qO (.iload 5)] (pc' := 71) (L' := [zR 17 0, zU, zI l2, zU, zI l4, zI z2]) (S' := [zI z2, zR 17 0]) (σ' := (zup σ1 17 0 3 (zor (σ1 17 0 3) (zshl 1 z2)))) (Ps := []) (by decide +kernel) rfl trivial ?_
        refine r_callVV (As := [zI z2]) (S := []) (Lc := [zR 17 0, zI z2, zU]) (d' := 2) (n := 1) (g := 17) (x := 0) (ci := 8) kX8_goOnFrom vX8_goOnFrom lkX8_43 (by decide +kernel) (by decide) rfl rfl (by decide) rfl rfl (Nat.le_of_ble_eq_true rfl) rfl rfl (Nat.le_of_ble_eq_true rfl) (h.monoV (fun σ3 h => ?_))
        refine r_blk [qO (.iinc 4 1), qO (.goto (-53))] (pc' := 24) (L' := [zR 17 0, zU, zI l2, zU, zI (l4 + 1), zI z2]) (S' := []) (σ' := σ3) (Ps := [-2147483648 ≤ l4 + 1 ∧ l4 + 1 ≤ 2147483647]) (by decide +kernel) rfl ⟨h.1, trivial⟩ ?_
        replace h := h.2
        exact Runs.fg (fgE (fgU (fgE (fgU (fgE (fgU fg0)))))) h
      · replace h := h.2 c
        exact r_retv (by decide +kernel) rfl h
