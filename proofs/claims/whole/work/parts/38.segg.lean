theorem gX11_keepsMusts_0 (a0 : Int) (σ : Hp) {Q : Option Int → Hp → Prop} (h : Runs 1 mX11_keepsMusts 2 [zR 34 0, zI a0, zI 0] [] σ Q) : Runs 1 mX11_keepsMusts 0 [zR 34 0, zI a0, zU] [] σ Q := by
  refine r_blk [qO (.iconst 0), qO (.istore_n 2)] (pc' := 2) (L' := [zR 34 0, zI a0, zI 0]) (S' := []) (σ' := σ) (Ps := []) (by decide +kernel) rfl trivial ?_
  exact Runs.fg (fgE (fgE (fgE fg0))) h
theorem gX11_keepsMusts_2 (l1 : Int) (l2 : Int) (σ : Hp) {Q : Option Int → Hp → Prop} (h : ((σ 36 0 1 ≤ l2 → Q (some 1) σ) ∧ (¬ σ 36 0 1 ≤ l2 → (0 ≤ l2 ∧ l2 < 14) ∧ ((2 ≤ sg (σ 36 0) l2 4 → (-2147483648 ≤ l2 + 1 ∧ l2 + 1 ≤ 2147483647) ∧ Runs 1 mX11_keepsMusts 2 [zR 34 0, zI l1, zI (l2 + 1)] [] σ Q) ∧ (¬ 2 ≤ sg (σ 36 0) l2 4 → (0 ≤ l2 ∧ l2 < 14) ∧ ((bitz l1 l2 = sg (σ 36 0) l2 4 → (-2147483648 ≤ l2 + 1 ∧ l2 + 1 ≤ 2147483647) ∧ Runs 1 mX11_keepsMusts 2 [zR 34 0, zI l1, zI (l2 + 1)] [] σ Q) ∧ (¬ bitz l1 l2 = sg (σ 36 0) l2 4 → Q (some 0) σ))))))) : Runs 1 mX11_keepsMusts 2 [zR 34 0, zI l1, zI l2] [] σ Q := by
  refine r_blk [qO (.iload_n 2), qO (.aload_n 0), qF (.getfield 13) 11 1, qO (.iconst 1), qO .iaload] (pc' := 9) (L' := [zR 34 0, zI l1, zI l2]) (S' := [zI (σ 36 0 1), zI l2]) (σ' := σ) (Ps := [0 ≤ 1 ∧ 1 < 123]) (by decide +kernel) rfl ⟨(by decide), trivial⟩ ?_
  refine r_icmp_ge (off := 35) (tgt := 44) (by decide +kernel) (by decide) (fun c => ?_) (fun c => ?_)
  · replace h := h.1 c
    refine r_blk [qO (.iconst 1)] (pc' := 45) (L' := [zR 34 0, zI l1, zI l2]) (S' := [zI 1]) (σ' := σ) (Ps := []) (by decide +kernel) rfl trivial ?_
    exact r_retz (by decide +kernel) rfl (by decide) h
  · replace h := h.2 c
    refine r_blk [qO (.aload_n 0), qO (.iload_n 2), qO (.iconst 4)] (pc' := 15) (L' := [zR 34 0, zI l1, zI l2]) (S' := [zI 4, zI l2, zR 34 0]) (σ' := σ) (Ps := []) (by decide +kernel) rfl trivial ?_
    refine r_callVI (As := [zI l2, zI 4]) (S := []) (Lc := [zR 34 0, zI l2, zI 4]) (d' := 0) (n := 2) (g := 34) (x := 0) (ci := 11) kX11_get vX11_get lkX11_106 (by decide +kernel) (by decide) rfl rfl (by decide) rfl rfl (Nat.le_of_ble_eq_true rfl) rfl rfl (Nat.le_of_ble_eq_true rfl) (pX11_get h.1 (by decide) ?_)
    replace h := h.2
    refine r_blk [qO (.iconst 2)] (pc' := 19) (L' := [zR 34 0, zI l1, zI l2]) (S' := [zI 2, zI (sg (σ 36 0) l2 4)]) (σ' := σ) (Ps := []) (by decide +kernel) rfl trivial ?_
    refine r_icmp_ge (off := 19) (tgt := 38) (by decide +kernel) (by decide) (fun c => ?_) (fun c => ?_)
    · replace h := h.1 c
      refine r_blk [qO (.iinc 2 1), qO (.goto (-39))] (pc' := 2) (L' := [zR 34 0, zI l1, zI (l2 + 1)]) (S' := []) (σ' := σ) (Ps := [-2147483648 ≤ l2 + 1 ∧ l2 + 1 ≤ 2147483647]) (by decide +kernel) rfl ⟨h.1, trivial⟩ ?_
      replace h := h.2
      exact Runs.fg (fgE (fgE (fgE fg0))) h
    · replace h := h.2 c
      refine r_blk [qO (.iload_n 1), qO (.iload_n 2), qO .ishr, qO (.iconst 1), qO .iand, qO (.aload_n 0), qO (.iload_n 2), qO (.iconst 4)] (pc' := 30) (L' := [zR 34 0, zI l1, zI l2]) (S' := [zI 4, zI l2, zR 34 0, zI (bitz l1 l2)]) (σ' := σ) (Ps := []) (by decide +kernel) rfl trivial ?_
      refine r_callVI (As := [zI l2, zI 4]) (S := [zI (bitz l1 l2)]) (Lc := [zR 34 0, zI l2, zI 4]) (d' := 0) (n := 2) (g := 34) (x := 0) (ci := 11) kX11_get vX11_get lkX11_106 (by decide +kernel) (by decide) rfl rfl (by decide) rfl rfl (Nat.le_of_ble_eq_true rfl) rfl rfl (Nat.le_of_ble_eq_true rfl) (pX11_get h.1 (by decide) ?_)
      replace h := h.2
      refine r_icmp_eq (off := 5) (tgt := 38) (by decide +kernel) (by decide) (fun c => ?_) (fun c => ?_)
      · replace h := h.1 c
        refine r_blk [qO (.iinc 2 1), qO (.goto (-39))] (pc' := 2) (L' := [zR 34 0, zI l1, zI (l2 + 1)]) (S' := []) (σ' := σ) (Ps := [-2147483648 ≤ l2 + 1 ∧ l2 + 1 ≤ 2147483647]) (by decide +kernel) rfl ⟨h.1, trivial⟩ ?_
        replace h := h.2
        exact Runs.fg (fgE (fgE (fgE fg0))) h
      · replace h := h.2 c
        refine r_blk [qO (.iconst 0)] (pc' := 37) (L' := [zR 34 0, zI l1, zI l2]) (S' := [zI 0]) (σ' := σ) (Ps := []) (by decide +kernel) rfl trivial ?_
        exact r_retz (by decide +kernel) rfl (by decide) h
theorem gX6_firstMustUnkept_0 (a0 : Int) (t : Nat) (σ : Hp) {Q : Option Int → Hp → Prop} (h : Runs 1 mX6_firstMustUnkept 2 [zR 1 t, zI a0, zI 0] [] σ Q) : Runs 1 mX6_firstMustUnkept 0 [zR 1 t, zI a0, zU] [] σ Q := by
  refine r_blk [qO (.iconst 0), qO (.istore_n 2)] (pc' := 2) (L' := [zR 1 t, zI a0, zI 0]) (S' := []) (σ' := σ) (Ps := []) (by decide +kernel) rfl trivial ?_
  exact Runs.fg (fgE (fgE (fgE fg0))) h
theorem gX6_firstMustUnkept_2 (l1 : Int) (l2 : Int) (t : Nat) (σ : Hp) {Q : Option Int → Hp → Prop} (h : ((σ 1 t 1 ≤ l2 → Q (some (-1)) σ) ∧ (¬ σ 1 t 1 ≤ l2 → (0 ≤ l2 ∧ l2 < 14) ∧ ((σ 5 t (l2).toNat = 2 ∨ σ 5 t (l2).toNat = (bitz l1 l2) → (-2147483648 ≤ l2 + 1 ∧ l2 + 1 ≤ 2147483647) ∧ Runs 1 mX6_firstMustUnkept 2 [zR 1 t, zI l1, zI (l2 + 1)] [] σ Q) ∧ (¬ (σ 5 t (l2).toNat = 2 ∨ σ 5 t (l2).toNat = (bitz l1 l2)) → Q (some l2) σ))))) : Runs 1 mX6_firstMustUnkept 2 [zR 1 t, zI l1, zI l2] [] σ Q := by
  refine r_blk [qO (.iload_n 2), qO (.aload_n 0), qF (.getfield 46) 6 1] (pc' := 7) (L' := [zR 1 t, zI l1, zI l2]) (S' := [zI (σ 1 t 1), zI l2]) (σ' := σ) (Ps := []) (by decide +kernel) rfl trivial ?_
  refine r_icmp_ge (off := 24) (tgt := 31) (by decide +kernel) (by decide) (fun c => ?_) (fun c => ?_)
  · replace h := h.1 c
    refine r_blk [qO (.iconst (-1))] (pc' := 32) (L' := [zR 1 t, zI l1, zI l2]) (S' := [zI (-1)]) (σ' := σ) (Ps := []) (by decide +kernel) rfl trivial ?_
    exact r_ret (by decide +kernel) rfl (fun _ => h)
  · replace h := h.2 c
    refine r_blk [qO (.aload_n 0), qO (.iload_n 2), qO (.iload_n 1), qO (.iload_n 2)] (pc' := 14) (L' := [zR 1 t, zI l1, zI l2]) (S' := [zI l2, zI l1, zI l2, zR 1 t]) (σ' := σ) (Ps := []) (by decide +kernel) rfl trivial ?_
    refine r_callNI (As := [zI l1, zI l2]) (S := [zI l2, zR 1 t]) (Lc := [zI l1, zI l2]) (d' := 0) (n := 2) kX10_bitOf vX10_bitOf lkX6_91 (by decide +kernel) (by decide) rfl rfl (Nat.le_of_ble_eq_true rfl) rfl rfl (Nat.le_of_ble_eq_true rfl) (pX10_bitOf  ?_)
    refine r_callVI (As := [zI l2, zI (bitz l1 l2)]) (S := []) (Lc := [zR 1 t, zI l2, zI (bitz l1 l2)]) (d' := 0) (n := 2) (g := 1) (x := t) (ci := 6) kX6_mustLets vX6_mustLets lkX6_94 (by decide +kernel) (by decide) rfl rfl (by decide) rfl rfl (Nat.le_of_ble_eq_true rfl) rfl rfl (Nat.le_of_ble_eq_true rfl) (pX6_mustLets h.1 (fun c => ?_) (fun c => ?_))
    all_goals replace h := h.2
    · replace h := h.1 c
      refine r_if_ne (off := 5) (tgt := 25) (by decide +kernel) (by decide) (fun c => ?_) (fun c => ?_)
      · refine r_blk [qO (.iinc 2 1), qO (.goto (-26))] (pc' := 2) (L' := [zR 1 t, zI l1, zI (l2 + 1)]) (S' := []) (σ' := σ) (Ps := [-2147483648 ≤ l2 + 1 ∧ l2 + 1 ≤ 2147483647]) (by decide +kernel) rfl ⟨h.1, trivial⟩ ?_
        replace h := h.2
        exact Runs.fg (fgE (fgE (fgE fg0))) h
      · exact absurd c (by decide)
    · replace h := h.2 c
      refine r_if_ne (off := 5) (tgt := 25) (by decide +kernel) (by decide) (fun c => ?_) (fun c => ?_)
      · exact absurd c (by decide)
      · refine r_blk [qO (.iload_n 2)] (pc' := 24) (L' := [zR 1 t, zI l1, zI l2]) (S' := [zI l2]) (σ' := σ) (Ps := []) (by decide +kernel) rfl trivial ?_
        exact r_ret (by decide +kernel) rfl (fun _ => h)
theorem gX11_bestOf_0 (a0 : Int) (σ : Hp) {Q : Option Int → Hp → Prop} (h : Runs 6 mX11_bestOf 16 [zR 34 0, zI a0, zI (σ 36 0 3), zI (-9), zI 0, zI 0, zU] [] σ Q) : Runs 6 mX11_bestOf 0 [zR 34 0, zI a0, zU, zU, zU, zU, zU] [] σ Q := by
  refine r_blk [qO (.aload_n 0), qF (.getfield 13) 11 1, qO (.iconst 3), qO .iaload, qO (.istore_n 2), qO (.bipush (-9)), qO (.istore_n 3), qO (.iconst 0), qO (.istore 4), qO (.iconst 0), qO (.istore 5)] (pc' := 16) (L' := [zR 34 0, zI a0, zI (σ 36 0 3), zI (-9), zI 0, zI 0, zU]) (S' := []) (σ' := σ) (Ps := [0 ≤ 3 ∧ 3 < 123]) (by decide +kernel) rfl ⟨(by decide), trivial⟩ ?_
  exact Runs.fg (fgE (fgE (fgE (fgE (fgE (fgE (fgU fg0))))))) h
theorem gX11_bestOf_16 (l1 : Int) (l2 : Int) (l3 : Int) (l4 : Int) (l5 : Int) (σ : Hp) {Q : Option Int → Hp → Prop} (h : ((zshl 1 (σ 36 0 1) ≤ l5 → Q (some l3) (zup σ 36 0 3 l2)) ∧ (¬ zshl 1 (σ 36 0 1) ≤ l5 → Runs 1 mX11_keepsMusts 0 [zR 34 0, zI l5, zU] [] σ (rI (fun z2 σ1 => ((¬ z2 = 0 → ((l1 = 0 → Runs 5 mX11_costOf 0 [zR 34 0, zU, zU, zU] [] (zup σ1 36 0 3 l5) (rI (fun z4 σ3 => ((z4 < 0 → (-2147483648 ≤ l5 + 1 ∧ l5 + 1 ≤ 2147483647) ∧ Runs 6 mX11_bestOf 16 [zR 34 0, zI l1, zI l2, zI l3, zI l4, zI (l5 + 1), zU] [] σ3 Q) ∧ (¬ z4 < 0 → ((l3 < 0 → (-2147483648 ≤ l5 + 1 ∧ l5 + 1 ≤ 2147483647) ∧ Runs 6 mX11_bestOf 16 [zR 34 0, zI l1, zI l2, zI l5, zI z4, zI (l5 + 1), zU] [] σ3 Q) ∧ (¬ l3 < 0 → ((z4 < l4 → (-2147483648 ≤ l5 + 1 ∧ l5 + 1 ≤ 2147483647) ∧ Runs 6 mX11_bestOf 16 [zR 34 0, zI l1, zI l2, zI l5, zI z4, zI (l5 + 1), zU] [] σ3 Q) ∧ (¬ z4 < l4 → (-2147483648 ≤ l5 + 1 ∧ l5 + 1 ≤ 2147483647) ∧ Runs 6 mX11_bestOf 16 [zR 34 0, zI l1, zI l2, zI l3, zI l4, zI (l5 + 1), zU] [] σ3 Q))))))))) ∧ (¬ l1 = 0 → Runs 5 mX11_longestAt 0 [zR 34 0, zI 0, zU, zU, zU] [] (zup σ1 36 0 3 l5) (rI (fun z6 σ5 => ((z6 < 0 → (-2147483648 ≤ l5 + 1 ∧ l5 + 1 ≤ 2147483647) ∧ Runs 6 mX11_bestOf 16 [zR 34 0, zI l1, zI l2, zI l3, zI l4, zI (l5 + 1), zU] [] σ5 Q) ∧ (¬ z6 < 0 → ((l3 < 0 → (-2147483648 ≤ l5 + 1 ∧ l5 + 1 ≤ 2147483647) ∧ Runs 6 mX11_bestOf 16 [zR 34 0, zI l1, zI l2, zI l5, zI z6, zI (l5 + 1), zU] [] σ5 Q) ∧ (¬ l3 < 0 → ((z6 < l4 → (-2147483648 ≤ l5 + 1 ∧ l5 + 1 ≤ 2147483647) ∧ Runs 6 mX11_bestOf 16 [zR 34 0, zI l1, zI l2, zI l5, zI z6, zI (l5 + 1), zU] [] σ5 Q) ∧ (¬ z6 < l4 → (-2147483648 ≤ l5 + 1 ∧ l5 + 1 ≤ 2147483647) ∧ Runs 6 mX11_bestOf 16 [zR 34 0, zI l1, zI l2, zI l3, zI l4, zI (l5 + 1), zU] [] σ5 Q))))))))))) ∧ (z2 = 0 → (-2147483648 ≤ l5 + 1 ∧ l5 + 1 ≤ 2147483647) ∧ Runs 6 mX11_bestOf 16 [zR 34 0, zI l1, zI l2, zI l3, zI l4, zI (l5 + 1), zU] [] σ1 Q))))))) : Runs 6 mX11_bestOf 16 [zR 34 0, zI l1, zI l2, zI l3, zI l4, zI l5, zU] [] σ Q := by
  refine r_blk [qO (.iload 5), qO (.iconst 1), qO (.aload_n 0), qF (.getfield 13) 11 1, qO (.iconst 1), qO .iaload, qO .ishl] (pc' := 26) (L' := [zR 34 0, zI l1, zI l2, zI l3, zI l4, zI l5, zU]) (S' := [zI (zshl 1 (σ 36 0 1)), zI l5]) (σ' := σ) (Ps := [0 ≤ 1 ∧ 1 < 123]) (by decide +kernel) rfl ⟨(by decide), trivial⟩ ?_
  refine r_icmp_ge (off := 73) (tgt := 99) (by decide +kernel) (by decide) (fun c => ?_) (fun c => ?_)
  · replace h := h.1 c
    refine r_blk [qO (.aload_n 0), qF (.getfield 13) 11 1, qO (.iconst 3), qO (.iload_n 2), qO .iastore, qO (.iload_n 3)] (pc' := 107) (L' := [zR 34 0, zI l1, zI l2, zI l3, zI l4, zI l5, zU]) (S' := [zI l3]) (σ' := (zup σ 36 0 3 l2)) (Ps := [0 ≤ 3 ∧ 3 < 123]) (by decide +kernel) rfl ⟨(by decide), trivial⟩ ?_
    exact r_ret (by decide +kernel) rfl (fun _ => h)
  · replace h := h.2 c
    refine r_blk [qO (.aload_n 0), qO (.iload 5)] (pc' := 32) (L' := [zR 34 0, zI l1, zI l2, zI l3, zI l4, zI l5, zU]) (S' := [zI l5, zR 34 0]) (σ' := σ) (Ps := []) (by decide +kernel) rfl trivial ?_
    refine r_callVI (As := [zI l5]) (S := []) (Lc := [zR 34 0, zI l5, zU]) (d' := 1) (n := 1) (g := 34) (x := 0) (ci := 11) kX11_keepsMusts vX11_keepsMusts lkX11_190 (by decide +kernel) (by decide) rfl rfl (by decide) rfl rfl (Nat.le_of_ble_eq_true rfl) rfl rfl (Nat.le_of_ble_eq_true rfl) (h.monoI (fun z2 σ1 h => ?_))
    refine r_if_ne (off := 6) (tgt := 41) (by decide +kernel) (by decide) (fun c => ?_) (fun c => ?_)
    · replace h := h.1 c
      refine r_blk [qO (.aload_n 0), qF (.getfield 13) 11 1, qO (.iconst 3), qO (.iload 5), qO .iastore, qO (.iload_n 1)] (pc' := 50) (L' := [zR 34 0, zI l1, zI l2, zI l3, zI l4, zI l5, zU]) (S' := [zI l1]) (σ' := (zup σ1 36 0 3 l5)) (Ps := [0 ≤ 3 ∧ 3 < 123]) (by decide +kernel) rfl ⟨(by decide), trivial⟩ ?_
      refine r_if_eq (off := 11) (tgt := 61) (by decide +kernel) (by decide) (fun c => ?_) (fun c => ?_)
      · replace h := h.1 c
        refine r_blk [qO (.aload_n 0)] (pc' := 62) (L' := [zR 34 0, zI l1, zI l2, zI l3, zI l4, zI l5, zU]) (S' := [zR 34 0]) (σ' := (zup σ1 36 0 3 l5)) (Ps := []) (by decide +kernel) rfl trivial ?_
        refine r_callVI (As := []) (S := []) (Lc := [zR 34 0, zU, zU, zU]) (d' := 5) (n := 0) (g := 34) (x := 0) (ci := 11) kX11_costOf vX11_costOf lkX11_187 (by decide +kernel) (by decide) rfl rfl (by decide) rfl rfl (Nat.le_of_ble_eq_true rfl) rfl rfl (Nat.le_of_ble_eq_true rfl) (h.monoI (fun z4 σ3 h => ?_))
        refine r_blk [qO (.istore 6), qO (.iload 6)] (pc' := 69) (L' := [zR 34 0, zI l1, zI l2, zI l3, zI l4, zI l5, zI z4]) (S' := [zI z4]) (σ' := σ3) (Ps := []) (by decide +kernel) rfl trivial ?_
        refine r_if_lt (off := 24) (tgt := 93) (by decide +kernel) (by decide) (fun c => ?_) (fun c => ?_)
        · replace h := h.1 c
          refine r_blk [qO (.iinc 5 1), qO (.goto (-80))] (pc' := 16) (L' := [zR 34 0, zI l1, zI l2, zI l3, zI l4, zI (l5 + 1), zI z4]) (S' := []) (σ' := σ3) (Ps := [-2147483648 ≤ l5 + 1 ∧ l5 + 1 ≤ 2147483647]) (by decide +kernel) rfl ⟨h.1, trivial⟩ ?_
          replace h := h.2
          exact Runs.fg (fgE (fgE (fgE (fgE (fgE (fgE (fgU fg0))))))) h
        · replace h := h.2 c
          refine r_blk [qO (.iload_n 3)] (pc' := 73) (L' := [zR 34 0, zI l1, zI l2, zI l3, zI l4, zI l5, zI z4]) (S' := [zI l3]) (σ' := σ3) (Ps := []) (by decide +kernel) rfl trivial ?_
          refine r_if_lt (off := 13) (tgt := 86) (by decide +kernel) (by decide) (fun c => ?_) (fun c => ?_)
          · replace h := h.1 c
            refine r_blk [qO (.iload 5), qO (.istore_n 3), qO (.iload 6), qO (.istore 4), qO (.iinc 5 1), qO (.goto (-80))] (pc' := 16) (L' := [zR 34 0, zI l1, zI l2, zI l5, zI z4, zI (l5 + 1), zI z4]) (S' := []) (σ' := σ3) (Ps := [-2147483648 ≤ l5 + 1 ∧ l5 + 1 ≤ 2147483647]) (by decide +kernel) rfl ⟨h.1, trivial⟩ ?_
            replace h := h.2
            exact Runs.fg (fgE (fgE (fgE (fgE (fgE (fgE (fgU fg0))))))) h
          · replace h := h.2 c
            refine r_blk [qO (.iload 6), qO (.iload 4)] (pc' := 80) (L' := [zR 34 0, zI l1, zI l2, zI l3, zI l4, zI l5, zI z4]) (S' := [zI l4, zI z4]) (σ' := σ3) (Ps := []) (by decide +kernel) rfl trivial ?_
            refine r_icmp_lt (off := 6) (tgt := 86) (by decide +kernel) (by decide) (fun c => ?_) (fun c => ?_)
            · replace h := h.1 c
              refine r_blk [qO (.iload 5), qO (.istore_n 3), qO (.iload 6), qO (.istore 4), qO (.iinc 5 1), qO (.goto (-80))] (pc' := 16) (L' := [zR 34 0, zI l1, zI l2, zI l5, zI z4, zI (l5 + 1), zI z4]) (S' := []) (σ' := σ3) (Ps := [-2147483648 ≤ l5 + 1 ∧ l5 + 1 ≤ 2147483647]) (by decide +kernel) rfl ⟨h.1, trivial⟩ ?_
              replace h := h.2
              exact Runs.fg (fgE (fgE (fgE (fgE (fgE (fgE (fgU fg0))))))) h
            · replace h := h.2 c
              refine r_blk [qO (.goto 10), qO (.iinc 5 1), qO (.goto (-80))] (pc' := 16) (L' := [zR 34 0, zI l1, zI l2, zI l3, zI l4, zI (l5 + 1), zI z4]) (S' := []) (σ' := σ3) (Ps := [-2147483648 ≤ l5 + 1 ∧ l5 + 1 ≤ 2147483647]) (by decide +kernel) rfl ⟨h.1, trivial⟩ ?_
              replace h := h.2
              exact Runs.fg (fgE (fgE (fgE (fgE (fgE (fgE (fgU fg0))))))) h
      · replace h := h.2 c
        refine r_blk [qO (.aload_n 0), qO (.iconst 0)] (pc' := 55) (L' := [zR 34 0, zI l1, zI l2, zI l3, zI l4, zI l5, zU]) (S' := [zI 0, zR 34 0]) (σ' := (zup σ1 36 0 3 l5)) (Ps := []) (by decide +kernel) rfl trivial ?_
        refine r_callVI (As := [zI 0]) (S := []) (Lc := [zR 34 0, zI 0, zU, zU, zU]) (d' := 5) (n := 1) (g := 34) (x := 0) (ci := 11) kX11_longestAt vX11_longestAt lkX11_163 (by decide +kernel) (by decide) rfl rfl (by decide) rfl rfl (Nat.le_of_ble_eq_true rfl) rfl rfl (Nat.le_of_ble_eq_true rfl) (h.monoI (fun z6 σ5 h => ?_))
        refine r_blk [qO (.goto 7), qO (.istore 6), qO (.iload 6)] (pc' := 69) (L' := [zR 34 0, zI l1, zI l2, zI l3, zI l4, zI l5, zI z6]) (S' := [zI z6]) (σ' := σ5) (Ps := []) (by decide +kernel) rfl trivial ?_
        refine r_if_lt (off := 24) (tgt := 93) (by decide +kernel) (by decide) (fun c => ?_) (fun c => ?_)
        · replace h := h.1 c
          refine r_blk [qO (.iinc 5 1), qO (.goto (-80))] (pc' := 16) (L' := [zR 34 0, zI l1, zI l2, zI l3, zI l4, zI (l5 + 1), zI z6]) (S' := []) (σ' := σ5) (Ps := [-2147483648 ≤ l5 + 1 ∧ l5 + 1 ≤ 2147483647]) (by decide +kernel) rfl ⟨h.1, trivial⟩ ?_
          replace h := h.2
          exact Runs.fg (fgE (fgE (fgE (fgE (fgE (fgE (fgU fg0))))))) h
        · replace h := h.2 c
          refine r_blk [qO (.iload_n 3)] (pc' := 73) (L' := [zR 34 0, zI l1, zI l2, zI l3, zI l4, zI l5, zI z6]) (S' := [zI l3]) (σ' := σ5) (Ps := []) (by decide +kernel) rfl trivial ?_
          refine r_if_lt (off := 13) (tgt := 86) (by decide +kernel) (by decide) (fun c => ?_) (fun c => ?_)
          · replace h := h.1 c
            refine r_blk [qO (.iload 5), qO (.istore_n 3), qO (.iload 6), qO (.istore 4), qO (.iinc 5 1), qO (.goto (-80))] (pc' := 16) (L' := [zR 34 0, zI l1, zI l2, zI l5, zI z6, zI (l5 + 1), zI z6]) (S' := []) (σ' := σ5) (Ps := [-2147483648 ≤ l5 + 1 ∧ l5 + 1 ≤ 2147483647]) (by decide +kernel) rfl ⟨h.1, trivial⟩ ?_
            replace h := h.2
            exact Runs.fg (fgE (fgE (fgE (fgE (fgE (fgE (fgU fg0))))))) h
          · replace h := h.2 c
            refine r_blk [qO (.iload 6), qO (.iload 4)] (pc' := 80) (L' := [zR 34 0, zI l1, zI l2, zI l3, zI l4, zI l5, zI z6]) (S' := [zI l4, zI z6]) (σ' := σ5) (Ps := []) (by decide +kernel) rfl trivial ?_
            refine r_icmp_lt (off := 6) (tgt := 86) (by decide +kernel) (by decide) (fun c => ?_) (fun c => ?_)
            · replace h := h.1 c
              refine r_blk [qO (.iload 5), qO (.istore_n 3), qO (.iload 6), qO (.istore 4), qO (.iinc 5 1), qO (.goto (-80))] (pc' := 16) (L' := [zR 34 0, zI l1, zI l2, zI l5, zI z6, zI (l5 + 1), zI z6]) (S' := []) (σ' := σ5) (Ps := [-2147483648 ≤ l5 + 1 ∧ l5 + 1 ≤ 2147483647]) (by decide +kernel) rfl ⟨h.1, trivial⟩ ?_
              replace h := h.2
              exact Runs.fg (fgE (fgE (fgE (fgE (fgE (fgE (fgU fg0))))))) h
            · replace h := h.2 c
              refine r_blk [qO (.goto 10), qO (.iinc 5 1), qO (.goto (-80))] (pc' := 16) (L' := [zR 34 0, zI l1, zI l2, zI l3, zI l4, zI (l5 + 1), zI z6]) (S' := []) (σ' := σ5) (Ps := [-2147483648 ≤ l5 + 1 ∧ l5 + 1 ≤ 2147483647]) (by decide +kernel) rfl ⟨h.1, trivial⟩ ?_
              replace h := h.2
              exact Runs.fg (fgE (fgE (fgE (fgE (fgE (fgE (fgU fg0))))))) h
    · replace h := h.2 c
      refine r_blk [qO (.goto 55), qO (.iinc 5 1), qO (.goto (-80))] (pc' := 16) (L' := [zR 34 0, zI l1, zI l2, zI l3, zI l4, zI (l5 + 1), zU]) (S' := []) (σ' := σ1) (Ps := [-2147483648 ≤ l5 + 1 ∧ l5 + 1 ≤ 2147483647]) (by decide +kernel) rfl ⟨h.1, trivial⟩ ?_
      replace h := h.2
      exact Runs.fg (fgE (fgE (fgE (fgE (fgE (fgE (fgU fg0))))))) h
theorem gX9_cheapestPointing_0 (σ : Hp) {Q : Option Int → Hp → Prop} (h : Runs 6 mX9_cheapestPointing 8 [zR 26 0, zI (-9), zI 1000000, zI 0, zU] [] σ Q) : Runs 6 mX9_cheapestPointing 0 [zR 26 0, zU, zU, zU, zU] [] σ Q := by
  refine r_blk [qO (.bipush (-9)), qO (.istore_n 1), qC (.ldc 31) 1000000, qO (.istore_n 2), qO (.iconst 0), qO (.istore_n 3)] (pc' := 8) (L' := [zR 26 0, zI (-9), zI 1000000, zI 0, zU]) (S' := []) (σ' := σ) (Ps := []) (by decide +kernel) rfl trivial ?_
  exact Runs.fg (fgE (fgE (fgE (fgE (fgU fg0))))) h
theorem gX9_cheapestPointing_8 (l1 : Int) (l2 : Int) (l3 : Int) (σ : Hp) {Q : Option Int → Hp → Prop} (h : ((zshl 1 (σ 1 0 1) ≤ l3 → Q (some l1) σ) ∧ (¬ zshl 1 (σ 1 0 1) ≤ l3 → Runs 1 mX6_firstMustUnkept 0 [zR 1 0, zI l3, zU] [] σ (rI (fun z2 σ1 => ((z2 = (-1) → ∀ σ3 : Hp, σ3 = zup σ1 16 0 4 (tBits σ1 l3) → Runs 5 mX1_totalUpTo 0 [zR 25 0, zI l2, zU, zU] [] σ3 (rI (fun z5 σ4 => ((l2 ≤ z5 → (-2147483648 ≤ l3 + 1 ∧ l3 + 1 ≤ 2147483647) ∧ Runs 6 mX9_cheapestPointing 8 [zR 26 0, zI l1, zI l2, zI (l3 + 1), zU] [] σ4 Q) ∧ (¬ l2 ≤ z5 → (-2147483648 ≤ l3 + 1 ∧ l3 + 1 ≤ 2147483647) ∧ Runs 6 mX9_cheapestPointing 8 [zR 26 0, zI l3, zI z5, zI (l3 + 1), zU] [] σ4 Q))))) ∧ (¬ z2 = (-1) → (-2147483648 ≤ l3 + 1 ∧ l3 + 1 ≤ 2147483647) ∧ Runs 6 mX9_cheapestPointing 8 [zR 26 0, zI l1, zI l2, zI (l3 + 1), zU] [] σ1 Q))))))) : Runs 6 mX9_cheapestPointing 8 [zR 26 0, zI l1, zI l2, zI l3, zU] [] σ Q := by
  refine r_blk [qO (.iload_n 3), qO (.iconst 1), qO (.aload_n 0), qF (.getfield 9) 9 0, qF (.getfield 32) 6 1, qO .ishl] (pc' := 18) (L' := [zR 26 0, zI l1, zI l2, zI l3, zU]) (S' := [zI (zshl 1 (σ 1 0 1)), zI l3]) (σ' := σ) (Ps := []) (by decide +kernel) rfl trivial ?_
  refine r_icmp_ge (off := 53) (tgt := 71) (by decide +kernel) (by decide) (fun c => ?_) (fun c => ?_)
  · replace h := h.1 c
    refine r_blk [qO (.iload_n 1)] (pc' := 72) (L' := [zR 26 0, zI l1, zI l2, zI l3, zU]) (S' := [zI l1]) (σ' := σ) (Ps := []) (by decide +kernel) rfl trivial ?_
    exact r_ret (by decide +kernel) rfl (fun _ => h)
  · replace h := h.2 c
    refine r_blk [qO (.aload_n 0), qF (.getfield 9) 9 0, qO (.iload_n 3)] (pc' := 26) (L' := [zR 26 0, zI l1, zI l2, zI l3, zU]) (S' := [zI l3, zR 1 0]) (σ' := σ) (Ps := []) (by decide +kernel) rfl trivial ?_
    refine r_callVI (As := [zI l3]) (S := []) (Lc := [zR 1 0, zI l3, zU]) (d' := 1) (n := 1) (g := 1) (x := 0) (ci := 6) kX6_firstMustUnkept vX6_firstMustUnkept lkX9_38 (by decide +kernel) (by decide) rfl rfl (by decide) rfl rfl (Nat.le_of_ble_eq_true rfl) rfl rfl (Nat.le_of_ble_eq_true rfl) (h.monoI (fun z2 σ1 h => ?_))
    refine r_blk [qO (.iconst (-1))] (pc' := 30) (L' := [zR 26 0, zI l1, zI l2, zI l3, zU]) (S' := [zI (-1), zI z2]) (σ' := σ1) (Ps := []) (by decide +kernel) rfl trivial ?_
    refine r_icmp_eq (off := 6) (tgt := 36) (by decide +kernel) (by decide) (fun c => ?_) (fun c => ?_)
    · replace h := h.1 c
      refine r_blk [qO (.aload_n 0), qF (.getfield 15) 9 1, qO (.iload_n 3)] (pc' := 41) (L' := [zR 26 0, zI l1, zI l2, zI l3, zU]) (S' := [zI l3, zR 16 0]) (σ' := σ1) (Ps := []) (by decide +kernel) rfl trivial ?_
      refine r_callVV (As := [zI l3]) (S := []) (Lc := [zR 16 0, zI l3, zU]) (d' := 0) (n := 1) (g := 16) (x := 0) (ci := 7) kX7_pointAs vX7_pointAs lkX9_42 (by decide +kernel) (by decide) rfl rfl (by decide) rfl rfl (Nat.le_of_ble_eq_true rfl) rfl rfl (Nat.le_of_ble_eq_true rfl) (pX7_pointAs  ?_)
      generalize hσ3 : zup σ1 16 0 4 (tBits σ1 l3) = σ3
      replace h := h σ3 hσ3.symm
      refine r_blk [qO (.aload_n 0), qF (.getfield 27) 9 4, qO (.iload_n 2)] (pc' := 49) (L' := [zR 26 0, zI l1, zI l2, zI l3, zU]) (S' := [zI l2, zR 25 0]) (σ' := σ3) (Ps := []) (by decide +kernel) rfl trivial ?_
      refine r_callVI (As := [zI l2]) (S := []) (Lc := [zR 25 0, zI l2, zU, zU]) (d' := 5) (n := 1) (g := 25) (x := 0) (ci := 1) kX1_totalUpTo vX1_totalUpTo lkX9_48 (by decide +kernel) (by decide) rfl rfl (by decide) rfl rfl (Nat.le_of_ble_eq_true rfl) rfl rfl (Nat.le_of_ble_eq_true rfl) (h.monoI (fun z5 σ4 h => ?_))
      refine r_blk [qO (.istore 4), qO (.iload 4), qO (.iload_n 2)] (pc' := 57) (L' := [zR 26 0, zI l1, zI l2, zI l3, zI z5]) (S' := [zI l2, zI z5]) (σ' := σ4) (Ps := []) (by decide +kernel) rfl trivial ?_
      refine r_icmp_ge (off := 8) (tgt := 65) (by decide +kernel) (by decide) (fun c => ?_) (fun c => ?_)
      · replace h := h.1 c
        refine r_blk [qO (.iinc 3 1), qO (.goto (-60))] (pc' := 8) (L' := [zR 26 0, zI l1, zI l2, zI (l3 + 1), zI z5]) (S' := []) (σ' := σ4) (Ps := [-2147483648 ≤ l3 + 1 ∧ l3 + 1 ≤ 2147483647]) (by decide +kernel) rfl ⟨h.1, trivial⟩ ?_
        replace h := h.2
        exact Runs.fg (fgE (fgE (fgE (fgE (fgU fg0))))) h
      · replace h := h.2 c
        refine r_blk [qO (.iload 4), qO (.istore_n 2), qO (.iload_n 3), qO (.istore_n 1), qO (.iinc 3 1), qO (.goto (-60))] (pc' := 8) (L' := [zR 26 0, zI l3, zI z5, zI (l3 + 1), zI z5]) (S' := []) (σ' := σ4) (Ps := [-2147483648 ≤ l3 + 1 ∧ l3 + 1 ≤ 2147483647]) (by decide +kernel) rfl ⟨h.1, trivial⟩ ?_
        replace h := h.2
        exact Runs.fg (fgE (fgE (fgE (fgE (fgU fg0))))) h
    · replace h := h.2 c
      refine r_blk [qO (.goto 32), qO (.iinc 3 1), qO (.goto (-60))] (pc' := 8) (L' := [zR 26 0, zI l1, zI l2, zI (l3 + 1), zU]) (S' := []) (σ' := σ1) (Ps := [-2147483648 ≤ l3 + 1 ∧ l3 + 1 ≤ 2147483647]) (by decide +kernel) rfl ⟨h.1, trivial⟩ ?_
      replace h := h.2
      exact Runs.fg (fgE (fgE (fgE (fgE (fgU fg0))))) h
theorem gX11_bestNoon_0 (σ : Hp) {Q : Option Int → Hp → Prop} (h : Runs 6 mX11_bestNoon 16 [zR 34 0, zI (σ 36 0 7), zI (-9), zI 0, zI 0, zU] [] σ Q) : Runs 6 mX11_bestNoon 0 [zR 34 0, zU, zU, zU, zU, zU] [] σ Q := by
  refine r_blk [qO (.aload_n 0), qF (.getfield 13) 11 1, qO (.bipush 7), qO .iaload, qO (.istore_n 1), qO (.bipush (-9)), qO (.istore_n 2), qO (.iconst 0), qO (.istore_n 3), qO (.iconst 0), qO (.istore 4)] (pc' := 16) (L' := [zR 34 0, zI (σ 36 0 7), zI (-9), zI 0, zI 0, zU]) (S' := []) (σ' := σ) (Ps := [0 ≤ 7 ∧ 7 < 123]) (by decide +kernel) rfl ⟨(by decide), trivial⟩ ?_
  exact Runs.fg (fgE (fgE (fgE (fgE (fgE (fgU fg0)))))) h
theorem gX11_bestNoon_16 (l1 : Int) (l2 : Int) (l3 : Int) (l4 : Int) (σ : Hp) {Q : Option Int → Hp → Prop} (h : ((1380 < l4 → Q (some l2) (zup σ 36 0 7 l1)) ∧ (¬ 1380 < l4 → Runs 5 mX11_costOf 0 [zR 34 0, zU, zU, zU] [] (zup σ 36 0 7 l4) (rI (fun z2 σ1 => ((l2 < 0 → (-2147483648 ≤ l4 + 60 ∧ l4 + 60 ≤ 2147483647) ∧ Runs 6 mX11_bestNoon 16 [zR 34 0, zI l1, zI l4, zI z2, zI (l4 + 60), zU] [] σ1 Q) ∧ (¬ l2 < 0 → ((z2 < l3 → (-2147483648 ≤ l4 + 60 ∧ l4 + 60 ≤ 2147483647) ∧ Runs 6 mX11_bestNoon 16 [zR 34 0, zI l1, zI l4, zI z2, zI (l4 + 60), zU] [] σ1 Q) ∧ (¬ z2 < l3 → (-2147483648 ≤ l4 + 60 ∧ l4 + 60 ≤ 2147483647) ∧ Runs 6 mX11_bestNoon 16 [zR 34 0, zI l1, zI l2, zI l3, zI (l4 + 60), zU] [] σ1 Q))))))))) : Runs 6 mX11_bestNoon 16 [zR 34 0, zI l1, zI l2, zI l3, zI l4, zU] [] σ Q := by
  refine r_blk [qO (.iload 4), qO (.sipush 1380)] (pc' := 21) (L' := [zR 34 0, zI l1, zI l2, zI l3, zI l4, zU]) (S' := [zI 1380, zI l4]) (σ' := σ) (Ps := []) (by decide +kernel) rfl trivial ?_
  refine r_icmp_gt (off := 43) (tgt := 64) (by decide +kernel) (by decide) (fun c => ?_) (fun c => ?_)
  · replace h := h.1 c
    refine r_blk [qO (.aload_n 0), qF (.getfield 13) 11 1, qO (.bipush 7), qO (.iload_n 1), qO .iastore, qO (.iload_n 2)] (pc' := 73) (L' := [zR 34 0, zI l1, zI l2, zI l3, zI l4, zU]) (S' := [zI l2]) (σ' := (zup σ 36 0 7 l1)) (Ps := [0 ≤ 7 ∧ 7 < 123]) (by decide +kernel) rfl ⟨(by decide), trivial⟩ ?_
    exact r_ret (by decide +kernel) rfl (fun _ => h)
  · replace h := h.2 c
    refine r_blk [qO (.aload_n 0), qF (.getfield 13) 11 1, qO (.bipush 7), qO (.iload 4), qO .iastore, qO (.aload_n 0)] (pc' := 34) (L' := [zR 34 0, zI l1, zI l2, zI l3, zI l4, zU]) (S' := [zR 34 0]) (σ' := (zup σ 36 0 7 l4)) (Ps := [0 ≤ 7 ∧ 7 < 123]) (by decide +kernel) rfl ⟨(by decide), trivial⟩ ?_
    refine r_callVI (As := []) (S := []) (Lc := [zR 34 0, zU, zU, zU]) (d' := 5) (n := 0) (g := 34) (x := 0) (ci := 11) kX11_costOf vX11_costOf lkX11_187 (by decide +kernel) (by decide) rfl rfl (by decide) rfl rfl (Nat.le_of_ble_eq_true rfl) rfl rfl (Nat.le_of_ble_eq_true rfl) (h.monoI (fun z2 σ1 h => ?_))
    refine r_blk [qO (.istore 5), qO (.iload_n 2)] (pc' := 40) (L' := [zR 34 0, zI l1, zI l2, zI l3, zI l4, zI z2]) (S' := [zI l2]) (σ' := σ1) (Ps := []) (by decide +kernel) rfl trivial ?_
    refine r_if_lt (off := 12) (tgt := 52) (by decide +kernel) (by decide) (fun c => ?_) (fun c => ?_)
    · replace h := h.1 c
      refine r_blk [qO (.iload 4), qO (.istore_n 2), qO (.iload 5), qO (.istore_n 3), qO (.iinc 4 60), qO (.goto (-45))] (pc' := 16) (L' := [zR 34 0, zI l1, zI l4, zI z2, zI (l4 + 60), zI z2]) (S' := []) (σ' := σ1) (Ps := [-2147483648 ≤ l4 + 60 ∧ l4 + 60 ≤ 2147483647]) (by decide +kernel) rfl ⟨h.1, trivial⟩ ?_
      replace h := h.2
      exact Runs.fg (fgE (fgE (fgE (fgE (fgE (fgU fg0)))))) h
    · replace h := h.2 c
      refine r_blk [qO (.iload 5), qO (.iload_n 3)] (pc' := 46) (L' := [zR 34 0, zI l1, zI l2, zI l3, zI l4, zI z2]) (S' := [zI l3, zI z2]) (σ' := σ1) (Ps := []) (by decide +kernel) rfl trivial ?_
      refine r_icmp_lt (off := 6) (tgt := 52) (by decide +kernel) (by decide) (fun c => ?_) (fun c => ?_)
      · replace h := h.1 c
        refine r_blk [qO (.iload 4), qO (.istore_n 2), qO (.iload 5), qO (.istore_n 3), qO (.iinc 4 60), qO (.goto (-45))] (pc' := 16) (L' := [zR 34 0, zI l1, zI l4, zI z2, zI (l4 + 60), zI z2]) (S' := []) (σ' := σ1) (Ps := [-2147483648 ≤ l4 + 60 ∧ l4 + 60 ≤ 2147483647]) (by decide +kernel) rfl ⟨h.1, trivial⟩ ?_
        replace h := h.2
        exact Runs.fg (fgE (fgE (fgE (fgE (fgE (fgU fg0)))))) h
      · replace h := h.2 c
        refine r_blk [qO (.goto 9), qO (.iinc 4 60), qO (.goto (-45))] (pc' := 16) (L' := [zR 34 0, zI l1, zI l2, zI l3, zI (l4 + 60), zI z2]) (S' := []) (σ' := σ1) (Ps := [-2147483648 ≤ l4 + 60 ∧ l4 + 60 ≤ 2147483647]) (by decide +kernel) rfl ⟨h.1, trivial⟩ ?_
        replace h := h.2
        exact Runs.fg (fgE (fgE (fgE (fgE (fgE (fgU fg0)))))) h
theorem gX9_cheapestNoon_0 (σ : Hp) {Q : Option Int → Hp → Prop} (h : Runs 6 mX9_cheapestNoon 7 [zR 26 0, zI 0, zI 1000000, zI 0, zU] [] σ Q) : Runs 6 mX9_cheapestNoon 0 [zR 26 0, zU, zU, zU, zU] [] σ Q := by
  refine r_blk [qO (.iconst 0), qO (.istore_n 1), qC (.ldc 31) 1000000, qO (.istore_n 2), qO (.iconst 0), qO (.istore_n 3)] (pc' := 7) (L' := [zR 26 0, zI 0, zI 1000000, zI 0, zU]) (S' := []) (σ' := σ) (Ps := []) (by decide +kernel) rfl trivial ?_
  exact Runs.fg (fgE (fgE (fgE (fgE (fgU fg0))))) h
theorem gX9_cheapestNoon_7 (l1 : Int) (l2 : Int) (l3 : Int) (σ : Hp) {Q : Option Int → Hp → Prop} (h : ((1440 ≤ l3 → Q (some l1) σ) ∧ (¬ 1440 ≤ l3 → ∀ σ1 : Hp, σ1 = zup σ 16 0 2 l3 → Runs 5 mX1_totalUpTo 0 [zR 25 0, zI l2, zU, zU] [] σ1 (rI (fun z3 σ2 => ((l2 ≤ z3 → (-2147483648 ≤ l3 + 60 ∧ l3 + 60 ≤ 2147483647) ∧ Runs 6 mX9_cheapestNoon 7 [zR 26 0, zI l1, zI l2, zI (l3 + 60), zU] [] σ2 Q) ∧ (¬ l2 ≤ z3 → (-2147483648 ≤ l3 + 60 ∧ l3 + 60 ≤ 2147483647) ∧ Runs 6 mX9_cheapestNoon 7 [zR 26 0, zI l3, zI z3, zI (l3 + 60), zU] [] σ2 Q))))))) : Runs 6 mX9_cheapestNoon 7 [zR 26 0, zI l1, zI l2, zI l3, zU] [] σ Q := by
  refine r_blk [qO (.iload_n 3), qO (.sipush 1440)] (pc' := 11) (L' := [zR 26 0, zI l1, zI l2, zI l3, zU]) (S' := [zI 1440, zI l3]) (σ' := σ) (Ps := []) (by decide +kernel) rfl trivial ?_
  refine r_icmp_ge (off := 38) (tgt := 49) (by decide +kernel) (by decide) (fun c => ?_) (fun c => ?_)
  · replace h := h.1 c
    refine r_blk [qO (.iload_n 1)] (pc' := 50) (L' := [zR 26 0, zI l1, zI l2, zI l3, zU]) (S' := [zI l1]) (σ' := σ) (Ps := []) (by decide +kernel) rfl trivial ?_
    exact r_ret (by decide +kernel) rfl (fun _ => h)
  · replace h := h.2 c
    refine r_blk [qO (.aload_n 0), qF (.getfield 15) 9 1, qO (.iload_n 3)] (pc' := 19) (L' := [zR 26 0, zI l1, zI l2, zI l3, zU]) (S' := [zI l3, zR 16 0]) (σ' := σ) (Ps := []) (by decide +kernel) rfl trivial ?_
    refine r_callVV (As := [zI l3]) (S := []) (Lc := [zR 16 0, zI l3]) (d' := 0) (n := 1) (g := 16) (x := 0) (ci := 7) kX7_turnAt vX7_turnAt lkX9_108 (by decide +kernel) (by decide) rfl rfl (by decide) rfl rfl (Nat.le_of_ble_eq_true rfl) rfl rfl (Nat.le_of_ble_eq_true rfl) (pX7_turnAt  ?_)
    generalize hσ1 : zup σ 16 0 2 l3 = σ1
    replace h := h σ1 hσ1.symm
    refine r_blk [qO (.aload_n 0), qF (.getfield 27) 9 4, qO (.iload_n 2)] (pc' := 27) (L' := [zR 26 0, zI l1, zI l2, zI l3, zU]) (S' := [zI l2, zR 25 0]) (σ' := σ1) (Ps := []) (by decide +kernel) rfl trivial ?_
    refine r_callVI (As := [zI l2]) (S := []) (Lc := [zR 25 0, zI l2, zU, zU]) (d' := 5) (n := 1) (g := 25) (x := 0) (ci := 1) kX1_totalUpTo vX1_totalUpTo lkX9_48 (by decide +kernel) (by decide) rfl rfl (by decide) rfl rfl (Nat.le_of_ble_eq_true rfl) rfl rfl (Nat.le_of_ble_eq_true rfl) (h.monoI (fun z3 σ2 h => ?_))
    refine r_blk [qO (.istore 4), qO (.iload 4), qO (.iload_n 2)] (pc' := 35) (L' := [zR 26 0, zI l1, zI l2, zI l3, zI z3]) (S' := [zI l2, zI z3]) (σ' := σ2) (Ps := []) (by decide +kernel) rfl trivial ?_
    refine r_icmp_ge (off := 8) (tgt := 43) (by decide +kernel) (by decide) (fun c => ?_) (fun c => ?_)
    · replace h := h.1 c
      refine r_blk [qO (.iinc 3 60), qO (.goto (-39))] (pc' := 7) (L' := [zR 26 0, zI l1, zI l2, zI (l3 + 60), zI z3]) (S' := []) (σ' := σ2) (Ps := [-2147483648 ≤ l3 + 60 ∧ l3 + 60 ≤ 2147483647]) (by decide +kernel) rfl ⟨h.1, trivial⟩ ?_
      replace h := h.2
      exact Runs.fg (fgE (fgE (fgE (fgE (fgU fg0))))) h
    · replace h := h.2 c
      refine r_blk [qO (.iload 4), qO (.istore_n 2), qO (.iload_n 3), qO (.istore_n 1), qO (.iinc 3 60), qO (.goto (-39))] (pc' := 7) (L' := [zR 26 0, zI l3, zI z3, zI (l3 + 60), zI z3]) (S' := []) (σ' := σ2) (Ps := [-2147483648 ≤ l3 + 60 ∧ l3 + 60 ≤ 2147483647]) (by decide +kernel) rfl ⟨h.1, trivial⟩ ?_
      replace h := h.2
      exact Runs.fg (fgE (fgE (fgE (fgE (fgU fg0))))) h
