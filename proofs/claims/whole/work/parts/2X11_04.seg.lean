theorem gX11_cost_0 (σ : Hp) {Q : Option Int → Hp → Prop} (h : Runs 5 mX11_costOf 0 [zR 34 0, zU, zU, zU] [] σ (rI (fun z2 σ1 => Q (some z2) σ1))) : Runs 6 mX11_cost 0 [zR 34 0] [] σ Q := by
  refine r_blk [qO (.aload_n 0)] (pc' := 1) (L' := [zR 34 0]) (S' := [zR 34 0]) (σ' := σ) (Ps := []) (by decide +kernel) rfl trivial ?_
  refine r_callVI (As := []) (S := []) (Lc := [zR 34 0, zU, zU, zU]) (d' := 5) (n := 0) (g := 34) (x := 0) (ci := 11) kX11_costOf vX11_costOf lkX11_187 (by decide +kernel) (by decide) rfl rfl (by decide) rfl rfl (Nat.le_of_ble_eq_true rfl) rfl rfl (Nat.le_of_ble_eq_true rfl) (h.monoI (fun z2 σ1 h => ?_))
  exact r_ret (by decide +kernel) rfl (fun _ => h)
theorem gX11_keepsMusts_0 (a0 : Int) (σ : Hp) {Q : Option Int → Hp → Prop} (h : Runs 1 mX11_keepsMusts 2 [zR 34 0, zI a0, zI 0] [] σ Q) : Runs 1 mX11_keepsMusts 0 [zR 34 0, zI a0, zU] [] σ Q := by
  refine r_blk [qO (.iconst 0), qO (.istore_n 2)] (pc' := 2) (L' := [zR 34 0, zI a0, zI 0]) (S' := []) (σ' := σ) (Ps := []) (by decide +kernel) rfl trivial ?_
  exact Runs.fg (fgE (fgE (fgE fg0))) h
theorem gX11_keepsMusts_2 (l1 : Int) (l2 : Int) (σ : Hp) {Q : Option Int → Hp → Prop} (h : ((σ 36 0 1 ≤ l2 → Q (some 1) σ) ∧ (¬ σ 36 0 1 ≤ l2 → Runs 0 mX11_get 0 [zR 34 0, zI l2, zI 4] [] σ (rI (fun z2 σ1 => ((2 ≤ z2 → (-2147483648 ≤ l2 + 1 ∧ l2 + 1 ≤ 2147483647) ∧ Runs 1 mX11_keepsMusts 2 [zR 34 0, zI l1, zI (l2 + 1)] [] σ1 Q) ∧ (¬ 2 ≤ z2 → Runs 0 mX11_get 0 [zR 34 0, zI l2, zI 4] [] σ1 (rI (fun z4 σ3 => ((bitz l1 l2 = z4 → (-2147483648 ≤ l2 + 1 ∧ l2 + 1 ≤ 2147483647) ∧ Runs 1 mX11_keepsMusts 2 [zR 34 0, zI l1, zI (l2 + 1)] [] σ3 Q) ∧ (¬ bitz l1 l2 = z4 → Q (some 0) σ3))))))))))) : Runs 1 mX11_keepsMusts 2 [zR 34 0, zI l1, zI l2] [] σ Q := by
  refine r_blk [qO (.iload_n 2), qO (.aload_n 0), qF (.getfield 13) 11 1, qO (.iconst 1), qO .iaload] (pc' := 9) (L' := [zR 34 0, zI l1, zI l2]) (S' := [zI (σ 36 0 1), zI l2]) (σ' := σ) (Ps := [0 ≤ 1 ∧ 1 < 123]) (by decide +kernel) rfl ⟨(by decide), trivial⟩ ?_
  refine r_icmp_ge (off := 35) (tgt := 44) (by decide +kernel) (by decide) (fun c => ?_) (fun c => ?_)
  · replace h := h.1 c
    refine r_blk [qO (.iconst 1)] (pc' := 45) (L' := [zR 34 0, zI l1, zI l2]) (S' := [zI 1]) (σ' := σ) (Ps := []) (by decide +kernel) rfl trivial ?_
    exact r_retz (by decide +kernel) rfl (by decide) h
  · replace h := h.2 c
    refine r_blk [qO (.aload_n 0), qO (.iload_n 2), qO (.iconst 4)] (pc' := 15) (L' := [zR 34 0, zI l1, zI l2]) (S' := [zI 4, zI l2, zR 34 0]) (σ' := σ) (Ps := []) (by decide +kernel) rfl trivial ?_
    refine r_callVI (As := [zI l2, zI 4]) (S := []) (Lc := [zR 34 0, zI l2, zI 4]) (d' := 0) (n := 2) (g := 34) (x := 0) (ci := 11) kX11_get vX11_get lkX11_106 (by decide +kernel) (by decide) rfl rfl (by decide) rfl rfl (Nat.le_of_ble_eq_true rfl) rfl rfl (Nat.le_of_ble_eq_true rfl) (h.monoI (fun z2 σ1 h => ?_))
    refine r_blk [qO (.iconst 2)] (pc' := 19) (L' := [zR 34 0, zI l1, zI l2]) (S' := [zI 2, zI z2]) (σ' := σ1) (Ps := []) (by decide +kernel) rfl trivial ?_
    refine r_icmp_ge (off := 19) (tgt := 38) (by decide +kernel) (by decide) (fun c => ?_) (fun c => ?_)
    · replace h := h.1 c
      refine r_blk [qO (.iinc 2 1), qO (.goto (-39))] (pc' := 2) (L' := [zR 34 0, zI l1, zI (l2 + 1)]) (S' := []) (σ' := σ1) (Ps := [-2147483648 ≤ l2 + 1 ∧ l2 + 1 ≤ 2147483647]) (by decide +kernel) rfl ⟨h.1, trivial⟩ ?_
      replace h := h.2
      exact Runs.fg (fgE (fgE (fgE fg0))) h
    · replace h := h.2 c
      refine r_blk [qO (.iload_n 1), qO (.iload_n 2), qO .ishr, qO (.iconst 1), qO .iand, qO (.aload_n 0), qO (.iload_n 2), qO (.iconst 4)] (pc' := 30) (L' := [zR 34 0, zI l1, zI l2]) (S' := [zI 4, zI l2, zR 34 0, zI (bitz l1 l2)]) (σ' := σ1) (Ps := []) (by decide +kernel) rfl trivial ?_
      refine r_callVI (As := [zI l2, zI 4]) (S := [zI (bitz l1 l2)]) (Lc := [zR 34 0, zI l2, zI 4]) (d' := 0) (n := 2) (g := 34) (x := 0) (ci := 11) kX11_get vX11_get lkX11_106 (by decide +kernel) (by decide) rfl rfl (by decide) rfl rfl (Nat.le_of_ble_eq_true rfl) rfl rfl (Nat.le_of_ble_eq_true rfl) (h.monoI (fun z4 σ3 h => ?_))
      refine r_icmp_eq (off := 5) (tgt := 38) (by decide +kernel) (by decide) (fun c => ?_) (fun c => ?_)
      · replace h := h.1 c
        refine r_blk [qO (.iinc 2 1), qO (.goto (-39))] (pc' := 2) (L' := [zR 34 0, zI l1, zI (l2 + 1)]) (S' := []) (σ' := σ3) (Ps := [-2147483648 ≤ l2 + 1 ∧ l2 + 1 ≤ 2147483647]) (by decide +kernel) rfl ⟨h.1, trivial⟩ ?_
        replace h := h.2
        exact Runs.fg (fgE (fgE (fgE fg0))) h
      · replace h := h.2 c
        refine r_blk [qO (.iconst 0)] (pc' := 37) (L' := [zR 34 0, zI l1, zI l2]) (S' := [zI 0]) (σ' := σ3) (Ps := []) (by decide +kernel) rfl trivial ?_
        exact r_retz (by decide +kernel) rfl (by decide) h
theorem gX11_wrongFew_0 (σ : Hp) {Q : Option Int → Hp → Prop} (h : ((σ 36 0 1 ≤ 10 → ((¬ σ 36 0 1 = 0 → Q (some 0) σ) ∧ (σ 36 0 1 = 0 → Q (some (-3)) σ))) ∧ (¬ σ 36 0 1 ≤ 10 → Q (some (-6)) σ))) : Runs 0 mX11_wrongFew 0 [zR 34 0] [] σ Q := by
  refine r_blk [qO (.aload_n 0), qF (.getfield 13) 11 1, qO (.iconst 1), qO .iaload, qO (.bipush 10)] (pc' := 8) (L' := [zR 34 0]) (S' := [zI 10, zI (σ 36 0 1)]) (σ' := σ) (Ps := [0 ≤ 1 ∧ 1 < 123]) (by decide +kernel) rfl ⟨(by decide), trivial⟩ ?_
  refine r_icmp_le (off := 8) (tgt := 16) (by decide +kernel) (by decide) (fun c => ?_) (fun c => ?_)
  · replace h := h.1 c
    refine r_blk [qO (.aload_n 0), qF (.getfield 13) 11 1, qO (.iconst 1), qO .iaload] (pc' := 22) (L' := [zR 34 0]) (S' := [zI (σ 36 0 1)]) (σ' := σ) (Ps := [0 ≤ 1 ∧ 1 < 123]) (by decide +kernel) rfl ⟨(by decide), trivial⟩ ?_
    refine r_if_ne (off := 8) (tgt := 30) (by decide +kernel) (by decide) (fun c => ?_) (fun c => ?_)
    · replace h := h.1 c
      refine r_blk [qO (.iconst 0)] (pc' := 31) (L' := [zR 34 0]) (S' := [zI 0]) (σ' := σ) (Ps := []) (by decide +kernel) rfl trivial ?_
      exact r_ret (by decide +kernel) rfl (fun _ => h)
    · replace h := h.2 c
      refine r_blk [qO (.bipush (-3)), qO (.goto 4)] (pc' := 31) (L' := [zR 34 0]) (S' := [zI (-3)]) (σ' := σ) (Ps := []) (by decide +kernel) rfl trivial ?_
      exact r_ret (by decide +kernel) rfl (fun _ => h)
  · replace h := h.2 c
    refine r_blk [qO (.bipush (-6)), qO (.goto 18)] (pc' := 31) (L' := [zR 34 0]) (S' := [zI (-6)]) (σ' := σ) (Ps := []) (by decide +kernel) rfl trivial ?_
    exact r_ret (by decide +kernel) rfl (fun _ => h)
theorem gX11_bestOf_0 (a0 : Int) (σ : Hp) {Q : Option Int → Hp → Prop} (h : Runs 6 mX11_bestOf 16 [zR 34 0, zI a0, zI (σ 36 0 3), zI (-9), zI 0, zI 0, zU] [] σ Q) : Runs 6 mX11_bestOf 0 [zR 34 0, zI a0, zU, zU, zU, zU, zU] [] σ Q := by
  refine r_blk [qO (.aload_n 0), qF (.getfield 13) 11 1, qO (.iconst 3), qO .iaload, qO (.istore_n 2), qO (.bipush (-9)), qO (.istore_n 3), qO (.iconst 0), qO (.istore 4), qO (.iconst 0), qO (.istore 5)] (pc' := 16) (L' := [zR 34 0, zI a0, zI (σ 36 0 3), zI (-9), zI 0, zI 0, zU]) (S' := []) (σ' := σ) (Ps := [0 ≤ 3 ∧ 3 < 123]) (by decide +kernel) rfl ⟨(by decide), trivial⟩ ?_
  exact Runs.fg (fgE (fgE (fgE (fgE (fgE (fgE (fgU fg0))))))) h
theorem gX11_bestOf_16 (l1 : Int) (l2 : Int) (l3 : Int) (l4 : Int) (l5 : Int) (σ : Hp) {Q : Option Int → Hp → Prop} (h : ((zshl 1 (σ 36 0 1) ≤ l5 → Q (some l3) (zup σ 36 0 3 l2)) ∧ (¬ zshl 1 (σ 36 0 1) ≤ l5 → Runs 1 mX11_keepsMusts 0 [zR 34 0, zI l5, zU] [] σ (rI (fun z2 σ1 => ((¬ z2 = 0 → ((l1 = 0 → Runs 5 mX11_costOf 0 [zR 34 0, zU, zU, zU] [] (zup σ1 36 0 3 l5) (rI (fun z4 σ3 => ((z4 < 0 → (-2147483648 ≤ l5 + 1 ∧ l5 + 1 ≤ 2147483647) ∧ Runs 6 mX11_bestOf 16 [zR 34 0, zI l1, zI l2, zI l3, zI l4, zI (l5 + 1), zU] [] σ3 Q) ∧ (¬ z4 < 0 → ((l3 < 0 → (-2147483648 ≤ l5 + 1 ∧ l5 + 1 ≤ 2147483647) ∧ Runs 6 mX11_bestOf 16 [zR 34 0, zI l1, zI l2, zI l5, zI z4, zI (l5 + 1), zU] [] σ3 Q) ∧ (¬ l3 < 0 → ((z4 < l4 → (-2147483648 ≤ l5 + 1 ∧ l5 + 1 ≤ 2147483647) ∧ Runs 6 mX11_bestOf 16 [zR 34 0, zI l1, zI l2, zI l5, zI z4, zI (l5 + 1), zU] [] σ3 Q) ∧ (¬ z4 < l4 → (-2147483648 ≤ l5 + 1 ∧ l5 + 1 ≤ 2147483647) ∧ Runs 6 mX11_bestOf 16 [zR 34 0, zI l1, zI l2, zI l3, zI l4, zI (l5 + 1), zU] [] σ3 Q))))))))) ∧ (¬ l1 = 0 → Runs 5 mX11_longestAt 0 [zR 34 0, zI 0, zU, zU, zU] [] (zup σ1 36 0 3 l5) (rI (fun z6 σ5 => ((z6 < 0 → (-2147483648 ≤ l5 + 1 ∧ l5 + 1 ≤ 2147483647) ∧ Runs 6 mX11_bestOf 16 [zR 34 0, zI l1, zI l2, zI l3, zI l4, zI (l5 + 1), zU] [] σ5 Q) ∧ (¬ z6 < 0 → ((l3 < 0 → (-2147483648 ≤ l5 + 1 ∧ l5 + 1 ≤ 2147483647) ∧ Runs 6 mX11_bestOf 16 [zR 34 0, zI l1, zI l2, zI l5, zI z6, zI (l5 + 1), zU] [] σ5 Q) ∧ (¬ l3 < 0 → ((z6 < l4 → (-2147483648 ≤ l5 + 1 ∧ l5 + 1 ≤ 2147483647) ∧ Runs 6 mX11_bestOf 16 [zR 34 0, zI l1, zI l2, zI l5, zI z6, zI (l5 + 1), zU] [] σ5 Q) ∧ (¬ z6 < l4 → (-2147483648 ≤ l5 + 1 ∧ l5 + 1 ≤ 2147483647) ∧ Runs 6 mX11_bestOf 16 [zR 34 0, zI l1, zI l2, zI l3, zI l4, zI (l5 + 1), zU] [] σ5 Q))))))))))) ∧ (z2 = 0 → (-2147483648 ≤ l5 + 1 ∧ l5 + 1 ≤ 2147483647) ∧ Runs 6 mX11_bestOf 16 [zR 34 0, zI l1, zI l2, zI l3, zI l4, zI (l5 + 1), zU] [] σ1 Q))))))) : Runs 6 mX11_bestOf 16 [zR 34 0, zI l1, zI l2, zI l3, zI l4, zI l5, zU] [] σ Q := by
  refine r_blk [qO (.iload 5), qO (.iconst 1), qO (.aload_n 0), qF (.getfield 13) 11 1, qO (.iconst 1), qO .iaload, qO .ishl] (pc' := 26) (L' := [zR 34 0, zI l1, zI l2, zI l3, zI l4, zI l5, zU]) (S' := [zI (zshl 1 (σ 36 0 1)), zI l5]) (σ' := σ) (Ps := [0 ≤ 1 ∧ 1 < 123]) (by decide +kernel) rfl ⟨(by decide), trivial⟩ ?_
  refine r_icmp_ge (off := 73) (tgt := 99) (by decide +kernel) (by decide) (fun c => ?_) (fun c => ?_)
  · replace h := h.1 c
    refine r_blk [qO (.aload_n 0), qF (.getfield 13) 11 1, qO (.iconst 3), qO (.iload_n 2), qO .iastore, qO (.iload_n 3)] (pc' := 107) (L' := [zR 34 0, zI l1, zI l2, zI l3, zI l4, zI l5, zU]) (S' := [zI l3]) (σ' := (zup σ 36 0 3 l2)) (Ps := [0 ≤ 3 ∧ 3 < 123]) (by decide +kernel) rfl ⟨(by decide), trivial⟩ ?_
    exact r_ret (by decide +kernel) rfl (fun _ => h)
  · replace h := h.2 c
    refine r_blk [qO (.aload_n 0), qO (.iload 5)] (pc' := 32) (L' := [zR 34 0, zI l1, zI l2, zI l3, zI l4, zI l5, zU]) (S' := [zI l5, zR 34 0]) (σ' := σ) (Ps := []) (by decide +kernel) rfl trivial ?_
    refine r_callVI (As := [zI l5]) (S := []) (Lc := [zR 34 0, zI l5, zU]) (d' := 1) (n := 1) (g := 34) (x := 0) (ci := 11) kX11_keepsMusts vX11_keepsMusts lkX11_190 (by decide +kernel) (by decide) rfl rfl (by decide) rfl rfl (Nat.le_of_ble_eq_true rfl) rfl rfl (Nat.le_of_ble_eq_true rfl) (h.monoI (fun z2 σ1 h => ?_))
    refine r_if_ne (off := 6) (tgt := 41) (by decide +kernel) (by decide) (fun c => ?_) (fun c => ?_)
    · replace h := h.1 c
      refine r_blk [qO (.aload_n 0), qF (.getfield 13) 11 1, qO (.iconst 3), qO (.iload 5), qO .iastore, qO (.iload_n 1)] (pc' := 50) (L' := [zR 34 0, zI l1, zI l2, zI l3, zI l4, zI l5, zU]) (S' := [zI l1]) (σ' := (zup σ1 36 0 3 l5)) (Ps := [0 ≤ 3 ∧ 3 < 123]) (by decide +kernel) rfl ⟨(by decide), trivial⟩ ?_
      refine r_if_eq (off := 11) (tgt := 61) (by decide +kernel) (by decide) (fun c => ?_) (fun c => ?_)
      · replace h := h.1 c
        refine r_blk [qO (.aload_n 0)] (pc' := 62) (L' := [zR 34 0, zI l1, zI l2, zI l3, zI l4, zI l5, zU]) (S' := [zR 34 0]) (σ' := (zup σ1 36 0 3 l5)) (Ps := []) (by decide +kernel) rfl trivial ?_
        refine r_callVI (As := []) (S := []) (Lc := [zR 34 0, zU, zU, zU]) (d' := 5) (n := 0) (g := 34) (x := 0) (ci := 11) kX11_costOf vX11_costOf lkX11_187 (by decide +kernel) (by decide) rfl rfl (by decide) rfl rfl (Nat.le_of_ble_eq_true rfl) rfl rfl (Nat.le_of_ble_eq_true rfl) (h.monoI (fun z4 σ3 h => ?_))
        refine r_blk [qO (.istore 6), qO (.iload 6)] (pc' := 69) (L' := [zR 34 0, zI l1, zI l2, zI l3, zI l4, zI l5, zI z4]) (S' := [zI z4]) (σ' := σ3) (Ps := []) (by decide +kernel) rfl trivial ?_
        refine r_if_lt (off := 24) (tgt := 93) (by decide +kernel) (by decide) (fun c => ?_) (fun c => ?_)
        · replace h := h.1 c
          refine r_blk [qO (.iinc 5 1), qO (.goto (-80))] (pc' := 16) (L' := [zR 34 0, zI l1, zI l2, zI l3, zI l4, zI (l5 + 1), zI z4]) (S' := []) (σ' := σ3) (Ps := [-2147483648 ≤ l5 + 1 ∧ l5 + 1 ≤ 2147483647]) (by decide +kernel) rfl ⟨h.1, trivial⟩ ?_
          replace h := h.2
          exact Runs.fg (fgE (fgE (fgE (fgE (fgE (fgE (fgU fg0))))))) h
        · replace h := h.2 c
          refine r_blk [qO (.iload_n 3)] (pc' := 73) (L' := [zR 34 0, zI l1, zI l2, zI l3, zI l4, zI l5, zI z4]) (S' := [zI l3]) (σ' := σ3) (Ps := []) (by decide +kernel) rfl trivial ?_
          refine r_if_lt (off := 13) (tgt := 86) (by decide +kernel) (by decide) (fun c => ?_) (fun c => ?_)
          · replace h := h.1 c
            refine r_blk [qO (.iload 5), qO (.istore_n 3), qO (.iload 6), qO (.istore 4), qO (.iinc 5 1), qO (.goto (-80))] (pc' := 16) (L' := [zR 34 0, zI l1, zI l2, zI l5, zI z4, zI (l5 + 1), zI z4]) (S' := []) (σ' := σ3) (Ps := [-2147483648 ≤ l5 + 1 ∧ l5 + 1 ≤ 2147483647]) (by decide +kernel) rfl ⟨h.1, trivial⟩ ?_
            replace h := h.2
            exact Runs.fg (fgE (fgE (fgE (fgE (fgE (fgE (fgU fg0))))))) h
          · replace h := h.2 c
            refine r_blk [qO (.iload 6), qO (.iload 4)] (pc' := 80) (L' := [zR 34 0, zI l1, zI l2, zI l3, zI l4, zI l5, zI z4]) (S' := [zI l4, zI z4]) (σ' := σ3) (Ps := []) (by decide +kernel) rfl trivial ?_
            refine r_icmp_lt (off := 6) (tgt := 86) (by decide +kernel) (by decide) (fun c => ?_) (fun c => ?_)
            · replace h := h.1 c
              refine r_blk [qO (.iload 5), qO (.istore_n 3), qO (.iload 6), qO (.istore 4), qO (.iinc 5 1), qO (.goto (-80))] (pc' := 16) (L' := [zR 34 0, zI l1, zI l2, zI l5, zI z4, zI (l5 + 1), zI z4]) (S' := []) (σ' := σ3) (Ps := [-2147483648 ≤ l5 + 1 ∧ l5 + 1 ≤ 2147483647]) (by decide +kernel) rfl ⟨h.1, trivial⟩ ?_
              replace h := h.2
              exact Runs.fg (fgE (fgE (fgE (fgE (fgE (fgE (fgU fg0))))))) h
            · replace h := h.2 c
              refine r_blk [qO (.goto 10), qO (.iinc 5 1), qO (.goto (-80))] (pc' := 16) (L' := [zR 34 0, zI l1, zI l2, zI l3, zI l4, zI (l5 + 1), zI z4]) (S' := []) (σ' := σ3) (Ps := [-2147483648 ≤ l5 + 1 ∧ l5 + 1 ≤ 2147483647]) (by decide +kernel) rfl ⟨h.1, trivial⟩ ?_
              replace h := h.2
              exact Runs.fg (fgE (fgE (fgE (fgE (fgE (fgE (fgU fg0))))))) h
      · replace h := h.2 c
        refine r_blk [qO (.aload_n 0), qO (.iconst 0)] (pc' := 55) (L' := [zR 34 0, zI l1, zI l2, zI l3, zI l4, zI l5, zU]) (S' := [zI 0, zR 34 0]) (σ' := (zup σ1 36 0 3 l5)) (Ps := []) (by decide +kernel) rfl trivial ?_
        refine r_callVI (As := [zI 0]) (S := []) (Lc := [zR 34 0, zI 0, zU, zU, zU]) (d' := 5) (n := 1) (g := 34) (x := 0) (ci := 11) kX11_longestAt vX11_longestAt lkX11_163 (by decide +kernel) (by decide) rfl rfl (by decide) rfl rfl (Nat.le_of_ble_eq_true rfl) rfl rfl (Nat.le_of_ble_eq_true rfl) (h.monoI (fun z6 σ5 h => ?_))
        refine r_blk [qO (.goto 7), qO (.istore 6), qO (.iload 6)] (pc' := 69) (L' := [zR 34 0, zI l1, zI l2, zI l3, zI l4, zI l5, zI z6]) (S' := [zI z6]) (σ' := σ5) (Ps := []) (by decide +kernel) rfl trivial ?_
        refine r_if_lt (off := 24) (tgt := 93) (by decide +kernel) (by decide) (fun c => ?_) (fun c => ?_)
        · replace h := h.1 c
          refine r_blk [qO (.iinc 5 1), qO (.goto (-80))] (pc' := 16) (L' := [zR 34 0, zI l1, zI l2, zI l3, zI l4, zI (l5 + 1), zI z6]) (S' := []) (σ' := σ5) (Ps := [-2147483648 ≤ l5 + 1 ∧ l5 + 1 ≤ 2147483647]) (by decide +kernel) rfl ⟨h.1, trivial⟩ ?_
          replace h := h.2
          exact Runs.fg (fgE (fgE (fgE (fgE (fgE (fgE (fgU fg0))))))) h
        · replace h := h.2 c
          refine r_blk [qO (.iload_n 3)] (pc' := 73) (L' := [zR 34 0, zI l1, zI l2, zI l3, zI l4, zI l5, zI z6]) (S' := [zI l3]) (σ' := σ5) (Ps := []) (by decide +kernel) rfl trivial ?_
          refine r_if_lt (off := 13) (tgt := 86) (by decide +kernel) (by decide) (fun c => ?_) (fun c => ?_)
          · replace h := h.1 c
            refine r_blk [qO (.iload 5), qO (.istore_n 3), qO (.iload 6), qO (.istore 4), qO (.iinc 5 1), qO (.goto (-80))] (pc' := 16) (L' := [zR 34 0, zI l1, zI l2, zI l5, zI z6, zI (l5 + 1), zI z6]) (S' := []) (σ' := σ5) (Ps := [-2147483648 ≤ l5 + 1 ∧ l5 + 1 ≤ 2147483647]) (by decide +kernel) rfl ⟨h.1, trivial⟩ ?_
            replace h := h.2
            exact Runs.fg (fgE (fgE (fgE (fgE (fgE (fgE (fgU fg0))))))) h
          · replace h := h.2 c
            refine r_blk [qO (.iload 6), qO (.iload 4)] (pc' := 80) (L' := [zR 34 0, zI l1, zI l2, zI l3, zI l4, zI l5, zI z6]) (S' := [zI l4, zI z6]) (σ' := σ5) (Ps := []) (by decide +kernel) rfl trivial ?_
            refine r_icmp_lt (off := 6) (tgt := 86) (by decide +kernel) (by decide) (fun c => ?_) (fun c => ?_)
            · replace h := h.1 c
              refine r_blk [qO (.iload 5), qO (.istore_n 3), qO (.iload 6), qO (.istore 4), qO (.iinc 5 1), qO (.goto (-80))] (pc' := 16) (L' := [zR 34 0, zI l1, zI l2, zI l5, zI z6, zI (l5 + 1), zI z6]) (S' := []) (σ' := σ5) (Ps := [-2147483648 ≤ l5 + 1 ∧ l5 + 1 ≤ 2147483647]) (by decide +kernel) rfl ⟨h.1, trivial⟩ ?_
              replace h := h.2
              exact Runs.fg (fgE (fgE (fgE (fgE (fgE (fgE (fgU fg0))))))) h
            · replace h := h.2 c
              refine r_blk [qO (.goto 10), qO (.iinc 5 1), qO (.goto (-80))] (pc' := 16) (L' := [zR 34 0, zI l1, zI l2, zI l3, zI l4, zI (l5 + 1), zI z6]) (S' := []) (σ' := σ5) (Ps := [-2147483648 ≤ l5 + 1 ∧ l5 + 1 ≤ 2147483647]) (by decide +kernel) rfl ⟨h.1, trivial⟩ ?_
              replace h := h.2
              exact Runs.fg (fgE (fgE (fgE (fgE (fgE (fgE (fgU fg0))))))) h
    · replace h := h.2 c
      refine r_blk [qO (.goto 55), qO (.iinc 5 1), qO (.goto (-80))] (pc' := 16) (L' := [zR 34 0, zI l1, zI l2, zI l3, zI l4, zI (l5 + 1), zU]) (S' := []) (σ' := σ1) (Ps := [-2147483648 ≤ l5 + 1 ∧ l5 + 1 ≤ 2147483647]) (by decide +kernel) rfl ⟨h.1, trivial⟩ ?_
      replace h := h.2
      exact Runs.fg (fgE (fgE (fgE (fgE (fgE (fgE (fgU fg0))))))) h
theorem gX11_best_0 (σ : Hp) {Q : Option Int → Hp → Prop} (h : Runs 0 mX11_wrongFew 0 [zR 34 0] [] σ (rI (fun z2 σ1 => ((z2 = 0 → Runs 6 mX11_bestOf 0 [zR 34 0, zI 0, zU, zU, zU, zU, zU] [] σ1 (rI (fun z4 σ3 => Q (some z4) σ3))) ∧ (¬ z2 = 0 → Runs 0 mX11_refuse 0 [zR 34 0, zI z2] [] σ1 (rI (fun z6 σ5 => Q (some z6) σ5))))))) : Runs 7 mX11_best 0 [zR 34 0, zU] [] σ Q := by
  refine r_blk [qO (.aload_n 0)] (pc' := 1) (L' := [zR 34 0, zU]) (S' := [zR 34 0]) (σ' := σ) (Ps := []) (by decide +kernel) rfl trivial ?_
  refine r_callVI (As := []) (S := []) (Lc := [zR 34 0]) (d' := 0) (n := 0) (g := 34) (x := 0) (ci := 11) kX11_wrongFew vX11_wrongFew lkX11_193 (by decide +kernel) (by decide) rfl rfl (by decide) rfl rfl (Nat.le_of_ble_eq_true rfl) rfl rfl (Nat.le_of_ble_eq_true rfl) (h.monoI (fun z2 σ1 h => ?_))
  refine r_blk [qO (.istore_n 1), qO (.iload_n 1)] (pc' := 6) (L' := [zR 34 0, zI z2]) (S' := [zI z2]) (σ' := σ1) (Ps := []) (by decide +kernel) rfl trivial ?_
  refine r_if_eq (off := 11) (tgt := 17) (by decide +kernel) (by decide) (fun c => ?_) (fun c => ?_)
  · replace h := h.1 c
    refine r_blk [qO (.aload_n 0), qO (.iconst 0)] (pc' := 19) (L' := [zR 34 0, zI z2]) (S' := [zI 0, zR 34 0]) (σ' := σ1) (Ps := []) (by decide +kernel) rfl trivial ?_
    refine r_callVI (As := [zI 0]) (S := []) (Lc := [zR 34 0, zI 0, zU, zU, zU, zU, zU]) (d' := 6) (n := 1) (g := 34) (x := 0) (ci := 11) kX11_bestOf vX11_bestOf lkX11_196 (by decide +kernel) (by decide) rfl rfl (by decide) rfl rfl (Nat.le_of_ble_eq_true rfl) rfl rfl (Nat.le_of_ble_eq_true rfl) (h.monoI (fun z4 σ3 h => ?_))
    exact r_ret (by decide +kernel) rfl (fun _ => h)
  · replace h := h.2 c
    refine r_blk [qO (.aload_n 0), qO (.iload_n 1)] (pc' := 11) (L' := [zR 34 0, zI z2]) (S' := [zI z2, zR 34 0]) (σ' := σ1) (Ps := []) (by decide +kernel) rfl trivial ?_
    refine r_callVI (As := [zI z2]) (S := []) (Lc := [zR 34 0, zI z2]) (d' := 0) (n := 1) (g := 34) (x := 0) (ci := 11) kX11_refuse vX11_refuse lkX11_66 (by decide +kernel) (by decide) rfl rfl (by decide) rfl rfl (Nat.le_of_ble_eq_true rfl) rfl rfl (Nat.le_of_ble_eq_true rfl) (h.monoI (fun z6 σ5 h => ?_))
    refine r_blk [qO (.goto 8)] (pc' := 22) (L' := [zR 34 0, zI z2]) (S' := [zI z6]) (σ' := σ5) (Ps := []) (by decide +kernel) rfl trivial ?_
    exact r_ret (by decide +kernel) rfl (fun _ => h)
theorem gX11_far_0 (σ : Hp) {Q : Option Int → Hp → Prop} (h : Runs 0 mX11_wrongFew 0 [zR 34 0] [] σ (rI (fun z2 σ1 => ((z2 = 0 → Runs 6 mX11_bestOf 0 [zR 34 0, zI 1, zU, zU, zU, zU, zU] [] σ1 (rI (fun z4 σ3 => Q (some z4) σ3))) ∧ (¬ z2 = 0 → Runs 0 mX11_refuse 0 [zR 34 0, zI z2] [] σ1 (rI (fun z6 σ5 => Q (some z6) σ5))))))) : Runs 7 mX11_far 0 [zR 34 0, zU] [] σ Q := by
  refine r_blk [qO (.aload_n 0)] (pc' := 1) (L' := [zR 34 0, zU]) (S' := [zR 34 0]) (σ' := σ) (Ps := []) (by decide +kernel) rfl trivial ?_
  refine r_callVI (As := []) (S := []) (Lc := [zR 34 0]) (d' := 0) (n := 0) (g := 34) (x := 0) (ci := 11) kX11_wrongFew vX11_wrongFew lkX11_193 (by decide +kernel) (by decide) rfl rfl (by decide) rfl rfl (Nat.le_of_ble_eq_true rfl) rfl rfl (Nat.le_of_ble_eq_true rfl) (h.monoI (fun z2 σ1 h => ?_))
  refine r_blk [qO (.istore_n 1), qO (.iload_n 1)] (pc' := 6) (L' := [zR 34 0, zI z2]) (S' := [zI z2]) (σ' := σ1) (Ps := []) (by decide +kernel) rfl trivial ?_
  refine r_if_eq (off := 11) (tgt := 17) (by decide +kernel) (by decide) (fun c => ?_) (fun c => ?_)
  · replace h := h.1 c
    refine r_blk [qO (.aload_n 0), qO (.iconst 1)] (pc' := 19) (L' := [zR 34 0, zI z2]) (S' := [zI 1, zR 34 0]) (σ' := σ1) (Ps := []) (by decide +kernel) rfl trivial ?_
    refine r_callVI (As := [zI 1]) (S := []) (Lc := [zR 34 0, zI 1, zU, zU, zU, zU, zU]) (d' := 6) (n := 1) (g := 34) (x := 0) (ci := 11) kX11_bestOf vX11_bestOf lkX11_196 (by decide +kernel) (by decide) rfl rfl (by decide) rfl rfl (Nat.le_of_ble_eq_true rfl) rfl rfl (Nat.le_of_ble_eq_true rfl) (h.monoI (fun z4 σ3 h => ?_))
    exact r_ret (by decide +kernel) rfl (fun _ => h)
  · replace h := h.2 c
    refine r_blk [qO (.aload_n 0), qO (.iload_n 1)] (pc' := 11) (L' := [zR 34 0, zI z2]) (S' := [zI z2, zR 34 0]) (σ' := σ1) (Ps := []) (by decide +kernel) rfl trivial ?_
    refine r_callVI (As := [zI z2]) (S := []) (Lc := [zR 34 0, zI z2]) (d' := 0) (n := 1) (g := 34) (x := 0) (ci := 11) kX11_refuse vX11_refuse lkX11_66 (by decide +kernel) (by decide) rfl rfl (by decide) rfl rfl (Nat.le_of_ble_eq_true rfl) rfl rfl (Nat.le_of_ble_eq_true rfl) (h.monoI (fun z6 σ5 h => ?_))
    refine r_blk [qO (.goto 8)] (pc' := 22) (L' := [zR 34 0, zI z2]) (S' := [zI z6]) (σ' := σ5) (Ps := []) (by decide +kernel) rfl trivial ?_
    exact r_ret (by decide +kernel) rfl (fun _ => h)
theorem gX11_turning_0 (σ : Hp) {Q : Option Int → Hp → Prop} (h : Runs 5 mX11_costOf 0 [zR 34 0, zU, zU, zU] [] σ (rI (fun z2 σ1 => Runs 6 mX11_turning 17 [zR 34 0, zI (σ 36 0 3), zI z2, zI 1, zI 0, zU, zU, zU] [] σ1 Q))) : Runs 6 mX11_turning 0 [zR 34 0, zU, zU, zU, zU, zU, zU, zU] [] σ Q := by
  refine r_blk [qO (.aload_n 0), qF (.getfield 13) 11 1, qO (.iconst 3), qO .iaload, qO (.istore_n 1), qO (.aload_n 0)] (pc' := 8) (L' := [zR 34 0, zI (σ 36 0 3), zU, zU, zU, zU, zU, zU]) (S' := [zR 34 0]) (σ' := σ) (Ps := [0 ≤ 3 ∧ 3 < 123]) (by decide +kernel) rfl ⟨(by decide), trivial⟩ ?_
  refine r_callVI (As := []) (S := []) (Lc := [zR 34 0, zU, zU, zU]) (d' := 5) (n := 0) (g := 34) (x := 0) (ci := 11) kX11_costOf vX11_costOf lkX11_187 (by decide +kernel) (by decide) rfl rfl (by decide) rfl rfl (Nat.le_of_ble_eq_true rfl) rfl rfl (Nat.le_of_ble_eq_true rfl) (h.monoI (fun z2 σ1 h => ?_))
  refine r_blk [qO (.istore_n 2), qO (.iconst 1), qO (.istore_n 3), qO (.iconst 0), qO (.istore 4)] (pc' := 17) (L' := [zR 34 0, zI (σ 36 0 3), zI z2, zI 1, zI 0, zU, zU, zU]) (S' := []) (σ' := σ1) (Ps := []) (by decide +kernel) rfl trivial ?_
  exact Runs.fg (fgE (fgE (fgE (fgE (fgE (fgU (fgU (fgU fg0)))))))) h
theorem gX11_turning_17 (l1 : Int) (l2 : Int) (l3 : Int) (l4 : Int) (σ : Hp) {Q : Option Int → Hp → Prop} (h : ((20 ≤ l4 → Q (some (σ 36 0 3)) (zup σ 36 0 3 l1)) ∧ (¬ 20 ≤ l4 → ((l3 = 0 → Q (some (σ 36 0 3)) (zup σ 36 0 3 l1)) ∧ (¬ l3 = 0 → Runs 6 mX11_turning 33 [zR 34 0, zI l1, zI l2, zI 0, zI l4, zI 0, zU, zU] [] σ Q))))) : Runs 6 mX11_turning 17 [zR 34 0, zI l1, zI l2, zI l3, zI l4, zU, zU, zU] [] σ Q := by
  refine r_blk [qO (.iload 4), qO (.bipush 20)] (pc' := 21) (L' := [zR 34 0, zI l1, zI l2, zI l3, zI l4, zU, zU, zU]) (S' := [zI 20, zI l4]) (σ' := σ) (Ps := []) (by decide +kernel) rfl trivial ?_
  refine r_icmp_ge (off := 122) (tgt := 143) (by decide +kernel) (by decide) (fun c => ?_) (fun c => ?_)
  · replace h := h.1 c
    refine r_blk [qO (.aload_n 0), qF (.getfield 13) 11 1, qO (.iconst 3), qO .iaload, qO (.istore 4), qO (.aload_n 0), qF (.getfield 13) 11 1, qO (.iconst 3), qO (.iload_n 1), qO .iastore, qO (.iload 4)] (pc' := 160) (L' := [zR 34 0, zI l1, zI l2, zI l3, zI (σ 36 0 3), zU, zU, zU]) (S' := [zI (σ 36 0 3)]) (σ' := (zup σ 36 0 3 l1)) (Ps := [0 ≤ 3 ∧ 3 < 123, 0 ≤ 3 ∧ 3 < 123]) (by decide +kernel) rfl ⟨(by decide), (by decide), trivial⟩ ?_
    exact r_ret (by decide +kernel) rfl (fun _ => h)
  · replace h := h.2 c
    refine r_blk [qO (.iload_n 3)] (pc' := 25) (L' := [zR 34 0, zI l1, zI l2, zI l3, zI l4, zU, zU, zU]) (S' := [zI l3]) (σ' := σ) (Ps := []) (by decide +kernel) rfl trivial ?_
    refine r_if_eq (off := 118) (tgt := 143) (by decide +kernel) (by decide) (fun c => ?_) (fun c => ?_)
    · replace h := h.1 c
      refine r_blk [qO (.aload_n 0), qF (.getfield 13) 11 1, qO (.iconst 3), qO .iaload, qO (.istore 4), qO (.aload_n 0), qF (.getfield 13) 11 1, qO (.iconst 3), qO (.iload_n 1), qO .iastore, qO (.iload 4)] (pc' := 160) (L' := [zR 34 0, zI l1, zI l2, zI l3, zI (σ 36 0 3), zU, zU, zU]) (S' := [zI (σ 36 0 3)]) (σ' := (zup σ 36 0 3 l1)) (Ps := [0 ≤ 3 ∧ 3 < 123, 0 ≤ 3 ∧ 3 < 123]) (by decide +kernel) rfl ⟨(by decide), (by decide), trivial⟩ ?_
      exact r_ret (by decide +kernel) rfl (fun _ => h)
    · replace h := h.2 c
      refine r_blk [qO (.iconst 0), qO (.istore_n 3), qO (.iconst 0), qO (.istore 5)] (pc' := 33) (L' := [zR 34 0, zI l1, zI l2, zI 0, zI l4, zI 0, zU, zU]) (S' := []) (σ' := σ) (Ps := []) (by decide +kernel) rfl trivial ?_
      exact Runs.fg (fgE (fgE (fgE (fgE (fgE (fgE (fgU (fgU fg0)))))))) h
theorem gX11_turning_33 (l1 : Int) (l2 : Int) (l3 : Int) (l4 : Int) (l5 : Int) (σ : Hp) {Q : Option Int → Hp → Prop} (h : ((σ 36 0 1 ≤ l5 → (-2147483648 ≤ l4 + 1 ∧ l4 + 1 ≤ 2147483647) ∧ Runs 6 mX11_turning 17 [zR 34 0, zI l1, zI l2, zI l3, zI (l4 + 1), zU, zU, zU] [] σ Q) ∧ (¬ σ 36 0 1 ≤ l5 → (-2147483648 ≤ 1 - (bitz (σ 36 0 3) l5) ∧ 1 - (bitz (σ 36 0 3) l5) ≤ 2147483647) ∧ Runs 0 mX11_get 0 [zR 34 0, zI l5, zI 4] [] σ (rI (fun z2 σ1 => ((2 ≤ z2 → Runs 6 mX11_turning 85 [zR 34 0, zI l1, zI l2, zI l3, zI l4, zI l5, zU, zU] [] σ1 Q) ∧ (¬ 2 ≤ z2 → Runs 0 mX11_get 0 [zR 34 0, zI l5, zI 4] [] σ1 (rI (fun z4 σ3 => ((z4 = 1 - (bitz (σ 36 0 3) l5) → Runs 6 mX11_turning 85 [zR 34 0, zI l1, zI l2, zI l3, zI l4, zI l5, zU, zU] [] σ3 Q) ∧ (¬ z4 = 1 - (bitz (σ 36 0 3) l5) → (-2147483648 ≤ l5 + 1 ∧ l5 + 1 ≤ 2147483647) ∧ Runs 6 mX11_turning 33 [zR 34 0, zI l1, zI l2, zI l3, zI l4, zI (l5 + 1), zU, zU] [] σ3 Q))))))))))) : Runs 6 mX11_turning 33 [zR 34 0, zI l1, zI l2, zI l3, zI l4, zI l5, zU, zU] [] σ Q := by
  refine r_blk [qO (.iload 5), qO (.aload_n 0), qF (.getfield 13) 11 1, qO (.iconst 1), qO .iaload] (pc' := 41) (L' := [zR 34 0, zI l1, zI l2, zI l3, zI l4, zI l5, zU, zU]) (S' := [zI (σ 36 0 1), zI l5]) (σ' := σ) (Ps := [0 ≤ 1 ∧ 1 < 123]) (by decide +kernel) rfl ⟨(by decide), trivial⟩ ?_
  refine r_icmp_ge (off := 96) (tgt := 137) (by decide +kernel) (by decide) (fun c => ?_) (fun c => ?_)
  · replace h := h.1 c
    refine r_blk [qO (.iinc 4 1), qO (.goto (-123))] (pc' := 17) (L' := [zR 34 0, zI l1, zI l2, zI l3, zI (l4 + 1), zI l5, zU, zU]) (S' := []) (σ' := σ) (Ps := [-2147483648 ≤ l4 + 1 ∧ l4 + 1 ≤ 2147483647]) (by decide +kernel) rfl ⟨h.1, trivial⟩ ?_
    replace h := h.2
    exact Runs.fg (fgE (fgE (fgE (fgE (fgE (fgU (fgU (fgU fg0)))))))) h
  · replace h := h.2 c
    refine r_blk [qO (.iconst 1), qO (.aload_n 0), qF (.getfield 13) 11 1, qO (.iconst 3), qO .iaload, qO (.iload 5), qO .ishr, qO (.iconst 1), qO .iand, qO .isub, qO (.istore 6), qO (.aload_n 0), qO (.iload 5), qO (.iconst 4)] (pc' := 63) (L' := [zR 34 0, zI l1, zI l2, zI l3, zI l4, zI l5, zI (1 - (bitz (σ 36 0 3) l5)), zU]) (S' := [zI 4, zI l5, zR 34 0]) (σ' := σ) (Ps := [0 ≤ 3 ∧ 3 < 123, -2147483648 ≤ 1 - (bitz (σ 36 0 3) l5) ∧ 1 - (bitz (σ 36 0 3) l5) ≤ 2147483647]) (by decide +kernel) rfl ⟨(by decide), h.1, trivial⟩ ?_
    replace h := h.2
    refine r_callVI (As := [zI l5, zI 4]) (S := []) (Lc := [zR 34 0, zI l5, zI 4]) (d' := 0) (n := 2) (g := 34) (x := 0) (ci := 11) kX11_get vX11_get lkX11_106 (by decide +kernel) (by decide) rfl rfl (by decide) rfl rfl (Nat.le_of_ble_eq_true rfl) rfl rfl (Nat.le_of_ble_eq_true rfl) (h.monoI (fun z2 σ1 h => ?_))
    refine r_blk [qO (.iconst 2)] (pc' := 67) (L' := [zR 34 0, zI l1, zI l2, zI l3, zI l4, zI l5, zI (1 - (bitz (σ 36 0 3) l5)), zU]) (S' := [zI 2, zI z2]) (σ' := σ1) (Ps := []) (by decide +kernel) rfl trivial ?_
    refine r_icmp_ge (off := 18) (tgt := 85) (by decide +kernel) (by decide) (fun c => ?_) (fun c => ?_)
    · replace h := h.1 c
      exact Runs.fg (fgE (fgE (fgE (fgE (fgE (fgE (fgU (fgU fg0)))))))) h
    · replace h := h.2 c
      refine r_blk [qO (.aload_n 0), qO (.iload 5), qO (.iconst 4)] (pc' := 74) (L' := [zR 34 0, zI l1, zI l2, zI l3, zI l4, zI l5, zI (1 - (bitz (σ 36 0 3) l5)), zU]) (S' := [zI 4, zI l5, zR 34 0]) (σ' := σ1) (Ps := []) (by decide +kernel) rfl trivial ?_
      refine r_callVI (As := [zI l5, zI 4]) (S := []) (Lc := [zR 34 0, zI l5, zI 4]) (d' := 0) (n := 2) (g := 34) (x := 0) (ci := 11) kX11_get vX11_get lkX11_106 (by decide +kernel) (by decide) rfl rfl (by decide) rfl rfl (Nat.le_of_ble_eq_true rfl) rfl rfl (Nat.le_of_ble_eq_true rfl) (h.monoI (fun z4 σ3 h => ?_))
      refine r_blk [qO (.iload 6)] (pc' := 79) (L' := [zR 34 0, zI l1, zI l2, zI l3, zI l4, zI l5, zI (1 - (bitz (σ 36 0 3) l5)), zU]) (S' := [zI (1 - (bitz (σ 36 0 3) l5)), zI z4]) (σ' := σ3) (Ps := []) (by decide +kernel) rfl trivial ?_
      refine r_icmp_eq (off := 6) (tgt := 85) (by decide +kernel) (by decide) (fun c => ?_) (fun c => ?_)
      · replace h := h.1 c
        exact Runs.fg (fgE (fgE (fgE (fgE (fgE (fgE (fgU (fgU fg0)))))))) h
      · replace h := h.2 c
        refine r_blk [qO (.goto 49), qO (.iinc 5 1), qO (.goto (-101))] (pc' := 33) (L' := [zR 34 0, zI l1, zI l2, zI l3, zI l4, zI (l5 + 1), zI (1 - (bitz (σ 36 0 3) l5)), zU]) (S' := []) (σ' := σ3) (Ps := [-2147483648 ≤ l5 + 1 ∧ l5 + 1 ≤ 2147483647]) (by decide +kernel) rfl ⟨h.1, trivial⟩ ?_
        replace h := h.2
        exact Runs.fg (fgE (fgE (fgE (fgE (fgE (fgE (fgU (fgU fg0)))))))) h
theorem gX11_turning_85 (l1 : Int) (l2 : Int) (l3 : Int) (l4 : Int) (l5 : Int) (σ : Hp) {Q : Option Int → Hp → Prop} (h : Runs 5 mX11_costOf 0 [zR 34 0, zU, zU, zU] [] (zup σ 36 0 3 (zxor (σ 36 0 3) (zshl 1 l5))) (rI (fun z2 σ1 => ((l2 ≤ z2 → (-2147483648 ≤ l5 + 1 ∧ l5 + 1 ≤ 2147483647) ∧ Runs 6 mX11_turning 33 [zR 34 0, zI l1, zI l2, zI l3, zI l4, zI (l5 + 1), zU, zU] [] (zup σ1 36 0 3 (zxor (σ1 36 0 3) (zshl 1 l5))) Q) ∧ (¬ l2 ≤ z2 → (-2147483648 ≤ l5 + 1 ∧ l5 + 1 ≤ 2147483647) ∧ Runs 6 mX11_turning 33 [zR 34 0, zI l1, zI z2, zI 1, zI l4, zI (l5 + 1), zU, zU] [] σ1 Q))))) : Runs 6 mX11_turning 85 [zR 34 0, zI l1, zI l2, zI l3, zI l4, zI l5, zU, zU] [] σ Q := by
  refine r_blk [qO (.aload_n 0), qF (.getfield 13) 11 1, qO (.iconst 3), qO .dup2, qO .iaload, qO (.iconst 1), qO (.iload 5), qO .ishl, qO .ixor, qO .iastore, qO (.aload_n 0)] (pc' := 99) (L' := [zR 34 0, zI l1, zI l2, zI l3, zI l4, zI l5, zU, zU]) (S' := [zR 34 0]) (σ' := (zup σ 36 0 3 (zxor (σ 36 0 3) (zshl 1 l5)))) (Ps := [0 ≤ 3 ∧ 3 < 123, 0 ≤ 3 ∧ 3 < 123]) (by decide +kernel) rfl ⟨(by decide), (by decide), trivial⟩ ?_
  refine r_callVI (As := []) (S := []) (Lc := [zR 34 0, zU, zU, zU]) (d' := 5) (n := 0) (g := 34) (x := 0) (ci := 11) kX11_costOf vX11_costOf lkX11_187 (by decide +kernel) (by decide) rfl rfl (by decide) rfl rfl (Nat.le_of_ble_eq_true rfl) rfl rfl (Nat.le_of_ble_eq_true rfl) (h.monoI (fun z2 σ1 h => ?_))
  refine r_blk [qO (.istore 7), qO (.iload 7), qO (.iload_n 2)] (pc' := 107) (L' := [zR 34 0, zI l1, zI l2, zI l3, zI l4, zI l5, zU, zI z2]) (S' := [zI l2, zI z2]) (σ' := σ1) (Ps := []) (by decide +kernel) rfl trivial ?_
  refine r_icmp_ge (off := 11) (tgt := 118) (by decide +kernel) (by decide) (fun c => ?_) (fun c => ?_)
  · replace h := h.1 c
    refine r_blk [qO (.aload_n 0), qF (.getfield 13) 11 1, qO (.iconst 3), qO .dup2, qO .iaload, qO (.iconst 1), qO (.iload 5), qO .ishl, qO .ixor, qO .iastore, qO (.iinc 5 1), qO (.goto (-101))] (pc' := 33) (L' := [zR 34 0, zI l1, zI l2, zI l3, zI l4, zI (l5 + 1), zU, zI z2]) (S' := []) (σ' := (zup σ1 36 0 3 (zxor (σ1 36 0 3) (zshl 1 l5)))) (Ps := [0 ≤ 3 ∧ 3 < 123, 0 ≤ 3 ∧ 3 < 123, -2147483648 ≤ l5 + 1 ∧ l5 + 1 ≤ 2147483647]) (by decide +kernel) rfl ⟨(by decide), (by decide), h.1, trivial⟩ ?_
    replace h := h.2
    exact Runs.fg (fgE (fgE (fgE (fgE (fgE (fgE (fgU (fgU fg0)))))))) h
  · replace h := h.2 c
    refine r_blk [qO (.iload 7), qO (.istore_n 2), qO (.iconst 1), qO (.istore_n 3), qO (.goto 16), qO (.iinc 5 1), qO (.goto (-101))] (pc' := 33) (L' := [zR 34 0, zI l1, zI z2, zI 1, zI l4, zI (l5 + 1), zU, zI z2]) (S' := []) (σ' := σ1) (Ps := [-2147483648 ≤ l5 + 1 ∧ l5 + 1 ≤ 2147483647]) (by decide +kernel) rfl ⟨h.1, trivial⟩ ?_
    replace h := h.2
    exact Runs.fg (fgE (fgE (fgE (fgE (fgE (fgE (fgU (fgU fg0)))))))) h
theorem gX11_bits_0 (a0 : Int) (σ : Hp) {Q : Option Int → Hp → Prop} (h : Runs 0 mX11_bits 4 [zU, zI 0, zI a0] [] σ Q) : Runs 0 mX11_bits 0 [zI a0, zU, zU] [] σ Q := by
  refine r_blk [qO (.iconst 0), qO (.istore_n 1), qO (.iload_n 0), qO (.istore_n 2)] (pc' := 4) (L' := [zI a0, zI 0, zI a0]) (S' := []) (σ' := σ) (Ps := []) (by decide +kernel) rfl trivial ?_
  exact Runs.fg (fgU (fgE (fgE fg0))) h
theorem gX11_bits_4 (l1 : Int) (l2 : Int) (σ : Hp) {Q : Option Int → Hp → Prop} (h : ((l2 ≤ 0 → Q (some l1) σ) ∧ (¬ l2 ≤ 0 → (-2147483648 ≤ l1 + (zand l2 1) ∧ l1 + (zand l2 1) ≤ 2147483647) ∧ Runs 0 mX11_bits 4 [zU, zI (l1 + (zand l2 1)), zI (zshr l2 1)] [] σ Q))) : Runs 0 mX11_bits 4 [zU, zI l1, zI l2] [] σ Q := by
  refine r_blk [qO (.iload_n 2)] (pc' := 5) (L' := [zU, zI l1, zI l2]) (S' := [zI l2]) (σ' := σ) (Ps := []) (by decide +kernel) rfl trivial ?_
  refine r_if_le (off := 16) (tgt := 21) (by decide +kernel) (by decide) (fun c => ?_) (fun c => ?_)
  · replace h := h.1 c
    refine r_blk [qO (.iload_n 1)] (pc' := 22) (L' := [zU, zI l1, zI l2]) (S' := [zI l1]) (σ' := σ) (Ps := []) (by decide +kernel) rfl trivial ?_
    exact r_ret (by decide +kernel) rfl (fun _ => h)
  · replace h := h.2 c
    refine r_blk [qO (.iload_n 1), qO (.iload_n 2), qO (.iconst 1), qO .iand, qO .iadd, qO (.istore_n 1), qO (.iload_n 2), qO (.iconst 1), qO .ishr, qO (.istore_n 2), qO (.goto (-14))] (pc' := 4) (L' := [zU, zI (l1 + (zand l2 1)), zI (zshr l2 1)]) (S' := []) (σ' := σ) (Ps := [-2147483648 ≤ l1 + (zand l2 1) ∧ l1 + (zand l2 1) ≤ 2147483647]) (by decide +kernel) rfl ⟨h.1, trivial⟩ ?_
    replace h := h.2
    exact Runs.fg (fgU (fgE (fgE fg0))) h
theorem gX11_bothWays_0 (a0 : Int) (σ : Hp) {Q : Option Int → Hp → Prop} (h : ((0 ≤ a0 → ((σ 36 0 1 ≤ 10 → Runs 6 mX11_bothWays 43 [zR 34 0, zI a0, zU, zI (-9), zI 0] [] σ Q) ∧ (¬ σ 36 0 1 ≤ 10 → Runs 0 mX11_refuse 0 [zR 34 0, zI (-6)] [] σ (rI (fun z2 σ1 => Q (some z2) σ1))))) ∧ (¬ 0 ≤ a0 → Runs 0 mX11_refuse 0 [zR 34 0, zI (-4)] [] σ (rI (fun z4 σ3 => Q (some z4) σ3))))) : Runs 6 mX11_bothWays 0 [zR 34 0, zI a0, zU, zU, zU] [] σ Q := by
  refine r_blk [qO (.iload_n 1)] (pc' := 1) (L' := [zR 34 0, zI a0, zU, zU, zU]) (S' := [zI a0]) (σ' := σ) (Ps := []) (by decide +kernel) rfl trivial ?_
  refine r_if_ge (off := 8) (tgt := 9) (by decide +kernel) (by decide) (fun c => ?_) (fun c => ?_)
  · replace h := h.1 c
    refine r_blk [qO (.aload_n 0), qF (.getfield 13) 11 1, qO (.iconst 1), qO .iaload, qO (.bipush 10)] (pc' := 17) (L' := [zR 34 0, zI a0, zU, zU, zU]) (S' := [zI 10, zI (σ 36 0 1)]) (σ' := σ) (Ps := [0 ≤ 1 ∧ 1 < 123]) (by decide +kernel) rfl ⟨(by decide), trivial⟩ ?_
    refine r_icmp_le (off := 8) (tgt := 25) (by decide +kernel) (by decide) (fun c => ?_) (fun c => ?_)
    · replace h := h.1 c
      refine r_blk [qO (.iconst 0), qO (.istore_n 2), qO (.iload_n 2)] (pc' := 28) (L' := [zR 34 0, zI a0, zI 0, zU, zU]) (S' := [zI 0]) (σ' := σ) (Ps := []) (by decide +kernel) rfl trivial ?_
      refine r_if_eq (off := 9) (tgt := 37) (by decide +kernel) (by decide) (fun c => ?_) (fun c => ?_)
      · refine r_blk [qO (.bipush (-9)), qO (.istore_n 3), qO (.iconst 0), qO (.istore 4)] (pc' := 43) (L' := [zR 34 0, zI a0, zI 0, zI (-9), zI 0]) (S' := []) (σ' := σ) (Ps := []) (by decide +kernel) rfl trivial ?_
        exact Runs.fg (fgE (fgE (fgU (fgE (fgE fg0))))) h
      · exact absurd c (by decide)
    · replace h := h.2 c
      refine r_blk [qO (.bipush (-6)), qO (.goto 4), qO (.istore_n 2), qO (.iload_n 2)] (pc' := 28) (L' := [zR 34 0, zI a0, zI (-6), zU, zU]) (S' := [zI (-6)]) (σ' := σ) (Ps := []) (by decide +kernel) rfl trivial ?_
      refine r_if_eq (off := 9) (tgt := 37) (by decide +kernel) (by decide) (fun c => ?_) (fun c => ?_)
      · exact absurd c (by decide)
      · refine r_blk [qO (.aload_n 0), qO (.iload_n 2)] (pc' := 33) (L' := [zR 34 0, zI a0, zI (-6), zU, zU]) (S' := [zI (-6), zR 34 0]) (σ' := σ) (Ps := []) (by decide +kernel) rfl trivial ?_
        refine r_callVI (As := [zI (-6)]) (S := []) (Lc := [zR 34 0, zI (-6)]) (d' := 0) (n := 1) (g := 34) (x := 0) (ci := 11) kX11_refuse vX11_refuse lkX11_66 (by decide +kernel) (by decide) rfl rfl (by decide) rfl rfl (Nat.le_of_ble_eq_true rfl) rfl rfl (Nat.le_of_ble_eq_true rfl) (h.monoI (fun z2 σ1 h => ?_))
        exact r_ret (by decide +kernel) rfl (fun _ => h)
  · replace h := h.2 c
    refine r_blk [qO (.bipush (-4)), qO (.goto 20), qO (.istore_n 2), qO (.iload_n 2)] (pc' := 28) (L' := [zR 34 0, zI a0, zI (-4), zU, zU]) (S' := [zI (-4)]) (σ' := σ) (Ps := []) (by decide +kernel) rfl trivial ?_
    refine r_if_eq (off := 9) (tgt := 37) (by decide +kernel) (by decide) (fun c => ?_) (fun c => ?_)
    · exact absurd c (by decide)
    · refine r_blk [qO (.aload_n 0), qO (.iload_n 2)] (pc' := 33) (L' := [zR 34 0, zI a0, zI (-4), zU, zU]) (S' := [zI (-4), zR 34 0]) (σ' := σ) (Ps := []) (by decide +kernel) rfl trivial ?_
      refine r_callVI (As := [zI (-4)]) (S := []) (Lc := [zR 34 0, zI (-4)]) (d' := 0) (n := 1) (g := 34) (x := 0) (ci := 11) kX11_refuse vX11_refuse lkX11_66 (by decide +kernel) (by decide) rfl rfl (by decide) rfl rfl (Nat.le_of_ble_eq_true rfl) rfl rfl (Nat.le_of_ble_eq_true rfl) (h.monoI (fun z4 σ3 h => ?_))
      exact r_ret (by decide +kernel) rfl (fun _ => h)
theorem gX11_bothWays_43 (l1 : Int) (l3 : Int) (l4 : Int) (σ : Hp) {Q : Option Int → Hp → Prop} (h : ((zshl 1 (σ 36 0 1) ≤ l4 → Q (some l3) (zup σ 36 0 5 0)) ∧ (¬ zshl 1 (σ 36 0 1) ≤ l4 → ((l3 < 0 → Runs 6 mX11_bothWays 75 [zR 34 0, zI l1, zU, zI l3, zI l4] [] σ Q) ∧ (¬ l3 < 0 → Runs 0 mX11_bits 0 [zI l4, zU, zU] [] σ (rI (fun z2 σ1 => Runs 0 mX11_bits 0 [zI l3, zU, zU] [] σ1 (rI (fun z4 σ3 => ((z2 < z4 → Runs 6 mX11_bothWays 75 [zR 34 0, zI l1, zU, zI l3, zI l4] [] σ3 Q) ∧ (¬ z2 < z4 → (-2147483648 ≤ l4 + 1 ∧ l4 + 1 ≤ 2147483647) ∧ Runs 6 mX11_bothWays 43 [zR 34 0, zI l1, zU, zI l3, zI (l4 + 1)] [] σ3 Q))))))))))) : Runs 6 mX11_bothWays 43 [zR 34 0, zI l1, zU, zI l3, zI l4] [] σ Q := by
  refine r_blk [qO (.iload 4), qO (.iconst 1), qO (.aload_n 0), qF (.getfield 13) 11 1, qO (.iconst 1), qO .iaload, qO .ishl] (pc' := 53) (L' := [zR 34 0, zI l1, zU, zI l3, zI l4]) (S' := [zI (zshl 1 (σ 36 0 1)), zI l4]) (σ' := σ) (Ps := [0 ≤ 1 ∧ 1 < 123]) (by decide +kernel) rfl ⟨(by decide), trivial⟩ ?_
  refine r_icmp_ge (off := 51) (tgt := 104) (by decide +kernel) (by decide) (fun c => ?_) (fun c => ?_)
  · replace h := h.1 c
    refine r_blk [qO (.aload_n 0), qF (.getfield 13) 11 1, qO (.iconst 5), qO (.iconst 0), qO .iastore, qO (.iload_n 3)] (pc' := 112) (L' := [zR 34 0, zI l1, zU, zI l3, zI l4]) (S' := [zI l3]) (σ' := (zup σ 36 0 5 0)) (Ps := [0 ≤ 5 ∧ 5 < 123]) (by decide +kernel) rfl ⟨(by decide), trivial⟩ ?_
    exact r_ret (by decide +kernel) rfl (fun _ => h)
  · replace h := h.2 c
    refine r_blk [qO (.iload_n 3)] (pc' := 57) (L' := [zR 34 0, zI l1, zU, zI l3, zI l4]) (S' := [zI l3]) (σ' := σ) (Ps := []) (by decide +kernel) rfl trivial ?_
    refine r_if_lt (off := 18) (tgt := 75) (by decide +kernel) (by decide) (fun c => ?_) (fun c => ?_)
    · replace h := h.1 c
      exact Runs.fg (fgE (fgE (fgU (fgE (fgE fg0))))) h
    · replace h := h.2 c
      refine r_blk [qO (.iload 4)] (pc' := 62) (L' := [zR 34 0, zI l1, zU, zI l3, zI l4]) (S' := [zI l4]) (σ' := σ) (Ps := []) (by decide +kernel) rfl trivial ?_
      refine r_callSI (As := [zI l4]) (S := []) (Lc := [zI l4, zU, zU]) (d' := 0) (n := 1) kX11_bits vX11_bits lkX11_200 (by decide +kernel) (by decide) rfl rfl (Nat.le_of_ble_eq_true rfl) rfl rfl (Nat.le_of_ble_eq_true rfl) (h.monoI (fun z2 σ1 h => ?_))
      refine r_blk [qO (.iload_n 3)] (pc' := 66) (L' := [zR 34 0, zI l1, zU, zI l3, zI l4]) (S' := [zI l3, zI z2]) (σ' := σ1) (Ps := []) (by decide +kernel) rfl trivial ?_
      refine r_callSI (As := [zI l3]) (S := [zI z2]) (Lc := [zI l3, zU, zU]) (d' := 0) (n := 1) kX11_bits vX11_bits lkX11_200 (by decide +kernel) (by decide) rfl rfl (Nat.le_of_ble_eq_true rfl) rfl rfl (Nat.le_of_ble_eq_true rfl) (h.monoI (fun z4 σ3 h => ?_))
      refine r_icmp_lt (off := 6) (tgt := 75) (by decide +kernel) (by decide) (fun c => ?_) (fun c => ?_)
      · replace h := h.1 c
        exact Runs.fg (fgE (fgE (fgU (fgE (fgE fg0))))) h
      · replace h := h.2 c
        refine r_blk [qO (.goto 26), qO (.iinc 4 1), qO (.goto (-58))] (pc' := 43) (L' := [zR 34 0, zI l1, zU, zI l3, zI (l4 + 1)]) (S' := []) (σ' := σ3) (Ps := [-2147483648 ≤ l4 + 1 ∧ l4 + 1 ≤ 2147483647]) (by decide +kernel) rfl ⟨h.1, trivial⟩ ?_
        replace h := h.2
        exact Runs.fg (fgE (fgE (fgU (fgE (fgE fg0))))) h
theorem gX11_bothWays_75 (l1 : Int) (l3 : Int) (l4 : Int) (σ : Hp) {Q : Option Int → Hp → Prop} (h : Runs 5 mX11_costOf 0 [zR 34 0, zU, zU, zU] [] (zup σ 36 0 5 l4) (rI (fun z2 σ1 => ((l1 < z2 → (-2147483648 ≤ l4 + 1 ∧ l4 + 1 ≤ 2147483647) ∧ Runs 6 mX11_bothWays 43 [zR 34 0, zI l1, zU, zI l3, zI (l4 + 1)] [] σ1 Q) ∧ (¬ l1 < z2 → (-2147483648 ≤ l4 + 1 ∧ l4 + 1 ≤ 2147483647) ∧ Runs 6 mX11_bothWays 43 [zR 34 0, zI l1, zU, zI l4, zI (l4 + 1)] [] σ1 Q))))) : Runs 6 mX11_bothWays 75 [zR 34 0, zI l1, zU, zI l3, zI l4] [] σ Q := by
  refine r_blk [qO (.aload_n 0), qF (.getfield 13) 11 1, qO (.iconst 5), qO (.iload 4), qO .iastore, qO (.aload_n 0)] (pc' := 84) (L' := [zR 34 0, zI l1, zU, zI l3, zI l4]) (S' := [zR 34 0]) (σ' := (zup σ 36 0 5 l4)) (Ps := [0 ≤ 5 ∧ 5 < 123]) (by decide +kernel) rfl ⟨(by decide), trivial⟩ ?_
  refine r_callVI (As := []) (S := []) (Lc := [zR 34 0, zU, zU, zU]) (d' := 5) (n := 0) (g := 34) (x := 0) (ci := 11) kX11_costOf vX11_costOf lkX11_187 (by decide +kernel) (by decide) rfl rfl (by decide) rfl rfl (Nat.le_of_ble_eq_true rfl) rfl rfl (Nat.le_of_ble_eq_true rfl) (h.monoI (fun z2 σ1 h => ?_))
  refine r_blk [qO (.iload_n 1)] (pc' := 88) (L' := [zR 34 0, zI l1, zU, zI l3, zI l4]) (S' := [zI l1, zI z2]) (σ' := σ1) (Ps := []) (by decide +kernel) rfl trivial ?_
  refine r_icmp_gt (off := 8) (tgt := 96) (by decide +kernel) (by decide) (fun c => ?_) (fun c => ?_)
  · replace h := h.1 c
    refine r_blk [qO (.iload_n 3), qO (.istore_n 3), qO (.iinc 4 1), qO (.goto (-58))] (pc' := 43) (L' := [zR 34 0, zI l1, zU, zI l3, zI (l4 + 1)]) (S' := []) (σ' := σ1) (Ps := [-2147483648 ≤ l4 + 1 ∧ l4 + 1 ≤ 2147483647]) (by decide +kernel) rfl ⟨h.1, trivial⟩ ?_
    replace h := h.2
    exact Runs.fg (fgE (fgE (fgU (fgE (fgE fg0))))) h
  · replace h := h.2 c
    refine r_blk [qO (.iload 4), qO (.goto 4), qO (.istore_n 3), qO (.iinc 4 1), qO (.goto (-58))] (pc' := 43) (L' := [zR 34 0, zI l1, zU, zI l4, zI (l4 + 1)]) (S' := []) (σ' := σ1) (Ps := [-2147483648 ≤ l4 + 1 ∧ l4 + 1 ≤ 2147483647]) (by decide +kernel) rfl ⟨h.1, trivial⟩ ?_
    replace h := h.2
    exact Runs.fg (fgE (fgE (fgU (fgE (fgE fg0))))) h
theorem gX11_corner_0 (a0 : Int) (σ : Hp) {Q : Option Int → Hp → Prop} (h : Runs 1 mX11_isCorner 0 [zR 34 0, zI a0] [] σ (rI (fun z2 σ1 => ((¬ z2 = 0 → ((¬ σ1 36 0 6 = 10 → (-2147483648 ≤ 113 + (σ1 36 0 6) ∧ 113 + (σ1 36 0 6) ≤ 2147483647) ∧ (0 ≤ 113 + (σ1 36 0 6) ∧ 113 + (σ1 36 0 6) < 123) ∧ (-2147483648 ≤ ((zup σ1 36 0 ((113 + (σ1 36 0 6)).toNat) a0) 36 0 6) + 1 ∧ ((zup σ1 36 0 ((113 + (σ1 36 0 6)).toNat) a0) 36 0 6) + 1 ≤ 2147483647) ∧ ∀ σ3 : Hp, σ3 = (zup (zup σ1 36 0 ((113 + (σ1 36 0 6)).toNat) a0) 36 0 6 (((zup σ1 36 0 ((113 + (σ1 36 0 6)).toNat) a0) 36 0 6) + 1)) → Q (some (((zup σ1 36 0 ((113 + (σ1 36 0 6)).toNat) a0) 36 0 6) + 1)) σ3) ∧ (σ1 36 0 6 = 10 → Runs 0 mX11_refuse 0 [zR 34 0, zI (-6)] [] σ1 (rI (fun z5 σ4 => Q (some z5) σ4))))) ∧ (z2 = 0 → Runs 0 mX11_refuse 0 [zR 34 0, zI (-1)] [] σ1 (rI (fun z7 σ6 => Q (some z7) σ6))))))) : Runs 2 mX11_corner 0 [zR 34 0, zI a0, zU] [] σ Q := by
  refine r_blk [qO (.aload_n 0), qO (.iload_n 1)] (pc' := 2) (L' := [zR 34 0, zI a0, zU]) (S' := [zI a0, zR 34 0]) (σ' := σ) (Ps := []) (by decide +kernel) rfl trivial ?_
  refine r_callVI (As := [zI a0]) (S := []) (Lc := [zR 34 0, zI a0]) (d' := 1) (n := 1) (g := 34) (x := 0) (ci := 11) kX11_isCorner vX11_isCorner lkX11_136 (by decide +kernel) (by decide) rfl rfl (by decide) rfl rfl (Nat.le_of_ble_eq_true rfl) rfl rfl (Nat.le_of_ble_eq_true rfl) (h.monoI (fun z2 σ1 h => ?_))
  refine r_if_ne (off := 7) (tgt := 12) (by decide +kernel) (by decide) (fun c => ?_) (fun c => ?_)
  · replace h := h.1 c
    refine r_blk [qO (.aload_n 0), qF (.getfield 13) 11 1, qO (.bipush 6), qO .iaload, qO (.bipush 10)] (pc' := 21) (L' := [zR 34 0, zI a0, zU]) (S' := [zI 10, zI (σ1 36 0 6)]) (σ' := σ1) (Ps := [0 ≤ 6 ∧ 6 < 123]) (by decide +kernel) rfl ⟨(by decide), trivial⟩ ?_
    refine r_icmp_ne (off := 8) (tgt := 29) (by decide +kernel) (by decide) (fun c => ?_) (fun c => ?_)
    · replace h := h.1 c
      refine r_blk [qO (.iconst 0), qO (.istore_n 2), qO (.iload_n 2)] (pc' := 32) (L' := [zR 34 0, zI a0, zI 0]) (S' := [zI 0]) (σ' := σ1) (Ps := []) (by decide +kernel) rfl trivial ?_
      refine r_if_eq (off := 9) (tgt := 41) (by decide +kernel) (by decide) (fun c => ?_) (fun c => ?_)
      · refine r_blk [qO (.aload_n 0), qF (.getfield 13) 11 1, qO (.bipush 113), qO (.aload_n 0), qF (.getfield 13) 11 1, qO (.bipush 6), qO .iaload, qO .iadd, qO (.iload_n 1), qO .iastore, qO (.aload_n 0), qF (.getfield 13) 11 1, qO (.bipush 6), qO .dup2, qO .iaload, qO (.iconst 1), qO .iadd, qO .iastore, qO (.aload_n 0), qF (.getfield 13) 11 1, qO (.bipush 6), qO .iaload] (pc' := 75) (L' := [zR 34 0, zI a0, zI 0]) (S' := [zI (((zup σ1 36 0 ((113 + (σ1 36 0 6)).toNat) a0) 36 0 6) + 1)]) (σ' := (zup (zup σ1 36 0 ((113 + (σ1 36 0 6)).toNat) a0) 36 0 6 (((zup σ1 36 0 ((113 + (σ1 36 0 6)).toNat) a0) 36 0 6) + 1))) (Ps := [0 ≤ 6 ∧ 6 < 123, -2147483648 ≤ 113 + (σ1 36 0 6) ∧ 113 + (σ1 36 0 6) ≤ 2147483647, 0 ≤ 113 + (σ1 36 0 6) ∧ 113 + (σ1 36 0 6) < 123, 0 ≤ 6 ∧ 6 < 123, -2147483648 ≤ ((zup σ1 36 0 ((113 + (σ1 36 0 6)).toNat) a0) 36 0 6) + 1 ∧ ((zup σ1 36 0 ((113 + (σ1 36 0 6)).toNat) a0) 36 0 6) + 1 ≤ 2147483647, 0 ≤ 6 ∧ 6 < 123, 0 ≤ 6 ∧ 6 < 123]) (by decide +kernel) rfl ⟨(by decide), h.1, h.2.1, (by decide), h.2.2.1, (by decide), (by decide), trivial⟩ ?_
        replace h := h.2.2.2
        generalize hσ3 : (zup (zup σ1 36 0 ((113 + (σ1 36 0 6)).toNat) a0) 36 0 6 (((zup σ1 36 0 ((113 + (σ1 36 0 6)).toNat) a0) 36 0 6) + 1)) = σ3
        replace h := h σ3 hσ3.symm
        exact r_ret (by decide +kernel) rfl (fun _ => h)
      · exact absurd c (by decide)
    · replace h := h.2 c
      refine r_blk [qO (.bipush (-6)), qO (.goto 4), qO (.istore_n 2), qO (.iload_n 2)] (pc' := 32) (L' := [zR 34 0, zI a0, zI (-6)]) (S' := [zI (-6)]) (σ' := σ1) (Ps := []) (by decide +kernel) rfl trivial ?_
      refine r_if_eq (off := 9) (tgt := 41) (by decide +kernel) (by decide) (fun c => ?_) (fun c => ?_)
      · exact absurd c (by decide)
      · refine r_blk [qO (.aload_n 0), qO (.iload_n 2)] (pc' := 37) (L' := [zR 34 0, zI a0, zI (-6)]) (S' := [zI (-6), zR 34 0]) (σ' := σ1) (Ps := []) (by decide +kernel) rfl trivial ?_
        refine r_callVI (As := [zI (-6)]) (S := []) (Lc := [zR 34 0, zI (-6)]) (d' := 0) (n := 1) (g := 34) (x := 0) (ci := 11) kX11_refuse vX11_refuse lkX11_66 (by decide +kernel) (by decide) rfl rfl (by decide) rfl rfl (Nat.le_of_ble_eq_true rfl) rfl rfl (Nat.le_of_ble_eq_true rfl) (h.monoI (fun z5 σ4 h => ?_))
        exact r_ret (by decide +kernel) rfl (fun _ => h)
  · replace h := h.2 c
    refine r_blk [qO (.iconst (-1)), qO (.goto 21), qO (.istore_n 2), qO (.iload_n 2)] (pc' := 32) (L' := [zR 34 0, zI a0, zI (-1)]) (S' := [zI (-1)]) (σ' := σ1) (Ps := []) (by decide +kernel) rfl trivial ?_
    refine r_if_eq (off := 9) (tgt := 41) (by decide +kernel) (by decide) (fun c => ?_) (fun c => ?_)
    · exact absurd c (by decide)
    · refine r_blk [qO (.aload_n 0), qO (.iload_n 2)] (pc' := 37) (L' := [zR 34 0, zI a0, zI (-1)]) (S' := [zI (-1), zR 34 0]) (σ' := σ1) (Ps := []) (by decide +kernel) rfl trivial ?_
      refine r_callVI (As := [zI (-1)]) (S := []) (Lc := [zR 34 0, zI (-1)]) (d' := 0) (n := 1) (g := 34) (x := 0) (ci := 11) kX11_refuse vX11_refuse lkX11_66 (by decide +kernel) (by decide) rfl rfl (by decide) rfl rfl (Nat.le_of_ble_eq_true rfl) rfl rfl (Nat.le_of_ble_eq_true rfl) (h.monoI (fun z7 σ6 h => ?_))
      exact r_ret (by decide +kernel) rfl (fun _ => h)
theorem gX11_along_0 (a0 : Int) (a1 : Int) (σ : Hp) {Q : Option Int → Hp → Prop} (h : Runs 3 mX11_along 6 [zR 34 0, zI a0, zI a1, zI (-9), zI 0, zU] [] σ Q) : Runs 3 mX11_along 0 [zR 34 0, zI a0, zI a1, zU, zU, zU] [] σ Q := by
  refine r_blk [qO (.bipush (-9)), qO (.istore_n 3), qO (.iconst 0), qO (.istore 4)] (pc' := 6) (L' := [zR 34 0, zI a0, zI a1, zI (-9), zI 0, zU]) (S' := []) (σ' := σ) (Ps := []) (by decide +kernel) rfl trivial ?_
  exact Runs.fg (fgE (fgE (fgE (fgE (fgE (fgU fg0)))))) h
theorem gX11_along_6 (l1 : Int) (l2 : Int) (l3 : Int) (l4 : Int) (σ : Hp) {Q : Option Int → Hp → Prop} (h : ((σ 36 0 1 ≤ l4 → Q (some l3) σ) ∧ (¬ σ 36 0 1 ≤ l4 → Runs 3 mX11_along 20 [zR 34 0, zI l1, zI l2, zI l3, zI l4, zI 0] [] σ Q))) : Runs 3 mX11_along 6 [zR 34 0, zI l1, zI l2, zI l3, zI l4, zU] [] σ Q := by
  refine r_blk [qO (.iload 4), qO (.aload_n 0), qF (.getfield 13) 11 1, qO (.iconst 1), qO .iaload] (pc' := 14) (L' := [zR 34 0, zI l1, zI l2, zI l3, zI l4, zU]) (S' := [zI (σ 36 0 1), zI l4]) (σ' := σ) (Ps := [0 ≤ 1 ∧ 1 < 123]) (by decide +kernel) rfl ⟨(by decide), trivial⟩ ?_
  refine r_icmp_ge (off := 92) (tgt := 106) (by decide +kernel) (by decide) (fun c => ?_) (fun c => ?_)
  · replace h := h.1 c
    refine r_blk [qO (.iload_n 3)] (pc' := 107) (L' := [zR 34 0, zI l1, zI l2, zI l3, zI l4, zU]) (S' := [zI l3]) (σ' := σ) (Ps := []) (by decide +kernel) rfl trivial ?_
    exact r_ret (by decide +kernel) rfl (fun _ => h)
  · replace h := h.2 c
    refine r_blk [qO (.iconst 0), qO (.istore 5)] (pc' := 20) (L' := [zR 34 0, zI l1, zI l2, zI l3, zI l4, zI 0]) (S' := []) (σ' := σ) (Ps := []) (by decide +kernel) rfl trivial ?_
    exact Runs.fg (fgE (fgE (fgE (fgE (fgE (fgE fg0)))))) h
theorem gX11_along_20 (l1 : Int) (l2 : Int) (l3 : Int) (l4 : Int) (l5 : Int) (σ : Hp) {Q : Option Int → Hp → Prop} (h : ((2 ≤ l5 → (-2147483648 ≤ l4 + 1 ∧ l4 + 1 ≤ 2147483647) ∧ Runs 3 mX11_along 6 [zR 34 0, zI l1, zI l2, zI l3, zI (l4 + 1), zU] [] σ Q) ∧ (¬ 2 ≤ l5 → Runs 0 mX11_get 0 [zR 34 0, zI l4, zI l5] [] σ (rI (fun z2 σ1 => ((¬ z2 = l1 → (-2147483648 ≤ l5 + 1 ∧ l5 + 1 ≤ 2147483647) ∧ Runs 3 mX11_along 20 [zR 34 0, zI l1, zI l2, zI l3, zI l4, zI (l5 + 1)] [] σ1 Q) ∧ (z2 = l1 → (-2147483648 ≤ 1 - l5 ∧ 1 - l5 ≤ 2147483647) ∧ Runs 0 mX11_get 0 [zR 34 0, zI l4, zI (1 - l5)] [] σ1 (rI (fun z4 σ3 => ((¬ z4 = l2 → (-2147483648 ≤ l5 + 1 ∧ l5 + 1 ≤ 2147483647) ∧ Runs 3 mX11_along 20 [zR 34 0, zI l1, zI l2, zI l3, zI l4, zI (l5 + 1)] [] σ3 Q) ∧ (z4 = l2 → Runs 2 mX11_goesFrom 0 [zR 34 0, zI l4, zI l5, zI 0, zU] [] σ3 (rI (fun z6 σ5 => ((¬ z6 = 0 → ((l3 < 0 → Runs 0 mX11_get 0 [zR 34 0, zI l4, zI 2] [] σ5 (rI (fun z8 σ7 => (-2147483648 ≤ l5 + 1 ∧ l5 + 1 ≤ 2147483647) ∧ Runs 3 mX11_along 20 [zR 34 0, zI l1, zI l2, zI z8, zI l4, zI (l5 + 1)] [] σ7 Q))) ∧ (¬ l3 < 0 → Runs 0 mX11_get 0 [zR 34 0, zI l4, zI 2] [] σ5 (rI (fun z10 σ9 => ((l3 ≤ z10 → (-2147483648 ≤ l5 + 1 ∧ l5 + 1 ≤ 2147483647) ∧ Runs 3 mX11_along 20 [zR 34 0, zI l1, zI l2, zI l3, zI l4, zI (l5 + 1)] [] σ9 Q) ∧ (¬ l3 ≤ z10 → Runs 0 mX11_get 0 [zR 34 0, zI l4, zI 2] [] σ9 (rI (fun z12 σ11 => (-2147483648 ≤ l5 + 1 ∧ l5 + 1 ≤ 2147483647) ∧ Runs 3 mX11_along 20 [zR 34 0, zI l1, zI l2, zI z12, zI l4, zI (l5 + 1)] [] σ11 Q))))))))) ∧ (z6 = 0 → (-2147483648 ≤ l5 + 1 ∧ l5 + 1 ≤ 2147483647) ∧ Runs 3 mX11_along 20 [zR 34 0, zI l1, zI l2, zI l3, zI l4, zI (l5 + 1)] [] σ5 Q))))))))))))))) : Runs 3 mX11_along 20 [zR 34 0, zI l1, zI l2, zI l3, zI l4, zI l5] [] σ Q := by
  refine r_blk [qO (.iload 5), qO (.iconst 2)] (pc' := 23) (L' := [zR 34 0, zI l1, zI l2, zI l3, zI l4, zI l5]) (S' := [zI 2, zI l5]) (σ' := σ) (Ps := []) (by decide +kernel) rfl trivial ?_
  refine r_icmp_ge (off := 77) (tgt := 100) (by decide +kernel) (by decide) (fun c => ?_) (fun c => ?_)
  · replace h := h.1 c
    refine r_blk [qO (.iinc 4 1), qO (.goto (-97))] (pc' := 6) (L' := [zR 34 0, zI l1, zI l2, zI l3, zI (l4 + 1), zI l5]) (S' := []) (σ' := σ) (Ps := [-2147483648 ≤ l4 + 1 ∧ l4 + 1 ≤ 2147483647]) (by decide +kernel) rfl ⟨h.1, trivial⟩ ?_
    replace h := h.2
    exact Runs.fg (fgE (fgE (fgE (fgE (fgE (fgU fg0)))))) h
  · replace h := h.2 c
    refine r_blk [qO (.aload_n 0), qO (.iload 4), qO (.iload 5)] (pc' := 31) (L' := [zR 34 0, zI l1, zI l2, zI l3, zI l4, zI l5]) (S' := [zI l5, zI l4, zR 34 0]) (σ' := σ) (Ps := []) (by decide +kernel) rfl trivial ?_
    refine r_callVI (As := [zI l4, zI l5]) (S := []) (Lc := [zR 34 0, zI l4, zI l5]) (d' := 0) (n := 2) (g := 34) (x := 0) (ci := 11) kX11_get vX11_get lkX11_106 (by decide +kernel) (by decide) rfl rfl (by decide) rfl rfl (Nat.le_of_ble_eq_true rfl) rfl rfl (Nat.le_of_ble_eq_true rfl) (h.monoI (fun z2 σ1 h => ?_))
    refine r_blk [qO (.iload_n 1)] (pc' := 35) (L' := [zR 34 0, zI l1, zI l2, zI l3, zI l4, zI l5]) (S' := [zI l1, zI z2]) (σ' := σ1) (Ps := []) (by decide +kernel) rfl trivial ?_
    refine r_icmp_ne (off := 59) (tgt := 94) (by decide +kernel) (by decide) (fun c => ?_) (fun c => ?_)
    · replace h := h.1 c
      refine r_blk [qO (.iinc 5 1), qO (.goto (-77))] (pc' := 20) (L' := [zR 34 0, zI l1, zI l2, zI l3, zI l4, zI (l5 + 1)]) (S' := []) (σ' := σ1) (Ps := [-2147483648 ≤ l5 + 1 ∧ l5 + 1 ≤ 2147483647]) (by decide +kernel) rfl ⟨h.1, trivial⟩ ?_
      replace h := h.2
      exact Runs.fg (fgE (fgE (fgE (fgE (fgE (fgE fg0)))))) h
    · replace h := h.2 c
      refine r_blk [qO (.aload_n 0), qO (.iload 4), qO (.iconst 1), qO (.iload 5), qO .isub] (pc' := 45) (L' := [zR 34 0, zI l1, zI l2, zI l3, zI l4, zI l5]) (S' := [zI (1 - l5), zI l4, zR 34 0]) (σ' := σ1) (Ps := [-2147483648 ≤ 1 - l5 ∧ 1 - l5 ≤ 2147483647]) (by decide +kernel) rfl ⟨h.1, trivial⟩ ?_
      replace h := h.2
      refine r_callVI (As := [zI l4, zI (1 - l5)]) (S := []) (Lc := [zR 34 0, zI l4, zI (1 - l5)]) (d' := 0) (n := 2) (g := 34) (x := 0) (ci := 11) kX11_get vX11_get lkX11_106 (by decide +kernel) (by decide) rfl rfl (by decide) rfl rfl (Nat.le_of_ble_eq_true rfl) rfl rfl (Nat.le_of_ble_eq_true rfl) (h.monoI (fun z4 σ3 h => ?_))
      refine r_blk [qO (.iload_n 2)] (pc' := 49) (L' := [zR 34 0, zI l1, zI l2, zI l3, zI l4, zI l5]) (S' := [zI l2, zI z4]) (σ' := σ3) (Ps := []) (by decide +kernel) rfl trivial ?_
      refine r_icmp_ne (off := 45) (tgt := 94) (by decide +kernel) (by decide) (fun c => ?_) (fun c => ?_)
      · replace h := h.1 c
        refine r_blk [qO (.iinc 5 1), qO (.goto (-77))] (pc' := 20) (L' := [zR 34 0, zI l1, zI l2, zI l3, zI l4, zI (l5 + 1)]) (S' := []) (σ' := σ3) (Ps := [-2147483648 ≤ l5 + 1 ∧ l5 + 1 ≤ 2147483647]) (by decide +kernel) rfl ⟨h.1, trivial⟩ ?_
        replace h := h.2
        exact Runs.fg (fgE (fgE (fgE (fgE (fgE (fgE fg0)))))) h
      · replace h := h.2 c
        refine r_blk [qO (.aload_n 0), qO (.iload 4), qO (.iload 5), qO (.iconst 0)] (pc' := 58) (L' := [zR 34 0, zI l1, zI l2, zI l3, zI l4, zI l5]) (S' := [zI 0, zI l5, zI l4, zR 34 0]) (σ' := σ3) (Ps := []) (by decide +kernel) rfl trivial ?_
        refine r_callVI (As := [zI l4, zI l5, zI 0]) (S := []) (Lc := [zR 34 0, zI l4, zI l5, zI 0, zU]) (d' := 2) (n := 3) (g := 34) (x := 0) (ci := 11) kX11_goesFrom vX11_goesFrom lkX11_129 (by decide +kernel) (by decide) rfl rfl (by decide) rfl rfl (Nat.le_of_ble_eq_true rfl) rfl rfl (Nat.le_of_ble_eq_true rfl) (h.monoI (fun z6 σ5 h => ?_))
        refine r_if_ne (off := 6) (tgt := 67) (by decide +kernel) (by decide) (fun c => ?_) (fun c => ?_)
        · replace h := h.1 c
          refine r_blk [qO (.iload_n 3)] (pc' := 68) (L' := [zR 34 0, zI l1, zI l2, zI l3, zI l4, zI l5]) (S' := [zI l3]) (σ' := σ5) (Ps := []) (by decide +kernel) rfl trivial ?_
          refine r_if_lt (off := 14) (tgt := 82) (by decide +kernel) (by decide) (fun c => ?_) (fun c => ?_)
          · replace h := h.1 c
            refine r_blk [qO (.aload_n 0), qO (.iload 4), qO (.iconst 2)] (pc' := 86) (L' := [zR 34 0, zI l1, zI l2, zI l3, zI l4, zI l5]) (S' := [zI 2, zI l4, zR 34 0]) (σ' := σ5) (Ps := []) (by decide +kernel) rfl trivial ?_
            refine r_callVI (As := [zI l4, zI 2]) (S := []) (Lc := [zR 34 0, zI l4, zI 2]) (d' := 0) (n := 2) (g := 34) (x := 0) (ci := 11) kX11_get vX11_get lkX11_106 (by decide +kernel) (by decide) rfl rfl (by decide) rfl rfl (Nat.le_of_ble_eq_true rfl) rfl rfl (Nat.le_of_ble_eq_true rfl) (h.monoI (fun z8 σ7 h => ?_))
            refine r_blk [qO (.goto 4), qO (.istore_n 3), qO (.iinc 5 1), qO (.goto (-77))] (pc' := 20) (L' := [zR 34 0, zI l1, zI l2, zI z8, zI l4, zI (l5 + 1)]) (S' := []) (σ' := σ7) (Ps := [-2147483648 ≤ l5 + 1 ∧ l5 + 1 ≤ 2147483647]) (by decide +kernel) rfl ⟨h.1, trivial⟩ ?_
            replace h := h.2
            exact Runs.fg (fgE (fgE (fgE (fgE (fgE (fgE fg0)))))) h
          · replace h := h.2 c
            refine r_blk [qO (.aload_n 0), qO (.iload 4), qO (.iconst 2)] (pc' := 75) (L' := [zR 34 0, zI l1, zI l2, zI l3, zI l4, zI l5]) (S' := [zI 2, zI l4, zR 34 0]) (σ' := σ5) (Ps := []) (by decide +kernel) rfl trivial ?_
            refine r_callVI (As := [zI l4, zI 2]) (S := []) (Lc := [zR 34 0, zI l4, zI 2]) (d' := 0) (n := 2) (g := 34) (x := 0) (ci := 11) kX11_get vX11_get lkX11_106 (by decide +kernel) (by decide) rfl rfl (by decide) rfl rfl (Nat.le_of_ble_eq_true rfl) rfl rfl (Nat.le_of_ble_eq_true rfl) (h.monoI (fun z10 σ9 h => ?_))
            refine r_blk [qO (.iload_n 3)] (pc' := 79) (L' := [zR 34 0, zI l1, zI l2, zI l3, zI l4, zI l5]) (S' := [zI l3, zI z10]) (σ' := σ9) (Ps := []) (by decide +kernel) rfl trivial ?_
            refine r_icmp_ge (off := 13) (tgt := 92) (by decide +kernel) (by decide) (fun c => ?_) (fun c => ?_)
            · replace h := h.1 c
              refine r_blk [qO (.iload_n 3), qO (.istore_n 3), qO (.iinc 5 1), qO (.goto (-77))] (pc' := 20) (L' := [zR 34 0, zI l1, zI l2, zI l3, zI l4, zI (l5 + 1)]) (S' := []) (σ' := σ9) (Ps := [-2147483648 ≤ l5 + 1 ∧ l5 + 1 ≤ 2147483647]) (by decide +kernel) rfl ⟨h.1, trivial⟩ ?_
              replace h := h.2
              exact Runs.fg (fgE (fgE (fgE (fgE (fgE (fgE fg0)))))) h
            · replace h := h.2 c
              refine r_blk [qO (.aload_n 0), qO (.iload 4), qO (.iconst 2)] (pc' := 86) (L' := [zR 34 0, zI l1, zI l2, zI l3, zI l4, zI l5]) (S' := [zI 2, zI l4, zR 34 0]) (σ' := σ9) (Ps := []) (by decide +kernel) rfl trivial ?_
              refine r_callVI (As := [zI l4, zI 2]) (S := []) (Lc := [zR 34 0, zI l4, zI 2]) (d' := 0) (n := 2) (g := 34) (x := 0) (ci := 11) kX11_get vX11_get lkX11_106 (by decide +kernel) (by decide) rfl rfl (by decide) rfl rfl (Nat.le_of_ble_eq_true rfl) rfl rfl (Nat.le_of_ble_eq_true rfl) (h.monoI (fun z12 σ11 h => ?_))
              refine r_blk [qO (.goto 4), qO (.istore_n 3), qO (.iinc 5 1), qO (.goto (-77))] (pc' := 20) (L' := [zR 34 0, zI l1, zI l2, zI z12, zI l4, zI (l5 + 1)]) (S' := []) (σ' := σ11) (Ps := [-2147483648 ≤ l5 + 1 ∧ l5 + 1 ≤ 2147483647]) (by decide +kernel) rfl ⟨h.1, trivial⟩ ?_
              replace h := h.2
              exact Runs.fg (fgE (fgE (fgE (fgE (fgE (fgE fg0)))))) h
        · replace h := h.2 c
          refine r_blk [qO (.goto 30), qO (.iinc 5 1), qO (.goto (-77))] (pc' := 20) (L' := [zR 34 0, zI l1, zI l2, zI l3, zI l4, zI (l5 + 1)]) (S' := []) (σ' := σ5) (Ps := [-2147483648 ≤ l5 + 1 ∧ l5 + 1 ≤ 2147483647]) (by decide +kernel) rfl ⟨h.1, trivial⟩ ?_
          replace h := h.2
          exact Runs.fg (fgE (fgE (fgE (fgE (fgE (fgE fg0)))))) h
theorem gX11_procession_0 (σ : Hp) {Q : Option Int → Hp → Prop} (h : ((2 ≤ σ 36 0 6 → Runs 4 mX11_procession 32 [zR 34 0, zI (σ 36 0 6), zI 0, zI 0, zU] [] (zup σ 36 0 6 0) Q) ∧ (¬ 2 ≤ σ 36 0 6 → Runs 0 mX11_refuse 0 [zR 34 0, zI (-3)] [] σ (rI (fun z2 σ1 => Q (some z2) σ1))))) : Runs 4 mX11_procession 0 [zR 34 0, zU, zU, zU, zU] [] σ Q := by
  refine r_blk [qO (.aload_n 0), qF (.getfield 13) 11 1, qO (.bipush 6), qO .iaload, qO (.istore_n 1), qO (.iload_n 1), qO (.iconst 2)] (pc' := 10) (L' := [zR 34 0, zI (σ 36 0 6), zU, zU, zU]) (S' := [zI 2, zI (σ 36 0 6)]) (σ' := σ) (Ps := [0 ≤ 6 ∧ 6 < 123]) (by decide +kernel) rfl ⟨(by decide), trivial⟩ ?_
  refine r_icmp_ge (off := 10) (tgt := 20) (by decide +kernel) (by decide) (fun c => ?_) (fun c => ?_)
  · replace h := h.1 c
    refine r_blk [qO (.aload_n 0), qF (.getfield 13) 11 1, qO (.bipush 6), qO (.iconst 0), qO .iastore, qO (.iconst 0), qO (.istore_n 2), qO (.iconst 0), qO (.istore_n 3)] (pc' := 32) (L' := [zR 34 0, zI (σ 36 0 6), zI 0, zI 0, zU]) (S' := []) (σ' := (zup σ 36 0 6 0)) (Ps := [0 ≤ 6 ∧ 6 < 123]) (by decide +kernel) rfl ⟨(by decide), trivial⟩ ?_
    exact Runs.fg (fgE (fgE (fgE (fgE (fgU fg0))))) h
  · replace h := h.2 c
    refine r_blk [qO (.aload_n 0), qO (.bipush (-3))] (pc' := 16) (L' := [zR 34 0, zI (σ 36 0 6), zU, zU, zU]) (S' := [zI (-3), zR 34 0]) (σ' := σ) (Ps := []) (by decide +kernel) rfl trivial ?_
    refine r_callVI (As := [zI (-3)]) (S := []) (Lc := [zR 34 0, zI (-3)]) (d' := 0) (n := 1) (g := 34) (x := 0) (ci := 11) kX11_refuse vX11_refuse lkX11_66 (by decide +kernel) (by decide) rfl rfl (by decide) rfl rfl (Nat.le_of_ble_eq_true rfl) rfl rfl (Nat.le_of_ble_eq_true rfl) (h.monoI (fun z2 σ1 h => ?_))
    exact r_ret (by decide +kernel) rfl (fun _ => h)
theorem gX11_procession_32 (l1 : Int) (l2 : Int) (l3 : Int) (σ : Hp) {Q : Option Int → Hp → Prop} (h : ((l1 ≤ l3 → Q (some l2) σ) ∧ (¬ l1 ≤ l3 → (-2147483648 ≤ 113 + l3 ∧ 113 + l3 ≤ 2147483647) ∧ (0 ≤ 113 + l3 ∧ 113 + l3 < 123) ∧ (-2147483648 ≤ l3 + 1 ∧ l3 + 1 ≤ 2147483647) ∧ (l1 ≠ 0) ∧ (-2147483648 ≤ 113 + (zrem (l3 + 1) l1) ∧ 113 + (zrem (l3 + 1) l1) ≤ 2147483647) ∧ (0 ≤ 113 + (zrem (l3 + 1) l1) ∧ 113 + (zrem (l3 + 1) l1) < 123) ∧ Runs 3 mX11_along 0 [zR 34 0, zI (σ 36 0 ((113 + l3).toNat)), zI (σ 36 0 ((113 + (zrem (l3 + 1) l1)).toNat)), zU, zU, zU] [] σ (rI (fun z2 σ1 => ((0 ≤ z2 → (-2147483648 ≤ l2 + z2 ∧ l2 + z2 ≤ 2147483647) ∧ (-2147483648 ≤ l3 + 1 ∧ l3 + 1 ≤ 2147483647) ∧ Runs 4 mX11_procession 32 [zR 34 0, zI l1, zI (l2 + z2), zI (l3 + 1), zU] [] σ1 Q) ∧ (¬ 0 ≤ z2 → Q (some (-9)) σ1))))))) : Runs 4 mX11_procession 32 [zR 34 0, zI l1, zI l2, zI l3, zU] [] σ Q := by
  refine r_blk [qO (.iload_n 3), qO (.iload_n 1)] (pc' := 34) (L' := [zR 34 0, zI l1, zI l2, zI l3, zU]) (S' := [zI l1, zI l3]) (σ' := σ) (Ps := []) (by decide +kernel) rfl trivial ?_
  refine r_icmp_ge (off := 50) (tgt := 84) (by decide +kernel) (by decide) (fun c => ?_) (fun c => ?_)
  · replace h := h.1 c
    refine r_blk [qO (.iload_n 2)] (pc' := 85) (L' := [zR 34 0, zI l1, zI l2, zI l3, zU]) (S' := [zI l2]) (σ' := σ) (Ps := []) (by decide +kernel) rfl trivial ?_
    exact r_ret (by decide +kernel) rfl (fun _ => h)
  · replace h := h.2 c
    refine r_blk [qO (.aload_n 0), qO (.aload_n 0), qF (.getfield 13) 11 1, qO (.bipush 113), qO (.iload_n 3), qO .iadd, qO .iaload, qO (.aload_n 0), qF (.getfield 13) 11 1, qO (.bipush 113), qO (.iload_n 3), qO (.iconst 1), qO .iadd, qO (.iload_n 1), qO .irem, qO .iadd, qO .iaload] (pc' := 60) (L' := [zR 34 0, zI l1, zI l2, zI l3, zU]) (S' := [zI (σ 36 0 ((113 + (zrem (l3 + 1) l1)).toNat)), zI (σ 36 0 ((113 + l3).toNat)), zR 34 0]) (σ' := σ) (Ps := [-2147483648 ≤ 113 + l3 ∧ 113 + l3 ≤ 2147483647, 0 ≤ 113 + l3 ∧ 113 + l3 < 123, -2147483648 ≤ l3 + 1 ∧ l3 + 1 ≤ 2147483647, l1 ≠ 0, -2147483648 ≤ 113 + (zrem (l3 + 1) l1) ∧ 113 + (zrem (l3 + 1) l1) ≤ 2147483647, 0 ≤ 113 + (zrem (l3 + 1) l1) ∧ 113 + (zrem (l3 + 1) l1) < 123]) (by decide +kernel) rfl ⟨h.1, h.2.1, h.2.2.1, h.2.2.2.1, h.2.2.2.2.1, h.2.2.2.2.2.1, trivial⟩ ?_
    replace h := h.2.2.2.2.2.2
    refine r_callVI (As := [zI (σ 36 0 ((113 + l3).toNat)), zI (σ 36 0 ((113 + (zrem (l3 + 1) l1)).toNat))]) (S := []) (Lc := [zR 34 0, zI (σ 36 0 ((113 + l3).toNat)), zI (σ 36 0 ((113 + (zrem (l3 + 1) l1)).toNat)), zU, zU, zU]) (d' := 3) (n := 2) (g := 34) (x := 0) (ci := 11) kX11_along vX11_along lkX11_203 (by decide +kernel) (by decide) rfl rfl (by decide) rfl rfl (Nat.le_of_ble_eq_true rfl) rfl rfl (Nat.le_of_ble_eq_true rfl) (h.monoI (fun z2 σ1 h => ?_))
    refine r_blk [qO (.istore 4), qO (.iload 4)] (pc' := 67) (L' := [zR 34 0, zI l1, zI l2, zI l3, zI z2]) (S' := [zI z2]) (σ' := σ1) (Ps := []) (by decide +kernel) rfl trivial ?_
    refine r_if_ge (off := 6) (tgt := 73) (by decide +kernel) (by decide) (fun c => ?_) (fun c => ?_)
    · replace h := h.1 c
      refine r_blk [qO (.iload_n 2), qO (.iload 4), qO .iadd, qO (.istore_n 2), qO (.iinc 3 1), qO (.goto (-49))] (pc' := 32) (L' := [zR 34 0, zI l1, zI (l2 + z2), zI (l3 + 1), zI z2]) (S' := []) (σ' := σ1) (Ps := [-2147483648 ≤ l2 + z2 ∧ l2 + z2 ≤ 2147483647, -2147483648 ≤ l3 + 1 ∧ l3 + 1 ≤ 2147483647]) (by decide +kernel) rfl ⟨h.1, h.2.1, trivial⟩ ?_
      replace h := h.2.2
      exact Runs.fg (fgE (fgE (fgE (fgE (fgU fg0))))) h
    · replace h := h.2 c
      refine r_blk [qO (.bipush (-9))] (pc' := 72) (L' := [zR 34 0, zI l1, zI l2, zI l3, zI z2]) (S' := [zI (-9)]) (σ' := σ1) (Ps := []) (by decide +kernel) rfl trivial ?_
      exact r_ret (by decide +kernel) rfl (fun _ => h)
