theorem gX11_enters_0 (a0 : Int) (a1 : Int) (a2 : Int) (σ : Hp) {Q : Option Int → Hp → Prop} (h : ((bitz (σ 36 0 4) a0 = 1 → Q (some (-9)) σ) ∧ (¬ bitz (σ 36 0 4) a0 = 1 → ((a2 ≤ 2879 → (WF (σ 36 0)) ∧ (0 ≤ a0 ∧ a0 < σ 36 0 1) ∧ (0 ≤ a2 ∧ a2 ≤ 1000000) ∧ ((wayS (σ 36 0) a0 a2 = 2 ∨ wayS (σ 36 0) a0 a2 = a1 → Q (some a2) σ) ∧ (¬ (wayS (σ 36 0) a0 a2 = 2 ∨ wayS (σ 36 0) a0 a2 = a1) → ((σ 36 0 8 = 4 → Q (some (-9)) σ) ∧ (¬ σ 36 0 8 = 4 → ((a2 < σ 36 0 7 → Runs 3 mX11_enters 76 [zR 34 0, zU, zU, zI a2, zI (σ 36 0 7), zU] [] σ Q) ∧ (¬ a2 < σ 36 0 7 → ((σ 36 0 8 = 2 → Runs 3 mX11_enters 76 [zR 34 0, zU, zU, zI a2, zI (σ 36 0 7), zU] [] σ Q) ∧ (¬ σ 36 0 8 = 2 → Q (some (-9)) σ))))))))) ∧ (¬ a2 ≤ 2879 → Q (some (-9)) σ))))) : Runs 3 mX11_enters 0 [zR 34 0, zI a0, zI a1, zI a2, zU, zU] [] σ Q := by
  refine r_blk [qO (.aload_n 0), qF (.getfield 13) 11 1, qO (.iconst 4), qO .iaload, qO (.iload_n 1), qO .ishr, qO (.iconst 1), qO .iand, qO (.iconst 1)] (pc' := 11) (L' := [zR 34 0, zI a0, zI a1, zI a2, zU, zU]) (S' := [zI 1, zI (bitz (σ 36 0 4) a0)]) (σ' := σ) (Ps := [0 ≤ 4 ∧ 4 < 123]) (by decide +kernel) rfl ⟨(by decide), trivial⟩ ?_
  refine r_icmp_eq (off := 10) (tgt := 21) (by decide +kernel) (by decide) (fun c => ?_) (fun c => ?_)
  · replace h := h.1 c
    refine r_blk [qO (.bipush (-9))] (pc' := 23) (L' := [zR 34 0, zI a0, zI a1, zI a2, zU, zU]) (S' := [zI (-9)]) (σ' := σ) (Ps := []) (by decide +kernel) rfl trivial ?_
    exact r_ret (by decide +kernel) rfl (fun _ => h)
  · replace h := h.2 c
    refine r_blk [qO (.iload_n 3), qO (.sipush 2879)] (pc' := 18) (L' := [zR 34 0, zI a0, zI a1, zI a2, zU, zU]) (S' := [zI 2879, zI a2]) (σ' := σ) (Ps := []) (by decide +kernel) rfl trivial ?_
    refine r_icmp_le (off := 6) (tgt := 24) (by decide +kernel) (by decide) (fun c => ?_) (fun c => ?_)
    · replace h := h.1 c
      refine r_blk [qO (.aload_n 0), qO (.iload_n 1), qO (.iload_n 2), qO (.iload_n 3)] (pc' := 28) (L' := [zR 34 0, zI a0, zI a1, zI a2, zU, zU]) (S' := [zI a2, zI a1, zI a0, zR 34 0]) (σ' := σ) (Ps := []) (by decide +kernel) rfl trivial ?_
      refine r_callVI (As := [zI a0, zI a1, zI a2]) (S := []) (Lc := [zR 34 0, zI a0, zI a1, zI a2, zU]) (d' := 2) (n := 3) (g := 34) (x := 0) (ci := 11) kX11_goesFrom vX11_goesFrom lkX11_129 (by decide +kernel) (by decide) rfl rfl (by decide) rfl rfl (Nat.le_of_ble_eq_true rfl) rfl rfl (Nat.le_of_ble_eq_true rfl) (pX11_goesFrom h.1 h.2.1 h.2.2.1 (fun c => ?_) (fun c => ?_))
      all_goals replace h := h.2.2.2
      · replace h := h.1 c
        refine r_if_eq (off := 5) (tgt := 36) (by decide +kernel) (by decide) (fun c => ?_) (fun c => ?_)
        · exact absurd c (by decide)
        · refine r_blk [qO (.iload_n 3)] (pc' := 35) (L' := [zR 34 0, zI a0, zI a1, zI a2, zU, zU]) (S' := [zI a2]) (σ' := σ) (Ps := []) (by decide +kernel) rfl trivial ?_
          exact r_ret (by decide +kernel) rfl (fun _ => h)
      · replace h := h.2 c
        refine r_if_eq (off := 5) (tgt := 36) (by decide +kernel) (by decide) (fun c => ?_) (fun c => ?_)
        · refine r_blk [qO (.aload_n 0), qF (.getfield 13) 11 1, qO (.bipush 7), qO .iaload, qO (.istore 4), qO (.aload_n 0), qF (.getfield 13) 11 1, qO (.bipush 8), qO .iaload, qO (.iconst 4)] (pc' := 53) (L' := [zR 34 0, zI a0, zI a1, zI a2, zI (σ 36 0 7), zU]) (S' := [zI 4, zI (σ 36 0 8)]) (σ' := σ) (Ps := [0 ≤ 7 ∧ 7 < 123, 0 ≤ 8 ∧ 8 < 123]) (by decide +kernel) rfl ⟨(by decide), (by decide), trivial⟩ ?_
          refine r_icmp_eq (off := 20) (tgt := 73) (by decide +kernel) (by decide) (fun c => ?_) (fun c => ?_)
          · replace h := h.1 c
            refine r_blk [qO (.bipush (-9))] (pc' := 75) (L' := [zR 34 0, zI a0, zI a1, zI a2, zI (σ 36 0 7), zU]) (S' := [zI (-9)]) (σ' := σ) (Ps := []) (by decide +kernel) rfl trivial ?_
            exact r_ret (by decide +kernel) rfl (fun _ => h)
          · replace h := h.2 c
            refine r_blk [qO (.iload_n 3), qO (.iload 4)] (pc' := 59) (L' := [zR 34 0, zI a0, zI a1, zI a2, zI (σ 36 0 7), zU]) (S' := [zI (σ 36 0 7), zI a2]) (σ' := σ) (Ps := []) (by decide +kernel) rfl trivial ?_
            refine r_icmp_lt (off := 17) (tgt := 76) (by decide +kernel) (by decide) (fun c => ?_) (fun c => ?_)
            · replace h := h.1 c
              exact Runs.fg (fgE (fgU (fgU (fgE (fgE (fgU fg0)))))) h
            · replace h := h.2 c
              refine r_blk [qO (.aload_n 0), qF (.getfield 13) 11 1, qO (.bipush 8), qO .iaload, qO (.iconst 2)] (pc' := 70) (L' := [zR 34 0, zI a0, zI a1, zI a2, zI (σ 36 0 7), zU]) (S' := [zI 2, zI (σ 36 0 8)]) (σ' := σ) (Ps := [0 ≤ 8 ∧ 8 < 123]) (by decide +kernel) rfl ⟨(by decide), trivial⟩ ?_
              refine r_icmp_eq (off := 6) (tgt := 76) (by decide +kernel) (by decide) (fun c => ?_) (fun c => ?_)
              · replace h := h.1 c
                exact Runs.fg (fgE (fgU (fgU (fgE (fgE (fgU fg0)))))) h
              · replace h := h.2 c
                refine r_blk [qO (.bipush (-9))] (pc' := 75) (L' := [zR 34 0, zI a0, zI a1, zI a2, zI (σ 36 0 7), zU]) (S' := [zI (-9)]) (σ' := σ) (Ps := []) (by decide +kernel) rfl trivial ?_
                exact r_ret (by decide +kernel) rfl (fun _ => h)
        · exact absurd c (by decide)
    · replace h := h.2 c
      refine r_blk [qO (.bipush (-9))] (pc' := 23) (L' := [zR 34 0, zI a0, zI a1, zI a2, zU, zU]) (S' := [zI (-9)]) (σ' := σ) (Ps := []) (by decide +kernel) rfl trivial ?_
      exact r_ret (by decide +kernel) rfl (fun _ => h)
theorem gX11_enters_76 (l3 : Int) (l4 : Int) (σ : Hp) {Q : Option Int → Hp → Prop} (h : ((l4 ≤ l3 → (-2147483648 ≤ l3 - l4 ∧ l3 - l4 ≤ 2147483647) ∧ (σ 36 0 9 ≠ 0) ∧ (-2147483648 ≤ (zdiv (l3 - l4) (σ 36 0 9)) + 1 ∧ (zdiv (l3 - l4) (σ 36 0 9)) + 1 ≤ 2147483647) ∧ (-2147483648 ≤ ((zdiv (l3 - l4) (σ 36 0 9)) + 1) * (σ 36 0 9) ∧ ((zdiv (l3 - l4) (σ 36 0 9)) + 1) * (σ 36 0 9) ≤ 2147483647) ∧ (-2147483648 ≤ l4 + (((zdiv (l3 - l4) (σ 36 0 9)) + 1) * (σ 36 0 9)) ∧ l4 + (((zdiv (l3 - l4) (σ 36 0 9)) + 1) * (σ 36 0 9)) ≤ 2147483647) ∧ ((2879 < l4 + (((zdiv (l3 - l4) (σ 36 0 9)) + 1) * (σ 36 0 9)) → Q (some (-9)) σ) ∧ (¬ 2879 < l4 + (((zdiv (l3 - l4) (σ 36 0 9)) + 1) * (σ 36 0 9)) → Q (some (l4 + (((zdiv (l3 - l4) (σ 36 0 9)) + 1) * (σ 36 0 9)))) σ))) ∧ (¬ l4 ≤ l3 → ((2879 < l4 → Q (some (-9)) σ) ∧ (¬ 2879 < l4 → Q (some l4) σ))))) : Runs 3 mX11_enters 76 [zR 34 0, zU, zU, zI l3, zI l4, zU] [] σ Q := by
  refine r_blk [qO (.iload_n 3), qO (.iload 4)] (pc' := 79) (L' := [zR 34 0, zU, zU, zI l3, zI l4, zU]) (S' := [zI l4, zI l3]) (σ' := σ) (Ps := []) (by decide +kernel) rfl trivial ?_
  refine r_icmp_ge (off := 8) (tgt := 87) (by decide +kernel) (by decide) (fun c => ?_) (fun c => ?_)
  · replace h := h.1 c
    refine r_blk [qO (.iload 4), qO (.iload_n 3), qO (.iload 4), qO .isub, qO (.aload_n 0), qF (.getfield 13) 11 1, qO (.bipush 9), qO .iaload, qO .idiv, qO (.iconst 1), qO .iadd, qO (.aload_n 0), qF (.getfield 13) 11 1, qO (.bipush 9), qO .iaload, qO .imul, qO .iadd, qO (.istore 5), qO (.iload 5), qO (.sipush 2879)] (pc' := 119) (L' := [zR 34 0, zU, zU, zI l3, zI l4, zI (l4 + (((zdiv (l3 - l4) (σ 36 0 9)) + 1) * (σ 36 0 9)))]) (S' := [zI 2879, zI (l4 + (((zdiv (l3 - l4) (σ 36 0 9)) + 1) * (σ 36 0 9)))]) (σ' := σ) (Ps := [-2147483648 ≤ l3 - l4 ∧ l3 - l4 ≤ 2147483647, 0 ≤ 9 ∧ 9 < 123, σ 36 0 9 ≠ 0, -2147483648 ≤ (zdiv (l3 - l4) (σ 36 0 9)) + 1 ∧ (zdiv (l3 - l4) (σ 36 0 9)) + 1 ≤ 2147483647, 0 ≤ 9 ∧ 9 < 123, -2147483648 ≤ ((zdiv (l3 - l4) (σ 36 0 9)) + 1) * (σ 36 0 9) ∧ ((zdiv (l3 - l4) (σ 36 0 9)) + 1) * (σ 36 0 9) ≤ 2147483647, -2147483648 ≤ l4 + (((zdiv (l3 - l4) (σ 36 0 9)) + 1) * (σ 36 0 9)) ∧ l4 + (((zdiv (l3 - l4) (σ 36 0 9)) + 1) * (σ 36 0 9)) ≤ 2147483647]) (by decide +kernel) rfl ⟨h.1, (by decide), h.2.1, h.2.2.1, (by decide), h.2.2.2.1, h.2.2.2.2.1, trivial⟩ ?_
    replace h := h.2.2.2.2.2
    refine r_icmp_gt (off := 8) (tgt := 127) (by decide +kernel) (by decide) (fun c => ?_) (fun c => ?_)
    · replace h := h.1 c
      refine r_blk [qO (.bipush (-9))] (pc' := 129) (L' := [zR 34 0, zU, zU, zI l3, zI l4, zI (l4 + (((zdiv (l3 - l4) (σ 36 0 9)) + 1) * (σ 36 0 9)))]) (S' := [zI (-9)]) (σ' := σ) (Ps := []) (by decide +kernel) rfl trivial ?_
      exact r_ret (by decide +kernel) rfl (fun _ => h)
    · replace h := h.2 c
      refine r_blk [qO (.iload 5), qO (.goto 5)] (pc' := 129) (L' := [zR 34 0, zU, zU, zI l3, zI l4, zI (l4 + (((zdiv (l3 - l4) (σ 36 0 9)) + 1) * (σ 36 0 9)))]) (S' := [zI (l4 + (((zdiv (l3 - l4) (σ 36 0 9)) + 1) * (σ 36 0 9)))]) (σ' := σ) (Ps := []) (by decide +kernel) rfl trivial ?_
      exact r_ret (by decide +kernel) rfl (fun _ => h)
  · replace h := h.2 c
    refine r_blk [qO (.iload 4), qO (.goto 28), qO (.istore 5), qO (.iload 5), qO (.sipush 2879)] (pc' := 119) (L' := [zR 34 0, zU, zU, zI l3, zI l4, zI l4]) (S' := [zI 2879, zI l4]) (σ' := σ) (Ps := []) (by decide +kernel) rfl trivial ?_
    refine r_icmp_gt (off := 8) (tgt := 127) (by decide +kernel) (by decide) (fun c => ?_) (fun c => ?_)
    · replace h := h.1 c
      refine r_blk [qO (.bipush (-9))] (pc' := 129) (L' := [zR 34 0, zU, zU, zI l3, zI l4, zI l4]) (S' := [zI (-9)]) (σ' := σ) (Ps := []) (by decide +kernel) rfl trivial ?_
      exact r_ret (by decide +kernel) rfl (fun _ => h)
    · replace h := h.2 c
      refine r_blk [qO (.iload 5), qO (.goto 5)] (pc' := 129) (L' := [zR 34 0, zU, zU, zI l3, zI l4, zI l4]) (S' := [zI l4]) (σ' := σ) (Ps := []) (by decide +kernel) rfl trivial ?_
      exact r_ret (by decide +kernel) rfl (fun _ => h)
theorem gX11_wrongWay_0 (a0 : Int) (a1 : Int) (a2 : Int) (σ : Hp) {Q : Option Int → Hp → Prop} (h : ((0 ≤ a0 ∧ a0 < σ 36 0 0 → ((0 ≤ a1 ∧ a1 < σ 36 0 0 → Q (some (zwithin a2 0 2879)) σ) ∧ (¬ (0 ≤ a1 ∧ a1 < σ 36 0 0) → Q (some (-1)) σ))) ∧ (¬ (0 ≤ a0 ∧ a0 < σ 36 0 0) → Q (some (-1)) σ))) : Runs 2 mX11_wrongWay 0 [zR 34 0, zI a0, zI a1, zI a2] [] σ Q := by
  refine r_blk [qO (.aload_n 0), qO (.iload_n 1)] (pc' := 2) (L' := [zR 34 0, zI a0, zI a1, zI a2]) (S' := [zI a0, zR 34 0]) (σ' := σ) (Ps := []) (by decide +kernel) rfl trivial ?_
  refine r_callVI (As := [zI a0]) (S := []) (Lc := [zR 34 0, zI a0]) (d' := 1) (n := 1) (g := 34) (x := 0) (ci := 11) kX11_isCorner vX11_isCorner lkX11_136 (by decide +kernel) (by decide) rfl rfl (by decide) rfl rfl (Nat.le_of_ble_eq_true rfl) rfl rfl (Nat.le_of_ble_eq_true rfl) (pX11_isCorner  (fun c => ?_) (fun c => ?_))
  · replace h := h.1 c
    refine r_if_eq (off := 22) (tgt := 27) (by decide +kernel) (by decide) (fun c => ?_) (fun c => ?_)
    · exact absurd c (by decide)
    · refine r_blk [qO (.aload_n 0), qO (.iload_n 2)] (pc' := 10) (L' := [zR 34 0, zI a0, zI a1, zI a2]) (S' := [zI a1, zR 34 0]) (σ' := σ) (Ps := []) (by decide +kernel) rfl trivial ?_
      refine r_callVI (As := [zI a1]) (S := []) (Lc := [zR 34 0, zI a1]) (d' := 1) (n := 1) (g := 34) (x := 0) (ci := 11) kX11_isCorner vX11_isCorner lkX11_136 (by decide +kernel) (by decide) rfl rfl (by decide) rfl rfl (Nat.le_of_ble_eq_true rfl) rfl rfl (Nat.le_of_ble_eq_true rfl) (pX11_isCorner  (fun c => ?_) (fun c => ?_))
      · replace h := h.1 c
        refine r_if_eq (off := 14) (tgt := 27) (by decide +kernel) (by decide) (fun c => ?_) (fun c => ?_)
        · exact absurd c (by decide)
        · refine r_blk [qO (.iload_n 3), qO (.iconst 0), qO (.sipush 2879)] (pc' := 21) (L' := [zR 34 0, zI a0, zI a1, zI a2]) (S' := [zI 2879, zI 0, zI a2]) (σ' := σ) (Ps := []) (by decide +kernel) rfl trivial ?_
          refine r_callSI (As := [zI a2, zI 0, zI 2879]) (S := []) (Lc := [zI a2, zI 0, zI 2879]) (d' := 0) (n := 3) kX11_within vX11_within lkX11_119 (by decide +kernel) (by decide) rfl rfl (Nat.le_of_ble_eq_true rfl) rfl rfl (Nat.le_of_ble_eq_true rfl) (pX11_within  ?_)
          refine r_blk [qO (.goto 4)] (pc' := 28) (L' := [zR 34 0, zI a0, zI a1, zI a2]) (S' := [zI (zwithin a2 0 2879)]) (σ' := σ) (Ps := []) (by decide +kernel) rfl trivial ?_
          exact r_ret (by decide +kernel) rfl (fun _ => h)
      · replace h := h.2 c
        refine r_if_eq (off := 14) (tgt := 27) (by decide +kernel) (by decide) (fun c => ?_) (fun c => ?_)
        · refine r_blk [qO (.iconst (-1))] (pc' := 28) (L' := [zR 34 0, zI a0, zI a1, zI a2]) (S' := [zI (-1)]) (σ' := σ) (Ps := []) (by decide +kernel) rfl trivial ?_
          exact r_ret (by decide +kernel) rfl (fun _ => h)
        · exact absurd c (by decide)
  · replace h := h.2 c
    refine r_if_eq (off := 22) (tgt := 27) (by decide +kernel) (by decide) (fun c => ?_) (fun c => ?_)
    · refine r_blk [qO (.iconst (-1))] (pc' := 28) (L' := [zR 34 0, zI a0, zI a1, zI a2]) (S' := [zI (-1)]) (σ' := σ) (Ps := []) (by decide +kernel) rfl trivial ?_
      exact r_ret (by decide +kernel) rfl (fun _ => h)
    · exact absurd c (by decide)
