theorem gX11_readsStatement_0 (σ : Hp) {Q : Option Int → Hp → Prop} (h : Runs 0 mX11_sign 0 [zR 34 0] [] σ (rI (fun z2 σ1 => ((z2 = 107 → Runs 2 mX11_readsStatement 31 [zR 34 0, zI z2, zU] [] σ1 Q) ∧ (¬ z2 = 107 → ((z2 = 115 → Runs 2 mX11_readsStatement 31 [zR 34 0, zI z2, zU] [] σ1 Q) ∧ (¬ z2 = 115 → ((z2 = 101 → Runs 2 mX11_readsStatement 31 [zR 34 0, zI z2, zU] [] σ1 Q) ∧ (¬ z2 = 101 → ((z2 = 109 → Runs 2 mX11_readsStatement 31 [zR 34 0, zI z2, zU] [] σ1 Q) ∧ (¬ z2 = 109 → Q (some 0) σ1))))))))))) : Runs 2 mX11_readsStatement 0 [zR 34 0, zU, zU] [] σ Q := by
  refine r_blk [qO (.aload_n 0)] (pc' := 1) (L' := [zR 34 0, zU, zU]) (S' := [zR 34 0]) (σ' := σ) (Ps := []) (by decide +kernel) rfl trivial ?_
  refine r_callVI (As := []) (S := []) (Lc := [zR 34 0]) (d' := 0) (n := 0) (g := 34) (x := 0) (ci := 11) kX11_sign vX11_sign lkX11_79 (by decide +kernel) (by decide) rfl rfl (by decide) rfl rfl (Nat.le_of_ble_eq_true rfl) rfl rfl (Nat.le_of_ble_eq_true rfl) (h.monoI (fun z2 σ1 h => ?_))
  refine r_blk [qO (.istore_n 1), qO (.iload_n 1), qO (.bipush 107)] (pc' := 8) (L' := [zR 34 0, zI z2, zU]) (S' := [zI 107, zI z2]) (σ' := σ1) (Ps := []) (by decide +kernel) rfl trivial ?_
  refine r_icmp_eq (off := 23) (tgt := 31) (by decide +kernel) (by decide) (fun c => ?_) (fun c => ?_)
  · replace h := h.1 c
    exact Runs.fg (fgE (fgE (fgU fg0))) h
  · replace h := h.2 c
    refine r_blk [qO (.iload_n 1), qO (.bipush 115)] (pc' := 14) (L' := [zR 34 0, zI z2, zU]) (S' := [zI 115, zI z2]) (σ' := σ1) (Ps := []) (by decide +kernel) rfl trivial ?_
    refine r_icmp_eq (off := 17) (tgt := 31) (by decide +kernel) (by decide) (fun c => ?_) (fun c => ?_)
    · replace h := h.1 c
      exact Runs.fg (fgE (fgE (fgU fg0))) h
    · replace h := h.2 c
      refine r_blk [qO (.iload_n 1), qO (.bipush 101)] (pc' := 20) (L' := [zR 34 0, zI z2, zU]) (S' := [zI 101, zI z2]) (σ' := σ1) (Ps := []) (by decide +kernel) rfl trivial ?_
      refine r_icmp_eq (off := 11) (tgt := 31) (by decide +kernel) (by decide) (fun c => ?_) (fun c => ?_)
      · replace h := h.1 c
        exact Runs.fg (fgE (fgE (fgU fg0))) h
      · replace h := h.2 c
        refine r_blk [qO (.iload_n 1), qO (.bipush 109)] (pc' := 26) (L' := [zR 34 0, zI z2, zU]) (S' := [zI 109, zI z2]) (σ' := σ1) (Ps := []) (by decide +kernel) rfl trivial ?_
        refine r_icmp_eq (off := 5) (tgt := 31) (by decide +kernel) (by decide) (fun c => ?_) (fun c => ?_)
        · replace h := h.1 c
          exact Runs.fg (fgE (fgE (fgU fg0))) h
        · replace h := h.2 c
          refine r_blk [qO (.iconst 0)] (pc' := 30) (L' := [zR 34 0, zI z2, zU]) (S' := [zI 0]) (σ' := σ1) (Ps := []) (by decide +kernel) rfl trivial ?_
          exact r_retz (by decide +kernel) rfl (by decide) h
theorem gX11_readsStatement_31 (l1 : Int) (σ : Hp) {Q : Option Int → Hp → Prop} (h : (-2147483648 ≤ (σ 34 0 8) + 1 ∧ (σ 34 0 8) + 1 ≤ 2147483647) ∧ ((l1 = 101 → Runs 1 mX11_readsNumber 0 [zR 34 0, zI 0, zI 1, zU] [] (zup σ 34 0 8 ((σ 34 0 8) + 1)) (rI (fun z2 σ1 => ((z2 = 0 → Q (some 0) σ1) ∧ (¬ z2 = 0 → Runs 1 mX11_readsNumber 0 [zR 34 0, zI 1, zI 1, zU] [] σ1 (rI (fun z4 σ3 => ((z4 = 0 → Q (some 0) σ3) ∧ (¬ z4 = 0 → Runs 1 mX11_takes 0 [zR 34 0, zI 64] [] σ3 (rI (fun z6 σ5 => ((z6 = 0 → Q (some 0) σ5) ∧ (¬ z6 = 0 → Runs 1 mX11_readsNumber 0 [zR 34 0, zI 2, zI 4, zU] [] σ5 (rI (fun z8 σ7 => ((z8 = 0 → Q (some 0) σ7) ∧ (¬ z8 = 0 → Runs 1 mX11_takes 0 [zR 34 0, zI 44] [] σ7 (rI (fun z10 σ9 => ((z10 = 0 → Q (some 0) σ9) ∧ (¬ z10 = 0 → Runs 1 mX11_readsNumber 0 [zR 34 0, zI 3, zI 1, zU] [] σ9 (rI (fun z12 σ11 => ((z12 = 0 → Q (some 0) σ11) ∧ (¬ z12 = 0 → Runs 1 mX11_takes 0 [zR 34 0, zI 59] [] σ11 (rI (fun z14 σ13 => ((z14 = 0 → Q (some 0) σ13) ∧ (¬ z14 = 0 → Q (some 1) σ13))))))))))))))))))))))))))))) ∧ (l1 = 107 → Runs 1 mX11_readsNumber 0 [zR 34 0, zI 0, zI 2, zU] [] (zup σ 34 0 8 ((σ 34 0 8) + 1)) (rI (fun z16 σ15 => ((z16 = 0 → Q (some 0) σ15) ∧ (¬ z16 = 0 → Runs 1 mX11_takes 0 [zR 34 0, zI 59] [] σ15 (rI (fun z18 σ17 => ((z18 = 0 → Q (some 0) σ17) ∧ (¬ z18 = 0 → Q (some 1) σ17))))))))) ∧ (l1 = 115 → Runs 1 mX11_readsNumber 0 [zR 34 0, zI 0, zI 1, zU] [] (zup σ 34 0 8 ((σ 34 0 8) + 1)) (rI (fun z20 σ19 => ((z20 = 0 → Runs 2 mX11_readsStatement 130 [zR 34 0, zU, zU] [] σ19 Q) ∧ (¬ z20 = 0 → Runs 1 mX11_readsNumber 0 [zR 34 0, zI 1, zI 1, zU] [] σ19 (rI (fun z22 σ21 => ((z22 = 0 → Runs 2 mX11_readsStatement 130 [zR 34 0, zU, zU] [] σ21 Q) ∧ (¬ z22 = 0 → Runs 1 mX11_takes 0 [zR 34 0, zI 44] [] σ21 (rI (fun z24 σ23 => ((z24 = 0 → Runs 2 mX11_readsStatement 130 [zR 34 0, zU, zU] [] σ23 Q) ∧ (¬ z24 = 0 → Runs 1 mX11_readsNumber 0 [zR 34 0, zI 2, zI 2, zU] [] σ23 (rI (fun z26 σ25 => ((z26 = 0 → Runs 2 mX11_readsStatement 130 [zR 34 0, zU, zU] [] σ25 Q) ∧ (¬ z26 = 0 → Runs 1 mX11_takes 0 [zR 34 0, zI 98] [] σ25 (rI (fun z28 σ27 => ((z28 = 0 → Runs 1 mX11_takes 0 [zR 34 0, zI 59] [] (zup σ27 40 0 3 0) (rI (fun z30 σ29 => ((z30 = 0 → Q (some 0) σ29) ∧ (¬ z30 = 0 → Q (some 1) σ29))))) ∧ (¬ z28 = 0 → Runs 1 mX11_takes 0 [zR 34 0, zI 59] [] (zup σ27 40 0 3 1) (rI (fun z32 σ31 => ((z32 = 0 → Q (some 0) σ31) ∧ (¬ z32 = 0 → Q (some 1) σ31))))))))))))))))))))))))) ∧ (¬ l1 = 101 ∧ ¬ l1 = 107 ∧ ¬ l1 = 115 → Runs 1 mX11_readsNumber 0 [zR 34 0, zI 0, zI 2, zU] [] (zup σ 34 0 8 ((σ 34 0 8) + 1)) (rI (fun z34 σ33 => ((z34 = 0 → Q (some 0) σ33) ∧ (¬ z34 = 0 → Runs 1 mX11_takes 0 [zR 34 0, zI 44] [] σ33 (rI (fun z36 σ35 => ((z36 = 0 → Q (some 0) σ35) ∧ (¬ z36 = 0 → Runs 1 mX11_readsNumber 0 [zR 34 0, zI 1, zI 1, zU] [] σ35 (rI (fun z38 σ37 => ((z38 = 0 → Q (some 0) σ37) ∧ (¬ z38 = 0 → Runs 1 mX11_takes 0 [zR 34 0, zI 59] [] σ37 (rI (fun z40 σ39 => ((z40 = 0 → Q (some 0) σ39) ∧ (¬ z40 = 0 → Q (some 1) σ39))))))))))))))))))) : Runs 2 mX11_readsStatement 31 [zR 34 0, zI l1, zU] [] σ Q := by
  refine r_blk [qO (.aload_n 0), qO .dup, qF (.getfield 76) 11 8, qO (.iconst 1), qO .iadd, qF (.putfield 76) 11 8, qO (.iconst 0), qO (.istore_n 2), qO (.iload_n 1)] (pc' := 44) (L' := [zR 34 0, zI l1, zI 0]) (S' := [zI l1]) (σ' := (zup σ 34 0 8 ((σ 34 0 8) + 1))) (Ps := [-2147483648 ≤ (σ 34 0 8) + 1 ∧ (σ 34 0 8) + 1 ≤ 2147483647]) (by decide +kernel) rfl ⟨h.1, trivial⟩ ?_
  replace h := h.2
  by_cases c101 : l1 = 101
  · replace h := h.1 c101
    refine r_lookup (dflt := 178) (ps := #[(101, 115), (107, 36), (115, 46)]) (len := 36) (off := 115) (tgt := 159) (by decide +kernel) (by decide +kernel) (by rw [c101]; decide) (by decide) ?_
    refine r_blk [qO (.aload_n 0), qO (.iconst 0), qO (.iconst 1)] (pc' := 162) (L' := [zR 34 0, zI l1, zI 0]) (S' := [zI 1, zI 0, zR 34 0]) (σ' := (zup σ 34 0 8 ((σ 34 0 8) + 1))) (Ps := []) (by decide +kernel) rfl trivial ?_
    refine r_callVI (As := [zI 0, zI 1]) (S := []) (Lc := [zR 34 0, zI 0, zI 1, zU]) (d' := 1) (n := 2) (g := 34) (x := 0) (ci := 11) kX11_readsNumber vX11_readsNumber lkX11_83 (by decide +kernel) (by decide) rfl rfl (by decide) rfl rfl (Nat.le_of_ble_eq_true rfl) rfl rfl (Nat.le_of_ble_eq_true rfl) (h.monoI (fun z2 σ1 h => ?_))
    refine r_if_eq (off := 52) (tgt := 217) (by decide +kernel) (by decide) (fun c => ?_) (fun c => ?_)
    · replace h := h.1 c
      refine r_blk [qO (.iconst 0), qO (.istore_n 2), qO (.goto 36), qO (.iload_n 2)] (pc' := 256) (L' := [zR 34 0, zI l1, zI 0]) (S' := [zI 0]) (σ' := σ1) (Ps := []) (by decide +kernel) rfl trivial ?_
      refine r_if_eq (off := 16) (tgt := 272) (by decide +kernel) (by decide) (fun c => ?_) (fun c => ?_)
      · refine r_blk [qO (.iconst 0)] (pc' := 273) (L' := [zR 34 0, zI l1, zI 0]) (S' := [zI 0]) (σ' := σ1) (Ps := []) (by decide +kernel) rfl trivial ?_
        exact r_retz (by decide +kernel) rfl (by decide) h
      · exact absurd c (by decide)
    · replace h := h.2 c
      refine r_blk [qO (.aload_n 0), qO (.iconst 1), qO (.iconst 1)] (pc' := 171) (L' := [zR 34 0, zI l1, zI 0]) (S' := [zI 1, zI 1, zR 34 0]) (σ' := σ1) (Ps := []) (by decide +kernel) rfl trivial ?_
      refine r_callVI (As := [zI 1, zI 1]) (S := []) (Lc := [zR 34 0, zI 1, zI 1, zU]) (d' := 1) (n := 2) (g := 34) (x := 0) (ci := 11) kX11_readsNumber vX11_readsNumber lkX11_83 (by decide +kernel) (by decide) rfl rfl (by decide) rfl rfl (Nat.le_of_ble_eq_true rfl) rfl rfl (Nat.le_of_ble_eq_true rfl) (h.monoI (fun z4 σ3 h => ?_))
      refine r_if_eq (off := 43) (tgt := 217) (by decide +kernel) (by decide) (fun c => ?_) (fun c => ?_)
      · replace h := h.1 c
        refine r_blk [qO (.iconst 0), qO (.istore_n 2), qO (.goto 36), qO (.iload_n 2)] (pc' := 256) (L' := [zR 34 0, zI l1, zI 0]) (S' := [zI 0]) (σ' := σ3) (Ps := []) (by decide +kernel) rfl trivial ?_
        refine r_if_eq (off := 16) (tgt := 272) (by decide +kernel) (by decide) (fun c => ?_) (fun c => ?_)
        · refine r_blk [qO (.iconst 0)] (pc' := 273) (L' := [zR 34 0, zI l1, zI 0]) (S' := [zI 0]) (σ' := σ3) (Ps := []) (by decide +kernel) rfl trivial ?_
          exact r_retz (by decide +kernel) rfl (by decide) h
        · exact absurd c (by decide)
      · replace h := h.2 c
        refine r_blk [qO (.aload_n 0), qO (.bipush 64)] (pc' := 180) (L' := [zR 34 0, zI l1, zI 0]) (S' := [zI 64, zR 34 0]) (σ' := σ3) (Ps := []) (by decide +kernel) rfl trivial ?_
        refine r_callVI (As := [zI 64]) (S := []) (Lc := [zR 34 0, zI 64]) (d' := 1) (n := 1) (g := 34) (x := 0) (ci := 11) kX11_takes vX11_takes lkX11_86 (by decide +kernel) (by decide) rfl rfl (by decide) rfl rfl (Nat.le_of_ble_eq_true rfl) rfl rfl (Nat.le_of_ble_eq_true rfl) (h.monoI (fun z6 σ5 h => ?_))
        refine r_if_eq (off := 34) (tgt := 217) (by decide +kernel) (by decide) (fun c => ?_) (fun c => ?_)
        · replace h := h.1 c
          refine r_blk [qO (.iconst 0), qO (.istore_n 2), qO (.goto 36), qO (.iload_n 2)] (pc' := 256) (L' := [zR 34 0, zI l1, zI 0]) (S' := [zI 0]) (σ' := σ5) (Ps := []) (by decide +kernel) rfl trivial ?_
          refine r_if_eq (off := 16) (tgt := 272) (by decide +kernel) (by decide) (fun c => ?_) (fun c => ?_)
          · refine r_blk [qO (.iconst 0)] (pc' := 273) (L' := [zR 34 0, zI l1, zI 0]) (S' := [zI 0]) (σ' := σ5) (Ps := []) (by decide +kernel) rfl trivial ?_
            exact r_retz (by decide +kernel) rfl (by decide) h
          · exact absurd c (by decide)
        · replace h := h.2 c
          refine r_blk [qO (.aload_n 0), qO (.iconst 2), qO (.iconst 4)] (pc' := 189) (L' := [zR 34 0, zI l1, zI 0]) (S' := [zI 4, zI 2, zR 34 0]) (σ' := σ5) (Ps := []) (by decide +kernel) rfl trivial ?_
          refine r_callVI (As := [zI 2, zI 4]) (S := []) (Lc := [zR 34 0, zI 2, zI 4, zU]) (d' := 1) (n := 2) (g := 34) (x := 0) (ci := 11) kX11_readsNumber vX11_readsNumber lkX11_83 (by decide +kernel) (by decide) rfl rfl (by decide) rfl rfl (Nat.le_of_ble_eq_true rfl) rfl rfl (Nat.le_of_ble_eq_true rfl) (h.monoI (fun z8 σ7 h => ?_))
          refine r_if_eq (off := 25) (tgt := 217) (by decide +kernel) (by decide) (fun c => ?_) (fun c => ?_)
          · replace h := h.1 c
            refine r_blk [qO (.iconst 0), qO (.istore_n 2), qO (.goto 36), qO (.iload_n 2)] (pc' := 256) (L' := [zR 34 0, zI l1, zI 0]) (S' := [zI 0]) (σ' := σ7) (Ps := []) (by decide +kernel) rfl trivial ?_
            refine r_if_eq (off := 16) (tgt := 272) (by decide +kernel) (by decide) (fun c => ?_) (fun c => ?_)
            · refine r_blk [qO (.iconst 0)] (pc' := 273) (L' := [zR 34 0, zI l1, zI 0]) (S' := [zI 0]) (σ' := σ7) (Ps := []) (by decide +kernel) rfl trivial ?_
              exact r_retz (by decide +kernel) rfl (by decide) h
            · exact absurd c (by decide)
          · replace h := h.2 c
            refine r_blk [qO (.aload_n 0), qO (.bipush 44)] (pc' := 198) (L' := [zR 34 0, zI l1, zI 0]) (S' := [zI 44, zR 34 0]) (σ' := σ7) (Ps := []) (by decide +kernel) rfl trivial ?_
            refine r_callVI (As := [zI 44]) (S := []) (Lc := [zR 34 0, zI 44]) (d' := 1) (n := 1) (g := 34) (x := 0) (ci := 11) kX11_takes vX11_takes lkX11_86 (by decide +kernel) (by decide) rfl rfl (by decide) rfl rfl (Nat.le_of_ble_eq_true rfl) rfl rfl (Nat.le_of_ble_eq_true rfl) (h.monoI (fun z10 σ9 h => ?_))
            refine r_if_eq (off := 16) (tgt := 217) (by decide +kernel) (by decide) (fun c => ?_) (fun c => ?_)
            · replace h := h.1 c
              refine r_blk [qO (.iconst 0), qO (.istore_n 2), qO (.goto 36), qO (.iload_n 2)] (pc' := 256) (L' := [zR 34 0, zI l1, zI 0]) (S' := [zI 0]) (σ' := σ9) (Ps := []) (by decide +kernel) rfl trivial ?_
              refine r_if_eq (off := 16) (tgt := 272) (by decide +kernel) (by decide) (fun c => ?_) (fun c => ?_)
              · refine r_blk [qO (.iconst 0)] (pc' := 273) (L' := [zR 34 0, zI l1, zI 0]) (S' := [zI 0]) (σ' := σ9) (Ps := []) (by decide +kernel) rfl trivial ?_
                exact r_retz (by decide +kernel) rfl (by decide) h
              · exact absurd c (by decide)
            · replace h := h.2 c
              refine r_blk [qO (.aload_n 0), qO (.iconst 3), qO (.iconst 1)] (pc' := 207) (L' := [zR 34 0, zI l1, zI 0]) (S' := [zI 1, zI 3, zR 34 0]) (σ' := σ9) (Ps := []) (by decide +kernel) rfl trivial ?_
              refine r_callVI (As := [zI 3, zI 1]) (S := []) (Lc := [zR 34 0, zI 3, zI 1, zU]) (d' := 1) (n := 2) (g := 34) (x := 0) (ci := 11) kX11_readsNumber vX11_readsNumber lkX11_83 (by decide +kernel) (by decide) rfl rfl (by decide) rfl rfl (Nat.le_of_ble_eq_true rfl) rfl rfl (Nat.le_of_ble_eq_true rfl) (h.monoI (fun z12 σ11 h => ?_))
              refine r_if_eq (off := 7) (tgt := 217) (by decide +kernel) (by decide) (fun c => ?_) (fun c => ?_)
              · replace h := h.1 c
                refine r_blk [qO (.iconst 0), qO (.istore_n 2), qO (.goto 36), qO (.iload_n 2)] (pc' := 256) (L' := [zR 34 0, zI l1, zI 0]) (S' := [zI 0]) (σ' := σ11) (Ps := []) (by decide +kernel) rfl trivial ?_
                refine r_if_eq (off := 16) (tgt := 272) (by decide +kernel) (by decide) (fun c => ?_) (fun c => ?_)
                · refine r_blk [qO (.iconst 0)] (pc' := 273) (L' := [zR 34 0, zI l1, zI 0]) (S' := [zI 0]) (σ' := σ11) (Ps := []) (by decide +kernel) rfl trivial ?_
                  exact r_retz (by decide +kernel) rfl (by decide) h
                · exact absurd c (by decide)
              · replace h := h.2 c
                refine r_blk [qO (.iconst 1), qO (.goto 4), qO (.istore_n 2), qO (.goto 36), qO (.iload_n 2)] (pc' := 256) (L' := [zR 34 0, zI l1, zI 1]) (S' := [zI 1]) (σ' := σ11) (Ps := []) (by decide +kernel) rfl trivial ?_
                refine r_if_eq (off := 16) (tgt := 272) (by decide +kernel) (by decide) (fun c => ?_) (fun c => ?_)
                · exact absurd c (by decide)
                · refine r_blk [qO (.aload_n 0), qO (.bipush 59)] (pc' := 262) (L' := [zR 34 0, zI l1, zI 1]) (S' := [zI 59, zR 34 0]) (σ' := σ11) (Ps := []) (by decide +kernel) rfl trivial ?_
                  refine r_callVI (As := [zI 59]) (S := []) (Lc := [zR 34 0, zI 59]) (d' := 1) (n := 1) (g := 34) (x := 0) (ci := 11) kX11_takes vX11_takes lkX11_86 (by decide +kernel) (by decide) rfl rfl (by decide) rfl rfl (Nat.le_of_ble_eq_true rfl) rfl rfl (Nat.le_of_ble_eq_true rfl) (h.monoI (fun z14 σ13 h => ?_))
                  refine r_if_eq (off := 7) (tgt := 272) (by decide +kernel) (by decide) (fun c => ?_) (fun c => ?_)
                  · replace h := h.1 c
                    refine r_blk [qO (.iconst 0)] (pc' := 273) (L' := [zR 34 0, zI l1, zI 1]) (S' := [zI 0]) (σ' := σ13) (Ps := []) (by decide +kernel) rfl trivial ?_
                    exact r_retz (by decide +kernel) rfl (by decide) h
                  · replace h := h.2 c
                    refine r_blk [qO (.iconst 1), qO (.goto 4)] (pc' := 273) (L' := [zR 34 0, zI l1, zI 1]) (S' := [zI 1]) (σ' := σ13) (Ps := []) (by decide +kernel) rfl trivial ?_
                    exact r_retz (by decide +kernel) rfl (by decide) h
  replace h := h.2
  by_cases c107 : l1 = 107
  · replace h := h.1 c107
    refine r_lookup (dflt := 178) (ps := #[(101, 115), (107, 36), (115, 46)]) (len := 36) (off := 36) (tgt := 80) (by decide +kernel) (by decide +kernel) (by rw [c107]; decide) (by decide) ?_
    refine r_blk [qO (.aload_n 0), qO (.iconst 0), qO (.iconst 2)] (pc' := 83) (L' := [zR 34 0, zI l1, zI 0]) (S' := [zI 2, zI 0, zR 34 0]) (σ' := (zup σ 34 0 8 ((σ 34 0 8) + 1))) (Ps := []) (by decide +kernel) rfl trivial ?_
    refine r_callVI (As := [zI 0, zI 2]) (S := []) (Lc := [zR 34 0, zI 0, zI 2, zU]) (d' := 1) (n := 2) (g := 34) (x := 0) (ci := 11) kX11_readsNumber vX11_readsNumber lkX11_83 (by decide +kernel) (by decide) rfl rfl (by decide) rfl rfl (Nat.le_of_ble_eq_true rfl) rfl rfl (Nat.le_of_ble_eq_true rfl) (h.monoI (fun z16 σ15 h => ?_))
    refine r_blk [qO (.istore_n 2), qO (.goto 168), qO (.iload_n 2)] (pc' := 256) (L' := [zR 34 0, zI l1, zI z16]) (S' := [zI z16]) (σ' := σ15) (Ps := []) (by decide +kernel) rfl trivial ?_
    refine r_if_eq (off := 16) (tgt := 272) (by decide +kernel) (by decide) (fun c => ?_) (fun c => ?_)
    · replace h := h.1 c
      refine r_blk [qO (.iconst 0)] (pc' := 273) (L' := [zR 34 0, zI l1, zI z16]) (S' := [zI 0]) (σ' := σ15) (Ps := []) (by decide +kernel) rfl trivial ?_
      exact r_retz (by decide +kernel) rfl (by decide) h
    · replace h := h.2 c
      refine r_blk [qO (.aload_n 0), qO (.bipush 59)] (pc' := 262) (L' := [zR 34 0, zI l1, zI z16]) (S' := [zI 59, zR 34 0]) (σ' := σ15) (Ps := []) (by decide +kernel) rfl trivial ?_
      refine r_callVI (As := [zI 59]) (S := []) (Lc := [zR 34 0, zI 59]) (d' := 1) (n := 1) (g := 34) (x := 0) (ci := 11) kX11_takes vX11_takes lkX11_86 (by decide +kernel) (by decide) rfl rfl (by decide) rfl rfl (Nat.le_of_ble_eq_true rfl) rfl rfl (Nat.le_of_ble_eq_true rfl) (h.monoI (fun z18 σ17 h => ?_))
      refine r_if_eq (off := 7) (tgt := 272) (by decide +kernel) (by decide) (fun c => ?_) (fun c => ?_)
      · replace h := h.1 c
        refine r_blk [qO (.iconst 0)] (pc' := 273) (L' := [zR 34 0, zI l1, zI z16]) (S' := [zI 0]) (σ' := σ17) (Ps := []) (by decide +kernel) rfl trivial ?_
        exact r_retz (by decide +kernel) rfl (by decide) h
      · replace h := h.2 c
        refine r_blk [qO (.iconst 1), qO (.goto 4)] (pc' := 273) (L' := [zR 34 0, zI l1, zI z16]) (S' := [zI 1]) (σ' := σ17) (Ps := []) (by decide +kernel) rfl trivial ?_
        exact r_retz (by decide +kernel) rfl (by decide) h
  replace h := h.2
  by_cases c115 : l1 = 115
  · replace h := h.1 c115
    refine r_lookup (dflt := 178) (ps := #[(101, 115), (107, 36), (115, 46)]) (len := 36) (off := 46) (tgt := 90) (by decide +kernel) (by decide +kernel) (by rw [c115]; decide) (by decide) ?_
    refine r_blk [qO (.aload_n 0), qO (.iconst 0), qO (.iconst 1)] (pc' := 93) (L' := [zR 34 0, zI l1, zI 0]) (S' := [zI 1, zI 0, zR 34 0]) (σ' := (zup σ 34 0 8 ((σ 34 0 8) + 1))) (Ps := []) (by decide +kernel) rfl trivial ?_
    refine r_callVI (As := [zI 0, zI 1]) (S := []) (Lc := [zR 34 0, zI 0, zI 1, zU]) (d' := 1) (n := 2) (g := 34) (x := 0) (ci := 11) kX11_readsNumber vX11_readsNumber lkX11_83 (by decide +kernel) (by decide) rfl rfl (by decide) rfl rfl (Nat.le_of_ble_eq_true rfl) rfl rfl (Nat.le_of_ble_eq_true rfl) (h.monoI (fun z20 σ19 h => ?_))
    refine r_if_eq (off := 34) (tgt := 130) (by decide +kernel) (by decide) (fun c => ?_) (fun c => ?_)
    · replace h := h.1 c
      exact Runs.fg (fgE (fgU (fgU fg0))) h
    · replace h := h.2 c
      refine r_blk [qO (.aload_n 0), qO (.iconst 1), qO (.iconst 1)] (pc' := 102) (L' := [zR 34 0, zI l1, zI 0]) (S' := [zI 1, zI 1, zR 34 0]) (σ' := σ19) (Ps := []) (by decide +kernel) rfl trivial ?_
      refine r_callVI (As := [zI 1, zI 1]) (S := []) (Lc := [zR 34 0, zI 1, zI 1, zU]) (d' := 1) (n := 2) (g := 34) (x := 0) (ci := 11) kX11_readsNumber vX11_readsNumber lkX11_83 (by decide +kernel) (by decide) rfl rfl (by decide) rfl rfl (Nat.le_of_ble_eq_true rfl) rfl rfl (Nat.le_of_ble_eq_true rfl) (h.monoI (fun z22 σ21 h => ?_))
      refine r_if_eq (off := 25) (tgt := 130) (by decide +kernel) (by decide) (fun c => ?_) (fun c => ?_)
      · replace h := h.1 c
        exact Runs.fg (fgE (fgU (fgU fg0))) h
      · replace h := h.2 c
        refine r_blk [qO (.aload_n 0), qO (.bipush 44)] (pc' := 111) (L' := [zR 34 0, zI l1, zI 0]) (S' := [zI 44, zR 34 0]) (σ' := σ21) (Ps := []) (by decide +kernel) rfl trivial ?_
        refine r_callVI (As := [zI 44]) (S := []) (Lc := [zR 34 0, zI 44]) (d' := 1) (n := 1) (g := 34) (x := 0) (ci := 11) kX11_takes vX11_takes lkX11_86 (by decide +kernel) (by decide) rfl rfl (by decide) rfl rfl (Nat.le_of_ble_eq_true rfl) rfl rfl (Nat.le_of_ble_eq_true rfl) (h.monoI (fun z24 σ23 h => ?_))
        refine r_if_eq (off := 16) (tgt := 130) (by decide +kernel) (by decide) (fun c => ?_) (fun c => ?_)
        · replace h := h.1 c
          exact Runs.fg (fgE (fgU (fgU fg0))) h
        · replace h := h.2 c
          refine r_blk [qO (.aload_n 0), qO (.iconst 2), qO (.iconst 2)] (pc' := 120) (L' := [zR 34 0, zI l1, zI 0]) (S' := [zI 2, zI 2, zR 34 0]) (σ' := σ23) (Ps := []) (by decide +kernel) rfl trivial ?_
          refine r_callVI (As := [zI 2, zI 2]) (S := []) (Lc := [zR 34 0, zI 2, zI 2, zU]) (d' := 1) (n := 2) (g := 34) (x := 0) (ci := 11) kX11_readsNumber vX11_readsNumber lkX11_83 (by decide +kernel) (by decide) rfl rfl (by decide) rfl rfl (Nat.le_of_ble_eq_true rfl) rfl rfl (Nat.le_of_ble_eq_true rfl) (h.monoI (fun z26 σ25 h => ?_))
          refine r_if_eq (off := 7) (tgt := 130) (by decide +kernel) (by decide) (fun c => ?_) (fun c => ?_)
          · replace h := h.1 c
            exact Runs.fg (fgE (fgU (fgU fg0))) h
          · replace h := h.2 c
            refine r_blk [qO (.iconst 1), qO (.goto 4), qO (.istore_n 2), qO (.aload_n 0), qF (.getfield 25) 11 6, qO (.iconst 3), qO (.iload_n 2)] (pc' := 138) (L' := [zR 34 0, zI l1, zI 1]) (S' := [zI 1, zI 3, zR 40 0]) (σ' := σ25) (Ps := []) (by decide +kernel) rfl trivial ?_
            refine r_if_eq (off := 16) (tgt := 154) (by decide +kernel) (by decide) (fun c => ?_) (fun c => ?_)
            · exact absurd c (by decide)
            · refine r_blk [qO (.aload_n 0), qO (.bipush 98)] (pc' := 144) (L' := [zR 34 0, zI l1, zI 1]) (S' := [zI 98, zR 34 0, zI 3, zR 40 0]) (σ' := σ25) (Ps := []) (by decide +kernel) rfl trivial ?_
              refine r_callVI (As := [zI 98]) (S := [zI 3, zR 40 0]) (Lc := [zR 34 0, zI 98]) (d' := 1) (n := 1) (g := 34) (x := 0) (ci := 11) kX11_takes vX11_takes lkX11_86 (by decide +kernel) (by decide) rfl rfl (by decide) rfl rfl (Nat.le_of_ble_eq_true rfl) rfl rfl (Nat.le_of_ble_eq_true rfl) (h.monoI (fun z28 σ27 h => ?_))
              refine r_if_eq (off := 7) (tgt := 154) (by decide +kernel) (by decide) (fun c => ?_) (fun c => ?_)
              · replace h := h.1 c
                refine r_blk [qO (.iconst 0), qO .iastore, qO (.goto 99), qO (.iload_n 2)] (pc' := 256) (L' := [zR 34 0, zI l1, zI 1]) (S' := [zI 1]) (σ' := (zup σ27 40 0 3 0)) (Ps := [0 ≤ 3 ∧ 3 < 4]) (by decide +kernel) rfl ⟨(by decide), trivial⟩ ?_
                refine r_if_eq (off := 16) (tgt := 272) (by decide +kernel) (by decide) (fun c => ?_) (fun c => ?_)
                · exact absurd c (by decide)
                · refine r_blk [qO (.aload_n 0), qO (.bipush 59)] (pc' := 262) (L' := [zR 34 0, zI l1, zI 1]) (S' := [zI 59, zR 34 0]) (σ' := (zup σ27 40 0 3 0)) (Ps := []) (by decide +kernel) rfl trivial ?_
                  refine r_callVI (As := [zI 59]) (S := []) (Lc := [zR 34 0, zI 59]) (d' := 1) (n := 1) (g := 34) (x := 0) (ci := 11) kX11_takes vX11_takes lkX11_86 (by decide +kernel) (by decide) rfl rfl (by decide) rfl rfl (Nat.le_of_ble_eq_true rfl) rfl rfl (Nat.le_of_ble_eq_true rfl) (h.monoI (fun z30 σ29 h => ?_))
                  refine r_if_eq (off := 7) (tgt := 272) (by decide +kernel) (by decide) (fun c => ?_) (fun c => ?_)
                  · replace h := h.1 c
                    refine r_blk [qO (.iconst 0)] (pc' := 273) (L' := [zR 34 0, zI l1, zI 1]) (S' := [zI 0]) (σ' := σ29) (Ps := []) (by decide +kernel) rfl trivial ?_
                    exact r_retz (by decide +kernel) rfl (by decide) h
                  · replace h := h.2 c
                    refine r_blk [qO (.iconst 1), qO (.goto 4)] (pc' := 273) (L' := [zR 34 0, zI l1, zI 1]) (S' := [zI 1]) (σ' := σ29) (Ps := []) (by decide +kernel) rfl trivial ?_
                    exact r_retz (by decide +kernel) rfl (by decide) h
              · replace h := h.2 c
                refine r_blk [qO (.iconst 1), qO (.goto 4), qO .iastore, qO (.goto 99), qO (.iload_n 2)] (pc' := 256) (L' := [zR 34 0, zI l1, zI 1]) (S' := [zI 1]) (σ' := (zup σ27 40 0 3 1)) (Ps := [0 ≤ 3 ∧ 3 < 4]) (by decide +kernel) rfl ⟨(by decide), trivial⟩ ?_
                refine r_if_eq (off := 16) (tgt := 272) (by decide +kernel) (by decide) (fun c => ?_) (fun c => ?_)
                · exact absurd c (by decide)
                · refine r_blk [qO (.aload_n 0), qO (.bipush 59)] (pc' := 262) (L' := [zR 34 0, zI l1, zI 1]) (S' := [zI 59, zR 34 0]) (σ' := (zup σ27 40 0 3 1)) (Ps := []) (by decide +kernel) rfl trivial ?_
                  refine r_callVI (As := [zI 59]) (S := []) (Lc := [zR 34 0, zI 59]) (d' := 1) (n := 1) (g := 34) (x := 0) (ci := 11) kX11_takes vX11_takes lkX11_86 (by decide +kernel) (by decide) rfl rfl (by decide) rfl rfl (Nat.le_of_ble_eq_true rfl) rfl rfl (Nat.le_of_ble_eq_true rfl) (h.monoI (fun z32 σ31 h => ?_))
                  refine r_if_eq (off := 7) (tgt := 272) (by decide +kernel) (by decide) (fun c => ?_) (fun c => ?_)
                  · replace h := h.1 c
                    refine r_blk [qO (.iconst 0)] (pc' := 273) (L' := [zR 34 0, zI l1, zI 1]) (S' := [zI 0]) (σ' := σ31) (Ps := []) (by decide +kernel) rfl trivial ?_
                    exact r_retz (by decide +kernel) rfl (by decide) h
                  · replace h := h.2 c
                    refine r_blk [qO (.iconst 1), qO (.goto 4)] (pc' := 273) (L' := [zR 34 0, zI l1, zI 1]) (S' := [zI 1]) (σ' := σ31) (Ps := []) (by decide +kernel) rfl trivial ?_
                    exact r_retz (by decide +kernel) rfl (by decide) h
  replace h := h.2
  replace h := h ⟨c101, c107, c115⟩
  refine r_lookup (dflt := 178) (ps := #[(101, 115), (107, 36), (115, 46)]) (len := 36) (off := 178) (tgt := 222) (by decide +kernel) (by decide +kernel) (by simp [Op.lookupswitch.offset, Ne.symm c101, Ne.symm c107, Ne.symm c115]) (by decide) ?_
  refine r_blk [qO (.aload_n 0), qO (.iconst 0), qO (.iconst 2)] (pc' := 225) (L' := [zR 34 0, zI l1, zI 0]) (S' := [zI 2, zI 0, zR 34 0]) (σ' := (zup σ 34 0 8 ((σ 34 0 8) + 1))) (Ps := []) (by decide +kernel) rfl trivial ?_
  refine r_callVI (As := [zI 0, zI 2]) (S := []) (Lc := [zR 34 0, zI 0, zI 2, zU]) (d' := 1) (n := 2) (g := 34) (x := 0) (ci := 11) kX11_readsNumber vX11_readsNumber lkX11_83 (by decide +kernel) (by decide) rfl rfl (by decide) rfl rfl (Nat.le_of_ble_eq_true rfl) rfl rfl (Nat.le_of_ble_eq_true rfl) (h.monoI (fun z34 σ33 h => ?_))
  refine r_if_eq (off := 25) (tgt := 253) (by decide +kernel) (by decide) (fun c => ?_) (fun c => ?_)
  · replace h := h.1 c
    refine r_blk [qO (.iconst 0), qO (.istore_n 2), qO (.iload_n 2)] (pc' := 256) (L' := [zR 34 0, zI l1, zI 0]) (S' := [zI 0]) (σ' := σ33) (Ps := []) (by decide +kernel) rfl trivial ?_
    refine r_if_eq (off := 16) (tgt := 272) (by decide +kernel) (by decide) (fun c => ?_) (fun c => ?_)
    · refine r_blk [qO (.iconst 0)] (pc' := 273) (L' := [zR 34 0, zI l1, zI 0]) (S' := [zI 0]) (σ' := σ33) (Ps := []) (by decide +kernel) rfl trivial ?_
      exact r_retz (by decide +kernel) rfl (by decide) h
    · exact absurd c (by decide)
  · replace h := h.2 c
    refine r_blk [qO (.aload_n 0), qO (.bipush 44)] (pc' := 234) (L' := [zR 34 0, zI l1, zI 0]) (S' := [zI 44, zR 34 0]) (σ' := σ33) (Ps := []) (by decide +kernel) rfl trivial ?_
    refine r_callVI (As := [zI 44]) (S := []) (Lc := [zR 34 0, zI 44]) (d' := 1) (n := 1) (g := 34) (x := 0) (ci := 11) kX11_takes vX11_takes lkX11_86 (by decide +kernel) (by decide) rfl rfl (by decide) rfl rfl (Nat.le_of_ble_eq_true rfl) rfl rfl (Nat.le_of_ble_eq_true rfl) (h.monoI (fun z36 σ35 h => ?_))
    refine r_if_eq (off := 16) (tgt := 253) (by decide +kernel) (by decide) (fun c => ?_) (fun c => ?_)
    · replace h := h.1 c
      refine r_blk [qO (.iconst 0), qO (.istore_n 2), qO (.iload_n 2)] (pc' := 256) (L' := [zR 34 0, zI l1, zI 0]) (S' := [zI 0]) (σ' := σ35) (Ps := []) (by decide +kernel) rfl trivial ?_
      refine r_if_eq (off := 16) (tgt := 272) (by decide +kernel) (by decide) (fun c => ?_) (fun c => ?_)
      · refine r_blk [qO (.iconst 0)] (pc' := 273) (L' := [zR 34 0, zI l1, zI 0]) (S' := [zI 0]) (σ' := σ35) (Ps := []) (by decide +kernel) rfl trivial ?_
        exact r_retz (by decide +kernel) rfl (by decide) h
      · exact absurd c (by decide)
    · replace h := h.2 c
      refine r_blk [qO (.aload_n 0), qO (.iconst 1), qO (.iconst 1)] (pc' := 243) (L' := [zR 34 0, zI l1, zI 0]) (S' := [zI 1, zI 1, zR 34 0]) (σ' := σ35) (Ps := []) (by decide +kernel) rfl trivial ?_
      refine r_callVI (As := [zI 1, zI 1]) (S := []) (Lc := [zR 34 0, zI 1, zI 1, zU]) (d' := 1) (n := 2) (g := 34) (x := 0) (ci := 11) kX11_readsNumber vX11_readsNumber lkX11_83 (by decide +kernel) (by decide) rfl rfl (by decide) rfl rfl (Nat.le_of_ble_eq_true rfl) rfl rfl (Nat.le_of_ble_eq_true rfl) (h.monoI (fun z38 σ37 h => ?_))
      refine r_if_eq (off := 7) (tgt := 253) (by decide +kernel) (by decide) (fun c => ?_) (fun c => ?_)
      · replace h := h.1 c
        refine r_blk [qO (.iconst 0), qO (.istore_n 2), qO (.iload_n 2)] (pc' := 256) (L' := [zR 34 0, zI l1, zI 0]) (S' := [zI 0]) (σ' := σ37) (Ps := []) (by decide +kernel) rfl trivial ?_
        refine r_if_eq (off := 16) (tgt := 272) (by decide +kernel) (by decide) (fun c => ?_) (fun c => ?_)
        · refine r_blk [qO (.iconst 0)] (pc' := 273) (L' := [zR 34 0, zI l1, zI 0]) (S' := [zI 0]) (σ' := σ37) (Ps := []) (by decide +kernel) rfl trivial ?_
          exact r_retz (by decide +kernel) rfl (by decide) h
        · exact absurd c (by decide)
      · replace h := h.2 c
        refine r_blk [qO (.iconst 1), qO (.goto 4), qO (.istore_n 2), qO (.iload_n 2)] (pc' := 256) (L' := [zR 34 0, zI l1, zI 1]) (S' := [zI 1]) (σ' := σ37) (Ps := []) (by decide +kernel) rfl trivial ?_
        refine r_if_eq (off := 16) (tgt := 272) (by decide +kernel) (by decide) (fun c => ?_) (fun c => ?_)
        · exact absurd c (by decide)
        · refine r_blk [qO (.aload_n 0), qO (.bipush 59)] (pc' := 262) (L' := [zR 34 0, zI l1, zI 1]) (S' := [zI 59, zR 34 0]) (σ' := σ37) (Ps := []) (by decide +kernel) rfl trivial ?_
          refine r_callVI (As := [zI 59]) (S := []) (Lc := [zR 34 0, zI 59]) (d' := 1) (n := 1) (g := 34) (x := 0) (ci := 11) kX11_takes vX11_takes lkX11_86 (by decide +kernel) (by decide) rfl rfl (by decide) rfl rfl (Nat.le_of_ble_eq_true rfl) rfl rfl (Nat.le_of_ble_eq_true rfl) (h.monoI (fun z40 σ39 h => ?_))
          refine r_if_eq (off := 7) (tgt := 272) (by decide +kernel) (by decide) (fun c => ?_) (fun c => ?_)
          · replace h := h.1 c
            refine r_blk [qO (.iconst 0)] (pc' := 273) (L' := [zR 34 0, zI l1, zI 1]) (S' := [zI 0]) (σ' := σ39) (Ps := []) (by decide +kernel) rfl trivial ?_
            exact r_retz (by decide +kernel) rfl (by decide) h
          · replace h := h.2 c
            refine r_blk [qO (.iconst 1), qO (.goto 4)] (pc' := 273) (L' := [zR 34 0, zI l1, zI 1]) (S' := [zI 1]) (σ' := σ39) (Ps := []) (by decide +kernel) rfl trivial ?_
            exact r_retz (by decide +kernel) rfl (by decide) h
theorem gX11_readsStatement_130 (σ : Hp) {Q : Option Int → Hp → Prop} (h : Q (some 0) (zup σ 40 0 3 0)) : Runs 2 mX11_readsStatement 130 [zR 34 0, zU, zU] [] σ Q := by
  refine r_blk [qO (.iconst 0), qO (.istore_n 2), qO (.aload_n 0), qF (.getfield 25) 11 6, qO (.iconst 3), qO (.iload_n 2)] (pc' := 138) (L' := [zR 34 0, zU, zI 0]) (S' := [zI 0, zI 3, zR 40 0]) (σ' := σ) (Ps := []) (by decide +kernel) rfl trivial ?_
  refine r_if_eq (off := 16) (tgt := 154) (by decide +kernel) (by decide) (fun c => ?_) (fun c => ?_)
  · refine r_blk [qO (.iconst 0), qO .iastore, qO (.goto 99), qO (.iload_n 2)] (pc' := 256) (L' := [zR 34 0, zU, zI 0]) (S' := [zI 0]) (σ' := (zup σ 40 0 3 0)) (Ps := [0 ≤ 3 ∧ 3 < 4]) (by decide +kernel) rfl ⟨(by decide), trivial⟩ ?_
    refine r_if_eq (off := 16) (tgt := 272) (by decide +kernel) (by decide) (fun c => ?_) (fun c => ?_)
    · refine r_blk [qO (.iconst 0)] (pc' := 273) (L' := [zR 34 0, zU, zI 0]) (S' := [zI 0]) (σ' := (zup σ 40 0 3 0)) (Ps := []) (by decide +kernel) rfl trivial ?_
      exact r_retz (by decide +kernel) rfl (by decide) h
    · exact absurd c (by decide)
  · exact absurd c (by decide)
theorem gX11_toldOf_0 (σ : Hp) {Q : Option Int → Hp → Prop} (h : Runs 0 mX11_toldOf 4 [zR 34 0, zI 2, zI 0, zU] [] σ Q) : Runs 0 mX11_toldOf 0 [zR 34 0, zU, zU, zU] [] σ Q := by
  refine r_blk [qO (.iconst 2), qO (.istore_n 1), qO (.iconst 0), qO (.istore_n 2)] (pc' := 4) (L' := [zR 34 0, zI 2, zI 0, zU]) (S' := []) (σ' := σ) (Ps := []) (by decide +kernel) rfl trivial ?_
  exact Runs.fg (fgE (fgE (fgE (fgU fg0)))) h
theorem gX11_toldOf_4 (l1 : Int) (l2 : Int) (σ : Hp) {Q : Option Int → Hp → Prop} (h : ((σ 38 0 1 ≤ l2 → Runs 0 mX11_toldOf 72 [zR 34 0, zI l1, zI 0, zU] [] σ Q) ∧ (¬ σ 38 0 1 ≤ l2 → Runs 0 mX11_toldOf 16 [zR 34 0, zI l1, zI l2, zI 0] [] σ Q))) : Runs 0 mX11_toldOf 4 [zR 34 0, zI l1, zI l2, zU] [] σ Q := by
  refine r_blk [qO (.iload_n 2), qO (.aload_n 0), qF (.getfield 19) 11 3, qO (.iconst 1), qO .iaload] (pc' := 11) (L' := [zR 34 0, zI l1, zI l2, zU]) (S' := [zI (σ 38 0 1), zI l2]) (σ' := σ) (Ps := [0 ≤ 1 ∧ 1 < 123]) (by decide +kernel) rfl ⟨(by decide), trivial⟩ ?_
  refine r_icmp_ge (off := 59) (tgt := 70) (by decide +kernel) (by decide) (fun c => ?_) (fun c => ?_)
  · replace h := h.1 c
    refine r_blk [qO (.iconst 0), qO (.istore_n 2)] (pc' := 72) (L' := [zR 34 0, zI l1, zI 0, zU]) (S' := []) (σ' := σ) (Ps := []) (by decide +kernel) rfl trivial ?_
    exact Runs.fg (fgE (fgE (fgE (fgU fg0)))) h
  · replace h := h.2 c
    refine r_blk [qO (.iconst 0), qO (.istore_n 3)] (pc' := 16) (L' := [zR 34 0, zI l1, zI l2, zI 0]) (S' := []) (σ' := σ) (Ps := []) (by decide +kernel) rfl trivial ?_
    exact Runs.fg (fgE (fgE (fgE (fgE fg0)))) h
theorem gX11_toldOf_16 (l1 : Int) (l2 : Int) (l3 : Int) (σ : Hp) {Q : Option Int → Hp → Prop} (h : ((2 ≤ l3 → (-2147483648 ≤ l2 + 1 ∧ l2 + 1 ≤ 2147483647) ∧ Runs 0 mX11_toldOf 4 [zR 34 0, zI l1, zI (l2 + 1), zU] [] σ Q) ∧ (¬ 2 ≤ l3 → (-2147483648 ≤ 5 * l2 ∧ 5 * l2 ≤ 2147483647) ∧ (-2147483648 ≤ 11 + (5 * l2) ∧ 11 + (5 * l2) ≤ 2147483647) ∧ (-2147483648 ≤ (11 + (5 * l2)) + l3 ∧ (11 + (5 * l2)) + l3 ≤ 2147483647) ∧ (0 ≤ (11 + (5 * l2)) + l3 ∧ (11 + (5 * l2)) + l3 < 123) ∧ ((σ 38 0 (((11 + (5 * l2)) + l3).toNat) < l1 → (-2147483648 ≤ l3 + 1 ∧ l3 + 1 ≤ 2147483647) ∧ Runs 0 mX11_toldOf 16 [zR 34 0, zI l1, zI l2, zI (l3 + 1)] [] σ Q) ∧ (¬ σ 38 0 (((11 + (5 * l2)) + l3).toNat) < l1 → (-2147483648 ≤ 5 * l2 ∧ 5 * l2 ≤ 2147483647) ∧ (-2147483648 ≤ 11 + (5 * l2) ∧ 11 + (5 * l2) ≤ 2147483647) ∧ (-2147483648 ≤ (11 + (5 * l2)) + l3 ∧ (11 + (5 * l2)) + l3 ≤ 2147483647) ∧ (0 ≤ (11 + (5 * l2)) + l3 ∧ (11 + (5 * l2)) + l3 < 123) ∧ (-2147483648 ≤ (σ 38 0 (((11 + (5 * l2)) + l3).toNat)) + 1 ∧ (σ 38 0 (((11 + (5 * l2)) + l3).toNat)) + 1 ≤ 2147483647) ∧ (-2147483648 ≤ l3 + 1 ∧ l3 + 1 ≤ 2147483647) ∧ Runs 0 mX11_toldOf 16 [zR 34 0, zI ((σ 38 0 (((11 + (5 * l2)) + l3).toNat)) + 1), zI l2, zI (l3 + 1)] [] σ Q))))) : Runs 0 mX11_toldOf 16 [zR 34 0, zI l1, zI l2, zI l3] [] σ Q := by
  refine r_blk [qO (.iload_n 3), qO (.iconst 2)] (pc' := 18) (L' := [zR 34 0, zI l1, zI l2, zI l3]) (S' := [zI 2, zI l3]) (σ' := σ) (Ps := []) (by decide +kernel) rfl trivial ?_
  refine r_icmp_ge (off := 46) (tgt := 64) (by decide +kernel) (by decide) (fun c => ?_) (fun c => ?_)
  · replace h := h.1 c
    refine r_blk [qO (.iinc 2 1), qO (.goto (-63))] (pc' := 4) (L' := [zR 34 0, zI l1, zI (l2 + 1), zI l3]) (S' := []) (σ' := σ) (Ps := [-2147483648 ≤ l2 + 1 ∧ l2 + 1 ≤ 2147483647]) (by decide +kernel) rfl ⟨h.1, trivial⟩ ?_
    replace h := h.2
    exact Runs.fg (fgE (fgE (fgE (fgU fg0)))) h
  · replace h := h.2 c
    refine r_blk [qO (.aload_n 0), qF (.getfield 19) 11 3, qO (.bipush 11), qO (.iconst 5), qO (.iload_n 2), qO .imul, qO .iadd, qO (.iload_n 3), qO .iadd, qO .iaload, qO (.iload_n 1)] (pc' := 35) (L' := [zR 34 0, zI l1, zI l2, zI l3]) (S' := [zI l1, zI (σ 38 0 (((11 + (5 * l2)) + l3).toNat))]) (σ' := σ) (Ps := [-2147483648 ≤ 5 * l2 ∧ 5 * l2 ≤ 2147483647, -2147483648 ≤ 11 + (5 * l2) ∧ 11 + (5 * l2) ≤ 2147483647, -2147483648 ≤ (11 + (5 * l2)) + l3 ∧ (11 + (5 * l2)) + l3 ≤ 2147483647, 0 ≤ (11 + (5 * l2)) + l3 ∧ (11 + (5 * l2)) + l3 < 123]) (by decide +kernel) rfl ⟨h.1, h.2.1, h.2.2.1, h.2.2.2.1, trivial⟩ ?_
    replace h := h.2.2.2.2
    refine r_icmp_lt (off := 21) (tgt := 56) (by decide +kernel) (by decide) (fun c => ?_) (fun c => ?_)
    · replace h := h.1 c
      refine r_blk [qO (.iload_n 1), qO (.istore_n 1), qO (.iinc 3 1), qO (.goto (-45))] (pc' := 16) (L' := [zR 34 0, zI l1, zI l2, zI (l3 + 1)]) (S' := []) (σ' := σ) (Ps := [-2147483648 ≤ l3 + 1 ∧ l3 + 1 ≤ 2147483647]) (by decide +kernel) rfl ⟨h.1, trivial⟩ ?_
      replace h := h.2
      exact Runs.fg (fgE (fgE (fgE (fgE fg0)))) h
    · replace h := h.2 c
      refine r_blk [qO (.aload_n 0), qF (.getfield 19) 11 3, qO (.bipush 11), qO (.iconst 5), qO (.iload_n 2), qO .imul, qO .iadd, qO (.iload_n 3), qO .iadd, qO .iaload, qO (.iconst 1), qO .iadd, qO (.goto 4), qO (.istore_n 1), qO (.iinc 3 1), qO (.goto (-45))] (pc' := 16) (L' := [zR 34 0, zI ((σ 38 0 (((11 + (5 * l2)) + l3).toNat)) + 1), zI l2, zI (l3 + 1)]) (S' := []) (σ' := σ) (Ps := [-2147483648 ≤ 5 * l2 ∧ 5 * l2 ≤ 2147483647, -2147483648 ≤ 11 + (5 * l2) ∧ 11 + (5 * l2) ≤ 2147483647, -2147483648 ≤ (11 + (5 * l2)) + l3 ∧ (11 + (5 * l2)) + l3 ≤ 2147483647, 0 ≤ (11 + (5 * l2)) + l3 ∧ (11 + (5 * l2)) + l3 < 123, -2147483648 ≤ (σ 38 0 (((11 + (5 * l2)) + l3).toNat)) + 1 ∧ (σ 38 0 (((11 + (5 * l2)) + l3).toNat)) + 1 ≤ 2147483647, -2147483648 ≤ l3 + 1 ∧ l3 + 1 ≤ 2147483647]) (by decide +kernel) rfl ⟨h.1, h.2.1, h.2.2.1, h.2.2.2.1, h.2.2.2.2.1, h.2.2.2.2.2.1, trivial⟩ ?_
      replace h := h.2.2.2.2.2.2
      exact Runs.fg (fgE (fgE (fgE (fgE fg0)))) h
theorem gX11_toldOf_72 (l1 : Int) (l2 : Int) (σ : Hp) {Q : Option Int → Hp → Prop} (h : ((σ 38 0 2 ≤ l2 → Q (some l1) σ) ∧ (¬ σ 38 0 2 ≤ l2 → Runs 0 mX11_toldOf 84 [zR 34 0, zI l1, zI l2, zI 0] [] σ Q))) : Runs 0 mX11_toldOf 72 [zR 34 0, zI l1, zI l2, zU] [] σ Q := by
  refine r_blk [qO (.iload_n 2), qO (.aload_n 0), qF (.getfield 19) 11 3, qO (.iconst 2), qO .iaload] (pc' := 79) (L' := [zR 34 0, zI l1, zI l2, zU]) (S' := [zI (σ 38 0 2), zI l2]) (σ' := σ) (Ps := [0 ≤ 2 ∧ 2 < 123]) (by decide +kernel) rfl ⟨(by decide), trivial⟩ ?_
  refine r_icmp_ge (off := 59) (tgt := 138) (by decide +kernel) (by decide) (fun c => ?_) (fun c => ?_)
  · replace h := h.1 c
    refine r_blk [qO (.iload_n 1)] (pc' := 139) (L' := [zR 34 0, zI l1, zI l2, zU]) (S' := [zI l1]) (σ' := σ) (Ps := []) (by decide +kernel) rfl trivial ?_
    exact r_ret (by decide +kernel) rfl (fun _ => h)
  · replace h := h.2 c
    refine r_blk [qO (.iconst 0), qO (.istore_n 3)] (pc' := 84) (L' := [zR 34 0, zI l1, zI l2, zI 0]) (S' := []) (σ' := σ) (Ps := []) (by decide +kernel) rfl trivial ?_
    exact Runs.fg (fgE (fgE (fgE (fgE fg0)))) h
theorem gX11_toldOf_84 (l1 : Int) (l2 : Int) (l3 : Int) (σ : Hp) {Q : Option Int → Hp → Prop} (h : ((2 ≤ l3 → (-2147483648 ≤ l2 + 1 ∧ l2 + 1 ≤ 2147483647) ∧ Runs 0 mX11_toldOf 72 [zR 34 0, zI l1, zI (l2 + 1), zU] [] σ Q) ∧ (¬ 2 ≤ l3 → (-2147483648 ≤ 4 * l2 ∧ 4 * l2 ≤ 2147483647) ∧ (-2147483648 ≤ 81 + (4 * l2) ∧ 81 + (4 * l2) ≤ 2147483647) ∧ (-2147483648 ≤ (81 + (4 * l2)) + l3 ∧ (81 + (4 * l2)) + l3 ≤ 2147483647) ∧ (0 ≤ (81 + (4 * l2)) + l3 ∧ (81 + (4 * l2)) + l3 < 123) ∧ ((σ 38 0 (((81 + (4 * l2)) + l3).toNat) < l1 → (-2147483648 ≤ l3 + 1 ∧ l3 + 1 ≤ 2147483647) ∧ Runs 0 mX11_toldOf 84 [zR 34 0, zI l1, zI l2, zI (l3 + 1)] [] σ Q) ∧ (¬ σ 38 0 (((81 + (4 * l2)) + l3).toNat) < l1 → (-2147483648 ≤ 4 * l2 ∧ 4 * l2 ≤ 2147483647) ∧ (-2147483648 ≤ 81 + (4 * l2) ∧ 81 + (4 * l2) ≤ 2147483647) ∧ (-2147483648 ≤ (81 + (4 * l2)) + l3 ∧ (81 + (4 * l2)) + l3 ≤ 2147483647) ∧ (0 ≤ (81 + (4 * l2)) + l3 ∧ (81 + (4 * l2)) + l3 < 123) ∧ (-2147483648 ≤ (σ 38 0 (((81 + (4 * l2)) + l3).toNat)) + 1 ∧ (σ 38 0 (((81 + (4 * l2)) + l3).toNat)) + 1 ≤ 2147483647) ∧ (-2147483648 ≤ l3 + 1 ∧ l3 + 1 ≤ 2147483647) ∧ Runs 0 mX11_toldOf 84 [zR 34 0, zI ((σ 38 0 (((81 + (4 * l2)) + l3).toNat)) + 1), zI l2, zI (l3 + 1)] [] σ Q))))) : Runs 0 mX11_toldOf 84 [zR 34 0, zI l1, zI l2, zI l3] [] σ Q := by
  refine r_blk [qO (.iload_n 3), qO (.iconst 2)] (pc' := 86) (L' := [zR 34 0, zI l1, zI l2, zI l3]) (S' := [zI 2, zI l3]) (σ' := σ) (Ps := []) (by decide +kernel) rfl trivial ?_
  refine r_icmp_ge (off := 46) (tgt := 132) (by decide +kernel) (by decide) (fun c => ?_) (fun c => ?_)
  · replace h := h.1 c
    refine r_blk [qO (.iinc 2 1), qO (.goto (-63))] (pc' := 72) (L' := [zR 34 0, zI l1, zI (l2 + 1), zI l3]) (S' := []) (σ' := σ) (Ps := [-2147483648 ≤ l2 + 1 ∧ l2 + 1 ≤ 2147483647]) (by decide +kernel) rfl ⟨h.1, trivial⟩ ?_
    replace h := h.2
    exact Runs.fg (fgE (fgE (fgE (fgU fg0)))) h
  · replace h := h.2 c
    refine r_blk [qO (.aload_n 0), qF (.getfield 19) 11 3, qO (.bipush 81), qO (.iconst 4), qO (.iload_n 2), qO .imul, qO .iadd, qO (.iload_n 3), qO .iadd, qO .iaload, qO (.iload_n 1)] (pc' := 103) (L' := [zR 34 0, zI l1, zI l2, zI l3]) (S' := [zI l1, zI (σ 38 0 (((81 + (4 * l2)) + l3).toNat))]) (σ' := σ) (Ps := [-2147483648 ≤ 4 * l2 ∧ 4 * l2 ≤ 2147483647, -2147483648 ≤ 81 + (4 * l2) ∧ 81 + (4 * l2) ≤ 2147483647, -2147483648 ≤ (81 + (4 * l2)) + l3 ∧ (81 + (4 * l2)) + l3 ≤ 2147483647, 0 ≤ (81 + (4 * l2)) + l3 ∧ (81 + (4 * l2)) + l3 < 123]) (by decide +kernel) rfl ⟨h.1, h.2.1, h.2.2.1, h.2.2.2.1, trivial⟩ ?_
    replace h := h.2.2.2.2
    refine r_icmp_lt (off := 21) (tgt := 124) (by decide +kernel) (by decide) (fun c => ?_) (fun c => ?_)
    · replace h := h.1 c
      refine r_blk [qO (.iload_n 1), qO (.istore_n 1), qO (.iinc 3 1), qO (.goto (-45))] (pc' := 84) (L' := [zR 34 0, zI l1, zI l2, zI (l3 + 1)]) (S' := []) (σ' := σ) (Ps := [-2147483648 ≤ l3 + 1 ∧ l3 + 1 ≤ 2147483647]) (by decide +kernel) rfl ⟨h.1, trivial⟩ ?_
      replace h := h.2
      exact Runs.fg (fgE (fgE (fgE (fgE fg0)))) h
    · replace h := h.2 c
      refine r_blk [qO (.aload_n 0), qF (.getfield 19) 11 3, qO (.bipush 81), qO (.iconst 4), qO (.iload_n 2), qO .imul, qO .iadd, qO (.iload_n 3), qO .iadd, qO .iaload, qO (.iconst 1), qO .iadd, qO (.goto 4), qO (.istore_n 1), qO (.iinc 3 1), qO (.goto (-45))] (pc' := 84) (L' := [zR 34 0, zI ((σ 38 0 (((81 + (4 * l2)) + l3).toNat)) + 1), zI l2, zI (l3 + 1)]) (S' := []) (σ' := σ) (Ps := [-2147483648 ≤ 4 * l2 ∧ 4 * l2 ≤ 2147483647, -2147483648 ≤ 81 + (4 * l2) ∧ 81 + (4 * l2) ≤ 2147483647, -2147483648 ≤ (81 + (4 * l2)) + l3 ∧ (81 + (4 * l2)) + l3 ≤ 2147483647, 0 ≤ (81 + (4 * l2)) + l3 ∧ (81 + (4 * l2)) + l3 < 123, -2147483648 ≤ (σ 38 0 (((81 + (4 * l2)) + l3).toNat)) + 1 ∧ (σ 38 0 (((81 + (4 * l2)) + l3).toNat)) + 1 ≤ 2147483647, -2147483648 ≤ l3 + 1 ∧ l3 + 1 ≤ 2147483647]) (by decide +kernel) rfl ⟨h.1, h.2.1, h.2.2.1, h.2.2.2.1, h.2.2.2.2.1, h.2.2.2.2.2.1, trivial⟩ ?_
      replace h := h.2.2.2.2.2.2
      exact Runs.fg (fgE (fgE (fgE (fgE fg0)))) h
theorem gX11_comes_0 (a0 : Int) (σ : Hp) {Q : Option Int → Hp → Prop} (h : ((σ 38 0 0 ≤ σ 40 0 0 → Runs 1 mX11_comes 43 [zR 34 0, zI a0, zI (σ 40 0 0), zI (σ 40 0 1), zU, zU, zU] [] σ Q) ∧ (¬ σ 38 0 0 ≤ σ 40 0 0 → ((σ 38 0 0 ≤ σ 40 0 1 → Runs 1 mX11_comes 43 [zR 34 0, zI a0, zI (σ 40 0 0), zI (σ 40 0 1), zU, zU, zU] [] σ Q) ∧ (¬ σ 38 0 0 ≤ σ 40 0 1 → ((σ 40 0 0 = σ 40 0 1 → Runs 1 mX11_comes 43 [zR 34 0, zI a0, zI (σ 40 0 0), zI (σ 40 0 1), zU, zU, zU] [] σ Q) ∧ (¬ σ 40 0 0 = σ 40 0 1 → ((a0 = 101 → ((1439 < σ 40 0 2 → Q (some 0) σ) ∧ (¬ 1439 < σ 40 0 2 → ((σ 40 0 3 < 1 → Q (some 0) σ) ∧ (¬ σ 40 0 3 < 1 → ((¬ σ 38 0 2 = 8 → (-2147483648 ≤ 4 * (σ 38 0 2) ∧ 4 * (σ 38 0 2) ≤ 2147483647) ∧ (-2147483648 ≤ 81 + (4 * (σ 38 0 2)) ∧ 81 + (4 * (σ 38 0 2)) ≤ 2147483647) ∧ Runs 1 mX11_comes 267 [zR 34 0, zU, zU, zU, zU, zI (81 + (4 * (σ 38 0 2))), zI 0] [] σ Q) ∧ (σ 38 0 2 = 8 → Q (some 0) σ))))))) ∧ (a0 = 107 → ((10 < σ 40 0 0 → Q (some 0) σ) ∧ (¬ 10 < σ 40 0 0 → Runs 0 mX11_toldOf 0 [zR 34 0, zU, zU, zU] [] σ (rI (fun z2 σ1 => ((z2 ≤ σ 40 0 0 → Q (some 1) (zup σ1 38 0 0 (σ 40 0 0))) ∧ (¬ z2 ≤ σ 40 0 0 → Q (some 0) σ1))))))) ∧ (a0 = 115 → ((σ 40 0 2 < 1 → Q (some 0) σ) ∧ (¬ σ 40 0 2 < 1 → ((60 < σ 40 0 2 → Q (some 0) σ) ∧ (¬ 60 < σ 40 0 2 → ((¬ σ 38 0 1 = 14 → (-2147483648 ≤ 5 * (σ 38 0 1) ∧ 5 * (σ 38 0 1) ≤ 2147483647) ∧ (-2147483648 ≤ 11 + (5 * (σ 38 0 1)) ∧ 11 + (5 * (σ 38 0 1)) ≤ 2147483647) ∧ Runs 1 mX11_comes 160 [zR 34 0, zU, zU, zU, zU, zI (11 + (5 * (σ 38 0 1))), zI 0] [] σ Q) ∧ (σ 38 0 1 = 14 → Q (some 0) σ))))))) ∧ (¬ a0 = 101 ∧ ¬ a0 = 107 ∧ ¬ a0 = 115 → ((σ 38 0 1 ≤ σ 40 0 0 → Q (some 0) σ) ∧ (¬ σ 38 0 1 ≤ σ 40 0 0 → ((σ 40 0 1 ≤ 2 → (-2147483648 ≤ 5 * (σ 40 0 0) ∧ 5 * (σ 40 0 0) ≤ 2147483647) ∧ (-2147483648 ≤ 11 + (5 * (σ 40 0 0)) ∧ 11 + (5 * (σ 40 0 0)) ≤ 2147483647) ∧ (-2147483648 ≤ (11 + (5 * (σ 40 0 0))) + 4 ∧ (11 + (5 * (σ 40 0 0))) + 4 ≤ 2147483647) ∧ (0 ≤ (11 + (5 * (σ 40 0 0))) + 4 ∧ (11 + (5 * (σ 40 0 0))) + 4 < 123) ∧ Q (some 1) (zup σ 38 0 (((11 + (5 * (σ 40 0 0))) + 4).toNat) (σ 40 0 1))) ∧ (¬ σ 40 0 1 ≤ 2 → Q (some 0) σ))))))))))))) : Runs 1 mX11_comes 0 [zR 34 0, zI a0, zU, zU, zU, zU, zU] [] σ Q := by
  refine r_blk [qO (.aload_n 0), qF (.getfield 25) 11 6, qO (.iconst 0), qO .iaload, qO (.istore_n 2), qO (.aload_n 0), qF (.getfield 25) 11 6, qO (.iconst 1), qO .iaload, qO (.istore_n 3), qO (.iload_n 2), qO (.aload_n 0), qF (.getfield 19) 11 3, qO (.iconst 0), qO .iaload] (pc' := 21) (L' := [zR 34 0, zI a0, zI (σ 40 0 0), zI (σ 40 0 1), zU, zU, zU]) (S' := [zI (σ 38 0 0), zI (σ 40 0 0)]) (σ' := σ) (Ps := [0 ≤ 0 ∧ 0 < 4, 0 ≤ 1 ∧ 1 < 4, 0 ≤ 0 ∧ 0 < 123]) (by decide +kernel) rfl ⟨(by decide), (by decide), (by decide), trivial⟩ ?_
  refine r_icmp_ge (off := 22) (tgt := 43) (by decide +kernel) (by decide) (fun c => ?_) (fun c => ?_)
  · replace h := h.1 c
    exact Runs.fg (fgE (fgE (fgE (fgE (fgU (fgU (fgU fg0))))))) h
  · replace h := h.2 c
    refine r_blk [qO (.iload_n 3), qO (.aload_n 0), qF (.getfield 19) 11 3, qO (.iconst 0), qO .iaload] (pc' := 31) (L' := [zR 34 0, zI a0, zI (σ 40 0 0), zI (σ 40 0 1), zU, zU, zU]) (S' := [zI (σ 38 0 0), zI (σ 40 0 1)]) (σ' := σ) (Ps := [0 ≤ 0 ∧ 0 < 123]) (by decide +kernel) rfl ⟨(by decide), trivial⟩ ?_
    refine r_icmp_ge (off := 12) (tgt := 43) (by decide +kernel) (by decide) (fun c => ?_) (fun c => ?_)
    · replace h := h.1 c
      exact Runs.fg (fgE (fgE (fgE (fgE (fgU (fgU (fgU fg0))))))) h
    · replace h := h.2 c
      refine r_blk [qO (.iload_n 2), qO (.iload_n 3)] (pc' := 36) (L' := [zR 34 0, zI a0, zI (σ 40 0 0), zI (σ 40 0 1), zU, zU, zU]) (S' := [zI (σ 40 0 1), zI (σ 40 0 0)]) (σ' := σ) (Ps := []) (by decide +kernel) rfl trivial ?_
      refine r_icmp_eq (off := 7) (tgt := 43) (by decide +kernel) (by decide) (fun c => ?_) (fun c => ?_)
      · replace h := h.1 c
        exact Runs.fg (fgE (fgE (fgE (fgE (fgU (fgU (fgU fg0))))))) h
      · replace h := h.2 c
        refine r_blk [qO (.iconst 1), qO (.goto 4), qO (.istore 4), qO (.iload_n 1)] (pc' := 47) (L' := [zR 34 0, zI a0, zI (σ 40 0 0), zI (σ 40 0 1), zI 1, zU, zU]) (S' := [zI a0]) (σ' := σ) (Ps := []) (by decide +kernel) rfl trivial ?_
        by_cases c101 : a0 = 101
        · replace h := h.1 c101
          refine r_lookup (dflt := 261) (ps := #[(101, 164), (107, 33), (115, 58)]) (len := 33) (off := 164) (tgt := 211) (by decide +kernel) (by decide +kernel) (by rw [c101]; decide) (by decide) ?_
          refine r_blk [qO (.iload 4)] (pc' := 213) (L' := [zR 34 0, zI a0, zI (σ 40 0 0), zI (σ 40 0 1), zI 1, zU, zU]) (S' := [zI 1]) (σ' := σ) (Ps := []) (by decide +kernel) rfl trivial ?_
          refine r_if_eq (off := 36) (tgt := 249) (by decide +kernel) (by decide) (fun c => ?_) (fun c => ?_)
          · exact absurd c (by decide)
          · refine r_blk [qO (.aload_n 0), qF (.getfield 25) 11 6, qO (.iconst 2), qO .iaload, qO (.sipush 1439)] (pc' := 225) (L' := [zR 34 0, zI a0, zI (σ 40 0 0), zI (σ 40 0 1), zI 1, zU, zU]) (S' := [zI 1439, zI (σ 40 0 2)]) (σ' := σ) (Ps := [0 ≤ 2 ∧ 2 < 4]) (by decide +kernel) rfl ⟨(by decide), trivial⟩ ?_
            refine r_icmp_gt (off := 24) (tgt := 249) (by decide +kernel) (by decide) (fun c => ?_) (fun c => ?_)
            · replace h := h.1 c
              refine r_blk [qO (.iconst 0)] (pc' := 250) (L' := [zR 34 0, zI a0, zI (σ 40 0 0), zI (σ 40 0 1), zI 1, zU, zU]) (S' := [zI 0]) (σ' := σ) (Ps := []) (by decide +kernel) rfl trivial ?_
              exact r_retz (by decide +kernel) rfl (by decide) h
            · replace h := h.2 c
              refine r_blk [qO (.aload_n 0), qF (.getfield 25) 11 6, qO (.iconst 3), qO .iaload, qO (.iconst 1)] (pc' := 235) (L' := [zR 34 0, zI a0, zI (σ 40 0 0), zI (σ 40 0 1), zI 1, zU, zU]) (S' := [zI 1, zI (σ 40 0 3)]) (σ' := σ) (Ps := [0 ≤ 3 ∧ 3 < 4]) (by decide +kernel) rfl ⟨(by decide), trivial⟩ ?_
              refine r_icmp_lt (off := 14) (tgt := 249) (by decide +kernel) (by decide) (fun c => ?_) (fun c => ?_)
              · replace h := h.1 c
                refine r_blk [qO (.iconst 0)] (pc' := 250) (L' := [zR 34 0, zI a0, zI (σ 40 0 0), zI (σ 40 0 1), zI 1, zU, zU]) (S' := [zI 0]) (σ' := σ) (Ps := []) (by decide +kernel) rfl trivial ?_
                exact r_retz (by decide +kernel) rfl (by decide) h
              · replace h := h.2 c
                refine r_blk [qO (.aload_n 0), qF (.getfield 19) 11 3, qO (.iconst 2), qO .iaload, qO (.bipush 8)] (pc' := 246) (L' := [zR 34 0, zI a0, zI (σ 40 0 0), zI (σ 40 0 1), zI 1, zU, zU]) (S' := [zI 8, zI (σ 38 0 2)]) (σ' := σ) (Ps := [0 ≤ 2 ∧ 2 < 123]) (by decide +kernel) rfl ⟨(by decide), trivial⟩ ?_
                refine r_icmp_ne (off := 5) (tgt := 251) (by decide +kernel) (by decide) (fun c => ?_) (fun c => ?_)
                · replace h := h.1 c
                  refine r_blk [qO (.bipush 81), qO (.iconst 4), qO (.aload_n 0), qF (.getfield 19) 11 3, qO (.iconst 2), qO .iaload, qO .imul, qO .iadd, qO (.istore 5), qO (.iconst 0), qO (.istore 6)] (pc' := 267) (L' := [zR 34 0, zI a0, zI (σ 40 0 0), zI (σ 40 0 1), zI 1, zI (81 + (4 * (σ 38 0 2))), zI 0]) (S' := []) (σ' := σ) (Ps := [0 ≤ 2 ∧ 2 < 123, -2147483648 ≤ 4 * (σ 38 0 2) ∧ 4 * (σ 38 0 2) ≤ 2147483647, -2147483648 ≤ 81 + (4 * (σ 38 0 2)) ∧ 81 + (4 * (σ 38 0 2)) ≤ 2147483647]) (by decide +kernel) rfl ⟨(by decide), h.1, h.2.1, trivial⟩ ?_
                  replace h := h.2.2
                  exact Runs.fg (fgE (fgU (fgU (fgU (fgU (fgE (fgE fg0))))))) h
                · replace h := h.2 c
                  refine r_blk [qO (.iconst 0)] (pc' := 250) (L' := [zR 34 0, zI a0, zI (σ 40 0 0), zI (σ 40 0 1), zI 1, zU, zU]) (S' := [zI 0]) (σ' := σ) (Ps := []) (by decide +kernel) rfl trivial ?_
                  exact r_retz (by decide +kernel) rfl (by decide) h
        replace h := h.2
        by_cases c107 : a0 = 107
        · replace h := h.1 c107
          refine r_lookup (dflt := 261) (ps := #[(101, 164), (107, 33), (115, 58)]) (len := 33) (off := 33) (tgt := 80) (by decide +kernel) (by decide +kernel) (by rw [c107]; decide) (by decide) ?_
          refine r_blk [qO (.iload_n 2), qO (.bipush 10)] (pc' := 83) (L' := [zR 34 0, zI a0, zI (σ 40 0 0), zI (σ 40 0 1), zI 1, zU, zU]) (S' := [zI 10, zI (σ 40 0 0)]) (σ' := σ) (Ps := []) (by decide +kernel) rfl trivial ?_
          refine r_icmp_gt (off := 11) (tgt := 94) (by decide +kernel) (by decide) (fun c => ?_) (fun c => ?_)
          · replace h := h.1 c
            refine r_blk [qO (.iconst 0)] (pc' := 95) (L' := [zR 34 0, zI a0, zI (σ 40 0 0), zI (σ 40 0 1), zI 1, zU, zU]) (S' := [zI 0]) (σ' := σ) (Ps := []) (by decide +kernel) rfl trivial ?_
            exact r_retz (by decide +kernel) rfl (by decide) h
          · replace h := h.2 c
            refine r_blk [qO (.iload_n 2), qO (.aload_n 0)] (pc' := 88) (L' := [zR 34 0, zI a0, zI (σ 40 0 0), zI (σ 40 0 1), zI 1, zU, zU]) (S' := [zR 34 0, zI (σ 40 0 0)]) (σ' := σ) (Ps := []) (by decide +kernel) rfl trivial ?_
            refine r_callVI (As := []) (S := [zI (σ 40 0 0)]) (Lc := [zR 34 0, zU, zU, zU]) (d' := 0) (n := 0) (g := 34) (x := 0) (ci := 11) kX11_toldOf vX11_toldOf lkX11_90 (by decide +kernel) (by decide) rfl rfl (by decide) rfl rfl (Nat.le_of_ble_eq_true rfl) rfl rfl (Nat.le_of_ble_eq_true rfl) (h.monoI (fun z2 σ1 h => ?_))
            refine r_icmp_ge (off := 5) (tgt := 96) (by decide +kernel) (by decide) (fun c => ?_) (fun c => ?_)
            · replace h := h.1 c
              refine r_blk [qO (.aload_n 0), qF (.getfield 19) 11 3, qO (.iconst 0), qO (.iload_n 2), qO .iastore, qO (.iconst 1)] (pc' := 104) (L' := [zR 34 0, zI a0, zI (σ 40 0 0), zI (σ 40 0 1), zI 1, zU, zU]) (S' := [zI 1]) (σ' := (zup σ1 38 0 0 (σ 40 0 0))) (Ps := [0 ≤ 0 ∧ 0 < 123]) (by decide +kernel) rfl ⟨(by decide), trivial⟩ ?_
              exact r_retz (by decide +kernel) rfl (by decide) h
            · replace h := h.2 c
              refine r_blk [qO (.iconst 0)] (pc' := 95) (L' := [zR 34 0, zI a0, zI (σ 40 0 0), zI (σ 40 0 1), zI 1, zU, zU]) (S' := [zI 0]) (σ' := σ1) (Ps := []) (by decide +kernel) rfl trivial ?_
              exact r_retz (by decide +kernel) rfl (by decide) h
        replace h := h.2
        by_cases c115 : a0 = 115
        · replace h := h.1 c115
          refine r_lookup (dflt := 261) (ps := #[(101, 164), (107, 33), (115, 58)]) (len := 33) (off := 58) (tgt := 105) (by decide +kernel) (by decide +kernel) (by rw [c115]; decide) (by decide) ?_
          refine r_blk [qO (.iload 4)] (pc' := 107) (L' := [zR 34 0, zI a0, zI (σ 40 0 0), zI (σ 40 0 1), zI 1, zU, zU]) (S' := [zI 1]) (σ' := σ) (Ps := []) (by decide +kernel) rfl trivial ?_
          refine r_if_eq (off := 35) (tgt := 142) (by decide +kernel) (by decide) (fun c => ?_) (fun c => ?_)
          · exact absurd c (by decide)
          · refine r_blk [qO (.aload_n 0), qF (.getfield 25) 11 6, qO (.iconst 2), qO .iaload, qO (.iconst 1)] (pc' := 117) (L' := [zR 34 0, zI a0, zI (σ 40 0 0), zI (σ 40 0 1), zI 1, zU, zU]) (S' := [zI 1, zI (σ 40 0 2)]) (σ' := σ) (Ps := [0 ≤ 2 ∧ 2 < 4]) (by decide +kernel) rfl ⟨(by decide), trivial⟩ ?_
            refine r_icmp_lt (off := 25) (tgt := 142) (by decide +kernel) (by decide) (fun c => ?_) (fun c => ?_)
            · replace h := h.1 c
              refine r_blk [qO (.iconst 0)] (pc' := 143) (L' := [zR 34 0, zI a0, zI (σ 40 0 0), zI (σ 40 0 1), zI 1, zU, zU]) (S' := [zI 0]) (σ' := σ) (Ps := []) (by decide +kernel) rfl trivial ?_
              exact r_retz (by decide +kernel) rfl (by decide) h
            · replace h := h.2 c
              refine r_blk [qO (.aload_n 0), qF (.getfield 25) 11 6, qO (.iconst 2), qO .iaload, qO (.bipush 60)] (pc' := 128) (L' := [zR 34 0, zI a0, zI (σ 40 0 0), zI (σ 40 0 1), zI 1, zU, zU]) (S' := [zI 60, zI (σ 40 0 2)]) (σ' := σ) (Ps := [0 ≤ 2 ∧ 2 < 4]) (by decide +kernel) rfl ⟨(by decide), trivial⟩ ?_
              refine r_icmp_gt (off := 14) (tgt := 142) (by decide +kernel) (by decide) (fun c => ?_) (fun c => ?_)
              · replace h := h.1 c
                refine r_blk [qO (.iconst 0)] (pc' := 143) (L' := [zR 34 0, zI a0, zI (σ 40 0 0), zI (σ 40 0 1), zI 1, zU, zU]) (S' := [zI 0]) (σ' := σ) (Ps := []) (by decide +kernel) rfl trivial ?_
                exact r_retz (by decide +kernel) rfl (by decide) h
              · replace h := h.2 c
                refine r_blk [qO (.aload_n 0), qF (.getfield 19) 11 3, qO (.iconst 1), qO .iaload, qO (.bipush 14)] (pc' := 139) (L' := [zR 34 0, zI a0, zI (σ 40 0 0), zI (σ 40 0 1), zI 1, zU, zU]) (S' := [zI 14, zI (σ 38 0 1)]) (σ' := σ) (Ps := [0 ≤ 1 ∧ 1 < 123]) (by decide +kernel) rfl ⟨(by decide), trivial⟩ ?_
                refine r_icmp_ne (off := 5) (tgt := 144) (by decide +kernel) (by decide) (fun c => ?_) (fun c => ?_)
                · replace h := h.1 c
                  refine r_blk [qO (.bipush 11), qO (.iconst 5), qO (.aload_n 0), qF (.getfield 19) 11 3, qO (.iconst 1), qO .iaload, qO .imul, qO .iadd, qO (.istore 5), qO (.iconst 0), qO (.istore 6)] (pc' := 160) (L' := [zR 34 0, zI a0, zI (σ 40 0 0), zI (σ 40 0 1), zI 1, zI (11 + (5 * (σ 38 0 1))), zI 0]) (S' := []) (σ' := σ) (Ps := [0 ≤ 1 ∧ 1 < 123, -2147483648 ≤ 5 * (σ 38 0 1) ∧ 5 * (σ 38 0 1) ≤ 2147483647, -2147483648 ≤ 11 + (5 * (σ 38 0 1)) ∧ 11 + (5 * (σ 38 0 1)) ≤ 2147483647]) (by decide +kernel) rfl ⟨(by decide), h.1, h.2.1, trivial⟩ ?_
                  replace h := h.2.2
                  exact Runs.fg (fgE (fgU (fgU (fgU (fgU (fgE (fgE fg0))))))) h
                · replace h := h.2 c
                  refine r_blk [qO (.iconst 0)] (pc' := 143) (L' := [zR 34 0, zI a0, zI (σ 40 0 0), zI (σ 40 0 1), zI 1, zU, zU]) (S' := [zI 0]) (σ' := σ) (Ps := []) (by decide +kernel) rfl trivial ?_
                  exact r_retz (by decide +kernel) rfl (by decide) h
        replace h := h.2
        replace h := h ⟨c101, c107, c115⟩
        refine r_lookup (dflt := 261) (ps := #[(101, 164), (107, 33), (115, 58)]) (len := 33) (off := 261) (tgt := 308) (by decide +kernel) (by decide +kernel) (by simp [Op.lookupswitch.offset, Ne.symm c101, Ne.symm c107, Ne.symm c115]) (by decide) ?_
        refine r_blk [qO (.iload_n 2), qO (.aload_n 0), qF (.getfield 19) 11 3, qO (.iconst 1), qO .iaload] (pc' := 315) (L' := [zR 34 0, zI a0, zI (σ 40 0 0), zI (σ 40 0 1), zI 1, zU, zU]) (S' := [zI (σ 38 0 1), zI (σ 40 0 0)]) (σ' := σ) (Ps := [0 ≤ 1 ∧ 1 < 123]) (by decide +kernel) rfl ⟨(by decide), trivial⟩ ?_
        refine r_icmp_ge (off := 8) (tgt := 323) (by decide +kernel) (by decide) (fun c => ?_) (fun c => ?_)
        · replace h := h.1 c
          refine r_blk [qO (.iconst 0)] (pc' := 324) (L' := [zR 34 0, zI a0, zI (σ 40 0 0), zI (σ 40 0 1), zI 1, zU, zU]) (S' := [zI 0]) (σ' := σ) (Ps := []) (by decide +kernel) rfl trivial ?_
          exact r_retz (by decide +kernel) rfl (by decide) h
        · replace h := h.2 c
          refine r_blk [qO (.iload_n 3), qO (.iconst 2)] (pc' := 320) (L' := [zR 34 0, zI a0, zI (σ 40 0 0), zI (σ 40 0 1), zI 1, zU, zU]) (S' := [zI 2, zI (σ 40 0 1)]) (σ' := σ) (Ps := []) (by decide +kernel) rfl trivial ?_
          refine r_icmp_le (off := 5) (tgt := 325) (by decide +kernel) (by decide) (fun c => ?_) (fun c => ?_)
          · replace h := h.1 c
            refine r_blk [qO (.aload_n 0), qF (.getfield 19) 11 3, qO (.bipush 11), qO (.iconst 5), qO (.iload_n 2), qO .imul, qO .iadd, qO (.iconst 4), qO .iadd, qO (.iload_n 3), qO .iastore, qO (.iconst 1)] (pc' := 340) (L' := [zR 34 0, zI a0, zI (σ 40 0 0), zI (σ 40 0 1), zI 1, zU, zU]) (S' := [zI 1]) (σ' := (zup σ 38 0 (((11 + (5 * (σ 40 0 0))) + 4).toNat) (σ 40 0 1))) (Ps := [-2147483648 ≤ 5 * (σ 40 0 0) ∧ 5 * (σ 40 0 0) ≤ 2147483647, -2147483648 ≤ 11 + (5 * (σ 40 0 0)) ∧ 11 + (5 * (σ 40 0 0)) ≤ 2147483647, -2147483648 ≤ (11 + (5 * (σ 40 0 0))) + 4 ∧ (11 + (5 * (σ 40 0 0))) + 4 ≤ 2147483647, 0 ≤ (11 + (5 * (σ 40 0 0))) + 4 ∧ (11 + (5 * (σ 40 0 0))) + 4 < 123]) (by decide +kernel) rfl ⟨h.1, h.2.1, h.2.2.1, h.2.2.2.1, trivial⟩ ?_
            replace h := h.2.2.2.2
            exact r_retz (by decide +kernel) rfl (by decide) h
          · replace h := h.2 c
            refine r_blk [qO (.iconst 0)] (pc' := 324) (L' := [zR 34 0, zI a0, zI (σ 40 0 0), zI (σ 40 0 1), zI 1, zU, zU]) (S' := [zI 0]) (σ' := σ) (Ps := []) (by decide +kernel) rfl trivial ?_
            exact r_retz (by decide +kernel) rfl (by decide) h
theorem gX11_comes_43 (l1 : Int) (l2 : Int) (l3 : Int) (σ : Hp) {Q : Option Int → Hp → Prop} (h : ((l1 = 101 → Q (some 0) σ) ∧ (l1 = 107 → ((10 < l2 → Q (some 0) σ) ∧ (¬ 10 < l2 → Runs 0 mX11_toldOf 0 [zR 34 0, zU, zU, zU] [] σ (rI (fun z2 σ1 => ((z2 ≤ l2 → Q (some 1) (zup σ1 38 0 0 l2)) ∧ (¬ z2 ≤ l2 → Q (some 0) σ1))))))) ∧ (l1 = 115 → Q (some 0) σ) ∧ (¬ l1 = 101 ∧ ¬ l1 = 107 ∧ ¬ l1 = 115 → ((σ 38 0 1 ≤ l2 → Q (some 0) σ) ∧ (¬ σ 38 0 1 ≤ l2 → ((l3 ≤ 2 → (-2147483648 ≤ 5 * l2 ∧ 5 * l2 ≤ 2147483647) ∧ (-2147483648 ≤ 11 + (5 * l2) ∧ 11 + (5 * l2) ≤ 2147483647) ∧ (-2147483648 ≤ (11 + (5 * l2)) + 4 ∧ (11 + (5 * l2)) + 4 ≤ 2147483647) ∧ (0 ≤ (11 + (5 * l2)) + 4 ∧ (11 + (5 * l2)) + 4 < 123) ∧ Q (some 1) (zup σ 38 0 (((11 + (5 * l2)) + 4).toNat) l3)) ∧ (¬ l3 ≤ 2 → Q (some 0) σ))))))) : Runs 1 mX11_comes 43 [zR 34 0, zI l1, zI l2, zI l3, zU, zU, zU] [] σ Q := by
  refine r_blk [qO (.iconst 0), qO (.istore 4), qO (.iload_n 1)] (pc' := 47) (L' := [zR 34 0, zI l1, zI l2, zI l3, zI 0, zU, zU]) (S' := [zI l1]) (σ' := σ) (Ps := []) (by decide +kernel) rfl trivial ?_
  by_cases c101 : l1 = 101
  · replace h := h.1 c101
    refine r_lookup (dflt := 261) (ps := #[(101, 164), (107, 33), (115, 58)]) (len := 33) (off := 164) (tgt := 211) (by decide +kernel) (by decide +kernel) (by rw [c101]; decide) (by decide) ?_
    refine r_blk [qO (.iload 4)] (pc' := 213) (L' := [zR 34 0, zI l1, zI l2, zI l3, zI 0, zU, zU]) (S' := [zI 0]) (σ' := σ) (Ps := []) (by decide +kernel) rfl trivial ?_
    refine r_if_eq (off := 36) (tgt := 249) (by decide +kernel) (by decide) (fun c => ?_) (fun c => ?_)
    · refine r_blk [qO (.iconst 0)] (pc' := 250) (L' := [zR 34 0, zI l1, zI l2, zI l3, zI 0, zU, zU]) (S' := [zI 0]) (σ' := σ) (Ps := []) (by decide +kernel) rfl trivial ?_
      exact r_retz (by decide +kernel) rfl (by decide) h
    · exact absurd c (by decide)
  replace h := h.2
  by_cases c107 : l1 = 107
  · replace h := h.1 c107
    refine r_lookup (dflt := 261) (ps := #[(101, 164), (107, 33), (115, 58)]) (len := 33) (off := 33) (tgt := 80) (by decide +kernel) (by decide +kernel) (by rw [c107]; decide) (by decide) ?_
    refine r_blk [qO (.iload_n 2), qO (.bipush 10)] (pc' := 83) (L' := [zR 34 0, zI l1, zI l2, zI l3, zI 0, zU, zU]) (S' := [zI 10, zI l2]) (σ' := σ) (Ps := []) (by decide +kernel) rfl trivial ?_
    refine r_icmp_gt (off := 11) (tgt := 94) (by decide +kernel) (by decide) (fun c => ?_) (fun c => ?_)
    · replace h := h.1 c
      refine r_blk [qO (.iconst 0)] (pc' := 95) (L' := [zR 34 0, zI l1, zI l2, zI l3, zI 0, zU, zU]) (S' := [zI 0]) (σ' := σ) (Ps := []) (by decide +kernel) rfl trivial ?_
      exact r_retz (by decide +kernel) rfl (by decide) h
    · replace h := h.2 c
      refine r_blk [qO (.iload_n 2), qO (.aload_n 0)] (pc' := 88) (L' := [zR 34 0, zI l1, zI l2, zI l3, zI 0, zU, zU]) (S' := [zR 34 0, zI l2]) (σ' := σ) (Ps := []) (by decide +kernel) rfl trivial ?_
      refine r_callVI (As := []) (S := [zI l2]) (Lc := [zR 34 0, zU, zU, zU]) (d' := 0) (n := 0) (g := 34) (x := 0) (ci := 11) kX11_toldOf vX11_toldOf lkX11_90 (by decide +kernel) (by decide) rfl rfl (by decide) rfl rfl (Nat.le_of_ble_eq_true rfl) rfl rfl (Nat.le_of_ble_eq_true rfl) (h.monoI (fun z2 σ1 h => ?_))
      refine r_icmp_ge (off := 5) (tgt := 96) (by decide +kernel) (by decide) (fun c => ?_) (fun c => ?_)
      · replace h := h.1 c
        refine r_blk [qO (.aload_n 0), qF (.getfield 19) 11 3, qO (.iconst 0), qO (.iload_n 2), qO .iastore, qO (.iconst 1)] (pc' := 104) (L' := [zR 34 0, zI l1, zI l2, zI l3, zI 0, zU, zU]) (S' := [zI 1]) (σ' := (zup σ1 38 0 0 l2)) (Ps := [0 ≤ 0 ∧ 0 < 123]) (by decide +kernel) rfl ⟨(by decide), trivial⟩ ?_
        exact r_retz (by decide +kernel) rfl (by decide) h
      · replace h := h.2 c
        refine r_blk [qO (.iconst 0)] (pc' := 95) (L' := [zR 34 0, zI l1, zI l2, zI l3, zI 0, zU, zU]) (S' := [zI 0]) (σ' := σ1) (Ps := []) (by decide +kernel) rfl trivial ?_
        exact r_retz (by decide +kernel) rfl (by decide) h
  replace h := h.2
  by_cases c115 : l1 = 115
  · replace h := h.1 c115
    refine r_lookup (dflt := 261) (ps := #[(101, 164), (107, 33), (115, 58)]) (len := 33) (off := 58) (tgt := 105) (by decide +kernel) (by decide +kernel) (by rw [c115]; decide) (by decide) ?_
    refine r_blk [qO (.iload 4)] (pc' := 107) (L' := [zR 34 0, zI l1, zI l2, zI l3, zI 0, zU, zU]) (S' := [zI 0]) (σ' := σ) (Ps := []) (by decide +kernel) rfl trivial ?_
    refine r_if_eq (off := 35) (tgt := 142) (by decide +kernel) (by decide) (fun c => ?_) (fun c => ?_)
    · refine r_blk [qO (.iconst 0)] (pc' := 143) (L' := [zR 34 0, zI l1, zI l2, zI l3, zI 0, zU, zU]) (S' := [zI 0]) (σ' := σ) (Ps := []) (by decide +kernel) rfl trivial ?_
      exact r_retz (by decide +kernel) rfl (by decide) h
    · exact absurd c (by decide)
  replace h := h.2
  replace h := h ⟨c101, c107, c115⟩
  refine r_lookup (dflt := 261) (ps := #[(101, 164), (107, 33), (115, 58)]) (len := 33) (off := 261) (tgt := 308) (by decide +kernel) (by decide +kernel) (by simp [Op.lookupswitch.offset, Ne.symm c101, Ne.symm c107, Ne.symm c115]) (by decide) ?_
  refine r_blk [qO (.iload_n 2), qO (.aload_n 0), qF (.getfield 19) 11 3, qO (.iconst 1), qO .iaload] (pc' := 315) (L' := [zR 34 0, zI l1, zI l2, zI l3, zI 0, zU, zU]) (S' := [zI (σ 38 0 1), zI l2]) (σ' := σ) (Ps := [0 ≤ 1 ∧ 1 < 123]) (by decide +kernel) rfl ⟨(by decide), trivial⟩ ?_
  refine r_icmp_ge (off := 8) (tgt := 323) (by decide +kernel) (by decide) (fun c => ?_) (fun c => ?_)
  · replace h := h.1 c
    refine r_blk [qO (.iconst 0)] (pc' := 324) (L' := [zR 34 0, zI l1, zI l2, zI l3, zI 0, zU, zU]) (S' := [zI 0]) (σ' := σ) (Ps := []) (by decide +kernel) rfl trivial ?_
    exact r_retz (by decide +kernel) rfl (by decide) h
  · replace h := h.2 c
    refine r_blk [qO (.iload_n 3), qO (.iconst 2)] (pc' := 320) (L' := [zR 34 0, zI l1, zI l2, zI l3, zI 0, zU, zU]) (S' := [zI 2, zI l3]) (σ' := σ) (Ps := []) (by decide +kernel) rfl trivial ?_
    refine r_icmp_le (off := 5) (tgt := 325) (by decide +kernel) (by decide) (fun c => ?_) (fun c => ?_)
    · replace h := h.1 c
      refine r_blk [qO (.aload_n 0), qF (.getfield 19) 11 3, qO (.bipush 11), qO (.iconst 5), qO (.iload_n 2), qO .imul, qO .iadd, qO (.iconst 4), qO .iadd, qO (.iload_n 3), qO .iastore, qO (.iconst 1)] (pc' := 340) (L' := [zR 34 0, zI l1, zI l2, zI l3, zI 0, zU, zU]) (S' := [zI 1]) (σ' := (zup σ 38 0 (((11 + (5 * l2)) + 4).toNat) l3)) (Ps := [-2147483648 ≤ 5 * l2 ∧ 5 * l2 ≤ 2147483647, -2147483648 ≤ 11 + (5 * l2) ∧ 11 + (5 * l2) ≤ 2147483647, -2147483648 ≤ (11 + (5 * l2)) + 4 ∧ (11 + (5 * l2)) + 4 ≤ 2147483647, 0 ≤ (11 + (5 * l2)) + 4 ∧ (11 + (5 * l2)) + 4 < 123]) (by decide +kernel) rfl ⟨h.1, h.2.1, h.2.2.1, h.2.2.2.1, trivial⟩ ?_
      replace h := h.2.2.2.2
      exact r_retz (by decide +kernel) rfl (by decide) h
    · replace h := h.2 c
      refine r_blk [qO (.iconst 0)] (pc' := 324) (L' := [zR 34 0, zI l1, zI l2, zI l3, zI 0, zU, zU]) (S' := [zI 0]) (σ' := σ) (Ps := []) (by decide +kernel) rfl trivial ?_
      exact r_retz (by decide +kernel) rfl (by decide) h
theorem gX11_comes_160 (l5 : Int) (l6 : Int) (σ : Hp) {Q : Option Int → Hp → Prop} (h : ((4 ≤ l6 → (-2147483648 ≤ l5 + 4 ∧ l5 + 4 ≤ 2147483647) ∧ (0 ≤ l5 + 4 ∧ l5 + 4 < 123) ∧ (-2147483648 ≤ ((zup σ 38 0 ((l5 + 4).toNat) 2) 38 0 1) + 1 ∧ ((zup σ 38 0 ((l5 + 4).toNat) 2) 38 0 1) + 1 ≤ 2147483647) ∧ ∀ σ1 : Hp, σ1 = (zup (zup σ 38 0 ((l5 + 4).toNat) 2) 38 0 1 (((zup σ 38 0 ((l5 + 4).toNat) 2) 38 0 1) + 1)) → Q (some 1) σ1) ∧ (¬ 4 ≤ l6 → (-2147483648 ≤ l5 + l6 ∧ l5 + l6 ≤ 2147483647) ∧ (0 ≤ l6 ∧ l6 < 4) ∧ (0 ≤ l5 + l6 ∧ l5 + l6 < 123) ∧ (-2147483648 ≤ l6 + 1 ∧ l6 + 1 ≤ 2147483647) ∧ Runs 1 mX11_comes 160 [zR 34 0, zU, zU, zU, zU, zI l5, zI (l6 + 1)] [] (zup σ 38 0 ((l5 + l6).toNat) (σ 40 0 l6.toNat)) Q))) : Runs 1 mX11_comes 160 [zR 34 0, zU, zU, zU, zU, zI l5, zI l6] [] σ Q := by
  refine r_blk [qO (.iload 6), qO (.iconst 4)] (pc' := 163) (L' := [zR 34 0, zU, zU, zU, zU, zI l5, zI l6]) (S' := [zI 4, zI l6]) (σ' := σ) (Ps := []) (by decide +kernel) rfl trivial ?_
  refine r_icmp_ge (off := 26) (tgt := 189) (by decide +kernel) (by decide) (fun c => ?_) (fun c => ?_)
  · replace h := h.1 c
    refine r_blk [qO (.aload_n 0), qF (.getfield 19) 11 3, qO (.iload 5), qO (.iconst 4), qO .iadd, qO (.iconst 2), qO .iastore, qO (.aload_n 0), qF (.getfield 19) 11 3, qO (.iconst 1), qO .dup2, qO .iaload, qO (.iconst 1), qO .iadd, qO .iastore, qO (.iconst 1)] (pc' := 210) (L' := [zR 34 0, zU, zU, zU, zU, zI l5, zI l6]) (S' := [zI 1]) (σ' := (zup (zup σ 38 0 ((l5 + 4).toNat) 2) 38 0 1 (((zup σ 38 0 ((l5 + 4).toNat) 2) 38 0 1) + 1))) (Ps := [-2147483648 ≤ l5 + 4 ∧ l5 + 4 ≤ 2147483647, 0 ≤ l5 + 4 ∧ l5 + 4 < 123, 0 ≤ 1 ∧ 1 < 123, -2147483648 ≤ ((zup σ 38 0 ((l5 + 4).toNat) 2) 38 0 1) + 1 ∧ ((zup σ 38 0 ((l5 + 4).toNat) 2) 38 0 1) + 1 ≤ 2147483647, 0 ≤ 1 ∧ 1 < 123]) (by decide +kernel) rfl ⟨h.1, h.2.1, (by decide), h.2.2.1, (by decide), trivial⟩ ?_
    replace h := h.2.2.2
    generalize hσ1 : (zup (zup σ 38 0 ((l5 + 4).toNat) 2) 38 0 1 (((zup σ 38 0 ((l5 + 4).toNat) 2) 38 0 1) + 1)) = σ1
    replace h := h σ1 hσ1.symm
    exact r_retz (by decide +kernel) rfl (by decide) h
  · replace h := h.2 c
    refine r_blk [qO (.aload_n 0), qF (.getfield 19) 11 3, qO (.iload 5), qO (.iload 6), qO .iadd, qO (.aload_n 0), qF (.getfield 25) 11 6, qO (.iload 6), qO .iaload, qO .iastore, qO (.iinc 6 1), qO (.goto (-26))] (pc' := 160) (L' := [zR 34 0, zU, zU, zU, zU, zI l5, zI (l6 + 1)]) (S' := []) (σ' := (zup σ 38 0 ((l5 + l6).toNat) (σ 40 0 l6.toNat))) (Ps := [-2147483648 ≤ l5 + l6 ∧ l5 + l6 ≤ 2147483647, 0 ≤ l6 ∧ l6 < 4, 0 ≤ l5 + l6 ∧ l5 + l6 < 123, -2147483648 ≤ l6 + 1 ∧ l6 + 1 ≤ 2147483647]) (by decide +kernel) rfl ⟨h.1, h.2.1, h.2.2.1, h.2.2.2.1, trivial⟩ ?_
    replace h := h.2.2.2.2
    exact Runs.fg (fgE (fgU (fgU (fgU (fgU (fgE (fgE fg0))))))) h
theorem gX11_comes_267 (l5 : Int) (l6 : Int) (σ : Hp) {Q : Option Int → Hp → Prop} (h : ((4 ≤ l6 → (-2147483648 ≤ (σ 38 0 2) + 1 ∧ (σ 38 0 2) + 1 ≤ 2147483647) ∧ Q (some 1) (zup σ 38 0 2 ((σ 38 0 2) + 1))) ∧ (¬ 4 ≤ l6 → (-2147483648 ≤ l5 + l6 ∧ l5 + l6 ≤ 2147483647) ∧ (0 ≤ l6 ∧ l6 < 4) ∧ (0 ≤ l5 + l6 ∧ l5 + l6 < 123) ∧ (-2147483648 ≤ l6 + 1 ∧ l6 + 1 ≤ 2147483647) ∧ Runs 1 mX11_comes 267 [zR 34 0, zU, zU, zU, zU, zI l5, zI (l6 + 1)] [] (zup σ 38 0 ((l5 + l6).toNat) (σ 40 0 l6.toNat)) Q))) : Runs 1 mX11_comes 267 [zR 34 0, zU, zU, zU, zU, zI l5, zI l6] [] σ Q := by
  refine r_blk [qO (.iload 6), qO (.iconst 4)] (pc' := 270) (L' := [zR 34 0, zU, zU, zU, zU, zI l5, zI l6]) (S' := [zI 4, zI l6]) (σ' := σ) (Ps := []) (by decide +kernel) rfl trivial ?_
  refine r_icmp_ge (off := 26) (tgt := 296) (by decide +kernel) (by decide) (fun c => ?_) (fun c => ?_)
  · replace h := h.1 c
    refine r_blk [qO (.aload_n 0), qF (.getfield 19) 11 3, qO (.iconst 2), qO .dup2, qO .iaload, qO (.iconst 1), qO .iadd, qO .iastore, qO (.iconst 1)] (pc' := 307) (L' := [zR 34 0, zU, zU, zU, zU, zI l5, zI l6]) (S' := [zI 1]) (σ' := (zup σ 38 0 2 ((σ 38 0 2) + 1))) (Ps := [0 ≤ 2 ∧ 2 < 123, -2147483648 ≤ (σ 38 0 2) + 1 ∧ (σ 38 0 2) + 1 ≤ 2147483647, 0 ≤ 2 ∧ 2 < 123]) (by decide +kernel) rfl ⟨(by decide), h.1, (by decide), trivial⟩ ?_
    replace h := h.2
    exact r_retz (by decide +kernel) rfl (by decide) h
  · replace h := h.2 c
    refine r_blk [qO (.aload_n 0), qF (.getfield 19) 11 3, qO (.iload 5), qO (.iload 6), qO .iadd, qO (.aload_n 0), qF (.getfield 25) 11 6, qO (.iload 6), qO .iaload, qO .iastore, qO (.iinc 6 1), qO (.goto (-26))] (pc' := 267) (L' := [zR 34 0, zU, zU, zU, zU, zI l5, zI (l6 + 1)]) (S' := []) (σ' := (zup σ 38 0 ((l5 + l6).toNat) (σ 40 0 l6.toNat))) (Ps := [-2147483648 ≤ l5 + l6 ∧ l5 + l6 ≤ 2147483647, 0 ≤ l6 ∧ l6 < 4, 0 ≤ l5 + l6 ∧ l5 + l6 < 123, -2147483648 ≤ l6 + 1 ∧ l6 + 1 ≤ 2147483647]) (by decide +kernel) rfl ⟨h.1, h.2.1, h.2.2.1, h.2.2.2.1, trivial⟩ ?_
    replace h := h.2.2.2.2
    exact Runs.fg (fgE (fgU (fgU (fgU (fgU (fgE (fgE fg0))))))) h
theorem gX11_reads_0 (σ : Hp) {Q : Option Int → Hp → Prop} (h : Runs 3 mX11_reads 7 [zR 34 0, zI 0, zU, zU, zU] [] (zup σ 34 0 8 0) Q) : Runs 3 mX11_reads 0 [zR 34 0, zU, zU, zU, zU] [] σ Q := by
  refine r_blk [qO (.aload_n 0), qO (.iconst 0), qF (.putfield 76) 11 8, qO (.iconst 0), qO (.istore_n 1)] (pc' := 7) (L' := [zR 34 0, zI 0, zU, zU, zU]) (S' := []) (σ' := (zup σ 34 0 8 0)) (Ps := []) (by decide +kernel) rfl trivial ?_
  exact Runs.fg (fgE (fgE (fgU (fgU (fgU fg0))))) h
theorem gX11_reads_7 (l1 : Int) (σ : Hp) {Q : Option Int → Hp → Prop} (h : Runs 2 mX11_readsStatement 0 [zR 34 0, zU, zU] [] σ (rI (fun z2 σ1 => ((¬ z2 = 0 → (-2147483648 ≤ l1 + 1 ∧ l1 + 1 ≤ 2147483647) ∧ ((σ1 34 0 8 < σ1 34 0 7 → Runs 3 mX11_reads 7 [zR 34 0, zI (l1 + 1), zU, zU, zU] [] σ1 Q) ∧ (¬ σ1 34 0 8 < σ1 34 0 7 → Runs 3 mX11_reads 39 [zR 34 0, zI (l1 + 1), zI 0, zU, zU] [] σ1 Q))) ∧ (z2 = 0 → (-2147483648 ≤ (-1000) - (σ1 34 0 8) ∧ (-1000) - (σ1 34 0 8) ≤ 2147483647) ∧ Q (some ((-1000) - (σ1 34 0 8))) σ1))))) : Runs 3 mX11_reads 7 [zR 34 0, zI l1, zU, zU, zU] [] σ Q := by
  refine r_blk [qO (.aload_n 0)] (pc' := 8) (L' := [zR 34 0, zI l1, zU, zU, zU]) (S' := [zR 34 0]) (σ' := σ) (Ps := []) (by decide +kernel) rfl trivial ?_
  refine r_callVI (As := []) (S := []) (Lc := [zR 34 0, zU, zU]) (d' := 2) (n := 0) (g := 34) (x := 0) (ci := 11) kX11_readsStatement vX11_readsStatement lkX11_93 (by decide +kernel) (by decide) rfl rfl (by decide) rfl rfl (Nat.le_of_ble_eq_true rfl) rfl rfl (Nat.le_of_ble_eq_true rfl) (h.monoI (fun z2 σ1 h => ?_))
  refine r_if_ne (off := 12) (tgt := 23) (by decide +kernel) (by decide) (fun c => ?_) (fun c => ?_)
  · replace h := h.1 c
    refine r_blk [qO (.iinc 1 1), qO (.aload_n 0), qF (.getfield 76) 11 8, qO (.aload_n 0), qF (.getfield 70) 11 7] (pc' := 34) (L' := [zR 34 0, zI (l1 + 1), zU, zU, zU]) (S' := [zI (σ1 34 0 7), zI (σ1 34 0 8)]) (σ' := σ1) (Ps := [-2147483648 ≤ l1 + 1 ∧ l1 + 1 ≤ 2147483647]) (by decide +kernel) rfl ⟨h.1, trivial⟩ ?_
    replace h := h.2
    refine r_icmp_lt (off := (-27)) (tgt := 7) (by decide +kernel) (by decide) (fun c => ?_) (fun c => ?_)
    · replace h := h.1 c
      exact Runs.fg (fgE (fgE (fgU (fgU (fgU fg0))))) h
    · replace h := h.2 c
      refine r_blk [qO (.iconst 0), qO (.istore_n 2)] (pc' := 39) (L' := [zR 34 0, zI (l1 + 1), zI 0, zU, zU]) (S' := []) (σ' := σ1) (Ps := []) (by decide +kernel) rfl trivial ?_
      exact Runs.fg (fgE (fgE (fgE (fgU (fgU fg0))))) h
  · replace h := h.2 c
    refine r_blk [qO (.sipush (-1000)), qO (.aload_n 0), qF (.getfield 76) 11 8, qO .isub] (pc' := 22) (L' := [zR 34 0, zI l1, zU, zU, zU]) (S' := [zI ((-1000) - (σ1 34 0 8))]) (σ' := σ1) (Ps := [-2147483648 ≤ (-1000) - (σ1 34 0 8) ∧ (-1000) - (σ1 34 0 8) ≤ 2147483647]) (by decide +kernel) rfl ⟨h.1, trivial⟩ ?_
    replace h := h.2
    exact r_ret (by decide +kernel) rfl (fun _ => h)
theorem gX11_reads_39 (l1 : Int) (l2 : Int) (σ : Hp) {Q : Option Int → Hp → Prop} (h : ((123 ≤ l2 → Runs 3 mX11_reads 68 [zR 34 0, zI l1, zU, zU, zU] [] (zup σ 34 0 8 0) Q) ∧ (¬ 123 ≤ l2 → (0 ≤ l2 ∧ l2 < 123) ∧ (0 ≤ l2 ∧ l2 < 123) ∧ (-2147483648 ≤ l2 + 1 ∧ l2 + 1 ≤ 2147483647) ∧ Runs 3 mX11_reads 39 [zR 34 0, zI l1, zI (l2 + 1), zU, zU] [] (zup σ 38 0 l2.toNat (σ 36 0 l2.toNat)) Q))) : Runs 3 mX11_reads 39 [zR 34 0, zI l1, zI l2, zU, zU] [] σ Q := by
  refine r_blk [qO (.iload_n 2), qO (.bipush 123)] (pc' := 42) (L' := [zR 34 0, zI l1, zI l2, zU, zU]) (S' := [zI 123, zI l2]) (σ' := σ) (Ps := []) (by decide +kernel) rfl trivial ?_
  refine r_icmp_ge (off := 21) (tgt := 63) (by decide +kernel) (by decide) (fun c => ?_) (fun c => ?_)
  · replace h := h.1 c
    refine r_blk [qO (.aload_n 0), qO (.iconst 0), qF (.putfield 76) 11 8] (pc' := 68) (L' := [zR 34 0, zI l1, zI l2, zU, zU]) (S' := []) (σ' := (zup σ 34 0 8 0)) (Ps := []) (by decide +kernel) rfl trivial ?_
    exact Runs.fg (fgE (fgE (fgU (fgU (fgU fg0))))) h
  · replace h := h.2 c
    refine r_blk [qO (.aload_n 0), qF (.getfield 19) 11 3, qO (.iload_n 2), qO (.aload_n 0), qF (.getfield 13) 11 1, qO (.iload_n 2), qO .iaload, qO .iastore, qO (.iinc 2 1), qO (.goto (-21))] (pc' := 39) (L' := [zR 34 0, zI l1, zI (l2 + 1), zU, zU]) (S' := []) (σ' := (zup σ 38 0 l2.toNat (σ 36 0 l2.toNat))) (Ps := [0 ≤ l2 ∧ l2 < 123, 0 ≤ l2 ∧ l2 < 123, -2147483648 ≤ l2 + 1 ∧ l2 + 1 ≤ 2147483647]) (by decide +kernel) rfl ⟨h.1, h.2.1, h.2.2.1, trivial⟩ ?_
    replace h := h.2.2.2
    exact Runs.fg (fgE (fgE (fgE (fgU (fgU fg0))))) h
theorem gX11_reads_68 (l1 : Int) (σ : Hp) {Q : Option Int → Hp → Prop} (h : ((σ 34 0 7 ≤ σ 34 0 8 → Runs 3 mX11_reads 114 [zR 34 0, zI l1, zI 0, zU, zU] [] σ Q) ∧ (¬ σ 34 0 7 ≤ σ 34 0 8 → Runs 0 mX11_sign 0 [zR 34 0] [] σ (rI (fun z2 σ1 => Runs 2 mX11_readsStatement 0 [zR 34 0, zU, zU] [] σ1 (rI (fun z4 σ3 => Runs 1 mX11_comes 0 [zR 34 0, zI z2, zU, zU, zU, zU, zU] [] σ3 (rI (fun z6 σ5 => ((¬ z6 = 0 → Runs 3 mX11_reads 68 [zR 34 0, zI l1, zU, zU, zU] [] σ5 Q) ∧ (z6 = 0 → (-2147483648 ≤ (-2000) - (σ 34 0 8) ∧ (-2000) - (σ 34 0 8) ≤ 2147483647) ∧ Q (some ((-2000) - (σ 34 0 8))) σ5))))))))))) : Runs 3 mX11_reads 68 [zR 34 0, zI l1, zU, zU, zU] [] σ Q := by
  refine r_blk [qO (.aload_n 0), qF (.getfield 76) 11 8, qO (.aload_n 0), qF (.getfield 70) 11 7] (pc' := 76) (L' := [zR 34 0, zI l1, zU, zU, zU]) (S' := [zI (σ 34 0 7), zI (σ 34 0 8)]) (σ' := σ) (Ps := []) (by decide +kernel) rfl trivial ?_
  refine r_icmp_ge (off := 36) (tgt := 112) (by decide +kernel) (by decide) (fun c => ?_) (fun c => ?_)
  · replace h := h.1 c
    refine r_blk [qO (.iconst 0), qO (.istore_n 2)] (pc' := 114) (L' := [zR 34 0, zI l1, zI 0, zU, zU]) (S' := []) (σ' := σ) (Ps := []) (by decide +kernel) rfl trivial ?_
    exact Runs.fg (fgE (fgE (fgE (fgU (fgU fg0))))) h
  · replace h := h.2 c
    refine r_blk [qO (.aload_n 0), qF (.getfield 76) 11 8, qO (.istore_n 2), qO (.aload_n 0)] (pc' := 85) (L' := [zR 34 0, zI l1, zI (σ 34 0 8), zU, zU]) (S' := [zR 34 0]) (σ' := σ) (Ps := []) (by decide +kernel) rfl trivial ?_
    refine r_callVI (As := []) (S := []) (Lc := [zR 34 0]) (d' := 0) (n := 0) (g := 34) (x := 0) (ci := 11) kX11_sign vX11_sign lkX11_79 (by decide +kernel) (by decide) rfl rfl (by decide) rfl rfl (Nat.le_of_ble_eq_true rfl) rfl rfl (Nat.le_of_ble_eq_true rfl) (h.monoI (fun z2 σ1 h => ?_))
    refine r_blk [qO (.istore_n 3), qO (.aload_n 0)] (pc' := 90) (L' := [zR 34 0, zI l1, zI (σ 34 0 8), zI z2, zU]) (S' := [zR 34 0]) (σ' := σ1) (Ps := []) (by decide +kernel) rfl trivial ?_
    refine r_callVI (As := []) (S := []) (Lc := [zR 34 0, zU, zU]) (d' := 2) (n := 0) (g := 34) (x := 0) (ci := 11) kX11_readsStatement vX11_readsStatement lkX11_93 (by decide +kernel) (by decide) rfl rfl (by decide) rfl rfl (Nat.le_of_ble_eq_true rfl) rfl rfl (Nat.le_of_ble_eq_true rfl) (h.monoI (fun z4 σ3 h => ?_))
    refine r_blk [qO (.istore 4), qO (.aload_n 0), qO (.iload_n 3)] (pc' := 97) (L' := [zR 34 0, zI l1, zI (σ 34 0 8), zI z2, zI z4]) (S' := [zI z2, zR 34 0]) (σ' := σ3) (Ps := []) (by decide +kernel) rfl trivial ?_
    refine r_callVI (As := [zI z2]) (S := []) (Lc := [zR 34 0, zI z2, zU, zU, zU, zU, zU]) (d' := 1) (n := 1) (g := 34) (x := 0) (ci := 11) kX11_comes vX11_comes lkX11_97 (by decide +kernel) (by decide) rfl rfl (by decide) rfl rfl (Nat.le_of_ble_eq_true rfl) rfl rfl (Nat.le_of_ble_eq_true rfl) (h.monoI (fun z6 σ5 h => ?_))
    refine r_if_ne (off := 9) (tgt := 109) (by decide +kernel) (by decide) (fun c => ?_) (fun c => ?_)
    · replace h := h.1 c
      refine r_blk [qO (.goto (-41))] (pc' := 68) (L' := [zR 34 0, zI l1, zI (σ 34 0 8), zI z2, zI z4]) (S' := []) (σ' := σ5) (Ps := []) (by decide +kernel) rfl trivial ?_
      exact Runs.fg (fgE (fgE (fgU (fgU (fgU fg0))))) h
    · replace h := h.2 c
      refine r_blk [qO (.sipush (-2000)), qO (.iload_n 2), qO .isub] (pc' := 108) (L' := [zR 34 0, zI l1, zI (σ 34 0 8), zI z2, zI z4]) (S' := [zI ((-2000) - (σ 34 0 8))]) (σ' := σ5) (Ps := [-2147483648 ≤ (-2000) - (σ 34 0 8) ∧ (-2000) - (σ 34 0 8) ≤ 2147483647]) (by decide +kernel) rfl ⟨h.1, trivial⟩ ?_
      replace h := h.2
      exact r_ret (by decide +kernel) rfl (fun _ => h)
theorem gX11_reads_114 (l1 : Int) (l2 : Int) (σ : Hp) {Q : Option Int → Hp → Prop} (h : ((123 ≤ l2 → Q (some l1) σ) ∧ (¬ 123 ≤ l2 → (0 ≤ l2 ∧ l2 < 123) ∧ (0 ≤ l2 ∧ l2 < 123) ∧ (-2147483648 ≤ l2 + 1 ∧ l2 + 1 ≤ 2147483647) ∧ Runs 3 mX11_reads 114 [zR 34 0, zI l1, zI (l2 + 1), zU, zU] [] (zup σ 36 0 l2.toNat (σ 38 0 l2.toNat)) Q))) : Runs 3 mX11_reads 114 [zR 34 0, zI l1, zI l2, zU, zU] [] σ Q := by
  refine r_blk [qO (.iload_n 2), qO (.bipush 123)] (pc' := 117) (L' := [zR 34 0, zI l1, zI l2, zU, zU]) (S' := [zI 123, zI l2]) (σ' := σ) (Ps := []) (by decide +kernel) rfl trivial ?_
  refine r_icmp_ge (off := 21) (tgt := 138) (by decide +kernel) (by decide) (fun c => ?_) (fun c => ?_)
  · replace h := h.1 c
    refine r_blk [qO (.iload_n 1)] (pc' := 139) (L' := [zR 34 0, zI l1, zI l2, zU, zU]) (S' := [zI l1]) (σ' := σ) (Ps := []) (by decide +kernel) rfl trivial ?_
    exact r_ret (by decide +kernel) rfl (fun _ => h)
  · replace h := h.2 c
    refine r_blk [qO (.aload_n 0), qF (.getfield 13) 11 1, qO (.iload_n 2), qO (.aload_n 0), qF (.getfield 19) 11 3, qO (.iload_n 2), qO .iaload, qO .iastore, qO (.iinc 2 1), qO (.goto (-21))] (pc' := 114) (L' := [zR 34 0, zI l1, zI (l2 + 1), zU, zU]) (S' := []) (σ' := (zup σ 36 0 l2.toNat (σ 38 0 l2.toNat))) (Ps := [0 ≤ l2 ∧ l2 < 123, 0 ≤ l2 ∧ l2 < 123, -2147483648 ≤ l2 + 1 ∧ l2 + 1 ≤ 2147483647]) (by decide +kernel) rfl ⟨h.1, h.2.1, h.2.2.1, trivial⟩ ?_
    replace h := h.2.2.2
    exact Runs.fg (fgE (fgE (fgE (fgU (fgU fg0))))) h
theorem gX11_town_0 (σ : Hp) {Q : Option Int → Hp → Prop} (h : Runs 3 mX11_reads 0 [zR 34 0, zU, zU, zU, zU] [] σ (rI (fun z2 σ1 => Q (some z2) (zup σ1 34 0 7 0)))) : Runs 4 mX11_town 0 [zR 34 0, zU] [] σ Q := by
  refine r_blk [qO (.aload_n 0)] (pc' := 1) (L' := [zR 34 0, zU]) (S' := [zR 34 0]) (σ' := σ) (Ps := []) (by decide +kernel) rfl trivial ?_
  refine r_callVI (As := []) (S := []) (Lc := [zR 34 0, zU, zU, zU, zU]) (d' := 3) (n := 0) (g := 34) (x := 0) (ci := 11) kX11_reads vX11_reads lkX11_100 (by decide +kernel) (by decide) rfl rfl (by decide) rfl rfl (Nat.le_of_ble_eq_true rfl) rfl rfl (Nat.le_of_ble_eq_true rfl) (h.monoI (fun z2 σ1 h => ?_))
  refine r_blk [qO (.istore_n 1), qO (.aload_n 0), qO (.iconst 0), qF (.putfield 70) 11 7, qO (.iload_n 1)] (pc' := 11) (L' := [zR 34 0, zI z2]) (S' := [zI z2]) (σ' := (zup σ1 34 0 7 0)) (Ps := []) (by decide +kernel) rfl trivial ?_
  exact r_ret (by decide +kernel) rfl (fun _ => h)
theorem gX11_street_0 (a0 : Int) (a1 : Int) (σ : Hp) {Q : Option Int → Hp → Prop} (h : Runs 1 mX11_isStreet 0 [zR 34 0, zI a0] [] σ (rI (fun z2 σ1 => ((¬ z2 = 0 → ((¬ a1 = 5 → Runs 0 mX11_isIn 0 [zI a1, zI 5] [] σ1 (rI (fun z4 σ3 => ((z4 = 0 → Runs 0 mX11_refuse 0 [zR 34 0, zI (-2)] [] σ3 (rI (fun z6 σ5 => Q (some z6) σ5))) ∧ (¬ z4 = 0 → Runs 0 mX11_get 0 [zR 34 0, zI a0, zI a1] [] σ3 (rI (fun z8 σ7 => Q (some z8) σ7))))))) ∧ (a1 = 5 → Q (some (bitz (σ1 36 0 4) a0)) σ1))) ∧ (z2 = 0 → Runs 0 mX11_refuse 0 [zR 34 0, zI (-1)] [] σ1 (rI (fun z10 σ9 => Q (some z10) σ9))))))) : Runs 2 mX11_street 0 [zR 34 0, zI a0, zI a1] [] σ Q := by
  refine r_blk [qO (.aload_n 0), qO (.iload_n 1)] (pc' := 2) (L' := [zR 34 0, zI a0, zI a1]) (S' := [zI a0, zR 34 0]) (σ' := σ) (Ps := []) (by decide +kernel) rfl trivial ?_
  refine r_callVI (As := [zI a0]) (S := []) (Lc := [zR 34 0, zI a0]) (d' := 1) (n := 1) (g := 34) (x := 0) (ci := 11) kX11_isStreet vX11_isStreet lkX11_103 (by decide +kernel) (by decide) rfl rfl (by decide) rfl rfl (Nat.le_of_ble_eq_true rfl) rfl rfl (Nat.le_of_ble_eq_true rfl) (h.monoI (fun z2 σ1 h => ?_))
  refine r_if_ne (off := 11) (tgt := 16) (by decide +kernel) (by decide) (fun c => ?_) (fun c => ?_)
  · replace h := h.1 c
    refine r_blk [qO (.iload_n 2), qO (.iconst 5)] (pc' := 18) (L' := [zR 34 0, zI a0, zI a1]) (S' := [zI 5, zI a1]) (σ' := σ1) (Ps := []) (by decide +kernel) rfl trivial ?_
    refine r_icmp_ne (off := 16) (tgt := 34) (by decide +kernel) (by decide) (fun c => ?_) (fun c => ?_)
    · replace h := h.1 c
      refine r_blk [qO (.iload_n 2), qO (.iconst 5)] (pc' := 36) (L' := [zR 34 0, zI a0, zI a1]) (S' := [zI 5, zI a1]) (σ' := σ1) (Ps := []) (by decide +kernel) rfl trivial ?_
      refine r_callSI (As := [zI a1, zI 5]) (S := []) (Lc := [zI a1, zI 5]) (d' := 0) (n := 2) kX11_isIn vX11_isIn lkX11_62 (by decide +kernel) (by decide) rfl rfl (Nat.le_of_ble_eq_true rfl) rfl rfl (Nat.le_of_ble_eq_true rfl) (h.monoI (fun z4 σ3 h => ?_))
      refine r_if_eq (off := 12) (tgt := 51) (by decide +kernel) (by decide) (fun c => ?_) (fun c => ?_)
      · replace h := h.1 c
        refine r_blk [qO (.aload_n 0), qO (.bipush (-2))] (pc' := 54) (L' := [zR 34 0, zI a0, zI a1]) (S' := [zI (-2), zR 34 0]) (σ' := σ3) (Ps := []) (by decide +kernel) rfl trivial ?_
        refine r_callVI (As := [zI (-2)]) (S := []) (Lc := [zR 34 0, zI (-2)]) (d' := 0) (n := 1) (g := 34) (x := 0) (ci := 11) kX11_refuse vX11_refuse lkX11_66 (by decide +kernel) (by decide) rfl rfl (by decide) rfl rfl (Nat.le_of_ble_eq_true rfl) rfl rfl (Nat.le_of_ble_eq_true rfl) (h.monoI (fun z6 σ5 h => ?_))
        exact r_ret (by decide +kernel) rfl (fun _ => h)
      · replace h := h.2 c
        refine r_blk [qO (.aload_n 0), qO (.iload_n 1), qO (.iload_n 2)] (pc' := 45) (L' := [zR 34 0, zI a0, zI a1]) (S' := [zI a1, zI a0, zR 34 0]) (σ' := σ3) (Ps := []) (by decide +kernel) rfl trivial ?_
        refine r_callVI (As := [zI a0, zI a1]) (S := []) (Lc := [zR 34 0, zI a0, zI a1]) (d' := 0) (n := 2) (g := 34) (x := 0) (ci := 11) kX11_get vX11_get lkX11_106 (by decide +kernel) (by decide) rfl rfl (by decide) rfl rfl (Nat.le_of_ble_eq_true rfl) rfl rfl (Nat.le_of_ble_eq_true rfl) (h.monoI (fun z8 σ7 h => ?_))
        refine r_blk [qO (.goto 9)] (pc' := 57) (L' := [zR 34 0, zI a0, zI a1]) (S' := [zI z8]) (σ' := σ7) (Ps := []) (by decide +kernel) rfl trivial ?_
        exact r_ret (by decide +kernel) rfl (fun _ => h)
    · replace h := h.2 c
      refine r_blk [qO (.aload_n 0), qF (.getfield 13) 11 1, qO (.iconst 4), qO .iaload, qO (.iload_n 1), qO .ishr, qO (.iconst 1), qO .iand, qO (.goto 26)] (pc' := 57) (L' := [zR 34 0, zI a0, zI a1]) (S' := [zI (bitz (σ1 36 0 4) a0)]) (σ' := σ1) (Ps := [0 ≤ 4 ∧ 4 < 123]) (by decide +kernel) rfl ⟨(by decide), trivial⟩ ?_
      exact r_ret (by decide +kernel) rfl (fun _ => h)
  · replace h := h.2 c
    refine r_blk [qO (.aload_n 0), qO (.iconst (-1))] (pc' := 10) (L' := [zR 34 0, zI a0, zI a1]) (S' := [zI (-1), zR 34 0]) (σ' := σ1) (Ps := []) (by decide +kernel) rfl trivial ?_
    refine r_callVI (As := [zI (-1)]) (S := []) (Lc := [zR 34 0, zI (-1)]) (d' := 0) (n := 1) (g := 34) (x := 0) (ci := 11) kX11_refuse vX11_refuse lkX11_66 (by decide +kernel) (by decide) rfl rfl (by decide) rfl rfl (Nat.le_of_ble_eq_true rfl) rfl rfl (Nat.le_of_ble_eq_true rfl) (h.monoI (fun z10 σ9 h => ?_))
    refine r_blk [qO (.goto 44)] (pc' := 57) (L' := [zR 34 0, zI a0, zI a1]) (S' := [zI z10]) (σ' := σ9) (Ps := []) (by decide +kernel) rfl trivial ?_
    exact r_ret (by decide +kernel) rfl (fun _ => h)
theorem gX11_errand_0 (a0 : Int) (a1 : Int) (σ : Hp) {Q : Option Int → Hp → Prop} (h : Runs 1 mX11_isErrand 0 [zR 34 0, zI a0] [] σ (rI (fun z2 σ1 => ((¬ z2 = 0 → Runs 0 mX11_isIn 0 [zI a1, zI 4] [] σ1 (rI (fun z4 σ3 => ((z4 = 0 → Runs 0 mX11_refuse 0 [zR 34 0, zI (-2)] [] σ3 (rI (fun z6 σ5 => Q (some z6) σ5))) ∧ (¬ z4 = 0 → Runs 0 mX11_of 0 [zR 34 0, zI a0, zI a1] [] σ3 (rI (fun z8 σ7 => Q (some z8) σ7))))))) ∧ (z2 = 0 → Runs 0 mX11_refuse 0 [zR 34 0, zI (-1)] [] σ1 (rI (fun z10 σ9 => Q (some z10) σ9))))))) : Runs 2 mX11_errand 0 [zR 34 0, zI a0, zI a1] [] σ Q := by
  refine r_blk [qO (.aload_n 0), qO (.iload_n 1)] (pc' := 2) (L' := [zR 34 0, zI a0, zI a1]) (S' := [zI a0, zR 34 0]) (σ' := σ) (Ps := []) (by decide +kernel) rfl trivial ?_
  refine r_callVI (As := [zI a0]) (S := []) (Lc := [zR 34 0, zI a0]) (d' := 1) (n := 1) (g := 34) (x := 0) (ci := 11) kX11_isErrand vX11_isErrand lkX11_110 (by decide +kernel) (by decide) rfl rfl (by decide) rfl rfl (Nat.le_of_ble_eq_true rfl) rfl rfl (Nat.le_of_ble_eq_true rfl) (h.monoI (fun z2 σ1 h => ?_))
  refine r_if_ne (off := 11) (tgt := 16) (by decide +kernel) (by decide) (fun c => ?_) (fun c => ?_)
  · replace h := h.1 c
    refine r_blk [qO (.iload_n 2), qO (.iconst 4)] (pc' := 18) (L' := [zR 34 0, zI a0, zI a1]) (S' := [zI 4, zI a1]) (σ' := σ1) (Ps := []) (by decide +kernel) rfl trivial ?_
    refine r_callSI (As := [zI a1, zI 4]) (S := []) (Lc := [zI a1, zI 4]) (d' := 0) (n := 2) kX11_isIn vX11_isIn lkX11_62 (by decide +kernel) (by decide) rfl rfl (Nat.le_of_ble_eq_true rfl) rfl rfl (Nat.le_of_ble_eq_true rfl) (h.monoI (fun z4 σ3 h => ?_))
    refine r_if_eq (off := 12) (tgt := 33) (by decide +kernel) (by decide) (fun c => ?_) (fun c => ?_)
    · replace h := h.1 c
      refine r_blk [qO (.aload_n 0), qO (.bipush (-2))] (pc' := 36) (L' := [zR 34 0, zI a0, zI a1]) (S' := [zI (-2), zR 34 0]) (σ' := σ3) (Ps := []) (by decide +kernel) rfl trivial ?_
      refine r_callVI (As := [zI (-2)]) (S := []) (Lc := [zR 34 0, zI (-2)]) (d' := 0) (n := 1) (g := 34) (x := 0) (ci := 11) kX11_refuse vX11_refuse lkX11_66 (by decide +kernel) (by decide) rfl rfl (by decide) rfl rfl (Nat.le_of_ble_eq_true rfl) rfl rfl (Nat.le_of_ble_eq_true rfl) (h.monoI (fun z6 σ5 h => ?_))
      exact r_ret (by decide +kernel) rfl (fun _ => h)
    · replace h := h.2 c
      refine r_blk [qO (.aload_n 0), qO (.iload_n 1), qO (.iload_n 2)] (pc' := 27) (L' := [zR 34 0, zI a0, zI a1]) (S' := [zI a1, zI a0, zR 34 0]) (σ' := σ3) (Ps := []) (by decide +kernel) rfl trivial ?_
      refine r_callVI (As := [zI a0, zI a1]) (S := []) (Lc := [zR 34 0, zI a0, zI a1]) (d' := 0) (n := 2) (g := 34) (x := 0) (ci := 11) kX11_of vX11_of lkX11_113 (by decide +kernel) (by decide) rfl rfl (by decide) rfl rfl (Nat.le_of_ble_eq_true rfl) rfl rfl (Nat.le_of_ble_eq_true rfl) (h.monoI (fun z8 σ7 h => ?_))
      refine r_blk [qO (.goto 9)] (pc' := 39) (L' := [zR 34 0, zI a0, zI a1]) (S' := [zI z8]) (σ' := σ7) (Ps := []) (by decide +kernel) rfl trivial ?_
      exact r_ret (by decide +kernel) rfl (fun _ => h)
  · replace h := h.2 c
    refine r_blk [qO (.aload_n 0), qO (.iconst (-1))] (pc' := 10) (L' := [zR 34 0, zI a0, zI a1]) (S' := [zI (-1), zR 34 0]) (σ' := σ1) (Ps := []) (by decide +kernel) rfl trivial ?_
    refine r_callVI (As := [zI (-1)]) (S := []) (Lc := [zR 34 0, zI (-1)]) (d' := 0) (n := 1) (g := 34) (x := 0) (ci := 11) kX11_refuse vX11_refuse lkX11_66 (by decide +kernel) (by decide) rfl rfl (by decide) rfl rfl (Nat.le_of_ble_eq_true rfl) rfl rfl (Nat.le_of_ble_eq_true rfl) (h.monoI (fun z10 σ9 h => ?_))
    refine r_blk [qO (.goto 26)] (pc' := 39) (L' := [zR 34 0, zI a0, zI a1]) (S' := [zI z10]) (σ' := σ9) (Ps := []) (by decide +kernel) rfl trivial ?_
    exact r_ret (by decide +kernel) rfl (fun _ => h)
theorem gX11_becomes_0 (a0 : Int) (a1 : Int) (σ : Hp) {Q : Option Int → Hp → Prop} (h : (0 ≤ a0 ∧ a0 < 123) ∧ (0 ≤ a0 ∧ a0 < 123) ∧ Q (some (σ 36 0 a0.toNat)) (zup σ 36 0 a0.toNat a1)) : Runs 0 mX11_becomes 0 [zR 34 0, zI a0, zI a1, zU] [] σ Q := by
  refine r_blk [qO (.aload_n 0), qF (.getfield 13) 11 1, qO (.iload_n 1), qO .iaload, qO (.istore_n 3), qO (.aload_n 0), qF (.getfield 13) 11 1, qO (.iload_n 1), qO (.iload_n 2), qO .iastore, qO (.iload_n 3)] (pc' := 15) (L' := [zR 34 0, zI a0, zI a1, zI (σ 36 0 a0.toNat)]) (S' := [zI (σ 36 0 a0.toNat)]) (σ' := (zup σ 36 0 a0.toNat a1)) (Ps := [0 ≤ a0 ∧ a0 < 123, 0 ≤ a0 ∧ a0 < 123]) (by decide +kernel) rfl ⟨h.1, h.2.1, trivial⟩ ?_
  replace h := h.2.2
  exact r_ret (by decide +kernel) rfl (fun _ => h)
theorem gX11_most_0 (a0 : Int) (σ : Hp) {Q : Option Int → Hp → Prop} (h : ((¬ a0 = 0 → ((¬ a0 = 1 → ((¬ a0 = 2 → Q (some 9) σ) ∧ (a0 = 2 → Q (some 720) σ))) ∧ (a0 = 1 → Q (some 4) σ))) ∧ (a0 = 0 → Q (some 1439) σ))) : Runs 0 mX11_most 0 [zI a0] [] σ Q := by
  refine r_blk [qO (.iload_n 0)] (pc' := 1) (L' := [zI a0]) (S' := [zI a0]) (σ' := σ) (Ps := []) (by decide +kernel) rfl trivial ?_
  refine r_if_ne (off := 9) (tgt := 10) (by decide +kernel) (by decide) (fun c => ?_) (fun c => ?_)
  · replace h := h.1 c
    refine r_blk [qO (.iload_n 0), qO (.iconst 1)] (pc' := 12) (L' := [zI a0]) (S' := [zI 1, zI a0]) (σ' := σ) (Ps := []) (by decide +kernel) rfl trivial ?_
    refine r_icmp_ne (off := 7) (tgt := 19) (by decide +kernel) (by decide) (fun c => ?_) (fun c => ?_)
    · replace h := h.1 c
      refine r_blk [qO (.iload_n 0), qO (.iconst 2)] (pc' := 21) (L' := [zI a0]) (S' := [zI 2, zI a0]) (σ' := σ) (Ps := []) (by decide +kernel) rfl trivial ?_
      refine r_icmp_ne (off := 9) (tgt := 30) (by decide +kernel) (by decide) (fun c => ?_) (fun c => ?_)
      · replace h := h.1 c
        refine r_blk [qO (.bipush 9)] (pc' := 32) (L' := [zI a0]) (S' := [zI 9]) (σ' := σ) (Ps := []) (by decide +kernel) rfl trivial ?_
        exact r_ret (by decide +kernel) rfl (fun _ => h)
      · replace h := h.2 c
        refine r_blk [qO (.sipush 720), qO (.goto 5)] (pc' := 32) (L' := [zI a0]) (S' := [zI 720]) (σ' := σ) (Ps := []) (by decide +kernel) rfl trivial ?_
        exact r_ret (by decide +kernel) rfl (fun _ => h)
    · replace h := h.2 c
      refine r_blk [qO (.iconst 4), qO (.goto 16)] (pc' := 32) (L' := [zI a0]) (S' := [zI 4]) (σ' := σ) (Ps := []) (by decide +kernel) rfl trivial ?_
      exact r_ret (by decide +kernel) rfl (fun _ => h)
  · replace h := h.2 c
    refine r_blk [qO (.sipush 1439), qO (.goto 25)] (pc' := 32) (L' := [zI a0]) (S' := [zI 1439]) (σ' := σ) (Ps := []) (by decide +kernel) rfl trivial ?_
    exact r_ret (by decide +kernel) rfl (fun _ => h)
theorem gX11_set_0 (a0 : Int) (a1 : Int) (σ : Hp) {Q : Option Int → Hp → Prop} (h : Runs 0 mX11_isIn 0 [zI a0, zI 4] [] σ (rI (fun z2 σ1 => ((¬ z2 = 0 → ((¬ a0 = 2 → Runs 0 mX11_most 0 [zI a0] [] σ1 (rI (fun z4 σ3 => Runs 0 mX11_within 0 [zI a1, zI 0, zI z4] [] σ3 (rI (fun z6 σ5 => ((z6 = 0 → (-2147483648 ≤ 7 + a0 ∧ 7 + a0 ≤ 2147483647) ∧ Runs 0 mX11_becomes 0 [zR 34 0, zI (7 + a0), zI a1, zU] [] σ5 (rI (fun z8 σ7 => Q (some z8) σ7))) ∧ (¬ z6 = 0 → Runs 0 mX11_refuse 0 [zR 34 0, zI z6] [] σ5 (rI (fun z10 σ9 => Q (some z10) σ9))))))))) ∧ (a0 = 2 → Runs 0 mX11_most 0 [zI a0] [] σ1 (rI (fun z12 σ11 => Runs 0 mX11_within 0 [zI a1, zI 10, zI z12] [] σ11 (rI (fun z14 σ13 => ((z14 = 0 → (-2147483648 ≤ 7 + a0 ∧ 7 + a0 ≤ 2147483647) ∧ Runs 0 mX11_becomes 0 [zR 34 0, zI (7 + a0), zI a1, zU] [] σ13 (rI (fun z16 σ15 => Q (some z16) σ15))) ∧ (¬ z14 = 0 → Runs 0 mX11_refuse 0 [zR 34 0, zI z14] [] σ13 (rI (fun z18 σ17 => Q (some z18) σ17))))))))))) ∧ (z2 = 0 → Runs 0 mX11_refuse 0 [zR 34 0, zI (-2)] [] σ1 (rI (fun z20 σ19 => Q (some z20) σ19))))))) : Runs 1 mX11_set 0 [zR 34 0, zI a0, zI a1, zU] [] σ Q := by
  refine r_blk [qO (.iload_n 1), qO (.iconst 4)] (pc' := 2) (L' := [zR 34 0, zI a0, zI a1, zU]) (S' := [zI 4, zI a0]) (σ' := σ) (Ps := []) (by decide +kernel) rfl trivial ?_
  refine r_callSI (As := [zI a0, zI 4]) (S := []) (Lc := [zI a0, zI 4]) (d' := 0) (n := 2) kX11_isIn vX11_isIn lkX11_62 (by decide +kernel) (by decide) rfl rfl (Nat.le_of_ble_eq_true rfl) rfl rfl (Nat.le_of_ble_eq_true rfl) (h.monoI (fun z2 σ1 h => ?_))
  refine r_if_ne (off := 10) (tgt := 15) (by decide +kernel) (by decide) (fun c => ?_) (fun c => ?_)
  · replace h := h.1 c
    refine r_blk [qO (.iload_n 2), qO (.iload_n 1), qO (.iconst 2)] (pc' := 18) (L' := [zR 34 0, zI a0, zI a1, zU]) (S' := [zI 2, zI a0, zI a1]) (σ' := σ1) (Ps := []) (by decide +kernel) rfl trivial ?_
    refine r_icmp_ne (off := 8) (tgt := 26) (by decide +kernel) (by decide) (fun c => ?_) (fun c => ?_)
    · replace h := h.1 c
      refine r_blk [qO (.iconst 0), qO (.iload_n 1)] (pc' := 28) (L' := [zR 34 0, zI a0, zI a1, zU]) (S' := [zI a0, zI 0, zI a1]) (σ' := σ1) (Ps := []) (by decide +kernel) rfl trivial ?_
      refine r_callSI (As := [zI a0]) (S := [zI 0, zI a1]) (Lc := [zI a0]) (d' := 0) (n := 1) kX11_most vX11_most lkX11_116 (by decide +kernel) (by decide) rfl rfl (Nat.le_of_ble_eq_true rfl) rfl rfl (Nat.le_of_ble_eq_true rfl) (h.monoI (fun z4 σ3 h => ?_))
      refine r_callSI (As := [zI a1, zI 0, zI z4]) (S := []) (Lc := [zI a1, zI 0, zI z4]) (d' := 0) (n := 3) kX11_within vX11_within lkX11_119 (by decide +kernel) (by decide) rfl rfl (Nat.le_of_ble_eq_true rfl) rfl rfl (Nat.le_of_ble_eq_true rfl) (h.monoI (fun z6 σ5 h => ?_))
      refine r_blk [qO (.istore_n 3), qO (.iload_n 3)] (pc' := 36) (L' := [zR 34 0, zI a0, zI a1, zI z6]) (S' := [zI z6]) (σ' := σ5) (Ps := []) (by decide +kernel) rfl trivial ?_
      refine r_if_eq (off := 11) (tgt := 47) (by decide +kernel) (by decide) (fun c => ?_) (fun c => ?_)
      · replace h := h.1 c
        refine r_blk [qO (.aload_n 0), qO (.bipush 7), qO (.iload_n 1), qO .iadd, qO (.iload_n 2)] (pc' := 53) (L' := [zR 34 0, zI a0, zI a1, zI z6]) (S' := [zI a1, zI (7 + a0), zR 34 0]) (σ' := σ5) (Ps := [-2147483648 ≤ 7 + a0 ∧ 7 + a0 ≤ 2147483647]) (by decide +kernel) rfl ⟨h.1, trivial⟩ ?_
        replace h := h.2
        refine r_callVI (As := [zI (7 + a0), zI a1]) (S := []) (Lc := [zR 34 0, zI (7 + a0), zI a1, zU]) (d' := 0) (n := 2) (g := 34) (x := 0) (ci := 11) kX11_becomes vX11_becomes lkX11_123 (by decide +kernel) (by decide) rfl rfl (by decide) rfl rfl (Nat.le_of_ble_eq_true rfl) rfl rfl (Nat.le_of_ble_eq_true rfl) (h.monoI (fun z8 σ7 h => ?_))
        exact r_ret (by decide +kernel) rfl (fun _ => h)
      · replace h := h.2 c
        refine r_blk [qO (.aload_n 0), qO (.iload_n 3)] (pc' := 41) (L' := [zR 34 0, zI a0, zI a1, zI z6]) (S' := [zI z6, zR 34 0]) (σ' := σ5) (Ps := []) (by decide +kernel) rfl trivial ?_
        refine r_callVI (As := [zI z6]) (S := []) (Lc := [zR 34 0, zI z6]) (d' := 0) (n := 1) (g := 34) (x := 0) (ci := 11) kX11_refuse vX11_refuse lkX11_66 (by decide +kernel) (by decide) rfl rfl (by decide) rfl rfl (Nat.le_of_ble_eq_true rfl) rfl rfl (Nat.le_of_ble_eq_true rfl) (h.monoI (fun z10 σ9 h => ?_))
        refine r_blk [qO (.goto 12)] (pc' := 56) (L' := [zR 34 0, zI a0, zI a1, zI z6]) (S' := [zI z10]) (σ' := σ9) (Ps := []) (by decide +kernel) rfl trivial ?_
        exact r_ret (by decide +kernel) rfl (fun _ => h)
    · replace h := h.2 c
      refine r_blk [qO (.bipush 10), qO (.goto 4), qO (.iload_n 1)] (pc' := 28) (L' := [zR 34 0, zI a0, zI a1, zU]) (S' := [zI a0, zI 10, zI a1]) (σ' := σ1) (Ps := []) (by decide +kernel) rfl trivial ?_
      refine r_callSI (As := [zI a0]) (S := [zI 10, zI a1]) (Lc := [zI a0]) (d' := 0) (n := 1) kX11_most vX11_most lkX11_116 (by decide +kernel) (by decide) rfl rfl (Nat.le_of_ble_eq_true rfl) rfl rfl (Nat.le_of_ble_eq_true rfl) (h.monoI (fun z12 σ11 h => ?_))
      refine r_callSI (As := [zI a1, zI 10, zI z12]) (S := []) (Lc := [zI a1, zI 10, zI z12]) (d' := 0) (n := 3) kX11_within vX11_within lkX11_119 (by decide +kernel) (by decide) rfl rfl (Nat.le_of_ble_eq_true rfl) rfl rfl (Nat.le_of_ble_eq_true rfl) (h.monoI (fun z14 σ13 h => ?_))
      refine r_blk [qO (.istore_n 3), qO (.iload_n 3)] (pc' := 36) (L' := [zR 34 0, zI a0, zI a1, zI z14]) (S' := [zI z14]) (σ' := σ13) (Ps := []) (by decide +kernel) rfl trivial ?_
      refine r_if_eq (off := 11) (tgt := 47) (by decide +kernel) (by decide) (fun c => ?_) (fun c => ?_)
      · replace h := h.1 c
        refine r_blk [qO (.aload_n 0), qO (.bipush 7), qO (.iload_n 1), qO .iadd, qO (.iload_n 2)] (pc' := 53) (L' := [zR 34 0, zI a0, zI a1, zI z14]) (S' := [zI a1, zI (7 + a0), zR 34 0]) (σ' := σ13) (Ps := [-2147483648 ≤ 7 + a0 ∧ 7 + a0 ≤ 2147483647]) (by decide +kernel) rfl ⟨h.1, trivial⟩ ?_
        replace h := h.2
        refine r_callVI (As := [zI (7 + a0), zI a1]) (S := []) (Lc := [zR 34 0, zI (7 + a0), zI a1, zU]) (d' := 0) (n := 2) (g := 34) (x := 0) (ci := 11) kX11_becomes vX11_becomes lkX11_123 (by decide +kernel) (by decide) rfl rfl (by decide) rfl rfl (Nat.le_of_ble_eq_true rfl) rfl rfl (Nat.le_of_ble_eq_true rfl) (h.monoI (fun z16 σ15 h => ?_))
        exact r_ret (by decide +kernel) rfl (fun _ => h)
      · replace h := h.2 c
        refine r_blk [qO (.aload_n 0), qO (.iload_n 3)] (pc' := 41) (L' := [zR 34 0, zI a0, zI a1, zI z14]) (S' := [zI z14, zR 34 0]) (σ' := σ13) (Ps := []) (by decide +kernel) rfl trivial ?_
        refine r_callVI (As := [zI z14]) (S := []) (Lc := [zR 34 0, zI z14]) (d' := 0) (n := 1) (g := 34) (x := 0) (ci := 11) kX11_refuse vX11_refuse lkX11_66 (by decide +kernel) (by decide) rfl rfl (by decide) rfl rfl (Nat.le_of_ble_eq_true rfl) rfl rfl (Nat.le_of_ble_eq_true rfl) (h.monoI (fun z18 σ17 h => ?_))
        refine r_blk [qO (.goto 12)] (pc' := 56) (L' := [zR 34 0, zI a0, zI a1, zI z14]) (S' := [zI z18]) (σ' := σ17) (Ps := []) (by decide +kernel) rfl trivial ?_
        exact r_ret (by decide +kernel) rfl (fun _ => h)
  · replace h := h.2 c
    refine r_blk [qO (.aload_n 0), qO (.bipush (-2))] (pc' := 11) (L' := [zR 34 0, zI a0, zI a1, zU]) (S' := [zI (-2), zR 34 0]) (σ' := σ1) (Ps := []) (by decide +kernel) rfl trivial ?_
    refine r_callVI (As := [zI (-2)]) (S := []) (Lc := [zR 34 0, zI (-2)]) (d' := 0) (n := 1) (g := 34) (x := 0) (ci := 11) kX11_refuse vX11_refuse lkX11_66 (by decide +kernel) (by decide) rfl rfl (by decide) rfl rfl (Nat.le_of_ble_eq_true rfl) rfl rfl (Nat.le_of_ble_eq_true rfl) (h.monoI (fun z20 σ19 h => ?_))
    exact r_ret (by decide +kernel) rfl (fun _ => h)
theorem gX11_point_0 (a0 : Int) (σ : Hp) {Q : Option Int → Hp → Prop} (h : Runs 0 mX11_isIn 0 [zI a0, zI (zshl 1 (σ 36 0 1))] [] σ (rI (fun z2 σ1 => ((z2 = 0 → Runs 0 mX11_refuse 0 [zR 34 0, zI (-1)] [] σ1 (rI (fun z4 σ3 => Q (some z4) σ3))) ∧ (¬ z2 = 0 → Runs 0 mX11_becomes 0 [zR 34 0, zI 3, zI a0, zU] [] σ1 (rI (fun z6 σ5 => Q (some z6) σ5))))))) : Runs 1 mX11_point 0 [zR 34 0, zI a0] [] σ Q := by
  refine r_blk [qO (.iload_n 1), qO (.iconst 1), qO (.aload_n 0), qF (.getfield 13) 11 1, qO (.iconst 1), qO .iaload, qO .ishl] (pc' := 9) (L' := [zR 34 0, zI a0]) (S' := [zI (zshl 1 (σ 36 0 1)), zI a0]) (σ' := σ) (Ps := [0 ≤ 1 ∧ 1 < 123]) (by decide +kernel) rfl ⟨(by decide), trivial⟩ ?_
  refine r_callSI (As := [zI a0, zI (zshl 1 (σ 36 0 1))]) (S := []) (Lc := [zI a0, zI (zshl 1 (σ 36 0 1))]) (d' := 0) (n := 2) kX11_isIn vX11_isIn lkX11_62 (by decide +kernel) (by decide) rfl rfl (Nat.le_of_ble_eq_true rfl) rfl rfl (Nat.le_of_ble_eq_true rfl) (h.monoI (fun z2 σ1 h => ?_))
  refine r_if_eq (off := 12) (tgt := 24) (by decide +kernel) (by decide) (fun c => ?_) (fun c => ?_)
  · replace h := h.1 c
    refine r_blk [qO (.aload_n 0), qO (.iconst (-1))] (pc' := 26) (L' := [zR 34 0, zI a0]) (S' := [zI (-1), zR 34 0]) (σ' := σ1) (Ps := []) (by decide +kernel) rfl trivial ?_
    refine r_callVI (As := [zI (-1)]) (S := []) (Lc := [zR 34 0, zI (-1)]) (d' := 0) (n := 1) (g := 34) (x := 0) (ci := 11) kX11_refuse vX11_refuse lkX11_66 (by decide +kernel) (by decide) rfl rfl (by decide) rfl rfl (Nat.le_of_ble_eq_true rfl) rfl rfl (Nat.le_of_ble_eq_true rfl) (h.monoI (fun z4 σ3 h => ?_))
    exact r_ret (by decide +kernel) rfl (fun _ => h)
  · replace h := h.2 c
    refine r_blk [qO (.aload_n 0), qO (.iconst 3), qO (.iload_n 1)] (pc' := 18) (L' := [zR 34 0, zI a0]) (S' := [zI a0, zI 3, zR 34 0]) (σ' := σ1) (Ps := []) (by decide +kernel) rfl trivial ?_
    refine r_callVI (As := [zI 3, zI a0]) (S := []) (Lc := [zR 34 0, zI 3, zI a0, zU]) (d' := 0) (n := 2) (g := 34) (x := 0) (ci := 11) kX11_becomes vX11_becomes lkX11_123 (by decide +kernel) (by decide) rfl rfl (by decide) rfl rfl (Nat.le_of_ble_eq_true rfl) rfl rfl (Nat.le_of_ble_eq_true rfl) (h.monoI (fun z6 σ5 h => ?_))
    refine r_blk [qO (.goto 8)] (pc' := 29) (L' := [zR 34 0, zI a0]) (S' := [zI z6]) (σ' := σ5) (Ps := []) (by decide +kernel) rfl trivial ?_
    exact r_ret (by decide +kernel) rfl (fun _ => h)
theorem gX11_shut_0 (a0 : Int) (a1 : Int) (σ : Hp) {Q : Option Int → Hp → Prop} (h : Runs 1 mX11_isStreet 0 [zR 34 0, zI a0] [] σ (rI (fun z2 σ1 => ((¬ z2 = 0 → ((¬ bitz (σ1 36 0 4) a0 = 1 → ((0 = a1 → ((¬ 0 = a1 → Q (some 1) σ1) ∧ (0 = a1 → Q (some 0) σ1))) ∧ (¬ 0 = a1 → ((¬ 0 = a1 → Q (some 1) (zup σ1 36 0 4 (zxor (σ1 36 0 4) (zshl 1 a0)))) ∧ (0 = a1 → Q (some 0) (zup σ1 36 0 4 (zxor (σ1 36 0 4) (zshl 1 a0)))))))) ∧ (bitz (σ1 36 0 4) a0 = 1 → ((1 = a1 → ((¬ 1 = a1 → Q (some 1) σ1) ∧ (1 = a1 → Q (some 0) σ1))) ∧ (¬ 1 = a1 → ((¬ 1 = a1 → Q (some 1) (zup σ1 36 0 4 (zxor (σ1 36 0 4) (zshl 1 a0)))) ∧ (1 = a1 → Q (some 0) (zup σ1 36 0 4 (zxor (σ1 36 0 4) (zshl 1 a0)))))))))) ∧ (z2 = 0 → Runs 0 mX11_refuse 0 [zR 34 0, zI (-1)] [] σ1 (rI (fun z4 σ3 => Q (some z4) σ3))))))) : Runs 2 mX11_shut 0 [zR 34 0, zI a0, zI a1, zU] [] σ Q := by
  refine r_blk [qO (.aload_n 0), qO (.iload_n 1)] (pc' := 2) (L' := [zR 34 0, zI a0, zI a1, zU]) (S' := [zI a0, zR 34 0]) (σ' := σ) (Ps := []) (by decide +kernel) rfl trivial ?_
  refine r_callVI (As := [zI a0]) (S := []) (Lc := [zR 34 0, zI a0]) (d' := 1) (n := 1) (g := 34) (x := 0) (ci := 11) kX11_isStreet vX11_isStreet lkX11_103 (by decide +kernel) (by decide) rfl rfl (by decide) rfl rfl (Nat.le_of_ble_eq_true rfl) rfl rfl (Nat.le_of_ble_eq_true rfl) (h.monoI (fun z2 σ1 h => ?_))
  refine r_if_ne (off := 9) (tgt := 14) (by decide +kernel) (by decide) (fun c => ?_) (fun c => ?_)
  · replace h := h.1 c
    refine r_blk [qO (.aload_n 0), qF (.getfield 13) 11 1, qO (.iconst 4), qO .iaload, qO (.iload_n 1), qO .ishr, qO (.iconst 1), qO .iand, qO (.iconst 1)] (pc' := 25) (L' := [zR 34 0, zI a0, zI a1, zU]) (S' := [zI 1, zI (bitz (σ1 36 0 4) a0)]) (σ' := σ1) (Ps := [0 ≤ 4 ∧ 4 < 123]) (by decide +kernel) rfl ⟨(by decide), trivial⟩ ?_
    refine r_icmp_ne (off := 7) (tgt := 32) (by decide +kernel) (by decide) (fun c => ?_) (fun c => ?_)
    · replace h := h.1 c
      refine r_blk [qO (.iconst 0), qO (.istore_n 3), qO (.iload_n 3), qO (.iload_n 2)] (pc' := 36) (L' := [zR 34 0, zI a0, zI a1, zI 0]) (S' := [zI a1, zI 0]) (σ' := σ1) (Ps := []) (by decide +kernel) rfl trivial ?_
      refine r_icmp_eq (off := 15) (tgt := 51) (by decide +kernel) (by decide) (fun c => ?_) (fun c => ?_)
      · replace h := h.1 c
        refine r_blk [qO (.iload_n 3), qO (.iload_n 2)] (pc' := 53) (L' := [zR 34 0, zI a0, zI a1, zI 0]) (S' := [zI a1, zI 0]) (σ' := σ1) (Ps := []) (by decide +kernel) rfl trivial ?_
        refine r_icmp_ne (off := 7) (tgt := 60) (by decide +kernel) (by decide) (fun c => ?_) (fun c => ?_)
        · replace h := h.1 c
          refine r_blk [qO (.iconst 1)] (pc' := 61) (L' := [zR 34 0, zI a0, zI a1, zI 0]) (S' := [zI 1]) (σ' := σ1) (Ps := []) (by decide +kernel) rfl trivial ?_
          exact r_ret (by decide +kernel) rfl (fun _ => h)
        · replace h := h.2 c
          refine r_blk [qO (.iconst 0), qO (.goto 4)] (pc' := 61) (L' := [zR 34 0, zI a0, zI a1, zI 0]) (S' := [zI 0]) (σ' := σ1) (Ps := []) (by decide +kernel) rfl trivial ?_
          exact r_ret (by decide +kernel) rfl (fun _ => h)
      · replace h := h.2 c
        refine r_blk [qO (.aload_n 0), qF (.getfield 13) 11 1, qO (.iconst 4), qO .dup2, qO .iaload, qO (.iconst 1), qO (.iload_n 1), qO .ishl, qO .ixor, qO .iastore, qO (.iload_n 3), qO (.iload_n 2)] (pc' := 53) (L' := [zR 34 0, zI a0, zI a1, zI 0]) (S' := [zI a1, zI 0]) (σ' := (zup σ1 36 0 4 (zxor (σ1 36 0 4) (zshl 1 a0)))) (Ps := [0 ≤ 4 ∧ 4 < 123, 0 ≤ 4 ∧ 4 < 123]) (by decide +kernel) rfl ⟨(by decide), (by decide), trivial⟩ ?_
        refine r_icmp_ne (off := 7) (tgt := 60) (by decide +kernel) (by decide) (fun c => ?_) (fun c => ?_)
        · replace h := h.1 c
          refine r_blk [qO (.iconst 1)] (pc' := 61) (L' := [zR 34 0, zI a0, zI a1, zI 0]) (S' := [zI 1]) (σ' := (zup σ1 36 0 4 (zxor (σ1 36 0 4) (zshl 1 a0)))) (Ps := []) (by decide +kernel) rfl trivial ?_
          exact r_ret (by decide +kernel) rfl (fun _ => h)
        · replace h := h.2 c
          refine r_blk [qO (.iconst 0), qO (.goto 4)] (pc' := 61) (L' := [zR 34 0, zI a0, zI a1, zI 0]) (S' := [zI 0]) (σ' := (zup σ1 36 0 4 (zxor (σ1 36 0 4) (zshl 1 a0)))) (Ps := []) (by decide +kernel) rfl trivial ?_
          exact r_ret (by decide +kernel) rfl (fun _ => h)
    · replace h := h.2 c
      refine r_blk [qO (.iconst 1), qO (.goto 4), qO (.istore_n 3), qO (.iload_n 3), qO (.iload_n 2)] (pc' := 36) (L' := [zR 34 0, zI a0, zI a1, zI 1]) (S' := [zI a1, zI 1]) (σ' := σ1) (Ps := []) (by decide +kernel) rfl trivial ?_
      refine r_icmp_eq (off := 15) (tgt := 51) (by decide +kernel) (by decide) (fun c => ?_) (fun c => ?_)
      · replace h := h.1 c
        refine r_blk [qO (.iload_n 3), qO (.iload_n 2)] (pc' := 53) (L' := [zR 34 0, zI a0, zI a1, zI 1]) (S' := [zI a1, zI 1]) (σ' := σ1) (Ps := []) (by decide +kernel) rfl trivial ?_
        refine r_icmp_ne (off := 7) (tgt := 60) (by decide +kernel) (by decide) (fun c => ?_) (fun c => ?_)
        · replace h := h.1 c
          refine r_blk [qO (.iconst 1)] (pc' := 61) (L' := [zR 34 0, zI a0, zI a1, zI 1]) (S' := [zI 1]) (σ' := σ1) (Ps := []) (by decide +kernel) rfl trivial ?_
          exact r_ret (by decide +kernel) rfl (fun _ => h)
        · replace h := h.2 c
          refine r_blk [qO (.iconst 0), qO (.goto 4)] (pc' := 61) (L' := [zR 34 0, zI a0, zI a1, zI 1]) (S' := [zI 0]) (σ' := σ1) (Ps := []) (by decide +kernel) rfl trivial ?_
          exact r_ret (by decide +kernel) rfl (fun _ => h)
      · replace h := h.2 c
        refine r_blk [qO (.aload_n 0), qF (.getfield 13) 11 1, qO (.iconst 4), qO .dup2, qO .iaload, qO (.iconst 1), qO (.iload_n 1), qO .ishl, qO .ixor, qO .iastore, qO (.iload_n 3), qO (.iload_n 2)] (pc' := 53) (L' := [zR 34 0, zI a0, zI a1, zI 1]) (S' := [zI a1, zI 1]) (σ' := (zup σ1 36 0 4 (zxor (σ1 36 0 4) (zshl 1 a0)))) (Ps := [0 ≤ 4 ∧ 4 < 123, 0 ≤ 4 ∧ 4 < 123]) (by decide +kernel) rfl ⟨(by decide), (by decide), trivial⟩ ?_
        refine r_icmp_ne (off := 7) (tgt := 60) (by decide +kernel) (by decide) (fun c => ?_) (fun c => ?_)
        · replace h := h.1 c
          refine r_blk [qO (.iconst 1)] (pc' := 61) (L' := [zR 34 0, zI a0, zI a1, zI 1]) (S' := [zI 1]) (σ' := (zup σ1 36 0 4 (zxor (σ1 36 0 4) (zshl 1 a0)))) (Ps := []) (by decide +kernel) rfl trivial ?_
          exact r_ret (by decide +kernel) rfl (fun _ => h)
        · replace h := h.2 c
          refine r_blk [qO (.iconst 0), qO (.goto 4)] (pc' := 61) (L' := [zR 34 0, zI a0, zI a1, zI 1]) (S' := [zI 0]) (σ' := (zup σ1 36 0 4 (zxor (σ1 36 0 4) (zshl 1 a0)))) (Ps := []) (by decide +kernel) rfl trivial ?_
          exact r_ret (by decide +kernel) rfl (fun _ => h)
  · replace h := h.2 c
    refine r_blk [qO (.aload_n 0), qO (.iconst (-1))] (pc' := 10) (L' := [zR 34 0, zI a0, zI a1, zU]) (S' := [zI (-1), zR 34 0]) (σ' := σ1) (Ps := []) (by decide +kernel) rfl trivial ?_
    refine r_callVI (As := [zI (-1)]) (S := []) (Lc := [zR 34 0, zI (-1)]) (d' := 0) (n := 1) (g := 34) (x := 0) (ci := 11) kX11_refuse vX11_refuse lkX11_66 (by decide +kernel) (by decide) rfl rfl (by decide) rfl rfl (Nat.le_of_ble_eq_true rfl) rfl rfl (Nat.le_of_ble_eq_true rfl) (h.monoI (fun z4 σ3 h => ?_))
    exact r_ret (by decide +kernel) rfl (fun _ => h)
