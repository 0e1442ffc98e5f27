theorem gX11_finds_0 (a0 : Int) (a1 : Int) (σ : Hp) {Q : Option Int → Hp → Prop} (h : Runs 4 mX11_finds 2 [zR 34 0, zI a0, zI a1, zI 0, zU, zU, zU, zU] [] σ Q) : Runs 4 mX11_finds 0 [zR 34 0, zI a0, zI a1, zU, zU, zU, zU, zU] [] σ Q := by
  refine r_blk [qO (.iconst 0), qO (.istore_n 3)] (pc' := 2) (L' := [zR 34 0, zI a0, zI a1, zI 0, zU, zU, zU, zU]) (S' := []) (σ' := σ) (Ps := []) (by decide +kernel) rfl trivial ?_
  exact Runs.fg (fgE (fgE (fgE (fgE (fgU (fgU (fgU (fgU fg0)))))))) h
theorem gX11_finds_2 (l1 : Int) (l2 : Int) (l3 : Int) (σ : Hp) {Q : Option Int → Hp → Prop} (h : ((10 ≤ l3 → (0 ≤ l1 ∧ l1 < 10) ∧ Runs 4 mX11_finds 36 [zR 34 0, zU, zU, zU, zU, zU, zU, zU] [] (zup σ 41 0 l1.toNat l2) Q) ∧ (¬ 10 ≤ l3 → (0 ≤ l3 ∧ l3 < 10) ∧ (0 ≤ l3 ∧ l3 < 10) ∧ (-2147483648 ≤ l3 + 1 ∧ l3 + 1 ≤ 2147483647) ∧ Runs 4 mX11_finds 2 [zR 34 0, zI l1, zI l2, zI (l3 + 1), zU, zU, zU, zU] [] (zup (zup σ 41 0 l3.toNat (-9)) 42 0 l3.toNat 0) Q))) : Runs 4 mX11_finds 2 [zR 34 0, zI l1, zI l2, zI l3, zU, zU, zU, zU] [] σ Q := by
  refine r_blk [qO (.iload_n 3), qO (.bipush 10)] (pc' := 5) (L' := [zR 34 0, zI l1, zI l2, zI l3, zU, zU, zU, zU]) (S' := [zI 10, zI l3]) (σ' := σ) (Ps := []) (by decide +kernel) rfl trivial ?_
  refine r_icmp_ge (off := 24) (tgt := 29) (by decide +kernel) (by decide) (fun c => ?_) (fun c => ?_)
  · replace h := h.1 c
    refine r_blk [qO (.aload_n 0), qF (.getfield 28) 11 9, qO (.iload_n 1), qO (.iload_n 2), qO .iastore] (pc' := 36) (L' := [zR 34 0, zI l1, zI l2, zI l3, zU, zU, zU, zU]) (S' := []) (σ' := (zup σ 41 0 l1.toNat l2)) (Ps := [0 ≤ l1 ∧ l1 < 10]) (by decide +kernel) rfl ⟨h.1, trivial⟩ ?_
    replace h := h.2
    exact Runs.fg (fgE (fgU (fgU (fgU (fgU (fgU (fgU (fgU fg0)))))))) h
  · replace h := h.2 c
    refine r_blk [qO (.aload_n 0), qF (.getfield 28) 11 9, qO (.iload_n 3), qO (.bipush (-9)), qO .iastore, qO (.aload_n 0), qF (.getfield 31) 11 10, qO (.iload_n 3), qO (.iconst 0), qO .bastore, qO (.iinc 3 1), qO (.goto (-24))] (pc' := 2) (L' := [zR 34 0, zI l1, zI l2, zI (l3 + 1), zU, zU, zU, zU]) (S' := []) (σ' := (zup (zup σ 41 0 l3.toNat (-9)) 42 0 l3.toNat 0)) (Ps := [0 ≤ l3 ∧ l3 < 10, 0 ≤ l3 ∧ l3 < 10, 0 = 0 ∨ 0 = 1, -2147483648 ≤ l3 + 1 ∧ l3 + 1 ≤ 2147483647]) (by decide +kernel) rfl ⟨h.1, h.2.1, (by decide), h.2.2.1, trivial⟩ ?_
    replace h := h.2.2.2
    exact Runs.fg (fgE (fgE (fgE (fgE (fgU (fgU (fgU (fgU fg0)))))))) h
theorem gX11_finds_36 (σ : Hp) {Q : Option Int → Hp → Prop} (h : Runs 4 mX11_finds 42 [zR 34 0, zU, zU, zI (-9), zI 0, zU, zU, zU] [] σ Q) : Runs 4 mX11_finds 36 [zR 34 0, zU, zU, zU, zU, zU, zU, zU] [] σ Q := by
  refine r_blk [qO (.bipush (-9)), qO (.istore_n 3), qO (.iconst 0), qO (.istore 4)] (pc' := 42) (L' := [zR 34 0, zU, zU, zI (-9), zI 0, zU, zU, zU]) (S' := []) (σ' := σ) (Ps := []) (by decide +kernel) rfl trivial ?_
  exact Runs.fg (fgE (fgU (fgU (fgE (fgE (fgU (fgU (fgU fg0)))))))) h
theorem gX11_finds_42 (l3 : Int) (l4 : Int) (σ : Hp) {Q : Option Int → Hp → Prop} (h : ((σ 36 0 0 ≤ l4 → ((0 ≤ l3 → (0 ≤ l3 ∧ l3 < 10) ∧ Runs 4 mX11_finds 117 [zR 34 0, zU, zU, zI l3, zI 0, zU, zU, zU] [] (zup σ 42 0 l3.toNat 1) Q) ∧ (¬ 0 ≤ l3 → Q none σ))) ∧ (¬ σ 36 0 0 ≤ l4 → (0 ≤ l4 ∧ l4 < 10) ∧ ((¬ σ 42 0 l4.toNat = 0 → (-2147483648 ≤ l4 + 1 ∧ l4 + 1 ≤ 2147483647) ∧ Runs 4 mX11_finds 42 [zR 34 0, zU, zU, zI l3, zI (l4 + 1), zU, zU, zU] [] σ Q) ∧ (σ 42 0 l4.toNat = 0 → (0 ≤ l4 ∧ l4 < 10) ∧ ((σ 41 0 l4.toNat < 0 → (-2147483648 ≤ l4 + 1 ∧ l4 + 1 ≤ 2147483647) ∧ Runs 4 mX11_finds 42 [zR 34 0, zU, zU, zI l3, zI (l4 + 1), zU, zU, zU] [] σ Q) ∧ (¬ σ 41 0 l4.toNat < 0 → ((l3 < 0 → (-2147483648 ≤ l4 + 1 ∧ l4 + 1 ≤ 2147483647) ∧ Runs 4 mX11_finds 42 [zR 34 0, zU, zU, zI l4, zI (l4 + 1), zU, zU, zU] [] σ Q) ∧ (¬ l3 < 0 → (0 ≤ l4 ∧ l4 < 10) ∧ (0 ≤ l3 ∧ l3 < 10) ∧ ((σ 41 0 l3.toNat ≤ σ 41 0 l4.toNat → (-2147483648 ≤ l4 + 1 ∧ l4 + 1 ≤ 2147483647) ∧ Runs 4 mX11_finds 42 [zR 34 0, zU, zU, zI l3, zI (l4 + 1), zU, zU, zU] [] σ Q) ∧ (¬ σ 41 0 l3.toNat ≤ σ 41 0 l4.toNat → (-2147483648 ≤ l4 + 1 ∧ l4 + 1 ≤ 2147483647) ∧ Runs 4 mX11_finds 42 [zR 34 0, zU, zU, zI l4, zI (l4 + 1), zU, zU, zU] [] σ Q))))))))))) : Runs 4 mX11_finds 42 [zR 34 0, zU, zU, zI l3, zI l4, zU, zU, zU] [] σ Q := by
  refine r_blk [qO (.iload 4), qO (.aload_n 0), qF (.getfield 13) 11 1, qO (.iconst 0), qO .iaload] (pc' := 50) (L' := [zR 34 0, zU, zU, zI l3, zI l4, zU, zU, zU]) (S' := [zI (σ 36 0 0), zI l4]) (σ' := σ) (Ps := [0 ≤ 0 ∧ 0 < 123]) (by decide +kernel) rfl ⟨(by decide), trivial⟩ ?_
  refine r_icmp_ge (off := 52) (tgt := 102) (by decide +kernel) (by decide) (fun c => ?_) (fun c => ?_)
  · replace h := h.1 c
    refine r_blk [qO (.iload_n 3)] (pc' := 103) (L' := [zR 34 0, zU, zU, zI l3, zI l4, zU, zU, zU]) (S' := [zI l3]) (σ' := σ) (Ps := []) (by decide +kernel) rfl trivial ?_
    refine r_if_ge (off := 4) (tgt := 107) (by decide +kernel) (by decide) (fun c => ?_) (fun c => ?_)
    · replace h := h.1 c
      refine r_blk [qO (.aload_n 0), qF (.getfield 31) 11 10, qO (.iload_n 3), qO (.iconst 1), qO .bastore, qO (.iconst 0), qO (.istore 4)] (pc' := 117) (L' := [zR 34 0, zU, zU, zI l3, zI 0, zU, zU, zU]) (S' := []) (σ' := (zup σ 42 0 l3.toNat 1)) (Ps := [0 ≤ l3 ∧ l3 < 10, 1 = 0 ∨ 1 = 1]) (by decide +kernel) rfl ⟨h.1, (by decide), trivial⟩ ?_
      replace h := h.2
      exact Runs.fg (fgE (fgU (fgU (fgE (fgE (fgU (fgU (fgU fg0)))))))) h
    · replace h := h.2 c
      exact r_retv (by decide +kernel) rfl h
  · replace h := h.2 c
    refine r_blk [qO (.aload_n 0), qF (.getfield 31) 11 10, qO (.iload 4), qO .baload] (pc' := 60) (L' := [zR 34 0, zU, zU, zI l3, zI l4, zU, zU, zU]) (S' := [zI (σ 42 0 l4.toNat)]) (σ' := σ) (Ps := [0 ≤ l4 ∧ l4 < 10]) (by decide +kernel) rfl ⟨h.1, trivial⟩ ?_
    replace h := h.2
    refine r_if_ne (off := 36) (tgt := 96) (by decide +kernel) (by decide) (fun c => ?_) (fun c => ?_)
    · replace h := h.1 c
      refine r_blk [qO (.iinc 4 1), qO (.goto (-57))] (pc' := 42) (L' := [zR 34 0, zU, zU, zI l3, zI (l4 + 1), zU, zU, zU]) (S' := []) (σ' := σ) (Ps := [-2147483648 ≤ l4 + 1 ∧ l4 + 1 ≤ 2147483647]) (by decide +kernel) rfl ⟨h.1, trivial⟩ ?_
      replace h := h.2
      exact Runs.fg (fgE (fgU (fgU (fgE (fgE (fgU (fgU (fgU fg0)))))))) h
    · replace h := h.2 c
      refine r_blk [qO (.aload_n 0), qF (.getfield 28) 11 9, qO (.iload 4), qO .iaload] (pc' := 70) (L' := [zR 34 0, zU, zU, zI l3, zI l4, zU, zU, zU]) (S' := [zI (σ 41 0 l4.toNat)]) (σ' := σ) (Ps := [0 ≤ l4 ∧ l4 < 10]) (by decide +kernel) rfl ⟨h.1, trivial⟩ ?_
      replace h := h.2
      refine r_if_lt (off := 26) (tgt := 96) (by decide +kernel) (by decide) (fun c => ?_) (fun c => ?_)
      · replace h := h.1 c
        refine r_blk [qO (.iinc 4 1), qO (.goto (-57))] (pc' := 42) (L' := [zR 34 0, zU, zU, zI l3, zI (l4 + 1), zU, zU, zU]) (S' := []) (σ' := σ) (Ps := [-2147483648 ≤ l4 + 1 ∧ l4 + 1 ≤ 2147483647]) (by decide +kernel) rfl ⟨h.1, trivial⟩ ?_
        replace h := h.2
        exact Runs.fg (fgE (fgU (fgU (fgE (fgE (fgU (fgU (fgU fg0)))))))) h
      · replace h := h.2 c
        refine r_blk [qO (.iload_n 3)] (pc' := 74) (L' := [zR 34 0, zU, zU, zI l3, zI l4, zU, zU, zU]) (S' := [zI l3]) (σ' := σ) (Ps := []) (by decide +kernel) rfl trivial ?_
        refine r_if_lt (off := 19) (tgt := 93) (by decide +kernel) (by decide) (fun c => ?_) (fun c => ?_)
        · replace h := h.1 c
          refine r_blk [qO (.iload 4), qO (.istore_n 3), qO (.iinc 4 1), qO (.goto (-57))] (pc' := 42) (L' := [zR 34 0, zU, zU, zI l4, zI (l4 + 1), zU, zU, zU]) (S' := []) (σ' := σ) (Ps := [-2147483648 ≤ l4 + 1 ∧ l4 + 1 ≤ 2147483647]) (by decide +kernel) rfl ⟨h.1, trivial⟩ ?_
          replace h := h.2
          exact Runs.fg (fgE (fgU (fgU (fgE (fgE (fgU (fgU (fgU fg0)))))))) h
        · replace h := h.2 c
          refine r_blk [qO (.aload_n 0), qF (.getfield 28) 11 9, qO (.iload 4), qO .iaload, qO (.aload_n 0), qF (.getfield 28) 11 9, qO (.iload_n 3), qO .iaload] (pc' := 90) (L' := [zR 34 0, zU, zU, zI l3, zI l4, zU, zU, zU]) (S' := [zI (σ 41 0 l3.toNat), zI (σ 41 0 l4.toNat)]) (σ' := σ) (Ps := [0 ≤ l4 ∧ l4 < 10, 0 ≤ l3 ∧ l3 < 10]) (by decide +kernel) rfl ⟨h.1, h.2.1, trivial⟩ ?_
          replace h := h.2.2
          refine r_icmp_ge (off := 6) (tgt := 96) (by decide +kernel) (by decide) (fun c => ?_) (fun c => ?_)
          · replace h := h.1 c
            refine r_blk [qO (.iinc 4 1), qO (.goto (-57))] (pc' := 42) (L' := [zR 34 0, zU, zU, zI l3, zI (l4 + 1), zU, zU, zU]) (S' := []) (σ' := σ) (Ps := [-2147483648 ≤ l4 + 1 ∧ l4 + 1 ≤ 2147483647]) (by decide +kernel) rfl ⟨h.1, trivial⟩ ?_
            replace h := h.2
            exact Runs.fg (fgE (fgU (fgU (fgE (fgE (fgU (fgU (fgU fg0)))))))) h
          · replace h := h.2 c
            refine r_blk [qO (.iload 4), qO (.istore_n 3), qO (.iinc 4 1), qO (.goto (-57))] (pc' := 42) (L' := [zR 34 0, zU, zU, zI l4, zI (l4 + 1), zU, zU, zU]) (S' := []) (σ' := σ) (Ps := [-2147483648 ≤ l4 + 1 ∧ l4 + 1 ≤ 2147483647]) (by decide +kernel) rfl ⟨h.1, trivial⟩ ?_
            replace h := h.2
            exact Runs.fg (fgE (fgU (fgU (fgE (fgE (fgU (fgU (fgU fg0)))))))) h
theorem gX11_finds_117 (l3 : Int) (l4 : Int) (σ : Hp) {Q : Option Int → Hp → Prop} (h : ((σ 36 0 1 ≤ l4 → Runs 4 mX11_finds 36 [zR 34 0, zU, zU, zU, zU, zU, zU, zU] [] σ Q) ∧ (¬ σ 36 0 1 ≤ l4 → Runs 4 mX11_finds 131 [zR 34 0, zU, zU, zI l3, zI l4, zI 0, zU, zU] [] σ Q))) : Runs 4 mX11_finds 117 [zR 34 0, zU, zU, zI l3, zI l4, zU, zU, zU] [] σ Q := by
  refine r_blk [qO (.iload 4), qO (.aload_n 0), qF (.getfield 13) 11 1, qO (.iconst 1), qO .iaload] (pc' := 125) (L' := [zR 34 0, zU, zU, zI l3, zI l4, zU, zU, zU]) (S' := [zI (σ 36 0 1), zI l4]) (σ' := σ) (Ps := [0 ≤ 1 ∧ 1 < 123]) (by decide +kernel) rfl ⟨(by decide), trivial⟩ ?_
  refine r_icmp_ge (off := 122) (tgt := 247) (by decide +kernel) (by decide) (fun c => ?_) (fun c => ?_)
  · replace h := h.1 c
    refine r_blk [qO (.goto (-211))] (pc' := 36) (L' := [zR 34 0, zU, zU, zI l3, zI l4, zU, zU, zU]) (S' := []) (σ' := σ) (Ps := []) (by decide +kernel) rfl trivial ?_
    exact Runs.fg (fgE (fgU (fgU (fgU (fgU (fgU (fgU (fgU fg0)))))))) h
  · replace h := h.2 c
    refine r_blk [qO (.iconst 0), qO (.istore 5)] (pc' := 131) (L' := [zR 34 0, zU, zU, zI l3, zI l4, zI 0, zU, zU]) (S' := []) (σ' := σ) (Ps := []) (by decide +kernel) rfl trivial ?_
    exact Runs.fg (fgE (fgU (fgU (fgE (fgE (fgE (fgU (fgU fg0)))))))) h
theorem gX11_finds_131 (l3 : Int) (l4 : Int) (l5 : Int) (σ : Hp) {Q : Option Int → Hp → Prop} (h : ((2 ≤ l5 → (-2147483648 ≤ l4 + 1 ∧ l4 + 1 ≤ 2147483647) ∧ Runs 4 mX11_finds 117 [zR 34 0, zU, zU, zI l3, zI (l4 + 1), zU, zU, zU] [] σ Q) ∧ (¬ 2 ≤ l5 → (0 ≤ l4 ∧ l4 < 14) ∧ ((0 : Int) ≤ l5 ∧ l5 < 5) ∧ ((sg (σ 36 0) l4 l5 = l3 → (0 ≤ l3 ∧ l3 < 10) ∧ (WF (σ 36 0)) ∧ (0 ≤ l4 ∧ l4 < σ 36 0 1) ∧ (0 ≤ (σ 41 0 l3.toNat) ∧ (σ 41 0 l3.toNat) ≤ 1000000) ∧ (l5 = 0 ∨ l5 = 1) ∧ (-2147483648 ≤ 1 - l5 ∧ 1 - l5 ≤ 2147483647) ∧ (0 ≤ l4 ∧ l4 < 14) ∧ ((0 : Int) ≤ (1 - l5) ∧ (1 - l5) < 5) ∧ ((entS (σ 36 0) l4 l5 (σ 41 0 l3.toNat) < 0 → (-2147483648 ≤ l5 + 1 ∧ l5 + 1 ≤ 2147483647) ∧ Runs 4 mX11_finds 131 [zR 34 0, zU, zU, zI l3, zI l4, zI (l5 + 1), zU, zU] [] σ Q) ∧ (¬ entS (σ 36 0) l4 l5 (σ 41 0 l3.toNat) < 0 → (0 ≤ sg (σ 36 0) l4 (1 - l5) ∧ sg (σ 36 0) l4 (1 - l5) < 10) ∧ ((σ 41 0 ((sg (σ 36 0) l4 (1 - l5)).toNat) < 0 → (0 ≤ l4 ∧ l4 < 14) ∧ (-2147483648 ≤ (entS (σ 36 0) l4 l5 (σ 41 0 l3.toNat)) + (sg (σ 36 0) l4 2) ∧ (entS (σ 36 0) l4 l5 (σ 41 0 l3.toNat)) + (sg (σ 36 0) l4 2) ≤ 2147483647) ∧ (0 ≤ sg (σ 36 0) l4 (1 - l5) ∧ sg (σ 36 0) l4 (1 - l5) < 10) ∧ (-2147483648 ≤ l5 + 1 ∧ l5 + 1 ≤ 2147483647) ∧ ∀ σ1 : Hp, σ1 = (zup σ 41 0 ((sg (σ 36 0) l4 (1 - l5)).toNat) ((entS (σ 36 0) l4 l5 (σ 41 0 l3.toNat)) + (sg (σ 36 0) l4 2))) → Runs 4 mX11_finds 131 [zR 34 0, zU, zU, zI l3, zI l4, zI (l5 + 1), zU, zU] [] σ1 Q) ∧ (¬ σ 41 0 ((sg (σ 36 0) l4 (1 - l5)).toNat) < 0 → (0 ≤ l4 ∧ l4 < 14) ∧ (-2147483648 ≤ (entS (σ 36 0) l4 l5 (σ 41 0 l3.toNat)) + (sg (σ 36 0) l4 2) ∧ (entS (σ 36 0) l4 l5 (σ 41 0 l3.toNat)) + (sg (σ 36 0) l4 2) ≤ 2147483647) ∧ (0 ≤ sg (σ 36 0) l4 (1 - l5) ∧ sg (σ 36 0) l4 (1 - l5) < 10) ∧ (((entS (σ 36 0) l4 l5 (σ 41 0 l3.toNat)) + (sg (σ 36 0) l4 2) < σ 41 0 ((sg (σ 36 0) l4 (1 - l5)).toNat) → (0 ≤ l4 ∧ l4 < 14) ∧ (-2147483648 ≤ (entS (σ 36 0) l4 l5 (σ 41 0 l3.toNat)) + (sg (σ 36 0) l4 2) ∧ (entS (σ 36 0) l4 l5 (σ 41 0 l3.toNat)) + (sg (σ 36 0) l4 2) ≤ 2147483647) ∧ (0 ≤ sg (σ 36 0) l4 (1 - l5) ∧ sg (σ 36 0) l4 (1 - l5) < 10) ∧ (-2147483648 ≤ l5 + 1 ∧ l5 + 1 ≤ 2147483647) ∧ ∀ σ2 : Hp, σ2 = (zup σ 41 0 ((sg (σ 36 0) l4 (1 - l5)).toNat) ((entS (σ 36 0) l4 l5 (σ 41 0 l3.toNat)) + (sg (σ 36 0) l4 2))) → Runs 4 mX11_finds 131 [zR 34 0, zU, zU, zI l3, zI l4, zI (l5 + 1), zU, zU] [] σ2 Q) ∧ (¬ (entS (σ 36 0) l4 l5 (σ 41 0 l3.toNat)) + (sg (σ 36 0) l4 2) < σ 41 0 ((sg (σ 36 0) l4 (1 - l5)).toNat) → (-2147483648 ≤ l5 + 1 ∧ l5 + 1 ≤ 2147483647) ∧ Runs 4 mX11_finds 131 [zR 34 0, zU, zU, zI l3, zI l4, zI (l5 + 1), zU, zU] [] σ Q))))))) ∧ (¬ sg (σ 36 0) l4 l5 = l3 → (-2147483648 ≤ l5 + 1 ∧ l5 + 1 ≤ 2147483647) ∧ Runs 4 mX11_finds 131 [zR 34 0, zU, zU, zI l3, zI l4, zI (l5 + 1), zU, zU] [] σ Q))))) : Runs 4 mX11_finds 131 [zR 34 0, zU, zU, zI l3, zI l4, zI l5, zU, zU] [] σ Q := by
  refine r_blk [qO (.iload 5), qO (.iconst 2)] (pc' := 134) (L' := [zR 34 0, zU, zU, zI l3, zI l4, zI l5, zU, zU]) (S' := [zI 2, zI l5]) (σ' := σ) (Ps := []) (by decide +kernel) rfl trivial ?_
  refine r_icmp_ge (off := 107) (tgt := 241) (by decide +kernel) (by decide) (fun c => ?_) (fun c => ?_)
  · replace h := h.1 c
    refine r_blk [qO (.iinc 4 1), qO (.goto (-127))] (pc' := 117) (L' := [zR 34 0, zU, zU, zI l3, zI (l4 + 1), zI l5, zU, zU]) (S' := []) (σ' := σ) (Ps := [-2147483648 ≤ l4 + 1 ∧ l4 + 1 ≤ 2147483647]) (by decide +kernel) rfl ⟨h.1, trivial⟩ ?_
    replace h := h.2
    exact Runs.fg (fgE (fgU (fgU (fgE (fgE (fgU (fgU (fgU fg0)))))))) h
  · replace h := h.2 c
    refine r_blk [qO (.aload_n 0), qO (.iload 4), qO (.iload 5)] (pc' := 142) (L' := [zR 34 0, zU, zU, zI l3, zI l4, zI l5, zU, zU]) (S' := [zI l5, zI l4, zR 34 0]) (σ' := σ) (Ps := []) (by decide +kernel) rfl trivial ?_
    refine r_callVI (As := [zI l4, zI l5]) (S := []) (Lc := [zR 34 0, zI l4, zI l5]) (d' := 0) (n := 2) (g := 34) (x := 0) (ci := 11) kX11_get vX11_get lkX11_106 (by decide +kernel) (by decide) rfl rfl (by decide) rfl rfl (Nat.le_of_ble_eq_true rfl) rfl rfl (Nat.le_of_ble_eq_true rfl) (pX11_get h.1 h.2.1 ?_)
    replace h := h.2.2
    refine r_blk [qO (.iload_n 3)] (pc' := 146) (L' := [zR 34 0, zU, zU, zI l3, zI l4, zI l5, zU, zU]) (S' := [zI l3, zI (sg (σ 36 0) l4 l5)]) (σ' := σ) (Ps := []) (by decide +kernel) rfl trivial ?_
    refine r_icmp_eq (off := 6) (tgt := 152) (by decide +kernel) (by decide) (fun c => ?_) (fun c => ?_)
    · replace h := h.1 c
      refine r_blk [qO (.aload_n 0), qO (.iload 4), qO (.iload 5), qO (.aload_n 0), qF (.getfield 28) 11 9, qO (.iload_n 3), qO .iaload] (pc' := 163) (L' := [zR 34 0, zU, zU, zI l3, zI l4, zI l5, zU, zU]) (S' := [zI (σ 41 0 l3.toNat), zI l5, zI l4, zR 34 0]) (σ' := σ) (Ps := [0 ≤ l3 ∧ l3 < 10]) (by decide +kernel) rfl ⟨h.1, trivial⟩ ?_
      replace h := h.2
      refine r_callVI (As := [zI l4, zI l5, zI (σ 41 0 l3.toNat)]) (S := []) (Lc := [zR 34 0, zI l4, zI l5, zI (σ 41 0 l3.toNat), zU, zU]) (d' := 3) (n := 3) (g := 34) (x := 0) (ci := 11) kX11_enters vX11_enters lkX11_133 (by decide +kernel) (by decide) rfl rfl (by decide) rfl rfl (Nat.le_of_ble_eq_true rfl) rfl rfl (Nat.le_of_ble_eq_true rfl) (pX11_enters h.1 h.2.1 h.2.2.1 h.2.2.2.1 ?_)
      replace h := h.2.2.2.2
      refine r_blk [qO (.istore 6), qO (.aload_n 0), qO (.iload 4), qO (.iconst 1), qO (.iload 5), qO .isub] (pc' := 175) (L' := [zR 34 0, zU, zU, zI l3, zI l4, zI l5, zI (entS (σ 36 0) l4 l5 (σ 41 0 l3.toNat)), zU]) (S' := [zI (1 - l5), zI l4, zR 34 0]) (σ' := σ) (Ps := [-2147483648 ≤ 1 - l5 ∧ 1 - l5 ≤ 2147483647]) (by decide +kernel) rfl ⟨h.1, trivial⟩ ?_
      replace h := h.2
      refine r_callVI (As := [zI l4, zI (1 - l5)]) (S := []) (Lc := [zR 34 0, zI l4, zI (1 - l5)]) (d' := 0) (n := 2) (g := 34) (x := 0) (ci := 11) kX11_get vX11_get lkX11_106 (by decide +kernel) (by decide) rfl rfl (by decide) rfl rfl (Nat.le_of_ble_eq_true rfl) rfl rfl (Nat.le_of_ble_eq_true rfl) (pX11_get h.1 h.2.1 ?_)
      replace h := h.2.2
      refine r_blk [qO (.istore 7), qO (.iload 6)] (pc' := 182) (L' := [zR 34 0, zU, zU, zI l3, zI l4, zI l5, zI (entS (σ 36 0) l4 l5 (σ 41 0 l3.toNat)), zI (sg (σ 36 0) l4 (1 - l5))]) (S' := [zI (entS (σ 36 0) l4 l5 (σ 41 0 l3.toNat))]) (σ' := σ) (Ps := []) (by decide +kernel) rfl trivial ?_
      refine r_if_lt (off := 53) (tgt := 235) (by decide +kernel) (by decide) (fun c => ?_) (fun c => ?_)
      · replace h := h.1 c
        refine r_blk [qO (.iinc 5 1), qO (.goto (-107))] (pc' := 131) (L' := [zR 34 0, zU, zU, zI l3, zI l4, zI (l5 + 1), zI (entS (σ 36 0) l4 l5 (σ 41 0 l3.toNat)), zI (sg (σ 36 0) l4 (1 - l5))]) (S' := []) (σ' := σ) (Ps := [-2147483648 ≤ l5 + 1 ∧ l5 + 1 ≤ 2147483647]) (by decide +kernel) rfl ⟨h.1, trivial⟩ ?_
        replace h := h.2
        exact Runs.fg (fgE (fgU (fgU (fgE (fgE (fgE (fgU (fgU fg0)))))))) h
      · replace h := h.2 c
        refine r_blk [qO (.aload_n 0), qF (.getfield 28) 11 9, qO (.iload 7), qO .iaload] (pc' := 192) (L' := [zR 34 0, zU, zU, zI l3, zI l4, zI l5, zI (entS (σ 36 0) l4 l5 (σ 41 0 l3.toNat)), zI (sg (σ 36 0) l4 (1 - l5))]) (S' := [zI (σ 41 0 ((sg (σ 36 0) l4 (1 - l5)).toNat))]) (σ' := σ) (Ps := [0 ≤ sg (σ 36 0) l4 (1 - l5) ∧ sg (σ 36 0) l4 (1 - l5) < 10]) (by decide +kernel) rfl ⟨h.1, trivial⟩ ?_
        replace h := h.2
        refine r_if_lt (off := 26) (tgt := 218) (by decide +kernel) (by decide) (fun c => ?_) (fun c => ?_)
        · replace h := h.1 c
          refine r_blk [qO (.aload_n 0), qF (.getfield 28) 11 9, qO (.iload 7), qO (.iload 6), qO (.aload_n 0), qO (.iload 4), qO (.iconst 2)] (pc' := 230) (L' := [zR 34 0, zU, zU, zI l3, zI l4, zI l5, zI (entS (σ 36 0) l4 l5 (σ 41 0 l3.toNat)), zI (sg (σ 36 0) l4 (1 - l5))]) (S' := [zI 2, zI l4, zR 34 0, zI (entS (σ 36 0) l4 l5 (σ 41 0 l3.toNat)), zI (sg (σ 36 0) l4 (1 - l5)), zR 41 0]) (σ' := σ) (Ps := []) (by decide +kernel) rfl trivial ?_
          refine r_callVI (As := [zI l4, zI 2]) (S := [zI (entS (σ 36 0) l4 l5 (σ 41 0 l3.toNat)), zI (sg (σ 36 0) l4 (1 - l5)), zR 41 0]) (Lc := [zR 34 0, zI l4, zI 2]) (d' := 0) (n := 2) (g := 34) (x := 0) (ci := 11) kX11_get vX11_get lkX11_106 (by decide +kernel) (by decide) rfl rfl (by decide) rfl rfl (Nat.le_of_ble_eq_true rfl) rfl rfl (Nat.le_of_ble_eq_true rfl) (pX11_get h.1 (by decide) ?_)
          replace h := h.2
          refine r_blk [qO .iadd, qO .iastore, qO (.iinc 5 1), qO (.goto (-107))] (pc' := 131) (L' := [zR 34 0, zU, zU, zI l3, zI l4, zI (l5 + 1), zI (entS (σ 36 0) l4 l5 (σ 41 0 l3.toNat)), zI (sg (σ 36 0) l4 (1 - l5))]) (S' := []) (σ' := (zup σ 41 0 ((sg (σ 36 0) l4 (1 - l5)).toNat) ((entS (σ 36 0) l4 l5 (σ 41 0 l3.toNat)) + (sg (σ 36 0) l4 2)))) (Ps := [-2147483648 ≤ (entS (σ 36 0) l4 l5 (σ 41 0 l3.toNat)) + (sg (σ 36 0) l4 2) ∧ (entS (σ 36 0) l4 l5 (σ 41 0 l3.toNat)) + (sg (σ 36 0) l4 2) ≤ 2147483647, 0 ≤ sg (σ 36 0) l4 (1 - l5) ∧ sg (σ 36 0) l4 (1 - l5) < 10, -2147483648 ≤ l5 + 1 ∧ l5 + 1 ≤ 2147483647]) (by decide +kernel) rfl ⟨h.1, h.2.1, h.2.2.1, trivial⟩ ?_
          replace h := h.2.2.2
          generalize hσ1 : (zup σ 41 0 ((sg (σ 36 0) l4 (1 - l5)).toNat) ((entS (σ 36 0) l4 l5 (σ 41 0 l3.toNat)) + (sg (σ 36 0) l4 2))) = σ1
          replace h := h σ1 hσ1.symm
          exact Runs.fg (fgE (fgU (fgU (fgE (fgE (fgE (fgU (fgU fg0)))))))) h
        · replace h := h.2 c
          refine r_blk [qO (.iload 6), qO (.aload_n 0), qO (.iload 4), qO (.iconst 2)] (pc' := 201) (L' := [zR 34 0, zU, zU, zI l3, zI l4, zI l5, zI (entS (σ 36 0) l4 l5 (σ 41 0 l3.toNat)), zI (sg (σ 36 0) l4 (1 - l5))]) (S' := [zI 2, zI l4, zR 34 0, zI (entS (σ 36 0) l4 l5 (σ 41 0 l3.toNat))]) (σ' := σ) (Ps := []) (by decide +kernel) rfl trivial ?_
          refine r_callVI (As := [zI l4, zI 2]) (S := [zI (entS (σ 36 0) l4 l5 (σ 41 0 l3.toNat))]) (Lc := [zR 34 0, zI l4, zI 2]) (d' := 0) (n := 2) (g := 34) (x := 0) (ci := 11) kX11_get vX11_get lkX11_106 (by decide +kernel) (by decide) rfl rfl (by decide) rfl rfl (Nat.le_of_ble_eq_true rfl) rfl rfl (Nat.le_of_ble_eq_true rfl) (pX11_get h.1 (by decide) ?_)
          replace h := h.2
          refine r_blk [qO .iadd, qO (.aload_n 0), qF (.getfield 28) 11 9, qO (.iload 7), qO .iaload] (pc' := 212) (L' := [zR 34 0, zU, zU, zI l3, zI l4, zI l5, zI (entS (σ 36 0) l4 l5 (σ 41 0 l3.toNat)), zI (sg (σ 36 0) l4 (1 - l5))]) (S' := [zI (σ 41 0 ((sg (σ 36 0) l4 (1 - l5)).toNat)), zI ((entS (σ 36 0) l4 l5 (σ 41 0 l3.toNat)) + (sg (σ 36 0) l4 2))]) (σ' := σ) (Ps := [-2147483648 ≤ (entS (σ 36 0) l4 l5 (σ 41 0 l3.toNat)) + (sg (σ 36 0) l4 2) ∧ (entS (σ 36 0) l4 l5 (σ 41 0 l3.toNat)) + (sg (σ 36 0) l4 2) ≤ 2147483647, 0 ≤ sg (σ 36 0) l4 (1 - l5) ∧ sg (σ 36 0) l4 (1 - l5) < 10]) (by decide +kernel) rfl ⟨h.1, h.2.1, trivial⟩ ?_
          replace h := h.2.2
          refine r_icmp_lt (off := 6) (tgt := 218) (by decide +kernel) (by decide) (fun c => ?_) (fun c => ?_)
          · replace h := h.1 c
            refine r_blk [qO (.aload_n 0), qF (.getfield 28) 11 9, qO (.iload 7), qO (.iload 6), qO (.aload_n 0), qO (.iload 4), qO (.iconst 2)] (pc' := 230) (L' := [zR 34 0, zU, zU, zI l3, zI l4, zI l5, zI (entS (σ 36 0) l4 l5 (σ 41 0 l3.toNat)), zI (sg (σ 36 0) l4 (1 - l5))]) (S' := [zI 2, zI l4, zR 34 0, zI (entS (σ 36 0) l4 l5 (σ 41 0 l3.toNat)), zI (sg (σ 36 0) l4 (1 - l5)), zR 41 0]) (σ' := σ) (Ps := []) (by decide +kernel) rfl trivial ?_
            refine r_callVI (As := [zI l4, zI 2]) (S := [zI (entS (σ 36 0) l4 l5 (σ 41 0 l3.toNat)), zI (sg (σ 36 0) l4 (1 - l5)), zR 41 0]) (Lc := [zR 34 0, zI l4, zI 2]) (d' := 0) (n := 2) (g := 34) (x := 0) (ci := 11) kX11_get vX11_get lkX11_106 (by decide +kernel) (by decide) rfl rfl (by decide) rfl rfl (Nat.le_of_ble_eq_true rfl) rfl rfl (Nat.le_of_ble_eq_true rfl) (pX11_get h.1 (by decide) ?_)
            replace h := h.2
            refine r_blk [qO .iadd, qO .iastore, qO (.iinc 5 1), qO (.goto (-107))] (pc' := 131) (L' := [zR 34 0, zU, zU, zI l3, zI l4, zI (l5 + 1), zI (entS (σ 36 0) l4 l5 (σ 41 0 l3.toNat)), zI (sg (σ 36 0) l4 (1 - l5))]) (S' := []) (σ' := (zup σ 41 0 ((sg (σ 36 0) l4 (1 - l5)).toNat) ((entS (σ 36 0) l4 l5 (σ 41 0 l3.toNat)) + (sg (σ 36 0) l4 2)))) (Ps := [-2147483648 ≤ (entS (σ 36 0) l4 l5 (σ 41 0 l3.toNat)) + (sg (σ 36 0) l4 2) ∧ (entS (σ 36 0) l4 l5 (σ 41 0 l3.toNat)) + (sg (σ 36 0) l4 2) ≤ 2147483647, 0 ≤ sg (σ 36 0) l4 (1 - l5) ∧ sg (σ 36 0) l4 (1 - l5) < 10, -2147483648 ≤ l5 + 1 ∧ l5 + 1 ≤ 2147483647]) (by decide +kernel) rfl ⟨h.1, h.2.1, h.2.2.1, trivial⟩ ?_
            replace h := h.2.2.2
            generalize hσ2 : (zup σ 41 0 ((sg (σ 36 0) l4 (1 - l5)).toNat) ((entS (σ 36 0) l4 l5 (σ 41 0 l3.toNat)) + (sg (σ 36 0) l4 2))) = σ2
            replace h := h σ2 hσ2.symm
            exact Runs.fg (fgE (fgU (fgU (fgE (fgE (fgE (fgU (fgU fg0)))))))) h
          · replace h := h.2 c
            refine r_blk [qO (.goto 20), qO (.iinc 5 1), qO (.goto (-107))] (pc' := 131) (L' := [zR 34 0, zU, zU, zI l3, zI l4, zI (l5 + 1), zI (entS (σ 36 0) l4 l5 (σ 41 0 l3.toNat)), zI (sg (σ 36 0) l4 (1 - l5))]) (S' := []) (σ' := σ) (Ps := [-2147483648 ≤ l5 + 1 ∧ l5 + 1 ≤ 2147483647]) (by decide +kernel) rfl ⟨h.1, trivial⟩ ?_
            replace h := h.2
            exact Runs.fg (fgE (fgU (fgU (fgE (fgE (fgE (fgU (fgU fg0)))))))) h
    · replace h := h.2 c
      refine r_blk [qO (.goto 86), qO (.iinc 5 1), qO (.goto (-107))] (pc' := 131) (L' := [zR 34 0, zU, zU, zI l3, zI l4, zI (l5 + 1), zU, zU]) (S' := []) (σ' := σ) (Ps := [-2147483648 ≤ l5 + 1 ∧ l5 + 1 ≤ 2147483647]) (by decide +kernel) rfl ⟨h.1, trivial⟩ ?_
      replace h := h.2
      exact Runs.fg (fgE (fgU (fgU (fgE (fgE (fgE (fgU (fgU fg0)))))))) h
