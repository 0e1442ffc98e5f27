theorem gJ7_fill18_0 (a1 : Int) (x : Nat) (σ : Hp) {Q : Option Int → Hp → Prop} (h : Runs 0 mJ7_fill_53178 5 [zR 18 x, zI a1, zI 0, zI 10] [] σ Q) : Runs 0 mJ7_fill_53178 0 [zR 18 x, zI a1, zU, zU] [] σ Q := by
  refine r_blk [qO (.iconst 0), qO (.istore_n 2), qO (.aload_n 0), qO .arraylength, qO (.istore_n 3)] (pc' := 5) (L' := [zR 18 x, zI a1, zI 0, zI 10]) (S' := []) (σ' := σ) (Ps := []) (by decide +kernel) rfl trivial ?_
  exact Runs.fg (fgE (fgE (fgE (fgE fg0)))) h
theorem gJ7_fill18_5 (l1 : Int) (l2 : Int) (l3 : Int) (x : Nat) (σ : Hp) {Q : Option Int → Hp → Prop} (h : ((l3 ≤ l2 → Q none σ) ∧ (¬ l3 ≤ l2 → (0 ≤ l2 ∧ l2 < 10) ∧ (-2147483648 ≤ l2 + 1 ∧ l2 + 1 ≤ 2147483647) ∧ Runs 0 mJ7_fill_53178 5 [zR 18 x, zI l1, zI (l2 + 1), zI l3] [] (zup σ 18 x l2.toNat l1) Q))) : Runs 0 mJ7_fill_53178 5 [zR 18 x, zI l1, zI l2, zI l3] [] σ Q := by
  refine r_blk [qO (.iload_n 2), qO (.iload_n 3)] (pc' := 7) (L' := [zR 18 x, zI l1, zI l2, zI l3]) (S' := [zI l3, zI l2]) (σ' := σ) (Ps := []) (by decide +kernel) rfl trivial ?_
  refine r_icmp_ge (off := 13) (tgt := 20) (by decide +kernel) (by decide) (fun c => ?_) (fun c => ?_)
  · replace h := h.1 c
    exact r_retv (by decide +kernel) rfl h
  · replace h := h.2 c
    refine r_blk [qO (.aload_n 0), qO (.iload_n 2), qO (.iload_n 1), qO .iastore, qO (.iinc 2 1), qO (.goto (-12))] (pc' := 5) (L' := [zR 18 x, zI l1, zI (l2 + 1), zI l3]) (S' := []) (σ' := (zup σ 18 x l2.toNat l1)) (Ps := [0 ≤ l2 ∧ l2 < 10, -2147483648 ≤ l2 + 1 ∧ l2 + 1 ≤ 2147483647]) (by decide +kernel) rfl ⟨h.1, h.2.1, trivial⟩ ?_
    replace h := h.2.2
    exact Runs.fg (fgE (fgE (fgE (fgE fg0)))) h
theorem gJ7_fill21_0 (a1 : Int) (x : Nat) (σ : Hp) {Q : Option Int → Hp → Prop} (h : Runs 0 mJ7_fill_53178 5 [zR 21 x, zI a1, zI 0, zI 10] [] σ Q) : Runs 0 mJ7_fill_53178 0 [zR 21 x, zI a1, zU, zU] [] σ Q := by
  refine r_blk [qO (.iconst 0), qO (.istore_n 2), qO (.aload_n 0), qO .arraylength, qO (.istore_n 3)] (pc' := 5) (L' := [zR 21 x, zI a1, zI 0, zI 10]) (S' := []) (σ' := σ) (Ps := []) (by decide +kernel) rfl trivial ?_
  exact Runs.fg (fgE (fgE (fgE (fgE fg0)))) h
theorem gJ7_fill21_5 (l1 : Int) (l2 : Int) (l3 : Int) (x : Nat) (σ : Hp) {Q : Option Int → Hp → Prop} (h : ((l3 ≤ l2 → Q none σ) ∧ (¬ l3 ≤ l2 → (0 ≤ l2 ∧ l2 < 10) ∧ (-2147483648 ≤ l2 + 1 ∧ l2 + 1 ≤ 2147483647) ∧ Runs 0 mJ7_fill_53178 5 [zR 21 x, zI l1, zI (l2 + 1), zI l3] [] (zup σ 21 x l2.toNat l1) Q))) : Runs 0 mJ7_fill_53178 5 [zR 21 x, zI l1, zI l2, zI l3] [] σ Q := by
  refine r_blk [qO (.iload_n 2), qO (.iload_n 3)] (pc' := 7) (L' := [zR 21 x, zI l1, zI l2, zI l3]) (S' := [zI l3, zI l2]) (σ' := σ) (Ps := []) (by decide +kernel) rfl trivial ?_
  refine r_icmp_ge (off := 13) (tgt := 20) (by decide +kernel) (by decide) (fun c => ?_) (fun c => ?_)
  · replace h := h.1 c
    exact r_retv (by decide +kernel) rfl h
  · replace h := h.2 c
    refine r_blk [qO (.aload_n 0), qO (.iload_n 2), qO (.iload_n 1), qO .iastore, qO (.iinc 2 1), qO (.goto (-12))] (pc' := 5) (L' := [zR 21 x, zI l1, zI (l2 + 1), zI l3]) (S' := []) (σ' := (zup σ 21 x l2.toNat l1)) (Ps := [0 ≤ l2 ∧ l2 < 10, -2147483648 ≤ l2 + 1 ∧ l2 + 1 ≤ 2147483647]) (by decide +kernel) rfl ⟨h.1, h.2.1, trivial⟩ ?_
    replace h := h.2.2
    exact Runs.fg (fgE (fgE (fgE (fgE fg0)))) h
theorem gJ7_fill24_0 (a1 : Int) (x : Nat) (σ : Hp) {Q : Option Int → Hp → Prop} (h : Runs 0 mJ7_fill_53178 5 [zR 24 x, zI a1, zI 0, zI 10] [] σ Q) : Runs 0 mJ7_fill_53178 0 [zR 24 x, zI a1, zU, zU] [] σ Q := by
  refine r_blk [qO (.iconst 0), qO (.istore_n 2), qO (.aload_n 0), qO .arraylength, qO (.istore_n 3)] (pc' := 5) (L' := [zR 24 x, zI a1, zI 0, zI 10]) (S' := []) (σ' := σ) (Ps := []) (by decide +kernel) rfl trivial ?_
  exact Runs.fg (fgE (fgE (fgE (fgE fg0)))) h
theorem gJ7_fill24_5 (l1 : Int) (l2 : Int) (l3 : Int) (x : Nat) (σ : Hp) {Q : Option Int → Hp → Prop} (h : ((l3 ≤ l2 → Q none σ) ∧ (¬ l3 ≤ l2 → (0 ≤ l2 ∧ l2 < 10) ∧ (-2147483648 ≤ l2 + 1 ∧ l2 + 1 ≤ 2147483647) ∧ Runs 0 mJ7_fill_53178 5 [zR 24 x, zI l1, zI (l2 + 1), zI l3] [] (zup σ 24 x l2.toNat l1) Q))) : Runs 0 mJ7_fill_53178 5 [zR 24 x, zI l1, zI l2, zI l3] [] σ Q := by
  refine r_blk [qO (.iload_n 2), qO (.iload_n 3)] (pc' := 7) (L' := [zR 24 x, zI l1, zI l2, zI l3]) (S' := [zI l3, zI l2]) (σ' := σ) (Ps := []) (by decide +kernel) rfl trivial ?_
  refine r_icmp_ge (off := 13) (tgt := 20) (by decide +kernel) (by decide) (fun c => ?_) (fun c => ?_)
  · replace h := h.1 c
    exact r_retv (by decide +kernel) rfl h
  · replace h := h.2 c
    refine r_blk [qO (.aload_n 0), qO (.iload_n 2), qO (.iload_n 1), qO .iastore, qO (.iinc 2 1), qO (.goto (-12))] (pc' := 5) (L' := [zR 24 x, zI l1, zI (l2 + 1), zI l3]) (S' := []) (σ' := (zup σ 24 x l2.toNat l1)) (Ps := [0 ≤ l2 ∧ l2 < 10, -2147483648 ≤ l2 + 1 ∧ l2 + 1 ≤ 2147483647]) (by decide +kernel) rfl ⟨h.1, h.2.1, trivial⟩ ?_
    replace h := h.2.2
    exact Runs.fg (fgE (fgE (fgE (fgE fg0)))) h
