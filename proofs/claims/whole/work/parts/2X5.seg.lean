theorem gX5_add_0 (a0 : Int) (σ : Hp) {Q : Option Int → Hp → Prop} (h : ((64 ≤ σ 12 0 1 → Q none σ) ∧ (¬ 64 ≤ σ 12 0 1 → (0 ≤ σ 12 0 1 ∧ σ 12 0 1 < 64) ∧ (-2147483648 ≤ (σ 12 0 1) + 1 ∧ (σ 12 0 1) + 1 ≤ 2147483647) ∧ Q none (zup (zup σ 13 0 ((σ 12 0 1).toNat) a0) 12 0 1 ((σ 12 0 1) + 1))))) : Runs 0 mX5_add 0 [zR 12 0, zI a0] [] σ Q := by
  refine r_blk [qO (.aload_n 0), qF (.getfield 15) 5 1, qO (.bipush 64)] (pc' := 6) (L' := [zR 12 0, zI a0]) (S' := [zI 64, zI (σ 12 0 1)]) (σ' := σ) (Ps := []) (by decide +kernel) rfl trivial ?_
  refine r_icmp_ge (off := 23) (tgt := 29) (by decide +kernel) (by decide) (fun c => ?_) (fun c => ?_)
  · replace h := h.1 c
    exact r_retv (by decide +kernel) rfl h
  · replace h := h.2 c
    refine r_blk [qO (.aload_n 0), qF (.getfield 9) 5 0, qO (.aload_n 0), qF (.getfield 15) 5 1, qO (.iload_n 1), qO .iastore, qO (.aload_n 0), qO .dup, qF (.getfield 15) 5 1, qO (.iconst 1), qO .iadd, qF (.putfield 15) 5 1] (pc' := 29) (L' := [zR 12 0, zI a0]) (S' := []) (σ' := (zup (zup σ 13 0 ((σ 12 0 1).toNat) a0) 12 0 1 ((σ 12 0 1) + 1))) (Ps := [0 ≤ σ 12 0 1 ∧ σ 12 0 1 < 64, -2147483648 ≤ (σ 12 0 1) + 1 ∧ (σ 12 0 1) + 1 ≤ 2147483647]) (by decide +kernel) rfl ⟨h.1, h.2.1, trivial⟩ ?_
    replace h := h.2.2
    exact r_retv (by decide +kernel) rfl h
theorem gX5_byteAt_0 (a0 : Int) (σ : Hp) {Q : Option Int → Hp → Prop} (h : ((a0 < 0 → Q (some (-1)) σ) ∧ (¬ a0 < 0 → ((σ 12 0 1 ≤ a0 → Q (some (-1)) σ) ∧ (¬ σ 12 0 1 ≤ a0 → (0 ≤ a0 ∧ a0 < 64) ∧ Q (some (σ 13 0 a0.toNat)) σ))))) : Runs 0 mX5_byteAt 0 [zR 12 0, zI a0] [] σ Q := by
  refine r_blk [qO (.iload_n 1)] (pc' := 1) (L' := [zR 12 0, zI a0]) (S' := [zI a0]) (σ' := σ) (Ps := []) (by decide +kernel) rfl trivial ?_
  refine r_if_lt (off := 20) (tgt := 21) (by decide +kernel) (by decide) (fun c => ?_) (fun c => ?_)
  · replace h := h.1 c
    refine r_blk [qO (.iconst (-1))] (pc' := 22) (L' := [zR 12 0, zI a0]) (S' := [zI (-1)]) (σ' := σ) (Ps := []) (by decide +kernel) rfl trivial ?_
    exact r_ret (by decide +kernel) rfl (fun _ => h)
  · replace h := h.2 c
    refine r_blk [qO (.iload_n 1), qO (.aload_n 0), qF (.getfield 15) 5 1] (pc' := 9) (L' := [zR 12 0, zI a0]) (S' := [zI (σ 12 0 1), zI a0]) (σ' := σ) (Ps := []) (by decide +kernel) rfl trivial ?_
    refine r_icmp_ge (off := 12) (tgt := 21) (by decide +kernel) (by decide) (fun c => ?_) (fun c => ?_)
    · replace h := h.1 c
      refine r_blk [qO (.iconst (-1))] (pc' := 22) (L' := [zR 12 0, zI a0]) (S' := [zI (-1)]) (σ' := σ) (Ps := []) (by decide +kernel) rfl trivial ?_
      exact r_ret (by decide +kernel) rfl (fun _ => h)
    · replace h := h.2 c
      refine r_blk [qO (.aload_n 0), qF (.getfield 9) 5 0, qO (.iload_n 1), qO .iaload, qO (.goto 4)] (pc' := 22) (L' := [zR 12 0, zI a0]) (S' := [zI (σ 13 0 a0.toNat)]) (σ' := σ) (Ps := [0 ≤ a0 ∧ a0 < 64]) (by decide +kernel) rfl ⟨h.1, trivial⟩ ?_
      replace h := h.2
      exact r_ret (by decide +kernel) rfl (fun _ => h)
