theorem gX11_on_0 (σ : Hp) {Q : Option Int → Hp → Prop} (h : ((¬ σ 34 0 4 = 0 → Runs 1 mX11_on 16 [zR 34 0, zI 0] [] σ Q) ∧ (σ 34 0 4 = 0 → Runs 0 mX11_refuse 0 [zR 34 0, zI (-3)] [] σ (rI (fun z2 σ1 => Q (some z2) σ1))))) : Runs 1 mX11_on 0 [zR 34 0, zU] [] σ Q := by
  refine r_blk [qO (.aload_n 0), qF (.getfield 218) 11 4] (pc' := 4) (L' := [zR 34 0, zU]) (S' := [zI (σ 34 0 4)]) (σ' := σ) (Ps := []) (by decide +kernel) rfl trivial ?_
  refine r_if_ne (off := 10) (tgt := 14) (by decide +kernel) (by decide) (fun c => ?_) (fun c => ?_)
  · replace h := h.1 c
    refine r_blk [qO (.iconst 0), qO (.istore_n 1)] (pc' := 16) (L' := [zR 34 0, zI 0]) (S' := []) (σ' := σ) (Ps := []) (by decide +kernel) rfl trivial ?_
    exact Runs.fg (fgE (fgE fg0)) h
  · replace h := h.2 c
    refine r_blk [qO (.aload_n 0), qO (.bipush (-3))] (pc' := 10) (L' := [zR 34 0, zU]) (S' := [zI (-3), zR 34 0]) (σ' := σ) (Ps := []) (by decide +kernel) rfl trivial ?_
    refine r_callVI (As := [zI (-3)]) (S := []) (Lc := [zR 34 0, zI (-3)]) (d' := 0) (n := 1) (g := 34) (x := 0) (ci := 11) kX11_refuse vX11_refuse lkX11_66 (by decide +kernel) (by decide) rfl rfl (by decide) rfl rfl (Nat.le_of_ble_eq_true rfl) rfl rfl (Nat.le_of_ble_eq_true rfl) (h.monoI (fun z2 σ1 h => ?_))
    exact r_ret (by decide +kernel) rfl (fun _ => h)
theorem gX11_on_16 (l1 : Int) (σ : Hp) {Q : Option Int → Hp → Prop} (h : ((123 ≤ l1 → Q (some (σ 36 0 1)) σ) ∧ (¬ 123 ≤ l1 → (0 ≤ l1 ∧ l1 < 123) ∧ (0 ≤ l1 ∧ l1 < 123) ∧ (-2147483648 ≤ l1 + 1 ∧ l1 + 1 ≤ 2147483647) ∧ Runs 1 mX11_on 16 [zR 34 0, zI (l1 + 1)] [] (zup σ 36 0 l1.toNat (σ 37 0 l1.toNat)) Q))) : Runs 1 mX11_on 16 [zR 34 0, zI l1] [] σ Q := by
  refine r_blk [qO (.iload_n 1), qO (.bipush 123)] (pc' := 19) (L' := [zR 34 0, zI l1]) (S' := [zI 123, zI l1]) (σ' := σ) (Ps := []) (by decide +kernel) rfl trivial ?_
  refine r_icmp_ge (off := 21) (tgt := 40) (by decide +kernel) (by decide) (fun c => ?_) (fun c => ?_)
  · replace h := h.1 c
    refine r_blk [qO (.aload_n 0), qF (.getfield 13) 11 1, qO (.iconst 1), qO .iaload] (pc' := 46) (L' := [zR 34 0, zI l1]) (S' := [zI (σ 36 0 1)]) (σ' := σ) (Ps := [0 ≤ 1 ∧ 1 < 123]) (by decide +kernel) rfl ⟨(by decide), trivial⟩ ?_
    exact r_ret (by decide +kernel) rfl (fun _ => h)
  · replace h := h.2 c
    refine r_blk [qO (.aload_n 0), qF (.getfield 13) 11 1, qO (.iload_n 1), qO (.aload_n 0), qF (.getfield 16) 11 2, qO (.iload_n 1), qO .iaload, qO .iastore, qO (.iinc 1 1), qO (.goto (-21))] (pc' := 16) (L' := [zR 34 0, zI (l1 + 1)]) (S' := []) (σ' := (zup σ 36 0 l1.toNat (σ 37 0 l1.toNat))) (Ps := [0 ≤ l1 ∧ l1 < 123, 0 ≤ l1 ∧ l1 < 123, -2147483648 ≤ l1 + 1 ∧ l1 + 1 ≤ 2147483647]) (by decide +kernel) rfl ⟨h.1, h.2.1, h.2.2.1, trivial⟩ ?_
    replace h := h.2.2.2
    exact Runs.fg (fgE (fgE fg0)) h
theorem gX11_count_0 (a0 : Int) (σ : Hp) {Q : Option Int → Hp → Prop} (h : ((a0 ≤ 10 → Runs 1 mX11_count 22 [zR 34 0, zI a0, zU, zU] [] σ Q) ∧ (¬ a0 ≤ 10 → ((17 ≤ a0 → Runs 1 mX11_count 22 [zR 34 0, zI a0, zU, zU] [] σ Q) ∧ (¬ 17 ≤ a0 → (-2147483648 ≤ a0 - 10 ∧ a0 - 10 ≤ 2147483647) ∧ (0 ≤ a0 - 10 ∧ a0 - 10 < 7) ∧ Q (some (σ 35 0 ((a0 - 10).toNat))) σ))))) : Runs 1 mX11_count 0 [zR 34 0, zI a0, zU, zU] [] σ Q := by
  refine r_blk [qO (.iload_n 1), qO (.bipush 10)] (pc' := 3) (L' := [zR 34 0, zI a0, zU, zU]) (S' := [zI 10, zI a0]) (σ' := σ) (Ps := []) (by decide +kernel) rfl trivial ?_
  refine r_icmp_le (off := 19) (tgt := 22) (by decide +kernel) (by decide) (fun c => ?_) (fun c => ?_)
  · replace h := h.1 c
    exact Runs.fg (fgE (fgE (fgU (fgU fg0)))) h
  · replace h := h.2 c
    refine r_blk [qO (.iload_n 1), qO (.bipush 17)] (pc' := 9) (L' := [zR 34 0, zI a0, zU, zU]) (S' := [zI 17, zI a0]) (σ' := σ) (Ps := []) (by decide +kernel) rfl trivial ?_
    refine r_icmp_ge (off := 13) (tgt := 22) (by decide +kernel) (by decide) (fun c => ?_) (fun c => ?_)
    · replace h := h.1 c
      exact Runs.fg (fgE (fgE (fgU (fgU fg0)))) h
    · replace h := h.2 c
      refine r_blk [qO (.aload_n 0), qF (.getfield 7) 11 0, qO (.iload_n 1), qO (.bipush 10), qO .isub, qO .iaload] (pc' := 21) (L' := [zR 34 0, zI a0, zU, zU]) (S' := [zI (σ 35 0 ((a0 - 10).toNat))]) (σ' := σ) (Ps := [-2147483648 ≤ a0 - 10 ∧ a0 - 10 ≤ 2147483647, 0 ≤ a0 - 10 ∧ a0 - 10 < 7]) (by decide +kernel) rfl ⟨h.1, h.2.1, trivial⟩ ?_
      replace h := h.2.2
      exact r_ret (by decide +kernel) rfl (fun _ => h)
theorem gX11_count_22 (l1 : Int) (σ : Hp) {Q : Option Int → Hp → Prop} (h : ((l1 < 0 ∨ 7 < l1 → Q (some (-9)) σ) ∧ (l1 = 0 → (0 ≤ l1 ∧ l1 < 123) ∧ Q (some (σ 36 0 l1.toNat)) σ) ∧ (l1 = 1 → (0 ≤ l1 ∧ l1 < 123) ∧ Q (some (σ 36 0 l1.toNat)) σ) ∧ (l1 = 2 → (0 ≤ l1 ∧ l1 < 123) ∧ Q (some (σ 36 0 l1.toNat)) σ) ∧ (l1 = 3 → Runs 1 mX11_count 81 [zR 34 0, zI l1, zI 0, zI 0] [] σ Q) ∧ (l1 = 4 → Runs 1 mX11_count 81 [zR 34 0, zI l1, zI 0, zI 0] [] σ Q) ∧ (l1 = 5 → Runs 0 mX11_bits 0 [zI (σ 36 0 4), zU, zU] [] σ (rI (fun z2 σ1 => Q (some z2) σ1))) ∧ (l1 = 6 → Q (some (σ 36 0 6)) σ) ∧ (l1 = 7 → Q (some (σ 34 0 7)) σ))) : Runs 1 mX11_count 22 [zR 34 0, zI l1, zU, zU] [] σ Q := by
  refine r_blk [qO (.iconst 0), qO (.istore_n 2), qO (.iload_n 1)] (pc' := 25) (L' := [zR 34 0, zI l1, zI 0, zU]) (S' := [zI l1]) (σ' := σ) (Ps := []) (by decide +kernel) rfl trivial ?_
  by_cases c : l1 < 0 ∨ 7 < l1
  · replace h := h.1 c
    refine r_tableOut (dflt := 129) (lo := 0) (hi := 7) (offs := #[47, 47, 47, 54, 54, 106, 116, 124]) (len := 47) (tgt := 154) (by decide +kernel) c (by decide) ?_
    refine r_blk [qO (.bipush (-9))] (pc' := 156) (L' := [zR 34 0, zI l1, zI 0, zU]) (S' := [zI (-9)]) (σ' := σ) (Ps := []) (by decide +kernel) rfl trivial ?_
    exact r_ret (by decide +kernel) rfl (fun _ => h)
  replace h := h.2
  have hc : l1 = 0 ∨ l1 = 1 ∨ l1 = 2 ∨ l1 = 3 ∨ l1 = 4 ∨ l1 = 5 ∨ l1 = 6 ∨ l1 = 7 := by omega
  rcases hc with c | c | c | c | c | c | c | c
  · replace h := h.1 c
    refine r_tableIn (dflt := 129) (lo := 0) (hi := 7) (offs := #[47, 47, 47, 54, 54, 106, 116, 124]) (len := 47) (off := 47) (tgt := 72) (by decide +kernel) (by omega) (by omega) (by rw [c]; rfl) (by decide) ?_
    refine r_blk [qO (.aload_n 0), qF (.getfield 13) 11 1, qO (.iload_n 1), qO .iaload] (pc' := 78) (L' := [zR 34 0, zI l1, zI 0, zU]) (S' := [zI (σ 36 0 l1.toNat)]) (σ' := σ) (Ps := [0 ≤ l1 ∧ l1 < 123]) (by decide +kernel) rfl ⟨h.1, trivial⟩ ?_
    replace h := h.2
    exact r_ret (by decide +kernel) rfl (fun _ => h)
  · replace h := h.2.1 c
    refine r_tableIn (dflt := 129) (lo := 0) (hi := 7) (offs := #[47, 47, 47, 54, 54, 106, 116, 124]) (len := 47) (off := 47) (tgt := 72) (by decide +kernel) (by omega) (by omega) (by rw [c]; rfl) (by decide) ?_
    refine r_blk [qO (.aload_n 0), qF (.getfield 13) 11 1, qO (.iload_n 1), qO .iaload] (pc' := 78) (L' := [zR 34 0, zI l1, zI 0, zU]) (S' := [zI (σ 36 0 l1.toNat)]) (σ' := σ) (Ps := [0 ≤ l1 ∧ l1 < 123]) (by decide +kernel) rfl ⟨h.1, trivial⟩ ?_
    replace h := h.2
    exact r_ret (by decide +kernel) rfl (fun _ => h)
  · replace h := h.2.2.1 c
    refine r_tableIn (dflt := 129) (lo := 0) (hi := 7) (offs := #[47, 47, 47, 54, 54, 106, 116, 124]) (len := 47) (off := 47) (tgt := 72) (by decide +kernel) (by omega) (by omega) (by rw [c]; rfl) (by decide) ?_
    refine r_blk [qO (.aload_n 0), qF (.getfield 13) 11 1, qO (.iload_n 1), qO .iaload] (pc' := 78) (L' := [zR 34 0, zI l1, zI 0, zU]) (S' := [zI (σ 36 0 l1.toNat)]) (σ' := σ) (Ps := [0 ≤ l1 ∧ l1 < 123]) (by decide +kernel) rfl ⟨h.1, trivial⟩ ?_
    replace h := h.2
    exact r_ret (by decide +kernel) rfl (fun _ => h)
  · replace h := h.2.2.2.1 c
    refine r_tableIn (dflt := 129) (lo := 0) (hi := 7) (offs := #[47, 47, 47, 54, 54, 106, 116, 124]) (len := 47) (off := 54) (tgt := 79) (by decide +kernel) (by omega) (by omega) (by rw [c]; rfl) (by decide) ?_
    refine r_blk [qO (.iconst 0), qO (.istore_n 3)] (pc' := 81) (L' := [zR 34 0, zI l1, zI 0, zI 0]) (S' := []) (σ' := σ) (Ps := []) (by decide +kernel) rfl trivial ?_
    exact Runs.fg (fgE (fgE (fgE (fgE fg0)))) h
  · replace h := h.2.2.2.2.1 c
    refine r_tableIn (dflt := 129) (lo := 0) (hi := 7) (offs := #[47, 47, 47, 54, 54, 106, 116, 124]) (len := 47) (off := 54) (tgt := 79) (by decide +kernel) (by omega) (by omega) (by rw [c]; rfl) (by decide) ?_
    refine r_blk [qO (.iconst 0), qO (.istore_n 3)] (pc' := 81) (L' := [zR 34 0, zI l1, zI 0, zI 0]) (S' := []) (σ' := σ) (Ps := []) (by decide +kernel) rfl trivial ?_
    exact Runs.fg (fgE (fgE (fgE (fgE fg0)))) h
  · replace h := h.2.2.2.2.2.1 c
    refine r_tableIn (dflt := 129) (lo := 0) (hi := 7) (offs := #[47, 47, 47, 54, 54, 106, 116, 124]) (len := 47) (off := 106) (tgt := 131) (by decide +kernel) (by omega) (by omega) (by rw [c]; rfl) (by decide) ?_
    refine r_blk [qO (.aload_n 0), qF (.getfield 13) 11 1, qO (.iconst 4), qO .iaload] (pc' := 137) (L' := [zR 34 0, zI l1, zI 0, zU]) (S' := [zI (σ 36 0 4)]) (σ' := σ) (Ps := [0 ≤ 4 ∧ 4 < 123]) (by decide +kernel) rfl ⟨(by decide), trivial⟩ ?_
    refine r_callSI (As := [zI (σ 36 0 4)]) (S := []) (Lc := [zI (σ 36 0 4), zU, zU]) (d' := 0) (n := 1) kX11_bits vX11_bits lkX11_200 (by decide +kernel) (by decide) rfl rfl (Nat.le_of_ble_eq_true rfl) rfl rfl (Nat.le_of_ble_eq_true rfl) (h.monoI (fun z2 σ1 h => ?_))
    exact r_ret (by decide +kernel) rfl (fun _ => h)
  · replace h := h.2.2.2.2.2.2.1 c
    refine r_tableIn (dflt := 129) (lo := 0) (hi := 7) (offs := #[47, 47, 47, 54, 54, 106, 116, 124]) (len := 47) (off := 116) (tgt := 141) (by decide +kernel) (by omega) (by omega) (by rw [c]; rfl) (by decide) ?_
    refine r_blk [qO (.aload_n 0), qF (.getfield 13) 11 1, qO (.bipush 6), qO .iaload] (pc' := 148) (L' := [zR 34 0, zI l1, zI 0, zU]) (S' := [zI (σ 36 0 6)]) (σ' := σ) (Ps := [0 ≤ 6 ∧ 6 < 123]) (by decide +kernel) rfl ⟨(by decide), trivial⟩ ?_
    exact r_ret (by decide +kernel) rfl (fun _ => h)
  · replace h := h.2.2.2.2.2.2.2 c
    refine r_tableIn (dflt := 129) (lo := 0) (hi := 7) (offs := #[47, 47, 47, 54, 54, 106, 116, 124]) (len := 47) (off := 124) (tgt := 149) (by decide +kernel) (by omega) (by omega) (by rw [c]; rfl) (by decide) ?_
    refine r_blk [qO (.aload_n 0), qF (.getfield 70) 11 7] (pc' := 153) (L' := [zR 34 0, zI l1, zI 0, zU]) (S' := [zI (σ 34 0 7)]) (σ' := σ) (Ps := []) (by decide +kernel) rfl trivial ?_
    exact r_ret (by decide +kernel) rfl (fun _ => h)
theorem gX11_count_81 (l1 : Int) (l2 : Int) (l3 : Int) (σ : Hp) {Q : Option Int → Hp → Prop} (h : ((σ 36 0 1 ≤ l3 → Q (some l2) σ) ∧ (¬ σ 36 0 1 ≤ l3 → ((¬ l1 = 3 → Runs 0 mX11_get 0 [zR 34 0, zI l3, zI 4] [] σ (rI (fun z2 σ1 => ((2 ≤ z2 → (-2147483648 ≤ l2 + 0 ∧ l2 + 0 ≤ 2147483647) ∧ (-2147483648 ≤ l3 + 1 ∧ l3 + 1 ≤ 2147483647) ∧ Runs 1 mX11_count 81 [zR 34 0, zI l1, zI (l2 + 0), zI (l3 + 1)] [] σ1 Q) ∧ (¬ 2 ≤ z2 → (-2147483648 ≤ l2 + 1 ∧ l2 + 1 ≤ 2147483647) ∧ (-2147483648 ≤ l3 + 1 ∧ l3 + 1 ≤ 2147483647) ∧ Runs 1 mX11_count 81 [zR 34 0, zI l1, zI (l2 + 1), zI (l3 + 1)] [] σ1 Q))))) ∧ (l1 = 3 → Runs 0 mX11_get 0 [zR 34 0, zI l3, zI 3] [] σ (rI (fun z4 σ3 => (-2147483648 ≤ l2 + z4 ∧ l2 + z4 ≤ 2147483647) ∧ (-2147483648 ≤ l3 + 1 ∧ l3 + 1 ≤ 2147483647) ∧ Runs 1 mX11_count 81 [zR 34 0, zI l1, zI (l2 + z4), zI (l3 + 1)] [] σ3 Q))))))) : Runs 1 mX11_count 81 [zR 34 0, zI l1, zI l2, zI l3] [] σ Q := by
  refine r_blk [qO (.iload_n 3), qO (.aload_n 0), qF (.getfield 13) 11 1, qO (.iconst 1), qO .iaload] (pc' := 88) (L' := [zR 34 0, zI l1, zI l2, zI l3]) (S' := [zI (σ 36 0 1), zI l3]) (σ' := σ) (Ps := [0 ≤ 1 ∧ 1 < 123]) (by decide +kernel) rfl ⟨(by decide), trivial⟩ ?_
  refine r_icmp_ge (off := 41) (tgt := 129) (by decide +kernel) (by decide) (fun c => ?_) (fun c => ?_)
  · replace h := h.1 c
    refine r_blk [qO (.iload_n 2)] (pc' := 130) (L' := [zR 34 0, zI l1, zI l2, zI l3]) (S' := [zI l2]) (σ' := σ) (Ps := []) (by decide +kernel) rfl trivial ?_
    exact r_ret (by decide +kernel) rfl (fun _ => h)
  · replace h := h.2 c
    refine r_blk [qO (.iload_n 2), qO (.iload_n 1), qO (.iconst 3)] (pc' := 94) (L' := [zR 34 0, zI l1, zI l2, zI l3]) (S' := [zI 3, zI l1, zI l2]) (σ' := σ) (Ps := []) (by decide +kernel) rfl trivial ?_
    refine r_icmp_ne (off := 12) (tgt := 106) (by decide +kernel) (by decide) (fun c => ?_) (fun c => ?_)
    · replace h := h.1 c
      refine r_blk [qO (.aload_n 0), qO (.iload_n 3), qO (.iconst 4)] (pc' := 109) (L' := [zR 34 0, zI l1, zI l2, zI l3]) (S' := [zI 4, zI l3, zR 34 0, zI l2]) (σ' := σ) (Ps := []) (by decide +kernel) rfl trivial ?_
      refine r_callVI (As := [zI l3, zI 4]) (S := [zI l2]) (Lc := [zR 34 0, zI l3, zI 4]) (d' := 0) (n := 2) (g := 34) (x := 0) (ci := 11) kX11_get vX11_get lkX11_106 (by decide +kernel) (by decide) rfl rfl (by decide) rfl rfl (Nat.le_of_ble_eq_true rfl) rfl rfl (Nat.le_of_ble_eq_true rfl) (h.monoI (fun z2 σ1 h => ?_))
      refine r_blk [qO (.iconst 2)] (pc' := 113) (L' := [zR 34 0, zI l1, zI l2, zI l3]) (S' := [zI 2, zI z2, zI l2]) (σ' := σ1) (Ps := []) (by decide +kernel) rfl trivial ?_
      refine r_icmp_ge (off := 7) (tgt := 120) (by decide +kernel) (by decide) (fun c => ?_) (fun c => ?_)
      · replace h := h.1 c
        refine r_blk [qO (.iconst 0), qO .iadd, qO (.istore_n 2), qO (.iinc 3 1), qO (.goto (-45))] (pc' := 81) (L' := [zR 34 0, zI l1, zI (l2 + 0), zI (l3 + 1)]) (S' := []) (σ' := σ1) (Ps := [-2147483648 ≤ l2 + 0 ∧ l2 + 0 ≤ 2147483647, -2147483648 ≤ l3 + 1 ∧ l3 + 1 ≤ 2147483647]) (by decide +kernel) rfl ⟨h.1, h.2.1, trivial⟩ ?_
        replace h := h.2.2
        exact Runs.fg (fgE (fgE (fgE (fgE fg0)))) h
      · replace h := h.2 c
        refine r_blk [qO (.iconst 1), qO (.goto 4), qO .iadd, qO (.istore_n 2), qO (.iinc 3 1), qO (.goto (-45))] (pc' := 81) (L' := [zR 34 0, zI l1, zI (l2 + 1), zI (l3 + 1)]) (S' := []) (σ' := σ1) (Ps := [-2147483648 ≤ l2 + 1 ∧ l2 + 1 ≤ 2147483647, -2147483648 ≤ l3 + 1 ∧ l3 + 1 ≤ 2147483647]) (by decide +kernel) rfl ⟨h.1, h.2.1, trivial⟩ ?_
        replace h := h.2.2
        exact Runs.fg (fgE (fgE (fgE (fgE fg0)))) h
    · replace h := h.2 c
      refine r_blk [qO (.aload_n 0), qO (.iload_n 3), qO (.iconst 3)] (pc' := 100) (L' := [zR 34 0, zI l1, zI l2, zI l3]) (S' := [zI 3, zI l3, zR 34 0, zI l2]) (σ' := σ) (Ps := []) (by decide +kernel) rfl trivial ?_
      refine r_callVI (As := [zI l3, zI 3]) (S := [zI l2]) (Lc := [zR 34 0, zI l3, zI 3]) (d' := 0) (n := 2) (g := 34) (x := 0) (ci := 11) kX11_get vX11_get lkX11_106 (by decide +kernel) (by decide) rfl rfl (by decide) rfl rfl (Nat.le_of_ble_eq_true rfl) rfl rfl (Nat.le_of_ble_eq_true rfl) (h.monoI (fun z4 σ3 h => ?_))
      refine r_blk [qO (.goto 18), qO .iadd, qO (.istore_n 2), qO (.iinc 3 1), qO (.goto (-45))] (pc' := 81) (L' := [zR 34 0, zI l1, zI (l2 + z4), zI (l3 + 1)]) (S' := []) (σ' := σ3) (Ps := [-2147483648 ≤ l2 + z4 ∧ l2 + z4 ≤ 2147483647, -2147483648 ≤ l3 + 1 ∧ l3 + 1 ≤ 2147483647]) (by decide +kernel) rfl ⟨h.1, h.2.1, trivial⟩ ?_
      replace h := h.2.2
      exact Runs.fg (fgE (fgE (fgE (fgE fg0)))) h
