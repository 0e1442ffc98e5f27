theorem gX11_goesFrom_0 (a0 : Int) (a1 : Int) (a2 : Int) (σ : Hp) {Q : Option Int → Hp → Prop} (h : (WF (σ 36 0)) ∧ (0 ≤ a0 ∧ a0 < σ 36 0 1) ∧ (0 ≤ a2 ∧ a2 ≤ 1000000) ∧ ((wayS (σ 36 0) a0 a2 = 2 → Q (some 1) σ) ∧ (¬ wayS (σ 36 0) a0 a2 = 2 → ((¬ wayS (σ 36 0) a0 a2 = a1 → Q (some 0) σ) ∧ (wayS (σ 36 0) a0 a2 = a1 → Q (some 1) σ))))) : Runs 2 mX11_goesFrom 0 [zR 34 0, zI a0, zI a1, zI a2, zU] [] σ Q := by
  refine r_blk [qO (.aload_n 0), qO (.iload_n 1), qO (.iload_n 3)] (pc' := 3) (L' := [zR 34 0, zI a0, zI a1, zI a2, zU]) (S' := [zI a2, zI a0, zR 34 0]) (σ' := σ) (Ps := []) (by decide +kernel) rfl trivial ?_
  refine r_callVI (As := [zI a0, zI a2]) (S := []) (Lc := [zR 34 0, zI a0, zI a2, zU, zU, zU]) (d' := 1) (n := 2) (g := 34) (x := 0) (ci := 11) kX11_wayOf vX11_wayOf lkX11_126 (by decide +kernel) (by decide) rfl rfl (by decide) rfl rfl (Nat.le_of_ble_eq_true rfl) rfl rfl (Nat.le_of_ble_eq_true rfl) (pX11_wayOf h.1 h.2.1 h.2.2.1 ?_)
  replace h := h.2.2.2
  refine r_blk [qO (.istore 4), qO (.iload 4), qO (.iconst 2)] (pc' := 11) (L' := [zR 34 0, zI a0, zI a1, zI a2, zI (wayS (σ 36 0) a0 a2)]) (S' := [zI 2, zI (wayS (σ 36 0) a0 a2)]) (σ' := σ) (Ps := []) (by decide +kernel) rfl trivial ?_
  refine r_icmp_eq (off := 9) (tgt := 20) (by decide +kernel) (by decide) (fun c => ?_) (fun c => ?_)
  · replace h := h.1 c
    refine r_blk [qO (.iconst 1), qO (.goto 4)] (pc' := 25) (L' := [zR 34 0, zI a0, zI a1, zI a2, zI (wayS (σ 36 0) a0 a2)]) (S' := [zI 1]) (σ' := σ) (Ps := []) (by decide +kernel) rfl trivial ?_
    exact r_retz (by decide +kernel) rfl (by decide) h
  · replace h := h.2 c
    refine r_blk [qO (.iload 4), qO (.iload_n 2)] (pc' := 17) (L' := [zR 34 0, zI a0, zI a1, zI a2, zI (wayS (σ 36 0) a0 a2)]) (S' := [zI a1, zI (wayS (σ 36 0) a0 a2)]) (σ' := σ) (Ps := []) (by decide +kernel) rfl trivial ?_
    refine r_icmp_ne (off := 7) (tgt := 24) (by decide +kernel) (by decide) (fun c => ?_) (fun c => ?_)
    · replace h := h.1 c
      refine r_blk [qO (.iconst 0)] (pc' := 25) (L' := [zR 34 0, zI a0, zI a1, zI a2, zI (wayS (σ 36 0) a0 a2)]) (S' := [zI 0]) (σ' := σ) (Ps := []) (by decide +kernel) rfl trivial ?_
      exact r_retz (by decide +kernel) rfl (by decide) h
    · replace h := h.2 c
      refine r_blk [qO (.iconst 1), qO (.goto 4)] (pc' := 25) (L' := [zR 34 0, zI a0, zI a1, zI a2, zI (wayS (σ 36 0) a0 a2)]) (S' := [zI 1]) (σ' := σ) (Ps := []) (by decide +kernel) rfl trivial ?_
      exact r_retz (by decide +kernel) rfl (by decide) h
