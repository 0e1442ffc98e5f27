theorem gX6_takeFrom_0 (t : Nat) (u : Nat) (σ : Hp) {Q : Option Int → Hp → Prop} (hne : ∀ {g : Nat} (a b : Nat), (g, a) ≠ (g, b)) (h : ∀ σ1 : Hp, σ1 = (zup (zup (zup (zup (zup (zup (zup σ 1 t 0 (σ 1 u 0)) 1 t 1 ((zup σ 1 t 0 (σ 1 u 0)) 1 u 1)) 1 t 2 ((zup (zup σ 1 t 0 (σ 1 u 0)) 1 t 1 ((zup σ 1 t 0 (σ 1 u 0)) 1 u 1)) 1 u 2)) 1 t 3 ((zup (zup (zup σ 1 t 0 (σ 1 u 0)) 1 t 1 ((zup σ 1 t 0 (σ 1 u 0)) 1 u 1)) 1 t 2 ((zup (zup σ 1 t 0 (σ 1 u 0)) 1 t 1 ((zup σ 1 t 0 (σ 1 u 0)) 1 u 1)) 1 u 2)) 1 u 3)) 1 t 4 ((zup (zup (zup (zup σ 1 t 0 (σ 1 u 0)) 1 t 1 ((zup σ 1 t 0 (σ 1 u 0)) 1 u 1)) 1 t 2 ((zup (zup σ 1 t 0 (σ 1 u 0)) 1 t 1 ((zup σ 1 t 0 (σ 1 u 0)) 1 u 1)) 1 u 2)) 1 t 3 ((zup (zup (zup σ 1 t 0 (σ 1 u 0)) 1 t 1 ((zup σ 1 t 0 (σ 1 u 0)) 1 u 1)) 1 t 2 ((zup (zup σ 1 t 0 (σ 1 u 0)) 1 t 1 ((zup σ 1 t 0 (σ 1 u 0)) 1 u 1)) 1 u 2)) 1 u 3)) 1 u 4)) 1 t 5 ((zup (zup (zup (zup (zup σ 1 t 0 (σ 1 u 0)) 1 t 1 ((zup σ 1 t 0 (σ 1 u 0)) 1 u 1)) 1 t 2 ((zup (zup σ 1 t 0 (σ 1 u 0)) 1 t 1 ((zup σ 1 t 0 (σ 1 u 0)) 1 u 1)) 1 u 2)) 1 t 3 ((zup (zup (zup σ 1 t 0 (σ 1 u 0)) 1 t 1 ((zup σ 1 t 0 (σ 1 u 0)) 1 u 1)) 1 t 2 ((zup (zup σ 1 t 0 (σ 1 u 0)) 1 t 1 ((zup σ 1 t 0 (σ 1 u 0)) 1 u 1)) 1 u 2)) 1 u 3)) 1 t 4 ((zup (zup (zup (zup σ 1 t 0 (σ 1 u 0)) 1 t 1 ((zup σ 1 t 0 (σ 1 u 0)) 1 u 1)) 1 t 2 ((zup (zup σ 1 t 0 (σ 1 u 0)) 1 t 1 ((zup σ 1 t 0 (σ 1 u 0)) 1 u 1)) 1 u 2)) 1 t 3 ((zup (zup (zup σ 1 t 0 (σ 1 u 0)) 1 t 1 ((zup σ 1 t 0 (σ 1 u 0)) 1 u 1)) 1 t 2 ((zup (zup σ 1 t 0 (σ 1 u 0)) 1 t 1 ((zup σ 1 t 0 (σ 1 u 0)) 1 u 1)) 1 u 2)) 1 u 3)) 1 u 4)) 1 u 5)) 1 t 6 ((zup (zup (zup (zup (zup (zup σ 1 t 0 (σ 1 u 0)) 1 t 1 ((zup σ 1 t 0 (σ 1 u 0)) 1 u 1)) 1 t 2 ((zup (zup σ 1 t 0 (σ 1 u 0)) 1 t 1 ((zup σ 1 t 0 (σ 1 u 0)) 1 u 1)) 1 u 2)) 1 t 3 ((zup (zup (zup σ 1 t 0 (σ 1 u 0)) 1 t 1 ((zup σ 1 t 0 (σ 1 u 0)) 1 u 1)) 1 t 2 ((zup (zup σ 1 t 0 (σ 1 u 0)) 1 t 1 ((zup σ 1 t 0 (σ 1 u 0)) 1 u 1)) 1 u 2)) 1 u 3)) 1 t 4 ((zup (zup (zup (zup σ 1 t 0 (σ 1 u 0)) 1 t 1 ((zup σ 1 t 0 (σ 1 u 0)) 1 u 1)) 1 t 2 ((zup (zup σ 1 t 0 (σ 1 u 0)) 1 t 1 ((zup σ 1 t 0 (σ 1 u 0)) 1 u 1)) 1 u 2)) 1 t 3 ((zup (zup (zup σ 1 t 0 (σ 1 u 0)) 1 t 1 ((zup σ 1 t 0 (σ 1 u 0)) 1 u 1)) 1 t 2 ((zup (zup σ 1 t 0 (σ 1 u 0)) 1 t 1 ((zup σ 1 t 0 (σ 1 u 0)) 1 u 1)) 1 u 2)) 1 u 3)) 1 u 4)) 1 t 5 ((zup (zup (zup (zup (zup σ 1 t 0 (σ 1 u 0)) 1 t 1 ((zup σ 1 t 0 (σ 1 u 0)) 1 u 1)) 1 t 2 ((zup (zup σ 1 t 0 (σ 1 u 0)) 1 t 1 ((zup σ 1 t 0 (σ 1 u 0)) 1 u 1)) 1 u 2)) 1 t 3 ((zup (zup (zup σ 1 t 0 (σ 1 u 0)) 1 t 1 ((zup σ 1 t 0 (σ 1 u 0)) 1 u 1)) 1 t 2 ((zup (zup σ 1 t 0 (σ 1 u 0)) 1 t 1 ((zup σ 1 t 0 (σ 1 u 0)) 1 u 1)) 1 u 2)) 1 u 3)) 1 t 4 ((zup (zup (zup (zup σ 1 t 0 (σ 1 u 0)) 1 t 1 ((zup σ 1 t 0 (σ 1 u 0)) 1 u 1)) 1 t 2 ((zup (zup σ 1 t 0 (σ 1 u 0)) 1 t 1 ((zup σ 1 t 0 (σ 1 u 0)) 1 u 1)) 1 u 2)) 1 t 3 ((zup (zup (zup σ 1 t 0 (σ 1 u 0)) 1 t 1 ((zup σ 1 t 0 (σ 1 u 0)) 1 u 1)) 1 t 2 ((zup (zup σ 1 t 0 (σ 1 u 0)) 1 t 1 ((zup σ 1 t 0 (σ 1 u 0)) 1 u 1)) 1 u 2)) 1 u 3)) 1 u 4)) 1 u 5)) 1 u 6)) → ∀ σ2 : Hp, σ2 = (zcpy (zcpy (zcpy (zcpy σ1 2 u 2 t 14) 3 u 3 t 14) 4 u 4 t 14) 5 u 5 t 14) → ∀ σ3 : Hp, σ3 = (zcpy (zcpy (zcpy (zcpy (zcpy σ2 6 u 6 t 8) 7 u 7 t 8) 8 u 8 t 8) 9 u 9 t 8) 10 u 10 t 10) → Q none (zcpy σ3 11 u 11 t 4)) : Runs 1 mX6_takeFrom 0 [zR 1 t, zR 1 u] [] σ Q := by
  refine r_blk [qO (.aload_n 0), qO (.aload_n 1), qF (.getfield 9) 6 0, qF (.putfield 9) 6 0, qO (.aload_n 0), qO (.aload_n 1), qF (.getfield 46) 6 1, qF (.putfield 46) 6 1, qO (.aload_n 0), qO (.aload_n 1), qF (.getfield 49) 6 2, qF (.putfield 49) 6 2, qO (.aload_n 0), qO (.aload_n 1), qF (.getfield 52) 6 3, qF (.putfield 52) 6 3, qO (.aload_n 0), qO (.aload_n 1), qF (.getfield 55) 6 4, qF (.putfield 55) 6 4, qO (.aload_n 0), qO (.aload_n 1), qF (.getfield 58) 6 5, qF (.putfield 58) 6 5, qO (.aload_n 0), qO (.aload_n 1), qF (.getfield 61) 6 6, qF (.putfield 61) 6 6, qO (.aload_n 1), qF (.getfield 15) 6 7, qO (.iconst 0), qO (.aload_n 0), qF (.getfield 15) 6 7, qO (.iconst 0), qO (.bipush 14)] (pc' := 68) (L' := [zR 1 t, zR 1 u]) (S' := [zI 14, zI 0, zR 2 t, zI 0, zR 2 u]) (σ' := (zup (zup (zup (zup (zup (zup (zup σ 1 t 0 (σ 1 u 0)) 1 t 1 ((zup σ 1 t 0 (σ 1 u 0)) 1 u 1)) 1 t 2 ((zup (zup σ 1 t 0 (σ 1 u 0)) 1 t 1 ((zup σ 1 t 0 (σ 1 u 0)) 1 u 1)) 1 u 2)) 1 t 3 ((zup (zup (zup σ 1 t 0 (σ 1 u 0)) 1 t 1 ((zup σ 1 t 0 (σ 1 u 0)) 1 u 1)) 1 t 2 ((zup (zup σ 1 t 0 (σ 1 u 0)) 1 t 1 ((zup σ 1 t 0 (σ 1 u 0)) 1 u 1)) 1 u 2)) 1 u 3)) 1 t 4 ((zup (zup (zup (zup σ 1 t 0 (σ 1 u 0)) 1 t 1 ((zup σ 1 t 0 (σ 1 u 0)) 1 u 1)) 1 t 2 ((zup (zup σ 1 t 0 (σ 1 u 0)) 1 t 1 ((zup σ 1 t 0 (σ 1 u 0)) 1 u 1)) 1 u 2)) 1 t 3 ((zup (zup (zup σ 1 t 0 (σ 1 u 0)) 1 t 1 ((zup σ 1 t 0 (σ 1 u 0)) 1 u 1)) 1 t 2 ((zup (zup σ 1 t 0 (σ 1 u 0)) 1 t 1 ((zup σ 1 t 0 (σ 1 u 0)) 1 u 1)) 1 u 2)) 1 u 3)) 1 u 4)) 1 t 5 ((zup (zup (zup (zup (zup σ 1 t 0 (σ 1 u 0)) 1 t 1 ((zup σ 1 t 0 (σ 1 u 0)) 1 u 1)) 1 t 2 ((zup (zup σ 1 t 0 (σ 1 u 0)) 1 t 1 ((zup σ 1 t 0 (σ 1 u 0)) 1 u 1)) 1 u 2)) 1 t 3 ((zup (zup (zup σ 1 t 0 (σ 1 u 0)) 1 t 1 ((zup σ 1 t 0 (σ 1 u 0)) 1 u 1)) 1 t 2 ((zup (zup σ 1 t 0 (σ 1 u 0)) 1 t 1 ((zup σ 1 t 0 (σ 1 u 0)) 1 u 1)) 1 u 2)) 1 u 3)) 1 t 4 ((zup (zup (zup (zup σ 1 t 0 (σ 1 u 0)) 1 t 1 ((zup σ 1 t 0 (σ 1 u 0)) 1 u 1)) 1 t 2 ((zup (zup σ 1 t 0 (σ 1 u 0)) 1 t 1 ((zup σ 1 t 0 (σ 1 u 0)) 1 u 1)) 1 u 2)) 1 t 3 ((zup (zup (zup σ 1 t 0 (σ 1 u 0)) 1 t 1 ((zup σ 1 t 0 (σ 1 u 0)) 1 u 1)) 1 t 2 ((zup (zup σ 1 t 0 (σ 1 u 0)) 1 t 1 ((zup σ 1 t 0 (σ 1 u 0)) 1 u 1)) 1 u 2)) 1 u 3)) 1 u 4)) 1 u 5)) 1 t 6 ((zup (zup (zup (zup (zup (zup σ 1 t 0 (σ 1 u 0)) 1 t 1 ((zup σ 1 t 0 (σ 1 u 0)) 1 u 1)) 1 t 2 ((zup (zup σ 1 t 0 (σ 1 u 0)) 1 t 1 ((zup σ 1 t 0 (σ 1 u 0)) 1 u 1)) 1 u 2)) 1 t 3 ((zup (zup (zup σ 1 t 0 (σ 1 u 0)) 1 t 1 ((zup σ 1 t 0 (σ 1 u 0)) 1 u 1)) 1 t 2 ((zup (zup σ 1 t 0 (σ 1 u 0)) 1 t 1 ((zup σ 1 t 0 (σ 1 u 0)) 1 u 1)) 1 u 2)) 1 u 3)) 1 t 4 ((zup (zup (zup (zup σ 1 t 0 (σ 1 u 0)) 1 t 1 ((zup σ 1 t 0 (σ 1 u 0)) 1 u 1)) 1 t 2 ((zup (zup σ 1 t 0 (σ 1 u 0)) 1 t 1 ((zup σ 1 t 0 (σ 1 u 0)) 1 u 1)) 1 u 2)) 1 t 3 ((zup (zup (zup σ 1 t 0 (σ 1 u 0)) 1 t 1 ((zup σ 1 t 0 (σ 1 u 0)) 1 u 1)) 1 t 2 ((zup (zup σ 1 t 0 (σ 1 u 0)) 1 t 1 ((zup σ 1 t 0 (σ 1 u 0)) 1 u 1)) 1 u 2)) 1 u 3)) 1 u 4)) 1 t 5 ((zup (zup (zup (zup (zup σ 1 t 0 (σ 1 u 0)) 1 t 1 ((zup σ 1 t 0 (σ 1 u 0)) 1 u 1)) 1 t 2 ((zup (zup σ 1 t 0 (σ 1 u 0)) 1 t 1 ((zup σ 1 t 0 (σ 1 u 0)) 1 u 1)) 1 u 2)) 1 t 3 ((zup (zup (zup σ 1 t 0 (σ 1 u 0)) 1 t 1 ((zup σ 1 t 0 (σ 1 u 0)) 1 u 1)) 1 t 2 ((zup (zup σ 1 t 0 (σ 1 u 0)) 1 t 1 ((zup σ 1 t 0 (σ 1 u 0)) 1 u 1)) 1 u 2)) 1 u 3)) 1 t 4 ((zup (zup (zup (zup σ 1 t 0 (σ 1 u 0)) 1 t 1 ((zup σ 1 t 0 (σ 1 u 0)) 1 u 1)) 1 t 2 ((zup (zup σ 1 t 0 (σ 1 u 0)) 1 t 1 ((zup σ 1 t 0 (σ 1 u 0)) 1 u 1)) 1 u 2)) 1 t 3 ((zup (zup (zup σ 1 t 0 (σ 1 u 0)) 1 t 1 ((zup σ 1 t 0 (σ 1 u 0)) 1 u 1)) 1 t 2 ((zup (zup σ 1 t 0 (σ 1 u 0)) 1 t 1 ((zup σ 1 t 0 (σ 1 u 0)) 1 u 1)) 1 u 2)) 1 u 3)) 1 u 4)) 1 u 5)) 1 u 6))) (Ps := []) (by decide +kernel) rfl trivial ?_
  generalize hσ1 : (zup (zup (zup (zup (zup (zup (zup σ 1 t 0 (σ 1 u 0)) 1 t 1 ((zup σ 1 t 0 (σ 1 u 0)) 1 u 1)) 1 t 2 ((zup (zup σ 1 t 0 (σ 1 u 0)) 1 t 1 ((zup σ 1 t 0 (σ 1 u 0)) 1 u 1)) 1 u 2)) 1 t 3 ((zup (zup (zup σ 1 t 0 (σ 1 u 0)) 1 t 1 ((zup σ 1 t 0 (σ 1 u 0)) 1 u 1)) 1 t 2 ((zup (zup σ 1 t 0 (σ 1 u 0)) 1 t 1 ((zup σ 1 t 0 (σ 1 u 0)) 1 u 1)) 1 u 2)) 1 u 3)) 1 t 4 ((zup (zup (zup (zup σ 1 t 0 (σ 1 u 0)) 1 t 1 ((zup σ 1 t 0 (σ 1 u 0)) 1 u 1)) 1 t 2 ((zup (zup σ 1 t 0 (σ 1 u 0)) 1 t 1 ((zup σ 1 t 0 (σ 1 u 0)) 1 u 1)) 1 u 2)) 1 t 3 ((zup (zup (zup σ 1 t 0 (σ 1 u 0)) 1 t 1 ((zup σ 1 t 0 (σ 1 u 0)) 1 u 1)) 1 t 2 ((zup (zup σ 1 t 0 (σ 1 u 0)) 1 t 1 ((zup σ 1 t 0 (σ 1 u 0)) 1 u 1)) 1 u 2)) 1 u 3)) 1 u 4)) 1 t 5 ((zup (zup (zup (zup (zup σ 1 t 0 (σ 1 u 0)) 1 t 1 ((zup σ 1 t 0 (σ 1 u 0)) 1 u 1)) 1 t 2 ((zup (zup σ 1 t 0 (σ 1 u 0)) 1 t 1 ((zup σ 1 t 0 (σ 1 u 0)) 1 u 1)) 1 u 2)) 1 t 3 ((zup (zup (zup σ 1 t 0 (σ 1 u 0)) 1 t 1 ((zup σ 1 t 0 (σ 1 u 0)) 1 u 1)) 1 t 2 ((zup (zup σ 1 t 0 (σ 1 u 0)) 1 t 1 ((zup σ 1 t 0 (σ 1 u 0)) 1 u 1)) 1 u 2)) 1 u 3)) 1 t 4 ((zup (zup (zup (zup σ 1 t 0 (σ 1 u 0)) 1 t 1 ((zup σ 1 t 0 (σ 1 u 0)) 1 u 1)) 1 t 2 ((zup (zup σ 1 t 0 (σ 1 u 0)) 1 t 1 ((zup σ 1 t 0 (σ 1 u 0)) 1 u 1)) 1 u 2)) 1 t 3 ((zup (zup (zup σ 1 t 0 (σ 1 u 0)) 1 t 1 ((zup σ 1 t 0 (σ 1 u 0)) 1 u 1)) 1 t 2 ((zup (zup σ 1 t 0 (σ 1 u 0)) 1 t 1 ((zup σ 1 t 0 (σ 1 u 0)) 1 u 1)) 1 u 2)) 1 u 3)) 1 u 4)) 1 u 5)) 1 t 6 ((zup (zup (zup (zup (zup (zup σ 1 t 0 (σ 1 u 0)) 1 t 1 ((zup σ 1 t 0 (σ 1 u 0)) 1 u 1)) 1 t 2 ((zup (zup σ 1 t 0 (σ 1 u 0)) 1 t 1 ((zup σ 1 t 0 (σ 1 u 0)) 1 u 1)) 1 u 2)) 1 t 3 ((zup (zup (zup σ 1 t 0 (σ 1 u 0)) 1 t 1 ((zup σ 1 t 0 (σ 1 u 0)) 1 u 1)) 1 t 2 ((zup (zup σ 1 t 0 (σ 1 u 0)) 1 t 1 ((zup σ 1 t 0 (σ 1 u 0)) 1 u 1)) 1 u 2)) 1 u 3)) 1 t 4 ((zup (zup (zup (zup σ 1 t 0 (σ 1 u 0)) 1 t 1 ((zup σ 1 t 0 (σ 1 u 0)) 1 u 1)) 1 t 2 ((zup (zup σ 1 t 0 (σ 1 u 0)) 1 t 1 ((zup σ 1 t 0 (σ 1 u 0)) 1 u 1)) 1 u 2)) 1 t 3 ((zup (zup (zup σ 1 t 0 (σ 1 u 0)) 1 t 1 ((zup σ 1 t 0 (σ 1 u 0)) 1 u 1)) 1 t 2 ((zup (zup σ 1 t 0 (σ 1 u 0)) 1 t 1 ((zup σ 1 t 0 (σ 1 u 0)) 1 u 1)) 1 u 2)) 1 u 3)) 1 u 4)) 1 t 5 ((zup (zup (zup (zup (zup σ 1 t 0 (σ 1 u 0)) 1 t 1 ((zup σ 1 t 0 (σ 1 u 0)) 1 u 1)) 1 t 2 ((zup (zup σ 1 t 0 (σ 1 u 0)) 1 t 1 ((zup σ 1 t 0 (σ 1 u 0)) 1 u 1)) 1 u 2)) 1 t 3 ((zup (zup (zup σ 1 t 0 (σ 1 u 0)) 1 t 1 ((zup σ 1 t 0 (σ 1 u 0)) 1 u 1)) 1 t 2 ((zup (zup σ 1 t 0 (σ 1 u 0)) 1 t 1 ((zup σ 1 t 0 (σ 1 u 0)) 1 u 1)) 1 u 2)) 1 u 3)) 1 t 4 ((zup (zup (zup (zup σ 1 t 0 (σ 1 u 0)) 1 t 1 ((zup σ 1 t 0 (σ 1 u 0)) 1 u 1)) 1 t 2 ((zup (zup σ 1 t 0 (σ 1 u 0)) 1 t 1 ((zup σ 1 t 0 (σ 1 u 0)) 1 u 1)) 1 u 2)) 1 t 3 ((zup (zup (zup σ 1 t 0 (σ 1 u 0)) 1 t 1 ((zup σ 1 t 0 (σ 1 u 0)) 1 u 1)) 1 t 2 ((zup (zup σ 1 t 0 (σ 1 u 0)) 1 t 1 ((zup σ 1 t 0 (σ 1 u 0)) 1 u 1)) 1 u 2)) 1 u 3)) 1 u 4)) 1 u 5)) 1 u 6)) = σ1
  replace h := h σ1 hσ1.symm
  refine r_copy (gs := 2) (xs := u) (gd := 2) (xd := t) (n := 14) lkX6_64 (by decide +kernel) (by decide) rfl rfl (by decide) (Nat.le_of_ble_eq_true rfl) (hne u t) ?_
  refine r_blk [qO (.aload_n 1), qF (.getfield 19) 6 8, qO (.iconst 0), qO (.aload_n 0), qF (.getfield 19) 6 8, qO (.iconst 0), qO (.bipush 14)] (pc' := 83) (L' := [zR 1 t, zR 1 u]) (S' := [zI 14, zI 0, zR 3 t, zI 0, zR 3 u]) (σ' := (zcpy σ1 2 u 2 t 14)) (Ps := []) (by decide +kernel) rfl trivial ?_
  refine r_copy (gs := 3) (xs := u) (gd := 3) (xd := t) (n := 14) lkX6_64 (by decide +kernel) (by decide) rfl rfl (by decide) (Nat.le_of_ble_eq_true rfl) (hne u t) ?_
  refine r_blk [qO (.aload_n 1), qF (.getfield 22) 6 9, qO (.iconst 0), qO (.aload_n 0), qF (.getfield 22) 6 9, qO (.iconst 0), qO (.bipush 14)] (pc' := 98) (L' := [zR 1 t, zR 1 u]) (S' := [zI 14, zI 0, zR 4 t, zI 0, zR 4 u]) (σ' := (zcpy (zcpy σ1 2 u 2 t 14) 3 u 3 t 14)) (Ps := []) (by decide +kernel) rfl trivial ?_
  refine r_copy (gs := 4) (xs := u) (gd := 4) (xd := t) (n := 14) lkX6_64 (by decide +kernel) (by decide) rfl rfl (by decide) (Nat.le_of_ble_eq_true rfl) (hne u t) ?_
  refine r_blk [qO (.aload_n 1), qF (.getfield 25) 6 10, qO (.iconst 0), qO (.aload_n 0), qF (.getfield 25) 6 10, qO (.iconst 0), qO (.bipush 14)] (pc' := 113) (L' := [zR 1 t, zR 1 u]) (S' := [zI 14, zI 0, zR 5 t, zI 0, zR 5 u]) (σ' := (zcpy (zcpy (zcpy σ1 2 u 2 t 14) 3 u 3 t 14) 4 u 4 t 14)) (Ps := []) (by decide +kernel) rfl trivial ?_
  refine r_copy (gs := 5) (xs := u) (gd := 5) (xd := t) (n := 14) lkX6_64 (by decide +kernel) (by decide) rfl rfl (by decide) (Nat.le_of_ble_eq_true rfl) (hne u t) ?_
  refine r_blk [qO (.aload_n 1), qF (.getfield 28) 6 11, qO (.iconst 0), qO (.aload_n 0), qF (.getfield 28) 6 11, qO (.iconst 0), qO (.bipush 8)] (pc' := 128) (L' := [zR 1 t, zR 1 u]) (S' := [zI 8, zI 0, zR 6 t, zI 0, zR 6 u]) (σ' := (zcpy (zcpy (zcpy (zcpy σ1 2 u 2 t 14) 3 u 3 t 14) 4 u 4 t 14) 5 u 5 t 14)) (Ps := []) (by decide +kernel) rfl trivial ?_
  generalize hσ2 : (zcpy (zcpy (zcpy (zcpy σ1 2 u 2 t 14) 3 u 3 t 14) 4 u 4 t 14) 5 u 5 t 14) = σ2
  replace h := h σ2 hσ2.symm
  refine r_copy (gs := 6) (xs := u) (gd := 6) (xd := t) (n := 8) lkX6_64 (by decide +kernel) (by decide) rfl rfl (by decide) (Nat.le_of_ble_eq_true rfl) (hne u t) ?_
  refine r_blk [qO (.aload_n 1), qF (.getfield 31) 6 12, qO (.iconst 0), qO (.aload_n 0), qF (.getfield 31) 6 12, qO (.iconst 0), qO (.bipush 8)] (pc' := 143) (L' := [zR 1 t, zR 1 u]) (S' := [zI 8, zI 0, zR 7 t, zI 0, zR 7 u]) (σ' := (zcpy σ2 6 u 6 t 8)) (Ps := []) (by decide +kernel) rfl trivial ?_
  refine r_copy (gs := 7) (xs := u) (gd := 7) (xd := t) (n := 8) lkX6_64 (by decide +kernel) (by decide) rfl rfl (by decide) (Nat.le_of_ble_eq_true rfl) (hne u t) ?_
  refine r_blk [qO (.aload_n 1), qF (.getfield 34) 6 13, qO (.iconst 0), qO (.aload_n 0), qF (.getfield 34) 6 13, qO (.iconst 0), qO (.bipush 8)] (pc' := 158) (L' := [zR 1 t, zR 1 u]) (S' := [zI 8, zI 0, zR 8 t, zI 0, zR 8 u]) (σ' := (zcpy (zcpy σ2 6 u 6 t 8) 7 u 7 t 8)) (Ps := []) (by decide +kernel) rfl trivial ?_
  refine r_copy (gs := 8) (xs := u) (gd := 8) (xd := t) (n := 8) lkX6_64 (by decide +kernel) (by decide) rfl rfl (by decide) (Nat.le_of_ble_eq_true rfl) (hne u t) ?_
  refine r_blk [qO (.aload_n 1), qF (.getfield 37) 6 14, qO (.iconst 0), qO (.aload_n 0), qF (.getfield 37) 6 14, qO (.iconst 0), qO (.bipush 8)] (pc' := 173) (L' := [zR 1 t, zR 1 u]) (S' := [zI 8, zI 0, zR 9 t, zI 0, zR 9 u]) (σ' := (zcpy (zcpy (zcpy σ2 6 u 6 t 8) 7 u 7 t 8) 8 u 8 t 8)) (Ps := []) (by decide +kernel) rfl trivial ?_
  refine r_copy (gs := 9) (xs := u) (gd := 9) (xd := t) (n := 8) lkX6_64 (by decide +kernel) (by decide) rfl rfl (by decide) (Nat.le_of_ble_eq_true rfl) (hne u t) ?_
  refine r_blk [qO (.aload_n 1), qF (.getfield 40) 6 15, qO (.iconst 0), qO (.aload_n 0), qF (.getfield 40) 6 15, qO (.iconst 0), qO (.bipush 10)] (pc' := 188) (L' := [zR 1 t, zR 1 u]) (S' := [zI 10, zI 0, zR 10 t, zI 0, zR 10 u]) (σ' := (zcpy (zcpy (zcpy (zcpy σ2 6 u 6 t 8) 7 u 7 t 8) 8 u 8 t 8) 9 u 9 t 8)) (Ps := []) (by decide +kernel) rfl trivial ?_
  refine r_copy (gs := 10) (xs := u) (gd := 10) (xd := t) (n := 10) lkX6_64 (by decide +kernel) (by decide) rfl rfl (by decide) (Nat.le_of_ble_eq_true rfl) (hne u t) ?_
  refine r_blk [qO (.aload_n 1), qF (.getfield 43) 6 16, qO (.iconst 0), qO (.aload_n 0), qF (.getfield 43) 6 16, qO (.iconst 0), qO (.iconst 4)] (pc' := 202) (L' := [zR 1 t, zR 1 u]) (S' := [zI 4, zI 0, zR 11 t, zI 0, zR 11 u]) (σ' := (zcpy (zcpy (zcpy (zcpy (zcpy σ2 6 u 6 t 8) 7 u 7 t 8) 8 u 8 t 8) 9 u 9 t 8) 10 u 10 t 10)) (Ps := []) (by decide +kernel) rfl trivial ?_
  generalize hσ3 : (zcpy (zcpy (zcpy (zcpy (zcpy σ2 6 u 6 t 8) 7 u 7 t 8) 8 u 8 t 8) 9 u 9 t 8) 10 u 10 t 10) = σ3
  replace h := h σ3 hσ3.symm
  refine r_copy (gs := 11) (xs := u) (gd := 11) (xd := t) (n := 4) lkX6_64 (by decide +kernel) (by decide) rfl rfl (by decide) (Nat.le_of_ble_eq_true rfl) (hne u t) ?_
  exact r_retv (by decide +kernel) rfl h
theorem gX6_hasCorner_0 (a0 : Int) (t : Nat) (σ : Hp) {Q : Option Int → Hp → Prop} (h : ((a0 < 0 → Q (some 0) σ) ∧ (¬ a0 < 0 → ((σ 1 t 0 ≤ a0 → Q (some 0) σ) ∧ (¬ σ 1 t 0 ≤ a0 → Q (some 1) σ))))) : Runs 0 mX6_hasCorner 0 [zR 1 t, zI a0] [] σ Q := by
  refine r_blk [qO (.iload_n 1)] (pc' := 1) (L' := [zR 1 t, zI a0]) (S' := [zI a0]) (σ' := σ) (Ps := []) (by decide +kernel) rfl trivial ?_
  refine r_if_lt (off := 15) (tgt := 16) (by decide +kernel) (by decide) (fun c => ?_) (fun c => ?_)
  · replace h := h.1 c
    refine r_blk [qO (.iconst 0)] (pc' := 17) (L' := [zR 1 t, zI a0]) (S' := [zI 0]) (σ' := σ) (Ps := []) (by decide +kernel) rfl trivial ?_
    exact r_retz (by decide +kernel) rfl (by decide) h
  · replace h := h.2 c
    refine r_blk [qO (.iload_n 1), qO (.aload_n 0), qF (.getfield 9) 6 0] (pc' := 9) (L' := [zR 1 t, zI a0]) (S' := [zI (σ 1 t 0), zI a0]) (σ' := σ) (Ps := []) (by decide +kernel) rfl trivial ?_
    refine r_icmp_ge (off := 7) (tgt := 16) (by decide +kernel) (by decide) (fun c => ?_) (fun c => ?_)
    · replace h := h.1 c
      refine r_blk [qO (.iconst 0)] (pc' := 17) (L' := [zR 1 t, zI a0]) (S' := [zI 0]) (σ' := σ) (Ps := []) (by decide +kernel) rfl trivial ?_
      exact r_retz (by decide +kernel) rfl (by decide) h
    · replace h := h.2 c
      refine r_blk [qO (.iconst 1), qO (.goto 4)] (pc' := 17) (L' := [zR 1 t, zI a0]) (S' := [zI 1]) (σ' := σ) (Ps := []) (by decide +kernel) rfl trivial ?_
      exact r_retz (by decide +kernel) rfl (by decide) h
theorem gX6_hasStreet_0 (a0 : Int) (t : Nat) (σ : Hp) {Q : Option Int → Hp → Prop} (h : ((a0 < 0 → Q (some 0) σ) ∧ (¬ a0 < 0 → ((σ 1 t 1 ≤ a0 → Q (some 0) σ) ∧ (¬ σ 1 t 1 ≤ a0 → Q (some 1) σ))))) : Runs 0 mX6_hasStreet 0 [zR 1 t, zI a0] [] σ Q := by
  refine r_blk [qO (.iload_n 1)] (pc' := 1) (L' := [zR 1 t, zI a0]) (S' := [zI a0]) (σ' := σ) (Ps := []) (by decide +kernel) rfl trivial ?_
  refine r_if_lt (off := 15) (tgt := 16) (by decide +kernel) (by decide) (fun c => ?_) (fun c => ?_)
  · replace h := h.1 c
    refine r_blk [qO (.iconst 0)] (pc' := 17) (L' := [zR 1 t, zI a0]) (S' := [zI 0]) (σ' := σ) (Ps := []) (by decide +kernel) rfl trivial ?_
    exact r_retz (by decide +kernel) rfl (by decide) h
  · replace h := h.2 c
    refine r_blk [qO (.iload_n 1), qO (.aload_n 0), qF (.getfield 46) 6 1] (pc' := 9) (L' := [zR 1 t, zI a0]) (S' := [zI (σ 1 t 1), zI a0]) (σ' := σ) (Ps := []) (by decide +kernel) rfl trivial ?_
    refine r_icmp_ge (off := 7) (tgt := 16) (by decide +kernel) (by decide) (fun c => ?_) (fun c => ?_)
    · replace h := h.1 c
      refine r_blk [qO (.iconst 0)] (pc' := 17) (L' := [zR 1 t, zI a0]) (S' := [zI 0]) (σ' := σ) (Ps := []) (by decide +kernel) rfl trivial ?_
      exact r_retz (by decide +kernel) rfl (by decide) h
    · replace h := h.2 c
      refine r_blk [qO (.iconst 1), qO (.goto 4)] (pc' := 17) (L' := [zR 1 t, zI a0]) (S' := [zI 1]) (σ' := σ) (Ps := []) (by decide +kernel) rfl trivial ?_
      exact r_retz (by decide +kernel) rfl (by decide) h
theorem gX6_hasErrand_0 (a0 : Int) (t : Nat) (σ : Hp) {Q : Option Int → Hp → Prop} (h : ((a0 < 0 → Q (some 0) σ) ∧ (¬ a0 < 0 → ((σ 1 t 2 ≤ a0 → Q (some 0) σ) ∧ (¬ σ 1 t 2 ≤ a0 → Q (some 1) σ))))) : Runs 0 mX6_hasErrand 0 [zR 1 t, zI a0] [] σ Q := by
  refine r_blk [qO (.iload_n 1)] (pc' := 1) (L' := [zR 1 t, zI a0]) (S' := [zI a0]) (σ' := σ) (Ps := []) (by decide +kernel) rfl trivial ?_
  refine r_if_lt (off := 15) (tgt := 16) (by decide +kernel) (by decide) (fun c => ?_) (fun c => ?_)
  · replace h := h.1 c
    refine r_blk [qO (.iconst 0)] (pc' := 17) (L' := [zR 1 t, zI a0]) (S' := [zI 0]) (σ' := σ) (Ps := []) (by decide +kernel) rfl trivial ?_
    exact r_retz (by decide +kernel) rfl (by decide) h
  · replace h := h.2 c
    refine r_blk [qO (.iload_n 1), qO (.aload_n 0), qF (.getfield 49) 6 2] (pc' := 9) (L' := [zR 1 t, zI a0]) (S' := [zI (σ 1 t 2), zI a0]) (σ' := σ) (Ps := []) (by decide +kernel) rfl trivial ?_
    refine r_icmp_ge (off := 7) (tgt := 16) (by decide +kernel) (by decide) (fun c => ?_) (fun c => ?_)
    · replace h := h.1 c
      refine r_blk [qO (.iconst 0)] (pc' := 17) (L' := [zR 1 t, zI a0]) (S' := [zI 0]) (σ' := σ) (Ps := []) (by decide +kernel) rfl trivial ?_
      exact r_retz (by decide +kernel) rfl (by decide) h
    · replace h := h.2 c
      refine r_blk [qO (.iconst 1), qO (.goto 4)] (pc' := 17) (L' := [zR 1 t, zI a0]) (S' := [zI 1]) (σ' := σ) (Ps := []) (by decide +kernel) rfl trivial ?_
      exact r_retz (by decide +kernel) rfl (by decide) h
theorem gX6_tellCorners_0 (a0 : Int) (t : Nat) (σ : Hp) {Q : Option Int → Hp → Prop} (h : ((a0 < 2 → Q (some 0) σ) ∧ (¬ a0 < 2 → ((10 < a0 → Q (some 0) σ) ∧ (¬ 10 < a0 → Runs 1 mX6_cornersToldOf 0 [zR 1 t, zU, zU] [] σ (rI (fun z2 σ1 => ((z2 ≤ a0 → Q (some 1) (zup σ1 1 t 0 a0)) ∧ (¬ z2 ≤ a0 → Q (some 0) σ1))))))))) : Runs 2 mX6_tellCorners 0 [zR 1 t, zI a0] [] σ Q := by
  refine r_blk [qO (.iload_n 1), qO (.iconst 2)] (pc' := 2) (L' := [zR 1 t, zI a0]) (S' := [zI 2, zI a0]) (σ' := σ) (Ps := []) (by decide +kernel) rfl trivial ?_
  refine r_icmp_lt (off := 17) (tgt := 19) (by decide +kernel) (by decide) (fun c => ?_) (fun c => ?_)
  · replace h := h.1 c
    refine r_blk [qO (.iconst 0)] (pc' := 20) (L' := [zR 1 t, zI a0]) (S' := [zI 0]) (σ' := σ) (Ps := []) (by decide +kernel) rfl trivial ?_
    exact r_retz (by decide +kernel) rfl (by decide) h
  · replace h := h.2 c
    refine r_blk [qO (.iload_n 1), qO (.bipush 10)] (pc' := 8) (L' := [zR 1 t, zI a0]) (S' := [zI 10, zI a0]) (σ' := σ) (Ps := []) (by decide +kernel) rfl trivial ?_
    refine r_icmp_gt (off := 11) (tgt := 19) (by decide +kernel) (by decide) (fun c => ?_) (fun c => ?_)
    · replace h := h.1 c
      refine r_blk [qO (.iconst 0)] (pc' := 20) (L' := [zR 1 t, zI a0]) (S' := [zI 0]) (σ' := σ) (Ps := []) (by decide +kernel) rfl trivial ?_
      exact r_retz (by decide +kernel) rfl (by decide) h
    · replace h := h.2 c
      refine r_blk [qO (.iload_n 1), qO (.aload_n 0)] (pc' := 13) (L' := [zR 1 t, zI a0]) (S' := [zR 1 t, zI a0]) (σ' := σ) (Ps := []) (by decide +kernel) rfl trivial ?_
      refine r_callVI (As := []) (S := [zI a0]) (Lc := [zR 1 t, zU, zU]) (d' := 1) (n := 0) (g := 1) (x := t) (ci := 6) kX6_cornersToldOf vX6_cornersToldOf lkX6_70 (by decide +kernel) (by decide) rfl rfl (by decide) rfl rfl (Nat.le_of_ble_eq_true rfl) rfl rfl (Nat.le_of_ble_eq_true rfl) (h.monoI (fun z2 σ1 h => ?_))
      refine r_icmp_ge (off := 5) (tgt := 21) (by decide +kernel) (by decide) (fun c => ?_) (fun c => ?_)
      · replace h := h.1 c
        refine r_blk [qO (.aload_n 0), qO (.iload_n 1), qF (.putfield 9) 6 0, qO (.iconst 1)] (pc' := 27) (L' := [zR 1 t, zI a0]) (S' := [zI 1]) (σ' := (zup σ1 1 t 0 a0)) (Ps := []) (by decide +kernel) rfl trivial ?_
        exact r_retz (by decide +kernel) rfl (by decide) h
      · replace h := h.2 c
        refine r_blk [qO (.iconst 0)] (pc' := 20) (L' := [zR 1 t, zI a0]) (S' := [zI 0]) (σ' := σ1) (Ps := []) (by decide +kernel) rfl trivial ?_
        exact r_retz (by decide +kernel) rfl (by decide) h
theorem gX6_cornersToldOf_0 (t : Nat) (σ : Hp) {Q : Option Int → Hp → Prop} (h : Runs 1 mX6_cornersToldOf 4 [zR 1 t, zI (-1), zI 0] [] σ Q) : Runs 1 mX6_cornersToldOf 0 [zR 1 t, zU, zU] [] σ Q := by
  refine r_blk [qO (.iconst (-1)), qO (.istore_n 1), qO (.iconst 0), qO (.istore_n 2)] (pc' := 4) (L' := [zR 1 t, zI (-1), zI 0]) (S' := []) (σ' := σ) (Ps := []) (by decide +kernel) rfl trivial ?_
  exact Runs.fg (fgE (fgE (fgE fg0))) h
theorem gX6_cornersToldOf_4 (l1 : Int) (l2 : Int) (t : Nat) (σ : Hp) {Q : Option Int → Hp → Prop} (h : ((σ 1 t 1 ≤ l2 → Runs 1 mX6_cornersToldOf 40 [zR 1 t, zI l1, zI 0] [] σ Q) ∧ (¬ σ 1 t 1 ≤ l2 → (0 ≤ l2 ∧ l2 < 14) ∧ (0 ≤ l2 ∧ l2 < 14) ∧ ∀ z1 : Int, z1 = (if σ 2 t l2.toNat < σ 3 t l2.toNat then σ 3 t l2.toNat else σ 2 t l2.toNat) → (-2147483648 ≤ l2 + 1 ∧ l2 + 1 ≤ 2147483647) ∧ Runs 1 mX6_cornersToldOf 4 [zR 1 t, zI (if l1 < z1 then z1 else l1), zI (l2 + 1)] [] σ Q))) : Runs 1 mX6_cornersToldOf 4 [zR 1 t, zI l1, zI l2] [] σ Q := by
  refine r_blk [qO (.iload_n 2), qO (.aload_n 0), qF (.getfield 46) 6 1] (pc' := 9) (L' := [zR 1 t, zI l1, zI l2]) (S' := [zI (σ 1 t 1), zI l2]) (σ' := σ) (Ps := []) (by decide +kernel) rfl trivial ?_
  refine r_icmp_ge (off := 29) (tgt := 38) (by decide +kernel) (by decide) (fun c => ?_) (fun c => ?_)
  · replace h := h.1 c
    refine r_blk [qO (.iconst 0), qO (.istore_n 2)] (pc' := 40) (L' := [zR 1 t, zI l1, zI 0]) (S' := []) (σ' := σ) (Ps := []) (by decide +kernel) rfl trivial ?_
    exact Runs.fg (fgE (fgE (fgE fg0))) h
  · replace h := h.2 c
    refine r_blk [qO (.iload_n 1), qO (.aload_n 0), qF (.getfield 15) 6 7, qO (.iload_n 2), qO .iaload, qO (.aload_n 0), qF (.getfield 19) 6 8, qO (.iload_n 2), qO .iaload] (pc' := 25) (L' := [zR 1 t, zI l1, zI l2]) (S' := [zI (σ 3 t l2.toNat), zI (σ 2 t l2.toNat), zI l1]) (σ' := σ) (Ps := [0 ≤ l2 ∧ l2 < 14, 0 ≤ l2 ∧ l2 < 14]) (by decide +kernel) rfl ⟨h.1, h.2.1, trivial⟩ ?_
    replace h := h.2.2
    refine r_max lkX6_74 (by decide +kernel) (by decide) (Nat.le_of_ble_eq_true rfl) ?_
    generalize hz1 : (if σ 2 t l2.toNat < σ 3 t l2.toNat then σ 3 t l2.toNat else σ 2 t l2.toNat) = z1
    replace h := h z1 hz1.symm
    refine r_max lkX6_74 (by decide +kernel) (by decide) (Nat.le_of_ble_eq_true rfl) ?_
    refine r_blk [qO (.istore_n 1), qO (.iinc 2 1), qO (.goto (-31))] (pc' := 4) (L' := [zR 1 t, zI (if l1 < z1 then z1 else l1), zI (l2 + 1)]) (S' := []) (σ' := σ) (Ps := [-2147483648 ≤ l2 + 1 ∧ l2 + 1 ≤ 2147483647]) (by decide +kernel) rfl ⟨h.1, trivial⟩ ?_
    replace h := h.2
    exact Runs.fg (fgE (fgE (fgE fg0))) h
theorem gX6_cornersToldOf_40 (l1 : Int) (l2 : Int) (t : Nat) (σ : Hp) {Q : Option Int → Hp → Prop} (h : ((σ 1 t 2 ≤ l2 → (-2147483648 ≤ l1 + 1 ∧ l1 + 1 ≤ 2147483647) ∧ Q (some (l1 + 1)) σ) ∧ (¬ σ 1 t 2 ≤ l2 → (0 ≤ l2 ∧ l2 < 8) ∧ (0 ≤ l2 ∧ l2 < 8) ∧ ∀ z1 : Int, z1 = (if σ 6 t l2.toNat < σ 7 t l2.toNat then σ 7 t l2.toNat else σ 6 t l2.toNat) → (-2147483648 ≤ l2 + 1 ∧ l2 + 1 ≤ 2147483647) ∧ Runs 1 mX6_cornersToldOf 40 [zR 1 t, zI (if l1 < z1 then z1 else l1), zI (l2 + 1)] [] σ Q))) : Runs 1 mX6_cornersToldOf 40 [zR 1 t, zI l1, zI l2] [] σ Q := by
  refine r_blk [qO (.iload_n 2), qO (.aload_n 0), qF (.getfield 49) 6 2] (pc' := 45) (L' := [zR 1 t, zI l1, zI l2]) (S' := [zI (σ 1 t 2), zI l2]) (σ' := σ) (Ps := []) (by decide +kernel) rfl trivial ?_
  refine r_icmp_ge (off := 29) (tgt := 74) (by decide +kernel) (by decide) (fun c => ?_) (fun c => ?_)
  · replace h := h.1 c
    refine r_blk [qO (.iload_n 1), qO (.iconst 1), qO .iadd] (pc' := 77) (L' := [zR 1 t, zI l1, zI l2]) (S' := [zI (l1 + 1)]) (σ' := σ) (Ps := [-2147483648 ≤ l1 + 1 ∧ l1 + 1 ≤ 2147483647]) (by decide +kernel) rfl ⟨h.1, trivial⟩ ?_
    replace h := h.2
    exact r_ret (by decide +kernel) rfl (fun _ => h)
  · replace h := h.2 c
    refine r_blk [qO (.iload_n 1), qO (.aload_n 0), qF (.getfield 28) 6 11, qO (.iload_n 2), qO .iaload, qO (.aload_n 0), qF (.getfield 31) 6 12, qO (.iload_n 2), qO .iaload] (pc' := 61) (L' := [zR 1 t, zI l1, zI l2]) (S' := [zI (σ 7 t l2.toNat), zI (σ 6 t l2.toNat), zI l1]) (σ' := σ) (Ps := [0 ≤ l2 ∧ l2 < 8, 0 ≤ l2 ∧ l2 < 8]) (by decide +kernel) rfl ⟨h.1, h.2.1, trivial⟩ ?_
    replace h := h.2.2
    refine r_max lkX6_74 (by decide +kernel) (by decide) (Nat.le_of_ble_eq_true rfl) ?_
    generalize hz1 : (if σ 6 t l2.toNat < σ 7 t l2.toNat then σ 7 t l2.toNat else σ 6 t l2.toNat) = z1
    replace h := h z1 hz1.symm
    refine r_max lkX6_74 (by decide +kernel) (by decide) (Nat.le_of_ble_eq_true rfl) ?_
    refine r_blk [qO (.istore_n 1), qO (.iinc 2 1), qO (.goto (-31))] (pc' := 40) (L' := [zR 1 t, zI (if l1 < z1 then z1 else l1), zI (l2 + 1)]) (S' := []) (σ' := σ) (Ps := [-2147483648 ≤ l2 + 1 ∧ l2 + 1 ≤ 2147483647]) (by decide +kernel) rfl ⟨h.1, trivial⟩ ?_
    replace h := h.2
    exact Runs.fg (fgE (fgE (fgE fg0))) h
theorem gX6_areTwoCorners_0 (a0 : Int) (a1 : Int) (t : Nat) (σ : Hp) {Q : Option Int → Hp → Prop} (h : Runs 0 mX6_hasCorner 0 [zR 1 t, zI a0] [] σ (rI (fun z2 σ1 => ((z2 = 0 → Q (some 0) σ1) ∧ (¬ z2 = 0 → Runs 0 mX6_hasCorner 0 [zR 1 t, zI a1] [] σ1 (rI (fun z4 σ3 => ((z4 = 0 → Q (some 0) σ3) ∧ (¬ z4 = 0 → ((a0 = a1 → Q (some 0) σ3) ∧ (¬ a0 = a1 → Q (some 1) σ3))))))))))) : Runs 1 mX6_areTwoCorners 0 [zR 1 t, zI a0, zI a1] [] σ Q := by
  refine r_blk [qO (.aload_n 0), qO (.iload_n 1)] (pc' := 2) (L' := [zR 1 t, zI a0, zI a1]) (S' := [zI a0, zR 1 t]) (σ' := σ) (Ps := []) (by decide +kernel) rfl trivial ?_
  refine r_callVI (As := [zI a0]) (S := []) (Lc := [zR 1 t, zI a0]) (d' := 0) (n := 1) (g := 1) (x := t) (ci := 6) kX6_hasCorner vX6_hasCorner lkX6_80 (by decide +kernel) (by decide) rfl rfl (by decide) rfl rfl (Nat.le_of_ble_eq_true rfl) rfl rfl (Nat.le_of_ble_eq_true rfl) (h.monoI (fun z2 σ1 h => ?_))
  refine r_if_eq (off := 20) (tgt := 25) (by decide +kernel) (by decide) (fun c => ?_) (fun c => ?_)
  · replace h := h.1 c
    refine r_blk [qO (.iconst 0)] (pc' := 26) (L' := [zR 1 t, zI a0, zI a1]) (S' := [zI 0]) (σ' := σ1) (Ps := []) (by decide +kernel) rfl trivial ?_
    exact r_retz (by decide +kernel) rfl (by decide) h
  · replace h := h.2 c
    refine r_blk [qO (.aload_n 0), qO (.iload_n 2)] (pc' := 10) (L' := [zR 1 t, zI a0, zI a1]) (S' := [zI a1, zR 1 t]) (σ' := σ1) (Ps := []) (by decide +kernel) rfl trivial ?_
    refine r_callVI (As := [zI a1]) (S := []) (Lc := [zR 1 t, zI a1]) (d' := 0) (n := 1) (g := 1) (x := t) (ci := 6) kX6_hasCorner vX6_hasCorner lkX6_80 (by decide +kernel) (by decide) rfl rfl (by decide) rfl rfl (Nat.le_of_ble_eq_true rfl) rfl rfl (Nat.le_of_ble_eq_true rfl) (h.monoI (fun z4 σ3 h => ?_))
    refine r_if_eq (off := 12) (tgt := 25) (by decide +kernel) (by decide) (fun c => ?_) (fun c => ?_)
    · replace h := h.1 c
      refine r_blk [qO (.iconst 0)] (pc' := 26) (L' := [zR 1 t, zI a0, zI a1]) (S' := [zI 0]) (σ' := σ3) (Ps := []) (by decide +kernel) rfl trivial ?_
      exact r_retz (by decide +kernel) rfl (by decide) h
    · replace h := h.2 c
      refine r_blk [qO (.iload_n 1), qO (.iload_n 2)] (pc' := 18) (L' := [zR 1 t, zI a0, zI a1]) (S' := [zI a1, zI a0]) (σ' := σ3) (Ps := []) (by decide +kernel) rfl trivial ?_
      refine r_icmp_eq (off := 7) (tgt := 25) (by decide +kernel) (by decide) (fun c => ?_) (fun c => ?_)
      · replace h := h.1 c
        refine r_blk [qO (.iconst 0)] (pc' := 26) (L' := [zR 1 t, zI a0, zI a1]) (S' := [zI 0]) (σ' := σ3) (Ps := []) (by decide +kernel) rfl trivial ?_
        exact r_retz (by decide +kernel) rfl (by decide) h
      · replace h := h.2 c
        refine r_blk [qO (.iconst 1), qO (.goto 4)] (pc' := 26) (L' := [zR 1 t, zI a0, zI a1]) (S' := [zI 1]) (σ' := σ3) (Ps := []) (by decide +kernel) rfl trivial ?_
        exact r_retz (by decide +kernel) rfl (by decide) h
theorem gX6_tellStreet_0 (a0 : Int) (a1 : Int) (a2 : Int) (a3 : Int) (t : Nat) (σ : Hp) {Q : Option Int → Hp → Prop} (h : Runs 1 mX6_areTwoCorners 0 [zR 1 t, zI a0, zI a1] [] σ (rI (fun z2 σ1 => ((z2 = 0 → Q (some 0) σ1) ∧ (¬ z2 = 0 → ((a2 < 1 → Q (some 0) σ1) ∧ (¬ a2 < 1 → ((60 < a2 → Q (some 0) σ1) ∧ (¬ 60 < a2 → ((σ1 1 t 1 < 14 → (0 ≤ σ1 1 t 1 ∧ σ1 1 t 1 < 14) ∧ (0 ≤ σ1 1 t 1 ∧ σ1 1 t 1 < 14) ∧ (0 ≤ σ1 1 t 1 ∧ σ1 1 t 1 < 14) ∧ (0 ≤ σ1 1 t 1 ∧ σ1 1 t 1 < 14) ∧ ∀ σ3 : Hp, σ3 = (zup (zup (zup (zup σ1 2 t ((σ1 1 t 1).toNat) a0) 3 t ((σ1 1 t 1).toNat) a1) 4 t ((σ1 1 t 1).toNat) a2) 5 t ((σ1 1 t 1).toNat) 2) → ((a3 = 0 → (-2147483648 ≤ ((zup σ3 1 t 4 (zor (σ1 1 t 4) 0)) 1 t 1) + 1 ∧ ((zup σ3 1 t 4 (zor (σ1 1 t 4) 0)) 1 t 1) + 1 ≤ 2147483647) ∧ ∀ σ4 : Hp, σ4 = (zup (zup σ3 1 t 4 (zor (σ1 1 t 4) 0)) 1 t 1 (((zup σ3 1 t 4 (zor (σ1 1 t 4) 0)) 1 t 1) + 1)) → Q (some 1) σ4) ∧ (¬ a3 = 0 → (-2147483648 ≤ ((zup σ3 1 t 4 (zor (σ1 1 t 4) (zshl 1 (σ3 1 t 1)))) 1 t 1) + 1 ∧ ((zup σ3 1 t 4 (zor (σ1 1 t 4) (zshl 1 (σ3 1 t 1)))) 1 t 1) + 1 ≤ 2147483647) ∧ ∀ σ5 : Hp, σ5 = (zup (zup σ3 1 t 4 (zor (σ1 1 t 4) (zshl 1 (σ3 1 t 1)))) 1 t 1 (((zup σ3 1 t 4 (zor (σ1 1 t 4) (zshl 1 (σ3 1 t 1)))) 1 t 1) + 1)) → Q (some 1) σ5))) ∧ (¬ σ1 1 t 1 < 14 → Q (some 0) σ1))))))))))) : Runs 2 mX6_tellStreet 0 [zR 1 t, zI a0, zI a1, zI a2, zI a3] [] σ Q := by
  refine r_blk [qO (.aload_n 0), qO (.iload_n 1), qO (.iload_n 2)] (pc' := 3) (L' := [zR 1 t, zI a0, zI a1, zI a2, zI a3]) (S' := [zI a1, zI a0, zR 1 t]) (σ' := σ) (Ps := []) (by decide +kernel) rfl trivial ?_
  refine r_callVI (As := [zI a0, zI a1]) (S := []) (Lc := [zR 1 t, zI a0, zI a1]) (d' := 1) (n := 2) (g := 1) (x := t) (ci := 6) kX6_areTwoCorners vX6_areTwoCorners lkX6_84 (by decide +kernel) (by decide) rfl rfl (by decide) rfl rfl (Nat.le_of_ble_eq_true rfl) rfl rfl (Nat.le_of_ble_eq_true rfl) (h.monoI (fun z2 σ1 h => ?_))
  refine r_if_eq (off := 23) (tgt := 29) (by decide +kernel) (by decide) (fun c => ?_) (fun c => ?_)
  · replace h := h.1 c
    refine r_blk [qO (.iconst 0)] (pc' := 30) (L' := [zR 1 t, zI a0, zI a1, zI a2, zI a3]) (S' := [zI 0]) (σ' := σ1) (Ps := []) (by decide +kernel) rfl trivial ?_
    exact r_retz (by decide +kernel) rfl (by decide) h
  · replace h := h.2 c
    refine r_blk [qO (.iload_n 3), qO (.iconst 1)] (pc' := 11) (L' := [zR 1 t, zI a0, zI a1, zI a2, zI a3]) (S' := [zI 1, zI a2]) (σ' := σ1) (Ps := []) (by decide +kernel) rfl trivial ?_
    refine r_icmp_lt (off := 18) (tgt := 29) (by decide +kernel) (by decide) (fun c => ?_) (fun c => ?_)
    · replace h := h.1 c
      refine r_blk [qO (.iconst 0)] (pc' := 30) (L' := [zR 1 t, zI a0, zI a1, zI a2, zI a3]) (S' := [zI 0]) (σ' := σ1) (Ps := []) (by decide +kernel) rfl trivial ?_
      exact r_retz (by decide +kernel) rfl (by decide) h
    · replace h := h.2 c
      refine r_blk [qO (.iload_n 3), qO (.bipush 60)] (pc' := 17) (L' := [zR 1 t, zI a0, zI a1, zI a2, zI a3]) (S' := [zI 60, zI a2]) (σ' := σ1) (Ps := []) (by decide +kernel) rfl trivial ?_
      refine r_icmp_gt (off := 12) (tgt := 29) (by decide +kernel) (by decide) (fun c => ?_) (fun c => ?_)
      · replace h := h.1 c
        refine r_blk [qO (.iconst 0)] (pc' := 30) (L' := [zR 1 t, zI a0, zI a1, zI a2, zI a3]) (S' := [zI 0]) (σ' := σ1) (Ps := []) (by decide +kernel) rfl trivial ?_
        exact r_retz (by decide +kernel) rfl (by decide) h
      · replace h := h.2 c
        refine r_blk [qO (.aload_n 0), qF (.getfield 46) 6 1, qO (.bipush 14)] (pc' := 26) (L' := [zR 1 t, zI a0, zI a1, zI a2, zI a3]) (S' := [zI 14, zI (σ1 1 t 1)]) (σ' := σ1) (Ps := []) (by decide +kernel) rfl trivial ?_
        refine r_icmp_lt (off := 5) (tgt := 31) (by decide +kernel) (by decide) (fun c => ?_) (fun c => ?_)
        · replace h := h.1 c
          refine r_blk [qO (.aload_n 0), qF (.getfield 15) 6 7, qO (.aload_n 0), qF (.getfield 46) 6 1, qO (.iload_n 1), qO .iastore, qO (.aload_n 0), qF (.getfield 19) 6 8, qO (.aload_n 0), qF (.getfield 46) 6 1, qO (.iload_n 2), qO .iastore, qO (.aload_n 0), qF (.getfield 22) 6 9, qO (.aload_n 0), qF (.getfield 46) 6 1, qO (.iload_n 3), qO .iastore, qO (.aload_n 0), qF (.getfield 25) 6 10, qO (.aload_n 0), qF (.getfield 46) 6 1, qO (.iconst 2), qO .iastore, qO (.aload_n 0), qO .dup, qF (.getfield 55) 6 4, qO (.iload 4)] (pc' := 78) (L' := [zR 1 t, zI a0, zI a1, zI a2, zI a3]) (S' := [zI a3, zI (σ1 1 t 4), zR 1 t]) (σ' := (zup (zup (zup (zup σ1 2 t ((σ1 1 t 1).toNat) a0) 3 t ((σ1 1 t 1).toNat) a1) 4 t ((σ1 1 t 1).toNat) a2) 5 t ((σ1 1 t 1).toNat) 2)) (Ps := [0 ≤ σ1 1 t 1 ∧ σ1 1 t 1 < 14, 0 ≤ σ1 1 t 1 ∧ σ1 1 t 1 < 14, 0 ≤ σ1 1 t 1 ∧ σ1 1 t 1 < 14, 0 ≤ σ1 1 t 1 ∧ σ1 1 t 1 < 14]) (by decide +kernel) rfl ⟨h.1, h.2.1, h.2.2.1, h.2.2.2.1, trivial⟩ ?_
          replace h := h.2.2.2.2
          generalize hσ3 : (zup (zup (zup (zup σ1 2 t ((σ1 1 t 1).toNat) a0) 3 t ((σ1 1 t 1).toNat) a1) 4 t ((σ1 1 t 1).toNat) a2) 5 t ((σ1 1 t 1).toNat) 2) = σ3
          replace h := h σ3 hσ3.symm
          refine r_if_eq (off := 12) (tgt := 90) (by decide +kernel) (by decide) (fun c => ?_) (fun c => ?_)
          · replace h := h.1 c
            refine r_blk [qO (.iconst 0), qO .ior, qF (.putfield 55) 6 4, qO (.aload_n 0), qO .dup, qF (.getfield 46) 6 1, qO (.iconst 1), qO .iadd, qF (.putfield 46) 6 1, qO (.iconst 1)] (pc' := 106) (L' := [zR 1 t, zI a0, zI a1, zI a2, zI a3]) (S' := [zI 1]) (σ' := (zup (zup σ3 1 t 4 (zor (σ1 1 t 4) 0)) 1 t 1 (((zup σ3 1 t 4 (zor (σ1 1 t 4) 0)) 1 t 1) + 1))) (Ps := [-2147483648 ≤ ((zup σ3 1 t 4 (zor (σ1 1 t 4) 0)) 1 t 1) + 1 ∧ ((zup σ3 1 t 4 (zor (σ1 1 t 4) 0)) 1 t 1) + 1 ≤ 2147483647]) (by decide +kernel) rfl ⟨h.1, trivial⟩ ?_
            replace h := h.2
            generalize hσ4 : (zup (zup σ3 1 t 4 (zor (σ1 1 t 4) 0)) 1 t 1 (((zup σ3 1 t 4 (zor (σ1 1 t 4) 0)) 1 t 1) + 1)) = σ4
            replace h := h σ4 hσ4.symm
            exact r_retz (by decide +kernel) rfl (by decide) h
          · replace h := h.2 c
            refine r_blk [qO (.iconst 1), qO (.aload_n 0), qF (.getfield 46) 6 1, qO .ishl, qO (.goto 4), qO .ior, qF (.putfield 55) 6 4, qO (.aload_n 0), qO .dup, qF (.getfield 46) 6 1, qO (.iconst 1), qO .iadd, qF (.putfield 46) 6 1, qO (.iconst 1)] (pc' := 106) (L' := [zR 1 t, zI a0, zI a1, zI a2, zI a3]) (S' := [zI 1]) (σ' := (zup (zup σ3 1 t 4 (zor (σ1 1 t 4) (zshl 1 (σ3 1 t 1)))) 1 t 1 (((zup σ3 1 t 4 (zor (σ1 1 t 4) (zshl 1 (σ3 1 t 1)))) 1 t 1) + 1))) (Ps := [-2147483648 ≤ ((zup σ3 1 t 4 (zor (σ1 1 t 4) (zshl 1 (σ3 1 t 1)))) 1 t 1) + 1 ∧ ((zup σ3 1 t 4 (zor (σ1 1 t 4) (zshl 1 (σ3 1 t 1)))) 1 t 1) + 1 ≤ 2147483647]) (by decide +kernel) rfl ⟨h.1, trivial⟩ ?_
            replace h := h.2
            generalize hσ5 : (zup (zup σ3 1 t 4 (zor (σ1 1 t 4) (zshl 1 (σ3 1 t 1)))) 1 t 1 (((zup σ3 1 t 4 (zor (σ1 1 t 4) (zshl 1 (σ3 1 t 1)))) 1 t 1) + 1)) = σ5
            replace h := h σ5 hσ5.symm
            exact r_retz (by decide +kernel) rfl (by decide) h
        · replace h := h.2 c
          refine r_blk [qO (.iconst 0)] (pc' := 30) (L' := [zR 1 t, zI a0, zI a1, zI a2, zI a3]) (S' := [zI 0]) (σ' := σ1) (Ps := []) (by decide +kernel) rfl trivial ?_
          exact r_retz (by decide +kernel) rfl (by decide) h
theorem gX6_tellErrand_0 (a0 : Int) (a1 : Int) (a2 : Int) (a3 : Int) (t : Nat) (σ : Hp) {Q : Option Int → Hp → Prop} (h : Runs 1 mX6_areTwoCorners 0 [zR 1 t, zI a0, zI a1] [] σ (rI (fun z2 σ1 => ((z2 = 0 → Q (some 0) σ1) ∧ (¬ z2 = 0 → ((σ1 1 t 2 < 8 → ((a2 < 0 → Q (some 0) σ1) ∧ (¬ a2 < 0 → ((1440 ≤ a2 → Q (some 0) σ1) ∧ (¬ 1440 ≤ a2 → ((a3 < 1 → Q (some 0) σ1) ∧ (¬ a3 < 1 → ((a3 ≤ 9 → (0 ≤ σ1 1 t 2 ∧ σ1 1 t 2 < 8) ∧ (0 ≤ σ1 1 t 2 ∧ σ1 1 t 2 < 8) ∧ (0 ≤ σ1 1 t 2 ∧ σ1 1 t 2 < 8) ∧ (0 ≤ σ1 1 t 2 ∧ σ1 1 t 2 < 8) ∧ (-2147483648 ≤ (σ1 1 t 2) + 1 ∧ (σ1 1 t 2) + 1 ≤ 2147483647) ∧ ∀ σ3 : Hp, σ3 = (zup (zup (zup (zup (zup σ1 6 t ((σ1 1 t 2).toNat) a0) 7 t ((σ1 1 t 2).toNat) a1) 8 t ((σ1 1 t 2).toNat) a2) 9 t ((σ1 1 t 2).toNat) a3) 1 t 2 ((σ1 1 t 2) + 1)) → Q (some 1) σ3) ∧ (¬ a3 ≤ 9 → Q (some 0) σ1))))))))) ∧ (¬ σ1 1 t 2 < 8 → Q (some 0) σ1))))))) : Runs 2 mX6_tellErrand 0 [zR 1 t, zI a0, zI a1, zI a2, zI a3] [] σ Q := by
  refine r_blk [qO (.aload_n 0), qO (.iload_n 1), qO (.iload_n 2)] (pc' := 3) (L' := [zR 1 t, zI a0, zI a1, zI a2, zI a3]) (S' := [zI a1, zI a0, zR 1 t]) (σ' := σ) (Ps := []) (by decide +kernel) rfl trivial ?_
  refine r_callVI (As := [zI a0, zI a1]) (S := []) (Lc := [zR 1 t, zI a0, zI a1]) (d' := 1) (n := 2) (g := 1) (x := t) (ci := 6) kX6_areTwoCorners vX6_areTwoCorners lkX6_84 (by decide +kernel) (by decide) rfl rfl (by decide) rfl rfl (Nat.le_of_ble_eq_true rfl) rfl rfl (Nat.le_of_ble_eq_true rfl) (h.monoI (fun z2 σ1 h => ?_))
  refine r_if_eq (off := 12) (tgt := 18) (by decide +kernel) (by decide) (fun c => ?_) (fun c => ?_)
  · replace h := h.1 c
    refine r_blk [qO (.iconst 0)] (pc' := 19) (L' := [zR 1 t, zI a0, zI a1, zI a2, zI a3]) (S' := [zI 0]) (σ' := σ1) (Ps := []) (by decide +kernel) rfl trivial ?_
    exact r_retz (by decide +kernel) rfl (by decide) h
  · replace h := h.2 c
    refine r_blk [qO (.aload_n 0), qF (.getfield 49) 6 2, qO (.bipush 8)] (pc' := 15) (L' := [zR 1 t, zI a0, zI a1, zI a2, zI a3]) (S' := [zI 8, zI (σ1 1 t 2)]) (σ' := σ1) (Ps := []) (by decide +kernel) rfl trivial ?_
    refine r_icmp_lt (off := 5) (tgt := 20) (by decide +kernel) (by decide) (fun c => ?_) (fun c => ?_)
    · replace h := h.1 c
      refine r_blk [qO (.iload_n 3)] (pc' := 21) (L' := [zR 1 t, zI a0, zI a1, zI a2, zI a3]) (S' := [zI a2]) (σ' := σ1) (Ps := []) (by decide +kernel) rfl trivial ?_
      refine r_if_lt (off := 23) (tgt := 44) (by decide +kernel) (by decide) (fun c => ?_) (fun c => ?_)
      · replace h := h.1 c
        refine r_blk [qO (.iconst 0)] (pc' := 45) (L' := [zR 1 t, zI a0, zI a1, zI a2, zI a3]) (S' := [zI 0]) (σ' := σ1) (Ps := []) (by decide +kernel) rfl trivial ?_
        exact r_retz (by decide +kernel) rfl (by decide) h
      · replace h := h.2 c
        refine r_blk [qO (.iload_n 3), qO (.sipush 1440)] (pc' := 28) (L' := [zR 1 t, zI a0, zI a1, zI a2, zI a3]) (S' := [zI 1440, zI a2]) (σ' := σ1) (Ps := []) (by decide +kernel) rfl trivial ?_
        refine r_icmp_ge (off := 16) (tgt := 44) (by decide +kernel) (by decide) (fun c => ?_) (fun c => ?_)
        · replace h := h.1 c
          refine r_blk [qO (.iconst 0)] (pc' := 45) (L' := [zR 1 t, zI a0, zI a1, zI a2, zI a3]) (S' := [zI 0]) (σ' := σ1) (Ps := []) (by decide +kernel) rfl trivial ?_
          exact r_retz (by decide +kernel) rfl (by decide) h
        · replace h := h.2 c
          refine r_blk [qO (.iload 4), qO (.iconst 1)] (pc' := 34) (L' := [zR 1 t, zI a0, zI a1, zI a2, zI a3]) (S' := [zI 1, zI a3]) (σ' := σ1) (Ps := []) (by decide +kernel) rfl trivial ?_
          refine r_icmp_lt (off := 10) (tgt := 44) (by decide +kernel) (by decide) (fun c => ?_) (fun c => ?_)
          · replace h := h.1 c
            refine r_blk [qO (.iconst 0)] (pc' := 45) (L' := [zR 1 t, zI a0, zI a1, zI a2, zI a3]) (S' := [zI 0]) (σ' := σ1) (Ps := []) (by decide +kernel) rfl trivial ?_
            exact r_retz (by decide +kernel) rfl (by decide) h
          · replace h := h.2 c
            refine r_blk [qO (.iload 4), qO (.bipush 9)] (pc' := 41) (L' := [zR 1 t, zI a0, zI a1, zI a2, zI a3]) (S' := [zI 9, zI a3]) (σ' := σ1) (Ps := []) (by decide +kernel) rfl trivial ?_
            refine r_icmp_le (off := 5) (tgt := 46) (by decide +kernel) (by decide) (fun c => ?_) (fun c => ?_)
            · replace h := h.1 c
              refine r_blk [qO (.aload_n 0), qF (.getfield 28) 6 11, qO (.aload_n 0), qF (.getfield 49) 6 2, qO (.iload_n 1), qO .iastore, qO (.aload_n 0), qF (.getfield 31) 6 12, qO (.aload_n 0), qF (.getfield 49) 6 2, qO (.iload_n 2), qO .iastore, qO (.aload_n 0), qF (.getfield 34) 6 13, qO (.aload_n 0), qF (.getfield 49) 6 2, qO (.iload_n 3), qO .iastore, qO (.aload_n 0), qF (.getfield 37) 6 14, qO (.aload_n 0), qF (.getfield 49) 6 2, qO (.iload 4), qO .iastore, qO (.aload_n 0), qO .dup, qF (.getfield 49) 6 2, qO (.iconst 1), qO .iadd, qF (.putfield 49) 6 2, qO (.iconst 1)] (pc' := 98) (L' := [zR 1 t, zI a0, zI a1, zI a2, zI a3]) (S' := [zI 1]) (σ' := (zup (zup (zup (zup (zup σ1 6 t ((σ1 1 t 2).toNat) a0) 7 t ((σ1 1 t 2).toNat) a1) 8 t ((σ1 1 t 2).toNat) a2) 9 t ((σ1 1 t 2).toNat) a3) 1 t 2 ((σ1 1 t 2) + 1))) (Ps := [0 ≤ σ1 1 t 2 ∧ σ1 1 t 2 < 8, 0 ≤ σ1 1 t 2 ∧ σ1 1 t 2 < 8, 0 ≤ σ1 1 t 2 ∧ σ1 1 t 2 < 8, 0 ≤ σ1 1 t 2 ∧ σ1 1 t 2 < 8, -2147483648 ≤ (σ1 1 t 2) + 1 ∧ (σ1 1 t 2) + 1 ≤ 2147483647]) (by decide +kernel) rfl ⟨h.1, h.2.1, h.2.2.1, h.2.2.2.1, h.2.2.2.2.1, trivial⟩ ?_
              replace h := h.2.2.2.2.2
              generalize hσ3 : (zup (zup (zup (zup (zup σ1 6 t ((σ1 1 t 2).toNat) a0) 7 t ((σ1 1 t 2).toNat) a1) 8 t ((σ1 1 t 2).toNat) a2) 9 t ((σ1 1 t 2).toNat) a3) 1 t 2 ((σ1 1 t 2) + 1)) = σ3
              replace h := h σ3 hσ3.symm
              exact r_retz (by decide +kernel) rfl (by decide) h
            · replace h := h.2 c
              refine r_blk [qO (.iconst 0)] (pc' := 45) (L' := [zR 1 t, zI a0, zI a1, zI a2, zI a3]) (S' := [zI 0]) (σ' := σ1) (Ps := []) (by decide +kernel) rfl trivial ?_
              exact r_retz (by decide +kernel) rfl (by decide) h
    · replace h := h.2 c
      refine r_blk [qO (.iconst 0)] (pc' := 19) (L' := [zR 1 t, zI a0, zI a1, zI a2, zI a3]) (S' := [zI 0]) (σ' := σ1) (Ps := []) (by decide +kernel) rfl trivial ?_
      exact r_retz (by decide +kernel) rfl (by decide) h
theorem gX6_tellMust_0 (a0 : Int) (a1 : Int) (t : Nat) (σ : Hp) {Q : Option Int → Hp → Prop} (h : Runs 0 mX6_hasStreet 0 [zR 1 t, zI a0] [] σ (rI (fun z2 σ1 => ((z2 = 0 → Q (some 0) σ1) ∧ (¬ z2 = 0 → ((a1 < 0 → Q (some 0) σ1) ∧ (¬ a1 < 0 → ((a1 ≤ 2 → (0 ≤ a0 ∧ a0 < 14) ∧ Q (some 1) (zup σ1 5 t a0.toNat a1)) ∧ (¬ a1 ≤ 2 → Q (some 0) σ1))))))))) : Runs 1 mX6_tellMust 0 [zR 1 t, zI a0, zI a1] [] σ Q := by
  refine r_blk [qO (.aload_n 0), qO (.iload_n 1)] (pc' := 2) (L' := [zR 1 t, zI a0, zI a1]) (S' := [zI a0, zR 1 t]) (σ' := σ) (Ps := []) (by decide +kernel) rfl trivial ?_
  refine r_callVI (As := [zI a0]) (S := []) (Lc := [zR 1 t, zI a0]) (d' := 0) (n := 1) (g := 1) (x := t) (ci := 6) kX6_hasStreet vX6_hasStreet lkX6_88 (by decide +kernel) (by decide) rfl rfl (by decide) rfl rfl (Nat.le_of_ble_eq_true rfl) rfl rfl (Nat.le_of_ble_eq_true rfl) (h.monoI (fun z2 σ1 h => ?_))
  refine r_if_eq (off := 12) (tgt := 17) (by decide +kernel) (by decide) (fun c => ?_) (fun c => ?_)
  · replace h := h.1 c
    refine r_blk [qO (.iconst 0)] (pc' := 18) (L' := [zR 1 t, zI a0, zI a1]) (S' := [zI 0]) (σ' := σ1) (Ps := []) (by decide +kernel) rfl trivial ?_
    exact r_retz (by decide +kernel) rfl (by decide) h
  · replace h := h.2 c
    refine r_blk [qO (.iload_n 2)] (pc' := 9) (L' := [zR 1 t, zI a0, zI a1]) (S' := [zI a1]) (σ' := σ1) (Ps := []) (by decide +kernel) rfl trivial ?_
    refine r_if_lt (off := 8) (tgt := 17) (by decide +kernel) (by decide) (fun c => ?_) (fun c => ?_)
    · replace h := h.1 c
      refine r_blk [qO (.iconst 0)] (pc' := 18) (L' := [zR 1 t, zI a0, zI a1]) (S' := [zI 0]) (σ' := σ1) (Ps := []) (by decide +kernel) rfl trivial ?_
      exact r_retz (by decide +kernel) rfl (by decide) h
    · replace h := h.2 c
      refine r_blk [qO (.iload_n 2), qO (.iconst 2)] (pc' := 14) (L' := [zR 1 t, zI a0, zI a1]) (S' := [zI 2, zI a1]) (σ' := σ1) (Ps := []) (by decide +kernel) rfl trivial ?_
      refine r_icmp_le (off := 5) (tgt := 19) (by decide +kernel) (by decide) (fun c => ?_) (fun c => ?_)
      · replace h := h.1 c
        refine r_blk [qO (.aload_n 0), qF (.getfield 25) 6 10, qO (.iload_n 1), qO (.iload_n 2), qO .iastore, qO (.iconst 1)] (pc' := 27) (L' := [zR 1 t, zI a0, zI a1]) (S' := [zI 1]) (σ' := (zup σ1 5 t a0.toNat a1)) (Ps := [0 ≤ a0 ∧ a0 < 14]) (by decide +kernel) rfl ⟨h.1, trivial⟩ ?_
        replace h := h.2
        exact r_retz (by decide +kernel) rfl (by decide) h
      · replace h := h.2 c
        refine r_blk [qO (.iconst 0)] (pc' := 18) (L' := [zR 1 t, zI a0, zI a1]) (S' := [zI 0]) (σ' := σ1) (Ps := []) (by decide +kernel) rfl trivial ?_
        exact r_retz (by decide +kernel) rfl (by decide) h
theorem gX6_mustsTold_0 (t : Nat) (σ : Hp) {Q : Option Int → Hp → Prop} (h : Runs 0 mX6_mustsTold 4 [zR 1 t, zI 0, zI 0] [] σ Q) : Runs 0 mX6_mustsTold 0 [zR 1 t, zU, zU] [] σ Q := by
  refine r_blk [qO (.iconst 0), qO (.istore_n 1), qO (.iconst 0), qO (.istore_n 2)] (pc' := 4) (L' := [zR 1 t, zI 0, zI 0]) (S' := []) (σ' := σ) (Ps := []) (by decide +kernel) rfl trivial ?_
  exact Runs.fg (fgE (fgE (fgE fg0))) h
theorem gX6_mustsTold_4 (l1 : Int) (l2 : Int) (t : Nat) (σ : Hp) {Q : Option Int → Hp → Prop} (h : ((σ 1 t 1 ≤ l2 → Q (some l1) σ) ∧ (¬ σ 1 t 1 ≤ l2 → (0 ≤ l2 ∧ l2 < 14) ∧ ((¬ σ 5 t l2.toNat = 2 → (-2147483648 ≤ l1 + 1 ∧ l1 + 1 ≤ 2147483647) ∧ (-2147483648 ≤ l2 + 1 ∧ l2 + 1 ≤ 2147483647) ∧ Runs 0 mX6_mustsTold 4 [zR 1 t, zI (l1 + 1), zI (l2 + 1)] [] σ Q) ∧ (σ 5 t l2.toNat = 2 → (-2147483648 ≤ l1 + 0 ∧ l1 + 0 ≤ 2147483647) ∧ (-2147483648 ≤ l2 + 1 ∧ l2 + 1 ≤ 2147483647) ∧ Runs 0 mX6_mustsTold 4 [zR 1 t, zI (l1 + 0), zI (l2 + 1)] [] σ Q))))) : Runs 0 mX6_mustsTold 4 [zR 1 t, zI l1, zI l2] [] σ Q := by
  refine r_blk [qO (.iload_n 2), qO (.aload_n 0), qF (.getfield 46) 6 1] (pc' := 9) (L' := [zR 1 t, zI l1, zI l2]) (S' := [zI (σ 1 t 1), zI l2]) (σ' := σ) (Ps := []) (by decide +kernel) rfl trivial ?_
  refine r_icmp_ge (off := 27) (tgt := 36) (by decide +kernel) (by decide) (fun c => ?_) (fun c => ?_)
  · replace h := h.1 c
    refine r_blk [qO (.iload_n 1)] (pc' := 37) (L' := [zR 1 t, zI l1, zI l2]) (S' := [zI l1]) (σ' := σ) (Ps := []) (by decide +kernel) rfl trivial ?_
    exact r_ret (by decide +kernel) rfl (fun _ => h)
  · replace h := h.2 c
    refine r_blk [qO (.iload_n 1), qO (.aload_n 0), qF (.getfield 25) 6 10, qO (.iload_n 2), qO .iaload, qO (.iconst 2)] (pc' := 20) (L' := [zR 1 t, zI l1, zI l2]) (S' := [zI 2, zI (σ 5 t l2.toNat), zI l1]) (σ' := σ) (Ps := [0 ≤ l2 ∧ l2 < 14]) (by decide +kernel) rfl ⟨h.1, trivial⟩ ?_
    replace h := h.2
    refine r_icmp_ne (off := 7) (tgt := 27) (by decide +kernel) (by decide) (fun c => ?_) (fun c => ?_)
    · replace h := h.1 c
      refine r_blk [qO (.iconst 1), qO .iadd, qO (.istore_n 1), qO (.iinc 2 1), qO (.goto (-29))] (pc' := 4) (L' := [zR 1 t, zI (l1 + 1), zI (l2 + 1)]) (S' := []) (σ' := σ) (Ps := [-2147483648 ≤ l1 + 1 ∧ l1 + 1 ≤ 2147483647, -2147483648 ≤ l2 + 1 ∧ l2 + 1 ≤ 2147483647]) (by decide +kernel) rfl ⟨h.1, h.2.1, trivial⟩ ?_
      replace h := h.2.2
      exact Runs.fg (fgE (fgE (fgE fg0))) h
    · replace h := h.2 c
      refine r_blk [qO (.iconst 0), qO (.goto 4), qO .iadd, qO (.istore_n 1), qO (.iinc 2 1), qO (.goto (-29))] (pc' := 4) (L' := [zR 1 t, zI (l1 + 0), zI (l2 + 1)]) (S' := []) (σ' := σ) (Ps := [-2147483648 ≤ l1 + 0 ∧ l1 + 0 ≤ 2147483647, -2147483648 ≤ l2 + 1 ∧ l2 + 1 ≤ 2147483647]) (by decide +kernel) rfl ⟨h.1, h.2.1, trivial⟩ ?_
      replace h := h.2.2
      exact Runs.fg (fgE (fgE (fgE fg0))) h
theorem gX6_mustLets_0 (a0 : Int) (a1 : Int) (t : Nat) (σ : Hp) {Q : Option Int → Hp → Prop} (h : (0 ≤ a0 ∧ a0 < 14) ∧ ((σ 5 t a0.toNat = 2 → Q (some 1) σ) ∧ (¬ σ 5 t a0.toNat = 2 → (0 ≤ a0 ∧ a0 < 14) ∧ ((¬ σ 5 t a0.toNat = a1 → Q (some 0) σ) ∧ (σ 5 t a0.toNat = a1 → Q (some 1) σ))))) : Runs 0 mX6_mustLets 0 [zR 1 t, zI a0, zI a1] [] σ Q := by
  refine r_blk [qO (.aload_n 0), qF (.getfield 25) 6 10, qO (.iload_n 1), qO .iaload, qO (.iconst 2)] (pc' := 7) (L' := [zR 1 t, zI a0, zI a1]) (S' := [zI 2, zI (σ 5 t a0.toNat)]) (σ' := σ) (Ps := [0 ≤ a0 ∧ a0 < 14]) (by decide +kernel) rfl ⟨h.1, trivial⟩ ?_
  replace h := h.2
  refine r_icmp_eq (off := 13) (tgt := 20) (by decide +kernel) (by decide) (fun c => ?_) (fun c => ?_)
  · replace h := h.1 c
    refine r_blk [qO (.iconst 1), qO (.goto 4)] (pc' := 25) (L' := [zR 1 t, zI a0, zI a1]) (S' := [zI 1]) (σ' := σ) (Ps := []) (by decide +kernel) rfl trivial ?_
    exact r_retz (by decide +kernel) rfl (by decide) h
  · replace h := h.2 c
    refine r_blk [qO (.aload_n 0), qF (.getfield 25) 6 10, qO (.iload_n 1), qO .iaload, qO (.iload_n 2)] (pc' := 17) (L' := [zR 1 t, zI a0, zI a1]) (S' := [zI a1, zI (σ 5 t a0.toNat)]) (σ' := σ) (Ps := [0 ≤ a0 ∧ a0 < 14]) (by decide +kernel) rfl ⟨h.1, trivial⟩ ?_
    replace h := h.2
    refine r_icmp_ne (off := 7) (tgt := 24) (by decide +kernel) (by decide) (fun c => ?_) (fun c => ?_)
    · replace h := h.1 c
      refine r_blk [qO (.iconst 0)] (pc' := 25) (L' := [zR 1 t, zI a0, zI a1]) (S' := [zI 0]) (σ' := σ) (Ps := []) (by decide +kernel) rfl trivial ?_
      exact r_retz (by decide +kernel) rfl (by decide) h
    · replace h := h.2 c
      refine r_blk [qO (.iconst 1), qO (.goto 4)] (pc' := 25) (L' := [zR 1 t, zI a0, zI a1]) (S' := [zI 1]) (σ' := σ) (Ps := []) (by decide +kernel) rfl trivial ?_
      exact r_retz (by decide +kernel) rfl (by decide) h
theorem gX6_firstMustUnkept_0 (a0 : Int) (t : Nat) (σ : Hp) {Q : Option Int → Hp → Prop} (h : Runs 1 mX6_firstMustUnkept 2 [zR 1 t, zI a0, zI 0] [] σ Q) : Runs 1 mX6_firstMustUnkept 0 [zR 1 t, zI a0, zU] [] σ Q := by
  refine r_blk [qO (.iconst 0), qO (.istore_n 2)] (pc' := 2) (L' := [zR 1 t, zI a0, zI 0]) (S' := []) (σ' := σ) (Ps := []) (by decide +kernel) rfl trivial ?_
  exact Runs.fg (fgE (fgE (fgE fg0))) h
theorem gX6_firstMustUnkept_2 (l1 : Int) (l2 : Int) (t : Nat) (σ : Hp) {Q : Option Int → Hp → Prop} (h : ((σ 1 t 1 ≤ l2 → Q (some (-1)) σ) ∧ (¬ σ 1 t 1 ≤ l2 → Runs 0 mX10_bitOf 0 [zI l1, zI l2] [] σ (rI (fun z2 σ1 => Runs 0 mX6_mustLets 0 [zR 1 t, zI l2, zI z2] [] σ1 (rI (fun z4 σ3 => ((¬ z4 = 0 → (-2147483648 ≤ l2 + 1 ∧ l2 + 1 ≤ 2147483647) ∧ Runs 1 mX6_firstMustUnkept 2 [zR 1 t, zI l1, zI (l2 + 1)] [] σ3 Q) ∧ (z4 = 0 → Q (some l2) σ3))))))))) : Runs 1 mX6_firstMustUnkept 2 [zR 1 t, zI l1, zI l2] [] σ Q := by
  refine r_blk [qO (.iload_n 2), qO (.aload_n 0), qF (.getfield 46) 6 1] (pc' := 7) (L' := [zR 1 t, zI l1, zI l2]) (S' := [zI (σ 1 t 1), zI l2]) (σ' := σ) (Ps := []) (by decide +kernel) rfl trivial ?_
  refine r_icmp_ge (off := 24) (tgt := 31) (by decide +kernel) (by decide) (fun c => ?_) (fun c => ?_)
  · replace h := h.1 c
    refine r_blk [qO (.iconst (-1))] (pc' := 32) (L' := [zR 1 t, zI l1, zI l2]) (S' := [zI (-1)]) (σ' := σ) (Ps := []) (by decide +kernel) rfl trivial ?_
    exact r_ret (by decide +kernel) rfl (fun _ => h)
  · replace h := h.2 c
    refine r_blk [qO (.aload_n 0), qO (.iload_n 2), qO (.iload_n 1), qO (.iload_n 2)] (pc' := 14) (L' := [zR 1 t, zI l1, zI l2]) (S' := [zI l2, zI l1, zI l2, zR 1 t]) (σ' := σ) (Ps := []) (by decide +kernel) rfl trivial ?_
    refine r_callNI (As := [zI l1, zI l2]) (S := [zI l2, zR 1 t]) (Lc := [zI l1, zI l2]) (d' := 0) (n := 2) kX10_bitOf vX10_bitOf lkX6_91 (by decide +kernel) (by decide) rfl rfl (Nat.le_of_ble_eq_true rfl) rfl rfl (Nat.le_of_ble_eq_true rfl) (h.monoI (fun z2 σ1 h => ?_))
    refine r_callVI (As := [zI l2, zI z2]) (S := []) (Lc := [zR 1 t, zI l2, zI z2]) (d' := 0) (n := 2) (g := 1) (x := t) (ci := 6) kX6_mustLets vX6_mustLets lkX6_94 (by decide +kernel) (by decide) rfl rfl (by decide) rfl rfl (Nat.le_of_ble_eq_true rfl) rfl rfl (Nat.le_of_ble_eq_true rfl) (h.monoI (fun z4 σ3 h => ?_))
    refine r_if_ne (off := 5) (tgt := 25) (by decide +kernel) (by decide) (fun c => ?_) (fun c => ?_)
    · replace h := h.1 c
      refine r_blk [qO (.iinc 2 1), qO (.goto (-26))] (pc' := 2) (L' := [zR 1 t, zI l1, zI (l2 + 1)]) (S' := []) (σ' := σ3) (Ps := [-2147483648 ≤ l2 + 1 ∧ l2 + 1 ≤ 2147483647]) (by decide +kernel) rfl ⟨h.1, trivial⟩ ?_
      replace h := h.2
      exact Runs.fg (fgE (fgE (fgE fg0))) h
    · replace h := h.2 c
      refine r_blk [qO (.iload_n 2)] (pc' := 24) (L' := [zR 1 t, zI l1, zI l2]) (S' := [zI l2]) (σ' := σ3) (Ps := []) (by decide +kernel) rfl trivial ?_
      exact r_ret (by decide +kernel) rfl (fun _ => h)
