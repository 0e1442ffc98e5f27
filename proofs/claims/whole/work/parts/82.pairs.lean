/-! calls of both: what only looks -/
section Pairs
variable {k : Nat} {σ : Hp} {a0 a1 a2 a3 : Int}
theorem pr_street (hG : Good k σ) (hk : k < 1000) : Pr2 k σ 1 mX10_street [zR 0 0, zI a0, zI a1] 2 mX11_street [zR 34 0, zI a0, zI a1] := by
  intro K2 cont
  obtain ⟨s, im, b, N, T, rf, hM, hC, hR, hS⟩ := hG
  have hw := hM.1.1
  have w1 := hw.2.1
  have e1 : σ 1 0 1 = s 1 := hC.1.1.2.1
  have ms := hC.1.ms
  have cs := hC.1.cs
  have fin : ∀ z, (0 ≤ a0 ∧ a0 < s 1) → (0 ≤ a1 ∧ a1 ≤ 5) → z = (if a1 = 5 then bitz (s 4) a0 else sg s a0 a1) → Runs 2 mX11_street 0 [zR 34 0, zI a0, zI a1] [] σ (rI (fun z2 σ2 => z = z2 ∧ K2 σ2)) := fun z h0 h1 ez => by
    have hs : σ 36 0 = s := hR.1
    have q := qfin hM hC hR hS (Off.rf : Off GC σ σ) (RQ.rf_ : RQ σ σ)
    refine gX11_street_0 a0 a1 σ ⟨fun _ => ⟨fun c => ⟨fun _ => ⟨by omega, by omega, ?_⟩, fun c2 => absurd (by omega) c2⟩, fun c => ?_⟩, fun c => absurd (by rw [hs]; omega) c⟩
    · rw [if_neg c] at ez
      rw [hs, ← ez]
      exact ⟨rfl, cont σ q.1 q.2⟩
    · rw [if_pos c] at ez
      rw [hs, ← ez]
      exact ⟨rfl, cont σ q.1 q.2⟩
  refine gX10_street_0 a0 a1 σ ⟨fun c => ?_, fun c => leaf_ref hM hC hR hS hk (by omega) cont (fun σ1 K3 r1 l => gX11_street_0 a0 a1 σ1 ⟨fun c2 => absurd (by rw [e1, ← r1.1]; exact c2) c, fun _ => l⟩)⟩
  rw [e1] at c
  obtain ⟨t2, t3, t4⟩ := ms.2.2 a0 c.1 c.2
  obtain ⟨t5, t6⟩ := cs.2.2.2.2.2.1 a0 c.1 c.2
  refine ⟨fun c2 => leaf_ref hM hC hR hS hk (by omega) cont (fun σ1 K3 r1 l => gX11_street_0 a0 a1 σ1 ⟨fun _ => ⟨fun _ => ⟨fun c3 => absurd c3 (by omega), fun _ => l⟩, fun c3 => absurd c3 (by omega)⟩, fun c3 => absurd (by rw [r1.1]; exact c) c3⟩), fun c2 => ⟨by omega, fin _ c (by omega) ?_⟩, fun c2 => ⟨by omega, fin _ c (by omega) ?_⟩, fun c2 => ⟨by omega, fin _ c (by omega) ?_⟩, fun c2 => fin _ c (by omega) ?_, fun c2 => ⟨by omega, fin _ c (by omega) ?_⟩, fun c2 => fin _ c (by omega) ?_⟩
  · rw [if_neg (by omega), c2]; exact t2
  · rw [if_neg (by omega), c2]; exact t3
  · rw [if_neg (by omega), c2]; exact t4
  · rw [if_neg (by omega), c2]; exact t6
  · rw [if_neg (by omega), c2]; exact t5
  · rw [if_pos c2, cs.2.2.1]
theorem pr_errand (hG : Good k σ) (hk : k < 1000) : Pr2 k σ 1 mX10_errand [zR 0 0, zI a0, zI a1] 2 mX11_errand [zR 34 0, zI a0, zI a1] := by
  intro K2 cont
  obtain ⟨s, im, b, N, T, rf, hM, hC, hR, hS⟩ := hG
  have hw := hM.1.1
  have w2 := hw.2.2.1
  have e1 : σ 1 0 2 = s 2 := hC.1.1.2.2.1
  have me := hC.1.me
  have fin : ∀ z, (0 ≤ a0 ∧ a0 < s 2) → (0 ≤ a1 ∧ a1 ≤ 3) → z = se s a0 a1 → Runs 2 mX11_errand 0 [zR 34 0, zI a0, zI a1] [] σ (rI (fun z2 σ2 => z = z2 ∧ K2 σ2)) := fun z h0 h1 ez => by
    have hs : σ 36 0 = s := hR.1
    have q := qfin hM hC hR hS (Off.rf : Off GC σ σ) (RQ.rf_ : RQ σ σ)
    refine gX11_errand_0 a0 a1 σ ⟨fun _ => ⟨fun _ => ⟨by omega, by omega, ?_⟩, fun c2 => absurd (by omega) c2⟩, fun c => absurd (by rw [hs]; omega) c⟩
    rw [hs, ← ez]
    exact ⟨rfl, cont σ q.1 q.2⟩
  refine gX10_errand_0 a0 a1 σ ⟨fun c => ?_, fun c => leaf_ref hM hC hR hS hk (by omega) cont (fun σ1 K3 r1 l => gX11_errand_0 a0 a1 σ1 ⟨fun c2 => absurd (by rw [e1, ← r1.1]; exact c2) c, fun _ => l⟩)⟩
  rw [e1] at c
  obtain ⟨t6, t7, t8, t9⟩ := me.2 a0 c.1 c.2
  refine ⟨fun c2 => leaf_ref hM hC hR hS hk (by omega) cont (fun σ1 K3 r1 l => gX11_errand_0 a0 a1 σ1 ⟨fun _ => ⟨fun c3 => absurd c3 (by omega), fun _ => l⟩, fun c3 => absurd (by rw [r1.1]; exact c) c3⟩), fun c2 => ⟨by omega, fin _ c (by omega) ?_⟩, fun c2 => ⟨by omega, fin _ c (by omega) ?_⟩, fun c2 => ⟨by omega, fin _ c (by omega) ?_⟩, fun c2 => ⟨by omega, fin _ c (by omega) ?_⟩⟩
  · rw [c2]; exact t6
  · rw [c2]; exact t7
  · rw [c2]; exact t8
  · rw [c2]; exact t9
theorem pr_way (hG : Good k σ) (hk : k < 1000) : Pr2 k σ 2 mX10_way [zR 0 0, zI a0, zI a1, zU] 2 mX11_way [zR 34 0, zI a0, zI a1, zU] := by
  intro K2 cont
  obtain ⟨s, im, b, N, T, rf, hM, hC, hR, hS⟩ := hG
  have hw := hM.1.1
  have w7 := hw.2.2.2.2.2.2.2.1
  have w9 := hw.2.2.2.2.2.2.2.2.2.1
  have e1 : σ 1 0 1 = s 1 := hC.1.1.2.1
  refine gX10_way_0 a0 a1 σ ⟨fun c => ⟨fun c2 σ1 es1 => ?_, fun c2 => leaf_ref hM hC hR hS hk (by have := zw a1 0 2879; omega) cont (fun σ1 K3 r1 l => gX11_way_0 a0 a1 σ1 ⟨fun _ => ⟨fun c3 => absurd c3 c2, fun _ => l⟩, fun c3 => absurd (by rw [r1.1, ← e1]; exact c) c3⟩)⟩, fun c => leaf_ref hM hC hR hS hk (by omega) cont (fun σ1 K3 r1 l => gX11_way_0 a0 a1 σ1 ⟨fun c2 => absurd (by rw [e1, ← r1.1]; exact c2) c, fun _ => l⟩)⟩
  rw [e1] at c
  have hz := zw a1 0 2879
  obtain ⟨o1, t1, -, -⟩ := take_ok hM hC es1
  have r1 := t1.2.1
  have r2 := t1.2.2.1
  refine ⟨by omega, by omega, by omega, fun σ2 es2 => ?_⟩
  subst es2
  obtain ⟨k1, k2⟩ := tStand_keep (σ := σ1) (m := a1)
  rw [tWay_eq (t1.keep k1) (Std.of hw t1 (by omega)) c]
  have oc : Off GC σ (tStand σ1 a1) := (o1.mono (by decide)).tr (k2.mono (by decide))
  have hR1 := hR.offC oc
  have q := qfin hM hC hR hS oc (RQ.rf_)
  refine gX11_way_0 a0 a1 _ ⟨fun _ => ⟨fun _ => ?_, fun c3 => absurd c2 c3⟩, fun c3 => absurd (by rw [hR1.1]; exact c) c3⟩
  rw [hR1.1]
  exact ⟨hw, c, by omega, rfl, cont _ q.1 q.2⟩
theorem pr_soonest (hG : Good k σ) (hk : k < 1000) : Pr2 k σ 4 mX10_soonest [zR 0 0, zI a0, zI a1, zI a2, zU] 5 mX11_soonest [zR 34 0, zI a0, zI a1, zI a2, zU] := by
  intro K2 cont
  obtain ⟨s, im, b, N, T, rf, hM, hC, hR, hS⟩ := hG
  have hw := hM.1.1
  have w0 := hw.1
  have ez : zwrongWay (σ 1 0) a0 a1 a2 = zwrongWay s a0 a1 a2 := zww_eq hC.1.1.1 _ _ _
  have hz := zww s a0 a1 a2
  refine gX10_soonest_0 a0 a1 a2 σ ⟨fun c σ1 es1 => ?_, fun c => ?_⟩
  · rw [ez] at c
    have hz := hz.resolve_right (by omega)
    obtain ⟨o1, t1, m1, -⟩ := take_ok hM hC es1
    refine qX8_setOut hw t1 m1 hz.2.1 hz.2.2.2 (Or.inr hz.2.2.1) (fun σ2 o2 k2 _ d2 => ⟨by omega, ?_⟩)
    have d2 := d2 hz.2.2.1.1
    have oc : Off GC σ σ2 := (o1.mono (by decide)).tr (o2.mono (by decide))
    have hR1 := hR.offC oc
    refine gX11_soonest_0 a0 a1 a2 σ2 ⟨fun _ => ?_, fun c3 => absurd (by rw [hR1.1]; exact c) c3⟩
    refine qX11_finds (by rw [hR1.1]; exact hw) (by rw [hR1.1]; exact hz.2.1) hz.2.2.2 (fun σ3 o3 r3 s3 => ⟨by omega, ?_⟩)
    rw [hR1.1] at s3
    have dd := dist_eq hw s3 a1.toNat (by omega)
    have rr := r3 a1.toNat (by omega)
    have q := qfin hM hC hR hS oc (RQ.off o3 (by decide))
    refine ⟨?_, cont _ q.1 q.2⟩
    unfold zmin
    rw [d2, ← dd]
    unfold tauR
    by_cases y : σ3 41 0 a1.toNat < 0
    · rw [if_pos y, if_pos rfl]; omega
    · rw [if_neg y, if_neg (by omega)]
  · rw [ez] at c ⊢
    exact leaf_ref hM hC hR hS hk (by omega) cont (fun σ1 K3 r1 l => gX11_soonest_0 a0 a1 a2 σ1 ⟨fun c2 => absurd (by rw [← r1.1]; exact c2) c, fun _ => by rw [r1.1]; exact l⟩)
theorem pr_waited (hG : Good k σ) (hk : k < 1000) : Pr2 k σ 5 mX10_waited [zR 0 0, zI a0, zI a1, zI a2, zU] 6 mX11_waited [zR 34 0, zI a0, zI a1, zI a2, zU] := by
  intro K2 cont
  obtain ⟨s, im, b, N, T, rf, hM, hC, hR, hS⟩ := hG
  have hw := hM.1.1
  have w0 := hw.1
  have ez : zwrongWay (σ 1 0) a0 a1 a2 = zwrongWay s a0 a1 a2 := zww_eq hC.1.1.1 _ _ _
  have hz := zww s a0 a1 a2
  refine gX10_waited_0 a0 a1 a2 σ ⟨fun c σ1 es1 => ?_, fun c => ?_⟩
  · rw [ez] at c
    have hz := hz.resolve_right (by omega)
    obtain ⟨o1, t1, m1, -⟩ := take_ok hM hC es1
    have bd := (dist_soon hw (f := a0.toNat) (m0 := a2) (by omega) hz.2.2.2).2.2.2.1 a1.toNat (by omega)
    refine qX4_trace hw t1 m1 hz.2.1 hz.2.2.1 hz.2.2.2 (fun σ2 o2 tr => ?_)
    have oc : Off GC σ σ2 := (o1.mono (by decide)).tr (o2.1.mono (by decide))
    have hR1 := hR.offC oc
    by_cases y : dist s a0.toNat a2 a1.toNat = 1000000
    · refine gX4_minutesWaited_0 0 σ2 ⟨fun c2 => absurd (tr.1 y) c2, fun _ => ?_⟩
      refine gX11_waited_0 a0 a1 a2 σ2 ⟨fun _ => ?_, fun c3 => absurd (by rw [hR1.1]; exact c) c3⟩
      refine qX11_findsRoad hR1.1 hw hz.2.1 hz.2.2.1 hz.2.2.2 (fun σ3 o3 f3 => absurd f3.1 (by omega)) (fun σ3 o3 _ => ⟨fun _ => ?_, fun c2 => absurd rfl c2⟩)
      have q := qfin hM hC hR hS oc (RQ.offm o3 (by decide) (by decide) (by decide))
      exact ⟨rfl, cont _ q.1 q.2⟩
    · obtain ⟨L, rd, rc_⟩ := tr.2 (by omega)
      refine qX4_minutesWaited rd rc_ ?_
      refine gX11_waited_0 a0 a1 a2 σ2 ⟨fun _ => ?_, fun c3 => absurd (by rw [hR1.1]; exact c) c3⟩
      refine qX11_findsRoad hR1.1 hw hz.2.1 hz.2.2.1 hz.2.2.2 (fun σ3 o3 f3 => ⟨fun c2 => absurd c2 (by omega), fun _ => ?_⟩) (fun σ3 o3 z => absurd z y)
      obtain ⟨-, -, -, L', rd', rf', -⟩ := f3
      have eL := rd.uniq rd'
      subst eL
      have q := qfin hM hC hR hS oc (RQ.offm o3 (by decide) (by decide) (by decide))
      exact ⟨rf'.2.1.symm, cont _ q.1 q.2⟩
  · rw [ez] at c ⊢
    exact leaf_ref hM hC hR hS hk (by omega) cont (fun σ1 K3 r1 l => gX11_waited_0 a0 a1 a2 σ1 ⟨fun c2 => absurd (by rw [← r1.1]; exact c2) c, fun _ => by rw [r1.1]; exact l⟩)
theorem pr_road (hG : Good k σ) (hk : k < 1000) : Pr2 k σ 5 mX10_road [zR 0 0, zI a0, zI a1, zI a2, zI a3, zU] 6 mX11_road [zR 34 0, zI a0, zI a1, zI a2, zI a3, zU] := by
  intro K2 cont
  obtain ⟨s, im, b, N, T, rf, hM, hC, hR, hS⟩ := hG
  have hw := hM.1.1
  have w0 := hw.1
  have ez : zwrongWay (σ 1 0) a0 a1 a2 = zwrongWay s a0 a1 a2 := zww_eq hC.1.1.1 _ _ _
  have hz := zww s a0 a1 a2
  -- refused with n
  have rfs : ∀ n : Int, (-6 ≤ n ∧ n ≤ -1) → (∀ (σ1 : Hp) (K3 : Int → Hp → Prop), RPt σ1 s im b N T rf → Runs 6 mX11_road 25 [zR 34 0, zI a0, zI a1, zI a2, zI a3, zI n] [] σ1 (rI K3) → Runs 6 mX11_road 0 [zR 34 0, zI a0, zI a1, zI a2, zI a3, zU] [] σ1 (rI K3)) → Runs 5 mX10_road 25 [zR 0 0, zI a0, zI a1, zI a2, zI a3, zI n] [] σ (rI (fun z1 σ1 => Runs 6 mX11_road 0 [zR 34 0, zI a0, zI a1, zI a2, zI a3, zU] [] σ1 (rI (fun z2 σ2 => z1 = z2 ∧ K2 σ2)))) := fun n hn hto => by
    refine gX10_road_25 a0 a1 a2 a3 n σ ⟨fun c => absurd c (by omega), fun c => leaf_ref hM hC hR hS hk hn cont (fun σ1 K3 r1 l => hto σ1 K3 r1 (gX11_road_25 a0 a1 a2 a3 n σ1 ⟨fun c2 => absurd c2 (by omega), fun _ => l⟩))⟩
  have good : zwrongWay s a0 a1 a2 = 0 → -1 ≤ a3 → Runs 5 mX10_road 25 [zR 0 0, zI a0, zI a1, zI a2, zI a3, zI 0] [] σ (rI (fun z1 σ1 => Runs 6 mX11_road 0 [zR 34 0, zI a0, zI a1, zI a2, zI a3, zU] [] σ1 (rI (fun z2 σ2 => z1 = z2 ∧ K2 σ2)))) := fun c c3 => by
    have hz := hz.resolve_right (by omega)
    have bd := (dist_soon hw (f := a0.toNat) (m0 := a2) (by omega) hz.2.2.2).2.2.2.1 a1.toNat (by omega)
    refine gX10_road_25 a0 a1 a2 a3 0 σ ⟨fun _ σ1 es1 => ?_, fun q => absurd rfl q⟩
    obtain ⟨o1, t1, m1, -⟩ := take_ok hM hC es1
    refine qX4_trace hw t1 m1 hz.2.1 hz.2.2.1 hz.2.2.2 (fun σ2 o2 tr => ?_)
    have oc : Off GC σ σ2 := (o1.mono (by decide)).tr (o2.1.mono (by decide))
    have hR1 := hR.offC oc
    have to25 : ∀ K3, Runs 6 mX11_road 25 [zR 34 0, zI a0, zI a1, zI a2, zI a3, zI 0] [] σ2 (rI K3) → Runs 6 mX11_road 0 [zR 34 0, zI a0, zI a1, zI a2, zI a3, zU] [] σ2 (rI K3) := fun K3 h => by
      refine gX11_road_0 a0 a1 a2 a3 σ2 ?_
      rw [hR1.1, c]
      exact ⟨fun q => absurd q (by omega), fun _ => ⟨fun _ => h, fun q => absurd c3 q⟩⟩
    by_cases y : dist s a0.toNat a2 a1.toNat = 1000000
    · have l9 := tr.1 y
      have ref9 : Runs 6 mX11_road 0 [zR 34 0, zI a0, zI a1, zI a2, zI a3, zU] [] σ2 (rI (fun z2 σ2 => (-9 : Int) = z2 ∧ K2 σ2)) := to25 _ (gX11_road_25 a0 a1 a2 a3 0 σ2 ⟨fun _ => qX11_findsRoad hR1.1 hw hz.2.1 hz.2.2.1 hz.2.2.2 (fun σ3 o3 f3 => absurd f3.1 (by omega)) (fun σ3 o3 _ => ⟨fun c2 => absurd rfl c2, fun _ => (by
        have q := qfin hM hC hR hS oc (RQ.offm o3 (by decide) (by decide) (by decide))
        exact ⟨rfl, cont _ q.1 q.2⟩)⟩), fun q => absurd rfl q⟩)
      refine ⟨fun c4 => gX4_streetAt_0 a3 0 σ2 ⟨fun _ => ref9, fun _ => ⟨fun _ => ref9, fun q => absurd (by omega) q⟩⟩, fun c4 => ?_⟩
      rw [l9]
      exact ref9
    · obtain ⟨L, rd, rc_⟩ := tr.2 (by omega)
      have l9 := rd.1.le9
      have refL : ∀ z, z = (if a3 < 0 then (L : Int) else if (L : Int) ≤ a3 then -9 else (bk s (dist s a0.toNat a2) (rc s (dist s a0.toNat a2) a1.toNat ((L : Int) - 1 - a3).toNat)).1) → Runs 6 mX11_road 0 [zR 34 0, zI a0, zI a1, zI a2, zI a3, zU] [] σ2 (rI (fun z2 σ2 => z = z2 ∧ K2 σ2)) := fun z ezz => by
        refine to25 _ (gX11_road_25 a0 a1 a2 a3 0 σ2 ⟨fun _ => qX11_findsRoad hR1.1 hw hz.2.1 hz.2.2.1 hz.2.2.2 (fun σ3 o3 f3 => ⟨fun _ => ?_, fun c2 => absurd c2 (by omega)⟩) (fun σ3 o3 z9 => absurd z9 y), fun q => absurd rfl q⟩)
        obtain ⟨-, -, -, L', rd', rf', -⟩ := f3
        have eL := rd.uniq rd'
        subst eL
        have q := qfin hM hC hR hS oc (RQ.offm o3 (by decide) (by decide) (by decide))
        rw [rf'.1]
        refine ⟨fun c5 => ⟨fun c6 => ?_, fun c6 => ⟨by omega, by omega, by omega, ?_⟩⟩, fun c5 => ?_⟩
        · rw [if_neg (by omega), if_pos c6] at ezz
          exact ⟨ezz, cont _ q.1 q.2⟩
        · rw [if_neg (by omega), if_neg c6] at ezz
          exact ⟨ezz.trans (rf'.2.2 _ (by omega)).2.1.symm, cont _ q.1 q.2⟩
        · rw [if_pos (by omega)] at ezz
          exact ⟨ezz, cont _ q.1 q.2⟩
      refine ⟨fun c4 => gX4_streetAt_0 a3 0 σ2 ⟨fun c5 => absurd c5 (by omega), fun c5 => ⟨fun c6 => ?_, fun c6 => ?_⟩⟩, fun c4 => ?_⟩
      · rw [rc_.1] at c6
        refine refL _ ?_
        rw [if_neg c5, if_pos c6]
      · rw [rc_.1] at c6 ⊢
        refine ⟨by omega, by omega, by omega, refL _ ?_⟩
        rw [if_neg c5, if_neg c6]
        exact rc_.2.2 _ (by omega)
      · rw [rc_.1]
        refine refL _ ?_
        rw [if_pos (by omega)]
  refine gX10_road_0 a0 a1 a2 a3 σ ?_
  rw [ez]
  refine ⟨fun c => ?_, fun c => ⟨fun c3 => ?_, fun c3 => ?_⟩⟩
  · rw [c]
    refine rfs (-1) (by omega) (fun σ1 K3 r1 h => gX11_road_0 a0 a1 a2 a3 σ1 ?_)
    rw [r1.1, c]
    exact ⟨fun _ => h, fun q => absurd rfl q⟩
  · rcases hz with y | y
    · rw [y.1]
      exact good y.1 c3
    · refine rfs _ y (fun σ1 K3 r1 h => gX11_road_0 a0 a1 a2 a3 σ1 ?_)
      rw [r1.1]
      exact ⟨fun q => absurd q c, fun _ => ⟨fun _ => h, fun q => absurd c3 q⟩⟩
  · refine rfs (-4) (by omega) (fun σ1 K3 r1 h => gX11_road_0 a0 a1 a2 a3 σ1 ?_)
    rw [r1.1]
    exact ⟨fun q => absurd q c, fun _ => ⟨fun q => absurd q c3, fun _ => h⟩⟩
/-- frozen as it is -/
theorem qX10_freeze {s im : Nat → Int} {b N : Int} {T rf : Nat → Int} {K' : Hp → Prop} (hM : MWf k s im b N rf) (hC : CPt σ s im b N T rf) (h0 : 0 ≤ a0 ∧ a0 ≤ 2879) (cont : ∀ σ', Off GC σ σ' → σ' 1 0 0 = s 0 → (∀ a c, a < 10 → c < 10 → a ≠ c → σ' 21 a c = FF s a0 a c) → K' σ') : Runs 3 mX10_freezeAsItIs 0 [zR 0 0, zI a0] [] σ (rV K') := by
  have hw := hM.1.1
  refine gX10_freezeAsItIs_0 a0 σ (fun σ1 es1 => ?_)
  obtain ⟨o1, t1, m1, -⟩ := take_ok hM hC es1
  refine qX0_lay hw h0 t1 m1 (fun σ2 o2 k2 l2 => ?_)
  have m2 : TMs σ2 s := m1.keep o2 (by decide) (by decide) (by decide) (by decide)
  refine qX0_join hw m2 l2 (fun σ3 o3 l3 => cont σ3 ?_ ?_ l3)
  · exact ((o1.mono (by decide)).tr (o2.mono (by decide))).tr (o3.mono (by decide))
  · rw [o3 1 (by decide)]; exact m2.1
theorem pq_all (hG : Good k σ) (hk : k < 1000) : Pr2 k σ 4 mX10_all [zR 0 0, zI a0, zU] 5 mX11_all [zR 34 0, zI a0, zU] := by
  intro K2 cont
  obtain ⟨s, im, b, N, T, rf, hM, hC, hR, hS⟩ := hG
  have hw := hM.1.1
  have w0 := hw.1
  have hz := zw a0 0 2879
  obtain ⟨n, hn⟩ : ∃ n : Nat, s 0 = n := ⟨(s 0).toNat, by omega⟩
  refine gX10_all_0 a0 σ ⟨fun c => qX10_freeze hM hC (by omega) (fun σ1 oc e0 l1 => ?_), fun c => leaf_ref hM hC hR hS hk (by omega) cont (fun σ1 K3 r1 l => gX11_all_0 a0 σ1 ⟨fun c2 => absurd c2 c, fun _ => l⟩)⟩
  have hR1 := hR.offC oc
  have ec : cA (σ1 21) n n = cA (FF s a0) n n := cA_congr (fun a c ha hc hac => l1 a c (by omega) (by omega) hac) n (Nat.le_refl _)
  refine qX0_pairsApart (e0.trans hn) (by omega) ?_
  rw [ec]
  have ref : ∀ z, (z = 0 ∧ cA (FF s a0) n n ≠ 0) ∨ (z = 1 ∧ cA (FF s a0) n n = 0) → Runs 5 mX11_all 0 [zR 34 0, zI a0, zU] [] σ1 (rI (fun z2 σ2 => z = z2 ∧ K2 σ2)) := fun z hzz => by
    refine gX11_all_0 a0 σ1 ⟨fun _ => ?_, fun c3 => absurd c c3⟩
    refine qX11_apartAt (by rw [hR1.1]; exact hw) (by rw [hR1.1]; exact hn) (by omega) (fun σ2 o2 _ => ?_)
    rw [hR1.1]
    have q := qfin hM hC hR hS oc (RQ.off o2 (by decide))
    exact ⟨fun c2 => ⟨by omega, cont _ q.1 q.2⟩, fun c2 => ⟨by omega, cont _ q.1 q.2⟩⟩
  exact ⟨fun c2 => ref 0 (Or.inl ⟨rfl, c2⟩), fun c2 => ref 1 (Or.inr ⟨rfl, c2⟩)⟩
theorem pr_longest (hG : Good k σ) (hk : k < 1000) : Pr2 k σ 4 mX10_longest [zR 0 0, zI a0, zU] 6 mX11_longest [zR 34 0, zI a0, zU] := by
  intro K2 cont
  obtain ⟨s, im, b, N, T, rf, hM, hC, hR, hS⟩ := hG
  have hw := hM.1.1
  have w0 := hw.1
  have hz := zw a0 0 2879
  obtain ⟨n, hn⟩ : ∃ n : Nat, s 0 = n := ⟨(s 0).toNat, by omega⟩
  refine gX10_longest_0 a0 σ ⟨fun c => qX10_freeze hM hC (by omega) (fun σ1 oc e0 l1 => ?_), fun c => leaf_ref hM hC hR hS hk (by omega) cont (fun σ1 K3 r1 l => gX11_longest_0 a0 σ1 ⟨fun c2 => absurd c2 c, fun _ => l⟩)⟩
  have hR1 := hR.offC oc
  have ec : LG (σ1 21) n = LG (FF s a0) n := LG_congr (fun a c ha hc hac => l1 a c (by omega) (by omega) hac)
  refine qX0_farthest (e0.trans hn) (by omega) ?_
  rw [ec]
  refine gX11_longest_0 a0 σ1 ⟨fun _ => ?_, fun c3 => absurd c c3⟩
  refine qX11_longestAt (by rw [hR1.1]; exact hw) (by rw [hR1.1]; exact hn) (by omega) (fun σ2 o2 => ?_)
  rw [hR1.1]
  have q := qfin hM hC hR hS oc (RQ.off o2 (by decide))
  exact ⟨rfl, cont _ q.1 q.2⟩
theorem pr_apart (hG : Good k σ) (hk : k < 1000) : Pr2 k σ 4 mX10_apart [zR 0 0, zI a0, zU] 5 mX11_apart [zR 34 0, zI a0, zU] := by
  intro K2 cont
  obtain ⟨s, im, b, N, T, rf, hM, hC, hR, hS⟩ := hG
  have hw := hM.1.1
  have w0 := hw.1
  have hz := zw a0 0 2879
  obtain ⟨n, hn⟩ : ∃ n : Nat, s 0 = n := ⟨(s 0).toNat, by omega⟩
  refine gX10_apart_0 a0 σ ⟨fun c => qX10_freeze hM hC (by omega) (fun σ1 oc e0 l1 => ?_), fun c => leaf_ref hM hC hR hS hk (by omega) cont (fun σ1 K3 r1 l => gX11_apart_0 a0 σ1 ⟨fun c2 => absurd c2 c, fun _ => l⟩)⟩
  have hR1 := hR.offC oc
  have ec : cA (σ1 21) n n = cA (FF s a0) n n := cA_congr (fun a c ha hc hac => l1 a c (by omega) (by omega) hac) n (Nat.le_refl _)
  refine qX0_pairsApart (e0.trans hn) (by omega) ?_
  rw [ec]
  refine gX11_apart_0 a0 σ1 ⟨fun _ => ?_, fun c3 => absurd c c3⟩
  refine qX11_apartAt (by rw [hR1.1]; exact hw) (by rw [hR1.1]; exact hn) (by omega) (fun σ2 o2 _ => ?_)
  rw [hR1.1]
  have q := qfin hM hC hR hS oc (RQ.off o2 (by decide))
  exact ⟨rfl, cont _ q.1 q.2⟩
theorem pr_judge (hG : Good k σ) (hk : k < 1000) : Pr2 k σ 4 mX10_judge [zR 0 0, zU] 4 mX11_judge [zR 34 0, zU, zU] := by
  intro K2 cont
  obtain ⟨s, im, b, N, T, rf, hM, hC, hR, hS⟩ := hG
  have hw := hM.1.1
  have w0 := hw.1
  obtain ⟨n, hn⟩ : ∃ n : Nat, s 0 = n := ⟨(s 0).toNat, by omega⟩
  have ref : ∀ (σ1 : Hp) (z : Int), Off GC σ σ1 → JD s n z → Runs 4 mX11_judge 0 [zR 34 0, zU, zU] [] σ1 (rI (fun z2 σ2 => z = z2 ∧ K2 σ2)) := fun σ1 z oc hj => by
    have hR1 := hR.offC oc
    refine qX11_judge hw hR1.1 hn (fun σ2 r o2 hr => ?_)
    have q := qfin hM hC hR hS oc (RQ.off o2 (by decide))
    exact ⟨hj.uniq hr, cont _ q.1 q.2⟩
  refine gX10_judge_0 σ ?_
  rw [hC.1.cs.2.2.2.1]
  refine qX6_firstMustUnkept hw hC.1.1.2.1 (fun t h0 hl => (hC.1.cs.2.2.2.2.2.1 t h0 hl).1) (fun hmu => ⟨fun _ => qX10_freeze hM hC (by omega) (fun σ1 oc e0 l1 => ?_), fun q => absurd rfl q⟩) (fun t t0 tl hb hf => ⟨fun q => absurd q (by omega), fun _ => ref σ t Off.rf (Or.inr ⟨t0, tl, hb, hf⟩)⟩)
  refine qX0_firstApart (e0.trans hn) (by omega) (fun r hr => ref σ1 r oc (Or.inl ⟨hmu, FA_congr (fun a c ha hc hac => l1 a c (by omega) (by omega) hac) hr⟩))
theorem pr_can (hG : Good k σ) (hk : k < 1000) : Pr2 k σ 2 mX10_can [zR 0 0] 4 mX11_can [zR 34 0] := by
  intro K2 cont
  obtain ⟨s, im, b, N, T, rf, hM, hC, hR, hS⟩ := hG
  have hw := hM.1.1
  have w0 := hw.1
  have ms := hC.1.ms
  have e0 : σ 1 0 0 = s 0 := hC.1.1.1
  have q := qfin hM hC hR hS (Off.rf : Off GC σ σ) (RQ.rf_ : RQ σ σ)
  have sb := shl_b (n := s 0) (by omega)
  have ref : ∀ z, (z = 0 ∧ ¬ (hg s 0 (-1) = zshl 1 (s 0) - 1 ∧ brB s (s 1).toNat = 0)) ∨ (z = 1 ∧ hg s 0 (-1) = zshl 1 (s 0) - 1 ∧ brB s (s 1).toNat = 0) → Runs 4 mX11_can 0 [zR 34 0] [] σ (rI (fun z2 σ2 => z = z2 ∧ K2 σ2)) := fun z hzz => by
    refine gX11_can_0 σ (qX11_hang (wo := -9) hR.1 hw (by omega) (fun x hx => ?_))
    have ex := hg_neg (s := s) (f := 0) hx
    rw [hR.1, ex]
    refine ⟨by omega, fun c => ⟨by omega, cont _ q.1 q.2⟩, fun c => qX11_bridgeBits hR.1 hw ⟨fun c2 => ⟨by omega, cont _ q.1 q.2⟩, fun c2 => ⟨by omega, cont _ q.1 q.2⟩⟩⟩
  refine gX10_can_0 σ (gX2_hangsTogether_0 σ (qX2_cornersFrom (wo := -1) hw ms (by omega) (fun x hx => ?_)))
  have ex := hg_eq (s := s) (f := 0) hx
  rw [e0, ex]
  refine ⟨by omega, fun c => ⟨fun _ => ref 0 (Or.inl ⟨rfl, fun z => c z.1⟩), fun z => absurd rfl z⟩, fun c => ⟨fun z => absurd z (by omega), fun _ => qX2_bridgeOnes hw ms ⟨fun c2 => ref 0 (Or.inl ⟨rfl, fun z => c2 z.2⟩), fun c2 => ref 1 (Or.inr ⟨rfl, c, c2⟩)⟩⟩⟩
theorem pr_bridges (hG : Good k σ) (hk : k < 1000) : Pr2 k σ 2 mX10_bridges [zR 0 0] 4 mX11_bridges [zR 34 0] := by
  intro K2 cont
  obtain ⟨s, im, b, N, T, rf, hM, hC, hR, hS⟩ := hG
  have hw := hM.1.1
  have q := qfin hM hC hR hS (Off.rf : Off GC σ σ) (RQ.rf_ : RQ σ σ)
  exact gX10_bridges_0 σ (qX2_bridgeOnes hw hC.1.ms (gX11_bridges_0 σ (qX11_bridgeBits hR.1 hw ⟨rfl, cont _ q.1 q.2⟩)))
theorem pr_walk (hG : Good k σ) (hk : k < 1000) : Pr2 k σ 2 mX10_walk [zR 0 0] 11 mX11_walk [zR 34 0] := by
  intro K2 cont
  obtain ⟨s, im, b, N, T, rf, hM, hC, hR, hS⟩ := hG
  have hw := hM.1.1
  refine gX10_walk_0 σ (qX2_walkThrough hw hC.1.ms (fun σ1 o1 => ?_))
  have oc : Off GC σ σ1 := o1.mono (by decide)
  have hR1 := hR.offC oc
  refine gX11_walk_0 σ1 ?_
  generalize hσ2 : zup (zup (zup σ1 34 0 17 0) 34 0 18 0) 34 0 19 0 = σ2
  have o2 : OffM [] [17, 18, 19] σ1 σ2 := by rw [← hσ2]; exact ((OffM.rf.up34 (by decide)).up34 (by decide)).up34 (by decide)
  refine qX11_walks hw (by rw [o2.1 36 (by decide)]; exact hR1.1) (by rw [← hσ2]; simp [zup]) (by rw [← hσ2]; simp [zup]) (by rw [← hσ2]; simp [zup]) (fun σ3 o3 e3 => ?_)
  have q := qfin hM hC hR hS oc (RQ.offm (o2.tr o3) (by decide) (by decide) (by decide))
  exact ⟨e3.symm, cont _ q.1 q.2⟩
theorem pr_cost (hG : Good k σ) (hk : k < 1000) : Pr2 k σ 7 mX10_cost [zR 0 0] 6 mX11_cost [zR 34 0] := by
  intro K2 cont
  obtain ⟨s, im, b, N, T, rf, hM, hC, hR, hS⟩ := hG
  have hw := hM.1.1
  refine gX10_cost_0 σ (fun σ1 es1 => ?_)
  obtain ⟨o1, t1, m1, n1⟩ := take_ok hM hC es1
  refine qX1_total hw t1 m1 n1 (fun σ2 k2 => ?_)
  have oc : Off GC σ σ2 := (o1.mono (by decide)).tr (k2.1.mono (by decide))
  have hR1 := hR.offC oc
  refine gX11_cost_0 σ2 (qX11_costOf (by rw [hR1.1]; exact hw) (fun σ3 o3 => ?_))
  rw [hR1.1]
  have q := qfin hM hC hR hS oc (RQ.off o3 (by decide))
  exact ⟨rfl, cont _ q.1 q.2⟩
end Pairs
