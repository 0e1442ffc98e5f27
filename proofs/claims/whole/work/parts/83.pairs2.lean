/-! calls of both: what is tried in mind -/
section Pairs2
variable {k : Nat} {σ : Hp} {a0 a1 a2 : Int}
theorem pr_best (hG : Good k σ) (hk : k < 1000) : Pr2 k σ 7 mX10_best [zR 0 0, zU] 7 mX11_best [zR 34 0, zU] := by
  intro K2 cont
  obtain ⟨s, im, b, N, T, rf, hM, hC, hR, hS⟩ := hG
  have hw := hM.1.1
  have w1 := hw.2.1
  have cs := hC.1.cs
  have e1 : σ 1 0 1 = s 1 := hC.1.1.2.1
  have hz := zfew_c w1.1
  refine gX10_best_0 σ ?_
  rw [e1]
  refine ⟨fun c σ1 es1 => ?_, fun c => leaf_ref hM hC hR hS hk (by omega) cont (fun σ1 K3 r1 l => gX11_best_0 σ1 ⟨fun c2 => absurd (by rw [← r1.1]; exact c2) c, fun _ => by rw [r1.1]; exact l⟩)⟩
  obtain ⟨o1, t1, m1, n1⟩ := take_ok hM hC es1
  refine qX9_cheapestPointing hw t1 m1 n1 (by rw [o1 11 (by decide)]; exact cs.1 3 (by omega)) (fun t h0 hl => by rw [o1 5 (by decide)]; exact (cs.2.2.2.2.2.1 t h0 hl).1) (fun σ2 r o2 ha => ?_)
  have oc : Off GC σ σ2 := (o1.mono (by decide)).tr (o2.mono (by decide))
  have hR1 := hR.offC oc
  refine gX11_best_0 σ2 ⟨fun _ => ?_, fun c3 => absurd (by rw [hR1.1]; exact c) c3⟩
  refine qX11_bestOf (G := [41, 42]) (by decide) hR1.1 hw (F := fun b => costM (su s 3 b)) (fun b σ3 K1 h0 h1 e3 hk3 => ⟨fun _ => qX11_costOf (by rw [e3]; exact WF_su hw (Or.inl ⟨Or.inl rfl, by omega⟩)) (fun σ4 o4 => by rw [e3]; exact hk3 σ4 o4), fun q => absurd rfl q⟩) (fun σ3 r' o3 h36 ha' => ?_)
  have q := qfin hM hC hR hS oc (RQ.off36 o3 (by decide) (fun j => by rw [h36 j, hR1.1]))
  exact ⟨ha.uniq ha', cont _ q.1 q.2⟩
theorem pr_far (hG : Good k σ) (hk : k < 1000) : Pr2 k σ 4 mX10_far [zR 0 0, zU] 7 mX11_far [zR 34 0, zU] := by
  intro K2 cont
  obtain ⟨s, im, b, N, T, rf, hM, hC, hR, hS⟩ := hG
  have hw := hM.1.1
  have w0 := hw.1
  have w1 := hw.2.1
  have cs := hC.1.cs
  have e1 : σ 1 0 1 = s 1 := hC.1.1.2.1
  have hz := zfew_c w1.1
  obtain ⟨n, hn⟩ : ∃ n : Nat, s 0 = n := ⟨(s 0).toNat, by omega⟩
  refine gX10_far_0 σ ?_
  rw [e1]
  refine ⟨fun c σ1 es1 => ?_, fun c => leaf_ref hM hC hR hS hk (by omega) cont (fun σ1 K3 r1 l => gX11_far_0 σ1 ⟨fun c2 => absurd (by rw [← r1.1]; exact c2) c, fun _ => by rw [r1.1]; exact l⟩)⟩
  obtain ⟨o1, t1, m1, n1⟩ := take_ok hM hC es1
  refine qX9_nearestPointing hw t1 m1 (by rw [o1 11 (by decide)]; exact cs.1 3 (by omega)) (fun t h0 hl => by rw [o1 5 (by decide)]; exact (cs.2.2.2.2.2.1 t h0 hl).1) hn (fun σ2 r o2 ha => ?_)
  have oc : Off GC σ σ2 := (o1.mono (by decide)).tr (o2.mono (by decide))
  have hR1 := hR.offC oc
  refine gX11_far_0 σ2 ⟨fun _ => ?_, fun c3 => absurd (by rw [hR1.1]; exact c) c3⟩
  refine qX11_bestOf (G := [46]) (by decide) hR1.1 hw (F := fun b => LG (FF (su s 3 b) 0) n) (fun b σ3 K1 h0 h1 e3 hk3 => ⟨fun q => absurd q (by omega), fun _ => qX11_longestAt (n := n) (by rw [e3]; exact WF_su hw (Or.inl ⟨Or.inl rfl, by omega⟩)) (by rw [e3, su_ne (by omega)]; exact hn) (by omega) (fun σ4 o4 => by rw [e3]; exact hk3 σ4 o4)⟩) (fun σ3 r' o3 h36 ha' => ?_)
  have q := qfin hM hC hR hS oc (RQ.off36 o3 (by decide) (fun j => by rw [h36 j, hR1.1]))
  exact ⟨ha.uniq ha', cont _ q.1 q.2⟩
theorem pr_turning (hG : Good k σ) (hk : k < 1000) : Pr2 k σ 7 mX10_turning [zR 0 0] 6 mX11_turning [zR 34 0, zU, zU, zU, zU, zU, zU, zU] := by
  intro K2 cont
  obtain ⟨s, im, b, N, T, rf, hM, hC, hR, hS⟩ := hG
  have hw := hM.1.1
  have cs := hC.1.cs
  refine gX10_turning_0 σ (fun σ1 es1 => ?_)
  obtain ⟨o1, t1, m1, n1⟩ := take_ok hM hC es1
  refine qX9_turnedPointing hw t1 m1 n1 (by rw [o1 11 (by decide)]; exact cs.1 3 (by omega)) (by rw [o1 1 (by decide)]; exact cs.2.2.2.1) (fun t h0 hl => by rw [o1 5 (by decide)]; exact (cs.2.2.2.2.2.1 t h0 hl).1) (fun σ2 o2 => ?_)
  have oc : Off GC σ σ2 := (o1.mono (by decide)).tr (o2.mono (by decide))
  have hR1 := hR.offC oc
  refine qX11_turning hR1.1 hw (fun σ3 o3 h36 => ?_)
  have q := qfin hM hC hR hS oc (RQ.off36 o3 (by decide) (fun j => by rw [h36 j, hR1.1]))
  exact ⟨rfl, cont _ q.1 q.2⟩
theorem pr_bothWays (hG : Good k σ) (hk : k < 1000) : Pr2 k σ 7 mX10_bothWays [zR 0 0, zI a0] 6 mX11_bothWays [zR 34 0, zI a0, zU, zU, zU] := by
  intro K2 cont
  obtain ⟨s, im, b, N, T, rf, hM, hC, hR, hS⟩ := hG
  have hw := hM.1.1
  have w1 := hw.2.1
  have cs := hC.1.cs
  have e1 : σ 1 0 1 = s 1 := hC.1.1.2.1
  obtain ⟨n, hn⟩ : ∃ n : Nat, s 1 = n := ⟨(s 1).toNat, by omega⟩
  refine gX10_bothWays_0 a0 σ ⟨fun c => ⟨fun c2 σ1 es1 => ?_, fun c2 => leaf_ref hM hC hR hS hk (by omega) cont (fun σ1 K3 r1 l => gX11_bothWays_0 a0 σ1 ⟨fun _ => ⟨fun c3 => absurd (by rw [e1, ← r1.1]; exact c3) c2, fun _ => l⟩, fun c3 => absurd c c3⟩)⟩, fun c => leaf_ref hM hC hR hS hk (by omega) cont (fun σ1 K3 r1 l => gX11_bothWays_0 a0 σ1 ⟨fun c3 => absurd c3 c, fun _ => l⟩)⟩
  rw [e1] at c2
  obtain ⟨o1, t1, m1, n1⟩ := take_ok hM hC es1
  refine qX9_fewestForCost hw hM.1.2.2 t1 m1 n1 (by rw [o1 1 (by decide)]; exact cs.2.2.2.2.1) (fun t h0 hl => by rw [o1 1 (by decide)]; exact (cs.2.2.2.2.2.1 t h0 hl).2) hn (by omega) c (fun σ2 r o2 ha => ?_)
  have oc : Off GC σ σ2 := (o1.mono (by decide)).tr (o2.mono (by decide))
  have hR1 := hR.offC oc
  refine gX11_bothWays_0 a0 σ2 ⟨fun _ => ⟨fun _ => ?_, fun c3 => absurd (by rw [hR1.1]; exact c2) c3⟩, fun c3 => absurd c c3⟩
  refine qX11_fewCost hR1.1 hw hM.1.2.2 hn (by omega) (fun σ3 r' o3 h36 ha' => ?_)
  have q := qfin hM hC hR hS oc (RQ.off36 o3 (by decide) (fun j => by rw [h36 j, hR1.1]))
  exact ⟨FW.uniq (pow_11 (by omega)).2 ha ha', cont _ q.1 q.2⟩
theorem pr_lanes (hG : Good k σ) (hk : k < 1000) : Pr2 k σ 5 mX10_lanes [zR 0 0, zI a0, zI a1, zI a2] 6 mX11_lanes [zR 34 0, zI a0, zI a1, zI a2, zU, zU, zU] := by
  intro K2 cont
  obtain ⟨s, im, b, N, T, rf, hM, hC, hR, hS⟩ := hG
  have hw := hM.1.1
  have w1 := hw.2.1
  have cs := hC.1.cs
  have e0 : σ 1 0 0 = s 0 := hC.1.1.1
  have e1 : σ 1 0 1 = s 1 := hC.1.1.2.1
  obtain ⟨n, hn⟩ : ∃ n : Nat, s 1 = n := ⟨(s 1).toNat, by omega⟩
  have cr : ∀ {σ1 : Hp}, RPt σ1 s im b N T rf → ((0 ≤ a0 ∧ a0 < σ1 36 0 0) ↔ (0 ≤ a0 ∧ a0 < σ 1 0 0)) := fun {σ1} r1 => by rw [r1.1, e0]
  refine gX10_lanes_0 a0 a1 a2 σ ⟨fun c => ⟨fun c2 => leaf_ref hM hC hR hS hk (by omega) cont (fun σ1 K3 r1 l => gX11_lanes_0 a0 a1 a2 σ1 ⟨fun _ => ⟨fun _ => l, fun c3 => absurd c2 c3⟩, fun c3 => absurd ((cr r1).mpr c) c3⟩), fun c2 => ⟨fun c3 => ⟨fun c4 => leaf_ref hM hC hR hS hk (by omega) cont (fun σ1 K3 r1 l => gX11_lanes_0 a0 a1 a2 σ1 ⟨fun _ => ⟨fun c5 => absurd c5 c2, fun _ => ⟨fun _ => ⟨fun _ => l, fun c5 => absurd c4 c5⟩, fun c5 => absurd c3 c5⟩⟩, fun c5 => absurd ((cr r1).mpr c) c5⟩), fun c4 => ⟨fun c5 => leaf_ref hM hC hR hS hk (by omega) cont (fun σ1 K3 r1 l => gX11_lanes_0 a0 a1 a2 σ1 ⟨fun _ => ⟨fun c6 => absurd c6 c2, fun _ => ⟨fun _ => ⟨fun c6 => absurd c6 c4, fun _ => ⟨fun _ => l, fun c6 => absurd c5 c6⟩⟩, fun c6 => absurd c3 c6⟩⟩, fun c6 => absurd ((cr r1).mpr c) c6⟩), fun c5 => ⟨fun c6 σ1 es1 => ?_, fun c6 => leaf_ref hM hC hR hS hk (by omega) cont (fun σ1 K3 r1 l => gX11_lanes_0 a0 a1 a2 σ1 ⟨fun _ => ⟨fun c7 => absurd c7 c2, fun _ => ⟨fun _ => ⟨fun c7 => absurd c7 c4, fun _ => ⟨fun c7 => absurd c7 c5, fun _ => ⟨fun c7 => absurd (by rw [e1, ← r1.1]; exact c7) c6, fun _ => l⟩⟩⟩, fun c7 => absurd c3 c7⟩⟩, fun c7 => absurd ((cr r1).mpr c) c7⟩)⟩⟩⟩, fun c3 => leaf_ref hM hC hR hS hk (by omega) cont (fun σ1 K3 r1 l => gX11_lanes_0 a0 a1 a2 σ1 ⟨fun _ => ⟨fun c4 => absurd c4 c2, fun _ => ⟨fun c4 => absurd c4 c3, fun _ => l⟩⟩, fun c4 => absurd ((cr r1).mpr c) c4⟩)⟩⟩, fun c => leaf_ref hM hC hR hS hk (by omega) cont (fun σ1 K3 r1 l => gX11_lanes_0 a0 a1 a2 σ1 ⟨fun c3 => absurd ((cr r1).mp c3) c, fun _ => l⟩)⟩
  rw [e1] at c6
  rw [e0] at c
  obtain ⟨o1, t1, m1, n1⟩ := take_ok hM hC es1
  refine qX9_fewestForReach hw hM.1.2.2 t1 m1 (by rw [o1 1 (by decide)]; exact cs.2.2.2.2.1) (fun t h0 hl => by rw [o1 1 (by decide)]; exact (cs.2.2.2.2.2.1 t h0 hl).2) hn (by omega) c (by omega) (by omega) (fun σ2 r o2 ha => ?_)
  have oc : Off GC σ σ2 := (o1.mono (by decide)).tr (o2.mono (by decide))
  have hR1 := hR.offC oc
  refine gX11_lanes_0 a0 a1 a2 σ2 ⟨fun _ => ⟨fun c7 => absurd c7 c2, fun _ => ⟨fun _ => ⟨fun c7 => absurd c7 c4, fun _ => ⟨fun c7 => absurd c7 c5, fun _ => ⟨fun _ => ?_, fun c7 => absurd (by rw [hR1.1]; exact c6) c7⟩⟩⟩, fun c7 => absurd c3 c7⟩⟩, fun c7 => absurd (by rw [hR1.1]; exact c) c7⟩
  refine qX11_fewReach hR1.1 hw hM.1.2.2 hn (by omega) c (by omega) (by omega) (fun σ3 r' o3 h36 ha' => ?_)
  have q := qfin hM hC hR hS oc (RQ.off36 o3 (by decide) (fun j => by rw [h36 j, hR1.1]))
  exact ⟨FW.uniq (pow_11 (by omega)).2 ha ha', cont _ q.1 q.2⟩
theorem pr_bestNoon (hG : Good k σ) (hk : k < 1000) : Pr2 k σ 7 mX10_bestNoon [zR 0 0] 6 mX11_bestNoon [zR 34 0, zU, zU, zU, zU, zU] := by
  intro K2 cont
  obtain ⟨s, im, b, N, T, rf, hM, hC, hR, hS⟩ := hG
  have hw := hM.1.1
  refine gX10_bestNoon_0 σ (fun σ1 es1 => ?_)
  obtain ⟨o1, t1, m1, n1⟩ := take_ok hM hC es1
  refine qX9_cheapestNoon hw t1 m1 n1 (fun σ2 r o2 ha => ?_)
  have oc : Off GC σ σ2 := (o1.mono (by decide)).tr (o2.mono (by decide))
  have hR1 := hR.offC oc
  refine qX11_bestNoon hR1.1 hw (fun σ3 r' o3 h36 ha' => ?_)
  have q := qfin hM hC hR hS oc (RQ.off36 o3 (by decide) (fun j => by rw [h36 j, hR1.1]))
  exact ⟨ha.uniq ha', cont _ q.1 q.2⟩
theorem pr_lives (hG : Good k σ) (hk : k < 1000) : Pr2 k σ 6 mX10_lives [zR 0 0] 6 mX11_lives [zR 34 0, zU, zU, zU, zU] := by
  intro K2 cont
  obtain ⟨s, im, b, N, T, rf, hM, hC, hR, hS⟩ := hG
  have hw := hM.1.1
  refine gX10_lives_0 σ (fun σ1 es1 => ?_)
  obtain ⟨o1, t1, m1, n1⟩ := take_ok hM hC es1
  refine qX1_cheapestHome hw t1 m1 n1 (fun σ2 r k2 ha => ?_)
  have oc : Off GC σ σ2 := (o1.mono (by decide)).tr (k2.1.mono (by decide))
  have hR1 := hR.offC oc
  refine qX11_lives hR1.1 hw (fun σ3 r' o3 h36 ha' => ?_)
  have q := qfin hM hC hR hS oc (RQ.off36 o3 (by decide) (fun j => by rw [h36 j, hR1.1]))
  exact ⟨ha.uniq ha', cont _ q.1 q.2⟩
theorem pr_days (hG : Good k σ) (hk : k < 1000) : Pr2 k σ 6 mX10_days [zR 0 0, zI a0, zI a1] 6 mX11_days [zR 34 0, zI a0, zI a1, zU, zU, zU, zU, zU] := by
  intro K2 cont
  obtain ⟨s, im, b, N, T, rf, hM, hC, hR, hS⟩ := hG
  have hw := hM.1.1
  have hz := zw a0 1 10
  have rfs : ∀ n : Int, (-6 ≤ n ∧ n ≤ -1) → zwithin a0 1 10 = n → (-6 ≤ n ∧ n ≤ -1) ∧ (σ 33 0 (-n).toNat ≤ 2147483646) ∧ ∀ σ1 : Hp, σ1 = zup σ 33 0 (-n).toNat (σ 33 0 (-n).toNat + 1) → rI (fun z1 σ1 => Runs 6 mX11_days 0 [zR 34 0, zI a0, zI a1, zU, zU, zU, zU, zU] [] σ1 (rI (fun z2 σ2 => z1 = z2 ∧ K2 σ2))) (some n) σ1 := fun n hn ez => leaf_ref hM hC hR hS hk hn cont (fun σ1 K3 r1 l => gX11_days_0 a0 a1 σ1 ⟨fun c3 => absurd c3 (by omega), fun _ => by rw [ez]; exact l⟩)
  refine gX10_days_0 a0 a1 σ ⟨fun c => ⟨fun c2 σ1 es1 => ?_, fun c2 => rfs (-6) (by omega) (by omega)⟩, fun c => rfs (-4) (by omega) (by omega)⟩
  obtain ⟨nd, hnd⟩ : ∃ n : Nat, a0 = n := ⟨a0.toNat, by omega⟩
  subst hnd
  obtain ⟨o1, t1, m1, n1⟩ := take_ok hM hC es1
  refine qX1_totalOfDays hw t1 m1 n1 (by omega) (fun σ2 o2 => ?_)
  have oc : Off GC σ σ2 := (o1.mono (by decide)).tr (o2.mono (by decide))
  have hR1 := hR.offC oc
  refine gX11_days_0 _ a1 σ2 ⟨fun _ => ?_, fun c3 => absurd (by omega) c3⟩
  refine qX11_days hR1.1 hw (by omega) (fun σ3 o3 h36 => ?_)
  have q := qfin hM hC hR hS oc (RQ.off36 o3 (by decide) (fun j => by rw [h36 j, hR1.1]))
  exact ⟨rfl, cont _ q.1 q.2⟩
theorem pr_shuts (hG : Good k σ) (hk : k < 1000) : Pr2 k σ 7 mX10_shuts [zR 0 0, zI a0, zU] 6 mX11_shuts [zR 34 0, zI a0, zU, zU, zU] := by
  intro K2 cont
  obtain ⟨s, im, b, N, T, rf, hM, hC, hR, hS⟩ := hG
  have hw := hM.1.1
  have w1 := hw.2.1
  have w4 := hw.2.2.2.2.1
  have e1 : σ 1 0 1 = s 1 := hC.1.1.2.1
  refine gX10_shuts_0 a0 σ ⟨fun c σ1 es1 => ?_, fun c => leaf_ref hM hC hR hS hk (by omega) cont (fun σ1 K3 r1 l => gX11_shuts_0 a0 σ1 ⟨fun c3 => absurd (by rw [e1, ← r1.1]; exact c3) c, fun _ => l⟩)⟩
  rw [e1] at c
  have sh := shl_r a0.toNat (by omega)
  rw [Int.toNat_of_nonneg c.1] at sh
  have zr := zor_r w4 sh
  have hw4 : WF (su s 4 (zor (s 4) (zshl 1 a0))) := WF_su hw (Or.inl ⟨Or.inr (Or.inl rfl), zr⟩)
  have b1 := costM_b hw
  have b2 := costM_b hw4
  obtain ⟨o1, t1, m1, n1⟩ := take_ok hM hC es1
  refine qX1_total hw t1 m1 n1 (fun σ2 k2 σ3 es3 => ?_)
  have e5 : σ2 1 0 5 = s 4 := by rw [k2.1 1 (by decide), o1 1 (by decide)]; exact hC.1.cs.2.2.1
  rw [e5] at es3
  have t2 := (k2.T t1 m1)
  have t3 : TRc σ3 (su s 4 (zor (s 4) (zshl 1 a0))) := by rw [es3]; exact TRc_shut t2.1
  have o3 : Off [16] σ2 σ3 := by rw [es3]; exact Off.rf.up (by decide)
  have n2 : TMe σ2 s := n1.keep k2.1 (by decide) (by decide) (by decide) (by decide) (by decide)
  refine qX1_total hw4 t3 (TMs_su (by omega) (t2.2.keep o3 (by decide) (by decide) (by decide) (by decide))) (TMe_su (by omega) (n2.keep o3 (by decide) (by decide) (by decide) (by decide) (by decide))) (fun σ4 k4 => ⟨by omega, ?_⟩)
  have oc : Off GC σ σ4 := (((o1.mono (by decide)).tr (k2.1.mono (by decide))).tr (o3.mono (by decide))).tr (k4.1.mono (by decide))
  have hR1 := hR.offC oc
  refine gX11_shuts_0 a0 σ4 ⟨fun _ => ?_, fun c3 => absurd (by rw [hR1.1]; exact c) c3⟩
  refine qX11_costOf (by rw [hR1.1]; exact hw) (fun σ5 o5 => ?_)
  have e36 : σ5 36 0 = s := by rw [o5 36 (by decide)]; exact hR1.1
  rw [hR1.1, e36]
  have z36 : (zup σ5 36 0 4 (zor (s 4) (zshl 1 a0))) 36 0 = su s 4 (zor (s 4) (zshl 1 a0)) := by rw [zup_su, e36]
  refine qX11_costOf (by rw [z36]; exact hw4) (fun σ6 o6 => ?_)
  rw [z36]
  refine ⟨by omega, rfl, ?_⟩
  have o46 : Off [36, 41, 42] σ4 (zup σ6 36 0 4 (s 4)) := (((o5.mono (by decide)).up (by decide)).tr (o6.mono (by decide))).up (by decide)
  have q := qfin hM hC hR hS oc (RQ.off36 (G := [41, 42]) o46 (by decide) (fun j => by
    rw [zup_su, o6 36 (by decide), z36, su_su, su_id, hR1.1]))
  exact cont _ q.1 q.2
theorem qX10_traceErrand {s : Nat → Int} {K' : Hp → Prop} (hw : WF s) (ht : TRc σ s) (hm : TMs σ s) (he : TMe σ s) (h0 : 0 ≤ a0 ∧ a0 < s 2) (cont : ∀ σ', OffT a0.toNat σ σ' → Traced σ' a0.toNat s (eF s a0) (eT s a0) (se s a0 2) → K' σ') : Runs 5 mX10_traceErrand 0 [zR 0 0, zI a0] [] σ (rV K') := by
  have w2 := hw.2.2.1
  obtain ⟨t6, t7, t8, t9⟩ := he.2 a0 h0.1 h0.2
  obtain ⟨e0, e1, e2, e3⟩ := er_of hw h0
  refine gX10_traceErrand_0 a0 σ ?_
  rw [t6, t7, t8]
  exact ⟨by omega, by omega, by omega, by omega, qX4_trace hw ht hm e0 e1 (by omega) (fun σ' o' t' => cont σ' o' t')⟩
theorem Traced.keep {σ' : Hp} {t : Nat} {s : Nat → Int} {f to : Nat} {m : Int} (h : Traced σ t s f to m) (hk : ∀ g, 28 ≤ g → σ' g t = σ g t) : Traced σ' t s f to m := by
  refine ⟨fun q => by rw [hk 28 (by omega)]; exact h.1 q, fun q => ?_⟩
  obtain ⟨L, r1, r2⟩ := h.2 q
  exact ⟨L, r1, r2.keep hk⟩
theorem eD_b {s : Nat → Int} (hw : WF s) {e : Int} (he : 0 ≤ e ∧ e < s 2) : eD s e (eT s e) = 1000000 ∨ eD s e (eT s e) < 1000000 := by
  have w0 := hw.1
  obtain ⟨e0, e1, e2, e3⟩ := er_of hw he
  have b := (dist_soon hw (f := (se s e 0).toNat) (m0 := se s e 2) (by omega) (by omega)).2.2.2.1 (se s e 1).toNat (by omega)
  have : eD s e (eT s e) = dist s (se s e 0).toNat (se s e 2) (se s e 1).toNat := rfl
  omega
theorem pr_meets (hG : Good k σ) (hk : k < 1000) : Pr2 k σ 6 mX10_meets [zR 0 0, zI a0, zI a1] 8 mX11_meets [zR 34 0, zI a0, zI a1] := by
  intro K2 cont
  obtain ⟨s, im, b, N, T, rf, hM, hC, hR, hS⟩ := hG
  have hw := hM.1.1
  have w2 := hw.2.2.1
  have e2 : σ 1 0 2 = s 2 := hC.1.1.2.2.1
  have cr : ∀ {σ1 : Hp} (a : Int), RPt σ1 s im b N T rf → ((0 ≤ a ∧ a < σ1 36 0 2) ↔ (0 ≤ a ∧ a < σ 1 0 2)) := fun {σ1} a r1 => by rw [r1.1, e2]
  refine gX10_meets_0 a0 a1 σ ⟨fun c => ⟨fun c2 => ⟨fun c3 σ1 es1 => ?_, fun c3 => leaf_ref hM hC hR hS hk (by omega) cont (fun σ1 K3 r1 l => gX11_meets_0 a0 a1 σ1 ⟨fun _ => ⟨fun _ => ⟨fun c4 => absurd c3 c4, fun _ => l⟩, fun c4 => absurd ((cr a1 r1).mpr c2) c4⟩, fun c4 => absurd ((cr a0 r1).mpr c) c4⟩)⟩, fun c2 => leaf_ref hM hC hR hS hk (by omega) cont (fun σ1 K3 r1 l => gX11_meets_0 a0 a1 σ1 ⟨fun _ => ⟨fun c4 => absurd ((cr a1 r1).mp c4) c2, fun _ => l⟩, fun c4 => absurd ((cr a0 r1).mpr c) c4⟩)⟩, fun c => leaf_ref hM hC hR hS hk (by omega) cont (fun σ1 K3 r1 l => gX11_meets_0 a0 a1 σ1 ⟨fun c4 => absurd ((cr a0 r1).mp c4) c, fun _ => l⟩)⟩
  rw [e2] at c c2
  obtain ⟨o1, t1, m1, n1⟩ := take_ok hM hC es1
  refine qX10_traceErrand hw t1 m1 n1 c (fun σ2 o2 tr2 => ?_)
  have t2 := o2.T t1 m1
  have n2 : TMe σ2 s := n1.keep o2.1 (by decide) (by decide) (by decide) (by decide) (by decide)
  refine qX10_traceErrand hw t2.1 t2.2 n2 c2 (fun σ3 o3 tr3 => ⟨by omega, by omega, ?_⟩)
  have tr2' := tr2.keep (σ' := σ3) (fun g hg => o3.2.2 g _ (by omega) hg)
  have oc : Off GC σ σ3 := ((o1.mono (by decide)).tr (o2.1.mono (by decide))).tr (o3.1.mono (by decide))
  have hR1 := hR.offC oc
  have ref : ∀ z, (z = 1 ∧ MT s a0 a1) ∨ (z = 0 ∧ ¬ MT s a0 a1) → Runs 8 mX11_meets 0 [zR 34 0, zI a0, zI a1] [] σ3 (rI (fun z2 σ2 => z = z2 ∧ K2 σ2)) := fun z hz => by
    refine gX11_meets_0 a0 a1 σ3 ⟨fun _ => ⟨fun _ => ⟨fun _ => ?_, fun q => absurd q c3⟩, fun q => absurd (by rw [hR1.1]; exact c2) q⟩, fun q => absurd (by rw [hR1.1]; exact c) q⟩
    refine qX11_areMet hR1.1 hw c c2 (fun σ4 o4 hm4 => ⟨fun q => absurd q (by omega), fun _ => ?_⟩) (fun σ4 o4 hm4 => ⟨fun _ => ?_, fun q => absurd rfl q⟩)
    · have q := qfin hM hC hR hS oc (RQ.offm o4 (by decide) (by decide) (by decide))
      rcases hz with y | y
      · exact ⟨y.1, cont _ q.1 q.2⟩
      · exact absurd hm4 y.2
    · have q := qfin hM hC hR hS oc (RQ.offm o4 (by decide) (by decide) (by decide))
      rcases hz with y | y
      · exact absurd y.2 hm4
      · exact ⟨y.1, cont _ q.1 q.2⟩
  exact qX4_crosses tr2' tr3 (eD_b hw c) (eD_b hw c2) (fun h => ⟨fun q => absurd q (by omega), fun _ => ref 1 (Or.inl ⟨rfl, h⟩)⟩) (fun h => ⟨fun _ => ref 0 (Or.inr ⟨rfl, h⟩), fun q => absurd rfl q⟩)
/-- pairs: summed this way and that -/
noncomputable def xm (s : Nat → Int) (i j : Nat) : Int := @ite _ (MT s (i : Int) (j : Int)) (Classical.propDecidable _) 0 1
theorem xm_symm (s : Nat → Int) (i j : Nat) : xm s i j = xm s j i := by
  unfold xm
  by_cases h : MT s (i : Int) (j : Int)
  · rw [if_pos h, if_pos h.symm]
  · rw [if_neg h, if_neg (fun q => h q.symm)]
noncomputable def rowS (f : Nat → Nat → Int) (i : Nat) : Nat → Int
  | 0 => 0
  | j + 1 => rowS f i j + f i j
noncomputable def clsS (f : Nat → Nat → Int) : Nat → Int
  | 0 => 0
  | i + 1 => clsS f i + rowS f i i
noncomputable def colS (f : Nat → Nat → Int) (a : Nat) : Nat → Int
  | 0 => 0
  | c + 1 => colS f a c + (if a < c then f a c else 0)
noncomputable def refS (f : Nat → Nat → Int) (n : Nat) : Nat → Int
  | 0 => 0
  | a + 1 => refS f n a + colS f a n
theorem colS_0 (f : Nat → Nat → Int) (a : Nat) : ∀ c, c ≤ a + 1 → colS f a c = 0
  | 0, _ => rfl
  | c + 1, h => by
    unfold colS
    rw [colS_0 f a c (by omega), if_neg (by omega)]
    rfl
theorem refS_up (f : Nat → Nat → Int) (hf : ∀ i j, f i j = f j i) (n : Nat) : ∀ a, a ≤ n → refS f (n + 1) a = refS f n a + rowS f n a
  | 0, _ => rfl
  | a + 1, h => by
    have ih := refS_up f hf n a (by omega)
    show refS f (n + 1) a + colS f a (n + 1) = refS f n a + colS f a n + (rowS f n a + f n a)
    have e : colS f a (n + 1) = colS f a n + f a n := by
      show colS f a n + (if a < n then f a n else 0) = _
      rw [if_pos (by omega)]
    rw [ih, e, hf n a]
    omega
theorem refS_eq (f : Nat → Nat → Int) (hf : ∀ i j, f i j = f j i) : ∀ n, refS f n n = clsS f n
  | 0 => rfl
  | n + 1 => by
    show refS f (n + 1) n + colS f n (n + 1) = clsS f n + rowS f n n
    rw [refS_up f hf n n (Nat.le_refl _), colS_0 f n (n + 1) (by omega), refS_eq f hf n]
    omega
theorem xm_b (s : Nat → Int) (i j : Nat) : 0 ≤ xm s i j ∧ xm s i j ≤ 1 := by
  unfold xm
  by_cases h : MT s (i : Int) (j : Int)
  · rw [if_pos h]; omega
  · rw [if_neg h]; omega
theorem rowS_b (s : Nat → Int) (i : Nat) : ∀ j, 0 ≤ rowS (xm s) i j ∧ rowS (xm s) i j ≤ j
  | 0 => by unfold rowS; omega
  | j + 1 => by
    have ih := rowS_b s i j
    have x := xm_b s i j
    unfold rowS
    omega
theorem colS_b (s : Nat → Int) (a : Nat) : ∀ c, 0 ≤ colS (xm s) a c ∧ colS (xm s) a c ≤ c
  | 0 => by unfold colS; omega
  | c + 1 => by
    have ih := colS_b s a c
    have x := xm_b s a c
    unfold colS
    split <;> omega
theorem clsS_b (s : Nat → Int) : ∀ i, i ≤ 8 → 0 ≤ clsS (xm s) i ∧ clsS (xm s) i ≤ 8 * i
  | 0, _ => by unfold clsS; omega
  | i + 1, h => by
    have ih := clsS_b s i (by omega)
    have r := rowS_b s i i
    unfold clsS
    omega
theorem refS_b (s : Nat → Int) {n : Nat} (hn : n ≤ 8) : ∀ a, 0 ≤ refS (xm s) n a ∧ refS (xm s) n a ≤ 8 * a
  | 0 => by unfold refS; omega
  | a + 1 => by
    have ih := refS_b s hn a
    have r := colS_b s a n
    unfold refS
    omega
theorem pr_pairs (hG : Good k σ) (hk : k < 1000) : Pr2 k σ 6 mX10_pairs [zR 0 0, zU, zU, zU] 8 mX11_pairs [zR 34 0, zU, zU, zU] := by
  intro K2 cont
  obtain ⟨s, im, b, N, T, rf, hM, hC, hR, hS⟩ := hG
  have hw := hM.1.1
  have w2 := hw.2.2.1
  have e2 : σ 1 0 2 = s 2 := hC.1.1.2.2.1
  obtain ⟨n, hn⟩ : ∃ n : Nat, s 2 = n := ⟨(s 2).toNat, by omega⟩
  -- the reference's
  have ref : ∀ (σ1 : Hp), Off GC σ σ1 → Runs 8 mX11_pairs 0 [zR 34 0, zU, zU, zU] [] σ1 (rI (fun z2 σ2 => clsS (xm s) n = z2 ∧ K2 σ2)) := fun σ1 oc => by
    have hR1 := hR.offC oc
    refine gX11_pairs_0 σ1 (upto (α := Hp × Int) (N := n) (R := fun a q => Runs 8 mX11_pairs 4 [zR 34 0, zI q.2, zI a, zU] [] q.1 (rI (fun z2 σ2 => clsS (xm s) n = z2 ∧ K2 σ2))) (I := fun a q => RQ σ1 q.1 ∧ q.2 = refS (xm s) n a.toNat) (fun q hI => ?_) (fun a q a0 al hI nx => ?_) (a := (σ1, 0)) (Int.le_refl 0) (by omega) ⟨RQ.rf_, rfl⟩)
    · obtain ⟨σ2, c⟩ := q
      obtain ⟨r2, ec⟩ := hI
      dsimp only at r2 ec
      have h36 : σ2 36 0 = s := r2.2.2.1.trans hR1.1
      refine gX11_pairs_4 c n σ2 ⟨fun _ => ?_, fun z => absurd (by rw [h36, hn]; exact Int.le_refl _) z⟩
      have q := qfin hM hC hR hS oc r2
      refine ⟨?_, cont _ q.1 q.2⟩
      rw [ec]
      exact (refS_eq (xm s) (xm_symm s) n).symm
    · obtain ⟨σ2, c⟩ := q
      obtain ⟨r2, ec⟩ := hI
      dsimp only at r2 ec
      have h36 : σ2 36 0 = s := r2.2.2.1.trans hR1.1
      have rb := refS_b s (n := n) (by omega) a.toNat
      refine gX11_pairs_4 c a σ2 ⟨fun z => absurd z (by rw [h36]; omega), fun _ => ⟨by omega, ?_⟩⟩
      refine upto (α := Hp × Int) (N := n) (R := fun u q => Runs 8 mX11_pairs 18 [zR 34 0, zI q.2, zI a, zI u] [] q.1 (rI (fun z2 σ2 => clsS (xm s) n = z2 ∧ K2 σ2))) (I := fun u q => RQ σ1 q.1 ∧ a + 1 ≤ u ∧ q.2 = refS (xm s) n a.toNat + colS (xm s) a.toNat u.toNat) (fun q hI => ?_) (fun u q u0 ul hI nx2 => ?_) (t := a + 1) (a := (σ2, c)) (by omega) (by omega) ⟨r2, Int.le_refl _, ?_⟩
      · obtain ⟨σ3, c3⟩ := q
        obtain ⟨r3, -, ec3⟩ := hI
        dsimp only at r3 ec3
        have h363 : σ3 36 0 = s := r3.2.2.1.trans hR1.1
        refine gX11_pairs_18 c3 a n σ3 ⟨fun _ => ⟨by omega, nx (σ3, c3) ⟨r3, ?_⟩⟩, fun z => absurd (by rw [h363, hn]; exact Int.le_refl _) z⟩
        rw [show (a + 1).toNat = a.toNat + 1 by omega]
        exact ec3
      · obtain ⟨σ3, c3⟩ := q
        obtain ⟨r3, hu, ec3⟩ := hI
        dsimp only at r3 ec3
        have h363 : σ3 36 0 = s := r3.2.2.1.trans hR1.1
        have cb := colS_b s a.toNat u.toNat
        have ecol : colS (xm s) a.toNat (u + 1).toNat = colS (xm s) a.toNat u.toNat + xm s a.toNat u.toNat := by
          rw [show (u + 1).toNat = u.toNat + 1 by omega]
          show colS (xm s) a.toNat u.toNat + (if a.toNat < u.toNat then xm s a.toNat u.toNat else 0) = _
          rw [if_pos (by omega)]
        have ea : ((a.toNat : Nat) : Int) = a := Int.toNat_of_nonneg a0
        have eu : ((u.toNat : Nat) : Int) = u := Int.toNat_of_nonneg u0
        refine gX11_pairs_18 c3 a u σ3 ⟨fun z => absurd z (by rw [h363]; omega), fun _ => ?_⟩
        refine qX11_areMet h363 hw (by omega) (by omega) (fun σ4 o4 hm4 => ⟨fun z => absurd z (by omega), fun _ => ⟨by omega, by omega, nx2 (σ4, c3 + 0) ⟨r3.tr (RQ.offm o4 (by decide) (by decide) (by decide)), by omega, ?_⟩⟩⟩) (fun σ4 o4 hm4 => ⟨fun _ => ⟨by omega, by omega, nx2 (σ4, c3 + 1) ⟨r3.tr (RQ.offm o4 (by decide) (by decide) (by decide)), by omega, ?_⟩⟩, fun z => absurd rfl z⟩)
        · have x0 : xm s a.toNat u.toNat = 0 := by unfold xm; rw [ea, eu, if_pos hm4]
          dsimp only
          rw [ecol, x0]
          omega
        · have x0 : xm s a.toNat u.toNat = 1 := by unfold xm; rw [ea, eu, if_neg hm4]
          dsimp only
          rw [ecol, x0]
          omega
      · dsimp only
        rw [ec, colS_0 _ _ _ (by omega)]
        omega
  -- the class's
  refine gX10_pairs_0 σ (fun σ1 es1 => ?_)
  obtain ⟨o1, t1, m1, n1⟩ := take_ok hM hC es1
  have oc1 : Off GC σ σ1 := o1.mono (by decide)
  refine upto (α := Hp × Int) (N := n) (R := fun i q => Runs 6 mX10_pairs 11 [zR 0 0, zI q.2, zI i, zU] [] q.1 (rI (fun z1 σ1 => Runs 8 mX11_pairs 0 [zR 34 0, zU, zU, zU] [] σ1 (rI (fun z2 σ2 => z1 = z2 ∧ K2 σ2))))) (I := fun i q => Off GC σ1 q.1 ∧ (∀ j, j < 7 → q.1 16 0 j = σ1 16 0 j) ∧ q.2 = clsS (xm s) i.toNat ∧ ∀ e : Nat, (e : Int) < i → Traced q.1 e s (eF s e) (eT s e) (se s e 2)) (fun q hI => ?_) (fun i q i0 il hI nx => ?_) (a := (σ1, 0)) (Int.le_refl 0) (by omega) ⟨Off.rf, fun _ _ => rfl, rfl, fun e he => absurd he (by omega)⟩
  · obtain ⟨σ2, c⟩ := q
    obtain ⟨o2, k2, ec, tr⟩ := hI
    dsimp only at o2 k2 ec tr
    have h12 : σ2 1 0 2 = n := by rw [o2 1 (by decide), o1 1 (by decide), e2]; exact hn
    refine gX10_pairs_11 c n σ2 ⟨fun _ => ?_, fun z => absurd (by rw [h12]; exact Int.le_refl _) z⟩
    rw [show clsS (xm s) (n : Int).toNat = clsS (xm s) n from rfl] at ec
    rw [ec]
    exact ref σ2 (oc1.tr o2)
  · obtain ⟨σ2, c⟩ := q
    obtain ⟨o2, k2, ec, tr⟩ := hI
    dsimp only at o2 k2 ec tr
    have h12 : σ2 1 0 2 = n := by rw [o2 1 (by decide), o1 1 (by decide), e2]; exact hn
    have t2 : TRc σ2 s := t1.keep k2
    have m2 : TMs σ2 s := m1.keep o2 (by decide) (by decide) (by decide) (by decide)
    have n2 : TMe σ2 s := n1.keep o2 (by decide) (by decide) (by decide) (by decide) (by decide)
    have ei : ((i.toNat : Nat) : Int) = i := Int.toNat_of_nonneg i0
    have cb := clsS_b s i.toNat (by omega)
    refine gX10_pairs_11 c i σ2 ⟨fun z => absurd z (by omega), fun _ => ?_⟩
    refine qX10_traceErrand hw t2 m2 n2 (by omega) (fun σ3 o3 tr3 => ?_)
    have o23 : Off GC σ1 σ3 := o2.tr (o3.1.mono (by decide))
    have trs : ∀ e : Nat, (e : Int) ≤ i → Traced σ3 e s (eF s e) (eT s e) (se s e 2) := fun e he => by
      by_cases q : (e : Int) = i
      · have : e = i.toNat := by omega
        rw [this]
        rw [← ei] at tr3
        exact tr3
      · exact (tr e (by omega)).keep (fun g hg => o3.2.2 g e (by omega) hg)
    refine upto (α := Int) (N := i) (R := fun u c => Runs 6 mX10_pairs 29 [zR 0 0, zI c, zI i, zI u] [] σ3 (rI (fun z1 σ1 => Runs 8 mX11_pairs 0 [zR 34 0, zU, zU, zU] [] σ1 (rI (fun z2 σ2 => z1 = z2 ∧ K2 σ2))))) (I := fun u c => c = clsS (xm s) i.toNat + rowS (xm s) i.toNat u.toNat) (fun c2 hI => ?_) (fun u c2 u0 ul hI nx2 => ?_) (Int.le_refl 0) i0 (by rw [ec]; show _ = _ + 0; omega)
    · refine gX10_pairs_29 c2 i i σ3 ⟨fun _ => ⟨by omega, nx (σ3, c2) ⟨o23, fun j hj => (o3.2.1 j hj).trans (k2 j hj), ?_, fun e he => trs e (by omega)⟩⟩, fun z => absurd (Int.le_refl _) z⟩
      dsimp only
      rw [show (i + 1).toNat = i.toNat + 1 by omega]
      exact hI
    · have rb := rowS_b s i.toNat u.toNat
      have erow : rowS (xm s) i.toNat (u + 1).toNat = rowS (xm s) i.toNat u.toNat + xm s i.toNat u.toNat := by rw [show (u + 1).toNat = u.toNat + 1 by omega]; rfl
      have eu : ((u.toNat : Nat) : Int) = u := Int.toNat_of_nonneg u0
      have ti := trs i.toNat (by omega)
      have tu := trs u.toNat (by omega)
      rw [ei] at ti
      rw [eu] at tu
      refine gX10_pairs_29 c2 i u σ3 ⟨fun z => absurd z (by omega), fun _ => ⟨by omega, by omega, ?_⟩⟩
      refine qX4_crosses ti tu (eD_b hw (by omega)) (eD_b hw (by omega)) (fun h => ⟨fun z => absurd z (by omega), fun _ => ⟨by omega, by omega, nx2 _ ?_⟩⟩) (fun h => ⟨fun _ => ⟨by omega, by omega, nx2 _ ?_⟩, fun z => absurd rfl z⟩)
      · have x0 : xm s i.toNat u.toNat = 0 := by unfold xm; rw [ei, eu, if_pos h]
        rw [erow, x0]; omega
      · have x0 : xm s i.toNat u.toNat = 1 := by unfold xm; rw [ei, eu, if_neg h]
        rw [erow, x0]; omega
end Pairs2
