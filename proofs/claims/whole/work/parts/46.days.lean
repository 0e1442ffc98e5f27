/-! days by seeds -/
theorem zand_mask (a : Int) : 0 ≤ zand a 2147483647 ∧ zand a 2147483647 ≤ 2147483647 := by
  unfold zand
  have h : (n32 a &&& n32 2147483647).toBitVec.toNat ≤ 2147483647 := by
    show ((n32 a).toBitVec &&& (n32 2147483647).toBitVec).toNat ≤ _
    rw [BitVec.toNat_and]
    exact Nat.le_trans Nat.and_le_right (by decide)
  show 0 ≤ (n32 a &&& n32 2147483647).toBitVec.toInt ∧ _
  have e : (n32 a &&& n32 2147483647).toInt = ((n32 a &&& n32 2147483647).toBitVec.toNat : Int) := by
    show (n32 a &&& n32 2147483647).toBitVec.toInt = _
    exact BitVec.toInt_eq_toNat_of_lt (by omega)
  have e2 : (n32 a &&& n32 2147483647).toBitVec.toInt = ((n32 a &&& n32 2147483647).toBitVec.toNat : Int) := e
  rw [e, e2]
  omega
theorem zdraw_b (z : Int) : 0 ≤ zdraw z ∧ zdraw z ≤ 1439 := by
  unfold zdraw
  have h := zand_mask (zlcg z)
  have hd : zdiv (zand (zlcg z) 2147483647) 256 = zand (zlcg z) 2147483647 / 256 := n32_quot ⟨by omega, by omega⟩ ⟨by omega, by omega⟩ h.1 (by omega)
  rw [hd]
  have hr : zrem (zand (zlcg z) 2147483647 / 256) 1440 = zand (zlcg z) 2147483647 / 256 % 1440 := zrem_eq ⟨by omega, by omega⟩ ⟨by omega, by omega⟩ (by omega) (by omega)
  rw [hr]
  omega
def lcgN (z : Int) : Nat → Int
  | 0 => z
  | n + 1 => zlcg (lcgN z n)
noncomputable def dayM (s : Nat → Int) (z : Int) : Int := costG s (fun e => se s e 0) (fun e => zdraw (lcgN z e)) (s 2).toNat
def sdK (s : Nat → Int) (z : Int) : Nat → Int
  | 0 => z
  | k + 1 => lcgN (sdK s z k) (s 2).toNat
noncomputable def dsum (s : Nat → Int) (z : Int) : Nat → Int
  | 0 => 0
  | k + 1 => dsum s z k + dayM s (sdK s z k)
theorem day_hx {s : Nat → Int} (hw : WF s) (z : Int) : ∀ e : Nat, (e : Int) < s 2 → (0 ≤ (fun e : Nat => se s e 0) e ∧ (fun e : Nat => se s e 0) e < s 0) ∧ (0 ≤ (fun e : Nat => zdraw (lcgN z e)) e ∧ (fun e : Nat => zdraw (lcgN z e)) e ≤ 2879) := fun e he => by
  obtain ⟨e0, e1, e2, e3⟩ := er_of hw (e := (e : Int)) (by omega)
  have := zdraw_b (lcgN z e)
  exact ⟨e0, by show 0 ≤ zdraw (lcgN z e); omega, by show zdraw (lcgN z e) ≤ 2879; omega⟩
theorem dayM_b {s : Nat → Int} (hw : WF s) (z : Int) : 0 ≤ dayM s z ∧ dayM s z ≤ 216000 := by
  have w2 := hw.2.2.1
  have := costG_b hw (F := fun e => se s e 0) (A := fun e => zdraw (lcgN z e)) (s 2).toNat (by omega) (fun e he => day_hx hw z e (by omega))
  unfold dayM
  omega
theorem dsum_b {s : Nat → Int} (hw : WF s) (z : Int) : ∀ k : Nat, 0 ≤ dsum s z k ∧ dsum s z k ≤ 216000 * k
  | 0 => by unfold dsum; omega
  | k + 1 => by
    have ih := dsum_b hw z k
    have b := dayM_b hw (sdK s z k)
    unfold dsum
    omega
theorem qX1_totalOfDays {σ : Hp} {K : Int → Hp → Prop} {s : Nat → Int} (hw : WF s) (ht : TRc σ s) (hm : TMs σ s) (he : TMe σ s) {nd : Nat} (hnd : nd ≤ 10) {z : Int} (h : ∀ σ', Off [16, 17, 18, 25] σ σ' → K (dsum s z nd) σ') : Runs 5 mX1_totalOfDays 0 [zR 25 0, zI (nd : Int), zI z, zU, zU, zU] [] σ (rI K) := by
  have w0 := hw.1
  have w2 := hw.2.2.1
  have outer : ∀ (n k : Nat) (σ1 : Hp), k + n = nd → Off [16, 17, 18, 25] σ σ1 → TRc σ1 s → σ1 25 0 2 = sdK s z k → Runs 5 mX1_totalOfDays 10 [zR 25 0, zI (nd : Int), zU, zI (dsum s z k), zI (k : Int), zU] [] σ1 (rI K) := by
    intro n
    induction n with
    | zero =>
      intro k σ1 hk ho ht1 hz
      refine gX1_totalOfDays_10 (nd : Int) _ (k : Int) σ1 ⟨fun _ => ?_, fun q => absurd (show (nd : Int) ≤ k by omega) q⟩
      rw [show k = nd by omega]
      exact h σ1 ho
    | succ n ih =>
      intro k σ1 hk ho ht1 hz
      have db := dsum_b hw z k
      refine gX1_totalOfDays_10 (nd : Int) _ (k : Int) σ1 ⟨fun q => absurd q (by omega), fun _ => ?_⟩
      have inner : ∀ (m e : Nat) (σ2 : Hp), (s 2 - e).toNat ≤ m → (e : Int) ≤ s 2 → Off [16, 17, 18, 25] σ σ2 → TRc σ2 s → σ2 25 0 2 = lcgN (sdK s z k) e → Runs 5 mX1_totalOfDays 19 [zR 25 0, zI (nd : Int), zU, zI (dsum s z k + costG s (fun e => se s e 0) (fun e => zdraw (lcgN (sdK s z k) e)) e), zI (k : Int), zI (e : Int)] [] σ2 (rI K) := by
        intro m
        have fin : ∀ (e : Nat) (σ2 : Hp), (e : Int) = s 2 → Off [16, 17, 18, 25] σ σ2 → TRc σ2 s → σ2 25 0 2 = lcgN (sdK s z k) e → Runs 5 mX1_totalOfDays 19 [zR 25 0, zI (nd : Int), zU, zI (dsum s z k + costG s (fun e => se s e 0) (fun e => zdraw (lcgN (sdK s z k) e)) e), zI (k : Int), zI (e : Int)] [] σ2 (rI K) := fun e σ2 hes ho2 ht2 hz2 => by
          have e1 : σ2 1 0 2 = s 2 := by rw [ho2 1 (by decide)]; exact he.1
          refine gX1_totalOfDays_19 (nd : Int) _ (k : Int) (e : Int) σ2 ⟨fun _ => ⟨by omega, ?_⟩, fun q => absurd (show σ2 1 0 2 ≤ (e : Int) by omega) q⟩
          have ee : e = (s 2).toNat := by omega
          have := ih (k + 1) σ2 (by omega) ho2 ht2 (by rw [hz2, ee]; rfl)
          rw [ee]
          exact this
        induction m with
        | zero => intro e σ2 hm' hes ho2 ht2 hz2; exact fin e σ2 (by omega) ho2 ht2 hz2
        | succ m ih2 =>
          intro e σ2 hm' hes ho2 ht2 hz2
          by_cases hq : (e : Int) = s 2
          · exact fin e σ2 hq ho2 ht2 hz2
          · have e1 : σ2 1 0 2 = s 2 := by rw [ho2 1 (by decide)]; exact he.1
            have hx := day_hx hw (sdK s z k)
            have cb := costG_b hw (F := fun e => se s e 0) (A := fun e => zdraw (lcgN (sdK s z k) e)) e hes (fun e' he' => hx e' (by omega))
            have sb := costG_step hw (F := fun e => se s e 0) (A := fun e => zdraw (lcgN (sdK s z k) e)) (n := e) (by omega) (hx e (by omega))
            obtain ⟨a0, a1, a2, a3⟩ := er_of hw (e := (e : Int)) (by omega)
            obtain ⟨t6, t7, t8, t9⟩ := he.2 (e : Int) (by omega) (by omega)
            rw [← show σ2 6 = σ 6 from ho2 6 (by decide)] at t6
            rw [← show σ2 7 = σ 7 from ho2 7 (by decide)] at t7
            rw [← show σ2 9 = σ 9 from ho2 9 (by decide)] at t9
            refine gX1_totalOfDays_19 (nd : Int) _ (k : Int) (e : Int) σ2 ⟨fun q => absurd q (by omega), fun _ => ⟨by omega, by omega, by omega, fun σ3 e3 => ?_⟩⟩
            subst e3
            rw [t6, t7, t9, hz2]
            have o3 : Off [16, 17, 18, 25] σ (zup σ2 25 0 2 (zlcg (lcgN (sdK s z k) e))) := ho2.up (by decide)
            have ht3 : TRc (zup σ2 25 0 2 (zlcg (lcgN (sdK s z k) e))) s := ht2.keep (fun j _ => by rw [show (zup σ2 25 0 2 (zlcg (lcgN (sdK s z k) e))) 16 0 = σ2 16 0 from zup_ne (fun y => by cases y)])
            have dr := zdraw_b (lcgN (sdK s z k) e)
            refine qX1_minutesOf hw ht3 (hm.keep o3 (by decide) (by decide) (by decide) (by decide)) a0 a1 (by omega) (fun σ4 k4 => ?_)
            have next : costG s (fun e => se s e 0) (fun e => zdraw (lcgN (sdK s z k) e)) (e + 1) = costG s (fun e => se s e 0) (fun e => zdraw (lcgN (sdK s z k) e)) e + se s e 3 * mins s (se s e 0).toNat (se s e 1).toNat (zdraw (lcgN (sdK s z k) e)) := rfl
            have sb' : 0 ≤ se s e 3 * mins s (se s e 0).toNat (se s e 1).toNat (zdraw (lcgN (sdK s z k) e)) ∧ se s e 3 * mins s (se s e 0).toNat (se s e 1).toNat (zdraw (lcgN (sdK s z k) e)) ≤ 27000 := sb
            refine ⟨by omega, by omega, by omega, ?_⟩
            rw [Int.add_assoc, ← next]
            refine ih2 (e + 1) σ4 (by omega) (by omega) (o3.tr (k4.1.mono (by decide))) (ht3.keep k4.2) ?_
            rw [k4.1 25 (by decide)]
            simp [zup]
            rfl
      have := inner (s 2).toNat 0 σ1 (by omega) (by omega) ho ht1 hz
      rw [show costG s (fun e => se s e 0) (fun e => zdraw (lcgN (sdK s z k) e)) 0 = 0 from rfl, Int.add_zero] at this
      exact this
  refine gX1_totalOfDays_0 (nd : Int) z σ (outer nd 0 _ (by omega) (Off.rf.up (by decide)) (ht.keep (fun j _ => by rw [show (zup σ 25 0 2 z) 16 0 = σ 16 0 from zup_ne (fun y => by cases y)])) (by simp [zup]; rfl))
