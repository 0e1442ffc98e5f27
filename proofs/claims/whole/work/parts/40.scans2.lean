/-! the class's scans -/
theorem kept_TM {σ σ' : Hp} {s : Nat → Int} (h : Off [16, 17, 18] σ σ') (hm : TMs σ s) (he : TMe σ s) : TMs σ' s ∧ TMe σ' s := ⟨hm.keep h (by decide) (by decide) (by decide) (by decide), he.keep h (by decide) (by decide) (by decide) (by decide) (by decide)⟩
theorem qX9_cheapestPointing {σ : Hp} {K : Int → Hp → Prop} {s : Nat → Int} (hw : WF s) (ht : TRc σ s) (hm : TMs σ s) (he : TMe σ s) (h10 : σ 11 0 3 = s 10) (e5 : ∀ t : Int, 0 ≤ t → t < s 1 → σ 5 0 t.toNat = sg s t 4)
    (h : ∀ σ' r, Off [16, 17, 18] σ σ' → AM (fun b => musts s b ∧ 0 ≤ costM (su s 3 b)) (fun b => costM (su s 3 b)) (zshl 1 (s 1)) r → K r σ') : Runs 6 mX9_cheapestPointing 0 [zR 26 0, zU, zU, zU, zU] [] σ (rI K) := by
  have w1 := hw.2.1
  have nb := shl_b w1
  have loop : ∀ (n : Nat) (b r l : Int) (σ1 : Hp) (p : Int), (zshl 1 (s 1) - b).toNat ≤ n → 0 ≤ b → b ≤ zshl 1 (s 1) → Off [16, 17, 18] σ σ1 → (0 ≤ p ∧ p < 16384) → TRc σ1 (su s 3 p) → AM (fun b => musts s b ∧ 0 ≤ costM (su s 3 b)) (fun b => costM (su s 3 b)) b r → (0 ≤ r → l = costM (su s 3 r)) → (r < 0 → l = 1000000) → Runs 6 mX9_cheapestPointing 8 [zR 26 0, zI r, zI l, zI b, zU] [] σ1 (rI K) := by
    intro n
    have fin : ∀ (b r l : Int) (σ1 : Hp), b = zshl 1 (s 1) → Off [16, 17, 18] σ σ1 → AM (fun b => musts s b ∧ 0 ≤ costM (su s 3 b)) (fun b => costM (su s 3 b)) b r → Runs 6 mX9_cheapestPointing 8 [zR 26 0, zI r, zI l, zI b, zU] [] σ1 (rI K) := fun b r l σ1 hb ho ha => by
      subst hb
      have e1 : σ1 1 0 1 = s 1 := by rw [ho 1 (by decide)]; exact hm.2.1
      exact gX9_cheapestPointing_8 r l _ σ1 ⟨fun _ => h σ1 r ho ha, fun q => absurd (by rw [e1]; exact Int.le_refl _) q⟩
    induction n with
    | zero => intro b r l σ1 p hn h0 hl ho hp0 htp ha hlr hl9; exact fin b r l σ1 (by omega) ho ha
    | succ n ih =>
      intro b r l σ1 p hn h0 hl ho hp0 htp ha hlr hl9
      by_cases q : b = zshl 1 (s 1)
      · exact fin b r l σ1 q ho ha
      · have e1 : σ1 1 0 1 = s 1 := by rw [ho 1 (by decide)]; exact hm.2.1
        have hr9 := ha.r9
        refine gX9_cheapestPointing_8 r l b σ1 ⟨fun z => absurd z (by rw [e1]; omega), fun _ => ?_⟩
        refine qX6_firstMustUnkept (s := s) hw e1 (fun t a0 a1 => by rw [ho 5 (by decide)]; exact e5 t a0 a1) (fun hmu => ⟨fun _ σ3 e3 => ?_, fun z => absurd rfl z⟩) (fun t t0 t1 hbad _ => ⟨fun z => absurd z (by omega), fun _ => ⟨by omega, ?_⟩⟩)
        · subst e3
          have hb : 0 ≤ b ∧ b < 16384 := by omega
          have hwp := WF_su hw (k := 3) (v := p) (Or.inl ⟨Or.inl rfl, hp0⟩)
          have ht3 : TRc (zup σ1 16 0 4 (tBits σ1 b)) (su s 3 b) := by
            have := TRc_point hwp htp (by rw [ho 11 (by decide), su_ne (by omega)]; exact h10) hb
            rw [su_su] at this
            exact this
          have hwb := WF_su hw (k := 3) (v := b) (Or.inl ⟨Or.inl rfl, hb⟩)
          have o3 : Off [16, 17, 18] σ (zup σ1 16 0 4 (tBits σ1 b)) := ho.up (by decide)
          obtain ⟨m3, n3⟩ := kept_TM o3 hm he
          have cb := costM_b hwb
          refine qX1_totalUpTo hwb ht3 (TMs_su (by omega) m3) (TMe_su (by omega) n3) (fun σ4 z k4 z0 zl z1 z2 => ⟨fun c => ⟨by omega, ?_⟩, fun c => ⟨by omega, ?_⟩⟩)
          · have hF : l ≤ costM (su s 3 b) := by
              by_cases y : costM (su s 3 b) < l
              · have := z1 y; omega
              · omega
            have hr0 : 0 ≤ r := by
              by_cases y : r < 0
              · have := hl9 y; omega
              · omega
            exact ih (b + 1) r l σ4 b (by omega) (by omega) (by omega) (o3.tr k4.1) hb (k4.T ht3 (TMs_su (by omega) m3)).1 (ha.keep hr0 (by rw [← hlr hr0]; exact hF)) hlr hl9
          · have hF : costM (su s 3 b) < l := by
              by_cases y : l ≤ costM (su s 3 b)
              · have := z2 y; omega
              · omega
            have hz := z1 hF
            exact ih (b + 1) b z σ4 b (by omega) (by omega) (by omega) (o3.tr k4.1) hb (k4.T ht3 (TMs_su (by omega) m3)).1 (ha.less h0 ⟨hmu, cb.1⟩ (fun y => by rw [← hlr y]; exact hF)) (fun _ => hz) (fun y => by omega)
        · refine ih (b + 1) r l σ1 p (by omega) (by omega) (by omega) ho hp0 htp (ha.skip (by omega) (fun b' x y z => ?_)) hlr hl9
          have : b' = b := by omega
          rw [this] at z
          exact hbad (z.1 t t0 t1)
  exact gX9_cheapestPointing_0 σ (loop (zshl 1 (s 1)).toNat 0 (-9) 1000000 σ (s 3) (by omega) (by omega) (by omega) Off.rf hw.2.2.2.1 (by rw [su_id]; exact ht) AM.zero (fun z => by omega) (fun _ => rfl))
/-- noons: 0, 60 .. 1380 -/
def okNoon (b : Int) : Prop := b % 60 = 0
theorem qX11_bestNoon {σ : Hp} {K : Int → Hp → Prop} {s : Nat → Int} (hs : σ 36 0 = s) (hw : WF s) (h : ∀ σ' r, Off [36, 41, 42] σ σ' → (∀ j, σ' 36 0 j = s j) → AM okNoon (fun b => costM (su s 7 b)) 1440 r → K r σ') : Runs 6 mX11_bestNoon 0 [zR 34 0, zU, zU, zU, zU, zU] [] σ (rI K) := by
  have loop : ∀ (n k : Nat) (r l : Int) (σ1 : Hp) (p : Int), k + n = 24 → Off [36, 41, 42] σ σ1 → σ1 36 0 = su s 7 p → AM okNoon (fun b => costM (su s 7 b)) (60 * k) r → (0 ≤ r → l = costM (su s 7 r)) → Runs 6 mX11_bestNoon 16 [zR 34 0, zI (s 7), zI r, zI l, zI (60 * (k : Int)), zU] [] σ1 (rI K) := by
    intro n
    induction n with
    | zero =>
      intro k r l σ1 p hk ho hp ha hlr
      refine gX11_bestNoon_16 (s 7) r l _ σ1 ⟨fun _ => ?_, fun q => absurd (show (1380 : Int) < 60 * k by omega) q⟩
      refine h _ r (ho.up (by decide)) (fun j => by rw [zup_su, hp, su_su, su_id]) ?_
      rw [show (60 * (k : Int)) = 1440 by omega] at ha
      exact ha
    | succ n ih =>
      intro k r l σ1 p hk ho hp ha hlr
      have hr9 := ha.r9
      have hs2 : (zup σ1 36 0 7 (60 * (k : Int))) 36 0 = su s 7 (60 * (k : Int)) := by rw [zup_su, hp, su_su]
      have hw2 : WF (su s 7 (60 * (k : Int))) := WF_su hw (Or.inr ⟨rfl, by omega, by omega⟩)
      have okk : okNoon (60 * (k : Int)) := by unfold okNoon; omega
      have skip : ∀ {r'}, AM okNoon (fun b => costM (su s 7 b)) (60 * (k : Int) + 1) r' → AM okNoon (fun b => costM (su s 7 b)) (60 * ((k + 1 : Nat) : Int)) r' := fun h' => h'.skip (by omega) (fun b x y z => by unfold okNoon at z; omega)
      refine gX11_bestNoon_16 (s 7) r l _ σ1 ⟨fun z => absurd z (by omega), fun _ => ?_⟩
      refine qX11_costOf (by rw [hs2]; exact hw2) (fun σ3 o3 => ?_)
      have hs3 : σ3 36 0 = su s 7 (60 * (k : Int)) := by rw [o3 36 (by decide)]; exact hs2
      have ho3 : Off [36, 41, 42] σ σ3 := (ho.up (by decide)).tr (o3.mono (by decide))
      have nx : (60 * (k : Int)) + 60 = 60 * ((k + 1 : Nat) : Int) := by omega
      rw [hs2, nx]
      refine ⟨fun c => ⟨by omega, ih (k + 1) _ _ σ3 _ (by omega) ho3 hs3 (skip (ha.less (by omega) okk (fun z => by omega))) (fun _ => rfl)⟩, fun c => ⟨fun c2 => ⟨by omega, ih (k + 1) _ _ σ3 _ (by omega) ho3 hs3 (skip (ha.less (by omega) okk (fun z => by rw [← hlr z]; exact c2))) (fun _ => rfl)⟩, fun c2 => ⟨by omega, ih (k + 1) _ _ σ3 _ (by omega) ho3 hs3 (skip (ha.keep (by omega) (by rw [← hlr (by omega)]; omega))) hlr⟩⟩⟩
  have := loop 24 0 (-9) 0 σ (s 7) rfl Off.rf (by rw [su_id]; exact hs) AM.zero (fun z => by omega)
  refine gX11_bestNoon_0 σ ?_
  rw [hs]
  exact this
theorem qX9_cheapestNoon {σ : Hp} {K : Int → Hp → Prop} {s : Nat → Int} (hw : WF s) (ht : TRc σ s) (hm : TMs σ s) (he : TMe σ s) (h : ∀ σ' r, Off [16, 17, 18] σ σ' → AM okNoon (fun b => costM (su s 7 b)) 1440 r → K r σ') : Runs 6 mX9_cheapestNoon 0 [zR 26 0, zU, zU, zU, zU] [] σ (rI K) := by
  have loop : ∀ (n k : Nat) (r r0 l : Int) (σ1 : Hp) (p : Int), k + n = 24 → Off [16, 17, 18] σ σ1 → (0 ≤ p ∧ p ≤ 1439) → TRc σ1 (su s 7 p) → AM okNoon (fun b => costM (su s 7 b)) (60 * k) r0 → (0 ≤ r0 → l = costM (su s 7 r0) ∧ r = r0) → (r0 < 0 → l = 1000000 ∧ k = 0) → Runs 6 mX9_cheapestNoon 7 [zR 26 0, zI r, zI l, zI (60 * (k : Int)), zU] [] σ1 (rI K) := by
    intro n
    induction n with
    | zero =>
      intro k r r0 l σ1 p hk ho hp0 htp ha hlr hl9
      have hr9 := ha.r9
      refine gX9_cheapestNoon_7 r l _ σ1 ⟨fun _ => ?_, fun q => absurd (show (1440 : Int) ≤ 60 * k by omega) q⟩
      have h0 : 0 ≤ r0 := by
        by_cases y : r0 < 0
        · have := (hl9 y).2; omega
        · omega
      rw [show (60 * (k : Int)) = 1440 by omega] at ha
      rw [(hlr h0).2]
      exact h σ1 r0 ho ha
    | succ n ih =>
      intro k r r0 l σ1 p hk ho hp0 htp ha hlr hl9
      have hr9 := ha.r9
      have okk : okNoon (60 * (k : Int)) := by unfold okNoon; omega
      have skip : ∀ {r'}, AM okNoon (fun b => costM (su s 7 b)) (60 * (k : Int) + 1) r' → AM okNoon (fun b => costM (su s 7 b)) (60 * ((k + 1 : Nat) : Int)) r' := fun h' => h'.skip (by omega) (fun b x y z => by unfold okNoon at z; omega)
      have nx : (60 * (k : Int)) + 60 = 60 * ((k + 1 : Nat) : Int) := by omega
      refine gX9_cheapestNoon_7 r l _ σ1 ⟨fun z => absurd z (by omega), fun _ σ3 e3 => ?_⟩
      subst e3
      have hb : 0 ≤ 60 * (k : Int) ∧ 60 * (k : Int) ≤ 1439 := by omega
      have ht3 : TRc (zup σ1 16 0 2 (60 * (k : Int))) (su s 7 (60 * (k : Int))) := by
        have := TRc_noon htp (n := 60 * (k : Int))
        rw [su_su] at this
        exact this
      have hwb := WF_su hw (k := 7) (v := 60 * (k : Int)) (Or.inr ⟨rfl, hb.1, hb.2⟩)
      have o3 : Off [16, 17, 18] σ (zup σ1 16 0 2 (60 * (k : Int))) := ho.up (by decide)
      obtain ⟨m3, n3⟩ := kept_TM o3 hm he
      have cb := costM_b hwb
      rw [nx]
      refine qX1_totalUpTo hwb ht3 (TMs_su (by omega) m3) (TMe_su (by omega) n3) (fun σ4 z k4 z0 zl z1 z2 => ⟨fun c => ⟨by omega, ?_⟩, fun c => ⟨by omega, ?_⟩⟩)
      · have hF : l ≤ costM (su s 7 (60 * (k : Int))) := by
          by_cases y : costM (su s 7 (60 * (k : Int))) < l
          · have := z1 y; omega
          · omega
        have hr0 : 0 ≤ r0 := by
          by_cases y : r0 < 0
          · have := (hl9 y).1; omega
          · omega
        exact ih (k + 1) r r0 l σ4 _ (by omega) (o3.tr k4.1) hb (k4.T ht3 (TMs_su (by omega) m3)).1 (skip (ha.keep hr0 (by rw [← (hlr hr0).1]; exact hF))) hlr (fun y => by omega)
      · have hF : costM (su s 7 (60 * (k : Int))) < l := by
          by_cases y : l ≤ costM (su s 7 (60 * (k : Int)))
          · have := z2 y; omega
          · omega
        have hz := z1 hF
        exact ih (k + 1) (60 * (k : Int)) (60 * (k : Int)) z σ4 _ (by omega) (o3.tr k4.1) hb (k4.T ht3 (TMs_su (by omega) m3)).1 (skip (ha.less (by omega) okk (fun y => by rw [← (hlr y).1]; exact hF))) (fun _ => ⟨hz, rfl⟩) (fun y => by omega)
  exact gX9_cheapestNoon_0 σ (loop 24 0 0 (-9) 1000000 σ (s 7) rfl Off.rf hw.2.2.2.2.2.2.2.1 (by rw [su_id]; exact ht) AM.zero (fun z => by omega) (fun _ => ⟨rfl, rfl⟩))
