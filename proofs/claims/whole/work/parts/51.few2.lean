/-! fewest both ways: the reference and the class -/
theorem qX11_fewCost {σ : Hp} {K : Int → Hp → Prop} {s : Nat → Int} (hs : σ 36 0 = s) (hw : WF s) (h5 : s 5 = 0) {n : Nat} (hn : s 1 = n) (hn10 : n < 11) {a0 : Int} (h : ∀ σ' r, Off [36, 41, 42] σ σ' → (∀ j, σ' 36 0 j = s j) → FW (fun b => costM (su s 5 (b : Int)) ≤ a0) (2 ^ n) r → K r σ') : Runs 6 mX11_bothWays 43 [zR 34 0, zI a0, zU, zI (-9), zI 0] [] σ (rI K) := by
  have p2 := pow_11 hn10
  have loop : ∀ (m k : Nat) (r p : Int) (σ1 : Hp), k + m = 2 ^ n → Off [36, 41, 42] σ σ1 → σ1 36 0 = su s 5 p → FW (fun b => costM (su s 5 (b : Int)) ≤ a0) k r → Runs 6 mX11_bothWays 43 [zR 34 0, zI a0, zU, zI r, zI (k : Int)] [] σ1 (rI K) := by
    intro m
    induction m with
    | zero =>
      intro k r p σ1 hk ho hp ha
      have e1 : σ1 36 0 1 = n := by rw [hp, su_ne (by omega)]; exact hn
      have ek : k = 2 ^ n := by omega
      refine gX11_bothWays_43 a0 r (k : Int) σ1 ⟨fun _ => ?_, fun q => absurd (by rw [e1, shl_n hn10]; omega) q⟩
      rw [ek] at ha
      refine h _ r (ho.up (by decide)) (fun j => ?_) ha
      rw [zup_su, hp, su_su]
      have : su s 5 (s 5) = s := su_id
      rw [h5] at this
      rw [this]
    | succ m ih =>
      intro k r p σ1 hk ho hp ha
      have e1 : σ1 36 0 1 = n := by rw [hp, su_ne (by omega)]; exact hn
      have hwk : WF (su s 5 (k : Int)) := WF_su hw (Or.inl ⟨Or.inr (Or.inr rfl), by omega, by omega⟩)
      have try_ : (∀ v : Nat, r = (v : Int) → popN k < popN v) → Runs 6 mX11_bothWays 75 [zR 34 0, zI a0, zU, zI r, zI (k : Int)] [] σ1 (rI K) := fun hl => by
        have hs2 : (zup σ1 36 0 5 (k : Int)) 36 0 = su s 5 (k : Int) := by rw [zup_su, hp, su_su]
        refine gX11_bothWays_75 a0 r (k : Int) σ1 (qX11_costOf (by rw [hs2]; exact hwk) (fun σ3 o3 => ?_))
        have hs3 : σ3 36 0 = su s 5 (k : Int) := by rw [o3 36 (by decide)]; exact hs2
        have ho3 : Off [36, 41, 42] σ σ3 := (ho.up (by decide)).tr (o3.mono (by decide))
        rw [hs2]
        refine ⟨fun c => ⟨by omega, ih (k + 1) r _ σ3 (by omega) ho3 hs3 (ha.no (show ¬ costM (su s 5 (k : Int)) ≤ a0 by omega))⟩, fun c => ⟨by omega, ih (k + 1) _ _ σ3 (by omega) ho3 hs3 (ha.take (by omega) (show costM (su s 5 (k : Int)) ≤ a0 by omega) hl)⟩⟩
      refine gX11_bothWays_43 a0 r (k : Int) σ1 ⟨fun q => absurd q (by rw [e1, shl_n hn10]; omega), fun _ => ⟨fun c => try_ (fun v hv => by omega), fun c => ?_⟩⟩
      rcases ha.r9 with q | ⟨v, q, hv⟩
      · omega
      · subst q
        refine pX11_bits (by omega) (pX11_bits (by omega) ⟨fun c2 => try_ (fun w hw2 => ?_), fun c2 => ⟨by omega, ih (k + 1) _ p σ1 (by omega) ho hp (ha.skip (by omega))⟩⟩)
        have : w = v := by omega
        rw [this]
        omega
  refine loop (2 ^ n) 0 (-9) (s 5) σ (by omega) Off.rf (by rw [su_id]; exact hs) FW.zero
def Reach (s : Nat → Int) (f : Nat) (m l : Int) : Prop := ∀ c : Nat, (c : Int) < s 0 → dist s f m c ≤ l
theorem qX11_isReached {σ : Hp} {K : Int → Hp → Prop} {c m w : Int} (hw : WF (σ 36 0)) (hc : 0 ≤ c ∧ c < σ 36 0 0) (hm : 0 ≤ m ∧ m ≤ 2879) (hww : 0 ≤ w ∧ w ≤ 2879) (h1 : ∀ σ', Off [41, 42] σ σ' → Reach (σ 36 0) c.toNat m (m + w) → K 1 σ') (h0 : ∀ σ', Off [41, 42] σ σ' → ¬ Reach (σ 36 0) c.toNat m (m + w) → K 0 σ') : Runs 5 mX11_isReached 0 [zR 34 0, zI c, zI m, zI w, zU] [] σ (rI K) := by
  generalize hs : σ 36 0 = s at *
  have w0 := hw.1
  refine gX11_isReached_0 c m w σ (qX11_finds (by rw [hs]; exact hw) (by rw [hs]; exact hc) hm (fun σ1 o1 r1 d1 => ?_))
  have hs1 : σ1 36 0 = s := by rw [o1 36 (by decide)]; exact hs
  rw [hs] at d1
  have dd := dist_eq hw d1
  have loop : ∀ (n k : Nat), (s 0 - k).toNat ≤ n → (k : Int) ≤ s 0 → (∀ c' : Nat, c' < k → dist s c.toNat m c' ≤ m + w) → Runs 5 mX11_isReached 9 [zR 34 0, zU, zI m, zI w, zI (k : Int)] [] σ1 (rI K) := by
    intro n
    have fin : ∀ k : Nat, (k : Int) = s 0 → (∀ c' : Nat, c' < k → dist s c.toNat m c' ≤ m + w) → Runs 5 mX11_isReached 9 [zR 34 0, zU, zI m, zI w, zI (k : Int)] [] σ1 (rI K) := fun k hk hI => by
      refine gX11_isReached_9 m w (k : Int) σ1 ⟨fun _ => h1 σ1 o1 (fun c' hc' => hI c' (by omega)), fun q => absurd (by rw [hs1]; omega) q⟩
    induction n with
    | zero => intro k hn hk hI; exact fin k (by omega) hI
    | succ n ih =>
      intro k hn hk hI
      by_cases hq : (k : Int) = s 0
      · exact fin k hq hI
      · have hk10 : k < 10 := by omega
        have hd := dd k hk10
        have hr := r1 k hk10
        unfold tauR at hd
        refine gX11_isReached_9 m w (k : Int) σ1 ⟨fun q => absurd q (by rw [hs1]; omega), fun _ => ⟨by omega, ?_⟩⟩
        simp only [Int.toNat_natCast]
        refine ⟨fun c1 => h0 σ1 o1 (fun hR => ?_), fun c1 => ⟨by omega, by omega, fun c2 => ⟨by omega, ih (k + 1) (by omega) (by omega) (fun c' hc' => ?_)⟩, fun c2 => h0 σ1 o1 (fun hR => ?_)⟩⟩
        · have := hR k (by omega)
          rw [if_pos c1] at hd
          omega
        · rw [if_neg c1] at hd
          by_cases e : c' = k
          · rw [e]; omega
          · exact hI c' (by omega)
        · have := hR k (by omega)
          rw [if_neg c1] at hd
          omega
  exact loop (s 0).toNat 0 (by omega) (by omega) (fun c' hc' => absurd hc' (by omega))
theorem qX11_fewReach {σ : Hp} {K : Int → Hp → Prop} {s : Nat → Int} (hs : σ 36 0 = s) (hw : WF s) (h5 : s 5 = 0) {n : Nat} (hn : s 1 = n) (hn10 : n < 11) {a0 a1 a2 : Int} (hc : 0 ≤ a0 ∧ a0 < s 0) (hm : 0 ≤ a1 ∧ a1 ≤ 2879) (hww : 0 ≤ a2 ∧ a2 ≤ 2879) (h : ∀ σ' r, Off [36, 41, 42] σ σ' → (∀ j, σ' 36 0 j = s j) → FW (fun b => Reach (su s 5 (b : Int)) a0.toNat a1 (a1 + a2)) (2 ^ n) r → K r σ') : Runs 6 mX11_lanes 77 [zR 34 0, zI a0, zI a1, zI a2, zU, zI (-9), zI 0] [] σ (rI K) := by
  have p2 := pow_11 hn10
  have loop : ∀ (m k : Nat) (r p : Int) (σ1 : Hp), k + m = 2 ^ n → Off [36, 41, 42] σ σ1 → σ1 36 0 = su s 5 p → FW (fun b => Reach (su s 5 (b : Int)) a0.toNat a1 (a1 + a2)) k r → Runs 6 mX11_lanes 77 [zR 34 0, zI a0, zI a1, zI a2, zU, zI r, zI (k : Int)] [] σ1 (rI K) := by
    intro m
    induction m with
    | zero =>
      intro k r p σ1 hk ho hp ha
      have e1 : σ1 36 0 1 = n := by rw [hp, su_ne (by omega)]; exact hn
      have ek : k = 2 ^ n := by omega
      refine gX11_lanes_77 a0 a1 a2 r (k : Int) σ1 ⟨fun _ => ?_, fun q => absurd (by rw [e1, shl_n hn10]; omega) q⟩
      rw [ek] at ha
      refine h _ r (ho.up (by decide)) (fun j => ?_) ha
      rw [zup_su, hp, su_su]
      have : su s 5 (s 5) = s := su_id
      rw [h5] at this
      rw [this]
    | succ m ih =>
      intro k r p σ1 hk ho hp ha
      have e1 : σ1 36 0 1 = n := by rw [hp, su_ne (by omega)]; exact hn
      have hwk : WF (su s 5 (k : Int)) := WF_su hw (Or.inl ⟨Or.inr (Or.inr rfl), by omega, by omega⟩)
      have try_ : (∀ v : Nat, r = (v : Int) → popN k < popN v) → Runs 6 mX11_lanes 111 [zR 34 0, zI a0, zI a1, zI a2, zU, zI r, zI (k : Int)] [] σ1 (rI K) := fun hl => by
        have hs2 : (zup σ1 36 0 5 (k : Int)) 36 0 = su s 5 (k : Int) := by rw [zup_su, hp, su_su]
        have fin : ∀ σ3, Off [41, 42] (zup σ1 36 0 5 (k : Int)) σ3 → σ3 36 0 = su s 5 (k : Int) ∧ Off [36, 41, 42] σ σ3 := fun σ3 o3 => ⟨by rw [o3 36 (by decide)]; exact hs2, (ho.up (by decide)).tr (o3.mono (by decide))⟩
        refine gX11_lanes_111 a0 a1 a2 r (k : Int) σ1 (qX11_isReached (by rw [hs2]; exact hwk) (by rw [hs2, su_ne (by omega)]; exact hc) hm hww (fun σ3 o3 hR => ?_) (fun σ3 o3 hR => ?_))
        · rw [hs2] at hR
          obtain ⟨f1, f2⟩ := fin σ3 o3
          exact ⟨fun c => absurd c (by omega), fun _ => ⟨by omega, ih (k + 1) _ _ σ3 (by omega) f2 f1 (ha.take (by omega) hR hl)⟩⟩
        · rw [hs2] at hR
          obtain ⟨f1, f2⟩ := fin σ3 o3
          exact ⟨fun _ => ⟨by omega, ih (k + 1) r _ σ3 (by omega) f2 f1 (ha.no hR)⟩, fun c => absurd rfl c⟩
      refine gX11_lanes_77 a0 a1 a2 r (k : Int) σ1 ⟨fun q => absurd q (by rw [e1, shl_n hn10]; omega), fun _ => ⟨fun c => try_ (fun v hv => by omega), fun c => ?_⟩⟩
      rcases ha.r9 with q | ⟨v, q, hv⟩
      · omega
      · subst q
        refine pX11_bits (by omega) (pX11_bits (by omega) ⟨fun c2 => try_ (fun w hw2 => ?_), fun c2 => ⟨by omega, ih (k + 1) _ p σ1 (by omega) ho hp (ha.skip (by omega))⟩⟩)
        have : w = v := by omega
        rw [this]
        omega
  refine loop (2 ^ n) 0 (-9) (s 5) σ (by omega) Off.rf (by rw [su_id]; exact hs) FW.zero
theorem qX9_allReachedBy {σ : Hp} {K : Int → Hp → Prop} {l : Int} (hn : 0 ≤ σ 1 0 0 ∧ σ 1 0 0 ≤ 10) (hl : l < 1000000) (hnn : ∀ c : Nat, c < 10 → 0 ≤ σ 18 0 c) (h1 : (∀ c : Nat, (c : Int) < σ 1 0 0 → σ 18 0 c ≤ l) → K 1 σ) (h0 : ¬ (∀ c : Nat, (c : Int) < σ 1 0 0 → σ 18 0 c ≤ l) → K 0 σ) : Runs 1 mX9_allReachedBy 0 [zR 26 0, zI l, zU, zU] [] σ (rI K) := by
  have loop : ∀ (n k : Nat), (σ 1 0 0 - k).toNat ≤ n → (k : Int) ≤ σ 1 0 0 → (∀ c' : Nat, c' < k → σ 18 0 c' ≤ l) → Runs 1 mX9_allReachedBy 2 [zR 26 0, zI l, zI (k : Int), zU] [] σ (rI K) := by
    intro n
    have fin : ∀ k : Nat, (k : Int) = σ 1 0 0 → (∀ c' : Nat, c' < k → σ 18 0 c' ≤ l) → Runs 1 mX9_allReachedBy 2 [zR 26 0, zI l, zI (k : Int), zU] [] σ (rI K) := fun k hk hI => by
      refine gX9_allReachedBy_2 l (k : Int) σ ⟨fun _ => h1 (fun c' hc' => hI c' (by omega)), fun q => absurd (show σ 1 0 0 ≤ (k : Int) by omega) q⟩
    induction n with
    | zero => intro k hn hk hI; exact fin k (by omega) hI
    | succ n ih =>
      intro k hn2 hk hI
      by_cases hq : (k : Int) = σ 1 0 0
      · exact fin k hq hI
      · have nn := hnn k (by omega)
        have zm : zmin σ (k : Int) = if σ 18 0 k = 1000000 then -9 else σ 18 0 k := rfl
        refine gX9_allReachedBy_2 l (k : Int) σ ⟨fun q => absurd q (by omega), fun _ => ⟨by omega, ?_⟩⟩
        rw [zm]
        refine ⟨fun c1 => h0 (fun hR => ?_), fun c1 => ⟨fun c2 => ⟨by omega, ih (k + 1) (by omega) (by omega) (fun c' hc' => ?_)⟩, fun c2 => h0 (fun hR => ?_)⟩⟩
        · have := hR k (by omega)
          split at c1 <;> omega
        · by_cases e : c' = k
          · rw [e]
            split at c1
            · omega
            · rename_i q
              rw [if_neg q] at c2
              exact c2
          · exact hI c' (by omega)
        · have := hR k (by omega)
          split at c1
          · omega
          · rename_i q
            rw [if_neg q] at c2
            omega
  exact gX9_allReachedBy_0 l σ (loop (σ 1 0 0).toNat 0 (by omega) (by omega) (fun c' hc' => absurd hc' (by omega)))
/-- the class's lanes in mind -/
theorem lanes_put {σ σ1 : Hp} {s : Nat → Int} (hw : WF s) (hb4 : 0 ≤ σ 1 0 4 ∧ σ 1 0 4 < 16384) (hbr : ∀ t : Int, 0 ≤ t → t < s 1 → bitz (σ 1 0 4) t = sg s t 3) (ho : Off [16, 17, 18] σ σ1) {p b : Int} (hp : 0 ≤ p ∧ p < 16384) (ht : TRc σ1 (su s 5 p)) (hb : 0 ≤ b ∧ b < 16384) : TRc (zup σ1 16 0 6 (tOpen σ1 b)) (su s 5 b) ∧ Off [16, 17, 18] σ (zup σ1 16 0 6 (tOpen σ1 b)) := by
  have hwp : WF (su s 5 p) := WF_su hw (Or.inl ⟨Or.inr (Or.inr rfl), hp⟩)
  have e1 : σ1 1 = σ 1 := ho 1 (by decide)
  have := TRc_lanes hwp ht (by rw [e1]; exact hb4) (fun t h0 hl => by rw [e1, sg_su (by omega) h0 (by omega)]; rw [su_ne (by omega)] at hl; exact hbr t h0 hl) hb
  rw [su_su] at this
  exact ⟨this, ho.up (by decide)⟩
theorem qX9_fewestForCost {σ : Hp} {K : Int → Hp → Prop} {s : Nat → Int} (hw : WF s) (h5 : s 5 = 0) (ht : TRc σ s) (hm : TMs σ s) (he : TMe σ s) (hb4 : 0 ≤ σ 1 0 4 ∧ σ 1 0 4 < 16384) (hbr : ∀ t : Int, 0 ≤ t → t < s 1 → bitz (σ 1 0 4) t = sg s t 3) {n : Nat} (hn : s 1 = n) (hn10 : n < 11) {a0 : Int} (ha0 : 0 ≤ a0)
    (h : ∀ σ' r, Off [16, 17, 18] σ σ' → FW (fun b => costM (su s 5 (b : Int)) ≤ a0) (2 ^ n) r → K r σ') : Runs 6 mX9_fewestForCost 0 [zR 26 0, zI a0, zU, zU, zU] [] σ (rI K) := by
  have p2 := pow_11 hn10
  have tr0 : TRc σ (su s 5 0) := by
    have : su s 5 (s 5) = s := su_id
    rw [h5] at this
    rw [this]
    exact ht
  have step : ∀ (b p tm : Int) (σ1 : Hp) (K2 : Int → Hp → Prop), tm = (if 1000000 < a0 then 1000000 else a0) + 1 → (0 ≤ b ∧ b < 16384) → (0 ≤ p ∧ p < 16384) → Off [16, 17, 18] σ σ1 → TRc σ1 (su s 5 p) → (∀ σ2 z, Off [16, 17, 18] σ σ2 → TRc σ2 (su s 5 b) → (z ≤ a0 ↔ costM (su s 5 b) ≤ a0) → K2 z σ2) → Runs 5 mX1_totalUpTo 0 [zR 25 0, zI tm, zU, zU] [] (zup σ1 16 0 6 (tOpen σ1 b)) (rI K2) := fun b p tm σ1 K2 etm hb hp ho htp hk => by
    have hwb : WF (su s 5 b) := WF_su hw (Or.inl ⟨Or.inr (Or.inr rfl), hb⟩)
    obtain ⟨t3, o3⟩ := lanes_put hw hb4 hbr ho hp htp hb
    obtain ⟨m3, n3⟩ := kept_TM o3 hm he
    have cb := costM_b hwb
    refine qX1_totalUpTo hwb t3 (TMs_su (by omega) m3) (TMe_su (by omega) n3) (fun σ4 z k4 z0 zl z1 z2 => ?_)
    refine hk σ4 z (o3.tr k4.1) (k4.T t3 (TMs_su (by omega) m3)).1 ?_
    split at etm
    · rw [z1 (by omega)]
    · by_cases y : costM (su s 5 b) < tm
      · rw [z1 y]
      · have := z2 (by omega)
        omega
  have en : ∀ σ1, Off [16, 17, 18] σ σ1 → σ1 1 0 1 = n := fun σ1 ho => by rw [ho 1 (by decide)]; exact hm.2.1.trans hn
  refine gX9_fewestForCost_0 a0 σ ⟨by split <;> omega, by rw [en σ Off.rf, shl_n hn10]; omega, fun σ1 e1 => ?_⟩
  subst e1
  rw [en σ Off.rf, shl_n hn10]
  generalize htm : (if 1000000 < a0 then 1000000 else a0) + 1 = tm
  have cf := fun (b : Nat) (hb : b < 2 ^ n) => cost_full hw hn (b := (b : Int)) (by omega)
  refine step _ 0 tm σ _ htm.symm (by omega) (by omega) Off.rf tr0 (fun σ2 z o2 t2 hz => ⟨fun c => ?_, fun c => ?_⟩)
  · have hfull := hz.mp c
    have loop : ∀ (m i v : Nat) (p : Int) (σ1 : Hp), i + m = 2 ^ n → v < 2 ^ n → rk n v = i → (∀ u, u < 2 ^ n → rk n u < i → ¬ costM (su s 5 (u : Int)) ≤ a0) → (0 ≤ p ∧ p < 16384) → Off [16, 17, 18] σ σ1 → TRc σ1 (su s 5 p) → Runs 6 mX9_fewestForCost 47 [zR 26 0, zI a0, zI tm, zI (v : Int), zI (i : Int)] [] σ1 (rI K) := by
      intro m
      induction m with
      | zero =>
        intro i v p σ1 hi hv hr _ _ _ _
        have := (pr_facts hn10 hv).1
        omega
      | succ m ih =>
        intro i v p σ1 hi hv hr hI hp ho htp
        refine gX9_fewestForCost_47 a0 tm (v : Int) (i : Int) σ1 ⟨fun q => absurd q (by rw [en σ1 ho, shl_n hn10]; omega), fun _ σ3 e3 => ?_⟩
        subst e3
        refine step (v : Int) p tm σ1 _ htm.symm (by omega) hp ho htp (fun σ4 z4 o4 t4 hz4 => ⟨fun c4 => ?_, fun c4 => ?_⟩)
        · have nv : ¬ costM (su s 5 (v : Int)) ≤ a0 := fun q => by have := hz4.mpr q; omega
          have ntop : ¬ v + 1 = 2 ^ n := fun q => by
            apply nv
            rw [show (v : Int) = ((2 ^ n : Nat) : Int) - 1 by omega]
            exact hfull
          obtain ⟨v1, v2, v3⟩ := ((nx_facts hn10 hv).2.2.2.2.2).resolve_left ntop
          refine qX9_nextByFewest (en σ4 o4) hn10 hv ⟨by omega, ih (i + 1) (nxI n v) (v : Int) σ4 (by omega) v1 (by omega) (fun u hu hru => ?_) (by omega) o4 t4⟩
          by_cases q : rk n u < i
          · exact hI u hu q
          · have e : rk n u = rk n v := by omega
            have le := (pr_facts hn10 hu).1
            have := rk_inj hn10 (2 ^ n - 1 - rk n u) u v hu hv e (by omega)
            rw [this]
            exact nv
        · refine h σ4 _ o4 (Or.inr ⟨v, rfl, hv, hz4.mp (by omega), fun b hb hpb => ?_⟩)
          by_cases q : fkey b < fkey v
          · exact absurd hpb (hI b hb (by have := rk_lt hn10 hb hv q; omega))
          · omega
    exact loop (2 ^ n) 0 0 _ σ2 (by omega) (by omega) (rk_all n hn10).1 (fun u _ hu => absurd hu (by omega)) (show (0 : Int) ≤ ((2 ^ n : Nat) : Int) - 1 ∧ ((2 ^ n : Nat) : Int) - 1 < 16384 by omega) o2 t2
  · refine h σ2 _ o2 (Or.inl ⟨rfl, fun b hb hpb => ?_⟩)
    have := cf b hb
    apply c
    apply hz.mpr
    omega
theorem qX9_fewestForReach {σ : Hp} {K : Int → Hp → Prop} {s : Nat → Int} (hw : WF s) (h5 : s 5 = 0) (ht : TRc σ s) (hm : TMs σ s) (hb4 : 0 ≤ σ 1 0 4 ∧ σ 1 0 4 < 16384) (hbr : ∀ t : Int, 0 ≤ t → t < s 1 → bitz (σ 1 0 4) t = sg s t 3) {n : Nat} (hn : s 1 = n) (hn10 : n < 11) {a0 a1 a2 : Int} (hc : 0 ≤ a0 ∧ a0 < s 0) (hmm : 0 ≤ a1 ∧ a1 ≤ 2879) (hww : 0 ≤ a2 ∧ a2 ≤ 2879)
    (h : ∀ σ' r, Off [16, 17, 18] σ σ' → FW (fun b => Reach (su s 5 (b : Int)) a0.toNat a1 (a1 + a2)) (2 ^ n) r → K r σ') : Runs 4 mX9_fewestForReach 0 [zR 26 0, zI a0, zI a1, zI a2, zU, zU] [] σ (rI K) := by
  have p2 := pow_11 hn10
  have w0 := hw.1
  have tr0 : TRc σ (su s 5 0) := by
    have : su s 5 (s 5) = s := su_id
    rw [h5] at this
    rw [this]
    exact ht
  have en : ∀ σ1, Off [16, 17, 18] σ σ1 → σ1 1 0 1 = n := fun σ1 ho => by rw [ho 1 (by decide)]; exact hm.2.1.trans hn
  have step : ∀ (b p : Int) (σ1 : Hp) (K2 : Int → Hp → Prop), (0 ≤ b ∧ b < 16384) → (0 ≤ p ∧ p < 16384) → Off [16, 17, 18] σ σ1 → TRc σ1 (su s 5 p) → (∀ σ2, Off [16, 17, 18] σ σ2 → TRc σ2 (su s 5 b) → (Reach (su s 5 b) a0.toNat a1 (a1 + a2) → K2 1 σ2) ∧ (¬ Reach (su s 5 b) a0.toNat a1 (a1 + a2) → K2 0 σ2)) → Runs 3 mX8_setOut 0 [zR 17 0, zI a0, zI (-1), zI a1, zU, zU] [] (zup σ1 16 0 6 (tOpen σ1 b)) (rV (fun σ2 => (-2147483648 ≤ a1 + a2 ∧ a1 + a2 ≤ 2147483647) ∧ Runs 1 mX9_allReachedBy 0 [zR 26 0, zI (a1 + a2), zU, zU] [] σ2 (rI K2))) := fun b p σ1 K2 hb hp ho htp hk => by
    have hwb : WF (su s 5 b) := WF_su hw (Or.inl ⟨Or.inr (Or.inr rfl), hb⟩)
    obtain ⟨t3, o3⟩ := lanes_put hw hb4 hbr ho hp htp hb
    have m3 : TMs (zup σ1 16 0 6 (tOpen σ1 b)) s := hm.keep o3 (by decide) (by decide) (by decide) (by decide)
    refine qX8_setOut hwb t3 (TMs_su (by omega) m3) (by rw [su_ne (by omega)]; exact hc) hmm (Or.inl rfl) (fun σ4 o4 k4 d4 _ => ⟨by omega, ?_⟩)
    have d4 := d4 rfl
    have o5 := o3.tr o4
    have t5 : TRc σ4 (su s 5 b) := t3.keep k4
    have c0 : σ4 1 0 0 = s 0 := by rw [o5 1 (by decide)]; exact hm.1
    have bn := (dist_soon hwb (f := a0.toNat) (m0 := a1) (by omega) hmm).2.2.2.1
    obtain ⟨k1, k0⟩ := hk σ4 o5 t5
    have eqv : (∀ c : Nat, (c : Int) < σ4 1 0 0 → σ4 18 0 c ≤ a1 + a2) ↔ Reach (su s 5 b) a0.toNat a1 (a1 + a2) := by
      rw [c0]
      unfold Reach
      rw [su_ne (show 0 ≠ 5 by omega)]
      constructor
      · intro hh c hc'
        have := hh c hc'
        rw [d4 c (by omega)] at this
        exact this
      · intro hh c hc'
        rw [d4 c (by omega)]
        exact hh c hc'
    refine qX9_allReachedBy (by omega) (by omega) (fun c hc' => ?_) (fun hr => k1 (eqv.mp hr)) (fun hr => k0 (fun q => hr (eqv.mpr q)))
    have := bn c hc'
    rw [d4 c hc']
    omega
  refine gX9_fewestForReach_0 a0 a1 a2 σ ⟨by rw [en σ Off.rf, shl_n hn10]; omega, fun σ1 e1 => ?_⟩
  subst e1
  rw [en σ Off.rf, shl_n hn10]
  have cf : ∀ (b : Nat), b < 2 ^ n → Reach (su s 5 (b : Int)) a0.toNat a1 (a1 + a2) → Reach (su s 5 (((2 ^ n : Nat) : Int) - 1)) a0.toNat a1 (a1 + a2) := fun b hb hR c hc' => by
    rw [su_ne (show 0 ≠ 5 by omega)] at hc'
    have a := hR c (by rw [su_ne (show 0 ≠ 5 by omega)]; exact hc')
    have d := dist_full hw hn (b := (b : Int)) (by omega) (f := a0.toNat) (m := a1) (by omega) hmm c (by omega)
    omega
  refine step _ 0 σ _ (by omega) (by omega) Off.rf tr0 (fun σ2 o2 t2 => ⟨fun hfull => ⟨fun _ => ?_, fun c => absurd c (by omega)⟩, fun hno => ⟨fun c => absurd rfl c, fun _ => ?_⟩⟩)
  · have loop : ∀ (m i v : Nat) (p : Int) (σ1 : Hp), i + m = 2 ^ n → v < 2 ^ n → rk n v = i → (∀ u, u < 2 ^ n → rk n u < i → ¬ Reach (su s 5 (u : Int)) a0.toNat a1 (a1 + a2)) → (0 ≤ p ∧ p < 16384) → Off [16, 17, 18] σ σ1 → TRc σ1 (su s 5 p) → Runs 4 mX9_fewestForReach 47 [zR 26 0, zI a0, zI a1, zI a2, zI (v : Int), zI (i : Int)] [] σ1 (rI K) := by
      intro m
      induction m with
      | zero =>
        intro i v p σ1 hi hv hr _ _ _ _
        have := (pr_facts hn10 hv).1
        omega
      | succ m ih =>
        intro i v p σ1 hi hv hr hI hp ho htp
        refine gX9_fewestForReach_47 a0 a1 a2 (v : Int) (i : Int) σ1 ⟨fun q => absurd q (by rw [en σ1 ho, shl_n hn10]; omega), fun _ σ3 e3 => ?_⟩
        subst e3
        refine step (v : Int) p σ1 _ (by omega) hp ho htp (fun σ4 o4 t4 => ⟨fun hR => ⟨fun c => absurd c (by omega), fun _ => ?_⟩, fun nv => ⟨fun _ => ?_, fun c => absurd rfl c⟩⟩)
        · refine h σ4 _ o4 (Or.inr ⟨v, rfl, hv, hR, fun b hb hpb => ?_⟩)
          by_cases q : fkey b < fkey v
          · exact absurd hpb (hI b hb (by have := rk_lt hn10 hb hv q; omega))
          · omega
        · have ntop : ¬ v + 1 = 2 ^ n := fun q => by
            apply nv
            rw [show (v : Int) = ((2 ^ n : Nat) : Int) - 1 by omega]
            exact hfull
          obtain ⟨v1, v2, v3⟩ := ((nx_facts hn10 hv).2.2.2.2.2).resolve_left ntop
          refine qX9_nextByFewest (en σ4 o4) hn10 hv ⟨by omega, ih (i + 1) (nxI n v) (v : Int) σ4 (by omega) v1 (by omega) (fun u hu hru => ?_) (by omega) o4 t4⟩
          by_cases q : rk n u < i
          · exact hI u hu q
          · have e : rk n u = rk n v := by omega
            have le := (pr_facts hn10 hu).1
            have := rk_inj hn10 (2 ^ n - 1 - rk n u) u v hu hv e (by omega)
            rw [this]
            exact nv
    exact loop (2 ^ n) 0 0 _ σ2 (by omega) (by omega) (rk_all n hn10).1 (fun u _ hu => absurd hu (by omega)) (show (0 : Int) ≤ ((2 ^ n : Nat) : Int) - 1 ∧ ((2 ^ n : Nat) : Int) - 1 < 16384 by omega) o2 t2
  · exact h σ2 _ o2 (Or.inl ⟨rfl, fun b hb hpb => hno (cf b hb hpb)⟩)
