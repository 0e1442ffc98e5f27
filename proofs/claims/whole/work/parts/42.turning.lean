/-! turning streets one by one -/
def xb (p t : Int) : Int := zxor p (zshl 1 t)
theorem xb_nat {p : Int} (hp : 0 ≤ p ∧ p < 16384) {t : Int} (ht : 0 ≤ t ∧ t < 14) : xb p t = ((p.toNat ^^^ 2 ^ t.toNat : Nat) : Int) ∧ p.toNat ^^^ 2 ^ t.toNat < 16384 := by
  obtain ⟨q, hq, hlt, hs⟩ := pow14 (b := t.toNat) (by omega)
  rw [show ((t.toNat : Nat) : Int) = t by omega] at hs
  unfold xb
  have hx : p.toNat ^^^ q < 2 ^ 14 := Nat.xor_lt_two_pow (by omega) (by omega)
  rw [hs, hq, zxor_nat (by omega) (by omega)]
  exact ⟨rfl, hx⟩
theorem xb_lt {p : Int} (hp : 0 ≤ p ∧ p < 16384) {t : Int} (ht : 0 ≤ t ∧ t < 14) : 0 ≤ xb p t ∧ xb p t < 16384 := by
  obtain ⟨h1, h2⟩ := xb_nat hp ht
  omega
theorem xb_xb {p : Int} (hp : 0 ≤ p ∧ p < 16384) {t : Int} (ht : 0 ≤ t ∧ t < 14) : xb (xb p t) t = p := by
  have h1 := (xb_nat hp ht).1
  have h2 := (xb_nat (xb_lt hp ht) ht).1
  rw [h2, h1, show ((p.toNat ^^^ 2 ^ t.toNat : Nat) : Int).toNat = p.toNat ^^^ 2 ^ t.toNat from rfl, Nat.xor_assoc, Nat.xor_self, Nat.xor_zero]
  omega
theorem xb_bit {p : Int} (hp : 0 ≤ p ∧ p < 16384) {t : Int} (ht : 0 ≤ t ∧ t < 14) : bitz (xb p t) t = 1 - bitz p t := by
  obtain ⟨h1, h2⟩ := xb_nat hp ht
  have h3 := xb_lt hp ht
  rw [bitz_tb (by omega) (by omega), bitz_tb (by omega) (by omega), h1, show ((p.toNat ^^^ 2 ^ t.toNat : Nat) : Int).toNat = p.toNat ^^^ 2 ^ t.toNat from rfl, Nat.testBit_xor, Nat.testBit_two_pow]
  cases p.toNat.testBit t.toNat <;> simp
noncomputable def turnGo (s : Nat → Int) : Nat → Int → Int → Int → Int → Int × Int × Int
  | 0, _, p, l, fl => (p, l, fl)
  | n + 1, t, p, l, fl => if sg s t 4 = 2 ∨ sg s t 4 = 1 - bitz p t then (if costM (su s 3 (xb p t)) < l then turnGo s n (t + 1) (xb p t) (costM (su s 3 (xb p t))) 1 else turnGo s n (t + 1) p l fl) else turnGo s n (t + 1) p l fl
noncomputable def turnR (s : Nat → Int) : Nat → Int → Int → Int → Int
  | 0, p, _, _ => p
  | k + 1, p, l, fl => if fl = 0 then p else turnR s k (turnGo s (s 1).toNat 0 p l 0).1 (turnGo s (s 1).toNat 0 p l 0).2.1 (turnGo s (s 1).toNat 0 p l 0).2.2
noncomputable def turnM (s : Nat → Int) : Int := turnR s 20 (s 3) (costM s) 1
theorem qX11_turning {σ : Hp} {K : Int → Hp → Prop} {s : Nat → Int} (hs : σ 36 0 = s) (hw : WF s) (h : ∀ σ', Off [36, 41, 42] σ σ' → (∀ j, σ' 36 0 j = s j) → K (turnM s) σ') : Runs 6 mX11_turning 0 [zR 34 0, zU, zU, zU, zU, zU, zU, zU] [] σ (rI K) := by
  have w1 := hw.2.1
  have inner : ∀ (n : Nat) (t p l fl r : Int) (σ1 : Hp), t + n = s 1 → 0 ≤ t → (0 ≤ p ∧ p < 16384) → Off [36, 41, 42] σ σ1 → σ1 36 0 = su s 3 p → (-1000 ≤ r ∧ r ≤ 1000) →
      (∀ p' l' fl' σ', (0 ≤ p' ∧ p' < 16384) → Off [36, 41, 42] σ σ' → σ' 36 0 = su s 3 p' → (p', l', fl') = turnGo s n t p l fl → Runs 6 mX11_turning 17 [zR 34 0, zI (s 3), zI l', zI fl', zI (r + 1), zU, zU, zU] [] σ' (rI K)) →
      Runs 6 mX11_turning 33 [zR 34 0, zI (s 3), zI l, zI fl, zI r, zI t, zU, zU] [] σ1 (rI K) := by
    intro n
    induction n with
    | zero =>
      intro t p l fl r σ1 htn h0 hp ho hp1 hr cont
      have e1 : σ1 36 0 1 = s 1 := by rw [hp1, su_ne (by omega)]
      exact gX11_turning_33 (s 3) l fl r t σ1 ⟨fun _ => ⟨by omega, cont p l fl σ1 hp ho hp1 rfl⟩, fun q => absurd (show σ1 36 0 1 ≤ t by omega) q⟩
    | succ n ih =>
      intro t p l fl r σ1 htn h0 hp ho hp1 hr cont
      have e1 : σ1 36 0 1 = s 1 := by rw [hp1, su_ne (by omega)]
      have e3 : σ1 36 0 3 = p := by rw [hp1, su_eq]
      have e4 : sg (σ1 36 0) t 4 = sg s t 4 := by rw [hp1]; exact sg_su (by omega) h0 (by omega)
      have st := hw.2.2.2.2.2.2.2.2.2.2.2.1 t h0 (by omega)
      unfold stOK at st
      have b01 := bitz_01 p t
      have ht14 : 0 ≤ t ∧ t < 14 := by omega
      have try_ : (sg s t 4 = 2 ∨ sg s t 4 = 1 - bitz p t) → Runs 6 mX11_turning 85 [zR 34 0, zI (s 3), zI l, zI fl, zI r, zI t, zU, zU] [] σ1 (rI K) := fun hok => by
        have hx := xb_lt hp ht14
        have hs2 : (zup σ1 36 0 3 (xb p t)) 36 0 = su s 3 (xb p t) := by rw [zup_su, hp1, su_su]
        have hw2 := WF_su hw (k := 3) (v := xb p t) (Or.inl ⟨Or.inl rfl, hx⟩)
        refine gX11_turning_85 (s 3) l fl r t σ1 ?_
        rw [e3]
        refine qX11_costOf (σ := zup σ1 36 0 3 (xb p t)) (by rw [hs2]; exact hw2) (fun σ3 o3 => ?_)
        have hs3 : σ3 36 0 = su s 3 (xb p t) := by rw [o3 36 (by decide)]; exact hs2
        have ho3 : Off [36, 41, 42] σ σ3 := (ho.up (by decide)).tr (o3.mono (by decide))
        rw [hs2]
        refine ⟨fun c => ⟨by omega, ?_⟩, fun c => ⟨by omega, ?_⟩⟩
        · have e33 : σ3 36 0 3 = xb p t := by rw [hs3, su_eq]
          rw [e33]
          have hb : zxor (xb p t) (zshl 1 t) = p := xb_xb hp ht14
          rw [hb]
          refine ih (t + 1) p l fl r _ (by omega) (by omega) hp (ho3.up (by decide)) (by rw [zup_su, hs3, su_su]) hr (fun p' l' fl' σ' a1 a2 a3 a4 => cont p' l' fl' σ' a1 a2 a3 ?_)
          unfold turnGo
          rw [if_pos hok, if_neg (by omega)]
          exact a4
        · refine ih (t + 1) (xb p t) _ 1 r σ3 (by omega) (by omega) hx ho3 hs3 hr (fun p' l' fl' σ' a1 a2 a3 a4 => cont p' l' fl' σ' a1 a2 a3 ?_)
          unfold turnGo
          rw [if_pos hok, if_pos (by omega)]
          exact a4
      refine gX11_turning_33 (s 3) l fl r t σ1 ⟨fun q => absurd q (by omega), fun _ => ?_⟩
      rw [e3, e4]
      refine ⟨by omega, by omega, fun c => try_ (Or.inl (by omega)), fun c => ⟨by omega, fun c2 => try_ (Or.inr c2), fun c2 => ⟨by omega, ?_⟩⟩⟩
      refine ih (t + 1) p l fl r σ1 (by omega) (by omega) hp ho hp1 hr (fun p' l' fl' σ' a1 a2 a3 a4 => cont p' l' fl' σ' a1 a2 a3 ?_)
      unfold turnGo
      rw [if_neg (fun z => z.elim (fun y => by omega) c2)]
      exact a4
  have outer : ∀ (k r : Nat) (p l fl : Int) (σ1 : Hp), r + k = 20 → (0 ≤ p ∧ p < 16384) → Off [36, 41, 42] σ σ1 → σ1 36 0 = su s 3 p → turnR s k p l fl = turnM s → Runs 6 mX11_turning 17 [zR 34 0, zI (s 3), zI l, zI fl, zI (r : Int), zU, zU, zU] [] σ1 (rI K) := by
    intro k
    have fin : ∀ (p : Int) (σ1 : Hp), Off [36, 41, 42] σ σ1 → σ1 36 0 = su s 3 p → p = turnM s → K (σ1 36 0 3) (zup σ1 36 0 3 (s 3)) := fun p σ1 ho hp1 hpm => by
      rw [hp1, su_eq, hpm]
      exact h _ (ho.up (by decide)) (fun j => by rw [zup_su, hp1, su_su, su_id])
    induction k with
    | zero =>
      intro r p l fl σ1 hr hp ho hp1 hm
      exact gX11_turning_17 (s 3) l fl (r : Int) σ1 ⟨fun _ => fin p σ1 ho hp1 hm, fun q => absurd (show (20 : Int) ≤ r by omega) q⟩
    | succ k ih =>
      intro r p l fl σ1 hr hp ho hp1 hm
      refine gX11_turning_17 (s 3) l fl (r : Int) σ1 ⟨fun q => absurd q (by omega), fun _ => ⟨fun c => fin p σ1 ho hp1 (by unfold turnR at hm; rw [if_pos c] at hm; exact hm), fun c => ?_⟩⟩
      refine inner (s 1).toNat 0 p l 0 (r : Int) σ1 (by omega) (by omega) hp ho hp1 (by omega) (fun p' l' fl' σ' a1 a2 a3 a4 => ?_)
      refine ih (r + 1) p' l' fl' σ' (by omega) a1 a2 a3 ?_
      unfold turnR at hm
      rw [if_neg c, ← a4] at hm
      exact hm
  refine gX11_turning_0 σ (qX11_costOf (by rw [hs]; exact hw) (fun σ1 o1 => ?_))
  rw [hs]
  exact outer 20 0 (s 3) (costM s) 1 σ1 rfl hw.2.2.2.1 (o1.mono (by decide)) (by rw [o1 36 (by decide), hs, su_id]) rfl
theorem qX9_turnedPointing {σ : Hp} {K : Int → Hp → Prop} {s : Nat → Int} (hw : WF s) (ht : TRc σ s) (hm : TMs σ s) (he : TMe σ s) (h10 : σ 11 0 3 = s 10) (e6 : σ 1 0 6 = s 3) (e5 : ∀ t : Int, 0 ≤ t → t < s 1 → σ 5 0 t.toNat = sg s t 4)
    (h : ∀ σ', Off [16, 17, 18] σ σ' → K (turnM s) σ') : Runs 6 mX9_turnedPointing 0 [zR 26 0, zU, zU, zU, zU, zU, zU, zU] [] σ (rI K) := by
  have w1 := hw.2.1
  have inner : ∀ (n : Nat) (t p l fl r : Int) (σ1 : Hp) (q : Int), t + n = s 1 → 0 ≤ t → (0 ≤ p ∧ p < 16384) → Off [16, 17, 18] σ σ1 → (0 ≤ q ∧ q < 16384) → TRc σ1 (su s 3 q) → (-1000 ≤ r ∧ r ≤ 1000) →
      (∀ p' l' fl' σ' q', (0 ≤ p' ∧ p' < 16384) → Off [16, 17, 18] σ σ' → (0 ≤ q' ∧ q' < 16384) → TRc σ' (su s 3 q') → (p', l', fl') = turnGo s n t p l fl → Runs 6 mX9_turnedPointing 23 [zR 26 0, zI p', zI l', zI fl', zI (r + 1), zU, zU, zU] [] σ' (rI K)) →
      Runs 6 mX9_turnedPointing 39 [zR 26 0, zI p, zI l, zI fl, zI r, zI t, zU, zU] [] σ1 (rI K) := by
    intro n
    induction n with
    | zero =>
      intro t p l fl r σ1 q htn h0 hp ho hq htq hr cont
      have e1 : σ1 1 0 1 = s 1 := by rw [ho 1 (by decide)]; exact hm.2.1
      exact gX9_turnedPointing_39 p l fl r t σ1 ⟨fun _ => ⟨by omega, cont p l fl σ1 q hp ho hq htq rfl⟩, fun z => absurd (show σ1 1 0 1 ≤ t by omega) z⟩
    | succ n ih =>
      intro t p l fl r σ1 q htn h0 hp ho hq htq hr cont
      have e1 : σ1 1 0 1 = s 1 := by rw [ho 1 (by decide)]; exact hm.2.1
      have e5' : σ1 5 0 t.toNat = sg s t 4 := by rw [ho 5 (by decide)]; exact e5 t h0 (by omega)
      have ht14 : 0 ≤ t ∧ t < 14 := by omega
      have hx := xb_lt hp ht14
      have hxb := xb_bit hp ht14
      refine gX9_turnedPointing_39 p l fl r t σ1 ⟨fun z => absurd z (by omega), fun _ => ⟨by omega, fun c σ3 e3 => ?_, fun c => ⟨by omega, ?_⟩⟩⟩
      · have hok : sg s t 4 = 2 ∨ sg s t 4 = 1 - bitz p t := by
          rw [e5'] at c
          rcases c with c | c
          · exact Or.inl c
          · exact Or.inr (c.trans hxb)
        replace e3 : σ3 = zup σ1 16 0 4 (tBits σ1 (xb p t)) := e3
        subst e3
        have hwp := WF_su hw (k := 3) (v := q) (Or.inl ⟨Or.inl rfl, hq⟩)
        have ht3 : TRc (zup σ1 16 0 4 (tBits σ1 (xb p t))) (su s 3 (xb p t)) := by
          have := TRc_point hwp htq (by rw [ho 11 (by decide), su_ne (by omega)]; exact h10) hx
          rw [su_su] at this
          exact this
        have hwb := WF_su hw (k := 3) (v := xb p t) (Or.inl ⟨Or.inl rfl, hx⟩)
        have o3 : Off [16, 17, 18] σ (zup σ1 16 0 4 (tBits σ1 (xb p t))) := ho.up (by decide)
        obtain ⟨m3, n3⟩ := kept_TM o3 hm he
        refine qX1_totalUpTo hwb ht3 (TMs_su (by omega) m3) (TMe_su (by omega) n3) (fun σ4 z k4 z0 zl z1 z2 => ⟨fun c2 => ⟨by omega, ?_⟩, fun c2 => ⟨by omega, ?_⟩⟩)
        · have hF : ¬ costM (su s 3 (xb p t)) < l := fun y => by have := z1 y; omega
          refine ih (t + 1) p l fl r σ4 (xb p t) (by omega) (by omega) hp (o3.tr k4.1) hx (k4.T ht3 (TMs_su (by omega) m3)).1 hr (fun p' l' fl' σ' q' a1 a2 a3 a4 a5 => cont p' l' fl' σ' q' a1 a2 a3 a4 ?_)
          unfold turnGo
          rw [if_pos hok, if_neg hF]
          exact a5
        · have hF : costM (su s 3 (xb p t)) < l := by
            by_cases y : l ≤ costM (su s 3 (xb p t))
            · have := z2 y; omega
            · omega
          have hz := z1 hF
          refine ih (t + 1) (xb p t) z 1 r σ4 (xb p t) (by omega) (by omega) hx (o3.tr k4.1) hx (k4.T ht3 (TMs_su (by omega) m3)).1 hr (fun p' l' fl' σ' q' a1 a2 a3 a4 a5 => cont p' l' fl' σ' q' a1 a2 a3 a4 ?_)
          unfold turnGo
          rw [if_pos hok, if_pos hF, ← hz]
          exact a5
      · have hno : ¬ (sg s t 4 = 2 ∨ sg s t 4 = 1 - bitz p t) := by
          rw [e5'] at c
          exact fun z => c (z.imp id (fun y => y.trans hxb.symm))
        refine ih (t + 1) p l fl r σ1 q (by omega) (by omega) hp ho hq htq hr (fun p' l' fl' σ' q' a1 a2 a3 a4 a5 => cont p' l' fl' σ' q' a1 a2 a3 a4 ?_)
        unfold turnGo
        rw [if_neg hno]
        exact a5
  have outer : ∀ (k r : Nat) (p l fl : Int) (σ1 : Hp) (q : Int), r + k = 20 → (0 ≤ p ∧ p < 16384) → Off [16, 17, 18] σ σ1 → (0 ≤ q ∧ q < 16384) → TRc σ1 (su s 3 q) → turnR s k p l fl = turnM s → Runs 6 mX9_turnedPointing 23 [zR 26 0, zI p, zI l, zI fl, zI (r : Int), zU, zU, zU] [] σ1 (rI K) := by
    intro k
    induction k with
    | zero =>
      intro r p l fl σ1 q hr hp ho hq htq hmm
      refine gX9_turnedPointing_23 p l fl (r : Int) σ1 ⟨fun _ => ?_, fun z => absurd (show (20 : Int) ≤ r by omega) z⟩
      have := h σ1 ho
      rw [← hmm] at this
      exact this
    | succ k ih =>
      intro r p l fl σ1 q hr hp ho hq htq hmm
      refine gX9_turnedPointing_23 p l fl (r : Int) σ1 ⟨fun z => absurd z (by omega), fun _ => ⟨fun c => ?_, fun c => ?_⟩⟩
      · unfold turnR at hmm
        rw [if_pos c] at hmm
        have := h σ1 ho
        rw [← hmm] at this
        exact this
      · refine inner (s 1).toNat 0 p l 0 (r : Int) σ1 q (by omega) (by omega) hp ho hq htq (by omega) (fun p' l' fl' σ' q' a1 a2 a3 a4 a5 => ?_)
        refine ih (r + 1) p' l' fl' σ' q' (by omega) a1 a2 a3 a4 ?_
        unfold turnR at hmm
        rw [if_neg c, ← a5] at hmm
        exact hmm
  have cb := costM_b hw
  refine gX9_turnedPointing_0 σ (qX1_totalUpTo hw ht hm he (fun σ1 z k1 z0 zl z1 z2 => ?_))
  rw [e6, z1 (by omega)]
  exact outer 20 0 (s 3) (costM s) 1 σ1 (s 3) rfl hw.2.2.2.1 k1.1 hw.2.2.2.1 (by rw [su_id]; exact (k1.T ht hm).1) rfl
