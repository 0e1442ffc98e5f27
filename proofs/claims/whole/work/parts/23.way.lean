/-! the town as the reference holds it, and its streets at a minute -/
def stOK (s : Nat → Int) (t : Int) : Prop := (0 ≤ sg s t 0 ∧ sg s t 0 < s 0) ∧ (0 ≤ sg s t 1 ∧ sg s t 1 < s 0) ∧ sg s t 0 ≠ sg s t 1 ∧ (1 ≤ sg s t 2 ∧ sg s t 2 ≤ 60) ∧ (0 ≤ sg s t 3 ∧ sg s t 3 ≤ 1) ∧ (0 ≤ sg s t 4 ∧ sg s t 4 ≤ 2)
def erOK (s : Nat → Int) (e : Int) : Prop := (0 ≤ se s e 0 ∧ se s e 0 < s 0) ∧ (0 ≤ se s e 1 ∧ se s e 1 < s 0) ∧ (0 ≤ se s e 2 ∧ se s e 2 ≤ 1439) ∧ (1 ≤ se s e 3 ∧ se s e 3 ≤ 9)
def WF (s : Nat → Int) : Prop := (2 ≤ s 0 ∧ s 0 ≤ 10) ∧ (0 ≤ s 1 ∧ s 1 ≤ 14) ∧ (0 ≤ s 2 ∧ s 2 ≤ 8) ∧ (0 ≤ s 3 ∧ s 3 < 16384) ∧ (0 ≤ s 4 ∧ s 4 < 16384) ∧ (0 ≤ s 5 ∧ s 5 < 16384) ∧ (0 ≤ s 6 ∧ s 6 ≤ 10) ∧ (0 ≤ s 7 ∧ s 7 ≤ 1439) ∧ (0 ≤ s 8 ∧ s 8 ≤ 4) ∧ (10 ≤ s 9 ∧ s 9 ≤ 720) ∧ (0 ≤ s 10 ∧ s 10 ≤ 9) ∧
  (∀ t : Int, 0 ≤ t → t < s 1 → stOK s t) ∧ (∀ e : Int, 0 ≤ e → e < s 2 → erOK s e) ∧ (∀ i : Nat, (i : Int) < s 6 → 0 ≤ s (113 + i) ∧ s (113 + i) ≤ 9)
def turnsS (s : Nat → Int) (m : Int) : Int := if s 8 = 4 then 0 else if m < s 7 then 0 else if s 8 = 2 then 1 + (m - s 7) / s 9 else 1
def turnS (s : Nat → Int) (m : Int) : Int := if s 8 = 4 then -9 else if m < s 7 then s 7 else if s 8 = 2 then s 7 + (1 + (m - s 7) / s 9) * s 9 else -9
def nextS (s : Nat → Int) (m : Int) : Int := if turnS s m ≤ 2879 then turnS s m else -9
def ebit (s : Nat → Int) (t : Int) : Int := if s 8 = 3 ∧ s 10 % 2 = 1 then 1 - bitz (s 3) t else bitz (s 3) t
def wayS (s : Nat → Int) (t m : Int) : Int := if bitz (s 4) t = 1 then 3 else if bitz (s 5) t = 1 ∨ (s 8 = 1 ∧ sg s t 3 = 1) then 2 else (ebit s t + turnsS s m) % 2
def entS (s : Nat → Int) (t e m : Int) : Int := if bitz (s 4) t = 1 ∨ 2879 < m then -9 else if wayS s t m = 2 ∨ wayS s t m = e then m else nextS s m
def zwrongWay (s : Nat → Int) (f t m : Int) : Int := if (0 ≤ f ∧ f < s 0) ∧ (0 ≤ t ∧ t < s 0) then zwithin m 0 2879 else -1
def zfew (n : Int) : Int := if 10 < n then -6 else if n = 0 then -3 else 0
def zother (σ : Hp) (t c : Int) : Int := if σ 2 0 t.toNat = c then σ 3 0 t.toNat else if σ 3 0 t.toNat = c then σ 2 0 t.toNat else -1
def zlcg (z : Int) : Int := wrap (wrap (z * 1664525) + 1013904223)
def zdraw (z : Int) : Int := zrem (zdiv (zand (zlcg z) 2147483647) 256) 1440
theorem ebit_01 (s : Nat → Int) (t : Int) : ebit s t = 0 ∨ ebit s t = 1 := by
  unfold ebit
  have := bitz_01 (s 3) t
  split <;> omega
theorem turnsS_nn {s : Nat → Int} (h : WF s) (m : Int) : 0 ≤ turnsS s m := by
  obtain ⟨-, -, -, -, -, -, -, w7, w8, w9, -⟩ := h
  unfold turnsS
  split
  · omega
  · split
    · omega
    · split
      · have := Int.ediv_nonneg (show 0 ≤ m - s 7 by omega) (show 0 ≤ s 9 by omega)
        omega
      · omega
section Small2
variable {σ : Hp} {K : Int → Hp → Prop} {K' : Hp → Prop}
theorem pX11_isCorner {a0 : Int} (h1 : 0 ≤ a0 ∧ a0 < σ 36 0 0 → K 1 σ) (h0 : ¬ (0 ≤ a0 ∧ a0 < σ 36 0 0) → K 0 σ) : Runs 1 mX11_isCorner 0 [zR 34 0, zI a0] [] σ (rI K) := gX11_isCorner_0 a0 σ ⟨h1, h0⟩
theorem pX11_isStreet {a0 : Int} (h1 : 0 ≤ a0 ∧ a0 < σ 36 0 1 → K 1 σ) (h0 : ¬ (0 ≤ a0 ∧ a0 < σ 36 0 1) → K 0 σ) : Runs 1 mX11_isStreet 0 [zR 34 0, zI a0] [] σ (rI K) := gX11_isStreet_0 a0 σ ⟨h1, h0⟩
theorem pX11_isErrand {a0 : Int} (h1 : 0 ≤ a0 ∧ a0 < σ 36 0 2 → K 1 σ) (h0 : ¬ (0 ≤ a0 ∧ a0 < σ 36 0 2) → K 0 σ) : Runs 1 mX11_isErrand 0 [zR 34 0, zI a0] [] σ (rI K) := gX11_isErrand_0 a0 σ ⟨h1, h0⟩
theorem pX11_takes {a0 : Int} (c : 0 ≤ σ 34 0 8 ∧ σ 34 0 7 ≤ 64) (c2 : σ 34 0 8 ≤ 1000) (h1 : zsign σ = a0 → K 1 (zup σ 34 0 8 (σ 34 0 8 + 1))) (h0 : ¬ zsign σ = a0 → K 0 σ) : Runs 1 mX11_takes 0 [zR 34 0, zI a0] [] σ (rI K) := gX11_takes_0 a0 σ ⟨c, fun q => ⟨by omega, h1 q⟩, h0⟩
theorem pX11_wrongFew (h : K (zfew (σ 36 0 1)) σ) : Runs 0 mX11_wrongFew 0 [zR 34 0] [] σ (rI K) := by
  unfold zfew at h
  refine gX11_wrongFew_0 σ ⟨fun c => ⟨fun c2 => ?_, fun c2 => ?_⟩, fun c => ?_⟩
  · rw [if_neg (by omega), if_neg c2] at h; exact h
  · rw [if_neg (by omega), if_pos c2] at h; exact h
  · rw [if_pos (by omega)] at h; exact h
theorem pX10_refusalOfTrying (h : K (zfew (σ 1 0 1)) σ) : Runs 0 mX10_refusalOfTrying 0 [zR 0 0] [] σ (rI K) := by
  unfold zfew at h
  refine gX10_refusalOfTrying_0 σ ⟨fun c => ⟨fun c2 => ?_, fun c2 => ?_⟩, fun c => ?_⟩
  · rw [if_neg (by omega), if_neg c2] at h; exact h
  · rw [if_neg (by omega), if_pos c2] at h; exact h
  · rw [if_pos (by omega)] at h; exact h
theorem pX7_wayOf {t : Int} (h : K (tWay σ t) σ) : Runs 1 mX7_wayOf 0 [zR 16 0, zI t] [] σ (rI K) := by
  unfold tWay at h
  refine gX7_wayOf_0 t σ ⟨fun c => ⟨fun c2 => ?_, fun c2 => ?_⟩, fun c => ?_⟩
  · rw [if_neg c, if_neg c2] at h; exact h
  · rw [if_neg c, if_pos c2] at h; exact h
  · rw [if_pos c] at h; exact h
theorem pX10_refusalOfWay {f t m : Int} (h : K (zwrongWay (σ 1 0) f t m) σ) : Runs 1 mX10_refusalOfWay 0 [zR 0 0, zI f, zI t, zI m] [] σ (rI K) := by
  unfold zwrongWay at h
  refine gX10_refusalOfWay_0 f t m σ ⟨fun c => ⟨fun c2 => ?_, fun c2 => ?_⟩, fun c => ?_⟩
  · rw [if_pos ⟨c, c2⟩] at h; exact h
  · rw [if_neg (fun q => c2 q.2)] at h; exact h
  · rw [if_neg (fun q => c q.1)] at h; exact h
theorem pX6_areTwoCorners {t : Nat} {a b : Int} (h1 : (0 ≤ a ∧ a < σ 1 t 0) ∧ (0 ≤ b ∧ b < σ 1 t 0) ∧ a ≠ b → K 1 σ) (h0 : ¬ ((0 ≤ a ∧ a < σ 1 t 0) ∧ (0 ≤ b ∧ b < σ 1 t 0) ∧ a ≠ b) → K 0 σ) : Runs 1 mX6_areTwoCorners 0 [zR 1 t, zI a, zI b] [] σ (rI K) :=
  gX6_areTwoCorners_0 a b t σ ⟨fun c => ⟨fun c2 => ⟨fun c3 => h0 (fun q => q.2.2 c3), fun c3 => h1 ⟨c, c2, c3⟩⟩, fun c2 => h0 (fun q => c2 q.2.1)⟩, fun c => h0 (fun q => c q.1)⟩
theorem pX6_mustLets {t : Nat} {s b : Int} (c : 0 ≤ s ∧ s < 14) (h1 : σ 5 t s.toNat = 2 ∨ σ 5 t s.toNat = b → K 1 σ) (h0 : ¬ (σ 5 t s.toNat = 2 ∨ σ 5 t s.toNat = b) → K 0 σ) : Runs 0 mX6_mustLets 0 [zR 1 t, zI s, zI b] [] σ (rI K) :=
  gX6_mustLets_0 s b t σ ⟨c, fun q => h1 (Or.inl q), fun q => ⟨c, fun r => h0 (fun z => z.elim q r), fun r => h1 (Or.inr r)⟩⟩
theorem pX3_sign {a0 : Int} (c : σ 12 0 1 ≤ 64) (c2 : 0 ≤ σ 14 0 2 ∧ σ 14 0 2 ≤ 1000) (h1 : zbyte σ (σ 14 0 2) = a0 → K 1 (zup σ 14 0 2 (σ 14 0 2 + 1))) (h0 : ¬ zbyte σ (σ 14 0 2) = a0 → K 0 σ) : Runs 1 mX3_sign 0 [zR 14 0, zI a0] [] σ (rI K) := gX3_sign_0 a0 σ ⟨c, fun q => ⟨by omega, h1 q⟩, h0⟩
theorem pX2_otherEnd {t c : Int} (ht : 0 ≤ t ∧ t < 14) (h : K (zother σ t c) σ) : Runs 0 mX2_otherEnd 0 [zR 22 0, zI t, zI c] [] σ (rI K) := by
  unfold zother at h
  refine gX2_otherEnd_0 t c σ ⟨ht, fun c1 => ⟨ht, fun c2 => ?_, fun c2 => ⟨ht, ?_⟩⟩, fun c1 => ⟨ht, ?_⟩⟩
  · rw [if_neg c1, if_neg c2] at h; exact h
  · rw [if_neg c1, if_pos c2] at h; exact h
  · rw [if_pos c1] at h; exact h
theorem pX0_isApart {f t : Int} (cf : 0 ≤ f ∧ f < 10) (ct : 0 ≤ t ∧ t < 10) (h1 : f ≠ t ∧ 1000000 ≤ σ 21 f.toNat t.toNat → K 1 σ) (h0 : ¬ (f ≠ t ∧ 1000000 ≤ σ 21 f.toNat t.toNat) → K 0 σ) : Runs 0 mX0_isApart 0 [zR 19 0, zI f, zI t] [] σ (rI K) :=
  gX0_isApart_0 f t σ ⟨fun q => h0 (fun z => z.1 q), fun q => ⟨cf, ct, fun r => h0 (fun z => by omega), fun r => h1 ⟨q, by omega⟩⟩⟩
theorem pX0_layStep {f t w : Int} (cf : 0 ≤ f ∧ f < 10) (ct : 0 ≤ t ∧ t < 10) (h : K' (zup σ 21 f.toNat t.toNat (if w < σ 21 f.toNat t.toNat then w else σ 21 f.toNat t.toNat))) : Runs 1 mX0_layStep 0 [zR 19 0, zI f, zI t, zI w] [] σ (rV K') :=
  gX0_layStep_0 f t w σ ⟨cf, cf, ct, ct, fun σ1 e => by subst e; exact h⟩
theorem zup_same {σ : Hp} {g i j : Nat} {v : Int} (h : v = σ g i j) : zup σ g i j v = σ := by
  funext a b c
  unfold zup
  split
  · rename_i q
    obtain ⟨rfl, rfl, rfl⟩ := q
    exact h
  · rfl
theorem pX8_goAlong {s t e : Int} (cs : 0 ≤ s ∧ s < 14) (ct : 0 ≤ t ∧ t < 10) (ce : -9 ≤ e ∧ e ≤ 1000000) (cw : 0 ≤ σ 4 0 s.toNat ∧ σ 4 0 s.toNat ≤ 60) (h1 : e = -9 → K' σ) (h : e ≠ -9 → K' (zup σ 18 0 t.toNat (if e + σ 4 0 s.toNat < σ 18 0 t.toNat then e + σ 4 0 s.toNat else σ 18 0 t.toNat))) : Runs 1 mX8_goAlong 0 [zR 17 0, zI s, zI t, zI e] [] σ (rV K') := by
  refine gX8_goAlong_0 s t e σ ⟨h1, fun q => ⟨cs, by omega, ct, fun c => ?_, fun c => ⟨cs, by omega, ct, ?_⟩⟩⟩
  · have h := h q
    rw [if_neg (by omega), zup_same rfl] at h
    exact h
  · have h := h q
    rw [if_pos (by omega)] at h
    exact h
def tTake (σ : Hp) : Hp :=
  let σ1 := zup (zup (zup (zup σ 16 0 1 (σ 11 0 1)) 16 0 2 (σ 11 0 0)) 16 0 3 (σ 11 0 2)) 16 0 5 (σ 1 0 5)
  let σ2 := zup σ1 16 0 6 (tOpen σ1 0)
  zup σ2 16 0 4 (tBits σ2 (σ2 1 0 6))
theorem pX7_takeAsItIs (h : K' (tTake σ)) : Runs 1 mX7_takeAsItIs 0 [zR 16 0] [] σ (rV K') :=
  gX7_takeAsItIs_0 σ (fun σ1 e1 σ2 e2 σ3 e3 => by subst e1; subst e2; subst e3; exact h)
theorem pX1_drawBelow (h : K (zdraw (σ 25 0 2)) (zup σ 25 0 2 (zlcg (σ 25 0 2)))) : Runs 0 mX1_drawBelow 0 [zR 25 0, zI 1440] [] σ (rI K) :=
  gX1_drawBelow_0 1440 σ ⟨fun _ => ⟨by omega, fun z e => by subst e; exact h⟩, fun q => absurd (show (1 : Int) ≤ 1440 by omega) q⟩
theorem pX5_add {v : Int} (c : 0 ≤ σ 12 0 1 ∧ σ 12 0 1 < 64) (h : K' (zup (zup σ 13 0 (σ 12 0 1).toNat v) 12 0 1 (σ 12 0 1 + 1))) : Runs 0 mX5_add 0 [zR 12 0, zI v] [] σ (rV K') :=
  gX5_add_0 v σ ⟨fun q => absurd q (by omega), fun _ => ⟨c, by omega, h⟩⟩
theorem pX11_wayOf {t m : Int} (hw : WF (σ 36 0)) (ht : 0 ≤ t ∧ t < σ 36 0 1) (hm : 0 ≤ m ∧ m ≤ 1000000) (h : K (wayS (σ 36 0) t m) σ) : Runs 1 mX11_wayOf 0 [zR 34 0, zI t, zI m, zU, zU, zU] [] σ (rI K) := by
  have hw0 := hw
  obtain ⟨w0, w1, w2, w3, w4, w5, w6, w7, w8, w9, w10, wst, wer, wrow⟩ := hw
  have tail : ∀ b : Int, b = ebit (σ 36 0) t → ¬ (σ 36 0 8 = 4) → K ((ebit (σ 36 0) t + turnsS (σ 36 0) m) % 2) σ → Runs 1 mX11_wayOf 108 [zR 34 0, zU, zI m, zI (σ 36 0 8), zI b, zI (σ 36 0 7)] [] σ (rI K) := fun b hb r4 hK => by
    have b01 := ebit_01 (σ 36 0) t
    rw [← hb] at b01 hK
    unfold turnsS at hK
    rw [if_neg r4] at hK
    refine gX11_wayOf_108 m (σ 36 0 8) b (σ 36 0 7) σ ⟨fun c => ⟨fun c2 => ⟨by omega, ?_⟩, fun c2 => ?_⟩, fun c => ?_⟩
    · rw [if_neg (by omega), if_neg c2] at hK
      rw [show (b + 1) % 2 = 1 - b by omega] at hK
      exact hK
    · rw [if_neg (by omega), if_pos c2] at hK
      have q0 := Int.ediv_nonneg (show 0 ≤ m - σ 36 0 7 by omega) (show 0 ≤ σ 36 0 9 by omega)
      have q1 := Int.ediv_le_self (σ 36 0 9) (show 0 ≤ m - σ 36 0 7 by omega)
      have hd : zdiv (m - σ 36 0 7) (σ 36 0 9) = (m - σ 36 0 7) / σ 36 0 9 := n32_quot ⟨by omega, by omega⟩ ⟨by omega, by omega⟩ (by omega) (by omega)
      rw [hd]
      refine ⟨by omega, by omega, by omega, by omega, ?_⟩
      have hr : zrem (b + 1 + (m - σ 36 0 7) / σ 36 0 9) 2 = (b + 1 + (m - σ 36 0 7) / σ 36 0 9) % 2 := zrem_eq ⟨by omega, by omega⟩ ⟨by omega, by omega⟩ (by omega) (by omega)
      rw [show b + (1 + (m - σ 36 0 7) / σ 36 0 9) = b + 1 + (m - σ 36 0 7) / σ 36 0 9 by omega, ← hr] at hK
      exact hK
    · rw [if_pos (by omega), show (b + 0) % 2 = b by omega] at hK
      exact hK
  have mid : K ((ebit (σ 36 0) t + turnsS (σ 36 0) m) % 2) σ → Runs 1 mX11_wayOf 55 [zR 34 0, zI t, zI m, zI (σ 36 0 8), zU, zU] [] σ (rI K) := fun hK => by
    have hr : zrem (σ 36 0 10) 2 = σ 36 0 10 % 2 := zrem_eq ⟨by omega, by omega⟩ ⟨by omega, by omega⟩ (by omega) (by omega)
    have bb := bitz_01 (σ 36 0 3) t
    refine gX11_wayOf_55 t m (σ 36 0 8) σ ⟨fun c4 => ⟨fun c3 => ?_, fun c3 => ⟨fun cd => ?_, fun cd => ⟨by omega, ?_⟩⟩⟩, fun c4 => ?_⟩
    · exact tail _ (by unfold ebit; rw [if_neg (fun q => c3 q.1)]) c4 hK
    · rw [hr] at cd
      exact tail _ (by unfold ebit; rw [if_neg (fun q => cd q.2)]) c4 hK
    · rw [hr] at cd
      exact tail _ (by unfold ebit; rw [if_pos ⟨c3, cd⟩]) c4 hK
    · unfold turnsS at hK
      rw [if_pos c4] at hK
      have he : ebit (σ 36 0) t = bitz (σ 36 0 3) t := by unfold ebit; rw [if_neg (fun q => by omega)]
      rw [he, show (bitz (σ 36 0 3) t + 0) % 2 = bitz (σ 36 0 3) t by omega] at hK
      exact hK
  unfold wayS at h
  refine gX11_wayOf_0 t m σ ⟨fun c => ⟨fun c2 => ?_, fun c2 => ⟨fun c3 => ?_, fun c3 => ⟨by omega, fun c5 => ?_, fun c5 => ?_⟩⟩⟩, fun c => ?_⟩
  · rw [if_neg c, if_pos (Or.inl c2)] at h; exact h
  · rw [if_neg c, if_neg (fun q => q.elim c2 (fun z => c3 z.1))] at h; exact mid h
  · rw [if_neg c, if_neg (fun q => q.elim c2 (fun z => c5 z.2))] at h; exact mid h
  · rw [if_neg c, if_pos (Or.inr ⟨c3, c5⟩)] at h; exact h
  · rw [if_pos c] at h; exact h
end Small2
