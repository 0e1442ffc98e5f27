/-! the first of the least -/
def AM (ok : Int → Prop) (f : Int → Int) (n r : Int) : Prop := (r = -9 ∧ ∀ b, 0 ≤ b → b < n → ¬ ok b) ∨ (0 ≤ r ∧ r < n ∧ ok r ∧ (∀ b, 0 ≤ b → b < n → ok b → f r ≤ f b) ∧ ∀ b, 0 ≤ b → b < r → ok b → f r < f b)
theorem AM.zero {ok : Int → Prop} {f : Int → Int} : AM ok f 0 (-9) := Or.inl ⟨rfl, fun b h1 h2 => by omega⟩
theorem AM.skip {ok : Int → Prop} {f : Int → Int} {n n' r : Int} (h : AM ok f n r) (hn : n ≤ n') (hs : ∀ b, n ≤ b → b < n' → ¬ ok b) : AM ok f n' r := by
  rcases h with ⟨h1, h2⟩ | ⟨h1, h2, h3, h4, h5⟩
  · refine Or.inl ⟨h1, fun b b0 bn => ?_⟩
    by_cases q : b < n
    · exact h2 b b0 q
    · exact hs b (by omega) bn
  · refine Or.inr ⟨h1, by omega, h3, fun b b0 bn hb => ?_, h5⟩
    by_cases q : b < n
    · exact h4 b b0 q hb
    · exact absurd hb (hs b (by omega) bn)
theorem AM.less {ok : Int → Prop} {f : Int → Int} {n r : Int} (h : AM ok f n r) (h0 : 0 ≤ n) (hn : ok n) (hl : 0 ≤ r → f n < f r) : AM ok f (n + 1) n := by
  refine Or.inr ⟨h0, by omega, hn, fun b b0 bn hb => ?_, fun b b0 bn hb => ?_⟩
  · by_cases q : b = n
    · rw [q]; omega
    · rcases h with ⟨h1, h2⟩ | ⟨h1, h2, h3, h4, h5⟩
      · exact absurd hb (h2 b b0 (by omega))
      · have := h4 b b0 (by omega) hb
        have := hl h1
        omega
  · rcases h with ⟨h1, h2⟩ | ⟨h1, h2, h3, h4, h5⟩
    · exact absurd hb (h2 b b0 (by omega))
    · have := h4 b b0 (by omega) hb
      have := hl h1
      omega
theorem AM.keep {ok : Int → Prop} {f : Int → Int} {n r : Int} (h : AM ok f n r) (hr : 0 ≤ r) (hl : f r ≤ f n) : AM ok f (n + 1) r := by
  rcases h with ⟨h1, h2⟩ | ⟨h1, h2, h3, h4, h5⟩
  · omega
  · refine Or.inr ⟨h1, by omega, h3, fun b b0 bn hb => ?_, h5⟩
    by_cases q : b = n
    · rw [q]; exact hl
    · exact h4 b b0 (by omega) hb
theorem AM.uniq {ok : Int → Prop} {f : Int → Int} {n r r' : Int} (h : AM ok f n r) (h' : AM ok f n r') : r = r' := by
  rcases h with ⟨h1, h2⟩ | ⟨h1, h2, h3, h4, h5⟩ <;> rcases h' with ⟨g1, g2⟩ | ⟨g1, g2, g3, g4, g5⟩
  · omega
  · exact absurd g3 (h2 r' g1 g2)
  · exact absurd h3 (g2 r h1 h2)
  · have a := h4 r' g1 g2 g3
    have b := g4 r h1 h2 h3
    by_cases q : r < r'
    · have := g5 r h1 q h3; omega
    · by_cases p : r' < r
      · have := h5 r' g1 p g3; omega
      · omega
theorem AM.r9 {ok : Int → Prop} {f : Int → Int} {n r : Int} (h : AM ok f n r) : r = -9 ∨ (0 ≤ r ∧ r < n) := by
  rcases h with ⟨h1, -⟩ | ⟨h1, h2, -⟩
  · exact Or.inl h1
  · exact Or.inr ⟨h1, h2⟩
theorem AM.ok {ok : Int → Prop} {f : Int → Int} {n r : Int} (h : AM ok f n r) (hr : 0 ≤ r) : ok r := by
  rcases h with ⟨h1, -⟩ | ⟨-, -, h3, -⟩
  · omega
  · exact h3
theorem zup_su {σ : Hp} {k : Nat} {v : Int} : (zup σ 36 0 k v) 36 0 = su (σ 36 0) k v := by
  funext j
  unfold zup su
  by_cases h : j = k
  · simp [h]
  · simp [h]
theorem su_su {s : Nat → Int} {k : Nat} {v w : Int} : su (su s k v) k w = su s k w := by
  funext j
  unfold su
  split <;> rfl
theorem su_id {s : Nat → Int} {k : Nat} : su s k (s k) = s := by
  funext j
  unfold su
  split
  · rename_i q; rw [q]
  · rfl
/-! musts -/
def musts (s : Nat → Int) (b : Int) : Prop := ∀ t : Int, 0 ≤ t → t < s 1 → sg s t 4 = 2 ∨ bitz b t = sg s t 4
theorem qX11_keepsMusts {σ : Hp} {K : Int → Hp → Prop} (hw : WF (σ 36 0)) {b : Int} (h1 : musts (σ 36 0) b → K 1 σ) (h0 : ¬ musts (σ 36 0) b → K 0 σ) : Runs 1 mX11_keepsMusts 0 [zR 34 0, zI b, zU] [] σ (rI K) := by
  have w1 := hw.2.1
  have loop : ∀ (n : Nat) (t : Int), (σ 36 0 1 - t).toNat ≤ n → 0 ≤ t → t ≤ σ 36 0 1 → (∀ t' : Int, 0 ≤ t' → t' < t → sg (σ 36 0) t' 4 = 2 ∨ bitz b t' = sg (σ 36 0) t' 4) → Runs 1 mX11_keepsMusts 2 [zR 34 0, zI b, zI t] [] σ (rI K) := by
    intro n
    have fin : ∀ t : Int, t = σ 36 0 1 → (∀ t' : Int, 0 ≤ t' → t' < t → sg (σ 36 0) t' 4 = 2 ∨ bitz b t' = sg (σ 36 0) t' 4) → Runs 1 mX11_keepsMusts 2 [zR 34 0, zI b, zI t] [] σ (rI K) := fun t ht hI => by
      subst ht
      exact gX11_keepsMusts_2 b _ σ ⟨fun _ => h1 hI, fun q => absurd (Int.le_refl _) q⟩
    induction n with
    | zero => intro t hn h0' hl hI; exact fin t (by omega) hI
    | succ n ih =>
      intro t hn h0' hl hI
      by_cases q : t = σ 36 0 1
      · exact fin t q hI
      · have st := hw.2.2.2.2.2.2.2.2.2.2.2.1 t h0' (by omega)
        unfold stOK at st
        have step : (sg (σ 36 0) t 4 = 2 ∨ bitz b t = sg (σ 36 0) t 4) → Runs 1 mX11_keepsMusts 2 [zR 34 0, zI b, zI (t + 1)] [] σ (rI K) := fun hs => ih (t + 1) (by omega) (by omega) (by omega) (fun t' a0 a1 => by
          by_cases p : t' = t
          · rw [p]; exact hs
          · exact hI t' a0 (by omega))
        refine gX11_keepsMusts_2 b t σ ⟨fun z => absurd z (by omega), fun _ => ⟨by omega, fun c => ⟨by omega, step (Or.inl (by omega))⟩, fun c => ⟨by omega, fun c2 => ⟨by omega, step (Or.inr c2)⟩, fun c2 => h0 (fun hall => ?_)⟩⟩⟩
        rcases hall t h0' (by omega) with z | z
        · omega
        · exact c2 z
  exact gX11_keepsMusts_0 b σ (loop (σ 36 0 1).toNat 0 (by omega) (by omega) w1.1 (fun t' a0 a1 => by omega))
/-- the class's first must that is not kept; -1 none -/
theorem qX6_firstMustUnkept {σ : Hp} {K : Int → Hp → Prop} {s : Nat → Int} (hw : WF s) (e1 : σ 1 0 1 = s 1) (e5 : ∀ t : Int, 0 ≤ t → t < s 1 → σ 5 0 t.toNat = sg s t 4) {b : Int} (h1 : musts s b → K (-1) σ) (h0 : ∀ t : Int, 0 ≤ t → t < s 1 → ¬ (sg s t 4 = 2 ∨ bitz b t = sg s t 4) → (∀ t' : Int, 0 ≤ t' → t' < t → sg s t' 4 = 2 ∨ bitz b t' = sg s t' 4) → K t σ) : Runs 1 mX6_firstMustUnkept 0 [zR 1 0, zI b, zU] [] σ (rI K) := by
  have w1 := hw.2.1
  have loop : ∀ (n : Nat) (t : Int), (s 1 - t).toNat ≤ n → 0 ≤ t → t ≤ s 1 → (∀ t' : Int, 0 ≤ t' → t' < t → sg s t' 4 = 2 ∨ bitz b t' = sg s t' 4) → Runs 1 mX6_firstMustUnkept 2 [zR 1 0, zI b, zI t] [] σ (rI K) := by
    intro n
    have fin : ∀ t : Int, t = s 1 → (∀ t' : Int, 0 ≤ t' → t' < t → sg s t' 4 = 2 ∨ bitz b t' = sg s t' 4) → Runs 1 mX6_firstMustUnkept 2 [zR 1 0, zI b, zI t] [] σ (rI K) := fun t ht hI => by
      subst ht
      exact gX6_firstMustUnkept_2 b _ 0 σ ⟨fun _ => h1 hI, fun q => absurd (show σ 1 0 1 ≤ s 1 by omega) q⟩
    induction n with
    | zero => intro t hn h0' hl hI; exact fin t (by omega) hI
    | succ n ih =>
      intro t hn h0' hl hI
      by_cases q : t = s 1
      · exact fin t q hI
      · have e := e5 t h0' (by omega)
        refine gX6_firstMustUnkept_2 b t 0 σ ⟨fun z => absurd z (by omega), fun _ => ⟨by omega, fun c => ⟨by omega, ?_⟩, fun c => ?_⟩⟩
        · rw [e] at c
          refine ih (t + 1) (by omega) (by omega) (by omega) (fun t' a0 a1 => ?_)
          by_cases p : t' = t
          · rw [p]; exact c.imp id Eq.symm
          · exact hI t' a0 (by omega)
        · rw [e] at c
          exact h0 t h0' (by omega) (fun z => c (z.imp id Eq.symm)) hI
  exact gX6_firstMustUnkept_0 b 0 σ (loop (s 1).toNat 0 (by omega) (by omega) w1.1 (fun t' a0 a1 => by omega))
theorem shl_b {n : Int} (h : 0 ≤ n ∧ n ≤ 14) : 1 ≤ zshl 1 n ∧ zshl 1 n ≤ 16384 := by
  have : ∀ k : Fin 15, 1 ≤ zshl 1 (k.val : Int) ∧ zshl 1 (k.val : Int) ≤ 16384 := by decide +kernel
  have h1 := this ⟨n.toNat, by omega⟩
  have h2 : ((n.toNat : Nat) : Int) = n := by omega
  simp only [h2] at h1
  exact h1
theorem musts_su {s : Nat → Int} {k : Nat} {v b : Int} (hk : 1 < k ∧ k < 11) : musts (su s k v) b ↔ musts s b := by
  unfold musts
  rw [su_ne (show 1 ≠ k by omega)]
  constructor
  · intro h t h0 h1
    have := h t h0 h1
    rw [sg_su hk.2 h0 (by omega)] at this
    exact this
  · intro h t h0 h1
    rw [sg_su hk.2 h0 (by omega)]
    exact h t h0 h1
/-- the reference's scan over pointings -/
theorem qX11_bestOf {σ : Hp} {K : Int → Hp → Prop} {G : List Nat} (hG : 36 ∉ G) {s : Nat → Int} (hs : σ 36 0 = s) (hw : WF s) {a0 : Int} {F : Int → Int}
    (hF : ∀ (b : Int) (σ1 : Hp) (K1 : Int → Hp → Prop), 0 ≤ b → b < 16384 → σ1 36 0 = su s 3 b → (∀ σ', Off G σ1 σ' → K1 (F b) σ') → (a0 = 0 → Runs 5 mX11_costOf 0 [zR 34 0, zU, zU, zU] [] σ1 (rI K1)) ∧ (¬ a0 = 0 → Runs 5 mX11_longestAt 0 [zR 34 0, zI 0, zU, zU, zU] [] σ1 (rI K1)))
    (h : ∀ σ' r, Off (36 :: G) σ σ' → (∀ j, σ' 36 0 j = s j) → AM (fun b => musts s b ∧ 0 ≤ F b) F (zshl 1 (s 1)) r → K r σ') : Runs 6 mX11_bestOf 0 [zR 34 0, zI a0, zU, zU, zU, zU, zU] [] σ (rI K) := by
  have w1 := hw.2.1
  have nb := shl_b w1
  have sub : ∀ {a b : Hp}, Off G a b → Off (36 :: G) a b := fun h => h.mono (fun g hg => List.mem_cons_of_mem _ hg)
  have loop : ∀ (n : Nat) (b r l : Int) (σ1 : Hp) (p : Int), (zshl 1 (s 1) - b).toNat ≤ n → 0 ≤ b → b ≤ zshl 1 (s 1) → Off (36 :: G) σ σ1 → (0 ≤ p ∧ p < 16384) → σ1 36 0 = su s 3 p → AM (fun b => musts s b ∧ 0 ≤ F b) F b r → (0 ≤ r → l = F r) → Runs 6 mX11_bestOf 16 [zR 34 0, zI a0, zI (s 3), zI r, zI l, zI b, zU] [] σ1 (rI K) := by
    intro n
    have fin : ∀ (b r l : Int) (σ1 : Hp) (p : Int), b = zshl 1 (s 1) → Off (36 :: G) σ σ1 → σ1 36 0 = su s 3 p → AM (fun b => musts s b ∧ 0 ≤ F b) F b r → Runs 6 mX11_bestOf 16 [zR 34 0, zI a0, zI (s 3), zI r, zI l, zI b, zU] [] σ1 (rI K) := fun b r l σ1 p hb ho hp ha => by
      subst hb
      have e1 : σ1 36 0 1 = s 1 := by rw [hp, su_ne (by omega)]
      refine gX11_bestOf_16 a0 (s 3) r l _ σ1 ⟨fun _ => ?_, fun q => absurd (by rw [e1]; exact Int.le_refl _) q⟩
      refine h _ r (ho.up List.mem_cons_self) (fun j => ?_) ha
      rw [zup_su, hp, su_su, su_id]
    induction n with
    | zero => intro b r l σ1 p hn h0 hl ho hp0 hp ha hlr; exact fin b r l σ1 p (by omega) ho hp ha
    | succ n ih =>
      intro b r l σ1 p hn h0 hl ho hp0 hp ha hlr
      by_cases q : b = zshl 1 (s 1)
      · exact fin b r l σ1 p q ho hp ha
      · have e1 : σ1 36 0 1 = s 1 := by rw [hp, su_ne (by omega)]
        have hw1 : WF (σ1 36 0) := by rw [hp]; exact WF_su hw (Or.inl ⟨Or.inl rfl, hp0⟩)
        have hr9 := ha.r9
        refine gX11_bestOf_16 a0 (s 3) r l b σ1 ⟨fun z => absurd z (by rw [e1]; omega), fun _ => ?_⟩
        refine qX11_keepsMusts hw1 (fun hm => ⟨fun _ => ?_, fun z => absurd z (by omega)⟩) (fun hm => ⟨fun z => absurd rfl z, fun _ => ?_⟩)
        · rw [hp, musts_su (by omega)] at hm
          have hs2 : (zup σ1 36 0 3 b) 36 0 = su s 3 b := by rw [zup_su, hp, su_su]
          have ho2 : Off (36 :: G) σ (zup σ1 36 0 3 b) := ho.up List.mem_cons_self
          have after : ∀ σ3, Off G (zup σ1 36 0 3 b) σ3 → ((F b < 0 → (-2147483648 ≤ b + 1 ∧ b + 1 ≤ 2147483647) ∧ Runs 6 mX11_bestOf 16 [zR 34 0, zI a0, zI (s 3), zI r, zI l, zI (b + 1), zU] [] σ3 (rI K)) ∧ (¬ F b < 0 → ((r < 0 → (-2147483648 ≤ b + 1 ∧ b + 1 ≤ 2147483647) ∧ Runs 6 mX11_bestOf 16 [zR 34 0, zI a0, zI (s 3), zI b, zI (F b), zI (b + 1), zU] [] σ3 (rI K)) ∧ (¬ r < 0 → ((F b < l → (-2147483648 ≤ b + 1 ∧ b + 1 ≤ 2147483647) ∧ Runs 6 mX11_bestOf 16 [zR 34 0, zI a0, zI (s 3), zI b, zI (F b), zI (b + 1), zU] [] σ3 (rI K)) ∧ (¬ F b < l → (-2147483648 ≤ b + 1 ∧ b + 1 ≤ 2147483647) ∧ Runs 6 mX11_bestOf 16 [zR 34 0, zI a0, zI (s 3), zI r, zI l, zI (b + 1), zU] [] σ3 (rI K))))))) := fun σ3 o3 => by
            have hs3 : σ3 36 0 = su s 3 b := by rw [o3 36 hG]; exact hs2
            have ho3 := ho2.tr (sub o3)
            have go : ∀ r' l', AM (fun b => musts s b ∧ 0 ≤ F b) F (b + 1) r' → (0 ≤ r' → l' = F r') → Runs 6 mX11_bestOf 16 [zR 34 0, zI a0, zI (s 3), zI r', zI l', zI (b + 1), zU] [] σ3 (rI K) := fun r' l' ha' hl' => ih (b + 1) r' l' σ3 b (by omega) (by omega) (by omega) ho3 (by omega) hs3 ha' hl'
            refine ⟨fun c => ⟨by omega, go r l (ha.skip (by omega) (fun b' x y z => ?_)) hlr⟩, fun c => ⟨fun c2 => ⟨by omega, go b (F b) (ha.less h0 ⟨hm, by omega⟩ (fun z => by omega)) (fun _ => rfl)⟩, fun c2 => ⟨fun c3 => ⟨by omega, go b (F b) (ha.less h0 ⟨hm, by omega⟩ (fun z => by rw [← hlr z]; exact c3)) (fun _ => rfl)⟩, fun c3 => ⟨by omega, go r l (ha.keep (by omega) (by rw [← hlr (by omega)]; omega)) hlr⟩⟩⟩⟩
            have : b' = b := by omega
            rw [this] at z
            exact absurd z.2 (by omega)
          refine ⟨fun c => And.left (hF b (zup σ1 36 0 3 b) _ h0 (by omega) hs2 ?_) c, fun c => And.right (hF b (zup σ1 36 0 3 b) _ h0 (by omega) hs2 ?_) c⟩
          · exact after
          · exact after
        · rw [hp, musts_su (by omega)] at hm
          refine ⟨by omega, ih (b + 1) r l σ1 p (by omega) (by omega) (by omega) ho hp0 hp (ha.skip (by omega) (fun b' x y z => ?_)) hlr⟩
          have : b' = b := by omega
          rw [this] at z
          exact hm z.1
  have h3 := hw.2.2.2.1
  have := loop (zshl 1 (s 1)).toNat 0 (-9) 0 σ (s 3) (by omega) (by omega) (by omega) Off.rf h3 (by rw [su_id]; exact hs) AM.zero (fun z => by omega)
  refine gX11_bestOf_0 a0 σ ?_
  rw [hs]
  exact this
