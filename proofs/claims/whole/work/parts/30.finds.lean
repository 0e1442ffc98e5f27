/-! the reference's search: finds -/
def Off (G : List Nat) (σ0 σ : Hp) : Prop := ∀ g, g ∉ G → σ g = σ0 g
theorem Off.rf {G : List Nat} {σ : Hp} : Off G σ σ := fun _ _ => rfl
theorem Off.tr {G : List Nat} {a b c : Hp} (h1 : Off G a b) (h2 : Off G b c) : Off G a c := fun g hg => (h2 g hg).trans (h1 g hg)
theorem Off.up {G : List Nat} {a b : Hp} {g i j : Nat} {v : Int} (h : Off G a b) (hg : g ∈ G) : Off G a (zup b g i j v) := fun g' hg' => by
  rw [← h g' hg']
  funext i'
  exact zup_ne (fun e => by cases e; exact hg' hg)
theorem Off.mono {G G' : List Nat} {a b : Hp} (h : Off G a b) (hs : ∀ g ∈ G, g ∈ G') : Off G' a b := fun g hg => h g (fun q => hg (hs g q))
def tauR (σ : Hp) (c : Nat) : Int := if σ 41 0 c < 0 then 1000000 else σ 41 0 c
def rep41 (σ : Hp) : Prop := ∀ c, c < 10 → σ 41 0 c = -9 ∨ (0 ≤ σ 41 0 c ∧ σ 41 0 c ≤ 2939)
theorem tauR_lt {σ : Hp} (h : rep41 σ) {c : Nat} (hc : c < 10) (hl : tauR σ c < 1000000) : σ 41 0 c = tauR σ c ∧ 0 ≤ σ 41 0 c := by
  unfold tauR at *
  have := h c hc
  split at hl
  · omega
  · rename_i q
    rw [if_neg q]
    exact ⟨rfl, by omega⟩
theorem tauR_up {σ : Hp} {c0 : Nat} {v : Int} (hv : 0 ≤ v) (c : Nat) : tauR (zup σ 41 0 c0 v) c = if c = c0 then v else tauR σ c := by
  unfold tauR
  by_cases h : c = c0
  · subst h
    simp [zup, show ¬ v < 0 by omega]
  · simp [zup, h]
theorem rep41_up {σ : Hp} {c0 : Nat} {v : Int} (h : rep41 σ) (hv : 0 ≤ v ∧ v ≤ 2939) : rep41 (zup σ 41 0 c0 v) := fun c hc => by
  by_cases q : c = c0
  · subst q
    simp [zup]; omega
  · simp [zup, q]
    exact h c hc
section Finds
variable {K' : Hp → Prop} {s : Nat → Int} {f b : Nat} {m0 : Int} {Z : Nat → Prop}
theorem finds_one (hw : WF s) (hb : b < 10) {σ : Hp} (hs : σ 36 0 = s) (hr : rep41 σ) {Pr : Int → Int → Prop} (hx : RX s f m0 (tauR σ) Z b Pr) {t e : Int} (ht : 0 ≤ t ∧ t < s 1) (he : e = 0 ∨ e = 1)
    (cont : ∀ σ', Off [41] σ σ' → rep41 σ' → RX s f m0 (tauR σ') Z b (fun t' e' => Pr t' e' ∨ (t' = t ∧ e' = e)) → Runs 4 mX11_finds 131 [zR 34 0, zU, zU, zI (b : Int), zI t, zI (e + 1), zU, zU] [] σ' (rV K')) :
    Runs 4 mX11_finds 131 [zR 34 0, zU, zU, zI (b : Int), zI t, zI e, zU, zU] [] σ (rV K') := by
  have hv : vst s t e := ⟨ht.1, ht.2, he⟩
  have v := vst_ok hw hv
  have hw0 := hw
  obtain ⟨w0, w1, -⟩ := hw
  have hTb := (hx.2.2.2.2.2.2.2.1 b hb (Or.inr rfl)).1
  obtain ⟨hb1, hb2⟩ := tauR_lt hr hb hTb
  have hbm : tauR σ b ≤ 2939 := by have := hr b hb; omega
  refine gX11_finds_131 (b : Int) t e σ ⟨fun c => absurd c (by omega), fun _ => ⟨by omega, by omega, fun c => ?_, fun c => ⟨by omega, ?_⟩⟩⟩
  · rw [hs] at c ⊢
    simp only [Int.toNat_natCast]
    rw [hb1]
    have hea : ea s t e = b := by unfold ea; omega
    have c0e : (sg s t (1 - e)).toNat = ea s t (1 - e) := rfl
    rw [c0e]
    refine ⟨by omega, hw0, ht, by omega, he, by omega, by omega, by omega, fun cn => ⟨by omega, ?_⟩, fun cn => ⟨by omega, fun c2 => ⟨by omega, ?_, by omega, by omega, fun σ1 e1 => ?_⟩, fun c2 => ⟨by omega, ?_, by omega, fun c3 => ⟨by omega, ?_, by omega, by omega, fun σ2 e2 => ?_⟩, fun c3 => ⟨by omega, ?_⟩⟩⟩⟩
    · refine cont σ Off.rf hr (hx.none ?_)
      exact Classical.byContradiction (fun q => by have := entS_ge hw0 (m := tauR σ b) (by omega) q; omega)
    all_goals (have hne : entS s t e (tauR σ b) ≠ -9 := by omega)
    all_goals (have g := entS_ge hw0 (m := tauR σ b) (by omega) hne)
    · omega
    · subst e1
      refine cont _ (Off.rf.up (by decide)) (rep41_up hr (by omega)) (hx.go hw0 hb hv hea hne (fun c hc => ?_))
      rw [tauR_up (by omega)]
      by_cases q : c = ea s t (1 - e)
      · rw [if_pos q, if_pos q]
        have : tauR σ c = 1000000 := by unfold tauR; rw [q, if_pos c2]
        rw [this, if_pos (by omega)]
      · rw [if_neg q, if_neg q]
    · omega
    · omega
    · subst e2
      refine cont _ (Off.rf.up (by decide)) (rep41_up hr (by omega)) (hx.go hw0 hb hv hea hne (fun c hc => ?_))
      rw [tauR_up (by omega)]
      by_cases q : c = ea s t (1 - e)
      · rw [if_pos q, if_pos q]
        have : tauR σ c = σ 41 0 c := by unfold tauR; rw [if_neg (by rw [q]; exact c2)]
        rw [this, q, if_pos c3]
      · rw [if_neg q, if_neg q]
    · refine cont σ Off.rf hr (hx.go hw0 hb hv hea hne (fun c hc => ?_))
      by_cases q : c = ea s t (1 - e)
      · rw [if_pos q]
        have : tauR σ c = σ 41 0 c := by unfold tauR; rw [if_neg (by rw [q]; exact c2)]
        rw [this, if_neg (by rw [q]; exact c3)]
      · rw [if_neg q]
  · rw [hs] at c
    refine cont σ Off.rf hr (hx.weak (fun t' e' hv' hp he' => ?_))
    rcases hp with q | ⟨rfl, rfl⟩
    · exact q
    · exfalso
      apply c
      unfold ea at he'
      omega
theorem finds_relax (hw : WF s) (hb : b < 10) {σa : Hp} (hs : σa 36 0 = s) (cont : ∀ σ, Off [41] σa σ → rep41 σ → RX s f m0 (tauR σ) Z b (fun t' _ => t' < s 1) → Runs 4 mX11_finds 36 [zR 34 0, zU, zU, zU, zU, zU, zU, zU] [] σ (rV K')) :
    ∀ (n : Nat) (t : Int) (σ : Hp), (s 1 - t).toNat ≤ n → 0 ≤ t → t ≤ s 1 → Off [41] σa σ → rep41 σ → RX s f m0 (tauR σ) Z b (fun t' _ => t' < t) → Runs 4 mX11_finds 117 [zR 34 0, zU, zU, zI (b : Int), zI t, zU, zU, zU] [] σ (rV K') := by
  intro n
  have w1 := hw.2.1
  induction n with
  | zero =>
    intro t σ hn h0 h1 ho hr hx
    have hs' : σ 36 0 = s := by rw [ho 36 (by decide)]; exact hs
    refine gX11_finds_117 (b : Int) t σ ⟨fun c => ?_, fun c => ?_⟩
    · have : t = s 1 := by omega
      subst this
      exact cont σ ho hr hx
    · rw [hs'] at c; omega
  | succ n ih =>
    intro t σ hn h0 h1 ho hr hx
    have hs' : σ 36 0 = s := by rw [ho 36 (by decide)]; exact hs
    refine gX11_finds_117 (b : Int) t σ ⟨fun c => ?_, fun c => ?_⟩
    · rw [hs'] at c
      have : t = s 1 := by omega
      subst this
      exact cont σ ho hr hx
    · rw [hs'] at c
      refine finds_one hw hb hs' hr hx ⟨h0, by omega⟩ (Or.inl rfl) (fun σ1 o1 r1 x1 => ?_)
      have hs1 : σ1 36 0 = s := by rw [o1 36 (by decide)]; exact hs'
      rw [show (0 : Int) + 1 = 1 by omega]
      refine finds_one hw hb hs1 r1 x1 ⟨h0, by omega⟩ (Or.inr rfl) (fun σ2 o2 r2 x2 => ?_)
      refine gX11_finds_131 (b : Int) t (1 + 1) σ2 ⟨fun _ => ⟨by omega, ?_⟩, fun q => absurd (show (2 : Int) ≤ 1 + 1 by omega) q⟩
      refine ih (t + 1) σ2 (by omega) (by omega) (by omega) ((ho.tr o1).tr o2) r2 (x2.weak (fun t' e' hv' hp _ => ?_))
      by_cases q : t' < t
      · exact Or.inl (Or.inl q)
      · have : t' = t := by omega
        rcases hv'.2.2 with z | z
        · exact Or.inl (Or.inr ⟨this, z⟩)
        · exact Or.inr ⟨this, z⟩
theorem finds_pick {σ : Hp} (hw : WF s) (hs : σ 36 0 = s) (h42 : ∀ c, c < 10 → σ 42 0 c = 0 ∨ σ 42 0 c = 1)
    (none : (∀ c : Nat, (c : Int) < s 0 → σ 42 0 c = 0 → σ 41 0 c < 0) → K' σ)
    (some : ∀ b : Nat, (b : Int) < s 0 → σ 42 0 b = 0 → 0 ≤ σ 41 0 b → (∀ c : Nat, (c : Int) < s 0 → σ 42 0 c = 0 → 0 ≤ σ 41 0 c → σ 41 0 b ≤ σ 41 0 c) → Runs 4 mX11_finds 117 [zR 34 0, zU, zU, zI (b : Int), zI 0, zU, zU, zU] [] (zup σ 42 0 b 1) (rV K')) :
    ∀ (n : Nat) (c : Nat) (best : Int), (s 0 - c).toNat ≤ n → (c : Int) ≤ s 0 →
      ((best = -9 ∧ ∀ c' : Nat, c' < c → σ 42 0 c' = 0 → σ 41 0 c' < 0) ∨ ∃ b : Nat, best = b ∧ b < c ∧ σ 42 0 b = 0 ∧ 0 ≤ σ 41 0 b ∧ ∀ c' : Nat, c' < c → σ 42 0 c' = 0 → 0 ≤ σ 41 0 c' → σ 41 0 b ≤ σ 41 0 c') →
      Runs 4 mX11_finds 42 [zR 34 0, zU, zU, zI best, zI (c : Int), zU, zU, zU] [] σ (rV K') := by
  have w0 := hw.1
  intro n
  induction n with
  | zero =>
    intro c best hn hc hI
    have hcs : (c : Int) = s 0 := by omega
    refine gX11_finds_42 best (c : Int) σ ⟨fun q => ⟨fun q2 => ?_, fun q2 => ?_⟩, fun q => absurd (show σ 36 0 0 ≤ (c : Int) by rw [hs]; omega) q⟩
    · rcases hI with ⟨h1, -⟩ | ⟨b, rfl, h2, h3, h4, h5⟩
      · omega
      · simp only [Int.toNat_natCast]
        exact ⟨by omega, some b (by omega) h3 h4 (fun c' hc' => h5 c' (by omega))⟩
    · rcases hI with ⟨-, h2⟩ | ⟨b, rfl, -⟩
      · exact none (fun c' hc' => h2 c' (by omega))
      · omega
  | succ n ih =>
    intro c best hn hc hI
    by_cases hcs : (c : Int) = s 0
    · refine gX11_finds_42 best (c : Int) σ ⟨fun q => ⟨fun q2 => ?_, fun q2 => ?_⟩, fun q => absurd (show σ 36 0 0 ≤ (c : Int) by rw [hs]; omega) q⟩
      · rcases hI with ⟨h1, -⟩ | ⟨b, rfl, h2, h3, h4, h5⟩
        · omega
        · simp only [Int.toNat_natCast]
          exact ⟨by omega, some b (by omega) h3 h4 (fun c' hc' => h5 c' (by omega))⟩
      · rcases hI with ⟨-, h2⟩ | ⟨b, rfl, -⟩
        · exact none (fun c' hc' => h2 c' (by omega))
        · omega
    · have next : ∀ best' : Int, ((best' = -9 ∧ ∀ c' : Nat, c' < c + 1 → σ 42 0 c' = 0 → σ 41 0 c' < 0) ∨ ∃ b : Nat, best' = b ∧ b < c + 1 ∧ σ 42 0 b = 0 ∧ 0 ≤ σ 41 0 b ∧ ∀ c' : Nat, c' < c + 1 → σ 42 0 c' = 0 → 0 ≤ σ 41 0 c' → σ 41 0 b ≤ σ 41 0 c') → Runs 4 mX11_finds 42 [zR 34 0, zU, zU, zI best', zI ((c : Int) + 1), zU, zU, zU] [] σ (rV K') := fun best' hI' => by
        have e1 : (s 0 - ((c + 1 : Nat) : Int)).toNat ≤ n ∧ ((c + 1 : Nat) : Int) ≤ s 0 := by clear hI hI'; omega
        exact ih (c + 1) best' e1.1 e1.2 hI'
      have split : ∀ c' : Nat, c' < c + 1 → c' < c ∨ c' = c := fun c' h => by omega
      refine gX11_finds_42 best (c : Int) σ ⟨fun q => absurd q (by rw [hs]; omega), fun q => ?_⟩
      simp only [Int.toNat_natCast]
      have keep : (σ 42 0 c = 0 → 0 ≤ σ 41 0 c → best ≠ -9 ∧ ∀ b : Nat, best = b → σ 41 0 b ≤ σ 41 0 c) → ((best = -9 ∧ ∀ c' : Nat, c' < c + 1 → σ 42 0 c' = 0 → σ 41 0 c' < 0) ∨ ∃ b : Nat, best = b ∧ b < c + 1 ∧ σ 42 0 b = 0 ∧ 0 ≤ σ 41 0 b ∧ ∀ c' : Nat, c' < c + 1 → σ 42 0 c' = 0 → 0 ≤ σ 41 0 c' → σ 41 0 b ≤ σ 41 0 c') := fun hk => by
        rcases hI with ⟨h1, h2⟩ | ⟨b, h1, h2, h3, h4, h5⟩
        · refine Or.inl ⟨h1, fun c' hc' hz => ?_⟩
          rcases split c' hc' with z | rfl
          · exact h2 c' z hz
          · by_cases p : σ 41 0 c' < 0
            · exact p
            · exact absurd h1 (hk hz (by omega)).1
        · refine Or.inr ⟨b, h1, by omega, h3, h4, fun c' hc' hz hp => ?_⟩
          rcases split c' hc' with z | rfl
          · exact h5 c' z hz hp
          · exact (hk hz hp).2 b h1
      refine ⟨by omega, fun z => ⟨by omega, next best (keep (fun y => absurd y z))⟩, fun z => ⟨by omega, fun p => ⟨by omega, next best (keep (fun _ y => by omega))⟩, fun p => ⟨fun b0 => ⟨by omega, next (c : Int) ?_⟩, fun b0 => ?_⟩⟩⟩
      · refine Or.inr ⟨c, rfl, by omega, z, by omega, fun c' hc' hz' hp' => ?_⟩
        rcases hI with ⟨h1, h2⟩ | ⟨b, h1, -⟩
        · rcases split c' hc' with y | rfl
          · have := h2 c' y hz'; omega
          · omega
        · omega
      · rcases hI with ⟨h1, -⟩ | ⟨b, rfl, h2, h3, h4, h5⟩
        · omega
        · simp only [Int.toNat_natCast]
          refine ⟨by omega, by omega, fun le => ⟨by omega, next _ (keep (fun _ _ => ⟨by omega, fun b' hb' => ?_⟩))⟩, fun gt => ⟨by omega, next (c : Int) ?_⟩⟩
          · have : b' = b := by omega
            rw [this]; exact le
          · refine Or.inr ⟨c, rfl, by omega, z, by omega, fun c' hc' hz' hp' => ?_⟩
            rcases split c' hc' with y | rfl
            · have := h5 c' y hz' hp'; omega
            · omega
def cntZ (σ : Hp) : Int := σ 42 0 0 + σ 42 0 1 + σ 42 0 2 + σ 42 0 3 + σ 42 0 4 + σ 42 0 5 + σ 42 0 6 + σ 42 0 7 + σ 42 0 8 + σ 42 0 9
theorem cntZ_up {σ : Hp} {b : Nat} (hb : b < 10) (h : σ 42 0 b = 0) : cntZ (zup σ 42 0 b 1) = cntZ σ + 1 := by
  unfold cntZ
  match b, hb with
  | 0, _ => simp [zup]; omega
  | 1, _ => simp [zup]; omega
  | 2, _ => simp [zup]; omega
  | 3, _ => simp [zup]; omega
  | 4, _ => simp [zup]; omega
  | 5, _ => simp [zup]; omega
  | 6, _ => simp [zup]; omega
  | 7, _ => simp [zup]; omega
  | 8, _ => simp [zup]; omega
  | 9, _ => simp [zup]; omega
theorem DI.in {T : Nat → Int} {Zz : Nat → Prop} (hw : WF s) (h : DI s f m0 T Zz) (hf : (f : Int) < s 0) {c : Nat} (hc : c < 10) (hl : T c < 1000000) : (c : Int) < s 0 := by
  by_cases q : c = f
  · rw [q]; exact hf
  · obtain ⟨t, e, hv, h1, -⟩ := h.2.2.2.2.1 c hc hl q
    have v := vst_ok hw hv
    obtain ⟨w0, w1, w2, w3, w4, w5, w6, w7, w8, w9, w10, wst, -⟩ := hw
    obtain ⟨a, b, -⟩ := wst t hv.1 hv.2.1
    rw [← h1]
    rcases hv.2.2 with rfl | rfl
    · rw [v.2.2.2.2.2.2]; exact b.2
    · rw [v.2.2.2.2.2.2]; exact a.2
theorem finds_main (hw : WF s) (hf : (f : Int) < s 0) {σ0 : Hp} (hs : σ0 36 0 = s) (done : ∀ σ, Off [41, 42] σ0 σ → rep41 σ → Soon s f m0 (tauR σ) → K' σ) :
    ∀ (n : Nat) (σ : Hp), (10 - cntZ σ).toNat ≤ n → Off [41, 42] σ0 σ → rep41 σ → (∀ c, c < 10 → σ 42 0 c = 0 ∨ σ 42 0 c = 1) → DI s f m0 (tauR σ) (fun c => σ 42 0 c = 1) → Runs 4 mX11_finds 36 [zR 34 0, zU, zU, zU, zU, zU, zU, zU] [] σ (rV K') := by
  intro n
  induction n with
  | zero =>
    intro σ hn ho hr hz hd
    have hs' : σ 36 0 = s := by rw [ho 36 (by decide)]; exact hs
    have w0 := hw.1
    refine gX11_finds_36 σ (finds_pick hw hs' hz (fun hnone => ?_) (fun b hb hbz hbt hmin => ?_) (s 0).toNat 0 (-9) (by omega) (by omega) (Or.inl ⟨rfl, fun c' hc' => absurd hc' (by omega)⟩))
    · refine done σ ho hr (hd.fin hw (fun v hv hvz => ?_))
      have hlt : ¬ tauR σ v < 1000000 := fun q => by
        have := tauR_lt hr hv q
        have := hnone v (hd.in hw hf hv q) ((hz v hv).resolve_right hvz)
        omega
      have := hd.2.2.2.1 v hv
      omega
    · exfalso
      have e := cntZ_up (σ := σ) (b := b) (by omega) hbz
      have h0 := hz 0 (by omega); have h1 := hz 1 (by omega); have h2 := hz 2 (by omega); have h3 := hz 3 (by omega); have h4 := hz 4 (by omega)
      have h5 := hz 5 (by omega); have h6 := hz 6 (by omega); have h7 := hz 7 (by omega); have h8 := hz 8 (by omega); have h9 := hz 9 (by omega)
      have hz' : ∀ c, c < 10 → (zup σ 42 0 b 1) 42 0 c ≤ 1 := fun c hc => by
        by_cases q : c = b
        · subst q; simp [zup]
        · simp [zup, q]; have := hz c hc; omega
      have g0 := hz' 0 (by omega); have g1 := hz' 1 (by omega); have g2 := hz' 2 (by omega); have g3 := hz' 3 (by omega); have g4 := hz' 4 (by omega)
      have g5 := hz' 5 (by omega); have g6 := hz' 6 (by omega); have g7 := hz' 7 (by omega); have g8 := hz' 8 (by omega); have g9 := hz' 9 (by omega)
      have e2 : cntZ (zup σ 42 0 b 1) ≤ 10 := by unfold cntZ; omega
      omega
  | succ n ih =>
    intro σ hn ho hr hz hd
    have hs' : σ 36 0 = s := by rw [ho 36 (by decide)]; exact hs
    have w0 := hw.1
    refine gX11_finds_36 σ (finds_pick hw hs' hz (fun hnone => ?_) (fun b hb hbz hbt hmin => ?_) (s 0).toNat 0 (-9) (by omega) (by omega) (Or.inl ⟨rfl, fun c' hc' => absurd hc' (by omega)⟩))
    · refine done σ ho hr (hd.fin hw (fun v hv hvz => ?_))
      have hlt : ¬ tauR σ v < 1000000 := fun q => by
        have := tauR_lt hr hv q
        have := hnone v (hd.in hw hf hv q) ((hz v hv).resolve_right hvz)
        omega
      have := hd.2.2.2.1 v hv
      omega
    · have hb10 : b < 10 := by omega
      have e := cntZ_up (σ := σ) hb10 hbz
      have hbT : tauR σ b = σ 41 0 b := by unfold tauR; rw [if_neg (by omega)]
      have hbl : tauR σ b < 1000000 := by have := hr b hb10; omega
      have x0 : RX s f m0 (tauR σ) (fun c => σ 42 0 c = 1) b (fun _ _ => False) := by
        refine RX.start hd hb10 (by omega) hbl (fun v hv hvz => ?_)
        by_cases q : tauR σ v < 1000000
        · have t1 := tauR_lt hr hv q
          have := hmin v (hd.in hw hf hv q) ((hz v hv).resolve_right hvz) t1.2
          omega
        · omega
      have ho1 : Off [41, 42] σ0 (zup σ 42 0 b 1) := ho.up (by decide)
      have htau : tauR (zup σ 42 0 b 1) = tauR σ := by
        funext c
        unfold tauR
        rw [show (zup σ 42 0 b 1) 41 0 = σ 41 0 from zup_ne (fun e => by cases e)]
      have hr1 : rep41 (zup σ 42 0 b 1) := fun c hc => by
        rw [show (zup σ 42 0 b 1) 41 0 = σ 41 0 from zup_ne (fun e => by cases e)]; exact hr c hc
      have hs1 : (zup σ 42 0 b 1) 36 0 = s := by rw [ho1 36 (by decide)]; exact hs
      refine finds_relax (s := s) (f := f) (m0 := m0) (Z := fun c => σ 42 0 c = 1) hw hb10 hs1 (fun σ2 o2 r2 x2 => ?_) (s 1).toNat 0 _ (by omega) (by omega) hw.2.1.1 Off.rf hr1 (by rw [htau]; exact x0.weak (fun t' e' hv' hp _ => absurd hv'.1 (by omega)))
      have e42 : σ2 42 = (zup σ 42 0 b 1) 42 := o2 42 (by decide)
      have c42 : ∀ c, σ2 42 0 c = if c = b then 1 else σ 42 0 c := fun c => by
        rw [e42]
        by_cases q : c = b <;> simp [zup, q]
      refine ih σ2 ?_ (ho1.tr (o2.mono (fun g hg => by simp at hg; subst hg; decide))) r2 (fun c hc => ?_) ?_
      · have : cntZ σ2 = cntZ (zup σ 42 0 b 1) := by unfold cntZ; rw [e42]
        omega
      · rw [c42 c]
        split
        · exact Or.inr rfl
        · exact hz c hc
      · have := x2.done (fun t e hv => hv.2.1)
        have ez : (fun c => σ2 42 0 c = 1) = (fun u => σ 42 0 u = 1 ∨ u = b) := by
          funext c
          rw [c42 c]
          apply propext
          by_cases q : c = b
          · simp [q]
          · simp [q]
        rw [ez]
        exact this
theorem finds_init {σ0 : Hp} {ff m : Int} (hff : 0 ≤ ff ∧ ff < 10) (cont : ∀ σ, Off [41, 42] σ0 σ → (∀ c, c < 10 → σ 41 0 c = -9 ∧ σ 42 0 c = 0) → Runs 4 mX11_finds 36 [zR 34 0, zU, zU, zU, zU, zU, zU, zU] [] (zup σ 41 0 ff.toNat m) (rV K')) :
    ∀ (n i : Nat) (σ : Hp), i + n = 10 → Off [41, 42] σ0 σ → (∀ c, c < i → σ 41 0 c = -9 ∧ σ 42 0 c = 0) → Runs 4 mX11_finds 2 [zR 34 0, zI ff, zI m, zI (i : Int), zU, zU, zU, zU] [] σ (rV K') := by
  intro n
  induction n with
  | zero =>
    intro i σ hi ho hc
    refine gX11_finds_2 ff m (i : Int) σ ⟨fun _ => ⟨hff, cont σ ho (fun c h => hc c (by omega))⟩, fun q => absurd (show (10 : Int) ≤ i by omega) q⟩
  | succ n ih =>
    intro i σ hi ho hc
    refine gX11_finds_2 ff m (i : Int) σ ⟨fun q => absurd q (by omega), fun _ => ⟨by omega, by omega, by omega, ?_⟩⟩
    simp only [Int.toNat_natCast]
    refine ih (i + 1) _ (by omega) ((ho.up (by decide)).up (by decide)) (fun c h => ?_)
    by_cases q : c = i
    · subst q; simp [zup]
    · have := hc c (by omega)
      simp [zup, q, this]
end Finds
/-- finds: the times are the soonest minutes, -9 for never -/
theorem qX11_finds {σ : Hp} {K' : Hp → Prop} {ff m : Int} (hw : WF (σ 36 0)) (hf : 0 ≤ ff ∧ ff < σ 36 0 0) (hm : 0 ≤ m ∧ m ≤ 2879) (h : ∀ σ', Off [41, 42] σ σ' → rep41 σ' → Soon (σ 36 0) ff.toNat m (tauR σ') → K' σ') : Runs 4 mX11_finds 0 [zR 34 0, zI ff, zI m, zU, zU, zU, zU, zU] [] σ (rV K') := by
  have w0 := hw.1
  refine gX11_finds_0 ff m σ (finds_init (by omega) (fun σ1 o1 c1 => ?_) 10 0 σ rfl Off.rf (fun c hc => absurd hc (by omega)))
  have hf10 : ff.toNat < 10 := by omega
  have o2 : Off [41, 42] σ (zup σ1 41 0 ff.toNat m) := o1.up (by decide)
  have z42 : ∀ c, c < 10 → (zup σ1 41 0 ff.toNat m) 42 0 c = 0 := fun c hc => by
    rw [show (zup σ1 41 0 ff.toNat m) 42 0 = σ1 42 0 from zup_ne (fun e => by cases e)]
    exact (c1 c hc).2
  refine finds_main (s := σ 36 0) (f := ff.toNat) (m0 := m) hw (by omega) rfl h 10 _ ?_ o2 ?_ (fun c hc => Or.inl (z42 c hc)) ?_
  · have e : cntZ (zup σ1 41 0 ff.toNat m) = 0 := by
      unfold cntZ
      rw [z42 0 (by omega), z42 1 (by omega), z42 2 (by omega), z42 3 (by omega), z42 4 (by omega), z42 5 (by omega), z42 6 (by omega), z42 7 (by omega), z42 8 (by omega), z42 9 (by omega)]
      rfl
    rw [e]
    decide
  · intro c hc
    by_cases q : c = ff.toNat
    · right; rw [q]; simp [zup]; omega
    · left; simp [zup, q]; exact (c1 c hc).1
  · have ez : (fun c => (zup σ1 41 0 ff.toNat m) 42 0 c = 1) = (fun c => (zup σ1 41 0 ff.toNat m) 42 0 c = 1) := rfl
    have d0 := DI.start (s := σ 36 0) (f := ff.toNat) (m0 := m) (T := tauR (zup σ1 41 0 ff.toNat m)) hf10 hm (fun c hc => by
      rw [tauR_up hm.1]
      split
      · rfl
      · unfold tauR; rw [(c1 c hc).1]; rfl)
    obtain ⟨a0, a1, a2, a3, a4, a5, a6, a7⟩ := d0
    have nz : ∀ u, u < 10 → ¬ (zup σ1 41 0 ff.toNat m) 42 0 u = 1 := fun u hu q => by rw [z42 u hu] at q; omega
    refine ⟨a0, a1, a2, a3, fun c hc hl hcf => ?_, fun t e hv hz => ?_, fun u v hu _ hz => absurd hz (nz u hu), fun u hu hz => absurd hz (nz u hu)⟩
    · obtain ⟨t, e, hv, h1, h2, h3⟩ := a4 c hc hl hcf
      exact h2.elim
    · exact absurd hz (nz _ (vst_ok hw hv).1)
