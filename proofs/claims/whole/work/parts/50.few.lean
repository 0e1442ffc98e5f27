/-! sets of streets by fewest -/
def nxl (a : Int) : Int := zand a (-a)
def nxz (a : Int) : Int := zor (a + zand a (-a)) (zdiv (zushr (zxor a (a + zand a (-a))) 2) (zand a (-a)))
def nxu (v : Nat) : Int := zshl 2 (popN v : Int) - 1
def nxI (n v : Nat) : Nat := if nxl v = 0 then (nxu v).toNat else if ((2 ^ n : Nat) : Int) ≤ nxz v then (nxu v).toNat else (nxz v).toNat
def fkey (v : Nat) : Nat := popN v * 1024 + v
def ch : Nat → Nat → Nat
  | _, 0 => 1
  | 0, _ + 1 => 0
  | n + 1, k + 1 => ch n k + ch n (k + 1)
def rkB : Nat → Nat → Nat → Nat → Nat
  | 0, _, _, _ => 0
  | f + 1, p, i, v => if v % 2 = 1 then ch p (i + 1) + rkB f (p + 1) (i + 1) (v / 2) else rkB f (p + 1) i (v / 2)
def rkS (n : Nat) : Nat → Nat
  | 0 => 0
  | k + 1 => rkS n k + ch n k
def rk (n v : Nat) : Nat := rkS n (popN v) + rkB 10 0 0 v
def nxOk (n v : Nat) : Bool := bIn (-(v : Int)) && bIn ((v : Int) + zand v (-v)) && bIn (nxu v) && decide (0 ≤ nxu v) && decide (0 ≤ nxz v) && (decide (v + 1 = 2 ^ n) || (decide (nxI n v < 2 ^ n) && decide (fkey v < fkey (nxI n v)) && decide (rk n (nxI n v) = rk n v + 1)))
theorem nx_lo : ∀ n : Nat, n < 10 → ∀ v : Nat, v < 2 ^ n → nxOk n v = true := by decide +kernel
theorem nx_hi0 : ∀ v : Nat, v < 512 → nxOk 10 v = true := by decide +kernel
theorem nx_hi1 : ∀ v : Nat, v < 512 → nxOk 10 (512 + v) = true := by decide +kernel
theorem nx_all (n : Nat) (hn : n < 11) (v : Nat) (hv : v < 2 ^ n) : nxOk n v = true := by
  by_cases h : n < 10
  · exact nx_lo n h v hv
  · have e : n = 10 := by omega
    subst e
    have hv2 : v < 1024 := hv
    by_cases h2 : v < 512
    · exact nx_hi0 v h2
    · have := nx_hi1 (v - 512) (by omega)
      rw [show 512 + (v - 512) = v by omega] at this
      exact this
theorem rk_all : ∀ n : Nat, n < 11 → rk n 0 = 0 ∧ rk n (2 ^ n - 1) = 2 ^ n - 1 := by decide +kernel
def prOk (n v : Nat) : Bool := decide (rk n v ≤ 2 ^ n - 1) && (decide (v + 1 = 2 ^ n) || (decide (2 ^ n - 1 - nxI n (2 ^ n - 1 - nxI n v) = v) && decide (rk n v ≠ 2 ^ n - 1)))
theorem pr_lo : ∀ n : Nat, n < 10 → ∀ v : Nat, v < 2 ^ n → prOk n v = true := by decide +kernel
theorem pr_hi0 : ∀ v : Nat, v < 512 → prOk 10 v = true := by decide +kernel
theorem pr_hi1 : ∀ v : Nat, v < 512 → prOk 10 (512 + v) = true := by decide +kernel
theorem pr_all (n : Nat) (hn : n < 11) (v : Nat) (hv : v < 2 ^ n) : prOk n v = true := by
  by_cases h : n < 10
  · exact pr_lo n h v hv
  · have e : n = 10 := by omega
    subst e
    have hv2 : v < 1024 := hv
    by_cases h2 : v < 512
    · exact pr_hi0 v h2
    · have := pr_hi1 (v - 512) (by omega)
      rw [show 512 + (v - 512) = v by omega] at this
      exact this
theorem nx_facts {n v : Nat} (hn : n < 11) (hv : v < 2 ^ n) : (-2147483648 ≤ -(v : Int) ∧ -(v : Int) ≤ 2147483647) ∧ (-2147483648 ≤ (v : Int) + zand v (-v) ∧ (v : Int) + zand v (-v) ≤ 2147483647) ∧ (-2147483648 ≤ nxu v ∧ nxu v ≤ 2147483647) ∧ 0 ≤ nxu v ∧ 0 ≤ nxz v ∧ (v + 1 = 2 ^ n ∨ (nxI n v < 2 ^ n ∧ fkey v < fkey (nxI n v) ∧ rk n (nxI n v) = rk n v + 1)) := by
  have h := nx_all n hn v hv
  unfold nxOk at h
  simp only [Bool.and_eq_true, Bool.or_eq_true, decide_eq_true_eq] at h
  obtain ⟨⟨⟨⟨⟨h1, h2⟩, h3⟩, h4⟩, h5⟩, h6⟩ := h
  refine ⟨bIn_of h1, bIn_of h2, bIn_of h3, h4, h5, ?_⟩
  rcases h6 with q | ⟨⟨q1, q2⟩, q3⟩
  · exact Or.inl q
  · exact Or.inr ⟨q1, q2, q3⟩
theorem pr_facts {n v : Nat} (hn : n < 11) (hv : v < 2 ^ n) : rk n v ≤ 2 ^ n - 1 ∧ (v + 1 = 2 ^ n ∨ (2 ^ n - 1 - nxI n (2 ^ n - 1 - nxI n v) = v ∧ rk n v ≠ 2 ^ n - 1)) := by
  have h := pr_all n hn v hv
  unfold prOk at h
  simp only [Bool.and_eq_true, Bool.or_eq_true, decide_eq_true_eq] at h
  exact h
theorem rk_inj {n : Nat} (hn : n < 11) : ∀ (k u v : Nat), u < 2 ^ n → v < 2 ^ n → rk n u = rk n v → rk n u + k = 2 ^ n - 1 → u = v := by
  intro k
  have top := rk_all n hn
  have tope : ∀ w : Nat, w + 1 = 2 ^ n → rk n w = 2 ^ n - 1 := fun w hw => by
    have : w = 2 ^ n - 1 := by omega
    rw [this]; exact top.2
  induction k with
  | zero =>
    intro u v hu hv he hk
    have a := (pr_facts hn hu).2
    have b := (pr_facts hn hv).2
    omega
  | succ k ih =>
    intro u v hu hv he hk
    have a := (pr_facts hn hu).2
    have b := (pr_facts hn hv).2
    have nu : ¬ u + 1 = 2 ^ n := fun q => by have := tope u q; omega
    have nv : ¬ v + 1 = 2 ^ n := fun q => by have := tope v q; omega
    obtain ⟨u1, u2, u3⟩ := ((nx_facts hn hu).2.2.2.2.2).resolve_left nu
    obtain ⟨v1, v2, v3⟩ := ((nx_facts hn hv).2.2.2.2.2).resolve_left nv
    have e := ih (nxI n u) (nxI n v) u1 v1 (by omega) (by omega)
    have a2 := (a.resolve_left nu).1
    have b2 := (b.resolve_left nv).1
    rw [← a2, ← b2, e]
theorem rk_mono {n : Nat} (hn : n < 11) : ∀ (k u v : Nat), u < 2 ^ n → v < 2 ^ n → fkey u < fkey v → rk n v + k = rk n u → False := by
  intro k
  induction k with
  | zero =>
    intro u v hu hv hf hk
    have r := (pr_facts hn hu).1
    have := rk_inj hn (2 ^ n - 1 - rk n u) u v hu hv (by omega) (by omega)
    rw [this] at hf
    omega
  | succ k ih =>
    intro u v hu hv hf hk
    have r := (pr_facts hn hu).1
    have nv : ¬ v + 1 = 2 ^ n := fun q => by
      have : v = 2 ^ n - 1 := by omega
      have t := (rk_all n hn).2
      rw [← this] at t
      omega
    obtain ⟨v1, v2, v3⟩ := ((nx_facts hn hv).2.2.2.2.2).resolve_left nv
    exact ih u (nxI n v) hu v1 (by omega) (by omega)
theorem rk_lt {n : Nat} (hn : n < 11) {u v : Nat} (hu : u < 2 ^ n) (hv : v < 2 ^ n) (h : fkey u < fkey v) : rk n u < rk n v := by
  by_cases q : rk n u < rk n v
  · exact q
  · exact (rk_mono hn (rk n u - rk n v) u v hu hv h (by omega)).elim
theorem pow_11 {n : Nat} (hn : n < 11) : 1 ≤ 2 ^ n ∧ 2 ^ n ≤ 1024 := by
  have : ∀ n, n < 11 → 1 ≤ 2 ^ n ∧ 2 ^ n ≤ 1024 := by decide
  exact this n hn
theorem shl_n {n : Nat} (hn : n < 11) : zshl 1 (n : Int) = ((2 ^ n : Nat) : Int) := by
  have : ∀ n : Nat, n < 11 → zshl 1 (n : Int) = ((2 ^ n : Nat) : Int) := by decide +kernel
  exact this n hn
theorem qX9_nextByFewest {σ : Hp} {K : Int → Hp → Prop} {n v : Nat} (e1 : σ 1 0 1 = n) (hn : n < 11) (hv : v < 2 ^ n) (h : K (nxI n v : Int) σ) : Runs 1 mX9_nextByFewest 0 [zR 26 0, zI (v : Int), zU, zU, zU] [] σ (rI K) := by
  obtain ⟨f1, f2, f3, f4, f5, -⟩ := nx_facts hn hv
  have p := pow_11 hn
  have hv14 : v < 16384 := by omega
  have hbc : ∀ (K2 : Int → Hp → Prop), (nxI n v = (nxu v).toNat) → (K2 (popN v) σ) → Runs 0 mJ6_bitCount_0f7a4 0 [zI (v : Int)] [] σ (rI K2) := fun K2 _ hk => qJ6_bitCount hv14 hk
  refine gX9_nextByFewest_0 (v : Int) σ ⟨f1, fun c => ?_, fun c => ⟨f2, c, fun z3 e3 => ⟨fun c2 => ?_, fun c2 => ?_⟩⟩⟩
  · have e : nxI n v = (nxu v).toNat := by unfold nxI; rw [if_pos (show nxl v = 0 from c)]
    refine hbc _ e ⟨f3, ?_⟩
    rw [e, Int.toNat_of_nonneg f4] at h
    exact h
  · rw [e1, shl_n hn] at c2
    have e4 : z3 = nxz v := e3
    have e : nxI n v = (nxu v).toNat := by unfold nxI; rw [if_neg (show ¬ nxl v = 0 from c), if_pos (by rw [← e4]; exact c2)]
    refine hbc _ e ⟨f3, ?_⟩
    rw [e, Int.toNat_of_nonneg f4] at h
    exact h
  · rw [e1, shl_n hn] at c2
    have e4 : z3 = nxz v := e3
    have e : nxI n v = (nxz v).toNat := by unfold nxI; rw [if_neg (show ¬ nxl v = 0 from c), if_neg (by rw [← e4]; exact c2)]
    rw [e, Int.toNat_of_nonneg f5, ← e4] at h
    exact h
theorem fkey_take {N w b : Nat} (hN : N < 1024) (l : popN N < popN w) (a : fkey w ≤ fkey b) : fkey N ≤ fkey b := by
  have e : fkey w = popN w * 1024 + w := rfl
  have e2 : fkey N = popN N * 1024 + N := rfl
  rw [e] at a
  rw [e2]
  clear e e2
  revert a l
  generalize fkey b = fb
  generalize popN N = pn
  generalize popN w = pw
  intro l a
  have : (pn + 1) * 1024 ≤ pw * 1024 := Nat.mul_le_mul_right _ l
  rw [Nat.add_mul, Nat.one_mul] at this
  exact Nat.le_trans (Nat.add_le_add_left (Nat.le_of_lt hN) _) (Nat.le_trans this (Nat.le_trans (Nat.le_add_right _ _) a))
/-- of the sets that do, the first by fewest, then by bits -/
def FW (P : Nat → Prop) (N : Nat) (r : Int) : Prop := (r = -9 ∧ ∀ b, b < N → ¬ P b) ∨ ∃ v : Nat, r = (v : Int) ∧ v < N ∧ P v ∧ ∀ b, b < N → P b → fkey v ≤ fkey b
theorem fkey_inj {u v : Nat} (hu : u < 1024) (hv : v < 1024) (h : fkey u = fkey v) : u = v := by
  unfold fkey at h
  omega
theorem FW.uniq {P : Nat → Prop} {N : Nat} {r r' : Int} (hN : N ≤ 1024) (h : FW P N r) (h' : FW P N r') : r = r' := by
  rcases h with ⟨h1, h2⟩ | ⟨v, h1, h2, h3, h4⟩ <;> rcases h' with ⟨g1, g2⟩ | ⟨w, g1, g2, g3, g4⟩
  · omega
  · exact absurd g3 (h2 w g2)
  · exact absurd h3 (g2 v h2)
  · have a := h4 w g2 g3
    have b := g4 v h2 h3
    have := fkey_inj (u := v) (v := w) (by omega) (by omega) (by omega)
    omega
theorem FW.zero {P : Nat → Prop} : FW P 0 (-9) := Or.inl ⟨rfl, fun b hb => absurd hb (by omega)⟩
theorem FW.no {P : Nat → Prop} {N : Nat} {r : Int} (h : FW P N r) (hn : ¬ P N) : FW P (N + 1) r := by
  have sp : ∀ b, b < N + 1 → P b → b < N := fun b hb hp => by
    by_cases q : b = N
    · rw [q] at hp; exact absurd hp hn
    · omega
  rcases h with ⟨h1, h2⟩ | ⟨v, h1, h2, h3, h4⟩
  · exact Or.inl ⟨h1, fun b hb hp => h2 b (sp b hb hp) hp⟩
  · exact Or.inr ⟨v, h1, by omega, h3, fun b hb hp => h4 b (sp b hb hp) hp⟩
theorem FW.skip {P : Nat → Prop} {N v : Nat} (h : FW P N (v : Int)) (hp : popN v ≤ popN N) : FW P (N + 1) (v : Int) := by
  rcases h with ⟨h1, -⟩ | ⟨w, h1, h2, h3, h4⟩
  · omega
  · have e : w = v := by omega
    subst e
    refine Or.inr ⟨w, h1, by omega, h3, fun b hb hpb => ?_⟩
    by_cases q : b = N
    · rw [q]; unfold fkey; omega
    · exact h4 b (by omega) hpb
theorem FW.take {P : Nat → Prop} {N : Nat} {r : Int} (hN : N < 1024) (h : FW P N r) (hp : P N) (hl : ∀ v : Nat, r = (v : Int) → popN N < popN v) : FW P (N + 1) (N : Int) := by
  refine Or.inr ⟨N, rfl, by omega, hp, fun b hb hpb => ?_⟩
  by_cases q : b = N
  · rw [q]; exact Nat.le_refl _
  · rcases h with ⟨h1, h2⟩ | ⟨w, h1, h2, h3, h4⟩
    · exact absurd hpb (h2 b (by omega))
    · have a := h4 b (by omega) hpb
      have l := hl w h1
      exact fkey_take hN l a
theorem FW.r9 {P : Nat → Prop} {N : Nat} {r : Int} (h : FW P N r) : r = -9 ∨ ∃ v : Nat, r = (v : Int) ∧ v < N := by
  rcases h with ⟨h1, -⟩ | ⟨v, h1, h2, -⟩
  · exact Or.inl h1
  · exact Or.inr ⟨v, h1, h2⟩
/-- with all streets gone both ways nobody comes later -/
theorem bitz_full : ∀ n : Nat, n < 15 → ∀ t : Nat, t < n → bitz (((2 ^ n : Nat) : Int) - 1) (t : Int) = 1 := by decide +kernel
theorem dist_full {s : Nat → Int} (hw : WF s) {n : Nat} (hn : s 1 = n) {b : Int} (hb : 0 ≤ b ∧ b < 16384) {f : Nat} {m : Int} (hf : f < 10) (hm : 0 ≤ m ∧ m ≤ 2879) : ∀ c, c < 10 → dist (su s 5 (((2 ^ n : Nat) : Int) - 1)) f m c ≤ dist (su s 5 b) f m c := by
  have w1 := hw.2.1
  have p14 : ∀ n : Nat, n < 15 → 1 ≤ 2 ^ n ∧ 2 ^ n ≤ 16384 := by decide
  have p := p14 n (by omega)
  have hwf : WF (su s 5 (((2 ^ n : Nat) : Int) - 1)) := WF_su hw (Or.inl ⟨Or.inr (Or.inr rfl), by omega, by omega⟩)
  have hwb : WF (su s 5 b) := WF_su hw (Or.inl ⟨Or.inr (Or.inr rfl), hb⟩)
  obtain ⟨-, -, d1, d2, d3, d4⟩ := dist_soon hwb hf hm
  obtain ⟨-, -, g1, g2, g3, g4⟩ := dist_soon hwf hf hm
  refine soon_cmp hwb ⟨by rw [su_ne (by omega), su_ne (by omega)], fun t h0 _ => ⟨by rw [sg_su (by omega) h0 (by omega), sg_su (by omega) h0 (by omega)], by rw [sg_su (by omega) h0 (by omega), sg_su (by omega) h0 (by omega)], by rw [sg_su (by omega) h0 (by omega), sg_su (by omega) h0 (by omega)]⟩⟩ (fun t e x x' hv h0 hx hne => ?_) hm.1 d2 g2 d3 g4 (by omega)
  have hv1 := hv.2.1
  rw [su_ne (by omega)] at hv1
  have ge := entS_ge hwb (t := t) (e := e) (m := x') (by omega) hne
  have nsh : ¬ bitz (s 4) t = 1 := fun q => by
    apply hne
    unfold entS
    rw [su_ne (show 4 ≠ 5 by omega), if_pos (Or.inl q)]
  have hbit := bitz_full n (by omega) t.toNat (by have := hv.1; omega)
  rw [Int.toNat_of_nonneg hv.1] at hbit
  have hway : wayS (su s 5 (((2 ^ n : Nat) : Int) - 1)) t x = 2 := by
    unfold wayS
    rw [su_ne (show 4 ≠ 5 by omega), if_neg nsh, su_eq, if_pos (Or.inl hbit)]
  have he : entS (su s 5 (((2 ^ n : Nat) : Int) - 1)) t e x = x := by
    unfold entS
    rw [su_ne (show 4 ≠ 5 by omega), if_neg (fun q => q.elim nsh (fun y => by omega)), if_pos (Or.inl hway)]
  rw [he]
  omega
theorem mins_le {s1 s2 : Nat → Int} (hw1 : WF s1) (hw2 : WF s2) {f t : Nat} {a : Int} (hf : f < 10) (ht : t < 10) (ha : 0 ≤ a ∧ a ≤ 2879) (h : dist s2 f a t ≤ dist s1 f a t) : mins s2 f t a ≤ mins s1 f t a := by
  have b1 := mins_b hw1 hf ht ha
  have b2 := mins_b hw2 hf ht ha
  have c1 := (dist_soon hw1 hf ha).2.2.2.1 t ht
  have c2 := (dist_soon hw2 hf ha).2.2.2.1 t ht
  unfold mins at *
  by_cases q : dist s1 f a t = 1000000
  · rw [if_pos q]
    exact b2.2
  · rw [if_neg q, if_neg (show ¬ dist s2 f a t = 1000000 by omega)]
    omega
theorem cost_full {s : Nat → Int} (hw : WF s) {n : Nat} (hn : s 1 = n) {b : Int} (hb : 0 ≤ b ∧ b < 16384) : costM (su s 5 (((2 ^ n : Nat) : Int) - 1)) ≤ costM (su s 5 b) := by
  have w0 := hw.1
  have w1 := hw.2.1
  have p14 : ∀ n : Nat, n < 15 → 1 ≤ 2 ^ n ∧ 2 ^ n ≤ 16384 := by decide
  have p := p14 n (by omega)
  have hwf : WF (su s 5 (((2 ^ n : Nat) : Int) - 1)) := WF_su hw (Or.inl ⟨Or.inr (Or.inr rfl), by omega, by omega⟩)
  have hwb : WF (su s 5 b) := WF_su hw (Or.inl ⟨Or.inr (Or.inr rfl), hb⟩)
  have key : ∀ k : Nat, (k : Int) ≤ s 2 → costN (su s 5 (((2 ^ n : Nat) : Int) - 1)) k ≤ costN (su s 5 b) k := by
    intro k
    induction k with
    | zero => intro _; exact Int.le_refl _
    | succ k ih =>
      intro hk
      have i := ih (by omega)
      obtain ⟨e0, e1, e2, e3⟩ := er_of hw (e := (k : Int)) (by omega)
      have md := dist_full hw hn hb (f := (se s k 0).toNat) (m := se s k 2) (by omega) (by omega) (se s k 1).toNat (by omega)
      have ml := mins_le hwb hwf (f := (se s k 0).toNat) (t := (se s k 1).toNat) (a := se s k 2) (by omega) (by omega) (by omega) md
      unfold costN
      have k0 : (0 : Int) ≤ (k : Int) := by omega
      rw [se_su (by omega) k0 (by omega), se_su (by omega) k0 (by omega), se_su (by omega) k0 (by omega), se_su (by omega) k0 (by omega), se_su (by omega) k0 (by omega), se_su (by omega) k0 (by omega), se_su (by omega) k0 (by omega), se_su (by omega) k0 (by omega)]
      have := Int.mul_le_mul_of_nonneg_left ml (show 0 ≤ se s k 3 by omega)
      omega
  unfold costM
  rw [su_ne (by omega), su_ne (by omega)]
  have w2 := hw.2.2.1
  exact key (s 2).toNat (by omega)
