/-! the machine's numbers as Ints -/
abbrev Hp : Type := Nat → Nat → Nat → Int
abbrev AV : Type := Int ⊕ ((Nat × Nat) ⊕ (Int64 ⊕ Unit))
abbrev zI (z : Int) : AV := .inl z
abbrev zR (g i : Nat) : AV := .inr (.inl (g, i))
abbrev zJ (x : Int64) : AV := .inr (.inr (.inl x))
abbrev zU : AV := .inr (.inr (.inr ()))
def wrap (z : Int) : Int := (z + 2147483648) % 4294967296 - 2147483648
def inR (z : Int) : Prop := -2147483648 ≤ z ∧ z ≤ 2147483647
def zup (σ : Hp) (g i j : Nat) (v : Int) : Hp := fun g' i' j' => if g' = g ∧ i' = i ∧ j' = j then v else σ g' i' j'
abbrev n32 (z : Int) : Int32 := Int32.ofInt z
theorem wrap_in (z : Int) : inR (wrap z) := by unfold inR wrap; omega
theorem wrap_eq {z : Int} (h : inR z) : wrap z = z := by unfold inR at h; unfold wrap; omega
theorem wrap_bmod (z : Int) : wrap z = z.bmod (2 ^ 32) := by
  unfold wrap
  rw [Int.bmod_def]
  split <;> omega
theorem n32_toInt (z : Int) : (n32 z).toInt = wrap z := by rw [wrap_bmod]; exact Int32.toInt_ofInt
theorem n32_canon {z : Int} (h : inR z) : (n32 z).toInt = z := by rw [n32_toInt, wrap_eq h]
theorem n32_of (x : Int32) : n32 x.toInt = x := Int32.ofInt_toInt x
theorem toInt_in (x : Int32) : inR x.toInt := by
  have h : (n32 x.toInt).toInt = x.toInt := by rw [n32_of]
  rw [n32_toInt] at h
  rw [← h]
  exact wrap_in _
theorem n32_wrap (z : Int) : n32 (wrap z) = n32 z := by rw [← n32_toInt, n32_of]
theorem n32_add (a b : Int) : n32 a + n32 b = n32 (wrap (a + b)) := by rw [n32_wrap]; exact (Int32.ofInt_add a b).symm
theorem n32_sub (a b : Int) : n32 a - n32 b = n32 (wrap (a - b)) := by rw [n32_wrap]; exact (Int32.ofInt_sub a b).symm
theorem n32_mul (a b : Int) : n32 a * n32 b = n32 (wrap (a * b)) := by rw [n32_wrap]; exact (Int32.ofInt_mul a b).symm
theorem n32_neg (a : Int) : - n32 a = n32 (wrap (- a)) := by rw [n32_wrap]; exact (Int32.ofInt_neg a).symm
theorem n32_lt {a b : Int} (ha : inR a) (hb : inR b) : n32 a < n32 b ↔ a < b := by rw [Int32.lt_iff_toInt_lt, n32_canon ha, n32_canon hb]
theorem n32_le {a b : Int} (ha : inR a) (hb : inR b) : n32 a ≤ n32 b ↔ a ≤ b := by rw [Int32.le_iff_toInt_le, n32_canon ha, n32_canon hb]
theorem n32_inj {a b : Int} (ha : inR a) (hb : inR b) : n32 a = n32 b ↔ a = b := by
  constructor
  · intro h
    rw [← n32_canon ha, ← n32_canon hb, h]
  · intro h; rw [h]
theorem n32_nat {z : Int} (h0 : 0 ≤ z) (h : inR z) : (n32 z).toNatClampNeg = z.toNat := by
  show (n32 z).toInt.toNat = z.toNat
  rw [n32_canon h]
theorem n32_in {z : Int} {N : Nat} (h : inR z) (hi : 0 ≤ z ∧ z < (N : Int)) : vp_in (n32 z) N := by
  intro q
  rcases q with q | q
  · have : n32 z < n32 0 := q
    rw [n32_lt h ⟨by omega, by omega⟩] at this
    omega
  · rw [n32_nat hi.1 h] at q
    omega
theorem inR_0 : inR 0 := ⟨by omega, by omega⟩
def zand (a b : Int) : Int := (n32 a &&& n32 b).toInt
def zor (a b : Int) : Int := (n32 a ||| n32 b).toInt
def zxor (a b : Int) : Int := (n32 a ^^^ n32 b).toInt
def zshl (a b : Int) : Int := (n32 a <<< (n32 b &&& 31)).toInt
def zshr (a b : Int) : Int := (n32 a >>> (n32 b &&& 31)).toInt
def zushr (a b : Int) : Int := (((n32 a).toUInt32 >>> ((n32 b).toUInt32 &&& Int32.toUInt32 31)).toInt32).toInt
def zdiv (a b : Int) : Int := (n32 a / n32 b).toInt
def zrem (a b : Int) : Int := (n32 a - n32 a / n32 b * n32 b).toInt
def zi2l (a : Int) : Int64 := (n32 a).toInt64
def zl2i (x : Int64) : Int := x.toInt32.toInt
def zlshl (x : Int64) (b : Int) : Int64 := x <<< ((n32 b).toInt64 &&& 63)
def zlshr (x : Int64) (b : Int) : Int64 := x >>> ((n32 b).toInt64 &&& 63)
def zlushr (x : Int64) (b : Int) : Int64 := (x.toUInt64 >>> ((n32 b).toInt64.toUInt64 &&& Int64.toUInt64 63)).toInt64
/-! values, locals -/
def cvv (ad : Nat → Nat → Nat) : AV → Value
  | .inl z => .int (n32 z)
  | .inr (.inl q) => .ref (ad q.1 q.2)
  | .inr (.inr (.inl x)) => .long x
  | .inr (.inr (.inr _)) => .null
def lvl (ad : Nat → Nat → Nat) : Nat → List AV → List (Nat × Value)
  | _, [] => []
  | k, .inr (.inr (.inr _)) :: r => lvl ad (k + 1) r
  | k, v :: r => (k, cvv ad v) :: lvl ad (k + 1) r
theorem lvl_mem {ad : Nat → Nat → Nat} {i : Nat} {w : Value} : ∀ (L : List AV) (k : Nat), (i, w) ∈ lvl ad k L ↔ ∃ v, k ≤ i ∧ L[i - k]? = some v ∧ v ≠ zU ∧ w = cvv ad v
  | [], k => by simp [lvl]
  | v :: r, k => by
    have key : (i, w) ∈ lvl ad (k + 1) r ↔ ∃ v, k + 1 ≤ i ∧ r[i - (k + 1)]? = some v ∧ v ≠ zU ∧ w = cvv ad v := lvl_mem r (k + 1)
    have shift : k + 1 ≤ i → (v :: r)[i - k]? = r[i - (k + 1)]? := fun h => by
      rw [show i - k = (i - (k + 1)) + 1 by omega, List.getElem?_cons_succ]
    have main : (v ≠ zU ∧ i = k ∧ w = cvv ad v) ∨ (i, w) ∈ lvl ad (k + 1) r ↔ ∃ u, k ≤ i ∧ (v :: r)[i - k]? = some u ∧ u ≠ zU ∧ w = cvv ad u := by
      rw [key]
      constructor
      · rintro (⟨h1, h2, h3⟩ | ⟨u, h1, h2, h3⟩)
        · exact ⟨v, by omega, by rw [h2, Nat.sub_self]; rfl, h1, h3⟩
        · exact ⟨u, by omega, by rw [shift h1]; exact h2, h3⟩
      · rintro ⟨u, h1, h2, h3, h4⟩
        by_cases e : i = k
        · subst e
          rw [Nat.sub_self] at h2
          cases h2
          exact Or.inl ⟨h3, rfl, h4⟩
        · exact Or.inr ⟨u, by omega, by rw [← shift (by omega)]; exact h2, h3, h4⟩
    rw [← main]
    rcases v with z | q | x | u
    · simp [lvl]
    · simp [lvl]
    · simp [lvl]
    · simp [lvl]
def lrel (ad : Nat → Nat → Nat) (ls : Array Slot) (n : Nat) (L : List AV) : Prop := L.length = n ∧ lv_has ls n (lvl ad 0 L)
theorem lrel_at {ad : Nat → Nat → Nat} {ls : Array Slot} {n : Nat} {L : List AV} (h : lrel ad ls n L) {i : Nat} {v : AV} (hi : L[i]? = some v) (hv : v ≠ zU) : ls[i]? = some (.val (cvv ad v)) :=
  h.2.2.2 (i, cvv ad v) ((lvl_mem L 0).mpr ⟨v, Nat.zero_le _, by simpa using hi, hv, rfl⟩)
/-- no long at the place before -/
def noJ (L : List AV) : Nat → Bool
  | 0 => true
  | k + 1 => match L[k]? with
    | some (.inr (.inr (.inl _))) => false
    | _ => true
theorem lrel_set {ad : Nat → Nat → Nat} {ls' : Array Slot} {n : Nat} {L : List AV} {i : Nat} {z : Int} (hn : noJ L i = true) (hi : i < L.length) (hL : L.length = n)
    (h : lv_has ls' n ((i, Value.int (n32 z)) :: (lvl ad 0 L).filter (fun q => !(q.1 == i) && !(q.1 + 1 == i && q.2.category == 2)))) : lrel ad ls' n (L.set i (zI z)) := by
  refine ⟨by simp [hL], h.1, h.2.1, fun q hq => ?_⟩
  obtain ⟨j, w⟩ := q
  obtain ⟨v, -, h2, h3, h4⟩ := (lvl_mem _ 0).mp hq
  rw [Nat.sub_zero] at h2
  by_cases e : j = i
  · subst e
    rw [List.getElem?_set_self hi] at h2
    cases h2
    subst h4
    exact h.2.2 _ List.mem_cons_self
  · rw [List.getElem?_set_ne (Ne.symm e)] at h2
    refine h.2.2 _ (List.mem_cons_of_mem _ (List.mem_filter.mpr ⟨(lvl_mem L 0).mpr ⟨v, Nat.zero_le _, by simpa using h2, h3, h4⟩, ?_⟩))
    have hj : (j == i) = false := by simpa using e
    by_cases e2 : j + 1 = i
    · subst e2
      have hc : w.category = 1 := by
        rw [h4]
        simp only [noJ, h2] at hn
        rcases v with z | q | x | u
        · rfl
        · rfl
        · simp at hn
        · exact absurd rfl h3
      simp [hj, hc]
    · simp [hj, e2]
theorem lrel_forget {ad : Nat → Nat → Nat} {ls : Array Slot} {n : Nat} {L L' : List AV} (h : lrel ad ls n L) (hl : L'.length = L.length) (hf : ∀ (i : Nat) (v : AV), L'[i]? = some v → v = zU ∨ L[i]? = some v) : lrel ad ls n L' := by
  refine ⟨hl.trans h.1, h.2.1, h.2.2.1, fun q hq => ?_⟩
  obtain ⟨j, w⟩ := q
  obtain ⟨v, -, h2, h3, h4⟩ := (lvl_mem _ 0).mp hq
  rw [Nat.sub_zero] at h2
  rcases hf j v h2 with e | e
  · exact absurd e h3
  · subst h4
    exact lrel_at h e h3
abbrev bitz (a b : Int) : Int := zand (zshr a b) 1
