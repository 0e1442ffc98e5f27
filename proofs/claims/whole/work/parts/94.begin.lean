/-! the cells at the loop's first turn -/
def zlv (j : Nat) : Int := if j = 2 then 10 else 0
def zgv (j : Nat) : Int := if j = 0 then 1439 else if j = 1 then 4 else if j = 2 then 720 else if j = 3 then 9 else 0
def zst (j : Nat) : Int := if j = 0 then 720 else if j = 2 then 240 else 0
def zs0 (j : Nat) : Int := if j = 0 then 4 else if j = 7 then 720 else if j = 9 then 240 else 0
def zco (j : Nat) : Int := if j = 0 then 4 else 0
def zhp (n : Nat) (xs : Nat → Int32) : Hp := fun g => match g with
  | 1 => fun _ j => zco j
  | 11 => fun _ j => zst j
  | 36 => fun _ j => zs0 j
  | 60 => fun i j => if i = 0 then (xs j).toInt else (n : Int)
  | 61 => fun _ j => zlv j
  | 62 => fun _ j => zgv j
  | _ => fun _ _ => 0
theorem zhp_ok {n : Nat} (hn : n ≤ 320) (xs : Nat → Int32) : okH (zhp n xs) := by
  intro g i j
  unfold zhp
  split
  · show inR (zco j)
    unfold zco inR; split <;> omega
  · show inR (zst j)
    unfold zst inR; (repeat' split) <;> omega
  · show inR (zs0 j)
    unfold zs0 inR; (repeat' split) <;> omega
  · show inR (if i = 0 then (xs j).toInt else (n : Int))
    by_cases h : i = 0
    · rw [if_pos h]; exact toInt_in _
    · rw [if_neg h]; exact ⟨by omega, by omega⟩
  · show inR (zlv j)
    unfold zlv inR; split <;> omega
  · show inR (zgv j)
    unfold zgv inR; (repeat' split) <;> omega
  · show inR 0
    exact ⟨by omega, by omega⟩
theorem zs0_at : zs0 0 = 4 ∧ zs0 1 = 0 ∧ zs0 2 = 0 ∧ zs0 3 = 0 ∧ zs0 4 = 0 ∧ zs0 5 = 0 ∧ zs0 6 = 0 ∧ zs0 7 = 720 ∧ zs0 8 = 0 ∧ zs0 9 = 240 ∧ zs0 10 = 0 := by decide
theorem zhp_good {n : Nat} (xs : Nat → Int32) : Good 0 (zhp n xs) := by
  obtain ⟨e0, e1, e2, e3, e4, e5, e6, e7, e8, e9, e10⟩ := zs0_at
  refine ⟨zs0, fun _ => 0, 0, 0, fun _ => 0, fun _ => 0, ⟨⟨?_, fun j hj => ?_, e5⟩, fun h => absurd h (by decide), Or.inl rfl, by omega, fun j _ => ⟨Int.le_refl _, Int.le_refl _⟩⟩, ⟨?_, fun h => absurd h (by decide), rfl, rfl, fun i hi => absurd hi (by omega), fun _ _ => rfl⟩, ⟨rfl, fun h => absurd h (by decide), fun j _ => ⟨rfl, rfl⟩, rfl, rfl, fun i hi => absurd hi (by omega), fun _ _ => rfl⟩, ?_⟩
  · unfold WF
    rw [e0, e1, e2, e3, e4, e5, e6, e7, e8, e9, e10]
    exact ⟨by omega, by omega, by omega, by omega, by omega, by omega, by omega, by omega, by omega, by omega, by omega, fun t h0 h1 => absurd h1 (by omega), fun t h0 h1 => absurd h1 (by omega), fun i h0 => absurd h0 (by omega)⟩
  · unfold zs0
    rw [if_neg (by omega), if_neg (by omega), if_neg (by omega)]
  · unfold TW
    rw [e0, e1, e2, e3, e4, e6]
    refine ⟨⟨rfl, rfl, rfl, rfl, rfl, rfl⟩, ⟨⟨Int.le_refl _, by show (0 : Int) < 16384; omega⟩, fun k _ _ => bitz_0 _⟩, fun x hx => absurd hx (by omega), fun x hx => absurd hx (by omega), fun x hx => absurd hx (by omega), fun j hj => ?_⟩
    have : j = 0 ∨ j = 1 ∨ j = 2 ∨ j = 3 := by omega
    rcases this with rfl | rfl | rfl | rfl <;> rfl
  · exact ⟨⟨rfl, rfl, rfl, rfl⟩, rfl, rfl, rfl, rfl⟩
/-- the two static arrays -/
theorem zstat {args : Array Value} {s : State} (hts : ∀ w ∈ lw_tbl, w.before args s = true) (h : (Jvm.Cond.and given_1 narrow_1).before args s = true) {A : Nat → Prop} (hA : ∀ a : Nat, a < s.heap.size → ¬ A a) (n : Nat) (xs : Nat → Int32) :
    ∃ t1 t2 : Nat, (va_Z RX10 "LEAST_SETTING" "[I" (.ref t1) A s s.heap ∧ va_T .int t1 4 (fun j => .int (n32 (zhp n xs 61 0 j))) A s s.heap) ∧ (va_Z RX10 "GREATEST_SETTING" "[I" (.ref t2) A s s.heap ∧ va_T .int t2 4 (fun j => .int (n32 (zhp n xs 62 0 j))) A s s.heap) := by
  have hs := flat_of_before _ h
  have hini : (Cond.initialized RX10).before args s = true := hts _ (by decide +kernel)
  have a1 : (Cond.arrayOf (.static RX10 "LEAST_SETTING" "[I") .int).before args s = true := hs _ (by decide +kernel)
  have b1 : (Cond.eq (.length (.static RX10 "LEAST_SETTING" "[I")) (.int 4)).before args s = true := hs _ (by decide +kernel)
  have c10 : (Cond.eq (.elem (.static RX10 "LEAST_SETTING" "[I") (.int 0)) (.int 0)).before args s = true := hs _ (by decide +kernel)
  have c11 : (Cond.eq (.elem (.static RX10 "LEAST_SETTING" "[I") (.int 1)) (.int 0)).before args s = true := hs _ (by decide +kernel)
  have c12 : (Cond.eq (.elem (.static RX10 "LEAST_SETTING" "[I") (.int 2)) (.int 10)).before args s = true := hs _ (by decide +kernel)
  have c13 : (Cond.eq (.elem (.static RX10 "LEAST_SETTING" "[I") (.int 3)) (.int 0)).before args s = true := hs _ (by decide +kernel)
  have a2 : (Cond.arrayOf (.static RX10 "GREATEST_SETTING" "[I") .int).before args s = true := hs _ (by decide +kernel)
  have b2 : (Cond.eq (.length (.static RX10 "GREATEST_SETTING" "[I")) (.int 4)).before args s = true := hs _ (by decide +kernel)
  have c20 : (Cond.eq (.elem (.static RX10 "GREATEST_SETTING" "[I") (.int 0)) (.int 1439)).before args s = true := hs _ (by decide +kernel)
  have c21 : (Cond.eq (.elem (.static RX10 "GREATEST_SETTING" "[I") (.int 1)) (.int 4)).before args s = true := hs _ (by decide +kernel)
  have c22 : (Cond.eq (.elem (.static RX10 "GREATEST_SETTING" "[I") (.int 2)) (.int 720)).before args s = true := hs _ (by decide +kernel)
  have c23 : (Cond.eq (.elem (.static RX10 "GREATEST_SETTING" "[I") (.int 3)) (.int 9)).before args s = true := hs _ (by decide +kernel)
  have l1 : (Cond.laysStatic RX10 "LEAST_SETTING" "[I").before args s = true := hts _ (by decide +kernel)
  have l2 : (Cond.laysStatic RX10 "GREATEST_SETTING" "[I").before args s = true := hts _ (by decide +kernel)
  obtain ⟨t1, e1, T1⟩ := va_Tof (N := 4) (f := fun j => .int (n32 (zhp n xs 61 0 j))) (by decide) a1 (va_eqt b1) (fun j hj => by
    have : j = 0 ∨ j = 1 ∨ j = 2 ∨ j = 3 := by omega
    rcases this with rfl | rfl | rfl | rfl
    · exact va_eqt c10
    · exact va_eqt c11
    · exact va_eqt c12
    · exact va_eqt c13) hA
  obtain ⟨t2, e2, T2⟩ := va_Tof (N := 4) (f := fun j => .int (n32 (zhp n xs 62 0 j))) (by decide) a2 (va_eqt b2) (fun j hj => by
    have : j = 0 ∨ j = 1 ∨ j = 2 ∨ j = 3 := by omega
    rcases this with rfl | rfl | rfl | rfl
    · exact va_eqt c20
    · exact va_eqt c21
    · exact va_eqt c22
    · exact va_eqt c23) hA
  exact ⟨t1, t2, ⟨va_Zref l1 hini e1 hA, T1⟩, ⟨va_Zref l2 hini e2 hA, T2⟩⟩
