/-! the cells that were made, in one picture -/
def adW (h : Nat) (a : Nat → Nat) (h2 : Nat) (a2 : Nat → Nat) (b t1 t2 : Nat) : Nat → Nat → Nat := fun g i => match g with
  | 0 => h
  | 1 => (match i with
    | 0 => a 0
    | 1 => a 11
    | _ => a 25)
  | 2 => (match i with
    | 0 => a 1
    | 1 => a 12
    | _ => a 26)
  | 3 => (match i with
    | 0 => a 2
    | 1 => a 13
    | _ => a 27)
  | 4 => (match i with
    | 0 => a 3
    | 1 => a 14
    | _ => a 28)
  | 5 => (match i with
    | 0 => a 4
    | 1 => a 15
    | _ => a 29)
  | 6 => (match i with
    | 0 => a 5
    | 1 => a 16
    | _ => a 30)
  | 7 => (match i with
    | 0 => a 6
    | 1 => a 17
    | _ => a 31)
  | 8 => (match i with
    | 0 => a 7
    | 1 => a 18
    | _ => a 32)
  | 9 => (match i with
    | 0 => a 8
    | 1 => a 19
    | _ => a 33)
  | 10 => (match i with
    | 0 => a 9
    | 1 => a 20
    | _ => a 34)
  | 11 => (match i with
    | 0 => a 10
    | 1 => a 21
    | _ => a 35)
  | 12 => a 22
  | 13 => a 23
  | 14 => a 24
  | 15 => a 36
  | 16 => a 37
  | 17 => a 38
  | 18 => a 39
  | 19 => a 40
  | 20 => a 41
  | 21 => a 41 + 1 + i
  | 22 => a 42
  | 23 => a 43
  | 24 => a 44
  | 25 => a 45
  | 26 => a 46
  | 27 => a 47
  | 28 => a (49 + 5 * i)
  | 29 => a (50 + 5 * i)
  | 30 => a (51 + 5 * i)
  | 31 => a (52 + 5 * i)
  | 32 => a (53 + 5 * i)
  | 33 => a 48
  | 34 => h2
  | 35 => a2 0
  | 36 => a2 1
  | 37 => a2 2
  | 38 => a2 3
  | 39 => a2 4
  | 40 => a2 5
  | 41 => a2 6
  | 42 => a2 7
  | 43 => a2 8
  | 44 => a2 9
  | 45 => a2 10
  | 46 => a2 11
  | 47 => a2 12
  | 48 => a2 13
  | 49 => a2 14
  | 50 => a2 15
  | 51 => a2 16
  | 60 => b
  | 61 => t1
  | 62 => t2
  | _ => 0
def cgW (K : Kk) (g : Nat) : ClassId := if g = 20 then K.2.2.2.1 else if g = 27 then K.2.2.2.2 else if g = 42 then K.2.2.1 else K.2.1
def gW (K : Kk) (h : Nat) (a : Nat → Nat) (h2 : Nat) (a2 : Nat → Nat) (b t1 t2 n : Nat) : Gw := (adW h a h2 a2 b t1 t2, K.1, cgW K, n)
theorem n32_0 : n32 0 = 0 := by decide +kernel
theorem cz_f : (fun _ : Nat => n32 0) = fun _ => 0 := funext (fun _ => n32_0)
theorem cz_int {G : Gw} {σ : Hp} {g i N : Nat} {cI : ClassId} (hk : (shp g).1 = 0) (hN : (shp g).2.2.1 = N) (hc : G.2.2.1 g = cI) (hz : σ g i = fun _ => 0) : cellOf G σ g i = .inl (cI, N, .inl (fun _ => 0)) := by
  rw [cell_int hk, hN, hc, hz, ← cz_f]
theorem cz_bool {G : Gw} {σ : Hp} {g i N : Nat} {cI : ClassId} (hk : (shp g).1 = 1) (hN : (shp g).2.2.1 = N) (hc : G.2.2.1 g = cI) (hz : σ g i = fun _ => 0) : cellOf G σ g i = .inl (cI, N, .inl (fun _ => 0)) := by
  rw [cell_bool hk, hN, hc, hz, ← cz_f]
theorem cz_fn {G : Gw} {σ : Hp} {g i N : Nat} {cI : ClassId} {f : Nat → Int32} {z : Nat → Int} (hk : (shp g).1 = 0) (hN : (shp g).2.2.1 = N) (hc : G.2.2.1 g = cI) (hz : σ g i = z) (hf : f = fun j => n32 (z j)) : cellOf G σ g i = .inl (cI, N, .inl f) := by
  rw [cell_int hk, hN, hc, hz, hf]
def fv0 (ad : Nat → Nat → Nat) (i : Nat) (f : Nat × Nat × Nat) : Value := match f.1 with
  | 0 => .int 0
  | 1 => .int 0
  | 2 => .ref (ad f.2.1 f.2.2)
  | _ => .ref (ad f.2.1 i)
theorem cz_obj {G : Gw} {σ : Hp} {g i ci : Nat} {fs : List Value} (hk : (shp g).1 = ci + 3) (hz : σ g i = fun _ => 0) (hf : (shp g).2.2.2.mapIdx (fun _ f => fv0 G.1 i f) = fs) : cellOf G σ g i = .inr (ci, fs) := by
  rw [cell_obj hk, ← hf]
  have e : (fun k f => fval G.1 σ g i k f) = fun _ f => fv0 G.1 i f := by
    funext k f
    unfold fval fv0
    rw [hz]
    split
    · exact congrArg Value.int n32_0
    · exact congrArg Value.int n32_0
    · rfl
    · rfl
  unfold fvals
  rw [e]
theorem zc_0 : n32 (zco 0) = n32 4 := by rw [show zco 0 = 4 from rfl]
theorem zc_k {k : Nat} (h : k ≠ 0) : n32 (zco k) = 0 := by
  unfold zco
  rw [if_neg h]
  exact n32_0
theorem zst_eq : (upd (upd (upd (upd (fun _ => 0) 0 (n32 720)) 1 (n32 0)) 2 (n32 240)) 3 (n32 0)) = fun j => n32 (zst j) := by
  funext j
  unfold upd zst
  by_cases h3 : j = 3
  · subst h3; rfl
  · rw [if_neg h3]
    by_cases h2 : j = 2
    · subst h2; rfl
    · rw [if_neg h2]
      by_cases h1 : j = 1
      · subst h1; rfl
      · rw [if_neg h1]
        by_cases h0 : j = 0
        · subst h0; rfl
        · rw [if_neg h0, if_neg h0, if_neg h2]; rfl
theorem zs0_eq : (upd (upd (upd (fun _ => 0) 0 (n32 4)) 7 (n32 720)) 9 (n32 240)) = fun j => n32 (zs0 j) := by
  funext j
  unfold upd zs0
  by_cases h9 : j = 9
  · subst h9; rfl
  · rw [if_neg h9]
    by_cases h7 : j = 7
    · subst h7; rfl
    · rw [if_neg h7]
      by_cases h0 : j = 0
      · subst h0; rfl
      · rw [if_neg h0, if_neg h0, if_neg h7, if_neg h9]; rfl
theorem roads_up (r : Nat → Nat) : (va_up (va_up (va_up (va_up (va_up (va_up (va_up (va_up (fun _ => none) 0 (some (r 0))) 1 (some (r 1))) 2 (some (r 2))) 3 (some (r 3))) 4 (some (r 4))) 5 (some (r 5))) 6 (some (r 6))) 7 (some (r 7))) = fun j => if j < 8 then some (r j) else none := by
  funext j
  unfold va_up
  by_cases h : j < 8
  · rw [if_pos h]
    have : j = 0 ∨ j = 1 ∨ j = 2 ∨ j = 3 ∨ j = 4 ∨ j = 5 ∨ j = 6 ∨ j = 7 := by omega
    rcases this with rfl | rfl | rfl | rfl | rfl | rfl | rfl | rfl <;> rfl
  · rw [if_neg h]
    rw [if_neg (show ¬ j = 7 by omega), if_neg (show ¬ j = 6 by omega), if_neg (show ¬ j = 5 by omega), if_neg (show ¬ j = 4 by omega), if_neg (show ¬ j = 3 by omega), if_neg (show ¬ j = 2 by omega), if_neg (show ¬ j = 1 by omega), if_neg (show ¬ j = 0 by omega)]
theorem cw_0_0 (K : Kk) (h : Nat) (a : Nat → Nat) (h2 : Nat) (a2 : Nat → Nat) (b t1 t2 n : Nat) (xs : Nat → Int32) : cellOf (gW K h a h2 a2 b t1 t2 n) (zhp n xs) 0 0 = .inr (10, [.ref (a 0), .ref (a 11), .ref (a 22), .ref (a 24), .ref (a 37), .ref (a 38), .ref (a 40), .ref (a 42), .ref (a 45), .ref (a 46), .ref (a 47), .ref (a 48), .int 0]) := cz_obj rfl rfl rfl
theorem cw_1_0 (K : Kk) (h : Nat) (a : Nat → Nat) (h2 : Nat) (a2 : Nat → Nat) (b t1 t2 n : Nat) (xs : Nat → Int32) : cellOf (gW K h a h2 a2 b t1 t2 n) (zhp n xs) 1 0 = .inr (6, [.int (n32 4), .int 0, .int 0, .int 0, .int 0, .int 0, .int 0, .ref (a 1), .ref (a 2), .ref (a 3), .ref (a 4), .ref (a 5), .ref (a 6), .ref (a 7), .ref (a 8), .ref (a 9), .ref (a 10)]) := by
  have e : cellOf (gW K h a h2 a2 b t1 t2 n) (zhp n xs) 1 0 = .inr (6, [.int (n32 (zco 0)), .int (n32 (zco 1)), .int (n32 (zco 2)), .int (n32 (zco 3)), .int (n32 (zco 4)), .int (n32 (zco 5)), .int (n32 (zco 6)), .ref (a 1), .ref (a 2), .ref (a 3), .ref (a 4), .ref (a 5), .ref (a 6), .ref (a 7), .ref (a 8), .ref (a 9), .ref (a 10)]) := rfl
  rw [e, zc_0, zc_k (k := 1) (by decide), zc_k (k := 2) (by decide), zc_k (k := 3) (by decide), zc_k (k := 4) (by decide), zc_k (k := 5) (by decide), zc_k (k := 6) (by decide)]
theorem cw_1_1 (K : Kk) (h : Nat) (a : Nat → Nat) (h2 : Nat) (a2 : Nat → Nat) (b t1 t2 n : Nat) (xs : Nat → Int32) : cellOf (gW K h a h2 a2 b t1 t2 n) (zhp n xs) 1 1 = .inr (6, [.int (n32 4), .int 0, .int 0, .int 0, .int 0, .int 0, .int 0, .ref (a 12), .ref (a 13), .ref (a 14), .ref (a 15), .ref (a 16), .ref (a 17), .ref (a 18), .ref (a 19), .ref (a 20), .ref (a 21)]) := by
  have e : cellOf (gW K h a h2 a2 b t1 t2 n) (zhp n xs) 1 1 = .inr (6, [.int (n32 (zco 0)), .int (n32 (zco 1)), .int (n32 (zco 2)), .int (n32 (zco 3)), .int (n32 (zco 4)), .int (n32 (zco 5)), .int (n32 (zco 6)), .ref (a 12), .ref (a 13), .ref (a 14), .ref (a 15), .ref (a 16), .ref (a 17), .ref (a 18), .ref (a 19), .ref (a 20), .ref (a 21)]) := rfl
  rw [e, zc_0, zc_k (k := 1) (by decide), zc_k (k := 2) (by decide), zc_k (k := 3) (by decide), zc_k (k := 4) (by decide), zc_k (k := 5) (by decide), zc_k (k := 6) (by decide)]
theorem cw_1_2 (K : Kk) (h : Nat) (a : Nat → Nat) (h2 : Nat) (a2 : Nat → Nat) (b t1 t2 n : Nat) (xs : Nat → Int32) : cellOf (gW K h a h2 a2 b t1 t2 n) (zhp n xs) 1 2 = .inr (6, [.int (n32 4), .int 0, .int 0, .int 0, .int 0, .int 0, .int 0, .ref (a 26), .ref (a 27), .ref (a 28), .ref (a 29), .ref (a 30), .ref (a 31), .ref (a 32), .ref (a 33), .ref (a 34), .ref (a 35)]) := by
  have e : cellOf (gW K h a h2 a2 b t1 t2 n) (zhp n xs) 1 2 = .inr (6, [.int (n32 (zco 0)), .int (n32 (zco 1)), .int (n32 (zco 2)), .int (n32 (zco 3)), .int (n32 (zco 4)), .int (n32 (zco 5)), .int (n32 (zco 6)), .ref (a 26), .ref (a 27), .ref (a 28), .ref (a 29), .ref (a 30), .ref (a 31), .ref (a 32), .ref (a 33), .ref (a 34), .ref (a 35)]) := rfl
  rw [e, zc_0, zc_k (k := 1) (by decide), zc_k (k := 2) (by decide), zc_k (k := 3) (by decide), zc_k (k := 4) (by decide), zc_k (k := 5) (by decide), zc_k (k := 6) (by decide)]
theorem cw_2_0 (K : Kk) (h : Nat) (a : Nat → Nat) (h2 : Nat) (a2 : Nat → Nat) (b t1 t2 n : Nat) (xs : Nat → Int32) : cellOf (gW K h a h2 a2 b t1 t2 n) (zhp n xs) 2 0 = .inl (K.2.1, 14, .inl (fun _ => 0)) := cz_int rfl rfl rfl rfl
theorem cw_2_1 (K : Kk) (h : Nat) (a : Nat → Nat) (h2 : Nat) (a2 : Nat → Nat) (b t1 t2 n : Nat) (xs : Nat → Int32) : cellOf (gW K h a h2 a2 b t1 t2 n) (zhp n xs) 2 1 = .inl (K.2.1, 14, .inl (fun _ => 0)) := cz_int rfl rfl rfl rfl
theorem cw_2_2 (K : Kk) (h : Nat) (a : Nat → Nat) (h2 : Nat) (a2 : Nat → Nat) (b t1 t2 n : Nat) (xs : Nat → Int32) : cellOf (gW K h a h2 a2 b t1 t2 n) (zhp n xs) 2 2 = .inl (K.2.1, 14, .inl (fun _ => 0)) := cz_int rfl rfl rfl rfl
theorem cw_3_0 (K : Kk) (h : Nat) (a : Nat → Nat) (h2 : Nat) (a2 : Nat → Nat) (b t1 t2 n : Nat) (xs : Nat → Int32) : cellOf (gW K h a h2 a2 b t1 t2 n) (zhp n xs) 3 0 = .inl (K.2.1, 14, .inl (fun _ => 0)) := cz_int rfl rfl rfl rfl
theorem cw_3_1 (K : Kk) (h : Nat) (a : Nat → Nat) (h2 : Nat) (a2 : Nat → Nat) (b t1 t2 n : Nat) (xs : Nat → Int32) : cellOf (gW K h a h2 a2 b t1 t2 n) (zhp n xs) 3 1 = .inl (K.2.1, 14, .inl (fun _ => 0)) := cz_int rfl rfl rfl rfl
theorem cw_3_2 (K : Kk) (h : Nat) (a : Nat → Nat) (h2 : Nat) (a2 : Nat → Nat) (b t1 t2 n : Nat) (xs : Nat → Int32) : cellOf (gW K h a h2 a2 b t1 t2 n) (zhp n xs) 3 2 = .inl (K.2.1, 14, .inl (fun _ => 0)) := cz_int rfl rfl rfl rfl
theorem cw_4_0 (K : Kk) (h : Nat) (a : Nat → Nat) (h2 : Nat) (a2 : Nat → Nat) (b t1 t2 n : Nat) (xs : Nat → Int32) : cellOf (gW K h a h2 a2 b t1 t2 n) (zhp n xs) 4 0 = .inl (K.2.1, 14, .inl (fun _ => 0)) := cz_int rfl rfl rfl rfl
theorem cw_4_1 (K : Kk) (h : Nat) (a : Nat → Nat) (h2 : Nat) (a2 : Nat → Nat) (b t1 t2 n : Nat) (xs : Nat → Int32) : cellOf (gW K h a h2 a2 b t1 t2 n) (zhp n xs) 4 1 = .inl (K.2.1, 14, .inl (fun _ => 0)) := cz_int rfl rfl rfl rfl
theorem cw_4_2 (K : Kk) (h : Nat) (a : Nat → Nat) (h2 : Nat) (a2 : Nat → Nat) (b t1 t2 n : Nat) (xs : Nat → Int32) : cellOf (gW K h a h2 a2 b t1 t2 n) (zhp n xs) 4 2 = .inl (K.2.1, 14, .inl (fun _ => 0)) := cz_int rfl rfl rfl rfl
theorem cw_5_0 (K : Kk) (h : Nat) (a : Nat → Nat) (h2 : Nat) (a2 : Nat → Nat) (b t1 t2 n : Nat) (xs : Nat → Int32) : cellOf (gW K h a h2 a2 b t1 t2 n) (zhp n xs) 5 0 = .inl (K.2.1, 14, .inl (fun _ => 0)) := cz_int rfl rfl rfl rfl
theorem cw_5_1 (K : Kk) (h : Nat) (a : Nat → Nat) (h2 : Nat) (a2 : Nat → Nat) (b t1 t2 n : Nat) (xs : Nat → Int32) : cellOf (gW K h a h2 a2 b t1 t2 n) (zhp n xs) 5 1 = .inl (K.2.1, 14, .inl (fun _ => 0)) := cz_int rfl rfl rfl rfl
theorem cw_5_2 (K : Kk) (h : Nat) (a : Nat → Nat) (h2 : Nat) (a2 : Nat → Nat) (b t1 t2 n : Nat) (xs : Nat → Int32) : cellOf (gW K h a h2 a2 b t1 t2 n) (zhp n xs) 5 2 = .inl (K.2.1, 14, .inl (fun _ => 0)) := cz_int rfl rfl rfl rfl
theorem cw_6_0 (K : Kk) (h : Nat) (a : Nat → Nat) (h2 : Nat) (a2 : Nat → Nat) (b t1 t2 n : Nat) (xs : Nat → Int32) : cellOf (gW K h a h2 a2 b t1 t2 n) (zhp n xs) 6 0 = .inl (K.2.1, 8, .inl (fun _ => 0)) := cz_int rfl rfl rfl rfl
theorem cw_6_1 (K : Kk) (h : Nat) (a : Nat → Nat) (h2 : Nat) (a2 : Nat → Nat) (b t1 t2 n : Nat) (xs : Nat → Int32) : cellOf (gW K h a h2 a2 b t1 t2 n) (zhp n xs) 6 1 = .inl (K.2.1, 8, .inl (fun _ => 0)) := cz_int rfl rfl rfl rfl
theorem cw_6_2 (K : Kk) (h : Nat) (a : Nat → Nat) (h2 : Nat) (a2 : Nat → Nat) (b t1 t2 n : Nat) (xs : Nat → Int32) : cellOf (gW K h a h2 a2 b t1 t2 n) (zhp n xs) 6 2 = .inl (K.2.1, 8, .inl (fun _ => 0)) := cz_int rfl rfl rfl rfl
theorem cw_7_0 (K : Kk) (h : Nat) (a : Nat → Nat) (h2 : Nat) (a2 : Nat → Nat) (b t1 t2 n : Nat) (xs : Nat → Int32) : cellOf (gW K h a h2 a2 b t1 t2 n) (zhp n xs) 7 0 = .inl (K.2.1, 8, .inl (fun _ => 0)) := cz_int rfl rfl rfl rfl
theorem cw_7_1 (K : Kk) (h : Nat) (a : Nat → Nat) (h2 : Nat) (a2 : Nat → Nat) (b t1 t2 n : Nat) (xs : Nat → Int32) : cellOf (gW K h a h2 a2 b t1 t2 n) (zhp n xs) 7 1 = .inl (K.2.1, 8, .inl (fun _ => 0)) := cz_int rfl rfl rfl rfl
theorem cw_7_2 (K : Kk) (h : Nat) (a : Nat → Nat) (h2 : Nat) (a2 : Nat → Nat) (b t1 t2 n : Nat) (xs : Nat → Int32) : cellOf (gW K h a h2 a2 b t1 t2 n) (zhp n xs) 7 2 = .inl (K.2.1, 8, .inl (fun _ => 0)) := cz_int rfl rfl rfl rfl
theorem cw_8_0 (K : Kk) (h : Nat) (a : Nat → Nat) (h2 : Nat) (a2 : Nat → Nat) (b t1 t2 n : Nat) (xs : Nat → Int32) : cellOf (gW K h a h2 a2 b t1 t2 n) (zhp n xs) 8 0 = .inl (K.2.1, 8, .inl (fun _ => 0)) := cz_int rfl rfl rfl rfl
theorem cw_8_1 (K : Kk) (h : Nat) (a : Nat → Nat) (h2 : Nat) (a2 : Nat → Nat) (b t1 t2 n : Nat) (xs : Nat → Int32) : cellOf (gW K h a h2 a2 b t1 t2 n) (zhp n xs) 8 1 = .inl (K.2.1, 8, .inl (fun _ => 0)) := cz_int rfl rfl rfl rfl
theorem cw_8_2 (K : Kk) (h : Nat) (a : Nat → Nat) (h2 : Nat) (a2 : Nat → Nat) (b t1 t2 n : Nat) (xs : Nat → Int32) : cellOf (gW K h a h2 a2 b t1 t2 n) (zhp n xs) 8 2 = .inl (K.2.1, 8, .inl (fun _ => 0)) := cz_int rfl rfl rfl rfl
theorem cw_9_0 (K : Kk) (h : Nat) (a : Nat → Nat) (h2 : Nat) (a2 : Nat → Nat) (b t1 t2 n : Nat) (xs : Nat → Int32) : cellOf (gW K h a h2 a2 b t1 t2 n) (zhp n xs) 9 0 = .inl (K.2.1, 8, .inl (fun _ => 0)) := cz_int rfl rfl rfl rfl
theorem cw_9_1 (K : Kk) (h : Nat) (a : Nat → Nat) (h2 : Nat) (a2 : Nat → Nat) (b t1 t2 n : Nat) (xs : Nat → Int32) : cellOf (gW K h a h2 a2 b t1 t2 n) (zhp n xs) 9 1 = .inl (K.2.1, 8, .inl (fun _ => 0)) := cz_int rfl rfl rfl rfl
theorem cw_9_2 (K : Kk) (h : Nat) (a : Nat → Nat) (h2 : Nat) (a2 : Nat → Nat) (b t1 t2 n : Nat) (xs : Nat → Int32) : cellOf (gW K h a h2 a2 b t1 t2 n) (zhp n xs) 9 2 = .inl (K.2.1, 8, .inl (fun _ => 0)) := cz_int rfl rfl rfl rfl
theorem cw_10_0 (K : Kk) (h : Nat) (a : Nat → Nat) (h2 : Nat) (a2 : Nat → Nat) (b t1 t2 n : Nat) (xs : Nat → Int32) : cellOf (gW K h a h2 a2 b t1 t2 n) (zhp n xs) 10 0 = .inl (K.2.1, 10, .inl (fun _ => 0)) := cz_int rfl rfl rfl rfl
theorem cw_10_1 (K : Kk) (h : Nat) (a : Nat → Nat) (h2 : Nat) (a2 : Nat → Nat) (b t1 t2 n : Nat) (xs : Nat → Int32) : cellOf (gW K h a h2 a2 b t1 t2 n) (zhp n xs) 10 1 = .inl (K.2.1, 10, .inl (fun _ => 0)) := cz_int rfl rfl rfl rfl
theorem cw_10_2 (K : Kk) (h : Nat) (a : Nat → Nat) (h2 : Nat) (a2 : Nat → Nat) (b t1 t2 n : Nat) (xs : Nat → Int32) : cellOf (gW K h a h2 a2 b t1 t2 n) (zhp n xs) 10 2 = .inl (K.2.1, 10, .inl (fun _ => 0)) := cz_int rfl rfl rfl rfl
theorem cw_11_0 (K : Kk) (h : Nat) (a : Nat → Nat) (h2 : Nat) (a2 : Nat → Nat) (b t1 t2 n : Nat) (xs : Nat → Int32) : cellOf (gW K h a h2 a2 b t1 t2 n) (zhp n xs) 11 0 = .inl (K.2.1, 4, .inl (upd (upd (upd (upd (fun _ => 0) 0 (n32 720)) 1 (n32 0)) 2 (n32 240)) 3 (n32 0))) := cz_fn rfl rfl rfl rfl zst_eq
theorem cw_11_1 (K : Kk) (h : Nat) (a : Nat → Nat) (h2 : Nat) (a2 : Nat → Nat) (b t1 t2 n : Nat) (xs : Nat → Int32) : cellOf (gW K h a h2 a2 b t1 t2 n) (zhp n xs) 11 1 = .inl (K.2.1, 4, .inl (upd (upd (upd (upd (fun _ => 0) 0 (n32 720)) 1 (n32 0)) 2 (n32 240)) 3 (n32 0))) := cz_fn rfl rfl rfl rfl zst_eq
theorem cw_11_2 (K : Kk) (h : Nat) (a : Nat → Nat) (h2 : Nat) (a2 : Nat → Nat) (b t1 t2 n : Nat) (xs : Nat → Int32) : cellOf (gW K h a h2 a2 b t1 t2 n) (zhp n xs) 11 2 = .inl (K.2.1, 4, .inl (upd (upd (upd (upd (fun _ => 0) 0 (n32 720)) 1 (n32 0)) 2 (n32 240)) 3 (n32 0))) := cz_fn rfl rfl rfl rfl zst_eq
theorem cw_12_0 (K : Kk) (h : Nat) (a : Nat → Nat) (h2 : Nat) (a2 : Nat → Nat) (b t1 t2 n : Nat) (xs : Nat → Int32) : cellOf (gW K h a h2 a2 b t1 t2 n) (zhp n xs) 12 0 = .inr (5, [.ref (a 23), .int 0]) := cz_obj rfl rfl rfl
theorem cw_13_0 (K : Kk) (h : Nat) (a : Nat → Nat) (h2 : Nat) (a2 : Nat → Nat) (b t1 t2 n : Nat) (xs : Nat → Int32) : cellOf (gW K h a h2 a2 b t1 t2 n) (zhp n xs) 13 0 = .inl (K.2.1, 64, .inl (fun _ => 0)) := cz_int rfl rfl rfl rfl
theorem cw_14_0 (K : Kk) (h : Nat) (a : Nat → Nat) (h2 : Nat) (a2 : Nat → Nat) (b t1 t2 n : Nat) (xs : Nat → Int32) : cellOf (gW K h a h2 a2 b t1 t2 n) (zhp n xs) 14 0 = .inr (3, [.ref (a 22), .ref (a 25), .int 0, .int 0, .int 0, .ref (a 36), .int 0]) := cz_obj rfl rfl rfl
theorem cw_15_0 (K : Kk) (h : Nat) (a : Nat → Nat) (h2 : Nat) (a2 : Nat → Nat) (b t1 t2 n : Nat) (xs : Nat → Int32) : cellOf (gW K h a h2 a2 b t1 t2 n) (zhp n xs) 15 0 = .inl (K.2.1, 4, .inl (fun _ => 0)) := cz_int rfl rfl rfl rfl
theorem cw_16_0 (K : Kk) (h : Nat) (a : Nat → Nat) (h2 : Nat) (a2 : Nat → Nat) (b t1 t2 n : Nat) (xs : Nat → Int32) : cellOf (gW K h a h2 a2 b t1 t2 n) (zhp n xs) 16 0 = .inr (7, [.ref (a 0), .int 0, .int 0, .int 0, .int 0, .int 0, .int 0, .int 0, .int 0, .int 0]) := cz_obj rfl rfl rfl
theorem cw_17_0 (K : Kk) (h : Nat) (a : Nat → Nat) (h2 : Nat) (a2 : Nat → Nat) (b t1 t2 n : Nat) (xs : Nat → Int32) : cellOf (gW K h a h2 a2 b t1 t2 n) (zhp n xs) 17 0 = .inr (8, [.ref (a 0), .ref (a 37), .ref (a 39), .int 0]) := cz_obj rfl rfl rfl
theorem cw_18_0 (K : Kk) (h : Nat) (a : Nat → Nat) (h2 : Nat) (a2 : Nat → Nat) (b t1 t2 n : Nat) (xs : Nat → Int32) : cellOf (gW K h a h2 a2 b t1 t2 n) (zhp n xs) 18 0 = .inl (K.2.1, 10, .inl (fun _ => 0)) := cz_int rfl rfl rfl rfl
theorem cw_19_0 (K : Kk) (h : Nat) (a : Nat → Nat) (h2 : Nat) (a2 : Nat → Nat) (b t1 t2 n : Nat) (xs : Nat → Int32) : cellOf (gW K h a h2 a2 b t1 t2 n) (zhp n xs) 19 0 = .inr (0, [.ref (a 0), .ref (a 37), .ref (a 41)]) := cz_obj rfl rfl rfl
theorem cw_20_0 (K : Kk) (h : Nat) (a : Nat → Nat) (h2 : Nat) (a2 : Nat → Nat) (b t1 t2 n : Nat) (xs : Nat → Int32) : cellOf (gW K h a h2 a2 b t1 t2 n) (zhp n xs) 20 0 = .inl (K.2.2.2.1, 10, .inr (.inr (.inr (.inr (fun j => if j < 10 then some (a 41 + 1 + j) else none))))) := rfl
theorem cw_21_0 (K : Kk) (h : Nat) (a : Nat → Nat) (h2 : Nat) (a2 : Nat → Nat) (b t1 t2 n : Nat) (xs : Nat → Int32) : cellOf (gW K h a h2 a2 b t1 t2 n) (zhp n xs) 21 0 = .inl (K.2.1, 10, .inl (fun _ => 0)) := cz_int rfl rfl rfl rfl
theorem cw_21_1 (K : Kk) (h : Nat) (a : Nat → Nat) (h2 : Nat) (a2 : Nat → Nat) (b t1 t2 n : Nat) (xs : Nat → Int32) : cellOf (gW K h a h2 a2 b t1 t2 n) (zhp n xs) 21 1 = .inl (K.2.1, 10, .inl (fun _ => 0)) := cz_int rfl rfl rfl rfl
theorem cw_21_2 (K : Kk) (h : Nat) (a : Nat → Nat) (h2 : Nat) (a2 : Nat → Nat) (b t1 t2 n : Nat) (xs : Nat → Int32) : cellOf (gW K h a h2 a2 b t1 t2 n) (zhp n xs) 21 2 = .inl (K.2.1, 10, .inl (fun _ => 0)) := cz_int rfl rfl rfl rfl
theorem cw_21_3 (K : Kk) (h : Nat) (a : Nat → Nat) (h2 : Nat) (a2 : Nat → Nat) (b t1 t2 n : Nat) (xs : Nat → Int32) : cellOf (gW K h a h2 a2 b t1 t2 n) (zhp n xs) 21 3 = .inl (K.2.1, 10, .inl (fun _ => 0)) := cz_int rfl rfl rfl rfl
theorem cw_21_4 (K : Kk) (h : Nat) (a : Nat → Nat) (h2 : Nat) (a2 : Nat → Nat) (b t1 t2 n : Nat) (xs : Nat → Int32) : cellOf (gW K h a h2 a2 b t1 t2 n) (zhp n xs) 21 4 = .inl (K.2.1, 10, .inl (fun _ => 0)) := cz_int rfl rfl rfl rfl
theorem cw_21_5 (K : Kk) (h : Nat) (a : Nat → Nat) (h2 : Nat) (a2 : Nat → Nat) (b t1 t2 n : Nat) (xs : Nat → Int32) : cellOf (gW K h a h2 a2 b t1 t2 n) (zhp n xs) 21 5 = .inl (K.2.1, 10, .inl (fun _ => 0)) := cz_int rfl rfl rfl rfl
theorem cw_21_6 (K : Kk) (h : Nat) (a : Nat → Nat) (h2 : Nat) (a2 : Nat → Nat) (b t1 t2 n : Nat) (xs : Nat → Int32) : cellOf (gW K h a h2 a2 b t1 t2 n) (zhp n xs) 21 6 = .inl (K.2.1, 10, .inl (fun _ => 0)) := cz_int rfl rfl rfl rfl
theorem cw_21_7 (K : Kk) (h : Nat) (a : Nat → Nat) (h2 : Nat) (a2 : Nat → Nat) (b t1 t2 n : Nat) (xs : Nat → Int32) : cellOf (gW K h a h2 a2 b t1 t2 n) (zhp n xs) 21 7 = .inl (K.2.1, 10, .inl (fun _ => 0)) := cz_int rfl rfl rfl rfl
theorem cw_21_8 (K : Kk) (h : Nat) (a : Nat → Nat) (h2 : Nat) (a2 : Nat → Nat) (b t1 t2 n : Nat) (xs : Nat → Int32) : cellOf (gW K h a h2 a2 b t1 t2 n) (zhp n xs) 21 8 = .inl (K.2.1, 10, .inl (fun _ => 0)) := cz_int rfl rfl rfl rfl
theorem cw_21_9 (K : Kk) (h : Nat) (a : Nat → Nat) (h2 : Nat) (a2 : Nat → Nat) (b t1 t2 n : Nat) (xs : Nat → Int32) : cellOf (gW K h a h2 a2 b t1 t2 n) (zhp n xs) 21 9 = .inl (K.2.1, 10, .inl (fun _ => 0)) := cz_int rfl rfl rfl rfl
theorem cw_22_0 (K : Kk) (h : Nat) (a : Nat → Nat) (h2 : Nat) (a2 : Nat → Nat) (b t1 t2 n : Nat) (xs : Nat → Int32) : cellOf (gW K h a h2 a2 b t1 t2 n) (zhp n xs) 22 0 = .inr (2, [.ref (a 0), .ref (a 43), .ref (a 44)]) := cz_obj rfl rfl rfl
theorem cw_23_0 (K : Kk) (h : Nat) (a : Nat → Nat) (h2 : Nat) (a2 : Nat → Nat) (b t1 t2 n : Nat) (xs : Nat → Int32) : cellOf (gW K h a h2 a2 b t1 t2 n) (zhp n xs) 23 0 = .inl (K.2.1, 10, .inl (fun _ => 0)) := cz_int rfl rfl rfl rfl
theorem cw_24_0 (K : Kk) (h : Nat) (a : Nat → Nat) (h2 : Nat) (a2 : Nat → Nat) (b t1 t2 n : Nat) (xs : Nat → Int32) : cellOf (gW K h a h2 a2 b t1 t2 n) (zhp n xs) 24 0 = .inl (K.2.1, 10, .inl (fun _ => 0)) := cz_int rfl rfl rfl rfl
theorem cw_25_0 (K : Kk) (h : Nat) (a : Nat → Nat) (h2 : Nat) (a2 : Nat → Nat) (b t1 t2 n : Nat) (xs : Nat → Int32) : cellOf (gW K h a h2 a2 b t1 t2 n) (zhp n xs) 25 0 = .inr (1, [.ref (a 0), .ref (a 38), .int 0]) := cz_obj rfl rfl rfl
theorem cw_26_0 (K : Kk) (h : Nat) (a : Nat → Nat) (h2 : Nat) (a2 : Nat → Nat) (b t1 t2 n : Nat) (xs : Nat → Int32) : cellOf (gW K h a h2 a2 b t1 t2 n) (zhp n xs) 26 0 = .inr (9, [.ref (a 0), .ref (a 37), .ref (a 38), .ref (a 40), .ref (a 45)]) := cz_obj rfl rfl rfl
theorem cw_27_0 (K : Kk) (h : Nat) (a : Nat → Nat) (h2 : Nat) (a2 : Nat → Nat) (b t1 t2 n : Nat) (xs : Nat → Int32) : cellOf (gW K h a h2 a2 b t1 t2 n) (zhp n xs) 27 0 = .inl (K.2.2.2.2, 8, .inr (.inr (.inr (.inr (va_up (va_up (va_up (va_up (va_up (va_up (va_up (va_up (fun _ => none) 0 (some (a 49))) 1 (some (a 54))) 2 (some (a 59))) 3 (some (a 64))) 4 (some (a 69))) 5 (some (a 74))) 6 (some (a 79))) 7 (some (a 84))))))) := by
  have e := roads_up (fun j => adW h a h2 a2 b t1 t2 28 j)
  have e2 := congrArg (fun f => (.inl (K.2.2.2.2, 8, .inr (.inr (.inr (.inr f)))) : va_E)) e
  exact e2.symm
theorem cw_28_0 (K : Kk) (h : Nat) (a : Nat → Nat) (h2 : Nat) (a2 : Nat → Nat) (b t1 t2 n : Nat) (xs : Nat → Int32) : cellOf (gW K h a h2 a2 b t1 t2 n) (zhp n xs) 28 0 = .inr (4, [.ref (a 0), .ref (a 37), .ref (a 38), .ref (a 50), .ref (a 51), .ref (a 52), .ref (a 53), .int 0]) := cz_obj rfl rfl rfl
theorem cw_28_1 (K : Kk) (h : Nat) (a : Nat → Nat) (h2 : Nat) (a2 : Nat → Nat) (b t1 t2 n : Nat) (xs : Nat → Int32) : cellOf (gW K h a h2 a2 b t1 t2 n) (zhp n xs) 28 1 = .inr (4, [.ref (a 0), .ref (a 37), .ref (a 38), .ref (a 55), .ref (a 56), .ref (a 57), .ref (a 58), .int 0]) := cz_obj rfl rfl rfl
theorem cw_28_2 (K : Kk) (h : Nat) (a : Nat → Nat) (h2 : Nat) (a2 : Nat → Nat) (b t1 t2 n : Nat) (xs : Nat → Int32) : cellOf (gW K h a h2 a2 b t1 t2 n) (zhp n xs) 28 2 = .inr (4, [.ref (a 0), .ref (a 37), .ref (a 38), .ref (a 60), .ref (a 61), .ref (a 62), .ref (a 63), .int 0]) := cz_obj rfl rfl rfl
theorem cw_28_3 (K : Kk) (h : Nat) (a : Nat → Nat) (h2 : Nat) (a2 : Nat → Nat) (b t1 t2 n : Nat) (xs : Nat → Int32) : cellOf (gW K h a h2 a2 b t1 t2 n) (zhp n xs) 28 3 = .inr (4, [.ref (a 0), .ref (a 37), .ref (a 38), .ref (a 65), .ref (a 66), .ref (a 67), .ref (a 68), .int 0]) := cz_obj rfl rfl rfl
theorem cw_28_4 (K : Kk) (h : Nat) (a : Nat → Nat) (h2 : Nat) (a2 : Nat → Nat) (b t1 t2 n : Nat) (xs : Nat → Int32) : cellOf (gW K h a h2 a2 b t1 t2 n) (zhp n xs) 28 4 = .inr (4, [.ref (a 0), .ref (a 37), .ref (a 38), .ref (a 70), .ref (a 71), .ref (a 72), .ref (a 73), .int 0]) := cz_obj rfl rfl rfl
theorem cw_28_5 (K : Kk) (h : Nat) (a : Nat → Nat) (h2 : Nat) (a2 : Nat → Nat) (b t1 t2 n : Nat) (xs : Nat → Int32) : cellOf (gW K h a h2 a2 b t1 t2 n) (zhp n xs) 28 5 = .inr (4, [.ref (a 0), .ref (a 37), .ref (a 38), .ref (a 75), .ref (a 76), .ref (a 77), .ref (a 78), .int 0]) := cz_obj rfl rfl rfl
theorem cw_28_6 (K : Kk) (h : Nat) (a : Nat → Nat) (h2 : Nat) (a2 : Nat → Nat) (b t1 t2 n : Nat) (xs : Nat → Int32) : cellOf (gW K h a h2 a2 b t1 t2 n) (zhp n xs) 28 6 = .inr (4, [.ref (a 0), .ref (a 37), .ref (a 38), .ref (a 80), .ref (a 81), .ref (a 82), .ref (a 83), .int 0]) := cz_obj rfl rfl rfl
theorem cw_28_7 (K : Kk) (h : Nat) (a : Nat → Nat) (h2 : Nat) (a2 : Nat → Nat) (b t1 t2 n : Nat) (xs : Nat → Int32) : cellOf (gW K h a h2 a2 b t1 t2 n) (zhp n xs) 28 7 = .inr (4, [.ref (a 0), .ref (a 37), .ref (a 38), .ref (a 85), .ref (a 86), .ref (a 87), .ref (a 88), .int 0]) := cz_obj rfl rfl rfl
theorem cw_29_0 (K : Kk) (h : Nat) (a : Nat → Nat) (h2 : Nat) (a2 : Nat → Nat) (b t1 t2 n : Nat) (xs : Nat → Int32) : cellOf (gW K h a h2 a2 b t1 t2 n) (zhp n xs) 29 0 = .inl (K.2.1, 10, .inl (fun _ => 0)) := cz_int rfl rfl rfl rfl
theorem cw_29_1 (K : Kk) (h : Nat) (a : Nat → Nat) (h2 : Nat) (a2 : Nat → Nat) (b t1 t2 n : Nat) (xs : Nat → Int32) : cellOf (gW K h a h2 a2 b t1 t2 n) (zhp n xs) 29 1 = .inl (K.2.1, 10, .inl (fun _ => 0)) := cz_int rfl rfl rfl rfl
theorem cw_29_2 (K : Kk) (h : Nat) (a : Nat → Nat) (h2 : Nat) (a2 : Nat → Nat) (b t1 t2 n : Nat) (xs : Nat → Int32) : cellOf (gW K h a h2 a2 b t1 t2 n) (zhp n xs) 29 2 = .inl (K.2.1, 10, .inl (fun _ => 0)) := cz_int rfl rfl rfl rfl
theorem cw_29_3 (K : Kk) (h : Nat) (a : Nat → Nat) (h2 : Nat) (a2 : Nat → Nat) (b t1 t2 n : Nat) (xs : Nat → Int32) : cellOf (gW K h a h2 a2 b t1 t2 n) (zhp n xs) 29 3 = .inl (K.2.1, 10, .inl (fun _ => 0)) := cz_int rfl rfl rfl rfl
theorem cw_29_4 (K : Kk) (h : Nat) (a : Nat → Nat) (h2 : Nat) (a2 : Nat → Nat) (b t1 t2 n : Nat) (xs : Nat → Int32) : cellOf (gW K h a h2 a2 b t1 t2 n) (zhp n xs) 29 4 = .inl (K.2.1, 10, .inl (fun _ => 0)) := cz_int rfl rfl rfl rfl
theorem cw_29_5 (K : Kk) (h : Nat) (a : Nat → Nat) (h2 : Nat) (a2 : Nat → Nat) (b t1 t2 n : Nat) (xs : Nat → Int32) : cellOf (gW K h a h2 a2 b t1 t2 n) (zhp n xs) 29 5 = .inl (K.2.1, 10, .inl (fun _ => 0)) := cz_int rfl rfl rfl rfl
theorem cw_29_6 (K : Kk) (h : Nat) (a : Nat → Nat) (h2 : Nat) (a2 : Nat → Nat) (b t1 t2 n : Nat) (xs : Nat → Int32) : cellOf (gW K h a h2 a2 b t1 t2 n) (zhp n xs) 29 6 = .inl (K.2.1, 10, .inl (fun _ => 0)) := cz_int rfl rfl rfl rfl
theorem cw_29_7 (K : Kk) (h : Nat) (a : Nat → Nat) (h2 : Nat) (a2 : Nat → Nat) (b t1 t2 n : Nat) (xs : Nat → Int32) : cellOf (gW K h a h2 a2 b t1 t2 n) (zhp n xs) 29 7 = .inl (K.2.1, 10, .inl (fun _ => 0)) := cz_int rfl rfl rfl rfl
theorem cw_30_0 (K : Kk) (h : Nat) (a : Nat → Nat) (h2 : Nat) (a2 : Nat → Nat) (b t1 t2 n : Nat) (xs : Nat → Int32) : cellOf (gW K h a h2 a2 b t1 t2 n) (zhp n xs) 30 0 = .inl (K.2.1, 10, .inl (fun _ => 0)) := cz_int rfl rfl rfl rfl
theorem cw_30_1 (K : Kk) (h : Nat) (a : Nat → Nat) (h2 : Nat) (a2 : Nat → Nat) (b t1 t2 n : Nat) (xs : Nat → Int32) : cellOf (gW K h a h2 a2 b t1 t2 n) (zhp n xs) 30 1 = .inl (K.2.1, 10, .inl (fun _ => 0)) := cz_int rfl rfl rfl rfl
theorem cw_30_2 (K : Kk) (h : Nat) (a : Nat → Nat) (h2 : Nat) (a2 : Nat → Nat) (b t1 t2 n : Nat) (xs : Nat → Int32) : cellOf (gW K h a h2 a2 b t1 t2 n) (zhp n xs) 30 2 = .inl (K.2.1, 10, .inl (fun _ => 0)) := cz_int rfl rfl rfl rfl
theorem cw_30_3 (K : Kk) (h : Nat) (a : Nat → Nat) (h2 : Nat) (a2 : Nat → Nat) (b t1 t2 n : Nat) (xs : Nat → Int32) : cellOf (gW K h a h2 a2 b t1 t2 n) (zhp n xs) 30 3 = .inl (K.2.1, 10, .inl (fun _ => 0)) := cz_int rfl rfl rfl rfl
theorem cw_30_4 (K : Kk) (h : Nat) (a : Nat → Nat) (h2 : Nat) (a2 : Nat → Nat) (b t1 t2 n : Nat) (xs : Nat → Int32) : cellOf (gW K h a h2 a2 b t1 t2 n) (zhp n xs) 30 4 = .inl (K.2.1, 10, .inl (fun _ => 0)) := cz_int rfl rfl rfl rfl
theorem cw_30_5 (K : Kk) (h : Nat) (a : Nat → Nat) (h2 : Nat) (a2 : Nat → Nat) (b t1 t2 n : Nat) (xs : Nat → Int32) : cellOf (gW K h a h2 a2 b t1 t2 n) (zhp n xs) 30 5 = .inl (K.2.1, 10, .inl (fun _ => 0)) := cz_int rfl rfl rfl rfl
theorem cw_30_6 (K : Kk) (h : Nat) (a : Nat → Nat) (h2 : Nat) (a2 : Nat → Nat) (b t1 t2 n : Nat) (xs : Nat → Int32) : cellOf (gW K h a h2 a2 b t1 t2 n) (zhp n xs) 30 6 = .inl (K.2.1, 10, .inl (fun _ => 0)) := cz_int rfl rfl rfl rfl
theorem cw_30_7 (K : Kk) (h : Nat) (a : Nat → Nat) (h2 : Nat) (a2 : Nat → Nat) (b t1 t2 n : Nat) (xs : Nat → Int32) : cellOf (gW K h a h2 a2 b t1 t2 n) (zhp n xs) 30 7 = .inl (K.2.1, 10, .inl (fun _ => 0)) := cz_int rfl rfl rfl rfl
theorem cw_31_0 (K : Kk) (h : Nat) (a : Nat → Nat) (h2 : Nat) (a2 : Nat → Nat) (b t1 t2 n : Nat) (xs : Nat → Int32) : cellOf (gW K h a h2 a2 b t1 t2 n) (zhp n xs) 31 0 = .inl (K.2.1, 10, .inl (fun _ => 0)) := cz_int rfl rfl rfl rfl
theorem cw_31_1 (K : Kk) (h : Nat) (a : Nat → Nat) (h2 : Nat) (a2 : Nat → Nat) (b t1 t2 n : Nat) (xs : Nat → Int32) : cellOf (gW K h a h2 a2 b t1 t2 n) (zhp n xs) 31 1 = .inl (K.2.1, 10, .inl (fun _ => 0)) := cz_int rfl rfl rfl rfl
theorem cw_31_2 (K : Kk) (h : Nat) (a : Nat → Nat) (h2 : Nat) (a2 : Nat → Nat) (b t1 t2 n : Nat) (xs : Nat → Int32) : cellOf (gW K h a h2 a2 b t1 t2 n) (zhp n xs) 31 2 = .inl (K.2.1, 10, .inl (fun _ => 0)) := cz_int rfl rfl rfl rfl
theorem cw_31_3 (K : Kk) (h : Nat) (a : Nat → Nat) (h2 : Nat) (a2 : Nat → Nat) (b t1 t2 n : Nat) (xs : Nat → Int32) : cellOf (gW K h a h2 a2 b t1 t2 n) (zhp n xs) 31 3 = .inl (K.2.1, 10, .inl (fun _ => 0)) := cz_int rfl rfl rfl rfl
theorem cw_31_4 (K : Kk) (h : Nat) (a : Nat → Nat) (h2 : Nat) (a2 : Nat → Nat) (b t1 t2 n : Nat) (xs : Nat → Int32) : cellOf (gW K h a h2 a2 b t1 t2 n) (zhp n xs) 31 4 = .inl (K.2.1, 10, .inl (fun _ => 0)) := cz_int rfl rfl rfl rfl
theorem cw_31_5 (K : Kk) (h : Nat) (a : Nat → Nat) (h2 : Nat) (a2 : Nat → Nat) (b t1 t2 n : Nat) (xs : Nat → Int32) : cellOf (gW K h a h2 a2 b t1 t2 n) (zhp n xs) 31 5 = .inl (K.2.1, 10, .inl (fun _ => 0)) := cz_int rfl rfl rfl rfl
theorem cw_31_6 (K : Kk) (h : Nat) (a : Nat → Nat) (h2 : Nat) (a2 : Nat → Nat) (b t1 t2 n : Nat) (xs : Nat → Int32) : cellOf (gW K h a h2 a2 b t1 t2 n) (zhp n xs) 31 6 = .inl (K.2.1, 10, .inl (fun _ => 0)) := cz_int rfl rfl rfl rfl
theorem cw_31_7 (K : Kk) (h : Nat) (a : Nat → Nat) (h2 : Nat) (a2 : Nat → Nat) (b t1 t2 n : Nat) (xs : Nat → Int32) : cellOf (gW K h a h2 a2 b t1 t2 n) (zhp n xs) 31 7 = .inl (K.2.1, 10, .inl (fun _ => 0)) := cz_int rfl rfl rfl rfl
theorem cw_32_0 (K : Kk) (h : Nat) (a : Nat → Nat) (h2 : Nat) (a2 : Nat → Nat) (b t1 t2 n : Nat) (xs : Nat → Int32) : cellOf (gW K h a h2 a2 b t1 t2 n) (zhp n xs) 32 0 = .inl (K.2.1, 10, .inl (fun _ => 0)) := cz_int rfl rfl rfl rfl
theorem cw_32_1 (K : Kk) (h : Nat) (a : Nat → Nat) (h2 : Nat) (a2 : Nat → Nat) (b t1 t2 n : Nat) (xs : Nat → Int32) : cellOf (gW K h a h2 a2 b t1 t2 n) (zhp n xs) 32 1 = .inl (K.2.1, 10, .inl (fun _ => 0)) := cz_int rfl rfl rfl rfl
theorem cw_32_2 (K : Kk) (h : Nat) (a : Nat → Nat) (h2 : Nat) (a2 : Nat → Nat) (b t1 t2 n : Nat) (xs : Nat → Int32) : cellOf (gW K h a h2 a2 b t1 t2 n) (zhp n xs) 32 2 = .inl (K.2.1, 10, .inl (fun _ => 0)) := cz_int rfl rfl rfl rfl
theorem cw_32_3 (K : Kk) (h : Nat) (a : Nat → Nat) (h2 : Nat) (a2 : Nat → Nat) (b t1 t2 n : Nat) (xs : Nat → Int32) : cellOf (gW K h a h2 a2 b t1 t2 n) (zhp n xs) 32 3 = .inl (K.2.1, 10, .inl (fun _ => 0)) := cz_int rfl rfl rfl rfl
theorem cw_32_4 (K : Kk) (h : Nat) (a : Nat → Nat) (h2 : Nat) (a2 : Nat → Nat) (b t1 t2 n : Nat) (xs : Nat → Int32) : cellOf (gW K h a h2 a2 b t1 t2 n) (zhp n xs) 32 4 = .inl (K.2.1, 10, .inl (fun _ => 0)) := cz_int rfl rfl rfl rfl
theorem cw_32_5 (K : Kk) (h : Nat) (a : Nat → Nat) (h2 : Nat) (a2 : Nat → Nat) (b t1 t2 n : Nat) (xs : Nat → Int32) : cellOf (gW K h a h2 a2 b t1 t2 n) (zhp n xs) 32 5 = .inl (K.2.1, 10, .inl (fun _ => 0)) := cz_int rfl rfl rfl rfl
theorem cw_32_6 (K : Kk) (h : Nat) (a : Nat → Nat) (h2 : Nat) (a2 : Nat → Nat) (b t1 t2 n : Nat) (xs : Nat → Int32) : cellOf (gW K h a h2 a2 b t1 t2 n) (zhp n xs) 32 6 = .inl (K.2.1, 10, .inl (fun _ => 0)) := cz_int rfl rfl rfl rfl
theorem cw_32_7 (K : Kk) (h : Nat) (a : Nat → Nat) (h2 : Nat) (a2 : Nat → Nat) (b t1 t2 n : Nat) (xs : Nat → Int32) : cellOf (gW K h a h2 a2 b t1 t2 n) (zhp n xs) 32 7 = .inl (K.2.1, 10, .inl (fun _ => 0)) := cz_int rfl rfl rfl rfl
theorem cw_33_0 (K : Kk) (h : Nat) (a : Nat → Nat) (h2 : Nat) (a2 : Nat → Nat) (b t1 t2 n : Nat) (xs : Nat → Int32) : cellOf (gW K h a h2 a2 b t1 t2 n) (zhp n xs) 33 0 = .inl (K.2.1, 7, .inl (fun _ => 0)) := cz_int rfl rfl rfl rfl
theorem cw_34_0 (K : Kk) (h : Nat) (a : Nat → Nat) (h2 : Nat) (a2 : Nat → Nat) (b t1 t2 n : Nat) (xs : Nat → Int32) : cellOf (gW K h a h2 a2 b t1 t2 n) (zhp n xs) 34 0 = .inr (11, [.ref (a2 0), .ref (a2 1), .ref (a2 2), .ref (a2 3), .int 0, .ref (a2 4), .ref (a2 5), .int 0, .int 0, .ref (a2 6), .ref (a2 7), .ref (a2 8), .ref (a2 9), .ref (a2 10), .int 0, .int 0, .ref (a2 11), .int 0, .int 0, .int 0, .ref (a2 12), .ref (a2 13), .ref (a2 14), .ref (a2 15), .ref (a2 16)]) := cz_obj rfl rfl rfl
theorem cw_35_0 (K : Kk) (h : Nat) (a : Nat → Nat) (h2 : Nat) (a2 : Nat → Nat) (b t1 t2 n : Nat) (xs : Nat → Int32) : cellOf (gW K h a h2 a2 b t1 t2 n) (zhp n xs) 35 0 = .inl (K.2.1, 7, .inl (fun _ => 0)) := cz_int rfl rfl rfl rfl
theorem cw_36_0 (K : Kk) (h : Nat) (a : Nat → Nat) (h2 : Nat) (a2 : Nat → Nat) (b t1 t2 n : Nat) (xs : Nat → Int32) : cellOf (gW K h a h2 a2 b t1 t2 n) (zhp n xs) 36 0 = .inl (K.2.1, 123, .inl (upd (upd (upd (fun _ => 0) 0 (n32 4)) 7 (n32 720)) 9 (n32 240))) := cz_fn rfl rfl rfl rfl zs0_eq
theorem cw_37_0 (K : Kk) (h : Nat) (a : Nat → Nat) (h2 : Nat) (a2 : Nat → Nat) (b t1 t2 n : Nat) (xs : Nat → Int32) : cellOf (gW K h a h2 a2 b t1 t2 n) (zhp n xs) 37 0 = .inl (K.2.1, 123, .inl (fun _ => 0)) := cz_int rfl rfl rfl rfl
theorem cw_38_0 (K : Kk) (h : Nat) (a : Nat → Nat) (h2 : Nat) (a2 : Nat → Nat) (b t1 t2 n : Nat) (xs : Nat → Int32) : cellOf (gW K h a h2 a2 b t1 t2 n) (zhp n xs) 38 0 = .inl (K.2.1, 123, .inl (fun _ => 0)) := cz_int rfl rfl rfl rfl
theorem cw_39_0 (K : Kk) (h : Nat) (a : Nat → Nat) (h2 : Nat) (a2 : Nat → Nat) (b t1 t2 n : Nat) (xs : Nat → Int32) : cellOf (gW K h a h2 a2 b t1 t2 n) (zhp n xs) 39 0 = .inl (K.2.1, 64, .inl (fun _ => 0)) := cz_int rfl rfl rfl rfl
theorem cw_40_0 (K : Kk) (h : Nat) (a : Nat → Nat) (h2 : Nat) (a2 : Nat → Nat) (b t1 t2 n : Nat) (xs : Nat → Int32) : cellOf (gW K h a h2 a2 b t1 t2 n) (zhp n xs) 40 0 = .inl (K.2.1, 4, .inl (fun _ => 0)) := cz_int rfl rfl rfl rfl
theorem cw_41_0 (K : Kk) (h : Nat) (a : Nat → Nat) (h2 : Nat) (a2 : Nat → Nat) (b t1 t2 n : Nat) (xs : Nat → Int32) : cellOf (gW K h a h2 a2 b t1 t2 n) (zhp n xs) 41 0 = .inl (K.2.1, 10, .inl (fun _ => 0)) := cz_int rfl rfl rfl rfl
theorem cw_42_0 (K : Kk) (h : Nat) (a : Nat → Nat) (h2 : Nat) (a2 : Nat → Nat) (b t1 t2 n : Nat) (xs : Nat → Int32) : cellOf (gW K h a h2 a2 b t1 t2 n) (zhp n xs) 42 0 = .inl (K.2.2.1, 10, .inl (fun _ => 0)) := cz_bool rfl rfl rfl rfl
theorem cw_43_0 (K : Kk) (h : Nat) (a : Nat → Nat) (h2 : Nat) (a2 : Nat → Nat) (b t1 t2 n : Nat) (xs : Nat → Int32) : cellOf (gW K h a h2 a2 b t1 t2 n) (zhp n xs) 43 0 = .inl (K.2.1, 11, .inl (fun _ => 0)) := cz_int rfl rfl rfl rfl
theorem cw_44_0 (K : Kk) (h : Nat) (a : Nat → Nat) (h2 : Nat) (a2 : Nat → Nat) (b t1 t2 n : Nat) (xs : Nat → Int32) : cellOf (gW K h a h2 a2 b t1 t2 n) (zhp n xs) 44 0 = .inl (K.2.1, 10, .inl (fun _ => 0)) := cz_int rfl rfl rfl rfl
theorem cw_45_0 (K : Kk) (h : Nat) (a : Nat → Nat) (h2 : Nat) (a2 : Nat → Nat) (b t1 t2 n : Nat) (xs : Nat → Int32) : cellOf (gW K h a h2 a2 b t1 t2 n) (zhp n xs) 45 0 = .inl (K.2.1, 10, .inl (fun _ => 0)) := cz_int rfl rfl rfl rfl
theorem cw_46_0 (K : Kk) (h : Nat) (a : Nat → Nat) (h2 : Nat) (a2 : Nat → Nat) (b t1 t2 n : Nat) (xs : Nat → Int32) : cellOf (gW K h a h2 a2 b t1 t2 n) (zhp n xs) 46 0 = .inl (K.2.1, 100, .inl (fun _ => 0)) := cz_int rfl rfl rfl rfl
theorem cw_47_0 (K : Kk) (h : Nat) (a : Nat → Nat) (h2 : Nat) (a2 : Nat → Nat) (b t1 t2 n : Nat) (xs : Nat → Int32) : cellOf (gW K h a h2 a2 b t1 t2 n) (zhp n xs) 47 0 = .inl (K.2.1, 8, .inl (fun _ => 0)) := cz_int rfl rfl rfl rfl
theorem cw_48_0 (K : Kk) (h : Nat) (a : Nat → Nat) (h2 : Nat) (a2 : Nat → Nat) (b t1 t2 n : Nat) (xs : Nat → Int32) : cellOf (gW K h a h2 a2 b t1 t2 n) (zhp n xs) 48 0 = .inl (K.2.1, 10, .inl (fun _ => 0)) := cz_int rfl rfl rfl rfl
theorem cw_49_0 (K : Kk) (h : Nat) (a : Nat → Nat) (h2 : Nat) (a2 : Nat → Nat) (b t1 t2 n : Nat) (xs : Nat → Int32) : cellOf (gW K h a h2 a2 b t1 t2 n) (zhp n xs) 49 0 = .inl (K.2.1, 10, .inl (fun _ => 0)) := cz_int rfl rfl rfl rfl
theorem cw_50_0 (K : Kk) (h : Nat) (a : Nat → Nat) (h2 : Nat) (a2 : Nat → Nat) (b t1 t2 n : Nat) (xs : Nat → Int32) : cellOf (gW K h a h2 a2 b t1 t2 n) (zhp n xs) 50 0 = .inl (K.2.1, 10, .inl (fun _ => 0)) := cz_int rfl rfl rfl rfl
theorem cw_51_0 (K : Kk) (h : Nat) (a : Nat → Nat) (h2 : Nat) (a2 : Nat → Nat) (b t1 t2 n : Nat) (xs : Nat → Int32) : cellOf (gW K h a h2 a2 b t1 t2 n) (zhp n xs) 51 0 = .inl (K.2.1, 10, .inl (fun _ => 0)) := cz_int rfl rfl rfl rfl
