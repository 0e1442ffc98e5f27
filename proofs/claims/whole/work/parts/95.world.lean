/-! the cells that were made, in one picture -/
def adW (h : Nat) (a : Nat → Nat) (h2 : Nat) (a2 : Nat → Nat) (b t1 t2 : Nat) : Nat → Nat → Nat := fun g i => ([fun _ => h, fun i => [a 0, a 11, a 25].getD i 0, fun i => [a 1, a 12, a 26].getD i 0, fun i => [a 2, a 13, a 27].getD i 0, fun i => [a 3, a 14, a 28].getD i 0, fun i => [a 4, a 15, a 29].getD i 0, fun i => [a 5, a 16, a 30].getD i 0, fun i => [a 6, a 17, a 31].getD i 0, fun i => [a 7, a 18, a 32].getD i 0, fun i => [a 8, a 19, a 33].getD i 0, fun i => [a 9, a 20, a 34].getD i 0, fun i => [a 10, a 21, a 35].getD i 0, fun _ => a 22, fun _ => a 23, fun _ => a 24, fun _ => a 36, fun _ => a 37, fun _ => a 38, fun _ => a 39, fun _ => a 40, fun _ => a 41, fun i => a 41 + 1 + i, fun _ => a 42, fun _ => a 43, fun _ => a 44, fun _ => a 45, fun _ => a 46, fun _ => a 47, fun i => a (49 + 5 * i), fun i => a (50 + 5 * i), fun i => a (51 + 5 * i), fun i => a (52 + 5 * i), fun i => a (53 + 5 * i), fun _ => a 48, fun _ => h2, fun _ => a2 0, fun _ => a2 1, fun _ => a2 2, fun _ => a2 3, fun _ => a2 4, fun _ => a2 5, fun _ => a2 6, fun _ => a2 7, fun _ => a2 8, fun _ => a2 9, fun _ => a2 10, fun _ => a2 11, fun _ => a2 12, fun _ => a2 13, fun _ => a2 14, fun _ => a2 15, fun _ => a2 16, fun _ => 0, fun _ => 0, fun _ => 0, fun _ => 0, fun _ => 0, fun _ => 0, fun _ => 0, fun _ => 0, fun _ => b, fun _ => t1, fun _ => t2] : List (Nat → Nat)).getD g (fun _ => 0) i
def cgW (K : Kk) (g : Nat) : ClassId := if g = 20 then K.2.2.2.1 else if g = 27 then K.2.2.2.2 else if g = 42 then K.2.2.1 else K.2.1
def gW (K : Kk) (h : Nat) (a : Nat → Nat) (h2 : Nat) (a2 : Nat → Nat) (b t1 t2 n : Nat) : Gw := (adW h a h2 a2 b t1 t2, K.1, cgW K, n)
theorem n32_0 : n32 0 = 0 := by decide +kernel
theorem cz_f : (fun _ : Nat => n32 0) = fun _ => 0 := funext (fun _ => n32_0)
theorem cz_int {G : Gw} {σ : Hp} {g i N : Nat} {cI : ClassId} (hk : (shp g).1 = 0) (hN : (shp g).2.2.1 = N) (hc : G.2.2.1 g = cI) (hz : σ g i = fun _ => 0) : cellOf G σ g i = .inl (cI, N, .inl (fun _ => 0)) := by
  rw [cell_int hk, hN, hc, hz, ← cz_f]
theorem cz_bool {G : Gw} {σ : Hp} {g i N : Nat} {cI : ClassId} (hk : (shp g).1 = 1) (hN : (shp g).2.2.1 = N) (hc : G.2.2.1 g = cI) (hz : σ g i = fun _ => 0) : cellOf G σ g i = .inl (cI, N, .inl (fun _ => 0)) := by
  rw [cell_bool hk, hN, hc, hz, ← cz_f]
theorem cz_fn {G : Gw} {σ : Hp} {g i N : Nat} {cI : ClassId} {f : Nat → Int32} {z : Nat → Int} (hk : (shp g).1 = 0) (hN : (shp g).2.2.1 = N) (hc : G.2.2.1 g = cI) (hz : σ g i = z) (hf : f = fun j => n32 (z j)) : cellOf G σ g i = .inl (cI, N, .inl f) := by
  rw [cell_int hk, hN, hc, hz, hf]
def fv0 (ad : Nat → Nat → Nat) (i : Nat) (f : Nat × Nat × Nat) : Value := match f.1 with
  | 0 => .int 0
  | 1 => .int 0
  | 2 => .ref (ad f.2.1 f.2.2)
  | _ => .ref (ad f.2.1 i)
theorem mapIdx_c {α β : Type} (l : List α) (h : α → β) : l.mapIdx (fun _ f => h f) = l.map h := by
  apply List.ext_getElem?
  intro n
  simp
theorem cz_obj {G : Gw} {σ : Hp} {g i ci : Nat} {fs : List Value} (hk : (shp g).1 = ci + 3) (hz : σ g i = fun _ => 0) (hf : (shp g).2.2.2.map (fv0 G.1 i) = fs) : cellOf G σ g i = .inr (ci, fs) := by
  rw [cell_obj hk, ← hf]
  have e : (fun k f => fval G.1 σ g i k f) = fun _ f => fv0 G.1 i f := by
    funext k f
    obtain ⟨x, y⟩ := f
    unfold fval fv0
    rw [hz]
    rcases x with _ | _ | _ | x
    · exact congrArg Value.int n32_0
    · exact congrArg Value.int n32_0
    · rfl
    · rfl
  unfold fvals
  rw [e, mapIdx_c]
theorem zc_0 : n32 (zco 0) = n32 4 := by rw [show zco 0 = 4 from rfl]
theorem zc_k {k : Nat} (h : k ≠ 0) : n32 (zco k) = 0 := by
  unfold zco
  rw [if_neg h]
  exact n32_0
theorem cz_town {G : Gw} {σ : Hp} {i : Nat} {fs : List Value} (hz : σ 1 i = zco) (hf : (shp 1).2.2.2.tail.map (fv0 G.1 i) = fs) : cellOf G σ 1 i = .inr (6, .int (n32 4) :: fs) := by
  rw [cell_obj (g := 1) (ci := 6) rfl, ← hf]
  have e0 : (shp 1).2.2.2 = (0, 0, 0) :: (shp 1).2.2.2.tail := rfl
  have e : (fun k f => fval G.1 σ 1 i (k + 1) f) = fun _ f => fv0 G.1 i f := by
    funext k f
    obtain ⟨x, y⟩ := f
    unfold fval fv0
    rw [hz]
    rcases x with _ | _ | _ | x
    · exact congrArg Value.int (zc_k (Nat.succ_ne_zero k))
    · exact congrArg Value.int (zc_k (Nat.succ_ne_zero k))
    · rfl
    · rfl
  have e1 : fval G.1 σ 1 i 0 (0, 0, 0) = .int (n32 4) := by
    show Value.int (n32 (σ 1 i 0)) = _
    rw [hz, zc_0]
  have e2 : fvals G.1 σ 1 i = .int (n32 4) :: (shp 1).2.2.2.tail.map (fv0 G.1 i) := by
    unfold fvals
    rw [e0, List.mapIdx_cons, e1]
    show _ :: List.mapIdx (fun k f => fval G.1 σ 1 i (k + 1) f) _ = _
    rw [e, mapIdx_c]
    rfl
  rw [e2]
theorem zst_eq : (upd (upd (upd (upd (fun _ => 0) 0 (n32 720)) 1 (n32 0)) 2 (n32 240)) 3 (n32 0)) = fun j => n32 (zst j) := by
  funext j
  unfold upd zst
  by_cases h3 : j = 3
  · subst h3; rfl
  · rw [if_neg h3]
    by_cases h2 : j = 2
    · subst h2; rfl
    · rw [if_neg h2]
      by_cases h1 : j = 1
      · subst h1; rfl
      · rw [if_neg h1]
        by_cases h0 : j = 0
        · subst h0; rfl
        · rw [if_neg h0, if_neg h0, if_neg h2]; rfl
theorem zs0_eq : (upd (upd (upd (fun _ => 0) 0 (n32 4)) 7 (n32 720)) 9 (n32 240)) = fun j => n32 (zs0 j) := by
  funext j
  unfold upd zs0
  by_cases h9 : j = 9
  · subst h9; rfl
  · rw [if_neg h9]
    by_cases h7 : j = 7
    · subst h7; rfl
    · rw [if_neg h7]
      by_cases h0 : j = 0
      · subst h0; rfl
      · rw [if_neg h0, if_neg h0, if_neg h7, if_neg h9]; rfl
theorem roads_up (r : Nat → Nat) : (va_up (va_up (va_up (va_up (va_up (va_up (va_up (va_up (fun _ => none) 0 (some (r 0))) 1 (some (r 1))) 2 (some (r 2))) 3 (some (r 3))) 4 (some (r 4))) 5 (some (r 5))) 6 (some (r 6))) 7 (some (r 7))) = fun j => if j < 8 then some (r j) else none := by
  funext j
  unfold va_up
  by_cases h : j < 8
  · rw [if_pos h]
    have : j = 0 ∨ j = 1 ∨ j = 2 ∨ j = 3 ∨ j = 4 ∨ j = 5 ∨ j = 6 ∨ j = 7 := by omega
    rcases this with rfl | rfl | rfl | rfl | rfl | rfl | rfl | rfl <;> rfl
  · rw [if_neg h]
    rw [if_neg (show ¬ j = 7 by omega), if_neg (show ¬ j = 6 by omega), if_neg (show ¬ j = 5 by omega), if_neg (show ¬ j = 4 by omega), if_neg (show ¬ j = 3 by omega), if_neg (show ¬ j = 2 by omega), if_neg (show ¬ j = 1 by omega), if_neg (show ¬ j = 0 by omega)]
