set_option maxRecDepth 100000 in
set_option maxHeartbeats 4000000 in
theorem ieW (K : Kk) (h : Nat) (a : Nat → Nat) (h2 : Nat) (a2 : Nat → Nat) : isW.map (fun i => (wX10 K h a ++ wX11 K h2 a2)[i]?) = (exW K h a h2 a2).map some := rfl
theorem ndW : va_nd isW = true := by decide +kernel
theorem fm_of {α : Type} {l : List Nat} {f : Nat → Option α} {w : List α} (h : l.map f = w.map some) : l.filterMap f = w := by
  have h1 : l.filterMap f = (l.map f).filterMap id := by rw [List.filterMap_map]; rfl
  rw [h1, h, List.filterMap_map]
  exact List.filterMap_some
theorem tyW (K : Kk) (h : Nat) (a : Nat → Nat) (h2 : Nat) (a2 : Nat → Nat) (b t1 t2 n : Nat) : ([0, 0, 0, 0, 0, 0, 0, 0, 0, 0, 0, 0, 0, 2, 0, 0, 0, 3, 0, 0, 0, 0, 0, 0, 0, 0, 0, 0, 0, 0, 1, 0, 0, 0, 0, 0, 0, 0, 0, 0] : List Nat).filterMap (fun i => (tyK K)[i]?) = tysOf (gW K h a h2 a2 b t1 t2 n) := rfl
