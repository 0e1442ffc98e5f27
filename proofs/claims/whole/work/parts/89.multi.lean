/-! ten rows of ten: the one instruction that makes them all -/
def rowC (cI : ClassId) : Cell := arrV cI 10 (fun _ => .int 0)
def topC (cA : ClassId) (o i : Nat) : Cell := arrV cA 10 (fun j => if j < i then .ref (o + 1 + j) else .null)
def rowsS (cA cI : ClassId) (u : State) : Nat → State
  | 0 => u.pushCell (topC cA u.heap.size 0)
  | i + 1 => ((rowsS cA cI u i).pushCell (rowC cI)).setCell u.heap.size (topC cA u.heap.size (i + 1))
theorem topC_next (cA : ClassId) (o i : Nat) : (topC cA o i).setSlot i (.ref (o + 1 + i)) = topC cA o (i + 1) := by
  unfold topC
  rw [arrV_store]
  congr 1
  funext j
  unfold updV
  by_cases h : j = i
  · subst h; simp
  · rw [if_neg h]
    by_cases h2 : j < i
    · show (if j < i then Value.ref (o + 1 + j) else Value.null) = _
      rw [if_pos h2, if_pos (show j < i + 1 by omega)]
    · show (if j < i then Value.ref (o + 1 + j) else Value.null) = _
      rw [if_neg h2, if_neg (show ¬ j < i + 1 by omega)]
theorem rowC_size (cI : ClassId) : (rowC cI).slots.size = 10 := arrV_size _ _ _
theorem topC_size (cA : ClassId) (o i : Nat) : (topC cA o i).slots.size = 10 := arrV_size _ _ _
theorem rowsS_is (cA cI : ClassId) (u : State) : ∀ i, (rowsS cA cI u i).heap.size = u.heap.size + 1 + i ∧ (rowsS cA cI u i).heap[u.heap.size]? = some (topC cA u.heap.size i) ∧ (rowsS cA cI u i).vm = u.vm ∧ (rowsS cA cI u i).slotsUsed = u.slotsUsed + 10 + i * 10 ∧ (∀ q : Nat, q < u.heap.size → (rowsS cA cI u i).heap[q]? = u.heap[q]?) ∧ ∀ j : Nat, j < i → (rowsS cA cI u i).heap[u.heap.size + 1 + j]? = some (rowC cI) := by
  intro i
  induction i with
  | zero =>
    refine ⟨by simp [rowsS], State.heap_pushCell_size _ _, rfl, ?_, fun q hq => State.heap_pushCell_of_lt _ _ hq, fun j hj => absurd hj (Nat.not_lt_zero _)⟩
    have := topC_size cA u.heap.size 0
    simp [rowsS, this]
  | succ i ih =>
    obtain ⟨z1, z2, z3, z4, z5, z6⟩ := ih
    have lt0 : u.heap.size < (rowsS cA cI u i).heap.size := by omega
    have at0 : ((rowsS cA cI u i).pushCell (rowC cI)).heap[u.heap.size]? = some (topC cA u.heap.size i) := (State.heap_pushCell_of_lt _ _ lt0).trans z2
    refine ⟨?_, State.heap_setCell_self at0, ?_, ?_, fun q hq => ?_, fun j hj => ?_⟩
    · simp [rowsS, State.setCell, z1]; omega
    · simp [rowsS, z3]
    · have := rowC_size cI
      simp [rowsS, z4, this]; omega
    · show (((rowsS cA cI u i).pushCell (rowC cI)).setCell u.heap.size _).heap[q]? = _
      have hq2 : q < (rowsS cA cI u i).heap.size := by omega
      rw [State.heap_setCell_other (Nat.ne_of_gt hq), State.heap_pushCell_of_lt _ _ hq2]
      exact z5 q hq
    · show (((rowsS cA cI u i).pushCell (rowC cI)).setCell u.heap.size _).heap[u.heap.size + 1 + j]? = _
      rw [State.heap_setCell_other (show u.heap.size ≠ u.heap.size + 1 + j by omega)]
      by_cases h : j = i
      · subst h
        rw [← z1]
        exact State.heap_pushCell_size _ _
      · have hq2 : u.heap.size + 1 + j < (rowsS cA cI u i).heap.size := by omega
        rw [State.heap_pushCell_of_lt _ _ hq2]
        exact z6 j (by omega)
theorem rowsS_top (cA cI : ClassId) (u : State) (f : JFrame) : ∀ i, rowsS cA cI (u.setTop f) i = (rowsS cA cI u i).setTop f := by
  intro i
  induction i with
  | zero => rfl
  | succ i ih =>
    show ((rowsS cA cI (u.setTop f) i).pushCell (rowC cI)).setCell (u.setTop f).heap.size _ = _
    rw [ih]
    rfl
theorem rowsS_stand {p : Program} {l : Launch} {e : Env} {R : Room} {s : State} {m : MethodId} {args : Array Value} {below : List Frame} {meth : Method} {c : Code} {T : State} {locs : List Loc} {cells slots : Nat} (X : Stand p l e R s m args below meth c T locs cells slots) (cA cI : ClassId) :
    ∀ i, ∃ locs1 : List Loc, (∀ q ∈ locs1, q ∈ locs ∨ q.base = T.heap.size) ∧ Stand p l e R s m args below meth c (rowsS cA cI T i) locs1 (cells + 1 + i) (slots + 10 + i * 10) := by
  intro i
  induction i with
  | zero =>
    have h := X.pushed (topC cA T.heap.size 0)
    rw [topC_size] at h
    exact ⟨locs, fun q hq => Or.inl hq, by simpa [rowsS] using h⟩
  | succ i ih =>
    obtain ⟨locs1, hl, Xi⟩ := ih
    obtain ⟨z1, z2, z3, z4, z5, z6⟩ := rowsS_is cA cI T i
    have lt0 : T.heap.size < (rowsS cA cI T i).heap.size := by omega
    have at0 : ((rowsS cA cI T i).pushCell (rowC cI)).heap[T.heap.size]? = some (topC cA T.heap.size i) := (State.heap_pushCell_of_lt _ _ lt0).trans z2
    have h := (Xi.pushed (rowC cI)).stored at0 i (.ref (T.heap.size + 1 + i))
    rw [topC_next, rowC_size] at h
    refine ⟨locs1 ++ [⟨T.heap.size, i⟩], fun q hq => ?_, ?_⟩
    · rcases List.mem_append.mp hq with h1 | h1
      · exact hl q h1
      · rw [List.mem_singleton.mp h1]; exact Or.inr rfl
    · rw [show slots + 10 + (i + 1) * 10 = slots + 10 + i * 10 + 10 by omega]
      exact h
section RowsWp
variable {E : CtlPost} {e : Env} {d : Bool} {acts : List Action} {s : State}
/-- one array of ten, all at its first value -/
theorem na_ten {cc comp : ClassId} {k : Class} {ty : FieldType} {v : Value} (hk : s.vm.classes[cc]? = some k) (hkind : k.kind = .array comp ty)
    (h1 : ¬ 10 > e.platform.arrayLengthLimit) (h2 : ¬ 10 * componentBytes ty > e.platform.maxHeapBytes) (hf : fits ty v = true) (hv : v.isDefault = true) {Q : Addr → Pre}
    (h3 : s.heap.size < e.platform.maxCells) (h4 : s.slotsUsed + 10 ≤ e.platform.maxSlots) (hq : Q s.heap.size d acts (s.pushCell (arrV cc 10 (fun _ => v)))) :
    wp (Jvm.newArray cc 10 v) Q E e d acts s := by
  rw [← arrV_new] at hq
  have fit : ∀ (i : Nat) (w : Value), (Array.replicate 10 v)[i]? = some w → s.fitsSlot cc .none i w = true := fun i w hw => by
    rw [Array.getElem?_replicate] at hw
    split at hw
    · cases hw
      simp [State.fitsSlot, State.slotType?, hk, hkind, hf]
    · cases hw
  have al : ((Array.replicate 10 v).all (·.isDefault)) = true := by
    rw [Array.all_replicate]
    simp [hv]
  have da : allocActs (Array.replicate 10 v) s.heap.size acts = acts := by
    unfold allocActs
    rw [if_pos al]
  simp only [Jvm.newArray, Jvm.arrayFits, wp_bind', W.ask, W.ite, h1, if_false, wp_pure', W.theClass, hk, hkind, h2, W.alloc, W.stop, Option.some.injEq, exists_eq_left', Array.size_replicate, da]
  rw [if_neg (by omega)]
  exact ⟨h3, h4, fit, hq⟩
theorem mk_row {cI cx : ClassId} {k : Class} (hk : s.vm.classes[cI]? = some k) (hkind : k.kind = .array cx .int) (h1 : ¬ 10 > e.platform.arrayLengthLimit) (h2 : ¬ 10 * componentBytes .int > e.platform.maxHeapBytes)
    (h3 : s.heap.size < e.platform.maxCells) (h4 : s.slotsUsed + 10 ≤ e.platform.maxSlots) {Q : Addr → Pre} (hq : Q s.heap.size d acts (s.pushCell (rowC cI))) :
    wp (Op.multianewarray.make cI [n32 10]) Q E e d acts s := by
  have h0 : ¬ n32 10 < 0 := n32_nn ⟨by omega, by omega⟩
  rw [Op.multianewarray.make]
  simp only [wp_bind', W.ite, h0, if_false, wp_pure', W.theClass, hk, hkind, Option.some.injEq, exists_eq_left']
  exact na_ten hk hkind h1 h2 rfl rfl h3 h4 hq
theorem mk_rows {cA cI cx : ClassId} {k k2 : Class} (hk : s.vm.classes[cA]? = some k) (hkind : k.kind = .array cI (.array .int)) (hk2 : s.vm.classes[cI]? = some k2) (hkind2 : k2.kind = .array cx .int)
    (h1 : ¬ 10 > e.platform.arrayLengthLimit) (h2 : ¬ 40 > e.platform.maxHeapBytes) (h3 : s.heap.size + 11 ≤ e.platform.maxCells) (h4 : s.slotsUsed + 110 ≤ e.platform.maxSlots)
    {Q : Addr → Pre} (hq : ∀ d' acts', Q s.heap.size d' acts' (rowsS cA cI s 10)) : wp (Op.multianewarray.make cA [n32 10, n32 10]) Q E e d acts s := by
  have h0 : ¬ n32 10 < 0 := n32_nn ⟨by omega, by omega⟩
  have hf : ([n32 10].find? (· < 0)) = none := by simp [h0]
  rw [Op.multianewarray.make]
  simp only [wp_bind', W.ite, h0, if_false, wp_pure', W.theClass, hk, hkind, Option.some.injEq, exists_eq_left']
  refine na_ten hk hkind h1 h2 rfl rfl (by omega) (by omega) ?_
  simp only [hf]
  rw [ite_self, wp_bind', Std.Legacy.Range.forIn_eq_forIn_range']
  show wp (forIn (List.range' 0 10 1) PUnit.unit _) _ E e d acts _
  refine wp_forIn_inv (fun rest s' => ∃ i, i ≤ 10 ∧ rest = List.range' i (10 - i) ∧ s' = rowsS cA cI s i) _ _ ⟨0, Nat.zero_le _, rfl, by simp [rowsS, topC]⟩ ?_ ?_
  · rintro x rest s' d' acts' Q' ⟨i, hi, hl, rfl⟩ nx
    obtain ⟨z1, z2, z3, z4, z5, z6⟩ := rowsS_is cA cI s i
    have lt : i < 10 := by
      apply Nat.lt_of_not_le
      intro q
      rw [show 10 - i = 0 by omega] at hl
      cases hl
    rw [show 10 - i = (10 - (i + 1)) + 1 by omega, List.range'_succ] at hl
    obtain ⟨rfl, hrest⟩ := List.cons.inj hl
    simp only [wp_bind']
    refine mk_row (by rw [z3]; exact hk2) hkind2 h1 h2 (by omega) (by omega) ?_
    have lt0 : s.heap.size < (rowsS cA cI s x).heap.size := by omega
    simp only [wp_bind', W.writeLoc, wp_pure']
    refine ⟨topC cA s.heap.size x, (State.heap_pushCell_of_lt _ _ lt0).trans z2, by simp [topC, arrV], by rw [topC_size]; exact lt, ?_, nx _ _ _ ⟨x + 1, lt, hrest, ?_⟩⟩
    · simp [topC, arrV, State.fitsSlot, State.slotType?, z3, hk, hkind]
      rfl
    · rw [z1, topC_next]
      rfl
  · rintro s' d' acts' ⟨i, hi, hl, rfl⟩
    have e10 : i = 10 := by
      rcases Nat.lt_or_ge i 10 with h | h
      · rw [show 10 - i = (10 - (i + 1)) + 1 by omega, List.range'_succ] at hl; cases hl
      · omega
    subst e10
    simp only [wp_pure']
    exact hq _ _
end RowsWp
