/-- the rows in a heap -/
def rowsW (K : Kk) (o : Nat) : va_W := (o, .inl (K.2.2.2.1, 10, .inr (.inr (.inr (.inr (fun j => if j < 10 then some (o + 1 + j) else none)))))) :: (List.range 10).map (fun j => (o + 1 + j, .inl (K.2.1, 10, .inl (fun _ => 0))))
theorem topC_as (cA : ClassId) (o : Nat) : vp_cell cA (10, .inr (.inr (.inr (.inr (fun j => if j < 10 then some (o + 1 + j) else none))))) = topC cA o 10 := by
  rw [vp_cell_q]
  unfold topC
  have : (fun j => va_rf (if j < 10 then some (o + 1 + j) else none)) = fun j => if j < 10 then Value.ref (o + 1 + j) else .null := by
    funext j
    split <;> rfl
  rw [this]
theorem rows_at {K : Kk} {o : Nat} {H : Heap} (h1 : H[o]? = some (topC K.2.2.2.1 o 10)) (h2 : ∀ j : Nat, j < 10 → H[o + 1 + j]? = some (rowC K.2.1)) : ∀ (k : Nat) (x : Nat × va_E), (rowsW K o)[k]? = some x → x.1 = o + k ∧ va_at K.1 clsL x H := by
  intro k x hx
  unfold rowsW at hx
  cases k with
  | zero =>
    have hx2 := Option.some.inj hx
    subst hx2
    exact ⟨rfl, h1.trans (congrArg some (topC_as _ _).symm)⟩
  | succ n =>
    rw [List.getElem?_cons_succ, List.getElem?_map] at hx
    by_cases hn : n < 10
    · rw [List.getElem?_range hn] at hx
      have hx2 := Option.some.inj hx
      subst hx2
      exact ⟨Nat.add_right_comm o 1 n, h2 n hn⟩
    · rw [List.getElem?_eq_none (by simp; omega)] at hx
      cases hx
/-- ten arrays of ten, and the array of them -/
theorem k_multi {p : Program} {l : Launch} {e : Env} {R : Room} {s : State} {m : MethodId} {args : Array Value} {below : List Frame} {meth : Method} {c : Code} {H : Heap} {locs : List Loc} {cells slots : Nat} {Q : State → Prop} {pc : Nat} {ls : Array Slot} {rest : List Value} {A : Nat → Prop} {ws : va_W} {K : Kk} {M : Mt} {d : Nat}
    (C : CK d M K p R s m args c) (hW : WZ K A s H locs ws) {idx : Nat} (hl : Cond.classLink M.1.cls idx "[[I" ∈ gTbl) (hc : cells + 11 ≤ R.cells) (hs : slots + 110 ≤ R.slots) (hd : decode M.2.1 pc = .ok (.multianewarray idx 2, 4))
    (kk : ∀ (q : Nat) (H1 : Heap) (locs1 : List Loc), WZ K A s H1 locs1 (ws ++ rowsW K q) → W p l e R s m args below meth c H1 locs1 (cells + 11) (slots + 110) Q (F0 m (pc + 4) ls (.ref q :: rest))) : W p l e R s m args below meth c H locs cells slots Q (F0 m pc ls (.int (n32 10) :: .int (n32 10) :: rest)) := by
  obtain ⟨hx, hb, hml, hown, hts, hR, hK, hAO, hNW⟩ := C
  obtain ⟨hP, hD, hS, hA⟩ := hW
  intro T hT X
  subst hT
  have hpl : e.platform.magicAccessors = ({} : Platform).magicAccessors := by rw [X.admits.platform]
  obtain ⟨cI, cA, kA, fI, -, hkA, kindA, fA⟩ := arrayOverA_spec (hAO _ (Or.inr rfl))
  obtain ⟨cI2, kI, cx, fI2, hkI, kindI⟩ := Cond.arrayClass_spec (hts _ inAI)
  have eI : cI2 = cI := Option.some.inj (fI2.symm.trans fI)
  subst eI
  have eK1 : K.2.1 = cI2 := Option.some.inj (((hK.2 0 (K.2.1, .int) rfl).2).symm.trans fI2)
  have eK2 : K.2.2.2.1 = cA := Option.some.inj (((hK.2 2 (K.2.2.2.1, .array .int) rfl).2).symm.trans fA)
  obtain ⟨c0, f0, hcl⟩ := Cond.classLink_spec hown (hts _ hl) e.platform hpl
  have e0 : c0 = cA := Option.some.inj (f0.symm.trans fA)
  subst e0
  obtain ⟨hg1, hw1, hr1⟩ := State.classEntry (e := e) X.warmed hcl
  generalize hvm1 : T.vm.noted m.cls idx (.cls c0) = vm1 at hg1 hw1 hr1
  have al : s.vm.Alike vm1 := hw1.alike
  obtain ⟨kA1, hkA1, eA1⟩ := al.2.2 _ _ hkA
  obtain ⟨kI1, hkI1, eI1⟩ := al.2.2 _ _ hkI
  have kindA1 : kA1.kind = .array cI2 (.array .int) := by rw [eA1]; exact kindA
  have kindI1 : kI1.kind = .array cx .int := by rw [eI1]; exact kindI
  have X1 := X.noted hw1
  obtain ⟨r1, r2⟩ := X.roomAbove (by show cells + 11 ≤ R.cells; omega) (by show slots + 110 ≤ R.slots; omega)
  obtain ⟨locs1, hl1, X2⟩ := rowsS_stand X1 c0 cI2 10
  obtain ⟨z1, z2, z3, z4, z5, z6⟩ := rowsS_is c0 cI2 (T.setVm vm1) 10
  generalize hU : rowsS c0 cI2 (T.setVm vm1) 10 = U at X2 z1 z2 z3 z4 z5 z6
  have hold : ∀ q : Nat, q < T.heap.size → U.heap[q]? = T.heap[q]? := z5
  have hk : ∀ (k : Nat) (x : Nat × va_E), ws[k]? = some x → U.heap[x.1]? = T.heap[x.1]? := fun k x hx => hold x.1 ((hP k x hx).lt)
  have hA0 : ∀ i : Nat, A (T.heap.size + i) := fun i => hA _ (Nat.le_trans hS.1 (Nat.le_add_right _ _))
  have at1 := rows_at (K := K) (o := T.heap.size) (H := U.heap) (by rw [eK2]; exact z2) (by rw [eK1]; exact z6)
  have hW2 : WZ K A s U.heap locs1 (ws ++ rowsW K T.heap.size) := by
    refine ⟨(hP.kept hk).app (fun k x hx => (at1 k x hx).2), va_D.app hD ⟨fun i j x y hi hj hxy => ?_, fun k x hx => ?_⟩ (fun i j x y hi hj hxy => ?_), ⟨?_, fun q h1 h2 => ?_, fun q hq => ?_⟩, hA⟩
    · have := (at1 i x hi).1
      have := (at1 j y hj).1
      omega
    · rw [(at1 k x hx).1]; exact hA0 k
    · have h1 := (hP i x hi).lt
      have h2 := (at1 j y hj).1
      omega
    · have h1 := hS.1
      have h2 : U.heap.size = T.heap.size + 1 + 10 := z1
      omega
    · rw [hold q (Nat.lt_of_lt_of_le h1 hS.1)]
      exact hS.2.1 q h1 h2
    · rcases hl1 q hq with h1 | h1
      · exact hS.2.2 q h1
      · rw [h1]; exact hA0 0
  obtain ⟨t, a1, b1⟩ := kk T.heap.size _ locs1 hW2 U rfl X2
  refine ⟨t, ?_, b1⟩
  have l1 : ¬ 10 > e.platform.arrayLengthLimit := by rw [Launch.admits_arrayLengthLimit X.admits]; omega
  have l2 : ¬ 10 * componentBytes .int > e.platform.maxHeapBytes := by rw [Launch.admits_maxHeapBytes X.admits]; show ¬ 10 * 4 > 536870912; omega
  have l3 : ¬ 40 > e.platform.maxHeapBytes := by rw [Launch.admits_maxHeapBytes X.admits]; omega
  generalize hg : F0 m pc ls (.int (n32 10) :: .int (n32 10) :: rest) = g
  have hgm : g.method = m := by rw [← hg]
  have hgs : g.stack = .int (n32 10) :: .int (n32 10) :: rest := by rw [← hg]
  have hgp : g.pc = pc := by rw [← hg]
  have hdg : decode c.code g.pc = .ok (.multianewarray idx 2, 4) := by rw [hb, hgp]; exact hd
  have hgf : F0 m (pc + 4) ls (.ref T.heap.size :: rest) = { g with pc := g.pc + 4, stack := .ref T.heap.size :: rest } := by rw [← hg]
  rw [hgf] at a1
  subst hgm
  jvm_step X.here [hx, hdg]
  simp only [Op.multianewarray.sem, wp_bind', W.resolveClassAt_links (State.method?_setTop g X.here.top) hg1]
  rw [W.popN, if_neg (by decide)]
  refine ⟨g, State.topJava?_setTop' (s := T.setVm vm1) g X.here.top, [.int (n32 10), .int (n32 10)], rest, rfl, hgs, ?_⟩
  simp only [List.mapM_cons, List.mapM_nil, wp_bind', wp_pure']
  refine mk_rows (k := kA1) (k2 := kI1) (cI := cI2) (cx := cx) hkA1 kindA1 hkI1 kindI1 l1 l3 (by show T.heap.size + 11 ≤ _; omega) (by show T.slotsUsed + 110 ≤ _; omega) (fun d' acts' => ?_)
  have eS : ((T.setTop g).setVm vm1).setTop { g with stack := rest } = (T.setVm vm1).setTop { g with stack := rest } := by
    show ((T.setVm vm1).setTop g).setTop _ = _
    rw [State.setTop_setTop]
  rw [eS, rowsS_top, hU]
  simp only [wp_bind', W.mark, W.pushRef, State.topJava?_setTop' _ X2.here.top, Option.some.injEq, exists_eq_left', State.setTop_setTop, State.heap_setTop]
  intro acts
  simp [jvm, X2.here.top]
  exact a1
