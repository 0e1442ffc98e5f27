/-! the world of all cells, in one picture -/
abbrev Gw : Type := (Nat → Nat → Nat) × va_G × (Nat → ClassId) × Nat
abbrev Mt : Type := MethodName × ByteArray × Nat × Option FieldType × Nat
def cntG (g : Nat) : Nat := (shp g).2.1
def tgtG (g : Nat) : Nat := ((shp g).2.2.2.getD 0 (0, 0, 0)).2.1
def IDX : List (Nat × Nat) := (List.range 52).flatMap (fun g => (List.range (cntG g)).map (fun i => (g, i)))
theorem IDX_mem {g i : Nat} : (g, i) ∈ IDX ↔ g < 52 ∧ i < cntG g := by
  simp [IDX, List.mem_flatMap]
theorem IDX_nodup : va_nd (IDX.map (fun q => q.1 * 100 + q.2)) = true := by decide +kernel
theorem IDX_inj {i j : Nat} {q : Nat × Nat} (h1 : IDX[i]? = some q) (h2 : IDX[j]? = some q) : i = j :=
  va_nd_inj _ IDX_nodup i j (q.1 * 100 + q.2) (by rw [List.getElem?_map, h1]; rfl) (by rw [List.getElem?_map, h2]; rfl)
def fval (ad : Nat → Nat → Nat) (σ : Hp) (g i k : Nat) (f : Nat × Nat × Nat) : Value := match f.1 with
  | 0 => .int (n32 (σ g i k))
  | 1 => .int (n32 (σ g i k))
  | 2 => .ref (ad f.2.1 f.2.2)
  | _ => .ref (ad f.2.1 i)
def fvals (ad : Nat → Nat → Nat) (σ : Hp) (g i : Nat) : List Value := (shp g).2.2.2.mapIdx (fun k f => fval ad σ g i k f)
def cellOf (G : Gw) (σ : Hp) (g i : Nat) : va_E := match (shp g).1 with
  | 0 => .inl (G.2.2.1 g, (shp g).2.2.1, .inl (fun j => n32 (σ g i j)))
  | 1 => .inl (G.2.2.1 g, (shp g).2.2.1, .inl (fun j => n32 (σ g i j)))
  | 2 => .inl (G.2.2.1 g, (shp g).2.2.1, .inr (.inr (.inr (.inr (fun j => if j < (shp g).2.2.1 then some (G.1 (tgtG g) j) else none)))))
  | c + 3 => .inr (c, fvals G.1 σ g i)
def wsOf (G : Gw) (σ : Hp) : va_W := IDX.map (fun q => (G.1 q.1 q.2, cellOf G σ q.1 q.2))
def atyG (g : Nat) : FieldType := match (shp g).1 with
  | 0 => .int
  | 1 => .boolean
  | _ => match (shp (tgtG g)).1 with
    | 0 => .array .int
    | c => .object (clsT (c - 3)).1
def aGs : List Nat := (List.range 52).filter (fun g => decide ((shp g).1 < 3))
def tysOf (G : Gw) : List (ClassId × FieldType) := aGs.map (fun g => (G.2.2.1 g, atyG g))
def AD (G : Gw) : Nat → Prop := fun q => ∃ g i, (g, i) ∈ IDX ∧ q = G.1 g i
theorem kind_lt {g : Nat} (h : (shp g).1 < 40) : g < 52 := by
  by_cases h1 : g < 63
  · have hd : ∀ g, g < 63 → (shp g).1 < 40 → g < 52 := by decide +kernel
    exact hd g h1 h
  · exfalso
    have : shp g = (50, 0, 0, []) := by
      unfold shp
      rw [List.getD_eq_getElem?_getD, List.getElem?_eq_none (by show 63 ≤ g; omega)]
      rfl
    rw [this] at h
    omega
theorem ws_at (G : Gw) (σ : Hp) {g i : Nat} (hg : g < 52) (hi : i < cntG g) : ∃ k : Nat, (wsOf G σ)[k]? = some (G.1 g i, cellOf G σ g i) ∧ IDX[k]? = some (g, i) := by
  obtain ⟨k, hk⟩ := List.getElem?_of_mem (IDX_mem.mpr ⟨hg, hi⟩)
  exact ⟨k, by unfold wsOf; rw [List.getElem?_map, hk]; rfl, hk⟩
theorem ws_set {G : Gw} {σ σ' : Hp} {g i k : Nat} (hk : IDX[k]? = some (g, i)) (h : ∀ g' i', (g', i') ≠ (g, i) → cellOf G σ' g' i' = cellOf G σ g' i') : (wsOf G σ).set k (G.1 g i, cellOf G σ' g i) = wsOf G σ' := by
  apply List.ext_getElem?
  intro j
  by_cases hj : j = k
  · subst hj
    have hl : j < (wsOf G σ).length := by unfold wsOf; rw [List.length_map]; exact (List.getElem?_eq_some_iff.mp hk).1
    rw [List.getElem?_set_self hl]
    unfold wsOf
    rw [List.getElem?_map, hk]
    rfl
  · rw [List.getElem?_set_ne (Ne.symm hj)]
    unfold wsOf
    rw [List.getElem?_map, List.getElem?_map]
    cases hq : IDX[j]? with
    | none => rfl
    | some q =>
      obtain ⟨g', i'⟩ := q
      simp only [Option.map_some]
      rw [h g' i' (fun e => hj (IDX_inj hq (by rw [e]; exact hk)))]
theorem ty_at (G : Gw) {g : Nat} (hg : g < 52) (hk : (shp g).1 < 3) : ∃ k : Nat, (tysOf G)[k]? = some (G.2.2.1 g, atyG g) := by
  have hm : g ∈ aGs := List.mem_filter.mpr ⟨List.mem_range.mpr hg, by simpa using hk⟩
  obtain ⟨k, hk⟩ := List.getElem?_of_mem hm
  exact ⟨k, by unfold tysOf; rw [List.getElem?_map, hk]; rfl⟩
theorem zup_ne {σ : Hp} {g i j : Nat} {v : Int} {g' i' : Nat} (h : (g', i') ≠ (g, i)) : (zup σ g i j v) g' i' = σ g' i' := by
  funext j'
  unfold zup
  rw [if_neg]
  rintro ⟨rfl, rfl, -⟩
  exact h rfl
theorem cell_ne {G : Gw} {σ σ' : Hp} {g i : Nat} (h : σ' g i = σ g i) : cellOf G σ' g i = cellOf G σ g i := by
  unfold cellOf fvals
  rw [h]
  have : (fun k f => fval G.1 σ' g i k f) = (fun k f => fval G.1 σ g i k f) := by
    funext k f
    unfold fval
    rw [h]
  rw [this]
theorem cell_up {G : Gw} {σ : Hp} {g i j : Nat} {v : Int} {g' i' : Nat} (h : (g', i') ≠ (g, i)) : cellOf G (zup σ g i j v) g' i' = cellOf G σ g' i' := cell_ne (zup_ne h)
/-- read only: the script, and two static arrays -/
def RO (G : Gw) (A : Nat → Prop) (σ : Hp) (U : State) : Prop :=
  (va_X (G.1 60 0) G.2.2.2 (fun j => n32 (σ 60 0 j)) U U.heap ∧ G.1 60 0 < U.heap.size ∧ ¬ A (G.1 60 0)) ∧ (σ 60 1 0 = (G.2.2.2 : Int) ∧ G.2.2.2 ≤ 320) ∧
  ∀ g, g = 61 ∨ g = 62 → va_Z RX10 (sNm g) "[I" (.ref (G.1 g 0)) A U U.heap ∧ va_T .int (G.1 g 0) 4 (fun j => .int (n32 (σ g 0 j))) A U U.heap
theorem RO.moved {G : Gw} {A : Nat → Prop} {σ : Hp} {u U : State} (hvm : u.vm.Alike U.vm) (hh : U.heap = u.heap) (h : RO G A σ u) : RO G A σ U := by
  obtain ⟨⟨h1, h2, h3⟩, h4, h5⟩ := h
  unfold RO
  rw [hh]
  exact ⟨⟨h1.moved hvm, h2, h3⟩, h4, fun g hg => ⟨(h5 g hg).1.moved hvm, (h5 g hg).2.moved hvm⟩⟩
theorem RO.same {G : Gw} {A : Nat → Prop} {σ σ' : Hp} {u : State} (h0 : σ' 60 = σ 60) (h1 : σ' 61 = σ 61) (h2 : σ' 62 = σ 62) (h : RO G A σ u) : RO G A σ' u := by
  obtain ⟨⟨h3, h4, h5⟩, h6, h7⟩ := h
  refine ⟨⟨?_, h4, h5⟩, ?_, ?_⟩
  · rw [h0]; exact h3
  · rw [h0]; exact h6
  · intro g hg
    have e : σ' g = σ g := by rcases hg with rfl | rfl <;> assumption
    rw [e]
    exact h7 g hg
/-- into a call: the heap has moved on, but not what is read only -/
theorem RO.kept {G : Gw} {A B : Nat → Prop} {σ : Hp} {s U : State} {H : Heap} {locs : List Loc} (hS : va_S A s.heap H locs) (hU : U.heap = H) (hvm : s.vm.Alike U.vm) (hAB : ∀ q, B q → A q) (h : RO G A σ s) : RO G B σ U := by
  obtain ⟨⟨h1, h2, h3⟩, h4, h5⟩ := h
  subst hU
  refine ⟨⟨(h1.moved hvm).kept (hS.2.1 _ h2 h3), Nat.lt_of_lt_of_le h2 hS.1, fun q => h3 (hAB _ q)⟩, h4, fun g hg => ⟨?_, ?_⟩⟩
  · exact (((h5 g hg).1.moved hvm).kept (fun a h1 h2 => hS.2.1 a h1 h2)).narrow hAB
  · exact (((h5 g hg).2.moved hvm).kept (fun a h1 h2 => hS.2.1 a h1 h2)).narrow hAB
/-- out of a call: the callee's world speaks of its own start -/
theorem RO.out {G : Gw} {A : Nat → Prop} {σ σ' : Hp} {s : State} (h : RO G A σ s) (h0 : ∀ j : Nat, j < G.2.2.2 → n32 (σ' 60 0 j) = n32 (σ 60 0 j)) (h00 : σ' 60 1 0 = σ 60 1 0) (h1 : ∀ g, g = 61 ∨ g = 62 → ∀ j : Nat, j < 4 → n32 (σ' g 0 j) = n32 (σ g 0 j)) : RO G A σ' s := by
  obtain ⟨⟨⟨scr, a1, a2, a3, a4, a5⟩, h4, h5⟩, h6, h7⟩ := h
  refine ⟨⟨⟨scr, a1, a2, a3, a4, fun j hj => (a5 j hj).trans (congrArg (fun z => some (Value.int z)) (h0 j hj).symm)⟩, h4, h5⟩, ⟨by rw [h00]; exact h6.1, h6.2⟩, fun g hg => ⟨(h7 g hg).1, ?_⟩⟩
  obtain ⟨cell, b1, b2, b3, b4, b5, b6, b7⟩ := (h7 g hg).2
  exact ⟨cell, b1, b2, b3, b4, b5, fun j hj => (b6 j hj).trans (congrArg (fun z => some (Value.int z)) (h1 g hg j hj).symm), b7⟩
def okH (σ : Hp) : Prop := ∀ g i j, inR (σ g i j)
theorem okH_up {σ : Hp} {g i j : Nat} {v : Int} (h : okH σ) (hv : inR v) : okH (zup σ g i j v) := by
  intro g' i' j'
  unfold zup
  split
  · exact hv
  · exact h g' i' j'
def okV : AV → Prop
  | .inl z => inR z
  | .inr (.inl q) => q.2 < cntG q.1
  | _ => True
def okVs (L : List AV) : Prop := ∀ v ∈ L, okV v
theorem okVs_cons {v : AV} {L : List AV} (h : okV v) (hL : okVs L) : okVs (v :: L) := fun w hw => by
  rcases List.mem_cons.mp hw with rfl | hw
  · exact h
  · exact hL w hw
theorem okVs_hd {v : AV} {L : List AV} (h : okVs (v :: L)) : okV v := h v List.mem_cons_self
theorem okVs_tl {v : AV} {L : List AV} (h : okVs (v :: L)) : okVs L := fun w hw => h w (List.mem_cons_of_mem _ hw)
theorem okVs_set {L : List AV} {k : Nat} {v : AV} (h : okVs L) (hv : okV v) : okVs (L.set k v) := fun w hw => by
  rcases List.mem_or_eq_of_mem_set hw with q | q
  · exact h w q
  · rw [q]; exact hv
theorem okVs_at {L : List AV} {k : Nat} {v : AV} (h : okVs L) (hk : L[k]? = some v) : okV v := h v (List.mem_of_getElem? hk)
def Wld (G : Gw) (A : Nat → Prop) (σ : Hp) (s : State) (H : Heap) (locs : List Loc) : Prop :=
  va_P G.2.1 clsL (wsOf G σ) H ∧ va_D A (wsOf G σ) ∧ va_S A s.heap H locs ∧ RO G A σ s ∧ okH σ
def NW (s : State) : Prop := ∀ a i x h, Cond.methodLinkNest a i x h ∈ lw_tbl → va_Nw (.methodLinkNest a i x h) s
def Ctx (d : Nat) (M : Mt) (G : Gw) (p : Program) (R : Room) (s : State) (m : MethodId) (args : Array Value) (c : Code) (cells slots : Nat) : Prop :=
  p.tables.exec = Jvm.exec ∧ c.code = M.2.1 ∧ c.maxLocals = M.2.2.1 ∧ s.vm.findClass M.1.cls = some m.cls ∧ (∀ w ∈ gTbl, w.before args s = true) ∧ (d ≤ R.frames ∧ 64 * d ≤ R.locals ∧ cells ≤ R.cells ∧ slots ≤ R.slots ∧ NW s) ∧ va_K G.2.1 clsL (tysOf G) s
def rvS (rv : Option Int) : List Value := match rv with
  | none => []
  | some z => [.int (n32 z)]
def okRv (M : Mt) (rv : Option Int) : Prop := match rv with
  | none => M.2.2.2.1 = none
  | some z => inR z ∧ (M.2.2.2.1 = some .int ∨ (M.2.2.2.1 = some .boolean ∧ (z = 0 ∨ z = 1)))
def retOK (M : Mt) (pc : Nat) (rv : Option Int) : Prop := okRv M rv ∧ match rv with
  | none => decode M.2.1 pc = .ok (.return_, 1)
  | some _ => decode M.2.1 pc = .ok (.ireturn, 1)
/-- FROM HERE THE METHOD ENDS, with Q of its answer and of the cells then -/
def Runs (d : Nat) (M : Mt) (pc : Nat) (L S : List AV) (σ : Hp) (Q : Option Int → Hp → Prop) : Prop :=
  okVs L → okVs S → ∀ (G : Gw) (p : Program) (l : Launch) (e : Env) (R : Room) (s : State) (m : MethodId) (args : Array Value) (below : List Frame) (meth : Method) (c : Code) (cells slots : Nat) (A : Nat → Prop) (QQ : State → Prop), Ctx d M G p R s m args c cells slots →
    ∀ (H : Heap) (locs : List Loc) (ls : Array Slot), Wld G A σ s H locs → lrel G.1 ls M.2.2.1 L →
    (∀ (rv : Option Int) (σ' : Hp) (H' : Heap) (locs' : List Loc) (ls' : Array Slot) (pc' : Nat), Q rv σ' → retOK M pc' rv → Wld G A σ' s H' locs' → W p l e R s m args below meth c H' locs' cells slots QQ (F0 m pc' ls' (rvS rv))) →
    W p l e R s m args below meth c H locs cells slots QQ (F0 m pc ls (S.map (cvv G.1)))
theorem Runs.mono {d : Nat} {M : Mt} {pc : Nat} {L S : List AV} {σ : Hp} {Q Q' : Option Int → Hp → Prop} (h : Runs d M pc L S σ Q) (hq : ∀ rv σ', Q rv σ' → Q' rv σ') : Runs d M pc L S σ Q' := by
  intro h1 h2 G p l e R s m args below meth c cells slots A QQ C H locs ls hW hl hk
  exact h h1 h2 G p l e R s m args below meth c cells slots A QQ C H locs ls hW hl (fun rv σ' H' locs' ls' pc' q => hk rv σ' H' locs' ls' pc' (hq rv σ' q))
theorem Runs.deep {d d' : Nat} {M : Mt} {pc : Nat} {L S : List AV} {σ : Hp} {Q : Option Int → Hp → Prop} (h : Runs d M pc L S σ Q) (hd : d ≤ d') : Runs d' M pc L S σ Q := by
  intro h1 h2 G p l e R s m args below meth c cells slots A QQ C H locs ls hW hl hk
  obtain ⟨c1, c2, c3, c4, c5, ⟨r1, r2, r3⟩, c7⟩ := C
  exact h h1 h2 G p l e R s m args below meth c cells slots A QQ ⟨c1, c2, c3, c4, c5, ⟨Nat.le_trans hd r1, by omega, r3⟩, c7⟩ H locs ls hW hl hk
theorem Runs.forget {d : Nat} {M : Mt} {pc : Nat} {L L' S : List AV} {σ : Hp} {Q : Option Int → Hp → Prop} (hl : L'.length = L.length) (hf : ∀ (i : Nat) (v : AV), L'[i]? = some v → v = zU ∨ L[i]? = some v) (h : Runs d M pc L' S σ Q) : Runs d M pc L S σ Q := by
  intro h1 h2 G p l e R s m args below meth c cells slots A QQ C H locs ls hW hl' hk
  refine h (fun v hv => ?_) h2 G p l e R s m args below meth c cells slots A QQ C H locs ls hW (lrel_forget hl' hl hf) hk
  obtain ⟨i, hi⟩ := List.getElem?_of_mem hv
  rcases hf i v hi with e | e
  · rw [e]; trivial
  · exact h1 v (List.mem_of_getElem? e)
/-- what is known of all cells and numbers -/
theorem Runs.okh {d : Nat} {M : Mt} {pc : Nat} {L S : List AV} {σ : Hp} {Q : Option Int → Hp → Prop} (h : okH σ → okVs L → okVs S → Runs d M pc L S σ Q) : Runs d M pc L S σ Q := by
  intro h1 h2 G p l e R s m args below meth c cells slots A QQ C H locs ls hW hl hk
  exact h hW.2.2.2.2 h1 h2 h1 h2 G p l e R s m args below meth c cells slots A QQ C H locs ls hW hl hk
def okMc (Mc : Mt) (n : Nat) : Prop := plainName Mc.1.cls = true ∧ Cond.code Mc.1 Mc.2.1 Mc.2.2.1 Mc.2.2.2.1 ∈ gTbl ∧ Cond.initialized Mc.1.cls ∈ gTbl ∧ (Mc.1.cls ≠ "java/lang/invoke/MethodHandle" ∧ Mc.1.cls ≠ "java/lang/invoke/VarHandle") ∧ (parseMethodDescriptor Mc.1.desc).map (fun d => d.parameters.length) = some n ∧ Mc.2.2.1 ≤ 45
def okVc (Mc : Mt) : Prop := Cond.instanceMethod Mc.1 ∈ gTbl ∧ Cond.selects Mc.1.cls Mc.1 Mc.1 ∈ gTbl
