theorem Runs.step {d : Nat} {M : Mt} {pc pc' : Nat} {L L' S S' : List AV} {σ σ' : Hp} {Q : Option Int → Hp → Prop} (ok : okVs L → okVs S → okH σ → okVs L' ∧ okVs S')
    (row : ∀ (G : Gw) (p : Program) (l : Launch) (e : Env) (R : Room) (s : State) (m : MethodId) (args : Array Value) (below : List Frame) (meth : Method) (c : Code) (cells slots : Nat) (A : Nat → Prop) (QQ : State → Prop), Ctx d M G p R s m args c cells slots → okVs L → okVs S →
      ∀ (H : Heap) (locs : List Loc) (ls : Array Slot), Wld G A σ s H locs → lrel G.1 ls M.2.2.1 L →
      (∀ (H' : Heap) (locs' : List Loc) (ls' : Array Slot), Wld G A σ' s H' locs' → lrel G.1 ls' M.2.2.1 L' → W p l e R s m args below meth c H' locs' cells slots QQ (F0 m pc' ls' (S'.map (cvv G.1)))) →
      W p l e R s m args below meth c H locs cells slots QQ (F0 m pc ls (S.map (cvv G.1))))
    (h : Runs d M pc' L' S' σ' Q) : Runs d M pc L S σ Q := by
  intro h1 h2 G p l e R s m args below meth c cells slots A QQ C H locs ls hW hl hk
  obtain ⟨o1, o2⟩ := ok h1 h2 hW.2.2.2.2
  exact row G p l e R s m args below meth c cells slots A QQ C h1 h2 H locs ls hW hl (fun H' locs' ls' hW' hl' => h o1 o2 G p l e R s m args below meth c cells slots A QQ C H' locs' ls' hW' hl' hk)
theorem bip {n : Int} (hn : -128 ≤ n ∧ n ≤ 127) : (Int8.ofInt n).toInt32 = n32 n := by
  rw [← Int32.toInt_inj, n32_canon ⟨by omega, by omega⟩, Int8.toInt_toInt32, Int8.toInt_ofInt, Int.bmod_def, show ((Int8.size : Nat) : Int) = 256 from rfl]
  split <;> omega
theorem sip {n : Int} (hn : -32768 ≤ n ∧ n ≤ 32767) : (Int16.ofInt n).toInt32 = n32 n := by
  rw [← Int32.toInt_inj, n32_canon ⟨by omega, by omega⟩, Int16.toInt_toInt32, Int16.toInt_ofInt, Int.bmod_def, show ((Int16.size : Nat) : Int) = 65536 from rfl]
  split <;> omega
theorem s_iconst {d : Nat} {M : Mt} {pc : Nat} {L S : List AV} {σ : Hp} {Q : Option Int → Hp → Prop} {n : Int} (hn : inR n) (hd : decode M.2.1 pc = .ok (.iconst n, 1)) (h : Runs d M (pc + 1) (L) (zI n :: S) (σ) Q) : Runs d M pc (L) (S) σ Q := by
  refine Runs.step (L' := L) (S' := zI n :: S) (σ' := σ) (fun oL oS oH => ⟨oL, okVs_cons hn oS⟩) (fun G p l e R s m args below meth c cells slots A QQ C oL oS H locs ls hW hl kk => ?_) h
  obtain ⟨hx, hb, hml, hown, hts, hR, hK⟩ := C
  exact lv_iconst hx hb hd rfl (kk H locs ls hW hl)
theorem s_bipush {d : Nat} {M : Mt} {pc : Nat} {L S : List AV} {σ : Hp} {Q : Option Int → Hp → Prop} {n : Int} (hn : -128 ≤ n ∧ n ≤ 127) (hd : decode M.2.1 pc = .ok (.bipush n, 2)) (h : Runs d M (pc + 2) (L) (zI n :: S) (σ) Q) : Runs d M pc (L) (S) σ Q := by
  refine Runs.step (L' := L) (S' := zI n :: S) (σ' := σ) (fun oL oS oH => ⟨oL, okVs_cons (show inR n from ⟨by omega, by omega⟩) oS⟩) (fun G p l e R s m args below meth c cells slots A QQ C oL oS H locs ls hW hl kk => ?_) h
  obtain ⟨hx, hb, hml, hown, hts, hR, hK⟩ := C
  exact lv_bipush hx hb hd (bip hn) (kk H locs ls hW hl)
theorem s_sipush {d : Nat} {M : Mt} {pc : Nat} {L S : List AV} {σ : Hp} {Q : Option Int → Hp → Prop} {n : Int} (hn : -32768 ≤ n ∧ n ≤ 32767) (hd : decode M.2.1 pc = .ok (.sipush n, 3)) (h : Runs d M (pc + 3) (L) (zI n :: S) (σ) Q) : Runs d M pc (L) (S) σ Q := by
  refine Runs.step (L' := L) (S' := zI n :: S) (σ' := σ) (fun oL oS oH => ⟨oL, okVs_cons (show inR n from ⟨by omega, by omega⟩) oS⟩) (fun G p l e R s m args below meth c cells slots A QQ C oL oS H locs ls hW hl kk => ?_) h
  obtain ⟨hx, hb, hml, hown, hts, hR, hK⟩ := C
  exact lv_sipush hx hb hd (sip hn) (kk H locs ls hW hl)
theorem s_ldc {d : Nat} {M : Mt} {pc : Nat} {L S : List AV} {σ : Hp} {Q : Option Int → Hp → Prop} {idx : Nat} {v : Int} (hn : inR v) (hw : Cond.constant M.1.cls idx (n32 v) ∈ gTbl) (hd : decode M.2.1 pc = .ok (.ldc idx, 2)) (h : Runs d M (pc + 2) (L) (zI v :: S) (σ) Q) : Runs d M pc (L) (S) σ Q := by
  refine Runs.step (L' := L) (S' := zI v :: S) (σ' := σ) (fun oL oS oH => ⟨oL, okVs_cons hn oS⟩) (fun G p l e R s m args below meth c cells slots A QQ C oL oS H locs ls hW hl kk => ?_) h
  obtain ⟨hx, hb, hml, hown, hts, hR, hK⟩ := C
  exact lv_ldc hx hb hown (hts _ hw) hd (kk H locs ls hW hl)
theorem s_ldcw {d : Nat} {M : Mt} {pc : Nat} {L S : List AV} {σ : Hp} {Q : Option Int → Hp → Prop} {idx : Nat} {v : Int} (hn : inR v) (hw : Cond.constant M.1.cls idx (n32 v) ∈ gTbl) (hd : decode M.2.1 pc = .ok (.ldc_w idx, 3)) (h : Runs d M (pc + 3) (L) (zI v :: S) (σ) Q) : Runs d M pc (L) (S) σ Q := by
  refine Runs.step (L' := L) (S' := zI v :: S) (σ' := σ) (fun oL oS oH => ⟨oL, okVs_cons hn oS⟩) (fun G p l e R s m args below meth c cells slots A QQ C oL oS H locs ls hW hl kk => ?_) h
  obtain ⟨hx, hb, hml, hown, hts, hR, hK⟩ := C
  exact lv_ldcw hx hb hown (hts _ hw) hd (kk H locs ls hW hl)
theorem s_ldc2 {d : Nat} {M : Mt} {pc : Nat} {L S : List AV} {σ : Hp} {Q : Option Int → Hp → Prop} {idx : Nat} {v : Int64} (hw : Cond.constantLong M.1.cls idx v ∈ gTbl) (hd : decode M.2.1 pc = .ok (.ldc2_w idx, 3)) (h : Runs d M (pc + 3) (L) (zJ v :: S) (σ) Q) : Runs d M pc (L) (S) σ Q := by
  refine Runs.step (L' := L) (S' := zJ v :: S) (σ' := σ) (fun oL oS oH => ⟨oL, okVs_cons trivial oS⟩) (fun G p l e R s m args below meth c cells slots A QQ C oL oS H locs ls hW hl kk => ?_) h
  obtain ⟨hx, hb, hml, hown, hts, hR, hK⟩ := C
  exact lv_ldc2 hx hb hown (hts _ hw) hd (kk H locs ls hW hl)
theorem s_iload {d : Nat} {M : Mt} {pc : Nat} {L S : List AV} {σ : Hp} {Q : Option Int → Hp → Prop} {k : Nat} {z : Int} (hz : L[k]? = some (zI z)) (hd : decode M.2.1 pc = .ok (.iload k, 2)) (h : Runs d M (pc + 2) (L) (zI z :: S) (σ) Q) : Runs d M pc (L) (S) σ Q := by
  refine Runs.step (L' := L) (S' := zI z :: S) (σ' := σ) (fun oL oS oH => ⟨oL, okVs_cons (okVs_at oL hz) oS⟩) (fun G p l e R s m args below meth c cells slots A QQ C oL oS H locs ls hW hl kk => ?_) h
  obtain ⟨hx, hb, hml, hown, hts, hR, hK⟩ := C
  exact lv_iload hx hb hd (lrel_at hl hz (fun q => by cases q)) (kk H locs ls hW hl)
theorem s_iloadn {d : Nat} {M : Mt} {pc : Nat} {L S : List AV} {σ : Hp} {Q : Option Int → Hp → Prop} {k : Fin 4} {z : Int} (hz : L[k.val]? = some (zI z)) (hd : decode M.2.1 pc = .ok (.iload_n k, 1)) (h : Runs d M (pc + 1) (L) (zI z :: S) (σ) Q) : Runs d M pc (L) (S) σ Q := by
  refine Runs.step (L' := L) (S' := zI z :: S) (σ' := σ) (fun oL oS oH => ⟨oL, okVs_cons (okVs_at oL hz) oS⟩) (fun G p l e R s m args below meth c cells slots A QQ C oL oS H locs ls hW hl kk => ?_) h
  obtain ⟨hx, hb, hml, hown, hts, hR, hK⟩ := C
  exact lv_iload_n hx hb hd rfl (lrel_at hl hz (fun q => by cases q)) (kk H locs ls hW hl)
theorem s_aload {d : Nat} {M : Mt} {pc : Nat} {L S : List AV} {σ : Hp} {Q : Option Int → Hp → Prop} {k g x : Nat} (hz : L[k]? = some (zR g x)) (hd : decode M.2.1 pc = .ok (.aload k, 2)) (h : Runs d M (pc + 2) (L) (zR g x :: S) (σ) Q) : Runs d M pc (L) (S) σ Q := by
  refine Runs.step (L' := L) (S' := zR g x :: S) (σ' := σ) (fun oL oS oH => ⟨oL, okVs_cons (okVs_at oL hz) oS⟩) (fun G p l e R s m args below meth c cells slots A QQ C oL oS H locs ls hW hl kk => ?_) h
  obtain ⟨hx, hb, hml, hown, hts, hR, hK⟩ := C
  exact lv_aload hx hb hd (lrel_at hl hz (fun q => by cases q)) (kk H locs ls hW hl)
theorem s_aloadn {d : Nat} {M : Mt} {pc : Nat} {L S : List AV} {σ : Hp} {Q : Option Int → Hp → Prop} {k : Fin 4} {g x : Nat} (hz : L[k.val]? = some (zR g x)) (hd : decode M.2.1 pc = .ok (.aload_n k, 1)) (h : Runs d M (pc + 1) (L) (zR g x :: S) (σ) Q) : Runs d M pc (L) (S) σ Q := by
  refine Runs.step (L' := L) (S' := zR g x :: S) (σ' := σ) (fun oL oS oH => ⟨oL, okVs_cons (okVs_at oL hz) oS⟩) (fun G p l e R s m args below meth c cells slots A QQ C oL oS H locs ls hW hl kk => ?_) h
  obtain ⟨hx, hb, hml, hown, hts, hR, hK⟩ := C
  exact lv_aload_n hx hb hd rfl (lrel_at hl hz (fun q => by cases q)) (kk H locs ls hW hl)
theorem s_lloadn {d : Nat} {M : Mt} {pc : Nat} {L S : List AV} {σ : Hp} {Q : Option Int → Hp → Prop} {k : Fin 4} {x : Int64} (hz : L[k.val]? = some (zJ x)) (hd : decode M.2.1 pc = .ok (.lload_n k, 1)) (h : Runs d M (pc + 1) (L) (zJ x :: S) (σ) Q) : Runs d M pc (L) (S) σ Q := by
  refine Runs.step (L' := L) (S' := zJ x :: S) (σ' := σ) (fun oL oS oH => ⟨oL, okVs_cons trivial oS⟩) (fun G p l e R s m args below meth c cells slots A QQ C oL oS H locs ls hW hl kk => ?_) h
  obtain ⟨hx, hb, hml, hown, hts, hR, hK⟩ := C
  exact lv_lload_n hx hb hd rfl (lrel_at hl hz (fun q => by cases q)) (kk H locs ls hW hl)
theorem s_istore {d : Nat} {M : Mt} {pc : Nat} {L S : List AV} {σ : Hp} {Q : Option Int → Hp → Prop} {k : Nat} {z : Int} (hj : noJ L k = true) (hk : k < L.length) (hd : decode M.2.1 pc = .ok (.istore k, 2)) (h : Runs d M (pc + 2) (L.set k (zI z)) (S) (σ) Q) : Runs d M pc (L) (zI z :: S) σ Q := by
  refine Runs.step (L' := L.set k (zI z)) (S' := S) (σ' := σ) (fun oL oS oH => ⟨okVs_set oL (okVs_hd oS), okVs_tl oS⟩) (fun G p l e R s m args below meth c cells slots A QQ C oL oS H locs ls hW hl kk => ?_) h
  obtain ⟨hx, hb, hml, hown, hts, hR, hK⟩ := C
  exact lv_istore hx hb hd hl.2 (hl.1 ▸ hk) rfl (fun ls2 h2 => kk H locs ls2 hW (lrel_set hj hk hl.1 h2))
theorem s_istoren {d : Nat} {M : Mt} {pc : Nat} {L S : List AV} {σ : Hp} {Q : Option Int → Hp → Prop} {k : Fin 4} {z : Int} (hj : noJ L k.val = true) (hk : k.val < L.length) (hd : decode M.2.1 pc = .ok (.istore_n k, 1)) (h : Runs d M (pc + 1) (L.set k.val (zI z)) (S) (σ) Q) : Runs d M pc (L) (zI z :: S) σ Q := by
  refine Runs.step (L' := L.set k.val (zI z)) (S' := S) (σ' := σ) (fun oL oS oH => ⟨okVs_set oL (okVs_hd oS), okVs_tl oS⟩) (fun G p l e R s m args below meth c cells slots A QQ C oL oS H locs ls hW hl kk => ?_) h
  obtain ⟨hx, hb, hml, hown, hts, hR, hK⟩ := C
  exact lv_istore_n hx hb hd rfl hl.2 (hl.1 ▸ hk) rfl (fun ls2 h2 => kk H locs ls2 hW (lrel_set hj hk hl.1 h2))
theorem lvl_ix {ad : Nat → Nat → Nat} {L : List AV} {k : Nat} {z : Int} (hz : L[k]? = some (zI z)) : ∃ j : Nat, (lvl ad 0 L)[j]? = some (k, .int (n32 z)) :=
  List.getElem?_of_mem ((lvl_mem L 0).mpr ⟨_, Nat.zero_le _, by simpa using hz, fun q => (by cases q), rfl⟩)
theorem s_iinc {d : Nat} {M : Mt} {pc : Nat} {L S : List AV} {σ : Hp} {Q : Option Int → Hp → Prop} {k : Nat} {n z : Int} (hz : L[k]? = some (zI z)) (hj : noJ L k = true) (hk : k < L.length) (hd : decode M.2.1 pc = .ok (.iinc k n, 3)) (h : Runs d M (pc + 3) (L.set k (zI (wrap (z + n)))) (S) (σ) Q) : Runs d M pc (L) (S) σ Q := by
  refine Runs.step (L' := L.set k (zI (wrap (z + n)))) (S' := S) (σ' := σ) (fun oL oS oH => ⟨okVs_set oL (wrap_in _), oS⟩) (fun G p l e R s m args below meth c cells slots A QQ C oL oS H locs ls hW hl kk => ?_) h
  obtain ⟨hx, hb, hml, hown, hts, hR, hK⟩ := C
  obtain ⟨j, hj2⟩ := lvl_ix (ad := G.1) hz
  exact lv_iinc hx hb hd hl.2 hj2 (n32_add z n) (hl.1 ▸ hk) rfl (fun ls2 h2 => kk H locs ls2 hW (lrel_set hj hk hl.1 h2))
theorem s_iadd {d : Nat} {M : Mt} {pc : Nat} {L S : List AV} {σ : Hp} {Q : Option Int → Hp → Prop} {a b : Int} (hd : decode M.2.1 pc = .ok (.iadd, 1)) (h : Runs d M (pc + 1) (L) (zI (wrap (a + b)) :: S) (σ) Q) : Runs d M pc (L) (zI b :: zI a :: S) σ Q := by
  refine Runs.step (L' := L) (S' := zI (wrap (a + b)) :: S) (σ' := σ) (fun oL oS oH => ⟨oL, okVs_cons (wrap_in _) (okVs_tl (okVs_tl oS))⟩) (fun G p l e R s m args below meth c cells slots A QQ C oL oS H locs ls hW hl kk => ?_) h
  obtain ⟨hx, hb, hml, hown, hts, hR, hK⟩ := C
  refine lv_iadd hx hb hd ?_
  rw [n32_add]
  exact kk H locs ls hW hl
theorem s_isub {d : Nat} {M : Mt} {pc : Nat} {L S : List AV} {σ : Hp} {Q : Option Int → Hp → Prop} {a b : Int} (hd : decode M.2.1 pc = .ok (.isub, 1)) (h : Runs d M (pc + 1) (L) (zI (wrap (a - b)) :: S) (σ) Q) : Runs d M pc (L) (zI b :: zI a :: S) σ Q := by
  refine Runs.step (L' := L) (S' := zI (wrap (a - b)) :: S) (σ' := σ) (fun oL oS oH => ⟨oL, okVs_cons (wrap_in _) (okVs_tl (okVs_tl oS))⟩) (fun G p l e R s m args below meth c cells slots A QQ C oL oS H locs ls hW hl kk => ?_) h
  obtain ⟨hx, hb, hml, hown, hts, hR, hK⟩ := C
  refine lv_isub hx hb hd ?_
  rw [n32_sub]
  exact kk H locs ls hW hl
theorem s_imul {d : Nat} {M : Mt} {pc : Nat} {L S : List AV} {σ : Hp} {Q : Option Int → Hp → Prop} {a b : Int} (hd : decode M.2.1 pc = .ok (.imul, 1)) (h : Runs d M (pc + 1) (L) (zI (wrap (a * b)) :: S) (σ) Q) : Runs d M pc (L) (zI b :: zI a :: S) σ Q := by
  refine Runs.step (L' := L) (S' := zI (wrap (a * b)) :: S) (σ' := σ) (fun oL oS oH => ⟨oL, okVs_cons (wrap_in _) (okVs_tl (okVs_tl oS))⟩) (fun G p l e R s m args below meth c cells slots A QQ C oL oS H locs ls hW hl kk => ?_) h
  obtain ⟨hx, hb, hml, hown, hts, hR, hK⟩ := C
  refine lv_imul hx hb hd ?_
  rw [n32_mul]
  exact kk H locs ls hW hl
theorem s_iand {d : Nat} {M : Mt} {pc : Nat} {L S : List AV} {σ : Hp} {Q : Option Int → Hp → Prop} {a b : Int} (hd : decode M.2.1 pc = .ok (.iand, 1)) (h : Runs d M (pc + 1) (L) (zI (zand a b) :: S) (σ) Q) : Runs d M pc (L) (zI b :: zI a :: S) σ Q := by
  refine Runs.step (L' := L) (S' := zI (zand a b) :: S) (σ' := σ) (fun oL oS oH => ⟨oL, okVs_cons (toInt_in _) (okVs_tl (okVs_tl oS))⟩) (fun G p l e R s m args below meth c cells slots A QQ C oL oS H locs ls hW hl kk => ?_) h
  obtain ⟨hx, hb, hml, hown, hts, hR, hK⟩ := C
  refine lv_iand hx hb hd ?_
  rw [← n32_of (n32 a &&& n32 b)]
  exact kk H locs ls hW hl
theorem s_ior {d : Nat} {M : Mt} {pc : Nat} {L S : List AV} {σ : Hp} {Q : Option Int → Hp → Prop} {a b : Int} (hd : decode M.2.1 pc = .ok (.ior, 1)) (h : Runs d M (pc + 1) (L) (zI (zor a b) :: S) (σ) Q) : Runs d M pc (L) (zI b :: zI a :: S) σ Q := by
  refine Runs.step (L' := L) (S' := zI (zor a b) :: S) (σ' := σ) (fun oL oS oH => ⟨oL, okVs_cons (toInt_in _) (okVs_tl (okVs_tl oS))⟩) (fun G p l e R s m args below meth c cells slots A QQ C oL oS H locs ls hW hl kk => ?_) h
  obtain ⟨hx, hb, hml, hown, hts, hR, hK⟩ := C
  refine lv_ior hx hb hd ?_
  rw [← n32_of (n32 a ||| n32 b)]
  exact kk H locs ls hW hl
theorem s_ixor {d : Nat} {M : Mt} {pc : Nat} {L S : List AV} {σ : Hp} {Q : Option Int → Hp → Prop} {a b : Int} (hd : decode M.2.1 pc = .ok (.ixor, 1)) (h : Runs d M (pc + 1) (L) (zI (zxor a b) :: S) (σ) Q) : Runs d M pc (L) (zI b :: zI a :: S) σ Q := by
  refine Runs.step (L' := L) (S' := zI (zxor a b) :: S) (σ' := σ) (fun oL oS oH => ⟨oL, okVs_cons (toInt_in _) (okVs_tl (okVs_tl oS))⟩) (fun G p l e R s m args below meth c cells slots A QQ C oL oS H locs ls hW hl kk => ?_) h
  obtain ⟨hx, hb, hml, hown, hts, hR, hK⟩ := C
  refine lv_ixor hx hb hd ?_
  rw [← n32_of (n32 a ^^^ n32 b)]
  exact kk H locs ls hW hl
theorem s_ishl {d : Nat} {M : Mt} {pc : Nat} {L S : List AV} {σ : Hp} {Q : Option Int → Hp → Prop} {a b : Int} (hd : decode M.2.1 pc = .ok (.ishl, 1)) (h : Runs d M (pc + 1) (L) (zI (zshl a b) :: S) (σ) Q) : Runs d M pc (L) (zI b :: zI a :: S) σ Q := by
  refine Runs.step (L' := L) (S' := zI (zshl a b) :: S) (σ' := σ) (fun oL oS oH => ⟨oL, okVs_cons (toInt_in _) (okVs_tl (okVs_tl oS))⟩) (fun G p l e R s m args below meth c cells slots A QQ C oL oS H locs ls hW hl kk => ?_) h
  obtain ⟨hx, hb, hml, hown, hts, hR, hK⟩ := C
  refine lv_ishl hx hb hd ?_
  rw [← n32_of (n32 a <<< (n32 b &&& 31))]
  exact kk H locs ls hW hl
theorem s_ishr {d : Nat} {M : Mt} {pc : Nat} {L S : List AV} {σ : Hp} {Q : Option Int → Hp → Prop} {a b : Int} (hd : decode M.2.1 pc = .ok (.ishr, 1)) (h : Runs d M (pc + 1) (L) (zI (zshr a b) :: S) (σ) Q) : Runs d M pc (L) (zI b :: zI a :: S) σ Q := by
  refine Runs.step (L' := L) (S' := zI (zshr a b) :: S) (σ' := σ) (fun oL oS oH => ⟨oL, okVs_cons (toInt_in _) (okVs_tl (okVs_tl oS))⟩) (fun G p l e R s m args below meth c cells slots A QQ C oL oS H locs ls hW hl kk => ?_) h
  obtain ⟨hx, hb, hml, hown, hts, hR, hK⟩ := C
  refine lv_ishr hx hb hd ?_
  rw [← n32_of (n32 a >>> (n32 b &&& 31))]
  exact kk H locs ls hW hl
theorem s_iushr {d : Nat} {M : Mt} {pc : Nat} {L S : List AV} {σ : Hp} {Q : Option Int → Hp → Prop} {a b : Int} (hd : decode M.2.1 pc = .ok (.iushr, 1)) (h : Runs d M (pc + 1) (L) (zI (zushr a b) :: S) (σ) Q) : Runs d M pc (L) (zI b :: zI a :: S) σ Q := by
  refine Runs.step (L' := L) (S' := zI (zushr a b) :: S) (σ' := σ) (fun oL oS oH => ⟨oL, okVs_cons (toInt_in _) (okVs_tl (okVs_tl oS))⟩) (fun G p l e R s m args below meth c cells slots A QQ C oL oS H locs ls hW hl kk => ?_) h
  obtain ⟨hx, hb, hml, hown, hts, hR, hK⟩ := C
  exact lv_iushr hx hb hd (n32_of _).symm (kk H locs ls hW hl)
theorem s_ineg {d : Nat} {M : Mt} {pc : Nat} {L S : List AV} {σ : Hp} {Q : Option Int → Hp → Prop} {a : Int} (hd : decode M.2.1 pc = .ok (.ineg, 1)) (h : Runs d M (pc + 1) (L) (zI (wrap (-a)) :: S) (σ) Q) : Runs d M pc (L) (zI a :: S) σ Q := by
  refine Runs.step (L' := L) (S' := zI (wrap (-a)) :: S) (σ' := σ) (fun oL oS oH => ⟨oL, okVs_cons (wrap_in _) (okVs_tl oS)⟩) (fun G p l e R s m args below meth c cells slots A QQ C oL oS H locs ls hW hl kk => ?_) h
  obtain ⟨hx, hb, hml, hown, hts, hR, hK⟩ := C
  refine lv_ineg hx hb hd ?_
  rw [n32_neg]
  exact kk H locs ls hW hl
theorem s_idiv {d : Nat} {M : Mt} {pc : Nat} {L S : List AV} {σ : Hp} {Q : Option Int → Hp → Prop} {a b : Int} (hn : b ≠ 0) (hd : decode M.2.1 pc = .ok (.idiv, 1)) (h : Runs d M (pc + 1) (L) (zI (zdiv a b) :: S) (σ) Q) : Runs d M pc (L) (zI b :: zI a :: S) σ Q := by
  refine Runs.step (L' := L) (S' := zI (zdiv a b) :: S) (σ' := σ) (fun oL oS oH => ⟨oL, okVs_cons (toInt_in _) (okVs_tl (okVs_tl oS))⟩) (fun G p l e R s m args below meth c cells slots A QQ C oL oS H locs ls hW hl kk => ?_) h
  obtain ⟨hx, hb, hml, hown, hts, hR, hK⟩ := C
  refine lv_idiv hx hb hd (fun q => hn ((n32_inj (okVs_hd oS) inR_0).mp q)) ?_
  rw [← n32_of (n32 a / n32 b)]
  exact kk H locs ls hW hl
theorem s_irem {d : Nat} {M : Mt} {pc : Nat} {L S : List AV} {σ : Hp} {Q : Option Int → Hp → Prop} {a b : Int} (hn : b ≠ 0) (hd : decode M.2.1 pc = .ok (.irem, 1)) (h : Runs d M (pc + 1) (L) (zI (zrem a b) :: S) (σ) Q) : Runs d M pc (L) (zI b :: zI a :: S) σ Q := by
  refine Runs.step (L' := L) (S' := zI (zrem a b) :: S) (σ' := σ) (fun oL oS oH => ⟨oL, okVs_cons (toInt_in _) (okVs_tl (okVs_tl oS))⟩) (fun G p l e R s m args below meth c cells slots A QQ C oL oS H locs ls hW hl kk => ?_) h
  obtain ⟨hx, hb, hml, hown, hts, hR, hK⟩ := C
  refine lv_irem hx hb hd (fun q => hn ((n32_inj (okVs_hd oS) inR_0).mp q)) ?_
  rw [← n32_of (n32 a - n32 a / n32 b * n32 b)]
  exact kk H locs ls hW hl
theorem s_i2l {d : Nat} {M : Mt} {pc : Nat} {L S : List AV} {σ : Hp} {Q : Option Int → Hp → Prop} {a : Int} (hd : decode M.2.1 pc = .ok (.i2l, 1)) (h : Runs d M (pc + 1) (L) (zJ (zi2l a) :: S) (σ) Q) : Runs d M pc (L) (zI a :: S) σ Q := by
  refine Runs.step (L' := L) (S' := zJ (zi2l a) :: S) (σ' := σ) (fun oL oS oH => ⟨oL, okVs_cons trivial (okVs_tl oS)⟩) (fun G p l e R s m args below meth c cells slots A QQ C oL oS H locs ls hW hl kk => ?_) h
  obtain ⟨hx, hb, hml, hown, hts, hR, hK⟩ := C
  exact lv_i2l hx hb hd rfl (kk H locs ls hW hl)
theorem s_l2i {d : Nat} {M : Mt} {pc : Nat} {L S : List AV} {σ : Hp} {Q : Option Int → Hp → Prop} {x : Int64} (hd : decode M.2.1 pc = .ok (.l2i, 1)) (h : Runs d M (pc + 1) (L) (zI (zl2i x) :: S) (σ) Q) : Runs d M pc (L) (zJ x :: S) σ Q := by
  refine Runs.step (L' := L) (S' := zI (zl2i x) :: S) (σ' := σ) (fun oL oS oH => ⟨oL, okVs_cons (toInt_in _) (okVs_tl oS)⟩) (fun G p l e R s m args below meth c cells slots A QQ C oL oS H locs ls hW hl kk => ?_) h
  obtain ⟨hx, hb, hml, hown, hts, hR, hK⟩ := C
  exact lv_l2i hx hb hd (n32_of _).symm (kk H locs ls hW hl)
theorem s_lshl {d : Nat} {M : Mt} {pc : Nat} {L S : List AV} {σ : Hp} {Q : Option Int → Hp → Prop} {x : Int64} {b : Int} (hd : decode M.2.1 pc = .ok (.lshl, 1)) (h : Runs d M (pc + 1) (L) (zJ (zlshl x b) :: S) (σ) Q) : Runs d M pc (L) (zI b :: zJ x :: S) σ Q := by
  refine Runs.step (L' := L) (S' := zJ (zlshl x b) :: S) (σ' := σ) (fun oL oS oH => ⟨oL, okVs_cons trivial (okVs_tl (okVs_tl oS))⟩) (fun G p l e R s m args below meth c cells slots A QQ C oL oS H locs ls hW hl kk => ?_) h
  obtain ⟨hx, hb, hml, hown, hts, hR, hK⟩ := C
  exact lv_lshl hx hb hd rfl (kk H locs ls hW hl)
theorem s_lshr {d : Nat} {M : Mt} {pc : Nat} {L S : List AV} {σ : Hp} {Q : Option Int → Hp → Prop} {x : Int64} {b : Int} (hd : decode M.2.1 pc = .ok (.lshr, 1)) (h : Runs d M (pc + 1) (L) (zJ (zlshr x b) :: S) (σ) Q) : Runs d M pc (L) (zI b :: zJ x :: S) σ Q := by
  refine Runs.step (L' := L) (S' := zJ (zlshr x b) :: S) (σ' := σ) (fun oL oS oH => ⟨oL, okVs_cons trivial (okVs_tl (okVs_tl oS))⟩) (fun G p l e R s m args below meth c cells slots A QQ C oL oS H locs ls hW hl kk => ?_) h
  obtain ⟨hx, hb, hml, hown, hts, hR, hK⟩ := C
  exact lv_lshr hx hb hd rfl (kk H locs ls hW hl)
theorem s_lushr {d : Nat} {M : Mt} {pc : Nat} {L S : List AV} {σ : Hp} {Q : Option Int → Hp → Prop} {x : Int64} {b : Int} (hd : decode M.2.1 pc = .ok (.lushr, 1)) (h : Runs d M (pc + 1) (L) (zJ (zlushr x b) :: S) (σ) Q) : Runs d M pc (L) (zI b :: zJ x :: S) σ Q := by
  refine Runs.step (L' := L) (S' := zJ (zlushr x b) :: S) (σ' := σ) (fun oL oS oH => ⟨oL, okVs_cons trivial (okVs_tl (okVs_tl oS))⟩) (fun G p l e R s m args below meth c cells slots A QQ C oL oS H locs ls hW hl kk => ?_) h
  obtain ⟨hx, hb, hml, hown, hts, hR, hK⟩ := C
  exact lv_lushr hx hb hd rfl (kk H locs ls hW hl)
theorem s_land {d : Nat} {M : Mt} {pc : Nat} {L S : List AV} {σ : Hp} {Q : Option Int → Hp → Prop} {x y : Int64} (hd : decode M.2.1 pc = .ok (.land, 1)) (h : Runs d M (pc + 1) (L) (zJ (x &&& y) :: S) (σ) Q) : Runs d M pc (L) (zJ y :: zJ x :: S) σ Q := by
  refine Runs.step (L' := L) (S' := zJ (x &&& y) :: S) (σ' := σ) (fun oL oS oH => ⟨oL, okVs_cons trivial (okVs_tl (okVs_tl oS))⟩) (fun G p l e R s m args below meth c cells slots A QQ C oL oS H locs ls hW hl kk => ?_) h
  obtain ⟨hx, hb, hml, hown, hts, hR, hK⟩ := C
  exact lv_land hx hb hd (kk H locs ls hW hl)
theorem s_lor {d : Nat} {M : Mt} {pc : Nat} {L S : List AV} {σ : Hp} {Q : Option Int → Hp → Prop} {x y : Int64} (hd : decode M.2.1 pc = .ok (.lor, 1)) (h : Runs d M (pc + 1) (L) (zJ (x ||| y) :: S) (σ) Q) : Runs d M pc (L) (zJ y :: zJ x :: S) σ Q := by
  refine Runs.step (L' := L) (S' := zJ (x ||| y) :: S) (σ' := σ) (fun oL oS oH => ⟨oL, okVs_cons trivial (okVs_tl (okVs_tl oS))⟩) (fun G p l e R s m args below meth c cells slots A QQ C oL oS H locs ls hW hl kk => ?_) h
  obtain ⟨hx, hb, hml, hown, hts, hR, hK⟩ := C
  exact lv_lor hx hb hd (kk H locs ls hW hl)
def cat1 : AV → Bool
  | .inr (.inr _) => false
  | _ => true
theorem cat1_of {ad : Nat → Nat → Nat} {v : AV} (h : cat1 v = true) : (cvv ad v).category = 1 := by
  rcases v with z | q | x | u
  · rfl
  · rfl
  · cases h
  · cases h
theorem s_dup {d : Nat} {M : Mt} {pc : Nat} {L S : List AV} {σ : Hp} {Q : Option Int → Hp → Prop} {v : AV} (hc : cat1 v = true) (hd : decode M.2.1 pc = .ok (.dup, 1)) (h : Runs d M (pc + 1) (L) (v :: v :: S) (σ) Q) : Runs d M pc (L) (v :: S) σ Q := by
  refine Runs.step (L' := L) (S' := v :: v :: S) (σ' := σ) (fun oL oS oH => ⟨oL, okVs_cons (okVs_hd oS) oS⟩) (fun G p l e R s m args below meth c cells slots A QQ C oL oS H locs ls hW hl kk => ?_) h
  obtain ⟨hx, hb, hml, hown, hts, hR, hK⟩ := C
  exact lv_dup hx hb hd (cat1_of hc) (kk H locs ls hW hl)
theorem s_dup2 {d : Nat} {M : Mt} {pc : Nat} {L S : List AV} {σ : Hp} {Q : Option Int → Hp → Prop} {v w : AV} (hc : cat1 v = true) (hc2 : cat1 w = true) (hd : decode M.2.1 pc = .ok (.dup2, 1)) (h : Runs d M (pc + 1) (L) (v :: w :: v :: w :: S) (σ) Q) : Runs d M pc (L) (v :: w :: S) σ Q := by
  refine Runs.step (L' := L) (S' := v :: w :: v :: w :: S) (σ' := σ) (fun oL oS oH => ⟨oL, okVs_cons (okVs_hd oS) (okVs_cons (okVs_hd (okVs_tl oS)) oS)⟩) (fun G p l e R s m args below meth c cells slots A QQ C oL oS H locs ls hW hl kk => ?_) h
  obtain ⟨hx, hb, hml, hown, hts, hR, hK⟩ := C
  exact lv_dup2_11 hx hb hd (cat1_of hc) (cat1_of hc2) (kk H locs ls hW hl)
