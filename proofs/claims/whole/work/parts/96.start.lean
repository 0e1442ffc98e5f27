-- ===== end of PART A; then your names; then what follows =====
/-! THE CLAIM OUT OF ONE WALK OF THE LAW'S BODY. Your part is whole_start (and what it stands on); all else here is the same for every law, but numbers. -/
def R_law : String := "OneWayTillNoonLaw"
def lw_P (b : Addr) (xs : List Int32) (args : Array Value) (s : State) : Prop := args = #[.ref b] ∧ s.IntsAt b xs ∧ xs.length ≤ 320 ∧ (Jvm.Cond.and given_1 narrow_1).before args s = true
def lw_Q (_ : Array Value) (s : State) (o : Outcome) (t : State) : Prop := o = .returned (some (.int 1)) ∧ Framed s o t [] 600000 7302250
def lw_Z (below : List Frame) (a : Array Value) (s : State) : State → Prop := fun t => ∃ o, t.status = .running ∧ Ended t below o ∧ lw_Q a s o t
/-- the law's own end, with 1 on the stack, nothing written that was there before, its room as the claim has it -/
theorem lw_ret {p : Program} {l : Launch} {e : Env} {s : State} {m : MethodId} {below : List Frame} {meth : Method} {c : Code} {b : Nat} (hx : p.tables.exec = Jvm.exec) (hb : c.code = code) (hr : meth.sig.returnType = ret) (hlocks : meth.locks = false) {pc : Nat} {H : Heap} {ls : Array Slot} (hdg : decode code pc = .ok (.ireturn, 1)) : W p l e room_1 s m #[Value.ref b] below meth c H [] 600000 7302250 (lw_Z below #[Value.ref b] s) (F0 m pc ls [.int 1]) := by
  intro T hT X
  obtain ⟨fs, hret, hrun, hended, hW, hframe⟩ := X.leave (v := some (.int 1)) (hlocks := hlocks) (fun h => by rw [hr] at h; cases h)
  have hmeth' : T.vm.method? m = some meth := X.method'
  refine ⟨T.setFrames fs, ?_, .returned (some (.int 1)), hrun, hended, rfl, ⟨_, rfl⟩, hW, hframe⟩
  jvm_step X.here [X.here.top, hx, hb, hdg, hmeth', hr, ret, narrow_b1]
  (try refine ⟨rfl, ?_⟩); (try refine ⟨rfl, ?_⟩)
  first | (intro acts; rw [hret _ acts rfl rfl rfl]) | rw [hret _ _ rfl rfl rfl]
  exact Steps.refl _
/-- what holds at the law's entry: the machine, the code, the tables' words (any of lw_tbl by 'hts w (by decide +kernel)'), the script of L ints xs at the cell b, what the Statement gives of the start (any of its parts by flat_of_before) -/
def lw_At (p : Program) (s : State) (m : MethodId) (meth : Method) (c : Code) (b L : Nat) (xs : Nat → Int32) : Prop :=
  p.tables.exec = Jvm.exec ∧ c.code = code ∧ meth.sig.returnType = ret ∧ c.maxLocals = 4 ∧ s.vm.findClass R_law = some m.cls ∧ (∀ w ∈ lw_tbl, w.before #[Value.ref b] s = true) ∧ va_X b L xs s s.heap ∧ b < s.heap.size ∧ meth.locks = false ∧ (Jvm.Cond.and given_1 narrow_1).before #[Value.ref b] s = true
-- ===== YOUR PART BEGINS =====
set_option maxRecDepth 100000 in
set_option maxHeartbeats 4000000 in
/-- YOUR PART: from the entry, for every script of at most 320 ints, the law comes to its end with true ('hflags': the launch's flags, for a law that throws: no stack traces) -/
theorem whole_start {p : Program} {e : Env} {s : State} {m : MethodId} {below : List Frame} {meth : Method} {c : Code} (l : Launch) (hflags : l.flags = flags0) {b L : Nat} {xs : Nat → Int32} (hL : L ≤ 320) (C0 : lw_At p s m meth c b L xs) : W p l e room_1 s m #[Value.ref b] below meth c s.heap [] 0 0 (lw_Z below #[Value.ref b] s) (entryFrame m ([Value.ref b] : List Value).toArray 4) := by
  obtain ⟨hx, hb, hr, hml, hown, hts, hX, hbl, hlk, hg⟩ := C0
  have htg : ∀ w ∈ gTbl, w.before #[Value.ref b] s = true := fun w hw => hts w (List.mem_filter.mp hw).1
  have hcl : ∀ ci : Nat, ∃ q : ClassId × (Nat → Nat), ci < 12 → u_Kn s (clsT ci).1 (clsT ci).2.1 (clsT ci).2.2 q.1 q.2 := fun ci => by
    by_cases h : ci < 12
    · have hi : Cond.instantiable (clsT ci).1 (clsT ci).2.2 ∈ gTbl := by
        have : ci = 0 ∨ ci = 1 ∨ ci = 2 ∨ ci = 3 ∨ ci = 4 ∨ ci = 5 ∨ ci = 6 ∨ ci = 7 ∨ ci = 8 ∨ ci = 9 ∨ ci = 10 ∨ ci = 11 := by omega
        rcases this with rfl | rfl | rfl | rfl | rfl | rfl | rfl | rfl | rfl | rfl | rfl | rfl
        · exact nI0
        · exact nI1
        · exact nI2
        · exact nI3
        · exact nI4
        · exact nI5
        · exact nI6
        · exact nI7
        · exact nI8
        · exact nI9
        · exact nI10
        · exact nI11
      obtain ⟨c1, i1, k1⟩ := u_known htg (cls_in ci h).1 (htg _ hi)
      exact ⟨(c1, i1), fun _ => k1⟩
    · exact ⟨(0, fun _ => 0), fun q => absurd q h⟩
  obtain ⟨f, hf⟩ := Classical.skolem.mp hcl
  obtain ⟨cI, kI, cx, fI, hkI, kindI⟩ := Cond.arrayClass_spec (htg _ inAI)
  obtain ⟨cZ, kZ, cz, fZ, hkZ, kindZ⟩ := Cond.arrayClass_spec (htg _ inAZ)
  have hover : AOs s := fun ty ht => by
    rcases ht with rfl | rfl
    · exact hts (.arrayOver (.object RX4)) (List.mem_of_getElem? (i := 371) (by decide +kernel))
    · exact hts (.arrayOver (.array .int)) (List.mem_of_getElem? (i := 305) (by decide +kernel))
  obtain ⟨cM, cA, kA, fM, -, hkA, kindA, fA⟩ := arrayOverA_spec (hover _ (Or.inr rfl))
  obtain ⟨cR0, cR, kR, fR0, -, hkR, kindR, fR⟩ := Cond.arrayOver_spec (hover _ (Or.inl rfl))
  have hnw : NW s := fun a1 i1 x1 h1 hm => va_Nw.of rfl (hts _ hm)
  obtain ⟨K, hKe⟩ : ∃ K : Kk, K = ((fun c => (f c).1, fun c => (f c).2), cI, cZ, cA, cR) := ⟨_, rfl⟩
  have hK : KK K s := by
    subst hKe
    refine ⟨⟨fun c q hq => ?_, fun k q hq => ?_⟩, hover, hnw⟩
    · have hc : c < 12 := by
        have := (List.getElem?_eq_some_iff.mp hq).1
        exact this
      have e := (cls_in c hc).2.2.2
      rw [hq] at e
      have e2 := Option.some.inj e
      subst e2
      exact hf c hc
    · have hk4 : k = 0 ∨ k = 1 ∨ k = 2 ∨ k = 3 := by
        have h4 := (List.getElem?_eq_some_iff.mp hq).1
        have h5 : k < 4 := h4
        omega
      rcases hk4 with rfl | rfl | rfl | rfl
      · have e := Option.some.inj hq; subst e
        exact ⟨fun n z => ⟨fun k h => (by cases h), kI, hkI, cx, kindI⟩, fI⟩
      · have e := Option.some.inj hq; subst e
        exact ⟨fun n z => ⟨fun k h => (by cases h), kZ, hkZ, cz, kindZ⟩, fZ⟩
      · have e := Option.some.inj hq; subst e
        exact ⟨fun n z => ⟨fun k h => (by cases h), kA, hkA, cM, kindA⟩, fA⟩
      · have e := Option.some.inj hq; subst e
        exact ⟨fun n z => ⟨fun k h => (by cases h), kR, hkR, cR0, kindR⟩, kR, cR0, hkR, kindR, fR0, fR⟩
  have C : CK 12 mL_law K p room_1 s m #[Value.ref b] c := ⟨hx, hb, hml, hown, htg, ⟨by decide, by decide⟩, hK⟩
  obtain ⟨A, hA⟩ : ∃ A : Nat → Prop, A = fun q => s.heap.size ≤ q := ⟨_, rfl⟩
  have hA1 : ∀ q : Nat, s.heap.size ≤ q → A q := fun q h => by rw [hA]; exact h
  have hA2 : ∀ q : Nat, q < s.heap.size → ¬ A q := fun q h => by rw [hA]; exact Nat.not_le.mpr h
  have hA3 : ∀ q : Nat, A q → s.heap.size ≤ q := fun q h => by rw [hA] at h; exact h
  have hW : WZ K A s s.heap [] [] := ⟨fun k q hq => by simp at hq, ⟨fun i j x y hi => by simp at hi, fun k q hq => by simp at hq⟩, va_S.rf, hA1⟩
  obtain ⟨t1, t2, S1, S2⟩ := zstat hts hg hA2 L xs
  rw [lg_entry_eq]
  have hl := lv_entry ([.ref b]) (n := 4) (Nat.le_of_ble_eq_true rfl)
  generalize (lg_sl ([.ref b]) ++ List.replicate (4 - (lg_sl ([.ref b])).length) Slot.unset).toArray = ls at hl ⊢
  replace hl : lv_has ls 4 [(0, .ref b)] := hl
  refine k_new (ci := 10) C hW (by decide) (gT1 (i := 17) (by decide +kernel) rfl) nI10 nZ10 (by decide) (by decide) (show decode cL_law 0 = .ok (.new 7, 3) by decide +kernel) (fun q10 H hW => ?_)
  refine W.widen (k := 1) (n := 13) (by decide) (by decide) ?_
  refine lv_dup hx hb (show decode cL_law 3 = .ok (.dup, 1) by decide +kernel) rfl ?_
  refine k_call C hW (as := []) (q := q10) (cX10 l K) kX10_init rfl rfl iX10_init (gT1 (i := 19) (by decide +kernel) rfl) (by decide) rfl hl.1 (Nat.le_of_ble_eq_true rfl) (by decide) (by decide) (show decode cL_law 4 = .ok (.invokespecial 9, 3) by decide +kernel) rfl (fun w1 H locs hw1 hW => ?_)
  obtain ⟨a10, rfl⟩ := hw1
  refine W.widen (k := 100) (n := 1014) (by decide) (by decide) ?_
  replace hW : WZ K A s H locs (wX10 K q10 a10) := hW
  refine lv_astore_n hx hb (show decode cL_law 7 = .ok (.astore_n 1, 1) by decide +kernel) rfl hl (by decide) rfl (fun ls hl => ?_)
  replace hl : lv_has ls 4 [(1, .ref q10), (0, .ref b)] := hl
  refine k_new (ci := 11) C hW (by decide) (gT4 (i := 168) (by decide +kernel) rfl) nI11 nZ11 (by decide) (by decide) (show decode cL_law 8 = .ok (.new 10, 3) by decide +kernel) (fun q11 H hW => ?_)
  refine W.widen (k := 101) (n := 1039) (by decide) (by decide) ?_
  refine lv_dup hx hb (show decode cL_law 11 = .ok (.dup, 1) by decide +kernel) rfl ?_
  refine k_call C hW (as := []) (q := q11) (cX11 l K) kX11_init rfl rfl iX11_init (gT4 (i := 170) (by decide +kernel) rfl) (by decide) rfl hl.1 (Nat.le_of_ble_eq_true rfl) (by decide) (by decide) (show decode cL_law 12 = .ok (.invokespecial 12, 3) by decide +kernel) rfl (fun w1 H locs hw1 hW => ?_)
  obtain ⟨a11, rfl⟩ := hw1
  refine W.widen (k := 118) (n := 1682) (by decide) (by decide) ?_
  refine lv_astore_n hx hb (show decode cL_law 15 = .ok (.astore_n 2, 1) by decide +kernel) rfl hl (by decide) rfl (fun ls hl => ?_)
  replace hl : lv_has ls 4 [(2, .ref q11), (1, .ref q10), (0, .ref b)] := hl
  refine lv_iconst (v := n32 0) hx hb (show decode cL_law 16 = .ok (.iconst 0, 1) by decide +kernel) rfl ?_
  refine lv_istore_n hx hb (show decode cL_law 17 = .ok (.istore_n 3, 1) by decide +kernel) rfl hl (by decide) rfl (fun ls hl => ?_)
  replace hl : lv_has ls 4 [(3, .int (n32 0)), (2, .ref q11), (1, .ref q10), (0, .ref b)] := hl
  have hrel : lrel (gW K q10 a10 q11 a11 b t1 t2 L).1 ls 4 [zR 60 0, zR 0 0, zR 34 0, zI (5 * ((0 : Nat) : Int))] := by
    refine ⟨rfl, hl.1, hl.2.1, fun q hq => ?_⟩
    have hq2 : q ∈ [(0, Value.ref b), (1, .ref q10), (2, .ref q11), (3, .int (n32 0))] := hq
    refine hl.2.2 q ?_
    simp only [List.mem_cons, List.not_mem_nil, or_false] at hq2 ⊢
    rcases hq2 with h | h | h | h <;> simp [h]
  have hWl : Wld (gW K q10 a10 q11 a11 b t1 t2 L) A (zhp L xs) s H locs := by
    refine ⟨?_, ?_, hW.2.2.1, ⟨⟨?_, hbl, hA2 b hbl⟩, ⟨rfl, hL⟩, fun g hg => ?_⟩, zhp_ok hL xs⟩
    · rw [wsW]
      exact hW.1.sub isW (fm_of (ieW K q10 a10 q11 a11))
    · rw [wsW]
      exact hW.2.1.sub isW ndW (ieW K q10 a10 q11 a11)
    · obtain ⟨scr, x1, x2, x3, x4, x5⟩ := hX
      refine ⟨scr, x1, x2, x3, x4, fun j hj => ?_⟩
      rw [x5 j hj]
      exact congrArg (fun z => some (Value.int z)) (n32_of (xs j)).symm
    · rcases hg with rfl | rfl
      · exact S1
      · exact S2
  have hCt : Ctx 12 mL_law (gW K q10 a10 q11 a11 b t1 t2 L) p room_1 s m #[Value.ref b] c 118 1682 := ⟨hx, hb, hml, hown, htg, ⟨by decide, by decide, by decide, by decide, hnw⟩, hK.1.sub _ (tyW K q10 a10 q11 a11 b t1 t2 L)⟩
  have okL : okVs [zR 60 0, zR 0 0, zR 34 0, zI (5 * ((0 : Nat) : Int))] := okVs_cons (show (0 : Nat) < cntG 60 by decide +kernel) (okVs_cons (show (0 : Nat) < cntG 0 by decide +kernel) (okVs_cons (show (0 : Nat) < cntG 34 by decide +kernel) (okVs_cons (show inR _ from ⟨by omega, by omega⟩) (fun v hv => by cases hv))))
  refine law_loop (Q := fun rv _ => rv = some 1) (fun _ => rfl) 65 0 (zhp L xs) rfl (zhp_good xs) ⟨by show (0 : Int) ≤ (L : Int); omega, by show (L : Int) ≤ 320; omega⟩ okL (fun v hv => by cases hv) (gW K q10 a10 q11 a11 b t1 t2 L) p l e room_1 s m #[Value.ref b] below meth c 118 1682 A _ hCt H locs ls hWl hrel (fun rv σ' H' locs' ls' pc' hq hret hW' => ?_)
  subst hq
  refine va_forget (fun q hq => hA3 _ (hW'.2.2.1.2.2 q hq)) ?_
  refine W.widen (k := 600000) (n := 7302250) (by decide) (by decide) ?_
  exact lw_ret hx hb hr hlk hret.2
-- ===== YOUR PART ENDS =====
set_option maxHeartbeats 4000000 in
theorem lw_walk (l : Launch) (hflags : l.flags = flags0) (b : Addr) (xs : List Int32) : MetFree l x (headSpec (Jvm.Cond.code x code maxLocals ret :: tables_1) room_1) (lw_P b xs) (fun _ _ _ _ _ => True) lw_Q := by
  refine MetFree.of_bodyS (code := code) (maxLocals := maxLocals) (ret := ret) (by decide) ?_ ?_
  · intro args s m h hn
    obtain ⟨meth, c, h1, h2, h3, h4, h5, h6, -, -⟩ := Cond.code_spec hn (atoms_spec (ws := Jvm.Cond.code x code maxLocals ret :: tables_1) h _ List.mem_cons_self)
    exact ⟨meth, c, h1, h2, h3, h4, h5, h6⟩
  · intro p e s m args below meth c s₁ B hml0 hP _
    obtain ⟨rfl, hx, hbd, hgv⟩ := hP
    obtain ⟨scr, harrAt, hlist, hof, hsmall⟩ := hx
    obtain ⟨hcb, hkn, -, -⟩ := State.arrayAt?_spec harrAt
    have hown : s.vm.findClass R_law = some m.cls := findClass_of_methodNamed B.named
    have hts0 : ∀ c ∈ (Jvm.Cond.code x code maxLocals ret :: tables_1), c.before #[Value.ref b] s = true := atoms_spec (ws := Jvm.Cond.code x code maxLocals ret :: tables_1) B.pre
    have hts : ∀ w ∈ lw_tbl, w.before #[Value.ref b] s = true := k2_hts_sels lw_privs (fun w hw => hts0 w (List.mem_cons_of_mem _ hw)) lw_privs_ok
    have hml : c.maxLocals = 4 := B.maxLocals_eq (hts0 _ List.mem_cons_self)
    have X₀ : Stand p l e room_1 s m #[Value.ref b] below meth c s₁ [] 0 0 := Stand.of_body B
    have hh0 : s₁.heap = s.heap := by rw [B.state]; rfl
    have hsz : scr.slots.size = xs.length := by rw [← Array.length_toList, hlist, List.length_map]
    have hval : ∀ j : Nat, j < xs.length → scr.slots[j]? = some (.int (xs.getD j 0)) := fun j hj => by
      rw [← Array.getElem?_toList, hlist]
      simp [hj]
    have hbl : b < s.heap.size := (Array.getElem?_eq_some_iff.mp hcb).1
    have hX : va_X b xs.length (fun j => xs.getD j 0) s s.heap := ⟨scr, hcb, hof, hkn, hsz, hval⟩
    have K : W p l e room_1 s m #[Value.ref b] below meth c s₁.heap [] 0 0 (lw_Z below #[Value.ref b] s) (entryFrame m ([Value.ref b] : List Value).toArray 4) := by
      rw [hh0]
      exact whole_start l hflags hbd ⟨B.exec, B.bytes, B.returns, hml, hown, hts, hX, hbl, B.notSynchronized, hgv⟩
    obtain ⟨t, a1, o, b1, b2, b3⟩ := K s₁ rfl X₀
    exact ⟨t, o, a1, b1, b2, b3⟩
theorem lw_pre_spec {args : Array Value} {s : State} (h : (Jvm.Cond.and given_1 narrow_1).before args s = true) (hr : rest_1_c.before args s = true) : ∃ (b : Addr) (xs : List Int32), lw_P b xs args s := by
  have hs := flat_of_before _ h
  have hq := flat_of_before _ hr
  have hc : (Cond.count 1).before args s = true := hs _ (by decide +kernel)
  have harr : (Cond.arrayOf (.arg 0) .int).before args s = true := hs _ (by decide +kernel)
  have hle : (Cond.le (.length (.arg 0)) (.int 320)).before args s = true := hs _ (by decide +kernel)
  have hlen : (Cond.isInt (.length (.arg 0))).before args s = true := hq _ (by decide +kernel)
  have hall : (Cond.all (.arg 0) (.isInt (.elem (.arg 0) (.index 0)))).before args s = true := hq _ (by decide +kernel)
  obtain ⟨b, xs, hb, hx⟩ := State.ints_of_pre rfl harr hlen hall
  have hsm : xs.length < 2 ^ 31 := hx.choose_spec.2.2.2
  have hev : (Term.length (.arg 0)).eval args s none [] s = some (.int xs.length.toInt32) := hx.length_eval hb
  have hv := Cond.le_ints hev (show (Term.int 320).eval args s none [] s = some (.int 320) from rfl)
  have hd : xs.length.toInt32 ≤ 320 := by
    simpa [Cond.before, Cond.holds, hv] using hle
  have hN : xs.length ≤ 320 := (Int32.ofNat_le_ofNat hsm (by decide)).mp (show Int32.ofNat xs.length ≤ Int32.ofNat 320 from hd)
  exact ⟨b, xs, Cond.one_arg hc (show args[0]? = some (.ref b) from hb), hx, hN, h⟩
theorem lw_comes (l : Launch) (hflags : l.flags = flags0) : Comes l x (Jvm.Cond.code x code maxLocals ret :: tables_1) room_1 (fun tb e args s => Calls_1 tb e args s ∧ rest_1 tb e args s ∧ Pre_1 tb e args s)
    (fun _ _ args s o t => lw_Q args s o t) := by
  intro p e ha hc hk s m args below hf hfit hheap happ hpre
  obtain ⟨b, xs, hP⟩ := lw_pre_spec hpre.2.2 hpre.2.1
  obtain ⟨k, o, h1, h2, h3, hQ⟩ := lw_walk l hflags b xs p e ha hc hk s m args below hf ((Spec.applies_iff_loose hf).mp happ).1 hP trivial
  exact ⟨k, o, h1, h2, h3, hQ⟩
theorem lw_frame {s t : State} {o : Outcome} {args : Array Value} (h : Framed s o t [] 600000 7302250) :
    Framed s o t (fieldLocs frame_1_writes args s ++ arrayLocs frame_1_arrays args s ++ staticLocs frame_1_statics s) 600000 7302250 := h
theorem lw_limb (L : Cond) (hL : ∀ (args : Array Value) (s t : State), L.after args s (.returned (some (.int 1))) t = true) :
    ArmFor flags0 classFile x code maxLocals ret World_1 tables_1 room_1 Calls_1 rest_1 Pre_1
      (fun tb e a s o t => postC L tb e a s o t ∧ Framed s o t (fieldLocs frame_1_writes a s ++ arrayLocs frame_1_arrays a s ++ staticLocs frame_1_statics s) 600000 7302250) := by
  intro l hflags _ _ p e ha hc hk s m args below hf hfit hheap happ hpre
  obtain ⟨k, o, h1, h2, h3, rfl, hF⟩ := lw_comes l hflags p e ha hc hk s m args below hf hfit hheap happ hpre
  exact ⟨k, _, h1, h2, h3, hL args s _, lw_frame hF⟩
theorem i_vc : Claimed_1_1 ∧ Claimed_1_2 := ⟨lw_limb limb_1_1 (fun args s t => by simp [limb_1_1, Cond.after, Cond.holds, Cond.value]), lw_limb limb_1_2 (fun args s t => Cond.after_iff.mpr (by
  first | (rw [show limb_1_2 = Cond.eq .result (.int 1) from rfl, Cond.eq_ints (x := 1) (y := 1) rfl rfl]; simp; done) | (simp [limb_1_2, Cond.value, Term.eval]; done)))⟩
