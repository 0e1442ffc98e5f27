/-! System.arraycopy over ints -/
def zcpy (σ : Hp) (gs xs gd xd n : Nat) : Hp := fun g i j => if g = gd ∧ i = xd ∧ j < n then σ gs xs j else σ g i j
theorem w_copy : lw_tbl[496]? = some (Cond.native arraycopyName) ∧ lw_tbl[76]? = some (Cond.initialized "java/lang/System") ∧ lw_tbl[495]? = some (Cond.static arraycopyName) := ⟨by decide +kernel, by decide +kernel, by decide +kernel⟩
theorem r_copy {d : Nat} {M : Mt} {pc : Nat} {L S : List AV} {σ : Hp} {Q : Option Int → Hp → Prop} {gs xs gd xd idx n : Nat} (hlk : Cond.methodLink M.1.cls idx arraycopyName ∈ gTbl) (hd : decode M.2.1 pc = .ok (.invokestatic idx, 3)) (hdep : 1 ≤ d) (hs : shp gs = shp gd) (hk : (shp gd).1 = 0) (hn : n ≤ (shp gd).2.2.1) (hcat : catS S ≤ 8) (hne : (gs, xs) ≠ (gd, xd))
    (h : Runs d M (pc + 3) L S (zcpy σ gs xs gd xd n) Q) : Runs d M pc L (zI (n : Int) :: zI 0 :: zR gd xd :: zI 0 :: zR gs xs :: S) σ Q := by
  have hg : gd < 52 := kind_lt (by omega)
  have hks : (shp gs).1 = 0 := by rw [hs]; exact hk
  have hgs : gs < 52 := kind_lt (by omega)
  have hsm : ∀ g, g < 52 → (shp g).2.2.1 < 1000 := by decide +kernel
  have hsm := hsm gd hg
  refine Runs.step (L' := L) (S' := S) (σ' := zcpy σ gs xs gd xd n) (fun oL oS oH => ⟨oL, okVs_tl (okVs_tl (okVs_tl (okVs_tl (okVs_tl oS))))⟩) (fun G p l e R s m args below meth c cells slots A QQ C oL oS H locs ls hW hl kk => ?_) h
  obtain ⟨hx, hb, hml, hown, hts, hR, hK⟩ := C
  obtain ⟨q0, he0, hq0⟩ := ws_at G σ hgs (okVs_hd (okVs_tl (okVs_tl (okVs_tl (okVs_tl oS)))))
  obtain ⟨q1, he1, hq1⟩ := ws_at G σ hg (okVs_hd (okVs_tl (okVs_tl oS)))
  obtain ⟨t0, ht0⟩ := ty_at G hgs (by omega)
  obtain ⟨t1, ht1⟩ := ty_at G hg (by omega)
  rw [cell_int hks] at he0
  rw [cell_int hk] at he1
  rw [show atyG gs = .int by unfold atyG; rw [hks]; rfl] at ht0
  rw [show atyG gd = .int by unfold atyG; rw [hk]; rfl] at ht1
  have e0 : ((n32 0).toNatClampNeg : Nat) = 0 := rfl
  have en : ((n32 (n : Int)).toNatClampNeg : Nat) = n := by rw [n32_nat (by omega) ⟨by omega, by omega⟩]; omega
  have nn : ∀ z : Int, 0 ≤ z → inR z → ¬ n32 z < 0 := fun z h1 h2 q => by
    have : n32 z < n32 0 := q
    rw [n32_lt h2 inR_0] at this
    omega
  refine va_copyi hx hb (hml.trans hl.2.1.symm) hown (hts _ hlk) (hts _ (gTbl_in w_copy.1 rfl)) (hts _ (gTbl_in w_copy.2.2 rfl)) (hts _ (gTbl_in w_copy.2.1 rfl)) hK hW.1 hW.2.1 hW.2.2.1 q0 q1 t0 t1 he0 he1 ht0 ht1 rfl (sp := n32 0) (dp := n32 0) (n := n32 (n : Int)) (nn 0 (by omega) inR_0) (nn 0 (by omega) inR_0) (nn n (by omega) ⟨by omega, by omega⟩) (by rw [e0, en, hs]; omega) (by rw [e0, en]; omega) (fun _ _ => rfl) (by omega) ?_ hd (fun H1 locs1 p1 p2 p3 => ?_)
  · rw [catS_of]
    have : nativeFrameWords "java/lang/System" "arraycopy" 5 = 7 := by decide
    omega
  · refine kk H1 locs1 ls ?_ hl
    have hc : cellOf G (zcpy σ gs xs gd xd n) gd xd = .inl (G.2.2.1 gd, (shp gd).2.2.1, .inl (va_cpy (fun j => n32 (σ gs xs j)) (fun j => n32 (σ gd xd j)) (n32 0).toNatClampNeg (n32 0).toNatClampNeg (n32 (n : Int)).toNatClampNeg)) := by
      rw [cell_int hk, e0, en]
      congr 4
      funext j
      by_cases hj : j < n
      · simp [zcpy, va_cpy, hj]
      · simp [zcpy, va_cpy, hj]
    have hneq : ∀ g' i', (g', i') ≠ (gd, xd) → (zcpy σ gs xs gd xd n) g' i' = σ g' i' := fun g' i' hh => by
      funext j
      unfold zcpy
      rw [if_neg]
      rintro ⟨rfl, rfl, -⟩
      exact hh rfl
    have hws := ws_set (G := G) (σ := σ) (σ' := zcpy σ gs xs gd xd n) hq1 (fun g' i' hh => cell_ne (hneq g' i' hh))
    have hset : (wsOf G σ).set q1 (G.1 gd xd, .inl (G.2.2.1 gd, (shp gd).2.2.1, .inl (va_cpy (fun j => n32 (σ gs xs j)) (fun j => n32 (σ gd xd j)) (n32 0).toNatClampNeg (n32 0).toNatClampNeg (n32 (n : Int)).toNatClampNeg))) = wsOf G (zcpy σ gs xs gd xd n) := by rw [← hc]; exact hws
    refine ⟨hset ▸ p1, hset ▸ p2, p3, hW.2.2.2.1.same ?_ ?_ ?_, fun g i j => ?_⟩
    · funext i'; exact hneq _ _ (fun e => by cases e; omega)
    · funext i'; exact hneq _ _ (fun e => by cases e; omega)
    · funext i'; exact hneq _ _ (fun e => by cases e; omega)
    · unfold zcpy
      split
      · exact hW.2.2.2.2 _ _ _
      · exact hW.2.2.2.2 _ _ _
/-! answers -/
def rI (K : Int → Hp → Prop) : Option Int → Hp → Prop := fun rv σ => match rv with
  | some z => K z σ
  | none => False
def rV (K : Hp → Prop) : Option Int → Hp → Prop := fun rv σ => match rv with
  | some _ => False
  | none => K σ
theorem Runs.monoI {d : Nat} {M : Mt} {pc : Nat} {L S : List AV} {σ : Hp} {K K' : Int → Hp → Prop} (h : Runs d M pc L S σ (rI K)) (hq : ∀ z σ', K z σ' → K' z σ') : Runs d M pc L S σ (rI K') := h.mono (fun rv σ' q => by
  cases rv with
  | none => exact q
  | some z => exact hq z σ' q)
theorem Runs.monoV {d : Nat} {M : Mt} {pc : Nat} {L S : List AV} {σ : Hp} {K K' : Hp → Prop} (h : Runs d M pc L S σ (rV K)) (hq : ∀ σ', K σ' → K' σ') : Runs d M pc L S σ (rV K') := h.mono (fun rv σ' q => by
  cases rv with
  | none => exact hq σ' q
  | some z => exact q)
theorem r_callVI {d d' : Nat} {M Mc : Mt} {pc : Nat} {L S S0 As Lc : List AV} {σ : Hp} {Q : Option Int → Hp → Prop} {g x idx n ci : Nat} (hM : okMc Mc n) (hV : okVc Mc) (hlk : Cond.methodLink M.1.cls idx Mc.1 ∈ gTbl) (hd : decode M.2.1 pc = .ok (.invokevirtual idx, 3)) (hdep : d' + 1 ≤ d) (hg : (shp g).1 = ci + 3) (hcls : (clsT ci).1 = Mc.1.cls) (hci : ci < 12)
    (hS0 : S0 = As.reverse ++ zR g x :: S) (hn : As.length = n) (hcat : catS S ≤ 8) (hU : noU (zR g x :: As) = true) (hLc : L0 Mc.2.2.1 (zR g x :: As) = Lc) (hle : (eL (zR g x :: As)).length ≤ Mc.2.2.1) (hc : Runs d' Mc 0 Lc [] σ (rI (fun z σ' => Runs d M (pc + 3) L (zI z :: S) σ' Q))) : Runs d M pc L S0 σ Q :=
  r_callV hM hV hlk hd hdep hg hcls hci hS0 hn hcat hU hLc hle hc (fun rv σ' hq _ => by
    cases rv with
    | none => exact hq.elim
    | some z => exact hq)
theorem r_callVV {d d' : Nat} {M Mc : Mt} {pc : Nat} {L S S0 As Lc : List AV} {σ : Hp} {Q : Option Int → Hp → Prop} {g x idx n ci : Nat} (hM : okMc Mc n) (hV : okVc Mc) (hlk : Cond.methodLink M.1.cls idx Mc.1 ∈ gTbl) (hd : decode M.2.1 pc = .ok (.invokevirtual idx, 3)) (hdep : d' + 1 ≤ d) (hg : (shp g).1 = ci + 3) (hcls : (clsT ci).1 = Mc.1.cls) (hci : ci < 12)
    (hS0 : S0 = As.reverse ++ zR g x :: S) (hn : As.length = n) (hcat : catS S ≤ 8) (hU : noU (zR g x :: As) = true) (hLc : L0 Mc.2.2.1 (zR g x :: As) = Lc) (hle : (eL (zR g x :: As)).length ≤ Mc.2.2.1) (hc : Runs d' Mc 0 Lc [] σ (rV (fun σ' => Runs d M (pc + 3) L S σ' Q))) : Runs d M pc L S0 σ Q :=
  r_callV hM hV hlk hd hdep hg hcls hci hS0 hn hcat hU hLc hle hc (fun rv σ' hq _ => by
    cases rv with
    | none => exact hq
    | some z => exact hq.elim)
theorem r_callSI {d d' : Nat} {M Mc : Mt} {pc : Nat} {L S S0 As Lc : List AV} {σ : Hp} {Q : Option Int → Hp → Prop} {idx n : Nat} (hM : okMc Mc n) (hV : Cond.static Mc.1 ∈ gTbl) (hlk : Cond.methodLink M.1.cls idx Mc.1 ∈ gTbl) (hd : decode M.2.1 pc = .ok (.invokestatic idx, 3)) (hdep : d' + 1 ≤ d)
    (hS0 : S0 = As.reverse ++ S) (hn : As.length = n) (hcat : catS S ≤ 8) (hU : noU As = true) (hLc : L0 Mc.2.2.1 As = Lc) (hle : (eL As).length ≤ Mc.2.2.1) (hc : Runs d' Mc 0 Lc [] σ (rI (fun z σ' => Runs d M (pc + 3) L (zI z :: S) σ' Q))) : Runs d M pc L S0 σ Q :=
  r_callS hM hV hlk hd hdep hS0 hn hcat hU hLc hle hc (fun rv σ' hq _ => by
    cases rv with
    | none => exact hq.elim
    | some z => exact hq)
theorem r_callSV {d d' : Nat} {M Mc : Mt} {pc : Nat} {L S S0 As Lc : List AV} {σ : Hp} {Q : Option Int → Hp → Prop} {idx n : Nat} (hM : okMc Mc n) (hV : Cond.static Mc.1 ∈ gTbl) (hlk : Cond.methodLink M.1.cls idx Mc.1 ∈ gTbl) (hd : decode M.2.1 pc = .ok (.invokestatic idx, 3)) (hdep : d' + 1 ≤ d)
    (hS0 : S0 = As.reverse ++ S) (hn : As.length = n) (hcat : catS S ≤ 8) (hU : noU As = true) (hLc : L0 Mc.2.2.1 As = Lc) (hle : (eL As).length ≤ Mc.2.2.1) (hc : Runs d' Mc 0 Lc [] σ (rV (fun σ' => Runs d M (pc + 3) L S σ' Q))) : Runs d M pc L S0 σ Q :=
  r_callS hM hV hlk hd hdep hS0 hn hcat hU hLc hle hc (fun rv σ' hq _ => by
    cases rv with
    | none => exact hq
    | some z => exact hq.elim)
theorem r_callNI {d d' : Nat} {M Mc : Mt} {pc : Nat} {L S S0 As Lc : List AV} {σ : Hp} {Q : Option Int → Hp → Prop} {idx n : Nat} {host : String} (hM : okMc Mc n) (hV : Cond.static Mc.1 ∈ gTbl) (hlk : Cond.methodLinkNest M.1.cls idx Mc.1 host ∈ lw_tbl) (hd : decode M.2.1 pc = .ok (.invokestatic idx, 3)) (hdep : d' + 1 ≤ d)
    (hS0 : S0 = As.reverse ++ S) (hn : As.length = n) (hcat : catS S ≤ 8) (hU : noU As = true) (hLc : L0 Mc.2.2.1 As = Lc) (hle : (eL As).length ≤ Mc.2.2.1) (hc : Runs d' Mc 0 Lc [] σ (rI (fun z σ' => Runs d M (pc + 3) L (zI z :: S) σ' Q))) : Runs d M pc L S0 σ Q :=
  r_callN hM hV hlk hd hdep hS0 hn hcat hU hLc hle hc (fun rv σ' hq _ => by
    cases rv with
    | none => exact hq.elim
    | some z => exact hq)
/-! Math.max, Math.min -/
theorem w_math : lw_tbl[77]? = some (Cond.initialized "java/lang/Math") ∧ lw_tbl[511]? = some (Cond.code Lib.Math.max.name Lib.Math.max.code 2 (some .int)) ∧ lw_tbl[510]? = some (Cond.static Lib.Math.max.name) ∧ lw_tbl[690]? = some (Cond.code Lib.Math.min.name Lib.Math.min.code 2 (some .int)) ∧ lw_tbl[689]? = some (Cond.static Lib.Math.min.name) := ⟨by decide +kernel, by decide +kernel, by decide +kernel, by decide +kernel, by decide +kernel⟩
theorem r_max {d : Nat} {M : Mt} {pc : Nat} {L S : List AV} {σ : Hp} {Q : Option Int → Hp → Prop} {a b : Int} {idx : Nat} (hlk : Cond.methodLink M.1.cls idx Lib.Math.max.name ∈ gTbl) (hd : decode M.2.1 pc = .ok (.invokestatic idx, 3)) (hdep : 1 ≤ d) (hcat : catS S ≤ 8) (h : Runs d M (pc + 3) L (zI (if a < b then b else a) :: S) σ Q) : Runs d M pc L (zI b :: zI a :: S) σ Q := by
  refine Runs.step (L' := L) (S' := zI (if a < b then b else a) :: S) (σ' := σ) (fun oL oS oH => ⟨oL, okVs_cons (by split; exact okVs_hd oS; exact okVs_hd (okVs_tl oS)) (okVs_tl (okVs_tl oS))⟩) (fun G p l e R s m args below meth c cells slots A QQ C oL oS H locs ls hW hl kk => ?_) h
  obtain ⟨hx, hb, hml, hown, hts, hR, hK⟩ := C
  refine va_mmax hx hb (hml.trans hl.2.1.symm) hown (hts _ hlk) (hts _ (gTbl_in w_math.2.2.1 rfl)) (hts _ (gTbl_in w_math.1 rfl)) (hts _ (gTbl_in w_math.2.1 rfl)) (by omega) (by rw [catS_of]; omega) hR.2.2.1 hR.2.2.2.1 hd ?_
  have := kk H locs ls hW hl
  have e : (if n32 a < n32 b then n32 b else n32 a) = n32 (if a < b then b else a) := by
    by_cases q : a < b
    · rw [if_pos q, if_pos ((n32_lt (okVs_hd (okVs_tl oS)) (okVs_hd oS)).mpr q)]
    · rw [if_neg q, if_neg (fun z => q ((n32_lt (okVs_hd (okVs_tl oS)) (okVs_hd oS)).mp z))]
  rw [e]
  exact this
theorem r_min {d : Nat} {M : Mt} {pc : Nat} {L S : List AV} {σ : Hp} {Q : Option Int → Hp → Prop} {a b : Int} {idx : Nat} (hlk : Cond.methodLink M.1.cls idx Lib.Math.min.name ∈ gTbl) (hd : decode M.2.1 pc = .ok (.invokestatic idx, 3)) (hdep : 1 ≤ d) (hcat : catS S ≤ 8) (h : Runs d M (pc + 3) L (zI (if b < a then b else a) :: S) σ Q) : Runs d M pc L (zI b :: zI a :: S) σ Q := by
  refine Runs.step (L' := L) (S' := zI (if b < a then b else a) :: S) (σ' := σ) (fun oL oS oH => ⟨oL, okVs_cons (by split; exact okVs_hd oS; exact okVs_hd (okVs_tl oS)) (okVs_tl (okVs_tl oS))⟩) (fun G p l e R s m args below meth c cells slots A QQ C oL oS H locs ls hW hl kk => ?_) h
  obtain ⟨hx, hb, hml, hown, hts, hR, hK⟩ := C
  refine va_mmin hx hb (hml.trans hl.2.1.symm) hown (hts _ hlk) (hts _ (gTbl_in w_math.2.2.2.2 rfl)) (hts _ (gTbl_in w_math.1 rfl)) (hts _ (gTbl_in w_math.2.2.2.1 rfl)) (by omega) (by rw [catS_of]; omega) hR.2.2.1 hR.2.2.2.1 hd ?_
  have := kk H locs ls hW hl
  have e : (if n32 b < n32 a then n32 b else n32 a) = n32 (if b < a then b else a) := by
    by_cases q : b < a
    · rw [if_pos q, if_pos ((n32_lt (okVs_hd oS) (okVs_hd (okVs_tl oS))).mpr q)]
    · rw [if_neg q, if_neg (fun z => q ((n32_lt (okVs_hd oS) (okVs_hd (okVs_tl oS))).mp z))]
  rw [e]
  exact this
