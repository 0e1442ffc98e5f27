/-! branches -/
theorem r_if_eq {d : Nat} {M : Mt} {pc : Nat} {L S : List AV} {σ : Hp} {Q : Option Int → Hp → Prop} {a off : Int} {tgt : Nat} (hd : decode M.2.1 pc = .ok (.ifCond .eq off, 3)) (ht : (pc : Int) + off = (tgt : Int)) (kt : a = 0 → Runs d M tgt L S σ Q) (kf : ¬ a = 0 → Runs d M (pc + 3) L S σ Q) : Runs d M pc L (zI a :: S) σ Q := by
  intro oL oS G p l e R s m args below meth c cells slots A QQ C H locs ls hW hl kk
  have hh : _ := n32_inj (okVs_hd oS) inR_0
  exact lv_if_eq C.1 C.2.1 hd ht (fun q => kt (hh.mp q) oL (okVs_tl oS) G p l e R s m args below meth c cells slots A QQ C H locs ls hW hl kk) (fun q => kf (fun z => q (hh.mpr z)) oL (okVs_tl oS) G p l e R s m args below meth c cells slots A QQ C H locs ls hW hl kk)
theorem r_if_ne {d : Nat} {M : Mt} {pc : Nat} {L S : List AV} {σ : Hp} {Q : Option Int → Hp → Prop} {a off : Int} {tgt : Nat} (hd : decode M.2.1 pc = .ok (.ifCond .ne off, 3)) (ht : (pc : Int) + off = (tgt : Int)) (kt : ¬ a = 0 → Runs d M tgt L S σ Q) (kf : a = 0 → Runs d M (pc + 3) L S σ Q) : Runs d M pc L (zI a :: S) σ Q := by
  intro oL oS G p l e R s m args below meth c cells slots A QQ C H locs ls hW hl kk
  have hh : _ := n32_inj (okVs_hd oS) inR_0
  exact lv_if_ne C.1 C.2.1 hd ht (fun q => kt (fun z => q (hh.mpr z)) oL (okVs_tl oS) G p l e R s m args below meth c cells slots A QQ C H locs ls hW hl kk) (fun q => kf (hh.mp q) oL (okVs_tl oS) G p l e R s m args below meth c cells slots A QQ C H locs ls hW hl kk)
theorem r_if_lt {d : Nat} {M : Mt} {pc : Nat} {L S : List AV} {σ : Hp} {Q : Option Int → Hp → Prop} {a off : Int} {tgt : Nat} (hd : decode M.2.1 pc = .ok (.ifCond .lt off, 3)) (ht : (pc : Int) + off = (tgt : Int)) (kt : a < 0 → Runs d M tgt L S σ Q) (kf : ¬ a < 0 → Runs d M (pc + 3) L S σ Q) : Runs d M pc L (zI a :: S) σ Q := by
  intro oL oS G p l e R s m args below meth c cells slots A QQ C H locs ls hW hl kk
  have hh : _ := n32_lt (okVs_hd oS) inR_0
  exact lv_if_lt C.1 C.2.1 hd ht (fun q => kt (hh.mp q) oL (okVs_tl oS) G p l e R s m args below meth c cells slots A QQ C H locs ls hW hl kk) (fun q => kf (fun z => q (hh.mpr z)) oL (okVs_tl oS) G p l e R s m args below meth c cells slots A QQ C H locs ls hW hl kk)
theorem r_if_ge {d : Nat} {M : Mt} {pc : Nat} {L S : List AV} {σ : Hp} {Q : Option Int → Hp → Prop} {a off : Int} {tgt : Nat} (hd : decode M.2.1 pc = .ok (.ifCond .ge off, 3)) (ht : (pc : Int) + off = (tgt : Int)) (kt : 0 ≤ a → Runs d M tgt L S σ Q) (kf : ¬ 0 ≤ a → Runs d M (pc + 3) L S σ Q) : Runs d M pc L (zI a :: S) σ Q := by
  intro oL oS G p l e R s m args below meth c cells slots A QQ C H locs ls hW hl kk
  have hh : _ := n32_le inR_0 (okVs_hd oS)
  exact lv_if_ge C.1 C.2.1 hd ht (fun q => kt (hh.mp q) oL (okVs_tl oS) G p l e R s m args below meth c cells slots A QQ C H locs ls hW hl kk) (fun q => kf (fun z => q (hh.mpr z)) oL (okVs_tl oS) G p l e R s m args below meth c cells slots A QQ C H locs ls hW hl kk)
theorem r_if_gt {d : Nat} {M : Mt} {pc : Nat} {L S : List AV} {σ : Hp} {Q : Option Int → Hp → Prop} {a off : Int} {tgt : Nat} (hd : decode M.2.1 pc = .ok (.ifCond .gt off, 3)) (ht : (pc : Int) + off = (tgt : Int)) (kt : 0 < a → Runs d M tgt L S σ Q) (kf : ¬ 0 < a → Runs d M (pc + 3) L S σ Q) : Runs d M pc L (zI a :: S) σ Q := by
  intro oL oS G p l e R s m args below meth c cells slots A QQ C H locs ls hW hl kk
  have hh : _ := n32_lt inR_0 (okVs_hd oS)
  exact lv_if_gt C.1 C.2.1 hd ht (fun q => kt (hh.mp q) oL (okVs_tl oS) G p l e R s m args below meth c cells slots A QQ C H locs ls hW hl kk) (fun q => kf (fun z => q (hh.mpr z)) oL (okVs_tl oS) G p l e R s m args below meth c cells slots A QQ C H locs ls hW hl kk)
theorem r_if_le {d : Nat} {M : Mt} {pc : Nat} {L S : List AV} {σ : Hp} {Q : Option Int → Hp → Prop} {a off : Int} {tgt : Nat} (hd : decode M.2.1 pc = .ok (.ifCond .le off, 3)) (ht : (pc : Int) + off = (tgt : Int)) (kt : a ≤ 0 → Runs d M tgt L S σ Q) (kf : ¬ a ≤ 0 → Runs d M (pc + 3) L S σ Q) : Runs d M pc L (zI a :: S) σ Q := by
  intro oL oS G p l e R s m args below meth c cells slots A QQ C H locs ls hW hl kk
  have hh : _ := n32_le (okVs_hd oS) inR_0
  exact lv_if_le C.1 C.2.1 hd ht (fun q => kt (hh.mp q) oL (okVs_tl oS) G p l e R s m args below meth c cells slots A QQ C H locs ls hW hl kk) (fun q => kf (fun z => q (hh.mpr z)) oL (okVs_tl oS) G p l e R s m args below meth c cells slots A QQ C H locs ls hW hl kk)
theorem r_icmp_eq {d : Nat} {M : Mt} {pc : Nat} {L S : List AV} {σ : Hp} {Q : Option Int → Hp → Prop} {a b off : Int} {tgt : Nat} (hd : decode M.2.1 pc = .ok (.if_icmp .eq off, 3)) (ht : (pc : Int) + off = (tgt : Int)) (kt : a = b → Runs d M tgt L S σ Q) (kf : ¬ a = b → Runs d M (pc + 3) L S σ Q) : Runs d M pc L (zI b :: zI a :: S) σ Q := by
  intro oL oS G p l e R s m args below meth c cells slots A QQ C H locs ls hW hl kk
  have hh : _ := n32_inj (okVs_hd (okVs_tl oS)) (okVs_hd oS)
  exact lv_icmp_eq C.1 C.2.1 hd ht (fun q => kt (hh.mp q) oL (okVs_tl (okVs_tl oS)) G p l e R s m args below meth c cells slots A QQ C H locs ls hW hl kk) (fun q => kf (fun z => q (hh.mpr z)) oL (okVs_tl (okVs_tl oS)) G p l e R s m args below meth c cells slots A QQ C H locs ls hW hl kk)
theorem r_icmp_ne {d : Nat} {M : Mt} {pc : Nat} {L S : List AV} {σ : Hp} {Q : Option Int → Hp → Prop} {a b off : Int} {tgt : Nat} (hd : decode M.2.1 pc = .ok (.if_icmp .ne off, 3)) (ht : (pc : Int) + off = (tgt : Int)) (kt : ¬ a = b → Runs d M tgt L S σ Q) (kf : a = b → Runs d M (pc + 3) L S σ Q) : Runs d M pc L (zI b :: zI a :: S) σ Q := by
  intro oL oS G p l e R s m args below meth c cells slots A QQ C H locs ls hW hl kk
  have hh : _ := n32_inj (okVs_hd (okVs_tl oS)) (okVs_hd oS)
  exact lv_icmp_ne C.1 C.2.1 hd ht (fun q => kt (fun z => q (hh.mpr z)) oL (okVs_tl (okVs_tl oS)) G p l e R s m args below meth c cells slots A QQ C H locs ls hW hl kk) (fun q => kf (hh.mp q) oL (okVs_tl (okVs_tl oS)) G p l e R s m args below meth c cells slots A QQ C H locs ls hW hl kk)
theorem r_icmp_lt {d : Nat} {M : Mt} {pc : Nat} {L S : List AV} {σ : Hp} {Q : Option Int → Hp → Prop} {a b off : Int} {tgt : Nat} (hd : decode M.2.1 pc = .ok (.if_icmp .lt off, 3)) (ht : (pc : Int) + off = (tgt : Int)) (kt : a < b → Runs d M tgt L S σ Q) (kf : ¬ a < b → Runs d M (pc + 3) L S σ Q) : Runs d M pc L (zI b :: zI a :: S) σ Q := by
  intro oL oS G p l e R s m args below meth c cells slots A QQ C H locs ls hW hl kk
  have hh : _ := n32_lt (okVs_hd (okVs_tl oS)) (okVs_hd oS)
  exact lv_icmp_lt C.1 C.2.1 hd ht (fun q => kt (hh.mp q) oL (okVs_tl (okVs_tl oS)) G p l e R s m args below meth c cells slots A QQ C H locs ls hW hl kk) (fun q => kf (fun z => q (hh.mpr z)) oL (okVs_tl (okVs_tl oS)) G p l e R s m args below meth c cells slots A QQ C H locs ls hW hl kk)
theorem r_icmp_ge {d : Nat} {M : Mt} {pc : Nat} {L S : List AV} {σ : Hp} {Q : Option Int → Hp → Prop} {a b off : Int} {tgt : Nat} (hd : decode M.2.1 pc = .ok (.if_icmp .ge off, 3)) (ht : (pc : Int) + off = (tgt : Int)) (kt : b ≤ a → Runs d M tgt L S σ Q) (kf : ¬ b ≤ a → Runs d M (pc + 3) L S σ Q) : Runs d M pc L (zI b :: zI a :: S) σ Q := by
  intro oL oS G p l e R s m args below meth c cells slots A QQ C H locs ls hW hl kk
  have hh : _ := n32_le (okVs_hd oS) (okVs_hd (okVs_tl oS))
  exact lv_icmp_ge C.1 C.2.1 hd ht (fun q => kt (hh.mp q) oL (okVs_tl (okVs_tl oS)) G p l e R s m args below meth c cells slots A QQ C H locs ls hW hl kk) (fun q => kf (fun z => q (hh.mpr z)) oL (okVs_tl (okVs_tl oS)) G p l e R s m args below meth c cells slots A QQ C H locs ls hW hl kk)
theorem r_icmp_gt {d : Nat} {M : Mt} {pc : Nat} {L S : List AV} {σ : Hp} {Q : Option Int → Hp → Prop} {a b off : Int} {tgt : Nat} (hd : decode M.2.1 pc = .ok (.if_icmp .gt off, 3)) (ht : (pc : Int) + off = (tgt : Int)) (kt : b < a → Runs d M tgt L S σ Q) (kf : ¬ b < a → Runs d M (pc + 3) L S σ Q) : Runs d M pc L (zI b :: zI a :: S) σ Q := by
  intro oL oS G p l e R s m args below meth c cells slots A QQ C H locs ls hW hl kk
  have hh : _ := n32_lt (okVs_hd oS) (okVs_hd (okVs_tl oS))
  exact lv_icmp_gt C.1 C.2.1 hd ht (fun q => kt (hh.mp q) oL (okVs_tl (okVs_tl oS)) G p l e R s m args below meth c cells slots A QQ C H locs ls hW hl kk) (fun q => kf (fun z => q (hh.mpr z)) oL (okVs_tl (okVs_tl oS)) G p l e R s m args below meth c cells slots A QQ C H locs ls hW hl kk)
theorem r_icmp_le {d : Nat} {M : Mt} {pc : Nat} {L S : List AV} {σ : Hp} {Q : Option Int → Hp → Prop} {a b off : Int} {tgt : Nat} (hd : decode M.2.1 pc = .ok (.if_icmp .le off, 3)) (ht : (pc : Int) + off = (tgt : Int)) (kt : a ≤ b → Runs d M tgt L S σ Q) (kf : ¬ a ≤ b → Runs d M (pc + 3) L S σ Q) : Runs d M pc L (zI b :: zI a :: S) σ Q := by
  intro oL oS G p l e R s m args below meth c cells slots A QQ C H locs ls hW hl kk
  have hh : _ := n32_le (okVs_hd (okVs_tl oS)) (okVs_hd oS)
  exact lv_icmp_le C.1 C.2.1 hd ht (fun q => kt (hh.mp q) oL (okVs_tl (okVs_tl oS)) G p l e R s m args below meth c cells slots A QQ C H locs ls hW hl kk) (fun q => kf (fun z => q (hh.mpr z)) oL (okVs_tl (okVs_tl oS)) G p l e R s m args below meth c cells slots A QQ C H locs ls hW hl kk)
theorem r_goto {d : Nat} {M : Mt} {pc : Nat} {L S : List AV} {σ : Hp} {Q : Option Int → Hp → Prop} {off : Int} {tgt : Nat} (hd : decode M.2.1 pc = .ok (.goto off, 3)) (ht : (pc : Int) + off = (tgt : Int)) (k : Runs d M tgt L S σ Q) : Runs d M pc L S σ Q := by
  intro oL oS G p l e R s m args below meth c cells slots A QQ C H locs ls hW hl kk
  exact lv_goto C.1 C.2.1 hd ht (k oL oS G p l e R s m args below meth c cells slots A QQ C H locs ls hW hl kk)
theorem r_tableOut {d : Nat} {M : Mt} {pc : Nat} {L S : List AV} {σ : Hp} {Q : Option Int → Hp → Prop} {a dflt lo hi : Int} {offs : Array Int} {len tgt : Nat} (hd : decode M.2.1 pc = .ok (.tableswitch dflt lo hi offs, len)) (h : a < lo ∨ hi < a) (ht : (pc : Int) + dflt = (tgt : Int)) (k : Runs d M tgt L S σ Q) : Runs d M pc L (zI a :: S) σ Q := by
  intro oL oS G p l e R s m args below meth c cells slots A QQ C H locs ls hW hl kk
  exact lv_tableOut C.1 C.2.1 hd (by rw [n32_canon (okVs_hd oS)]; exact h) ht (k oL (okVs_tl oS) G p l e R s m args below meth c cells slots A QQ C H locs ls hW hl kk)
theorem r_tableIn {d : Nat} {M : Mt} {pc : Nat} {L S : List AV} {σ : Hp} {Q : Option Int → Hp → Prop} {a dflt lo hi off : Int} {offs : Array Int} {len tgt : Nat} (hd : decode M.2.1 pc = .ok (.tableswitch dflt lo hi offs, len)) (h1 : lo ≤ a) (h2 : a ≤ hi) (ho : offs[(a - lo).toNat]? = some off) (ht : (pc : Int) + off = (tgt : Int)) (k : Runs d M tgt L S σ Q) : Runs d M pc L (zI a :: S) σ Q := by
  intro oL oS G p l e R s m args below meth c cells slots A QQ C H locs ls hW hl kk
  exact lv_tableIn C.1 C.2.1 hd (by rw [n32_canon (okVs_hd oS)]; omega) (by rw [n32_canon (okVs_hd oS)]; omega) (by rw [n32_canon (okVs_hd oS)]; exact ho) ht (k oL (okVs_tl oS) G p l e R s m args below meth c cells slots A QQ C H locs ls hW hl kk)
theorem r_lookup {d : Nat} {M : Mt} {pc : Nat} {L S : List AV} {σ : Hp} {Q : Option Int → Hp → Prop} {a dflt off : Int} {ps : Array (Int × Int)} {len tgt : Nat} (hd : decode M.2.1 pc = .ok (.lookupswitch dflt ps, len)) (hp : (ps.toList.zip (ps.toList.drop 1)).all (fun (a, next) => a.1 < next.1) = true) (ho : Op.lookupswitch.offset ps.toList dflt a = off) (ht : (pc : Int) + off = (tgt : Int)) (k : Runs d M tgt L S σ Q) : Runs d M pc L (zI a :: S) σ Q := by
  intro oL oS G p l e R s m args below meth c cells slots A QQ C H locs ls hW hl kk
  exact lv_lookup C.1 C.2.1 hd hp (by rw [n32_canon (okVs_hd oS)]; exact ho) ht (k oL (okVs_tl oS) G p l e R s m args below meth c cells slots A QQ C H locs ls hW hl kk)
theorem r_ret {d : Nat} {M : Mt} {pc : Nat} {L : List AV} {σ : Hp} {Q : Option Int → Hp → Prop} {z : Int} (hd : decode M.2.1 pc = .ok (.ireturn, 1)) (hr : M.2.2.2.1 = some .int) (h : inR z → Q (some z) σ) : Runs d M pc L [zI z] σ Q := by
  intro oL oS G p l e R s m args below meth c cells slots A QQ C H locs ls hW hl kk
  exact kk (some z) σ H locs ls pc (h (okVs_hd oS)) ⟨⟨okVs_hd oS, Or.inl hr⟩, hd⟩ hW
theorem r_retz {d : Nat} {M : Mt} {pc : Nat} {L : List AV} {σ : Hp} {Q : Option Int → Hp → Prop} {z : Int} (hd : decode M.2.1 pc = .ok (.ireturn, 1)) (hr : M.2.2.2.1 = some .boolean) (hz : z = 0 ∨ z = 1) (h : Q (some z) σ) : Runs d M pc L [zI z] σ Q := by
  intro oL oS G p l e R s m args below meth c cells slots A QQ C H locs ls hW hl kk
  exact kk (some z) σ H locs ls pc h ⟨⟨okVs_hd oS, Or.inr ⟨hr, hz⟩⟩, hd⟩ hW
theorem r_retv {d : Nat} {M : Mt} {pc : Nat} {L : List AV} {σ : Hp} {Q : Option Int → Hp → Prop} (hd : decode M.2.1 pc = .ok (.return_, 1)) (hr : M.2.2.2.1 = none) (h : Q none σ) : Runs d M pc L [] σ Q := by
  intro oL oS G p l e R s m args below meth c cells slots A QQ C H locs ls hW hl kk
  exact kk none σ H locs ls pc h ⟨hr, hd⟩ hW
/-! a stretch of instructions without branches and calls -/
abbrev Ins : Type := Instr × Nat × Nat × Int
abbrev XR : Type := Option (List AV × List AV × Hp × List Prop)
abbrev qO (i : Instr) : Ins := (i, 0, 0, 0)
abbrev qF (i : Instr) (c k : Nat) : Ins := (i, c, k, 0)
abbrev qC (i : Instr) (v : Int) : Ins := (i, 0, 0, v)
def x_iconst (n : Int) (L S : List AV) (σ : Hp) (c k : Nat) (v : Int) : XR := some (L, zI n :: S, σ, [])
def x_bipush (n : Int) (L S : List AV) (σ : Hp) (c k : Nat) (v : Int) : XR := some (L, zI n :: S, σ, [])
def x_sipush (n : Int) (L S : List AV) (σ : Hp) (c k : Nat) (v : Int) : XR := some (L, zI n :: S, σ, [])
def x_ldc (i : Nat) (L S : List AV) (σ : Hp) (c k : Nat) (v : Int) : XR := some (L, zI v :: S, σ, [])
def x_ldc_w (i : Nat) (L S : List AV) (σ : Hp) (c k : Nat) (v : Int) : XR := some (L, zI v :: S, σ, [])
def x_ldc2_w (i : Nat) (L S : List AV) (σ : Hp) (c k : Nat) (v : Int) : XR := some (L, zJ (Int64.ofInt v) :: S, σ, [])
def x_iload (i : Nat) (L S : List AV) (σ : Hp) (c k : Nat) (v : Int) : XR := match L[i]? with
  | some (.inl z) => some (L, zI z :: S, σ, [])
  | _ => none
def x_iload_n (i : Fin 4) (L S : List AV) (σ : Hp) (c k : Nat) (v : Int) : XR := match L[i.val]? with
  | some (.inl z) => some (L, zI z :: S, σ, [])
  | _ => none
def x_aload (i : Nat) (L S : List AV) (σ : Hp) (c k : Nat) (v : Int) : XR := match L[i]? with
  | some (.inr (.inl (g, x))) => some (L, zR g x :: S, σ, [])
  | _ => none
def x_aload_n (i : Fin 4) (L S : List AV) (σ : Hp) (c k : Nat) (v : Int) : XR := match L[i.val]? with
  | some (.inr (.inl (g, x))) => some (L, zR g x :: S, σ, [])
  | _ => none
def x_lload_n (i : Fin 4) (L S : List AV) (σ : Hp) (c k : Nat) (v : Int) : XR := match L[i.val]? with
  | some (.inr (.inr (.inl x))) => some (L, zJ x :: S, σ, [])
  | _ => none
def x_istore (i : Nat) (L S : List AV) (σ : Hp) (c k : Nat) (v : Int) : XR := match S with
  | .inl z :: S => if noJ L i = true ∧ i < L.length then some (L.set i (zI z), S, σ, []) else none
  | _ => none
def x_istore_n (i : Fin 4) (L S : List AV) (σ : Hp) (c k : Nat) (v : Int) : XR := match S with
  | .inl z :: S => if noJ L i.val = true ∧ i.val < L.length then some (L.set i.val (zI z), S, σ, []) else none
  | _ => none
def x_iinc (i : Nat) (n : Int) (L S : List AV) (σ : Hp) (c k : Nat) (v : Int) : XR := match L[i]? with
  | some (.inl z) => if noJ L i = true ∧ i < L.length then some (L.set i (zI (z + n)), S, σ, [-2147483648 ≤ z + n ∧ z + n ≤ 2147483647]) else none
  | _ => none
def x_iadd (L S : List AV) (σ : Hp) (c k : Nat) (v : Int) : XR := match S with
  | .inl b :: .inl a :: S => if v = 0 then some (L, zI (a + b) :: S, σ, [-2147483648 ≤ a + b ∧ a + b ≤ 2147483647]) else some (L, zI (wrap (a + b)) :: S, σ, [])
  | _ => none
def x_isub (L S : List AV) (σ : Hp) (c k : Nat) (v : Int) : XR := match S with
  | .inl b :: .inl a :: S => if v = 0 then some (L, zI (a - b) :: S, σ, [-2147483648 ≤ a - b ∧ a - b ≤ 2147483647]) else some (L, zI (wrap (a - b)) :: S, σ, [])
  | _ => none
def x_imul (L S : List AV) (σ : Hp) (c k : Nat) (v : Int) : XR := match S with
  | .inl b :: .inl a :: S => if v = 0 then some (L, zI (a * b) :: S, σ, [-2147483648 ≤ a * b ∧ a * b ≤ 2147483647]) else some (L, zI (wrap (a * b)) :: S, σ, [])
  | _ => none
def x_iand (L S : List AV) (σ : Hp) (c k : Nat) (v : Int) : XR := match S with
  | .inl b :: .inl a :: S => some (L, zI (zand a b) :: S, σ, [])
  | _ => none
def x_ior (L S : List AV) (σ : Hp) (c k : Nat) (v : Int) : XR := match S with
  | .inl b :: .inl a :: S => some (L, zI (zor a b) :: S, σ, [])
  | _ => none
def x_ixor (L S : List AV) (σ : Hp) (c k : Nat) (v : Int) : XR := match S with
  | .inl b :: .inl a :: S => some (L, zI (zxor a b) :: S, σ, [])
  | _ => none
def x_ishl (L S : List AV) (σ : Hp) (c k : Nat) (v : Int) : XR := match S with
  | .inl b :: .inl a :: S => some (L, zI (zshl a b) :: S, σ, [])
  | _ => none
def x_ishr (L S : List AV) (σ : Hp) (c k : Nat) (v : Int) : XR := match S with
  | .inl b :: .inl a :: S => some (L, zI (zshr a b) :: S, σ, [])
  | _ => none
def x_iushr (L S : List AV) (σ : Hp) (c k : Nat) (v : Int) : XR := match S with
  | .inl b :: .inl a :: S => some (L, zI (zushr a b) :: S, σ, [])
  | _ => none
def x_ineg (L S : List AV) (σ : Hp) (c k : Nat) (v : Int) : XR := match S with
  | .inl a :: S => some (L, zI (-a) :: S, σ, [-2147483648 ≤ -a ∧ -a ≤ 2147483647])
  | _ => none
def x_idiv (L S : List AV) (σ : Hp) (c k : Nat) (v : Int) : XR := match S with
  | .inl b :: .inl a :: S => some (L, zI (zdiv a b) :: S, σ, [b ≠ 0])
  | _ => none
def x_irem (L S : List AV) (σ : Hp) (c k : Nat) (v : Int) : XR := match S with
  | .inl b :: .inl a :: S => some (L, zI (zrem a b) :: S, σ, [b ≠ 0])
  | _ => none
def x_i2l (L S : List AV) (σ : Hp) (c k : Nat) (v : Int) : XR := match S with
  | .inl a :: S => some (L, zJ (zi2l a) :: S, σ, [])
  | _ => none
def x_l2i (L S : List AV) (σ : Hp) (c k : Nat) (v : Int) : XR := match S with
  | .inr (.inr (.inl x)) :: S => some (L, zI (zl2i x) :: S, σ, [])
  | _ => none
def x_lshl (L S : List AV) (σ : Hp) (c k : Nat) (v : Int) : XR := match S with
  | .inl b :: .inr (.inr (.inl x)) :: S => some (L, zJ (zlshl x b) :: S, σ, [])
  | _ => none
def x_lshr (L S : List AV) (σ : Hp) (c k : Nat) (v : Int) : XR := match S with
  | .inl b :: .inr (.inr (.inl x)) :: S => some (L, zJ (zlshr x b) :: S, σ, [])
  | _ => none
def x_lushr (L S : List AV) (σ : Hp) (c k : Nat) (v : Int) : XR := match S with
  | .inl b :: .inr (.inr (.inl x)) :: S => some (L, zJ (zlushr x b) :: S, σ, [])
  | _ => none
def x_land (L S : List AV) (σ : Hp) (c k : Nat) (v : Int) : XR := match S with
  | .inr (.inr (.inl y)) :: .inr (.inr (.inl x)) :: S => some (L, zJ (x &&& y) :: S, σ, [])
  | _ => none
def x_lor (L S : List AV) (σ : Hp) (c k : Nat) (v : Int) : XR := match S with
  | .inr (.inr (.inl y)) :: .inr (.inr (.inl x)) :: S => some (L, zJ (x ||| y) :: S, σ, [])
  | _ => none
def x_dup (L S : List AV) (σ : Hp) (c k : Nat) (v : Int) : XR := match S with
  | w :: S => if cat1 w = true then some (L, w :: w :: S, σ, []) else none
  | _ => none
def x_dup2 (L S : List AV) (σ : Hp) (c k : Nat) (v : Int) : XR := match S with
  | w :: y :: S => if cat1 w = true ∧ cat1 y = true then some (L, w :: y :: w :: y :: S, σ, []) else none
  | _ => none
def x_getfield (i : Nat) (L S : List AV) (σ : Hp) (c k : Nat) (v : Int) : XR := match S with
  | .inr (.inl (g, x)) :: S => if (shp g).1 = c + 3 then (match (shp g).2.2.2[k]? with
    | some f => some (L, fA σ g x k f :: S, σ, [])
    | none => none) else none
  | _ => none
def x_putfield (i : Nat) (L S : List AV) (σ : Hp) (c k : Nat) (v : Int) : XR := match S with
  | .inl w :: .inr (.inl (g, x)) :: S => if (shp g).1 = c + 3 then (match (shp g).2.2.2[k]? with
    | some (0, _) => some (L, S, zup σ g x k w, [])
    | some (1, _) => some (L, S, zup σ g x k w, [w = 0 ∨ w = 1])
    | _ => none) else none
  | _ => none
def x_getstatic (i : Nat) (L S : List AV) (σ : Hp) (c k : Nat) (v : Int) : XR := some (L, zR c 0 :: S, σ, [])
def x_iaload (L S : List AV) (σ : Hp) (c k : Nat) (v : Int) : XR := match S with
  | .inl i :: .inr (.inl (g, x)) :: S => (match (shp g).1, x with
    | 0, x => some (L, zI (σ g x i.toNat) :: S, σ, [0 ≤ i ∧ i < ((shp g).2.2.1 : Int)])
    | 40, 0 => if g = 60 then some (L, zI (σ 60 0 i.toNat) :: S, σ, [0 ≤ i ∧ i < σ 60 1 0]) else none
    | 41, 0 => if g = 61 ∨ g = 62 then some (L, zI (σ g 0 i.toNat) :: S, σ, [0 ≤ i ∧ i < 4]) else none
    | _, _ => none)
  | _ => none
def x_iastore (L S : List AV) (σ : Hp) (c k : Nat) (v : Int) : XR := match S with
  | .inl w :: .inl i :: .inr (.inl (g, x)) :: S => if (shp g).1 = 0 then some (L, S, zup σ g x i.toNat w, [0 ≤ i ∧ i < ((shp g).2.2.1 : Int)]) else none
  | _ => none
def x_baload (L S : List AV) (σ : Hp) (c k : Nat) (v : Int) : XR := match S with
  | .inl i :: .inr (.inl (g, x)) :: S => if (shp g).1 = 1 then some (L, zI (σ g x i.toNat) :: S, σ, [0 ≤ i ∧ i < ((shp g).2.2.1 : Int)]) else none
  | _ => none
def x_bastore (L S : List AV) (σ : Hp) (c k : Nat) (v : Int) : XR := match S with
  | .inl w :: .inl i :: .inr (.inl (g, x)) :: S => if (shp g).1 = 1 then some (L, S, zup σ g x i.toNat w, [0 ≤ i ∧ i < ((shp g).2.2.1 : Int), w = 0 ∨ w = 1]) else none
  | _ => none
def x_aaload (L S : List AV) (σ : Hp) (c k : Nat) (v : Int) : XR := match S with
  | .inl i :: .inr (.inl (g, x)) :: S => if (shp g).1 = 2 then some (L, zR (tgtG g) i.toNat :: S, σ, [0 ≤ i ∧ i < ((shp g).2.2.1 : Int)]) else none
  | _ => none
def x_arraylength (L S : List AV) (σ : Hp) (c k : Nat) (v : Int) : XR := match S with
  | .inr (.inl (g, x)) :: S => (match (shp g).1, x with
    | 0, x => some (L, zI ((shp g).2.2.1 : Int) :: S, σ, [])
    | 40, 0 => if g = 60 then some (L, zI (σ 60 1 0) :: S, σ, []) else none
    | _, _ => none)
  | _ => none
def x_goto (n : Int) (L S : List AV) (σ : Hp) (c k : Nat) (v : Int) : XR := some (L, S, σ, [])
def lnkC (M : Mt) (idx : Nat) (v : Int) : Bool := cTab.any (fun e => e.1 == M.2.2.2.2 && e.2.1 == idx && e.2.2.1 == v) && decide (ownN M.2.2.2.2 = M.1.cls)
theorem lnkC_ok {M : Mt} {idx : Nat} {v : Int} (h : lnkC M idx v = true) : Cond.constant M.1.cls idx (n32 v) ∈ gTbl ∧ inR v := by
  unfold lnkC at h
  simp only [Bool.and_eq_true, decide_eq_true_eq] at h
  obtain ⟨e, he, h1⟩ := List.any_eq_true.mp h.1
  simp only [Bool.and_eq_true, beq_iff_eq] at h1
  obtain ⟨⟨a1, a2⟩, a3⟩ := h1
  have h2 := List.all_eq_true.mp cTab_ok e he
  simp only [Bool.and_eq_true, decide_eq_true_eq] at h2
  obtain ⟨⟨b1, b2⟩, b3⟩ := h2
  have h3 := gTbl_in b1 b2
  unfold cW at h3
  rw [a1, a2, a3, h.2] at h3
  rw [a3] at b3
  exact ⟨h3, b3⟩
def lnkJ (M : Mt) (idx : Nat) (v : Int) : Bool := jTab.any (fun e => e.1 == M.2.2.2.2 && e.2.1 == idx && e.2.2.1 == v) && decide (ownN M.2.2.2.2 = M.1.cls)
theorem lnkJ_ok {M : Mt} {idx : Nat} {v : Int} (h : lnkJ M idx v = true) : Cond.constantLong M.1.cls idx (Int64.ofInt v) ∈ gTbl := by
  unfold lnkJ at h
  simp only [Bool.and_eq_true, decide_eq_true_eq] at h
  obtain ⟨e, he, h1⟩ := List.any_eq_true.mp h.1
  simp only [Bool.and_eq_true, beq_iff_eq] at h1
  obtain ⟨⟨a1, a2⟩, a3⟩ := h1
  have h2 := List.all_eq_true.mp jTab_ok e he
  simp only [Bool.and_eq_true, decide_eq_true_eq] at h2
  have h3 := gTbl_in h2.1 h2.2
  unfold jW at h3
  rw [a1, a2, a3, h.2] at h3
  exact h3
def ex1 (i : Instr) (c k : Nat) (v : Int) (L S : List AV) (σ : Hp) : XR := match i with
  | .iconst n => x_iconst n L S σ c k v
  | .bipush n => x_bipush n L S σ c k v
  | .sipush n => x_sipush n L S σ c k v
  | .ldc i => x_ldc i L S σ c k v
  | .ldc_w i => x_ldc_w i L S σ c k v
  | .ldc2_w i => x_ldc2_w i L S σ c k v
  | .iload i => x_iload i L S σ c k v
  | .iload_n i => x_iload_n i L S σ c k v
  | .aload i => x_aload i L S σ c k v
  | .aload_n i => x_aload_n i L S σ c k v
  | .lload_n i => x_lload_n i L S σ c k v
  | .istore i => x_istore i L S σ c k v
  | .istore_n i => x_istore_n i L S σ c k v
  | .iinc i n => x_iinc i n L S σ c k v
  | .iadd => x_iadd L S σ c k v
  | .isub => x_isub L S σ c k v
  | .imul => x_imul L S σ c k v
  | .iand => x_iand L S σ c k v
  | .ior => x_ior L S σ c k v
  | .ixor => x_ixor L S σ c k v
  | .ishl => x_ishl L S σ c k v
  | .ishr => x_ishr L S σ c k v
  | .iushr => x_iushr L S σ c k v
  | .ineg => x_ineg L S σ c k v
  | .idiv => x_idiv L S σ c k v
  | .irem => x_irem L S σ c k v
  | .i2l => x_i2l L S σ c k v
  | .l2i => x_l2i L S σ c k v
  | .lshl => x_lshl L S σ c k v
  | .lshr => x_lshr L S σ c k v
  | .lushr => x_lushr L S σ c k v
  | .land => x_land L S σ c k v
  | .lor => x_lor L S σ c k v
  | .dup => x_dup L S σ c k v
  | .dup2 => x_dup2 L S σ c k v
  | .getfield i => x_getfield i L S σ c k v
  | .putfield i => x_putfield i L S σ c k v
  | .getstatic i => x_getstatic i L S σ c k v
  | .iaload => x_iaload L S σ c k v
  | .iastore => x_iastore L S σ c k v
  | .baload => x_baload L S σ c k v
  | .bastore => x_bastore L S σ c k v
  | .aaload => x_aaload L S σ c k v
  | .arraylength => x_arraylength L S σ c k v
  | .goto n => x_goto n L S σ c k v
  | _ => none
def nxt (M : Mt) (i : Instr) (c k : Nat) (v : Int) (pc len : Nat) : Option Nat := match i with
  | .iconst n => if len = 1 ∧ (-2147483648 ≤ n ∧ n ≤ 2147483647) then some (pc + 1) else none
  | .bipush n => if len = 2 ∧ (-128 ≤ n ∧ n ≤ 127) then some (pc + 2) else none
  | .sipush n => if len = 3 ∧ (-32768 ≤ n ∧ n ≤ 32767) then some (pc + 3) else none
  | .ldc i => if len = 2 ∧ lnkC M i v = true then some (pc + 2) else none
  | .ldc_w i => if len = 3 ∧ lnkC M i v = true then some (pc + 3) else none
  | .ldc2_w i => if len = 3 ∧ lnkJ M i v = true then some (pc + 3) else none
  | .iload i => if len = 2 then some (pc + 2) else none
  | .iload_n i => if len = 1 then some (pc + 1) else none
  | .aload i => if len = 2 then some (pc + 2) else none
  | .aload_n i => if len = 1 then some (pc + 1) else none
  | .lload_n i => if len = 1 then some (pc + 1) else none
  | .istore i => if len = 2 then some (pc + 2) else none
  | .istore_n i => if len = 1 then some (pc + 1) else none
  | .iinc i n => if len = 3 then some (pc + 3) else none
  | .iadd => if len = 1 then some (pc + 1) else none
  | .isub => if len = 1 then some (pc + 1) else none
  | .imul => if len = 1 then some (pc + 1) else none
  | .iand => if len = 1 then some (pc + 1) else none
  | .ior => if len = 1 then some (pc + 1) else none
  | .ixor => if len = 1 then some (pc + 1) else none
  | .ishl => if len = 1 then some (pc + 1) else none
  | .ishr => if len = 1 then some (pc + 1) else none
  | .iushr => if len = 1 then some (pc + 1) else none
  | .ineg => if len = 1 then some (pc + 1) else none
  | .idiv => if len = 1 then some (pc + 1) else none
  | .irem => if len = 1 then some (pc + 1) else none
  | .i2l => if len = 1 then some (pc + 1) else none
  | .l2i => if len = 1 then some (pc + 1) else none
  | .lshl => if len = 1 then some (pc + 1) else none
  | .lshr => if len = 1 then some (pc + 1) else none
  | .lushr => if len = 1 then some (pc + 1) else none
  | .land => if len = 1 then some (pc + 1) else none
  | .lor => if len = 1 then some (pc + 1) else none
  | .dup => if len = 1 then some (pc + 1) else none
  | .dup2 => if len = 1 then some (pc + 1) else none
  | .getfield i => if len = 3 ∧ lnkF M i c k = true then some (pc + 3) else none
  | .putfield i => if len = 3 ∧ (lnkF M i c k = true ∧ ((clsT c).2.1 k).2.2.2 = false) then some (pc + 3) else none
  | .getstatic i => if len = 3 ∧ lnkS M i c = true then some (pc + 3) else none
  | .iaload => if len = 1 then some (pc + 1) else none
  | .iastore => if len = 1 then some (pc + 1) else none
  | .baload => if len = 1 then some (pc + 1) else none
  | .bastore => if len = 1 then some (pc + 1) else none
  | .aaload => if len = 1 then some (pc + 1) else none
  | .arraylength => if len = 1 then some (pc + 1) else none
  | .goto n => if len = 3 ∧ 0 ≤ (pc : Int) + n then some ((pc : Int) + n).toNat else none
  | _ => none
def andL : List Prop → Prop
  | [] => True
  | p :: r => p ∧ andL r
theorem ex1_sound {d : Nat} {M : Mt} {pc : Nat} {L S : List AV} {σ : Hp} {Q : Option Int → Hp → Prop} {i : Instr} {c k : Nat} {v : Int} {len pc' : Nat} {L' S' : List AV} {σ' : Hp} {Ps : List Prop} (hd : decode M.2.1 pc = .ok (i, len)) (hn : nxt M i c k v pc len = some pc') (he : ex1 i c k v L S σ = some (L', S', σ', Ps)) (hp : andL Ps) (h : Runs d M pc' L' S' σ' Q) : Runs d M pc L S σ Q := by
  cases i with
  | iconst n =>
    replace he : x_iconst n L S σ c k v = some (L', S', σ', Ps) := he
    simp only [nxt, Option.ite_none_right_eq_some, Option.some.injEq] at hn
    obtain ⟨hc, rfl⟩ := hn
    obtain ⟨rfl, hc⟩ := hc
    unfold x_iconst at he
    cases he; exact s_iconst hc hd h
  | bipush n =>
    replace he : x_bipush n L S σ c k v = some (L', S', σ', Ps) := he
    simp only [nxt, Option.ite_none_right_eq_some, Option.some.injEq] at hn
    obtain ⟨hc, rfl⟩ := hn
    obtain ⟨rfl, hc⟩ := hc
    unfold x_bipush at he
    cases he; exact s_bipush hc hd h
  | sipush n =>
    replace he : x_sipush n L S σ c k v = some (L', S', σ', Ps) := he
    simp only [nxt, Option.ite_none_right_eq_some, Option.some.injEq] at hn
    obtain ⟨hc, rfl⟩ := hn
    obtain ⟨rfl, hc⟩ := hc
    unfold x_sipush at he
    cases he; exact s_sipush hc hd h
  | ldc i =>
    replace he : x_ldc i L S σ c k v = some (L', S', σ', Ps) := he
    simp only [nxt, Option.ite_none_right_eq_some, Option.some.injEq] at hn
    obtain ⟨hc, rfl⟩ := hn
    obtain ⟨rfl, hc⟩ := hc
    unfold x_ldc at he
    cases he; exact s_ldc (lnkC_ok hc).2 (lnkC_ok hc).1 hd h
  | ldc_w i =>
    replace he : x_ldc_w i L S σ c k v = some (L', S', σ', Ps) := he
    simp only [nxt, Option.ite_none_right_eq_some, Option.some.injEq] at hn
    obtain ⟨hc, rfl⟩ := hn
    obtain ⟨rfl, hc⟩ := hc
    unfold x_ldc_w at he
    cases he; exact s_ldcw (lnkC_ok hc).2 (lnkC_ok hc).1 hd h
  | ldc2_w i =>
    replace he : x_ldc2_w i L S σ c k v = some (L', S', σ', Ps) := he
    simp only [nxt, Option.ite_none_right_eq_some, Option.some.injEq] at hn
    obtain ⟨hc, rfl⟩ := hn
    obtain ⟨rfl, hc⟩ := hc
    unfold x_ldc2_w at he
    cases he; exact s_ldc2 (lnkJ_ok hc) hd h
  | iload i =>
    replace he : x_iload i L S σ c k v = some (L', S', σ', Ps) := he
    simp only [nxt, Option.ite_none_right_eq_some, Option.some.injEq] at hn
    obtain ⟨hc, rfl⟩ := hn
    subst hc
    unfold x_iload at he
    split at he
    · rename_i hz; cases he; exact s_iload hz hd h
    · cases he
  | iload_n i =>
    replace he : x_iload_n i L S σ c k v = some (L', S', σ', Ps) := he
    simp only [nxt, Option.ite_none_right_eq_some, Option.some.injEq] at hn
    obtain ⟨hc, rfl⟩ := hn
    subst hc
    unfold x_iload_n at he
    split at he
    · rename_i hz; cases he; exact s_iloadn hz hd h
    · cases he
  | aload i =>
    replace he : x_aload i L S σ c k v = some (L', S', σ', Ps) := he
    simp only [nxt, Option.ite_none_right_eq_some, Option.some.injEq] at hn
    obtain ⟨hc, rfl⟩ := hn
    subst hc
    unfold x_aload at he
    split at he
    · rename_i hz; cases he; exact s_aload hz hd h
    · cases he
  | aload_n i =>
    replace he : x_aload_n i L S σ c k v = some (L', S', σ', Ps) := he
    simp only [nxt, Option.ite_none_right_eq_some, Option.some.injEq] at hn
    obtain ⟨hc, rfl⟩ := hn
    subst hc
    unfold x_aload_n at he
    split at he
    · rename_i hz; cases he; exact s_aloadn hz hd h
    · cases he
  | lload_n i =>
    replace he : x_lload_n i L S σ c k v = some (L', S', σ', Ps) := he
    simp only [nxt, Option.ite_none_right_eq_some, Option.some.injEq] at hn
    obtain ⟨hc, rfl⟩ := hn
    subst hc
    unfold x_lload_n at he
    split at he
    · rename_i hz; cases he; exact s_lloadn hz hd h
    · cases he
  | istore i =>
    replace he : x_istore i L S σ c k v = some (L', S', σ', Ps) := he
    simp only [nxt, Option.ite_none_right_eq_some, Option.some.injEq] at hn
    obtain ⟨hc, rfl⟩ := hn
    subst hc
    unfold x_istore at he
    split at he
    · split at he
      · rename_i hj; cases he; exact s_istore hj.1 hj.2 hd h
      · cases he
    · cases he
  | istore_n i =>
    replace he : x_istore_n i L S σ c k v = some (L', S', σ', Ps) := he
    simp only [nxt, Option.ite_none_right_eq_some, Option.some.injEq] at hn
    obtain ⟨hc, rfl⟩ := hn
    subst hc
    unfold x_istore_n at he
    split at he
    · split at he
      · rename_i hj; cases he; exact s_istoren hj.1 hj.2 hd h
      · cases he
    · cases he
  | iinc i n =>
    replace he : x_iinc i n L S σ c k v = some (L', S', σ', Ps) := he
    simp only [nxt, Option.ite_none_right_eq_some, Option.some.injEq] at hn
    obtain ⟨hc, rfl⟩ := hn
    subst hc
    unfold x_iinc at he
    split at he
    · rename_i hz; split at he
      · rename_i hj; cases he; exact s_iinc hz hj.1 hj.2 hd (by rw [wrap_eq hp.1]; exact h)
      · cases he
    · cases he
  | iadd =>
    replace he : x_iadd L S σ c k v = some (L', S', σ', Ps) := he
    simp only [nxt, Option.ite_none_right_eq_some, Option.some.injEq] at hn
    obtain ⟨hc, rfl⟩ := hn
    subst hc
    unfold x_iadd at he
    split at he
    · split at he
      · cases he; exact s_iadd hd (by rw [wrap_eq hp.1]; exact h)
      · cases he; exact s_iadd hd h
    · cases he
  | isub =>
    replace he : x_isub L S σ c k v = some (L', S', σ', Ps) := he
    simp only [nxt, Option.ite_none_right_eq_some, Option.some.injEq] at hn
    obtain ⟨hc, rfl⟩ := hn
    subst hc
    unfold x_isub at he
    split at he
    · split at he
      · cases he; exact s_isub hd (by rw [wrap_eq hp.1]; exact h)
      · cases he; exact s_isub hd h
    · cases he
  | imul =>
    replace he : x_imul L S σ c k v = some (L', S', σ', Ps) := he
    simp only [nxt, Option.ite_none_right_eq_some, Option.some.injEq] at hn
    obtain ⟨hc, rfl⟩ := hn
    subst hc
    unfold x_imul at he
    split at he
    · split at he
      · cases he; exact s_imul hd (by rw [wrap_eq hp.1]; exact h)
      · cases he; exact s_imul hd h
    · cases he
  | iand =>
    replace he : x_iand L S σ c k v = some (L', S', σ', Ps) := he
    simp only [nxt, Option.ite_none_right_eq_some, Option.some.injEq] at hn
    obtain ⟨hc, rfl⟩ := hn
    subst hc
    unfold x_iand at he
    split at he
    · cases he; exact s_iand  hd h
    · cases he
  | ior =>
    replace he : x_ior L S σ c k v = some (L', S', σ', Ps) := he
    simp only [nxt, Option.ite_none_right_eq_some, Option.some.injEq] at hn
    obtain ⟨hc, rfl⟩ := hn
    subst hc
    unfold x_ior at he
    split at he
    · cases he; exact s_ior  hd h
    · cases he
  | ixor =>
    replace he : x_ixor L S σ c k v = some (L', S', σ', Ps) := he
    simp only [nxt, Option.ite_none_right_eq_some, Option.some.injEq] at hn
    obtain ⟨hc, rfl⟩ := hn
    subst hc
    unfold x_ixor at he
    split at he
    · cases he; exact s_ixor  hd h
    · cases he
  | ishl =>
    replace he : x_ishl L S σ c k v = some (L', S', σ', Ps) := he
    simp only [nxt, Option.ite_none_right_eq_some, Option.some.injEq] at hn
    obtain ⟨hc, rfl⟩ := hn
    subst hc
    unfold x_ishl at he
    split at he
    · cases he; exact s_ishl  hd h
    · cases he
  | ishr =>
    replace he : x_ishr L S σ c k v = some (L', S', σ', Ps) := he
    simp only [nxt, Option.ite_none_right_eq_some, Option.some.injEq] at hn
    obtain ⟨hc, rfl⟩ := hn
    subst hc
    unfold x_ishr at he
    split at he
    · cases he; exact s_ishr  hd h
    · cases he
  | iushr =>
    replace he : x_iushr L S σ c k v = some (L', S', σ', Ps) := he
    simp only [nxt, Option.ite_none_right_eq_some, Option.some.injEq] at hn
    obtain ⟨hc, rfl⟩ := hn
    subst hc
    unfold x_iushr at he
    split at he
    · cases he; exact s_iushr  hd h
    · cases he
  | ineg =>
    replace he : x_ineg L S σ c k v = some (L', S', σ', Ps) := he
    simp only [nxt, Option.ite_none_right_eq_some, Option.some.injEq] at hn
    obtain ⟨hc, rfl⟩ := hn
    subst hc
    unfold x_ineg at he
    split at he
    · cases he; exact s_ineg hd (by rw [wrap_eq hp.1]; exact h)
    · cases he
  | idiv =>
    replace he : x_idiv L S σ c k v = some (L', S', σ', Ps) := he
    simp only [nxt, Option.ite_none_right_eq_some, Option.some.injEq] at hn
    obtain ⟨hc, rfl⟩ := hn
    subst hc
    unfold x_idiv at he
    split at he
    · cases he; exact s_idiv hp.1 hd h
    · cases he
  | irem =>
    replace he : x_irem L S σ c k v = some (L', S', σ', Ps) := he
    simp only [nxt, Option.ite_none_right_eq_some, Option.some.injEq] at hn
    obtain ⟨hc, rfl⟩ := hn
    subst hc
    unfold x_irem at he
    split at he
    · cases he; exact s_irem hp.1 hd h
    · cases he
  | i2l =>
    replace he : x_i2l L S σ c k v = some (L', S', σ', Ps) := he
    simp only [nxt, Option.ite_none_right_eq_some, Option.some.injEq] at hn
    obtain ⟨hc, rfl⟩ := hn
    subst hc
    unfold x_i2l at he
    split at he
    · cases he; exact s_i2l  hd h
    · cases he
  | l2i =>
    replace he : x_l2i L S σ c k v = some (L', S', σ', Ps) := he
    simp only [nxt, Option.ite_none_right_eq_some, Option.some.injEq] at hn
    obtain ⟨hc, rfl⟩ := hn
    subst hc
    unfold x_l2i at he
    split at he
    · cases he; exact s_l2i  hd h
    · cases he
  | lshl =>
    replace he : x_lshl L S σ c k v = some (L', S', σ', Ps) := he
    simp only [nxt, Option.ite_none_right_eq_some, Option.some.injEq] at hn
    obtain ⟨hc, rfl⟩ := hn
    subst hc
    unfold x_lshl at he
    split at he
    · cases he; exact s_lshl  hd h
    · cases he
  | lshr =>
    replace he : x_lshr L S σ c k v = some (L', S', σ', Ps) := he
    simp only [nxt, Option.ite_none_right_eq_some, Option.some.injEq] at hn
    obtain ⟨hc, rfl⟩ := hn
    subst hc
    unfold x_lshr at he
    split at he
    · cases he; exact s_lshr  hd h
    · cases he
  | lushr =>
    replace he : x_lushr L S σ c k v = some (L', S', σ', Ps) := he
    simp only [nxt, Option.ite_none_right_eq_some, Option.some.injEq] at hn
    obtain ⟨hc, rfl⟩ := hn
    subst hc
    unfold x_lushr at he
    split at he
    · cases he; exact s_lushr  hd h
    · cases he
  | land =>
    replace he : x_land L S σ c k v = some (L', S', σ', Ps) := he
    simp only [nxt, Option.ite_none_right_eq_some, Option.some.injEq] at hn
    obtain ⟨hc, rfl⟩ := hn
    subst hc
    unfold x_land at he
    split at he
    · cases he; exact s_land  hd h
    · cases he
  | lor =>
    replace he : x_lor L S σ c k v = some (L', S', σ', Ps) := he
    simp only [nxt, Option.ite_none_right_eq_some, Option.some.injEq] at hn
    obtain ⟨hc, rfl⟩ := hn
    subst hc
    unfold x_lor at he
    split at he
    · cases he; exact s_lor  hd h
    · cases he
  | dup =>
    replace he : x_dup L S σ c k v = some (L', S', σ', Ps) := he
    simp only [nxt, Option.ite_none_right_eq_some, Option.some.injEq] at hn
    obtain ⟨hc, rfl⟩ := hn
    subst hc
    unfold x_dup at he
    split at he
    · split at he
      · rename_i hj; cases he; exact s_dup hj hd h
      · cases he
    · cases he
  | dup2 =>
    replace he : x_dup2 L S σ c k v = some (L', S', σ', Ps) := he
    simp only [nxt, Option.ite_none_right_eq_some, Option.some.injEq] at hn
    obtain ⟨hc, rfl⟩ := hn
    subst hc
    unfold x_dup2 at he
    split at he
    · split at he
      · rename_i hj; cases he; exact s_dup2 hj.1 hj.2 hd h
      · cases he
    · cases he
  | getfield i =>
    replace he : x_getfield i L S σ c k v = some (L', S', σ', Ps) := he
    simp only [nxt, Option.ite_none_right_eq_some, Option.some.injEq] at hn
    obtain ⟨hc, rfl⟩ := hn
    obtain ⟨rfl, hc⟩ := hc
    unfold x_getfield at he
    split at he
    · split at he
      · rename_i hk; split at he
        · rename_i hf; cases he; exact s_getfield hc hk hf hd h
        · cases he
      · cases he
    · cases he
  | putfield i =>
    replace he : x_putfield i L S σ c k v = some (L', S', σ', Ps) := he
    simp only [nxt, Option.ite_none_right_eq_some, Option.some.injEq] at hn
    obtain ⟨hc, rfl⟩ := hn
    obtain ⟨rfl, hc⟩ := hc
    unfold x_putfield at he
    split at he
    · split at he
      · rename_i hk; split at he
        · rename_i hf; cases he; exact s_putfield hc.1 hc.2 hk hf (Or.inl rfl) hd h
        · rename_i hf; cases he; exact s_putfield hc.1 hc.2 hk hf (Or.inr ⟨rfl, hp.1⟩) hd h
        · cases he
      · cases he
    · cases he
  | getstatic i =>
    replace he : x_getstatic i L S σ c k v = some (L', S', σ', Ps) := he
    simp only [nxt, Option.ite_none_right_eq_some, Option.some.injEq] at hn
    obtain ⟨hc, rfl⟩ := hn
    obtain ⟨rfl, hc⟩ := hc
    unfold x_getstatic at he
    cases he; exact s_getstatic hc hd h
  | iaload =>
    replace he : x_iaload L S σ c k v = some (L', S', σ', Ps) := he
    simp only [nxt, Option.ite_none_right_eq_some, Option.some.injEq] at hn
    obtain ⟨hc, rfl⟩ := hn
    subst hc
    unfold x_iaload at he
    split at he
    · split at he
      · rename_i hk; cases he; exact s_iaload hk hp.1 hd h
      · split at he
        · rename_i hg; cases he; subst hg; exact s_sload hp.1 hd h
        · cases he
      · split at he
        · rename_i hg; cases he; exact s_tload hg hp.1 hd h
        · cases he
      · cases he
    · cases he
  | iastore =>
    replace he : x_iastore L S σ c k v = some (L', S', σ', Ps) := he
    simp only [nxt, Option.ite_none_right_eq_some, Option.some.injEq] at hn
    obtain ⟨hc, rfl⟩ := hn
    subst hc
    unfold x_iastore at he
    split at he
    · split at he
      · rename_i hk; cases he; exact s_iastore hk hp.1 hd h
      · cases he
    · cases he
  | baload =>
    replace he : x_baload L S σ c k v = some (L', S', σ', Ps) := he
    simp only [nxt, Option.ite_none_right_eq_some, Option.some.injEq] at hn
    obtain ⟨hc, rfl⟩ := hn
    subst hc
    unfold x_baload at he
    split at he
    · split at he
      · rename_i hk; cases he; exact s_baload hk hp.1 hd h
      · cases he
    · cases he
  | bastore =>
    replace he : x_bastore L S σ c k v = some (L', S', σ', Ps) := he
    simp only [nxt, Option.ite_none_right_eq_some, Option.some.injEq] at hn
    obtain ⟨hc, rfl⟩ := hn
    subst hc
    unfold x_bastore at he
    split at he
    · split at he
      · rename_i hk; cases he; exact s_bastore hk hp.1 hp.2.1 hd h
      · cases he
    · cases he
  | aaload =>
    replace he : x_aaload L S σ c k v = some (L', S', σ', Ps) := he
    simp only [nxt, Option.ite_none_right_eq_some, Option.some.injEq] at hn
    obtain ⟨hc, rfl⟩ := hn
    subst hc
    unfold x_aaload at he
    split at he
    · split at he
      · rename_i hk; cases he; exact s_aaload hk hp.1 hd h
      · cases he
    · cases he
  | arraylength =>
    replace he : x_arraylength L S σ c k v = some (L', S', σ', Ps) := he
    simp only [nxt, Option.ite_none_right_eq_some, Option.some.injEq] at hn
    obtain ⟨hc, rfl⟩ := hn
    subst hc
    unfold x_arraylength at he
    split at he
    · split at he
      · rename_i hk; cases he; exact s_alen hk hd h
      · split at he
        · rename_i hg; cases he; subst hg; exact s_slen hd h
        · cases he
      · cases he
    · cases he
  | goto n =>
    replace he : x_goto n L S σ c k v = some (L', S', σ', Ps) := he
    simp only [nxt, Option.ite_none_right_eq_some, Option.some.injEq] at hn
    obtain ⟨hc, rfl⟩ := hn
    obtain ⟨rfl, hc⟩ := hc
    unfold x_goto at he
    cases he; exact r_goto hd (by omega) h
  | _ => cases he
def exs : List Ins → List AV → List AV → Hp → XR
  | [], L, S, σ => some (L, S, σ, [])
  | i :: r, L, S, σ => match ex1 i.1 i.2.1 i.2.2.1 i.2.2.2 L S σ with
    | some (L', S', σ', Ps) => (match exs r L' S' σ' with
      | some (L2, S2, σ2, Ps2) => some (L2, S2, σ2, Ps ++ Ps2)
      | none => none)
    | none => none
def chk (M : Mt) : Nat → List Ins → Option Nat
  | pc, [] => some pc
  | pc, i :: r => match decode M.2.1 pc with
    | .ok (j, len) => if j = i.1 then (match nxt M i.1 i.2.1 i.2.2.1 i.2.2.2 pc len with
      | some pc' => chk M pc' r
      | none => none) else none
    | _ => none
theorem andL_app : ∀ {a b : List Prop}, andL (a ++ b) → andL a ∧ andL b
  | [], _, h => ⟨trivial, h⟩
  | p :: a, b, h => ⟨⟨h.1, (andL_app (a := a) h.2).1⟩, (andL_app (a := a) h.2).2⟩
theorem r_blk {d : Nat} {M : Mt} {Q : Option Int → Hp → Prop} : ∀ (is : List Ins) {pc pc' : Nat} {L S L' S' : List AV} {σ σ' : Hp} {Ps : List Prop}, chk M pc is = some pc' → exs is L S σ = some (L', S', σ', Ps) → andL Ps → Runs d M pc' L' S' σ' Q → Runs d M pc L S σ Q
  | [], pc, pc', L, S, L', S', σ, σ', Ps, hc, he, hp, h => by
    cases hc
    cases he
    exact h
  | i :: r, pc, pc', L, S, L', S', σ, σ', Ps, hc, he, hp, h => by
    unfold chk at hc
    unfold exs at he
    split at hc
    · rename_i j len hd
      split at hc
      · rename_i hj
        subst hj
        split at hc
        · rename_i pc1 hn
          split at he
          · rename_i L1 S1 σ1 Ps1 he1
            split at he
            · rename_i L2 S2 σ2 Ps2 he2
              cases he
              obtain ⟨p1, p2⟩ := andL_app hp
              exact ex1_sound hd hn he1 p1 (r_blk r hc he2 p2 h)
            · cases he
          · cases he
        · cases hc
      · cases hc
    · cases hc
def fgt : List AV → List AV → Prop
  | [], [] => True
  | a' :: r', a :: r => (a' = zU ∨ a' = a) ∧ fgt r' r
  | _, _ => False
theorem fgt_len : ∀ {L' L : List AV}, fgt L' L → L'.length = L.length ∧ ∀ (i : Nat) (v : AV), L'[i]? = some v → v = zU ∨ L[i]? = some v
  | [], [], _ => ⟨rfl, fun i v h => by simp at h⟩
  | a' :: r', a :: r, h => by
    obtain ⟨h1, h2⟩ := fgt_len h.2
    refine ⟨by simp [h1], fun i v hv => ?_⟩
    cases i with
    | zero =>
      rw [List.getElem?_cons_zero] at hv ⊢
      cases hv
      rcases h.1 with q | q
      · exact Or.inl q
      · exact Or.inr (by rw [q])
    | succ i =>
      rw [List.getElem?_cons_succ] at hv ⊢
      exact h2 i v hv
  | [], _ :: _, h => h.elim
  | _ :: _, [], h => h.elim
theorem fg0 : fgt [] [] := trivial
theorem fgU {a : AV} {r' r : List AV} (h : fgt r' r) : fgt (zU :: r') (a :: r) := ⟨Or.inl rfl, h⟩
theorem fgE {a : AV} {r' r : List AV} (h : fgt r' r) : fgt (a :: r') (a :: r) := ⟨Or.inr rfl, h⟩
theorem Runs.fg {d : Nat} {M : Mt} {pc : Nat} {L L' S : List AV} {σ : Hp} {Q : Option Int → Hp → Prop} (hf : fgt L' L) (h : Runs d M pc L' S σ Q) : Runs d M pc L S σ Q := Runs.forget (fgt_len hf).1 (fgt_len hf).2 h
