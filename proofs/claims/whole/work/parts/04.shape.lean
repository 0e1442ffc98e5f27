/-! which cells there are: a group's kind (0 ints, 1 booleans, 2 references, 3 + class: objects, 40 the script, 41 static ints), how many, length, fields (0 int, 1 boolean, 2 a cell, 3 the cell of the same place) -/
def shL : List (Nat × Nat × Nat × List (Nat × Nat × Nat)) := [
  (13, 1, 13, [(2, 1, 0), (2, 1, 1), (2, 12, 0), (2, 14, 0), (2, 16, 0), (2, 17, 0), (2, 19, 0), (2, 22, 0), (2, 25, 0), (2, 26, 0), (2, 27, 0), (2, 33, 0), (1, 0, 0)]),
  (9, 3, 17, [(0, 0, 0), (0, 0, 0), (0, 0, 0), (0, 0, 0), (0, 0, 0), (0, 0, 0), (0, 0, 0), (3, 2, 0), (3, 3, 0), (3, 4, 0), (3, 5, 0), (3, 6, 0), (3, 7, 0), (3, 8, 0), (3, 9, 0), (3, 10, 0), (3, 11, 0)]),
  (0, 3, 14, []),
  (0, 3, 14, []),
  (0, 3, 14, []),
  (0, 3, 14, []),
  (0, 3, 8, []),
  (0, 3, 8, []),
  (0, 3, 8, []),
  (0, 3, 8, []),
  (0, 3, 10, []),
  (0, 3, 4, []),
  (8, 1, 2, [(2, 13, 0), (0, 0, 0)]),
  (0, 1, 64, []),
  (6, 1, 7, [(2, 12, 0), (2, 1, 2), (0, 0, 0), (0, 0, 0), (0, 0, 0), (2, 15, 0), (1, 0, 0)]),
  (0, 1, 4, []),
  (10, 1, 10, [(2, 1, 0), (0, 0, 0), (0, 0, 0), (0, 0, 0), (0, 0, 0), (0, 0, 0), (0, 0, 0), (0, 0, 0), (0, 0, 0), (0, 0, 0)]),
  (11, 1, 4, [(2, 1, 0), (2, 16, 0), (2, 18, 0), (0, 0, 0)]),
  (0, 1, 10, []),
  (3, 1, 3, [(2, 1, 0), (2, 16, 0), (2, 20, 0)]),
  (2, 1, 10, [(2, 21, 0)]),
  (0, 10, 10, []),
  (5, 1, 3, [(2, 1, 0), (2, 23, 0), (2, 24, 0)]),
  (0, 1, 10, []),
  (0, 1, 10, []),
  (4, 1, 3, [(2, 1, 0), (2, 17, 0), (0, 0, 0)]),
  (12, 1, 5, [(2, 1, 0), (2, 16, 0), (2, 17, 0), (2, 19, 0), (2, 25, 0)]),
  (2, 1, 8, [(2, 28, 0)]),
  (7, 8, 8, [(2, 1, 0), (2, 16, 0), (2, 17, 0), (3, 29, 0), (3, 30, 0), (3, 31, 0), (3, 32, 0), (0, 0, 0)]),
  (0, 8, 10, []),
  (0, 8, 10, []),
  (0, 8, 10, []),
  (0, 8, 10, []),
  (0, 1, 7, []),
  (14, 1, 25, [(2, 35, 0), (2, 36, 0), (2, 37, 0), (2, 38, 0), (1, 0, 0), (2, 39, 0), (2, 40, 0), (0, 0, 0), (0, 0, 0), (2, 41, 0), (2, 42, 0), (2, 43, 0), (2, 44, 0), (2, 45, 0), (0, 0, 0), (0, 0, 0), (2, 46, 0), (0, 0, 0), (0, 0, 0), (0, 0, 0), (2, 47, 0), (2, 48, 0), (2, 49, 0), (2, 50, 0), (2, 51, 0)]),
  (0, 1, 7, []),
  (0, 1, 123, []),
  (0, 1, 123, []),
  (0, 1, 123, []),
  (0, 1, 64, []),
  (0, 1, 4, []),
  (0, 1, 10, []),
  (1, 1, 10, []),
  (0, 1, 11, []),
  (0, 1, 10, []),
  (0, 1, 10, []),
  (0, 1, 100, []),
  (0, 1, 8, []),
  (0, 1, 10, []),
  (0, 1, 10, []),
  (0, 1, 10, []),
  (0, 1, 10, []),
  (50, 0, 0, []),
  (50, 0, 0, []),
  (50, 0, 0, []),
  (50, 0, 0, []),
  (50, 0, 0, []),
  (50, 0, 0, []),
  (50, 0, 0, []),
  (50, 0, 0, []),
  (40, 1, 0, []),
  (41, 1, 4, []),
  (41, 1, 4, [])]
def shp (g : Nat) : Nat × Nat × Nat × List (Nat × Nat × Nat) := shL.getD g (50, 0, 0, [])
def ownL : List String := [RX0, RX1, RX2, RX3, RX4, RX5, RX6, RX7, RX8, RX9, RX10, RX11, RL, RJ6, RJ9, RJ10, RJ7]
def ownN (k : Nat) : String := ownL.getD k ""
def clsL : List vw_C := [(RX0, TX0, 3), (RX1, TX1, 3), (RX2, TX2, 3), (RX3, TX3, 7), (RX4, TX4, 8), (RX5, TX5, 2), (RX6, TX6, 17), (RX7, TX7, 10), (RX8, TX8, 4), (RX9, TX9, 5), (RX10, TX10, 13), (RX11, TX11, 25)]
def gTbl : List Cond := lw_tbl.filter goodWord
theorem gTbl_in {w : Cond} {i : Nat} (h : lw_tbl[i]? = some w) (hg : goodWord w = true) : w ∈ gTbl := List.mem_filter.mpr ⟨List.mem_of_getElem? h, hg⟩
def clsT (ci : Nat) : vw_C := clsL.getD ci (RX0, TX0, 0)
def fTab : List (Nat × Nat × Nat × Nat × Nat) := [(6, 9, 6, 0, 94), (2, 26, 6, 0, 95), (8, 34, 6, 0, 96), (0, 67, 6, 0, 97), (1, 56, 6, 0, 98), (9, 97, 6, 0, 99), (10, 295, 6, 0, 100), (6, 46, 6, 1, 101), (9, 32, 6, 1, 102), (0, 37, 6, 1, 103), (4, 54, 6, 1, 104), (2, 32, 6, 1, 105), (8, 56, 6, 1, 106), (10, 164, 6, 1, 107), (6, 49, 6, 2, 108), (1, 24, 6, 2, 109), (10, 269, 6, 2, 110), (6, 52, 6, 3, 111), (0, 81, 6, 3, 112), (10, 244, 6, 3, 113), (6, 55, 6, 4, 114), (7, 48, 6, 4, 115), (10, 127, 6, 4, 116), (6, 58, 6, 5, 117), (7, 31, 6, 5, 118), (10, 137, 6, 5, 119), (6, 61, 6, 6, 120), (7, 39, 6, 6, 121), (9, 65, 6, 6, 122), (10, 167, 6, 6, 123), (6, 15, 6, 7, 124), (0, 47, 6, 7, 125), (2, 35, 6, 7, 126), (4, 61, 6, 7, 127), (10, 118, 6, 7, 128), (8, 59, 6, 7, 129), (6, 19, 6, 8, 130), (0, 51, 6, 8, 131), (4, 58, 6, 8, 132), (2, 38, 6, 8, 133), (10, 121, 6, 8, 134), (8, 62, 6, 8, 135), (6, 22, 6, 9, 136), (0, 54, 6, 9, 137), (4, 78, 6, 9, 138), (10, 124, 6, 9, 139), (8, 72, 6, 9, 140), (6, 25, 6, 10, 141), (10, 134, 6, 10, 142), (6, 28, 6, 11, 143), (1, 34, 6, 11, 144), (10, 143, 6, 11, 145), (6, 31, 6, 12, 146), (1, 37, 6, 12, 147), (10, 146, 6, 12, 148), (6, 34, 6, 13, 149), (1, 40, 6, 13, 150), (10, 149, 6, 13, 151), (6, 37, 6, 14, 152), (1, 30, 6, 14, 153), (10, 152, 6, 14, 154), (6, 40, 6, 15, 155), (0, 84, 6, 15, 156), (10, 247, 6, 15, 157), (6, 43, 6, 16, 158), (7, 15, 6, 16, 159), (10, 161, 6, 16, 160), (5, 9, 5, 0, 203), (5, 15, 5, 1, 204), (10, 102, 5, 1, 205), (3, 48, 5, 1, 206), (3, 22, 3, 0, 220), (3, 12, 3, 1, 221), (3, 34, 3, 2, 222), (3, 57, 3, 3, 223), (3, 45, 3, 4, 224), (3, 18, 3, 5, 225), (3, 75, 3, 6, 226), (7, 9, 7, 0, 248), (7, 21, 7, 1, 249), (7, 25, 7, 2, 250), (7, 28, 7, 3, 251), (7, 45, 7, 4, 252), (7, 34, 7, 5, 253), (7, 51, 7, 6, 254), (7, 54, 7, 7, 255), (7, 57, 7, 8, 256), (7, 60, 7, 9, 257), (8, 15, 8, 0, 285), (8, 19, 8, 1, 286), (8, 9, 8, 2, 287), (8, 30, 8, 3, 288), (0, 16, 0, 0, 306), (0, 20, 0, 1, 307), (0, 11, 0, 2, 308), (2, 18, 2, 0, 322), (2, 9, 2, 1, 323), (2, 15, 2, 2, 324), (1, 9, 1, 0, 338), (1, 15, 1, 1, 339), (1, 59, 1, 2, 340), (9, 9, 9, 0, 354), (9, 15, 9, 1, 355), (9, 19, 9, 2, 356), (9, 23, 9, 3, 357), (9, 27, 9, 4, 358), (4, 24, 4, 0, 377), (4, 28, 4, 1, 378), (4, 32, 4, 2, 379), (4, 9, 4, 3, 380), (4, 15, 4, 4, 381), (4, 18, 4, 5, 382), (4, 21, 4, 6, 383), (4, 42, 4, 7, 384), (10, 200, 4, 7, 385), (10, 10, 10, 0, 403), (10, 16, 10, 1, 404), (10, 22, 10, 2, 405), (10, 31, 10, 3, 406), (10, 40, 10, 4, 407), (10, 49, 10, 5, 408), (10, 56, 10, 6, 409), (10, 63, 10, 7, 410), (10, 72, 10, 8, 411), (10, 81, 10, 9, 412), (10, 87, 10, 10, 413), (10, 91, 10, 11, 414), (10, 291, 10, 12, 415), (11, 7, 11, 0, 957), (11, 13, 11, 1, 958), (11, 16, 11, 2, 959), (11, 19, 11, 3, 960), (11, 218, 11, 4, 961), (11, 22, 11, 5, 962), (11, 25, 11, 6, 963), (11, 70, 11, 7, 964), (11, 76, 11, 8, 965), (11, 28, 11, 9, 966), (11, 31, 11, 10, 967), (11, 35, 11, 11, 968), (11, 38, 11, 12, 969), (11, 41, 11, 13, 970), (11, 146, 11, 14, 971), (11, 149, 11, 15, 972), (11, 44, 11, 16, 973), (11, 178, 11, 17, 974), (11, 181, 11, 18, 975), (11, 175, 11, 19, 976), (11, 47, 11, 20, 977), (11, 50, 11, 21, 978), (11, 53, 11, 22, 979), (11, 56, 11, 23, 980), (11, 59, 11, 24, 981)]
def fW (e : Nat × Nat × Nat × Nat × Nat) : Cond := .fieldLink (ownN e.1) e.2.1 ((clsT e.2.2.1).2.1 e.2.2.2.1).1 ((clsT e.2.2.1).2.1 e.2.2.2.1).2.1 ((clsT e.2.2.1).2.1 e.2.2.2.1).2.2.1
theorem fTab_ok : fTab.all (fun e => decide (lw_tbl[e.2.2.2.2]? = some (fW e)) && goodWord (fW e) && decide (e.2.2.2.1 < (clsT e.2.2.1).2.2) && decide (e.2.2.1 < 12)) = true := by decide +kernel
def sTab : List (Nat × Nat × Nat × Nat) := [(10, 155, 61, 556), (10, 158, 62, 558)]
def sNm (g : Nat) : String := if g = 61 then "LEAST_SETTING" else "GREATEST_SETTING"
def sW (e : Nat × Nat × Nat × Nat) : Cond := .fieldLink (ownN e.1) e.2.1 RX10 (sNm e.2.2.1) "[I"
theorem sTab_ok : sTab.all (fun e => decide (lw_tbl[e.2.2.2]? = some (sW e)) && goodWord (sW e) && (e.2.2.1 == 61 || e.2.2.1 == 62)) = true := by decide +kernel
def cTab : List (Nat × Nat × Int × Nat) := [(8, 23, 1000000, 610), (0, 24, 1000000, 680), (1, 19, 1000000, 762), (9, 31, 1000000, 785), (13, 265, 1431655765, 835), (13, 266, 858993459, 836), (13, 267, 252645135, 837), (10, 275, 1000000000, 904), (1, 65, 1664525, 921), (1, 66, 1013904223, 922), (1, 67, 2147483647, 923), (11, 155, 1000000000, 1180), (11, 215, 1664525, 1312), (11, 216, 1013904223, 1313), (11, 217, 2147483647, 1314)]
def cW (e : Nat × Nat × Int × Nat) : Cond := .constant (ownN e.1) e.2.1 (n32 e.2.2.1)
theorem cTab_ok : cTab.all (fun e => decide (lw_tbl[e.2.2.2]? = some (cW e)) && goodWord (cW e) && (decide (-2147483648 ≤ e.2.2.1) && decide (e.2.2.1 ≤ 2147483647))) = true := by decide +kernel
def jTab : List (Nat × Nat × Int × Nat) := [(11, 74, 255, 1042), (12, 13, 4294967295, 1331)]
def jW (e : Nat × Nat × Int × Nat) : Cond := .constantLong (ownN e.1) e.2.1 (Int64.ofInt e.2.2.1)
theorem jTab_ok : jTab.all (fun e => decide (lw_tbl[e.2.2.2]? = some (jW e)) && goodWord (jW e)) = true := by decide +kernel
theorem inX0 : ∀ w ∈ u_ws RX0 TX0 3, w ∈ gTbl := by
  have h : (List.range 3).all (fun k => decide (lw_tbl[([309, 311, 313] : List Nat).getD k 0]? = some (u_lay RX0 TX0 k)) && goodWord (u_lay RX0 TX0 k)) = true := by decide +kernel
  intro w hw
  obtain ⟨k, hk, rfl⟩ := List.mem_map.mp hw
  have h1 := List.all_eq_true.mp h k hk
  simp only [Bool.and_eq_true, decide_eq_true_eq] at h1
  exact gTbl_in h1.1 h1.2
theorem inX1 : ∀ w ∈ u_ws RX1 TX1 3, w ∈ gTbl := by
  have h : (List.range 3).all (fun k => decide (lw_tbl[([341, 343, 345] : List Nat).getD k 0]? = some (u_lay RX1 TX1 k)) && goodWord (u_lay RX1 TX1 k)) = true := by decide +kernel
  intro w hw
  obtain ⟨k, hk, rfl⟩ := List.mem_map.mp hw
  have h1 := List.all_eq_true.mp h k hk
  simp only [Bool.and_eq_true, decide_eq_true_eq] at h1
  exact gTbl_in h1.1 h1.2
theorem inX2 : ∀ w ∈ u_ws RX2 TX2 3, w ∈ gTbl := by
  have h : (List.range 3).all (fun k => decide (lw_tbl[([325, 327, 329] : List Nat).getD k 0]? = some (u_lay RX2 TX2 k)) && goodWord (u_lay RX2 TX2 k)) = true := by decide +kernel
  intro w hw
  obtain ⟨k, hk, rfl⟩ := List.mem_map.mp hw
  have h1 := List.all_eq_true.mp h k hk
  simp only [Bool.and_eq_true, decide_eq_true_eq] at h1
  exact gTbl_in h1.1 h1.2
theorem inX3 : ∀ w ∈ u_ws RX3 TX3 7, w ∈ gTbl := by
  have h : (List.range 7).all (fun k => decide (lw_tbl[([227, 229, 231, 233, 235, 237, 239] : List Nat).getD k 0]? = some (u_lay RX3 TX3 k)) && goodWord (u_lay RX3 TX3 k)) = true := by decide +kernel
  intro w hw
  obtain ⟨k, hk, rfl⟩ := List.mem_map.mp hw
  have h1 := List.all_eq_true.mp h k hk
  simp only [Bool.and_eq_true, decide_eq_true_eq] at h1
  exact gTbl_in h1.1 h1.2
theorem inX4 : ∀ w ∈ u_ws RX4 TX4 8, w ∈ gTbl := by
  have h : (List.range 8).all (fun k => decide (lw_tbl[([386, 388, 390, 392, 394, 396, 398, 400] : List Nat).getD k 0]? = some (u_lay RX4 TX4 k)) && goodWord (u_lay RX4 TX4 k)) = true := by decide +kernel
  intro w hw
  obtain ⟨k, hk, rfl⟩ := List.mem_map.mp hw
  have h1 := List.all_eq_true.mp h k hk
  simp only [Bool.and_eq_true, decide_eq_true_eq] at h1
  exact gTbl_in h1.1 h1.2
theorem inX5 : ∀ w ∈ u_ws RX5 TX5 2, w ∈ gTbl := by
  have h : (List.range 2).all (fun k => decide (lw_tbl[([207, 209] : List Nat).getD k 0]? = some (u_lay RX5 TX5 k)) && goodWord (u_lay RX5 TX5 k)) = true := by decide +kernel
  intro w hw
  obtain ⟨k, hk, rfl⟩ := List.mem_map.mp hw
  have h1 := List.all_eq_true.mp h k hk
  simp only [Bool.and_eq_true, decide_eq_true_eq] at h1
  exact gTbl_in h1.1 h1.2
theorem inX6 : ∀ w ∈ u_ws RX6 TX6 17, w ∈ gTbl := by
  have h : (List.range 17).all (fun k => decide (lw_tbl[([161, 163, 165, 167, 169, 171, 173, 175, 177, 179, 181, 183, 185, 187, 189, 191, 193] : List Nat).getD k 0]? = some (u_lay RX6 TX6 k)) && goodWord (u_lay RX6 TX6 k)) = true := by decide +kernel
  intro w hw
  obtain ⟨k, hk, rfl⟩ := List.mem_map.mp hw
  have h1 := List.all_eq_true.mp h k hk
  simp only [Bool.and_eq_true, decide_eq_true_eq] at h1
  exact gTbl_in h1.1 h1.2
theorem inX7 : ∀ w ∈ u_ws RX7 TX7 10, w ∈ gTbl := by
  have h : (List.range 10).all (fun k => decide (lw_tbl[([258, 260, 262, 264, 266, 268, 270, 272, 274, 276] : List Nat).getD k 0]? = some (u_lay RX7 TX7 k)) && goodWord (u_lay RX7 TX7 k)) = true := by decide +kernel
  intro w hw
  obtain ⟨k, hk, rfl⟩ := List.mem_map.mp hw
  have h1 := List.all_eq_true.mp h k hk
  simp only [Bool.and_eq_true, decide_eq_true_eq] at h1
  exact gTbl_in h1.1 h1.2
theorem inX8 : ∀ w ∈ u_ws RX8 TX8 4, w ∈ gTbl := by
  have h : (List.range 4).all (fun k => decide (lw_tbl[([289, 291, 293, 295] : List Nat).getD k 0]? = some (u_lay RX8 TX8 k)) && goodWord (u_lay RX8 TX8 k)) = true := by decide +kernel
  intro w hw
  obtain ⟨k, hk, rfl⟩ := List.mem_map.mp hw
  have h1 := List.all_eq_true.mp h k hk
  simp only [Bool.and_eq_true, decide_eq_true_eq] at h1
  exact gTbl_in h1.1 h1.2
theorem inX9 : ∀ w ∈ u_ws RX9 TX9 5, w ∈ gTbl := by
  have h : (List.range 5).all (fun k => decide (lw_tbl[([359, 361, 363, 365, 367] : List Nat).getD k 0]? = some (u_lay RX9 TX9 k)) && goodWord (u_lay RX9 TX9 k)) = true := by decide +kernel
  intro w hw
  obtain ⟨k, hk, rfl⟩ := List.mem_map.mp hw
  have h1 := List.all_eq_true.mp h k hk
  simp only [Bool.and_eq_true, decide_eq_true_eq] at h1
  exact gTbl_in h1.1 h1.2
theorem inX10 : ∀ w ∈ u_ws RX10 TX10 13, w ∈ gTbl := by
  have h : (List.range 13).all (fun k => decide (lw_tbl[([416, 418, 420, 422, 424, 426, 428, 430, 432, 434, 436, 438, 440] : List Nat).getD k 0]? = some (u_lay RX10 TX10 k)) && goodWord (u_lay RX10 TX10 k)) = true := by decide +kernel
  intro w hw
  obtain ⟨k, hk, rfl⟩ := List.mem_map.mp hw
  have h1 := List.all_eq_true.mp h k hk
  simp only [Bool.and_eq_true, decide_eq_true_eq] at h1
  exact gTbl_in h1.1 h1.2
theorem inX11 : ∀ w ∈ u_ws RX11 TX11 25, w ∈ gTbl := by
  have h : (List.range 25).all (fun k => decide (lw_tbl[([982, 984, 986, 988, 990, 992, 994, 996, 998, 1000, 1002, 1004, 1006, 1008, 1010, 1012, 1014, 1016, 1018, 1020, 1022, 1024, 1026, 1028, 1030] : List Nat).getD k 0]? = some (u_lay RX11 TX11 k)) && goodWord (u_lay RX11 TX11 k)) = true := by decide +kernel
  intro w hw
  obtain ⟨k, hk, rfl⟩ := List.mem_map.mp hw
  have h1 := List.all_eq_true.mp h k hk
  simp only [Bool.and_eq_true, decide_eq_true_eq] at h1
  exact gTbl_in h1.1 h1.2
def tyT (ci : Nat) : Nat → FieldType := match ci with
  | 0 => tyX0
  | 1 => tyX1
  | 2 => tyX2
  | 3 => tyX3
  | 4 => tyX4
  | 5 => tyX5
  | 6 => tyX6
  | 7 => tyX7
  | 8 => tyX8
  | 9 => tyX9
  | 10 => tyX10
  | _ => tyX11
theorem cls_in : ∀ ci, ci < 12 → (∀ w ∈ u_ws (clsT ci).1 (clsT ci).2.1 (clsT ci).2.2, w ∈ gTbl) ∧ (∀ k, k < (clsT ci).2.2 → parseFieldDescriptor ((clsT ci).2.1 k).2.2.1 = some (tyT ci k)) ∧ (∀ a, a < (clsT ci).2.2 → ∀ b, b < (clsT ci).2.2 → a ≠ b → ((clsT ci).2.1 a).2.1 ≠ ((clsT ci).2.1 b).2.1) ∧ clsL[ci]? = some ((clsT ci).1, (clsT ci).2.1, (clsT ci).2.2)
  | 0, _ => ⟨inX0, tyX0_ok, nmX0, rfl⟩
  | 1, _ => ⟨inX1, tyX1_ok, nmX1, rfl⟩
  | 2, _ => ⟨inX2, tyX2_ok, nmX2, rfl⟩
  | 3, _ => ⟨inX3, tyX3_ok, nmX3, rfl⟩
  | 4, _ => ⟨inX4, tyX4_ok, nmX4, rfl⟩
  | 5, _ => ⟨inX5, tyX5_ok, nmX5, rfl⟩
  | 6, _ => ⟨inX6, tyX6_ok, nmX6, rfl⟩
  | 7, _ => ⟨inX7, tyX7_ok, nmX7, rfl⟩
  | 8, _ => ⟨inX8, tyX8_ok, nmX8, rfl⟩
  | 9, _ => ⟨inX9, tyX9_ok, nmX9, rfl⟩
  | 10, _ => ⟨inX10, tyX10_ok, nmX10, rfl⟩
  | 11, _ => ⟨inX11, tyX11_ok, nmX11, rfl⟩
  | n + 12, h => absurd h (by omega)
