theorem ie_0 (K : Kk) (h : Nat) (a : Nat → Nat) (h2 : Nat) (a2 : Nat → Nat) : (exC K h a h2 a2)[0]? = some (h, .inr (10, [.ref (a 0), .ref (a 11), .ref (a 22), .ref (a 24), .ref (a 37), .ref (a 38), .ref (a 40), .ref (a 42), .ref (a 45), .ref (a 46), .ref (a 47), .ref (a 48), .int 0])) := rfl
theorem ie_1 (K : Kk) (h : Nat) (a : Nat → Nat) (h2 : Nat) (a2 : Nat → Nat) : (exC K h a h2 a2)[1]? = some (a 0, .inr (6, [.int (n32 4), .int 0, .int 0, .int 0, .int 0, .int 0, .int 0, .ref (a 1), .ref (a 2), .ref (a 3), .ref (a 4), .ref (a 5), .ref (a 6), .ref (a 7), .ref (a 8), .ref (a 9), .ref (a 10)])) := rfl
theorem ie_2 (K : Kk) (h : Nat) (a : Nat → Nat) (h2 : Nat) (a2 : Nat → Nat) : (exC K h a h2 a2)[12]? = some (a 11, .inr (6, [.int (n32 4), .int 0, .int 0, .int 0, .int 0, .int 0, .int 0, .ref (a 12), .ref (a 13), .ref (a 14), .ref (a 15), .ref (a 16), .ref (a 17), .ref (a 18), .ref (a 19), .ref (a 20), .ref (a 21)])) := rfl
theorem ie_3 (K : Kk) (h : Nat) (a : Nat → Nat) (h2 : Nat) (a2 : Nat → Nat) : (exC K h a h2 a2)[26]? = some (a 25, .inr (6, [.int (n32 4), .int 0, .int 0, .int 0, .int 0, .int 0, .int 0, .ref (a 26), .ref (a 27), .ref (a 28), .ref (a 29), .ref (a 30), .ref (a 31), .ref (a 32), .ref (a 33), .ref (a 34), .ref (a 35)])) := rfl
theorem ie_4 (K : Kk) (h : Nat) (a : Nat → Nat) (h2 : Nat) (a2 : Nat → Nat) : (exC K h a h2 a2)[2]? = some (a 1, .inl (K.2.1, 14, .inl (fun _ => 0))) := rfl
theorem ie_5 (K : Kk) (h : Nat) (a : Nat → Nat) (h2 : Nat) (a2 : Nat → Nat) : (exC K h a h2 a2)[13]? = some (a 12, .inl (K.2.1, 14, .inl (fun _ => 0))) := rfl
theorem ie_6 (K : Kk) (h : Nat) (a : Nat → Nat) (h2 : Nat) (a2 : Nat → Nat) : (exC K h a h2 a2)[27]? = some (a 26, .inl (K.2.1, 14, .inl (fun _ => 0))) := rfl
theorem ie_7 (K : Kk) (h : Nat) (a : Nat → Nat) (h2 : Nat) (a2 : Nat → Nat) : (exC K h a h2 a2)[3]? = some (a 2, .inl (K.2.1, 14, .inl (fun _ => 0))) := rfl
theorem ie_8 (K : Kk) (h : Nat) (a : Nat → Nat) (h2 : Nat) (a2 : Nat → Nat) : (exC K h a h2 a2)[14]? = some (a 13, .inl (K.2.1, 14, .inl (fun _ => 0))) := rfl
theorem ie_9 (K : Kk) (h : Nat) (a : Nat → Nat) (h2 : Nat) (a2 : Nat → Nat) : (exC K h a h2 a2)[28]? = some (a 27, .inl (K.2.1, 14, .inl (fun _ => 0))) := rfl
theorem ie_10 (K : Kk) (h : Nat) (a : Nat → Nat) (h2 : Nat) (a2 : Nat → Nat) : (exC K h a h2 a2)[4]? = some (a 3, .inl (K.2.1, 14, .inl (fun _ => 0))) := rfl
theorem ie_11 (K : Kk) (h : Nat) (a : Nat → Nat) (h2 : Nat) (a2 : Nat → Nat) : (exC K h a h2 a2)[15]? = some (a 14, .inl (K.2.1, 14, .inl (fun _ => 0))) := rfl
theorem ie_12 (K : Kk) (h : Nat) (a : Nat → Nat) (h2 : Nat) (a2 : Nat → Nat) : (exC K h a h2 a2)[29]? = some (a 28, .inl (K.2.1, 14, .inl (fun _ => 0))) := rfl
theorem ie_13 (K : Kk) (h : Nat) (a : Nat → Nat) (h2 : Nat) (a2 : Nat → Nat) : (exC K h a h2 a2)[5]? = some (a 4, .inl (K.2.1, 14, .inl (fun _ => 0))) := rfl
theorem ie_14 (K : Kk) (h : Nat) (a : Nat → Nat) (h2 : Nat) (a2 : Nat → Nat) : (exC K h a h2 a2)[16]? = some (a 15, .inl (K.2.1, 14, .inl (fun _ => 0))) := rfl
theorem ie_15 (K : Kk) (h : Nat) (a : Nat → Nat) (h2 : Nat) (a2 : Nat → Nat) : (exC K h a h2 a2)[30]? = some (a 29, .inl (K.2.1, 14, .inl (fun _ => 0))) := rfl
theorem ie_16 (K : Kk) (h : Nat) (a : Nat → Nat) (h2 : Nat) (a2 : Nat → Nat) : (exC K h a h2 a2)[6]? = some (a 5, .inl (K.2.1, 8, .inl (fun _ => 0))) := rfl
theorem ie_17 (K : Kk) (h : Nat) (a : Nat → Nat) (h2 : Nat) (a2 : Nat → Nat) : (exC K h a h2 a2)[17]? = some (a 16, .inl (K.2.1, 8, .inl (fun _ => 0))) := rfl
theorem ie_18 (K : Kk) (h : Nat) (a : Nat → Nat) (h2 : Nat) (a2 : Nat → Nat) : (exC K h a h2 a2)[31]? = some (a 30, .inl (K.2.1, 8, .inl (fun _ => 0))) := rfl
theorem ie_19 (K : Kk) (h : Nat) (a : Nat → Nat) (h2 : Nat) (a2 : Nat → Nat) : (exC K h a h2 a2)[7]? = some (a 6, .inl (K.2.1, 8, .inl (fun _ => 0))) := rfl
theorem ie_20 (K : Kk) (h : Nat) (a : Nat → Nat) (h2 : Nat) (a2 : Nat → Nat) : (exC K h a h2 a2)[18]? = some (a 17, .inl (K.2.1, 8, .inl (fun _ => 0))) := rfl
theorem ie_21 (K : Kk) (h : Nat) (a : Nat → Nat) (h2 : Nat) (a2 : Nat → Nat) : (exC K h a h2 a2)[32]? = some (a 31, .inl (K.2.1, 8, .inl (fun _ => 0))) := rfl
theorem ie_22 (K : Kk) (h : Nat) (a : Nat → Nat) (h2 : Nat) (a2 : Nat → Nat) : (exC K h a h2 a2)[8]? = some (a 7, .inl (K.2.1, 8, .inl (fun _ => 0))) := rfl
theorem ie_23 (K : Kk) (h : Nat) (a : Nat → Nat) (h2 : Nat) (a2 : Nat → Nat) : (exC K h a h2 a2)[19]? = some (a 18, .inl (K.2.1, 8, .inl (fun _ => 0))) := rfl
theorem ie_24 (K : Kk) (h : Nat) (a : Nat → Nat) (h2 : Nat) (a2 : Nat → Nat) : (exC K h a h2 a2)[33]? = some (a 32, .inl (K.2.1, 8, .inl (fun _ => 0))) := rfl
theorem ie_25 (K : Kk) (h : Nat) (a : Nat → Nat) (h2 : Nat) (a2 : Nat → Nat) : (exC K h a h2 a2)[9]? = some (a 8, .inl (K.2.1, 8, .inl (fun _ => 0))) := rfl
theorem ie_26 (K : Kk) (h : Nat) (a : Nat → Nat) (h2 : Nat) (a2 : Nat → Nat) : (exC K h a h2 a2)[20]? = some (a 19, .inl (K.2.1, 8, .inl (fun _ => 0))) := rfl
theorem ie_27 (K : Kk) (h : Nat) (a : Nat → Nat) (h2 : Nat) (a2 : Nat → Nat) : (exC K h a h2 a2)[34]? = some (a 33, .inl (K.2.1, 8, .inl (fun _ => 0))) := rfl
theorem ie_28 (K : Kk) (h : Nat) (a : Nat → Nat) (h2 : Nat) (a2 : Nat → Nat) : (exC K h a h2 a2)[10]? = some (a 9, .inl (K.2.1, 10, .inl (fun _ => 0))) := rfl
theorem ie_29 (K : Kk) (h : Nat) (a : Nat → Nat) (h2 : Nat) (a2 : Nat → Nat) : (exC K h a h2 a2)[21]? = some (a 20, .inl (K.2.1, 10, .inl (fun _ => 0))) := rfl
theorem ie_30 (K : Kk) (h : Nat) (a : Nat → Nat) (h2 : Nat) (a2 : Nat → Nat) : (exC K h a h2 a2)[35]? = some (a 34, .inl (K.2.1, 10, .inl (fun _ => 0))) := rfl
theorem ie_31 (K : Kk) (h : Nat) (a : Nat → Nat) (h2 : Nat) (a2 : Nat → Nat) : (exC K h a h2 a2)[11]? = some (a 10, .inl (K.2.1, 4, .inl (upd (upd (upd (upd (fun _ => 0) 0 (n32 720)) 1 (n32 0)) 2 (n32 240)) 3 (n32 0)))) := rfl
theorem ie_32 (K : Kk) (h : Nat) (a : Nat → Nat) (h2 : Nat) (a2 : Nat → Nat) : (exC K h a h2 a2)[22]? = some (a 21, .inl (K.2.1, 4, .inl (upd (upd (upd (upd (fun _ => 0) 0 (n32 720)) 1 (n32 0)) 2 (n32 240)) 3 (n32 0)))) := rfl
theorem ie_33 (K : Kk) (h : Nat) (a : Nat → Nat) (h2 : Nat) (a2 : Nat → Nat) : (exC K h a h2 a2)[36]? = some (a 35, .inl (K.2.1, 4, .inl (upd (upd (upd (upd (fun _ => 0) 0 (n32 720)) 1 (n32 0)) 2 (n32 240)) 3 (n32 0)))) := rfl
theorem ie_34 (K : Kk) (h : Nat) (a : Nat → Nat) (h2 : Nat) (a2 : Nat → Nat) : (exC K h a h2 a2)[23]? = some (a 22, .inr (5, [.ref (a 23), .int 0])) := rfl
theorem ie_35 (K : Kk) (h : Nat) (a : Nat → Nat) (h2 : Nat) (a2 : Nat → Nat) : (exC K h a h2 a2)[24]? = some (a 23, .inl (K.2.1, 64, .inl (fun _ => 0))) := rfl
theorem ie_36 (K : Kk) (h : Nat) (a : Nat → Nat) (h2 : Nat) (a2 : Nat → Nat) : (exC K h a h2 a2)[25]? = some (a 24, .inr (3, [.ref (a 22), .ref (a 25), .int 0, .int 0, .int 0, .ref (a 36), .int 0])) := rfl
theorem ie_37 (K : Kk) (h : Nat) (a : Nat → Nat) (h2 : Nat) (a2 : Nat → Nat) : (exC K h a h2 a2)[37]? = some (a 36, .inl (K.2.1, 4, .inl (fun _ => 0))) := rfl
theorem ie_38 (K : Kk) (h : Nat) (a : Nat → Nat) (h2 : Nat) (a2 : Nat → Nat) : (exC K h a h2 a2)[38]? = some (a 37, .inr (7, [.ref (a 0), .int 0, .int 0, .int 0, .int 0, .int 0, .int 0, .int 0, .int 0, .int 0])) := rfl
theorem ie_39 (K : Kk) (h : Nat) (a : Nat → Nat) (h2 : Nat) (a2 : Nat → Nat) : (exC K h a h2 a2)[39]? = some (a 38, .inr (8, [.ref (a 0), .ref (a 37), .ref (a 39), .int 0])) := rfl
theorem ie_40 (K : Kk) (h : Nat) (a : Nat → Nat) (h2 : Nat) (a2 : Nat → Nat) : (exC K h a h2 a2)[40]? = some (a 39, .inl (K.2.1, 10, .inl (fun _ => 0))) := rfl
theorem ie_41 (K : Kk) (h : Nat) (a : Nat → Nat) (h2 : Nat) (a2 : Nat → Nat) : (exC K h a h2 a2)[41]? = some (a 40, .inr (0, [.ref (a 0), .ref (a 37), .ref (a 41)])) := rfl
theorem ie_42 (K : Kk) (h : Nat) (a : Nat → Nat) (h2 : Nat) (a2 : Nat → Nat) : (exC K h a h2 a2)[42]? = some (a 41, .inl (K.2.2.2.1, 10, .inr (.inr (.inr (.inr (fun j => if j < 10 then some (a 41 + 1 + j) else none)))))) := rfl
theorem ie_43 (K : Kk) (h : Nat) (a : Nat → Nat) (h2 : Nat) (a2 : Nat → Nat) : (exC K h a h2 a2)[43]? = some (a 41 + 1 + 0, .inl (K.2.1, 10, .inl (fun _ => 0))) := rfl
theorem ie_44 (K : Kk) (h : Nat) (a : Nat → Nat) (h2 : Nat) (a2 : Nat → Nat) : (exC K h a h2 a2)[44]? = some (a 41 + 1 + 1, .inl (K.2.1, 10, .inl (fun _ => 0))) := rfl
theorem ie_45 (K : Kk) (h : Nat) (a : Nat → Nat) (h2 : Nat) (a2 : Nat → Nat) : (exC K h a h2 a2)[45]? = some (a 41 + 1 + 2, .inl (K.2.1, 10, .inl (fun _ => 0))) := rfl
theorem ie_46 (K : Kk) (h : Nat) (a : Nat → Nat) (h2 : Nat) (a2 : Nat → Nat) : (exC K h a h2 a2)[46]? = some (a 41 + 1 + 3, .inl (K.2.1, 10, .inl (fun _ => 0))) := rfl
theorem ie_47 (K : Kk) (h : Nat) (a : Nat → Nat) (h2 : Nat) (a2 : Nat → Nat) : (exC K h a h2 a2)[47]? = some (a 41 + 1 + 4, .inl (K.2.1, 10, .inl (fun _ => 0))) := rfl
theorem ie_48 (K : Kk) (h : Nat) (a : Nat → Nat) (h2 : Nat) (a2 : Nat → Nat) : (exC K h a h2 a2)[48]? = some (a 41 + 1 + 5, .inl (K.2.1, 10, .inl (fun _ => 0))) := rfl
theorem ie_49 (K : Kk) (h : Nat) (a : Nat → Nat) (h2 : Nat) (a2 : Nat → Nat) : (exC K h a h2 a2)[49]? = some (a 41 + 1 + 6, .inl (K.2.1, 10, .inl (fun _ => 0))) := rfl
theorem ie_50 (K : Kk) (h : Nat) (a : Nat → Nat) (h2 : Nat) (a2 : Nat → Nat) : (exC K h a h2 a2)[50]? = some (a 41 + 1 + 7, .inl (K.2.1, 10, .inl (fun _ => 0))) := rfl
theorem ie_51 (K : Kk) (h : Nat) (a : Nat → Nat) (h2 : Nat) (a2 : Nat → Nat) : (exC K h a h2 a2)[51]? = some (a 41 + 1 + 8, .inl (K.2.1, 10, .inl (fun _ => 0))) := rfl
theorem ie_52 (K : Kk) (h : Nat) (a : Nat → Nat) (h2 : Nat) (a2 : Nat → Nat) : (exC K h a h2 a2)[52]? = some (a 41 + 1 + 9, .inl (K.2.1, 10, .inl (fun _ => 0))) := rfl
theorem ie_53 (K : Kk) (h : Nat) (a : Nat → Nat) (h2 : Nat) (a2 : Nat → Nat) : (exC K h a h2 a2)[53]? = some (a 42, .inr (2, [.ref (a 0), .ref (a 43), .ref (a 44)])) := rfl
theorem ie_54 (K : Kk) (h : Nat) (a : Nat → Nat) (h2 : Nat) (a2 : Nat → Nat) : (exC K h a h2 a2)[54]? = some (a 43, .inl (K.2.1, 10, .inl (fun _ => 0))) := rfl
theorem ie_55 (K : Kk) (h : Nat) (a : Nat → Nat) (h2 : Nat) (a2 : Nat → Nat) : (exC K h a h2 a2)[55]? = some (a 44, .inl (K.2.1, 10, .inl (fun _ => 0))) := rfl
theorem ie_56 (K : Kk) (h : Nat) (a : Nat → Nat) (h2 : Nat) (a2 : Nat → Nat) : (exC K h a h2 a2)[56]? = some (a 45, .inr (1, [.ref (a 0), .ref (a 38), .int 0])) := rfl
theorem ie_57 (K : Kk) (h : Nat) (a : Nat → Nat) (h2 : Nat) (a2 : Nat → Nat) : (exC K h a h2 a2)[57]? = some (a 46, .inr (9, [.ref (a 0), .ref (a 37), .ref (a 38), .ref (a 40), .ref (a 45)])) := rfl
theorem ie_58 (K : Kk) (h : Nat) (a : Nat → Nat) (h2 : Nat) (a2 : Nat → Nat) : (exC K h a h2 a2)[58]? = some (a 47, .inl (K.2.2.2.2, 8, .inr (.inr (.inr (.inr (va_up (va_up (va_up (va_up (va_up (va_up (va_up (va_up (fun _ => none) 0 (some (a 49))) 1 (some (a 54))) 2 (some (a 59))) 3 (some (a 64))) 4 (some (a 69))) 5 (some (a 74))) 6 (some (a 79))) 7 (some (a 84)))))))) := rfl
theorem ie_59 (K : Kk) (h : Nat) (a : Nat → Nat) (h2 : Nat) (a2 : Nat → Nat) : (exC K h a h2 a2)[60]? = some (a 49, .inr (4, [.ref (a 0), .ref (a 37), .ref (a 38), .ref (a 50), .ref (a 51), .ref (a 52), .ref (a 53), .int 0])) := rfl
theorem ie_60 (K : Kk) (h : Nat) (a : Nat → Nat) (h2 : Nat) (a2 : Nat → Nat) : (exC K h a h2 a2)[65]? = some (a 54, .inr (4, [.ref (a 0), .ref (a 37), .ref (a 38), .ref (a 55), .ref (a 56), .ref (a 57), .ref (a 58), .int 0])) := rfl
theorem ie_61 (K : Kk) (h : Nat) (a : Nat → Nat) (h2 : Nat) (a2 : Nat → Nat) : (exC K h a h2 a2)[70]? = some (a 59, .inr (4, [.ref (a 0), .ref (a 37), .ref (a 38), .ref (a 60), .ref (a 61), .ref (a 62), .ref (a 63), .int 0])) := rfl
theorem ie_62 (K : Kk) (h : Nat) (a : Nat → Nat) (h2 : Nat) (a2 : Nat → Nat) : (exC K h a h2 a2)[75]? = some (a 64, .inr (4, [.ref (a 0), .ref (a 37), .ref (a 38), .ref (a 65), .ref (a 66), .ref (a 67), .ref (a 68), .int 0])) := rfl
theorem ie_63 (K : Kk) (h : Nat) (a : Nat → Nat) (h2 : Nat) (a2 : Nat → Nat) : (exC K h a h2 a2)[80]? = some (a 69, .inr (4, [.ref (a 0), .ref (a 37), .ref (a 38), .ref (a 70), .ref (a 71), .ref (a 72), .ref (a 73), .int 0])) := rfl
theorem ie_64 (K : Kk) (h : Nat) (a : Nat → Nat) (h2 : Nat) (a2 : Nat → Nat) : (exC K h a h2 a2)[85]? = some (a 74, .inr (4, [.ref (a 0), .ref (a 37), .ref (a 38), .ref (a 75), .ref (a 76), .ref (a 77), .ref (a 78), .int 0])) := rfl
theorem ie_65 (K : Kk) (h : Nat) (a : Nat → Nat) (h2 : Nat) (a2 : Nat → Nat) : (exC K h a h2 a2)[90]? = some (a 79, .inr (4, [.ref (a 0), .ref (a 37), .ref (a 38), .ref (a 80), .ref (a 81), .ref (a 82), .ref (a 83), .int 0])) := rfl
theorem ie_66 (K : Kk) (h : Nat) (a : Nat → Nat) (h2 : Nat) (a2 : Nat → Nat) : (exC K h a h2 a2)[95]? = some (a 84, .inr (4, [.ref (a 0), .ref (a 37), .ref (a 38), .ref (a 85), .ref (a 86), .ref (a 87), .ref (a 88), .int 0])) := rfl
theorem ie_67 (K : Kk) (h : Nat) (a : Nat → Nat) (h2 : Nat) (a2 : Nat → Nat) : (exC K h a h2 a2)[61]? = some (a 50, .inl (K.2.1, 10, .inl (fun _ => 0))) := rfl
theorem ie_68 (K : Kk) (h : Nat) (a : Nat → Nat) (h2 : Nat) (a2 : Nat → Nat) : (exC K h a h2 a2)[66]? = some (a 55, .inl (K.2.1, 10, .inl (fun _ => 0))) := rfl
theorem ie_69 (K : Kk) (h : Nat) (a : Nat → Nat) (h2 : Nat) (a2 : Nat → Nat) : (exC K h a h2 a2)[71]? = some (a 60, .inl (K.2.1, 10, .inl (fun _ => 0))) := rfl
theorem ie_70 (K : Kk) (h : Nat) (a : Nat → Nat) (h2 : Nat) (a2 : Nat → Nat) : (exC K h a h2 a2)[76]? = some (a 65, .inl (K.2.1, 10, .inl (fun _ => 0))) := rfl
theorem ie_71 (K : Kk) (h : Nat) (a : Nat → Nat) (h2 : Nat) (a2 : Nat → Nat) : (exC K h a h2 a2)[81]? = some (a 70, .inl (K.2.1, 10, .inl (fun _ => 0))) := rfl
theorem ie_72 (K : Kk) (h : Nat) (a : Nat → Nat) (h2 : Nat) (a2 : Nat → Nat) : (exC K h a h2 a2)[86]? = some (a 75, .inl (K.2.1, 10, .inl (fun _ => 0))) := rfl
theorem ie_73 (K : Kk) (h : Nat) (a : Nat → Nat) (h2 : Nat) (a2 : Nat → Nat) : (exC K h a h2 a2)[91]? = some (a 80, .inl (K.2.1, 10, .inl (fun _ => 0))) := rfl
theorem ie_74 (K : Kk) (h : Nat) (a : Nat → Nat) (h2 : Nat) (a2 : Nat → Nat) : (exC K h a h2 a2)[96]? = some (a 85, .inl (K.2.1, 10, .inl (fun _ => 0))) := rfl
theorem ie_75 (K : Kk) (h : Nat) (a : Nat → Nat) (h2 : Nat) (a2 : Nat → Nat) : (exC K h a h2 a2)[62]? = some (a 51, .inl (K.2.1, 10, .inl (fun _ => 0))) := rfl
theorem ie_76 (K : Kk) (h : Nat) (a : Nat → Nat) (h2 : Nat) (a2 : Nat → Nat) : (exC K h a h2 a2)[67]? = some (a 56, .inl (K.2.1, 10, .inl (fun _ => 0))) := rfl
theorem ie_77 (K : Kk) (h : Nat) (a : Nat → Nat) (h2 : Nat) (a2 : Nat → Nat) : (exC K h a h2 a2)[72]? = some (a 61, .inl (K.2.1, 10, .inl (fun _ => 0))) := rfl
theorem ie_78 (K : Kk) (h : Nat) (a : Nat → Nat) (h2 : Nat) (a2 : Nat → Nat) : (exC K h a h2 a2)[77]? = some (a 66, .inl (K.2.1, 10, .inl (fun _ => 0))) := rfl
theorem ie_79 (K : Kk) (h : Nat) (a : Nat → Nat) (h2 : Nat) (a2 : Nat → Nat) : (exC K h a h2 a2)[82]? = some (a 71, .inl (K.2.1, 10, .inl (fun _ => 0))) := rfl
theorem ie_80 (K : Kk) (h : Nat) (a : Nat → Nat) (h2 : Nat) (a2 : Nat → Nat) : (exC K h a h2 a2)[87]? = some (a 76, .inl (K.2.1, 10, .inl (fun _ => 0))) := rfl
theorem ie_81 (K : Kk) (h : Nat) (a : Nat → Nat) (h2 : Nat) (a2 : Nat → Nat) : (exC K h a h2 a2)[92]? = some (a 81, .inl (K.2.1, 10, .inl (fun _ => 0))) := rfl
theorem ie_82 (K : Kk) (h : Nat) (a : Nat → Nat) (h2 : Nat) (a2 : Nat → Nat) : (exC K h a h2 a2)[97]? = some (a 86, .inl (K.2.1, 10, .inl (fun _ => 0))) := rfl
theorem ie_83 (K : Kk) (h : Nat) (a : Nat → Nat) (h2 : Nat) (a2 : Nat → Nat) : (exC K h a h2 a2)[63]? = some (a 52, .inl (K.2.1, 10, .inl (fun _ => 0))) := rfl
theorem ie_84 (K : Kk) (h : Nat) (a : Nat → Nat) (h2 : Nat) (a2 : Nat → Nat) : (exC K h a h2 a2)[68]? = some (a 57, .inl (K.2.1, 10, .inl (fun _ => 0))) := rfl
theorem ie_85 (K : Kk) (h : Nat) (a : Nat → Nat) (h2 : Nat) (a2 : Nat → Nat) : (exC K h a h2 a2)[73]? = some (a 62, .inl (K.2.1, 10, .inl (fun _ => 0))) := rfl
theorem ie_86 (K : Kk) (h : Nat) (a : Nat → Nat) (h2 : Nat) (a2 : Nat → Nat) : (exC K h a h2 a2)[78]? = some (a 67, .inl (K.2.1, 10, .inl (fun _ => 0))) := rfl
theorem ie_87 (K : Kk) (h : Nat) (a : Nat → Nat) (h2 : Nat) (a2 : Nat → Nat) : (exC K h a h2 a2)[83]? = some (a 72, .inl (K.2.1, 10, .inl (fun _ => 0))) := rfl
theorem ie_88 (K : Kk) (h : Nat) (a : Nat → Nat) (h2 : Nat) (a2 : Nat → Nat) : (exC K h a h2 a2)[88]? = some (a 77, .inl (K.2.1, 10, .inl (fun _ => 0))) := rfl
theorem ie_89 (K : Kk) (h : Nat) (a : Nat → Nat) (h2 : Nat) (a2 : Nat → Nat) : (exC K h a h2 a2)[93]? = some (a 82, .inl (K.2.1, 10, .inl (fun _ => 0))) := rfl
theorem ie_90 (K : Kk) (h : Nat) (a : Nat → Nat) (h2 : Nat) (a2 : Nat → Nat) : (exC K h a h2 a2)[98]? = some (a 87, .inl (K.2.1, 10, .inl (fun _ => 0))) := rfl
theorem ie_91 (K : Kk) (h : Nat) (a : Nat → Nat) (h2 : Nat) (a2 : Nat → Nat) : (exC K h a h2 a2)[64]? = some (a 53, .inl (K.2.1, 10, .inl (fun _ => 0))) := rfl
theorem ie_92 (K : Kk) (h : Nat) (a : Nat → Nat) (h2 : Nat) (a2 : Nat → Nat) : (exC K h a h2 a2)[69]? = some (a 58, .inl (K.2.1, 10, .inl (fun _ => 0))) := rfl
theorem ie_93 (K : Kk) (h : Nat) (a : Nat → Nat) (h2 : Nat) (a2 : Nat → Nat) : (exC K h a h2 a2)[74]? = some (a 63, .inl (K.2.1, 10, .inl (fun _ => 0))) := rfl
theorem ie_94 (K : Kk) (h : Nat) (a : Nat → Nat) (h2 : Nat) (a2 : Nat → Nat) : (exC K h a h2 a2)[79]? = some (a 68, .inl (K.2.1, 10, .inl (fun _ => 0))) := rfl
theorem ie_95 (K : Kk) (h : Nat) (a : Nat → Nat) (h2 : Nat) (a2 : Nat → Nat) : (exC K h a h2 a2)[84]? = some (a 73, .inl (K.2.1, 10, .inl (fun _ => 0))) := rfl
theorem ie_96 (K : Kk) (h : Nat) (a : Nat → Nat) (h2 : Nat) (a2 : Nat → Nat) : (exC K h a h2 a2)[89]? = some (a 78, .inl (K.2.1, 10, .inl (fun _ => 0))) := rfl
theorem ie_97 (K : Kk) (h : Nat) (a : Nat → Nat) (h2 : Nat) (a2 : Nat → Nat) : (exC K h a h2 a2)[94]? = some (a 83, .inl (K.2.1, 10, .inl (fun _ => 0))) := rfl
theorem ie_98 (K : Kk) (h : Nat) (a : Nat → Nat) (h2 : Nat) (a2 : Nat → Nat) : (exC K h a h2 a2)[99]? = some (a 88, .inl (K.2.1, 10, .inl (fun _ => 0))) := rfl
theorem ie_99 (K : Kk) (h : Nat) (a : Nat → Nat) (h2 : Nat) (a2 : Nat → Nat) : (exC K h a h2 a2)[59]? = some (a 48, .inl (K.2.1, 7, .inl (fun _ => 0))) := rfl
theorem ie_100 (K : Kk) (h : Nat) (a : Nat → Nat) (h2 : Nat) (a2 : Nat → Nat) : (exC K h a h2 a2)[100]? = some (h2, .inr (11, [.ref (a2 0), .ref (a2 1), .ref (a2 2), .ref (a2 3), .int 0, .ref (a2 4), .ref (a2 5), .int 0, .int 0, .ref (a2 6), .ref (a2 7), .ref (a2 8), .ref (a2 9), .ref (a2 10), .int 0, .int 0, .ref (a2 11), .int 0, .int 0, .int 0, .ref (a2 12), .ref (a2 13), .ref (a2 14), .ref (a2 15), .ref (a2 16)])) := rfl
theorem ie_101 (K : Kk) (h : Nat) (a : Nat → Nat) (h2 : Nat) (a2 : Nat → Nat) : (exC K h a h2 a2)[101]? = some (a2 0, .inl (K.2.1, 7, .inl (fun _ => 0))) := rfl
theorem ie_102 (K : Kk) (h : Nat) (a : Nat → Nat) (h2 : Nat) (a2 : Nat → Nat) : (exC K h a h2 a2)[102]? = some (a2 1, .inl (K.2.1, 123, .inl (upd (upd (upd (fun _ => 0) 0 (n32 4)) 7 (n32 720)) 9 (n32 240)))) := rfl
theorem ie_103 (K : Kk) (h : Nat) (a : Nat → Nat) (h2 : Nat) (a2 : Nat → Nat) : (exC K h a h2 a2)[103]? = some (a2 2, .inl (K.2.1, 123, .inl (fun _ => 0))) := rfl
theorem ie_104 (K : Kk) (h : Nat) (a : Nat → Nat) (h2 : Nat) (a2 : Nat → Nat) : (exC K h a h2 a2)[104]? = some (a2 3, .inl (K.2.1, 123, .inl (fun _ => 0))) := rfl
theorem ie_105 (K : Kk) (h : Nat) (a : Nat → Nat) (h2 : Nat) (a2 : Nat → Nat) : (exC K h a h2 a2)[105]? = some (a2 4, .inl (K.2.1, 64, .inl (fun _ => 0))) := rfl
theorem ie_106 (K : Kk) (h : Nat) (a : Nat → Nat) (h2 : Nat) (a2 : Nat → Nat) : (exC K h a h2 a2)[106]? = some (a2 5, .inl (K.2.1, 4, .inl (fun _ => 0))) := rfl
theorem ie_107 (K : Kk) (h : Nat) (a : Nat → Nat) (h2 : Nat) (a2 : Nat → Nat) : (exC K h a h2 a2)[107]? = some (a2 6, .inl (K.2.1, 10, .inl (fun _ => 0))) := rfl
theorem ie_108 (K : Kk) (h : Nat) (a : Nat → Nat) (h2 : Nat) (a2 : Nat → Nat) : (exC K h a h2 a2)[108]? = some (a2 7, .inl (K.2.2.1, 10, .inl (fun _ => 0))) := rfl
theorem ie_109 (K : Kk) (h : Nat) (a : Nat → Nat) (h2 : Nat) (a2 : Nat → Nat) : (exC K h a h2 a2)[109]? = some (a2 8, .inl (K.2.1, 11, .inl (fun _ => 0))) := rfl
theorem ie_110 (K : Kk) (h : Nat) (a : Nat → Nat) (h2 : Nat) (a2 : Nat → Nat) : (exC K h a h2 a2)[110]? = some (a2 9, .inl (K.2.1, 10, .inl (fun _ => 0))) := rfl
theorem ie_111 (K : Kk) (h : Nat) (a : Nat → Nat) (h2 : Nat) (a2 : Nat → Nat) : (exC K h a h2 a2)[111]? = some (a2 10, .inl (K.2.1, 10, .inl (fun _ => 0))) := rfl
theorem ie_112 (K : Kk) (h : Nat) (a : Nat → Nat) (h2 : Nat) (a2 : Nat → Nat) : (exC K h a h2 a2)[112]? = some (a2 11, .inl (K.2.1, 100, .inl (fun _ => 0))) := rfl
theorem ie_113 (K : Kk) (h : Nat) (a : Nat → Nat) (h2 : Nat) (a2 : Nat → Nat) : (exC K h a h2 a2)[113]? = some (a2 12, .inl (K.2.1, 8, .inl (fun _ => 0))) := rfl
theorem ie_114 (K : Kk) (h : Nat) (a : Nat → Nat) (h2 : Nat) (a2 : Nat → Nat) : (exC K h a h2 a2)[114]? = some (a2 13, .inl (K.2.1, 10, .inl (fun _ => 0))) := rfl
theorem ie_115 (K : Kk) (h : Nat) (a : Nat → Nat) (h2 : Nat) (a2 : Nat → Nat) : (exC K h a h2 a2)[115]? = some (a2 14, .inl (K.2.1, 10, .inl (fun _ => 0))) := rfl
theorem ie_116 (K : Kk) (h : Nat) (a : Nat → Nat) (h2 : Nat) (a2 : Nat → Nat) : (exC K h a h2 a2)[116]? = some (a2 15, .inl (K.2.1, 10, .inl (fun _ => 0))) := rfl
theorem ie_117 (K : Kk) (h : Nat) (a : Nat → Nat) (h2 : Nat) (a2 : Nat → Nat) : (exC K h a h2 a2)[117]? = some (a2 16, .inl (K.2.1, 10, .inl (fun _ => 0))) := rfl
set_option maxRecDepth 100000 in
set_option maxHeartbeats 4000000 in
theorem ieW (K : Kk) (h : Nat) (a : Nat → Nat) (h2 : Nat) (a2 : Nat → Nat) : isW.map (fun i => (wX10 K h a ++ wX11 K h2 a2)[i]?) = (exW K h a h2 a2).map some := by
  rw [exC_eq]
  unfold isW exW
  simp only [List.map_cons, List.map_nil]
  rw [ie_0, ie_1, ie_2, ie_3, ie_4, ie_5, ie_6, ie_7, ie_8, ie_9, ie_10, ie_11, ie_12, ie_13, ie_14, ie_15, ie_16, ie_17, ie_18, ie_19, ie_20, ie_21, ie_22, ie_23, ie_24, ie_25, ie_26, ie_27, ie_28, ie_29, ie_30, ie_31, ie_32, ie_33, ie_34, ie_35, ie_36, ie_37, ie_38, ie_39, ie_40, ie_41, ie_42, ie_43, ie_44, ie_45, ie_46, ie_47, ie_48, ie_49, ie_50, ie_51, ie_52, ie_53, ie_54, ie_55, ie_56, ie_57, ie_58, ie_59, ie_60, ie_61, ie_62, ie_63, ie_64, ie_65, ie_66, ie_67, ie_68, ie_69, ie_70, ie_71, ie_72, ie_73, ie_74, ie_75, ie_76, ie_77, ie_78, ie_79, ie_80, ie_81, ie_82, ie_83, ie_84, ie_85, ie_86, ie_87, ie_88, ie_89, ie_90, ie_91, ie_92, ie_93, ie_94, ie_95, ie_96, ie_97, ie_98, ie_99, ie_100, ie_101, ie_102, ie_103, ie_104, ie_105, ie_106, ie_107, ie_108, ie_109, ie_110, ie_111, ie_112, ie_113, ie_114, ie_115, ie_116, ie_117]
theorem ndW : va_nd isW = true := by decide +kernel
theorem fm_of {α : Type} {l : List Nat} {f : Nat → Option α} {w : List α} (h : l.map f = w.map some) : l.filterMap f = w := by
  have h1 : l.filterMap f = (l.map f).filterMap id := by rw [List.filterMap_map]; rfl
  rw [h1, h, List.filterMap_map]
  exact List.filterMap_some
theorem tyW (K : Kk) (h : Nat) (a : Nat → Nat) (h2 : Nat) (a2 : Nat → Nat) (b t1 t2 n : Nat) : ([0, 0, 0, 0, 0, 0, 0, 0, 0, 0, 0, 0, 0, 2, 0, 0, 0, 3, 0, 0, 0, 0, 0, 0, 0, 0, 0, 0, 0, 0, 1, 0, 0, 0, 0, 0, 0, 0, 0, 0] : List Nat).filterMap (fun i => (tyK K)[i]?) = tysOf (gW K h a h2 a2 b t1 t2 n) := rfl
