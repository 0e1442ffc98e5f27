theorem lT1 {w : Cond} {i : Nat} (h : tables_1_1[i]? = some w) : w ∈ lw_tbl := List.mem_append_right _ (List.mem_append_left _ (List.mem_of_getElem? h))
theorem gT1 {w : Cond} {i : Nat} (h : tables_1_1[i]? = some w) (hg : goodWord w = true) : w ∈ gTbl := List.mem_filter.mpr ⟨lT1 h, hg⟩
theorem lT2 {w : Cond} {i : Nat} (h : tables_1_2[i]? = some w) : w ∈ lw_tbl := List.mem_append_right _ (List.mem_append_right _ (List.mem_append_left _ (List.mem_of_getElem? h)))
theorem gT2 {w : Cond} {i : Nat} (h : tables_1_2[i]? = some w) (hg : goodWord w = true) : w ∈ gTbl := List.mem_filter.mpr ⟨lT2 h, hg⟩
theorem lT3 {w : Cond} {i : Nat} (h : tables_1_3[i]? = some w) : w ∈ lw_tbl := List.mem_append_right _ (List.mem_append_right _ (List.mem_append_right _ (List.mem_append_left _ (List.mem_of_getElem? h))))
theorem gT3 {w : Cond} {i : Nat} (h : tables_1_3[i]? = some w) (hg : goodWord w = true) : w ∈ gTbl := List.mem_filter.mpr ⟨lT3 h, hg⟩
theorem lT4 {w : Cond} {i : Nat} (h : tables_1_4[i]? = some w) : w ∈ lw_tbl := List.mem_append_right _ (List.mem_append_right _ (List.mem_append_right _ (List.mem_append_right _ (List.mem_append_left _ (List.mem_of_getElem? h)))))
theorem gT4 {w : Cond} {i : Nat} (h : tables_1_4[i]? = some w) (hg : goodWord w = true) : w ∈ gTbl := List.mem_filter.mpr ⟨lT4 h, hg⟩
theorem lT5 {w : Cond} {i : Nat} (h : tables_1_5[i]? = some w) : w ∈ lw_tbl := List.mem_append_right _ (List.mem_append_right _ (List.mem_append_right _ (List.mem_append_right _ (List.mem_append_right _ (List.mem_append_left _ (List.mem_of_getElem? h))))))
theorem gT5 {w : Cond} {i : Nat} (h : tables_1_5[i]? = some w) (hg : goodWord w = true) : w ∈ gTbl := List.mem_filter.mpr ⟨lT5 h, hg⟩
theorem lT6 {w : Cond} {i : Nat} (h : tables_1_6[i]? = some w) : w ∈ lw_tbl := List.mem_append_right _ (List.mem_append_right _ (List.mem_append_right _ (List.mem_append_right _ (List.mem_append_right _ (List.mem_append_right _ (List.mem_of_getElem? h))))))
theorem gT6 {w : Cond} {i : Nat} (h : tables_1_6[i]? = some w) (hg : goodWord w = true) : w ∈ gTbl := List.mem_filter.mpr ⟨lT6 h, hg⟩
abbrev mX0_lay : Mt := (yX0_lay, cX0_lay, 4, none, 0)
theorem kX0_lay : okMc mX0_lay 1 := ⟨by decide +kernel, gT3 (i := 136) (by decide +kernel) rfl, gT1 (i := 7) (by decide +kernel) rfl, ⟨by decide +kernel, by decide +kernel⟩, by decide +kernel, by decide⟩
theorem vX0_lay : okVc mX0_lay := ⟨gT3 (i := 134) (by decide +kernel) rfl, gT3 (i := 135) (by decide +kernel) rfl⟩
abbrev mX0_layStep : Mt := (yX0_layStep, cX0_layStep, 4, none, 0)
theorem kX0_layStep : okMc mX0_layStep 3 := ⟨by decide +kernel, gT3 (i := 144) (by decide +kernel) rfl, gT1 (i := 7) (by decide +kernel) rfl, ⟨by decide +kernel, by decide +kernel⟩, by decide +kernel, by decide⟩
theorem vX0_layStep : okVc mX0_layStep := ⟨gT3 (i := 143) (by decide +kernel) rfl, gTbl_in (i := 17) (by decide +kernel) rfl⟩
abbrev mX0_join : Mt := (yX0_join, cX0_join, 3, none, 0)
theorem kX0_join : okMc mX0_join 0 := ⟨by decide +kernel, gT3 (i := 151) (by decide +kernel) rfl, gT1 (i := 7) (by decide +kernel) rfl, ⟨by decide +kernel, by decide +kernel⟩, by decide +kernel, by decide⟩
theorem vX0_join : okVc mX0_join := ⟨gT3 (i := 149) (by decide +kernel) rfl, gT3 (i := 150) (by decide +kernel) rfl⟩
abbrev mX0_joinBy : Mt := (yX0_joinBy, cX0_joinBy, 5, none, 0)
theorem kX0_joinBy : okMc mX0_joinBy 3 := ⟨by decide +kernel, gT3 (i := 155) (by decide +kernel) rfl, gT1 (i := 7) (by decide +kernel) rfl, ⟨by decide +kernel, by decide +kernel⟩, by decide +kernel, by decide⟩
theorem vX0_joinBy : okVc mX0_joinBy := ⟨gT3 (i := 154) (by decide +kernel) rfl, gTbl_in (i := 18) (by decide +kernel) rfl⟩
abbrev mX0_pairsApart : Mt := (yX0_pairsApart, cX0_pairsApart, 4, some .int, 0)
theorem kX0_pairsApart : okMc mX0_pairsApart 0 := ⟨by decide +kernel, gT3 (i := 159) (by decide +kernel) rfl, gT1 (i := 7) (by decide +kernel) rfl, ⟨by decide +kernel, by decide +kernel⟩, by decide +kernel, by decide⟩
theorem vX0_pairsApart : okVc mX0_pairsApart := ⟨gT3 (i := 157) (by decide +kernel) rfl, gT3 (i := 158) (by decide +kernel) rfl⟩
abbrev mX0_firstApart : Mt := (yX0_firstApart, cX0_firstApart, 3, some .int, 0)
theorem kX0_firstApart : okMc mX0_firstApart 0 := ⟨by decide +kernel, gT4 (i := 149) (by decide +kernel) rfl, gT1 (i := 7) (by decide +kernel) rfl, ⟨by decide +kernel, by decide +kernel⟩, by decide +kernel, by decide⟩
theorem vX0_firstApart : okVc mX0_firstApart := ⟨gT4 (i := 147) (by decide +kernel) rfl, gT4 (i := 148) (by decide +kernel) rfl⟩
abbrev mX0_isApart : Mt := (yX0_isApart, cX0_isApart, 3, some .boolean, 0)
theorem kX0_isApart : okMc mX0_isApart 2 := ⟨by decide +kernel, gT3 (i := 163) (by decide +kernel) rfl, gT1 (i := 7) (by decide +kernel) rfl, ⟨by decide +kernel, by decide +kernel⟩, by decide +kernel, by decide⟩
theorem vX0_isApart : okVc mX0_isApart := ⟨gT3 (i := 162) (by decide +kernel) rfl, gTbl_in (i := 19) (by decide +kernel) rfl⟩
abbrev mX0_farthest : Mt := (yX0_farthest, cX0_farthest, 4, some .int, 0)
theorem kX0_farthest : okMc mX0_farthest 0 := ⟨by decide +kernel, gT3 (i := 171) (by decide +kernel) rfl, gT1 (i := 7) (by decide +kernel) rfl, ⟨by decide +kernel, by decide +kernel⟩, by decide +kernel, by decide⟩
theorem vX0_farthest : okVc mX0_farthest := ⟨gT3 (i := 169) (by decide +kernel) rfl, gT3 (i := 170) (by decide +kernel) rfl⟩
abbrev mX0_roundOfRow : Mt := (yX0_roundOfRow, cX0_roundOfRow, 5, some .int, 0)
theorem kX0_roundOfRow : okMc mX0_roundOfRow 0 := ⟨by decide +kernel, gT4 (i := 66) (by decide +kernel) rfl, gT1 (i := 7) (by decide +kernel) rfl, ⟨by decide +kernel, by decide +kernel⟩, by decide +kernel, by decide⟩
theorem vX0_roundOfRow : okVc mX0_roundOfRow := ⟨gT4 (i := 64) (by decide +kernel) rfl, gT4 (i := 65) (by decide +kernel) rfl⟩
abbrev mX1_total : Mt := (yX1_total, cX1_total, 1, some .int, 1)
theorem kX1_total : okMc mX1_total 0 := ⟨by decide +kernel, gT3 (i := 218) (by decide +kernel) rfl, gT1 (i := 9) (by decide +kernel) rfl, ⟨by decide +kernel, by decide +kernel⟩, by decide +kernel, by decide⟩
theorem vX1_total : okVc mX1_total := ⟨gT3 (i := 216) (by decide +kernel) rfl, gT3 (i := 217) (by decide +kernel) rfl⟩
abbrev mX1_totalUpTo : Mt := (yX1_totalUpTo, cX1_totalUpTo, 4, some .int, 1)
theorem kX1_totalUpTo : okMc mX1_totalUpTo 1 := ⟨by decide +kernel, gT3 (i := 223) (by decide +kernel) rfl, gT1 (i := 9) (by decide +kernel) rfl, ⟨by decide +kernel, by decide +kernel⟩, by decide +kernel, by decide⟩
theorem vX1_totalUpTo : okVc mX1_totalUpTo := ⟨gT3 (i := 221) (by decide +kernel) rfl, gT3 (i := 222) (by decide +kernel) rfl⟩
abbrev mX1_minutesOf : Mt := (yX1_minutesOf, cX1_minutesOf, 5, some .int, 1)
theorem kX1_minutesOf : okMc mX1_minutesOf 3 := ⟨by decide +kernel, gT3 (i := 227) (by decide +kernel) rfl, gT1 (i := 9) (by decide +kernel) rfl, ⟨by decide +kernel, by decide +kernel⟩, by decide +kernel, by decide⟩
theorem vX1_minutesOf : okVc mX1_minutesOf := ⟨gT3 (i := 226) (by decide +kernel) rfl, gTbl_in (i := 22) (by decide +kernel) rfl⟩
abbrev mX1_cheapestHome : Mt := (yX1_cheapestHome, cX1_cheapestHome, 6, some .int, 1)
theorem kX1_cheapestHome : okMc mX1_cheapestHome 0 := ⟨by decide +kernel, gT4 (i := 86) (by decide +kernel) rfl, gT1 (i := 9) (by decide +kernel) rfl, ⟨by decide +kernel, by decide +kernel⟩, by decide +kernel, by decide⟩
theorem vX1_cheapestHome : okVc mX1_cheapestHome := ⟨gT4 (i := 84) (by decide +kernel) rfl, gT4 (i := 85) (by decide +kernel) rfl⟩
abbrev mX1_totalOfDays : Mt := (yX1_totalOfDays, cX1_totalOfDays, 6, some .int, 1)
theorem kX1_totalOfDays : okMc mX1_totalOfDays 2 := ⟨by decide +kernel, gT4 (i := 133) (by decide +kernel) rfl, gT1 (i := 9) (by decide +kernel) rfl, ⟨by decide +kernel, by decide +kernel⟩, by decide +kernel, by decide⟩
theorem vX1_totalOfDays : okVc mX1_totalOfDays := ⟨gT4 (i := 131) (by decide +kernel) rfl, gT4 (i := 132) (by decide +kernel) rfl⟩
abbrev mX1_drawBelow : Mt := (yX1_drawBelow, cX1_drawBelow, 2, some .int, 1)
theorem kX1_drawBelow : okMc mX1_drawBelow 1 := ⟨by decide +kernel, gT4 (i := 137) (by decide +kernel) rfl, gT1 (i := 9) (by decide +kernel) rfl, ⟨by decide +kernel, by decide +kernel⟩, by decide +kernel, by decide⟩
theorem vX1_drawBelow : okVc mX1_drawBelow := ⟨gT4 (i := 136) (by decide +kernel) rfl, gTbl_in (i := 27) (by decide +kernel) rfl⟩
abbrev mX2_hangsTogether : Mt := (yX2_hangsTogether, cX2_hangsTogether, 1, some .boolean, 2)
theorem kX2_hangsTogether : okMc mX2_hangsTogether 0 := ⟨by decide +kernel, gT3 (i := 184) (by decide +kernel) rfl, gT1 (i := 8) (by decide +kernel) rfl, ⟨by decide +kernel, by decide +kernel⟩, by decide +kernel, by decide⟩
theorem vX2_hangsTogether : okVc mX2_hangsTogether := ⟨gT3 (i := 182) (by decide +kernel) rfl, gT3 (i := 183) (by decide +kernel) rfl⟩
abbrev mX2_bridgeOnes : Mt := (yX2_bridgeOnes, cX2_bridgeOnes, 4, some .int, 2)
theorem kX2_bridgeOnes : okMc mX2_bridgeOnes 0 := ⟨by decide +kernel, gT3 (i := 192) (by decide +kernel) rfl, gT1 (i := 8) (by decide +kernel) rfl, ⟨by decide +kernel, by decide +kernel⟩, by decide +kernel, by decide⟩
theorem vX2_bridgeOnes : okVc mX2_bridgeOnes := ⟨gT3 (i := 190) (by decide +kernel) rfl, gT3 (i := 191) (by decide +kernel) rfl⟩
abbrev mX2_cornersFrom : Mt := (yX2_cornersFrom, cX2_cornersFrom, 7, some .int, 2)
theorem kX2_cornersFrom : okMc mX2_cornersFrom 2 := ⟨by decide +kernel, gT3 (i := 188) (by decide +kernel) rfl, gT1 (i := 8) (by decide +kernel) rfl, ⟨by decide +kernel, by decide +kernel⟩, by decide +kernel, by decide⟩
theorem vX2_cornersFrom : okVc mX2_cornersFrom := ⟨gT3 (i := 187) (by decide +kernel) rfl, gTbl_in (i := 20) (by decide +kernel) rfl⟩
abbrev mX2_walkThrough : Mt := (yX2_walkThrough, cX2_walkThrough, 8, some .int, 2)
theorem kX2_walkThrough : okMc mX2_walkThrough 0 := ⟨by decide +kernel, gT3 (i := 205) (by decide +kernel) rfl, gT1 (i := 8) (by decide +kernel) rfl, ⟨by decide +kernel, by decide +kernel⟩, by decide +kernel, by decide⟩
theorem vX2_walkThrough : okVc mX2_walkThrough := ⟨gT3 (i := 203) (by decide +kernel) rfl, gT3 (i := 204) (by decide +kernel) rfl⟩
abbrev mX2_otherEnd : Mt := (yX2_otherEnd, cX2_otherEnd, 3, some .int, 2)
theorem kX2_otherEnd : okMc mX2_otherEnd 2 := ⟨by decide +kernel, gT3 (i := 210) (by decide +kernel) rfl, gT1 (i := 8) (by decide +kernel) rfl, ⟨by decide +kernel, by decide +kernel⟩, by decide +kernel, by decide⟩
theorem vX2_otherEnd : okVc mX2_otherEnd := ⟨gT3 (i := 209) (by decide +kernel) rfl, gTbl_in (i := 21) (by decide +kernel) rfl⟩
abbrev mX3_readInto : Mt := (yX3_readInto, cX3_readInto, 4, some .int, 3)
theorem kX3_readInto : okMc mX3_readInto 1 := ⟨by decide +kernel, gT2 (i := 159) (by decide +kernel) rfl, gT1 (i := 4) (by decide +kernel) rfl, ⟨by decide +kernel, by decide +kernel⟩, by decide +kernel, by decide⟩
theorem vX3_readInto : okVc mX3_readInto := ⟨gT2 (i := 157) (by decide +kernel) rfl, gT2 (i := 158) (by decide +kernel) rfl⟩
abbrev mX3_statementsWritten : Mt := (yX3_statementsWritten, cX3_statementsWritten, 2, some .int, 3)
theorem kX3_statementsWritten : okMc mX3_statementsWritten 0 := ⟨by decide +kernel, gT2 (i := 163) (by decide +kernel) rfl, gT1 (i := 4) (by decide +kernel) rfl, ⟨by decide +kernel, by decide +kernel⟩, by decide +kernel, by decide⟩
theorem vX3_statementsWritten : okVc mX3_statementsWritten := ⟨gT2 (i := 162) (by decide +kernel) rfl, gTbl_in (i := 1) (by decide +kernel) rfl⟩
abbrev mX3_readStatement : Mt := (yX3_readStatement, cX3_readStatement, 1, some .boolean, 3)
theorem kX3_readStatement : okMc mX3_readStatement 0 := ⟨by decide +kernel, gT2 (i := 167) (by decide +kernel) rfl, gT1 (i := 4) (by decide +kernel) rfl, ⟨by decide +kernel, by decide +kernel⟩, by decide +kernel, by decide⟩
theorem vX3_readStatement : okVc mX3_readStatement := ⟨gT2 (i := 166) (by decide +kernel) rfl, gTbl_in (i := 2) (by decide +kernel) rfl⟩
abbrev mX3_number : Mt := (yX3_number, cX3_number, 5, some .boolean, 3)
theorem kX3_number : okMc mX3_number 2 := ⟨by decide +kernel, gT2 (i := 175) (by decide +kernel) rfl, gT1 (i := 4) (by decide +kernel) rfl, ⟨by decide +kernel, by decide +kernel⟩, by decide +kernel, by decide⟩
theorem vX3_number : okVc mX3_number := ⟨gT2 (i := 174) (by decide +kernel) rfl, gTbl_in (i := 3) (by decide +kernel) rfl⟩
abbrev mX3_isDigit : Mt := (yX3_isDigit, cX3_isDigit, 1, some .boolean, 3)
theorem kX3_isDigit : okMc mX3_isDigit 1 := ⟨by decide +kernel, gT2 (i := 178) (by decide +kernel) rfl, gT1 (i := 4) (by decide +kernel) rfl, ⟨by decide +kernel, by decide +kernel⟩, by decide +kernel, by decide⟩
theorem vX3_isDigit : Cond.static mX3_isDigit.1 ∈ gTbl := gT2 (i := 177) (by decide +kernel) rfl
abbrev mX3_sign : Mt := (yX3_sign, cX3_sign, 2, some .boolean, 3)
theorem kX3_sign : okMc mX3_sign 1 := ⟨by decide +kernel, gT2 (i := 182) (by decide +kernel) rfl, gT1 (i := 4) (by decide +kernel) rfl, ⟨by decide +kernel, by decide +kernel⟩, by decide +kernel, by decide⟩
theorem vX3_sign : okVc mX3_sign := ⟨gT2 (i := 181) (by decide +kernel) rfl, gTbl_in (i := 4) (by decide +kernel) rfl⟩
abbrev mX3_broadOrNot : Mt := (yX3_broadOrNot, cX3_broadOrNot, 1, some .boolean, 3)
theorem kX3_broadOrNot : okMc mX3_broadOrNot 0 := ⟨by decide +kernel, gT2 (i := 186) (by decide +kernel) rfl, gT1 (i := 4) (by decide +kernel) rfl, ⟨by decide +kernel, by decide +kernel⟩, by decide +kernel, by decide⟩
theorem vX3_broadOrNot : okVc mX3_broadOrNot := ⟨gT2 (i := 185) (by decide +kernel) rfl, gTbl_in (i := 5) (by decide +kernel) rfl⟩
abbrev mX3_tell : Mt := (yX3_tell, cX3_tell, 1, some .boolean, 3)
theorem kX3_tell : okMc mX3_tell 0 := ⟨by decide +kernel, gT2 (i := 197) (by decide +kernel) rfl, gT1 (i := 4) (by decide +kernel) rfl, ⟨by decide +kernel, by decide +kernel⟩, by decide +kernel, by decide⟩
theorem vX3_tell : okVc mX3_tell := ⟨gT2 (i := 196) (by decide +kernel) rfl, gTbl_in (i := 6) (by decide +kernel) rfl⟩
abbrev mX4_trace : Mt := (yX4_trace, cX4_trace, 5, none, 4)
theorem kX4_trace : okMc mX4_trace 3 := ⟨by decide +kernel, gT3 (i := 100) (by decide +kernel) rfl, gT1 (i := 11) (by decide +kernel) rfl, ⟨by decide +kernel, by decide +kernel⟩, by decide +kernel, by decide⟩
theorem vX4_trace : okVc mX4_trace := ⟨gT3 (i := 98) (by decide +kernel) rfl, gT3 (i := 99) (by decide +kernel) rfl⟩
abbrev mX4_traceBack : Mt := (yX4_traceBack, cX4_traceBack, 2, some .boolean, 4)
theorem kX4_traceBack : okMc mX4_traceBack 0 := ⟨by decide +kernel, gT3 (i := 106) (by decide +kernel) rfl, gT1 (i := 11) (by decide +kernel) rfl, ⟨by decide +kernel, by decide +kernel⟩, by decide +kernel, by decide⟩
theorem vX4_traceBack : okVc mX4_traceBack := ⟨gT3 (i := 105) (by decide +kernel) rfl, gTbl_in (i := 14) (by decide +kernel) rfl⟩
abbrev mX4_cameBy : Mt := (yX4_cameBy, cX4_cameBy, 6, some .boolean, 4)
theorem kX4_cameBy : okMc mX4_cameBy 3 := ⟨by decide +kernel, gT3 (i := 110) (by decide +kernel) rfl, gT1 (i := 11) (by decide +kernel) rfl, ⟨by decide +kernel, by decide +kernel⟩, by decide +kernel, by decide⟩
theorem vX4_cameBy : okVc mX4_cameBy := ⟨gT3 (i := 109) (by decide +kernel) rfl, gTbl_in (i := 15) (by decide +kernel) rfl⟩
abbrev mX4_streetAt : Mt := (yX4_streetAt, cX4_streetAt, 2, some .int, 4)
theorem kX4_streetAt : okMc mX4_streetAt 1 := ⟨by decide +kernel, gT3 (i := 124) (by decide +kernel) rfl, gT1 (i := 11) (by decide +kernel) rfl, ⟨by decide +kernel, by decide +kernel⟩, by decide +kernel, by decide⟩
theorem vX4_streetAt : okVc mX4_streetAt := ⟨gT3 (i := 122) (by decide +kernel) rfl, gT3 (i := 123) (by decide +kernel) rfl⟩
abbrev mX4_minutesWaited : Mt := (yX4_minutesWaited, cX4_minutesWaited, 3, some .int, 4)
theorem kX4_minutesWaited : okMc mX4_minutesWaited 0 := ⟨by decide +kernel, gT3 (i := 116) (by decide +kernel) rfl, gT1 (i := 11) (by decide +kernel) rfl, ⟨by decide +kernel, by decide +kernel⟩, by decide +kernel, by decide⟩
theorem vX4_minutesWaited : okVc mX4_minutesWaited := ⟨gT3 (i := 114) (by decide +kernel) rfl, gT3 (i := 115) (by decide +kernel) rfl⟩
abbrev mX4_crosses : Mt := (yX4_crosses, cX4_crosses, 4, some .boolean, 4)
theorem kX4_crosses : okMc mX4_crosses 1 := ⟨by decide +kernel, gT4 (i := 98) (by decide +kernel) rfl, gT1 (i := 11) (by decide +kernel) rfl, ⟨by decide +kernel, by decide +kernel⟩, by decide +kernel, by decide⟩
theorem vX4_crosses : okVc mX4_crosses := ⟨gT4 (i := 96) (by decide +kernel) rfl, gT4 (i := 97) (by decide +kernel) rfl⟩
abbrev mX5_add : Mt := (yX5_add, cX5_add, 2, none, 5)
theorem kX5_add : okMc mX5_add 1 := ⟨by decide +kernel, gT2 (i := 151) (by decide +kernel) rfl, gT1 (i := 3) (by decide +kernel) rfl, ⟨by decide +kernel, by decide +kernel⟩, by decide +kernel, by decide⟩
theorem vX5_add : okVc mX5_add := ⟨gT2 (i := 149) (by decide +kernel) rfl, gT2 (i := 150) (by decide +kernel) rfl⟩
abbrev mX5_byteAt : Mt := (yX5_byteAt, cX5_byteAt, 2, some .int, 5)
theorem kX5_byteAt : okMc mX5_byteAt 1 := ⟨by decide +kernel, gT2 (i := 171) (by decide +kernel) rfl, gT1 (i := 3) (by decide +kernel) rfl, ⟨by decide +kernel, by decide +kernel⟩, by decide +kernel, by decide⟩
theorem vX5_byteAt : okVc mX5_byteAt := ⟨gT2 (i := 169) (by decide +kernel) rfl, gT2 (i := 170) (by decide +kernel) rfl⟩
abbrev mX6_takeFrom : Mt := (yX6_takeFrom, cX6_takeFrom, 2, none, 6)
theorem kX6_takeFrom : okMc mX6_takeFrom 1 := ⟨by decide +kernel, gT2 (i := 190) (by decide +kernel) rfl, gT1 (i := 2) (by decide +kernel) rfl, ⟨by decide +kernel, by decide +kernel⟩, by decide +kernel, by decide⟩
theorem vX6_takeFrom : okVc mX6_takeFrom := ⟨gT2 (i := 188) (by decide +kernel) rfl, gT2 (i := 189) (by decide +kernel) rfl⟩
abbrev mX6_hasCorner : Mt := (yX6_hasCorner, cX6_hasCorner, 2, some .boolean, 6)
theorem kX6_hasCorner : okMc mX6_hasCorner 1 := ⟨by decide +kernel, gT2 (i := 220) (by decide +kernel) rfl, gT1 (i := 2) (by decide +kernel) rfl, ⟨by decide +kernel, by decide +kernel⟩, by decide +kernel, by decide⟩
theorem vX6_hasCorner : okVc mX6_hasCorner := ⟨gT2 (i := 218) (by decide +kernel) rfl, gT2 (i := 219) (by decide +kernel) rfl⟩
abbrev mX6_hasStreet : Mt := (yX6_hasStreet, cX6_hasStreet, 2, some .boolean, 6)
theorem kX6_hasStreet : okMc mX6_hasStreet 1 := ⟨by decide +kernel, gT2 (i := 232) (by decide +kernel) rfl, gT1 (i := 2) (by decide +kernel) rfl, ⟨by decide +kernel, by decide +kernel⟩, by decide +kernel, by decide⟩
theorem vX6_hasStreet : okVc mX6_hasStreet := ⟨gT2 (i := 230) (by decide +kernel) rfl, gT2 (i := 231) (by decide +kernel) rfl⟩
abbrev mX6_hasErrand : Mt := (yX6_hasErrand, cX6_hasErrand, 2, some .boolean, 6)
theorem kX6_hasErrand : okMc mX6_hasErrand 1 := ⟨by decide +kernel, gT3 (i := 8) (by decide +kernel) rfl, gT1 (i := 2) (by decide +kernel) rfl, ⟨by decide +kernel, by decide +kernel⟩, by decide +kernel, by decide⟩
theorem vX6_hasErrand : okVc mX6_hasErrand := ⟨gT3 (i := 6) (by decide +kernel) rfl, gT3 (i := 7) (by decide +kernel) rfl⟩
abbrev mX6_tellCorners : Mt := (yX6_tellCorners, cX6_tellCorners, 2, some .boolean, 6)
theorem kX6_tellCorners : okMc mX6_tellCorners 1 := ⟨by decide +kernel, gT2 (i := 201) (by decide +kernel) rfl, gT1 (i := 2) (by decide +kernel) rfl, ⟨by decide +kernel, by decide +kernel⟩, by decide +kernel, by decide⟩
theorem vX6_tellCorners : okVc mX6_tellCorners := ⟨gT2 (i := 199) (by decide +kernel) rfl, gT2 (i := 200) (by decide +kernel) rfl⟩
abbrev mX6_cornersToldOf : Mt := (yX6_cornersToldOf, cX6_cornersToldOf, 3, some .int, 6)
theorem kX6_cornersToldOf : okMc mX6_cornersToldOf 0 := ⟨by decide +kernel, gT2 (i := 205) (by decide +kernel) rfl, gT1 (i := 2) (by decide +kernel) rfl, ⟨by decide +kernel, by decide +kernel⟩, by decide +kernel, by decide⟩
theorem vX6_cornersToldOf : okVc mX6_cornersToldOf := ⟨gT2 (i := 204) (by decide +kernel) rfl, gTbl_in (i := 7) (by decide +kernel) rfl⟩
abbrev mX6_areTwoCorners : Mt := (yX6_areTwoCorners, cX6_areTwoCorners, 3, some .boolean, 6)
theorem kX6_areTwoCorners : okMc mX6_areTwoCorners 2 := ⟨by decide +kernel, gT2 (i := 216) (by decide +kernel) rfl, gT1 (i := 2) (by decide +kernel) rfl, ⟨by decide +kernel, by decide +kernel⟩, by decide +kernel, by decide⟩
theorem vX6_areTwoCorners : okVc mX6_areTwoCorners := ⟨gT2 (i := 215) (by decide +kernel) rfl, gTbl_in (i := 8) (by decide +kernel) rfl⟩
abbrev mX6_tellStreet : Mt := (yX6_tellStreet, cX6_tellStreet, 5, some .boolean, 6)
theorem kX6_tellStreet : okMc mX6_tellStreet 4 := ⟨by decide +kernel, gT2 (i := 212) (by decide +kernel) rfl, gT1 (i := 2) (by decide +kernel) rfl, ⟨by decide +kernel, by decide +kernel⟩, by decide +kernel, by decide⟩
theorem vX6_tellStreet : okVc mX6_tellStreet := ⟨gT2 (i := 210) (by decide +kernel) rfl, gT2 (i := 211) (by decide +kernel) rfl⟩
abbrev mX6_tellErrand : Mt := (yX6_tellErrand, cX6_tellErrand, 5, some .boolean, 6)
theorem kX6_tellErrand : okMc mX6_tellErrand 4 := ⟨by decide +kernel, gT2 (i := 224) (by decide +kernel) rfl, gT1 (i := 2) (by decide +kernel) rfl, ⟨by decide +kernel, by decide +kernel⟩, by decide +kernel, by decide⟩
theorem vX6_tellErrand : okVc mX6_tellErrand := ⟨gT2 (i := 222) (by decide +kernel) rfl, gT2 (i := 223) (by decide +kernel) rfl⟩
abbrev mX6_tellMust : Mt := (yX6_tellMust, cX6_tellMust, 3, some .boolean, 6)
theorem kX6_tellMust : okMc mX6_tellMust 2 := ⟨by decide +kernel, gT2 (i := 228) (by decide +kernel) rfl, gT1 (i := 2) (by decide +kernel) rfl, ⟨by decide +kernel, by decide +kernel⟩, by decide +kernel, by decide⟩
theorem vX6_tellMust : okVc mX6_tellMust := ⟨gT2 (i := 226) (by decide +kernel) rfl, gT2 (i := 227) (by decide +kernel) rfl⟩
abbrev mX6_mustsTold : Mt := (yX6_mustsTold, cX6_mustsTold, 3, some .int, 6)
theorem kX6_mustsTold : okMc mX6_mustsTold 0 := ⟨by decide +kernel, gT4 (i := 167) (by decide +kernel) rfl, gT1 (i := 2) (by decide +kernel) rfl, ⟨by decide +kernel, by decide +kernel⟩, by decide +kernel, by decide⟩
theorem vX6_mustsTold : okVc mX6_mustsTold := ⟨gT4 (i := 165) (by decide +kernel) rfl, gT4 (i := 166) (by decide +kernel) rfl⟩
abbrev mX6_mustLets : Mt := (yX6_mustLets, cX6_mustLets, 3, some .boolean, 6)
theorem kX6_mustLets : okMc mX6_mustLets 2 := ⟨by decide +kernel, gT4 (i := 11) (by decide +kernel) rfl, gT1 (i := 2) (by decide +kernel) rfl, ⟨by decide +kernel, by decide +kernel⟩, by decide +kernel, by decide⟩
theorem vX6_mustLets : okVc mX6_mustLets := ⟨gT4 (i := 9) (by decide +kernel) rfl, gT4 (i := 10) (by decide +kernel) rfl⟩
abbrev mX6_firstMustUnkept : Mt := (yX6_firstMustUnkept, cX6_firstMustUnkept, 3, some .int, 6)
theorem kX6_firstMustUnkept : okMc mX6_firstMustUnkept 1 := ⟨by decide +kernel, gT4 (i := 6) (by decide +kernel) rfl, gT1 (i := 2) (by decide +kernel) rfl, ⟨by decide +kernel, by decide +kernel⟩, by decide +kernel, by decide⟩
theorem vX6_firstMustUnkept : okVc mX6_firstMustUnkept := ⟨gT4 (i := 4) (by decide +kernel) rfl, gT4 (i := 5) (by decide +kernel) rfl⟩
abbrev mX7_takeAsItIs : Mt := (yX7_takeAsItIs, cX7_takeAsItIs, 1, none, 7)
theorem kX7_takeAsItIs : okMc mX7_takeAsItIs 0 := ⟨by decide +kernel, gT3 (i := 36) (by decide +kernel) rfl, gT1 (i := 5) (by decide +kernel) rfl, ⟨by decide +kernel, by decide +kernel⟩, by decide +kernel, by decide⟩
theorem vX7_takeAsItIs : okVc mX7_takeAsItIs := ⟨gT3 (i := 34) (by decide +kernel) rfl, gT3 (i := 35) (by decide +kernel) rfl⟩
abbrev mX7_pointAs : Mt := (yX7_pointAs, cX7_pointAs, 3, none, 7)
theorem kX7_pointAs : okMc mX7_pointAs 1 := ⟨by decide +kernel, gT3 (i := 44) (by decide +kernel) rfl, gT1 (i := 5) (by decide +kernel) rfl, ⟨by decide +kernel, by decide +kernel⟩, by decide +kernel, by decide⟩
theorem vX7_pointAs : okVc mX7_pointAs := ⟨gT3 (i := 42) (by decide +kernel) rfl, gT3 (i := 43) (by decide +kernel) rfl⟩
abbrev mX7_openBothWays : Mt := (yX7_openBothWays, cX7_openBothWays, 2, none, 7)
theorem kX7_openBothWays : okMc mX7_openBothWays 1 := ⟨by decide +kernel, gT3 (i := 40) (by decide +kernel) rfl, gT1 (i := 5) (by decide +kernel) rfl, ⟨by decide +kernel, by decide +kernel⟩, by decide +kernel, by decide⟩
theorem vX7_openBothWays : okVc mX7_openBothWays := ⟨gT3 (i := 38) (by decide +kernel) rfl, gT3 (i := 39) (by decide +kernel) rfl⟩
abbrev mX7_shutAlso : Mt := (yX7_shutAlso, cX7_shutAlso, 2, none, 7)
theorem kX7_shutAlso : okMc mX7_shutAlso 1 := ⟨by decide +kernel, gT4 (i := 125) (by decide +kernel) rfl, gT1 (i := 5) (by decide +kernel) rfl, ⟨by decide +kernel, by decide +kernel⟩, by decide +kernel, by decide⟩
theorem vX7_shutAlso : okVc mX7_shutAlso := ⟨gT4 (i := 123) (by decide +kernel) rfl, gT4 (i := 124) (by decide +kernel) rfl⟩
abbrev mX7_turnAt : Mt := (yX7_turnAt, cX7_turnAt, 2, none, 7)
theorem kX7_turnAt : okMc mX7_turnAt 1 := ⟨by decide +kernel, gT4 (i := 78) (by decide +kernel) rfl, gT1 (i := 5) (by decide +kernel) rfl, ⟨by decide +kernel, by decide +kernel⟩, by decide +kernel, by decide⟩
theorem vX7_turnAt : okVc mX7_turnAt := ⟨gT4 (i := 76) (by decide +kernel) rfl, gT4 (i := 77) (by decide +kernel) rfl⟩
abbrev mX7_standAt : Mt := (yX7_standAt, cX7_standAt, 4, none, 7)
theorem kX7_standAt : okMc mX7_standAt 1 := ⟨by decide +kernel, gT3 (i := 48) (by decide +kernel) rfl, gT1 (i := 5) (by decide +kernel) rfl, ⟨by decide +kernel, by decide +kernel⟩, by decide +kernel, by decide⟩
theorem vX7_standAt : okVc mX7_standAt := ⟨gT3 (i := 46) (by decide +kernel) rfl, gT3 (i := 47) (by decide +kernel) rfl⟩
abbrev mX7_wayOf : Mt := (yX7_wayOf, cX7_wayOf, 2, some .int, 7)
theorem kX7_wayOf : okMc mX7_wayOf 1 := ⟨by decide +kernel, gT3 (i := 52) (by decide +kernel) rfl, gT1 (i := 5) (by decide +kernel) rfl, ⟨by decide +kernel, by decide +kernel⟩, by decide +kernel, by decide⟩
theorem vX7_wayOf : okVc mX7_wayOf := ⟨gT3 (i := 50) (by decide +kernel) rfl, gT3 (i := 51) (by decide +kernel) rfl⟩
abbrev mX7_entryOf : Mt := (yX7_entryOf, cX7_entryOf, 3, some .int, 7)
theorem kX7_entryOf : okMc mX7_entryOf 2 := ⟨by decide +kernel, gT3 (i := 84) (by decide +kernel) rfl, gT1 (i := 5) (by decide +kernel) rfl, ⟨by decide +kernel, by decide +kernel⟩, by decide +kernel, by decide⟩
theorem vX7_entryOf : okVc mX7_entryOf := ⟨gT3 (i := 82) (by decide +kernel) rfl, gT3 (i := 83) (by decide +kernel) rfl⟩
abbrev mX8_setOut : Mt := (yX8_setOut, cX8_setOut, 6, none, 8)
theorem kX8_setOut : okMc mX8_setOut 3 := ⟨by decide +kernel, gT3 (i := 66) (by decide +kernel) rfl, gT1 (i := 6) (by decide +kernel) rfl, ⟨by decide +kernel, by decide +kernel⟩, by decide +kernel, by decide⟩
theorem vX8_setOut : okVc mX8_setOut := ⟨gT3 (i := 64) (by decide +kernel) rfl, gT3 (i := 65) (by decide +kernel) rfl⟩
abbrev mX8_minuteAt : Mt := (yX8_minuteAt, cX8_minuteAt, 2, some .int, 8)
theorem kX8_minuteAt : okMc mX8_minuteAt 1 := ⟨by decide +kernel, gT3 (i := 92) (by decide +kernel) rfl, gT1 (i := 6) (by decide +kernel) rfl, ⟨by decide +kernel, by decide +kernel⟩, by decide +kernel, by decide⟩
theorem vX8_minuteAt : okVc mX8_minuteAt := ⟨gT3 (i := 90) (by decide +kernel) rfl, gT3 (i := 91) (by decide +kernel) rfl⟩
abbrev mX8_soonestUnsettled : Mt := (yX8_soonestUnsettled, cX8_soonestUnsettled, 4, some .int, 8)
theorem kX8_soonestUnsettled : okMc mX8_soonestUnsettled 0 := ⟨by decide +kernel, gT3 (i := 74) (by decide +kernel) rfl, gT1 (i := 6) (by decide +kernel) rfl, ⟨by decide +kernel, by decide +kernel⟩, by decide +kernel, by decide⟩
theorem vX8_soonestUnsettled : okVc mX8_soonestUnsettled := ⟨gT3 (i := 73) (by decide +kernel) rfl, gTbl_in (i := 11) (by decide +kernel) rfl⟩
abbrev mX8_goOnFrom : Mt := (yX8_goOnFrom, cX8_goOnFrom, 3, none, 8)
theorem kX8_goOnFrom : okMc mX8_goOnFrom 1 := ⟨by decide +kernel, gT3 (i := 79) (by decide +kernel) rfl, gT1 (i := 6) (by decide +kernel) rfl, ⟨by decide +kernel, by decide +kernel⟩, by decide +kernel, by decide⟩
theorem vX8_goOnFrom : okVc mX8_goOnFrom := ⟨gT3 (i := 78) (by decide +kernel) rfl, gTbl_in (i := 12) (by decide +kernel) rfl⟩
abbrev mX8_goAlong : Mt := (yX8_goAlong, cX8_goAlong, 4, none, 8)
theorem kX8_goAlong : okMc mX8_goAlong 3 := ⟨by decide +kernel, gT3 (i := 88) (by decide +kernel) rfl, gT1 (i := 6) (by decide +kernel) rfl, ⟨by decide +kernel, by decide +kernel⟩, by decide +kernel, by decide⟩
theorem vX8_goAlong : okVc mX8_goAlong := ⟨gT3 (i := 87) (by decide +kernel) rfl, gTbl_in (i := 13) (by decide +kernel) rfl⟩
abbrev mX9_cheapestPointing : Mt := (yX9_cheapestPointing, cX9_cheapestPointing, 5, some .int, 9)
theorem kX9_cheapestPointing : okMc mX9_cheapestPointing 0 := ⟨by decide +kernel, gT4 (i := 1) (by decide +kernel) rfl, gT1 (i := 10) (by decide +kernel) rfl, ⟨by decide +kernel, by decide +kernel⟩, by decide +kernel, by decide⟩
theorem vX9_cheapestPointing : okVc mX9_cheapestPointing := ⟨gT3 (i := 239) (by decide +kernel) rfl, gT4 (i := 0) (by decide +kernel) rfl⟩
abbrev mX9_nearestPointing : Mt := (yX9_nearestPointing, cX9_nearestPointing, 5, some .int, 9)
theorem kX9_nearestPointing : okMc mX9_nearestPointing 0 := ⟨by decide +kernel, gT4 (i := 21) (by decide +kernel) rfl, gT1 (i := 10) (by decide +kernel) rfl, ⟨by decide +kernel, by decide +kernel⟩, by decide +kernel, by decide⟩
theorem vX9_nearestPointing : okVc mX9_nearestPointing := ⟨gT4 (i := 19) (by decide +kernel) rfl, gT4 (i := 20) (by decide +kernel) rfl⟩
abbrev mX9_turnedPointing : Mt := (yX9_turnedPointing, cX9_turnedPointing, 8, some .int, 9)
theorem kX9_turnedPointing : okMc mX9_turnedPointing 0 := ⟨by decide +kernel, gT4 (i := 32) (by decide +kernel) rfl, gT1 (i := 10) (by decide +kernel) rfl, ⟨by decide +kernel, by decide +kernel⟩, by decide +kernel, by decide⟩
theorem vX9_turnedPointing : okVc mX9_turnedPointing := ⟨gT4 (i := 30) (by decide +kernel) rfl, gT4 (i := 31) (by decide +kernel) rfl⟩
abbrev mX9_fewestForCost : Mt := (yX9_fewestForCost, cX9_fewestForCost, 5, some .int, 9)
theorem kX9_fewestForCost : okMc mX9_fewestForCost 1 := ⟨by decide +kernel, gT4 (i := 42) (by decide +kernel) rfl, gT1 (i := 10) (by decide +kernel) rfl, ⟨by decide +kernel, by decide +kernel⟩, by decide +kernel, by decide⟩
theorem vX9_fewestForCost : okVc mX9_fewestForCost := ⟨gT4 (i := 40) (by decide +kernel) rfl, gT4 (i := 41) (by decide +kernel) rfl⟩
abbrev mX9_fewestForReach : Mt := (yX9_fewestForReach, cX9_fewestForReach, 6, some .int, 9)
theorem kX9_fewestForReach : okMc mX9_fewestForReach 3 := ⟨by decide +kernel, gT4 (i := 110) (by decide +kernel) rfl, gT1 (i := 10) (by decide +kernel) rfl, ⟨by decide +kernel, by decide +kernel⟩, by decide +kernel, by decide⟩
theorem vX9_fewestForReach : okVc mX9_fewestForReach := ⟨gT4 (i := 108) (by decide +kernel) rfl, gT4 (i := 109) (by decide +kernel) rfl⟩
abbrev mX9_allReachedBy : Mt := (yX9_allReachedBy, cX9_allReachedBy, 4, some .boolean, 9)
theorem kX9_allReachedBy : okMc mX9_allReachedBy 1 := ⟨by decide +kernel, gT4 (i := 115) (by decide +kernel) rfl, gT1 (i := 10) (by decide +kernel) rfl, ⟨by decide +kernel, by decide +kernel⟩, by decide +kernel, by decide⟩
theorem vX9_allReachedBy : okVc mX9_allReachedBy := ⟨gT4 (i := 114) (by decide +kernel) rfl, gTbl_in (i := 26) (by decide +kernel) rfl⟩
abbrev mX9_nextByFewest : Mt := (yX9_nextByFewest, cX9_nextByFewest, 5, some .int, 9)
theorem kX9_nextByFewest : okMc mX9_nextByFewest 1 := ⟨by decide +kernel, gT4 (i := 48) (by decide +kernel) rfl, gT1 (i := 10) (by decide +kernel) rfl, ⟨by decide +kernel, by decide +kernel⟩, by decide +kernel, by decide⟩
theorem vX9_nextByFewest : okVc mX9_nextByFewest := ⟨gT4 (i := 47) (by decide +kernel) rfl, gTbl_in (i := 24) (by decide +kernel) rfl⟩
abbrev mX9_cheapestNoon : Mt := (yX9_cheapestNoon, cX9_cheapestNoon, 5, some .int, 9)
theorem kX9_cheapestNoon : okMc mX9_cheapestNoon 0 := ⟨by decide +kernel, gT4 (i := 74) (by decide +kernel) rfl, gT1 (i := 10) (by decide +kernel) rfl, ⟨by decide +kernel, by decide +kernel⟩, by decide +kernel, by decide⟩
theorem vX9_cheapestNoon : okVc mX9_cheapestNoon := ⟨gT4 (i := 72) (by decide +kernel) rfl, gT4 (i := 73) (by decide +kernel) rfl⟩
abbrev mX10_feed : Mt := (yX10_feed, cX10_feed, 5, some .int, 10)
theorem kX10_feed : okMc mX10_feed 2 := ⟨by decide +kernel, gT2 (i := 143) (by decide +kernel) rfl, gT1 (i := 1) (by decide +kernel) rfl, ⟨by decide +kernel, by decide +kernel⟩, by decide +kernel, by decide⟩
theorem vX10_feed : okVc mX10_feed := ⟨gT2 (i := 141) (by decide +kernel) rfl, gT2 (i := 142) (by decide +kernel) rfl⟩
abbrev mX10_town : Mt := (yX10_town, cX10_town, 2, some .int, 10)
theorem kX10_town : okMc mX10_town 0 := ⟨by decide +kernel, gT2 (i := 155) (by decide +kernel) rfl, gT1 (i := 1) (by decide +kernel) rfl, ⟨by decide +kernel, by decide +kernel⟩, by decide +kernel, by decide⟩
theorem vX10_town : okVc mX10_town := ⟨gT2 (i := 153) (by decide +kernel) rfl, gT2 (i := 154) (by decide +kernel) rfl⟩
abbrev mX10_street : Mt := (yX10_street, cX10_street, 3, some .int, 10)
theorem kX10_street : okMc mX10_street 2 := ⟨by decide +kernel, gT2 (i := 236) (by decide +kernel) rfl, gT1 (i := 1) (by decide +kernel) rfl, ⟨by decide +kernel, by decide +kernel⟩, by decide +kernel, by decide⟩
theorem vX10_street : okVc mX10_street := ⟨gT2 (i := 234) (by decide +kernel) rfl, gT2 (i := 235) (by decide +kernel) rfl⟩
abbrev mX10_errand : Mt := (yX10_errand, cX10_errand, 3, some .int, 10)
theorem kX10_errand : okMc mX10_errand 2 := ⟨by decide +kernel, gT3 (i := 4) (by decide +kernel) rfl, gT1 (i := 1) (by decide +kernel) rfl, ⟨by decide +kernel, by decide +kernel⟩, by decide +kernel, by decide⟩
theorem vX10_errand : okVc mX10_errand := ⟨gT3 (i := 2) (by decide +kernel) rfl, gT3 (i := 3) (by decide +kernel) rfl⟩
abbrev mX10_set : Mt := (yX10_set, cX10_set, 4, some .int, 10)
theorem kX10_set : okMc mX10_set 2 := ⟨by decide +kernel, gT3 (i := 12) (by decide +kernel) rfl, gT1 (i := 1) (by decide +kernel) rfl, ⟨by decide +kernel, by decide +kernel⟩, by decide +kernel, by decide⟩
theorem vX10_set : okVc mX10_set := ⟨gT3 (i := 10) (by decide +kernel) rfl, gT3 (i := 11) (by decide +kernel) rfl⟩
abbrev mX10_point : Mt := (yX10_point, cX10_point, 3, some .int, 10)
theorem kX10_point : okMc mX10_point 1 := ⟨by decide +kernel, gT3 (i := 20) (by decide +kernel) rfl, gT1 (i := 1) (by decide +kernel) rfl, ⟨by decide +kernel, by decide +kernel⟩, by decide +kernel, by decide⟩
theorem vX10_point : okVc mX10_point := ⟨gT3 (i := 18) (by decide +kernel) rfl, gT3 (i := 19) (by decide +kernel) rfl⟩
abbrev mX10_shut : Mt := (yX10_shut, cX10_shut, 4, some .int, 10)
theorem kX10_shut : okMc mX10_shut 2 := ⟨by decide +kernel, gT3 (i := 24) (by decide +kernel) rfl, gT1 (i := 1) (by decide +kernel) rfl, ⟨by decide +kernel, by decide +kernel⟩, by decide +kernel, by decide⟩
theorem vX10_shut : okVc mX10_shut := ⟨gT3 (i := 22) (by decide +kernel) rfl, gT3 (i := 23) (by decide +kernel) rfl⟩
abbrev mX10_way : Mt := (yX10_way, cX10_way, 4, some .int, 10)
theorem kX10_way : okMc mX10_way 2 := ⟨by decide +kernel, gT3 (i := 28) (by decide +kernel) rfl, gT1 (i := 1) (by decide +kernel) rfl, ⟨by decide +kernel, by decide +kernel⟩, by decide +kernel, by decide⟩
theorem vX10_way : okVc mX10_way := ⟨gT3 (i := 26) (by decide +kernel) rfl, gT3 (i := 27) (by decide +kernel) rfl⟩
abbrev mX10_soonest : Mt := (yX10_soonest, cX10_soonest, 5, some .int, 10)
theorem kX10_soonest : okMc mX10_soonest 3 := ⟨by decide +kernel, gT3 (i := 57) (by decide +kernel) rfl, gT1 (i := 1) (by decide +kernel) rfl, ⟨by decide +kernel, by decide +kernel⟩, by decide +kernel, by decide⟩
theorem vX10_soonest : okVc mX10_soonest := ⟨gT3 (i := 55) (by decide +kernel) rfl, gT3 (i := 56) (by decide +kernel) rfl⟩
abbrev mX10_waited : Mt := (yX10_waited, cX10_waited, 5, some .int, 10)
theorem kX10_waited : okMc mX10_waited 3 := ⟨by decide +kernel, gT3 (i := 96) (by decide +kernel) rfl, gT1 (i := 1) (by decide +kernel) rfl, ⟨by decide +kernel, by decide +kernel⟩, by decide +kernel, by decide⟩
theorem vX10_waited : okVc mX10_waited := ⟨gT3 (i := 94) (by decide +kernel) rfl, gT3 (i := 95) (by decide +kernel) rfl⟩
abbrev mX10_road : Mt := (yX10_road, cX10_road, 6, some .int, 10)
theorem kX10_road : okMc mX10_road 4 := ⟨by decide +kernel, gT3 (i := 120) (by decide +kernel) rfl, gT1 (i := 1) (by decide +kernel) rfl, ⟨by decide +kernel, by decide +kernel⟩, by decide +kernel, by decide⟩
theorem vX10_road : okVc mX10_road := ⟨gT3 (i := 118) (by decide +kernel) rfl, gT3 (i := 119) (by decide +kernel) rfl⟩
abbrev mX10_all : Mt := (yX10_all, cX10_all, 3, some .int, 10)
theorem kX10_all : okMc mX10_all 1 := ⟨by decide +kernel, gT3 (i := 128) (by decide +kernel) rfl, gT1 (i := 1) (by decide +kernel) rfl, ⟨by decide +kernel, by decide +kernel⟩, by decide +kernel, by decide⟩
theorem vX10_all : okVc mX10_all := ⟨gT3 (i := 126) (by decide +kernel) rfl, gT3 (i := 127) (by decide +kernel) rfl⟩
abbrev mX10_longest : Mt := (yX10_longest, cX10_longest, 3, some .int, 10)
theorem kX10_longest : okMc mX10_longest 1 := ⟨by decide +kernel, gT3 (i := 167) (by decide +kernel) rfl, gT1 (i := 1) (by decide +kernel) rfl, ⟨by decide +kernel, by decide +kernel⟩, by decide +kernel, by decide⟩
theorem vX10_longest : okVc mX10_longest := ⟨gT3 (i := 165) (by decide +kernel) rfl, gT3 (i := 166) (by decide +kernel) rfl⟩
abbrev mX10_apart : Mt := (yX10_apart, cX10_apart, 3, some .int, 10)
theorem kX10_apart : okMc mX10_apart 1 := ⟨by decide +kernel, gT3 (i := 176) (by decide +kernel) rfl, gT1 (i := 1) (by decide +kernel) rfl, ⟨by decide +kernel, by decide +kernel⟩, by decide +kernel, by decide⟩
theorem vX10_apart : okVc mX10_apart := ⟨gT3 (i := 174) (by decide +kernel) rfl, gT3 (i := 175) (by decide +kernel) rfl⟩
abbrev mX10_can : Mt := (yX10_can, cX10_can, 1, some .int, 10)
theorem kX10_can : okMc mX10_can 0 := ⟨by decide +kernel, gT3 (i := 180) (by decide +kernel) rfl, gT1 (i := 1) (by decide +kernel) rfl, ⟨by decide +kernel, by decide +kernel⟩, by decide +kernel, by decide⟩
theorem vX10_can : okVc mX10_can := ⟨gT3 (i := 178) (by decide +kernel) rfl, gT3 (i := 179) (by decide +kernel) rfl⟩
abbrev mX10_bridges : Mt := (yX10_bridges, cX10_bridges, 1, some .int, 10)
theorem kX10_bridges : okMc mX10_bridges 0 := ⟨by decide +kernel, gT3 (i := 197) (by decide +kernel) rfl, gT1 (i := 1) (by decide +kernel) rfl, ⟨by decide +kernel, by decide +kernel⟩, by decide +kernel, by decide⟩
theorem vX10_bridges : okVc mX10_bridges := ⟨gT3 (i := 195) (by decide +kernel) rfl, gT3 (i := 196) (by decide +kernel) rfl⟩
abbrev mX10_walk : Mt := (yX10_walk, cX10_walk, 1, some .int, 10)
theorem kX10_walk : okMc mX10_walk 0 := ⟨by decide +kernel, gT3 (i := 201) (by decide +kernel) rfl, gT1 (i := 1) (by decide +kernel) rfl, ⟨by decide +kernel, by decide +kernel⟩, by decide +kernel, by decide⟩
theorem vX10_walk : okVc mX10_walk := ⟨gT3 (i := 199) (by decide +kernel) rfl, gT3 (i := 200) (by decide +kernel) rfl⟩
abbrev mX10_cost : Mt := (yX10_cost, cX10_cost, 1, some .int, 10)
theorem kX10_cost : okMc mX10_cost 0 := ⟨by decide +kernel, gT3 (i := 214) (by decide +kernel) rfl, gT1 (i := 1) (by decide +kernel) rfl, ⟨by decide +kernel, by decide +kernel⟩, by decide +kernel, by decide⟩
theorem vX10_cost : okVc mX10_cost := ⟨gT3 (i := 212) (by decide +kernel) rfl, gT3 (i := 213) (by decide +kernel) rfl⟩
abbrev mX10_best : Mt := (yX10_best, cX10_best, 2, some .int, 10)
theorem kX10_best : okMc mX10_best 0 := ⟨by decide +kernel, gT3 (i := 233) (by decide +kernel) rfl, gT1 (i := 1) (by decide +kernel) rfl, ⟨by decide +kernel, by decide +kernel⟩, by decide +kernel, by decide⟩
theorem vX10_best : okVc mX10_best := ⟨gT3 (i := 231) (by decide +kernel) rfl, gT3 (i := 232) (by decide +kernel) rfl⟩
abbrev mX10_far : Mt := (yX10_far, cX10_far, 2, some .int, 10)
theorem kX10_far : okMc mX10_far 0 := ⟨by decide +kernel, gT4 (i := 17) (by decide +kernel) rfl, gT1 (i := 1) (by decide +kernel) rfl, ⟨by decide +kernel, by decide +kernel⟩, by decide +kernel, by decide⟩
theorem vX10_far : okVc mX10_far := ⟨gT4 (i := 15) (by decide +kernel) rfl, gT4 (i := 16) (by decide +kernel) rfl⟩
abbrev mX10_turning : Mt := (yX10_turning, cX10_turning, 1, some .int, 10)
theorem kX10_turning : okMc mX10_turning 0 := ⟨by decide +kernel, gT4 (i := 28) (by decide +kernel) rfl, gT1 (i := 1) (by decide +kernel) rfl, ⟨by decide +kernel, by decide +kernel⟩, by decide +kernel, by decide⟩
theorem vX10_turning : okVc mX10_turning := ⟨gT4 (i := 26) (by decide +kernel) rfl, gT4 (i := 27) (by decide +kernel) rfl⟩
abbrev mX10_bothWays : Mt := (yX10_bothWays, cX10_bothWays, 2, some .int, 10)
theorem kX10_bothWays : okMc mX10_bothWays 1 := ⟨by decide +kernel, gT4 (i := 38) (by decide +kernel) rfl, gT1 (i := 1) (by decide +kernel) rfl, ⟨by decide +kernel, by decide +kernel⟩, by decide +kernel, by decide⟩
theorem vX10_bothWays : okVc mX10_bothWays := ⟨gT4 (i := 36) (by decide +kernel) rfl, gT4 (i := 37) (by decide +kernel) rfl⟩
abbrev mX10_corner : Mt := (yX10_corner, cX10_corner, 2, some .int, 10)
theorem kX10_corner : okMc mX10_corner 1 := ⟨by decide +kernel, gT4 (i := 58) (by decide +kernel) rfl, gT1 (i := 1) (by decide +kernel) rfl, ⟨by decide +kernel, by decide +kernel⟩, by decide +kernel, by decide⟩
theorem vX10_corner : okVc mX10_corner := ⟨gT4 (i := 56) (by decide +kernel) rfl, gT4 (i := 57) (by decide +kernel) rfl⟩
abbrev mX10_procession : Mt := (yX10_procession, cX10_procession, 2, some .int, 10)
theorem kX10_procession : okMc mX10_procession 0 := ⟨by decide +kernel, gT4 (i := 62) (by decide +kernel) rfl, gT1 (i := 1) (by decide +kernel) rfl, ⟨by decide +kernel, by decide +kernel⟩, by decide +kernel, by decide⟩
theorem vX10_procession : okVc mX10_procession := ⟨gT4 (i := 60) (by decide +kernel) rfl, gT4 (i := 61) (by decide +kernel) rfl⟩
abbrev mX10_bestNoon : Mt := (yX10_bestNoon, cX10_bestNoon, 1, some .int, 10)
theorem kX10_bestNoon : okMc mX10_bestNoon 0 := ⟨by decide +kernel, gT4 (i := 70) (by decide +kernel) rfl, gT1 (i := 1) (by decide +kernel) rfl, ⟨by decide +kernel, by decide +kernel⟩, by decide +kernel, by decide⟩
theorem vX10_bestNoon : okVc mX10_bestNoon := ⟨gT4 (i := 68) (by decide +kernel) rfl, gT4 (i := 69) (by decide +kernel) rfl⟩
abbrev mX10_lives : Mt := (yX10_lives, cX10_lives, 1, some .int, 10)
theorem kX10_lives : okMc mX10_lives 0 := ⟨by decide +kernel, gT4 (i := 82) (by decide +kernel) rfl, gT1 (i := 1) (by decide +kernel) rfl, ⟨by decide +kernel, by decide +kernel⟩, by decide +kernel, by decide⟩
theorem vX10_lives : okVc mX10_lives := ⟨gT4 (i := 80) (by decide +kernel) rfl, gT4 (i := 81) (by decide +kernel) rfl⟩
abbrev mX10_meets : Mt := (yX10_meets, cX10_meets, 3, some .int, 10)
theorem kX10_meets : okMc mX10_meets 2 := ⟨by decide +kernel, gT4 (i := 90) (by decide +kernel) rfl, gT1 (i := 1) (by decide +kernel) rfl, ⟨by decide +kernel, by decide +kernel⟩, by decide +kernel, by decide⟩
theorem vX10_meets : okVc mX10_meets := ⟨gT4 (i := 88) (by decide +kernel) rfl, gT4 (i := 89) (by decide +kernel) rfl⟩
abbrev mX10_pairs : Mt := (yX10_pairs, cX10_pairs, 4, some .int, 10)
theorem kX10_pairs : okMc mX10_pairs 0 := ⟨by decide +kernel, gT4 (i := 102) (by decide +kernel) rfl, gT1 (i := 1) (by decide +kernel) rfl, ⟨by decide +kernel, by decide +kernel⟩, by decide +kernel, by decide⟩
theorem vX10_pairs : okVc mX10_pairs := ⟨gT4 (i := 100) (by decide +kernel) rfl, gT4 (i := 101) (by decide +kernel) rfl⟩
abbrev mX10_lanes : Mt := (yX10_lanes, cX10_lanes, 4, some .int, 10)
theorem kX10_lanes : okMc mX10_lanes 3 := ⟨by decide +kernel, gT4 (i := 106) (by decide +kernel) rfl, gT1 (i := 1) (by decide +kernel) rfl, ⟨by decide +kernel, by decide +kernel⟩, by decide +kernel, by decide⟩
theorem vX10_lanes : okVc mX10_lanes := ⟨gT4 (i := 104) (by decide +kernel) rfl, gT4 (i := 105) (by decide +kernel) rfl⟩
abbrev mX10_shuts : Mt := (yX10_shuts, cX10_shuts, 3, some .int, 10)
theorem kX10_shuts : okMc mX10_shuts 1 := ⟨by decide +kernel, gT4 (i := 120) (by decide +kernel) rfl, gT1 (i := 1) (by decide +kernel) rfl, ⟨by decide +kernel, by decide +kernel⟩, by decide +kernel, by decide⟩
theorem vX10_shuts : okVc mX10_shuts := ⟨gT4 (i := 118) (by decide +kernel) rfl, gT4 (i := 119) (by decide +kernel) rfl⟩
abbrev mX10_days : Mt := (yX10_days, cX10_days, 3, some .int, 10)
theorem kX10_days : okMc mX10_days 2 := ⟨by decide +kernel, gT4 (i := 129) (by decide +kernel) rfl, gT1 (i := 1) (by decide +kernel) rfl, ⟨by decide +kernel, by decide +kernel⟩, by decide +kernel, by decide⟩
theorem vX10_days : okVc mX10_days := ⟨gT4 (i := 127) (by decide +kernel) rfl, gT4 (i := 128) (by decide +kernel) rfl⟩
abbrev mX10_judge : Mt := (yX10_judge, cX10_judge, 2, some .int, 10)
theorem kX10_judge : okMc mX10_judge 0 := ⟨by decide +kernel, gT4 (i := 144) (by decide +kernel) rfl, gT1 (i := 1) (by decide +kernel) rfl, ⟨by decide +kernel, by decide +kernel⟩, by decide +kernel, by decide⟩
theorem vX10_judge : okVc mX10_judge := ⟨gT4 (i := 142) (by decide +kernel) rfl, gT4 (i := 143) (by decide +kernel) rfl⟩
abbrev mX10_image : Mt := (yX10_image, cX10_image, 1, some .int, 10)
theorem kX10_image : okMc mX10_image 0 := ⟨by decide +kernel, gT4 (i := 153) (by decide +kernel) rfl, gT1 (i := 1) (by decide +kernel) rfl, ⟨by decide +kernel, by decide +kernel⟩, by decide +kernel, by decide⟩
theorem vX10_image : okVc mX10_image := ⟨gT4 (i := 151) (by decide +kernel) rfl, gT4 (i := 152) (by decide +kernel) rfl⟩
abbrev mX10_on : Mt := (yX10_on, cX10_on, 1, some .int, 10)
theorem kX10_on : okMc mX10_on 0 := ⟨by decide +kernel, gT4 (i := 158) (by decide +kernel) rfl, gT1 (i := 1) (by decide +kernel) rfl, ⟨by decide +kernel, by decide +kernel⟩, by decide +kernel, by decide⟩
theorem vX10_on : okVc mX10_on := ⟨gT4 (i := 156) (by decide +kernel) rfl, gT4 (i := 157) (by decide +kernel) rfl⟩
abbrev mX10_count : Mt := (yX10_count, cX10_count, 2, some .int, 10)
theorem kX10_count : okMc mX10_count 1 := ⟨by decide +kernel, gT4 (i := 162) (by decide +kernel) rfl, gT1 (i := 1) (by decide +kernel) rfl, ⟨by decide +kernel, by decide +kernel⟩, by decide +kernel, by decide⟩
theorem vX10_count : okVc mX10_count := ⟨gT4 (i := 160) (by decide +kernel) rfl, gT4 (i := 161) (by decide +kernel) rfl⟩
abbrev mX10_refuse : Mt := (yX10_refuse, cX10_refuse, 2, some .int, 10)
theorem kX10_refuse : okMc mX10_refuse 1 := ⟨by decide +kernel, gT2 (i := 147) (by decide +kernel) rfl, gT1 (i := 1) (by decide +kernel) rfl, ⟨by decide +kernel, by decide +kernel⟩, by decide +kernel, by decide⟩
theorem vX10_refuse : okVc mX10_refuse := ⟨gT2 (i := 146) (by decide +kernel) rfl, gTbl_in (i := 0) (by decide +kernel) rfl⟩
abbrev mX10_refusalOfMinute : Mt := (yX10_refusalOfMinute, cX10_refusalOfMinute, 2, some .int, 10)
theorem kX10_refusalOfMinute : okMc mX10_refusalOfMinute 1 := ⟨by decide +kernel, gT3 (i := 32) (by decide +kernel) rfl, gT1 (i := 1) (by decide +kernel) rfl, ⟨by decide +kernel, by decide +kernel⟩, by decide +kernel, by decide⟩
theorem vX10_refusalOfMinute : okVc mX10_refusalOfMinute := ⟨gT3 (i := 31) (by decide +kernel) rfl, gTbl_in (i := 9) (by decide +kernel) rfl⟩
abbrev mX10_refusalOfWay : Mt := (yX10_refusalOfWay, cX10_refusalOfWay, 4, some .int, 10)
theorem kX10_refusalOfWay : okMc mX10_refusalOfWay 3 := ⟨by decide +kernel, gT3 (i := 61) (by decide +kernel) rfl, gT1 (i := 1) (by decide +kernel) rfl, ⟨by decide +kernel, by decide +kernel⟩, by decide +kernel, by decide⟩
theorem vX10_refusalOfWay : okVc mX10_refusalOfWay := ⟨gT3 (i := 60) (by decide +kernel) rfl, gTbl_in (i := 10) (by decide +kernel) rfl⟩
abbrev mX10_refusalOfTrying : Mt := (yX10_refusalOfTrying, cX10_refusalOfTrying, 1, some .int, 10)
theorem kX10_refusalOfTrying : okMc mX10_refusalOfTrying 0 := ⟨by decide +kernel, gT3 (i := 237) (by decide +kernel) rfl, gT1 (i := 1) (by decide +kernel) rfl, ⟨by decide +kernel, by decide +kernel⟩, by decide +kernel, by decide⟩
theorem vX10_refusalOfTrying : okVc mX10_refusalOfTrying := ⟨gT3 (i := 236) (by decide +kernel) rfl, gTbl_in (i := 23) (by decide +kernel) rfl⟩
abbrev mX10_freezeAsItIs : Mt := (yX10_freezeAsItIs, cX10_freezeAsItIs, 2, none, 10)
theorem kX10_freezeAsItIs : okMc mX10_freezeAsItIs 1 := ⟨by decide +kernel, gT3 (i := 132) (by decide +kernel) rfl, gT1 (i := 1) (by decide +kernel) rfl, ⟨by decide +kernel, by decide +kernel⟩, by decide +kernel, by decide⟩
theorem vX10_freezeAsItIs : okVc mX10_freezeAsItIs := ⟨gT3 (i := 131) (by decide +kernel) rfl, gTbl_in (i := 16) (by decide +kernel) rfl⟩
abbrev mX10_traceErrand : Mt := (yX10_traceErrand, cX10_traceErrand, 2, none, 10)
theorem kX10_traceErrand : okMc mX10_traceErrand 1 := ⟨by decide +kernel, gT4 (i := 94) (by decide +kernel) rfl, gT1 (i := 1) (by decide +kernel) rfl, ⟨by decide +kernel, by decide +kernel⟩, by decide +kernel, by decide⟩
theorem vX10_traceErrand : okVc mX10_traceErrand := ⟨gT4 (i := 93) (by decide +kernel) rfl, gTbl_in (i := 25) (by decide +kernel) rfl⟩
abbrev mX10_bitOf : Mt := (yX10_bitOf, cX10_bitOf, 2, some .int, 10)
theorem kX10_bitOf : okMc mX10_bitOf 2 := ⟨by decide +kernel, gT3 (i := 0) (by decide +kernel) rfl, gT1 (i := 1) (by decide +kernel) rfl, ⟨by decide +kernel, by decide +kernel⟩, by decide +kernel, by decide⟩
theorem vX10_bitOf : Cond.static mX10_bitOf.1 ∈ gTbl := gT2 (i := 239) (by decide +kernel) rfl
abbrev mX11_refuse : Mt := (yX11_refuse, cX11_refuse, 2, some .int, 11)
theorem kX11_refuse : okMc mX11_refuse 1 := ⟨by decide +kernel, gT5 (i := 18) (by decide +kernel) rfl, gT1 (i := 12) (by decide +kernel) rfl, ⟨by decide +kernel, by decide +kernel⟩, by decide +kernel, by decide⟩
theorem vX11_refuse : okVc mX11_refuse := ⟨gT5 (i := 17) (by decide +kernel) rfl, gTbl_in (i := 28) (by decide +kernel) rfl⟩
abbrev mX11_isIn : Mt := (yX11_isIn, cX11_isIn, 2, some .boolean, 11)
theorem kX11_isIn : okMc mX11_isIn 2 := ⟨by decide +kernel, gT5 (i := 62) (by decide +kernel) rfl, gT1 (i := 12) (by decide +kernel) rfl, ⟨by decide +kernel, by decide +kernel⟩, by decide +kernel, by decide⟩
theorem vX11_isIn : Cond.static mX11_isIn.1 ∈ gTbl := gT5 (i := 61) (by decide +kernel) rfl
abbrev mX11_within : Mt := (yX11_within, cX11_within, 3, some .int, 11)
theorem kX11_within : okMc mX11_within 3 := ⟨by decide +kernel, gT5 (i := 88) (by decide +kernel) rfl, gT1 (i := 12) (by decide +kernel) rfl, ⟨by decide +kernel, by decide +kernel⟩, by decide +kernel, by decide⟩
theorem vX11_within : Cond.static mX11_within.1 ∈ gTbl := gT5 (i := 87) (by decide +kernel) rfl
abbrev mX11_isCorner : Mt := (yX11_isCorner, cX11_isCorner, 2, some .boolean, 11)
theorem kX11_isCorner : okMc mX11_isCorner 1 := ⟨by decide +kernel, gT5 (i := 120) (by decide +kernel) rfl, gT1 (i := 12) (by decide +kernel) rfl, ⟨by decide +kernel, by decide +kernel⟩, by decide +kernel, by decide⟩
theorem vX11_isCorner : okVc mX11_isCorner := ⟨gT5 (i := 119) (by decide +kernel) rfl, gTbl_in (i := 43) (by decide +kernel) rfl⟩
abbrev mX11_isStreet : Mt := (yX11_isStreet, cX11_isStreet, 2, some .boolean, 11)
theorem kX11_isStreet : okMc mX11_isStreet 1 := ⟨by decide +kernel, gT5 (i := 59) (by decide +kernel) rfl, gT1 (i := 12) (by decide +kernel) rfl, ⟨by decide +kernel, by decide +kernel⟩, by decide +kernel, by decide⟩
theorem vX11_isStreet : okVc mX11_isStreet := ⟨gT5 (i := 58) (by decide +kernel) rfl, gTbl_in (i := 36) (by decide +kernel) rfl⟩
abbrev mX11_isErrand : Mt := (yX11_isErrand, cX11_isErrand, 2, some .boolean, 11)
theorem kX11_isErrand : okMc mX11_isErrand 1 := ⟨by decide +kernel, gT5 (i := 74) (by decide +kernel) rfl, gT1 (i := 12) (by decide +kernel) rfl, ⟨by decide +kernel, by decide +kernel⟩, by decide +kernel, by decide⟩
theorem vX11_isErrand : okVc mX11_isErrand := ⟨gT5 (i := 73) (by decide +kernel) rfl, gTbl_in (i := 38) (by decide +kernel) rfl⟩
abbrev mX11_get : Mt := (yX11_get, cX11_get, 3, some .int, 11)
theorem kX11_get : okMc mX11_get 2 := ⟨by decide +kernel, gT5 (i := 66) (by decide +kernel) rfl, gT1 (i := 12) (by decide +kernel) rfl, ⟨by decide +kernel, by decide +kernel⟩, by decide +kernel, by decide⟩
theorem vX11_get : okVc mX11_get := ⟨gT5 (i := 65) (by decide +kernel) rfl, gTbl_in (i := 37) (by decide +kernel) rfl⟩
abbrev mX11_of : Mt := (yX11_of, cX11_of, 3, some .int, 11)
theorem kX11_of : okMc mX11_of 2 := ⟨by decide +kernel, gT5 (i := 78) (by decide +kernel) rfl, gT1 (i := 12) (by decide +kernel) rfl, ⟨by decide +kernel, by decide +kernel⟩, by decide +kernel, by decide⟩
theorem vX11_of : okVc mX11_of := ⟨gT5 (i := 77) (by decide +kernel) rfl, gTbl_in (i := 39) (by decide +kernel) rfl⟩
abbrev mX11_feed : Mt := (yX11_feed, cX11_feed, 5, some .int, 11)
theorem kX11_feed : okMc mX11_feed 2 := ⟨by decide +kernel, gT5 (i := 14) (by decide +kernel) rfl, gT1 (i := 12) (by decide +kernel) rfl, ⟨by decide +kernel, by decide +kernel⟩, by decide +kernel, by decide⟩
theorem vX11_feed : okVc mX11_feed := ⟨gT5 (i := 12) (by decide +kernel) rfl, gT5 (i := 13) (by decide +kernel) rfl⟩
abbrev mX11_sign : Mt := (yX11_sign, cX11_sign, 1, some .int, 11)
theorem kX11_sign : okMc mX11_sign 0 := ⟨by decide +kernel, gT5 (i := 35) (by decide +kernel) rfl, gT1 (i := 12) (by decide +kernel) rfl, ⟨by decide +kernel, by decide +kernel⟩, by decide +kernel, by decide⟩
theorem vX11_sign : okVc mX11_sign := ⟨gT5 (i := 34) (by decide +kernel) rfl, gTbl_in (i := 31) (by decide +kernel) rfl⟩
abbrev mX11_takes : Mt := (yX11_takes, cX11_takes, 2, some .boolean, 11)
theorem kX11_takes : okMc mX11_takes 1 := ⟨by decide +kernel, gT5 (i := 43) (by decide +kernel) rfl, gT1 (i := 12) (by decide +kernel) rfl, ⟨by decide +kernel, by decide +kernel⟩, by decide +kernel, by decide⟩
theorem vX11_takes : okVc mX11_takes := ⟨gT5 (i := 42) (by decide +kernel) rfl, gTbl_in (i := 33) (by decide +kernel) rfl⟩
abbrev mX11_readsNumber : Mt := (yX11_readsNumber, cX11_readsNumber, 4, some .boolean, 11)
theorem kX11_readsNumber : okMc mX11_readsNumber 2 := ⟨by decide +kernel, gT5 (i := 39) (by decide +kernel) rfl, gT1 (i := 12) (by decide +kernel) rfl, ⟨by decide +kernel, by decide +kernel⟩, by decide +kernel, by decide⟩
theorem vX11_readsNumber : okVc mX11_readsNumber := ⟨gT5 (i := 38) (by decide +kernel) rfl, gTbl_in (i := 32) (by decide +kernel) rfl⟩
abbrev mX11_readsStatement : Mt := (yX11_readsStatement, cX11_readsStatement, 3, some .boolean, 11)
theorem kX11_readsStatement : okMc mX11_readsStatement 0 := ⟨by decide +kernel, gT5 (i := 31) (by decide +kernel) rfl, gT1 (i := 12) (by decide +kernel) rfl, ⟨by decide +kernel, by decide +kernel⟩, by decide +kernel, by decide⟩
theorem vX11_readsStatement : okVc mX11_readsStatement := ⟨gT5 (i := 30) (by decide +kernel) rfl, gTbl_in (i := 30) (by decide +kernel) rfl⟩
abbrev mX11_toldOf : Mt := (yX11_toldOf, cX11_toldOf, 4, some .int, 11)
theorem kX11_toldOf : okMc mX11_toldOf 0 := ⟨by decide +kernel, gT5 (i := 51) (by decide +kernel) rfl, gT1 (i := 12) (by decide +kernel) rfl, ⟨by decide +kernel, by decide +kernel⟩, by decide +kernel, by decide⟩
theorem vX11_toldOf : okVc mX11_toldOf := ⟨gT5 (i := 50) (by decide +kernel) rfl, gTbl_in (i := 35) (by decide +kernel) rfl⟩
abbrev mX11_comes : Mt := (yX11_comes, cX11_comes, 7, some .boolean, 11)
theorem kX11_comes : okMc mX11_comes 1 := ⟨by decide +kernel, gT5 (i := 47) (by decide +kernel) rfl, gT1 (i := 12) (by decide +kernel) rfl, ⟨by decide +kernel, by decide +kernel⟩, by decide +kernel, by decide⟩
theorem vX11_comes : okVc mX11_comes := ⟨gT5 (i := 46) (by decide +kernel) rfl, gTbl_in (i := 34) (by decide +kernel) rfl⟩
abbrev mX11_reads : Mt := (yX11_reads, cX11_reads, 5, some .int, 11)
theorem kX11_reads : okMc mX11_reads 0 := ⟨by decide +kernel, gT5 (i := 27) (by decide +kernel) rfl, gT1 (i := 12) (by decide +kernel) rfl, ⟨by decide +kernel, by decide +kernel⟩, by decide +kernel, by decide⟩
theorem vX11_reads : okVc mX11_reads := ⟨gT5 (i := 26) (by decide +kernel) rfl, gTbl_in (i := 29) (by decide +kernel) rfl⟩
abbrev mX11_town : Mt := (yX11_town, cX11_town, 2, some .int, 11)
theorem kX11_town : okMc mX11_town 0 := ⟨by decide +kernel, gT5 (i := 23) (by decide +kernel) rfl, gT1 (i := 12) (by decide +kernel) rfl, ⟨by decide +kernel, by decide +kernel⟩, by decide +kernel, by decide⟩
theorem vX11_town : okVc mX11_town := ⟨gT5 (i := 21) (by decide +kernel) rfl, gT5 (i := 22) (by decide +kernel) rfl⟩
abbrev mX11_street : Mt := (yX11_street, cX11_street, 3, some .int, 11)
theorem kX11_street : okMc mX11_street 2 := ⟨by decide +kernel, gT5 (i := 55) (by decide +kernel) rfl, gT1 (i := 12) (by decide +kernel) rfl, ⟨by decide +kernel, by decide +kernel⟩, by decide +kernel, by decide⟩
theorem vX11_street : okVc mX11_street := ⟨gT5 (i := 53) (by decide +kernel) rfl, gT5 (i := 54) (by decide +kernel) rfl⟩
abbrev mX11_errand : Mt := (yX11_errand, cX11_errand, 3, some .int, 11)
theorem kX11_errand : okMc mX11_errand 2 := ⟨by decide +kernel, gT5 (i := 70) (by decide +kernel) rfl, gT1 (i := 12) (by decide +kernel) rfl, ⟨by decide +kernel, by decide +kernel⟩, by decide +kernel, by decide⟩
theorem vX11_errand : okVc mX11_errand := ⟨gT5 (i := 68) (by decide +kernel) rfl, gT5 (i := 69) (by decide +kernel) rfl⟩
abbrev mX11_becomes : Mt := (yX11_becomes, cX11_becomes, 4, some .int, 11)
theorem kX11_becomes : okMc mX11_becomes 2 := ⟨by decide +kernel, gT5 (i := 92) (by decide +kernel) rfl, gT1 (i := 12) (by decide +kernel) rfl, ⟨by decide +kernel, by decide +kernel⟩, by decide +kernel, by decide⟩
theorem vX11_becomes : okVc mX11_becomes := ⟨gT5 (i := 91) (by decide +kernel) rfl, gTbl_in (i := 40) (by decide +kernel) rfl⟩
abbrev mX11_most : Mt := (yX11_most, cX11_most, 1, some .int, 11)
theorem kX11_most : okMc mX11_most 1 := ⟨by decide +kernel, gT5 (i := 85) (by decide +kernel) rfl, gT1 (i := 12) (by decide +kernel) rfl, ⟨by decide +kernel, by decide +kernel⟩, by decide +kernel, by decide⟩
theorem vX11_most : Cond.static mX11_most.1 ∈ gTbl := gT5 (i := 84) (by decide +kernel) rfl
abbrev mX11_set : Mt := (yX11_set, cX11_set, 4, some .int, 11)
theorem kX11_set : okMc mX11_set 2 := ⟨by decide +kernel, gT5 (i := 82) (by decide +kernel) rfl, gT1 (i := 12) (by decide +kernel) rfl, ⟨by decide +kernel, by decide +kernel⟩, by decide +kernel, by decide⟩
theorem vX11_set : okVc mX11_set := ⟨gT5 (i := 80) (by decide +kernel) rfl, gT5 (i := 81) (by decide +kernel) rfl⟩
abbrev mX11_point : Mt := (yX11_point, cX11_point, 2, some .int, 11)
theorem kX11_point : okMc mX11_point 1 := ⟨by decide +kernel, gT5 (i := 96) (by decide +kernel) rfl, gT1 (i := 12) (by decide +kernel) rfl, ⟨by decide +kernel, by decide +kernel⟩, by decide +kernel, by decide⟩
theorem vX11_point : okVc mX11_point := ⟨gT5 (i := 94) (by decide +kernel) rfl, gT5 (i := 95) (by decide +kernel) rfl⟩
abbrev mX11_shut : Mt := (yX11_shut, cX11_shut, 4, some .int, 11)
theorem kX11_shut : okMc mX11_shut 2 := ⟨by decide +kernel, gT5 (i := 100) (by decide +kernel) rfl, gT1 (i := 12) (by decide +kernel) rfl, ⟨by decide +kernel, by decide +kernel⟩, by decide +kernel, by decide⟩
theorem vX11_shut : okVc mX11_shut := ⟨gT5 (i := 98) (by decide +kernel) rfl, gT5 (i := 99) (by decide +kernel) rfl⟩
abbrev mX11_wayOf : Mt := (yX11_wayOf, cX11_wayOf, 6, some .int, 11)
theorem kX11_wayOf : okMc mX11_wayOf 2 := ⟨by decide +kernel, gT5 (i := 108) (by decide +kernel) rfl, gT1 (i := 12) (by decide +kernel) rfl, ⟨by decide +kernel, by decide +kernel⟩, by decide +kernel, by decide⟩
theorem vX11_wayOf : okVc mX11_wayOf := ⟨gT5 (i := 107) (by decide +kernel) rfl, gTbl_in (i := 41) (by decide +kernel) rfl⟩
abbrev mX11_way : Mt := (yX11_way, cX11_way, 4, some .int, 11)
theorem kX11_way : okMc mX11_way 2 := ⟨by decide +kernel, gT5 (i := 104) (by decide +kernel) rfl, gT1 (i := 12) (by decide +kernel) rfl, ⟨by decide +kernel, by decide +kernel⟩, by decide +kernel, by decide⟩
theorem vX11_way : okVc mX11_way := ⟨gT5 (i := 102) (by decide +kernel) rfl, gT5 (i := 103) (by decide +kernel) rfl⟩
abbrev mX11_goesFrom : Mt := (yX11_goesFrom, cX11_goesFrom, 5, some .boolean, 11)
theorem kX11_goesFrom : okMc mX11_goesFrom 3 := ⟨by decide +kernel, gT5 (i := 132) (by decide +kernel) rfl, gT1 (i := 12) (by decide +kernel) rfl, ⟨by decide +kernel, by decide +kernel⟩, by decide +kernel, by decide⟩
theorem vX11_goesFrom : okVc mX11_goesFrom := ⟨gT5 (i := 131) (by decide +kernel) rfl, gTbl_in (i := 46) (by decide +kernel) rfl⟩
abbrev mX11_enters : Mt := (yX11_enters, cX11_enters, 6, some .int, 11)
theorem kX11_enters : okMc mX11_enters 3 := ⟨by decide +kernel, gT5 (i := 128) (by decide +kernel) rfl, gT1 (i := 12) (by decide +kernel) rfl, ⟨by decide +kernel, by decide +kernel⟩, by decide +kernel, by decide⟩
theorem vX11_enters : okVc mX11_enters := ⟨gT5 (i := 127) (by decide +kernel) rfl, gTbl_in (i := 45) (by decide +kernel) rfl⟩
abbrev mX11_finds : Mt := (yX11_finds, cX11_finds, 8, none, 11)
theorem kX11_finds : okMc mX11_finds 2 := ⟨by decide +kernel, gT5 (i := 124) (by decide +kernel) rfl, gT1 (i := 12) (by decide +kernel) rfl, ⟨by decide +kernel, by decide +kernel⟩, by decide +kernel, by decide⟩
theorem vX11_finds : okVc mX11_finds := ⟨gT5 (i := 123) (by decide +kernel) rfl, gTbl_in (i := 44) (by decide +kernel) rfl⟩
abbrev mX11_wrongWay : Mt := (yX11_wrongWay, cX11_wrongWay, 4, some .int, 11)
theorem kX11_wrongWay : okMc mX11_wrongWay 3 := ⟨by decide +kernel, gT5 (i := 116) (by decide +kernel) rfl, gT1 (i := 12) (by decide +kernel) rfl, ⟨by decide +kernel, by decide +kernel⟩, by decide +kernel, by decide⟩
theorem vX11_wrongWay : okVc mX11_wrongWay := ⟨gT5 (i := 115) (by decide +kernel) rfl, gTbl_in (i := 42) (by decide +kernel) rfl⟩
abbrev mX11_soonest : Mt := (yX11_soonest, cX11_soonest, 5, some .int, 11)
theorem kX11_soonest : okMc mX11_soonest 3 := ⟨by decide +kernel, gT5 (i := 112) (by decide +kernel) rfl, gT1 (i := 12) (by decide +kernel) rfl, ⟨by decide +kernel, by decide +kernel⟩, by decide +kernel, by decide⟩
theorem vX11_soonest : okVc mX11_soonest := ⟨gT5 (i := 110) (by decide +kernel) rfl, gT5 (i := 111) (by decide +kernel) rfl⟩
abbrev mX11_findsRoad : Mt := (yX11_findsRoad, cX11_findsRoad, 10, some .boolean, 11)
theorem kX11_findsRoad : okMc mX11_findsRoad 3 := ⟨by decide +kernel, gT5 (i := 140) (by decide +kernel) rfl, gT1 (i := 12) (by decide +kernel) rfl, ⟨by decide +kernel, by decide +kernel⟩, by decide +kernel, by decide⟩
theorem vX11_findsRoad : okVc mX11_findsRoad := ⟨gT5 (i := 139) (by decide +kernel) rfl, gTbl_in (i := 47) (by decide +kernel) rfl⟩
abbrev mX11_waited : Mt := (yX11_waited, cX11_waited, 5, some .int, 11)
theorem kX11_waited : okMc mX11_waited 3 := ⟨by decide +kernel, gT5 (i := 136) (by decide +kernel) rfl, gT1 (i := 12) (by decide +kernel) rfl, ⟨by decide +kernel, by decide +kernel⟩, by decide +kernel, by decide⟩
theorem vX11_waited : okVc mX11_waited := ⟨gT5 (i := 134) (by decide +kernel) rfl, gT5 (i := 135) (by decide +kernel) rfl⟩
abbrev mX11_road : Mt := (yX11_road, cX11_road, 6, some .int, 11)
theorem kX11_road : okMc mX11_road 4 := ⟨by decide +kernel, gT5 (i := 144) (by decide +kernel) rfl, gT1 (i := 12) (by decide +kernel) rfl, ⟨by decide +kernel, by decide +kernel⟩, by decide +kernel, by decide⟩
theorem vX11_road : okVc mX11_road := ⟨gT5 (i := 142) (by decide +kernel) rfl, gT5 (i := 143) (by decide +kernel) rfl⟩
abbrev mX11_findsFar : Mt := (yX11_findsFar, cX11_findsFar, 6, none, 11)
theorem kX11_findsFar : okMc mX11_findsFar 1 := ⟨by decide +kernel, gT5 (i := 156) (by decide +kernel) rfl, gT1 (i := 12) (by decide +kernel) rfl, ⟨by decide +kernel, by decide +kernel⟩, by decide +kernel, by decide⟩
theorem vX11_findsFar : okVc mX11_findsFar := ⟨gT5 (i := 155) (by decide +kernel) rfl, gTbl_in (i := 49) (by decide +kernel) rfl⟩
abbrev mX11_apartAt : Mt := (yX11_apartAt, cX11_apartAt, 5, some .int, 11)
theorem kX11_apartAt : okMc mX11_apartAt 1 := ⟨by decide +kernel, gT5 (i := 152) (by decide +kernel) rfl, gT1 (i := 12) (by decide +kernel) rfl, ⟨by decide +kernel, by decide +kernel⟩, by decide +kernel, by decide⟩
theorem vX11_apartAt : okVc mX11_apartAt := ⟨gT5 (i := 151) (by decide +kernel) rfl, gTbl_in (i := 48) (by decide +kernel) rfl⟩
abbrev mX11_longestAt : Mt := (yX11_longestAt, cX11_longestAt, 5, some .int, 11)
theorem kX11_longestAt : okMc mX11_longestAt 1 := ⟨by decide +kernel, gT5 (i := 165) (by decide +kernel) rfl, gT1 (i := 12) (by decide +kernel) rfl, ⟨by decide +kernel, by decide +kernel⟩, by decide +kernel, by decide⟩
theorem vX11_longestAt : okVc mX11_longestAt := ⟨gT5 (i := 164) (by decide +kernel) rfl, gTbl_in (i := 50) (by decide +kernel) rfl⟩
abbrev mX11_all : Mt := (yX11_all, cX11_all, 3, some .int, 11)
theorem kX11_all : okMc mX11_all 1 := ⟨by decide +kernel, gT5 (i := 148) (by decide +kernel) rfl, gT1 (i := 12) (by decide +kernel) rfl, ⟨by decide +kernel, by decide +kernel⟩, by decide +kernel, by decide⟩
theorem vX11_all : okVc mX11_all := ⟨gT5 (i := 146) (by decide +kernel) rfl, gT5 (i := 147) (by decide +kernel) rfl⟩
abbrev mX11_longest : Mt := (yX11_longest, cX11_longest, 3, some .int, 11)
theorem kX11_longest : okMc mX11_longest 1 := ⟨by decide +kernel, gT5 (i := 161) (by decide +kernel) rfl, gT1 (i := 12) (by decide +kernel) rfl, ⟨by decide +kernel, by decide +kernel⟩, by decide +kernel, by decide⟩
theorem vX11_longest : okVc mX11_longest := ⟨gT5 (i := 159) (by decide +kernel) rfl, gT5 (i := 160) (by decide +kernel) rfl⟩
abbrev mX11_apart : Mt := (yX11_apart, cX11_apart, 3, some .int, 11)
theorem kX11_apart : okMc mX11_apart 1 := ⟨by decide +kernel, gT5 (i := 169) (by decide +kernel) rfl, gT1 (i := 12) (by decide +kernel) rfl, ⟨by decide +kernel, by decide +kernel⟩, by decide +kernel, by decide⟩
theorem vX11_apart : okVc mX11_apart := ⟨gT5 (i := 167) (by decide +kernel) rfl, gT5 (i := 168) (by decide +kernel) rfl⟩
abbrev mX11_hang : Mt := (yX11_hang, cX11_hang, 8, some .int, 11)
theorem kX11_hang : okMc mX11_hang 2 := ⟨by decide +kernel, gT5 (i := 177) (by decide +kernel) rfl, gT1 (i := 12) (by decide +kernel) rfl, ⟨by decide +kernel, by decide +kernel⟩, by decide +kernel, by decide⟩
theorem vX11_hang : okVc mX11_hang := ⟨gT5 (i := 176) (by decide +kernel) rfl, gTbl_in (i := 51) (by decide +kernel) rfl⟩
abbrev mX11_isBridge : Mt := (yX11_isBridge, cX11_isBridge, 2, some .boolean, 11)
theorem kX11_isBridge : okMc mX11_isBridge 1 := ⟨by decide +kernel, gT5 (i := 185) (by decide +kernel) rfl, gT1 (i := 12) (by decide +kernel) rfl, ⟨by decide +kernel, by decide +kernel⟩, by decide +kernel, by decide⟩
theorem vX11_isBridge : okVc mX11_isBridge := ⟨gT5 (i := 184) (by decide +kernel) rfl, gTbl_in (i := 53) (by decide +kernel) rfl⟩
abbrev mX11_bridgeBits : Mt := (yX11_bridgeBits, cX11_bridgeBits, 3, some .int, 11)
theorem kX11_bridgeBits : okMc mX11_bridgeBits 0 := ⟨by decide +kernel, gT5 (i := 181) (by decide +kernel) rfl, gT1 (i := 12) (by decide +kernel) rfl, ⟨by decide +kernel, by decide +kernel⟩, by decide +kernel, by decide⟩
theorem vX11_bridgeBits : okVc mX11_bridgeBits := ⟨gT5 (i := 180) (by decide +kernel) rfl, gTbl_in (i := 52) (by decide +kernel) rfl⟩
abbrev mX11_can : Mt := (yX11_can, cX11_can, 1, some .int, 11)
theorem kX11_can : okMc mX11_can 0 := ⟨by decide +kernel, gT5 (i := 173) (by decide +kernel) rfl, gT1 (i := 12) (by decide +kernel) rfl, ⟨by decide +kernel, by decide +kernel⟩, by decide +kernel, by decide⟩
theorem vX11_can : okVc mX11_can := ⟨gT5 (i := 171) (by decide +kernel) rfl, gT5 (i := 172) (by decide +kernel) rfl⟩
abbrev mX11_bridges : Mt := (yX11_bridges, cX11_bridges, 1, some .int, 11)
theorem kX11_bridges : okMc mX11_bridges 0 := ⟨by decide +kernel, gT5 (i := 189) (by decide +kernel) rfl, gT1 (i := 12) (by decide +kernel) rfl, ⟨by decide +kernel, by decide +kernel⟩, by decide +kernel, by decide⟩
theorem vX11_bridges : okVc mX11_bridges := ⟨gT5 (i := 187) (by decide +kernel) rfl, gT5 (i := 188) (by decide +kernel) rfl⟩
abbrev mX11_walks : Mt := (yX11_walks, cX11_walks, 4, none, 11)
theorem kX11_walks : okMc mX11_walks 1 := ⟨by decide +kernel, gT5 (i := 197) (by decide +kernel) rfl, gT1 (i := 12) (by decide +kernel) rfl, ⟨by decide +kernel, by decide +kernel⟩, by decide +kernel, by decide⟩
theorem vX11_walks : okVc mX11_walks := ⟨gT5 (i := 196) (by decide +kernel) rfl, gTbl_in (i := 54) (by decide +kernel) rfl⟩
abbrev mX11_walk : Mt := (yX11_walk, cX11_walk, 1, some .int, 11)
theorem kX11_walk : okMc mX11_walk 0 := ⟨by decide +kernel, gT5 (i := 193) (by decide +kernel) rfl, gT1 (i := 12) (by decide +kernel) rfl, ⟨by decide +kernel, by decide +kernel⟩, by decide +kernel, by decide⟩
theorem vX11_walk : okVc mX11_walk := ⟨gT5 (i := 191) (by decide +kernel) rfl, gT5 (i := 192) (by decide +kernel) rfl⟩
abbrev mX11_costOf : Mt := (yX11_costOf, cX11_costOf, 4, some .int, 11)
theorem kX11_costOf : okMc mX11_costOf 0 := ⟨by decide +kernel, gT5 (i := 205) (by decide +kernel) rfl, gT1 (i := 12) (by decide +kernel) rfl, ⟨by decide +kernel, by decide +kernel⟩, by decide +kernel, by decide⟩
theorem vX11_costOf : okVc mX11_costOf := ⟨gT5 (i := 204) (by decide +kernel) rfl, gTbl_in (i := 55) (by decide +kernel) rfl⟩
abbrev mX11_cost : Mt := (yX11_cost, cX11_cost, 1, some .int, 11)
theorem kX11_cost : okMc mX11_cost 0 := ⟨by decide +kernel, gT5 (i := 201) (by decide +kernel) rfl, gT1 (i := 12) (by decide +kernel) rfl, ⟨by decide +kernel, by decide +kernel⟩, by decide +kernel, by decide⟩
theorem vX11_cost : okVc mX11_cost := ⟨gT5 (i := 199) (by decide +kernel) rfl, gT5 (i := 200) (by decide +kernel) rfl⟩
abbrev mX11_keepsMusts : Mt := (yX11_keepsMusts, cX11_keepsMusts, 3, some .boolean, 11)
theorem kX11_keepsMusts : okMc mX11_keepsMusts 1 := ⟨by decide +kernel, gT5 (i := 221) (by decide +kernel) rfl, gT1 (i := 12) (by decide +kernel) rfl, ⟨by decide +kernel, by decide +kernel⟩, by decide +kernel, by decide⟩
theorem vX11_keepsMusts : okVc mX11_keepsMusts := ⟨gT5 (i := 220) (by decide +kernel) rfl, gTbl_in (i := 58) (by decide +kernel) rfl⟩
abbrev mX11_wrongFew : Mt := (yX11_wrongFew, cX11_wrongFew, 1, some .int, 11)
theorem kX11_wrongFew : okMc mX11_wrongFew 0 := ⟨by decide +kernel, gT5 (i := 213) (by decide +kernel) rfl, gT1 (i := 12) (by decide +kernel) rfl, ⟨by decide +kernel, by decide +kernel⟩, by decide +kernel, by decide⟩
theorem vX11_wrongFew : okVc mX11_wrongFew := ⟨gT5 (i := 212) (by decide +kernel) rfl, gTbl_in (i := 56) (by decide +kernel) rfl⟩
abbrev mX11_bestOf : Mt := (yX11_bestOf, cX11_bestOf, 7, some .int, 11)
theorem kX11_bestOf : okMc mX11_bestOf 1 := ⟨by decide +kernel, gT5 (i := 217) (by decide +kernel) rfl, gT1 (i := 12) (by decide +kernel) rfl, ⟨by decide +kernel, by decide +kernel⟩, by decide +kernel, by decide⟩
theorem vX11_bestOf : okVc mX11_bestOf := ⟨gT5 (i := 216) (by decide +kernel) rfl, gTbl_in (i := 57) (by decide +kernel) rfl⟩
abbrev mX11_best : Mt := (yX11_best, cX11_best, 2, some .int, 11)
theorem kX11_best : okMc mX11_best 0 := ⟨by decide +kernel, gT5 (i := 209) (by decide +kernel) rfl, gT1 (i := 12) (by decide +kernel) rfl, ⟨by decide +kernel, by decide +kernel⟩, by decide +kernel, by decide⟩
theorem vX11_best : okVc mX11_best := ⟨gT5 (i := 207) (by decide +kernel) rfl, gT5 (i := 208) (by decide +kernel) rfl⟩
abbrev mX11_far : Mt := (yX11_far, cX11_far, 2, some .int, 11)
theorem kX11_far : okMc mX11_far 0 := ⟨by decide +kernel, gT5 (i := 225) (by decide +kernel) rfl, gT1 (i := 12) (by decide +kernel) rfl, ⟨by decide +kernel, by decide +kernel⟩, by decide +kernel, by decide⟩
theorem vX11_far : okVc mX11_far := ⟨gT5 (i := 223) (by decide +kernel) rfl, gT5 (i := 224) (by decide +kernel) rfl⟩
abbrev mX11_turning : Mt := (yX11_turning, cX11_turning, 8, some .int, 11)
theorem kX11_turning : okMc mX11_turning 0 := ⟨by decide +kernel, gT5 (i := 229) (by decide +kernel) rfl, gT1 (i := 12) (by decide +kernel) rfl, ⟨by decide +kernel, by decide +kernel⟩, by decide +kernel, by decide⟩
theorem vX11_turning : okVc mX11_turning := ⟨gT5 (i := 227) (by decide +kernel) rfl, gT5 (i := 228) (by decide +kernel) rfl⟩
abbrev mX11_bits : Mt := (yX11_bits, cX11_bits, 3, some .int, 11)
theorem kX11_bits : okMc mX11_bits 1 := ⟨by decide +kernel, gT5 (i := 236) (by decide +kernel) rfl, gT1 (i := 12) (by decide +kernel) rfl, ⟨by decide +kernel, by decide +kernel⟩, by decide +kernel, by decide⟩
theorem vX11_bits : Cond.static mX11_bits.1 ∈ gTbl := gT5 (i := 235) (by decide +kernel) rfl
abbrev mX11_bothWays : Mt := (yX11_bothWays, cX11_bothWays, 5, some .int, 11)
theorem kX11_bothWays : okMc mX11_bothWays 1 := ⟨by decide +kernel, gT5 (i := 233) (by decide +kernel) rfl, gT1 (i := 12) (by decide +kernel) rfl, ⟨by decide +kernel, by decide +kernel⟩, by decide +kernel, by decide⟩
theorem vX11_bothWays : okVc mX11_bothWays := ⟨gT5 (i := 231) (by decide +kernel) rfl, gT5 (i := 232) (by decide +kernel) rfl⟩
abbrev mX11_corner : Mt := (yX11_corner, cX11_corner, 3, some .int, 11)
theorem kX11_corner : okMc mX11_corner 1 := ⟨by decide +kernel, gT6 (i := 0) (by decide +kernel) rfl, gT1 (i := 12) (by decide +kernel) rfl, ⟨by decide +kernel, by decide +kernel⟩, by decide +kernel, by decide⟩
theorem vX11_corner : okVc mX11_corner := ⟨gT5 (i := 238) (by decide +kernel) rfl, gT5 (i := 239) (by decide +kernel) rfl⟩
abbrev mX11_along : Mt := (yX11_along, cX11_along, 6, some .int, 11)
theorem kX11_along : okMc mX11_along 2 := ⟨by decide +kernel, gT6 (i := 8) (by decide +kernel) rfl, gT1 (i := 12) (by decide +kernel) rfl, ⟨by decide +kernel, by decide +kernel⟩, by decide +kernel, by decide⟩
theorem vX11_along : okVc mX11_along := ⟨gT6 (i := 7) (by decide +kernel) rfl, gTbl_in (i := 59) (by decide +kernel) rfl⟩
abbrev mX11_procession : Mt := (yX11_procession, cX11_procession, 5, some .int, 11)
theorem kX11_procession : okMc mX11_procession 0 := ⟨by decide +kernel, gT6 (i := 4) (by decide +kernel) rfl, gT1 (i := 12) (by decide +kernel) rfl, ⟨by decide +kernel, by decide +kernel⟩, by decide +kernel, by decide⟩
theorem vX11_procession : okVc mX11_procession := ⟨gT6 (i := 2) (by decide +kernel) rfl, gT6 (i := 3) (by decide +kernel) rfl⟩
abbrev mX11_bestNoon : Mt := (yX11_bestNoon, cX11_bestNoon, 6, some .int, 11)
theorem kX11_bestNoon : okMc mX11_bestNoon 0 := ⟨by decide +kernel, gT6 (i := 12) (by decide +kernel) rfl, gT1 (i := 12) (by decide +kernel) rfl, ⟨by decide +kernel, by decide +kernel⟩, by decide +kernel, by decide⟩
theorem vX11_bestNoon : okVc mX11_bestNoon := ⟨gT6 (i := 10) (by decide +kernel) rfl, gT6 (i := 11) (by decide +kernel) rfl⟩
abbrev mX11_lives : Mt := (yX11_lives, cX11_lives, 5, some .int, 11)
theorem kX11_lives : okMc mX11_lives 0 := ⟨by decide +kernel, gT6 (i := 16) (by decide +kernel) rfl, gT1 (i := 12) (by decide +kernel) rfl, ⟨by decide +kernel, by decide +kernel⟩, by decide +kernel, by decide⟩
theorem vX11_lives : okVc mX11_lives := ⟨gT6 (i := 14) (by decide +kernel) rfl, gT6 (i := 15) (by decide +kernel) rfl⟩
abbrev mX11_stays : Mt := (yX11_stays, cX11_stays, 3, none, 11)
theorem kX11_stays : okMc mX11_stays 1 := ⟨by decide +kernel, gT6 (i := 28) (by decide +kernel) rfl, gT1 (i := 12) (by decide +kernel) rfl, ⟨by decide +kernel, by decide +kernel⟩, by decide +kernel, by decide⟩
theorem vX11_stays : okVc mX11_stays := ⟨gT6 (i := 27) (by decide +kernel) rfl, gTbl_in (i := 61) (by decide +kernel) rfl⟩
abbrev mX11_areMet : Mt := (yX11_areMet, cX11_areMet, 4, some .boolean, 11)
theorem kX11_areMet : okMc mX11_areMet 2 := ⟨by decide +kernel, gT6 (i := 24) (by decide +kernel) rfl, gT1 (i := 12) (by decide +kernel) rfl, ⟨by decide +kernel, by decide +kernel⟩, by decide +kernel, by decide⟩
theorem vX11_areMet : okVc mX11_areMet := ⟨gT6 (i := 23) (by decide +kernel) rfl, gTbl_in (i := 60) (by decide +kernel) rfl⟩
abbrev mX11_meets : Mt := (yX11_meets, cX11_meets, 3, some .int, 11)
theorem kX11_meets : okMc mX11_meets 2 := ⟨by decide +kernel, gT6 (i := 20) (by decide +kernel) rfl, gT1 (i := 12) (by decide +kernel) rfl, ⟨by decide +kernel, by decide +kernel⟩, by decide +kernel, by decide⟩
theorem vX11_meets : okVc mX11_meets := ⟨gT6 (i := 18) (by decide +kernel) rfl, gT6 (i := 19) (by decide +kernel) rfl⟩
abbrev mX11_pairs : Mt := (yX11_pairs, cX11_pairs, 4, some .int, 11)
theorem kX11_pairs : okMc mX11_pairs 0 := ⟨by decide +kernel, gT6 (i := 32) (by decide +kernel) rfl, gT1 (i := 12) (by decide +kernel) rfl, ⟨by decide +kernel, by decide +kernel⟩, by decide +kernel, by decide⟩
theorem vX11_pairs : okVc mX11_pairs := ⟨gT6 (i := 30) (by decide +kernel) rfl, gT6 (i := 31) (by decide +kernel) rfl⟩
abbrev mX11_isReached : Mt := (yX11_isReached, cX11_isReached, 5, some .boolean, 11)
theorem kX11_isReached : okMc mX11_isReached 3 := ⟨by decide +kernel, gT6 (i := 40) (by decide +kernel) rfl, gT1 (i := 12) (by decide +kernel) rfl, ⟨by decide +kernel, by decide +kernel⟩, by decide +kernel, by decide⟩
theorem vX11_isReached : okVc mX11_isReached := ⟨gT6 (i := 39) (by decide +kernel) rfl, gTbl_in (i := 62) (by decide +kernel) rfl⟩
abbrev mX11_lanes : Mt := (yX11_lanes, cX11_lanes, 7, some .int, 11)
theorem kX11_lanes : okMc mX11_lanes 3 := ⟨by decide +kernel, gT6 (i := 36) (by decide +kernel) rfl, gT1 (i := 12) (by decide +kernel) rfl, ⟨by decide +kernel, by decide +kernel⟩, by decide +kernel, by decide⟩
theorem vX11_lanes : okVc mX11_lanes := ⟨gT6 (i := 34) (by decide +kernel) rfl, gT6 (i := 35) (by decide +kernel) rfl⟩
abbrev mX11_shuts : Mt := (yX11_shuts, cX11_shuts, 5, some .int, 11)
theorem kX11_shuts : okMc mX11_shuts 1 := ⟨by decide +kernel, gT6 (i := 44) (by decide +kernel) rfl, gT1 (i := 12) (by decide +kernel) rfl, ⟨by decide +kernel, by decide +kernel⟩, by decide +kernel, by decide⟩
theorem vX11_shuts : okVc mX11_shuts := ⟨gT6 (i := 42) (by decide +kernel) rfl, gT6 (i := 43) (by decide +kernel) rfl⟩
abbrev mX11_days : Mt := (yX11_days, cX11_days, 8, some .int, 11)
theorem kX11_days : okMc mX11_days 2 := ⟨by decide +kernel, gT6 (i := 48) (by decide +kernel) rfl, gT1 (i := 12) (by decide +kernel) rfl, ⟨by decide +kernel, by decide +kernel⟩, by decide +kernel, by decide⟩
theorem vX11_days : okVc mX11_days := ⟨gT6 (i := 46) (by decide +kernel) rfl, gT6 (i := 47) (by decide +kernel) rfl⟩
abbrev mX11_judge : Mt := (yX11_judge, cX11_judge, 3, some .int, 11)
theorem kX11_judge : okMc mX11_judge 0 := ⟨by decide +kernel, gT6 (i := 55) (by decide +kernel) rfl, gT1 (i := 12) (by decide +kernel) rfl, ⟨by decide +kernel, by decide +kernel⟩, by decide +kernel, by decide⟩
theorem vX11_judge : okVc mX11_judge := ⟨gT6 (i := 53) (by decide +kernel) rfl, gT6 (i := 54) (by decide +kernel) rfl⟩
abbrev mX11_image : Mt := (yX11_image, cX11_image, 2, some .int, 11)
theorem kX11_image : okMc mX11_image 0 := ⟨by decide +kernel, gT6 (i := 59) (by decide +kernel) rfl, gT1 (i := 12) (by decide +kernel) rfl, ⟨by decide +kernel, by decide +kernel⟩, by decide +kernel, by decide⟩
theorem vX11_image : okVc mX11_image := ⟨gT6 (i := 57) (by decide +kernel) rfl, gT6 (i := 58) (by decide +kernel) rfl⟩
abbrev mX11_on : Mt := (yX11_on, cX11_on, 2, some .int, 11)
theorem kX11_on : okMc mX11_on 0 := ⟨by decide +kernel, gT6 (i := 63) (by decide +kernel) rfl, gT1 (i := 12) (by decide +kernel) rfl, ⟨by decide +kernel, by decide +kernel⟩, by decide +kernel, by decide⟩
theorem vX11_on : okVc mX11_on := ⟨gT6 (i := 61) (by decide +kernel) rfl, gT6 (i := 62) (by decide +kernel) rfl⟩
abbrev mX11_count : Mt := (yX11_count, cX11_count, 4, some .int, 11)
theorem kX11_count : okMc mX11_count 1 := ⟨by decide +kernel, gT6 (i := 67) (by decide +kernel) rfl, gT1 (i := 12) (by decide +kernel) rfl, ⟨by decide +kernel, by decide +kernel⟩, by decide +kernel, by decide⟩
theorem vX11_count : okVc mX11_count := ⟨gT6 (i := 65) (by decide +kernel) rfl, gT6 (i := 66) (by decide +kernel) rfl⟩
abbrev mJ6_bitCount_0f7a4 : Mt := (yJ6_bitCount_0f7a4, cJ6_bitCount_0f7a4, 1, some .int, 13)
theorem kJ6_bitCount_0f7a4 : okMc mJ6_bitCount_0f7a4 1 := ⟨by decide +kernel, gT4 (i := 51) (by decide +kernel) rfl, gT1 (i := 16) (by decide +kernel) rfl, ⟨by decide +kernel, by decide +kernel⟩, by decide +kernel, by decide⟩
theorem vJ6_bitCount_0f7a4 : Cond.static mJ6_bitCount_0f7a4.1 ∈ gTbl := gT4 (i := 50) (by decide +kernel) rfl
abbrev mJ7_fill_53178 : Mt := (yJ7_fill_53178, cJ7_fill_53178, 4, none, 16)
theorem kJ7_fill_53178 : okMc mJ7_fill_53178 2 := ⟨by decide +kernel, gT3 (i := 70) (by decide +kernel) rfl, gT1 (i := 15) (by decide +kernel) rfl, ⟨by decide +kernel, by decide +kernel⟩, by decide +kernel, by decide⟩
theorem vJ7_fill_53178 : Cond.static mJ7_fill_53178.1 ∈ gTbl := gT3 (i := 69) (by decide +kernel) rfl
abbrev mL_law : Mt := (yL_law, cL_law, 4, some .boolean, 12)
theorem lkL_15 : Cond.methodLink RL 15 yX10_feed ∈ gTbl := gT2 (i := 140) (by decide +kernel) rfl
theorem lkX10_98 : Cond.methodLink RX10 98 yX10_refuse ∈ gTbl := gT2 (i := 144) (by decide +kernel) rfl
theorem lkX10_106 : Cond.methodLink RX10 106 yX5_add ∈ gTbl := gT2 (i := 148) (by decide +kernel) rfl
theorem lkL_20 : Cond.methodLink RL 20 yX10_town ∈ gTbl := gT2 (i := 152) (by decide +kernel) rfl
theorem lkX10_110 : Cond.methodLink RX10 110 yX3_readInto ∈ gTbl := gT2 (i := 156) (by decide +kernel) rfl
theorem lkX3_26 : Cond.methodLink RX3 26 yX3_statementsWritten ∈ gTbl := gT2 (i := 160) (by decide +kernel) rfl
theorem lkX3_38 : Cond.methodLink RX3 38 yX3_readStatement ∈ gTbl := gT2 (i := 164) (by decide +kernel) rfl
theorem lkX3_53 : Cond.methodLink RX3 53 yX5_byteAt ∈ gTbl := gT2 (i := 168) (by decide +kernel) rfl
theorem lkX3_60 : Cond.methodLink RX3 60 yX3_number ∈ gTbl := gT2 (i := 172) (by decide +kernel) rfl
theorem lkX3_71 : Cond.methodLink RX3 71 yX3_isDigit ∈ gTbl := gT2 (i := 176) (by decide +kernel) rfl
theorem lkX3_64 : Cond.methodLink RX3 64 yX3_sign ∈ gTbl := gT2 (i := 179) (by decide +kernel) rfl
theorem lkX3_68 : Cond.methodLink RX3 68 yX3_broadOrNot ∈ gTbl := gT2 (i := 183) (by decide +kernel) rfl
theorem lkX3_30 : Cond.methodLink RX3 30 yX6_takeFrom ∈ gTbl := gT2 (i := 187) (by decide +kernel) rfl
theorem lkX6_64 : Cond.methodLink RX6 64 arraycopyName ∈ gTbl := gT2 (i := 191) (by decide +kernel) rfl
theorem lkX3_42 : Cond.methodLink RX3 42 yX3_tell ∈ gTbl := gT2 (i := 194) (by decide +kernel) rfl
theorem lkX3_79 : Cond.methodLink RX3 79 yX6_tellCorners ∈ gTbl := gT2 (i := 198) (by decide +kernel) rfl
theorem lkX6_70 : Cond.methodLink RX6 70 yX6_cornersToldOf ∈ gTbl := gT2 (i := 202) (by decide +kernel) rfl
theorem lkX6_74 : Cond.methodLink RX6 74 Lib.Math.max.name ∈ gTbl := gT2 (i := 206) (by decide +kernel) rfl
theorem lkX3_82 : Cond.methodLink RX3 82 yX6_tellStreet ∈ gTbl := gT2 (i := 209) (by decide +kernel) rfl
theorem lkX6_84 : Cond.methodLink RX6 84 yX6_areTwoCorners ∈ gTbl := gT2 (i := 213) (by decide +kernel) rfl
theorem lkX6_80 : Cond.methodLink RX6 80 yX6_hasCorner ∈ gTbl := gT2 (i := 217) (by decide +kernel) rfl
theorem lkX3_86 : Cond.methodLink RX3 86 yX6_tellErrand ∈ gTbl := gT2 (i := 221) (by decide +kernel) rfl
theorem lkX3_90 : Cond.methodLink RX3 90 yX6_tellMust ∈ gTbl := gT2 (i := 225) (by decide +kernel) rfl
theorem lkX6_88 : Cond.methodLink RX6 88 yX6_hasStreet ∈ gTbl := gT2 (i := 229) (by decide +kernel) rfl
theorem lkL_25 : Cond.methodLink RL 25 yX10_street ∈ gTbl := gT2 (i := 233) (by decide +kernel) rfl
theorem lkX10_114 : Cond.methodLink RX10 114 yX6_hasStreet ∈ gTbl := gT2 (i := 237) (by decide +kernel) rfl
theorem lkX10_130 : Cond.methodLink RX10 130 yX10_bitOf ∈ gTbl := gT2 (i := 238) (by decide +kernel) rfl
theorem lkL_30 : Cond.methodLink RL 30 yX10_errand ∈ gTbl := gT3 (i := 1) (by decide +kernel) rfl
theorem lkX10_140 : Cond.methodLink RX10 140 yX6_hasErrand ∈ gTbl := gT3 (i := 5) (by decide +kernel) rfl
theorem lkL_34 : Cond.methodLink RL 34 yX10_set ∈ gTbl := gT3 (i := 9) (by decide +kernel) rfl
theorem lkL_38 : Cond.methodLink RL 38 yX10_point ∈ gTbl := gT3 (i := 17) (by decide +kernel) rfl
theorem lkL_43 : Cond.methodLink RL 43 yX10_shut ∈ gTbl := gT3 (i := 21) (by decide +kernel) rfl
theorem lkL_48 : Cond.methodLink RL 48 yX10_way ∈ gTbl := gT3 (i := 25) (by decide +kernel) rfl
theorem lkX10_170 : Cond.methodLink RX10 170 yX10_refusalOfMinute ∈ gTbl := gT3 (i := 29) (by decide +kernel) rfl
theorem lkX10_173 : Cond.methodLink RX10 173 yX7_takeAsItIs ∈ gTbl := gT3 (i := 33) (by decide +kernel) rfl
theorem lkX7_35 : Cond.methodLink RX7 35 yX7_openBothWays ∈ gTbl := gT3 (i := 37) (by decide +kernel) rfl
theorem lkX7_42 : Cond.methodLink RX7 42 yX7_pointAs ∈ gTbl := gT3 (i := 41) (by decide +kernel) rfl
theorem lkX10_176 : Cond.methodLink RX10 176 yX7_standAt ∈ gTbl := gT3 (i := 45) (by decide +kernel) rfl
theorem lkX10_179 : Cond.methodLink RX10 179 yX7_wayOf ∈ gTbl := gT3 (i := 49) (by decide +kernel) rfl
theorem lkX7_63 : Cond.methodLinkNest RX7 63 yX10_bitOf "OneWayTillNoon" ∈ lw_tbl := lT3 (i := 53) (by decide +kernel)
theorem lkL_52 : Cond.methodLink RL 52 yX10_soonest ∈ gTbl := gT3 (i := 54) (by decide +kernel) rfl
theorem lkX10_182 : Cond.methodLink RX10 182 yX10_refusalOfWay ∈ gTbl := gT3 (i := 58) (by decide +kernel) rfl
theorem lkX10_241 : Cond.methodLink RX10 241 yX6_hasCorner ∈ gTbl := gT3 (i := 62) (by decide +kernel) rfl
theorem lkX10_186 : Cond.methodLink RX10 186 yX8_setOut ∈ gTbl := gT3 (i := 63) (by decide +kernel) rfl
theorem lkX8_24 : Cond.methodLink RX8 24 yJ7_fill_53178 ∈ gTbl := gT3 (i := 68) (by decide +kernel) rfl
theorem lkX8_39 : Cond.methodLink RX8 39 yX8_soonestUnsettled ∈ gTbl := gT3 (i := 71) (by decide +kernel) rfl
theorem lkX8_47 : Cond.methodLinkNest RX8 47 yX10_bitOf "OneWayTillNoon" ∈ lw_tbl := lT3 (i := 75) (by decide +kernel)
theorem lkX8_43 : Cond.methodLink RX8 43 yX8_goOnFrom ∈ gTbl := gT3 (i := 76) (by decide +kernel) rfl
theorem lkX8_51 : Cond.methodLink RX8 51 yX7_standAt ∈ gTbl := gT3 (i := 80) (by decide +kernel) rfl
theorem lkX8_65 : Cond.methodLink RX8 65 yX7_entryOf ∈ gTbl := gT3 (i := 81) (by decide +kernel) rfl
theorem lkX8_68 : Cond.methodLink RX8 68 yX8_goAlong ∈ gTbl := gT3 (i := 85) (by decide +kernel) rfl
theorem lkX10_190 : Cond.methodLink RX10 190 yX8_minuteAt ∈ gTbl := gT3 (i := 89) (by decide +kernel) rfl
theorem lkL_57 : Cond.methodLink RL 57 yX10_waited ∈ gTbl := gT3 (i := 93) (by decide +kernel) rfl
theorem lkX10_193 : Cond.methodLink RX10 193 yX4_trace ∈ gTbl := gT3 (i := 97) (by decide +kernel) rfl
theorem lkX4_36 : Cond.methodLink RX4 36 yX8_setOut ∈ gTbl := gT3 (i := 101) (by decide +kernel) rfl
theorem lkX4_46 : Cond.methodLink RX4 46 yX8_minuteAt ∈ gTbl := gT3 (i := 102) (by decide +kernel) rfl
theorem lkX4_50 : Cond.methodLink RX4 50 yX4_traceBack ∈ gTbl := gT3 (i := 103) (by decide +kernel) rfl
theorem lkX4_64 : Cond.methodLink RX4 64 yX4_cameBy ∈ gTbl := gT3 (i := 107) (by decide +kernel) rfl
theorem lkX4_68 : Cond.methodLink RX4 68 yX7_standAt ∈ gTbl := gT3 (i := 111) (by decide +kernel) rfl
theorem lkX4_74 : Cond.methodLink RX4 74 yX7_entryOf ∈ gTbl := gT3 (i := 112) (by decide +kernel) rfl
theorem lkX10_196 : Cond.methodLink RX10 196 yX4_minutesWaited ∈ gTbl := gT3 (i := 113) (by decide +kernel) rfl
theorem lkL_61 : Cond.methodLink RL 61 yX10_road ∈ gTbl := gT3 (i := 117) (by decide +kernel) rfl
theorem lkX10_201 : Cond.methodLink RX10 201 yX4_streetAt ∈ gTbl := gT3 (i := 121) (by decide +kernel) rfl
theorem lkL_66 : Cond.methodLink RL 66 yX10_all ∈ gTbl := gT3 (i := 125) (by decide +kernel) rfl
theorem lkX10_204 : Cond.methodLink RX10 204 yX10_freezeAsItIs ∈ gTbl := gT3 (i := 129) (by decide +kernel) rfl
theorem lkX10_250 : Cond.methodLink RX10 250 yX0_lay ∈ gTbl := gT3 (i := 133) (by decide +kernel) rfl
theorem lkX0_25 : Cond.methodLink RX0 25 yJ7_fill_53178 ∈ gTbl := gT3 (i := 138) (by decide +kernel) rfl
theorem lkX0_31 : Cond.methodLink RX0 31 yX7_standAt ∈ gTbl := gT3 (i := 139) (by decide +kernel) rfl
theorem lkX0_43 : Cond.methodLink RX0 43 yX7_wayOf ∈ gTbl := gT3 (i := 140) (by decide +kernel) rfl
theorem lkX0_57 : Cond.methodLink RX0 57 yX0_layStep ∈ gTbl := gT3 (i := 141) (by decide +kernel) rfl
theorem lkX0_61 : Cond.methodLink RX0 61 Lib.Math.min.name ∈ gTbl := gT3 (i := 145) (by decide +kernel) rfl
theorem lkX10_306 : Cond.methodLink RX10 306 yX0_join ∈ gTbl := gT3 (i := 148) (by decide +kernel) rfl
theorem lkX0_70 : Cond.methodLink RX0 70 yX0_joinBy ∈ gTbl := gT3 (i := 152) (by decide +kernel) rfl
theorem lkX10_207 : Cond.methodLink RX10 207 yX0_pairsApart ∈ gTbl := gT3 (i := 156) (by decide +kernel) rfl
theorem lkX0_74 : Cond.methodLink RX0 74 yX0_isApart ∈ gTbl := gT3 (i := 160) (by decide +kernel) rfl
theorem lkL_70 : Cond.methodLink RL 70 yX10_longest ∈ gTbl := gT3 (i := 164) (by decide +kernel) rfl
theorem lkX10_210 : Cond.methodLink RX10 210 yX0_farthest ∈ gTbl := gT3 (i := 168) (by decide +kernel) rfl
theorem lkX0_78 : Cond.methodLink RX0 78 Lib.Math.max.name ∈ gTbl := gT3 (i := 172) (by decide +kernel) rfl
theorem lkL_74 : Cond.methodLink RL 74 yX10_apart ∈ gTbl := gT3 (i := 173) (by decide +kernel) rfl
theorem lkL_78 : Cond.methodLink RL 78 yX10_can ∈ gTbl := gT3 (i := 177) (by decide +kernel) rfl
theorem lkX10_213 : Cond.methodLink RX10 213 yX2_hangsTogether ∈ gTbl := gT3 (i := 181) (by decide +kernel) rfl
theorem lkX2_22 : Cond.methodLink RX2 22 yX2_cornersFrom ∈ gTbl := gT3 (i := 185) (by decide +kernel) rfl
theorem lkX10_217 : Cond.methodLink RX10 217 yX2_bridgeOnes ∈ gTbl := gT3 (i := 189) (by decide +kernel) rfl
theorem lkX2_41 : Cond.methodLinkNest RX2 41 yX10_bitOf "OneWayTillNoon" ∈ lw_tbl := lT3 (i := 193) (by decide +kernel)
theorem lkL_82 : Cond.methodLink RL 82 yX10_bridges ∈ gTbl := gT3 (i := 194) (by decide +kernel) rfl
theorem lkL_86 : Cond.methodLink RL 86 yX10_walk ∈ gTbl := gT3 (i := 198) (by decide +kernel) rfl
theorem lkX10_220 : Cond.methodLink RX10 220 yX2_walkThrough ∈ gTbl := gT3 (i := 202) (by decide +kernel) rfl
theorem lkX2_44 : Cond.methodLink RX2 44 yJ7_fill_53178 ∈ gTbl := gT3 (i := 206) (by decide +kernel) rfl
theorem lkX2_50 : Cond.methodLink RX2 50 yX2_otherEnd ∈ gTbl := gT3 (i := 207) (by decide +kernel) rfl
theorem lkL_90 : Cond.methodLink RL 90 yX10_cost ∈ gTbl := gT3 (i := 211) (by decide +kernel) rfl
theorem lkX10_223 : Cond.methodLink RX10 223 yX1_total ∈ gTbl := gT3 (i := 215) (by decide +kernel) rfl
theorem lkX1_20 : Cond.methodLink RX1 20 yX1_totalUpTo ∈ gTbl := gT3 (i := 220) (by decide +kernel) rfl
theorem lkX1_43 : Cond.methodLink RX1 43 yX1_minutesOf ∈ gTbl := gT3 (i := 224) (by decide +kernel) rfl
theorem lkX1_47 : Cond.methodLink RX1 47 yX8_setOut ∈ gTbl := gT3 (i := 228) (by decide +kernel) rfl
theorem lkX1_53 : Cond.methodLink RX1 53 yX8_minuteAt ∈ gTbl := gT3 (i := 229) (by decide +kernel) rfl
theorem lkL_94 : Cond.methodLink RL 94 yX10_best ∈ gTbl := gT3 (i := 230) (by decide +kernel) rfl
theorem lkX10_226 : Cond.methodLink RX10 226 yX10_refusalOfTrying ∈ gTbl := gT3 (i := 234) (by decide +kernel) rfl
theorem lkX10_229 : Cond.methodLink RX10 229 yX9_cheapestPointing ∈ gTbl := gT3 (i := 238) (by decide +kernel) rfl
theorem lkX9_38 : Cond.methodLink RX9 38 yX6_firstMustUnkept ∈ gTbl := gT4 (i := 3) (by decide +kernel) rfl
theorem lkX6_91 : Cond.methodLinkNest RX6 91 yX10_bitOf "OneWayTillNoon" ∈ lw_tbl := lT4 (i := 7) (by decide +kernel)
theorem lkX6_94 : Cond.methodLink RX6 94 yX6_mustLets ∈ gTbl := gT4 (i := 8) (by decide +kernel) rfl
theorem lkX9_42 : Cond.methodLink RX9 42 yX7_pointAs ∈ gTbl := gT4 (i := 12) (by decide +kernel) rfl
theorem lkX9_48 : Cond.methodLink RX9 48 yX1_totalUpTo ∈ gTbl := gT4 (i := 13) (by decide +kernel) rfl
theorem lkL_98 : Cond.methodLink RL 98 yX10_far ∈ gTbl := gT4 (i := 14) (by decide +kernel) rfl
theorem lkX10_232 : Cond.methodLink RX10 232 yX9_nearestPointing ∈ gTbl := gT4 (i := 18) (by decide +kernel) rfl
theorem lkX9_53 : Cond.methodLink RX9 53 yX0_lay ∈ gTbl := gT4 (i := 22) (by decide +kernel) rfl
theorem lkX9_58 : Cond.methodLink RX9 58 yX0_join ∈ gTbl := gT4 (i := 23) (by decide +kernel) rfl
theorem lkX9_61 : Cond.methodLink RX9 61 yX0_farthest ∈ gTbl := gT4 (i := 24) (by decide +kernel) rfl
theorem lkL_102 : Cond.methodLink RL 102 yX10_turning ∈ gTbl := gT4 (i := 25) (by decide +kernel) rfl
theorem lkX10_235 : Cond.methodLink RX10 235 yX9_turnedPointing ∈ gTbl := gT4 (i := 29) (by decide +kernel) rfl
theorem lkX9_68 : Cond.methodLinkNest RX9 68 yX10_bitOf "OneWayTillNoon" ∈ lw_tbl := lT4 (i := 33) (by decide +kernel)
theorem lkX9_72 : Cond.methodLink RX9 72 yX6_mustLets ∈ gTbl := gT4 (i := 34) (by decide +kernel) rfl
theorem lkL_106 : Cond.methodLink RL 106 yX10_bothWays ∈ gTbl := gT4 (i := 35) (by decide +kernel) rfl
theorem lkX10_238 : Cond.methodLink RX10 238 yX9_fewestForCost ∈ gTbl := gT4 (i := 39) (by decide +kernel) rfl
theorem lkX9_76 : Cond.methodLink RX9 76 Lib.Math.min.name ∈ gTbl := gT4 (i := 43) (by decide +kernel) rfl
theorem lkX9_81 : Cond.methodLink RX9 81 yX7_openBothWays ∈ gTbl := gT4 (i := 44) (by decide +kernel) rfl
theorem lkX9_84 : Cond.methodLink RX9 84 yX9_nextByFewest ∈ gTbl := gT4 (i := 45) (by decide +kernel) rfl
theorem lkX9_103 : Cond.methodLink RX9 103 yJ6_bitCount_0f7a4 ∈ gTbl := gT4 (i := 49) (by decide +kernel) rfl
theorem lkL_110 : Cond.methodLink RL 110 yX10_corner ∈ gTbl := gT4 (i := 55) (by decide +kernel) rfl
theorem lkL_114 : Cond.methodLink RL 114 yX10_procession ∈ gTbl := gT4 (i := 59) (by decide +kernel) rfl
theorem lkX10_253 : Cond.methodLink RX10 253 yX0_roundOfRow ∈ gTbl := gT4 (i := 63) (by decide +kernel) rfl
theorem lkL_118 : Cond.methodLink RL 118 yX10_bestNoon ∈ gTbl := gT4 (i := 67) (by decide +kernel) rfl
theorem lkX10_256 : Cond.methodLink RX10 256 yX9_cheapestNoon ∈ gTbl := gT4 (i := 71) (by decide +kernel) rfl
theorem lkX9_108 : Cond.methodLink RX9 108 yX7_turnAt ∈ gTbl := gT4 (i := 75) (by decide +kernel) rfl
theorem lkL_122 : Cond.methodLink RL 122 yX10_lives ∈ gTbl := gT4 (i := 79) (by decide +kernel) rfl
theorem lkX10_259 : Cond.methodLink RX10 259 yX1_cheapestHome ∈ gTbl := gT4 (i := 83) (by decide +kernel) rfl
theorem lkL_126 : Cond.methodLink RL 126 yX10_meets ∈ gTbl := gT4 (i := 87) (by decide +kernel) rfl
theorem lkX10_262 : Cond.methodLink RX10 262 yX10_traceErrand ∈ gTbl := gT4 (i := 91) (by decide +kernel) rfl
theorem lkX10_265 : Cond.methodLink RX10 265 yX4_crosses ∈ gTbl := gT4 (i := 95) (by decide +kernel) rfl
theorem lkL_130 : Cond.methodLink RL 130 yX10_pairs ∈ gTbl := gT4 (i := 99) (by decide +kernel) rfl
theorem lkL_134 : Cond.methodLink RL 134 yX10_lanes ∈ gTbl := gT4 (i := 103) (by decide +kernel) rfl
theorem lkX10_272 : Cond.methodLink RX10 272 yX9_fewestForReach ∈ gTbl := gT4 (i := 107) (by decide +kernel) rfl
theorem lkX9_87 : Cond.methodLink RX9 87 yX8_setOut ∈ gTbl := gT4 (i := 111) (by decide +kernel) rfl
theorem lkX9_93 : Cond.methodLink RX9 93 yX9_allReachedBy ∈ gTbl := gT4 (i := 112) (by decide +kernel) rfl
theorem lkX9_100 : Cond.methodLink RX9 100 yX8_minuteAt ∈ gTbl := gT4 (i := 116) (by decide +kernel) rfl
theorem lkL_138 : Cond.methodLink RL 138 yX10_shuts ∈ gTbl := gT4 (i := 117) (by decide +kernel) rfl
theorem lkX10_276 : Cond.methodLink RX10 276 yX7_shutAlso ∈ gTbl := gT4 (i := 122) (by decide +kernel) rfl
theorem lkL_142 : Cond.methodLink RL 142 yX10_days ∈ gTbl := gT4 (i := 126) (by decide +kernel) rfl
theorem lkX10_279 : Cond.methodLink RX10 279 yX1_totalOfDays ∈ gTbl := gT4 (i := 130) (by decide +kernel) rfl
theorem lkX1_62 : Cond.methodLink RX1 62 yX1_drawBelow ∈ gTbl := gT4 (i := 134) (by decide +kernel) rfl
theorem lkL_146 : Cond.methodLink RL 146 yX10_judge ∈ gTbl := gT4 (i := 141) (by decide +kernel) rfl
theorem lkX10_282 : Cond.methodLink RX10 282 yX6_firstMustUnkept ∈ gTbl := gT4 (i := 145) (by decide +kernel) rfl
theorem lkX10_285 : Cond.methodLink RX10 285 yX0_firstApart ∈ gTbl := gT4 (i := 146) (by decide +kernel) rfl
theorem lkL_150 : Cond.methodLink RL 150 yX10_image ∈ gTbl := gT4 (i := 150) (by decide +kernel) rfl
theorem lkX10_288 : Cond.methodLink RX10 288 yX6_takeFrom ∈ gTbl := gT4 (i := 154) (by decide +kernel) rfl
theorem lkL_154 : Cond.methodLink RL 154 yX10_on ∈ gTbl := gT4 (i := 155) (by decide +kernel) rfl
theorem lkL_158 : Cond.methodLink RL 158 yX10_count ∈ gTbl := gT4 (i := 159) (by decide +kernel) rfl
theorem lkX10_298 : Cond.methodLink RX10 298 yJ6_bitCount_0f7a4 ∈ gTbl := gT4 (i := 163) (by decide +kernel) rfl
theorem lkX10_303 : Cond.methodLink RX10 303 yX6_mustsTold ∈ gTbl := gT4 (i := 164) (by decide +kernel) rfl
theorem lkL_19 : Cond.methodLink RL 19 yX11_feed ∈ gTbl := gT5 (i := 11) (by decide +kernel) rfl
theorem lkX11_66 : Cond.methodLink RX11 66 yX11_refuse ∈ gTbl := gT5 (i := 15) (by decide +kernel) rfl
theorem lkL_24 : Cond.methodLink RL 24 yX11_town ∈ gTbl := gT5 (i := 20) (by decide +kernel) rfl
theorem lkX11_100 : Cond.methodLink RX11 100 yX11_reads ∈ gTbl := gT5 (i := 24) (by decide +kernel) rfl
theorem lkX11_93 : Cond.methodLink RX11 93 yX11_readsStatement ∈ gTbl := gT5 (i := 28) (by decide +kernel) rfl
theorem lkX11_79 : Cond.methodLink RX11 79 yX11_sign ∈ gTbl := gT5 (i := 32) (by decide +kernel) rfl
theorem lkX11_83 : Cond.methodLink RX11 83 yX11_readsNumber ∈ gTbl := gT5 (i := 36) (by decide +kernel) rfl
theorem lkX11_86 : Cond.methodLink RX11 86 yX11_takes ∈ gTbl := gT5 (i := 40) (by decide +kernel) rfl
theorem lkX11_97 : Cond.methodLink RX11 97 yX11_comes ∈ gTbl := gT5 (i := 44) (by decide +kernel) rfl
theorem lkX11_90 : Cond.methodLink RX11 90 yX11_toldOf ∈ gTbl := gT5 (i := 48) (by decide +kernel) rfl
theorem lkL_29 : Cond.methodLink RL 29 yX11_street ∈ gTbl := gT5 (i := 52) (by decide +kernel) rfl
theorem lkX11_103 : Cond.methodLink RX11 103 yX11_isStreet ∈ gTbl := gT5 (i := 56) (by decide +kernel) rfl
theorem lkX11_62 : Cond.methodLink RX11 62 yX11_isIn ∈ gTbl := gT5 (i := 60) (by decide +kernel) rfl
theorem lkX11_106 : Cond.methodLink RX11 106 yX11_get ∈ gTbl := gT5 (i := 63) (by decide +kernel) rfl
theorem lkL_33 : Cond.methodLink RL 33 yX11_errand ∈ gTbl := gT5 (i := 67) (by decide +kernel) rfl
theorem lkX11_110 : Cond.methodLink RX11 110 yX11_isErrand ∈ gTbl := gT5 (i := 71) (by decide +kernel) rfl
theorem lkX11_113 : Cond.methodLink RX11 113 yX11_of ∈ gTbl := gT5 (i := 75) (by decide +kernel) rfl
theorem lkL_37 : Cond.methodLink RL 37 yX11_set ∈ gTbl := gT5 (i := 79) (by decide +kernel) rfl
theorem lkX11_116 : Cond.methodLink RX11 116 yX11_most ∈ gTbl := gT5 (i := 83) (by decide +kernel) rfl
theorem lkX11_119 : Cond.methodLink RX11 119 yX11_within ∈ gTbl := gT5 (i := 86) (by decide +kernel) rfl
theorem lkX11_123 : Cond.methodLink RX11 123 yX11_becomes ∈ gTbl := gT5 (i := 89) (by decide +kernel) rfl
theorem lkL_42 : Cond.methodLink RL 42 yX11_point ∈ gTbl := gT5 (i := 93) (by decide +kernel) rfl
theorem lkL_47 : Cond.methodLink RL 47 yX11_shut ∈ gTbl := gT5 (i := 97) (by decide +kernel) rfl
theorem lkL_51 : Cond.methodLink RL 51 yX11_way ∈ gTbl := gT5 (i := 101) (by decide +kernel) rfl
theorem lkX11_126 : Cond.methodLink RX11 126 yX11_wayOf ∈ gTbl := gT5 (i := 105) (by decide +kernel) rfl
theorem lkL_56 : Cond.methodLink RL 56 yX11_soonest ∈ gTbl := gT5 (i := 109) (by decide +kernel) rfl
theorem lkX11_139 : Cond.methodLink RX11 139 yX11_wrongWay ∈ gTbl := gT5 (i := 113) (by decide +kernel) rfl
theorem lkX11_136 : Cond.methodLink RX11 136 yX11_isCorner ∈ gTbl := gT5 (i := 117) (by decide +kernel) rfl
theorem lkX11_142 : Cond.methodLink RX11 142 yX11_finds ∈ gTbl := gT5 (i := 121) (by decide +kernel) rfl
theorem lkX11_133 : Cond.methodLink RX11 133 yX11_enters ∈ gTbl := gT5 (i := 125) (by decide +kernel) rfl
theorem lkX11_129 : Cond.methodLink RX11 129 yX11_goesFrom ∈ gTbl := gT5 (i := 129) (by decide +kernel) rfl
theorem lkL_60 : Cond.methodLink RL 60 yX11_waited ∈ gTbl := gT5 (i := 133) (by decide +kernel) rfl
theorem lkX11_152 : Cond.methodLink RX11 152 yX11_findsRoad ∈ gTbl := gT5 (i := 137) (by decide +kernel) rfl
theorem lkL_65 : Cond.methodLink RL 65 yX11_road ∈ gTbl := gT5 (i := 141) (by decide +kernel) rfl
theorem lkL_69 : Cond.methodLink RL 69 yX11_all ∈ gTbl := gT5 (i := 145) (by decide +kernel) rfl
theorem lkX11_160 : Cond.methodLink RX11 160 yX11_apartAt ∈ gTbl := gT5 (i := 149) (by decide +kernel) rfl
theorem lkX11_156 : Cond.methodLink RX11 156 yX11_findsFar ∈ gTbl := gT5 (i := 153) (by decide +kernel) rfl
theorem lkL_73 : Cond.methodLink RL 73 yX11_longest ∈ gTbl := gT5 (i := 158) (by decide +kernel) rfl
theorem lkX11_163 : Cond.methodLink RX11 163 yX11_longestAt ∈ gTbl := gT5 (i := 162) (by decide +kernel) rfl
theorem lkL_77 : Cond.methodLink RL 77 yX11_apart ∈ gTbl := gT5 (i := 166) (by decide +kernel) rfl
theorem lkL_81 : Cond.methodLink RL 81 yX11_can ∈ gTbl := gT5 (i := 170) (by decide +kernel) rfl
theorem lkX11_166 : Cond.methodLink RX11 166 yX11_hang ∈ gTbl := gT5 (i := 174) (by decide +kernel) rfl
theorem lkX11_172 : Cond.methodLink RX11 172 yX11_bridgeBits ∈ gTbl := gT5 (i := 178) (by decide +kernel) rfl
theorem lkX11_169 : Cond.methodLink RX11 169 yX11_isBridge ∈ gTbl := gT5 (i := 182) (by decide +kernel) rfl
theorem lkL_85 : Cond.methodLink RL 85 yX11_bridges ∈ gTbl := gT5 (i := 186) (by decide +kernel) rfl
theorem lkL_89 : Cond.methodLink RL 89 yX11_walk ∈ gTbl := gT5 (i := 190) (by decide +kernel) rfl
theorem lkX11_184 : Cond.methodLink RX11 184 yX11_walks ∈ gTbl := gT5 (i := 194) (by decide +kernel) rfl
theorem lkL_93 : Cond.methodLink RL 93 yX11_cost ∈ gTbl := gT5 (i := 198) (by decide +kernel) rfl
theorem lkX11_187 : Cond.methodLink RX11 187 yX11_costOf ∈ gTbl := gT5 (i := 202) (by decide +kernel) rfl
theorem lkL_97 : Cond.methodLink RL 97 yX11_best ∈ gTbl := gT5 (i := 206) (by decide +kernel) rfl
theorem lkX11_193 : Cond.methodLink RX11 193 yX11_wrongFew ∈ gTbl := gT5 (i := 210) (by decide +kernel) rfl
theorem lkX11_196 : Cond.methodLink RX11 196 yX11_bestOf ∈ gTbl := gT5 (i := 214) (by decide +kernel) rfl
theorem lkX11_190 : Cond.methodLink RX11 190 yX11_keepsMusts ∈ gTbl := gT5 (i := 218) (by decide +kernel) rfl
theorem lkL_101 : Cond.methodLink RL 101 yX11_far ∈ gTbl := gT5 (i := 222) (by decide +kernel) rfl
theorem lkL_105 : Cond.methodLink RL 105 yX11_turning ∈ gTbl := gT5 (i := 226) (by decide +kernel) rfl
theorem lkL_109 : Cond.methodLink RL 109 yX11_bothWays ∈ gTbl := gT5 (i := 230) (by decide +kernel) rfl
theorem lkX11_200 : Cond.methodLink RX11 200 yX11_bits ∈ gTbl := gT5 (i := 234) (by decide +kernel) rfl
theorem lkL_113 : Cond.methodLink RL 113 yX11_corner ∈ gTbl := gT5 (i := 237) (by decide +kernel) rfl
theorem lkL_117 : Cond.methodLink RL 117 yX11_procession ∈ gTbl := gT6 (i := 1) (by decide +kernel) rfl
theorem lkX11_203 : Cond.methodLink RX11 203 yX11_along ∈ gTbl := gT6 (i := 5) (by decide +kernel) rfl
theorem lkL_121 : Cond.methodLink RL 121 yX11_bestNoon ∈ gTbl := gT6 (i := 9) (by decide +kernel) rfl
theorem lkL_125 : Cond.methodLink RL 125 yX11_lives ∈ gTbl := gT6 (i := 13) (by decide +kernel) rfl
theorem lkL_129 : Cond.methodLink RL 129 yX11_meets ∈ gTbl := gT6 (i := 17) (by decide +kernel) rfl
theorem lkX11_209 : Cond.methodLink RX11 209 yX11_areMet ∈ gTbl := gT6 (i := 21) (by decide +kernel) rfl
theorem lkX11_206 : Cond.methodLink RX11 206 yX11_stays ∈ gTbl := gT6 (i := 25) (by decide +kernel) rfl
theorem lkL_133 : Cond.methodLink RL 133 yX11_pairs ∈ gTbl := gT6 (i := 29) (by decide +kernel) rfl
theorem lkL_137 : Cond.methodLink RL 137 yX11_lanes ∈ gTbl := gT6 (i := 33) (by decide +kernel) rfl
theorem lkX11_212 : Cond.methodLink RX11 212 yX11_isReached ∈ gTbl := gT6 (i := 37) (by decide +kernel) rfl
theorem lkL_141 : Cond.methodLink RL 141 yX11_shuts ∈ gTbl := gT6 (i := 41) (by decide +kernel) rfl
theorem lkL_145 : Cond.methodLink RL 145 yX11_days ∈ gTbl := gT6 (i := 45) (by decide +kernel) rfl
theorem lkL_149 : Cond.methodLink RL 149 yX11_judge ∈ gTbl := gT6 (i := 52) (by decide +kernel) rfl
theorem lkL_153 : Cond.methodLink RL 153 yX11_image ∈ gTbl := gT6 (i := 56) (by decide +kernel) rfl
theorem lkL_157 : Cond.methodLink RL 157 yX11_on ∈ gTbl := gT6 (i := 60) (by decide +kernel) rfl
theorem lkL_161 : Cond.methodLink RL 161 yX11_count ∈ gTbl := gT6 (i := 64) (by decide +kernel) rfl
