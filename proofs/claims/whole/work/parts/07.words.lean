/-! words: which of the tables' words say what -/
theorem tb_in {i : Nat} {w : Cond} (h : tables_1[i]? = some w) (hg : goodWord w = true) : w ∈ gw := gw_in (List.mem_append_right _ (List.mem_of_getElem? h)) hg
theorem tb_nw {i : Nat} {w : Cond} (h : tables_1[i]? = some w) (hg : isNest w = true) : w ∈ nw := nw_in (List.mem_append_right _ (List.mem_of_getElem? h)) hg
theorem pv_in {i : Nat} {w : Cond} (h : (k2_sels lw_privs)[i]? = some w) (hg : goodWord w = true) : w ∈ gw := gw_in (List.mem_append_left _ (List.mem_of_getElem? h)) hg
theorem ini_X0 : Cond.initialized RX0 ∈ gw := tb_in (i := 8) (by decide +kernel) (by decide +kernel)
theorem ini_X1 : Cond.initialized RX1 ∈ gw := tb_in (i := 5) (by decide +kernel) (by decide +kernel)
theorem ini_X2 : Cond.initialized RX2 ∈ gw := tb_in (i := 4) (by decide +kernel) (by decide +kernel)
theorem ini_X3 : Cond.initialized RX3 ∈ gw := tb_in (i := 2) (by decide +kernel) (by decide +kernel)
theorem ini_X4 : Cond.initialized RX4 ∈ gw := tb_in (i := 7) (by decide +kernel) (by decide +kernel)
theorem ini_X5 : Cond.initialized RX5 ∈ gw := tb_in (i := 3) (by decide +kernel) (by decide +kernel)
theorem ini_X6 : Cond.initialized RX6 ∈ gw := tb_in (i := 6) (by decide +kernel) (by decide +kernel)
theorem ini_X7 : Cond.initialized RX7 ∈ gw := tb_in (i := 1) (by decide +kernel) (by decide +kernel)
theorem ini_X8 : Cond.initialized RX8 ∈ gw := tb_in (i := 9) (by decide +kernel) (by decide +kernel)
theorem ini_J6 : Cond.initialized RJ6 ∈ gw := tb_in (i := 11) (by decide +kernel) (by decide +kernel)
theorem ini_J13 : Cond.initialized RJ13 ∈ gw := tb_in (i := 10) (by decide +kernel) (by decide +kernel)
theorem ini_J9 : Cond.initialized RJ9 ∈ gw := tb_in (i := 13) (by decide +kernel) (by decide +kernel)
theorem ini_J10 : Cond.initialized RJ10 ∈ gw := tb_in (i := 12) (by decide +kernel) (by decide +kernel)
theorem ini_L : Cond.initialized RL ∈ gw := tb_in (i := 0) (by decide +kernel) (by decide +kernel)
def nX7_init : MN := (yX7_init, cX7_init, 1, none)
theorem moX7_init : MOk nX7_init 0 := ⟨ini_X7, tb_in (i := 18) (by decide +kernel) (by decide +kernel), by decide +kernel, by decide⟩
def nX3_init : MN := (yX3_init, cX3_init, 1, none)
theorem moX3_init : MOk nX3_init 0 := ⟨ini_X3, tb_in (i := 26) (by decide +kernel) (by decide +kernel), by decide +kernel, by decide⟩
def nX5_init : MN := (yX5_init, cX5_init, 1, none)
theorem moX5_init : MOk nX5_init 0 := ⟨ini_X5, tb_in (i := 32) (by decide +kernel) (by decide +kernel), by decide +kernel, by decide⟩
def nX2_init : MN := (yX2_init, cX2_init, 2, none)
theorem moX2_init : MOk nX2_init 0 := ⟨ini_X2, tb_in (i := 79) (by decide +kernel) (by decide +kernel), by decide +kernel, by decide⟩
def nX1_init : MN := (yX1_init, cX1_init, 1, none)
theorem moX1_init : MOk nX1_init 0 := ⟨ini_X1, tb_in (i := 86) (by decide +kernel) (by decide +kernel), by decide +kernel, by decide⟩
def nX6_init : MN := (yX6_init, cX6_init, 1, none)
theorem moX6_init : MOk nX6_init 0 := ⟨ini_X6, tb_in (i := 126) (by decide +kernel) (by decide +kernel), by decide +kernel, by decide⟩
def nX4_init : MN := (yX4_init, cX4_init, 4, none)
theorem moX4_init : MOk nX4_init 3 := ⟨ini_X4, tb_in (i := 157) (by decide +kernel) (by decide +kernel), by decide +kernel, by decide⟩
def nX0_init : MN := (yX0_init, cX0_init, 3, none)
theorem moX0_init : MOk nX0_init 2 := ⟨ini_X0, tb_in (i := 185) (by decide +kernel) (by decide +kernel), by decide +kernel, by decide⟩
def nX7_name : MN := (yX7_name, cX7_name, 3, (some .int))
theorem moX7_name : MOk nX7_name 2 := ⟨ini_X7, tb_in (i := 219) (by decide +kernel) (by decide +kernel), by decide +kernel, by decide⟩
theorem voX7_name : VOk nX7_name 7 := ⟨tb_in (i := 217) (by decide +kernel) (by decide +kernel), tb_in (i := 218) (by decide +kernel) (by decide +kernel), _, rfl, by decide +kernel⟩
def nX7_isNumber : MN := (yX7_isNumber, cX7_isNumber, 1, (some .boolean))
theorem moX7_isNumber : MOk nX7_isNumber 1 := ⟨ini_X7, tb_in (i := 222) (by decide +kernel) (by decide +kernel), by decide +kernel, by decide⟩
theorem stX7_isNumber : Cond.static nX7_isNumber.1 ∈ gw := tb_in (i := 221) (by decide +kernel) (by decide +kernel)
def nX3_add : MN := (yX3_add, cX3_add, 7, none)
theorem moX3_add : MOk nX3_add 2 := ⟨ini_X3, tb_in (i := 226) (by decide +kernel) (by decide +kernel), by decide +kernel, by decide⟩
theorem voX3_add : VOk nX3_add 3 := ⟨tb_in (i := 224) (by decide +kernel) (by decide +kernel), tb_in (i := 225) (by decide +kernel) (by decide +kernel), _, rfl, by decide +kernel⟩
def nX5_fit : MN := (yX5_fit, cX5_fit, 4, none)
theorem moX5_fit : MOk nX5_fit 2 := ⟨ini_X5, tb_in (i := 231) (by decide +kernel) (by decide +kernel), by decide +kernel, by decide⟩
theorem voX5_fit : VOk nX5_fit 5 := ⟨tb_in (i := 229) (by decide +kernel) (by decide +kernel), tb_in (i := 230) (by decide +kernel) (by decide +kernel), _, rfl, by decide +kernel⟩
def nX7_leastOf : MN := (yX7_leastOf, cX7_leastOf, 2, (some .int))
theorem moX7_leastOf : MOk nX7_leastOf 1 := ⟨ini_X7, tb_in (i := 234) (by decide +kernel) (by decide +kernel), by decide +kernel, by decide⟩
theorem stX7_leastOf : Cond.static nX7_leastOf.1 ∈ gw := tb_in (i := 233) (by decide +kernel) (by decide +kernel)
def nJ13_numberOfTrailingZeros_95d88 : MN := (yJ13_numberOfTrailingZeros_95d88, cJ13_numberOfTrailingZeros_95d88, 3, (some .int))
theorem moJ13_numberOfTrailingZeros_95d88 : MOk nJ13_numberOfTrailingZeros_95d88 1 := ⟨ini_J13, tb_in (i := 237) (by decide +kernel) (by decide +kernel), by decide +kernel, by decide⟩
theorem stJ13_numberOfTrailingZeros_95d88 : Cond.static nJ13_numberOfTrailingZeros_95d88.1 ∈ gw := tb_in (i := 236) (by decide +kernel) (by decide +kernel)
def nJ6_numberOfTrailingZeros_0f7a4 : MN := (yJ6_numberOfTrailingZeros_0f7a4, cJ6_numberOfTrailingZeros_0f7a4, 2, (some .int))
theorem moJ6_numberOfTrailingZeros_0f7a4 : MOk nJ6_numberOfTrailingZeros_0f7a4 1 := ⟨ini_J6, tb_in (i := 240) (by decide +kernel) (by decide +kernel), by decide +kernel, by decide⟩
theorem stJ6_numberOfTrailingZeros_0f7a4 : Cond.static nJ6_numberOfTrailingZeros_0f7a4.1 ∈ gw := tb_in (i := 239) (by decide +kernel) (by decide +kernel)
def nX7_mostOf : MN := (yX7_mostOf, cX7_mostOf, 2, (some .int))
theorem moX7_mostOf : MOk nX7_mostOf 1 := ⟨ini_X7, tb_in (i := 244) (by decide +kernel) (by decide +kernel), by decide +kernel, by decide⟩
theorem stX7_mostOf : Cond.static nX7_mostOf.1 ∈ gw := tb_in (i := 243) (by decide +kernel) (by decide +kernel)
def nJ13_numberOfLeadingZeros_95d88 : MN := (yJ13_numberOfLeadingZeros_95d88, cJ13_numberOfLeadingZeros_95d88, 3, (some .int))
theorem moJ13_numberOfLeadingZeros_95d88 : MOk nJ13_numberOfLeadingZeros_95d88 1 := ⟨ini_J13, tb_in (i := 247) (by decide +kernel) (by decide +kernel), by decide +kernel, by decide⟩
theorem stJ13_numberOfLeadingZeros_95d88 : Cond.static nJ13_numberOfLeadingZeros_95d88.1 ∈ gw := tb_in (i := 246) (by decide +kernel) (by decide +kernel)
def nJ6_numberOfLeadingZeros_0f7a4 : MN := (yJ6_numberOfLeadingZeros_0f7a4, cJ6_numberOfLeadingZeros_0f7a4, 2, (some .int))
theorem moJ6_numberOfLeadingZeros_0f7a4 : MOk nJ6_numberOfLeadingZeros_0f7a4 1 := ⟨ini_J6, tb_in (i := 250) (by decide +kernel) (by decide +kernel), by decide +kernel, by decide⟩
theorem stJ6_numberOfLeadingZeros_0f7a4 : Cond.static nJ6_numberOfLeadingZeros_0f7a4.1 ∈ gw := tb_in (i := 249) (by decide +kernel) (by decide +kernel)
def nX7_beginAnew : MN := (yX7_beginAnew, cX7_beginAnew, 1, none)
theorem moX7_beginAnew : MOk nX7_beginAnew 0 := ⟨ini_X7, tb_in (i := 254) (by decide +kernel) (by decide +kernel), by decide +kernel, by decide⟩
theorem voX7_beginAnew : VOk nX7_beginAnew 7 := ⟨tb_in (i := 253) (by decide +kernel) (by decide +kernel), pv_in (i := 0) (by decide +kernel) (by decide +kernel), _, rfl, by decide +kernel⟩
def nX3_restore : MN := (yX3_restore, cX3_restore, 1, none)
theorem moX3_restore : MOk nX3_restore 0 := ⟨ini_X3, tb_in (i := 258) (by decide +kernel) (by decide +kernel), by decide +kernel, by decide⟩
theorem voX3_restore : VOk nX3_restore 3 := ⟨tb_in (i := 256) (by decide +kernel) (by decide +kernel), tb_in (i := 257) (by decide +kernel) (by decide +kernel), _, rfl, by decide +kernel⟩
def nX5_copy : MN := (yX5_copy, cX5_copy, 2, none)
theorem moX5_copy : MOk nX5_copy 1 := ⟨ini_X5, tb_in (i := 265) (by decide +kernel) (by decide +kernel), by decide +kernel, by decide⟩
theorem voX5_copy : VOk nX5_copy 5 := ⟨tb_in (i := 263) (by decide +kernel) (by decide +kernel), tb_in (i := 264) (by decide +kernel) (by decide +kernel), _, rfl, by decide +kernel⟩
def nX4_forget : MN := (yX4_forget, cX4_forget, 1, none)
theorem moX4_forget : MOk nX4_forget 0 := ⟨ini_X4, tb_in (i := 270) (by decide +kernel) (by decide +kernel), by decide +kernel, by decide⟩
theorem voX4_forget : VOk nX4_forget 4 := ⟨tb_in (i := 268) (by decide +kernel) (by decide +kernel), tb_in (i := 269) (by decide +kernel) (by decide +kernel), _, rfl, by decide +kernel⟩
def nX7_leave : MN := (yX7_leave, cX7_leave, 5, (some .int))
theorem moX7_leave : MOk nX7_leave 2 := ⟨ini_X7, tb_in (i := 274) (by decide +kernel) (by decide +kernel), by decide +kernel, by decide⟩
theorem voX7_leave : VOk nX7_leave 7 := ⟨tb_in (i := 272) (by decide +kernel) (by decide +kernel), tb_in (i := 273) (by decide +kernel) (by decide +kernel), _, rfl, by decide +kernel⟩
def nX7_isName : MN := (yX7_isName, cX7_isName, 2, (some .boolean))
theorem moX7_isName : MOk nX7_isName 1 := ⟨ini_X7, tb_in (i := 278) (by decide +kernel) (by decide +kernel), by decide +kernel, by decide⟩
theorem voX7_isName : VOk nX7_isName 7 := ⟨tb_in (i := 277) (by decide +kernel) (by decide +kernel), pv_in (i := 1) (by decide +kernel) (by decide +kernel), _, rfl, by decide +kernel⟩
def nX7_bitOf : MN := (yX7_bitOf, cX7_bitOf, 1, (some .long))
theorem moX7_bitOf : MOk nX7_bitOf 1 := ⟨ini_X7, tb_in (i := 281) (by decide +kernel) (by decide +kernel), by decide +kernel, by decide⟩
theorem stX7_bitOf : Cond.static nX7_bitOf.1 ∈ gw := tb_in (i := 280) (by decide +kernel) (by decide +kernel)
def nX3_leaveOut : MN := (yX3_leaveOut, cX3_leaveOut, 3, none)
theorem moX3_leaveOut : MOk nX3_leaveOut 2 := ⟨ini_X3, tb_in (i := 285) (by decide +kernel) (by decide +kernel), by decide +kernel, by decide⟩
theorem voX3_leaveOut : VOk nX3_leaveOut 3 := ⟨tb_in (i := 283) (by decide +kernel) (by decide +kernel), tb_in (i := 284) (by decide +kernel) (by decide +kernel), _, rfl, by decide +kernel⟩
def nX7_hasBit : MN := (yX7_hasBit, cX7_hasBit, 3, (some .boolean))
theorem moX7_hasBit : MOk nX7_hasBit 2 := ⟨ini_X7, tb_in (i := 289) (by decide +kernel) (by decide +kernel), by decide +kernel, by decide⟩
theorem stX7_hasBit : Cond.static nX7_hasBit.1 ∈ gw := tb_in (i := 288) (by decide +kernel) (by decide +kernel)
def nX7_row : MN := (yX7_row, cX7_row, 8, (some .int))
theorem moX7_row : MOk nX7_row 5 := ⟨ini_X7, tb_in (i := 293) (by decide +kernel) (by decide +kernel), by decide +kernel, by decide⟩
theorem voX7_row : VOk nX7_row 7 := ⟨tb_in (i := 291) (by decide +kernel) (by decide +kernel), tb_in (i := 292) (by decide +kernel) (by decide +kernel), _, rfl, by decide +kernel⟩
def nX7_areDifferentNames : MN := (yX7_areDifferentNames, cX7_areDifferentNames, 5, (some .boolean))
theorem moX7_areDifferentNames : MOk nX7_areDifferentNames 4 := ⟨ini_X7, tb_in (i := 299) (by decide +kernel) (by decide +kernel), by decide +kernel, by decide⟩
theorem voX7_areDifferentNames : VOk nX7_areDifferentNames 7 := ⟨tb_in (i := 298) (by decide +kernel) (by decide +kernel), pv_in (i := 2) (by decide +kernel) (by decide +kernel), _, rfl, by decide +kernel⟩
def nX1_become : MN := (yX1_become, cX1_become, 4, none)
theorem moX1_become : MOk nX1_become 2 := ⟨ini_X1, tb_in (i := 303) (by decide +kernel) (by decide +kernel), by decide +kernel, by decide⟩
theorem voX1_become : VOk nX1_become 1 := ⟨tb_in (i := 301) (by decide +kernel) (by decide +kernel), tb_in (i := 302) (by decide +kernel) (by decide +kernel), _, rfl, by decide +kernel⟩
def nX1_tie : MN := (yX1_tie, cX1_tie, 4, none)
theorem moX1_tie : MOk nX1_tie 3 := ⟨ini_X1, tb_in (i := 307) (by decide +kernel) (by decide +kernel), by decide +kernel, by decide⟩
theorem voX1_tie : VOk nX1_tie 1 := ⟨tb_in (i := 305) (by decide +kernel) (by decide +kernel), tb_in (i := 306) (by decide +kernel) (by decide +kernel), _, rfl, by decide +kernel⟩
def nX7_factor : MN := (yX7_factor, cX7_factor, 6, (some .int))
theorem moX7_factor : MOk nX7_factor 3 := ⟨ini_X7, tb_in (i := 311) (by decide +kernel) (by decide +kernel), by decide +kernel, by decide⟩
theorem voX7_factor : VOk nX7_factor 7 := ⟨tb_in (i := 309) (by decide +kernel) (by decide +kernel), tb_in (i := 310) (by decide +kernel) (by decide +kernel), _, rfl, by decide +kernel⟩
def nX7_isRow : MN := (yX7_isRow, cX7_isRow, 2, (some .boolean))
theorem moX7_isRow : MOk nX7_isRow 1 := ⟨ini_X7, tb_in (i := 315) (by decide +kernel) (by decide +kernel), by decide +kernel, by decide⟩
theorem voX7_isRow : VOk nX7_isRow 7 := ⟨tb_in (i := 314) (by decide +kernel) (by decide +kernel), pv_in (i := 3) (by decide +kernel) (by decide +kernel), _, rfl, by decide +kernel⟩
def nX1_hasFactors : MN := (yX1_hasFactors, cX1_hasFactors, 1, (some .boolean))
theorem moX1_hasFactors : MOk nX1_hasFactors 0 := ⟨ini_X1, tb_in (i := 319) (by decide +kernel) (by decide +kernel), by decide +kernel, by decide⟩
theorem voX1_hasFactors : VOk nX1_hasFactors 1 := ⟨tb_in (i := 317) (by decide +kernel) (by decide +kernel), tb_in (i := 318) (by decide +kernel) (by decide +kernel), _, rfl, by decide +kernel⟩
def nX7_clear : MN := (yX7_clear, cX7_clear, 2, (some .int))
theorem moX7_clear : MOk nX7_clear 0 := ⟨ini_X7, tb_in (i := 323) (by decide +kernel) (by decide +kernel), by decide +kernel, by decide⟩
theorem voX7_clear : VOk nX7_clear 7 := ⟨tb_in (i := 321) (by decide +kernel) (by decide +kernel), tb_in (i := 322) (by decide +kernel) (by decide +kernel), _, rfl, by decide +kernel⟩
def nX7_run : MN := (yX7_run, cX7_run, 6, (some .int))
theorem moX7_run : MOk nX7_run 2 := ⟨ini_X7, tb_in (i := 327) (by decide +kernel) (by decide +kernel), by decide +kernel, by decide⟩
theorem voX7_run : VOk nX7_run 7 := ⟨tb_in (i := 325) (by decide +kernel) (by decide +kernel), tb_in (i := 326) (by decide +kernel) (by decide +kernel), _, rfl, by decide +kernel⟩
def nX4_doOne : MN := (yX4_doOne, cX4_doOne, 5, none)
theorem moX4_doOne : MOk nX4_doOne 1 := ⟨ini_X4, tb_in (i := 331) (by decide +kernel) (by decide +kernel), by decide +kernel, by decide⟩
theorem voX4_doOne : VOk nX4_doOne 4 := ⟨tb_in (i := 329) (by decide +kernel) (by decide +kernel), tb_in (i := 330) (by decide +kernel) (by decide +kernel), _, rfl, by decide +kernel⟩
def nX1_isAbout : MN := (yX1_isAbout, cX1_isAbout, 2, (some .boolean))
theorem moX1_isAbout : MOk nX1_isAbout 1 := ⟨ini_X1, tb_in (i := 335) (by decide +kernel) (by decide +kernel), by decide +kernel, by decide⟩
theorem voX1_isAbout : VOk nX1_isAbout 1 := ⟨tb_in (i := 333) (by decide +kernel) (by decide +kernel), tb_in (i := 334) (by decide +kernel) (by decide +kernel), _, rfl, by decide +kernel⟩
def nX4_sift : MN := (yX4_sift, cX4_sift, 9, none)
theorem moX4_sift : MOk nX4_sift 2 := ⟨ini_X4, tb_in (i := 339) (by decide +kernel) (by decide +kernel), by decide +kernel, by decide⟩
theorem voX4_sift : VOk nX4_sift 4 := ⟨tb_in (i := 338) (by decide +kernel) (by decide +kernel), pv_in (i := 4) (by decide +kernel) (by decide +kernel), _, rfl, by decide +kernel⟩
def nX1_endOfOthers : MN := (yX1_endOfOthers, cX1_endOfOthers, 8, (some .int))
theorem moX1_endOfOthers : MOk nX1_endOfOthers 3 := ⟨ini_X1, tb_in (i := 343) (by decide +kernel) (by decide +kernel), by decide +kernel, by decide⟩
theorem voX1_endOfOthers : VOk nX1_endOfOthers 1 := ⟨tb_in (i := 341) (by decide +kernel) (by decide +kernel), tb_in (i := 342) (by decide +kernel) (by decide +kernel), _, rfl, by decide +kernel⟩
def nX5_covers : MN := (yX5_covers, cX5_covers, 3, (some .boolean))
theorem moX5_covers : MOk nX5_covers 2 := ⟨ini_X5, tb_in (i := 347) (by decide +kernel) (by decide +kernel), by decide +kernel, by decide⟩
theorem voX5_covers : VOk nX5_covers 5 := ⟨tb_in (i := 345) (by decide +kernel) (by decide +kernel), tb_in (i := 346) (by decide +kernel) (by decide +kernel), _, rfl, by decide +kernel⟩
def nX5_isOnly : MN := (yX5_isOnly, cX5_isOnly, 3, (some .boolean))
theorem moX5_isOnly : MOk nX5_isOnly 2 := ⟨ini_X5, tb_in (i := 351) (by decide +kernel) (by decide +kernel), by decide +kernel, by decide⟩
theorem voX5_isOnly : VOk nX5_isOnly 5 := ⟨tb_in (i := 349) (by decide +kernel) (by decide +kernel), tb_in (i := 350) (by decide +kernel) (by decide +kernel), _, rfl, by decide +kernel⟩
def nX1_allows : MN := (yX1_allows, cX1_allows, 7, (some .boolean))
theorem moX1_allows : MOk nX1_allows 5 := ⟨ini_X1, tb_in (i := 356) (by decide +kernel) (by decide +kernel), by decide +kernel, by decide⟩
theorem voX1_allows : VOk nX1_allows 1 := ⟨tb_in (i := 354) (by decide +kernel) (by decide +kernel), tb_in (i := 355) (by decide +kernel) (by decide +kernel), _, rfl, by decide +kernel⟩
def nX1_allowsProduct : MN := (yX1_allowsProduct, cX1_allowsProduct, 4, (some .boolean))
theorem moX1_allowsProduct : MOk nX1_allowsProduct 2 := ⟨ini_X1, tb_in (i := 360) (by decide +kernel) (by decide +kernel), by decide +kernel, by decide⟩
theorem voX1_allowsProduct : VOk nX1_allowsProduct 1 := ⟨tb_in (i := 359) (by decide +kernel) (by decide +kernel), pv_in (i := 5) (by decide +kernel) (by decide +kernel), _, rfl, by decide +kernel⟩
def nX1_allowsMultiplier : MN := (yX1_allowsMultiplier, cX1_allowsMultiplier, 8, (some .boolean))
theorem moX1_allowsMultiplier : MOk nX1_allowsMultiplier 3 := ⟨ini_X1, tb_in (i := 364) (by decide +kernel) (by decide +kernel), by decide +kernel, by decide⟩
theorem voX1_allowsMultiplier : VOk nX1_allowsMultiplier 1 := ⟨tb_in (i := 363) (by decide +kernel) (by decide +kernel), pv_in (i := 6) (by decide +kernel) (by decide +kernel), _, rfl, by decide +kernel⟩
def nJ9_abs_0f7a4 : MN := (yJ9_abs_0f7a4, cJ9_abs_0f7a4, 1, (some .int))
theorem moJ9_abs_0f7a4 : MOk nJ9_abs_0f7a4 1 := ⟨ini_J9, tb_in (i := 367) (by decide +kernel) (by decide +kernel), by decide +kernel, by decide⟩
theorem stJ9_abs_0f7a4 : Cond.static nJ9_abs_0f7a4.1 ∈ gw := tb_in (i := 366) (by decide +kernel) (by decide +kernel)
def nJ9_floorDiv_7cf53 : MN := (yJ9_floorDiv_7cf53, cJ9_floorDiv_7cf53, 3, (some .int))
theorem moJ9_floorDiv_7cf53 : MOk nJ9_floorDiv_7cf53 2 := ⟨ini_J9, tb_in (i := 370) (by decide +kernel) (by decide +kernel), by decide +kernel, by decide⟩
theorem stJ9_floorDiv_7cf53 : Cond.static nJ9_floorDiv_7cf53.1 ∈ gw := tb_in (i := 369) (by decide +kernel) (by decide +kernel)
def nX5_meets : MN := (yX5_meets, cX5_meets, 4, (some .boolean))
theorem moX5_meets : MOk nX5_meets 3 := ⟨ini_X5, tb_in (i := 374) (by decide +kernel) (by decide +kernel), by decide +kernel, by decide⟩
theorem voX5_meets : VOk nX5_meets 5 := ⟨tb_in (i := 372) (by decide +kernel) (by decide +kernel), tb_in (i := 373) (by decide +kernel) (by decide +kernel), _, rfl, by decide +kernel⟩
def nX1_allowsQuotient : MN := (yX1_allowsQuotient, cX1_allowsQuotient, 6, (some .boolean))
theorem moX1_allowsQuotient : MOk nX1_allowsQuotient 2 := ⟨ini_X1, tb_in (i := 378) (by decide +kernel) (by decide +kernel), by decide +kernel, by decide⟩
theorem voX1_allowsQuotient : VOk nX1_allowsQuotient 1 := ⟨tb_in (i := 377) (by decide +kernel) (by decide +kernel), pv_in (i := 7) (by decide +kernel) (by decide +kernel), _, rfl, by decide +kernel⟩
def nX1_allowsDividend : MN := (yX1_allowsDividend, cX1_allowsDividend, 4, (some .boolean))
theorem moX1_allowsDividend : MOk nX1_allowsDividend 2 := ⟨ini_X1, tb_in (i := 382) (by decide +kernel) (by decide +kernel), by decide +kernel, by decide⟩
theorem voX1_allowsDividend : VOk nX1_allowsDividend 1 := ⟨tb_in (i := 381) (by decide +kernel) (by decide +kernel), pv_in (i := 8) (by decide +kernel) (by decide +kernel), _, rfl, by decide +kernel⟩
def nX1_allowsDivisor : MN := (yX1_allowsDivisor, cX1_allowsDivisor, 5, (some .boolean))
theorem moX1_allowsDivisor : MOk nX1_allowsDivisor 2 := ⟨ini_X1, tb_in (i := 386) (by decide +kernel) (by decide +kernel), by decide +kernel, by decide⟩
theorem voX1_allowsDivisor : VOk nX1_allowsDivisor 1 := ⟨tb_in (i := 385) (by decide +kernel) (by decide +kernel), pv_in (i := 9) (by decide +kernel) (by decide +kernel), _, rfl, by decide +kernel⟩
def nJ9_min_7cf53 : MN := (yJ9_min_7cf53, cJ9_min_7cf53, 2, (some .int))
theorem moJ9_min_7cf53 : MOk nJ9_min_7cf53 2 := ⟨ini_J9, tb_in (i := 389) (by decide +kernel) (by decide +kernel), by decide +kernel, by decide⟩
theorem stJ9_min_7cf53 : Cond.static nJ9_min_7cf53.1 ∈ gw := tb_in (i := 388) (by decide +kernel) (by decide +kernel)
def nJ9_max_7cf53 : MN := (yJ9_max_7cf53, cJ9_max_7cf53, 2, (some .int))
theorem moJ9_max_7cf53 : MOk nJ9_max_7cf53 2 := ⟨ini_J9, tb_in (i := 392) (by decide +kernel) (by decide +kernel), by decide +kernel, by decide⟩
theorem stJ9_max_7cf53 : Cond.static nJ9_max_7cf53.1 ∈ gw := tb_in (i := 391) (by decide +kernel) (by decide +kernel)
def nX1_allowsGreatest : MN := (yX1_allowsGreatest, cX1_allowsGreatest, 3, (some .boolean))
theorem moX1_allowsGreatest : MOk nX1_allowsGreatest 2 := ⟨ini_X1, tb_in (i := 396) (by decide +kernel) (by decide +kernel), by decide +kernel, by decide⟩
theorem voX1_allowsGreatest : VOk nX1_allowsGreatest 1 := ⟨tb_in (i := 395) (by decide +kernel) (by decide +kernel), pv_in (i := 10) (by decide +kernel) (by decide +kernel), _, rfl, by decide +kernel⟩
def nX1_allowsBesideGreatest : MN := (yX1_allowsBesideGreatest, cX1_allowsBesideGreatest, 4, (some .boolean))
theorem moX1_allowsBesideGreatest : MOk nX1_allowsBesideGreatest 3 := ⟨ini_X1, tb_in (i := 400) (by decide +kernel) (by decide +kernel), by decide +kernel, by decide⟩
theorem voX1_allowsBesideGreatest : VOk nX1_allowsBesideGreatest 1 := ⟨tb_in (i := 399) (by decide +kernel) (by decide +kernel), pv_in (i := 11) (by decide +kernel) (by decide +kernel), _, rfl, by decide +kernel⟩
def nX1_allowsLeast : MN := (yX1_allowsLeast, cX1_allowsLeast, 3, (some .boolean))
theorem moX1_allowsLeast : MOk nX1_allowsLeast 2 := ⟨ini_X1, tb_in (i := 404) (by decide +kernel) (by decide +kernel), by decide +kernel, by decide⟩
theorem voX1_allowsLeast : VOk nX1_allowsLeast 1 := ⟨tb_in (i := 403) (by decide +kernel) (by decide +kernel), pv_in (i := 12) (by decide +kernel) (by decide +kernel), _, rfl, by decide +kernel⟩
def nX1_allowsBesideLeast : MN := (yX1_allowsBesideLeast, cX1_allowsBesideLeast, 4, (some .boolean))
theorem moX1_allowsBesideLeast : MOk nX1_allowsBesideLeast 3 := ⟨ini_X1, tb_in (i := 408) (by decide +kernel) (by decide +kernel), by decide +kernel, by decide⟩
theorem voX1_allowsBesideLeast : VOk nX1_allowsBesideLeast 1 := ⟨tb_in (i := 407) (by decide +kernel) (by decide +kernel), pv_in (i := 13) (by decide +kernel) (by decide +kernel), _, rfl, by decide +kernel⟩
def nX1_allowsInCount : MN := (yX1_allowsInCount, cX1_allowsInCount, 7, (some .boolean))
theorem moX1_allowsInCount : MOk nX1_allowsInCount 5 := ⟨ini_X1, tb_in (i := 412) (by decide +kernel) (by decide +kernel), by decide +kernel, by decide⟩
theorem voX1_allowsInCount : VOk nX1_allowsInCount 1 := ⟨tb_in (i := 411) (by decide +kernel) (by decide +kernel), pv_in (i := 14) (by decide +kernel) (by decide +kernel), _, rfl, by decide +kernel⟩
def nX4_findReason : MN := (yX4_findReason, cX4_findReason, 9, (some .int))
theorem moX4_findReason : MOk nX4_findReason 3 := ⟨ini_X4, tb_in (i := 416) (by decide +kernel) (by decide +kernel), by decide +kernel, by decide⟩
theorem voX4_findReason : VOk nX4_findReason 4 := ⟨tb_in (i := 415) (by decide +kernel) (by decide +kernel), pv_in (i := 15) (by decide +kernel) (by decide +kernel), _, rfl, by decide +kernel⟩
def nX5_copyPart : MN := (yX5_copyPart, cX5_copyPart, 4, none)
theorem moX5_copyPart : MOk nX5_copyPart 2 := ⟨ini_X5, tb_in (i := 421) (by decide +kernel) (by decide +kernel), by decide +kernel, by decide⟩
theorem voX5_copyPart : VOk nX5_copyPart 5 := ⟨tb_in (i := 419) (by decide +kernel) (by decide +kernel), tb_in (i := 420) (by decide +kernel) (by decide +kernel), _, rfl, by decide +kernel⟩
def nX6_add : MN := (yX6_add, cX6_add, 6, none)
theorem moX6_add : MOk nX6_add 5 := ⟨ini_X6, tb_in (i := 425) (by decide +kernel) (by decide +kernel), by decide +kernel, by decide⟩
theorem voX6_add : VOk nX6_add 6 := ⟨tb_in (i := 423) (by decide +kernel) (by decide +kernel), tb_in (i := 424) (by decide +kernel) (by decide +kernel), _, rfl, by decide +kernel⟩
def nX3_takeOut : MN := (yX3_takeOut, cX3_takeOut, 3, none)
theorem moX3_takeOut : MOk nX3_takeOut 2 := ⟨ini_X3, tb_in (i := 429) (by decide +kernel) (by decide +kernel), by decide +kernel, by decide⟩
theorem voX3_takeOut : VOk nX3_takeOut 3 := ⟨tb_in (i := 427) (by decide +kernel) (by decide +kernel), tb_in (i := 428) (by decide +kernel) (by decide +kernel), _, rfl, by decide +kernel⟩
def nX7_clash : MN := (yX7_clash, cX7_clash, 1, (some .int))
theorem moX7_clash : MOk nX7_clash 0 := ⟨ini_X7, tb_in (i := 433) (by decide +kernel) (by decide +kernel), by decide +kernel, by decide⟩
theorem voX7_clash : VOk nX7_clash 7 := ⟨tb_in (i := 431) (by decide +kernel) (by decide +kernel), tb_in (i := 432) (by decide +kernel) (by decide +kernel), _, rfl, by decide +kernel⟩
def nX7_has : MN := (yX7_has, cX7_has, 3, (some .int))
theorem moX7_has : MOk nX7_has 2 := ⟨ini_X7, tb_in (i := 437) (by decide +kernel) (by decide +kernel), by decide +kernel, by decide⟩
theorem voX7_has : VOk nX7_has 7 := ⟨tb_in (i := 435) (by decide +kernel) (by decide +kernel), tb_in (i := 436) (by decide +kernel) (by decide +kernel), _, rfl, by decide +kernel⟩
def nX7_end : MN := (yX7_end, cX7_end, 5, (some .int))
theorem moX7_end : MOk nX7_end 2 := ⟨ini_X7, tb_in (i := 441) (by decide +kernel) (by decide +kernel), by decide +kernel, by decide⟩
theorem voX7_end : VOk nX7_end 7 := ⟨tb_in (i := 439) (by decide +kernel) (by decide +kernel), tb_in (i := 440) (by decide +kernel) (by decide +kernel), _, rfl, by decide +kernel⟩
def nX7_size : MN := (yX7_size, cX7_size, 2, (some .int))
theorem moX7_size : MOk nX7_size 1 := ⟨ini_X7, tb_in (i := 447) (by decide +kernel) (by decide +kernel), by decide +kernel, by decide⟩
theorem voX7_size : VOk nX7_size 7 := ⟨tb_in (i := 445) (by decide +kernel) (by decide +kernel), tb_in (i := 446) (by decide +kernel) (by decide +kernel), _, rfl, by decide +kernel⟩
def nJ13_bitCount_95d88 : MN := (yJ13_bitCount_95d88, cJ13_bitCount_95d88, 2, (some .int))
theorem moJ13_bitCount_95d88 : MOk nJ13_bitCount_95d88 1 := ⟨ini_J13, tb_in (i := 450) (by decide +kernel) (by decide +kernel), by decide +kernel, by decide⟩
theorem stJ13_bitCount_95d88 : Cond.static nJ13_bitCount_95d88.1 ∈ gw := tb_in (i := 449) (by decide +kernel) (by decide +kernel)
def nX7_steps : MN := (yX7_steps, cX7_steps, 1, (some .int))
theorem moX7_steps : MOk nX7_steps 0 := ⟨ini_X7, tb_in (i := 457) (by decide +kernel) (by decide +kernel), by decide +kernel, by decide⟩
theorem voX7_steps : VOk nX7_steps 7 := ⟨tb_in (i := 455) (by decide +kernel) (by decide +kernel), tb_in (i := 456) (by decide +kernel) (by decide +kernel), _, rfl, by decide +kernel⟩
def nX7_step : MN := (yX7_step, cX7_step, 3, (some .int))
theorem moX7_step : MOk nX7_step 2 := ⟨ini_X7, tb_in (i := 461) (by decide +kernel) (by decide +kernel), by decide +kernel, by decide⟩
theorem voX7_step : VOk nX7_step 7 := ⟨tb_in (i := 459) (by decide +kernel) (by decide +kernel), tb_in (i := 460) (by decide +kernel) (by decide +kernel), _, rfl, by decide +kernel⟩
def nX7_isStep : MN := (yX7_isStep, cX7_isStep, 2, (some .boolean))
theorem moX7_isStep : MOk nX7_isStep 1 := ⟨ini_X7, tb_in (i := 465) (by decide +kernel) (by decide +kernel), by decide +kernel, by decide⟩
theorem voX7_isStep : VOk nX7_isStep 7 := ⟨tb_in (i := 464) (by decide +kernel) (by decide +kernel), pv_in (i := 16) (by decide +kernel) (by decide +kernel), _, rfl, by decide +kernel⟩
def nX7_reason : MN := (yX7_reason, cX7_reason, 2, (some .int))
theorem moX7_reason : MOk nX7_reason 1 := ⟨ini_X7, tb_in (i := 469) (by decide +kernel) (by decide +kernel), by decide +kernel, by decide⟩
theorem voX7_reason : VOk nX7_reason 7 := ⟨tb_in (i := 467) (by decide +kernel) (by decide +kernel), tb_in (i := 468) (by decide +kernel) (by decide +kernel), _, rfl, by decide +kernel⟩
def nJ6_bitCount_0f7a4 : MN := (yJ6_bitCount_0f7a4, cJ6_bitCount_0f7a4, 1, (some .int))
theorem moJ6_bitCount_0f7a4 : MOk nJ6_bitCount_0f7a4 1 := ⟨ini_J6, tb_in (i := 472) (by decide +kernel) (by decide +kernel), by decide +kernel, by decide⟩
theorem stJ6_bitCount_0f7a4 : Cond.static nJ6_bitCount_0f7a4.1 ∈ gw := tb_in (i := 471) (by decide +kernel) (by decide +kernel)
def nX7_part : MN := (yX7_part, cX7_part, 3, (some .int))
theorem moX7_part : MOk nX7_part 2 := ⟨ini_X7, tb_in (i := 479) (by decide +kernel) (by decide +kernel), by decide +kernel, by decide⟩
theorem voX7_part : VOk nX7_part 7 := ⟨tb_in (i := 477) (by decide +kernel) (by decide +kernel), tb_in (i := 478) (by decide +kernel) (by decide +kernel), _, rfl, by decide +kernel⟩
def nX6_partAt : MN := (yX6_partAt, cX6_partAt, 5, (some .int))
theorem moX6_partAt : MOk nX6_partAt 2 := ⟨ini_X6, tb_in (i := 483) (by decide +kernel) (by decide +kernel), by decide +kernel, by decide⟩
theorem voX6_partAt : VOk nX6_partAt 6 := ⟨tb_in (i := 481) (by decide +kernel) (by decide +kernel), tb_in (i := 482) (by decide +kernel) (by decide +kernel), _, rfl, by decide +kernel⟩
def nX7_told : MN := (yX7_told, cX7_told, 7, (some .int))
theorem moX7_told : MOk nX7_told 2 := ⟨ini_X7, tb_in (i := 487) (by decide +kernel) (by decide +kernel), by decide +kernel, by decide⟩
theorem voX7_told : VOk nX7_told 7 := ⟨tb_in (i := 485) (by decide +kernel) (by decide +kernel), tb_in (i := 486) (by decide +kernel) (by decide +kernel), _, rfl, by decide +kernel⟩
def nX6_without : MN := (yX6_without, cX6_without, 8, (some .long))
theorem moX6_without : MOk nX6_without 3 := ⟨ini_X6, tb_in (i := 492) (by decide +kernel) (by decide +kernel), by decide +kernel, by decide⟩
theorem voX6_without : VOk nX6_without 6 := ⟨tb_in (i := 490) (by decide +kernel) (by decide +kernel), tb_in (i := 491) (by decide +kernel) (by decide +kernel), _, rfl, by decide +kernel⟩
def nX7_plans : MN := (yX7_plans, cX7_plans, 3, (some .int))
theorem moX7_plans : MOk nX7_plans 0 := ⟨ini_X7, tb_in (i := 498) (by decide +kernel) (by decide +kernel), by decide +kernel, by decide⟩
theorem voX7_plans : VOk nX7_plans 7 := ⟨tb_in (i := 496) (by decide +kernel) (by decide +kernel), tb_in (i := 497) (by decide +kernel) (by decide +kernel), _, rfl, by decide +kernel⟩
def nX3_choices : MN := (yX3_choices, cX3_choices, 4, (some .long))
theorem moX3_choices : MOk nX3_choices 0 := ⟨ini_X3, tb_in (i := 502) (by decide +kernel) (by decide +kernel), by decide +kernel, by decide⟩
theorem voX3_choices : VOk nX3_choices 3 := ⟨tb_in (i := 500) (by decide +kernel) (by decide +kernel), tb_in (i := 501) (by decide +kernel) (by decide +kernel), _, rfl, by decide +kernel⟩
def nX0_countAll : MN := (yX0_countAll, cX0_countAll, 2, (some .int))
theorem moX0_countAll : MOk nX0_countAll 0 := ⟨ini_X0, tb_in (i := 508) (by decide +kernel) (by decide +kernel), by decide +kernel, by decide⟩
theorem voX0_countAll : VOk nX0_countAll 0 := ⟨tb_in (i := 506) (by decide +kernel) (by decide +kernel), tb_in (i := 507) (by decide +kernel) (by decide +kernel), _, rfl, by decide +kernel⟩
def nX1_lastName : MN := (yX1_lastName, cX1_lastName, 3, (some .int))
theorem moX1_lastName : MOk nX1_lastName 0 := ⟨ini_X1, tb_in (i := 512) (by decide +kernel) (by decide +kernel), by decide +kernel, by decide⟩
theorem voX1_lastName : VOk nX1_lastName 1 := ⟨tb_in (i := 510) (by decide +kernel) (by decide +kernel), tb_in (i := 511) (by decide +kernel) (by decide +kernel), _, rfl, by decide +kernel⟩
def nX0_rowsHoldWith : MN := (yX0_rowsHoldWith, cX0_rowsHoldWith, 3, (some .boolean))
theorem moX0_rowsHoldWith : MOk nX0_rowsHoldWith 1 := ⟨ini_X0, tb_in (i := 517) (by decide +kernel) (by decide +kernel), by decide +kernel, by decide⟩
theorem voX0_rowsHoldWith : VOk nX0_rowsHoldWith 0 := ⟨tb_in (i := 516) (by decide +kernel) (by decide +kernel), pv_in (i := 17) (by decide +kernel) (by decide +kernel), _, rfl, by decide +kernel⟩
def nX1_holds : MN := (yX1_holds, cX1_holds, 2, (some .boolean))
theorem moX1_holds : MOk nX1_holds 1 := ⟨ini_X1, tb_in (i := 521) (by decide +kernel) (by decide +kernel), by decide +kernel, by decide⟩
theorem voX1_holds : VOk nX1_holds 1 := ⟨tb_in (i := 519) (by decide +kernel) (by decide +kernel), tb_in (i := 520) (by decide +kernel) (by decide +kernel), _, rfl, by decide +kernel⟩
def nX1_sumOf : MN := (yX1_sumOf, cX1_sumOf, 4, (some .int))
theorem moX1_sumOf : MOk nX1_sumOf 1 := ⟨ini_X1, tb_in (i := 525) (by decide +kernel) (by decide +kernel), by decide +kernel, by decide⟩
theorem voX1_sumOf : VOk nX1_sumOf 1 := ⟨tb_in (i := 524) (by decide +kernel) (by decide +kernel), pv_in (i := 18) (by decide +kernel) (by decide +kernel), _, rfl, by decide +kernel⟩
def nX1_countOf : MN := (yX1_countOf, cX1_countOf, 4, (some .int))
theorem moX1_countOf : MOk nX1_countOf 1 := ⟨ini_X1, tb_in (i := 529) (by decide +kernel) (by decide +kernel), by decide +kernel, by decide⟩
theorem voX1_countOf : VOk nX1_countOf 1 := ⟨tb_in (i := 528) (by decide +kernel) (by decide +kernel), pv_in (i := 19) (by decide +kernel) (by decide +kernel), _, rfl, by decide +kernel⟩
def nX0_countFrom : MN := (yX0_countFrom, cX0_countFrom, 4, (some .int))
theorem moX0_countFrom : MOk nX0_countFrom 1 := ⟨ini_X0, tb_in (i := 533) (by decide +kernel) (by decide +kernel), by decide +kernel, by decide⟩
theorem voX0_countFrom : VOk nX0_countFrom 0 := ⟨tb_in (i := 532) (by decide +kernel) (by decide +kernel), pv_in (i := 20) (by decide +kernel) (by decide +kernel), _, rfl, by decide +kernel⟩
def nX8_init : MN := (yX8_init, cX8_init, 1, none)
theorem moX8_init : MOk nX8_init 0 := ⟨ini_X8, tb_in (i := 539) (by decide +kernel) (by decide +kernel), by decide +kernel, by decide⟩
def nX8_name : MN := (yX8_name, cX8_name, 4, (some .int))
theorem moX8_name : MOk nX8_name 2 := ⟨ini_X8, tb_in (i := 603) (by decide +kernel) (by decide +kernel), by decide +kernel, by decide⟩
theorem voX8_name : VOk nX8_name 8 := ⟨tb_in (i := 601) (by decide +kernel) (by decide +kernel), tb_in (i := 602) (by decide +kernel) (by decide +kernel), _, rfl, by decide +kernel⟩
def nX8_in : MN := (yX8_in, cX8_in, 3, (some .boolean))
theorem moX8_in : MOk nX8_in 3 := ⟨ini_X8, tb_in (i := 606) (by decide +kernel) (by decide +kernel), by decide +kernel, by decide⟩
theorem stX8_in : Cond.static nX8_in.1 ∈ gw := tb_in (i := 605) (by decide +kernel) (by decide +kernel)
def nX8_anew : MN := (yX8_anew, cX8_anew, 2, none)
theorem moX8_anew : MOk nX8_anew 0 := ⟨ini_X8, tb_in (i := 610) (by decide +kernel) (by decide +kernel), by decide +kernel, by decide⟩
theorem voX8_anew : VOk nX8_anew 8 := ⟨tb_in (i := 609) (by decide +kernel) (by decide +kernel), pv_in (i := 21) (by decide +kernel) (by decide +kernel), _, rfl, by decide +kernel⟩
def nX8_leave : MN := (yX8_leave, cX8_leave, 4, (some .int))
theorem moX8_leave : MOk nX8_leave 2 := ⟨ini_X8, tb_in (i := 614) (by decide +kernel) (by decide +kernel), by decide +kernel, by decide⟩
theorem voX8_leave : VOk nX8_leave 8 := ⟨tb_in (i := 612) (by decide +kernel) (by decide +kernel), tb_in (i := 613) (by decide +kernel) (by decide +kernel), _, rfl, by decide +kernel⟩
def nX8_isName : MN := (yX8_isName, cX8_isName, 2, (some .boolean))
theorem moX8_isName : MOk nX8_isName 1 := ⟨ini_X8, tb_in (i := 618) (by decide +kernel) (by decide +kernel), by decide +kernel, by decide⟩
theorem voX8_isName : VOk nX8_isName 8 := ⟨tb_in (i := 617) (by decide +kernel) (by decide +kernel), pv_in (i := 22) (by decide +kernel) (by decide +kernel), _, rfl, by decide +kernel⟩
def nX8_many : MN := (yX8_many, cX8_many, 5, (some .int))
theorem moX8_many : MOk nX8_many 2 := ⟨ini_X8, tb_in (i := 622) (by decide +kernel) (by decide +kernel), by decide +kernel, by decide⟩
theorem voX8_many : VOk nX8_many 8 := ⟨tb_in (i := 621) (by decide +kernel) (by decide +kernel), pv_in (i := 23) (by decide +kernel) (by decide +kernel), _, rfl, by decide +kernel⟩
def nX8_row : MN := (yX8_row, cX8_row, 9, (some .int))
theorem moX8_row : MOk nX8_row 5 := ⟨ini_X8, tb_in (i := 626) (by decide +kernel) (by decide +kernel), by decide +kernel, by decide⟩
theorem voX8_row : VOk nX8_row 8 := ⟨tb_in (i := 624) (by decide +kernel) (by decide +kernel), tb_in (i := 625) (by decide +kernel) (by decide +kernel), _, rfl, by decide +kernel⟩
def nX8_owns : MN := (yX8_owns, cX8_owns, 1, (some .int))
theorem moX8_owns : MOk nX8_owns 1 := ⟨ini_X8, tb_in (i := 629) (by decide +kernel) (by decide +kernel), by decide +kernel, by decide⟩
theorem stX8_owns : Cond.static nX8_owns.1 ∈ gw := tb_in (i := 628) (by decide +kernel) (by decide +kernel)
def nX8_factor : MN := (yX8_factor, cX8_factor, 5, (some .int))
theorem moX8_factor : MOk nX8_factor 3 := ⟨ini_X8, tb_in (i := 633) (by decide +kernel) (by decide +kernel), by decide +kernel, by decide⟩
theorem voX8_factor : VOk nX8_factor 8 := ⟨tb_in (i := 631) (by decide +kernel) (by decide +kernel), tb_in (i := 632) (by decide +kernel) (by decide +kernel), _, rfl, by decide +kernel⟩
def nX8_isRow : MN := (yX8_isRow, cX8_isRow, 2, (some .boolean))
theorem moX8_isRow : MOk nX8_isRow 1 := ⟨ini_X8, tb_in (i := 637) (by decide +kernel) (by decide +kernel), by decide +kernel, by decide⟩
theorem voX8_isRow : VOk nX8_isRow 8 := ⟨tb_in (i := 636) (by decide +kernel) (by decide +kernel), pv_in (i := 24) (by decide +kernel) (by decide +kernel), _, rfl, by decide +kernel⟩
def nX8_hasFactors : MN := (yX8_hasFactors, cX8_hasFactors, 1, (some .boolean))
theorem moX8_hasFactors : MOk nX8_hasFactors 1 := ⟨ini_X8, tb_in (i := 640) (by decide +kernel) (by decide +kernel), by decide +kernel, by decide⟩
theorem stX8_hasFactors : Cond.static nX8_hasFactors.1 ∈ gw := tb_in (i := 639) (by decide +kernel) (by decide +kernel)
def nX8_clear : MN := (yX8_clear, cX8_clear, 2, (some .int))
theorem moX8_clear : MOk nX8_clear 0 := ⟨ini_X8, tb_in (i := 644) (by decide +kernel) (by decide +kernel), by decide +kernel, by decide⟩
theorem voX8_clear : VOk nX8_clear 8 := ⟨tb_in (i := 642) (by decide +kernel) (by decide +kernel), tb_in (i := 643) (by decide +kernel) (by decide +kernel), _, rfl, by decide +kernel⟩
def nX8_run : MN := (yX8_run, cX8_run, 7, (some .int))
theorem moX8_run : MOk nX8_run 2 := ⟨ini_X8, tb_in (i := 648) (by decide +kernel) (by decide +kernel), by decide +kernel, by decide⟩
theorem voX8_run : VOk nX8_run 8 := ⟨tb_in (i := 646) (by decide +kernel) (by decide +kernel), tb_in (i := 647) (by decide +kernel) (by decide +kernel), _, rfl, by decide +kernel⟩
def nX8_bounds : MN := (yX8_bounds, cX8_bounds, 2, none)
theorem moX8_bounds : MOk nX8_bounds 0 := ⟨ini_X8, tb_in (i := 652) (by decide +kernel) (by decide +kernel), by decide +kernel, by decide⟩
theorem voX8_bounds : VOk nX8_bounds 8 := ⟨tb_in (i := 651) (by decide +kernel) (by decide +kernel), pv_in (i := 25) (by decide +kernel) (by decide +kernel), _, rfl, by decide +kernel⟩
def nX8_least : MN := (yX8_least, cX8_least, 5, (some .int))
theorem moX8_least : MOk nX8_least 2 := ⟨ini_X8, tb_in (i := 656) (by decide +kernel) (by decide +kernel), by decide +kernel, by decide⟩
theorem voX8_least : VOk nX8_least 8 := ⟨tb_in (i := 655) (by decide +kernel) (by decide +kernel), pv_in (i := 26) (by decide +kernel) (by decide +kernel), _, rfl, by decide +kernel⟩
def nX8_most : MN := (yX8_most, cX8_most, 5, (some .int))
theorem moX8_most : MOk nX8_most 2 := ⟨ini_X8, tb_in (i := 660) (by decide +kernel) (by decide +kernel), by decide +kernel, by decide⟩
theorem voX8_most : VOk nX8_most 8 := ⟨tb_in (i := 659) (by decide +kernel) (by decide +kernel), pv_in (i := 27) (by decide +kernel) (by decide +kernel), _, rfl, by decide +kernel⟩
def nX8_byRow : MN := (yX8_byRow, cX8_byRow, 4, none)
theorem moX8_byRow : MOk nX8_byRow 1 := ⟨ini_X8, tb_in (i := 664) (by decide +kernel) (by decide +kernel), by decide +kernel, by decide⟩
theorem voX8_byRow : VOk nX8_byRow 8 := ⟨tb_in (i := 663) (by decide +kernel) (by decide +kernel), pv_in (i := 28) (by decide +kernel) (by decide +kernel), _, rfl, by decide +kernel⟩
def nX8_isAbout : MN := (yX8_isAbout, cX8_isAbout, 3, (some .boolean))
theorem moX8_isAbout : MOk nX8_isAbout 2 := ⟨ini_X8, tb_in (i := 668) (by decide +kernel) (by decide +kernel), by decide +kernel, by decide⟩
theorem voX8_isAbout : VOk nX8_isAbout 8 := ⟨tb_in (i := 667) (by decide +kernel) (by decide +kernel), pv_in (i := 29) (by decide +kernel) (by decide +kernel), _, rfl, by decide +kernel⟩
def nX8_impossible : MN := (yX8_impossible, cX8_impossible, 7, (some .boolean))
theorem moX8_impossible : MOk nX8_impossible 3 := ⟨ini_X8, tb_in (i := 672) (by decide +kernel) (by decide +kernel), by decide +kernel, by decide⟩
theorem voX8_impossible : VOk nX8_impossible 8 := ⟨tb_in (i := 671) (by decide +kernel) (by decide +kernel), pv_in (i := 30) (by decide +kernel) (by decide +kernel), _, rfl, by decide +kernel⟩
def nX8_can : MN := (yX8_can, cX8_can, 3, (some .boolean))
theorem moX8_can : MOk nX8_can 1 := ⟨ini_X8, tb_in (i := 676) (by decide +kernel) (by decide +kernel), by decide +kernel, by decide⟩
theorem voX8_can : VOk nX8_can 8 := ⟨tb_in (i := 675) (by decide +kernel) (by decide +kernel), pv_in (i := 31) (by decide +kernel) (by decide +kernel), _, rfl, by decide +kernel⟩
def nX8_leastSum : MN := (yX8_leastSum, cX8_leastSum, 6, (some .int))
theorem moX8_leastSum : MOk nX8_leastSum 2 := ⟨ini_X8, tb_in (i := 680) (by decide +kernel) (by decide +kernel), by decide +kernel, by decide⟩
theorem voX8_leastSum : VOk nX8_leastSum 8 := ⟨tb_in (i := 679) (by decide +kernel) (by decide +kernel), pv_in (i := 32) (by decide +kernel) (by decide +kernel), _, rfl, by decide +kernel⟩
def nX8_byTwo : MN := (yX8_byTwo, cX8_byTwo, 7, (some .boolean))
theorem moX8_byTwo : MOk nX8_byTwo 1 := ⟨ini_X8, tb_in (i := 684) (by decide +kernel) (by decide +kernel), by decide +kernel, by decide⟩
theorem voX8_byTwo : VOk nX8_byTwo 8 := ⟨tb_in (i := 683) (by decide +kernel) (by decide +kernel), pv_in (i := 33) (by decide +kernel) (by decide +kernel), _, rfl, by decide +kernel⟩
def nX8_byCount : MN := (yX8_byCount, cX8_byCount, 5, (some .boolean))
theorem moX8_byCount : MOk nX8_byCount 1 := ⟨ini_X8, tb_in (i := 688) (by decide +kernel) (by decide +kernel), by decide +kernel, by decide⟩
theorem voX8_byCount : VOk nX8_byCount 8 := ⟨tb_in (i := 687) (by decide +kernel) (by decide +kernel), pv_in (i := 34) (by decide +kernel) (by decide +kernel), _, rfl, by decide +kernel⟩
def nX8_may : MN := (yX8_may, cX8_may, 3, (some .boolean))
theorem moX8_may : MOk nX8_may 2 := ⟨ini_X8, tb_in (i := 692) (by decide +kernel) (by decide +kernel), by decide +kernel, by decide⟩
theorem voX8_may : VOk nX8_may 8 := ⟨tb_in (i := 691) (by decide +kernel) (by decide +kernel), pv_in (i := 35) (by decide +kernel) (by decide +kernel), _, rfl, by decide +kernel⟩
def nX8_byThree : MN := (yX8_byThree, cX8_byThree, 8, (some .boolean))
theorem moX8_byThree : MOk nX8_byThree 1 := ⟨ini_X8, tb_in (i := 696) (by decide +kernel) (by decide +kernel), by decide +kernel, by decide⟩
theorem voX8_byThree : VOk nX8_byThree 8 := ⟨tb_in (i := 695) (by decide +kernel) (by decide +kernel), pv_in (i := 36) (by decide +kernel) (by decide +kernel), _, rfl, by decide +kernel⟩
def nX8_come : MN := (yX8_come, cX8_come, 3, (some .int))
theorem moX8_come : MOk nX8_come 3 := ⟨ini_X8, tb_in (i := 699) (by decide +kernel) (by decide +kernel), by decide +kernel, by decide⟩
theorem stX8_come : Cond.static nX8_come.1 ∈ gw := tb_in (i := 698) (by decide +kernel) (by decide +kernel)
def nX8_down : MN := (yX8_down, cX8_down, 3, (some .int))
theorem moX8_down : MOk nX8_down 2 := ⟨ini_X8, tb_in (i := 702) (by decide +kernel) (by decide +kernel), by decide +kernel, by decide⟩
theorem stX8_down : Cond.static nX8_down.1 ∈ gw := tb_in (i := 701) (by decide +kernel) (by decide +kernel)
def nX8_take : MN := (yX8_take, cX8_take, 10, none)
theorem moX8_take : MOk nX8_take 3 := ⟨ini_X8, tb_in (i := 706) (by decide +kernel) (by decide +kernel), by decide +kernel, by decide⟩
theorem voX8_take : VOk nX8_take 8 := ⟨tb_in (i := 705) (by decide +kernel) (by decide +kernel), pv_in (i := 37) (by decide +kernel) (by decide +kernel), _, rfl, by decide +kernel⟩
def nX8_setBound : MN := (yX8_setBound, cX8_setBound, 3, none)
theorem moX8_setBound : MOk nX8_setBound 2 := ⟨ini_X8, tb_in (i := 710) (by decide +kernel) (by decide +kernel), by decide +kernel, by decide⟩
theorem voX8_setBound : VOk nX8_setBound 8 := ⟨tb_in (i := 709) (by decide +kernel) (by decide +kernel), pv_in (i := 38) (by decide +kernel) (by decide +kernel), _, rfl, by decide +kernel⟩
def nX8_clash : MN := (yX8_clash, cX8_clash, 1, (some .int))
theorem moX8_clash : MOk nX8_clash 0 := ⟨ini_X8, tb_in (i := 714) (by decide +kernel) (by decide +kernel), by decide +kernel, by decide⟩
theorem voX8_clash : VOk nX8_clash 8 := ⟨tb_in (i := 712) (by decide +kernel) (by decide +kernel), tb_in (i := 713) (by decide +kernel) (by decide +kernel), _, rfl, by decide +kernel⟩
def nX8_has : MN := (yX8_has, cX8_has, 3, (some .int))
theorem moX8_has : MOk nX8_has 2 := ⟨ini_X8, tb_in (i := 718) (by decide +kernel) (by decide +kernel), by decide +kernel, by decide⟩
theorem voX8_has : VOk nX8_has 8 := ⟨tb_in (i := 716) (by decide +kernel) (by decide +kernel), tb_in (i := 717) (by decide +kernel) (by decide +kernel), _, rfl, by decide +kernel⟩
def nX8_end : MN := (yX8_end, cX8_end, 3, (some .int))
theorem moX8_end : MOk nX8_end 2 := ⟨ini_X8, tb_in (i := 722) (by decide +kernel) (by decide +kernel), by decide +kernel, by decide⟩
theorem voX8_end : VOk nX8_end 8 := ⟨tb_in (i := 720) (by decide +kernel) (by decide +kernel), tb_in (i := 721) (by decide +kernel) (by decide +kernel), _, rfl, by decide +kernel⟩
def nX8_size : MN := (yX8_size, cX8_size, 2, (some .int))
theorem moX8_size : MOk nX8_size 1 := ⟨ini_X8, tb_in (i := 726) (by decide +kernel) (by decide +kernel), by decide +kernel, by decide⟩
theorem voX8_size : VOk nX8_size 8 := ⟨tb_in (i := 724) (by decide +kernel) (by decide +kernel), tb_in (i := 725) (by decide +kernel) (by decide +kernel), _, rfl, by decide +kernel⟩
def nX8_steps : MN := (yX8_steps, cX8_steps, 1, (some .int))
theorem moX8_steps : MOk nX8_steps 0 := ⟨ini_X8, tb_in (i := 730) (by decide +kernel) (by decide +kernel), by decide +kernel, by decide⟩
theorem voX8_steps : VOk nX8_steps 8 := ⟨tb_in (i := 728) (by decide +kernel) (by decide +kernel), tb_in (i := 729) (by decide +kernel) (by decide +kernel), _, rfl, by decide +kernel⟩
def nX8_step : MN := (yX8_step, cX8_step, 3, (some .int))
theorem moX8_step : MOk nX8_step 2 := ⟨ini_X8, tb_in (i := 734) (by decide +kernel) (by decide +kernel), by decide +kernel, by decide⟩
theorem voX8_step : VOk nX8_step 8 := ⟨tb_in (i := 732) (by decide +kernel) (by decide +kernel), tb_in (i := 733) (by decide +kernel) (by decide +kernel), _, rfl, by decide +kernel⟩
def nX8_reason : MN := (yX8_reason, cX8_reason, 4, (some .int))
theorem moX8_reason : MOk nX8_reason 1 := ⟨ini_X8, tb_in (i := 738) (by decide +kernel) (by decide +kernel), by decide +kernel, by decide⟩
theorem voX8_reason : VOk nX8_reason 8 := ⟨tb_in (i := 736) (by decide +kernel) (by decide +kernel), tb_in (i := 737) (by decide +kernel) (by decide +kernel), _, rfl, by decide +kernel⟩
def nX8_part : MN := (yX8_part, cX8_part, 4, (some .int))
theorem moX8_part : MOk nX8_part 2 := ⟨ini_X8, tb_in (i := 742) (by decide +kernel) (by decide +kernel), by decide +kernel, by decide⟩
theorem voX8_part : VOk nX8_part 8 := ⟨tb_in (i := 740) (by decide +kernel) (by decide +kernel), tb_in (i := 741) (by decide +kernel) (by decide +kernel), _, rfl, by decide +kernel⟩
def nX8_placeOf : MN := (yX8_placeOf, cX8_placeOf, 5, (some .int))
theorem moX8_placeOf : MOk nX8_placeOf 2 := ⟨ini_X8, tb_in (i := 746) (by decide +kernel) (by decide +kernel), by decide +kernel, by decide⟩
theorem voX8_placeOf : VOk nX8_placeOf 8 := ⟨tb_in (i := 745) (by decide +kernel) (by decide +kernel), pv_in (i := 39) (by decide +kernel) (by decide +kernel), _, rfl, by decide +kernel⟩
def nX8_told : MN := (yX8_told, cX8_told, 4, (some .int))
theorem moX8_told : MOk nX8_told 2 := ⟨ini_X8, tb_in (i := 750) (by decide +kernel) (by decide +kernel), by decide +kernel, by decide⟩
theorem voX8_told : VOk nX8_told 8 := ⟨tb_in (i := 748) (by decide +kernel) (by decide +kernel), tb_in (i := 749) (by decide +kernel) (by decide +kernel), _, rfl, by decide +kernel⟩
def nX8_plans : MN := (yX8_plans, cX8_plans, 6, (some .int))
theorem moX8_plans : MOk nX8_plans 0 := ⟨ini_X8, tb_in (i := 754) (by decide +kernel) (by decide +kernel), by decide +kernel, by decide⟩
theorem voX8_plans : VOk nX8_plans 8 := ⟨tb_in (i := 752) (by decide +kernel) (by decide +kernel), tb_in (i := 753) (by decide +kernel) (by decide +kernel), _, rfl, by decide +kernel⟩
def nX8_holds : MN := (yX8_holds, cX8_holds, 3, (some .boolean))
theorem moX8_holds : MOk nX8_holds 1 := ⟨ini_X8, tb_in (i := 758) (by decide +kernel) (by decide +kernel), by decide +kernel, by decide⟩
theorem voX8_holds : VOk nX8_holds 8 := ⟨tb_in (i := 757) (by decide +kernel) (by decide +kernel), pv_in (i := 40) (by decide +kernel) (by decide +kernel), _, rfl, by decide +kernel⟩
def nX8_nextPlan : MN := (yX8_nextPlan, cX8_nextPlan, 3, (some .boolean))
theorem moX8_nextPlan : MOk nX8_nextPlan 0 := ⟨ini_X8, tb_in (i := 762) (by decide +kernel) (by decide +kernel), by decide +kernel, by decide⟩
theorem voX8_nextPlan : VOk nX8_nextPlan 8 := ⟨tb_in (i := 761) (by decide +kernel) (by decide +kernel), pv_in (i := 41) (by decide +kernel) (by decide +kernel), _, rfl, by decide +kernel⟩
theorem lk_L_9 : Cond.methodLink RL 9 nX7_init.1 ∈ gw := tb_in (i := 16) (by decide +kernel) (by decide +kernel)
theorem lk_X7_1 : Cond.methodLink RX7 1 objectInit ∈ gw := tb_in (i := 19) (by decide +kernel) (by decide +kernel)
theorem lk_X7_9 : Cond.methodLinkNest RX7 9 nX3_init.1 "LinearReach" ∈ nw := tb_nw (i := 24) (by decide +kernel) (by decide +kernel)
theorem lk_X3_3 : Cond.methodLink RX3 3 objectInit ∈ gw := tb_in (i := 27) (by decide +kernel) (by decide +kernel)
theorem lk_X3_24 : Cond.methodLinkNest RX3 24 nX5_init.1 "LinearReach" ∈ nw := tb_nw (i := 30) (by decide +kernel) (by decide +kernel)
theorem lk_X5_3 : Cond.methodLink RX5 3 objectInit ∈ gw := tb_in (i := 33) (by decide +kernel) (by decide +kernel)
theorem lk_X7_18 : Cond.methodLink RX7 18 nX2_init.1 ∈ gw := tb_in (i := 77) (by decide +kernel) (by decide +kernel)
theorem lk_X2_3 : Cond.methodLink RX2 3 objectInit ∈ gw := tb_in (i := 80) (by decide +kernel) (by decide +kernel)
theorem lk_X2_21 : Cond.methodLinkNest RX2 21 nX1_init.1 "LinearReach" ∈ nw := tb_nw (i := 84) (by decide +kernel) (by decide +kernel)
theorem lk_X1_3 : Cond.methodLink RX1 3 objectInit ∈ gw := tb_in (i := 87) (by decide +kernel) (by decide +kernel)
theorem lk_X7_25 : Cond.methodLinkNest RX7 25 nX6_init.1 "LinearReach" ∈ nw := tb_nw (i := 124) (by decide +kernel) (by decide +kernel)
theorem lk_X6_3 : Cond.methodLink RX6 3 objectInit ∈ gw := tb_in (i := 127) (by decide +kernel) (by decide +kernel)
theorem lk_X7_32 : Cond.methodLink RX7 32 nX4_init.1 ∈ gw := tb_in (i := 155) (by decide +kernel) (by decide +kernel)
theorem lk_X4_3 : Cond.methodLink RX4 3 objectInit ∈ gw := tb_in (i := 158) (by decide +kernel) (by decide +kernel)
theorem lk_X4_20 : Cond.methodLinkNest RX4 20 nX5_init.1 "LinearReach" ∈ nw := tb_nw (i := 160) (by decide +kernel) (by decide +kernel)
theorem lk_X7_41 : Cond.methodLink RX7 41 nX0_init.1 ∈ gw := tb_in (i := 183) (by decide +kernel) (by decide +kernel)
theorem lk_X0_3 : Cond.methodLink RX0 3 objectInit ∈ gw := tb_in (i := 186) (by decide +kernel) (by decide +kernel)
theorem lk_L_13 : Cond.methodLink RL 13 nX7_name.1 ∈ gw := tb_in (i := 216) (by decide +kernel) (by decide +kernel)
theorem lk_X7_48 : Cond.methodLink RX7 48 nX7_isNumber.1 ∈ gw := tb_in (i := 220) (by decide +kernel) (by decide +kernel)
theorem lk_X7_56 : Cond.methodLink RX7 56 nX3_add.1 ∈ gw := tb_in (i := 223) (by decide +kernel) (by decide +kernel)
theorem lk_X3_34 : Cond.methodLink RX3 34 nX5_fit.1 ∈ gw := tb_in (i := 228) (by decide +kernel) (by decide +kernel)
theorem lk_X5_18 : Cond.methodLinkNest RX5 18 nX7_leastOf.1 "LinearReach" ∈ nw := tb_nw (i := 232) (by decide +kernel) (by decide +kernel)
theorem lk_X7_189 : Cond.methodLink RX7 189 nJ13_numberOfTrailingZeros_95d88.1 ∈ gw := tb_in (i := 235) (by decide +kernel) (by decide +kernel)
theorem lk_J13_311 : Cond.methodLink RJ13 311 nJ6_numberOfTrailingZeros_0f7a4.1 ∈ gw := tb_in (i := 238) (by decide +kernel) (by decide +kernel)
theorem lk_X5_22 : Cond.methodLinkNest RX5 22 nX7_mostOf.1 "LinearReach" ∈ nw := tb_nw (i := 242) (by decide +kernel) (by decide +kernel)
theorem lk_X7_192 : Cond.methodLink RX7 192 nJ13_numberOfLeadingZeros_95d88.1 ∈ gw := tb_in (i := 245) (by decide +kernel) (by decide +kernel)
theorem lk_J13_308 : Cond.methodLink RJ13 308 nJ6_numberOfLeadingZeros_0f7a4.1 ∈ gw := tb_in (i := 248) (by decide +kernel) (by decide +kernel)
theorem lk_X7_60 : Cond.methodLink RX7 60 nX7_beginAnew.1 ∈ gw := tb_in (i := 251) (by decide +kernel) (by decide +kernel)
theorem lk_X7_183 : Cond.methodLink RX7 183 nX3_restore.1 ∈ gw := tb_in (i := 255) (by decide +kernel) (by decide +kernel)
theorem lk_X3_42 : Cond.methodLink RX3 42 arraycopyName ∈ gw := tb_in (i := 259) (by decide +kernel) (by decide +kernel)
theorem lk_X3_48 : Cond.methodLink RX3 48 nX5_copy.1 ∈ gw := tb_in (i := 262) (by decide +kernel) (by decide +kernel)
theorem lk_X5_25 : Cond.methodLink RX5 25 arraycopyName ∈ gw := tb_in (i := 266) (by decide +kernel) (by decide +kernel)
theorem lk_X7_186 : Cond.methodLink RX7 186 nX4_forget.1 ∈ gw := tb_in (i := 267) (by decide +kernel) (by decide +kernel)
theorem lk_L_18 : Cond.methodLink RL 18 nX7_leave.1 ∈ gw := tb_in (i := 271) (by decide +kernel) (by decide +kernel)
theorem lk_X7_63 : Cond.methodLink RX7 63 nX7_isName.1 ∈ gw := tb_in (i := 275) (by decide +kernel) (by decide +kernel)
theorem lk_X7_70 : Cond.methodLink RX7 70 nX7_bitOf.1 ∈ gw := tb_in (i := 279) (by decide +kernel) (by decide +kernel)
theorem lk_X7_74 : Cond.methodLink RX7 74 nX3_leaveOut.1 ∈ gw := tb_in (i := 282) (by decide +kernel) (by decide +kernel)
theorem lk_X3_38 : Cond.methodLinkNest RX3 38 nX7_bitOf.1 "LinearReach" ∈ nw := tb_nw (i := 286) (by decide +kernel) (by decide +kernel)
theorem lk_X7_77 : Cond.methodLink RX7 77 nX7_hasBit.1 ∈ gw := tb_in (i := 287) (by decide +kernel) (by decide +kernel)
theorem lk_L_22 : Cond.methodLink RL 22 nX7_row.1 ∈ gw := tb_in (i := 290) (by decide +kernel) (by decide +kernel)
theorem lk_X7_85 : Cond.methodLink RX7 85 nX7_areDifferentNames.1 ∈ gw := tb_in (i := 296) (by decide +kernel) (by decide +kernel)
theorem lk_X7_94 : Cond.methodLink RX7 94 nX1_become.1 ∈ gw := tb_in (i := 300) (by decide +kernel) (by decide +kernel)
theorem lk_X7_99 : Cond.methodLink RX7 99 nX1_tie.1 ∈ gw := tb_in (i := 304) (by decide +kernel) (by decide +kernel)
theorem lk_L_27 : Cond.methodLink RL 27 nX7_factor.1 ∈ gw := tb_in (i := 308) (by decide +kernel) (by decide +kernel)
theorem lk_X7_103 : Cond.methodLink RX7 103 nX7_isRow.1 ∈ gw := tb_in (i := 312) (by decide +kernel) (by decide +kernel)
theorem lk_X7_106 : Cond.methodLink RX7 106 nX1_hasFactors.1 ∈ gw := tb_in (i := 316) (by decide +kernel) (by decide +kernel)
theorem lk_L_32 : Cond.methodLink RL 32 nX7_clear.1 ∈ gw := tb_in (i := 320) (by decide +kernel) (by decide +kernel)
theorem lk_L_37 : Cond.methodLink RL 37 nX7_run.1 ∈ gw := tb_in (i := 324) (by decide +kernel) (by decide +kernel)
theorem lk_X7_120 : Cond.methodLink RX7 120 nX4_doOne.1 ∈ gw := tb_in (i := 328) (by decide +kernel) (by decide +kernel)
theorem lk_X4_49 : Cond.methodLink RX4 49 nX1_isAbout.1 ∈ gw := tb_in (i := 332) (by decide +kernel) (by decide +kernel)
theorem lk_X4_55 : Cond.methodLink RX4 55 nX4_sift.1 ∈ gw := tb_in (i := 336) (by decide +kernel) (by decide +kernel)
theorem lk_X4_62 : Cond.methodLink RX4 62 nX1_endOfOthers.1 ∈ gw := tb_in (i := 340) (by decide +kernel) (by decide +kernel)
theorem lk_X1_75 : Cond.methodLink RX1 75 nX5_covers.1 ∈ gw := tb_in (i := 344) (by decide +kernel) (by decide +kernel)
theorem lk_X1_93 : Cond.methodLink RX1 93 nX5_isOnly.1 ∈ gw := tb_in (i := 348) (by decide +kernel) (by decide +kernel)
theorem lk_X4_77 : Cond.methodLinkNest RX4 77 nX7_hasBit.1 "LinearReach" ∈ nw := tb_nw (i := 352) (by decide +kernel) (by decide +kernel)
theorem lk_X4_81 : Cond.methodLink RX4 81 nX1_allows.1 ∈ gw := tb_in (i := 353) (by decide +kernel) (by decide +kernel)
theorem lk_X1_58 : Cond.methodLink RX1 58 nX1_allowsProduct.1 ∈ gw := tb_in (i := 357) (by decide +kernel) (by decide +kernel)
theorem lk_X1_62 : Cond.methodLink RX1 62 nX1_allowsMultiplier.1 ∈ gw := tb_in (i := 361) (by decide +kernel) (by decide +kernel)
theorem lk_X1_45 : Cond.methodLink RX1 45 nJ9_abs_0f7a4.1 ∈ gw := tb_in (i := 365) (by decide +kernel) (by decide +kernel)
theorem lk_X1_39 : Cond.methodLink RX1 39 nJ9_floorDiv_7cf53.1 ∈ gw := tb_in (i := 368) (by decide +kernel) (by decide +kernel)
theorem lk_X1_106 : Cond.methodLink RX1 106 nX5_meets.1 ∈ gw := tb_in (i := 371) (by decide +kernel) (by decide +kernel)
theorem lk_X1_66 : Cond.methodLink RX1 66 nX1_allowsQuotient.1 ∈ gw := tb_in (i := 375) (by decide +kernel) (by decide +kernel)
theorem lk_X1_69 : Cond.methodLink RX1 69 nX1_allowsDividend.1 ∈ gw := tb_in (i := 379) (by decide +kernel) (by decide +kernel)
theorem lk_X1_72 : Cond.methodLink RX1 72 nX1_allowsDivisor.1 ∈ gw := tb_in (i := 383) (by decide +kernel) (by decide +kernel)
theorem lk_X1_52 : Cond.methodLink RX1 52 nJ9_min_7cf53.1 ∈ gw := tb_in (i := 387) (by decide +kernel) (by decide +kernel)
theorem lk_X1_49 : Cond.methodLink RX1 49 nJ9_max_7cf53.1 ∈ gw := tb_in (i := 390) (by decide +kernel) (by decide +kernel)
theorem lk_X1_81 : Cond.methodLink RX1 81 nX1_allowsGreatest.1 ∈ gw := tb_in (i := 393) (by decide +kernel) (by decide +kernel)
theorem lk_X1_84 : Cond.methodLink RX1 84 nX1_allowsBesideGreatest.1 ∈ gw := tb_in (i := 397) (by decide +kernel) (by decide +kernel)
theorem lk_X1_87 : Cond.methodLink RX1 87 nX1_allowsLeast.1 ∈ gw := tb_in (i := 401) (by decide +kernel) (by decide +kernel)
theorem lk_X1_90 : Cond.methodLink RX1 90 nX1_allowsBesideLeast.1 ∈ gw := tb_in (i := 405) (by decide +kernel) (by decide +kernel)
theorem lk_X1_96 : Cond.methodLink RX1 96 nX1_allowsInCount.1 ∈ gw := tb_in (i := 409) (by decide +kernel) (by decide +kernel)
theorem lk_X4_85 : Cond.methodLink RX4 85 nX4_findReason.1 ∈ gw := tb_in (i := 413) (by decide +kernel) (by decide +kernel)
theorem lk_X4_98 : Cond.methodLink RX4 98 nX5_copy.1 ∈ gw := tb_in (i := 417) (by decide +kernel) (by decide +kernel)
theorem lk_X4_105 : Cond.methodLink RX4 105 nX5_copyPart.1 ∈ gw := tb_in (i := 418) (by decide +kernel) (by decide +kernel)
theorem lk_X4_89 : Cond.methodLink RX4 89 nX6_add.1 ∈ gw := tb_in (i := 422) (by decide +kernel) (by decide +kernel)
theorem lk_X4_95 : Cond.methodLink RX4 95 nX3_takeOut.1 ∈ gw := tb_in (i := 426) (by decide +kernel) (by decide +kernel)
theorem lk_L_41 : Cond.methodLink RL 41 nX7_clash.1 ∈ gw := tb_in (i := 430) (by decide +kernel) (by decide +kernel)
theorem lk_L_45 : Cond.methodLink RL 45 nX7_has.1 ∈ gw := tb_in (i := 434) (by decide +kernel) (by decide +kernel)
theorem lk_L_49 : Cond.methodLink RL 49 nX7_end.1 ∈ gw := tb_in (i := 438) (by decide +kernel) (by decide +kernel)
theorem lk_X7_127 : Cond.methodLink RX7 127 nX7_mostOf.1 ∈ gw := tb_in (i := 442) (by decide +kernel) (by decide +kernel)
theorem lk_X7_131 : Cond.methodLink RX7 131 nX7_leastOf.1 ∈ gw := tb_in (i := 443) (by decide +kernel) (by decide +kernel)
theorem lk_L_54 : Cond.methodLink RL 54 nX7_size.1 ∈ gw := tb_in (i := 444) (by decide +kernel) (by decide +kernel)
theorem lk_X7_134 : Cond.methodLink RX7 134 nJ13_bitCount_95d88.1 ∈ gw := tb_in (i := 448) (by decide +kernel) (by decide +kernel)
theorem lk_L_59 : Cond.methodLink RL 59 nX7_steps.1 ∈ gw := tb_in (i := 454) (by decide +kernel) (by decide +kernel)
theorem lk_L_63 : Cond.methodLink RL 63 nX7_step.1 ∈ gw := tb_in (i := 458) (by decide +kernel) (by decide +kernel)
theorem lk_X7_139 : Cond.methodLink RX7 139 nX7_isStep.1 ∈ gw := tb_in (i := 462) (by decide +kernel) (by decide +kernel)
theorem lk_L_67 : Cond.methodLink RL 67 nX7_reason.1 ∈ gw := tb_in (i := 466) (by decide +kernel) (by decide +kernel)
theorem lk_X7_157 : Cond.methodLink RX7 157 nJ6_bitCount_0f7a4.1 ∈ gw := tb_in (i := 470) (by decide +kernel) (by decide +kernel)
theorem lk_L_71 : Cond.methodLink RL 71 nX7_part.1 ∈ gw := tb_in (i := 476) (by decide +kernel) (by decide +kernel)
theorem lk_X7_162 : Cond.methodLink RX7 162 nX6_partAt.1 ∈ gw := tb_in (i := 480) (by decide +kernel) (by decide +kernel)
theorem lk_L_75 : Cond.methodLink RL 75 nX7_told.1 ∈ gw := tb_in (i := 484) (by decide +kernel) (by decide +kernel)
theorem lk_X7_166 : Cond.methodLink RX7 166 nX7_part.1 ∈ gw := tb_in (i := 488) (by decide +kernel) (by decide +kernel)
theorem lk_X7_169 : Cond.methodLink RX7 169 nX6_without.1 ∈ gw := tb_in (i := 489) (by decide +kernel) (by decide +kernel)
theorem lk_X6_31 : Cond.methodLinkNest RX6 31 nX7_bitOf.1 "LinearReach" ∈ nw := tb_nw (i := 493) (by decide +kernel) (by decide +kernel)
theorem lk_L_79 : Cond.methodLink RL 79 nX7_plans.1 ∈ gw := tb_in (i := 495) (by decide +kernel) (by decide +kernel)
theorem lk_X7_173 : Cond.methodLink RX7 173 nX3_choices.1 ∈ gw := tb_in (i := 499) (by decide +kernel) (by decide +kernel)
theorem lk_X3_52 : Cond.methodLink RX3 52 nJ13_bitCount_95d88.1 ∈ gw := tb_in (i := 503) (by decide +kernel) (by decide +kernel)
theorem lk_X7_179 : Cond.methodLink RX7 179 nX0_countAll.1 ∈ gw := tb_in (i := 505) (by decide +kernel) (by decide +kernel)
theorem lk_X0_36 : Cond.methodLink RX0 36 nX1_lastName.1 ∈ gw := tb_in (i := 509) (by decide +kernel) (by decide +kernel)
theorem lk_X1_31 : Cond.methodLink RX1 31 nX1_isAbout.1 ∈ gw := tb_in (i := 513) (by decide +kernel) (by decide +kernel)
theorem lk_X0_42 : Cond.methodLink RX0 42 nX0_rowsHoldWith.1 ∈ gw := tb_in (i := 514) (by decide +kernel) (by decide +kernel)
theorem lk_X0_73 : Cond.methodLink RX0 73 nX1_holds.1 ∈ gw := tb_in (i := 518) (by decide +kernel) (by decide +kernel)
theorem lk_X1_35 : Cond.methodLink RX1 35 nX1_sumOf.1 ∈ gw := tb_in (i := 522) (by decide +kernel) (by decide +kernel)
theorem lk_X1_55 : Cond.methodLink RX1 55 nX1_countOf.1 ∈ gw := tb_in (i := 526) (by decide +kernel) (by decide +kernel)
theorem lk_X0_46 : Cond.methodLink RX0 46 nX0_countFrom.1 ∈ gw := tb_in (i := 530) (by decide +kernel) (by decide +kernel)
theorem lk_X0_69 : Cond.methodLinkNest RX0 69 nX7_hasBit.1 "LinearReach" ∈ nw := tb_nw (i := 534) (by decide +kernel) (by decide +kernel)
theorem lk_L_12 : Cond.methodLink RL 12 nX8_init.1 ∈ gw := tb_in (i := 537) (by decide +kernel) (by decide +kernel)
theorem lk_X8_1 : Cond.methodLink RX8 1 objectInit ∈ gw := tb_in (i := 540) (by decide +kernel) (by decide +kernel)
theorem lk_L_17 : Cond.methodLink RL 17 nX8_name.1 ∈ gw := tb_in (i := 600) (by decide +kernel) (by decide +kernel)
theorem lk_X8_60 : Cond.methodLink RX8 60 nX8_in.1 ∈ gw := tb_in (i := 604) (by decide +kernel) (by decide +kernel)
theorem lk_X8_73 : Cond.methodLink RX8 73 nX8_anew.1 ∈ gw := tb_in (i := 607) (by decide +kernel) (by decide +kernel)
theorem lk_L_21 : Cond.methodLink RL 21 nX8_leave.1 ∈ gw := tb_in (i := 611) (by decide +kernel) (by decide +kernel)
theorem lk_X8_76 : Cond.methodLink RX8 76 nX8_isName.1 ∈ gw := tb_in (i := 615) (by decide +kernel) (by decide +kernel)
theorem lk_X8_80 : Cond.methodLink RX8 80 nX8_many.1 ∈ gw := tb_in (i := 619) (by decide +kernel) (by decide +kernel)
theorem lk_L_26 : Cond.methodLink RL 26 nX8_row.1 ∈ gw := tb_in (i := 623) (by decide +kernel) (by decide +kernel)
theorem lk_X8_84 : Cond.methodLink RX8 84 nX8_owns.1 ∈ gw := tb_in (i := 627) (by decide +kernel) (by decide +kernel)
theorem lk_L_31 : Cond.methodLink RL 31 nX8_factor.1 ∈ gw := tb_in (i := 630) (by decide +kernel) (by decide +kernel)
theorem lk_X8_88 : Cond.methodLink RX8 88 nX8_isRow.1 ∈ gw := tb_in (i := 634) (by decide +kernel) (by decide +kernel)
theorem lk_X8_91 : Cond.methodLink RX8 91 nX8_hasFactors.1 ∈ gw := tb_in (i := 638) (by decide +kernel) (by decide +kernel)
theorem lk_L_36 : Cond.methodLink RL 36 nX8_clear.1 ∈ gw := tb_in (i := 641) (by decide +kernel) (by decide +kernel)
theorem lk_L_40 : Cond.methodLink RL 40 nX8_run.1 ∈ gw := tb_in (i := 645) (by decide +kernel) (by decide +kernel)
theorem lk_X8_137 : Cond.methodLink RX8 137 nX8_bounds.1 ∈ gw := tb_in (i := 649) (by decide +kernel) (by decide +kernel)
theorem lk_X8_121 : Cond.methodLink RX8 121 nX8_least.1 ∈ gw := tb_in (i := 653) (by decide +kernel) (by decide +kernel)
theorem lk_X8_124 : Cond.methodLink RX8 124 nX8_most.1 ∈ gw := tb_in (i := 657) (by decide +kernel) (by decide +kernel)
theorem lk_X8_144 : Cond.methodLink RX8 144 nX8_byRow.1 ∈ gw := tb_in (i := 661) (by decide +kernel) (by decide +kernel)
theorem lk_X8_127 : Cond.methodLink RX8 127 nX8_isAbout.1 ∈ gw := tb_in (i := 665) (by decide +kernel) (by decide +kernel)
theorem lk_X8_134 : Cond.methodLink RX8 134 nX8_impossible.1 ∈ gw := tb_in (i := 669) (by decide +kernel) (by decide +kernel)
theorem lk_X8_118 : Cond.methodLink RX8 118 nX8_can.1 ∈ gw := tb_in (i := 673) (by decide +kernel) (by decide +kernel)
theorem lk_X8_106 : Cond.methodLink RX8 106 nX8_leastSum.1 ∈ gw := tb_in (i := 677) (by decide +kernel) (by decide +kernel)
theorem lk_X8_109 : Cond.methodLink RX8 109 nX8_byTwo.1 ∈ gw := tb_in (i := 681) (by decide +kernel) (by decide +kernel)
theorem lk_X8_112 : Cond.methodLink RX8 112 nX8_byCount.1 ∈ gw := tb_in (i := 685) (by decide +kernel) (by decide +kernel)
theorem lk_X8_102 : Cond.methodLink RX8 102 nX8_may.1 ∈ gw := tb_in (i := 689) (by decide +kernel) (by decide +kernel)
theorem lk_X8_115 : Cond.methodLink RX8 115 nX8_byThree.1 ∈ gw := tb_in (i := 693) (by decide +kernel) (by decide +kernel)
theorem lk_X8_98 : Cond.methodLink RX8 98 nX8_come.1 ∈ gw := tb_in (i := 697) (by decide +kernel) (by decide +kernel)
theorem lk_X8_94 : Cond.methodLink RX8 94 nX8_down.1 ∈ gw := tb_in (i := 700) (by decide +kernel) (by decide +kernel)
theorem lk_X8_140 : Cond.methodLink RX8 140 nX8_take.1 ∈ gw := tb_in (i := 703) (by decide +kernel) (by decide +kernel)
theorem lk_X8_130 : Cond.methodLink RX8 130 nX8_setBound.1 ∈ gw := tb_in (i := 707) (by decide +kernel) (by decide +kernel)
theorem lk_L_44 : Cond.methodLink RL 44 nX8_clash.1 ∈ gw := tb_in (i := 711) (by decide +kernel) (by decide +kernel)
theorem lk_L_48 : Cond.methodLink RL 48 nX8_has.1 ∈ gw := tb_in (i := 715) (by decide +kernel) (by decide +kernel)
theorem lk_L_53 : Cond.methodLink RL 53 nX8_end.1 ∈ gw := tb_in (i := 719) (by decide +kernel) (by decide +kernel)
theorem lk_L_58 : Cond.methodLink RL 58 nX8_size.1 ∈ gw := tb_in (i := 723) (by decide +kernel) (by decide +kernel)
theorem lk_L_62 : Cond.methodLink RL 62 nX8_steps.1 ∈ gw := tb_in (i := 727) (by decide +kernel) (by decide +kernel)
theorem lk_L_66 : Cond.methodLink RL 66 nX8_step.1 ∈ gw := tb_in (i := 731) (by decide +kernel) (by decide +kernel)
theorem lk_L_70 : Cond.methodLink RL 70 nX8_reason.1 ∈ gw := tb_in (i := 735) (by decide +kernel) (by decide +kernel)
theorem lk_L_74 : Cond.methodLink RL 74 nX8_part.1 ∈ gw := tb_in (i := 739) (by decide +kernel) (by decide +kernel)
theorem lk_X8_148 : Cond.methodLink RX8 148 nX8_placeOf.1 ∈ gw := tb_in (i := 743) (by decide +kernel) (by decide +kernel)
theorem lk_L_78 : Cond.methodLink RL 78 nX8_told.1 ∈ gw := tb_in (i := 747) (by decide +kernel) (by decide +kernel)
theorem lk_L_82 : Cond.methodLink RL 82 nX8_plans.1 ∈ gw := tb_in (i := 751) (by decide +kernel) (by decide +kernel)
theorem lk_X8_151 : Cond.methodLink RX8 151 nX8_holds.1 ∈ gw := tb_in (i := 755) (by decide +kernel) (by decide +kernel)
theorem lk_X8_154 : Cond.methodLink RX8 154 nX8_nextPlan.1 ∈ gw := tb_in (i := 759) (by decide +kernel) (by decide +kernel)
theorem stM_max : Cond.static Lib.Math.max.name ∈ gw := tb_in (i := 391) (by decide +kernel) (by decide +kernel)
theorem cdM_max : Cond.code Lib.Math.max.name Lib.Math.max.code 2 (some .int) ∈ gw := tb_in (i := 392) (by decide +kernel) (by decide +kernel)
theorem stM_min : Cond.static Lib.Math.min.name ∈ gw := tb_in (i := 388) (by decide +kernel) (by decide +kernel)
theorem cdM_min : Cond.code Lib.Math.min.name Lib.Math.min.code 2 (some .int) ∈ gw := tb_in (i := 389) (by decide +kernel) (by decide +kernel)
theorem stM_abs : Cond.static Lib.Math.abs.name ∈ gw := tb_in (i := 366) (by decide +kernel) (by decide +kernel)
theorem cdM_abs : Cond.code Lib.Math.abs.name Lib.Math.abs.code 1 (some .int) ∈ gw := tb_in (i := 367) (by decide +kernel) (by decide +kernel)
theorem ntM_copy : Cond.native arraycopyName ∈ gw := tb_in (i := 261) (by decide +kernel) (by decide +kernel)
theorem stM_copy : Cond.static arraycopyName ∈ gw := tb_in (i := 260) (by decide +kernel) (by decide +kernel)
theorem iniM : Cond.initialized "java/lang/Math" ∈ gw := tb_in (i := 13) (by decide +kernel) (by decide +kernel)
theorem iniS : Cond.initialized "java/lang/System" ∈ gw := tb_in (i := 12) (by decide +kernel) (by decide +kernel)
theorem kt_X3_32 : Cond.constantLong RX3 32 (-1) ∈ gw := tb_in (i := 227) (by decide +kernel) (by decide +kernel)
theorem kt_J6_264 : Cond.constant RJ6 264 (65536) ∈ gw := tb_in (i := 241) (by decide +kernel) (by decide +kernel)
theorem kt_J13_314 : Cond.constantLong RJ13 314 (6148914691236517205) ∈ gw := tb_in (i := 451) (by decide +kernel) (by decide +kernel)
theorem kt_J13_316 : Cond.constantLong RJ13 316 (3689348814741910323) ∈ gw := tb_in (i := 452) (by decide +kernel) (by decide +kernel)
theorem kt_J13_318 : Cond.constantLong RJ13 318 (1085102592571150095) ∈ gw := tb_in (i := 453) (by decide +kernel) (by decide +kernel)
theorem kt_J6_265 : Cond.constant RJ6 265 (1431655765) ∈ gw := tb_in (i := 473) (by decide +kernel) (by decide +kernel)
theorem kt_J6_266 : Cond.constant RJ6 266 (858993459) ∈ gw := tb_in (i := 474) (by decide +kernel) (by decide +kernel)
theorem kt_J6_267 : Cond.constant RJ6 267 (252645135) ∈ gw := tb_in (i := 475) (by decide +kernel) (by decide +kernel)
theorem kt_X6_35 : Cond.constantLong RX6 35 (-1) ∈ gw := tb_in (i := 494) (by decide +kernel) (by decide +kernel)
theorem kt_X7_177 : Cond.constantLong RX7 177 (4000) ∈ gw := tb_in (i := 504) (by decide +kernel) (by decide +kernel)
theorem in_l0 : ∀ j, j < 4 → u_lay RX0 TX0 j ∈ gw
  | 0, _ => tb_in (i := 191) (by decide +kernel) (by decide +kernel)
  | 1, _ => tb_in (i := 193) (by decide +kernel) (by decide +kernel)
  | 2, _ => tb_in (i := 195) (by decide +kernel) (by decide +kernel)
  | 3, _ => tb_in (i := 197) (by decide +kernel) (by decide +kernel)
  | j + 4, h => by omega
theorem in_X0 : ∀ w ∈ u_ws RX0 TX0 4, w ∈ gw := by
  intro w hw
  obtain ⟨j, hj, rfl⟩ := List.mem_map.mp hw
  exact in_l0 j (List.mem_range.mp hj)
theorem in_l1 : ∀ j, j < 6 → u_lay RX1 TX1 j ∈ gw
  | 0, _ => tb_in (i := 96) (by decide +kernel) (by decide +kernel)
  | 1, _ => tb_in (i := 98) (by decide +kernel) (by decide +kernel)
  | 2, _ => tb_in (i := 100) (by decide +kernel) (by decide +kernel)
  | 3, _ => tb_in (i := 102) (by decide +kernel) (by decide +kernel)
  | 4, _ => tb_in (i := 104) (by decide +kernel) (by decide +kernel)
  | 5, _ => tb_in (i := 106) (by decide +kernel) (by decide +kernel)
  | j + 6, h => by omega
theorem in_X1 : ∀ w ∈ u_ws RX1 TX1 6, w ∈ gw := by
  intro w hw
  obtain ⟨j, hj, rfl⟩ := List.mem_map.mp hw
  exact in_l1 j (List.mem_range.mp hj)
theorem in_l2 : ∀ j, j < 2 → u_lay RX2 TX2 j ∈ gw
  | 0, _ => tb_in (i := 117) (by decide +kernel) (by decide +kernel)
  | 1, _ => tb_in (i := 119) (by decide +kernel) (by decide +kernel)
  | j + 2, h => by omega
theorem in_X2 : ∀ w ∈ u_ws RX2 TX2 2, w ∈ gw := by
  intro w hw
  obtain ⟨j, hj, rfl⟩ := List.mem_map.mp hw
  exact in_l2 j (List.mem_range.mp hj)
theorem in_l3 : ∀ j, j < 5 → u_lay RX3 TX3 j ∈ gw
  | 0, _ => tb_in (i := 64) (by decide +kernel) (by decide +kernel)
  | 1, _ => tb_in (i := 66) (by decide +kernel) (by decide +kernel)
  | 2, _ => tb_in (i := 68) (by decide +kernel) (by decide +kernel)
  | 3, _ => tb_in (i := 70) (by decide +kernel) (by decide +kernel)
  | 4, _ => tb_in (i := 72) (by decide +kernel) (by decide +kernel)
  | j + 5, h => by omega
theorem in_X3 : ∀ w ∈ u_ws RX3 TX3 5, w ∈ gw := by
  intro w hw
  obtain ⟨j, hj, rfl⟩ := List.mem_map.mp hw
  exact in_l3 j (List.mem_range.mp hj)
theorem in_l4 : ∀ j, j < 6 → u_lay RX4 TX4 j ∈ gw
  | 0, _ => tb_in (i := 168) (by decide +kernel) (by decide +kernel)
  | 1, _ => tb_in (i := 170) (by decide +kernel) (by decide +kernel)
  | 2, _ => tb_in (i := 172) (by decide +kernel) (by decide +kernel)
  | 3, _ => tb_in (i := 174) (by decide +kernel) (by decide +kernel)
  | 4, _ => tb_in (i := 176) (by decide +kernel) (by decide +kernel)
  | 5, _ => tb_in (i := 178) (by decide +kernel) (by decide +kernel)
  | j + 6, h => by omega
theorem in_X4 : ∀ w ∈ u_ws RX4 TX4 6, w ∈ gw := by
  intro w hw
  obtain ⟨j, hj, rfl⟩ := List.mem_map.mp hw
  exact in_l4 j (List.mem_range.mp hj)
theorem in_l5 : ∀ j, j < 2 → u_lay RX5 TX5 j ∈ gw
  | 0, _ => tb_in (i := 42) (by decide +kernel) (by decide +kernel)
  | 1, _ => tb_in (i := 44) (by decide +kernel) (by decide +kernel)
  | j + 2, h => by omega
theorem in_X5 : ∀ w ∈ u_ws RX5 TX5 2, w ∈ gw := by
  intro w hw
  obtain ⟨j, hj, rfl⟩ := List.mem_map.mp hw
  exact in_l5 j (List.mem_range.mp hj)
theorem in_l6 : ∀ j, j < 6 → u_lay RX6 TX6 j ∈ gw
  | 0, _ => tb_in (i := 140) (by decide +kernel) (by decide +kernel)
  | 1, _ => tb_in (i := 142) (by decide +kernel) (by decide +kernel)
  | 2, _ => tb_in (i := 144) (by decide +kernel) (by decide +kernel)
  | 3, _ => tb_in (i := 146) (by decide +kernel) (by decide +kernel)
  | 4, _ => tb_in (i := 148) (by decide +kernel) (by decide +kernel)
  | 5, _ => tb_in (i := 150) (by decide +kernel) (by decide +kernel)
  | j + 6, h => by omega
theorem in_X6 : ∀ w ∈ u_ws RX6 TX6 6, w ∈ gw := by
  intro w hw
  obtain ⟨j, hj, rfl⟩ := List.mem_map.mp hw
  exact in_l6 j (List.mem_range.mp hj)
theorem in_l7 : ∀ j, j < 5 → u_lay RX7 TX7 j ∈ gw
  | 0, _ => tb_in (i := 205) (by decide +kernel) (by decide +kernel)
  | 1, _ => tb_in (i := 207) (by decide +kernel) (by decide +kernel)
  | 2, _ => tb_in (i := 209) (by decide +kernel) (by decide +kernel)
  | 3, _ => tb_in (i := 211) (by decide +kernel) (by decide +kernel)
  | 4, _ => tb_in (i := 213) (by decide +kernel) (by decide +kernel)
  | j + 5, h => by omega
theorem in_X7 : ∀ w ∈ u_ws RX7 TX7 5, w ∈ gw := by
  intro w hw
  obtain ⟨j, hj, rfl⟩ := List.mem_map.mp hw
  exact in_l7 j (List.mem_range.mp hj)
theorem in_l8 : ∀ j, j < 19 → u_lay RX8 TX8 j ∈ gw
  | 0, _ => tb_in (i := 560) (by decide +kernel) (by decide +kernel)
  | 1, _ => tb_in (i := 562) (by decide +kernel) (by decide +kernel)
  | 2, _ => tb_in (i := 564) (by decide +kernel) (by decide +kernel)
  | 3, _ => tb_in (i := 566) (by decide +kernel) (by decide +kernel)
  | 4, _ => tb_in (i := 568) (by decide +kernel) (by decide +kernel)
  | 5, _ => tb_in (i := 570) (by decide +kernel) (by decide +kernel)
  | 6, _ => tb_in (i := 572) (by decide +kernel) (by decide +kernel)
  | 7, _ => tb_in (i := 574) (by decide +kernel) (by decide +kernel)
  | 8, _ => tb_in (i := 576) (by decide +kernel) (by decide +kernel)
  | 9, _ => tb_in (i := 578) (by decide +kernel) (by decide +kernel)
  | 10, _ => tb_in (i := 580) (by decide +kernel) (by decide +kernel)
  | 11, _ => tb_in (i := 582) (by decide +kernel) (by decide +kernel)
  | 12, _ => tb_in (i := 584) (by decide +kernel) (by decide +kernel)
  | 13, _ => tb_in (i := 586) (by decide +kernel) (by decide +kernel)
  | 14, _ => tb_in (i := 588) (by decide +kernel) (by decide +kernel)
  | 15, _ => tb_in (i := 590) (by decide +kernel) (by decide +kernel)
  | 16, _ => tb_in (i := 592) (by decide +kernel) (by decide +kernel)
  | 17, _ => tb_in (i := 594) (by decide +kernel) (by decide +kernel)
  | 18, _ => tb_in (i := 596) (by decide +kernel) (by decide +kernel)
  | j + 19, h => by omega
theorem in_X8 : ∀ w ∈ u_ws RX8 TX8 19, w ∈ gw := by
  intro w hw
  obtain ⟨j, hj, rfl⟩ := List.mem_map.mp hw
  exact in_l8 j (List.mem_range.mp hj)
theorem fo_X5_9 : FldOk 5 0 RX5 9 := ⟨RX5, TX5, 2, rfl, by decide, in_X5, tb_in (i := 34) (by decide +kernel) (by decide +kernel)⟩
theorem fo_X0_57 : FldOk 5 0 RX0 57 := ⟨RX5, TX5, 2, rfl, by decide, in_X5, tb_in (i := 35) (by decide +kernel) (by decide +kernel)⟩
theorem fo_X4_70 : FldOk 5 0 RX4 70 := ⟨RX5, TX5, 2, rfl, by decide, in_X5, tb_in (i := 36) (by decide +kernel) (by decide +kernel)⟩
theorem fo_X1_103 : FldOk 5 0 RX1 103 := ⟨RX5, TX5, 2, rfl, by decide, in_X5, tb_in (i := 37) (by decide +kernel) (by decide +kernel)⟩
theorem fo_X5_15 : FldOk 5 1 RX5 15 := ⟨RX5, TX5, 2, rfl, by decide, in_X5, tb_in (i := 38) (by decide +kernel) (by decide +kernel)⟩
theorem fo_X0_62 : FldOk 5 1 RX0 62 := ⟨RX5, TX5, 2, rfl, by decide, in_X5, tb_in (i := 39) (by decide +kernel) (by decide +kernel)⟩
theorem fo_X4_66 : FldOk 5 1 RX4 66 := ⟨RX5, TX5, 2, rfl, by decide, in_X5, tb_in (i := 40) (by decide +kernel) (by decide +kernel)⟩
theorem fo_X1_100 : FldOk 5 1 RX1 100 := ⟨RX5, TX5, 2, rfl, by decide, in_X5, tb_in (i := 41) (by decide +kernel) (by decide +kernel)⟩
theorem fo_X3_9 : FldOk 3 0 RX3 9 := ⟨RX3, TX3, 5, rfl, by decide, in_X3, tb_in (i := 49) (by decide +kernel) (by decide +kernel)⟩
theorem fw_X3_9 : FldW 3 0 RX3 9 := ⟨RX3, TX3, 5, tyX3, rfl, by decide, in_X3, tb_in (i := 49) (by decide +kernel) (by decide +kernel), tyX3_ok, nmX3, rfl, by decide +kernel⟩
theorem fo_X7_52 : FldOk 3 0 RX7 52 := ⟨RX3, TX3, 5, rfl, by decide, in_X3, tb_in (i := 50) (by decide +kernel) (by decide +kernel)⟩
theorem fw_X7_52 : FldW 3 0 RX7 52 := ⟨RX3, TX3, 5, tyX3, rfl, by decide, in_X3, tb_in (i := 50) (by decide +kernel) (by decide +kernel), tyX3_ok, nmX3, rfl, by decide +kernel⟩
theorem fo_X0_50 : FldOk 3 0 RX0 50 := ⟨RX3, TX3, 5, rfl, by decide, in_X3, tb_in (i := 51) (by decide +kernel) (by decide +kernel)⟩
theorem fw_X0_50 : FldW 3 0 RX0 50 := ⟨RX3, TX3, 5, tyX3, rfl, by decide, in_X3, tb_in (i := 51) (by decide +kernel) (by decide +kernel), tyX3_ok, nmX3, rfl, by decide +kernel⟩
theorem fo_X4_42 : FldOk 3 0 RX4 42 := ⟨RX3, TX3, 5, rfl, by decide, in_X3, tb_in (i := 52) (by decide +kernel) (by decide +kernel)⟩
theorem fw_X4_42 : FldW 3 0 RX4 42 := ⟨RX3, TX3, 5, tyX3, rfl, by decide, in_X3, tb_in (i := 52) (by decide +kernel) (by decide +kernel), tyX3_ok, nmX3, rfl, by decide +kernel⟩
theorem fo_X3_15 : FldOk 3 1 RX3 15 := ⟨RX3, TX3, 5, rfl, by decide, in_X3, tb_in (i := 53) (by decide +kernel) (by decide +kernel)⟩
theorem fo_X7_66 : FldOk 3 1 RX7 66 := ⟨RX3, TX3, 5, rfl, by decide, in_X3, tb_in (i := 54) (by decide +kernel) (by decide +kernel)⟩
theorem fo_X3_19 : FldOk 3 2 RX3 19 := ⟨RX3, TX3, 5, rfl, by decide, in_X3, tb_in (i := 55) (by decide +kernel) (by decide +kernel)⟩
theorem fo_X0_65 : FldOk 3 2 RX0 65 := ⟨RX3, TX3, 5, rfl, by decide, in_X3, tb_in (i := 56) (by decide +kernel) (by decide +kernel)⟩
theorem fo_X4_73 : FldOk 3 2 RX4 73 := ⟨RX3, TX3, 5, rfl, by decide, in_X3, tb_in (i := 57) (by decide +kernel) (by decide +kernel)⟩
theorem fo_X7_124 : FldOk 3 2 RX7 124 := ⟨RX3, TX3, 5, rfl, by decide, in_X3, tb_in (i := 58) (by decide +kernel) (by decide +kernel)⟩
theorem fo_X3_25 : FldOk 3 3 RX3 25 := ⟨RX3, TX3, 5, rfl, by decide, in_X3, tb_in (i := 59) (by decide +kernel) (by decide +kernel)⟩
theorem fo_X4_102 : FldOk 3 3 RX4 102 := ⟨RX3, TX3, 5, rfl, by decide, in_X3, tb_in (i := 60) (by decide +kernel) (by decide +kernel)⟩
theorem fo_X3_29 : FldOk 3 4 RX3 29 := ⟨RX3, TX3, 5, rfl, by decide, in_X3, tb_in (i := 61) (by decide +kernel) (by decide +kernel)⟩
theorem fo_X0_53 : FldOk 3 4 RX0 53 := ⟨RX3, TX3, 5, rfl, by decide, in_X3, tb_in (i := 62) (by decide +kernel) (by decide +kernel)⟩
theorem fo_X4_59 : FldOk 3 4 RX4 59 := ⟨RX3, TX3, 5, rfl, by decide, in_X3, tb_in (i := 63) (by decide +kernel) (by decide +kernel)⟩
theorem fo_X1_9 : FldOk 1 0 RX1 9 := ⟨RX1, TX1, 6, rfl, by decide, in_X1, tb_in (i := 88) (by decide +kernel) (by decide +kernel)⟩
theorem fw_X1_9 : FldW 1 0 RX1 9 := ⟨RX1, TX1, 6, tyX1, rfl, by decide, in_X1, tb_in (i := 88) (by decide +kernel) (by decide +kernel), tyX1_ok, nmX1, rfl, by decide +kernel⟩
theorem fo_X1_15 : FldOk 1 1 RX1 15 := ⟨RX1, TX1, 6, rfl, by decide, in_X1, tb_in (i := 89) (by decide +kernel) (by decide +kernel)⟩
theorem fw_X1_15 : FldW 1 1 RX1 15 := ⟨RX1, TX1, 6, tyX1, rfl, by decide, in_X1, tb_in (i := 89) (by decide +kernel) (by decide +kernel), tyX1_ok, nmX1, rfl, by decide +kernel⟩
theorem fo_X7_110 : FldOk 1 1 RX7 110 := ⟨RX1, TX1, 6, rfl, by decide, in_X1, tb_in (i := 90) (by decide +kernel) (by decide +kernel)⟩
theorem fw_X7_110 : FldW 1 1 RX7 110 := ⟨RX1, TX1, 6, tyX1, rfl, by decide, in_X1, tb_in (i := 90) (by decide +kernel) (by decide +kernel), tyX1_ok, nmX1, rfl, by decide +kernel⟩
theorem fo_X1_18 : FldOk 1 2 RX1 18 := ⟨RX1, TX1, 6, rfl, by decide, in_X1, tb_in (i := 91) (by decide +kernel) (by decide +kernel)⟩
theorem fw_X1_18 : FldW 1 2 RX1 18 := ⟨RX1, TX1, 6, tyX1, rfl, by decide, in_X1, tb_in (i := 91) (by decide +kernel) (by decide +kernel), tyX1_ok, nmX1, rfl, by decide +kernel⟩
theorem fo_X1_21 : FldOk 1 3 RX1 21 := ⟨RX1, TX1, 6, rfl, by decide, in_X1, tb_in (i := 92) (by decide +kernel) (by decide +kernel)⟩
theorem fw_X1_21 : FldW 1 3 RX1 21 := ⟨RX1, TX1, 6, tyX1, rfl, by decide, in_X1, tb_in (i := 92) (by decide +kernel) (by decide +kernel), tyX1_ok, nmX1, rfl, by decide +kernel⟩
theorem fo_X1_24 : FldOk 1 4 RX1 24 := ⟨RX1, TX1, 6, rfl, by decide, in_X1, tb_in (i := 93) (by decide +kernel) (by decide +kernel)⟩
theorem fw_X1_24 : FldW 1 4 RX1 24 := ⟨RX1, TX1, 6, tyX1, rfl, by decide, in_X1, tb_in (i := 93) (by decide +kernel) (by decide +kernel), tyX1_ok, nmX1, rfl, by decide +kernel⟩
theorem fo_X1_27 : FldOk 1 5 RX1 27 := ⟨RX1, TX1, 6, rfl, by decide, in_X1, tb_in (i := 94) (by decide +kernel) (by decide +kernel)⟩
theorem fo_X7_113 : FldOk 1 5 RX7 113 := ⟨RX1, TX1, 6, rfl, by decide, in_X1, tb_in (i := 95) (by decide +kernel) (by decide +kernel)⟩
theorem fo_X2_9 : FldOk 2 0 RX2 9 := ⟨RX2, TX2, 2, rfl, by decide, in_X2, tb_in (i := 109) (by decide +kernel) (by decide +kernel)⟩
theorem fw_X2_9 : FldW 2 0 RX2 9 := ⟨RX2, TX2, 2, tyX2, rfl, by decide, in_X2, tb_in (i := 109) (by decide +kernel) (by decide +kernel), tyX2_ok, nmX2, rfl, by decide +kernel⟩
theorem fo_X0_26 : FldOk 2 0 RX0 26 := ⟨RX2, TX2, 2, rfl, by decide, in_X2, tb_in (i := 110) (by decide +kernel) (by decide +kernel)⟩
theorem fw_X0_26 : FldW 2 0 RX0 26 := ⟨RX2, TX2, 2, tyX2, rfl, by decide, in_X2, tb_in (i := 110) (by decide +kernel) (by decide +kernel), tyX2_ok, nmX2, rfl, by decide +kernel⟩
theorem fo_X4_37 : FldOk 2 0 RX4 37 := ⟨RX2, TX2, 2, rfl, by decide, in_X2, tb_in (i := 111) (by decide +kernel) (by decide +kernel)⟩
theorem fw_X4_37 : FldW 2 0 RX4 37 := ⟨RX2, TX2, 2, tyX2, rfl, by decide, in_X2, tb_in (i := 111) (by decide +kernel) (by decide +kernel), tyX2_ok, nmX2, rfl, by decide +kernel⟩
theorem fo_X7_89 : FldOk 2 0 RX7 89 := ⟨RX2, TX2, 2, rfl, by decide, in_X2, tb_in (i := 112) (by decide +kernel) (by decide +kernel)⟩
theorem fw_X7_89 : FldW 2 0 RX7 89 := ⟨RX2, TX2, 2, tyX2, rfl, by decide, in_X2, tb_in (i := 112) (by decide +kernel) (by decide +kernel), tyX2_ok, nmX2, rfl, by decide +kernel⟩
theorem fo_X2_17 : FldOk 2 1 RX2 17 := ⟨RX2, TX2, 2, rfl, by decide, in_X2, tb_in (i := 113) (by decide +kernel) (by decide +kernel)⟩
theorem fo_X0_32 : FldOk 2 1 RX0 32 := ⟨RX2, TX2, 2, rfl, by decide, in_X2, tb_in (i := 114) (by decide +kernel) (by decide +kernel)⟩
theorem fo_X4_45 : FldOk 2 1 RX4 45 := ⟨RX2, TX2, 2, rfl, by decide, in_X2, tb_in (i := 115) (by decide +kernel) (by decide +kernel)⟩
theorem fo_X7_90 : FldOk 2 1 RX7 90 := ⟨RX2, TX2, 2, rfl, by decide, in_X2, tb_in (i := 116) (by decide +kernel) (by decide +kernel)⟩
theorem fo_X6_9 : FldOk 6 0 RX6 9 := ⟨RX6, TX6, 6, rfl, by decide, in_X6, tb_in (i := 128) (by decide +kernel) (by decide +kernel)⟩
theorem fw_X6_9 : FldW 6 0 RX6 9 := ⟨RX6, TX6, 6, tyX6, rfl, by decide, in_X6, tb_in (i := 128) (by decide +kernel) (by decide +kernel), tyX6_ok, nmX6, rfl, by decide +kernel⟩
theorem fo_X7_119 : FldOk 6 0 RX7 119 := ⟨RX6, TX6, 6, rfl, by decide, in_X6, tb_in (i := 129) (by decide +kernel) (by decide +kernel)⟩
theorem fw_X7_119 : FldW 6 0 RX7 119 := ⟨RX6, TX6, 6, tyX6, rfl, by decide, in_X6, tb_in (i := 129) (by decide +kernel) (by decide +kernel), tyX6_ok, nmX6, rfl, by decide +kernel⟩
theorem fo_X6_15 : FldOk 6 1 RX6 15 := ⟨RX6, TX6, 6, rfl, by decide, in_X6, tb_in (i := 130) (by decide +kernel) (by decide +kernel)⟩
theorem fo_X7_142 : FldOk 6 1 RX7 142 := ⟨RX6, TX6, 6, rfl, by decide, in_X6, tb_in (i := 131) (by decide +kernel) (by decide +kernel)⟩
theorem fo_X6_19 : FldOk 6 2 RX6 19 := ⟨RX6, TX6, 6, rfl, by decide, in_X6, tb_in (i := 132) (by decide +kernel) (by decide +kernel)⟩
theorem fo_X7_145 : FldOk 6 2 RX7 145 := ⟨RX6, TX6, 6, rfl, by decide, in_X6, tb_in (i := 133) (by decide +kernel) (by decide +kernel)⟩
theorem fo_X6_22 : FldOk 6 3 RX6 22 := ⟨RX6, TX6, 6, rfl, by decide, in_X6, tb_in (i := 134) (by decide +kernel) (by decide +kernel)⟩
theorem fo_X7_148 : FldOk 6 3 RX7 148 := ⟨RX6, TX6, 6, rfl, by decide, in_X6, tb_in (i := 135) (by decide +kernel) (by decide +kernel)⟩
theorem fo_X6_25 : FldOk 6 4 RX6 25 := ⟨RX6, TX6, 6, rfl, by decide, in_X6, tb_in (i := 136) (by decide +kernel) (by decide +kernel)⟩
theorem fo_X7_151 : FldOk 6 4 RX7 151 := ⟨RX6, TX6, 6, rfl, by decide, in_X6, tb_in (i := 137) (by decide +kernel) (by decide +kernel)⟩
theorem fo_X6_28 : FldOk 6 5 RX6 28 := ⟨RX6, TX6, 6, rfl, by decide, in_X6, tb_in (i := 138) (by decide +kernel) (by decide +kernel)⟩
theorem fo_X7_154 : FldOk 6 5 RX7 154 := ⟨RX6, TX6, 6, rfl, by decide, in_X6, tb_in (i := 139) (by decide +kernel) (by decide +kernel)⟩
theorem fo_X4_9 : FldOk 4 0 RX4 9 := ⟨RX4, TX4, 6, rfl, by decide, in_X4, tb_in (i := 161) (by decide +kernel) (by decide +kernel)⟩
theorem fw_X4_9 : FldW 4 0 RX4 9 := ⟨RX4, TX4, 6, tyX4, rfl, by decide, in_X4, tb_in (i := 161) (by decide +kernel) (by decide +kernel), tyX4_ok, nmX4, rfl, by decide +kernel⟩
theorem fo_X7_116 : FldOk 4 0 RX7 116 := ⟨RX4, TX4, 6, rfl, by decide, in_X4, tb_in (i := 162) (by decide +kernel) (by decide +kernel)⟩
theorem fw_X7_116 : FldW 4 0 RX7 116 := ⟨RX4, TX4, 6, tyX4, rfl, by decide, in_X4, tb_in (i := 162) (by decide +kernel) (by decide +kernel), tyX4_ok, nmX4, rfl, by decide +kernel⟩
theorem fo_X4_15 : FldOk 4 1 RX4 15 := ⟨RX4, TX4, 6, rfl, by decide, in_X4, tb_in (i := 163) (by decide +kernel) (by decide +kernel)⟩
theorem fw_X4_15 : FldW 4 1 RX4 15 := ⟨RX4, TX4, 6, tyX4, rfl, by decide, in_X4, tb_in (i := 163) (by decide +kernel) (by decide +kernel), tyX4_ok, nmX4, rfl, by decide +kernel⟩
theorem fo_X4_25 : FldOk 4 2 RX4 25 := ⟨RX4, TX4, 6, rfl, by decide, in_X4, tb_in (i := 164) (by decide +kernel) (by decide +kernel)⟩
theorem fo_X4_29 : FldOk 4 3 RX4 29 := ⟨RX4, TX4, 6, rfl, by decide, in_X4, tb_in (i := 165) (by decide +kernel) (by decide +kernel)⟩
theorem fo_X4_33 : FldOk 4 4 RX4 33 := ⟨RX4, TX4, 6, rfl, by decide, in_X4, tb_in (i := 166) (by decide +kernel) (by decide +kernel)⟩
theorem fo_X4_21 : FldOk 4 5 RX4 21 := ⟨RX4, TX4, 6, rfl, by decide, in_X4, tb_in (i := 167) (by decide +kernel) (by decide +kernel)⟩
theorem fo_X0_18 : FldOk 0 0 RX0 18 := ⟨RX0, TX0, 4, rfl, by decide, in_X0, tb_in (i := 187) (by decide +kernel) (by decide +kernel)⟩
theorem fo_X0_22 : FldOk 0 1 RX0 22 := ⟨RX0, TX0, 4, rfl, by decide, in_X0, tb_in (i := 188) (by decide +kernel) (by decide +kernel)⟩
theorem fo_X0_9 : FldOk 0 2 RX0 9 := ⟨RX0, TX0, 4, rfl, by decide, in_X0, tb_in (i := 189) (by decide +kernel) (by decide +kernel)⟩
theorem fo_X0_15 : FldOk 0 3 RX0 15 := ⟨RX0, TX0, 4, rfl, by decide, in_X0, tb_in (i := 190) (by decide +kernel) (by decide +kernel)⟩
theorem fo_X7_10 : FldOk 7 0 RX7 10 := ⟨RX7, TX7, 5, rfl, by decide, in_X7, tb_in (i := 200) (by decide +kernel) (by decide +kernel)⟩
theorem fo_X7_19 : FldOk 7 1 RX7 19 := ⟨RX7, TX7, 5, rfl, by decide, in_X7, tb_in (i := 201) (by decide +kernel) (by decide +kernel)⟩
theorem fo_X7_26 : FldOk 7 2 RX7 26 := ⟨RX7, TX7, 5, rfl, by decide, in_X7, tb_in (i := 202) (by decide +kernel) (by decide +kernel)⟩
theorem fo_X7_35 : FldOk 7 3 RX7 35 := ⟨RX7, TX7, 5, rfl, by decide, in_X7, tb_in (i := 203) (by decide +kernel) (by decide +kernel)⟩
theorem fo_X7_44 : FldOk 7 4 RX7 44 := ⟨RX7, TX7, 5, rfl, by decide, in_X7, tb_in (i := 204) (by decide +kernel) (by decide +kernel)⟩
theorem fo_X8_57 : FldOk 8 0 RX8 57 := ⟨RX8, TX8, 19, rfl, by decide, in_X8, tb_in (i := 541) (by decide +kernel) (by decide +kernel)⟩
theorem fw_X8_57 : FldW 8 0 RX8 57 := ⟨RX8, TX8, 19, tyX8, rfl, by decide, in_X8, tb_in (i := 541) (by decide +kernel) (by decide +kernel), tyX8_ok, nmX8, rfl, by decide +kernel⟩
theorem fo_X8_64 : FldOk 8 1 RX8 64 := ⟨RX8, TX8, 19, rfl, by decide, in_X8, tb_in (i := 542) (by decide +kernel) (by decide +kernel)⟩
theorem fw_X8_64 : FldW 8 1 RX8 64 := ⟨RX8, TX8, 19, tyX8, rfl, by decide, in_X8, tb_in (i := 542) (by decide +kernel) (by decide +kernel), tyX8_ok, nmX8, rfl, by decide +kernel⟩
theorem fo_X8_7 : FldOk 8 2 RX8 7 := ⟨RX8, TX8, 19, rfl, by decide, in_X8, tb_in (i := 543) (by decide +kernel) (by decide +kernel)⟩
theorem fo_X8_13 : FldOk 8 3 RX8 13 := ⟨RX8, TX8, 19, rfl, by decide, in_X8, tb_in (i := 544) (by decide +kernel) (by decide +kernel)⟩
theorem fo_X8_16 : FldOk 8 4 RX8 16 := ⟨RX8, TX8, 19, rfl, by decide, in_X8, tb_in (i := 545) (by decide +kernel) (by decide +kernel)⟩
theorem fo_X8_20 : FldOk 8 5 RX8 20 := ⟨RX8, TX8, 19, rfl, by decide, in_X8, tb_in (i := 546) (by decide +kernel) (by decide +kernel)⟩
theorem fo_X8_23 : FldOk 8 6 RX8 23 := ⟨RX8, TX8, 19, rfl, by decide, in_X8, tb_in (i := 547) (by decide +kernel) (by decide +kernel)⟩
theorem fo_X8_26 : FldOk 8 7 RX8 26 := ⟨RX8, TX8, 19, rfl, by decide, in_X8, tb_in (i := 548) (by decide +kernel) (by decide +kernel)⟩
theorem fo_X8_67 : FldOk 8 8 RX8 67 := ⟨RX8, TX8, 19, rfl, by decide, in_X8, tb_in (i := 549) (by decide +kernel) (by decide +kernel)⟩
theorem fw_X8_67 : FldW 8 8 RX8 67 := ⟨RX8, TX8, 19, tyX8, rfl, by decide, in_X8, tb_in (i := 549) (by decide +kernel) (by decide +kernel), tyX8_ok, nmX8, rfl, by decide +kernel⟩
theorem fo_X8_29 : FldOk 8 9 RX8 29 := ⟨RX8, TX8, 19, rfl, by decide, in_X8, tb_in (i := 550) (by decide +kernel) (by decide +kernel)⟩
theorem fw_X8_29 : FldW 8 9 RX8 29 := ⟨RX8, TX8, 19, tyX8, rfl, by decide, in_X8, tb_in (i := 550) (by decide +kernel) (by decide +kernel), tyX8_ok, nmX8, rfl, by decide +kernel⟩
theorem fo_X8_70 : FldOk 8 10 RX8 70 := ⟨RX8, TX8, 19, rfl, by decide, in_X8, tb_in (i := 551) (by decide +kernel) (by decide +kernel)⟩
theorem fw_X8_70 : FldW 8 10 RX8 70 := ⟨RX8, TX8, 19, tyX8, rfl, by decide, in_X8, tb_in (i := 551) (by decide +kernel) (by decide +kernel), tyX8_ok, nmX8, rfl, by decide +kernel⟩
theorem fo_X8_33 : FldOk 8 11 RX8 33 := ⟨RX8, TX8, 19, rfl, by decide, in_X8, tb_in (i := 552) (by decide +kernel) (by decide +kernel)⟩
theorem fo_X8_36 : FldOk 8 12 RX8 36 := ⟨RX8, TX8, 19, rfl, by decide, in_X8, tb_in (i := 553) (by decide +kernel) (by decide +kernel)⟩
theorem fo_X8_39 : FldOk 8 13 RX8 39 := ⟨RX8, TX8, 19, rfl, by decide, in_X8, tb_in (i := 554) (by decide +kernel) (by decide +kernel)⟩
theorem fo_X8_42 : FldOk 8 14 RX8 42 := ⟨RX8, TX8, 19, rfl, by decide, in_X8, tb_in (i := 555) (by decide +kernel) (by decide +kernel)⟩
theorem fo_X8_45 : FldOk 8 15 RX8 45 := ⟨RX8, TX8, 19, rfl, by decide, in_X8, tb_in (i := 556) (by decide +kernel) (by decide +kernel)⟩
theorem fo_X8_48 : FldOk 8 16 RX8 48 := ⟨RX8, TX8, 19, rfl, by decide, in_X8, tb_in (i := 557) (by decide +kernel) (by decide +kernel)⟩
theorem fo_X8_51 : FldOk 8 17 RX8 51 := ⟨RX8, TX8, 19, rfl, by decide, in_X8, tb_in (i := 558) (by decide +kernel) (by decide +kernel)⟩
theorem fo_X8_54 : FldOk 8 18 RX8 54 := ⟨RX8, TX8, 19, rfl, by decide, in_X8, tb_in (i := 559) (by decide +kernel) (by decide +kernel)⟩
theorem ar_2 (G : GT) : isAL G 2 8 := ⟨by decide, by decide, fun _ => rfl⟩
theorem ar_3 (G : GT) : isAL G 3 8 := ⟨by decide, by decide, fun _ => rfl⟩
theorem ar_5 (G : GT) : isAI G 5 8 := ⟨by decide, by decide, fun _ => rfl⟩
theorem ar_6 (G : GT) : isAI G 6 8 := ⟨by decide, by decide, fun _ => rfl⟩
theorem ar_8 (G : GT) : isAI G 8 8 := ⟨by decide, by decide, fun _ => rfl⟩
theorem ar_9 (G : GT) : isAI G 9 8 := ⟨by decide, by decide, fun _ => rfl⟩
theorem ar_20 (G : GT) : isAI G 20 8 := ⟨by decide, by decide, fun _ => rfl⟩
theorem ar_21 (G : GT) : isAI G 21 8 := ⟨by decide, by decide, fun _ => rfl⟩
theorem ar_23 (G : GT) : isAI G 23 8 := ⟨by decide, by decide, fun _ => rfl⟩
theorem ar_38 (G : GT) : isAI G 38 8 := ⟨by decide, by decide, fun _ => rfl⟩
theorem ar_39 (G : GT) : isAI G 39 8 := ⟨by decide, by decide, fun _ => rfl⟩
theorem ar_13 (G : GT) : isAI G 13 512 := ⟨by decide, by decide, fun _ => rfl⟩
theorem ar_14 (G : GT) : isAI G 14 512 := ⟨by decide, by decide, fun _ => rfl⟩
theorem ar_15 (G : GT) : isAI G 15 512 := ⟨by decide, by decide, fun _ => rfl⟩
theorem ar_16 (G : GT) : isAI G 16 512 := ⟨by decide, by decide, fun _ => rfl⟩
theorem ar_17 (G : GT) : isAI G 17 512 := ⟨by decide, by decide, fun _ => rfl⟩
theorem ar_32 (G : GT) : isAI G 32 512 := ⟨by decide, by decide, fun _ => rfl⟩
theorem ar_33 (G : GT) : isAI G 33 512 := ⟨by decide, by decide, fun _ => rfl⟩
theorem ar_34 (G : GT) : isAI G 34 512 := ⟨by decide, by decide, fun _ => rfl⟩
theorem ar_35 (G : GT) : isAI G 35 512 := ⟨by decide, by decide, fun _ => rfl⟩
theorem ar_24 (G : GT) : isAI G 24 12 := ⟨by decide, by decide, fun _ => rfl⟩
theorem ar_28 (G : GT) : isAI G 28 12 := ⟨by decide, by decide, fun _ => rfl⟩
theorem ar_29 (G : GT) : isAI G 29 36 := ⟨by decide, by decide, fun _ => rfl⟩
theorem ar_30 (G : GT) : isAI G 30 12 := ⟨by decide, by decide, fun _ => rfl⟩
theorem ar_31 (G : GT) : isAI G 31 96 := ⟨by decide, by decide, fun _ => rfl⟩
theorem ar_37 (G : GT) : isAI G 37 8192 := ⟨by decide, by decide, fun _ => rfl⟩
theorem ar_26 (G : GT) : isAZ G 26 512 := ⟨by decide, by decide, fun _ => rfl⟩
theorem ar_27 (G : GT) : isAZ G 27 512 := ⟨by decide, by decide, fun _ => rfl⟩
theorem ar_36 (G : GT) : isAZ G 36 8192 := ⟨by decide, by decide, fun _ => rfl⟩
theorem ar_fac (G : GT) {r : Nat} (hr : r < 12) : isAI G (52 + r) 8 := ⟨by omega, by decide, fun u => by unfold cE; rw [if_neg (by omega), if_neg (by omega)]⟩
theorem cE_row (G : GT) (v : Mem) {r : Nat} (hr : r < 12) : cE G v (40 + r) = .inr (1, [oI (v.1 (40 + r)) 0, oI (v.1 (40 + r)) 1, oI (v.1 (40 + r)) 2, oI (v.1 (40 + r)) 3, oI (v.1 (40 + r)) 4, .ref (G.2.1 (52 + r))]) := by
  unfold cE; rw [if_neg (by omega), if_pos (by omega), show 40 + r + 12 = 52 + r by omega]
