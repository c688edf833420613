/-! ===== methods and their words ===== -/
theorem mTbl_w {ch : List Cond} {w : Cond} (hc : ∀ w ∈ ch, w ∈ lw_tbl) (h : w ∈ ch) (g : goodWord w = true) : w ∈ mTbl := List.mem_filter.mpr ⟨hc w h, g⟩
theorem mTbl_s {ch : List (MethodName × Nat)} {y : MethodName} {n : Nat} (hc : ∀ q ∈ ch, q ∈ lw_privs) (h : (y, n) ∈ ch) : Cond.selects y.cls y y ∈ mTbl := List.mem_filter.mpr ⟨List.mem_append_left _ (List.mem_map.mpr ⟨(y, n), hc _ h, rfl⟩), rfl⟩
theorem kt0 : ∀ w ∈ tables_1, w ∈ lw_tbl := fun _ h => List.mem_append_right _ h
theorem kt1 : ∀ w ∈ tables_1_1, w ∈ lw_tbl := fun _ h => kt0 _ (List.mem_append_left _ (h))
theorem kt2 : ∀ w ∈ tables_1_2, w ∈ lw_tbl := fun _ h => kt0 _ (List.mem_append_right _ (List.mem_append_left _ (h)))
theorem kt3 : ∀ w ∈ tables_1_3, w ∈ lw_tbl := fun _ h => kt0 _ (List.mem_append_right _ (List.mem_append_right _ (List.mem_append_left _ (h))))
theorem kt4 : ∀ w ∈ tables_1_4, w ∈ lw_tbl := fun _ h => kt0 _ (List.mem_append_right _ (List.mem_append_right _ (List.mem_append_right _ (List.mem_append_left _ (h)))))
theorem kt5 : ∀ w ∈ tables_1_5, w ∈ lw_tbl := fun _ h => kt0 _ (List.mem_append_right _ (List.mem_append_right _ (List.mem_append_right _ (List.mem_append_right _ (List.mem_append_left _ (h))))))
theorem kt6 : ∀ w ∈ tables_1_6, w ∈ lw_tbl := fun _ h => kt0 _ (List.mem_append_right _ (List.mem_append_right _ (List.mem_append_right _ (List.mem_append_right _ (List.mem_append_right _ (List.mem_append_left _ (h)))))))
theorem kt7 : ∀ w ∈ tables_1_7, w ∈ lw_tbl := fun _ h => kt0 _ (List.mem_append_right _ (List.mem_append_right _ (List.mem_append_right _ (List.mem_append_right _ (List.mem_append_right _ (List.mem_append_right _ (List.mem_append_left _ (h))))))))
theorem kt8 : ∀ w ∈ tables_1_8, w ∈ lw_tbl := fun _ h => kt0 _ (List.mem_append_right _ (List.mem_append_right _ (List.mem_append_right _ (List.mem_append_right _ (List.mem_append_right _ (List.mem_append_right _ (List.mem_append_right _ (h))))))))
theorem kp1 : ∀ w ∈ lw_privs_1, w ∈ lw_privs := fun _ h => List.mem_append_left _ (h)
theorem kp2 : ∀ w ∈ lw_privs_2, w ∈ lw_privs := fun _ h => List.mem_append_right _ (List.mem_append_left _ (h))
theorem kp3 : ∀ w ∈ lw_privs_3, w ∈ lw_privs := fun _ h => List.mem_append_right _ (List.mem_append_right _ (List.mem_append_left _ (h)))
theorem kp4 : ∀ w ∈ lw_privs_4, w ∈ lw_privs := fun _ h => List.mem_append_right _ (List.mem_append_right _ (List.mem_append_right _ (List.mem_append_left _ (h))))
theorem kp5 : ∀ w ∈ lw_privs_5, w ∈ lw_privs := fun _ h => List.mem_append_right _ (List.mem_append_right _ (List.mem_append_right _ (List.mem_append_right _ (List.mem_append_left _ (h)))))
theorem kp6 : ∀ w ∈ lw_privs_6, w ∈ lw_privs := fun _ h => List.mem_append_right _ (List.mem_append_right _ (List.mem_append_right _ (List.mem_append_right _ (List.mem_append_right _ (List.mem_append_left _ (h))))))
theorem kp7 : ∀ w ∈ lw_privs_7, w ∈ lw_privs := fun _ h => List.mem_append_right _ (List.mem_append_right _ (List.mem_append_right _ (List.mem_append_right _ (List.mem_append_right _ (List.mem_append_right _ (List.mem_append_left _ (h)))))))
theorem kp8 : ∀ w ∈ lw_privs_8, w ∈ lw_privs := fun _ h => List.mem_append_right _ (List.mem_append_right _ (List.mem_append_right _ (List.mem_append_right _ (List.mem_append_right _ (List.mem_append_right _ (List.mem_append_right _ (List.mem_append_left _ (h))))))))
theorem kp9 : ∀ w ∈ lw_privs_9, w ∈ lw_privs := fun _ h => List.mem_append_right _ (List.mem_append_right _ (List.mem_append_right _ (List.mem_append_right _ (List.mem_append_right _ (List.mem_append_right _ (List.mem_append_right _ (List.mem_append_right _ (h))))))))
def mX0_init : mM := (yX0_init, cX0_init, 1, none)
theorem tX0_init : mMt mX0_init 0 := ⟨mTbl_w kt1 (List.mem_of_getElem? (i := 177) rfl) rfl, mTbl_w kt1 (List.mem_of_getElem? (i := 6) rfl) rfl, by decide +kernel, by decide +kernel, by decide +kernel, by decide +kernel⟩
theorem nX0_init : Cond.instanceMethod yX0_init ∈ mTbl := mTbl_w kt1 (List.mem_of_getElem? (i := 176) rfl) rfl
def mX0_solve : mM := (yX0_solve, cX0_solve, 5, none)
theorem tX0_solve : mMt mX0_solve 2 := ⟨mTbl_w kt4 (List.mem_of_getElem? (i := 63) rfl) rfl, mTbl_w kt1 (List.mem_of_getElem? (i := 6) rfl) rfl, by decide +kernel, by decide +kernel, by decide +kernel, by decide +kernel⟩
theorem nX0_solve : Cond.instanceMethod yX0_solve ∈ mTbl := mTbl_w kt4 (List.mem_of_getElem? (i := 61) rfl) rfl
theorem vX0_solve : Cond.selects yX0_solve.cls yX0_solve yX0_solve ∈ mTbl := mTbl_w kt4 (List.mem_of_getElem? (i := 62) rfl) rfl
def mX0_findFirsts : mM := (yX0_findFirsts, cX0_findFirsts, 7, some .int)
theorem tX0_findFirsts : mMt mX0_findFirsts 2 := ⟨mTbl_w kt4 (List.mem_of_getElem? (i := 67) rfl) rfl, mTbl_w kt1 (List.mem_of_getElem? (i := 6) rfl) rfl, by decide +kernel, by decide +kernel, by decide +kernel, by decide +kernel⟩
theorem nX0_findFirsts : Cond.instanceMethod yX0_findFirsts ∈ mTbl := mTbl_w kt4 (List.mem_of_getElem? (i := 66) rfl) rfl
theorem vX0_findFirsts : Cond.selects yX0_findFirsts.cls yX0_findFirsts yX0_findFirsts ∈ mTbl := mTbl_s kp2 (List.mem_of_getElem? (i := 15) rfl)
def mX0_pickFor : mM := (yX0_pickFor, cX0_pickFor, 8, none)
theorem tX0_pickFor : mMt mX0_pickFor 2 := ⟨mTbl_w kt4 (List.mem_of_getElem? (i := 72) rfl) rfl, mTbl_w kt1 (List.mem_of_getElem? (i := 6) rfl) rfl, by decide +kernel, by decide +kernel, by decide +kernel, by decide +kernel⟩
theorem nX0_pickFor : Cond.instanceMethod yX0_pickFor ∈ mTbl := mTbl_w kt4 (List.mem_of_getElem? (i := 71) rfl) rfl
theorem vX0_pickFor : Cond.selects yX0_pickFor.cls yX0_pickFor yX0_pickFor ∈ mTbl := mTbl_s kp3 (List.mem_of_getElem? (i := 0) rfl)
def mX0_isBetter : mM := (yX0_isBetter, cX0_isBetter, 5, some .boolean)
theorem tX0_isBetter : mMt mX0_isBetter 4 := ⟨mTbl_w kt4 (List.mem_of_getElem? (i := 79) rfl) rfl, mTbl_w kt1 (List.mem_of_getElem? (i := 6) rfl) rfl, by decide +kernel, by decide +kernel, by decide +kernel, by decide +kernel⟩
theorem nX0_isBetter : Cond.instanceMethod yX0_isBetter ∈ mTbl := mTbl_w kt4 (List.mem_of_getElem? (i := 78) rfl) rfl
theorem vX0_isBetter : Cond.selects yX0_isBetter.cls yX0_isBetter yX0_isBetter ∈ mTbl := mTbl_s kp3 (List.mem_of_getElem? (i := 1) rfl)
def mX0_isRightOn : mM := (yX0_isRightOn, cX0_isRightOn, 5, some .boolean)
theorem tX0_isRightOn : mMt mX0_isRightOn 2 := ⟨mTbl_w kt5 (List.mem_of_getElem? (i := 125) rfl) rfl, mTbl_w kt1 (List.mem_of_getElem? (i := 6) rfl) rfl, by decide +kernel, by decide +kernel, by decide +kernel, by decide +kernel⟩
theorem nX0_isRightOn : Cond.instanceMethod yX0_isRightOn ∈ mTbl := mTbl_w kt5 (List.mem_of_getElem? (i := 123) rfl) rfl
theorem vX0_isRightOn : Cond.selects yX0_isRightOn.cls yX0_isRightOn yX0_isRightOn ∈ mTbl := mTbl_w kt5 (List.mem_of_getElem? (i := 124) rfl) rfl
def mX1_init : mM := (yX1_init, cX1_init, 1, none)
theorem tX1_init : mMt mX1_init 0 := ⟨mTbl_w kt1 (List.mem_of_getElem? (i := 31) rfl) rfl, mTbl_w kt1 (List.mem_of_getElem? (i := 2) rfl) rfl, by decide +kernel, by decide +kernel, by decide +kernel, by decide +kernel⟩
theorem nX1_init : Cond.instanceMethod yX1_init ∈ mTbl := mTbl_w kt1 (List.mem_of_getElem? (i := 30) rfl) rfl
def mX1_has : mM := (yX1_has, cX1_has, 2, some .boolean)
theorem tX1_has : mMt mX1_has 1 := ⟨mTbl_w kt3 (List.mem_of_getElem? (i := 119) rfl) rfl, mTbl_w kt1 (List.mem_of_getElem? (i := 2) rfl) rfl, by decide +kernel, by decide +kernel, by decide +kernel, by decide +kernel⟩
theorem nX1_has : Cond.instanceMethod yX1_has ∈ mTbl := mTbl_w kt3 (List.mem_of_getElem? (i := 117) rfl) rfl
theorem vX1_has : Cond.selects yX1_has.cls yX1_has yX1_has ∈ mTbl := mTbl_w kt3 (List.mem_of_getElem? (i := 118) rfl) rfl
def mX1_find : mM := (yX1_find, cX1_find, 4, some .int)
theorem tX1_find : mMt mX1_find 1 := ⟨mTbl_w kt2 (List.mem_of_getElem? (i := 210) rfl) rfl, mTbl_w kt1 (List.mem_of_getElem? (i := 2) rfl) rfl, by decide +kernel, by decide +kernel, by decide +kernel, by decide +kernel⟩
theorem nX1_find : Cond.instanceMethod yX1_find ∈ mTbl := mTbl_w kt2 (List.mem_of_getElem? (i := 208) rfl) rfl
theorem vX1_find : Cond.selects yX1_find.cls yX1_find yX1_find ∈ mTbl := mTbl_w kt2 (List.mem_of_getElem? (i := 209) rfl) rfl
def mX1_add : mM := (yX1_add, cX1_add, 5, none)
theorem tX1_add : mMt mX1_add 3 := ⟨mTbl_w kt2 (List.mem_of_getElem? (i := 227) rfl) rfl, mTbl_w kt1 (List.mem_of_getElem? (i := 2) rfl) rfl, by decide +kernel, by decide +kernel, by decide +kernel, by decide +kernel⟩
theorem nX1_add : Cond.instanceMethod yX1_add ∈ mTbl := mTbl_w kt2 (List.mem_of_getElem? (i := 225) rfl) rfl
theorem vX1_add : Cond.selects yX1_add.cls yX1_add yX1_add ∈ mTbl := mTbl_w kt2 (List.mem_of_getElem? (i := 226) rfl) rfl
def mX1_lineOf : mM := (yX1_lineOf, cX1_lineOf, 5, some .int)
theorem tX1_lineOf : mMt mX1_lineOf 1 := ⟨mTbl_w kt3 (List.mem_of_getElem? (i := 180) rfl) rfl, mTbl_w kt1 (List.mem_of_getElem? (i := 2) rfl) rfl, by decide +kernel, by decide +kernel, by decide +kernel, by decide +kernel⟩
theorem nX1_lineOf : Cond.instanceMethod yX1_lineOf ∈ mTbl := mTbl_w kt3 (List.mem_of_getElem? (i := 178) rfl) rfl
theorem vX1_lineOf : Cond.selects yX1_lineOf.cls yX1_lineOf yX1_lineOf ∈ mTbl := mTbl_w kt3 (List.mem_of_getElem? (i := 179) rfl) rfl
def mX2_init : mM := (yX2_init, cX2_init, 1, none)
theorem tX2_init : mMt mX2_init 0 := ⟨mTbl_w kt1 (List.mem_of_getElem? (i := 214) rfl) rfl, mTbl_w kt1 (List.mem_of_getElem? (i := 7) rfl) rfl, by decide +kernel, by decide +kernel, by decide +kernel, by decide +kernel⟩
theorem nX2_init : Cond.instanceMethod yX2_init ∈ mTbl := mTbl_w kt1 (List.mem_of_getElem? (i := 213) rfl) rfl
def mX2_lay : mM := (yX2_lay, cX2_lay, 6, none)
theorem tX2_lay : mMt mX2_lay 2 := ⟨mTbl_w kt3 (List.mem_of_getElem? (i := 208) rfl) rfl, mTbl_w kt1 (List.mem_of_getElem? (i := 7) rfl) rfl, by decide +kernel, by decide +kernel, by decide +kernel, by decide +kernel⟩
theorem nX2_lay : Cond.instanceMethod yX2_lay ∈ mTbl := mTbl_w kt3 (List.mem_of_getElem? (i := 206) rfl) rfl
theorem vX2_lay : Cond.selects yX2_lay.cls yX2_lay yX2_lay ∈ mTbl := mTbl_w kt3 (List.mem_of_getElem? (i := 207) rfl) rfl
def mX2_stand : mM := (yX2_stand, cX2_stand, 3, none)
theorem tX2_stand : mMt mX2_stand 2 := ⟨mTbl_w kt3 (List.mem_of_getElem? (i := 217) rfl) rfl, mTbl_w kt1 (List.mem_of_getElem? (i := 7) rfl) rfl, by decide +kernel, by decide +kernel, by decide +kernel, by decide +kernel⟩
theorem nX2_stand : Cond.instanceMethod yX2_stand ∈ mTbl := mTbl_w kt3 (List.mem_of_getElem? (i := 216) rfl) rfl
theorem vX2_stand : Cond.selects yX2_stand.cls yX2_stand yX2_stand ∈ mTbl := mTbl_s kp2 (List.mem_of_getElem? (i := 5) rfl)
def mX2_layMarked : mM := (yX2_layMarked, cX2_layMarked, 6, none)
theorem tX2_layMarked : mMt mX2_layMarked 3 := ⟨mTbl_w kt3 (List.mem_of_getElem? (i := 203) rfl) rfl, mTbl_w kt1 (List.mem_of_getElem? (i := 7) rfl) rfl, by decide +kernel, by decide +kernel, by decide +kernel, by decide +kernel⟩
theorem nX2_layMarked : Cond.instanceMethod yX2_layMarked ∈ mTbl := mTbl_w kt3 (List.mem_of_getElem? (i := 201) rfl) rfl
theorem vX2_layMarked : Cond.selects yX2_layMarked.cls yX2_layMarked yX2_layMarked ∈ mTbl := mTbl_w kt3 (List.mem_of_getElem? (i := 202) rfl) rfl
def mX2_within : mM := (yX2_within, cX2_within, 3, none)
theorem tX2_within : mMt mX2_within 2 := ⟨mTbl_w kt3 (List.mem_of_getElem? (i := 221) rfl) rfl, mTbl_w kt1 (List.mem_of_getElem? (i := 7) rfl) rfl, by decide +kernel, by decide +kernel, by decide +kernel, by decide +kernel⟩
theorem nX2_within : Cond.instanceMethod yX2_within ∈ mTbl := mTbl_w kt3 (List.mem_of_getElem? (i := 219) rfl) rfl
theorem vX2_within : Cond.selects yX2_within.cls yX2_within yX2_within ∈ mTbl := mTbl_w kt3 (List.mem_of_getElem? (i := 220) rfl) rfl
def mX2_isNewAt : mM := (yX2_isNewAt, cX2_isNewAt, 3, some .boolean)
theorem tX2_isNewAt : mMt mX2_isNewAt 2 := ⟨mTbl_w kt4 (List.mem_of_getElem? (i := 9) rfl) rfl, mTbl_w kt1 (List.mem_of_getElem? (i := 7) rfl) rfl, by decide +kernel, by decide +kernel, by decide +kernel, by decide +kernel⟩
theorem nX2_isNewAt : Cond.instanceMethod yX2_isNewAt ∈ mTbl := mTbl_w kt4 (List.mem_of_getElem? (i := 7) rfl) rfl
theorem vX2_isNewAt : Cond.selects yX2_isNewAt.cls yX2_isNewAt yX2_isNewAt ∈ mTbl := mTbl_w kt4 (List.mem_of_getElem? (i := 8) rfl) rfl
def mX2_standing : mM := (yX2_standing, cX2_standing, 3, some .long)
theorem tX2_standing : mMt mX2_standing 2 := ⟨mTbl_w kt4 (List.mem_of_getElem? (i := 55) rfl) rfl, mTbl_w kt1 (List.mem_of_getElem? (i := 7) rfl) rfl, by decide +kernel, by decide +kernel, by decide +kernel, by decide +kernel⟩
theorem nX2_standing : Cond.instanceMethod yX2_standing ∈ mTbl := mTbl_w kt4 (List.mem_of_getElem? (i := 54) rfl) rfl
theorem vX2_standing : Cond.selects yX2_standing.cls yX2_standing yX2_standing ∈ mTbl := mTbl_s kp2 (List.mem_of_getElem? (i := 14) rfl)
def mX2_sliceBy : mM := (yX2_sliceBy, cX2_sliceBy, 5, some .int)
theorem tX2_sliceBy : mMt mX2_sliceBy 2 := ⟨mTbl_w kt4 (List.mem_of_getElem? (i := 165) rfl) rfl, mTbl_w kt1 (List.mem_of_getElem? (i := 7) rfl) rfl, by decide +kernel, by decide +kernel, by decide +kernel, by decide +kernel⟩
theorem nX2_sliceBy : Cond.instanceMethod yX2_sliceBy ∈ mTbl := mTbl_w kt4 (List.mem_of_getElem? (i := 163) rfl) rfl
theorem vX2_sliceBy : Cond.selects yX2_sliceBy.cls yX2_sliceBy yX2_sliceBy ∈ mTbl := mTbl_w kt4 (List.mem_of_getElem? (i := 164) rfl) rfl
def mX2_slice : mM := (yX2_slice, cX2_slice, 6, none)
theorem tX2_slice : mMt mX2_slice 2 := ⟨mTbl_w kt4 (List.mem_of_getElem? (i := 44) rfl) rfl, mTbl_w kt1 (List.mem_of_getElem? (i := 7) rfl) rfl, by decide +kernel, by decide +kernel, by decide +kernel, by decide +kernel⟩
theorem nX2_slice : Cond.instanceMethod yX2_slice ∈ mTbl := mTbl_w kt4 (List.mem_of_getElem? (i := 42) rfl) rfl
theorem vX2_slice : Cond.selects yX2_slice.cls yX2_slice yX2_slice ∈ mTbl := mTbl_w kt4 (List.mem_of_getElem? (i := 43) rfl) rfl
def mX2_findPart : mM := (yX2_findPart, cX2_findPart, 9, some .boolean)
theorem tX2_findPart : mMt mX2_findPart 2 := ⟨mTbl_w kt4 (List.mem_of_getElem? (i := 48) rfl) rfl, mTbl_w kt1 (List.mem_of_getElem? (i := 7) rfl) rfl, by decide +kernel, by decide +kernel, by decide +kernel, by decide +kernel⟩
theorem nX2_findPart : Cond.instanceMethod yX2_findPart ∈ mTbl := mTbl_w kt4 (List.mem_of_getElem? (i := 47) rfl) rfl
theorem vX2_findPart : Cond.selects yX2_findPart.cls yX2_findPart yX2_findPart ∈ mTbl := mTbl_s kp2 (List.mem_of_getElem? (i := 13) rfl)
def mX2_verdict : mM := (yX2_verdict, cX2_verdict, 5, some .int)
theorem tX2_verdict : mMt mX2_verdict 2 := ⟨mTbl_w kt4 (List.mem_of_getElem? (i := 59) rfl) rfl, mTbl_w kt1 (List.mem_of_getElem? (i := 7) rfl) rfl, by decide +kernel, by decide +kernel, by decide +kernel, by decide +kernel⟩
theorem nX2_verdict : Cond.instanceMethod yX2_verdict ∈ mTbl := mTbl_w kt4 (List.mem_of_getElem? (i := 57) rfl) rfl
theorem vX2_verdict : Cond.selects yX2_verdict.cls yX2_verdict yX2_verdict ∈ mTbl := mTbl_w kt4 (List.mem_of_getElem? (i := 58) rfl) rfl
def mX3_init : mM := (yX3_init, cX3_init, 2, none)
theorem tX3_init : mMt mX3_init 0 := ⟨mTbl_w kt1 (List.mem_of_getElem? (i := 114) rfl) rfl, mTbl_w kt1 (List.mem_of_getElem? (i := 4) rfl) rfl, by decide +kernel, by decide +kernel, by decide +kernel, by decide +kernel⟩
theorem nX3_init : Cond.instanceMethod yX3_init ∈ mTbl := mTbl_w kt1 (List.mem_of_getElem? (i := 113) rfl) rfl
def mX3_stateAt : mM := (yX3_stateAt, cX3_stateAt, 2, some (.object "FieldCutter$State"))
theorem tX3_stateAt : mMt mX3_stateAt 1 := ⟨mTbl_w kt3 (List.mem_of_getElem? (i := 11) rfl) rfl, mTbl_w kt1 (List.mem_of_getElem? (i := 4) rfl) rfl, by decide +kernel, by decide +kernel, by decide +kernel, by decide +kernel⟩
theorem nX3_stateAt : Cond.instanceMethod yX3_stateAt ∈ mTbl := mTbl_w kt3 (List.mem_of_getElem? (i := 10) rfl) rfl
theorem vX3_stateAt : Cond.selects yX3_stateAt.cls yX3_stateAt yX3_stateAt ∈ mTbl := mTbl_s kp1 (List.mem_of_getElem? (i := 15) rfl)
def mX3_now : mM := (yX3_now, cX3_now, 1, some (.object "FieldCutter$State"))
theorem tX3_now : mMt mX3_now 0 := ⟨mTbl_w kt3 (List.mem_of_getElem? (i := 7) rfl) rfl, mTbl_w kt1 (List.mem_of_getElem? (i := 4) rfl) rfl, by decide +kernel, by decide +kernel, by decide +kernel, by decide +kernel⟩
theorem nX3_now : Cond.instanceMethod yX3_now ∈ mTbl := mTbl_w kt3 (List.mem_of_getElem? (i := 5) rfl) rfl
theorem vX3_now : Cond.selects yX3_now.cls yX3_now yX3_now ∈ mTbl := mTbl_w kt3 (List.mem_of_getElem? (i := 6) rfl) rfl
def mX3_begin : mM := (yX3_begin, cX3_begin, 3, some (.object "FieldCutter$State"))
theorem tX3_begin : mMt mX3_begin 0 := ⟨mTbl_w kt3 (List.mem_of_getElem? (i := 107) rfl) rfl, mTbl_w kt1 (List.mem_of_getElem? (i := 4) rfl) rfl, by decide +kernel, by decide +kernel, by decide +kernel, by decide +kernel⟩
theorem nX3_begin : Cond.instanceMethod yX3_begin ∈ mTbl := mTbl_w kt3 (List.mem_of_getElem? (i := 105) rfl) rfl
theorem vX3_begin : Cond.selects yX3_begin.cls yX3_begin yX3_begin ∈ mTbl := mTbl_w kt3 (List.mem_of_getElem? (i := 106) rfl) rfl
def mX3_stepBack : mM := (yX3_stepBack, cX3_stepBack, 1, some .boolean)
theorem tX3_stepBack : mMt mX3_stepBack 0 := ⟨mTbl_w kt4 (List.mem_of_getElem? (i := 209) rfl) rfl, mTbl_w kt1 (List.mem_of_getElem? (i := 4) rfl) rfl, by decide +kernel, by decide +kernel, by decide +kernel, by decide +kernel⟩
theorem nX3_stepBack : Cond.instanceMethod yX3_stepBack ∈ mTbl := mTbl_w kt4 (List.mem_of_getElem? (i := 207) rfl) rfl
theorem vX3_stepBack : Cond.selects yX3_stepBack.cls yX3_stepBack yX3_stepBack ∈ mTbl := mTbl_w kt4 (List.mem_of_getElem? (i := 208) rfl) rfl
def mX3_stepOn : mM := (yX3_stepOn, cX3_stepOn, 1, some .boolean)
theorem tX3_stepOn : mMt mX3_stepOn 0 := ⟨mTbl_w kt4 (List.mem_of_getElem? (i := 217) rfl) rfl, mTbl_w kt1 (List.mem_of_getElem? (i := 4) rfl) rfl, by decide +kernel, by decide +kernel, by decide +kernel, by decide +kernel⟩
theorem nX3_stepOn : Cond.instanceMethod yX3_stepOn ∈ mTbl := mTbl_w kt4 (List.mem_of_getElem? (i := 215) rfl) rfl
theorem vX3_stepOn : Cond.selects yX3_stepOn.cls yX3_stepOn yX3_stepOn ∈ mTbl := mTbl_w kt4 (List.mem_of_getElem? (i := 216) rfl) rfl
def mX3_restart : mM := (yX3_restart, cX3_restart, 2, none)
theorem tX3_restart : mMt mX3_restart 1 := ⟨mTbl_w kt3 (List.mem_of_getElem? (i := 3) rfl) rfl, mTbl_w kt1 (List.mem_of_getElem? (i := 4) rfl) rfl, by decide +kernel, by decide +kernel, by decide +kernel, by decide +kernel⟩
theorem nX3_restart : Cond.instanceMethod yX3_restart ∈ mTbl := mTbl_w kt3 (List.mem_of_getElem? (i := 1) rfl) rfl
theorem vX3_restart : Cond.selects yX3_restart.cls yX3_restart yX3_restart ∈ mTbl := mTbl_w kt3 (List.mem_of_getElem? (i := 2) rfl) rfl
def mX4_init : mM := (yX4_init, cX4_init, 7, none)
theorem tX4_init : mMt mX4_init 4 := ⟨mTbl_w kt4 (List.mem_of_getElem? (i := 84) rfl) rfl, mTbl_w kt1 (List.mem_of_getElem? (i := 17) rfl) rfl, by decide +kernel, by decide +kernel, by decide +kernel, by decide +kernel⟩
theorem nX4_init : Cond.instanceMethod yX4_init ∈ mTbl := mTbl_w kt4 (List.mem_of_getElem? (i := 83) rfl) rfl
def mX4_measure : mM := (yX4_measure, cX4_measure, 10, none)
theorem tX4_measure : mMt mX4_measure 3 := ⟨mTbl_w kt4 (List.mem_of_getElem? (i := 92) rfl) rfl, mTbl_w kt1 (List.mem_of_getElem? (i := 17) rfl) rfl, by decide +kernel, by decide +kernel, by decide +kernel, by decide +kernel⟩
theorem nX4_measure : Cond.instanceMethod yX4_measure ∈ mTbl := mTbl_w kt4 (List.mem_of_getElem? (i := 91) rfl) rfl
theorem vX4_measure : Cond.selects yX4_measure.cls yX4_measure yX4_measure ∈ mTbl := mTbl_s kp3 (List.mem_of_getElem? (i := 2) rfl)
def mX4_weave : mM := (yX4_weave, cX4_weave, 10, none)
theorem tX4_weave : mMt mX4_weave 2 := ⟨mTbl_w kt4 (List.mem_of_getElem? (i := 106) rfl) rfl, mTbl_w kt1 (List.mem_of_getElem? (i := 17) rfl) rfl, by decide +kernel, by decide +kernel, by decide +kernel, by decide +kernel⟩
theorem nX4_weave : Cond.instanceMethod yX4_weave ∈ mTbl := mTbl_w kt4 (List.mem_of_getElem? (i := 105) rfl) rfl
theorem vX4_weave : Cond.selects yX4_weave.cls yX4_weave yX4_weave ∈ mTbl := mTbl_s kp3 (List.mem_of_getElem? (i := 3) rfl)
def mX4_isLike : mM := (yX4_isLike, cX4_isLike, 3, some .boolean)
theorem tX4_isLike : mMt mX4_isLike 1 := ⟨mTbl_w kt5 (List.mem_of_getElem? (i := 39) rfl) rfl, mTbl_w kt1 (List.mem_of_getElem? (i := 17) rfl) rfl, by decide +kernel, by decide +kernel, by decide +kernel, by decide +kernel⟩
theorem nX4_isLike : Cond.instanceMethod yX4_isLike ∈ mTbl := mTbl_w kt5 (List.mem_of_getElem? (i := 37) rfl) rfl
theorem vX4_isLike : Cond.selects yX4_isLike.cls yX4_isLike yX4_isLike ∈ mTbl := mTbl_w kt5 (List.mem_of_getElem? (i := 38) rfl) rfl
def mX4_misfit : mM := (yX4_misfit, cX4_misfit, 10, some .int)
theorem tX4_misfit : mMt mX4_misfit 3 := ⟨mTbl_w kt4 (List.mem_of_getElem? (i := 197) rfl) rfl, mTbl_w kt1 (List.mem_of_getElem? (i := 17) rfl) rfl, by decide +kernel, by decide +kernel, by decide +kernel, by decide +kernel⟩
theorem nX4_misfit : Cond.instanceMethod yX4_misfit ∈ mTbl := mTbl_w kt4 (List.mem_of_getElem? (i := 195) rfl) rfl
theorem vX4_misfit : Cond.selects yX4_misfit.cls yX4_misfit yX4_misfit ∈ mTbl := mTbl_w kt4 (List.mem_of_getElem? (i := 196) rfl) rfl
def mX4_misfitOf : mM := (yX4_misfitOf, cX4_misfitOf, 5, some .int)
theorem tX4_misfitOf : mMt mX4_misfitOf 3 := ⟨mTbl_w kt4 (List.mem_of_getElem? (i := 201) rfl) rfl, mTbl_w kt1 (List.mem_of_getElem? (i := 17) rfl) rfl, by decide +kernel, by decide +kernel, by decide +kernel, by decide +kernel⟩
theorem nX4_misfitOf : Cond.instanceMethod yX4_misfitOf ∈ mTbl := mTbl_w kt4 (List.mem_of_getElem? (i := 200) rfl) rfl
theorem vX4_misfitOf : Cond.selects yX4_misfitOf.cls yX4_misfitOf yX4_misfitOf ∈ mTbl := mTbl_s kp3 (List.mem_of_getElem? (i := 12) rfl)
def mX5_init : mM := (yX5_init, cX5_init, 1, none)
theorem tX5_init : mMt mX5_init 0 := ⟨mTbl_w kt2 (List.mem_of_getElem? (i := 39) rfl) rfl, mTbl_w kt1 (List.mem_of_getElem? (i := 9) rfl) rfl, by decide +kernel, by decide +kernel, by decide +kernel, by decide +kernel⟩
theorem nX5_init : Cond.instanceMethod yX5_init ∈ mTbl := mTbl_w kt2 (List.mem_of_getElem? (i := 38) rfl) rfl
def mX5_spell : mM := (yX5_spell, cX5_spell, 12, none)
theorem tX5_spell : mMt mX5_spell 4 := ⟨mTbl_w kt5 (List.mem_of_getElem? (i := 59) rfl) rfl, mTbl_w kt1 (List.mem_of_getElem? (i := 9) rfl) rfl, by decide +kernel, by decide +kernel, by decide +kernel, by decide +kernel⟩
theorem nX5_spell : Cond.instanceMethod yX5_spell ∈ mTbl := mTbl_w kt5 (List.mem_of_getElem? (i := 57) rfl) rfl
theorem vX5_spell : Cond.selects yX5_spell.cls yX5_spell yX5_spell ∈ mTbl := mTbl_w kt5 (List.mem_of_getElem? (i := 58) rfl) rfl
def mX5_putText : mM := (yX5_putText, cX5_putText, 4, none)
theorem tX5_putText : mMt mX5_putText 1 := ⟨mTbl_w kt5 (List.mem_of_getElem? (i := 69) rfl) rfl, mTbl_w kt1 (List.mem_of_getElem? (i := 9) rfl) rfl, by decide +kernel, by decide +kernel, by decide +kernel, by decide +kernel⟩
theorem nX5_putText : Cond.instanceMethod yX5_putText ∈ mTbl := mTbl_w kt5 (List.mem_of_getElem? (i := 68) rfl) rfl
theorem vX5_putText : Cond.selects yX5_putText.cls yX5_putText yX5_putText ∈ mTbl := mTbl_s kp4 (List.mem_of_getElem? (i := 0) rfl)
def mX5_put : mM := (yX5_put, cX5_put, 2, none)
theorem tX5_put : mMt mX5_put 1 := ⟨mTbl_w kt5 (List.mem_of_getElem? (i := 65) rfl) rfl, mTbl_w kt1 (List.mem_of_getElem? (i := 9) rfl) rfl, by decide +kernel, by decide +kernel, by decide +kernel, by decide +kernel⟩
theorem nX5_put : Cond.instanceMethod yX5_put ∈ mTbl := mTbl_w kt5 (List.mem_of_getElem? (i := 64) rfl) rfl
theorem vX5_put : Cond.selects yX5_put.cls yX5_put yX5_put ∈ mTbl := mTbl_s kp3 (List.mem_of_getElem? (i := 15) rfl)
def mX5_at : mM := (yX5_at, cX5_at, 2, some .int)
theorem tX5_at : mMt mX5_at 1 := ⟨mTbl_w kt5 (List.mem_of_getElem? (i := 74) rfl) rfl, mTbl_w kt1 (List.mem_of_getElem? (i := 9) rfl) rfl, by decide +kernel, by decide +kernel, by decide +kernel, by decide +kernel⟩
theorem nX5_at : Cond.instanceMethod yX5_at ∈ mTbl := mTbl_w kt5 (List.mem_of_getElem? (i := 72) rfl) rfl
theorem vX5_at : Cond.selects yX5_at.cls yX5_at yX5_at ∈ mTbl := mTbl_w kt5 (List.mem_of_getElem? (i := 73) rfl) rfl
def mX5_isLike : mM := (yX5_isLike, cX5_isLike, 3, some .boolean)
theorem tX5_isLike : mMt mX5_isLike 1 := ⟨mTbl_w kt5 (List.mem_of_getElem? (i := 90) rfl) rfl, mTbl_w kt1 (List.mem_of_getElem? (i := 9) rfl) rfl, by decide +kernel, by decide +kernel, by decide +kernel, by decide +kernel⟩
theorem nX5_isLike : Cond.instanceMethod yX5_isLike ∈ mTbl := mTbl_w kt5 (List.mem_of_getElem? (i := 88) rfl) rfl
theorem vX5_isLike : Cond.selects yX5_isLike.cls yX5_isLike yX5_isLike ∈ mTbl := mTbl_w kt5 (List.mem_of_getElem? (i := 89) rfl) rfl
def mX6_init : mM := (yX6_init, cX6_init, 10, none)
theorem tX6_init : mMt mX6_init 4 := ⟨mTbl_w kt3 (List.mem_of_getElem? (i := 37) rfl) rfl, mTbl_w kt1 (List.mem_of_getElem? (i := 15) rfl) rfl, by decide +kernel, by decide +kernel, by decide +kernel, by decide +kernel⟩
theorem nX6_init : Cond.instanceMethod yX6_init ∈ mTbl := mTbl_w kt3 (List.mem_of_getElem? (i := 36) rfl) rfl
def mX6_numberIn : mM := (yX6_numberIn, cX6_numberIn, 8, some .int)
theorem tX6_numberIn : mMt mX6_numberIn 3 := ⟨mTbl_w kt3 (List.mem_of_getElem? (i := 63) rfl) rfl, mTbl_w kt1 (List.mem_of_getElem? (i := 15) rfl) rfl, by decide +kernel, by decide +kernel, by decide +kernel, by decide +kernel⟩
theorem sX6_numberIn : Cond.static yX6_numberIn ∈ mTbl := mTbl_w kt3 (List.mem_of_getElem? (i := 62) rfl) rfl
def mX6_kindAt : mM := (yX6_kindAt, cX6_kindAt, 2, some .int)
theorem tX6_kindAt : mMt mX6_kindAt 1 := ⟨mTbl_w kt4 (List.mem_of_getElem? (i := 101) rfl) rfl, mTbl_w kt1 (List.mem_of_getElem? (i := 15) rfl) rfl, by decide +kernel, by decide +kernel, by decide +kernel, by decide +kernel⟩
theorem nX6_kindAt : Cond.instanceMethod yX6_kindAt ∈ mTbl := mTbl_w kt4 (List.mem_of_getElem? (i := 99) rfl) rfl
theorem vX6_kindAt : Cond.selects yX6_kindAt.cls yX6_kindAt yX6_kindAt ∈ mTbl := mTbl_w kt4 (List.mem_of_getElem? (i := 100) rfl) rfl
def mX6_itemAt : mM := (yX6_itemAt, cX6_itemAt, 3, some .int)
theorem tX6_itemAt : mMt mX6_itemAt 2 := ⟨mTbl_w kt3 (List.mem_of_getElem? (i := 213) rfl) rfl, mTbl_w kt1 (List.mem_of_getElem? (i := 15) rfl) rfl, by decide +kernel, by decide +kernel, by decide +kernel, by decide +kernel⟩
theorem nX6_itemAt : Cond.instanceMethod yX6_itemAt ∈ mTbl := mTbl_w kt3 (List.mem_of_getElem? (i := 211) rfl) rfl
theorem vX6_itemAt : Cond.selects yX6_itemAt.cls yX6_itemAt yX6_itemAt ∈ mTbl := mTbl_w kt3 (List.mem_of_getElem? (i := 212) rfl) rfl
def mX7_init : mM := (yX7_init, cX7_init, 1, none)
theorem tX7_init : mMt mX7_init 0 := ⟨mTbl_w kt1 (List.mem_of_getElem? (i := 61) rfl) rfl, mTbl_w kt1 (List.mem_of_getElem? (i := 3) rfl) rfl, by decide +kernel, by decide +kernel, by decide +kernel, by decide +kernel⟩
theorem nX7_init : Cond.instanceMethod yX7_init ∈ mTbl := mTbl_w kt1 (List.mem_of_getElem? (i := 60) rfl) rfl
def mX7_readBook : mM := (yX7_readBook, cX7_readBook, 4, some .boolean)
theorem tX7_readBook : mMt mX7_readBook 2 := ⟨mTbl_w kt2 (List.mem_of_getElem? (i := 157) rfl) rfl, mTbl_w kt1 (List.mem_of_getElem? (i := 3) rfl) rfl, by decide +kernel, by decide +kernel, by decide +kernel, by decide +kernel⟩
theorem nX7_readBook : Cond.instanceMethod yX7_readBook ∈ mTbl := mTbl_w kt2 (List.mem_of_getElem? (i := 155) rfl) rfl
theorem vX7_readBook : Cond.selects yX7_readBook.cls yX7_readBook yX7_readBook ∈ mTbl := mTbl_w kt2 (List.mem_of_getElem? (i := 156) rfl) rfl
def mX7_readOnePage : mM := (yX7_readOnePage, cX7_readOnePage, 3, some .boolean)
theorem tX7_readOnePage : mMt mX7_readOnePage 2 := ⟨mTbl_w kt3 (List.mem_of_getElem? (i := 103) rfl) rfl, mTbl_w kt1 (List.mem_of_getElem? (i := 3) rfl) rfl, by decide +kernel, by decide +kernel, by decide +kernel, by decide +kernel⟩
theorem nX7_readOnePage : Cond.instanceMethod yX7_readOnePage ∈ mTbl := mTbl_w kt3 (List.mem_of_getElem? (i := 101) rfl) rfl
theorem vX7_readOnePage : Cond.selects yX7_readOnePage.cls yX7_readOnePage yX7_readOnePage ∈ mTbl := mTbl_w kt3 (List.mem_of_getElem? (i := 102) rfl) rfl
def mX7_open : mM := (yX7_open, cX7_open, 3, none)
theorem tX7_open : mMt mX7_open 2 := ⟨mTbl_w kt2 (List.mem_of_getElem? (i := 161) rfl) rfl, mTbl_w kt1 (List.mem_of_getElem? (i := 3) rfl) rfl, by decide +kernel, by decide +kernel, by decide +kernel, by decide +kernel⟩
theorem nX7_open : Cond.instanceMethod yX7_open ∈ mTbl := mTbl_w kt2 (List.mem_of_getElem? (i := 160) rfl) rfl
theorem vX7_open : Cond.selects yX7_open.cls yX7_open yX7_open ∈ mTbl := mTbl_s kp1 (List.mem_of_getElem? (i := 1) rfl)
def mX7_refuse : mM := (yX7_refuse, cX7_refuse, 2, none)
theorem tX7_refuse : mMt mX7_refuse 1 := ⟨mTbl_w kt2 (List.mem_of_getElem? (i := 206) rfl) rfl, mTbl_w kt1 (List.mem_of_getElem? (i := 3) rfl) rfl, by decide +kernel, by decide +kernel, by decide +kernel, by decide +kernel⟩
theorem nX7_refuse : Cond.instanceMethod yX7_refuse ∈ mTbl := mTbl_w kt2 (List.mem_of_getElem? (i := 205) rfl) rfl
theorem vX7_refuse : Cond.selects yX7_refuse.cls yX7_refuse yX7_refuse ∈ mTbl := mTbl_s kp1 (List.mem_of_getElem? (i := 8) rfl)
def mX7_readField : mM := (yX7_readField, cX7_readField, 4, none)
theorem tX7_readField : mMt mX7_readField 0 := ⟨mTbl_w kt2 (List.mem_of_getElem? (i := 194) rfl) rfl, mTbl_w kt1 (List.mem_of_getElem? (i := 3) rfl) rfl, by decide +kernel, by decide +kernel, by decide +kernel, by decide +kernel⟩
theorem nX7_readField : Cond.instanceMethod yX7_readField ∈ mTbl := mTbl_w kt2 (List.mem_of_getElem? (i := 193) rfl) rfl
theorem vX7_readField : Cond.selects yX7_readField.cls yX7_readField yX7_readField ∈ mTbl := mTbl_s kp1 (List.mem_of_getElem? (i := 6) rfl)
def mX7_readParent : mM := (yX7_readParent, cX7_readParent, 2, some .int)
theorem tX7_readParent : mMt mX7_readParent 0 := ⟨mTbl_w kt2 (List.mem_of_getElem? (i := 214) rfl) rfl, mTbl_w kt1 (List.mem_of_getElem? (i := 3) rfl) rfl, by decide +kernel, by decide +kernel, by decide +kernel, by decide +kernel⟩
theorem nX7_readParent : Cond.instanceMethod yX7_readParent ∈ mTbl := mTbl_w kt2 (List.mem_of_getElem? (i := 213) rfl) rfl
theorem vX7_readParent : Cond.selects yX7_readParent.cls yX7_readParent yX7_readParent ∈ mTbl := mTbl_s kp1 (List.mem_of_getElem? (i := 9) rfl)
def mX7_readRest : mM := (yX7_readRest, cX7_readRest, 5, none)
theorem tX7_readRest : mMt mX7_readRest 2 := ⟨mTbl_w kt2 (List.mem_of_getElem? (i := 218) rfl) rfl, mTbl_w kt1 (List.mem_of_getElem? (i := 3) rfl) rfl, by decide +kernel, by decide +kernel, by decide +kernel, by decide +kernel⟩
theorem nX7_readRest : Cond.instanceMethod yX7_readRest ∈ mTbl := mTbl_w kt2 (List.mem_of_getElem? (i := 217) rfl) rfl
theorem vX7_readRest : Cond.selects yX7_readRest.cls yX7_readRest yX7_readRest ∈ mTbl := mTbl_s kp1 (List.mem_of_getElem? (i := 10) rfl)
def mX7_readPage : mM := (yX7_readPage, cX7_readPage, 2, none)
theorem tX7_readPage : mMt mX7_readPage 0 := ⟨mTbl_w kt2 (List.mem_of_getElem? (i := 231) rfl) rfl, mTbl_w kt1 (List.mem_of_getElem? (i := 3) rfl) rfl, by decide +kernel, by decide +kernel, by decide +kernel, by decide +kernel⟩
theorem nX7_readPage : Cond.instanceMethod yX7_readPage ∈ mTbl := mTbl_w kt2 (List.mem_of_getElem? (i := 230) rfl) rfl
theorem vX7_readPage : Cond.selects yX7_readPage.cls yX7_readPage yX7_readPage ∈ mTbl := mTbl_s kp1 (List.mem_of_getElem? (i := 12) rfl)
def mX7_isWord : mM := (yX7_isWord, cX7_isWord, 3, some .boolean)
theorem tX7_isWord : mMt mX7_isWord 1 := ⟨mTbl_w kt2 (List.mem_of_getElem? (i := 190) rfl) rfl, mTbl_w kt1 (List.mem_of_getElem? (i := 3) rfl) rfl, by decide +kernel, by decide +kernel, by decide +kernel, by decide +kernel⟩
theorem nX7_isWord : Cond.instanceMethod yX7_isWord ∈ mTbl := mTbl_w kt2 (List.mem_of_getElem? (i := 189) rfl) rfl
theorem vX7_isWord : Cond.selects yX7_isWord.cls yX7_isWord yX7_isWord ∈ mTbl := mTbl_s kp1 (List.mem_of_getElem? (i := 5) rfl)
def mX7_isSemicolon : mM := (yX7_isSemicolon, cX7_isSemicolon, 1, some .boolean)
theorem tX7_isSemicolon : mMt mX7_isSemicolon 0 := ⟨mTbl_w kt2 (List.mem_of_getElem? (i := 222) rfl) rfl, mTbl_w kt1 (List.mem_of_getElem? (i := 3) rfl) rfl, by decide +kernel, by decide +kernel, by decide +kernel, by decide +kernel⟩
theorem nX7_isSemicolon : Cond.instanceMethod yX7_isSemicolon ∈ mTbl := mTbl_w kt2 (List.mem_of_getElem? (i := 221) rfl) rfl
theorem vX7_isSemicolon : Cond.selects yX7_isSemicolon.cls yX7_isSemicolon yX7_isSemicolon ∈ mTbl := mTbl_s kp1 (List.mem_of_getElem? (i := 11) rfl)
def mX7_isOfPage : mM := (yX7_isOfPage, cX7_isOfPage, 1, some .boolean)
theorem tX7_isOfPage : mMt mX7_isOfPage 0 := ⟨mTbl_w kt2 (List.mem_of_getElem? (i := 235) rfl) rfl, mTbl_w kt1 (List.mem_of_getElem? (i := 3) rfl) rfl, by decide +kernel, by decide +kernel, by decide +kernel, by decide +kernel⟩
theorem nX7_isOfPage : Cond.instanceMethod yX7_isOfPage ∈ mTbl := mTbl_w kt2 (List.mem_of_getElem? (i := 234) rfl) rfl
theorem vX7_isOfPage : Cond.selects yX7_isOfPage.cls yX7_isOfPage yX7_isOfPage ∈ mTbl := mTbl_s kp1 (List.mem_of_getElem? (i := 13) rfl)
def mX7_isName : mM := (yX7_isName, cX7_isName, 1, some .boolean)
theorem tX7_isName : mMt mX7_isName 0 := ⟨mTbl_w kt2 (List.mem_of_getElem? (i := 198) rfl) rfl, mTbl_w kt1 (List.mem_of_getElem? (i := 3) rfl) rfl, by decide +kernel, by decide +kernel, by decide +kernel, by decide +kernel⟩
theorem nX7_isName : Cond.instanceMethod yX7_isName ∈ mTbl := mTbl_w kt2 (List.mem_of_getElem? (i := 197) rfl) rfl
theorem vX7_isName : Cond.selects yX7_isName.cls yX7_isName yX7_isName ∈ mTbl := mTbl_s kp1 (List.mem_of_getElem? (i := 7) rfl)
def mX7_step : mM := (yX7_step, cX7_step, 1, none)
theorem tX7_step : mMt mX7_step 0 := ⟨mTbl_w kt2 (List.mem_of_getElem? (i := 168) rfl) rfl, mTbl_w kt1 (List.mem_of_getElem? (i := 3) rfl) rfl, by decide +kernel, by decide +kernel, by decide +kernel, by decide +kernel⟩
theorem nX7_step : Cond.instanceMethod yX7_step ∈ mTbl := mTbl_w kt2 (List.mem_of_getElem? (i := 167) rfl) rfl
theorem vX7_step : Cond.selects yX7_step.cls yX7_step yX7_step ∈ mTbl := mTbl_s kp1 (List.mem_of_getElem? (i := 2) rfl)
def mX7_takeLetters : mM := (yX7_takeLetters, cX7_takeLetters, 2, none)
theorem tX7_takeLetters : mMt mX7_takeLetters 0 := ⟨mTbl_w kt2 (List.mem_of_getElem? (i := 175) rfl) rfl, mTbl_w kt1 (List.mem_of_getElem? (i := 3) rfl) rfl, by decide +kernel, by decide +kernel, by decide +kernel, by decide +kernel⟩
theorem nX7_takeLetters : Cond.instanceMethod yX7_takeLetters ∈ mTbl := mTbl_w kt2 (List.mem_of_getElem? (i := 174) rfl) rfl
theorem vX7_takeLetters : Cond.selects yX7_takeLetters.cls yX7_takeLetters yX7_takeLetters ∈ mTbl := mTbl_s kp1 (List.mem_of_getElem? (i := 3) rfl)
def mX7_takeDigits : mM := (yX7_takeDigits, cX7_takeDigits, 3, none)
theorem tX7_takeDigits : mMt mX7_takeDigits 0 := ⟨mTbl_w kt2 (List.mem_of_getElem? (i := 182) rfl) rfl, mTbl_w kt1 (List.mem_of_getElem? (i := 3) rfl) rfl, by decide +kernel, by decide +kernel, by decide +kernel, by decide +kernel⟩
theorem nX7_takeDigits : Cond.instanceMethod yX7_takeDigits ∈ mTbl := mTbl_w kt2 (List.mem_of_getElem? (i := 181) rfl) rfl
theorem vX7_takeDigits : Cond.selects yX7_takeDigits.cls yX7_takeDigits yX7_takeDigits ∈ mTbl := mTbl_s kp1 (List.mem_of_getElem? (i := 4) rfl)
def mX7_isSign : mM := (yX7_isSign, cX7_isSign, 1, some .boolean)
theorem tX7_isSign : mMt mX7_isSign 1 := ⟨mTbl_w kt2 (List.mem_of_getElem? (i := 185) rfl) rfl, mTbl_w kt1 (List.mem_of_getElem? (i := 3) rfl) rfl, by decide +kernel, by decide +kernel, by decide +kernel, by decide +kernel⟩
theorem sX7_isSign : Cond.static yX7_isSign ∈ mTbl := mTbl_w kt2 (List.mem_of_getElem? (i := 184) rfl) rfl
def mX8_init : mM := (yX8_init, cX8_init, 1, none)
theorem tX8_init : mMt mX8_init 0 := ⟨mTbl_w kt1 (List.mem_of_getElem? (i := 121) rfl) rfl, mTbl_w kt1 (List.mem_of_getElem? (i := 5) rfl) rfl, by decide +kernel, by decide +kernel, by decide +kernel, by decide +kernel⟩
theorem nX8_init : Cond.instanceMethod yX8_init ∈ mTbl := mTbl_w kt1 (List.mem_of_getElem? (i := 120) rfl) rfl
def mX8_copyFrom : mM := (yX8_copyFrom, cX8_copyFrom, 3, none)
theorem tX8_copyFrom : mMt mX8_copyFrom 1 := ⟨mTbl_w kt3 (List.mem_of_getElem? (i := 25) rfl) rfl, mTbl_w kt1 (List.mem_of_getElem? (i := 5) rfl) rfl, by decide +kernel, by decide +kernel, by decide +kernel, by decide +kernel⟩
theorem nX8_copyFrom : Cond.instanceMethod yX8_copyFrom ∈ mTbl := mTbl_w kt3 (List.mem_of_getElem? (i := 23) rfl) rfl
theorem vX8_copyFrom : Cond.selects yX8_copyFrom.cls yX8_copyFrom yX8_copyFrom ∈ mTbl := mTbl_w kt3 (List.mem_of_getElem? (i := 24) rfl) rfl
def mX8_clear : mM := (yX8_clear, cX8_clear, 2, none)
theorem tX8_clear : mMt mX8_clear 0 := ⟨mTbl_w kt3 (List.mem_of_getElem? (i := 18) rfl) rfl, mTbl_w kt1 (List.mem_of_getElem? (i := 5) rfl) rfl, by decide +kernel, by decide +kernel, by decide +kernel, by decide +kernel⟩
theorem nX8_clear : Cond.instanceMethod yX8_clear ∈ mTbl := mTbl_w kt3 (List.mem_of_getElem? (i := 16) rfl) rfl
theorem vX8_clear : Cond.selects yX8_clear.cls yX8_clear yX8_clear ∈ mTbl := mTbl_w kt3 (List.mem_of_getElem? (i := 17) rfl) rfl
def mX8_addPage : mM := (yX8_addPage, cX8_addPage, 3, none)
theorem tX8_addPage : mMt mX8_addPage 2 := ⟨mTbl_w kt3 (List.mem_of_getElem? (i := 33) rfl) rfl, mTbl_w kt1 (List.mem_of_getElem? (i := 5) rfl) rfl, by decide +kernel, by decide +kernel, by decide +kernel, by decide +kernel⟩
theorem nX8_addPage : Cond.instanceMethod yX8_addPage ∈ mTbl := mTbl_w kt3 (List.mem_of_getElem? (i := 31) rfl) rfl
theorem vX8_addPage : Cond.selects yX8_addPage.cls yX8_addPage yX8_addPage ∈ mTbl := mTbl_w kt3 (List.mem_of_getElem? (i := 32) rfl) rfl
def mX8_pageAt : mM := (yX8_pageAt, cX8_pageAt, 2, some (.object "FieldCutter$Page"))
theorem tX8_pageAt : mMt mX8_pageAt 1 := ⟨mTbl_w kt3 (List.mem_of_getElem? (i := 138) rfl) rfl, mTbl_w kt1 (List.mem_of_getElem? (i := 5) rfl) rfl, by decide +kernel, by decide +kernel, by decide +kernel, by decide +kernel⟩
theorem nX8_pageAt : Cond.instanceMethod yX8_pageAt ∈ mTbl := mTbl_w kt3 (List.mem_of_getElem? (i := 136) rfl) rfl
theorem vX8_pageAt : Cond.selects yX8_pageAt.cls yX8_pageAt yX8_pageAt ∈ mTbl := mTbl_w kt3 (List.mem_of_getElem? (i := 137) rfl) rfl
def mX8_unlikeTokens : mM := (yX8_unlikeTokens, cX8_unlikeTokens, 2, some .int)
theorem tX8_unlikeTokens : mMt mX8_unlikeTokens 0 := ⟨mTbl_w kt5 (List.mem_of_getElem? (i := 6) rfl) rfl, mTbl_w kt1 (List.mem_of_getElem? (i := 5) rfl) rfl, by decide +kernel, by decide +kernel, by decide +kernel, by decide +kernel⟩
theorem nX8_unlikeTokens : Cond.instanceMethod yX8_unlikeTokens ∈ mTbl := mTbl_w kt5 (List.mem_of_getElem? (i := 4) rfl) rfl
theorem vX8_unlikeTokens : Cond.selects yX8_unlikeTokens.cls yX8_unlikeTokens yX8_unlikeTokens ∈ mTbl := mTbl_w kt5 (List.mem_of_getElem? (i := 5) rfl) rfl
def mX8_isExample : mM := (yX8_isExample, cX8_isExample, 3, some .boolean)
theorem tX8_isExample : mMt mX8_isExample 2 := ⟨mTbl_w kt3 (List.mem_of_getElem? (i := 127) rfl) rfl, mTbl_w kt1 (List.mem_of_getElem? (i := 5) rfl) rfl, by decide +kernel, by decide +kernel, by decide +kernel, by decide +kernel⟩
theorem nX8_isExample : Cond.instanceMethod yX8_isExample ∈ mTbl := mTbl_w kt3 (List.mem_of_getElem? (i := 125) rfl) rfl
theorem vX8_isExample : Cond.selects yX8_isExample.cls yX8_isExample yX8_isExample ∈ mTbl := mTbl_w kt3 (List.mem_of_getElem? (i := 126) rfl) rfl
def mX8_examplesOf : mM := (yX8_examplesOf, cX8_examplesOf, 4, some .int)
theorem tX8_examplesOf : mMt mX8_examplesOf 1 := ⟨mTbl_w kt3 (List.mem_of_getElem? (i := 123) rfl) rfl, mTbl_w kt1 (List.mem_of_getElem? (i := 5) rfl) rfl, by decide +kernel, by decide +kernel, by decide +kernel, by decide +kernel⟩
theorem nX8_examplesOf : Cond.instanceMethod yX8_examplesOf ∈ mTbl := mTbl_w kt3 (List.mem_of_getElem? (i := 121) rfl) rfl
theorem vX8_examplesOf : Cond.selects yX8_examplesOf.cls yX8_examplesOf yX8_examplesOf ∈ mTbl := mTbl_w kt3 (List.mem_of_getElem? (i := 122) rfl) rfl
def mX8_partCount : mM := (yX8_partCount, cX8_partCount, 3, some .int)
theorem tX8_partCount : mMt mX8_partCount 0 := ⟨mTbl_w kt5 (List.mem_of_getElem? (i := 147) rfl) rfl, mTbl_w kt1 (List.mem_of_getElem? (i := 5) rfl) rfl, by decide +kernel, by decide +kernel, by decide +kernel, by decide +kernel⟩
theorem nX8_partCount : Cond.instanceMethod yX8_partCount ∈ mTbl := mTbl_w kt5 (List.mem_of_getElem? (i := 145) rfl) rfl
theorem vX8_partCount : Cond.selects yX8_partCount.cls yX8_partCount yX8_partCount ∈ mTbl := mTbl_w kt5 (List.mem_of_getElem? (i := 146) rfl) rfl
def mX8_learntFields : mM := (yX8_learntFields, cX8_learntFields, 3, some .int)
theorem tX8_learntFields : mMt mX8_learntFields 0 := ⟨mTbl_w kt5 (List.mem_of_getElem? (i := 160) rfl) rfl, mTbl_w kt1 (List.mem_of_getElem? (i := 5) rfl) rfl, by decide +kernel, by decide +kernel, by decide +kernel, by decide +kernel⟩
theorem nX8_learntFields : Cond.instanceMethod yX8_learntFields ∈ mTbl := mTbl_w kt5 (List.mem_of_getElem? (i := 158) rfl) rfl
theorem vX8_learntFields : Cond.selects yX8_learntFields.cls yX8_learntFields yX8_learntFields ∈ mTbl := mTbl_w kt5 (List.mem_of_getElem? (i := 159) rfl) rfl
def mX9_init : mM := (yX9_init, cX9_init, 1, none)
theorem tX9_init : mMt mX9_init 0 := ⟨mTbl_w kt2 (List.mem_of_getElem? (i := 52) rfl) rfl, mTbl_w kt1 (List.mem_of_getElem? (i := 10) rfl) rfl, by decide +kernel, by decide +kernel, by decide +kernel, by decide +kernel⟩
theorem nX9_init : Cond.instanceMethod yX9_init ∈ mTbl := mTbl_w kt2 (List.mem_of_getElem? (i := 51) rfl) rfl
def mX9_collect : mM := (yX9_collect, cX9_collect, 9, none)
theorem tX9_collect : mMt mX9_collect 4 := ⟨mTbl_w kt3 (List.mem_of_getElem? (i := 197) rfl) rfl, mTbl_w kt1 (List.mem_of_getElem? (i := 10) rfl) rfl, by decide +kernel, by decide +kernel, by decide +kernel, by decide +kernel⟩
theorem nX9_collect : Cond.instanceMethod yX9_collect ∈ mTbl := mTbl_w kt3 (List.mem_of_getElem? (i := 195) rfl) rfl
theorem vX9_collect : Cond.selects yX9_collect.cls yX9_collect yX9_collect ∈ mTbl := mTbl_w kt3 (List.mem_of_getElem? (i := 196) rfl) rfl
def mX9_pileRules : mM := (yX9_pileRules, cX9_pileRules, 15, none)
theorem tX9_pileRules : mMt mX9_pileRules 5 := ⟨mTbl_w kt3 (List.mem_of_getElem? (i := 229) rfl) rfl, mTbl_w kt1 (List.mem_of_getElem? (i := 10) rfl) rfl, by decide +kernel, by decide +kernel, by decide +kernel, by decide +kernel⟩
theorem nX9_pileRules : Cond.instanceMethod yX9_pileRules ∈ mTbl := mTbl_w kt3 (List.mem_of_getElem? (i := 228) rfl) rfl
theorem vX9_pileRules : Cond.selects yX9_pileRules.cls yX9_pileRules yX9_pileRules ∈ mTbl := mTbl_s kp2 (List.mem_of_getElem? (i := 6) rfl)
def mX9_pileFars : mM := (yX9_pileFars, cX9_pileFars, 10, none)
theorem tX9_pileFars : mMt mX9_pileFars 5 := ⟨mTbl_w kt4 (List.mem_of_getElem? (i := 0) rfl) rfl, mTbl_w kt1 (List.mem_of_getElem? (i := 10) rfl) rfl, by decide +kernel, by decide +kernel, by decide +kernel, by decide +kernel⟩
theorem nX9_pileFars : Cond.instanceMethod yX9_pileFars ∈ mTbl := mTbl_w kt3 (List.mem_of_getElem? (i := 239) rfl) rfl
theorem vX9_pileFars : Cond.selects yX9_pileFars.cls yX9_pileFars yX9_pileFars ∈ mTbl := mTbl_s kp2 (List.mem_of_getElem? (i := 7) rfl)
def mX9_pileUp : mM := (yX9_pileUp, cX9_pileUp, 4, none)
theorem tX9_pileUp : mMt mX9_pileUp 2 := ⟨mTbl_w kt4 (List.mem_of_getElem? (i := 4) rfl) rfl, mTbl_w kt1 (List.mem_of_getElem? (i := 10) rfl) rfl, by decide +kernel, by decide +kernel, by decide +kernel, by decide +kernel⟩
theorem nX9_pileUp : Cond.instanceMethod yX9_pileUp ∈ mTbl := mTbl_w kt4 (List.mem_of_getElem? (i := 3) rfl) rfl
theorem vX9_pileUp : Cond.selects yX9_pileUp.cls yX9_pileUp yX9_pileUp ∈ mTbl := mTbl_s kp2 (List.mem_of_getElem? (i := 8) rfl)
def mX9_sortPile : mM := (yX9_sortPile, cX9_sortPile, 3, none)
theorem tX9_sortPile : mMt mX9_sortPile 0 := ⟨mTbl_w kt4 (List.mem_of_getElem? (i := 18) rfl) rfl, mTbl_w kt1 (List.mem_of_getElem? (i := 10) rfl) rfl, by decide +kernel, by decide +kernel, by decide +kernel, by decide +kernel⟩
theorem nX9_sortPile : Cond.instanceMethod yX9_sortPile ∈ mTbl := mTbl_w kt4 (List.mem_of_getElem? (i := 17) rfl) rfl
theorem vX9_sortPile : Cond.selects yX9_sortPile.cls yX9_sortPile yX9_sortPile ∈ mTbl := mTbl_s kp2 (List.mem_of_getElem? (i := 9) rfl)
def mX9_merge : mM := (yX9_merge, cX9_merge, 7, none)
theorem tX9_merge : mMt mX9_merge 3 := ⟨mTbl_w kt4 (List.mem_of_getElem? (i := 23) rfl) rfl, mTbl_w kt1 (List.mem_of_getElem? (i := 10) rfl) rfl, by decide +kernel, by decide +kernel, by decide +kernel, by decide +kernel⟩
theorem nX9_merge : Cond.instanceMethod yX9_merge ∈ mTbl := mTbl_w kt4 (List.mem_of_getElem? (i := 22) rfl) rfl
theorem vX9_merge : Cond.selects yX9_merge.cls yX9_merge yX9_merge ∈ mTbl := mTbl_s kp2 (List.mem_of_getElem? (i := 10) rfl)
def mX9_takeUnlike : mM := (yX9_takeUnlike, cX9_takeUnlike, 5, none)
theorem tX9_takeUnlike : mMt mX9_takeUnlike 0 := ⟨mTbl_w kt4 (List.mem_of_getElem? (i := 27) rfl) rfl, mTbl_w kt1 (List.mem_of_getElem? (i := 10) rfl) rfl, by decide +kernel, by decide +kernel, by decide +kernel, by decide +kernel⟩
theorem nX9_takeUnlike : Cond.instanceMethod yX9_takeUnlike ∈ mTbl := mTbl_w kt4 (List.mem_of_getElem? (i := 26) rfl) rfl
theorem vX9_takeUnlike : Cond.selects yX9_takeUnlike.cls yX9_takeUnlike yX9_takeUnlike ∈ mTbl := mTbl_s kp2 (List.mem_of_getElem? (i := 11) rfl)
def mX9_makeRoom : mM := (yX9_makeRoom, cX9_makeRoom, 3, none)
theorem tX9_makeRoom : mMt mX9_makeRoom 1 := ⟨mTbl_w kt4 (List.mem_of_getElem? (i := 31) rfl) rfl, mTbl_w kt1 (List.mem_of_getElem? (i := 10) rfl) rfl, by decide +kernel, by decide +kernel, by decide +kernel, by decide +kernel⟩
theorem nX9_makeRoom : Cond.instanceMethod yX9_makeRoom ∈ mTbl := mTbl_w kt4 (List.mem_of_getElem? (i := 30) rfl) rfl
theorem vX9_makeRoom : Cond.selects yX9_makeRoom.cls yX9_makeRoom yX9_makeRoom ∈ mTbl := mTbl_s kp2 (List.mem_of_getElem? (i := 12) rfl)
def mX9_judge : mM := (yX9_judge, cX9_judge, 9, none)
theorem tX9_judge : mMt mX9_judge 4 := ⟨mTbl_w kt4 (List.mem_of_getElem? (i := 37) rfl) rfl, mTbl_w kt1 (List.mem_of_getElem? (i := 10) rfl) rfl, by decide +kernel, by decide +kernel, by decide +kernel, by decide +kernel⟩
theorem nX9_judge : Cond.instanceMethod yX9_judge ∈ mTbl := mTbl_w kt4 (List.mem_of_getElem? (i := 35) rfl) rfl
theorem vX9_judge : Cond.selects yX9_judge.cls yX9_judge yX9_judge ∈ mTbl := mTbl_w kt4 (List.mem_of_getElem? (i := 36) rfl) rfl
def mX9_goodOnes : mM := (yX9_goodOnes, cX9_goodOnes, 3, some .int)
theorem tX9_goodOnes : mMt mX9_goodOnes 0 := ⟨mTbl_w kt5 (List.mem_of_getElem? (i := 19) rfl) rfl, mTbl_w kt1 (List.mem_of_getElem? (i := 10) rfl) rfl, by decide +kernel, by decide +kernel, by decide +kernel, by decide +kernel⟩
theorem nX9_goodOnes : Cond.instanceMethod yX9_goodOnes ∈ mTbl := mTbl_w kt5 (List.mem_of_getElem? (i := 17) rfl) rfl
theorem vX9_goodOnes : Cond.selects yX9_goodOnes.cls yX9_goodOnes yX9_goodOnes ∈ mTbl := mTbl_w kt5 (List.mem_of_getElem? (i := 18) rfl) rfl
def mX10_init : mM := (yX10_init, cX10_init, 1, none)
theorem tX10_init : mMt mX10_init 0 := ⟨mTbl_w kt2 (List.mem_of_getElem? (i := 8) rfl) rfl, mTbl_w kt1 (List.mem_of_getElem? (i := 8) rfl) rfl, by decide +kernel, by decide +kernel, by decide +kernel, by decide +kernel⟩
theorem nX10_init : Cond.instanceMethod yX10_init ∈ mTbl := mTbl_w kt2 (List.mem_of_getElem? (i := 7) rfl) rfl
def mX10_forget : mM := (yX10_forget, cX10_forget, 1, none)
theorem tX10_forget : mMt mX10_forget 0 := ⟨mTbl_w kt3 (List.mem_of_getElem? (i := 95) rfl) rfl, mTbl_w kt1 (List.mem_of_getElem? (i := 8) rfl) rfl, by decide +kernel, by decide +kernel, by decide +kernel, by decide +kernel⟩
theorem nX10_forget : Cond.instanceMethod yX10_forget ∈ mTbl := mTbl_w kt3 (List.mem_of_getElem? (i := 93) rfl) rfl
theorem vX10_forget : Cond.selects yX10_forget.cls yX10_forget yX10_forget ∈ mTbl := mTbl_w kt3 (List.mem_of_getElem? (i := 94) rfl) rfl
def mX10_countAll : mM := (yX10_countAll, cX10_countAll, 5, none)
theorem tX10_countAll : mMt mX10_countAll 3 := ⟨mTbl_w kt4 (List.mem_of_getElem? (i := 171) rfl) rfl, mTbl_w kt1 (List.mem_of_getElem? (i := 8) rfl) rfl, by decide +kernel, by decide +kernel, by decide +kernel, by decide +kernel⟩
theorem nX10_countAll : Cond.instanceMethod yX10_countAll ∈ mTbl := mTbl_w kt4 (List.mem_of_getElem? (i := 169) rfl) rfl
theorem vX10_countAll : Cond.selects yX10_countAll.cls yX10_countAll yX10_countAll ∈ mTbl := mTbl_w kt4 (List.mem_of_getElem? (i := 170) rfl) rfl
def mX10_vote : mM := (yX10_vote, cX10_vote, 6, none)
theorem tX10_vote : mMt mX10_vote 2 := ⟨mTbl_w kt4 (List.mem_of_getElem? (i := 176) rfl) rfl, mTbl_w kt1 (List.mem_of_getElem? (i := 8) rfl) rfl, by decide +kernel, by decide +kernel, by decide +kernel, by decide +kernel⟩
theorem nX10_vote : Cond.instanceMethod yX10_vote ∈ mTbl := mTbl_w kt4 (List.mem_of_getElem? (i := 175) rfl) rfl
theorem vX10_vote : Cond.selects yX10_vote.cls yX10_vote yX10_vote ∈ mTbl := mTbl_s kp3 (List.mem_of_getElem? (i := 10) rfl)
def mX10_makeRoom : mM := (yX10_makeRoom, cX10_makeRoom, 1, none)
theorem tX10_makeRoom : mMt mX10_makeRoom 0 := ⟨mTbl_w kt4 (List.mem_of_getElem? (i := 180) rfl) rfl, mTbl_w kt1 (List.mem_of_getElem? (i := 8) rfl) rfl, by decide +kernel, by decide +kernel, by decide +kernel, by decide +kernel⟩
theorem nX10_makeRoom : Cond.instanceMethod yX10_makeRoom ∈ mTbl := mTbl_w kt4 (List.mem_of_getElem? (i := 179) rfl) rfl
theorem vX10_makeRoom : Cond.selects yX10_makeRoom.cls yX10_makeRoom yX10_makeRoom ∈ mTbl := mTbl_s kp3 (List.mem_of_getElem? (i := 11) rfl)
def mX10_strongest : mM := (yX10_strongest, cX10_strongest, 6, some .int)
theorem tX10_strongest : mMt mX10_strongest 2 := ⟨mTbl_w kt4 (List.mem_of_getElem? (i := 193) rfl) rfl, mTbl_w kt1 (List.mem_of_getElem? (i := 8) rfl) rfl, by decide +kernel, by decide +kernel, by decide +kernel, by decide +kernel⟩
theorem nX10_strongest : Cond.instanceMethod yX10_strongest ∈ mTbl := mTbl_w kt4 (List.mem_of_getElem? (i := 191) rfl) rfl
theorem vX10_strongest : Cond.selects yX10_strongest.cls yX10_strongest yX10_strongest ∈ mTbl := mTbl_w kt4 (List.mem_of_getElem? (i := 192) rfl) rfl
def mX11_init : mM := (yX11_init, cX11_init, 2, none)
theorem tX11_init : mMt mX11_init 0 := ⟨mTbl_w kt1 (List.mem_of_getElem? (i := 23) rfl) rfl, mTbl_w kt1 (List.mem_of_getElem? (i := 1) rfl) rfl, by decide +kernel, by decide +kernel, by decide +kernel, by decide +kernel⟩
theorem nX11_init : Cond.instanceMethod yX11_init ∈ mTbl := mTbl_w kt1 (List.mem_of_getElem? (i := 22) rfl) rfl
def mX11_feed : mM := (yX11_feed, cX11_feed, 6, some .int)
theorem tX11_feed : mMt mX11_feed 5 := ⟨mTbl_w kt2 (List.mem_of_getElem? (i := 141) rfl) rfl, mTbl_w kt1 (List.mem_of_getElem? (i := 1) rfl) rfl, by decide +kernel, by decide +kernel, by decide +kernel, by decide +kernel⟩
theorem nX11_feed : Cond.instanceMethod yX11_feed ∈ mTbl := mTbl_w kt2 (List.mem_of_getElem? (i := 139) rfl) rfl
theorem vX11_feed : Cond.selects yX11_feed.cls yX11_feed yX11_feed ∈ mTbl := mTbl_w kt2 (List.mem_of_getElem? (i := 140) rfl) rfl
def mX11_putBytes : mM := (yX11_putBytes, cX11_putBytes, 3, none)
theorem tX11_putBytes : mMt mX11_putBytes 1 := ⟨mTbl_w kt2 (List.mem_of_getElem? (i := 145) rfl) rfl, mTbl_w kt1 (List.mem_of_getElem? (i := 1) rfl) rfl, by decide +kernel, by decide +kernel, by decide +kernel, by decide +kernel⟩
theorem nX11_putBytes : Cond.instanceMethod yX11_putBytes ∈ mTbl := mTbl_w kt2 (List.mem_of_getElem? (i := 144) rfl) rfl
theorem vX11_putBytes : Cond.selects yX11_putBytes.cls yX11_putBytes yX11_putBytes ∈ mTbl := mTbl_s kp1 (List.mem_of_getElem? (i := 0) rfl)
def mX11_end : mM := (yX11_end, cX11_end, 2, some .int)
theorem tX11_end : mMt mX11_end 1 := ⟨mTbl_w kt2 (List.mem_of_getElem? (i := 149) rfl) rfl, mTbl_w kt1 (List.mem_of_getElem? (i := 1) rfl) rfl, by decide +kernel, by decide +kernel, by decide +kernel, by decide +kernel⟩
theorem nX11_end : Cond.instanceMethod yX11_end ∈ mTbl := mTbl_w kt2 (List.mem_of_getElem? (i := 147) rfl) rfl
theorem vX11_end : Cond.selects yX11_end.cls yX11_end yX11_end ∈ mTbl := mTbl_w kt2 (List.mem_of_getElem? (i := 148) rfl) rfl
def mX11_book : mM := (yX11_book, cX11_book, 4, some .int)
theorem tX11_book : mMt mX11_book 0 := ⟨mTbl_w kt2 (List.mem_of_getElem? (i := 153) rfl) rfl, mTbl_w kt1 (List.mem_of_getElem? (i := 1) rfl) rfl, by decide +kernel, by decide +kernel, by decide +kernel, by decide +kernel⟩
theorem nX11_book : Cond.instanceMethod yX11_book ∈ mTbl := mTbl_w kt2 (List.mem_of_getElem? (i := 151) rfl) rfl
theorem vX11_book : Cond.selects yX11_book.cls yX11_book yX11_book ∈ mTbl := mTbl_w kt2 (List.mem_of_getElem? (i := 152) rfl) rfl
def mX11_page : mM := (yX11_page, cX11_page, 3, some .int)
theorem tX11_page : mMt mX11_page 0 := ⟨mTbl_w kt3 (List.mem_of_getElem? (i := 99) rfl) rfl, mTbl_w kt1 (List.mem_of_getElem? (i := 1) rfl) rfl, by decide +kernel, by decide +kernel, by decide +kernel, by decide +kernel⟩
theorem nX11_page : Cond.instanceMethod yX11_page ∈ mTbl := mTbl_w kt3 (List.mem_of_getElem? (i := 97) rfl) rfl
theorem vX11_page : Cond.selects yX11_page.cls yX11_page yX11_page ∈ mTbl := mTbl_w kt3 (List.mem_of_getElem? (i := 98) rfl) rfl
def mX11_noteReading : mM := (yX11_noteReading, cX11_noteReading, 1, none)
theorem tX11_noteReading : mMt mX11_noteReading 0 := ⟨mTbl_w kt2 (List.mem_of_getElem? (i := 239) rfl) rfl, mTbl_w kt1 (List.mem_of_getElem? (i := 1) rfl) rfl, by decide +kernel, by decide +kernel, by decide +kernel, by decide +kernel⟩
theorem nX11_noteReading : Cond.instanceMethod yX11_noteReading ∈ mTbl := mTbl_w kt2 (List.mem_of_getElem? (i := 238) rfl) rfl
theorem vX11_noteReading : Cond.selects yX11_noteReading.cls yX11_noteReading yX11_noteReading ∈ mTbl := mTbl_s kp1 (List.mem_of_getElem? (i := 14) rfl)
def mX11_fault : mM := (yX11_fault, cX11_fault, 2, some .int)
theorem tX11_fault : mMt mX11_fault 1 := ⟨mTbl_w kt3 (List.mem_of_getElem? (i := 111) rfl) rfl, mTbl_w kt1 (List.mem_of_getElem? (i := 1) rfl) rfl, by decide +kernel, by decide +kernel, by decide +kernel, by decide +kernel⟩
theorem nX11_fault : Cond.instanceMethod yX11_fault ∈ mTbl := mTbl_w kt3 (List.mem_of_getElem? (i := 109) rfl) rfl
theorem vX11_fault : Cond.selects yX11_fault.cls yX11_fault yX11_fault ∈ mTbl := mTbl_w kt3 (List.mem_of_getElem? (i := 110) rfl) rfl
def mX11_field : mM := (yX11_field, cX11_field, 5, some .int)
theorem tX11_field : mMt mX11_field 2 := ⟨mTbl_w kt3 (List.mem_of_getElem? (i := 115) rfl) rfl, mTbl_w kt1 (List.mem_of_getElem? (i := 1) rfl) rfl, by decide +kernel, by decide +kernel, by decide +kernel, by decide +kernel⟩
theorem nX11_field : Cond.instanceMethod yX11_field ∈ mTbl := mTbl_w kt3 (List.mem_of_getElem? (i := 113) rfl) rfl
theorem vX11_field : Cond.selects yX11_field.cls yX11_field yX11_field ∈ mTbl := mTbl_w kt3 (List.mem_of_getElem? (i := 114) rfl) rfl
def mX11_tokens : mM := (yX11_tokens, cX11_tokens, 3, some .int)
theorem tX11_tokens : mMt mX11_tokens 1 := ⟨mTbl_w kt3 (List.mem_of_getElem? (i := 134) rfl) rfl, mTbl_w kt1 (List.mem_of_getElem? (i := 1) rfl) rfl, by decide +kernel, by decide +kernel, by decide +kernel, by decide +kernel⟩
theorem nX11_tokens : Cond.instanceMethod yX11_tokens ∈ mTbl := mTbl_w kt3 (List.mem_of_getElem? (i := 132) rfl) rfl
theorem vX11_tokens : Cond.selects yX11_tokens.cls yX11_tokens yX11_tokens ∈ mTbl := mTbl_w kt3 (List.mem_of_getElem? (i := 133) rfl) rfl
def mX11_token : mM := (yX11_token, cX11_token, 5, some .int)
theorem tX11_token : mMt mX11_token 3 := ⟨mTbl_w kt3 (List.mem_of_getElem? (i := 142) rfl) rfl, mTbl_w kt1 (List.mem_of_getElem? (i := 1) rfl) rfl, by decide +kernel, by decide +kernel, by decide +kernel, by decide +kernel⟩
theorem nX11_token : Cond.instanceMethod yX11_token ∈ mTbl := mTbl_w kt3 (List.mem_of_getElem? (i := 140) rfl) rfl
theorem vX11_token : Cond.selects yX11_token.cls yX11_token yX11_token ∈ mTbl := mTbl_w kt3 (List.mem_of_getElem? (i := 141) rfl) rfl
def mX11_mark : mM := (yX11_mark, cX11_mark, 9, some .int)
theorem tX11_mark : mMt mX11_mark 4 := ⟨mTbl_w kt3 (List.mem_of_getElem? (i := 149) rfl) rfl, mTbl_w kt1 (List.mem_of_getElem? (i := 1) rfl) rfl, by decide +kernel, by decide +kernel, by decide +kernel, by decide +kernel⟩
theorem nX11_mark : Cond.instanceMethod yX11_mark ∈ mTbl := mTbl_w kt3 (List.mem_of_getElem? (i := 147) rfl) rfl
theorem vX11_mark : Cond.selects yX11_mark.cls yX11_mark yX11_mark ∈ mTbl := mTbl_w kt3 (List.mem_of_getElem? (i := 148) rfl) rfl
def mX11_hasRoom : mM := (yX11_hasRoom, cX11_hasRoom, 8, some .boolean)
theorem tX11_hasRoom : mMt mX11_hasRoom 4 := ⟨mTbl_w kt3 (List.mem_of_getElem? (i := 154) rfl) rfl, mTbl_w kt1 (List.mem_of_getElem? (i := 1) rfl) rfl, by decide +kernel, by decide +kernel, by decide +kernel, by decide +kernel⟩
theorem nX11_hasRoom : Cond.instanceMethod yX11_hasRoom ∈ mTbl := mTbl_w kt3 (List.mem_of_getElem? (i := 153) rfl) rfl
theorem vX11_hasRoom : Cond.selects yX11_hasRoom.cls yX11_hasRoom yX11_hasRoom ∈ mTbl := mTbl_s kp2 (List.mem_of_getElem? (i := 1) rfl)
def mX11_withinParent : mM := (yX11_withinParent, cX11_withinParent, 12, some .boolean)
theorem tX11_withinParent : mMt mX11_withinParent 5 := ⟨mTbl_w kt3 (List.mem_of_getElem? (i := 168) rfl) rfl, mTbl_w kt1 (List.mem_of_getElem? (i := 1) rfl) rfl, by decide +kernel, by decide +kernel, by decide +kernel, by decide +kernel⟩
theorem nX11_withinParent : Cond.instanceMethod yX11_withinParent ∈ mTbl := mTbl_w kt3 (List.mem_of_getElem? (i := 167) rfl) rfl
theorem vX11_withinParent : Cond.selects yX11_withinParent.cls yX11_withinParent yX11_withinParent ∈ mTbl := mTbl_s kp2 (List.mem_of_getElem? (i := 2) rfl)
def mX11_unmark : mM := (yX11_unmark, cX11_unmark, 8, some .int)
theorem tX11_unmark : mMt mX11_unmark 2 := ⟨mTbl_w kt3 (List.mem_of_getElem? (i := 175) rfl) rfl, mTbl_w kt1 (List.mem_of_getElem? (i := 1) rfl) rfl, by decide +kernel, by decide +kernel, by decide +kernel, by decide +kernel⟩
theorem nX11_unmark : Cond.instanceMethod yX11_unmark ∈ mTbl := mTbl_w kt3 (List.mem_of_getElem? (i := 173) rfl) rfl
theorem vX11_unmark : Cond.selects yX11_unmark.cls yX11_unmark yX11_unmark ∈ mTbl := mTbl_w kt3 (List.mem_of_getElem? (i := 174) rfl) rfl
def mX11_learn : mM := (yX11_learn, cX11_learn, 2, some .int)
theorem tX11_learn : mMt mX11_learn 1 := ⟨mTbl_w kt3 (List.mem_of_getElem? (i := 185) rfl) rfl, mTbl_w kt1 (List.mem_of_getElem? (i := 1) rfl) rfl, by decide +kernel, by decide +kernel, by decide +kernel, by decide +kernel⟩
theorem nX11_learn : Cond.instanceMethod yX11_learn ∈ mTbl := mTbl_w kt3 (List.mem_of_getElem? (i := 183) rfl) rfl
theorem vX11_learn : Cond.selects yX11_learn.cls yX11_learn yX11_learn ∈ mTbl := mTbl_w kt3 (List.mem_of_getElem? (i := 184) rfl) rfl
def mX11_keepLearnt : mM := (yX11_keepLearnt, cX11_keepLearnt, 3, some .int)
theorem tX11_keepLearnt : mMt mX11_keepLearnt 2 := ⟨mTbl_w kt4 (List.mem_of_getElem? (i := 136) rfl) rfl, mTbl_w kt1 (List.mem_of_getElem? (i := 1) rfl) rfl, by decide +kernel, by decide +kernel, by decide +kernel, by decide +kernel⟩
theorem nX11_keepLearnt : Cond.instanceMethod yX11_keepLearnt ∈ mTbl := mTbl_w kt4 (List.mem_of_getElem? (i := 135) rfl) rfl
theorem vX11_keepLearnt : Cond.selects yX11_keepLearnt.cls yX11_keepLearnt yX11_keepLearnt ∈ mTbl := mTbl_s kp3 (List.mem_of_getElem? (i := 4) rfl)
def mX11_whatIsLearntNow : mM := (yX11_whatIsLearntNow, cX11_whatIsLearntNow, 4, some (.object "FieldCutter$Learnt"))
theorem tX11_whatIsLearntNow : mMt mX11_whatIsLearntNow 1 := ⟨mTbl_w kt3 (List.mem_of_getElem? (i := 189) rfl) rfl, mTbl_w kt1 (List.mem_of_getElem? (i := 1) rfl) rfl, by decide +kernel, by decide +kernel, by decide +kernel, by decide +kernel⟩
theorem nX11_whatIsLearntNow : Cond.instanceMethod yX11_whatIsLearntNow ∈ mTbl := mTbl_w kt3 (List.mem_of_getElem? (i := 188) rfl) rfl
theorem vX11_whatIsLearntNow : Cond.selects yX11_whatIsLearntNow.cls yX11_whatIsLearntNow yX11_whatIsLearntNow ∈ mTbl := mTbl_s kp2 (List.mem_of_getElem? (i := 3) rfl)
def mX11_take : mM := (yX11_take, cX11_take, 10, some .int)
theorem tX11_take : mMt mX11_take 2 := ⟨mTbl_w kt4 (List.mem_of_getElem? (i := 140) rfl) rfl, mTbl_w kt1 (List.mem_of_getElem? (i := 1) rfl) rfl, by decide +kernel, by decide +kernel, by decide +kernel, by decide +kernel⟩
theorem nX11_take : Cond.instanceMethod yX11_take ∈ mTbl := mTbl_w kt4 (List.mem_of_getElem? (i := 138) rfl) rfl
theorem vX11_take : Cond.selects yX11_take.cls yX11_take yX11_take ∈ mTbl := mTbl_w kt4 (List.mem_of_getElem? (i := 139) rfl) rfl
def mX11_undo : mM := (yX11_undo, cX11_undo, 2, some .boolean)
theorem tX11_undo : mMt mX11_undo 0 := ⟨mTbl_w kt4 (List.mem_of_getElem? (i := 205) rfl) rfl, mTbl_w kt1 (List.mem_of_getElem? (i := 1) rfl) rfl, by decide +kernel, by decide +kernel, by decide +kernel, by decide +kernel⟩
theorem nX11_undo : Cond.instanceMethod yX11_undo ∈ mTbl := mTbl_w kt4 (List.mem_of_getElem? (i := 203) rfl) rfl
theorem vX11_undo : Cond.selects yX11_undo.cls yX11_undo yX11_undo ∈ mTbl := mTbl_w kt4 (List.mem_of_getElem? (i := 204) rfl) rfl
def mX11_redo : mM := (yX11_redo, cX11_redo, 2, some .boolean)
theorem tX11_redo : mMt mX11_redo 0 := ⟨mTbl_w kt4 (List.mem_of_getElem? (i := 213) rfl) rfl, mTbl_w kt1 (List.mem_of_getElem? (i := 1) rfl) rfl, by decide +kernel, by decide +kernel, by decide +kernel, by decide +kernel⟩
theorem nX11_redo : Cond.instanceMethod yX11_redo ∈ mTbl := mTbl_w kt4 (List.mem_of_getElem? (i := 211) rfl) rfl
theorem vX11_redo : Cond.selects yX11_redo.cls yX11_redo yX11_redo ∈ mTbl := mTbl_w kt4 (List.mem_of_getElem? (i := 212) rfl) rfl
def mX11_forgetFindings : mM := (yX11_forgetFindings, cX11_forgetFindings, 2, none)
theorem tX11_forgetFindings : mMt mX11_forgetFindings 0 := ⟨mTbl_w kt3 (List.mem_of_getElem? (i := 91) rfl) rfl, mTbl_w kt1 (List.mem_of_getElem? (i := 1) rfl) rfl, by decide +kernel, by decide +kernel, by decide +kernel, by decide +kernel⟩
theorem nX11_forgetFindings : Cond.instanceMethod yX11_forgetFindings ∈ mTbl := mTbl_w kt3 (List.mem_of_getElem? (i := 90) rfl) rfl
theorem vX11_forgetFindings : Cond.selects yX11_forgetFindings.cls yX11_forgetFindings yX11_forgetFindings ∈ mTbl := mTbl_s kp2 (List.mem_of_getElem? (i := 0) rfl)
def mX11_marked : mM := (yX11_marked, cX11_marked, 7, some .int)
theorem tX11_marked : mMt mX11_marked 4 := ⟨mTbl_w kt4 (List.mem_of_getElem? (i := 221) rfl) rfl, mTbl_w kt1 (List.mem_of_getElem? (i := 1) rfl) rfl, by decide +kernel, by decide +kernel, by decide +kernel, by decide +kernel⟩
theorem nX11_marked : Cond.instanceMethod yX11_marked ∈ mTbl := mTbl_w kt4 (List.mem_of_getElem? (i := 219) rfl) rfl
theorem vX11_marked : Cond.selects yX11_marked.cls yX11_marked yX11_marked ∈ mTbl := mTbl_w kt4 (List.mem_of_getElem? (i := 220) rfl) rfl
def mX11_rule : mM := (yX11_rule, cX11_rule, 5, some .int)
theorem tX11_rule : mMt mX11_rule 3 := ⟨mTbl_w kt4 (List.mem_of_getElem? (i := 229) rfl) rfl, mTbl_w kt1 (List.mem_of_getElem? (i := 1) rfl) rfl, by decide +kernel, by decide +kernel, by decide +kernel, by decide +kernel⟩
theorem nX11_rule : Cond.instanceMethod yX11_rule ∈ mTbl := mTbl_w kt4 (List.mem_of_getElem? (i := 227) rfl) rfl
theorem vX11_rule : Cond.selects yX11_rule.cls yX11_rule yX11_rule ∈ mTbl := mTbl_w kt4 (List.mem_of_getElem? (i := 228) rfl) rfl
def mX11_tries : mM := (yX11_tries, cX11_tries, 9, some .int)
theorem tX11_tries : mMt mX11_tries 6 := ⟨mTbl_w kt4 (List.mem_of_getElem? (i := 238) rfl) rfl, mTbl_w kt1 (List.mem_of_getElem? (i := 1) rfl) rfl, by decide +kernel, by decide +kernel, by decide +kernel, by decide +kernel⟩
theorem nX11_tries : Cond.instanceMethod yX11_tries ∈ mTbl := mTbl_w kt4 (List.mem_of_getElem? (i := 236) rfl) rfl
theorem vX11_tries : Cond.selects yX11_tries.cls yX11_tries yX11_tries ∈ mTbl := mTbl_w kt4 (List.mem_of_getElem? (i := 237) rfl) rfl
def mX11_isItem : mM := (yX11_isItem, cX11_isItem, 2, some .boolean)
theorem tX11_isItem : mMt mX11_isItem 1 := ⟨mTbl_w kt5 (List.mem_of_getElem? (i := 2) rfl) rfl, mTbl_w kt1 (List.mem_of_getElem? (i := 1) rfl) rfl, by decide +kernel, by decide +kernel, by decide +kernel, by decide +kernel⟩
theorem nX11_isItem : Cond.instanceMethod yX11_isItem ∈ mTbl := mTbl_w kt5 (List.mem_of_getElem? (i := 1) rfl) rfl
theorem vX11_isItem : Cond.selects yX11_isItem.cls yX11_isItem yX11_isItem ∈ mTbl := mTbl_s kp3 (List.mem_of_getElem? (i := 13) rfl)
def mX11_could : mM := (yX11_could, cX11_could, 4, some .int)
theorem tX11_could : mMt mX11_could 2 := ⟨mTbl_w kt5 (List.mem_of_getElem? (i := 15) rfl) rfl, mTbl_w kt1 (List.mem_of_getElem? (i := 1) rfl) rfl, by decide +kernel, by decide +kernel, by decide +kernel, by decide +kernel⟩
theorem nX11_could : Cond.instanceMethod yX11_could ∈ mTbl := mTbl_w kt5 (List.mem_of_getElem? (i := 13) rfl) rfl
theorem vX11_could : Cond.selects yX11_could.cls yX11_could yX11_could ∈ mTbl := mTbl_w kt5 (List.mem_of_getElem? (i := 14) rfl) rfl
def mX11_cover : mM := (yX11_cover, cX11_cover, 3, some .int)
theorem tX11_cover : mMt mX11_cover 2 := ⟨mTbl_w kt5 (List.mem_of_getElem? (i := 23) rfl) rfl, mTbl_w kt1 (List.mem_of_getElem? (i := 1) rfl) rfl, by decide +kernel, by decide +kernel, by decide +kernel, by decide +kernel⟩
theorem nX11_cover : Cond.instanceMethod yX11_cover ∈ mTbl := mTbl_w kt5 (List.mem_of_getElem? (i := 21) rfl) rfl
theorem vX11_cover : Cond.selects yX11_cover.cls yX11_cover yX11_cover ∈ mTbl := mTbl_w kt5 (List.mem_of_getElem? (i := 22) rfl) rfl
def mX11_covers : mM := (yX11_covers, cX11_covers, 6, some .int)
theorem tX11_covers : mMt mX11_covers 3 := ⟨mTbl_w kt5 (List.mem_of_getElem? (i := 27) rfl) rfl, mTbl_w kt1 (List.mem_of_getElem? (i := 1) rfl) rfl, by decide +kernel, by decide +kernel, by decide +kernel, by decide +kernel⟩
theorem nX11_covers : Cond.instanceMethod yX11_covers ∈ mTbl := mTbl_w kt5 (List.mem_of_getElem? (i := 25) rfl) rfl
theorem vX11_covers : Cond.selects yX11_covers.cls yX11_covers yX11_covers ∈ mTbl := mTbl_w kt5 (List.mem_of_getElem? (i := 26) rfl) rfl
def mX11_contradict : mM := (yX11_contradict, cX11_contradict, 6, some .int)
theorem tX11_contradict : mMt mX11_contradict 3 := ⟨mTbl_w kt5 (List.mem_of_getElem? (i := 31) rfl) rfl, mTbl_w kt1 (List.mem_of_getElem? (i := 1) rfl) rfl, by decide +kernel, by decide +kernel, by decide +kernel, by decide +kernel⟩
theorem nX11_contradict : Cond.instanceMethod yX11_contradict ∈ mTbl := mTbl_w kt5 (List.mem_of_getElem? (i := 29) rfl) rfl
theorem vX11_contradict : Cond.selects yX11_contradict.cls yX11_contradict yX11_contradict ∈ mTbl := mTbl_w kt5 (List.mem_of_getElem? (i := 30) rfl) rfl
def mX11_stale : mM := (yX11_stale, cX11_stale, 4, some .int)
theorem tX11_stale : mMt mX11_stale 1 := ⟨mTbl_w kt5 (List.mem_of_getElem? (i := 35) rfl) rfl, mTbl_w kt1 (List.mem_of_getElem? (i := 1) rfl) rfl, by decide +kernel, by decide +kernel, by decide +kernel, by decide +kernel⟩
theorem nX11_stale : Cond.instanceMethod yX11_stale ∈ mTbl := mTbl_w kt5 (List.mem_of_getElem? (i := 33) rfl) rfl
theorem vX11_stale : Cond.selects yX11_stale.cls yX11_stale yX11_stale ∈ mTbl := mTbl_w kt5 (List.mem_of_getElem? (i := 34) rfl) rfl
def mX11_cut : mM := (yX11_cut, cX11_cut, 5, some .int)
theorem tX11_cut : mMt mX11_cut 4 := ⟨mTbl_w kt5 (List.mem_of_getElem? (i := 43) rfl) rfl, mTbl_w kt1 (List.mem_of_getElem? (i := 1) rfl) rfl, by decide +kernel, by decide +kernel, by decide +kernel, by decide +kernel⟩
theorem nX11_cut : Cond.instanceMethod yX11_cut ∈ mTbl := mTbl_w kt5 (List.mem_of_getElem? (i := 41) rfl) rfl
theorem vX11_cut : Cond.selects yX11_cut.cls yX11_cut yX11_cut ∈ mTbl := mTbl_w kt5 (List.mem_of_getElem? (i := 42) rfl) rfl
def mX11_by : mM := (yX11_by, cX11_by, 3, some .int)
theorem tX11_by : mMt mX11_by 2 := ⟨mTbl_w kt5 (List.mem_of_getElem? (i := 47) rfl) rfl, mTbl_w kt1 (List.mem_of_getElem? (i := 1) rfl) rfl, by decide +kernel, by decide +kernel, by decide +kernel, by decide +kernel⟩
theorem nX11_by : Cond.instanceMethod yX11_by ∈ mTbl := mTbl_w kt5 (List.mem_of_getElem? (i := 45) rfl) rfl
theorem vX11_by : Cond.selects yX11_by.cls yX11_by yX11_by ∈ mTbl := mTbl_w kt5 (List.mem_of_getElem? (i := 46) rfl) rfl
def mX11_letter : mM := (yX11_letter, cX11_letter, 4, some .int)
theorem tX11_letter : mMt mX11_letter 3 := ⟨mTbl_w kt5 (List.mem_of_getElem? (i := 51) rfl) rfl, mTbl_w kt1 (List.mem_of_getElem? (i := 1) rfl) rfl, by decide +kernel, by decide +kernel, by decide +kernel, by decide +kernel⟩
theorem nX11_letter : Cond.instanceMethod yX11_letter ∈ mTbl := mTbl_w kt5 (List.mem_of_getElem? (i := 49) rfl) rfl
theorem vX11_letter : Cond.selects yX11_letter.cls yX11_letter yX11_letter ∈ mTbl := mTbl_w kt5 (List.mem_of_getElem? (i := 50) rfl) rfl
def mX11_pattern : mM := (yX11_pattern, cX11_pattern, 4, some .int)
theorem tX11_pattern : mMt mX11_pattern 2 := ⟨mTbl_w kt5 (List.mem_of_getElem? (i := 78) rfl) rfl, mTbl_w kt1 (List.mem_of_getElem? (i := 1) rfl) rfl, by decide +kernel, by decide +kernel, by decide +kernel, by decide +kernel⟩
theorem nX11_pattern : Cond.instanceMethod yX11_pattern ∈ mTbl := mTbl_w kt5 (List.mem_of_getElem? (i := 76) rfl) rfl
theorem vX11_pattern : Cond.selects yX11_pattern.cls yX11_pattern yX11_pattern ∈ mTbl := mTbl_w kt5 (List.mem_of_getElem? (i := 77) rfl) rfl
def mX11_proposed : mM := (yX11_proposed, cX11_proposed, 6, some .int)
theorem tX11_proposed : mMt mX11_proposed 4 := ⟨mTbl_w kt5 (List.mem_of_getElem? (i := 82) rfl) rfl, mTbl_w kt1 (List.mem_of_getElem? (i := 1) rfl) rfl, by decide +kernel, by decide +kernel, by decide +kernel, by decide +kernel⟩
theorem nX11_proposed : Cond.instanceMethod yX11_proposed ∈ mTbl := mTbl_w kt5 (List.mem_of_getElem? (i := 80) rfl) rfl
theorem vX11_proposed : Cond.selects yX11_proposed.cls yX11_proposed yX11_proposed ∈ mTbl := mTbl_w kt5 (List.mem_of_getElem? (i := 81) rfl) rfl
def mX11_alike : mM := (yX11_alike, cX11_alike, 5, some .int)
theorem tX11_alike : mMt mX11_alike 2 := ⟨mTbl_w kt5 (List.mem_of_getElem? (i := 86) rfl) rfl, mTbl_w kt1 (List.mem_of_getElem? (i := 1) rfl) rfl, by decide +kernel, by decide +kernel, by decide +kernel, by decide +kernel⟩
theorem nX11_alike : Cond.instanceMethod yX11_alike ∈ mTbl := mTbl_w kt5 (List.mem_of_getElem? (i := 84) rfl) rfl
theorem vX11_alike : Cond.selects yX11_alike.cls yX11_alike yX11_alike ∈ mTbl := mTbl_w kt5 (List.mem_of_getElem? (i := 85) rfl) rfl
def mX11_drift : mM := (yX11_drift, cX11_drift, 3, some .int)
theorem tX11_drift : mMt mX11_drift 2 := ⟨mTbl_w kt5 (List.mem_of_getElem? (i := 94) rfl) rfl, mTbl_w kt1 (List.mem_of_getElem? (i := 1) rfl) rfl, by decide +kernel, by decide +kernel, by decide +kernel, by decide +kernel⟩
theorem nX11_drift : Cond.instanceMethod yX11_drift ∈ mTbl := mTbl_w kt5 (List.mem_of_getElem? (i := 92) rfl) rfl
theorem vX11_drift : Cond.selects yX11_drift.cls yX11_drift yX11_drift ∈ mTbl := mTbl_w kt5 (List.mem_of_getElem? (i := 93) rfl) rfl
def mX11_driftOf : mM := (yX11_driftOf, cX11_driftOf, 5, some .int)
theorem tX11_driftOf : mMt mX11_driftOf 2 := ⟨mTbl_w kt5 (List.mem_of_getElem? (i := 98) rfl) rfl, mTbl_w kt1 (List.mem_of_getElem? (i := 1) rfl) rfl, by decide +kernel, by decide +kernel, by decide +kernel, by decide +kernel⟩
theorem nX11_driftOf : Cond.instanceMethod yX11_driftOf ∈ mTbl := mTbl_w kt5 (List.mem_of_getElem? (i := 97) rfl) rfl
theorem vX11_driftOf : Cond.selects yX11_driftOf.cls yX11_driftOf yX11_driftOf ∈ mTbl := mTbl_s kp4 (List.mem_of_getElem? (i := 1) rfl)
def mX11_strange : mM := (yX11_strange, cX11_strange, 5, some .int)
theorem tX11_strange : mMt mX11_strange 1 := ⟨mTbl_w kt5 (List.mem_of_getElem? (i := 103) rfl) rfl, mTbl_w kt1 (List.mem_of_getElem? (i := 1) rfl) rfl, by decide +kernel, by decide +kernel, by decide +kernel, by decide +kernel⟩
theorem nX11_strange : Cond.instanceMethod yX11_strange ∈ mTbl := mTbl_w kt5 (List.mem_of_getElem? (i := 101) rfl) rfl
theorem vX11_strange : Cond.selects yX11_strange.cls yX11_strange yX11_strange ∈ mTbl := mTbl_w kt5 (List.mem_of_getElem? (i := 102) rfl) rfl
def mX11_sturdy : mM := (yX11_sturdy, cX11_sturdy, 7, some .int)
theorem tX11_sturdy : mMt mX11_sturdy 2 := ⟨mTbl_w kt5 (List.mem_of_getElem? (i := 107) rfl) rfl, mTbl_w kt1 (List.mem_of_getElem? (i := 1) rfl) rfl, by decide +kernel, by decide +kernel, by decide +kernel, by decide +kernel⟩
theorem nX11_sturdy : Cond.instanceMethod yX11_sturdy ∈ mTbl := mTbl_w kt5 (List.mem_of_getElem? (i := 105) rfl) rfl
theorem vX11_sturdy : Cond.selects yX11_sturdy.cls yX11_sturdy yX11_sturdy ∈ mTbl := mTbl_w kt5 (List.mem_of_getElem? (i := 106) rfl) rfl
def mX11_right : mM := (yX11_right, cX11_right, 7, some .int)
theorem tX11_right : mMt mX11_right 1 := ⟨mTbl_w kt5 (List.mem_of_getElem? (i := 111) rfl) rfl, mTbl_w kt1 (List.mem_of_getElem? (i := 1) rfl) rfl, by decide +kernel, by decide +kernel, by decide +kernel, by decide +kernel⟩
theorem nX11_right : Cond.instanceMethod yX11_right ∈ mTbl := mTbl_w kt5 (List.mem_of_getElem? (i := 109) rfl) rfl
theorem vX11_right : Cond.selects yX11_right.cls yX11_right yX11_right ∈ mTbl := mTbl_w kt5 (List.mem_of_getElem? (i := 110) rfl) rfl
def mX11_enough : mM := (yX11_enough, cX11_enough, 7, some .int)
theorem tX11_enough : mMt mX11_enough 1 := ⟨mTbl_w kt5 (List.mem_of_getElem? (i := 115) rfl) rfl, mTbl_w kt1 (List.mem_of_getElem? (i := 1) rfl) rfl, by decide +kernel, by decide +kernel, by decide +kernel, by decide +kernel⟩
theorem nX11_enough : Cond.instanceMethod yX11_enough ∈ mTbl := mTbl_w kt5 (List.mem_of_getElem? (i := 113) rfl) rfl
theorem vX11_enough : Cond.selects yX11_enough.cls yX11_enough yX11_enough ∈ mTbl := mTbl_w kt5 (List.mem_of_getElem? (i := 114) rfl) rfl
def mX11_opinion : mM := (yX11_opinion, cX11_opinion, 5, some .int)
theorem tX11_opinion : mMt mX11_opinion 3 := ⟨mTbl_w kt5 (List.mem_of_getElem? (i := 129) rfl) rfl, mTbl_w kt1 (List.mem_of_getElem? (i := 1) rfl) rfl, by decide +kernel, by decide +kernel, by decide +kernel, by decide +kernel⟩
theorem nX11_opinion : Cond.instanceMethod yX11_opinion ∈ mTbl := mTbl_w kt5 (List.mem_of_getElem? (i := 127) rfl) rfl
theorem vX11_opinion : Cond.selects yX11_opinion.cls yX11_opinion yX11_opinion ∈ mTbl := mTbl_w kt5 (List.mem_of_getElem? (i := 128) rfl) rfl
def mX11_next : mM := (yX11_next, cX11_next, 6, some .int)
theorem tX11_next : mMt mX11_next 1 := ⟨mTbl_w kt5 (List.mem_of_getElem? (i := 133) rfl) rfl, mTbl_w kt1 (List.mem_of_getElem? (i := 1) rfl) rfl, by decide +kernel, by decide +kernel, by decide +kernel, by decide +kernel⟩
theorem nX11_next : Cond.instanceMethod yX11_next ∈ mTbl := mTbl_w kt5 (List.mem_of_getElem? (i := 131) rfl) rfl
theorem vX11_next : Cond.selects yX11_next.cls yX11_next yX11_next ∈ mTbl := mTbl_w kt5 (List.mem_of_getElem? (i := 132) rfl) rfl
def mX11_without : mM := (yX11_without, cX11_without, 4, some .int)
theorem tX11_without : mMt mX11_without 2 := ⟨mTbl_w kt5 (List.mem_of_getElem? (i := 137) rfl) rfl, mTbl_w kt1 (List.mem_of_getElem? (i := 1) rfl) rfl, by decide +kernel, by decide +kernel, by decide +kernel, by decide +kernel⟩
theorem nX11_without : Cond.instanceMethod yX11_without ∈ mTbl := mTbl_w kt5 (List.mem_of_getElem? (i := 135) rfl) rfl
theorem vX11_without : Cond.selects yX11_without.cls yX11_without yX11_without ∈ mTbl := mTbl_w kt5 (List.mem_of_getElem? (i := 136) rfl) rfl
def mX11_image : mM := (yX11_image, cX11_image, 3, some .int)
theorem tX11_image : mMt mX11_image 1 := ⟨mTbl_w kt5 (List.mem_of_getElem? (i := 141) rfl) rfl, mTbl_w kt1 (List.mem_of_getElem? (i := 1) rfl) rfl, by decide +kernel, by decide +kernel, by decide +kernel, by decide +kernel⟩
theorem nX11_image : Cond.instanceMethod yX11_image ∈ mTbl := mTbl_w kt5 (List.mem_of_getElem? (i := 139) rfl) rfl
theorem vX11_image : Cond.selects yX11_image.cls yX11_image yX11_image ∈ mTbl := mTbl_w kt5 (List.mem_of_getElem? (i := 140) rfl) rfl
def mX11_back : mM := (yX11_back, cX11_back, 2, some .int)
theorem tX11_back : mMt mX11_back 1 := ⟨mTbl_w kt5 (List.mem_of_getElem? (i := 152) rfl) rfl, mTbl_w kt1 (List.mem_of_getElem? (i := 1) rfl) rfl, by decide +kernel, by decide +kernel, by decide +kernel, by decide +kernel⟩
theorem nX11_back : Cond.instanceMethod yX11_back ∈ mTbl := mTbl_w kt5 (List.mem_of_getElem? (i := 150) rfl) rfl
theorem vX11_back : Cond.selects yX11_back.cls yX11_back yX11_back ∈ mTbl := mTbl_w kt5 (List.mem_of_getElem? (i := 151) rfl) rfl
def mX11_about : mM := (yX11_about, cX11_about, 3, some .int)
theorem tX11_about : mMt mX11_about 1 := ⟨mTbl_w kt5 (List.mem_of_getElem? (i := 156) rfl) rfl, mTbl_w kt1 (List.mem_of_getElem? (i := 1) rfl) rfl, by decide +kernel, by decide +kernel, by decide +kernel, by decide +kernel⟩
theorem nX11_about : Cond.instanceMethod yX11_about ∈ mTbl := mTbl_w kt5 (List.mem_of_getElem? (i := 154) rfl) rfl
theorem vX11_about : Cond.selects yX11_about.cls yX11_about yX11_about ∈ mTbl := mTbl_w kt5 (List.mem_of_getElem? (i := 155) rfl) rfl
def mX11_known : mM := (yX11_known, cX11_known, 3, some .boolean)
theorem tX11_known : mMt mX11_known 2 := ⟨mTbl_w kt4 (List.mem_of_getElem? (i := 152) rfl) rfl, mTbl_w kt1 (List.mem_of_getElem? (i := 1) rfl) rfl, by decide +kernel, by decide +kernel, by decide +kernel, by decide +kernel⟩
theorem nX11_known : Cond.instanceMethod yX11_known ∈ mTbl := mTbl_w kt4 (List.mem_of_getElem? (i := 151) rfl) rfl
theorem vX11_known : Cond.selects yX11_known.cls yX11_known yX11_known ∈ mTbl := mTbl_s kp3 (List.mem_of_getElem? (i := 7) rfl)
def mX11_learntFor : mM := (yX11_learntFor, cX11_learntFor, 3, some .boolean)
theorem tX11_learntFor : mMt mX11_learntFor 2 := ⟨mTbl_w kt4 (List.mem_of_getElem? (i := 148) rfl) rfl, mTbl_w kt1 (List.mem_of_getElem? (i := 1) rfl) rfl, by decide +kernel, by decide +kernel, by decide +kernel, by decide +kernel⟩
theorem nX11_learntFor : Cond.instanceMethod yX11_learntFor ∈ mTbl := mTbl_w kt4 (List.mem_of_getElem? (i := 147) rfl) rfl
theorem vX11_learntFor : Cond.selects yX11_learntFor.cls yX11_learntFor yX11_learntFor ∈ mTbl := mTbl_s kp3 (List.mem_of_getElem? (i := 6) rfl)
def mX11_tableOf : mM := (yX11_tableOf, cX11_tableOf, 4, some (.object "FieldCutter$Table"))
theorem tX11_tableOf : mMt mX11_tableOf 1 := ⟨mTbl_w kt3 (List.mem_of_getElem? (i := 193) rfl) rfl, mTbl_w kt1 (List.mem_of_getElem? (i := 1) rfl) rfl, by decide +kernel, by decide +kernel, by decide +kernel, by decide +kernel⟩
theorem nX11_tableOf : Cond.instanceMethod yX11_tableOf ∈ mTbl := mTbl_w kt3 (List.mem_of_getElem? (i := 192) rfl) rfl
theorem vX11_tableOf : Cond.selects yX11_tableOf.cls yX11_tableOf yX11_tableOf ∈ mTbl := mTbl_s kp2 (List.mem_of_getElem? (i := 4) rfl)
def mX11_slicePage : mM := (yX11_slicePage, cX11_slicePage, 8, some .int)
theorem tX11_slicePage : mMt mX11_slicePage 3 := ⟨mTbl_w kt4 (List.mem_of_getElem? (i := 161) rfl) rfl, mTbl_w kt1 (List.mem_of_getElem? (i := 1) rfl) rfl, by decide +kernel, by decide +kernel, by decide +kernel, by decide +kernel⟩
theorem nX11_slicePage : Cond.instanceMethod yX11_slicePage ∈ mTbl := mTbl_w kt4 (List.mem_of_getElem? (i := 160) rfl) rfl
theorem vX11_slicePage : Cond.selects yX11_slicePage.cls yX11_slicePage yX11_slicePage ∈ mTbl := mTbl_s kp3 (List.mem_of_getElem? (i := 9) rfl)
def mX11_spellPage : mM := (yX11_spellPage, cX11_spellPage, 3, some .boolean)
theorem tX11_spellPage : mMt mX11_spellPage 2 := ⟨mTbl_w kt5 (List.mem_of_getElem? (i := 55) rfl) rfl, mTbl_w kt1 (List.mem_of_getElem? (i := 1) rfl) rfl, by decide +kernel, by decide +kernel, by decide +kernel, by decide +kernel⟩
theorem nX11_spellPage : Cond.instanceMethod yX11_spellPage ∈ mTbl := mTbl_w kt5 (List.mem_of_getElem? (i := 54) rfl) rfl
theorem vX11_spellPage : Cond.selects yX11_spellPage.cls yX11_spellPage yX11_spellPage ∈ mTbl := mTbl_s kp3 (List.mem_of_getElem? (i := 14) rfl)
def mX11_countVotes : mM := (yX11_countVotes, cX11_countVotes, 6, none)
theorem tX11_countVotes : mMt mX11_countVotes 2 := ⟨mTbl_w kt4 (List.mem_of_getElem? (i := 156) rfl) rfl, mTbl_w kt1 (List.mem_of_getElem? (i := 1) rfl) rfl, by decide +kernel, by decide +kernel, by decide +kernel, by decide +kernel⟩
theorem nX11_countVotes : Cond.instanceMethod yX11_countVotes ∈ mTbl := mTbl_w kt4 (List.mem_of_getElem? (i := 155) rfl) rfl
theorem vX11_countVotes : Cond.selects yX11_countVotes.cls yX11_countVotes yX11_countVotes ∈ mTbl := mTbl_s kp3 (List.mem_of_getElem? (i := 8) rfl)
def mX11_proposalFor : mM := (yX11_proposalFor, cX11_proposalFor, 4, some .int)
theorem tX11_proposalFor : mMt mX11_proposalFor 2 := ⟨mTbl_w kt4 (List.mem_of_getElem? (i := 144) rfl) rfl, mTbl_w kt1 (List.mem_of_getElem? (i := 1) rfl) rfl, by decide +kernel, by decide +kernel, by decide +kernel, by decide +kernel⟩
theorem nX11_proposalFor : Cond.instanceMethod yX11_proposalFor ∈ mTbl := mTbl_w kt4 (List.mem_of_getElem? (i := 143) rfl) rfl
theorem vX11_proposalFor : Cond.selects yX11_proposalFor.cls yX11_proposalFor yX11_proposalFor ∈ mTbl := mTbl_s kp3 (List.mem_of_getElem? (i := 5) rfl)
def mX11_partOf : mM := (yX11_partOf, cX11_partOf, 7, some .int)
theorem tX11_partOf : mMt mX11_partOf 4 := ⟨mTbl_w kt4 (List.mem_of_getElem? (i := 224) rfl) rfl, mTbl_w kt1 (List.mem_of_getElem? (i := 1) rfl) rfl, by decide +kernel, by decide +kernel, by decide +kernel, by decide +kernel⟩
theorem sX11_partOf : Cond.static yX11_partOf ∈ mTbl := mTbl_w kt4 (List.mem_of_getElem? (i := 223) rfl) rfl
def mX11_spotOf : mM := (yX11_spotOf, cX11_spotOf, 2, some .int)
theorem tX11_spotOf : mMt mX11_spotOf 2 := ⟨mTbl_w kt3 (List.mem_of_getElem? (i := 130) rfl) rfl, mTbl_w kt1 (List.mem_of_getElem? (i := 1) rfl) rfl, by decide +kernel, by decide +kernel, by decide +kernel, by decide +kernel⟩
theorem sX11_spotOf : Cond.static yX11_spotOf ∈ mTbl := mTbl_w kt3 (List.mem_of_getElem? (i := 129) rfl) rfl
def mX11_below : mM := (yX11_below, cX11_below, 1, some .long)
theorem tX11_below : mMt mX11_below 1 := ⟨mTbl_w kt3 (List.mem_of_getElem? (i := 157) rfl) rfl, mTbl_w kt1 (List.mem_of_getElem? (i := 1) rfl) rfl, by decide +kernel, by decide +kernel, by decide +kernel, by decide +kernel⟩
theorem sX11_below : Cond.static yX11_below ∈ mTbl := mTbl_w kt3 (List.mem_of_getElem? (i := 156) rfl) rfl
def mX11_lowest : mM := (yX11_lowest, cX11_lowest, 2, some .int)
theorem tX11_lowest : mMt mX11_lowest 1 := ⟨mTbl_w kt3 (List.mem_of_getElem? (i := 171) rfl) rfl, mTbl_w kt1 (List.mem_of_getElem? (i := 1) rfl) rfl, by decide +kernel, by decide +kernel, by decide +kernel, by decide +kernel⟩
theorem sX11_lowest : Cond.static yX11_lowest ∈ mTbl := mTbl_w kt3 (List.mem_of_getElem? (i := 170) rfl) rfl
def mX11_nth : mM := (yX11_nth, cX11_nth, 6, some .int)
theorem tX11_nth : mMt mX11_nth 2 := ⟨mTbl_w kt4 (List.mem_of_getElem? (i := 96) rfl) rfl, mTbl_w kt1 (List.mem_of_getElem? (i := 1) rfl) rfl, by decide +kernel, by decide +kernel, by decide +kernel, by decide +kernel⟩
theorem sX11_nth : Cond.static yX11_nth ∈ mTbl := mTbl_w kt4 (List.mem_of_getElem? (i := 95) rfl) rfl
def mX11_isLetter : mM := (yX11_isLetter, cX11_isLetter, 1, some .boolean)
theorem tX11_isLetter : mMt mX11_isLetter 1 := ⟨mTbl_w kt2 (List.mem_of_getElem? (i := 171) rfl) rfl, mTbl_w kt1 (List.mem_of_getElem? (i := 1) rfl) rfl, by decide +kernel, by decide +kernel, by decide +kernel, by decide +kernel⟩
theorem sX11_isLetter : Cond.static yX11_isLetter ∈ mTbl := mTbl_w kt2 (List.mem_of_getElem? (i := 170) rfl) rfl
def mX11_isDigit : mM := (yX11_isDigit, cX11_isDigit, 1, some .boolean)
theorem tX11_isDigit : mMt mX11_isDigit 1 := ⟨mTbl_w kt2 (List.mem_of_getElem? (i := 178) rfl) rfl, mTbl_w kt1 (List.mem_of_getElem? (i := 1) rfl) rfl, by decide +kernel, by decide +kernel, by decide +kernel, by decide +kernel⟩
theorem sX11_isDigit : Cond.static yX11_isDigit ∈ mTbl := mTbl_w kt2 (List.mem_of_getElem? (i := 177) rfl) rfl
def mX11_sizeOf : mM := (yX11_sizeOf, cX11_sizeOf, 4, some .int)
theorem tX11_sizeOf : mMt mX11_sizeOf 1 := ⟨mTbl_w kt3 (List.mem_of_getElem? (i := 145) rfl) rfl, mTbl_w kt1 (List.mem_of_getElem? (i := 1) rfl) rfl, by decide +kernel, by decide +kernel, by decide +kernel, by decide +kernel⟩
theorem sX11_sizeOf : Cond.static yX11_sizeOf ∈ mTbl := mTbl_w kt3 (List.mem_of_getElem? (i := 144) rfl) rfl
def mX11_kindOf : mM := (yX11_kindOf, cX11_kindOf, 3, some .int)
theorem tX11_kindOf : mMt mX11_kindOf 1 := ⟨mTbl_w kt3 (List.mem_of_getElem? (i := 57) rfl) rfl, mTbl_w kt1 (List.mem_of_getElem? (i := 1) rfl) rfl, by decide +kernel, by decide +kernel, by decide +kernel, by decide +kernel⟩
theorem sX11_kindOf : Cond.static yX11_kindOf ∈ mTbl := mTbl_w kt3 (List.mem_of_getElem? (i := 56) rfl) rfl
def mX11_ruleOf : mM := (yX11_ruleOf, cX11_ruleOf, 6, some .long)
theorem tX11_ruleOf : mMt mX11_ruleOf 4 := ⟨mTbl_w kt3 (List.mem_of_getElem? (i := 233) rfl) rfl, mTbl_w kt1 (List.mem_of_getElem? (i := 1) rfl) rfl, by decide +kernel, by decide +kernel, by decide +kernel, by decide +kernel⟩
theorem sX11_ruleOf : Cond.static yX11_ruleOf ∈ mTbl := mTbl_w kt3 (List.mem_of_getElem? (i := 232) rfl) rfl
def mX11_withFar : mM := (yX11_withFar, cX11_withFar, 5, some .long)
theorem tX11_withFar : mMt mX11_withFar 2 := ⟨mTbl_w kt4 (List.mem_of_getElem? (i := 12) rfl) rfl, mTbl_w kt1 (List.mem_of_getElem? (i := 1) rfl) rfl, by decide +kernel, by decide +kernel, by decide +kernel, by decide +kernel⟩
theorem sX11_withFar : Cond.static yX11_withFar ∈ mTbl := mTbl_w kt4 (List.mem_of_getElem? (i := 11) rfl) rfl
def mX11_costOfItem : mM := (yX11_costOfItem, cX11_costOfItem, 1, some .int)
theorem tX11_costOfItem : mMt mX11_costOfItem 1 := ⟨mTbl_w kt3 (List.mem_of_getElem? (i := 236) rfl) rfl, mTbl_w kt1 (List.mem_of_getElem? (i := 1) rfl) rfl, by decide +kernel, by decide +kernel, by decide +kernel, by decide +kernel⟩
theorem sX11_costOfItem : Cond.static yX11_costOfItem ∈ mTbl := mTbl_w kt3 (List.mem_of_getElem? (i := 235) rfl) rfl
def mX11_itemOf : mM := (yX11_itemOf, cX11_itemOf, 3, some .int)
theorem tX11_itemOf : mMt mX11_itemOf 2 := ⟨mTbl_w kt4 (List.mem_of_getElem? (i := 51) rfl) rfl, mTbl_w kt1 (List.mem_of_getElem? (i := 1) rfl) rfl, by decide +kernel, by decide +kernel, by decide +kernel, by decide +kernel⟩
theorem sX11_itemOf : Cond.static yX11_itemOf ∈ mTbl := mTbl_w kt4 (List.mem_of_getElem? (i := 50) rfl) rfl
def mX11_costOf : mM := (yX11_costOf, cX11_costOf, 2, some .int)
theorem tX11_costOf : mMt mX11_costOf 1 := ⟨mTbl_w kt4 (List.mem_of_getElem? (i := 75) rfl) rfl, mTbl_w kt1 (List.mem_of_getElem? (i := 1) rfl) rfl, by decide +kernel, by decide +kernel, by decide +kernel, by decide +kernel⟩
theorem sX11_costOf : Cond.static yX11_costOf ∈ mTbl := mTbl_w kt4 (List.mem_of_getElem? (i := 74) rfl) rfl
def mX11_detailOf : mM := (yX11_detailOf, cX11_detailOf, 3, some .int)
theorem tX11_detailOf : mMt mX11_detailOf 2 := ⟨mTbl_w kt4 (List.mem_of_getElem? (i := 232) rfl) rfl, mTbl_w kt1 (List.mem_of_getElem? (i := 1) rfl) rfl, by decide +kernel, by decide +kernel, by decide +kernel, by decide +kernel⟩
theorem sX11_detailOf : Cond.static yX11_detailOf ∈ mTbl := mTbl_w kt4 (List.mem_of_getElem? (i := 231) rfl) rfl
def mX12_init : mM := (yX12_init, cX12_init, 1, none)
theorem tX12_init : mMt mX12_init 0 := ⟨mTbl_w kt5 (List.mem_of_getElem? (i := 165) rfl) rfl, mTbl_w kt1 (List.mem_of_getElem? (i := 11) rfl) rfl, by decide +kernel, by decide +kernel, by decide +kernel, by decide +kernel⟩
theorem nX12_init : Cond.instanceMethod yX12_init ∈ mTbl := mTbl_w kt5 (List.mem_of_getElem? (i := 164) rfl) rfl
def mX12_isIn : mM := (yX12_isIn, cX12_isIn, 3, some .boolean)
theorem tX12_isIn : mMt mX12_isIn 3 := ⟨mTbl_w kt6 (List.mem_of_getElem? (i := 142) rfl) rfl, mTbl_w kt1 (List.mem_of_getElem? (i := 11) rfl) rfl, by decide +kernel, by decide +kernel, by decide +kernel, by decide +kernel⟩
theorem sX12_isIn : Cond.static yX12_isIn ∈ mTbl := mTbl_w kt6 (List.mem_of_getElem? (i := 141) rfl) rfl
def mX12_truth : mM := (yX12_truth, cX12_truth, 1, some .int)
theorem tX12_truth : mMt mX12_truth 1 := ⟨mTbl_w kt7 (List.mem_of_getElem? (i := 137) rfl) rfl, mTbl_w kt1 (List.mem_of_getElem? (i := 11) rfl) rfl, by decide +kernel, by decide +kernel, by decide +kernel, by decide +kernel⟩
theorem sX12_truth : Cond.static yX12_truth ∈ mTbl := mTbl_w kt7 (List.mem_of_getElem? (i := 136) rfl) rfl
def mX12_lesser : mM := (yX12_lesser, cX12_lesser, 2, some .int)
theorem tX12_lesser : mMt mX12_lesser 2 := ⟨mTbl_w kt8 (List.mem_of_getElem? (i := 0) rfl) rfl, mTbl_w kt1 (List.mem_of_getElem? (i := 11) rfl) rfl, by decide +kernel, by decide +kernel, by decide +kernel, by decide +kernel⟩
theorem sX12_lesser : Cond.static yX12_lesser ∈ mTbl := mTbl_w kt7 (List.mem_of_getElem? (i := 239) rfl) rfl
def mX12_greater : mM := (yX12_greater, cX12_greater, 2, some .int)
theorem tX12_greater : mMt mX12_greater 2 := ⟨mTbl_w kt8 (List.mem_of_getElem? (i := 3) rfl) rfl, mTbl_w kt1 (List.mem_of_getElem? (i := 11) rfl) rfl, by decide +kernel, by decide +kernel, by decide +kernel, by decide +kernel⟩
theorem sX12_greater : Cond.static yX12_greater ∈ mTbl := mTbl_w kt8 (List.mem_of_getElem? (i := 2) rfl) rfl
def mX12_isOf : mM := (yX12_isOf, cX12_isOf, 2, some .boolean)
theorem tX12_isOf : mMt mX12_isOf 2 := ⟨mTbl_w kt7 (List.mem_of_getElem? (i := 144) rfl) rfl, mTbl_w kt1 (List.mem_of_getElem? (i := 11) rfl) rfl, by decide +kernel, by decide +kernel, by decide +kernel, by decide +kernel⟩
theorem sX12_isOf : Cond.static yX12_isOf ∈ mTbl := mTbl_w kt7 (List.mem_of_getElem? (i := 143) rfl) rfl
def mX12_many : mM := (yX12_many, cX12_many, 3, some .int)
theorem tX12_many : mMt mX12_many 1 := ⟨mTbl_w kt7 (List.mem_of_getElem? (i := 220) rfl) rfl, mTbl_w kt1 (List.mem_of_getElem? (i := 11) rfl) rfl, by decide +kernel, by decide +kernel, by decide +kernel, by decide +kernel⟩
theorem sX12_many : Cond.static yX12_many ∈ mTbl := mTbl_w kt7 (List.mem_of_getElem? (i := 219) rfl) rfl
def mX12_feed : mM := (yX12_feed, cX12_feed, 6, some .int)
theorem tX12_feed : mMt mX12_feed 5 := ⟨mTbl_w kt6 (List.mem_of_getElem? (i := 131) rfl) rfl, mTbl_w kt1 (List.mem_of_getElem? (i := 11) rfl) rfl, by decide +kernel, by decide +kernel, by decide +kernel, by decide +kernel⟩
theorem nX12_feed : Cond.instanceMethod yX12_feed ∈ mTbl := mTbl_w kt6 (List.mem_of_getElem? (i := 129) rfl) rfl
theorem vX12_feed : Cond.selects yX12_feed.cls yX12_feed yX12_feed ∈ mTbl := mTbl_w kt6 (List.mem_of_getElem? (i := 130) rfl) rfl
def mX12_four : mM := (yX12_four, cX12_four, 3, none)
theorem tX12_four : mMt mX12_four 1 := ⟨mTbl_w kt6 (List.mem_of_getElem? (i := 135) rfl) rfl, mTbl_w kt1 (List.mem_of_getElem? (i := 11) rfl) rfl, by decide +kernel, by decide +kernel, by decide +kernel, by decide +kernel⟩
theorem nX12_four : Cond.instanceMethod yX12_four ∈ mTbl := mTbl_w kt6 (List.mem_of_getElem? (i := 134) rfl) rfl
theorem vX12_four : Cond.selects yX12_four.cls yX12_four yX12_four ∈ mTbl := mTbl_s kp4 (List.mem_of_getElem? (i := 3) rfl)
def mX12_end : mM := (yX12_end, cX12_end, 2, some .int)
theorem tX12_end : mMt mX12_end 1 := ⟨mTbl_w kt6 (List.mem_of_getElem? (i := 139) rfl) rfl, mTbl_w kt1 (List.mem_of_getElem? (i := 11) rfl) rfl, by decide +kernel, by decide +kernel, by decide +kernel, by decide +kernel⟩
theorem nX12_end : Cond.instanceMethod yX12_end ∈ mTbl := mTbl_w kt6 (List.mem_of_getElem? (i := 137) rfl) rfl
theorem vX12_end : Cond.selects yX12_end.cls yX12_end yX12_end ∈ mTbl := mTbl_w kt6 (List.mem_of_getElem? (i := 138) rfl) rfl
def mX12_here : mM := (yX12_here, cX12_here, 2, some .int)
theorem tX12_here : mMt mX12_here 1 := ⟨mTbl_w kt6 (List.mem_of_getElem? (i := 162) rfl) rfl, mTbl_w kt1 (List.mem_of_getElem? (i := 11) rfl) rfl, by decide +kernel, by decide +kernel, by decide +kernel, by decide +kernel⟩
theorem nX12_here : Cond.instanceMethod yX12_here ∈ mTbl := mTbl_w kt6 (List.mem_of_getElem? (i := 161) rfl) rfl
theorem vX12_here : Cond.selects yX12_here.cls yX12_here yX12_here ∈ mTbl := mTbl_s kp4 (List.mem_of_getElem? (i := 6) rfl)
def mX12_isLetter : mM := (yX12_isLetter, cX12_isLetter, 1, some .boolean)
theorem tX12_isLetter : mMt mX12_isLetter 1 := ⟨mTbl_w kt6 (List.mem_of_getElem? (i := 165) rfl) rfl, mTbl_w kt1 (List.mem_of_getElem? (i := 11) rfl) rfl, by decide +kernel, by decide +kernel, by decide +kernel, by decide +kernel⟩
theorem sX12_isLetter : Cond.static yX12_isLetter ∈ mTbl := mTbl_w kt6 (List.mem_of_getElem? (i := 164) rfl) rfl
def mX12_isDigit : mM := (yX12_isDigit, cX12_isDigit, 1, some .boolean)
theorem tX12_isDigit : mMt mX12_isDigit 1 := ⟨mTbl_w kt6 (List.mem_of_getElem? (i := 168) rfl) rfl, mTbl_w kt1 (List.mem_of_getElem? (i := 11) rfl) rfl, by decide +kernel, by decide +kernel, by decide +kernel, by decide +kernel⟩
theorem sX12_isDigit : Cond.static yX12_isDigit ∈ mTbl := mTbl_w kt6 (List.mem_of_getElem? (i := 167) rfl) rfl
def mX12_isSign : mM := (yX12_isSign, cX12_isSign, 1, some .boolean)
theorem tX12_isSign : mMt mX12_isSign 1 := ⟨mTbl_w kt6 (List.mem_of_getElem? (i := 171) rfl) rfl, mTbl_w kt1 (List.mem_of_getElem? (i := 11) rfl) rfl, by decide +kernel, by decide +kernel, by decide +kernel, by decide +kernel⟩
theorem sX12_isSign : Cond.static yX12_isSign ∈ mTbl := mTbl_w kt6 (List.mem_of_getElem? (i := 170) rfl) rfl
def mX12_goOn : mM := (yX12_goOn, cX12_goOn, 3, none)
theorem tX12_goOn : mMt mX12_goOn 0 := ⟨mTbl_w kt6 (List.mem_of_getElem? (i := 158) rfl) rfl, mTbl_w kt1 (List.mem_of_getElem? (i := 11) rfl) rfl, by decide +kernel, by decide +kernel, by decide +kernel, by decide +kernel⟩
theorem nX12_goOn : Cond.instanceMethod yX12_goOn ∈ mTbl := mTbl_w kt6 (List.mem_of_getElem? (i := 157) rfl) rfl
theorem vX12_goOn : Cond.selects yX12_goOn.cls yX12_goOn yX12_goOn ∈ mTbl := mTbl_s kp4 (List.mem_of_getElem? (i := 5) rfl)
def mX12_wrong : mM := (yX12_wrong, cX12_wrong, 2, none)
theorem tX12_wrong : mMt mX12_wrong 1 := ⟨mTbl_w kt6 (List.mem_of_getElem? (i := 188) rfl) rfl, mTbl_w kt1 (List.mem_of_getElem? (i := 11) rfl) rfl, by decide +kernel, by decide +kernel, by decide +kernel, by decide +kernel⟩
theorem nX12_wrong : Cond.instanceMethod yX12_wrong ∈ mTbl := mTbl_w kt6 (List.mem_of_getElem? (i := 187) rfl) rfl
theorem vX12_wrong : Cond.selects yX12_wrong.cls yX12_wrong yX12_wrong ∈ mTbl := mTbl_s kp4 (List.mem_of_getElem? (i := 10) rfl)
def mX12_isGood : mM := (yX12_isGood, cX12_isGood, 1, some .boolean)
theorem tX12_isGood : mMt mX12_isGood 0 := ⟨mTbl_w kt6 (List.mem_of_getElem? (i := 175) rfl) rfl, mTbl_w kt1 (List.mem_of_getElem? (i := 11) rfl) rfl, by decide +kernel, by decide +kernel, by decide +kernel, by decide +kernel⟩
theorem nX12_isGood : Cond.instanceMethod yX12_isGood ∈ mTbl := mTbl_w kt6 (List.mem_of_getElem? (i := 174) rfl) rfl
theorem vX12_isGood : Cond.selects yX12_isGood.cls yX12_isGood yX12_isGood ∈ mTbl := mTbl_s kp4 (List.mem_of_getElem? (i := 7) rfl)
def mX12_isWord : mM := (yX12_isWord, cX12_isWord, 3, some .boolean)
theorem tX12_isWord : mMt mX12_isWord 1 := ⟨mTbl_w kt6 (List.mem_of_getElem? (i := 180) rfl) rfl, mTbl_w kt1 (List.mem_of_getElem? (i := 11) rfl) rfl, by decide +kernel, by decide +kernel, by decide +kernel, by decide +kernel⟩
theorem nX12_isWord : Cond.instanceMethod yX12_isWord ∈ mTbl := mTbl_w kt6 (List.mem_of_getElem? (i := 179) rfl) rfl
theorem vX12_isWord : Cond.selects yX12_isWord.cls yX12_isWord yX12_isWord ∈ mTbl := mTbl_s kp4 (List.mem_of_getElem? (i := 8) rfl)
def mX12_nameHere : mM := (yX12_nameHere, cX12_nameHere, 1, some .long)
theorem tX12_nameHere : mMt mX12_nameHere 0 := ⟨mTbl_w kt6 (List.mem_of_getElem? (i := 192) rfl) rfl, mTbl_w kt1 (List.mem_of_getElem? (i := 11) rfl) rfl, by decide +kernel, by decide +kernel, by decide +kernel, by decide +kernel⟩
theorem nX12_nameHere : Cond.instanceMethod yX12_nameHere ∈ mTbl := mTbl_w kt6 (List.mem_of_getElem? (i := 191) rfl) rfl
theorem vX12_nameHere : Cond.selects yX12_nameHere.cls yX12_nameHere yX12_nameHere ∈ mTbl := mTbl_s kp4 (List.mem_of_getElem? (i := 11) rfl)
def mX12_beginsText : mM := (yX12_beginsText, cX12_beginsText, 1, none)
theorem tX12_beginsText : mMt mX12_beginsText 0 := ⟨mTbl_w kt6 (List.mem_of_getElem? (i := 154) rfl) rfl, mTbl_w kt1 (List.mem_of_getElem? (i := 11) rfl) rfl, by decide +kernel, by decide +kernel, by decide +kernel, by decide +kernel⟩
theorem nX12_beginsText : Cond.instanceMethod yX12_beginsText ∈ mTbl := mTbl_w kt6 (List.mem_of_getElem? (i := 153) rfl) rfl
theorem vX12_beginsText : Cond.selects yX12_beginsText.cls yX12_beginsText yX12_beginsText ∈ mTbl := mTbl_s kp4 (List.mem_of_getElem? (i := 4) rfl)
def mX12_endsText : mM := (yX12_endsText, cX12_endsText, 1, some .boolean)
theorem tX12_endsText : mMt mX12_endsText 0 := ⟨mTbl_w kt6 (List.mem_of_getElem? (i := 213) rfl) rfl, mTbl_w kt1 (List.mem_of_getElem? (i := 11) rfl) rfl, by decide +kernel, by decide +kernel, by decide +kernel, by decide +kernel⟩
theorem nX12_endsText : Cond.instanceMethod yX12_endsText ∈ mTbl := mTbl_w kt6 (List.mem_of_getElem? (i := 212) rfl) rfl
theorem vX12_endsText : Cond.selects yX12_endsText.cls yX12_endsText yX12_endsText ∈ mTbl := mTbl_s kp4 (List.mem_of_getElem? (i := 15) rfl)
def mX12_fault : mM := (yX12_fault, cX12_fault, 2, some .int)
theorem tX12_fault : mMt mX12_fault 1 := ⟨mTbl_w kt6 (List.mem_of_getElem? (i := 146) rfl) rfl, mTbl_w kt1 (List.mem_of_getElem? (i := 11) rfl) rfl, by decide +kernel, by decide +kernel, by decide +kernel, by decide +kernel⟩
theorem nX12_fault : Cond.instanceMethod yX12_fault ∈ mTbl := mTbl_w kt6 (List.mem_of_getElem? (i := 144) rfl) rfl
theorem vX12_fault : Cond.selects yX12_fault.cls yX12_fault yX12_fault ∈ mTbl := mTbl_w kt6 (List.mem_of_getElem? (i := 145) rfl) rfl
def mX12_begins : mM := (yX12_begins, cX12_begins, 1, none)
theorem tX12_begins : mMt mX12_begins 0 := ⟨mTbl_w kt5 (List.mem_of_getElem? (i := 171) rfl) rfl, mTbl_w kt1 (List.mem_of_getElem? (i := 11) rfl) rfl, by decide +kernel, by decide +kernel, by decide +kernel, by decide +kernel⟩
theorem nX12_begins : Cond.instanceMethod yX12_begins ∈ mTbl := mTbl_w kt5 (List.mem_of_getElem? (i := 170) rfl) rfl
theorem vX12_begins : Cond.selects yX12_begins.cls yX12_begins yX12_begins ∈ mTbl := mTbl_s kp4 (List.mem_of_getElem? (i := 2) rfl)
def mX12_fieldLine : mM := (yX12_fieldLine, cX12_fieldLine, 5, none)
theorem tX12_fieldLine : mMt mX12_fieldLine 0 := ⟨mTbl_w kt6 (List.mem_of_getElem? (i := 184) rfl) rfl, mTbl_w kt1 (List.mem_of_getElem? (i := 11) rfl) rfl, by decide +kernel, by decide +kernel, by decide +kernel, by decide +kernel⟩
theorem nX12_fieldLine : Cond.instanceMethod yX12_fieldLine ∈ mTbl := mTbl_w kt6 (List.mem_of_getElem? (i := 183) rfl) rfl
theorem vX12_fieldLine : Cond.selects yX12_fieldLine.cls yX12_fieldLine yX12_fieldLine ∈ mTbl := mTbl_s kp4 (List.mem_of_getElem? (i := 9) rfl)
def mX12_parentHere : mM := (yX12_parentHere, cX12_parentHere, 5, some .int)
theorem tX12_parentHere : mMt mX12_parentHere 0 := ⟨mTbl_w kt6 (List.mem_of_getElem? (i := 200) rfl) rfl, mTbl_w kt1 (List.mem_of_getElem? (i := 11) rfl) rfl, by decide +kernel, by decide +kernel, by decide +kernel, by decide +kernel⟩
theorem nX12_parentHere : Cond.instanceMethod yX12_parentHere ∈ mTbl := mTbl_w kt6 (List.mem_of_getElem? (i := 199) rfl) rfl
theorem vX12_parentHere : Cond.selects yX12_parentHere.cls yX12_parentHere yX12_parentHere ∈ mTbl := mTbl_s kp4 (List.mem_of_getElem? (i := 12) rfl)
def mX12_isPageToken : mM := (yX12_isPageToken, cX12_isPageToken, 1, some .boolean)
theorem tX12_isPageToken : mMt mX12_isPageToken 0 := ⟨mTbl_w kt6 (List.mem_of_getElem? (i := 209) rfl) rfl, mTbl_w kt1 (List.mem_of_getElem? (i := 11) rfl) rfl, by decide +kernel, by decide +kernel, by decide +kernel, by decide +kernel⟩
theorem nX12_isPageToken : Cond.instanceMethod yX12_isPageToken ∈ mTbl := mTbl_w kt6 (List.mem_of_getElem? (i := 208) rfl) rfl
theorem vX12_isPageToken : Cond.selects yX12_isPageToken.cls yX12_isPageToken yX12_isPageToken ∈ mTbl := mTbl_s kp4 (List.mem_of_getElem? (i := 14) rfl)
def mX12_pageLine : mM := (yX12_pageLine, cX12_pageLine, 3, none)
theorem tX12_pageLine : mMt mX12_pageLine 0 := ⟨mTbl_w kt6 (List.mem_of_getElem? (i := 205) rfl) rfl, mTbl_w kt1 (List.mem_of_getElem? (i := 11) rfl) rfl, by decide +kernel, by decide +kernel, by decide +kernel, by decide +kernel⟩
theorem nX12_pageLine : Cond.instanceMethod yX12_pageLine ∈ mTbl := mTbl_w kt6 (List.mem_of_getElem? (i := 204) rfl) rfl
theorem vX12_pageLine : Cond.selects yX12_pageLine.cls yX12_pageLine yX12_pageLine ∈ mTbl := mTbl_s kp4 (List.mem_of_getElem? (i := 13) rfl)
def mX12_comesPage : mM := (yX12_comesPage, cX12_comesPage, 4, none)
theorem tX12_comesPage : mMt mX12_comesPage 2 := ⟨mTbl_w kt6 (List.mem_of_getElem? (i := 217) rfl) rfl, mTbl_w kt1 (List.mem_of_getElem? (i := 11) rfl) rfl, by decide +kernel, by decide +kernel, by decide +kernel, by decide +kernel⟩
theorem nX12_comesPage : Cond.instanceMethod yX12_comesPage ∈ mTbl := mTbl_w kt6 (List.mem_of_getElem? (i := 216) rfl) rfl
theorem vX12_comesPage : Cond.selects yX12_comesPage.cls yX12_comesPage yX12_comesPage ∈ mTbl := mTbl_s kp5 (List.mem_of_getElem? (i := 0) rfl)
def mX12_book : mM := (yX12_book, cX12_book, 2, some .int)
theorem tX12_book : mMt mX12_book 0 := ⟨mTbl_w kt6 (List.mem_of_getElem? (i := 150) rfl) rfl, mTbl_w kt1 (List.mem_of_getElem? (i := 11) rfl) rfl, by decide +kernel, by decide +kernel, by decide +kernel, by decide +kernel⟩
theorem nX12_book : Cond.instanceMethod yX12_book ∈ mTbl := mTbl_w kt6 (List.mem_of_getElem? (i := 148) rfl) rfl
theorem vX12_book : Cond.selects yX12_book.cls yX12_book yX12_book ∈ mTbl := mTbl_w kt6 (List.mem_of_getElem? (i := 149) rfl) rfl
def mX12_page : mM := (yX12_page, cX12_page, 2, some .int)
theorem tX12_page : mMt mX12_page 0 := ⟨mTbl_w kt6 (List.mem_of_getElem? (i := 221) rfl) rfl, mTbl_w kt1 (List.mem_of_getElem? (i := 11) rfl) rfl, by decide +kernel, by decide +kernel, by decide +kernel, by decide +kernel⟩
theorem nX12_page : Cond.instanceMethod yX12_page ∈ mTbl := mTbl_w kt6 (List.mem_of_getElem? (i := 219) rfl) rfl
theorem vX12_page : Cond.selects yX12_page.cls yX12_page yX12_page ∈ mTbl := mTbl_w kt6 (List.mem_of_getElem? (i := 220) rfl) rfl
def mX12_pages : mM := (yX12_pages, cX12_pages, 1, some .int)
theorem tX12_pages : mMt mX12_pages 0 := ⟨mTbl_w kt6 (List.mem_of_getElem? (i := 225) rfl) rfl, mTbl_w kt1 (List.mem_of_getElem? (i := 11) rfl) rfl, by decide +kernel, by decide +kernel, by decide +kernel, by decide +kernel⟩
theorem nX12_pages : Cond.instanceMethod yX12_pages ∈ mTbl := mTbl_w kt6 (List.mem_of_getElem? (i := 224) rfl) rfl
theorem vX12_pages : Cond.selects yX12_pages.cls yX12_pages yX12_pages ∈ mTbl := mTbl_s kp5 (List.mem_of_getElem? (i := 1) rfl)
def mX12_isPage : mM := (yX12_isPage, cX12_isPage, 2, some .boolean)
theorem tX12_isPage : mMt mX12_isPage 1 := ⟨mTbl_w kt6 (List.mem_of_getElem? (i := 237) rfl) rfl, mTbl_w kt1 (List.mem_of_getElem? (i := 11) rfl) rfl, by decide +kernel, by decide +kernel, by decide +kernel, by decide +kernel⟩
theorem nX12_isPage : Cond.instanceMethod yX12_isPage ∈ mTbl := mTbl_w kt6 (List.mem_of_getElem? (i := 236) rfl) rfl
theorem vX12_isPage : Cond.selects yX12_isPage.cls yX12_isPage yX12_isPage ∈ mTbl := mTbl_s kp5 (List.mem_of_getElem? (i := 3) rfl)
def mX12_isField : mM := (yX12_isField, cX12_isField, 2, some .boolean)
theorem tX12_isField : mMt mX12_isField 1 := ⟨mTbl_w kt7 (List.mem_of_getElem? (i := 51) rfl) rfl, mTbl_w kt1 (List.mem_of_getElem? (i := 11) rfl) rfl, by decide +kernel, by decide +kernel, by decide +kernel, by decide +kernel⟩
theorem nX12_isField : Cond.instanceMethod yX12_isField ∈ mTbl := mTbl_w kt7 (List.mem_of_getElem? (i := 50) rfl) rfl
theorem vX12_isField : Cond.selects yX12_isField.cls yX12_isField yX12_isField ∈ mTbl := mTbl_s kp5 (List.mem_of_getElem? (i := 10) rfl)
def mX12_tokensOf : mM := (yX12_tokensOf, cX12_tokensOf, 2, some .int)
theorem tX12_tokensOf : mMt mX12_tokensOf 1 := ⟨mTbl_w kt7 (List.mem_of_getElem? (i := 1) rfl) rfl, mTbl_w kt1 (List.mem_of_getElem? (i := 11) rfl) rfl, by decide +kernel, by decide +kernel, by decide +kernel, by decide +kernel⟩
theorem nX12_tokensOf : Cond.instanceMethod yX12_tokensOf ∈ mTbl := mTbl_w kt7 (List.mem_of_getElem? (i := 0) rfl) rfl
theorem vX12_tokensOf : Cond.selects yX12_tokensOf.cls yX12_tokensOf yX12_tokensOf ∈ mTbl := mTbl_s kp5 (List.mem_of_getElem? (i := 4) rfl)
def mX12_wordAt : mM := (yX12_wordAt, cX12_wordAt, 3, some .long)
theorem tX12_wordAt : mMt mX12_wordAt 2 := ⟨mTbl_w kt7 (List.mem_of_getElem? (i := 13) rfl) rfl, mTbl_w kt1 (List.mem_of_getElem? (i := 11) rfl) rfl, by decide +kernel, by decide +kernel, by decide +kernel, by decide +kernel⟩
theorem nX12_wordAt : Cond.instanceMethod yX12_wordAt ∈ mTbl := mTbl_w kt7 (List.mem_of_getElem? (i := 12) rfl) rfl
theorem vX12_wordAt : Cond.selects yX12_wordAt.cls yX12_wordAt yX12_wordAt ∈ mTbl := mTbl_s kp5 (List.mem_of_getElem? (i := 6) rfl)
def mX12_bytesOf : mM := (yX12_bytesOf, cX12_bytesOf, 3, some .int)
theorem tX12_bytesOf : mMt mX12_bytesOf 1 := ⟨mTbl_w kt7 (List.mem_of_getElem? (i := 26) rfl) rfl, mTbl_w kt1 (List.mem_of_getElem? (i := 11) rfl) rfl, by decide +kernel, by decide +kernel, by decide +kernel, by decide +kernel⟩
theorem sX12_bytesOf : Cond.static yX12_bytesOf ∈ mTbl := mTbl_w kt7 (List.mem_of_getElem? (i := 25) rfl) rfl
def mX12_firstByte : mM := (yX12_firstByte, cX12_firstByte, 2, some .int)
theorem tX12_firstByte : mMt mX12_firstByte 1 := ⟨mTbl_w kt7 (List.mem_of_getElem? (i := 23) rfl) rfl, mTbl_w kt1 (List.mem_of_getElem? (i := 11) rfl) rfl, by decide +kernel, by decide +kernel, by decide +kernel, by decide +kernel⟩
theorem sX12_firstByte : Cond.static yX12_firstByte ∈ mTbl := mTbl_w kt7 (List.mem_of_getElem? (i := 22) rfl) rfl
def mX12_kindOf : mM := (yX12_kindOf, cX12_kindOf, 2, some .int)
theorem tX12_kindOf : mMt mX12_kindOf 1 := ⟨mTbl_w kt7 (List.mem_of_getElem? (i := 20) rfl) rfl, mTbl_w kt1 (List.mem_of_getElem? (i := 11) rfl) rfl, by decide +kernel, by decide +kernel, by decide +kernel, by decide +kernel⟩
theorem sX12_kindOf : Cond.static yX12_kindOf ∈ mTbl := mTbl_w kt7 (List.mem_of_getElem? (i := 19) rfl) rfl
def mX12_numberOf : mM := (yX12_numberOf, cX12_numberOf, 4, some .int)
theorem tX12_numberOf : mMt mX12_numberOf 1 := ⟨mTbl_w kt7 (List.mem_of_getElem? (i := 17) rfl) rfl, mTbl_w kt1 (List.mem_of_getElem? (i := 11) rfl) rfl, by decide +kernel, by decide +kernel, by decide +kernel, by decide +kernel⟩
theorem nX12_numberOf : Cond.instanceMethod yX12_numberOf ∈ mTbl := mTbl_w kt7 (List.mem_of_getElem? (i := 16) rfl) rfl
theorem vX12_numberOf : Cond.selects yX12_numberOf.cls yX12_numberOf yX12_numberOf ∈ mTbl := mTbl_s kp5 (List.mem_of_getElem? (i := 7) rfl)
def mX12_laysNumbers : mM := (yX12_laysNumbers, cX12_laysNumbers, 5, none)
theorem tX12_laysNumbers : mMt mX12_laysNumbers 0 := ⟨mTbl_w kt7 (List.mem_of_getElem? (i := 9) rfl) rfl, mTbl_w kt1 (List.mem_of_getElem? (i := 11) rfl) rfl, by decide +kernel, by decide +kernel, by decide +kernel, by decide +kernel⟩
theorem nX12_laysNumbers : Cond.instanceMethod yX12_laysNumbers ∈ mTbl := mTbl_w kt7 (List.mem_of_getElem? (i := 8) rfl) rfl
theorem vX12_laysNumbers : Cond.selects yX12_laysNumbers.cls yX12_laysNumbers yX12_laysNumbers ∈ mTbl := mTbl_s kp5 (List.mem_of_getElem? (i := 5) rfl)
def mX12_tokens : mM := (yX12_tokens, cX12_tokens, 2, some .int)
theorem tX12_tokens : mMt mX12_tokens 1 := ⟨mTbl_w kt6 (List.mem_of_getElem? (i := 233) rfl) rfl, mTbl_w kt1 (List.mem_of_getElem? (i := 11) rfl) rfl, by decide +kernel, by decide +kernel, by decide +kernel, by decide +kernel⟩
theorem nX12_tokens : Cond.instanceMethod yX12_tokens ∈ mTbl := mTbl_w kt6 (List.mem_of_getElem? (i := 231) rfl) rfl
theorem vX12_tokens : Cond.selects yX12_tokens.cls yX12_tokens yX12_tokens ∈ mTbl := mTbl_w kt6 (List.mem_of_getElem? (i := 232) rfl) rfl
def mX12_token : mM := (yX12_token, cX12_token, 4, some .int)
theorem tX12_token : mMt mX12_token 3 := ⟨mTbl_w kt7 (List.mem_of_getElem? (i := 5) rfl) rfl, mTbl_w kt1 (List.mem_of_getElem? (i := 11) rfl) rfl, by decide +kernel, by decide +kernel, by decide +kernel, by decide +kernel⟩
theorem nX12_token : Cond.instanceMethod yX12_token ∈ mTbl := mTbl_w kt7 (List.mem_of_getElem? (i := 3) rfl) rfl
theorem vX12_token : Cond.selects yX12_token.cls yX12_token yX12_token ∈ mTbl := mTbl_w kt7 (List.mem_of_getElem? (i := 4) rfl) rfl
def mX12_act : mM := (yX12_act, cX12_act, 2, none)
theorem tX12_act : mMt mX12_act 0 := ⟨mTbl_w kt6 (List.mem_of_getElem? (i := 229) rfl) rfl, mTbl_w kt1 (List.mem_of_getElem? (i := 11) rfl) rfl, by decide +kernel, by decide +kernel, by decide +kernel, by decide +kernel⟩
theorem nX12_act : Cond.instanceMethod yX12_act ∈ mTbl := mTbl_w kt6 (List.mem_of_getElem? (i := 228) rfl) rfl
theorem vX12_act : Cond.selects yX12_act.cls yX12_act yX12_act ∈ mTbl := mTbl_s kp5 (List.mem_of_getElem? (i := 2) rfl)
def mX12_exchanges : mM := (yX12_exchanges, cX12_exchanges, 5, none)
theorem tX12_exchanges : mMt mX12_exchanges 1 := ⟨mTbl_w kt7 (List.mem_of_getElem? (i := 35) rfl) rfl, mTbl_w kt1 (List.mem_of_getElem? (i := 11) rfl) rfl, by decide +kernel, by decide +kernel, by decide +kernel, by decide +kernel⟩
theorem nX12_exchanges : Cond.instanceMethod yX12_exchanges ∈ mTbl := mTbl_w kt7 (List.mem_of_getElem? (i := 34) rfl) rfl
theorem vX12_exchanges : Cond.selects yX12_exchanges.cls yX12_exchanges yX12_exchanges ∈ mTbl := mTbl_s kp5 (List.mem_of_getElem? (i := 8) rfl)
def mX12_undo : mM := (yX12_undo, cX12_undo, 1, some .boolean)
theorem tX12_undo : mMt mX12_undo 0 := ⟨mTbl_w kt7 (List.mem_of_getElem? (i := 31) rfl) rfl, mTbl_w kt1 (List.mem_of_getElem? (i := 11) rfl) rfl, by decide +kernel, by decide +kernel, by decide +kernel, by decide +kernel⟩
theorem nX12_undo : Cond.instanceMethod yX12_undo ∈ mTbl := mTbl_w kt7 (List.mem_of_getElem? (i := 29) rfl) rfl
theorem vX12_undo : Cond.selects yX12_undo.cls yX12_undo yX12_undo ∈ mTbl := mTbl_w kt7 (List.mem_of_getElem? (i := 30) rfl) rfl
def mX12_redo : mM := (yX12_redo, cX12_redo, 1, some .boolean)
theorem tX12_redo : mMt mX12_redo 0 := ⟨mTbl_w kt7 (List.mem_of_getElem? (i := 39) rfl) rfl, mTbl_w kt1 (List.mem_of_getElem? (i := 11) rfl) rfl, by decide +kernel, by decide +kernel, by decide +kernel, by decide +kernel⟩
theorem nX12_redo : Cond.instanceMethod yX12_redo ∈ mTbl := mTbl_w kt7 (List.mem_of_getElem? (i := 37) rfl) rfl
theorem vX12_redo : Cond.selects yX12_redo.cls yX12_redo yX12_redo ∈ mTbl := mTbl_w kt7 (List.mem_of_getElem? (i := 38) rfl) rfl
def mX12_markAt : mM := (yX12_markAt, cX12_markAt, 2, some .int)
theorem tX12_markAt : mMt mX12_markAt 2 := ⟨mTbl_w kt7 (List.mem_of_getElem? (i := 58) rfl) rfl, mTbl_w kt1 (List.mem_of_getElem? (i := 11) rfl) rfl, by decide +kernel, by decide +kernel, by decide +kernel, by decide +kernel⟩
theorem sX12_markAt : Cond.static yX12_markAt ∈ mTbl := mTbl_w kt7 (List.mem_of_getElem? (i := 57) rfl) rfl
def mX12_partsOf : mM := (yX12_partsOf, cX12_partsOf, 3, some .int)
theorem tX12_partsOf : mMt mX12_partsOf 2 := ⟨mTbl_w kt7 (List.mem_of_getElem? (i := 55) rfl) rfl, mTbl_w kt1 (List.mem_of_getElem? (i := 11) rfl) rfl, by decide +kernel, by decide +kernel, by decide +kernel, by decide +kernel⟩
theorem nX12_partsOf : Cond.instanceMethod yX12_partsOf ∈ mTbl := mTbl_w kt7 (List.mem_of_getElem? (i := 54) rfl) rfl
theorem vX12_partsOf : Cond.selects yX12_partsOf.cls yX12_partsOf yX12_partsOf ∈ mTbl := mTbl_s kp5 (List.mem_of_getElem? (i := 11) rfl)
def mX12_fromOf : mM := (yX12_fromOf, cX12_fromOf, 4, some .int)
theorem tX12_fromOf : mMt mX12_fromOf 3 := ⟨mTbl_w kt7 (List.mem_of_getElem? (i := 66) rfl) rfl, mTbl_w kt1 (List.mem_of_getElem? (i := 11) rfl) rfl, by decide +kernel, by decide +kernel, by decide +kernel, by decide +kernel⟩
theorem nX12_fromOf : Cond.instanceMethod yX12_fromOf ∈ mTbl := mTbl_w kt7 (List.mem_of_getElem? (i := 65) rfl) rfl
theorem vX12_fromOf : Cond.selects yX12_fromOf.cls yX12_fromOf yX12_fromOf ∈ mTbl := mTbl_s kp5 (List.mem_of_getElem? (i := 13) rfl)
def mX12_toOf : mM := (yX12_toOf, cX12_toOf, 4, some .int)
theorem tX12_toOf : mMt mX12_toOf 3 := ⟨mTbl_w kt7 (List.mem_of_getElem? (i := 62) rfl) rfl, mTbl_w kt1 (List.mem_of_getElem? (i := 11) rfl) rfl, by decide +kernel, by decide +kernel, by decide +kernel, by decide +kernel⟩
theorem nX12_toOf : Cond.instanceMethod yX12_toOf ∈ mTbl := mTbl_w kt7 (List.mem_of_getElem? (i := 61) rfl) rfl
theorem vX12_toOf : Cond.selects yX12_toOf.cls yX12_toOf yX12_toOf ∈ mTbl := mTbl_s kp5 (List.mem_of_getElem? (i := 12) rfl)
def mX12_canMark : mM := (yX12_canMark, cX12_canMark, 6, some .boolean)
theorem tX12_canMark : mMt mX12_canMark 4 := ⟨mTbl_w kt7 (List.mem_of_getElem? (i := 47) rfl) rfl, mTbl_w kt1 (List.mem_of_getElem? (i := 11) rfl) rfl, by decide +kernel, by decide +kernel, by decide +kernel, by decide +kernel⟩
theorem nX12_canMark : Cond.instanceMethod yX12_canMark ∈ mTbl := mTbl_w kt7 (List.mem_of_getElem? (i := 46) rfl) rfl
theorem vX12_canMark : Cond.selects yX12_canMark.cls yX12_canMark yX12_canMark ∈ mTbl := mTbl_s kp5 (List.mem_of_getElem? (i := 9) rfl)
def mX12_mark : mM := (yX12_mark, cX12_mark, 7, some .int)
theorem tX12_mark : mMt mX12_mark 4 := ⟨mTbl_w kt7 (List.mem_of_getElem? (i := 43) rfl) rfl, mTbl_w kt1 (List.mem_of_getElem? (i := 11) rfl) rfl, by decide +kernel, by decide +kernel, by decide +kernel, by decide +kernel⟩
theorem nX12_mark : Cond.instanceMethod yX12_mark ∈ mTbl := mTbl_w kt7 (List.mem_of_getElem? (i := 41) rfl) rfl
theorem vX12_mark : Cond.selects yX12_mark.cls yX12_mark yX12_mark ∈ mTbl := mTbl_w kt7 (List.mem_of_getElem? (i := 42) rfl) rfl
def mX12_isUnder : mM := (yX12_isUnder, cX12_isUnder, 4, some .boolean)
theorem tX12_isUnder : mMt mX12_isUnder 2 := ⟨mTbl_w kt7 (List.mem_of_getElem? (i := 74) rfl) rfl, mTbl_w kt1 (List.mem_of_getElem? (i := 11) rfl) rfl, by decide +kernel, by decide +kernel, by decide +kernel, by decide +kernel⟩
theorem nX12_isUnder : Cond.instanceMethod yX12_isUnder ∈ mTbl := mTbl_w kt7 (List.mem_of_getElem? (i := 73) rfl) rfl
theorem vX12_isUnder : Cond.selects yX12_isUnder.cls yX12_isUnder yX12_isUnder ∈ mTbl := mTbl_s kp5 (List.mem_of_getElem? (i := 14) rfl)
def mX12_unmark : mM := (yX12_unmark, cX12_unmark, 6, some .int)
theorem tX12_unmark : mMt mX12_unmark 2 := ⟨mTbl_w kt7 (List.mem_of_getElem? (i := 70) rfl) rfl, mTbl_w kt1 (List.mem_of_getElem? (i := 11) rfl) rfl, by decide +kernel, by decide +kernel, by decide +kernel, by decide +kernel⟩
theorem nX12_unmark : Cond.instanceMethod yX12_unmark ∈ mTbl := mTbl_w kt7 (List.mem_of_getElem? (i := 68) rfl) rfl
theorem vX12_unmark : Cond.selects yX12_unmark.cls yX12_unmark yX12_unmark ∈ mTbl := mTbl_w kt7 (List.mem_of_getElem? (i := 69) rfl) rfl
def mX12_marked : mM := (yX12_marked, cX12_marked, 5, some .int)
theorem tX12_marked : mMt mX12_marked 4 := ⟨mTbl_w kt7 (List.mem_of_getElem? (i := 78) rfl) rfl, mTbl_w kt1 (List.mem_of_getElem? (i := 11) rfl) rfl, by decide +kernel, by decide +kernel, by decide +kernel, by decide +kernel⟩
theorem nX12_marked : Cond.instanceMethod yX12_marked ∈ mTbl := mTbl_w kt7 (List.mem_of_getElem? (i := 76) rfl) rfl
theorem vX12_marked : Cond.selects yX12_marked.cls yX12_marked yX12_marked ∈ mTbl := mTbl_w kt7 (List.mem_of_getElem? (i := 77) rfl) rfl
def mX12_examples : mM := (yX12_examples, cX12_examples, 4, some .int)
theorem tX12_examples : mMt mX12_examples 1 := ⟨mTbl_w kt7 (List.mem_of_getElem? (i := 134) rfl) rfl, mTbl_w kt1 (List.mem_of_getElem? (i := 11) rfl) rfl, by decide +kernel, by decide +kernel, by decide +kernel, by decide +kernel⟩
theorem nX12_examples : Cond.instanceMethod yX12_examples ∈ mTbl := mTbl_w kt7 (List.mem_of_getElem? (i := 133) rfl) rfl
theorem vX12_examples : Cond.selects yX12_examples.cls yX12_examples yX12_examples ∈ mTbl := mTbl_s kp6 (List.mem_of_getElem? (i := 10) rfl)
def mX12_regionFrom : mM := (yX12_regionFrom, cX12_regionFrom, 3, some .int)
theorem tX12_regionFrom : mMt mX12_regionFrom 2 := ⟨mTbl_w kt7 (List.mem_of_getElem? (i := 98) rfl) rfl, mTbl_w kt1 (List.mem_of_getElem? (i := 11) rfl) rfl, by decide +kernel, by decide +kernel, by decide +kernel, by decide +kernel⟩
theorem nX12_regionFrom : Cond.instanceMethod yX12_regionFrom ∈ mTbl := mTbl_w kt7 (List.mem_of_getElem? (i := 97) rfl) rfl
theorem vX12_regionFrom : Cond.selects yX12_regionFrom.cls yX12_regionFrom yX12_regionFrom ∈ mTbl := mTbl_s kp6 (List.mem_of_getElem? (i := 2) rfl)
def mX12_regionTo : mM := (yX12_regionTo, cX12_regionTo, 3, some .int)
theorem tX12_regionTo : mMt mX12_regionTo 2 := ⟨mTbl_w kt7 (List.mem_of_getElem? (i := 102) rfl) rfl, mTbl_w kt1 (List.mem_of_getElem? (i := 11) rfl) rfl, by decide +kernel, by decide +kernel, by decide +kernel, by decide +kernel⟩
theorem nX12_regionTo : Cond.instanceMethod yX12_regionTo ∈ mTbl := mTbl_w kt7 (List.mem_of_getElem? (i := 101) rfl) rfl
theorem vX12_regionTo : Cond.selects yX12_regionTo.cls yX12_regionTo yX12_regionTo ∈ mTbl := mTbl_s kp6 (List.mem_of_getElem? (i := 3) rfl)
def mX12_laysRow : mM := (yX12_laysRow, cX12_laysRow, 4, none)
theorem tX12_laysRow : mMt mX12_laysRow 2 := ⟨mTbl_w kt7 (List.mem_of_getElem? (i := 94) rfl) rfl, mTbl_w kt1 (List.mem_of_getElem? (i := 11) rfl) rfl, by decide +kernel, by decide +kernel, by decide +kernel, by decide +kernel⟩
theorem nX12_laysRow : Cond.instanceMethod yX12_laysRow ∈ mTbl := mTbl_w kt7 (List.mem_of_getElem? (i := 93) rfl) rfl
theorem vX12_laysRow : Cond.selects yX12_laysRow.cls yX12_laysRow yX12_laysRow ∈ mTbl := mTbl_s kp6 (List.mem_of_getElem? (i := 1) rfl)
def mX12_isItem : mM := (yX12_isItem, cX12_isItem, 3, some .boolean)
theorem tX12_isItem : mMt mX12_isItem 2 := ⟨mTbl_w kt7 (List.mem_of_getElem? (i := 118) rfl) rfl, mTbl_w kt1 (List.mem_of_getElem? (i := 11) rfl) rfl, by decide +kernel, by decide +kernel, by decide +kernel, by decide +kernel⟩
theorem nX12_isItem : Cond.instanceMethod yX12_isItem ∈ mTbl := mTbl_w kt7 (List.mem_of_getElem? (i := 117) rfl) rfl
theorem vX12_isItem : Cond.selects yX12_isItem.cls yX12_isItem yX12_isItem ∈ mTbl := mTbl_s kp6 (List.mem_of_getElem? (i := 7) rfl)
def mX12_first : mM := (yX12_first, cX12_first, 5, some .int)
theorem tX12_first : mMt mX12_first 3 := ⟨mTbl_w kt7 (List.mem_of_getElem? (i := 114) rfl) rfl, mTbl_w kt1 (List.mem_of_getElem? (i := 11) rfl) rfl, by decide +kernel, by decide +kernel, by decide +kernel, by decide +kernel⟩
theorem nX12_first : Cond.instanceMethod yX12_first ∈ mTbl := mTbl_w kt7 (List.mem_of_getElem? (i := 113) rfl) rfl
theorem vX12_first : Cond.selects yX12_first.cls yX12_first yX12_first ∈ mTbl := mTbl_s kp6 (List.mem_of_getElem? (i := 6) rfl)
def mX12_behindNear : mM := (yX12_behindNear, cX12_behindNear, 6, some .int)
theorem tX12_behindNear : mMt mX12_behindNear 4 := ⟨mTbl_w kt7 (List.mem_of_getElem? (i := 122) rfl) rfl, mTbl_w kt1 (List.mem_of_getElem? (i := 11) rfl) rfl, by decide +kernel, by decide +kernel, by decide +kernel, by decide +kernel⟩
theorem nX12_behindNear : Cond.instanceMethod yX12_behindNear ∈ mTbl := mTbl_w kt7 (List.mem_of_getElem? (i := 121) rfl) rfl
theorem vX12_behindNear : Cond.selects yX12_behindNear.cls yX12_behindNear yX12_behindNear ∈ mTbl := mTbl_s kp6 (List.mem_of_getElem? (i := 8) rfl)
def mX12_cutsOne : mM := (yX12_cutsOne, cX12_cutsOne, 9, some .boolean)
theorem tX12_cutsOne : mMt mX12_cutsOne 6 := ⟨mTbl_w kt7 (List.mem_of_getElem? (i := 110) rfl) rfl, mTbl_w kt1 (List.mem_of_getElem? (i := 11) rfl) rfl, by decide +kernel, by decide +kernel, by decide +kernel, by decide +kernel⟩
theorem nX12_cutsOne : Cond.instanceMethod yX12_cutsOne ∈ mTbl := mTbl_w kt7 (List.mem_of_getElem? (i := 109) rfl) rfl
theorem vX12_cutsOne : Cond.selects yX12_cutsOne.cls yX12_cutsOne yX12_cutsOne ∈ mTbl := mTbl_s kp6 (List.mem_of_getElem? (i := 5) rfl)
def mX12_cutsRegion : mM := (yX12_cutsRegion, cX12_cutsRegion, 9, none)
theorem tX12_cutsRegion : mMt mX12_cutsRegion 7 := ⟨mTbl_w kt7 (List.mem_of_getElem? (i := 106) rfl) rfl, mTbl_w kt1 (List.mem_of_getElem? (i := 11) rfl) rfl, by decide +kernel, by decide +kernel, by decide +kernel, by decide +kernel⟩
theorem nX12_cutsRegion : Cond.instanceMethod yX12_cutsRegion ∈ mTbl := mTbl_w kt7 (List.mem_of_getElem? (i := 105) rfl) rfl
theorem vX12_cutsRegion : Cond.selects yX12_cutsRegion.cls yX12_cutsRegion yX12_cutsRegion ∈ mTbl := mTbl_s kp6 (List.mem_of_getElem? (i := 4) rfl)
def mX12_isAsMarked : mM := (yX12_isAsMarked, cX12_isAsMarked, 4, some .boolean)
theorem tX12_isAsMarked : mMt mX12_isAsMarked 2 := ⟨mTbl_w kt7 (List.mem_of_getElem? (i := 126) rfl) rfl, mTbl_w kt1 (List.mem_of_getElem? (i := 11) rfl) rfl, by decide +kernel, by decide +kernel, by decide +kernel, by decide +kernel⟩
theorem nX12_isAsMarked : Cond.instanceMethod yX12_isAsMarked ∈ mTbl := mTbl_w kt7 (List.mem_of_getElem? (i := 125) rfl) rfl
theorem vX12_isAsMarked : Cond.selects yX12_isAsMarked.cls yX12_isAsMarked yX12_isAsMarked ∈ mTbl := mTbl_s kp6 (List.mem_of_getElem? (i := 9) rfl)
def mX12_triesOn : mM := (yX12_triesOn, cX12_triesOn, 7, some .int)
theorem tX12_triesOn : mMt mX12_triesOn 6 := ⟨mTbl_w kt7 (List.mem_of_getElem? (i := 90) rfl) rfl, mTbl_w kt1 (List.mem_of_getElem? (i := 11) rfl) rfl, by decide +kernel, by decide +kernel, by decide +kernel, by decide +kernel⟩
theorem nX12_triesOn : Cond.instanceMethod yX12_triesOn ∈ mTbl := mTbl_w kt7 (List.mem_of_getElem? (i := 89) rfl) rfl
theorem vX12_triesOn : Cond.selects yX12_triesOn.cls yX12_triesOn yX12_triesOn ∈ mTbl := mTbl_s kp6 (List.mem_of_getElem? (i := 0) rfl)
def mX12_isAnItem : mM := (yX12_isAnItem, cX12_isAnItem, 2, some .boolean)
theorem tX12_isAnItem : mMt mX12_isAnItem 1 := ⟨mTbl_w kt7 (List.mem_of_getElem? (i := 86) rfl) rfl, mTbl_w kt1 (List.mem_of_getElem? (i := 11) rfl) rfl, by decide +kernel, by decide +kernel, by decide +kernel, by decide +kernel⟩
theorem nX12_isAnItem : Cond.instanceMethod yX12_isAnItem ∈ mTbl := mTbl_w kt7 (List.mem_of_getElem? (i := 85) rfl) rfl
theorem vX12_isAnItem : Cond.selects yX12_isAnItem.cls yX12_isAnItem yX12_isAnItem ∈ mTbl := mTbl_s kp5 (List.mem_of_getElem? (i := 15) rfl)
def mX12_tries : mM := (yX12_tries, cX12_tries, 7, some .int)
theorem tX12_tries : mMt mX12_tries 6 := ⟨mTbl_w kt7 (List.mem_of_getElem? (i := 82) rfl) rfl, mTbl_w kt1 (List.mem_of_getElem? (i := 11) rfl) rfl, by decide +kernel, by decide +kernel, by decide +kernel, by decide +kernel⟩
theorem nX12_tries : Cond.instanceMethod yX12_tries ∈ mTbl := mTbl_w kt7 (List.mem_of_getElem? (i := 80) rfl) rfl
theorem vX12_tries : Cond.selects yX12_tries.cls yX12_tries yX12_tries ∈ mTbl := mTbl_w kt7 (List.mem_of_getElem? (i := 81) rfl) rfl
def mX12_costOf : mM := (yX12_costOf, cX12_costOf, 1, some .int)
theorem tX12_costOf : mMt mX12_costOf 1 := ⟨mTbl_w kt7 (List.mem_of_getElem? (i := 166) rfl) rfl, mTbl_w kt1 (List.mem_of_getElem? (i := 11) rfl) rfl, by decide +kernel, by decide +kernel, by decide +kernel, by decide +kernel⟩
theorem sX12_costOf : Cond.static yX12_costOf ∈ mTbl := mTbl_w kt7 (List.mem_of_getElem? (i := 165) rfl) rfl
def mX12_keyOf : mM := (yX12_keyOf, cX12_keyOf, 6, some .long)
theorem tX12_keyOf : mMt mX12_keyOf 4 := ⟨mTbl_w kt7 (List.mem_of_getElem? (i := 163) rfl) rfl, mTbl_w kt1 (List.mem_of_getElem? (i := 11) rfl) rfl, by decide +kernel, by decide +kernel, by decide +kernel, by decide +kernel⟩
theorem sX12_keyOf : Cond.static yX12_keyOf ∈ mTbl := mTbl_w kt7 (List.mem_of_getElem? (i := 162) rfl) rfl
def mX12_itemOf : mM := (yX12_itemOf, cX12_itemOf, 3, some .int)
theorem tX12_itemOf : mMt mX12_itemOf 2 := ⟨mTbl_w kt7 (List.mem_of_getElem? (i := 178) rfl) rfl, mTbl_w kt1 (List.mem_of_getElem? (i := 11) rfl) rfl, by decide +kernel, by decide +kernel, by decide +kernel, by decide +kernel⟩
theorem sX12_itemOf : Cond.static yX12_itemOf ∈ mTbl := mTbl_w kt7 (List.mem_of_getElem? (i := 177) rfl) rfl
def mX12_costOfKey : mM := (yX12_costOfKey, cX12_costOfKey, 2, some .int)
theorem tX12_costOfKey : mMt mX12_costOfKey 1 := ⟨mTbl_w kt7 (List.mem_of_getElem? (i := 205) rfl) rfl, mTbl_w kt1 (List.mem_of_getElem? (i := 11) rfl) rfl, by decide +kernel, by decide +kernel, by decide +kernel, by decide +kernel⟩
theorem sX12_costOfKey : Cond.static yX12_costOfKey ∈ mTbl := mTbl_w kt7 (List.mem_of_getElem? (i := 204) rfl) rfl
def mX12_comesRule : mM := (yX12_comesRule, cX12_comesRule, 9, none)
theorem tX12_comesRule : mMt mX12_comesRule 5 := ⟨mTbl_w kt7 (List.mem_of_getElem? (i := 160) rfl) rfl, mTbl_w kt1 (List.mem_of_getElem? (i := 11) rfl) rfl, by decide +kernel, by decide +kernel, by decide +kernel, by decide +kernel⟩
theorem nX12_comesRule : Cond.instanceMethod yX12_comesRule ∈ mTbl := mTbl_w kt7 (List.mem_of_getElem? (i := 159) rfl) rfl
theorem vX12_comesRule : Cond.selects yX12_comesRule.cls yX12_comesRule yX12_comesRule ∈ mTbl := mTbl_s kp6 (List.mem_of_getElem? (i := 15) rfl)
def mX12_asItem : mM := (yX12_asItem, cX12_asItem, 4, some .int)
theorem tX12_asItem : mMt mX12_asItem 3 := ⟨mTbl_w kt7 (List.mem_of_getElem? (i := 172) rfl) rfl, mTbl_w kt1 (List.mem_of_getElem? (i := 11) rfl) rfl, by decide +kernel, by decide +kernel, by decide +kernel, by decide +kernel⟩
theorem nX12_asItem : Cond.instanceMethod yX12_asItem ∈ mTbl := mTbl_w kt7 (List.mem_of_getElem? (i := 171) rfl) rfl
theorem vX12_asItem : Cond.selects yX12_asItem.cls yX12_asItem yX12_asItem ∈ mTbl := mTbl_s kp7 (List.mem_of_getElem? (i := 0) rfl)
def mX12_comesStops : mM := (yX12_comesStops, cX12_comesStops, 8, none)
theorem tX12_comesStops : mMt mX12_comesStops 5 := ⟨mTbl_w kt7 (List.mem_of_getElem? (i := 156) rfl) rfl, mTbl_w kt1 (List.mem_of_getElem? (i := 11) rfl) rfl, by decide +kernel, by decide +kernel, by decide +kernel, by decide +kernel⟩
theorem nX12_comesStops : Cond.instanceMethod yX12_comesStops ∈ mTbl := mTbl_w kt7 (List.mem_of_getElem? (i := 155) rfl) rfl
theorem vX12_comesStops : Cond.selects yX12_comesStops.cls yX12_comesStops yX12_comesStops ∈ mTbl := mTbl_s kp6 (List.mem_of_getElem? (i := 14) rfl)
def mX12_comesFars : mM := (yX12_comesFars, cX12_comesFars, 8, none)
theorem tX12_comesFars : mMt mX12_comesFars 5 := ⟨mTbl_w kt7 (List.mem_of_getElem? (i := 152) rfl) rfl, mTbl_w kt1 (List.mem_of_getElem? (i := 11) rfl) rfl, by decide +kernel, by decide +kernel, by decide +kernel, by decide +kernel⟩
theorem nX12_comesFars : Cond.instanceMethod yX12_comesFars ∈ mTbl := mTbl_w kt7 (List.mem_of_getElem? (i := 151) rfl) rfl
theorem vX12_comesFars : Cond.selects yX12_comesFars.cls yX12_comesFars yX12_comesFars ∈ mTbl := mTbl_s kp6 (List.mem_of_getElem? (i := 13) rfl)
def mX12_comesNears : mM := (yX12_comesNears, cX12_comesNears, 6, none)
theorem tX12_comesNears : mMt mX12_comesNears 2 := ⟨mTbl_w kt7 (List.mem_of_getElem? (i := 148) rfl) rfl, mTbl_w kt1 (List.mem_of_getElem? (i := 11) rfl) rfl, by decide +kernel, by decide +kernel, by decide +kernel, by decide +kernel⟩
theorem nX12_comesNears : Cond.instanceMethod yX12_comesNears ∈ mTbl := mTbl_w kt7 (List.mem_of_getElem? (i := 147) rfl) rfl
theorem vX12_comesNears : Cond.selects yX12_comesNears.cls yX12_comesNears yX12_comesNears ∈ mTbl := mTbl_s kp6 (List.mem_of_getElem? (i := 12) rfl)
def mX12_laysRules : mM := (yX12_laysRules, cX12_laysRules, 6, none)
theorem tX12_laysRules : mMt mX12_laysRules 2 := ⟨mTbl_w kt7 (List.mem_of_getElem? (i := 141) rfl) rfl, mTbl_w kt1 (List.mem_of_getElem? (i := 11) rfl) rfl, by decide +kernel, by decide +kernel, by decide +kernel, by decide +kernel⟩
theorem nX12_laysRules : Cond.instanceMethod yX12_laysRules ∈ mTbl := mTbl_w kt7 (List.mem_of_getElem? (i := 140) rfl) rfl
theorem vX12_laysRules : Cond.selects yX12_laysRules.cls yX12_laysRules yX12_laysRules ∈ mTbl := mTbl_s kp6 (List.mem_of_getElem? (i := 11) rfl)
def mX12_firstOf : mM := (yX12_firstOf, cX12_firstOf, 2, some .int)
theorem tX12_firstOf : mMt mX12_firstOf 1 := ⟨mTbl_w kt7 (List.mem_of_getElem? (i := 175) rfl) rfl, mTbl_w kt1 (List.mem_of_getElem? (i := 11) rfl) rfl, by decide +kernel, by decide +kernel, by decide +kernel, by decide +kernel⟩
theorem sX12_firstOf : Cond.static yX12_firstOf ∈ mTbl := mTbl_w kt7 (List.mem_of_getElem? (i := 174) rfl) rfl
def mX12_could : mM := (yX12_could, cX12_could, 5, some .int)
theorem tX12_could : mMt mX12_could 2 := ⟨mTbl_w kt7 (List.mem_of_getElem? (i := 130) rfl) rfl, mTbl_w kt1 (List.mem_of_getElem? (i := 11) rfl) rfl, by decide +kernel, by decide +kernel, by decide +kernel, by decide +kernel⟩
theorem nX12_could : Cond.instanceMethod yX12_could ∈ mTbl := mTbl_w kt7 (List.mem_of_getElem? (i := 128) rfl) rfl
theorem vX12_could : Cond.selects yX12_could.cls yX12_could yX12_could ∈ mTbl := mTbl_w kt7 (List.mem_of_getElem? (i := 129) rfl) rfl
def mX12_contradict : mM := (yX12_contradict, cX12_contradict, 5, some .int)
theorem tX12_contradict : mMt mX12_contradict 3 := ⟨mTbl_w kt7 (List.mem_of_getElem? (i := 182) rfl) rfl, mTbl_w kt1 (List.mem_of_getElem? (i := 11) rfl) rfl, by decide +kernel, by decide +kernel, by decide +kernel, by decide +kernel⟩
theorem nX12_contradict : Cond.instanceMethod yX12_contradict ∈ mTbl := mTbl_w kt7 (List.mem_of_getElem? (i := 180) rfl) rfl
theorem vX12_contradict : Cond.selects yX12_contradict.cls yX12_contradict yX12_contradict ∈ mTbl := mTbl_w kt7 (List.mem_of_getElem? (i := 181) rfl) rfl
def mX12_laysBestRules : mM := (yX12_laysBestRules, cX12_laysBestRules, 4, none)
theorem tX12_laysBestRules : mMt mX12_laysBestRules 1 := ⟨mTbl_w kt7 (List.mem_of_getElem? (i := 198) rfl) rfl, mTbl_w kt1 (List.mem_of_getElem? (i := 11) rfl) rfl, by decide +kernel, by decide +kernel, by decide +kernel, by decide +kernel⟩
theorem nX12_laysBestRules : Cond.instanceMethod yX12_laysBestRules ∈ mTbl := mTbl_w kt7 (List.mem_of_getElem? (i := 197) rfl) rfl
theorem vX12_laysBestRules : Cond.selects yX12_laysBestRules.cls yX12_laysBestRules yX12_laysBestRules ∈ mTbl := mTbl_s kp7 (List.mem_of_getElem? (i := 3) rfl)
def mX12_isLess : mM := (yX12_isLess, cX12_isLess, 7, some .boolean)
theorem tX12_isLess : mMt mX12_isLess 3 := ⟨mTbl_w kt7 (List.mem_of_getElem? (i := 202) rfl) rfl, mTbl_w kt1 (List.mem_of_getElem? (i := 11) rfl) rfl, by decide +kernel, by decide +kernel, by decide +kernel, by decide +kernel⟩
theorem nX12_isLess : Cond.instanceMethod yX12_isLess ∈ mTbl := mTbl_w kt7 (List.mem_of_getElem? (i := 201) rfl) rfl
theorem vX12_isLess : Cond.selects yX12_isLess.cls yX12_isLess yX12_isLess ∈ mTbl := mTbl_s kp7 (List.mem_of_getElem? (i := 4) rfl)
def mX12_laysCover : mM := (yX12_laysCover, cX12_laysCover, 6, none)
theorem tX12_laysCover : mMt mX12_laysCover 1 := ⟨mTbl_w kt7 (List.mem_of_getElem? (i := 194) rfl) rfl, mTbl_w kt1 (List.mem_of_getElem? (i := 11) rfl) rfl, by decide +kernel, by decide +kernel, by decide +kernel, by decide +kernel⟩
theorem nX12_laysCover : Cond.instanceMethod yX12_laysCover ∈ mTbl := mTbl_w kt7 (List.mem_of_getElem? (i := 193) rfl) rfl
theorem vX12_laysCover : Cond.selects yX12_laysCover.cls yX12_laysCover yX12_laysCover ∈ mTbl := mTbl_s kp7 (List.mem_of_getElem? (i := 2) rfl)
def mX12_laysCoverOf : mM := (yX12_laysCoverOf, cX12_laysCoverOf, 3, none)
theorem tX12_laysCoverOf : mMt mX12_laysCoverOf 1 := ⟨mTbl_w kt7 (List.mem_of_getElem? (i := 190) rfl) rfl, mTbl_w kt1 (List.mem_of_getElem? (i := 11) rfl) rfl, by decide +kernel, by decide +kernel, by decide +kernel, by decide +kernel⟩
theorem nX12_laysCoverOf : Cond.instanceMethod yX12_laysCoverOf ∈ mTbl := mTbl_w kt7 (List.mem_of_getElem? (i := 189) rfl) rfl
theorem vX12_laysCoverOf : Cond.selects yX12_laysCoverOf.cls yX12_laysCoverOf yX12_laysCoverOf ∈ mTbl := mTbl_s kp7 (List.mem_of_getElem? (i := 1) rfl)
def mX12_coverCost : mM := (yX12_coverCost, cX12_coverCost, 3, some .int)
theorem tX12_coverCost : mMt mX12_coverCost 0 := ⟨mTbl_w kt7 (List.mem_of_getElem? (i := 209) rfl) rfl, mTbl_w kt1 (List.mem_of_getElem? (i := 11) rfl) rfl, by decide +kernel, by decide +kernel, by decide +kernel, by decide +kernel⟩
theorem nX12_coverCost : Cond.instanceMethod yX12_coverCost ∈ mTbl := mTbl_w kt7 (List.mem_of_getElem? (i := 208) rfl) rfl
theorem vX12_coverCost : Cond.selects yX12_coverCost.cls yX12_coverCost yX12_coverCost ∈ mTbl := mTbl_s kp7 (List.mem_of_getElem? (i := 5) rfl)
def mX12_cover : mM := (yX12_cover, cX12_cover, 3, some .int)
theorem tX12_cover : mMt mX12_cover 2 := ⟨mTbl_w kt7 (List.mem_of_getElem? (i := 186) rfl) rfl, mTbl_w kt1 (List.mem_of_getElem? (i := 11) rfl) rfl, by decide +kernel, by decide +kernel, by decide +kernel, by decide +kernel⟩
theorem nX12_cover : Cond.instanceMethod yX12_cover ∈ mTbl := mTbl_w kt7 (List.mem_of_getElem? (i := 184) rfl) rfl
theorem vX12_cover : Cond.selects yX12_cover.cls yX12_cover yX12_cover ∈ mTbl := mTbl_w kt7 (List.mem_of_getElem? (i := 185) rfl) rfl
def mX12_covers : mM := (yX12_covers, cX12_covers, 5, some .int)
theorem tX12_covers : mMt mX12_covers 3 := ⟨mTbl_w kt7 (List.mem_of_getElem? (i := 213) rfl) rfl, mTbl_w kt1 (List.mem_of_getElem? (i := 11) rfl) rfl, by decide +kernel, by decide +kernel, by decide +kernel, by decide +kernel⟩
theorem nX12_covers : Cond.instanceMethod yX12_covers ∈ mTbl := mTbl_w kt7 (List.mem_of_getElem? (i := 211) rfl) rfl
theorem vX12_covers : Cond.selects yX12_covers.cls yX12_covers yX12_covers ∈ mTbl := mTbl_w kt7 (List.mem_of_getElem? (i := 212) rfl) rfl
def mX12_isRightOn : mM := (yX12_isRightOn, cX12_isRightOn, 3, some .boolean)
theorem tX12_isRightOn : mMt mX12_isRightOn 1 := ⟨mTbl_w kt7 (List.mem_of_getElem? (i := 224) rfl) rfl, mTbl_w kt1 (List.mem_of_getElem? (i := 11) rfl) rfl, by decide +kernel, by decide +kernel, by decide +kernel, by decide +kernel⟩
theorem nX12_isRightOn : Cond.instanceMethod yX12_isRightOn ∈ mTbl := mTbl_w kt7 (List.mem_of_getElem? (i := 223) rfl) rfl
theorem vX12_isRightOn : Cond.selects yX12_isRightOn.cls yX12_isRightOn yX12_isRightOn ∈ mTbl := mTbl_s kp7 (List.mem_of_getElem? (i := 6) rfl)
def mX12_enough : mM := (yX12_enough, cX12_enough, 7, some .int)
theorem tX12_enough : mMt mX12_enough 1 := ⟨mTbl_w kt7 (List.mem_of_getElem? (i := 217) rfl) rfl, mTbl_w kt1 (List.mem_of_getElem? (i := 11) rfl) rfl, by decide +kernel, by decide +kernel, by decide +kernel, by decide +kernel⟩
theorem nX12_enough : Cond.instanceMethod yX12_enough ∈ mTbl := mTbl_w kt7 (List.mem_of_getElem? (i := 215) rfl) rfl
theorem vX12_enough : Cond.selects yX12_enough.cls yX12_enough yX12_enough ∈ mTbl := mTbl_w kt7 (List.mem_of_getElem? (i := 216) rfl) rfl
def mX12_learntAt : mM := (yX12_learntAt, cX12_learntAt, 1, some .int)
theorem tX12_learntAt : mMt mX12_learntAt 1 := ⟨mTbl_w kt8 (List.mem_of_getElem? (i := 10) rfl) rfl, mTbl_w kt1 (List.mem_of_getElem? (i := 11) rfl) rfl, by decide +kernel, by decide +kernel, by decide +kernel, by decide +kernel⟩
theorem sX12_learntAt : Cond.static yX12_learntAt ∈ mTbl := mTbl_w kt8 (List.mem_of_getElem? (i := 9) rfl) rfl
def mX12_isLearnt : mM := (yX12_isLearnt, cX12_isLearnt, 2, some .boolean)
theorem tX12_isLearnt : mMt mX12_isLearnt 1 := ⟨mTbl_w kt8 (List.mem_of_getElem? (i := 22) rfl) rfl, mTbl_w kt1 (List.mem_of_getElem? (i := 11) rfl) rfl, by decide +kernel, by decide +kernel, by decide +kernel, by decide +kernel⟩
theorem nX12_isLearnt : Cond.instanceMethod yX12_isLearnt ∈ mTbl := mTbl_w kt8 (List.mem_of_getElem? (i := 21) rfl) rfl
theorem vX12_isLearnt : Cond.selects yX12_isLearnt.cls yX12_isLearnt yX12_isLearnt ∈ mTbl := mTbl_s kp7 (List.mem_of_getElem? (i := 11) rfl)
def mX12_learntRules : mM := (yX12_learntRules, cX12_learntRules, 2, some .int)
theorem tX12_learntRules : mMt mX12_learntRules 1 := ⟨mTbl_w kt8 (List.mem_of_getElem? (i := 18) rfl) rfl, mTbl_w kt1 (List.mem_of_getElem? (i := 11) rfl) rfl, by decide +kernel, by decide +kernel, by decide +kernel, by decide +kernel⟩
theorem nX12_learntRules : Cond.instanceMethod yX12_learntRules ∈ mTbl := mTbl_w kt8 (List.mem_of_getElem? (i := 17) rfl) rfl
theorem vX12_learntRules : Cond.selects yX12_learntRules.cls yX12_learntRules yX12_learntRules ∈ mTbl := mTbl_s kp7 (List.mem_of_getElem? (i := 10) rfl)
def mX12_learntItem : mM := (yX12_learntItem, cX12_learntItem, 4, some .int)
theorem tX12_learntItem : mMt mX12_learntItem 3 := ⟨mTbl_w kt8 (List.mem_of_getElem? (i := 34) rfl) rfl, mTbl_w kt1 (List.mem_of_getElem? (i := 11) rfl) rfl, by decide +kernel, by decide +kernel, by decide +kernel, by decide +kernel⟩
theorem nX12_learntItem : Cond.instanceMethod yX12_learntItem ∈ mTbl := mTbl_w kt8 (List.mem_of_getElem? (i := 33) rfl) rfl
theorem vX12_learntItem : Cond.selects yX12_learntItem.cls yX12_learntItem yX12_learntItem ∈ mTbl := mTbl_s kp7 (List.mem_of_getElem? (i := 13) rfl)
def mX12_shapeOf : mM := (yX12_shapeOf, cX12_shapeOf, 3, some .int)
theorem tX12_shapeOf : mMt mX12_shapeOf 2 := ⟨mTbl_w kt8 (List.mem_of_getElem? (i := 26) rfl) rfl, mTbl_w kt1 (List.mem_of_getElem? (i := 11) rfl) rfl, by decide +kernel, by decide +kernel, by decide +kernel, by decide +kernel⟩
theorem nX12_shapeOf : Cond.instanceMethod yX12_shapeOf ∈ mTbl := mTbl_w kt8 (List.mem_of_getElem? (i := 25) rfl) rfl
theorem vX12_shapeOf : Cond.selects yX12_shapeOf.cls yX12_shapeOf yX12_shapeOf ∈ mTbl := mTbl_s kp7 (List.mem_of_getElem? (i := 12) rfl)
def mX12_laysShape : mM := (yX12_laysShape, cX12_laysShape, 5, none)
theorem tX12_laysShape : mMt mX12_laysShape 1 := ⟨mTbl_w kt7 (List.mem_of_getElem? (i := 236) rfl) rfl, mTbl_w kt1 (List.mem_of_getElem? (i := 11) rfl) rfl, by decide +kernel, by decide +kernel, by decide +kernel, by decide +kernel⟩
theorem nX12_laysShape : Cond.instanceMethod yX12_laysShape ∈ mTbl := mTbl_w kt7 (List.mem_of_getElem? (i := 235) rfl) rfl
theorem vX12_laysShape : Cond.selects yX12_laysShape.cls yX12_laysShape yX12_laysShape ∈ mTbl := mTbl_s kp7 (List.mem_of_getElem? (i := 8) rfl)
def mX12_kindAll : mM := (yX12_kindAll, cX12_kindAll, 7, some .int)
theorem tX12_kindAll : mMt mX12_kindAll 2 := ⟨mTbl_w kt8 (List.mem_of_getElem? (i := 7) rfl) rfl, mTbl_w kt1 (List.mem_of_getElem? (i := 11) rfl) rfl, by decide +kernel, by decide +kernel, by decide +kernel, by decide +kernel⟩
theorem nX12_kindAll : Cond.instanceMethod yX12_kindAll ∈ mTbl := mTbl_w kt8 (List.mem_of_getElem? (i := 6) rfl) rfl
theorem vX12_kindAll : Cond.selects yX12_kindAll.cls yX12_kindAll yX12_kindAll ∈ mTbl := mTbl_s kp7 (List.mem_of_getElem? (i := 9) rfl)
def mX12_learn : mM := (yX12_learn, cX12_learn, 2, some .int)
theorem tX12_learn : mMt mX12_learn 1 := ⟨mTbl_w kt7 (List.mem_of_getElem? (i := 228) rfl) rfl, mTbl_w kt1 (List.mem_of_getElem? (i := 11) rfl) rfl, by decide +kernel, by decide +kernel, by decide +kernel, by decide +kernel⟩
theorem nX12_learn : Cond.instanceMethod yX12_learn ∈ mTbl := mTbl_w kt7 (List.mem_of_getElem? (i := 226) rfl) rfl
theorem vX12_learn : Cond.selects yX12_learn.cls yX12_learn yX12_learn ∈ mTbl := mTbl_w kt7 (List.mem_of_getElem? (i := 227) rfl) rfl
def mX12_learns : mM := (yX12_learns, cX12_learns, 5, some .int)
theorem tX12_learns : mMt mX12_learns 1 := ⟨mTbl_w kt7 (List.mem_of_getElem? (i := 232) rfl) rfl, mTbl_w kt1 (List.mem_of_getElem? (i := 11) rfl) rfl, by decide +kernel, by decide +kernel, by decide +kernel, by decide +kernel⟩
theorem nX12_learns : Cond.instanceMethod yX12_learns ∈ mTbl := mTbl_w kt7 (List.mem_of_getElem? (i := 231) rfl) rfl
theorem vX12_learns : Cond.selects yX12_learns.cls yX12_learns yX12_learns ∈ mTbl := mTbl_s kp7 (List.mem_of_getElem? (i := 7) rfl)
def mX12_field : mM := (yX12_field, cX12_field, 3, some .int)
theorem tX12_field : mMt mX12_field 2 := ⟨mTbl_w kt8 (List.mem_of_getElem? (i := 14) rfl) rfl, mTbl_w kt1 (List.mem_of_getElem? (i := 11) rfl) rfl, by decide +kernel, by decide +kernel, by decide +kernel, by decide +kernel⟩
theorem nX12_field : Cond.instanceMethod yX12_field ∈ mTbl := mTbl_w kt8 (List.mem_of_getElem? (i := 12) rfl) rfl
theorem vX12_field : Cond.selects yX12_field.cls yX12_field yX12_field ∈ mTbl := mTbl_w kt8 (List.mem_of_getElem? (i := 13) rfl) rfl
def mX12_rule : mM := (yX12_rule, cX12_rule, 6, some .int)
theorem tX12_rule : mMt mX12_rule 3 := ⟨mTbl_w kt8 (List.mem_of_getElem? (i := 30) rfl) rfl, mTbl_w kt1 (List.mem_of_getElem? (i := 11) rfl) rfl, by decide +kernel, by decide +kernel, by decide +kernel, by decide +kernel⟩
theorem nX12_rule : Cond.instanceMethod yX12_rule ∈ mTbl := mTbl_w kt8 (List.mem_of_getElem? (i := 28) rfl) rfl
theorem vX12_rule : Cond.selects yX12_rule.cls yX12_rule yX12_rule ∈ mTbl := mTbl_w kt8 (List.mem_of_getElem? (i := 29) rfl) rfl
def mX12_stale : mM := (yX12_stale, cX12_stale, 4, some .int)
theorem tX12_stale : mMt mX12_stale 1 := ⟨mTbl_w kt8 (List.mem_of_getElem? (i := 38) rfl) rfl, mTbl_w kt1 (List.mem_of_getElem? (i := 11) rfl) rfl, by decide +kernel, by decide +kernel, by decide +kernel, by decide +kernel⟩
theorem nX12_stale : Cond.instanceMethod yX12_stale ∈ mTbl := mTbl_w kt8 (List.mem_of_getElem? (i := 36) rfl) rfl
theorem vX12_stale : Cond.selects yX12_stale.cls yX12_stale yX12_stale ∈ mTbl := mTbl_w kt8 (List.mem_of_getElem? (i := 37) rfl) rfl
def mX12_cutsBy : mM := (yX12_cutsBy, cX12_cutsBy, 5, none)
theorem tX12_cutsBy : mMt mX12_cutsBy 3 := ⟨mTbl_w kt8 (List.mem_of_getElem? (i := 58) rfl) rfl, mTbl_w kt1 (List.mem_of_getElem? (i := 11) rfl) rfl, by decide +kernel, by decide +kernel, by decide +kernel, by decide +kernel⟩
theorem nX12_cutsBy : Cond.instanceMethod yX12_cutsBy ∈ mTbl := mTbl_w kt8 (List.mem_of_getElem? (i := 57) rfl) rfl
theorem vX12_cutsBy : Cond.selects yX12_cutsBy.cls yX12_cutsBy yX12_cutsBy ∈ mTbl := mTbl_s kp8 (List.mem_of_getElem? (i := 1) rfl)
def mX12_cutsRow : mM := (yX12_cutsRow, cX12_cutsRow, 6, none)
theorem tX12_cutsRow : mMt mX12_cutsRow 1 := ⟨mTbl_w kt8 (List.mem_of_getElem? (i := 54) rfl) rfl, mTbl_w kt1 (List.mem_of_getElem? (i := 11) rfl) rfl, by decide +kernel, by decide +kernel, by decide +kernel, by decide +kernel⟩
theorem nX12_cutsRow : Cond.instanceMethod yX12_cutsRow ∈ mTbl := mTbl_w kt8 (List.mem_of_getElem? (i := 53) rfl) rfl
theorem vX12_cutsRow : Cond.selects yX12_cutsRow.cls yX12_cutsRow yX12_cutsRow ∈ mTbl := mTbl_s kp8 (List.mem_of_getElem? (i := 0) rfl)
def mX12_cutsPage : mM := (yX12_cutsPage, cX12_cutsPage, 3, none)
theorem tX12_cutsPage : mMt mX12_cutsPage 2 := ⟨mTbl_w kt8 (List.mem_of_getElem? (i := 50) rfl) rfl, mTbl_w kt1 (List.mem_of_getElem? (i := 11) rfl) rfl, by decide +kernel, by decide +kernel, by decide +kernel, by decide +kernel⟩
theorem nX12_cutsPage : Cond.instanceMethod yX12_cutsPage ∈ mTbl := mTbl_w kt8 (List.mem_of_getElem? (i := 49) rfl) rfl
theorem vX12_cutsPage : Cond.selects yX12_cutsPage.cls yX12_cutsPage yX12_cutsPage ∈ mTbl := mTbl_s kp7 (List.mem_of_getElem? (i := 15) rfl)
def mX12_canCut : mM := (yX12_canCut, cX12_canCut, 3, some .boolean)
theorem tX12_canCut : mMt mX12_canCut 2 := ⟨mTbl_w kt8 (List.mem_of_getElem? (i := 46) rfl) rfl, mTbl_w kt1 (List.mem_of_getElem? (i := 11) rfl) rfl, by decide +kernel, by decide +kernel, by decide +kernel, by decide +kernel⟩
theorem nX12_canCut : Cond.instanceMethod yX12_canCut ∈ mTbl := mTbl_w kt8 (List.mem_of_getElem? (i := 45) rfl) rfl
theorem vX12_canCut : Cond.selects yX12_canCut.cls yX12_canCut yX12_canCut ∈ mTbl := mTbl_s kp7 (List.mem_of_getElem? (i := 14) rfl)
def mX12_cut : mM := (yX12_cut, cX12_cut, 5, some .int)
theorem tX12_cut : mMt mX12_cut 4 := ⟨mTbl_w kt8 (List.mem_of_getElem? (i := 42) rfl) rfl, mTbl_w kt1 (List.mem_of_getElem? (i := 11) rfl) rfl, by decide +kernel, by decide +kernel, by decide +kernel, by decide +kernel⟩
theorem nX12_cut : Cond.instanceMethod yX12_cut ∈ mTbl := mTbl_w kt8 (List.mem_of_getElem? (i := 40) rfl) rfl
theorem vX12_cut : Cond.selects yX12_cut.cls yX12_cut yX12_cut ∈ mTbl := mTbl_w kt8 (List.mem_of_getElem? (i := 41) rfl) rfl
def mX12_by : mM := (yX12_by, cX12_by, 3, some .int)
theorem tX12_by : mMt mX12_by 2 := ⟨mTbl_w kt8 (List.mem_of_getElem? (i := 62) rfl) rfl, mTbl_w kt1 (List.mem_of_getElem? (i := 11) rfl) rfl, by decide +kernel, by decide +kernel, by decide +kernel, by decide +kernel⟩
theorem nX12_by : Cond.instanceMethod yX12_by ∈ mTbl := mTbl_w kt8 (List.mem_of_getElem? (i := 60) rfl) rfl
theorem vX12_by : Cond.selects yX12_by.cls yX12_by yX12_by ∈ mTbl := mTbl_w kt8 (List.mem_of_getElem? (i := 61) rfl) rfl
def mX12_says : mM := (yX12_says, cX12_says, 2, none)
theorem tX12_says : mMt mX12_says 1 := ⟨mTbl_w kt8 (List.mem_of_getElem? (i := 74) rfl) rfl, mTbl_w kt1 (List.mem_of_getElem? (i := 11) rfl) rfl, by decide +kernel, by decide +kernel, by decide +kernel, by decide +kernel⟩
theorem nX12_says : Cond.instanceMethod yX12_says ∈ mTbl := mTbl_w kt8 (List.mem_of_getElem? (i := 73) rfl) rfl
theorem vX12_says : Cond.selects yX12_says.cls yX12_says yX12_says ∈ mTbl := mTbl_s kp8 (List.mem_of_getElem? (i := 3) rfl)
def mX12_laysLetters : mM := (yX12_laysLetters, cX12_laysLetters, 6, none)
theorem tX12_laysLetters : mMt mX12_laysLetters 0 := ⟨mTbl_w kt8 (List.mem_of_getElem? (i := 70) rfl) rfl, mTbl_w kt1 (List.mem_of_getElem? (i := 11) rfl) rfl, by decide +kernel, by decide +kernel, by decide +kernel, by decide +kernel⟩
theorem nX12_laysLetters : Cond.instanceMethod yX12_laysLetters ∈ mTbl := mTbl_w kt8 (List.mem_of_getElem? (i := 69) rfl) rfl
theorem vX12_laysLetters : Cond.selects yX12_laysLetters.cls yX12_laysLetters yX12_laysLetters ∈ mTbl := mTbl_s kp8 (List.mem_of_getElem? (i := 2) rfl)
def mX12_letter : mM := (yX12_letter, cX12_letter, 4, some .int)
theorem tX12_letter : mMt mX12_letter 3 := ⟨mTbl_w kt8 (List.mem_of_getElem? (i := 66) rfl) rfl, mTbl_w kt1 (List.mem_of_getElem? (i := 11) rfl) rfl, by decide +kernel, by decide +kernel, by decide +kernel, by decide +kernel⟩
theorem nX12_letter : Cond.instanceMethod yX12_letter ∈ mTbl := mTbl_w kt8 (List.mem_of_getElem? (i := 64) rfl) rfl
theorem vX12_letter : Cond.selects yX12_letter.cls yX12_letter yX12_letter ∈ mTbl := mTbl_w kt8 (List.mem_of_getElem? (i := 65) rfl) rfl
def mX12_driftOf : mM := (yX12_driftOf, cX12_driftOf, 3, some .int)
theorem tX12_driftOf : mMt mX12_driftOf 2 := ⟨mTbl_w kt8 (List.mem_of_getElem? (i := 90) rfl) rfl, mTbl_w kt1 (List.mem_of_getElem? (i := 11) rfl) rfl, by decide +kernel, by decide +kernel, by decide +kernel, by decide +kernel⟩
theorem nX12_driftOf : Cond.instanceMethod yX12_driftOf ∈ mTbl := mTbl_w kt8 (List.mem_of_getElem? (i := 89) rfl) rfl
theorem vX12_driftOf : Cond.selects yX12_driftOf.cls yX12_driftOf yX12_driftOf ∈ mTbl := mTbl_s kp8 (List.mem_of_getElem? (i := 4) rfl)
def mX12_driftOfCuts : mM := (yX12_driftOfCuts, cX12_driftOfCuts, 6, some .int)
theorem tX12_driftOfCuts : mMt mX12_driftOfCuts 1 := ⟨mTbl_w kt8 (List.mem_of_getElem? (i := 94) rfl) rfl, mTbl_w kt1 (List.mem_of_getElem? (i := 11) rfl) rfl, by decide +kernel, by decide +kernel, by decide +kernel, by decide +kernel⟩
theorem nX12_driftOfCuts : Cond.instanceMethod yX12_driftOfCuts ∈ mTbl := mTbl_w kt8 (List.mem_of_getElem? (i := 93) rfl) rfl
theorem vX12_driftOfCuts : Cond.selects yX12_driftOfCuts.cls yX12_driftOfCuts yX12_driftOfCuts ∈ mTbl := mTbl_s kp8 (List.mem_of_getElem? (i := 5) rfl)
def mX12_pattern : mM := (yX12_pattern, cX12_pattern, 3, some .int)
theorem tX12_pattern : mMt mX12_pattern 2 := ⟨mTbl_w kt8 (List.mem_of_getElem? (i := 78) rfl) rfl, mTbl_w kt1 (List.mem_of_getElem? (i := 11) rfl) rfl, by decide +kernel, by decide +kernel, by decide +kernel, by decide +kernel⟩
theorem nX12_pattern : Cond.instanceMethod yX12_pattern ∈ mTbl := mTbl_w kt8 (List.mem_of_getElem? (i := 76) rfl) rfl
theorem vX12_pattern : Cond.selects yX12_pattern.cls yX12_pattern yX12_pattern ∈ mTbl := mTbl_w kt8 (List.mem_of_getElem? (i := 77) rfl) rfl
def mX12_alike : mM := (yX12_alike, cX12_alike, 7, some .int)
theorem tX12_alike : mMt mX12_alike 2 := ⟨mTbl_w kt8 (List.mem_of_getElem? (i := 82) rfl) rfl, mTbl_w kt1 (List.mem_of_getElem? (i := 11) rfl) rfl, by decide +kernel, by decide +kernel, by decide +kernel, by decide +kernel⟩
theorem nX12_alike : Cond.instanceMethod yX12_alike ∈ mTbl := mTbl_w kt8 (List.mem_of_getElem? (i := 80) rfl) rfl
theorem vX12_alike : Cond.selects yX12_alike.cls yX12_alike yX12_alike ∈ mTbl := mTbl_w kt8 (List.mem_of_getElem? (i := 81) rfl) rfl
def mX12_drift : mM := (yX12_drift, cX12_drift, 3, some .int)
theorem tX12_drift : mMt mX12_drift 2 := ⟨mTbl_w kt8 (List.mem_of_getElem? (i := 86) rfl) rfl, mTbl_w kt1 (List.mem_of_getElem? (i := 11) rfl) rfl, by decide +kernel, by decide +kernel, by decide +kernel, by decide +kernel⟩
theorem nX12_drift : Cond.instanceMethod yX12_drift ∈ mTbl := mTbl_w kt8 (List.mem_of_getElem? (i := 84) rfl) rfl
theorem vX12_drift : Cond.selects yX12_drift.cls yX12_drift yX12_drift ∈ mTbl := mTbl_w kt8 (List.mem_of_getElem? (i := 85) rfl) rfl
def mX12_strange : mM := (yX12_strange, cX12_strange, 4, some .int)
theorem tX12_strange : mMt mX12_strange 1 := ⟨mTbl_w kt8 (List.mem_of_getElem? (i := 98) rfl) rfl, mTbl_w kt1 (List.mem_of_getElem? (i := 11) rfl) rfl, by decide +kernel, by decide +kernel, by decide +kernel, by decide +kernel⟩
theorem nX12_strange : Cond.instanceMethod yX12_strange ∈ mTbl := mTbl_w kt8 (List.mem_of_getElem? (i := 96) rfl) rfl
theorem vX12_strange : Cond.selects yX12_strange.cls yX12_strange yX12_strange ∈ mTbl := mTbl_w kt8 (List.mem_of_getElem? (i := 97) rfl) rfl
def mX12_sturdy : mM := (yX12_sturdy, cX12_sturdy, 8, some .int)
theorem tX12_sturdy : mMt mX12_sturdy 2 := ⟨mTbl_w kt8 (List.mem_of_getElem? (i := 102) rfl) rfl, mTbl_w kt1 (List.mem_of_getElem? (i := 11) rfl) rfl, by decide +kernel, by decide +kernel, by decide +kernel, by decide +kernel⟩
theorem nX12_sturdy : Cond.instanceMethod yX12_sturdy ∈ mTbl := mTbl_w kt8 (List.mem_of_getElem? (i := 100) rfl) rfl
theorem vX12_sturdy : Cond.selects yX12_sturdy.cls yX12_sturdy yX12_sturdy ∈ mTbl := mTbl_w kt8 (List.mem_of_getElem? (i := 101) rfl) rfl
def mX12_right : mM := (yX12_right, cX12_right, 4, some .int)
theorem tX12_right : mMt mX12_right 1 := ⟨mTbl_w kt8 (List.mem_of_getElem? (i := 106) rfl) rfl, mTbl_w kt1 (List.mem_of_getElem? (i := 11) rfl) rfl, by decide +kernel, by decide +kernel, by decide +kernel, by decide +kernel⟩
theorem nX12_right : Cond.instanceMethod yX12_right ∈ mTbl := mTbl_w kt8 (List.mem_of_getElem? (i := 104) rfl) rfl
theorem vX12_right : Cond.selects yX12_right.cls yX12_right yX12_right ∈ mTbl := mTbl_w kt8 (List.mem_of_getElem? (i := 105) rfl) rfl
def mX12_laysRegion : mM := (yX12_laysRegion, cX12_laysRegion, 3, some .boolean)
theorem tX12_laysRegion : mMt mX12_laysRegion 2 := ⟨mTbl_w kt8 (List.mem_of_getElem? (i := 118) rfl) rfl, mTbl_w kt1 (List.mem_of_getElem? (i := 11) rfl) rfl, by decide +kernel, by decide +kernel, by decide +kernel, by decide +kernel⟩
theorem nX12_laysRegion : Cond.instanceMethod yX12_laysRegion ∈ mTbl := mTbl_w kt8 (List.mem_of_getElem? (i := 117) rfl) rfl
theorem vX12_laysRegion : Cond.selects yX12_laysRegion.cls yX12_laysRegion yX12_laysRegion ∈ mTbl := mTbl_s kp8 (List.mem_of_getElem? (i := 7) rfl)
def mX12_packed : mM := (yX12_packed, cX12_packed, 6, some .long)
theorem tX12_packed : mMt mX12_packed 2 := ⟨mTbl_w kt8 (List.mem_of_getElem? (i := 126) rfl) rfl, mTbl_w kt1 (List.mem_of_getElem? (i := 11) rfl) rfl, by decide +kernel, by decide +kernel, by decide +kernel, by decide +kernel⟩
theorem nX12_packed : Cond.instanceMethod yX12_packed ∈ mTbl := mTbl_w kt8 (List.mem_of_getElem? (i := 125) rfl) rfl
theorem vX12_packed : Cond.selects yX12_packed.cls yX12_packed yX12_packed ∈ mTbl := mTbl_s kp8 (List.mem_of_getElem? (i := 9) rfl)
def mX12_votes : mM := (yX12_votes, cX12_votes, 9, none)
theorem tX12_votes : mMt mX12_votes 1 := ⟨mTbl_w kt8 (List.mem_of_getElem? (i := 122) rfl) rfl, mTbl_w kt1 (List.mem_of_getElem? (i := 11) rfl) rfl, by decide +kernel, by decide +kernel, by decide +kernel, by decide +kernel⟩
theorem nX12_votes : Cond.instanceMethod yX12_votes ∈ mTbl := mTbl_w kt8 (List.mem_of_getElem? (i := 121) rfl) rfl
theorem vX12_votes : Cond.selects yX12_votes.cls yX12_votes yX12_votes ∈ mTbl := mTbl_s kp8 (List.mem_of_getElem? (i := 8) rfl)
def mX12_laysVotes : mM := (yX12_laysVotes, cX12_laysVotes, 5, none)
theorem tX12_laysVotes : mMt mX12_laysVotes 2 := ⟨mTbl_w kt8 (List.mem_of_getElem? (i := 114) rfl) rfl, mTbl_w kt1 (List.mem_of_getElem? (i := 11) rfl) rfl, by decide +kernel, by decide +kernel, by decide +kernel, by decide +kernel⟩
theorem nX12_laysVotes : Cond.instanceMethod yX12_laysVotes ∈ mTbl := mTbl_w kt8 (List.mem_of_getElem? (i := 113) rfl) rfl
theorem vX12_laysVotes : Cond.selects yX12_laysVotes.cls yX12_laysVotes yX12_laysVotes ∈ mTbl := mTbl_s kp8 (List.mem_of_getElem? (i := 6) rfl)
def mX12_mostVoted : mM := (yX12_mostVoted, cX12_mostVoted, 3, some .int)
theorem tX12_mostVoted : mMt mX12_mostVoted 0 := ⟨mTbl_w kt8 (List.mem_of_getElem? (i := 131) rfl) rfl, mTbl_w kt1 (List.mem_of_getElem? (i := 11) rfl) rfl, by decide +kernel, by decide +kernel, by decide +kernel, by decide +kernel⟩
theorem nX12_mostVoted : Cond.instanceMethod yX12_mostVoted ∈ mTbl := mTbl_w kt8 (List.mem_of_getElem? (i := 130) rfl) rfl
theorem vX12_mostVoted : Cond.selects yX12_mostVoted.cls yX12_mostVoted yX12_mostVoted ∈ mTbl := mTbl_s kp8 (List.mem_of_getElem? (i := 10) rfl)
def mX12_opinion : mM := (yX12_opinion, cX12_opinion, 7, some .int)
theorem tX12_opinion : mMt mX12_opinion 3 := ⟨mTbl_w kt8 (List.mem_of_getElem? (i := 110) rfl) rfl, mTbl_w kt1 (List.mem_of_getElem? (i := 11) rfl) rfl, by decide +kernel, by decide +kernel, by decide +kernel, by decide +kernel⟩
theorem nX12_opinion : Cond.instanceMethod yX12_opinion ∈ mTbl := mTbl_w kt8 (List.mem_of_getElem? (i := 108) rfl) rfl
theorem vX12_opinion : Cond.selects yX12_opinion.cls yX12_opinion yX12_opinion ∈ mTbl := mTbl_w kt8 (List.mem_of_getElem? (i := 109) rfl) rfl
def mX12_laysParts : mM := (yX12_laysParts, cX12_laysParts, 4, none)
theorem tX12_laysParts : mMt mX12_laysParts 1 := ⟨mTbl_w kt8 (List.mem_of_getElem? (i := 145) rfl) rfl, mTbl_w kt1 (List.mem_of_getElem? (i := 11) rfl) rfl, by decide +kernel, by decide +kernel, by decide +kernel, by decide +kernel⟩
theorem nX12_laysParts : Cond.instanceMethod yX12_laysParts ∈ mTbl := mTbl_w kt8 (List.mem_of_getElem? (i := 144) rfl) rfl
theorem vX12_laysParts : Cond.selects yX12_laysParts.cls yX12_laysParts yX12_laysParts ∈ mTbl := mTbl_s kp8 (List.mem_of_getElem? (i := 12) rfl)
def mX12_laysProposed : mM := (yX12_laysProposed, cX12_laysProposed, 5, some .boolean)
theorem tX12_laysProposed : mMt mX12_laysProposed 2 := ⟨mTbl_w kt8 (List.mem_of_getElem? (i := 141) rfl) rfl, mTbl_w kt1 (List.mem_of_getElem? (i := 11) rfl) rfl, by decide +kernel, by decide +kernel, by decide +kernel, by decide +kernel⟩
theorem nX12_laysProposed : Cond.instanceMethod yX12_laysProposed ∈ mTbl := mTbl_w kt8 (List.mem_of_getElem? (i := 140) rfl) rfl
theorem vX12_laysProposed : Cond.selects yX12_laysProposed.cls yX12_laysProposed yX12_laysProposed ∈ mTbl := mTbl_s kp8 (List.mem_of_getElem? (i := 11) rfl)
def mX12_proposed : mM := (yX12_proposed, cX12_proposed, 5, some .int)
theorem tX12_proposed : mMt mX12_proposed 4 := ⟨mTbl_w kt8 (List.mem_of_getElem? (i := 137) rfl) rfl, mTbl_w kt1 (List.mem_of_getElem? (i := 11) rfl) rfl, by decide +kernel, by decide +kernel, by decide +kernel, by decide +kernel⟩
theorem nX12_proposed : Cond.instanceMethod yX12_proposed ∈ mTbl := mTbl_w kt8 (List.mem_of_getElem? (i := 135) rfl) rfl
theorem vX12_proposed : Cond.selects yX12_proposed.cls yX12_proposed yX12_proposed ∈ mTbl := mTbl_w kt8 (List.mem_of_getElem? (i := 136) rfl) rfl
def mX12_isWithinParent : mM := (yX12_isWithinParent, cX12_isWithinParent, 3, some .boolean)
theorem tX12_isWithinParent : mMt mX12_isWithinParent 2 := ⟨mTbl_w kt8 (List.mem_of_getElem? (i := 153) rfl) rfl, mTbl_w kt1 (List.mem_of_getElem? (i := 11) rfl) rfl, by decide +kernel, by decide +kernel, by decide +kernel, by decide +kernel⟩
theorem nX12_isWithinParent : Cond.instanceMethod yX12_isWithinParent ∈ mTbl := mTbl_w kt8 (List.mem_of_getElem? (i := 152) rfl) rfl
theorem vX12_isWithinParent : Cond.selects yX12_isWithinParent.cls yX12_isWithinParent yX12_isWithinParent ∈ mTbl := mTbl_s kp8 (List.mem_of_getElem? (i := 13) rfl)
def mX12_take : mM := (yX12_take, cX12_take, 5, some .int)
theorem tX12_take : mMt mX12_take 2 := ⟨mTbl_w kt8 (List.mem_of_getElem? (i := 149) rfl) rfl, mTbl_w kt1 (List.mem_of_getElem? (i := 11) rfl) rfl, by decide +kernel, by decide +kernel, by decide +kernel, by decide +kernel⟩
theorem nX12_take : Cond.instanceMethod yX12_take ∈ mTbl := mTbl_w kt8 (List.mem_of_getElem? (i := 147) rfl) rfl
theorem vX12_take : Cond.selects yX12_take.cls yX12_take yX12_take ∈ mTbl := mTbl_w kt8 (List.mem_of_getElem? (i := 148) rfl) rfl
def mX12_next : mM := (yX12_next, cX12_next, 5, some .int)
theorem tX12_next : mMt mX12_next 1 := ⟨mTbl_w kt8 (List.mem_of_getElem? (i := 157) rfl) rfl, mTbl_w kt1 (List.mem_of_getElem? (i := 11) rfl) rfl, by decide +kernel, by decide +kernel, by decide +kernel, by decide +kernel⟩
theorem nX12_next : Cond.instanceMethod yX12_next ∈ mTbl := mTbl_w kt8 (List.mem_of_getElem? (i := 155) rfl) rfl
theorem vX12_next : Cond.selects yX12_next.cls yX12_next yX12_next ∈ mTbl := mTbl_w kt8 (List.mem_of_getElem? (i := 156) rfl) rfl
def mX12_without : mM := (yX12_without, cX12_without, 4, some .int)
theorem tX12_without : mMt mX12_without 2 := ⟨mTbl_w kt8 (List.mem_of_getElem? (i := 161) rfl) rfl, mTbl_w kt1 (List.mem_of_getElem? (i := 11) rfl) rfl, by decide +kernel, by decide +kernel, by decide +kernel, by decide +kernel⟩
theorem nX12_without : Cond.instanceMethod yX12_without ∈ mTbl := mTbl_w kt8 (List.mem_of_getElem? (i := 159) rfl) rfl
theorem vX12_without : Cond.selects yX12_without.cls yX12_without yX12_without ∈ mTbl := mTbl_w kt8 (List.mem_of_getElem? (i := 160) rfl) rfl
def mX12_allParts : mM := (yX12_allParts, cX12_allParts, 4, some .int)
theorem tX12_allParts : mMt mX12_allParts 0 := ⟨mTbl_w kt8 (List.mem_of_getElem? (i := 169) rfl) rfl, mTbl_w kt1 (List.mem_of_getElem? (i := 11) rfl) rfl, by decide +kernel, by decide +kernel, by decide +kernel, by decide +kernel⟩
theorem nX12_allParts : Cond.instanceMethod yX12_allParts ∈ mTbl := mTbl_w kt8 (List.mem_of_getElem? (i := 168) rfl) rfl
theorem vX12_allParts : Cond.selects yX12_allParts.cls yX12_allParts yX12_allParts ∈ mTbl := mTbl_s kp8 (List.mem_of_getElem? (i := 14) rfl)
def mX12_image : mM := (yX12_image, cX12_image, 3, some .int)
theorem tX12_image : mMt mX12_image 1 := ⟨mTbl_w kt8 (List.mem_of_getElem? (i := 165) rfl) rfl, mTbl_w kt1 (List.mem_of_getElem? (i := 11) rfl) rfl, by decide +kernel, by decide +kernel, by decide +kernel, by decide +kernel⟩
theorem nX12_image : Cond.instanceMethod yX12_image ∈ mTbl := mTbl_w kt8 (List.mem_of_getElem? (i := 163) rfl) rfl
theorem vX12_image : Cond.selects yX12_image.cls yX12_image yX12_image ∈ mTbl := mTbl_w kt8 (List.mem_of_getElem? (i := 164) rfl) rfl
def mX12_back : mM := (yX12_back, cX12_back, 3, some .int)
theorem tX12_back : mMt mX12_back 1 := ⟨mTbl_w kt8 (List.mem_of_getElem? (i := 173) rfl) rfl, mTbl_w kt1 (List.mem_of_getElem? (i := 11) rfl) rfl, by decide +kernel, by decide +kernel, by decide +kernel, by decide +kernel⟩
theorem nX12_back : Cond.instanceMethod yX12_back ∈ mTbl := mTbl_w kt8 (List.mem_of_getElem? (i := 171) rfl) rfl
theorem vX12_back : Cond.selects yX12_back.cls yX12_back yX12_back ∈ mTbl := mTbl_w kt8 (List.mem_of_getElem? (i := 172) rfl) rfl
def mX12_learntFields : mM := (yX12_learntFields, cX12_learntFields, 3, some .int)
theorem tX12_learntFields : mMt mX12_learntFields 0 := ⟨mTbl_w kt8 (List.mem_of_getElem? (i := 185) rfl) rfl, mTbl_w kt1 (List.mem_of_getElem? (i := 11) rfl) rfl, by decide +kernel, by decide +kernel, by decide +kernel, by decide +kernel⟩
theorem nX12_learntFields : Cond.instanceMethod yX12_learntFields ∈ mTbl := mTbl_w kt8 (List.mem_of_getElem? (i := 184) rfl) rfl
theorem vX12_learntFields : Cond.selects yX12_learntFields.cls yX12_learntFields yX12_learntFields ∈ mTbl := mTbl_s kp9 (List.mem_of_getElem? (i := 0) rfl)
def mX12_unlikeTokens : mM := (yX12_unlikeTokens, cX12_unlikeTokens, 1, some .int)
theorem tX12_unlikeTokens : mMt mX12_unlikeTokens 0 := ⟨mTbl_w kt8 (List.mem_of_getElem? (i := 181) rfl) rfl, mTbl_w kt1 (List.mem_of_getElem? (i := 11) rfl) rfl, by decide +kernel, by decide +kernel, by decide +kernel, by decide +kernel⟩
theorem nX12_unlikeTokens : Cond.instanceMethod yX12_unlikeTokens ∈ mTbl := mTbl_w kt8 (List.mem_of_getElem? (i := 180) rfl) rfl
theorem vX12_unlikeTokens : Cond.selects yX12_unlikeTokens.cls yX12_unlikeTokens yX12_unlikeTokens ∈ mTbl := mTbl_s kp8 (List.mem_of_getElem? (i := 15) rfl)
def mX12_about : mM := (yX12_about, cX12_about, 2, some .int)
theorem tX12_about : mMt mX12_about 1 := ⟨mTbl_w kt8 (List.mem_of_getElem? (i := 177) rfl) rfl, mTbl_w kt1 (List.mem_of_getElem? (i := 11) rfl) rfl, by decide +kernel, by decide +kernel, by decide +kernel, by decide +kernel⟩
theorem nX12_about : Cond.instanceMethod yX12_about ∈ mTbl := mTbl_w kt8 (List.mem_of_getElem? (i := 175) rfl) rfl
theorem vX12_about : Cond.selects yX12_about.cls yX12_about yX12_about ∈ mTbl := mTbl_w kt8 (List.mem_of_getElem? (i := 176) rfl) rfl
def mJ6_bitCount_0f7a4 : mM := (yJ6_bitCount_0f7a4, cJ6_bitCount_0f7a4, 1, some .int)
theorem tJ6_bitCount_0f7a4 : mMt mJ6_bitCount_0f7a4 1 := ⟨mTbl_w kt5 (List.mem_of_getElem? (i := 118) rfl) rfl, mTbl_w kt1 (List.mem_of_getElem? (i := 18) rfl) rfl, by decide +kernel, by decide +kernel, by decide +kernel, by decide +kernel⟩
theorem sJ6_bitCount_0f7a4 : Cond.static yJ6_bitCount_0f7a4 ∈ mTbl := mTbl_w kt5 (List.mem_of_getElem? (i := 117) rfl) rfl
def mJ13_bitCount_95d88 : mM := (yJ13_bitCount_95d88, cJ13_bitCount_95d88, 2, some .int)
theorem tJ13_bitCount_95d88 : mMt mJ13_bitCount_95d88 1 := ⟨mTbl_w kt3 (List.mem_of_getElem? (i := 161) rfl) rfl, mTbl_w kt1 (List.mem_of_getElem? (i := 16) rfl) rfl, by decide +kernel, by decide +kernel, by decide +kernel, by decide +kernel⟩
theorem sJ13_bitCount_95d88 : Cond.static yJ13_bitCount_95d88 ∈ mTbl := mTbl_w kt3 (List.mem_of_getElem? (i := 160) rfl) rfl
def mJ9_floorMod_7cf53 : mM := (yJ9_floorMod_7cf53, cJ9_floorMod_7cf53, 3, some .int)
theorem tJ9_floorMod_7cf53 : mMt mJ9_floorMod_7cf53 2 := ⟨mTbl_w kt3 (List.mem_of_getElem? (i := 14) rfl) rfl, mTbl_w kt1 (List.mem_of_getElem? (i := 12) rfl) rfl, by decide +kernel, by decide +kernel, by decide +kernel, by decide +kernel⟩
theorem sJ9_floorMod_7cf53 : Cond.static yJ9_floorMod_7cf53 ∈ mTbl := mTbl_w kt3 (List.mem_of_getElem? (i := 13) rfl) rfl
def mJ9_max_7cf53 : mM := (yJ9_max_7cf53, cJ9_max_7cf53, 2, some .int)
theorem tJ9_max_7cf53 : mMt mJ9_max_7cf53 2 := ⟨mTbl_w kt3 (List.mem_of_getElem? (i := 42) rfl) rfl, mTbl_w kt1 (List.mem_of_getElem? (i := 12) rfl) rfl, by decide +kernel, by decide +kernel, by decide +kernel, by decide +kernel⟩
theorem sJ9_max_7cf53 : Cond.static yJ9_max_7cf53 ∈ mTbl := mTbl_w kt3 (List.mem_of_getElem? (i := 41) rfl) rfl
def mJ9_min_7cf53 : mM := (yJ9_min_7cf53, cJ9_min_7cf53, 2, some .int)
theorem tJ9_min_7cf53 : mMt mJ9_min_7cf53 2 := ⟨mTbl_w kt2 (List.mem_of_getElem? (i := 164) rfl) rfl, mTbl_w kt1 (List.mem_of_getElem? (i := 12) rfl) rfl, by decide +kernel, by decide +kernel, by decide +kernel, by decide +kernel⟩
theorem sJ9_min_7cf53 : Cond.static yJ9_min_7cf53 ∈ mTbl := mTbl_w kt2 (List.mem_of_getElem? (i := 163) rfl) rfl
def mJ7_fill_d0a16 : mM := (yJ7_fill_d0a16, cJ7_fill_d0a16, 5, none)
theorem tJ7_fill_d0a16 : mMt mJ7_fill_d0a16 2 := ⟨mTbl_w kt3 (List.mem_of_getElem? (i := 21) rfl) rfl, mTbl_w kt1 (List.mem_of_getElem? (i := 13) rfl) rfl, by decide +kernel, by decide +kernel, by decide +kernel, by decide +kernel⟩
theorem sJ7_fill_d0a16 : Cond.static yJ7_fill_d0a16 ∈ mTbl := mTbl_w kt3 (List.mem_of_getElem? (i := 20) rfl) rfl
def mJ7_fill_53178 : mM := (yJ7_fill_53178, cJ7_fill_53178, 4, none)
theorem tJ7_fill_53178 : mMt mJ7_fill_53178 2 := ⟨mTbl_w kt4 (List.mem_of_getElem? (i := 40) rfl) rfl, mTbl_w kt1 (List.mem_of_getElem? (i := 13) rfl) rfl, by decide +kernel, by decide +kernel, by decide +kernel, by decide +kernel⟩
theorem sJ7_fill_53178 : Cond.static yJ7_fill_53178 ∈ mTbl := mTbl_w kt4 (List.mem_of_getElem? (i := 39) rfl) rfl
def mJ7_copyOf_59c91 : mM := (yJ7_copyOf_59c91, cJ7_copyOf_59c91, 3, some (.array .int))
theorem tJ7_copyOf_59c91 : mMt mJ7_copyOf_59c91 2 := ⟨mTbl_w kt4 (List.mem_of_getElem? (i := 184) rfl) rfl, mTbl_w kt1 (List.mem_of_getElem? (i := 13) rfl) rfl, by decide +kernel, by decide +kernel, by decide +kernel, by decide +kernel⟩
theorem sJ7_copyOf_59c91 : Cond.static yJ7_copyOf_59c91 ∈ mTbl := mTbl_w kt4 (List.mem_of_getElem? (i := 183) rfl) rfl
def mJ7_copyOf_c38d5 : mM := (yJ7_copyOf_c38d5, cJ7_copyOf_c38d5, 3, some (.array .long))
theorem tJ7_copyOf_c38d5 : mMt mJ7_copyOf_c38d5 2 := ⟨mTbl_w kt3 (List.mem_of_getElem? (i := 45) rfl) rfl, mTbl_w kt1 (List.mem_of_getElem? (i := 13) rfl) rfl, by decide +kernel, by decide +kernel, by decide +kernel, by decide +kernel⟩
theorem sJ7_copyOf_c38d5 : Cond.static yJ7_copyOf_c38d5 ∈ mTbl := mTbl_w kt3 (List.mem_of_getElem? (i := 44) rfl) rfl
theorem lL_7 : Cond.classLink RL 7 (mCn 11) ∈ mTbl := mTbl_w kt1 (List.mem_of_getElem? (i := 19) rfl) rfl
theorem lL_9 : Cond.methodLink RL 9 yX11_init ∈ mTbl := mTbl_w kt1 (List.mem_of_getElem? (i := 21) rfl) rfl
theorem lX11_3 : Cond.methodLink RX11 3 objectInit ∈ mTbl := mTbl_w kt1 (List.mem_of_getElem? (i := 24) rfl) rfl
theorem lX11_17 : Cond.classLink RX11 17 (mCn 1) ∈ mTbl := mTbl_w kt1 (List.mem_of_getElem? (i := 27) rfl) rfl
theorem lX11_19 : (RX11, 19, yX1_init) ∈ mNst := List.mem_of_getElem? (i := 0) rfl
theorem lX1_3 : Cond.methodLink RX1 3 objectInit ∈ mTbl := mTbl_w kt1 (List.mem_of_getElem? (i := 32) rfl) rfl
theorem lX1_9 : mFl RX1 9 1 0 := ⟨mTbl_w kt1 (List.mem_of_getElem? (i := 33) rfl) rfl, by decide, by decide⟩
theorem lX1_15 : mFl RX1 15 1 1 := ⟨mTbl_w kt1 (List.mem_of_getElem? (i := 34) rfl) rfl, by decide, by decide⟩
theorem lX9_48 : mFl RX9 48 1 1 := ⟨mTbl_w kt1 (List.mem_of_getElem? (i := 35) rfl) rfl, by decide, by decide⟩
theorem lX11_147 : mFl RX11 147 1 1 := ⟨mTbl_w kt1 (List.mem_of_getElem? (i := 36) rfl) rfl, by decide, by decide⟩
theorem lX1_19 : mFl RX1 19 1 2 := ⟨mTbl_w kt1 (List.mem_of_getElem? (i := 37) rfl) rfl, by decide, by decide⟩
theorem lX7_109 : mFl RX7 109 1 2 := ⟨mTbl_w kt1 (List.mem_of_getElem? (i := 38) rfl) rfl, by decide, by decide⟩
theorem lX11_150 : mFl RX11 150 1 2 := ⟨mTbl_w kt1 (List.mem_of_getElem? (i := 39) rfl) rfl, by decide, by decide⟩
theorem lX9_145 : mFl RX9 145 1 2 := ⟨mTbl_w kt1 (List.mem_of_getElem? (i := 40) rfl) rfl, by decide, by decide⟩
theorem lX1_23 : mFl RX1 23 1 3 := ⟨mTbl_w kt1 (List.mem_of_getElem? (i := 41) rfl) rfl, by decide, by decide⟩
theorem lX7_48 : mFl RX7 48 1 3 := ⟨mTbl_w kt1 (List.mem_of_getElem? (i := 42) rfl) rfl, by decide, by decide⟩
theorem lX11_234 : mFl RX11 234 1 3 := ⟨mTbl_w kt1 (List.mem_of_getElem? (i := 43) rfl) rfl, by decide, by decide⟩
theorem lX11_24 : Cond.classLink RX11 24 (mCn 7) ∈ mTbl := mTbl_w kt1 (List.mem_of_getElem? (i := 57) rfl) rfl
theorem lX11_26 : (RX11, 26, yX7_init) ∈ mNst := List.mem_of_getElem? (i := 1) rfl
theorem lX7_3 : Cond.methodLink RX7 3 objectInit ∈ mTbl := mTbl_w kt1 (List.mem_of_getElem? (i := 62) rfl) rfl
theorem lX7_9 : Cond.classLink RX7 9 "[[J" ∈ mTbl := mTbl_w kt1 (List.mem_of_getElem? (i := 63) rfl) rfl
theorem lX7_20 : Cond.classLink RX7 20 (mCn 1) ∈ mTbl := mTbl_w kt1 (List.mem_of_getElem? (i := 65) rfl) rfl
theorem lX7_22 : (RX7, 22, yX1_init) ∈ mNst := List.mem_of_getElem? (i := 2) rfl
theorem lX7_11 : mFl RX7 11 7 0 := ⟨mTbl_w kt1 (List.mem_of_getElem? (i := 67) rfl) rfl, by decide, by decide⟩
theorem lX11_108 : mFl RX11 108 7 0 := ⟨mTbl_w kt1 (List.mem_of_getElem? (i := 68) rfl) rfl, by decide, by decide⟩
theorem lX7_16 : mFl RX7 16 7 1 := ⟨mTbl_w kt1 (List.mem_of_getElem? (i := 69) rfl) rfl, by decide, by decide⟩
theorem lX11_112 : mFl RX11 112 7 1 := ⟨mTbl_w kt1 (List.mem_of_getElem? (i := 70) rfl) rfl, by decide, by decide⟩
theorem lX7_56 : mFl RX7 56 7 2 := ⟨mTbl_w kt1 (List.mem_of_getElem? (i := 71) rfl) rfl, by decide, by decide⟩
theorem lX11_105 : mFl RX11 105 7 2 := ⟨mTbl_w kt1 (List.mem_of_getElem? (i := 72) rfl) rfl, by decide, by decide⟩
theorem lX7_23 : mFl RX7 23 7 3 := ⟨mTbl_w kt1 (List.mem_of_getElem? (i := 73) rfl) rfl, by decide, by decide⟩
theorem lX11_96 : mFl RX11 96 7 3 := ⟨mTbl_w kt1 (List.mem_of_getElem? (i := 74) rfl) rfl, by decide, by decide⟩
theorem lX7_35 : mFl RX7 35 7 4 := ⟨mTbl_w kt1 (List.mem_of_getElem? (i := 75) rfl) rfl, by decide, by decide⟩
theorem lX11_130 : mFl RX11 130 7 4 := ⟨mTbl_w kt1 (List.mem_of_getElem? (i := 76) rfl) rfl, by decide, by decide⟩
theorem lX7_78 : mFl RX7 78 7 5 := ⟨mTbl_w kt1 (List.mem_of_getElem? (i := 77) rfl) rfl, by decide, by decide⟩
theorem lX11_136 : mFl RX11 136 7 5 := ⟨mTbl_w kt1 (List.mem_of_getElem? (i := 78) rfl) rfl, by decide, by decide⟩
theorem lX7_27 : mFl RX7 27 7 6 := ⟨mTbl_w kt1 (List.mem_of_getElem? (i := 79) rfl) rfl, by decide, by decide⟩
theorem lX7_72 : mFl RX7 72 7 7 := ⟨mTbl_w kt1 (List.mem_of_getElem? (i := 80) rfl) rfl, by decide, by decide⟩
theorem lX7_84 : mFl RX7 84 7 8 := ⟨mTbl_w kt1 (List.mem_of_getElem? (i := 81) rfl) rfl, by decide, by decide⟩
theorem lX7_75 : mFl RX7 75 7 9 := ⟨mTbl_w kt1 (List.mem_of_getElem? (i := 82) rfl) rfl, by decide, by decide⟩
theorem lX7_39 : mFl RX7 39 7 10 := ⟨mTbl_w kt1 (List.mem_of_getElem? (i := 83) rfl) rfl, by decide, by decide⟩
theorem lX7_91 : mFl RX7 91 7 11 := ⟨mTbl_w kt1 (List.mem_of_getElem? (i := 84) rfl) rfl, by decide, by decide⟩
theorem lX11_31 : Cond.classLink RX11 31 (mCn 3) ∈ mTbl := mTbl_w kt1 (List.mem_of_getElem? (i := 110) rfl) rfl
theorem lX11_33 : Cond.methodLink RX11 33 yX3_init ∈ mTbl := mTbl_w kt1 (List.mem_of_getElem? (i := 112) rfl) rfl
theorem lX3_3 : Cond.methodLink RX3 3 objectInit ∈ mTbl := mTbl_w kt1 (List.mem_of_getElem? (i := 115) rfl) rfl
theorem lX3_9 : Cond.classLink RX3 9 (mCn 8) ∈ mTbl := mTbl_w kt1 (List.mem_of_getElem? (i := 116) rfl) rfl
theorem lX3_17 : (RX3, 17, yX8_init) ∈ mNst := List.mem_of_getElem? (i := 3) rfl
theorem lX8_3 : Cond.methodLink RX8 3 objectInit ∈ mTbl := mTbl_w kt1 (List.mem_of_getElem? (i := 122) rfl) rfl
theorem lX8_9 : Cond.classLink RX8 9 (mCn 6) ∈ mTbl := mTbl_w kt1 (List.mem_of_getElem? (i := 123) rfl) rfl
theorem lX8_17 : Cond.classLink RX8 17 (mCn 4) ∈ mTbl := mTbl_w kt1 (List.mem_of_getElem? (i := 125) rfl) rfl
theorem lX8_11 : mFl RX8 11 8 0 := ⟨mTbl_w kt1 (List.mem_of_getElem? (i := 127) rfl) rfl, by decide, by decide⟩
theorem lX8_19 : mFl RX8 19 8 1 := ⟨mTbl_w kt1 (List.mem_of_getElem? (i := 128) rfl) rfl, by decide, by decide⟩
theorem lX11_143 : mFl RX11 143 8 1 := ⟨mTbl_w kt1 (List.mem_of_getElem? (i := 129) rfl) rfl, by decide, by decide⟩
theorem lX8_23 : mFl RX8 23 8 2 := ⟨mTbl_w kt1 (List.mem_of_getElem? (i := 130) rfl) rfl, by decide, by decide⟩
theorem lX4_49 : mFl RX4 49 8 2 := ⟨mTbl_w kt1 (List.mem_of_getElem? (i := 131) rfl) rfl, by decide, by decide⟩
theorem lX9_59 : mFl RX9 59 8 2 := ⟨mTbl_w kt1 (List.mem_of_getElem? (i := 132) rfl) rfl, by decide, by decide⟩
theorem lX2_52 : mFl RX2 52 8 2 := ⟨mTbl_w kt1 (List.mem_of_getElem? (i := 133) rfl) rfl, by decide, by decide⟩
theorem lX11_202 : mFl RX11 202 8 2 := ⟨mTbl_w kt1 (List.mem_of_getElem? (i := 134) rfl) rfl, by decide, by decide⟩
theorem lX8_27 : mFl RX8 27 8 3 := ⟨mTbl_w kt1 (List.mem_of_getElem? (i := 135) rfl) rfl, by decide, by decide⟩
theorem lX4_52 : mFl RX4 52 8 3 := ⟨mTbl_w kt1 (List.mem_of_getElem? (i := 136) rfl) rfl, by decide, by decide⟩
theorem lX9_70 : mFl RX9 70 8 3 := ⟨mTbl_w kt1 (List.mem_of_getElem? (i := 137) rfl) rfl, by decide, by decide⟩
theorem lX2_59 : mFl RX2 59 8 3 := ⟨mTbl_w kt1 (List.mem_of_getElem? (i := 138) rfl) rfl, by decide, by decide⟩
theorem lX11_205 : mFl RX11 205 8 3 := ⟨mTbl_w kt1 (List.mem_of_getElem? (i := 139) rfl) rfl, by decide, by decide⟩
theorem lX4_37 : mFl RX4 37 8 4 := ⟨mTbl_w kt1 (List.mem_of_getElem? (i := 140) rfl) rfl, by decide, by decide⟩
theorem lX9_35 : mFl RX9 35 8 4 := ⟨mTbl_w kt1 (List.mem_of_getElem? (i := 141) rfl) rfl, by decide, by decide⟩
theorem lX8_36 : mFl RX8 36 8 4 := ⟨mTbl_w kt1 (List.mem_of_getElem? (i := 142) rfl) rfl, by decide, by decide⟩
theorem lX11_123 : mFl RX11 123 8 4 := ⟨mTbl_w kt1 (List.mem_of_getElem? (i := 143) rfl) rfl, by decide, by decide⟩
theorem lX3_11 : mFl RX3 11 3 0 := ⟨mTbl_w kt1 (List.mem_of_getElem? (i := 155) rfl) rfl, by decide, by decide⟩
theorem lX3_18 : mFl RX3 18 3 1 := ⟨mTbl_w kt1 (List.mem_of_getElem? (i := 156) rfl) rfl, by decide, by decide⟩
theorem lX3_28 : mFl RX3 28 3 2 := ⟨mTbl_w kt1 (List.mem_of_getElem? (i := 157) rfl) rfl, by decide, by decide⟩
theorem lX11_402 : mFl RX11 402 3 2 := ⟨mTbl_w kt1 (List.mem_of_getElem? (i := 158) rfl) rfl, by decide, by decide⟩
theorem lX3_39 : mFl RX3 39 3 3 := ⟨mTbl_w kt1 (List.mem_of_getElem? (i := 159) rfl) rfl, by decide, by decide⟩
theorem lX11_405 : mFl RX11 405 3 3 := ⟨mTbl_w kt1 (List.mem_of_getElem? (i := 160) rfl) rfl, by decide, by decide⟩
theorem lX11_38 : Cond.classLink RX11 38 (mCn 8) ∈ mTbl := mTbl_w kt1 (List.mem_of_getElem? (i := 170) rfl) rfl
theorem lX11_44 : Cond.classLink RX11 44 (mCn 9) ∈ mTbl := mTbl_w kt1 (List.mem_of_getElem? (i := 171) rfl) rfl
theorem lX11_50 : Cond.classLink RX11 50 (mCn 0) ∈ mTbl := mTbl_w kt1 (List.mem_of_getElem? (i := 173) rfl) rfl
theorem lX11_52 : (RX11, 52, yX0_init) ∈ mNst := List.mem_of_getElem? (i := 4) rfl
theorem lX0_3 : Cond.methodLink RX0 3 objectInit ∈ mTbl := mTbl_w kt1 (List.mem_of_getElem? (i := 178) rfl) rfl
theorem lX0_9 : mFl RX0 9 0 0 := ⟨mTbl_w kt1 (List.mem_of_getElem? (i := 179) rfl) rfl, by decide, by decide⟩
theorem lX0_15 : mFl RX0 15 0 1 := ⟨mTbl_w kt1 (List.mem_of_getElem? (i := 180) rfl) rfl, by decide, by decide⟩
theorem lX0_18 : mFl RX0 18 0 2 := ⟨mTbl_w kt1 (List.mem_of_getElem? (i := 181) rfl) rfl, by decide, by decide⟩
theorem lX0_21 : mFl RX0 21 0 3 := ⟨mTbl_w kt1 (List.mem_of_getElem? (i := 182) rfl) rfl, by decide, by decide⟩
theorem lX0_24 : mFl RX0 24 0 4 := ⟨mTbl_w kt1 (List.mem_of_getElem? (i := 183) rfl) rfl, by decide, by decide⟩
theorem lX4_33 : mFl RX4 33 0 4 := ⟨mTbl_w kt1 (List.mem_of_getElem? (i := 184) rfl) rfl, by decide, by decide⟩
theorem lX11_321 : mFl RX11 321 0 4 := ⟨mTbl_w kt1 (List.mem_of_getElem? (i := 185) rfl) rfl, by decide, by decide⟩
theorem lX4_15 : mFl RX4 15 0 5 := ⟨mTbl_w kt1 (List.mem_of_getElem? (i := 186) rfl) rfl, by decide, by decide⟩
theorem lX0_42 : mFl RX0 42 0 5 := ⟨mTbl_w kt1 (List.mem_of_getElem? (i := 187) rfl) rfl, by decide, by decide⟩
theorem lX11_314 : mFl RX11 314 0 5 := ⟨mTbl_w kt1 (List.mem_of_getElem? (i := 188) rfl) rfl, by decide, by decide⟩
theorem lX0_39 : mFl RX0 39 0 6 := ⟨mTbl_w kt1 (List.mem_of_getElem? (i := 189) rfl) rfl, by decide, by decide⟩
theorem lX11_315 : mFl RX11 315 0 6 := ⟨mTbl_w kt1 (List.mem_of_getElem? (i := 190) rfl) rfl, by decide, by decide⟩
theorem lX0_31 : mFl RX0 31 0 7 := ⟨mTbl_w kt1 (List.mem_of_getElem? (i := 191) rfl) rfl, by decide, by decide⟩
theorem lX11_318 : mFl RX11 318 0 7 := ⟨mTbl_w kt1 (List.mem_of_getElem? (i := 192) rfl) rfl, by decide, by decide⟩
theorem lX11_57 : Cond.classLink RX11 57 (mCn 2) ∈ mTbl := mTbl_w kt1 (List.mem_of_getElem? (i := 210) rfl) rfl
theorem lX11_59 : (RX11, 59, yX2_init) ∈ mNst := List.mem_of_getElem? (i := 5) rfl
theorem lX2_3 : Cond.methodLink RX2 3 objectInit ∈ mTbl := mTbl_w kt1 (List.mem_of_getElem? (i := 215) rfl) rfl
theorem lX2_9 : mFl RX2 9 2 0 := ⟨mTbl_w kt1 (List.mem_of_getElem? (i := 216) rfl) rfl, by decide, by decide⟩
theorem lX9_86 : mFl RX9 86 2 1 := ⟨mTbl_w kt1 (List.mem_of_getElem? (i := 217) rfl) rfl, by decide, by decide⟩
theorem lX2_62 : mFl RX2 62 2 1 := ⟨mTbl_w kt1 (List.mem_of_getElem? (i := 218) rfl) rfl, by decide, by decide⟩
theorem lX9_83 : mFl RX9 83 2 2 := ⟨mTbl_w kt1 (List.mem_of_getElem? (i := 219) rfl) rfl, by decide, by decide⟩
theorem lX2_65 : mFl RX2 65 2 2 := ⟨mTbl_w kt1 (List.mem_of_getElem? (i := 220) rfl) rfl, by decide, by decide⟩
theorem lX10_50 : mFl RX10 50 2 3 := ⟨mTbl_w kt1 (List.mem_of_getElem? (i := 221) rfl) rfl, by decide, by decide⟩
theorem lX2_68 : mFl RX2 68 2 3 := ⟨mTbl_w kt1 (List.mem_of_getElem? (i := 222) rfl) rfl, by decide, by decide⟩
theorem lX11_339 : mFl RX11 339 2 3 := ⟨mTbl_w kt1 (List.mem_of_getElem? (i := 223) rfl) rfl, by decide, by decide⟩
theorem lX10_53 : mFl RX10 53 2 4 := ⟨mTbl_w kt1 (List.mem_of_getElem? (i := 224) rfl) rfl, by decide, by decide⟩
theorem lX2_71 : mFl RX2 71 2 4 := ⟨mTbl_w kt1 (List.mem_of_getElem? (i := 225) rfl) rfl, by decide, by decide⟩
theorem lX11_342 : mFl RX11 342 2 4 := ⟨mTbl_w kt1 (List.mem_of_getElem? (i := 226) rfl) rfl, by decide, by decide⟩
theorem lX2_89 : mFl RX2 89 2 5 := ⟨mTbl_w kt1 (List.mem_of_getElem? (i := 227) rfl) rfl, by decide, by decide⟩
theorem lX2_82 : mFl RX2 82 2 6 := ⟨mTbl_w kt1 (List.mem_of_getElem? (i := 228) rfl) rfl, by decide, by decide⟩
theorem lX11_64 : Cond.classLink RX11 64 (mCn 10) ∈ mTbl := mTbl_w kt2 (List.mem_of_getElem? (i := 4) rfl) rfl
theorem lX11_66 : (RX11, 66, yX10_init) ∈ mNst := List.mem_of_getElem? (i := 6) rfl
theorem lX10_3 : Cond.methodLink RX10 3 objectInit ∈ mTbl := mTbl_w kt2 (List.mem_of_getElem? (i := 9) rfl) rfl
theorem lX10_9 : mFl RX10 9 10 0 := ⟨mTbl_w kt2 (List.mem_of_getElem? (i := 10) rfl) rfl, by decide, by decide⟩
theorem lX11_422 : mFl RX11 422 10 0 := ⟨mTbl_w kt2 (List.mem_of_getElem? (i := 11) rfl) rfl, by decide, by decide⟩
theorem lX10_15 : mFl RX10 15 10 1 := ⟨mTbl_w kt2 (List.mem_of_getElem? (i := 12) rfl) rfl, by decide, by decide⟩
theorem lX11_425 : mFl RX11 425 10 1 := ⟨mTbl_w kt2 (List.mem_of_getElem? (i := 13) rfl) rfl, by decide, by decide⟩
theorem lX10_29 : mFl RX10 29 10 2 := ⟨mTbl_w kt2 (List.mem_of_getElem? (i := 14) rfl) rfl, by decide, by decide⟩
theorem lX11_384 : mFl RX11 384 10 2 := ⟨mTbl_w kt2 (List.mem_of_getElem? (i := 15) rfl) rfl, by decide, by decide⟩
theorem lX10_18 : mFl RX10 18 10 3 := ⟨mTbl_w kt2 (List.mem_of_getElem? (i := 16) rfl) rfl, by decide, by decide⟩
theorem lX11_263 : mFl RX11 263 10 3 := ⟨mTbl_w kt2 (List.mem_of_getElem? (i := 17) rfl) rfl, by decide, by decide⟩
theorem lX10_22 : mFl RX10 22 10 4 := ⟨mTbl_w kt2 (List.mem_of_getElem? (i := 18) rfl) rfl, by decide, by decide⟩
theorem lX11_264 : mFl RX11 264 10 4 := ⟨mTbl_w kt2 (List.mem_of_getElem? (i := 19) rfl) rfl, by decide, by decide⟩
theorem lX10_25 : mFl RX10 25 10 5 := ⟨mTbl_w kt2 (List.mem_of_getElem? (i := 20) rfl) rfl, by decide, by decide⟩
theorem lX11_389 : mFl RX11 389 10 5 := ⟨mTbl_w kt2 (List.mem_of_getElem? (i := 21) rfl) rfl, by decide, by decide⟩
theorem lX11_71 : Cond.classLink RX11 71 (mCn 5) ∈ mTbl := mTbl_w kt2 (List.mem_of_getElem? (i := 35) rfl) rfl
theorem lX11_73 : (RX11, 73, yX5_init) ∈ mNst := List.mem_of_getElem? (i := 7) rfl
theorem lX5_3 : Cond.methodLink RX5 3 objectInit ∈ mTbl := mTbl_w kt2 (List.mem_of_getElem? (i := 40) rfl) rfl
theorem lX5_9 : mFl RX5 9 5 0 := ⟨mTbl_w kt2 (List.mem_of_getElem? (i := 41) rfl) rfl, by decide, by decide⟩
theorem lX5_15 : mFl RX5 15 5 1 := ⟨mTbl_w kt2 (List.mem_of_getElem? (i := 42) rfl) rfl, by decide, by decide⟩
theorem lX11_347 : mFl RX11 347 5 1 := ⟨mTbl_w kt2 (List.mem_of_getElem? (i := 43) rfl) rfl, by decide, by decide⟩
theorem lX11_81 : (RX11, 81, yX9_init) ∈ mNst := List.mem_of_getElem? (i := 8) rfl
theorem lX9_3 : Cond.methodLink RX9 3 objectInit ∈ mTbl := mTbl_w kt2 (List.mem_of_getElem? (i := 53) rfl) rfl
theorem lX11_272 : mFl RX11 272 9 0 := ⟨mTbl_w kt2 (List.mem_of_getElem? (i := 54) rfl) rfl, by decide, by decide⟩
theorem lX10_32 : mFl RX10 32 9 1 := ⟨mTbl_w kt2 (List.mem_of_getElem? (i := 55) rfl) rfl, by decide, by decide⟩
theorem lX0_51 : mFl RX0 51 9 1 := ⟨mTbl_w kt2 (List.mem_of_getElem? (i := 56) rfl) rfl, by decide, by decide⟩
theorem lX9_133 : mFl RX9 133 9 1 := ⟨mTbl_w kt2 (List.mem_of_getElem? (i := 57) rfl) rfl, by decide, by decide⟩
theorem lX11_310 : mFl RX11 310 9 1 := ⟨mTbl_w kt2 (List.mem_of_getElem? (i := 58) rfl) rfl, by decide, by decide⟩
theorem lX9_9 : mFl RX9 9 9 2 := ⟨mTbl_w kt2 (List.mem_of_getElem? (i := 59) rfl) rfl, by decide, by decide⟩
theorem lX4_30 : mFl RX4 30 9 2 := ⟨mTbl_w kt2 (List.mem_of_getElem? (i := 60) rfl) rfl, by decide, by decide⟩
theorem lX10_41 : mFl RX10 41 9 2 := ⟨mTbl_w kt2 (List.mem_of_getElem? (i := 61) rfl) rfl, by decide, by decide⟩
theorem lX0_63 : mFl RX0 63 9 2 := ⟨mTbl_w kt2 (List.mem_of_getElem? (i := 62) rfl) rfl, by decide, by decide⟩
theorem lX11_327 : mFl RX11 327 9 2 := ⟨mTbl_w kt2 (List.mem_of_getElem? (i := 63) rfl) rfl, by decide, by decide⟩
theorem lX9_15 : mFl RX9 15 9 3 := ⟨mTbl_w kt2 (List.mem_of_getElem? (i := 64) rfl) rfl, by decide, by decide⟩
theorem lX0_54 : mFl RX0 54 9 3 := ⟨mTbl_w kt2 (List.mem_of_getElem? (i := 65) rfl) rfl, by decide, by decide⟩
theorem lX9_19 : mFl RX9 19 9 4 := ⟨mTbl_w kt2 (List.mem_of_getElem? (i := 66) rfl) rfl, by decide, by decide⟩
theorem lX10_38 : mFl RX10 38 9 4 := ⟨mTbl_w kt2 (List.mem_of_getElem? (i := 67) rfl) rfl, by decide, by decide⟩
theorem lX0_60 : mFl RX0 60 9 4 := ⟨mTbl_w kt2 (List.mem_of_getElem? (i := 68) rfl) rfl, by decide, by decide⟩
theorem lX11_324 : mFl RX11 324 9 4 := ⟨mTbl_w kt2 (List.mem_of_getElem? (i := 69) rfl) rfl, by decide, by decide⟩
theorem lX9_22 : mFl RX9 22 9 5 := ⟨mTbl_w kt2 (List.mem_of_getElem? (i := 70) rfl) rfl, by decide, by decide⟩
theorem lX10_35 : mFl RX10 35 9 5 := ⟨mTbl_w kt2 (List.mem_of_getElem? (i := 71) rfl) rfl, by decide, by decide⟩
theorem lX0_57 : mFl RX0 57 9 5 := ⟨mTbl_w kt2 (List.mem_of_getElem? (i := 72) rfl) rfl, by decide, by decide⟩
theorem lX9_25 : mFl RX9 25 9 6 := ⟨mTbl_w kt2 (List.mem_of_getElem? (i := 73) rfl) rfl, by decide, by decide⟩
theorem lX9_28 : mFl RX9 28 9 7 := ⟨mTbl_w kt2 (List.mem_of_getElem? (i := 74) rfl) rfl, by decide, by decide⟩
theorem lX9_31 : mFl RX9 31 9 8 := ⟨mTbl_w kt2 (List.mem_of_getElem? (i := 75) rfl) rfl, by decide, by decide⟩
theorem lX11_9 : mFl RX11 9 11 0 := ⟨mTbl_w kt2 (List.mem_of_getElem? (i := 95) rfl) rfl, by decide, by decide⟩
theorem lX11_82 : mFl RX11 82 11 1 := ⟨mTbl_w kt2 (List.mem_of_getElem? (i := 96) rfl) rfl, by decide, by decide⟩
theorem lX11_133 : mFl RX11 133 11 2 := ⟨mTbl_w kt2 (List.mem_of_getElem? (i := 97) rfl) rfl, by decide, by decide⟩
theorem lX11_13 : mFl RX11 13 11 3 := ⟨mTbl_w kt2 (List.mem_of_getElem? (i := 98) rfl) rfl, by decide, by decide⟩
theorem lX11_20 : mFl RX11 20 11 4 := ⟨mTbl_w kt2 (List.mem_of_getElem? (i := 99) rfl) rfl, by decide, by decide⟩
theorem lX11_27 : mFl RX11 27 11 5 := ⟨mTbl_w kt2 (List.mem_of_getElem? (i := 100) rfl) rfl, by decide, by decide⟩
theorem lX11_34 : mFl RX11 34 11 6 := ⟨mTbl_w kt2 (List.mem_of_getElem? (i := 101) rfl) rfl, by decide, by decide⟩
theorem lX11_40 : mFl RX11 40 11 7 := ⟨mTbl_w kt2 (List.mem_of_getElem? (i := 102) rfl) rfl, by decide, by decide⟩
theorem lX11_46 : mFl RX11 46 11 8 := ⟨mTbl_w kt2 (List.mem_of_getElem? (i := 103) rfl) rfl, by decide, by decide⟩
theorem lX11_53 : mFl RX11 53 11 9 := ⟨mTbl_w kt2 (List.mem_of_getElem? (i := 104) rfl) rfl, by decide, by decide⟩
theorem lX11_60 : mFl RX11 60 11 10 := ⟨mTbl_w kt2 (List.mem_of_getElem? (i := 105) rfl) rfl, by decide, by decide⟩
theorem lX11_67 : mFl RX11 67 11 11 := ⟨mTbl_w kt2 (List.mem_of_getElem? (i := 106) rfl) rfl, by decide, by decide⟩
theorem lX11_74 : mFl RX11 74 11 12 := ⟨mTbl_w kt2 (List.mem_of_getElem? (i := 107) rfl) rfl, by decide, by decide⟩
theorem lX11_78 : mFl RX11 78 11 13 := ⟨mTbl_w kt2 (List.mem_of_getElem? (i := 108) rfl) rfl, by decide, by decide⟩
theorem lL_13 : Cond.methodLink RL 13 yX11_feed ∈ mTbl := mTbl_w kt2 (List.mem_of_getElem? (i := 138) rfl) rfl
theorem lX11_85 : Cond.methodLink RX11 85 yX11_putBytes ∈ mTbl := mTbl_w kt2 (List.mem_of_getElem? (i := 142) rfl) rfl
theorem lL_18 : Cond.methodLink RL 18 yX11_end ∈ mTbl := mTbl_w kt2 (List.mem_of_getElem? (i := 146) rfl) rfl
theorem lL_23 : Cond.methodLink RL 23 yX11_book ∈ mTbl := mTbl_w kt2 (List.mem_of_getElem? (i := 150) rfl) rfl
theorem lX11_89 : Cond.methodLink RX11 89 yX7_readBook ∈ mTbl := mTbl_w kt2 (List.mem_of_getElem? (i := 154) rfl) rfl
theorem lX7_31 : Cond.methodLink RX7 31 yX7_open ∈ mTbl := mTbl_w kt2 (List.mem_of_getElem? (i := 158) rfl) rfl
theorem lX7_66 : Cond.methodLink RX7 66 yJ9_min_7cf53 ∈ mTbl := mTbl_w kt2 (List.mem_of_getElem? (i := 162) rfl) rfl
theorem lX7_81 : Cond.methodLink RX7 81 yX7_step ∈ mTbl := mTbl_w kt2 (List.mem_of_getElem? (i := 165) rfl) rfl
theorem lX7_129 : (RX7, 129, yX11_isLetter) ∈ mNst := List.mem_of_getElem? (i := 9) rfl
theorem lX7_133 : Cond.methodLink RX7 133 yX7_takeLetters ∈ mTbl := mTbl_w kt2 (List.mem_of_getElem? (i := 172) rfl) rfl
theorem lX7_136 : (RX7, 136, yX11_isDigit) ∈ mNst := List.mem_of_getElem? (i := 10) rfl
theorem lX7_139 : Cond.methodLink RX7 139 yX7_takeDigits ∈ mTbl := mTbl_w kt2 (List.mem_of_getElem? (i := 179) rfl) rfl
theorem lX7_142 : Cond.methodLink RX7 142 yX7_isSign ∈ mTbl := mTbl_w kt2 (List.mem_of_getElem? (i := 183) rfl) rfl
theorem lX7_42 : Cond.constantLong RX7 42 (439854918756) ∈ mTbl := mTbl_w kt2 (List.mem_of_getElem? (i := 186) rfl) rfl
theorem lX7_44 : Cond.methodLink RX7 44 yX7_isWord ∈ mTbl := mTbl_w kt2 (List.mem_of_getElem? (i := 187) rfl) rfl
theorem lX7_51 : Cond.methodLink RX7 51 yX7_readField ∈ mTbl := mTbl_w kt2 (List.mem_of_getElem? (i := 191) rfl) rfl
theorem lX7_87 : Cond.methodLink RX7 87 yX7_isName ∈ mTbl := mTbl_w kt2 (List.mem_of_getElem? (i := 195) rfl) rfl
theorem lX7_54 : Cond.constantLong RX7 54 (1885431653) ∈ mTbl := mTbl_w kt2 (List.mem_of_getElem? (i := 199) rfl) rfl
theorem lX7_99 : Cond.constantLong RX7 99 (28518) ∈ mTbl := mTbl_w kt2 (List.mem_of_getElem? (i := 200) rfl) rfl
theorem lX7_113 : Cond.constantLong RX7 113 (1835101817) ∈ mTbl := mTbl_w kt2 (List.mem_of_getElem? (i := 201) rfl) rfl
theorem lX7_125 : Cond.constantLong RX7 125 (6647396) ∈ mTbl := mTbl_w kt2 (List.mem_of_getElem? (i := 202) rfl) rfl
theorem lX7_62 : Cond.methodLink RX7 62 yX7_refuse ∈ mTbl := mTbl_w kt2 (List.mem_of_getElem? (i := 203) rfl) rfl
theorem lX7_95 : Cond.methodLink RX7 95 yX1_find ∈ mTbl := mTbl_w kt2 (List.mem_of_getElem? (i := 207) rfl) rfl
theorem lX7_101 : Cond.methodLink RX7 101 yX7_readParent ∈ mTbl := mTbl_w kt2 (List.mem_of_getElem? (i := 211) rfl) rfl
theorem lX7_105 : Cond.methodLink RX7 105 yX7_readRest ∈ mTbl := mTbl_w kt2 (List.mem_of_getElem? (i := 215) rfl) rfl
theorem lX7_115 : Cond.methodLink RX7 115 yX7_isSemicolon ∈ mTbl := mTbl_w kt2 (List.mem_of_getElem? (i := 219) rfl) rfl
theorem lX7_127 : Cond.constantLong RX7 127 (59) ∈ mTbl := mTbl_w kt2 (List.mem_of_getElem? (i := 223) rfl) rfl
theorem lX7_118 : Cond.methodLink RX7 118 yX1_add ∈ mTbl := mTbl_w kt2 (List.mem_of_getElem? (i := 224) rfl) rfl
theorem lX7_59 : Cond.methodLink RX7 59 yX7_readPage ∈ mTbl := mTbl_w kt2 (List.mem_of_getElem? (i := 228) rfl) rfl
theorem lX7_122 : Cond.methodLink RX7 122 yX7_isOfPage ∈ mTbl := mTbl_w kt2 (List.mem_of_getElem? (i := 232) rfl) rfl
theorem lX11_93 : Cond.methodLink RX11 93 yX11_noteReading ∈ mTbl := mTbl_w kt2 (List.mem_of_getElem? (i := 236) rfl) rfl
theorem lX11_97 : Cond.methodLink RX11 97 yX3_restart ∈ mTbl := mTbl_w kt3 (List.mem_of_getElem? (i := 0) rfl) rfl
theorem lX3_35 : Cond.methodLink RX3 35 yX3_now ∈ mTbl := mTbl_w kt3 (List.mem_of_getElem? (i := 4) rfl) rfl
theorem lX3_31 : Cond.methodLink RX3 31 yX3_stateAt ∈ mTbl := mTbl_w kt3 (List.mem_of_getElem? (i := 8) rfl) rfl
theorem lX3_22 : Cond.methodLink RX3 22 yJ9_floorMod_7cf53 ∈ mTbl := mTbl_w kt3 (List.mem_of_getElem? (i := 12) rfl) rfl
theorem lX3_46 : Cond.methodLink RX3 46 yX8_clear ∈ mTbl := mTbl_w kt3 (List.mem_of_getElem? (i := 15) rfl) rfl
theorem lX8_40 : Cond.methodLink RX8 40 yJ7_fill_d0a16 ∈ mTbl := mTbl_w kt3 (List.mem_of_getElem? (i := 19) rfl) rfl
theorem lX3_42 : Cond.methodLink RX3 42 yX8_copyFrom ∈ mTbl := mTbl_w kt3 (List.mem_of_getElem? (i := 22) rfl) rfl
theorem lX8_30 : Cond.methodLink RX8 30 arraycopyName ∈ mTbl := mTbl_w kt3 (List.mem_of_getElem? (i := 26) rfl) rfl
theorem lX11_101 : Cond.methodLink RX11 101 yX3_now ∈ mTbl := mTbl_w kt3 (List.mem_of_getElem? (i := 29) rfl) rfl
theorem lX11_116 : Cond.methodLink RX11 116 yX8_addPage ∈ mTbl := mTbl_w kt3 (List.mem_of_getElem? (i := 30) rfl) rfl
theorem lX8_46 : Cond.methodLink RX8 46 yX6_init ∈ mTbl := mTbl_w kt3 (List.mem_of_getElem? (i := 35) rfl) rfl
theorem lX6_3 : Cond.methodLink RX6 3 objectInit ∈ mTbl := mTbl_w kt3 (List.mem_of_getElem? (i := 38) rfl) rfl
theorem lX6_9 : Cond.methodLink RX6 9 yJ9_min_7cf53 ∈ mTbl := mTbl_w kt3 (List.mem_of_getElem? (i := 39) rfl) rfl
theorem lX6_15 : Cond.methodLink RX6 15 yJ9_max_7cf53 ∈ mTbl := mTbl_w kt3 (List.mem_of_getElem? (i := 40) rfl) rfl
theorem lX6_24 : Cond.methodLink RX6 24 yJ7_copyOf_c38d5 ∈ mTbl := mTbl_w kt3 (List.mem_of_getElem? (i := 43) rfl) rfl
theorem lJ7_319 : Cond.methodLink RJ7 319 ⟨"[J", "clone", "()Ljava/lang/Object;"⟩ ∈ mTbl := mTbl_w kt3 (List.mem_of_getElem? (i := 46) rfl) rfl
theorem lJ7_320 : Cond.classLink RJ7 320 "[J" ∈ mTbl := mTbl_w kt3 (List.mem_of_getElem? (i := 52) rfl) rfl
theorem lJ7_304 : Cond.methodLink RJ7 304 yJ9_min_7cf53 ∈ mTbl := mTbl_w kt3 (List.mem_of_getElem? (i := 53) rfl) rfl
theorem lJ7_150 : Cond.methodLink RJ7 150 arraycopyName ∈ mTbl := mTbl_w kt3 (List.mem_of_getElem? (i := 54) rfl) rfl
theorem lX6_44 : (RX6, 44, yX11_kindOf) ∈ mNst := List.mem_of_getElem? (i := 11) rfl
theorem lX11_435 : Cond.constantLong RX11 435 (255) ∈ mTbl := mTbl_w kt3 (List.mem_of_getElem? (i := 58) rfl) rfl
theorem lX11_437 : Cond.methodLink RX11 437 yX11_isLetter ∈ mTbl := mTbl_w kt3 (List.mem_of_getElem? (i := 59) rfl) rfl
theorem lX11_440 : Cond.methodLink RX11 440 yX11_isDigit ∈ mTbl := mTbl_w kt3 (List.mem_of_getElem? (i := 60) rfl) rfl
theorem lX6_48 : Cond.methodLink RX6 48 yX6_numberIn ∈ mTbl := mTbl_w kt3 (List.mem_of_getElem? (i := 61) rfl) rfl
theorem lX6_18 : mFl RX6 18 6 0 := ⟨mTbl_w kt3 (List.mem_of_getElem? (i := 64) rfl) rfl, by decide, by decide⟩
theorem lX2_21 : mFl RX2 21 6 0 := ⟨mTbl_w kt3 (List.mem_of_getElem? (i := 65) rfl) rfl, by decide, by decide⟩
theorem lX5_33 : mFl RX5 33 6 0 := ⟨mTbl_w kt3 (List.mem_of_getElem? (i := 66) rfl) rfl, by decide, by decide⟩
theorem lX11_180 : mFl RX11 180 6 0 := ⟨mTbl_w kt3 (List.mem_of_getElem? (i := 67) rfl) rfl, by decide, by decide⟩
theorem lX6_30 : mFl RX6 30 6 1 := ⟨mTbl_w kt3 (List.mem_of_getElem? (i := 68) rfl) rfl, by decide, by decide⟩
theorem lX5_36 : mFl RX5 36 6 1 := ⟨mTbl_w kt3 (List.mem_of_getElem? (i := 69) rfl) rfl, by decide, by decide⟩
theorem lX11_191 : mFl RX11 191 6 1 := ⟨mTbl_w kt3 (List.mem_of_getElem? (i := 70) rfl) rfl, by decide, by decide⟩
theorem lX6_34 : mFl RX6 34 6 2 := ⟨mTbl_w kt3 (List.mem_of_getElem? (i := 71) rfl) rfl, by decide, by decide⟩
theorem lX11_185 : mFl RX11 185 6 2 := ⟨mTbl_w kt3 (List.mem_of_getElem? (i := 72) rfl) rfl, by decide, by decide⟩
theorem lX6_38 : mFl RX6 38 6 3 := ⟨mTbl_w kt3 (List.mem_of_getElem? (i := 73) rfl) rfl, by decide, by decide⟩
theorem lX11_188 : mFl RX11 188 6 3 := ⟨mTbl_w kt3 (List.mem_of_getElem? (i := 74) rfl) rfl, by decide, by decide⟩
theorem lX6_41 : mFl RX6 41 6 4 := ⟨mTbl_w kt3 (List.mem_of_getElem? (i := 75) rfl) rfl, by decide, by decide⟩
theorem lX8_53 : mFl RX8 53 6 4 := ⟨mTbl_w kt3 (List.mem_of_getElem? (i := 76) rfl) rfl, by decide, by decide⟩
theorem lX11_120 : Cond.methodLink RX11 120 yX11_forgetFindings ∈ mTbl := mTbl_w kt3 (List.mem_of_getElem? (i := 88) rfl) rfl
theorem lX11_246 : Cond.methodLink RX11 246 yX10_forget ∈ mTbl := mTbl_w kt3 (List.mem_of_getElem? (i := 92) rfl) rfl
theorem lL_28 : Cond.methodLink RL 28 yX11_page ∈ mTbl := mTbl_w kt3 (List.mem_of_getElem? (i := 96) rfl) rfl
theorem lX11_124 : Cond.methodLink RX11 124 yX7_readOnePage ∈ mTbl := mTbl_w kt3 (List.mem_of_getElem? (i := 100) rfl) rfl
theorem lX11_127 : Cond.methodLink RX11 127 yX3_begin ∈ mTbl := mTbl_w kt3 (List.mem_of_getElem? (i := 104) rfl) rfl
theorem lL_32 : Cond.methodLink RL 32 yX11_fault ∈ mTbl := mTbl_w kt3 (List.mem_of_getElem? (i := 108) rfl) rfl
theorem lL_36 : Cond.methodLink RL 36 yX11_field ∈ mTbl := mTbl_w kt3 (List.mem_of_getElem? (i := 112) rfl) rfl
theorem lX11_139 : Cond.methodLink RX11 139 yX1_has ∈ mTbl := mTbl_w kt3 (List.mem_of_getElem? (i := 116) rfl) rfl
theorem lX11_154 : Cond.methodLink RX11 154 yX8_examplesOf ∈ mTbl := mTbl_w kt3 (List.mem_of_getElem? (i := 120) rfl) rfl
theorem lX8_60 : Cond.methodLink RX8 60 yX8_isExample ∈ mTbl := mTbl_w kt3 (List.mem_of_getElem? (i := 124) rfl) rfl
theorem lX8_56 : (RX8, 56, yX11_spotOf) ∈ mNst := List.mem_of_getElem? (i := 12) rfl
theorem lL_41 : Cond.methodLink RL 41 yX11_tokens ∈ mTbl := mTbl_w kt3 (List.mem_of_getElem? (i := 131) rfl) rfl
theorem lX11_176 : Cond.methodLink RX11 176 yX8_pageAt ∈ mTbl := mTbl_w kt3 (List.mem_of_getElem? (i := 135) rfl) rfl
theorem lL_45 : Cond.methodLink RL 45 yX11_token ∈ mTbl := mTbl_w kt3 (List.mem_of_getElem? (i := 139) rfl) rfl
theorem lX11_194 : Cond.methodLink RX11 194 yX11_sizeOf ∈ mTbl := mTbl_w kt3 (List.mem_of_getElem? (i := 143) rfl) rfl
theorem lL_50 : Cond.methodLink RL 50 yX11_mark ∈ mTbl := mTbl_w kt3 (List.mem_of_getElem? (i := 146) rfl) rfl
theorem lX11_198 : Cond.methodLink RX11 198 yX11_spotOf ∈ mTbl := mTbl_w kt3 (List.mem_of_getElem? (i := 150) rfl) rfl
theorem lX11_208 : Cond.methodLink RX11 208 yX11_hasRoom ∈ mTbl := mTbl_w kt3 (List.mem_of_getElem? (i := 151) rfl) rfl
theorem lX11_221 : Cond.methodLink RX11 221 yX11_below ∈ mTbl := mTbl_w kt3 (List.mem_of_getElem? (i := 155) rfl) rfl
theorem lX11_225 : Cond.constantLong RX11 225 (-1) ∈ mTbl := mTbl_w kt3 (List.mem_of_getElem? (i := 158) rfl) rfl
theorem lX11_216 : Cond.methodLink RX11 216 yJ13_bitCount_95d88 ∈ mTbl := mTbl_w kt3 (List.mem_of_getElem? (i := 159) rfl) rfl
theorem lJ13_314 : Cond.constantLong RJ13 314 (6148914691236517205) ∈ mTbl := mTbl_w kt3 (List.mem_of_getElem? (i := 162) rfl) rfl
theorem lJ13_316 : Cond.constantLong RJ13 316 (3689348814741910323) ∈ mTbl := mTbl_w kt3 (List.mem_of_getElem? (i := 163) rfl) rfl
theorem lJ13_318 : Cond.constantLong RJ13 318 (1085102592571150095) ∈ mTbl := mTbl_w kt3 (List.mem_of_getElem? (i := 164) rfl) rfl
theorem lX11_212 : Cond.methodLink RX11 212 yX11_withinParent ∈ mTbl := mTbl_w kt3 (List.mem_of_getElem? (i := 165) rfl) rfl
theorem lX11_227 : Cond.methodLink RX11 227 yX11_lowest ∈ mTbl := mTbl_w kt3 (List.mem_of_getElem? (i := 169) rfl) rfl
theorem lL_55 : Cond.methodLink RL 55 yX11_unmark ∈ mTbl := mTbl_w kt3 (List.mem_of_getElem? (i := 172) rfl) rfl
theorem lX11_230 : Cond.methodLink RX11 230 yX8_isExample ∈ mTbl := mTbl_w kt3 (List.mem_of_getElem? (i := 176) rfl) rfl
theorem lX11_235 : Cond.methodLink RX11 235 yX1_lineOf ∈ mTbl := mTbl_w kt3 (List.mem_of_getElem? (i := 177) rfl) rfl
theorem lX1_27 : Cond.methodLink RX1 27 yX1_has ∈ mTbl := mTbl_w kt3 (List.mem_of_getElem? (i := 181) rfl) rfl
theorem lL_59 : Cond.methodLink RL 59 yX11_learn ∈ mTbl := mTbl_w kt3 (List.mem_of_getElem? (i := 182) rfl) rfl
theorem lX11_238 : Cond.methodLink RX11 238 yX11_whatIsLearntNow ∈ mTbl := mTbl_w kt3 (List.mem_of_getElem? (i := 186) rfl) rfl
theorem lX11_249 : Cond.methodLink RX11 249 yX11_tableOf ∈ mTbl := mTbl_w kt3 (List.mem_of_getElem? (i := 190) rfl) rfl
theorem lX11_408 : Cond.methodLink RX11 408 yX9_collect ∈ mTbl := mTbl_w kt3 (List.mem_of_getElem? (i := 194) rfl) rfl
theorem lX9_40 : Cond.methodLink RX9 40 yX8_pageAt ∈ mTbl := mTbl_w kt3 (List.mem_of_getElem? (i := 198) rfl) rfl
theorem lX9_44 : Cond.methodLink RX9 44 yX8_isExample ∈ mTbl := mTbl_w kt3 (List.mem_of_getElem? (i := 199) rfl) rfl
theorem lX9_53 : Cond.methodLink RX9 53 yX2_layMarked ∈ mTbl := mTbl_w kt3 (List.mem_of_getElem? (i := 200) rfl) rfl
theorem lX2_38 : Cond.methodLink RX2 38 yX8_pageAt ∈ mTbl := mTbl_w kt3 (List.mem_of_getElem? (i := 204) rfl) rfl
theorem lX2_44 : Cond.methodLink RX2 44 yX2_lay ∈ mTbl := mTbl_w kt3 (List.mem_of_getElem? (i := 205) rfl) rfl
theorem lX2_15 : Cond.methodLink RX2 15 yJ7_fill_d0a16 ∈ mTbl := mTbl_w kt3 (List.mem_of_getElem? (i := 209) rfl) rfl
theorem lX2_27 : Cond.methodLink RX2 27 yX6_itemAt ∈ mTbl := mTbl_w kt3 (List.mem_of_getElem? (i := 210) rfl) rfl
theorem lX2_31 : Cond.methodLink RX2 31 yX2_stand ∈ mTbl := mTbl_w kt3 (List.mem_of_getElem? (i := 214) rfl) rfl
theorem lX2_35 : Cond.methodLink RX2 35 yX2_within ∈ mTbl := mTbl_w kt3 (List.mem_of_getElem? (i := 218) rfl) rfl
theorem lX2_48 : (RX2, 48, yX11_spotOf) ∈ mNst := List.mem_of_getElem? (i := 13) rfl
theorem lX2_55 : (RX2, 55, yX11_lowest) ∈ mNst := List.mem_of_getElem? (i := 14) rfl
theorem lX9_62 : (RX9, 62, yX11_spotOf) ∈ mNst := List.mem_of_getElem? (i := 15) rfl
theorem lX9_66 : (RX9, 66, yX11_lowest) ∈ mNst := List.mem_of_getElem? (i := 16) rfl
theorem lX9_73 : Cond.methodLink RX9 73 yX9_pileRules ∈ mTbl := mTbl_w kt3 (List.mem_of_getElem? (i := 226) rfl) rfl
theorem lX9_89 : Cond.methodLink RX9 89 yX6_itemAt ∈ mTbl := mTbl_w kt3 (List.mem_of_getElem? (i := 230) rfl) rfl
theorem lX9_95 : (RX9, 95, yX11_ruleOf) ∈ mNst := List.mem_of_getElem? (i := 17) rfl
theorem lX11_443 : Cond.methodLink RX11 443 yX11_costOfItem ∈ mTbl := mTbl_w kt3 (List.mem_of_getElem? (i := 234) rfl) rfl
theorem lX9_99 : Cond.methodLink RX9 99 yX9_pileFars ∈ mTbl := mTbl_w kt3 (List.mem_of_getElem? (i := 237) rfl) rfl
theorem lX9_103 : Cond.methodLink RX9 103 yX9_pileUp ∈ mTbl := mTbl_w kt4 (List.mem_of_getElem? (i := 1) rfl) rfl
theorem lX9_114 : Cond.methodLink RX9 114 yJ7_copyOf_c38d5 ∈ mTbl := mTbl_w kt4 (List.mem_of_getElem? (i := 5) rfl) rfl
theorem lX9_107 : Cond.methodLink RX9 107 yX2_isNewAt ∈ mTbl := mTbl_w kt4 (List.mem_of_getElem? (i := 6) rfl) rfl
theorem lX9_110 : (RX9, 110, yX11_withFar) ∈ mNst := List.mem_of_getElem? (i := 18) rfl
theorem lX11_446 : Cond.constantLong RX11 446 (3) ∈ mTbl := mTbl_w kt4 (List.mem_of_getElem? (i := 13) rfl) rfl
theorem lX11_448 : Cond.constantLong RX11 448 (2) ∈ mTbl := mTbl_w kt4 (List.mem_of_getElem? (i := 14) rfl) rfl
theorem lX9_77 : Cond.methodLink RX9 77 yX9_sortPile ∈ mTbl := mTbl_w kt4 (List.mem_of_getElem? (i := 15) rfl) rfl
theorem lX9_120 : Cond.methodLink RX9 120 yJ9_min_7cf53 ∈ mTbl := mTbl_w kt4 (List.mem_of_getElem? (i := 19) rfl) rfl
theorem lX9_125 : Cond.methodLink RX9 125 yX9_merge ∈ mTbl := mTbl_w kt4 (List.mem_of_getElem? (i := 20) rfl) rfl
theorem lX9_80 : Cond.methodLink RX9 80 yX9_takeUnlike ∈ mTbl := mTbl_w kt4 (List.mem_of_getElem? (i := 24) rfl) rfl
theorem lX9_129 : Cond.methodLink RX9 129 yX9_makeRoom ∈ mTbl := mTbl_w kt4 (List.mem_of_getElem? (i := 28) rfl) rfl
theorem lX9_138 : Cond.methodLink RX9 138 yJ9_max_7cf53 ∈ mTbl := mTbl_w kt4 (List.mem_of_getElem? (i := 32) rfl) rfl
theorem lX9_136 : Cond.constantLong RX9 136 (63) ∈ mTbl := mTbl_w kt4 (List.mem_of_getElem? (i := 33) rfl) rfl
theorem lX11_412 : Cond.methodLink RX11 412 yX9_judge ∈ mTbl := mTbl_w kt4 (List.mem_of_getElem? (i := 34) rfl) rfl
theorem lX9_141 : Cond.methodLink RX9 141 yJ7_fill_53178 ∈ mTbl := mTbl_w kt4 (List.mem_of_getElem? (i := 38) rfl) rfl
theorem lX9_149 : Cond.methodLink RX9 149 yX2_slice ∈ mTbl := mTbl_w kt4 (List.mem_of_getElem? (i := 41) rfl) rfl
theorem lX2_85 : Cond.methodLink RX2 85 yX2_findPart ∈ mTbl := mTbl_w kt4 (List.mem_of_getElem? (i := 45) rfl) rfl
theorem lX2_92 : (RX2, 92, yX11_itemOf) ∈ mNst := List.mem_of_getElem? (i := 19) rfl
theorem lX2_96 : Cond.methodLink RX2 96 yX2_standing ∈ mTbl := mTbl_w kt4 (List.mem_of_getElem? (i := 52) rfl) rfl
theorem lX9_153 : Cond.methodLink RX9 153 yX2_verdict ∈ mTbl := mTbl_w kt4 (List.mem_of_getElem? (i := 56) rfl) rfl
theorem lX11_253 : Cond.methodLink RX11 253 yX0_solve ∈ mTbl := mTbl_w kt4 (List.mem_of_getElem? (i := 60) rfl) rfl
theorem lX0_27 : Cond.methodLink RX0 27 yX0_findFirsts ∈ mTbl := mTbl_w kt4 (List.mem_of_getElem? (i := 64) rfl) rfl
theorem lX0_45 : Cond.methodLink RX0 45 yJ7_fill_53178 ∈ mTbl := mTbl_w kt4 (List.mem_of_getElem? (i := 68) rfl) rfl
theorem lX0_35 : Cond.methodLink RX0 35 yX0_pickFor ∈ mTbl := mTbl_w kt4 (List.mem_of_getElem? (i := 69) rfl) rfl
theorem lX0_67 : (RX0, 67, yX11_costOf) ∈ mNst := List.mem_of_getElem? (i := 20) rfl
theorem lX0_71 : Cond.methodLink RX0 71 yX0_isBetter ∈ mTbl := mTbl_w kt4 (List.mem_of_getElem? (i := 76) rfl) rfl
theorem lX11_159 : Cond.classLink RX11 159 (mCn 4) ∈ mTbl := mTbl_w kt4 (List.mem_of_getElem? (i := 80) rfl) rfl
theorem lX11_257 : Cond.methodLink RX11 257 yX4_init ∈ mTbl := mTbl_w kt4 (List.mem_of_getElem? (i := 82) rfl) rfl
theorem lX4_3 : Cond.methodLink RX4 3 objectInit ∈ mTbl := mTbl_w kt4 (List.mem_of_getElem? (i := 85) rfl) rfl
theorem lX4_20 : Cond.methodLink RX4 20 yJ9_max_7cf53 ∈ mTbl := mTbl_w kt4 (List.mem_of_getElem? (i := 86) rfl) rfl
theorem lX4_42 : (RX4, 42, yX11_spotOf) ∈ mNst := List.mem_of_getElem? (i := 21) rfl
theorem lX4_45 : Cond.methodLink RX4 45 yX8_pageAt ∈ mTbl := mTbl_w kt4 (List.mem_of_getElem? (i := 88) rfl) rfl
theorem lX4_55 : Cond.methodLink RX4 55 yX4_measure ∈ mTbl := mTbl_w kt4 (List.mem_of_getElem? (i := 89) rfl) rfl
theorem lX4_72 : Cond.methodLink RX4 72 yJ13_bitCount_95d88 ∈ mTbl := mTbl_w kt4 (List.mem_of_getElem? (i := 93) rfl) rfl
theorem lX4_78 : (RX4, 78, yX11_nth) ∈ mNst := List.mem_of_getElem? (i := 22) rfl
theorem lX4_82 : Cond.methodLink RX4 82 yJ9_min_7cf53 ∈ mTbl := mTbl_w kt4 (List.mem_of_getElem? (i := 97) rfl) rfl
theorem lX4_91 : Cond.methodLink RX4 91 yX6_kindAt ∈ mTbl := mTbl_w kt4 (List.mem_of_getElem? (i := 98) rfl) rfl
theorem lX4_62 : Cond.methodLink RX4 62 yJ7_fill_53178 ∈ mTbl := mTbl_w kt4 (List.mem_of_getElem? (i := 102) rfl) rfl
theorem lX4_68 : Cond.methodLink RX4 68 yX4_weave ∈ mTbl := mTbl_w kt4 (List.mem_of_getElem? (i := 103) rfl) rfl
theorem lX4_26 : mFl RX4 26 4 0 := ⟨mTbl_w kt4 (List.mem_of_getElem? (i := 107) rfl) rfl, by decide, by decide⟩
theorem lX2_73 : mFl RX2 73 4 0 := ⟨mTbl_w kt4 (List.mem_of_getElem? (i := 108) rfl) rfl, by decide, by decide⟩
theorem lX11_158 : mFl RX11 158 4 0 := ⟨mTbl_w kt4 (List.mem_of_getElem? (i := 109) rfl) rfl, by decide, by decide⟩
theorem lX4_59 : mFl RX4 59 4 1 := ⟨mTbl_w kt4 (List.mem_of_getElem? (i := 110) rfl) rfl, by decide, by decide⟩
theorem lX11_351 : mFl RX11 351 4 1 := ⟨mTbl_w kt4 (List.mem_of_getElem? (i := 111) rfl) rfl, by decide, by decide⟩
theorem lX4_9 : mFl RX4 9 4 2 := ⟨mTbl_w kt4 (List.mem_of_getElem? (i := 112) rfl) rfl, by decide, by decide⟩
theorem lX11_164 : mFl RX11 164 4 2 := ⟨mTbl_w kt4 (List.mem_of_getElem? (i := 113) rfl) rfl, by decide, by decide⟩
theorem lX4_85 : mFl RX4 85 4 3 := ⟨mTbl_w kt4 (List.mem_of_getElem? (i := 114) rfl) rfl, by decide, by decide⟩
theorem lX11_167 : mFl RX11 167 4 3 := ⟨mTbl_w kt4 (List.mem_of_getElem? (i := 115) rfl) rfl, by decide, by decide⟩
theorem lX4_88 : mFl RX4 88 4 4 := ⟨mTbl_w kt4 (List.mem_of_getElem? (i := 116) rfl) rfl, by decide, by decide⟩
theorem lX11_170 : mFl RX11 170 4 4 := ⟨mTbl_w kt4 (List.mem_of_getElem? (i := 117) rfl) rfl, by decide, by decide⟩
theorem lX4_97 : mFl RX4 97 4 5 := ⟨mTbl_w kt4 (List.mem_of_getElem? (i := 118) rfl) rfl, by decide, by decide⟩
theorem lX11_173 : mFl RX11 173 4 5 := ⟨mTbl_w kt4 (List.mem_of_getElem? (i := 119) rfl) rfl, by decide, by decide⟩
theorem lX11_242 : Cond.methodLink RX11 242 yX11_keepLearnt ∈ mTbl := mTbl_w kt4 (List.mem_of_getElem? (i := 133) rfl) rfl
theorem lL_63 : Cond.methodLink RL 63 yX11_take ∈ mTbl := mTbl_w kt4 (List.mem_of_getElem? (i := 137) rfl) rfl
theorem lX11_260 : Cond.methodLink RX11 260 yX11_proposalFor ∈ mTbl := mTbl_w kt4 (List.mem_of_getElem? (i := 141) rfl) rfl
theorem lX11_332 : Cond.methodLink RX11 332 yX11_learntFor ∈ mTbl := mTbl_w kt4 (List.mem_of_getElem? (i := 145) rfl) rfl
theorem lX11_276 : Cond.methodLink RX11 276 yX11_known ∈ mTbl := mTbl_w kt4 (List.mem_of_getElem? (i := 149) rfl) rfl
theorem lX11_380 : Cond.methodLink RX11 380 yX11_countVotes ∈ mTbl := mTbl_w kt4 (List.mem_of_getElem? (i := 153) rfl) rfl
theorem lX11_415 : Cond.methodLink RX11 415 yX2_lay ∈ mTbl := mTbl_w kt4 (List.mem_of_getElem? (i := 157) rfl) rfl
theorem lX11_335 : Cond.methodLink RX11 335 yX11_slicePage ∈ mTbl := mTbl_w kt4 (List.mem_of_getElem? (i := 158) rfl) rfl
theorem lX11_368 : Cond.methodLink RX11 368 yX2_sliceBy ∈ mTbl := mTbl_w kt4 (List.mem_of_getElem? (i := 162) rfl) rfl
theorem lX2_78 : Cond.methodLink RX2 78 yX2_slice ∈ mTbl := mTbl_w kt4 (List.mem_of_getElem? (i := 166) rfl) rfl
theorem lX11_419 : Cond.methodLink RX11 419 yX2_within ∈ mTbl := mTbl_w kt4 (List.mem_of_getElem? (i := 167) rfl) rfl
theorem lX11_428 : Cond.methodLink RX11 428 yX10_countAll ∈ mTbl := mTbl_w kt4 (List.mem_of_getElem? (i := 168) rfl) rfl
theorem lX10_44 : Cond.methodLink RX10 44 yX2_slice ∈ mTbl := mTbl_w kt4 (List.mem_of_getElem? (i := 172) rfl) rfl
theorem lX10_55 : Cond.methodLink RX10 55 yX10_vote ∈ mTbl := mTbl_w kt4 (List.mem_of_getElem? (i := 173) rfl) rfl
theorem lX10_59 : Cond.methodLink RX10 59 yX10_makeRoom ∈ mTbl := mTbl_w kt4 (List.mem_of_getElem? (i := 177) rfl) rfl
theorem lX10_62 : Cond.methodLink RX10 62 yJ7_copyOf_c38d5 ∈ mTbl := mTbl_w kt4 (List.mem_of_getElem? (i := 181) rfl) rfl
theorem lX10_68 : Cond.methodLink RX10 68 yJ7_copyOf_59c91 ∈ mTbl := mTbl_w kt4 (List.mem_of_getElem? (i := 182) rfl) rfl
theorem lJ7_316 : Cond.methodLink RJ7 316 ⟨"[I", "clone", "()Ljava/lang/Object;"⟩ ∈ mTbl := mTbl_w kt4 (List.mem_of_getElem? (i := 185) rfl) rfl
theorem lJ7_317 : Cond.classLink RJ7 317 "[I" ∈ mTbl := mTbl_w kt4 (List.mem_of_getElem? (i := 189) rfl) rfl
theorem lX11_385 : Cond.methodLink RX11 385 yX10_strongest ∈ mTbl := mTbl_w kt4 (List.mem_of_getElem? (i := 190) rfl) rfl
theorem lX10_71 : Cond.methodLink RX10 71 yX4_misfit ∈ mTbl := mTbl_w kt4 (List.mem_of_getElem? (i := 194) rfl) rfl
theorem lX4_100 : Cond.methodLink RX4 100 yX4_misfitOf ∈ mTbl := mTbl_w kt4 (List.mem_of_getElem? (i := 198) rfl) rfl
theorem lL_67 : Cond.methodLink RL 67 yX11_undo ∈ mTbl := mTbl_w kt4 (List.mem_of_getElem? (i := 202) rfl) rfl
theorem lX11_265 : Cond.methodLink RX11 265 yX3_stepBack ∈ mTbl := mTbl_w kt4 (List.mem_of_getElem? (i := 206) rfl) rfl
theorem lL_72 : Cond.methodLink RL 72 yX11_redo ∈ mTbl := mTbl_w kt4 (List.mem_of_getElem? (i := 210) rfl) rfl
theorem lX11_269 : Cond.methodLink RX11 269 yX3_stepOn ∈ mTbl := mTbl_w kt4 (List.mem_of_getElem? (i := 214) rfl) rfl
theorem lL_76 : Cond.methodLink RL 76 yX11_marked ∈ mTbl := mTbl_w kt4 (List.mem_of_getElem? (i := 218) rfl) rfl
theorem lX11_279 : Cond.methodLink RX11 279 yX11_partOf ∈ mTbl := mTbl_w kt4 (List.mem_of_getElem? (i := 222) rfl) rfl
theorem lX11_432 : Cond.methodLink RX11 432 yX11_nth ∈ mTbl := mTbl_w kt4 (List.mem_of_getElem? (i := 225) rfl) rfl
theorem lL_80 : Cond.methodLink RL 80 yX11_rule ∈ mTbl := mTbl_w kt4 (List.mem_of_getElem? (i := 226) rfl) rfl
theorem lX11_283 : Cond.methodLink RX11 283 yX11_detailOf ∈ mTbl := mTbl_w kt4 (List.mem_of_getElem? (i := 230) rfl) rfl
theorem lX11_450 : Cond.methodLink RX11 450 yX11_costOf ∈ mTbl := mTbl_w kt4 (List.mem_of_getElem? (i := 233) rfl) rfl
theorem lX11_453 : Cond.methodLink RX11 453 yX11_itemOf ∈ mTbl := mTbl_w kt4 (List.mem_of_getElem? (i := 234) rfl) rfl
theorem lL_84 : Cond.methodLink RL 84 yX11_tries ∈ mTbl := mTbl_w kt4 (List.mem_of_getElem? (i := 235) rfl) rfl
theorem lX11_287 : Cond.methodLink RX11 287 yX11_isItem ∈ mTbl := mTbl_w kt4 (List.mem_of_getElem? (i := 239) rfl) rfl
theorem lX11_306 : Cond.methodLink RX11 306 yX8_unlikeTokens ∈ mTbl := mTbl_w kt5 (List.mem_of_getElem? (i := 3) rfl) rfl
theorem lX8_49 : Cond.methodLink RX8 49 yX8_pageAt ∈ mTbl := mTbl_w kt5 (List.mem_of_getElem? (i := 7) rfl) rfl
theorem lX11_290 : Cond.methodLink RX11 290 yX2_layMarked ∈ mTbl := mTbl_w kt5 (List.mem_of_getElem? (i := 8) rfl) rfl
theorem lX11_294 : Cond.methodLink RX11 294 yX11_ruleOf ∈ mTbl := mTbl_w kt5 (List.mem_of_getElem? (i := 9) rfl) rfl
theorem lX11_298 : Cond.methodLink RX11 298 yX2_slice ∈ mTbl := mTbl_w kt5 (List.mem_of_getElem? (i := 10) rfl) rfl
theorem lX11_302 : Cond.methodLink RX11 302 yX2_verdict ∈ mTbl := mTbl_w kt5 (List.mem_of_getElem? (i := 11) rfl) rfl
theorem lL_89 : Cond.methodLink RL 89 yX11_could ∈ mTbl := mTbl_w kt5 (List.mem_of_getElem? (i := 12) rfl) rfl
theorem lX11_311 : Cond.methodLink RX11 311 yX9_goodOnes ∈ mTbl := mTbl_w kt5 (List.mem_of_getElem? (i := 16) rfl) rfl
theorem lL_93 : Cond.methodLink RL 93 yX11_cover ∈ mTbl := mTbl_w kt5 (List.mem_of_getElem? (i := 20) rfl) rfl
theorem lL_97 : Cond.methodLink RL 97 yX11_covers ∈ mTbl := mTbl_w kt5 (List.mem_of_getElem? (i := 24) rfl) rfl
theorem lL_101 : Cond.methodLink RL 101 yX11_contradict ∈ mTbl := mTbl_w kt5 (List.mem_of_getElem? (i := 28) rfl) rfl
theorem lL_105 : Cond.methodLink RL 105 yX11_stale ∈ mTbl := mTbl_w kt5 (List.mem_of_getElem? (i := 32) rfl) rfl
theorem lX11_328 : Cond.methodLink RX11 328 yX4_isLike ∈ mTbl := mTbl_w kt5 (List.mem_of_getElem? (i := 36) rfl) rfl
theorem lL_109 : Cond.methodLink RL 109 yX11_cut ∈ mTbl := mTbl_w kt5 (List.mem_of_getElem? (i := 40) rfl) rfl
theorem lL_113 : Cond.methodLink RL 113 yX11_by ∈ mTbl := mTbl_w kt5 (List.mem_of_getElem? (i := 44) rfl) rfl
theorem lL_117 : Cond.methodLink RL 117 yX11_letter ∈ mTbl := mTbl_w kt5 (List.mem_of_getElem? (i := 48) rfl) rfl
theorem lX11_344 : Cond.methodLink RX11 344 yX11_spellPage ∈ mTbl := mTbl_w kt5 (List.mem_of_getElem? (i := 52) rfl) rfl
theorem lX11_354 : Cond.methodLink RX11 354 yX5_spell ∈ mTbl := mTbl_w kt5 (List.mem_of_getElem? (i := 56) rfl) rfl
theorem lX5_19 : Cond.methodLink RX5 19 yJ13_bitCount_95d88 ∈ mTbl := mTbl_w kt5 (List.mem_of_getElem? (i := 60) rfl) rfl
theorem lX5_25 : (RX5, 25, yX11_nth) ∈ mNst := List.mem_of_getElem? (i := 23) rfl
theorem lX5_29 : Cond.methodLink RX5 29 yX5_put ∈ mTbl := mTbl_w kt5 (List.mem_of_getElem? (i := 62) rfl) rfl
theorem lX5_40 : Cond.methodLink RX5 40 yX5_putText ∈ mTbl := mTbl_w kt5 (List.mem_of_getElem? (i := 66) rfl) rfl
theorem lX5_44 : Cond.constantLong RX5 44 (255) ∈ mTbl := mTbl_w kt5 (List.mem_of_getElem? (i := 70) rfl) rfl
theorem lX11_348 : Cond.methodLink RX11 348 yX5_at ∈ mTbl := mTbl_w kt5 (List.mem_of_getElem? (i := 71) rfl) rfl
theorem lL_121 : Cond.methodLink RL 121 yX11_pattern ∈ mTbl := mTbl_w kt5 (List.mem_of_getElem? (i := 75) rfl) rfl
theorem lL_125 : Cond.methodLink RL 125 yX11_proposed ∈ mTbl := mTbl_w kt5 (List.mem_of_getElem? (i := 79) rfl) rfl
theorem lL_129 : Cond.methodLink RL 129 yX11_alike ∈ mTbl := mTbl_w kt5 (List.mem_of_getElem? (i := 83) rfl) rfl
theorem lX11_358 : Cond.methodLink RX11 358 yX5_isLike ∈ mTbl := mTbl_w kt5 (List.mem_of_getElem? (i := 87) rfl) rfl
theorem lL_133 : Cond.methodLink RL 133 yX11_drift ∈ mTbl := mTbl_w kt5 (List.mem_of_getElem? (i := 91) rfl) rfl
theorem lX11_361 : Cond.methodLink RX11 361 yX11_driftOf ∈ mTbl := mTbl_w kt5 (List.mem_of_getElem? (i := 95) rfl) rfl
theorem lX11_364 : Cond.methodLink RX11 364 yX4_misfit ∈ mTbl := mTbl_w kt5 (List.mem_of_getElem? (i := 99) rfl) rfl
theorem lL_137 : Cond.methodLink RL 137 yX11_strange ∈ mTbl := mTbl_w kt5 (List.mem_of_getElem? (i := 100) rfl) rfl
theorem lL_141 : Cond.methodLink RL 141 yX11_sturdy ∈ mTbl := mTbl_w kt5 (List.mem_of_getElem? (i := 104) rfl) rfl
theorem lL_145 : Cond.methodLink RL 145 yX11_right ∈ mTbl := mTbl_w kt5 (List.mem_of_getElem? (i := 108) rfl) rfl
theorem lL_149 : Cond.methodLink RL 149 yX11_enough ∈ mTbl := mTbl_w kt5 (List.mem_of_getElem? (i := 112) rfl) rfl
theorem lX11_372 : Cond.methodLink RX11 372 yJ6_bitCount_0f7a4 ∈ mTbl := mTbl_w kt5 (List.mem_of_getElem? (i := 116) rfl) rfl
theorem lJ6_265 : Cond.constant RJ6 265 (1431655765) ∈ mTbl := mTbl_w kt5 (List.mem_of_getElem? (i := 119) rfl) rfl
theorem lJ6_266 : Cond.constant RJ6 266 (858993459) ∈ mTbl := mTbl_w kt5 (List.mem_of_getElem? (i := 120) rfl) rfl
theorem lJ6_267 : Cond.constant RJ6 267 (252645135) ∈ mTbl := mTbl_w kt5 (List.mem_of_getElem? (i := 121) rfl) rfl
theorem lX11_376 : Cond.methodLink RX11 376 yX0_isRightOn ∈ mTbl := mTbl_w kt5 (List.mem_of_getElem? (i := 122) rfl) rfl
theorem lL_153 : Cond.methodLink RL 153 yX11_opinion ∈ mTbl := mTbl_w kt5 (List.mem_of_getElem? (i := 126) rfl) rfl
theorem lL_157 : Cond.methodLink RL 157 yX11_next ∈ mTbl := mTbl_w kt5 (List.mem_of_getElem? (i := 130) rfl) rfl
theorem lL_161 : Cond.methodLink RL 161 yX11_without ∈ mTbl := mTbl_w kt5 (List.mem_of_getElem? (i := 134) rfl) rfl
theorem lL_165 : Cond.methodLink RL 165 yX11_image ∈ mTbl := mTbl_w kt5 (List.mem_of_getElem? (i := 138) rfl) rfl
theorem lX11_392 : (RX11, 392, yX8_init) ∈ mNst := List.mem_of_getElem? (i := 24) rfl
theorem lX11_393 : Cond.methodLink RX11 393 yX8_copyFrom ∈ mTbl := mTbl_w kt5 (List.mem_of_getElem? (i := 143) rfl) rfl
theorem lX11_396 : Cond.methodLink RX11 396 yX8_partCount ∈ mTbl := mTbl_w kt5 (List.mem_of_getElem? (i := 144) rfl) rfl
theorem lX8_64 : Cond.methodLink RX8 64 yJ13_bitCount_95d88 ∈ mTbl := mTbl_w kt5 (List.mem_of_getElem? (i := 148) rfl) rfl
theorem lL_169 : Cond.methodLink RL 169 yX11_back ∈ mTbl := mTbl_w kt5 (List.mem_of_getElem? (i := 149) rfl) rfl
theorem lL_173 : Cond.methodLink RL 173 yX11_about ∈ mTbl := mTbl_w kt5 (List.mem_of_getElem? (i := 153) rfl) rfl
theorem lX11_399 : Cond.methodLink RX11 399 yX8_learntFields ∈ mTbl := mTbl_w kt5 (List.mem_of_getElem? (i := 157) rfl) rfl
theorem lL_10 : Cond.classLink RL 10 (mCn 12) ∈ mTbl := mTbl_w kt5 (List.mem_of_getElem? (i := 161) rfl) rfl
theorem lL_12 : Cond.methodLink RL 12 yX12_init ∈ mTbl := mTbl_w kt5 (List.mem_of_getElem? (i := 163) rfl) rfl
theorem lX12_1 : Cond.methodLink RX12 1 objectInit ∈ mTbl := mTbl_w kt5 (List.mem_of_getElem? (i := 166) rfl) rfl
theorem lX12_82 : Cond.constant RX12 82 (32768) ∈ mTbl := mTbl_w kt5 (List.mem_of_getElem? (i := 167) rfl) rfl
theorem lX12_134 : Cond.methodLink RX12 134 yX12_begins ∈ mTbl := mTbl_w kt5 (List.mem_of_getElem? (i := 168) rfl) rfl
theorem lX12_7 : mFl RX12 7 12 0 := ⟨mTbl_w kt5 (List.mem_of_getElem? (i := 172) rfl) rfl, by decide, by decide⟩
theorem lX12_140 : mFl RX12 140 12 1 := ⟨mTbl_w kt5 (List.mem_of_getElem? (i := 173) rfl) rfl, by decide, by decide⟩
theorem lX12_154 : mFl RX12 154 12 2 := ⟨mTbl_w kt5 (List.mem_of_getElem? (i := 174) rfl) rfl, by decide, by decide⟩
theorem lX12_151 : mFl RX12 151 12 3 := ⟨mTbl_w kt5 (List.mem_of_getElem? (i := 175) rfl) rfl, by decide, by decide⟩
theorem lX12_161 : mFl RX12 161 12 4 := ⟨mTbl_w kt5 (List.mem_of_getElem? (i := 176) rfl) rfl, by decide, by decide⟩
theorem lX12_168 : mFl RX12 168 12 5 := ⟨mTbl_w kt5 (List.mem_of_getElem? (i := 177) rfl) rfl, by decide, by decide⟩
theorem lX12_181 : mFl RX12 181 12 6 := ⟨mTbl_w kt5 (List.mem_of_getElem? (i := 178) rfl) rfl, by decide, by decide⟩
theorem lX12_184 : mFl RX12 184 12 7 := ⟨mTbl_w kt5 (List.mem_of_getElem? (i := 179) rfl) rfl, by decide, by decide⟩
theorem lX12_13 : mFl RX12 13 12 8 := ⟨mTbl_w kt5 (List.mem_of_getElem? (i := 180) rfl) rfl, by decide, by decide⟩
theorem lX12_203 : mFl RX12 203 12 9 := ⟨mTbl_w kt5 (List.mem_of_getElem? (i := 181) rfl) rfl, by decide, by decide⟩
theorem lX12_17 : mFl RX12 17 12 10 := ⟨mTbl_w kt5 (List.mem_of_getElem? (i := 182) rfl) rfl, by decide, by decide⟩
theorem lX12_164 : mFl RX12 164 12 11 := ⟨mTbl_w kt5 (List.mem_of_getElem? (i := 183) rfl) rfl, by decide, by decide⟩
theorem lX12_20 : mFl RX12 20 12 12 := ⟨mTbl_w kt5 (List.mem_of_getElem? (i := 184) rfl) rfl, by decide, by decide⟩
theorem lX12_24 : mFl RX12 24 12 13 := ⟨mTbl_w kt5 (List.mem_of_getElem? (i := 185) rfl) rfl, by decide, by decide⟩
theorem lX12_27 : mFl RX12 27 12 14 := ⟨mTbl_w kt5 (List.mem_of_getElem? (i := 186) rfl) rfl, by decide, by decide⟩
theorem lX12_30 : mFl RX12 30 12 15 := ⟨mTbl_w kt5 (List.mem_of_getElem? (i := 187) rfl) rfl, by decide, by decide⟩
theorem lX12_33 : mFl RX12 33 12 16 := ⟨mTbl_w kt5 (List.mem_of_getElem? (i := 188) rfl) rfl, by decide, by decide⟩
theorem lX12_36 : mFl RX12 36 12 17 := ⟨mTbl_w kt5 (List.mem_of_getElem? (i := 189) rfl) rfl, by decide, by decide⟩
theorem lX12_40 : mFl RX12 40 12 18 := ⟨mTbl_w kt5 (List.mem_of_getElem? (i := 190) rfl) rfl, by decide, by decide⟩
theorem lX12_206 : mFl RX12 206 12 19 := ⟨mTbl_w kt5 (List.mem_of_getElem? (i := 191) rfl) rfl, by decide, by decide⟩
theorem lX12_209 : mFl RX12 209 12 20 := ⟨mTbl_w kt5 (List.mem_of_getElem? (i := 192) rfl) rfl, by decide, by decide⟩
theorem lX12_137 : mFl RX12 137 12 21 := ⟨mTbl_w kt5 (List.mem_of_getElem? (i := 193) rfl) rfl, by decide, by decide⟩
theorem lX12_43 : mFl RX12 43 12 22 := ⟨mTbl_w kt5 (List.mem_of_getElem? (i := 194) rfl) rfl, by decide, by decide⟩
theorem lX12_46 : mFl RX12 46 12 23 := ⟨mTbl_w kt5 (List.mem_of_getElem? (i := 195) rfl) rfl, by decide, by decide⟩
theorem lX12_270 : mFl RX12 270 12 24 := ⟨mTbl_w kt5 (List.mem_of_getElem? (i := 196) rfl) rfl, by decide, by decide⟩
theorem lX12_49 : mFl RX12 49 12 25 := ⟨mTbl_w kt5 (List.mem_of_getElem? (i := 197) rfl) rfl, by decide, by decide⟩
theorem lX12_52 : mFl RX12 52 12 26 := ⟨mTbl_w kt5 (List.mem_of_getElem? (i := 198) rfl) rfl, by decide, by decide⟩
theorem lX12_55 : mFl RX12 55 12 27 := ⟨mTbl_w kt5 (List.mem_of_getElem? (i := 199) rfl) rfl, by decide, by decide⟩
theorem lX12_249 : mFl RX12 249 12 28 := ⟨mTbl_w kt5 (List.mem_of_getElem? (i := 200) rfl) rfl, by decide, by decide⟩
theorem lX12_252 : mFl RX12 252 12 29 := ⟨mTbl_w kt5 (List.mem_of_getElem? (i := 201) rfl) rfl, by decide, by decide⟩
theorem lX12_58 : mFl RX12 58 12 30 := ⟨mTbl_w kt5 (List.mem_of_getElem? (i := 202) rfl) rfl, by decide, by decide⟩
theorem lX12_61 : mFl RX12 61 12 31 := ⟨mTbl_w kt5 (List.mem_of_getElem? (i := 203) rfl) rfl, by decide, by decide⟩
theorem lX12_324 : mFl RX12 324 12 32 := ⟨mTbl_w kt5 (List.mem_of_getElem? (i := 204) rfl) rfl, by decide, by decide⟩
theorem lX12_64 : mFl RX12 64 12 33 := ⟨mTbl_w kt5 (List.mem_of_getElem? (i := 205) rfl) rfl, by decide, by decide⟩
theorem lX12_67 : mFl RX12 67 12 34 := ⟨mTbl_w kt5 (List.mem_of_getElem? (i := 206) rfl) rfl, by decide, by decide⟩
theorem lX12_337 : mFl RX12 337 12 35 := ⟨mTbl_w kt5 (List.mem_of_getElem? (i := 207) rfl) rfl, by decide, by decide⟩
theorem lX12_70 : mFl RX12 70 12 36 := ⟨mTbl_w kt5 (List.mem_of_getElem? (i := 208) rfl) rfl, by decide, by decide⟩
theorem lX12_73 : mFl RX12 73 12 37 := ⟨mTbl_w kt5 (List.mem_of_getElem? (i := 209) rfl) rfl, by decide, by decide⟩
theorem lX12_76 : mFl RX12 76 12 38 := ⟨mTbl_w kt5 (List.mem_of_getElem? (i := 210) rfl) rfl, by decide, by decide⟩
theorem lX12_79 : mFl RX12 79 12 39 := ⟨mTbl_w kt5 (List.mem_of_getElem? (i := 211) rfl) rfl, by decide, by decide⟩
theorem lX12_83 : mFl RX12 83 12 40 := ⟨mTbl_w kt5 (List.mem_of_getElem? (i := 212) rfl) rfl, by decide, by decide⟩
theorem lX12_378 : mFl RX12 378 12 41 := ⟨mTbl_w kt5 (List.mem_of_getElem? (i := 213) rfl) rfl, by decide, by decide⟩
theorem lX12_86 : mFl RX12 86 12 42 := ⟨mTbl_w kt5 (List.mem_of_getElem? (i := 214) rfl) rfl, by decide, by decide⟩
theorem lX12_89 : mFl RX12 89 12 43 := ⟨mTbl_w kt5 (List.mem_of_getElem? (i := 215) rfl) rfl, by decide, by decide⟩
theorem lX12_92 : mFl RX12 92 12 44 := ⟨mTbl_w kt5 (List.mem_of_getElem? (i := 216) rfl) rfl, by decide, by decide⟩
theorem lX12_95 : mFl RX12 95 12 45 := ⟨mTbl_w kt5 (List.mem_of_getElem? (i := 217) rfl) rfl, by decide, by decide⟩
theorem lX12_98 : mFl RX12 98 12 46 := ⟨mTbl_w kt5 (List.mem_of_getElem? (i := 218) rfl) rfl, by decide, by decide⟩
theorem lX12_425 : mFl RX12 425 12 47 := ⟨mTbl_w kt5 (List.mem_of_getElem? (i := 219) rfl) rfl, by decide, by decide⟩
theorem lX12_419 : mFl RX12 419 12 48 := ⟨mTbl_w kt5 (List.mem_of_getElem? (i := 220) rfl) rfl, by decide, by decide⟩
theorem lX12_101 : mFl RX12 101 12 49 := ⟨mTbl_w kt5 (List.mem_of_getElem? (i := 221) rfl) rfl, by decide, by decide⟩
theorem lX12_475 : mFl RX12 475 12 50 := ⟨mTbl_w kt5 (List.mem_of_getElem? (i := 222) rfl) rfl, by decide, by decide⟩
theorem lX12_104 : mFl RX12 104 12 51 := ⟨mTbl_w kt5 (List.mem_of_getElem? (i := 223) rfl) rfl, by decide, by decide⟩
theorem lX12_107 : mFl RX12 107 12 52 := ⟨mTbl_w kt5 (List.mem_of_getElem? (i := 224) rfl) rfl, by decide, by decide⟩
theorem lX12_110 : mFl RX12 110 12 53 := ⟨mTbl_w kt5 (List.mem_of_getElem? (i := 225) rfl) rfl, by decide, by decide⟩
theorem lX12_491 : mFl RX12 491 12 54 := ⟨mTbl_w kt5 (List.mem_of_getElem? (i := 226) rfl) rfl, by decide, by decide⟩
theorem lX12_113 : mFl RX12 113 12 55 := ⟨mTbl_w kt5 (List.mem_of_getElem? (i := 227) rfl) rfl, by decide, by decide⟩
theorem lX12_116 : mFl RX12 116 12 56 := ⟨mTbl_w kt5 (List.mem_of_getElem? (i := 228) rfl) rfl, by decide, by decide⟩
theorem lX12_119 : mFl RX12 119 12 57 := ⟨mTbl_w kt5 (List.mem_of_getElem? (i := 229) rfl) rfl, by decide, by decide⟩
theorem lX12_122 : mFl RX12 122 12 58 := ⟨mTbl_w kt5 (List.mem_of_getElem? (i := 230) rfl) rfl, by decide, by decide⟩
theorem lX12_125 : mFl RX12 125 12 59 := ⟨mTbl_w kt5 (List.mem_of_getElem? (i := 231) rfl) rfl, by decide, by decide⟩
theorem lX12_517 : mFl RX12 517 12 60 := ⟨mTbl_w kt5 (List.mem_of_getElem? (i := 232) rfl) rfl, by decide, by decide⟩
theorem lX12_506 : mFl RX12 506 12 61 := ⟨mTbl_w kt5 (List.mem_of_getElem? (i := 233) rfl) rfl, by decide, by decide⟩
theorem lX12_509 : mFl RX12 509 12 62 := ⟨mTbl_w kt5 (List.mem_of_getElem? (i := 234) rfl) rfl, by decide, by decide⟩
theorem lX12_128 : mFl RX12 128 12 63 := ⟨mTbl_w kt5 (List.mem_of_getElem? (i := 235) rfl) rfl, by decide, by decide⟩
theorem lX12_131 : mFl RX12 131 12 64 := ⟨mTbl_w kt5 (List.mem_of_getElem? (i := 236) rfl) rfl, by decide, by decide⟩
theorem lL_17 : Cond.methodLink RL 17 yX12_feed ∈ mTbl := mTbl_w kt6 (List.mem_of_getElem? (i := 128) rfl) rfl
theorem lX12_143 : Cond.methodLink RX12 143 yX12_four ∈ mTbl := mTbl_w kt6 (List.mem_of_getElem? (i := 132) rfl) rfl
theorem lL_22 : Cond.methodLink RL 22 yX12_end ∈ mTbl := mTbl_w kt6 (List.mem_of_getElem? (i := 136) rfl) rfl
theorem lX12_147 : Cond.methodLink RX12 147 yX12_isIn ∈ mTbl := mTbl_w kt6 (List.mem_of_getElem? (i := 140) rfl) rfl
theorem lL_35 : Cond.methodLink RL 35 yX12_fault ∈ mTbl := mTbl_w kt6 (List.mem_of_getElem? (i := 143) rfl) rfl
theorem lL_27 : Cond.methodLink RL 27 yX12_book ∈ mTbl := mTbl_w kt6 (List.mem_of_getElem? (i := 147) rfl) rfl
theorem lX12_233 : Cond.methodLink RX12 233 yX12_beginsText ∈ mTbl := mTbl_w kt6 (List.mem_of_getElem? (i := 151) rfl) rfl
theorem lX12_200 : Cond.methodLink RX12 200 yX12_goOn ∈ mTbl := mTbl_w kt6 (List.mem_of_getElem? (i := 155) rfl) rfl
theorem lX12_157 : Cond.methodLink RX12 157 yX12_here ∈ mTbl := mTbl_w kt6 (List.mem_of_getElem? (i := 159) rfl) rfl
theorem lX12_171 : Cond.methodLink RX12 171 yX12_isLetter ∈ mTbl := mTbl_w kt6 (List.mem_of_getElem? (i := 163) rfl) rfl
theorem lX12_175 : Cond.methodLink RX12 175 yX12_isDigit ∈ mTbl := mTbl_w kt6 (List.mem_of_getElem? (i := 166) rfl) rfl
theorem lX12_178 : Cond.methodLink RX12 178 yX12_isSign ∈ mTbl := mTbl_w kt6 (List.mem_of_getElem? (i := 169) rfl) rfl
theorem lX12_212 : Cond.methodLink RX12 212 yX12_isGood ∈ mTbl := mTbl_w kt6 (List.mem_of_getElem? (i := 172) rfl) rfl
theorem lX12_187 : Cond.constantLong RX12 187 (439854918756) ∈ mTbl := mTbl_w kt6 (List.mem_of_getElem? (i := 176) rfl) rfl
theorem lX12_220 : Cond.methodLink RX12 220 yX12_isWord ∈ mTbl := mTbl_w kt6 (List.mem_of_getElem? (i := 177) rfl) rfl
theorem lX12_236 : Cond.methodLink RX12 236 yX12_fieldLine ∈ mTbl := mTbl_w kt6 (List.mem_of_getElem? (i := 181) rfl) rfl
theorem lX12_197 : Cond.methodLink RX12 197 yX12_wrong ∈ mTbl := mTbl_w kt6 (List.mem_of_getElem? (i := 185) rfl) rfl
theorem lX12_216 : Cond.methodLink RX12 216 yX12_nameHere ∈ mTbl := mTbl_w kt6 (List.mem_of_getElem? (i := 189) rfl) rfl
theorem lX12_189 : Cond.constantLong RX12 189 (1885431653) ∈ mTbl := mTbl_w kt6 (List.mem_of_getElem? (i := 193) rfl) rfl
theorem lX12_191 : Cond.constantLong RX12 191 (28518) ∈ mTbl := mTbl_w kt6 (List.mem_of_getElem? (i := 194) rfl) rfl
theorem lX12_193 : Cond.constantLong RX12 193 (1835101817) ∈ mTbl := mTbl_w kt6 (List.mem_of_getElem? (i := 195) rfl) rfl
theorem lX12_195 : Cond.constantLong RX12 195 (6647396) ∈ mTbl := mTbl_w kt6 (List.mem_of_getElem? (i := 196) rfl) rfl
theorem lX12_224 : Cond.methodLink RX12 224 yX12_parentHere ∈ mTbl := mTbl_w kt6 (List.mem_of_getElem? (i := 197) rfl) rfl
theorem lX12_228 : Cond.constantLong RX12 228 (59) ∈ mTbl := mTbl_w kt6 (List.mem_of_getElem? (i := 201) rfl) rfl
theorem lX12_239 : Cond.methodLink RX12 239 yX12_pageLine ∈ mTbl := mTbl_w kt6 (List.mem_of_getElem? (i := 202) rfl) rfl
theorem lX12_230 : Cond.methodLink RX12 230 yX12_isPageToken ∈ mTbl := mTbl_w kt6 (List.mem_of_getElem? (i := 206) rfl) rfl
theorem lX12_242 : Cond.methodLink RX12 242 yX12_endsText ∈ mTbl := mTbl_w kt6 (List.mem_of_getElem? (i := 210) rfl) rfl
theorem lX12_245 : Cond.methodLink RX12 245 yX12_comesPage ∈ mTbl := mTbl_w kt6 (List.mem_of_getElem? (i := 214) rfl) rfl
theorem lL_31 : Cond.methodLink RL 31 yX12_page ∈ mTbl := mTbl_w kt6 (List.mem_of_getElem? (i := 218) rfl) rfl
theorem lX12_255 : Cond.methodLink RX12 255 yX12_pages ∈ mTbl := mTbl_w kt6 (List.mem_of_getElem? (i := 222) rfl) rfl
theorem lX12_258 : Cond.methodLink RX12 258 yX12_act ∈ mTbl := mTbl_w kt6 (List.mem_of_getElem? (i := 226) rfl) rfl
theorem lL_44 : Cond.methodLink RL 44 yX12_tokens ∈ mTbl := mTbl_w kt6 (List.mem_of_getElem? (i := 230) rfl) rfl
theorem lX12_286 : Cond.methodLink RX12 286 yX12_isPage ∈ mTbl := mTbl_w kt6 (List.mem_of_getElem? (i := 234) rfl) rfl
theorem lX12_273 : Cond.methodLink RX12 273 yX12_tokensOf ∈ mTbl := mTbl_w kt6 (List.mem_of_getElem? (i := 238) rfl) rfl
theorem lL_49 : Cond.methodLink RL 49 yX12_token ∈ mTbl := mTbl_w kt7 (List.mem_of_getElem? (i := 2) rfl) rfl
theorem lX12_289 : Cond.methodLink RX12 289 yX12_laysNumbers ∈ mTbl := mTbl_w kt7 (List.mem_of_getElem? (i := 6) rfl) rfl
theorem lX12_276 : Cond.methodLink RX12 276 yX12_wordAt ∈ mTbl := mTbl_w kt7 (List.mem_of_getElem? (i := 10) rfl) rfl
theorem lX12_280 : Cond.methodLink RX12 280 yX12_numberOf ∈ mTbl := mTbl_w kt7 (List.mem_of_getElem? (i := 14) rfl) rfl
theorem lX12_283 : Cond.methodLink RX12 283 yX12_kindOf ∈ mTbl := mTbl_w kt7 (List.mem_of_getElem? (i := 18) rfl) rfl
theorem lX12_267 : Cond.methodLink RX12 267 yX12_firstByte ∈ mTbl := mTbl_w kt7 (List.mem_of_getElem? (i := 21) rfl) rfl
theorem lX12_261 : Cond.methodLink RX12 261 yX12_bytesOf ∈ mTbl := mTbl_w kt7 (List.mem_of_getElem? (i := 24) rfl) rfl
theorem lX12_265 : Cond.constantLong RX12 265 (255) ∈ mTbl := mTbl_w kt7 (List.mem_of_getElem? (i := 27) rfl) rfl
theorem lL_71 : Cond.methodLink RL 71 yX12_undo ∈ mTbl := mTbl_w kt7 (List.mem_of_getElem? (i := 28) rfl) rfl
theorem lX12_292 : Cond.methodLink RX12 292 yX12_exchanges ∈ mTbl := mTbl_w kt7 (List.mem_of_getElem? (i := 32) rfl) rfl
theorem lL_75 : Cond.methodLink RL 75 yX12_redo ∈ mTbl := mTbl_w kt7 (List.mem_of_getElem? (i := 36) rfl) rfl
theorem lL_54 : Cond.methodLink RL 54 yX12_mark ∈ mTbl := mTbl_w kt7 (List.mem_of_getElem? (i := 40) rfl) rfl
theorem lX12_312 : Cond.methodLink RX12 312 yX12_canMark ∈ mTbl := mTbl_w kt7 (List.mem_of_getElem? (i := 44) rfl) rfl
theorem lX12_299 : Cond.methodLink RX12 299 yX12_isField ∈ mTbl := mTbl_w kt7 (List.mem_of_getElem? (i := 48) rfl) rfl
theorem lX12_302 : Cond.methodLink RX12 302 yX12_partsOf ∈ mTbl := mTbl_w kt7 (List.mem_of_getElem? (i := 52) rfl) rfl
theorem lX12_295 : Cond.methodLink RX12 295 yX12_markAt ∈ mTbl := mTbl_w kt7 (List.mem_of_getElem? (i := 56) rfl) rfl
theorem lX12_305 : Cond.methodLink RX12 305 yX12_toOf ∈ mTbl := mTbl_w kt7 (List.mem_of_getElem? (i := 59) rfl) rfl
theorem lX12_309 : Cond.methodLink RX12 309 yX12_fromOf ∈ mTbl := mTbl_w kt7 (List.mem_of_getElem? (i := 63) rfl) rfl
theorem lL_58 : Cond.methodLink RL 58 yX12_unmark ∈ mTbl := mTbl_w kt7 (List.mem_of_getElem? (i := 67) rfl) rfl
theorem lX12_316 : Cond.methodLink RX12 316 yX12_isUnder ∈ mTbl := mTbl_w kt7 (List.mem_of_getElem? (i := 71) rfl) rfl
theorem lL_79 : Cond.methodLink RL 79 yX12_marked ∈ mTbl := mTbl_w kt7 (List.mem_of_getElem? (i := 75) rfl) rfl
theorem lL_88 : Cond.methodLink RL 88 yX12_tries ∈ mTbl := mTbl_w kt7 (List.mem_of_getElem? (i := 79) rfl) rfl
theorem lX12_360 : Cond.methodLink RX12 360 yX12_isAnItem ∈ mTbl := mTbl_w kt7 (List.mem_of_getElem? (i := 83) rfl) rfl
theorem lX12_363 : Cond.methodLink RX12 363 yX12_triesOn ∈ mTbl := mTbl_w kt7 (List.mem_of_getElem? (i := 87) rfl) rfl
theorem lX12_344 : Cond.methodLink RX12 344 yX12_laysRow ∈ mTbl := mTbl_w kt7 (List.mem_of_getElem? (i := 91) rfl) rfl
theorem lX12_347 : Cond.methodLink RX12 347 yX12_regionFrom ∈ mTbl := mTbl_w kt7 (List.mem_of_getElem? (i := 95) rfl) rfl
theorem lX12_350 : Cond.methodLink RX12 350 yX12_regionTo ∈ mTbl := mTbl_w kt7 (List.mem_of_getElem? (i := 99) rfl) rfl
theorem lX12_353 : Cond.methodLink RX12 353 yX12_cutsRegion ∈ mTbl := mTbl_w kt7 (List.mem_of_getElem? (i := 103) rfl) rfl
theorem lX12_340 : Cond.methodLink RX12 340 yX12_cutsOne ∈ mTbl := mTbl_w kt7 (List.mem_of_getElem? (i := 107) rfl) rfl
theorem lX12_330 : Cond.methodLink RX12 330 yX12_first ∈ mTbl := mTbl_w kt7 (List.mem_of_getElem? (i := 111) rfl) rfl
theorem lX12_327 : Cond.methodLink RX12 327 yX12_isItem ∈ mTbl := mTbl_w kt7 (List.mem_of_getElem? (i := 115) rfl) rfl
theorem lX12_333 : Cond.methodLink RX12 333 yX12_behindNear ∈ mTbl := mTbl_w kt7 (List.mem_of_getElem? (i := 119) rfl) rfl
theorem lX12_357 : Cond.methodLink RX12 357 yX12_isAsMarked ∈ mTbl := mTbl_w kt7 (List.mem_of_getElem? (i := 123) rfl) rfl
theorem lL_92 : Cond.methodLink RL 92 yX12_could ∈ mTbl := mTbl_w kt7 (List.mem_of_getElem? (i := 127) rfl) rfl
theorem lX12_407 : Cond.methodLink RX12 407 yX12_examples ∈ mTbl := mTbl_w kt7 (List.mem_of_getElem? (i := 131) rfl) rfl
theorem lX12_320 : Cond.methodLink RX12 320 yX12_truth ∈ mTbl := mTbl_w kt7 (List.mem_of_getElem? (i := 135) rfl) rfl
theorem lX12_410 : Cond.methodLink RX12 410 yX12_laysRules ∈ mTbl := mTbl_w kt7 (List.mem_of_getElem? (i := 138) rfl) rfl
theorem lX12_394 : Cond.methodLink RX12 394 yX12_isOf ∈ mTbl := mTbl_w kt7 (List.mem_of_getElem? (i := 142) rfl) rfl
theorem lX12_397 : Cond.methodLink RX12 397 yX12_comesNears ∈ mTbl := mTbl_w kt7 (List.mem_of_getElem? (i := 145) rfl) rfl
theorem lX12_391 : Cond.methodLink RX12 391 yX12_comesFars ∈ mTbl := mTbl_w kt7 (List.mem_of_getElem? (i := 149) rfl) rfl
theorem lX12_388 : Cond.methodLink RX12 388 yX12_comesStops ∈ mTbl := mTbl_w kt7 (List.mem_of_getElem? (i := 153) rfl) rfl
theorem lX12_381 : Cond.methodLink RX12 381 yX12_comesRule ∈ mTbl := mTbl_w kt7 (List.mem_of_getElem? (i := 157) rfl) rfl
theorem lX12_370 : Cond.methodLink RX12 370 yX12_keyOf ∈ mTbl := mTbl_w kt7 (List.mem_of_getElem? (i := 161) rfl) rfl
theorem lX12_367 : Cond.methodLink RX12 367 yX12_costOf ∈ mTbl := mTbl_w kt7 (List.mem_of_getElem? (i := 164) rfl) rfl
theorem lX12_374 : Cond.constantLong RX12 374 (2654435761) ∈ mTbl := mTbl_w kt7 (List.mem_of_getElem? (i := 167) rfl) rfl
theorem lX12_376 : Cond.constantLong RX12 376 (32767) ∈ mTbl := mTbl_w kt7 (List.mem_of_getElem? (i := 168) rfl) rfl
theorem lX12_385 : Cond.methodLink RX12 385 yX12_asItem ∈ mTbl := mTbl_w kt7 (List.mem_of_getElem? (i := 169) rfl) rfl
theorem lX12_400 : Cond.methodLink RX12 400 yX12_firstOf ∈ mTbl := mTbl_w kt7 (List.mem_of_getElem? (i := 173) rfl) rfl
theorem lX12_403 : Cond.methodLink RX12 403 yX12_itemOf ∈ mTbl := mTbl_w kt7 (List.mem_of_getElem? (i := 176) rfl) rfl
theorem lL_104 : Cond.methodLink RL 104 yX12_contradict ∈ mTbl := mTbl_w kt7 (List.mem_of_getElem? (i := 179) rfl) rfl
theorem lL_96 : Cond.methodLink RL 96 yX12_cover ∈ mTbl := mTbl_w kt7 (List.mem_of_getElem? (i := 183) rfl) rfl
theorem lX12_431 : Cond.methodLink RX12 431 yX12_laysCoverOf ∈ mTbl := mTbl_w kt7 (List.mem_of_getElem? (i := 187) rfl) rfl
theorem lX12_428 : Cond.methodLink RX12 428 yX12_laysCover ∈ mTbl := mTbl_w kt7 (List.mem_of_getElem? (i := 191) rfl) rfl
theorem lX12_416 : Cond.methodLink RX12 416 yX12_laysBestRules ∈ mTbl := mTbl_w kt7 (List.mem_of_getElem? (i := 195) rfl) rfl
theorem lX12_422 : Cond.methodLink RX12 422 yX12_isLess ∈ mTbl := mTbl_w kt7 (List.mem_of_getElem? (i := 199) rfl) rfl
theorem lX12_413 : Cond.methodLink RX12 413 yX12_costOfKey ∈ mTbl := mTbl_w kt7 (List.mem_of_getElem? (i := 203) rfl) rfl
theorem lX12_434 : Cond.methodLink RX12 434 yX12_coverCost ∈ mTbl := mTbl_w kt7 (List.mem_of_getElem? (i := 206) rfl) rfl
theorem lL_100 : Cond.methodLink RL 100 yX12_covers ∈ mTbl := mTbl_w kt7 (List.mem_of_getElem? (i := 210) rfl) rfl
theorem lL_152 : Cond.methodLink RL 152 yX12_enough ∈ mTbl := mTbl_w kt7 (List.mem_of_getElem? (i := 214) rfl) rfl
theorem lX12_437 : Cond.methodLink RX12 437 yX12_many ∈ mTbl := mTbl_w kt7 (List.mem_of_getElem? (i := 218) rfl) rfl
theorem lX12_440 : Cond.methodLink RX12 440 yX12_isRightOn ∈ mTbl := mTbl_w kt7 (List.mem_of_getElem? (i := 221) rfl) rfl
theorem lL_62 : Cond.methodLink RL 62 yX12_learn ∈ mTbl := mTbl_w kt7 (List.mem_of_getElem? (i := 225) rfl) rfl
theorem lX12_457 : Cond.methodLink RX12 457 yX12_learns ∈ mTbl := mTbl_w kt7 (List.mem_of_getElem? (i := 229) rfl) rfl
theorem lX12_460 : Cond.methodLink RX12 460 yX12_laysShape ∈ mTbl := mTbl_w kt7 (List.mem_of_getElem? (i := 233) rfl) rfl
theorem lX12_446 : Cond.constantLong RX12 446 (41) ∈ mTbl := mTbl_w kt7 (List.mem_of_getElem? (i := 237) rfl) rfl
theorem lX12_448 : Cond.methodLink RX12 448 yX12_lesser ∈ mTbl := mTbl_w kt7 (List.mem_of_getElem? (i := 238) rfl) rfl
theorem lX12_451 : Cond.methodLink RX12 451 yX12_greater ∈ mTbl := mTbl_w kt8 (List.mem_of_getElem? (i := 1) rfl) rfl
theorem lX12_454 : Cond.methodLink RX12 454 yX12_kindAll ∈ mTbl := mTbl_w kt8 (List.mem_of_getElem? (i := 4) rfl) rfl
theorem lX12_443 : Cond.methodLink RX12 443 yX12_learntAt ∈ mTbl := mTbl_w kt8 (List.mem_of_getElem? (i := 8) rfl) rfl
theorem lL_40 : Cond.methodLink RL 40 yX12_field ∈ mTbl := mTbl_w kt8 (List.mem_of_getElem? (i := 11) rfl) rfl
theorem lX12_463 : Cond.methodLink RX12 463 yX12_learntRules ∈ mTbl := mTbl_w kt8 (List.mem_of_getElem? (i := 15) rfl) rfl
theorem lX12_466 : Cond.methodLink RX12 466 yX12_isLearnt ∈ mTbl := mTbl_w kt8 (List.mem_of_getElem? (i := 19) rfl) rfl
theorem lX12_469 : Cond.methodLink RX12 469 yX12_shapeOf ∈ mTbl := mTbl_w kt8 (List.mem_of_getElem? (i := 23) rfl) rfl
theorem lL_83 : Cond.methodLink RL 83 yX12_rule ∈ mTbl := mTbl_w kt8 (List.mem_of_getElem? (i := 27) rfl) rfl
theorem lX12_472 : Cond.methodLink RX12 472 yX12_learntItem ∈ mTbl := mTbl_w kt8 (List.mem_of_getElem? (i := 31) rfl) rfl
theorem lL_108 : Cond.methodLink RL 108 yX12_stale ∈ mTbl := mTbl_w kt8 (List.mem_of_getElem? (i := 35) rfl) rfl
theorem lL_112 : Cond.methodLink RL 112 yX12_cut ∈ mTbl := mTbl_w kt8 (List.mem_of_getElem? (i := 39) rfl) rfl
theorem lX12_485 : Cond.methodLink RX12 485 yX12_canCut ∈ mTbl := mTbl_w kt8 (List.mem_of_getElem? (i := 43) rfl) rfl
theorem lX12_488 : Cond.methodLink RX12 488 yX12_cutsPage ∈ mTbl := mTbl_w kt8 (List.mem_of_getElem? (i := 47) rfl) rfl
theorem lX12_482 : Cond.methodLink RX12 482 yX12_cutsRow ∈ mTbl := mTbl_w kt8 (List.mem_of_getElem? (i := 51) rfl) rfl
theorem lX12_478 : Cond.methodLink RX12 478 yX12_cutsBy ∈ mTbl := mTbl_w kt8 (List.mem_of_getElem? (i := 55) rfl) rfl
theorem lL_116 : Cond.methodLink RL 116 yX12_by ∈ mTbl := mTbl_w kt8 (List.mem_of_getElem? (i := 59) rfl) rfl
theorem lL_120 : Cond.methodLink RL 120 yX12_letter ∈ mTbl := mTbl_w kt8 (List.mem_of_getElem? (i := 63) rfl) rfl
theorem lX12_497 : Cond.methodLink RX12 497 yX12_laysLetters ∈ mTbl := mTbl_w kt8 (List.mem_of_getElem? (i := 67) rfl) rfl
theorem lX12_494 : Cond.methodLink RX12 494 yX12_says ∈ mTbl := mTbl_w kt8 (List.mem_of_getElem? (i := 71) rfl) rfl
theorem lL_124 : Cond.methodLink RL 124 yX12_pattern ∈ mTbl := mTbl_w kt8 (List.mem_of_getElem? (i := 75) rfl) rfl
theorem lL_132 : Cond.methodLink RL 132 yX12_alike ∈ mTbl := mTbl_w kt8 (List.mem_of_getElem? (i := 79) rfl) rfl
theorem lL_136 : Cond.methodLink RL 136 yX12_drift ∈ mTbl := mTbl_w kt8 (List.mem_of_getElem? (i := 83) rfl) rfl
theorem lX12_503 : Cond.methodLink RX12 503 yX12_driftOf ∈ mTbl := mTbl_w kt8 (List.mem_of_getElem? (i := 87) rfl) rfl
theorem lX12_500 : Cond.methodLink RX12 500 yX12_driftOfCuts ∈ mTbl := mTbl_w kt8 (List.mem_of_getElem? (i := 91) rfl) rfl
theorem lL_140 : Cond.methodLink RL 140 yX12_strange ∈ mTbl := mTbl_w kt8 (List.mem_of_getElem? (i := 95) rfl) rfl
theorem lL_144 : Cond.methodLink RL 144 yX12_sturdy ∈ mTbl := mTbl_w kt8 (List.mem_of_getElem? (i := 99) rfl) rfl
theorem lL_148 : Cond.methodLink RL 148 yX12_right ∈ mTbl := mTbl_w kt8 (List.mem_of_getElem? (i := 103) rfl) rfl
theorem lL_156 : Cond.methodLink RL 156 yX12_opinion ∈ mTbl := mTbl_w kt8 (List.mem_of_getElem? (i := 107) rfl) rfl
theorem lX12_526 : Cond.methodLink RX12 526 yX12_laysVotes ∈ mTbl := mTbl_w kt8 (List.mem_of_getElem? (i := 111) rfl) rfl
theorem lX12_520 : Cond.methodLink RX12 520 yX12_laysRegion ∈ mTbl := mTbl_w kt8 (List.mem_of_getElem? (i := 115) rfl) rfl
theorem lX12_523 : Cond.methodLink RX12 523 yX12_votes ∈ mTbl := mTbl_w kt8 (List.mem_of_getElem? (i := 119) rfl) rfl
theorem lX12_512 : Cond.methodLink RX12 512 yX12_packed ∈ mTbl := mTbl_w kt8 (List.mem_of_getElem? (i := 123) rfl) rfl
theorem lX12_515 : Cond.constantLong RX12 515 (40503) ∈ mTbl := mTbl_w kt8 (List.mem_of_getElem? (i := 127) rfl) rfl
theorem lX12_529 : Cond.methodLink RX12 529 yX12_mostVoted ∈ mTbl := mTbl_w kt8 (List.mem_of_getElem? (i := 128) rfl) rfl
theorem lX12_532 : Cond.constantLong RX12 532 (4096) ∈ mTbl := mTbl_w kt8 (List.mem_of_getElem? (i := 132) rfl) rfl
theorem lX12_534 : Cond.constantLong RX12 534 (4095) ∈ mTbl := mTbl_w kt8 (List.mem_of_getElem? (i := 133) rfl) rfl
theorem lL_128 : Cond.methodLink RL 128 yX12_proposed ∈ mTbl := mTbl_w kt8 (List.mem_of_getElem? (i := 134) rfl) rfl
theorem lX12_539 : Cond.methodLink RX12 539 yX12_laysProposed ∈ mTbl := mTbl_w kt8 (List.mem_of_getElem? (i := 138) rfl) rfl
theorem lX12_536 : Cond.methodLink RX12 536 yX12_laysParts ∈ mTbl := mTbl_w kt8 (List.mem_of_getElem? (i := 142) rfl) rfl
theorem lL_66 : Cond.methodLink RL 66 yX12_take ∈ mTbl := mTbl_w kt8 (List.mem_of_getElem? (i := 146) rfl) rfl
theorem lX12_542 : Cond.methodLink RX12 542 yX12_isWithinParent ∈ mTbl := mTbl_w kt8 (List.mem_of_getElem? (i := 150) rfl) rfl
theorem lL_160 : Cond.methodLink RL 160 yX12_next ∈ mTbl := mTbl_w kt8 (List.mem_of_getElem? (i := 154) rfl) rfl
theorem lL_164 : Cond.methodLink RL 164 yX12_without ∈ mTbl := mTbl_w kt8 (List.mem_of_getElem? (i := 158) rfl) rfl
theorem lL_168 : Cond.methodLink RL 168 yX12_image ∈ mTbl := mTbl_w kt8 (List.mem_of_getElem? (i := 162) rfl) rfl
theorem lX12_545 : Cond.methodLink RX12 545 yX12_allParts ∈ mTbl := mTbl_w kt8 (List.mem_of_getElem? (i := 166) rfl) rfl
theorem lL_172 : Cond.methodLink RL 172 yX12_back ∈ mTbl := mTbl_w kt8 (List.mem_of_getElem? (i := 170) rfl) rfl
theorem lL_176 : Cond.methodLink RL 176 yX12_about ∈ mTbl := mTbl_w kt8 (List.mem_of_getElem? (i := 174) rfl) rfl
theorem lX12_548 : Cond.methodLink RX12 548 yX12_unlikeTokens ∈ mTbl := mTbl_w kt8 (List.mem_of_getElem? (i := 178) rfl) rfl
theorem lX12_551 : Cond.methodLink RX12 551 yX12_learntFields ∈ mTbl := mTbl_w kt8 (List.mem_of_getElem? (i := 182) rfl) rfl
theorem wOi : Cond.instanceMethod objectInit ∈ mTbl := mTbl_w kt1 (List.mem_of_getElem? (i := 25) rfl) rfl
theorem wOc : Cond.code objectInit ⟨#[0xb1]⟩ 1 none ∈ mTbl := mTbl_w kt1 (List.mem_of_getElem? (i := 26) rfl) rfl
theorem wCn : Cond.native arraycopyName ∈ mTbl := mTbl_w kt3 (List.mem_of_getElem? (i := 28) rfl) rfl
theorem wCs : Cond.static arraycopyName ∈ mTbl := mTbl_w kt3 (List.mem_of_getElem? (i := 27) rfl) rfl
theorem wCi : Cond.initialized "java/lang/System" ∈ mTbl := mTbl_w kt1 (List.mem_of_getElem? (i := 14) rfl) rfl
theorem wKn : Cond.native ⟨"java/lang/Object", "clone", "()Ljava/lang/Object;"⟩ ∈ mTbl := mTbl_w kt3 (List.mem_of_getElem? (i := 48) rfl) rfl
theorem wKi : Cond.instanceMethod ⟨"java/lang/Object", "clone", "()Ljava/lang/Object;"⟩ ∈ mTbl := mTbl_w kt3 (List.mem_of_getElem? (i := 49) rfl) rfl
theorem wKmJ : Cond.sameMethod "[J" "java/lang/Object" "clone" "()Ljava/lang/Object;" ∈ mTbl := mTbl_w kt3 (List.mem_of_getElem? (i := 47) rfl) rfl
theorem wKsJ : Cond.selects "[J" ⟨"[J", "clone", "()Ljava/lang/Object;"⟩ ⟨"java/lang/Object", "clone", "()Ljava/lang/Object;"⟩ ∈ mTbl := mTbl_w kt3 (List.mem_of_getElem? (i := 50) rfl) rfl
theorem wKmI : Cond.sameMethod "[I" "java/lang/Object" "clone" "()Ljava/lang/Object;" ∈ mTbl := mTbl_w kt4 (List.mem_of_getElem? (i := 186) rfl) rfl
theorem wKsI : Cond.selects "[I" ⟨"[I", "clone", "()Ljava/lang/Object;"⟩ ⟨"java/lang/Object", "clone", "()Ljava/lang/Object;"⟩ ∈ mTbl := mTbl_w kt4 (List.mem_of_getElem? (i := 187) rfl) rfl
