theorem wg_1033 : Cond.methodLink RX0 1 objectInit ∈ lw_good := List.mem_filter.mpr ⟨List.mem_of_getElem? (i := 1033) (by decide +kernel), by decide +kernel⟩
theorem wg_98 : Cond.instanceMethod objectInit ∈ lw_good := List.mem_filter.mpr ⟨List.mem_of_getElem? (i := 98) (by decide +kernel), by decide +kernel⟩
theorem wg_99 : Cond.code objectInit ⟨#[0xb1]⟩ 1 none ∈ lw_good := List.mem_filter.mpr ⟨List.mem_of_getElem? (i := 99) (by decide +kernel), by decide +kernel⟩
theorem wg_1040 : Cond.fieldLink RX0 7 RX0 "wasLoaded" "Z" ∈ lw_good := List.mem_filter.mpr ⟨List.mem_of_getElem? (i := 1040) (by decide +kernel), by decide +kernel⟩
theorem fl_RX0_7 : FLk RX0 7 RX0 TX0 3 := FLk.link RX0 wg_1040 rfl
theorem fi_1 : ∀ w ∈ u_ws RX0 TX0 4, w ∈ lw_good := fun w hw => List.mem_filter.mpr (by
  have h : (u_ws RX0 TX0 4).all (fun w => decide (w ∈ lw_tbl) && goodWord w) = true := by decide +kernel
  have h2 := List.all_eq_true.mp h w hw
  rw [Bool.and_eq_true, decide_eq_true_eq] at h2
  exact h2)
theorem fp_1 : FP 1 TX0 4 := ⟨by decide +kernel, by decide +kernel⟩
theorem fn_1 : vwCl[1]? = some (RX0, TX0, 4) ∧ clN 1 = 4 ∧ 1 < 20 ∧ (∀ w ∈ u_ws RX0 TX0 4, w ∈ lw_good) := ⟨rfl, rfl, by decide, fi_1⟩
theorem fd_1 : ∀ k, k < 4 → defaultValue (clT 1 k) = if refT (clT 1 k) = true then .null else .int 0 := by decide +kernel
theorem fo_1_3 : FO 1 3 RX0 TX0 4 := ⟨rfl, rfl, by decide, by decide, fi_1⟩
theorem wg_1034 : Cond.fieldLink RX0 13 RX0 "from" "I" ∈ lw_good := List.mem_filter.mpr ⟨List.mem_of_getElem? (i := 1034) (by decide +kernel), by decide +kernel⟩
theorem fl_RX0_13 : FLk RX0 13 RX0 TX0 0 := FLk.link RX0 wg_1034 rfl
theorem fo_1_0 : FO 1 0 RX0 TX0 4 := ⟨rfl, rfl, by decide, by decide, fi_1⟩
theorem wg_1036 : Cond.fieldLink RX0 17 RX0 "to" "I" ∈ lw_good := List.mem_filter.mpr ⟨List.mem_of_getElem? (i := 1036) (by decide +kernel), by decide +kernel⟩
theorem fl_RX0_17 : FLk RX0 17 RX0 TX0 1 := FLk.link RX0 wg_1036 rfl
theorem fo_1_1 : FO 1 1 RX0 TX0 4 := ⟨rfl, rfl, by decide, by decide, fi_1⟩
theorem wg_1038 : Cond.fieldLink RX0 20 RX0 "rate" "I" ∈ lw_good := List.mem_filter.mpr ⟨List.mem_of_getElem? (i := 1038) (by decide +kernel), by decide +kernel⟩
theorem fl_RX0_20 : FLk RX0 20 RX0 TX0 2 := FLk.link RX0 wg_1038 rfl
theorem fo_1_2 : FO 1 2 RX0 TX0 4 := ⟨rfl, rfl, by decide, by decide, fi_1⟩
theorem wg_484 : Cond.fieldLink RX1 37 RX1 "clearAt" "I" ∈ lw_good := List.mem_filter.mpr ⟨List.mem_of_getElem? (i := 484) (by decide +kernel), by decide +kernel⟩
theorem fl_RX1_37 : FLk RX1 37 RX1 TX1 12 := FLk.link RX1 wg_484 rfl
theorem fi_2 : ∀ w ∈ u_ws RX1 TX1 13, w ∈ lw_good := fun w hw => List.mem_filter.mpr (by
  have h : (u_ws RX1 TX1 13).all (fun w => decide (w ∈ lw_tbl) && goodWord w) = true := by decide +kernel
  have h2 := List.all_eq_true.mp h w hw
  rw [Bool.and_eq_true, decide_eq_true_eq] at h2
  exact h2)
theorem fp_2 : FP 2 TX1 13 := ⟨by decide +kernel, by decide +kernel⟩
theorem fn_2 : vwCl[2]? = some (RX1, TX1, 13) ∧ clN 2 = 13 ∧ 2 < 20 ∧ (∀ w ∈ u_ws RX1 TX1 13, w ∈ lw_good) := ⟨rfl, rfl, by decide, fi_2⟩
theorem fd_2 : ∀ k, k < 13 → defaultValue (clT 2 k) = if refT (clT 2 k) = true then .null else .int 0 := by decide +kernel
theorem fo_2_12 : FO 2 12 RX1 TX1 13 := ⟨rfl, rfl, by decide, by decide, fi_2⟩
theorem wg_482 : Cond.fieldLink RX1 34 RX1 "holder" "I" ∈ lw_good := List.mem_filter.mpr ⟨List.mem_of_getElem? (i := 482) (by decide +kernel), by decide +kernel⟩
theorem fl_RX1_34 : FLk RX1 34 RX1 TX1 11 := FLk.link RX1 wg_482 rfl
theorem fo_2_11 : FO 2 11 RX1 TX1 13 := ⟨rfl, rfl, by decide, by decide, fi_2⟩
theorem wg_459 : Cond.methodLink RX1 3 objectInit ∈ lw_good := List.mem_filter.mpr ⟨List.mem_of_getElem? (i := 459) (by decide +kernel), by decide +kernel⟩
theorem wg_468 : Cond.fieldLink RX1 9 RX1 "wear" "I" ∈ lw_good := List.mem_filter.mpr ⟨List.mem_of_getElem? (i := 468) (by decide +kernel), by decide +kernel⟩
theorem fl_RX1_9 : FLk RX1 9 RX1 TX1 4 := FLk.link RX1 wg_468 rfl
theorem fo_2_4 : FO 2 4 RX1 TX1 13 := ⟨rfl, rfl, by decide, by decide, fi_2⟩
theorem wg_470 : Cond.fieldLink RX1 15 RX1 "failed" "Z" ∈ lw_good := List.mem_filter.mpr ⟨List.mem_of_getElem? (i := 470) (by decide +kernel), by decide +kernel⟩
theorem fl_RX1_15 : FLk RX1 15 RX1 TX1 5 := FLk.link RX1 wg_470 rfl
theorem fo_2_5 : FO 2 5 RX1 TX1 13 := ⟨rfl, rfl, by decide, by decide, fi_2⟩
theorem wg_472 : Cond.fieldLink RX1 19 RX1 "flagged" "Z" ∈ lw_good := List.mem_filter.mpr ⟨List.mem_of_getElem? (i := 472) (by decide +kernel), by decide +kernel⟩
theorem fl_RX1_19 : FLk RX1 19 RX1 TX1 6 := FLk.link RX1 wg_472 rfl
theorem fo_2_6 : FO 2 6 RX1 TX1 13 := ⟨rfl, rfl, by decide, by decide, fi_2⟩
theorem wg_474 : Cond.fieldLink RX1 22 RX1 "othersFrom" "I" ∈ lw_good := List.mem_filter.mpr ⟨List.mem_of_getElem? (i := 474) (by decide +kernel), by decide +kernel⟩
theorem fl_RX1_22 : FLk RX1 22 RX1 TX1 7 := FLk.link RX1 wg_474 rfl
theorem fo_2_7 : FO 2 7 RX1 TX1 13 := ⟨rfl, rfl, by decide, by decide, fi_2⟩
theorem wg_476 : Cond.fieldLink RX1 25 RX1 "othersTo" "I" ∈ lw_good := List.mem_filter.mpr ⟨List.mem_of_getElem? (i := 476) (by decide +kernel), by decide +kernel⟩
theorem fl_RX1_25 : FLk RX1 25 RX1 TX1 8 := FLk.link RX1 wg_476 rfl
theorem fo_2_8 : FO 2 8 RX1 TX1 13 := ⟨rfl, rfl, by decide, by decide, fi_2⟩
theorem wg_478 : Cond.fieldLink RX1 28 RX1 "closedUntil" "I" ∈ lw_good := List.mem_filter.mpr ⟨List.mem_of_getElem? (i := 478) (by decide +kernel), by decide +kernel⟩
theorem fl_RX1_28 : FLk RX1 28 RX1 TX1 9 := FLk.link RX1 wg_478 rfl
theorem fo_2_9 : FO 2 9 RX1 TX1 13 := ⟨rfl, rfl, by decide, by decide, fi_2⟩
theorem wg_480 : Cond.fieldLink RX1 31 RX1 "hasWrecks" "Z" ∈ lw_good := List.mem_filter.mpr ⟨List.mem_of_getElem? (i := 480) (by decide +kernel), by decide +kernel⟩
theorem fl_RX1_31 : FLk RX1 31 RX1 TX1 10 := FLk.link RX1 wg_480 rfl
theorem fo_2_10 : FO 2 10 RX1 TX1 13 := ⟨rfl, rfl, by decide, by decide, fi_2⟩
theorem wg_460 : Cond.fieldLink RX1 40 RX1 "first" "I" ∈ lw_good := List.mem_filter.mpr ⟨List.mem_of_getElem? (i := 460) (by decide +kernel), by decide +kernel⟩
theorem fl_RX1_40 : FLk RX1 40 RX1 TX1 0 := FLk.link RX1 wg_460 rfl
theorem fo_2_0 : FO 2 0 RX1 TX1 13 := ⟨rfl, rfl, by decide, by decide, fi_2⟩
theorem wg_462 : Cond.fieldLink RX1 43 RX1 "second" "I" ∈ lw_good := List.mem_filter.mpr ⟨List.mem_of_getElem? (i := 462) (by decide +kernel), by decide +kernel⟩
theorem fl_RX1_43 : FLk RX1 43 RX1 TX1 1 := FLk.link RX1 wg_462 rfl
theorem fo_2_1 : FO 2 1 RX1 TX1 13 := ⟨rfl, rfl, by decide, by decide, fi_2⟩
theorem wg_464 : Cond.fieldLink RX1 46 RX1 "minutes" "I" ∈ lw_good := List.mem_filter.mpr ⟨List.mem_of_getElem? (i := 464) (by decide +kernel), by decide +kernel⟩
theorem fl_RX1_46 : FLk RX1 46 RX1 TX1 2 := FLk.link RX1 wg_464 rfl
theorem fo_2_2 : FO 2 2 RX1 TX1 13 := ⟨rfl, rfl, by decide, by decide, fi_2⟩
theorem wg_466 : Cond.fieldLink RX1 49 RX1 "grade" "I" ∈ lw_good := List.mem_filter.mpr ⟨List.mem_of_getElem? (i := 466) (by decide +kernel), by decide +kernel⟩
theorem fl_RX1_49 : FLk RX1 49 RX1 TX1 3 := FLk.link RX1 wg_466 rfl
theorem fo_2_3 : FO 2 3 RX1 TX1 13 := ⟨rfl, rfl, by decide, by decide, fi_2⟩
theorem wg_135 : Cond.methodLink RX5 3 objectInit ∈ lw_good := List.mem_filter.mpr ⟨List.mem_of_getElem? (i := 135) (by decide +kernel), by decide +kernel⟩
theorem wg_137 : Cond.fieldLink RX5 9 RX5 "count" "I" ∈ lw_good := List.mem_filter.mpr ⟨List.mem_of_getElem? (i := 137) (by decide +kernel), by decide +kernel⟩
theorem fl_RX5_9 : FLk RX5 9 RX5 TX5 1 := FLk.link RX5 wg_137 rfl
theorem fi_6 : ∀ w ∈ u_ws RX5 TX5 2, w ∈ lw_good := fun w hw => List.mem_filter.mpr (by
  have h : (u_ws RX5 TX5 2).all (fun w => decide (w ∈ lw_tbl) && goodWord w) = true := by decide +kernel
  have h2 := List.all_eq_true.mp h w hw
  rw [Bool.and_eq_true, decide_eq_true_eq] at h2
  exact h2)
theorem fp_6 : FP 6 TX5 2 := ⟨by decide +kernel, by decide +kernel⟩
theorem fn_6 : vwCl[6]? = some (RX5, TX5, 2) ∧ clN 6 = 2 ∧ 6 < 20 ∧ (∀ w ∈ u_ws RX5 TX5 2, w ∈ lw_good) := ⟨rfl, rfl, by decide, fi_6⟩
theorem fd_6 : ∀ k, k < 2 → defaultValue (clT 6 k) = if refT (clT 6 k) = true then .null else .int 0 := by decide +kernel
theorem fo_6_1 : FO 6 1 RX5 TX5 2 := ⟨rfl, rfl, by decide, by decide, fi_6⟩
theorem wg_145 : Cond.arrayClass ClassFile.FieldType.int ∈ lw_good := List.mem_filter.mpr ⟨List.mem_of_getElem? (i := 145) (by decide +kernel), by decide +kernel⟩
theorem wg_136 : Cond.fieldLink RX5 15 RX5 "items" "[I" ∈ lw_good := List.mem_filter.mpr ⟨List.mem_of_getElem? (i := 136) (by decide +kernel), by decide +kernel⟩
theorem fl_RX5_15 : FLk RX5 15 RX5 TX5 0 := FLk.link RX5 wg_136 rfl
theorem fo_6_0 : FO 6 0 RX5 TX5 2 := ⟨rfl, rfl, by decide, by decide, fi_6⟩
theorem wg_745 : Cond.methodLink RX2 3 objectInit ∈ lw_good := List.mem_filter.mpr ⟨List.mem_of_getElem? (i := 745) (by decide +kernel), by decide +kernel⟩
theorem wg_752 : Cond.fieldLink RX2 9 RX2 "train" "I" ∈ lw_good := List.mem_filter.mpr ⟨List.mem_of_getElem? (i := 752) (by decide +kernel), by decide +kernel⟩
theorem fl_RX2_9 : FLk RX2 9 RX2 TX2 2 := FLk.link RX2 wg_752 rfl
theorem fi_3 : ∀ w ∈ u_ws RX2 TX2 5, w ∈ lw_good := fun w hw => List.mem_filter.mpr (by
  have h : (u_ws RX2 TX2 5).all (fun w => decide (w ∈ lw_tbl) && goodWord w) = true := by decide +kernel
  have h2 := List.all_eq_true.mp h w hw
  rw [Bool.and_eq_true, decide_eq_true_eq] at h2
  exact h2)
theorem fp_3 : FP 3 TX2 5 := ⟨by decide +kernel, by decide +kernel⟩
theorem fn_3 : vwCl[3]? = some (RX2, TX2, 5) ∧ clN 3 = 5 ∧ 3 < 20 ∧ (∀ w ∈ u_ws RX2 TX2 5, w ∈ lw_good) := ⟨rfl, rfl, by decide, fi_3⟩
theorem fd_3 : ∀ k, k < 5 → defaultValue (clT 3 k) = if refT (clT 3 k) = true then .null else .int 0 := by decide +kernel
theorem fo_3_2 : FO 3 2 RX2 TX2 5 := ⟨rfl, rfl, by decide, by decide, fi_3⟩
theorem wg_754 : Cond.fieldLink RX2 15 RX2 "bill" "I" ∈ lw_good := List.mem_filter.mpr ⟨List.mem_of_getElem? (i := 754) (by decide +kernel), by decide +kernel⟩
theorem fl_RX2_15 : FLk RX2 15 RX2 TX2 3 := FLk.link RX2 wg_754 rfl
theorem fo_3_3 : FO 3 3 RX2 TX2 5 := ⟨rfl, rfl, by decide, by decide, fi_3⟩
theorem wg_131 : Cond.instantiable RX5 2 ∈ lw_good := List.mem_filter.mpr ⟨List.mem_of_getElem? (i := 131) (by decide +kernel), by decide +kernel⟩
theorem wg_70 : Cond.initialized RX5 ∈ lw_good := List.mem_filter.mpr ⟨List.mem_of_getElem? (i := 70) (by decide +kernel), by decide +kernel⟩
theorem wg_746 : Cond.classLink RX2 18 RX5 ∈ lw_good := List.mem_filter.mpr ⟨List.mem_of_getElem? (i := 746) (by decide +kernel), by decide +kernel⟩
theorem wg_756 : Cond.fieldLink RX2 23 RX2 "papers" "LIronbark$Row;" ∈ lw_good := List.mem_filter.mpr ⟨List.mem_of_getElem? (i := 756) (by decide +kernel), by decide +kernel⟩
theorem fl_RX2_23 : FLk RX2 23 RX2 TX2 4 := FLk.link RX2 wg_756 rfl
theorem fo_3_4 : FO 3 4 RX2 TX2 5 := ⟨rfl, rfl, by decide, by decide, fi_3⟩
theorem wg_748 : Cond.fieldLink RX2 27 RX2 "home" "I" ∈ lw_good := List.mem_filter.mpr ⟨List.mem_of_getElem? (i := 748) (by decide +kernel), by decide +kernel⟩
theorem fl_RX2_27 : FLk RX2 27 RX2 TX2 0 := FLk.link RX2 wg_748 rfl
theorem fo_3_0 : FO 3 0 RX2 TX2 5 := ⟨rfl, rfl, by decide, by decide, fi_3⟩
theorem wg_750 : Cond.fieldLink RX2 30 RX2 "station" "I" ∈ lw_good := List.mem_filter.mpr ⟨List.mem_of_getElem? (i := 750) (by decide +kernel), by decide +kernel⟩
theorem fl_RX2_30 : FLk RX2 30 RX2 TX2 1 := FLk.link RX2 wg_750 rfl
theorem fo_3_1 : FO 3 1 RX2 TX2 5 := ⟨rfl, rfl, by decide, by decide, fi_3⟩
theorem wg_134 : Cond.code yX5_init cX5_init 2 none ∈ lw_good := List.mem_filter.mpr ⟨List.mem_of_getElem? (i := 134) (by decide +kernel), by decide +kernel⟩
theorem mi_X5_init : MI yX5_init cX5_init 2 none 1 := ⟨wg_134, wg_70, by decide +kernel, by decide +kernel⟩
theorem wg_747 : Cond.methodLink RX2 20 yX5_init ∈ lw_good := List.mem_filter.mpr ⟨List.mem_of_getElem? (i := 747) (by decide +kernel), by decide +kernel⟩
theorem wg_133 : Cond.instanceMethod yX5_init ∈ lw_good := List.mem_filter.mpr ⟨List.mem_of_getElem? (i := 133) (by decide +kernel), by decide +kernel⟩
theorem wg_566 : Cond.methodLink RJ7 304 yJ9_min_7cf53 ∈ lw_good := List.mem_filter.mpr ⟨List.mem_of_getElem? (i := 566) (by decide +kernel), by decide +kernel⟩
theorem wg_569 : Cond.methodLink RJ7 150 ⟨RJ10, "arraycopy", "(Ljava/lang/Object;ILjava/lang/Object;II)V"⟩ ∈ lw_good := List.mem_filter.mpr ⟨List.mem_of_getElem? (i := 569) (by decide +kernel), by decide +kernel⟩
theorem wg_779 : Cond.code yJ7_copyOf_59c91 cJ7_copyOf_59c91 3 (some (.array .int)) ∈ lw_good := List.mem_filter.mpr ⟨List.mem_of_getElem? (i := 779) (by decide +kernel), by decide +kernel⟩
theorem wg_73 : Cond.initialized RJ7 ∈ lw_good := List.mem_filter.mpr ⟨List.mem_of_getElem? (i := 73) (by decide +kernel), by decide +kernel⟩
theorem mi_J7_copyOf_59c91 : MI yJ7_copyOf_59c91 cJ7_copyOf_59c91 3 (some (.array .int)) 2 := ⟨wg_779, wg_73, by decide +kernel, by decide +kernel⟩
theorem wg_777 : Cond.methodLink RX5 19 yJ7_copyOf_59c91 ∈ lw_good := List.mem_filter.mpr ⟨List.mem_of_getElem? (i := 777) (by decide +kernel), by decide +kernel⟩
theorem wg_778 : Cond.static yJ7_copyOf_59c91 ∈ lw_good := List.mem_filter.mpr ⟨List.mem_of_getElem? (i := 778) (by decide +kernel), by decide +kernel⟩
theorem wg_776 : Cond.code yX5_append cX5_append 2 none ∈ lw_good := List.mem_filter.mpr ⟨List.mem_of_getElem? (i := 776) (by decide +kernel), by decide +kernel⟩
theorem mi_X5_append : MI yX5_append cX5_append 2 none 1 := ⟨wg_776, wg_70, by decide +kernel, by decide +kernel⟩
theorem wg_773 : Cond.methodLink RX2 33 yX5_append ∈ lw_good := List.mem_filter.mpr ⟨List.mem_of_getElem? (i := 773) (by decide +kernel), by decide +kernel⟩
theorem wg_774 : Cond.instanceMethod yX5_append ∈ lw_good := List.mem_filter.mpr ⟨List.mem_of_getElem? (i := 774) (by decide +kernel), by decide +kernel⟩
theorem wg_775 : Cond.selects RX5 yX5_append yX5_append ∈ lw_good := List.mem_filter.mpr ⟨List.mem_of_getElem? (i := 775) (by decide +kernel), by decide +kernel⟩
theorem wg_666 : Cond.methodLink RX3 3 objectInit ∈ lw_good := List.mem_filter.mpr ⟨List.mem_of_getElem? (i := 666) (by decide +kernel), by decide +kernel⟩
theorem wg_669 : Cond.fieldLink RX3 9 RX3 "train" "I" ∈ lw_good := List.mem_filter.mpr ⟨List.mem_of_getElem? (i := 669) (by decide +kernel), by decide +kernel⟩
theorem fl_RX3_9 : FLk RX3 9 RX3 TX3 1 := FLk.link RX3 wg_669 rfl
theorem fi_4 : ∀ w ∈ u_ws RX3 TX3 5, w ∈ lw_good := fun w hw => List.mem_filter.mpr (by
  have h : (u_ws RX3 TX3 5).all (fun w => decide (w ∈ lw_tbl) && goodWord w) = true := by decide +kernel
  have h2 := List.all_eq_true.mp h w hw
  rw [Bool.and_eq_true, decide_eq_true_eq] at h2
  exact h2)
theorem fp_4 : FP 4 TX3 5 := ⟨by decide +kernel, by decide +kernel⟩
theorem fn_4 : vwCl[4]? = some (RX3, TX3, 5) ∧ clN 4 = 5 ∧ 4 < 20 ∧ (∀ w ∈ u_ws RX3 TX3 5, w ∈ lw_good) := ⟨rfl, rfl, by decide, fi_4⟩
theorem fd_4 : ∀ k, k < 5 → defaultValue (clT 4 k) = if refT (clT 4 k) = true then .null else .int 0 := by decide +kernel
theorem fo_4_1 : FO 4 1 RX3 TX3 5 := ⟨rfl, rfl, by decide, by decide, fi_4⟩
theorem wg_671 : Cond.fieldLink RX3 15 RX3 "known" "I" ∈ lw_good := List.mem_filter.mpr ⟨List.mem_of_getElem? (i := 671) (by decide +kernel), by decide +kernel⟩
theorem fl_RX3_15 : FLk RX3 15 RX3 TX3 2 := FLk.link RX3 wg_671 rfl
theorem fo_4_2 : FO 4 2 RX3 TX3 5 := ⟨rfl, rfl, by decide, by decide, fi_4⟩
theorem wg_673 : Cond.fieldLink RX3 18 RX3 "duty" "I" ∈ lw_good := List.mem_filter.mpr ⟨List.mem_of_getElem? (i := 673) (by decide +kernel), by decide +kernel⟩
theorem fl_RX3_18 : FLk RX3 18 RX3 TX3 3 := FLk.link RX3 wg_673 rfl
theorem fo_4_3 : FO 4 3 RX3 TX3 5 := ⟨rfl, rfl, by decide, by decide, fi_4⟩
theorem wg_675 : Cond.fieldLink RX3 21 RX3 "restEnd" "I" ∈ lw_good := List.mem_filter.mpr ⟨List.mem_of_getElem? (i := 675) (by decide +kernel), by decide +kernel⟩
theorem fl_RX3_21 : FLk RX3 21 RX3 TX3 4 := FLk.link RX3 wg_675 rfl
theorem fo_4_4 : FO 4 4 RX3 TX3 5 := ⟨rfl, rfl, by decide, by decide, fi_4⟩
theorem wg_667 : Cond.fieldLink RX3 24 RX3 "station" "I" ∈ lw_good := List.mem_filter.mpr ⟨List.mem_of_getElem? (i := 667) (by decide +kernel), by decide +kernel⟩
theorem fl_RX3_24 : FLk RX3 24 RX3 TX3 0 := FLk.link RX3 wg_667 rfl
theorem fo_4_0 : FO 4 0 RX3 TX3 5 := ⟨rfl, rfl, by decide, by decide, fi_4⟩
theorem wg_640 : Cond.methodLink RX4 3 objectInit ∈ lw_good := List.mem_filter.mpr ⟨List.mem_of_getElem? (i := 640) (by decide +kernel), by decide +kernel⟩
theorem wg_645 : Cond.fieldLink RX4 9 RX4 "train" "I" ∈ lw_good := List.mem_filter.mpr ⟨List.mem_of_getElem? (i := 645) (by decide +kernel), by decide +kernel⟩
theorem fl_RX4_9 : FLk RX4 9 RX4 TX4 2 := FLk.link RX4 wg_645 rfl
theorem fi_5 : ∀ w ∈ u_ws RX4 TX4 3, w ∈ lw_good := fun w hw => List.mem_filter.mpr (by
  have h : (u_ws RX4 TX4 3).all (fun w => decide (w ∈ lw_tbl) && goodWord w) = true := by decide +kernel
  have h2 := List.all_eq_true.mp h w hw
  rw [Bool.and_eq_true, decide_eq_true_eq] at h2
  exact h2)
theorem fp_5 : FP 5 TX4 3 := ⟨by decide +kernel, by decide +kernel⟩
theorem fn_5 : vwCl[5]? = some (RX4, TX4, 3) ∧ clN 5 = 3 ∧ 5 < 20 ∧ (∀ w ∈ u_ws RX4 TX4 3, w ∈ lw_good) := ⟨rfl, rfl, by decide, fi_5⟩
theorem fd_5 : ∀ k, k < 3 → defaultValue (clT 5 k) = if refT (clT 5 k) = true then .null else .int 0 := by decide +kernel
theorem fo_5_2 : FO 5 2 RX4 TX4 3 := ⟨rfl, rfl, by decide, by decide, fi_5⟩
theorem wg_643 : Cond.fieldLink RX4 15 RX4 "station" "I" ∈ lw_good := List.mem_filter.mpr ⟨List.mem_of_getElem? (i := 643) (by decide +kernel), by decide +kernel⟩
theorem fl_RX4_15 : FLk RX4 15 RX4 TX4 1 := FLk.link RX4 wg_643 rfl
theorem fo_5_1 : FO 5 1 RX4 TX4 3 := ⟨rfl, rfl, by decide, by decide, fi_5⟩
theorem wg_641 : Cond.fieldLink RX4 18 RX4 "power" "I" ∈ lw_good := List.mem_filter.mpr ⟨List.mem_of_getElem? (i := 641) (by decide +kernel), by decide +kernel⟩
theorem fl_RX4_18 : FLk RX4 18 RX4 TX4 0 := FLk.link RX4 wg_641 rfl
theorem fo_5_0 : FO 5 0 RX4 TX4 3 := ⟨rfl, rfl, by decide, by decide, fi_5⟩
theorem wg_829 : Cond.code yX5_empty cX5_empty 1 none ∈ lw_good := List.mem_filter.mpr ⟨List.mem_of_getElem? (i := 829) (by decide +kernel), by decide +kernel⟩
theorem mi_X5_empty : MI yX5_empty cX5_empty 1 none 0 := ⟨wg_829, wg_70, by decide +kernel, by decide +kernel⟩
theorem wg_906 : Cond.methodLink RX5 25 yX5_empty ∈ lw_good := List.mem_filter.mpr ⟨List.mem_of_getElem? (i := 906) (by decide +kernel), by decide +kernel⟩
theorem wg_827 : Cond.instanceMethod yX5_empty ∈ lw_good := List.mem_filter.mpr ⟨List.mem_of_getElem? (i := 827) (by decide +kernel), by decide +kernel⟩
theorem wg_828 : Cond.selects RX5 yX5_empty yX5_empty ∈ lw_good := List.mem_filter.mpr ⟨List.mem_of_getElem? (i := 828) (by decide +kernel), by decide +kernel⟩
theorem wg_908 : Cond.methodLink RX5 32 yX5_append ∈ lw_good := List.mem_filter.mpr ⟨List.mem_of_getElem? (i := 908) (by decide +kernel), by decide +kernel⟩
theorem wg_897 : Cond.code yX5_at cX5_at 2 (some .int) ∈ lw_good := List.mem_filter.mpr ⟨List.mem_of_getElem? (i := 897) (by decide +kernel), by decide +kernel⟩
theorem mi_X5_at : MI yX5_at cX5_at 2 (some .int) 1 := ⟨wg_897, wg_70, by decide +kernel, by decide +kernel⟩
theorem wg_907 : Cond.methodLink RX5 28 yX5_at ∈ lw_good := List.mem_filter.mpr ⟨List.mem_of_getElem? (i := 907) (by decide +kernel), by decide +kernel⟩
theorem wg_895 : Cond.instanceMethod yX5_at ∈ lw_good := List.mem_filter.mpr ⟨List.mem_of_getElem? (i := 895) (by decide +kernel), by decide +kernel⟩
theorem wg_896 : Cond.selects RX5 yX5_at yX5_at ∈ lw_good := List.mem_filter.mpr ⟨List.mem_of_getElem? (i := 896) (by decide +kernel), by decide +kernel⟩
theorem wg_150 : Cond.methodLink RX6 1 objectInit ∈ lw_good := List.mem_filter.mpr ⟨List.mem_of_getElem? (i := 150) (by decide +kernel), by decide +kernel⟩
theorem wg_153 : Cond.fieldLink RX6 7 RX6 "tracks" "I" ∈ lw_good := List.mem_filter.mpr ⟨List.mem_of_getElem? (i := 153) (by decide +kernel), by decide +kernel⟩
theorem fl_RX6_7 : FLk RX6 7 RX6 TX6 0 := FLk.link RX6 wg_153 rfl
theorem fi_7 : ∀ w ∈ u_ws RX6 TX6 2, w ∈ lw_good := fun w hw => List.mem_filter.mpr (by
  have h : (u_ws RX6 TX6 2).all (fun w => decide (w ∈ lw_tbl) && goodWord w) = true := by decide +kernel
  have h2 := List.all_eq_true.mp h w hw
  rw [Bool.and_eq_true, decide_eq_true_eq] at h2
  exact h2)
theorem fp_7 : FP 7 TX6 2 := ⟨by decide +kernel, by decide +kernel⟩
theorem fn_7 : vwCl[7]? = some (RX6, TX6, 2) ∧ clN 7 = 2 ∧ 7 < 20 ∧ (∀ w ∈ u_ws RX6 TX6 2, w ∈ lw_good) := ⟨rfl, rfl, by decide, fi_7⟩
theorem fd_7 : ∀ k, k < 2 → defaultValue (clT 7 k) = if refT (clT 7 k) = true then .null else .int 0 := by decide +kernel
theorem fo_7_0 : FO 7 0 RX6 TX6 2 := ⟨rfl, rfl, by decide, by decide, fi_7⟩
theorem wg_151 : Cond.classLink RX6 13 RX5 ∈ lw_good := List.mem_filter.mpr ⟨List.mem_of_getElem? (i := 151) (by decide +kernel), by decide +kernel⟩
theorem wg_155 : Cond.fieldLink RX6 18 RX6 "yard" "LIronbark$Row;" ∈ lw_good := List.mem_filter.mpr ⟨List.mem_of_getElem? (i := 155) (by decide +kernel), by decide +kernel⟩
theorem fl_RX6_18 : FLk RX6 18 RX6 TX6 1 := FLk.link RX6 wg_155 rfl
theorem fo_7_1 : FO 7 1 RX6 TX6 2 := ⟨rfl, rfl, by decide, by decide, fi_7⟩
theorem wg_152 : Cond.methodLink RX6 15 yX5_init ∈ lw_good := List.mem_filter.mpr ⟨List.mem_of_getElem? (i := 152) (by decide +kernel), by decide +kernel⟩
theorem wg_171 : Cond.fieldLink RX7 9 RX7 "state" "I" ∈ lw_good := List.mem_filter.mpr ⟨List.mem_of_getElem? (i := 171) (by decide +kernel), by decide +kernel⟩
theorem fl_RX7_9 : FLk RX7 9 RX7 TX7 1 := FLk.link RX7 wg_171 rfl
theorem fi_8 : ∀ w ∈ u_ws RX7 TX7 17, w ∈ lw_good := fun w hw => List.mem_filter.mpr (by
  have h : (u_ws RX7 TX7 17).all (fun w => decide (w ∈ lw_tbl) && goodWord w) = true := by decide +kernel
  have h2 := List.all_eq_true.mp h w hw
  rw [Bool.and_eq_true, decide_eq_true_eq] at h2
  exact h2)
theorem fp_8 : FP 8 TX7 17 := ⟨by decide +kernel, by decide +kernel⟩
theorem fn_8 : vwCl[8]? = some (RX7, TX7, 17) ∧ clN 8 = 17 ∧ 8 < 20 ∧ (∀ w ∈ u_ws RX7 TX7 17, w ∈ lw_good) := ⟨rfl, rfl, by decide, fi_8⟩
theorem fd_8 : ∀ k, k < 17 → defaultValue (clT 8 k) = if refT (clT 8 k) = true then .null else .int 0 := by decide +kernel
theorem fo_8_1 : FO 8 1 RX7 TX7 17 := ⟨rfl, rfl, by decide, by decide, fi_8⟩
theorem wg_201 : Cond.fieldLink RX7 63 RX7 "clearAt" "[I" ∈ lw_good := List.mem_filter.mpr ⟨List.mem_of_getElem? (i := 201) (by decide +kernel), by decide +kernel⟩
theorem fl_RX7_63 : FLk RX7 63 RX7 TX7 16 := FLk.link RX7 wg_201 rfl
theorem fo_8_16 : FO 8 16 RX7 TX7 17 := ⟨rfl, rfl, by decide, by decide, fi_8⟩
theorem wg_181 : Cond.fieldLink RX7 27 RX7 "block" "I" ∈ lw_good := List.mem_filter.mpr ⟨List.mem_of_getElem? (i := 181) (by decide +kernel), by decide +kernel⟩
theorem fl_RX7_27 : FLk RX7 27 RX7 TX7 6 := FLk.link RX7 wg_181 rfl
theorem fo_8_6 : FO 8 6 RX7 TX7 17 := ⟨rfl, rfl, by decide, by decide, fi_8⟩
theorem wg_166 : Cond.methodLink RX7 3 objectInit ∈ lw_good := List.mem_filter.mpr ⟨List.mem_of_getElem? (i := 166) (by decide +kernel), by decide +kernel⟩
theorem wg_173 : Cond.fieldLink RX7 15 RX7 "engine" "I" ∈ lw_good := List.mem_filter.mpr ⟨List.mem_of_getElem? (i := 173) (by decide +kernel), by decide +kernel⟩
theorem fl_RX7_15 : FLk RX7 15 RX7 TX7 2 := FLk.link RX7 wg_173 rfl
theorem fo_8_2 : FO 8 2 RX7 TX7 17 := ⟨rfl, rfl, by decide, by decide, fi_8⟩
theorem wg_175 : Cond.fieldLink RX7 18 RX7 "crew" "I" ∈ lw_good := List.mem_filter.mpr ⟨List.mem_of_getElem? (i := 175) (by decide +kernel), by decide +kernel⟩
theorem fl_RX7_18 : FLk RX7 18 RX7 TX7 3 := FLk.link RX7 wg_175 rfl
theorem fo_8_3 : FO 8 3 RX7 TX7 17 := ⟨rfl, rfl, by decide, by decide, fi_8⟩
theorem wg_177 : Cond.fieldLink RX7 21 RX7 "power" "I" ∈ lw_good := List.mem_filter.mpr ⟨List.mem_of_getElem? (i := 177) (by decide +kernel), by decide +kernel⟩
theorem fl_RX7_21 : FLk RX7 21 RX7 TX7 4 := FLk.link RX7 wg_177 rfl
theorem fo_8_4 : FO 8 4 RX7 TX7 17 := ⟨rfl, rfl, by decide, by decide, fi_8⟩
theorem wg_179 : Cond.fieldLink RX7 24 RX7 "station" "I" ∈ lw_good := List.mem_filter.mpr ⟨List.mem_of_getElem? (i := 179) (by decide +kernel), by decide +kernel⟩
theorem fl_RX7_24 : FLk RX7 24 RX7 TX7 5 := FLk.link RX7 wg_179 rfl
theorem fo_8_5 : FO 8 5 RX7 TX7 17 := ⟨rfl, rfl, by decide, by decide, fi_8⟩
theorem wg_183 : Cond.fieldLink RX7 30 RX7 "arrival" "I" ∈ lw_good := List.mem_filter.mpr ⟨List.mem_of_getElem? (i := 183) (by decide +kernel), by decide +kernel⟩
theorem fl_RX7_30 : FLk RX7 30 RX7 TX7 7 := FLk.link RX7 wg_183 rfl
theorem fo_8_7 : FO 8 7 RX7 TX7 17 := ⟨rfl, rfl, by decide, by decide, fi_8⟩
theorem wg_185 : Cond.fieldLink RX7 33 RX7 "weight" "I" ∈ lw_good := List.mem_filter.mpr ⟨List.mem_of_getElem? (i := 185) (by decide +kernel), by decide +kernel⟩
theorem fl_RX7_33 : FLk RX7 33 RX7 TX7 8 := FLk.link RX7 wg_185 rfl
theorem fo_8_8 : FO 8 8 RX7 TX7 17 := ⟨rfl, rfl, by decide, by decide, fi_8⟩
theorem wg_167 : Cond.classLink RX7 36 RX5 ∈ lw_good := List.mem_filter.mpr ⟨List.mem_of_getElem? (i := 167) (by decide +kernel), by decide +kernel⟩
theorem wg_187 : Cond.fieldLink RX7 41 RX7 "cars" "LIronbark$Row;" ∈ lw_good := List.mem_filter.mpr ⟨List.mem_of_getElem? (i := 187) (by decide +kernel), by decide +kernel⟩
theorem fl_RX7_41 : FLk RX7 41 RX7 TX7 9 := FLk.link RX7 wg_187 rfl
theorem fo_8_9 : FO 8 9 RX7 TX7 17 := ⟨rfl, rfl, by decide, by decide, fi_8⟩
theorem wg_168 : Cond.methodLink RX7 38 yX5_init ∈ lw_good := List.mem_filter.mpr ⟨List.mem_of_getElem? (i := 168) (by decide +kernel), by decide +kernel⟩
theorem wg_189 : Cond.fieldLink RX7 45 RX7 "way" "LIronbark$Row;" ∈ lw_good := List.mem_filter.mpr ⟨List.mem_of_getElem? (i := 189) (by decide +kernel), by decide +kernel⟩
theorem fl_RX7_45 : FLk RX7 45 RX7 TX7 10 := FLk.link RX7 wg_189 rfl
theorem fo_8_10 : FO 8 10 RX7 TX7 17 := ⟨rfl, rfl, by decide, by decide, fi_8⟩
theorem wg_191 : Cond.fieldLink RX7 48 RX7 "entered" "I" ∈ lw_good := List.mem_filter.mpr ⟨List.mem_of_getElem? (i := 191) (by decide +kernel), by decide +kernel⟩
theorem fl_RX7_48 : FLk RX7 48 RX7 TX7 11 := FLk.link RX7 wg_191 rfl
theorem fo_8_11 : FO 8 11 RX7 TX7 17 := ⟨rfl, rfl, by decide, by decide, fi_8⟩
theorem wg_193 : Cond.fieldLink RX7 51 RX7 "minute" "I" ∈ lw_good := List.mem_filter.mpr ⟨List.mem_of_getElem? (i := 193) (by decide +kernel), by decide +kernel⟩
theorem fl_RX7_51 : FLk RX7 51 RX7 TX7 12 := FLk.link RX7 wg_193 rfl
theorem fo_8_12 : FO 8 12 RX7 TX7 17 := ⟨rfl, rfl, by decide, by decide, fi_8⟩
theorem wg_195 : Cond.fieldLink RX7 54 RX7 "rank" "I" ∈ lw_good := List.mem_filter.mpr ⟨List.mem_of_getElem? (i := 195) (by decide +kernel), by decide +kernel⟩
theorem fl_RX7_54 : FLk RX7 54 RX7 TX7 13 := FLk.link RX7 wg_195 rfl
theorem fo_8_13 : FO 8 13 RX7 TX7 17 := ⟨rfl, rfl, by decide, by decide, fi_8⟩
theorem wg_197 : Cond.fieldLink RX7 57 RX7 "awaited" "I" ∈ lw_good := List.mem_filter.mpr ⟨List.mem_of_getElem? (i := 197) (by decide +kernel), by decide +kernel⟩
theorem fl_RX7_57 : FLk RX7 57 RX7 TX7 14 := FLk.link RX7 wg_197 rfl
theorem fo_8_14 : FO 8 14 RX7 TX7 17 := ⟨rfl, rfl, by decide, by decide, fi_8⟩
theorem wg_199 : Cond.fieldLink RX7 60 RX7 "awaitedAt" "I" ∈ lw_good := List.mem_filter.mpr ⟨List.mem_of_getElem? (i := 199) (by decide +kernel), by decide +kernel⟩
theorem fl_RX7_60 : FLk RX7 60 RX7 TX7 15 := FLk.link RX7 wg_199 rfl
theorem fo_8_15 : FO 8 15 RX7 TX7 17 := ⟨rfl, rfl, by decide, by decide, fi_8⟩
theorem wg_169 : Cond.fieldLink RX7 67 RX7 "number" "I" ∈ lw_good := List.mem_filter.mpr ⟨List.mem_of_getElem? (i := 169) (by decide +kernel), by decide +kernel⟩
theorem fl_RX7_67 : FLk RX7 67 RX7 TX7 0 := FLk.link RX7 wg_169 rfl
theorem fo_8_0 : FO 8 0 RX7 TX7 17 := ⟨rfl, rfl, by decide, by decide, fi_8⟩
theorem wt_138 : Cond.fieldLinkNest RX7 83 RX5 "count" "I" RX8 ∈ lw_tbl := List.mem_of_getElem? (i := 138) (by decide +kernel)
theorem fl_RX7_83 : FLk RX7 83 RX5 TX5 1 := FLk.nest RX8 wt_138 (by decide +kernel)
theorem wg_944 : Cond.methodLink RX7 79 yX5_at ∈ lw_good := List.mem_filter.mpr ⟨List.mem_of_getElem? (i := 944) (by decide +kernel), by decide +kernel⟩
theorem wg_826 : Cond.methodLink RX7 70 yX5_empty ∈ lw_good := List.mem_filter.mpr ⟨List.mem_of_getElem? (i := 826) (by decide +kernel), by decide +kernel⟩
theorem wg_239 : Cond.code yJ7_fill_53178 cJ7_fill_53178 4 none ∈ lw_good := List.mem_filter.mpr ⟨List.mem_of_getElem? (i := 239) (by decide +kernel), by decide +kernel⟩
theorem mi_J7_fill_53178 : MI yJ7_fill_53178 cJ7_fill_53178 4 none 2 := ⟨wg_239, wg_73, by decide +kernel, by decide +kernel⟩
theorem wg_830 : Cond.methodLink RX7 73 yJ7_fill_53178 ∈ lw_good := List.mem_filter.mpr ⟨List.mem_of_getElem? (i := 830) (by decide +kernel), by decide +kernel⟩
theorem wg_238 : Cond.static yJ7_fill_53178 ∈ lw_good := List.mem_filter.mpr ⟨List.mem_of_getElem? (i := 238) (by decide +kernel), by decide +kernel⟩
theorem wg_117 : Cond.fieldLink RJx4a65c 48 RJx4a65c "size" "I" ∈ lw_good := List.mem_filter.mpr ⟨List.mem_of_getElem? (i := 117) (by decide +kernel), by decide +kernel⟩
theorem fl_RJx4a65c_48 : FLk RJx4a65c 48 RJx4a65c TJx4a65c 2 := FLk.link RJx4a65c wg_117 rfl
theorem fi_0 : ∀ w ∈ u_ws RJx4a65c TJx4a65c 3, w ∈ lw_good := fun w hw => List.mem_filter.mpr (by
  have h : (u_ws RJx4a65c TJx4a65c 3).all (fun w => decide (w ∈ lw_tbl) && goodWord w) = true := by decide +kernel
  have h2 := List.all_eq_true.mp h w hw
  rw [Bool.and_eq_true, decide_eq_true_eq] at h2
  exact h2)
theorem fp_0 : FP 0 TJx4a65c 3 := ⟨by decide +kernel, by decide +kernel⟩
theorem fn_0 : vwCl[0]? = some (RJx4a65c, TJx4a65c, 3) ∧ clN 0 = 3 ∧ 0 < 20 ∧ (∀ w ∈ u_ws RJx4a65c TJx4a65c 3, w ∈ lw_good) := ⟨rfl, rfl, by decide, fi_0⟩
theorem fd_0 : ∀ k, k < 3 → defaultValue (clT 0 k) = if refT (clT 0 k) = true then .null else .int 0 := by decide +kernel
theorem fo_0_2 : FO 0 2 RJx4a65c TJx4a65c 3 := ⟨rfl, rfl, by decide, by decide, fi_0⟩
theorem wg_78 : Cond.initialized "java/lang/IndexOutOfBoundsException" ∈ lw_good := List.mem_filter.mpr ⟨List.mem_of_getElem? (i := 78) (by decide +kernel), by decide +kernel⟩
theorem at_402_406 : ∀ w ∈ vx_atS RX8 406 "java/lang/IndexOutOfBoundsException" ["java/lang/RuntimeException", "java/lang/Exception"], w ∈ lw_tbl ∧ (goodWord w || (isNw w && w.onTables)) = true := fun w hw => by
  have h : (vx_atS RX8 406 "java/lang/IndexOutOfBoundsException" ["java/lang/RuntimeException", "java/lang/Exception"]).all (fun w => decide (w ∈ lw_tbl) && (goodWord w || (isNw w && w.onTables))) = true := by decide +kernel
  have h2 := List.all_eq_true.mp h w hw
  rw [Bool.and_eq_true, decide_eq_true_eq] at h2
  exact h2
theorem au_402_406 : ∀ w ∈ Cond.classLink RX8 402 "java/lang/IndexOutOfBoundsException" :: Cond.initialized "java/lang/IndexOutOfBoundsException" :: vx_atS RX8 406 "java/lang/IndexOutOfBoundsException" ["java/lang/RuntimeException", "java/lang/Exception"], vx_ot w = true := by decide +kernel
theorem wg_322 : Cond.classLink RX8 402 "java/lang/IndexOutOfBoundsException" ∈ lw_good := List.mem_filter.mpr ⟨List.mem_of_getElem? (i := 322) (by decide +kernel), by decide +kernel⟩
theorem wg_594 : Cond.code yJ3_checkIndex_8e157 cJ3_checkIndex_8e157 3 (some .int) ∈ lw_good := List.mem_filter.mpr ⟨List.mem_of_getElem? (i := 594) (by decide +kernel), by decide +kernel⟩
theorem wg_86 : Cond.initialized RJ3 ∈ lw_good := List.mem_filter.mpr ⟨List.mem_of_getElem? (i := 86) (by decide +kernel), by decide +kernel⟩
theorem mi_J3_checkIndex_8e157 : MI yJ3_checkIndex_8e157 cJ3_checkIndex_8e157 3 (some .int) 3 := ⟨wg_594, wg_86, by decide +kernel, by decide +kernel⟩
theorem wg_592 : Cond.methodLink RJ15 105 yJ3_checkIndex_8e157 ∈ lw_good := List.mem_filter.mpr ⟨List.mem_of_getElem? (i := 592) (by decide +kernel), by decide +kernel⟩
theorem wg_593 : Cond.static yJ3_checkIndex_8e157 ∈ lw_good := List.mem_filter.mpr ⟨List.mem_of_getElem? (i := 593) (by decide +kernel), by decide +kernel⟩
theorem wg_116 : Cond.fieldLink RJx4a65c 9 RJx4a65c "elementData" "[Ljava/lang/Object;" ∈ lw_good := List.mem_filter.mpr ⟨List.mem_of_getElem? (i := 116) (by decide +kernel), by decide +kernel⟩
theorem fl_RJx4a65c_9 : FLk RJx4a65c 9 RJx4a65c TJx4a65c 1 := FLk.link RJx4a65c wg_116 rfl
theorem fo_0_1 : FO 0 1 RJx4a65c TJx4a65c 3 := ⟨rfl, rfl, by decide, by decide, fi_0⟩
theorem wg_598 : Cond.code yJx4a65c_elementData_915e3 cJx4a65c_elementData_915e3 2 (some (.object "java/lang/Object")) ∈ lw_good := List.mem_filter.mpr ⟨List.mem_of_getElem? (i := 598) (by decide +kernel), by decide +kernel⟩
theorem wg_69 : Cond.initialized RJx4a65c ∈ lw_good := List.mem_filter.mpr ⟨List.mem_of_getElem? (i := 69) (by decide +kernel), by decide +kernel⟩
theorem mi_Jx4a65c_elementData_915e3 : MI yJx4a65c_elementData_915e3 cJx4a65c_elementData_915e3 2 (some (.object "java/lang/Object")) 1 := ⟨wg_598, wg_69, by decide +kernel, by decide +kernel⟩
theorem wg_595 : Cond.methodLink RJx4a65c 123 yJx4a65c_elementData_915e3 ∈ lw_good := List.mem_filter.mpr ⟨List.mem_of_getElem? (i := 595) (by decide +kernel), by decide +kernel⟩
theorem wg_596 : Cond.instanceMethod yJx4a65c_elementData_915e3 ∈ lw_good := List.mem_filter.mpr ⟨List.mem_of_getElem? (i := 596) (by decide +kernel), by decide +kernel⟩
theorem wg_597 : Cond.selects RJx4a65c yJx4a65c_elementData_915e3 yJx4a65c_elementData_915e3 ∈ lw_good := List.mem_filter.mpr ⟨List.mem_of_getElem? (i := 597) (by decide +kernel), by decide +kernel⟩
theorem wg_591 : Cond.code yJ15_checkIndex_7cf53 cJ15_checkIndex_7cf53 2 (some .int) ∈ lw_good := List.mem_filter.mpr ⟨List.mem_of_getElem? (i := 591) (by decide +kernel), by decide +kernel⟩
theorem wg_85 : Cond.initialized RJ15 ∈ lw_good := List.mem_filter.mpr ⟨List.mem_of_getElem? (i := 85) (by decide +kernel), by decide +kernel⟩
theorem mi_J15_checkIndex_7cf53 : MI yJ15_checkIndex_7cf53 cJ15_checkIndex_7cf53 2 (some .int) 2 := ⟨wg_591, wg_85, by decide +kernel, by decide +kernel⟩
theorem wg_589 : Cond.methodLink RJx4a65c 118 yJ15_checkIndex_7cf53 ∈ lw_good := List.mem_filter.mpr ⟨List.mem_of_getElem? (i := 589) (by decide +kernel), by decide +kernel⟩
theorem wg_590 : Cond.static yJ15_checkIndex_7cf53 ∈ lw_good := List.mem_filter.mpr ⟨List.mem_of_getElem? (i := 590) (by decide +kernel), by decide +kernel⟩
theorem wg_244 : Cond.fieldLink RX8 28 RX8 "cars" "Ljava/util/ArrayList;" ∈ lw_good := List.mem_filter.mpr ⟨List.mem_of_getElem? (i := 244) (by decide +kernel), by decide +kernel⟩
theorem fl_RX8_28 : FLk RX8 28 RX8 TX8 4 := FLk.link RX8 wg_244 rfl
theorem fi_9 : ∀ w ∈ u_ws RX8 TX8 16, w ∈ lw_good := fun w hw => List.mem_filter.mpr (by
  have h : (u_ws RX8 TX8 16).all (fun w => decide (w ∈ lw_tbl) && goodWord w) = true := by decide +kernel
  have h2 := List.all_eq_true.mp h w hw
  rw [Bool.and_eq_true, decide_eq_true_eq] at h2
  exact h2)
theorem fp_9 : FP 9 TX8 16 := ⟨by decide +kernel, by decide +kernel⟩
theorem fn_9 : vwCl[9]? = some (RX8, TX8, 16) ∧ clN 9 = 16 ∧ 9 < 20 ∧ (∀ w ∈ u_ws RX8 TX8 16, w ∈ lw_good) := ⟨rfl, rfl, by decide, fi_9⟩
theorem fd_9 : ∀ k, k < 16 → defaultValue (clT 9 k) = if refT (clT 9 k) = true then .null else .int 0 := by decide +kernel
theorem fo_9_4 : FO 9 4 RX8 TX8 16 := ⟨rfl, rfl, by decide, by decide, fi_9⟩
theorem wg_740 : Cond.classLink RX8 194 RX2 ∈ lw_good := List.mem_filter.mpr ⟨List.mem_of_getElem? (i := 740) (by decide +kernel), by decide +kernel⟩
theorem wg_588 : Cond.code yJx4a65c_get_915e3 cJx4a65c_get_915e3 2 (some (.object "java/lang/Object")) ∈ lw_good := List.mem_filter.mpr ⟨List.mem_of_getElem? (i := 588) (by decide +kernel), by decide +kernel⟩
theorem mi_Jx4a65c_get_915e3 : MI yJx4a65c_get_915e3 cJx4a65c_get_915e3 2 (some (.object "java/lang/Object")) 1 := ⟨wg_588, wg_69, by decide +kernel, by decide +kernel⟩
theorem wg_585 : Cond.methodLink RX8 411 yJx4a65c_get_915e3 ∈ lw_good := List.mem_filter.mpr ⟨List.mem_of_getElem? (i := 585) (by decide +kernel), by decide +kernel⟩
theorem wg_586 : Cond.instanceMethod yJx4a65c_get_915e3 ∈ lw_good := List.mem_filter.mpr ⟨List.mem_of_getElem? (i := 586) (by decide +kernel), by decide +kernel⟩
theorem wg_587 : Cond.selects RJx4a65c yJx4a65c_get_915e3 yJx4a65c_get_915e3 ∈ lw_good := List.mem_filter.mpr ⟨List.mem_of_getElem? (i := 587) (by decide +kernel), by decide +kernel⟩
theorem wg_321 : Cond.code yX8_requireIndex cX8_requireIndex 2 none ∈ lw_good := List.mem_filter.mpr ⟨List.mem_of_getElem? (i := 321) (by decide +kernel), by decide +kernel⟩
theorem wg_66 : Cond.initialized RX8 ∈ lw_good := List.mem_filter.mpr ⟨List.mem_of_getElem? (i := 66) (by decide +kernel), by decide +kernel⟩
theorem mi_X8_requireIndex : MI yX8_requireIndex cX8_requireIndex 2 none 2 := ⟨wg_321, wg_66, by decide +kernel, by decide +kernel⟩
theorem wg_319 : Cond.methodLink RX8 365 yX8_requireIndex ∈ lw_good := List.mem_filter.mpr ⟨List.mem_of_getElem? (i := 319) (by decide +kernel), by decide +kernel⟩
theorem wg_320 : Cond.static yX8_requireIndex ∈ lw_good := List.mem_filter.mpr ⟨List.mem_of_getElem? (i := 320) (by decide +kernel), by decide +kernel⟩
theorem wg_453 : Cond.code yJx4a65c_size_8abf5 cJx4a65c_size_8abf5 1 (some .int) ∈ lw_good := List.mem_filter.mpr ⟨List.mem_of_getElem? (i := 453) (by decide +kernel), by decide +kernel⟩
theorem mi_Jx4a65c_size_8abf5 : MI yJx4a65c_size_8abf5 cJx4a65c_size_8abf5 1 (some .int) 0 := ⟨wg_453, wg_69, by decide +kernel, by decide +kernel⟩
theorem wg_450 : Cond.methodLink RX8 108 yJx4a65c_size_8abf5 ∈ lw_good := List.mem_filter.mpr ⟨List.mem_of_getElem? (i := 450) (by decide +kernel), by decide +kernel⟩
theorem wg_451 : Cond.instanceMethod yJx4a65c_size_8abf5 ∈ lw_good := List.mem_filter.mpr ⟨List.mem_of_getElem? (i := 451) (by decide +kernel), by decide +kernel⟩
theorem wg_452 : Cond.selects RJx4a65c yJx4a65c_size_8abf5 yJx4a65c_size_8abf5 ∈ lw_good := List.mem_filter.mpr ⟨List.mem_of_getElem? (i := 452) (by decide +kernel), by decide +kernel⟩
theorem wg_245 : Cond.fieldLink RX8 31 RX8 "bills" "Ljava/util/ArrayList;" ∈ lw_good := List.mem_filter.mpr ⟨List.mem_of_getElem? (i := 245) (by decide +kernel), by decide +kernel⟩
theorem fl_RX8_31 : FLk RX8 31 RX8 TX8 5 := FLk.link RX8 wg_245 rfl
theorem fo_9_5 : FO 9 5 RX8 TX8 16 := ⟨rfl, rfl, by decide, by decide, fi_9⟩
theorem wg_953 : Cond.classLink RX8 331 RX0 ∈ lw_good := List.mem_filter.mpr ⟨List.mem_of_getElem? (i := 953) (by decide +kernel), by decide +kernel⟩
theorem wt_755 : Cond.fieldLinkNest RX8 339 RX2 "bill" "I" RX8 ∈ lw_tbl := List.mem_of_getElem? (i := 755) (by decide +kernel)
theorem fl_RX8_339 : FLk RX8 339 RX2 TX2 3 := FLk.nest RX8 wt_755 (by decide +kernel)
theorem wt_1037 : Cond.fieldLinkNest RX8 348 RX0 "to" "I" RX8 ∈ lw_tbl := List.mem_of_getElem? (i := 1037) (by decide +kernel)
theorem fl_RX8_348 : FLk RX8 348 RX0 TX0 1 := FLk.nest RX8 wt_1037 (by decide +kernel)
theorem wg_952 : Cond.code yX8_billNumbered cX8_billNumbered 2 (some (.object "Ironbark$Bill")) ∈ lw_good := List.mem_filter.mpr ⟨List.mem_of_getElem? (i := 952) (by decide +kernel), by decide +kernel⟩
theorem mi_X8_billNumbered : MI yX8_billNumbered cX8_billNumbered 2 (some (.object "Ironbark$Bill")) 1 := ⟨wg_952, wg_66, by decide +kernel, by decide +kernel⟩
theorem wg_949 : Cond.methodLink RX8 335 yX8_billNumbered ∈ lw_good := List.mem_filter.mpr ⟨List.mem_of_getElem? (i := 949) (by decide +kernel), by decide +kernel⟩
theorem wg_951 : Cond.instanceMethod yX8_billNumbered ∈ lw_good := List.mem_filter.mpr ⟨List.mem_of_getElem? (i := 951) (by decide +kernel), by decide +kernel⟩
theorem wg_22 : Cond.selects RX8 yX8_billNumbered yX8_billNumbered ∈ lw_good := List.mem_filter.mpr ⟨List.mem_of_getElem? (i := 22) (by decide +kernel), by decide +kernel⟩
theorem wt_749 : Cond.fieldLinkNest RX8 381 RX2 "home" "I" RX8 ∈ lw_tbl := List.mem_of_getElem? (i := 749) (by decide +kernel)
theorem fl_RX8_381 : FLk RX8 381 RX2 TX2 0 := FLk.nest RX8 wt_749 (by decide +kernel)
theorem wg_856 : Cond.code yX8_carOf cX8_carOf 2 (some (.object "Ironbark$Car")) ∈ lw_good := List.mem_filter.mpr ⟨List.mem_of_getElem? (i := 856) (by decide +kernel), by decide +kernel⟩
theorem mi_X8_carOf : MI yX8_carOf cX8_carOf 2 (some (.object "Ironbark$Car")) 1 := ⟨wg_856, wg_66, by decide +kernel, by decide +kernel⟩
theorem wg_853 : Cond.methodLink RX8 241 yX8_carOf ∈ lw_good := List.mem_filter.mpr ⟨List.mem_of_getElem? (i := 853) (by decide +kernel), by decide +kernel⟩
theorem wg_855 : Cond.instanceMethod yX8_carOf ∈ lw_good := List.mem_filter.mpr ⟨List.mem_of_getElem? (i := 855) (by decide +kernel), by decide +kernel⟩
theorem wg_16 : Cond.selects RX8 yX8_carOf yX8_carOf ∈ lw_good := List.mem_filter.mpr ⟨List.mem_of_getElem? (i := 16) (by decide +kernel), by decide +kernel⟩
theorem wt_139 : Cond.fieldLinkNest RX8 230 RX5 "count" "I" RX8 ∈ lw_tbl := List.mem_of_getElem? (i := 139) (by decide +kernel)
theorem fl_RX8_230 : FLk RX8 230 RX5 TX5 1 := FLk.nest RX8 wt_139 (by decide +kernel)
theorem wg_250 : Cond.fieldLink RX8 56 RX8 "sorted" "LIronbark$Row;" ∈ lw_good := List.mem_filter.mpr ⟨List.mem_of_getElem? (i := 250) (by decide +kernel), by decide +kernel⟩
theorem fl_RX8_56 : FLk RX8 56 RX8 TX8 10 := FLk.link RX8 wg_250 rfl
theorem fo_9_10 : FO 9 10 RX8 TX8 16 := ⟨rfl, rfl, by decide, by decide, fi_9⟩
theorem wg_787 : Cond.methodLink RX8 203 yX5_append ∈ lw_good := List.mem_filter.mpr ⟨List.mem_of_getElem? (i := 787) (by decide +kernel), by decide +kernel⟩
theorem wg_1079 : Cond.code yX8_goalOf cX8_goalOf 3 (some .int) ∈ lw_good := List.mem_filter.mpr ⟨List.mem_of_getElem? (i := 1079) (by decide +kernel), by decide +kernel⟩
theorem mi_X8_goalOf : MI yX8_goalOf cX8_goalOf 3 (some .int) 1 := ⟨wg_1079, wg_66, by decide +kernel, by decide +kernel⟩
theorem wg_1076 : Cond.methodLink RX8 424 yX8_goalOf ∈ lw_good := List.mem_filter.mpr ⟨List.mem_of_getElem? (i := 1076) (by decide +kernel), by decide +kernel⟩
theorem wg_1078 : Cond.instanceMethod yX8_goalOf ∈ lw_good := List.mem_filter.mpr ⟨List.mem_of_getElem? (i := 1078) (by decide +kernel), by decide +kernel⟩
theorem wg_33 : Cond.selects RX8 yX8_goalOf yX8_goalOf ∈ lw_good := List.mem_filter.mpr ⟨List.mem_of_getElem? (i := 33) (by decide +kernel), by decide +kernel⟩
theorem wg_894 : Cond.methodLink RX8 358 yX5_at ∈ lw_good := List.mem_filter.mpr ⟨List.mem_of_getElem? (i := 894) (by decide +kernel), by decide +kernel⟩
theorem wg_241 : Cond.fieldLink RX8 18 RX8 "blocks" "Ljava/util/ArrayList;" ∈ lw_good := List.mem_filter.mpr ⟨List.mem_of_getElem? (i := 241) (by decide +kernel), by decide +kernel⟩
theorem fl_RX8_18 : FLk RX8 18 RX8 TX8 1 := FLk.link RX8 wg_241 rfl
theorem fo_9_1 : FO 9 1 RX8 TX8 16 := ⟨rfl, rfl, by decide, by decide, fi_9⟩
theorem wg_454 : Cond.classLink RX8 112 RX1 ∈ lw_good := List.mem_filter.mpr ⟨List.mem_of_getElem? (i := 454) (by decide +kernel), by decide +kernel⟩
theorem wt_182 : Cond.fieldLinkNest RX8 322 RX7 "block" "I" RX8 ∈ lw_tbl := List.mem_of_getElem? (i := 182) (by decide +kernel)
theorem fl_RX8_322 : FLk RX8 322 RX7 TX7 6 := FLk.nest RX8 wt_182 (by decide +kernel)
theorem wt_469 : Cond.fieldLinkNest RX8 145 RX1 "wear" "I" RX8 ∈ lw_tbl := List.mem_of_getElem? (i := 469) (by decide +kernel)
theorem fl_RX8_145 : FLk RX8 145 RX1 TX1 4 := FLk.nest RX8 wt_469 (by decide +kernel)
theorem wt_188 : Cond.fieldLinkNest RX8 228 RX7 "cars" "LIronbark$Row;" RX8 ∈ lw_tbl := List.mem_of_getElem? (i := 188) (by decide +kernel)
theorem fl_RX8_228 : FLk RX8 228 RX7 TX7 9 := FLk.nest RX8 wt_188 (by decide +kernel)
theorem wg_252 : Cond.fieldLink RX8 62 RX8 "now" "I" ∈ lw_good := List.mem_filter.mpr ⟨List.mem_of_getElem? (i := 252) (by decide +kernel), by decide +kernel⟩
theorem fl_RX8_62 : FLk RX8 62 RX8 TX8 12 := FLk.link RX8 wg_252 rfl
theorem fo_9_12 : FO 9 12 RX8 TX8 16 := ⟨rfl, rfl, by decide, by decide, fi_9⟩
theorem wt_172 : Cond.fieldLinkNest RX8 277 RX7 "state" "I" RX8 ∈ lw_tbl := List.mem_of_getElem? (i := 172) (by decide +kernel)
theorem fl_RX8_277 : FLk RX8 277 RX7 TX7 1 := FLk.nest RX8 wt_172 (by decide +kernel)
theorem wg_943 : Cond.code yX7_nextBlock cX7_nextBlock 1 (some .int) ∈ lw_good := List.mem_filter.mpr ⟨List.mem_of_getElem? (i := 943) (by decide +kernel), by decide +kernel⟩
theorem wg_72 : Cond.initialized RX7 ∈ lw_good := List.mem_filter.mpr ⟨List.mem_of_getElem? (i := 72) (by decide +kernel), by decide +kernel⟩
theorem mi_X7_nextBlock : MI yX7_nextBlock cX7_nextBlock 1 (some .int) 0 := ⟨wg_943, wg_72, by decide +kernel, by decide +kernel⟩
theorem wg_940 : Cond.methodLink RX8 301 yX7_nextBlock ∈ lw_good := List.mem_filter.mpr ⟨List.mem_of_getElem? (i := 940) (by decide +kernel), by decide +kernel⟩
theorem wg_941 : Cond.instanceMethod yX7_nextBlock ∈ lw_good := List.mem_filter.mpr ⟨List.mem_of_getElem? (i := 941) (by decide +kernel), by decide +kernel⟩
theorem wg_942 : Cond.selects RX7 yX7_nextBlock yX7_nextBlock ∈ lw_good := List.mem_filter.mpr ⟨List.mem_of_getElem? (i := 942) (by decide +kernel), by decide +kernel⟩
theorem wg_939 : Cond.code yX7_notClear cX7_notClear 3 none ∈ lw_good := List.mem_filter.mpr ⟨List.mem_of_getElem? (i := 939) (by decide +kernel), by decide +kernel⟩
theorem mi_X7_notClear : MI yX7_notClear cX7_notClear 3 none 2 := ⟨wg_939, wg_72, by decide +kernel, by decide +kernel⟩
theorem wg_936 : Cond.methodLink RX8 454 yX7_notClear ∈ lw_good := List.mem_filter.mpr ⟨List.mem_of_getElem? (i := 936) (by decide +kernel), by decide +kernel⟩
theorem wg_937 : Cond.instanceMethod yX7_notClear ∈ lw_good := List.mem_filter.mpr ⟨List.mem_of_getElem? (i := 937) (by decide +kernel), by decide +kernel⟩
theorem wg_938 : Cond.selects RX7 yX7_notClear yX7_notClear ∈ lw_good := List.mem_filter.mpr ⟨List.mem_of_getElem? (i := 938) (by decide +kernel), by decide +kernel⟩
theorem wg_935 : Cond.code yX7_minutesToClear cX7_minutesToClear 1 (some .int) ∈ lw_good := List.mem_filter.mpr ⟨List.mem_of_getElem? (i := 935) (by decide +kernel), by decide +kernel⟩
theorem mi_X7_minutesToClear : MI yX7_minutesToClear cX7_minutesToClear 1 (some .int) 0 := ⟨wg_935, wg_72, by decide +kernel, by decide +kernel⟩
theorem wg_932 : Cond.methodLink RX8 451 yX7_minutesToClear ∈ lw_good := List.mem_filter.mpr ⟨List.mem_of_getElem? (i := 932) (by decide +kernel), by decide +kernel⟩
theorem wg_933 : Cond.instanceMethod yX7_minutesToClear ∈ lw_good := List.mem_filter.mpr ⟨List.mem_of_getElem? (i := 933) (by decide +kernel), by decide +kernel⟩
theorem wg_934 : Cond.selects RX7 yX7_minutesToClear yX7_minutesToClear ∈ lw_good := List.mem_filter.mpr ⟨List.mem_of_getElem? (i := 934) (by decide +kernel), by decide +kernel⟩
theorem wg_584 : Cond.code yX8_blockOf cX8_blockOf 2 (some (.object "Ironbark$Block")) ∈ lw_good := List.mem_filter.mpr ⟨List.mem_of_getElem? (i := 584) (by decide +kernel), by decide +kernel⟩
theorem mi_X8_blockOf : MI yX8_blockOf cX8_blockOf 2 (some (.object "Ironbark$Block")) 1 := ⟨wg_584, wg_66, by decide +kernel, by decide +kernel⟩
theorem wg_581 : Cond.methodLink RX8 121 yX8_blockOf ∈ lw_good := List.mem_filter.mpr ⟨List.mem_of_getElem? (i := 581) (by decide +kernel), by decide +kernel⟩
theorem wg_583 : Cond.instanceMethod yX8_blockOf ∈ lw_good := List.mem_filter.mpr ⟨List.mem_of_getElem? (i := 583) (by decide +kernel), by decide +kernel⟩
theorem wg_7 : Cond.selects RX8 yX8_blockOf yX8_blockOf ∈ lw_good := List.mem_filter.mpr ⟨List.mem_of_getElem? (i := 7) (by decide +kernel), by decide +kernel⟩
theorem wg_246 : Cond.fieldLink RX8 36 RX8 "trains" "[LIronbark$Train;" ∈ lw_good := List.mem_filter.mpr ⟨List.mem_of_getElem? (i := 246) (by decide +kernel), by decide +kernel⟩
theorem fl_RX8_36 : FLk RX8 36 RX8 TX8 6 := FLk.link RX8 wg_246 rfl
theorem fo_9_6 : FO 9 6 RX8 TX8 16 := ⟨rfl, rfl, by decide, by decide, fi_9⟩
theorem wt_184 : Cond.fieldLinkNest RX8 368 RX7 "arrival" "I" RX8 ∈ lw_tbl := List.mem_of_getElem? (i := 184) (by decide +kernel)
theorem fl_RX8_368 : FLk RX8 368 RX7 TX7 7 := FLk.nest RX8 wt_184 (by decide +kernel)
theorem wg_931 : Cond.code yX8_arrive cX8_arrive 2 none ∈ lw_good := List.mem_filter.mpr ⟨List.mem_of_getElem? (i := 931) (by decide +kernel), by decide +kernel⟩
theorem mi_X8_arrive : MI yX8_arrive cX8_arrive 2 none 1 := ⟨wg_931, wg_66, by decide +kernel, by decide +kernel⟩
theorem wg_928 : Cond.methodLink RX8 447 yX8_arrive ∈ lw_good := List.mem_filter.mpr ⟨List.mem_of_getElem? (i := 928) (by decide +kernel), by decide +kernel⟩
theorem wg_930 : Cond.instanceMethod yX8_arrive ∈ lw_good := List.mem_filter.mpr ⟨List.mem_of_getElem? (i := 930) (by decide +kernel), by decide +kernel⟩
theorem wg_20 : Cond.selects RX8 yX8_arrive yX8_arrive ∈ lw_good := List.mem_filter.mpr ⟨List.mem_of_getElem? (i := 20) (by decide +kernel), by decide +kernel⟩
theorem wg_727 : Cond.code yX8_requireTrain cX8_requireTrain 2 none ∈ lw_good := List.mem_filter.mpr ⟨List.mem_of_getElem? (i := 727) (by decide +kernel), by decide +kernel⟩
theorem mi_X8_requireTrain : MI yX8_requireTrain cX8_requireTrain 2 none 1 := ⟨wg_727, wg_66, by decide +kernel, by decide +kernel⟩
theorem wg_724 : Cond.methodLink RX8 283 yX8_requireTrain ∈ lw_good := List.mem_filter.mpr ⟨List.mem_of_getElem? (i := 724) (by decide +kernel), by decide +kernel⟩
theorem wg_726 : Cond.instanceMethod yX8_requireTrain ∈ lw_good := List.mem_filter.mpr ⟨List.mem_of_getElem? (i := 726) (by decide +kernel), by decide +kernel⟩
theorem wg_11 : Cond.selects RX8 yX8_requireTrain yX8_requireTrain ∈ lw_good := List.mem_filter.mpr ⟨List.mem_of_getElem? (i := 11) (by decide +kernel), by decide +kernel⟩
theorem wg_240 : Cond.fieldLink RX8 11 RX8 "stations" "[LIronbark$Station;" ∈ lw_good := List.mem_filter.mpr ⟨List.mem_of_getElem? (i := 240) (by decide +kernel), by decide +kernel⟩
theorem fl_RX8_11 : FLk RX8 11 RX8 TX8 0 := FLk.link RX8 wg_240 rfl
theorem fo_9_0 : FO 9 0 RX8 TX8 16 := ⟨rfl, rfl, by decide, by decide, fi_9⟩
theorem wg_80 : Cond.initialized "java/lang/IllegalStateException" ∈ lw_good := List.mem_filter.mpr ⟨List.mem_of_getElem? (i := 80) (by decide +kernel), by decide +kernel⟩
theorem at_397_401 : ∀ w ∈ vx_atS RX8 401 "java/lang/IllegalStateException" ["java/lang/RuntimeException", "java/lang/Exception"], w ∈ lw_tbl ∧ (goodWord w || (isNw w && w.onTables)) = true := fun w hw => by
  have h : (vx_atS RX8 401 "java/lang/IllegalStateException" ["java/lang/RuntimeException", "java/lang/Exception"]).all (fun w => decide (w ∈ lw_tbl) && (goodWord w || (isNw w && w.onTables))) = true := by decide +kernel
  have h2 := List.all_eq_true.mp h w hw
  rw [Bool.and_eq_true, decide_eq_true_eq] at h2
  exact h2
theorem au_397_401 : ∀ w ∈ Cond.classLink RX8 397 "java/lang/IllegalStateException" :: Cond.initialized "java/lang/IllegalStateException" :: vx_atS RX8 401 "java/lang/IllegalStateException" ["java/lang/RuntimeException", "java/lang/Exception"], vx_ot w = true := by decide +kernel
theorem wg_423 : Cond.classLink RX8 397 "java/lang/IllegalStateException" ∈ lw_good := List.mem_filter.mpr ⟨List.mem_of_getElem? (i := 423) (by decide +kernel), by decide +kernel⟩
theorem wg_723 : Cond.code yX8_trainOf cX8_trainOf 2 (some (.object "Ironbark$Train")) ∈ lw_good := List.mem_filter.mpr ⟨List.mem_of_getElem? (i := 723) (by decide +kernel), by decide +kernel⟩
theorem mi_X8_trainOf : MI yX8_trainOf cX8_trainOf 2 (some (.object "Ironbark$Train")) 1 := ⟨wg_723, wg_66, by decide +kernel, by decide +kernel⟩
theorem wg_720 : Cond.methodLink RX8 180 yX8_trainOf ∈ lw_good := List.mem_filter.mpr ⟨List.mem_of_getElem? (i := 720) (by decide +kernel), by decide +kernel⟩
theorem wg_722 : Cond.instanceMethod yX8_trainOf ∈ lw_good := List.mem_filter.mpr ⟨List.mem_of_getElem? (i := 722) (by decide +kernel), by decide +kernel⟩
theorem wg_10 : Cond.selects RX8 yX8_trainOf yX8_trainOf ∈ lw_good := List.mem_filter.mpr ⟨List.mem_of_getElem? (i := 10) (by decide +kernel), by decide +kernel⟩
theorem wg_449 : Cond.code yX8_requireStation cX8_requireStation 2 none ∈ lw_good := List.mem_filter.mpr ⟨List.mem_of_getElem? (i := 449) (by decide +kernel), by decide +kernel⟩
theorem mi_X8_requireStation : MI yX8_requireStation cX8_requireStation 2 none 1 := ⟨wg_449, wg_66, by decide +kernel, by decide +kernel⟩
theorem wg_446 : Cond.methodLink RX8 102 yX8_requireStation ∈ lw_good := List.mem_filter.mpr ⟨List.mem_of_getElem? (i := 446) (by decide +kernel), by decide +kernel⟩
theorem wg_448 : Cond.instanceMethod yX8_requireStation ∈ lw_good := List.mem_filter.mpr ⟨List.mem_of_getElem? (i := 448) (by decide +kernel), by decide +kernel⟩
theorem wg_3 : Cond.selects RX8 yX8_requireStation yX8_requireStation ∈ lw_good := List.mem_filter.mpr ⟨List.mem_of_getElem? (i := 3) (by decide +kernel), by decide +kernel⟩
theorem wt_198 : Cond.fieldLinkNest RX8 286 RX7 "awaited" "I" RX8 ∈ lw_tbl := List.mem_of_getElem? (i := 198) (by decide +kernel)
theorem fl_RX8_286 : FLk RX8 286 RX7 TX7 14 := FLk.nest RX8 wt_198 (by decide +kernel)
theorem wt_200 : Cond.fieldLinkNest RX8 289 RX7 "awaitedAt" "I" RX8 ∈ lw_tbl := List.mem_of_getElem? (i := 200) (by decide +kernel)
theorem fl_RX8_289 : FLk RX8 289 RX7 TX7 15 := FLk.nest RX8 wt_200 (by decide +kernel)
theorem wg_422 : Cond.code yX8_requireState cX8_requireState 1 none ∈ lw_good := List.mem_filter.mpr ⟨List.mem_of_getElem? (i := 422) (by decide +kernel), by decide +kernel⟩
theorem mi_X8_requireState : MI yX8_requireState cX8_requireState 1 none 1 := ⟨wg_422, wg_66, by decide +kernel, by decide +kernel⟩
theorem wg_420 : Cond.methodLink RX8 95 yX8_requireState ∈ lw_good := List.mem_filter.mpr ⟨List.mem_of_getElem? (i := 420) (by decide +kernel), by decide +kernel⟩
theorem wg_421 : Cond.static yX8_requireState ∈ lw_good := List.mem_filter.mpr ⟨List.mem_of_getElem? (i := 421) (by decide +kernel), by decide +kernel⟩
theorem wt_180 : Cond.fieldLinkNest RX8 236 RX7 "station" "I" RX8 ∈ lw_tbl := List.mem_of_getElem? (i := 180) (by decide +kernel)
theorem fl_RX8_236 : FLk RX8 236 RX7 TX7 5 := FLk.nest RX8 wt_180 (by decide +kernel)
theorem wg_732 : Cond.code yX7_stands cX7_stands 1 (some .boolean) ∈ lw_good := List.mem_filter.mpr ⟨List.mem_of_getElem? (i := 732) (by decide +kernel), by decide +kernel⟩
theorem mi_X7_stands : MI yX7_stands cX7_stands 1 (some .boolean) 0 := ⟨wg_732, wg_72, by decide +kernel, by decide +kernel⟩
theorem wg_729 : Cond.methodLink RX8 184 yX7_stands ∈ lw_good := List.mem_filter.mpr ⟨List.mem_of_getElem? (i := 729) (by decide +kernel), by decide +kernel⟩
theorem wg_730 : Cond.instanceMethod yX7_stands ∈ lw_good := List.mem_filter.mpr ⟨List.mem_of_getElem? (i := 730) (by decide +kernel), by decide +kernel⟩
theorem wg_731 : Cond.selects RX7 yX7_stands yX7_stands ∈ lw_good := List.mem_filter.mpr ⟨List.mem_of_getElem? (i := 731) (by decide +kernel), by decide +kernel⟩
theorem wt_192 : Cond.fieldLinkNest RX8 268 RX7 "entered" "I" RX8 ∈ lw_tbl := List.mem_of_getElem? (i := 192) (by decide +kernel)
theorem fl_RX8_268 : FLk RX8 268 RX7 TX7 11 := FLk.nest RX8 wt_192 (by decide +kernel)
theorem wt_194 : Cond.fieldLinkNest RX8 271 RX7 "minute" "I" RX8 ∈ lw_tbl := List.mem_of_getElem? (i := 194) (by decide +kernel)
theorem fl_RX8_271 : FLk RX8 271 RX7 TX7 12 := FLk.nest RX8 wt_194 (by decide +kernel)
theorem wt_471 : Cond.fieldLinkNest RX8 125 RX1 "failed" "Z" RX8 ∈ lw_tbl := List.mem_of_getElem? (i := 471) (by decide +kernel)
theorem fl_RX8_125 : FLk RX8 125 RX1 TX1 5 := FLk.nest RX8 wt_471 (by decide +kernel)
theorem wt_473 : Cond.fieldLinkNest RX8 129 RX1 "flagged" "Z" RX8 ∈ lw_tbl := List.mem_of_getElem? (i := 473) (by decide +kernel)
theorem fl_RX8_129 : FLk RX8 129 RX1 TX1 6 := FLk.nest RX8 wt_473 (by decide +kernel)
theorem wg_627 : Cond.code yX1_isClosedAt cX1_isClosedAt 2 (some .boolean) ∈ lw_good := List.mem_filter.mpr ⟨List.mem_of_getElem? (i := 627) (by decide +kernel), by decide +kernel⟩
theorem wg_81 : Cond.initialized RX1 ∈ lw_good := List.mem_filter.mpr ⟨List.mem_of_getElem? (i := 81) (by decide +kernel), by decide +kernel⟩
theorem mi_X1_isClosedAt : MI yX1_isClosedAt cX1_isClosedAt 2 (some .boolean) 1 := ⟨wg_627, wg_81, by decide +kernel, by decide +kernel⟩
theorem wg_624 : Cond.methodLink RX8 141 yX1_isClosedAt ∈ lw_good := List.mem_filter.mpr ⟨List.mem_of_getElem? (i := 624) (by decide +kernel), by decide +kernel⟩
theorem wg_625 : Cond.instanceMethod yX1_isClosedAt ∈ lw_good := List.mem_filter.mpr ⟨List.mem_of_getElem? (i := 625) (by decide +kernel), by decide +kernel⟩
theorem wg_626 : Cond.selects RX1 yX1_isClosedAt yX1_isClosedAt ∈ lw_good := List.mem_filter.mpr ⟨List.mem_of_getElem? (i := 626) (by decide +kernel), by decide +kernel⟩
theorem wg_623 : Cond.code yX1_holderAt cX1_holderAt 2 (some .int) ∈ lw_good := List.mem_filter.mpr ⟨List.mem_of_getElem? (i := 623) (by decide +kernel), by decide +kernel⟩
theorem mi_X1_holderAt : MI yX1_holderAt cX1_holderAt 2 (some .int) 1 := ⟨wg_623, wg_81, by decide +kernel, by decide +kernel⟩
theorem wg_620 : Cond.methodLink RX8 138 yX1_holderAt ∈ lw_good := List.mem_filter.mpr ⟨List.mem_of_getElem? (i := 620) (by decide +kernel), by decide +kernel⟩
theorem wg_621 : Cond.instanceMethod yX1_holderAt ∈ lw_good := List.mem_filter.mpr ⟨List.mem_of_getElem? (i := 621) (by decide +kernel), by decide +kernel⟩
theorem wg_622 : Cond.selects RX1 yX1_holderAt yX1_holderAt ∈ lw_good := List.mem_filter.mpr ⟨List.mem_of_getElem? (i := 622) (by decide +kernel), by decide +kernel⟩
theorem wg_973 : Cond.code yX8_isWaiting cX8_isWaiting 3 (some .boolean) ∈ lw_good := List.mem_filter.mpr ⟨List.mem_of_getElem? (i := 973) (by decide +kernel), by decide +kernel⟩
theorem mi_X8_isWaiting : MI yX8_isWaiting cX8_isWaiting 3 (some .boolean) 1 := ⟨wg_973, wg_66, by decide +kernel, by decide +kernel⟩
theorem wg_970 : Cond.methodLink RX8 475 yX8_isWaiting ∈ lw_good := List.mem_filter.mpr ⟨List.mem_of_getElem? (i := 970) (by decide +kernel), by decide +kernel⟩
theorem wg_972 : Cond.instanceMethod yX8_isWaiting ∈ lw_good := List.mem_filter.mpr ⟨List.mem_of_getElem? (i := 972) (by decide +kernel), by decide +kernel⟩
theorem wg_27 : Cond.selects RX8 yX8_isWaiting yX8_isWaiting ∈ lw_good := List.mem_filter.mpr ⟨List.mem_of_getElem? (i := 27) (by decide +kernel), by decide +kernel⟩
theorem wt_465 : Cond.fieldLinkNest RX8 438 RX1 "minutes" "I" RX8 ∈ lw_tbl := List.mem_of_getElem? (i := 465) (by decide +kernel)
theorem fl_RX8_438 : FLk RX8 438 RX1 TX1 2 := FLk.nest RX8 wt_465 (by decide +kernel)
theorem wt_178 : Cond.fieldLinkNest RX8 482 RX7 "power" "I" RX8 ∈ lw_tbl := List.mem_of_getElem? (i := 178) (by decide +kernel)
theorem fl_RX8_482 : FLk RX8 482 RX7 TX7 4 := FLk.nest RX8 wt_178 (by decide +kernel)
theorem wt_186 : Cond.fieldLinkNest RX8 250 RX7 "weight" "I" RX8 ∈ lw_tbl := List.mem_of_getElem? (i := 186) (by decide +kernel)
theorem fl_RX8_250 : FLk RX8 250 RX7 TX7 8 := FLk.nest RX8 wt_186 (by decide +kernel)
theorem wg_243 : Cond.fieldLink RX8 25 RX8 "crews" "Ljava/util/ArrayList;" ∈ lw_good := List.mem_filter.mpr ⟨List.mem_of_getElem? (i := 243) (by decide +kernel), by decide +kernel⟩
theorem fl_RX8_25 : FLk RX8 25 RX8 TX8 3 := FLk.link RX8 wg_243 rfl
theorem fo_9_3 : FO 9 3 RX8 TX8 16 := ⟨rfl, rfl, by decide, by decide, fi_9⟩
theorem wg_661 : Cond.classLink RX8 156 RX3 ∈ lw_good := List.mem_filter.mpr ⟨List.mem_of_getElem? (i := 661) (by decide +kernel), by decide +kernel⟩
theorem wg_419 : Cond.code yX7_takesTrackAt cX7_takesTrackAt 2 (some .boolean) ∈ lw_good := List.mem_filter.mpr ⟨List.mem_of_getElem? (i := 419) (by decide +kernel), by decide +kernel⟩
theorem mi_X7_takesTrackAt : MI yX7_takesTrackAt cX7_takesTrackAt 2 (some .boolean) 1 := ⟨wg_419, wg_72, by decide +kernel, by decide +kernel⟩
theorem wg_416 : Cond.methodLink RX8 415 yX7_takesTrackAt ∈ lw_good := List.mem_filter.mpr ⟨List.mem_of_getElem? (i := 416) (by decide +kernel), by decide +kernel⟩
theorem wg_417 : Cond.instanceMethod yX7_takesTrackAt ∈ lw_good := List.mem_filter.mpr ⟨List.mem_of_getElem? (i := 417) (by decide +kernel), by decide +kernel⟩
theorem wg_418 : Cond.selects RX7 yX7_takesTrackAt yX7_takesTrackAt ∈ lw_good := List.mem_filter.mpr ⟨List.mem_of_getElem? (i := 418) (by decide +kernel), by decide +kernel⟩
theorem wt_154 : Cond.fieldLinkNest RX8 99 RX6 "tracks" "I" RX8 ∈ lw_tbl := List.mem_of_getElem? (i := 154) (by decide +kernel)
theorem fl_RX8_99 : FLk RX8 99 RX6 TX6 0 := FLk.nest RX8 wt_154 (by decide +kernel)
theorem wg_415 : Cond.code yX8_takenTracks cX8_takenTracks 4 (some .int) ∈ lw_good := List.mem_filter.mpr ⟨List.mem_of_getElem? (i := 415) (by decide +kernel), by decide +kernel⟩
theorem mi_X8_takenTracks : MI yX8_takenTracks cX8_takenTracks 4 (some .int) 1 := ⟨wg_415, wg_66, by decide +kernel, by decide +kernel⟩
theorem wg_412 : Cond.methodLink RX8 91 yX8_takenTracks ∈ lw_good := List.mem_filter.mpr ⟨List.mem_of_getElem? (i := 412) (by decide +kernel), by decide +kernel⟩
theorem wg_414 : Cond.instanceMethod yX8_takenTracks ∈ lw_good := List.mem_filter.mpr ⟨List.mem_of_getElem? (i := 414) (by decide +kernel), by decide +kernel⟩
theorem wg_2 : Cond.selects RX8 yX8_takenTracks yX8_takenTracks ∈ lw_good := List.mem_filter.mpr ⟨List.mem_of_getElem? (i := 2) (by decide +kernel), by decide +kernel⟩
theorem wg_318 : Cond.code yX8_stationOf cX8_stationOf 2 (some (.object "Ironbark$Station")) ∈ lw_good := List.mem_filter.mpr ⟨List.mem_of_getElem? (i := 318) (by decide +kernel), by decide +kernel⟩
theorem mi_X8_stationOf : MI yX8_stationOf cX8_stationOf 2 (some (.object "Ironbark$Station")) 1 := ⟨wg_318, wg_66, by decide +kernel, by decide +kernel⟩
theorem wg_315 : Cond.methodLink RX8 83 yX8_stationOf ∈ lw_good := List.mem_filter.mpr ⟨List.mem_of_getElem? (i := 315) (by decide +kernel), by decide +kernel⟩
theorem wg_317 : Cond.instanceMethod yX8_stationOf ∈ lw_good := List.mem_filter.mpr ⟨List.mem_of_getElem? (i := 317) (by decide +kernel), by decide +kernel⟩
theorem wg_0 : Cond.selects RX8 yX8_stationOf yX8_stationOf ∈ lw_good := List.mem_filter.mpr ⟨List.mem_of_getElem? (i := 0) (by decide +kernel), by decide +kernel⟩
theorem wt_467 : Cond.fieldLinkNest RX8 483 RX1 "grade" "I" RX8 ∈ lw_tbl := List.mem_of_getElem? (i := 467) (by decide +kernel)
theorem fl_RX8_483 : FLk RX8 483 RX1 TX1 3 := FLk.nest RX8 wt_467 (by decide +kernel)
theorem wt_176 : Cond.fieldLinkNest RX8 421 RX7 "crew" "I" RX8 ∈ lw_tbl := List.mem_of_getElem? (i := 176) (by decide +kernel)
theorem fl_RX8_421 : FLk RX8 421 RX7 TX7 3 := FLk.nest RX8 wt_176 (by decide +kernel)
theorem wt_672 : Cond.fieldLinkNest RX8 166 RX3 "known" "I" RX8 ∈ lw_tbl := List.mem_of_getElem? (i := 672) (by decide +kernel)
theorem fl_RX8_166 : FLk RX8 166 RX3 TX3 2 := FLk.nest RX8 wt_672 (by decide +kernel)
theorem wt_674 : Cond.fieldLinkNest RX8 188 RX3 "duty" "I" RX8 ∈ lw_tbl := List.mem_of_getElem? (i := 674) (by decide +kernel)
theorem fl_RX8_188 : FLk RX8 188 RX3 TX3 3 := FLk.nest RX8 wt_674 (by decide +kernel)
theorem wg_817 : Cond.code yX8_freeTracksAt cX8_freeTracksAt 2 (some .int) ∈ lw_good := List.mem_filter.mpr ⟨List.mem_of_getElem? (i := 817) (by decide +kernel), by decide +kernel⟩
theorem mi_X8_freeTracksAt : MI yX8_freeTracksAt cX8_freeTracksAt 2 (some .int) 1 := ⟨wg_817, wg_66, by decide +kernel, by decide +kernel⟩
theorem wg_814 : Cond.methodLink RX8 216 yX8_freeTracksAt ∈ lw_good := List.mem_filter.mpr ⟨List.mem_of_getElem? (i := 814) (by decide +kernel), by decide +kernel⟩
theorem wg_816 : Cond.instanceMethod yX8_freeTracksAt ∈ lw_good := List.mem_filter.mpr ⟨List.mem_of_getElem? (i := 816) (by decide +kernel), by decide +kernel⟩
theorem wg_13 : Cond.selects RX8 yX8_freeTracksAt yX8_freeTracksAt ∈ lw_good := List.mem_filter.mpr ⟨List.mem_of_getElem? (i := 13) (by decide +kernel), by decide +kernel⟩
theorem wg_901 : Cond.code yX1_otherEnd cX1_otherEnd 2 (some .int) ∈ lw_good := List.mem_filter.mpr ⟨List.mem_of_getElem? (i := 901) (by decide +kernel), by decide +kernel⟩
theorem mi_X1_otherEnd : MI yX1_otherEnd cX1_otherEnd 2 (some .int) 1 := ⟨wg_901, wg_81, by decide +kernel, by decide +kernel⟩
theorem wg_898 : Cond.methodLink RX8 427 yX1_otherEnd ∈ lw_good := List.mem_filter.mpr ⟨List.mem_of_getElem? (i := 898) (by decide +kernel), by decide +kernel⟩
theorem wg_899 : Cond.instanceMethod yX1_otherEnd ∈ lw_good := List.mem_filter.mpr ⟨List.mem_of_getElem? (i := 899) (by decide +kernel), by decide +kernel⟩
theorem wg_900 : Cond.selects RX1 yX1_otherEnd yX1_otherEnd ∈ lw_good := List.mem_filter.mpr ⟨List.mem_of_getElem? (i := 900) (by decide +kernel), by decide +kernel⟩
theorem wg_719 : Cond.code yX3_isRestingAt cX3_isRestingAt 2 (some .boolean) ∈ lw_good := List.mem_filter.mpr ⟨List.mem_of_getElem? (i := 719) (by decide +kernel), by decide +kernel⟩
theorem wg_88 : Cond.initialized RX3 ∈ lw_good := List.mem_filter.mpr ⟨List.mem_of_getElem? (i := 88) (by decide +kernel), by decide +kernel⟩
theorem mi_X3_isRestingAt : MI yX3_isRestingAt cX3_isRestingAt 2 (some .boolean) 1 := ⟨wg_719, wg_88, by decide +kernel, by decide +kernel⟩
theorem wg_716 : Cond.methodLink RX8 174 yX3_isRestingAt ∈ lw_good := List.mem_filter.mpr ⟨List.mem_of_getElem? (i := 716) (by decide +kernel), by decide +kernel⟩
theorem wg_717 : Cond.instanceMethod yX3_isRestingAt ∈ lw_good := List.mem_filter.mpr ⟨List.mem_of_getElem? (i := 717) (by decide +kernel), by decide +kernel⟩
theorem wg_718 : Cond.selects RX3 yX3_isRestingAt yX3_isRestingAt ∈ lw_good := List.mem_filter.mpr ⟨List.mem_of_getElem? (i := 718) (by decide +kernel), by decide +kernel⟩
theorem wg_698 : Cond.code yX8_crewOf cX8_crewOf 2 (some (.object "Ironbark$Crew")) ∈ lw_good := List.mem_filter.mpr ⟨List.mem_of_getElem? (i := 698) (by decide +kernel), by decide +kernel⟩
theorem mi_X8_crewOf : MI yX8_crewOf cX8_crewOf 2 (some (.object "Ironbark$Crew")) 1 := ⟨wg_698, wg_66, by decide +kernel, by decide +kernel⟩
theorem wg_695 : Cond.methodLink RX8 159 yX8_crewOf ∈ lw_good := List.mem_filter.mpr ⟨List.mem_of_getElem? (i := 695) (by decide +kernel), by decide +kernel⟩
theorem wg_697 : Cond.instanceMethod yX8_crewOf ∈ lw_good := List.mem_filter.mpr ⟨List.mem_of_getElem? (i := 697) (by decide +kernel), by decide +kernel⟩
theorem wg_8 : Cond.selects RX8 yX8_crewOf yX8_crewOf ∈ lw_good := List.mem_filter.mpr ⟨List.mem_of_getElem? (i := 8) (by decide +kernel), by decide +kernel⟩
theorem wg_984 : Cond.code yX1_isOfOthers cX1_isOfOthers 5 (some .boolean) ∈ lw_good := List.mem_filter.mpr ⟨List.mem_of_getElem? (i := 984) (by decide +kernel), by decide +kernel⟩
theorem mi_X1_isOfOthers : MI yX1_isOfOthers cX1_isOfOthers 5 (some .boolean) 2 := ⟨wg_984, wg_81, by decide +kernel, by decide +kernel⟩
theorem wg_981 : Cond.methodLink RX8 479 yX1_isOfOthers ∈ lw_good := List.mem_filter.mpr ⟨List.mem_of_getElem? (i := 981) (by decide +kernel), by decide +kernel⟩
theorem wg_982 : Cond.instanceMethod yX1_isOfOthers ∈ lw_good := List.mem_filter.mpr ⟨List.mem_of_getElem? (i := 982) (by decide +kernel), by decide +kernel⟩
theorem wg_983 : Cond.selects RX1 yX1_isOfOthers yX1_isOfOthers ∈ lw_good := List.mem_filter.mpr ⟨List.mem_of_getElem? (i := 983) (by decide +kernel), by decide +kernel⟩
theorem wg_980 : Cond.code yX8_runningMinutes cX8_runningMinutes 3 (some .int) ∈ lw_good := List.mem_filter.mpr ⟨List.mem_of_getElem? (i := 980) (by decide +kernel), by decide +kernel⟩
theorem mi_X8_runningMinutes : MI yX8_runningMinutes cX8_runningMinutes 3 (some .int) 2 := ⟨wg_980, wg_66, by decide +kernel, by decide +kernel⟩
theorem wg_978 : Cond.methodLink RX8 460 yX8_runningMinutes ∈ lw_good := List.mem_filter.mpr ⟨List.mem_of_getElem? (i := 978) (by decide +kernel), by decide +kernel⟩
theorem wg_979 : Cond.static yX8_runningMinutes ∈ lw_good := List.mem_filter.mpr ⟨List.mem_of_getElem? (i := 979) (by decide +kernel), by decide +kernel⟩
theorem wg_977 : Cond.code yX8_barOfRun cX8_barOfRun 6 (some .int) ∈ lw_good := List.mem_filter.mpr ⟨List.mem_of_getElem? (i := 977) (by decide +kernel), by decide +kernel⟩
theorem mi_X8_barOfRun : MI yX8_barOfRun cX8_barOfRun 6 (some .int) 3 := ⟨wg_977, wg_66, by decide +kernel, by decide +kernel⟩
theorem wg_974 : Cond.methodLink RX8 308 yX8_barOfRun ∈ lw_good := List.mem_filter.mpr ⟨List.mem_of_getElem? (i := 974) (by decide +kernel), by decide +kernel⟩
theorem wg_976 : Cond.instanceMethod yX8_barOfRun ∈ lw_good := List.mem_filter.mpr ⟨List.mem_of_getElem? (i := 976) (by decide +kernel), by decide +kernel⟩
theorem wg_28 : Cond.selects RX8 yX8_barOfRun yX8_barOfRun ∈ lw_good := List.mem_filter.mpr ⟨List.mem_of_getElem? (i := 28) (by decide +kernel), by decide +kernel⟩
theorem wg_969 : Cond.code yX8_barOfStart cX8_barOfStart 3 (some .int) ∈ lw_good := List.mem_filter.mpr ⟨List.mem_of_getElem? (i := 969) (by decide +kernel), by decide +kernel⟩
theorem mi_X8_barOfStart : MI yX8_barOfStart cX8_barOfStart 3 (some .int) 2 := ⟨wg_969, wg_66, by decide +kernel, by decide +kernel⟩
theorem wg_966 : Cond.methodLink RX8 304 yX8_barOfStart ∈ lw_good := List.mem_filter.mpr ⟨List.mem_of_getElem? (i := 966) (by decide +kernel), by decide +kernel⟩
theorem wg_968 : Cond.instanceMethod yX8_barOfStart ∈ lw_good := List.mem_filter.mpr ⟨List.mem_of_getElem? (i := 968) (by decide +kernel), by decide +kernel⟩
theorem wg_26 : Cond.selects RX8 yX8_barOfStart yX8_barOfStart ∈ lw_good := List.mem_filter.mpr ⟨List.mem_of_getElem? (i := 26) (by decide +kernel), by decide +kernel⟩
theorem wg_965 : Cond.code yX8_barOf cX8_barOf 5 (some .int) ∈ lw_good := List.mem_filter.mpr ⟨List.mem_of_getElem? (i := 965) (by decide +kernel), by decide +kernel⟩
theorem mi_X8_barOf : MI yX8_barOf cX8_barOf 5 (some .int) 1 := ⟨wg_965, wg_66, by decide +kernel, by decide +kernel⟩
theorem wg_962 : Cond.methodLink RX8 371 yX8_barOf ∈ lw_good := List.mem_filter.mpr ⟨List.mem_of_getElem? (i := 962) (by decide +kernel), by decide +kernel⟩
theorem wg_964 : Cond.instanceMethod yX8_barOf ∈ lw_good := List.mem_filter.mpr ⟨List.mem_of_getElem? (i := 964) (by decide +kernel), by decide +kernel⟩
theorem wg_25 : Cond.selects RX8 yX8_barOf yX8_barOf ∈ lw_good := List.mem_filter.mpr ⟨List.mem_of_getElem? (i := 25) (by decide +kernel), by decide +kernel⟩
theorem wg_253 : Cond.fieldLink RX8 66 RX8 "money" "I" ∈ lw_good := List.mem_filter.mpr ⟨List.mem_of_getElem? (i := 253) (by decide +kernel), by decide +kernel⟩
theorem fl_RX8_66 : FLk RX8 66 RX8 TX8 13 := FLk.link RX8 wg_253 rfl
theorem fo_9_13 : FO 9 13 RX8 TX8 16 := ⟨rfl, rfl, by decide, by decide, fi_9⟩
theorem wg_254 : Cond.fieldLink RX8 69 RX8 "owed" "I" ∈ lw_good := List.mem_filter.mpr ⟨List.mem_of_getElem? (i := 254) (by decide +kernel), by decide +kernel⟩
theorem fl_RX8_69 : FLk RX8 69 RX8 TX8 14 := FLk.link RX8 wg_254 rfl
theorem fo_9_14 : FO 9 14 RX8 TX8 16 := ⟨rfl, rfl, by decide, by decide, fi_9⟩
theorem wt_753 : Cond.fieldLinkNest RX8 245 RX2 "train" "I" RX8 ∈ lw_tbl := List.mem_of_getElem? (i := 753) (by decide +kernel)
theorem fl_RX8_245 : FLk RX8 245 RX2 TX2 2 := FLk.nest RX8 wt_753 (by decide +kernel)
theorem wt_751 : Cond.fieldLinkNest RX8 246 RX2 "station" "I" RX8 ∈ lw_tbl := List.mem_of_getElem? (i := 751) (by decide +kernel)
theorem fl_RX8_246 : FLk RX8 246 RX2 TX2 1 := FLk.nest RX8 wt_751 (by decide +kernel)
theorem wg_79 : Cond.initialized "java/lang/IllegalArgumentException" ∈ lw_good := List.mem_filter.mpr ⟨List.mem_of_getElem? (i := 79) (by decide +kernel), by decide +kernel⟩
theorem at_390_394 : ∀ w ∈ vx_atS RX8 394 "java/lang/IllegalArgumentException" ["java/lang/RuntimeException", "java/lang/Exception"], w ∈ lw_tbl ∧ (goodWord w || (isNw w && w.onTables)) = true := fun w hw => by
  have h : (vx_atS RX8 394 "java/lang/IllegalArgumentException" ["java/lang/RuntimeException", "java/lang/Exception"]).all (fun w => decide (w ∈ lw_tbl) && (goodWord w || (isNw w && w.onTables))) = true := by decide +kernel
  have h2 := List.all_eq_true.mp h w hw
  rw [Bool.and_eq_true, decide_eq_true_eq] at h2
  exact h2
theorem au_390_394 : ∀ w ∈ Cond.classLink RX8 390 "java/lang/IllegalArgumentException" :: Cond.initialized "java/lang/IllegalArgumentException" :: vx_atS RX8 394 "java/lang/IllegalArgumentException" ["java/lang/RuntimeException", "java/lang/Exception"], vx_ot w = true := by decide +kernel
theorem wg_396 : Cond.classLink RX8 390 "java/lang/IllegalArgumentException" ∈ lw_good := List.mem_filter.mpr ⟨List.mem_of_getElem? (i := 396) (by decide +kernel), by decide +kernel⟩
theorem wg_395 : Cond.code yX8_requireArgument cX8_requireArgument 1 none ∈ lw_good := List.mem_filter.mpr ⟨List.mem_of_getElem? (i := 395) (by decide +kernel), by decide +kernel⟩
theorem mi_X8_requireArgument : MI yX8_requireArgument cX8_requireArgument 1 none 1 := ⟨wg_395, wg_66, by decide +kernel, by decide +kernel⟩
theorem wg_393 : Cond.methodLink RX8 105 yX8_requireArgument ∈ lw_good := List.mem_filter.mpr ⟨List.mem_of_getElem? (i := 393) (by decide +kernel), by decide +kernel⟩
theorem wg_394 : Cond.static yX8_requireArgument ∈ lw_good := List.mem_filter.mpr ⟨List.mem_of_getElem? (i := 394) (by decide +kernel), by decide +kernel⟩
theorem wg_795 : Cond.constant RX8 206 50000 ∈ lw_good := List.mem_filter.mpr ⟨List.mem_of_getElem? (i := 795) (by decide +kernel), by decide +kernel⟩
theorem wg_392 : Cond.code yX8_requireRange cX8_requireRange 3 none ∈ lw_good := List.mem_filter.mpr ⟨List.mem_of_getElem? (i := 392) (by decide +kernel), by decide +kernel⟩
theorem mi_X8_requireRange : MI yX8_requireRange cX8_requireRange 3 none 3 := ⟨wg_392, wg_66, by decide +kernel, by decide +kernel⟩
theorem wg_390 : Cond.methodLink RX8 87 yX8_requireRange ∈ lw_good := List.mem_filter.mpr ⟨List.mem_of_getElem? (i := 390) (by decide +kernel), by decide +kernel⟩
theorem wg_391 : Cond.static yX8_requireRange ∈ lw_good := List.mem_filter.mpr ⟨List.mem_of_getElem? (i := 391) (by decide +kernel), by decide +kernel⟩
theorem wt_156 : Cond.fieldLinkNest RX8 200 RX6 "yard" "LIronbark$Row;" RX8 ∈ lw_tbl := List.mem_of_getElem? (i := 156) (by decide +kernel)
theorem fl_RX8_200 : FLk RX8 200 RX6 TX6 1 := FLk.nest RX8 wt_156 (by decide +kernel)
theorem wg_772 : Cond.code yX2_write cX2_write 3 none ∈ lw_good := List.mem_filter.mpr ⟨List.mem_of_getElem? (i := 772) (by decide +kernel), by decide +kernel⟩
theorem wg_90 : Cond.initialized RX2 ∈ lw_good := List.mem_filter.mpr ⟨List.mem_of_getElem? (i := 90) (by decide +kernel), by decide +kernel⟩
theorem mi_X2_write : MI yX2_write cX2_write 3 none 2 := ⟨wg_772, wg_90, by decide +kernel, by decide +kernel⟩
theorem wg_769 : Cond.methodLink RX8 197 yX2_write ∈ lw_good := List.mem_filter.mpr ⟨List.mem_of_getElem? (i := 769) (by decide +kernel), by decide +kernel⟩
theorem wg_770 : Cond.instanceMethod yX2_write ∈ lw_good := List.mem_filter.mpr ⟨List.mem_of_getElem? (i := 770) (by decide +kernel), by decide +kernel⟩
theorem wg_771 : Cond.selects RX2 yX2_write yX2_write ∈ lw_good := List.mem_filter.mpr ⟨List.mem_of_getElem? (i := 771) (by decide +kernel), by decide +kernel⟩
theorem wg_875 : Cond.code yX8_bringToYard cX8_bringToYard 4 none ∈ lw_good := List.mem_filter.mpr ⟨List.mem_of_getElem? (i := 875) (by decide +kernel), by decide +kernel⟩
theorem mi_X8_bringToYard : MI yX8_bringToYard cX8_bringToYard 4 none 2 := ⟨wg_875, wg_66, by decide +kernel, by decide +kernel⟩
theorem wg_872 : Cond.methodLink RX8 255 yX8_bringToYard ∈ lw_good := List.mem_filter.mpr ⟨List.mem_of_getElem? (i := 872) (by decide +kernel), by decide +kernel⟩
theorem wg_874 : Cond.instanceMethod yX8_bringToYard ∈ lw_good := List.mem_filter.mpr ⟨List.mem_of_getElem? (i := 874) (by decide +kernel), by decide +kernel⟩
theorem wg_17 : Cond.selects RX8 yX8_bringToYard yX8_bringToYard ∈ lw_good := List.mem_filter.mpr ⟨List.mem_of_getElem? (i := 17) (by decide +kernel), by decide +kernel⟩
theorem wg_255 : Cond.fieldLink RX8 72 RX8 "lastBroken" "I" ∈ lw_good := List.mem_filter.mpr ⟨List.mem_of_getElem? (i := 255) (by decide +kernel), by decide +kernel⟩
theorem fl_RX8_72 : FLk RX8 72 RX8 TX8 15 := FLk.link RX8 wg_255 rfl
theorem fo_9_15 : FO 9 15 RX8 TX8 16 := ⟨rfl, rfl, by decide, by decide, fi_9⟩
theorem wg_532 : Cond.methodLink RJ8 194 yJ9_max_7cf53 ∈ lw_good := List.mem_filter.mpr ⟨List.mem_of_getElem? (i := 532) (by decide +kernel), by decide +kernel⟩
theorem wg_535 : Cond.constant RJ8 200 2147483639 ∈ lw_good := List.mem_filter.mpr ⟨List.mem_of_getElem? (i := 535) (by decide +kernel), by decide +kernel⟩
theorem wg_563 : Cond.classLink RJ7 110 "[Ljava/lang/Object;" ∈ lw_good := List.mem_filter.mpr ⟨List.mem_of_getElem? (i := 563) (by decide +kernel), by decide +kernel⟩
theorem wg_565 : Cond.classLink RJ7 2 "java/lang/Object" ∈ lw_good := List.mem_filter.mpr ⟨List.mem_of_getElem? (i := 565) (by decide +kernel), by decide +kernel⟩
theorem wg_542 : Cond.methodLink RJ7 86 ⟨"java/lang/Object", "getClass", "()Ljava/lang/Class;"⟩ ∈ lw_good := List.mem_filter.mpr ⟨List.mem_of_getElem? (i := 542) (by decide +kernel), by decide +kernel⟩
theorem wg_562 : Cond.code yJ7_copyOf_6403c cJ7_copyOf_6403c 4 (some (.array (.object "java/lang/Object"))) ∈ lw_good := List.mem_filter.mpr ⟨List.mem_of_getElem? (i := 562) (by decide +kernel), by decide +kernel⟩
theorem mi_J7_copyOf_6403c : MI yJ7_copyOf_6403c cJ7_copyOf_6403c 4 (some (.array (.object "java/lang/Object"))) 3 := ⟨wg_562, wg_73, by decide +kernel, by decide +kernel⟩
theorem wg_560 : Cond.methodLink RJ7 300 yJ7_copyOf_6403c ∈ lw_good := List.mem_filter.mpr ⟨List.mem_of_getElem? (i := 560) (by decide +kernel), by decide +kernel⟩
theorem wg_561 : Cond.static yJ7_copyOf_6403c ∈ lw_good := List.mem_filter.mpr ⟨List.mem_of_getElem? (i := 561) (by decide +kernel), by decide +kernel⟩
theorem wg_114 : Cond.fieldLink RJx4a65c 39 RJx4a65c "DEFAULTCAPACITY_EMPTY_ELEMENTDATA" "[Ljava/lang/Object;" ∈ lw_good := List.mem_filter.mpr ⟨List.mem_of_getElem? (i := 114) (by decide +kernel), by decide +kernel⟩
theorem wg_572 : Cond.methodLink RJx4a65c 79 yJ9_max_7cf53 ∈ lw_good := List.mem_filter.mpr ⟨List.mem_of_getElem? (i := 572) (by decide +kernel), by decide +kernel⟩
theorem wg_573 : Cond.classLink RJx4a65c 7 "java/lang/Object" ∈ lw_good := List.mem_filter.mpr ⟨List.mem_of_getElem? (i := 573) (by decide +kernel), by decide +kernel⟩
theorem wg_541 : Cond.code yJ7_copyOf_1904c cJ7_copyOf_1904c 2 (some (.array (.object "java/lang/Object"))) ∈ lw_good := List.mem_filter.mpr ⟨List.mem_of_getElem? (i := 541) (by decide +kernel), by decide +kernel⟩
theorem mi_J7_copyOf_1904c : MI yJ7_copyOf_1904c cJ7_copyOf_1904c 2 (some (.array (.object "java/lang/Object"))) 2 := ⟨wg_541, wg_73, by decide +kernel, by decide +kernel⟩
theorem wg_539 : Cond.methodLink RJx4a65c 66 yJ7_copyOf_1904c ∈ lw_good := List.mem_filter.mpr ⟨List.mem_of_getElem? (i := 539) (by decide +kernel), by decide +kernel⟩
theorem wg_540 : Cond.static yJ7_copyOf_1904c ∈ lw_good := List.mem_filter.mpr ⟨List.mem_of_getElem? (i := 540) (by decide +kernel), by decide +kernel⟩
theorem wg_531 : Cond.code yJ8_newLength_cabcc cJ8_newLength_cabcc 4 (some .int) ∈ lw_good := List.mem_filter.mpr ⟨List.mem_of_getElem? (i := 531) (by decide +kernel), by decide +kernel⟩
theorem wg_82 : Cond.initialized RJ8 ∈ lw_good := List.mem_filter.mpr ⟨List.mem_of_getElem? (i := 82) (by decide +kernel), by decide +kernel⟩
theorem mi_J8_newLength_cabcc : MI yJ8_newLength_cabcc cJ8_newLength_cabcc 4 (some .int) 3 := ⟨wg_531, wg_82, by decide +kernel, by decide +kernel⟩
theorem wg_529 : Cond.methodLink RJx4a65c 73 yJ8_newLength_cabcc ∈ lw_good := List.mem_filter.mpr ⟨List.mem_of_getElem? (i := 529) (by decide +kernel), by decide +kernel⟩
theorem wg_530 : Cond.static yJ8_newLength_cabcc ∈ lw_good := List.mem_filter.mpr ⟨List.mem_of_getElem? (i := 530) (by decide +kernel), by decide +kernel⟩
theorem wg_528 : Cond.code yJx4a65c_grow_92f84 cJx4a65c_grow_92f84 4 (some (.array (.object "java/lang/Object"))) ∈ lw_good := List.mem_filter.mpr ⟨List.mem_of_getElem? (i := 528) (by decide +kernel), by decide +kernel⟩
theorem mi_Jx4a65c_grow_92f84 : MI yJx4a65c_grow_92f84 cJx4a65c_grow_92f84 4 (some (.array (.object "java/lang/Object"))) 1 := ⟨wg_528, wg_69, by decide +kernel, by decide +kernel⟩
theorem wg_525 : Cond.methodLink RJx4a65c 69 yJx4a65c_grow_92f84 ∈ lw_good := List.mem_filter.mpr ⟨List.mem_of_getElem? (i := 525) (by decide +kernel), by decide +kernel⟩
theorem wg_527 : Cond.instanceMethod yJx4a65c_grow_92f84 ∈ lw_good := List.mem_filter.mpr ⟨List.mem_of_getElem? (i := 527) (by decide +kernel), by decide +kernel⟩
theorem wg_6 : Cond.selects RJx4a65c yJx4a65c_grow_92f84 yJx4a65c_grow_92f84 ∈ lw_good := List.mem_filter.mpr ⟨List.mem_of_getElem? (i := 6) (by decide +kernel), by decide +kernel⟩
theorem wg_524 : Cond.code yJx4a65c_grow_d5877 cJx4a65c_grow_d5877 1 (some (.array (.object "java/lang/Object"))) ∈ lw_good := List.mem_filter.mpr ⟨List.mem_of_getElem? (i := 524) (by decide +kernel), by decide +kernel⟩
theorem mi_Jx4a65c_grow_d5877 : MI yJx4a65c_grow_d5877 cJx4a65c_grow_d5877 1 (some (.array (.object "java/lang/Object"))) 0 := ⟨wg_524, wg_69, by decide +kernel, by decide +kernel⟩
theorem wg_521 : Cond.methodLink RJx4a65c 129 yJx4a65c_grow_d5877 ∈ lw_good := List.mem_filter.mpr ⟨List.mem_of_getElem? (i := 521) (by decide +kernel), by decide +kernel⟩
theorem wg_523 : Cond.instanceMethod yJx4a65c_grow_d5877 ∈ lw_good := List.mem_filter.mpr ⟨List.mem_of_getElem? (i := 523) (by decide +kernel), by decide +kernel⟩
theorem wg_5 : Cond.selects RJx4a65c yJx4a65c_grow_d5877 yJx4a65c_grow_d5877 ∈ lw_good := List.mem_filter.mpr ⟨List.mem_of_getElem? (i := 5) (by decide +kernel), by decide +kernel⟩
theorem wg_119 : Cond.fieldLink RJx4a65c 63 RJx4a65c "modCount" "I" ∈ lw_good := List.mem_filter.mpr ⟨List.mem_of_getElem? (i := 119) (by decide +kernel), by decide +kernel⟩
theorem wg_120 : Cond.sameField RJx4a65c RJxc12de "modCount" "I" ∈ lw_good := List.mem_filter.mpr ⟨List.mem_of_getElem? (i := 120) (by decide +kernel), by decide +kernel⟩
theorem fl_RJx4a65c_63 : FLk RJx4a65c 63 RJx4a65c TJx4a65c 0 := FLk.same RJx4a65c wg_119 wg_120
theorem fo_0_0 : FO 0 0 RJx4a65c TJx4a65c 3 := ⟨rfl, rfl, by decide, by decide, fi_0⟩
theorem wg_520 : Cond.code yJx4a65c_add_72be8 cJx4a65c_add_72be8 4 none ∈ lw_good := List.mem_filter.mpr ⟨List.mem_of_getElem? (i := 520) (by decide +kernel), by decide +kernel⟩
theorem mi_Jx4a65c_add_72be8 : MI yJx4a65c_add_72be8 cJx4a65c_add_72be8 4 none 3 := ⟨wg_520, wg_69, by decide +kernel, by decide +kernel⟩
theorem wg_517 : Cond.methodLink RJx4a65c 131 yJx4a65c_add_72be8 ∈ lw_good := List.mem_filter.mpr ⟨List.mem_of_getElem? (i := 517) (by decide +kernel), by decide +kernel⟩
theorem wg_519 : Cond.instanceMethod yJx4a65c_add_72be8 ∈ lw_good := List.mem_filter.mpr ⟨List.mem_of_getElem? (i := 519) (by decide +kernel), by decide +kernel⟩
theorem wg_4 : Cond.selects RJx4a65c yJx4a65c_add_72be8 yJx4a65c_add_72be8 ∈ lw_good := List.mem_filter.mpr ⟨List.mem_of_getElem? (i := 4) (by decide +kernel), by decide +kernel⟩
theorem wg_741 : Cond.instantiable RX2 5 ∈ lw_good := List.mem_filter.mpr ⟨List.mem_of_getElem? (i := 741) (by decide +kernel), by decide +kernel⟩
theorem wg_516 : Cond.code yJx4a65c_add_9ea2d cJx4a65c_add_9ea2d 2 (some .boolean) ∈ lw_good := List.mem_filter.mpr ⟨List.mem_of_getElem? (i := 516) (by decide +kernel), by decide +kernel⟩
theorem mi_Jx4a65c_add_9ea2d : MI yJx4a65c_add_9ea2d cJx4a65c_add_9ea2d 2 (some .boolean) 1 := ⟨wg_516, wg_69, by decide +kernel, by decide +kernel⟩
theorem wg_513 : Cond.methodLink RX8 117 yJx4a65c_add_9ea2d ∈ lw_good := List.mem_filter.mpr ⟨List.mem_of_getElem? (i := 513) (by decide +kernel), by decide +kernel⟩
theorem wg_514 : Cond.instanceMethod yJx4a65c_add_9ea2d ∈ lw_good := List.mem_filter.mpr ⟨List.mem_of_getElem? (i := 514) (by decide +kernel), by decide +kernel⟩
theorem wg_515 : Cond.selects RJx4a65c yJx4a65c_add_9ea2d yJx4a65c_add_9ea2d ∈ lw_good := List.mem_filter.mpr ⟨List.mem_of_getElem? (i := 515) (by decide +kernel), by decide +kernel⟩
theorem wg_744 : Cond.code yX2_init cX2_init 2 none ∈ lw_good := List.mem_filter.mpr ⟨List.mem_of_getElem? (i := 744) (by decide +kernel), by decide +kernel⟩
theorem mi_X2_init : MI yX2_init cX2_init 2 none 1 := ⟨wg_744, wg_90, by decide +kernel, by decide +kernel⟩
theorem wg_742 : Cond.methodLink RX8 196 yX2_init ∈ lw_good := List.mem_filter.mpr ⟨List.mem_of_getElem? (i := 742) (by decide +kernel), by decide +kernel⟩
theorem wg_743 : Cond.instanceMethod yX2_init ∈ lw_good := List.mem_filter.mpr ⟨List.mem_of_getElem? (i := 743) (by decide +kernel), by decide +kernel⟩
theorem wt_757 : Cond.fieldLinkNest RX8 375 RX2 "papers" "LIronbark$Row;" RX8 ∈ lw_tbl := List.mem_of_getElem? (i := 757) (by decide +kernel)
theorem fl_RX8_375 : FLk RX8 375 RX2 TX2 4 := FLk.nest RX8 wt_757 (by decide +kernel)
theorem wg_242 : Cond.fieldLink RX8 22 RX8 "engines" "Ljava/util/ArrayList;" ∈ lw_good := List.mem_filter.mpr ⟨List.mem_of_getElem? (i := 242) (by decide +kernel), by decide +kernel⟩
theorem fl_RX8_22 : FLk RX8 22 RX8 TX8 2 := FLk.link RX8 wg_242 rfl
theorem fo_9_2 : FO 9 2 RX8 TX8 16 := ⟨rfl, rfl, by decide, by decide, fi_9⟩
theorem wg_635 : Cond.classLink RX8 151 RX4 ∈ lw_good := List.mem_filter.mpr ⟨List.mem_of_getElem? (i := 635) (by decide +kernel), by decide +kernel⟩
theorem wt_174 : Cond.fieldLinkNest RX8 418 RX7 "engine" "I" RX8 ∈ lw_tbl := List.mem_of_getElem? (i := 174) (by decide +kernel)
theorem fl_RX8_418 : FLk RX8 418 RX7 TX7 2 := FLk.nest RX8 wt_174 (by decide +kernel)
theorem wt_646 : Cond.fieldLinkNest RX8 211 RX4 "train" "I" RX8 ∈ lw_tbl := List.mem_of_getElem? (i := 646) (by decide +kernel)
theorem fl_RX8_211 : FLk RX8 211 RX4 TX4 2 := FLk.nest RX8 wt_646 (by decide +kernel)
theorem wt_644 : Cond.fieldLinkNest RX8 212 RX4 "station" "I" RX8 ∈ lw_tbl := List.mem_of_getElem? (i := 644) (by decide +kernel)
theorem fl_RX8_212 : FLk RX8 212 RX4 TX4 1 := FLk.nest RX8 wt_644 (by decide +kernel)
theorem wt_670 : Cond.fieldLinkNest RX8 177 RX3 "train" "I" RX8 ∈ lw_tbl := List.mem_of_getElem? (i := 670) (by decide +kernel)
theorem fl_RX8_177 : FLk RX8 177 RX3 TX3 1 := FLk.nest RX8 wt_670 (by decide +kernel)
theorem wt_668 : Cond.fieldLinkNest RX8 215 RX3 "station" "I" RX8 ∈ lw_tbl := List.mem_of_getElem? (i := 668) (by decide +kernel)
theorem fl_RX8_215 : FLk RX8 215 RX3 TX3 0 := FLk.nest RX8 wt_668 (by decide +kernel)
theorem wg_813 : Cond.code yX8_engineOf cX8_engineOf 2 (some (.object "Ironbark$Engine")) ∈ lw_good := List.mem_filter.mpr ⟨List.mem_of_getElem? (i := 813) (by decide +kernel), by decide +kernel⟩
theorem mi_X8_engineOf : MI yX8_engineOf cX8_engineOf 2 (some (.object "Ironbark$Engine")) 1 := ⟨wg_813, wg_66, by decide +kernel, by decide +kernel⟩
theorem wg_810 : Cond.methodLink RX8 207 yX8_engineOf ∈ lw_good := List.mem_filter.mpr ⟨List.mem_of_getElem? (i := 810) (by decide +kernel), by decide +kernel⟩
theorem wg_812 : Cond.instanceMethod yX8_engineOf ∈ lw_good := List.mem_filter.mpr ⟨List.mem_of_getElem? (i := 812) (by decide +kernel), by decide +kernel⟩
theorem wg_12 : Cond.selects RX8 yX8_engineOf yX8_engineOf ∈ lw_good := List.mem_filter.mpr ⟨List.mem_of_getElem? (i := 12) (by decide +kernel), by decide +kernel⟩
theorem wt_481 : Cond.fieldLinkNest RX8 312 RX1 "hasWrecks" "Z" RX8 ∈ lw_tbl := List.mem_of_getElem? (i := 481) (by decide +kernel)
theorem fl_RX8_312 : FLk RX8 312 RX1 TX1 10 := FLk.nest RX8 wt_481 (by decide +kernel)
theorem wt_479 : Cond.fieldLinkNest RX8 148 RX1 "closedUntil" "I" RX8 ∈ lw_tbl := List.mem_of_getElem? (i := 479) (by decide +kernel)
theorem fl_RX8_148 : FLk RX8 148 RX1 TX1 9 := FLk.nest RX8 wt_479 (by decide +kernel)
theorem wt_461 : Cond.fieldLinkNest RX8 325 RX1 "first" "I" RX8 ∈ lw_tbl := List.mem_of_getElem? (i := 461) (by decide +kernel)
theorem fl_RX8_325 : FLk RX8 325 RX1 TX1 0 := FLk.nest RX8 wt_461 (by decide +kernel)
theorem wg_845 : Cond.code yX8_sendOff cX8_sendOff 5 none ∈ lw_good := List.mem_filter.mpr ⟨List.mem_of_getElem? (i := 845) (by decide +kernel), by decide +kernel⟩
theorem mi_X8_sendOff : MI yX8_sendOff cX8_sendOff 5 none 2 := ⟨wg_845, wg_66, by decide +kernel, by decide +kernel⟩
theorem wg_842 : Cond.methodLink RX8 237 yX8_sendOff ∈ lw_good := List.mem_filter.mpr ⟨List.mem_of_getElem? (i := 842) (by decide +kernel), by decide +kernel⟩
theorem wg_844 : Cond.instanceMethod yX8_sendOff ∈ lw_good := List.mem_filter.mpr ⟨List.mem_of_getElem? (i := 844) (by decide +kernel), by decide +kernel⟩
theorem wg_15 : Cond.selects RX8 yX8_sendOff yX8_sendOff ∈ lw_good := List.mem_filter.mpr ⟨List.mem_of_getElem? (i := 15) (by decide +kernel), by decide +kernel⟩
theorem wg_1014 : Cond.code yX8_bringCarsToYard cX8_bringCarsToYard 4 none ∈ lw_good := List.mem_filter.mpr ⟨List.mem_of_getElem? (i := 1014) (by decide +kernel), by decide +kernel⟩
theorem mi_X8_bringCarsToYard : MI yX8_bringCarsToYard cX8_bringCarsToYard 4 none 2 := ⟨wg_1014, wg_66, by decide +kernel, by decide +kernel⟩
theorem wg_1011 : Cond.methodLink RX8 328 yX8_bringCarsToYard ∈ lw_good := List.mem_filter.mpr ⟨List.mem_of_getElem? (i := 1011) (by decide +kernel), by decide +kernel⟩
theorem wg_1013 : Cond.instanceMethod yX8_bringCarsToYard ∈ lw_good := List.mem_filter.mpr ⟨List.mem_of_getElem? (i := 1013) (by decide +kernel), by decide +kernel⟩
theorem wg_31 : Cond.selects RX8 yX8_bringCarsToYard yX8_bringCarsToYard ∈ lw_good := List.mem_filter.mpr ⟨List.mem_of_getElem? (i := 31) (by decide +kernel), by decide +kernel⟩
theorem wg_864 : Cond.code yX2_weight cX2_weight 1 (some .int) ∈ lw_good := List.mem_filter.mpr ⟨List.mem_of_getElem? (i := 864) (by decide +kernel), by decide +kernel⟩
theorem mi_X2_weight : MI yX2_weight cX2_weight 1 (some .int) 0 := ⟨wg_864, wg_90, by decide +kernel, by decide +kernel⟩
theorem wg_861 : Cond.methodLink RX8 253 yX2_weight ∈ lw_good := List.mem_filter.mpr ⟨List.mem_of_getElem? (i := 861) (by decide +kernel), by decide +kernel⟩
theorem wg_862 : Cond.instanceMethod yX2_weight ∈ lw_good := List.mem_filter.mpr ⟨List.mem_of_getElem? (i := 862) (by decide +kernel), by decide +kernel⟩
theorem wg_863 : Cond.selects RX2 yX2_weight yX2_weight ∈ lw_good := List.mem_filter.mpr ⟨List.mem_of_getElem? (i := 863) (by decide +kernel), by decide +kernel⟩
theorem wg_860 : Cond.code yX5_drop cX5_drop 4 none ∈ lw_good := List.mem_filter.mpr ⟨List.mem_of_getElem? (i := 860) (by decide +kernel), by decide +kernel⟩
theorem mi_X5_drop : MI yX5_drop cX5_drop 4 none 1 := ⟨wg_860, wg_70, by decide +kernel, by decide +kernel⟩
theorem wg_857 : Cond.methodLink RX8 247 yX5_drop ∈ lw_good := List.mem_filter.mpr ⟨List.mem_of_getElem? (i := 857) (by decide +kernel), by decide +kernel⟩
theorem wg_858 : Cond.instanceMethod yX5_drop ∈ lw_good := List.mem_filter.mpr ⟨List.mem_of_getElem? (i := 858) (by decide +kernel), by decide +kernel⟩
theorem wg_859 : Cond.selects RX5 yX5_drop yX5_drop ∈ lw_good := List.mem_filter.mpr ⟨List.mem_of_getElem? (i := 859) (by decide +kernel), by decide +kernel⟩
theorem wg_662 : Cond.instantiable RX3 5 ∈ lw_good := List.mem_filter.mpr ⟨List.mem_of_getElem? (i := 662) (by decide +kernel), by decide +kernel⟩
theorem wg_665 : Cond.code yX3_init cX3_init 2 none ∈ lw_good := List.mem_filter.mpr ⟨List.mem_of_getElem? (i := 665) (by decide +kernel), by decide +kernel⟩
theorem mi_X3_init : MI yX3_init cX3_init 2 none 1 := ⟨wg_665, wg_88, by decide +kernel, by decide +kernel⟩
theorem wg_663 : Cond.methodLink RX8 158 yX3_init ∈ lw_good := List.mem_filter.mpr ⟨List.mem_of_getElem? (i := 663) (by decide +kernel), by decide +kernel⟩
theorem wg_664 : Cond.instanceMethod yX3_init ∈ lw_good := List.mem_filter.mpr ⟨List.mem_of_getElem? (i := 664) (by decide +kernel), by decide +kernel⟩
theorem wg_841 : Cond.code yX7_isClearAt cX7_isClearAt 3 (some .boolean) ∈ lw_good := List.mem_filter.mpr ⟨List.mem_of_getElem? (i := 841) (by decide +kernel), by decide +kernel⟩
theorem mi_X7_isClearAt : MI yX7_isClearAt cX7_isClearAt 3 (some .boolean) 1 := ⟨wg_841, wg_72, by decide +kernel, by decide +kernel⟩
theorem wg_838 : Cond.methodLink RX8 233 yX7_isClearAt ∈ lw_good := List.mem_filter.mpr ⟨List.mem_of_getElem? (i := 838) (by decide +kernel), by decide +kernel⟩
theorem wg_839 : Cond.instanceMethod yX7_isClearAt ∈ lw_good := List.mem_filter.mpr ⟨List.mem_of_getElem? (i := 839) (by decide +kernel), by decide +kernel⟩
theorem wg_840 : Cond.selects RX7 yX7_isClearAt yX7_isClearAt ∈ lw_good := List.mem_filter.mpr ⟨List.mem_of_getElem? (i := 840) (by decide +kernel), by decide +kernel⟩
theorem wg_1183 : Cond.constant RX8 430 1000000 ∈ lw_good := List.mem_filter.mpr ⟨List.mem_of_getElem? (i := 1183) (by decide +kernel), by decide +kernel⟩
theorem wg_251 : Cond.fieldLink RX8 59 RX8 "distances" "[I" ∈ lw_good := List.mem_filter.mpr ⟨List.mem_of_getElem? (i := 251) (by decide +kernel), by decide +kernel⟩
theorem fl_RX8_59 : FLk RX8 59 RX8 TX8 11 := FLk.link RX8 wg_251 rfl
theorem fo_9_11 : FO 9 11 RX8 TX8 16 := ⟨rfl, rfl, by decide, by decide, fi_9⟩
theorem wg_249 : Cond.fieldLink RX8 52 RX8 "draft" "LIronbark$Row;" ∈ lw_good := List.mem_filter.mpr ⟨List.mem_of_getElem? (i := 249) (by decide +kernel), by decide +kernel⟩
theorem fl_RX8_52 : FLk RX8 52 RX8 TX8 9 := FLk.link RX8 wg_249 rfl
theorem fo_9_9 : FO 9 9 RX8 TX8 16 := ⟨rfl, rfl, by decide, by decide, fi_9⟩
theorem wg_636 : Cond.instantiable RX4 3 ∈ lw_good := List.mem_filter.mpr ⟨List.mem_of_getElem? (i := 636) (by decide +kernel), by decide +kernel⟩
theorem wg_87 : Cond.initialized RX4 ∈ lw_good := List.mem_filter.mpr ⟨List.mem_of_getElem? (i := 87) (by decide +kernel), by decide +kernel⟩
theorem wg_639 : Cond.code yX4_init cX4_init 3 none ∈ lw_good := List.mem_filter.mpr ⟨List.mem_of_getElem? (i := 639) (by decide +kernel), by decide +kernel⟩
theorem mi_X4_init : MI yX4_init cX4_init 3 none 2 := ⟨wg_639, wg_87, by decide +kernel, by decide +kernel⟩
theorem wg_637 : Cond.methodLink RX8 153 yX4_init ∈ lw_good := List.mem_filter.mpr ⟨List.mem_of_getElem? (i := 637) (by decide +kernel), by decide +kernel⟩
theorem wg_638 : Cond.instanceMethod yX4_init ∈ lw_good := List.mem_filter.mpr ⟨List.mem_of_getElem? (i := 638) (by decide +kernel), by decide +kernel⟩
theorem wt_170 : Cond.fieldLinkNest RX8 463 RX7 "number" "I" RX8 ∈ lw_tbl := List.mem_of_getElem? (i := 170) (by decide +kernel)
theorem fl_RX8_463 : FLk RX8 463 RX7 TX7 0 := FLk.nest RX8 wt_170 (by decide +kernel)
theorem wt_483 : Cond.fieldLinkNest RX8 466 RX1 "holder" "I" RX8 ∈ lw_tbl := List.mem_of_getElem? (i := 483) (by decide +kernel)
theorem fl_RX8_466 : FLk RX8 466 RX1 TX1 11 := FLk.nest RX8 wt_483 (by decide +kernel)
theorem wt_485 : Cond.fieldLinkNest RX8 469 RX1 "clearAt" "I" RX8 ∈ lw_tbl := List.mem_of_getElem? (i := 485) (by decide +kernel)
theorem fl_RX8_469 : FLk RX8 469 RX1 TX1 12 := FLk.nest RX8 wt_485 (by decide +kernel)
theorem wt_196 : Cond.fieldLinkNest RX8 274 RX7 "rank" "I" RX8 ∈ lw_tbl := List.mem_of_getElem? (i := 196) (by decide +kernel)
theorem fl_RX8_274 : FLk RX8 274 RX7 TX7 13 := FLk.nest RX8 wt_196 (by decide +kernel)
theorem wg_988 : Cond.code yX8_enter cX8_enter 5 none ∈ lw_good := List.mem_filter.mpr ⟨List.mem_of_getElem? (i := 988) (by decide +kernel), by decide +kernel⟩
theorem mi_X8_enter : MI yX8_enter cX8_enter 5 none 3 := ⟨wg_988, wg_66, by decide +kernel, by decide +kernel⟩
theorem wg_985 : Cond.methodLink RX8 318 yX8_enter ∈ lw_good := List.mem_filter.mpr ⟨List.mem_of_getElem? (i := 985) (by decide +kernel), by decide +kernel⟩
theorem wg_987 : Cond.instanceMethod yX8_enter ∈ lw_good := List.mem_filter.mpr ⟨List.mem_of_getElem? (i := 987) (by decide +kernel), by decide +kernel⟩
theorem wg_29 : Cond.selects RX8 yX8_enter yX8_enter ∈ lw_good := List.mem_filter.mpr ⟨List.mem_of_getElem? (i := 29) (by decide +kernel), by decide +kernel⟩
theorem wg_961 : Cond.code yX8_nextToEnter cX8_nextToEnter 6 (some .int) ∈ lw_good := List.mem_filter.mpr ⟨List.mem_of_getElem? (i := 961) (by decide +kernel), by decide +kernel⟩
theorem mi_X8_nextToEnter : MI yX8_nextToEnter cX8_nextToEnter 6 (some .int) 1 := ⟨wg_961, wg_66, by decide +kernel, by decide +kernel⟩
theorem wg_958 : Cond.methodLink RX8 457 yX8_nextToEnter ∈ lw_good := List.mem_filter.mpr ⟨List.mem_of_getElem? (i := 958) (by decide +kernel), by decide +kernel⟩
theorem wg_960 : Cond.instanceMethod yX8_nextToEnter ∈ lw_good := List.mem_filter.mpr ⟨List.mem_of_getElem? (i := 960) (by decide +kernel), by decide +kernel⟩
theorem wg_24 : Cond.selects RX8 yX8_nextToEnter yX8_nextToEnter ∈ lw_good := List.mem_filter.mpr ⟨List.mem_of_getElem? (i := 24) (by decide +kernel), by decide +kernel⟩
theorem wg_1195 : Cond.code yX8_distanceOf cX8_distanceOf 2 (some .int) ∈ lw_good := List.mem_filter.mpr ⟨List.mem_of_getElem? (i := 1195) (by decide +kernel), by decide +kernel⟩
theorem mi_X8_distanceOf : MI yX8_distanceOf cX8_distanceOf 2 (some .int) 1 := ⟨wg_1195, wg_66, by decide +kernel, by decide +kernel⟩
theorem wg_1192 : Cond.methodLink RX8 444 yX8_distanceOf ∈ lw_good := List.mem_filter.mpr ⟨List.mem_of_getElem? (i := 1192) (by decide +kernel), by decide +kernel⟩
theorem wg_1194 : Cond.instanceMethod yX8_distanceOf ∈ lw_good := List.mem_filter.mpr ⟨List.mem_of_getElem? (i := 1194) (by decide +kernel), by decide +kernel⟩
theorem wg_37 : Cond.selects RX8 yX8_distanceOf yX8_distanceOf ∈ lw_good := List.mem_filter.mpr ⟨List.mem_of_getElem? (i := 37) (by decide +kernel), by decide +kernel⟩
theorem wg_1187 : Cond.code yX8_isOpen cX8_isOpen 2 (some .boolean) ∈ lw_good := List.mem_filter.mpr ⟨List.mem_of_getElem? (i := 1187) (by decide +kernel), by decide +kernel⟩
theorem mi_X8_isOpen : MI yX8_isOpen cX8_isOpen 2 (some .boolean) 1 := ⟨wg_1187, wg_66, by decide +kernel, by decide +kernel⟩
theorem wg_1184 : Cond.methodLink RX8 431 yX8_isOpen ∈ lw_good := List.mem_filter.mpr ⟨List.mem_of_getElem? (i := 1184) (by decide +kernel), by decide +kernel⟩
theorem wg_1186 : Cond.instanceMethod yX8_isOpen ∈ lw_good := List.mem_filter.mpr ⟨List.mem_of_getElem? (i := 1186) (by decide +kernel), by decide +kernel⟩
theorem wg_35 : Cond.selects RX8 yX8_isOpen yX8_isOpen ∈ lw_good := List.mem_filter.mpr ⟨List.mem_of_getElem? (i := 35) (by decide +kernel), by decide +kernel⟩
theorem wg_821 : Cond.code yX8_leastFreeNumber cX8_leastFreeNumber 2 (some .int) ∈ lw_good := List.mem_filter.mpr ⟨List.mem_of_getElem? (i := 821) (by decide +kernel), by decide +kernel⟩
theorem mi_X8_leastFreeNumber : MI yX8_leastFreeNumber cX8_leastFreeNumber 2 (some .int) 0 := ⟨wg_821, wg_66, by decide +kernel, by decide +kernel⟩
theorem wg_818 : Cond.methodLink RX8 219 yX8_leastFreeNumber ∈ lw_good := List.mem_filter.mpr ⟨List.mem_of_getElem? (i := 818) (by decide +kernel), by decide +kernel⟩
theorem wg_820 : Cond.instanceMethod yX8_leastFreeNumber ∈ lw_good := List.mem_filter.mpr ⟨List.mem_of_getElem? (i := 820) (by decide +kernel), by decide +kernel⟩
theorem wg_14 : Cond.selects RX8 yX8_leastFreeNumber yX8_leastFreeNumber ∈ lw_good := List.mem_filter.mpr ⟨List.mem_of_getElem? (i := 14) (by decide +kernel), by decide +kernel⟩
theorem wt_642 : Cond.fieldLinkNest RX8 222 RX4 "power" "I" RX8 ∈ lw_tbl := List.mem_of_getElem? (i := 642) (by decide +kernel)
theorem fl_RX8_222 : FLk RX8 222 RX4 TX4 0 := FLk.nest RX8 wt_642 (by decide +kernel)
theorem wg_825 : Cond.code yX7_start cX7_start 5 none ∈ lw_good := List.mem_filter.mpr ⟨List.mem_of_getElem? (i := 825) (by decide +kernel), by decide +kernel⟩
theorem mi_X7_start : MI yX7_start cX7_start 5 none 4 := ⟨wg_825, wg_72, by decide +kernel, by decide +kernel⟩
theorem wg_822 : Cond.methodLink RX8 225 yX7_start ∈ lw_good := List.mem_filter.mpr ⟨List.mem_of_getElem? (i := 822) (by decide +kernel), by decide +kernel⟩
theorem wg_823 : Cond.instanceMethod yX7_start ∈ lw_good := List.mem_filter.mpr ⟨List.mem_of_getElem? (i := 823) (by decide +kernel), by decide +kernel⟩
theorem wg_824 : Cond.selects RX7 yX7_start yX7_start ∈ lw_good := List.mem_filter.mpr ⟨List.mem_of_getElem? (i := 824) (by decide +kernel), by decide +kernel⟩
theorem wg_702 : Cond.code yX8_requireBlock cX8_requireBlock 2 none ∈ lw_good := List.mem_filter.mpr ⟨List.mem_of_getElem? (i := 702) (by decide +kernel), by decide +kernel⟩
theorem mi_X8_requireBlock : MI yX8_requireBlock cX8_requireBlock 2 none 1 := ⟨wg_702, wg_66, by decide +kernel, by decide +kernel⟩
theorem wg_699 : Cond.methodLink RX8 163 yX8_requireBlock ∈ lw_good := List.mem_filter.mpr ⟨List.mem_of_getElem? (i := 699) (by decide +kernel), by decide +kernel⟩
theorem wg_701 : Cond.instanceMethod yX8_requireBlock ∈ lw_good := List.mem_filter.mpr ⟨List.mem_of_getElem? (i := 701) (by decide +kernel), by decide +kernel⟩
theorem wg_9 : Cond.selects RX8 yX8_requireBlock yX8_requireBlock ∈ lw_good := List.mem_filter.mpr ⟨List.mem_of_getElem? (i := 9) (by decide +kernel), by decide +kernel⟩
theorem wg_1104 : Cond.code yX7_holds cX7_holds 3 (some .boolean) ∈ lw_good := List.mem_filter.mpr ⟨List.mem_of_getElem? (i := 1104) (by decide +kernel), by decide +kernel⟩
theorem mi_X7_holds : MI yX7_holds cX7_holds 3 (some .boolean) 2 := ⟨wg_1104, wg_72, by decide +kernel, by decide +kernel⟩
theorem wg_1101 : Cond.methodLink RX8 361 yX7_holds ∈ lw_good := List.mem_filter.mpr ⟨List.mem_of_getElem? (i := 1101) (by decide +kernel), by decide +kernel⟩
theorem wg_1102 : Cond.instanceMethod yX7_holds ∈ lw_good := List.mem_filter.mpr ⟨List.mem_of_getElem? (i := 1102) (by decide +kernel), by decide +kernel⟩
theorem wg_1103 : Cond.selects RX7 yX7_holds yX7_holds ∈ lw_good := List.mem_filter.mpr ⟨List.mem_of_getElem? (i := 1103) (by decide +kernel), by decide +kernel⟩
theorem wg_237 : Cond.methodLink RX8 77 yJ7_fill_53178 ∈ lw_good := List.mem_filter.mpr ⟨List.mem_of_getElem? (i := 237) (by decide +kernel), by decide +kernel⟩
theorem wt_463 : Cond.fieldLinkNest RX8 435 RX1 "second" "I" RX8 ∈ lw_tbl := List.mem_of_getElem? (i := 463) (by decide +kernel)
theorem fl_RX8_435 : FLk RX8 435 RX1 TX1 1 := FLk.nest RX8 wt_463 (by decide +kernel)
theorem wg_1191 : Cond.code yX8_shorten cX8_shorten 5 none ∈ lw_good := List.mem_filter.mpr ⟨List.mem_of_getElem? (i := 1191) (by decide +kernel), by decide +kernel⟩
theorem mi_X8_shorten : MI yX8_shorten cX8_shorten 5 none 3 := ⟨wg_1191, wg_66, by decide +kernel, by decide +kernel⟩
theorem wg_1188 : Cond.methodLink RX8 441 yX8_shorten ∈ lw_good := List.mem_filter.mpr ⟨List.mem_of_getElem? (i := 1188) (by decide +kernel), by decide +kernel⟩
theorem wg_1190 : Cond.instanceMethod yX8_shorten ∈ lw_good := List.mem_filter.mpr ⟨List.mem_of_getElem? (i := 1190) (by decide +kernel), by decide +kernel⟩
theorem wg_36 : Cond.selects RX8 yX8_shorten yX8_shorten ∈ lw_good := List.mem_filter.mpr ⟨List.mem_of_getElem? (i := 36) (by decide +kernel), by decide +kernel⟩
theorem wg_1199 : Cond.code yX8_firstBlockOfWay cX8_firstBlockOfWay 6 (some .int) ∈ lw_good := List.mem_filter.mpr ⟨List.mem_of_getElem? (i := 1199) (by decide +kernel), by decide +kernel⟩
theorem mi_X8_firstBlockOfWay : MI yX8_firstBlockOfWay cX8_firstBlockOfWay 6 (some .int) 1 := ⟨wg_1199, wg_66, by decide +kernel, by decide +kernel⟩
theorem wg_1196 : Cond.methodLink RX8 387 yX8_firstBlockOfWay ∈ lw_good := List.mem_filter.mpr ⟨List.mem_of_getElem? (i := 1196) (by decide +kernel), by decide +kernel⟩
theorem wg_1198 : Cond.instanceMethod yX8_firstBlockOfWay ∈ lw_good := List.mem_filter.mpr ⟨List.mem_of_getElem? (i := 1198) (by decide +kernel), by decide +kernel⟩
theorem wg_38 : Cond.selects RX8 yX8_firstBlockOfWay yX8_firstBlockOfWay ∈ lw_good := List.mem_filter.mpr ⟨List.mem_of_getElem? (i := 38) (by decide +kernel), by decide +kernel⟩
theorem wg_1182 : Cond.code yX8_measureDistances cX8_measureDistances 5 none ∈ lw_good := List.mem_filter.mpr ⟨List.mem_of_getElem? (i := 1182) (by decide +kernel), by decide +kernel⟩
theorem mi_X8_measureDistances : MI yX8_measureDistances cX8_measureDistances 5 none 1 := ⟨wg_1182, wg_66, by decide +kernel, by decide +kernel⟩
theorem wg_1179 : Cond.methodLink RX8 384 yX8_measureDistances ∈ lw_good := List.mem_filter.mpr ⟨List.mem_of_getElem? (i := 1179) (by decide +kernel), by decide +kernel⟩
theorem wg_1181 : Cond.instanceMethod yX8_measureDistances ∈ lw_good := List.mem_filter.mpr ⟨List.mem_of_getElem? (i := 1181) (by decide +kernel), by decide +kernel⟩
theorem wg_34 : Cond.selects RX8 yX8_measureDistances yX8_measureDistances ∈ lw_good := List.mem_filter.mpr ⟨List.mem_of_getElem? (i := 34) (by decide +kernel), by decide +kernel⟩
theorem wt_475 : Cond.fieldLinkNest RX8 132 RX1 "othersFrom" "I" RX8 ∈ lw_tbl := List.mem_of_getElem? (i := 475) (by decide +kernel)
theorem fl_RX8_132 : FLk RX8 132 RX1 TX1 7 := FLk.nest RX8 wt_475 (by decide +kernel)
theorem wt_477 : Cond.fieldLinkNest RX8 135 RX1 "othersTo" "I" RX8 ∈ lw_tbl := List.mem_of_getElem? (i := 477) (by decide +kernel)
theorem fl_RX8_135 : FLk RX8 135 RX1 TX1 8 := FLk.nest RX8 wt_477 (by decide +kernel)
theorem wg_113 : Cond.methodLink RJxa1e45 1 objectInit ∈ lw_good := List.mem_filter.mpr ⟨List.mem_of_getElem? (i := 113) (by decide +kernel), by decide +kernel⟩
theorem wg_118 : Cond.fieldLink RJxc12de 7 RJxc12de "modCount" "I" ∈ lw_good := List.mem_filter.mpr ⟨List.mem_of_getElem? (i := 118) (by decide +kernel), by decide +kernel⟩
theorem fl_RJxc12de_7 : FLk RJxc12de 7 RJx4a65c TJx4a65c 0 := FLk.link RJxc12de wg_118 rfl
theorem wg_112 : Cond.code yJxa1e45_init_da8c8 cJxa1e45_init_da8c8 1 none ∈ lw_good := List.mem_filter.mpr ⟨List.mem_of_getElem? (i := 112) (by decide +kernel), by decide +kernel⟩
theorem wg_67 : Cond.initialized RJxa1e45 ∈ lw_good := List.mem_filter.mpr ⟨List.mem_of_getElem? (i := 67) (by decide +kernel), by decide +kernel⟩
theorem mi_Jxa1e45_init_da8c8 : MI yJxa1e45_init_da8c8 cJxa1e45_init_da8c8 1 none 0 := ⟨wg_112, wg_67, by decide +kernel, by decide +kernel⟩
theorem wg_110 : Cond.methodLink RJxc12de 1 yJxa1e45_init_da8c8 ∈ lw_good := List.mem_filter.mpr ⟨List.mem_of_getElem? (i := 110) (by decide +kernel), by decide +kernel⟩
theorem wg_111 : Cond.instanceMethod yJxa1e45_init_da8c8 ∈ lw_good := List.mem_filter.mpr ⟨List.mem_of_getElem? (i := 111) (by decide +kernel), by decide +kernel⟩
theorem wg_109 : Cond.code yJxc12de_init_da8c8 cJxc12de_init_da8c8 1 none ∈ lw_good := List.mem_filter.mpr ⟨List.mem_of_getElem? (i := 109) (by decide +kernel), by decide +kernel⟩
theorem wg_68 : Cond.initialized RJxc12de ∈ lw_good := List.mem_filter.mpr ⟨List.mem_of_getElem? (i := 68) (by decide +kernel), by decide +kernel⟩
theorem mi_Jxc12de_init_da8c8 : MI yJxc12de_init_da8c8 cJxc12de_init_da8c8 1 none 0 := ⟨wg_109, wg_68, by decide +kernel, by decide +kernel⟩
theorem wg_107 : Cond.methodLink RJx4a65c 1 yJxc12de_init_da8c8 ∈ lw_good := List.mem_filter.mpr ⟨List.mem_of_getElem? (i := 107) (by decide +kernel), by decide +kernel⟩
theorem wg_108 : Cond.instanceMethod yJxc12de_init_da8c8 ∈ lw_good := List.mem_filter.mpr ⟨List.mem_of_getElem? (i := 108) (by decide +kernel), by decide +kernel⟩
theorem wg_97 : Cond.methodLink RX8 1 objectInit ∈ lw_good := List.mem_filter.mpr ⟨List.mem_of_getElem? (i := 97) (by decide +kernel), by decide +kernel⟩
theorem wg_100 : Cond.classLink RX8 9 RX6 ∈ lw_good := List.mem_filter.mpr ⟨List.mem_of_getElem? (i := 100) (by decide +kernel), by decide +kernel⟩
theorem wg_103 : Cond.instantiable RJx4a65c 3 ∈ lw_good := List.mem_filter.mpr ⟨List.mem_of_getElem? (i := 103) (by decide +kernel), by decide +kernel⟩
theorem wg_102 : Cond.classLink RX8 15 RJx4a65c ∈ lw_good := List.mem_filter.mpr ⟨List.mem_of_getElem? (i := 102) (by decide +kernel), by decide +kernel⟩
theorem wg_106 : Cond.code yJx4a65c_init_da8c8 cJx4a65c_init_da8c8 1 none ∈ lw_good := List.mem_filter.mpr ⟨List.mem_of_getElem? (i := 106) (by decide +kernel), by decide +kernel⟩
theorem mi_Jx4a65c_init_da8c8 : MI yJx4a65c_init_da8c8 cJx4a65c_init_da8c8 1 none 0 := ⟨wg_106, wg_69, by decide +kernel, by decide +kernel⟩
theorem wg_104 : Cond.methodLink RX8 17 yJx4a65c_init_da8c8 ∈ lw_good := List.mem_filter.mpr ⟨List.mem_of_getElem? (i := 104) (by decide +kernel), by decide +kernel⟩
theorem wg_105 : Cond.instanceMethod yJx4a65c_init_da8c8 ∈ lw_good := List.mem_filter.mpr ⟨List.mem_of_getElem? (i := 105) (by decide +kernel), by decide +kernel⟩
theorem wg_128 : Cond.classLink RX8 34 RX7 ∈ lw_good := List.mem_filter.mpr ⟨List.mem_of_getElem? (i := 128) (by decide +kernel), by decide +kernel⟩
theorem wg_247 : Cond.fieldLink RX8 40 RX8 "ownRates" "[I" ∈ lw_good := List.mem_filter.mpr ⟨List.mem_of_getElem? (i := 247) (by decide +kernel), by decide +kernel⟩
theorem fl_RX8_40 : FLk RX8 40 RX8 TX8 7 := FLk.link RX8 wg_247 rfl
theorem fo_9_7 : FO 9 7 RX8 TX8 16 := ⟨rfl, rfl, by decide, by decide, fi_9⟩
theorem wg_248 : Cond.fieldLink RX8 44 RX8 "rivalRates" "[I" ∈ lw_good := List.mem_filter.mpr ⟨List.mem_of_getElem? (i := 248) (by decide +kernel), by decide +kernel⟩
theorem fl_RX8_44 : FLk RX8 44 RX8 TX8 8 := FLk.link RX8 wg_248 rfl
theorem fo_9_8 : FO 9 8 RX8 TX8 16 := ⟨rfl, rfl, by decide, by decide, fi_9⟩
theorem wg_130 : Cond.classLink RX8 47 RX5 ∈ lw_good := List.mem_filter.mpr ⟨List.mem_of_getElem? (i := 130) (by decide +kernel), by decide +kernel⟩
theorem wg_132 : Cond.methodLink RX8 49 yX5_init ∈ lw_good := List.mem_filter.mpr ⟨List.mem_of_getElem? (i := 132) (by decide +kernel), by decide +kernel⟩
theorem wg_146 : Cond.instantiable RX6 2 ∈ lw_good := List.mem_filter.mpr ⟨List.mem_of_getElem? (i := 146) (by decide +kernel), by decide +kernel⟩
theorem wg_71 : Cond.initialized RX6 ∈ lw_good := List.mem_filter.mpr ⟨List.mem_of_getElem? (i := 71) (by decide +kernel), by decide +kernel⟩
theorem wg_149 : Cond.code yX6_init cX6_init 1 none ∈ lw_good := List.mem_filter.mpr ⟨List.mem_of_getElem? (i := 149) (by decide +kernel), by decide +kernel⟩
theorem mi_X6_init : MI yX6_init cX6_init 1 none 0 := ⟨wg_149, wg_71, by decide +kernel, by decide +kernel⟩
theorem wt_147 : Cond.methodLinkNest RX8 75 yX6_init RX8 ∈ lw_tbl := List.mem_of_getElem? (i := 147) (by decide +kernel)
theorem wg_148 : Cond.instanceMethod yX6_init ∈ lw_good := List.mem_filter.mpr ⟨List.mem_of_getElem? (i := 148) (by decide +kernel), by decide +kernel⟩
theorem wg_162 : Cond.instantiable RX7 17 ∈ lw_good := List.mem_filter.mpr ⟨List.mem_of_getElem? (i := 162) (by decide +kernel), by decide +kernel⟩
theorem wg_165 : Cond.code yX7_init cX7_init 2 none ∈ lw_good := List.mem_filter.mpr ⟨List.mem_of_getElem? (i := 165) (by decide +kernel), by decide +kernel⟩
theorem mi_X7_init : MI yX7_init cX7_init 2 none 1 := ⟨wg_165, wg_72, by decide +kernel, by decide +kernel⟩
theorem wg_163 : Cond.methodLink RX8 76 yX7_init ∈ lw_good := List.mem_filter.mpr ⟨List.mem_of_getElem? (i := 163) (by decide +kernel), by decide +kernel⟩
theorem wg_164 : Cond.instanceMethod yX7_init ∈ lw_good := List.mem_filter.mpr ⟨List.mem_of_getElem? (i := 164) (by decide +kernel), by decide +kernel⟩
theorem wg_455 : Cond.instantiable RX1 13 ∈ lw_good := List.mem_filter.mpr ⟨List.mem_of_getElem? (i := 455) (by decide +kernel), by decide +kernel⟩
theorem wg_458 : Cond.code yX1_init cX1_init 5 none ∈ lw_good := List.mem_filter.mpr ⟨List.mem_of_getElem? (i := 458) (by decide +kernel), by decide +kernel⟩
theorem mi_X1_init : MI yX1_init cX1_init 5 none 4 := ⟨wg_458, wg_81, by decide +kernel, by decide +kernel⟩
theorem wg_456 : Cond.methodLink RX8 114 yX1_init ∈ lw_good := List.mem_filter.mpr ⟨List.mem_of_getElem? (i := 456) (by decide +kernel), by decide +kernel⟩
theorem wg_457 : Cond.instanceMethod yX1_init ∈ lw_good := List.mem_filter.mpr ⟨List.mem_of_getElem? (i := 457) (by decide +kernel), by decide +kernel⟩
theorem wg_706 : Cond.constant RJ6 265 1431655765 ∈ lw_good := List.mem_filter.mpr ⟨List.mem_of_getElem? (i := 706) (by decide +kernel), by decide +kernel⟩
theorem wg_707 : Cond.constant RJ6 266 858993459 ∈ lw_good := List.mem_filter.mpr ⟨List.mem_of_getElem? (i := 707) (by decide +kernel), by decide +kernel⟩
theorem wg_708 : Cond.constant RJ6 267 252645135 ∈ lw_good := List.mem_filter.mpr ⟨List.mem_of_getElem? (i := 708) (by decide +kernel), by decide +kernel⟩
theorem wg_705 : Cond.code yJ6_bitCount_0f7a4 cJ6_bitCount_0f7a4 1 (some .int) ∈ lw_good := List.mem_filter.mpr ⟨List.mem_of_getElem? (i := 705) (by decide +kernel), by decide +kernel⟩
theorem wg_89 : Cond.initialized RJ6 ∈ lw_good := List.mem_filter.mpr ⟨List.mem_of_getElem? (i := 89) (by decide +kernel), by decide +kernel⟩
theorem mi_J6_bitCount_0f7a4 : MI yJ6_bitCount_0f7a4 cJ6_bitCount_0f7a4 1 (some .int) 1 := ⟨wg_705, wg_89, by decide +kernel, by decide +kernel⟩
theorem wg_703 : Cond.methodLink RX8 169 yJ6_bitCount_0f7a4 ∈ lw_good := List.mem_filter.mpr ⟨List.mem_of_getElem? (i := 703) (by decide +kernel), by decide +kernel⟩
theorem wg_704 : Cond.static yJ6_bitCount_0f7a4 ∈ lw_good := List.mem_filter.mpr ⟨List.mem_of_getElem? (i := 704) (by decide +kernel), by decide +kernel⟩
theorem wt_1041 : Cond.fieldLinkNest RX8 342 RX0 "wasLoaded" "Z" RX8 ∈ lw_tbl := List.mem_of_getElem? (i := 1041) (by decide +kernel)
theorem fl_RX8_342 : FLk RX8 342 RX0 TX0 3 := FLk.nest RX8 wt_1041 (by decide +kernel)
theorem wt_1035 : Cond.fieldLinkNest RX8 345 RX0 "from" "I" RX8 ∈ lw_tbl := List.mem_of_getElem? (i := 1035) (by decide +kernel)
theorem fl_RX8_345 : FLk RX8 345 RX0 TX0 0 := FLk.nest RX8 wt_1035 (by decide +kernel)
theorem wg_1029 : Cond.instantiable RX0 4 ∈ lw_good := List.mem_filter.mpr ⟨List.mem_of_getElem? (i := 1029) (by decide +kernel), by decide +kernel⟩
theorem wg_91 : Cond.initialized RX0 ∈ lw_good := List.mem_filter.mpr ⟨List.mem_of_getElem? (i := 91) (by decide +kernel), by decide +kernel⟩
theorem wg_1032 : Cond.code yX0_init cX0_init 4 none ∈ lw_good := List.mem_filter.mpr ⟨List.mem_of_getElem? (i := 1032) (by decide +kernel), by decide +kernel⟩
theorem mi_X0_init : MI yX0_init cX0_init 4 none 3 := ⟨wg_1032, wg_91, by decide +kernel, by decide +kernel⟩
theorem wg_1030 : Cond.methodLink RX8 333 yX0_init ∈ lw_good := List.mem_filter.mpr ⟨List.mem_of_getElem? (i := 1030) (by decide +kernel), by decide +kernel⟩
theorem wg_1031 : Cond.instanceMethod yX0_init ∈ lw_good := List.mem_filter.mpr ⟨List.mem_of_getElem? (i := 1031) (by decide +kernel), by decide +kernel⟩
theorem wg_1163 : Cond.code yX8_requireFromZero cX8_requireFromZero 1 none ∈ lw_good := List.mem_filter.mpr ⟨List.mem_of_getElem? (i := 1163) (by decide +kernel), by decide +kernel⟩
theorem mi_X8_requireFromZero : MI yX8_requireFromZero cX8_requireFromZero 1 none 1 := ⟨wg_1163, wg_66, by decide +kernel, by decide +kernel⟩
theorem wg_1161 : Cond.methodLink RX8 378 yX8_requireFromZero ∈ lw_good := List.mem_filter.mpr ⟨List.mem_of_getElem? (i := 1161) (by decide +kernel), by decide +kernel⟩
theorem wg_1162 : Cond.static yX8_requireFromZero ∈ lw_good := List.mem_filter.mpr ⟨List.mem_of_getElem? (i := 1162) (by decide +kernel), by decide +kernel⟩
theorem wg_1003 : Cond.code yX7_standWrecked cX7_standWrecked 2 none ∈ lw_good := List.mem_filter.mpr ⟨List.mem_of_getElem? (i := 1003) (by decide +kernel), by decide +kernel⟩
theorem mi_X7_standWrecked : MI yX7_standWrecked cX7_standWrecked 2 none 1 := ⟨wg_1003, wg_72, by decide +kernel, by decide +kernel⟩
theorem wg_1000 : Cond.methodLink RX8 472 yX7_standWrecked ∈ lw_good := List.mem_filter.mpr ⟨List.mem_of_getElem? (i := 1000) (by decide +kernel), by decide +kernel⟩
theorem wg_1001 : Cond.instanceMethod yX7_standWrecked ∈ lw_good := List.mem_filter.mpr ⟨List.mem_of_getElem? (i := 1001) (by decide +kernel), by decide +kernel⟩
theorem wg_1002 : Cond.selects RX7 yX7_standWrecked yX7_standWrecked ∈ lw_good := List.mem_filter.mpr ⟨List.mem_of_getElem? (i := 1002) (by decide +kernel), by decide +kernel⟩
theorem wg_999 : Cond.code yX8_wreck cX8_wreck 5 none ∈ lw_good := List.mem_filter.mpr ⟨List.mem_of_getElem? (i := 999) (by decide +kernel), by decide +kernel⟩
theorem mi_X8_wreck : MI yX8_wreck cX8_wreck 5 none 2 := ⟨wg_999, wg_66, by decide +kernel, by decide +kernel⟩
theorem wg_996 : Cond.methodLink RX8 315 yX8_wreck ∈ lw_good := List.mem_filter.mpr ⟨List.mem_of_getElem? (i := 996) (by decide +kernel), by decide +kernel⟩
theorem wg_998 : Cond.instanceMethod yX8_wreck ∈ lw_good := List.mem_filter.mpr ⟨List.mem_of_getElem? (i := 998) (by decide +kernel), by decide +kernel⟩
theorem wg_30 : Cond.selects RX8 yX8_wreck yX8_wreck ∈ lw_good := List.mem_filter.mpr ⟨List.mem_of_getElem? (i := 30) (by decide +kernel), by decide +kernel⟩
theorem wg_893 : Cond.code yX8_endOfDraft cX8_endOfDraft 4 (some .int) ∈ lw_good := List.mem_filter.mpr ⟨List.mem_of_getElem? (i := 893) (by decide +kernel), by decide +kernel⟩
theorem mi_X8_endOfDraft : MI yX8_endOfDraft cX8_endOfDraft 4 (some .int) 1 := ⟨wg_893, wg_66, by decide +kernel, by decide +kernel⟩
theorem wg_890 : Cond.methodLink RX8 258 yX8_endOfDraft ∈ lw_good := List.mem_filter.mpr ⟨List.mem_of_getElem? (i := 890) (by decide +kernel), by decide +kernel⟩
theorem wg_892 : Cond.instanceMethod yX8_endOfDraft ∈ lw_good := List.mem_filter.mpr ⟨List.mem_of_getElem? (i := 892) (by decide +kernel), by decide +kernel⟩
theorem wg_18 : Cond.selects RX8 yX8_endOfDraft yX8_endOfDraft ∈ lw_good := List.mem_filter.mpr ⟨List.mem_of_getElem? (i := 18) (by decide +kernel), by decide +kernel⟩
theorem wt_190 : Cond.fieldLinkNest RX8 261 RX7 "way" "LIronbark$Row;" RX8 ∈ lw_tbl := List.mem_of_getElem? (i := 190) (by decide +kernel)
theorem fl_RX8_261 : FLk RX8 261 RX7 TX7 10 := FLk.nest RX8 wt_190 (by decide +kernel)
theorem wg_909 : Cond.methodLink RX8 280 yX5_empty ∈ lw_good := List.mem_filter.mpr ⟨List.mem_of_getElem? (i := 909) (by decide +kernel), by decide +kernel⟩
theorem wg_905 : Cond.code yX5_copy cX5_copy 3 none ∈ lw_good := List.mem_filter.mpr ⟨List.mem_of_getElem? (i := 905) (by decide +kernel), by decide +kernel⟩
theorem mi_X5_copy : MI yX5_copy cX5_copy 3 none 1 := ⟨wg_905, wg_70, by decide +kernel, by decide +kernel⟩
theorem wg_902 : Cond.methodLink RX8 264 yX5_copy ∈ lw_good := List.mem_filter.mpr ⟨List.mem_of_getElem? (i := 902) (by decide +kernel), by decide +kernel⟩
theorem wg_903 : Cond.instanceMethod yX5_copy ∈ lw_good := List.mem_filter.mpr ⟨List.mem_of_getElem? (i := 903) (by decide +kernel), by decide +kernel⟩
theorem wg_904 : Cond.selects RX5 yX5_copy yX5_copy ∈ lw_good := List.mem_filter.mpr ⟨List.mem_of_getElem? (i := 904) (by decide +kernel), by decide +kernel⟩
theorem wt_676 : Cond.fieldLinkNest RX8 191 RX3 "restEnd" "I" RX8 ∈ lw_tbl := List.mem_of_getElem? (i := 676) (by decide +kernel)
theorem fl_RX8_191 : FLk RX8 191 RX3 TX3 4 := FLk.nest RX8 wt_676 (by decide +kernel)
theorem wg_948 : Cond.code yX8_beginDay cX8_beginDay 3 none ∈ lw_good := List.mem_filter.mpr ⟨List.mem_of_getElem? (i := 948) (by decide +kernel), by decide +kernel⟩
theorem mi_X8_beginDay : MI yX8_beginDay cX8_beginDay 3 none 0 := ⟨wg_948, wg_66, by decide +kernel, by decide +kernel⟩
theorem wg_945 : Cond.methodLink RX8 295 yX8_beginDay ∈ lw_good := List.mem_filter.mpr ⟨List.mem_of_getElem? (i := 945) (by decide +kernel), by decide +kernel⟩
theorem wg_947 : Cond.instanceMethod yX8_beginDay ∈ lw_good := List.mem_filter.mpr ⟨List.mem_of_getElem? (i := 947) (by decide +kernel), by decide +kernel⟩
theorem wg_21 : Cond.selects RX8 yX8_beginDay yX8_beginDay ∈ lw_good := List.mem_filter.mpr ⟨List.mem_of_getElem? (i := 21) (by decide +kernel), by decide +kernel⟩
theorem wg_927 : Cond.code yX8_arriveAll cX8_arriveAll 2 none ∈ lw_good := List.mem_filter.mpr ⟨List.mem_of_getElem? (i := 927) (by decide +kernel), by decide +kernel⟩
theorem mi_X8_arriveAll : MI yX8_arriveAll cX8_arriveAll 2 none 0 := ⟨wg_927, wg_66, by decide +kernel, by decide +kernel⟩
theorem wg_924 : Cond.methodLink RX8 292 yX8_arriveAll ∈ lw_good := List.mem_filter.mpr ⟨List.mem_of_getElem? (i := 924) (by decide +kernel), by decide +kernel⟩
theorem wg_926 : Cond.instanceMethod yX8_arriveAll ∈ lw_good := List.mem_filter.mpr ⟨List.mem_of_getElem? (i := 926) (by decide +kernel), by decide +kernel⟩
theorem wg_19 : Cond.selects RX8 yX8_arriveAll yX8_arriveAll ∈ lw_good := List.mem_filter.mpr ⟨List.mem_of_getElem? (i := 19) (by decide +kernel), by decide +kernel⟩
theorem wg_957 : Cond.code yX8_enterAll cX8_enterAll 6 (some .int) ∈ lw_good := List.mem_filter.mpr ⟨List.mem_of_getElem? (i := 957) (by decide +kernel), by decide +kernel⟩
theorem mi_X8_enterAll : MI yX8_enterAll cX8_enterAll 6 (some .int) 0 := ⟨wg_957, wg_66, by decide +kernel, by decide +kernel⟩
theorem wg_954 : Cond.methodLink RX8 298 yX8_enterAll ∈ lw_good := List.mem_filter.mpr ⟨List.mem_of_getElem? (i := 954) (by decide +kernel), by decide +kernel⟩
theorem wg_956 : Cond.instanceMethod yX8_enterAll ∈ lw_good := List.mem_filter.mpr ⟨List.mem_of_getElem? (i := 956) (by decide +kernel), by decide +kernel⟩
theorem wg_23 : Cond.selects RX8 yX8_enterAll yX8_enterAll ∈ lw_good := List.mem_filter.mpr ⟨List.mem_of_getElem? (i := 23) (by decide +kernel), by decide +kernel⟩
theorem wg_1075 : Cond.code yX8_appendByGoal cX8_appendByGoal 5 none ∈ lw_good := List.mem_filter.mpr ⟨List.mem_of_getElem? (i := 1075) (by decide +kernel), by decide +kernel⟩
theorem mi_X8_appendByGoal : MI yX8_appendByGoal cX8_appendByGoal 5 none 2 := ⟨wg_1075, wg_66, by decide +kernel, by decide +kernel⟩
theorem wg_1072 : Cond.methodLink RX8 354 yX8_appendByGoal ∈ lw_good := List.mem_filter.mpr ⟨List.mem_of_getElem? (i := 1072) (by decide +kernel), by decide +kernel⟩
theorem wg_1074 : Cond.instanceMethod yX8_appendByGoal ∈ lw_good := List.mem_filter.mpr ⟨List.mem_of_getElem? (i := 1074) (by decide +kernel), by decide +kernel⟩
theorem wg_32 : Cond.selects RX8 yX8_appendByGoal yX8_appendByGoal ∈ lw_good := List.mem_filter.mpr ⟨List.mem_of_getElem? (i := 32) (by decide +kernel), by decide +kernel⟩
theorem wt_1039 : Cond.fieldLinkNest RX8 351 RX0 "rate" "I" RX8 ∈ lw_tbl := List.mem_of_getElem? (i := 1039) (by decide +kernel)
theorem fl_RX8_351 : FLk RX8 351 RX0 TX0 2 := FLk.nest RX8 wt_1039 (by decide +kernel)
theorem wg_1247 : Cond.fieldLink RX9 111 RX9 "inBlock" "[I" ∈ lw_good := List.mem_filter.mpr ⟨List.mem_of_getElem? (i := 1247) (by decide +kernel), by decide +kernel⟩
theorem fl_RX9_111 : FLk RX9 111 RX9 TX9 41 := FLk.link RX9 wg_1247 rfl
theorem fi_10 : ∀ w ∈ u_ws RX9 TX9 65, w ∈ lw_good := fun w hw => List.mem_filter.mpr (by
  have h : (u_ws RX9 TX9 65).all (fun w => decide (w ∈ lw_tbl) && goodWord w) = true := by decide +kernel
  have h2 := List.all_eq_true.mp h w hw
  rw [Bool.and_eq_true, decide_eq_true_eq] at h2
  exact h2)
theorem fp_10 : FP 10 TX9 65 := ⟨by decide +kernel, by decide +kernel⟩
theorem fn_10 : vwCl[10]? = some (RX9, TX9, 65) ∧ clN 10 = 65 ∧ 10 < 20 ∧ (∀ w ∈ u_ws RX9 TX9 65, w ∈ lw_good) := ⟨rfl, rfl, by decide, fi_10⟩
theorem fd_10 : ∀ k, k < 65 → defaultValue (clT 10 k) = if refT (clT 10 k) = true then .null else .int 0 := by decide +kernel
theorem fo_10_41 : FO 10 41 RX9 TX9 65 := ⟨rfl, rfl, by decide, by decide, fi_10⟩
theorem wg_1216 : Cond.fieldLink RX9 26 RX9 "wear" "[I" ∈ lw_good := List.mem_filter.mpr ⟨List.mem_of_getElem? (i := 1216) (by decide +kernel), by decide +kernel⟩
theorem fl_RX9_26 : FLk RX9 26 RX9 TX9 10 := FLk.link RX9 wg_1216 rfl
theorem fo_10_10 : FO 10 10 RX9 TX9 65 := ⟨rfl, rfl, by decide, by decide, fi_10⟩
theorem wg_1250 : Cond.fieldLink RX9 120 RX9 "many" "[I" ∈ lw_good := List.mem_filter.mpr ⟨List.mem_of_getElem? (i := 1250) (by decide +kernel), by decide +kernel⟩
theorem fl_RX9_120 : FLk RX9 120 RX9 TX9 44 := FLk.link RX9 wg_1250 rfl
theorem fo_10_44 : FO 10 44 RX9 TX9 65 := ⟨rfl, rfl, by decide, by decide, fi_10⟩
theorem wg_1245 : Cond.fieldLink RX9 105 RX9 "state" "[I" ∈ lw_good := List.mem_filter.mpr ⟨List.mem_of_getElem? (i := 1245) (by decide +kernel), by decide +kernel⟩
theorem fl_RX9_105 : FLk RX9 105 RX9 TX9 39 := FLk.link RX9 wg_1245 rfl
theorem fo_10_39 : FO 10 39 RX9 TX9 65 := ⟨rfl, rfl, by decide, by decide, fi_10⟩
theorem wg_1252 : Cond.fieldLink RX9 126 RX9 "wayAt" "[I" ∈ lw_good := List.mem_filter.mpr ⟨List.mem_of_getElem? (i := 1252) (by decide +kernel), by decide +kernel⟩
theorem fl_RX9_126 : FLk RX9 126 RX9 TX9 46 := FLk.link RX9 wg_1252 rfl
theorem fo_10_46 : FO 10 46 RX9 TX9 65 := ⟨rfl, rfl, by decide, by decide, fi_10⟩
theorem wg_1253 : Cond.fieldLink RX9 129 RX9 "wayLength" "[I" ∈ lw_good := List.mem_filter.mpr ⟨List.mem_of_getElem? (i := 1253) (by decide +kernel), by decide +kernel⟩
theorem fl_RX9_129 : FLk RX9 129 RX9 TX9 47 := FLk.link RX9 wg_1253 rfl
theorem fo_10_47 : FO 10 47 RX9 TX9 65 := ⟨rfl, rfl, by decide, by decide, fi_10⟩
theorem wg_1242 : Cond.fieldLink RX9 96 RX9 "isThere" "[Z" ∈ lw_good := List.mem_filter.mpr ⟨List.mem_of_getElem? (i := 1242) (by decide +kernel), by decide +kernel⟩
theorem fl_RX9_96 : FLk RX9 96 RX9 TX9 36 := FLk.link RX9 wg_1242 rfl
theorem fo_10_36 : FO 10 36 RX9 TX9 65 := ⟨rfl, rfl, by decide, by decide, fi_10⟩
theorem wg_1416 : Cond.code yX9_in cX9_in 3 (some .boolean) ∈ lw_good := List.mem_filter.mpr ⟨List.mem_of_getElem? (i := 1416) (by decide +kernel), by decide +kernel⟩
theorem wg_74 : Cond.initialized RX9 ∈ lw_good := List.mem_filter.mpr ⟨List.mem_of_getElem? (i := 74) (by decide +kernel), by decide +kernel⟩
theorem mi_X9_in : MI yX9_in cX9_in 3 (some .boolean) 3 := ⟨wg_1416, wg_74, by decide +kernel, by decide +kernel⟩
theorem wg_1414 : Cond.methodLink RX9 177 yX9_in ∈ lw_good := List.mem_filter.mpr ⟨List.mem_of_getElem? (i := 1414) (by decide +kernel), by decide +kernel⟩
theorem wg_1415 : Cond.static yX9_in ∈ lw_good := List.mem_filter.mpr ⟨List.mem_of_getElem? (i := 1415) (by decide +kernel), by decide +kernel⟩
theorem wg_1513 : Cond.code yX9_isTrain cX9_isTrain 2 (some .boolean) ∈ lw_good := List.mem_filter.mpr ⟨List.mem_of_getElem? (i := 1513) (by decide +kernel), by decide +kernel⟩
theorem mi_X9_isTrain : MI yX9_isTrain cX9_isTrain 2 (some .boolean) 1 := ⟨wg_1513, wg_74, by decide +kernel, by decide +kernel⟩
theorem wg_1510 : Cond.methodLink RX9 237 yX9_isTrain ∈ lw_good := List.mem_filter.mpr ⟨List.mem_of_getElem? (i := 1510) (by decide +kernel), by decide +kernel⟩
theorem wg_1512 : Cond.instanceMethod yX9_isTrain ∈ lw_good := List.mem_filter.mpr ⟨List.mem_of_getElem? (i := 1512) (by decide +kernel), by decide +kernel⟩
theorem wg_48 : Cond.selects RX9 yX9_isTrain yX9_isTrain ∈ lw_good := List.mem_filter.mpr ⟨List.mem_of_getElem? (i := 48) (by decide +kernel), by decide +kernel⟩
theorem wg_1413 : Cond.code yX9_isStation cX9_isStation 1 (some .boolean) ∈ lw_good := List.mem_filter.mpr ⟨List.mem_of_getElem? (i := 1413) (by decide +kernel), by decide +kernel⟩
theorem mi_X9_isStation : MI yX9_isStation cX9_isStation 1 (some .boolean) 1 := ⟨wg_1413, wg_74, by decide +kernel, by decide +kernel⟩
theorem wg_1411 : Cond.methodLink RX9 193 yX9_isStation ∈ lw_good := List.mem_filter.mpr ⟨List.mem_of_getElem? (i := 1411) (by decide +kernel), by decide +kernel⟩
theorem wg_1412 : Cond.static yX9_isStation ∈ lw_good := List.mem_filter.mpr ⟨List.mem_of_getElem? (i := 1412) (by decide +kernel), by decide +kernel⟩
theorem wg_1206 : Cond.fieldLink RX9 174 RX9 "thrown" "I" ∈ lw_good := List.mem_filter.mpr ⟨List.mem_of_getElem? (i := 1206) (by decide +kernel), by decide +kernel⟩
theorem fl_RX9_174 : FLk RX9 174 RX9 TX9 0 := FLk.link RX9 wg_1206 rfl
theorem fo_10_0 : FO 10 0 RX9 TX9 65 := ⟨rfl, rfl, by decide, by decide, fi_10⟩
theorem wg_1256 : Cond.fieldLink RX9 138 RX9 "waitsFor" "[I" ∈ lw_good := List.mem_filter.mpr ⟨List.mem_of_getElem? (i := 1256) (by decide +kernel), by decide +kernel⟩
theorem fl_RX9_138 : FLk RX9 138 RX9 TX9 50 := FLk.link RX9 wg_1256 rfl
theorem fo_10_50 : FO 10 50 RX9 TX9 65 := ⟨rfl, rfl, by decide, by decide, fi_10⟩
theorem wg_1257 : Cond.fieldLink RX9 141 RX9 "waitsAt" "[I" ∈ lw_good := List.mem_filter.mpr ⟨List.mem_of_getElem? (i := 1257) (by decide +kernel), by decide +kernel⟩
theorem fl_RX9_141 : FLk RX9 141 RX9 TX9 51 := FLk.link RX9 wg_1257 rfl
theorem fo_10_51 : FO 10 51 RX9 TX9 65 := ⟨rfl, rfl, by decide, by decide, fi_10⟩
theorem wg_1213 : Cond.fieldLink RX9 17 RX9 "end" "[I" ∈ lw_good := List.mem_filter.mpr ⟨List.mem_of_getElem? (i := 1213) (by decide +kernel), by decide +kernel⟩
theorem fl_RX9_17 : FLk RX9 17 RX9 TX9 7 := FLk.link RX9 wg_1213 rfl
theorem fo_10_7 : FO 10 7 RX9 TX9 65 := ⟨rfl, rfl, by decide, by decide, fi_10⟩
theorem wg_1218 : Cond.fieldLink RX9 32 RX9 "hasWrecks" "[Z" ∈ lw_good := List.mem_filter.mpr ⟨List.mem_of_getElem? (i := 1218) (by decide +kernel), by decide +kernel⟩
theorem fl_RX9_32 : FLk RX9 32 RX9 TX9 12 := FLk.link RX9 wg_1218 rfl
theorem fo_10_12 : FO 10 12 RX9 TX9 65 := ⟨rfl, rfl, by decide, by decide, fi_10⟩
theorem wg_1217 : Cond.fieldLink RX9 29 RX9 "until" "[I" ∈ lw_good := List.mem_filter.mpr ⟨List.mem_of_getElem? (i := 1217) (by decide +kernel), by decide +kernel⟩
theorem fl_RX9_29 : FLk RX9 29 RX9 TX9 11 := FLk.link RX9 wg_1217 rfl
theorem fo_10_11 : FO 10 11 RX9 TX9 65 := ⟨rfl, rfl, by decide, by decide, fi_10⟩
theorem wg_1207 : Cond.fieldLink RX9 187 RX9 "clock" "I" ∈ lw_good := List.mem_filter.mpr ⟨List.mem_of_getElem? (i := 1207) (by decide +kernel), by decide +kernel⟩
theorem fl_RX9_187 : FLk RX9 187 RX9 TX9 1 := FLk.link RX9 wg_1207 rfl
theorem fo_10_1 : FO 10 1 RX9 TX9 65 := ⟨rfl, rfl, by decide, by decide, fi_10⟩
theorem wg_1239 : Cond.fieldLink RX9 87 RX9 "bill" "[I" ∈ lw_good := List.mem_filter.mpr ⟨List.mem_of_getElem? (i := 1239) (by decide +kernel), by decide +kernel⟩
theorem fl_RX9_87 : FLk RX9 87 RX9 TX9 33 := FLk.link RX9 wg_1239 rfl
theorem fo_10_33 : FO 10 33 RX9 TX9 65 := ⟨rfl, rfl, by decide, by decide, fi_10⟩
theorem wg_1249 : Cond.fieldLink RX9 117 RX9 "coupled" "[I" ∈ lw_good := List.mem_filter.mpr ⟨List.mem_of_getElem? (i := 1249) (by decide +kernel), by decide +kernel⟩
theorem fl_RX9_117 : FLk RX9 117 RX9 TX9 43 := FLk.link RX9 wg_1249 rfl
theorem fo_10_43 : FO 10 43 RX9 TX9 65 := ⟨rfl, rfl, by decide, by decide, fi_10⟩
theorem wg_1214 : Cond.fieldLink RX9 20 RX9 "length" "[I" ∈ lw_good := List.mem_filter.mpr ⟨List.mem_of_getElem? (i := 1214) (by decide +kernel), by decide +kernel⟩
theorem fl_RX9_20 : FLk RX9 20 RX9 TX9 8 := FLk.link RX9 wg_1214 rfl
theorem fo_10_8 : FO 10 8 RX9 TX9 65 := ⟨rfl, rfl, by decide, by decide, fi_10⟩
theorem wg_1226 : Cond.fieldLink RX9 54 RX9 "power" "[I" ∈ lw_good := List.mem_filter.mpr ⟨List.mem_of_getElem? (i := 1226) (by decide +kernel), by decide +kernel⟩
theorem fl_RX9_54 : FLk RX9 54 RX9 TX9 20 := FLk.link RX9 wg_1226 rfl
theorem fo_10_20 : FO 10 20 RX9 TX9 65 := ⟨rfl, rfl, by decide, by decide, fi_10⟩
theorem wg_1243 : Cond.fieldLink RX9 99 RX9 "engineIn" "[I" ∈ lw_good := List.mem_filter.mpr ⟨List.mem_of_getElem? (i := 1243) (by decide +kernel), by decide +kernel⟩
theorem fl_RX9_99 : FLk RX9 99 RX9 TX9 37 := FLk.link RX9 wg_1243 rfl
theorem fo_10_37 : FO 10 37 RX9 TX9 65 := ⟨rfl, rfl, by decide, by decide, fi_10⟩
theorem wg_1589 : Cond.code yX9_weight cX9_weight 4 (some .int) ∈ lw_good := List.mem_filter.mpr ⟨List.mem_of_getElem? (i := 1589) (by decide +kernel), by decide +kernel⟩
theorem mi_X9_weight : MI yX9_weight cX9_weight 4 (some .int) 1 := ⟨wg_1589, wg_74, by decide +kernel, by decide +kernel⟩
theorem wg_1586 : Cond.methodLink RX9 256 yX9_weight ∈ lw_good := List.mem_filter.mpr ⟨List.mem_of_getElem? (i := 1586) (by decide +kernel), by decide +kernel⟩
theorem wg_1588 : Cond.instanceMethod yX9_weight ∈ lw_good := List.mem_filter.mpr ⟨List.mem_of_getElem? (i := 1588) (by decide +kernel), by decide +kernel⟩
theorem wg_61 : Cond.selects RX9 yX9_weight yX9_weight ∈ lw_good := List.mem_filter.mpr ⟨List.mem_of_getElem? (i := 61) (by decide +kernel), by decide +kernel⟩
theorem wg_1219 : Cond.fieldLink RX9 36 RX9 "hasFailed" "[Z" ∈ lw_good := List.mem_filter.mpr ⟨List.mem_of_getElem? (i := 1219) (by decide +kernel), by decide +kernel⟩
theorem fl_RX9_36 : FLk RX9 36 RX9 TX9 13 := FLk.link RX9 wg_1219 rfl
theorem fo_10_13 : FO 10 13 RX9 TX9 65 := ⟨rfl, rfl, by decide, by decide, fi_10⟩
theorem wg_1585 : Cond.code yX9_runs cX9_runs 4 (some .int) ∈ lw_good := List.mem_filter.mpr ⟨List.mem_of_getElem? (i := 1585) (by decide +kernel), by decide +kernel⟩
theorem mi_X9_runs : MI yX9_runs cX9_runs 4 (some .int) 2 := ⟨wg_1585, wg_74, by decide +kernel, by decide +kernel⟩
theorem wg_1582 : Cond.methodLink RX9 259 yX9_runs ∈ lw_good := List.mem_filter.mpr ⟨List.mem_of_getElem? (i := 1582) (by decide +kernel), by decide +kernel⟩
theorem wg_1584 : Cond.instanceMethod yX9_runs ∈ lw_good := List.mem_filter.mpr ⟨List.mem_of_getElem? (i := 1584) (by decide +kernel), by decide +kernel⟩
theorem wg_60 : Cond.selects RX9 yX9_runs yX9_runs ∈ lw_good := List.mem_filter.mpr ⟨List.mem_of_getElem? (i := 60) (by decide +kernel), by decide +kernel⟩
theorem wg_1221 : Cond.fieldLink RX9 42 RX9 "from" "[I" ∈ lw_good := List.mem_filter.mpr ⟨List.mem_of_getElem? (i := 1221) (by decide +kernel), by decide +kernel⟩
theorem fl_RX9_42 : FLk RX9 42 RX9 TX9 15 := FLk.link RX9 wg_1221 rfl
theorem fo_10_15 : FO 10 15 RX9 TX9 65 := ⟨rfl, rfl, by decide, by decide, fi_10⟩
theorem wg_1222 : Cond.fieldLink RX9 45 RX9 "to" "[I" ∈ lw_good := List.mem_filter.mpr ⟨List.mem_of_getElem? (i := 1222) (by decide +kernel), by decide +kernel⟩
theorem fl_RX9_45 : FLk RX9 45 RX9 TX9 16 := FLk.link RX9 wg_1222 rfl
theorem fo_10_16 : FO 10 16 RX9 TX9 65 := ⟨rfl, rfl, by decide, by decide, fi_10⟩
theorem wg_1581 : Cond.code yX9_clears cX9_clears 3 (some .int) ∈ lw_good := List.mem_filter.mpr ⟨List.mem_of_getElem? (i := 1581) (by decide +kernel), by decide +kernel⟩
theorem mi_X9_clears : MI yX9_clears cX9_clears 3 (some .int) 2 := ⟨wg_1581, wg_74, by decide +kernel, by decide +kernel⟩
theorem wg_1578 : Cond.methodLink RX9 262 yX9_clears ∈ lw_good := List.mem_filter.mpr ⟨List.mem_of_getElem? (i := 1578) (by decide +kernel), by decide +kernel⟩
theorem wg_1580 : Cond.instanceMethod yX9_clears ∈ lw_good := List.mem_filter.mpr ⟨List.mem_of_getElem? (i := 1580) (by decide +kernel), by decide +kernel⟩
theorem wg_59 : Cond.selects RX9 yX9_clears yX9_clears ∈ lw_good := List.mem_filter.mpr ⟨List.mem_of_getElem? (i := 59) (by decide +kernel), by decide +kernel⟩
theorem wg_1233 : Cond.fieldLink RX9 72 RX9 "restsTo" "[I" ∈ lw_good := List.mem_filter.mpr ⟨List.mem_of_getElem? (i := 1233) (by decide +kernel), by decide +kernel⟩
theorem fl_RX9_72 : FLk RX9 72 RX9 TX9 27 := FLk.link RX9 wg_1233 rfl
theorem fo_10_27 : FO 10 27 RX9 TX9 65 := ⟨rfl, rfl, by decide, by decide, fi_10⟩
theorem wg_1246 : Cond.fieldLink RX9 108 RX9 "station" "[I" ∈ lw_good := List.mem_filter.mpr ⟨List.mem_of_getElem? (i := 1246) (by decide +kernel), by decide +kernel⟩
theorem fl_RX9_108 : FLk RX9 108 RX9 TX9 40 := FLk.link RX9 wg_1246 rfl
theorem fo_10_40 : FO 10 40 RX9 TX9 65 := ⟨rfl, rfl, by decide, by decide, fi_10⟩
theorem wg_1251 : Cond.fieldLink RX9 123 RX9 "way" "[I" ∈ lw_good := List.mem_filter.mpr ⟨List.mem_of_getElem? (i := 1251) (by decide +kernel), by decide +kernel⟩
theorem fl_RX9_123 : FLk RX9 123 RX9 TX9 45 := FLk.link RX9 wg_1251 rfl
theorem fo_10_45 : FO 10 45 RX9 TX9 65 := ⟨rfl, rfl, by decide, by decide, fi_10⟩
theorem wg_1244 : Cond.fieldLink RX9 102 RX9 "crewIn" "[I" ∈ lw_good := List.mem_filter.mpr ⟨List.mem_of_getElem? (i := 1244) (by decide +kernel), by decide +kernel⟩
theorem fl_RX9_102 : FLk RX9 102 RX9 TX9 38 := FLk.link RX9 wg_1244 rfl
theorem fo_10_38 : FO 10 38 RX9 TX9 65 := ⟨rfl, rfl, by decide, by decide, fi_10⟩
theorem wg_1254 : Cond.fieldLink RX9 132 RX9 "minute" "[I" ∈ lw_good := List.mem_filter.mpr ⟨List.mem_of_getElem? (i := 1254) (by decide +kernel), by decide +kernel⟩
theorem fl_RX9_132 : FLk RX9 132 RX9 TX9 48 := FLk.link RX9 wg_1254 rfl
theorem fo_10_48 : FO 10 48 RX9 TX9 65 := ⟨rfl, rfl, by decide, by decide, fi_10⟩
theorem wg_1476 : Cond.code yX9_stands cX9_stands 2 (some .boolean) ∈ lw_good := List.mem_filter.mpr ⟨List.mem_of_getElem? (i := 1476) (by decide +kernel), by decide +kernel⟩
theorem mi_X9_stands : MI yX9_stands cX9_stands 2 (some .boolean) 1 := ⟨wg_1476, wg_74, by decide +kernel, by decide +kernel⟩
theorem wg_1473 : Cond.methodLink RX9 219 yX9_stands ∈ lw_good := List.mem_filter.mpr ⟨List.mem_of_getElem? (i := 1473) (by decide +kernel), by decide +kernel⟩
theorem wg_1475 : Cond.instanceMethod yX9_stands ∈ lw_good := List.mem_filter.mpr ⟨List.mem_of_getElem? (i := 1475) (by decide +kernel), by decide +kernel⟩
theorem wg_44 : Cond.selects RX9 yX9_stands yX9_stands ∈ lw_good := List.mem_filter.mpr ⟨List.mem_of_getElem? (i := 44) (by decide +kernel), by decide +kernel⟩
theorem wg_1223 : Cond.fieldLink RX9 48 RX9 "held" "[I" ∈ lw_good := List.mem_filter.mpr ⟨List.mem_of_getElem? (i := 1223) (by decide +kernel), by decide +kernel⟩
theorem fl_RX9_48 : FLk RX9 48 RX9 TX9 17 := FLk.link RX9 wg_1223 rfl
theorem fo_10_17 : FO 10 17 RX9 TX9 65 := ⟨rfl, rfl, by decide, by decide, fi_10⟩
theorem wg_1448 : Cond.code yX9_isClosed cX9_isClosed 2 (some .boolean) ∈ lw_good := List.mem_filter.mpr ⟨List.mem_of_getElem? (i := 1448) (by decide +kernel), by decide +kernel⟩
theorem mi_X9_isClosed : MI yX9_isClosed cX9_isClosed 2 (some .boolean) 1 := ⟨wg_1448, wg_74, by decide +kernel, by decide +kernel⟩
theorem wg_1445 : Cond.methodLink RX9 204 yX9_isClosed ∈ lw_good := List.mem_filter.mpr ⟨List.mem_of_getElem? (i := 1445) (by decide +kernel), by decide +kernel⟩
theorem wg_1447 : Cond.instanceMethod yX9_isClosed ∈ lw_good := List.mem_filter.mpr ⟨List.mem_of_getElem? (i := 1447) (by decide +kernel), by decide +kernel⟩
theorem wg_41 : Cond.selects RX9 yX9_isClosed yX9_isClosed ∈ lw_good := List.mem_filter.mpr ⟨List.mem_of_getElem? (i := 41) (by decide +kernel), by decide +kernel⟩
theorem wg_1220 : Cond.fieldLink RX9 39 RX9 "isFlagged" "[Z" ∈ lw_good := List.mem_filter.mpr ⟨List.mem_of_getElem? (i := 1220) (by decide +kernel), by decide +kernel⟩
theorem fl_RX9_39 : FLk RX9 39 RX9 TX9 14 := FLk.link RX9 wg_1220 rfl
theorem fo_10_14 : FO 10 14 RX9 TX9 65 := ⟨rfl, rfl, by decide, by decide, fi_10⟩
theorem wg_1577 : Cond.code yX9_isOthers cX9_isOthers 5 (some .boolean) ∈ lw_good := List.mem_filter.mpr ⟨List.mem_of_getElem? (i := 1577) (by decide +kernel), by decide +kernel⟩
theorem mi_X9_isOthers : MI yX9_isOthers cX9_isOthers 5 (some .boolean) 2 := ⟨wg_1577, wg_74, by decide +kernel, by decide +kernel⟩
theorem wg_1574 : Cond.methodLink RX9 265 yX9_isOthers ∈ lw_good := List.mem_filter.mpr ⟨List.mem_of_getElem? (i := 1574) (by decide +kernel), by decide +kernel⟩
theorem wg_1576 : Cond.instanceMethod yX9_isOthers ∈ lw_good := List.mem_filter.mpr ⟨List.mem_of_getElem? (i := 1576) (by decide +kernel), by decide +kernel⟩
theorem wg_58 : Cond.selects RX9 yX9_isOthers yX9_isOthers ∈ lw_good := List.mem_filter.mpr ⟨List.mem_of_getElem? (i := 58) (by decide +kernel), by decide +kernel⟩
theorem wg_1215 : Cond.fieldLink RX9 23 RX9 "grade" "[I" ∈ lw_good := List.mem_filter.mpr ⟨List.mem_of_getElem? (i := 1215) (by decide +kernel), by decide +kernel⟩
theorem fl_RX9_23 : FLk RX9 23 RX9 TX9 9 := FLk.link RX9 wg_1215 rfl
theorem fo_10_9 : FO 10 9 RX9 TX9 65 := ⟨rfl, rfl, by decide, by decide, fi_10⟩
theorem wg_1234 : Cond.fieldLink RX9 75 RX9 "knows" "[Z" ∈ lw_good := List.mem_filter.mpr ⟨List.mem_of_getElem? (i := 1234) (by decide +kernel), by decide +kernel⟩
theorem fl_RX9_75 : FLk RX9 75 RX9 TX9 28 := FLk.link RX9 wg_1234 rfl
theorem fo_10_28 : FO 10 28 RX9 TX9 65 := ⟨rfl, rfl, by decide, by decide, fi_10⟩
theorem wg_1232 : Cond.fieldLink RX9 69 RX9 "duty" "[I" ∈ lw_good := List.mem_filter.mpr ⟨List.mem_of_getElem? (i := 1232) (by decide +kernel), by decide +kernel⟩
theorem fl_RX9_69 : FLk RX9 69 RX9 TX9 26 := FLk.link RX9 wg_1232 rfl
theorem fo_10_26 : FO 10 26 RX9 TX9 65 := ⟨rfl, rfl, by decide, by decide, fi_10⟩
theorem wg_1472 : Cond.code yX9_rests cX9_rests 2 (some .boolean) ∈ lw_good := List.mem_filter.mpr ⟨List.mem_of_getElem? (i := 1472) (by decide +kernel), by decide +kernel⟩
theorem mi_X9_rests : MI yX9_rests cX9_rests 2 (some .boolean) 1 := ⟨wg_1472, wg_74, by decide +kernel, by decide +kernel⟩
theorem wg_1469 : Cond.methodLink RX9 216 yX9_rests ∈ lw_good := List.mem_filter.mpr ⟨List.mem_of_getElem? (i := 1469) (by decide +kernel), by decide +kernel⟩
theorem wg_1471 : Cond.instanceMethod yX9_rests ∈ lw_good := List.mem_filter.mpr ⟨List.mem_of_getElem? (i := 1471) (by decide +kernel), by decide +kernel⟩
theorem wg_43 : Cond.selects RX9 yX9_rests yX9_rests ∈ lw_good := List.mem_filter.mpr ⟨List.mem_of_getElem? (i := 43) (by decide +kernel), by decide +kernel⟩
theorem wg_1211 : Cond.fieldLink RX9 13 RX9 "tracks" "[I" ∈ lw_good := List.mem_filter.mpr ⟨List.mem_of_getElem? (i := 1211) (by decide +kernel), by decide +kernel⟩
theorem fl_RX9_13 : FLk RX9 13 RX9 TX9 5 := FLk.link RX9 wg_1211 rfl
theorem fo_10_5 : FO 10 5 RX9 TX9 65 := ⟨rfl, rfl, by decide, by decide, fi_10⟩
theorem wg_1420 : Cond.code yX9_taken cX9_taken 4 (some .int) ∈ lw_good := List.mem_filter.mpr ⟨List.mem_of_getElem? (i := 1420) (by decide +kernel), by decide +kernel⟩
theorem mi_X9_taken : MI yX9_taken cX9_taken 4 (some .int) 1 := ⟨wg_1420, wg_74, by decide +kernel, by decide +kernel⟩
theorem wg_1417 : Cond.methodLink RX9 197 yX9_taken ∈ lw_good := List.mem_filter.mpr ⟨List.mem_of_getElem? (i := 1417) (by decide +kernel), by decide +kernel⟩
theorem wg_1419 : Cond.instanceMethod yX9_taken ∈ lw_good := List.mem_filter.mpr ⟨List.mem_of_getElem? (i := 1419) (by decide +kernel), by decide +kernel⟩
theorem wg_39 : Cond.selects RX9 yX9_taken yX9_taken ∈ lw_good := List.mem_filter.mpr ⟨List.mem_of_getElem? (i := 39) (by decide +kernel), by decide +kernel⟩
theorem wg_1545 : Cond.code yX9_other cX9_other 3 (some .int) ∈ lw_good := List.mem_filter.mpr ⟨List.mem_of_getElem? (i := 1545) (by decide +kernel), by decide +kernel⟩
theorem mi_X9_other : MI yX9_other cX9_other 3 (some .int) 2 := ⟨wg_1545, wg_74, by decide +kernel, by decide +kernel⟩
theorem wg_1542 : Cond.methodLink RX9 252 yX9_other ∈ lw_good := List.mem_filter.mpr ⟨List.mem_of_getElem? (i := 1542) (by decide +kernel), by decide +kernel⟩
theorem wg_1544 : Cond.instanceMethod yX9_other ∈ lw_good := List.mem_filter.mpr ⟨List.mem_of_getElem? (i := 1544) (by decide +kernel), by decide +kernel⟩
theorem wg_52 : Cond.selects RX9 yX9_other yX9_other ∈ lw_good := List.mem_filter.mpr ⟨List.mem_of_getElem? (i := 52) (by decide +kernel), by decide +kernel⟩
theorem wg_1573 : Cond.code yX9_bars cX9_bars 7 (some .boolean) ∈ lw_good := List.mem_filter.mpr ⟨List.mem_of_getElem? (i := 1573) (by decide +kernel), by decide +kernel⟩
theorem mi_X9_bars : MI yX9_bars cX9_bars 7 (some .boolean) 2 := ⟨wg_1573, wg_74, by decide +kernel, by decide +kernel⟩
theorem wg_1570 : Cond.methodLink RX9 269 yX9_bars ∈ lw_good := List.mem_filter.mpr ⟨List.mem_of_getElem? (i := 1570) (by decide +kernel), by decide +kernel⟩
theorem wg_1572 : Cond.instanceMethod yX9_bars ∈ lw_good := List.mem_filter.mpr ⟨List.mem_of_getElem? (i := 1572) (by decide +kernel), by decide +kernel⟩
theorem wg_57 : Cond.selects RX9 yX9_bars yX9_bars ∈ lw_good := List.mem_filter.mpr ⟨List.mem_of_getElem? (i := 57) (by decide +kernel), by decide +kernel⟩
theorem wg_1569 : Cond.code yX9_bar cX9_bar 5 (some .int) ∈ lw_good := List.mem_filter.mpr ⟨List.mem_of_getElem? (i := 1569) (by decide +kernel), by decide +kernel⟩
theorem mi_X9_bar : MI yX9_bar cX9_bar 5 (some .int) 2 := ⟨wg_1569, wg_74, by decide +kernel, by decide +kernel⟩
theorem wg_1566 : Cond.methodLink RX9 278 yX9_bar ∈ lw_good := List.mem_filter.mpr ⟨List.mem_of_getElem? (i := 1566) (by decide +kernel), by decide +kernel⟩
theorem wg_1568 : Cond.instanceMethod yX9_bar ∈ lw_good := List.mem_filter.mpr ⟨List.mem_of_getElem? (i := 1568) (by decide +kernel), by decide +kernel⟩
theorem wg_56 : Cond.selects RX9 yX9_bar yX9_bar ∈ lw_good := List.mem_filter.mpr ⟨List.mem_of_getElem? (i := 56) (by decide +kernel), by decide +kernel⟩
theorem wg_1235 : Cond.fieldLink RX9 184 RX9 "cars" "I" ∈ lw_good := List.mem_filter.mpr ⟨List.mem_of_getElem? (i := 1235) (by decide +kernel), by decide +kernel⟩
theorem fl_RX9_184 : FLk RX9 184 RX9 TX9 29 := FLk.link RX9 wg_1235 rfl
theorem fo_10_29 : FO 10 29 RX9 TX9 65 := ⟨rfl, rfl, by decide, by decide, fi_10⟩
theorem wg_1529 : Cond.code yX9_isCar cX9_isCar 2 (some .boolean) ∈ lw_good := List.mem_filter.mpr ⟨List.mem_of_getElem? (i := 1529) (by decide +kernel), by decide +kernel⟩
theorem mi_X9_isCar : MI yX9_isCar cX9_isCar 2 (some .boolean) 1 := ⟨wg_1529, wg_74, by decide +kernel, by decide +kernel⟩
theorem wg_1526 : Cond.methodLink RX9 246 yX9_isCar ∈ lw_good := List.mem_filter.mpr ⟨List.mem_of_getElem? (i := 1526) (by decide +kernel), by decide +kernel⟩
theorem wg_1528 : Cond.instanceMethod yX9_isCar ∈ lw_good := List.mem_filter.mpr ⟨List.mem_of_getElem? (i := 1528) (by decide +kernel), by decide +kernel⟩
theorem wg_51 : Cond.selects RX9 yX9_isCar yX9_isCar ∈ lw_good := List.mem_filter.mpr ⟨List.mem_of_getElem? (i := 51) (by decide +kernel), by decide +kernel⟩
theorem wg_1212 : Cond.fieldLink RX9 181 RX9 "blocks" "I" ∈ lw_good := List.mem_filter.mpr ⟨List.mem_of_getElem? (i := 1212) (by decide +kernel), by decide +kernel⟩
theorem fl_RX9_181 : FLk RX9 181 RX9 TX9 6 := FLk.link RX9 wg_1212 rfl
theorem fo_10_6 : FO 10 6 RX9 TX9 65 := ⟨rfl, rfl, by decide, by decide, fi_10⟩
theorem wg_1432 : Cond.code yX9_isBlock cX9_isBlock 2 (some .boolean) ∈ lw_good := List.mem_filter.mpr ⟨List.mem_of_getElem? (i := 1432) (by decide +kernel), by decide +kernel⟩
theorem mi_X9_isBlock : MI yX9_isBlock cX9_isBlock 2 (some .boolean) 1 := ⟨wg_1432, wg_74, by decide +kernel, by decide +kernel⟩
theorem wg_1429 : Cond.methodLink RX9 201 yX9_isBlock ∈ lw_good := List.mem_filter.mpr ⟨List.mem_of_getElem? (i := 1429) (by decide +kernel), by decide +kernel⟩
theorem wg_1431 : Cond.instanceMethod yX9_isBlock ∈ lw_good := List.mem_filter.mpr ⟨List.mem_of_getElem? (i := 1431) (by decide +kernel), by decide +kernel⟩
theorem wg_40 : Cond.selects RX9 yX9_isBlock yX9_isBlock ∈ lw_good := List.mem_filter.mpr ⟨List.mem_of_getElem? (i := 40) (by decide +kernel), by decide +kernel⟩
theorem wg_1209 : Cond.fieldLink RX9 230 RX9 "debt" "I" ∈ lw_good := List.mem_filter.mpr ⟨List.mem_of_getElem? (i := 1209) (by decide +kernel), by decide +kernel⟩
theorem fl_RX9_230 : FLk RX9 230 RX9 TX9 3 := FLk.link RX9 wg_1209 rfl
theorem fo_10_3 : FO 10 3 RX9 TX9 65 := ⟨rfl, rfl, by decide, by decide, fi_10⟩
theorem wg_1493 : Cond.constant RX9 233 50000 ∈ lw_good := List.mem_filter.mpr ⟨List.mem_of_getElem? (i := 1493) (by decide +kernel), by decide +kernel⟩
theorem wg_1208 : Cond.fieldLink RX9 7 RX9 "cash" "I" ∈ lw_good := List.mem_filter.mpr ⟨List.mem_of_getElem? (i := 1208) (by decide +kernel), by decide +kernel⟩
theorem fl_RX9_7 : FLk RX9 7 RX9 TX9 2 := FLk.link RX9 wg_1208 rfl
theorem fo_10_2 : FO 10 2 RX9 TX9 65 := ⟨rfl, rfl, by decide, by decide, fi_10⟩
theorem wg_1210 : Cond.fieldLink RX9 288 RX9 "broken" "I" ∈ lw_good := List.mem_filter.mpr ⟨List.mem_of_getElem? (i := 1210) (by decide +kernel), by decide +kernel⟩
theorem fl_RX9_288 : FLk RX9 288 RX9 TX9 4 := FLk.link RX9 wg_1210 rfl
theorem fo_10_4 : FO 10 4 RX9 TX9 65 := ⟨rfl, rfl, by decide, by decide, fi_10⟩
theorem wg_1267 : Cond.fieldLink RX9 162 RX9 "paperOf" "[I" ∈ lw_good := List.mem_filter.mpr ⟨List.mem_of_getElem? (i := 1267) (by decide +kernel), by decide +kernel⟩
theorem fl_RX9_162 : FLk RX9 162 RX9 TX9 61 := FLk.link RX9 wg_1267 rfl
theorem fo_10_61 : FO 10 61 RX9 TX9 65 := ⟨rfl, rfl, by decide, by decide, fi_10⟩
theorem wg_1266 : Cond.fieldLink RX9 190 RX9 "papers" "I" ∈ lw_good := List.mem_filter.mpr ⟨List.mem_of_getElem? (i := 1266) (by decide +kernel), by decide +kernel⟩
theorem fl_RX9_190 : FLk RX9 190 RX9 TX9 60 := FLk.link RX9 wg_1266 rfl
theorem fo_10_60 : FO 10 60 RX9 TX9 65 := ⟨rfl, rfl, by decide, by decide, fi_10⟩
theorem wg_1268 : Cond.fieldLink RX9 165 RX9 "paper" "[I" ∈ lw_good := List.mem_filter.mpr ⟨List.mem_of_getElem? (i := 1268) (by decide +kernel), by decide +kernel⟩
theorem fl_RX9_165 : FLk RX9 165 RX9 TX9 62 := FLk.link RX9 wg_1268 rfl
theorem fo_10_62 : FO 10 62 RX9 TX9 65 := ⟨rfl, rfl, by decide, by decide, fi_10⟩
theorem wg_1238 : Cond.fieldLink RX9 84 RX9 "carOf" "[I" ∈ lw_good := List.mem_filter.mpr ⟨List.mem_of_getElem? (i := 1238) (by decide +kernel), by decide +kernel⟩
theorem fl_RX9_84 : FLk RX9 84 RX9 TX9 32 := FLk.link RX9 wg_1238 rfl
theorem fo_10_32 : FO 10 32 RX9 TX9 65 := ⟨rfl, rfl, by decide, by decide, fi_10⟩
theorem wg_1237 : Cond.fieldLink RX9 81 RX9 "carStation" "[I" ∈ lw_good := List.mem_filter.mpr ⟨List.mem_of_getElem? (i := 1237) (by decide +kernel), by decide +kernel⟩
theorem fl_RX9_81 : FLk RX9 81 RX9 TX9 31 := FLk.link RX9 wg_1237 rfl
theorem fo_10_31 : FO 10 31 RX9 TX9 65 := ⟨rfl, rfl, by decide, by decide, fi_10⟩
theorem wg_1240 : Cond.fieldLink RX9 90 RX9 "yard" "[I" ∈ lw_good := List.mem_filter.mpr ⟨List.mem_of_getElem? (i := 1240) (by decide +kernel), by decide +kernel⟩
theorem fl_RX9_90 : FLk RX9 90 RX9 TX9 34 := FLk.link RX9 wg_1240 rfl
theorem fo_10_34 : FO 10 34 RX9 TX9 65 := ⟨rfl, rfl, by decide, by decide, fi_10⟩
theorem wg_1241 : Cond.fieldLink RX9 93 RX9 "yardSize" "[I" ∈ lw_good := List.mem_filter.mpr ⟨List.mem_of_getElem? (i := 1241) (by decide +kernel), by decide +kernel⟩
theorem fl_RX9_93 : FLk RX9 93 RX9 TX9 35 := FLk.link RX9 wg_1241 rfl
theorem fo_10_35 : FO 10 35 RX9 TX9 65 := ⟨rfl, rfl, by decide, by decide, fi_10⟩
theorem wg_1488 : Cond.code yX9_writes cX9_writes 4 none ∈ lw_good := List.mem_filter.mpr ⟨List.mem_of_getElem? (i := 1488) (by decide +kernel), by decide +kernel⟩
theorem mi_X9_writes : MI yX9_writes cX9_writes 4 none 3 := ⟨wg_1488, wg_74, by decide +kernel, by decide +kernel⟩
theorem wg_1485 : Cond.methodLink RX9 226 yX9_writes ∈ lw_good := List.mem_filter.mpr ⟨List.mem_of_getElem? (i := 1485) (by decide +kernel), by decide +kernel⟩
theorem wg_1487 : Cond.instanceMethod yX9_writes ∈ lw_good := List.mem_filter.mpr ⟨List.mem_of_getElem? (i := 1487) (by decide +kernel), by decide +kernel⟩
theorem wg_46 : Cond.selects RX9 yX9_writes yX9_writes ∈ lw_good := List.mem_filter.mpr ⟨List.mem_of_getElem? (i := 46) (by decide +kernel), by decide +kernel⟩
theorem wg_1236 : Cond.fieldLink RX9 78 RX9 "home" "[I" ∈ lw_good := List.mem_filter.mpr ⟨List.mem_of_getElem? (i := 1236) (by decide +kernel), by decide +kernel⟩
theorem fl_RX9_78 : FLk RX9 78 RX9 TX9 30 := FLk.link RX9 wg_1236 rfl
theorem fo_10_30 : FO 10 30 RX9 TX9 65 := ⟨rfl, rfl, by decide, by decide, fi_10⟩
theorem wg_1484 : Cond.code yX9_comes cX9_comes 3 none ∈ lw_good := List.mem_filter.mpr ⟨List.mem_of_getElem? (i := 1484) (by decide +kernel), by decide +kernel⟩
theorem mi_X9_comes : MI yX9_comes cX9_comes 3 none 2 := ⟨wg_1484, wg_74, by decide +kernel, by decide +kernel⟩
theorem wg_1481 : Cond.methodLink RX9 222 yX9_comes ∈ lw_good := List.mem_filter.mpr ⟨List.mem_of_getElem? (i := 1481) (by decide +kernel), by decide +kernel⟩
theorem wg_1483 : Cond.instanceMethod yX9_comes ∈ lw_good := List.mem_filter.mpr ⟨List.mem_of_getElem? (i := 1483) (by decide +kernel), by decide +kernel⟩
theorem wg_45 : Cond.selects RX9 yX9_comes yX9_comes ∈ lw_good := List.mem_filter.mpr ⟨List.mem_of_getElem? (i := 45) (by decide +kernel), by decide +kernel⟩
theorem wg_1678 : Cond.code yX9_carAt cX9_carAt 2 (some .int) ∈ lw_good := List.mem_filter.mpr ⟨List.mem_of_getElem? (i := 1678) (by decide +kernel), by decide +kernel⟩
theorem mi_X9_carAt : MI yX9_carAt cX9_carAt 2 (some .int) 1 := ⟨wg_1678, wg_74, by decide +kernel, by decide +kernel⟩
theorem wg_1683 : Cond.methodLink RX9 303 yX9_carAt ∈ lw_good := List.mem_filter.mpr ⟨List.mem_of_getElem? (i := 1683) (by decide +kernel), by decide +kernel⟩
theorem wg_1676 : Cond.instanceMethod yX9_carAt ∈ lw_good := List.mem_filter.mpr ⟨List.mem_of_getElem? (i := 1676) (by decide +kernel), by decide +kernel⟩
theorem wg_1677 : Cond.selects RX9 yX9_carAt yX9_carAt ∈ lw_good := List.mem_filter.mpr ⟨List.mem_of_getElem? (i := 1677) (by decide +kernel), by decide +kernel⟩
theorem wg_1228 : Cond.fieldLink RX9 60 RX9 "engineOf" "[I" ∈ lw_good := List.mem_filter.mpr ⟨List.mem_of_getElem? (i := 1228) (by decide +kernel), by decide +kernel⟩
theorem fl_RX9_60 : FLk RX9 60 RX9 TX9 22 := FLk.link RX9 wg_1228 rfl
theorem fo_10_22 : FO 10 22 RX9 TX9 65 := ⟨rfl, rfl, by decide, by decide, fi_10⟩
theorem wg_1227 : Cond.fieldLink RX9 57 RX9 "engineAt" "[I" ∈ lw_good := List.mem_filter.mpr ⟨List.mem_of_getElem? (i := 1227) (by decide +kernel), by decide +kernel⟩
theorem fl_RX9_57 : FLk RX9 57 RX9 TX9 21 := FLk.link RX9 wg_1227 rfl
theorem fo_10_21 : FO 10 21 RX9 TX9 65 := ⟨rfl, rfl, by decide, by decide, fi_10⟩
theorem wg_1231 : Cond.fieldLink RX9 66 RX9 "crewOf" "[I" ∈ lw_good := List.mem_filter.mpr ⟨List.mem_of_getElem? (i := 1231) (by decide +kernel), by decide +kernel⟩
theorem fl_RX9_66 : FLk RX9 66 RX9 TX9 25 := FLk.link RX9 wg_1231 rfl
theorem fo_10_25 : FO 10 25 RX9 TX9 65 := ⟨rfl, rfl, by decide, by decide, fi_10⟩
theorem wg_1230 : Cond.fieldLink RX9 63 RX9 "crewAt" "[I" ∈ lw_good := List.mem_filter.mpr ⟨List.mem_of_getElem? (i := 1230) (by decide +kernel), by decide +kernel⟩
theorem fl_RX9_63 : FLk RX9 63 RX9 TX9 24 := FLk.link RX9 wg_1230 rfl
theorem fo_10_24 : FO 10 24 RX9 TX9 65 := ⟨rfl, rfl, by decide, by decide, fi_10⟩
theorem wg_1521 : Cond.code yX9_ends cX9_ends 3 none ∈ lw_good := List.mem_filter.mpr ⟨List.mem_of_getElem? (i := 1521) (by decide +kernel), by decide +kernel⟩
theorem mi_X9_ends : MI yX9_ends cX9_ends 3 none 2 := ⟨wg_1521, wg_74, by decide +kernel, by decide +kernel⟩
theorem wg_1518 : Cond.methodLink RX9 243 yX9_ends ∈ lw_good := List.mem_filter.mpr ⟨List.mem_of_getElem? (i := 1518) (by decide +kernel), by decide +kernel⟩
theorem wg_1520 : Cond.instanceMethod yX9_ends ∈ lw_good := List.mem_filter.mpr ⟨List.mem_of_getElem? (i := 1520) (by decide +kernel), by decide +kernel⟩
theorem wg_50 : Cond.selects RX9 yX9_ends yX9_ends ∈ lw_good := List.mem_filter.mpr ⟨List.mem_of_getElem? (i := 50) (by decide +kernel), by decide +kernel⟩
theorem wg_1229 : Cond.fieldLink RX9 210 RX9 "crews" "I" ∈ lw_good := List.mem_filter.mpr ⟨List.mem_of_getElem? (i := 1229) (by decide +kernel), by decide +kernel⟩
theorem fl_RX9_210 : FLk RX9 210 RX9 TX9 23 := FLk.link RX9 wg_1229 rfl
theorem fo_10_23 : FO 10 23 RX9 TX9 65 := ⟨rfl, rfl, by decide, by decide, fi_10⟩
theorem wg_1517 : Cond.code yX9_holds cX9_holds 4 (some .boolean) ∈ lw_good := List.mem_filter.mpr ⟨List.mem_of_getElem? (i := 1517) (by decide +kernel), by decide +kernel⟩
theorem mi_X9_holds : MI yX9_holds cX9_holds 4 (some .boolean) 1 := ⟨wg_1517, wg_74, by decide +kernel, by decide +kernel⟩
theorem wg_1514 : Cond.methodLink RX9 240 yX9_holds ∈ lw_good := List.mem_filter.mpr ⟨List.mem_of_getElem? (i := 1514) (by decide +kernel), by decide +kernel⟩
theorem wg_1516 : Cond.instanceMethod yX9_holds ∈ lw_good := List.mem_filter.mpr ⟨List.mem_of_getElem? (i := 1516) (by decide +kernel), by decide +kernel⟩
theorem wg_49 : Cond.selects RX9 yX9_holds yX9_holds ∈ lw_good := List.mem_filter.mpr ⟨List.mem_of_getElem? (i := 49) (by decide +kernel), by decide +kernel⟩
theorem wg_1464 : Cond.code yX9_isCrew cX9_isCrew 2 (some .boolean) ∈ lw_good := List.mem_filter.mpr ⟨List.mem_of_getElem? (i := 1464) (by decide +kernel), by decide +kernel⟩
theorem mi_X9_isCrew : MI yX9_isCrew cX9_isCrew 2 (some .boolean) 1 := ⟨wg_1464, wg_74, by decide +kernel, by decide +kernel⟩
theorem wg_1461 : Cond.methodLink RX9 213 yX9_isCrew ∈ lw_good := List.mem_filter.mpr ⟨List.mem_of_getElem? (i := 1461) (by decide +kernel), by decide +kernel⟩
theorem wg_1463 : Cond.instanceMethod yX9_isCrew ∈ lw_good := List.mem_filter.mpr ⟨List.mem_of_getElem? (i := 1463) (by decide +kernel), by decide +kernel⟩
theorem wg_42 : Cond.selects RX9 yX9_isCrew yX9_isCrew ∈ lw_good := List.mem_filter.mpr ⟨List.mem_of_getElem? (i := 42) (by decide +kernel), by decide +kernel⟩
theorem wg_1225 : Cond.fieldLink RX9 207 RX9 "engines" "I" ∈ lw_good := List.mem_filter.mpr ⟨List.mem_of_getElem? (i := 1225) (by decide +kernel), by decide +kernel⟩
theorem fl_RX9_207 : FLk RX9 207 RX9 TX9 19 := FLk.link RX9 wg_1225 rfl
theorem fo_10_19 : FO 10 19 RX9 TX9 65 := ⟨rfl, rfl, by decide, by decide, fi_10⟩
theorem wg_1224 : Cond.fieldLink RX9 51 RX9 "clearAt" "[I" ∈ lw_good := List.mem_filter.mpr ⟨List.mem_of_getElem? (i := 1224) (by decide +kernel), by decide +kernel⟩
theorem fl_RX9_51 : FLk RX9 51 RX9 TX9 18 := FLk.link RX9 wg_1224 rfl
theorem fo_10_18 : FO 10 18 RX9 TX9 65 := ⟨rfl, rfl, by decide, by decide, fi_10⟩
theorem wg_1248 : Cond.fieldLink RX9 114 RX9 "arrives" "[I" ∈ lw_good := List.mem_filter.mpr ⟨List.mem_of_getElem? (i := 1248) (by decide +kernel), by decide +kernel⟩
theorem fl_RX9_114 : FLk RX9 114 RX9 TX9 42 := FLk.link RX9 wg_1248 rfl
theorem fo_10_42 : FO 10 42 RX9 TX9 65 := ⟨rfl, rfl, by decide, by decide, fi_10⟩
theorem wg_1505 : Cond.code yX9_fails cX9_fails 2 (some .int) ∈ lw_good := List.mem_filter.mpr ⟨List.mem_of_getElem? (i := 1505) (by decide +kernel), by decide +kernel⟩
theorem mi_X9_fails : MI yX9_fails cX9_fails 2 (some .int) 1 := ⟨wg_1505, wg_74, by decide +kernel, by decide +kernel⟩
theorem wg_1502 : Cond.methodLink RX9 234 yX9_fails ∈ lw_good := List.mem_filter.mpr ⟨List.mem_of_getElem? (i := 1502) (by decide +kernel), by decide +kernel⟩
theorem wg_1504 : Cond.instanceMethod yX9_fails ∈ lw_good := List.mem_filter.mpr ⟨List.mem_of_getElem? (i := 1504) (by decide +kernel), by decide +kernel⟩
theorem wg_47 : Cond.selects RX9 yX9_fails yX9_fails ∈ lw_good := List.mem_filter.mpr ⟨List.mem_of_getElem? (i := 47) (by decide +kernel), by decide +kernel⟩
theorem wg_1262 : Cond.fieldLink RX9 150 RX9 "billTo" "[I" ∈ lw_good := List.mem_filter.mpr ⟨List.mem_of_getElem? (i := 1262) (by decide +kernel), by decide +kernel⟩
theorem fl_RX9_150 : FLk RX9 150 RX9 TX9 56 := FLk.link RX9 wg_1262 rfl
theorem fo_10_56 : FO 10 56 RX9 TX9 65 := ⟨rfl, rfl, by decide, by decide, fi_10⟩
theorem wg_1653 : Cond.code yX9_holder cX9_holder 2 (some .int) ∈ lw_good := List.mem_filter.mpr ⟨List.mem_of_getElem? (i := 1653) (by decide +kernel), by decide +kernel⟩
theorem mi_X9_holder : MI yX9_holder cX9_holder 2 (some .int) 1 := ⟨wg_1653, wg_74, by decide +kernel, by decide +kernel⟩
theorem wg_1658 : Cond.methodLink RX9 300 yX9_holder ∈ lw_good := List.mem_filter.mpr ⟨List.mem_of_getElem? (i := 1658) (by decide +kernel), by decide +kernel⟩
theorem wg_1651 : Cond.instanceMethod yX9_holder ∈ lw_good := List.mem_filter.mpr ⟨List.mem_of_getElem? (i := 1651) (by decide +kernel), by decide +kernel⟩
theorem wg_1652 : Cond.selects RX9 yX9_holder yX9_holder ∈ lw_good := List.mem_filter.mpr ⟨List.mem_of_getElem? (i := 1652) (by decide +kernel), by decide +kernel⟩
theorem wg_1269 : Cond.fieldLink RX9 168 RX9 "far" "[I" ∈ lw_good := List.mem_filter.mpr ⟨List.mem_of_getElem? (i := 1269) (by decide +kernel), by decide +kernel⟩
theorem fl_RX9_168 : FLk RX9 168 RX9 TX9 63 := FLk.link RX9 wg_1269 rfl
theorem fo_10_63 : FO 10 63 RX9 TX9 65 := ⟨rfl, rfl, by decide, by decide, fi_10⟩
theorem wg_1700 : Cond.constant RX9 306 1000000 ∈ lw_good := List.mem_filter.mpr ⟨List.mem_of_getElem? (i := 1700) (by decide +kernel), by decide +kernel⟩
theorem wg_1205 : Cond.methodLink RX9 1 objectInit ∈ lw_good := List.mem_filter.mpr ⟨List.mem_of_getElem? (i := 1205) (by decide +kernel), by decide +kernel⟩
theorem wg_1402 : Cond.arrayClass ClassFile.FieldType.boolean ∈ lw_good := List.mem_filter.mpr ⟨List.mem_of_getElem? (i := 1402) (by decide +kernel), by decide +kernel⟩
theorem wg_1255 : Cond.fieldLink RX9 135 RX9 "rank" "[I" ∈ lw_good := List.mem_filter.mpr ⟨List.mem_of_getElem? (i := 1255) (by decide +kernel), by decide +kernel⟩
theorem fl_RX9_135 : FLk RX9 135 RX9 TX9 49 := FLk.link RX9 wg_1255 rfl
theorem fo_10_49 : FO 10 49 RX9 TX9 65 := ⟨rfl, rfl, by decide, by decide, fi_10⟩
theorem wg_1259 : Cond.fieldLink RX9 144 RX9 "draft" "[I" ∈ lw_good := List.mem_filter.mpr ⟨List.mem_of_getElem? (i := 1259) (by decide +kernel), by decide +kernel⟩
theorem fl_RX9_144 : FLk RX9 144 RX9 TX9 53 := FLk.link RX9 wg_1259 rfl
theorem fo_10_53 : FO 10 53 RX9 TX9 65 := ⟨rfl, rfl, by decide, by decide, fi_10⟩
theorem wg_1261 : Cond.fieldLink RX9 147 RX9 "billFrom" "[I" ∈ lw_good := List.mem_filter.mpr ⟨List.mem_of_getElem? (i := 1261) (by decide +kernel), by decide +kernel⟩
theorem fl_RX9_147 : FLk RX9 147 RX9 TX9 55 := FLk.link RX9 wg_1261 rfl
theorem fo_10_55 : FO 10 55 RX9 TX9 65 := ⟨rfl, rfl, by decide, by decide, fi_10⟩
theorem wg_1263 : Cond.fieldLink RX9 153 RX9 "billRate" "[I" ∈ lw_good := List.mem_filter.mpr ⟨List.mem_of_getElem? (i := 1263) (by decide +kernel), by decide +kernel⟩
theorem fl_RX9_153 : FLk RX9 153 RX9 TX9 57 := FLk.link RX9 wg_1263 rfl
theorem fo_10_57 : FO 10 57 RX9 TX9 65 := ⟨rfl, rfl, by decide, by decide, fi_10⟩
theorem wg_1264 : Cond.fieldLink RX9 156 RX9 "isTaken" "[Z" ∈ lw_good := List.mem_filter.mpr ⟨List.mem_of_getElem? (i := 1264) (by decide +kernel), by decide +kernel⟩
theorem fl_RX9_156 : FLk RX9 156 RX9 TX9 58 := FLk.link RX9 wg_1264 rfl
theorem fo_10_58 : FO 10 58 RX9 TX9 65 := ⟨rfl, rfl, by decide, by decide, fi_10⟩
theorem wg_1265 : Cond.fieldLink RX9 159 RX9 "rates" "[I" ∈ lw_good := List.mem_filter.mpr ⟨List.mem_of_getElem? (i := 1265) (by decide +kernel), by decide +kernel⟩
theorem fl_RX9_159 : FLk RX9 159 RX9 TX9 59 := FLk.link RX9 wg_1265 rfl
theorem fo_10_59 : FO 10 59 RX9 TX9 65 := ⟨rfl, rfl, by decide, by decide, fi_10⟩
theorem wg_1270 : Cond.fieldLink RX9 171 RX9 "row" "[I" ∈ lw_good := List.mem_filter.mpr ⟨List.mem_of_getElem? (i := 1270) (by decide +kernel), by decide +kernel⟩
theorem fl_RX9_171 : FLk RX9 171 RX9 TX9 64 := FLk.link RX9 wg_1270 rfl
theorem fo_10_64 : FO 10 64 RX9 TX9 65 := ⟨rfl, rfl, by decide, by decide, fi_10⟩
theorem wg_1258 : Cond.fieldLink RX9 249 RX9 "drafted" "I" ∈ lw_good := List.mem_filter.mpr ⟨List.mem_of_getElem? (i := 1258) (by decide +kernel), by decide +kernel⟩
theorem fl_RX9_249 : FLk RX9 249 RX9 TX9 52 := FLk.link RX9 wg_1258 rfl
theorem fo_10_52 : FO 10 52 RX9 TX9 65 := ⟨rfl, rfl, by decide, by decide, fi_10⟩
theorem wg_1260 : Cond.fieldLink RX9 294 RX9 "bills" "I" ∈ lw_good := List.mem_filter.mpr ⟨List.mem_of_getElem? (i := 1260) (by decide +kernel), by decide +kernel⟩
theorem fl_RX9_294 : FLk RX9 294 RX9 TX9 54 := FLk.link RX9 wg_1260 rfl
theorem fo_10_54 : FO 10 54 RX9 TX9 65 := ⟨rfl, rfl, by decide, by decide, fi_10⟩
theorem wg_1601 : Cond.code yX9_wrecks cX9_wrecks 4 none ∈ lw_good := List.mem_filter.mpr ⟨List.mem_of_getElem? (i := 1601) (by decide +kernel), by decide +kernel⟩
theorem mi_X9_wrecks : MI yX9_wrecks cX9_wrecks 4 none 2 := ⟨wg_1601, wg_74, by decide +kernel, by decide +kernel⟩
theorem wg_1598 : Cond.methodLink RX9 291 yX9_wrecks ∈ lw_good := List.mem_filter.mpr ⟨List.mem_of_getElem? (i := 1598) (by decide +kernel), by decide +kernel⟩
theorem wg_1600 : Cond.instanceMethod yX9_wrecks ∈ lw_good := List.mem_filter.mpr ⟨List.mem_of_getElem? (i := 1600) (by decide +kernel), by decide +kernel⟩
theorem wg_63 : Cond.selects RX9 yX9_wrecks yX9_wrecks ∈ lw_good := List.mem_filter.mpr ⟨List.mem_of_getElem? (i := 63) (by decide +kernel), by decide +kernel⟩
theorem wg_1593 : Cond.code yX9_enters cX9_enters 4 none ∈ lw_good := List.mem_filter.mpr ⟨List.mem_of_getElem? (i := 1593) (by decide +kernel), by decide +kernel⟩
theorem mi_X9_enters : MI yX9_enters cX9_enters 4 none 1 := ⟨wg_1593, wg_74, by decide +kernel, by decide +kernel⟩
theorem wg_1590 : Cond.methodLink RX9 281 yX9_enters ∈ lw_good := List.mem_filter.mpr ⟨List.mem_of_getElem? (i := 1590) (by decide +kernel), by decide +kernel⟩
theorem wg_1592 : Cond.instanceMethod yX9_enters ∈ lw_good := List.mem_filter.mpr ⟨List.mem_of_getElem? (i := 1592) (by decide +kernel), by decide +kernel⟩
theorem wg_62 : Cond.selects RX9 yX9_enters yX9_enters ∈ lw_good := List.mem_filter.mpr ⟨List.mem_of_getElem? (i := 62) (by decide +kernel), by decide +kernel⟩
theorem wg_1565 : Cond.code yX9_pays cX9_pays 2 none ∈ lw_good := List.mem_filter.mpr ⟨List.mem_of_getElem? (i := 1565) (by decide +kernel), by decide +kernel⟩
theorem mi_X9_pays : MI yX9_pays cX9_pays 2 none 0 := ⟨wg_1565, wg_74, by decide +kernel, by decide +kernel⟩
theorem wg_1562 : Cond.methodLink RX9 275 yX9_pays ∈ lw_good := List.mem_filter.mpr ⟨List.mem_of_getElem? (i := 1562) (by decide +kernel), by decide +kernel⟩
theorem wg_1564 : Cond.instanceMethod yX9_pays ∈ lw_good := List.mem_filter.mpr ⟨List.mem_of_getElem? (i := 1564) (by decide +kernel), by decide +kernel⟩
theorem wg_55 : Cond.selects RX9 yX9_pays yX9_pays ∈ lw_good := List.mem_filter.mpr ⟨List.mem_of_getElem? (i := 55) (by decide +kernel), by decide +kernel⟩
theorem wg_1561 : Cond.code yX9_arrives cX9_arrives 3 none ∈ lw_good := List.mem_filter.mpr ⟨List.mem_of_getElem? (i := 1561) (by decide +kernel), by decide +kernel⟩
theorem mi_X9_arrives : MI yX9_arrives cX9_arrives 3 none 1 := ⟨wg_1561, wg_74, by decide +kernel, by decide +kernel⟩
theorem wg_1558 : Cond.methodLink RX9 272 yX9_arrives ∈ lw_good := List.mem_filter.mpr ⟨List.mem_of_getElem? (i := 1558) (by decide +kernel), by decide +kernel⟩
theorem wg_1560 : Cond.instanceMethod yX9_arrives ∈ lw_good := List.mem_filter.mpr ⟨List.mem_of_getElem? (i := 1560) (by decide +kernel), by decide +kernel⟩
theorem wg_54 : Cond.selects RX9 yX9_arrives yX9_arrives ∈ lw_good := List.mem_filter.mpr ⟨List.mem_of_getElem? (i := 54) (by decide +kernel), by decide +kernel⟩
theorem wg_1557 : Cond.code yX9_ticks cX9_ticks 4 (some .int) ∈ lw_good := List.mem_filter.mpr ⟨List.mem_of_getElem? (i := 1557) (by decide +kernel), by decide +kernel⟩
theorem mi_X9_ticks : MI yX9_ticks cX9_ticks 4 (some .int) 0 := ⟨wg_1557, wg_74, by decide +kernel, by decide +kernel⟩
theorem wg_1554 : Cond.methodLink RX9 284 yX9_ticks ∈ lw_good := List.mem_filter.mpr ⟨List.mem_of_getElem? (i := 1554) (by decide +kernel), by decide +kernel⟩
theorem wg_1556 : Cond.instanceMethod yX9_ticks ∈ lw_good := List.mem_filter.mpr ⟨List.mem_of_getElem? (i := 1556) (by decide +kernel), by decide +kernel⟩
theorem wg_53 : Cond.selects RX9 yX9_ticks yX9_ticks ∈ lw_good := List.mem_filter.mpr ⟨List.mem_of_getElem? (i := 53) (by decide +kernel), by decide +kernel⟩
theorem wg_1629 : Cond.code yX9_goal cX9_goal 2 (some .int) ∈ lw_good := List.mem_filter.mpr ⟨List.mem_of_getElem? (i := 1629) (by decide +kernel), by decide +kernel⟩
theorem mi_X9_goal : MI yX9_goal cX9_goal 2 (some .int) 1 := ⟨wg_1629, wg_74, by decide +kernel, by decide +kernel⟩
theorem wg_1626 : Cond.methodLink RX9 297 yX9_goal ∈ lw_good := List.mem_filter.mpr ⟨List.mem_of_getElem? (i := 1626) (by decide +kernel), by decide +kernel⟩
theorem wg_1628 : Cond.instanceMethod yX9_goal ∈ lw_good := List.mem_filter.mpr ⟨List.mem_of_getElem? (i := 1628) (by decide +kernel), by decide +kernel⟩
theorem wg_64 : Cond.selects RX9 yX9_goal yX9_goal ∈ lw_good := List.mem_filter.mpr ⟨List.mem_of_getElem? (i := 64) (by decide +kernel), by decide +kernel⟩
