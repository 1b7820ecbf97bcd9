theorem wg_400 : Cond.fieldLink RX1 37 RX1 "clearAt" "I" ∈ lw_good := List.mem_filter.mpr ⟨List.mem_of_getElem? (i := 400) (by decide +kernel), by decide +kernel⟩
theorem fl_RX1_37 : FLk RX1 37 RX1 TX1 12 := FLk.link RX1 wg_400 rfl
theorem fi_2 : ∀ w ∈ u_ws RX1 TX1 13, w ∈ lw_good := fun w hw => List.mem_filter.mpr (by
  have h : (u_ws RX1 TX1 13).all (fun w => decide (w ∈ lw_tbl) && goodWord w) = true := by decide +kernel
  have h2 := List.all_eq_true.mp h w hw
  rw [Bool.and_eq_true, decide_eq_true_eq] at h2
  exact h2)
theorem fp_2 : FP 2 TX1 13 := ⟨by decide +kernel, by decide +kernel⟩
theorem fn_2 : vwCl[2]? = some (RX1, TX1, 13) ∧ clN 2 = 13 ∧ 2 < 20 ∧ (∀ w ∈ u_ws RX1 TX1 13, w ∈ lw_good) := ⟨rfl, rfl, by decide, fi_2⟩
theorem fd_2 : ∀ k, k < 13 → defaultValue (clT 2 k) = if refT (clT 2 k) = true then .null else .int 0 := by decide +kernel
theorem fo_2_12 : FO 2 12 RX1 TX1 13 := ⟨rfl, rfl, by decide, by decide, fi_2⟩
theorem wg_398 : Cond.fieldLink RX1 34 RX1 "holder" "I" ∈ lw_good := List.mem_filter.mpr ⟨List.mem_of_getElem? (i := 398) (by decide +kernel), by decide +kernel⟩
theorem fl_RX1_34 : FLk RX1 34 RX1 TX1 11 := FLk.link RX1 wg_398 rfl
theorem fo_2_11 : FO 2 11 RX1 TX1 13 := ⟨rfl, rfl, by decide, by decide, fi_2⟩
theorem wg_378 : Cond.methodLink RX1 3 objectInit ∈ lw_good := List.mem_filter.mpr ⟨List.mem_of_getElem? (i := 378) (by decide +kernel), by decide +kernel⟩
theorem wg_59 : Cond.instanceMethod objectInit ∈ lw_good := List.mem_filter.mpr ⟨List.mem_of_getElem? (i := 59) (by decide +kernel), by decide +kernel⟩
theorem wg_60 : Cond.code objectInit ⟨#[0xb1]⟩ 1 none ∈ lw_good := List.mem_filter.mpr ⟨List.mem_of_getElem? (i := 60) (by decide +kernel), by decide +kernel⟩
theorem wg_385 : Cond.fieldLink RX1 9 RX1 "wear" "I" ∈ lw_good := List.mem_filter.mpr ⟨List.mem_of_getElem? (i := 385) (by decide +kernel), by decide +kernel⟩
theorem fl_RX1_9 : FLk RX1 9 RX1 TX1 4 := FLk.link RX1 wg_385 rfl
theorem fo_2_4 : FO 2 4 RX1 TX1 13 := ⟨rfl, rfl, by decide, by decide, fi_2⟩
theorem wg_387 : Cond.fieldLink RX1 15 RX1 "failed" "Z" ∈ lw_good := List.mem_filter.mpr ⟨List.mem_of_getElem? (i := 387) (by decide +kernel), by decide +kernel⟩
theorem fl_RX1_15 : FLk RX1 15 RX1 TX1 5 := FLk.link RX1 wg_387 rfl
theorem fo_2_5 : FO 2 5 RX1 TX1 13 := ⟨rfl, rfl, by decide, by decide, fi_2⟩
theorem wg_389 : Cond.fieldLink RX1 19 RX1 "flagged" "Z" ∈ lw_good := List.mem_filter.mpr ⟨List.mem_of_getElem? (i := 389) (by decide +kernel), by decide +kernel⟩
theorem fl_RX1_19 : FLk RX1 19 RX1 TX1 6 := FLk.link RX1 wg_389 rfl
theorem fo_2_6 : FO 2 6 RX1 TX1 13 := ⟨rfl, rfl, by decide, by decide, fi_2⟩
theorem wg_391 : Cond.fieldLink RX1 22 RX1 "othersFrom" "I" ∈ lw_good := List.mem_filter.mpr ⟨List.mem_of_getElem? (i := 391) (by decide +kernel), by decide +kernel⟩
theorem fl_RX1_22 : FLk RX1 22 RX1 TX1 7 := FLk.link RX1 wg_391 rfl
theorem fo_2_7 : FO 2 7 RX1 TX1 13 := ⟨rfl, rfl, by decide, by decide, fi_2⟩
theorem wg_393 : Cond.fieldLink RX1 25 RX1 "othersTo" "I" ∈ lw_good := List.mem_filter.mpr ⟨List.mem_of_getElem? (i := 393) (by decide +kernel), by decide +kernel⟩
theorem fl_RX1_25 : FLk RX1 25 RX1 TX1 8 := FLk.link RX1 wg_393 rfl
theorem fo_2_8 : FO 2 8 RX1 TX1 13 := ⟨rfl, rfl, by decide, by decide, fi_2⟩
theorem wg_395 : Cond.fieldLink RX1 28 RX1 "closedUntil" "I" ∈ lw_good := List.mem_filter.mpr ⟨List.mem_of_getElem? (i := 395) (by decide +kernel), by decide +kernel⟩
theorem fl_RX1_28 : FLk RX1 28 RX1 TX1 9 := FLk.link RX1 wg_395 rfl
theorem fo_2_9 : FO 2 9 RX1 TX1 13 := ⟨rfl, rfl, by decide, by decide, fi_2⟩
theorem wg_397 : Cond.fieldLink RX1 31 RX1 "hasWrecks" "Z" ∈ lw_good := List.mem_filter.mpr ⟨List.mem_of_getElem? (i := 397) (by decide +kernel), by decide +kernel⟩
theorem fl_RX1_31 : FLk RX1 31 RX1 TX1 10 := FLk.link RX1 wg_397 rfl
theorem fo_2_10 : FO 2 10 RX1 TX1 13 := ⟨rfl, rfl, by decide, by decide, fi_2⟩
theorem wg_379 : Cond.fieldLink RX1 40 RX1 "first" "I" ∈ lw_good := List.mem_filter.mpr ⟨List.mem_of_getElem? (i := 379) (by decide +kernel), by decide +kernel⟩
theorem fl_RX1_40 : FLk RX1 40 RX1 TX1 0 := FLk.link RX1 wg_379 rfl
theorem fo_2_0 : FO 2 0 RX1 TX1 13 := ⟨rfl, rfl, by decide, by decide, fi_2⟩
theorem wg_380 : Cond.fieldLink RX1 43 RX1 "second" "I" ∈ lw_good := List.mem_filter.mpr ⟨List.mem_of_getElem? (i := 380) (by decide +kernel), by decide +kernel⟩
theorem fl_RX1_43 : FLk RX1 43 RX1 TX1 1 := FLk.link RX1 wg_380 rfl
theorem fo_2_1 : FO 2 1 RX1 TX1 13 := ⟨rfl, rfl, by decide, by decide, fi_2⟩
theorem wg_381 : Cond.fieldLink RX1 46 RX1 "minutes" "I" ∈ lw_good := List.mem_filter.mpr ⟨List.mem_of_getElem? (i := 381) (by decide +kernel), by decide +kernel⟩
theorem fl_RX1_46 : FLk RX1 46 RX1 TX1 2 := FLk.link RX1 wg_381 rfl
theorem fo_2_2 : FO 2 2 RX1 TX1 13 := ⟨rfl, rfl, by decide, by decide, fi_2⟩
theorem wg_383 : Cond.fieldLink RX1 49 RX1 "grade" "I" ∈ lw_good := List.mem_filter.mpr ⟨List.mem_of_getElem? (i := 383) (by decide +kernel), by decide +kernel⟩
theorem fl_RX1_49 : FLk RX1 49 RX1 TX1 3 := FLk.link RX1 wg_383 rfl
theorem fo_2_3 : FO 2 3 RX1 TX1 13 := ⟨rfl, rfl, by decide, by decide, fi_2⟩
theorem wg_96 : Cond.methodLink RX5 3 objectInit ∈ lw_good := List.mem_filter.mpr ⟨List.mem_of_getElem? (i := 96) (by decide +kernel), by decide +kernel⟩
theorem wg_98 : Cond.fieldLink RX5 9 RX5 "count" "I" ∈ lw_good := List.mem_filter.mpr ⟨List.mem_of_getElem? (i := 98) (by decide +kernel), by decide +kernel⟩
theorem fl_RX5_9 : FLk RX5 9 RX5 TX5 1 := FLk.link RX5 wg_98 rfl
theorem fi_6 : ∀ w ∈ u_ws RX5 TX5 2, w ∈ lw_good := fun w hw => List.mem_filter.mpr (by
  have h : (u_ws RX5 TX5 2).all (fun w => decide (w ∈ lw_tbl) && goodWord w) = true := by decide +kernel
  have h2 := List.all_eq_true.mp h w hw
  rw [Bool.and_eq_true, decide_eq_true_eq] at h2
  exact h2)
theorem fp_6 : FP 6 TX5 2 := ⟨by decide +kernel, by decide +kernel⟩
theorem fn_6 : vwCl[6]? = some (RX5, TX5, 2) ∧ clN 6 = 2 ∧ 6 < 20 ∧ (∀ w ∈ u_ws RX5 TX5 2, w ∈ lw_good) := ⟨rfl, rfl, by decide, fi_6⟩
theorem fd_6 : ∀ k, k < 2 → defaultValue (clT 6 k) = if refT (clT 6 k) = true then .null else .int 0 := by decide +kernel
theorem fo_6_1 : FO 6 1 RX5 TX5 2 := ⟨rfl, rfl, by decide, by decide, fi_6⟩
theorem wg_106 : Cond.arrayClass ClassFile.FieldType.int ∈ lw_good := List.mem_filter.mpr ⟨List.mem_of_getElem? (i := 106) (by decide +kernel), by decide +kernel⟩
theorem wg_97 : Cond.fieldLink RX5 15 RX5 "items" "[I" ∈ lw_good := List.mem_filter.mpr ⟨List.mem_of_getElem? (i := 97) (by decide +kernel), by decide +kernel⟩
theorem fl_RX5_15 : FLk RX5 15 RX5 TX5 0 := FLk.link RX5 wg_97 rfl
theorem fo_6_0 : FO 6 0 RX5 TX5 2 := ⟨rfl, rfl, by decide, by decide, fi_6⟩
theorem wg_603 : Cond.methodLink RX2 3 objectInit ∈ lw_good := List.mem_filter.mpr ⟨List.mem_of_getElem? (i := 603) (by decide +kernel), by decide +kernel⟩
theorem wg_609 : Cond.fieldLink RX2 9 RX2 "train" "I" ∈ lw_good := List.mem_filter.mpr ⟨List.mem_of_getElem? (i := 609) (by decide +kernel), by decide +kernel⟩
theorem fl_RX2_9 : FLk RX2 9 RX2 TX2 2 := FLk.link RX2 wg_609 rfl
theorem fi_3 : ∀ w ∈ u_ws RX2 TX2 5, w ∈ lw_good := fun w hw => List.mem_filter.mpr (by
  have h : (u_ws RX2 TX2 5).all (fun w => decide (w ∈ lw_tbl) && goodWord w) = true := by decide +kernel
  have h2 := List.all_eq_true.mp h w hw
  rw [Bool.and_eq_true, decide_eq_true_eq] at h2
  exact h2)
theorem fp_3 : FP 3 TX2 5 := ⟨by decide +kernel, by decide +kernel⟩
theorem fn_3 : vwCl[3]? = some (RX2, TX2, 5) ∧ clN 3 = 5 ∧ 3 < 20 ∧ (∀ w ∈ u_ws RX2 TX2 5, w ∈ lw_good) := ⟨rfl, rfl, by decide, fi_3⟩
theorem fd_3 : ∀ k, k < 5 → defaultValue (clT 3 k) = if refT (clT 3 k) = true then .null else .int 0 := by decide +kernel
theorem fo_3_2 : FO 3 2 RX2 TX2 5 := ⟨rfl, rfl, by decide, by decide, fi_3⟩
theorem wg_611 : Cond.fieldLink RX2 15 RX2 "bill" "I" ∈ lw_good := List.mem_filter.mpr ⟨List.mem_of_getElem? (i := 611) (by decide +kernel), by decide +kernel⟩
theorem fl_RX2_15 : FLk RX2 15 RX2 TX2 3 := FLk.link RX2 wg_611 rfl
theorem fo_3_3 : FO 3 3 RX2 TX2 5 := ⟨rfl, rfl, by decide, by decide, fi_3⟩
theorem wg_92 : Cond.instantiable RX5 2 ∈ lw_good := List.mem_filter.mpr ⟨List.mem_of_getElem? (i := 92) (by decide +kernel), by decide +kernel⟩
theorem wg_33 : Cond.initialized RX5 ∈ lw_good := List.mem_filter.mpr ⟨List.mem_of_getElem? (i := 33) (by decide +kernel), by decide +kernel⟩
theorem wg_604 : Cond.classLink RX2 18 RX5 ∈ lw_good := List.mem_filter.mpr ⟨List.mem_of_getElem? (i := 604) (by decide +kernel), by decide +kernel⟩
theorem wg_613 : Cond.fieldLink RX2 23 RX2 "papers" "LIronbark$Row;" ∈ lw_good := List.mem_filter.mpr ⟨List.mem_of_getElem? (i := 613) (by decide +kernel), by decide +kernel⟩
theorem fl_RX2_23 : FLk RX2 23 RX2 TX2 4 := FLk.link RX2 wg_613 rfl
theorem fo_3_4 : FO 3 4 RX2 TX2 5 := ⟨rfl, rfl, by decide, by decide, fi_3⟩
theorem wg_606 : Cond.fieldLink RX2 27 RX2 "home" "I" ∈ lw_good := List.mem_filter.mpr ⟨List.mem_of_getElem? (i := 606) (by decide +kernel), by decide +kernel⟩
theorem fl_RX2_27 : FLk RX2 27 RX2 TX2 0 := FLk.link RX2 wg_606 rfl
theorem fo_3_0 : FO 3 0 RX2 TX2 5 := ⟨rfl, rfl, by decide, by decide, fi_3⟩
theorem wg_607 : Cond.fieldLink RX2 30 RX2 "station" "I" ∈ lw_good := List.mem_filter.mpr ⟨List.mem_of_getElem? (i := 607) (by decide +kernel), by decide +kernel⟩
theorem fl_RX2_30 : FLk RX2 30 RX2 TX2 1 := FLk.link RX2 wg_607 rfl
theorem fo_3_1 : FO 3 1 RX2 TX2 5 := ⟨rfl, rfl, by decide, by decide, fi_3⟩
theorem wg_95 : Cond.code yX5_init cX5_init 2 none ∈ lw_good := List.mem_filter.mpr ⟨List.mem_of_getElem? (i := 95) (by decide +kernel), by decide +kernel⟩
theorem mi_X5_init : MI yX5_init cX5_init 2 none 1 := ⟨wg_95, wg_33, by decide +kernel, by decide +kernel⟩
theorem wg_605 : Cond.methodLink RX2 20 yX5_init ∈ lw_good := List.mem_filter.mpr ⟨List.mem_of_getElem? (i := 605) (by decide +kernel), by decide +kernel⟩
theorem wg_94 : Cond.instanceMethod yX5_init ∈ lw_good := List.mem_filter.mpr ⟨List.mem_of_getElem? (i := 94) (by decide +kernel), by decide +kernel⟩
theorem wg_480 : Cond.methodLink RJ7 304 yJ9_min_7cf53 ∈ lw_good := List.mem_filter.mpr ⟨List.mem_of_getElem? (i := 480) (by decide +kernel), by decide +kernel⟩
theorem wg_483 : Cond.methodLink RJ7 150 ⟨RJ10, "arraycopy", "(Ljava/lang/Object;ILjava/lang/Object;II)V"⟩ ∈ lw_good := List.mem_filter.mpr ⟨List.mem_of_getElem? (i := 483) (by decide +kernel), by decide +kernel⟩
theorem wg_635 : Cond.code yJ7_copyOf_59c91 cJ7_copyOf_59c91 3 (some (.array .int)) ∈ lw_good := List.mem_filter.mpr ⟨List.mem_of_getElem? (i := 635) (by decide +kernel), by decide +kernel⟩
theorem wg_36 : Cond.initialized RJ7 ∈ lw_good := List.mem_filter.mpr ⟨List.mem_of_getElem? (i := 36) (by decide +kernel), by decide +kernel⟩
theorem mi_J7_copyOf_59c91 : MI yJ7_copyOf_59c91 cJ7_copyOf_59c91 3 (some (.array .int)) 2 := ⟨wg_635, wg_36, by decide +kernel, by decide +kernel⟩
theorem wg_633 : Cond.methodLink RX5 19 yJ7_copyOf_59c91 ∈ lw_good := List.mem_filter.mpr ⟨List.mem_of_getElem? (i := 633) (by decide +kernel), by decide +kernel⟩
theorem wg_634 : Cond.static yJ7_copyOf_59c91 ∈ lw_good := List.mem_filter.mpr ⟨List.mem_of_getElem? (i := 634) (by decide +kernel), by decide +kernel⟩
theorem wg_632 : Cond.code yX5_append cX5_append 2 none ∈ lw_good := List.mem_filter.mpr ⟨List.mem_of_getElem? (i := 632) (by decide +kernel), by decide +kernel⟩
theorem mi_X5_append : MI yX5_append cX5_append 2 none 1 := ⟨wg_632, wg_33, by decide +kernel, by decide +kernel⟩
theorem wg_629 : Cond.methodLink RX2 33 yX5_append ∈ lw_good := List.mem_filter.mpr ⟨List.mem_of_getElem? (i := 629) (by decide +kernel), by decide +kernel⟩
theorem wg_630 : Cond.instanceMethod yX5_append ∈ lw_good := List.mem_filter.mpr ⟨List.mem_of_getElem? (i := 630) (by decide +kernel), by decide +kernel⟩
theorem wg_631 : Cond.selects RX5 yX5_append yX5_append ∈ lw_good := List.mem_filter.mpr ⟨List.mem_of_getElem? (i := 631) (by decide +kernel), by decide +kernel⟩
theorem wg_550 : Cond.methodLink RX3 3 objectInit ∈ lw_good := List.mem_filter.mpr ⟨List.mem_of_getElem? (i := 550) (by decide +kernel), by decide +kernel⟩
theorem wg_553 : Cond.fieldLink RX3 9 RX3 "train" "I" ∈ lw_good := List.mem_filter.mpr ⟨List.mem_of_getElem? (i := 553) (by decide +kernel), by decide +kernel⟩
theorem fl_RX3_9 : FLk RX3 9 RX3 TX3 1 := FLk.link RX3 wg_553 rfl
theorem fi_4 : ∀ w ∈ u_ws RX3 TX3 5, w ∈ lw_good := fun w hw => List.mem_filter.mpr (by
  have h : (u_ws RX3 TX3 5).all (fun w => decide (w ∈ lw_tbl) && goodWord w) = true := by decide +kernel
  have h2 := List.all_eq_true.mp h w hw
  rw [Bool.and_eq_true, decide_eq_true_eq] at h2
  exact h2)
theorem fp_4 : FP 4 TX3 5 := ⟨by decide +kernel, by decide +kernel⟩
theorem fn_4 : vwCl[4]? = some (RX3, TX3, 5) ∧ clN 4 = 5 ∧ 4 < 20 ∧ (∀ w ∈ u_ws RX3 TX3 5, w ∈ lw_good) := ⟨rfl, rfl, by decide, fi_4⟩
theorem fd_4 : ∀ k, k < 5 → defaultValue (clT 4 k) = if refT (clT 4 k) = true then .null else .int 0 := by decide +kernel
theorem fo_4_1 : FO 4 1 RX3 TX3 5 := ⟨rfl, rfl, by decide, by decide, fi_4⟩
theorem wg_555 : Cond.fieldLink RX3 15 RX3 "known" "I" ∈ lw_good := List.mem_filter.mpr ⟨List.mem_of_getElem? (i := 555) (by decide +kernel), by decide +kernel⟩
theorem fl_RX3_15 : FLk RX3 15 RX3 TX3 2 := FLk.link RX3 wg_555 rfl
theorem fo_4_2 : FO 4 2 RX3 TX3 5 := ⟨rfl, rfl, by decide, by decide, fi_4⟩
theorem wg_557 : Cond.fieldLink RX3 18 RX3 "duty" "I" ∈ lw_good := List.mem_filter.mpr ⟨List.mem_of_getElem? (i := 557) (by decide +kernel), by decide +kernel⟩
theorem fl_RX3_18 : FLk RX3 18 RX3 TX3 3 := FLk.link RX3 wg_557 rfl
theorem fo_4_3 : FO 4 3 RX3 TX3 5 := ⟨rfl, rfl, by decide, by decide, fi_4⟩
theorem wg_559 : Cond.fieldLink RX3 21 RX3 "restEnd" "I" ∈ lw_good := List.mem_filter.mpr ⟨List.mem_of_getElem? (i := 559) (by decide +kernel), by decide +kernel⟩
theorem fl_RX3_21 : FLk RX3 21 RX3 TX3 4 := FLk.link RX3 wg_559 rfl
theorem fo_4_4 : FO 4 4 RX3 TX3 5 := ⟨rfl, rfl, by decide, by decide, fi_4⟩
theorem wg_551 : Cond.fieldLink RX3 24 RX3 "station" "I" ∈ lw_good := List.mem_filter.mpr ⟨List.mem_of_getElem? (i := 551) (by decide +kernel), by decide +kernel⟩
theorem fl_RX3_24 : FLk RX3 24 RX3 TX3 0 := FLk.link RX3 wg_551 rfl
theorem fo_4_0 : FO 4 0 RX3 TX3 5 := ⟨rfl, rfl, by decide, by decide, fi_4⟩
theorem wg_527 : Cond.methodLink RX4 3 objectInit ∈ lw_good := List.mem_filter.mpr ⟨List.mem_of_getElem? (i := 527) (by decide +kernel), by decide +kernel⟩
theorem wg_532 : Cond.fieldLink RX4 9 RX4 "train" "I" ∈ lw_good := List.mem_filter.mpr ⟨List.mem_of_getElem? (i := 532) (by decide +kernel), by decide +kernel⟩
theorem fl_RX4_9 : FLk RX4 9 RX4 TX4 2 := FLk.link RX4 wg_532 rfl
theorem fi_5 : ∀ w ∈ u_ws RX4 TX4 3, w ∈ lw_good := fun w hw => List.mem_filter.mpr (by
  have h : (u_ws RX4 TX4 3).all (fun w => decide (w ∈ lw_tbl) && goodWord w) = true := by decide +kernel
  have h2 := List.all_eq_true.mp h w hw
  rw [Bool.and_eq_true, decide_eq_true_eq] at h2
  exact h2)
theorem fp_5 : FP 5 TX4 3 := ⟨by decide +kernel, by decide +kernel⟩
theorem fn_5 : vwCl[5]? = some (RX4, TX4, 3) ∧ clN 5 = 3 ∧ 5 < 20 ∧ (∀ w ∈ u_ws RX4 TX4 3, w ∈ lw_good) := ⟨rfl, rfl, by decide, fi_5⟩
theorem fd_5 : ∀ k, k < 3 → defaultValue (clT 5 k) = if refT (clT 5 k) = true then .null else .int 0 := by decide +kernel
theorem fo_5_2 : FO 5 2 RX4 TX4 3 := ⟨rfl, rfl, by decide, by decide, fi_5⟩
theorem wg_530 : Cond.fieldLink RX4 15 RX4 "station" "I" ∈ lw_good := List.mem_filter.mpr ⟨List.mem_of_getElem? (i := 530) (by decide +kernel), by decide +kernel⟩
theorem fl_RX4_15 : FLk RX4 15 RX4 TX4 1 := FLk.link RX4 wg_530 rfl
theorem fo_5_1 : FO 5 1 RX4 TX4 3 := ⟨rfl, rfl, by decide, by decide, fi_5⟩
theorem wg_528 : Cond.fieldLink RX4 18 RX4 "power" "I" ∈ lw_good := List.mem_filter.mpr ⟨List.mem_of_getElem? (i := 528) (by decide +kernel), by decide +kernel⟩
theorem fl_RX4_18 : FLk RX4 18 RX4 TX4 0 := FLk.link RX4 wg_528 rfl
theorem fo_5_0 : FO 5 0 RX4 TX4 3 := ⟨rfl, rfl, by decide, by decide, fi_5⟩
theorem wg_793 : Cond.code yX5_empty cX5_empty 1 none ∈ lw_good := List.mem_filter.mpr ⟨List.mem_of_getElem? (i := 793) (by decide +kernel), by decide +kernel⟩
theorem mi_X5_empty : MI yX5_empty cX5_empty 1 none 0 := ⟨wg_793, wg_33, by decide +kernel, by decide +kernel⟩
theorem wg_808 : Cond.methodLink RX5 25 yX5_empty ∈ lw_good := List.mem_filter.mpr ⟨List.mem_of_getElem? (i := 808) (by decide +kernel), by decide +kernel⟩
theorem wg_791 : Cond.instanceMethod yX5_empty ∈ lw_good := List.mem_filter.mpr ⟨List.mem_of_getElem? (i := 791) (by decide +kernel), by decide +kernel⟩
theorem wg_792 : Cond.selects RX5 yX5_empty yX5_empty ∈ lw_good := List.mem_filter.mpr ⟨List.mem_of_getElem? (i := 792) (by decide +kernel), by decide +kernel⟩
theorem wg_810 : Cond.methodLink RX5 32 yX5_append ∈ lw_good := List.mem_filter.mpr ⟨List.mem_of_getElem? (i := 810) (by decide +kernel), by decide +kernel⟩
theorem wg_684 : Cond.code yX5_at cX5_at 2 (some .int) ∈ lw_good := List.mem_filter.mpr ⟨List.mem_of_getElem? (i := 684) (by decide +kernel), by decide +kernel⟩
theorem mi_X5_at : MI yX5_at cX5_at 2 (some .int) 1 := ⟨wg_684, wg_33, by decide +kernel, by decide +kernel⟩
theorem wg_809 : Cond.methodLink RX5 28 yX5_at ∈ lw_good := List.mem_filter.mpr ⟨List.mem_of_getElem? (i := 809) (by decide +kernel), by decide +kernel⟩
theorem wg_682 : Cond.instanceMethod yX5_at ∈ lw_good := List.mem_filter.mpr ⟨List.mem_of_getElem? (i := 682) (by decide +kernel), by decide +kernel⟩
theorem wg_683 : Cond.selects RX5 yX5_at yX5_at ∈ lw_good := List.mem_filter.mpr ⟨List.mem_of_getElem? (i := 683) (by decide +kernel), by decide +kernel⟩
theorem wg_111 : Cond.methodLink RX6 1 objectInit ∈ lw_good := List.mem_filter.mpr ⟨List.mem_of_getElem? (i := 111) (by decide +kernel), by decide +kernel⟩
theorem wg_114 : Cond.fieldLink RX6 7 RX6 "tracks" "I" ∈ lw_good := List.mem_filter.mpr ⟨List.mem_of_getElem? (i := 114) (by decide +kernel), by decide +kernel⟩
theorem fl_RX6_7 : FLk RX6 7 RX6 TX6 0 := FLk.link RX6 wg_114 rfl
theorem fi_7 : ∀ w ∈ u_ws RX6 TX6 2, w ∈ lw_good := fun w hw => List.mem_filter.mpr (by
  have h : (u_ws RX6 TX6 2).all (fun w => decide (w ∈ lw_tbl) && goodWord w) = true := by decide +kernel
  have h2 := List.all_eq_true.mp h w hw
  rw [Bool.and_eq_true, decide_eq_true_eq] at h2
  exact h2)
theorem fp_7 : FP 7 TX6 2 := ⟨by decide +kernel, by decide +kernel⟩
theorem fn_7 : vwCl[7]? = some (RX6, TX6, 2) ∧ clN 7 = 2 ∧ 7 < 20 ∧ (∀ w ∈ u_ws RX6 TX6 2, w ∈ lw_good) := ⟨rfl, rfl, by decide, fi_7⟩
theorem fd_7 : ∀ k, k < 2 → defaultValue (clT 7 k) = if refT (clT 7 k) = true then .null else .int 0 := by decide +kernel
theorem fo_7_0 : FO 7 0 RX6 TX6 2 := ⟨rfl, rfl, by decide, by decide, fi_7⟩
theorem wg_112 : Cond.classLink RX6 13 RX5 ∈ lw_good := List.mem_filter.mpr ⟨List.mem_of_getElem? (i := 112) (by decide +kernel), by decide +kernel⟩
theorem wg_116 : Cond.fieldLink RX6 18 RX6 "yard" "LIronbark$Row;" ∈ lw_good := List.mem_filter.mpr ⟨List.mem_of_getElem? (i := 116) (by decide +kernel), by decide +kernel⟩
theorem fl_RX6_18 : FLk RX6 18 RX6 TX6 1 := FLk.link RX6 wg_116 rfl
theorem fo_7_1 : FO 7 1 RX6 TX6 2 := ⟨rfl, rfl, by decide, by decide, fi_7⟩
theorem wg_113 : Cond.methodLink RX6 15 yX5_init ∈ lw_good := List.mem_filter.mpr ⟨List.mem_of_getElem? (i := 113) (by decide +kernel), by decide +kernel⟩
theorem wg_132 : Cond.fieldLink RX7 9 RX7 "state" "I" ∈ lw_good := List.mem_filter.mpr ⟨List.mem_of_getElem? (i := 132) (by decide +kernel), by decide +kernel⟩
theorem fl_RX7_9 : FLk RX7 9 RX7 TX7 1 := FLk.link RX7 wg_132 rfl
theorem fi_8 : ∀ w ∈ u_ws RX7 TX7 17, w ∈ lw_good := fun w hw => List.mem_filter.mpr (by
  have h : (u_ws RX7 TX7 17).all (fun w => decide (w ∈ lw_tbl) && goodWord w) = true := by decide +kernel
  have h2 := List.all_eq_true.mp h w hw
  rw [Bool.and_eq_true, decide_eq_true_eq] at h2
  exact h2)
theorem fp_8 : FP 8 TX7 17 := ⟨by decide +kernel, by decide +kernel⟩
theorem fn_8 : vwCl[8]? = some (RX7, TX7, 17) ∧ clN 8 = 17 ∧ 8 < 20 ∧ (∀ w ∈ u_ws RX7 TX7 17, w ∈ lw_good) := ⟨rfl, rfl, by decide, fi_8⟩
theorem fd_8 : ∀ k, k < 17 → defaultValue (clT 8 k) = if refT (clT 8 k) = true then .null else .int 0 := by decide +kernel
theorem fo_8_1 : FO 8 1 RX7 TX7 17 := ⟨rfl, rfl, by decide, by decide, fi_8⟩
theorem wg_161 : Cond.fieldLink RX7 63 RX7 "clearAt" "[I" ∈ lw_good := List.mem_filter.mpr ⟨List.mem_of_getElem? (i := 161) (by decide +kernel), by decide +kernel⟩
theorem fl_RX7_63 : FLk RX7 63 RX7 TX7 16 := FLk.link RX7 wg_161 rfl
theorem fo_8_16 : FO 8 16 RX7 TX7 17 := ⟨rfl, rfl, by decide, by decide, fi_8⟩
theorem wg_141 : Cond.fieldLink RX7 27 RX7 "block" "I" ∈ lw_good := List.mem_filter.mpr ⟨List.mem_of_getElem? (i := 141) (by decide +kernel), by decide +kernel⟩
theorem fl_RX7_27 : FLk RX7 27 RX7 TX7 6 := FLk.link RX7 wg_141 rfl
theorem fo_8_6 : FO 8 6 RX7 TX7 17 := ⟨rfl, rfl, by decide, by decide, fi_8⟩
theorem wg_127 : Cond.methodLink RX7 3 objectInit ∈ lw_good := List.mem_filter.mpr ⟨List.mem_of_getElem? (i := 127) (by decide +kernel), by decide +kernel⟩
theorem wg_134 : Cond.fieldLink RX7 15 RX7 "engine" "I" ∈ lw_good := List.mem_filter.mpr ⟨List.mem_of_getElem? (i := 134) (by decide +kernel), by decide +kernel⟩
theorem fl_RX7_15 : FLk RX7 15 RX7 TX7 2 := FLk.link RX7 wg_134 rfl
theorem fo_8_2 : FO 8 2 RX7 TX7 17 := ⟨rfl, rfl, by decide, by decide, fi_8⟩
theorem wg_135 : Cond.fieldLink RX7 18 RX7 "crew" "I" ∈ lw_good := List.mem_filter.mpr ⟨List.mem_of_getElem? (i := 135) (by decide +kernel), by decide +kernel⟩
theorem fl_RX7_18 : FLk RX7 18 RX7 TX7 3 := FLk.link RX7 wg_135 rfl
theorem fo_8_3 : FO 8 3 RX7 TX7 17 := ⟨rfl, rfl, by decide, by decide, fi_8⟩
theorem wg_137 : Cond.fieldLink RX7 21 RX7 "power" "I" ∈ lw_good := List.mem_filter.mpr ⟨List.mem_of_getElem? (i := 137) (by decide +kernel), by decide +kernel⟩
theorem fl_RX7_21 : FLk RX7 21 RX7 TX7 4 := FLk.link RX7 wg_137 rfl
theorem fo_8_4 : FO 8 4 RX7 TX7 17 := ⟨rfl, rfl, by decide, by decide, fi_8⟩
theorem wg_139 : Cond.fieldLink RX7 24 RX7 "station" "I" ∈ lw_good := List.mem_filter.mpr ⟨List.mem_of_getElem? (i := 139) (by decide +kernel), by decide +kernel⟩
theorem fl_RX7_24 : FLk RX7 24 RX7 TX7 5 := FLk.link RX7 wg_139 rfl
theorem fo_8_5 : FO 8 5 RX7 TX7 17 := ⟨rfl, rfl, by decide, by decide, fi_8⟩
theorem wg_143 : Cond.fieldLink RX7 30 RX7 "arrival" "I" ∈ lw_good := List.mem_filter.mpr ⟨List.mem_of_getElem? (i := 143) (by decide +kernel), by decide +kernel⟩
theorem fl_RX7_30 : FLk RX7 30 RX7 TX7 7 := FLk.link RX7 wg_143 rfl
theorem fo_8_7 : FO 8 7 RX7 TX7 17 := ⟨rfl, rfl, by decide, by decide, fi_8⟩
theorem wg_145 : Cond.fieldLink RX7 33 RX7 "weight" "I" ∈ lw_good := List.mem_filter.mpr ⟨List.mem_of_getElem? (i := 145) (by decide +kernel), by decide +kernel⟩
theorem fl_RX7_33 : FLk RX7 33 RX7 TX7 8 := FLk.link RX7 wg_145 rfl
theorem fo_8_8 : FO 8 8 RX7 TX7 17 := ⟨rfl, rfl, by decide, by decide, fi_8⟩
theorem wg_128 : Cond.classLink RX7 36 RX5 ∈ lw_good := List.mem_filter.mpr ⟨List.mem_of_getElem? (i := 128) (by decide +kernel), by decide +kernel⟩
theorem wg_147 : Cond.fieldLink RX7 41 RX7 "cars" "LIronbark$Row;" ∈ lw_good := List.mem_filter.mpr ⟨List.mem_of_getElem? (i := 147) (by decide +kernel), by decide +kernel⟩
theorem fl_RX7_41 : FLk RX7 41 RX7 TX7 9 := FLk.link RX7 wg_147 rfl
theorem fo_8_9 : FO 8 9 RX7 TX7 17 := ⟨rfl, rfl, by decide, by decide, fi_8⟩
theorem wg_129 : Cond.methodLink RX7 38 yX5_init ∈ lw_good := List.mem_filter.mpr ⟨List.mem_of_getElem? (i := 129) (by decide +kernel), by decide +kernel⟩
theorem wg_149 : Cond.fieldLink RX7 45 RX7 "way" "LIronbark$Row;" ∈ lw_good := List.mem_filter.mpr ⟨List.mem_of_getElem? (i := 149) (by decide +kernel), by decide +kernel⟩
theorem fl_RX7_45 : FLk RX7 45 RX7 TX7 10 := FLk.link RX7 wg_149 rfl
theorem fo_8_10 : FO 8 10 RX7 TX7 17 := ⟨rfl, rfl, by decide, by decide, fi_8⟩
theorem wg_151 : Cond.fieldLink RX7 48 RX7 "entered" "I" ∈ lw_good := List.mem_filter.mpr ⟨List.mem_of_getElem? (i := 151) (by decide +kernel), by decide +kernel⟩
theorem fl_RX7_48 : FLk RX7 48 RX7 TX7 11 := FLk.link RX7 wg_151 rfl
theorem fo_8_11 : FO 8 11 RX7 TX7 17 := ⟨rfl, rfl, by decide, by decide, fi_8⟩
theorem wg_153 : Cond.fieldLink RX7 51 RX7 "minute" "I" ∈ lw_good := List.mem_filter.mpr ⟨List.mem_of_getElem? (i := 153) (by decide +kernel), by decide +kernel⟩
theorem fl_RX7_51 : FLk RX7 51 RX7 TX7 12 := FLk.link RX7 wg_153 rfl
theorem fo_8_12 : FO 8 12 RX7 TX7 17 := ⟨rfl, rfl, by decide, by decide, fi_8⟩
theorem wg_155 : Cond.fieldLink RX7 54 RX7 "rank" "I" ∈ lw_good := List.mem_filter.mpr ⟨List.mem_of_getElem? (i := 155) (by decide +kernel), by decide +kernel⟩
theorem fl_RX7_54 : FLk RX7 54 RX7 TX7 13 := FLk.link RX7 wg_155 rfl
theorem fo_8_13 : FO 8 13 RX7 TX7 17 := ⟨rfl, rfl, by decide, by decide, fi_8⟩
theorem wg_157 : Cond.fieldLink RX7 57 RX7 "awaited" "I" ∈ lw_good := List.mem_filter.mpr ⟨List.mem_of_getElem? (i := 157) (by decide +kernel), by decide +kernel⟩
theorem fl_RX7_57 : FLk RX7 57 RX7 TX7 14 := FLk.link RX7 wg_157 rfl
theorem fo_8_14 : FO 8 14 RX7 TX7 17 := ⟨rfl, rfl, by decide, by decide, fi_8⟩
theorem wg_159 : Cond.fieldLink RX7 60 RX7 "awaitedAt" "I" ∈ lw_good := List.mem_filter.mpr ⟨List.mem_of_getElem? (i := 159) (by decide +kernel), by decide +kernel⟩
theorem fl_RX7_60 : FLk RX7 60 RX7 TX7 15 := FLk.link RX7 wg_159 rfl
theorem fo_8_15 : FO 8 15 RX7 TX7 17 := ⟨rfl, rfl, by decide, by decide, fi_8⟩
theorem wg_130 : Cond.fieldLink RX7 67 RX7 "number" "I" ∈ lw_good := List.mem_filter.mpr ⟨List.mem_of_getElem? (i := 130) (by decide +kernel), by decide +kernel⟩
theorem fl_RX7_67 : FLk RX7 67 RX7 TX7 0 := FLk.link RX7 wg_130 rfl
theorem fo_8_0 : FO 8 0 RX7 TX7 17 := ⟨rfl, rfl, by decide, by decide, fi_8⟩
theorem wt_99 : Cond.fieldLinkNest RX7 83 RX5 "count" "I" RX8 ∈ lw_tbl := List.mem_of_getElem? (i := 99) (by decide +kernel)
theorem fl_RX7_83 : FLk RX7 83 RX5 TX5 1 := FLk.nest RX8 wt_99 (by decide +kernel)
theorem wg_681 : Cond.methodLink RX7 79 yX5_at ∈ lw_good := List.mem_filter.mpr ⟨List.mem_of_getElem? (i := 681) (by decide +kernel), by decide +kernel⟩
theorem wg_199 : Cond.code yJ7_fill_53178 cJ7_fill_53178 4 none ∈ lw_good := List.mem_filter.mpr ⟨List.mem_of_getElem? (i := 199) (by decide +kernel), by decide +kernel⟩
theorem mi_J7_fill_53178 : MI yJ7_fill_53178 cJ7_fill_53178 4 none 2 := ⟨wg_199, wg_36, by decide +kernel, by decide +kernel⟩
theorem wg_794 : Cond.methodLink RX7 73 yJ7_fill_53178 ∈ lw_good := List.mem_filter.mpr ⟨List.mem_of_getElem? (i := 794) (by decide +kernel), by decide +kernel⟩
theorem wg_198 : Cond.static yJ7_fill_53178 ∈ lw_good := List.mem_filter.mpr ⟨List.mem_of_getElem? (i := 198) (by decide +kernel), by decide +kernel⟩
theorem wg_790 : Cond.methodLink RX7 70 yX5_empty ∈ lw_good := List.mem_filter.mpr ⟨List.mem_of_getElem? (i := 790) (by decide +kernel), by decide +kernel⟩
theorem wg_78 : Cond.fieldLink RJx4a65c 48 RJx4a65c "size" "I" ∈ lw_good := List.mem_filter.mpr ⟨List.mem_of_getElem? (i := 78) (by decide +kernel), by decide +kernel⟩
theorem fl_RJx4a65c_48 : FLk RJx4a65c 48 RJx4a65c TJx4a65c 2 := FLk.link RJx4a65c wg_78 rfl
theorem fi_0 : ∀ w ∈ u_ws RJx4a65c TJx4a65c 3, w ∈ lw_good := fun w hw => List.mem_filter.mpr (by
  have h : (u_ws RJx4a65c TJx4a65c 3).all (fun w => decide (w ∈ lw_tbl) && goodWord w) = true := by decide +kernel
  have h2 := List.all_eq_true.mp h w hw
  rw [Bool.and_eq_true, decide_eq_true_eq] at h2
  exact h2)
theorem fp_0 : FP 0 TJx4a65c 3 := ⟨by decide +kernel, by decide +kernel⟩
theorem fn_0 : vwCl[0]? = some (RJx4a65c, TJx4a65c, 3) ∧ clN 0 = 3 ∧ 0 < 20 ∧ (∀ w ∈ u_ws RJx4a65c TJx4a65c 3, w ∈ lw_good) := ⟨rfl, rfl, by decide, fi_0⟩
theorem fd_0 : ∀ k, k < 3 → defaultValue (clT 0 k) = if refT (clT 0 k) = true then .null else .int 0 := by decide +kernel
theorem fo_0_2 : FO 0 2 RJx4a65c TJx4a65c 3 := ⟨rfl, rfl, by decide, by decide, fi_0⟩
theorem wg_40 : Cond.initialized "java/lang/IndexOutOfBoundsException" ∈ lw_good := List.mem_filter.mpr ⟨List.mem_of_getElem? (i := 40) (by decide +kernel), by decide +kernel⟩
theorem at_402_406 : ∀ w ∈ vx_atS RX8 406 "java/lang/IndexOutOfBoundsException" ["java/lang/RuntimeException", "java/lang/Exception"], w ∈ lw_tbl ∧ (goodWord w || (isNw w && w.onTables)) = true := fun w hw => by
  have h : (vx_atS RX8 406 "java/lang/IndexOutOfBoundsException" ["java/lang/RuntimeException", "java/lang/Exception"]).all (fun w => decide (w ∈ lw_tbl) && (goodWord w || (isNw w && w.onTables))) = true := by decide +kernel
  have h2 := List.all_eq_true.mp h w hw
  rw [Bool.and_eq_true, decide_eq_true_eq] at h2
  exact h2
theorem au_402_406 : ∀ w ∈ Cond.classLink RX8 402 "java/lang/IndexOutOfBoundsException" :: Cond.initialized "java/lang/IndexOutOfBoundsException" :: vx_atS RX8 406 "java/lang/IndexOutOfBoundsException" ["java/lang/RuntimeException", "java/lang/Exception"], vx_ot w = true := by decide +kernel
theorem wg_260 : Cond.classLink RX8 402 "java/lang/IndexOutOfBoundsException" ∈ lw_good := List.mem_filter.mpr ⟨List.mem_of_getElem? (i := 260) (by decide +kernel), by decide +kernel⟩
theorem wg_505 : Cond.code yJ3_checkIndex_8e157 cJ3_checkIndex_8e157 3 (some .int) ∈ lw_good := List.mem_filter.mpr ⟨List.mem_of_getElem? (i := 505) (by decide +kernel), by decide +kernel⟩
theorem wg_50 : Cond.initialized RJ3 ∈ lw_good := List.mem_filter.mpr ⟨List.mem_of_getElem? (i := 50) (by decide +kernel), by decide +kernel⟩
theorem mi_J3_checkIndex_8e157 : MI yJ3_checkIndex_8e157 cJ3_checkIndex_8e157 3 (some .int) 3 := ⟨wg_505, wg_50, by decide +kernel, by decide +kernel⟩
theorem wg_503 : Cond.methodLink RJ15 105 yJ3_checkIndex_8e157 ∈ lw_good := List.mem_filter.mpr ⟨List.mem_of_getElem? (i := 503) (by decide +kernel), by decide +kernel⟩
theorem wg_504 : Cond.static yJ3_checkIndex_8e157 ∈ lw_good := List.mem_filter.mpr ⟨List.mem_of_getElem? (i := 504) (by decide +kernel), by decide +kernel⟩
theorem wg_77 : Cond.fieldLink RJx4a65c 9 RJx4a65c "elementData" "[Ljava/lang/Object;" ∈ lw_good := List.mem_filter.mpr ⟨List.mem_of_getElem? (i := 77) (by decide +kernel), by decide +kernel⟩
theorem fl_RJx4a65c_9 : FLk RJx4a65c 9 RJx4a65c TJx4a65c 1 := FLk.link RJx4a65c wg_77 rfl
theorem fo_0_1 : FO 0 1 RJx4a65c TJx4a65c 3 := ⟨rfl, rfl, by decide, by decide, fi_0⟩
theorem wg_509 : Cond.code yJx4a65c_elementData_915e3 cJx4a65c_elementData_915e3 2 (some (.object "java/lang/Object")) ∈ lw_good := List.mem_filter.mpr ⟨List.mem_of_getElem? (i := 509) (by decide +kernel), by decide +kernel⟩
theorem wg_32 : Cond.initialized RJx4a65c ∈ lw_good := List.mem_filter.mpr ⟨List.mem_of_getElem? (i := 32) (by decide +kernel), by decide +kernel⟩
theorem mi_Jx4a65c_elementData_915e3 : MI yJx4a65c_elementData_915e3 cJx4a65c_elementData_915e3 2 (some (.object "java/lang/Object")) 1 := ⟨wg_509, wg_32, by decide +kernel, by decide +kernel⟩
theorem wg_506 : Cond.methodLink RJx4a65c 123 yJx4a65c_elementData_915e3 ∈ lw_good := List.mem_filter.mpr ⟨List.mem_of_getElem? (i := 506) (by decide +kernel), by decide +kernel⟩
theorem wg_507 : Cond.instanceMethod yJx4a65c_elementData_915e3 ∈ lw_good := List.mem_filter.mpr ⟨List.mem_of_getElem? (i := 507) (by decide +kernel), by decide +kernel⟩
theorem wg_508 : Cond.selects RJx4a65c yJx4a65c_elementData_915e3 yJx4a65c_elementData_915e3 ∈ lw_good := List.mem_filter.mpr ⟨List.mem_of_getElem? (i := 508) (by decide +kernel), by decide +kernel⟩
theorem wg_502 : Cond.code yJ15_checkIndex_7cf53 cJ15_checkIndex_7cf53 2 (some .int) ∈ lw_good := List.mem_filter.mpr ⟨List.mem_of_getElem? (i := 502) (by decide +kernel), by decide +kernel⟩
theorem wg_49 : Cond.initialized RJ15 ∈ lw_good := List.mem_filter.mpr ⟨List.mem_of_getElem? (i := 49) (by decide +kernel), by decide +kernel⟩
theorem mi_J15_checkIndex_7cf53 : MI yJ15_checkIndex_7cf53 cJ15_checkIndex_7cf53 2 (some .int) 2 := ⟨wg_502, wg_49, by decide +kernel, by decide +kernel⟩
theorem wg_500 : Cond.methodLink RJx4a65c 118 yJ15_checkIndex_7cf53 ∈ lw_good := List.mem_filter.mpr ⟨List.mem_of_getElem? (i := 500) (by decide +kernel), by decide +kernel⟩
theorem wg_501 : Cond.static yJ15_checkIndex_7cf53 ∈ lw_good := List.mem_filter.mpr ⟨List.mem_of_getElem? (i := 501) (by decide +kernel), by decide +kernel⟩
theorem wg_201 : Cond.fieldLink RX8 18 RX8 "blocks" "Ljava/util/ArrayList;" ∈ lw_good := List.mem_filter.mpr ⟨List.mem_of_getElem? (i := 201) (by decide +kernel), by decide +kernel⟩
theorem fl_RX8_18 : FLk RX8 18 RX8 TX8 1 := FLk.link RX8 wg_201 rfl
theorem fi_9 : ∀ w ∈ u_ws RX8 TX8 16, w ∈ lw_good := fun w hw => List.mem_filter.mpr (by
  have h : (u_ws RX8 TX8 16).all (fun w => decide (w ∈ lw_tbl) && goodWord w) = true := by decide +kernel
  have h2 := List.all_eq_true.mp h w hw
  rw [Bool.and_eq_true, decide_eq_true_eq] at h2
  exact h2)
theorem fp_9 : FP 9 TX8 16 := ⟨by decide +kernel, by decide +kernel⟩
theorem fn_9 : vwCl[9]? = some (RX8, TX8, 16) ∧ clN 9 = 16 ∧ 9 < 20 ∧ (∀ w ∈ u_ws RX8 TX8 16, w ∈ lw_good) := ⟨rfl, rfl, by decide, fi_9⟩
theorem fd_9 : ∀ k, k < 16 → defaultValue (clT 9 k) = if refT (clT 9 k) = true then .null else .int 0 := by decide +kernel
theorem fo_9_1 : FO 9 1 RX8 TX8 16 := ⟨rfl, rfl, by decide, by decide, fi_9⟩
theorem wg_373 : Cond.classLink RX8 112 RX1 ∈ lw_good := List.mem_filter.mpr ⟨List.mem_of_getElem? (i := 373) (by decide +kernel), by decide +kernel⟩
theorem wg_499 : Cond.code yJx4a65c_get_915e3 cJx4a65c_get_915e3 2 (some (.object "java/lang/Object")) ∈ lw_good := List.mem_filter.mpr ⟨List.mem_of_getElem? (i := 499) (by decide +kernel), by decide +kernel⟩
theorem mi_Jx4a65c_get_915e3 : MI yJx4a65c_get_915e3 cJx4a65c_get_915e3 2 (some (.object "java/lang/Object")) 1 := ⟨wg_499, wg_32, by decide +kernel, by decide +kernel⟩
theorem wg_496 : Cond.methodLink RX8 411 yJx4a65c_get_915e3 ∈ lw_good := List.mem_filter.mpr ⟨List.mem_of_getElem? (i := 496) (by decide +kernel), by decide +kernel⟩
theorem wg_497 : Cond.instanceMethod yJx4a65c_get_915e3 ∈ lw_good := List.mem_filter.mpr ⟨List.mem_of_getElem? (i := 497) (by decide +kernel), by decide +kernel⟩
theorem wg_498 : Cond.selects RJx4a65c yJx4a65c_get_915e3 yJx4a65c_get_915e3 ∈ lw_good := List.mem_filter.mpr ⟨List.mem_of_getElem? (i := 498) (by decide +kernel), by decide +kernel⟩
theorem wg_259 : Cond.code yX8_requireIndex cX8_requireIndex 2 none ∈ lw_good := List.mem_filter.mpr ⟨List.mem_of_getElem? (i := 259) (by decide +kernel), by decide +kernel⟩
theorem wg_29 : Cond.initialized RX8 ∈ lw_good := List.mem_filter.mpr ⟨List.mem_of_getElem? (i := 29) (by decide +kernel), by decide +kernel⟩
theorem mi_X8_requireIndex : MI yX8_requireIndex cX8_requireIndex 2 none 2 := ⟨wg_259, wg_29, by decide +kernel, by decide +kernel⟩
theorem wg_257 : Cond.methodLink RX8 365 yX8_requireIndex ∈ lw_good := List.mem_filter.mpr ⟨List.mem_of_getElem? (i := 257) (by decide +kernel), by decide +kernel⟩
theorem wg_258 : Cond.static yX8_requireIndex ∈ lw_good := List.mem_filter.mpr ⟨List.mem_of_getElem? (i := 258) (by decide +kernel), by decide +kernel⟩
theorem wg_353 : Cond.code yJx4a65c_size_8abf5 cJx4a65c_size_8abf5 1 (some .int) ∈ lw_good := List.mem_filter.mpr ⟨List.mem_of_getElem? (i := 353) (by decide +kernel), by decide +kernel⟩
theorem mi_Jx4a65c_size_8abf5 : MI yJx4a65c_size_8abf5 cJx4a65c_size_8abf5 1 (some .int) 0 := ⟨wg_353, wg_32, by decide +kernel, by decide +kernel⟩
theorem wg_350 : Cond.methodLink RX8 108 yJx4a65c_size_8abf5 ∈ lw_good := List.mem_filter.mpr ⟨List.mem_of_getElem? (i := 350) (by decide +kernel), by decide +kernel⟩
theorem wg_351 : Cond.instanceMethod yJx4a65c_size_8abf5 ∈ lw_good := List.mem_filter.mpr ⟨List.mem_of_getElem? (i := 351) (by decide +kernel), by decide +kernel⟩
theorem wg_352 : Cond.selects RJx4a65c yJx4a65c_size_8abf5 yJx4a65c_size_8abf5 ∈ lw_good := List.mem_filter.mpr ⟨List.mem_of_getElem? (i := 352) (by decide +kernel), by decide +kernel⟩
theorem wt_142 : Cond.fieldLinkNest RX8 322 RX7 "block" "I" RX8 ∈ lw_tbl := List.mem_of_getElem? (i := 142) (by decide +kernel)
theorem fl_RX8_322 : FLk RX8 322 RX7 TX7 6 := FLk.nest RX8 wt_142 (by decide +kernel)
theorem wt_386 : Cond.fieldLinkNest RX8 145 RX1 "wear" "I" RX8 ∈ lw_tbl := List.mem_of_getElem? (i := 386) (by decide +kernel)
theorem fl_RX8_145 : FLk RX8 145 RX1 TX1 4 := FLk.nest RX8 wt_386 (by decide +kernel)
theorem wt_148 : Cond.fieldLinkNest RX8 228 RX7 "cars" "LIronbark$Row;" RX8 ∈ lw_tbl := List.mem_of_getElem? (i := 148) (by decide +kernel)
theorem fl_RX8_228 : FLk RX8 228 RX7 TX7 9 := FLk.nest RX8 wt_148 (by decide +kernel)
theorem wt_100 : Cond.fieldLinkNest RX8 230 RX5 "count" "I" RX8 ∈ lw_tbl := List.mem_of_getElem? (i := 100) (by decide +kernel)
theorem fl_RX8_230 : FLk RX8 230 RX5 TX5 1 := FLk.nest RX8 wt_100 (by decide +kernel)
theorem wg_212 : Cond.fieldLink RX8 62 RX8 "now" "I" ∈ lw_good := List.mem_filter.mpr ⟨List.mem_of_getElem? (i := 212) (by decide +kernel), by decide +kernel⟩
theorem fl_RX8_62 : FLk RX8 62 RX8 TX8 12 := FLk.link RX8 wg_212 rfl
theorem fo_9_12 : FO 9 12 RX8 TX8 16 := ⟨rfl, rfl, by decide, by decide, fi_9⟩
theorem wt_133 : Cond.fieldLinkNest RX8 277 RX7 "state" "I" RX8 ∈ lw_tbl := List.mem_of_getElem? (i := 133) (by decide +kernel)
theorem fl_RX8_277 : FLk RX8 277 RX7 TX7 1 := FLk.nest RX8 wt_133 (by decide +kernel)
theorem wg_680 : Cond.code yX7_nextBlock cX7_nextBlock 1 (some .int) ∈ lw_good := List.mem_filter.mpr ⟨List.mem_of_getElem? (i := 680) (by decide +kernel), by decide +kernel⟩
theorem wg_35 : Cond.initialized RX7 ∈ lw_good := List.mem_filter.mpr ⟨List.mem_of_getElem? (i := 35) (by decide +kernel), by decide +kernel⟩
theorem mi_X7_nextBlock : MI yX7_nextBlock cX7_nextBlock 1 (some .int) 0 := ⟨wg_680, wg_35, by decide +kernel, by decide +kernel⟩
theorem wg_677 : Cond.methodLink RX8 301 yX7_nextBlock ∈ lw_good := List.mem_filter.mpr ⟨List.mem_of_getElem? (i := 677) (by decide +kernel), by decide +kernel⟩
theorem wg_678 : Cond.instanceMethod yX7_nextBlock ∈ lw_good := List.mem_filter.mpr ⟨List.mem_of_getElem? (i := 678) (by decide +kernel), by decide +kernel⟩
theorem wg_679 : Cond.selects RX7 yX7_nextBlock yX7_nextBlock ∈ lw_good := List.mem_filter.mpr ⟨List.mem_of_getElem? (i := 679) (by decide +kernel), by decide +kernel⟩
theorem wg_676 : Cond.code yX7_notClear cX7_notClear 3 none ∈ lw_good := List.mem_filter.mpr ⟨List.mem_of_getElem? (i := 676) (by decide +kernel), by decide +kernel⟩
theorem mi_X7_notClear : MI yX7_notClear cX7_notClear 3 none 2 := ⟨wg_676, wg_35, by decide +kernel, by decide +kernel⟩
theorem wg_673 : Cond.methodLink RX8 454 yX7_notClear ∈ lw_good := List.mem_filter.mpr ⟨List.mem_of_getElem? (i := 673) (by decide +kernel), by decide +kernel⟩
theorem wg_674 : Cond.instanceMethod yX7_notClear ∈ lw_good := List.mem_filter.mpr ⟨List.mem_of_getElem? (i := 674) (by decide +kernel), by decide +kernel⟩
theorem wg_675 : Cond.selects RX7 yX7_notClear yX7_notClear ∈ lw_good := List.mem_filter.mpr ⟨List.mem_of_getElem? (i := 675) (by decide +kernel), by decide +kernel⟩
theorem wg_672 : Cond.code yX7_minutesToClear cX7_minutesToClear 1 (some .int) ∈ lw_good := List.mem_filter.mpr ⟨List.mem_of_getElem? (i := 672) (by decide +kernel), by decide +kernel⟩
theorem mi_X7_minutesToClear : MI yX7_minutesToClear cX7_minutesToClear 1 (some .int) 0 := ⟨wg_672, wg_35, by decide +kernel, by decide +kernel⟩
theorem wg_669 : Cond.methodLink RX8 451 yX7_minutesToClear ∈ lw_good := List.mem_filter.mpr ⟨List.mem_of_getElem? (i := 669) (by decide +kernel), by decide +kernel⟩
theorem wg_670 : Cond.instanceMethod yX7_minutesToClear ∈ lw_good := List.mem_filter.mpr ⟨List.mem_of_getElem? (i := 670) (by decide +kernel), by decide +kernel⟩
theorem wg_671 : Cond.selects RX7 yX7_minutesToClear yX7_minutesToClear ∈ lw_good := List.mem_filter.mpr ⟨List.mem_of_getElem? (i := 671) (by decide +kernel), by decide +kernel⟩
theorem wg_495 : Cond.code yX8_blockOf cX8_blockOf 2 (some (.object "Ironbark$Block")) ∈ lw_good := List.mem_filter.mpr ⟨List.mem_of_getElem? (i := 495) (by decide +kernel), by decide +kernel⟩
theorem mi_X8_blockOf : MI yX8_blockOf cX8_blockOf 2 (some (.object "Ironbark$Block")) 1 := ⟨wg_495, wg_29, by decide +kernel, by decide +kernel⟩
theorem wg_492 : Cond.methodLink RX8 121 yX8_blockOf ∈ lw_good := List.mem_filter.mpr ⟨List.mem_of_getElem? (i := 492) (by decide +kernel), by decide +kernel⟩
theorem wg_494 : Cond.instanceMethod yX8_blockOf ∈ lw_good := List.mem_filter.mpr ⟨List.mem_of_getElem? (i := 494) (by decide +kernel), by decide +kernel⟩
theorem wg_5 : Cond.selects RX8 yX8_blockOf yX8_blockOf ∈ lw_good := List.mem_filter.mpr ⟨List.mem_of_getElem? (i := 5) (by decide +kernel), by decide +kernel⟩
theorem wg_206 : Cond.fieldLink RX8 36 RX8 "trains" "[LIronbark$Train;" ∈ lw_good := List.mem_filter.mpr ⟨List.mem_of_getElem? (i := 206) (by decide +kernel), by decide +kernel⟩
theorem fl_RX8_36 : FLk RX8 36 RX8 TX8 6 := FLk.link RX8 wg_206 rfl
theorem fo_9_6 : FO 9 6 RX8 TX8 16 := ⟨rfl, rfl, by decide, by decide, fi_9⟩
theorem wt_144 : Cond.fieldLinkNest RX8 368 RX7 "arrival" "I" RX8 ∈ lw_tbl := List.mem_of_getElem? (i := 144) (by decide +kernel)
theorem fl_RX8_368 : FLk RX8 368 RX7 TX7 7 := FLk.nest RX8 wt_144 (by decide +kernel)
theorem wg_668 : Cond.code yX8_arrive cX8_arrive 2 none ∈ lw_good := List.mem_filter.mpr ⟨List.mem_of_getElem? (i := 668) (by decide +kernel), by decide +kernel⟩
theorem mi_X8_arrive : MI yX8_arrive cX8_arrive 2 none 1 := ⟨wg_668, wg_29, by decide +kernel, by decide +kernel⟩
theorem wg_665 : Cond.methodLink RX8 447 yX8_arrive ∈ lw_good := List.mem_filter.mpr ⟨List.mem_of_getElem? (i := 665) (by decide +kernel), by decide +kernel⟩
theorem wg_667 : Cond.instanceMethod yX8_arrive ∈ lw_good := List.mem_filter.mpr ⟨List.mem_of_getElem? (i := 667) (by decide +kernel), by decide +kernel⟩
theorem wg_12 : Cond.selects RX8 yX8_arrive yX8_arrive ∈ lw_good := List.mem_filter.mpr ⟨List.mem_of_getElem? (i := 12) (by decide +kernel), by decide +kernel⟩
theorem wg_655 : Cond.code yX8_requireTrain cX8_requireTrain 2 none ∈ lw_good := List.mem_filter.mpr ⟨List.mem_of_getElem? (i := 655) (by decide +kernel), by decide +kernel⟩
theorem mi_X8_requireTrain : MI yX8_requireTrain cX8_requireTrain 2 none 1 := ⟨wg_655, wg_29, by decide +kernel, by decide +kernel⟩
theorem wg_652 : Cond.methodLink RX8 283 yX8_requireTrain ∈ lw_good := List.mem_filter.mpr ⟨List.mem_of_getElem? (i := 652) (by decide +kernel), by decide +kernel⟩
theorem wg_654 : Cond.instanceMethod yX8_requireTrain ∈ lw_good := List.mem_filter.mpr ⟨List.mem_of_getElem? (i := 654) (by decide +kernel), by decide +kernel⟩
theorem wg_10 : Cond.selects RX8 yX8_requireTrain yX8_requireTrain ∈ lw_good := List.mem_filter.mpr ⟨List.mem_of_getElem? (i := 10) (by decide +kernel), by decide +kernel⟩
theorem wg_200 : Cond.fieldLink RX8 11 RX8 "stations" "[LIronbark$Station;" ∈ lw_good := List.mem_filter.mpr ⟨List.mem_of_getElem? (i := 200) (by decide +kernel), by decide +kernel⟩
theorem fl_RX8_11 : FLk RX8 11 RX8 TX8 0 := FLk.link RX8 wg_200 rfl
theorem fo_9_0 : FO 9 0 RX8 TX8 16 := ⟨rfl, rfl, by decide, by decide, fi_9⟩
theorem wg_42 : Cond.initialized "java/lang/IllegalStateException" ∈ lw_good := List.mem_filter.mpr ⟨List.mem_of_getElem? (i := 42) (by decide +kernel), by decide +kernel⟩
theorem at_397_401 : ∀ w ∈ vx_atS RX8 401 "java/lang/IllegalStateException" ["java/lang/RuntimeException", "java/lang/Exception"], w ∈ lw_tbl ∧ (goodWord w || (isNw w && w.onTables)) = true := fun w hw => by
  have h : (vx_atS RX8 401 "java/lang/IllegalStateException" ["java/lang/RuntimeException", "java/lang/Exception"]).all (fun w => decide (w ∈ lw_tbl) && (goodWord w || (isNw w && w.onTables))) = true := by decide +kernel
  have h2 := List.all_eq_true.mp h w hw
  rw [Bool.and_eq_true, decide_eq_true_eq] at h2
  exact h2
theorem au_397_401 : ∀ w ∈ Cond.classLink RX8 397 "java/lang/IllegalStateException" :: Cond.initialized "java/lang/IllegalStateException" :: vx_atS RX8 401 "java/lang/IllegalStateException" ["java/lang/RuntimeException", "java/lang/Exception"], vx_ot w = true := by decide +kernel
theorem wg_357 : Cond.classLink RX8 397 "java/lang/IllegalStateException" ∈ lw_good := List.mem_filter.mpr ⟨List.mem_of_getElem? (i := 357) (by decide +kernel), by decide +kernel⟩
theorem wg_651 : Cond.code yX8_trainOf cX8_trainOf 2 (some (.object "Ironbark$Train")) ∈ lw_good := List.mem_filter.mpr ⟨List.mem_of_getElem? (i := 651) (by decide +kernel), by decide +kernel⟩
theorem mi_X8_trainOf : MI yX8_trainOf cX8_trainOf 2 (some (.object "Ironbark$Train")) 1 := ⟨wg_651, wg_29, by decide +kernel, by decide +kernel⟩
theorem wg_648 : Cond.methodLink RX8 180 yX8_trainOf ∈ lw_good := List.mem_filter.mpr ⟨List.mem_of_getElem? (i := 648) (by decide +kernel), by decide +kernel⟩
theorem wg_650 : Cond.instanceMethod yX8_trainOf ∈ lw_good := List.mem_filter.mpr ⟨List.mem_of_getElem? (i := 650) (by decide +kernel), by decide +kernel⟩
theorem wg_9 : Cond.selects RX8 yX8_trainOf yX8_trainOf ∈ lw_good := List.mem_filter.mpr ⟨List.mem_of_getElem? (i := 9) (by decide +kernel), by decide +kernel⟩
theorem wg_256 : Cond.code yX8_requireStation cX8_requireStation 2 none ∈ lw_good := List.mem_filter.mpr ⟨List.mem_of_getElem? (i := 256) (by decide +kernel), by decide +kernel⟩
theorem mi_X8_requireStation : MI yX8_requireStation cX8_requireStation 2 none 1 := ⟨wg_256, wg_29, by decide +kernel, by decide +kernel⟩
theorem wg_253 : Cond.methodLink RX8 102 yX8_requireStation ∈ lw_good := List.mem_filter.mpr ⟨List.mem_of_getElem? (i := 253) (by decide +kernel), by decide +kernel⟩
theorem wg_255 : Cond.instanceMethod yX8_requireStation ∈ lw_good := List.mem_filter.mpr ⟨List.mem_of_getElem? (i := 255) (by decide +kernel), by decide +kernel⟩
theorem wg_0 : Cond.selects RX8 yX8_requireStation yX8_requireStation ∈ lw_good := List.mem_filter.mpr ⟨List.mem_of_getElem? (i := 0) (by decide +kernel), by decide +kernel⟩
theorem wt_158 : Cond.fieldLinkNest RX8 286 RX7 "awaited" "I" RX8 ∈ lw_tbl := List.mem_of_getElem? (i := 158) (by decide +kernel)
theorem fl_RX8_286 : FLk RX8 286 RX7 TX7 14 := FLk.nest RX8 wt_158 (by decide +kernel)
theorem wt_160 : Cond.fieldLinkNest RX8 289 RX7 "awaitedAt" "I" RX8 ∈ lw_tbl := List.mem_of_getElem? (i := 160) (by decide +kernel)
theorem fl_RX8_289 : FLk RX8 289 RX7 TX7 15 := FLk.nest RX8 wt_160 (by decide +kernel)
theorem wg_356 : Cond.code yX8_requireState cX8_requireState 1 none ∈ lw_good := List.mem_filter.mpr ⟨List.mem_of_getElem? (i := 356) (by decide +kernel), by decide +kernel⟩
theorem mi_X8_requireState : MI yX8_requireState cX8_requireState 1 none 1 := ⟨wg_356, wg_29, by decide +kernel, by decide +kernel⟩
theorem wg_354 : Cond.methodLink RX8 95 yX8_requireState ∈ lw_good := List.mem_filter.mpr ⟨List.mem_of_getElem? (i := 354) (by decide +kernel), by decide +kernel⟩
theorem wg_355 : Cond.static yX8_requireState ∈ lw_good := List.mem_filter.mpr ⟨List.mem_of_getElem? (i := 355) (by decide +kernel), by decide +kernel⟩
theorem wt_140 : Cond.fieldLinkNest RX8 236 RX7 "station" "I" RX8 ∈ lw_tbl := List.mem_of_getElem? (i := 140) (by decide +kernel)
theorem fl_RX8_236 : FLk RX8 236 RX7 TX7 5 := FLk.nest RX8 wt_140 (by decide +kernel)
theorem wg_717 : Cond.code yX7_stands cX7_stands 1 (some .boolean) ∈ lw_good := List.mem_filter.mpr ⟨List.mem_of_getElem? (i := 717) (by decide +kernel), by decide +kernel⟩
theorem mi_X7_stands : MI yX7_stands cX7_stands 1 (some .boolean) 0 := ⟨wg_717, wg_35, by decide +kernel, by decide +kernel⟩
theorem wg_714 : Cond.methodLink RX8 184 yX7_stands ∈ lw_good := List.mem_filter.mpr ⟨List.mem_of_getElem? (i := 714) (by decide +kernel), by decide +kernel⟩
theorem wg_715 : Cond.instanceMethod yX7_stands ∈ lw_good := List.mem_filter.mpr ⟨List.mem_of_getElem? (i := 715) (by decide +kernel), by decide +kernel⟩
theorem wg_716 : Cond.selects RX7 yX7_stands yX7_stands ∈ lw_good := List.mem_filter.mpr ⟨List.mem_of_getElem? (i := 716) (by decide +kernel), by decide +kernel⟩
theorem wt_152 : Cond.fieldLinkNest RX8 268 RX7 "entered" "I" RX8 ∈ lw_tbl := List.mem_of_getElem? (i := 152) (by decide +kernel)
theorem fl_RX8_268 : FLk RX8 268 RX7 TX7 11 := FLk.nest RX8 wt_152 (by decide +kernel)
theorem wt_154 : Cond.fieldLinkNest RX8 271 RX7 "minute" "I" RX8 ∈ lw_tbl := List.mem_of_getElem? (i := 154) (by decide +kernel)
theorem fl_RX8_271 : FLk RX8 271 RX7 TX7 12 := FLk.nest RX8 wt_154 (by decide +kernel)
theorem wt_388 : Cond.fieldLinkNest RX8 125 RX1 "failed" "Z" RX8 ∈ lw_tbl := List.mem_of_getElem? (i := 388) (by decide +kernel)
theorem fl_RX8_125 : FLk RX8 125 RX1 TX1 5 := FLk.nest RX8 wt_388 (by decide +kernel)
theorem wt_390 : Cond.fieldLinkNest RX8 129 RX1 "flagged" "Z" RX8 ∈ lw_tbl := List.mem_of_getElem? (i := 390) (by decide +kernel)
theorem fl_RX8_129 : FLk RX8 129 RX1 TX1 6 := FLk.nest RX8 wt_390 (by decide +kernel)
theorem wg_725 : Cond.code yX1_isClosedAt cX1_isClosedAt 2 (some .boolean) ∈ lw_good := List.mem_filter.mpr ⟨List.mem_of_getElem? (i := 725) (by decide +kernel), by decide +kernel⟩
theorem wg_43 : Cond.initialized RX1 ∈ lw_good := List.mem_filter.mpr ⟨List.mem_of_getElem? (i := 43) (by decide +kernel), by decide +kernel⟩
theorem mi_X1_isClosedAt : MI yX1_isClosedAt cX1_isClosedAt 2 (some .boolean) 1 := ⟨wg_725, wg_43, by decide +kernel, by decide +kernel⟩
theorem wg_722 : Cond.methodLink RX8 141 yX1_isClosedAt ∈ lw_good := List.mem_filter.mpr ⟨List.mem_of_getElem? (i := 722) (by decide +kernel), by decide +kernel⟩
theorem wg_723 : Cond.instanceMethod yX1_isClosedAt ∈ lw_good := List.mem_filter.mpr ⟨List.mem_of_getElem? (i := 723) (by decide +kernel), by decide +kernel⟩
theorem wg_724 : Cond.selects RX1 yX1_isClosedAt yX1_isClosedAt ∈ lw_good := List.mem_filter.mpr ⟨List.mem_of_getElem? (i := 724) (by decide +kernel), by decide +kernel⟩
theorem wg_721 : Cond.code yX1_holderAt cX1_holderAt 2 (some .int) ∈ lw_good := List.mem_filter.mpr ⟨List.mem_of_getElem? (i := 721) (by decide +kernel), by decide +kernel⟩
theorem mi_X1_holderAt : MI yX1_holderAt cX1_holderAt 2 (some .int) 1 := ⟨wg_721, wg_43, by decide +kernel, by decide +kernel⟩
theorem wg_718 : Cond.methodLink RX8 138 yX1_holderAt ∈ lw_good := List.mem_filter.mpr ⟨List.mem_of_getElem? (i := 718) (by decide +kernel), by decide +kernel⟩
theorem wg_719 : Cond.instanceMethod yX1_holderAt ∈ lw_good := List.mem_filter.mpr ⟨List.mem_of_getElem? (i := 719) (by decide +kernel), by decide +kernel⟩
theorem wg_720 : Cond.selects RX1 yX1_holderAt yX1_holderAt ∈ lw_good := List.mem_filter.mpr ⟨List.mem_of_getElem? (i := 720) (by decide +kernel), by decide +kernel⟩
theorem wg_713 : Cond.code yX8_isWaiting cX8_isWaiting 3 (some .boolean) ∈ lw_good := List.mem_filter.mpr ⟨List.mem_of_getElem? (i := 713) (by decide +kernel), by decide +kernel⟩
theorem mi_X8_isWaiting : MI yX8_isWaiting cX8_isWaiting 3 (some .boolean) 1 := ⟨wg_713, wg_29, by decide +kernel, by decide +kernel⟩
theorem wg_710 : Cond.methodLink RX8 475 yX8_isWaiting ∈ lw_good := List.mem_filter.mpr ⟨List.mem_of_getElem? (i := 710) (by decide +kernel), by decide +kernel⟩
theorem wg_712 : Cond.instanceMethod yX8_isWaiting ∈ lw_good := List.mem_filter.mpr ⟨List.mem_of_getElem? (i := 712) (by decide +kernel), by decide +kernel⟩
theorem wg_19 : Cond.selects RX8 yX8_isWaiting yX8_isWaiting ∈ lw_good := List.mem_filter.mpr ⟨List.mem_of_getElem? (i := 19) (by decide +kernel), by decide +kernel⟩
theorem wt_382 : Cond.fieldLinkNest RX8 438 RX1 "minutes" "I" RX8 ∈ lw_tbl := List.mem_of_getElem? (i := 382) (by decide +kernel)
theorem fl_RX8_438 : FLk RX8 438 RX1 TX1 2 := FLk.nest RX8 wt_382 (by decide +kernel)
theorem wt_138 : Cond.fieldLinkNest RX8 482 RX7 "power" "I" RX8 ∈ lw_tbl := List.mem_of_getElem? (i := 138) (by decide +kernel)
theorem fl_RX8_482 : FLk RX8 482 RX7 TX7 4 := FLk.nest RX8 wt_138 (by decide +kernel)
theorem wt_146 : Cond.fieldLinkNest RX8 250 RX7 "weight" "I" RX8 ∈ lw_tbl := List.mem_of_getElem? (i := 146) (by decide +kernel)
theorem fl_RX8_250 : FLk RX8 250 RX7 TX7 8 := FLk.nest RX8 wt_146 (by decide +kernel)
theorem wg_203 : Cond.fieldLink RX8 25 RX8 "crews" "Ljava/util/ArrayList;" ∈ lw_good := List.mem_filter.mpr ⟨List.mem_of_getElem? (i := 203) (by decide +kernel), by decide +kernel⟩
theorem fl_RX8_25 : FLk RX8 25 RX8 TX8 3 := FLk.link RX8 wg_203 rfl
theorem fo_9_3 : FO 9 3 RX8 TX8 16 := ⟨rfl, rfl, by decide, by decide, fi_9⟩
theorem wg_545 : Cond.classLink RX8 156 RX3 ∈ lw_good := List.mem_filter.mpr ⟨List.mem_of_getElem? (i := 545) (by decide +kernel), by decide +kernel⟩
theorem wg_756 : Cond.code yX7_takesTrackAt cX7_takesTrackAt 2 (some .boolean) ∈ lw_good := List.mem_filter.mpr ⟨List.mem_of_getElem? (i := 756) (by decide +kernel), by decide +kernel⟩
theorem mi_X7_takesTrackAt : MI yX7_takesTrackAt cX7_takesTrackAt 2 (some .boolean) 1 := ⟨wg_756, wg_35, by decide +kernel, by decide +kernel⟩
theorem wg_753 : Cond.methodLink RX8 415 yX7_takesTrackAt ∈ lw_good := List.mem_filter.mpr ⟨List.mem_of_getElem? (i := 753) (by decide +kernel), by decide +kernel⟩
theorem wg_754 : Cond.instanceMethod yX7_takesTrackAt ∈ lw_good := List.mem_filter.mpr ⟨List.mem_of_getElem? (i := 754) (by decide +kernel), by decide +kernel⟩
theorem wg_755 : Cond.selects RX7 yX7_takesTrackAt yX7_takesTrackAt ∈ lw_good := List.mem_filter.mpr ⟨List.mem_of_getElem? (i := 755) (by decide +kernel), by decide +kernel⟩
theorem wt_115 : Cond.fieldLinkNest RX8 99 RX6 "tracks" "I" RX8 ∈ lw_tbl := List.mem_of_getElem? (i := 115) (by decide +kernel)
theorem fl_RX8_99 : FLk RX8 99 RX6 TX6 0 := FLk.nest RX8 wt_115 (by decide +kernel)
theorem wg_752 : Cond.code yX8_takenTracks cX8_takenTracks 4 (some .int) ∈ lw_good := List.mem_filter.mpr ⟨List.mem_of_getElem? (i := 752) (by decide +kernel), by decide +kernel⟩
theorem mi_X8_takenTracks : MI yX8_takenTracks cX8_takenTracks 4 (some .int) 1 := ⟨wg_752, wg_29, by decide +kernel, by decide +kernel⟩
theorem wg_749 : Cond.methodLink RX8 91 yX8_takenTracks ∈ lw_good := List.mem_filter.mpr ⟨List.mem_of_getElem? (i := 749) (by decide +kernel), by decide +kernel⟩
theorem wg_751 : Cond.instanceMethod yX8_takenTracks ∈ lw_good := List.mem_filter.mpr ⟨List.mem_of_getElem? (i := 751) (by decide +kernel), by decide +kernel⟩
theorem wg_22 : Cond.selects RX8 yX8_takenTracks yX8_takenTracks ∈ lw_good := List.mem_filter.mpr ⟨List.mem_of_getElem? (i := 22) (by decide +kernel), by decide +kernel⟩
theorem wg_597 : Cond.code yX8_stationOf cX8_stationOf 2 (some (.object "Ironbark$Station")) ∈ lw_good := List.mem_filter.mpr ⟨List.mem_of_getElem? (i := 597) (by decide +kernel), by decide +kernel⟩
theorem mi_X8_stationOf : MI yX8_stationOf cX8_stationOf 2 (some (.object "Ironbark$Station")) 1 := ⟨wg_597, wg_29, by decide +kernel, by decide +kernel⟩
theorem wg_594 : Cond.methodLink RX8 83 yX8_stationOf ∈ lw_good := List.mem_filter.mpr ⟨List.mem_of_getElem? (i := 594) (by decide +kernel), by decide +kernel⟩
theorem wg_596 : Cond.instanceMethod yX8_stationOf ∈ lw_good := List.mem_filter.mpr ⟨List.mem_of_getElem? (i := 596) (by decide +kernel), by decide +kernel⟩
theorem wg_8 : Cond.selects RX8 yX8_stationOf yX8_stationOf ∈ lw_good := List.mem_filter.mpr ⟨List.mem_of_getElem? (i := 8) (by decide +kernel), by decide +kernel⟩
theorem wt_384 : Cond.fieldLinkNest RX8 483 RX1 "grade" "I" RX8 ∈ lw_tbl := List.mem_of_getElem? (i := 384) (by decide +kernel)
theorem fl_RX8_483 : FLk RX8 483 RX1 TX1 3 := FLk.nest RX8 wt_384 (by decide +kernel)
theorem wt_136 : Cond.fieldLinkNest RX8 421 RX7 "crew" "I" RX8 ∈ lw_tbl := List.mem_of_getElem? (i := 136) (by decide +kernel)
theorem fl_RX8_421 : FLk RX8 421 RX7 TX7 3 := FLk.nest RX8 wt_136 (by decide +kernel)
theorem wt_556 : Cond.fieldLinkNest RX8 166 RX3 "known" "I" RX8 ∈ lw_tbl := List.mem_of_getElem? (i := 556) (by decide +kernel)
theorem fl_RX8_166 : FLk RX8 166 RX3 TX3 2 := FLk.nest RX8 wt_556 (by decide +kernel)
theorem wt_558 : Cond.fieldLinkNest RX8 188 RX3 "duty" "I" RX8 ∈ lw_tbl := List.mem_of_getElem? (i := 558) (by decide +kernel)
theorem fl_RX8_188 : FLk RX8 188 RX3 TX3 3 := FLk.nest RX8 wt_558 (by decide +kernel)
theorem wg_748 : Cond.code yX8_freeTracksAt cX8_freeTracksAt 2 (some .int) ∈ lw_good := List.mem_filter.mpr ⟨List.mem_of_getElem? (i := 748) (by decide +kernel), by decide +kernel⟩
theorem mi_X8_freeTracksAt : MI yX8_freeTracksAt cX8_freeTracksAt 2 (some .int) 1 := ⟨wg_748, wg_29, by decide +kernel, by decide +kernel⟩
theorem wg_745 : Cond.methodLink RX8 216 yX8_freeTracksAt ∈ lw_good := List.mem_filter.mpr ⟨List.mem_of_getElem? (i := 745) (by decide +kernel), by decide +kernel⟩
theorem wg_747 : Cond.instanceMethod yX8_freeTracksAt ∈ lw_good := List.mem_filter.mpr ⟨List.mem_of_getElem? (i := 747) (by decide +kernel), by decide +kernel⟩
theorem wg_21 : Cond.selects RX8 yX8_freeTracksAt yX8_freeTracksAt ∈ lw_good := List.mem_filter.mpr ⟨List.mem_of_getElem? (i := 21) (by decide +kernel), by decide +kernel⟩
theorem wg_744 : Cond.code yX1_otherEnd cX1_otherEnd 2 (some .int) ∈ lw_good := List.mem_filter.mpr ⟨List.mem_of_getElem? (i := 744) (by decide +kernel), by decide +kernel⟩
theorem mi_X1_otherEnd : MI yX1_otherEnd cX1_otherEnd 2 (some .int) 1 := ⟨wg_744, wg_43, by decide +kernel, by decide +kernel⟩
theorem wg_741 : Cond.methodLink RX8 427 yX1_otherEnd ∈ lw_good := List.mem_filter.mpr ⟨List.mem_of_getElem? (i := 741) (by decide +kernel), by decide +kernel⟩
theorem wg_742 : Cond.instanceMethod yX1_otherEnd ∈ lw_good := List.mem_filter.mpr ⟨List.mem_of_getElem? (i := 742) (by decide +kernel), by decide +kernel⟩
theorem wg_743 : Cond.selects RX1 yX1_otherEnd yX1_otherEnd ∈ lw_good := List.mem_filter.mpr ⟨List.mem_of_getElem? (i := 743) (by decide +kernel), by decide +kernel⟩
theorem wg_740 : Cond.code yX3_isRestingAt cX3_isRestingAt 2 (some .boolean) ∈ lw_good := List.mem_filter.mpr ⟨List.mem_of_getElem? (i := 740) (by decide +kernel), by decide +kernel⟩
theorem wg_48 : Cond.initialized RX3 ∈ lw_good := List.mem_filter.mpr ⟨List.mem_of_getElem? (i := 48) (by decide +kernel), by decide +kernel⟩
theorem mi_X3_isRestingAt : MI yX3_isRestingAt cX3_isRestingAt 2 (some .boolean) 1 := ⟨wg_740, wg_48, by decide +kernel, by decide +kernel⟩
theorem wg_737 : Cond.methodLink RX8 174 yX3_isRestingAt ∈ lw_good := List.mem_filter.mpr ⟨List.mem_of_getElem? (i := 737) (by decide +kernel), by decide +kernel⟩
theorem wg_738 : Cond.instanceMethod yX3_isRestingAt ∈ lw_good := List.mem_filter.mpr ⟨List.mem_of_getElem? (i := 738) (by decide +kernel), by decide +kernel⟩
theorem wg_739 : Cond.selects RX3 yX3_isRestingAt yX3_isRestingAt ∈ lw_good := List.mem_filter.mpr ⟨List.mem_of_getElem? (i := 739) (by decide +kernel), by decide +kernel⟩
theorem wg_579 : Cond.code yX8_crewOf cX8_crewOf 2 (some (.object "Ironbark$Crew")) ∈ lw_good := List.mem_filter.mpr ⟨List.mem_of_getElem? (i := 579) (by decide +kernel), by decide +kernel⟩
theorem mi_X8_crewOf : MI yX8_crewOf cX8_crewOf 2 (some (.object "Ironbark$Crew")) 1 := ⟨wg_579, wg_29, by decide +kernel, by decide +kernel⟩
theorem wg_576 : Cond.methodLink RX8 159 yX8_crewOf ∈ lw_good := List.mem_filter.mpr ⟨List.mem_of_getElem? (i := 576) (by decide +kernel), by decide +kernel⟩
theorem wg_578 : Cond.instanceMethod yX8_crewOf ∈ lw_good := List.mem_filter.mpr ⟨List.mem_of_getElem? (i := 578) (by decide +kernel), by decide +kernel⟩
theorem wg_6 : Cond.selects RX8 yX8_crewOf yX8_crewOf ∈ lw_good := List.mem_filter.mpr ⟨List.mem_of_getElem? (i := 6) (by decide +kernel), by decide +kernel⟩
theorem wg_736 : Cond.code yX1_isOfOthers cX1_isOfOthers 5 (some .boolean) ∈ lw_good := List.mem_filter.mpr ⟨List.mem_of_getElem? (i := 736) (by decide +kernel), by decide +kernel⟩
theorem mi_X1_isOfOthers : MI yX1_isOfOthers cX1_isOfOthers 5 (some .boolean) 2 := ⟨wg_736, wg_43, by decide +kernel, by decide +kernel⟩
theorem wg_733 : Cond.methodLink RX8 479 yX1_isOfOthers ∈ lw_good := List.mem_filter.mpr ⟨List.mem_of_getElem? (i := 733) (by decide +kernel), by decide +kernel⟩
theorem wg_734 : Cond.instanceMethod yX1_isOfOthers ∈ lw_good := List.mem_filter.mpr ⟨List.mem_of_getElem? (i := 734) (by decide +kernel), by decide +kernel⟩
theorem wg_735 : Cond.selects RX1 yX1_isOfOthers yX1_isOfOthers ∈ lw_good := List.mem_filter.mpr ⟨List.mem_of_getElem? (i := 735) (by decide +kernel), by decide +kernel⟩
theorem wg_732 : Cond.code yX8_runningMinutes cX8_runningMinutes 3 (some .int) ∈ lw_good := List.mem_filter.mpr ⟨List.mem_of_getElem? (i := 732) (by decide +kernel), by decide +kernel⟩
theorem mi_X8_runningMinutes : MI yX8_runningMinutes cX8_runningMinutes 3 (some .int) 2 := ⟨wg_732, wg_29, by decide +kernel, by decide +kernel⟩
theorem wg_730 : Cond.methodLink RX8 460 yX8_runningMinutes ∈ lw_good := List.mem_filter.mpr ⟨List.mem_of_getElem? (i := 730) (by decide +kernel), by decide +kernel⟩
theorem wg_731 : Cond.static yX8_runningMinutes ∈ lw_good := List.mem_filter.mpr ⟨List.mem_of_getElem? (i := 731) (by decide +kernel), by decide +kernel⟩
theorem wg_729 : Cond.code yX8_barOfRun cX8_barOfRun 6 (some .int) ∈ lw_good := List.mem_filter.mpr ⟨List.mem_of_getElem? (i := 729) (by decide +kernel), by decide +kernel⟩
theorem mi_X8_barOfRun : MI yX8_barOfRun cX8_barOfRun 6 (some .int) 3 := ⟨wg_729, wg_29, by decide +kernel, by decide +kernel⟩
theorem wg_726 : Cond.methodLink RX8 308 yX8_barOfRun ∈ lw_good := List.mem_filter.mpr ⟨List.mem_of_getElem? (i := 726) (by decide +kernel), by decide +kernel⟩
theorem wg_728 : Cond.instanceMethod yX8_barOfRun ∈ lw_good := List.mem_filter.mpr ⟨List.mem_of_getElem? (i := 728) (by decide +kernel), by decide +kernel⟩
theorem wg_20 : Cond.selects RX8 yX8_barOfRun yX8_barOfRun ∈ lw_good := List.mem_filter.mpr ⟨List.mem_of_getElem? (i := 20) (by decide +kernel), by decide +kernel⟩
theorem wg_709 : Cond.code yX8_barOfStart cX8_barOfStart 3 (some .int) ∈ lw_good := List.mem_filter.mpr ⟨List.mem_of_getElem? (i := 709) (by decide +kernel), by decide +kernel⟩
theorem mi_X8_barOfStart : MI yX8_barOfStart cX8_barOfStart 3 (some .int) 2 := ⟨wg_709, wg_29, by decide +kernel, by decide +kernel⟩
theorem wg_706 : Cond.methodLink RX8 304 yX8_barOfStart ∈ lw_good := List.mem_filter.mpr ⟨List.mem_of_getElem? (i := 706) (by decide +kernel), by decide +kernel⟩
theorem wg_708 : Cond.instanceMethod yX8_barOfStart ∈ lw_good := List.mem_filter.mpr ⟨List.mem_of_getElem? (i := 708) (by decide +kernel), by decide +kernel⟩
theorem wg_18 : Cond.selects RX8 yX8_barOfStart yX8_barOfStart ∈ lw_good := List.mem_filter.mpr ⟨List.mem_of_getElem? (i := 18) (by decide +kernel), by decide +kernel⟩
theorem wg_705 : Cond.code yX8_barOf cX8_barOf 5 (some .int) ∈ lw_good := List.mem_filter.mpr ⟨List.mem_of_getElem? (i := 705) (by decide +kernel), by decide +kernel⟩
theorem mi_X8_barOf : MI yX8_barOf cX8_barOf 5 (some .int) 1 := ⟨wg_705, wg_29, by decide +kernel, by decide +kernel⟩
theorem wg_702 : Cond.methodLink RX8 371 yX8_barOf ∈ lw_good := List.mem_filter.mpr ⟨List.mem_of_getElem? (i := 702) (by decide +kernel), by decide +kernel⟩
theorem wg_704 : Cond.instanceMethod yX8_barOf ∈ lw_good := List.mem_filter.mpr ⟨List.mem_of_getElem? (i := 704) (by decide +kernel), by decide +kernel⟩
theorem wg_17 : Cond.selects RX8 yX8_barOf yX8_barOf ∈ lw_good := List.mem_filter.mpr ⟨List.mem_of_getElem? (i := 17) (by decide +kernel), by decide +kernel⟩
theorem wg_205 : Cond.fieldLink RX8 31 RX8 "bills" "Ljava/util/ArrayList;" ∈ lw_good := List.mem_filter.mpr ⟨List.mem_of_getElem? (i := 205) (by decide +kernel), by decide +kernel⟩
theorem fl_RX8_31 : FLk RX8 31 RX8 TX8 5 := FLk.link RX8 wg_205 rfl
theorem fo_9_5 : FO 9 5 RX8 TX8 16 := ⟨rfl, rfl, by decide, by decide, fi_9⟩
theorem wg_213 : Cond.fieldLink RX8 66 RX8 "money" "I" ∈ lw_good := List.mem_filter.mpr ⟨List.mem_of_getElem? (i := 213) (by decide +kernel), by decide +kernel⟩
theorem fl_RX8_66 : FLk RX8 66 RX8 TX8 13 := FLk.link RX8 wg_213 rfl
theorem fo_9_13 : FO 9 13 RX8 TX8 16 := ⟨rfl, rfl, by decide, by decide, fi_9⟩
theorem wg_214 : Cond.fieldLink RX8 69 RX8 "owed" "I" ∈ lw_good := List.mem_filter.mpr ⟨List.mem_of_getElem? (i := 214) (by decide +kernel), by decide +kernel⟩
theorem fl_RX8_69 : FLk RX8 69 RX8 TX8 14 := FLk.link RX8 wg_214 rfl
theorem fo_9_14 : FO 9 14 RX8 TX8 16 := ⟨rfl, rfl, by decide, by decide, fi_9⟩
theorem wg_204 : Cond.fieldLink RX8 28 RX8 "cars" "Ljava/util/ArrayList;" ∈ lw_good := List.mem_filter.mpr ⟨List.mem_of_getElem? (i := 204) (by decide +kernel), by decide +kernel⟩
theorem fl_RX8_28 : FLk RX8 28 RX8 TX8 4 := FLk.link RX8 wg_204 rfl
theorem fo_9_4 : FO 9 4 RX8 TX8 16 := ⟨rfl, rfl, by decide, by decide, fi_9⟩
theorem wg_598 : Cond.classLink RX8 194 RX2 ∈ lw_good := List.mem_filter.mpr ⟨List.mem_of_getElem? (i := 598) (by decide +kernel), by decide +kernel⟩
theorem wt_610 : Cond.fieldLinkNest RX8 245 RX2 "train" "I" RX8 ∈ lw_tbl := List.mem_of_getElem? (i := 610) (by decide +kernel)
theorem fl_RX8_245 : FLk RX8 245 RX2 TX2 2 := FLk.nest RX8 wt_610 (by decide +kernel)
theorem wt_612 : Cond.fieldLinkNest RX8 339 RX2 "bill" "I" RX8 ∈ lw_tbl := List.mem_of_getElem? (i := 612) (by decide +kernel)
theorem fl_RX8_339 : FLk RX8 339 RX2 TX2 3 := FLk.nest RX8 wt_612 (by decide +kernel)
theorem wg_692 : Cond.code yX8_billNumbered cX8_billNumbered 2 (some (.object "Ironbark$Bill")) ∈ lw_good := List.mem_filter.mpr ⟨List.mem_of_getElem? (i := 692) (by decide +kernel), by decide +kernel⟩
theorem mi_X8_billNumbered : MI yX8_billNumbered cX8_billNumbered 2 (some (.object "Ironbark$Bill")) 1 := ⟨wg_692, wg_29, by decide +kernel, by decide +kernel⟩
theorem wg_689 : Cond.methodLink RX8 335 yX8_billNumbered ∈ lw_good := List.mem_filter.mpr ⟨List.mem_of_getElem? (i := 689) (by decide +kernel), by decide +kernel⟩
theorem wg_691 : Cond.instanceMethod yX8_billNumbered ∈ lw_good := List.mem_filter.mpr ⟨List.mem_of_getElem? (i := 691) (by decide +kernel), by decide +kernel⟩
theorem wg_14 : Cond.selects RX8 yX8_billNumbered yX8_billNumbered ∈ lw_good := List.mem_filter.mpr ⟨List.mem_of_getElem? (i := 14) (by decide +kernel), by decide +kernel⟩
theorem wg_448 : Cond.methodLink RJ8 194 yJ9_max_7cf53 ∈ lw_good := List.mem_filter.mpr ⟨List.mem_of_getElem? (i := 448) (by decide +kernel), by decide +kernel⟩
theorem wg_451 : Cond.constant RJ8 200 2147483639 ∈ lw_good := List.mem_filter.mpr ⟨List.mem_of_getElem? (i := 451) (by decide +kernel), by decide +kernel⟩
theorem wg_477 : Cond.classLink RJ7 110 "[Ljava/lang/Object;" ∈ lw_good := List.mem_filter.mpr ⟨List.mem_of_getElem? (i := 477) (by decide +kernel), by decide +kernel⟩
theorem wg_479 : Cond.classLink RJ7 2 "java/lang/Object" ∈ lw_good := List.mem_filter.mpr ⟨List.mem_of_getElem? (i := 479) (by decide +kernel), by decide +kernel⟩
theorem wg_458 : Cond.methodLink RJ7 86 ⟨"java/lang/Object", "getClass", "()Ljava/lang/Class;"⟩ ∈ lw_good := List.mem_filter.mpr ⟨List.mem_of_getElem? (i := 458) (by decide +kernel), by decide +kernel⟩
theorem wg_476 : Cond.code yJ7_copyOf_6403c cJ7_copyOf_6403c 4 (some (.array (.object "java/lang/Object"))) ∈ lw_good := List.mem_filter.mpr ⟨List.mem_of_getElem? (i := 476) (by decide +kernel), by decide +kernel⟩
theorem mi_J7_copyOf_6403c : MI yJ7_copyOf_6403c cJ7_copyOf_6403c 4 (some (.array (.object "java/lang/Object"))) 3 := ⟨wg_476, wg_36, by decide +kernel, by decide +kernel⟩
theorem wg_474 : Cond.methodLink RJ7 300 yJ7_copyOf_6403c ∈ lw_good := List.mem_filter.mpr ⟨List.mem_of_getElem? (i := 474) (by decide +kernel), by decide +kernel⟩
theorem wg_475 : Cond.static yJ7_copyOf_6403c ∈ lw_good := List.mem_filter.mpr ⟨List.mem_of_getElem? (i := 475) (by decide +kernel), by decide +kernel⟩
theorem wg_75 : Cond.fieldLink RJx4a65c 39 RJx4a65c "DEFAULTCAPACITY_EMPTY_ELEMENTDATA" "[Ljava/lang/Object;" ∈ lw_good := List.mem_filter.mpr ⟨List.mem_of_getElem? (i := 75) (by decide +kernel), by decide +kernel⟩
theorem wg_486 : Cond.methodLink RJx4a65c 79 yJ9_max_7cf53 ∈ lw_good := List.mem_filter.mpr ⟨List.mem_of_getElem? (i := 486) (by decide +kernel), by decide +kernel⟩
theorem wg_487 : Cond.classLink RJx4a65c 7 "java/lang/Object" ∈ lw_good := List.mem_filter.mpr ⟨List.mem_of_getElem? (i := 487) (by decide +kernel), by decide +kernel⟩
theorem wg_457 : Cond.code yJ7_copyOf_1904c cJ7_copyOf_1904c 2 (some (.array (.object "java/lang/Object"))) ∈ lw_good := List.mem_filter.mpr ⟨List.mem_of_getElem? (i := 457) (by decide +kernel), by decide +kernel⟩
theorem mi_J7_copyOf_1904c : MI yJ7_copyOf_1904c cJ7_copyOf_1904c 2 (some (.array (.object "java/lang/Object"))) 2 := ⟨wg_457, wg_36, by decide +kernel, by decide +kernel⟩
theorem wg_455 : Cond.methodLink RJx4a65c 66 yJ7_copyOf_1904c ∈ lw_good := List.mem_filter.mpr ⟨List.mem_of_getElem? (i := 455) (by decide +kernel), by decide +kernel⟩
theorem wg_456 : Cond.static yJ7_copyOf_1904c ∈ lw_good := List.mem_filter.mpr ⟨List.mem_of_getElem? (i := 456) (by decide +kernel), by decide +kernel⟩
theorem wg_447 : Cond.code yJ8_newLength_cabcc cJ8_newLength_cabcc 4 (some .int) ∈ lw_good := List.mem_filter.mpr ⟨List.mem_of_getElem? (i := 447) (by decide +kernel), by decide +kernel⟩
theorem wg_44 : Cond.initialized RJ8 ∈ lw_good := List.mem_filter.mpr ⟨List.mem_of_getElem? (i := 44) (by decide +kernel), by decide +kernel⟩
theorem mi_J8_newLength_cabcc : MI yJ8_newLength_cabcc cJ8_newLength_cabcc 4 (some .int) 3 := ⟨wg_447, wg_44, by decide +kernel, by decide +kernel⟩
theorem wg_445 : Cond.methodLink RJx4a65c 73 yJ8_newLength_cabcc ∈ lw_good := List.mem_filter.mpr ⟨List.mem_of_getElem? (i := 445) (by decide +kernel), by decide +kernel⟩
theorem wg_446 : Cond.static yJ8_newLength_cabcc ∈ lw_good := List.mem_filter.mpr ⟨List.mem_of_getElem? (i := 446) (by decide +kernel), by decide +kernel⟩
theorem wg_444 : Cond.code yJx4a65c_grow_92f84 cJx4a65c_grow_92f84 4 (some (.array (.object "java/lang/Object"))) ∈ lw_good := List.mem_filter.mpr ⟨List.mem_of_getElem? (i := 444) (by decide +kernel), by decide +kernel⟩
theorem mi_Jx4a65c_grow_92f84 : MI yJx4a65c_grow_92f84 cJx4a65c_grow_92f84 4 (some (.array (.object "java/lang/Object"))) 1 := ⟨wg_444, wg_32, by decide +kernel, by decide +kernel⟩
theorem wg_441 : Cond.methodLink RJx4a65c 69 yJx4a65c_grow_92f84 ∈ lw_good := List.mem_filter.mpr ⟨List.mem_of_getElem? (i := 441) (by decide +kernel), by decide +kernel⟩
theorem wg_443 : Cond.instanceMethod yJx4a65c_grow_92f84 ∈ lw_good := List.mem_filter.mpr ⟨List.mem_of_getElem? (i := 443) (by decide +kernel), by decide +kernel⟩
theorem wg_4 : Cond.selects RJx4a65c yJx4a65c_grow_92f84 yJx4a65c_grow_92f84 ∈ lw_good := List.mem_filter.mpr ⟨List.mem_of_getElem? (i := 4) (by decide +kernel), by decide +kernel⟩
theorem wg_440 : Cond.code yJx4a65c_grow_d5877 cJx4a65c_grow_d5877 1 (some (.array (.object "java/lang/Object"))) ∈ lw_good := List.mem_filter.mpr ⟨List.mem_of_getElem? (i := 440) (by decide +kernel), by decide +kernel⟩
theorem mi_Jx4a65c_grow_d5877 : MI yJx4a65c_grow_d5877 cJx4a65c_grow_d5877 1 (some (.array (.object "java/lang/Object"))) 0 := ⟨wg_440, wg_32, by decide +kernel, by decide +kernel⟩
theorem wg_437 : Cond.methodLink RJx4a65c 129 yJx4a65c_grow_d5877 ∈ lw_good := List.mem_filter.mpr ⟨List.mem_of_getElem? (i := 437) (by decide +kernel), by decide +kernel⟩
theorem wg_439 : Cond.instanceMethod yJx4a65c_grow_d5877 ∈ lw_good := List.mem_filter.mpr ⟨List.mem_of_getElem? (i := 439) (by decide +kernel), by decide +kernel⟩
theorem wg_3 : Cond.selects RJx4a65c yJx4a65c_grow_d5877 yJx4a65c_grow_d5877 ∈ lw_good := List.mem_filter.mpr ⟨List.mem_of_getElem? (i := 3) (by decide +kernel), by decide +kernel⟩
theorem wg_80 : Cond.fieldLink RJx4a65c 63 RJx4a65c "modCount" "I" ∈ lw_good := List.mem_filter.mpr ⟨List.mem_of_getElem? (i := 80) (by decide +kernel), by decide +kernel⟩
theorem wg_81 : Cond.sameField RJx4a65c RJxc12de "modCount" "I" ∈ lw_good := List.mem_filter.mpr ⟨List.mem_of_getElem? (i := 81) (by decide +kernel), by decide +kernel⟩
theorem fl_RJx4a65c_63 : FLk RJx4a65c 63 RJx4a65c TJx4a65c 0 := FLk.same RJx4a65c wg_80 wg_81
theorem fo_0_0 : FO 0 0 RJx4a65c TJx4a65c 3 := ⟨rfl, rfl, by decide, by decide, fi_0⟩
theorem wg_436 : Cond.code yJx4a65c_add_72be8 cJx4a65c_add_72be8 4 none ∈ lw_good := List.mem_filter.mpr ⟨List.mem_of_getElem? (i := 436) (by decide +kernel), by decide +kernel⟩
theorem mi_Jx4a65c_add_72be8 : MI yJx4a65c_add_72be8 cJx4a65c_add_72be8 4 none 3 := ⟨wg_436, wg_32, by decide +kernel, by decide +kernel⟩
theorem wg_433 : Cond.methodLink RJx4a65c 131 yJx4a65c_add_72be8 ∈ lw_good := List.mem_filter.mpr ⟨List.mem_of_getElem? (i := 433) (by decide +kernel), by decide +kernel⟩
theorem wg_435 : Cond.instanceMethod yJx4a65c_add_72be8 ∈ lw_good := List.mem_filter.mpr ⟨List.mem_of_getElem? (i := 435) (by decide +kernel), by decide +kernel⟩
theorem wg_2 : Cond.selects RJx4a65c yJx4a65c_add_72be8 yJx4a65c_add_72be8 ∈ lw_good := List.mem_filter.mpr ⟨List.mem_of_getElem? (i := 2) (by decide +kernel), by decide +kernel⟩
theorem wg_599 : Cond.instantiable RX2 5 ∈ lw_good := List.mem_filter.mpr ⟨List.mem_of_getElem? (i := 599) (by decide +kernel), by decide +kernel⟩
theorem wg_52 : Cond.initialized RX2 ∈ lw_good := List.mem_filter.mpr ⟨List.mem_of_getElem? (i := 52) (by decide +kernel), by decide +kernel⟩
theorem wt_117 : Cond.fieldLinkNest RX8 200 RX6 "yard" "LIronbark$Row;" RX8 ∈ lw_tbl := List.mem_of_getElem? (i := 117) (by decide +kernel)
theorem fl_RX8_200 : FLk RX8 200 RX6 TX6 1 := FLk.nest RX8 wt_117 (by decide +kernel)
theorem wg_643 : Cond.methodLink RX8 203 yX5_append ∈ lw_good := List.mem_filter.mpr ⟨List.mem_of_getElem? (i := 643) (by decide +kernel), by decide +kernel⟩
theorem wg_432 : Cond.code yJx4a65c_add_9ea2d cJx4a65c_add_9ea2d 2 (some .boolean) ∈ lw_good := List.mem_filter.mpr ⟨List.mem_of_getElem? (i := 432) (by decide +kernel), by decide +kernel⟩
theorem mi_Jx4a65c_add_9ea2d : MI yJx4a65c_add_9ea2d cJx4a65c_add_9ea2d 2 (some .boolean) 1 := ⟨wg_432, wg_32, by decide +kernel, by decide +kernel⟩
theorem wg_429 : Cond.methodLink RX8 117 yJx4a65c_add_9ea2d ∈ lw_good := List.mem_filter.mpr ⟨List.mem_of_getElem? (i := 429) (by decide +kernel), by decide +kernel⟩
theorem wg_430 : Cond.instanceMethod yJx4a65c_add_9ea2d ∈ lw_good := List.mem_filter.mpr ⟨List.mem_of_getElem? (i := 430) (by decide +kernel), by decide +kernel⟩
theorem wg_431 : Cond.selects RJx4a65c yJx4a65c_add_9ea2d yJx4a65c_add_9ea2d ∈ lw_good := List.mem_filter.mpr ⟨List.mem_of_getElem? (i := 431) (by decide +kernel), by decide +kernel⟩
theorem wg_628 : Cond.code yX2_write cX2_write 3 none ∈ lw_good := List.mem_filter.mpr ⟨List.mem_of_getElem? (i := 628) (by decide +kernel), by decide +kernel⟩
theorem mi_X2_write : MI yX2_write cX2_write 3 none 2 := ⟨wg_628, wg_52, by decide +kernel, by decide +kernel⟩
theorem wg_625 : Cond.methodLink RX8 197 yX2_write ∈ lw_good := List.mem_filter.mpr ⟨List.mem_of_getElem? (i := 625) (by decide +kernel), by decide +kernel⟩
theorem wg_626 : Cond.instanceMethod yX2_write ∈ lw_good := List.mem_filter.mpr ⟨List.mem_of_getElem? (i := 626) (by decide +kernel), by decide +kernel⟩
theorem wg_627 : Cond.selects RX2 yX2_write yX2_write ∈ lw_good := List.mem_filter.mpr ⟨List.mem_of_getElem? (i := 627) (by decide +kernel), by decide +kernel⟩
theorem wg_602 : Cond.code yX2_init cX2_init 2 none ∈ lw_good := List.mem_filter.mpr ⟨List.mem_of_getElem? (i := 602) (by decide +kernel), by decide +kernel⟩
theorem mi_X2_init : MI yX2_init cX2_init 2 none 1 := ⟨wg_602, wg_52, by decide +kernel, by decide +kernel⟩
theorem wg_600 : Cond.methodLink RX8 196 yX2_init ∈ lw_good := List.mem_filter.mpr ⟨List.mem_of_getElem? (i := 600) (by decide +kernel), by decide +kernel⟩
theorem wg_601 : Cond.instanceMethod yX2_init ∈ lw_good := List.mem_filter.mpr ⟨List.mem_of_getElem? (i := 601) (by decide +kernel), by decide +kernel⟩
theorem wg_831 : Cond.code yX8_carOf cX8_carOf 2 (some (.object "Ironbark$Car")) ∈ lw_good := List.mem_filter.mpr ⟨List.mem_of_getElem? (i := 831) (by decide +kernel), by decide +kernel⟩
theorem mi_X8_carOf : MI yX8_carOf cX8_carOf 2 (some (.object "Ironbark$Car")) 1 := ⟨wg_831, wg_29, by decide +kernel, by decide +kernel⟩
theorem wg_828 : Cond.methodLink RX8 241 yX8_carOf ∈ lw_good := List.mem_filter.mpr ⟨List.mem_of_getElem? (i := 828) (by decide +kernel), by decide +kernel⟩
theorem wg_830 : Cond.instanceMethod yX8_carOf ∈ lw_good := List.mem_filter.mpr ⟨List.mem_of_getElem? (i := 830) (by decide +kernel), by decide +kernel⟩
theorem wg_27 : Cond.selects RX8 yX8_carOf yX8_carOf ∈ lw_good := List.mem_filter.mpr ⟨List.mem_of_getElem? (i := 27) (by decide +kernel), by decide +kernel⟩
theorem wt_608 : Cond.fieldLinkNest RX8 246 RX2 "station" "I" RX8 ∈ lw_tbl := List.mem_of_getElem? (i := 608) (by decide +kernel)
theorem fl_RX8_246 : FLk RX8 246 RX2 TX2 1 := FLk.nest RX8 wt_608 (by decide +kernel)
theorem wg_839 : Cond.code yX2_weight cX2_weight 1 (some .int) ∈ lw_good := List.mem_filter.mpr ⟨List.mem_of_getElem? (i := 839) (by decide +kernel), by decide +kernel⟩
theorem mi_X2_weight : MI yX2_weight cX2_weight 1 (some .int) 0 := ⟨wg_839, wg_52, by decide +kernel, by decide +kernel⟩
theorem wg_836 : Cond.methodLink RX8 253 yX2_weight ∈ lw_good := List.mem_filter.mpr ⟨List.mem_of_getElem? (i := 836) (by decide +kernel), by decide +kernel⟩
theorem wg_837 : Cond.instanceMethod yX2_weight ∈ lw_good := List.mem_filter.mpr ⟨List.mem_of_getElem? (i := 837) (by decide +kernel), by decide +kernel⟩
theorem wg_838 : Cond.selects RX2 yX2_weight yX2_weight ∈ lw_good := List.mem_filter.mpr ⟨List.mem_of_getElem? (i := 838) (by decide +kernel), by decide +kernel⟩
theorem wg_835 : Cond.code yX5_drop cX5_drop 4 none ∈ lw_good := List.mem_filter.mpr ⟨List.mem_of_getElem? (i := 835) (by decide +kernel), by decide +kernel⟩
theorem mi_X5_drop : MI yX5_drop cX5_drop 4 none 1 := ⟨wg_835, wg_33, by decide +kernel, by decide +kernel⟩
theorem wg_832 : Cond.methodLink RX8 247 yX5_drop ∈ lw_good := List.mem_filter.mpr ⟨List.mem_of_getElem? (i := 832) (by decide +kernel), by decide +kernel⟩
theorem wg_833 : Cond.instanceMethod yX5_drop ∈ lw_good := List.mem_filter.mpr ⟨List.mem_of_getElem? (i := 833) (by decide +kernel), by decide +kernel⟩
theorem wg_834 : Cond.selects RX5 yX5_drop yX5_drop ∈ lw_good := List.mem_filter.mpr ⟨List.mem_of_getElem? (i := 834) (by decide +kernel), by decide +kernel⟩
theorem wg_546 : Cond.instantiable RX3 5 ∈ lw_good := List.mem_filter.mpr ⟨List.mem_of_getElem? (i := 546) (by decide +kernel), by decide +kernel⟩
theorem wg_549 : Cond.code yX3_init cX3_init 2 none ∈ lw_good := List.mem_filter.mpr ⟨List.mem_of_getElem? (i := 549) (by decide +kernel), by decide +kernel⟩
theorem mi_X3_init : MI yX3_init cX3_init 2 none 1 := ⟨wg_549, wg_48, by decide +kernel, by decide +kernel⟩
theorem wg_547 : Cond.methodLink RX8 158 yX3_init ∈ lw_good := List.mem_filter.mpr ⟨List.mem_of_getElem? (i := 547) (by decide +kernel), by decide +kernel⟩
theorem wg_548 : Cond.instanceMethod yX3_init ∈ lw_good := List.mem_filter.mpr ⟨List.mem_of_getElem? (i := 548) (by decide +kernel), by decide +kernel⟩
theorem wg_209 : Cond.fieldLink RX8 52 RX8 "draft" "LIronbark$Row;" ∈ lw_good := List.mem_filter.mpr ⟨List.mem_of_getElem? (i := 209) (by decide +kernel), by decide +kernel⟩
theorem fl_RX8_52 : FLk RX8 52 RX8 TX8 9 := FLk.link RX8 wg_209 rfl
theorem fo_9_9 : FO 9 9 RX8 TX8 16 := ⟨rfl, rfl, by decide, by decide, fi_9⟩
theorem wg_803 : Cond.methodLink RX8 358 yX5_at ∈ lw_good := List.mem_filter.mpr ⟨List.mem_of_getElem? (i := 803) (by decide +kernel), by decide +kernel⟩
theorem wg_41 : Cond.initialized "java/lang/IllegalArgumentException" ∈ lw_good := List.mem_filter.mpr ⟨List.mem_of_getElem? (i := 41) (by decide +kernel), by decide +kernel⟩
theorem at_390_394 : ∀ w ∈ vx_atS RX8 394 "java/lang/IllegalArgumentException" ["java/lang/RuntimeException", "java/lang/Exception"], w ∈ lw_tbl ∧ (goodWord w || (isNw w && w.onTables)) = true := fun w hw => by
  have h : (vx_atS RX8 394 "java/lang/IllegalArgumentException" ["java/lang/RuntimeException", "java/lang/Exception"]).all (fun w => decide (w ∈ lw_tbl) && (goodWord w || (isNw w && w.onTables))) = true := by decide +kernel
  have h2 := List.all_eq_true.mp h w hw
  rw [Bool.and_eq_true, decide_eq_true_eq] at h2
  exact h2
theorem au_390_394 : ∀ w ∈ Cond.classLink RX8 390 "java/lang/IllegalArgumentException" :: Cond.initialized "java/lang/IllegalArgumentException" :: vx_atS RX8 394 "java/lang/IllegalArgumentException" ["java/lang/RuntimeException", "java/lang/Exception"], vx_ot w = true := by decide +kernel
theorem wg_331 : Cond.classLink RX8 390 "java/lang/IllegalArgumentException" ∈ lw_good := List.mem_filter.mpr ⟨List.mem_of_getElem? (i := 331) (by decide +kernel), by decide +kernel⟩
theorem wg_330 : Cond.code yX8_requireArgument cX8_requireArgument 1 none ∈ lw_good := List.mem_filter.mpr ⟨List.mem_of_getElem? (i := 330) (by decide +kernel), by decide +kernel⟩
theorem mi_X8_requireArgument : MI yX8_requireArgument cX8_requireArgument 1 none 1 := ⟨wg_330, wg_29, by decide +kernel, by decide +kernel⟩
theorem wg_328 : Cond.methodLink RX8 105 yX8_requireArgument ∈ lw_good := List.mem_filter.mpr ⟨List.mem_of_getElem? (i := 328) (by decide +kernel), by decide +kernel⟩
theorem wg_329 : Cond.static yX8_requireArgument ∈ lw_good := List.mem_filter.mpr ⟨List.mem_of_getElem? (i := 329) (by decide +kernel), by decide +kernel⟩
theorem wg_202 : Cond.fieldLink RX8 22 RX8 "engines" "Ljava/util/ArrayList;" ∈ lw_good := List.mem_filter.mpr ⟨List.mem_of_getElem? (i := 202) (by decide +kernel), by decide +kernel⟩
theorem fl_RX8_22 : FLk RX8 22 RX8 TX8 2 := FLk.link RX8 wg_202 rfl
theorem fo_9_2 : FO 9 2 RX8 TX8 16 := ⟨rfl, rfl, by decide, by decide, fi_9⟩
theorem wg_349 : Cond.code yX8_requireRange cX8_requireRange 3 none ∈ lw_good := List.mem_filter.mpr ⟨List.mem_of_getElem? (i := 349) (by decide +kernel), by decide +kernel⟩
theorem mi_X8_requireRange : MI yX8_requireRange cX8_requireRange 3 none 3 := ⟨wg_349, wg_29, by decide +kernel, by decide +kernel⟩
theorem wg_347 : Cond.methodLink RX8 87 yX8_requireRange ∈ lw_good := List.mem_filter.mpr ⟨List.mem_of_getElem? (i := 347) (by decide +kernel), by decide +kernel⟩
theorem wg_348 : Cond.static yX8_requireRange ∈ lw_good := List.mem_filter.mpr ⟨List.mem_of_getElem? (i := 348) (by decide +kernel), by decide +kernel⟩
theorem wg_523 : Cond.instantiable RX4 3 ∈ lw_good := List.mem_filter.mpr ⟨List.mem_of_getElem? (i := 523) (by decide +kernel), by decide +kernel⟩
theorem wg_47 : Cond.initialized RX4 ∈ lw_good := List.mem_filter.mpr ⟨List.mem_of_getElem? (i := 47) (by decide +kernel), by decide +kernel⟩
theorem wg_522 : Cond.classLink RX8 151 RX4 ∈ lw_good := List.mem_filter.mpr ⟨List.mem_of_getElem? (i := 522) (by decide +kernel), by decide +kernel⟩
theorem wg_526 : Cond.code yX4_init cX4_init 3 none ∈ lw_good := List.mem_filter.mpr ⟨List.mem_of_getElem? (i := 526) (by decide +kernel), by decide +kernel⟩
theorem mi_X4_init : MI yX4_init cX4_init 3 none 2 := ⟨wg_526, wg_47, by decide +kernel, by decide +kernel⟩
theorem wg_524 : Cond.methodLink RX8 153 yX4_init ∈ lw_good := List.mem_filter.mpr ⟨List.mem_of_getElem? (i := 524) (by decide +kernel), by decide +kernel⟩
theorem wg_525 : Cond.instanceMethod yX4_init ∈ lw_good := List.mem_filter.mpr ⟨List.mem_of_getElem? (i := 525) (by decide +kernel), by decide +kernel⟩
theorem wt_131 : Cond.fieldLinkNest RX8 463 RX7 "number" "I" RX8 ∈ lw_tbl := List.mem_of_getElem? (i := 131) (by decide +kernel)
theorem fl_RX8_463 : FLk RX8 463 RX7 TX7 0 := FLk.nest RX8 wt_131 (by decide +kernel)
theorem wt_399 : Cond.fieldLinkNest RX8 466 RX1 "holder" "I" RX8 ∈ lw_tbl := List.mem_of_getElem? (i := 399) (by decide +kernel)
theorem fl_RX8_466 : FLk RX8 466 RX1 TX1 11 := FLk.nest RX8 wt_399 (by decide +kernel)
theorem wt_401 : Cond.fieldLinkNest RX8 469 RX1 "clearAt" "I" RX8 ∈ lw_tbl := List.mem_of_getElem? (i := 401) (by decide +kernel)
theorem fl_RX8_469 : FLk RX8 469 RX1 TX1 12 := FLk.nest RX8 wt_401 (by decide +kernel)
theorem wt_156 : Cond.fieldLinkNest RX8 274 RX7 "rank" "I" RX8 ∈ lw_tbl := List.mem_of_getElem? (i := 156) (by decide +kernel)
theorem fl_RX8_274 : FLk RX8 274 RX7 TX7 13 := FLk.nest RX8 wt_156 (by decide +kernel)
theorem wg_760 : Cond.code yX8_enter cX8_enter 5 none ∈ lw_good := List.mem_filter.mpr ⟨List.mem_of_getElem? (i := 760) (by decide +kernel), by decide +kernel⟩
theorem mi_X8_enter : MI yX8_enter cX8_enter 5 none 3 := ⟨wg_760, wg_29, by decide +kernel, by decide +kernel⟩
theorem wg_757 : Cond.methodLink RX8 318 yX8_enter ∈ lw_good := List.mem_filter.mpr ⟨List.mem_of_getElem? (i := 757) (by decide +kernel), by decide +kernel⟩
theorem wg_759 : Cond.instanceMethod yX8_enter ∈ lw_good := List.mem_filter.mpr ⟨List.mem_of_getElem? (i := 759) (by decide +kernel), by decide +kernel⟩
theorem wg_23 : Cond.selects RX8 yX8_enter yX8_enter ∈ lw_good := List.mem_filter.mpr ⟨List.mem_of_getElem? (i := 23) (by decide +kernel), by decide +kernel⟩
theorem wg_701 : Cond.code yX8_nextToEnter cX8_nextToEnter 6 (some .int) ∈ lw_good := List.mem_filter.mpr ⟨List.mem_of_getElem? (i := 701) (by decide +kernel), by decide +kernel⟩
theorem mi_X8_nextToEnter : MI yX8_nextToEnter cX8_nextToEnter 6 (some .int) 1 := ⟨wg_701, wg_29, by decide +kernel, by decide +kernel⟩
theorem wg_698 : Cond.methodLink RX8 457 yX8_nextToEnter ∈ lw_good := List.mem_filter.mpr ⟨List.mem_of_getElem? (i := 698) (by decide +kernel), by decide +kernel⟩
theorem wg_700 : Cond.instanceMethod yX8_nextToEnter ∈ lw_good := List.mem_filter.mpr ⟨List.mem_of_getElem? (i := 700) (by decide +kernel), by decide +kernel⟩
theorem wg_16 : Cond.selects RX8 yX8_nextToEnter yX8_nextToEnter ∈ lw_good := List.mem_filter.mpr ⟨List.mem_of_getElem? (i := 16) (by decide +kernel), by decide +kernel⟩
theorem wt_533 : Cond.fieldLinkNest RX8 211 RX4 "train" "I" RX8 ∈ lw_tbl := List.mem_of_getElem? (i := 533) (by decide +kernel)
theorem fl_RX8_211 : FLk RX8 211 RX4 TX4 2 := FLk.nest RX8 wt_533 (by decide +kernel)
theorem wt_554 : Cond.fieldLinkNest RX8 177 RX3 "train" "I" RX8 ∈ lw_tbl := List.mem_of_getElem? (i := 554) (by decide +kernel)
theorem fl_RX8_177 : FLk RX8 177 RX3 TX3 1 := FLk.nest RX8 wt_554 (by decide +kernel)
theorem wg_781 : Cond.code yX8_engineOf cX8_engineOf 2 (some (.object "Ironbark$Engine")) ∈ lw_good := List.mem_filter.mpr ⟨List.mem_of_getElem? (i := 781) (by decide +kernel), by decide +kernel⟩
theorem mi_X8_engineOf : MI yX8_engineOf cX8_engineOf 2 (some (.object "Ironbark$Engine")) 1 := ⟨wg_781, wg_29, by decide +kernel, by decide +kernel⟩
theorem wg_778 : Cond.methodLink RX8 207 yX8_engineOf ∈ lw_good := List.mem_filter.mpr ⟨List.mem_of_getElem? (i := 778) (by decide +kernel), by decide +kernel⟩
theorem wg_780 : Cond.instanceMethod yX8_engineOf ∈ lw_good := List.mem_filter.mpr ⟨List.mem_of_getElem? (i := 780) (by decide +kernel), by decide +kernel⟩
theorem wg_24 : Cond.selects RX8 yX8_engineOf yX8_engineOf ∈ lw_good := List.mem_filter.mpr ⟨List.mem_of_getElem? (i := 24) (by decide +kernel), by decide +kernel⟩
theorem wt_531 : Cond.fieldLinkNest RX8 212 RX4 "station" "I" RX8 ∈ lw_tbl := List.mem_of_getElem? (i := 531) (by decide +kernel)
theorem fl_RX8_212 : FLk RX8 212 RX4 TX4 1 := FLk.nest RX8 wt_531 (by decide +kernel)
theorem wt_552 : Cond.fieldLinkNest RX8 215 RX3 "station" "I" RX8 ∈ lw_tbl := List.mem_of_getElem? (i := 552) (by decide +kernel)
theorem fl_RX8_215 : FLk RX8 215 RX3 TX3 0 := FLk.nest RX8 wt_552 (by decide +kernel)
theorem wg_785 : Cond.code yX8_leastFreeNumber cX8_leastFreeNumber 2 (some .int) ∈ lw_good := List.mem_filter.mpr ⟨List.mem_of_getElem? (i := 785) (by decide +kernel), by decide +kernel⟩
theorem mi_X8_leastFreeNumber : MI yX8_leastFreeNumber cX8_leastFreeNumber 2 (some .int) 0 := ⟨wg_785, wg_29, by decide +kernel, by decide +kernel⟩
theorem wg_782 : Cond.methodLink RX8 219 yX8_leastFreeNumber ∈ lw_good := List.mem_filter.mpr ⟨List.mem_of_getElem? (i := 782) (by decide +kernel), by decide +kernel⟩
theorem wg_784 : Cond.instanceMethod yX8_leastFreeNumber ∈ lw_good := List.mem_filter.mpr ⟨List.mem_of_getElem? (i := 784) (by decide +kernel), by decide +kernel⟩
theorem wg_25 : Cond.selects RX8 yX8_leastFreeNumber yX8_leastFreeNumber ∈ lw_good := List.mem_filter.mpr ⟨List.mem_of_getElem? (i := 25) (by decide +kernel), by decide +kernel⟩
theorem wt_529 : Cond.fieldLinkNest RX8 222 RX4 "power" "I" RX8 ∈ lw_tbl := List.mem_of_getElem? (i := 529) (by decide +kernel)
theorem fl_RX8_222 : FLk RX8 222 RX4 TX4 0 := FLk.nest RX8 wt_529 (by decide +kernel)
theorem wg_789 : Cond.code yX7_start cX7_start 5 none ∈ lw_good := List.mem_filter.mpr ⟨List.mem_of_getElem? (i := 789) (by decide +kernel), by decide +kernel⟩
theorem mi_X7_start : MI yX7_start cX7_start 5 none 4 := ⟨wg_789, wg_35, by decide +kernel, by decide +kernel⟩
theorem wg_786 : Cond.methodLink RX8 225 yX7_start ∈ lw_good := List.mem_filter.mpr ⟨List.mem_of_getElem? (i := 786) (by decide +kernel), by decide +kernel⟩
theorem wg_787 : Cond.instanceMethod yX7_start ∈ lw_good := List.mem_filter.mpr ⟨List.mem_of_getElem? (i := 787) (by decide +kernel), by decide +kernel⟩
theorem wg_788 : Cond.selects RX7 yX7_start yX7_start ∈ lw_good := List.mem_filter.mpr ⟨List.mem_of_getElem? (i := 788) (by decide +kernel), by decide +kernel⟩
theorem wg_583 : Cond.code yX8_requireBlock cX8_requireBlock 2 none ∈ lw_good := List.mem_filter.mpr ⟨List.mem_of_getElem? (i := 583) (by decide +kernel), by decide +kernel⟩
theorem mi_X8_requireBlock : MI yX8_requireBlock cX8_requireBlock 2 none 1 := ⟨wg_583, wg_29, by decide +kernel, by decide +kernel⟩
theorem wg_580 : Cond.methodLink RX8 163 yX8_requireBlock ∈ lw_good := List.mem_filter.mpr ⟨List.mem_of_getElem? (i := 580) (by decide +kernel), by decide +kernel⟩
theorem wg_582 : Cond.instanceMethod yX8_requireBlock ∈ lw_good := List.mem_filter.mpr ⟨List.mem_of_getElem? (i := 582) (by decide +kernel), by decide +kernel⟩
theorem wg_7 : Cond.selects RX8 yX8_requireBlock yX8_requireBlock ∈ lw_good := List.mem_filter.mpr ⟨List.mem_of_getElem? (i := 7) (by decide +kernel), by decide +kernel⟩
theorem wg_880 : Cond.code yX7_holds cX7_holds 3 (some .boolean) ∈ lw_good := List.mem_filter.mpr ⟨List.mem_of_getElem? (i := 880) (by decide +kernel), by decide +kernel⟩
theorem mi_X7_holds : MI yX7_holds cX7_holds 3 (some .boolean) 2 := ⟨wg_880, wg_35, by decide +kernel, by decide +kernel⟩
theorem wg_877 : Cond.methodLink RX8 361 yX7_holds ∈ lw_good := List.mem_filter.mpr ⟨List.mem_of_getElem? (i := 877) (by decide +kernel), by decide +kernel⟩
theorem wg_878 : Cond.instanceMethod yX7_holds ∈ lw_good := List.mem_filter.mpr ⟨List.mem_of_getElem? (i := 878) (by decide +kernel), by decide +kernel⟩
theorem wg_879 : Cond.selects RX7 yX7_holds yX7_holds ∈ lw_good := List.mem_filter.mpr ⟨List.mem_of_getElem? (i := 879) (by decide +kernel), by decide +kernel⟩
theorem wt_392 : Cond.fieldLinkNest RX8 132 RX1 "othersFrom" "I" RX8 ∈ lw_tbl := List.mem_of_getElem? (i := 392) (by decide +kernel)
theorem fl_RX8_132 : FLk RX8 132 RX1 TX1 7 := FLk.nest RX8 wt_392 (by decide +kernel)
theorem wt_394 : Cond.fieldLinkNest RX8 135 RX1 "othersTo" "I" RX8 ∈ lw_tbl := List.mem_of_getElem? (i := 394) (by decide +kernel)
theorem fl_RX8_135 : FLk RX8 135 RX1 TX1 8 := FLk.nest RX8 wt_394 (by decide +kernel)
theorem wg_74 : Cond.methodLink RJxa1e45 1 objectInit ∈ lw_good := List.mem_filter.mpr ⟨List.mem_of_getElem? (i := 74) (by decide +kernel), by decide +kernel⟩
theorem wg_79 : Cond.fieldLink RJxc12de 7 RJxc12de "modCount" "I" ∈ lw_good := List.mem_filter.mpr ⟨List.mem_of_getElem? (i := 79) (by decide +kernel), by decide +kernel⟩
theorem fl_RJxc12de_7 : FLk RJxc12de 7 RJx4a65c TJx4a65c 0 := FLk.link RJxc12de wg_79 rfl
theorem wg_73 : Cond.code yJxa1e45_init_da8c8 cJxa1e45_init_da8c8 1 none ∈ lw_good := List.mem_filter.mpr ⟨List.mem_of_getElem? (i := 73) (by decide +kernel), by decide +kernel⟩
theorem wg_30 : Cond.initialized RJxa1e45 ∈ lw_good := List.mem_filter.mpr ⟨List.mem_of_getElem? (i := 30) (by decide +kernel), by decide +kernel⟩
theorem mi_Jxa1e45_init_da8c8 : MI yJxa1e45_init_da8c8 cJxa1e45_init_da8c8 1 none 0 := ⟨wg_73, wg_30, by decide +kernel, by decide +kernel⟩
theorem wg_71 : Cond.methodLink RJxc12de 1 yJxa1e45_init_da8c8 ∈ lw_good := List.mem_filter.mpr ⟨List.mem_of_getElem? (i := 71) (by decide +kernel), by decide +kernel⟩
theorem wg_72 : Cond.instanceMethod yJxa1e45_init_da8c8 ∈ lw_good := List.mem_filter.mpr ⟨List.mem_of_getElem? (i := 72) (by decide +kernel), by decide +kernel⟩
theorem wg_70 : Cond.code yJxc12de_init_da8c8 cJxc12de_init_da8c8 1 none ∈ lw_good := List.mem_filter.mpr ⟨List.mem_of_getElem? (i := 70) (by decide +kernel), by decide +kernel⟩
theorem wg_31 : Cond.initialized RJxc12de ∈ lw_good := List.mem_filter.mpr ⟨List.mem_of_getElem? (i := 31) (by decide +kernel), by decide +kernel⟩
theorem mi_Jxc12de_init_da8c8 : MI yJxc12de_init_da8c8 cJxc12de_init_da8c8 1 none 0 := ⟨wg_70, wg_31, by decide +kernel, by decide +kernel⟩
theorem wg_68 : Cond.methodLink RJx4a65c 1 yJxc12de_init_da8c8 ∈ lw_good := List.mem_filter.mpr ⟨List.mem_of_getElem? (i := 68) (by decide +kernel), by decide +kernel⟩
theorem wg_69 : Cond.instanceMethod yJxc12de_init_da8c8 ∈ lw_good := List.mem_filter.mpr ⟨List.mem_of_getElem? (i := 69) (by decide +kernel), by decide +kernel⟩
theorem wg_58 : Cond.methodLink RX8 1 objectInit ∈ lw_good := List.mem_filter.mpr ⟨List.mem_of_getElem? (i := 58) (by decide +kernel), by decide +kernel⟩
theorem wg_61 : Cond.classLink RX8 9 RX6 ∈ lw_good := List.mem_filter.mpr ⟨List.mem_of_getElem? (i := 61) (by decide +kernel), by decide +kernel⟩
theorem wg_64 : Cond.instantiable RJx4a65c 3 ∈ lw_good := List.mem_filter.mpr ⟨List.mem_of_getElem? (i := 64) (by decide +kernel), by decide +kernel⟩
theorem wg_63 : Cond.classLink RX8 15 RJx4a65c ∈ lw_good := List.mem_filter.mpr ⟨List.mem_of_getElem? (i := 63) (by decide +kernel), by decide +kernel⟩
theorem wg_67 : Cond.code yJx4a65c_init_da8c8 cJx4a65c_init_da8c8 1 none ∈ lw_good := List.mem_filter.mpr ⟨List.mem_of_getElem? (i := 67) (by decide +kernel), by decide +kernel⟩
theorem mi_Jx4a65c_init_da8c8 : MI yJx4a65c_init_da8c8 cJx4a65c_init_da8c8 1 none 0 := ⟨wg_67, wg_32, by decide +kernel, by decide +kernel⟩
theorem wg_65 : Cond.methodLink RX8 17 yJx4a65c_init_da8c8 ∈ lw_good := List.mem_filter.mpr ⟨List.mem_of_getElem? (i := 65) (by decide +kernel), by decide +kernel⟩
theorem wg_66 : Cond.instanceMethod yJx4a65c_init_da8c8 ∈ lw_good := List.mem_filter.mpr ⟨List.mem_of_getElem? (i := 66) (by decide +kernel), by decide +kernel⟩
theorem wg_89 : Cond.classLink RX8 34 RX7 ∈ lw_good := List.mem_filter.mpr ⟨List.mem_of_getElem? (i := 89) (by decide +kernel), by decide +kernel⟩
theorem wg_207 : Cond.fieldLink RX8 40 RX8 "ownRates" "[I" ∈ lw_good := List.mem_filter.mpr ⟨List.mem_of_getElem? (i := 207) (by decide +kernel), by decide +kernel⟩
theorem fl_RX8_40 : FLk RX8 40 RX8 TX8 7 := FLk.link RX8 wg_207 rfl
theorem fo_9_7 : FO 9 7 RX8 TX8 16 := ⟨rfl, rfl, by decide, by decide, fi_9⟩
theorem wg_208 : Cond.fieldLink RX8 44 RX8 "rivalRates" "[I" ∈ lw_good := List.mem_filter.mpr ⟨List.mem_of_getElem? (i := 208) (by decide +kernel), by decide +kernel⟩
theorem fl_RX8_44 : FLk RX8 44 RX8 TX8 8 := FLk.link RX8 wg_208 rfl
theorem fo_9_8 : FO 9 8 RX8 TX8 16 := ⟨rfl, rfl, by decide, by decide, fi_9⟩
theorem wg_91 : Cond.classLink RX8 47 RX5 ∈ lw_good := List.mem_filter.mpr ⟨List.mem_of_getElem? (i := 91) (by decide +kernel), by decide +kernel⟩
theorem wg_93 : Cond.methodLink RX8 49 yX5_init ∈ lw_good := List.mem_filter.mpr ⟨List.mem_of_getElem? (i := 93) (by decide +kernel), by decide +kernel⟩
theorem wg_210 : Cond.fieldLink RX8 56 RX8 "sorted" "LIronbark$Row;" ∈ lw_good := List.mem_filter.mpr ⟨List.mem_of_getElem? (i := 210) (by decide +kernel), by decide +kernel⟩
theorem fl_RX8_56 : FLk RX8 56 RX8 TX8 10 := FLk.link RX8 wg_210 rfl
theorem fo_9_10 : FO 9 10 RX8 TX8 16 := ⟨rfl, rfl, by decide, by decide, fi_9⟩
theorem wg_211 : Cond.fieldLink RX8 59 RX8 "distances" "[I" ∈ lw_good := List.mem_filter.mpr ⟨List.mem_of_getElem? (i := 211) (by decide +kernel), by decide +kernel⟩
theorem fl_RX8_59 : FLk RX8 59 RX8 TX8 11 := FLk.link RX8 wg_211 rfl
theorem fo_9_11 : FO 9 11 RX8 TX8 16 := ⟨rfl, rfl, by decide, by decide, fi_9⟩
theorem wg_215 : Cond.fieldLink RX8 72 RX8 "lastBroken" "I" ∈ lw_good := List.mem_filter.mpr ⟨List.mem_of_getElem? (i := 215) (by decide +kernel), by decide +kernel⟩
theorem fl_RX8_72 : FLk RX8 72 RX8 TX8 15 := FLk.link RX8 wg_215 rfl
theorem fo_9_15 : FO 9 15 RX8 TX8 16 := ⟨rfl, rfl, by decide, by decide, fi_9⟩
theorem wg_107 : Cond.instantiable RX6 2 ∈ lw_good := List.mem_filter.mpr ⟨List.mem_of_getElem? (i := 107) (by decide +kernel), by decide +kernel⟩
theorem wg_34 : Cond.initialized RX6 ∈ lw_good := List.mem_filter.mpr ⟨List.mem_of_getElem? (i := 34) (by decide +kernel), by decide +kernel⟩
theorem wg_110 : Cond.code yX6_init cX6_init 1 none ∈ lw_good := List.mem_filter.mpr ⟨List.mem_of_getElem? (i := 110) (by decide +kernel), by decide +kernel⟩
theorem mi_X6_init : MI yX6_init cX6_init 1 none 0 := ⟨wg_110, wg_34, by decide +kernel, by decide +kernel⟩
theorem wt_108 : Cond.methodLinkNest RX8 75 yX6_init RX8 ∈ lw_tbl := List.mem_of_getElem? (i := 108) (by decide +kernel)
theorem wg_109 : Cond.instanceMethod yX6_init ∈ lw_good := List.mem_filter.mpr ⟨List.mem_of_getElem? (i := 109) (by decide +kernel), by decide +kernel⟩
theorem wg_197 : Cond.methodLink RX8 77 yJ7_fill_53178 ∈ lw_good := List.mem_filter.mpr ⟨List.mem_of_getElem? (i := 197) (by decide +kernel), by decide +kernel⟩
theorem wg_123 : Cond.instantiable RX7 17 ∈ lw_good := List.mem_filter.mpr ⟨List.mem_of_getElem? (i := 123) (by decide +kernel), by decide +kernel⟩
theorem wg_126 : Cond.code yX7_init cX7_init 2 none ∈ lw_good := List.mem_filter.mpr ⟨List.mem_of_getElem? (i := 126) (by decide +kernel), by decide +kernel⟩
theorem mi_X7_init : MI yX7_init cX7_init 2 none 1 := ⟨wg_126, wg_35, by decide +kernel, by decide +kernel⟩
theorem wg_124 : Cond.methodLink RX8 76 yX7_init ∈ lw_good := List.mem_filter.mpr ⟨List.mem_of_getElem? (i := 124) (by decide +kernel), by decide +kernel⟩
theorem wg_125 : Cond.instanceMethod yX7_init ∈ lw_good := List.mem_filter.mpr ⟨List.mem_of_getElem? (i := 125) (by decide +kernel), by decide +kernel⟩
theorem wg_374 : Cond.instantiable RX1 13 ∈ lw_good := List.mem_filter.mpr ⟨List.mem_of_getElem? (i := 374) (by decide +kernel), by decide +kernel⟩
theorem wg_377 : Cond.code yX1_init cX1_init 5 none ∈ lw_good := List.mem_filter.mpr ⟨List.mem_of_getElem? (i := 377) (by decide +kernel), by decide +kernel⟩
theorem mi_X1_init : MI yX1_init cX1_init 5 none 4 := ⟨wg_377, wg_43, by decide +kernel, by decide +kernel⟩
theorem wg_375 : Cond.methodLink RX8 114 yX1_init ∈ lw_good := List.mem_filter.mpr ⟨List.mem_of_getElem? (i := 375) (by decide +kernel), by decide +kernel⟩
theorem wg_376 : Cond.instanceMethod yX1_init ∈ lw_good := List.mem_filter.mpr ⟨List.mem_of_getElem? (i := 376) (by decide +kernel), by decide +kernel⟩
theorem wg_587 : Cond.constant RJ6 265 1431655765 ∈ lw_good := List.mem_filter.mpr ⟨List.mem_of_getElem? (i := 587) (by decide +kernel), by decide +kernel⟩
theorem wg_588 : Cond.constant RJ6 266 858993459 ∈ lw_good := List.mem_filter.mpr ⟨List.mem_of_getElem? (i := 588) (by decide +kernel), by decide +kernel⟩
theorem wg_589 : Cond.constant RJ6 267 252645135 ∈ lw_good := List.mem_filter.mpr ⟨List.mem_of_getElem? (i := 589) (by decide +kernel), by decide +kernel⟩
theorem wg_586 : Cond.code yJ6_bitCount_0f7a4 cJ6_bitCount_0f7a4 1 (some .int) ∈ lw_good := List.mem_filter.mpr ⟨List.mem_of_getElem? (i := 586) (by decide +kernel), by decide +kernel⟩
theorem wg_51 : Cond.initialized RJ6 ∈ lw_good := List.mem_filter.mpr ⟨List.mem_of_getElem? (i := 51) (by decide +kernel), by decide +kernel⟩
theorem mi_J6_bitCount_0f7a4 : MI yJ6_bitCount_0f7a4 cJ6_bitCount_0f7a4 1 (some .int) 1 := ⟨wg_586, wg_51, by decide +kernel, by decide +kernel⟩
theorem wg_584 : Cond.methodLink RX8 169 yJ6_bitCount_0f7a4 ∈ lw_good := List.mem_filter.mpr ⟨List.mem_of_getElem? (i := 584) (by decide +kernel), by decide +kernel⟩
theorem wg_585 : Cond.static yJ6_bitCount_0f7a4 ∈ lw_good := List.mem_filter.mpr ⟨List.mem_of_getElem? (i := 585) (by decide +kernel), by decide +kernel⟩
theorem wg_802 : Cond.code yX8_endOfDraft cX8_endOfDraft 4 (some .int) ∈ lw_good := List.mem_filter.mpr ⟨List.mem_of_getElem? (i := 802) (by decide +kernel), by decide +kernel⟩
theorem mi_X8_endOfDraft : MI yX8_endOfDraft cX8_endOfDraft 4 (some .int) 1 := ⟨wg_802, wg_29, by decide +kernel, by decide +kernel⟩
theorem wg_799 : Cond.methodLink RX8 258 yX8_endOfDraft ∈ lw_good := List.mem_filter.mpr ⟨List.mem_of_getElem? (i := 799) (by decide +kernel), by decide +kernel⟩
theorem wg_801 : Cond.instanceMethod yX8_endOfDraft ∈ lw_good := List.mem_filter.mpr ⟨List.mem_of_getElem? (i := 801) (by decide +kernel), by decide +kernel⟩
theorem wg_26 : Cond.selects RX8 yX8_endOfDraft yX8_endOfDraft ∈ lw_good := List.mem_filter.mpr ⟨List.mem_of_getElem? (i := 26) (by decide +kernel), by decide +kernel⟩
theorem wt_150 : Cond.fieldLinkNest RX8 261 RX7 "way" "LIronbark$Row;" RX8 ∈ lw_tbl := List.mem_of_getElem? (i := 150) (by decide +kernel)
theorem fl_RX8_261 : FLk RX8 261 RX7 TX7 10 := FLk.nest RX8 wt_150 (by decide +kernel)
theorem wg_811 : Cond.methodLink RX8 280 yX5_empty ∈ lw_good := List.mem_filter.mpr ⟨List.mem_of_getElem? (i := 811) (by decide +kernel), by decide +kernel⟩
theorem wg_807 : Cond.code yX5_copy cX5_copy 3 none ∈ lw_good := List.mem_filter.mpr ⟨List.mem_of_getElem? (i := 807) (by decide +kernel), by decide +kernel⟩
theorem mi_X5_copy : MI yX5_copy cX5_copy 3 none 1 := ⟨wg_807, wg_33, by decide +kernel, by decide +kernel⟩
theorem wg_804 : Cond.methodLink RX8 264 yX5_copy ∈ lw_good := List.mem_filter.mpr ⟨List.mem_of_getElem? (i := 804) (by decide +kernel), by decide +kernel⟩
theorem wg_805 : Cond.instanceMethod yX5_copy ∈ lw_good := List.mem_filter.mpr ⟨List.mem_of_getElem? (i := 805) (by decide +kernel), by decide +kernel⟩
theorem wg_806 : Cond.selects RX5 yX5_copy yX5_copy ∈ lw_good := List.mem_filter.mpr ⟨List.mem_of_getElem? (i := 806) (by decide +kernel), by decide +kernel⟩
theorem wt_396 : Cond.fieldLinkNest RX8 148 RX1 "closedUntil" "I" RX8 ∈ lw_tbl := List.mem_of_getElem? (i := 396) (by decide +kernel)
theorem fl_RX8_148 : FLk RX8 148 RX1 TX1 9 := FLk.nest RX8 wt_396 (by decide +kernel)
theorem wt_560 : Cond.fieldLinkNest RX8 191 RX3 "restEnd" "I" RX8 ∈ lw_tbl := List.mem_of_getElem? (i := 560) (by decide +kernel)
theorem fl_RX8_191 : FLk RX8 191 RX3 TX3 4 := FLk.nest RX8 wt_560 (by decide +kernel)
theorem wg_688 : Cond.code yX8_beginDay cX8_beginDay 3 none ∈ lw_good := List.mem_filter.mpr ⟨List.mem_of_getElem? (i := 688) (by decide +kernel), by decide +kernel⟩
theorem mi_X8_beginDay : MI yX8_beginDay cX8_beginDay 3 none 0 := ⟨wg_688, wg_29, by decide +kernel, by decide +kernel⟩
theorem wg_685 : Cond.methodLink RX8 295 yX8_beginDay ∈ lw_good := List.mem_filter.mpr ⟨List.mem_of_getElem? (i := 685) (by decide +kernel), by decide +kernel⟩
theorem wg_687 : Cond.instanceMethod yX8_beginDay ∈ lw_good := List.mem_filter.mpr ⟨List.mem_of_getElem? (i := 687) (by decide +kernel), by decide +kernel⟩
theorem wg_13 : Cond.selects RX8 yX8_beginDay yX8_beginDay ∈ lw_good := List.mem_filter.mpr ⟨List.mem_of_getElem? (i := 13) (by decide +kernel), by decide +kernel⟩
theorem wg_664 : Cond.code yX8_arriveAll cX8_arriveAll 2 none ∈ lw_good := List.mem_filter.mpr ⟨List.mem_of_getElem? (i := 664) (by decide +kernel), by decide +kernel⟩
theorem mi_X8_arriveAll : MI yX8_arriveAll cX8_arriveAll 2 none 0 := ⟨wg_664, wg_29, by decide +kernel, by decide +kernel⟩
theorem wg_661 : Cond.methodLink RX8 292 yX8_arriveAll ∈ lw_good := List.mem_filter.mpr ⟨List.mem_of_getElem? (i := 661) (by decide +kernel), by decide +kernel⟩
theorem wg_663 : Cond.instanceMethod yX8_arriveAll ∈ lw_good := List.mem_filter.mpr ⟨List.mem_of_getElem? (i := 663) (by decide +kernel), by decide +kernel⟩
theorem wg_11 : Cond.selects RX8 yX8_arriveAll yX8_arriveAll ∈ lw_good := List.mem_filter.mpr ⟨List.mem_of_getElem? (i := 11) (by decide +kernel), by decide +kernel⟩
theorem wg_697 : Cond.code yX8_enterAll cX8_enterAll 6 (some .int) ∈ lw_good := List.mem_filter.mpr ⟨List.mem_of_getElem? (i := 697) (by decide +kernel), by decide +kernel⟩
theorem mi_X8_enterAll : MI yX8_enterAll cX8_enterAll 6 (some .int) 0 := ⟨wg_697, wg_29, by decide +kernel, by decide +kernel⟩
theorem wg_694 : Cond.methodLink RX8 298 yX8_enterAll ∈ lw_good := List.mem_filter.mpr ⟨List.mem_of_getElem? (i := 694) (by decide +kernel), by decide +kernel⟩
theorem wg_696 : Cond.instanceMethod yX8_enterAll ∈ lw_good := List.mem_filter.mpr ⟨List.mem_of_getElem? (i := 696) (by decide +kernel), by decide +kernel⟩
theorem wg_15 : Cond.selects RX8 yX8_enterAll yX8_enterAll ∈ lw_good := List.mem_filter.mpr ⟨List.mem_of_getElem? (i := 15) (by decide +kernel), by decide +kernel⟩
