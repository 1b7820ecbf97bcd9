theorem wg_1242 : Cond.fieldLink RX9 96 RX9 "isThere" "[Z" ∈ lw_good := List.mem_filter.mpr ⟨List.mem_of_getElem? (i := 1242) (by decide +kernel), by decide +kernel⟩
theorem fl_RX9_96 : FLk RX9 96 RX9 TX9 36 := FLk.link RX9 wg_1242 rfl
theorem fi_10 : ∀ w ∈ u_ws RX9 TX9 65, w ∈ lw_good := fun w hw => List.mem_filter.mpr (by
  have h : (u_ws RX9 TX9 65).all (fun w => decide (w ∈ lw_tbl) && goodWord w) = true := by decide +kernel
  have h2 := List.all_eq_true.mp h w hw
  rw [Bool.and_eq_true, decide_eq_true_eq] at h2
  exact h2)
theorem fp_10 : FP 10 TX9 65 := ⟨by decide +kernel, by decide +kernel⟩
theorem fn_10 : vwCl[10]? = some (RX9, TX9, 65) ∧ clN 10 = 65 ∧ 10 < 20 ∧ (∀ w ∈ u_ws RX9 TX9 65, w ∈ lw_good) := ⟨rfl, rfl, by decide, fi_10⟩
theorem fd_10 : ∀ k, k < 65 → defaultValue (clT 10 k) = if refT (clT 10 k) = true then .null else .int 0 := by decide +kernel
theorem fo_10_36 : FO 10 36 RX9 TX9 65 := ⟨rfl, rfl, by decide, by decide, fi_10⟩
theorem wg_1245 : Cond.fieldLink RX9 105 RX9 "state" "[I" ∈ lw_good := List.mem_filter.mpr ⟨List.mem_of_getElem? (i := 1245) (by decide +kernel), by decide +kernel⟩
theorem fl_RX9_105 : FLk RX9 105 RX9 TX9 39 := FLk.link RX9 wg_1245 rfl
theorem fo_10_39 : FO 10 39 RX9 TX9 65 := ⟨rfl, rfl, by decide, by decide, fi_10⟩
theorem wg_1246 : Cond.fieldLink RX9 108 RX9 "station" "[I" ∈ lw_good := List.mem_filter.mpr ⟨List.mem_of_getElem? (i := 1246) (by decide +kernel), by decide +kernel⟩
theorem fl_RX9_108 : FLk RX9 108 RX9 TX9 40 := FLk.link RX9 wg_1246 rfl
theorem fo_10_40 : FO 10 40 RX9 TX9 65 := ⟨rfl, rfl, by decide, by decide, fi_10⟩
theorem wg_1416 : Cond.code yX9_in cX9_in 3 (some .boolean) ∈ lw_good := List.mem_filter.mpr ⟨List.mem_of_getElem? (i := 1416) (by decide +kernel), by decide +kernel⟩
theorem wg_74 : Cond.initialized RX9 ∈ lw_good := List.mem_filter.mpr ⟨List.mem_of_getElem? (i := 74) (by decide +kernel), by decide +kernel⟩
theorem mi_X9_in : MI yX9_in cX9_in 3 (some .boolean) 3 := ⟨wg_1416, wg_74, by decide +kernel, by decide +kernel⟩
theorem wg_1414 : Cond.methodLink RX9 177 yX9_in ∈ lw_good := List.mem_filter.mpr ⟨List.mem_of_getElem? (i := 1414) (by decide +kernel), by decide +kernel⟩
theorem wg_1415 : Cond.static yX9_in ∈ lw_good := List.mem_filter.mpr ⟨List.mem_of_getElem? (i := 1415) (by decide +kernel), by decide +kernel⟩
theorem wg_1420 : Cond.code yX9_taken cX9_taken 4 (some .int) ∈ lw_good := List.mem_filter.mpr ⟨List.mem_of_getElem? (i := 1420) (by decide +kernel), by decide +kernel⟩
theorem mi_X9_taken : MI yX9_taken cX9_taken 4 (some .int) 1 := ⟨wg_1420, wg_74, by decide +kernel, by decide +kernel⟩
theorem wg_1417 : Cond.methodLink RX9 197 yX9_taken ∈ lw_good := List.mem_filter.mpr ⟨List.mem_of_getElem? (i := 1417) (by decide +kernel), by decide +kernel⟩
theorem wg_1419 : Cond.instanceMethod yX9_taken ∈ lw_good := List.mem_filter.mpr ⟨List.mem_of_getElem? (i := 1419) (by decide +kernel), by decide +kernel⟩
theorem wg_39 : Cond.selects RX9 yX9_taken yX9_taken ∈ lw_good := List.mem_filter.mpr ⟨List.mem_of_getElem? (i := 39) (by decide +kernel), by decide +kernel⟩
theorem wg_1413 : Cond.code yX9_isStation cX9_isStation 1 (some .boolean) ∈ lw_good := List.mem_filter.mpr ⟨List.mem_of_getElem? (i := 1413) (by decide +kernel), by decide +kernel⟩
theorem mi_X9_isStation : MI yX9_isStation cX9_isStation 1 (some .boolean) 1 := ⟨wg_1413, wg_74, by decide +kernel, by decide +kernel⟩
theorem wg_1411 : Cond.methodLink RX9 193 yX9_isStation ∈ lw_good := List.mem_filter.mpr ⟨List.mem_of_getElem? (i := 1411) (by decide +kernel), by decide +kernel⟩
theorem wg_1412 : Cond.static yX9_isStation ∈ lw_good := List.mem_filter.mpr ⟨List.mem_of_getElem? (i := 1412) (by decide +kernel), by decide +kernel⟩
theorem wg_1206 : Cond.fieldLink RX9 174 RX9 "thrown" "I" ∈ lw_good := List.mem_filter.mpr ⟨List.mem_of_getElem? (i := 1206) (by decide +kernel), by decide +kernel⟩
theorem fl_RX9_174 : FLk RX9 174 RX9 TX9 0 := FLk.link RX9 wg_1206 rfl
theorem fo_10_0 : FO 10 0 RX9 TX9 65 := ⟨rfl, rfl, by decide, by decide, fi_10⟩
theorem wg_1211 : Cond.fieldLink RX9 13 RX9 "tracks" "[I" ∈ lw_good := List.mem_filter.mpr ⟨List.mem_of_getElem? (i := 1211) (by decide +kernel), by decide +kernel⟩
theorem fl_RX9_13 : FLk RX9 13 RX9 TX9 5 := FLk.link RX9 wg_1211 rfl
theorem fo_10_5 : FO 10 5 RX9 TX9 65 := ⟨rfl, rfl, by decide, by decide, fi_10⟩
