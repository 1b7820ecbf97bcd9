theorem wg_308 : Cond.classLink RL 13 "java/lang/IndexOutOfBoundsException" ∈ lw_good := List.mem_filter.mpr ⟨List.mem_of_getElem? (i := 308) (by decide +kernel), by decide +kernel⟩
theorem wt_324 : Cond.castable "java/lang/IndexOutOfBoundsException" "java/lang/IndexOutOfBoundsException" ∈ lw_tbl := List.mem_of_getElem? (i := 324) (by decide +kernel)
theorem wg_310 : Cond.classLink RL 17 "java/lang/IllegalStateException" ∈ lw_good := List.mem_filter.mpr ⟨List.mem_of_getElem? (i := 310) (by decide +kernel), by decide +kernel⟩
theorem wt_425 : Cond.castable "java/lang/IllegalStateException" "java/lang/IllegalStateException" ∈ lw_tbl := List.mem_of_getElem? (i := 425) (by decide +kernel)
theorem wg_916 : Cond.code yX8_await cX8_await 5 none ∈ lw_good := List.mem_filter.mpr ⟨List.mem_of_getElem? (i := 916) (by decide +kernel), by decide +kernel⟩
theorem mi_X8_await : MI yX8_await cX8_await 5 none 3 := ⟨wg_916, wg_66, by decide +kernel, by decide +kernel⟩
theorem wg_913 : Cond.methodLink RL 79 yX8_await ∈ lw_good := List.mem_filter.mpr ⟨List.mem_of_getElem? (i := 913) (by decide +kernel), by decide +kernel⟩
theorem wg_914 : Cond.instanceMethod yX8_await ∈ lw_good := List.mem_filter.mpr ⟨List.mem_of_getElem? (i := 914) (by decide +kernel), by decide +kernel⟩
theorem wg_915 : Cond.selects RX8 yX8_await yX8_await ∈ lw_good := List.mem_filter.mpr ⟨List.mem_of_getElem? (i := 915) (by decide +kernel), by decide +kernel⟩
theorem wg_1125 : Cond.code yX8_barred cX8_barred 3 (some .int) ∈ lw_good := List.mem_filter.mpr ⟨List.mem_of_getElem? (i := 1125) (by decide +kernel), by decide +kernel⟩
theorem mi_X8_barred : MI yX8_barred cX8_barred 3 (some .int) 1 := ⟨wg_1125, wg_66, by decide +kernel, by decide +kernel⟩
theorem wg_1122 : Cond.methodLink RL 124 yX8_barred ∈ lw_good := List.mem_filter.mpr ⟨List.mem_of_getElem? (i := 1122) (by decide +kernel), by decide +kernel⟩
theorem wg_1123 : Cond.instanceMethod yX8_barred ∈ lw_good := List.mem_filter.mpr ⟨List.mem_of_getElem? (i := 1123) (by decide +kernel), by decide +kernel⟩
theorem wg_1124 : Cond.selects RX8 yX8_barred yX8_barred ∈ lw_good := List.mem_filter.mpr ⟨List.mem_of_getElem? (i := 1124) (by decide +kernel), by decide +kernel⟩
theorem wg_1153 : Cond.code yX8_billOf cX8_billOf 2 (some .int) ∈ lw_good := List.mem_filter.mpr ⟨List.mem_of_getElem? (i := 1153) (by decide +kernel), by decide +kernel⟩
theorem mi_X8_billOf : MI yX8_billOf cX8_billOf 2 (some .int) 1 := ⟨wg_1153, wg_66, by decide +kernel, by decide +kernel⟩
theorem wg_1150 : Cond.methodLink RL 136 yX8_billOf ∈ lw_good := List.mem_filter.mpr ⟨List.mem_of_getElem? (i := 1150) (by decide +kernel), by decide +kernel⟩
theorem wg_1151 : Cond.instanceMethod yX8_billOf ∈ lw_good := List.mem_filter.mpr ⟨List.mem_of_getElem? (i := 1151) (by decide +kernel), by decide +kernel⟩
theorem wg_1152 : Cond.selects RX8 yX8_billOf yX8_billOf ∈ lw_good := List.mem_filter.mpr ⟨List.mem_of_getElem? (i := 1152) (by decide +kernel), by decide +kernel⟩
theorem wg_1111 : Cond.code yX8_block cX8_block 5 (some .int) ∈ lw_good := List.mem_filter.mpr ⟨List.mem_of_getElem? (i := 1111) (by decide +kernel), by decide +kernel⟩
theorem mi_X8_block : MI yX8_block cX8_block 5 (some .int) 2 := ⟨wg_1111, wg_66, by decide +kernel, by decide +kernel⟩
theorem wg_1108 : Cond.methodLink RL 118 yX8_block ∈ lw_good := List.mem_filter.mpr ⟨List.mem_of_getElem? (i := 1108) (by decide +kernel), by decide +kernel⟩
theorem wg_1109 : Cond.instanceMethod yX8_block ∈ lw_good := List.mem_filter.mpr ⟨List.mem_of_getElem? (i := 1109) (by decide +kernel), by decide +kernel⟩
theorem wg_1110 : Cond.selects RX8 yX8_block yX8_block ∈ lw_good := List.mem_filter.mpr ⟨List.mem_of_getElem? (i := 1110) (by decide +kernel), by decide +kernel⟩
theorem wg_309 : Cond.classLink RL 15 "java/lang/IllegalArgumentException" ∈ lw_good := List.mem_filter.mpr ⟨List.mem_of_getElem? (i := 309) (by decide +kernel), by decide +kernel⟩
theorem wt_398 : Cond.castable "java/lang/IllegalArgumentException" "java/lang/IllegalArgumentException" ∈ lw_tbl := List.mem_of_getElem? (i := 398) (by decide +kernel)
theorem wg_794 : Cond.code yX8_borrow cX8_borrow 2 (some .int) ∈ lw_good := List.mem_filter.mpr ⟨List.mem_of_getElem? (i := 794) (by decide +kernel), by decide +kernel⟩
theorem mi_X8_borrow : MI yX8_borrow cX8_borrow 2 (some .int) 1 := ⟨wg_794, wg_66, by decide +kernel, by decide +kernel⟩
theorem wg_791 : Cond.methodLink RL 54 yX8_borrow ∈ lw_good := List.mem_filter.mpr ⟨List.mem_of_getElem? (i := 791) (by decide +kernel), by decide +kernel⟩
theorem wg_792 : Cond.instanceMethod yX8_borrow ∈ lw_good := List.mem_filter.mpr ⟨List.mem_of_getElem? (i := 792) (by decide +kernel), by decide +kernel⟩
theorem wg_793 : Cond.selects RX8 yX8_borrow yX8_borrow ∈ lw_good := List.mem_filter.mpr ⟨List.mem_of_getElem? (i := 793) (by decide +kernel), by decide +kernel⟩
theorem wg_739 : Cond.code yX8_car cX8_car 4 (some .int) ∈ lw_good := List.mem_filter.mpr ⟨List.mem_of_getElem? (i := 739) (by decide +kernel), by decide +kernel⟩
theorem mi_X8_car : MI yX8_car cX8_car 4 (some .int) 1 := ⟨wg_739, wg_66, by decide +kernel, by decide +kernel⟩
theorem wg_736 : Cond.methodLink RL 51 yX8_car ∈ lw_good := List.mem_filter.mpr ⟨List.mem_of_getElem? (i := 736) (by decide +kernel), by decide +kernel⟩
theorem wg_737 : Cond.instanceMethod yX8_car ∈ lw_good := List.mem_filter.mpr ⟨List.mem_of_getElem? (i := 737) (by decide +kernel), by decide +kernel⟩
theorem wg_738 : Cond.selects RX8 yX8_car yX8_car ∈ lw_good := List.mem_filter.mpr ⟨List.mem_of_getElem? (i := 738) (by decide +kernel), by decide +kernel⟩
theorem wg_1139 : Cond.code yX8_carAt cX8_carAt 3 (some .int) ∈ lw_good := List.mem_filter.mpr ⟨List.mem_of_getElem? (i := 1139) (by decide +kernel), by decide +kernel⟩
theorem mi_X8_carAt : MI yX8_carAt cX8_carAt 3 (some .int) 1 := ⟨wg_1139, wg_66, by decide +kernel, by decide +kernel⟩
theorem wg_1136 : Cond.methodLink RL 130 yX8_carAt ∈ lw_good := List.mem_filter.mpr ⟨List.mem_of_getElem? (i := 1136) (by decide +kernel), by decide +kernel⟩
theorem wg_1137 : Cond.instanceMethod yX8_carAt ∈ lw_good := List.mem_filter.mpr ⟨List.mem_of_getElem? (i := 1137) (by decide +kernel), by decide +kernel⟩
theorem wg_1138 : Cond.selects RX8 yX8_carAt yX8_carAt ∈ lw_good := List.mem_filter.mpr ⟨List.mem_of_getElem? (i := 1138) (by decide +kernel), by decide +kernel⟩
theorem wg_1146 : Cond.code yX8_carByPapers cX8_carByPapers 5 (some .int) ∈ lw_good := List.mem_filter.mpr ⟨List.mem_of_getElem? (i := 1146) (by decide +kernel), by decide +kernel⟩
theorem mi_X8_carByPapers : MI yX8_carByPapers cX8_carByPapers 5 (some .int) 1 := ⟨wg_1146, wg_66, by decide +kernel, by decide +kernel⟩
theorem wg_1143 : Cond.methodLink RL 133 yX8_carByPapers ∈ lw_good := List.mem_filter.mpr ⟨List.mem_of_getElem? (i := 1143) (by decide +kernel), by decide +kernel⟩
theorem wg_1144 : Cond.instanceMethod yX8_carByPapers ∈ lw_good := List.mem_filter.mpr ⟨List.mem_of_getElem? (i := 1144) (by decide +kernel), by decide +kernel⟩
theorem wg_1145 : Cond.selects RX8 yX8_carByPapers yX8_carByPapers ∈ lw_good := List.mem_filter.mpr ⟨List.mem_of_getElem? (i := 1145) (by decide +kernel), by decide +kernel⟩
theorem wg_1010 : Cond.code yX8_clear cX8_clear 6 (some .int) ∈ lw_good := List.mem_filter.mpr ⟨List.mem_of_getElem? (i := 1010) (by decide +kernel), by decide +kernel⟩
theorem mi_X8_clear : MI yX8_clear cX8_clear 6 (some .int) 1 := ⟨wg_1010, wg_66, by decide +kernel, by decide +kernel⟩
theorem wg_1007 : Cond.methodLink RL 89 yX8_clear ∈ lw_good := List.mem_filter.mpr ⟨List.mem_of_getElem? (i := 1007) (by decide +kernel), by decide +kernel⟩
theorem wg_1008 : Cond.instanceMethod yX8_clear ∈ lw_good := List.mem_filter.mpr ⟨List.mem_of_getElem? (i := 1008) (by decide +kernel), by decide +kernel⟩
theorem wg_1009 : Cond.selects RX8 yX8_clear yX8_clear ∈ lw_good := List.mem_filter.mpr ⟨List.mem_of_getElem? (i := 1009) (by decide +kernel), by decide +kernel⟩
theorem wg_852 : Cond.code yX8_couple cX8_couple 5 (some .int) ∈ lw_good := List.mem_filter.mpr ⟨List.mem_of_getElem? (i := 852) (by decide +kernel), by decide +kernel⟩
theorem mi_X8_couple : MI yX8_couple cX8_couple 5 (some .int) 2 := ⟨wg_852, wg_66, by decide +kernel, by decide +kernel⟩
theorem wg_849 : Cond.methodLink RL 66 yX8_couple ∈ lw_good := List.mem_filter.mpr ⟨List.mem_of_getElem? (i := 849) (by decide +kernel), by decide +kernel⟩
theorem wg_850 : Cond.instanceMethod yX8_couple ∈ lw_good := List.mem_filter.mpr ⟨List.mem_of_getElem? (i := 850) (by decide +kernel), by decide +kernel⟩
theorem wg_851 : Cond.selects RX8 yX8_couple yX8_couple ∈ lw_good := List.mem_filter.mpr ⟨List.mem_of_getElem? (i := 851) (by decide +kernel), by decide +kernel⟩
theorem wg_660 : Cond.code yX8_crew cX8_crew 2 (some .int) ∈ lw_good := List.mem_filter.mpr ⟨List.mem_of_getElem? (i := 660) (by decide +kernel), by decide +kernel⟩
theorem mi_X8_crew : MI yX8_crew cX8_crew 2 (some .int) 1 := ⟨wg_660, wg_66, by decide +kernel, by decide +kernel⟩
theorem wg_657 : Cond.methodLink RL 42 yX8_crew ∈ lw_good := List.mem_filter.mpr ⟨List.mem_of_getElem? (i := 657) (by decide +kernel), by decide +kernel⟩
theorem wg_658 : Cond.instanceMethod yX8_crew ∈ lw_good := List.mem_filter.mpr ⟨List.mem_of_getElem? (i := 658) (by decide +kernel), by decide +kernel⟩
theorem wg_659 : Cond.selects RX8 yX8_crew yX8_crew ∈ lw_good := List.mem_filter.mpr ⟨List.mem_of_getElem? (i := 659) (by decide +kernel), by decide +kernel⟩
theorem wg_837 : Cond.code yX8_dissolve cX8_dissolve 3 (some .int) ∈ lw_good := List.mem_filter.mpr ⟨List.mem_of_getElem? (i := 837) (by decide +kernel), by decide +kernel⟩
theorem mi_X8_dissolve : MI yX8_dissolve cX8_dissolve 3 (some .int) 1 := ⟨wg_837, wg_66, by decide +kernel, by decide +kernel⟩
theorem wg_834 : Cond.methodLink RL 63 yX8_dissolve ∈ lw_good := List.mem_filter.mpr ⟨List.mem_of_getElem? (i := 834) (by decide +kernel), by decide +kernel⟩
theorem wg_835 : Cond.instanceMethod yX8_dissolve ∈ lw_good := List.mem_filter.mpr ⟨List.mem_of_getElem? (i := 835) (by decide +kernel), by decide +kernel⟩
theorem wg_836 : Cond.selects RX8 yX8_dissolve yX8_dissolve ∈ lw_good := List.mem_filter.mpr ⟨List.mem_of_getElem? (i := 836) (by decide +kernel), by decide +kernel⟩
theorem wg_1132 : Cond.code yX8_duty cX8_duty 3 (some .int) ∈ lw_good := List.mem_filter.mpr ⟨List.mem_of_getElem? (i := 1132) (by decide +kernel), by decide +kernel⟩
theorem mi_X8_duty : MI yX8_duty cX8_duty 3 (some .int) 1 := ⟨wg_1132, wg_66, by decide +kernel, by decide +kernel⟩
theorem wg_1129 : Cond.methodLink RL 127 yX8_duty ∈ lw_good := List.mem_filter.mpr ⟨List.mem_of_getElem? (i := 1129) (by decide +kernel), by decide +kernel⟩
theorem wg_1130 : Cond.instanceMethod yX8_duty ∈ lw_good := List.mem_filter.mpr ⟨List.mem_of_getElem? (i := 1130) (by decide +kernel), by decide +kernel⟩
theorem wg_1131 : Cond.selects RX8 yX8_duty yX8_duty ∈ lw_good := List.mem_filter.mpr ⟨List.mem_of_getElem? (i := 1131) (by decide +kernel), by decide +kernel⟩
theorem wg_634 : Cond.code yX8_engine cX8_engine 3 (some .int) ∈ lw_good := List.mem_filter.mpr ⟨List.mem_of_getElem? (i := 634) (by decide +kernel), by decide +kernel⟩
theorem mi_X8_engine : MI yX8_engine cX8_engine 3 (some .int) 2 := ⟨wg_634, wg_66, by decide +kernel, by decide +kernel⟩
theorem wg_631 : Cond.methodLink RL 39 yX8_engine ∈ lw_good := List.mem_filter.mpr ⟨List.mem_of_getElem? (i := 631) (by decide +kernel), by decide +kernel⟩
theorem wg_632 : Cond.instanceMethod yX8_engine ∈ lw_good := List.mem_filter.mpr ⟨List.mem_of_getElem? (i := 632) (by decide +kernel), by decide +kernel⟩
theorem wg_633 : Cond.selects RX8 yX8_engine yX8_engine ∈ lw_good := List.mem_filter.mpr ⟨List.mem_of_getElem? (i := 633) (by decide +kernel), by decide +kernel⟩
theorem wg_580 : Cond.code yX8_fail cX8_fail 5 (some .boolean) ∈ lw_good := List.mem_filter.mpr ⟨List.mem_of_getElem? (i := 580) (by decide +kernel), by decide +kernel⟩
theorem mi_X8_fail : MI yX8_fail cX8_fail 5 (some .boolean) 2 := ⟨wg_580, wg_66, by decide +kernel, by decide +kernel⟩
theorem wg_577 : Cond.methodLink RL 23 yX8_fail ∈ lw_good := List.mem_filter.mpr ⟨List.mem_of_getElem? (i := 577) (by decide +kernel), by decide +kernel⟩
theorem wg_578 : Cond.instanceMethod yX8_fail ∈ lw_good := List.mem_filter.mpr ⟨List.mem_of_getElem? (i := 578) (by decide +kernel), by decide +kernel⟩
theorem wg_579 : Cond.selects RX8 yX8_fail yX8_fail ∈ lw_good := List.mem_filter.mpr ⟨List.mem_of_getElem? (i := 579) (by decide +kernel), by decide +kernel⟩
theorem wg_605 : Cond.code yX8_flag cX8_flag 3 none ∈ lw_good := List.mem_filter.mpr ⟨List.mem_of_getElem? (i := 605) (by decide +kernel), by decide +kernel⟩
theorem mi_X8_flag : MI yX8_flag cX8_flag 3 none 1 := ⟨wg_605, wg_66, by decide +kernel, by decide +kernel⟩
theorem wg_602 : Cond.methodLink RL 27 yX8_flag ∈ lw_good := List.mem_filter.mpr ⟨List.mem_of_getElem? (i := 602) (by decide +kernel), by decide +kernel⟩
theorem wg_603 : Cond.instanceMethod yX8_flag ∈ lw_good := List.mem_filter.mpr ⟨List.mem_of_getElem? (i := 603) (by decide +kernel), by decide +kernel⟩
theorem wg_604 : Cond.selects RX8 yX8_flag yX8_flag ∈ lw_good := List.mem_filter.mpr ⟨List.mem_of_getElem? (i := 604) (by decide +kernel), by decide +kernel⟩
theorem wg_809 : Cond.code yX8_form cX8_form 6 (some .int) ∈ lw_good := List.mem_filter.mpr ⟨List.mem_of_getElem? (i := 809) (by decide +kernel), by decide +kernel⟩
theorem mi_X8_form : MI yX8_form cX8_form 6 (some .int) 2 := ⟨wg_809, wg_66, by decide +kernel, by decide +kernel⟩
theorem wg_806 : Cond.methodLink RL 60 yX8_form ∈ lw_good := List.mem_filter.mpr ⟨List.mem_of_getElem? (i := 806) (by decide +kernel), by decide +kernel⟩
theorem wg_807 : Cond.instanceMethod yX8_form ∈ lw_good := List.mem_filter.mpr ⟨List.mem_of_getElem? (i := 807) (by decide +kernel), by decide +kernel⟩
theorem wg_808 : Cond.selects RX8 yX8_form yX8_form ∈ lw_good := List.mem_filter.mpr ⟨List.mem_of_getElem? (i := 808) (by decide +kernel), by decide +kernel⟩
theorem wg_1086 : Cond.code yX8_freeTracks cX8_freeTracks 2 (some .int) ∈ lw_good := List.mem_filter.mpr ⟨List.mem_of_getElem? (i := 1086) (by decide +kernel), by decide +kernel⟩
theorem mi_X8_freeTracks : MI yX8_freeTracks cX8_freeTracks 2 (some .int) 1 := ⟨wg_1086, wg_66, by decide +kernel, by decide +kernel⟩
theorem wg_1083 : Cond.methodLink RL 109 yX8_freeTracks ∈ lw_good := List.mem_filter.mpr ⟨List.mem_of_getElem? (i := 1083) (by decide +kernel), by decide +kernel⟩
theorem wg_1084 : Cond.instanceMethod yX8_freeTracks ∈ lw_good := List.mem_filter.mpr ⟨List.mem_of_getElem? (i := 1084) (by decide +kernel), by decide +kernel⟩
theorem wg_1085 : Cond.selects RX8 yX8_freeTracks yX8_freeTracks ∈ lw_good := List.mem_filter.mpr ⟨List.mem_of_getElem? (i := 1085) (by decide +kernel), by decide +kernel⟩
theorem wg_1093 : Cond.code yX8_holder cX8_holder 2 (some .int) ∈ lw_good := List.mem_filter.mpr ⟨List.mem_of_getElem? (i := 1093) (by decide +kernel), by decide +kernel⟩
theorem mi_X8_holder : MI yX8_holder cX8_holder 2 (some .int) 1 := ⟨wg_1093, wg_66, by decide +kernel, by decide +kernel⟩
theorem wg_1090 : Cond.methodLink RL 112 yX8_holder ∈ lw_good := List.mem_filter.mpr ⟨List.mem_of_getElem? (i := 1090) (by decide +kernel), by decide +kernel⟩
theorem wg_1091 : Cond.instanceMethod yX8_holder ∈ lw_good := List.mem_filter.mpr ⟨List.mem_of_getElem? (i := 1091) (by decide +kernel), by decide +kernel⟩
theorem wg_1092 : Cond.selects RX8 yX8_holder yX8_holder ∈ lw_good := List.mem_filter.mpr ⟨List.mem_of_getElem? (i := 1092) (by decide +kernel), by decide +kernel⟩
theorem wg_1100 : Cond.code yX8_holderByTrains cX8_holderByTrains 3 (some .int) ∈ lw_good := List.mem_filter.mpr ⟨List.mem_of_getElem? (i := 1100) (by decide +kernel), by decide +kernel⟩
theorem mi_X8_holderByTrains : MI yX8_holderByTrains cX8_holderByTrains 3 (some .int) 1 := ⟨wg_1100, wg_66, by decide +kernel, by decide +kernel⟩
theorem wg_1097 : Cond.methodLink RL 115 yX8_holderByTrains ∈ lw_good := List.mem_filter.mpr ⟨List.mem_of_getElem? (i := 1097) (by decide +kernel), by decide +kernel⟩
theorem wg_1098 : Cond.instanceMethod yX8_holderByTrains ∈ lw_good := List.mem_filter.mpr ⟨List.mem_of_getElem? (i := 1098) (by decide +kernel), by decide +kernel⟩
theorem wg_1099 : Cond.selects RX8 yX8_holderByTrains yX8_holderByTrains ∈ lw_good := List.mem_filter.mpr ⟨List.mem_of_getElem? (i := 1099) (by decide +kernel), by decide +kernel⟩
theorem wg_1178 : Cond.code yX8_homeward cX8_homeward 3 (some .int) ∈ lw_good := List.mem_filter.mpr ⟨List.mem_of_getElem? (i := 1178) (by decide +kernel), by decide +kernel⟩
theorem mi_X8_homeward : MI yX8_homeward cX8_homeward 3 (some .int) 1 := ⟨wg_1178, wg_66, by decide +kernel, by decide +kernel⟩
theorem wg_1175 : Cond.methodLink RL 145 yX8_homeward ∈ lw_good := List.mem_filter.mpr ⟨List.mem_of_getElem? (i := 1175) (by decide +kernel), by decide +kernel⟩
theorem wg_1176 : Cond.instanceMethod yX8_homeward ∈ lw_good := List.mem_filter.mpr ⟨List.mem_of_getElem? (i := 1176) (by decide +kernel), by decide +kernel⟩
theorem wg_1177 : Cond.selects RX8 yX8_homeward yX8_homeward ∈ lw_good := List.mem_filter.mpr ⟨List.mem_of_getElem? (i := 1177) (by decide +kernel), by decide +kernel⟩
theorem wg_612 : Cond.code yX8_hours cX8_hours 5 none ∈ lw_good := List.mem_filter.mpr ⟨List.mem_of_getElem? (i := 612) (by decide +kernel), by decide +kernel⟩
theorem mi_X8_hours : MI yX8_hours cX8_hours 5 none 3 := ⟨wg_612, wg_66, by decide +kernel, by decide +kernel⟩
theorem wg_609 : Cond.methodLink RL 31 yX8_hours ∈ lw_good := List.mem_filter.mpr ⟨List.mem_of_getElem? (i := 609) (by decide +kernel), by decide +kernel⟩
theorem wg_610 : Cond.instanceMethod yX8_hours ∈ lw_good := List.mem_filter.mpr ⟨List.mem_of_getElem? (i := 610) (by decide +kernel), by decide +kernel⟩
theorem wg_611 : Cond.selects RX8 yX8_hours yX8_hours ∈ lw_good := List.mem_filter.mpr ⟨List.mem_of_getElem? (i := 611) (by decide +kernel), by decide +kernel⟩
theorem wg_314 : Cond.code yX8_tracks cX8_tracks 5 (some .int) ∈ lw_good := List.mem_filter.mpr ⟨List.mem_of_getElem? (i := 314) (by decide +kernel), by decide +kernel⟩
theorem mi_X8_tracks : MI yX8_tracks cX8_tracks 5 (some .int) 2 := ⟨wg_314, wg_66, by decide +kernel, by decide +kernel⟩
theorem wg_311 : Cond.methodLink RL 7 yX8_tracks ∈ lw_good := List.mem_filter.mpr ⟨List.mem_of_getElem? (i := 311) (by decide +kernel), by decide +kernel⟩
theorem wg_312 : Cond.instanceMethod yX8_tracks ∈ lw_good := List.mem_filter.mpr ⟨List.mem_of_getElem? (i := 312) (by decide +kernel), by decide +kernel⟩
theorem wg_313 : Cond.selects RX8 yX8_tracks yX8_tracks ∈ lw_good := List.mem_filter.mpr ⟨List.mem_of_getElem? (i := 313) (by decide +kernel), by decide +kernel⟩
theorem wg_445 : Cond.code yX8_lay cX8_lay 5 (some .int) ∈ lw_good := List.mem_filter.mpr ⟨List.mem_of_getElem? (i := 445) (by decide +kernel), by decide +kernel⟩
theorem mi_X8_lay : MI yX8_lay cX8_lay 5 (some .int) 4 := ⟨wg_445, wg_66, by decide +kernel, by decide +kernel⟩
theorem wg_442 : Cond.methodLink RL 19 yX8_lay ∈ lw_good := List.mem_filter.mpr ⟨List.mem_of_getElem? (i := 442) (by decide +kernel), by decide +kernel⟩
theorem wg_443 : Cond.instanceMethod yX8_lay ∈ lw_good := List.mem_filter.mpr ⟨List.mem_of_getElem? (i := 443) (by decide +kernel), by decide +kernel⟩
theorem wg_444 : Cond.selects RX8 yX8_lay yX8_lay ∈ lw_good := List.mem_filter.mpr ⟨List.mem_of_getElem? (i := 444) (by decide +kernel), by decide +kernel⟩
theorem wg_619 : Cond.code yX8_repair cX8_repair 4 (some .int) ∈ lw_good := List.mem_filter.mpr ⟨List.mem_of_getElem? (i := 619) (by decide +kernel), by decide +kernel⟩
theorem mi_X8_repair : MI yX8_repair cX8_repair 4 (some .int) 1 := ⟨wg_619, wg_66, by decide +kernel, by decide +kernel⟩
theorem wg_616 : Cond.methodLink RL 35 yX8_repair ∈ lw_good := List.mem_filter.mpr ⟨List.mem_of_getElem? (i := 616) (by decide +kernel), by decide +kernel⟩
theorem wg_617 : Cond.instanceMethod yX8_repair ∈ lw_good := List.mem_filter.mpr ⟨List.mem_of_getElem? (i := 617) (by decide +kernel), by decide +kernel⟩
theorem wg_618 : Cond.selects RX8 yX8_repair yX8_repair ∈ lw_good := List.mem_filter.mpr ⟨List.mem_of_getElem? (i := 618) (by decide +kernel), by decide +kernel⟩
theorem wg_694 : Cond.code yX8_learn cX8_learn 4 (some .int) ∈ lw_good := List.mem_filter.mpr ⟨List.mem_of_getElem? (i := 694) (by decide +kernel), by decide +kernel⟩
theorem mi_X8_learn : MI yX8_learn cX8_learn 4 (some .int) 2 := ⟨wg_694, wg_66, by decide +kernel, by decide +kernel⟩
theorem wg_691 : Cond.methodLink RL 45 yX8_learn ∈ lw_good := List.mem_filter.mpr ⟨List.mem_of_getElem? (i := 691) (by decide +kernel), by decide +kernel⟩
theorem wg_692 : Cond.instanceMethod yX8_learn ∈ lw_good := List.mem_filter.mpr ⟨List.mem_of_getElem? (i := 692) (by decide +kernel), by decide +kernel⟩
theorem wg_693 : Cond.selects RX8 yX8_learn yX8_learn ∈ lw_good := List.mem_filter.mpr ⟨List.mem_of_getElem? (i := 693) (by decide +kernel), by decide +kernel⟩
theorem wg_715 : Cond.code yX8_rest cX8_rest 3 (some .int) ∈ lw_good := List.mem_filter.mpr ⟨List.mem_of_getElem? (i := 715) (by decide +kernel), by decide +kernel⟩
theorem mi_X8_rest : MI yX8_rest cX8_rest 3 (some .int) 1 := ⟨wg_715, wg_66, by decide +kernel, by decide +kernel⟩
theorem wg_712 : Cond.methodLink RL 48 yX8_rest ∈ lw_good := List.mem_filter.mpr ⟨List.mem_of_getElem? (i := 712) (by decide +kernel), by decide +kernel⟩
theorem wg_713 : Cond.instanceMethod yX8_rest ∈ lw_good := List.mem_filter.mpr ⟨List.mem_of_getElem? (i := 713) (by decide +kernel), by decide +kernel⟩
theorem wg_714 : Cond.selects RX8 yX8_rest yX8_rest ∈ lw_good := List.mem_filter.mpr ⟨List.mem_of_getElem? (i := 714) (by decide +kernel), by decide +kernel⟩
theorem wg_802 : Cond.code yX8_repay cX8_repay 2 (some .int) ∈ lw_good := List.mem_filter.mpr ⟨List.mem_of_getElem? (i := 802) (by decide +kernel), by decide +kernel⟩
theorem mi_X8_repay : MI yX8_repay cX8_repay 2 (some .int) 1 := ⟨wg_802, wg_66, by decide +kernel, by decide +kernel⟩
theorem wg_799 : Cond.methodLink RL 57 yX8_repay ∈ lw_good := List.mem_filter.mpr ⟨List.mem_of_getElem? (i := 799) (by decide +kernel), by decide +kernel⟩
theorem wg_800 : Cond.instanceMethod yX8_repay ∈ lw_good := List.mem_filter.mpr ⟨List.mem_of_getElem? (i := 800) (by decide +kernel), by decide +kernel⟩
theorem wg_801 : Cond.selects RX8 yX8_repay yX8_repay ∈ lw_good := List.mem_filter.mpr ⟨List.mem_of_getElem? (i := 801) (by decide +kernel), by decide +kernel⟩
theorem wg_871 : Cond.code yX8_uncouple cX8_uncouple 5 (some .int) ∈ lw_good := List.mem_filter.mpr ⟨List.mem_of_getElem? (i := 871) (by decide +kernel), by decide +kernel⟩
theorem mi_X8_uncouple : MI yX8_uncouple cX8_uncouple 5 (some .int) 2 := ⟨wg_871, wg_66, by decide +kernel, by decide +kernel⟩
theorem wg_868 : Cond.methodLink RL 69 yX8_uncouple ∈ lw_good := List.mem_filter.mpr ⟨List.mem_of_getElem? (i := 868) (by decide +kernel), by decide +kernel⟩
theorem wg_869 : Cond.instanceMethod yX8_uncouple ∈ lw_good := List.mem_filter.mpr ⟨List.mem_of_getElem? (i := 869) (by decide +kernel), by decide +kernel⟩
theorem wg_870 : Cond.selects RX8 yX8_uncouple yX8_uncouple ∈ lw_good := List.mem_filter.mpr ⟨List.mem_of_getElem? (i := 870) (by decide +kernel), by decide +kernel⟩
theorem wg_882 : Cond.code yX8_leg cX8_leg 2 (some .int) ∈ lw_good := List.mem_filter.mpr ⟨List.mem_of_getElem? (i := 882) (by decide +kernel), by decide +kernel⟩
theorem mi_X8_leg : MI yX8_leg cX8_leg 2 (some .int) 1 := ⟨wg_882, wg_66, by decide +kernel, by decide +kernel⟩
theorem wg_879 : Cond.methodLink RL 72 yX8_leg ∈ lw_good := List.mem_filter.mpr ⟨List.mem_of_getElem? (i := 879) (by decide +kernel), by decide +kernel⟩
theorem wg_880 : Cond.instanceMethod yX8_leg ∈ lw_good := List.mem_filter.mpr ⟨List.mem_of_getElem? (i := 880) (by decide +kernel), by decide +kernel⟩
theorem wg_881 : Cond.selects RX8 yX8_leg yX8_leg ∈ lw_good := List.mem_filter.mpr ⟨List.mem_of_getElem? (i := 881) (by decide +kernel), by decide +kernel⟩
theorem wg_889 : Cond.code yX8_plan cX8_plan 6 (some .int) ∈ lw_good := List.mem_filter.mpr ⟨List.mem_of_getElem? (i := 889) (by decide +kernel), by decide +kernel⟩
theorem mi_X8_plan : MI yX8_plan cX8_plan 6 (some .int) 3 := ⟨wg_889, wg_66, by decide +kernel, by decide +kernel⟩
theorem wg_886 : Cond.methodLink RL 75 yX8_plan ∈ lw_good := List.mem_filter.mpr ⟨List.mem_of_getElem? (i := 886) (by decide +kernel), by decide +kernel⟩
theorem wg_887 : Cond.instanceMethod yX8_plan ∈ lw_good := List.mem_filter.mpr ⟨List.mem_of_getElem? (i := 887) (by decide +kernel), by decide +kernel⟩
theorem wg_888 : Cond.selects RX8 yX8_plan yX8_plan ∈ lw_good := List.mem_filter.mpr ⟨List.mem_of_getElem? (i := 888) (by decide +kernel), by decide +kernel⟩
theorem wg_923 : Cond.code yX8_run cX8_run 4 (some .int) ∈ lw_good := List.mem_filter.mpr ⟨List.mem_of_getElem? (i := 923) (by decide +kernel), by decide +kernel⟩
theorem mi_X8_run : MI yX8_run cX8_run 4 (some .int) 1 := ⟨wg_923, wg_66, by decide +kernel, by decide +kernel⟩
theorem wg_920 : Cond.methodLink RL 82 yX8_run ∈ lw_good := List.mem_filter.mpr ⟨List.mem_of_getElem? (i := 920) (by decide +kernel), by decide +kernel⟩
theorem wg_921 : Cond.instanceMethod yX8_run ∈ lw_good := List.mem_filter.mpr ⟨List.mem_of_getElem? (i := 921) (by decide +kernel), by decide +kernel⟩
theorem wg_922 : Cond.selects RX8 yX8_run yX8_run ∈ lw_good := List.mem_filter.mpr ⟨List.mem_of_getElem? (i := 922) (by decide +kernel), by decide +kernel⟩
theorem wg_995 : Cond.code yX8_passSignal cX8_passSignal 7 (some .boolean) ∈ lw_good := List.mem_filter.mpr ⟨List.mem_of_getElem? (i := 995) (by decide +kernel), by decide +kernel⟩
theorem mi_X8_passSignal : MI yX8_passSignal cX8_passSignal 7 (some .boolean) 1 := ⟨wg_995, wg_66, by decide +kernel, by decide +kernel⟩
theorem wg_992 : Cond.methodLink RL 85 yX8_passSignal ∈ lw_good := List.mem_filter.mpr ⟨List.mem_of_getElem? (i := 992) (by decide +kernel), by decide +kernel⟩
theorem wg_993 : Cond.instanceMethod yX8_passSignal ∈ lw_good := List.mem_filter.mpr ⟨List.mem_of_getElem? (i := 993) (by decide +kernel), by decide +kernel⟩
theorem wg_994 : Cond.selects RX8 yX8_passSignal yX8_passSignal ∈ lw_good := List.mem_filter.mpr ⟨List.mem_of_getElem? (i := 994) (by decide +kernel), by decide +kernel⟩
theorem wg_1021 : Cond.code yX8_rate cX8_rate 8 (some .int) ∈ lw_good := List.mem_filter.mpr ⟨List.mem_of_getElem? (i := 1021) (by decide +kernel), by decide +kernel⟩
theorem mi_X8_rate : MI yX8_rate cX8_rate 8 (some .int) 4 := ⟨wg_1021, wg_66, by decide +kernel, by decide +kernel⟩
theorem wg_1018 : Cond.methodLink RL 92 yX8_rate ∈ lw_good := List.mem_filter.mpr ⟨List.mem_of_getElem? (i := 1018) (by decide +kernel), by decide +kernel⟩
theorem wg_1019 : Cond.instanceMethod yX8_rate ∈ lw_good := List.mem_filter.mpr ⟨List.mem_of_getElem? (i := 1019) (by decide +kernel), by decide +kernel⟩
theorem wg_1020 : Cond.selects RX8 yX8_rate yX8_rate ∈ lw_good := List.mem_filter.mpr ⟨List.mem_of_getElem? (i := 1020) (by decide +kernel), by decide +kernel⟩
theorem wg_1028 : Cond.code yX8_offer cX8_offer 4 (some .int) ∈ lw_good := List.mem_filter.mpr ⟨List.mem_of_getElem? (i := 1028) (by decide +kernel), by decide +kernel⟩
theorem mi_X8_offer : MI yX8_offer cX8_offer 4 (some .int) 2 := ⟨wg_1028, wg_66, by decide +kernel, by decide +kernel⟩
theorem wg_1025 : Cond.methodLink RL 96 yX8_offer ∈ lw_good := List.mem_filter.mpr ⟨List.mem_of_getElem? (i := 1025) (by decide +kernel), by decide +kernel⟩
theorem wg_1026 : Cond.instanceMethod yX8_offer ∈ lw_good := List.mem_filter.mpr ⟨List.mem_of_getElem? (i := 1026) (by decide +kernel), by decide +kernel⟩
theorem wg_1027 : Cond.selects RX8 yX8_offer yX8_offer ∈ lw_good := List.mem_filter.mpr ⟨List.mem_of_getElem? (i := 1027) (by decide +kernel), by decide +kernel⟩
theorem wg_1057 : Cond.code yX8_load cX8_load 5 none ∈ lw_good := List.mem_filter.mpr ⟨List.mem_of_getElem? (i := 1057) (by decide +kernel), by decide +kernel⟩
theorem mi_X8_load : MI yX8_load cX8_load 5 none 2 := ⟨wg_1057, wg_66, by decide +kernel, by decide +kernel⟩
theorem wg_1054 : Cond.methodLink RL 99 yX8_load ∈ lw_good := List.mem_filter.mpr ⟨List.mem_of_getElem? (i := 1054) (by decide +kernel), by decide +kernel⟩
theorem wg_1055 : Cond.instanceMethod yX8_load ∈ lw_good := List.mem_filter.mpr ⟨List.mem_of_getElem? (i := 1055) (by decide +kernel), by decide +kernel⟩
theorem wg_1056 : Cond.selects RX8 yX8_load yX8_load ∈ lw_good := List.mem_filter.mpr ⟨List.mem_of_getElem? (i := 1056) (by decide +kernel), by decide +kernel⟩
theorem wg_1064 : Cond.code yX8_unload cX8_unload 4 (some .int) ∈ lw_good := List.mem_filter.mpr ⟨List.mem_of_getElem? (i := 1064) (by decide +kernel), by decide +kernel⟩
theorem mi_X8_unload : MI yX8_unload cX8_unload 4 (some .int) 1 := ⟨wg_1064, wg_66, by decide +kernel, by decide +kernel⟩
theorem wg_1061 : Cond.methodLink RL 103 yX8_unload ∈ lw_good := List.mem_filter.mpr ⟨List.mem_of_getElem? (i := 1061) (by decide +kernel), by decide +kernel⟩
theorem wg_1062 : Cond.instanceMethod yX8_unload ∈ lw_good := List.mem_filter.mpr ⟨List.mem_of_getElem? (i := 1062) (by decide +kernel), by decide +kernel⟩
theorem wg_1063 : Cond.selects RX8 yX8_unload yX8_unload ∈ lw_good := List.mem_filter.mpr ⟨List.mem_of_getElem? (i := 1063) (by decide +kernel), by decide +kernel⟩
theorem wg_1071 : Cond.code yX8_sort cX8_sort 5 (some .int) ∈ lw_good := List.mem_filter.mpr ⟨List.mem_of_getElem? (i := 1071) (by decide +kernel), by decide +kernel⟩
theorem mi_X8_sort : MI yX8_sort cX8_sort 5 (some .int) 1 := ⟨wg_1071, wg_66, by decide +kernel, by decide +kernel⟩
theorem wg_1068 : Cond.methodLink RL 106 yX8_sort ∈ lw_good := List.mem_filter.mpr ⟨List.mem_of_getElem? (i := 1068) (by decide +kernel), by decide +kernel⟩
theorem wg_1069 : Cond.instanceMethod yX8_sort ∈ lw_good := List.mem_filter.mpr ⟨List.mem_of_getElem? (i := 1069) (by decide +kernel), by decide +kernel⟩
theorem wg_1070 : Cond.selects RX8 yX8_sort yX8_sort ∈ lw_good := List.mem_filter.mpr ⟨List.mem_of_getElem? (i := 1070) (by decide +kernel), by decide +kernel⟩
theorem wg_1118 : Cond.code yX8_train cX8_train 4 (some .int) ∈ lw_good := List.mem_filter.mpr ⟨List.mem_of_getElem? (i := 1118) (by decide +kernel), by decide +kernel⟩
theorem mi_X8_train : MI yX8_train cX8_train 4 (some .int) 2 := ⟨wg_1118, wg_66, by decide +kernel, by decide +kernel⟩
theorem wg_1115 : Cond.methodLink RL 121 yX8_train ∈ lw_good := List.mem_filter.mpr ⟨List.mem_of_getElem? (i := 1115) (by decide +kernel), by decide +kernel⟩
theorem wg_1116 : Cond.instanceMethod yX8_train ∈ lw_good := List.mem_filter.mpr ⟨List.mem_of_getElem? (i := 1116) (by decide +kernel), by decide +kernel⟩
theorem wg_1117 : Cond.selects RX8 yX8_train yX8_train ∈ lw_good := List.mem_filter.mpr ⟨List.mem_of_getElem? (i := 1117) (by decide +kernel), by decide +kernel⟩
theorem wg_1160 : Cond.code yX8_paper cX8_paper 4 (some .int) ∈ lw_good := List.mem_filter.mpr ⟨List.mem_of_getElem? (i := 1160) (by decide +kernel), by decide +kernel⟩
theorem mi_X8_paper : MI yX8_paper cX8_paper 4 (some .int) 2 := ⟨wg_1160, wg_66, by decide +kernel, by decide +kernel⟩
theorem wg_1157 : Cond.methodLink RL 139 yX8_paper ∈ lw_good := List.mem_filter.mpr ⟨List.mem_of_getElem? (i := 1157) (by decide +kernel), by decide +kernel⟩
theorem wg_1158 : Cond.instanceMethod yX8_paper ∈ lw_good := List.mem_filter.mpr ⟨List.mem_of_getElem? (i := 1158) (by decide +kernel), by decide +kernel⟩
theorem wg_1159 : Cond.selects RX8 yX8_paper yX8_paper ∈ lw_good := List.mem_filter.mpr ⟨List.mem_of_getElem? (i := 1159) (by decide +kernel), by decide +kernel⟩
theorem wg_1171 : Cond.code yX8_yardAt cX8_yardAt 4 (some .int) ∈ lw_good := List.mem_filter.mpr ⟨List.mem_of_getElem? (i := 1171) (by decide +kernel), by decide +kernel⟩
theorem mi_X8_yardAt : MI yX8_yardAt cX8_yardAt 4 (some .int) 2 := ⟨wg_1171, wg_66, by decide +kernel, by decide +kernel⟩
theorem wg_1168 : Cond.methodLink RL 142 yX8_yardAt ∈ lw_good := List.mem_filter.mpr ⟨List.mem_of_getElem? (i := 1168) (by decide +kernel), by decide +kernel⟩
theorem wg_1169 : Cond.instanceMethod yX8_yardAt ∈ lw_good := List.mem_filter.mpr ⟨List.mem_of_getElem? (i := 1169) (by decide +kernel), by decide +kernel⟩
theorem wg_1170 : Cond.selects RX8 yX8_yardAt yX8_yardAt ∈ lw_good := List.mem_filter.mpr ⟨List.mem_of_getElem? (i := 1170) (by decide +kernel), by decide +kernel⟩
theorem wg_93 : Cond.instantiable RX8 16 ∈ lw_good := List.mem_filter.mpr ⟨List.mem_of_getElem? (i := 93) (by decide +kernel), by decide +kernel⟩
theorem wg_92 : Cond.classLink RL 8 RX8 ∈ lw_good := List.mem_filter.mpr ⟨List.mem_of_getElem? (i := 92) (by decide +kernel), by decide +kernel⟩
theorem wg_1201 : Cond.instantiable RX9 65 ∈ lw_good := List.mem_filter.mpr ⟨List.mem_of_getElem? (i := 1201) (by decide +kernel), by decide +kernel⟩
theorem wg_1200 : Cond.classLink RL 149 RX9 ∈ lw_good := List.mem_filter.mpr ⟨List.mem_of_getElem? (i := 1200) (by decide +kernel), by decide +kernel⟩
theorem wg_1701 : Cond.arrayClass ClassFile.FieldType.long ∈ lw_good := List.mem_filter.mpr ⟨List.mem_of_getElem? (i := 1701) (by decide +kernel), by decide +kernel⟩
theorem wg_1204 : Cond.code yX9_init cX9_init 2 none ∈ lw_good := List.mem_filter.mpr ⟨List.mem_of_getElem? (i := 1204) (by decide +kernel), by decide +kernel⟩
theorem mi_X9_init : MI yX9_init cX9_init 2 none 0 := ⟨wg_1204, wg_74, by decide +kernel, by decide +kernel⟩
theorem wg_1202 : Cond.methodLink RL 151 yX9_init ∈ lw_good := List.mem_filter.mpr ⟨List.mem_of_getElem? (i := 1202) (by decide +kernel), by decide +kernel⟩
theorem wg_1203 : Cond.instanceMethod yX9_init ∈ lw_good := List.mem_filter.mpr ⟨List.mem_of_getElem? (i := 1203) (by decide +kernel), by decide +kernel⟩
theorem wg_96 : Cond.code yX8_init cX8_init 2 none ∈ lw_good := List.mem_filter.mpr ⟨List.mem_of_getElem? (i := 96) (by decide +kernel), by decide +kernel⟩
theorem mi_X8_init : MI yX8_init cX8_init 2 none 0 := ⟨wg_96, wg_66, by decide +kernel, by decide +kernel⟩
theorem wg_94 : Cond.methodLink RL 148 yX8_init ∈ lw_good := List.mem_filter.mpr ⟨List.mem_of_getElem? (i := 94) (by decide +kernel), by decide +kernel⟩
theorem wg_95 : Cond.instanceMethod yX8_init ∈ lw_good := List.mem_filter.mpr ⟨List.mem_of_getElem? (i := 95) (by decide +kernel), by decide +kernel⟩
theorem wg_1406 : Cond.code yX9_thrown cX9_thrown 1 (some .int) ∈ lw_good := List.mem_filter.mpr ⟨List.mem_of_getElem? (i := 1406) (by decide +kernel), by decide +kernel⟩
theorem mi_X9_thrown : MI yX9_thrown cX9_thrown 1 (some .int) 0 := ⟨wg_1406, wg_74, by decide +kernel, by decide +kernel⟩
theorem wg_1403 : Cond.methodLink RL 158 yX9_thrown ∈ lw_good := List.mem_filter.mpr ⟨List.mem_of_getElem? (i := 1403) (by decide +kernel), by decide +kernel⟩
theorem wg_1404 : Cond.instanceMethod yX9_thrown ∈ lw_good := List.mem_filter.mpr ⟨List.mem_of_getElem? (i := 1404) (by decide +kernel), by decide +kernel⟩
theorem wg_1405 : Cond.selects RX9 yX9_thrown yX9_thrown ∈ lw_good := List.mem_filter.mpr ⟨List.mem_of_getElem? (i := 1405) (by decide +kernel), by decide +kernel⟩
theorem wg_1410 : Cond.code yX9_tracks cX9_tracks 4 (some .int) ∈ lw_good := List.mem_filter.mpr ⟨List.mem_of_getElem? (i := 1410) (by decide +kernel), by decide +kernel⟩
theorem mi_X9_tracks : MI yX9_tracks cX9_tracks 4 (some .int) 2 := ⟨wg_1410, wg_74, by decide +kernel, by decide +kernel⟩
theorem wg_1407 : Cond.methodLink RL 157 yX9_tracks ∈ lw_good := List.mem_filter.mpr ⟨List.mem_of_getElem? (i := 1407) (by decide +kernel), by decide +kernel⟩
theorem wg_1408 : Cond.instanceMethod yX9_tracks ∈ lw_good := List.mem_filter.mpr ⟨List.mem_of_getElem? (i := 1408) (by decide +kernel), by decide +kernel⟩
theorem wg_1409 : Cond.selects RX9 yX9_tracks yX9_tracks ∈ lw_good := List.mem_filter.mpr ⟨List.mem_of_getElem? (i := 1409) (by decide +kernel), by decide +kernel⟩
theorem wg_307 : Cond.codeWith yL_tracks cL_tracks 5 (some .int) [(0, 10, 13, 13), (0, 10, 17, 15), (0, 10, 21, 17)] ∈ lw_good := List.mem_filter.mpr ⟨List.mem_of_getElem? (i := 307) (by decide +kernel), by decide +kernel⟩
theorem wg_65 : Cond.initialized RL ∈ lw_good := List.mem_filter.mpr ⟨List.mem_of_getElem? (i := 65) (by decide +kernel), by decide +kernel⟩
theorem miw_L_tracks : MIW yL_tracks cL_tracks 5 (some .int) [(0, 10, 13, 13), (0, 10, 17, 15), (0, 10, 21, 17)] 4 := ⟨wg_307, wg_65, by decide +kernel, by decide +kernel⟩
theorem wg_305 : Cond.methodLink RL 152 yL_tracks ∈ lw_good := List.mem_filter.mpr ⟨List.mem_of_getElem? (i := 305) (by decide +kernel), by decide +kernel⟩
theorem wg_306 : Cond.static yL_tracks ∈ lw_good := List.mem_filter.mpr ⟨List.mem_of_getElem? (i := 306) (by decide +kernel), by decide +kernel⟩
theorem wg_1424 : Cond.code yX9_lay cX9_lay 5 (some .int) ∈ lw_good := List.mem_filter.mpr ⟨List.mem_of_getElem? (i := 1424) (by decide +kernel), by decide +kernel⟩
theorem mi_X9_lay : MI yX9_lay cX9_lay 5 (some .int) 4 := ⟨wg_1424, wg_74, by decide +kernel, by decide +kernel⟩
theorem wg_1421 : Cond.methodLink RL 165 yX9_lay ∈ lw_good := List.mem_filter.mpr ⟨List.mem_of_getElem? (i := 1421) (by decide +kernel), by decide +kernel⟩
theorem wg_1422 : Cond.instanceMethod yX9_lay ∈ lw_good := List.mem_filter.mpr ⟨List.mem_of_getElem? (i := 1422) (by decide +kernel), by decide +kernel⟩
theorem wg_1423 : Cond.selects RX9 yX9_lay yX9_lay ∈ lw_good := List.mem_filter.mpr ⟨List.mem_of_getElem? (i := 1423) (by decide +kernel), by decide +kernel⟩
theorem wg_441 : Cond.codeWith yL_lay cL_lay 7 (some .int) [(0, 14, 17, 13), (0, 14, 21, 15), (0, 14, 25, 17)] ∈ lw_good := List.mem_filter.mpr ⟨List.mem_of_getElem? (i := 441) (by decide +kernel), by decide +kernel⟩
theorem miw_L_lay : MIW yL_lay cL_lay 7 (some .int) [(0, 14, 17, 13), (0, 14, 21, 15), (0, 14, 25, 17)] 6 := ⟨wg_441, wg_65, by decide +kernel, by decide +kernel⟩
theorem wg_439 : Cond.methodLink RL 162 yL_lay ∈ lw_good := List.mem_filter.mpr ⟨List.mem_of_getElem? (i := 439) (by decide +kernel), by decide +kernel⟩
theorem wg_440 : Cond.static yL_lay ∈ lw_good := List.mem_filter.mpr ⟨List.mem_of_getElem? (i := 440) (by decide +kernel), by decide +kernel⟩
theorem wg_1436 : Cond.code yX9_flag cX9_flag 2 none ∈ lw_good := List.mem_filter.mpr ⟨List.mem_of_getElem? (i := 1436) (by decide +kernel), by decide +kernel⟩
theorem mi_X9_flag : MI yX9_flag cX9_flag 2 none 1 := ⟨wg_1436, wg_74, by decide +kernel, by decide +kernel⟩
theorem wg_1433 : Cond.methodLink RL 173 yX9_flag ∈ lw_good := List.mem_filter.mpr ⟨List.mem_of_getElem? (i := 1433) (by decide +kernel), by decide +kernel⟩
theorem wg_1434 : Cond.instanceMethod yX9_flag ∈ lw_good := List.mem_filter.mpr ⟨List.mem_of_getElem? (i := 1434) (by decide +kernel), by decide +kernel⟩
theorem wg_1435 : Cond.selects RX9 yX9_flag yX9_flag ∈ lw_good := List.mem_filter.mpr ⟨List.mem_of_getElem? (i := 1435) (by decide +kernel), by decide +kernel⟩
theorem wg_601 : Cond.codeWith yL_flag cL_flag 3 (some .int) [(0, 5, 8, 13), (0, 5, 11, 17)] ∈ lw_good := List.mem_filter.mpr ⟨List.mem_of_getElem? (i := 601) (by decide +kernel), by decide +kernel⟩
theorem miw_L_flag : MIW yL_flag cL_flag 3 (some .int) [(0, 5, 8, 13), (0, 5, 11, 17)] 2 := ⟨wg_601, wg_65, by decide +kernel, by decide +kernel⟩
theorem wg_599 : Cond.methodLink RL 170 yL_flag ∈ lw_good := List.mem_filter.mpr ⟨List.mem_of_getElem? (i := 599) (by decide +kernel), by decide +kernel⟩
theorem wg_600 : Cond.static yL_flag ∈ lw_good := List.mem_filter.mpr ⟨List.mem_of_getElem? (i := 600) (by decide +kernel), by decide +kernel⟩
theorem wg_1440 : Cond.code yX9_hours cX9_hours 4 none ∈ lw_good := List.mem_filter.mpr ⟨List.mem_of_getElem? (i := 1440) (by decide +kernel), by decide +kernel⟩
theorem mi_X9_hours : MI yX9_hours cX9_hours 4 none 3 := ⟨wg_1440, wg_74, by decide +kernel, by decide +kernel⟩
theorem wg_1437 : Cond.methodLink RL 177 yX9_hours ∈ lw_good := List.mem_filter.mpr ⟨List.mem_of_getElem? (i := 1437) (by decide +kernel), by decide +kernel⟩
theorem wg_1438 : Cond.instanceMethod yX9_hours ∈ lw_good := List.mem_filter.mpr ⟨List.mem_of_getElem? (i := 1438) (by decide +kernel), by decide +kernel⟩
theorem wg_1439 : Cond.selects RX9 yX9_hours yX9_hours ∈ lw_good := List.mem_filter.mpr ⟨List.mem_of_getElem? (i := 1439) (by decide +kernel), by decide +kernel⟩
theorem wg_608 : Cond.codeWith yL_hours cL_hours 5 (some .int) [(0, 7, 10, 13), (0, 7, 14, 15)] ∈ lw_good := List.mem_filter.mpr ⟨List.mem_of_getElem? (i := 608) (by decide +kernel), by decide +kernel⟩
theorem miw_L_hours : MIW yL_hours cL_hours 5 (some .int) [(0, 7, 10, 13), (0, 7, 14, 15)] 4 := ⟨wg_608, wg_65, by decide +kernel, by decide +kernel⟩
theorem wg_606 : Cond.methodLink RL 174 yL_hours ∈ lw_good := List.mem_filter.mpr ⟨List.mem_of_getElem? (i := 606) (by decide +kernel), by decide +kernel⟩
theorem wg_607 : Cond.static yL_hours ∈ lw_good := List.mem_filter.mpr ⟨List.mem_of_getElem? (i := 607) (by decide +kernel), by decide +kernel⟩
theorem wg_1444 : Cond.code yX9_repair cX9_repair 3 (some .int) ∈ lw_good := List.mem_filter.mpr ⟨List.mem_of_getElem? (i := 1444) (by decide +kernel), by decide +kernel⟩
theorem mi_X9_repair : MI yX9_repair cX9_repair 3 (some .int) 1 := ⟨wg_1444, wg_74, by decide +kernel, by decide +kernel⟩
theorem wg_1441 : Cond.methodLink RL 181 yX9_repair ∈ lw_good := List.mem_filter.mpr ⟨List.mem_of_getElem? (i := 1441) (by decide +kernel), by decide +kernel⟩
theorem wg_1442 : Cond.instanceMethod yX9_repair ∈ lw_good := List.mem_filter.mpr ⟨List.mem_of_getElem? (i := 1442) (by decide +kernel), by decide +kernel⟩
theorem wg_1443 : Cond.selects RX9 yX9_repair yX9_repair ∈ lw_good := List.mem_filter.mpr ⟨List.mem_of_getElem? (i := 1443) (by decide +kernel), by decide +kernel⟩
theorem wg_615 : Cond.codeWith yL_repair cL_repair 4 (some .int) [(0, 9, 12, 13), (0, 9, 15, 17)] ∈ lw_good := List.mem_filter.mpr ⟨List.mem_of_getElem? (i := 615) (by decide +kernel), by decide +kernel⟩
theorem miw_L_repair : MIW yL_repair cL_repair 4 (some .int) [(0, 9, 12, 13), (0, 9, 15, 17)] 3 := ⟨wg_615, wg_65, by decide +kernel, by decide +kernel⟩
theorem wg_613 : Cond.methodLink RL 178 yL_repair ∈ lw_good := List.mem_filter.mpr ⟨List.mem_of_getElem? (i := 613) (by decide +kernel), by decide +kernel⟩
theorem wg_614 : Cond.static yL_repair ∈ lw_good := List.mem_filter.mpr ⟨List.mem_of_getElem? (i := 614) (by decide +kernel), by decide +kernel⟩
theorem wg_1452 : Cond.code yX9_engine cX9_engine 3 (some .int) ∈ lw_good := List.mem_filter.mpr ⟨List.mem_of_getElem? (i := 1452) (by decide +kernel), by decide +kernel⟩
theorem mi_X9_engine : MI yX9_engine cX9_engine 3 (some .int) 2 := ⟨wg_1452, wg_74, by decide +kernel, by decide +kernel⟩
theorem wg_1449 : Cond.methodLink RL 184 yX9_engine ∈ lw_good := List.mem_filter.mpr ⟨List.mem_of_getElem? (i := 1449) (by decide +kernel), by decide +kernel⟩
theorem wg_1450 : Cond.instanceMethod yX9_engine ∈ lw_good := List.mem_filter.mpr ⟨List.mem_of_getElem? (i := 1450) (by decide +kernel), by decide +kernel⟩
theorem wg_1451 : Cond.selects RX9 yX9_engine yX9_engine ∈ lw_good := List.mem_filter.mpr ⟨List.mem_of_getElem? (i := 1451) (by decide +kernel), by decide +kernel⟩
theorem wg_630 : Cond.codeWith yL_engine cL_engine 5 (some .int) [(0, 10, 13, 13), (0, 10, 17, 15), (0, 10, 21, 17)] ∈ lw_good := List.mem_filter.mpr ⟨List.mem_of_getElem? (i := 630) (by decide +kernel), by decide +kernel⟩
theorem miw_L_engine : MIW yL_engine cL_engine 5 (some .int) [(0, 10, 13, 13), (0, 10, 17, 15), (0, 10, 21, 17)] 4 := ⟨wg_630, wg_65, by decide +kernel, by decide +kernel⟩
theorem wg_628 : Cond.methodLink RL 182 yL_engine ∈ lw_good := List.mem_filter.mpr ⟨List.mem_of_getElem? (i := 628) (by decide +kernel), by decide +kernel⟩
theorem wg_629 : Cond.static yL_engine ∈ lw_good := List.mem_filter.mpr ⟨List.mem_of_getElem? (i := 629) (by decide +kernel), by decide +kernel⟩
theorem wg_1456 : Cond.code yX9_crew cX9_crew 2 (some .int) ∈ lw_good := List.mem_filter.mpr ⟨List.mem_of_getElem? (i := 1456) (by decide +kernel), by decide +kernel⟩
theorem mi_X9_crew : MI yX9_crew cX9_crew 2 (some .int) 1 := ⟨wg_1456, wg_74, by decide +kernel, by decide +kernel⟩
theorem wg_1453 : Cond.methodLink RL 187 yX9_crew ∈ lw_good := List.mem_filter.mpr ⟨List.mem_of_getElem? (i := 1453) (by decide +kernel), by decide +kernel⟩
theorem wg_1454 : Cond.instanceMethod yX9_crew ∈ lw_good := List.mem_filter.mpr ⟨List.mem_of_getElem? (i := 1454) (by decide +kernel), by decide +kernel⟩
theorem wg_1455 : Cond.selects RX9 yX9_crew yX9_crew ∈ lw_good := List.mem_filter.mpr ⟨List.mem_of_getElem? (i := 1455) (by decide +kernel), by decide +kernel⟩
theorem wg_656 : Cond.codeWith yL_crew cL_crew 4 (some .int) [(0, 9, 12, 13), (0, 9, 15, 17)] ∈ lw_good := List.mem_filter.mpr ⟨List.mem_of_getElem? (i := 656) (by decide +kernel), by decide +kernel⟩
theorem miw_L_crew : MIW yL_crew cL_crew 4 (some .int) [(0, 9, 12, 13), (0, 9, 15, 17)] 3 := ⟨wg_656, wg_65, by decide +kernel, by decide +kernel⟩
theorem wg_654 : Cond.methodLink RL 185 yL_crew ∈ lw_good := List.mem_filter.mpr ⟨List.mem_of_getElem? (i := 654) (by decide +kernel), by decide +kernel⟩
theorem wg_655 : Cond.static yL_crew ∈ lw_good := List.mem_filter.mpr ⟨List.mem_of_getElem? (i := 655) (by decide +kernel), by decide +kernel⟩
theorem wg_1460 : Cond.code yX9_learn cX9_learn 5 (some .int) ∈ lw_good := List.mem_filter.mpr ⟨List.mem_of_getElem? (i := 1460) (by decide +kernel), by decide +kernel⟩
theorem mi_X9_learn : MI yX9_learn cX9_learn 5 (some .int) 2 := ⟨wg_1460, wg_74, by decide +kernel, by decide +kernel⟩
theorem wg_1457 : Cond.methodLink RL 190 yX9_learn ∈ lw_good := List.mem_filter.mpr ⟨List.mem_of_getElem? (i := 1457) (by decide +kernel), by decide +kernel⟩
theorem wg_1458 : Cond.instanceMethod yX9_learn ∈ lw_good := List.mem_filter.mpr ⟨List.mem_of_getElem? (i := 1458) (by decide +kernel), by decide +kernel⟩
theorem wg_1459 : Cond.selects RX9 yX9_learn yX9_learn ∈ lw_good := List.mem_filter.mpr ⟨List.mem_of_getElem? (i := 1459) (by decide +kernel), by decide +kernel⟩
theorem wg_690 : Cond.codeWith yL_learn cL_learn 5 (some .int) [(0, 10, 13, 13)] ∈ lw_good := List.mem_filter.mpr ⟨List.mem_of_getElem? (i := 690) (by decide +kernel), by decide +kernel⟩
theorem miw_L_learn : MIW yL_learn cL_learn 5 (some .int) [(0, 10, 13, 13)] 4 := ⟨wg_690, wg_65, by decide +kernel, by decide +kernel⟩
theorem wg_688 : Cond.methodLink RL 188 yL_learn ∈ lw_good := List.mem_filter.mpr ⟨List.mem_of_getElem? (i := 688) (by decide +kernel), by decide +kernel⟩
theorem wg_689 : Cond.static yL_learn ∈ lw_good := List.mem_filter.mpr ⟨List.mem_of_getElem? (i := 689) (by decide +kernel), by decide +kernel⟩
theorem wg_1468 : Cond.code yX9_rest cX9_rest 2 (some .int) ∈ lw_good := List.mem_filter.mpr ⟨List.mem_of_getElem? (i := 1468) (by decide +kernel), by decide +kernel⟩
theorem mi_X9_rest : MI yX9_rest cX9_rest 2 (some .int) 1 := ⟨wg_1468, wg_74, by decide +kernel, by decide +kernel⟩
theorem wg_1465 : Cond.methodLink RL 193 yX9_rest ∈ lw_good := List.mem_filter.mpr ⟨List.mem_of_getElem? (i := 1465) (by decide +kernel), by decide +kernel⟩
theorem wg_1466 : Cond.instanceMethod yX9_rest ∈ lw_good := List.mem_filter.mpr ⟨List.mem_of_getElem? (i := 1466) (by decide +kernel), by decide +kernel⟩
theorem wg_1467 : Cond.selects RX9 yX9_rest yX9_rest ∈ lw_good := List.mem_filter.mpr ⟨List.mem_of_getElem? (i := 1467) (by decide +kernel), by decide +kernel⟩
theorem wg_711 : Cond.codeWith yL_rest cL_rest 4 (some .int) [(0, 9, 12, 13), (0, 9, 15, 17)] ∈ lw_good := List.mem_filter.mpr ⟨List.mem_of_getElem? (i := 711) (by decide +kernel), by decide +kernel⟩
theorem miw_L_rest : MIW yL_rest cL_rest 4 (some .int) [(0, 9, 12, 13), (0, 9, 15, 17)] 3 := ⟨wg_711, wg_65, by decide +kernel, by decide +kernel⟩
theorem wg_709 : Cond.methodLink RL 191 yL_rest ∈ lw_good := List.mem_filter.mpr ⟨List.mem_of_getElem? (i := 709) (by decide +kernel), by decide +kernel⟩
theorem wg_710 : Cond.static yL_rest ∈ lw_good := List.mem_filter.mpr ⟨List.mem_of_getElem? (i := 710) (by decide +kernel), by decide +kernel⟩
theorem wg_1480 : Cond.code yX9_car cX9_car 3 (some .int) ∈ lw_good := List.mem_filter.mpr ⟨List.mem_of_getElem? (i := 1480) (by decide +kernel), by decide +kernel⟩
theorem mi_X9_car : MI yX9_car cX9_car 3 (some .int) 1 := ⟨wg_1480, wg_74, by decide +kernel, by decide +kernel⟩
theorem wg_1477 : Cond.methodLink RL 196 yX9_car ∈ lw_good := List.mem_filter.mpr ⟨List.mem_of_getElem? (i := 1477) (by decide +kernel), by decide +kernel⟩
theorem wg_1478 : Cond.instanceMethod yX9_car ∈ lw_good := List.mem_filter.mpr ⟨List.mem_of_getElem? (i := 1478) (by decide +kernel), by decide +kernel⟩
theorem wg_1479 : Cond.selects RX9 yX9_car yX9_car ∈ lw_good := List.mem_filter.mpr ⟨List.mem_of_getElem? (i := 1479) (by decide +kernel), by decide +kernel⟩
theorem wg_735 : Cond.codeWith yL_car cL_car 4 (some .int) [(0, 9, 12, 13), (0, 9, 15, 17)] ∈ lw_good := List.mem_filter.mpr ⟨List.mem_of_getElem? (i := 735) (by decide +kernel), by decide +kernel⟩
theorem miw_L_car : MIW yL_car cL_car 4 (some .int) [(0, 9, 12, 13), (0, 9, 15, 17)] 3 := ⟨wg_735, wg_65, by decide +kernel, by decide +kernel⟩
theorem wg_733 : Cond.methodLink RL 194 yL_car ∈ lw_good := List.mem_filter.mpr ⟨List.mem_of_getElem? (i := 733) (by decide +kernel), by decide +kernel⟩
theorem wg_734 : Cond.static yL_car ∈ lw_good := List.mem_filter.mpr ⟨List.mem_of_getElem? (i := 734) (by decide +kernel), by decide +kernel⟩
theorem wg_1492 : Cond.code yX9_borrow cX9_borrow 2 (some .int) ∈ lw_good := List.mem_filter.mpr ⟨List.mem_of_getElem? (i := 1492) (by decide +kernel), by decide +kernel⟩
theorem mi_X9_borrow : MI yX9_borrow cX9_borrow 2 (some .int) 1 := ⟨wg_1492, wg_74, by decide +kernel, by decide +kernel⟩
theorem wg_1489 : Cond.methodLink RL 199 yX9_borrow ∈ lw_good := List.mem_filter.mpr ⟨List.mem_of_getElem? (i := 1489) (by decide +kernel), by decide +kernel⟩
theorem wg_1490 : Cond.instanceMethod yX9_borrow ∈ lw_good := List.mem_filter.mpr ⟨List.mem_of_getElem? (i := 1490) (by decide +kernel), by decide +kernel⟩
theorem wg_1491 : Cond.selects RX9 yX9_borrow yX9_borrow ∈ lw_good := List.mem_filter.mpr ⟨List.mem_of_getElem? (i := 1491) (by decide +kernel), by decide +kernel⟩
theorem wg_790 : Cond.codeWith yL_borrow cL_borrow 4 (some .int) [(0, 9, 12, 15), (0, 9, 15, 17)] ∈ lw_good := List.mem_filter.mpr ⟨List.mem_of_getElem? (i := 790) (by decide +kernel), by decide +kernel⟩
theorem miw_L_borrow : MIW yL_borrow cL_borrow 4 (some .int) [(0, 9, 12, 15), (0, 9, 15, 17)] 3 := ⟨wg_790, wg_65, by decide +kernel, by decide +kernel⟩
theorem wg_788 : Cond.methodLink RL 197 yL_borrow ∈ lw_good := List.mem_filter.mpr ⟨List.mem_of_getElem? (i := 788) (by decide +kernel), by decide +kernel⟩
theorem wg_789 : Cond.static yL_borrow ∈ lw_good := List.mem_filter.mpr ⟨List.mem_of_getElem? (i := 789) (by decide +kernel), by decide +kernel⟩
theorem wg_1497 : Cond.code yX9_repay cX9_repay 2 (some .int) ∈ lw_good := List.mem_filter.mpr ⟨List.mem_of_getElem? (i := 1497) (by decide +kernel), by decide +kernel⟩
theorem mi_X9_repay : MI yX9_repay cX9_repay 2 (some .int) 1 := ⟨wg_1497, wg_74, by decide +kernel, by decide +kernel⟩
theorem wg_1494 : Cond.methodLink RL 202 yX9_repay ∈ lw_good := List.mem_filter.mpr ⟨List.mem_of_getElem? (i := 1494) (by decide +kernel), by decide +kernel⟩
theorem wg_1495 : Cond.instanceMethod yX9_repay ∈ lw_good := List.mem_filter.mpr ⟨List.mem_of_getElem? (i := 1495) (by decide +kernel), by decide +kernel⟩
theorem wg_1496 : Cond.selects RX9 yX9_repay yX9_repay ∈ lw_good := List.mem_filter.mpr ⟨List.mem_of_getElem? (i := 1496) (by decide +kernel), by decide +kernel⟩
theorem wg_798 : Cond.codeWith yL_repay cL_repay 4 (some .int) [(0, 9, 12, 15), (0, 9, 15, 17)] ∈ lw_good := List.mem_filter.mpr ⟨List.mem_of_getElem? (i := 798) (by decide +kernel), by decide +kernel⟩
theorem miw_L_repay : MIW yL_repay cL_repay 4 (some .int) [(0, 9, 12, 15), (0, 9, 15, 17)] 3 := ⟨wg_798, wg_65, by decide +kernel, by decide +kernel⟩
theorem wg_796 : Cond.methodLink RL 200 yL_repay ∈ lw_good := List.mem_filter.mpr ⟨List.mem_of_getElem? (i := 796) (by decide +kernel), by decide +kernel⟩
theorem wg_797 : Cond.static yL_repay ∈ lw_good := List.mem_filter.mpr ⟨List.mem_of_getElem? (i := 797) (by decide +kernel), by decide +kernel⟩
theorem wg_1501 : Cond.code yX9_form cX9_form 5 (some .int) ∈ lw_good := List.mem_filter.mpr ⟨List.mem_of_getElem? (i := 1501) (by decide +kernel), by decide +kernel⟩
theorem mi_X9_form : MI yX9_form cX9_form 5 (some .int) 2 := ⟨wg_1501, wg_74, by decide +kernel, by decide +kernel⟩
theorem wg_1498 : Cond.methodLink RL 205 yX9_form ∈ lw_good := List.mem_filter.mpr ⟨List.mem_of_getElem? (i := 1498) (by decide +kernel), by decide +kernel⟩
theorem wg_1499 : Cond.instanceMethod yX9_form ∈ lw_good := List.mem_filter.mpr ⟨List.mem_of_getElem? (i := 1499) (by decide +kernel), by decide +kernel⟩
theorem wg_1500 : Cond.selects RX9 yX9_form yX9_form ∈ lw_good := List.mem_filter.mpr ⟨List.mem_of_getElem? (i := 1500) (by decide +kernel), by decide +kernel⟩
theorem wg_805 : Cond.codeWith yL_form cL_form 5 (some .int) [(0, 10, 13, 13), (0, 10, 17, 17)] ∈ lw_good := List.mem_filter.mpr ⟨List.mem_of_getElem? (i := 805) (by decide +kernel), by decide +kernel⟩
theorem miw_L_form : MIW yL_form cL_form 5 (some .int) [(0, 10, 13, 13), (0, 10, 17, 17)] 4 := ⟨wg_805, wg_65, by decide +kernel, by decide +kernel⟩
theorem wg_803 : Cond.methodLink RL 203 yL_form ∈ lw_good := List.mem_filter.mpr ⟨List.mem_of_getElem? (i := 803) (by decide +kernel), by decide +kernel⟩
theorem wg_804 : Cond.static yL_form ∈ lw_good := List.mem_filter.mpr ⟨List.mem_of_getElem? (i := 804) (by decide +kernel), by decide +kernel⟩
theorem wg_1509 : Cond.code yX9_dissolve cX9_dissolve 2 (some .int) ∈ lw_good := List.mem_filter.mpr ⟨List.mem_of_getElem? (i := 1509) (by decide +kernel), by decide +kernel⟩
theorem mi_X9_dissolve : MI yX9_dissolve cX9_dissolve 2 (some .int) 1 := ⟨wg_1509, wg_74, by decide +kernel, by decide +kernel⟩
theorem wg_1506 : Cond.methodLink RL 208 yX9_dissolve ∈ lw_good := List.mem_filter.mpr ⟨List.mem_of_getElem? (i := 1506) (by decide +kernel), by decide +kernel⟩
theorem wg_1507 : Cond.instanceMethod yX9_dissolve ∈ lw_good := List.mem_filter.mpr ⟨List.mem_of_getElem? (i := 1507) (by decide +kernel), by decide +kernel⟩
theorem wg_1508 : Cond.selects RX9 yX9_dissolve yX9_dissolve ∈ lw_good := List.mem_filter.mpr ⟨List.mem_of_getElem? (i := 1508) (by decide +kernel), by decide +kernel⟩
theorem wg_833 : Cond.codeWith yL_dissolve cL_dissolve 4 (some .int) [(0, 9, 12, 13), (0, 9, 15, 17)] ∈ lw_good := List.mem_filter.mpr ⟨List.mem_of_getElem? (i := 833) (by decide +kernel), by decide +kernel⟩
theorem miw_L_dissolve : MIW yL_dissolve cL_dissolve 4 (some .int) [(0, 9, 12, 13), (0, 9, 15, 17)] 3 := ⟨wg_833, wg_65, by decide +kernel, by decide +kernel⟩
theorem wg_831 : Cond.methodLink RL 206 yL_dissolve ∈ lw_good := List.mem_filter.mpr ⟨List.mem_of_getElem? (i := 831) (by decide +kernel), by decide +kernel⟩
theorem wg_832 : Cond.static yL_dissolve ∈ lw_good := List.mem_filter.mpr ⟨List.mem_of_getElem? (i := 832) (by decide +kernel), by decide +kernel⟩
theorem wg_1525 : Cond.code yX9_couple cX9_couple 6 (some .int) ∈ lw_good := List.mem_filter.mpr ⟨List.mem_of_getElem? (i := 1525) (by decide +kernel), by decide +kernel⟩
theorem mi_X9_couple : MI yX9_couple cX9_couple 6 (some .int) 2 := ⟨wg_1525, wg_74, by decide +kernel, by decide +kernel⟩
theorem wg_1522 : Cond.methodLink RL 211 yX9_couple ∈ lw_good := List.mem_filter.mpr ⟨List.mem_of_getElem? (i := 1522) (by decide +kernel), by decide +kernel⟩
theorem wg_1523 : Cond.instanceMethod yX9_couple ∈ lw_good := List.mem_filter.mpr ⟨List.mem_of_getElem? (i := 1523) (by decide +kernel), by decide +kernel⟩
theorem wg_1524 : Cond.selects RX9 yX9_couple yX9_couple ∈ lw_good := List.mem_filter.mpr ⟨List.mem_of_getElem? (i := 1524) (by decide +kernel), by decide +kernel⟩
theorem wg_848 : Cond.codeWith yL_couple cL_couple 5 (some .int) [(0, 10, 13, 13), (0, 10, 17, 17)] ∈ lw_good := List.mem_filter.mpr ⟨List.mem_of_getElem? (i := 848) (by decide +kernel), by decide +kernel⟩
theorem miw_L_couple : MIW yL_couple cL_couple 5 (some .int) [(0, 10, 13, 13), (0, 10, 17, 17)] 4 := ⟨wg_848, wg_65, by decide +kernel, by decide +kernel⟩
theorem wg_846 : Cond.methodLink RL 209 yL_couple ∈ lw_good := List.mem_filter.mpr ⟨List.mem_of_getElem? (i := 846) (by decide +kernel), by decide +kernel⟩
theorem wg_847 : Cond.static yL_couple ∈ lw_good := List.mem_filter.mpr ⟨List.mem_of_getElem? (i := 847) (by decide +kernel), by decide +kernel⟩
theorem wg_1533 : Cond.code yX9_uncouple cX9_uncouple 5 (some .int) ∈ lw_good := List.mem_filter.mpr ⟨List.mem_of_getElem? (i := 1533) (by decide +kernel), by decide +kernel⟩
theorem mi_X9_uncouple : MI yX9_uncouple cX9_uncouple 5 (some .int) 2 := ⟨wg_1533, wg_74, by decide +kernel, by decide +kernel⟩
theorem wg_1530 : Cond.methodLink RL 214 yX9_uncouple ∈ lw_good := List.mem_filter.mpr ⟨List.mem_of_getElem? (i := 1530) (by decide +kernel), by decide +kernel⟩
theorem wg_1531 : Cond.instanceMethod yX9_uncouple ∈ lw_good := List.mem_filter.mpr ⟨List.mem_of_getElem? (i := 1531) (by decide +kernel), by decide +kernel⟩
theorem wg_1532 : Cond.selects RX9 yX9_uncouple yX9_uncouple ∈ lw_good := List.mem_filter.mpr ⟨List.mem_of_getElem? (i := 1532) (by decide +kernel), by decide +kernel⟩
theorem wg_867 : Cond.codeWith yL_uncouple cL_uncouple 5 (some .int) [(0, 10, 13, 13), (0, 10, 17, 17)] ∈ lw_good := List.mem_filter.mpr ⟨List.mem_of_getElem? (i := 867) (by decide +kernel), by decide +kernel⟩
theorem miw_L_uncouple : MIW yL_uncouple cL_uncouple 5 (some .int) [(0, 10, 13, 13), (0, 10, 17, 17)] 4 := ⟨wg_867, wg_65, by decide +kernel, by decide +kernel⟩
theorem wg_865 : Cond.methodLink RL 212 yL_uncouple ∈ lw_good := List.mem_filter.mpr ⟨List.mem_of_getElem? (i := 865) (by decide +kernel), by decide +kernel⟩
theorem wg_866 : Cond.static yL_uncouple ∈ lw_good := List.mem_filter.mpr ⟨List.mem_of_getElem? (i := 866) (by decide +kernel), by decide +kernel⟩
theorem wg_1537 : Cond.code yX9_leg cX9_leg 2 (some .int) ∈ lw_good := List.mem_filter.mpr ⟨List.mem_of_getElem? (i := 1537) (by decide +kernel), by decide +kernel⟩
theorem mi_X9_leg : MI yX9_leg cX9_leg 2 (some .int) 1 := ⟨wg_1537, wg_74, by decide +kernel, by decide +kernel⟩
theorem wg_1534 : Cond.methodLink RL 217 yX9_leg ∈ lw_good := List.mem_filter.mpr ⟨List.mem_of_getElem? (i := 1534) (by decide +kernel), by decide +kernel⟩
theorem wg_1535 : Cond.instanceMethod yX9_leg ∈ lw_good := List.mem_filter.mpr ⟨List.mem_of_getElem? (i := 1535) (by decide +kernel), by decide +kernel⟩
theorem wg_1536 : Cond.selects RX9 yX9_leg yX9_leg ∈ lw_good := List.mem_filter.mpr ⟨List.mem_of_getElem? (i := 1536) (by decide +kernel), by decide +kernel⟩
theorem wg_878 : Cond.codeWith yL_leg cL_leg 4 (some .int) [(0, 9, 12, 13), (0, 9, 15, 17)] ∈ lw_good := List.mem_filter.mpr ⟨List.mem_of_getElem? (i := 878) (by decide +kernel), by decide +kernel⟩
theorem miw_L_leg : MIW yL_leg cL_leg 4 (some .int) [(0, 9, 12, 13), (0, 9, 15, 17)] 3 := ⟨wg_878, wg_65, by decide +kernel, by decide +kernel⟩
theorem wg_876 : Cond.methodLink RL 215 yL_leg ∈ lw_good := List.mem_filter.mpr ⟨List.mem_of_getElem? (i := 876) (by decide +kernel), by decide +kernel⟩
theorem wg_877 : Cond.static yL_leg ∈ lw_good := List.mem_filter.mpr ⟨List.mem_of_getElem? (i := 877) (by decide +kernel), by decide +kernel⟩
theorem wg_1541 : Cond.code yX9_plan cX9_plan 6 (some .int) ∈ lw_good := List.mem_filter.mpr ⟨List.mem_of_getElem? (i := 1541) (by decide +kernel), by decide +kernel⟩
theorem mi_X9_plan : MI yX9_plan cX9_plan 6 (some .int) 3 := ⟨wg_1541, wg_74, by decide +kernel, by decide +kernel⟩
theorem wg_1538 : Cond.methodLink RL 221 yX9_plan ∈ lw_good := List.mem_filter.mpr ⟨List.mem_of_getElem? (i := 1538) (by decide +kernel), by decide +kernel⟩
theorem wg_1539 : Cond.instanceMethod yX9_plan ∈ lw_good := List.mem_filter.mpr ⟨List.mem_of_getElem? (i := 1539) (by decide +kernel), by decide +kernel⟩
theorem wg_1540 : Cond.selects RX9 yX9_plan yX9_plan ∈ lw_good := List.mem_filter.mpr ⟨List.mem_of_getElem? (i := 1540) (by decide +kernel), by decide +kernel⟩
theorem wg_885 : Cond.codeWith yL_plan cL_plan 6 (some .int) [(0, 12, 15, 13), (0, 12, 19, 15), (0, 12, 23, 17)] ∈ lw_good := List.mem_filter.mpr ⟨List.mem_of_getElem? (i := 885) (by decide +kernel), by decide +kernel⟩
theorem miw_L_plan : MIW yL_plan cL_plan 6 (some .int) [(0, 12, 15, 13), (0, 12, 19, 15), (0, 12, 23, 17)] 5 := ⟨wg_885, wg_65, by decide +kernel, by decide +kernel⟩
theorem wg_883 : Cond.methodLink RL 218 yL_plan ∈ lw_good := List.mem_filter.mpr ⟨List.mem_of_getElem? (i := 883) (by decide +kernel), by decide +kernel⟩
theorem wg_884 : Cond.static yL_plan ∈ lw_good := List.mem_filter.mpr ⟨List.mem_of_getElem? (i := 884) (by decide +kernel), by decide +kernel⟩
theorem wg_1549 : Cond.code yX9_await cX9_await 4 none ∈ lw_good := List.mem_filter.mpr ⟨List.mem_of_getElem? (i := 1549) (by decide +kernel), by decide +kernel⟩
theorem mi_X9_await : MI yX9_await cX9_await 4 none 3 := ⟨wg_1549, wg_74, by decide +kernel, by decide +kernel⟩
theorem wg_1546 : Cond.methodLink RL 224 yX9_await ∈ lw_good := List.mem_filter.mpr ⟨List.mem_of_getElem? (i := 1546) (by decide +kernel), by decide +kernel⟩
theorem wg_1547 : Cond.instanceMethod yX9_await ∈ lw_good := List.mem_filter.mpr ⟨List.mem_of_getElem? (i := 1547) (by decide +kernel), by decide +kernel⟩
theorem wg_1548 : Cond.selects RX9 yX9_await yX9_await ∈ lw_good := List.mem_filter.mpr ⟨List.mem_of_getElem? (i := 1548) (by decide +kernel), by decide +kernel⟩
theorem wg_912 : Cond.codeWith yL_await cL_await 5 (some .int) [(0, 7, 10, 13), (0, 7, 14, 17)] ∈ lw_good := List.mem_filter.mpr ⟨List.mem_of_getElem? (i := 912) (by decide +kernel), by decide +kernel⟩
theorem miw_L_await : MIW yL_await cL_await 5 (some .int) [(0, 7, 10, 13), (0, 7, 14, 17)] 4 := ⟨wg_912, wg_65, by decide +kernel, by decide +kernel⟩
theorem wg_910 : Cond.methodLink RL 222 yL_await ∈ lw_good := List.mem_filter.mpr ⟨List.mem_of_getElem? (i := 910) (by decide +kernel), by decide +kernel⟩
theorem wg_911 : Cond.static yL_await ∈ lw_good := List.mem_filter.mpr ⟨List.mem_of_getElem? (i := 911) (by decide +kernel), by decide +kernel⟩
theorem wg_1553 : Cond.code yX9_run cX9_run 4 (some .int) ∈ lw_good := List.mem_filter.mpr ⟨List.mem_of_getElem? (i := 1553) (by decide +kernel), by decide +kernel⟩
theorem mi_X9_run : MI yX9_run cX9_run 4 (some .int) 1 := ⟨wg_1553, wg_74, by decide +kernel, by decide +kernel⟩
theorem wg_1550 : Cond.methodLink RL 227 yX9_run ∈ lw_good := List.mem_filter.mpr ⟨List.mem_of_getElem? (i := 1550) (by decide +kernel), by decide +kernel⟩
theorem wg_1551 : Cond.instanceMethod yX9_run ∈ lw_good := List.mem_filter.mpr ⟨List.mem_of_getElem? (i := 1551) (by decide +kernel), by decide +kernel⟩
theorem wg_1552 : Cond.selects RX9 yX9_run yX9_run ∈ lw_good := List.mem_filter.mpr ⟨List.mem_of_getElem? (i := 1552) (by decide +kernel), by decide +kernel⟩
theorem wg_919 : Cond.codeWith yL_run cL_run 4 (some .int) [(0, 9, 12, 15), (0, 9, 15, 17)] ∈ lw_good := List.mem_filter.mpr ⟨List.mem_of_getElem? (i := 919) (by decide +kernel), by decide +kernel⟩
theorem miw_L_run : MIW yL_run cL_run 4 (some .int) [(0, 9, 12, 15), (0, 9, 15, 17)] 3 := ⟨wg_919, wg_65, by decide +kernel, by decide +kernel⟩
theorem wg_917 : Cond.methodLink RL 225 yL_run ∈ lw_good := List.mem_filter.mpr ⟨List.mem_of_getElem? (i := 917) (by decide +kernel), by decide +kernel⟩
theorem wg_918 : Cond.static yL_run ∈ lw_good := List.mem_filter.mpr ⟨List.mem_of_getElem? (i := 918) (by decide +kernel), by decide +kernel⟩
theorem wg_1597 : Cond.code yX9_passSignal cX9_passSignal 4 (some .boolean) ∈ lw_good := List.mem_filter.mpr ⟨List.mem_of_getElem? (i := 1597) (by decide +kernel), by decide +kernel⟩
theorem mi_X9_passSignal : MI yX9_passSignal cX9_passSignal 4 (some .boolean) 1 := ⟨wg_1597, wg_74, by decide +kernel, by decide +kernel⟩
theorem wg_1594 : Cond.methodLink RL 230 yX9_passSignal ∈ lw_good := List.mem_filter.mpr ⟨List.mem_of_getElem? (i := 1594) (by decide +kernel), by decide +kernel⟩
theorem wg_1595 : Cond.instanceMethod yX9_passSignal ∈ lw_good := List.mem_filter.mpr ⟨List.mem_of_getElem? (i := 1595) (by decide +kernel), by decide +kernel⟩
theorem wg_1596 : Cond.selects RX9 yX9_passSignal yX9_passSignal ∈ lw_good := List.mem_filter.mpr ⟨List.mem_of_getElem? (i := 1596) (by decide +kernel), by decide +kernel⟩
theorem wg_991 : Cond.codeWith yL_passSignal cL_passSignal 4 (some .int) [(0, 16, 19, 13), (0, 16, 22, 17)] ∈ lw_good := List.mem_filter.mpr ⟨List.mem_of_getElem? (i := 991) (by decide +kernel), by decide +kernel⟩
theorem miw_L_passSignal : MIW yL_passSignal cL_passSignal 4 (some .int) [(0, 16, 19, 13), (0, 16, 22, 17)] 3 := ⟨wg_991, wg_65, by decide +kernel, by decide +kernel⟩
theorem wg_989 : Cond.methodLink RL 228 yL_passSignal ∈ lw_good := List.mem_filter.mpr ⟨List.mem_of_getElem? (i := 989) (by decide +kernel), by decide +kernel⟩
theorem wg_990 : Cond.static yL_passSignal ∈ lw_good := List.mem_filter.mpr ⟨List.mem_of_getElem? (i := 990) (by decide +kernel), by decide +kernel⟩
theorem wg_1605 : Cond.code yX9_clear cX9_clear 5 (some .int) ∈ lw_good := List.mem_filter.mpr ⟨List.mem_of_getElem? (i := 1605) (by decide +kernel), by decide +kernel⟩
theorem mi_X9_clear : MI yX9_clear cX9_clear 5 (some .int) 1 := ⟨wg_1605, wg_74, by decide +kernel, by decide +kernel⟩
theorem wg_1602 : Cond.methodLink RL 233 yX9_clear ∈ lw_good := List.mem_filter.mpr ⟨List.mem_of_getElem? (i := 1602) (by decide +kernel), by decide +kernel⟩
theorem wg_1603 : Cond.instanceMethod yX9_clear ∈ lw_good := List.mem_filter.mpr ⟨List.mem_of_getElem? (i := 1603) (by decide +kernel), by decide +kernel⟩
theorem wg_1604 : Cond.selects RX9 yX9_clear yX9_clear ∈ lw_good := List.mem_filter.mpr ⟨List.mem_of_getElem? (i := 1604) (by decide +kernel), by decide +kernel⟩
theorem wg_1006 : Cond.codeWith yL_clear cL_clear 4 (some .int) [(0, 9, 12, 13), (0, 9, 15, 17)] ∈ lw_good := List.mem_filter.mpr ⟨List.mem_of_getElem? (i := 1006) (by decide +kernel), by decide +kernel⟩
theorem miw_L_clear : MIW yL_clear cL_clear 4 (some .int) [(0, 9, 12, 13), (0, 9, 15, 17)] 3 := ⟨wg_1006, wg_65, by decide +kernel, by decide +kernel⟩
theorem wg_1004 : Cond.methodLink RL 231 yL_clear ∈ lw_good := List.mem_filter.mpr ⟨List.mem_of_getElem? (i := 1004) (by decide +kernel), by decide +kernel⟩
theorem wg_1005 : Cond.static yL_clear ∈ lw_good := List.mem_filter.mpr ⟨List.mem_of_getElem? (i := 1005) (by decide +kernel), by decide +kernel⟩
theorem wg_1613 : Cond.code yX9_offer cX9_offer 3 (some .int) ∈ lw_good := List.mem_filter.mpr ⟨List.mem_of_getElem? (i := 1613) (by decide +kernel), by decide +kernel⟩
theorem mi_X9_offer : MI yX9_offer cX9_offer 3 (some .int) 2 := ⟨wg_1613, wg_74, by decide +kernel, by decide +kernel⟩
theorem wg_1610 : Cond.methodLink RL 240 yX9_offer ∈ lw_good := List.mem_filter.mpr ⟨List.mem_of_getElem? (i := 1610) (by decide +kernel), by decide +kernel⟩
theorem wg_1611 : Cond.instanceMethod yX9_offer ∈ lw_good := List.mem_filter.mpr ⟨List.mem_of_getElem? (i := 1611) (by decide +kernel), by decide +kernel⟩
theorem wg_1612 : Cond.selects RX9 yX9_offer yX9_offer ∈ lw_good := List.mem_filter.mpr ⟨List.mem_of_getElem? (i := 1612) (by decide +kernel), by decide +kernel⟩
theorem wg_1024 : Cond.codeWith yL_offer cL_offer 5 (some .int) [(0, 10, 13, 13), (0, 10, 17, 15), (0, 10, 21, 17)] ∈ lw_good := List.mem_filter.mpr ⟨List.mem_of_getElem? (i := 1024) (by decide +kernel), by decide +kernel⟩
theorem miw_L_offer : MIW yL_offer cL_offer 5 (some .int) [(0, 10, 13, 13), (0, 10, 17, 15), (0, 10, 21, 17)] 4 := ⟨wg_1024, wg_65, by decide +kernel, by decide +kernel⟩
theorem wg_1022 : Cond.methodLink RL 238 yL_offer ∈ lw_good := List.mem_filter.mpr ⟨List.mem_of_getElem? (i := 1022) (by decide +kernel), by decide +kernel⟩
theorem wg_1023 : Cond.static yL_offer ∈ lw_good := List.mem_filter.mpr ⟨List.mem_of_getElem? (i := 1023) (by decide +kernel), by decide +kernel⟩
theorem wg_1617 : Cond.code yX9_load cX9_load 3 none ∈ lw_good := List.mem_filter.mpr ⟨List.mem_of_getElem? (i := 1617) (by decide +kernel), by decide +kernel⟩
theorem mi_X9_load : MI yX9_load cX9_load 3 none 2 := ⟨wg_1617, wg_74, by decide +kernel, by decide +kernel⟩
theorem wg_1614 : Cond.methodLink RL 244 yX9_load ∈ lw_good := List.mem_filter.mpr ⟨List.mem_of_getElem? (i := 1614) (by decide +kernel), by decide +kernel⟩
theorem wg_1615 : Cond.instanceMethod yX9_load ∈ lw_good := List.mem_filter.mpr ⟨List.mem_of_getElem? (i := 1615) (by decide +kernel), by decide +kernel⟩
theorem wg_1616 : Cond.selects RX9 yX9_load yX9_load ∈ lw_good := List.mem_filter.mpr ⟨List.mem_of_getElem? (i := 1616) (by decide +kernel), by decide +kernel⟩
theorem wg_1053 : Cond.codeWith yL_load cL_load 4 (some .int) [(0, 6, 9, 13), (0, 6, 12, 17)] ∈ lw_good := List.mem_filter.mpr ⟨List.mem_of_getElem? (i := 1053) (by decide +kernel), by decide +kernel⟩
theorem miw_L_load : MIW yL_load cL_load 4 (some .int) [(0, 6, 9, 13), (0, 6, 12, 17)] 3 := ⟨wg_1053, wg_65, by decide +kernel, by decide +kernel⟩
theorem wg_1051 : Cond.methodLink RL 241 yL_load ∈ lw_good := List.mem_filter.mpr ⟨List.mem_of_getElem? (i := 1051) (by decide +kernel), by decide +kernel⟩
theorem wg_1052 : Cond.static yL_load ∈ lw_good := List.mem_filter.mpr ⟨List.mem_of_getElem? (i := 1052) (by decide +kernel), by decide +kernel⟩
theorem wg_1621 : Cond.code yX9_unload cX9_unload 3 (some .int) ∈ lw_good := List.mem_filter.mpr ⟨List.mem_of_getElem? (i := 1621) (by decide +kernel), by decide +kernel⟩
theorem mi_X9_unload : MI yX9_unload cX9_unload 3 (some .int) 1 := ⟨wg_1621, wg_74, by decide +kernel, by decide +kernel⟩
theorem wg_1618 : Cond.methodLink RL 247 yX9_unload ∈ lw_good := List.mem_filter.mpr ⟨List.mem_of_getElem? (i := 1618) (by decide +kernel), by decide +kernel⟩
theorem wg_1619 : Cond.instanceMethod yX9_unload ∈ lw_good := List.mem_filter.mpr ⟨List.mem_of_getElem? (i := 1619) (by decide +kernel), by decide +kernel⟩
theorem wg_1620 : Cond.selects RX9 yX9_unload yX9_unload ∈ lw_good := List.mem_filter.mpr ⟨List.mem_of_getElem? (i := 1620) (by decide +kernel), by decide +kernel⟩
theorem wg_1060 : Cond.codeWith yL_unload cL_unload 4 (some .int) [(0, 9, 12, 13), (0, 9, 15, 17)] ∈ lw_good := List.mem_filter.mpr ⟨List.mem_of_getElem? (i := 1060) (by decide +kernel), by decide +kernel⟩
theorem miw_L_unload : MIW yL_unload cL_unload 4 (some .int) [(0, 9, 12, 13), (0, 9, 15, 17)] 3 := ⟨wg_1060, wg_65, by decide +kernel, by decide +kernel⟩
theorem wg_1058 : Cond.methodLink RL 245 yL_unload ∈ lw_good := List.mem_filter.mpr ⟨List.mem_of_getElem? (i := 1058) (by decide +kernel), by decide +kernel⟩
theorem wg_1059 : Cond.static yL_unload ∈ lw_good := List.mem_filter.mpr ⟨List.mem_of_getElem? (i := 1059) (by decide +kernel), by decide +kernel⟩
theorem wg_1625 : Cond.code yX9_sort cX9_sort 6 (some .int) ∈ lw_good := List.mem_filter.mpr ⟨List.mem_of_getElem? (i := 1625) (by decide +kernel), by decide +kernel⟩
theorem mi_X9_sort : MI yX9_sort cX9_sort 6 (some .int) 1 := ⟨wg_1625, wg_74, by decide +kernel, by decide +kernel⟩
theorem wg_1622 : Cond.methodLink RL 250 yX9_sort ∈ lw_good := List.mem_filter.mpr ⟨List.mem_of_getElem? (i := 1622) (by decide +kernel), by decide +kernel⟩
theorem wg_1623 : Cond.instanceMethod yX9_sort ∈ lw_good := List.mem_filter.mpr ⟨List.mem_of_getElem? (i := 1623) (by decide +kernel), by decide +kernel⟩
theorem wg_1624 : Cond.selects RX9 yX9_sort yX9_sort ∈ lw_good := List.mem_filter.mpr ⟨List.mem_of_getElem? (i := 1624) (by decide +kernel), by decide +kernel⟩
theorem wg_1067 : Cond.codeWith yL_sort cL_sort 4 (some .int) [(0, 9, 12, 13)] ∈ lw_good := List.mem_filter.mpr ⟨List.mem_of_getElem? (i := 1067) (by decide +kernel), by decide +kernel⟩
theorem miw_L_sort : MIW yL_sort cL_sort 4 (some .int) [(0, 9, 12, 13)] 3 := ⟨wg_1067, wg_65, by decide +kernel, by decide +kernel⟩
theorem wg_1065 : Cond.methodLink RL 248 yL_sort ∈ lw_good := List.mem_filter.mpr ⟨List.mem_of_getElem? (i := 1065) (by decide +kernel), by decide +kernel⟩
theorem wg_1066 : Cond.static yL_sort ∈ lw_good := List.mem_filter.mpr ⟨List.mem_of_getElem? (i := 1066) (by decide +kernel), by decide +kernel⟩
theorem wg_1633 : Cond.code yX9_clock cX9_clock 1 (some .int) ∈ lw_good := List.mem_filter.mpr ⟨List.mem_of_getElem? (i := 1633) (by decide +kernel), by decide +kernel⟩
theorem mi_X9_clock : MI yX9_clock cX9_clock 1 (some .int) 0 := ⟨wg_1633, wg_74, by decide +kernel, by decide +kernel⟩
theorem wg_1630 : Cond.methodLink RL 254 yX9_clock ∈ lw_good := List.mem_filter.mpr ⟨List.mem_of_getElem? (i := 1630) (by decide +kernel), by decide +kernel⟩
theorem wg_1631 : Cond.instanceMethod yX9_clock ∈ lw_good := List.mem_filter.mpr ⟨List.mem_of_getElem? (i := 1631) (by decide +kernel), by decide +kernel⟩
theorem wg_1632 : Cond.selects RX9 yX9_clock yX9_clock ∈ lw_good := List.mem_filter.mpr ⟨List.mem_of_getElem? (i := 1632) (by decide +kernel), by decide +kernel⟩
theorem wg_292 : Cond.code yX8_clock cX8_clock 1 (some .int) ∈ lw_good := List.mem_filter.mpr ⟨List.mem_of_getElem? (i := 292) (by decide +kernel), by decide +kernel⟩
theorem mi_X8_clock : MI yX8_clock cX8_clock 1 (some .int) 0 := ⟨wg_292, wg_66, by decide +kernel, by decide +kernel⟩
theorem wg_289 : Cond.methodLink RL 251 yX8_clock ∈ lw_good := List.mem_filter.mpr ⟨List.mem_of_getElem? (i := 289) (by decide +kernel), by decide +kernel⟩
theorem wg_290 : Cond.instanceMethod yX8_clock ∈ lw_good := List.mem_filter.mpr ⟨List.mem_of_getElem? (i := 290) (by decide +kernel), by decide +kernel⟩
theorem wg_291 : Cond.selects RX8 yX8_clock yX8_clock ∈ lw_good := List.mem_filter.mpr ⟨List.mem_of_getElem? (i := 291) (by decide +kernel), by decide +kernel⟩
theorem wg_1637 : Cond.code yX9_cash cX9_cash 1 (some .int) ∈ lw_good := List.mem_filter.mpr ⟨List.mem_of_getElem? (i := 1637) (by decide +kernel), by decide +kernel⟩
theorem mi_X9_cash : MI yX9_cash cX9_cash 1 (some .int) 0 := ⟨wg_1637, wg_74, by decide +kernel, by decide +kernel⟩
theorem wg_1634 : Cond.methodLink RL 258 yX9_cash ∈ lw_good := List.mem_filter.mpr ⟨List.mem_of_getElem? (i := 1634) (by decide +kernel), by decide +kernel⟩
theorem wg_1635 : Cond.instanceMethod yX9_cash ∈ lw_good := List.mem_filter.mpr ⟨List.mem_of_getElem? (i := 1635) (by decide +kernel), by decide +kernel⟩
theorem wg_1636 : Cond.selects RX9 yX9_cash yX9_cash ∈ lw_good := List.mem_filter.mpr ⟨List.mem_of_getElem? (i := 1636) (by decide +kernel), by decide +kernel⟩
theorem wg_296 : Cond.code yX8_cash cX8_cash 1 (some .int) ∈ lw_good := List.mem_filter.mpr ⟨List.mem_of_getElem? (i := 296) (by decide +kernel), by decide +kernel⟩
theorem mi_X8_cash : MI yX8_cash cX8_cash 1 (some .int) 0 := ⟨wg_296, wg_66, by decide +kernel, by decide +kernel⟩
theorem wg_293 : Cond.methodLink RL 255 yX8_cash ∈ lw_good := List.mem_filter.mpr ⟨List.mem_of_getElem? (i := 293) (by decide +kernel), by decide +kernel⟩
theorem wg_294 : Cond.instanceMethod yX8_cash ∈ lw_good := List.mem_filter.mpr ⟨List.mem_of_getElem? (i := 294) (by decide +kernel), by decide +kernel⟩
theorem wg_295 : Cond.selects RX8 yX8_cash yX8_cash ∈ lw_good := List.mem_filter.mpr ⟨List.mem_of_getElem? (i := 295) (by decide +kernel), by decide +kernel⟩
theorem wg_1641 : Cond.code yX9_debt cX9_debt 1 (some .int) ∈ lw_good := List.mem_filter.mpr ⟨List.mem_of_getElem? (i := 1641) (by decide +kernel), by decide +kernel⟩
theorem mi_X9_debt : MI yX9_debt cX9_debt 1 (some .int) 0 := ⟨wg_1641, wg_74, by decide +kernel, by decide +kernel⟩
theorem wg_1638 : Cond.methodLink RL 262 yX9_debt ∈ lw_good := List.mem_filter.mpr ⟨List.mem_of_getElem? (i := 1638) (by decide +kernel), by decide +kernel⟩
theorem wg_1639 : Cond.instanceMethod yX9_debt ∈ lw_good := List.mem_filter.mpr ⟨List.mem_of_getElem? (i := 1639) (by decide +kernel), by decide +kernel⟩
theorem wg_1640 : Cond.selects RX9 yX9_debt yX9_debt ∈ lw_good := List.mem_filter.mpr ⟨List.mem_of_getElem? (i := 1640) (by decide +kernel), by decide +kernel⟩
theorem wg_300 : Cond.code yX8_debt cX8_debt 1 (some .int) ∈ lw_good := List.mem_filter.mpr ⟨List.mem_of_getElem? (i := 300) (by decide +kernel), by decide +kernel⟩
theorem mi_X8_debt : MI yX8_debt cX8_debt 1 (some .int) 0 := ⟨wg_300, wg_66, by decide +kernel, by decide +kernel⟩
theorem wg_297 : Cond.methodLink RL 259 yX8_debt ∈ lw_good := List.mem_filter.mpr ⟨List.mem_of_getElem? (i := 297) (by decide +kernel), by decide +kernel⟩
theorem wg_298 : Cond.instanceMethod yX8_debt ∈ lw_good := List.mem_filter.mpr ⟨List.mem_of_getElem? (i := 298) (by decide +kernel), by decide +kernel⟩
theorem wg_299 : Cond.selects RX8 yX8_debt yX8_debt ∈ lw_good := List.mem_filter.mpr ⟨List.mem_of_getElem? (i := 299) (by decide +kernel), by decide +kernel⟩
theorem wg_1645 : Cond.code yX9_broken cX9_broken 1 (some .int) ∈ lw_good := List.mem_filter.mpr ⟨List.mem_of_getElem? (i := 1645) (by decide +kernel), by decide +kernel⟩
theorem mi_X9_broken : MI yX9_broken cX9_broken 1 (some .int) 0 := ⟨wg_1645, wg_74, by decide +kernel, by decide +kernel⟩
theorem wg_1642 : Cond.methodLink RL 266 yX9_broken ∈ lw_good := List.mem_filter.mpr ⟨List.mem_of_getElem? (i := 1642) (by decide +kernel), by decide +kernel⟩
theorem wg_1643 : Cond.instanceMethod yX9_broken ∈ lw_good := List.mem_filter.mpr ⟨List.mem_of_getElem? (i := 1643) (by decide +kernel), by decide +kernel⟩
theorem wg_1644 : Cond.selects RX9 yX9_broken yX9_broken ∈ lw_good := List.mem_filter.mpr ⟨List.mem_of_getElem? (i := 1644) (by decide +kernel), by decide +kernel⟩
theorem wg_304 : Cond.code yX8_broken cX8_broken 1 (some .int) ∈ lw_good := List.mem_filter.mpr ⟨List.mem_of_getElem? (i := 304) (by decide +kernel), by decide +kernel⟩
theorem mi_X8_broken : MI yX8_broken cX8_broken 1 (some .int) 0 := ⟨wg_304, wg_66, by decide +kernel, by decide +kernel⟩
theorem wg_301 : Cond.methodLink RL 263 yX8_broken ∈ lw_good := List.mem_filter.mpr ⟨List.mem_of_getElem? (i := 301) (by decide +kernel), by decide +kernel⟩
theorem wg_302 : Cond.instanceMethod yX8_broken ∈ lw_good := List.mem_filter.mpr ⟨List.mem_of_getElem? (i := 302) (by decide +kernel), by decide +kernel⟩
theorem wg_303 : Cond.selects RX8 yX8_broken yX8_broken ∈ lw_good := List.mem_filter.mpr ⟨List.mem_of_getElem? (i := 303) (by decide +kernel), by decide +kernel⟩
theorem wg_1649 : Cond.code yX9_freeTracks cX9_freeTracks 2 (some .int) ∈ lw_good := List.mem_filter.mpr ⟨List.mem_of_getElem? (i := 1649) (by decide +kernel), by decide +kernel⟩
theorem mi_X9_freeTracks : MI yX9_freeTracks cX9_freeTracks 2 (some .int) 1 := ⟨wg_1649, wg_74, by decide +kernel, by decide +kernel⟩
theorem wg_1646 : Cond.methodLink RL 269 yX9_freeTracks ∈ lw_good := List.mem_filter.mpr ⟨List.mem_of_getElem? (i := 1646) (by decide +kernel), by decide +kernel⟩
theorem wg_1647 : Cond.instanceMethod yX9_freeTracks ∈ lw_good := List.mem_filter.mpr ⟨List.mem_of_getElem? (i := 1647) (by decide +kernel), by decide +kernel⟩
theorem wg_1648 : Cond.selects RX9 yX9_freeTracks yX9_freeTracks ∈ lw_good := List.mem_filter.mpr ⟨List.mem_of_getElem? (i := 1648) (by decide +kernel), by decide +kernel⟩
theorem wg_1082 : Cond.codeWith yL_freeTracks cL_freeTracks 4 (some .int) [(0, 9, 12, 13)] ∈ lw_good := List.mem_filter.mpr ⟨List.mem_of_getElem? (i := 1082) (by decide +kernel), by decide +kernel⟩
theorem miw_L_freeTracks : MIW yL_freeTracks cL_freeTracks 4 (some .int) [(0, 9, 12, 13)] 3 := ⟨wg_1082, wg_65, by decide +kernel, by decide +kernel⟩
theorem wg_1080 : Cond.methodLink RL 267 yL_freeTracks ∈ lw_good := List.mem_filter.mpr ⟨List.mem_of_getElem? (i := 1080) (by decide +kernel), by decide +kernel⟩
theorem wg_1081 : Cond.static yL_freeTracks ∈ lw_good := List.mem_filter.mpr ⟨List.mem_of_getElem? (i := 1081) (by decide +kernel), by decide +kernel⟩
theorem wg_1650 : Cond.methodLink RL 272 yX9_holder ∈ lw_good := List.mem_filter.mpr ⟨List.mem_of_getElem? (i := 1650) (by decide +kernel), by decide +kernel⟩
theorem wg_1089 : Cond.codeWith yL_holder cL_holder 4 (some .int) [(0, 9, 12, 13)] ∈ lw_good := List.mem_filter.mpr ⟨List.mem_of_getElem? (i := 1089) (by decide +kernel), by decide +kernel⟩
theorem miw_L_holder : MIW yL_holder cL_holder 4 (some .int) [(0, 9, 12, 13)] 3 := ⟨wg_1089, wg_65, by decide +kernel, by decide +kernel⟩
theorem wg_1087 : Cond.methodLink RL 270 yL_holder ∈ lw_good := List.mem_filter.mpr ⟨List.mem_of_getElem? (i := 1087) (by decide +kernel), by decide +kernel⟩
theorem wg_1088 : Cond.static yL_holder ∈ lw_good := List.mem_filter.mpr ⟨List.mem_of_getElem? (i := 1088) (by decide +kernel), by decide +kernel⟩
theorem wg_1657 : Cond.code yX9_holderByTrains cX9_holderByTrains 2 (some .int) ∈ lw_good := List.mem_filter.mpr ⟨List.mem_of_getElem? (i := 1657) (by decide +kernel), by decide +kernel⟩
theorem mi_X9_holderByTrains : MI yX9_holderByTrains cX9_holderByTrains 2 (some .int) 1 := ⟨wg_1657, wg_74, by decide +kernel, by decide +kernel⟩
theorem wg_1654 : Cond.methodLink RL 275 yX9_holderByTrains ∈ lw_good := List.mem_filter.mpr ⟨List.mem_of_getElem? (i := 1654) (by decide +kernel), by decide +kernel⟩
theorem wg_1655 : Cond.instanceMethod yX9_holderByTrains ∈ lw_good := List.mem_filter.mpr ⟨List.mem_of_getElem? (i := 1655) (by decide +kernel), by decide +kernel⟩
theorem wg_1656 : Cond.selects RX9 yX9_holderByTrains yX9_holderByTrains ∈ lw_good := List.mem_filter.mpr ⟨List.mem_of_getElem? (i := 1656) (by decide +kernel), by decide +kernel⟩
theorem wg_1096 : Cond.codeWith yL_holderByTrains cL_holderByTrains 4 (some .int) [(0, 9, 12, 13)] ∈ lw_good := List.mem_filter.mpr ⟨List.mem_of_getElem? (i := 1096) (by decide +kernel), by decide +kernel⟩
theorem miw_L_holderByTrains : MIW yL_holderByTrains cL_holderByTrains 4 (some .int) [(0, 9, 12, 13)] 3 := ⟨wg_1096, wg_65, by decide +kernel, by decide +kernel⟩
theorem wg_1094 : Cond.methodLink RL 273 yL_holderByTrains ∈ lw_good := List.mem_filter.mpr ⟨List.mem_of_getElem? (i := 1094) (by decide +kernel), by decide +kernel⟩
theorem wg_1095 : Cond.static yL_holderByTrains ∈ lw_good := List.mem_filter.mpr ⟨List.mem_of_getElem? (i := 1095) (by decide +kernel), by decide +kernel⟩
theorem wg_1662 : Cond.code yX9_block cX9_block 3 (some .int) ∈ lw_good := List.mem_filter.mpr ⟨List.mem_of_getElem? (i := 1662) (by decide +kernel), by decide +kernel⟩
theorem mi_X9_block : MI yX9_block cX9_block 3 (some .int) 2 := ⟨wg_1662, wg_74, by decide +kernel, by decide +kernel⟩
theorem wg_1659 : Cond.methodLink RL 278 yX9_block ∈ lw_good := List.mem_filter.mpr ⟨List.mem_of_getElem? (i := 1659) (by decide +kernel), by decide +kernel⟩
theorem wg_1660 : Cond.instanceMethod yX9_block ∈ lw_good := List.mem_filter.mpr ⟨List.mem_of_getElem? (i := 1660) (by decide +kernel), by decide +kernel⟩
theorem wg_1661 : Cond.selects RX9 yX9_block yX9_block ∈ lw_good := List.mem_filter.mpr ⟨List.mem_of_getElem? (i := 1661) (by decide +kernel), by decide +kernel⟩
theorem wg_1107 : Cond.codeWith yL_block cL_block 5 (some .int) [(0, 10, 13, 13)] ∈ lw_good := List.mem_filter.mpr ⟨List.mem_of_getElem? (i := 1107) (by decide +kernel), by decide +kernel⟩
theorem miw_L_block : MIW yL_block cL_block 5 (some .int) [(0, 10, 13, 13)] 4 := ⟨wg_1107, wg_65, by decide +kernel, by decide +kernel⟩
theorem wg_1105 : Cond.methodLink RL 276 yL_block ∈ lw_good := List.mem_filter.mpr ⟨List.mem_of_getElem? (i := 1105) (by decide +kernel), by decide +kernel⟩
theorem wg_1106 : Cond.static yL_block ∈ lw_good := List.mem_filter.mpr ⟨List.mem_of_getElem? (i := 1106) (by decide +kernel), by decide +kernel⟩
theorem wg_1666 : Cond.code yX9_train cX9_train 3 (some .int) ∈ lw_good := List.mem_filter.mpr ⟨List.mem_of_getElem? (i := 1666) (by decide +kernel), by decide +kernel⟩
theorem mi_X9_train : MI yX9_train cX9_train 3 (some .int) 2 := ⟨wg_1666, wg_74, by decide +kernel, by decide +kernel⟩
theorem wg_1663 : Cond.methodLink RL 281 yX9_train ∈ lw_good := List.mem_filter.mpr ⟨List.mem_of_getElem? (i := 1663) (by decide +kernel), by decide +kernel⟩
theorem wg_1664 : Cond.instanceMethod yX9_train ∈ lw_good := List.mem_filter.mpr ⟨List.mem_of_getElem? (i := 1664) (by decide +kernel), by decide +kernel⟩
theorem wg_1665 : Cond.selects RX9 yX9_train yX9_train ∈ lw_good := List.mem_filter.mpr ⟨List.mem_of_getElem? (i := 1665) (by decide +kernel), by decide +kernel⟩
theorem wg_1114 : Cond.codeWith yL_train cL_train 5 (some .int) [(0, 10, 13, 13)] ∈ lw_good := List.mem_filter.mpr ⟨List.mem_of_getElem? (i := 1114) (by decide +kernel), by decide +kernel⟩
theorem miw_L_train : MIW yL_train cL_train 5 (some .int) [(0, 10, 13, 13)] 4 := ⟨wg_1114, wg_65, by decide +kernel, by decide +kernel⟩
theorem wg_1112 : Cond.methodLink RL 279 yL_train ∈ lw_good := List.mem_filter.mpr ⟨List.mem_of_getElem? (i := 1112) (by decide +kernel), by decide +kernel⟩
theorem wg_1113 : Cond.static yL_train ∈ lw_good := List.mem_filter.mpr ⟨List.mem_of_getElem? (i := 1113) (by decide +kernel), by decide +kernel⟩
theorem wg_1670 : Cond.code yX9_barred cX9_barred 2 (some .int) ∈ lw_good := List.mem_filter.mpr ⟨List.mem_of_getElem? (i := 1670) (by decide +kernel), by decide +kernel⟩
theorem mi_X9_barred : MI yX9_barred cX9_barred 2 (some .int) 1 := ⟨wg_1670, wg_74, by decide +kernel, by decide +kernel⟩
theorem wg_1667 : Cond.methodLink RL 284 yX9_barred ∈ lw_good := List.mem_filter.mpr ⟨List.mem_of_getElem? (i := 1667) (by decide +kernel), by decide +kernel⟩
theorem wg_1668 : Cond.instanceMethod yX9_barred ∈ lw_good := List.mem_filter.mpr ⟨List.mem_of_getElem? (i := 1668) (by decide +kernel), by decide +kernel⟩
theorem wg_1669 : Cond.selects RX9 yX9_barred yX9_barred ∈ lw_good := List.mem_filter.mpr ⟨List.mem_of_getElem? (i := 1669) (by decide +kernel), by decide +kernel⟩
theorem wg_1121 : Cond.codeWith yL_barred cL_barred 4 (some .int) [(0, 9, 12, 13)] ∈ lw_good := List.mem_filter.mpr ⟨List.mem_of_getElem? (i := 1121) (by decide +kernel), by decide +kernel⟩
theorem miw_L_barred : MIW yL_barred cL_barred 4 (some .int) [(0, 9, 12, 13)] 3 := ⟨wg_1121, wg_65, by decide +kernel, by decide +kernel⟩
theorem wg_1119 : Cond.methodLink RL 282 yL_barred ∈ lw_good := List.mem_filter.mpr ⟨List.mem_of_getElem? (i := 1119) (by decide +kernel), by decide +kernel⟩
theorem wg_1120 : Cond.static yL_barred ∈ lw_good := List.mem_filter.mpr ⟨List.mem_of_getElem? (i := 1120) (by decide +kernel), by decide +kernel⟩
theorem wg_1674 : Cond.code yX9_duty cX9_duty 2 (some .int) ∈ lw_good := List.mem_filter.mpr ⟨List.mem_of_getElem? (i := 1674) (by decide +kernel), by decide +kernel⟩
theorem mi_X9_duty : MI yX9_duty cX9_duty 2 (some .int) 1 := ⟨wg_1674, wg_74, by decide +kernel, by decide +kernel⟩
theorem wg_1671 : Cond.methodLink RL 287 yX9_duty ∈ lw_good := List.mem_filter.mpr ⟨List.mem_of_getElem? (i := 1671) (by decide +kernel), by decide +kernel⟩
theorem wg_1672 : Cond.instanceMethod yX9_duty ∈ lw_good := List.mem_filter.mpr ⟨List.mem_of_getElem? (i := 1672) (by decide +kernel), by decide +kernel⟩
theorem wg_1673 : Cond.selects RX9 yX9_duty yX9_duty ∈ lw_good := List.mem_filter.mpr ⟨List.mem_of_getElem? (i := 1673) (by decide +kernel), by decide +kernel⟩
theorem wg_1128 : Cond.codeWith yL_duty cL_duty 4 (some .int) [(0, 9, 12, 13)] ∈ lw_good := List.mem_filter.mpr ⟨List.mem_of_getElem? (i := 1128) (by decide +kernel), by decide +kernel⟩
theorem miw_L_duty : MIW yL_duty cL_duty 4 (some .int) [(0, 9, 12, 13)] 3 := ⟨wg_1128, wg_65, by decide +kernel, by decide +kernel⟩
theorem wg_1126 : Cond.methodLink RL 285 yL_duty ∈ lw_good := List.mem_filter.mpr ⟨List.mem_of_getElem? (i := 1126) (by decide +kernel), by decide +kernel⟩
theorem wg_1127 : Cond.static yL_duty ∈ lw_good := List.mem_filter.mpr ⟨List.mem_of_getElem? (i := 1127) (by decide +kernel), by decide +kernel⟩
theorem wg_1675 : Cond.methodLink RL 290 yX9_carAt ∈ lw_good := List.mem_filter.mpr ⟨List.mem_of_getElem? (i := 1675) (by decide +kernel), by decide +kernel⟩
theorem wg_1135 : Cond.codeWith yL_carAt cL_carAt 4 (some .int) [(0, 9, 12, 13)] ∈ lw_good := List.mem_filter.mpr ⟨List.mem_of_getElem? (i := 1135) (by decide +kernel), by decide +kernel⟩
theorem miw_L_carAt : MIW yL_carAt cL_carAt 4 (some .int) [(0, 9, 12, 13)] 3 := ⟨wg_1135, wg_65, by decide +kernel, by decide +kernel⟩
theorem wg_1133 : Cond.methodLink RL 288 yL_carAt ∈ lw_good := List.mem_filter.mpr ⟨List.mem_of_getElem? (i := 1133) (by decide +kernel), by decide +kernel⟩
theorem wg_1134 : Cond.static yL_carAt ∈ lw_good := List.mem_filter.mpr ⟨List.mem_of_getElem? (i := 1134) (by decide +kernel), by decide +kernel⟩
theorem wg_1682 : Cond.code yX9_carByPapers cX9_carByPapers 2 (some .int) ∈ lw_good := List.mem_filter.mpr ⟨List.mem_of_getElem? (i := 1682) (by decide +kernel), by decide +kernel⟩
theorem mi_X9_carByPapers : MI yX9_carByPapers cX9_carByPapers 2 (some .int) 1 := ⟨wg_1682, wg_74, by decide +kernel, by decide +kernel⟩
theorem wg_1679 : Cond.methodLink RL 293 yX9_carByPapers ∈ lw_good := List.mem_filter.mpr ⟨List.mem_of_getElem? (i := 1679) (by decide +kernel), by decide +kernel⟩
theorem wg_1680 : Cond.instanceMethod yX9_carByPapers ∈ lw_good := List.mem_filter.mpr ⟨List.mem_of_getElem? (i := 1680) (by decide +kernel), by decide +kernel⟩
theorem wg_1681 : Cond.selects RX9 yX9_carByPapers yX9_carByPapers ∈ lw_good := List.mem_filter.mpr ⟨List.mem_of_getElem? (i := 1681) (by decide +kernel), by decide +kernel⟩
theorem wg_1142 : Cond.codeWith yL_carByPapers cL_carByPapers 4 (some .int) [(0, 9, 12, 13)] ∈ lw_good := List.mem_filter.mpr ⟨List.mem_of_getElem? (i := 1142) (by decide +kernel), by decide +kernel⟩
theorem miw_L_carByPapers : MIW yL_carByPapers cL_carByPapers 4 (some .int) [(0, 9, 12, 13)] 3 := ⟨wg_1142, wg_65, by decide +kernel, by decide +kernel⟩
theorem wg_1140 : Cond.methodLink RL 291 yL_carByPapers ∈ lw_good := List.mem_filter.mpr ⟨List.mem_of_getElem? (i := 1140) (by decide +kernel), by decide +kernel⟩
theorem wg_1141 : Cond.static yL_carByPapers ∈ lw_good := List.mem_filter.mpr ⟨List.mem_of_getElem? (i := 1141) (by decide +kernel), by decide +kernel⟩
theorem wg_1687 : Cond.code yX9_billOf cX9_billOf 2 (some .int) ∈ lw_good := List.mem_filter.mpr ⟨List.mem_of_getElem? (i := 1687) (by decide +kernel), by decide +kernel⟩
theorem mi_X9_billOf : MI yX9_billOf cX9_billOf 2 (some .int) 1 := ⟨wg_1687, wg_74, by decide +kernel, by decide +kernel⟩
theorem wg_1684 : Cond.methodLink RL 296 yX9_billOf ∈ lw_good := List.mem_filter.mpr ⟨List.mem_of_getElem? (i := 1684) (by decide +kernel), by decide +kernel⟩
theorem wg_1685 : Cond.instanceMethod yX9_billOf ∈ lw_good := List.mem_filter.mpr ⟨List.mem_of_getElem? (i := 1685) (by decide +kernel), by decide +kernel⟩
theorem wg_1686 : Cond.selects RX9 yX9_billOf yX9_billOf ∈ lw_good := List.mem_filter.mpr ⟨List.mem_of_getElem? (i := 1686) (by decide +kernel), by decide +kernel⟩
theorem wg_1149 : Cond.codeWith yL_billOf cL_billOf 4 (some .int) [(0, 9, 12, 13)] ∈ lw_good := List.mem_filter.mpr ⟨List.mem_of_getElem? (i := 1149) (by decide +kernel), by decide +kernel⟩
theorem miw_L_billOf : MIW yL_billOf cL_billOf 4 (some .int) [(0, 9, 12, 13)] 3 := ⟨wg_1149, wg_65, by decide +kernel, by decide +kernel⟩
theorem wg_1147 : Cond.methodLink RL 294 yL_billOf ∈ lw_good := List.mem_filter.mpr ⟨List.mem_of_getElem? (i := 1147) (by decide +kernel), by decide +kernel⟩
theorem wg_1148 : Cond.static yL_billOf ∈ lw_good := List.mem_filter.mpr ⟨List.mem_of_getElem? (i := 1148) (by decide +kernel), by decide +kernel⟩
theorem wg_1691 : Cond.code yX9_paper cX9_paper 5 (some .int) ∈ lw_good := List.mem_filter.mpr ⟨List.mem_of_getElem? (i := 1691) (by decide +kernel), by decide +kernel⟩
theorem mi_X9_paper : MI yX9_paper cX9_paper 5 (some .int) 2 := ⟨wg_1691, wg_74, by decide +kernel, by decide +kernel⟩
theorem wg_1688 : Cond.methodLink RL 299 yX9_paper ∈ lw_good := List.mem_filter.mpr ⟨List.mem_of_getElem? (i := 1688) (by decide +kernel), by decide +kernel⟩
theorem wg_1689 : Cond.instanceMethod yX9_paper ∈ lw_good := List.mem_filter.mpr ⟨List.mem_of_getElem? (i := 1689) (by decide +kernel), by decide +kernel⟩
theorem wg_1690 : Cond.selects RX9 yX9_paper yX9_paper ∈ lw_good := List.mem_filter.mpr ⟨List.mem_of_getElem? (i := 1690) (by decide +kernel), by decide +kernel⟩
theorem wg_1156 : Cond.codeWith yL_paper cL_paper 5 (some .int) [(0, 10, 13, 13)] ∈ lw_good := List.mem_filter.mpr ⟨List.mem_of_getElem? (i := 1156) (by decide +kernel), by decide +kernel⟩
theorem miw_L_paper : MIW yL_paper cL_paper 5 (some .int) [(0, 10, 13, 13)] 4 := ⟨wg_1156, wg_65, by decide +kernel, by decide +kernel⟩
theorem wg_1154 : Cond.methodLink RL 297 yL_paper ∈ lw_good := List.mem_filter.mpr ⟨List.mem_of_getElem? (i := 1154) (by decide +kernel), by decide +kernel⟩
theorem wg_1155 : Cond.static yL_paper ∈ lw_good := List.mem_filter.mpr ⟨List.mem_of_getElem? (i := 1155) (by decide +kernel), by decide +kernel⟩
theorem wg_1695 : Cond.code yX9_yardAt cX9_yardAt 3 (some .int) ∈ lw_good := List.mem_filter.mpr ⟨List.mem_of_getElem? (i := 1695) (by decide +kernel), by decide +kernel⟩
theorem mi_X9_yardAt : MI yX9_yardAt cX9_yardAt 3 (some .int) 2 := ⟨wg_1695, wg_74, by decide +kernel, by decide +kernel⟩
theorem wg_1692 : Cond.methodLink RL 302 yX9_yardAt ∈ lw_good := List.mem_filter.mpr ⟨List.mem_of_getElem? (i := 1692) (by decide +kernel), by decide +kernel⟩
theorem wg_1693 : Cond.instanceMethod yX9_yardAt ∈ lw_good := List.mem_filter.mpr ⟨List.mem_of_getElem? (i := 1693) (by decide +kernel), by decide +kernel⟩
theorem wg_1694 : Cond.selects RX9 yX9_yardAt yX9_yardAt ∈ lw_good := List.mem_filter.mpr ⟨List.mem_of_getElem? (i := 1694) (by decide +kernel), by decide +kernel⟩
theorem wg_1167 : Cond.codeWith yL_yardAt cL_yardAt 5 (some .int) [(0, 10, 13, 13)] ∈ lw_good := List.mem_filter.mpr ⟨List.mem_of_getElem? (i := 1167) (by decide +kernel), by decide +kernel⟩
theorem miw_L_yardAt : MIW yL_yardAt cL_yardAt 5 (some .int) [(0, 10, 13, 13)] 4 := ⟨wg_1167, wg_65, by decide +kernel, by decide +kernel⟩
theorem wg_1165 : Cond.methodLink RL 300 yL_yardAt ∈ lw_good := List.mem_filter.mpr ⟨List.mem_of_getElem? (i := 1165) (by decide +kernel), by decide +kernel⟩
theorem wg_1166 : Cond.static yL_yardAt ∈ lw_good := List.mem_filter.mpr ⟨List.mem_of_getElem? (i := 1166) (by decide +kernel), by decide +kernel⟩
theorem wg_1699 : Cond.code yX9_homeward cX9_homeward 7 (some .int) ∈ lw_good := List.mem_filter.mpr ⟨List.mem_of_getElem? (i := 1699) (by decide +kernel), by decide +kernel⟩
theorem mi_X9_homeward : MI yX9_homeward cX9_homeward 7 (some .int) 1 := ⟨wg_1699, wg_74, by decide +kernel, by decide +kernel⟩
theorem wg_1696 : Cond.methodLink RL 305 yX9_homeward ∈ lw_good := List.mem_filter.mpr ⟨List.mem_of_getElem? (i := 1696) (by decide +kernel), by decide +kernel⟩
theorem wg_1697 : Cond.instanceMethod yX9_homeward ∈ lw_good := List.mem_filter.mpr ⟨List.mem_of_getElem? (i := 1697) (by decide +kernel), by decide +kernel⟩
theorem wg_1698 : Cond.selects RX9 yX9_homeward yX9_homeward ∈ lw_good := List.mem_filter.mpr ⟨List.mem_of_getElem? (i := 1698) (by decide +kernel), by decide +kernel⟩
theorem wg_1174 : Cond.codeWith yL_homeward cL_homeward 4 (some .int) [(0, 9, 12, 13)] ∈ lw_good := List.mem_filter.mpr ⟨List.mem_of_getElem? (i := 1174) (by decide +kernel), by decide +kernel⟩
theorem miw_L_homeward : MIW yL_homeward cL_homeward 4 (some .int) [(0, 9, 12, 13)] 3 := ⟨wg_1174, wg_65, by decide +kernel, by decide +kernel⟩
theorem wg_1172 : Cond.methodLink RL 303 yL_homeward ∈ lw_good := List.mem_filter.mpr ⟨List.mem_of_getElem? (i := 1172) (by decide +kernel), by decide +kernel⟩
theorem wg_1173 : Cond.static yL_homeward ∈ lw_good := List.mem_filter.mpr ⟨List.mem_of_getElem? (i := 1173) (by decide +kernel), by decide +kernel⟩
theorem wg_576 : Cond.codeWith yL_fail cL_fail 5 (some .int) [(0, 17, 20, 13)] ∈ lw_good := List.mem_filter.mpr ⟨List.mem_of_getElem? (i := 576) (by decide +kernel), by decide +kernel⟩
theorem miw_L_fail : MIW yL_fail cL_fail 5 (some .int) [(0, 17, 20, 13)] 4 := ⟨wg_576, wg_65, by decide +kernel, by decide +kernel⟩
theorem wg_574 : Cond.methodLink RL 166 yL_fail ∈ lw_good := List.mem_filter.mpr ⟨List.mem_of_getElem? (i := 574) (by decide +kernel), by decide +kernel⟩
theorem wg_575 : Cond.static yL_fail ∈ lw_good := List.mem_filter.mpr ⟨List.mem_of_getElem? (i := 575) (by decide +kernel), by decide +kernel⟩
theorem wg_1017 : Cond.codeWith yL_rate cL_rate 7 (some .int) [(0, 14, 17, 13), (0, 14, 21, 15)] ∈ lw_good := List.mem_filter.mpr ⟨List.mem_of_getElem? (i := 1017) (by decide +kernel), by decide +kernel⟩
theorem miw_L_rate : MIW yL_rate cL_rate 7 (some .int) [(0, 14, 17, 13), (0, 14, 21, 15)] 6 := ⟨wg_1017, wg_65, by decide +kernel, by decide +kernel⟩
theorem wg_1015 : Cond.methodLink RL 234 yL_rate ∈ lw_good := List.mem_filter.mpr ⟨List.mem_of_getElem? (i := 1015) (by decide +kernel), by decide +kernel⟩
theorem wg_1016 : Cond.static yL_rate ∈ lw_good := List.mem_filter.mpr ⟨List.mem_of_getElem? (i := 1016) (by decide +kernel), by decide +kernel⟩
theorem wg_1428 : Cond.code yX9_fail cX9_fail 4 (some .boolean) ∈ lw_good := List.mem_filter.mpr ⟨List.mem_of_getElem? (i := 1428) (by decide +kernel), by decide +kernel⟩
theorem mi_X9_fail : MI yX9_fail cX9_fail 4 (some .boolean) 2 := ⟨wg_1428, wg_74, by decide +kernel, by decide +kernel⟩
theorem wg_1425 : Cond.methodLink RL 169 yX9_fail ∈ lw_good := List.mem_filter.mpr ⟨List.mem_of_getElem? (i := 1425) (by decide +kernel), by decide +kernel⟩
theorem wg_1426 : Cond.instanceMethod yX9_fail ∈ lw_good := List.mem_filter.mpr ⟨List.mem_of_getElem? (i := 1426) (by decide +kernel), by decide +kernel⟩
theorem wg_1427 : Cond.selects RX9 yX9_fail yX9_fail ∈ lw_good := List.mem_filter.mpr ⟨List.mem_of_getElem? (i := 1427) (by decide +kernel), by decide +kernel⟩
theorem wg_1609 : Cond.code yX9_rate cX9_rate 7 (some .int) ∈ lw_good := List.mem_filter.mpr ⟨List.mem_of_getElem? (i := 1609) (by decide +kernel), by decide +kernel⟩
theorem mi_X9_rate : MI yX9_rate cX9_rate 7 (some .int) 4 := ⟨wg_1609, wg_74, by decide +kernel, by decide +kernel⟩
theorem wg_1606 : Cond.methodLink RL 237 yX9_rate ∈ lw_good := List.mem_filter.mpr ⟨List.mem_of_getElem? (i := 1606) (by decide +kernel), by decide +kernel⟩
theorem wg_1607 : Cond.instanceMethod yX9_rate ∈ lw_good := List.mem_filter.mpr ⟨List.mem_of_getElem? (i := 1607) (by decide +kernel), by decide +kernel⟩
theorem wg_1608 : Cond.selects RX9 yX9_rate yX9_rate ∈ lw_good := List.mem_filter.mpr ⟨List.mem_of_getElem? (i := 1608) (by decide +kernel), by decide +kernel⟩
