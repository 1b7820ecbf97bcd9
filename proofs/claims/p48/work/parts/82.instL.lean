theorem wg_851 : Cond.code yL_runs cL_runs 5 (some .int) ∈ lw_good := List.mem_filter.mpr ⟨List.mem_of_getElem? (i := 851) (by decide +kernel), by decide +kernel⟩
theorem wg_28 : Cond.initialized RL ∈ lw_good := List.mem_filter.mpr ⟨List.mem_of_getElem? (i := 28) (by decide +kernel), by decide +kernel⟩
theorem mi_L_runs : MI yL_runs cL_runs 5 (some .int) 4 := ⟨wg_851, wg_28, by decide +kernel, by decide +kernel⟩
theorem wg_849 : Cond.methodLink RL 38 yL_runs ∈ lw_good := List.mem_filter.mpr ⟨List.mem_of_getElem? (i := 849) (by decide +kernel), by decide +kernel⟩
theorem wg_850 : Cond.static yL_runs ∈ lw_good := List.mem_filter.mpr ⟨List.mem_of_getElem? (i := 850) (by decide +kernel), by decide +kernel⟩
theorem wg_842 : Cond.code yL_taken cL_taken 4 (some .int) ∈ lw_good := List.mem_filter.mpr ⟨List.mem_of_getElem? (i := 842) (by decide +kernel), by decide +kernel⟩
theorem mi_L_taken : MI yL_taken cL_taken 4 (some .int) 2 := ⟨wg_842, wg_28, by decide +kernel, by decide +kernel⟩
theorem wg_840 : Cond.methodLink RL 47 yL_taken ∈ lw_good := List.mem_filter.mpr ⟨List.mem_of_getElem? (i := 840) (by decide +kernel), by decide +kernel⟩
theorem wg_841 : Cond.static yL_taken ∈ lw_good := List.mem_filter.mpr ⟨List.mem_of_getElem? (i := 841) (by decide +kernel), by decide +kernel⟩
theorem wg_854 : Cond.code yL_other cL_other 2 (some .int) ∈ lw_good := List.mem_filter.mpr ⟨List.mem_of_getElem? (i := 854) (by decide +kernel), by decide +kernel⟩
theorem mi_L_other : MI yL_other cL_other 2 (some .int) 2 := ⟨wg_854, wg_28, by decide +kernel, by decide +kernel⟩
theorem wg_852 : Cond.methodLink RL 44 yL_other ∈ lw_good := List.mem_filter.mpr ⟨List.mem_of_getElem? (i := 852) (by decide +kernel), by decide +kernel⟩
theorem wg_853 : Cond.static yL_other ∈ lw_good := List.mem_filter.mpr ⟨List.mem_of_getElem? (i := 853) (by decide +kernel), by decide +kernel⟩
theorem wg_773 : Cond.classLink RL 33 "java/lang/IllegalStateException" ∈ lw_good := List.mem_filter.mpr ⟨List.mem_of_getElem? (i := 773) (by decide +kernel), by decide +kernel⟩
theorem wt_359 : Cond.castable "java/lang/IllegalStateException" "java/lang/IllegalStateException" ∈ lw_tbl := List.mem_of_getElem? (i := 359) (by decide +kernel)
theorem wg_827 : Cond.code yX8_couple cX8_couple 5 (some .int) ∈ lw_good := List.mem_filter.mpr ⟨List.mem_of_getElem? (i := 827) (by decide +kernel), by decide +kernel⟩
theorem mi_X8_couple : MI yX8_couple cX8_couple 5 (some .int) 2 := ⟨wg_827, wg_29, by decide +kernel, by decide +kernel⟩
theorem wg_824 : Cond.methodLink RL 30 yX8_couple ∈ lw_good := List.mem_filter.mpr ⟨List.mem_of_getElem? (i := 824) (by decide +kernel), by decide +kernel⟩
theorem wg_825 : Cond.instanceMethod yX8_couple ∈ lw_good := List.mem_filter.mpr ⟨List.mem_of_getElem? (i := 825) (by decide +kernel), by decide +kernel⟩
theorem wg_826 : Cond.selects RX8 yX8_couple yX8_couple ∈ lw_good := List.mem_filter.mpr ⟨List.mem_of_getElem? (i := 826) (by decide +kernel), by decide +kernel⟩
theorem wg_823 : Cond.code yX8_tracks cX8_tracks 5 (some .int) ∈ lw_good := List.mem_filter.mpr ⟨List.mem_of_getElem? (i := 823) (by decide +kernel), by decide +kernel⟩
theorem mi_X8_tracks : MI yX8_tracks cX8_tracks 5 (some .int) 2 := ⟨wg_823, wg_29, by decide +kernel, by decide +kernel⟩
theorem wg_820 : Cond.methodLink RL 27 yX8_tracks ∈ lw_good := List.mem_filter.mpr ⟨List.mem_of_getElem? (i := 820) (by decide +kernel), by decide +kernel⟩
theorem wg_821 : Cond.instanceMethod yX8_tracks ∈ lw_good := List.mem_filter.mpr ⟨List.mem_of_getElem? (i := 821) (by decide +kernel), by decide +kernel⟩
theorem wg_822 : Cond.selects RX8 yX8_tracks yX8_tracks ∈ lw_good := List.mem_filter.mpr ⟨List.mem_of_getElem? (i := 822) (by decide +kernel), by decide +kernel⟩
theorem wg_819 : Cond.code yX8_rest cX8_rest 3 (some .int) ∈ lw_good := List.mem_filter.mpr ⟨List.mem_of_getElem? (i := 819) (by decide +kernel), by decide +kernel⟩
theorem mi_X8_rest : MI yX8_rest cX8_rest 3 (some .int) 1 := ⟨wg_819, wg_29, by decide +kernel, by decide +kernel⟩
theorem wg_816 : Cond.methodLink RL 24 yX8_rest ∈ lw_good := List.mem_filter.mpr ⟨List.mem_of_getElem? (i := 816) (by decide +kernel), by decide +kernel⟩
theorem wg_817 : Cond.instanceMethod yX8_rest ∈ lw_good := List.mem_filter.mpr ⟨List.mem_of_getElem? (i := 817) (by decide +kernel), by decide +kernel⟩
theorem wg_818 : Cond.selects RX8 yX8_rest yX8_rest ∈ lw_good := List.mem_filter.mpr ⟨List.mem_of_getElem? (i := 818) (by decide +kernel), by decide +kernel⟩
theorem wg_815 : Cond.code yX8_repair cX8_repair 4 (some .int) ∈ lw_good := List.mem_filter.mpr ⟨List.mem_of_getElem? (i := 815) (by decide +kernel), by decide +kernel⟩
theorem mi_X8_repair : MI yX8_repair cX8_repair 4 (some .int) 1 := ⟨wg_815, wg_29, by decide +kernel, by decide +kernel⟩
theorem wg_812 : Cond.methodLink RL 20 yX8_repair ∈ lw_good := List.mem_filter.mpr ⟨List.mem_of_getElem? (i := 812) (by decide +kernel), by decide +kernel⟩
theorem wg_813 : Cond.instanceMethod yX8_repair ∈ lw_good := List.mem_filter.mpr ⟨List.mem_of_getElem? (i := 813) (by decide +kernel), by decide +kernel⟩
theorem wg_814 : Cond.selects RX8 yX8_repair yX8_repair ∈ lw_good := List.mem_filter.mpr ⟨List.mem_of_getElem? (i := 814) (by decide +kernel), by decide +kernel⟩
theorem wg_798 : Cond.code yX8_plan cX8_plan 6 (some .int) ∈ lw_good := List.mem_filter.mpr ⟨List.mem_of_getElem? (i := 798) (by decide +kernel), by decide +kernel⟩
theorem mi_X8_plan : MI yX8_plan cX8_plan 6 (some .int) 3 := ⟨wg_798, wg_29, by decide +kernel, by decide +kernel⟩
theorem wg_795 : Cond.methodLink RL 16 yX8_plan ∈ lw_good := List.mem_filter.mpr ⟨List.mem_of_getElem? (i := 795) (by decide +kernel), by decide +kernel⟩
theorem wg_796 : Cond.instanceMethod yX8_plan ∈ lw_good := List.mem_filter.mpr ⟨List.mem_of_getElem? (i := 796) (by decide +kernel), by decide +kernel⟩
theorem wg_797 : Cond.selects RX8 yX8_plan yX8_plan ∈ lw_good := List.mem_filter.mpr ⟨List.mem_of_getElem? (i := 797) (by decide +kernel), by decide +kernel⟩
theorem wg_777 : Cond.code yX8_form cX8_form 6 (some .int) ∈ lw_good := List.mem_filter.mpr ⟨List.mem_of_getElem? (i := 777) (by decide +kernel), by decide +kernel⟩
theorem mi_X8_form : MI yX8_form cX8_form 6 (some .int) 2 := ⟨wg_777, wg_29, by decide +kernel, by decide +kernel⟩
theorem wg_774 : Cond.methodLink RL 10 yX8_form ∈ lw_good := List.mem_filter.mpr ⟨List.mem_of_getElem? (i := 774) (by decide +kernel), by decide +kernel⟩
theorem wg_775 : Cond.instanceMethod yX8_form ∈ lw_good := List.mem_filter.mpr ⟨List.mem_of_getElem? (i := 775) (by decide +kernel), by decide +kernel⟩
theorem wg_776 : Cond.selects RX8 yX8_form yX8_form ∈ lw_good := List.mem_filter.mpr ⟨List.mem_of_getElem? (i := 776) (by decide +kernel), by decide +kernel⟩
theorem wg_764 : Cond.constant RL 7 52583 ∈ lw_good := List.mem_filter.mpr ⟨List.mem_of_getElem? (i := 764) (by decide +kernel), by decide +kernel⟩
theorem wg_765 : Cond.constant RL 8 3034379 ∈ lw_good := List.mem_filter.mpr ⟨List.mem_of_getElem? (i := 765) (by decide +kernel), by decide +kernel⟩
theorem wg_884 : Cond.code yX8_block cX8_block 5 (some .int) ∈ lw_good := List.mem_filter.mpr ⟨List.mem_of_getElem? (i := 884) (by decide +kernel), by decide +kernel⟩
theorem mi_X8_block : MI yX8_block cX8_block 5 (some .int) 2 := ⟨wg_884, wg_29, by decide +kernel, by decide +kernel⟩
theorem wg_881 : Cond.methodLink RL 35 yX8_block ∈ lw_good := List.mem_filter.mpr ⟨List.mem_of_getElem? (i := 881) (by decide +kernel), by decide +kernel⟩
theorem wg_882 : Cond.instanceMethod yX8_block ∈ lw_good := List.mem_filter.mpr ⟨List.mem_of_getElem? (i := 882) (by decide +kernel), by decide +kernel⟩
theorem wg_883 : Cond.selects RX8 yX8_block yX8_block ∈ lw_good := List.mem_filter.mpr ⟨List.mem_of_getElem? (i := 883) (by decide +kernel), by decide +kernel⟩
theorem wg_769 : Cond.constant RL 9 2147483647 ∈ lw_good := List.mem_filter.mpr ⟨List.mem_of_getElem? (i := 769) (by decide +kernel), by decide +kernel⟩
theorem wg_768 : Cond.code yL_low cL_low 2 (some .int) ∈ lw_good := List.mem_filter.mpr ⟨List.mem_of_getElem? (i := 768) (by decide +kernel), by decide +kernel⟩
theorem mi_L_low : MI yL_low cL_low 2 (some .int) 2 := ⟨wg_768, wg_28, by decide +kernel, by decide +kernel⟩
theorem wg_766 : Cond.methodLink RL 88 yL_low ∈ lw_good := List.mem_filter.mpr ⟨List.mem_of_getElem? (i := 766) (by decide +kernel), by decide +kernel⟩
theorem wg_767 : Cond.static yL_low ∈ lw_good := List.mem_filter.mpr ⟨List.mem_of_getElem? (i := 767) (by decide +kernel), by decide +kernel⟩
theorem wg_772 : Cond.codeWith yL_calls cL_calls 6 (some .int) [(0, 75, 76, 33)] ∈ lw_good := List.mem_filter.mpr ⟨List.mem_of_getElem? (i := 772) (by decide +kernel), by decide +kernel⟩
theorem miw_L_calls : MIW yL_calls cL_calls 6 (some .int) [(0, 75, 76, 33)] 5 := ⟨wg_772, wg_28, by decide +kernel, by decide +kernel⟩
theorem wg_770 : Cond.methodLink RL 94 yL_calls ∈ lw_good := List.mem_filter.mpr ⟨List.mem_of_getElem? (i := 770) (by decide +kernel), by decide +kernel⟩
theorem wg_771 : Cond.static yL_calls ∈ lw_good := List.mem_filter.mpr ⟨List.mem_of_getElem? (i := 771) (by decide +kernel), by decide +kernel⟩
theorem wg_910 : Cond.code yX8_leg cX8_leg 2 (some .int) ∈ lw_good := List.mem_filter.mpr ⟨List.mem_of_getElem? (i := 910) (by decide +kernel), by decide +kernel⟩
theorem mi_X8_leg : MI yX8_leg cX8_leg 2 (some .int) 1 := ⟨wg_910, wg_29, by decide +kernel, by decide +kernel⟩
theorem wg_907 : Cond.methodLink RL 91 yX8_leg ∈ lw_good := List.mem_filter.mpr ⟨List.mem_of_getElem? (i := 907) (by decide +kernel), by decide +kernel⟩
theorem wg_908 : Cond.instanceMethod yX8_leg ∈ lw_good := List.mem_filter.mpr ⟨List.mem_of_getElem? (i := 908) (by decide +kernel), by decide +kernel⟩
theorem wg_909 : Cond.selects RX8 yX8_leg yX8_leg ∈ lw_good := List.mem_filter.mpr ⟨List.mem_of_getElem? (i := 909) (by decide +kernel), by decide +kernel⟩
theorem wg_857 : Cond.code yL_enters cL_enters 7 none ∈ lw_good := List.mem_filter.mpr ⟨List.mem_of_getElem? (i := 857) (by decide +kernel), by decide +kernel⟩
theorem mi_L_enters : MI yL_enters cL_enters 7 none 5 := ⟨wg_857, wg_28, by decide +kernel, by decide +kernel⟩
theorem wg_855 : Cond.methodLink RL 55 yL_enters ∈ lw_good := List.mem_filter.mpr ⟨List.mem_of_getElem? (i := 855) (by decide +kernel), by decide +kernel⟩
theorem wg_856 : Cond.static yL_enters ∈ lw_good := List.mem_filter.mpr ⟨List.mem_of_getElem? (i := 856) (by decide +kernel), by decide +kernel⟩
theorem wg_848 : Cond.code yL_bars cL_bars 9 (some .int) ∈ lw_good := List.mem_filter.mpr ⟨List.mem_of_getElem? (i := 848) (by decide +kernel), by decide +kernel⟩
theorem mi_L_bars : MI yL_bars cL_bars 9 (some .int) 5 := ⟨wg_848, wg_28, by decide +kernel, by decide +kernel⟩
theorem wg_846 : Cond.methodLink RL 51 yL_bars ∈ lw_good := List.mem_filter.mpr ⟨List.mem_of_getElem? (i := 846) (by decide +kernel), by decide +kernel⟩
theorem wg_847 : Cond.static yL_bars ∈ lw_good := List.mem_filter.mpr ⟨List.mem_of_getElem? (i := 847) (by decide +kernel), by decide +kernel⟩
theorem wg_868 : Cond.code yX8_cash cX8_cash 1 (some .int) ∈ lw_good := List.mem_filter.mpr ⟨List.mem_of_getElem? (i := 868) (by decide +kernel), by decide +kernel⟩
theorem mi_X8_cash : MI yX8_cash cX8_cash 1 (some .int) 0 := ⟨wg_868, wg_29, by decide +kernel, by decide +kernel⟩
theorem wg_865 : Cond.methodLink RL 63 yX8_cash ∈ lw_good := List.mem_filter.mpr ⟨List.mem_of_getElem? (i := 865) (by decide +kernel), by decide +kernel⟩
theorem wg_866 : Cond.instanceMethod yX8_cash ∈ lw_good := List.mem_filter.mpr ⟨List.mem_of_getElem? (i := 866) (by decide +kernel), by decide +kernel⟩
theorem wg_867 : Cond.selects RX8 yX8_cash yX8_cash ∈ lw_good := List.mem_filter.mpr ⟨List.mem_of_getElem? (i := 867) (by decide +kernel), by decide +kernel⟩
theorem wg_864 : Cond.code yX8_clock cX8_clock 1 (some .int) ∈ lw_good := List.mem_filter.mpr ⟨List.mem_of_getElem? (i := 864) (by decide +kernel), by decide +kernel⟩
theorem mi_X8_clock : MI yX8_clock cX8_clock 1 (some .int) 0 := ⟨wg_864, wg_29, by decide +kernel, by decide +kernel⟩
theorem wg_861 : Cond.methodLink RL 59 yX8_clock ∈ lw_good := List.mem_filter.mpr ⟨List.mem_of_getElem? (i := 861) (by decide +kernel), by decide +kernel⟩
theorem wg_862 : Cond.instanceMethod yX8_clock ∈ lw_good := List.mem_filter.mpr ⟨List.mem_of_getElem? (i := 862) (by decide +kernel), by decide +kernel⟩
theorem wg_863 : Cond.selects RX8 yX8_clock yX8_clock ∈ lw_good := List.mem_filter.mpr ⟨List.mem_of_getElem? (i := 863) (by decide +kernel), by decide +kernel⟩
theorem wg_876 : Cond.code yX8_holderByTrains cX8_holderByTrains 3 (some .int) ∈ lw_good := List.mem_filter.mpr ⟨List.mem_of_getElem? (i := 876) (by decide +kernel), by decide +kernel⟩
theorem mi_X8_holderByTrains : MI yX8_holderByTrains cX8_holderByTrains 3 (some .int) 1 := ⟨wg_876, wg_29, by decide +kernel, by decide +kernel⟩
theorem wg_873 : Cond.methodLink RL 69 yX8_holderByTrains ∈ lw_good := List.mem_filter.mpr ⟨List.mem_of_getElem? (i := 873) (by decide +kernel), by decide +kernel⟩
theorem wg_874 : Cond.instanceMethod yX8_holderByTrains ∈ lw_good := List.mem_filter.mpr ⟨List.mem_of_getElem? (i := 874) (by decide +kernel), by decide +kernel⟩
theorem wg_875 : Cond.selects RX8 yX8_holderByTrains yX8_holderByTrains ∈ lw_good := List.mem_filter.mpr ⟨List.mem_of_getElem? (i := 875) (by decide +kernel), by decide +kernel⟩
theorem wg_872 : Cond.code yX8_holder cX8_holder 2 (some .int) ∈ lw_good := List.mem_filter.mpr ⟨List.mem_of_getElem? (i := 872) (by decide +kernel), by decide +kernel⟩
theorem mi_X8_holder : MI yX8_holder cX8_holder 2 (some .int) 1 := ⟨wg_872, wg_29, by decide +kernel, by decide +kernel⟩
theorem wg_869 : Cond.methodLink RL 66 yX8_holder ∈ lw_good := List.mem_filter.mpr ⟨List.mem_of_getElem? (i := 869) (by decide +kernel), by decide +kernel⟩
theorem wg_870 : Cond.instanceMethod yX8_holder ∈ lw_good := List.mem_filter.mpr ⟨List.mem_of_getElem? (i := 870) (by decide +kernel), by decide +kernel⟩
theorem wg_871 : Cond.selects RX8 yX8_holder yX8_holder ∈ lw_good := List.mem_filter.mpr ⟨List.mem_of_getElem? (i := 871) (by decide +kernel), by decide +kernel⟩
theorem wg_891 : Cond.code yX8_freeTracks cX8_freeTracks 2 (some .int) ∈ lw_good := List.mem_filter.mpr ⟨List.mem_of_getElem? (i := 891) (by decide +kernel), by decide +kernel⟩
theorem mi_X8_freeTracks : MI yX8_freeTracks cX8_freeTracks 2 (some .int) 1 := ⟨wg_891, wg_29, by decide +kernel, by decide +kernel⟩
theorem wg_888 : Cond.methodLink RL 76 yX8_freeTracks ∈ lw_good := List.mem_filter.mpr ⟨List.mem_of_getElem? (i := 888) (by decide +kernel), by decide +kernel⟩
theorem wg_889 : Cond.instanceMethod yX8_freeTracks ∈ lw_good := List.mem_filter.mpr ⟨List.mem_of_getElem? (i := 889) (by decide +kernel), by decide +kernel⟩
theorem wg_890 : Cond.selects RX8 yX8_freeTracks yX8_freeTracks ∈ lw_good := List.mem_filter.mpr ⟨List.mem_of_getElem? (i := 890) (by decide +kernel), by decide +kernel⟩
theorem wg_887 : Cond.code yL_flags cL_flags 2 (some .int) ∈ lw_good := List.mem_filter.mpr ⟨List.mem_of_getElem? (i := 887) (by decide +kernel), by decide +kernel⟩
theorem mi_L_flags : MI yL_flags cL_flags 2 (some .int) 2 := ⟨wg_887, wg_28, by decide +kernel, by decide +kernel⟩
theorem wg_885 : Cond.methodLink RL 72 yL_flags ∈ lw_good := List.mem_filter.mpr ⟨List.mem_of_getElem? (i := 885) (by decide +kernel), by decide +kernel⟩
theorem wg_886 : Cond.static yL_flags ∈ lw_good := List.mem_filter.mpr ⟨List.mem_of_getElem? (i := 886) (by decide +kernel), by decide +kernel⟩
theorem wg_895 : Cond.code yX8_train cX8_train 4 (some .int) ∈ lw_good := List.mem_filter.mpr ⟨List.mem_of_getElem? (i := 895) (by decide +kernel), by decide +kernel⟩
theorem mi_X8_train : MI yX8_train cX8_train 4 (some .int) 2 := ⟨wg_895, wg_29, by decide +kernel, by decide +kernel⟩
theorem wg_892 : Cond.methodLink RL 79 yX8_train ∈ lw_good := List.mem_filter.mpr ⟨List.mem_of_getElem? (i := 892) (by decide +kernel), by decide +kernel⟩
theorem wg_893 : Cond.instanceMethod yX8_train ∈ lw_good := List.mem_filter.mpr ⟨List.mem_of_getElem? (i := 893) (by decide +kernel), by decide +kernel⟩
theorem wg_894 : Cond.selects RX8 yX8_train yX8_train ∈ lw_good := List.mem_filter.mpr ⟨List.mem_of_getElem? (i := 894) (by decide +kernel), by decide +kernel⟩
theorem wg_899 : Cond.code yX8_barred cX8_barred 3 (some .int) ∈ lw_good := List.mem_filter.mpr ⟨List.mem_of_getElem? (i := 899) (by decide +kernel), by decide +kernel⟩
theorem mi_X8_barred : MI yX8_barred cX8_barred 3 (some .int) 1 := ⟨wg_899, wg_29, by decide +kernel, by decide +kernel⟩
theorem wg_896 : Cond.methodLink RL 82 yX8_barred ∈ lw_good := List.mem_filter.mpr ⟨List.mem_of_getElem? (i := 896) (by decide +kernel), by decide +kernel⟩
theorem wg_897 : Cond.instanceMethod yX8_barred ∈ lw_good := List.mem_filter.mpr ⟨List.mem_of_getElem? (i := 897) (by decide +kernel), by decide +kernel⟩
theorem wg_898 : Cond.selects RX8 yX8_barred yX8_barred ∈ lw_good := List.mem_filter.mpr ⟨List.mem_of_getElem? (i := 898) (by decide +kernel), by decide +kernel⟩
theorem wg_903 : Cond.code yX8_duty cX8_duty 3 (some .int) ∈ lw_good := List.mem_filter.mpr ⟨List.mem_of_getElem? (i := 903) (by decide +kernel), by decide +kernel⟩
theorem mi_X8_duty : MI yX8_duty cX8_duty 3 (some .int) 1 := ⟨wg_903, wg_29, by decide +kernel, by decide +kernel⟩
theorem wg_900 : Cond.methodLink RL 85 yX8_duty ∈ lw_good := List.mem_filter.mpr ⟨List.mem_of_getElem? (i := 900) (by decide +kernel), by decide +kernel⟩
theorem wg_901 : Cond.instanceMethod yX8_duty ∈ lw_good := List.mem_filter.mpr ⟨List.mem_of_getElem? (i := 901) (by decide +kernel), by decide +kernel⟩
theorem wg_902 : Cond.selects RX8 yX8_duty yX8_duty ∈ lw_good := List.mem_filter.mpr ⟨List.mem_of_getElem? (i := 902) (by decide +kernel), by decide +kernel⟩
theorem wg_54 : Cond.instantiable RX8 16 ∈ lw_good := List.mem_filter.mpr ⟨List.mem_of_getElem? (i := 54) (by decide +kernel), by decide +kernel⟩
theorem wg_53 : Cond.classLink RL 11 RX8 ∈ lw_good := List.mem_filter.mpr ⟨List.mem_of_getElem? (i := 53) (by decide +kernel), by decide +kernel⟩
theorem wg_57 : Cond.code yX8_init cX8_init 2 none ∈ lw_good := List.mem_filter.mpr ⟨List.mem_of_getElem? (i := 57) (by decide +kernel), by decide +kernel⟩
theorem mi_X8_init : MI yX8_init cX8_init 2 none 0 := ⟨wg_57, wg_29, by decide +kernel, by decide +kernel⟩
theorem wg_55 : Cond.methodLink RL 98 yX8_init ∈ lw_good := List.mem_filter.mpr ⟨List.mem_of_getElem? (i := 55) (by decide +kernel), by decide +kernel⟩
theorem wg_56 : Cond.instanceMethod yX8_init ∈ lw_good := List.mem_filter.mpr ⟨List.mem_of_getElem? (i := 56) (by decide +kernel), by decide +kernel⟩
theorem wg_252 : Cond.code yX8_lay cX8_lay 5 (some .int) ∈ lw_good := List.mem_filter.mpr ⟨List.mem_of_getElem? (i := 252) (by decide +kernel), by decide +kernel⟩
theorem mi_X8_lay : MI yX8_lay cX8_lay 5 (some .int) 4 := ⟨wg_252, wg_29, by decide +kernel, by decide +kernel⟩
theorem wg_249 : Cond.methodLink RL 103 yX8_lay ∈ lw_good := List.mem_filter.mpr ⟨List.mem_of_getElem? (i := 249) (by decide +kernel), by decide +kernel⟩
theorem wg_250 : Cond.instanceMethod yX8_lay ∈ lw_good := List.mem_filter.mpr ⟨List.mem_of_getElem? (i := 250) (by decide +kernel), by decide +kernel⟩
theorem wg_251 : Cond.selects RX8 yX8_lay yX8_lay ∈ lw_good := List.mem_filter.mpr ⟨List.mem_of_getElem? (i := 251) (by decide +kernel), by decide +kernel⟩
theorem wg_763 : Cond.code yL_cell cL_cell 2 (some .int) ∈ lw_good := List.mem_filter.mpr ⟨List.mem_of_getElem? (i := 763) (by decide +kernel), by decide +kernel⟩
theorem mi_L_cell : MI yL_cell cL_cell 2 (some .int) 2 := ⟨wg_763, wg_28, by decide +kernel, by decide +kernel⟩
theorem wg_761 : Cond.methodLink RL 99 yL_cell ∈ lw_good := List.mem_filter.mpr ⟨List.mem_of_getElem? (i := 761) (by decide +kernel), by decide +kernel⟩
theorem wg_762 : Cond.static yL_cell ∈ lw_good := List.mem_filter.mpr ⟨List.mem_of_getElem? (i := 762) (by decide +kernel), by decide +kernel⟩
theorem wg_906 : Cond.code yL_plans cL_plans 15 (some .boolean) ∈ lw_good := List.mem_filter.mpr ⟨List.mem_of_getElem? (i := 906) (by decide +kernel), by decide +kernel⟩
theorem mi_L_plans : MI yL_plans cL_plans 15 (some .boolean) 6 := ⟨wg_906, wg_28, by decide +kernel, by decide +kernel⟩
theorem wg_904 : Cond.methodLink RL 119 yL_plans ∈ lw_good := List.mem_filter.mpr ⟨List.mem_of_getElem? (i := 904) (by decide +kernel), by decide +kernel⟩
theorem wg_905 : Cond.static yL_plans ∈ lw_good := List.mem_filter.mpr ⟨List.mem_of_getElem? (i := 905) (by decide +kernel), by decide +kernel⟩
theorem wg_544 : Cond.code yX8_crew cX8_crew 2 (some .int) ∈ lw_good := List.mem_filter.mpr ⟨List.mem_of_getElem? (i := 544) (by decide +kernel), by decide +kernel⟩
theorem mi_X8_crew : MI yX8_crew cX8_crew 2 (some .int) 1 := ⟨wg_544, wg_29, by decide +kernel, by decide +kernel⟩
theorem wg_541 : Cond.methodLink RL 110 yX8_crew ∈ lw_good := List.mem_filter.mpr ⟨List.mem_of_getElem? (i := 541) (by decide +kernel), by decide +kernel⟩
theorem wg_542 : Cond.instanceMethod yX8_crew ∈ lw_good := List.mem_filter.mpr ⟨List.mem_of_getElem? (i := 542) (by decide +kernel), by decide +kernel⟩
theorem wg_543 : Cond.selects RX8 yX8_crew yX8_crew ∈ lw_good := List.mem_filter.mpr ⟨List.mem_of_getElem? (i := 543) (by decide +kernel), by decide +kernel⟩
theorem wg_521 : Cond.code yX8_engine cX8_engine 3 (some .int) ∈ lw_good := List.mem_filter.mpr ⟨List.mem_of_getElem? (i := 521) (by decide +kernel), by decide +kernel⟩
theorem mi_X8_engine : MI yX8_engine cX8_engine 3 (some .int) 2 := ⟨wg_521, wg_29, by decide +kernel, by decide +kernel⟩
theorem wg_518 : Cond.methodLink RL 107 yX8_engine ∈ lw_good := List.mem_filter.mpr ⟨List.mem_of_getElem? (i := 518) (by decide +kernel), by decide +kernel⟩
theorem wg_519 : Cond.instanceMethod yX8_engine ∈ lw_good := List.mem_filter.mpr ⟨List.mem_of_getElem? (i := 519) (by decide +kernel), by decide +kernel⟩
theorem wg_520 : Cond.selects RX8 yX8_engine yX8_engine ∈ lw_good := List.mem_filter.mpr ⟨List.mem_of_getElem? (i := 520) (by decide +kernel), by decide +kernel⟩
theorem wg_513 : Cond.code yX8_flag cX8_flag 3 none ∈ lw_good := List.mem_filter.mpr ⟨List.mem_of_getElem? (i := 513) (by decide +kernel), by decide +kernel⟩
theorem mi_X8_flag : MI yX8_flag cX8_flag 3 none 1 := ⟨wg_513, wg_29, by decide +kernel, by decide +kernel⟩
theorem wg_510 : Cond.methodLink RL 127 yX8_flag ∈ lw_good := List.mem_filter.mpr ⟨List.mem_of_getElem? (i := 510) (by decide +kernel), by decide +kernel⟩
theorem wg_511 : Cond.instanceMethod yX8_flag ∈ lw_good := List.mem_filter.mpr ⟨List.mem_of_getElem? (i := 511) (by decide +kernel), by decide +kernel⟩
theorem wg_512 : Cond.selects RX8 yX8_flag yX8_flag ∈ lw_good := List.mem_filter.mpr ⟨List.mem_of_getElem? (i := 512) (by decide +kernel), by decide +kernel⟩
theorem wg_860 : Cond.code yL_shows cL_shows 8 (some .boolean) ∈ lw_good := List.mem_filter.mpr ⟨List.mem_of_getElem? (i := 860) (by decide +kernel), by decide +kernel⟩
theorem mi_L_shows : MI yL_shows cL_shows 8 (some .boolean) 5 := ⟨wg_860, wg_28, by decide +kernel, by decide +kernel⟩
theorem wg_858 : Cond.methodLink RL 145 yL_shows ∈ lw_good := List.mem_filter.mpr ⟨List.mem_of_getElem? (i := 858) (by decide +kernel), by decide +kernel⟩
theorem wg_859 : Cond.static yL_shows ∈ lw_good := List.mem_filter.mpr ⟨List.mem_of_getElem? (i := 859) (by decide +kernel), by decide +kernel⟩
theorem wg_491 : Cond.code yX8_fail cX8_fail 5 (some .boolean) ∈ lw_good := List.mem_filter.mpr ⟨List.mem_of_getElem? (i := 491) (by decide +kernel), by decide +kernel⟩
theorem mi_X8_fail : MI yX8_fail cX8_fail 5 (some .boolean) 2 := ⟨wg_491, wg_29, by decide +kernel, by decide +kernel⟩
theorem wg_488 : Cond.methodLink RL 123 yX8_fail ∈ lw_good := List.mem_filter.mpr ⟨List.mem_of_getElem? (i := 488) (by decide +kernel), by decide +kernel⟩
theorem wg_489 : Cond.instanceMethod yX8_fail ∈ lw_good := List.mem_filter.mpr ⟨List.mem_of_getElem? (i := 489) (by decide +kernel), by decide +kernel⟩
theorem wg_490 : Cond.selects RX8 yX8_fail yX8_fail ∈ lw_good := List.mem_filter.mpr ⟨List.mem_of_getElem? (i := 490) (by decide +kernel), by decide +kernel⟩
theorem wg_647 : Cond.code yX8_await cX8_await 5 none ∈ lw_good := List.mem_filter.mpr ⟨List.mem_of_getElem? (i := 647) (by decide +kernel), by decide +kernel⟩
theorem mi_X8_await : MI yX8_await cX8_await 5 none 3 := ⟨wg_647, wg_29, by decide +kernel, by decide +kernel⟩
theorem wg_644 : Cond.methodLink RL 135 yX8_await ∈ lw_good := List.mem_filter.mpr ⟨List.mem_of_getElem? (i := 644) (by decide +kernel), by decide +kernel⟩
theorem wg_645 : Cond.instanceMethod yX8_await ∈ lw_good := List.mem_filter.mpr ⟨List.mem_of_getElem? (i := 645) (by decide +kernel), by decide +kernel⟩
theorem wg_646 : Cond.selects RX8 yX8_await yX8_await ∈ lw_good := List.mem_filter.mpr ⟨List.mem_of_getElem? (i := 646) (by decide +kernel), by decide +kernel⟩
theorem wg_517 : Cond.code yX8_hours cX8_hours 5 none ∈ lw_good := List.mem_filter.mpr ⟨List.mem_of_getElem? (i := 517) (by decide +kernel), by decide +kernel⟩
theorem mi_X8_hours : MI yX8_hours cX8_hours 5 none 3 := ⟨wg_517, wg_29, by decide +kernel, by decide +kernel⟩
theorem wg_514 : Cond.methodLink RL 131 yX8_hours ∈ lw_good := List.mem_filter.mpr ⟨List.mem_of_getElem? (i := 514) (by decide +kernel), by decide +kernel⟩
theorem wg_515 : Cond.instanceMethod yX8_hours ∈ lw_good := List.mem_filter.mpr ⟨List.mem_of_getElem? (i := 515) (by decide +kernel), by decide +kernel⟩
theorem wg_516 : Cond.selects RX8 yX8_hours yX8_hours ∈ lw_good := List.mem_filter.mpr ⟨List.mem_of_getElem? (i := 516) (by decide +kernel), by decide +kernel⟩
theorem wg_575 : Cond.code yX8_learn cX8_learn 4 (some .int) ∈ lw_good := List.mem_filter.mpr ⟨List.mem_of_getElem? (i := 575) (by decide +kernel), by decide +kernel⟩
theorem mi_X8_learn : MI yX8_learn cX8_learn 4 (some .int) 2 := ⟨wg_575, wg_29, by decide +kernel, by decide +kernel⟩
theorem wg_572 : Cond.methodLink RL 113 yX8_learn ∈ lw_good := List.mem_filter.mpr ⟨List.mem_of_getElem? (i := 572) (by decide +kernel), by decide +kernel⟩
theorem wg_573 : Cond.instanceMethod yX8_learn ∈ lw_good := List.mem_filter.mpr ⟨List.mem_of_getElem? (i := 573) (by decide +kernel), by decide +kernel⟩
theorem wg_574 : Cond.selects RX8 yX8_learn yX8_learn ∈ lw_good := List.mem_filter.mpr ⟨List.mem_of_getElem? (i := 574) (by decide +kernel), by decide +kernel⟩
theorem wg_660 : Cond.code yX8_run cX8_run 4 (some .int) ∈ lw_good := List.mem_filter.mpr ⟨List.mem_of_getElem? (i := 660) (by decide +kernel), by decide +kernel⟩
theorem mi_X8_run : MI yX8_run cX8_run 4 (some .int) 1 := ⟨wg_660, wg_29, by decide +kernel, by decide +kernel⟩
theorem wg_657 : Cond.methodLink RL 142 yX8_run ∈ lw_good := List.mem_filter.mpr ⟨List.mem_of_getElem? (i := 657) (by decide +kernel), by decide +kernel⟩
theorem wg_658 : Cond.instanceMethod yX8_run ∈ lw_good := List.mem_filter.mpr ⟨List.mem_of_getElem? (i := 658) (by decide +kernel), by decide +kernel⟩
theorem wg_659 : Cond.selects RX8 yX8_run yX8_run ∈ lw_good := List.mem_filter.mpr ⟨List.mem_of_getElem? (i := 659) (by decide +kernel), by decide +kernel⟩
theorem wg_845 : Cond.code yL_minute cL_minute 6 none ∈ lw_good := List.mem_filter.mpr ⟨List.mem_of_getElem? (i := 845) (by decide +kernel), by decide +kernel⟩
theorem mi_L_minute : MI yL_minute cL_minute 6 none 4 := ⟨wg_845, wg_28, by decide +kernel, by decide +kernel⟩
theorem wg_843 : Cond.methodLink RL 138 yL_minute ∈ lw_good := List.mem_filter.mpr ⟨List.mem_of_getElem? (i := 843) (by decide +kernel), by decide +kernel⟩
theorem wg_844 : Cond.static yL_minute ∈ lw_good := List.mem_filter.mpr ⟨List.mem_of_getElem? (i := 844) (by decide +kernel), by decide +kernel⟩
theorem wg_593 : Cond.code yX8_car cX8_car 4 (some .int) ∈ lw_good := List.mem_filter.mpr ⟨List.mem_of_getElem? (i := 593) (by decide +kernel), by decide +kernel⟩
theorem mi_X8_car : MI yX8_car cX8_car 4 (some .int) 1 := ⟨wg_593, wg_29, by decide +kernel, by decide +kernel⟩
theorem wg_590 : Cond.methodLink RL 116 yX8_car ∈ lw_good := List.mem_filter.mpr ⟨List.mem_of_getElem? (i := 590) (by decide +kernel), by decide +kernel⟩
theorem wg_591 : Cond.instanceMethod yX8_car ∈ lw_good := List.mem_filter.mpr ⟨List.mem_of_getElem? (i := 591) (by decide +kernel), by decide +kernel⟩
theorem wg_592 : Cond.selects RX8 yX8_car yX8_car ∈ lw_good := List.mem_filter.mpr ⟨List.mem_of_getElem? (i := 592) (by decide +kernel), by decide +kernel⟩
