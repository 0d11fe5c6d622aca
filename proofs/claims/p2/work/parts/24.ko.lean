theorem co_X2_clear : Cond.code yX2_clear cX2_clear 1 none ∈ lw_gd := zm (List.mem_of_getElem? (i := 1070) (by decide +kernel)) rfl
theorem co_X4_isSound : Cond.code yX4_isSound cX4_isSound 4 (some .boolean) ∈ lw_gd := zm (List.mem_of_getElem? (i := 1514) (by decide +kernel)) rfl
theorem co_X4_load : Cond.code yX4_load cX4_load 7 (some .boolean) ∈ lw_gd := zm (List.mem_of_getElem? (i := 1486) (by decide +kernel)) rfl
theorem co_X4_loadBlock : Cond.code yX4_loadBlock cX4_loadBlock 9 (some .boolean) ∈ lw_gd := zm (List.mem_of_getElem? (i := 1509) (by decide +kernel)) rfl
theorem co_X4_loadHead : Cond.code yX4_loadHead cX4_loadHead 6 (some .boolean) ∈ lw_gd := zm (List.mem_of_getElem? (i := 1492) (by decide +kernel)) rfl
theorem co_X5_addChange : Cond.code yX5_addChange cX5_addChange 5 none ∈ lw_gd := zm (List.mem_of_getElem? (i := 845) (by decide +kernel)) rfl
theorem co_X5_addVolume : Cond.code yX5_addVolume cX5_addVolume 5 (some .int) ∈ lw_gd := zm (List.mem_of_getElem? (i := 841) (by decide +kernel)) rfl
theorem co_X5_letterAt : Cond.code yX5_letterAt cX5_letterAt 3 (some .int) ∈ lw_gd := zm (List.mem_of_getElem? (i := 832) (by decide +kernel)) rfl
theorem co_X5_volumeNamed : Cond.code yX5_volumeNamed cX5_volumeNamed 7 (some .int) ∈ lw_gd := zm (List.mem_of_getElem? (i := 829) (by decide +kernel)) rfl
theorem co_X6_expectVolume : Cond.code yX6_expectVolume cX6_expectVolume 3 (some .int) ∈ lw_gd := zm (List.mem_of_getElem? (i := 837) (by decide +kernel)) rfl
theorem co_X6_expectWord : Cond.code yX6_expectWord cX6_expectWord 2 none ∈ lw_gd := zm (List.mem_of_getElem? (i := 813) (by decide +kernel)) rfl
theorem co_X6_isName : Cond.code yX6_isName cX6_isName 1 (some .boolean) ∈ lw_gd := zm (List.mem_of_getElem? (i := 825) (by decide +kernel)) rfl
theorem co_X8_clear : Cond.code yX8_clear cX8_clear 3 none ∈ lw_gd := zm (List.mem_of_getElem? (i := 552) (by decide +kernel)) rfl
theorem fl_X11_345 : Cond.fieldLink RX11 345 "CloneVolumes$Forest" "inner" "LCloneVolumes$State;" ∈ lw_gd := zm (List.mem_of_getElem? (i := 673) (by decide +kernel)) rfl
theorem fl_X11_348 : Cond.fieldLink RX11 348 "CloneVolumes$Plan" "blocks" "I" ∈ lw_gd := zm (List.mem_of_getElem? (i := 473) (by decide +kernel)) rfl
theorem fl_X4_87 : Cond.fieldLink RX4 87 "CloneVolumes$Tape" "length" "I" ∈ lw_gd := zm (List.mem_of_getElem? (i := 239) (by decide +kernel)) rfl
theorem fl_X4_95 : Cond.fieldLink RX4 95 "CloneVolumes$Tape" "bytes" "[I" ∈ lw_gd := zm (List.mem_of_getElem? (i := 234) (by decide +kernel)) rfl
theorem fl_X5_15 : Cond.fieldLink RX5 15 "CloneVolumes$Plan" "kinds" "[I" ∈ lw_gd := zm (List.mem_of_getElem? (i := 490) (by decide +kernel)) rfl
theorem fl_X5_18 : Cond.fieldLink RX5 18 "CloneVolumes$Plan" "who" "[I" ∈ lw_gd := zm (List.mem_of_getElem? (i := 492) (by decide +kernel)) rfl
theorem fl_X5_21 : Cond.fieldLink RX5 21 "CloneVolumes$Plan" "first" "[I" ∈ lw_gd := zm (List.mem_of_getElem? (i := 494) (by decide +kernel)) rfl
theorem fl_X5_24 : Cond.fieldLink RX5 24 "CloneVolumes$Plan" "second" "[I" ∈ lw_gd := zm (List.mem_of_getElem? (i := 496) (by decide +kernel)) rfl
theorem fl_X5_47 : Cond.fieldLink RX5 47 "CloneVolumes$Plan" "volumes" "I" ∈ lw_gd := zm (List.mem_of_getElem? (i := 483) (by decide +kernel)) rfl
theorem fl_X5_50 : Cond.fieldLink RX5 50 "CloneVolumes$Plan" "changes" "I" ∈ lw_gd := zm (List.mem_of_getElem? (i := 486) (by decide +kernel)) rfl
theorem fl_X5_9 : Cond.fieldLink RX5 9 "CloneVolumes$Plan" "names" "[I" ∈ lw_gd := zm (List.mem_of_getElem? (i := 488) (by decide +kernel)) rfl
theorem fl_X6_171 : Cond.fieldLink RX6 171 "CloneVolumes$Plan" "volumes" "I" ∈ lw_gd := zm (List.mem_of_getElem? (i := 485) (by decide +kernel)) rfl
theorem im_X2_clear : Cond.instanceMethod yX2_clear ∈ lw_gd := zm (List.mem_of_getElem? (i := 1068) (by decide +kernel)) rfl
theorem im_X4_isSound : Cond.instanceMethod yX4_isSound ∈ lw_gd := zm (List.mem_of_getElem? (i := 1513) (by decide +kernel)) rfl
theorem im_X4_load : Cond.instanceMethod yX4_load ∈ lw_gd := zm (List.mem_of_getElem? (i := 1484) (by decide +kernel)) rfl
theorem im_X4_loadBlock : Cond.instanceMethod yX4_loadBlock ∈ lw_gd := zm (List.mem_of_getElem? (i := 1508) (by decide +kernel)) rfl
theorem im_X4_loadHead : Cond.instanceMethod yX4_loadHead ∈ lw_gd := zm (List.mem_of_getElem? (i := 1491) (by decide +kernel)) rfl
theorem im_X5_addChange : Cond.instanceMethod yX5_addChange ∈ lw_gd := zm (List.mem_of_getElem? (i := 843) (by decide +kernel)) rfl
theorem im_X5_addVolume : Cond.instanceMethod yX5_addVolume ∈ lw_gd := zm (List.mem_of_getElem? (i := 839) (by decide +kernel)) rfl
theorem im_X5_volumeNamed : Cond.instanceMethod yX5_volumeNamed ∈ lw_gd := zm (List.mem_of_getElem? (i := 827) (by decide +kernel)) rfl
theorem im_X6_expectVolume : Cond.instanceMethod yX6_expectVolume ∈ lw_gd := zm (List.mem_of_getElem? (i := 836) (by decide +kernel)) rfl
theorem im_X6_expectWord : Cond.instanceMethod yX6_expectWord ∈ lw_gd := zm (List.mem_of_getElem? (i := 812) (by decide +kernel)) rfl
theorem im_X6_isName : Cond.instanceMethod yX6_isName ∈ lw_gd := zm (List.mem_of_getElem? (i := 824) (by decide +kernel)) rfl
theorem im_X8_clear : Cond.instanceMethod yX8_clear ∈ lw_gd := zm (List.mem_of_getElem? (i := 550) (by decide +kernel)) rfl
theorem in_X5 : Cond.initialized RX5 ∈ lw_gd := zm (List.mem_of_getElem? (i := 209) (by decide +kernel)) rfl
theorem ml_X11_106 : Cond.methodLink RX11 106 yX2_clear ∈ lw_gd := zm (List.mem_of_getElem? (i := 1067) (by decide +kernel)) rfl
theorem ml_X11_312 : Cond.methodLink RX11 312 yX8_become ∈ lw_gd := zm (List.mem_of_getElem? (i := 1415) (by decide +kernel)) rfl
theorem ml_X11_349 : Cond.methodLink RX11 349 yX4_load ∈ lw_gd := zm (List.mem_of_getElem? (i := 1483) (by decide +kernel)) rfl
theorem ml_X4_101 : Cond.methodLink RX4 101 yX4_loadHead ∈ lw_gd := zm (List.mem_of_getElem? (i := 1489) (by decide +kernel)) rfl
theorem ml_X4_105 : Cond.methodLink RX4 105 yX4_loadBlock ∈ lw_gd := zm (List.mem_of_getElem? (i := 1506) (by decide +kernel)) rfl
theorem ml_X4_109 : Cond.methodLink RX4 109 yX4_isSound ∈ lw_gd := zm (List.mem_of_getElem? (i := 1511) (by decide +kernel)) rfl
theorem ml_X4_96 : Cond.methodLink RX4 96 yX8_clear ∈ lw_gd := zm (List.mem_of_getElem? (i := 1488) (by decide +kernel)) rfl
theorem ml_X5_59 : Cond.methodLink RX5 59 yX5_letterAt ∈ lw_gd := zm (List.mem_of_getElem? (i := 830) (by decide +kernel)) rfl
theorem ml_X5_63 : Cond.methodLink RX5 63 yX9_at ∈ lw_gd := zm (List.mem_of_getElem? (i := 833) (by decide +kernel)) rfl
theorem ml_X6_127 : Cond.methodLink RX6 127 yX6_isName ∈ lw_gd := zm (List.mem_of_getElem? (i := 822) (by decide +kernel)) rfl
theorem ml_X6_131 : Cond.methodLink RX6 131 yX5_volumeNamed ∈ lw_gd := zm (List.mem_of_getElem? (i := 826) (by decide +kernel)) rfl
theorem ml_X6_165 : Cond.methodLink RX6 165 yX6_expectWord ∈ lw_gd := zm (List.mem_of_getElem? (i := 810) (by decide +kernel)) rfl
theorem ml_X6_174 : Cond.methodLink RX6 174 yX6_expectVolume ∈ lw_gd := zm (List.mem_of_getElem? (i := 834) (by decide +kernel)) rfl
theorem ml_X6_178 : Cond.methodLink RX6 178 yX5_addVolume ∈ lw_gd := zm (List.mem_of_getElem? (i := 838) (by decide +kernel)) rfl
theorem ml_X6_181 : Cond.methodLink RX6 181 yX5_addChange ∈ lw_gd := zm (List.mem_of_getElem? (i := 842) (by decide +kernel)) rfl
theorem se_X2_clear : Cond.selects RX2 yX2_clear yX2_clear ∈ lw_gd := zm (List.mem_of_getElem? (i := 1069) (by decide +kernel)) rfl
theorem se_X4_isSound : Cond.selects RX4 yX4_isSound yX4_isSound ∈ lw_gd := zm (List.mem_of_getElem? (i := 65) (by decide +kernel)) rfl
theorem se_X4_load : Cond.selects RX4 yX4_load yX4_load ∈ lw_gd := zm (List.mem_of_getElem? (i := 1485) (by decide +kernel)) rfl
theorem se_X4_loadBlock : Cond.selects RX4 yX4_loadBlock yX4_loadBlock ∈ lw_gd := zm (List.mem_of_getElem? (i := 64) (by decide +kernel)) rfl
theorem se_X4_loadHead : Cond.selects RX4 yX4_loadHead yX4_loadHead ∈ lw_gd := zm (List.mem_of_getElem? (i := 61) (by decide +kernel)) rfl
theorem se_X5_addChange : Cond.selects RX5 yX5_addChange yX5_addChange ∈ lw_gd := zm (List.mem_of_getElem? (i := 844) (by decide +kernel)) rfl
theorem se_X5_addVolume : Cond.selects RX5 yX5_addVolume yX5_addVolume ∈ lw_gd := zm (List.mem_of_getElem? (i := 840) (by decide +kernel)) rfl
theorem se_X5_volumeNamed : Cond.selects RX5 yX5_volumeNamed yX5_volumeNamed ∈ lw_gd := zm (List.mem_of_getElem? (i := 828) (by decide +kernel)) rfl
theorem se_X6_expectVolume : Cond.selects RX6 yX6_expectVolume yX6_expectVolume ∈ lw_gd := zm (List.mem_of_getElem? (i := 12) (by decide +kernel)) rfl
theorem se_X6_expectWord : Cond.selects RX6 yX6_expectWord yX6_expectWord ∈ lw_gd := zm (List.mem_of_getElem? (i := 8) (by decide +kernel)) rfl
theorem se_X6_isName : Cond.selects RX6 yX6_isName yX6_isName ∈ lw_gd := zm (List.mem_of_getElem? (i := 11) (by decide +kernel)) rfl
theorem se_X8_clear : Cond.selects RX8 yX8_clear yX8_clear ∈ lw_gd := zm (List.mem_of_getElem? (i := 551) (by decide +kernel)) rfl
theorem st_X5_letterAt : Cond.static yX5_letterAt ∈ lw_gd := zm (List.mem_of_getElem? (i := 831) (by decide +kernel)) rfl
theorem dX11_on_0 : decode cX11_on 0 = .ok (.aload_n 0, 1) := by decide +kernel
theorem dX11_on_1 : decode cX11_on 1 = .ok (.getfield 112, 3) := by decide +kernel
theorem dX11_on_4 : decode cX11_on 4 = .ok (.ifCond .eq 42, 3) := by decide +kernel
theorem dX11_on_7 : decode cX11_on 7 = .ok (.aload_n 0, 1) := by decide +kernel
theorem dX11_on_8 : decode cX11_on 8 = .ok (.getfield 42, 3) := by decide +kernel
theorem dX11_on_11 : decode cX11_on 11 = .ok (.aload_n 0, 1) := by decide +kernel
theorem dX11_on_12 : decode cX11_on 12 = .ok (.getfield 12, 3) := by decide +kernel
theorem dX11_on_15 : decode cX11_on 15 = .ok (.aload_n 0, 1) := by decide +kernel
theorem dX11_on_16 : decode cX11_on 16 = .ok (.getfield 79, 3) := by decide +kernel
theorem dX11_on_19 : decode cX11_on 19 = .ok (.getfield 345, 3) := by decide +kernel
theorem dX11_on_22 : decode cX11_on 22 = .ok (.aload_n 0, 1) := by decide +kernel
theorem dX11_on_23 : decode cX11_on 23 = .ok (.getfield 67, 3) := by decide +kernel
theorem dX11_on_26 : decode cX11_on 26 = .ok (.getfield 348, 3) := by decide +kernel
theorem dX11_on_29 : decode cX11_on 29 = .ok (.aload_n 0, 1) := by decide +kernel
theorem dX11_on_30 : decode cX11_on 30 = .ok (.getfield 67, 3) := by decide +kernel
theorem dX11_on_33 : decode cX11_on 33 = .ok (.getfield 153, 3) := by decide +kernel
theorem dX11_on_36 : decode cX11_on 36 = .ok (.invokevirtual 349, 3) := by decide +kernel
theorem dX11_on_39 : decode cX11_on 39 = .ok (.ifCond .eq 7, 3) := by decide +kernel
theorem dX11_on_42 : decode cX11_on 42 = .ok (.iconst 1, 1) := by decide +kernel
theorem dX11_on_43 : decode cX11_on 43 = .ok (.goto 4, 3) := by decide +kernel
theorem dX11_on_46 : decode cX11_on 46 = .ok (.iconst 0, 1) := by decide +kernel
theorem dX11_on_47 : decode cX11_on 47 = .ok (.istore_n 1, 1) := by decide +kernel
theorem dX11_on_48 : decode cX11_on 48 = .ok (.aload_n 0, 1) := by decide +kernel
theorem dX11_on_49 : decode cX11_on 49 = .ok (.getfield 12, 3) := by decide +kernel
theorem dX11_on_52 : decode cX11_on 52 = .ok (.iconst 0, 1) := by decide +kernel
theorem dX11_on_53 : decode cX11_on 53 = .ok (.putfield 95, 3) := by decide +kernel
theorem dX11_on_56 : decode cX11_on 56 = .ok (.iload_n 1, 1) := by decide +kernel
theorem dX11_on_57 : decode cX11_on 57 = .ok (.ifCond .ne 11, 3) := by decide +kernel
theorem dX11_on_60 : decode cX11_on 60 = .ok (.aload_n 0, 1) := by decide +kernel
theorem dX11_on_61 : decode cX11_on 61 = .ok (.iconst 5, 1) := by decide +kernel
theorem dX11_on_62 : decode cX11_on 62 = .ok (.invokevirtual 87, 3) := by decide +kernel
theorem dX11_on_65 : decode cX11_on 65 = .ok (.pop, 1) := by decide +kernel
theorem dX11_on_66 : decode cX11_on 66 = .ok (.iconst 0, 1) := by decide +kernel
theorem dX11_on_67 : decode cX11_on 67 = .ok (.ireturn, 1) := by decide +kernel
theorem dX11_on_68 : decode cX11_on 68 = .ok (.aload_n 0, 1) := by decide +kernel
theorem dX11_on_69 : decode cX11_on 69 = .ok (.getfield 79, 3) := by decide +kernel
theorem dX11_on_72 : decode cX11_on 72 = .ok (.getfield 125, 3) := by decide +kernel
theorem dX11_on_75 : decode cX11_on 75 = .ok (.aload_n 0, 1) := by decide +kernel
theorem dX11_on_76 : decode cX11_on 76 = .ok (.getfield 79, 3) := by decide +kernel
theorem dX11_on_79 : decode cX11_on 79 = .ok (.getfield 345, 3) := by decide +kernel
theorem dX11_on_82 : decode cX11_on 82 = .ok (.invokevirtual 312, 3) := by decide +kernel
theorem dX11_on_85 : decode cX11_on 85 = .ok (.aload_n 0, 1) := by decide +kernel
theorem dX11_on_86 : decode cX11_on 86 = .ok (.getfield 28, 3) := by decide +kernel
theorem dX11_on_89 : decode cX11_on 89 = .ok (.invokevirtual 106, 3) := by decide +kernel
theorem dX11_on_92 : decode cX11_on 92 = .ok (.iconst 1, 1) := by decide +kernel
theorem dX11_on_93 : decode cX11_on 93 = .ok (.ireturn, 1) := by decide +kernel
theorem dX11_status_0 : decode cX11_status 0 = .ok (.iload_n 1, 1) := by decide +kernel
theorem dX11_status_1 : decode cX11_status 1 = .ok (.ifCond .lt 18, 3) := by decide +kernel
theorem dX11_status_4 : decode cX11_status 4 = .ok (.iload_n 1, 1) := by decide +kernel
theorem dX11_status_5 : decode cX11_status 5 = .ok (.bipush 6, 2) := by decide +kernel
theorem dX11_status_7 : decode cX11_status 7 = .ok (.if_icmp .ge 12, 3) := by decide +kernel
theorem dX11_status_10 : decode cX11_status 10 = .ok (.aload_n 0, 1) := by decide +kernel
theorem dX11_status_11 : decode cX11_status 11 = .ok (.getfield 60, 3) := by decide +kernel
theorem dX11_status_14 : decode cX11_status 14 = .ok (.iload_n 1, 1) := by decide +kernel
theorem dX11_status_15 : decode cX11_status 15 = .ok (.iaload, 1) := by decide +kernel
theorem dX11_status_16 : decode cX11_status 16 = .ok (.goto 4, 3) := by decide +kernel
theorem dX11_status_19 : decode cX11_status 19 = .ok (.iconst (-1), 1) := by decide +kernel
theorem dX11_status_20 : decode cX11_status 20 = .ok (.ireturn, 1) := by decide +kernel
theorem dX4_load_0 : decode cX4_load 0 = .ok (.aload_n 1, 1) := by decide +kernel
theorem dX4_load_1 : decode cX4_load 1 = .ok (.getfield 87, 3) := by decide +kernel
theorem dX4_load_4 : decode cX4_load 4 = .ok (.iconst 1, 1) := by decide +kernel
theorem dX4_load_5 : decode cX4_load 5 = .ok (.isub, 1) := by decide +kernel
theorem dX4_load_6 : decode cX4_load 6 = .ok (.istore 5, 2) := by decide +kernel
theorem dX4_load_8 : decode cX4_load 8 = .ok (.iload 5, 2) := by decide +kernel
theorem dX4_load_10 : decode cX4_load 10 = .ok (.bipush 19, 2) := by decide +kernel
theorem dX4_load_12 : decode cX4_load 12 = .ok (.if_icmp .lt 21, 3) := by decide +kernel
theorem dX4_load_15 : decode cX4_load 15 = .ok (.aload_n 1, 1) := by decide +kernel
theorem dX4_load_16 : decode cX4_load 16 = .ok (.iload 5, 2) := by decide +kernel
theorem dX4_load_18 : decode cX4_load 18 = .ok (.invokevirtual 92, 3) := by decide +kernel
theorem dX4_load_21 : decode cX4_load 21 = .ok (.aload_n 1, 1) := by decide +kernel
theorem dX4_load_22 : decode cX4_load 22 = .ok (.getfield 95, 3) := by decide +kernel
theorem dX4_load_25 : decode cX4_load 25 = .ok (.iload 5, 2) := by decide +kernel
theorem dX4_load_27 : decode cX4_load 27 = .ok (.invokestatic 68, 3) := by decide +kernel
theorem dX4_load_30 : decode cX4_load 30 = .ok (.if_icmp .eq 5, 3) := by decide +kernel
theorem dX4_load_33 : decode cX4_load 33 = .ok (.iconst 0, 1) := by decide +kernel
theorem dX4_load_34 : decode cX4_load 34 = .ok (.ireturn, 1) := by decide +kernel
theorem dX4_load_35 : decode cX4_load 35 = .ok (.aload_n 2, 1) := by decide +kernel
theorem dX4_load_36 : decode cX4_load 36 = .ok (.iload_n 3, 1) := by decide +kernel
theorem dX4_load_37 : decode cX4_load 37 = .ok (.invokevirtual 96, 3) := by decide +kernel
theorem dX4_load_40 : decode cX4_load 40 = .ok (.aload_n 0, 1) := by decide +kernel
theorem dX4_load_41 : decode cX4_load 41 = .ok (.iconst 0, 1) := by decide +kernel
theorem dX4_load_42 : decode cX4_load 42 = .ok (.putfield 99, 3) := by decide +kernel
theorem dX4_load_45 : decode cX4_load 45 = .ok (.aload_n 0, 1) := by decide +kernel
theorem dX4_load_46 : decode cX4_load 46 = .ok (.aload_n 1, 1) := by decide +kernel
theorem dX4_load_47 : decode cX4_load 47 = .ok (.aload_n 2, 1) := by decide +kernel
theorem dX4_load_48 : decode cX4_load 48 = .ok (.invokevirtual 101, 3) := by decide +kernel
theorem dX4_load_51 : decode cX4_load 51 = .ok (.ifCond .ne 5, 3) := by decide +kernel
theorem dX4_load_54 : decode cX4_load 54 = .ok (.iconst 0, 1) := by decide +kernel
theorem dX4_load_55 : decode cX4_load 55 = .ok (.ireturn, 1) := by decide +kernel
theorem dX4_load_56 : decode cX4_load 56 = .ok (.iconst 0, 1) := by decide +kernel
theorem dX4_load_57 : decode cX4_load 57 = .ok (.istore 6, 2) := by decide +kernel
theorem dX4_load_59 : decode cX4_load 59 = .ok (.iload 6, 2) := by decide +kernel
theorem dX4_load_61 : decode cX4_load 61 = .ok (.iload_n 3, 1) := by decide +kernel
theorem dX4_load_62 : decode cX4_load 62 = .ok (.if_icmp .ge 24, 3) := by decide +kernel
theorem dX4_load_65 : decode cX4_load 65 = .ok (.aload_n 0, 1) := by decide +kernel
theorem dX4_load_66 : decode cX4_load 66 = .ok (.aload_n 1, 1) := by decide +kernel
theorem dX4_load_67 : decode cX4_load 67 = .ok (.aload_n 2, 1) := by decide +kernel
theorem dX4_load_68 : decode cX4_load 68 = .ok (.iload 6, 2) := by decide +kernel
theorem dX4_load_70 : decode cX4_load 70 = .ok (.iload 4, 2) := by decide +kernel
theorem dX4_load_72 : decode cX4_load 72 = .ok (.invokevirtual 105, 3) := by decide +kernel
theorem dX4_load_75 : decode cX4_load 75 = .ok (.ifCond .ne 5, 3) := by decide +kernel
theorem dX4_load_78 : decode cX4_load 78 = .ok (.iconst 0, 1) := by decide +kernel
theorem dX4_load_79 : decode cX4_load 79 = .ok (.ireturn, 1) := by decide +kernel
theorem dX4_load_80 : decode cX4_load 80 = .ok (.iinc 6 1, 3) := by decide +kernel
theorem dX4_load_83 : decode cX4_load 83 = .ok (.goto (-24), 3) := by decide +kernel
theorem dX4_load_86 : decode cX4_load 86 = .ok (.aload_n 0, 1) := by decide +kernel
theorem dX4_load_87 : decode cX4_load 87 = .ok (.getfield 99, 3) := by decide +kernel
theorem dX4_load_90 : decode cX4_load 90 = .ok (.iload 5, 2) := by decide +kernel
theorem dX4_load_92 : decode cX4_load 92 = .ok (.if_icmp .ne 15, 3) := by decide +kernel
theorem dX4_load_95 : decode cX4_load 95 = .ok (.aload_n 0, 1) := by decide +kernel
theorem dX4_load_96 : decode cX4_load 96 = .ok (.aload_n 2, 1) := by decide +kernel
theorem dX4_load_97 : decode cX4_load 97 = .ok (.invokevirtual 109, 3) := by decide +kernel
theorem dX4_load_100 : decode cX4_load 100 = .ok (.ifCond .eq 7, 3) := by decide +kernel
theorem dX4_load_103 : decode cX4_load 103 = .ok (.iconst 1, 1) := by decide +kernel
theorem dX4_load_104 : decode cX4_load 104 = .ok (.goto 4, 3) := by decide +kernel
theorem dX4_load_107 : decode cX4_load 107 = .ok (.iconst 0, 1) := by decide +kernel
theorem dX4_load_108 : decode cX4_load 108 = .ok (.ireturn, 1) := by decide +kernel
theorem dX5_addChange_0 : decode cX5_addChange 0 = .ok (.aload_n 0, 1) := by decide +kernel
theorem dX5_addChange_1 : decode cX5_addChange 1 = .ok (.getfield 50, 3) := by decide +kernel
theorem dX5_addChange_4 : decode cX5_addChange 4 = .ok (.bipush 60, 2) := by decide +kernel
theorem dX5_addChange_6 : decode cX5_addChange 6 = .ok (.if_icmp .ge 54, 3) := by decide +kernel
theorem dX5_addChange_9 : decode cX5_addChange 9 = .ok (.aload_n 0, 1) := by decide +kernel
theorem dX5_addChange_10 : decode cX5_addChange 10 = .ok (.getfield 15, 3) := by decide +kernel
theorem dX5_addChange_13 : decode cX5_addChange 13 = .ok (.aload_n 0, 1) := by decide +kernel
theorem dX5_addChange_14 : decode cX5_addChange 14 = .ok (.getfield 50, 3) := by decide +kernel
theorem dX5_addChange_17 : decode cX5_addChange 17 = .ok (.iload_n 1, 1) := by decide +kernel
theorem dX5_addChange_18 : decode cX5_addChange 18 = .ok (.iastore, 1) := by decide +kernel
theorem dX5_addChange_19 : decode cX5_addChange 19 = .ok (.aload_n 0, 1) := by decide +kernel
theorem dX5_addChange_20 : decode cX5_addChange 20 = .ok (.getfield 18, 3) := by decide +kernel
theorem dX5_addChange_23 : decode cX5_addChange 23 = .ok (.aload_n 0, 1) := by decide +kernel
theorem dX5_addChange_24 : decode cX5_addChange 24 = .ok (.getfield 50, 3) := by decide +kernel
theorem dX5_addChange_27 : decode cX5_addChange 27 = .ok (.iload_n 2, 1) := by decide +kernel
theorem dX5_addChange_28 : decode cX5_addChange 28 = .ok (.iastore, 1) := by decide +kernel
theorem dX5_addChange_29 : decode cX5_addChange 29 = .ok (.aload_n 0, 1) := by decide +kernel
theorem dX5_addChange_30 : decode cX5_addChange 30 = .ok (.getfield 21, 3) := by decide +kernel
theorem dX5_addChange_33 : decode cX5_addChange 33 = .ok (.aload_n 0, 1) := by decide +kernel
theorem dX5_addChange_34 : decode cX5_addChange 34 = .ok (.getfield 50, 3) := by decide +kernel
theorem dX5_addChange_37 : decode cX5_addChange 37 = .ok (.iload_n 3, 1) := by decide +kernel
theorem dX5_addChange_38 : decode cX5_addChange 38 = .ok (.iastore, 1) := by decide +kernel
theorem dX5_addChange_39 : decode cX5_addChange 39 = .ok (.aload_n 0, 1) := by decide +kernel
theorem dX5_addChange_40 : decode cX5_addChange 40 = .ok (.getfield 24, 3) := by decide +kernel
theorem dX5_addChange_43 : decode cX5_addChange 43 = .ok (.aload_n 0, 1) := by decide +kernel
theorem dX5_addChange_44 : decode cX5_addChange 44 = .ok (.getfield 50, 3) := by decide +kernel
theorem dX5_addChange_47 : decode cX5_addChange 47 = .ok (.iload 4, 2) := by decide +kernel
theorem dX5_addChange_49 : decode cX5_addChange 49 = .ok (.iastore, 1) := by decide +kernel
theorem dX5_addChange_50 : decode cX5_addChange 50 = .ok (.aload_n 0, 1) := by decide +kernel
theorem dX5_addChange_51 : decode cX5_addChange 51 = .ok (.dup, 1) := by decide +kernel
theorem dX5_addChange_52 : decode cX5_addChange 52 = .ok (.getfield 50, 3) := by decide +kernel
theorem dX5_addChange_55 : decode cX5_addChange 55 = .ok (.iconst 1, 1) := by decide +kernel
theorem dX5_addChange_56 : decode cX5_addChange 56 = .ok (.iadd, 1) := by decide +kernel
theorem dX5_addChange_57 : decode cX5_addChange 57 = .ok (.putfield 50, 3) := by decide +kernel
theorem dX5_addChange_60 : decode cX5_addChange 60 = .ok (.return_, 1) := by decide +kernel
theorem dX5_addVolume_0 : decode cX5_addVolume 0 = .ok (.aload_n 0, 1) := by decide +kernel
theorem dX5_addVolume_1 : decode cX5_addVolume 1 = .ok (.getfield 47, 3) := by decide +kernel
theorem dX5_addVolume_4 : decode cX5_addVolume 4 = .ok (.bipush 8, 2) := by decide +kernel
theorem dX5_addVolume_6 : decode cX5_addVolume 6 = .ok (.if_icmp .lt 5, 3) := by decide +kernel
theorem dX5_addVolume_9 : decode cX5_addVolume 9 = .ok (.iconst (-1), 1) := by decide +kernel
theorem dX5_addVolume_10 : decode cX5_addVolume 10 = .ok (.ireturn, 1) := by decide +kernel
theorem dX5_addVolume_11 : decode cX5_addVolume 11 = .ok (.iconst 0, 1) := by decide +kernel
theorem dX5_addVolume_12 : decode cX5_addVolume 12 = .ok (.istore 4, 2) := by decide +kernel
theorem dX5_addVolume_14 : decode cX5_addVolume 14 = .ok (.iload 4, 2) := by decide +kernel
theorem dX5_addVolume_16 : decode cX5_addVolume 16 = .ok (.bipush 6, 2) := by decide +kernel
theorem dX5_addVolume_18 : decode cX5_addVolume 18 = .ok (.if_icmp .ge 33, 3) := by decide +kernel
theorem dX5_addVolume_21 : decode cX5_addVolume 21 = .ok (.aload_n 0, 1) := by decide +kernel
theorem dX5_addVolume_22 : decode cX5_addVolume 22 = .ok (.getfield 9, 3) := by decide +kernel
theorem dX5_addVolume_25 : decode cX5_addVolume 25 = .ok (.aload_n 0, 1) := by decide +kernel
theorem dX5_addVolume_26 : decode cX5_addVolume 26 = .ok (.getfield 47, 3) := by decide +kernel
theorem dX5_addVolume_29 : decode cX5_addVolume 29 = .ok (.bipush 6, 2) := by decide +kernel
theorem dX5_addVolume_31 : decode cX5_addVolume 31 = .ok (.imul, 1) := by decide +kernel
theorem dX5_addVolume_32 : decode cX5_addVolume 32 = .ok (.iload 4, 2) := by decide +kernel
theorem dX5_addVolume_34 : decode cX5_addVolume 34 = .ok (.iadd, 1) := by decide +kernel
theorem dX5_addVolume_35 : decode cX5_addVolume 35 = .ok (.aload_n 1, 1) := by decide +kernel
theorem dX5_addVolume_36 : decode cX5_addVolume 36 = .ok (.iload_n 2, 1) := by decide +kernel
theorem dX5_addVolume_37 : decode cX5_addVolume 37 = .ok (.iload 4, 2) := by decide +kernel
theorem dX5_addVolume_39 : decode cX5_addVolume 39 = .ok (.iadd, 1) := by decide +kernel
theorem dX5_addVolume_40 : decode cX5_addVolume 40 = .ok (.iload_n 3, 1) := by decide +kernel
theorem dX5_addVolume_41 : decode cX5_addVolume 41 = .ok (.invokestatic 59, 3) := by decide +kernel
theorem dX5_addVolume_44 : decode cX5_addVolume 44 = .ok (.iastore, 1) := by decide +kernel
theorem dX5_addVolume_45 : decode cX5_addVolume 45 = .ok (.iinc 4 1, 3) := by decide +kernel
theorem dX5_addVolume_48 : decode cX5_addVolume 48 = .ok (.goto (-34), 3) := by decide +kernel
theorem dX5_addVolume_51 : decode cX5_addVolume 51 = .ok (.aload_n 0, 1) := by decide +kernel
theorem dX5_addVolume_52 : decode cX5_addVolume 52 = .ok (.dup, 1) := by decide +kernel
theorem dX5_addVolume_53 : decode cX5_addVolume 53 = .ok (.getfield 47, 3) := by decide +kernel
theorem dX5_addVolume_56 : decode cX5_addVolume 56 = .ok (.iconst 1, 1) := by decide +kernel
theorem dX5_addVolume_57 : decode cX5_addVolume 57 = .ok (.iadd, 1) := by decide +kernel
theorem dX5_addVolume_58 : decode cX5_addVolume 58 = .ok (.putfield 47, 3) := by decide +kernel
theorem dX5_addVolume_61 : decode cX5_addVolume 61 = .ok (.aload_n 0, 1) := by decide +kernel
theorem dX5_addVolume_62 : decode cX5_addVolume 62 = .ok (.getfield 47, 3) := by decide +kernel
theorem dX5_addVolume_65 : decode cX5_addVolume 65 = .ok (.iconst 1, 1) := by decide +kernel
theorem dX5_addVolume_66 : decode cX5_addVolume 66 = .ok (.isub, 1) := by decide +kernel
theorem dX5_addVolume_67 : decode cX5_addVolume 67 = .ok (.ireturn, 1) := by decide +kernel
theorem dX5_letterAt_0 : decode cX5_letterAt 0 = .ok (.iload_n 1, 1) := by decide +kernel
theorem dX5_letterAt_1 : decode cX5_letterAt 1 = .ok (.iload_n 2, 1) := by decide +kernel
theorem dX5_letterAt_2 : decode cX5_letterAt 2 = .ok (.if_icmp .ge 16, 3) := by decide +kernel
theorem dX5_letterAt_5 : decode cX5_letterAt 5 = .ok (.aload_n 0, 1) := by decide +kernel
theorem dX5_letterAt_6 : decode cX5_letterAt 6 = .ok (.iload_n 1, 1) := by decide +kernel
theorem dX5_letterAt_7 : decode cX5_letterAt 7 = .ok (.invokevirtual 63, 3) := by decide +kernel
theorem dX5_letterAt_10 : decode cX5_letterAt 10 = .ok (.bipush 97, 2) := by decide +kernel
theorem dX5_letterAt_12 : decode cX5_letterAt 12 = .ok (.isub, 1) := by decide +kernel
theorem dX5_letterAt_13 : decode cX5_letterAt 13 = .ok (.iconst 1, 1) := by decide +kernel
theorem dX5_letterAt_14 : decode cX5_letterAt 14 = .ok (.iadd, 1) := by decide +kernel
theorem dX5_letterAt_15 : decode cX5_letterAt 15 = .ok (.goto 4, 3) := by decide +kernel
theorem dX5_letterAt_18 : decode cX5_letterAt 18 = .ok (.iconst 0, 1) := by decide +kernel
theorem dX5_letterAt_19 : decode cX5_letterAt 19 = .ok (.ireturn, 1) := by decide +kernel
theorem dX5_volumeNamed_0 : decode cX5_volumeNamed 0 = .ok (.iconst 0, 1) := by decide +kernel
theorem dX5_volumeNamed_1 : decode cX5_volumeNamed 1 = .ok (.istore 4, 2) := by decide +kernel
theorem dX5_volumeNamed_3 : decode cX5_volumeNamed 3 = .ok (.iload 4, 2) := by decide +kernel
theorem dX5_volumeNamed_5 : decode cX5_volumeNamed 5 = .ok (.aload_n 0, 1) := by decide +kernel
theorem dX5_volumeNamed_6 : decode cX5_volumeNamed 6 = .ok (.getfield 47, 3) := by decide +kernel
theorem dX5_volumeNamed_9 : decode cX5_volumeNamed 9 = .ok (.if_icmp .ge 73, 3) := by decide +kernel
theorem dX5_volumeNamed_12 : decode cX5_volumeNamed 12 = .ok (.iconst 1, 1) := by decide +kernel
theorem dX5_volumeNamed_13 : decode cX5_volumeNamed 13 = .ok (.istore 5, 2) := by decide +kernel
theorem dX5_volumeNamed_15 : decode cX5_volumeNamed 15 = .ok (.iconst 0, 1) := by decide +kernel
theorem dX5_volumeNamed_16 : decode cX5_volumeNamed 16 = .ok (.istore 6, 2) := by decide +kernel
theorem dX5_volumeNamed_18 : decode cX5_volumeNamed 18 = .ok (.iload 6, 2) := by decide +kernel
theorem dX5_volumeNamed_20 : decode cX5_volumeNamed 20 = .ok (.bipush 6, 2) := by decide +kernel
theorem dX5_volumeNamed_22 : decode cX5_volumeNamed 22 = .ok (.if_icmp .ge 46, 3) := by decide +kernel
theorem dX5_volumeNamed_25 : decode cX5_volumeNamed 25 = .ok (.iload 5, 2) := by decide +kernel
theorem dX5_volumeNamed_27 : decode cX5_volumeNamed 27 = .ok (.ifCond .eq 32, 3) := by decide +kernel
theorem dX5_volumeNamed_30 : decode cX5_volumeNamed 30 = .ok (.aload_n 0, 1) := by decide +kernel
theorem dX5_volumeNamed_31 : decode cX5_volumeNamed 31 = .ok (.getfield 9, 3) := by decide +kernel
theorem dX5_volumeNamed_34 : decode cX5_volumeNamed 34 = .ok (.iload 4, 2) := by decide +kernel
theorem dX5_volumeNamed_36 : decode cX5_volumeNamed 36 = .ok (.bipush 6, 2) := by decide +kernel
theorem dX5_volumeNamed_38 : decode cX5_volumeNamed 38 = .ok (.imul, 1) := by decide +kernel
theorem dX5_volumeNamed_39 : decode cX5_volumeNamed 39 = .ok (.iload 6, 2) := by decide +kernel
theorem dX5_volumeNamed_41 : decode cX5_volumeNamed 41 = .ok (.iadd, 1) := by decide +kernel
theorem dX5_volumeNamed_42 : decode cX5_volumeNamed 42 = .ok (.iaload, 1) := by decide +kernel
theorem dX5_volumeNamed_43 : decode cX5_volumeNamed 43 = .ok (.aload_n 1, 1) := by decide +kernel
theorem dX5_volumeNamed_44 : decode cX5_volumeNamed 44 = .ok (.iload_n 2, 1) := by decide +kernel
theorem dX5_volumeNamed_45 : decode cX5_volumeNamed 45 = .ok (.iload 6, 2) := by decide +kernel
theorem dX5_volumeNamed_47 : decode cX5_volumeNamed 47 = .ok (.iadd, 1) := by decide +kernel
theorem dX5_volumeNamed_48 : decode cX5_volumeNamed 48 = .ok (.iload_n 3, 1) := by decide +kernel
theorem dX5_volumeNamed_49 : decode cX5_volumeNamed 49 = .ok (.invokestatic 59, 3) := by decide +kernel
theorem dX5_volumeNamed_52 : decode cX5_volumeNamed 52 = .ok (.if_icmp .ne 7, 3) := by decide +kernel
theorem dX5_volumeNamed_55 : decode cX5_volumeNamed 55 = .ok (.iconst 1, 1) := by decide +kernel
theorem dX5_volumeNamed_56 : decode cX5_volumeNamed 56 = .ok (.goto 4, 3) := by decide +kernel
theorem dX5_volumeNamed_59 : decode cX5_volumeNamed 59 = .ok (.iconst 0, 1) := by decide +kernel
theorem dX5_volumeNamed_60 : decode cX5_volumeNamed 60 = .ok (.istore 5, 2) := by decide +kernel
theorem dX5_volumeNamed_62 : decode cX5_volumeNamed 62 = .ok (.iinc 6 1, 3) := by decide +kernel
theorem dX5_volumeNamed_65 : decode cX5_volumeNamed 65 = .ok (.goto (-47), 3) := by decide +kernel
theorem dX5_volumeNamed_68 : decode cX5_volumeNamed 68 = .ok (.iload 5, 2) := by decide +kernel
theorem dX5_volumeNamed_70 : decode cX5_volumeNamed 70 = .ok (.ifCond .eq 6, 3) := by decide +kernel
theorem dX5_volumeNamed_73 : decode cX5_volumeNamed 73 = .ok (.iload 4, 2) := by decide +kernel
theorem dX5_volumeNamed_75 : decode cX5_volumeNamed 75 = .ok (.ireturn, 1) := by decide +kernel
theorem dX5_volumeNamed_76 : decode cX5_volumeNamed 76 = .ok (.iinc 4 1, 3) := by decide +kernel
theorem dX5_volumeNamed_79 : decode cX5_volumeNamed 79 = .ok (.goto (-76), 3) := by decide +kernel
theorem dX5_volumeNamed_82 : decode cX5_volumeNamed 82 = .ok (.iconst (-1), 1) := by decide +kernel
theorem dX5_volumeNamed_83 : decode cX5_volumeNamed 83 = .ok (.ireturn, 1) := by decide +kernel
theorem dX6_expectVolume_0 : decode cX6_expectVolume 0 = .ok (.aload_n 0, 1) := by decide +kernel
theorem dX6_expectVolume_1 : decode cX6_expectVolume 1 = .ok (.invokevirtual 127, 3) := by decide +kernel
theorem dX6_expectVolume_4 : decode cX6_expectVolume 4 = .ok (.ifCond .ne 5, 3) := by decide +kernel
theorem dX6_expectVolume_7 : decode cX6_expectVolume 7 = .ok (.iconst (-1), 1) := by decide +kernel
theorem dX6_expectVolume_8 : decode cX6_expectVolume 8 = .ok (.ireturn, 1) := by decide +kernel
theorem dX6_expectVolume_9 : decode cX6_expectVolume 9 = .ok (.aload_n 1, 1) := by decide +kernel
theorem dX6_expectVolume_10 : decode cX6_expectVolume 10 = .ok (.aload_n 0, 1) := by decide +kernel
theorem dX6_expectVolume_11 : decode cX6_expectVolume 11 = .ok (.getfield 27, 3) := by decide +kernel
theorem dX6_expectVolume_14 : decode cX6_expectVolume 14 = .ok (.aload_n 0, 1) := by decide +kernel
theorem dX6_expectVolume_15 : decode cX6_expectVolume 15 = .ok (.getfield 51, 3) := by decide +kernel
theorem dX6_expectVolume_18 : decode cX6_expectVolume 18 = .ok (.aload_n 0, 1) := by decide +kernel
theorem dX6_expectVolume_19 : decode cX6_expectVolume 19 = .ok (.getfield 88, 3) := by decide +kernel
theorem dX6_expectVolume_22 : decode cX6_expectVolume 22 = .ok (.invokevirtual 131, 3) := by decide +kernel
theorem dX6_expectVolume_25 : decode cX6_expectVolume 25 = .ok (.istore_n 2, 1) := by decide +kernel
theorem dX6_expectVolume_26 : decode cX6_expectVolume 26 = .ok (.iload_n 2, 1) := by decide +kernel
theorem dX6_expectVolume_27 : decode cX6_expectVolume 27 = .ok (.iconst (-1), 1) := by decide +kernel
theorem dX6_expectVolume_28 : decode cX6_expectVolume 28 = .ok (.if_icmp .ne 13, 3) := by decide +kernel
theorem dX6_expectVolume_31 : decode cX6_expectVolume 31 = .ok (.aload_n 0, 1) := by decide +kernel
theorem dX6_expectVolume_32 : decode cX6_expectVolume 32 = .ok (.iconst 3, 1) := by decide +kernel
theorem dX6_expectVolume_33 : decode cX6_expectVolume 33 = .ok (.aload_n 0, 1) := by decide +kernel
theorem dX6_expectVolume_34 : decode cX6_expectVolume 34 = .ok (.getfield 51, 3) := by decide +kernel
theorem dX6_expectVolume_37 : decode cX6_expectVolume 37 = .ok (.invokevirtual 54, 3) := by decide +kernel
theorem dX6_expectVolume_40 : decode cX6_expectVolume 40 = .ok (.pop, 1) := by decide +kernel
theorem dX6_expectVolume_41 : decode cX6_expectVolume 41 = .ok (.aload_n 0, 1) := by decide +kernel
theorem dX6_expectVolume_42 : decode cX6_expectVolume 42 = .ok (.invokevirtual 75, 3) := by decide +kernel
theorem dX6_expectVolume_45 : decode cX6_expectVolume 45 = .ok (.iload_n 2, 1) := by decide +kernel
theorem dX6_expectVolume_46 : decode cX6_expectVolume 46 = .ok (.ireturn, 1) := by decide +kernel
theorem dX6_expectWord_0 : decode cX6_expectWord 0 = .ok (.aload_n 0, 1) := by decide +kernel
theorem dX6_expectWord_1 : decode cX6_expectWord 1 = .ok (.iload_n 1, 1) := by decide +kernel
theorem dX6_expectWord_2 : decode cX6_expectWord 2 = .ok (.invokevirtual 121, 3) := by decide +kernel
theorem dX6_expectWord_5 : decode cX6_expectWord 5 = .ok (.ifCond .eq 10, 3) := by decide +kernel
theorem dX6_expectWord_8 : decode cX6_expectWord 8 = .ok (.aload_n 0, 1) := by decide +kernel
theorem dX6_expectWord_9 : decode cX6_expectWord 9 = .ok (.invokevirtual 75, 3) := by decide +kernel
theorem dX6_expectWord_12 : decode cX6_expectWord 12 = .ok (.goto 13, 3) := by decide +kernel
theorem dX6_expectWord_15 : decode cX6_expectWord 15 = .ok (.aload_n 0, 1) := by decide +kernel
theorem dX6_expectWord_16 : decode cX6_expectWord 16 = .ok (.iconst 1, 1) := by decide +kernel
theorem dX6_expectWord_17 : decode cX6_expectWord 17 = .ok (.aload_n 0, 1) := by decide +kernel
theorem dX6_expectWord_18 : decode cX6_expectWord 18 = .ok (.getfield 51, 3) := by decide +kernel
theorem dX6_expectWord_21 : decode cX6_expectWord 21 = .ok (.invokevirtual 54, 3) := by decide +kernel
theorem dX6_expectWord_24 : decode cX6_expectWord 24 = .ok (.pop, 1) := by decide +kernel
theorem dX6_expectWord_25 : decode cX6_expectWord 25 = .ok (.return_, 1) := by decide +kernel
theorem dX6_isName_0 : decode cX6_isName 0 = .ok (.aload_n 0, 1) := by decide +kernel
theorem dX6_isName_1 : decode cX6_isName 1 = .ok (.getfield 44, 3) := by decide +kernel
theorem dX6_isName_4 : decode cX6_isName 4 = .ok (.iconst 1, 1) := by decide +kernel
theorem dX6_isName_5 : decode cX6_isName 5 = .ok (.if_icmp .ne 20, 3) := by decide +kernel
theorem dX6_isName_8 : decode cX6_isName 8 = .ok (.aload_n 0, 1) := by decide +kernel
theorem dX6_isName_9 : decode cX6_isName 9 = .ok (.getfield 72, 3) := by decide +kernel
theorem dX6_isName_12 : decode cX6_isName 12 = .ok (.iconst (-1), 1) := by decide +kernel
theorem dX6_isName_13 : decode cX6_isName 13 = .ok (.if_icmp .eq 22, 3) := by decide +kernel
theorem dX6_isName_16 : decode cX6_isName 16 = .ok (.aload_n 0, 1) := by decide +kernel
theorem dX6_isName_17 : decode cX6_isName 17 = .ok (.getfield 72, 3) := by decide +kernel
theorem dX6_isName_20 : decode cX6_isName 20 = .ok (.bipush 27, 2) := by decide +kernel
theorem dX6_isName_22 : decode cX6_isName 22 = .ok (.if_icmp .ge 13, 3) := by decide +kernel
theorem dX6_isName_25 : decode cX6_isName 25 = .ok (.aload_n 0, 1) := by decide +kernel
theorem dX6_isName_26 : decode cX6_isName 26 = .ok (.iconst 1, 1) := by decide +kernel
theorem dX6_isName_27 : decode cX6_isName 27 = .ok (.aload_n 0, 1) := by decide +kernel
theorem dX6_isName_28 : decode cX6_isName 28 = .ok (.getfield 51, 3) := by decide +kernel
theorem dX6_isName_31 : decode cX6_isName 31 = .ok (.invokevirtual 54, 3) := by decide +kernel
theorem dX6_isName_34 : decode cX6_isName 34 = .ok (.ireturn, 1) := by decide +kernel
theorem dX6_isName_35 : decode cX6_isName 35 = .ok (.aload_n 0, 1) := by decide +kernel
theorem dX6_isName_36 : decode cX6_isName 36 = .ok (.getfield 88, 3) := by decide +kernel
theorem dX6_isName_39 : decode cX6_isName 39 = .ok (.aload_n 0, 1) := by decide +kernel
theorem dX6_isName_40 : decode cX6_isName 40 = .ok (.getfield 51, 3) := by decide +kernel
theorem dX6_isName_43 : decode cX6_isName 43 = .ok (.isub, 1) := by decide +kernel
theorem dX6_isName_44 : decode cX6_isName 44 = .ok (.bipush 6, 2) := by decide +kernel
theorem dX6_isName_46 : decode cX6_isName 46 = .ok (.if_icmp .le 18, 3) := by decide +kernel
theorem dX6_isName_49 : decode cX6_isName 49 = .ok (.aload_n 0, 1) := by decide +kernel
theorem dX6_isName_50 : decode cX6_isName 50 = .ok (.iconst 1, 1) := by decide +kernel
theorem dX6_isName_51 : decode cX6_isName 51 = .ok (.aload_n 0, 1) := by decide +kernel
theorem dX6_isName_52 : decode cX6_isName 52 = .ok (.getfield 51, 3) := by decide +kernel
theorem dX6_isName_55 : decode cX6_isName 55 = .ok (.bipush 6, 2) := by decide +kernel
theorem dX6_isName_57 : decode cX6_isName 57 = .ok (.iadd, 1) := by decide +kernel
theorem dX6_isName_58 : decode cX6_isName 58 = .ok (.invokevirtual 54, 3) := by decide +kernel
theorem dX6_isName_61 : decode cX6_isName 61 = .ok (.ifCond .eq 7, 3) := by decide +kernel
theorem dX6_isName_64 : decode cX6_isName 64 = .ok (.iconst 1, 1) := by decide +kernel
theorem dX6_isName_65 : decode cX6_isName 65 = .ok (.goto 4, 3) := by decide +kernel
theorem dX6_isName_68 : decode cX6_isName 68 = .ok (.iconst 0, 1) := by decide +kernel
theorem dX6_isName_69 : decode cX6_isName 69 = .ok (.ireturn, 1) := by decide +kernel
theorem dX6_readChange_0 : decode cX6_readChange 0 = .ok (.aload_n 0, 1) := by decide +kernel
theorem dX6_readChange_1 : decode cX6_readChange 1 = .ok (.invokevirtual 75, 3) := by decide +kernel
theorem dX6_readChange_4 : decode cX6_readChange 4 = .ok (.aload_n 0, 1) := by decide +kernel
theorem dX6_readChange_5 : decode cX6_readChange 5 = .ok (.aload_n 1, 1) := by decide +kernel
theorem dX6_readChange_6 : decode cX6_readChange 6 = .ok (.invokevirtual 174, 3) := by decide +kernel
theorem dX6_readChange_9 : decode cX6_readChange 9 = .ok (.istore_n 3, 1) := by decide +kernel
theorem dX6_readChange_10 : decode cX6_readChange 10 = .ok (.aload_n 0, 1) := by decide +kernel
theorem dX6_readChange_11 : decode cX6_readChange 11 = .ok (.iconst 0, 1) := by decide +kernel
theorem dX6_readChange_12 : decode cX6_readChange 12 = .ok (.sipush 999, 3) := by decide +kernel
theorem dX6_readChange_15 : decode cX6_readChange 15 = .ok (.invokevirtual 151, 3) := by decide +kernel
theorem dX6_readChange_18 : decode cX6_readChange 18 = .ok (.istore 4, 2) := by decide +kernel
theorem dX6_readChange_20 : decode cX6_readChange 20 = .ok (.iload_n 2, 1) := by decide +kernel
theorem dX6_readChange_21 : decode cX6_readChange 21 = .ok (.iconst 5, 1) := by decide +kernel
theorem dX6_readChange_22 : decode cX6_readChange 22 = .ok (.if_icmp .ne 14, 3) := by decide +kernel
theorem dX6_readChange_25 : decode cX6_readChange 25 = .ok (.aload_n 0, 1) := by decide +kernel
theorem dX6_readChange_26 : decode cX6_readChange 26 = .ok (.iconst 0, 1) := by decide +kernel
theorem dX6_readChange_27 : decode cX6_readChange 27 = .ok (.sipush 999, 3) := by decide +kernel
theorem dX6_readChange_30 : decode cX6_readChange 30 = .ok (.invokevirtual 151, 3) := by decide +kernel
theorem dX6_readChange_33 : decode cX6_readChange 33 = .ok (.goto 4, 3) := by decide +kernel
theorem dX6_readChange_36 : decode cX6_readChange 36 = .ok (.iconst 0, 1) := by decide +kernel
theorem dX6_readChange_37 : decode cX6_readChange 37 = .ok (.istore 5, 2) := by decide +kernel
theorem dX6_readChange_39 : decode cX6_readChange 39 = .ok (.aload_n 1, 1) := by decide +kernel
theorem dX6_readChange_40 : decode cX6_readChange 40 = .ok (.iload_n 2, 1) := by decide +kernel
theorem dX6_readChange_41 : decode cX6_readChange 41 = .ok (.iload_n 3, 1) := by decide +kernel
theorem dX6_readChange_42 : decode cX6_readChange 42 = .ok (.iload 4, 2) := by decide +kernel
theorem dX6_readChange_44 : decode cX6_readChange 44 = .ok (.iload 5, 2) := by decide +kernel
theorem dX6_readChange_46 : decode cX6_readChange 46 = .ok (.invokevirtual 181, 3) := by decide +kernel
theorem dX6_readChange_49 : decode cX6_readChange 49 = .ok (.return_, 1) := by decide +kernel
theorem dX6_readVolume_0 : decode cX6_readVolume 0 = .ok (.aload_n 1, 1) := by decide +kernel
theorem dX6_readVolume_1 : decode cX6_readVolume 1 = .ok (.getfield 171, 3) := by decide +kernel
theorem dX6_readVolume_4 : decode cX6_readVolume 4 = .ok (.bipush 8, 2) := by decide +kernel
theorem dX6_readVolume_6 : decode cX6_readVolume 6 = .ok (.if_icmp .ne 13, 3) := by decide +kernel
theorem dX6_readVolume_9 : decode cX6_readVolume 9 = .ok (.aload_n 0, 1) := by decide +kernel
theorem dX6_readVolume_10 : decode cX6_readVolume 10 = .ok (.iconst 5, 1) := by decide +kernel
theorem dX6_readVolume_11 : decode cX6_readVolume 11 = .ok (.aload_n 0, 1) := by decide +kernel
theorem dX6_readVolume_12 : decode cX6_readVolume 12 = .ok (.getfield 51, 3) := by decide +kernel
theorem dX6_readVolume_15 : decode cX6_readVolume 15 = .ok (.invokevirtual 54, 3) := by decide +kernel
theorem dX6_readVolume_18 : decode cX6_readVolume 18 = .ok (.pop, 1) := by decide +kernel
theorem dX6_readVolume_19 : decode cX6_readVolume 19 = .ok (.aload_n 0, 1) := by decide +kernel
theorem dX6_readVolume_20 : decode cX6_readVolume 20 = .ok (.invokevirtual 75, 3) := by decide +kernel
theorem dX6_readVolume_23 : decode cX6_readVolume 23 = .ok (.aload_n 0, 1) := by decide +kernel
theorem dX6_readVolume_24 : decode cX6_readVolume 24 = .ok (.invokevirtual 127, 3) := by decide +kernel
theorem dX6_readVolume_27 : decode cX6_readVolume 27 = .ok (.ifCond .ne 4, 3) := by decide +kernel
theorem dX6_readVolume_30 : decode cX6_readVolume 30 = .ok (.return_, 1) := by decide +kernel
theorem dX6_readVolume_31 : decode cX6_readVolume 31 = .ok (.aload_n 1, 1) := by decide +kernel
theorem dX6_readVolume_32 : decode cX6_readVolume 32 = .ok (.aload_n 0, 1) := by decide +kernel
theorem dX6_readVolume_33 : decode cX6_readVolume 33 = .ok (.getfield 27, 3) := by decide +kernel
theorem dX6_readVolume_36 : decode cX6_readVolume 36 = .ok (.aload_n 0, 1) := by decide +kernel
theorem dX6_readVolume_37 : decode cX6_readVolume 37 = .ok (.getfield 51, 3) := by decide +kernel
theorem dX6_readVolume_40 : decode cX6_readVolume 40 = .ok (.aload_n 0, 1) := by decide +kernel
theorem dX6_readVolume_41 : decode cX6_readVolume 41 = .ok (.getfield 88, 3) := by decide +kernel
theorem dX6_readVolume_44 : decode cX6_readVolume 44 = .ok (.invokevirtual 131, 3) := by decide +kernel
theorem dX6_readVolume_47 : decode cX6_readVolume 47 = .ok (.iconst (-1), 1) := by decide +kernel
theorem dX6_readVolume_48 : decode cX6_readVolume 48 = .ok (.if_icmp .eq 13, 3) := by decide +kernel
theorem dX6_readVolume_51 : decode cX6_readVolume 51 = .ok (.aload_n 0, 1) := by decide +kernel
theorem dX6_readVolume_52 : decode cX6_readVolume 52 = .ok (.iconst 3, 1) := by decide +kernel
theorem dX6_readVolume_53 : decode cX6_readVolume 53 = .ok (.aload_n 0, 1) := by decide +kernel
theorem dX6_readVolume_54 : decode cX6_readVolume 54 = .ok (.getfield 51, 3) := by decide +kernel
theorem dX6_readVolume_57 : decode cX6_readVolume 57 = .ok (.invokevirtual 54, 3) := by decide +kernel
theorem dX6_readVolume_60 : decode cX6_readVolume 60 = .ok (.pop, 1) := by decide +kernel
theorem dX6_readVolume_61 : decode cX6_readVolume 61 = .ok (.aload_n 0, 1) := by decide +kernel
theorem dX6_readVolume_62 : decode cX6_readVolume 62 = .ok (.getfield 51, 3) := by decide +kernel
theorem dX6_readVolume_65 : decode cX6_readVolume 65 = .ok (.istore_n 3, 1) := by decide +kernel
theorem dX6_readVolume_66 : decode cX6_readVolume 66 = .ok (.aload_n 0, 1) := by decide +kernel
theorem dX6_readVolume_67 : decode cX6_readVolume 67 = .ok (.getfield 88, 3) := by decide +kernel
theorem dX6_readVolume_70 : decode cX6_readVolume 70 = .ok (.istore 4, 2) := by decide +kernel
theorem dX6_readVolume_72 : decode cX6_readVolume 72 = .ok (.iconst (-1), 1) := by decide +kernel
theorem dX6_readVolume_73 : decode cX6_readVolume 73 = .ok (.istore 5, 2) := by decide +kernel
theorem dX6_readVolume_75 : decode cX6_readVolume 75 = .ok (.aload_n 0, 1) := by decide +kernel
theorem dX6_readVolume_76 : decode cX6_readVolume 76 = .ok (.invokevirtual 75, 3) := by decide +kernel
theorem dX6_readVolume_79 : decode cX6_readVolume 79 = .ok (.iload_n 2, 1) := by decide +kernel
theorem dX6_readVolume_80 : decode cX6_readVolume 80 = .ok (.iconst 3, 1) := by decide +kernel
theorem dX6_readVolume_81 : decode cX6_readVolume 81 = .ok (.if_icmp .ne 15, 3) := by decide +kernel
theorem dX6_readVolume_84 : decode cX6_readVolume 84 = .ok (.aload_n 0, 1) := by decide +kernel
theorem dX6_readVolume_85 : decode cX6_readVolume 85 = .ok (.iconst 4, 1) := by decide +kernel
theorem dX6_readVolume_86 : decode cX6_readVolume 86 = .ok (.invokevirtual 165, 3) := by decide +kernel
theorem dX6_readVolume_89 : decode cX6_readVolume 89 = .ok (.aload_n 0, 1) := by decide +kernel
theorem dX6_readVolume_90 : decode cX6_readVolume 90 = .ok (.aload_n 1, 1) := by decide +kernel
theorem dX6_readVolume_91 : decode cX6_readVolume 91 = .ok (.invokevirtual 174, 3) := by decide +kernel
theorem dX6_readVolume_94 : decode cX6_readVolume 94 = .ok (.istore 5, 2) := by decide +kernel
theorem dX6_readVolume_96 : decode cX6_readVolume 96 = .ok (.aload_n 1, 1) := by decide +kernel
theorem dX6_readVolume_97 : decode cX6_readVolume 97 = .ok (.iload_n 2, 1) := by decide +kernel
theorem dX6_readVolume_98 : decode cX6_readVolume 98 = .ok (.aload_n 1, 1) := by decide +kernel
theorem dX6_readVolume_99 : decode cX6_readVolume 99 = .ok (.aload_n 0, 1) := by decide +kernel
theorem dX6_readVolume_100 : decode cX6_readVolume 100 = .ok (.getfield 27, 3) := by decide +kernel
theorem dX6_readVolume_103 : decode cX6_readVolume 103 = .ok (.iload_n 3, 1) := by decide +kernel
theorem dX6_readVolume_104 : decode cX6_readVolume 104 = .ok (.iload 4, 2) := by decide +kernel
theorem dX6_readVolume_106 : decode cX6_readVolume 106 = .ok (.invokevirtual 178, 3) := by decide +kernel
theorem dX6_readVolume_109 : decode cX6_readVolume 109 = .ok (.iload 5, 2) := by decide +kernel
theorem dX6_readVolume_111 : decode cX6_readVolume 111 = .ok (.iconst 0, 1) := by decide +kernel
theorem dX6_readVolume_112 : decode cX6_readVolume 112 = .ok (.invokevirtual 181, 3) := by decide +kernel
theorem dX6_readVolume_115 : decode cX6_readVolume 115 = .ok (.return_, 1) := by decide +kernel
def m_x4_load_J108 (x1 : Int32) (s2 : MS) : Option (Int32 × MS) :=
  bo x1 (some (x1, s2))
def m_x4_load_J107 (s4 : MS) : Option (Int32 × MS) :=
  m_x4_load_J108 0 s4
def m_x4_load_b59 (lr59 : Int32 → Int32 → Int32 → Int32 → MS → Option (Int32 × MS)) (x5 : Int32) (x6 : Int32) (x7 : Int32) (x8 : Int32) (s9 : MS) : Option (Int32 × MS) :=
  if x5 ≤ x8 then if (gI s9 322) = x7 then bn (m_x4_isSound s9) (fun qr14 => if qr14.1 = 0 then m_x4_load_J107 qr14.2 else m_x4_load_J108 1 qr14.2) else m_x4_load_J107 s9 else bn (m_x4_loadBlock x8 x6 s9) (fun qr18 => if qr18.1 = 0 then some (0, qr18.2) else lr59 x5 x6 x7 (x8 + 1) qr18.2)
def m_x4_load_L59 (n : Nat) : Int32 → Int32 → Int32 → Int32 → MS → Option (Int32 × MS) := lp (fun _ _ _ _ _ => none) (m_x4_load_b59) n
def m_x4_load_J33 (s20 : MS) : Option (Int32 × MS) :=
  some (0, s20)
def m_x4_load (p2 : Int32) (p3 : Int32) (s : MS) : Option (Int32 × MS) :=
  if ((gI s 61) - 1) < 19 then m_x4_load_J33 s else bn (m_x9_at ((gI s 61) - 1) s) (fun r23 => bn (m_x4_seal_v2 ((gI s 61) - 1) s) (fun r25 => if r23 = r25 then bn (m_x8_clear p2 s) (fun s28 => stn (sI s28 322 0) (fun s29 => bn (m_x4_loadHead s29) (fun qr32 => if qr32.1 = 0 then some (0, qr32.2) else m_x4_load_L59 FU p2 p3 ((gI s 61) - 1) 0 qr32.2))) else m_x4_load_J33 s))
set_option maxHeartbeats 4000000 in
set_option maxRecDepth 100000 in
theorem k_x4_load (l : Launch) (D : va_G) (a : Nat → Nat) (p2 : Int32) (p3 : Int32) (sz : Nat) (s : MS) (o : (Int32 × MS)) (h : m_x4_load p2 p3 s = some o) : yWi l yX4_load cX4_load 7 (some .boolean) { frames := 5, cells := 0, slots := 0, locals := 300 } D sz [.ref (a 16), .ref (a 3), .ref (a 71), .int p2, .int p3] (CS D a s) (CS D a o.2) o.1 := by
  refine Met.ofW (cc := cX4_load) (maxL := 7) (ret := (some .boolean)) (by decide) rfl ?_
  intro p e s₀ m args below meth c s₁ B hml hv
  obtain ⟨rfl, ⟨hsz, hP, hK, hD0⟩, hN⟩ := hv
  have hx := B.exec
  have hb := B.bytes
  have hr := B.returns
  have hts := atoms_spec (ws := wz yX4_load cX4_load 7 (some .boolean)) B.pre
  have ht : ∀ w ∈ lw_gd, w.before _ s₀ = true := fun w h => hts w (List.mem_cons_of_mem _ h)
  have hown : s₀.vm.findClass RX4 = some m.cls := findClass_of_methodNamed B.named
  have hlocks := B.notSynchronized
  subst hsz
  have hD := hD0.self (sz := s₀.heap.size)
  generalize hAe : va_A (CS D a s) s₀.heap.size = A at hD ⊢
  have hA : ∀ q : Nat, s₀.heap.size ≤ q → A q := fun q h => by rw [← hAe]; exact Or.inr h
  have hS : va_S A s₀.heap s₀.heap [] := va_S.rf
  have hDD : ∀ t : MS, va_D A (CS D a t) := fun t => CW_D t hD
  have hl := lv_entry ([.ref (a 16), .ref (a 3), .ref (a 71), .int p2, .int p3]) (n := 7) (Nat.le_of_ble_eq_true rfl)
  rw [lg_entry_eq]
  generalize (lg_sl ([.ref (a 16), .ref (a 3), .ref (a 71), .int p2, .int p3]) ++ List.replicate (7 - (lg_sl ([.ref (a 16), .ref (a 3), .ref (a 71), .int p2, .int p3])).length) Slot.unset).toArray = ls at hl ⊢
  have hl : lv_has ls 7 [(0, .ref (a 16)), (1, .ref (a 3)), (2, .ref (a 71)), (3, .int p2), (4, .int p3)] := hl
  unfold m_x4_load at h
  refine y_head (pcJ := 108) (σ := Int32 × MS) (fun u H locs ls => va_P D vwCl (CS D a u.2) H ∧ va_S A s₀.heap H locs ∧ lv_has ls 7 [] ∧ m_x4_load_J108 u.1 u.2 = some o) (fun u => [.int u.1]) (fun u H locs ls hI => ?_) (fun J108 => ?_)
  · obtain ⟨hP, hS, hl, h⟩ := hI
    obtain ⟨x1, s2⟩ := u
    have hP : va_P D vwCl (CS D a s2) H := hP
    have hl : lv_has ls 7 [] := hl
    have h : m_x4_load_J108 x1 s2 = some o := h
    unfold m_x4_load_J108 at h
    obtain ⟨hb3, h⟩ := bo_e h
    obtain rfl := Option.some.inj h
    exact W.zret (v := x1) hx hb hr (bo_n hb3) (fun t ht hW => ⟨⟨_, (), rfl, rfl, by rw [ht]; exact hP, va_K.moved hW.alike hK, hDD _⟩, hS.F ht⟩) hS.2.2 dX4_load_108
  refine y_head (pcJ := 107) (σ := MS) (fun u H locs ls => va_P D vwCl (CS D a u) H ∧ va_S A s₀.heap H locs ∧ lv_has ls 7 [] ∧ m_x4_load_J107 u = some o) (fun u => []) (fun u H locs ls hI => ?_) (fun J107 => ?_)
  · obtain ⟨hP, hS, hl, h⟩ := hI
    obtain ⟨s4, rfl⟩ : ∃ z, z = u := ⟨u, rfl⟩
    have hP : va_P D vwCl (CS D a s4) H := hP
    have hl : lv_has ls 7 [] := hl
    have h : m_x4_load_J107 s4 = some o := h
    unfold m_x4_load_J107 at h
    refine lv_iconst (v := 0) hx hb dX4_load_107 (by decide) ?_
    exact J108 (0, s4) _ _ _ ⟨hP, hS, lv_sub hl [] rfl, h⟩
  refine y_loop (pcJ := 59) (σ := Int32 × Int32 × Int32 × Int32 × MS) (fun n u H locs ls => va_P D vwCl (CS D a u.2.2.2.2) H ∧ va_S A s₀.heap H locs ∧ lv_has ls 7 [(0, .ref (a 16)), (1, .ref (a 3)), (2, .ref (a 71)), (3, .int u.1), (4, .int u.2.1), (5, .int u.2.2.1), (6, .int u.2.2.2.1)] ∧ m_x4_load_L59 n u.1 u.2.1 u.2.2.1 u.2.2.2.1 u.2.2.2.2 = some o) (fun u => []) (fun u H locs ls hI => by obtain ⟨_, _, _, h⟩ := hI; cases h) (fun n59 ih59 u H locs ls hI => ?_) (fun J59 => ?_)
  · obtain ⟨hP, hS, hl, h⟩ := hI
    obtain ⟨x5, x6, x7, x8, s9⟩ := u
    have hP : va_P D vwCl (CS D a s9) H := hP
    have hl : lv_has ls 7 [(0, .ref (a 16)), (1, .ref (a 3)), (2, .ref (a 71)), (3, .int x5), (4, .int x6), (5, .int x7), (6, .int x8)] := hl
    have h : m_x4_load_b59 (m_x4_load_L59 n59) x5 x6 x7 x8 s9 = some o := h
    unfold m_x4_load_b59 at h
    refine lv_iload hx hb dX4_load_59 (lv_at hl 6 rfl) ?_
    refine lv_iload_n hx hb dX4_load_61 rfl (lv_at hl 3 rfl) ?_
    refine lv_icmp_ge (tgt := 86) hx hb dX4_load_62 (by decide) (fun c10 => ?_) (fun c10 => ?_)
    · have h := if_t c10 h
      refine lv_aload_n hx hb dX4_load_86 rfl (lv_at hl 0 rfl) ?_
      refine va_get (D := D) (ci := 4) (v := .int (gI s9 322)) (C := RX4) (T := TX4) (N := 6) hx hb ht inX4 hown hK hP 16 CW_16 rfl 2 (by decide) (ht (.fieldLink RX4 99 "CloneVolumes$Picture" "at" "I") fl_X4_99) (fun _ h9 => h9) rfl dX4_load_87 ?_
      refine lv_iload hx hb dX4_load_90 (lv_at hl 5 rfl) ?_
      refine lv_icmp_ne (tgt := 107) hx hb dX4_load_92 (by decide) (fun c11 => ?_) (fun c11 => ?_)
      · have h := if_f c11 h
        exact J107 s9 _ _ _ ⟨hP, hS, lv_sub hl [] rfl, h⟩
      · have h := if_t c11 h
        refine lv_aload_n hx hb dX4_load_95 rfl (lv_at hl 0 rfl) ?_
        refine lv_aload_n hx hb dX4_load_96 rfl (lv_at hl 2 rfl) ?_
        obtain ⟨⟨r14, s13⟩, hc12, h⟩ := bn_e h
        refine ywV (r0 := r14) (As := [.ref (a 71)]) (rest := []) (C := RX4) (n := 1) (ws' := CS D a s13) ⟨hx, hb, hml, hown, ht⟩ (k_x4_isSound l D a _ _ _ hc12) (zgV ml_X4_109 im_X4_isSound se_X4_isSound in_X4 co_X4_isSound) rfl rfl (by decide +kernel) ⟨Nat.le_of_ble_eq_true rfl, Nat.le_of_ble_eq_true rfl⟩ hN hK hP (hDD _) hS hA 16 CW_16 rfl rfl rfl hl.1 rfl (Nat.le_of_ble_eq_true rfl) dX4_load_97 ⟨Nat.le_of_ble_eq_true rfl, Nat.le_of_ble_eq_true rfl⟩ (fun H locs hP hS => ?_)
        refine lv_if_eq (tgt := 107) hx hb dX4_load_100 (by decide) (fun c15 => ?_) (fun c15 => ?_)
        · have h := if_t c15 h
          exact J107 s13 _ _ _ ⟨hP, hS, lv_sub hl [] rfl, h⟩
        · have h := if_f c15 h
          refine lv_iconst (v := 1) hx hb dX4_load_103 (by decide) ?_
          refine lv_goto (tgt := 108) hx hb dX4_load_104 (by decide) ?_
          exact J108 (1, s13) _ _ _ ⟨hP, hS, lv_sub hl [] rfl, h⟩
    · have h := if_f c10 h
      refine lv_aload_n hx hb dX4_load_65 rfl (lv_at hl 0 rfl) ?_
      refine lv_aload_n hx hb dX4_load_66 rfl (lv_at hl 1 rfl) ?_
      refine lv_aload_n hx hb dX4_load_67 rfl (lv_at hl 2 rfl) ?_
      refine lv_iload hx hb dX4_load_68 (lv_at hl 6 rfl) ?_
      refine lv_iload hx hb dX4_load_70 (lv_at hl 4 rfl) ?_
      obtain ⟨⟨r18, s17⟩, hc16, h⟩ := bn_e h
      refine ywV (r0 := r18) (As := [.ref (a 3), .ref (a 71), .int x8, .int x6]) (rest := []) (C := RX4) (n := 4) (ws' := CS D a s17) ⟨hx, hb, hml, hown, ht⟩ (k_x4_loadBlock l D a x8 x6 _ _ _ hc16) (zgV ml_X4_105 im_X4_loadBlock se_X4_loadBlock in_X4 co_X4_loadBlock) rfl rfl (by decide +kernel) ⟨Nat.le_of_ble_eq_true rfl, Nat.le_of_ble_eq_true rfl⟩ hN hK hP (hDD _) hS hA 16 CW_16 rfl rfl rfl hl.1 rfl (Nat.le_of_ble_eq_true rfl) dX4_load_72 ⟨Nat.le_of_ble_eq_true rfl, Nat.le_of_ble_eq_true rfl⟩ (fun H locs hP hS => ?_)
      refine lv_if_ne (tgt := 80) hx hb dX4_load_75 (by decide) (fun c19 => ?_) (fun c19 => ?_)
      · have h := if_f c19 h
        refine lv_iinc (v := x8 + 1) (lv' := [(6, .int (x8 + 1)), (0, .ref (a 16)), (1, .ref (a 3)), (2, .ref (a 71)), (3, .int x5), (4, .int x6), (5, .int x7)]) hx hb dX4_load_80 hl (k := 6) rfl rfl (by decide) rfl (fun ls hl => ?_)
        refine lv_goto (tgt := 59) hx hb dX4_load_83 (by decide) ?_
        exact ih59 (x5, x6, x7, x8 + 1, s17) _ _ _ ⟨hP, hS, lv_sub hl [1, 2, 3, 4, 5, 6, 0] rfl, h⟩
      · have h := if_t c19 h
        refine lv_iconst (v := 0) hx hb dX4_load_78 (by decide) ?_
        obtain rfl := Option.some.inj h
        exact W.zret (v := 0) hx hb hr (by decide) (fun t ht hW => ⟨⟨_, (), rfl, rfl, by rw [ht]; exact hP, va_K.moved hW.alike hK, hDD _⟩, hS.F ht⟩) hS.2.2 dX4_load_79
  refine y_head (pcJ := 33) (σ := MS) (fun u H locs ls => va_P D vwCl (CS D a u) H ∧ va_S A s₀.heap H locs ∧ lv_has ls 7 [] ∧ m_x4_load_J33 u = some o) (fun u => []) (fun u H locs ls hI => ?_) (fun J33 => ?_)
  · obtain ⟨hP, hS, hl, h⟩ := hI
    obtain ⟨s20, rfl⟩ : ∃ z, z = u := ⟨u, rfl⟩
    have hP : va_P D vwCl (CS D a s20) H := hP
    have hl : lv_has ls 7 [] := hl
    have h : m_x4_load_J33 s20 = some o := h
    unfold m_x4_load_J33 at h
    refine lv_iconst (v := 0) hx hb dX4_load_33 (by decide) ?_
    obtain rfl := Option.some.inj h
    exact W.zret (v := 0) hx hb hr (by decide) (fun t ht hW => ⟨⟨_, (), rfl, rfl, by rw [ht]; exact hP, va_K.moved hW.alike hK, hDD _⟩, hS.F ht⟩) hS.2.2 dX4_load_34
  refine lv_aload_n hx hb dX4_load_0 rfl (lv_at hl 1 rfl) ?_
  refine va_get (D := D) (ci := 9) (v := .int (gI s 61)) (C := RX9) (T := TX9) (N := 2) hx hb ht inX9 hown hK hP 3 CW_3 rfl 1 (by decide) (ht (.fieldLink RX4 87 "CloneVolumes$Tape" "length" "I") fl_X4_87) (fun _ h9 => h9) rfl dX4_load_1 ?_
  refine lv_iconst (v := 1) hx hb dX4_load_4 (by decide) ?_
  refine lv_isub hx hb dX4_load_5 ?_
  refine lv_istore (lv' := [(5, .int ((gI s 61) - 1)), (0, .ref (a 16)), (1, .ref (a 3)), (2, .ref (a 71)), (3, .int p2), (4, .int p3)]) hx hb dX4_load_6 hl (by decide) rfl (fun ls hl => ?_)
  refine lv_iload hx hb dX4_load_8 (lv_at hl 0 rfl) ?_
  refine lv_bipush (v := 19) hx hb dX4_load_10 (by decide) ?_
  refine lv_icmp_lt (tgt := 33) hx hb dX4_load_12 (by decide) (fun c21 => ?_) (fun c21 => ?_)
  · have h := if_t c21 h
    exact J33 s _ _ _ ⟨hP, hS, lv_sub hl [] rfl, h⟩
  · have h := if_f c21 h
    refine lv_aload_n hx hb dX4_load_15 rfl (lv_at hl 2 rfl) ?_
    refine lv_iload hx hb dX4_load_16 (lv_at hl 0 rfl) ?_
    obtain ⟨r23, hc22, h⟩ := bn_e h
    refine ycV (As := [.int ((gI s 61) - 1)]) (rest := []) (C := RX9) (n := 1) ⟨hx, hb, hml, hown, ht⟩ (k_x9_at l D a ((gI s 61) - 1) _ _ hc22) (zgV ml_X4_92 im_X9_at se_X9_at in_X9 co_X9_at) rfl rfl (by decide +kernel) ⟨Nat.le_of_ble_eq_true rfl, Nat.le_of_ble_eq_true rfl⟩ hN hK hP hS 3 CW_3 rfl rfl rfl hl.1 rfl (Nat.le_of_ble_eq_true rfl) dX4_load_18 ⟨Nat.le_of_ble_eq_true rfl, Nat.le_of_ble_eq_true rfl⟩ (fun H locs hP hS => ?_)
    refine lv_aload_n hx hb dX4_load_21 rfl (lv_at hl 2 rfl) ?_
    refine va_get (D := D) (ci := 9) (v := .ref (a 4)) (C := RX9) (T := TX9) (N := 2) hx hb ht inX9 hown hK hP 3 CW_3 rfl 0 (by decide) (ht (.fieldLink RX4 95 "CloneVolumes$Tape" "bytes" "[I") fl_X4_95) (fun _ h9 => h9) rfl dX4_load_22 ?_
    refine lv_iload hx hb dX4_load_25 (lv_at hl 0 rfl) ?_
    obtain ⟨r25, hc24, h⟩ := bn_e h
    refine ycS (As := [.ref (a 4), .int ((gI s 61) - 1)]) (rest := [.int r23]) (n := 2) ⟨hx, hb, hml, hown, ht⟩ (k_x4_seal_v2 l D a ((gI s 61) - 1) _ _ hc24) (zgT ml_X4_68 st_X4_seal in_X4 co_X4_seal) rfl rfl (by decide +kernel) ⟨Nat.le_of_ble_eq_true rfl, Nat.le_of_ble_eq_true rfl⟩ hN hK hP hS rfl hl.1 rfl (Nat.le_of_ble_eq_true rfl) dX4_load_27 ⟨Nat.le_of_ble_eq_true rfl, Nat.le_of_ble_eq_true rfl⟩ (fun H locs hP hS => ?_)
    refine lv_icmp_eq (tgt := 35) hx hb dX4_load_30 (by decide) (fun c26 => ?_) (fun c26 => ?_)
    · have h := if_t c26 h
      refine lv_aload_n hx hb dX4_load_35 rfl (lv_at hl 3 rfl) ?_
      refine lv_iload_n hx hb dX4_load_36 rfl (lv_at hl 4 rfl) ?_
      obtain ⟨s28, hc27, h⟩ := bn_e h
      refine ywVv (As := [.int p2]) (rest := []) (C := RX8) (n := 1) (ws' := CS D a s28) ⟨hx, hb, hml, hown, ht⟩ (k_x8_clear l D a p2 _ _ _ hc27) (zgV ml_X4_96 im_X8_clear se_X8_clear in_X8 co_X8_clear) rfl rfl (by decide +kernel) ⟨Nat.le_of_ble_eq_true rfl, Nat.le_of_ble_eq_true rfl⟩ hN hK hP (hDD _) hS hA 71 CW_71 rfl rfl rfl hl.1 rfl (Nat.le_of_ble_eq_true rfl) dX4_load_37 ⟨Nat.le_of_ble_eq_true rfl, Nat.le_of_ble_eq_true rfl⟩ (fun H locs hP hS => ?_)
      refine lv_aload_n hx hb dX4_load_40 rfl (lv_at hl 1 rfl) ?_
      refine lv_iconst (v := 0) hx hb dX4_load_41 (by decide) ?_
      refine ya_put (D := D) (ci := 4) (v := .int 0) (ty := .int) (C := RX4) (T := TX4) (N := 6) hx hb ht inX4 tyX4 tyX4_ok nmX4 hown hK hP (hDD _) hS 16 CW_16 rfl 2 (by decide) (ht (.fieldLink RX4 99 "CloneVolumes$Picture" "at" "I") fl_X4_99) (fun _ h9 => h9) rfl (by decide +kernel) rfl rfl (Nat.le_of_ble_eq_true rfl) dX4_load_42 (CW_w16_2 _) (fun H locs hP hS => ?_)
      obtain ⟨s29, hs29, h⟩ := st_e h
      rw [hs29] at hP
      refine lv_aload_n hx hb dX4_load_45 rfl (lv_at hl 1 rfl) ?_
      refine lv_aload_n hx hb dX4_load_46 rfl (lv_at hl 2 rfl) ?_
      refine lv_aload_n hx hb dX4_load_47 rfl (lv_at hl 3 rfl) ?_
      obtain ⟨⟨r32, s31⟩, hc30, h⟩ := bn_e h
      refine ywV (r0 := r32) (As := [.ref (a 3), .ref (a 71)]) (rest := []) (C := RX4) (n := 2) (ws' := CS D a s31) ⟨hx, hb, hml, hown, ht⟩ (k_x4_loadHead l D a _ _ _ hc30) (zgV ml_X4_101 im_X4_loadHead se_X4_loadHead in_X4 co_X4_loadHead) rfl rfl (by decide +kernel) ⟨Nat.le_of_ble_eq_true rfl, Nat.le_of_ble_eq_true rfl⟩ hN hK hP (hDD _) hS hA 16 CW_16 rfl rfl rfl hl.1 rfl (Nat.le_of_ble_eq_true rfl) dX4_load_48 ⟨Nat.le_of_ble_eq_true rfl, Nat.le_of_ble_eq_true rfl⟩ (fun H locs hP hS => ?_)
      refine lv_if_ne (tgt := 56) hx hb dX4_load_51 (by decide) (fun c33 => ?_) (fun c33 => ?_)
      · have h := if_f c33 h
        refine lv_iconst (v := 0) hx hb dX4_load_56 (by decide) ?_
        refine lv_istore (lv' := [(6, .int 0), (5, .int ((gI s 61) - 1)), (0, .ref (a 16)), (1, .ref (a 3)), (2, .ref (a 71)), (3, .int p2), (4, .int p3)]) hx hb dX4_load_57 hl (by decide) rfl (fun ls hl => ?_)
        exact J59 FU (p2, p3, (gI s 61) - 1, 0, s31) _ _ _ ⟨hP, hS, lv_sub hl [2, 3, 4, 5, 6, 1, 0] rfl, h⟩
      · have h := if_t c33 h
        refine lv_iconst (v := 0) hx hb dX4_load_54 (by decide) ?_
        obtain rfl := Option.some.inj h
        exact W.zret (v := 0) hx hb hr (by decide) (fun t ht hW => ⟨⟨_, (), rfl, rfl, by rw [ht]; exact hP, va_K.moved hW.alike hK, hDD _⟩, hS.F ht⟩) hS.2.2 dX4_load_55
    · have h := if_f c26 h
      exact J33 s _ _ _ ⟨hP, hS, lv_sub hl [] rfl, h⟩
def m_x11_on_J47 (x1 : Int32) (s2 : MS) : Option (Int32 × MS) :=
  stn (sI s2 61 0) (fun s3 => if x1 = 0 then bn (m_x11_refuse 5 s3) (fun qr11 => some (0, qr11.2)) else bn (m_x8_become_v4 s3) (fun s6 => bn (m_x2_clear s6) (fun s8 => some (1, s8))))
def m_x11_on_J46 (s12 : MS) : Option (Int32 × MS) :=
  m_x11_on_J47 0 s12
def m_x11_on (s : MS) : Option (Int32 × MS) :=
  if (gI s 12) = 0 then m_x11_on_J46 s else bn (m_x4_load (gI s 580) (gI s 581) s) (fun qr16 => if qr16.1 = 0 then m_x11_on_J46 qr16.2 else m_x11_on_J47 1 qr16.2)
set_option maxHeartbeats 4000000 in
set_option maxRecDepth 100000 in
theorem k_x11_on (l : Launch) (D : va_G) (a : Nat → Nat) (sz : Nat) (s : MS) (o : (Int32 × MS)) (h : m_x11_on s = some o) : yWi l yX11_on cX11_on 2 (some .boolean) { frames := 6, cells := 0, slots := 0, locals := 360 } D sz [.ref (a 0)] (CS D a s) (CS D a o.2) o.1 := by
  refine Met.ofW (cc := cX11_on) (maxL := 2) (ret := (some .boolean)) (by decide) rfl ?_
  intro p e s₀ m args below meth c s₁ B hml hv
  obtain ⟨rfl, ⟨hsz, hP, hK, hD0⟩, hN⟩ := hv
  have hx := B.exec
  have hb := B.bytes
  have hr := B.returns
  have hts := atoms_spec (ws := wz yX11_on cX11_on 2 (some .boolean)) B.pre
  have ht : ∀ w ∈ lw_gd, w.before _ s₀ = true := fun w h => hts w (List.mem_cons_of_mem _ h)
  have hown : s₀.vm.findClass RX11 = some m.cls := findClass_of_methodNamed B.named
  have hlocks := B.notSynchronized
  subst hsz
  have hD := hD0.self (sz := s₀.heap.size)
  generalize hAe : va_A (CS D a s) s₀.heap.size = A at hD ⊢
  have hA : ∀ q : Nat, s₀.heap.size ≤ q → A q := fun q h => by rw [← hAe]; exact Or.inr h
  have hS : va_S A s₀.heap s₀.heap [] := va_S.rf
  have hDD : ∀ t : MS, va_D A (CS D a t) := fun t => CW_D t hD
  have hl := lv_entry ([.ref (a 0)]) (n := 2) (Nat.le_of_ble_eq_true rfl)
  rw [lg_entry_eq]
  generalize (lg_sl ([.ref (a 0)]) ++ List.replicate (2 - (lg_sl ([.ref (a 0)])).length) Slot.unset).toArray = ls at hl ⊢
  have hl : lv_has ls 2 [(0, .ref (a 0))] := hl
  unfold m_x11_on at h
  refine y_head (pcJ := 47) (σ := Int32 × MS) (fun u H locs ls => va_P D vwCl (CS D a u.2) H ∧ va_S A s₀.heap H locs ∧ lv_has ls 2 [(0, .ref (a 0))] ∧ m_x11_on_J47 u.1 u.2 = some o) (fun u => [.int u.1]) (fun u H locs ls hI => ?_) (fun J47 => ?_)
  · obtain ⟨hP, hS, hl, h⟩ := hI
    obtain ⟨x1, s2⟩ := u
    have hP : va_P D vwCl (CS D a s2) H := hP
    have hl : lv_has ls 2 [(0, .ref (a 0))] := hl
    have h : m_x11_on_J47 x1 s2 = some o := h
    unfold m_x11_on_J47 at h
    refine lv_istore_n (lv' := [(1, .int x1), (0, .ref (a 0))]) hx hb dX11_on_47 rfl hl (by decide) rfl (fun ls hl => ?_)
    refine lv_aload_n hx hb dX11_on_48 rfl (lv_at hl 1 rfl) ?_
    refine va_get (D := D) (ci := 11) (v := .ref (a 3)) (C := RX11) (T := TX11) (N := 13) hx hb ht inX11 hown hK hP 0 CW_0 rfl 0 (by decide) (ht (.fieldLink RX11 12 "CloneVolumes" "tape" "LCloneVolumes$Tape;") fl_X11_12) (fun _ h9 => h9) rfl dX11_on_49 ?_
    refine lv_iconst (v := 0) hx hb dX11_on_52 (by decide) ?_
    refine ya_put (D := D) (ci := 9) (v := .int 0) (ty := .int) (C := RX9) (T := TX9) (N := 2) hx hb ht inX9 tyX9 tyX9_ok nmX9 hown hK hP (hDD _) hS 3 CW_3 rfl 1 (by decide) (ht (.fieldLink RX11 95 "CloneVolumes$Tape" "length" "I") fl_X11_95) (fun _ h9 => h9) rfl (by decide +kernel) rfl rfl (Nat.le_of_ble_eq_true rfl) dX11_on_53 (CW_w3_1 _) (fun H locs hP hS => ?_)
    obtain ⟨s3, hs3, h⟩ := st_e h
    rw [hs3] at hP
    refine lv_iload_n hx hb dX11_on_56 rfl (lv_at hl 0 rfl) ?_
    refine lv_if_ne (tgt := 68) hx hb dX11_on_57 (by decide) (fun c4 => ?_) (fun c4 => ?_)
    · have h := if_f c4 h
      refine lv_aload_n hx hb dX11_on_68 rfl (lv_at hl 1 rfl) ?_
      refine va_get (D := D) (ci := 11) (v := .ref (a 49)) (C := RX11) (T := TX11) (N := 13) hx hb ht inX11 hown hK hP 0 CW_0 rfl 11 (by decide) (ht (.fieldLink RX11 79 "CloneVolumes" "forest" "LCloneVolumes$Forest;") fl_X11_79) (fun _ h9 => h9) rfl dX11_on_69 ?_
      refine va_get (D := D) (ci := 1) (v := .ref (a 53)) (C := RX1) (T := TX1) (N := 9) hx hb ht inX1 hown hK hP 49 CW_49 rfl 0 (by decide) (ht (.fieldLink RX11 125 "CloneVolumes$Forest" "now" "LCloneVolumes$State;") fl_X11_125) (fun _ h9 => h9) rfl dX11_on_72 ?_
      refine lv_aload_n hx hb dX11_on_75 rfl (lv_at hl 1 rfl) ?_
      refine va_get (D := D) (ci := 11) (v := .ref (a 49)) (C := RX11) (T := TX11) (N := 13) hx hb ht inX11 hown hK hP 0 CW_0 rfl 11 (by decide) (ht (.fieldLink RX11 79 "CloneVolumes" "forest" "LCloneVolumes$Forest;") fl_X11_79) (fun _ h9 => h9) rfl dX11_on_76 ?_
      refine va_get (D := D) (ci := 1) (v := .ref (a 71)) (C := RX1) (T := TX1) (N := 9) hx hb ht inX1 hown hK hP 49 CW_49 rfl 2 (by decide) (ht (.fieldLink RX11 345 "CloneVolumes$Forest" "inner" "LCloneVolumes$State;") fl_X11_345) (fun _ h9 => h9) rfl dX11_on_79 ?_
      obtain ⟨s6, hc5, h⟩ := bn_e h
      refine ywVv (As := [.ref (a 71)]) (rest := []) (C := RX8) (n := 1) (ws' := CS D a s6) ⟨hx, hb, hml, hown, ht⟩ (k_x8_become_v4 l D a _ _ _ hc5) (zgV ml_X11_312 im_X8_become se_X8_become in_X8 co_X8_become) rfl rfl (by decide +kernel) ⟨Nat.le_of_ble_eq_true rfl, Nat.le_of_ble_eq_true rfl⟩ hN hK hP (hDD _) hS hA 53 CW_53 rfl rfl rfl hl.1 rfl (Nat.le_of_ble_eq_true rfl) dX11_on_82 ⟨Nat.le_of_ble_eq_true rfl, Nat.le_of_ble_eq_true rfl⟩ (fun H locs hP hS => ?_)
      refine lv_aload_n hx hb dX11_on_85 rfl (lv_at hl 1 rfl) ?_
      refine va_get (D := D) (ci := 11) (v := .ref (a 7)) (C := RX11) (T := TX11) (N := 13) hx hb ht inX11 hown hK hP 0 CW_0 rfl 2 (by decide) (ht (.fieldLink RX11 28 "CloneVolumes" "history" "LCloneVolumes$History;") fl_X11_28) (fun _ h9 => h9) rfl dX11_on_86 ?_
      obtain ⟨s8, hc7, h⟩ := bn_e h
      refine ywVv (As := []) (rest := []) (C := RX2) (n := 0) (ws' := CS D a s8) ⟨hx, hb, hml, hown, ht⟩ (k_x2_clear l D a _ _ _ hc7) (zgV ml_X11_106 im_X2_clear se_X2_clear in_X2 co_X2_clear) rfl rfl (by decide +kernel) ⟨Nat.le_of_ble_eq_true rfl, Nat.le_of_ble_eq_true rfl⟩ hN hK hP (hDD _) hS hA 7 CW_7 rfl rfl rfl hl.1 rfl (Nat.le_of_ble_eq_true rfl) dX11_on_89 ⟨Nat.le_of_ble_eq_true rfl, Nat.le_of_ble_eq_true rfl⟩ (fun H locs hP hS => ?_)
      refine lv_iconst (v := 1) hx hb dX11_on_92 (by decide) ?_
      obtain rfl := Option.some.inj h
      exact W.zret (v := 1) hx hb hr (by decide) (fun t ht hW => ⟨⟨_, (), rfl, rfl, by rw [ht]; exact hP, va_K.moved hW.alike hK, hDD _⟩, hS.F ht⟩) hS.2.2 dX11_on_93
    · have h := if_t c4 h
      refine lv_aload_n hx hb dX11_on_60 rfl (lv_at hl 1 rfl) ?_
      refine lv_iconst (v := 5) hx hb dX11_on_61 (by decide) ?_
      obtain ⟨⟨r11, s10⟩, hc9, h⟩ := bn_e h
      refine ywV (r0 := r11) (As := [.int 5]) (rest := []) (C := RX11) (n := 1) (ws' := CS D a s10) ⟨hx, hb, hml, hown, ht⟩ (k_x11_refuse l D a 5 _ _ _ hc9) (zgV ml_X11_87 im_X11_refuse se_X11_refuse in_X11 co_X11_refuse) rfl rfl (by decide +kernel) ⟨Nat.le_of_ble_eq_true rfl, Nat.le_of_ble_eq_true rfl⟩ hN hK hP (hDD _) hS hA 0 CW_0 rfl rfl rfl hl.1 rfl (Nat.le_of_ble_eq_true rfl) dX11_on_62 ⟨Nat.le_of_ble_eq_true rfl, Nat.le_of_ble_eq_true rfl⟩ (fun H locs hP hS => ?_)
      refine lv_pop hx hb dX11_on_65 rfl ?_
      refine lv_iconst (v := 0) hx hb dX11_on_66 (by decide) ?_
      obtain rfl := Option.some.inj h
      exact W.zret (v := 0) hx hb hr (by decide) (fun t ht hW => ⟨⟨_, (), rfl, rfl, by rw [ht]; exact hP, va_K.moved hW.alike hK, hDD _⟩, hS.F ht⟩) hS.2.2 dX11_on_67
  refine y_head (pcJ := 46) (σ := MS) (fun u H locs ls => va_P D vwCl (CS D a u) H ∧ va_S A s₀.heap H locs ∧ lv_has ls 2 [(0, .ref (a 0))] ∧ m_x11_on_J46 u = some o) (fun u => []) (fun u H locs ls hI => ?_) (fun J46 => ?_)
  · obtain ⟨hP, hS, hl, h⟩ := hI
    obtain ⟨s12, rfl⟩ : ∃ z, z = u := ⟨u, rfl⟩
    have hP : va_P D vwCl (CS D a s12) H := hP
    have hl : lv_has ls 2 [(0, .ref (a 0))] := hl
    have h : m_x11_on_J46 s12 = some o := h
    unfold m_x11_on_J46 at h
    refine lv_iconst (v := 0) hx hb dX11_on_46 (by decide) ?_
    exact J47 (0, s12) _ _ _ ⟨hP, hS, lv_sub hl [0] rfl, h⟩
  refine lv_aload_n hx hb dX11_on_0 rfl (lv_at hl 0 rfl) ?_
  refine va_get (D := D) (ci := 11) (v := .int (gI s 12)) (C := RX11) (T := TX11) (N := 13) hx hb ht inX11 hown hK hP 0 CW_0 rfl 12 (by decide) (ht (.fieldLink RX11 112 "CloneVolumes" "told" "Z") fl_X11_112) (fun _ h9 => h9) rfl dX11_on_1 ?_
  refine lv_if_eq (tgt := 46) hx hb dX11_on_4 (by decide) (fun c13 => ?_) (fun c13 => ?_)
  · have h := if_t c13 h
    exact J46 s _ _ _ ⟨hP, hS, lv_sub hl [0] rfl, h⟩
  · have h := if_f c13 h
    refine lv_aload_n hx hb dX11_on_7 rfl (lv_at hl 0 rfl) ?_
    refine va_get (D := D) (ci := 11) (v := .ref (a 16)) (C := RX11) (T := TX11) (N := 13) hx hb ht inX11 hown hK hP 0 CW_0 rfl 4 (by decide) (ht (.fieldLink RX11 42 "CloneVolumes" "picture" "LCloneVolumes$Picture;") fl_X11_42) (fun _ h9 => h9) rfl dX11_on_8 ?_
    refine lv_aload_n hx hb dX11_on_11 rfl (lv_at hl 0 rfl) ?_
    refine va_get (D := D) (ci := 11) (v := .ref (a 3)) (C := RX11) (T := TX11) (N := 13) hx hb ht inX11 hown hK hP 0 CW_0 rfl 0 (by decide) (ht (.fieldLink RX11 12 "CloneVolumes" "tape" "LCloneVolumes$Tape;") fl_X11_12) (fun _ h9 => h9) rfl dX11_on_12 ?_
    refine lv_aload_n hx hb dX11_on_15 rfl (lv_at hl 0 rfl) ?_
    refine va_get (D := D) (ci := 11) (v := .ref (a 49)) (C := RX11) (T := TX11) (N := 13) hx hb ht inX11 hown hK hP 0 CW_0 rfl 11 (by decide) (ht (.fieldLink RX11 79 "CloneVolumes" "forest" "LCloneVolumes$Forest;") fl_X11_79) (fun _ h9 => h9) rfl dX11_on_16 ?_
    refine va_get (D := D) (ci := 1) (v := .ref (a 71)) (C := RX1) (T := TX1) (N := 9) hx hb ht inX1 hown hK hP 49 CW_49 rfl 2 (by decide) (ht (.fieldLink RX11 345 "CloneVolumes$Forest" "inner" "LCloneVolumes$State;") fl_X11_345) (fun _ h9 => h9) rfl dX11_on_19 ?_
    refine lv_aload_n hx hb dX11_on_22 rfl (lv_at hl 0 rfl) ?_
    refine va_get (D := D) (ci := 11) (v := .ref (a 29)) (C := RX11) (T := TX11) (N := 13) hx hb ht inX11 hown hK hP 0 CW_0 rfl 9 (by decide) (ht (.fieldLink RX11 67 "CloneVolumes" "plan" "LCloneVolumes$Plan;") fl_X11_67) (fun _ h9 => h9) rfl dX11_on_23 ?_
    refine va_get (D := D) (ci := 5) (v := .int (gI s 580)) (C := RX5) (T := TX5) (N := 14) hx hb ht inX5 hown hK hP 29 CW_29 rfl 0 (by decide) (ht (.fieldLink RX11 348 "CloneVolumes$Plan" "blocks" "I") fl_X11_348) (fun _ h9 => h9) rfl dX11_on_26 ?_
    refine lv_aload_n hx hb dX11_on_29 rfl (lv_at hl 0 rfl) ?_
    refine va_get (D := D) (ci := 11) (v := .ref (a 29)) (C := RX11) (T := TX11) (N := 13) hx hb ht inX11 hown hK hP 0 CW_0 rfl 9 (by decide) (ht (.fieldLink RX11 67 "CloneVolumes" "plan" "LCloneVolumes$Plan;") fl_X11_67) (fun _ h9 => h9) rfl dX11_on_30 ?_
    refine va_get (D := D) (ci := 5) (v := .int (gI s 581)) (C := RX5) (T := TX5) (N := 14) hx hb ht inX5 hown hK hP 29 CW_29 rfl 1 (by decide) (ht (.fieldLink RX11 153 "CloneVolumes$Plan" "entriesMost" "I") fl_X11_153) (fun _ h9 => h9) rfl dX11_on_33 ?_
    obtain ⟨⟨r16, s15⟩, hc14, h⟩ := bn_e h
    refine ywV (r0 := r16) (As := [.ref (a 3), .ref (a 71), .int (gI s 580), .int (gI s 581)]) (rest := []) (C := RX4) (n := 4) (ws' := CS D a s15) ⟨hx, hb, hml, hown, ht⟩ (k_x4_load l D a (gI s 580) (gI s 581) _ _ _ hc14) (zgV ml_X11_349 im_X4_load se_X4_load in_X4 co_X4_load) rfl rfl (by decide +kernel) ⟨Nat.le_of_ble_eq_true rfl, Nat.le_of_ble_eq_true rfl⟩ hN hK hP (hDD _) hS hA 16 CW_16 rfl rfl rfl hl.1 rfl (Nat.le_of_ble_eq_true rfl) dX11_on_36 ⟨Nat.le_of_ble_eq_true rfl, Nat.le_of_ble_eq_true rfl⟩ (fun H locs hP hS => ?_)
    refine lv_if_eq (tgt := 46) hx hb dX11_on_39 (by decide) (fun c17 => ?_) (fun c17 => ?_)
    · have h := if_t c17 h
      exact J46 s15 _ _ _ ⟨hP, hS, lv_sub hl [0] rfl, h⟩
    · have h := if_f c17 h
      refine lv_iconst (v := 1) hx hb dX11_on_42 (by decide) ?_
      refine lv_goto (tgt := 47) hx hb dX11_on_43 (by decide) ?_
      exact J47 (1, s15) _ _ _ ⟨hP, hS, lv_sub hl [0] rfl, h⟩
def m_x11_status_J20 (s : MS) (x1 : Int32) : Option Int32 :=
  some x1
def m_x11_status_J19 (s : MS) (_u : Unit) : Option Int32 :=
  m_x11_status_J20 s (-1)
def m_x11_status (p0 : Int32) (s : MS) : Option Int32 :=
  if p0 < 0 then m_x11_status_J19 s () else if 6 ≤ p0 then m_x11_status_J19 s () else rdI (gA s 2) 6 p0 (fun y4 => m_x11_status_J20 s y4)
set_option maxHeartbeats 4000000 in
set_option maxRecDepth 100000 in
theorem k_x11_status (l : Launch) (D : va_G) (a : Nat → Nat) (p0 : Int32) (s : MS) (o : Int32) (h : m_x11_status p0 s = some o) : yRi l yX11_status cX11_status 2 (some .int) { frames := 0, cells := 0, slots := 0, locals := 0 } D [.ref (a 0), .int p0] (CS D a s) o := by
  refine Met.ofW (cc := cX11_status) (maxL := 2) (ret := (some .int)) (by decide) rfl ?_
  intro p e s₀ m args below meth c s₁ B hml hv
  obtain ⟨rfl, ⟨hP, hK⟩, hN⟩ := hv
  have hx := B.exec
  have hb := B.bytes
  have hr := B.returns
  have hts := atoms_spec (ws := wz yX11_status cX11_status 2 (some .int)) B.pre
  have ht : ∀ w ∈ lw_gd, w.before _ s₀ = true := fun w h => hts w (List.mem_cons_of_mem _ h)
  have hown : s₀.vm.findClass RX11 = some m.cls := findClass_of_methodNamed B.named
  have hlocks := B.notSynchronized
  have hS : va_S (fun _ => False) s₀.heap s₀.heap [] := va_S.rf
  have hl := lv_entry ([.ref (a 0), .int p0]) (n := 2) (Nat.le_of_ble_eq_true rfl)
  rw [lg_entry_eq]
  generalize (lg_sl ([.ref (a 0), .int p0]) ++ List.replicate (2 - (lg_sl ([.ref (a 0), .int p0])).length) Slot.unset).toArray = ls at hl ⊢
  have hl : lv_has ls 2 [(0, .ref (a 0)), (1, .int p0)] := hl
  unfold m_x11_status at h
  refine y_head (pcJ := 20) (σ := Int32) (fun u H locs ls => va_P D vwCl (CS D a s) H ∧ va_S (fun _ => False) s₀.heap H locs ∧ lv_has ls 2 [] ∧ m_x11_status_J20 s u = some o) (fun u => [.int u]) (fun u H locs ls hI => ?_) (fun J20 => ?_)
  · obtain ⟨hP, hS, hl, h⟩ := hI
    obtain ⟨x1, rfl⟩ : ∃ z, z = u := ⟨u, rfl⟩
    have hP : va_P D vwCl (CS D a s) H := hP
    have hl : lv_has ls 2 [] := hl
    have h : m_x11_status_J20 s x1 = some o := h
    unfold m_x11_status_J20 at h
    obtain rfl := Option.some.inj h
    exact W.iret (v := x1) hx hb hr (fun t ht hW => ⟨⟨_, (), rfl, rfl, trivial⟩, hS.F ht⟩) hS.2.2 dX11_status_20
  refine y_head (pcJ := 19) (σ := Unit) (fun u H locs ls => va_P D vwCl (CS D a s) H ∧ va_S (fun _ => False) s₀.heap H locs ∧ lv_has ls 2 [] ∧ m_x11_status_J19 s u = some o) (fun u => []) (fun u H locs ls hI => ?_) (fun J19 => ?_)
  · obtain ⟨hP, hS, hl, h⟩ := hI
    skip
    have hP : va_P D vwCl (CS D a s) H := hP
    have hl : lv_has ls 2 [] := hl
    have h : m_x11_status_J19 s () = some o := h
    unfold m_x11_status_J19 at h
    refine lv_iconst (v := (-1)) hx hb dX11_status_19 (by decide) ?_
    exact J20 (-1) _ _ _ ⟨hP, hS, lv_sub hl [] rfl, h⟩
  refine lv_iload_n hx hb dX11_status_0 rfl (lv_at hl 1 rfl) ?_
  refine lv_if_lt (tgt := 19) hx hb dX11_status_1 (by decide) (fun c2 => ?_) (fun c2 => ?_)
  · have h := if_t c2 h
    exact J19 () _ _ _ ⟨hP, hS, lv_sub hl [] rfl, h⟩
  · have h := if_f c2 h
    refine lv_iload_n hx hb dX11_status_4 rfl (lv_at hl 1 rfl) ?_
    refine lv_bipush (v := 6) hx hb dX11_status_5 (by decide) ?_
    refine lv_icmp_ge (tgt := 19) hx hb dX11_status_7 (by decide) (fun c3 => ?_) (fun c3 => ?_)
    · have h := if_t c3 h
      exact J19 () _ _ _ ⟨hP, hS, lv_sub hl [] rfl, h⟩
    · have h := if_f c3 h
      refine lv_aload_n hx hb dX11_status_10 rfl (lv_at hl 0 rfl) ?_
      refine va_get (D := D) (ci := 11) (v := .ref (a 2)) (C := RX11) (T := TX11) (N := 13) hx hb ht inX11 hown hK hP 0 CW_0 rfl 8 (by decide) (ht (.fieldLink RX11 60 "CloneVolumes" "refused" "[I") fl_X11_60) (fun _ h9 => h9) rfl dX11_status_11 ?_
      refine lv_iload_n hx hb dX11_status_14 rfl (lv_at hl 1 rfl) ?_
      obtain ⟨y4, ey4, iy4, h⟩ := rdI_e h
      refine ya_iald hx hb hK hP 2 0 CW_2 rfl ey4 iy4 dX11_status_15 ?_
      refine lv_goto (tgt := 20) hx hb dX11_status_16 (by decide) ?_
      exact J20 y4 _ _ _ ⟨hP, hS, lv_sub hl [] rfl, h⟩
def m_x5_addChange_J60 (s1 : MS) : Option MS :=
  some s1
def m_x5_addChange (p0 : Int32) (p1 : Int32) (p2 : Int32) (p3 : Int32) (s : MS) : Option MS :=
  if 60 ≤ (gI s 785) then m_x5_addChange_J60 s else inb 60 (gI s 785) (stn (sA s 41 (upd (gA s 41) (Int32.toNatClampNeg (gI s 785)) p0)) (fun s4 => inb 60 (gI s4 785) (stn (sA s4 42 (upd (gA s4 42) (Int32.toNatClampNeg (gI s4 785)) p1)) (fun s6 => inb 60 (gI s6 785) (stn (sA s6 43 (upd (gA s6 43) (Int32.toNatClampNeg (gI s6 785)) p2)) (fun s8 => inb 60 (gI s8 785) (stn (sA s8 44 (upd (gA s8 44) (Int32.toNatClampNeg (gI s8 785)) p3)) (fun s10 => stn (sI s10 785 ((gI s10 785) + 1)) (fun s11 => m_x5_addChange_J60 s11)))))))))
set_option maxHeartbeats 4000000 in
set_option maxRecDepth 100000 in
theorem k_x5_addChange (l : Launch) (D : va_G) (a : Nat → Nat) (p0 : Int32) (p1 : Int32) (p2 : Int32) (p3 : Int32) (sz : Nat) (s : MS) (o : MS) (h : m_x5_addChange p0 p1 p2 p3 s = some o) : yWv l yX5_addChange cX5_addChange 5 none { frames := 0, cells := 0, slots := 0, locals := 0 } D sz [.ref (a 39), .int p0, .int p1, .int p2, .int p3] (CS D a s) (CS D a o) := by
  refine Met.ofW (cc := cX5_addChange) (maxL := 5) (ret := none) (by decide) rfl ?_
  intro p e s₀ m args below meth c s₁ B hml hv
  obtain ⟨rfl, ⟨hsz, hP, hK, hD0⟩, hN⟩ := hv
  have hx := B.exec
  have hb := B.bytes
  have hr := B.returns
  have hts := atoms_spec (ws := wz yX5_addChange cX5_addChange 5 none) B.pre
  have ht : ∀ w ∈ lw_gd, w.before _ s₀ = true := fun w h => hts w (List.mem_cons_of_mem _ h)
  have hown : s₀.vm.findClass RX5 = some m.cls := findClass_of_methodNamed B.named
  have hlocks := B.notSynchronized
  subst hsz
  have hD := hD0.self (sz := s₀.heap.size)
  generalize hAe : va_A (CS D a s) s₀.heap.size = A at hD ⊢
  have hA : ∀ q : Nat, s₀.heap.size ≤ q → A q := fun q h => by rw [← hAe]; exact Or.inr h
  have hS : va_S A s₀.heap s₀.heap [] := va_S.rf
  have hDD : ∀ t : MS, va_D A (CS D a t) := fun t => CW_D t hD
  have hl := lv_entry ([.ref (a 39), .int p0, .int p1, .int p2, .int p3]) (n := 5) (Nat.le_of_ble_eq_true rfl)
  rw [lg_entry_eq]
  generalize (lg_sl ([.ref (a 39), .int p0, .int p1, .int p2, .int p3]) ++ List.replicate (5 - (lg_sl ([.ref (a 39), .int p0, .int p1, .int p2, .int p3])).length) Slot.unset).toArray = ls at hl ⊢
  have hl : lv_has ls 5 [(0, .ref (a 39)), (1, .int p0), (2, .int p1), (3, .int p2), (4, .int p3)] := hl
  unfold m_x5_addChange at h
  refine y_head (pcJ := 60) (σ := MS) (fun u H locs ls => va_P D vwCl (CS D a u) H ∧ va_S A s₀.heap H locs ∧ lv_has ls 5 [] ∧ m_x5_addChange_J60 u = some o) (fun u => []) (fun u H locs ls hI => ?_) (fun J60 => ?_)
  · obtain ⟨hP, hS, hl, h⟩ := hI
    obtain ⟨s1, rfl⟩ : ∃ z, z = u := ⟨u, rfl⟩
    have hP : va_P D vwCl (CS D a s1) H := hP
    have hl : lv_has ls 5 [] := hl
    have h : m_x5_addChange_J60 s1 = some o := h
    unfold m_x5_addChange_J60 at h
    obtain rfl := Option.some.inj h
    exact W.vret hx hb hr (fun t ht hW => ⟨⟨(), rfl, trivial, by rw [ht]; exact hP, va_K.moved hW.alike hK, hDD _⟩, hS.F ht⟩) hS.2.2 dX5_addChange_60
  refine lv_aload_n hx hb dX5_addChange_0 rfl (lv_at hl 0 rfl) ?_
  refine va_get (D := D) (ci := 5) (v := .int (gI s 785)) (C := RX5) (T := TX5) (N := 14) hx hb ht inX5 hown hK hP 39 CW_39 rfl 5 (by decide) (ht (.fieldLink RX5 50 "CloneVolumes$Plan" "changes" "I") fl_X5_50) (fun _ h9 => h9) rfl dX5_addChange_1 ?_
  refine lv_bipush (v := 60) hx hb dX5_addChange_4 (by decide) ?_
  refine lv_icmp_ge (tgt := 60) hx hb dX5_addChange_6 (by decide) (fun c2 => ?_) (fun c2 => ?_)
  · have h := if_t c2 h
    exact J60 s _ _ _ ⟨hP, hS, lv_sub hl [] rfl, h⟩
  · have h := if_f c2 h
    refine lv_aload_n hx hb dX5_addChange_9 rfl (lv_at hl 0 rfl) ?_
    refine va_get (D := D) (ci := 5) (v := .ref (a 41)) (C := RX5) (T := TX5) (N := 14) hx hb ht inX5 hown hK hP 39 CW_39 rfl 7 (by decide) (ht (.fieldLink RX5 15 "CloneVolumes$Plan" "kinds" "[I") fl_X5_15) (fun _ h9 => h9) rfl dX5_addChange_10 ?_
    refine lv_aload_n hx hb dX5_addChange_13 rfl (lv_at hl 0 rfl) ?_
    refine va_get (D := D) (ci := 5) (v := .int (gI s 785)) (C := RX5) (T := TX5) (N := 14) hx hb ht inX5 hown hK hP 39 CW_39 rfl 5 (by decide) (ht (.fieldLink RX5 50 "CloneVolumes$Plan" "changes" "I") fl_X5_50) (fun _ h9 => h9) rfl dX5_addChange_14 ?_
    refine lv_iload_n hx hb dX5_addChange_17 rfl (lv_at hl 1 rfl) ?_
    obtain ⟨hi3, h⟩ := inb_e h
    refine ya_iast hx hb hK hP (hDD _) hS 41 0 CW_41 rfl hi3 dX5_addChange_18 (CW_w41 _) (fun H locs hP hS => ?_)
    obtain ⟨s4, hs4, h⟩ := st_e h
    rw [hs4] at hP
    refine lv_aload_n hx hb dX5_addChange_19 rfl (lv_at hl 0 rfl) ?_
    refine va_get (D := D) (ci := 5) (v := .ref (a 42)) (C := RX5) (T := TX5) (N := 14) hx hb ht inX5 hown hK hP 39 CW_39 rfl 8 (by decide) (ht (.fieldLink RX5 18 "CloneVolumes$Plan" "who" "[I") fl_X5_18) (fun _ h9 => h9) rfl dX5_addChange_20 ?_
    refine lv_aload_n hx hb dX5_addChange_23 rfl (lv_at hl 0 rfl) ?_
    refine va_get (D := D) (ci := 5) (v := .int (gI s4 785)) (C := RX5) (T := TX5) (N := 14) hx hb ht inX5 hown hK hP 39 CW_39 rfl 5 (by decide) (ht (.fieldLink RX5 50 "CloneVolumes$Plan" "changes" "I") fl_X5_50) (fun _ h9 => h9) rfl dX5_addChange_24 ?_
    refine lv_iload_n hx hb dX5_addChange_27 rfl (lv_at hl 2 rfl) ?_
    obtain ⟨hi5, h⟩ := inb_e h
    refine ya_iast hx hb hK hP (hDD _) hS 42 0 CW_42 rfl hi5 dX5_addChange_28 (CW_w42 _) (fun H locs hP hS => ?_)
    obtain ⟨s6, hs6, h⟩ := st_e h
    rw [hs6] at hP
    refine lv_aload_n hx hb dX5_addChange_29 rfl (lv_at hl 0 rfl) ?_
    refine va_get (D := D) (ci := 5) (v := .ref (a 43)) (C := RX5) (T := TX5) (N := 14) hx hb ht inX5 hown hK hP 39 CW_39 rfl 9 (by decide) (ht (.fieldLink RX5 21 "CloneVolumes$Plan" "first" "[I") fl_X5_21) (fun _ h9 => h9) rfl dX5_addChange_30 ?_
    refine lv_aload_n hx hb dX5_addChange_33 rfl (lv_at hl 0 rfl) ?_
    refine va_get (D := D) (ci := 5) (v := .int (gI s6 785)) (C := RX5) (T := TX5) (N := 14) hx hb ht inX5 hown hK hP 39 CW_39 rfl 5 (by decide) (ht (.fieldLink RX5 50 "CloneVolumes$Plan" "changes" "I") fl_X5_50) (fun _ h9 => h9) rfl dX5_addChange_34 ?_
    refine lv_iload_n hx hb dX5_addChange_37 rfl (lv_at hl 3 rfl) ?_
    obtain ⟨hi7, h⟩ := inb_e h
    refine ya_iast hx hb hK hP (hDD _) hS 43 0 CW_43 rfl hi7 dX5_addChange_38 (CW_w43 _) (fun H locs hP hS => ?_)
    obtain ⟨s8, hs8, h⟩ := st_e h
    rw [hs8] at hP
    refine lv_aload_n hx hb dX5_addChange_39 rfl (lv_at hl 0 rfl) ?_
    refine va_get (D := D) (ci := 5) (v := .ref (a 44)) (C := RX5) (T := TX5) (N := 14) hx hb ht inX5 hown hK hP 39 CW_39 rfl 10 (by decide) (ht (.fieldLink RX5 24 "CloneVolumes$Plan" "second" "[I") fl_X5_24) (fun _ h9 => h9) rfl dX5_addChange_40 ?_
    refine lv_aload_n hx hb dX5_addChange_43 rfl (lv_at hl 0 rfl) ?_
    refine va_get (D := D) (ci := 5) (v := .int (gI s8 785)) (C := RX5) (T := TX5) (N := 14) hx hb ht inX5 hown hK hP 39 CW_39 rfl 5 (by decide) (ht (.fieldLink RX5 50 "CloneVolumes$Plan" "changes" "I") fl_X5_50) (fun _ h9 => h9) rfl dX5_addChange_44 ?_
    refine lv_iload hx hb dX5_addChange_47 (lv_at hl 4 rfl) ?_
    obtain ⟨hi9, h⟩ := inb_e h
    refine ya_iast hx hb hK hP (hDD _) hS 44 0 CW_44 rfl hi9 dX5_addChange_49 (CW_w44 _) (fun H locs hP hS => ?_)
    obtain ⟨s10, hs10, h⟩ := st_e h
    rw [hs10] at hP
    refine lv_aload_n hx hb dX5_addChange_50 rfl (lv_at hl 0 rfl) ?_
    refine lv_dup hx hb dX5_addChange_51 rfl ?_
    refine va_get (D := D) (ci := 5) (v := .int (gI s10 785)) (C := RX5) (T := TX5) (N := 14) hx hb ht inX5 hown hK hP 39 CW_39 rfl 5 (by decide) (ht (.fieldLink RX5 50 "CloneVolumes$Plan" "changes" "I") fl_X5_50) (fun _ h9 => h9) rfl dX5_addChange_52 ?_
    refine lv_iconst (v := 1) hx hb dX5_addChange_55 (by decide) ?_
    refine lv_iadd hx hb dX5_addChange_56 ?_
    refine ya_put (D := D) (ci := 5) (v := .int ((gI s10 785) + 1)) (ty := .int) (C := RX5) (T := TX5) (N := 14) hx hb ht inX5 tyX5 tyX5_ok nmX5 hown hK hP (hDD _) hS 39 CW_39 rfl 5 (by decide) (ht (.fieldLink RX5 50 "CloneVolumes$Plan" "changes" "I") fl_X5_50) (fun _ h9 => h9) rfl (by decide +kernel) rfl rfl (Nat.le_of_ble_eq_true rfl) dX5_addChange_57 (CW_w39_5 _) (fun H locs hP hS => ?_)
    obtain ⟨s11, hs11, h⟩ := st_e h
    rw [hs11] at hP
    exact J60 s11 _ _ _ ⟨hP, hS, lv_sub hl [] rfl, h⟩
def m_x6_isName_J69 (x1 : Int32) (s2 : MS) : Option (Int32 × MS) :=
  bo x1 (some (x1, s2))
def m_x6_isName_J64 (s4 : MS) : Option (Int32 × MS) :=
  m_x6_isName_J69 1 s4
def m_x6_isName_J35 (s5 : MS) : Option (Int32 × MS) :=
  if ((gI s5 109) - (gI s5 108)) ≤ 6 then m_x6_isName_J64 s5 else bn (m_x6_fail 1 ((gI s5 108) + 6) s5) (fun qr9 => if qr9.1 = 0 then m_x6_isName_J69 0 qr9.2 else m_x6_isName_J64 qr9.2)
def m_x6_isName_J25 (s11 : MS) : Option (Int32 × MS) :=
  bn (m_x6_fail 1 (gI s11 108) s11) (fun qr14 => bo qr14.1 (some (qr14.1, qr14.2)))
def m_x6_isName (s : MS) : Option (Int32 × MS) :=
  if (gI s 107) = 1 then if (gI s 110) = (-1) then m_x6_isName_J35 s else if 27 ≤ (gI s 110) then m_x6_isName_J35 s else m_x6_isName_J25 s else m_x6_isName_J25 s
set_option maxHeartbeats 4000000 in
set_option maxRecDepth 100000 in
theorem k_x6_isName (l : Launch) (D : va_G) (a : Nat → Nat) (sz : Nat) (s : MS) (o : (Int32 × MS)) (h : m_x6_isName s = some o) : yWi l yX6_isName cX6_isName 1 (some .boolean) { frames := 1, cells := 0, slots := 0, locals := 60 } D sz [.ref (a 5)] (CS D a s) (CS D a o.2) o.1 := by
  refine Met.ofW (cc := cX6_isName) (maxL := 1) (ret := (some .boolean)) (by decide) rfl ?_
  intro p e s₀ m args below meth c s₁ B hml hv
  obtain ⟨rfl, ⟨hsz, hP, hK, hD0⟩, hN⟩ := hv
  have hx := B.exec
  have hb := B.bytes
  have hr := B.returns
  have hts := atoms_spec (ws := wz yX6_isName cX6_isName 1 (some .boolean)) B.pre
  have ht : ∀ w ∈ lw_gd, w.before _ s₀ = true := fun w h => hts w (List.mem_cons_of_mem _ h)
  have hown : s₀.vm.findClass RX6 = some m.cls := findClass_of_methodNamed B.named
  have hlocks := B.notSynchronized
  subst hsz
  have hD := hD0.self (sz := s₀.heap.size)
  generalize hAe : va_A (CS D a s) s₀.heap.size = A at hD ⊢
  have hA : ∀ q : Nat, s₀.heap.size ≤ q → A q := fun q h => by rw [← hAe]; exact Or.inr h
  have hS : va_S A s₀.heap s₀.heap [] := va_S.rf
  have hDD : ∀ t : MS, va_D A (CS D a t) := fun t => CW_D t hD
  have hl := lv_entry ([.ref (a 5)]) (n := 1) (Nat.le_of_ble_eq_true rfl)
  rw [lg_entry_eq]
  generalize (lg_sl ([.ref (a 5)]) ++ List.replicate (1 - (lg_sl ([.ref (a 5)])).length) Slot.unset).toArray = ls at hl ⊢
  have hl : lv_has ls 1 [(0, .ref (a 5))] := hl
  unfold m_x6_isName at h
  refine y_head (pcJ := 69) (σ := Int32 × MS) (fun u H locs ls => va_P D vwCl (CS D a u.2) H ∧ va_S A s₀.heap H locs ∧ lv_has ls 1 [] ∧ m_x6_isName_J69 u.1 u.2 = some o) (fun u => [.int u.1]) (fun u H locs ls hI => ?_) (fun J69 => ?_)
  · obtain ⟨hP, hS, hl, h⟩ := hI
    obtain ⟨x1, s2⟩ := u
    have hP : va_P D vwCl (CS D a s2) H := hP
    have hl : lv_has ls 1 [] := hl
    have h : m_x6_isName_J69 x1 s2 = some o := h
    unfold m_x6_isName_J69 at h
    obtain ⟨hb3, h⟩ := bo_e h
    obtain rfl := Option.some.inj h
    exact W.zret (v := x1) hx hb hr (bo_n hb3) (fun t ht hW => ⟨⟨_, (), rfl, rfl, by rw [ht]; exact hP, va_K.moved hW.alike hK, hDD _⟩, hS.F ht⟩) hS.2.2 dX6_isName_69
  refine y_head (pcJ := 64) (σ := MS) (fun u H locs ls => va_P D vwCl (CS D a u) H ∧ va_S A s₀.heap H locs ∧ lv_has ls 1 [] ∧ m_x6_isName_J64 u = some o) (fun u => []) (fun u H locs ls hI => ?_) (fun J64 => ?_)
  · obtain ⟨hP, hS, hl, h⟩ := hI
    obtain ⟨s4, rfl⟩ : ∃ z, z = u := ⟨u, rfl⟩
    have hP : va_P D vwCl (CS D a s4) H := hP
    have hl : lv_has ls 1 [] := hl
    have h : m_x6_isName_J64 s4 = some o := h
    unfold m_x6_isName_J64 at h
    refine lv_iconst (v := 1) hx hb dX6_isName_64 (by decide) ?_
    refine lv_goto (tgt := 69) hx hb dX6_isName_65 (by decide) ?_
    exact J69 (1, s4) _ _ _ ⟨hP, hS, lv_sub hl [] rfl, h⟩
  refine y_head (pcJ := 35) (σ := MS) (fun u H locs ls => va_P D vwCl (CS D a u) H ∧ va_S A s₀.heap H locs ∧ lv_has ls 1 [(0, .ref (a 5))] ∧ m_x6_isName_J35 u = some o) (fun u => []) (fun u H locs ls hI => ?_) (fun J35 => ?_)
  · obtain ⟨hP, hS, hl, h⟩ := hI
    obtain ⟨s5, rfl⟩ : ∃ z, z = u := ⟨u, rfl⟩
    have hP : va_P D vwCl (CS D a s5) H := hP
    have hl : lv_has ls 1 [(0, .ref (a 5))] := hl
    have h : m_x6_isName_J35 s5 = some o := h
    unfold m_x6_isName_J35 at h
    refine lv_aload_n hx hb dX6_isName_35 rfl (lv_at hl 0 rfl) ?_
    refine va_get (D := D) (ci := 6) (v := .int (gI s5 109)) (C := RX6) (T := TX6) (N := 12) hx hb ht inX6 hown hK hP 5 CW_5 rfl 9 (by decide) (ht (.fieldLink RX6 88 "CloneVolumes$Reader" "stop" "I") fl_X6_88) (fun _ h9 => h9) rfl dX6_isName_36 ?_
    refine lv_aload_n hx hb dX6_isName_39 rfl (lv_at hl 0 rfl) ?_
    refine va_get (D := D) (ci := 6) (v := .int (gI s5 108)) (C := RX6) (T := TX6) (N := 12) hx hb ht inX6 hown hK hP 5 CW_5 rfl 8 (by decide) (ht (.fieldLink RX6 51 "CloneVolumes$Reader" "start" "I") fl_X6_51) (fun _ h9 => h9) rfl dX6_isName_40 ?_
    refine lv_isub hx hb dX6_isName_43 ?_
    refine lv_bipush (v := 6) hx hb dX6_isName_44 (by decide) ?_
    refine lv_icmp_le (tgt := 64) hx hb dX6_isName_46 (by decide) (fun c6 => ?_) (fun c6 => ?_)
    · have h := if_t c6 h
      exact J64 s5 _ _ _ ⟨hP, hS, lv_sub hl [] rfl, h⟩
    · have h := if_f c6 h
      refine lv_aload_n hx hb dX6_isName_49 rfl (lv_at hl 0 rfl) ?_
      refine lv_iconst (v := 1) hx hb dX6_isName_50 (by decide) ?_
      refine lv_aload_n hx hb dX6_isName_51 rfl (lv_at hl 0 rfl) ?_
      refine va_get (D := D) (ci := 6) (v := .int (gI s5 108)) (C := RX6) (T := TX6) (N := 12) hx hb ht inX6 hown hK hP 5 CW_5 rfl 8 (by decide) (ht (.fieldLink RX6 51 "CloneVolumes$Reader" "start" "I") fl_X6_51) (fun _ h9 => h9) rfl dX6_isName_52 ?_
      refine lv_bipush (v := 6) hx hb dX6_isName_55 (by decide) ?_
      refine lv_iadd hx hb dX6_isName_57 ?_
      obtain ⟨⟨r9, s8⟩, hc7, h⟩ := bn_e h
      refine ywV (r0 := r9) (As := [.int 1, .int ((gI s5 108) + 6)]) (rest := []) (C := RX6) (n := 2) (ws' := CS D a s8) ⟨hx, hb, hml, hown, ht⟩ (k_x6_fail l D a 1 ((gI s5 108) + 6) _ _ _ hc7) (zgV ml_X6_54 im_X6_fail se_X6_fail in_X6 co_X6_fail) rfl rfl (by decide +kernel) ⟨Nat.le_of_ble_eq_true rfl, Nat.le_of_ble_eq_true rfl⟩ hN hK hP (hDD _) hS hA 5 CW_5 rfl rfl rfl hl.1 rfl (Nat.le_of_ble_eq_true rfl) dX6_isName_58 ⟨Nat.le_of_ble_eq_true rfl, Nat.le_of_ble_eq_true rfl⟩ (fun H locs hP hS => ?_)
      refine lv_if_eq (tgt := 68) hx hb dX6_isName_61 (by decide) (fun c10 => ?_) (fun c10 => ?_)
      · have h := if_t c10 h
        refine lv_iconst (v := 0) hx hb dX6_isName_68 (by decide) ?_
        exact J69 (0, s8) _ _ _ ⟨hP, hS, lv_sub hl [] rfl, h⟩
      · have h := if_f c10 h
        exact J64 s8 _ _ _ ⟨hP, hS, lv_sub hl [] rfl, h⟩
  refine y_head (pcJ := 25) (σ := MS) (fun u H locs ls => va_P D vwCl (CS D a u) H ∧ va_S A s₀.heap H locs ∧ lv_has ls 1 [(0, .ref (a 5))] ∧ m_x6_isName_J25 u = some o) (fun u => []) (fun u H locs ls hI => ?_) (fun J25 => ?_)
  · obtain ⟨hP, hS, hl, h⟩ := hI
    obtain ⟨s11, rfl⟩ : ∃ z, z = u := ⟨u, rfl⟩
    have hP : va_P D vwCl (CS D a s11) H := hP
    have hl : lv_has ls 1 [(0, .ref (a 5))] := hl
    have h : m_x6_isName_J25 s11 = some o := h
    unfold m_x6_isName_J25 at h
    refine lv_aload_n hx hb dX6_isName_25 rfl (lv_at hl 0 rfl) ?_
    refine lv_iconst (v := 1) hx hb dX6_isName_26 (by decide) ?_
    refine lv_aload_n hx hb dX6_isName_27 rfl (lv_at hl 0 rfl) ?_
    refine va_get (D := D) (ci := 6) (v := .int (gI s11 108)) (C := RX6) (T := TX6) (N := 12) hx hb ht inX6 hown hK hP 5 CW_5 rfl 8 (by decide) (ht (.fieldLink RX6 51 "CloneVolumes$Reader" "start" "I") fl_X6_51) (fun _ h9 => h9) rfl dX6_isName_28 ?_
    obtain ⟨⟨r14, s13⟩, hc12, h⟩ := bn_e h
    refine ywV (r0 := r14) (As := [.int 1, .int (gI s11 108)]) (rest := []) (C := RX6) (n := 2) (ws' := CS D a s13) ⟨hx, hb, hml, hown, ht⟩ (k_x6_fail l D a 1 (gI s11 108) _ _ _ hc12) (zgV ml_X6_54 im_X6_fail se_X6_fail in_X6 co_X6_fail) rfl rfl (by decide +kernel) ⟨Nat.le_of_ble_eq_true rfl, Nat.le_of_ble_eq_true rfl⟩ hN hK hP (hDD _) hS hA 5 CW_5 rfl rfl rfl hl.1 rfl (Nat.le_of_ble_eq_true rfl) dX6_isName_31 ⟨Nat.le_of_ble_eq_true rfl, Nat.le_of_ble_eq_true rfl⟩ (fun H locs hP hS => ?_)
    obtain ⟨hb15, h⟩ := bo_e h
    obtain rfl := Option.some.inj h
    exact W.zret (v := r14) hx hb hr (bo_n hb15) (fun t ht hW => ⟨⟨_, (), rfl, rfl, by rw [ht]; exact hP, va_K.moved hW.alike hK, hDD _⟩, hS.F ht⟩) hS.2.2 dX6_isName_34
  refine lv_aload_n hx hb dX6_isName_0 rfl (lv_at hl 0 rfl) ?_
  refine va_get (D := D) (ci := 6) (v := .int (gI s 107)) (C := RX6) (T := TX6) (N := 12) hx hb ht inX6 hown hK hP 5 CW_5 rfl 7 (by decide) (ht (.fieldLink RX6 44 "CloneVolumes$Reader" "kind" "I") fl_X6_44) (fun _ h9 => h9) rfl dX6_isName_1 ?_
  refine lv_iconst (v := 1) hx hb dX6_isName_4 (by decide) ?_
  refine lv_icmp_ne (tgt := 25) hx hb dX6_isName_5 (by decide) (fun c16 => ?_) (fun c16 => ?_)
  · have h := if_f c16 h
    exact J25 s _ _ _ ⟨hP, hS, lv_sub hl [0] rfl, h⟩
  · have h := if_t c16 h
    refine lv_aload_n hx hb dX6_isName_8 rfl (lv_at hl 0 rfl) ?_
    refine va_get (D := D) (ci := 6) (v := .int (gI s 110)) (C := RX6) (T := TX6) (N := 12) hx hb ht inX6 hown hK hP 5 CW_5 rfl 10 (by decide) (ht (.fieldLink RX6 72 "CloneVolumes$Reader" "word" "I") fl_X6_72) (fun _ h9 => h9) rfl dX6_isName_9 ?_
    refine lv_iconst (v := (-1)) hx hb dX6_isName_12 (by decide) ?_
    refine lv_icmp_eq (tgt := 35) hx hb dX6_isName_13 (by decide) (fun c17 => ?_) (fun c17 => ?_)
    · have h := if_t c17 h
      exact J35 s _ _ _ ⟨hP, hS, lv_sub hl [0] rfl, h⟩
    · have h := if_f c17 h
      refine lv_aload_n hx hb dX6_isName_16 rfl (lv_at hl 0 rfl) ?_
      refine va_get (D := D) (ci := 6) (v := .int (gI s 110)) (C := RX6) (T := TX6) (N := 12) hx hb ht inX6 hown hK hP 5 CW_5 rfl 10 (by decide) (ht (.fieldLink RX6 72 "CloneVolumes$Reader" "word" "I") fl_X6_72) (fun _ h9 => h9) rfl dX6_isName_17 ?_
      refine lv_bipush (v := 27) hx hb dX6_isName_20 (by decide) ?_
      refine lv_icmp_ge (tgt := 35) hx hb dX6_isName_22 (by decide) (fun c18 => ?_) (fun c18 => ?_)
      · have h := if_t c18 h
        exact J35 s _ _ _ ⟨hP, hS, lv_sub hl [0] rfl, h⟩
      · have h := if_f c18 h
        exact J25 s _ _ _ ⟨hP, hS, lv_sub hl [0] rfl, h⟩
def m_x5_letterAt_J19 (s : MS) (x1 : Int32) : Option Int32 :=
  some x1
def m_x5_letterAt (p1 : Int32) (p2 : Int32) (s : MS) : Option Int32 :=
  if p2 ≤ p1 then m_x5_letterAt_J19 s 0 else bn (m_x9_at p1 s) (fun r4 => m_x5_letterAt_J19 s ((r4 - 97) + 1))
set_option maxHeartbeats 4000000 in
set_option maxRecDepth 100000 in
theorem k_x5_letterAt (l : Launch) (D : va_G) (a : Nat → Nat) (p1 : Int32) (p2 : Int32) (s : MS) (o : Int32) (h : m_x5_letterAt p1 p2 s = some o) : yRi l yX5_letterAt cX5_letterAt 3 (some .int) { frames := 1, cells := 0, slots := 0, locals := 60 } D [.ref (a 3), .int p1, .int p2] (CS D a s) o := by
  refine Met.ofW (cc := cX5_letterAt) (maxL := 3) (ret := (some .int)) (by decide) rfl ?_
  intro p e s₀ m args below meth c s₁ B hml hv
  obtain ⟨rfl, ⟨hP, hK⟩, hN⟩ := hv
  have hx := B.exec
  have hb := B.bytes
  have hr := B.returns
  have hts := atoms_spec (ws := wz yX5_letterAt cX5_letterAt 3 (some .int)) B.pre
  have ht : ∀ w ∈ lw_gd, w.before _ s₀ = true := fun w h => hts w (List.mem_cons_of_mem _ h)
  have hown : s₀.vm.findClass RX5 = some m.cls := findClass_of_methodNamed B.named
  have hlocks := B.notSynchronized
  have hS : va_S (fun _ => False) s₀.heap s₀.heap [] := va_S.rf
  have hl := lv_entry ([.ref (a 3), .int p1, .int p2]) (n := 3) (Nat.le_of_ble_eq_true rfl)
  rw [lg_entry_eq]
  generalize (lg_sl ([.ref (a 3), .int p1, .int p2]) ++ List.replicate (3 - (lg_sl ([.ref (a 3), .int p1, .int p2])).length) Slot.unset).toArray = ls at hl ⊢
  have hl : lv_has ls 3 [(0, .ref (a 3)), (1, .int p1), (2, .int p2)] := hl
  unfold m_x5_letterAt at h
  refine y_head (pcJ := 19) (σ := Int32) (fun u H locs ls => va_P D vwCl (CS D a s) H ∧ va_S (fun _ => False) s₀.heap H locs ∧ lv_has ls 3 [] ∧ m_x5_letterAt_J19 s u = some o) (fun u => [.int u]) (fun u H locs ls hI => ?_) (fun J19 => ?_)
  · obtain ⟨hP, hS, hl, h⟩ := hI
    obtain ⟨x1, rfl⟩ : ∃ z, z = u := ⟨u, rfl⟩
    have hP : va_P D vwCl (CS D a s) H := hP
    have hl : lv_has ls 3 [] := hl
    have h : m_x5_letterAt_J19 s x1 = some o := h
    unfold m_x5_letterAt_J19 at h
    obtain rfl := Option.some.inj h
    exact W.iret (v := x1) hx hb hr (fun t ht hW => ⟨⟨_, (), rfl, rfl, trivial⟩, hS.F ht⟩) hS.2.2 dX5_letterAt_19
  refine lv_iload_n hx hb dX5_letterAt_0 rfl (lv_at hl 1 rfl) ?_
  refine lv_iload_n hx hb dX5_letterAt_1 rfl (lv_at hl 2 rfl) ?_
  refine lv_icmp_ge (tgt := 18) hx hb dX5_letterAt_2 (by decide) (fun c2 => ?_) (fun c2 => ?_)
  · have h := if_t c2 h
    refine lv_iconst (v := 0) hx hb dX5_letterAt_18 (by decide) ?_
    exact J19 0 _ _ _ ⟨hP, hS, lv_sub hl [] rfl, h⟩
  · have h := if_f c2 h
    refine lv_aload_n hx hb dX5_letterAt_5 rfl (lv_at hl 0 rfl) ?_
    refine lv_iload_n hx hb dX5_letterAt_6 rfl (lv_at hl 1 rfl) ?_
    obtain ⟨r4, hc3, h⟩ := bn_e h
    refine ycV (As := [.int p1]) (rest := []) (C := RX9) (n := 1) ⟨hx, hb, hml, hown, ht⟩ (k_x9_at l D a p1 _ _ hc3) (zgV ml_X5_63 im_X9_at se_X9_at in_X9 co_X9_at) rfl rfl (by decide +kernel) ⟨Nat.le_of_ble_eq_true rfl, Nat.le_of_ble_eq_true rfl⟩ hN hK hP hS 3 CW_3 rfl rfl rfl hl.1 rfl (Nat.le_of_ble_eq_true rfl) dX5_letterAt_7 ⟨Nat.le_of_ble_eq_true rfl, Nat.le_of_ble_eq_true rfl⟩ (fun H locs hP hS => ?_)
    refine lv_bipush (v := 97) hx hb dX5_letterAt_10 (by decide) ?_
    refine lv_isub hx hb dX5_letterAt_12 ?_
    refine lv_iconst (v := 1) hx hb dX5_letterAt_13 (by decide) ?_
    refine lv_iadd hx hb dX5_letterAt_14 ?_
    refine lv_goto (tgt := 19) hx hb dX5_letterAt_15 (by decide) ?_
    exact J19 ((r4 - 97) + 1) _ _ _ ⟨hP, hS, lv_sub hl [] rfl, h⟩
def m_x5_volumeNamed_J60 (s : MS) (lr3 : Int32 → Int32 → Int32 → Option Int32) (lr18 : Int32 → Int32 → Int32 → Int32 → Int32 → Option Int32) (x9 : Int32) (x10 : Int32) (x11 : Int32) (x12 : Int32) (x13 : Int32) : Option Int32 :=
  lr18 x9 x10 x11 x13 (x12 + 1)
def m_x5_volumeNamed_J59 (s : MS) (lr3 : Int32 → Int32 → Int32 → Option Int32) (lr18 : Int32 → Int32 → Int32 → Int32 → Int32 → Option Int32) (x14 : Int32) (x15 : Int32) (x16 : Int32) (x17 : Int32) : Option Int32 :=
  m_x5_volumeNamed_J60 s lr3 lr18 x14 x15 x16 x17 0
def m_x5_volumeNamed_b18 (s : MS) (lr3 : Int32 → Int32 → Int32 → Option Int32) (lr18 : Int32 → Int32 → Int32 → Int32 → Int32 → Option Int32) (x4 : Int32) (x5 : Int32) (x6 : Int32) (x7 : Int32) (x8 : Int32) : Option Int32 :=
  if 6 ≤ x8 then if x7 = 0 then lr3 x4 x5 (x6 + 1) else some x6 else if x7 = 0 then m_x5_volumeNamed_J59 s lr3 lr18 x4 x5 x6 x8 else rdI (gA s 40) 48 ((x6 * 6) + x8) (fun y21 => bn (m_x5_letterAt (x4 + x8) x5 s) (fun r23 => if y21 = r23 then m_x5_volumeNamed_J60 s lr3 lr18 x4 x5 x6 x8 1 else m_x5_volumeNamed_J59 s lr3 lr18 x4 x5 x6 x8))
def m_x5_volumeNamed_L18 (s : MS) (lr3 : Int32 → Int32 → Int32 → Option Int32) (n : Nat) : Int32 → Int32 → Int32 → Int32 → Int32 → Option Int32 := lp (fun _ _ _ _ _ => none) (m_x5_volumeNamed_b18 s lr3) n
def m_x5_volumeNamed_b3 (s : MS) (lr3 : Int32 → Int32 → Int32 → Option Int32) (x1 : Int32) (x2 : Int32) (x3 : Int32) : Option Int32 :=
  if (gI s 784) ≤ x3 then some (-1) else m_x5_volumeNamed_L18 s lr3 FU x1 x2 x3 1 0
def m_x5_volumeNamed_L3 (s : MS) (n : Nat) : Int32 → Int32 → Int32 → Option Int32 := lp (fun _ _ _ => none) (m_x5_volumeNamed_b3 s) n
def m_x5_volumeNamed (p1 : Int32) (p2 : Int32) (s : MS) : Option Int32 :=
  m_x5_volumeNamed_L3 s FU p1 p2 0
set_option maxHeartbeats 4000000 in
set_option maxRecDepth 100000 in
theorem k_x5_volumeNamed (l : Launch) (D : va_G) (a : Nat → Nat) (p1 : Int32) (p2 : Int32) (s : MS) (o : Int32) (h : m_x5_volumeNamed p1 p2 s = some o) : yRi l yX5_volumeNamed cX5_volumeNamed 7 (some .int) { frames := 2, cells := 0, slots := 0, locals := 120 } D [.ref (a 39), .ref (a 3), .int p1, .int p2] (CS D a s) o := by
  refine Met.ofW (cc := cX5_volumeNamed) (maxL := 7) (ret := (some .int)) (by decide) rfl ?_
  intro p e s₀ m args below meth c s₁ B hml hv
  obtain ⟨rfl, ⟨hP, hK⟩, hN⟩ := hv
  have hx := B.exec
  have hb := B.bytes
  have hr := B.returns
  have hts := atoms_spec (ws := wz yX5_volumeNamed cX5_volumeNamed 7 (some .int)) B.pre
  have ht : ∀ w ∈ lw_gd, w.before _ s₀ = true := fun w h => hts w (List.mem_cons_of_mem _ h)
  have hown : s₀.vm.findClass RX5 = some m.cls := findClass_of_methodNamed B.named
  have hlocks := B.notSynchronized
  have hS : va_S (fun _ => False) s₀.heap s₀.heap [] := va_S.rf
  have hl := lv_entry ([.ref (a 39), .ref (a 3), .int p1, .int p2]) (n := 7) (Nat.le_of_ble_eq_true rfl)
  rw [lg_entry_eq]
  generalize (lg_sl ([.ref (a 39), .ref (a 3), .int p1, .int p2]) ++ List.replicate (7 - (lg_sl ([.ref (a 39), .ref (a 3), .int p1, .int p2])).length) Slot.unset).toArray = ls at hl ⊢
  have hl : lv_has ls 7 [(0, .ref (a 39)), (1, .ref (a 3)), (2, .int p1), (3, .int p2)] := hl
  unfold m_x5_volumeNamed at h
  refine y_loop (pcJ := 3) (σ := Int32 × Int32 × Int32) (fun n u H locs ls => va_P D vwCl (CS D a s) H ∧ va_S (fun _ => False) s₀.heap H locs ∧ lv_has ls 7 [(0, .ref (a 39)), (1, .ref (a 3)), (2, .int u.1), (3, .int u.2.1), (4, .int u.2.2)] ∧ m_x5_volumeNamed_L3 s n u.1 u.2.1 u.2.2 = some o) (fun u => []) (fun u H locs ls hI => by obtain ⟨_, _, _, h⟩ := hI; cases h) (fun n3 ih3 u H locs ls hI => ?_) (fun J3 => ?_)
  · obtain ⟨hP, hS, hl, h⟩ := hI
    obtain ⟨x1, x2, x3⟩ := u
    have hP : va_P D vwCl (CS D a s) H := hP
    have hl : lv_has ls 7 [(0, .ref (a 39)), (1, .ref (a 3)), (2, .int x1), (3, .int x2), (4, .int x3)] := hl
    have h : m_x5_volumeNamed_b3 s (m_x5_volumeNamed_L3 s n3) x1 x2 x3 = some o := h
    unfold m_x5_volumeNamed_b3 at h
    refine y_loop (pcJ := 18) (σ := Int32 × Int32 × Int32 × Int32 × Int32) (fun n u H locs ls => va_P D vwCl (CS D a s) H ∧ va_S (fun _ => False) s₀.heap H locs ∧ lv_has ls 7 [(0, .ref (a 39)), (1, .ref (a 3)), (2, .int u.1), (3, .int u.2.1), (4, .int u.2.2.1), (5, .int u.2.2.2.1), (6, .int u.2.2.2.2)] ∧ m_x5_volumeNamed_L18 s (m_x5_volumeNamed_L3 s n3) n u.1 u.2.1 u.2.2.1 u.2.2.2.1 u.2.2.2.2 = some o) (fun u => []) (fun u H locs ls hI => by obtain ⟨_, _, _, h⟩ := hI; cases h) (fun n18 ih18 u H locs ls hI => ?_) (fun J18 => ?_)
    · obtain ⟨hP, hS, hl, h⟩ := hI
      obtain ⟨x4, x5, x6, x7, x8⟩ := u
      have hP : va_P D vwCl (CS D a s) H := hP
      have hl : lv_has ls 7 [(0, .ref (a 39)), (1, .ref (a 3)), (2, .int x4), (3, .int x5), (4, .int x6), (5, .int x7), (6, .int x8)] := hl
      have h : m_x5_volumeNamed_b18 s (m_x5_volumeNamed_L3 s n3) (m_x5_volumeNamed_L18 s (m_x5_volumeNamed_L3 s n3) n18) x4 x5 x6 x7 x8 = some o := h
      unfold m_x5_volumeNamed_b18 at h
      refine y_head (pcJ := 60) (σ := Int32 × Int32 × Int32 × Int32 × Int32) (fun u H locs ls => va_P D vwCl (CS D a s) H ∧ va_S (fun _ => False) s₀.heap H locs ∧ lv_has ls 7 [(0, .ref (a 39)), (1, .ref (a 3)), (2, .int u.1), (3, .int u.2.1), (4, .int u.2.2.1), (6, .int u.2.2.2.1)] ∧ m_x5_volumeNamed_J60 s (m_x5_volumeNamed_L3 s n3) (m_x5_volumeNamed_L18 s (m_x5_volumeNamed_L3 s n3) n18) u.1 u.2.1 u.2.2.1 u.2.2.2.1 u.2.2.2.2 = some o) (fun u => [.int u.2.2.2.2]) (fun u H locs ls hI => ?_) (fun J60 => ?_)
      · obtain ⟨hP, hS, hl, h⟩ := hI
        obtain ⟨x9, x10, x11, x12, x13⟩ := u
        have hP : va_P D vwCl (CS D a s) H := hP
        have hl : lv_has ls 7 [(0, .ref (a 39)), (1, .ref (a 3)), (2, .int x9), (3, .int x10), (4, .int x11), (6, .int x12)] := hl
        have h : m_x5_volumeNamed_J60 s (m_x5_volumeNamed_L3 s n3) (m_x5_volumeNamed_L18 s (m_x5_volumeNamed_L3 s n3) n18) x9 x10 x11 x12 x13 = some o := h
        unfold m_x5_volumeNamed_J60 at h
        refine lv_istore (lv' := [(5, .int x13), (0, .ref (a 39)), (1, .ref (a 3)), (2, .int x9), (3, .int x10), (4, .int x11), (6, .int x12)]) hx hb dX5_volumeNamed_60 hl (by decide) rfl (fun ls hl => ?_)
        refine lv_iinc (v := x12 + 1) (lv' := [(6, .int (x12 + 1)), (5, .int x13), (0, .ref (a 39)), (1, .ref (a 3)), (2, .int x9), (3, .int x10), (4, .int x11)]) hx hb dX5_volumeNamed_62 hl (k := 6) rfl rfl (by decide) rfl (fun ls hl => ?_)
        refine lv_goto (tgt := 18) hx hb dX5_volumeNamed_65 (by decide) ?_
        exact ih18 (x9, x10, x11, x13, x12 + 1) _ _ _ ⟨hP, hS, lv_sub hl [2, 3, 4, 5, 6, 1, 0] rfl, h⟩
      refine y_head (pcJ := 59) (σ := Int32 × Int32 × Int32 × Int32) (fun u H locs ls => va_P D vwCl (CS D a s) H ∧ va_S (fun _ => False) s₀.heap H locs ∧ lv_has ls 7 [(0, .ref (a 39)), (1, .ref (a 3)), (2, .int u.1), (3, .int u.2.1), (4, .int u.2.2.1), (6, .int u.2.2.2)] ∧ m_x5_volumeNamed_J59 s (m_x5_volumeNamed_L3 s n3) (m_x5_volumeNamed_L18 s (m_x5_volumeNamed_L3 s n3) n18) u.1 u.2.1 u.2.2.1 u.2.2.2 = some o) (fun u => []) (fun u H locs ls hI => ?_) (fun J59 => ?_)
      · obtain ⟨hP, hS, hl, h⟩ := hI
        obtain ⟨x14, x15, x16, x17⟩ := u
        have hP : va_P D vwCl (CS D a s) H := hP
        have hl : lv_has ls 7 [(0, .ref (a 39)), (1, .ref (a 3)), (2, .int x14), (3, .int x15), (4, .int x16), (6, .int x17)] := hl
        have h : m_x5_volumeNamed_J59 s (m_x5_volumeNamed_L3 s n3) (m_x5_volumeNamed_L18 s (m_x5_volumeNamed_L3 s n3) n18) x14 x15 x16 x17 = some o := h
        unfold m_x5_volumeNamed_J59 at h
        refine lv_iconst (v := 0) hx hb dX5_volumeNamed_59 (by decide) ?_
        exact J60 (x14, x15, x16, x17, 0) _ _ _ ⟨hP, hS, lv_sub hl [0, 1, 2, 3, 4, 5] rfl, h⟩
      refine lv_iload hx hb dX5_volumeNamed_18 (lv_at hl 6 rfl) ?_
      refine lv_bipush (v := 6) hx hb dX5_volumeNamed_20 (by decide) ?_
      refine lv_icmp_ge (tgt := 68) hx hb dX5_volumeNamed_22 (by decide) (fun c18 => ?_) (fun c18 => ?_)
      · have h := if_t c18 h
        refine lv_iload hx hb dX5_volumeNamed_68 (lv_at hl 5 rfl) ?_
        refine lv_if_eq (tgt := 76) hx hb dX5_volumeNamed_70 (by decide) (fun c19 => ?_) (fun c19 => ?_)
        · have h := if_t c19 h
          refine lv_iinc (v := x6 + 1) (lv' := [(4, .int (x6 + 1)), (0, .ref (a 39)), (1, .ref (a 3)), (2, .int x4), (3, .int x5), (5, .int x7), (6, .int x8)]) hx hb dX5_volumeNamed_76 hl (k := 4) rfl rfl (by decide) rfl (fun ls hl => ?_)
          refine lv_goto (tgt := 3) hx hb dX5_volumeNamed_79 (by decide) ?_
          exact ih3 (x4, x5, x6 + 1) _ _ _ ⟨hP, hS, lv_sub hl [1, 2, 3, 4, 0] rfl, h⟩
        · have h := if_f c19 h
          refine lv_iload hx hb dX5_volumeNamed_73 (lv_at hl 4 rfl) ?_
          obtain rfl := Option.some.inj h
          exact W.iret (v := x6) hx hb hr (fun t ht hW => ⟨⟨_, (), rfl, rfl, trivial⟩, hS.F ht⟩) hS.2.2 dX5_volumeNamed_75
      · have h := if_f c18 h
        refine lv_iload hx hb dX5_volumeNamed_25 (lv_at hl 5 rfl) ?_
        refine lv_if_eq (tgt := 59) hx hb dX5_volumeNamed_27 (by decide) (fun c20 => ?_) (fun c20 => ?_)
        · have h := if_t c20 h
          exact J59 (x4, x5, x6, x8) _ _ _ ⟨hP, hS, lv_sub hl [0, 1, 2, 3, 4, 6] rfl, h⟩
        · have h := if_f c20 h
          refine lv_aload_n hx hb dX5_volumeNamed_30 rfl (lv_at hl 0 rfl) ?_
          refine va_get (D := D) (ci := 5) (v := .ref (a 40)) (C := RX5) (T := TX5) (N := 14) hx hb ht inX5 hown hK hP 39 CW_39 rfl 6 (by decide) (ht (.fieldLink RX5 9 "CloneVolumes$Plan" "names" "[I") fl_X5_9) (fun _ h9 => h9) rfl dX5_volumeNamed_31 ?_
          refine lv_iload hx hb dX5_volumeNamed_34 (lv_at hl 4 rfl) ?_
          refine lv_bipush (v := 6) hx hb dX5_volumeNamed_36 (by decide) ?_
          refine lv_imul hx hb dX5_volumeNamed_38 ?_
          refine lv_iload hx hb dX5_volumeNamed_39 (lv_at hl 6 rfl) ?_
          refine lv_iadd hx hb dX5_volumeNamed_41 ?_
          obtain ⟨y21, ey21, iy21, h⟩ := rdI_e h
          refine ya_iald hx hb hK hP 40 0 CW_40 rfl ey21 iy21 dX5_volumeNamed_42 ?_
          refine lv_aload_n hx hb dX5_volumeNamed_43 rfl (lv_at hl 1 rfl) ?_
          refine lv_iload_n hx hb dX5_volumeNamed_44 rfl (lv_at hl 2 rfl) ?_
          refine lv_iload hx hb dX5_volumeNamed_45 (lv_at hl 6 rfl) ?_
          refine lv_iadd hx hb dX5_volumeNamed_47 ?_
          refine lv_iload_n hx hb dX5_volumeNamed_48 rfl (lv_at hl 3 rfl) ?_
          obtain ⟨r23, hc22, h⟩ := bn_e h
          refine ycS (As := [.ref (a 3), .int (x4 + x8), .int x5]) (rest := [.int y21]) (n := 3) ⟨hx, hb, hml, hown, ht⟩ (k_x5_letterAt l D a (x4 + x8) x5 _ _ hc22) (zgT ml_X5_59 st_X5_letterAt in_X5 co_X5_letterAt) rfl rfl (by decide +kernel) ⟨Nat.le_of_ble_eq_true rfl, Nat.le_of_ble_eq_true rfl⟩ hN hK hP hS rfl hl.1 rfl (Nat.le_of_ble_eq_true rfl) dX5_volumeNamed_49 ⟨Nat.le_of_ble_eq_true rfl, Nat.le_of_ble_eq_true rfl⟩ (fun H locs hP hS => ?_)
          refine lv_icmp_ne (tgt := 59) hx hb dX5_volumeNamed_52 (by decide) (fun c24 => ?_) (fun c24 => ?_)
          · have h := if_f c24 h
            exact J59 (x4, x5, x6, x8) _ _ _ ⟨hP, hS, lv_sub hl [0, 1, 2, 3, 4, 6] rfl, h⟩
          · have h := if_t c24 h
            refine lv_iconst (v := 1) hx hb dX5_volumeNamed_55 (by decide) ?_
            refine lv_goto (tgt := 60) hx hb dX5_volumeNamed_56 (by decide) ?_
            exact J60 (x4, x5, x6, x8, 1) _ _ _ ⟨hP, hS, lv_sub hl [0, 1, 2, 3, 4, 6] rfl, h⟩
    refine lv_iload hx hb dX5_volumeNamed_3 (lv_at hl 4 rfl) ?_
    refine lv_aload_n hx hb dX5_volumeNamed_5 rfl (lv_at hl 0 rfl) ?_
    refine va_get (D := D) (ci := 5) (v := .int (gI s 784)) (C := RX5) (T := TX5) (N := 14) hx hb ht inX5 hown hK hP 39 CW_39 rfl 4 (by decide) (ht (.fieldLink RX5 47 "CloneVolumes$Plan" "volumes" "I") fl_X5_47) (fun _ h9 => h9) rfl dX5_volumeNamed_6 ?_
    refine lv_icmp_ge (tgt := 82) hx hb dX5_volumeNamed_9 (by decide) (fun c25 => ?_) (fun c25 => ?_)
    · have h := if_t c25 h
      refine lv_iconst (v := (-1)) hx hb dX5_volumeNamed_82 (by decide) ?_
      obtain rfl := Option.some.inj h
      exact W.iret (v := (-1)) hx hb hr (fun t ht hW => ⟨⟨_, (), rfl, rfl, trivial⟩, hS.F ht⟩) hS.2.2 dX5_volumeNamed_83
    · have h := if_f c25 h
      refine lv_iconst (v := 1) hx hb dX5_volumeNamed_12 (by decide) ?_
      refine lv_istore (lv' := [(5, .int 1), (0, .ref (a 39)), (1, .ref (a 3)), (2, .int x1), (3, .int x2), (4, .int x3)]) hx hb dX5_volumeNamed_13 hl (by decide) rfl (fun ls hl => ?_)
      refine lv_iconst (v := 0) hx hb dX5_volumeNamed_15 (by decide) ?_
      refine lv_istore (lv' := [(6, .int 0), (5, .int 1), (0, .ref (a 39)), (1, .ref (a 3)), (2, .int x1), (3, .int x2), (4, .int x3)]) hx hb dX5_volumeNamed_16 hl (by decide) rfl (fun ls hl => ?_)
      exact J18 FU (x1, x2, x3, 1, 0) _ _ _ ⟨hP, hS, lv_sub hl [2, 3, 4, 5, 6, 1, 0] rfl, h⟩
  refine lv_iconst (v := 0) hx hb dX5_volumeNamed_0 (by decide) ?_
  refine lv_istore (lv' := [(4, .int 0), (0, .ref (a 39)), (1, .ref (a 3)), (2, .int p1), (3, .int p2)]) hx hb dX5_volumeNamed_1 hl (by decide) rfl (fun ls hl => ?_)
  exact J3 FU (p1, p2, 0) _ _ _ ⟨hP, hS, lv_sub hl [1, 2, 3, 4, 0] rfl, h⟩
def m_x6_expectVolume_J41 (x1 : Int32) (s2 : MS) : Option (Int32 × MS) :=
  bn (m_x6_advance s2) (fun s4 => some (x1, s4))
def m_x6_expectVolume (s : MS) : Option (Int32 × MS) :=
  bn (m_x6_isName s) (fun qr7 => if qr7.1 = 0 then some ((-1), qr7.2) else bn (m_x5_volumeNamed (gI qr7.2 108) (gI qr7.2 109) qr7.2) (fun r10 => if r10 = (-1) then bn (m_x6_fail 3 (gI qr7.2 108) qr7.2) (fun qr14 => m_x6_expectVolume_J41 r10 qr14.2) else m_x6_expectVolume_J41 r10 qr7.2))
set_option maxHeartbeats 4000000 in
set_option maxRecDepth 100000 in
theorem k_x6_expectVolume (l : Launch) (D : va_G) (a : Nat → Nat) (sz : Nat) (s : MS) (o : (Int32 × MS)) (h : m_x6_expectVolume s = some o) : yWi l yX6_expectVolume cX6_expectVolume 3 (some .int) { frames := 3, cells := 0, slots := 0, locals := 180 } D sz [.ref (a 5), .ref (a 39)] (CS D a s) (CS D a o.2) o.1 := by
  refine Met.ofW (cc := cX6_expectVolume) (maxL := 3) (ret := (some .int)) (by decide) rfl ?_
  intro p e s₀ m args below meth c s₁ B hml hv
  obtain ⟨rfl, ⟨hsz, hP, hK, hD0⟩, hN⟩ := hv
  have hx := B.exec
  have hb := B.bytes
  have hr := B.returns
  have hts := atoms_spec (ws := wz yX6_expectVolume cX6_expectVolume 3 (some .int)) B.pre
  have ht : ∀ w ∈ lw_gd, w.before _ s₀ = true := fun w h => hts w (List.mem_cons_of_mem _ h)
  have hown : s₀.vm.findClass RX6 = some m.cls := findClass_of_methodNamed B.named
  have hlocks := B.notSynchronized
  subst hsz
  have hD := hD0.self (sz := s₀.heap.size)
  generalize hAe : va_A (CS D a s) s₀.heap.size = A at hD ⊢
  have hA : ∀ q : Nat, s₀.heap.size ≤ q → A q := fun q h => by rw [← hAe]; exact Or.inr h
  have hS : va_S A s₀.heap s₀.heap [] := va_S.rf
  have hDD : ∀ t : MS, va_D A (CS D a t) := fun t => CW_D t hD
  have hl := lv_entry ([.ref (a 5), .ref (a 39)]) (n := 3) (Nat.le_of_ble_eq_true rfl)
  rw [lg_entry_eq]
  generalize (lg_sl ([.ref (a 5), .ref (a 39)]) ++ List.replicate (3 - (lg_sl ([.ref (a 5), .ref (a 39)])).length) Slot.unset).toArray = ls at hl ⊢
  have hl : lv_has ls 3 [(0, .ref (a 5)), (1, .ref (a 39))] := hl
  unfold m_x6_expectVolume at h
  refine y_head (pcJ := 41) (σ := Int32 × MS) (fun u H locs ls => va_P D vwCl (CS D a u.2) H ∧ va_S A s₀.heap H locs ∧ lv_has ls 3 [(0, .ref (a 5)), (2, .int u.1)] ∧ m_x6_expectVolume_J41 u.1 u.2 = some o) (fun u => []) (fun u H locs ls hI => ?_) (fun J41 => ?_)
  · obtain ⟨hP, hS, hl, h⟩ := hI
    obtain ⟨x1, s2⟩ := u
    have hP : va_P D vwCl (CS D a s2) H := hP
    have hl : lv_has ls 3 [(0, .ref (a 5)), (2, .int x1)] := hl
    have h : m_x6_expectVolume_J41 x1 s2 = some o := h
    unfold m_x6_expectVolume_J41 at h
    refine lv_aload_n hx hb dX6_expectVolume_41 rfl (lv_at hl 0 rfl) ?_
    obtain ⟨s4, hc3, h⟩ := bn_e h
    refine ywVv (As := []) (rest := []) (C := RX6) (n := 0) (ws' := CS D a s4) ⟨hx, hb, hml, hown, ht⟩ (k_x6_advance l D a _ _ _ hc3) (zgV ml_X6_75 im_X6_advance se_X6_advance in_X6 co_X6_advance) rfl rfl (by decide +kernel) ⟨Nat.le_of_ble_eq_true rfl, Nat.le_of_ble_eq_true rfl⟩ hN hK hP (hDD _) hS hA 5 CW_5 rfl rfl rfl hl.1 rfl (Nat.le_of_ble_eq_true rfl) dX6_expectVolume_42 ⟨Nat.le_of_ble_eq_true rfl, Nat.le_of_ble_eq_true rfl⟩ (fun H locs hP hS => ?_)
    refine lv_iload_n hx hb dX6_expectVolume_45 rfl (lv_at hl 1 rfl) ?_
    obtain rfl := Option.some.inj h
    exact W.iret (v := x1) hx hb hr (fun t ht hW => ⟨⟨_, (), rfl, rfl, by rw [ht]; exact hP, va_K.moved hW.alike hK, hDD _⟩, hS.F ht⟩) hS.2.2 dX6_expectVolume_46
  refine lv_aload_n hx hb dX6_expectVolume_0 rfl (lv_at hl 0 rfl) ?_
  obtain ⟨⟨r7, s6⟩, hc5, h⟩ := bn_e h
  refine ywV (r0 := r7) (As := []) (rest := []) (C := RX6) (n := 0) (ws' := CS D a s6) ⟨hx, hb, hml, hown, ht⟩ (k_x6_isName l D a _ _ _ hc5) (zgV ml_X6_127 im_X6_isName se_X6_isName in_X6 co_X6_isName) rfl rfl (by decide +kernel) ⟨Nat.le_of_ble_eq_true rfl, Nat.le_of_ble_eq_true rfl⟩ hN hK hP (hDD _) hS hA 5 CW_5 rfl rfl rfl hl.1 rfl (Nat.le_of_ble_eq_true rfl) dX6_expectVolume_1 ⟨Nat.le_of_ble_eq_true rfl, Nat.le_of_ble_eq_true rfl⟩ (fun H locs hP hS => ?_)
  refine lv_if_ne (tgt := 9) hx hb dX6_expectVolume_4 (by decide) (fun c8 => ?_) (fun c8 => ?_)
  · have h := if_f c8 h
    refine lv_aload_n hx hb dX6_expectVolume_9 rfl (lv_at hl 1 rfl) ?_
    refine lv_aload_n hx hb dX6_expectVolume_10 rfl (lv_at hl 0 rfl) ?_
    refine va_get (D := D) (ci := 6) (v := .ref (a 3)) (C := RX6) (T := TX6) (N := 12) hx hb ht inX6 hown hK hP 5 CW_5 rfl 2 (by decide) (ht (.fieldLink RX6 27 "CloneVolumes$Reader" "tape" "LCloneVolumes$Tape;") fl_X6_27) (fun _ h9 => h9) rfl dX6_expectVolume_11 ?_
    refine lv_aload_n hx hb dX6_expectVolume_14 rfl (lv_at hl 0 rfl) ?_
    refine va_get (D := D) (ci := 6) (v := .int (gI s6 108)) (C := RX6) (T := TX6) (N := 12) hx hb ht inX6 hown hK hP 5 CW_5 rfl 8 (by decide) (ht (.fieldLink RX6 51 "CloneVolumes$Reader" "start" "I") fl_X6_51) (fun _ h9 => h9) rfl dX6_expectVolume_15 ?_
    refine lv_aload_n hx hb dX6_expectVolume_18 rfl (lv_at hl 0 rfl) ?_
    refine va_get (D := D) (ci := 6) (v := .int (gI s6 109)) (C := RX6) (T := TX6) (N := 12) hx hb ht inX6 hown hK hP 5 CW_5 rfl 9 (by decide) (ht (.fieldLink RX6 88 "CloneVolumes$Reader" "stop" "I") fl_X6_88) (fun _ h9 => h9) rfl dX6_expectVolume_19 ?_
    obtain ⟨r10, hc9, h⟩ := bn_e h
    refine ycV (As := [.ref (a 3), .int (gI s6 108), .int (gI s6 109)]) (rest := []) (C := RX5) (n := 3) ⟨hx, hb, hml, hown, ht⟩ (k_x5_volumeNamed l D a (gI s6 108) (gI s6 109) _ _ hc9) (zgV ml_X6_131 im_X5_volumeNamed se_X5_volumeNamed in_X5 co_X5_volumeNamed) rfl rfl (by decide +kernel) ⟨Nat.le_of_ble_eq_true rfl, Nat.le_of_ble_eq_true rfl⟩ hN hK hP hS 39 CW_39 rfl rfl rfl hl.1 rfl (Nat.le_of_ble_eq_true rfl) dX6_expectVolume_22 ⟨Nat.le_of_ble_eq_true rfl, Nat.le_of_ble_eq_true rfl⟩ (fun H locs hP hS => ?_)
    refine lv_istore_n (lv' := [(2, .int r10), (0, .ref (a 5)), (1, .ref (a 39))]) hx hb dX6_expectVolume_25 rfl hl (by decide) rfl (fun ls hl => ?_)
    refine lv_iload_n hx hb dX6_expectVolume_26 rfl (lv_at hl 0 rfl) ?_
    refine lv_iconst (v := (-1)) hx hb dX6_expectVolume_27 (by decide) ?_
    refine lv_icmp_ne (tgt := 41) hx hb dX6_expectVolume_28 (by decide) (fun c11 => ?_) (fun c11 => ?_)
    · have h := if_f c11 h
      exact J41 (r10, s6) _ _ _ ⟨hP, hS, lv_sub hl [1, 0] rfl, h⟩
    · have h := if_t c11 h
      refine lv_aload_n hx hb dX6_expectVolume_31 rfl (lv_at hl 1 rfl) ?_
      refine lv_iconst (v := 3) hx hb dX6_expectVolume_32 (by decide) ?_
      refine lv_aload_n hx hb dX6_expectVolume_33 rfl (lv_at hl 1 rfl) ?_
      refine va_get (D := D) (ci := 6) (v := .int (gI s6 108)) (C := RX6) (T := TX6) (N := 12) hx hb ht inX6 hown hK hP 5 CW_5 rfl 8 (by decide) (ht (.fieldLink RX6 51 "CloneVolumes$Reader" "start" "I") fl_X6_51) (fun _ h9 => h9) rfl dX6_expectVolume_34 ?_
      obtain ⟨⟨r14, s13⟩, hc12, h⟩ := bn_e h
      refine ywV (r0 := r14) (As := [.int 3, .int (gI s6 108)]) (rest := []) (C := RX6) (n := 2) (ws' := CS D a s13) ⟨hx, hb, hml, hown, ht⟩ (k_x6_fail l D a 3 (gI s6 108) _ _ _ hc12) (zgV ml_X6_54 im_X6_fail se_X6_fail in_X6 co_X6_fail) rfl rfl (by decide +kernel) ⟨Nat.le_of_ble_eq_true rfl, Nat.le_of_ble_eq_true rfl⟩ hN hK hP (hDD _) hS hA 5 CW_5 rfl rfl rfl hl.1 rfl (Nat.le_of_ble_eq_true rfl) dX6_expectVolume_37 ⟨Nat.le_of_ble_eq_true rfl, Nat.le_of_ble_eq_true rfl⟩ (fun H locs hP hS => ?_)
      refine lv_pop hx hb dX6_expectVolume_40 rfl ?_
      exact J41 (r10, s13) _ _ _ ⟨hP, hS, lv_sub hl [1, 0] rfl, h⟩
  · have h := if_t c8 h
    refine lv_iconst (v := (-1)) hx hb dX6_expectVolume_7 (by decide) ?_
    obtain rfl := Option.some.inj h
    exact W.iret (v := (-1)) hx hb hr (fun t ht hW => ⟨⟨_, (), rfl, rfl, by rw [ht]; exact hP, va_K.moved hW.alike hK, hDD _⟩, hS.F ht⟩) hS.2.2 dX6_expectVolume_8
def m_x6_readChange_J37 (x1 : Int32) (x2 : Int32) (x3 : Int32) (x4 : Int32) (s5 : MS) : Option MS :=
  bn (m_x5_addChange x1 x2 x3 x4 s5) (fun s7 => some s7)
def m_x6_readChange (p1 : Int32) (s : MS) : Option MS :=
  bn (m_x6_advance s) (fun s9 => bn (m_x6_expectVolume s9) (fun qr12 => bn (m_x6_expectNumber 0 999 qr12.2) (fun qr15 => if p1 = 5 then bn (m_x6_expectNumber 0 999 qr15.2) (fun qr19 => m_x6_readChange_J37 p1 qr12.1 qr15.1 qr19.1 qr19.2) else m_x6_readChange_J37 p1 qr12.1 qr15.1 0 qr15.2)))
set_option maxHeartbeats 4000000 in
set_option maxRecDepth 100000 in
theorem k_x6_readChange (l : Launch) (D : va_G) (a : Nat → Nat) (p1 : Int32) (sz : Nat) (s : MS) (o : MS) (h : m_x6_readChange p1 s = some o) : yWv l yX6_readChange cX6_readChange 6 none { frames := 4, cells := 0, slots := 0, locals := 240 } D sz [.ref (a 5), .ref (a 39), .int p1] (CS D a s) (CS D a o) := by
  refine Met.ofW (cc := cX6_readChange) (maxL := 6) (ret := none) (by decide) rfl ?_
  intro p e s₀ m args below meth c s₁ B hml hv
  obtain ⟨rfl, ⟨hsz, hP, hK, hD0⟩, hN⟩ := hv
  have hx := B.exec
  have hb := B.bytes
  have hr := B.returns
  have hts := atoms_spec (ws := wz yX6_readChange cX6_readChange 6 none) B.pre
  have ht : ∀ w ∈ lw_gd, w.before _ s₀ = true := fun w h => hts w (List.mem_cons_of_mem _ h)
  have hown : s₀.vm.findClass RX6 = some m.cls := findClass_of_methodNamed B.named
  have hlocks := B.notSynchronized
  subst hsz
  have hD := hD0.self (sz := s₀.heap.size)
  generalize hAe : va_A (CS D a s) s₀.heap.size = A at hD ⊢
  have hA : ∀ q : Nat, s₀.heap.size ≤ q → A q := fun q h => by rw [← hAe]; exact Or.inr h
  have hS : va_S A s₀.heap s₀.heap [] := va_S.rf
  have hDD : ∀ t : MS, va_D A (CS D a t) := fun t => CW_D t hD
  have hl := lv_entry ([.ref (a 5), .ref (a 39), .int p1]) (n := 6) (Nat.le_of_ble_eq_true rfl)
  rw [lg_entry_eq]
  generalize (lg_sl ([.ref (a 5), .ref (a 39), .int p1]) ++ List.replicate (6 - (lg_sl ([.ref (a 5), .ref (a 39), .int p1])).length) Slot.unset).toArray = ls at hl ⊢
  have hl : lv_has ls 6 [(0, .ref (a 5)), (1, .ref (a 39)), (2, .int p1)] := hl
  unfold m_x6_readChange at h
  refine y_head (pcJ := 37) (σ := Int32 × Int32 × Int32 × Int32 × MS) (fun u H locs ls => va_P D vwCl (CS D a u.2.2.2.2) H ∧ va_S A s₀.heap H locs ∧ lv_has ls 6 [(1, .ref (a 39)), (2, .int u.1), (3, .int u.2.1), (4, .int u.2.2.1)] ∧ m_x6_readChange_J37 u.1 u.2.1 u.2.2.1 u.2.2.2.1 u.2.2.2.2 = some o) (fun u => [.int u.2.2.2.1]) (fun u H locs ls hI => ?_) (fun J37 => ?_)
  · obtain ⟨hP, hS, hl, h⟩ := hI
    obtain ⟨x1, x2, x3, x4, s5⟩ := u
    have hP : va_P D vwCl (CS D a s5) H := hP
    have hl : lv_has ls 6 [(1, .ref (a 39)), (2, .int x1), (3, .int x2), (4, .int x3)] := hl
    have h : m_x6_readChange_J37 x1 x2 x3 x4 s5 = some o := h
    unfold m_x6_readChange_J37 at h
    refine lv_istore (lv' := [(5, .int x4), (1, .ref (a 39)), (2, .int x1), (3, .int x2), (4, .int x3)]) hx hb dX6_readChange_37 hl (by decide) rfl (fun ls hl => ?_)
    refine lv_aload_n hx hb dX6_readChange_39 rfl (lv_at hl 1 rfl) ?_
    refine lv_iload_n hx hb dX6_readChange_40 rfl (lv_at hl 2 rfl) ?_
    refine lv_iload_n hx hb dX6_readChange_41 rfl (lv_at hl 3 rfl) ?_
    refine lv_iload hx hb dX6_readChange_42 (lv_at hl 4 rfl) ?_
    refine lv_iload hx hb dX6_readChange_44 (lv_at hl 0 rfl) ?_
    obtain ⟨s7, hc6, h⟩ := bn_e h
    refine ywVv (As := [.int x1, .int x2, .int x3, .int x4]) (rest := []) (C := RX5) (n := 4) (ws' := CS D a s7) ⟨hx, hb, hml, hown, ht⟩ (k_x5_addChange l D a x1 x2 x3 x4 _ _ _ hc6) (zgV ml_X6_181 im_X5_addChange se_X5_addChange in_X5 co_X5_addChange) rfl rfl (by decide +kernel) ⟨Nat.le_of_ble_eq_true rfl, Nat.le_of_ble_eq_true rfl⟩ hN hK hP (hDD _) hS hA 39 CW_39 rfl rfl rfl hl.1 rfl (Nat.le_of_ble_eq_true rfl) dX6_readChange_46 ⟨Nat.le_of_ble_eq_true rfl, Nat.le_of_ble_eq_true rfl⟩ (fun H locs hP hS => ?_)
    obtain rfl := Option.some.inj h
    exact W.vret hx hb hr (fun t ht hW => ⟨⟨(), rfl, trivial, by rw [ht]; exact hP, va_K.moved hW.alike hK, hDD _⟩, hS.F ht⟩) hS.2.2 dX6_readChange_49
  refine lv_aload_n hx hb dX6_readChange_0 rfl (lv_at hl 0 rfl) ?_
  obtain ⟨s9, hc8, h⟩ := bn_e h
  refine ywVv (As := []) (rest := []) (C := RX6) (n := 0) (ws' := CS D a s9) ⟨hx, hb, hml, hown, ht⟩ (k_x6_advance l D a _ _ _ hc8) (zgV ml_X6_75 im_X6_advance se_X6_advance in_X6 co_X6_advance) rfl rfl (by decide +kernel) ⟨Nat.le_of_ble_eq_true rfl, Nat.le_of_ble_eq_true rfl⟩ hN hK hP (hDD _) hS hA 5 CW_5 rfl rfl rfl hl.1 rfl (Nat.le_of_ble_eq_true rfl) dX6_readChange_1 ⟨Nat.le_of_ble_eq_true rfl, Nat.le_of_ble_eq_true rfl⟩ (fun H locs hP hS => ?_)
  refine lv_aload_n hx hb dX6_readChange_4 rfl (lv_at hl 0 rfl) ?_
  refine lv_aload_n hx hb dX6_readChange_5 rfl (lv_at hl 1 rfl) ?_
  obtain ⟨⟨r12, s11⟩, hc10, h⟩ := bn_e h
  refine ywV (r0 := r12) (As := [.ref (a 39)]) (rest := []) (C := RX6) (n := 1) (ws' := CS D a s11) ⟨hx, hb, hml, hown, ht⟩ (k_x6_expectVolume l D a _ _ _ hc10) (zgV ml_X6_174 im_X6_expectVolume se_X6_expectVolume in_X6 co_X6_expectVolume) rfl rfl (by decide +kernel) ⟨Nat.le_of_ble_eq_true rfl, Nat.le_of_ble_eq_true rfl⟩ hN hK hP (hDD _) hS hA 5 CW_5 rfl rfl rfl hl.1 rfl (Nat.le_of_ble_eq_true rfl) dX6_readChange_6 ⟨Nat.le_of_ble_eq_true rfl, Nat.le_of_ble_eq_true rfl⟩ (fun H locs hP hS => ?_)
  refine lv_istore_n (lv' := [(3, .int r12), (0, .ref (a 5)), (1, .ref (a 39)), (2, .int p1)]) hx hb dX6_readChange_9 rfl hl (by decide) rfl (fun ls hl => ?_)
  refine lv_aload_n hx hb dX6_readChange_10 rfl (lv_at hl 1 rfl) ?_
  refine lv_iconst (v := 0) hx hb dX6_readChange_11 (by decide) ?_
  refine lv_sipush (v := 999) hx hb dX6_readChange_12 (by decide) ?_
  obtain ⟨⟨r15, s14⟩, hc13, h⟩ := bn_e h
  refine ywV (r0 := r15) (As := [.int 0, .int 999]) (rest := []) (C := RX6) (n := 2) (ws' := CS D a s14) ⟨hx, hb, hml, hown, ht⟩ (k_x6_expectNumber l D a 0 999 _ _ _ hc13) (zgV ml_X6_151 im_X6_expectNumber se_X6_expectNumber in_X6 co_X6_expectNumber) rfl rfl (by decide +kernel) ⟨Nat.le_of_ble_eq_true rfl, Nat.le_of_ble_eq_true rfl⟩ hN hK hP (hDD _) hS hA 5 CW_5 rfl rfl rfl hl.1 rfl (Nat.le_of_ble_eq_true rfl) dX6_readChange_15 ⟨Nat.le_of_ble_eq_true rfl, Nat.le_of_ble_eq_true rfl⟩ (fun H locs hP hS => ?_)
  refine lv_istore (lv' := [(4, .int r15), (3, .int r12), (0, .ref (a 5)), (1, .ref (a 39)), (2, .int p1)]) hx hb dX6_readChange_18 hl (by decide) rfl (fun ls hl => ?_)
  refine lv_iload_n hx hb dX6_readChange_20 rfl (lv_at hl 4 rfl) ?_
  refine lv_iconst (v := 5) hx hb dX6_readChange_21 (by decide) ?_
  refine lv_icmp_ne (tgt := 36) hx hb dX6_readChange_22 (by decide) (fun c16 => ?_) (fun c16 => ?_)
  · have h := if_f c16 h
    refine lv_iconst (v := 0) hx hb dX6_readChange_36 (by decide) ?_
    exact J37 (p1, r12, r15, 0, s14) _ _ _ ⟨hP, hS, lv_sub hl [3, 4, 1, 0] rfl, h⟩
  · have h := if_t c16 h
    refine lv_aload_n hx hb dX6_readChange_25 rfl (lv_at hl 2 rfl) ?_
    refine lv_iconst (v := 0) hx hb dX6_readChange_26 (by decide) ?_
    refine lv_sipush (v := 999) hx hb dX6_readChange_27 (by decide) ?_
    obtain ⟨⟨r19, s18⟩, hc17, h⟩ := bn_e h
    refine ywV (r0 := r19) (As := [.int 0, .int 999]) (rest := []) (C := RX6) (n := 2) (ws' := CS D a s18) ⟨hx, hb, hml, hown, ht⟩ (k_x6_expectNumber l D a 0 999 _ _ _ hc17) (zgV ml_X6_151 im_X6_expectNumber se_X6_expectNumber in_X6 co_X6_expectNumber) rfl rfl (by decide +kernel) ⟨Nat.le_of_ble_eq_true rfl, Nat.le_of_ble_eq_true rfl⟩ hN hK hP (hDD _) hS hA 5 CW_5 rfl rfl rfl hl.1 rfl (Nat.le_of_ble_eq_true rfl) dX6_readChange_30 ⟨Nat.le_of_ble_eq_true rfl, Nat.le_of_ble_eq_true rfl⟩ (fun H locs hP hS => ?_)
    refine lv_goto (tgt := 37) hx hb dX6_readChange_33 (by decide) ?_
    exact J37 (p1, r12, r15, r19, s18) _ _ _ ⟨hP, hS, lv_sub hl [3, 4, 1, 0] rfl, h⟩
def m_x5_addVolume_b14 (lr14 : Int32 → Int32 → Int32 → MS → Option (Int32 × MS)) (x1 : Int32) (x2 : Int32) (x3 : Int32) (s4 : MS) : Option (Int32 × MS) :=
  if 6 ≤ x3 then stn (sI s4 784 ((gI s4 784) + 1)) (fun s6 => some ((gI s6 784) - 1, s6)) else bn (m_x5_letterAt (x1 + x3) x2 s4) (fun r8 => inb 48 (((gI s4 784) * 6) + x3) (stn (sA s4 40 (upd (gA s4 40) (Int32.toNatClampNeg (((gI s4 784) * 6) + x3)) r8)) (fun s10 => lr14 x1 x2 (x3 + 1) s10)))
def m_x5_addVolume_L14 (n : Nat) : Int32 → Int32 → Int32 → MS → Option (Int32 × MS) := lp (fun _ _ _ _ => none) (m_x5_addVolume_b14) n
def m_x5_addVolume (p1 : Int32) (p2 : Int32) (s : MS) : Option (Int32 × MS) :=
  if (gI s 784) < 8 then m_x5_addVolume_L14 FU p1 p2 0 s else some ((-1), s)
set_option maxHeartbeats 4000000 in
set_option maxRecDepth 100000 in
theorem k_x5_addVolume (l : Launch) (D : va_G) (a : Nat → Nat) (p1 : Int32) (p2 : Int32) (sz : Nat) (s : MS) (o : (Int32 × MS)) (h : m_x5_addVolume p1 p2 s = some o) : yWi l yX5_addVolume cX5_addVolume 5 (some .int) { frames := 2, cells := 0, slots := 0, locals := 120 } D sz [.ref (a 39), .ref (a 3), .int p1, .int p2] (CS D a s) (CS D a o.2) o.1 := by
  refine Met.ofW (cc := cX5_addVolume) (maxL := 5) (ret := (some .int)) (by decide) rfl ?_
  intro p e s₀ m args below meth c s₁ B hml hv
  obtain ⟨rfl, ⟨hsz, hP, hK, hD0⟩, hN⟩ := hv
  have hx := B.exec
  have hb := B.bytes
  have hr := B.returns
  have hts := atoms_spec (ws := wz yX5_addVolume cX5_addVolume 5 (some .int)) B.pre
  have ht : ∀ w ∈ lw_gd, w.before _ s₀ = true := fun w h => hts w (List.mem_cons_of_mem _ h)
  have hown : s₀.vm.findClass RX5 = some m.cls := findClass_of_methodNamed B.named
  have hlocks := B.notSynchronized
  subst hsz
  have hD := hD0.self (sz := s₀.heap.size)
  generalize hAe : va_A (CS D a s) s₀.heap.size = A at hD ⊢
  have hA : ∀ q : Nat, s₀.heap.size ≤ q → A q := fun q h => by rw [← hAe]; exact Or.inr h
  have hS : va_S A s₀.heap s₀.heap [] := va_S.rf
  have hDD : ∀ t : MS, va_D A (CS D a t) := fun t => CW_D t hD
  have hl := lv_entry ([.ref (a 39), .ref (a 3), .int p1, .int p2]) (n := 5) (Nat.le_of_ble_eq_true rfl)
  rw [lg_entry_eq]
  generalize (lg_sl ([.ref (a 39), .ref (a 3), .int p1, .int p2]) ++ List.replicate (5 - (lg_sl ([.ref (a 39), .ref (a 3), .int p1, .int p2])).length) Slot.unset).toArray = ls at hl ⊢
  have hl : lv_has ls 5 [(0, .ref (a 39)), (1, .ref (a 3)), (2, .int p1), (3, .int p2)] := hl
  unfold m_x5_addVolume at h
  refine y_loop (pcJ := 14) (σ := Int32 × Int32 × Int32 × MS) (fun n u H locs ls => va_P D vwCl (CS D a u.2.2.2) H ∧ va_S A s₀.heap H locs ∧ lv_has ls 5 [(0, .ref (a 39)), (1, .ref (a 3)), (2, .int u.1), (3, .int u.2.1), (4, .int u.2.2.1)] ∧ m_x5_addVolume_L14 n u.1 u.2.1 u.2.2.1 u.2.2.2 = some o) (fun u => []) (fun u H locs ls hI => by obtain ⟨_, _, _, h⟩ := hI; cases h) (fun n14 ih14 u H locs ls hI => ?_) (fun J14 => ?_)
  · obtain ⟨hP, hS, hl, h⟩ := hI
    obtain ⟨x1, x2, x3, s4⟩ := u
    have hP : va_P D vwCl (CS D a s4) H := hP
    have hl : lv_has ls 5 [(0, .ref (a 39)), (1, .ref (a 3)), (2, .int x1), (3, .int x2), (4, .int x3)] := hl
    have h : m_x5_addVolume_b14 (m_x5_addVolume_L14 n14) x1 x2 x3 s4 = some o := h
    unfold m_x5_addVolume_b14 at h
    refine lv_iload hx hb dX5_addVolume_14 (lv_at hl 4 rfl) ?_
    refine lv_bipush (v := 6) hx hb dX5_addVolume_16 (by decide) ?_
    refine lv_icmp_ge (tgt := 51) hx hb dX5_addVolume_18 (by decide) (fun c5 => ?_) (fun c5 => ?_)
    · have h := if_t c5 h
      refine lv_aload_n hx hb dX5_addVolume_51 rfl (lv_at hl 0 rfl) ?_
      refine lv_dup hx hb dX5_addVolume_52 rfl ?_
      refine va_get (D := D) (ci := 5) (v := .int (gI s4 784)) (C := RX5) (T := TX5) (N := 14) hx hb ht inX5 hown hK hP 39 CW_39 rfl 4 (by decide) (ht (.fieldLink RX5 47 "CloneVolumes$Plan" "volumes" "I") fl_X5_47) (fun _ h9 => h9) rfl dX5_addVolume_53 ?_
      refine lv_iconst (v := 1) hx hb dX5_addVolume_56 (by decide) ?_
      refine lv_iadd hx hb dX5_addVolume_57 ?_
      refine ya_put (D := D) (ci := 5) (v := .int ((gI s4 784) + 1)) (ty := .int) (C := RX5) (T := TX5) (N := 14) hx hb ht inX5 tyX5 tyX5_ok nmX5 hown hK hP (hDD _) hS 39 CW_39 rfl 4 (by decide) (ht (.fieldLink RX5 47 "CloneVolumes$Plan" "volumes" "I") fl_X5_47) (fun _ h9 => h9) rfl (by decide +kernel) rfl rfl (Nat.le_of_ble_eq_true rfl) dX5_addVolume_58 (CW_w39_4 _) (fun H locs hP hS => ?_)
      obtain ⟨s6, hs6, h⟩ := st_e h
      rw [hs6] at hP
      refine lv_aload_n hx hb dX5_addVolume_61 rfl (lv_at hl 0 rfl) ?_
      refine va_get (D := D) (ci := 5) (v := .int (gI s6 784)) (C := RX5) (T := TX5) (N := 14) hx hb ht inX5 hown hK hP 39 CW_39 rfl 4 (by decide) (ht (.fieldLink RX5 47 "CloneVolumes$Plan" "volumes" "I") fl_X5_47) (fun _ h9 => h9) rfl dX5_addVolume_62 ?_
      refine lv_iconst (v := 1) hx hb dX5_addVolume_65 (by decide) ?_
      refine lv_isub hx hb dX5_addVolume_66 ?_
      obtain rfl := Option.some.inj h
      exact W.iret (v := (gI s6 784) - 1) hx hb hr (fun t ht hW => ⟨⟨_, (), rfl, rfl, by rw [ht]; exact hP, va_K.moved hW.alike hK, hDD _⟩, hS.F ht⟩) hS.2.2 dX5_addVolume_67
    · have h := if_f c5 h
      refine lv_aload_n hx hb dX5_addVolume_21 rfl (lv_at hl 0 rfl) ?_
      refine va_get (D := D) (ci := 5) (v := .ref (a 40)) (C := RX5) (T := TX5) (N := 14) hx hb ht inX5 hown hK hP 39 CW_39 rfl 6 (by decide) (ht (.fieldLink RX5 9 "CloneVolumes$Plan" "names" "[I") fl_X5_9) (fun _ h9 => h9) rfl dX5_addVolume_22 ?_
      refine lv_aload_n hx hb dX5_addVolume_25 rfl (lv_at hl 0 rfl) ?_
      refine va_get (D := D) (ci := 5) (v := .int (gI s4 784)) (C := RX5) (T := TX5) (N := 14) hx hb ht inX5 hown hK hP 39 CW_39 rfl 4 (by decide) (ht (.fieldLink RX5 47 "CloneVolumes$Plan" "volumes" "I") fl_X5_47) (fun _ h9 => h9) rfl dX5_addVolume_26 ?_
      refine lv_bipush (v := 6) hx hb dX5_addVolume_29 (by decide) ?_
      refine lv_imul hx hb dX5_addVolume_31 ?_
      refine lv_iload hx hb dX5_addVolume_32 (lv_at hl 4 rfl) ?_
      refine lv_iadd hx hb dX5_addVolume_34 ?_
      refine lv_aload_n hx hb dX5_addVolume_35 rfl (lv_at hl 1 rfl) ?_
      refine lv_iload_n hx hb dX5_addVolume_36 rfl (lv_at hl 2 rfl) ?_
      refine lv_iload hx hb dX5_addVolume_37 (lv_at hl 4 rfl) ?_
      refine lv_iadd hx hb dX5_addVolume_39 ?_
      refine lv_iload_n hx hb dX5_addVolume_40 rfl (lv_at hl 3 rfl) ?_
      obtain ⟨r8, hc7, h⟩ := bn_e h
      refine ycS (As := [.ref (a 3), .int (x1 + x3), .int x2]) (rest := [.int (((gI s4 784) * 6) + x3), .ref (a 40)]) (n := 3) ⟨hx, hb, hml, hown, ht⟩ (k_x5_letterAt l D a (x1 + x3) x2 _ _ hc7) (zgT ml_X5_59 st_X5_letterAt in_X5 co_X5_letterAt) rfl rfl (by decide +kernel) ⟨Nat.le_of_ble_eq_true rfl, Nat.le_of_ble_eq_true rfl⟩ hN hK hP hS rfl hl.1 rfl (Nat.le_of_ble_eq_true rfl) dX5_addVolume_41 ⟨Nat.le_of_ble_eq_true rfl, Nat.le_of_ble_eq_true rfl⟩ (fun H locs hP hS => ?_)
      obtain ⟨hi9, h⟩ := inb_e h
      refine ya_iast hx hb hK hP (hDD _) hS 40 0 CW_40 rfl hi9 dX5_addVolume_44 (CW_w40 _) (fun H locs hP hS => ?_)
      obtain ⟨s10, hs10, h⟩ := st_e h
      rw [hs10] at hP
      refine lv_iinc (v := x3 + 1) (lv' := [(4, .int (x3 + 1)), (0, .ref (a 39)), (1, .ref (a 3)), (2, .int x1), (3, .int x2)]) hx hb dX5_addVolume_45 hl (k := 4) rfl rfl (by decide) rfl (fun ls hl => ?_)
      refine lv_goto (tgt := 14) hx hb dX5_addVolume_48 (by decide) ?_
      exact ih14 (x1, x2, x3 + 1, s10) _ _ _ ⟨hP, hS, lv_sub hl [1, 2, 3, 4, 0] rfl, h⟩
  refine lv_aload_n hx hb dX5_addVolume_0 rfl (lv_at hl 0 rfl) ?_
  refine va_get (D := D) (ci := 5) (v := .int (gI s 784)) (C := RX5) (T := TX5) (N := 14) hx hb ht inX5 hown hK hP 39 CW_39 rfl 4 (by decide) (ht (.fieldLink RX5 47 "CloneVolumes$Plan" "volumes" "I") fl_X5_47) (fun _ h9 => h9) rfl dX5_addVolume_1 ?_
  refine lv_bipush (v := 8) hx hb dX5_addVolume_4 (by decide) ?_
  refine lv_icmp_lt (tgt := 11) hx hb dX5_addVolume_6 (by decide) (fun c11 => ?_) (fun c11 => ?_)
  · have h := if_t c11 h
    refine lv_iconst (v := 0) hx hb dX5_addVolume_11 (by decide) ?_
    refine lv_istore (lv' := [(4, .int 0), (0, .ref (a 39)), (1, .ref (a 3)), (2, .int p1), (3, .int p2)]) hx hb dX5_addVolume_12 hl (by decide) rfl (fun ls hl => ?_)
    exact J14 FU (p1, p2, 0, s) _ _ _ ⟨hP, hS, lv_sub hl [1, 2, 3, 4, 0] rfl, h⟩
  · have h := if_f c11 h
    refine lv_iconst (v := (-1)) hx hb dX5_addVolume_9 (by decide) ?_
    obtain rfl := Option.some.inj h
    exact W.iret (v := (-1)) hx hb hr (fun t ht hW => ⟨⟨_, (), rfl, rfl, by rw [ht]; exact hP, va_K.moved hW.alike hK, hDD _⟩, hS.F ht⟩) hS.2.2 dX5_addVolume_10
def m_x6_expectWord_J25 (s1 : MS) : Option MS :=
  some s1
def m_x6_expectWord (p0 : Int32) (s : MS) : Option MS :=
  bn (m_x6_isWord p0 s) (fun r3 => if r3 = 0 then bn (m_x6_fail 1 (gI s 108) s) (fun qr7 => m_x6_expectWord_J25 qr7.2) else bn (m_x6_advance s) (fun s9 => m_x6_expectWord_J25 s9))
set_option maxHeartbeats 4000000 in
set_option maxRecDepth 100000 in
theorem k_x6_expectWord (l : Launch) (D : va_G) (a : Nat → Nat) (p0 : Int32) (sz : Nat) (s : MS) (o : MS) (h : m_x6_expectWord p0 s = some o) : yWv l yX6_expectWord cX6_expectWord 2 none { frames := 2, cells := 0, slots := 0, locals := 120 } D sz [.ref (a 5), .int p0] (CS D a s) (CS D a o) := by
  refine Met.ofW (cc := cX6_expectWord) (maxL := 2) (ret := none) (by decide) rfl ?_
  intro p e s₀ m args below meth c s₁ B hml hv
  obtain ⟨rfl, ⟨hsz, hP, hK, hD0⟩, hN⟩ := hv
  have hx := B.exec
  have hb := B.bytes
  have hr := B.returns
  have hts := atoms_spec (ws := wz yX6_expectWord cX6_expectWord 2 none) B.pre
  have ht : ∀ w ∈ lw_gd, w.before _ s₀ = true := fun w h => hts w (List.mem_cons_of_mem _ h)
  have hown : s₀.vm.findClass RX6 = some m.cls := findClass_of_methodNamed B.named
  have hlocks := B.notSynchronized
  subst hsz
  have hD := hD0.self (sz := s₀.heap.size)
  generalize hAe : va_A (CS D a s) s₀.heap.size = A at hD ⊢
  have hA : ∀ q : Nat, s₀.heap.size ≤ q → A q := fun q h => by rw [← hAe]; exact Or.inr h
  have hS : va_S A s₀.heap s₀.heap [] := va_S.rf
  have hDD : ∀ t : MS, va_D A (CS D a t) := fun t => CW_D t hD
  have hl := lv_entry ([.ref (a 5), .int p0]) (n := 2) (Nat.le_of_ble_eq_true rfl)
  rw [lg_entry_eq]
  generalize (lg_sl ([.ref (a 5), .int p0]) ++ List.replicate (2 - (lg_sl ([.ref (a 5), .int p0])).length) Slot.unset).toArray = ls at hl ⊢
  have hl : lv_has ls 2 [(0, .ref (a 5)), (1, .int p0)] := hl
  unfold m_x6_expectWord at h
  refine y_head (pcJ := 25) (σ := MS) (fun u H locs ls => va_P D vwCl (CS D a u) H ∧ va_S A s₀.heap H locs ∧ lv_has ls 2 [] ∧ m_x6_expectWord_J25 u = some o) (fun u => []) (fun u H locs ls hI => ?_) (fun J25 => ?_)
  · obtain ⟨hP, hS, hl, h⟩ := hI
    obtain ⟨s1, rfl⟩ : ∃ z, z = u := ⟨u, rfl⟩
    have hP : va_P D vwCl (CS D a s1) H := hP
    have hl : lv_has ls 2 [] := hl
    have h : m_x6_expectWord_J25 s1 = some o := h
    unfold m_x6_expectWord_J25 at h
    obtain rfl := Option.some.inj h
    exact W.vret hx hb hr (fun t ht hW => ⟨⟨(), rfl, trivial, by rw [ht]; exact hP, va_K.moved hW.alike hK, hDD _⟩, hS.F ht⟩) hS.2.2 dX6_expectWord_25
  refine lv_aload_n hx hb dX6_expectWord_0 rfl (lv_at hl 0 rfl) ?_
  refine lv_iload_n hx hb dX6_expectWord_1 rfl (lv_at hl 1 rfl) ?_
  obtain ⟨r3, hc2, h⟩ := bn_e h
  refine ycV (As := [.int p0]) (rest := []) (C := RX6) (n := 1) ⟨hx, hb, hml, hown, ht⟩ (k_x6_isWord l D a p0 _ _ hc2) (zgV ml_X6_121 im_X6_isWord se_X6_isWord in_X6 co_X6_isWord) rfl rfl (by decide +kernel) ⟨Nat.le_of_ble_eq_true rfl, Nat.le_of_ble_eq_true rfl⟩ hN hK hP hS 5 CW_5 rfl rfl rfl hl.1 rfl (Nat.le_of_ble_eq_true rfl) dX6_expectWord_2 ⟨Nat.le_of_ble_eq_true rfl, Nat.le_of_ble_eq_true rfl⟩ (fun H locs hP hS => ?_)
  refine lv_if_eq (tgt := 15) hx hb dX6_expectWord_5 (by decide) (fun c4 => ?_) (fun c4 => ?_)
  · have h := if_t c4 h
    refine lv_aload_n hx hb dX6_expectWord_15 rfl (lv_at hl 0 rfl) ?_
    refine lv_iconst (v := 1) hx hb dX6_expectWord_16 (by decide) ?_
    refine lv_aload_n hx hb dX6_expectWord_17 rfl (lv_at hl 0 rfl) ?_
    refine va_get (D := D) (ci := 6) (v := .int (gI s 108)) (C := RX6) (T := TX6) (N := 12) hx hb ht inX6 hown hK hP 5 CW_5 rfl 8 (by decide) (ht (.fieldLink RX6 51 "CloneVolumes$Reader" "start" "I") fl_X6_51) (fun _ h9 => h9) rfl dX6_expectWord_18 ?_
    obtain ⟨⟨r7, s6⟩, hc5, h⟩ := bn_e h
    refine ywV (r0 := r7) (As := [.int 1, .int (gI s 108)]) (rest := []) (C := RX6) (n := 2) (ws' := CS D a s6) ⟨hx, hb, hml, hown, ht⟩ (k_x6_fail l D a 1 (gI s 108) _ _ _ hc5) (zgV ml_X6_54 im_X6_fail se_X6_fail in_X6 co_X6_fail) rfl rfl (by decide +kernel) ⟨Nat.le_of_ble_eq_true rfl, Nat.le_of_ble_eq_true rfl⟩ hN hK hP (hDD _) hS hA 5 CW_5 rfl rfl rfl hl.1 rfl (Nat.le_of_ble_eq_true rfl) dX6_expectWord_21 ⟨Nat.le_of_ble_eq_true rfl, Nat.le_of_ble_eq_true rfl⟩ (fun H locs hP hS => ?_)
    refine lv_pop hx hb dX6_expectWord_24 rfl ?_
    exact J25 s6 _ _ _ ⟨hP, hS, lv_sub hl [] rfl, h⟩
  · have h := if_f c4 h
    refine lv_aload_n hx hb dX6_expectWord_8 rfl (lv_at hl 0 rfl) ?_
    obtain ⟨s9, hc8, h⟩ := bn_e h
    refine ywVv (As := []) (rest := []) (C := RX6) (n := 0) (ws' := CS D a s9) ⟨hx, hb, hml, hown, ht⟩ (k_x6_advance l D a _ _ _ hc8) (zgV ml_X6_75 im_X6_advance se_X6_advance in_X6 co_X6_advance) rfl rfl (by decide +kernel) ⟨Nat.le_of_ble_eq_true rfl, Nat.le_of_ble_eq_true rfl⟩ hN hK hP (hDD _) hS hA 5 CW_5 rfl rfl rfl hl.1 rfl (Nat.le_of_ble_eq_true rfl) dX6_expectWord_9 ⟨Nat.le_of_ble_eq_true rfl, Nat.le_of_ble_eq_true rfl⟩ (fun H locs hP hS => ?_)
    refine lv_goto (tgt := 25) hx hb dX6_expectWord_12 (by decide) ?_
    exact J25 s9 _ _ _ ⟨hP, hS, lv_sub hl [] rfl, h⟩
def m_x6_readVolume_J96 (x1 : Int32) (x2 : Int32) (x3 : Int32) (x4 : Int32) (s5 : MS) : Option MS :=
  bn (m_x5_addVolume x2 x3 s5) (fun qr8 => bn (m_x5_addChange x1 qr8.1 x4 0 qr8.2) (fun s10 => some s10))
def m_x6_readVolume_J61 (x11 : Int32) (s12 : MS) : Option MS :=
  bn (m_x6_advance s12) (fun s14 => if x11 = 3 then bn (m_x6_expectWord 4 s14) (fun s17 => bn (m_x6_expectVolume s17) (fun qr20 => m_x6_readVolume_J96 x11 (gI s12 108) (gI s12 109) qr20.1 qr20.2)) else m_x6_readVolume_J96 x11 (gI s12 108) (gI s12 109) (-1) s14)
def m_x6_readVolume_J19 (x21 : Int32) (s22 : MS) : Option MS :=
  bn (m_x6_advance s22) (fun s24 => bn (m_x6_isName s24) (fun qr27 => if qr27.1 = 0 then some qr27.2 else bn (m_x5_volumeNamed (gI qr27.2 108) (gI qr27.2 109) qr27.2) (fun r30 => if r30 = (-1) then m_x6_readVolume_J61 x21 qr27.2 else bn (m_x6_fail 3 (gI qr27.2 108) qr27.2) (fun qr34 => m_x6_readVolume_J61 x21 qr34.2))))
def m_x6_readVolume (p1 : Int32) (s : MS) : Option MS :=
  if (gI s 784) = 8 then bn (m_x6_fail 5 (gI s 108) s) (fun qr38 => m_x6_readVolume_J19 p1 qr38.2) else m_x6_readVolume_J19 p1 s
set_option maxHeartbeats 4000000 in
set_option maxRecDepth 100000 in
theorem k_x6_readVolume (l : Launch) (D : va_G) (a : Nat → Nat) (p1 : Int32) (sz : Nat) (s : MS) (o : MS) (h : m_x6_readVolume p1 s = some o) : yWv l yX6_readVolume cX6_readVolume 6 none { frames := 4, cells := 0, slots := 0, locals := 240 } D sz [.ref (a 5), .ref (a 39), .int p1] (CS D a s) (CS D a o) := by
  refine Met.ofW (cc := cX6_readVolume) (maxL := 6) (ret := none) (by decide) rfl ?_
  intro p e s₀ m args below meth c s₁ B hml hv
  obtain ⟨rfl, ⟨hsz, hP, hK, hD0⟩, hN⟩ := hv
  have hx := B.exec
  have hb := B.bytes
  have hr := B.returns
  have hts := atoms_spec (ws := wz yX6_readVolume cX6_readVolume 6 none) B.pre
  have ht : ∀ w ∈ lw_gd, w.before _ s₀ = true := fun w h => hts w (List.mem_cons_of_mem _ h)
  have hown : s₀.vm.findClass RX6 = some m.cls := findClass_of_methodNamed B.named
  have hlocks := B.notSynchronized
  subst hsz
  have hD := hD0.self (sz := s₀.heap.size)
  generalize hAe : va_A (CS D a s) s₀.heap.size = A at hD ⊢
  have hA : ∀ q : Nat, s₀.heap.size ≤ q → A q := fun q h => by rw [← hAe]; exact Or.inr h
  have hS : va_S A s₀.heap s₀.heap [] := va_S.rf
  have hDD : ∀ t : MS, va_D A (CS D a t) := fun t => CW_D t hD
  have hl := lv_entry ([.ref (a 5), .ref (a 39), .int p1]) (n := 6) (Nat.le_of_ble_eq_true rfl)
  rw [lg_entry_eq]
  generalize (lg_sl ([.ref (a 5), .ref (a 39), .int p1]) ++ List.replicate (6 - (lg_sl ([.ref (a 5), .ref (a 39), .int p1])).length) Slot.unset).toArray = ls at hl ⊢
  have hl : lv_has ls 6 [(0, .ref (a 5)), (1, .ref (a 39)), (2, .int p1)] := hl
  unfold m_x6_readVolume at h
  refine y_head (pcJ := 96) (σ := Int32 × Int32 × Int32 × Int32 × MS) (fun u H locs ls => va_P D vwCl (CS D a u.2.2.2.2) H ∧ va_S A s₀.heap H locs ∧ lv_has ls 6 [(0, .ref (a 5)), (1, .ref (a 39)), (2, .int u.1), (3, .int u.2.1), (4, .int u.2.2.1), (5, .int u.2.2.2.1)] ∧ m_x6_readVolume_J96 u.1 u.2.1 u.2.2.1 u.2.2.2.1 u.2.2.2.2 = some o) (fun u => []) (fun u H locs ls hI => ?_) (fun J96 => ?_)
  · obtain ⟨hP, hS, hl, h⟩ := hI
    obtain ⟨x1, x2, x3, x4, s5⟩ := u
    have hP : va_P D vwCl (CS D a s5) H := hP
    have hl : lv_has ls 6 [(0, .ref (a 5)), (1, .ref (a 39)), (2, .int x1), (3, .int x2), (4, .int x3), (5, .int x4)] := hl
    have h : m_x6_readVolume_J96 x1 x2 x3 x4 s5 = some o := h
    unfold m_x6_readVolume_J96 at h
    refine lv_aload_n hx hb dX6_readVolume_96 rfl (lv_at hl 1 rfl) ?_
    refine lv_iload_n hx hb dX6_readVolume_97 rfl (lv_at hl 2 rfl) ?_
    refine lv_aload_n hx hb dX6_readVolume_98 rfl (lv_at hl 1 rfl) ?_
    refine lv_aload_n hx hb dX6_readVolume_99 rfl (lv_at hl 0 rfl) ?_
    refine va_get (D := D) (ci := 6) (v := .ref (a 3)) (C := RX6) (T := TX6) (N := 12) hx hb ht inX6 hown hK hP 5 CW_5 rfl 2 (by decide) (ht (.fieldLink RX6 27 "CloneVolumes$Reader" "tape" "LCloneVolumes$Tape;") fl_X6_27) (fun _ h9 => h9) rfl dX6_readVolume_100 ?_
    refine lv_iload_n hx hb dX6_readVolume_103 rfl (lv_at hl 3 rfl) ?_
    refine lv_iload hx hb dX6_readVolume_104 (lv_at hl 4 rfl) ?_
    obtain ⟨⟨r8, s7⟩, hc6, h⟩ := bn_e h
    refine ywV (r0 := r8) (As := [.ref (a 3), .int x2, .int x3]) (rest := [.int x1, .ref (a 39)]) (C := RX5) (n := 3) (ws' := CS D a s7) ⟨hx, hb, hml, hown, ht⟩ (k_x5_addVolume l D a x2 x3 _ _ _ hc6) (zgV ml_X6_178 im_X5_addVolume se_X5_addVolume in_X5 co_X5_addVolume) rfl rfl (by decide +kernel) ⟨Nat.le_of_ble_eq_true rfl, Nat.le_of_ble_eq_true rfl⟩ hN hK hP (hDD _) hS hA 39 CW_39 rfl rfl rfl hl.1 rfl (Nat.le_of_ble_eq_true rfl) dX6_readVolume_106 ⟨Nat.le_of_ble_eq_true rfl, Nat.le_of_ble_eq_true rfl⟩ (fun H locs hP hS => ?_)
    refine lv_iload hx hb dX6_readVolume_109 (lv_at hl 5 rfl) ?_
    refine lv_iconst (v := 0) hx hb dX6_readVolume_111 (by decide) ?_
    obtain ⟨s10, hc9, h⟩ := bn_e h
    refine ywVv (As := [.int x1, .int r8, .int x4, .int 0]) (rest := []) (C := RX5) (n := 4) (ws' := CS D a s10) ⟨hx, hb, hml, hown, ht⟩ (k_x5_addChange l D a x1 r8 x4 0 _ _ _ hc9) (zgV ml_X6_181 im_X5_addChange se_X5_addChange in_X5 co_X5_addChange) rfl rfl (by decide +kernel) ⟨Nat.le_of_ble_eq_true rfl, Nat.le_of_ble_eq_true rfl⟩ hN hK hP (hDD _) hS hA 39 CW_39 rfl rfl rfl hl.1 rfl (Nat.le_of_ble_eq_true rfl) dX6_readVolume_112 ⟨Nat.le_of_ble_eq_true rfl, Nat.le_of_ble_eq_true rfl⟩ (fun H locs hP hS => ?_)
    obtain rfl := Option.some.inj h
    exact W.vret hx hb hr (fun t ht hW => ⟨⟨(), rfl, trivial, by rw [ht]; exact hP, va_K.moved hW.alike hK, hDD _⟩, hS.F ht⟩) hS.2.2 dX6_readVolume_115
  refine y_head (pcJ := 61) (σ := Int32 × MS) (fun u H locs ls => va_P D vwCl (CS D a u.2) H ∧ va_S A s₀.heap H locs ∧ lv_has ls 6 [(0, .ref (a 5)), (1, .ref (a 39)), (2, .int u.1)] ∧ m_x6_readVolume_J61 u.1 u.2 = some o) (fun u => []) (fun u H locs ls hI => ?_) (fun J61 => ?_)
  · obtain ⟨hP, hS, hl, h⟩ := hI
    obtain ⟨x11, s12⟩ := u
    have hP : va_P D vwCl (CS D a s12) H := hP
    have hl : lv_has ls 6 [(0, .ref (a 5)), (1, .ref (a 39)), (2, .int x11)] := hl
    have h : m_x6_readVolume_J61 x11 s12 = some o := h
    unfold m_x6_readVolume_J61 at h
    refine lv_aload_n hx hb dX6_readVolume_61 rfl (lv_at hl 0 rfl) ?_
    refine va_get (D := D) (ci := 6) (v := .int (gI s12 108)) (C := RX6) (T := TX6) (N := 12) hx hb ht inX6 hown hK hP 5 CW_5 rfl 8 (by decide) (ht (.fieldLink RX6 51 "CloneVolumes$Reader" "start" "I") fl_X6_51) (fun _ h9 => h9) rfl dX6_readVolume_62 ?_
    refine lv_istore_n (lv' := [(3, .int (gI s12 108)), (0, .ref (a 5)), (1, .ref (a 39)), (2, .int x11)]) hx hb dX6_readVolume_65 rfl hl (by decide) rfl (fun ls hl => ?_)
    refine lv_aload_n hx hb dX6_readVolume_66 rfl (lv_at hl 1 rfl) ?_
    refine va_get (D := D) (ci := 6) (v := .int (gI s12 109)) (C := RX6) (T := TX6) (N := 12) hx hb ht inX6 hown hK hP 5 CW_5 rfl 9 (by decide) (ht (.fieldLink RX6 88 "CloneVolumes$Reader" "stop" "I") fl_X6_88) (fun _ h9 => h9) rfl dX6_readVolume_67 ?_
    refine lv_istore (lv' := [(4, .int (gI s12 109)), (3, .int (gI s12 108)), (0, .ref (a 5)), (1, .ref (a 39)), (2, .int x11)]) hx hb dX6_readVolume_70 hl (by decide) rfl (fun ls hl => ?_)
    refine lv_iconst (v := (-1)) hx hb dX6_readVolume_72 (by decide) ?_
    refine lv_istore (lv' := [(5, .int (-1)), (4, .int (gI s12 109)), (3, .int (gI s12 108)), (0, .ref (a 5)), (1, .ref (a 39)), (2, .int x11)]) hx hb dX6_readVolume_73 hl (by decide) rfl (fun ls hl => ?_)
    refine lv_aload_n hx hb dX6_readVolume_75 rfl (lv_at hl 3 rfl) ?_
    obtain ⟨s14, hc13, h⟩ := bn_e h
    refine ywVv (As := []) (rest := []) (C := RX6) (n := 0) (ws' := CS D a s14) ⟨hx, hb, hml, hown, ht⟩ (k_x6_advance l D a _ _ _ hc13) (zgV ml_X6_75 im_X6_advance se_X6_advance in_X6 co_X6_advance) rfl rfl (by decide +kernel) ⟨Nat.le_of_ble_eq_true rfl, Nat.le_of_ble_eq_true rfl⟩ hN hK hP (hDD _) hS hA 5 CW_5 rfl rfl rfl hl.1 rfl (Nat.le_of_ble_eq_true rfl) dX6_readVolume_76 ⟨Nat.le_of_ble_eq_true rfl, Nat.le_of_ble_eq_true rfl⟩ (fun H locs hP hS => ?_)
    refine lv_iload_n hx hb dX6_readVolume_79 rfl (lv_at hl 5 rfl) ?_
    refine lv_iconst (v := 3) hx hb dX6_readVolume_80 (by decide) ?_
    refine lv_icmp_ne (tgt := 96) hx hb dX6_readVolume_81 (by decide) (fun c15 => ?_) (fun c15 => ?_)
    · have h := if_f c15 h
      exact J96 (x11, gI s12 108, gI s12 109, (-1), s14) _ _ _ ⟨hP, hS, lv_sub hl [3, 4, 5, 2, 1, 0] rfl, h⟩
    · have h := if_t c15 h
      refine lv_aload_n hx hb dX6_readVolume_84 rfl (lv_at hl 3 rfl) ?_
      refine lv_iconst (v := 4) hx hb dX6_readVolume_85 (by decide) ?_
      obtain ⟨s17, hc16, h⟩ := bn_e h
      refine ywVv (As := [.int 4]) (rest := []) (C := RX6) (n := 1) (ws' := CS D a s17) ⟨hx, hb, hml, hown, ht⟩ (k_x6_expectWord l D a 4 _ _ _ hc16) (zgV ml_X6_165 im_X6_expectWord se_X6_expectWord in_X6 co_X6_expectWord) rfl rfl (by decide +kernel) ⟨Nat.le_of_ble_eq_true rfl, Nat.le_of_ble_eq_true rfl⟩ hN hK hP (hDD _) hS hA 5 CW_5 rfl rfl rfl hl.1 rfl (Nat.le_of_ble_eq_true rfl) dX6_readVolume_86 ⟨Nat.le_of_ble_eq_true rfl, Nat.le_of_ble_eq_true rfl⟩ (fun H locs hP hS => ?_)
      refine lv_aload_n hx hb dX6_readVolume_89 rfl (lv_at hl 3 rfl) ?_
      refine lv_aload_n hx hb dX6_readVolume_90 rfl (lv_at hl 4 rfl) ?_
      obtain ⟨⟨r20, s19⟩, hc18, h⟩ := bn_e h
      refine ywV (r0 := r20) (As := [.ref (a 39)]) (rest := []) (C := RX6) (n := 1) (ws' := CS D a s19) ⟨hx, hb, hml, hown, ht⟩ (k_x6_expectVolume l D a _ _ _ hc18) (zgV ml_X6_174 im_X6_expectVolume se_X6_expectVolume in_X6 co_X6_expectVolume) rfl rfl (by decide +kernel) ⟨Nat.le_of_ble_eq_true rfl, Nat.le_of_ble_eq_true rfl⟩ hN hK hP (hDD _) hS hA 5 CW_5 rfl rfl rfl hl.1 rfl (Nat.le_of_ble_eq_true rfl) dX6_readVolume_91 ⟨Nat.le_of_ble_eq_true rfl, Nat.le_of_ble_eq_true rfl⟩ (fun H locs hP hS => ?_)
      refine lv_istore (lv' := [(5, .int r20), (4, .int (gI s12 109)), (3, .int (gI s12 108)), (0, .ref (a 5)), (1, .ref (a 39)), (2, .int x11)]) hx hb dX6_readVolume_94 hl (by decide) rfl (fun ls hl => ?_)
      exact J96 (x11, gI s12 108, gI s12 109, r20, s19) _ _ _ ⟨hP, hS, lv_sub hl [3, 4, 5, 2, 1, 0] rfl, h⟩
  refine y_head (pcJ := 19) (σ := Int32 × MS) (fun u H locs ls => va_P D vwCl (CS D a u.2) H ∧ va_S A s₀.heap H locs ∧ lv_has ls 6 [(0, .ref (a 5)), (1, .ref (a 39)), (2, .int u.1)] ∧ m_x6_readVolume_J19 u.1 u.2 = some o) (fun u => []) (fun u H locs ls hI => ?_) (fun J19 => ?_)
  · obtain ⟨hP, hS, hl, h⟩ := hI
    obtain ⟨x21, s22⟩ := u
    have hP : va_P D vwCl (CS D a s22) H := hP
    have hl : lv_has ls 6 [(0, .ref (a 5)), (1, .ref (a 39)), (2, .int x21)] := hl
    have h : m_x6_readVolume_J19 x21 s22 = some o := h
    unfold m_x6_readVolume_J19 at h
    refine lv_aload_n hx hb dX6_readVolume_19 rfl (lv_at hl 0 rfl) ?_
    obtain ⟨s24, hc23, h⟩ := bn_e h
    refine ywVv (As := []) (rest := []) (C := RX6) (n := 0) (ws' := CS D a s24) ⟨hx, hb, hml, hown, ht⟩ (k_x6_advance l D a _ _ _ hc23) (zgV ml_X6_75 im_X6_advance se_X6_advance in_X6 co_X6_advance) rfl rfl (by decide +kernel) ⟨Nat.le_of_ble_eq_true rfl, Nat.le_of_ble_eq_true rfl⟩ hN hK hP (hDD _) hS hA 5 CW_5 rfl rfl rfl hl.1 rfl (Nat.le_of_ble_eq_true rfl) dX6_readVolume_20 ⟨Nat.le_of_ble_eq_true rfl, Nat.le_of_ble_eq_true rfl⟩ (fun H locs hP hS => ?_)
    refine lv_aload_n hx hb dX6_readVolume_23 rfl (lv_at hl 0 rfl) ?_
    obtain ⟨⟨r27, s26⟩, hc25, h⟩ := bn_e h
    refine ywV (r0 := r27) (As := []) (rest := []) (C := RX6) (n := 0) (ws' := CS D a s26) ⟨hx, hb, hml, hown, ht⟩ (k_x6_isName l D a _ _ _ hc25) (zgV ml_X6_127 im_X6_isName se_X6_isName in_X6 co_X6_isName) rfl rfl (by decide +kernel) ⟨Nat.le_of_ble_eq_true rfl, Nat.le_of_ble_eq_true rfl⟩ hN hK hP (hDD _) hS hA 5 CW_5 rfl rfl rfl hl.1 rfl (Nat.le_of_ble_eq_true rfl) dX6_readVolume_24 ⟨Nat.le_of_ble_eq_true rfl, Nat.le_of_ble_eq_true rfl⟩ (fun H locs hP hS => ?_)
    refine lv_if_ne (tgt := 31) hx hb dX6_readVolume_27 (by decide) (fun c28 => ?_) (fun c28 => ?_)
    · have h := if_f c28 h
      refine lv_aload_n hx hb dX6_readVolume_31 rfl (lv_at hl 1 rfl) ?_
      refine lv_aload_n hx hb dX6_readVolume_32 rfl (lv_at hl 0 rfl) ?_
      refine va_get (D := D) (ci := 6) (v := .ref (a 3)) (C := RX6) (T := TX6) (N := 12) hx hb ht inX6 hown hK hP 5 CW_5 rfl 2 (by decide) (ht (.fieldLink RX6 27 "CloneVolumes$Reader" "tape" "LCloneVolumes$Tape;") fl_X6_27) (fun _ h9 => h9) rfl dX6_readVolume_33 ?_
      refine lv_aload_n hx hb dX6_readVolume_36 rfl (lv_at hl 0 rfl) ?_
      refine va_get (D := D) (ci := 6) (v := .int (gI s26 108)) (C := RX6) (T := TX6) (N := 12) hx hb ht inX6 hown hK hP 5 CW_5 rfl 8 (by decide) (ht (.fieldLink RX6 51 "CloneVolumes$Reader" "start" "I") fl_X6_51) (fun _ h9 => h9) rfl dX6_readVolume_37 ?_
      refine lv_aload_n hx hb dX6_readVolume_40 rfl (lv_at hl 0 rfl) ?_
      refine va_get (D := D) (ci := 6) (v := .int (gI s26 109)) (C := RX6) (T := TX6) (N := 12) hx hb ht inX6 hown hK hP 5 CW_5 rfl 9 (by decide) (ht (.fieldLink RX6 88 "CloneVolumes$Reader" "stop" "I") fl_X6_88) (fun _ h9 => h9) rfl dX6_readVolume_41 ?_
      obtain ⟨r30, hc29, h⟩ := bn_e h
      refine ycV (As := [.ref (a 3), .int (gI s26 108), .int (gI s26 109)]) (rest := []) (C := RX5) (n := 3) ⟨hx, hb, hml, hown, ht⟩ (k_x5_volumeNamed l D a (gI s26 108) (gI s26 109) _ _ hc29) (zgV ml_X6_131 im_X5_volumeNamed se_X5_volumeNamed in_X5 co_X5_volumeNamed) rfl rfl (by decide +kernel) ⟨Nat.le_of_ble_eq_true rfl, Nat.le_of_ble_eq_true rfl⟩ hN hK hP hS 39 CW_39 rfl rfl rfl hl.1 rfl (Nat.le_of_ble_eq_true rfl) dX6_readVolume_44 ⟨Nat.le_of_ble_eq_true rfl, Nat.le_of_ble_eq_true rfl⟩ (fun H locs hP hS => ?_)
      refine lv_iconst (v := (-1)) hx hb dX6_readVolume_47 (by decide) ?_
      refine lv_icmp_eq (tgt := 61) hx hb dX6_readVolume_48 (by decide) (fun c31 => ?_) (fun c31 => ?_)
      · have h := if_t c31 h
        exact J61 (x21, s26) _ _ _ ⟨hP, hS, lv_sub hl [0, 1, 2] rfl, h⟩
      · have h := if_f c31 h
        refine lv_aload_n hx hb dX6_readVolume_51 rfl (lv_at hl 0 rfl) ?_
        refine lv_iconst (v := 3) hx hb dX6_readVolume_52 (by decide) ?_
        refine lv_aload_n hx hb dX6_readVolume_53 rfl (lv_at hl 0 rfl) ?_
        refine va_get (D := D) (ci := 6) (v := .int (gI s26 108)) (C := RX6) (T := TX6) (N := 12) hx hb ht inX6 hown hK hP 5 CW_5 rfl 8 (by decide) (ht (.fieldLink RX6 51 "CloneVolumes$Reader" "start" "I") fl_X6_51) (fun _ h9 => h9) rfl dX6_readVolume_54 ?_
        obtain ⟨⟨r34, s33⟩, hc32, h⟩ := bn_e h
        refine ywV (r0 := r34) (As := [.int 3, .int (gI s26 108)]) (rest := []) (C := RX6) (n := 2) (ws' := CS D a s33) ⟨hx, hb, hml, hown, ht⟩ (k_x6_fail l D a 3 (gI s26 108) _ _ _ hc32) (zgV ml_X6_54 im_X6_fail se_X6_fail in_X6 co_X6_fail) rfl rfl (by decide +kernel) ⟨Nat.le_of_ble_eq_true rfl, Nat.le_of_ble_eq_true rfl⟩ hN hK hP (hDD _) hS hA 5 CW_5 rfl rfl rfl hl.1 rfl (Nat.le_of_ble_eq_true rfl) dX6_readVolume_57 ⟨Nat.le_of_ble_eq_true rfl, Nat.le_of_ble_eq_true rfl⟩ (fun H locs hP hS => ?_)
        refine lv_pop hx hb dX6_readVolume_60 rfl ?_
        exact J61 (x21, s33) _ _ _ ⟨hP, hS, lv_sub hl [0, 1, 2] rfl, h⟩
    · have h := if_t c28 h
      obtain rfl := Option.some.inj h
      exact W.vret hx hb hr (fun t ht hW => ⟨⟨(), rfl, trivial, by rw [ht]; exact hP, va_K.moved hW.alike hK, hDD _⟩, hS.F ht⟩) hS.2.2 dX6_readVolume_30
  refine lv_aload_n hx hb dX6_readVolume_0 rfl (lv_at hl 1 rfl) ?_
  refine va_get (D := D) (ci := 5) (v := .int (gI s 784)) (C := RX5) (T := TX5) (N := 14) hx hb ht inX5 hown hK hP 39 CW_39 rfl 4 (by decide) (ht (.fieldLink RX6 171 "CloneVolumes$Plan" "volumes" "I") fl_X6_171) (fun _ h9 => h9) rfl dX6_readVolume_1 ?_
  refine lv_bipush (v := 8) hx hb dX6_readVolume_4 (by decide) ?_
  refine lv_icmp_ne (tgt := 19) hx hb dX6_readVolume_6 (by decide) (fun c35 => ?_) (fun c35 => ?_)
  · have h := if_f c35 h
    exact J19 (p1, s) _ _ _ ⟨hP, hS, lv_sub hl [0, 1, 2] rfl, h⟩
  · have h := if_t c35 h
    refine lv_aload_n hx hb dX6_readVolume_9 rfl (lv_at hl 0 rfl) ?_
    refine lv_iconst (v := 5) hx hb dX6_readVolume_10 (by decide) ?_
    refine lv_aload_n hx hb dX6_readVolume_11 rfl (lv_at hl 0 rfl) ?_
    refine va_get (D := D) (ci := 6) (v := .int (gI s 108)) (C := RX6) (T := TX6) (N := 12) hx hb ht inX6 hown hK hP 5 CW_5 rfl 8 (by decide) (ht (.fieldLink RX6 51 "CloneVolumes$Reader" "start" "I") fl_X6_51) (fun _ h9 => h9) rfl dX6_readVolume_12 ?_
    obtain ⟨⟨r38, s37⟩, hc36, h⟩ := bn_e h
    refine ywV (r0 := r38) (As := [.int 5, .int (gI s 108)]) (rest := []) (C := RX6) (n := 2) (ws' := CS D a s37) ⟨hx, hb, hml, hown, ht⟩ (k_x6_fail l D a 5 (gI s 108) _ _ _ hc36) (zgV ml_X6_54 im_X6_fail se_X6_fail in_X6 co_X6_fail) rfl rfl (by decide +kernel) ⟨Nat.le_of_ble_eq_true rfl, Nat.le_of_ble_eq_true rfl⟩ hN hK hP (hDD _) hS hA 5 CW_5 rfl rfl rfl hl.1 rfl (Nat.le_of_ble_eq_true rfl) dX6_readVolume_15 ⟨Nat.le_of_ble_eq_true rfl, Nat.le_of_ble_eq_true rfl⟩ (fun H locs hP hS => ?_)
    refine lv_pop hx hb dX6_readVolume_18 rfl ?_
    exact J19 (p1, s37) _ _ _ ⟨hP, hS, lv_sub hl [0, 1, 2] rfl, h⟩
