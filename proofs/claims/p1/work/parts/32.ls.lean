theorem ia_X11 : Cond.instantiable RX11 13 ∈ lw_gd := zm (List.mem_of_getElem? (i := 219) (by decide +kernel)) rfl
theorem ia_X12 : Cond.instantiable RX12 116 ∈ lw_gd := zm (List.mem_of_getElem? (i := 1533) (by decide +kernel)) rfl
theorem cx_L_7 : Cond.classLink RL 7 RX11 ∈ lw_gd := zm (List.mem_of_getElem? (i := 218) (by decide +kernel)) rfl
theorem co_X11_init : Cond.code yX11_init cX11_init 1 none ∈ lw_gd := zm (List.mem_of_getElem? (i := 222) (by decide +kernel)) rfl
theorem ml_L_9 : Cond.methodLink RL 9 yX11_init ∈ lw_gd := zm (List.mem_of_getElem? (i := 220) (by decide +kernel)) rfl
theorem im_X11_init : Cond.instanceMethod yX11_init ∈ lw_gd := zm (List.mem_of_getElem? (i := 221) (by decide +kernel)) rfl
theorem cx_L_10 : Cond.classLink RL 10 RX12 ∈ lw_gd := zm (List.mem_of_getElem? (i := 1532) (by decide +kernel)) rfl
theorem ml_L_12 : Cond.methodLink RL 12 yX12_init ∈ lw_gd := zm (List.mem_of_getElem? (i := 1534) (by decide +kernel)) rfl
theorem im_X12_init : Cond.instanceMethod yX12_init ∈ lw_gd := zm (List.mem_of_getElem? (i := 1535) (by decide +kernel)) rfl
set_option maxRecDepth 100000 in
theorem co_X12_init : Cond.code yX12_init cX12_init 1 none ∈ lw_gd := zm (List.mem_append_right _ (List.mem_append_right _ (List.mem_append_right _ (List.mem_append_right _ (List.mem_append_right _ (List.mem_append_right _ (List.mem_append_left _ (List.mem_of_getElem? (l := tables_1_6) (i := 139) rfl)))))))) rfl
def zByt : List Int32 := 98 :: 108 :: 111 :: 99 :: 107 :: 115 :: 32 :: 114 :: 111 :: 111 :: 109 :: 32 :: 118 :: 111 :: 108 :: 117 :: 109 :: 101 :: 32 :: 99 :: 108 :: 111 :: 110 :: 101 :: 32 :: 111 :: 102 :: 32 :: 112 :: 117 :: 116 :: 32 :: 114 :: 101 :: 109 :: 111 :: 118 :: 101 :: 32 :: 112 :: 105 :: 99 :: 107 :: 115 :: 32 :: 115 :: 112 :: 108 :: 105 :: 116 :: 115 :: 32 :: 99 :: 111 :: 115 :: 116 :: 115 :: 32 :: 99 :: 104 :: 117 :: 114 :: 110 :: 32 :: 98 :: 108 :: 111 :: 99 :: 107 :: 32 :: 102 :: 114 :: 111 :: 109 :: 32 :: 108 :: 101 :: 118 :: 101 :: 108 :: 32 :: 101 :: 110 :: 116 :: 114 :: 105 :: 101 :: 115 :: 32 :: 110 :: 117 :: 109 :: 98 :: 101 :: 114 :: 32 :: 99 :: 111 :: 117 :: 110 :: 116 :: 32 :: 102 :: 114 :: 101 :: 115 :: 104 :: 32 :: 115 :: 97 :: 118 :: 101 :: 100 :: 32 :: 114 :: 101 :: 102 :: 115 :: 32 :: 107 :: 101 :: 121 :: 32 :: 111 :: 114 :: 32 :: 97 :: 110 :: 100 :: 32 :: 110 :: 111 :: 116 :: 32 :: 97 :: 108 :: 108 :: 32 :: 109 :: 105 :: 110 :: 32 :: 109 :: 97 :: 120 :: 32 :: 102 :: 105 :: 114 :: 115 :: 116 :: 32 :: 108 :: 97 :: 115 :: 116 :: 32 :: 111 :: 102 :: 116 :: 101 :: 110 :: 32 :: 116 :: 111 :: 116 :: 97 :: 108 :: 32 :: 109 :: 111 :: 115 :: 116 :: 32 :: 108 :: 101 :: 97 :: 115 :: 116 :: []
theorem zEl_0 : Cond.eq (.elem (.field (.string "CloneVolumes$Reader" 15) "java/lang/String" "value" "[B") (.int (Int32.ofNat 0))) (.int (zByt.getD 0 0)) ∈ flatC (Jvm.Cond.and given_1 narrow_1) := List.mem_of_getElem? (i := 13) (by decide +kernel)
theorem zEl_1 : Cond.eq (.elem (.field (.string "CloneVolumes$Reader" 15) "java/lang/String" "value" "[B") (.int (Int32.ofNat 1))) (.int (zByt.getD 1 0)) ∈ flatC (Jvm.Cond.and given_1 narrow_1) := List.mem_of_getElem? (i := 14) (by decide +kernel)
theorem zEl_2 : Cond.eq (.elem (.field (.string "CloneVolumes$Reader" 15) "java/lang/String" "value" "[B") (.int (Int32.ofNat 2))) (.int (zByt.getD 2 0)) ∈ flatC (Jvm.Cond.and given_1 narrow_1) := List.mem_of_getElem? (i := 15) (by decide +kernel)
theorem zEl_3 : Cond.eq (.elem (.field (.string "CloneVolumes$Reader" 15) "java/lang/String" "value" "[B") (.int (Int32.ofNat 3))) (.int (zByt.getD 3 0)) ∈ flatC (Jvm.Cond.and given_1 narrow_1) := List.mem_of_getElem? (i := 16) (by decide +kernel)
theorem zEl_4 : Cond.eq (.elem (.field (.string "CloneVolumes$Reader" 15) "java/lang/String" "value" "[B") (.int (Int32.ofNat 4))) (.int (zByt.getD 4 0)) ∈ flatC (Jvm.Cond.and given_1 narrow_1) := List.mem_of_getElem? (i := 17) (by decide +kernel)
theorem zEl_5 : Cond.eq (.elem (.field (.string "CloneVolumes$Reader" 15) "java/lang/String" "value" "[B") (.int (Int32.ofNat 5))) (.int (zByt.getD 5 0)) ∈ flatC (Jvm.Cond.and given_1 narrow_1) := List.mem_of_getElem? (i := 18) (by decide +kernel)
theorem zEl_6 : Cond.eq (.elem (.field (.string "CloneVolumes$Reader" 15) "java/lang/String" "value" "[B") (.int (Int32.ofNat 6))) (.int (zByt.getD 6 0)) ∈ flatC (Jvm.Cond.and given_1 narrow_1) := List.mem_of_getElem? (i := 19) (by decide +kernel)
theorem zEl_7 : Cond.eq (.elem (.field (.string "CloneVolumes$Reader" 15) "java/lang/String" "value" "[B") (.int (Int32.ofNat 7))) (.int (zByt.getD 7 0)) ∈ flatC (Jvm.Cond.and given_1 narrow_1) := List.mem_of_getElem? (i := 20) (by decide +kernel)
theorem zEl_8 : Cond.eq (.elem (.field (.string "CloneVolumes$Reader" 15) "java/lang/String" "value" "[B") (.int (Int32.ofNat 8))) (.int (zByt.getD 8 0)) ∈ flatC (Jvm.Cond.and given_1 narrow_1) := List.mem_of_getElem? (i := 21) (by decide +kernel)
theorem zEl_9 : Cond.eq (.elem (.field (.string "CloneVolumes$Reader" 15) "java/lang/String" "value" "[B") (.int (Int32.ofNat 9))) (.int (zByt.getD 9 0)) ∈ flatC (Jvm.Cond.and given_1 narrow_1) := List.mem_of_getElem? (i := 22) (by decide +kernel)
theorem zEl_10 : Cond.eq (.elem (.field (.string "CloneVolumes$Reader" 15) "java/lang/String" "value" "[B") (.int (Int32.ofNat 10))) (.int (zByt.getD 10 0)) ∈ flatC (Jvm.Cond.and given_1 narrow_1) := List.mem_of_getElem? (i := 23) (by decide +kernel)
theorem zEl_11 : Cond.eq (.elem (.field (.string "CloneVolumes$Reader" 15) "java/lang/String" "value" "[B") (.int (Int32.ofNat 11))) (.int (zByt.getD 11 0)) ∈ flatC (Jvm.Cond.and given_1 narrow_1) := List.mem_of_getElem? (i := 24) (by decide +kernel)
theorem zEl_12 : Cond.eq (.elem (.field (.string "CloneVolumes$Reader" 15) "java/lang/String" "value" "[B") (.int (Int32.ofNat 12))) (.int (zByt.getD 12 0)) ∈ flatC (Jvm.Cond.and given_1 narrow_1) := List.mem_of_getElem? (i := 25) (by decide +kernel)
theorem zEl_13 : Cond.eq (.elem (.field (.string "CloneVolumes$Reader" 15) "java/lang/String" "value" "[B") (.int (Int32.ofNat 13))) (.int (zByt.getD 13 0)) ∈ flatC (Jvm.Cond.and given_1 narrow_1) := List.mem_of_getElem? (i := 26) (by decide +kernel)
theorem zEl_14 : Cond.eq (.elem (.field (.string "CloneVolumes$Reader" 15) "java/lang/String" "value" "[B") (.int (Int32.ofNat 14))) (.int (zByt.getD 14 0)) ∈ flatC (Jvm.Cond.and given_1 narrow_1) := List.mem_of_getElem? (i := 27) (by decide +kernel)
theorem zEl_15 : Cond.eq (.elem (.field (.string "CloneVolumes$Reader" 15) "java/lang/String" "value" "[B") (.int (Int32.ofNat 15))) (.int (zByt.getD 15 0)) ∈ flatC (Jvm.Cond.and given_1 narrow_1) := List.mem_of_getElem? (i := 28) (by decide +kernel)
theorem zEl_16 : Cond.eq (.elem (.field (.string "CloneVolumes$Reader" 15) "java/lang/String" "value" "[B") (.int (Int32.ofNat 16))) (.int (zByt.getD 16 0)) ∈ flatC (Jvm.Cond.and given_1 narrow_1) := List.mem_of_getElem? (i := 29) (by decide +kernel)
theorem zEl_17 : Cond.eq (.elem (.field (.string "CloneVolumes$Reader" 15) "java/lang/String" "value" "[B") (.int (Int32.ofNat 17))) (.int (zByt.getD 17 0)) ∈ flatC (Jvm.Cond.and given_1 narrow_1) := List.mem_of_getElem? (i := 30) (by decide +kernel)
theorem zEl_18 : Cond.eq (.elem (.field (.string "CloneVolumes$Reader" 15) "java/lang/String" "value" "[B") (.int (Int32.ofNat 18))) (.int (zByt.getD 18 0)) ∈ flatC (Jvm.Cond.and given_1 narrow_1) := List.mem_of_getElem? (i := 31) (by decide +kernel)
theorem zEl_19 : Cond.eq (.elem (.field (.string "CloneVolumes$Reader" 15) "java/lang/String" "value" "[B") (.int (Int32.ofNat 19))) (.int (zByt.getD 19 0)) ∈ flatC (Jvm.Cond.and given_1 narrow_1) := List.mem_of_getElem? (i := 32) (by decide +kernel)
theorem zEl_20 : Cond.eq (.elem (.field (.string "CloneVolumes$Reader" 15) "java/lang/String" "value" "[B") (.int (Int32.ofNat 20))) (.int (zByt.getD 20 0)) ∈ flatC (Jvm.Cond.and given_1 narrow_1) := List.mem_of_getElem? (i := 33) (by decide +kernel)
theorem zEl_21 : Cond.eq (.elem (.field (.string "CloneVolumes$Reader" 15) "java/lang/String" "value" "[B") (.int (Int32.ofNat 21))) (.int (zByt.getD 21 0)) ∈ flatC (Jvm.Cond.and given_1 narrow_1) := List.mem_of_getElem? (i := 34) (by decide +kernel)
theorem zEl_22 : Cond.eq (.elem (.field (.string "CloneVolumes$Reader" 15) "java/lang/String" "value" "[B") (.int (Int32.ofNat 22))) (.int (zByt.getD 22 0)) ∈ flatC (Jvm.Cond.and given_1 narrow_1) := List.mem_of_getElem? (i := 35) (by decide +kernel)
theorem zEl_23 : Cond.eq (.elem (.field (.string "CloneVolumes$Reader" 15) "java/lang/String" "value" "[B") (.int (Int32.ofNat 23))) (.int (zByt.getD 23 0)) ∈ flatC (Jvm.Cond.and given_1 narrow_1) := List.mem_of_getElem? (i := 36) (by decide +kernel)
theorem zEl_24 : Cond.eq (.elem (.field (.string "CloneVolumes$Reader" 15) "java/lang/String" "value" "[B") (.int (Int32.ofNat 24))) (.int (zByt.getD 24 0)) ∈ flatC (Jvm.Cond.and given_1 narrow_1) := List.mem_of_getElem? (i := 37) (by decide +kernel)
theorem zEl_25 : Cond.eq (.elem (.field (.string "CloneVolumes$Reader" 15) "java/lang/String" "value" "[B") (.int (Int32.ofNat 25))) (.int (zByt.getD 25 0)) ∈ flatC (Jvm.Cond.and given_1 narrow_1) := List.mem_of_getElem? (i := 38) (by decide +kernel)
theorem zEl_26 : Cond.eq (.elem (.field (.string "CloneVolumes$Reader" 15) "java/lang/String" "value" "[B") (.int (Int32.ofNat 26))) (.int (zByt.getD 26 0)) ∈ flatC (Jvm.Cond.and given_1 narrow_1) := List.mem_of_getElem? (i := 39) (by decide +kernel)
theorem zEl_27 : Cond.eq (.elem (.field (.string "CloneVolumes$Reader" 15) "java/lang/String" "value" "[B") (.int (Int32.ofNat 27))) (.int (zByt.getD 27 0)) ∈ flatC (Jvm.Cond.and given_1 narrow_1) := List.mem_of_getElem? (i := 40) (by decide +kernel)
theorem zEl_28 : Cond.eq (.elem (.field (.string "CloneVolumes$Reader" 15) "java/lang/String" "value" "[B") (.int (Int32.ofNat 28))) (.int (zByt.getD 28 0)) ∈ flatC (Jvm.Cond.and given_1 narrow_1) := List.mem_of_getElem? (i := 41) (by decide +kernel)
theorem zEl_29 : Cond.eq (.elem (.field (.string "CloneVolumes$Reader" 15) "java/lang/String" "value" "[B") (.int (Int32.ofNat 29))) (.int (zByt.getD 29 0)) ∈ flatC (Jvm.Cond.and given_1 narrow_1) := List.mem_of_getElem? (i := 42) (by decide +kernel)
theorem zEl_30 : Cond.eq (.elem (.field (.string "CloneVolumes$Reader" 15) "java/lang/String" "value" "[B") (.int (Int32.ofNat 30))) (.int (zByt.getD 30 0)) ∈ flatC (Jvm.Cond.and given_1 narrow_1) := List.mem_of_getElem? (i := 43) (by decide +kernel)
theorem zEl_31 : Cond.eq (.elem (.field (.string "CloneVolumes$Reader" 15) "java/lang/String" "value" "[B") (.int (Int32.ofNat 31))) (.int (zByt.getD 31 0)) ∈ flatC (Jvm.Cond.and given_1 narrow_1) := List.mem_of_getElem? (i := 44) (by decide +kernel)
theorem zEl_32 : Cond.eq (.elem (.field (.string "CloneVolumes$Reader" 15) "java/lang/String" "value" "[B") (.int (Int32.ofNat 32))) (.int (zByt.getD 32 0)) ∈ flatC (Jvm.Cond.and given_1 narrow_1) := List.mem_of_getElem? (i := 45) (by decide +kernel)
theorem zEl_33 : Cond.eq (.elem (.field (.string "CloneVolumes$Reader" 15) "java/lang/String" "value" "[B") (.int (Int32.ofNat 33))) (.int (zByt.getD 33 0)) ∈ flatC (Jvm.Cond.and given_1 narrow_1) := List.mem_of_getElem? (i := 46) (by decide +kernel)
theorem zEl_34 : Cond.eq (.elem (.field (.string "CloneVolumes$Reader" 15) "java/lang/String" "value" "[B") (.int (Int32.ofNat 34))) (.int (zByt.getD 34 0)) ∈ flatC (Jvm.Cond.and given_1 narrow_1) := List.mem_of_getElem? (i := 47) (by decide +kernel)
theorem zEl_35 : Cond.eq (.elem (.field (.string "CloneVolumes$Reader" 15) "java/lang/String" "value" "[B") (.int (Int32.ofNat 35))) (.int (zByt.getD 35 0)) ∈ flatC (Jvm.Cond.and given_1 narrow_1) := List.mem_of_getElem? (i := 48) (by decide +kernel)
theorem zEl_36 : Cond.eq (.elem (.field (.string "CloneVolumes$Reader" 15) "java/lang/String" "value" "[B") (.int (Int32.ofNat 36))) (.int (zByt.getD 36 0)) ∈ flatC (Jvm.Cond.and given_1 narrow_1) := List.mem_of_getElem? (i := 49) (by decide +kernel)
theorem zEl_37 : Cond.eq (.elem (.field (.string "CloneVolumes$Reader" 15) "java/lang/String" "value" "[B") (.int (Int32.ofNat 37))) (.int (zByt.getD 37 0)) ∈ flatC (Jvm.Cond.and given_1 narrow_1) := List.mem_of_getElem? (i := 50) (by decide +kernel)
theorem zEl_38 : Cond.eq (.elem (.field (.string "CloneVolumes$Reader" 15) "java/lang/String" "value" "[B") (.int (Int32.ofNat 38))) (.int (zByt.getD 38 0)) ∈ flatC (Jvm.Cond.and given_1 narrow_1) := List.mem_of_getElem? (i := 51) (by decide +kernel)
theorem zEl_39 : Cond.eq (.elem (.field (.string "CloneVolumes$Reader" 15) "java/lang/String" "value" "[B") (.int (Int32.ofNat 39))) (.int (zByt.getD 39 0)) ∈ flatC (Jvm.Cond.and given_1 narrow_1) := List.mem_of_getElem? (i := 52) (by decide +kernel)
theorem zEl_40 : Cond.eq (.elem (.field (.string "CloneVolumes$Reader" 15) "java/lang/String" "value" "[B") (.int (Int32.ofNat 40))) (.int (zByt.getD 40 0)) ∈ flatC (Jvm.Cond.and given_1 narrow_1) := List.mem_of_getElem? (i := 53) (by decide +kernel)
theorem zEl_41 : Cond.eq (.elem (.field (.string "CloneVolumes$Reader" 15) "java/lang/String" "value" "[B") (.int (Int32.ofNat 41))) (.int (zByt.getD 41 0)) ∈ flatC (Jvm.Cond.and given_1 narrow_1) := List.mem_of_getElem? (i := 54) (by decide +kernel)
theorem zEl_42 : Cond.eq (.elem (.field (.string "CloneVolumes$Reader" 15) "java/lang/String" "value" "[B") (.int (Int32.ofNat 42))) (.int (zByt.getD 42 0)) ∈ flatC (Jvm.Cond.and given_1 narrow_1) := List.mem_of_getElem? (i := 55) (by decide +kernel)
theorem zEl_43 : Cond.eq (.elem (.field (.string "CloneVolumes$Reader" 15) "java/lang/String" "value" "[B") (.int (Int32.ofNat 43))) (.int (zByt.getD 43 0)) ∈ flatC (Jvm.Cond.and given_1 narrow_1) := List.mem_of_getElem? (i := 56) (by decide +kernel)
theorem zEl_44 : Cond.eq (.elem (.field (.string "CloneVolumes$Reader" 15) "java/lang/String" "value" "[B") (.int (Int32.ofNat 44))) (.int (zByt.getD 44 0)) ∈ flatC (Jvm.Cond.and given_1 narrow_1) := List.mem_of_getElem? (i := 57) (by decide +kernel)
theorem zEl_45 : Cond.eq (.elem (.field (.string "CloneVolumes$Reader" 15) "java/lang/String" "value" "[B") (.int (Int32.ofNat 45))) (.int (zByt.getD 45 0)) ∈ flatC (Jvm.Cond.and given_1 narrow_1) := List.mem_of_getElem? (i := 58) (by decide +kernel)
theorem zEl_46 : Cond.eq (.elem (.field (.string "CloneVolumes$Reader" 15) "java/lang/String" "value" "[B") (.int (Int32.ofNat 46))) (.int (zByt.getD 46 0)) ∈ flatC (Jvm.Cond.and given_1 narrow_1) := List.mem_of_getElem? (i := 59) (by decide +kernel)
theorem zEl_47 : Cond.eq (.elem (.field (.string "CloneVolumes$Reader" 15) "java/lang/String" "value" "[B") (.int (Int32.ofNat 47))) (.int (zByt.getD 47 0)) ∈ flatC (Jvm.Cond.and given_1 narrow_1) := List.mem_of_getElem? (i := 60) (by decide +kernel)
theorem zEl_48 : Cond.eq (.elem (.field (.string "CloneVolumes$Reader" 15) "java/lang/String" "value" "[B") (.int (Int32.ofNat 48))) (.int (zByt.getD 48 0)) ∈ flatC (Jvm.Cond.and given_1 narrow_1) := List.mem_of_getElem? (i := 61) (by decide +kernel)
theorem zEl_49 : Cond.eq (.elem (.field (.string "CloneVolumes$Reader" 15) "java/lang/String" "value" "[B") (.int (Int32.ofNat 49))) (.int (zByt.getD 49 0)) ∈ flatC (Jvm.Cond.and given_1 narrow_1) := List.mem_of_getElem? (i := 62) (by decide +kernel)
theorem zEl_50 : Cond.eq (.elem (.field (.string "CloneVolumes$Reader" 15) "java/lang/String" "value" "[B") (.int (Int32.ofNat 50))) (.int (zByt.getD 50 0)) ∈ flatC (Jvm.Cond.and given_1 narrow_1) := List.mem_of_getElem? (i := 63) (by decide +kernel)
theorem zEl_51 : Cond.eq (.elem (.field (.string "CloneVolumes$Reader" 15) "java/lang/String" "value" "[B") (.int (Int32.ofNat 51))) (.int (zByt.getD 51 0)) ∈ flatC (Jvm.Cond.and given_1 narrow_1) := List.mem_of_getElem? (i := 64) (by decide +kernel)
theorem zEl_52 : Cond.eq (.elem (.field (.string "CloneVolumes$Reader" 15) "java/lang/String" "value" "[B") (.int (Int32.ofNat 52))) (.int (zByt.getD 52 0)) ∈ flatC (Jvm.Cond.and given_1 narrow_1) := List.mem_of_getElem? (i := 65) (by decide +kernel)
theorem zEl_53 : Cond.eq (.elem (.field (.string "CloneVolumes$Reader" 15) "java/lang/String" "value" "[B") (.int (Int32.ofNat 53))) (.int (zByt.getD 53 0)) ∈ flatC (Jvm.Cond.and given_1 narrow_1) := List.mem_of_getElem? (i := 66) (by decide +kernel)
theorem zEl_54 : Cond.eq (.elem (.field (.string "CloneVolumes$Reader" 15) "java/lang/String" "value" "[B") (.int (Int32.ofNat 54))) (.int (zByt.getD 54 0)) ∈ flatC (Jvm.Cond.and given_1 narrow_1) := List.mem_of_getElem? (i := 67) (by decide +kernel)
theorem zEl_55 : Cond.eq (.elem (.field (.string "CloneVolumes$Reader" 15) "java/lang/String" "value" "[B") (.int (Int32.ofNat 55))) (.int (zByt.getD 55 0)) ∈ flatC (Jvm.Cond.and given_1 narrow_1) := List.mem_of_getElem? (i := 68) (by decide +kernel)
theorem zEl_56 : Cond.eq (.elem (.field (.string "CloneVolumes$Reader" 15) "java/lang/String" "value" "[B") (.int (Int32.ofNat 56))) (.int (zByt.getD 56 0)) ∈ flatC (Jvm.Cond.and given_1 narrow_1) := List.mem_of_getElem? (i := 69) (by decide +kernel)
theorem zEl_57 : Cond.eq (.elem (.field (.string "CloneVolumes$Reader" 15) "java/lang/String" "value" "[B") (.int (Int32.ofNat 57))) (.int (zByt.getD 57 0)) ∈ flatC (Jvm.Cond.and given_1 narrow_1) := List.mem_of_getElem? (i := 70) (by decide +kernel)
theorem zEl_58 : Cond.eq (.elem (.field (.string "CloneVolumes$Reader" 15) "java/lang/String" "value" "[B") (.int (Int32.ofNat 58))) (.int (zByt.getD 58 0)) ∈ flatC (Jvm.Cond.and given_1 narrow_1) := List.mem_of_getElem? (i := 71) (by decide +kernel)
theorem zEl_59 : Cond.eq (.elem (.field (.string "CloneVolumes$Reader" 15) "java/lang/String" "value" "[B") (.int (Int32.ofNat 59))) (.int (zByt.getD 59 0)) ∈ flatC (Jvm.Cond.and given_1 narrow_1) := List.mem_of_getElem? (i := 72) (by decide +kernel)
theorem zEl_60 : Cond.eq (.elem (.field (.string "CloneVolumes$Reader" 15) "java/lang/String" "value" "[B") (.int (Int32.ofNat 60))) (.int (zByt.getD 60 0)) ∈ flatC (Jvm.Cond.and given_1 narrow_1) := List.mem_of_getElem? (i := 73) (by decide +kernel)
theorem zEl_61 : Cond.eq (.elem (.field (.string "CloneVolumes$Reader" 15) "java/lang/String" "value" "[B") (.int (Int32.ofNat 61))) (.int (zByt.getD 61 0)) ∈ flatC (Jvm.Cond.and given_1 narrow_1) := List.mem_of_getElem? (i := 74) (by decide +kernel)
theorem zEl_62 : Cond.eq (.elem (.field (.string "CloneVolumes$Reader" 15) "java/lang/String" "value" "[B") (.int (Int32.ofNat 62))) (.int (zByt.getD 62 0)) ∈ flatC (Jvm.Cond.and given_1 narrow_1) := List.mem_of_getElem? (i := 75) (by decide +kernel)
theorem zEl_63 : Cond.eq (.elem (.field (.string "CloneVolumes$Reader" 15) "java/lang/String" "value" "[B") (.int (Int32.ofNat 63))) (.int (zByt.getD 63 0)) ∈ flatC (Jvm.Cond.and given_1 narrow_1) := List.mem_of_getElem? (i := 76) (by decide +kernel)
theorem zEl_64 : Cond.eq (.elem (.field (.string "CloneVolumes$Reader" 15) "java/lang/String" "value" "[B") (.int (Int32.ofNat 64))) (.int (zByt.getD 64 0)) ∈ flatC (Jvm.Cond.and given_1 narrow_1) := List.mem_of_getElem? (i := 77) (by decide +kernel)
theorem zEl_65 : Cond.eq (.elem (.field (.string "CloneVolumes$Reader" 15) "java/lang/String" "value" "[B") (.int (Int32.ofNat 65))) (.int (zByt.getD 65 0)) ∈ flatC (Jvm.Cond.and given_1 narrow_1) := List.mem_of_getElem? (i := 78) (by decide +kernel)
theorem zEl_66 : Cond.eq (.elem (.field (.string "CloneVolumes$Reader" 15) "java/lang/String" "value" "[B") (.int (Int32.ofNat 66))) (.int (zByt.getD 66 0)) ∈ flatC (Jvm.Cond.and given_1 narrow_1) := List.mem_of_getElem? (i := 79) (by decide +kernel)
theorem zEl_67 : Cond.eq (.elem (.field (.string "CloneVolumes$Reader" 15) "java/lang/String" "value" "[B") (.int (Int32.ofNat 67))) (.int (zByt.getD 67 0)) ∈ flatC (Jvm.Cond.and given_1 narrow_1) := List.mem_of_getElem? (i := 80) (by decide +kernel)
theorem zEl_68 : Cond.eq (.elem (.field (.string "CloneVolumes$Reader" 15) "java/lang/String" "value" "[B") (.int (Int32.ofNat 68))) (.int (zByt.getD 68 0)) ∈ flatC (Jvm.Cond.and given_1 narrow_1) := List.mem_of_getElem? (i := 81) (by decide +kernel)
theorem zEl_69 : Cond.eq (.elem (.field (.string "CloneVolumes$Reader" 15) "java/lang/String" "value" "[B") (.int (Int32.ofNat 69))) (.int (zByt.getD 69 0)) ∈ flatC (Jvm.Cond.and given_1 narrow_1) := List.mem_of_getElem? (i := 82) (by decide +kernel)
theorem zEl_70 : Cond.eq (.elem (.field (.string "CloneVolumes$Reader" 15) "java/lang/String" "value" "[B") (.int (Int32.ofNat 70))) (.int (zByt.getD 70 0)) ∈ flatC (Jvm.Cond.and given_1 narrow_1) := List.mem_of_getElem? (i := 83) (by decide +kernel)
theorem zEl_71 : Cond.eq (.elem (.field (.string "CloneVolumes$Reader" 15) "java/lang/String" "value" "[B") (.int (Int32.ofNat 71))) (.int (zByt.getD 71 0)) ∈ flatC (Jvm.Cond.and given_1 narrow_1) := List.mem_of_getElem? (i := 84) (by decide +kernel)
theorem zEl_72 : Cond.eq (.elem (.field (.string "CloneVolumes$Reader" 15) "java/lang/String" "value" "[B") (.int (Int32.ofNat 72))) (.int (zByt.getD 72 0)) ∈ flatC (Jvm.Cond.and given_1 narrow_1) := List.mem_of_getElem? (i := 85) (by decide +kernel)
theorem zEl_73 : Cond.eq (.elem (.field (.string "CloneVolumes$Reader" 15) "java/lang/String" "value" "[B") (.int (Int32.ofNat 73))) (.int (zByt.getD 73 0)) ∈ flatC (Jvm.Cond.and given_1 narrow_1) := List.mem_of_getElem? (i := 86) (by decide +kernel)
theorem zEl_74 : Cond.eq (.elem (.field (.string "CloneVolumes$Reader" 15) "java/lang/String" "value" "[B") (.int (Int32.ofNat 74))) (.int (zByt.getD 74 0)) ∈ flatC (Jvm.Cond.and given_1 narrow_1) := List.mem_of_getElem? (i := 87) (by decide +kernel)
theorem zEl_75 : Cond.eq (.elem (.field (.string "CloneVolumes$Reader" 15) "java/lang/String" "value" "[B") (.int (Int32.ofNat 75))) (.int (zByt.getD 75 0)) ∈ flatC (Jvm.Cond.and given_1 narrow_1) := List.mem_of_getElem? (i := 88) (by decide +kernel)
theorem zEl_76 : Cond.eq (.elem (.field (.string "CloneVolumes$Reader" 15) "java/lang/String" "value" "[B") (.int (Int32.ofNat 76))) (.int (zByt.getD 76 0)) ∈ flatC (Jvm.Cond.and given_1 narrow_1) := List.mem_of_getElem? (i := 89) (by decide +kernel)
theorem zEl_77 : Cond.eq (.elem (.field (.string "CloneVolumes$Reader" 15) "java/lang/String" "value" "[B") (.int (Int32.ofNat 77))) (.int (zByt.getD 77 0)) ∈ flatC (Jvm.Cond.and given_1 narrow_1) := List.mem_of_getElem? (i := 90) (by decide +kernel)
theorem zEl_78 : Cond.eq (.elem (.field (.string "CloneVolumes$Reader" 15) "java/lang/String" "value" "[B") (.int (Int32.ofNat 78))) (.int (zByt.getD 78 0)) ∈ flatC (Jvm.Cond.and given_1 narrow_1) := List.mem_of_getElem? (i := 91) (by decide +kernel)
theorem zEl_79 : Cond.eq (.elem (.field (.string "CloneVolumes$Reader" 15) "java/lang/String" "value" "[B") (.int (Int32.ofNat 79))) (.int (zByt.getD 79 0)) ∈ flatC (Jvm.Cond.and given_1 narrow_1) := List.mem_of_getElem? (i := 92) (by decide +kernel)
theorem zEl_80 : Cond.eq (.elem (.field (.string "CloneVolumes$Reader" 15) "java/lang/String" "value" "[B") (.int (Int32.ofNat 80))) (.int (zByt.getD 80 0)) ∈ flatC (Jvm.Cond.and given_1 narrow_1) := List.mem_of_getElem? (i := 93) (by decide +kernel)
theorem zEl_81 : Cond.eq (.elem (.field (.string "CloneVolumes$Reader" 15) "java/lang/String" "value" "[B") (.int (Int32.ofNat 81))) (.int (zByt.getD 81 0)) ∈ flatC (Jvm.Cond.and given_1 narrow_1) := List.mem_of_getElem? (i := 94) (by decide +kernel)
theorem zEl_82 : Cond.eq (.elem (.field (.string "CloneVolumes$Reader" 15) "java/lang/String" "value" "[B") (.int (Int32.ofNat 82))) (.int (zByt.getD 82 0)) ∈ flatC (Jvm.Cond.and given_1 narrow_1) := List.mem_of_getElem? (i := 95) (by decide +kernel)
theorem zEl_83 : Cond.eq (.elem (.field (.string "CloneVolumes$Reader" 15) "java/lang/String" "value" "[B") (.int (Int32.ofNat 83))) (.int (zByt.getD 83 0)) ∈ flatC (Jvm.Cond.and given_1 narrow_1) := List.mem_of_getElem? (i := 96) (by decide +kernel)
theorem zEl_84 : Cond.eq (.elem (.field (.string "CloneVolumes$Reader" 15) "java/lang/String" "value" "[B") (.int (Int32.ofNat 84))) (.int (zByt.getD 84 0)) ∈ flatC (Jvm.Cond.and given_1 narrow_1) := List.mem_of_getElem? (i := 97) (by decide +kernel)
theorem zEl_85 : Cond.eq (.elem (.field (.string "CloneVolumes$Reader" 15) "java/lang/String" "value" "[B") (.int (Int32.ofNat 85))) (.int (zByt.getD 85 0)) ∈ flatC (Jvm.Cond.and given_1 narrow_1) := List.mem_of_getElem? (i := 98) (by decide +kernel)
theorem zEl_86 : Cond.eq (.elem (.field (.string "CloneVolumes$Reader" 15) "java/lang/String" "value" "[B") (.int (Int32.ofNat 86))) (.int (zByt.getD 86 0)) ∈ flatC (Jvm.Cond.and given_1 narrow_1) := List.mem_of_getElem? (i := 99) (by decide +kernel)
theorem zEl_87 : Cond.eq (.elem (.field (.string "CloneVolumes$Reader" 15) "java/lang/String" "value" "[B") (.int (Int32.ofNat 87))) (.int (zByt.getD 87 0)) ∈ flatC (Jvm.Cond.and given_1 narrow_1) := List.mem_of_getElem? (i := 100) (by decide +kernel)
theorem zEl_88 : Cond.eq (.elem (.field (.string "CloneVolumes$Reader" 15) "java/lang/String" "value" "[B") (.int (Int32.ofNat 88))) (.int (zByt.getD 88 0)) ∈ flatC (Jvm.Cond.and given_1 narrow_1) := List.mem_of_getElem? (i := 101) (by decide +kernel)
theorem zEl_89 : Cond.eq (.elem (.field (.string "CloneVolumes$Reader" 15) "java/lang/String" "value" "[B") (.int (Int32.ofNat 89))) (.int (zByt.getD 89 0)) ∈ flatC (Jvm.Cond.and given_1 narrow_1) := List.mem_of_getElem? (i := 102) (by decide +kernel)
theorem zEl_90 : Cond.eq (.elem (.field (.string "CloneVolumes$Reader" 15) "java/lang/String" "value" "[B") (.int (Int32.ofNat 90))) (.int (zByt.getD 90 0)) ∈ flatC (Jvm.Cond.and given_1 narrow_1) := List.mem_of_getElem? (i := 103) (by decide +kernel)
theorem zEl_91 : Cond.eq (.elem (.field (.string "CloneVolumes$Reader" 15) "java/lang/String" "value" "[B") (.int (Int32.ofNat 91))) (.int (zByt.getD 91 0)) ∈ flatC (Jvm.Cond.and given_1 narrow_1) := List.mem_of_getElem? (i := 104) (by decide +kernel)
theorem zEl_92 : Cond.eq (.elem (.field (.string "CloneVolumes$Reader" 15) "java/lang/String" "value" "[B") (.int (Int32.ofNat 92))) (.int (zByt.getD 92 0)) ∈ flatC (Jvm.Cond.and given_1 narrow_1) := List.mem_of_getElem? (i := 105) (by decide +kernel)
theorem zEl_93 : Cond.eq (.elem (.field (.string "CloneVolumes$Reader" 15) "java/lang/String" "value" "[B") (.int (Int32.ofNat 93))) (.int (zByt.getD 93 0)) ∈ flatC (Jvm.Cond.and given_1 narrow_1) := List.mem_of_getElem? (i := 106) (by decide +kernel)
theorem zEl_94 : Cond.eq (.elem (.field (.string "CloneVolumes$Reader" 15) "java/lang/String" "value" "[B") (.int (Int32.ofNat 94))) (.int (zByt.getD 94 0)) ∈ flatC (Jvm.Cond.and given_1 narrow_1) := List.mem_of_getElem? (i := 107) (by decide +kernel)
theorem zEl_95 : Cond.eq (.elem (.field (.string "CloneVolumes$Reader" 15) "java/lang/String" "value" "[B") (.int (Int32.ofNat 95))) (.int (zByt.getD 95 0)) ∈ flatC (Jvm.Cond.and given_1 narrow_1) := List.mem_of_getElem? (i := 108) (by decide +kernel)
theorem zEl_96 : Cond.eq (.elem (.field (.string "CloneVolumes$Reader" 15) "java/lang/String" "value" "[B") (.int (Int32.ofNat 96))) (.int (zByt.getD 96 0)) ∈ flatC (Jvm.Cond.and given_1 narrow_1) := List.mem_of_getElem? (i := 109) (by decide +kernel)
theorem zEl_97 : Cond.eq (.elem (.field (.string "CloneVolumes$Reader" 15) "java/lang/String" "value" "[B") (.int (Int32.ofNat 97))) (.int (zByt.getD 97 0)) ∈ flatC (Jvm.Cond.and given_1 narrow_1) := List.mem_of_getElem? (i := 110) (by decide +kernel)
theorem zEl_98 : Cond.eq (.elem (.field (.string "CloneVolumes$Reader" 15) "java/lang/String" "value" "[B") (.int (Int32.ofNat 98))) (.int (zByt.getD 98 0)) ∈ flatC (Jvm.Cond.and given_1 narrow_1) := List.mem_of_getElem? (i := 111) (by decide +kernel)
theorem zEl_99 : Cond.eq (.elem (.field (.string "CloneVolumes$Reader" 15) "java/lang/String" "value" "[B") (.int (Int32.ofNat 99))) (.int (zByt.getD 99 0)) ∈ flatC (Jvm.Cond.and given_1 narrow_1) := List.mem_of_getElem? (i := 112) (by decide +kernel)
theorem zEl_100 : Cond.eq (.elem (.field (.string "CloneVolumes$Reader" 15) "java/lang/String" "value" "[B") (.int (Int32.ofNat 100))) (.int (zByt.getD 100 0)) ∈ flatC (Jvm.Cond.and given_1 narrow_1) := List.mem_of_getElem? (i := 113) (by decide +kernel)
theorem zEl_101 : Cond.eq (.elem (.field (.string "CloneVolumes$Reader" 15) "java/lang/String" "value" "[B") (.int (Int32.ofNat 101))) (.int (zByt.getD 101 0)) ∈ flatC (Jvm.Cond.and given_1 narrow_1) := List.mem_of_getElem? (i := 114) (by decide +kernel)
theorem zEl_102 : Cond.eq (.elem (.field (.string "CloneVolumes$Reader" 15) "java/lang/String" "value" "[B") (.int (Int32.ofNat 102))) (.int (zByt.getD 102 0)) ∈ flatC (Jvm.Cond.and given_1 narrow_1) := List.mem_of_getElem? (i := 115) (by decide +kernel)
theorem zEl_103 : Cond.eq (.elem (.field (.string "CloneVolumes$Reader" 15) "java/lang/String" "value" "[B") (.int (Int32.ofNat 103))) (.int (zByt.getD 103 0)) ∈ flatC (Jvm.Cond.and given_1 narrow_1) := List.mem_of_getElem? (i := 116) (by decide +kernel)
theorem zEl_104 : Cond.eq (.elem (.field (.string "CloneVolumes$Reader" 15) "java/lang/String" "value" "[B") (.int (Int32.ofNat 104))) (.int (zByt.getD 104 0)) ∈ flatC (Jvm.Cond.and given_1 narrow_1) := List.mem_of_getElem? (i := 117) (by decide +kernel)
theorem zEl_105 : Cond.eq (.elem (.field (.string "CloneVolumes$Reader" 15) "java/lang/String" "value" "[B") (.int (Int32.ofNat 105))) (.int (zByt.getD 105 0)) ∈ flatC (Jvm.Cond.and given_1 narrow_1) := List.mem_of_getElem? (i := 118) (by decide +kernel)
theorem zEl_106 : Cond.eq (.elem (.field (.string "CloneVolumes$Reader" 15) "java/lang/String" "value" "[B") (.int (Int32.ofNat 106))) (.int (zByt.getD 106 0)) ∈ flatC (Jvm.Cond.and given_1 narrow_1) := List.mem_of_getElem? (i := 119) (by decide +kernel)
theorem zEl_107 : Cond.eq (.elem (.field (.string "CloneVolumes$Reader" 15) "java/lang/String" "value" "[B") (.int (Int32.ofNat 107))) (.int (zByt.getD 107 0)) ∈ flatC (Jvm.Cond.and given_1 narrow_1) := List.mem_of_getElem? (i := 120) (by decide +kernel)
theorem zEl_108 : Cond.eq (.elem (.field (.string "CloneVolumes$Reader" 15) "java/lang/String" "value" "[B") (.int (Int32.ofNat 108))) (.int (zByt.getD 108 0)) ∈ flatC (Jvm.Cond.and given_1 narrow_1) := List.mem_of_getElem? (i := 121) (by decide +kernel)
theorem zEl_109 : Cond.eq (.elem (.field (.string "CloneVolumes$Reader" 15) "java/lang/String" "value" "[B") (.int (Int32.ofNat 109))) (.int (zByt.getD 109 0)) ∈ flatC (Jvm.Cond.and given_1 narrow_1) := List.mem_of_getElem? (i := 122) (by decide +kernel)
theorem zEl_110 : Cond.eq (.elem (.field (.string "CloneVolumes$Reader" 15) "java/lang/String" "value" "[B") (.int (Int32.ofNat 110))) (.int (zByt.getD 110 0)) ∈ flatC (Jvm.Cond.and given_1 narrow_1) := List.mem_of_getElem? (i := 123) (by decide +kernel)
theorem zEl_111 : Cond.eq (.elem (.field (.string "CloneVolumes$Reader" 15) "java/lang/String" "value" "[B") (.int (Int32.ofNat 111))) (.int (zByt.getD 111 0)) ∈ flatC (Jvm.Cond.and given_1 narrow_1) := List.mem_of_getElem? (i := 124) (by decide +kernel)
theorem zEl_112 : Cond.eq (.elem (.field (.string "CloneVolumes$Reader" 15) "java/lang/String" "value" "[B") (.int (Int32.ofNat 112))) (.int (zByt.getD 112 0)) ∈ flatC (Jvm.Cond.and given_1 narrow_1) := List.mem_of_getElem? (i := 125) (by decide +kernel)
theorem zEl_113 : Cond.eq (.elem (.field (.string "CloneVolumes$Reader" 15) "java/lang/String" "value" "[B") (.int (Int32.ofNat 113))) (.int (zByt.getD 113 0)) ∈ flatC (Jvm.Cond.and given_1 narrow_1) := List.mem_of_getElem? (i := 126) (by decide +kernel)
theorem zEl_114 : Cond.eq (.elem (.field (.string "CloneVolumes$Reader" 15) "java/lang/String" "value" "[B") (.int (Int32.ofNat 114))) (.int (zByt.getD 114 0)) ∈ flatC (Jvm.Cond.and given_1 narrow_1) := List.mem_of_getElem? (i := 127) (by decide +kernel)
theorem zEl_115 : Cond.eq (.elem (.field (.string "CloneVolumes$Reader" 15) "java/lang/String" "value" "[B") (.int (Int32.ofNat 115))) (.int (zByt.getD 115 0)) ∈ flatC (Jvm.Cond.and given_1 narrow_1) := List.mem_of_getElem? (i := 128) (by decide +kernel)
theorem zEl_116 : Cond.eq (.elem (.field (.string "CloneVolumes$Reader" 15) "java/lang/String" "value" "[B") (.int (Int32.ofNat 116))) (.int (zByt.getD 116 0)) ∈ flatC (Jvm.Cond.and given_1 narrow_1) := List.mem_of_getElem? (i := 129) (by decide +kernel)
theorem zEl_117 : Cond.eq (.elem (.field (.string "CloneVolumes$Reader" 15) "java/lang/String" "value" "[B") (.int (Int32.ofNat 117))) (.int (zByt.getD 117 0)) ∈ flatC (Jvm.Cond.and given_1 narrow_1) := List.mem_of_getElem? (i := 130) (by decide +kernel)
theorem zEl_118 : Cond.eq (.elem (.field (.string "CloneVolumes$Reader" 15) "java/lang/String" "value" "[B") (.int (Int32.ofNat 118))) (.int (zByt.getD 118 0)) ∈ flatC (Jvm.Cond.and given_1 narrow_1) := List.mem_of_getElem? (i := 131) (by decide +kernel)
theorem zEl_119 : Cond.eq (.elem (.field (.string "CloneVolumes$Reader" 15) "java/lang/String" "value" "[B") (.int (Int32.ofNat 119))) (.int (zByt.getD 119 0)) ∈ flatC (Jvm.Cond.and given_1 narrow_1) := List.mem_of_getElem? (i := 132) (by decide +kernel)
theorem zEl_120 : Cond.eq (.elem (.field (.string "CloneVolumes$Reader" 15) "java/lang/String" "value" "[B") (.int (Int32.ofNat 120))) (.int (zByt.getD 120 0)) ∈ flatC (Jvm.Cond.and given_1 narrow_1) := List.mem_of_getElem? (i := 133) (by decide +kernel)
theorem zEl_121 : Cond.eq (.elem (.field (.string "CloneVolumes$Reader" 15) "java/lang/String" "value" "[B") (.int (Int32.ofNat 121))) (.int (zByt.getD 121 0)) ∈ flatC (Jvm.Cond.and given_1 narrow_1) := List.mem_of_getElem? (i := 134) (by decide +kernel)
theorem zEl_122 : Cond.eq (.elem (.field (.string "CloneVolumes$Reader" 15) "java/lang/String" "value" "[B") (.int (Int32.ofNat 122))) (.int (zByt.getD 122 0)) ∈ flatC (Jvm.Cond.and given_1 narrow_1) := List.mem_of_getElem? (i := 135) (by decide +kernel)
theorem zEl_123 : Cond.eq (.elem (.field (.string "CloneVolumes$Reader" 15) "java/lang/String" "value" "[B") (.int (Int32.ofNat 123))) (.int (zByt.getD 123 0)) ∈ flatC (Jvm.Cond.and given_1 narrow_1) := List.mem_of_getElem? (i := 136) (by decide +kernel)
theorem zEl_124 : Cond.eq (.elem (.field (.string "CloneVolumes$Reader" 15) "java/lang/String" "value" "[B") (.int (Int32.ofNat 124))) (.int (zByt.getD 124 0)) ∈ flatC (Jvm.Cond.and given_1 narrow_1) := List.mem_of_getElem? (i := 137) (by decide +kernel)
theorem zEl_125 : Cond.eq (.elem (.field (.string "CloneVolumes$Reader" 15) "java/lang/String" "value" "[B") (.int (Int32.ofNat 125))) (.int (zByt.getD 125 0)) ∈ flatC (Jvm.Cond.and given_1 narrow_1) := List.mem_of_getElem? (i := 138) (by decide +kernel)
theorem zEl_126 : Cond.eq (.elem (.field (.string "CloneVolumes$Reader" 15) "java/lang/String" "value" "[B") (.int (Int32.ofNat 126))) (.int (zByt.getD 126 0)) ∈ flatC (Jvm.Cond.and given_1 narrow_1) := List.mem_of_getElem? (i := 139) (by decide +kernel)
theorem zEl_127 : Cond.eq (.elem (.field (.string "CloneVolumes$Reader" 15) "java/lang/String" "value" "[B") (.int (Int32.ofNat 127))) (.int (zByt.getD 127 0)) ∈ flatC (Jvm.Cond.and given_1 narrow_1) := List.mem_of_getElem? (i := 140) (by decide +kernel)
theorem zEl_128 : Cond.eq (.elem (.field (.string "CloneVolumes$Reader" 15) "java/lang/String" "value" "[B") (.int (Int32.ofNat 128))) (.int (zByt.getD 128 0)) ∈ flatC (Jvm.Cond.and given_1 narrow_1) := List.mem_of_getElem? (i := 141) (by decide +kernel)
theorem zEl_129 : Cond.eq (.elem (.field (.string "CloneVolumes$Reader" 15) "java/lang/String" "value" "[B") (.int (Int32.ofNat 129))) (.int (zByt.getD 129 0)) ∈ flatC (Jvm.Cond.and given_1 narrow_1) := List.mem_of_getElem? (i := 142) (by decide +kernel)
theorem zEl_130 : Cond.eq (.elem (.field (.string "CloneVolumes$Reader" 15) "java/lang/String" "value" "[B") (.int (Int32.ofNat 130))) (.int (zByt.getD 130 0)) ∈ flatC (Jvm.Cond.and given_1 narrow_1) := List.mem_of_getElem? (i := 143) (by decide +kernel)
theorem zEl_131 : Cond.eq (.elem (.field (.string "CloneVolumes$Reader" 15) "java/lang/String" "value" "[B") (.int (Int32.ofNat 131))) (.int (zByt.getD 131 0)) ∈ flatC (Jvm.Cond.and given_1 narrow_1) := List.mem_of_getElem? (i := 144) (by decide +kernel)
theorem zEl_132 : Cond.eq (.elem (.field (.string "CloneVolumes$Reader" 15) "java/lang/String" "value" "[B") (.int (Int32.ofNat 132))) (.int (zByt.getD 132 0)) ∈ flatC (Jvm.Cond.and given_1 narrow_1) := List.mem_of_getElem? (i := 145) (by decide +kernel)
theorem zEl_133 : Cond.eq (.elem (.field (.string "CloneVolumes$Reader" 15) "java/lang/String" "value" "[B") (.int (Int32.ofNat 133))) (.int (zByt.getD 133 0)) ∈ flatC (Jvm.Cond.and given_1 narrow_1) := List.mem_of_getElem? (i := 146) (by decide +kernel)
theorem zEl_134 : Cond.eq (.elem (.field (.string "CloneVolumes$Reader" 15) "java/lang/String" "value" "[B") (.int (Int32.ofNat 134))) (.int (zByt.getD 134 0)) ∈ flatC (Jvm.Cond.and given_1 narrow_1) := List.mem_of_getElem? (i := 147) (by decide +kernel)
theorem zEl_135 : Cond.eq (.elem (.field (.string "CloneVolumes$Reader" 15) "java/lang/String" "value" "[B") (.int (Int32.ofNat 135))) (.int (zByt.getD 135 0)) ∈ flatC (Jvm.Cond.and given_1 narrow_1) := List.mem_of_getElem? (i := 148) (by decide +kernel)
theorem zEl_136 : Cond.eq (.elem (.field (.string "CloneVolumes$Reader" 15) "java/lang/String" "value" "[B") (.int (Int32.ofNat 136))) (.int (zByt.getD 136 0)) ∈ flatC (Jvm.Cond.and given_1 narrow_1) := List.mem_of_getElem? (i := 149) (by decide +kernel)
theorem zEl_137 : Cond.eq (.elem (.field (.string "CloneVolumes$Reader" 15) "java/lang/String" "value" "[B") (.int (Int32.ofNat 137))) (.int (zByt.getD 137 0)) ∈ flatC (Jvm.Cond.and given_1 narrow_1) := List.mem_of_getElem? (i := 150) (by decide +kernel)
theorem zEl_138 : Cond.eq (.elem (.field (.string "CloneVolumes$Reader" 15) "java/lang/String" "value" "[B") (.int (Int32.ofNat 138))) (.int (zByt.getD 138 0)) ∈ flatC (Jvm.Cond.and given_1 narrow_1) := List.mem_of_getElem? (i := 151) (by decide +kernel)
theorem zEl_139 : Cond.eq (.elem (.field (.string "CloneVolumes$Reader" 15) "java/lang/String" "value" "[B") (.int (Int32.ofNat 139))) (.int (zByt.getD 139 0)) ∈ flatC (Jvm.Cond.and given_1 narrow_1) := List.mem_of_getElem? (i := 152) (by decide +kernel)
theorem zEl_140 : Cond.eq (.elem (.field (.string "CloneVolumes$Reader" 15) "java/lang/String" "value" "[B") (.int (Int32.ofNat 140))) (.int (zByt.getD 140 0)) ∈ flatC (Jvm.Cond.and given_1 narrow_1) := List.mem_of_getElem? (i := 153) (by decide +kernel)
theorem zEl_141 : Cond.eq (.elem (.field (.string "CloneVolumes$Reader" 15) "java/lang/String" "value" "[B") (.int (Int32.ofNat 141))) (.int (zByt.getD 141 0)) ∈ flatC (Jvm.Cond.and given_1 narrow_1) := List.mem_of_getElem? (i := 154) (by decide +kernel)
theorem zEl_142 : Cond.eq (.elem (.field (.string "CloneVolumes$Reader" 15) "java/lang/String" "value" "[B") (.int (Int32.ofNat 142))) (.int (zByt.getD 142 0)) ∈ flatC (Jvm.Cond.and given_1 narrow_1) := List.mem_of_getElem? (i := 155) (by decide +kernel)
theorem zEl_143 : Cond.eq (.elem (.field (.string "CloneVolumes$Reader" 15) "java/lang/String" "value" "[B") (.int (Int32.ofNat 143))) (.int (zByt.getD 143 0)) ∈ flatC (Jvm.Cond.and given_1 narrow_1) := List.mem_of_getElem? (i := 156) (by decide +kernel)
theorem zEl_144 : Cond.eq (.elem (.field (.string "CloneVolumes$Reader" 15) "java/lang/String" "value" "[B") (.int (Int32.ofNat 144))) (.int (zByt.getD 144 0)) ∈ flatC (Jvm.Cond.and given_1 narrow_1) := List.mem_of_getElem? (i := 157) (by decide +kernel)
theorem zEl_145 : Cond.eq (.elem (.field (.string "CloneVolumes$Reader" 15) "java/lang/String" "value" "[B") (.int (Int32.ofNat 145))) (.int (zByt.getD 145 0)) ∈ flatC (Jvm.Cond.and given_1 narrow_1) := List.mem_of_getElem? (i := 158) (by decide +kernel)
theorem zEl_146 : Cond.eq (.elem (.field (.string "CloneVolumes$Reader" 15) "java/lang/String" "value" "[B") (.int (Int32.ofNat 146))) (.int (zByt.getD 146 0)) ∈ flatC (Jvm.Cond.and given_1 narrow_1) := List.mem_of_getElem? (i := 159) (by decide +kernel)
theorem zEl_147 : Cond.eq (.elem (.field (.string "CloneVolumes$Reader" 15) "java/lang/String" "value" "[B") (.int (Int32.ofNat 147))) (.int (zByt.getD 147 0)) ∈ flatC (Jvm.Cond.and given_1 narrow_1) := List.mem_of_getElem? (i := 160) (by decide +kernel)
theorem zEl_148 : Cond.eq (.elem (.field (.string "CloneVolumes$Reader" 15) "java/lang/String" "value" "[B") (.int (Int32.ofNat 148))) (.int (zByt.getD 148 0)) ∈ flatC (Jvm.Cond.and given_1 narrow_1) := List.mem_of_getElem? (i := 161) (by decide +kernel)
theorem zEl_149 : Cond.eq (.elem (.field (.string "CloneVolumes$Reader" 15) "java/lang/String" "value" "[B") (.int (Int32.ofNat 149))) (.int (zByt.getD 149 0)) ∈ flatC (Jvm.Cond.and given_1 narrow_1) := List.mem_of_getElem? (i := 162) (by decide +kernel)
theorem zEl_150 : Cond.eq (.elem (.field (.string "CloneVolumes$Reader" 15) "java/lang/String" "value" "[B") (.int (Int32.ofNat 150))) (.int (zByt.getD 150 0)) ∈ flatC (Jvm.Cond.and given_1 narrow_1) := List.mem_of_getElem? (i := 163) (by decide +kernel)
theorem zEl_151 : Cond.eq (.elem (.field (.string "CloneVolumes$Reader" 15) "java/lang/String" "value" "[B") (.int (Int32.ofNat 151))) (.int (zByt.getD 151 0)) ∈ flatC (Jvm.Cond.and given_1 narrow_1) := List.mem_of_getElem? (i := 164) (by decide +kernel)
theorem zEl_152 : Cond.eq (.elem (.field (.string "CloneVolumes$Reader" 15) "java/lang/String" "value" "[B") (.int (Int32.ofNat 152))) (.int (zByt.getD 152 0)) ∈ flatC (Jvm.Cond.and given_1 narrow_1) := List.mem_of_getElem? (i := 165) (by decide +kernel)
theorem zEl_153 : Cond.eq (.elem (.field (.string "CloneVolumes$Reader" 15) "java/lang/String" "value" "[B") (.int (Int32.ofNat 153))) (.int (zByt.getD 153 0)) ∈ flatC (Jvm.Cond.and given_1 narrow_1) := List.mem_of_getElem? (i := 166) (by decide +kernel)
theorem zEl_154 : Cond.eq (.elem (.field (.string "CloneVolumes$Reader" 15) "java/lang/String" "value" "[B") (.int (Int32.ofNat 154))) (.int (zByt.getD 154 0)) ∈ flatC (Jvm.Cond.and given_1 narrow_1) := List.mem_of_getElem? (i := 167) (by decide +kernel)
theorem zEl_155 : Cond.eq (.elem (.field (.string "CloneVolumes$Reader" 15) "java/lang/String" "value" "[B") (.int (Int32.ofNat 155))) (.int (zByt.getD 155 0)) ∈ flatC (Jvm.Cond.and given_1 narrow_1) := List.mem_of_getElem? (i := 168) (by decide +kernel)
theorem zEl_156 : Cond.eq (.elem (.field (.string "CloneVolumes$Reader" 15) "java/lang/String" "value" "[B") (.int (Int32.ofNat 156))) (.int (zByt.getD 156 0)) ∈ flatC (Jvm.Cond.and given_1 narrow_1) := List.mem_of_getElem? (i := 169) (by decide +kernel)
theorem zEl_157 : Cond.eq (.elem (.field (.string "CloneVolumes$Reader" 15) "java/lang/String" "value" "[B") (.int (Int32.ofNat 157))) (.int (zByt.getD 157 0)) ∈ flatC (Jvm.Cond.and given_1 narrow_1) := List.mem_of_getElem? (i := 170) (by decide +kernel)
theorem zEl_158 : Cond.eq (.elem (.field (.string "CloneVolumes$Reader" 15) "java/lang/String" "value" "[B") (.int (Int32.ofNat 158))) (.int (zByt.getD 158 0)) ∈ flatC (Jvm.Cond.and given_1 narrow_1) := List.mem_of_getElem? (i := 171) (by decide +kernel)
theorem zEl_159 : Cond.eq (.elem (.field (.string "CloneVolumes$Reader" 15) "java/lang/String" "value" "[B") (.int (Int32.ofNat 159))) (.int (zByt.getD 159 0)) ∈ flatC (Jvm.Cond.and given_1 narrow_1) := List.mem_of_getElem? (i := 172) (by decide +kernel)
theorem zEl_160 : Cond.eq (.elem (.field (.string "CloneVolumes$Reader" 15) "java/lang/String" "value" "[B") (.int (Int32.ofNat 160))) (.int (zByt.getD 160 0)) ∈ flatC (Jvm.Cond.and given_1 narrow_1) := List.mem_of_getElem? (i := 173) (by decide +kernel)
theorem zEl_161 : Cond.eq (.elem (.field (.string "CloneVolumes$Reader" 15) "java/lang/String" "value" "[B") (.int (Int32.ofNat 161))) (.int (zByt.getD 161 0)) ∈ flatC (Jvm.Cond.and given_1 narrow_1) := List.mem_of_getElem? (i := 174) (by decide +kernel)
theorem zEl_162 : Cond.eq (.elem (.field (.string "CloneVolumes$Reader" 15) "java/lang/String" "value" "[B") (.int (Int32.ofNat 162))) (.int (zByt.getD 162 0)) ∈ flatC (Jvm.Cond.and given_1 narrow_1) := List.mem_of_getElem? (i := 175) (by decide +kernel)
theorem zEl_163 : Cond.eq (.elem (.field (.string "CloneVolumes$Reader" 15) "java/lang/String" "value" "[B") (.int (Int32.ofNat 163))) (.int (zByt.getD 163 0)) ∈ flatC (Jvm.Cond.and given_1 narrow_1) := List.mem_of_getElem? (i := 176) (by decide +kernel)
theorem zEl_164 : Cond.eq (.elem (.field (.string "CloneVolumes$Reader" 15) "java/lang/String" "value" "[B") (.int (Int32.ofNat 164))) (.int (zByt.getD 164 0)) ∈ flatC (Jvm.Cond.and given_1 narrow_1) := List.mem_of_getElem? (i := 177) (by decide +kernel)
theorem zEl_165 : Cond.eq (.elem (.field (.string "CloneVolumes$Reader" 15) "java/lang/String" "value" "[B") (.int (Int32.ofNat 165))) (.int (zByt.getD 165 0)) ∈ flatC (Jvm.Cond.and given_1 narrow_1) := List.mem_of_getElem? (i := 178) (by decide +kernel)
theorem zEl_166 : Cond.eq (.elem (.field (.string "CloneVolumes$Reader" 15) "java/lang/String" "value" "[B") (.int (Int32.ofNat 166))) (.int (zByt.getD 166 0)) ∈ flatC (Jvm.Cond.and given_1 narrow_1) := List.mem_of_getElem? (i := 179) (by decide +kernel)
theorem zEl_167 : Cond.eq (.elem (.field (.string "CloneVolumes$Reader" 15) "java/lang/String" "value" "[B") (.int (Int32.ofNat 167))) (.int (zByt.getD 167 0)) ∈ flatC (Jvm.Cond.and given_1 narrow_1) := List.mem_of_getElem? (i := 180) (by decide +kernel)
theorem zEl_168 : Cond.eq (.elem (.field (.string "CloneVolumes$Reader" 15) "java/lang/String" "value" "[B") (.int (Int32.ofNat 168))) (.int (zByt.getD 168 0)) ∈ flatC (Jvm.Cond.and given_1 narrow_1) := List.mem_of_getElem? (i := 181) (by decide +kernel)
theorem zEl_169 : Cond.eq (.elem (.field (.string "CloneVolumes$Reader" 15) "java/lang/String" "value" "[B") (.int (Int32.ofNat 169))) (.int (zByt.getD 169 0)) ∈ flatC (Jvm.Cond.and given_1 narrow_1) := List.mem_of_getElem? (i := 182) (by decide +kernel)
theorem zEl_170 : Cond.eq (.elem (.field (.string "CloneVolumes$Reader" 15) "java/lang/String" "value" "[B") (.int (Int32.ofNat 170))) (.int (zByt.getD 170 0)) ∈ flatC (Jvm.Cond.and given_1 narrow_1) := List.mem_of_getElem? (i := 183) (by decide +kernel)
theorem zEl_171 : Cond.eq (.elem (.field (.string "CloneVolumes$Reader" 15) "java/lang/String" "value" "[B") (.int (Int32.ofNat 171))) (.int (zByt.getD 171 0)) ∈ flatC (Jvm.Cond.and given_1 narrow_1) := List.mem_of_getElem? (i := 184) (by decide +kernel)
theorem zEl_172 : Cond.eq (.elem (.field (.string "CloneVolumes$Reader" 15) "java/lang/String" "value" "[B") (.int (Int32.ofNat 172))) (.int (zByt.getD 172 0)) ∈ flatC (Jvm.Cond.and given_1 narrow_1) := List.mem_of_getElem? (i := 185) (by decide +kernel)
theorem zEl_173 : Cond.eq (.elem (.field (.string "CloneVolumes$Reader" 15) "java/lang/String" "value" "[B") (.int (Int32.ofNat 173))) (.int (zByt.getD 173 0)) ∈ flatC (Jvm.Cond.and given_1 narrow_1) := List.mem_of_getElem? (i := 186) (by decide +kernel)
theorem zEl_174 : Cond.eq (.elem (.field (.string "CloneVolumes$Reader" 15) "java/lang/String" "value" "[B") (.int (Int32.ofNat 174))) (.int (zByt.getD 174 0)) ∈ flatC (Jvm.Cond.and given_1 narrow_1) := List.mem_of_getElem? (i := 187) (by decide +kernel)
theorem zEl_175 : Cond.eq (.elem (.field (.string "CloneVolumes$Reader" 15) "java/lang/String" "value" "[B") (.int (Int32.ofNat 175))) (.int (zByt.getD 175 0)) ∈ flatC (Jvm.Cond.and given_1 narrow_1) := List.mem_of_getElem? (i := 188) (by decide +kernel)
theorem zEl_176 : Cond.eq (.elem (.field (.string "CloneVolumes$Reader" 15) "java/lang/String" "value" "[B") (.int (Int32.ofNat 176))) (.int (zByt.getD 176 0)) ∈ flatC (Jvm.Cond.and given_1 narrow_1) := List.mem_of_getElem? (i := 189) (by decide +kernel)
theorem zEl_177 : Cond.eq (.elem (.field (.string "CloneVolumes$Reader" 15) "java/lang/String" "value" "[B") (.int (Int32.ofNat 177))) (.int (zByt.getD 177 0)) ∈ flatC (Jvm.Cond.and given_1 narrow_1) := List.mem_of_getElem? (i := 190) (by decide +kernel)
theorem zEl_178 : Cond.eq (.elem (.field (.string "CloneVolumes$Reader" 15) "java/lang/String" "value" "[B") (.int (Int32.ofNat 178))) (.int (zByt.getD 178 0)) ∈ flatC (Jvm.Cond.and given_1 narrow_1) := List.mem_of_getElem? (i := 191) (by decide +kernel)
theorem zEl : ∀ j, j < 179 → Cond.eq (.elem (.field (.string "CloneVolumes$Reader" 15) "java/lang/String" "value" "[B") (.int (Int32.ofNat j))) (.int (zByt.getD j 0)) ∈ flatC (Jvm.Cond.and given_1 narrow_1) := by
  intro j hj
  match j, hj with
  | 0, _ => exact zEl_0
  | 1, _ => exact zEl_1
  | 2, _ => exact zEl_2
  | 3, _ => exact zEl_3
  | 4, _ => exact zEl_4
  | 5, _ => exact zEl_5
  | 6, _ => exact zEl_6
  | 7, _ => exact zEl_7
  | 8, _ => exact zEl_8
  | 9, _ => exact zEl_9
  | 10, _ => exact zEl_10
  | 11, _ => exact zEl_11
  | 12, _ => exact zEl_12
  | 13, _ => exact zEl_13
  | 14, _ => exact zEl_14
  | 15, _ => exact zEl_15
  | 16, _ => exact zEl_16
  | 17, _ => exact zEl_17
  | 18, _ => exact zEl_18
  | 19, _ => exact zEl_19
  | 20, _ => exact zEl_20
  | 21, _ => exact zEl_21
  | 22, _ => exact zEl_22
  | 23, _ => exact zEl_23
  | 24, _ => exact zEl_24
  | 25, _ => exact zEl_25
  | 26, _ => exact zEl_26
  | 27, _ => exact zEl_27
  | 28, _ => exact zEl_28
  | 29, _ => exact zEl_29
  | 30, _ => exact zEl_30
  | 31, _ => exact zEl_31
  | 32, _ => exact zEl_32
  | 33, _ => exact zEl_33
  | 34, _ => exact zEl_34
  | 35, _ => exact zEl_35
  | 36, _ => exact zEl_36
  | 37, _ => exact zEl_37
  | 38, _ => exact zEl_38
  | 39, _ => exact zEl_39
  | 40, _ => exact zEl_40
  | 41, _ => exact zEl_41
  | 42, _ => exact zEl_42
  | 43, _ => exact zEl_43
  | 44, _ => exact zEl_44
  | 45, _ => exact zEl_45
  | 46, _ => exact zEl_46
  | 47, _ => exact zEl_47
  | 48, _ => exact zEl_48
  | 49, _ => exact zEl_49
  | 50, _ => exact zEl_50
  | 51, _ => exact zEl_51
  | 52, _ => exact zEl_52
  | 53, _ => exact zEl_53
  | 54, _ => exact zEl_54
  | 55, _ => exact zEl_55
  | 56, _ => exact zEl_56
  | 57, _ => exact zEl_57
  | 58, _ => exact zEl_58
  | 59, _ => exact zEl_59
  | 60, _ => exact zEl_60
  | 61, _ => exact zEl_61
  | 62, _ => exact zEl_62
  | 63, _ => exact zEl_63
  | 64, _ => exact zEl_64
  | 65, _ => exact zEl_65
  | 66, _ => exact zEl_66
  | 67, _ => exact zEl_67
  | 68, _ => exact zEl_68
  | 69, _ => exact zEl_69
  | 70, _ => exact zEl_70
  | 71, _ => exact zEl_71
  | 72, _ => exact zEl_72
  | 73, _ => exact zEl_73
  | 74, _ => exact zEl_74
  | 75, _ => exact zEl_75
  | 76, _ => exact zEl_76
  | 77, _ => exact zEl_77
  | 78, _ => exact zEl_78
  | 79, _ => exact zEl_79
  | 80, _ => exact zEl_80
  | 81, _ => exact zEl_81
  | 82, _ => exact zEl_82
  | 83, _ => exact zEl_83
  | 84, _ => exact zEl_84
  | 85, _ => exact zEl_85
  | 86, _ => exact zEl_86
  | 87, _ => exact zEl_87
  | 88, _ => exact zEl_88
  | 89, _ => exact zEl_89
  | 90, _ => exact zEl_90
  | 91, _ => exact zEl_91
  | 92, _ => exact zEl_92
  | 93, _ => exact zEl_93
  | 94, _ => exact zEl_94
  | 95, _ => exact zEl_95
  | 96, _ => exact zEl_96
  | 97, _ => exact zEl_97
  | 98, _ => exact zEl_98
  | 99, _ => exact zEl_99
  | 100, _ => exact zEl_100
  | 101, _ => exact zEl_101
  | 102, _ => exact zEl_102
  | 103, _ => exact zEl_103
  | 104, _ => exact zEl_104
  | 105, _ => exact zEl_105
  | 106, _ => exact zEl_106
  | 107, _ => exact zEl_107
  | 108, _ => exact zEl_108
  | 109, _ => exact zEl_109
  | 110, _ => exact zEl_110
  | 111, _ => exact zEl_111
  | 112, _ => exact zEl_112
  | 113, _ => exact zEl_113
  | 114, _ => exact zEl_114
  | 115, _ => exact zEl_115
  | 116, _ => exact zEl_116
  | 117, _ => exact zEl_117
  | 118, _ => exact zEl_118
  | 119, _ => exact zEl_119
  | 120, _ => exact zEl_120
  | 121, _ => exact zEl_121
  | 122, _ => exact zEl_122
  | 123, _ => exact zEl_123
  | 124, _ => exact zEl_124
  | 125, _ => exact zEl_125
  | 126, _ => exact zEl_126
  | 127, _ => exact zEl_127
  | 128, _ => exact zEl_128
  | 129, _ => exact zEl_129
  | 130, _ => exact zEl_130
  | 131, _ => exact zEl_131
  | 132, _ => exact zEl_132
  | 133, _ => exact zEl_133
  | 134, _ => exact zEl_134
  | 135, _ => exact zEl_135
  | 136, _ => exact zEl_136
  | 137, _ => exact zEl_137
  | 138, _ => exact zEl_138
  | 139, _ => exact zEl_139
  | 140, _ => exact zEl_140
  | 141, _ => exact zEl_141
  | 142, _ => exact zEl_142
  | 143, _ => exact zEl_143
  | 144, _ => exact zEl_144
  | 145, _ => exact zEl_145
  | 146, _ => exact zEl_146
  | 147, _ => exact zEl_147
  | 148, _ => exact zEl_148
  | 149, _ => exact zEl_149
  | 150, _ => exact zEl_150
  | 151, _ => exact zEl_151
  | 152, _ => exact zEl_152
  | 153, _ => exact zEl_153
  | 154, _ => exact zEl_154
  | 155, _ => exact zEl_155
  | 156, _ => exact zEl_156
  | 157, _ => exact zEl_157
  | 158, _ => exact zEl_158
  | 159, _ => exact zEl_159
  | 160, _ => exact zEl_160
  | 161, _ => exact zEl_161
  | 162, _ => exact zEl_162
  | 163, _ => exact zEl_163
  | 164, _ => exact zEl_164
  | 165, _ => exact zEl_165
  | 166, _ => exact zEl_166
  | 167, _ => exact zEl_167
  | 168, _ => exact zEl_168
  | 169, _ => exact zEl_169
  | 170, _ => exact zEl_170
  | 171, _ => exact zEl_171
  | 172, _ => exact zEl_172
  | 173, _ => exact zEl_173
  | 174, _ => exact zEl_174
  | 175, _ => exact zEl_175
  | 176, _ => exact zEl_176
  | 177, _ => exact zEl_177
  | 178, _ => exact zEl_178
  | j + 179, hj => exact absurd hj (by omega)
theorem z_arr {s : State} {args : Array Value} {ty : FieldType} (h : (Cond.arrayClass ty).before args s = true) : ∃ cA : ClassId, ArrOfT s cA ty ∧ s.vm.findClass ("[" ++ ty.toString) = some cA := by
  obtain ⟨cA, kA, comp, h1, h2, h3⟩ := Cond.arrayClass_spec h
  exact ⟨cA, fun n z => ⟨fun k h => (by cases h), kA, h2, comp, h3⟩, h1⟩
/-- what the start gives -/
theorem z_start {s : State} {b : Nat} (hts : ∀ w ∈ lw_tbl, w.before #[Value.ref b] s = true) (hgv : (Jvm.Cond.and given_1 narrow_1).before #[Value.ref b] s = true) : ∃ qS vS : Nat, EE s.heap.size qS vS (fun j => zByt.getD j 0) s := by
  have hs := flat_of_before _ hgv
  have hA : ∀ a : Nat, a < s.heap.size → ¬ (fun q : Nat => s.heap.size ≤ q) a := fun a h => Nat.not_le.mpr h
  obtain ⟨adK, adV, hV, hq⟩ := vk_Sof (N := 1) (tm := fun _ => .string "CloneVolumes$Reader" 15) (len := [179]) (byt := [zByt]) (A := fun q : Nat => s.heap.size ≤ q)
    (fun i hi => by rcases (show i = 0 by omega) with rfl; decide)
    (fun i _ => hs _ (by decide +kernel))
    (fun i _ => hs _ (by decide +kernel))
    (fun i _ => hs _ (by decide +kernel))
    (fun i hi => by rcases (show i = 0 by omega) with rfl; exact hs _ (by decide +kernel))
    (fun i hi j hj => by rcases (show i = 0 by omega) with rfl; exact hs _ (zEl j hj))
    (fun i j hi hj hne => absurd (show i = j by omega) hne) hA
  obtain ⟨h1, h2, h3, h4⟩ := hV.1 0 (by decide)
  refine ⟨adK 0, adV 0, ⟨va_Nw.of rfl (hts (.methodLinkNest RX11 11 yX9_init "CloneVolumes") (List.mem_of_getElem? (i := 228) (by decide +kernel))), va_Nw.of rfl (hts (.methodLinkNest RX11 27 yX2_init "CloneVolumes") (List.mem_of_getElem? (i := 341) (by decide +kernel))), va_Nw.of rfl (hts (.methodLinkNest RX11 34 yX7_init "CloneVolumes") (List.mem_of_getElem? (i := 369) (by decide +kernel))), va_Nw.of rfl (hts (.methodLinkNest RX11 41 yX4_init "CloneVolumes") (List.mem_of_getElem? (i := 396) (by decide +kernel))), va_Nw.of rfl (hts (.methodLinkNest RX11 48 yX10_init "CloneVolumes") (List.mem_of_getElem? (i := 423) (by decide +kernel))), va_Nw.of rfl (hts (.methodLinkNest RX5 29 yX0_init "CloneVolumes") (List.mem_of_getElem? (i := 450) (by decide +kernel))), va_AO.of (hts _ (List.mem_of_getElem? (i := 346) (by decide +kernel))), vk_R.of (hts (.stringRef RX6 15 zText) (List.mem_of_getElem? (i := 252) (by decide +kernel))) (hq 0 (by decide))⟩, h1, h2, h3, h4, ?_⟩
  exact va_Zof (hts _ (List.mem_of_getElem? (i := 262) (by decide +kernel))) (hts _ (List.mem_of_getElem? (i := 201) (by decide +kernel))) (va_eqi (hs _ (by decide +kernel))) hA
set_option maxHeartbeats 4000000 in
set_option maxRecDepth 100000 in
theorem whole_start {p : Program} {e : Env} {s : State} {m : MethodId} {below : List Frame} {meth : Method} {c : Code} (l : Launch) {b L : Nat} {xs : Nat → Int32} (hL : L ≤ 6) (C0 : lw_At p s m meth c b L xs) : W p l e room_1 s m #[Value.ref b] below meth c s.heap [] 0 0 (lw_Z below #[Value.ref b] s) (entryFrame m ([Value.ref b] : List Value).toArray 4) := by
  obtain ⟨hx, hb, hr, hml, hown, hts, hX, hbl, hlocks, hgv⟩ := id C0
  have hb : c.code = cL_law := hb
  have hown : s.vm.findClass RL = some m.cls := hown
  have ht : ∀ w ∈ lw_gd, w.before #[Value.ref b] s = true := fun w h => hts w (lw_gd_in h)
  obtain ⟨A, hAe⟩ : ∃ A : Nat → Prop, A = fun q : Nat => s.heap.size ≤ q := ⟨_, rfl⟩
  have hA : ∀ q : Nat, s.heap.size ≤ q → A q := fun q h => by rw [hAe]; exact h
  have hAs : ∀ q : Nat, A q → s.heap.size ≤ q := fun q h => by rw [hAe] at h; exact h
  have hbA : ¬ A b := fun h => absurd (hAs b h) (Nat.not_le.mpr hbl)
  obtain ⟨qS, vS, hE⟩ := z_start hts hgv
  obtain ⟨c0, iS0, hKn0⟩ := u_known (C := RX0) (T := TX0) (N := 2) (n := 2) ht inX0 (ht _ ia_X0)
  obtain ⟨c1, iS1, hKn1⟩ := u_known (C := RX1) (T := TX1) (N := 9) (n := 9) ht inX1 (ht _ ia_X1)
  obtain ⟨c2, iS2, hKn2⟩ := u_known (C := RX2) (T := TX2) (N := 6) (n := 6) ht inX2 (ht _ ia_X2)
  obtain ⟨c3, iS3, hKn3⟩ := u_known (C := RX3) (T := TX3) (N := 10) (n := 10) ht inX3 (ht _ ia_X3)
  obtain ⟨c4, iS4, hKn4⟩ := u_known (C := RX4) (T := TX4) (N := 6) (n := 6) ht inX4 (ht _ ia_X4)
  obtain ⟨c5, iS5, hKn5⟩ := u_known (C := RX5) (T := TX5) (N := 14) (n := 14) ht inX5 (ht _ ia_X5)
  obtain ⟨c6, iS6, hKn6⟩ := u_known (C := RX6) (T := TX6) (N := 12) (n := 12) ht inX6 (ht _ ia_X6)
  obtain ⟨c7, iS7, hKn7⟩ := u_known (C := RX7) (T := TX7) (N := 6) (n := 6) ht inX7 (ht _ ia_X7)
  obtain ⟨c8, iS8, hKn8⟩ := u_known (C := RX8) (T := TX8) (N := 11) (n := 11) ht inX8 (ht _ ia_X8)
  obtain ⟨c9, iS9, hKn9⟩ := u_known (C := RX9) (T := TX9) (N := 2) (n := 2) ht inX9 (ht _ ia_X9)
  obtain ⟨c10, iS10, hKn10⟩ := u_known (C := RX10) (T := TX10) (N := 4) (n := 4) ht inX10 (ht _ ia_X10)
  obtain ⟨c11, iS11, hKn11⟩ := u_known (C := RX11) (T := TX11) (N := 13) (n := 13) ht inX11 (ht _ ia_X11)
  obtain ⟨c12, iS12, hKn12⟩ := u_known (C := RX12) (T := TX12) (N := 116) (n := 116) ht inX12 (ht _ ia_X12)
  obtain ⟨cA0, hAr0, hAn0⟩ := z_arr (ht _ ac_int)
  obtain ⟨cA1, hAr1, hAn1⟩ := z_arr (ht _ ac_char)
  obtain ⟨cA2, hAr2, hAn2⟩ := z_arr (ht _ ac_long)
  obtain ⟨cA3, hAr3, hAn3⟩ := z_arr (ht _ ac_boolean)
  obtain ⟨D, d0, d1, d2, d3, d4, d5, d6, d7, d8, d9, d10, d11, d12, d13, d14, d15, d16, j0, j1, j2, j3, j4, j5, j6, j7, j8, j9, j10, j11, j12⟩ : ∃ D : va_G, D.1 0 = c0 ∧ D.1 1 = c1 ∧ D.1 2 = c2 ∧ D.1 3 = c3 ∧ D.1 4 = c4 ∧ D.1 5 = c5 ∧ D.1 6 = c6 ∧ D.1 7 = c7 ∧ D.1 8 = c8 ∧ D.1 9 = c9 ∧ D.1 10 = c10 ∧ D.1 11 = c11 ∧ D.1 12 = c12 ∧ D.1 13 = cA0 ∧ D.1 14 = cA1 ∧ D.1 15 = cA2 ∧ D.1 16 = cA3 ∧ D.2 0 = iS0 ∧ D.2 1 = iS1 ∧ D.2 2 = iS2 ∧ D.2 3 = iS3 ∧ D.2 4 = iS4 ∧ D.2 5 = iS5 ∧ D.2 6 = iS6 ∧ D.2 7 = iS7 ∧ D.2 8 = iS8 ∧ D.2 9 = iS9 ∧ D.2 10 = iS10 ∧ D.2 11 = iS11 ∧ D.2 12 = iS12 := ⟨(fun k => (c0 :: c1 :: c2 :: c3 :: c4 :: c5 :: c6 :: c7 :: c8 :: c9 :: c10 :: c11 :: c12 :: cA0 :: cA1 :: cA2 :: cA3 :: [] : List ClassId).getD k c0, fun k => (iS0 :: iS1 :: iS2 :: iS3 :: iS4 :: iS5 :: iS6 :: iS7 :: iS8 :: iS9 :: iS10 :: iS11 :: iS12 :: [] : List (Nat → Nat)).getD k iS0), rfl, rfl, rfl, rfl, rfl, rfl, rfl, rfl, rfl, rfl, rfl, rfl, rfl, rfl, rfl, rfl, rfl, rfl, rfl, rfl, rfl, rfl, rfl, rfl, rfl, rfl, rfl, rfl, rfl, rfl⟩
  subst d0
  subst d1
  subst d2
  subst d3
  subst d4
  subst d5
  subst d6
  subst d7
  subst d8
  subst d9
  subst d10
  subst d11
  subst d12
  subst d13
  subst d14
  subst d15
  subst d16
  subst j0
  subst j1
  subst j2
  subst j3
  subst j4
  subst j5
  subst j6
  subst j7
  subst j8
  subst j9
  subst j10
  subst j11
  subst j12
  have hK : va_K D vwCl (TY D) s := by
    refine ⟨fun k q hq => ?_, fun k q hq => ?_⟩
    · match k, hq with
      | 0, hq => cases hq; exact hKn0
      | 1, hq => cases hq; exact hKn1
      | 2, hq => cases hq; exact hKn2
      | 3, hq => cases hq; exact hKn3
      | 4, hq => cases hq; exact hKn4
      | 5, hq => cases hq; exact hKn5
      | 6, hq => cases hq; exact hKn6
      | 7, hq => cases hq; exact hKn7
      | 8, hq => cases hq; exact hKn8
      | 9, hq => cases hq; exact hKn9
      | 10, hq => cases hq; exact hKn10
      | 11, hq => cases hq; exact hKn11
      | 12, hq => cases hq; exact hKn12
      | k + 13, hq => simp at hq
    · match k, hq with
      | 0, hq => cases hq; exact ⟨hAr0, hAn0⟩
      | 1, hq => cases hq; exact ⟨hAr1, hAn1⟩
      | 2, hq => cases hq; exact ⟨hAr2, hAn2⟩
      | 3, hq => cases hq; exact ⟨hAr3, hAn3⟩
      | k + 4, hq => simp at hq
  have hS : va_S A s.heap s.heap [] := va_S.rf
  have hP : va_P D vwCl [] s.heap := fun k q h => by simp at h
  have hD : va_D A [] := ⟨fun i j p q h => by simp at h, fun k q h => by simp at h⟩
  have hl := lv_entry ([.ref b]) (n := 4) (Nat.le_of_ble_eq_true rfl)
  rw [lg_entry_eq]
  generalize (lg_sl ([.ref b]) ++ List.replicate (4 - (lg_sl ([.ref b])).length) Slot.unset).toArray = ls at hl ⊢
  have hl : lv_has ls 4 [(0, .ref b)] := hl
  refine va_new (ci := 11) (fs := [.null, .null, .null, .null, .null, .null, .null, .null, .null, .null, .null, .null, .int 0]) (C := RX11) (T := TX11) (N := 13) hx hb ht inX11 tyX11 tyX11_ok hown (ht _ cx_L_7) (ht _ ia_X11) (ht _ in_X11) hK hP hD hS hA rfl (by decide +kernel) (Nat.le_of_ble_eq_true rfl) (Nat.le_of_ble_eq_true rfl) dL_law_0 (fun q_1 H hP hD hS => ?_)
  refine W.widen (k := 1) (n := 13) (Nat.le_of_ble_eq_true rfl) (Nat.le_of_ble_eq_true rfl) ?_
  have hP : va_P D vwCl [(q_1, .inr (11, [.null, .null, .null, .null, .null, .null, .null, .null, .null, .null, .null, .null, .int 0]))] H := hP
  have hD : va_D A [(q_1, .inr (11, [.null, .null, .null, .null, .null, .null, .null, .null, .null, .null, .null, .null, .int 0]))] := hD
  refine lv_dup hx hb dL_law_3 rfl ?_
  refine zwIE (As := []) (rest := [.ref q_1]) (n := 0) (wr := []) ⟨hx, hb, hml, hown, ht⟩ (k_X11_init l D _ s.heap.size qS vS (fun j => zByt.getD j 0) q_1) co_X11_init rfl rfl in_X11 ml_L_9 im_X11_init rfl (by decide +kernel) ⟨Nat.le_of_ble_eq_true rfl, Nat.le_of_ble_eq_true rfl⟩ hK hP hD hS hA hE hAs [0] [] rfl rfl rfl rfl (by decide) rfl hl.1 rfl (Nat.le_of_ble_eq_true rfl) dL_law_4 ⟨Nat.le_of_ble_eq_true rfl, Nat.le_of_ble_eq_true rfl⟩ (fun u H2 locs2 hw hP2 hD2 hS2 => ?_)
  clear hP hD hS
  obtain ⟨ax, fb, fe⟩ := u
  have hw : ax 0 = q_1 := hw
  subst hw
  refine W.widen (k := 83) (n := 11274) (Nat.le_of_ble_eq_true rfl) (Nat.le_of_ble_eq_true rfl) ?_
  have hP : va_P D vwCl [((ax 0), .inr (11, [.ref (ax 1), .ref (ax 2), .ref (ax 3), .ref (ax 4), .ref (ax 5), .ref (ax 6), .ref (ax 7), .ref (ax 8), .ref (ax 9), .ref (ax 10), .ref (ax 11), .ref (ax 12), .int 0])), ((ax 1), .inr (9, [.ref (ax 20), .int 0])), ((ax 20), .inl (D.1 13, 1600, .inl (fun _ => 0))), ((ax 2), .inr (6, [.int 0, .int (-1), .ref (ax 1), .ref (ax 21), .null, .int 0, .int 0, .int 0, .int 0, .int 0, .int 0, .int 0])), ((ax 3), .inr (2, [.ref (ax 22), .ref (ax 23), .ref (ax 24), .int 0, .ref (ax 25), .int 0])), ((ax 4), .inr (7, [.int 0, .ref (ax 26), .ref (ax 27), .ref (ax 28), .int 0, .ref (ax 29)])), ((ax 5), .inr (4, [.ref (ax 30), .int 0, .int 0, .ref (ax 31), .ref (ax 32), .ref (ax 33)])), ((ax 30), .inl (D.1 13, 1364, .inl (fun _ => 0))), ((ax 8), .inl (D.1 15, 8, .inr (.inl (fun _ => 0)))), ((ax 9), .inl (D.1 13, 6, .inl (fun _ => 0))), ((ax 11), .inr (5, [.int 0, .int 0, .int 0, .int 0, .int 0, .int 0, .ref (ax 50), .ref (ax 51), .ref (ax 52), .ref (ax 53), .ref (ax 54), .ref (ax 55), .ref (ax 56), .ref (ax 57)])), ((ax 55), .inr (0, [.ref (ax 58), .int 0])), ((ax 56), .inl (D.1 13, 3, .inl fb)), ((ax 57), .inl (D.1 13, 3, .inl fe)), ((ax 12), .inr (1, [.ref (ax 13), .ref (ax 14), .ref (ax 15), .int 1, .ref (ax 10), .ref (ax 16), .ref (ax 17), .ref (ax 18), .ref (ax 19)])), ((ax 13), .inr (8, [.int 0, .int 0, .long 0, .ref (ax 60), .ref (ax 61), .ref (ax 62), .ref (ax 63), .ref (ax 64), .ref (ax 65), .ref (ax 66), .ref (ax 67)])), ((ax 66), .inl (D.1 13, 8, .inl (fun _ => (-2)))), ((ax 67), .inl (D.1 13, 8, .inl (fun _ => (-2))))] H2 := hP2
  have hD : va_D A [((ax 0), .inr (11, [.ref (ax 1), .ref (ax 2), .ref (ax 3), .ref (ax 4), .ref (ax 5), .ref (ax 6), .ref (ax 7), .ref (ax 8), .ref (ax 9), .ref (ax 10), .ref (ax 11), .ref (ax 12), .int 0])), ((ax 1), .inr (9, [.ref (ax 20), .int 0])), ((ax 20), .inl (D.1 13, 1600, .inl (fun _ => 0))), ((ax 2), .inr (6, [.int 0, .int (-1), .ref (ax 1), .ref (ax 21), .null, .int 0, .int 0, .int 0, .int 0, .int 0, .int 0, .int 0])), ((ax 3), .inr (2, [.ref (ax 22), .ref (ax 23), .ref (ax 24), .int 0, .ref (ax 25), .int 0])), ((ax 4), .inr (7, [.int 0, .ref (ax 26), .ref (ax 27), .ref (ax 28), .int 0, .ref (ax 29)])), ((ax 5), .inr (4, [.ref (ax 30), .int 0, .int 0, .ref (ax 31), .ref (ax 32), .ref (ax 33)])), ((ax 30), .inl (D.1 13, 1364, .inl (fun _ => 0))), ((ax 8), .inl (D.1 15, 8, .inr (.inl (fun _ => 0)))), ((ax 9), .inl (D.1 13, 6, .inl (fun _ => 0))), ((ax 11), .inr (5, [.int 0, .int 0, .int 0, .int 0, .int 0, .int 0, .ref (ax 50), .ref (ax 51), .ref (ax 52), .ref (ax 53), .ref (ax 54), .ref (ax 55), .ref (ax 56), .ref (ax 57)])), ((ax 55), .inr (0, [.ref (ax 58), .int 0])), ((ax 56), .inl (D.1 13, 3, .inl fb)), ((ax 57), .inl (D.1 13, 3, .inl fe)), ((ax 12), .inr (1, [.ref (ax 13), .ref (ax 14), .ref (ax 15), .int 1, .ref (ax 10), .ref (ax 16), .ref (ax 17), .ref (ax 18), .ref (ax 19)])), ((ax 13), .inr (8, [.int 0, .int 0, .long 0, .ref (ax 60), .ref (ax 61), .ref (ax 62), .ref (ax 63), .ref (ax 64), .ref (ax 65), .ref (ax 66), .ref (ax 67)])), ((ax 66), .inl (D.1 13, 8, .inl (fun _ => (-2)))), ((ax 67), .inl (D.1 13, 8, .inl (fun _ => (-2))))] := hD2
  have hS := hS2
  refine lv_astore_n (lv' := [(1, .ref (ax 0)), (0, .ref b)]) hx hb dL_law_7 rfl hl (by decide) rfl (fun ls hl => ?_)
  refine va_new (ci := 12) (fs := mD) (C := RX12) (T := TX12) (N := 116) hx hb ht inX12 tyX12 tyX12_ok hown (ht _ cx_L_10) (ht _ ia_X12) (ht _ in_X12) hK hP hD hS hA rfl (by decide +kernel) (Nat.le_of_ble_eq_true rfl) (Nat.le_of_ble_eq_true rfl) dL_law_8 (fun q_2 H hP hD hS => ?_)
  have hP : va_P D vwCl [((ax 0), .inr (11, [.ref (ax 1), .ref (ax 2), .ref (ax 3), .ref (ax 4), .ref (ax 5), .ref (ax 6), .ref (ax 7), .ref (ax 8), .ref (ax 9), .ref (ax 10), .ref (ax 11), .ref (ax 12), .int 0])), ((ax 1), .inr (9, [.ref (ax 20), .int 0])), ((ax 20), .inl (D.1 13, 1600, .inl (fun _ => 0))), ((ax 2), .inr (6, [.int 0, .int (-1), .ref (ax 1), .ref (ax 21), .null, .int 0, .int 0, .int 0, .int 0, .int 0, .int 0, .int 0])), ((ax 3), .inr (2, [.ref (ax 22), .ref (ax 23), .ref (ax 24), .int 0, .ref (ax 25), .int 0])), ((ax 4), .inr (7, [.int 0, .ref (ax 26), .ref (ax 27), .ref (ax 28), .int 0, .ref (ax 29)])), ((ax 5), .inr (4, [.ref (ax 30), .int 0, .int 0, .ref (ax 31), .ref (ax 32), .ref (ax 33)])), ((ax 30), .inl (D.1 13, 1364, .inl (fun _ => 0))), ((ax 8), .inl (D.1 15, 8, .inr (.inl (fun _ => 0)))), ((ax 9), .inl (D.1 13, 6, .inl (fun _ => 0))), ((ax 11), .inr (5, [.int 0, .int 0, .int 0, .int 0, .int 0, .int 0, .ref (ax 50), .ref (ax 51), .ref (ax 52), .ref (ax 53), .ref (ax 54), .ref (ax 55), .ref (ax 56), .ref (ax 57)])), ((ax 55), .inr (0, [.ref (ax 58), .int 0])), ((ax 56), .inl (D.1 13, 3, .inl fb)), ((ax 57), .inl (D.1 13, 3, .inl fe)), ((ax 12), .inr (1, [.ref (ax 13), .ref (ax 14), .ref (ax 15), .int 1, .ref (ax 10), .ref (ax 16), .ref (ax 17), .ref (ax 18), .ref (ax 19)])), ((ax 13), .inr (8, [.int 0, .int 0, .long 0, .ref (ax 60), .ref (ax 61), .ref (ax 62), .ref (ax 63), .ref (ax 64), .ref (ax 65), .ref (ax 66), .ref (ax 67)])), ((ax 66), .inl (D.1 13, 8, .inl (fun _ => (-2)))), ((ax 67), .inl (D.1 13, 8, .inl (fun _ => (-2)))), (q_2, .inr (12, mD))] H := hP
  have hD : va_D A [((ax 0), .inr (11, [.ref (ax 1), .ref (ax 2), .ref (ax 3), .ref (ax 4), .ref (ax 5), .ref (ax 6), .ref (ax 7), .ref (ax 8), .ref (ax 9), .ref (ax 10), .ref (ax 11), .ref (ax 12), .int 0])), ((ax 1), .inr (9, [.ref (ax 20), .int 0])), ((ax 20), .inl (D.1 13, 1600, .inl (fun _ => 0))), ((ax 2), .inr (6, [.int 0, .int (-1), .ref (ax 1), .ref (ax 21), .null, .int 0, .int 0, .int 0, .int 0, .int 0, .int 0, .int 0])), ((ax 3), .inr (2, [.ref (ax 22), .ref (ax 23), .ref (ax 24), .int 0, .ref (ax 25), .int 0])), ((ax 4), .inr (7, [.int 0, .ref (ax 26), .ref (ax 27), .ref (ax 28), .int 0, .ref (ax 29)])), ((ax 5), .inr (4, [.ref (ax 30), .int 0, .int 0, .ref (ax 31), .ref (ax 32), .ref (ax 33)])), ((ax 30), .inl (D.1 13, 1364, .inl (fun _ => 0))), ((ax 8), .inl (D.1 15, 8, .inr (.inl (fun _ => 0)))), ((ax 9), .inl (D.1 13, 6, .inl (fun _ => 0))), ((ax 11), .inr (5, [.int 0, .int 0, .int 0, .int 0, .int 0, .int 0, .ref (ax 50), .ref (ax 51), .ref (ax 52), .ref (ax 53), .ref (ax 54), .ref (ax 55), .ref (ax 56), .ref (ax 57)])), ((ax 55), .inr (0, [.ref (ax 58), .int 0])), ((ax 56), .inl (D.1 13, 3, .inl fb)), ((ax 57), .inl (D.1 13, 3, .inl fe)), ((ax 12), .inr (1, [.ref (ax 13), .ref (ax 14), .ref (ax 15), .int 1, .ref (ax 10), .ref (ax 16), .ref (ax 17), .ref (ax 18), .ref (ax 19)])), ((ax 13), .inr (8, [.int 0, .int 0, .long 0, .ref (ax 60), .ref (ax 61), .ref (ax 62), .ref (ax 63), .ref (ax 64), .ref (ax 65), .ref (ax 66), .ref (ax 67)])), ((ax 66), .inl (D.1 13, 8, .inl (fun _ => (-2)))), ((ax 67), .inl (D.1 13, 8, .inl (fun _ => (-2)))), (q_2, .inr (12, mD))] := hD
  refine W.widen (k := 84) (n := 11390) (Nat.le_of_ble_eq_true rfl) (Nat.le_of_ble_eq_true rfl) ?_
  refine lv_dup hx hb dL_law_11 rfl ?_
  refine zwI (As := []) (rest := [.ref q_2]) (n := 0) (wr := [((ax 0), .inr (11, [.ref (ax 1), .ref (ax 2), .ref (ax 3), .ref (ax 4), .ref (ax 5), .ref (ax 6), .ref (ax 7), .ref (ax 8), .ref (ax 9), .ref (ax 10), .ref (ax 11), .ref (ax 12), .int 0])), ((ax 1), .inr (9, [.ref (ax 20), .int 0])), ((ax 20), .inl (D.1 13, 1600, .inl (fun _ => 0))), ((ax 2), .inr (6, [.int 0, .int (-1), .ref (ax 1), .ref (ax 21), .null, .int 0, .int 0, .int 0, .int 0, .int 0, .int 0, .int 0])), ((ax 3), .inr (2, [.ref (ax 22), .ref (ax 23), .ref (ax 24), .int 0, .ref (ax 25), .int 0])), ((ax 4), .inr (7, [.int 0, .ref (ax 26), .ref (ax 27), .ref (ax 28), .int 0, .ref (ax 29)])), ((ax 5), .inr (4, [.ref (ax 30), .int 0, .int 0, .ref (ax 31), .ref (ax 32), .ref (ax 33)])), ((ax 30), .inl (D.1 13, 1364, .inl (fun _ => 0))), ((ax 8), .inl (D.1 15, 8, .inr (.inl (fun _ => 0)))), ((ax 9), .inl (D.1 13, 6, .inl (fun _ => 0))), ((ax 11), .inr (5, [.int 0, .int 0, .int 0, .int 0, .int 0, .int 0, .ref (ax 50), .ref (ax 51), .ref (ax 52), .ref (ax 53), .ref (ax 54), .ref (ax 55), .ref (ax 56), .ref (ax 57)])), ((ax 55), .inr (0, [.ref (ax 58), .int 0])), ((ax 56), .inl (D.1 13, 3, .inl fb)), ((ax 57), .inl (D.1 13, 3, .inl fe)), ((ax 12), .inr (1, [.ref (ax 13), .ref (ax 14), .ref (ax 15), .int 1, .ref (ax 10), .ref (ax 16), .ref (ax 17), .ref (ax 18), .ref (ax 19)])), ((ax 13), .inr (8, [.int 0, .int 0, .long 0, .ref (ax 60), .ref (ax 61), .ref (ax 62), .ref (ax 63), .ref (ax 64), .ref (ax 65), .ref (ax 66), .ref (ax 67)])), ((ax 66), .inl (D.1 13, 8, .inl (fun _ => (-2)))), ((ax 67), .inl (D.1 13, 8, .inl (fun _ => (-2))))]) ⟨hx, hb, hml, hown, ht⟩ (k_X12_init l D _ q_2) co_X12_init rfl rfl in_X12 ml_L_12 im_X12_init rfl (by decide +kernel) ⟨Nat.le_of_ble_eq_true rfl, Nat.le_of_ble_eq_true rfl⟩ hK hP hD hS hA [18] [0, 1, 2, 3, 4, 5, 6, 7, 8, 9, 10, 11, 12, 13, 14, 15, 16, 17] rfl rfl rfl rfl (by decide) rfl hl.1 rfl (Nat.le_of_ble_eq_true rfl) dL_law_12 ⟨Nat.le_of_ble_eq_true rfl, Nat.le_of_ble_eq_true rfl⟩ (fun u H2 locs2 hw hP2 hD2 hS2 => ?_)
  clear hP hD hS
  obtain ⟨am, fc⟩ := u
  have hw : am 200 = q_2 := hw
  subst hw
  refine W.widen (k := 164) (n := 46440) (Nat.le_of_ble_eq_true rfl) (Nat.le_of_ble_eq_true rfl) ?_
  have hP : va_P D vwCl [((ax 0), .inr (11, [.ref (ax 1), .ref (ax 2), .ref (ax 3), .ref (ax 4), .ref (ax 5), .ref (ax 6), .ref (ax 7), .ref (ax 8), .ref (ax 9), .ref (ax 10), .ref (ax 11), .ref (ax 12), .int 0])), ((ax 1), .inr (9, [.ref (ax 20), .int 0])), ((ax 20), .inl (D.1 13, 1600, .inl (fun _ => 0))), ((ax 2), .inr (6, [.int 0, .int (-1), .ref (ax 1), .ref (ax 21), .null, .int 0, .int 0, .int 0, .int 0, .int 0, .int 0, .int 0])), ((ax 3), .inr (2, [.ref (ax 22), .ref (ax 23), .ref (ax 24), .int 0, .ref (ax 25), .int 0])), ((ax 4), .inr (7, [.int 0, .ref (ax 26), .ref (ax 27), .ref (ax 28), .int 0, .ref (ax 29)])), ((ax 5), .inr (4, [.ref (ax 30), .int 0, .int 0, .ref (ax 31), .ref (ax 32), .ref (ax 33)])), ((ax 30), .inl (D.1 13, 1364, .inl (fun _ => 0))), ((ax 8), .inl (D.1 15, 8, .inr (.inl (fun _ => 0)))), ((ax 9), .inl (D.1 13, 6, .inl (fun _ => 0))), ((ax 11), .inr (5, [.int 0, .int 0, .int 0, .int 0, .int 0, .int 0, .ref (ax 50), .ref (ax 51), .ref (ax 52), .ref (ax 53), .ref (ax 54), .ref (ax 55), .ref (ax 56), .ref (ax 57)])), ((ax 55), .inr (0, [.ref (ax 58), .int 0])), ((ax 56), .inl (D.1 13, 3, .inl fb)), ((ax 57), .inl (D.1 13, 3, .inl fe)), ((ax 12), .inr (1, [.ref (ax 13), .ref (ax 14), .ref (ax 15), .int 1, .ref (ax 10), .ref (ax 16), .ref (ax 17), .ref (ax 18), .ref (ax 19)])), ((ax 13), .inr (8, [.int 0, .int 0, .long 0, .ref (ax 60), .ref (ax 61), .ref (ax 62), .ref (ax 63), .ref (ax 64), .ref (ax 65), .ref (ax 66), .ref (ax 67)])), ((ax 66), .inl (D.1 13, 8, .inl (fun _ => (-2)))), ((ax 67), .inl (D.1 13, 8, .inl (fun _ => (-2)))), ((am 200), .inr (12, mO am 0 0 0 0 0 0 0 (-1) 0 0 1 0)), ((am 0), .inl (D.1 13, 1600, .inl (fun _ => 0))), ((am 9), .inl (D.1 13, 6, .inl (fun _ => 0))), ((am 39), .inl (D.1 13, 10, .inl (fun _ => 0))), ((am 49), .inl (D.1 13, 906, .inl (fun _ => 0))), ((am 42), .inl (D.1 13, 6, .inl fc)), ((am 72), .inl (D.1 13, 48, .inl (fun _ => 0))), ((am 111), .inl (D.1 13, 1364, .inl (fun _ => 0)))] H2 := hP2
  have hD : va_D A [((ax 0), .inr (11, [.ref (ax 1), .ref (ax 2), .ref (ax 3), .ref (ax 4), .ref (ax 5), .ref (ax 6), .ref (ax 7), .ref (ax 8), .ref (ax 9), .ref (ax 10), .ref (ax 11), .ref (ax 12), .int 0])), ((ax 1), .inr (9, [.ref (ax 20), .int 0])), ((ax 20), .inl (D.1 13, 1600, .inl (fun _ => 0))), ((ax 2), .inr (6, [.int 0, .int (-1), .ref (ax 1), .ref (ax 21), .null, .int 0, .int 0, .int 0, .int 0, .int 0, .int 0, .int 0])), ((ax 3), .inr (2, [.ref (ax 22), .ref (ax 23), .ref (ax 24), .int 0, .ref (ax 25), .int 0])), ((ax 4), .inr (7, [.int 0, .ref (ax 26), .ref (ax 27), .ref (ax 28), .int 0, .ref (ax 29)])), ((ax 5), .inr (4, [.ref (ax 30), .int 0, .int 0, .ref (ax 31), .ref (ax 32), .ref (ax 33)])), ((ax 30), .inl (D.1 13, 1364, .inl (fun _ => 0))), ((ax 8), .inl (D.1 15, 8, .inr (.inl (fun _ => 0)))), ((ax 9), .inl (D.1 13, 6, .inl (fun _ => 0))), ((ax 11), .inr (5, [.int 0, .int 0, .int 0, .int 0, .int 0, .int 0, .ref (ax 50), .ref (ax 51), .ref (ax 52), .ref (ax 53), .ref (ax 54), .ref (ax 55), .ref (ax 56), .ref (ax 57)])), ((ax 55), .inr (0, [.ref (ax 58), .int 0])), ((ax 56), .inl (D.1 13, 3, .inl fb)), ((ax 57), .inl (D.1 13, 3, .inl fe)), ((ax 12), .inr (1, [.ref (ax 13), .ref (ax 14), .ref (ax 15), .int 1, .ref (ax 10), .ref (ax 16), .ref (ax 17), .ref (ax 18), .ref (ax 19)])), ((ax 13), .inr (8, [.int 0, .int 0, .long 0, .ref (ax 60), .ref (ax 61), .ref (ax 62), .ref (ax 63), .ref (ax 64), .ref (ax 65), .ref (ax 66), .ref (ax 67)])), ((ax 66), .inl (D.1 13, 8, .inl (fun _ => (-2)))), ((ax 67), .inl (D.1 13, 8, .inl (fun _ => (-2)))), ((am 200), .inr (12, mO am 0 0 0 0 0 0 0 (-1) 0 0 1 0)), ((am 0), .inl (D.1 13, 1600, .inl (fun _ => 0))), ((am 9), .inl (D.1 13, 6, .inl (fun _ => 0))), ((am 39), .inl (D.1 13, 10, .inl (fun _ => 0))), ((am 49), .inl (D.1 13, 906, .inl (fun _ => 0))), ((am 42), .inl (D.1 13, 6, .inl fc)), ((am 72), .inl (D.1 13, 48, .inl (fun _ => 0))), ((am 111), .inl (D.1 13, 1364, .inl (fun _ => 0)))] := hD2
  have hS := hS2
  refine lv_astore_n (lv' := [(2, .ref (am 200)), (1, .ref (ax 0)), (0, .ref b)]) hx hb dL_law_15 rfl hl (by decide) rfl (fun ls hl => ?_)
  refine lv_iconst (v := 0) hx hb dL_law_16 (by decide) ?_
  refine lv_istore_n (lv' := [(3, .int 0), (2, .ref (am 200)), (1, .ref (ax 0)), (0, .ref b)]) hx hb dL_law_17 rfl hl (by decide) rfl (fun ls hl => ?_)
  refine lv_iload_n hx hb dL_law_18 rfl (lv_at hl 0 rfl) ?_
  refine lv_aload_n hx hb dL_law_19 rfl (lv_at hl 3 rfl) ?_
  refine va_slen hx hb hX hbl hbA hS dL_law_20 ?_
  refine lv_bipush (v := 6) hx hb dL_law_21 (by decide) ?_
  refine lv_isub hx hb dL_law_23 ?_
  rcases Nat.lt_or_ge L 6 with hlt | hge
  · refine lv_icmp_gt (tgt := 1305) hx hb dL_law_24 (by decide) (fun _ => ?_) (fun c9 => (c9 (by rcases (show L = 0 ∨ L = 1 ∨ L = 2 ∨ L = 3 ∨ L = 4 ∨ L = 5 by omega) with rfl | rfl | rfl | rfl | rfl | rfl <;> decide)).elim)
    refine lv_iconst (v := 1) hx hb dL_law_1305 (by decide) ?_
    refine va_forget (fun q hq => hAs _ (hS.2.2 q hq)) ?_
    refine W.widen (k := 600000) (n := 7302249) (Nat.le_of_ble_eq_true rfl) (Nat.le_of_ble_eq_true rfl) ?_
    exact lw_ret hx hb hr hlocks dL_law_1306
  · obtain rfl : L = 6 := by omega
    refine lv_icmp_gt (tgt := 1305) hx hb dL_law_24 (by decide) (fun c9 => (z_abs c9 (by decide)).elim) (fun _ => ?_)
    refine lv_aload_n hx hb dL_law_27 rfl (lv_at hl 3 rfl) ?_
    refine lv_iload_n hx hb dL_law_28 rfl (lv_at hl 0 rfl) ?_
    refine va_sld hx hb hX hbl hbA hS (z_in (by decide) (by decide)) dL_law_29 ?_
    refine lv_bipush (v := 63) hx hb dL_law_30 (by decide) ?_
    refine lv_iand hx hb dL_law_32 ?_
    refine lv_topi (fun k ek => ?_)
    have hl : lv_has ls 4 [(3, .int 0), (2, .ref (am 200)), (1, .ref (ax 0)), (0, .ref b)] := lv_sub hl [0, 1, 2, 3] rfl
    by_cases hin : k.toInt < 0 ∨ 39 < k.toInt
    · refine lv_tableOut (tgt := 1299) hx hb dL_law_33 hin (by decide) ?_
      exact lc_end hx hb hr hlocks hX hbl hAs hS (lv_sub hl [0, 3] rfl) (Nat.le_of_ble_eq_true rfl) (Nat.le_of_ble_eq_true rfl)
    · obtain ⟨n, hn, en⟩ : ∃ n : Nat, n < 40 ∧ k.toInt = (n : Int) := ⟨k.toInt.toNat, by omega, by omega⟩
      match n, hn, en with
      | 0, _, en =>
        refine lv_tableIn (off := 175) (tgt := 208) hx hb dL_law_33 (by omega) (by omega) (by rw [en]; rfl) (by decide) ?_
        exact lc_0 l hx hb hr hlocks hml hown ht hX hbl hA hAs hK (hP.sub [0, 1, 2, 18, 19, 20] rfl) (hD.sub [0, 1, 2, 18, 19, 20] (by decide) rfl) hS hl
      | 1, _, en =>
        refine lv_tableIn (off := 238) (tgt := 271) hx hb dL_law_33 (by omega) (by omega) (by rw [en]; rfl) (by decide) ?_
        exact lc_1 l hx hb hr hlocks hml hown ht hX hbl hA hAs hK (hP.sub [0, 1, 9, 18, 20] rfl) (hD.sub [0, 1, 9, 18, 20] (by decide) rfl) hS hl
      | 2, _, en =>
        refine lv_tableIn (off := 261) (tgt := 294) hx hb dL_law_33 (by omega) (by omega) (by rw [en]; rfl) (by decide) ?_
        exact lc_2 l hx hb hr hlocks hml hown ht hX hbl hA hAs hK (hP.sub [0, 3, 1, 10, 11, 12, 13, 9, 18, 21, 23, 20] rfl) (hD.sub [0, 3, 1, 10, 11, 12, 13, 9, 18, 21, 23, 20] (by decide) rfl) hS hl
      | 3, _, en =>
        refine lv_tableIn (off := 274) (tgt := 307) hx hb dL_law_33 (by omega) (by omega) (by rw [en]; rfl) (by decide) ?_
        exact lc_3 l hx hb hr hlocks hml hown ht hX hbl hA hAs hK (hP.sub [0, 3, 18] rfl) (hD.sub [0, 3, 18] (by decide) rfl) hS hl
      | 4, _, en =>
        refine lv_tableIn (off := 297) (tgt := 330) hx hb dL_law_33 (by omega) (by omega) (by rw [en]; rfl) (by decide) ?_
        exact lc_4 l hx hb hr hlocks hml hown ht hX hbl hA hAs hK (hP.sub [0, 14, 15, 16, 4, 5, 18, 21, 22] rfl) (hD.sub [0, 14, 15, 16, 4, 5, 18, 21, 22] (by decide) rfl) hS hl
      | 5, _, en =>
        refine lv_tableIn (off := 320) (tgt := 353) hx hb dL_law_33 (by omega) (by omega) (by rw [en]; rfl) (by decide) ?_
        exact lc_5 l hx hb hr hlocks hml hown ht hX hbl hA hAs hK (hP.sub [0, 18, 21] rfl) (hD.sub [0, 18, 21] (by decide) rfl) hS hl
      | 6, _, en =>
        refine lv_tableIn (off := 353) (tgt := 386) hx hb dL_law_33 (by omega) (by omega) (by rw [en]; rfl) (by decide) ?_
        exact lc_6 l hx hb hr hlocks hml hown ht hX hbl hA hAs hK (hP.sub [0, 14, 15, 16, 18] rfl) (hD.sub [0, 14, 15, 16, 18] (by decide) rfl) hS hl
      | 7, _, en =>
        refine lv_tableIn (off := 386) (tgt := 419) hx hb dL_law_33 (by omega) (by omega) (by rw [en]; rfl) (by decide) ?_
        exact lc_7 l hx hb hr hlocks hml hown ht hX hbl hA hAs hK (hP.sub [0, 14, 15, 18, 21] rfl) (hD.sub [0, 14, 15, 18, 21] (by decide) rfl) hS hl
      | 8, _, en =>
        refine lv_tableIn (off := 419) (tgt := 452) hx hb dL_law_33 (by omega) (by omega) (by rw [en]; rfl) (by decide) ?_
        exact lc_8 l hx hb hr hlocks hml hown ht hX hbl hA hAs hK (hP.sub [0, 14, 15, 18, 21] rfl) (hD.sub [0, 14, 15, 18, 21] (by decide) rfl) hS hl
      | 9, _, en =>
        refine lv_tableIn (off := 462) (tgt := 495) hx hb dL_law_33 (by omega) (by omega) (by rw [en]; rfl) (by decide) ?_
        exact lc_9 l hx hb hr hlocks hml hown ht hX hbl hA hAs hK (hP.sub [0, 4, 18, 22] rfl) (hD.sub [0, 4, 18, 22] (by decide) rfl) hS hl
      | 10, _, en =>
        refine lv_tableIn (off := 495) (tgt := 528) hx hb dL_law_33 (by omega) (by omega) (by rw [en]; rfl) (by decide) ?_
        exact lc_10 l hx hb hr hlocks hml hown ht hX hbl hA hAs hK (hP.sub [0, 14, 15, 16, 18] rfl) (hD.sub [0, 14, 15, 16, 18] (by decide) rfl) hS hl
      | 11, _, en =>
        refine lv_tableIn (off := 528) (tgt := 561) hx hb dL_law_33 (by omega) (by omega) (by rw [en]; rfl) (by decide) ?_
        exact lc_11 l hx hb hr hlocks hml hown ht hX hbl hA hAs hK (hP.sub [0, 14, 15, 16, 18] rfl) (hD.sub [0, 14, 15, 16, 18] (by decide) rfl) hS hl
      | 12, _, en =>
        refine lv_tableIn (off := 561) (tgt := 594) hx hb dL_law_33 (by omega) (by omega) (by rw [en]; rfl) (by decide) ?_
        exact lc_12 l hx hb hr hlocks hml hown ht hX hbl hA hAs hK (hP.sub [0, 14, 15, 16, 18] rfl) (hD.sub [0, 14, 15, 16, 18] (by decide) rfl) hS hl
      | 13, _, en =>
        refine lv_tableIn (off := 604) (tgt := 637) hx hb dL_law_33 (by omega) (by omega) (by rw [en]; rfl) (by decide) ?_
        exact lc_13 l hx hb hr hlocks hml hown ht hX hbl hA hAs hK (hP.sub [0, 14, 15, 16, 18] rfl) (hD.sub [0, 14, 15, 16, 18] (by decide) rfl) hS hl
      | 14, _, en =>
        refine lv_tableIn (off := 647) (tgt := 680) hx hb dL_law_33 (by omega) (by omega) (by rw [en]; rfl) (by decide) ?_
        exact lc_14 l hx hb hr hlocks hml hown ht hX hbl hA hAs hK (hP.sub [0, 14, 15, 16, 18] rfl) (hD.sub [0, 14, 15, 16, 18] (by decide) rfl) hS hl
      | 15, _, en =>
        refine lv_tableIn (off := 680) (tgt := 713) hx hb dL_law_33 (by omega) (by omega) (by rw [en]; rfl) (by decide) ?_
        exact lc_15 l hx hb hr hlocks hml hown ht hX hbl hA hAs hK (hP.sub [0, 14, 15, 16, 18] rfl) (hD.sub [0, 14, 15, 16, 18] (by decide) rfl) hS hl
      | 16, _, en =>
        refine lv_tableIn (off := 723) (tgt := 756) hx hb dL_law_33 (by omega) (by omega) (by rw [en]; rfl) (by decide) ?_
        exact lc_16 l hx hb hr hlocks hml hown ht hX hbl hA hAs hK (hP.sub [0, 14, 15, 16, 18] rfl) (hD.sub [0, 14, 15, 16, 18] (by decide) rfl) hS hl
      | 17, _, en =>
        refine lv_tableIn (off := 766) (tgt := 799) hx hb dL_law_33 (by omega) (by omega) (by rw [en]; rfl) (by decide) ?_
        exact lc_17 l hx hb hr hlocks hml hown ht hX hbl hA hAs hK (hP.sub [0, 14, 15, 16, 18] rfl) (hD.sub [0, 14, 15, 16, 18] (by decide) rfl) hS hl
      | 18, _, en =>
        refine lv_tableIn (off := 799) (tgt := 832) hx hb dL_law_33 (by omega) (by omega) (by rw [en]; rfl) (by decide) ?_
        exact lc_18 l hx hb hr hlocks hml hown ht hX hbl hA hAs hK (hP.sub [0, 14, 15, 18, 21] rfl) (hD.sub [0, 14, 15, 18, 21] (by decide) rfl) hS hl
      | 19, _, en =>
        refine lv_tableIn (off := 822) (tgt := 855) hx hb dL_law_33 (by omega) (by omega) (by rw [en]; rfl) (by decide) ?_
        exact lc_19 l hx hb hr hlocks hml hown ht hX hbl hA hAs hK (hP.sub [0, 14, 15, 16, 8, 18, 24] rfl) (hD.sub [0, 14, 15, 16, 8, 18, 24] (by decide) rfl) hS hl
      | 20, _, en =>
        refine lv_tableIn (off := 845) (tgt := 878) hx hb dL_law_33 (by omega) (by omega) (by rw [en]; rfl) (by decide) ?_
        exact lc_20 l hx hb hr hlocks hml hown ht hX hbl hA hAs hK (hP.sub [0, 14, 15, 16, 18] rfl) (hD.sub [0, 14, 15, 16, 18] (by decide) rfl) hS hl
      | 21, _, en =>
        refine lv_tableIn (off := 868) (tgt := 901) hx hb dL_law_33 (by omega) (by omega) (by rw [en]; rfl) (by decide) ?_
        exact lc_21 l hx hb hr hlocks hml hown ht hX hbl hA hAs hK (hP.sub [0, 14, 18] rfl) (hD.sub [0, 14, 18] (by decide) rfl) hS hl
      | 22, _, en =>
        refine lv_tableIn (off := 891) (tgt := 924) hx hb dL_law_33 (by omega) (by omega) (by rw [en]; rfl) (by decide) ?_
        exact lc_22 l hx hb hr hlocks hml hown ht hX hbl hA hAs hK (hP.sub [0, 14, 15, 16, 18] rfl) (hD.sub [0, 14, 15, 16, 18] (by decide) rfl) hS hl
      | 23, _, en =>
        refine lv_tableIn (off := 914) (tgt := 947) hx hb dL_law_33 (by omega) (by omega) (by rw [en]; rfl) (by decide) ?_
        exact lc_23 l hx hb hr hlocks hml hown ht hX hbl hA hAs hK (hP.sub [0, 5, 1, 9, 18, 20] rfl) (hD.sub [0, 5, 1, 9, 18, 20] (by decide) rfl) hS hl
      | 24, _, en =>
        refine lv_tableIn (off := 927) (tgt := 960) hx hb dL_law_33 (by omega) (by omega) (by rw [en]; rfl) (by decide) ?_
        exact lc_24 l hx hb hr hlocks hml hown ht hX hbl hA hAs hK (hP.sub [0, 5, 14, 15, 16, 18] rfl) (hD.sub [0, 5, 14, 15, 16, 18] (by decide) rfl) hS hl
      | 25, _, en =>
        refine lv_tableIn (off := 950) (tgt := 983) hx hb dL_law_33 (by omega) (by omega) (by rw [en]; rfl) (by decide) ?_
        exact lc_25 l hx hb hr hlocks hml hown ht hX hbl hA hAs hK (hP.sub [0, 5, 14, 15, 16, 18] rfl) (hD.sub [0, 5, 14, 15, 16, 18] (by decide) rfl) hS hl
      | 26, _, en =>
        refine lv_tableIn (off := 973) (tgt := 1006) hx hb dL_law_33 (by omega) (by omega) (by rw [en]; rfl) (by decide) ?_
        exact lc_26 l hx hb hr hlocks hml hown ht hX hbl hA hAs hK (hP.sub [0, 14, 15, 16, 9, 18, 20] rfl) (hD.sub [0, 14, 15, 16, 9, 18, 20] (by decide) rfl) hS hl
      | 27, _, en =>
        refine lv_tableIn (off := 1016) (tgt := 1049) hx hb dL_law_33 (by omega) (by omega) (by rw [en]; rfl) (by decide) ?_
        exact lc_27 l hx hb hr hlocks hml hown ht hX hbl hA hAs hK (hP.sub [0, 14, 15, 16, 9, 18, 20] rfl) (hD.sub [0, 14, 15, 16, 9, 18, 20] (by decide) rfl) hS hl
      | 28, _, en =>
        refine lv_tableIn (off := 1049) (tgt := 1082) hx hb dL_law_33 (by omega) (by omega) (by rw [en]; rfl) (by decide) ?_
        exact lc_28 l hx hb hr hlocks hml hown ht hX hbl hA hAs hK (hP.sub [0, 14, 15, 16, 9, 18, 20, 22] rfl) (hD.sub [0, 14, 15, 16, 9, 18, 20, 22] (by decide) rfl) hS hl
      | 29, _, en =>
        refine lv_tableIn (off := 1072) (tgt := 1105) hx hb dL_law_33 (by omega) (by omega) (by rw [en]; rfl) (by decide) ?_
        exact lc_29 l hx hb hr hlocks hml hown ht hX hbl hA hAs hK (hP.sub [0, 14, 15, 16, 9, 18, 20] rfl) (hD.sub [0, 14, 15, 16, 9, 18, 20] (by decide) rfl) hS hl
      | 30, _, en =>
        refine lv_tableIn (off := 1095) (tgt := 1128) hx hb dL_law_33 (by omega) (by omega) (by rw [en]; rfl) (by decide) ?_
        exact lc_30 l hx hb hr hlocks hml hown ht hX hbl hA hAs hK (hP.sub [0, 9, 18, 20] rfl) (hD.sub [0, 9, 18, 20] (by decide) rfl) hS hl
      | 31, _, en =>
        refine lv_tableIn (off := 1108) (tgt := 1141) hx hb dL_law_33 (by omega) (by omega) (by rw [en]; rfl) (by decide) ?_
        exact lc_31 l hx hb hr hlocks hml hown ht hX hbl hA hAs hK (hP.sub [0, 9, 18, 20] rfl) (hD.sub [0, 9, 18, 20] (by decide) rfl) hS hl
      | 32, _, en =>
        refine lv_tableIn (off := 1121) (tgt := 1154) hx hb dL_law_33 (by omega) (by omega) (by rw [en]; rfl) (by decide) ?_
        exact lc_32 l hx hb hr hlocks hml hown ht hX hbl hA hAs hK (hP.sub [0, 9, 18, 20] rfl) (hD.sub [0, 9, 18, 20] (by decide) rfl) hS hl
      | 33, _, en =>
        refine lv_tableIn (off := 1144) (tgt := 1177) hx hb dL_law_33 (by omega) (by omega) (by rw [en]; rfl) (by decide) ?_
        exact lc_33 l hx hb hr hlocks hml hown ht hX hbl hA hAs hK (hP.sub [0, 4, 9, 18, 20] rfl) (hD.sub [0, 4, 9, 18, 20] (by decide) rfl) hS hl
      | 34, _, en =>
        refine lv_tableIn (off := 1157) (tgt := 1190) hx hb dL_law_33 (by omega) (by omega) (by rw [en]; rfl) (by decide) ?_
        exact lc_34 l hx hb hr hlocks hml hown ht hX hbl hA hAs hK (hP.sub [0, 14, 9, 18, 20] rfl) (hD.sub [0, 14, 9, 18, 20] (by decide) rfl) hS hl
      | 35, _, en =>
        refine lv_tableIn (off := 1180) (tgt := 1213) hx hb dL_law_33 (by omega) (by omega) (by rw [en]; rfl) (by decide) ?_
        exact lc_35 l hx hb hr hlocks hml hown ht hX hbl hA hAs hK (hP.sub [0, 1, 18] rfl) (hD.sub [0, 1, 18] (by decide) rfl) hS hl
      | 36, _, en =>
        refine lv_tableIn (off := 1194) (tgt := 1227) hx hb dL_law_33 (by omega) (by omega) (by rw [en]; rfl) (by decide) ?_
        exact lc_36 l hx hb hr hlocks hml hown ht hX hbl hA hAs hK (hP.sub [0, 6, 7, 14, 15, 16, 17, 18, 22, 25, 21] rfl) (hD.sub [0, 6, 7, 14, 15, 16, 17, 18, 22, 25, 21] (by decide) rfl) hS hl
      | 37, _, en =>
        refine lv_tableIn (off := 1207) (tgt := 1240) hx hb dL_law_33 (by omega) (by omega) (by rw [en]; rfl) (by decide) ?_
        exact lc_37 l hx hb hr hlocks hml hown ht hX hbl hA hAs hK (hP.sub [0, 6, 18] rfl) (hD.sub [0, 6, 18] (by decide) rfl) hS hl
      | 38, _, en =>
        refine lv_tableIn (off := 1230) (tgt := 1263) hx hb dL_law_33 (by omega) (by omega) (by rw [en]; rfl) (by decide) ?_
        exact lc_38 l hx hb hr hlocks hml hown ht hX hbl hA hAs hK (hP.sub [0, 1, 9, 18, 20] rfl) (hD.sub [0, 1, 9, 18, 20] (by decide) rfl) hS hl
      | 39, _, en =>
        refine lv_tableIn (off := 1243) (tgt := 1276) hx hb dL_law_33 (by omega) (by omega) (by rw [en]; rfl) (by decide) ?_
        exact lc_39 l hx hb hr hlocks hml hown ht hX hbl hA hAs hK (hP.sub [0, 9, 18, 20] rfl) (hD.sub [0, 9, 18, 20] (by decide) rfl) hS hl
      | n + 40, hn, _ => exact absurd hn (by omega)
