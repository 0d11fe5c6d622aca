def zByt : List Int32 := 98 :: 108 :: 111 :: 99 :: 107 :: 115 :: 32 :: 114 :: 111 :: 111 :: 109 :: 32 :: 118 :: 111 :: 108 :: 117 :: 109 :: 101 :: 32 :: 99 :: 108 :: 111 :: 110 :: 101 :: 32 :: 111 :: 102 :: 32 :: 112 :: 117 :: 116 :: 32 :: 114 :: 101 :: 109 :: 111 :: 118 :: 101 :: 32 :: 112 :: 105 :: 99 :: 107 :: 115 :: 32 :: 115 :: 112 :: 108 :: 105 :: 116 :: 115 :: 32 :: 99 :: 111 :: 115 :: 116 :: 115 :: 32 :: 99 :: 104 :: 117 :: 114 :: 110 :: 32 :: 98 :: 108 :: 111 :: 99 :: 107 :: 32 :: 102 :: 114 :: 111 :: 109 :: 32 :: 108 :: 101 :: 118 :: 101 :: 108 :: 32 :: 101 :: 110 :: 116 :: 114 :: 105 :: 101 :: 115 :: 32 :: 110 :: 117 :: 109 :: 98 :: 101 :: 114 :: 32 :: 99 :: 111 :: 117 :: 110 :: 116 :: 32 :: 102 :: 114 :: 101 :: 115 :: 104 :: 32 :: 115 :: 97 :: 118 :: 101 :: 100 :: 32 :: 114 :: 101 :: 102 :: 115 :: 32 :: 107 :: 101 :: 121 :: 32 :: 111 :: 114 :: 32 :: 97 :: 110 :: 100 :: 32 :: 110 :: 111 :: 116 :: 32 :: 97 :: 108 :: 108 :: 32 :: 109 :: 105 :: 110 :: 32 :: 109 :: 97 :: 120 :: 32 :: 102 :: 105 :: 114 :: 115 :: 116 :: 32 :: 108 :: 97 :: 115 :: 116 :: 32 :: 111 :: 102 :: 116 :: 101 :: 110 :: 32 :: 116 :: 111 :: 116 :: 97 :: 108 :: 32 :: 109 :: 111 :: 115 :: 116 :: 32 :: 108 :: 101 :: 97 :: 115 :: 116 :: []
theorem zEl_0 : Cond.eq (.elem (.field (.string "CloneVolumes$Reader" 15) "java/lang/String" "value" "[B") (.int (Int32.ofNat 0))) (.int (zByt.getD 0 0)) ∈ flatC (Jvm.Cond.and given_1 narrow_1) := List.mem_of_getElem? (i := 13) (by decide +kernel)
theorem zEl_1 : Cond.eq (.elem (.field (.string "CloneVolumes$Reader" 15) "java/lang/String" "value" "[B") (.int (Int32.ofNat 1))) (.int (zByt.getD 1 0)) ∈ flatC (Jvm.Cond.and given_1 narrow_1) := List.mem_of_getElem? (i := 14) (by decide +kernel)
theorem zEl_2 : Cond.eq (.elem (.field (.string "CloneVolumes$Reader" 15) "java/lang/String" "value" "[B") (.int (Int32.ofNat 2))) (.int (zByt.getD 2 0)) ∈ flatC (Jvm.Cond.and given_1 narrow_1) := List.mem_of_getElem? (i := 15) (by decide +kernel)
theorem zEl_3 : Cond.eq (.elem (.field (.string "CloneVolumes$Reader" 15) "java/lang/String" "value" "[B") (.int (Int32.ofNat 3))) (.int (zByt.getD 3 0)) ∈ flatC (Jvm.Cond.and given_1 narrow_1) := List.mem_of_getElem? (i := 16) (by decide +kernel)
theorem zEl_4 : Cond.eq (.elem (.field (.string "CloneVolumes$Reader" 15) "java/lang/String" "value" "[B") (.int (Int32.ofNat 4))) (.int (zByt.getD 4 0)) ∈ flatC (Jvm.Cond.and given_1 narrow_1) := List.mem_of_getElem? (i := 17) (by decide +kernel)
theorem zEl_5 : Cond.eq (.elem (.field (.string "CloneVolumes$Reader" 15) "java/lang/String" "value" "[B") (.int (Int32.ofNat 5))) (.int (zByt.getD 5 0)) ∈ flatC (Jvm.Cond.and given_1 narrow_1) := List.mem_of_getElem? (i := 18) (by decide +kernel)
theorem zEl_6 : Cond.eq (.elem (.field (.string "CloneVolumes$Reader" 15) "java/lang/String" "value" "[B") (.int (Int32.ofNat 6))) (.int (zByt.getD 6 0)) ∈ flatC (Jvm.Cond.and given_1 narrow_1) := List.mem_of_getElem? (i := 19) (by decide +kernel)
theorem zEl_7 : Cond.eq (.elem (.field (.string "CloneVolumes$Reader" 15) "java/lang/String" "value" "[B") (.int (Int32.ofNat 7))) (.int (zByt.getD 7 0)) ∈ flatC (Jvm.Cond.and given_1 narrow_1) := List.mem_of_getElem? (i := 20) (by decide +kernel)
theorem zEl_8 : Cond.eq (.elem (.field (.string "CloneVolumes$Reader" 15) "java/lang/String" "value" "[B") (.int (Int32.ofNat 8))) (.int (zByt.getD 8 0)) ∈ flatC (Jvm.Cond.and given_1 narrow_1) := List.mem_of_getElem? (i := 21) (by decide +kernel)
theorem zEl_9 : Cond.eq (.elem (.field (.string "CloneVolumes$Reader" 15) "java/lang/String" "value" "[B") (.int (Int32.ofNat 9))) (.int (zByt.getD 9 0)) ∈ flatC (Jvm.Cond.and given_1 narrow_1) := List.mem_of_getElem? (i := 22) (by decide +kernel)
theorem zEl_10 : Cond.eq (.elem (.field (.string "CloneVolumes$Reader" 15) "java/lang/String" "value" "[B") (.int (Int32.ofNat 10))) (.int (zByt.getD 10 0)) ∈ flatC (Jvm.Cond.and given_1 narrow_1) := List.mem_of_getElem? (i := 23) (by decide +kernel)
theorem zEl_11 : Cond.eq (.elem (.field (.string "CloneVolumes$Reader" 15) "java/lang/String" "value" "[B") (.int (Int32.ofNat 11))) (.int (zByt.getD 11 0)) ∈ flatC (Jvm.Cond.and given_1 narrow_1) := List.mem_of_getElem? (i := 24) (by decide +kernel)
theorem zEl_12 : Cond.eq (.elem (.field (.string "CloneVolumes$Reader" 15) "java/lang/String" "value" "[B") (.int (Int32.ofNat 12))) (.int (zByt.getD 12 0)) ∈ flatC (Jvm.Cond.and given_1 narrow_1) := List.mem_of_getElem? (i := 25) (by decide +kernel)
theorem zEl_13 : Cond.eq (.elem (.field (.string "CloneVolumes$Reader" 15) "java/lang/String" "value" "[B") (.int (Int32.ofNat 13))) (.int (zByt.getD 13 0)) ∈ flatC (Jvm.Cond.and given_1 narrow_1) := List.mem_of_getElem? (i := 26) (by decide +kernel)
theorem zEl_14 : Cond.eq (.elem (.field (.string "CloneVolumes$Reader" 15) "java/lang/String" "value" "[B") (.int (Int32.ofNat 14))) (.int (zByt.getD 14 0)) ∈ flatC (Jvm.Cond.and given_1 narrow_1) := List.mem_of_getElem? (i := 27) (by decide +kernel)
theorem zEl_15 : Cond.eq (.elem (.field (.string "CloneVolumes$Reader" 15) "java/lang/String" "value" "[B") (.int (Int32.ofNat 15))) (.int (zByt.getD 15 0)) ∈ flatC (Jvm.Cond.and given_1 narrow_1) := List.mem_of_getElem? (i := 28) (by decide +kernel)
theorem zEl_16 : Cond.eq (.elem (.field (.string "CloneVolumes$Reader" 15) "java/lang/String" "value" "[B") (.int (Int32.ofNat 16))) (.int (zByt.getD 16 0)) ∈ flatC (Jvm.Cond.and given_1 narrow_1) := List.mem_of_getElem? (i := 29) (by decide +kernel)
theorem zEl_17 : Cond.eq (.elem (.field (.string "CloneVolumes$Reader" 15) "java/lang/String" "value" "[B") (.int (Int32.ofNat 17))) (.int (zByt.getD 17 0)) ∈ flatC (Jvm.Cond.and given_1 narrow_1) := List.mem_of_getElem? (i := 30) (by decide +kernel)
theorem zEl_18 : Cond.eq (.elem (.field (.string "CloneVolumes$Reader" 15) "java/lang/String" "value" "[B") (.int (Int32.ofNat 18))) (.int (zByt.getD 18 0)) ∈ flatC (Jvm.Cond.and given_1 narrow_1) := List.mem_of_getElem? (i := 31) (by decide +kernel)
theorem zEl_19 : Cond.eq (.elem (.field (.string "CloneVolumes$Reader" 15) "java/lang/String" "value" "[B") (.int (Int32.ofNat 19))) (.int (zByt.getD 19 0)) ∈ flatC (Jvm.Cond.and given_1 narrow_1) := List.mem_of_getElem? (i := 32) (by decide +kernel)
theorem zEl_20 : Cond.eq (.elem (.field (.string "CloneVolumes$Reader" 15) "java/lang/String" "value" "[B") (.int (Int32.ofNat 20))) (.int (zByt.getD 20 0)) ∈ flatC (Jvm.Cond.and given_1 narrow_1) := List.mem_of_getElem? (i := 33) (by decide +kernel)
theorem zEl_21 : Cond.eq (.elem (.field (.string "CloneVolumes$Reader" 15) "java/lang/String" "value" "[B") (.int (Int32.ofNat 21))) (.int (zByt.getD 21 0)) ∈ flatC (Jvm.Cond.and given_1 narrow_1) := List.mem_of_getElem? (i := 34) (by decide +kernel)
theorem zEl_22 : Cond.eq (.elem (.field (.string "CloneVolumes$Reader" 15) "java/lang/String" "value" "[B") (.int (Int32.ofNat 22))) (.int (zByt.getD 22 0)) ∈ flatC (Jvm.Cond.and given_1 narrow_1) := List.mem_of_getElem? (i := 35) (by decide +kernel)
theorem zEl_23 : Cond.eq (.elem (.field (.string "CloneVolumes$Reader" 15) "java/lang/String" "value" "[B") (.int (Int32.ofNat 23))) (.int (zByt.getD 23 0)) ∈ flatC (Jvm.Cond.and given_1 narrow_1) := List.mem_of_getElem? (i := 36) (by decide +kernel)
theorem zEl_24 : Cond.eq (.elem (.field (.string "CloneVolumes$Reader" 15) "java/lang/String" "value" "[B") (.int (Int32.ofNat 24))) (.int (zByt.getD 24 0)) ∈ flatC (Jvm.Cond.and given_1 narrow_1) := List.mem_of_getElem? (i := 37) (by decide +kernel)
theorem zEl_25 : Cond.eq (.elem (.field (.string "CloneVolumes$Reader" 15) "java/lang/String" "value" "[B") (.int (Int32.ofNat 25))) (.int (zByt.getD 25 0)) ∈ flatC (Jvm.Cond.and given_1 narrow_1) := List.mem_of_getElem? (i := 38) (by decide +kernel)
theorem zEl_26 : Cond.eq (.elem (.field (.string "CloneVolumes$Reader" 15) "java/lang/String" "value" "[B") (.int (Int32.ofNat 26))) (.int (zByt.getD 26 0)) ∈ flatC (Jvm.Cond.and given_1 narrow_1) := List.mem_of_getElem? (i := 39) (by decide +kernel)
theorem zEl_27 : Cond.eq (.elem (.field (.string "CloneVolumes$Reader" 15) "java/lang/String" "value" "[B") (.int (Int32.ofNat 27))) (.int (zByt.getD 27 0)) ∈ flatC (Jvm.Cond.and given_1 narrow_1) := List.mem_of_getElem? (i := 40) (by decide +kernel)
theorem zEl_28 : Cond.eq (.elem (.field (.string "CloneVolumes$Reader" 15) "java/lang/String" "value" "[B") (.int (Int32.ofNat 28))) (.int (zByt.getD 28 0)) ∈ flatC (Jvm.Cond.and given_1 narrow_1) := List.mem_of_getElem? (i := 41) (by decide +kernel)
theorem zEl_29 : Cond.eq (.elem (.field (.string "CloneVolumes$Reader" 15) "java/lang/String" "value" "[B") (.int (Int32.ofNat 29))) (.int (zByt.getD 29 0)) ∈ flatC (Jvm.Cond.and given_1 narrow_1) := List.mem_of_getElem? (i := 42) (by decide +kernel)
theorem zEl_30 : Cond.eq (.elem (.field (.string "CloneVolumes$Reader" 15) "java/lang/String" "value" "[B") (.int (Int32.ofNat 30))) (.int (zByt.getD 30 0)) ∈ flatC (Jvm.Cond.and given_1 narrow_1) := List.mem_of_getElem? (i := 43) (by decide +kernel)
theorem zEl_31 : Cond.eq (.elem (.field (.string "CloneVolumes$Reader" 15) "java/lang/String" "value" "[B") (.int (Int32.ofNat 31))) (.int (zByt.getD 31 0)) ∈ flatC (Jvm.Cond.and given_1 narrow_1) := List.mem_of_getElem? (i := 44) (by decide +kernel)
theorem zEl_32 : Cond.eq (.elem (.field (.string "CloneVolumes$Reader" 15) "java/lang/String" "value" "[B") (.int (Int32.ofNat 32))) (.int (zByt.getD 32 0)) ∈ flatC (Jvm.Cond.and given_1 narrow_1) := List.mem_of_getElem? (i := 45) (by decide +kernel)
theorem zEl_33 : Cond.eq (.elem (.field (.string "CloneVolumes$Reader" 15) "java/lang/String" "value" "[B") (.int (Int32.ofNat 33))) (.int (zByt.getD 33 0)) ∈ flatC (Jvm.Cond.and given_1 narrow_1) := List.mem_of_getElem? (i := 46) (by decide +kernel)
theorem zEl_34 : Cond.eq (.elem (.field (.string "CloneVolumes$Reader" 15) "java/lang/String" "value" "[B") (.int (Int32.ofNat 34))) (.int (zByt.getD 34 0)) ∈ flatC (Jvm.Cond.and given_1 narrow_1) := List.mem_of_getElem? (i := 47) (by decide +kernel)
theorem zEl_35 : Cond.eq (.elem (.field (.string "CloneVolumes$Reader" 15) "java/lang/String" "value" "[B") (.int (Int32.ofNat 35))) (.int (zByt.getD 35 0)) ∈ flatC (Jvm.Cond.and given_1 narrow_1) := List.mem_of_getElem? (i := 48) (by decide +kernel)
theorem zEl_36 : Cond.eq (.elem (.field (.string "CloneVolumes$Reader" 15) "java/lang/String" "value" "[B") (.int (Int32.ofNat 36))) (.int (zByt.getD 36 0)) ∈ flatC (Jvm.Cond.and given_1 narrow_1) := List.mem_of_getElem? (i := 49) (by decide +kernel)
theorem zEl_37 : Cond.eq (.elem (.field (.string "CloneVolumes$Reader" 15) "java/lang/String" "value" "[B") (.int (Int32.ofNat 37))) (.int (zByt.getD 37 0)) ∈ flatC (Jvm.Cond.and given_1 narrow_1) := List.mem_of_getElem? (i := 50) (by decide +kernel)
theorem zEl_38 : Cond.eq (.elem (.field (.string "CloneVolumes$Reader" 15) "java/lang/String" "value" "[B") (.int (Int32.ofNat 38))) (.int (zByt.getD 38 0)) ∈ flatC (Jvm.Cond.and given_1 narrow_1) := List.mem_of_getElem? (i := 51) (by decide +kernel)
theorem zEl_39 : Cond.eq (.elem (.field (.string "CloneVolumes$Reader" 15) "java/lang/String" "value" "[B") (.int (Int32.ofNat 39))) (.int (zByt.getD 39 0)) ∈ flatC (Jvm.Cond.and given_1 narrow_1) := List.mem_of_getElem? (i := 52) (by decide +kernel)
theorem zEl_40 : Cond.eq (.elem (.field (.string "CloneVolumes$Reader" 15) "java/lang/String" "value" "[B") (.int (Int32.ofNat 40))) (.int (zByt.getD 40 0)) ∈ flatC (Jvm.Cond.and given_1 narrow_1) := List.mem_of_getElem? (i := 53) (by decide +kernel)
theorem zEl_41 : Cond.eq (.elem (.field (.string "CloneVolumes$Reader" 15) "java/lang/String" "value" "[B") (.int (Int32.ofNat 41))) (.int (zByt.getD 41 0)) ∈ flatC (Jvm.Cond.and given_1 narrow_1) := List.mem_of_getElem? (i := 54) (by decide +kernel)
theorem zEl_42 : Cond.eq (.elem (.field (.string "CloneVolumes$Reader" 15) "java/lang/String" "value" "[B") (.int (Int32.ofNat 42))) (.int (zByt.getD 42 0)) ∈ flatC (Jvm.Cond.and given_1 narrow_1) := List.mem_of_getElem? (i := 55) (by decide +kernel)
theorem zEl_43 : Cond.eq (.elem (.field (.string "CloneVolumes$Reader" 15) "java/lang/String" "value" "[B") (.int (Int32.ofNat 43))) (.int (zByt.getD 43 0)) ∈ flatC (Jvm.Cond.and given_1 narrow_1) := List.mem_of_getElem? (i := 56) (by decide +kernel)
theorem zEl_44 : Cond.eq (.elem (.field (.string "CloneVolumes$Reader" 15) "java/lang/String" "value" "[B") (.int (Int32.ofNat 44))) (.int (zByt.getD 44 0)) ∈ flatC (Jvm.Cond.and given_1 narrow_1) := List.mem_of_getElem? (i := 57) (by decide +kernel)
theorem zEl_45 : Cond.eq (.elem (.field (.string "CloneVolumes$Reader" 15) "java/lang/String" "value" "[B") (.int (Int32.ofNat 45))) (.int (zByt.getD 45 0)) ∈ flatC (Jvm.Cond.and given_1 narrow_1) := List.mem_of_getElem? (i := 58) (by decide +kernel)
theorem zEl_46 : Cond.eq (.elem (.field (.string "CloneVolumes$Reader" 15) "java/lang/String" "value" "[B") (.int (Int32.ofNat 46))) (.int (zByt.getD 46 0)) ∈ flatC (Jvm.Cond.and given_1 narrow_1) := List.mem_of_getElem? (i := 59) (by decide +kernel)
theorem zEl_47 : Cond.eq (.elem (.field (.string "CloneVolumes$Reader" 15) "java/lang/String" "value" "[B") (.int (Int32.ofNat 47))) (.int (zByt.getD 47 0)) ∈ flatC (Jvm.Cond.and given_1 narrow_1) := List.mem_of_getElem? (i := 60) (by decide +kernel)
theorem zEl_48 : Cond.eq (.elem (.field (.string "CloneVolumes$Reader" 15) "java/lang/String" "value" "[B") (.int (Int32.ofNat 48))) (.int (zByt.getD 48 0)) ∈ flatC (Jvm.Cond.and given_1 narrow_1) := List.mem_of_getElem? (i := 61) (by decide +kernel)
theorem zEl_49 : Cond.eq (.elem (.field (.string "CloneVolumes$Reader" 15) "java/lang/String" "value" "[B") (.int (Int32.ofNat 49))) (.int (zByt.getD 49 0)) ∈ flatC (Jvm.Cond.and given_1 narrow_1) := List.mem_of_getElem? (i := 62) (by decide +kernel)
theorem zEl_50 : Cond.eq (.elem (.field (.string "CloneVolumes$Reader" 15) "java/lang/String" "value" "[B") (.int (Int32.ofNat 50))) (.int (zByt.getD 50 0)) ∈ flatC (Jvm.Cond.and given_1 narrow_1) := List.mem_of_getElem? (i := 63) (by decide +kernel)
theorem zEl_51 : Cond.eq (.elem (.field (.string "CloneVolumes$Reader" 15) "java/lang/String" "value" "[B") (.int (Int32.ofNat 51))) (.int (zByt.getD 51 0)) ∈ flatC (Jvm.Cond.and given_1 narrow_1) := List.mem_of_getElem? (i := 64) (by decide +kernel)
theorem zEl_52 : Cond.eq (.elem (.field (.string "CloneVolumes$Reader" 15) "java/lang/String" "value" "[B") (.int (Int32.ofNat 52))) (.int (zByt.getD 52 0)) ∈ flatC (Jvm.Cond.and given_1 narrow_1) := List.mem_of_getElem? (i := 65) (by decide +kernel)
theorem zEl_53 : Cond.eq (.elem (.field (.string "CloneVolumes$Reader" 15) "java/lang/String" "value" "[B") (.int (Int32.ofNat 53))) (.int (zByt.getD 53 0)) ∈ flatC (Jvm.Cond.and given_1 narrow_1) := List.mem_of_getElem? (i := 66) (by decide +kernel)
theorem zEl_54 : Cond.eq (.elem (.field (.string "CloneVolumes$Reader" 15) "java/lang/String" "value" "[B") (.int (Int32.ofNat 54))) (.int (zByt.getD 54 0)) ∈ flatC (Jvm.Cond.and given_1 narrow_1) := List.mem_of_getElem? (i := 67) (by decide +kernel)
theorem zEl_55 : Cond.eq (.elem (.field (.string "CloneVolumes$Reader" 15) "java/lang/String" "value" "[B") (.int (Int32.ofNat 55))) (.int (zByt.getD 55 0)) ∈ flatC (Jvm.Cond.and given_1 narrow_1) := List.mem_of_getElem? (i := 68) (by decide +kernel)
theorem zEl_56 : Cond.eq (.elem (.field (.string "CloneVolumes$Reader" 15) "java/lang/String" "value" "[B") (.int (Int32.ofNat 56))) (.int (zByt.getD 56 0)) ∈ flatC (Jvm.Cond.and given_1 narrow_1) := List.mem_of_getElem? (i := 69) (by decide +kernel)
theorem zEl_57 : Cond.eq (.elem (.field (.string "CloneVolumes$Reader" 15) "java/lang/String" "value" "[B") (.int (Int32.ofNat 57))) (.int (zByt.getD 57 0)) ∈ flatC (Jvm.Cond.and given_1 narrow_1) := List.mem_of_getElem? (i := 70) (by decide +kernel)
theorem zEl_58 : Cond.eq (.elem (.field (.string "CloneVolumes$Reader" 15) "java/lang/String" "value" "[B") (.int (Int32.ofNat 58))) (.int (zByt.getD 58 0)) ∈ flatC (Jvm.Cond.and given_1 narrow_1) := List.mem_of_getElem? (i := 71) (by decide +kernel)
theorem zEl_59 : Cond.eq (.elem (.field (.string "CloneVolumes$Reader" 15) "java/lang/String" "value" "[B") (.int (Int32.ofNat 59))) (.int (zByt.getD 59 0)) ∈ flatC (Jvm.Cond.and given_1 narrow_1) := List.mem_of_getElem? (i := 72) (by decide +kernel)
theorem zEl_60 : Cond.eq (.elem (.field (.string "CloneVolumes$Reader" 15) "java/lang/String" "value" "[B") (.int (Int32.ofNat 60))) (.int (zByt.getD 60 0)) ∈ flatC (Jvm.Cond.and given_1 narrow_1) := List.mem_of_getElem? (i := 73) (by decide +kernel)
theorem zEl_61 : Cond.eq (.elem (.field (.string "CloneVolumes$Reader" 15) "java/lang/String" "value" "[B") (.int (Int32.ofNat 61))) (.int (zByt.getD 61 0)) ∈ flatC (Jvm.Cond.and given_1 narrow_1) := List.mem_of_getElem? (i := 74) (by decide +kernel)
theorem zEl_62 : Cond.eq (.elem (.field (.string "CloneVolumes$Reader" 15) "java/lang/String" "value" "[B") (.int (Int32.ofNat 62))) (.int (zByt.getD 62 0)) ∈ flatC (Jvm.Cond.and given_1 narrow_1) := List.mem_of_getElem? (i := 75) (by decide +kernel)
theorem zEl_63 : Cond.eq (.elem (.field (.string "CloneVolumes$Reader" 15) "java/lang/String" "value" "[B") (.int (Int32.ofNat 63))) (.int (zByt.getD 63 0)) ∈ flatC (Jvm.Cond.and given_1 narrow_1) := List.mem_of_getElem? (i := 76) (by decide +kernel)
theorem zEl_64 : Cond.eq (.elem (.field (.string "CloneVolumes$Reader" 15) "java/lang/String" "value" "[B") (.int (Int32.ofNat 64))) (.int (zByt.getD 64 0)) ∈ flatC (Jvm.Cond.and given_1 narrow_1) := List.mem_of_getElem? (i := 77) (by decide +kernel)
theorem zEl_65 : Cond.eq (.elem (.field (.string "CloneVolumes$Reader" 15) "java/lang/String" "value" "[B") (.int (Int32.ofNat 65))) (.int (zByt.getD 65 0)) ∈ flatC (Jvm.Cond.and given_1 narrow_1) := List.mem_of_getElem? (i := 78) (by decide +kernel)
theorem zEl_66 : Cond.eq (.elem (.field (.string "CloneVolumes$Reader" 15) "java/lang/String" "value" "[B") (.int (Int32.ofNat 66))) (.int (zByt.getD 66 0)) ∈ flatC (Jvm.Cond.and given_1 narrow_1) := List.mem_of_getElem? (i := 79) (by decide +kernel)
theorem zEl_67 : Cond.eq (.elem (.field (.string "CloneVolumes$Reader" 15) "java/lang/String" "value" "[B") (.int (Int32.ofNat 67))) (.int (zByt.getD 67 0)) ∈ flatC (Jvm.Cond.and given_1 narrow_1) := List.mem_of_getElem? (i := 80) (by decide +kernel)
theorem zEl_68 : Cond.eq (.elem (.field (.string "CloneVolumes$Reader" 15) "java/lang/String" "value" "[B") (.int (Int32.ofNat 68))) (.int (zByt.getD 68 0)) ∈ flatC (Jvm.Cond.and given_1 narrow_1) := List.mem_of_getElem? (i := 81) (by decide +kernel)
theorem zEl_69 : Cond.eq (.elem (.field (.string "CloneVolumes$Reader" 15) "java/lang/String" "value" "[B") (.int (Int32.ofNat 69))) (.int (zByt.getD 69 0)) ∈ flatC (Jvm.Cond.and given_1 narrow_1) := List.mem_of_getElem? (i := 82) (by decide +kernel)
theorem zEl_70 : Cond.eq (.elem (.field (.string "CloneVolumes$Reader" 15) "java/lang/String" "value" "[B") (.int (Int32.ofNat 70))) (.int (zByt.getD 70 0)) ∈ flatC (Jvm.Cond.and given_1 narrow_1) := List.mem_of_getElem? (i := 83) (by decide +kernel)
theorem zEl_71 : Cond.eq (.elem (.field (.string "CloneVolumes$Reader" 15) "java/lang/String" "value" "[B") (.int (Int32.ofNat 71))) (.int (zByt.getD 71 0)) ∈ flatC (Jvm.Cond.and given_1 narrow_1) := List.mem_of_getElem? (i := 84) (by decide +kernel)
theorem zEl_72 : Cond.eq (.elem (.field (.string "CloneVolumes$Reader" 15) "java/lang/String" "value" "[B") (.int (Int32.ofNat 72))) (.int (zByt.getD 72 0)) ∈ flatC (Jvm.Cond.and given_1 narrow_1) := List.mem_of_getElem? (i := 85) (by decide +kernel)
theorem zEl_73 : Cond.eq (.elem (.field (.string "CloneVolumes$Reader" 15) "java/lang/String" "value" "[B") (.int (Int32.ofNat 73))) (.int (zByt.getD 73 0)) ∈ flatC (Jvm.Cond.and given_1 narrow_1) := List.mem_of_getElem? (i := 86) (by decide +kernel)
theorem zEl_74 : Cond.eq (.elem (.field (.string "CloneVolumes$Reader" 15) "java/lang/String" "value" "[B") (.int (Int32.ofNat 74))) (.int (zByt.getD 74 0)) ∈ flatC (Jvm.Cond.and given_1 narrow_1) := List.mem_of_getElem? (i := 87) (by decide +kernel)
theorem zEl_75 : Cond.eq (.elem (.field (.string "CloneVolumes$Reader" 15) "java/lang/String" "value" "[B") (.int (Int32.ofNat 75))) (.int (zByt.getD 75 0)) ∈ flatC (Jvm.Cond.and given_1 narrow_1) := List.mem_of_getElem? (i := 88) (by decide +kernel)
theorem zEl_76 : Cond.eq (.elem (.field (.string "CloneVolumes$Reader" 15) "java/lang/String" "value" "[B") (.int (Int32.ofNat 76))) (.int (zByt.getD 76 0)) ∈ flatC (Jvm.Cond.and given_1 narrow_1) := List.mem_of_getElem? (i := 89) (by decide +kernel)
theorem zEl_77 : Cond.eq (.elem (.field (.string "CloneVolumes$Reader" 15) "java/lang/String" "value" "[B") (.int (Int32.ofNat 77))) (.int (zByt.getD 77 0)) ∈ flatC (Jvm.Cond.and given_1 narrow_1) := List.mem_of_getElem? (i := 90) (by decide +kernel)
theorem zEl_78 : Cond.eq (.elem (.field (.string "CloneVolumes$Reader" 15) "java/lang/String" "value" "[B") (.int (Int32.ofNat 78))) (.int (zByt.getD 78 0)) ∈ flatC (Jvm.Cond.and given_1 narrow_1) := List.mem_of_getElem? (i := 91) (by decide +kernel)
theorem zEl_79 : Cond.eq (.elem (.field (.string "CloneVolumes$Reader" 15) "java/lang/String" "value" "[B") (.int (Int32.ofNat 79))) (.int (zByt.getD 79 0)) ∈ flatC (Jvm.Cond.and given_1 narrow_1) := List.mem_of_getElem? (i := 92) (by decide +kernel)
theorem zEl_80 : Cond.eq (.elem (.field (.string "CloneVolumes$Reader" 15) "java/lang/String" "value" "[B") (.int (Int32.ofNat 80))) (.int (zByt.getD 80 0)) ∈ flatC (Jvm.Cond.and given_1 narrow_1) := List.mem_of_getElem? (i := 93) (by decide +kernel)
theorem zEl_81 : Cond.eq (.elem (.field (.string "CloneVolumes$Reader" 15) "java/lang/String" "value" "[B") (.int (Int32.ofNat 81))) (.int (zByt.getD 81 0)) ∈ flatC (Jvm.Cond.and given_1 narrow_1) := List.mem_of_getElem? (i := 94) (by decide +kernel)
theorem zEl_82 : Cond.eq (.elem (.field (.string "CloneVolumes$Reader" 15) "java/lang/String" "value" "[B") (.int (Int32.ofNat 82))) (.int (zByt.getD 82 0)) ∈ flatC (Jvm.Cond.and given_1 narrow_1) := List.mem_of_getElem? (i := 95) (by decide +kernel)
theorem zEl_83 : Cond.eq (.elem (.field (.string "CloneVolumes$Reader" 15) "java/lang/String" "value" "[B") (.int (Int32.ofNat 83))) (.int (zByt.getD 83 0)) ∈ flatC (Jvm.Cond.and given_1 narrow_1) := List.mem_of_getElem? (i := 96) (by decide +kernel)
theorem zEl_84 : Cond.eq (.elem (.field (.string "CloneVolumes$Reader" 15) "java/lang/String" "value" "[B") (.int (Int32.ofNat 84))) (.int (zByt.getD 84 0)) ∈ flatC (Jvm.Cond.and given_1 narrow_1) := List.mem_of_getElem? (i := 97) (by decide +kernel)
theorem zEl_85 : Cond.eq (.elem (.field (.string "CloneVolumes$Reader" 15) "java/lang/String" "value" "[B") (.int (Int32.ofNat 85))) (.int (zByt.getD 85 0)) ∈ flatC (Jvm.Cond.and given_1 narrow_1) := List.mem_of_getElem? (i := 98) (by decide +kernel)
theorem zEl_86 : Cond.eq (.elem (.field (.string "CloneVolumes$Reader" 15) "java/lang/String" "value" "[B") (.int (Int32.ofNat 86))) (.int (zByt.getD 86 0)) ∈ flatC (Jvm.Cond.and given_1 narrow_1) := List.mem_of_getElem? (i := 99) (by decide +kernel)
theorem zEl_87 : Cond.eq (.elem (.field (.string "CloneVolumes$Reader" 15) "java/lang/String" "value" "[B") (.int (Int32.ofNat 87))) (.int (zByt.getD 87 0)) ∈ flatC (Jvm.Cond.and given_1 narrow_1) := List.mem_of_getElem? (i := 100) (by decide +kernel)
theorem zEl_88 : Cond.eq (.elem (.field (.string "CloneVolumes$Reader" 15) "java/lang/String" "value" "[B") (.int (Int32.ofNat 88))) (.int (zByt.getD 88 0)) ∈ flatC (Jvm.Cond.and given_1 narrow_1) := List.mem_of_getElem? (i := 101) (by decide +kernel)
theorem zEl_89 : Cond.eq (.elem (.field (.string "CloneVolumes$Reader" 15) "java/lang/String" "value" "[B") (.int (Int32.ofNat 89))) (.int (zByt.getD 89 0)) ∈ flatC (Jvm.Cond.and given_1 narrow_1) := List.mem_of_getElem? (i := 102) (by decide +kernel)
theorem zEl_90 : Cond.eq (.elem (.field (.string "CloneVolumes$Reader" 15) "java/lang/String" "value" "[B") (.int (Int32.ofNat 90))) (.int (zByt.getD 90 0)) ∈ flatC (Jvm.Cond.and given_1 narrow_1) := List.mem_of_getElem? (i := 103) (by decide +kernel)
theorem zEl_91 : Cond.eq (.elem (.field (.string "CloneVolumes$Reader" 15) "java/lang/String" "value" "[B") (.int (Int32.ofNat 91))) (.int (zByt.getD 91 0)) ∈ flatC (Jvm.Cond.and given_1 narrow_1) := List.mem_of_getElem? (i := 104) (by decide +kernel)
theorem zEl_92 : Cond.eq (.elem (.field (.string "CloneVolumes$Reader" 15) "java/lang/String" "value" "[B") (.int (Int32.ofNat 92))) (.int (zByt.getD 92 0)) ∈ flatC (Jvm.Cond.and given_1 narrow_1) := List.mem_of_getElem? (i := 105) (by decide +kernel)
theorem zEl_93 : Cond.eq (.elem (.field (.string "CloneVolumes$Reader" 15) "java/lang/String" "value" "[B") (.int (Int32.ofNat 93))) (.int (zByt.getD 93 0)) ∈ flatC (Jvm.Cond.and given_1 narrow_1) := List.mem_of_getElem? (i := 106) (by decide +kernel)
theorem zEl_94 : Cond.eq (.elem (.field (.string "CloneVolumes$Reader" 15) "java/lang/String" "value" "[B") (.int (Int32.ofNat 94))) (.int (zByt.getD 94 0)) ∈ flatC (Jvm.Cond.and given_1 narrow_1) := List.mem_of_getElem? (i := 107) (by decide +kernel)
theorem zEl_95 : Cond.eq (.elem (.field (.string "CloneVolumes$Reader" 15) "java/lang/String" "value" "[B") (.int (Int32.ofNat 95))) (.int (zByt.getD 95 0)) ∈ flatC (Jvm.Cond.and given_1 narrow_1) := List.mem_of_getElem? (i := 108) (by decide +kernel)
theorem zEl_96 : Cond.eq (.elem (.field (.string "CloneVolumes$Reader" 15) "java/lang/String" "value" "[B") (.int (Int32.ofNat 96))) (.int (zByt.getD 96 0)) ∈ flatC (Jvm.Cond.and given_1 narrow_1) := List.mem_of_getElem? (i := 109) (by decide +kernel)
theorem zEl_97 : Cond.eq (.elem (.field (.string "CloneVolumes$Reader" 15) "java/lang/String" "value" "[B") (.int (Int32.ofNat 97))) (.int (zByt.getD 97 0)) ∈ flatC (Jvm.Cond.and given_1 narrow_1) := List.mem_of_getElem? (i := 110) (by decide +kernel)
theorem zEl_98 : Cond.eq (.elem (.field (.string "CloneVolumes$Reader" 15) "java/lang/String" "value" "[B") (.int (Int32.ofNat 98))) (.int (zByt.getD 98 0)) ∈ flatC (Jvm.Cond.and given_1 narrow_1) := List.mem_of_getElem? (i := 111) (by decide +kernel)
theorem zEl_99 : Cond.eq (.elem (.field (.string "CloneVolumes$Reader" 15) "java/lang/String" "value" "[B") (.int (Int32.ofNat 99))) (.int (zByt.getD 99 0)) ∈ flatC (Jvm.Cond.and given_1 narrow_1) := List.mem_of_getElem? (i := 112) (by decide +kernel)
theorem zEl_100 : Cond.eq (.elem (.field (.string "CloneVolumes$Reader" 15) "java/lang/String" "value" "[B") (.int (Int32.ofNat 100))) (.int (zByt.getD 100 0)) ∈ flatC (Jvm.Cond.and given_1 narrow_1) := List.mem_of_getElem? (i := 113) (by decide +kernel)
theorem zEl_101 : Cond.eq (.elem (.field (.string "CloneVolumes$Reader" 15) "java/lang/String" "value" "[B") (.int (Int32.ofNat 101))) (.int (zByt.getD 101 0)) ∈ flatC (Jvm.Cond.and given_1 narrow_1) := List.mem_of_getElem? (i := 114) (by decide +kernel)
theorem zEl_102 : Cond.eq (.elem (.field (.string "CloneVolumes$Reader" 15) "java/lang/String" "value" "[B") (.int (Int32.ofNat 102))) (.int (zByt.getD 102 0)) ∈ flatC (Jvm.Cond.and given_1 narrow_1) := List.mem_of_getElem? (i := 115) (by decide +kernel)
theorem zEl_103 : Cond.eq (.elem (.field (.string "CloneVolumes$Reader" 15) "java/lang/String" "value" "[B") (.int (Int32.ofNat 103))) (.int (zByt.getD 103 0)) ∈ flatC (Jvm.Cond.and given_1 narrow_1) := List.mem_of_getElem? (i := 116) (by decide +kernel)
theorem zEl_104 : Cond.eq (.elem (.field (.string "CloneVolumes$Reader" 15) "java/lang/String" "value" "[B") (.int (Int32.ofNat 104))) (.int (zByt.getD 104 0)) ∈ flatC (Jvm.Cond.and given_1 narrow_1) := List.mem_of_getElem? (i := 117) (by decide +kernel)
theorem zEl_105 : Cond.eq (.elem (.field (.string "CloneVolumes$Reader" 15) "java/lang/String" "value" "[B") (.int (Int32.ofNat 105))) (.int (zByt.getD 105 0)) ∈ flatC (Jvm.Cond.and given_1 narrow_1) := List.mem_of_getElem? (i := 118) (by decide +kernel)
theorem zEl_106 : Cond.eq (.elem (.field (.string "CloneVolumes$Reader" 15) "java/lang/String" "value" "[B") (.int (Int32.ofNat 106))) (.int (zByt.getD 106 0)) ∈ flatC (Jvm.Cond.and given_1 narrow_1) := List.mem_of_getElem? (i := 119) (by decide +kernel)
theorem zEl_107 : Cond.eq (.elem (.field (.string "CloneVolumes$Reader" 15) "java/lang/String" "value" "[B") (.int (Int32.ofNat 107))) (.int (zByt.getD 107 0)) ∈ flatC (Jvm.Cond.and given_1 narrow_1) := List.mem_of_getElem? (i := 120) (by decide +kernel)
theorem zEl_108 : Cond.eq (.elem (.field (.string "CloneVolumes$Reader" 15) "java/lang/String" "value" "[B") (.int (Int32.ofNat 108))) (.int (zByt.getD 108 0)) ∈ flatC (Jvm.Cond.and given_1 narrow_1) := List.mem_of_getElem? (i := 121) (by decide +kernel)
theorem zEl_109 : Cond.eq (.elem (.field (.string "CloneVolumes$Reader" 15) "java/lang/String" "value" "[B") (.int (Int32.ofNat 109))) (.int (zByt.getD 109 0)) ∈ flatC (Jvm.Cond.and given_1 narrow_1) := List.mem_of_getElem? (i := 122) (by decide +kernel)
theorem zEl_110 : Cond.eq (.elem (.field (.string "CloneVolumes$Reader" 15) "java/lang/String" "value" "[B") (.int (Int32.ofNat 110))) (.int (zByt.getD 110 0)) ∈ flatC (Jvm.Cond.and given_1 narrow_1) := List.mem_of_getElem? (i := 123) (by decide +kernel)
theorem zEl_111 : Cond.eq (.elem (.field (.string "CloneVolumes$Reader" 15) "java/lang/String" "value" "[B") (.int (Int32.ofNat 111))) (.int (zByt.getD 111 0)) ∈ flatC (Jvm.Cond.and given_1 narrow_1) := List.mem_of_getElem? (i := 124) (by decide +kernel)
theorem zEl_112 : Cond.eq (.elem (.field (.string "CloneVolumes$Reader" 15) "java/lang/String" "value" "[B") (.int (Int32.ofNat 112))) (.int (zByt.getD 112 0)) ∈ flatC (Jvm.Cond.and given_1 narrow_1) := List.mem_of_getElem? (i := 125) (by decide +kernel)
theorem zEl_113 : Cond.eq (.elem (.field (.string "CloneVolumes$Reader" 15) "java/lang/String" "value" "[B") (.int (Int32.ofNat 113))) (.int (zByt.getD 113 0)) ∈ flatC (Jvm.Cond.and given_1 narrow_1) := List.mem_of_getElem? (i := 126) (by decide +kernel)
theorem zEl_114 : Cond.eq (.elem (.field (.string "CloneVolumes$Reader" 15) "java/lang/String" "value" "[B") (.int (Int32.ofNat 114))) (.int (zByt.getD 114 0)) ∈ flatC (Jvm.Cond.and given_1 narrow_1) := List.mem_of_getElem? (i := 127) (by decide +kernel)
theorem zEl_115 : Cond.eq (.elem (.field (.string "CloneVolumes$Reader" 15) "java/lang/String" "value" "[B") (.int (Int32.ofNat 115))) (.int (zByt.getD 115 0)) ∈ flatC (Jvm.Cond.and given_1 narrow_1) := List.mem_of_getElem? (i := 128) (by decide +kernel)
theorem zEl_116 : Cond.eq (.elem (.field (.string "CloneVolumes$Reader" 15) "java/lang/String" "value" "[B") (.int (Int32.ofNat 116))) (.int (zByt.getD 116 0)) ∈ flatC (Jvm.Cond.and given_1 narrow_1) := List.mem_of_getElem? (i := 129) (by decide +kernel)
theorem zEl_117 : Cond.eq (.elem (.field (.string "CloneVolumes$Reader" 15) "java/lang/String" "value" "[B") (.int (Int32.ofNat 117))) (.int (zByt.getD 117 0)) ∈ flatC (Jvm.Cond.and given_1 narrow_1) := List.mem_of_getElem? (i := 130) (by decide +kernel)
theorem zEl_118 : Cond.eq (.elem (.field (.string "CloneVolumes$Reader" 15) "java/lang/String" "value" "[B") (.int (Int32.ofNat 118))) (.int (zByt.getD 118 0)) ∈ flatC (Jvm.Cond.and given_1 narrow_1) := List.mem_of_getElem? (i := 131) (by decide +kernel)
theorem zEl_119 : Cond.eq (.elem (.field (.string "CloneVolumes$Reader" 15) "java/lang/String" "value" "[B") (.int (Int32.ofNat 119))) (.int (zByt.getD 119 0)) ∈ flatC (Jvm.Cond.and given_1 narrow_1) := List.mem_of_getElem? (i := 132) (by decide +kernel)
theorem zEl_120 : Cond.eq (.elem (.field (.string "CloneVolumes$Reader" 15) "java/lang/String" "value" "[B") (.int (Int32.ofNat 120))) (.int (zByt.getD 120 0)) ∈ flatC (Jvm.Cond.and given_1 narrow_1) := List.mem_of_getElem? (i := 133) (by decide +kernel)
theorem zEl_121 : Cond.eq (.elem (.field (.string "CloneVolumes$Reader" 15) "java/lang/String" "value" "[B") (.int (Int32.ofNat 121))) (.int (zByt.getD 121 0)) ∈ flatC (Jvm.Cond.and given_1 narrow_1) := List.mem_of_getElem? (i := 134) (by decide +kernel)
theorem zEl_122 : Cond.eq (.elem (.field (.string "CloneVolumes$Reader" 15) "java/lang/String" "value" "[B") (.int (Int32.ofNat 122))) (.int (zByt.getD 122 0)) ∈ flatC (Jvm.Cond.and given_1 narrow_1) := List.mem_of_getElem? (i := 135) (by decide +kernel)
theorem zEl_123 : Cond.eq (.elem (.field (.string "CloneVolumes$Reader" 15) "java/lang/String" "value" "[B") (.int (Int32.ofNat 123))) (.int (zByt.getD 123 0)) ∈ flatC (Jvm.Cond.and given_1 narrow_1) := List.mem_of_getElem? (i := 136) (by decide +kernel)
theorem zEl_124 : Cond.eq (.elem (.field (.string "CloneVolumes$Reader" 15) "java/lang/String" "value" "[B") (.int (Int32.ofNat 124))) (.int (zByt.getD 124 0)) ∈ flatC (Jvm.Cond.and given_1 narrow_1) := List.mem_of_getElem? (i := 137) (by decide +kernel)
theorem zEl_125 : Cond.eq (.elem (.field (.string "CloneVolumes$Reader" 15) "java/lang/String" "value" "[B") (.int (Int32.ofNat 125))) (.int (zByt.getD 125 0)) ∈ flatC (Jvm.Cond.and given_1 narrow_1) := List.mem_of_getElem? (i := 138) (by decide +kernel)
theorem zEl_126 : Cond.eq (.elem (.field (.string "CloneVolumes$Reader" 15) "java/lang/String" "value" "[B") (.int (Int32.ofNat 126))) (.int (zByt.getD 126 0)) ∈ flatC (Jvm.Cond.and given_1 narrow_1) := List.mem_of_getElem? (i := 139) (by decide +kernel)
theorem zEl_127 : Cond.eq (.elem (.field (.string "CloneVolumes$Reader" 15) "java/lang/String" "value" "[B") (.int (Int32.ofNat 127))) (.int (zByt.getD 127 0)) ∈ flatC (Jvm.Cond.and given_1 narrow_1) := List.mem_of_getElem? (i := 140) (by decide +kernel)
theorem zEl_128 : Cond.eq (.elem (.field (.string "CloneVolumes$Reader" 15) "java/lang/String" "value" "[B") (.int (Int32.ofNat 128))) (.int (zByt.getD 128 0)) ∈ flatC (Jvm.Cond.and given_1 narrow_1) := List.mem_of_getElem? (i := 141) (by decide +kernel)
theorem zEl_129 : Cond.eq (.elem (.field (.string "CloneVolumes$Reader" 15) "java/lang/String" "value" "[B") (.int (Int32.ofNat 129))) (.int (zByt.getD 129 0)) ∈ flatC (Jvm.Cond.and given_1 narrow_1) := List.mem_of_getElem? (i := 142) (by decide +kernel)
theorem zEl_130 : Cond.eq (.elem (.field (.string "CloneVolumes$Reader" 15) "java/lang/String" "value" "[B") (.int (Int32.ofNat 130))) (.int (zByt.getD 130 0)) ∈ flatC (Jvm.Cond.and given_1 narrow_1) := List.mem_of_getElem? (i := 143) (by decide +kernel)
theorem zEl_131 : Cond.eq (.elem (.field (.string "CloneVolumes$Reader" 15) "java/lang/String" "value" "[B") (.int (Int32.ofNat 131))) (.int (zByt.getD 131 0)) ∈ flatC (Jvm.Cond.and given_1 narrow_1) := List.mem_of_getElem? (i := 144) (by decide +kernel)
theorem zEl_132 : Cond.eq (.elem (.field (.string "CloneVolumes$Reader" 15) "java/lang/String" "value" "[B") (.int (Int32.ofNat 132))) (.int (zByt.getD 132 0)) ∈ flatC (Jvm.Cond.and given_1 narrow_1) := List.mem_of_getElem? (i := 145) (by decide +kernel)
theorem zEl_133 : Cond.eq (.elem (.field (.string "CloneVolumes$Reader" 15) "java/lang/String" "value" "[B") (.int (Int32.ofNat 133))) (.int (zByt.getD 133 0)) ∈ flatC (Jvm.Cond.and given_1 narrow_1) := List.mem_of_getElem? (i := 146) (by decide +kernel)
theorem zEl_134 : Cond.eq (.elem (.field (.string "CloneVolumes$Reader" 15) "java/lang/String" "value" "[B") (.int (Int32.ofNat 134))) (.int (zByt.getD 134 0)) ∈ flatC (Jvm.Cond.and given_1 narrow_1) := List.mem_of_getElem? (i := 147) (by decide +kernel)
theorem zEl_135 : Cond.eq (.elem (.field (.string "CloneVolumes$Reader" 15) "java/lang/String" "value" "[B") (.int (Int32.ofNat 135))) (.int (zByt.getD 135 0)) ∈ flatC (Jvm.Cond.and given_1 narrow_1) := List.mem_of_getElem? (i := 148) (by decide +kernel)
theorem zEl_136 : Cond.eq (.elem (.field (.string "CloneVolumes$Reader" 15) "java/lang/String" "value" "[B") (.int (Int32.ofNat 136))) (.int (zByt.getD 136 0)) ∈ flatC (Jvm.Cond.and given_1 narrow_1) := List.mem_of_getElem? (i := 149) (by decide +kernel)
theorem zEl_137 : Cond.eq (.elem (.field (.string "CloneVolumes$Reader" 15) "java/lang/String" "value" "[B") (.int (Int32.ofNat 137))) (.int (zByt.getD 137 0)) ∈ flatC (Jvm.Cond.and given_1 narrow_1) := List.mem_of_getElem? (i := 150) (by decide +kernel)
theorem zEl_138 : Cond.eq (.elem (.field (.string "CloneVolumes$Reader" 15) "java/lang/String" "value" "[B") (.int (Int32.ofNat 138))) (.int (zByt.getD 138 0)) ∈ flatC (Jvm.Cond.and given_1 narrow_1) := List.mem_of_getElem? (i := 151) (by decide +kernel)
theorem zEl_139 : Cond.eq (.elem (.field (.string "CloneVolumes$Reader" 15) "java/lang/String" "value" "[B") (.int (Int32.ofNat 139))) (.int (zByt.getD 139 0)) ∈ flatC (Jvm.Cond.and given_1 narrow_1) := List.mem_of_getElem? (i := 152) (by decide +kernel)
theorem zEl_140 : Cond.eq (.elem (.field (.string "CloneVolumes$Reader" 15) "java/lang/String" "value" "[B") (.int (Int32.ofNat 140))) (.int (zByt.getD 140 0)) ∈ flatC (Jvm.Cond.and given_1 narrow_1) := List.mem_of_getElem? (i := 153) (by decide +kernel)
theorem zEl_141 : Cond.eq (.elem (.field (.string "CloneVolumes$Reader" 15) "java/lang/String" "value" "[B") (.int (Int32.ofNat 141))) (.int (zByt.getD 141 0)) ∈ flatC (Jvm.Cond.and given_1 narrow_1) := List.mem_of_getElem? (i := 154) (by decide +kernel)
theorem zEl_142 : Cond.eq (.elem (.field (.string "CloneVolumes$Reader" 15) "java/lang/String" "value" "[B") (.int (Int32.ofNat 142))) (.int (zByt.getD 142 0)) ∈ flatC (Jvm.Cond.and given_1 narrow_1) := List.mem_of_getElem? (i := 155) (by decide +kernel)
theorem zEl_143 : Cond.eq (.elem (.field (.string "CloneVolumes$Reader" 15) "java/lang/String" "value" "[B") (.int (Int32.ofNat 143))) (.int (zByt.getD 143 0)) ∈ flatC (Jvm.Cond.and given_1 narrow_1) := List.mem_of_getElem? (i := 156) (by decide +kernel)
theorem zEl_144 : Cond.eq (.elem (.field (.string "CloneVolumes$Reader" 15) "java/lang/String" "value" "[B") (.int (Int32.ofNat 144))) (.int (zByt.getD 144 0)) ∈ flatC (Jvm.Cond.and given_1 narrow_1) := List.mem_of_getElem? (i := 157) (by decide +kernel)
theorem zEl_145 : Cond.eq (.elem (.field (.string "CloneVolumes$Reader" 15) "java/lang/String" "value" "[B") (.int (Int32.ofNat 145))) (.int (zByt.getD 145 0)) ∈ flatC (Jvm.Cond.and given_1 narrow_1) := List.mem_of_getElem? (i := 158) (by decide +kernel)
theorem zEl_146 : Cond.eq (.elem (.field (.string "CloneVolumes$Reader" 15) "java/lang/String" "value" "[B") (.int (Int32.ofNat 146))) (.int (zByt.getD 146 0)) ∈ flatC (Jvm.Cond.and given_1 narrow_1) := List.mem_of_getElem? (i := 159) (by decide +kernel)
theorem zEl_147 : Cond.eq (.elem (.field (.string "CloneVolumes$Reader" 15) "java/lang/String" "value" "[B") (.int (Int32.ofNat 147))) (.int (zByt.getD 147 0)) ∈ flatC (Jvm.Cond.and given_1 narrow_1) := List.mem_of_getElem? (i := 160) (by decide +kernel)
theorem zEl_148 : Cond.eq (.elem (.field (.string "CloneVolumes$Reader" 15) "java/lang/String" "value" "[B") (.int (Int32.ofNat 148))) (.int (zByt.getD 148 0)) ∈ flatC (Jvm.Cond.and given_1 narrow_1) := List.mem_of_getElem? (i := 161) (by decide +kernel)
theorem zEl_149 : Cond.eq (.elem (.field (.string "CloneVolumes$Reader" 15) "java/lang/String" "value" "[B") (.int (Int32.ofNat 149))) (.int (zByt.getD 149 0)) ∈ flatC (Jvm.Cond.and given_1 narrow_1) := List.mem_of_getElem? (i := 162) (by decide +kernel)
theorem zEl_150 : Cond.eq (.elem (.field (.string "CloneVolumes$Reader" 15) "java/lang/String" "value" "[B") (.int (Int32.ofNat 150))) (.int (zByt.getD 150 0)) ∈ flatC (Jvm.Cond.and given_1 narrow_1) := List.mem_of_getElem? (i := 163) (by decide +kernel)
theorem zEl_151 : Cond.eq (.elem (.field (.string "CloneVolumes$Reader" 15) "java/lang/String" "value" "[B") (.int (Int32.ofNat 151))) (.int (zByt.getD 151 0)) ∈ flatC (Jvm.Cond.and given_1 narrow_1) := List.mem_of_getElem? (i := 164) (by decide +kernel)
theorem zEl_152 : Cond.eq (.elem (.field (.string "CloneVolumes$Reader" 15) "java/lang/String" "value" "[B") (.int (Int32.ofNat 152))) (.int (zByt.getD 152 0)) ∈ flatC (Jvm.Cond.and given_1 narrow_1) := List.mem_of_getElem? (i := 165) (by decide +kernel)
theorem zEl_153 : Cond.eq (.elem (.field (.string "CloneVolumes$Reader" 15) "java/lang/String" "value" "[B") (.int (Int32.ofNat 153))) (.int (zByt.getD 153 0)) ∈ flatC (Jvm.Cond.and given_1 narrow_1) := List.mem_of_getElem? (i := 166) (by decide +kernel)
theorem zEl_154 : Cond.eq (.elem (.field (.string "CloneVolumes$Reader" 15) "java/lang/String" "value" "[B") (.int (Int32.ofNat 154))) (.int (zByt.getD 154 0)) ∈ flatC (Jvm.Cond.and given_1 narrow_1) := List.mem_of_getElem? (i := 167) (by decide +kernel)
theorem zEl_155 : Cond.eq (.elem (.field (.string "CloneVolumes$Reader" 15) "java/lang/String" "value" "[B") (.int (Int32.ofNat 155))) (.int (zByt.getD 155 0)) ∈ flatC (Jvm.Cond.and given_1 narrow_1) := List.mem_of_getElem? (i := 168) (by decide +kernel)
theorem zEl_156 : Cond.eq (.elem (.field (.string "CloneVolumes$Reader" 15) "java/lang/String" "value" "[B") (.int (Int32.ofNat 156))) (.int (zByt.getD 156 0)) ∈ flatC (Jvm.Cond.and given_1 narrow_1) := List.mem_of_getElem? (i := 169) (by decide +kernel)
theorem zEl_157 : Cond.eq (.elem (.field (.string "CloneVolumes$Reader" 15) "java/lang/String" "value" "[B") (.int (Int32.ofNat 157))) (.int (zByt.getD 157 0)) ∈ flatC (Jvm.Cond.and given_1 narrow_1) := List.mem_of_getElem? (i := 170) (by decide +kernel)
theorem zEl_158 : Cond.eq (.elem (.field (.string "CloneVolumes$Reader" 15) "java/lang/String" "value" "[B") (.int (Int32.ofNat 158))) (.int (zByt.getD 158 0)) ∈ flatC (Jvm.Cond.and given_1 narrow_1) := List.mem_of_getElem? (i := 171) (by decide +kernel)
theorem zEl_159 : Cond.eq (.elem (.field (.string "CloneVolumes$Reader" 15) "java/lang/String" "value" "[B") (.int (Int32.ofNat 159))) (.int (zByt.getD 159 0)) ∈ flatC (Jvm.Cond.and given_1 narrow_1) := List.mem_of_getElem? (i := 172) (by decide +kernel)
theorem zEl_160 : Cond.eq (.elem (.field (.string "CloneVolumes$Reader" 15) "java/lang/String" "value" "[B") (.int (Int32.ofNat 160))) (.int (zByt.getD 160 0)) ∈ flatC (Jvm.Cond.and given_1 narrow_1) := List.mem_of_getElem? (i := 173) (by decide +kernel)
theorem zEl_161 : Cond.eq (.elem (.field (.string "CloneVolumes$Reader" 15) "java/lang/String" "value" "[B") (.int (Int32.ofNat 161))) (.int (zByt.getD 161 0)) ∈ flatC (Jvm.Cond.and given_1 narrow_1) := List.mem_of_getElem? (i := 174) (by decide +kernel)
theorem zEl_162 : Cond.eq (.elem (.field (.string "CloneVolumes$Reader" 15) "java/lang/String" "value" "[B") (.int (Int32.ofNat 162))) (.int (zByt.getD 162 0)) ∈ flatC (Jvm.Cond.and given_1 narrow_1) := List.mem_of_getElem? (i := 175) (by decide +kernel)
theorem zEl_163 : Cond.eq (.elem (.field (.string "CloneVolumes$Reader" 15) "java/lang/String" "value" "[B") (.int (Int32.ofNat 163))) (.int (zByt.getD 163 0)) ∈ flatC (Jvm.Cond.and given_1 narrow_1) := List.mem_of_getElem? (i := 176) (by decide +kernel)
theorem zEl_164 : Cond.eq (.elem (.field (.string "CloneVolumes$Reader" 15) "java/lang/String" "value" "[B") (.int (Int32.ofNat 164))) (.int (zByt.getD 164 0)) ∈ flatC (Jvm.Cond.and given_1 narrow_1) := List.mem_of_getElem? (i := 177) (by decide +kernel)
theorem zEl_165 : Cond.eq (.elem (.field (.string "CloneVolumes$Reader" 15) "java/lang/String" "value" "[B") (.int (Int32.ofNat 165))) (.int (zByt.getD 165 0)) ∈ flatC (Jvm.Cond.and given_1 narrow_1) := List.mem_of_getElem? (i := 178) (by decide +kernel)
theorem zEl_166 : Cond.eq (.elem (.field (.string "CloneVolumes$Reader" 15) "java/lang/String" "value" "[B") (.int (Int32.ofNat 166))) (.int (zByt.getD 166 0)) ∈ flatC (Jvm.Cond.and given_1 narrow_1) := List.mem_of_getElem? (i := 179) (by decide +kernel)
theorem zEl_167 : Cond.eq (.elem (.field (.string "CloneVolumes$Reader" 15) "java/lang/String" "value" "[B") (.int (Int32.ofNat 167))) (.int (zByt.getD 167 0)) ∈ flatC (Jvm.Cond.and given_1 narrow_1) := List.mem_of_getElem? (i := 180) (by decide +kernel)
theorem zEl_168 : Cond.eq (.elem (.field (.string "CloneVolumes$Reader" 15) "java/lang/String" "value" "[B") (.int (Int32.ofNat 168))) (.int (zByt.getD 168 0)) ∈ flatC (Jvm.Cond.and given_1 narrow_1) := List.mem_of_getElem? (i := 181) (by decide +kernel)
theorem zEl_169 : Cond.eq (.elem (.field (.string "CloneVolumes$Reader" 15) "java/lang/String" "value" "[B") (.int (Int32.ofNat 169))) (.int (zByt.getD 169 0)) ∈ flatC (Jvm.Cond.and given_1 narrow_1) := List.mem_of_getElem? (i := 182) (by decide +kernel)
theorem zEl_170 : Cond.eq (.elem (.field (.string "CloneVolumes$Reader" 15) "java/lang/String" "value" "[B") (.int (Int32.ofNat 170))) (.int (zByt.getD 170 0)) ∈ flatC (Jvm.Cond.and given_1 narrow_1) := List.mem_of_getElem? (i := 183) (by decide +kernel)
theorem zEl_171 : Cond.eq (.elem (.field (.string "CloneVolumes$Reader" 15) "java/lang/String" "value" "[B") (.int (Int32.ofNat 171))) (.int (zByt.getD 171 0)) ∈ flatC (Jvm.Cond.and given_1 narrow_1) := List.mem_of_getElem? (i := 184) (by decide +kernel)
theorem zEl_172 : Cond.eq (.elem (.field (.string "CloneVolumes$Reader" 15) "java/lang/String" "value" "[B") (.int (Int32.ofNat 172))) (.int (zByt.getD 172 0)) ∈ flatC (Jvm.Cond.and given_1 narrow_1) := List.mem_of_getElem? (i := 185) (by decide +kernel)
theorem zEl_173 : Cond.eq (.elem (.field (.string "CloneVolumes$Reader" 15) "java/lang/String" "value" "[B") (.int (Int32.ofNat 173))) (.int (zByt.getD 173 0)) ∈ flatC (Jvm.Cond.and given_1 narrow_1) := List.mem_of_getElem? (i := 186) (by decide +kernel)
theorem zEl_174 : Cond.eq (.elem (.field (.string "CloneVolumes$Reader" 15) "java/lang/String" "value" "[B") (.int (Int32.ofNat 174))) (.int (zByt.getD 174 0)) ∈ flatC (Jvm.Cond.and given_1 narrow_1) := List.mem_of_getElem? (i := 187) (by decide +kernel)
theorem zEl_175 : Cond.eq (.elem (.field (.string "CloneVolumes$Reader" 15) "java/lang/String" "value" "[B") (.int (Int32.ofNat 175))) (.int (zByt.getD 175 0)) ∈ flatC (Jvm.Cond.and given_1 narrow_1) := List.mem_of_getElem? (i := 188) (by decide +kernel)
theorem zEl_176 : Cond.eq (.elem (.field (.string "CloneVolumes$Reader" 15) "java/lang/String" "value" "[B") (.int (Int32.ofNat 176))) (.int (zByt.getD 176 0)) ∈ flatC (Jvm.Cond.and given_1 narrow_1) := List.mem_of_getElem? (i := 189) (by decide +kernel)
theorem zEl_177 : Cond.eq (.elem (.field (.string "CloneVolumes$Reader" 15) "java/lang/String" "value" "[B") (.int (Int32.ofNat 177))) (.int (zByt.getD 177 0)) ∈ flatC (Jvm.Cond.and given_1 narrow_1) := List.mem_of_getElem? (i := 190) (by decide +kernel)
theorem zEl_178 : Cond.eq (.elem (.field (.string "CloneVolumes$Reader" 15) "java/lang/String" "value" "[B") (.int (Int32.ofNat 178))) (.int (zByt.getD 178 0)) ∈ flatC (Jvm.Cond.and given_1 narrow_1) := List.mem_of_getElem? (i := 191) (by decide +kernel)
theorem zEl : ∀ j, j < 179 → Cond.eq (.elem (.field (.string "CloneVolumes$Reader" 15) "java/lang/String" "value" "[B") (.int (Int32.ofNat j))) (.int (zByt.getD j 0)) ∈ flatC (Jvm.Cond.and given_1 narrow_1) := by
  intro j hj
  match j, hj with
  | 0, _ => exact zEl_0
  | 1, _ => exact zEl_1
  | 2, _ => exact zEl_2
  | 3, _ => exact zEl_3
  | 4, _ => exact zEl_4
  | 5, _ => exact zEl_5
  | 6, _ => exact zEl_6
  | 7, _ => exact zEl_7
  | 8, _ => exact zEl_8
  | 9, _ => exact zEl_9
  | 10, _ => exact zEl_10
  | 11, _ => exact zEl_11
  | 12, _ => exact zEl_12
  | 13, _ => exact zEl_13
  | 14, _ => exact zEl_14
  | 15, _ => exact zEl_15
  | 16, _ => exact zEl_16
  | 17, _ => exact zEl_17
  | 18, _ => exact zEl_18
  | 19, _ => exact zEl_19
  | 20, _ => exact zEl_20
  | 21, _ => exact zEl_21
  | 22, _ => exact zEl_22
  | 23, _ => exact zEl_23
  | 24, _ => exact zEl_24
  | 25, _ => exact zEl_25
  | 26, _ => exact zEl_26
  | 27, _ => exact zEl_27
  | 28, _ => exact zEl_28
  | 29, _ => exact zEl_29
  | 30, _ => exact zEl_30
  | 31, _ => exact zEl_31
  | 32, _ => exact zEl_32
  | 33, _ => exact zEl_33
  | 34, _ => exact zEl_34
  | 35, _ => exact zEl_35
  | 36, _ => exact zEl_36
  | 37, _ => exact zEl_37
  | 38, _ => exact zEl_38
  | 39, _ => exact zEl_39
  | 40, _ => exact zEl_40
  | 41, _ => exact zEl_41
  | 42, _ => exact zEl_42
  | 43, _ => exact zEl_43
  | 44, _ => exact zEl_44
  | 45, _ => exact zEl_45
  | 46, _ => exact zEl_46
  | 47, _ => exact zEl_47
  | 48, _ => exact zEl_48
  | 49, _ => exact zEl_49
  | 50, _ => exact zEl_50
  | 51, _ => exact zEl_51
  | 52, _ => exact zEl_52
  | 53, _ => exact zEl_53
  | 54, _ => exact zEl_54
  | 55, _ => exact zEl_55
  | 56, _ => exact zEl_56
  | 57, _ => exact zEl_57
  | 58, _ => exact zEl_58
  | 59, _ => exact zEl_59
  | 60, _ => exact zEl_60
  | 61, _ => exact zEl_61
  | 62, _ => exact zEl_62
  | 63, _ => exact zEl_63
  | 64, _ => exact zEl_64
  | 65, _ => exact zEl_65
  | 66, _ => exact zEl_66
  | 67, _ => exact zEl_67
  | 68, _ => exact zEl_68
  | 69, _ => exact zEl_69
  | 70, _ => exact zEl_70
  | 71, _ => exact zEl_71
  | 72, _ => exact zEl_72
  | 73, _ => exact zEl_73
  | 74, _ => exact zEl_74
  | 75, _ => exact zEl_75
  | 76, _ => exact zEl_76
  | 77, _ => exact zEl_77
  | 78, _ => exact zEl_78
  | 79, _ => exact zEl_79
  | 80, _ => exact zEl_80
  | 81, _ => exact zEl_81
  | 82, _ => exact zEl_82
  | 83, _ => exact zEl_83
  | 84, _ => exact zEl_84
  | 85, _ => exact zEl_85
  | 86, _ => exact zEl_86
  | 87, _ => exact zEl_87
  | 88, _ => exact zEl_88
  | 89, _ => exact zEl_89
  | 90, _ => exact zEl_90
  | 91, _ => exact zEl_91
  | 92, _ => exact zEl_92
  | 93, _ => exact zEl_93
  | 94, _ => exact zEl_94
  | 95, _ => exact zEl_95
  | 96, _ => exact zEl_96
  | 97, _ => exact zEl_97
  | 98, _ => exact zEl_98
  | 99, _ => exact zEl_99
  | 100, _ => exact zEl_100
  | 101, _ => exact zEl_101
  | 102, _ => exact zEl_102
  | 103, _ => exact zEl_103
  | 104, _ => exact zEl_104
  | 105, _ => exact zEl_105
  | 106, _ => exact zEl_106
  | 107, _ => exact zEl_107
  | 108, _ => exact zEl_108
  | 109, _ => exact zEl_109
  | 110, _ => exact zEl_110
  | 111, _ => exact zEl_111
  | 112, _ => exact zEl_112
  | 113, _ => exact zEl_113
  | 114, _ => exact zEl_114
  | 115, _ => exact zEl_115
  | 116, _ => exact zEl_116
  | 117, _ => exact zEl_117
  | 118, _ => exact zEl_118
  | 119, _ => exact zEl_119
  | 120, _ => exact zEl_120
  | 121, _ => exact zEl_121
  | 122, _ => exact zEl_122
  | 123, _ => exact zEl_123
  | 124, _ => exact zEl_124
  | 125, _ => exact zEl_125
  | 126, _ => exact zEl_126
  | 127, _ => exact zEl_127
  | 128, _ => exact zEl_128
  | 129, _ => exact zEl_129
  | 130, _ => exact zEl_130
  | 131, _ => exact zEl_131
  | 132, _ => exact zEl_132
  | 133, _ => exact zEl_133
  | 134, _ => exact zEl_134
  | 135, _ => exact zEl_135
  | 136, _ => exact zEl_136
  | 137, _ => exact zEl_137
  | 138, _ => exact zEl_138
  | 139, _ => exact zEl_139
  | 140, _ => exact zEl_140
  | 141, _ => exact zEl_141
  | 142, _ => exact zEl_142
  | 143, _ => exact zEl_143
  | 144, _ => exact zEl_144
  | 145, _ => exact zEl_145
  | 146, _ => exact zEl_146
  | 147, _ => exact zEl_147
  | 148, _ => exact zEl_148
  | 149, _ => exact zEl_149
  | 150, _ => exact zEl_150
  | 151, _ => exact zEl_151
  | 152, _ => exact zEl_152
  | 153, _ => exact zEl_153
  | 154, _ => exact zEl_154
  | 155, _ => exact zEl_155
  | 156, _ => exact zEl_156
  | 157, _ => exact zEl_157
  | 158, _ => exact zEl_158
  | 159, _ => exact zEl_159
  | 160, _ => exact zEl_160
  | 161, _ => exact zEl_161
  | 162, _ => exact zEl_162
  | 163, _ => exact zEl_163
  | 164, _ => exact zEl_164
  | 165, _ => exact zEl_165
  | 166, _ => exact zEl_166
  | 167, _ => exact zEl_167
  | 168, _ => exact zEl_168
  | 169, _ => exact zEl_169
  | 170, _ => exact zEl_170
  | 171, _ => exact zEl_171
  | 172, _ => exact zEl_172
  | 173, _ => exact zEl_173
  | 174, _ => exact zEl_174
  | 175, _ => exact zEl_175
  | 176, _ => exact zEl_176
  | 177, _ => exact zEl_177
  | 178, _ => exact zEl_178
  | j + 179, hj => exact absurd hj (by omega)
theorem z_arr {s : State} {args : Array Value} {ty : FieldType} (h : (Cond.arrayClass ty).before args s = true) : ∃ cA : ClassId, ArrOfT s cA ty ∧ s.vm.findClass ("[" ++ ty.toString) = some cA := by
  obtain ⟨cA, kA, comp, h1, h2, h3⟩ := Cond.arrayClass_spec h
  exact ⟨cA, fun n z => ⟨fun k h => (by cases h), kA, h2, comp, h3⟩, h1⟩
/-- what the start gives -/
theorem z_start {s : State} {b : Nat} (hts : ∀ w ∈ lw_tbl, w.before #[Value.ref b] s = true) (hgv : (Jvm.Cond.and given_1 narrow_1).before #[Value.ref b] s = true) : ∃ qS vS : Nat, EE s.heap.size qS vS (fun j => zByt.getD j 0) s := by
  have hs := flat_of_before _ hgv
  have hA : ∀ a : Nat, a < s.heap.size → ¬ (fun q : Nat => s.heap.size ≤ q) a := fun a h => Nat.not_le.mpr h
  obtain ⟨adK, adV, hV, hq⟩ := vk_Sof (N := 1) (tm := fun _ => .string "CloneVolumes$Reader" 15) (len := [179]) (byt := [zByt]) (A := fun q : Nat => s.heap.size ≤ q)
    (fun i hi => by rcases (show i = 0 by omega) with rfl; decide)
    (fun i _ => hs _ (by decide +kernel))
    (fun i _ => hs _ (by decide +kernel))
    (fun i _ => hs _ (by decide +kernel))
    (fun i hi => by rcases (show i = 0 by omega) with rfl; exact hs _ (by decide +kernel))
    (fun i hi j hj => by rcases (show i = 0 by omega) with rfl; exact hs _ (zEl j hj))
    (fun i j hi hj hne => absurd (show i = j by omega) hne) hA
  obtain ⟨h1, h2, h3, h4⟩ := hV.1 0 (by decide)
  refine ⟨adK 0, adV 0, ⟨va_Nw.of rfl (hts (.methodLinkNest RX11 11 yX9_init "CloneVolumes") (List.mem_of_getElem? (i := 228) (by decide +kernel))), va_Nw.of rfl (hts (.methodLinkNest RX11 27 yX2_init "CloneVolumes") (List.mem_of_getElem? (i := 341) (by decide +kernel))), va_Nw.of rfl (hts (.methodLinkNest RX11 34 yX7_init "CloneVolumes") (List.mem_of_getElem? (i := 369) (by decide +kernel))), va_Nw.of rfl (hts (.methodLinkNest RX11 41 yX4_init "CloneVolumes") (List.mem_of_getElem? (i := 396) (by decide +kernel))), va_Nw.of rfl (hts (.methodLinkNest RX11 48 yX10_init "CloneVolumes") (List.mem_of_getElem? (i := 423) (by decide +kernel))), va_Nw.of rfl (hts (.methodLinkNest RX5 29 yX0_init "CloneVolumes") (List.mem_of_getElem? (i := 450) (by decide +kernel))), va_AO.of (hts _ (List.mem_of_getElem? (i := 346) (by decide +kernel))), vk_R.of (hts (.stringRef RX6 15 zText) (List.mem_of_getElem? (i := 252) (by decide +kernel))) (hq 0 (by decide))⟩, h1, h2, h3, h4, ?_⟩
  exact va_Zof (hts _ (List.mem_of_getElem? (i := 262) (by decide +kernel))) (hts _ (List.mem_of_getElem? (i := 201) (by decide +kernel))) (va_eqi (hs _ (by decide +kernel))) hA
/-! THE CLAIM OUT OF ONE WALK OF THE LAW'S BODY. Your part is whole_start (and what it stands on); all else here is the same for every law, but numbers. -/
def R_law : String := "CloneVolumesLaw"
def lw_P (b : Addr) (xs : List Int32) (args : Array Value) (s : State) : Prop := args = #[.ref b] ∧ s.IntsAt b xs ∧ xs.length ≤ 3072 ∧ (Jvm.Cond.and given_1 narrow_1).before args s = true
def lw_Q (_ : Array Value) (s : State) (o : Outcome) (t : State) : Prop := o = .returned (some (.int 1)) ∧ Framed s o t [] 600000 7302249
def lw_Z (below : List Frame) (a : Array Value) (s : State) : State → Prop := fun t => ∃ o, t.status = .running ∧ Ended t below o ∧ lw_Q a s o t
/-- the law's own end, with 1 on the stack, nothing written that was there before, its room as the claim has it -/
theorem lw_ret {p : Program} {l : Launch} {e : Env} {s : State} {m : MethodId} {below : List Frame} {meth : Method} {c : Code} {b : Nat} (hx : p.tables.exec = Jvm.exec) (hb : c.code = code) (hr : meth.sig.returnType = ret) (hlocks : meth.locks = false) {pc : Nat} {H : Heap} {ls : Array Slot} (hdg : decode code pc = .ok (.ireturn, 1)) : W p l e room_1 s m #[Value.ref b] below meth c H [] 600000 7302249 (lw_Z below #[Value.ref b] s) (F0 m pc ls [.int 1]) := by
  intro T hT X
  obtain ⟨fs, hret, hrun, hended, hW, hframe⟩ := X.leave (v := some (.int 1)) (hlocks := hlocks) (fun h => by rw [hr] at h; cases h)
  have hmeth' : T.vm.method? m = some meth := X.method'
  refine ⟨T.setFrames fs, ?_, .returned (some (.int 1)), hrun, hended, rfl, ⟨_, rfl⟩, hW, hframe⟩
  jvm_step X.here [X.here.top, hx, hb, hdg, hmeth', hr, ret, narrow_b1]
  (try refine ⟨rfl, ?_⟩); (try refine ⟨rfl, ?_⟩)
  first | (intro acts; rw [hret _ acts rfl rfl rfl]) | rw [hret _ _ rfl rfl rfl]
  exact Steps.refl _
/-- what holds at the law's entry: the machine, the code, the tables' words (any of lw_tbl by 'hts w (by decide +kernel)'), the script of L ints xs at the cell b, what the Statement gives of the start (any of its parts by flat_of_before) -/
def lw_At (p : Program) (s : State) (m : MethodId) (meth : Method) (c : Code) (b L : Nat) (xs : Nat → Int32) : Prop :=
  p.tables.exec = Jvm.exec ∧ c.code = code ∧ meth.sig.returnType = ret ∧ c.maxLocals = 4 ∧ s.vm.findClass R_law = some m.cls ∧ (∀ w ∈ lw_tbl, w.before #[Value.ref b] s = true) ∧ va_X b L xs s s.heap ∧ b < s.heap.size ∧ meth.locks = false ∧ (Jvm.Cond.and given_1 narrow_1).before #[Value.ref b] s = true
