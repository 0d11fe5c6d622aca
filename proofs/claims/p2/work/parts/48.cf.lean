theorem dX12_init_874 : decode cX12_init 874 = .ok (.aload_n 0, 1) := by decide +kernel
theorem dX12_init_875 : decode cX12_init 875 = .ok (.bipush 6, 2) := by decide +kernel
theorem dX12_init_877 : decode cX12_init 877 = .ok (.newarray .int, 2) := by decide +kernel
theorem dX12_init_879 : decode cX12_init 879 = .ok (.putfield 115, 3) := by decide +kernel
theorem dX12_init_882 : decode cX12_init 882 = .ok (.aload_n 0, 1) := by decide +kernel
theorem dX12_init_883 : decode cX12_init 883 = .ok (.sipush 3200, 3) := by decide +kernel
theorem dX12_init_886 : decode cX12_init 886 = .ok (.newarray .int, 2) := by decide +kernel
theorem dX12_init_888 : decode cX12_init 888 = .ok (.putfield 118, 3) := by decide +kernel
theorem dX12_init_891 : decode cX12_init 891 = .ok (.aload_n 0, 1) := by decide +kernel
theorem dX12_init_892 : decode cX12_init 892 = .ok (.sipush 906, 3) := by decide +kernel
theorem dX12_init_895 : decode cX12_init 895 = .ok (.newarray .int, 2) := by decide +kernel
theorem dX12_init_897 : decode cX12_init 897 = .ok (.putfield 121, 3) := by decide +kernel
theorem dX12_init_900 : decode cX12_init 900 = .ok (.aload_n 0, 1) := by decide +kernel
theorem dX12_init_901 : decode cX12_init 901 = .ok (.bipush 48, 2) := by decide +kernel
theorem dX12_init_903 : decode cX12_init 903 = .ok (.newarray .boolean, 2) := by decide +kernel
theorem dX12_init_905 : decode cX12_init 905 = .ok (.putfield 124, 3) := by decide +kernel
theorem dX12_init_908 : decode cX12_init 908 = .ok (.aload_n 0, 1) := by decide +kernel
theorem dX12_init_909 : decode cX12_init 909 = .ok (.sipush 300, 3) := by decide +kernel
theorem dX12_init_912 : decode cX12_init 912 = .ok (.newarray .int, 2) := by decide +kernel
theorem dX12_init_914 : decode cX12_init 914 = .ok (.putfield 128, 3) := by decide +kernel
theorem dX12_init_917 : decode cX12_init 917 = .ok (.aload_n 0, 1) := by decide +kernel
theorem dX12_init_918 : decode cX12_init 918 = .ok (.bipush 48, 2) := by decide +kernel
theorem dX12_init_920 : decode cX12_init 920 = .ok (.newarray .int, 2) := by decide +kernel
theorem dX12_init_922 : decode cX12_init 922 = .ok (.putfield 131, 3) := by decide +kernel
theorem dX12_init_925 : decode cX12_init 925 = .ok (.aload_n 0, 1) := by decide +kernel
theorem dX12_init_926 : decode cX12_init 926 = .ok (.bipush 48, 2) := by decide +kernel
theorem dX12_init_928 : decode cX12_init 928 = .ok (.newarray .int, 2) := by decide +kernel
theorem dX12_init_930 : decode cX12_init 930 = .ok (.putfield 134, 3) := by decide +kernel
theorem dX12_init_933 : decode cX12_init 933 = .ok (.aload_n 0, 1) := by decide +kernel
theorem dX12_init_934 : decode cX12_init 934 = .ok (.sipush 785, 3) := by decide +kernel
theorem dX12_init_937 : decode cX12_init 937 = .ok (.newarray .int, 2) := by decide +kernel
theorem dX12_init_939 : decode cX12_init 939 = .ok (.putfield 137, 3) := by decide +kernel
theorem dX12_init_942 : decode cX12_init 942 = .ok (.aload_n 0, 1) := by decide +kernel
theorem dX12_init_943 : decode cX12_init 943 = .ok (.bipush 48, 2) := by decide +kernel
theorem dX12_init_945 : decode cX12_init 945 = .ok (.newarray .boolean, 2) := by decide +kernel
theorem dX12_init_947 : decode cX12_init 947 = .ok (.putfield 140, 3) := by decide +kernel
theorem dX12_init_950 : decode cX12_init 950 = .ok (.aload_n 0, 1) := by decide +kernel
theorem dX12_init_951 : decode cX12_init 951 = .ok (.sipush 785, 3) := by decide +kernel
theorem dX12_init_954 : decode cX12_init 954 = .ok (.newarray .int, 2) := by decide +kernel
theorem dX12_init_956 : decode cX12_init 956 = .ok (.putfield 143, 3) := by decide +kernel
theorem dX12_init_959 : decode cX12_init 959 = .ok (.aload_n 0, 1) := by decide +kernel
theorem dX12_init_960 : decode cX12_init 960 = .ok (.sipush 300, 3) := by decide +kernel
theorem dX12_init_963 : decode cX12_init 963 = .ok (.newarray .int, 2) := by decide +kernel
theorem dX12_init_965 : decode cX12_init 965 = .ok (.putfield 146, 3) := by decide +kernel
theorem dX12_init_968 : decode cX12_init 968 = .ok (.aload_n 0, 1) := by decide +kernel
theorem dX12_init_969 : decode cX12_init 969 = .ok (.bipush 48, 2) := by decide +kernel
theorem dX12_init_971 : decode cX12_init 971 = .ok (.newarray .boolean, 2) := by decide +kernel
theorem dX12_init_973 : decode cX12_init 973 = .ok (.putfield 149, 3) := by decide +kernel
theorem dX12_init_976 : decode cX12_init 976 = .ok (.aload_n 0, 1) := by decide +kernel
theorem dX12_init_977 : decode cX12_init 977 = .ok (.sipush 300, 3) := by decide +kernel
theorem dX12_init_980 : decode cX12_init 980 = .ok (.newarray .int, 2) := by decide +kernel
theorem dX12_init_982 : decode cX12_init 982 = .ok (.putfield 152, 3) := by decide +kernel
theorem dX12_init_985 : decode cX12_init 985 = .ok (.aload_n 0, 1) := by decide +kernel
theorem dX12_init_986 : decode cX12_init 986 = .ok (.sipush 300, 3) := by decide +kernel
theorem dX12_init_989 : decode cX12_init 989 = .ok (.newarray .int, 2) := by decide +kernel
theorem dX12_init_991 : decode cX12_init 991 = .ok (.putfield 155, 3) := by decide +kernel
theorem dX12_init_994 : decode cX12_init 994 = .ok (.aload_n 0, 1) := by decide +kernel
theorem dX12_init_995 : decode cX12_init 995 = .ok (.sipush 300, 3) := by decide +kernel
theorem dX12_init_998 : decode cX12_init 998 = .ok (.newarray .int, 2) := by decide +kernel
theorem dX12_init_1000 : decode cX12_init 1000 = .ok (.putfield 158, 3) := by decide +kernel
theorem dX12_init_1003 : decode cX12_init 1003 = .ok (.aload_n 0, 1) := by decide +kernel
theorem dX12_init_1004 : decode cX12_init 1004 = .ok (.bipush 48, 2) := by decide +kernel
theorem dX12_init_1006 : decode cX12_init 1006 = .ok (.newarray .boolean, 2) := by decide +kernel
theorem dX12_init_1008 : decode cX12_init 1008 = .ok (.putfield 161, 3) := by decide +kernel
theorem dX12_init_1011 : decode cX12_init 1011 = .ok (.aload_n 0, 1) := by decide +kernel
theorem dX12_init_1012 : decode cX12_init 1012 = .ok (.bipush 48, 2) := by decide +kernel
theorem dX12_init_1014 : decode cX12_init 1014 = .ok (.newarray .int, 2) := by decide +kernel
theorem dX12_init_1016 : decode cX12_init 1016 = .ok (.putfield 164, 3) := by decide +kernel
theorem dX12_init_1019 : decode cX12_init 1019 = .ok (.aload_n 0, 1) := by decide +kernel
theorem dX12_init_1020 : decode cX12_init 1020 = .ok (.bipush 24, 2) := by decide +kernel
theorem dX12_init_1022 : decode cX12_init 1022 = .ok (.newarray .int, 2) := by decide +kernel
theorem dX12_init_1024 : decode cX12_init 1024 = .ok (.putfield 167, 3) := by decide +kernel
theorem dX12_init_1027 : decode cX12_init 1027 = .ok (.aload_n 0, 1) := by decide +kernel
theorem dX12_init_1028 : decode cX12_init 1028 = .ok (.sipush 18120, 3) := by decide +kernel
theorem dX12_init_1031 : decode cX12_init 1031 = .ok (.newarray .int, 2) := by decide +kernel
theorem dX12_init_1033 : decode cX12_init 1033 = .ok (.putfield 170, 3) := by decide +kernel
theorem dX12_init_1036 : decode cX12_init 1036 = .ok (.aload_n 0, 1) := by decide +kernel
theorem dX12_init_1037 : decode cX12_init 1037 = .ok (.lconst 1, 1) := by decide +kernel
theorem dX12_init_1038 : decode cX12_init 1038 = .ok (.putfield 173, 3) := by decide +kernel
theorem dX12_init_1041 : decode cX12_init 1041 = .ok (.aload_n 0, 1) := by decide +kernel
theorem dX12_init_1042 : decode cX12_init 1042 = .ok (.iconst 5, 1) := by decide +kernel
theorem dX12_init_1043 : decode cX12_init 1043 = .ok (.newarray .char, 2) := by decide +kernel
theorem dX12_init_1045 : decode cX12_init 1045 = .ok (.dup, 1) := by decide +kernel
theorem dX12_init_1046 : decode cX12_init 1046 = .ok (.iconst 0, 1) := by decide +kernel
theorem dX12_init_1047 : decode cX12_init 1047 = .ok (.bipush 102, 2) := by decide +kernel
theorem dX12_init_1049 : decode cX12_init 1049 = .ok (.castore, 1) := by decide +kernel
theorem dX12_init_1050 : decode cX12_init 1050 = .ok (.dup, 1) := by decide +kernel
theorem dX12_init_1051 : decode cX12_init 1051 = .ok (.iconst 1, 1) := by decide +kernel
theorem dX12_init_1052 : decode cX12_init 1052 = .ok (.bipush 105, 2) := by decide +kernel
theorem dX12_init_1054 : decode cX12_init 1054 = .ok (.castore, 1) := by decide +kernel
theorem dX12_init_1055 : decode cX12_init 1055 = .ok (.dup, 1) := by decide +kernel
theorem dX12_init_1056 : decode cX12_init 1056 = .ok (.iconst 2, 1) := by decide +kernel
theorem dX12_init_1057 : decode cX12_init 1057 = .ok (.bipush 114, 2) := by decide +kernel
theorem dX12_init_1059 : decode cX12_init 1059 = .ok (.castore, 1) := by decide +kernel
theorem dX12_init_1060 : decode cX12_init 1060 = .ok (.dup, 1) := by decide +kernel
theorem dX12_init_1061 : decode cX12_init 1061 = .ok (.iconst 3, 1) := by decide +kernel
theorem dX12_init_1062 : decode cX12_init 1062 = .ok (.bipush 115, 2) := by decide +kernel
theorem dX12_init_1064 : decode cX12_init 1064 = .ok (.castore, 1) := by decide +kernel
theorem dX12_init_1065 : decode cX12_init 1065 = .ok (.dup, 1) := by decide +kernel
theorem dX12_init_1066 : decode cX12_init 1066 = .ok (.iconst 4, 1) := by decide +kernel
theorem dX12_init_1067 : decode cX12_init 1067 = .ok (.bipush 116, 2) := by decide +kernel
theorem dX12_init_1069 : decode cX12_init 1069 = .ok (.castore, 1) := by decide +kernel
theorem dX12_init_1070 : decode cX12_init 1070 = .ok (.putfield 177, 3) := by decide +kernel
theorem dX12_init_1073 : decode cX12_init 1073 = .ok (.aload_n 0, 1) := by decide +kernel
theorem dX12_init_1074 : decode cX12_init 1074 = .ok (.iconst 4, 1) := by decide +kernel
theorem dX12_init_1075 : decode cX12_init 1075 = .ok (.newarray .char, 2) := by decide +kernel
theorem dX12_init_1077 : decode cX12_init 1077 = .ok (.dup, 1) := by decide +kernel
theorem dX12_init_1078 : decode cX12_init 1078 = .ok (.iconst 0, 1) := by decide +kernel
theorem dX12_init_1079 : decode cX12_init 1079 = .ok (.bipush 108, 2) := by decide +kernel
theorem dX12_init_1081 : decode cX12_init 1081 = .ok (.castore, 1) := by decide +kernel
theorem dX12_init_1082 : decode cX12_init 1082 = .ok (.dup, 1) := by decide +kernel
theorem dX12_init_1083 : decode cX12_init 1083 = .ok (.iconst 1, 1) := by decide +kernel
theorem dX12_init_1084 : decode cX12_init 1084 = .ok (.bipush 97, 2) := by decide +kernel
theorem dX12_init_1086 : decode cX12_init 1086 = .ok (.castore, 1) := by decide +kernel
theorem dX12_init_1087 : decode cX12_init 1087 = .ok (.dup, 1) := by decide +kernel
theorem dX12_init_1088 : decode cX12_init 1088 = .ok (.iconst 2, 1) := by decide +kernel
theorem dX12_init_1089 : decode cX12_init 1089 = .ok (.bipush 115, 2) := by decide +kernel
theorem dX12_init_1091 : decode cX12_init 1091 = .ok (.castore, 1) := by decide +kernel
theorem dX12_init_1092 : decode cX12_init 1092 = .ok (.dup, 1) := by decide +kernel
theorem dX12_init_1093 : decode cX12_init 1093 = .ok (.iconst 3, 1) := by decide +kernel
theorem dX12_init_1094 : decode cX12_init 1094 = .ok (.bipush 116, 2) := by decide +kernel
theorem dX12_init_1096 : decode cX12_init 1096 = .ok (.castore, 1) := by decide +kernel
theorem dX12_init_1097 : decode cX12_init 1097 = .ok (.putfield 180, 3) := by decide +kernel
theorem dX12_init_1100 : decode cX12_init 1100 = .ok (.aload_n 0, 1) := by decide +kernel
theorem dX12_init_1101 : decode cX12_init 1101 = .ok (.iconst 5, 1) := by decide +kernel
theorem dX12_init_1102 : decode cX12_init 1102 = .ok (.newarray .char, 2) := by decide +kernel
theorem dX12_init_1104 : decode cX12_init 1104 = .ok (.dup, 1) := by decide +kernel
theorem dX12_init_1105 : decode cX12_init 1105 = .ok (.iconst 0, 1) := by decide +kernel
theorem dX12_init_1106 : decode cX12_init 1106 = .ok (.bipush 111, 2) := by decide +kernel
theorem dX12_init_1108 : decode cX12_init 1108 = .ok (.castore, 1) := by decide +kernel
theorem dX12_init_1109 : decode cX12_init 1109 = .ok (.dup, 1) := by decide +kernel
theorem dX12_init_1110 : decode cX12_init 1110 = .ok (.iconst 1, 1) := by decide +kernel
theorem dX12_init_1111 : decode cX12_init 1111 = .ok (.bipush 102, 2) := by decide +kernel
theorem dX12_init_1113 : decode cX12_init 1113 = .ok (.castore, 1) := by decide +kernel
theorem dX12_init_1114 : decode cX12_init 1114 = .ok (.dup, 1) := by decide +kernel
theorem dX12_init_1115 : decode cX12_init 1115 = .ok (.iconst 2, 1) := by decide +kernel
theorem dX12_init_1116 : decode cX12_init 1116 = .ok (.bipush 116, 2) := by decide +kernel
theorem dX12_init_1118 : decode cX12_init 1118 = .ok (.castore, 1) := by decide +kernel
theorem dX12_init_1119 : decode cX12_init 1119 = .ok (.dup, 1) := by decide +kernel
theorem dX12_init_1120 : decode cX12_init 1120 = .ok (.iconst 3, 1) := by decide +kernel
theorem dX12_init_1121 : decode cX12_init 1121 = .ok (.bipush 101, 2) := by decide +kernel
theorem dX12_init_1123 : decode cX12_init 1123 = .ok (.castore, 1) := by decide +kernel
theorem dX12_init_1124 : decode cX12_init 1124 = .ok (.dup, 1) := by decide +kernel
theorem dX12_init_1125 : decode cX12_init 1125 = .ok (.iconst 4, 1) := by decide +kernel
theorem dX12_init_1126 : decode cX12_init 1126 = .ok (.bipush 110, 2) := by decide +kernel
theorem dX12_init_1128 : decode cX12_init 1128 = .ok (.castore, 1) := by decide +kernel
theorem dX12_init_1129 : decode cX12_init 1129 = .ok (.putfield 183, 3) := by decide +kernel
theorem dX12_init_1132 : decode cX12_init 1132 = .ok (.aload_n 0, 1) := by decide +kernel
theorem dX12_init_1133 : decode cX12_init 1133 = .ok (.iconst 5, 1) := by decide +kernel
theorem dX12_init_1134 : decode cX12_init 1134 = .ok (.newarray .char, 2) := by decide +kernel
theorem dX12_init_1136 : decode cX12_init 1136 = .ok (.dup, 1) := by decide +kernel
theorem dX12_init_1137 : decode cX12_init 1137 = .ok (.iconst 0, 1) := by decide +kernel
theorem dX12_init_1138 : decode cX12_init 1138 = .ok (.bipush 116, 2) := by decide +kernel
theorem dX12_init_1140 : decode cX12_init 1140 = .ok (.castore, 1) := by decide +kernel
theorem dX12_init_1141 : decode cX12_init 1141 = .ok (.dup, 1) := by decide +kernel
theorem dX12_init_1142 : decode cX12_init 1142 = .ok (.iconst 1, 1) := by decide +kernel
theorem dX12_init_1143 : decode cX12_init 1143 = .ok (.bipush 111, 2) := by decide +kernel
theorem dX12_init_1145 : decode cX12_init 1145 = .ok (.castore, 1) := by decide +kernel
theorem dX12_init_1146 : decode cX12_init 1146 = .ok (.dup, 1) := by decide +kernel
theorem dX12_init_1147 : decode cX12_init 1147 = .ok (.iconst 2, 1) := by decide +kernel
theorem dX12_init_1148 : decode cX12_init 1148 = .ok (.bipush 116, 2) := by decide +kernel
theorem dX12_init_1150 : decode cX12_init 1150 = .ok (.castore, 1) := by decide +kernel
theorem dX12_init_1151 : decode cX12_init 1151 = .ok (.dup, 1) := by decide +kernel
theorem dX12_init_1152 : decode cX12_init 1152 = .ok (.iconst 3, 1) := by decide +kernel
theorem dX12_init_1153 : decode cX12_init 1153 = .ok (.bipush 97, 2) := by decide +kernel
theorem dX12_init_1155 : decode cX12_init 1155 = .ok (.castore, 1) := by decide +kernel
theorem dX12_init_1156 : decode cX12_init 1156 = .ok (.dup, 1) := by decide +kernel
theorem dX12_init_1157 : decode cX12_init 1157 = .ok (.iconst 4, 1) := by decide +kernel
theorem dX12_init_1158 : decode cX12_init 1158 = .ok (.bipush 108, 2) := by decide +kernel
theorem dX12_init_1160 : decode cX12_init 1160 = .ok (.castore, 1) := by decide +kernel
theorem dX12_init_1161 : decode cX12_init 1161 = .ok (.putfield 186, 3) := by decide +kernel
set_option maxHeartbeats 4000000 in
set_option maxRecDepth 100000 in
theorem cM_12 {p : Program} {l : Launch} {e : Env} {R : Room} {s : State} {m : MethodId} {args : Array Value} {below : List Frame} {meth : Method} {c : Code} {Q : State → Prop} {D : va_G} {A : Nat → Prop} {ls : Array Slot} {h0 : Nat} {T : va_W} (hx : p.tables.exec = Jvm.exec) (hb : c.code = cX12_init) (ht : ∀ w ∈ lw_gd, w.before args s = true) (hown : s.vm.findClass RX12 = some m.cls) (hin : meth.name = "<init>") (hK : va_K D vwCl (TY D) s) (hA : ∀ q : Nat, s.heap.size ≤ q → A q) (hRc : 80 ≤ R.cells) (hRs : 35050 ≤ R.slots) (hl : lv_has ls 1 [(0, .ref h0)]) {fs : List Value} (hlen : fs.length = 116) {H : Heap} {locs : List Loc} (hP : va_P D vwCl ((h0, .inr (12, fs)) :: T) H) (hD : va_D A ((h0, .inr (12, fs)) :: T)) (hS : va_S A s.heap H locs)
    (kk : ∀ (q_90 : Nat) (q_88 : Nat) (q_86 : Nat) (q_84 : Nat) (q_82 : Nat) (q_80 : Nat) (q_78 : Nat) (q_76 : Nat) (q_74 : Nat) (q_72 : Nat) (q_70 : Nat) (q_68 : Nat) (fs' : List Value) (H : Heap) (locs : List Loc), fs' = ((((((((((((fs.set 43 (.ref q_68)).set 44 (.ref q_70)).set 49 (.ref q_72)).set 54 (.ref q_74)).set 56 (.ref q_76)).set 57 (.ref q_78)).set 58 (.ref q_80)).set 59 (.ref q_82)).set 60 (.ref q_84)).set 61 (.ref q_86)).set 62 (.ref q_88)).set 63 (.ref q_90)) → va_P D vwCl ((h0, .inr (12, fs')) :: (q_90, .inl (D.1 16, 48, .inl (fun _ => 0))) :: (q_88, .inl (D.1 13, 300, .inl (fun _ => 0))) :: (q_86, .inl (D.1 13, 785, .inl (fun _ => 0))) :: (q_84, .inl (D.1 16, 48, .inl (fun _ => 0))) :: (q_82, .inl (D.1 13, 785, .inl (fun _ => 0))) :: (q_80, .inl (D.1 13, 48, .inl (fun _ => 0))) :: (q_78, .inl (D.1 13, 48, .inl (fun _ => 0))) :: (q_76, .inl (D.1 13, 300, .inl (fun _ => 0))) :: (q_74, .inl (D.1 16, 48, .inl (fun _ => 0))) :: (q_72, .inl (D.1 13, 906, .inl (fun _ => 0))) :: (q_70, .inl (D.1 13, 3200, .inl (fun _ => 0))) :: (q_68, .inl (D.1 13, 6, .inl (fun _ => 0))) :: T) H → va_D A ((h0, .inr (12, fs')) :: (q_90, .inl (D.1 16, 48, .inl (fun _ => 0))) :: (q_88, .inl (D.1 13, 300, .inl (fun _ => 0))) :: (q_86, .inl (D.1 13, 785, .inl (fun _ => 0))) :: (q_84, .inl (D.1 16, 48, .inl (fun _ => 0))) :: (q_82, .inl (D.1 13, 785, .inl (fun _ => 0))) :: (q_80, .inl (D.1 13, 48, .inl (fun _ => 0))) :: (q_78, .inl (D.1 13, 48, .inl (fun _ => 0))) :: (q_76, .inl (D.1 13, 300, .inl (fun _ => 0))) :: (q_74, .inl (D.1 16, 48, .inl (fun _ => 0))) :: (q_72, .inl (D.1 13, 906, .inl (fun _ => 0))) :: (q_70, .inl (D.1 13, 3200, .inl (fun _ => 0))) :: (q_68, .inl (D.1 13, 6, .inl (fun _ => 0))) :: T) → va_S A s.heap H locs → W p l e R s m args below meth c H locs 45 8519 Q (F0 m 976 ls [])) : W p l e R s m args below meth c H locs 33 1997 Q (F0 m 874 ls []) := by
  refine lv_aload_n hx hb dX12_init_874 rfl (lv_at hl 0 rfl) ?_
  refine lv_bipush (v := 6) hx hb dX12_init_875 (by decide) ?_
  refine va_newa (atype := .int) (a0 := (6, .inl (fun _ => 0))) (ty := .int) (N' := 6) hx hb (ht _ ac_int) rfl hK hP hD hS hA (fun _ => rfl) (by decide) (by decide) (by decide) (Nat.le_trans (Nat.le_of_ble_eq_true rfl) hRc) (Nat.le_trans (Nat.le_of_ble_eq_true rfl) hRs) dX12_init_877 (fun q_68 cA H hK2 hP hD hS => ?_)
  obtain rfl := z_cls_int hK hK2
  refine W.widen (k := 34) (n := 2003) (Nat.le_of_ble_eq_true rfl) (Nat.le_of_ble_eq_true rfl) ?_
  obtain ⟨hP, hD⟩ := z_rot hP hD
  have hP : va_P D vwCl ((h0, .inr (12, fs)) :: (q_68, .inl (D.1 13, 6, .inl (fun _ => 0))) :: T) H := hP
  have hD : va_D A ((h0, .inr (12, fs)) :: (q_68, .inl (D.1 13, 6, .inl (fun _ => 0))) :: T) := hD
  refine va_putF (D := D) (ci := 12) (v := .ref q_68) (ty := .array .int) (C := RX12) (T := TX12) (N := 116) hx hb ht inX12 tyX12 tyX12_ok nmX12 hown hK hP hD hS 0 rfl rfl 43 (by decide) (ht (.fieldLink RX12 115 "CloneVolumesModel" "codeEnd" "[I") fl_X12_115) (fun _ h9 => h9) rfl hin rfl (by decide +kernel) rfl rfl (by rw [hlen]; decide) dX12_init_879 (fun H locs hP hD hS => ?_)
  have hP : va_P D vwCl ((h0, .inr (12, (fs.set 43 (.ref q_68)))) :: (q_68, .inl (D.1 13, 6, .inl (fun _ => 0))) :: T) H := hP
  have hD : va_D A ((h0, .inr (12, (fs.set 43 (.ref q_68)))) :: (q_68, .inl (D.1 13, 6, .inl (fun _ => 0))) :: T) := hD
  generalize hfs_69 : fs.set 43 (.ref q_68) = fs_69 at hP hD
  have hlen : fs_69.length = 116 := by rw [← hfs_69, List.length_set]; exact hlen
  have hP : va_P D vwCl ((h0, .inr (12, fs_69)) :: (q_68, .inl (D.1 13, 6, .inl (fun _ => 0))) :: T) H := hP
  have hD : va_D A ((h0, .inr (12, fs_69)) :: (q_68, .inl (D.1 13, 6, .inl (fun _ => 0))) :: T) := hD
  refine lv_aload_n hx hb dX12_init_882 rfl (lv_at hl 0 rfl) ?_
  refine lv_sipush (v := 3200) hx hb dX12_init_883 (by decide) ?_
  refine va_newa (atype := .int) (a0 := (3200, .inl (fun _ => 0))) (ty := .int) (N' := 3200) hx hb (ht _ ac_int) rfl hK hP hD hS hA (fun _ => rfl) (by decide) (by decide) (by decide) (Nat.le_trans (Nat.le_of_ble_eq_true rfl) hRc) (Nat.le_trans (Nat.le_of_ble_eq_true rfl) hRs) dX12_init_886 (fun q_70 cA H hK2 hP hD hS => ?_)
  obtain rfl := z_cls_int hK hK2
  refine W.widen (k := 35) (n := 5203) (Nat.le_of_ble_eq_true rfl) (Nat.le_of_ble_eq_true rfl) ?_
  obtain ⟨hP, hD⟩ := z_rot hP hD
  have hP : va_P D vwCl ((h0, .inr (12, fs_69)) :: (q_70, .inl (D.1 13, 3200, .inl (fun _ => 0))) :: (q_68, .inl (D.1 13, 6, .inl (fun _ => 0))) :: T) H := hP
  have hD : va_D A ((h0, .inr (12, fs_69)) :: (q_70, .inl (D.1 13, 3200, .inl (fun _ => 0))) :: (q_68, .inl (D.1 13, 6, .inl (fun _ => 0))) :: T) := hD
  refine va_putF (D := D) (ci := 12) (v := .ref q_70) (ty := .array .int) (C := RX12) (T := TX12) (N := 116) hx hb ht inX12 tyX12 tyX12_ok nmX12 hown hK hP hD hS 0 rfl rfl 44 (by decide) (ht (.fieldLink RX12 118 "CloneVolumesModel" "codes" "[I") fl_X12_118) (fun _ h9 => h9) rfl hin rfl (by decide +kernel) rfl rfl (by rw [hlen]; decide) dX12_init_888 (fun H locs hP hD hS => ?_)
  have hP : va_P D vwCl ((h0, .inr (12, (fs_69.set 44 (.ref q_70)))) :: (q_70, .inl (D.1 13, 3200, .inl (fun _ => 0))) :: (q_68, .inl (D.1 13, 6, .inl (fun _ => 0))) :: T) H := hP
  have hD : va_D A ((h0, .inr (12, (fs_69.set 44 (.ref q_70)))) :: (q_70, .inl (D.1 13, 3200, .inl (fun _ => 0))) :: (q_68, .inl (D.1 13, 6, .inl (fun _ => 0))) :: T) := hD
  generalize hfs_71 : fs_69.set 44 (.ref q_70) = fs_71 at hP hD
  have hlen : fs_71.length = 116 := by rw [← hfs_71, List.length_set]; exact hlen
  have hP : va_P D vwCl ((h0, .inr (12, fs_71)) :: (q_70, .inl (D.1 13, 3200, .inl (fun _ => 0))) :: (q_68, .inl (D.1 13, 6, .inl (fun _ => 0))) :: T) H := hP
  have hD : va_D A ((h0, .inr (12, fs_71)) :: (q_70, .inl (D.1 13, 3200, .inl (fun _ => 0))) :: (q_68, .inl (D.1 13, 6, .inl (fun _ => 0))) :: T) := hD
  refine lv_aload_n hx hb dX12_init_891 rfl (lv_at hl 0 rfl) ?_
  refine lv_sipush (v := 906) hx hb dX12_init_892 (by decide) ?_
  refine va_newa (atype := .int) (a0 := (906, .inl (fun _ => 0))) (ty := .int) (N' := 906) hx hb (ht _ ac_int) rfl hK hP hD hS hA (fun _ => rfl) (by decide) (by decide) (by decide) (Nat.le_trans (Nat.le_of_ble_eq_true rfl) hRc) (Nat.le_trans (Nat.le_of_ble_eq_true rfl) hRs) dX12_init_895 (fun q_72 cA H hK2 hP hD hS => ?_)
  obtain rfl := z_cls_int hK hK2
  refine W.widen (k := 36) (n := 6109) (Nat.le_of_ble_eq_true rfl) (Nat.le_of_ble_eq_true rfl) ?_
  obtain ⟨hP, hD⟩ := z_rot hP hD
  have hP : va_P D vwCl ((h0, .inr (12, fs_71)) :: (q_72, .inl (D.1 13, 906, .inl (fun _ => 0))) :: (q_70, .inl (D.1 13, 3200, .inl (fun _ => 0))) :: (q_68, .inl (D.1 13, 6, .inl (fun _ => 0))) :: T) H := hP
  have hD : va_D A ((h0, .inr (12, fs_71)) :: (q_72, .inl (D.1 13, 906, .inl (fun _ => 0))) :: (q_70, .inl (D.1 13, 3200, .inl (fun _ => 0))) :: (q_68, .inl (D.1 13, 6, .inl (fun _ => 0))) :: T) := hD
  refine va_putF (D := D) (ci := 12) (v := .ref q_72) (ty := .array .int) (C := RX12) (T := TX12) (N := 116) hx hb ht inX12 tyX12 tyX12_ok nmX12 hown hK hP hD hS 0 rfl rfl 49 (by decide) (ht (.fieldLink RX12 121 "CloneVolumesModel" "now" "[I") fl_X12_121) (fun _ h9 => h9) rfl hin rfl (by decide +kernel) rfl rfl (by rw [hlen]; decide) dX12_init_897 (fun H locs hP hD hS => ?_)
  have hP : va_P D vwCl ((h0, .inr (12, (fs_71.set 49 (.ref q_72)))) :: (q_72, .inl (D.1 13, 906, .inl (fun _ => 0))) :: (q_70, .inl (D.1 13, 3200, .inl (fun _ => 0))) :: (q_68, .inl (D.1 13, 6, .inl (fun _ => 0))) :: T) H := hP
  have hD : va_D A ((h0, .inr (12, (fs_71.set 49 (.ref q_72)))) :: (q_72, .inl (D.1 13, 906, .inl (fun _ => 0))) :: (q_70, .inl (D.1 13, 3200, .inl (fun _ => 0))) :: (q_68, .inl (D.1 13, 6, .inl (fun _ => 0))) :: T) := hD
  generalize hfs_73 : fs_71.set 49 (.ref q_72) = fs_73 at hP hD
  have hlen : fs_73.length = 116 := by rw [← hfs_73, List.length_set]; exact hlen
  have hP : va_P D vwCl ((h0, .inr (12, fs_73)) :: (q_72, .inl (D.1 13, 906, .inl (fun _ => 0))) :: (q_70, .inl (D.1 13, 3200, .inl (fun _ => 0))) :: (q_68, .inl (D.1 13, 6, .inl (fun _ => 0))) :: T) H := hP
  have hD : va_D A ((h0, .inr (12, fs_73)) :: (q_72, .inl (D.1 13, 906, .inl (fun _ => 0))) :: (q_70, .inl (D.1 13, 3200, .inl (fun _ => 0))) :: (q_68, .inl (D.1 13, 6, .inl (fun _ => 0))) :: T) := hD
  refine lv_aload_n hx hb dX12_init_900 rfl (lv_at hl 0 rfl) ?_
  refine lv_bipush (v := 48) hx hb dX12_init_901 (by decide) ?_
  refine va_newa (atype := .boolean) (a0 := (48, .inl (fun _ => 0))) (ty := .boolean) (N' := 48) hx hb (ht _ ac_boolean) rfl hK hP hD hS hA (fun _ => rfl) (by decide) (by decide) (by decide) (Nat.le_trans (Nat.le_of_ble_eq_true rfl) hRc) (Nat.le_trans (Nat.le_of_ble_eq_true rfl) hRs) dX12_init_903 (fun q_74 cA H hK2 hP hD hS => ?_)
  obtain rfl := z_cls_boolean hK hK2
  refine W.widen (k := 37) (n := 6157) (Nat.le_of_ble_eq_true rfl) (Nat.le_of_ble_eq_true rfl) ?_
  obtain ⟨hP, hD⟩ := z_rot hP hD
  have hP : va_P D vwCl ((h0, .inr (12, fs_73)) :: (q_74, .inl (D.1 16, 48, .inl (fun _ => 0))) :: (q_72, .inl (D.1 13, 906, .inl (fun _ => 0))) :: (q_70, .inl (D.1 13, 3200, .inl (fun _ => 0))) :: (q_68, .inl (D.1 13, 6, .inl (fun _ => 0))) :: T) H := hP
  have hD : va_D A ((h0, .inr (12, fs_73)) :: (q_74, .inl (D.1 16, 48, .inl (fun _ => 0))) :: (q_72, .inl (D.1 13, 906, .inl (fun _ => 0))) :: (q_70, .inl (D.1 13, 3200, .inl (fun _ => 0))) :: (q_68, .inl (D.1 13, 6, .inl (fun _ => 0))) :: T) := hD
  refine va_putF (D := D) (ci := 12) (v := .ref q_74) (ty := .array .boolean) (C := RX12) (T := TX12) (N := 116) hx hb ht inX12 tyX12 tyX12_ok nmX12 hown hK hP hD hS 0 rfl rfl 54 (by decide) (ht (.fieldLink RX12 124 "CloneVolumesModel" "isTouched" "[Z") fl_X12_124) (fun _ h9 => h9) rfl hin rfl (by decide +kernel) rfl rfl (by rw [hlen]; decide) dX12_init_905 (fun H locs hP hD hS => ?_)
  have hP : va_P D vwCl ((h0, .inr (12, (fs_73.set 54 (.ref q_74)))) :: (q_74, .inl (D.1 16, 48, .inl (fun _ => 0))) :: (q_72, .inl (D.1 13, 906, .inl (fun _ => 0))) :: (q_70, .inl (D.1 13, 3200, .inl (fun _ => 0))) :: (q_68, .inl (D.1 13, 6, .inl (fun _ => 0))) :: T) H := hP
  have hD : va_D A ((h0, .inr (12, (fs_73.set 54 (.ref q_74)))) :: (q_74, .inl (D.1 16, 48, .inl (fun _ => 0))) :: (q_72, .inl (D.1 13, 906, .inl (fun _ => 0))) :: (q_70, .inl (D.1 13, 3200, .inl (fun _ => 0))) :: (q_68, .inl (D.1 13, 6, .inl (fun _ => 0))) :: T) := hD
  generalize hfs_75 : fs_73.set 54 (.ref q_74) = fs_75 at hP hD
  have hlen : fs_75.length = 116 := by rw [← hfs_75, List.length_set]; exact hlen
  have hP : va_P D vwCl ((h0, .inr (12, fs_75)) :: (q_74, .inl (D.1 16, 48, .inl (fun _ => 0))) :: (q_72, .inl (D.1 13, 906, .inl (fun _ => 0))) :: (q_70, .inl (D.1 13, 3200, .inl (fun _ => 0))) :: (q_68, .inl (D.1 13, 6, .inl (fun _ => 0))) :: T) H := hP
  have hD : va_D A ((h0, .inr (12, fs_75)) :: (q_74, .inl (D.1 16, 48, .inl (fun _ => 0))) :: (q_72, .inl (D.1 13, 906, .inl (fun _ => 0))) :: (q_70, .inl (D.1 13, 3200, .inl (fun _ => 0))) :: (q_68, .inl (D.1 13, 6, .inl (fun _ => 0))) :: T) := hD
  refine lv_aload_n hx hb dX12_init_908 rfl (lv_at hl 0 rfl) ?_
  refine lv_sipush (v := 300) hx hb dX12_init_909 (by decide) ?_
  refine va_newa (atype := .int) (a0 := (300, .inl (fun _ => 0))) (ty := .int) (N' := 300) hx hb (ht _ ac_int) rfl hK hP hD hS hA (fun _ => rfl) (by decide) (by decide) (by decide) (Nat.le_trans (Nat.le_of_ble_eq_true rfl) hRc) (Nat.le_trans (Nat.le_of_ble_eq_true rfl) hRs) dX12_init_912 (fun q_76 cA H hK2 hP hD hS => ?_)
  obtain rfl := z_cls_int hK hK2
  refine W.widen (k := 38) (n := 6457) (Nat.le_of_ble_eq_true rfl) (Nat.le_of_ble_eq_true rfl) ?_
  obtain ⟨hP, hD⟩ := z_rot hP hD
  have hP : va_P D vwCl ((h0, .inr (12, fs_75)) :: (q_76, .inl (D.1 13, 300, .inl (fun _ => 0))) :: (q_74, .inl (D.1 16, 48, .inl (fun _ => 0))) :: (q_72, .inl (D.1 13, 906, .inl (fun _ => 0))) :: (q_70, .inl (D.1 13, 3200, .inl (fun _ => 0))) :: (q_68, .inl (D.1 13, 6, .inl (fun _ => 0))) :: T) H := hP
  have hD : va_D A ((h0, .inr (12, fs_75)) :: (q_76, .inl (D.1 13, 300, .inl (fun _ => 0))) :: (q_74, .inl (D.1 16, 48, .inl (fun _ => 0))) :: (q_72, .inl (D.1 13, 906, .inl (fun _ => 0))) :: (q_70, .inl (D.1 13, 3200, .inl (fun _ => 0))) :: (q_68, .inl (D.1 13, 6, .inl (fun _ => 0))) :: T) := hD
  refine va_putF (D := D) (ci := 12) (v := .ref q_76) (ty := .array .int) (C := RX12) (T := TX12) (N := 116) hx hb ht inX12 tyX12 tyX12_ok nmX12 hown hK hP hD hS 0 rfl rfl 56 (by decide) (ht (.fieldLink RX12 128 "CloneVolumesModel" "fallRow" "[I") fl_X12_128) (fun _ h9 => h9) rfl hin rfl (by decide +kernel) rfl rfl (by rw [hlen]; decide) dX12_init_914 (fun H locs hP hD hS => ?_)
  have hP : va_P D vwCl ((h0, .inr (12, (fs_75.set 56 (.ref q_76)))) :: (q_76, .inl (D.1 13, 300, .inl (fun _ => 0))) :: (q_74, .inl (D.1 16, 48, .inl (fun _ => 0))) :: (q_72, .inl (D.1 13, 906, .inl (fun _ => 0))) :: (q_70, .inl (D.1 13, 3200, .inl (fun _ => 0))) :: (q_68, .inl (D.1 13, 6, .inl (fun _ => 0))) :: T) H := hP
  have hD : va_D A ((h0, .inr (12, (fs_75.set 56 (.ref q_76)))) :: (q_76, .inl (D.1 13, 300, .inl (fun _ => 0))) :: (q_74, .inl (D.1 16, 48, .inl (fun _ => 0))) :: (q_72, .inl (D.1 13, 906, .inl (fun _ => 0))) :: (q_70, .inl (D.1 13, 3200, .inl (fun _ => 0))) :: (q_68, .inl (D.1 13, 6, .inl (fun _ => 0))) :: T) := hD
  generalize hfs_77 : fs_75.set 56 (.ref q_76) = fs_77 at hP hD
  have hlen : fs_77.length = 116 := by rw [← hfs_77, List.length_set]; exact hlen
  have hP : va_P D vwCl ((h0, .inr (12, fs_77)) :: (q_76, .inl (D.1 13, 300, .inl (fun _ => 0))) :: (q_74, .inl (D.1 16, 48, .inl (fun _ => 0))) :: (q_72, .inl (D.1 13, 906, .inl (fun _ => 0))) :: (q_70, .inl (D.1 13, 3200, .inl (fun _ => 0))) :: (q_68, .inl (D.1 13, 6, .inl (fun _ => 0))) :: T) H := hP
  have hD : va_D A ((h0, .inr (12, fs_77)) :: (q_76, .inl (D.1 13, 300, .inl (fun _ => 0))) :: (q_74, .inl (D.1 16, 48, .inl (fun _ => 0))) :: (q_72, .inl (D.1 13, 906, .inl (fun _ => 0))) :: (q_70, .inl (D.1 13, 3200, .inl (fun _ => 0))) :: (q_68, .inl (D.1 13, 6, .inl (fun _ => 0))) :: T) := hD
  refine lv_aload_n hx hb dX12_init_917 rfl (lv_at hl 0 rfl) ?_
  refine lv_bipush (v := 48) hx hb dX12_init_918 (by decide) ?_
  refine va_newa (atype := .int) (a0 := (48, .inl (fun _ => 0))) (ty := .int) (N' := 48) hx hb (ht _ ac_int) rfl hK hP hD hS hA (fun _ => rfl) (by decide) (by decide) (by decide) (Nat.le_trans (Nat.le_of_ble_eq_true rfl) hRc) (Nat.le_trans (Nat.le_of_ble_eq_true rfl) hRs) dX12_init_920 (fun q_78 cA H hK2 hP hD hS => ?_)
  obtain rfl := z_cls_int hK hK2
  refine W.widen (k := 39) (n := 6505) (Nat.le_of_ble_eq_true rfl) (Nat.le_of_ble_eq_true rfl) ?_
  obtain ⟨hP, hD⟩ := z_rot hP hD
  have hP : va_P D vwCl ((h0, .inr (12, fs_77)) :: (q_78, .inl (D.1 13, 48, .inl (fun _ => 0))) :: (q_76, .inl (D.1 13, 300, .inl (fun _ => 0))) :: (q_74, .inl (D.1 16, 48, .inl (fun _ => 0))) :: (q_72, .inl (D.1 13, 906, .inl (fun _ => 0))) :: (q_70, .inl (D.1 13, 3200, .inl (fun _ => 0))) :: (q_68, .inl (D.1 13, 6, .inl (fun _ => 0))) :: T) H := hP
  have hD : va_D A ((h0, .inr (12, fs_77)) :: (q_78, .inl (D.1 13, 48, .inl (fun _ => 0))) :: (q_76, .inl (D.1 13, 300, .inl (fun _ => 0))) :: (q_74, .inl (D.1 16, 48, .inl (fun _ => 0))) :: (q_72, .inl (D.1 13, 906, .inl (fun _ => 0))) :: (q_70, .inl (D.1 13, 3200, .inl (fun _ => 0))) :: (q_68, .inl (D.1 13, 6, .inl (fun _ => 0))) :: T) := hD
  refine va_putF (D := D) (ci := 12) (v := .ref q_78) (ty := .array .int) (C := RX12) (T := TX12) (N := 116) hx hb ht inX12 tyX12 tyX12_ok nmX12 hown hK hP hD hS 0 rfl rfl 57 (by decide) (ht (.fieldLink RX12 131 "CloneVolumesModel" "wayBlocks" "[I") fl_X12_131) (fun _ h9 => h9) rfl hin rfl (by decide +kernel) rfl rfl (by rw [hlen]; decide) dX12_init_922 (fun H locs hP hD hS => ?_)
  have hP : va_P D vwCl ((h0, .inr (12, (fs_77.set 57 (.ref q_78)))) :: (q_78, .inl (D.1 13, 48, .inl (fun _ => 0))) :: (q_76, .inl (D.1 13, 300, .inl (fun _ => 0))) :: (q_74, .inl (D.1 16, 48, .inl (fun _ => 0))) :: (q_72, .inl (D.1 13, 906, .inl (fun _ => 0))) :: (q_70, .inl (D.1 13, 3200, .inl (fun _ => 0))) :: (q_68, .inl (D.1 13, 6, .inl (fun _ => 0))) :: T) H := hP
  have hD : va_D A ((h0, .inr (12, (fs_77.set 57 (.ref q_78)))) :: (q_78, .inl (D.1 13, 48, .inl (fun _ => 0))) :: (q_76, .inl (D.1 13, 300, .inl (fun _ => 0))) :: (q_74, .inl (D.1 16, 48, .inl (fun _ => 0))) :: (q_72, .inl (D.1 13, 906, .inl (fun _ => 0))) :: (q_70, .inl (D.1 13, 3200, .inl (fun _ => 0))) :: (q_68, .inl (D.1 13, 6, .inl (fun _ => 0))) :: T) := hD
  generalize hfs_79 : fs_77.set 57 (.ref q_78) = fs_79 at hP hD
  have hlen : fs_79.length = 116 := by rw [← hfs_79, List.length_set]; exact hlen
  have hP : va_P D vwCl ((h0, .inr (12, fs_79)) :: (q_78, .inl (D.1 13, 48, .inl (fun _ => 0))) :: (q_76, .inl (D.1 13, 300, .inl (fun _ => 0))) :: (q_74, .inl (D.1 16, 48, .inl (fun _ => 0))) :: (q_72, .inl (D.1 13, 906, .inl (fun _ => 0))) :: (q_70, .inl (D.1 13, 3200, .inl (fun _ => 0))) :: (q_68, .inl (D.1 13, 6, .inl (fun _ => 0))) :: T) H := hP
  have hD : va_D A ((h0, .inr (12, fs_79)) :: (q_78, .inl (D.1 13, 48, .inl (fun _ => 0))) :: (q_76, .inl (D.1 13, 300, .inl (fun _ => 0))) :: (q_74, .inl (D.1 16, 48, .inl (fun _ => 0))) :: (q_72, .inl (D.1 13, 906, .inl (fun _ => 0))) :: (q_70, .inl (D.1 13, 3200, .inl (fun _ => 0))) :: (q_68, .inl (D.1 13, 6, .inl (fun _ => 0))) :: T) := hD
  refine lv_aload_n hx hb dX12_init_925 rfl (lv_at hl 0 rfl) ?_
  refine lv_bipush (v := 48) hx hb dX12_init_926 (by decide) ?_
  refine va_newa (atype := .int) (a0 := (48, .inl (fun _ => 0))) (ty := .int) (N' := 48) hx hb (ht _ ac_int) rfl hK hP hD hS hA (fun _ => rfl) (by decide) (by decide) (by decide) (Nat.le_trans (Nat.le_of_ble_eq_true rfl) hRc) (Nat.le_trans (Nat.le_of_ble_eq_true rfl) hRs) dX12_init_928 (fun q_80 cA H hK2 hP hD hS => ?_)
  obtain rfl := z_cls_int hK hK2
  refine W.widen (k := 40) (n := 6553) (Nat.le_of_ble_eq_true rfl) (Nat.le_of_ble_eq_true rfl) ?_
  obtain ⟨hP, hD⟩ := z_rot hP hD
  have hP : va_P D vwCl ((h0, .inr (12, fs_79)) :: (q_80, .inl (D.1 13, 48, .inl (fun _ => 0))) :: (q_78, .inl (D.1 13, 48, .inl (fun _ => 0))) :: (q_76, .inl (D.1 13, 300, .inl (fun _ => 0))) :: (q_74, .inl (D.1 16, 48, .inl (fun _ => 0))) :: (q_72, .inl (D.1 13, 906, .inl (fun _ => 0))) :: (q_70, .inl (D.1 13, 3200, .inl (fun _ => 0))) :: (q_68, .inl (D.1 13, 6, .inl (fun _ => 0))) :: T) H := hP
  have hD : va_D A ((h0, .inr (12, fs_79)) :: (q_80, .inl (D.1 13, 48, .inl (fun _ => 0))) :: (q_78, .inl (D.1 13, 48, .inl (fun _ => 0))) :: (q_76, .inl (D.1 13, 300, .inl (fun _ => 0))) :: (q_74, .inl (D.1 16, 48, .inl (fun _ => 0))) :: (q_72, .inl (D.1 13, 906, .inl (fun _ => 0))) :: (q_70, .inl (D.1 13, 3200, .inl (fun _ => 0))) :: (q_68, .inl (D.1 13, 6, .inl (fun _ => 0))) :: T) := hD
  refine va_putF (D := D) (ci := 12) (v := .ref q_80) (ty := .array .int) (C := RX12) (T := TX12) (N := 116) hx hb ht inX12 tyX12 tyX12_ok nmX12 hown hK hP hD hS 0 rfl rfl 58 (by decide) (ht (.fieldLink RX12 134 "CloneVolumesModel" "wayPlaces" "[I") fl_X12_134) (fun _ h9 => h9) rfl hin rfl (by decide +kernel) rfl rfl (by rw [hlen]; decide) dX12_init_930 (fun H locs hP hD hS => ?_)
  have hP : va_P D vwCl ((h0, .inr (12, (fs_79.set 58 (.ref q_80)))) :: (q_80, .inl (D.1 13, 48, .inl (fun _ => 0))) :: (q_78, .inl (D.1 13, 48, .inl (fun _ => 0))) :: (q_76, .inl (D.1 13, 300, .inl (fun _ => 0))) :: (q_74, .inl (D.1 16, 48, .inl (fun _ => 0))) :: (q_72, .inl (D.1 13, 906, .inl (fun _ => 0))) :: (q_70, .inl (D.1 13, 3200, .inl (fun _ => 0))) :: (q_68, .inl (D.1 13, 6, .inl (fun _ => 0))) :: T) H := hP
  have hD : va_D A ((h0, .inr (12, (fs_79.set 58 (.ref q_80)))) :: (q_80, .inl (D.1 13, 48, .inl (fun _ => 0))) :: (q_78, .inl (D.1 13, 48, .inl (fun _ => 0))) :: (q_76, .inl (D.1 13, 300, .inl (fun _ => 0))) :: (q_74, .inl (D.1 16, 48, .inl (fun _ => 0))) :: (q_72, .inl (D.1 13, 906, .inl (fun _ => 0))) :: (q_70, .inl (D.1 13, 3200, .inl (fun _ => 0))) :: (q_68, .inl (D.1 13, 6, .inl (fun _ => 0))) :: T) := hD
  generalize hfs_81 : fs_79.set 58 (.ref q_80) = fs_81 at hP hD
  have hlen : fs_81.length = 116 := by rw [← hfs_81, List.length_set]; exact hlen
  have hP : va_P D vwCl ((h0, .inr (12, fs_81)) :: (q_80, .inl (D.1 13, 48, .inl (fun _ => 0))) :: (q_78, .inl (D.1 13, 48, .inl (fun _ => 0))) :: (q_76, .inl (D.1 13, 300, .inl (fun _ => 0))) :: (q_74, .inl (D.1 16, 48, .inl (fun _ => 0))) :: (q_72, .inl (D.1 13, 906, .inl (fun _ => 0))) :: (q_70, .inl (D.1 13, 3200, .inl (fun _ => 0))) :: (q_68, .inl (D.1 13, 6, .inl (fun _ => 0))) :: T) H := hP
  have hD : va_D A ((h0, .inr (12, fs_81)) :: (q_80, .inl (D.1 13, 48, .inl (fun _ => 0))) :: (q_78, .inl (D.1 13, 48, .inl (fun _ => 0))) :: (q_76, .inl (D.1 13, 300, .inl (fun _ => 0))) :: (q_74, .inl (D.1 16, 48, .inl (fun _ => 0))) :: (q_72, .inl (D.1 13, 906, .inl (fun _ => 0))) :: (q_70, .inl (D.1 13, 3200, .inl (fun _ => 0))) :: (q_68, .inl (D.1 13, 6, .inl (fun _ => 0))) :: T) := hD
  refine lv_aload_n hx hb dX12_init_933 rfl (lv_at hl 0 rfl) ?_
  refine lv_sipush (v := 785) hx hb dX12_init_934 (by decide) ?_
  refine va_newa (atype := .int) (a0 := (785, .inl (fun _ => 0))) (ty := .int) (N' := 785) hx hb (ht _ ac_int) rfl hK hP hD hS hA (fun _ => rfl) (by decide) (by decide) (by decide) (Nat.le_trans (Nat.le_of_ble_eq_true rfl) hRc) (Nat.le_trans (Nat.le_of_ble_eq_true rfl) hRs) dX12_init_937 (fun q_82 cA H hK2 hP hD hS => ?_)
  obtain rfl := z_cls_int hK hK2
  refine W.widen (k := 41) (n := 7338) (Nat.le_of_ble_eq_true rfl) (Nat.le_of_ble_eq_true rfl) ?_
  obtain ⟨hP, hD⟩ := z_rot hP hD
  have hP : va_P D vwCl ((h0, .inr (12, fs_81)) :: (q_82, .inl (D.1 13, 785, .inl (fun _ => 0))) :: (q_80, .inl (D.1 13, 48, .inl (fun _ => 0))) :: (q_78, .inl (D.1 13, 48, .inl (fun _ => 0))) :: (q_76, .inl (D.1 13, 300, .inl (fun _ => 0))) :: (q_74, .inl (D.1 16, 48, .inl (fun _ => 0))) :: (q_72, .inl (D.1 13, 906, .inl (fun _ => 0))) :: (q_70, .inl (D.1 13, 3200, .inl (fun _ => 0))) :: (q_68, .inl (D.1 13, 6, .inl (fun _ => 0))) :: T) H := hP
  have hD : va_D A ((h0, .inr (12, fs_81)) :: (q_82, .inl (D.1 13, 785, .inl (fun _ => 0))) :: (q_80, .inl (D.1 13, 48, .inl (fun _ => 0))) :: (q_78, .inl (D.1 13, 48, .inl (fun _ => 0))) :: (q_76, .inl (D.1 13, 300, .inl (fun _ => 0))) :: (q_74, .inl (D.1 16, 48, .inl (fun _ => 0))) :: (q_72, .inl (D.1 13, 906, .inl (fun _ => 0))) :: (q_70, .inl (D.1 13, 3200, .inl (fun _ => 0))) :: (q_68, .inl (D.1 13, 6, .inl (fun _ => 0))) :: T) := hD
  refine va_putF (D := D) (ci := 12) (v := .ref q_82) (ty := .array .int) (C := RX12) (T := TX12) (N := 116) hx hb ht inX12 tyX12 tyX12_ok nmX12 hown hK hP hD hS 0 rfl rfl 59 (by decide) (ht (.fieldLink RX12 137 "CloneVolumesModel" "tried" "[I") fl_X12_137) (fun _ h9 => h9) rfl hin rfl (by decide +kernel) rfl rfl (by rw [hlen]; decide) dX12_init_939 (fun H locs hP hD hS => ?_)
  have hP : va_P D vwCl ((h0, .inr (12, (fs_81.set 59 (.ref q_82)))) :: (q_82, .inl (D.1 13, 785, .inl (fun _ => 0))) :: (q_80, .inl (D.1 13, 48, .inl (fun _ => 0))) :: (q_78, .inl (D.1 13, 48, .inl (fun _ => 0))) :: (q_76, .inl (D.1 13, 300, .inl (fun _ => 0))) :: (q_74, .inl (D.1 16, 48, .inl (fun _ => 0))) :: (q_72, .inl (D.1 13, 906, .inl (fun _ => 0))) :: (q_70, .inl (D.1 13, 3200, .inl (fun _ => 0))) :: (q_68, .inl (D.1 13, 6, .inl (fun _ => 0))) :: T) H := hP
  have hD : va_D A ((h0, .inr (12, (fs_81.set 59 (.ref q_82)))) :: (q_82, .inl (D.1 13, 785, .inl (fun _ => 0))) :: (q_80, .inl (D.1 13, 48, .inl (fun _ => 0))) :: (q_78, .inl (D.1 13, 48, .inl (fun _ => 0))) :: (q_76, .inl (D.1 13, 300, .inl (fun _ => 0))) :: (q_74, .inl (D.1 16, 48, .inl (fun _ => 0))) :: (q_72, .inl (D.1 13, 906, .inl (fun _ => 0))) :: (q_70, .inl (D.1 13, 3200, .inl (fun _ => 0))) :: (q_68, .inl (D.1 13, 6, .inl (fun _ => 0))) :: T) := hD
  generalize hfs_83 : fs_81.set 59 (.ref q_82) = fs_83 at hP hD
  have hlen : fs_83.length = 116 := by rw [← hfs_83, List.length_set]; exact hlen
  have hP : va_P D vwCl ((h0, .inr (12, fs_83)) :: (q_82, .inl (D.1 13, 785, .inl (fun _ => 0))) :: (q_80, .inl (D.1 13, 48, .inl (fun _ => 0))) :: (q_78, .inl (D.1 13, 48, .inl (fun _ => 0))) :: (q_76, .inl (D.1 13, 300, .inl (fun _ => 0))) :: (q_74, .inl (D.1 16, 48, .inl (fun _ => 0))) :: (q_72, .inl (D.1 13, 906, .inl (fun _ => 0))) :: (q_70, .inl (D.1 13, 3200, .inl (fun _ => 0))) :: (q_68, .inl (D.1 13, 6, .inl (fun _ => 0))) :: T) H := hP
  have hD : va_D A ((h0, .inr (12, fs_83)) :: (q_82, .inl (D.1 13, 785, .inl (fun _ => 0))) :: (q_80, .inl (D.1 13, 48, .inl (fun _ => 0))) :: (q_78, .inl (D.1 13, 48, .inl (fun _ => 0))) :: (q_76, .inl (D.1 13, 300, .inl (fun _ => 0))) :: (q_74, .inl (D.1 16, 48, .inl (fun _ => 0))) :: (q_72, .inl (D.1 13, 906, .inl (fun _ => 0))) :: (q_70, .inl (D.1 13, 3200, .inl (fun _ => 0))) :: (q_68, .inl (D.1 13, 6, .inl (fun _ => 0))) :: T) := hD
  refine lv_aload_n hx hb dX12_init_942 rfl (lv_at hl 0 rfl) ?_
  refine lv_bipush (v := 48) hx hb dX12_init_943 (by decide) ?_
  refine va_newa (atype := .boolean) (a0 := (48, .inl (fun _ => 0))) (ty := .boolean) (N' := 48) hx hb (ht _ ac_boolean) rfl hK hP hD hS hA (fun _ => rfl) (by decide) (by decide) (by decide) (Nat.le_trans (Nat.le_of_ble_eq_true rfl) hRc) (Nat.le_trans (Nat.le_of_ble_eq_true rfl) hRs) dX12_init_945 (fun q_84 cA H hK2 hP hD hS => ?_)
  obtain rfl := z_cls_boolean hK hK2
  refine W.widen (k := 42) (n := 7386) (Nat.le_of_ble_eq_true rfl) (Nat.le_of_ble_eq_true rfl) ?_
  obtain ⟨hP, hD⟩ := z_rot hP hD
  have hP : va_P D vwCl ((h0, .inr (12, fs_83)) :: (q_84, .inl (D.1 16, 48, .inl (fun _ => 0))) :: (q_82, .inl (D.1 13, 785, .inl (fun _ => 0))) :: (q_80, .inl (D.1 13, 48, .inl (fun _ => 0))) :: (q_78, .inl (D.1 13, 48, .inl (fun _ => 0))) :: (q_76, .inl (D.1 13, 300, .inl (fun _ => 0))) :: (q_74, .inl (D.1 16, 48, .inl (fun _ => 0))) :: (q_72, .inl (D.1 13, 906, .inl (fun _ => 0))) :: (q_70, .inl (D.1 13, 3200, .inl (fun _ => 0))) :: (q_68, .inl (D.1 13, 6, .inl (fun _ => 0))) :: T) H := hP
  have hD : va_D A ((h0, .inr (12, fs_83)) :: (q_84, .inl (D.1 16, 48, .inl (fun _ => 0))) :: (q_82, .inl (D.1 13, 785, .inl (fun _ => 0))) :: (q_80, .inl (D.1 13, 48, .inl (fun _ => 0))) :: (q_78, .inl (D.1 13, 48, .inl (fun _ => 0))) :: (q_76, .inl (D.1 13, 300, .inl (fun _ => 0))) :: (q_74, .inl (D.1 16, 48, .inl (fun _ => 0))) :: (q_72, .inl (D.1 13, 906, .inl (fun _ => 0))) :: (q_70, .inl (D.1 13, 3200, .inl (fun _ => 0))) :: (q_68, .inl (D.1 13, 6, .inl (fun _ => 0))) :: T) := hD
  refine va_putF (D := D) (ci := 12) (v := .ref q_84) (ty := .array .boolean) (C := RX12) (T := TX12) (N := 116) hx hb ht inX12 tyX12 tyX12_ok nmX12 hown hK hP hD hS 0 rfl rfl 60 (by decide) (ht (.fieldLink RX12 140 "CloneVolumesModel" "wasTouched" "[Z") fl_X12_140) (fun _ h9 => h9) rfl hin rfl (by decide +kernel) rfl rfl (by rw [hlen]; decide) dX12_init_947 (fun H locs hP hD hS => ?_)
  have hP : va_P D vwCl ((h0, .inr (12, (fs_83.set 60 (.ref q_84)))) :: (q_84, .inl (D.1 16, 48, .inl (fun _ => 0))) :: (q_82, .inl (D.1 13, 785, .inl (fun _ => 0))) :: (q_80, .inl (D.1 13, 48, .inl (fun _ => 0))) :: (q_78, .inl (D.1 13, 48, .inl (fun _ => 0))) :: (q_76, .inl (D.1 13, 300, .inl (fun _ => 0))) :: (q_74, .inl (D.1 16, 48, .inl (fun _ => 0))) :: (q_72, .inl (D.1 13, 906, .inl (fun _ => 0))) :: (q_70, .inl (D.1 13, 3200, .inl (fun _ => 0))) :: (q_68, .inl (D.1 13, 6, .inl (fun _ => 0))) :: T) H := hP
  have hD : va_D A ((h0, .inr (12, (fs_83.set 60 (.ref q_84)))) :: (q_84, .inl (D.1 16, 48, .inl (fun _ => 0))) :: (q_82, .inl (D.1 13, 785, .inl (fun _ => 0))) :: (q_80, .inl (D.1 13, 48, .inl (fun _ => 0))) :: (q_78, .inl (D.1 13, 48, .inl (fun _ => 0))) :: (q_76, .inl (D.1 13, 300, .inl (fun _ => 0))) :: (q_74, .inl (D.1 16, 48, .inl (fun _ => 0))) :: (q_72, .inl (D.1 13, 906, .inl (fun _ => 0))) :: (q_70, .inl (D.1 13, 3200, .inl (fun _ => 0))) :: (q_68, .inl (D.1 13, 6, .inl (fun _ => 0))) :: T) := hD
  generalize hfs_85 : fs_83.set 60 (.ref q_84) = fs_85 at hP hD
  have hlen : fs_85.length = 116 := by rw [← hfs_85, List.length_set]; exact hlen
  have hP : va_P D vwCl ((h0, .inr (12, fs_85)) :: (q_84, .inl (D.1 16, 48, .inl (fun _ => 0))) :: (q_82, .inl (D.1 13, 785, .inl (fun _ => 0))) :: (q_80, .inl (D.1 13, 48, .inl (fun _ => 0))) :: (q_78, .inl (D.1 13, 48, .inl (fun _ => 0))) :: (q_76, .inl (D.1 13, 300, .inl (fun _ => 0))) :: (q_74, .inl (D.1 16, 48, .inl (fun _ => 0))) :: (q_72, .inl (D.1 13, 906, .inl (fun _ => 0))) :: (q_70, .inl (D.1 13, 3200, .inl (fun _ => 0))) :: (q_68, .inl (D.1 13, 6, .inl (fun _ => 0))) :: T) H := hP
  have hD : va_D A ((h0, .inr (12, fs_85)) :: (q_84, .inl (D.1 16, 48, .inl (fun _ => 0))) :: (q_82, .inl (D.1 13, 785, .inl (fun _ => 0))) :: (q_80, .inl (D.1 13, 48, .inl (fun _ => 0))) :: (q_78, .inl (D.1 13, 48, .inl (fun _ => 0))) :: (q_76, .inl (D.1 13, 300, .inl (fun _ => 0))) :: (q_74, .inl (D.1 16, 48, .inl (fun _ => 0))) :: (q_72, .inl (D.1 13, 906, .inl (fun _ => 0))) :: (q_70, .inl (D.1 13, 3200, .inl (fun _ => 0))) :: (q_68, .inl (D.1 13, 6, .inl (fun _ => 0))) :: T) := hD
  refine lv_aload_n hx hb dX12_init_950 rfl (lv_at hl 0 rfl) ?_
  refine lv_sipush (v := 785) hx hb dX12_init_951 (by decide) ?_
  refine va_newa (atype := .int) (a0 := (785, .inl (fun _ => 0))) (ty := .int) (N' := 785) hx hb (ht _ ac_int) rfl hK hP hD hS hA (fun _ => rfl) (by decide) (by decide) (by decide) (Nat.le_trans (Nat.le_of_ble_eq_true rfl) hRc) (Nat.le_trans (Nat.le_of_ble_eq_true rfl) hRs) dX12_init_954 (fun q_86 cA H hK2 hP hD hS => ?_)
  obtain rfl := z_cls_int hK hK2
  refine W.widen (k := 43) (n := 8171) (Nat.le_of_ble_eq_true rfl) (Nat.le_of_ble_eq_true rfl) ?_
  obtain ⟨hP, hD⟩ := z_rot hP hD
  have hP : va_P D vwCl ((h0, .inr (12, fs_85)) :: (q_86, .inl (D.1 13, 785, .inl (fun _ => 0))) :: (q_84, .inl (D.1 16, 48, .inl (fun _ => 0))) :: (q_82, .inl (D.1 13, 785, .inl (fun _ => 0))) :: (q_80, .inl (D.1 13, 48, .inl (fun _ => 0))) :: (q_78, .inl (D.1 13, 48, .inl (fun _ => 0))) :: (q_76, .inl (D.1 13, 300, .inl (fun _ => 0))) :: (q_74, .inl (D.1 16, 48, .inl (fun _ => 0))) :: (q_72, .inl (D.1 13, 906, .inl (fun _ => 0))) :: (q_70, .inl (D.1 13, 3200, .inl (fun _ => 0))) :: (q_68, .inl (D.1 13, 6, .inl (fun _ => 0))) :: T) H := hP
  have hD : va_D A ((h0, .inr (12, fs_85)) :: (q_86, .inl (D.1 13, 785, .inl (fun _ => 0))) :: (q_84, .inl (D.1 16, 48, .inl (fun _ => 0))) :: (q_82, .inl (D.1 13, 785, .inl (fun _ => 0))) :: (q_80, .inl (D.1 13, 48, .inl (fun _ => 0))) :: (q_78, .inl (D.1 13, 48, .inl (fun _ => 0))) :: (q_76, .inl (D.1 13, 300, .inl (fun _ => 0))) :: (q_74, .inl (D.1 16, 48, .inl (fun _ => 0))) :: (q_72, .inl (D.1 13, 906, .inl (fun _ => 0))) :: (q_70, .inl (D.1 13, 3200, .inl (fun _ => 0))) :: (q_68, .inl (D.1 13, 6, .inl (fun _ => 0))) :: T) := hD
  refine va_putF (D := D) (ci := 12) (v := .ref q_86) (ty := .array .int) (C := RX12) (T := TX12) (N := 116) hx hb ht inX12 tyX12 tyX12_ok nmX12 hown hK hP hD hS 0 rfl rfl 61 (by decide) (ht (.fieldLink RX12 143 "CloneVolumesModel" "aside" "[I") fl_X12_143) (fun _ h9 => h9) rfl hin rfl (by decide +kernel) rfl rfl (by rw [hlen]; decide) dX12_init_956 (fun H locs hP hD hS => ?_)
  have hP : va_P D vwCl ((h0, .inr (12, (fs_85.set 61 (.ref q_86)))) :: (q_86, .inl (D.1 13, 785, .inl (fun _ => 0))) :: (q_84, .inl (D.1 16, 48, .inl (fun _ => 0))) :: (q_82, .inl (D.1 13, 785, .inl (fun _ => 0))) :: (q_80, .inl (D.1 13, 48, .inl (fun _ => 0))) :: (q_78, .inl (D.1 13, 48, .inl (fun _ => 0))) :: (q_76, .inl (D.1 13, 300, .inl (fun _ => 0))) :: (q_74, .inl (D.1 16, 48, .inl (fun _ => 0))) :: (q_72, .inl (D.1 13, 906, .inl (fun _ => 0))) :: (q_70, .inl (D.1 13, 3200, .inl (fun _ => 0))) :: (q_68, .inl (D.1 13, 6, .inl (fun _ => 0))) :: T) H := hP
  have hD : va_D A ((h0, .inr (12, (fs_85.set 61 (.ref q_86)))) :: (q_86, .inl (D.1 13, 785, .inl (fun _ => 0))) :: (q_84, .inl (D.1 16, 48, .inl (fun _ => 0))) :: (q_82, .inl (D.1 13, 785, .inl (fun _ => 0))) :: (q_80, .inl (D.1 13, 48, .inl (fun _ => 0))) :: (q_78, .inl (D.1 13, 48, .inl (fun _ => 0))) :: (q_76, .inl (D.1 13, 300, .inl (fun _ => 0))) :: (q_74, .inl (D.1 16, 48, .inl (fun _ => 0))) :: (q_72, .inl (D.1 13, 906, .inl (fun _ => 0))) :: (q_70, .inl (D.1 13, 3200, .inl (fun _ => 0))) :: (q_68, .inl (D.1 13, 6, .inl (fun _ => 0))) :: T) := hD
  generalize hfs_87 : fs_85.set 61 (.ref q_86) = fs_87 at hP hD
  have hlen : fs_87.length = 116 := by rw [← hfs_87, List.length_set]; exact hlen
  have hP : va_P D vwCl ((h0, .inr (12, fs_87)) :: (q_86, .inl (D.1 13, 785, .inl (fun _ => 0))) :: (q_84, .inl (D.1 16, 48, .inl (fun _ => 0))) :: (q_82, .inl (D.1 13, 785, .inl (fun _ => 0))) :: (q_80, .inl (D.1 13, 48, .inl (fun _ => 0))) :: (q_78, .inl (D.1 13, 48, .inl (fun _ => 0))) :: (q_76, .inl (D.1 13, 300, .inl (fun _ => 0))) :: (q_74, .inl (D.1 16, 48, .inl (fun _ => 0))) :: (q_72, .inl (D.1 13, 906, .inl (fun _ => 0))) :: (q_70, .inl (D.1 13, 3200, .inl (fun _ => 0))) :: (q_68, .inl (D.1 13, 6, .inl (fun _ => 0))) :: T) H := hP
  have hD : va_D A ((h0, .inr (12, fs_87)) :: (q_86, .inl (D.1 13, 785, .inl (fun _ => 0))) :: (q_84, .inl (D.1 16, 48, .inl (fun _ => 0))) :: (q_82, .inl (D.1 13, 785, .inl (fun _ => 0))) :: (q_80, .inl (D.1 13, 48, .inl (fun _ => 0))) :: (q_78, .inl (D.1 13, 48, .inl (fun _ => 0))) :: (q_76, .inl (D.1 13, 300, .inl (fun _ => 0))) :: (q_74, .inl (D.1 16, 48, .inl (fun _ => 0))) :: (q_72, .inl (D.1 13, 906, .inl (fun _ => 0))) :: (q_70, .inl (D.1 13, 3200, .inl (fun _ => 0))) :: (q_68, .inl (D.1 13, 6, .inl (fun _ => 0))) :: T) := hD
  refine lv_aload_n hx hb dX12_init_959 rfl (lv_at hl 0 rfl) ?_
  refine lv_sipush (v := 300) hx hb dX12_init_960 (by decide) ?_
  refine va_newa (atype := .int) (a0 := (300, .inl (fun _ => 0))) (ty := .int) (N' := 300) hx hb (ht _ ac_int) rfl hK hP hD hS hA (fun _ => rfl) (by decide) (by decide) (by decide) (Nat.le_trans (Nat.le_of_ble_eq_true rfl) hRc) (Nat.le_trans (Nat.le_of_ble_eq_true rfl) hRs) dX12_init_963 (fun q_88 cA H hK2 hP hD hS => ?_)
  obtain rfl := z_cls_int hK hK2
  refine W.widen (k := 44) (n := 8471) (Nat.le_of_ble_eq_true rfl) (Nat.le_of_ble_eq_true rfl) ?_
  obtain ⟨hP, hD⟩ := z_rot hP hD
  have hP : va_P D vwCl ((h0, .inr (12, fs_87)) :: (q_88, .inl (D.1 13, 300, .inl (fun _ => 0))) :: (q_86, .inl (D.1 13, 785, .inl (fun _ => 0))) :: (q_84, .inl (D.1 16, 48, .inl (fun _ => 0))) :: (q_82, .inl (D.1 13, 785, .inl (fun _ => 0))) :: (q_80, .inl (D.1 13, 48, .inl (fun _ => 0))) :: (q_78, .inl (D.1 13, 48, .inl (fun _ => 0))) :: (q_76, .inl (D.1 13, 300, .inl (fun _ => 0))) :: (q_74, .inl (D.1 16, 48, .inl (fun _ => 0))) :: (q_72, .inl (D.1 13, 906, .inl (fun _ => 0))) :: (q_70, .inl (D.1 13, 3200, .inl (fun _ => 0))) :: (q_68, .inl (D.1 13, 6, .inl (fun _ => 0))) :: T) H := hP
  have hD : va_D A ((h0, .inr (12, fs_87)) :: (q_88, .inl (D.1 13, 300, .inl (fun _ => 0))) :: (q_86, .inl (D.1 13, 785, .inl (fun _ => 0))) :: (q_84, .inl (D.1 16, 48, .inl (fun _ => 0))) :: (q_82, .inl (D.1 13, 785, .inl (fun _ => 0))) :: (q_80, .inl (D.1 13, 48, .inl (fun _ => 0))) :: (q_78, .inl (D.1 13, 48, .inl (fun _ => 0))) :: (q_76, .inl (D.1 13, 300, .inl (fun _ => 0))) :: (q_74, .inl (D.1 16, 48, .inl (fun _ => 0))) :: (q_72, .inl (D.1 13, 906, .inl (fun _ => 0))) :: (q_70, .inl (D.1 13, 3200, .inl (fun _ => 0))) :: (q_68, .inl (D.1 13, 6, .inl (fun _ => 0))) :: T) := hD
  refine va_putF (D := D) (ci := 12) (v := .ref q_88) (ty := .array .int) (C := RX12) (T := TX12) (N := 116) hx hb ht inX12 tyX12 tyX12_ok nmX12 hown hK hP hD hS 0 rfl rfl 62 (by decide) (ht (.fieldLink RX12 146 "CloneVolumesModel" "treeRow" "[I") fl_X12_146) (fun _ h9 => h9) rfl hin rfl (by decide +kernel) rfl rfl (by rw [hlen]; decide) dX12_init_965 (fun H locs hP hD hS => ?_)
  have hP : va_P D vwCl ((h0, .inr (12, (fs_87.set 62 (.ref q_88)))) :: (q_88, .inl (D.1 13, 300, .inl (fun _ => 0))) :: (q_86, .inl (D.1 13, 785, .inl (fun _ => 0))) :: (q_84, .inl (D.1 16, 48, .inl (fun _ => 0))) :: (q_82, .inl (D.1 13, 785, .inl (fun _ => 0))) :: (q_80, .inl (D.1 13, 48, .inl (fun _ => 0))) :: (q_78, .inl (D.1 13, 48, .inl (fun _ => 0))) :: (q_76, .inl (D.1 13, 300, .inl (fun _ => 0))) :: (q_74, .inl (D.1 16, 48, .inl (fun _ => 0))) :: (q_72, .inl (D.1 13, 906, .inl (fun _ => 0))) :: (q_70, .inl (D.1 13, 3200, .inl (fun _ => 0))) :: (q_68, .inl (D.1 13, 6, .inl (fun _ => 0))) :: T) H := hP
  have hD : va_D A ((h0, .inr (12, (fs_87.set 62 (.ref q_88)))) :: (q_88, .inl (D.1 13, 300, .inl (fun _ => 0))) :: (q_86, .inl (D.1 13, 785, .inl (fun _ => 0))) :: (q_84, .inl (D.1 16, 48, .inl (fun _ => 0))) :: (q_82, .inl (D.1 13, 785, .inl (fun _ => 0))) :: (q_80, .inl (D.1 13, 48, .inl (fun _ => 0))) :: (q_78, .inl (D.1 13, 48, .inl (fun _ => 0))) :: (q_76, .inl (D.1 13, 300, .inl (fun _ => 0))) :: (q_74, .inl (D.1 16, 48, .inl (fun _ => 0))) :: (q_72, .inl (D.1 13, 906, .inl (fun _ => 0))) :: (q_70, .inl (D.1 13, 3200, .inl (fun _ => 0))) :: (q_68, .inl (D.1 13, 6, .inl (fun _ => 0))) :: T) := hD
  generalize hfs_89 : fs_87.set 62 (.ref q_88) = fs_89 at hP hD
  have hlen : fs_89.length = 116 := by rw [← hfs_89, List.length_set]; exact hlen
  have hP : va_P D vwCl ((h0, .inr (12, fs_89)) :: (q_88, .inl (D.1 13, 300, .inl (fun _ => 0))) :: (q_86, .inl (D.1 13, 785, .inl (fun _ => 0))) :: (q_84, .inl (D.1 16, 48, .inl (fun _ => 0))) :: (q_82, .inl (D.1 13, 785, .inl (fun _ => 0))) :: (q_80, .inl (D.1 13, 48, .inl (fun _ => 0))) :: (q_78, .inl (D.1 13, 48, .inl (fun _ => 0))) :: (q_76, .inl (D.1 13, 300, .inl (fun _ => 0))) :: (q_74, .inl (D.1 16, 48, .inl (fun _ => 0))) :: (q_72, .inl (D.1 13, 906, .inl (fun _ => 0))) :: (q_70, .inl (D.1 13, 3200, .inl (fun _ => 0))) :: (q_68, .inl (D.1 13, 6, .inl (fun _ => 0))) :: T) H := hP
  have hD : va_D A ((h0, .inr (12, fs_89)) :: (q_88, .inl (D.1 13, 300, .inl (fun _ => 0))) :: (q_86, .inl (D.1 13, 785, .inl (fun _ => 0))) :: (q_84, .inl (D.1 16, 48, .inl (fun _ => 0))) :: (q_82, .inl (D.1 13, 785, .inl (fun _ => 0))) :: (q_80, .inl (D.1 13, 48, .inl (fun _ => 0))) :: (q_78, .inl (D.1 13, 48, .inl (fun _ => 0))) :: (q_76, .inl (D.1 13, 300, .inl (fun _ => 0))) :: (q_74, .inl (D.1 16, 48, .inl (fun _ => 0))) :: (q_72, .inl (D.1 13, 906, .inl (fun _ => 0))) :: (q_70, .inl (D.1 13, 3200, .inl (fun _ => 0))) :: (q_68, .inl (D.1 13, 6, .inl (fun _ => 0))) :: T) := hD
  refine lv_aload_n hx hb dX12_init_968 rfl (lv_at hl 0 rfl) ?_
  refine lv_bipush (v := 48) hx hb dX12_init_969 (by decide) ?_
  refine va_newa (atype := .boolean) (a0 := (48, .inl (fun _ => 0))) (ty := .boolean) (N' := 48) hx hb (ht _ ac_boolean) rfl hK hP hD hS hA (fun _ => rfl) (by decide) (by decide) (by decide) (Nat.le_trans (Nat.le_of_ble_eq_true rfl) hRc) (Nat.le_trans (Nat.le_of_ble_eq_true rfl) hRs) dX12_init_971 (fun q_90 cA H hK2 hP hD hS => ?_)
  obtain rfl := z_cls_boolean hK hK2
  refine W.widen (k := 45) (n := 8519) (Nat.le_of_ble_eq_true rfl) (Nat.le_of_ble_eq_true rfl) ?_
  obtain ⟨hP, hD⟩ := z_rot hP hD
  have hP : va_P D vwCl ((h0, .inr (12, fs_89)) :: (q_90, .inl (D.1 16, 48, .inl (fun _ => 0))) :: (q_88, .inl (D.1 13, 300, .inl (fun _ => 0))) :: (q_86, .inl (D.1 13, 785, .inl (fun _ => 0))) :: (q_84, .inl (D.1 16, 48, .inl (fun _ => 0))) :: (q_82, .inl (D.1 13, 785, .inl (fun _ => 0))) :: (q_80, .inl (D.1 13, 48, .inl (fun _ => 0))) :: (q_78, .inl (D.1 13, 48, .inl (fun _ => 0))) :: (q_76, .inl (D.1 13, 300, .inl (fun _ => 0))) :: (q_74, .inl (D.1 16, 48, .inl (fun _ => 0))) :: (q_72, .inl (D.1 13, 906, .inl (fun _ => 0))) :: (q_70, .inl (D.1 13, 3200, .inl (fun _ => 0))) :: (q_68, .inl (D.1 13, 6, .inl (fun _ => 0))) :: T) H := hP
  have hD : va_D A ((h0, .inr (12, fs_89)) :: (q_90, .inl (D.1 16, 48, .inl (fun _ => 0))) :: (q_88, .inl (D.1 13, 300, .inl (fun _ => 0))) :: (q_86, .inl (D.1 13, 785, .inl (fun _ => 0))) :: (q_84, .inl (D.1 16, 48, .inl (fun _ => 0))) :: (q_82, .inl (D.1 13, 785, .inl (fun _ => 0))) :: (q_80, .inl (D.1 13, 48, .inl (fun _ => 0))) :: (q_78, .inl (D.1 13, 48, .inl (fun _ => 0))) :: (q_76, .inl (D.1 13, 300, .inl (fun _ => 0))) :: (q_74, .inl (D.1 16, 48, .inl (fun _ => 0))) :: (q_72, .inl (D.1 13, 906, .inl (fun _ => 0))) :: (q_70, .inl (D.1 13, 3200, .inl (fun _ => 0))) :: (q_68, .inl (D.1 13, 6, .inl (fun _ => 0))) :: T) := hD
  refine va_putF (D := D) (ci := 12) (v := .ref q_90) (ty := .array .boolean) (C := RX12) (T := TX12) (N := 116) hx hb ht inX12 tyX12 tyX12_ok nmX12 hown hK hP hD hS 0 rfl rfl 63 (by decide) (ht (.fieldLink RX12 149 "CloneVolumesModel" "isInTree" "[Z") fl_X12_149) (fun _ h9 => h9) rfl hin rfl (by decide +kernel) rfl rfl (by rw [hlen]; decide) dX12_init_973 (fun H locs hP hD hS => ?_)
  have hP : va_P D vwCl ((h0, .inr (12, (fs_89.set 63 (.ref q_90)))) :: (q_90, .inl (D.1 16, 48, .inl (fun _ => 0))) :: (q_88, .inl (D.1 13, 300, .inl (fun _ => 0))) :: (q_86, .inl (D.1 13, 785, .inl (fun _ => 0))) :: (q_84, .inl (D.1 16, 48, .inl (fun _ => 0))) :: (q_82, .inl (D.1 13, 785, .inl (fun _ => 0))) :: (q_80, .inl (D.1 13, 48, .inl (fun _ => 0))) :: (q_78, .inl (D.1 13, 48, .inl (fun _ => 0))) :: (q_76, .inl (D.1 13, 300, .inl (fun _ => 0))) :: (q_74, .inl (D.1 16, 48, .inl (fun _ => 0))) :: (q_72, .inl (D.1 13, 906, .inl (fun _ => 0))) :: (q_70, .inl (D.1 13, 3200, .inl (fun _ => 0))) :: (q_68, .inl (D.1 13, 6, .inl (fun _ => 0))) :: T) H := hP
  have hD : va_D A ((h0, .inr (12, (fs_89.set 63 (.ref q_90)))) :: (q_90, .inl (D.1 16, 48, .inl (fun _ => 0))) :: (q_88, .inl (D.1 13, 300, .inl (fun _ => 0))) :: (q_86, .inl (D.1 13, 785, .inl (fun _ => 0))) :: (q_84, .inl (D.1 16, 48, .inl (fun _ => 0))) :: (q_82, .inl (D.1 13, 785, .inl (fun _ => 0))) :: (q_80, .inl (D.1 13, 48, .inl (fun _ => 0))) :: (q_78, .inl (D.1 13, 48, .inl (fun _ => 0))) :: (q_76, .inl (D.1 13, 300, .inl (fun _ => 0))) :: (q_74, .inl (D.1 16, 48, .inl (fun _ => 0))) :: (q_72, .inl (D.1 13, 906, .inl (fun _ => 0))) :: (q_70, .inl (D.1 13, 3200, .inl (fun _ => 0))) :: (q_68, .inl (D.1 13, 6, .inl (fun _ => 0))) :: T) := hD
  generalize hfs_91 : fs_89.set 63 (.ref q_90) = fs_91 at hP hD
  have hlen : fs_91.length = 116 := by rw [← hfs_91, List.length_set]; exact hlen
  have hP : va_P D vwCl ((h0, .inr (12, fs_91)) :: (q_90, .inl (D.1 16, 48, .inl (fun _ => 0))) :: (q_88, .inl (D.1 13, 300, .inl (fun _ => 0))) :: (q_86, .inl (D.1 13, 785, .inl (fun _ => 0))) :: (q_84, .inl (D.1 16, 48, .inl (fun _ => 0))) :: (q_82, .inl (D.1 13, 785, .inl (fun _ => 0))) :: (q_80, .inl (D.1 13, 48, .inl (fun _ => 0))) :: (q_78, .inl (D.1 13, 48, .inl (fun _ => 0))) :: (q_76, .inl (D.1 13, 300, .inl (fun _ => 0))) :: (q_74, .inl (D.1 16, 48, .inl (fun _ => 0))) :: (q_72, .inl (D.1 13, 906, .inl (fun _ => 0))) :: (q_70, .inl (D.1 13, 3200, .inl (fun _ => 0))) :: (q_68, .inl (D.1 13, 6, .inl (fun _ => 0))) :: T) H := hP
  have hD : va_D A ((h0, .inr (12, fs_91)) :: (q_90, .inl (D.1 16, 48, .inl (fun _ => 0))) :: (q_88, .inl (D.1 13, 300, .inl (fun _ => 0))) :: (q_86, .inl (D.1 13, 785, .inl (fun _ => 0))) :: (q_84, .inl (D.1 16, 48, .inl (fun _ => 0))) :: (q_82, .inl (D.1 13, 785, .inl (fun _ => 0))) :: (q_80, .inl (D.1 13, 48, .inl (fun _ => 0))) :: (q_78, .inl (D.1 13, 48, .inl (fun _ => 0))) :: (q_76, .inl (D.1 13, 300, .inl (fun _ => 0))) :: (q_74, .inl (D.1 16, 48, .inl (fun _ => 0))) :: (q_72, .inl (D.1 13, 906, .inl (fun _ => 0))) :: (q_70, .inl (D.1 13, 3200, .inl (fun _ => 0))) :: (q_68, .inl (D.1 13, 6, .inl (fun _ => 0))) :: T) := hD
  exact kk q_90 q_88 q_86 q_84 q_82 q_80 q_78 q_76 q_74 q_72 q_70 q_68 fs_91 _ _ (by rw [← hfs_91, ← hfs_89, ← hfs_87, ← hfs_85, ← hfs_83, ← hfs_81, ← hfs_79, ← hfs_77, ← hfs_75, ← hfs_73, ← hfs_71, ← hfs_69]) hP hD hS
set_option maxHeartbeats 4000000 in
set_option maxRecDepth 100000 in
theorem cM_13 {p : Program} {l : Launch} {e : Env} {R : Room} {s : State} {m : MethodId} {args : Array Value} {below : List Frame} {meth : Method} {c : Code} {Q : State → Prop} {D : va_G} {A : Nat → Prop} {ls : Array Slot} {h0 : Nat} {T : va_W} (hx : p.tables.exec = Jvm.exec) (hb : c.code = cX12_init) (ht : ∀ w ∈ lw_gd, w.before args s = true) (hown : s.vm.findClass RX12 = some m.cls) (hin : meth.name = "<init>") (hK : va_K D vwCl (TY D) s) (hA : ∀ q : Nat, s.heap.size ≤ q → A q) (hRc : 80 ≤ R.cells) (hRs : 35050 ≤ R.slots) (hl : lv_has ls 1 [(0, .ref h0)]) {fs : List Value} (hlen : fs.length = 116) {H : Heap} {locs : List Loc} (hP : va_P D vwCl ((h0, .inr (12, fs)) :: T) H) (hD : va_D A ((h0, .inr (12, fs)) :: T)) (hS : va_S A s.heap H locs)
    (kk : ∀ (q_107 : Nat) (q_104 : Nat) (q_102 : Nat) (q_100 : Nat) (q_98 : Nat) (q_96 : Nat) (q_94 : Nat) (q_92 : Nat) (fs' : List Value) (H : Heap) (locs : List Loc), fs' = (((((((((fs.set 64 (.ref q_92)).set 65 (.ref q_94)).set 66 (.ref q_96)).set 69 (.ref q_98)).set 72 (.ref q_100)).set 74 (.ref q_102)).set 75 (.ref q_104)).set 78 (.long 1)).set 79 (.ref q_107)) → va_P D vwCl ((h0, .inr (12, fs')) :: (q_107, .inl (D.1 14, 5, .inl (upd (upd (upd (upd (upd (fun _ => 0) 0 102) 1 105) 2 114) 3 115) 4 116))) :: (q_104, .inl (D.1 13, 18120, .inl (fun _ => 0))) :: (q_102, .inl (D.1 13, 24, .inl (fun _ => 0))) :: (q_100, .inl (D.1 13, 48, .inl (fun _ => 0))) :: (q_98, .inl (D.1 16, 48, .inl (fun _ => 0))) :: (q_96, .inl (D.1 13, 300, .inl (fun _ => 0))) :: (q_94, .inl (D.1 13, 300, .inl (fun _ => 0))) :: (q_92, .inl (D.1 13, 300, .inl (fun _ => 0))) :: T) H → va_D A ((h0, .inr (12, fs')) :: (q_107, .inl (D.1 14, 5, .inl (upd (upd (upd (upd (upd (fun _ => 0) 0 102) 1 105) 2 114) 3 115) 4 116))) :: (q_104, .inl (D.1 13, 18120, .inl (fun _ => 0))) :: (q_102, .inl (D.1 13, 24, .inl (fun _ => 0))) :: (q_100, .inl (D.1 13, 48, .inl (fun _ => 0))) :: (q_98, .inl (D.1 16, 48, .inl (fun _ => 0))) :: (q_96, .inl (D.1 13, 300, .inl (fun _ => 0))) :: (q_94, .inl (D.1 13, 300, .inl (fun _ => 0))) :: (q_92, .inl (D.1 13, 300, .inl (fun _ => 0))) :: T) → va_S A s.heap H locs → W p l e R s m args below meth c H locs 53 27664 Q (F0 m 1073 ls [])) : W p l e R s m args below meth c H locs 45 8519 Q (F0 m 976 ls []) := by
  refine lv_aload_n hx hb dX12_init_976 rfl (lv_at hl 0 rfl) ?_
  refine lv_sipush (v := 300) hx hb dX12_init_977 (by decide) ?_
  refine va_newa (atype := .int) (a0 := (300, .inl (fun _ => 0))) (ty := .int) (N' := 300) hx hb (ht _ ac_int) rfl hK hP hD hS hA (fun _ => rfl) (by decide) (by decide) (by decide) (Nat.le_trans (Nat.le_of_ble_eq_true rfl) hRc) (Nat.le_trans (Nat.le_of_ble_eq_true rfl) hRs) dX12_init_980 (fun q_92 cA H hK2 hP hD hS => ?_)
  obtain rfl := z_cls_int hK hK2
  refine W.widen (k := 46) (n := 8819) (Nat.le_of_ble_eq_true rfl) (Nat.le_of_ble_eq_true rfl) ?_
  obtain ⟨hP, hD⟩ := z_rot hP hD
  have hP : va_P D vwCl ((h0, .inr (12, fs)) :: (q_92, .inl (D.1 13, 300, .inl (fun _ => 0))) :: T) H := hP
  have hD : va_D A ((h0, .inr (12, fs)) :: (q_92, .inl (D.1 13, 300, .inl (fun _ => 0))) :: T) := hD
  refine va_putF (D := D) (ci := 12) (v := .ref q_92) (ty := .array .int) (C := RX12) (T := TX12) (N := 116) hx hb ht inX12 tyX12 tyX12_ok nmX12 hown hK hP hD hS 0 rfl rfl 64 (by decide) (ht (.fieldLink RX12 152 "CloneVolumesModel" "keyRow" "[I") fl_X12_152) (fun _ h9 => h9) rfl hin rfl (by decide +kernel) rfl rfl (by rw [hlen]; decide) dX12_init_982 (fun H locs hP hD hS => ?_)
  have hP : va_P D vwCl ((h0, .inr (12, (fs.set 64 (.ref q_92)))) :: (q_92, .inl (D.1 13, 300, .inl (fun _ => 0))) :: T) H := hP
  have hD : va_D A ((h0, .inr (12, (fs.set 64 (.ref q_92)))) :: (q_92, .inl (D.1 13, 300, .inl (fun _ => 0))) :: T) := hD
  generalize hfs_93 : fs.set 64 (.ref q_92) = fs_93 at hP hD
  have hlen : fs_93.length = 116 := by rw [← hfs_93, List.length_set]; exact hlen
  have hP : va_P D vwCl ((h0, .inr (12, fs_93)) :: (q_92, .inl (D.1 13, 300, .inl (fun _ => 0))) :: T) H := hP
  have hD : va_D A ((h0, .inr (12, fs_93)) :: (q_92, .inl (D.1 13, 300, .inl (fun _ => 0))) :: T) := hD
  refine lv_aload_n hx hb dX12_init_985 rfl (lv_at hl 0 rfl) ?_
  refine lv_sipush (v := 300) hx hb dX12_init_986 (by decide) ?_
  refine va_newa (atype := .int) (a0 := (300, .inl (fun _ => 0))) (ty := .int) (N' := 300) hx hb (ht _ ac_int) rfl hK hP hD hS hA (fun _ => rfl) (by decide) (by decide) (by decide) (Nat.le_trans (Nat.le_of_ble_eq_true rfl) hRc) (Nat.le_trans (Nat.le_of_ble_eq_true rfl) hRs) dX12_init_989 (fun q_94 cA H hK2 hP hD hS => ?_)
  obtain rfl := z_cls_int hK hK2
  refine W.widen (k := 47) (n := 9119) (Nat.le_of_ble_eq_true rfl) (Nat.le_of_ble_eq_true rfl) ?_
  obtain ⟨hP, hD⟩ := z_rot hP hD
  have hP : va_P D vwCl ((h0, .inr (12, fs_93)) :: (q_94, .inl (D.1 13, 300, .inl (fun _ => 0))) :: (q_92, .inl (D.1 13, 300, .inl (fun _ => 0))) :: T) H := hP
  have hD : va_D A ((h0, .inr (12, fs_93)) :: (q_94, .inl (D.1 13, 300, .inl (fun _ => 0))) :: (q_92, .inl (D.1 13, 300, .inl (fun _ => 0))) :: T) := hD
  refine va_putF (D := D) (ci := 12) (v := .ref q_94) (ty := .array .int) (C := RX12) (T := TX12) (N := 116) hx hb ht inX12 tyX12 tyX12_ok nmX12 hown hK hP hD hS 0 rfl rfl 65 (by decide) (ht (.fieldLink RX12 155 "CloneVolumesModel" "valueRow" "[I") fl_X12_155) (fun _ h9 => h9) rfl hin rfl (by decide +kernel) rfl rfl (by rw [hlen]; decide) dX12_init_991 (fun H locs hP hD hS => ?_)
  have hP : va_P D vwCl ((h0, .inr (12, (fs_93.set 65 (.ref q_94)))) :: (q_94, .inl (D.1 13, 300, .inl (fun _ => 0))) :: (q_92, .inl (D.1 13, 300, .inl (fun _ => 0))) :: T) H := hP
  have hD : va_D A ((h0, .inr (12, (fs_93.set 65 (.ref q_94)))) :: (q_94, .inl (D.1 13, 300, .inl (fun _ => 0))) :: (q_92, .inl (D.1 13, 300, .inl (fun _ => 0))) :: T) := hD
  generalize hfs_95 : fs_93.set 65 (.ref q_94) = fs_95 at hP hD
  have hlen : fs_95.length = 116 := by rw [← hfs_95, List.length_set]; exact hlen
  have hP : va_P D vwCl ((h0, .inr (12, fs_95)) :: (q_94, .inl (D.1 13, 300, .inl (fun _ => 0))) :: (q_92, .inl (D.1 13, 300, .inl (fun _ => 0))) :: T) H := hP
  have hD : va_D A ((h0, .inr (12, fs_95)) :: (q_94, .inl (D.1 13, 300, .inl (fun _ => 0))) :: (q_92, .inl (D.1 13, 300, .inl (fun _ => 0))) :: T) := hD
  refine lv_aload_n hx hb dX12_init_994 rfl (lv_at hl 0 rfl) ?_
  refine lv_sipush (v := 300) hx hb dX12_init_995 (by decide) ?_
  refine va_newa (atype := .int) (a0 := (300, .inl (fun _ => 0))) (ty := .int) (N' := 300) hx hb (ht _ ac_int) rfl hK hP hD hS hA (fun _ => rfl) (by decide) (by decide) (by decide) (Nat.le_trans (Nat.le_of_ble_eq_true rfl) hRc) (Nat.le_trans (Nat.le_of_ble_eq_true rfl) hRs) dX12_init_998 (fun q_96 cA H hK2 hP hD hS => ?_)
  obtain rfl := z_cls_int hK hK2
  refine W.widen (k := 48) (n := 9419) (Nat.le_of_ble_eq_true rfl) (Nat.le_of_ble_eq_true rfl) ?_
  obtain ⟨hP, hD⟩ := z_rot hP hD
  have hP : va_P D vwCl ((h0, .inr (12, fs_95)) :: (q_96, .inl (D.1 13, 300, .inl (fun _ => 0))) :: (q_94, .inl (D.1 13, 300, .inl (fun _ => 0))) :: (q_92, .inl (D.1 13, 300, .inl (fun _ => 0))) :: T) H := hP
  have hD : va_D A ((h0, .inr (12, fs_95)) :: (q_96, .inl (D.1 13, 300, .inl (fun _ => 0))) :: (q_94, .inl (D.1 13, 300, .inl (fun _ => 0))) :: (q_92, .inl (D.1 13, 300, .inl (fun _ => 0))) :: T) := hD
  refine va_putF (D := D) (ci := 12) (v := .ref q_96) (ty := .array .int) (C := RX12) (T := TX12) (N := 116) hx hb ht inX12 tyX12 tyX12_ok nmX12 hown hK hP hD hS 0 rfl rfl 66 (by decide) (ht (.fieldLink RX12 158 "CloneVolumesModel" "leafRow" "[I") fl_X12_158) (fun _ h9 => h9) rfl hin rfl (by decide +kernel) rfl rfl (by rw [hlen]; decide) dX12_init_1000 (fun H locs hP hD hS => ?_)
  have hP : va_P D vwCl ((h0, .inr (12, (fs_95.set 66 (.ref q_96)))) :: (q_96, .inl (D.1 13, 300, .inl (fun _ => 0))) :: (q_94, .inl (D.1 13, 300, .inl (fun _ => 0))) :: (q_92, .inl (D.1 13, 300, .inl (fun _ => 0))) :: T) H := hP
  have hD : va_D A ((h0, .inr (12, (fs_95.set 66 (.ref q_96)))) :: (q_96, .inl (D.1 13, 300, .inl (fun _ => 0))) :: (q_94, .inl (D.1 13, 300, .inl (fun _ => 0))) :: (q_92, .inl (D.1 13, 300, .inl (fun _ => 0))) :: T) := hD
  generalize hfs_97 : fs_95.set 66 (.ref q_96) = fs_97 at hP hD
  have hlen : fs_97.length = 116 := by rw [← hfs_97, List.length_set]; exact hlen
  have hP : va_P D vwCl ((h0, .inr (12, fs_97)) :: (q_96, .inl (D.1 13, 300, .inl (fun _ => 0))) :: (q_94, .inl (D.1 13, 300, .inl (fun _ => 0))) :: (q_92, .inl (D.1 13, 300, .inl (fun _ => 0))) :: T) H := hP
  have hD : va_D A ((h0, .inr (12, fs_97)) :: (q_96, .inl (D.1 13, 300, .inl (fun _ => 0))) :: (q_94, .inl (D.1 13, 300, .inl (fun _ => 0))) :: (q_92, .inl (D.1 13, 300, .inl (fun _ => 0))) :: T) := hD
  refine lv_aload_n hx hb dX12_init_1003 rfl (lv_at hl 0 rfl) ?_
  refine lv_bipush (v := 48) hx hb dX12_init_1004 (by decide) ?_
  refine va_newa (atype := .boolean) (a0 := (48, .inl (fun _ => 0))) (ty := .boolean) (N' := 48) hx hb (ht _ ac_boolean) rfl hK hP hD hS hA (fun _ => rfl) (by decide) (by decide) (by decide) (Nat.le_trans (Nat.le_of_ble_eq_true rfl) hRc) (Nat.le_trans (Nat.le_of_ble_eq_true rfl) hRs) dX12_init_1006 (fun q_98 cA H hK2 hP hD hS => ?_)
  obtain rfl := z_cls_boolean hK hK2
  refine W.widen (k := 49) (n := 9467) (Nat.le_of_ble_eq_true rfl) (Nat.le_of_ble_eq_true rfl) ?_
  obtain ⟨hP, hD⟩ := z_rot hP hD
  have hP : va_P D vwCl ((h0, .inr (12, fs_97)) :: (q_98, .inl (D.1 16, 48, .inl (fun _ => 0))) :: (q_96, .inl (D.1 13, 300, .inl (fun _ => 0))) :: (q_94, .inl (D.1 13, 300, .inl (fun _ => 0))) :: (q_92, .inl (D.1 13, 300, .inl (fun _ => 0))) :: T) H := hP
  have hD : va_D A ((h0, .inr (12, fs_97)) :: (q_98, .inl (D.1 16, 48, .inl (fun _ => 0))) :: (q_96, .inl (D.1 13, 300, .inl (fun _ => 0))) :: (q_94, .inl (D.1 13, 300, .inl (fun _ => 0))) :: (q_92, .inl (D.1 13, 300, .inl (fun _ => 0))) :: T) := hD
  refine va_putF (D := D) (ci := 12) (v := .ref q_98) (ty := .array .boolean) (C := RX12) (T := TX12) (N := 116) hx hb ht inX12 tyX12 tyX12_ok nmX12 hown hK hP hD hS 0 rfl rfl 69 (by decide) (ht (.fieldLink RX12 161 "CloneVolumesModel" "wasInTree" "[Z") fl_X12_161) (fun _ h9 => h9) rfl hin rfl (by decide +kernel) rfl rfl (by rw [hlen]; decide) dX12_init_1008 (fun H locs hP hD hS => ?_)
  have hP : va_P D vwCl ((h0, .inr (12, (fs_97.set 69 (.ref q_98)))) :: (q_98, .inl (D.1 16, 48, .inl (fun _ => 0))) :: (q_96, .inl (D.1 13, 300, .inl (fun _ => 0))) :: (q_94, .inl (D.1 13, 300, .inl (fun _ => 0))) :: (q_92, .inl (D.1 13, 300, .inl (fun _ => 0))) :: T) H := hP
  have hD : va_D A ((h0, .inr (12, (fs_97.set 69 (.ref q_98)))) :: (q_98, .inl (D.1 16, 48, .inl (fun _ => 0))) :: (q_96, .inl (D.1 13, 300, .inl (fun _ => 0))) :: (q_94, .inl (D.1 13, 300, .inl (fun _ => 0))) :: (q_92, .inl (D.1 13, 300, .inl (fun _ => 0))) :: T) := hD
  generalize hfs_99 : fs_97.set 69 (.ref q_98) = fs_99 at hP hD
  have hlen : fs_99.length = 116 := by rw [← hfs_99, List.length_set]; exact hlen
  have hP : va_P D vwCl ((h0, .inr (12, fs_99)) :: (q_98, .inl (D.1 16, 48, .inl (fun _ => 0))) :: (q_96, .inl (D.1 13, 300, .inl (fun _ => 0))) :: (q_94, .inl (D.1 13, 300, .inl (fun _ => 0))) :: (q_92, .inl (D.1 13, 300, .inl (fun _ => 0))) :: T) H := hP
  have hD : va_D A ((h0, .inr (12, fs_99)) :: (q_98, .inl (D.1 16, 48, .inl (fun _ => 0))) :: (q_96, .inl (D.1 13, 300, .inl (fun _ => 0))) :: (q_94, .inl (D.1 13, 300, .inl (fun _ => 0))) :: (q_92, .inl (D.1 13, 300, .inl (fun _ => 0))) :: T) := hD
  refine lv_aload_n hx hb dX12_init_1011 rfl (lv_at hl 0 rfl) ?_
  refine lv_bipush (v := 48) hx hb dX12_init_1012 (by decide) ?_
  refine va_newa (atype := .int) (a0 := (48, .inl (fun _ => 0))) (ty := .int) (N' := 48) hx hb (ht _ ac_int) rfl hK hP hD hS hA (fun _ => rfl) (by decide) (by decide) (by decide) (Nat.le_trans (Nat.le_of_ble_eq_true rfl) hRc) (Nat.le_trans (Nat.le_of_ble_eq_true rfl) hRs) dX12_init_1014 (fun q_100 cA H hK2 hP hD hS => ?_)
  obtain rfl := z_cls_int hK hK2
  refine W.widen (k := 50) (n := 9515) (Nat.le_of_ble_eq_true rfl) (Nat.le_of_ble_eq_true rfl) ?_
  obtain ⟨hP, hD⟩ := z_rot hP hD
  have hP : va_P D vwCl ((h0, .inr (12, fs_99)) :: (q_100, .inl (D.1 13, 48, .inl (fun _ => 0))) :: (q_98, .inl (D.1 16, 48, .inl (fun _ => 0))) :: (q_96, .inl (D.1 13, 300, .inl (fun _ => 0))) :: (q_94, .inl (D.1 13, 300, .inl (fun _ => 0))) :: (q_92, .inl (D.1 13, 300, .inl (fun _ => 0))) :: T) H := hP
  have hD : va_D A ((h0, .inr (12, fs_99)) :: (q_100, .inl (D.1 13, 48, .inl (fun _ => 0))) :: (q_98, .inl (D.1 16, 48, .inl (fun _ => 0))) :: (q_96, .inl (D.1 13, 300, .inl (fun _ => 0))) :: (q_94, .inl (D.1 13, 300, .inl (fun _ => 0))) :: (q_92, .inl (D.1 13, 300, .inl (fun _ => 0))) :: T) := hD
  refine va_putF (D := D) (ci := 12) (v := .ref q_100) (ty := .array .int) (C := RX12) (T := TX12) (N := 116) hx hb ht inX12 tyX12 tyX12_ok nmX12 hown hK hP hD hS 0 rfl rfl 72 (by decide) (ht (.fieldLink RX12 164 "CloneVolumesModel" "lostBy" "[I") fl_X12_164) (fun _ h9 => h9) rfl hin rfl (by decide +kernel) rfl rfl (by rw [hlen]; decide) dX12_init_1016 (fun H locs hP hD hS => ?_)
  have hP : va_P D vwCl ((h0, .inr (12, (fs_99.set 72 (.ref q_100)))) :: (q_100, .inl (D.1 13, 48, .inl (fun _ => 0))) :: (q_98, .inl (D.1 16, 48, .inl (fun _ => 0))) :: (q_96, .inl (D.1 13, 300, .inl (fun _ => 0))) :: (q_94, .inl (D.1 13, 300, .inl (fun _ => 0))) :: (q_92, .inl (D.1 13, 300, .inl (fun _ => 0))) :: T) H := hP
  have hD : va_D A ((h0, .inr (12, (fs_99.set 72 (.ref q_100)))) :: (q_100, .inl (D.1 13, 48, .inl (fun _ => 0))) :: (q_98, .inl (D.1 16, 48, .inl (fun _ => 0))) :: (q_96, .inl (D.1 13, 300, .inl (fun _ => 0))) :: (q_94, .inl (D.1 13, 300, .inl (fun _ => 0))) :: (q_92, .inl (D.1 13, 300, .inl (fun _ => 0))) :: T) := hD
  generalize hfs_101 : fs_99.set 72 (.ref q_100) = fs_101 at hP hD
  have hlen : fs_101.length = 116 := by rw [← hfs_101, List.length_set]; exact hlen
  have hP : va_P D vwCl ((h0, .inr (12, fs_101)) :: (q_100, .inl (D.1 13, 48, .inl (fun _ => 0))) :: (q_98, .inl (D.1 16, 48, .inl (fun _ => 0))) :: (q_96, .inl (D.1 13, 300, .inl (fun _ => 0))) :: (q_94, .inl (D.1 13, 300, .inl (fun _ => 0))) :: (q_92, .inl (D.1 13, 300, .inl (fun _ => 0))) :: T) H := hP
  have hD : va_D A ((h0, .inr (12, fs_101)) :: (q_100, .inl (D.1 13, 48, .inl (fun _ => 0))) :: (q_98, .inl (D.1 16, 48, .inl (fun _ => 0))) :: (q_96, .inl (D.1 13, 300, .inl (fun _ => 0))) :: (q_94, .inl (D.1 13, 300, .inl (fun _ => 0))) :: (q_92, .inl (D.1 13, 300, .inl (fun _ => 0))) :: T) := hD
  refine lv_aload_n hx hb dX12_init_1019 rfl (lv_at hl 0 rfl) ?_
  refine lv_bipush (v := 24) hx hb dX12_init_1020 (by decide) ?_
  refine va_newa (atype := .int) (a0 := (24, .inl (fun _ => 0))) (ty := .int) (N' := 24) hx hb (ht _ ac_int) rfl hK hP hD hS hA (fun _ => rfl) (by decide) (by decide) (by decide) (Nat.le_trans (Nat.le_of_ble_eq_true rfl) hRc) (Nat.le_trans (Nat.le_of_ble_eq_true rfl) hRs) dX12_init_1022 (fun q_102 cA H hK2 hP hD hS => ?_)
  obtain rfl := z_cls_int hK hK2
  refine W.widen (k := 51) (n := 9539) (Nat.le_of_ble_eq_true rfl) (Nat.le_of_ble_eq_true rfl) ?_
  obtain ⟨hP, hD⟩ := z_rot hP hD
  have hP : va_P D vwCl ((h0, .inr (12, fs_101)) :: (q_102, .inl (D.1 13, 24, .inl (fun _ => 0))) :: (q_100, .inl (D.1 13, 48, .inl (fun _ => 0))) :: (q_98, .inl (D.1 16, 48, .inl (fun _ => 0))) :: (q_96, .inl (D.1 13, 300, .inl (fun _ => 0))) :: (q_94, .inl (D.1 13, 300, .inl (fun _ => 0))) :: (q_92, .inl (D.1 13, 300, .inl (fun _ => 0))) :: T) H := hP
  have hD : va_D A ((h0, .inr (12, fs_101)) :: (q_102, .inl (D.1 13, 24, .inl (fun _ => 0))) :: (q_100, .inl (D.1 13, 48, .inl (fun _ => 0))) :: (q_98, .inl (D.1 16, 48, .inl (fun _ => 0))) :: (q_96, .inl (D.1 13, 300, .inl (fun _ => 0))) :: (q_94, .inl (D.1 13, 300, .inl (fun _ => 0))) :: (q_92, .inl (D.1 13, 300, .inl (fun _ => 0))) :: T) := hD
  refine va_putF (D := D) (ci := 12) (v := .ref q_102) (ty := .array .int) (C := RX12) (T := TX12) (N := 116) hx hb ht inX12 tyX12 tyX12_ok nmX12 hown hK hP hD hS 0 rfl rfl 74 (by decide) (ht (.fieldLink RX12 167 "CloneVolumesModel" "rows" "[I") fl_X12_167) (fun _ h9 => h9) rfl hin rfl (by decide +kernel) rfl rfl (by rw [hlen]; decide) dX12_init_1024 (fun H locs hP hD hS => ?_)
  have hP : va_P D vwCl ((h0, .inr (12, (fs_101.set 74 (.ref q_102)))) :: (q_102, .inl (D.1 13, 24, .inl (fun _ => 0))) :: (q_100, .inl (D.1 13, 48, .inl (fun _ => 0))) :: (q_98, .inl (D.1 16, 48, .inl (fun _ => 0))) :: (q_96, .inl (D.1 13, 300, .inl (fun _ => 0))) :: (q_94, .inl (D.1 13, 300, .inl (fun _ => 0))) :: (q_92, .inl (D.1 13, 300, .inl (fun _ => 0))) :: T) H := hP
  have hD : va_D A ((h0, .inr (12, (fs_101.set 74 (.ref q_102)))) :: (q_102, .inl (D.1 13, 24, .inl (fun _ => 0))) :: (q_100, .inl (D.1 13, 48, .inl (fun _ => 0))) :: (q_98, .inl (D.1 16, 48, .inl (fun _ => 0))) :: (q_96, .inl (D.1 13, 300, .inl (fun _ => 0))) :: (q_94, .inl (D.1 13, 300, .inl (fun _ => 0))) :: (q_92, .inl (D.1 13, 300, .inl (fun _ => 0))) :: T) := hD
  generalize hfs_103 : fs_101.set 74 (.ref q_102) = fs_103 at hP hD
  have hlen : fs_103.length = 116 := by rw [← hfs_103, List.length_set]; exact hlen
  have hP : va_P D vwCl ((h0, .inr (12, fs_103)) :: (q_102, .inl (D.1 13, 24, .inl (fun _ => 0))) :: (q_100, .inl (D.1 13, 48, .inl (fun _ => 0))) :: (q_98, .inl (D.1 16, 48, .inl (fun _ => 0))) :: (q_96, .inl (D.1 13, 300, .inl (fun _ => 0))) :: (q_94, .inl (D.1 13, 300, .inl (fun _ => 0))) :: (q_92, .inl (D.1 13, 300, .inl (fun _ => 0))) :: T) H := hP
  have hD : va_D A ((h0, .inr (12, fs_103)) :: (q_102, .inl (D.1 13, 24, .inl (fun _ => 0))) :: (q_100, .inl (D.1 13, 48, .inl (fun _ => 0))) :: (q_98, .inl (D.1 16, 48, .inl (fun _ => 0))) :: (q_96, .inl (D.1 13, 300, .inl (fun _ => 0))) :: (q_94, .inl (D.1 13, 300, .inl (fun _ => 0))) :: (q_92, .inl (D.1 13, 300, .inl (fun _ => 0))) :: T) := hD
  refine lv_aload_n hx hb dX12_init_1027 rfl (lv_at hl 0 rfl) ?_
  refine lv_sipush (v := 18120) hx hb dX12_init_1028 (by decide) ?_
  refine va_newa (atype := .int) (a0 := (18120, .inl (fun _ => 0))) (ty := .int) (N' := 18120) hx hb (ht _ ac_int) rfl hK hP hD hS hA (fun _ => rfl) (by decide) (by decide) (by decide) (Nat.le_trans (Nat.le_of_ble_eq_true rfl) hRc) (Nat.le_trans (Nat.le_of_ble_eq_true rfl) hRs) dX12_init_1031 (fun q_104 cA H hK2 hP hD hS => ?_)
  obtain rfl := z_cls_int hK hK2
  refine W.widen (k := 52) (n := 27659) (Nat.le_of_ble_eq_true rfl) (Nat.le_of_ble_eq_true rfl) ?_
  obtain ⟨hP, hD⟩ := z_rot hP hD
  have hP : va_P D vwCl ((h0, .inr (12, fs_103)) :: (q_104, .inl (D.1 13, 18120, .inl (fun _ => 0))) :: (q_102, .inl (D.1 13, 24, .inl (fun _ => 0))) :: (q_100, .inl (D.1 13, 48, .inl (fun _ => 0))) :: (q_98, .inl (D.1 16, 48, .inl (fun _ => 0))) :: (q_96, .inl (D.1 13, 300, .inl (fun _ => 0))) :: (q_94, .inl (D.1 13, 300, .inl (fun _ => 0))) :: (q_92, .inl (D.1 13, 300, .inl (fun _ => 0))) :: T) H := hP
  have hD : va_D A ((h0, .inr (12, fs_103)) :: (q_104, .inl (D.1 13, 18120, .inl (fun _ => 0))) :: (q_102, .inl (D.1 13, 24, .inl (fun _ => 0))) :: (q_100, .inl (D.1 13, 48, .inl (fun _ => 0))) :: (q_98, .inl (D.1 16, 48, .inl (fun _ => 0))) :: (q_96, .inl (D.1 13, 300, .inl (fun _ => 0))) :: (q_94, .inl (D.1 13, 300, .inl (fun _ => 0))) :: (q_92, .inl (D.1 13, 300, .inl (fun _ => 0))) :: T) := hD
  refine va_putF (D := D) (ci := 12) (v := .ref q_104) (ty := .array .int) (C := RX12) (T := TX12) (N := 116) hx hb ht inX12 tyX12 tyX12_ok nmX12 hown hK hP hD hS 0 rfl rfl 75 (by decide) (ht (.fieldLink RX12 170 "CloneVolumesModel" "kept0" "[I") fl_X12_170) (fun _ h9 => h9) rfl hin rfl (by decide +kernel) rfl rfl (by rw [hlen]; decide) dX12_init_1033 (fun H locs hP hD hS => ?_)
  have hP : va_P D vwCl ((h0, .inr (12, (fs_103.set 75 (.ref q_104)))) :: (q_104, .inl (D.1 13, 18120, .inl (fun _ => 0))) :: (q_102, .inl (D.1 13, 24, .inl (fun _ => 0))) :: (q_100, .inl (D.1 13, 48, .inl (fun _ => 0))) :: (q_98, .inl (D.1 16, 48, .inl (fun _ => 0))) :: (q_96, .inl (D.1 13, 300, .inl (fun _ => 0))) :: (q_94, .inl (D.1 13, 300, .inl (fun _ => 0))) :: (q_92, .inl (D.1 13, 300, .inl (fun _ => 0))) :: T) H := hP
  have hD : va_D A ((h0, .inr (12, (fs_103.set 75 (.ref q_104)))) :: (q_104, .inl (D.1 13, 18120, .inl (fun _ => 0))) :: (q_102, .inl (D.1 13, 24, .inl (fun _ => 0))) :: (q_100, .inl (D.1 13, 48, .inl (fun _ => 0))) :: (q_98, .inl (D.1 16, 48, .inl (fun _ => 0))) :: (q_96, .inl (D.1 13, 300, .inl (fun _ => 0))) :: (q_94, .inl (D.1 13, 300, .inl (fun _ => 0))) :: (q_92, .inl (D.1 13, 300, .inl (fun _ => 0))) :: T) := hD
  generalize hfs_105 : fs_103.set 75 (.ref q_104) = fs_105 at hP hD
  have hlen : fs_105.length = 116 := by rw [← hfs_105, List.length_set]; exact hlen
  have hP : va_P D vwCl ((h0, .inr (12, fs_105)) :: (q_104, .inl (D.1 13, 18120, .inl (fun _ => 0))) :: (q_102, .inl (D.1 13, 24, .inl (fun _ => 0))) :: (q_100, .inl (D.1 13, 48, .inl (fun _ => 0))) :: (q_98, .inl (D.1 16, 48, .inl (fun _ => 0))) :: (q_96, .inl (D.1 13, 300, .inl (fun _ => 0))) :: (q_94, .inl (D.1 13, 300, .inl (fun _ => 0))) :: (q_92, .inl (D.1 13, 300, .inl (fun _ => 0))) :: T) H := hP
  have hD : va_D A ((h0, .inr (12, fs_105)) :: (q_104, .inl (D.1 13, 18120, .inl (fun _ => 0))) :: (q_102, .inl (D.1 13, 24, .inl (fun _ => 0))) :: (q_100, .inl (D.1 13, 48, .inl (fun _ => 0))) :: (q_98, .inl (D.1 16, 48, .inl (fun _ => 0))) :: (q_96, .inl (D.1 13, 300, .inl (fun _ => 0))) :: (q_94, .inl (D.1 13, 300, .inl (fun _ => 0))) :: (q_92, .inl (D.1 13, 300, .inl (fun _ => 0))) :: T) := hD
  refine lv_aload_n hx hb dX12_init_1036 rfl (lv_at hl 0 rfl) ?_
  refine lv_lconst (v := 1) hx hb dX12_init_1037 (by decide) ?_
  refine va_put (D := D) (ci := 12) (v := .long 1) (ty := .long) (C := RX12) (T := TX12) (N := 116) hx hb ht inX12 tyX12 tyX12_ok nmX12 hown hK hP hD hS 0 rfl rfl 78 (by decide) (ht (.fieldLink RX12 173 "CloneVolumesModel" "seeded" "J") fl_X12_173) (fun _ h9 => h9) rfl (by decide +kernel) rfl rfl (by rw [hlen]; decide) dX12_init_1038 (fun H locs hP hD hS => ?_)
  have hP : va_P D vwCl ((h0, .inr (12, (fs_105.set 78 (.long 1)))) :: (q_104, .inl (D.1 13, 18120, .inl (fun _ => 0))) :: (q_102, .inl (D.1 13, 24, .inl (fun _ => 0))) :: (q_100, .inl (D.1 13, 48, .inl (fun _ => 0))) :: (q_98, .inl (D.1 16, 48, .inl (fun _ => 0))) :: (q_96, .inl (D.1 13, 300, .inl (fun _ => 0))) :: (q_94, .inl (D.1 13, 300, .inl (fun _ => 0))) :: (q_92, .inl (D.1 13, 300, .inl (fun _ => 0))) :: T) H := hP
  have hD : va_D A ((h0, .inr (12, (fs_105.set 78 (.long 1)))) :: (q_104, .inl (D.1 13, 18120, .inl (fun _ => 0))) :: (q_102, .inl (D.1 13, 24, .inl (fun _ => 0))) :: (q_100, .inl (D.1 13, 48, .inl (fun _ => 0))) :: (q_98, .inl (D.1 16, 48, .inl (fun _ => 0))) :: (q_96, .inl (D.1 13, 300, .inl (fun _ => 0))) :: (q_94, .inl (D.1 13, 300, .inl (fun _ => 0))) :: (q_92, .inl (D.1 13, 300, .inl (fun _ => 0))) :: T) := hD
  generalize hfs_106 : fs_105.set 78 (.long 1) = fs_106 at hP hD
  have hlen : fs_106.length = 116 := by rw [← hfs_106, List.length_set]; exact hlen
  have hP : va_P D vwCl ((h0, .inr (12, fs_106)) :: (q_104, .inl (D.1 13, 18120, .inl (fun _ => 0))) :: (q_102, .inl (D.1 13, 24, .inl (fun _ => 0))) :: (q_100, .inl (D.1 13, 48, .inl (fun _ => 0))) :: (q_98, .inl (D.1 16, 48, .inl (fun _ => 0))) :: (q_96, .inl (D.1 13, 300, .inl (fun _ => 0))) :: (q_94, .inl (D.1 13, 300, .inl (fun _ => 0))) :: (q_92, .inl (D.1 13, 300, .inl (fun _ => 0))) :: T) H := hP
  have hD : va_D A ((h0, .inr (12, fs_106)) :: (q_104, .inl (D.1 13, 18120, .inl (fun _ => 0))) :: (q_102, .inl (D.1 13, 24, .inl (fun _ => 0))) :: (q_100, .inl (D.1 13, 48, .inl (fun _ => 0))) :: (q_98, .inl (D.1 16, 48, .inl (fun _ => 0))) :: (q_96, .inl (D.1 13, 300, .inl (fun _ => 0))) :: (q_94, .inl (D.1 13, 300, .inl (fun _ => 0))) :: (q_92, .inl (D.1 13, 300, .inl (fun _ => 0))) :: T) := hD
  refine lv_aload_n hx hb dX12_init_1041 rfl (lv_at hl 0 rfl) ?_
  refine lv_iconst (v := 5) hx hb dX12_init_1042 (by decide) ?_
  refine va_newa (atype := .char) (a0 := (5, .inl (fun _ => 0))) (ty := .char) (N' := 5) hx hb (ht _ ac_char) rfl hK hP hD hS hA (fun _ => rfl) (by decide) (by decide) (by decide) (Nat.le_trans (Nat.le_of_ble_eq_true rfl) hRc) (Nat.le_trans (Nat.le_of_ble_eq_true rfl) hRs) dX12_init_1043 (fun q_107 cA H hK2 hP hD hS => ?_)
  obtain rfl := z_cls_char hK hK2
  refine W.widen (k := 53) (n := 27664) (Nat.le_of_ble_eq_true rfl) (Nat.le_of_ble_eq_true rfl) ?_
  obtain ⟨hP, hD⟩ := z_rot hP hD
  have hP : va_P D vwCl ((h0, .inr (12, fs_106)) :: (q_107, .inl (D.1 14, 5, .inl (fun _ => 0))) :: (q_104, .inl (D.1 13, 18120, .inl (fun _ => 0))) :: (q_102, .inl (D.1 13, 24, .inl (fun _ => 0))) :: (q_100, .inl (D.1 13, 48, .inl (fun _ => 0))) :: (q_98, .inl (D.1 16, 48, .inl (fun _ => 0))) :: (q_96, .inl (D.1 13, 300, .inl (fun _ => 0))) :: (q_94, .inl (D.1 13, 300, .inl (fun _ => 0))) :: (q_92, .inl (D.1 13, 300, .inl (fun _ => 0))) :: T) H := hP
  have hD : va_D A ((h0, .inr (12, fs_106)) :: (q_107, .inl (D.1 14, 5, .inl (fun _ => 0))) :: (q_104, .inl (D.1 13, 18120, .inl (fun _ => 0))) :: (q_102, .inl (D.1 13, 24, .inl (fun _ => 0))) :: (q_100, .inl (D.1 13, 48, .inl (fun _ => 0))) :: (q_98, .inl (D.1 16, 48, .inl (fun _ => 0))) :: (q_96, .inl (D.1 13, 300, .inl (fun _ => 0))) :: (q_94, .inl (D.1 13, 300, .inl (fun _ => 0))) :: (q_92, .inl (D.1 13, 300, .inl (fun _ => 0))) :: T) := hD
  refine lv_dup hx hb dX12_init_1045 rfl ?_
  refine lv_iconst (v := 0) hx hb dX12_init_1046 (by decide) ?_
  refine lv_bipush (v := 102) hx hb dX12_init_1047 (by decide) ?_
  refine va_cast hx hb hK hP hD hS 1 1 rfl rfl (z_in (by decide) (by decide)) dX12_init_1049 (fun H locs hP hD hS => ?_)
  have hP : va_P D vwCl ((h0, .inr (12, fs_106)) :: (q_107, .inl (D.1 14, 5, .inl (upd (fun _ => 0) 0 102))) :: (q_104, .inl (D.1 13, 18120, .inl (fun _ => 0))) :: (q_102, .inl (D.1 13, 24, .inl (fun _ => 0))) :: (q_100, .inl (D.1 13, 48, .inl (fun _ => 0))) :: (q_98, .inl (D.1 16, 48, .inl (fun _ => 0))) :: (q_96, .inl (D.1 13, 300, .inl (fun _ => 0))) :: (q_94, .inl (D.1 13, 300, .inl (fun _ => 0))) :: (q_92, .inl (D.1 13, 300, .inl (fun _ => 0))) :: T) H := hP
  have hD : va_D A ((h0, .inr (12, fs_106)) :: (q_107, .inl (D.1 14, 5, .inl (upd (fun _ => 0) 0 102))) :: (q_104, .inl (D.1 13, 18120, .inl (fun _ => 0))) :: (q_102, .inl (D.1 13, 24, .inl (fun _ => 0))) :: (q_100, .inl (D.1 13, 48, .inl (fun _ => 0))) :: (q_98, .inl (D.1 16, 48, .inl (fun _ => 0))) :: (q_96, .inl (D.1 13, 300, .inl (fun _ => 0))) :: (q_94, .inl (D.1 13, 300, .inl (fun _ => 0))) :: (q_92, .inl (D.1 13, 300, .inl (fun _ => 0))) :: T) := hD
  refine lv_dup hx hb dX12_init_1050 rfl ?_
  refine lv_iconst (v := 1) hx hb dX12_init_1051 (by decide) ?_
  refine lv_bipush (v := 105) hx hb dX12_init_1052 (by decide) ?_
  refine va_cast hx hb hK hP hD hS 1 1 rfl rfl (z_in (by decide) (by decide)) dX12_init_1054 (fun H locs hP hD hS => ?_)
  have hP : va_P D vwCl ((h0, .inr (12, fs_106)) :: (q_107, .inl (D.1 14, 5, .inl (upd (upd (fun _ => 0) 0 102) 1 105))) :: (q_104, .inl (D.1 13, 18120, .inl (fun _ => 0))) :: (q_102, .inl (D.1 13, 24, .inl (fun _ => 0))) :: (q_100, .inl (D.1 13, 48, .inl (fun _ => 0))) :: (q_98, .inl (D.1 16, 48, .inl (fun _ => 0))) :: (q_96, .inl (D.1 13, 300, .inl (fun _ => 0))) :: (q_94, .inl (D.1 13, 300, .inl (fun _ => 0))) :: (q_92, .inl (D.1 13, 300, .inl (fun _ => 0))) :: T) H := hP
  have hD : va_D A ((h0, .inr (12, fs_106)) :: (q_107, .inl (D.1 14, 5, .inl (upd (upd (fun _ => 0) 0 102) 1 105))) :: (q_104, .inl (D.1 13, 18120, .inl (fun _ => 0))) :: (q_102, .inl (D.1 13, 24, .inl (fun _ => 0))) :: (q_100, .inl (D.1 13, 48, .inl (fun _ => 0))) :: (q_98, .inl (D.1 16, 48, .inl (fun _ => 0))) :: (q_96, .inl (D.1 13, 300, .inl (fun _ => 0))) :: (q_94, .inl (D.1 13, 300, .inl (fun _ => 0))) :: (q_92, .inl (D.1 13, 300, .inl (fun _ => 0))) :: T) := hD
  refine lv_dup hx hb dX12_init_1055 rfl ?_
  refine lv_iconst (v := 2) hx hb dX12_init_1056 (by decide) ?_
  refine lv_bipush (v := 114) hx hb dX12_init_1057 (by decide) ?_
  refine va_cast hx hb hK hP hD hS 1 1 rfl rfl (z_in (by decide) (by decide)) dX12_init_1059 (fun H locs hP hD hS => ?_)
  have hP : va_P D vwCl ((h0, .inr (12, fs_106)) :: (q_107, .inl (D.1 14, 5, .inl (upd (upd (upd (fun _ => 0) 0 102) 1 105) 2 114))) :: (q_104, .inl (D.1 13, 18120, .inl (fun _ => 0))) :: (q_102, .inl (D.1 13, 24, .inl (fun _ => 0))) :: (q_100, .inl (D.1 13, 48, .inl (fun _ => 0))) :: (q_98, .inl (D.1 16, 48, .inl (fun _ => 0))) :: (q_96, .inl (D.1 13, 300, .inl (fun _ => 0))) :: (q_94, .inl (D.1 13, 300, .inl (fun _ => 0))) :: (q_92, .inl (D.1 13, 300, .inl (fun _ => 0))) :: T) H := hP
  have hD : va_D A ((h0, .inr (12, fs_106)) :: (q_107, .inl (D.1 14, 5, .inl (upd (upd (upd (fun _ => 0) 0 102) 1 105) 2 114))) :: (q_104, .inl (D.1 13, 18120, .inl (fun _ => 0))) :: (q_102, .inl (D.1 13, 24, .inl (fun _ => 0))) :: (q_100, .inl (D.1 13, 48, .inl (fun _ => 0))) :: (q_98, .inl (D.1 16, 48, .inl (fun _ => 0))) :: (q_96, .inl (D.1 13, 300, .inl (fun _ => 0))) :: (q_94, .inl (D.1 13, 300, .inl (fun _ => 0))) :: (q_92, .inl (D.1 13, 300, .inl (fun _ => 0))) :: T) := hD
  refine lv_dup hx hb dX12_init_1060 rfl ?_
  refine lv_iconst (v := 3) hx hb dX12_init_1061 (by decide) ?_
  refine lv_bipush (v := 115) hx hb dX12_init_1062 (by decide) ?_
  refine va_cast hx hb hK hP hD hS 1 1 rfl rfl (z_in (by decide) (by decide)) dX12_init_1064 (fun H locs hP hD hS => ?_)
  have hP : va_P D vwCl ((h0, .inr (12, fs_106)) :: (q_107, .inl (D.1 14, 5, .inl (upd (upd (upd (upd (fun _ => 0) 0 102) 1 105) 2 114) 3 115))) :: (q_104, .inl (D.1 13, 18120, .inl (fun _ => 0))) :: (q_102, .inl (D.1 13, 24, .inl (fun _ => 0))) :: (q_100, .inl (D.1 13, 48, .inl (fun _ => 0))) :: (q_98, .inl (D.1 16, 48, .inl (fun _ => 0))) :: (q_96, .inl (D.1 13, 300, .inl (fun _ => 0))) :: (q_94, .inl (D.1 13, 300, .inl (fun _ => 0))) :: (q_92, .inl (D.1 13, 300, .inl (fun _ => 0))) :: T) H := hP
  have hD : va_D A ((h0, .inr (12, fs_106)) :: (q_107, .inl (D.1 14, 5, .inl (upd (upd (upd (upd (fun _ => 0) 0 102) 1 105) 2 114) 3 115))) :: (q_104, .inl (D.1 13, 18120, .inl (fun _ => 0))) :: (q_102, .inl (D.1 13, 24, .inl (fun _ => 0))) :: (q_100, .inl (D.1 13, 48, .inl (fun _ => 0))) :: (q_98, .inl (D.1 16, 48, .inl (fun _ => 0))) :: (q_96, .inl (D.1 13, 300, .inl (fun _ => 0))) :: (q_94, .inl (D.1 13, 300, .inl (fun _ => 0))) :: (q_92, .inl (D.1 13, 300, .inl (fun _ => 0))) :: T) := hD
  refine lv_dup hx hb dX12_init_1065 rfl ?_
  refine lv_iconst (v := 4) hx hb dX12_init_1066 (by decide) ?_
  refine lv_bipush (v := 116) hx hb dX12_init_1067 (by decide) ?_
  refine va_cast hx hb hK hP hD hS 1 1 rfl rfl (z_in (by decide) (by decide)) dX12_init_1069 (fun H locs hP hD hS => ?_)
  have hP : va_P D vwCl ((h0, .inr (12, fs_106)) :: (q_107, .inl (D.1 14, 5, .inl (upd (upd (upd (upd (upd (fun _ => 0) 0 102) 1 105) 2 114) 3 115) 4 116))) :: (q_104, .inl (D.1 13, 18120, .inl (fun _ => 0))) :: (q_102, .inl (D.1 13, 24, .inl (fun _ => 0))) :: (q_100, .inl (D.1 13, 48, .inl (fun _ => 0))) :: (q_98, .inl (D.1 16, 48, .inl (fun _ => 0))) :: (q_96, .inl (D.1 13, 300, .inl (fun _ => 0))) :: (q_94, .inl (D.1 13, 300, .inl (fun _ => 0))) :: (q_92, .inl (D.1 13, 300, .inl (fun _ => 0))) :: T) H := hP
  have hD : va_D A ((h0, .inr (12, fs_106)) :: (q_107, .inl (D.1 14, 5, .inl (upd (upd (upd (upd (upd (fun _ => 0) 0 102) 1 105) 2 114) 3 115) 4 116))) :: (q_104, .inl (D.1 13, 18120, .inl (fun _ => 0))) :: (q_102, .inl (D.1 13, 24, .inl (fun _ => 0))) :: (q_100, .inl (D.1 13, 48, .inl (fun _ => 0))) :: (q_98, .inl (D.1 16, 48, .inl (fun _ => 0))) :: (q_96, .inl (D.1 13, 300, .inl (fun _ => 0))) :: (q_94, .inl (D.1 13, 300, .inl (fun _ => 0))) :: (q_92, .inl (D.1 13, 300, .inl (fun _ => 0))) :: T) := hD
  refine va_putF (D := D) (ci := 12) (v := .ref q_107) (ty := .array .char) (C := RX12) (T := TX12) (N := 116) hx hb ht inX12 tyX12 tyX12_ok nmX12 hown hK hP hD hS 0 rfl rfl 79 (by decide) (ht (.fieldLink RX12 177 "CloneVolumesModel" "firstAsked" "[C") fl_X12_177) (fun _ h9 => h9) rfl hin rfl (by decide +kernel) rfl rfl (by rw [hlen]; decide) dX12_init_1070 (fun H locs hP hD hS => ?_)
  have hP : va_P D vwCl ((h0, .inr (12, (fs_106.set 79 (.ref q_107)))) :: (q_107, .inl (D.1 14, 5, .inl (upd (upd (upd (upd (upd (fun _ => 0) 0 102) 1 105) 2 114) 3 115) 4 116))) :: (q_104, .inl (D.1 13, 18120, .inl (fun _ => 0))) :: (q_102, .inl (D.1 13, 24, .inl (fun _ => 0))) :: (q_100, .inl (D.1 13, 48, .inl (fun _ => 0))) :: (q_98, .inl (D.1 16, 48, .inl (fun _ => 0))) :: (q_96, .inl (D.1 13, 300, .inl (fun _ => 0))) :: (q_94, .inl (D.1 13, 300, .inl (fun _ => 0))) :: (q_92, .inl (D.1 13, 300, .inl (fun _ => 0))) :: T) H := hP
  have hD : va_D A ((h0, .inr (12, (fs_106.set 79 (.ref q_107)))) :: (q_107, .inl (D.1 14, 5, .inl (upd (upd (upd (upd (upd (fun _ => 0) 0 102) 1 105) 2 114) 3 115) 4 116))) :: (q_104, .inl (D.1 13, 18120, .inl (fun _ => 0))) :: (q_102, .inl (D.1 13, 24, .inl (fun _ => 0))) :: (q_100, .inl (D.1 13, 48, .inl (fun _ => 0))) :: (q_98, .inl (D.1 16, 48, .inl (fun _ => 0))) :: (q_96, .inl (D.1 13, 300, .inl (fun _ => 0))) :: (q_94, .inl (D.1 13, 300, .inl (fun _ => 0))) :: (q_92, .inl (D.1 13, 300, .inl (fun _ => 0))) :: T) := hD
  generalize hfs_108 : fs_106.set 79 (.ref q_107) = fs_108 at hP hD
  have hlen : fs_108.length = 116 := by rw [← hfs_108, List.length_set]; exact hlen
  have hP : va_P D vwCl ((h0, .inr (12, fs_108)) :: (q_107, .inl (D.1 14, 5, .inl (upd (upd (upd (upd (upd (fun _ => 0) 0 102) 1 105) 2 114) 3 115) 4 116))) :: (q_104, .inl (D.1 13, 18120, .inl (fun _ => 0))) :: (q_102, .inl (D.1 13, 24, .inl (fun _ => 0))) :: (q_100, .inl (D.1 13, 48, .inl (fun _ => 0))) :: (q_98, .inl (D.1 16, 48, .inl (fun _ => 0))) :: (q_96, .inl (D.1 13, 300, .inl (fun _ => 0))) :: (q_94, .inl (D.1 13, 300, .inl (fun _ => 0))) :: (q_92, .inl (D.1 13, 300, .inl (fun _ => 0))) :: T) H := hP
  have hD : va_D A ((h0, .inr (12, fs_108)) :: (q_107, .inl (D.1 14, 5, .inl (upd (upd (upd (upd (upd (fun _ => 0) 0 102) 1 105) 2 114) 3 115) 4 116))) :: (q_104, .inl (D.1 13, 18120, .inl (fun _ => 0))) :: (q_102, .inl (D.1 13, 24, .inl (fun _ => 0))) :: (q_100, .inl (D.1 13, 48, .inl (fun _ => 0))) :: (q_98, .inl (D.1 16, 48, .inl (fun _ => 0))) :: (q_96, .inl (D.1 13, 300, .inl (fun _ => 0))) :: (q_94, .inl (D.1 13, 300, .inl (fun _ => 0))) :: (q_92, .inl (D.1 13, 300, .inl (fun _ => 0))) :: T) := hD
  exact kk q_107 q_104 q_102 q_100 q_98 q_96 q_94 q_92 fs_108 _ _ (by rw [← hfs_108, ← hfs_106, ← hfs_105, ← hfs_103, ← hfs_101, ← hfs_99, ← hfs_97, ← hfs_95, ← hfs_93]) hP hD hS
set_option maxHeartbeats 4000000 in
set_option maxRecDepth 100000 in
theorem cM_14 {p : Program} {l : Launch} {e : Env} {R : Room} {s : State} {m : MethodId} {args : Array Value} {below : List Frame} {meth : Method} {c : Code} {Q : State → Prop} {D : va_G} {A : Nat → Prop} {ls : Array Slot} {h0 : Nat} {T : va_W} (hx : p.tables.exec = Jvm.exec) (hb : c.code = cX12_init) (ht : ∀ w ∈ lw_gd, w.before args s = true) (hown : s.vm.findClass RX12 = some m.cls) (hin : meth.name = "<init>") (hK : va_K D vwCl (TY D) s) (hA : ∀ q : Nat, s.heap.size ≤ q → A q) (hRc : 80 ≤ R.cells) (hRs : 35050 ≤ R.slots) (hl : lv_has ls 1 [(0, .ref h0)]) {fs : List Value} (hlen : fs.length = 116) {H : Heap} {locs : List Loc} (hP : va_P D vwCl ((h0, .inr (12, fs)) :: T) H) (hD : va_D A ((h0, .inr (12, fs)) :: T)) (hS : va_S A s.heap H locs)
    (kk : ∀ (q_113 : Nat) (q_111 : Nat) (q_109 : Nat) (fs' : List Value) (H : Heap) (locs : List Loc), fs' = (((fs.set 80 (.ref q_109)).set 81 (.ref q_111)).set 82 (.ref q_113)) → va_P D vwCl ((h0, .inr (12, fs')) :: (q_113, .inl (D.1 14, 5, .inl (upd (upd (upd (upd (upd (fun _ => 0) 0 116) 1 111) 2 116) 3 97) 4 108))) :: (q_111, .inl (D.1 14, 5, .inl (upd (upd (upd (upd (upd (fun _ => 0) 0 111) 1 102) 2 116) 3 101) 4 110))) :: (q_109, .inl (D.1 14, 4, .inl (upd (upd (upd (upd (fun _ => 0) 0 108) 1 97) 2 115) 3 116))) :: T) H → va_D A ((h0, .inr (12, fs')) :: (q_113, .inl (D.1 14, 5, .inl (upd (upd (upd (upd (upd (fun _ => 0) 0 116) 1 111) 2 116) 3 97) 4 108))) :: (q_111, .inl (D.1 14, 5, .inl (upd (upd (upd (upd (upd (fun _ => 0) 0 111) 1 102) 2 116) 3 101) 4 110))) :: (q_109, .inl (D.1 14, 4, .inl (upd (upd (upd (upd (fun _ => 0) 0 108) 1 97) 2 115) 3 116))) :: T) → va_S A s.heap H locs → W p l e R s m args below meth c H locs 56 27678 Q (F0 m 1164 ls [])) : W p l e R s m args below meth c H locs 53 27664 Q (F0 m 1073 ls []) := by
  refine lv_aload_n hx hb dX12_init_1073 rfl (lv_at hl 0 rfl) ?_
  refine lv_iconst (v := 4) hx hb dX12_init_1074 (by decide) ?_
  refine va_newa (atype := .char) (a0 := (4, .inl (fun _ => 0))) (ty := .char) (N' := 4) hx hb (ht _ ac_char) rfl hK hP hD hS hA (fun _ => rfl) (by decide) (by decide) (by decide) (Nat.le_trans (Nat.le_of_ble_eq_true rfl) hRc) (Nat.le_trans (Nat.le_of_ble_eq_true rfl) hRs) dX12_init_1075 (fun q_109 cA H hK2 hP hD hS => ?_)
  obtain rfl := z_cls_char hK hK2
  refine W.widen (k := 54) (n := 27668) (Nat.le_of_ble_eq_true rfl) (Nat.le_of_ble_eq_true rfl) ?_
  obtain ⟨hP, hD⟩ := z_rot hP hD
  have hP : va_P D vwCl ((h0, .inr (12, fs)) :: (q_109, .inl (D.1 14, 4, .inl (fun _ => 0))) :: T) H := hP
  have hD : va_D A ((h0, .inr (12, fs)) :: (q_109, .inl (D.1 14, 4, .inl (fun _ => 0))) :: T) := hD
  refine lv_dup hx hb dX12_init_1077 rfl ?_
  refine lv_iconst (v := 0) hx hb dX12_init_1078 (by decide) ?_
  refine lv_bipush (v := 108) hx hb dX12_init_1079 (by decide) ?_
  refine va_cast hx hb hK hP hD hS 1 1 rfl rfl (z_in (by decide) (by decide)) dX12_init_1081 (fun H locs hP hD hS => ?_)
  have hP : va_P D vwCl ((h0, .inr (12, fs)) :: (q_109, .inl (D.1 14, 4, .inl (upd (fun _ => 0) 0 108))) :: T) H := hP
  have hD : va_D A ((h0, .inr (12, fs)) :: (q_109, .inl (D.1 14, 4, .inl (upd (fun _ => 0) 0 108))) :: T) := hD
  refine lv_dup hx hb dX12_init_1082 rfl ?_
  refine lv_iconst (v := 1) hx hb dX12_init_1083 (by decide) ?_
  refine lv_bipush (v := 97) hx hb dX12_init_1084 (by decide) ?_
  refine va_cast hx hb hK hP hD hS 1 1 rfl rfl (z_in (by decide) (by decide)) dX12_init_1086 (fun H locs hP hD hS => ?_)
  have hP : va_P D vwCl ((h0, .inr (12, fs)) :: (q_109, .inl (D.1 14, 4, .inl (upd (upd (fun _ => 0) 0 108) 1 97))) :: T) H := hP
  have hD : va_D A ((h0, .inr (12, fs)) :: (q_109, .inl (D.1 14, 4, .inl (upd (upd (fun _ => 0) 0 108) 1 97))) :: T) := hD
  refine lv_dup hx hb dX12_init_1087 rfl ?_
  refine lv_iconst (v := 2) hx hb dX12_init_1088 (by decide) ?_
  refine lv_bipush (v := 115) hx hb dX12_init_1089 (by decide) ?_
  refine va_cast hx hb hK hP hD hS 1 1 rfl rfl (z_in (by decide) (by decide)) dX12_init_1091 (fun H locs hP hD hS => ?_)
  have hP : va_P D vwCl ((h0, .inr (12, fs)) :: (q_109, .inl (D.1 14, 4, .inl (upd (upd (upd (fun _ => 0) 0 108) 1 97) 2 115))) :: T) H := hP
  have hD : va_D A ((h0, .inr (12, fs)) :: (q_109, .inl (D.1 14, 4, .inl (upd (upd (upd (fun _ => 0) 0 108) 1 97) 2 115))) :: T) := hD
  refine lv_dup hx hb dX12_init_1092 rfl ?_
  refine lv_iconst (v := 3) hx hb dX12_init_1093 (by decide) ?_
  refine lv_bipush (v := 116) hx hb dX12_init_1094 (by decide) ?_
  refine va_cast hx hb hK hP hD hS 1 1 rfl rfl (z_in (by decide) (by decide)) dX12_init_1096 (fun H locs hP hD hS => ?_)
  have hP : va_P D vwCl ((h0, .inr (12, fs)) :: (q_109, .inl (D.1 14, 4, .inl (upd (upd (upd (upd (fun _ => 0) 0 108) 1 97) 2 115) 3 116))) :: T) H := hP
  have hD : va_D A ((h0, .inr (12, fs)) :: (q_109, .inl (D.1 14, 4, .inl (upd (upd (upd (upd (fun _ => 0) 0 108) 1 97) 2 115) 3 116))) :: T) := hD
  refine va_putF (D := D) (ci := 12) (v := .ref q_109) (ty := .array .char) (C := RX12) (T := TX12) (N := 116) hx hb ht inX12 tyX12 tyX12_ok nmX12 hown hK hP hD hS 0 rfl rfl 80 (by decide) (ht (.fieldLink RX12 180 "CloneVolumesModel" "lastAsked" "[C") fl_X12_180) (fun _ h9 => h9) rfl hin rfl (by decide +kernel) rfl rfl (by rw [hlen]; decide) dX12_init_1097 (fun H locs hP hD hS => ?_)
  have hP : va_P D vwCl ((h0, .inr (12, (fs.set 80 (.ref q_109)))) :: (q_109, .inl (D.1 14, 4, .inl (upd (upd (upd (upd (fun _ => 0) 0 108) 1 97) 2 115) 3 116))) :: T) H := hP
  have hD : va_D A ((h0, .inr (12, (fs.set 80 (.ref q_109)))) :: (q_109, .inl (D.1 14, 4, .inl (upd (upd (upd (upd (fun _ => 0) 0 108) 1 97) 2 115) 3 116))) :: T) := hD
  generalize hfs_110 : fs.set 80 (.ref q_109) = fs_110 at hP hD
  have hlen : fs_110.length = 116 := by rw [← hfs_110, List.length_set]; exact hlen
  have hP : va_P D vwCl ((h0, .inr (12, fs_110)) :: (q_109, .inl (D.1 14, 4, .inl (upd (upd (upd (upd (fun _ => 0) 0 108) 1 97) 2 115) 3 116))) :: T) H := hP
  have hD : va_D A ((h0, .inr (12, fs_110)) :: (q_109, .inl (D.1 14, 4, .inl (upd (upd (upd (upd (fun _ => 0) 0 108) 1 97) 2 115) 3 116))) :: T) := hD
  refine lv_aload_n hx hb dX12_init_1100 rfl (lv_at hl 0 rfl) ?_
  refine lv_iconst (v := 5) hx hb dX12_init_1101 (by decide) ?_
  refine va_newa (atype := .char) (a0 := (5, .inl (fun _ => 0))) (ty := .char) (N' := 5) hx hb (ht _ ac_char) rfl hK hP hD hS hA (fun _ => rfl) (by decide) (by decide) (by decide) (Nat.le_trans (Nat.le_of_ble_eq_true rfl) hRc) (Nat.le_trans (Nat.le_of_ble_eq_true rfl) hRs) dX12_init_1102 (fun q_111 cA H hK2 hP hD hS => ?_)
  obtain rfl := z_cls_char hK hK2
  refine W.widen (k := 55) (n := 27673) (Nat.le_of_ble_eq_true rfl) (Nat.le_of_ble_eq_true rfl) ?_
  obtain ⟨hP, hD⟩ := z_rot hP hD
  have hP : va_P D vwCl ((h0, .inr (12, fs_110)) :: (q_111, .inl (D.1 14, 5, .inl (fun _ => 0))) :: (q_109, .inl (D.1 14, 4, .inl (upd (upd (upd (upd (fun _ => 0) 0 108) 1 97) 2 115) 3 116))) :: T) H := hP
  have hD : va_D A ((h0, .inr (12, fs_110)) :: (q_111, .inl (D.1 14, 5, .inl (fun _ => 0))) :: (q_109, .inl (D.1 14, 4, .inl (upd (upd (upd (upd (fun _ => 0) 0 108) 1 97) 2 115) 3 116))) :: T) := hD
  refine lv_dup hx hb dX12_init_1104 rfl ?_
  refine lv_iconst (v := 0) hx hb dX12_init_1105 (by decide) ?_
  refine lv_bipush (v := 111) hx hb dX12_init_1106 (by decide) ?_
  refine va_cast hx hb hK hP hD hS 1 1 rfl rfl (z_in (by decide) (by decide)) dX12_init_1108 (fun H locs hP hD hS => ?_)
  have hP : va_P D vwCl ((h0, .inr (12, fs_110)) :: (q_111, .inl (D.1 14, 5, .inl (upd (fun _ => 0) 0 111))) :: (q_109, .inl (D.1 14, 4, .inl (upd (upd (upd (upd (fun _ => 0) 0 108) 1 97) 2 115) 3 116))) :: T) H := hP
  have hD : va_D A ((h0, .inr (12, fs_110)) :: (q_111, .inl (D.1 14, 5, .inl (upd (fun _ => 0) 0 111))) :: (q_109, .inl (D.1 14, 4, .inl (upd (upd (upd (upd (fun _ => 0) 0 108) 1 97) 2 115) 3 116))) :: T) := hD
  refine lv_dup hx hb dX12_init_1109 rfl ?_
  refine lv_iconst (v := 1) hx hb dX12_init_1110 (by decide) ?_
  refine lv_bipush (v := 102) hx hb dX12_init_1111 (by decide) ?_
  refine va_cast hx hb hK hP hD hS 1 1 rfl rfl (z_in (by decide) (by decide)) dX12_init_1113 (fun H locs hP hD hS => ?_)
  have hP : va_P D vwCl ((h0, .inr (12, fs_110)) :: (q_111, .inl (D.1 14, 5, .inl (upd (upd (fun _ => 0) 0 111) 1 102))) :: (q_109, .inl (D.1 14, 4, .inl (upd (upd (upd (upd (fun _ => 0) 0 108) 1 97) 2 115) 3 116))) :: T) H := hP
  have hD : va_D A ((h0, .inr (12, fs_110)) :: (q_111, .inl (D.1 14, 5, .inl (upd (upd (fun _ => 0) 0 111) 1 102))) :: (q_109, .inl (D.1 14, 4, .inl (upd (upd (upd (upd (fun _ => 0) 0 108) 1 97) 2 115) 3 116))) :: T) := hD
  refine lv_dup hx hb dX12_init_1114 rfl ?_
  refine lv_iconst (v := 2) hx hb dX12_init_1115 (by decide) ?_
  refine lv_bipush (v := 116) hx hb dX12_init_1116 (by decide) ?_
  refine va_cast hx hb hK hP hD hS 1 1 rfl rfl (z_in (by decide) (by decide)) dX12_init_1118 (fun H locs hP hD hS => ?_)
  have hP : va_P D vwCl ((h0, .inr (12, fs_110)) :: (q_111, .inl (D.1 14, 5, .inl (upd (upd (upd (fun _ => 0) 0 111) 1 102) 2 116))) :: (q_109, .inl (D.1 14, 4, .inl (upd (upd (upd (upd (fun _ => 0) 0 108) 1 97) 2 115) 3 116))) :: T) H := hP
  have hD : va_D A ((h0, .inr (12, fs_110)) :: (q_111, .inl (D.1 14, 5, .inl (upd (upd (upd (fun _ => 0) 0 111) 1 102) 2 116))) :: (q_109, .inl (D.1 14, 4, .inl (upd (upd (upd (upd (fun _ => 0) 0 108) 1 97) 2 115) 3 116))) :: T) := hD
  refine lv_dup hx hb dX12_init_1119 rfl ?_
  refine lv_iconst (v := 3) hx hb dX12_init_1120 (by decide) ?_
  refine lv_bipush (v := 101) hx hb dX12_init_1121 (by decide) ?_
  refine va_cast hx hb hK hP hD hS 1 1 rfl rfl (z_in (by decide) (by decide)) dX12_init_1123 (fun H locs hP hD hS => ?_)
  have hP : va_P D vwCl ((h0, .inr (12, fs_110)) :: (q_111, .inl (D.1 14, 5, .inl (upd (upd (upd (upd (fun _ => 0) 0 111) 1 102) 2 116) 3 101))) :: (q_109, .inl (D.1 14, 4, .inl (upd (upd (upd (upd (fun _ => 0) 0 108) 1 97) 2 115) 3 116))) :: T) H := hP
  have hD : va_D A ((h0, .inr (12, fs_110)) :: (q_111, .inl (D.1 14, 5, .inl (upd (upd (upd (upd (fun _ => 0) 0 111) 1 102) 2 116) 3 101))) :: (q_109, .inl (D.1 14, 4, .inl (upd (upd (upd (upd (fun _ => 0) 0 108) 1 97) 2 115) 3 116))) :: T) := hD
  refine lv_dup hx hb dX12_init_1124 rfl ?_
  refine lv_iconst (v := 4) hx hb dX12_init_1125 (by decide) ?_
  refine lv_bipush (v := 110) hx hb dX12_init_1126 (by decide) ?_
  refine va_cast hx hb hK hP hD hS 1 1 rfl rfl (z_in (by decide) (by decide)) dX12_init_1128 (fun H locs hP hD hS => ?_)
  have hP : va_P D vwCl ((h0, .inr (12, fs_110)) :: (q_111, .inl (D.1 14, 5, .inl (upd (upd (upd (upd (upd (fun _ => 0) 0 111) 1 102) 2 116) 3 101) 4 110))) :: (q_109, .inl (D.1 14, 4, .inl (upd (upd (upd (upd (fun _ => 0) 0 108) 1 97) 2 115) 3 116))) :: T) H := hP
  have hD : va_D A ((h0, .inr (12, fs_110)) :: (q_111, .inl (D.1 14, 5, .inl (upd (upd (upd (upd (upd (fun _ => 0) 0 111) 1 102) 2 116) 3 101) 4 110))) :: (q_109, .inl (D.1 14, 4, .inl (upd (upd (upd (upd (fun _ => 0) 0 108) 1 97) 2 115) 3 116))) :: T) := hD
  refine va_putF (D := D) (ci := 12) (v := .ref q_111) (ty := .array .char) (C := RX12) (T := TX12) (N := 116) hx hb ht inX12 tyX12 tyX12_ok nmX12 hown hK hP hD hS 0 rfl rfl 81 (by decide) (ht (.fieldLink RX12 183 "CloneVolumesModel" "oftenAsked" "[C") fl_X12_183) (fun _ h9 => h9) rfl hin rfl (by decide +kernel) rfl rfl (by rw [hlen]; decide) dX12_init_1129 (fun H locs hP hD hS => ?_)
  have hP : va_P D vwCl ((h0, .inr (12, (fs_110.set 81 (.ref q_111)))) :: (q_111, .inl (D.1 14, 5, .inl (upd (upd (upd (upd (upd (fun _ => 0) 0 111) 1 102) 2 116) 3 101) 4 110))) :: (q_109, .inl (D.1 14, 4, .inl (upd (upd (upd (upd (fun _ => 0) 0 108) 1 97) 2 115) 3 116))) :: T) H := hP
  have hD : va_D A ((h0, .inr (12, (fs_110.set 81 (.ref q_111)))) :: (q_111, .inl (D.1 14, 5, .inl (upd (upd (upd (upd (upd (fun _ => 0) 0 111) 1 102) 2 116) 3 101) 4 110))) :: (q_109, .inl (D.1 14, 4, .inl (upd (upd (upd (upd (fun _ => 0) 0 108) 1 97) 2 115) 3 116))) :: T) := hD
  generalize hfs_112 : fs_110.set 81 (.ref q_111) = fs_112 at hP hD
  have hlen : fs_112.length = 116 := by rw [← hfs_112, List.length_set]; exact hlen
  have hP : va_P D vwCl ((h0, .inr (12, fs_112)) :: (q_111, .inl (D.1 14, 5, .inl (upd (upd (upd (upd (upd (fun _ => 0) 0 111) 1 102) 2 116) 3 101) 4 110))) :: (q_109, .inl (D.1 14, 4, .inl (upd (upd (upd (upd (fun _ => 0) 0 108) 1 97) 2 115) 3 116))) :: T) H := hP
  have hD : va_D A ((h0, .inr (12, fs_112)) :: (q_111, .inl (D.1 14, 5, .inl (upd (upd (upd (upd (upd (fun _ => 0) 0 111) 1 102) 2 116) 3 101) 4 110))) :: (q_109, .inl (D.1 14, 4, .inl (upd (upd (upd (upd (fun _ => 0) 0 108) 1 97) 2 115) 3 116))) :: T) := hD
  refine lv_aload_n hx hb dX12_init_1132 rfl (lv_at hl 0 rfl) ?_
  refine lv_iconst (v := 5) hx hb dX12_init_1133 (by decide) ?_
  refine va_newa (atype := .char) (a0 := (5, .inl (fun _ => 0))) (ty := .char) (N' := 5) hx hb (ht _ ac_char) rfl hK hP hD hS hA (fun _ => rfl) (by decide) (by decide) (by decide) (Nat.le_trans (Nat.le_of_ble_eq_true rfl) hRc) (Nat.le_trans (Nat.le_of_ble_eq_true rfl) hRs) dX12_init_1134 (fun q_113 cA H hK2 hP hD hS => ?_)
  obtain rfl := z_cls_char hK hK2
  refine W.widen (k := 56) (n := 27678) (Nat.le_of_ble_eq_true rfl) (Nat.le_of_ble_eq_true rfl) ?_
  obtain ⟨hP, hD⟩ := z_rot hP hD
  have hP : va_P D vwCl ((h0, .inr (12, fs_112)) :: (q_113, .inl (D.1 14, 5, .inl (fun _ => 0))) :: (q_111, .inl (D.1 14, 5, .inl (upd (upd (upd (upd (upd (fun _ => 0) 0 111) 1 102) 2 116) 3 101) 4 110))) :: (q_109, .inl (D.1 14, 4, .inl (upd (upd (upd (upd (fun _ => 0) 0 108) 1 97) 2 115) 3 116))) :: T) H := hP
  have hD : va_D A ((h0, .inr (12, fs_112)) :: (q_113, .inl (D.1 14, 5, .inl (fun _ => 0))) :: (q_111, .inl (D.1 14, 5, .inl (upd (upd (upd (upd (upd (fun _ => 0) 0 111) 1 102) 2 116) 3 101) 4 110))) :: (q_109, .inl (D.1 14, 4, .inl (upd (upd (upd (upd (fun _ => 0) 0 108) 1 97) 2 115) 3 116))) :: T) := hD
  refine lv_dup hx hb dX12_init_1136 rfl ?_
  refine lv_iconst (v := 0) hx hb dX12_init_1137 (by decide) ?_
  refine lv_bipush (v := 116) hx hb dX12_init_1138 (by decide) ?_
  refine va_cast hx hb hK hP hD hS 1 1 rfl rfl (z_in (by decide) (by decide)) dX12_init_1140 (fun H locs hP hD hS => ?_)
  have hP : va_P D vwCl ((h0, .inr (12, fs_112)) :: (q_113, .inl (D.1 14, 5, .inl (upd (fun _ => 0) 0 116))) :: (q_111, .inl (D.1 14, 5, .inl (upd (upd (upd (upd (upd (fun _ => 0) 0 111) 1 102) 2 116) 3 101) 4 110))) :: (q_109, .inl (D.1 14, 4, .inl (upd (upd (upd (upd (fun _ => 0) 0 108) 1 97) 2 115) 3 116))) :: T) H := hP
  have hD : va_D A ((h0, .inr (12, fs_112)) :: (q_113, .inl (D.1 14, 5, .inl (upd (fun _ => 0) 0 116))) :: (q_111, .inl (D.1 14, 5, .inl (upd (upd (upd (upd (upd (fun _ => 0) 0 111) 1 102) 2 116) 3 101) 4 110))) :: (q_109, .inl (D.1 14, 4, .inl (upd (upd (upd (upd (fun _ => 0) 0 108) 1 97) 2 115) 3 116))) :: T) := hD
  refine lv_dup hx hb dX12_init_1141 rfl ?_
  refine lv_iconst (v := 1) hx hb dX12_init_1142 (by decide) ?_
  refine lv_bipush (v := 111) hx hb dX12_init_1143 (by decide) ?_
  refine va_cast hx hb hK hP hD hS 1 1 rfl rfl (z_in (by decide) (by decide)) dX12_init_1145 (fun H locs hP hD hS => ?_)
  have hP : va_P D vwCl ((h0, .inr (12, fs_112)) :: (q_113, .inl (D.1 14, 5, .inl (upd (upd (fun _ => 0) 0 116) 1 111))) :: (q_111, .inl (D.1 14, 5, .inl (upd (upd (upd (upd (upd (fun _ => 0) 0 111) 1 102) 2 116) 3 101) 4 110))) :: (q_109, .inl (D.1 14, 4, .inl (upd (upd (upd (upd (fun _ => 0) 0 108) 1 97) 2 115) 3 116))) :: T) H := hP
  have hD : va_D A ((h0, .inr (12, fs_112)) :: (q_113, .inl (D.1 14, 5, .inl (upd (upd (fun _ => 0) 0 116) 1 111))) :: (q_111, .inl (D.1 14, 5, .inl (upd (upd (upd (upd (upd (fun _ => 0) 0 111) 1 102) 2 116) 3 101) 4 110))) :: (q_109, .inl (D.1 14, 4, .inl (upd (upd (upd (upd (fun _ => 0) 0 108) 1 97) 2 115) 3 116))) :: T) := hD
  refine lv_dup hx hb dX12_init_1146 rfl ?_
  refine lv_iconst (v := 2) hx hb dX12_init_1147 (by decide) ?_
  refine lv_bipush (v := 116) hx hb dX12_init_1148 (by decide) ?_
  refine va_cast hx hb hK hP hD hS 1 1 rfl rfl (z_in (by decide) (by decide)) dX12_init_1150 (fun H locs hP hD hS => ?_)
  have hP : va_P D vwCl ((h0, .inr (12, fs_112)) :: (q_113, .inl (D.1 14, 5, .inl (upd (upd (upd (fun _ => 0) 0 116) 1 111) 2 116))) :: (q_111, .inl (D.1 14, 5, .inl (upd (upd (upd (upd (upd (fun _ => 0) 0 111) 1 102) 2 116) 3 101) 4 110))) :: (q_109, .inl (D.1 14, 4, .inl (upd (upd (upd (upd (fun _ => 0) 0 108) 1 97) 2 115) 3 116))) :: T) H := hP
  have hD : va_D A ((h0, .inr (12, fs_112)) :: (q_113, .inl (D.1 14, 5, .inl (upd (upd (upd (fun _ => 0) 0 116) 1 111) 2 116))) :: (q_111, .inl (D.1 14, 5, .inl (upd (upd (upd (upd (upd (fun _ => 0) 0 111) 1 102) 2 116) 3 101) 4 110))) :: (q_109, .inl (D.1 14, 4, .inl (upd (upd (upd (upd (fun _ => 0) 0 108) 1 97) 2 115) 3 116))) :: T) := hD
  refine lv_dup hx hb dX12_init_1151 rfl ?_
  refine lv_iconst (v := 3) hx hb dX12_init_1152 (by decide) ?_
  refine lv_bipush (v := 97) hx hb dX12_init_1153 (by decide) ?_
  refine va_cast hx hb hK hP hD hS 1 1 rfl rfl (z_in (by decide) (by decide)) dX12_init_1155 (fun H locs hP hD hS => ?_)
  have hP : va_P D vwCl ((h0, .inr (12, fs_112)) :: (q_113, .inl (D.1 14, 5, .inl (upd (upd (upd (upd (fun _ => 0) 0 116) 1 111) 2 116) 3 97))) :: (q_111, .inl (D.1 14, 5, .inl (upd (upd (upd (upd (upd (fun _ => 0) 0 111) 1 102) 2 116) 3 101) 4 110))) :: (q_109, .inl (D.1 14, 4, .inl (upd (upd (upd (upd (fun _ => 0) 0 108) 1 97) 2 115) 3 116))) :: T) H := hP
  have hD : va_D A ((h0, .inr (12, fs_112)) :: (q_113, .inl (D.1 14, 5, .inl (upd (upd (upd (upd (fun _ => 0) 0 116) 1 111) 2 116) 3 97))) :: (q_111, .inl (D.1 14, 5, .inl (upd (upd (upd (upd (upd (fun _ => 0) 0 111) 1 102) 2 116) 3 101) 4 110))) :: (q_109, .inl (D.1 14, 4, .inl (upd (upd (upd (upd (fun _ => 0) 0 108) 1 97) 2 115) 3 116))) :: T) := hD
  refine lv_dup hx hb dX12_init_1156 rfl ?_
  refine lv_iconst (v := 4) hx hb dX12_init_1157 (by decide) ?_
  refine lv_bipush (v := 108) hx hb dX12_init_1158 (by decide) ?_
  refine va_cast hx hb hK hP hD hS 1 1 rfl rfl (z_in (by decide) (by decide)) dX12_init_1160 (fun H locs hP hD hS => ?_)
  have hP : va_P D vwCl ((h0, .inr (12, fs_112)) :: (q_113, .inl (D.1 14, 5, .inl (upd (upd (upd (upd (upd (fun _ => 0) 0 116) 1 111) 2 116) 3 97) 4 108))) :: (q_111, .inl (D.1 14, 5, .inl (upd (upd (upd (upd (upd (fun _ => 0) 0 111) 1 102) 2 116) 3 101) 4 110))) :: (q_109, .inl (D.1 14, 4, .inl (upd (upd (upd (upd (fun _ => 0) 0 108) 1 97) 2 115) 3 116))) :: T) H := hP
  have hD : va_D A ((h0, .inr (12, fs_112)) :: (q_113, .inl (D.1 14, 5, .inl (upd (upd (upd (upd (upd (fun _ => 0) 0 116) 1 111) 2 116) 3 97) 4 108))) :: (q_111, .inl (D.1 14, 5, .inl (upd (upd (upd (upd (upd (fun _ => 0) 0 111) 1 102) 2 116) 3 101) 4 110))) :: (q_109, .inl (D.1 14, 4, .inl (upd (upd (upd (upd (fun _ => 0) 0 108) 1 97) 2 115) 3 116))) :: T) := hD
  refine va_putF (D := D) (ci := 12) (v := .ref q_113) (ty := .array .char) (C := RX12) (T := TX12) (N := 116) hx hb ht inX12 tyX12 tyX12_ok nmX12 hown hK hP hD hS 0 rfl rfl 82 (by decide) (ht (.fieldLink RX12 186 "CloneVolumesModel" "totalAsked" "[C") fl_X12_186) (fun _ h9 => h9) rfl hin rfl (by decide +kernel) rfl rfl (by rw [hlen]; decide) dX12_init_1161 (fun H locs hP hD hS => ?_)
  have hP : va_P D vwCl ((h0, .inr (12, (fs_112.set 82 (.ref q_113)))) :: (q_113, .inl (D.1 14, 5, .inl (upd (upd (upd (upd (upd (fun _ => 0) 0 116) 1 111) 2 116) 3 97) 4 108))) :: (q_111, .inl (D.1 14, 5, .inl (upd (upd (upd (upd (upd (fun _ => 0) 0 111) 1 102) 2 116) 3 101) 4 110))) :: (q_109, .inl (D.1 14, 4, .inl (upd (upd (upd (upd (fun _ => 0) 0 108) 1 97) 2 115) 3 116))) :: T) H := hP
  have hD : va_D A ((h0, .inr (12, (fs_112.set 82 (.ref q_113)))) :: (q_113, .inl (D.1 14, 5, .inl (upd (upd (upd (upd (upd (fun _ => 0) 0 116) 1 111) 2 116) 3 97) 4 108))) :: (q_111, .inl (D.1 14, 5, .inl (upd (upd (upd (upd (upd (fun _ => 0) 0 111) 1 102) 2 116) 3 101) 4 110))) :: (q_109, .inl (D.1 14, 4, .inl (upd (upd (upd (upd (fun _ => 0) 0 108) 1 97) 2 115) 3 116))) :: T) := hD
  generalize hfs_114 : fs_112.set 82 (.ref q_113) = fs_114 at hP hD
  have hlen : fs_114.length = 116 := by rw [← hfs_114, List.length_set]; exact hlen
  have hP : va_P D vwCl ((h0, .inr (12, fs_114)) :: (q_113, .inl (D.1 14, 5, .inl (upd (upd (upd (upd (upd (fun _ => 0) 0 116) 1 111) 2 116) 3 97) 4 108))) :: (q_111, .inl (D.1 14, 5, .inl (upd (upd (upd (upd (upd (fun _ => 0) 0 111) 1 102) 2 116) 3 101) 4 110))) :: (q_109, .inl (D.1 14, 4, .inl (upd (upd (upd (upd (fun _ => 0) 0 108) 1 97) 2 115) 3 116))) :: T) H := hP
  have hD : va_D A ((h0, .inr (12, fs_114)) :: (q_113, .inl (D.1 14, 5, .inl (upd (upd (upd (upd (upd (fun _ => 0) 0 116) 1 111) 2 116) 3 97) 4 108))) :: (q_111, .inl (D.1 14, 5, .inl (upd (upd (upd (upd (upd (fun _ => 0) 0 111) 1 102) 2 116) 3 101) 4 110))) :: (q_109, .inl (D.1 14, 4, .inl (upd (upd (upd (upd (fun _ => 0) 0 108) 1 97) 2 115) 3 116))) :: T) := hD
  exact kk q_113 q_111 q_109 fs_114 _ _ (by rw [← hfs_114, ← hfs_112, ← hfs_110]) hP hD hS
