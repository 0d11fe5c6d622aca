theorem fl_X12_152 : Cond.fieldLink RX12 152 "CloneVolumesModel" "keyRow" "[I" ∈ lw_gd := zm (List.mem_of_getElem? (i := 1602) (by decide +kernel)) rfl
theorem fl_X12_155 : Cond.fieldLink RX12 155 "CloneVolumesModel" "valueRow" "[I" ∈ lw_gd := zm (List.mem_of_getElem? (i := 1603) (by decide +kernel)) rfl
theorem fl_X12_158 : Cond.fieldLink RX12 158 "CloneVolumesModel" "leafRow" "[I" ∈ lw_gd := zm (List.mem_of_getElem? (i := 1604) (by decide +kernel)) rfl
theorem fl_X12_161 : Cond.fieldLink RX12 161 "CloneVolumesModel" "wasInTree" "[Z" ∈ lw_gd := zm (List.mem_of_getElem? (i := 1607) (by decide +kernel)) rfl
theorem fl_X12_164 : Cond.fieldLink RX12 164 "CloneVolumesModel" "lostBy" "[I" ∈ lw_gd := zm (List.mem_of_getElem? (i := 1610) (by decide +kernel)) rfl
theorem fl_X12_167 : Cond.fieldLink RX12 167 "CloneVolumesModel" "rows" "[I" ∈ lw_gd := zm (List.mem_of_getElem? (i := 1612) (by decide +kernel)) rfl
theorem fl_X12_170 : Cond.fieldLink RX12 170 "CloneVolumesModel" "kept0" "[I" ∈ lw_gd := zm (List.mem_of_getElem? (i := 1613) (by decide +kernel)) rfl
theorem fl_X12_173 : Cond.fieldLink RX12 173 "CloneVolumesModel" "seeded" "J" ∈ lw_gd := zm (List.mem_of_getElem? (i := 1616) (by decide +kernel)) rfl
theorem fl_X12_177 : Cond.fieldLink RX12 177 "CloneVolumesModel" "firstAsked" "[C" ∈ lw_gd := zm (List.mem_of_getElem? (i := 1617) (by decide +kernel)) rfl
theorem fl_X12_180 : Cond.fieldLink RX12 180 "CloneVolumesModel" "lastAsked" "[C" ∈ lw_gd := zm (List.mem_of_getElem? (i := 1618) (by decide +kernel)) rfl
theorem fl_X12_183 : Cond.fieldLink RX12 183 "CloneVolumesModel" "oftenAsked" "[C" ∈ lw_gd := zm (List.mem_of_getElem? (i := 1619) (by decide +kernel)) rfl
theorem fl_X12_186 : Cond.fieldLink RX12 186 "CloneVolumesModel" "totalAsked" "[C" ∈ lw_gd := zm (List.mem_of_getElem? (i := 1620) (by decide +kernel)) rfl
theorem fl_X12_189 : Cond.fieldLink RX12 189 "CloneVolumesModel" "mostAsked" "[C" ∈ lw_gd := zm (List.mem_of_getElem? (i := 1621) (by decide +kernel)) rfl
theorem fl_X12_192 : Cond.fieldLink RX12 192 "CloneVolumesModel" "leastAsked" "[C" ∈ lw_gd := zm (List.mem_of_getElem? (i := 1622) (by decide +kernel)) rfl
theorem fl_X12_195 : Cond.fieldLink RX12 195 "CloneVolumesModel" "notAsked" "[C" ∈ lw_gd := zm (List.mem_of_getElem? (i := 1623) (by decide +kernel)) rfl
theorem dX12_init_976 : decode cX12_init 976 = .ok (.aload_n 0, 1) := by decide +kernel
theorem dX12_init_977 : decode cX12_init 977 = .ok (.sipush 300, 3) := by decide +kernel
theorem dX12_init_980 : decode cX12_init 980 = .ok (.newarray .int, 2) := by decide +kernel
theorem dX12_init_982 : decode cX12_init 982 = .ok (.putfield 152, 3) := by decide +kernel
theorem dX12_init_985 : decode cX12_init 985 = .ok (.aload_n 0, 1) := by decide +kernel
theorem dX12_init_986 : decode cX12_init 986 = .ok (.sipush 300, 3) := by decide +kernel
theorem dX12_init_989 : decode cX12_init 989 = .ok (.newarray .int, 2) := by decide +kernel
theorem dX12_init_991 : decode cX12_init 991 = .ok (.putfield 155, 3) := by decide +kernel
theorem dX12_init_994 : decode cX12_init 994 = .ok (.aload_n 0, 1) := by decide +kernel
theorem dX12_init_995 : decode cX12_init 995 = .ok (.sipush 300, 3) := by decide +kernel
theorem dX12_init_998 : decode cX12_init 998 = .ok (.newarray .int, 2) := by decide +kernel
theorem dX12_init_1000 : decode cX12_init 1000 = .ok (.putfield 158, 3) := by decide +kernel
theorem dX12_init_1003 : decode cX12_init 1003 = .ok (.aload_n 0, 1) := by decide +kernel
theorem dX12_init_1004 : decode cX12_init 1004 = .ok (.bipush 48, 2) := by decide +kernel
theorem dX12_init_1006 : decode cX12_init 1006 = .ok (.newarray .boolean, 2) := by decide +kernel
theorem dX12_init_1008 : decode cX12_init 1008 = .ok (.putfield 161, 3) := by decide +kernel
theorem dX12_init_1011 : decode cX12_init 1011 = .ok (.aload_n 0, 1) := by decide +kernel
theorem dX12_init_1012 : decode cX12_init 1012 = .ok (.bipush 48, 2) := by decide +kernel
theorem dX12_init_1014 : decode cX12_init 1014 = .ok (.newarray .int, 2) := by decide +kernel
theorem dX12_init_1016 : decode cX12_init 1016 = .ok (.putfield 164, 3) := by decide +kernel
theorem dX12_init_1019 : decode cX12_init 1019 = .ok (.aload_n 0, 1) := by decide +kernel
theorem dX12_init_1020 : decode cX12_init 1020 = .ok (.bipush 24, 2) := by decide +kernel
theorem dX12_init_1022 : decode cX12_init 1022 = .ok (.newarray .int, 2) := by decide +kernel
theorem dX12_init_1024 : decode cX12_init 1024 = .ok (.putfield 167, 3) := by decide +kernel
theorem dX12_init_1027 : decode cX12_init 1027 = .ok (.aload_n 0, 1) := by decide +kernel
theorem dX12_init_1028 : decode cX12_init 1028 = .ok (.sipush 18120, 3) := by decide +kernel
theorem dX12_init_1031 : decode cX12_init 1031 = .ok (.newarray .int, 2) := by decide +kernel
theorem dX12_init_1033 : decode cX12_init 1033 = .ok (.putfield 170, 3) := by decide +kernel
theorem dX12_init_1036 : decode cX12_init 1036 = .ok (.aload_n 0, 1) := by decide +kernel
theorem dX12_init_1037 : decode cX12_init 1037 = .ok (.lconst 1, 1) := by decide +kernel
theorem dX12_init_1038 : decode cX12_init 1038 = .ok (.putfield 173, 3) := by decide +kernel
theorem dX12_init_1041 : decode cX12_init 1041 = .ok (.aload_n 0, 1) := by decide +kernel
theorem dX12_init_1042 : decode cX12_init 1042 = .ok (.iconst 5, 1) := by decide +kernel
theorem dX12_init_1043 : decode cX12_init 1043 = .ok (.newarray .char, 2) := by decide +kernel
theorem dX12_init_1045 : decode cX12_init 1045 = .ok (.dup, 1) := by decide +kernel
theorem dX12_init_1046 : decode cX12_init 1046 = .ok (.iconst 0, 1) := by decide +kernel
theorem dX12_init_1047 : decode cX12_init 1047 = .ok (.bipush 102, 2) := by decide +kernel
theorem dX12_init_1049 : decode cX12_init 1049 = .ok (.castore, 1) := by decide +kernel
theorem dX12_init_1050 : decode cX12_init 1050 = .ok (.dup, 1) := by decide +kernel
theorem dX12_init_1051 : decode cX12_init 1051 = .ok (.iconst 1, 1) := by decide +kernel
theorem dX12_init_1052 : decode cX12_init 1052 = .ok (.bipush 105, 2) := by decide +kernel
theorem dX12_init_1054 : decode cX12_init 1054 = .ok (.castore, 1) := by decide +kernel
theorem dX12_init_1055 : decode cX12_init 1055 = .ok (.dup, 1) := by decide +kernel
theorem dX12_init_1056 : decode cX12_init 1056 = .ok (.iconst 2, 1) := by decide +kernel
theorem dX12_init_1057 : decode cX12_init 1057 = .ok (.bipush 114, 2) := by decide +kernel
theorem dX12_init_1059 : decode cX12_init 1059 = .ok (.castore, 1) := by decide +kernel
theorem dX12_init_1060 : decode cX12_init 1060 = .ok (.dup, 1) := by decide +kernel
theorem dX12_init_1061 : decode cX12_init 1061 = .ok (.iconst 3, 1) := by decide +kernel
theorem dX12_init_1062 : decode cX12_init 1062 = .ok (.bipush 115, 2) := by decide +kernel
theorem dX12_init_1064 : decode cX12_init 1064 = .ok (.castore, 1) := by decide +kernel
theorem dX12_init_1065 : decode cX12_init 1065 = .ok (.dup, 1) := by decide +kernel
theorem dX12_init_1066 : decode cX12_init 1066 = .ok (.iconst 4, 1) := by decide +kernel
theorem dX12_init_1067 : decode cX12_init 1067 = .ok (.bipush 116, 2) := by decide +kernel
theorem dX12_init_1069 : decode cX12_init 1069 = .ok (.castore, 1) := by decide +kernel
theorem dX12_init_1070 : decode cX12_init 1070 = .ok (.putfield 177, 3) := by decide +kernel
theorem dX12_init_1073 : decode cX12_init 1073 = .ok (.aload_n 0, 1) := by decide +kernel
theorem dX12_init_1074 : decode cX12_init 1074 = .ok (.iconst 4, 1) := by decide +kernel
theorem dX12_init_1075 : decode cX12_init 1075 = .ok (.newarray .char, 2) := by decide +kernel
theorem dX12_init_1077 : decode cX12_init 1077 = .ok (.dup, 1) := by decide +kernel
theorem dX12_init_1078 : decode cX12_init 1078 = .ok (.iconst 0, 1) := by decide +kernel
theorem dX12_init_1079 : decode cX12_init 1079 = .ok (.bipush 108, 2) := by decide +kernel
theorem dX12_init_1081 : decode cX12_init 1081 = .ok (.castore, 1) := by decide +kernel
theorem dX12_init_1082 : decode cX12_init 1082 = .ok (.dup, 1) := by decide +kernel
theorem dX12_init_1083 : decode cX12_init 1083 = .ok (.iconst 1, 1) := by decide +kernel
theorem dX12_init_1084 : decode cX12_init 1084 = .ok (.bipush 97, 2) := by decide +kernel
theorem dX12_init_1086 : decode cX12_init 1086 = .ok (.castore, 1) := by decide +kernel
theorem dX12_init_1087 : decode cX12_init 1087 = .ok (.dup, 1) := by decide +kernel
theorem dX12_init_1088 : decode cX12_init 1088 = .ok (.iconst 2, 1) := by decide +kernel
theorem dX12_init_1089 : decode cX12_init 1089 = .ok (.bipush 115, 2) := by decide +kernel
theorem dX12_init_1091 : decode cX12_init 1091 = .ok (.castore, 1) := by decide +kernel
theorem dX12_init_1092 : decode cX12_init 1092 = .ok (.dup, 1) := by decide +kernel
theorem dX12_init_1093 : decode cX12_init 1093 = .ok (.iconst 3, 1) := by decide +kernel
theorem dX12_init_1094 : decode cX12_init 1094 = .ok (.bipush 116, 2) := by decide +kernel
theorem dX12_init_1096 : decode cX12_init 1096 = .ok (.castore, 1) := by decide +kernel
theorem dX12_init_1097 : decode cX12_init 1097 = .ok (.putfield 180, 3) := by decide +kernel
theorem dX12_init_1100 : decode cX12_init 1100 = .ok (.aload_n 0, 1) := by decide +kernel
theorem dX12_init_1101 : decode cX12_init 1101 = .ok (.iconst 5, 1) := by decide +kernel
theorem dX12_init_1102 : decode cX12_init 1102 = .ok (.newarray .char, 2) := by decide +kernel
theorem dX12_init_1104 : decode cX12_init 1104 = .ok (.dup, 1) := by decide +kernel
theorem dX12_init_1105 : decode cX12_init 1105 = .ok (.iconst 0, 1) := by decide +kernel
theorem dX12_init_1106 : decode cX12_init 1106 = .ok (.bipush 111, 2) := by decide +kernel
theorem dX12_init_1108 : decode cX12_init 1108 = .ok (.castore, 1) := by decide +kernel
theorem dX12_init_1109 : decode cX12_init 1109 = .ok (.dup, 1) := by decide +kernel
theorem dX12_init_1110 : decode cX12_init 1110 = .ok (.iconst 1, 1) := by decide +kernel
theorem dX12_init_1111 : decode cX12_init 1111 = .ok (.bipush 102, 2) := by decide +kernel
theorem dX12_init_1113 : decode cX12_init 1113 = .ok (.castore, 1) := by decide +kernel
theorem dX12_init_1114 : decode cX12_init 1114 = .ok (.dup, 1) := by decide +kernel
theorem dX12_init_1115 : decode cX12_init 1115 = .ok (.iconst 2, 1) := by decide +kernel
theorem dX12_init_1116 : decode cX12_init 1116 = .ok (.bipush 116, 2) := by decide +kernel
theorem dX12_init_1118 : decode cX12_init 1118 = .ok (.castore, 1) := by decide +kernel
theorem dX12_init_1119 : decode cX12_init 1119 = .ok (.dup, 1) := by decide +kernel
theorem dX12_init_1120 : decode cX12_init 1120 = .ok (.iconst 3, 1) := by decide +kernel
theorem dX12_init_1121 : decode cX12_init 1121 = .ok (.bipush 101, 2) := by decide +kernel
theorem dX12_init_1123 : decode cX12_init 1123 = .ok (.castore, 1) := by decide +kernel
theorem dX12_init_1124 : decode cX12_init 1124 = .ok (.dup, 1) := by decide +kernel
theorem dX12_init_1125 : decode cX12_init 1125 = .ok (.iconst 4, 1) := by decide +kernel
theorem dX12_init_1126 : decode cX12_init 1126 = .ok (.bipush 110, 2) := by decide +kernel
theorem dX12_init_1128 : decode cX12_init 1128 = .ok (.castore, 1) := by decide +kernel
theorem dX12_init_1129 : decode cX12_init 1129 = .ok (.putfield 183, 3) := by decide +kernel
theorem dX12_init_1132 : decode cX12_init 1132 = .ok (.aload_n 0, 1) := by decide +kernel
theorem dX12_init_1133 : decode cX12_init 1133 = .ok (.iconst 5, 1) := by decide +kernel
theorem dX12_init_1134 : decode cX12_init 1134 = .ok (.newarray .char, 2) := by decide +kernel
theorem dX12_init_1136 : decode cX12_init 1136 = .ok (.dup, 1) := by decide +kernel
theorem dX12_init_1137 : decode cX12_init 1137 = .ok (.iconst 0, 1) := by decide +kernel
theorem dX12_init_1138 : decode cX12_init 1138 = .ok (.bipush 116, 2) := by decide +kernel
theorem dX12_init_1140 : decode cX12_init 1140 = .ok (.castore, 1) := by decide +kernel
theorem dX12_init_1141 : decode cX12_init 1141 = .ok (.dup, 1) := by decide +kernel
theorem dX12_init_1142 : decode cX12_init 1142 = .ok (.iconst 1, 1) := by decide +kernel
theorem dX12_init_1143 : decode cX12_init 1143 = .ok (.bipush 111, 2) := by decide +kernel
theorem dX12_init_1145 : decode cX12_init 1145 = .ok (.castore, 1) := by decide +kernel
theorem dX12_init_1146 : decode cX12_init 1146 = .ok (.dup, 1) := by decide +kernel
theorem dX12_init_1147 : decode cX12_init 1147 = .ok (.iconst 2, 1) := by decide +kernel
theorem dX12_init_1148 : decode cX12_init 1148 = .ok (.bipush 116, 2) := by decide +kernel
theorem dX12_init_1150 : decode cX12_init 1150 = .ok (.castore, 1) := by decide +kernel
theorem dX12_init_1151 : decode cX12_init 1151 = .ok (.dup, 1) := by decide +kernel
theorem dX12_init_1152 : decode cX12_init 1152 = .ok (.iconst 3, 1) := by decide +kernel
theorem dX12_init_1153 : decode cX12_init 1153 = .ok (.bipush 97, 2) := by decide +kernel
theorem dX12_init_1155 : decode cX12_init 1155 = .ok (.castore, 1) := by decide +kernel
theorem dX12_init_1156 : decode cX12_init 1156 = .ok (.dup, 1) := by decide +kernel
theorem dX12_init_1157 : decode cX12_init 1157 = .ok (.iconst 4, 1) := by decide +kernel
theorem dX12_init_1158 : decode cX12_init 1158 = .ok (.bipush 108, 2) := by decide +kernel
theorem dX12_init_1160 : decode cX12_init 1160 = .ok (.castore, 1) := by decide +kernel
theorem dX12_init_1161 : decode cX12_init 1161 = .ok (.putfield 186, 3) := by decide +kernel
theorem dX12_init_1164 : decode cX12_init 1164 = .ok (.aload_n 0, 1) := by decide +kernel
theorem dX12_init_1165 : decode cX12_init 1165 = .ok (.iconst 4, 1) := by decide +kernel
theorem dX12_init_1166 : decode cX12_init 1166 = .ok (.newarray .char, 2) := by decide +kernel
theorem dX12_init_1168 : decode cX12_init 1168 = .ok (.dup, 1) := by decide +kernel
theorem dX12_init_1169 : decode cX12_init 1169 = .ok (.iconst 0, 1) := by decide +kernel
theorem dX12_init_1170 : decode cX12_init 1170 = .ok (.bipush 109, 2) := by decide +kernel
theorem dX12_init_1172 : decode cX12_init 1172 = .ok (.castore, 1) := by decide +kernel
theorem dX12_init_1173 : decode cX12_init 1173 = .ok (.dup, 1) := by decide +kernel
theorem dX12_init_1174 : decode cX12_init 1174 = .ok (.iconst 1, 1) := by decide +kernel
theorem dX12_init_1175 : decode cX12_init 1175 = .ok (.bipush 111, 2) := by decide +kernel
theorem dX12_init_1177 : decode cX12_init 1177 = .ok (.castore, 1) := by decide +kernel
theorem dX12_init_1178 : decode cX12_init 1178 = .ok (.dup, 1) := by decide +kernel
theorem dX12_init_1179 : decode cX12_init 1179 = .ok (.iconst 2, 1) := by decide +kernel
theorem dX12_init_1180 : decode cX12_init 1180 = .ok (.bipush 115, 2) := by decide +kernel
theorem dX12_init_1182 : decode cX12_init 1182 = .ok (.castore, 1) := by decide +kernel
theorem dX12_init_1183 : decode cX12_init 1183 = .ok (.dup, 1) := by decide +kernel
theorem dX12_init_1184 : decode cX12_init 1184 = .ok (.iconst 3, 1) := by decide +kernel
theorem dX12_init_1185 : decode cX12_init 1185 = .ok (.bipush 116, 2) := by decide +kernel
theorem dX12_init_1187 : decode cX12_init 1187 = .ok (.castore, 1) := by decide +kernel
theorem dX12_init_1188 : decode cX12_init 1188 = .ok (.putfield 189, 3) := by decide +kernel
theorem dX12_init_1191 : decode cX12_init 1191 = .ok (.aload_n 0, 1) := by decide +kernel
theorem dX12_init_1192 : decode cX12_init 1192 = .ok (.iconst 5, 1) := by decide +kernel
theorem dX12_init_1193 : decode cX12_init 1193 = .ok (.newarray .char, 2) := by decide +kernel
theorem dX12_init_1195 : decode cX12_init 1195 = .ok (.dup, 1) := by decide +kernel
theorem dX12_init_1196 : decode cX12_init 1196 = .ok (.iconst 0, 1) := by decide +kernel
theorem dX12_init_1197 : decode cX12_init 1197 = .ok (.bipush 108, 2) := by decide +kernel
theorem dX12_init_1199 : decode cX12_init 1199 = .ok (.castore, 1) := by decide +kernel
theorem dX12_init_1200 : decode cX12_init 1200 = .ok (.dup, 1) := by decide +kernel
theorem dX12_init_1201 : decode cX12_init 1201 = .ok (.iconst 1, 1) := by decide +kernel
theorem dX12_init_1202 : decode cX12_init 1202 = .ok (.bipush 101, 2) := by decide +kernel
theorem dX12_init_1204 : decode cX12_init 1204 = .ok (.castore, 1) := by decide +kernel
theorem dX12_init_1205 : decode cX12_init 1205 = .ok (.dup, 1) := by decide +kernel
theorem dX12_init_1206 : decode cX12_init 1206 = .ok (.iconst 2, 1) := by decide +kernel
theorem dX12_init_1207 : decode cX12_init 1207 = .ok (.bipush 97, 2) := by decide +kernel
theorem dX12_init_1209 : decode cX12_init 1209 = .ok (.castore, 1) := by decide +kernel
theorem dX12_init_1210 : decode cX12_init 1210 = .ok (.dup, 1) := by decide +kernel
theorem dX12_init_1211 : decode cX12_init 1211 = .ok (.iconst 3, 1) := by decide +kernel
theorem dX12_init_1212 : decode cX12_init 1212 = .ok (.bipush 115, 2) := by decide +kernel
theorem dX12_init_1214 : decode cX12_init 1214 = .ok (.castore, 1) := by decide +kernel
theorem dX12_init_1215 : decode cX12_init 1215 = .ok (.dup, 1) := by decide +kernel
theorem dX12_init_1216 : decode cX12_init 1216 = .ok (.iconst 4, 1) := by decide +kernel
theorem dX12_init_1217 : decode cX12_init 1217 = .ok (.bipush 116, 2) := by decide +kernel
theorem dX12_init_1219 : decode cX12_init 1219 = .ok (.castore, 1) := by decide +kernel
theorem dX12_init_1220 : decode cX12_init 1220 = .ok (.putfield 192, 3) := by decide +kernel
theorem dX12_init_1223 : decode cX12_init 1223 = .ok (.aload_n 0, 1) := by decide +kernel
theorem dX12_init_1224 : decode cX12_init 1224 = .ok (.iconst 3, 1) := by decide +kernel
theorem dX12_init_1225 : decode cX12_init 1225 = .ok (.newarray .char, 2) := by decide +kernel
theorem dX12_init_1227 : decode cX12_init 1227 = .ok (.dup, 1) := by decide +kernel
theorem dX12_init_1228 : decode cX12_init 1228 = .ok (.iconst 0, 1) := by decide +kernel
theorem dX12_init_1229 : decode cX12_init 1229 = .ok (.bipush 110, 2) := by decide +kernel
theorem dX12_init_1231 : decode cX12_init 1231 = .ok (.castore, 1) := by decide +kernel
theorem dX12_init_1232 : decode cX12_init 1232 = .ok (.dup, 1) := by decide +kernel
theorem dX12_init_1233 : decode cX12_init 1233 = .ok (.iconst 1, 1) := by decide +kernel
theorem dX12_init_1234 : decode cX12_init 1234 = .ok (.bipush 111, 2) := by decide +kernel
theorem dX12_init_1236 : decode cX12_init 1236 = .ok (.castore, 1) := by decide +kernel
theorem dX12_init_1237 : decode cX12_init 1237 = .ok (.dup, 1) := by decide +kernel
theorem dX12_init_1238 : decode cX12_init 1238 = .ok (.iconst 2, 1) := by decide +kernel
theorem dX12_init_1239 : decode cX12_init 1239 = .ok (.bipush 116, 2) := by decide +kernel
theorem dX12_init_1241 : decode cX12_init 1241 = .ok (.castore, 1) := by decide +kernel
theorem dX12_init_1242 : decode cX12_init 1242 = .ok (.putfield 195, 3) := by decide +kernel
set_option maxHeartbeats 4000000 in
set_option maxRecDepth 100000 in
theorem cM_13 {p : Program} {l : Launch} {e : Env} {R : Room} {s : State} {m : MethodId} {args : Array Value} {below : List Frame} {meth : Method} {c : Code} {Q : State → Prop} {D : va_G} {A : Nat → Prop} {ls : Array Slot} {h0 : Nat} {T : va_W} (hx : p.tables.exec = Jvm.exec) (hb : c.code = cX12_init) (ht : ∀ w ∈ lw_gd, w.before args s = true) (hown : s.vm.findClass RX12 = some m.cls) (hin : meth.name = "<init>") (hK : va_K D vwCl (TY D) s) (hA : ∀ q : Nat, s.heap.size ≤ q → A q) (hRc : 80 ≤ R.cells) (hRs : 35050 ≤ R.slots) (hl : lv_has ls 1 [(0, .ref h0)]) {fs : List Value} (hlen : fs.length = 116) {H : Heap} {locs : List Loc} (hP : va_P D vwCl ((h0, .inr (12, fs)) :: T) H) (hD : va_D A ((h0, .inr (12, fs)) :: T)) (hS : va_S A s.heap H locs)
    (kk : ∀ (q_107 : Nat) (q_104 : Nat) (q_102 : Nat) (q_100 : Nat) (q_98 : Nat) (q_96 : Nat) (q_94 : Nat) (q_92 : Nat) (fs' : List Value) (H : Heap) (locs : List Loc), fs' = (((((((((fs.set 64 (.ref q_92)).set 65 (.ref q_94)).set 66 (.ref q_96)).set 69 (.ref q_98)).set 72 (.ref q_100)).set 74 (.ref q_102)).set 75 (.ref q_104)).set 78 (.long 1)).set 79 (.ref q_107)) → va_P D vwCl ((h0, .inr (12, fs')) :: (q_107, .inl (D.1 14, 5, .inl (fun j => i2 (upZ (upZ (upZ (upZ (upZ (fun _ => 0) 0 102) 1 105) 2 114) 3 115) 4 116 j)))) :: (q_104, .inl (D.1 13, 18120, .inl (fun _ => 0))) :: (q_102, .inl (D.1 13, 24, .inl (fun _ => 0))) :: (q_100, .inl (D.1 13, 48, .inl (fun _ => 0))) :: (q_98, .inl (D.1 16, 48, .inl (fun _ => 0))) :: (q_96, .inl (D.1 13, 300, .inl (fun _ => 0))) :: (q_94, .inl (D.1 13, 300, .inl (fun _ => 0))) :: (q_92, .inl (D.1 13, 300, .inl (fun _ => 0))) :: T) H → va_D A ((h0, .inr (12, fs')) :: (q_107, .inl (D.1 14, 5, .inl (fun j => i2 (upZ (upZ (upZ (upZ (upZ (fun _ => 0) 0 102) 1 105) 2 114) 3 115) 4 116 j)))) :: (q_104, .inl (D.1 13, 18120, .inl (fun _ => 0))) :: (q_102, .inl (D.1 13, 24, .inl (fun _ => 0))) :: (q_100, .inl (D.1 13, 48, .inl (fun _ => 0))) :: (q_98, .inl (D.1 16, 48, .inl (fun _ => 0))) :: (q_96, .inl (D.1 13, 300, .inl (fun _ => 0))) :: (q_94, .inl (D.1 13, 300, .inl (fun _ => 0))) :: (q_92, .inl (D.1 13, 300, .inl (fun _ => 0))) :: T) → va_S A s.heap H locs → W p l e R s m args below meth c H locs 53 27664 Q (F0 m 1073 ls [])) : W p l e R s m args below meth c H locs 45 8519 Q (F0 m 976 ls []) := by
  refine lv_aload_n hx hb dX12_init_976 rfl (lv_at hl 0 rfl) ?_
  refine lv_sipush (v := 300) hx hb dX12_init_977 (by decide) ?_
  refine va_newa (atype := .int) (a0 := (300, .inl (fun _ => 0))) (ty := .int) (N' := 300) hx hb (ht _ ac_int) rfl hK hP hD hS hA (fun _ => rfl) (by decide) (by decide) (by decide) (Nat.le_trans (Nat.le_of_ble_eq_true rfl) hRc) (Nat.le_trans (Nat.le_of_ble_eq_true rfl) hRs) dX12_init_980 (fun q_92 cA H hK2 hP hD hS => ?_)
  obtain rfl := z_cls_int hK hK2
  refine W.widen (k := 46) (n := 8819) (Nat.le_of_ble_eq_true rfl) (Nat.le_of_ble_eq_true rfl) ?_
  obtain ⟨hP, hD⟩ := z_rot hP hD
  have hP : va_P D vwCl ((h0, .inr (12, fs)) :: (q_92, .inl (D.1 13, 300, .inl (fun _ => 0))) :: T) H := hP
  have hD : va_D A ((h0, .inr (12, fs)) :: (q_92, .inl (D.1 13, 300, .inl (fun _ => 0))) :: T) := hD
  refine va_putF (D := D) (ci := 12) (v := .ref q_92) (ty := .array .int) (C := RX12) (T := TX12) (N := 116) hx hb ht inX12 tyX12 tyX12_ok nmX12 hown hK hP hD hS 0 rfl rfl 64 (by decide) (ht (.fieldLink RX12 152 "CloneVolumesModel" "keyRow" "[I") fl_X12_152) (fun _ h9 => h9) rfl hin rfl (by decide +kernel) rfl rfl (by rw [hlen]; decide) dX12_init_982 (fun H locs hP hD hS => ?_)
  have hP : va_P D vwCl ((h0, .inr (12, (fs.set 64 (.ref q_92)))) :: (q_92, .inl (D.1 13, 300, .inl (fun _ => 0))) :: T) H := hP
  have hD : va_D A ((h0, .inr (12, (fs.set 64 (.ref q_92)))) :: (q_92, .inl (D.1 13, 300, .inl (fun _ => 0))) :: T) := hD
  generalize hfs_93 : fs.set 64 (.ref q_92) = fs_93 at hP hD
  have hlen : fs_93.length = 116 := by rw [← hfs_93, List.length_set]; exact hlen
  have hP : va_P D vwCl ((h0, .inr (12, fs_93)) :: (q_92, .inl (D.1 13, 300, .inl (fun _ => 0))) :: T) H := hP
  have hD : va_D A ((h0, .inr (12, fs_93)) :: (q_92, .inl (D.1 13, 300, .inl (fun _ => 0))) :: T) := hD
  refine lv_aload_n hx hb dX12_init_985 rfl (lv_at hl 0 rfl) ?_
  refine lv_sipush (v := 300) hx hb dX12_init_986 (by decide) ?_
  refine va_newa (atype := .int) (a0 := (300, .inl (fun _ => 0))) (ty := .int) (N' := 300) hx hb (ht _ ac_int) rfl hK hP hD hS hA (fun _ => rfl) (by decide) (by decide) (by decide) (Nat.le_trans (Nat.le_of_ble_eq_true rfl) hRc) (Nat.le_trans (Nat.le_of_ble_eq_true rfl) hRs) dX12_init_989 (fun q_94 cA H hK2 hP hD hS => ?_)
  obtain rfl := z_cls_int hK hK2
  refine W.widen (k := 47) (n := 9119) (Nat.le_of_ble_eq_true rfl) (Nat.le_of_ble_eq_true rfl) ?_
  obtain ⟨hP, hD⟩ := z_rot hP hD
  have hP : va_P D vwCl ((h0, .inr (12, fs_93)) :: (q_94, .inl (D.1 13, 300, .inl (fun _ => 0))) :: (q_92, .inl (D.1 13, 300, .inl (fun _ => 0))) :: T) H := hP
  have hD : va_D A ((h0, .inr (12, fs_93)) :: (q_94, .inl (D.1 13, 300, .inl (fun _ => 0))) :: (q_92, .inl (D.1 13, 300, .inl (fun _ => 0))) :: T) := hD
  refine va_putF (D := D) (ci := 12) (v := .ref q_94) (ty := .array .int) (C := RX12) (T := TX12) (N := 116) hx hb ht inX12 tyX12 tyX12_ok nmX12 hown hK hP hD hS 0 rfl rfl 65 (by decide) (ht (.fieldLink RX12 155 "CloneVolumesModel" "valueRow" "[I") fl_X12_155) (fun _ h9 => h9) rfl hin rfl (by decide +kernel) rfl rfl (by rw [hlen]; decide) dX12_init_991 (fun H locs hP hD hS => ?_)
  have hP : va_P D vwCl ((h0, .inr (12, (fs_93.set 65 (.ref q_94)))) :: (q_94, .inl (D.1 13, 300, .inl (fun _ => 0))) :: (q_92, .inl (D.1 13, 300, .inl (fun _ => 0))) :: T) H := hP
  have hD : va_D A ((h0, .inr (12, (fs_93.set 65 (.ref q_94)))) :: (q_94, .inl (D.1 13, 300, .inl (fun _ => 0))) :: (q_92, .inl (D.1 13, 300, .inl (fun _ => 0))) :: T) := hD
  generalize hfs_95 : fs_93.set 65 (.ref q_94) = fs_95 at hP hD
  have hlen : fs_95.length = 116 := by rw [← hfs_95, List.length_set]; exact hlen
  have hP : va_P D vwCl ((h0, .inr (12, fs_95)) :: (q_94, .inl (D.1 13, 300, .inl (fun _ => 0))) :: (q_92, .inl (D.1 13, 300, .inl (fun _ => 0))) :: T) H := hP
  have hD : va_D A ((h0, .inr (12, fs_95)) :: (q_94, .inl (D.1 13, 300, .inl (fun _ => 0))) :: (q_92, .inl (D.1 13, 300, .inl (fun _ => 0))) :: T) := hD
  refine lv_aload_n hx hb dX12_init_994 rfl (lv_at hl 0 rfl) ?_
  refine lv_sipush (v := 300) hx hb dX12_init_995 (by decide) ?_
  refine va_newa (atype := .int) (a0 := (300, .inl (fun _ => 0))) (ty := .int) (N' := 300) hx hb (ht _ ac_int) rfl hK hP hD hS hA (fun _ => rfl) (by decide) (by decide) (by decide) (Nat.le_trans (Nat.le_of_ble_eq_true rfl) hRc) (Nat.le_trans (Nat.le_of_ble_eq_true rfl) hRs) dX12_init_998 (fun q_96 cA H hK2 hP hD hS => ?_)
  obtain rfl := z_cls_int hK hK2
  refine W.widen (k := 48) (n := 9419) (Nat.le_of_ble_eq_true rfl) (Nat.le_of_ble_eq_true rfl) ?_
  obtain ⟨hP, hD⟩ := z_rot hP hD
  have hP : va_P D vwCl ((h0, .inr (12, fs_95)) :: (q_96, .inl (D.1 13, 300, .inl (fun _ => 0))) :: (q_94, .inl (D.1 13, 300, .inl (fun _ => 0))) :: (q_92, .inl (D.1 13, 300, .inl (fun _ => 0))) :: T) H := hP
  have hD : va_D A ((h0, .inr (12, fs_95)) :: (q_96, .inl (D.1 13, 300, .inl (fun _ => 0))) :: (q_94, .inl (D.1 13, 300, .inl (fun _ => 0))) :: (q_92, .inl (D.1 13, 300, .inl (fun _ => 0))) :: T) := hD
  refine va_putF (D := D) (ci := 12) (v := .ref q_96) (ty := .array .int) (C := RX12) (T := TX12) (N := 116) hx hb ht inX12 tyX12 tyX12_ok nmX12 hown hK hP hD hS 0 rfl rfl 66 (by decide) (ht (.fieldLink RX12 158 "CloneVolumesModel" "leafRow" "[I") fl_X12_158) (fun _ h9 => h9) rfl hin rfl (by decide +kernel) rfl rfl (by rw [hlen]; decide) dX12_init_1000 (fun H locs hP hD hS => ?_)
  have hP : va_P D vwCl ((h0, .inr (12, (fs_95.set 66 (.ref q_96)))) :: (q_96, .inl (D.1 13, 300, .inl (fun _ => 0))) :: (q_94, .inl (D.1 13, 300, .inl (fun _ => 0))) :: (q_92, .inl (D.1 13, 300, .inl (fun _ => 0))) :: T) H := hP
  have hD : va_D A ((h0, .inr (12, (fs_95.set 66 (.ref q_96)))) :: (q_96, .inl (D.1 13, 300, .inl (fun _ => 0))) :: (q_94, .inl (D.1 13, 300, .inl (fun _ => 0))) :: (q_92, .inl (D.1 13, 300, .inl (fun _ => 0))) :: T) := hD
  generalize hfs_97 : fs_95.set 66 (.ref q_96) = fs_97 at hP hD
  have hlen : fs_97.length = 116 := by rw [← hfs_97, List.length_set]; exact hlen
  have hP : va_P D vwCl ((h0, .inr (12, fs_97)) :: (q_96, .inl (D.1 13, 300, .inl (fun _ => 0))) :: (q_94, .inl (D.1 13, 300, .inl (fun _ => 0))) :: (q_92, .inl (D.1 13, 300, .inl (fun _ => 0))) :: T) H := hP
  have hD : va_D A ((h0, .inr (12, fs_97)) :: (q_96, .inl (D.1 13, 300, .inl (fun _ => 0))) :: (q_94, .inl (D.1 13, 300, .inl (fun _ => 0))) :: (q_92, .inl (D.1 13, 300, .inl (fun _ => 0))) :: T) := hD
  refine lv_aload_n hx hb dX12_init_1003 rfl (lv_at hl 0 rfl) ?_
  refine lv_bipush (v := 48) hx hb dX12_init_1004 (by decide) ?_
  refine va_newa (atype := .boolean) (a0 := (48, .inl (fun _ => 0))) (ty := .boolean) (N' := 48) hx hb (ht _ ac_boolean) rfl hK hP hD hS hA (fun _ => rfl) (by decide) (by decide) (by decide) (Nat.le_trans (Nat.le_of_ble_eq_true rfl) hRc) (Nat.le_trans (Nat.le_of_ble_eq_true rfl) hRs) dX12_init_1006 (fun q_98 cA H hK2 hP hD hS => ?_)
  obtain rfl := z_cls_boolean hK hK2
  refine W.widen (k := 49) (n := 9467) (Nat.le_of_ble_eq_true rfl) (Nat.le_of_ble_eq_true rfl) ?_
  obtain ⟨hP, hD⟩ := z_rot hP hD
  have hP : va_P D vwCl ((h0, .inr (12, fs_97)) :: (q_98, .inl (D.1 16, 48, .inl (fun _ => 0))) :: (q_96, .inl (D.1 13, 300, .inl (fun _ => 0))) :: (q_94, .inl (D.1 13, 300, .inl (fun _ => 0))) :: (q_92, .inl (D.1 13, 300, .inl (fun _ => 0))) :: T) H := hP
  have hD : va_D A ((h0, .inr (12, fs_97)) :: (q_98, .inl (D.1 16, 48, .inl (fun _ => 0))) :: (q_96, .inl (D.1 13, 300, .inl (fun _ => 0))) :: (q_94, .inl (D.1 13, 300, .inl (fun _ => 0))) :: (q_92, .inl (D.1 13, 300, .inl (fun _ => 0))) :: T) := hD
  refine va_putF (D := D) (ci := 12) (v := .ref q_98) (ty := .array .boolean) (C := RX12) (T := TX12) (N := 116) hx hb ht inX12 tyX12 tyX12_ok nmX12 hown hK hP hD hS 0 rfl rfl 69 (by decide) (ht (.fieldLink RX12 161 "CloneVolumesModel" "wasInTree" "[Z") fl_X12_161) (fun _ h9 => h9) rfl hin rfl (by decide +kernel) rfl rfl (by rw [hlen]; decide) dX12_init_1008 (fun H locs hP hD hS => ?_)
  have hP : va_P D vwCl ((h0, .inr (12, (fs_97.set 69 (.ref q_98)))) :: (q_98, .inl (D.1 16, 48, .inl (fun _ => 0))) :: (q_96, .inl (D.1 13, 300, .inl (fun _ => 0))) :: (q_94, .inl (D.1 13, 300, .inl (fun _ => 0))) :: (q_92, .inl (D.1 13, 300, .inl (fun _ => 0))) :: T) H := hP
  have hD : va_D A ((h0, .inr (12, (fs_97.set 69 (.ref q_98)))) :: (q_98, .inl (D.1 16, 48, .inl (fun _ => 0))) :: (q_96, .inl (D.1 13, 300, .inl (fun _ => 0))) :: (q_94, .inl (D.1 13, 300, .inl (fun _ => 0))) :: (q_92, .inl (D.1 13, 300, .inl (fun _ => 0))) :: T) := hD
  generalize hfs_99 : fs_97.set 69 (.ref q_98) = fs_99 at hP hD
  have hlen : fs_99.length = 116 := by rw [← hfs_99, List.length_set]; exact hlen
  have hP : va_P D vwCl ((h0, .inr (12, fs_99)) :: (q_98, .inl (D.1 16, 48, .inl (fun _ => 0))) :: (q_96, .inl (D.1 13, 300, .inl (fun _ => 0))) :: (q_94, .inl (D.1 13, 300, .inl (fun _ => 0))) :: (q_92, .inl (D.1 13, 300, .inl (fun _ => 0))) :: T) H := hP
  have hD : va_D A ((h0, .inr (12, fs_99)) :: (q_98, .inl (D.1 16, 48, .inl (fun _ => 0))) :: (q_96, .inl (D.1 13, 300, .inl (fun _ => 0))) :: (q_94, .inl (D.1 13, 300, .inl (fun _ => 0))) :: (q_92, .inl (D.1 13, 300, .inl (fun _ => 0))) :: T) := hD
  refine lv_aload_n hx hb dX12_init_1011 rfl (lv_at hl 0 rfl) ?_
  refine lv_bipush (v := 48) hx hb dX12_init_1012 (by decide) ?_
  refine va_newa (atype := .int) (a0 := (48, .inl (fun _ => 0))) (ty := .int) (N' := 48) hx hb (ht _ ac_int) rfl hK hP hD hS hA (fun _ => rfl) (by decide) (by decide) (by decide) (Nat.le_trans (Nat.le_of_ble_eq_true rfl) hRc) (Nat.le_trans (Nat.le_of_ble_eq_true rfl) hRs) dX12_init_1014 (fun q_100 cA H hK2 hP hD hS => ?_)
  obtain rfl := z_cls_int hK hK2
  refine W.widen (k := 50) (n := 9515) (Nat.le_of_ble_eq_true rfl) (Nat.le_of_ble_eq_true rfl) ?_
  obtain ⟨hP, hD⟩ := z_rot hP hD
  have hP : va_P D vwCl ((h0, .inr (12, fs_99)) :: (q_100, .inl (D.1 13, 48, .inl (fun _ => 0))) :: (q_98, .inl (D.1 16, 48, .inl (fun _ => 0))) :: (q_96, .inl (D.1 13, 300, .inl (fun _ => 0))) :: (q_94, .inl (D.1 13, 300, .inl (fun _ => 0))) :: (q_92, .inl (D.1 13, 300, .inl (fun _ => 0))) :: T) H := hP
  have hD : va_D A ((h0, .inr (12, fs_99)) :: (q_100, .inl (D.1 13, 48, .inl (fun _ => 0))) :: (q_98, .inl (D.1 16, 48, .inl (fun _ => 0))) :: (q_96, .inl (D.1 13, 300, .inl (fun _ => 0))) :: (q_94, .inl (D.1 13, 300, .inl (fun _ => 0))) :: (q_92, .inl (D.1 13, 300, .inl (fun _ => 0))) :: T) := hD
  refine va_putF (D := D) (ci := 12) (v := .ref q_100) (ty := .array .int) (C := RX12) (T := TX12) (N := 116) hx hb ht inX12 tyX12 tyX12_ok nmX12 hown hK hP hD hS 0 rfl rfl 72 (by decide) (ht (.fieldLink RX12 164 "CloneVolumesModel" "lostBy" "[I") fl_X12_164) (fun _ h9 => h9) rfl hin rfl (by decide +kernel) rfl rfl (by rw [hlen]; decide) dX12_init_1016 (fun H locs hP hD hS => ?_)
  have hP : va_P D vwCl ((h0, .inr (12, (fs_99.set 72 (.ref q_100)))) :: (q_100, .inl (D.1 13, 48, .inl (fun _ => 0))) :: (q_98, .inl (D.1 16, 48, .inl (fun _ => 0))) :: (q_96, .inl (D.1 13, 300, .inl (fun _ => 0))) :: (q_94, .inl (D.1 13, 300, .inl (fun _ => 0))) :: (q_92, .inl (D.1 13, 300, .inl (fun _ => 0))) :: T) H := hP
  have hD : va_D A ((h0, .inr (12, (fs_99.set 72 (.ref q_100)))) :: (q_100, .inl (D.1 13, 48, .inl (fun _ => 0))) :: (q_98, .inl (D.1 16, 48, .inl (fun _ => 0))) :: (q_96, .inl (D.1 13, 300, .inl (fun _ => 0))) :: (q_94, .inl (D.1 13, 300, .inl (fun _ => 0))) :: (q_92, .inl (D.1 13, 300, .inl (fun _ => 0))) :: T) := hD
  generalize hfs_101 : fs_99.set 72 (.ref q_100) = fs_101 at hP hD
  have hlen : fs_101.length = 116 := by rw [← hfs_101, List.length_set]; exact hlen
  have hP : va_P D vwCl ((h0, .inr (12, fs_101)) :: (q_100, .inl (D.1 13, 48, .inl (fun _ => 0))) :: (q_98, .inl (D.1 16, 48, .inl (fun _ => 0))) :: (q_96, .inl (D.1 13, 300, .inl (fun _ => 0))) :: (q_94, .inl (D.1 13, 300, .inl (fun _ => 0))) :: (q_92, .inl (D.1 13, 300, .inl (fun _ => 0))) :: T) H := hP
  have hD : va_D A ((h0, .inr (12, fs_101)) :: (q_100, .inl (D.1 13, 48, .inl (fun _ => 0))) :: (q_98, .inl (D.1 16, 48, .inl (fun _ => 0))) :: (q_96, .inl (D.1 13, 300, .inl (fun _ => 0))) :: (q_94, .inl (D.1 13, 300, .inl (fun _ => 0))) :: (q_92, .inl (D.1 13, 300, .inl (fun _ => 0))) :: T) := hD
  refine lv_aload_n hx hb dX12_init_1019 rfl (lv_at hl 0 rfl) ?_
  refine lv_bipush (v := 24) hx hb dX12_init_1020 (by decide) ?_
  refine va_newa (atype := .int) (a0 := (24, .inl (fun _ => 0))) (ty := .int) (N' := 24) hx hb (ht _ ac_int) rfl hK hP hD hS hA (fun _ => rfl) (by decide) (by decide) (by decide) (Nat.le_trans (Nat.le_of_ble_eq_true rfl) hRc) (Nat.le_trans (Nat.le_of_ble_eq_true rfl) hRs) dX12_init_1022 (fun q_102 cA H hK2 hP hD hS => ?_)
  obtain rfl := z_cls_int hK hK2
  refine W.widen (k := 51) (n := 9539) (Nat.le_of_ble_eq_true rfl) (Nat.le_of_ble_eq_true rfl) ?_
  obtain ⟨hP, hD⟩ := z_rot hP hD
  have hP : va_P D vwCl ((h0, .inr (12, fs_101)) :: (q_102, .inl (D.1 13, 24, .inl (fun _ => 0))) :: (q_100, .inl (D.1 13, 48, .inl (fun _ => 0))) :: (q_98, .inl (D.1 16, 48, .inl (fun _ => 0))) :: (q_96, .inl (D.1 13, 300, .inl (fun _ => 0))) :: (q_94, .inl (D.1 13, 300, .inl (fun _ => 0))) :: (q_92, .inl (D.1 13, 300, .inl (fun _ => 0))) :: T) H := hP
  have hD : va_D A ((h0, .inr (12, fs_101)) :: (q_102, .inl (D.1 13, 24, .inl (fun _ => 0))) :: (q_100, .inl (D.1 13, 48, .inl (fun _ => 0))) :: (q_98, .inl (D.1 16, 48, .inl (fun _ => 0))) :: (q_96, .inl (D.1 13, 300, .inl (fun _ => 0))) :: (q_94, .inl (D.1 13, 300, .inl (fun _ => 0))) :: (q_92, .inl (D.1 13, 300, .inl (fun _ => 0))) :: T) := hD
  refine va_putF (D := D) (ci := 12) (v := .ref q_102) (ty := .array .int) (C := RX12) (T := TX12) (N := 116) hx hb ht inX12 tyX12 tyX12_ok nmX12 hown hK hP hD hS 0 rfl rfl 74 (by decide) (ht (.fieldLink RX12 167 "CloneVolumesModel" "rows" "[I") fl_X12_167) (fun _ h9 => h9) rfl hin rfl (by decide +kernel) rfl rfl (by rw [hlen]; decide) dX12_init_1024 (fun H locs hP hD hS => ?_)
  have hP : va_P D vwCl ((h0, .inr (12, (fs_101.set 74 (.ref q_102)))) :: (q_102, .inl (D.1 13, 24, .inl (fun _ => 0))) :: (q_100, .inl (D.1 13, 48, .inl (fun _ => 0))) :: (q_98, .inl (D.1 16, 48, .inl (fun _ => 0))) :: (q_96, .inl (D.1 13, 300, .inl (fun _ => 0))) :: (q_94, .inl (D.1 13, 300, .inl (fun _ => 0))) :: (q_92, .inl (D.1 13, 300, .inl (fun _ => 0))) :: T) H := hP
  have hD : va_D A ((h0, .inr (12, (fs_101.set 74 (.ref q_102)))) :: (q_102, .inl (D.1 13, 24, .inl (fun _ => 0))) :: (q_100, .inl (D.1 13, 48, .inl (fun _ => 0))) :: (q_98, .inl (D.1 16, 48, .inl (fun _ => 0))) :: (q_96, .inl (D.1 13, 300, .inl (fun _ => 0))) :: (q_94, .inl (D.1 13, 300, .inl (fun _ => 0))) :: (q_92, .inl (D.1 13, 300, .inl (fun _ => 0))) :: T) := hD
  generalize hfs_103 : fs_101.set 74 (.ref q_102) = fs_103 at hP hD
  have hlen : fs_103.length = 116 := by rw [← hfs_103, List.length_set]; exact hlen
  have hP : va_P D vwCl ((h0, .inr (12, fs_103)) :: (q_102, .inl (D.1 13, 24, .inl (fun _ => 0))) :: (q_100, .inl (D.1 13, 48, .inl (fun _ => 0))) :: (q_98, .inl (D.1 16, 48, .inl (fun _ => 0))) :: (q_96, .inl (D.1 13, 300, .inl (fun _ => 0))) :: (q_94, .inl (D.1 13, 300, .inl (fun _ => 0))) :: (q_92, .inl (D.1 13, 300, .inl (fun _ => 0))) :: T) H := hP
  have hD : va_D A ((h0, .inr (12, fs_103)) :: (q_102, .inl (D.1 13, 24, .inl (fun _ => 0))) :: (q_100, .inl (D.1 13, 48, .inl (fun _ => 0))) :: (q_98, .inl (D.1 16, 48, .inl (fun _ => 0))) :: (q_96, .inl (D.1 13, 300, .inl (fun _ => 0))) :: (q_94, .inl (D.1 13, 300, .inl (fun _ => 0))) :: (q_92, .inl (D.1 13, 300, .inl (fun _ => 0))) :: T) := hD
  refine lv_aload_n hx hb dX12_init_1027 rfl (lv_at hl 0 rfl) ?_
  refine lv_sipush (v := 18120) hx hb dX12_init_1028 (by decide) ?_
  refine va_newa (atype := .int) (a0 := (18120, .inl (fun _ => 0))) (ty := .int) (N' := 18120) hx hb (ht _ ac_int) rfl hK hP hD hS hA (fun _ => rfl) (by decide) (by decide) (by decide) (Nat.le_trans (Nat.le_of_ble_eq_true rfl) hRc) (Nat.le_trans (Nat.le_of_ble_eq_true rfl) hRs) dX12_init_1031 (fun q_104 cA H hK2 hP hD hS => ?_)
  obtain rfl := z_cls_int hK hK2
  refine W.widen (k := 52) (n := 27659) (Nat.le_of_ble_eq_true rfl) (Nat.le_of_ble_eq_true rfl) ?_
  obtain ⟨hP, hD⟩ := z_rot hP hD
  have hP : va_P D vwCl ((h0, .inr (12, fs_103)) :: (q_104, .inl (D.1 13, 18120, .inl (fun _ => 0))) :: (q_102, .inl (D.1 13, 24, .inl (fun _ => 0))) :: (q_100, .inl (D.1 13, 48, .inl (fun _ => 0))) :: (q_98, .inl (D.1 16, 48, .inl (fun _ => 0))) :: (q_96, .inl (D.1 13, 300, .inl (fun _ => 0))) :: (q_94, .inl (D.1 13, 300, .inl (fun _ => 0))) :: (q_92, .inl (D.1 13, 300, .inl (fun _ => 0))) :: T) H := hP
  have hD : va_D A ((h0, .inr (12, fs_103)) :: (q_104, .inl (D.1 13, 18120, .inl (fun _ => 0))) :: (q_102, .inl (D.1 13, 24, .inl (fun _ => 0))) :: (q_100, .inl (D.1 13, 48, .inl (fun _ => 0))) :: (q_98, .inl (D.1 16, 48, .inl (fun _ => 0))) :: (q_96, .inl (D.1 13, 300, .inl (fun _ => 0))) :: (q_94, .inl (D.1 13, 300, .inl (fun _ => 0))) :: (q_92, .inl (D.1 13, 300, .inl (fun _ => 0))) :: T) := hD
  refine va_putF (D := D) (ci := 12) (v := .ref q_104) (ty := .array .int) (C := RX12) (T := TX12) (N := 116) hx hb ht inX12 tyX12 tyX12_ok nmX12 hown hK hP hD hS 0 rfl rfl 75 (by decide) (ht (.fieldLink RX12 170 "CloneVolumesModel" "kept0" "[I") fl_X12_170) (fun _ h9 => h9) rfl hin rfl (by decide +kernel) rfl rfl (by rw [hlen]; decide) dX12_init_1033 (fun H locs hP hD hS => ?_)
  have hP : va_P D vwCl ((h0, .inr (12, (fs_103.set 75 (.ref q_104)))) :: (q_104, .inl (D.1 13, 18120, .inl (fun _ => 0))) :: (q_102, .inl (D.1 13, 24, .inl (fun _ => 0))) :: (q_100, .inl (D.1 13, 48, .inl (fun _ => 0))) :: (q_98, .inl (D.1 16, 48, .inl (fun _ => 0))) :: (q_96, .inl (D.1 13, 300, .inl (fun _ => 0))) :: (q_94, .inl (D.1 13, 300, .inl (fun _ => 0))) :: (q_92, .inl (D.1 13, 300, .inl (fun _ => 0))) :: T) H := hP
  have hD : va_D A ((h0, .inr (12, (fs_103.set 75 (.ref q_104)))) :: (q_104, .inl (D.1 13, 18120, .inl (fun _ => 0))) :: (q_102, .inl (D.1 13, 24, .inl (fun _ => 0))) :: (q_100, .inl (D.1 13, 48, .inl (fun _ => 0))) :: (q_98, .inl (D.1 16, 48, .inl (fun _ => 0))) :: (q_96, .inl (D.1 13, 300, .inl (fun _ => 0))) :: (q_94, .inl (D.1 13, 300, .inl (fun _ => 0))) :: (q_92, .inl (D.1 13, 300, .inl (fun _ => 0))) :: T) := hD
  generalize hfs_105 : fs_103.set 75 (.ref q_104) = fs_105 at hP hD
  have hlen : fs_105.length = 116 := by rw [← hfs_105, List.length_set]; exact hlen
  have hP : va_P D vwCl ((h0, .inr (12, fs_105)) :: (q_104, .inl (D.1 13, 18120, .inl (fun _ => 0))) :: (q_102, .inl (D.1 13, 24, .inl (fun _ => 0))) :: (q_100, .inl (D.1 13, 48, .inl (fun _ => 0))) :: (q_98, .inl (D.1 16, 48, .inl (fun _ => 0))) :: (q_96, .inl (D.1 13, 300, .inl (fun _ => 0))) :: (q_94, .inl (D.1 13, 300, .inl (fun _ => 0))) :: (q_92, .inl (D.1 13, 300, .inl (fun _ => 0))) :: T) H := hP
  have hD : va_D A ((h0, .inr (12, fs_105)) :: (q_104, .inl (D.1 13, 18120, .inl (fun _ => 0))) :: (q_102, .inl (D.1 13, 24, .inl (fun _ => 0))) :: (q_100, .inl (D.1 13, 48, .inl (fun _ => 0))) :: (q_98, .inl (D.1 16, 48, .inl (fun _ => 0))) :: (q_96, .inl (D.1 13, 300, .inl (fun _ => 0))) :: (q_94, .inl (D.1 13, 300, .inl (fun _ => 0))) :: (q_92, .inl (D.1 13, 300, .inl (fun _ => 0))) :: T) := hD
  refine lv_aload_n hx hb dX12_init_1036 rfl (lv_at hl 0 rfl) ?_
  refine lv_lconst (v := 1) hx hb dX12_init_1037 (by decide) ?_
  refine va_put (D := D) (ci := 12) (v := .long 1) (ty := .long) (C := RX12) (T := TX12) (N := 116) hx hb ht inX12 tyX12 tyX12_ok nmX12 hown hK hP hD hS 0 rfl rfl 78 (by decide) (ht (.fieldLink RX12 173 "CloneVolumesModel" "seeded" "J") fl_X12_173) (fun _ h9 => h9) rfl (by decide +kernel) rfl rfl (by rw [hlen]; decide) dX12_init_1038 (fun H locs hP hD hS => ?_)
  have hP : va_P D vwCl ((h0, .inr (12, (fs_105.set 78 (.long 1)))) :: (q_104, .inl (D.1 13, 18120, .inl (fun _ => 0))) :: (q_102, .inl (D.1 13, 24, .inl (fun _ => 0))) :: (q_100, .inl (D.1 13, 48, .inl (fun _ => 0))) :: (q_98, .inl (D.1 16, 48, .inl (fun _ => 0))) :: (q_96, .inl (D.1 13, 300, .inl (fun _ => 0))) :: (q_94, .inl (D.1 13, 300, .inl (fun _ => 0))) :: (q_92, .inl (D.1 13, 300, .inl (fun _ => 0))) :: T) H := hP
  have hD : va_D A ((h0, .inr (12, (fs_105.set 78 (.long 1)))) :: (q_104, .inl (D.1 13, 18120, .inl (fun _ => 0))) :: (q_102, .inl (D.1 13, 24, .inl (fun _ => 0))) :: (q_100, .inl (D.1 13, 48, .inl (fun _ => 0))) :: (q_98, .inl (D.1 16, 48, .inl (fun _ => 0))) :: (q_96, .inl (D.1 13, 300, .inl (fun _ => 0))) :: (q_94, .inl (D.1 13, 300, .inl (fun _ => 0))) :: (q_92, .inl (D.1 13, 300, .inl (fun _ => 0))) :: T) := hD
  generalize hfs_106 : fs_105.set 78 (.long 1) = fs_106 at hP hD
  have hlen : fs_106.length = 116 := by rw [← hfs_106, List.length_set]; exact hlen
  have hP : va_P D vwCl ((h0, .inr (12, fs_106)) :: (q_104, .inl (D.1 13, 18120, .inl (fun _ => 0))) :: (q_102, .inl (D.1 13, 24, .inl (fun _ => 0))) :: (q_100, .inl (D.1 13, 48, .inl (fun _ => 0))) :: (q_98, .inl (D.1 16, 48, .inl (fun _ => 0))) :: (q_96, .inl (D.1 13, 300, .inl (fun _ => 0))) :: (q_94, .inl (D.1 13, 300, .inl (fun _ => 0))) :: (q_92, .inl (D.1 13, 300, .inl (fun _ => 0))) :: T) H := hP
  have hD : va_D A ((h0, .inr (12, fs_106)) :: (q_104, .inl (D.1 13, 18120, .inl (fun _ => 0))) :: (q_102, .inl (D.1 13, 24, .inl (fun _ => 0))) :: (q_100, .inl (D.1 13, 48, .inl (fun _ => 0))) :: (q_98, .inl (D.1 16, 48, .inl (fun _ => 0))) :: (q_96, .inl (D.1 13, 300, .inl (fun _ => 0))) :: (q_94, .inl (D.1 13, 300, .inl (fun _ => 0))) :: (q_92, .inl (D.1 13, 300, .inl (fun _ => 0))) :: T) := hD
  refine lv_aload_n hx hb dX12_init_1041 rfl (lv_at hl 0 rfl) ?_
  refine lv_iconst (v := 5) hx hb dX12_init_1042 (by decide) ?_
  refine va_newa (atype := .char) (a0 := (5, .inl (fun _ => 0))) (ty := .char) (N' := 5) hx hb (ht _ ac_char) rfl hK hP hD hS hA (fun _ => rfl) (by decide) (by decide) (by decide) (Nat.le_trans (Nat.le_of_ble_eq_true rfl) hRc) (Nat.le_trans (Nat.le_of_ble_eq_true rfl) hRs) dX12_init_1043 (fun q_107 cA H hK2 hP hD hS => ?_)
  obtain rfl := z_cls_char hK hK2
  refine W.widen (k := 53) (n := 27664) (Nat.le_of_ble_eq_true rfl) (Nat.le_of_ble_eq_true rfl) ?_
  obtain ⟨hP, hD⟩ := z_rot hP hD
  have hP : va_P D vwCl ((h0, .inr (12, fs_106)) :: (q_107, .inl (D.1 14, 5, .inl (fun _ => i2 0))) :: (q_104, .inl (D.1 13, 18120, .inl (fun _ => 0))) :: (q_102, .inl (D.1 13, 24, .inl (fun _ => 0))) :: (q_100, .inl (D.1 13, 48, .inl (fun _ => 0))) :: (q_98, .inl (D.1 16, 48, .inl (fun _ => 0))) :: (q_96, .inl (D.1 13, 300, .inl (fun _ => 0))) :: (q_94, .inl (D.1 13, 300, .inl (fun _ => 0))) :: (q_92, .inl (D.1 13, 300, .inl (fun _ => 0))) :: T) H := hP
  have hD : va_D A ((h0, .inr (12, fs_106)) :: (q_107, .inl (D.1 14, 5, .inl (fun _ => i2 0))) :: (q_104, .inl (D.1 13, 18120, .inl (fun _ => 0))) :: (q_102, .inl (D.1 13, 24, .inl (fun _ => 0))) :: (q_100, .inl (D.1 13, 48, .inl (fun _ => 0))) :: (q_98, .inl (D.1 16, 48, .inl (fun _ => 0))) :: (q_96, .inl (D.1 13, 300, .inl (fun _ => 0))) :: (q_94, .inl (D.1 13, 300, .inl (fun _ => 0))) :: (q_92, .inl (D.1 13, 300, .inl (fun _ => 0))) :: T) := hD
  refine lv_dup hx hb dX12_init_1045 rfl ?_
  refine lv_iconst (v := 0) hx hb dX12_init_1046 (by decide) ?_
  refine lv_bipush (v := 102) hx hb dX12_init_1047 (by decide) ?_
  refine va_cast hx hb hK hP hD hS 1 1 rfl rfl (z_in (by decide) (by decide)) dX12_init_1049 (fun H locs hP hD hS => ?_)
  rw [c_i2 (F := fun _ => 0) (k := Int32.toNatClampNeg 0) (c := vp_nar .char 102) (v := 102) (by decide)] at hP hD
  have hP : va_P D vwCl ((h0, .inr (12, fs_106)) :: (q_107, .inl (D.1 14, 5, .inl (fun j => i2 (upZ (fun _ => 0) 0 102 j)))) :: (q_104, .inl (D.1 13, 18120, .inl (fun _ => 0))) :: (q_102, .inl (D.1 13, 24, .inl (fun _ => 0))) :: (q_100, .inl (D.1 13, 48, .inl (fun _ => 0))) :: (q_98, .inl (D.1 16, 48, .inl (fun _ => 0))) :: (q_96, .inl (D.1 13, 300, .inl (fun _ => 0))) :: (q_94, .inl (D.1 13, 300, .inl (fun _ => 0))) :: (q_92, .inl (D.1 13, 300, .inl (fun _ => 0))) :: T) H := hP
  have hD : va_D A ((h0, .inr (12, fs_106)) :: (q_107, .inl (D.1 14, 5, .inl (fun j => i2 (upZ (fun _ => 0) 0 102 j)))) :: (q_104, .inl (D.1 13, 18120, .inl (fun _ => 0))) :: (q_102, .inl (D.1 13, 24, .inl (fun _ => 0))) :: (q_100, .inl (D.1 13, 48, .inl (fun _ => 0))) :: (q_98, .inl (D.1 16, 48, .inl (fun _ => 0))) :: (q_96, .inl (D.1 13, 300, .inl (fun _ => 0))) :: (q_94, .inl (D.1 13, 300, .inl (fun _ => 0))) :: (q_92, .inl (D.1 13, 300, .inl (fun _ => 0))) :: T) := hD
  refine lv_dup hx hb dX12_init_1050 rfl ?_
  refine lv_iconst (v := 1) hx hb dX12_init_1051 (by decide) ?_
  refine lv_bipush (v := 105) hx hb dX12_init_1052 (by decide) ?_
  refine va_cast hx hb hK hP hD hS 1 1 rfl rfl (z_in (by decide) (by decide)) dX12_init_1054 (fun H locs hP hD hS => ?_)
  rw [c_i2 (F := upZ (fun _ => 0) 0 102) (k := Int32.toNatClampNeg 1) (c := vp_nar .char 105) (v := 105) (by decide)] at hP hD
  have hP : va_P D vwCl ((h0, .inr (12, fs_106)) :: (q_107, .inl (D.1 14, 5, .inl (fun j => i2 (upZ (upZ (fun _ => 0) 0 102) 1 105 j)))) :: (q_104, .inl (D.1 13, 18120, .inl (fun _ => 0))) :: (q_102, .inl (D.1 13, 24, .inl (fun _ => 0))) :: (q_100, .inl (D.1 13, 48, .inl (fun _ => 0))) :: (q_98, .inl (D.1 16, 48, .inl (fun _ => 0))) :: (q_96, .inl (D.1 13, 300, .inl (fun _ => 0))) :: (q_94, .inl (D.1 13, 300, .inl (fun _ => 0))) :: (q_92, .inl (D.1 13, 300, .inl (fun _ => 0))) :: T) H := hP
  have hD : va_D A ((h0, .inr (12, fs_106)) :: (q_107, .inl (D.1 14, 5, .inl (fun j => i2 (upZ (upZ (fun _ => 0) 0 102) 1 105 j)))) :: (q_104, .inl (D.1 13, 18120, .inl (fun _ => 0))) :: (q_102, .inl (D.1 13, 24, .inl (fun _ => 0))) :: (q_100, .inl (D.1 13, 48, .inl (fun _ => 0))) :: (q_98, .inl (D.1 16, 48, .inl (fun _ => 0))) :: (q_96, .inl (D.1 13, 300, .inl (fun _ => 0))) :: (q_94, .inl (D.1 13, 300, .inl (fun _ => 0))) :: (q_92, .inl (D.1 13, 300, .inl (fun _ => 0))) :: T) := hD
  refine lv_dup hx hb dX12_init_1055 rfl ?_
  refine lv_iconst (v := 2) hx hb dX12_init_1056 (by decide) ?_
  refine lv_bipush (v := 114) hx hb dX12_init_1057 (by decide) ?_
  refine va_cast hx hb hK hP hD hS 1 1 rfl rfl (z_in (by decide) (by decide)) dX12_init_1059 (fun H locs hP hD hS => ?_)
  rw [c_i2 (F := upZ (upZ (fun _ => 0) 0 102) 1 105) (k := Int32.toNatClampNeg 2) (c := vp_nar .char 114) (v := 114) (by decide)] at hP hD
  have hP : va_P D vwCl ((h0, .inr (12, fs_106)) :: (q_107, .inl (D.1 14, 5, .inl (fun j => i2 (upZ (upZ (upZ (fun _ => 0) 0 102) 1 105) 2 114 j)))) :: (q_104, .inl (D.1 13, 18120, .inl (fun _ => 0))) :: (q_102, .inl (D.1 13, 24, .inl (fun _ => 0))) :: (q_100, .inl (D.1 13, 48, .inl (fun _ => 0))) :: (q_98, .inl (D.1 16, 48, .inl (fun _ => 0))) :: (q_96, .inl (D.1 13, 300, .inl (fun _ => 0))) :: (q_94, .inl (D.1 13, 300, .inl (fun _ => 0))) :: (q_92, .inl (D.1 13, 300, .inl (fun _ => 0))) :: T) H := hP
  have hD : va_D A ((h0, .inr (12, fs_106)) :: (q_107, .inl (D.1 14, 5, .inl (fun j => i2 (upZ (upZ (upZ (fun _ => 0) 0 102) 1 105) 2 114 j)))) :: (q_104, .inl (D.1 13, 18120, .inl (fun _ => 0))) :: (q_102, .inl (D.1 13, 24, .inl (fun _ => 0))) :: (q_100, .inl (D.1 13, 48, .inl (fun _ => 0))) :: (q_98, .inl (D.1 16, 48, .inl (fun _ => 0))) :: (q_96, .inl (D.1 13, 300, .inl (fun _ => 0))) :: (q_94, .inl (D.1 13, 300, .inl (fun _ => 0))) :: (q_92, .inl (D.1 13, 300, .inl (fun _ => 0))) :: T) := hD
  refine lv_dup hx hb dX12_init_1060 rfl ?_
  refine lv_iconst (v := 3) hx hb dX12_init_1061 (by decide) ?_
  refine lv_bipush (v := 115) hx hb dX12_init_1062 (by decide) ?_
  refine va_cast hx hb hK hP hD hS 1 1 rfl rfl (z_in (by decide) (by decide)) dX12_init_1064 (fun H locs hP hD hS => ?_)
  rw [c_i2 (F := upZ (upZ (upZ (fun _ => 0) 0 102) 1 105) 2 114) (k := Int32.toNatClampNeg 3) (c := vp_nar .char 115) (v := 115) (by decide)] at hP hD
  have hP : va_P D vwCl ((h0, .inr (12, fs_106)) :: (q_107, .inl (D.1 14, 5, .inl (fun j => i2 (upZ (upZ (upZ (upZ (fun _ => 0) 0 102) 1 105) 2 114) 3 115 j)))) :: (q_104, .inl (D.1 13, 18120, .inl (fun _ => 0))) :: (q_102, .inl (D.1 13, 24, .inl (fun _ => 0))) :: (q_100, .inl (D.1 13, 48, .inl (fun _ => 0))) :: (q_98, .inl (D.1 16, 48, .inl (fun _ => 0))) :: (q_96, .inl (D.1 13, 300, .inl (fun _ => 0))) :: (q_94, .inl (D.1 13, 300, .inl (fun _ => 0))) :: (q_92, .inl (D.1 13, 300, .inl (fun _ => 0))) :: T) H := hP
  have hD : va_D A ((h0, .inr (12, fs_106)) :: (q_107, .inl (D.1 14, 5, .inl (fun j => i2 (upZ (upZ (upZ (upZ (fun _ => 0) 0 102) 1 105) 2 114) 3 115 j)))) :: (q_104, .inl (D.1 13, 18120, .inl (fun _ => 0))) :: (q_102, .inl (D.1 13, 24, .inl (fun _ => 0))) :: (q_100, .inl (D.1 13, 48, .inl (fun _ => 0))) :: (q_98, .inl (D.1 16, 48, .inl (fun _ => 0))) :: (q_96, .inl (D.1 13, 300, .inl (fun _ => 0))) :: (q_94, .inl (D.1 13, 300, .inl (fun _ => 0))) :: (q_92, .inl (D.1 13, 300, .inl (fun _ => 0))) :: T) := hD
  refine lv_dup hx hb dX12_init_1065 rfl ?_
  refine lv_iconst (v := 4) hx hb dX12_init_1066 (by decide) ?_
  refine lv_bipush (v := 116) hx hb dX12_init_1067 (by decide) ?_
  refine va_cast hx hb hK hP hD hS 1 1 rfl rfl (z_in (by decide) (by decide)) dX12_init_1069 (fun H locs hP hD hS => ?_)
  rw [c_i2 (F := upZ (upZ (upZ (upZ (fun _ => 0) 0 102) 1 105) 2 114) 3 115) (k := Int32.toNatClampNeg 4) (c := vp_nar .char 116) (v := 116) (by decide)] at hP hD
  have hP : va_P D vwCl ((h0, .inr (12, fs_106)) :: (q_107, .inl (D.1 14, 5, .inl (fun j => i2 (upZ (upZ (upZ (upZ (upZ (fun _ => 0) 0 102) 1 105) 2 114) 3 115) 4 116 j)))) :: (q_104, .inl (D.1 13, 18120, .inl (fun _ => 0))) :: (q_102, .inl (D.1 13, 24, .inl (fun _ => 0))) :: (q_100, .inl (D.1 13, 48, .inl (fun _ => 0))) :: (q_98, .inl (D.1 16, 48, .inl (fun _ => 0))) :: (q_96, .inl (D.1 13, 300, .inl (fun _ => 0))) :: (q_94, .inl (D.1 13, 300, .inl (fun _ => 0))) :: (q_92, .inl (D.1 13, 300, .inl (fun _ => 0))) :: T) H := hP
  have hD : va_D A ((h0, .inr (12, fs_106)) :: (q_107, .inl (D.1 14, 5, .inl (fun j => i2 (upZ (upZ (upZ (upZ (upZ (fun _ => 0) 0 102) 1 105) 2 114) 3 115) 4 116 j)))) :: (q_104, .inl (D.1 13, 18120, .inl (fun _ => 0))) :: (q_102, .inl (D.1 13, 24, .inl (fun _ => 0))) :: (q_100, .inl (D.1 13, 48, .inl (fun _ => 0))) :: (q_98, .inl (D.1 16, 48, .inl (fun _ => 0))) :: (q_96, .inl (D.1 13, 300, .inl (fun _ => 0))) :: (q_94, .inl (D.1 13, 300, .inl (fun _ => 0))) :: (q_92, .inl (D.1 13, 300, .inl (fun _ => 0))) :: T) := hD
  refine va_putF (D := D) (ci := 12) (v := .ref q_107) (ty := .array .char) (C := RX12) (T := TX12) (N := 116) hx hb ht inX12 tyX12 tyX12_ok nmX12 hown hK hP hD hS 0 rfl rfl 79 (by decide) (ht (.fieldLink RX12 177 "CloneVolumesModel" "firstAsked" "[C") fl_X12_177) (fun _ h9 => h9) rfl hin rfl (by decide +kernel) rfl rfl (by rw [hlen]; decide) dX12_init_1070 (fun H locs hP hD hS => ?_)
  have hP : va_P D vwCl ((h0, .inr (12, (fs_106.set 79 (.ref q_107)))) :: (q_107, .inl (D.1 14, 5, .inl (fun j => i2 (upZ (upZ (upZ (upZ (upZ (fun _ => 0) 0 102) 1 105) 2 114) 3 115) 4 116 j)))) :: (q_104, .inl (D.1 13, 18120, .inl (fun _ => 0))) :: (q_102, .inl (D.1 13, 24, .inl (fun _ => 0))) :: (q_100, .inl (D.1 13, 48, .inl (fun _ => 0))) :: (q_98, .inl (D.1 16, 48, .inl (fun _ => 0))) :: (q_96, .inl (D.1 13, 300, .inl (fun _ => 0))) :: (q_94, .inl (D.1 13, 300, .inl (fun _ => 0))) :: (q_92, .inl (D.1 13, 300, .inl (fun _ => 0))) :: T) H := hP
  have hD : va_D A ((h0, .inr (12, (fs_106.set 79 (.ref q_107)))) :: (q_107, .inl (D.1 14, 5, .inl (fun j => i2 (upZ (upZ (upZ (upZ (upZ (fun _ => 0) 0 102) 1 105) 2 114) 3 115) 4 116 j)))) :: (q_104, .inl (D.1 13, 18120, .inl (fun _ => 0))) :: (q_102, .inl (D.1 13, 24, .inl (fun _ => 0))) :: (q_100, .inl (D.1 13, 48, .inl (fun _ => 0))) :: (q_98, .inl (D.1 16, 48, .inl (fun _ => 0))) :: (q_96, .inl (D.1 13, 300, .inl (fun _ => 0))) :: (q_94, .inl (D.1 13, 300, .inl (fun _ => 0))) :: (q_92, .inl (D.1 13, 300, .inl (fun _ => 0))) :: T) := hD
  generalize hfs_108 : fs_106.set 79 (.ref q_107) = fs_108 at hP hD
  have hlen : fs_108.length = 116 := by rw [← hfs_108, List.length_set]; exact hlen
  have hP : va_P D vwCl ((h0, .inr (12, fs_108)) :: (q_107, .inl (D.1 14, 5, .inl (fun j => i2 (upZ (upZ (upZ (upZ (upZ (fun _ => 0) 0 102) 1 105) 2 114) 3 115) 4 116 j)))) :: (q_104, .inl (D.1 13, 18120, .inl (fun _ => 0))) :: (q_102, .inl (D.1 13, 24, .inl (fun _ => 0))) :: (q_100, .inl (D.1 13, 48, .inl (fun _ => 0))) :: (q_98, .inl (D.1 16, 48, .inl (fun _ => 0))) :: (q_96, .inl (D.1 13, 300, .inl (fun _ => 0))) :: (q_94, .inl (D.1 13, 300, .inl (fun _ => 0))) :: (q_92, .inl (D.1 13, 300, .inl (fun _ => 0))) :: T) H := hP
  have hD : va_D A ((h0, .inr (12, fs_108)) :: (q_107, .inl (D.1 14, 5, .inl (fun j => i2 (upZ (upZ (upZ (upZ (upZ (fun _ => 0) 0 102) 1 105) 2 114) 3 115) 4 116 j)))) :: (q_104, .inl (D.1 13, 18120, .inl (fun _ => 0))) :: (q_102, .inl (D.1 13, 24, .inl (fun _ => 0))) :: (q_100, .inl (D.1 13, 48, .inl (fun _ => 0))) :: (q_98, .inl (D.1 16, 48, .inl (fun _ => 0))) :: (q_96, .inl (D.1 13, 300, .inl (fun _ => 0))) :: (q_94, .inl (D.1 13, 300, .inl (fun _ => 0))) :: (q_92, .inl (D.1 13, 300, .inl (fun _ => 0))) :: T) := hD
  exact kk q_107 q_104 q_102 q_100 q_98 q_96 q_94 q_92 fs_108 _ _ (by rw [← hfs_108, ← hfs_106, ← hfs_105, ← hfs_103, ← hfs_101, ← hfs_99, ← hfs_97, ← hfs_95, ← hfs_93]) hP hD hS
set_option maxHeartbeats 4000000 in
set_option maxRecDepth 100000 in
theorem cM_14 {p : Program} {l : Launch} {e : Env} {R : Room} {s : State} {m : MethodId} {args : Array Value} {below : List Frame} {meth : Method} {c : Code} {Q : State → Prop} {D : va_G} {A : Nat → Prop} {ls : Array Slot} {h0 : Nat} {T : va_W} (hx : p.tables.exec = Jvm.exec) (hb : c.code = cX12_init) (ht : ∀ w ∈ lw_gd, w.before args s = true) (hown : s.vm.findClass RX12 = some m.cls) (hin : meth.name = "<init>") (hK : va_K D vwCl (TY D) s) (hA : ∀ q : Nat, s.heap.size ≤ q → A q) (hRc : 80 ≤ R.cells) (hRs : 35050 ≤ R.slots) (hl : lv_has ls 1 [(0, .ref h0)]) {fs : List Value} (hlen : fs.length = 116) {H : Heap} {locs : List Loc} (hP : va_P D vwCl ((h0, .inr (12, fs)) :: T) H) (hD : va_D A ((h0, .inr (12, fs)) :: T)) (hS : va_S A s.heap H locs)
    (kk : ∀ (q_113 : Nat) (q_111 : Nat) (q_109 : Nat) (fs' : List Value) (H : Heap) (locs : List Loc), fs' = (((fs.set 80 (.ref q_109)).set 81 (.ref q_111)).set 82 (.ref q_113)) → va_P D vwCl ((h0, .inr (12, fs')) :: (q_113, .inl (D.1 14, 5, .inl (fun j => i2 (upZ (upZ (upZ (upZ (upZ (fun _ => 0) 0 116) 1 111) 2 116) 3 97) 4 108 j)))) :: (q_111, .inl (D.1 14, 5, .inl (fun j => i2 (upZ (upZ (upZ (upZ (upZ (fun _ => 0) 0 111) 1 102) 2 116) 3 101) 4 110 j)))) :: (q_109, .inl (D.1 14, 4, .inl (fun j => i2 (upZ (upZ (upZ (upZ (fun _ => 0) 0 108) 1 97) 2 115) 3 116 j)))) :: T) H → va_D A ((h0, .inr (12, fs')) :: (q_113, .inl (D.1 14, 5, .inl (fun j => i2 (upZ (upZ (upZ (upZ (upZ (fun _ => 0) 0 116) 1 111) 2 116) 3 97) 4 108 j)))) :: (q_111, .inl (D.1 14, 5, .inl (fun j => i2 (upZ (upZ (upZ (upZ (upZ (fun _ => 0) 0 111) 1 102) 2 116) 3 101) 4 110 j)))) :: (q_109, .inl (D.1 14, 4, .inl (fun j => i2 (upZ (upZ (upZ (upZ (fun _ => 0) 0 108) 1 97) 2 115) 3 116 j)))) :: T) → va_S A s.heap H locs → W p l e R s m args below meth c H locs 56 27678 Q (F0 m 1164 ls [])) : W p l e R s m args below meth c H locs 53 27664 Q (F0 m 1073 ls []) := by
  refine lv_aload_n hx hb dX12_init_1073 rfl (lv_at hl 0 rfl) ?_
  refine lv_iconst (v := 4) hx hb dX12_init_1074 (by decide) ?_
  refine va_newa (atype := .char) (a0 := (4, .inl (fun _ => 0))) (ty := .char) (N' := 4) hx hb (ht _ ac_char) rfl hK hP hD hS hA (fun _ => rfl) (by decide) (by decide) (by decide) (Nat.le_trans (Nat.le_of_ble_eq_true rfl) hRc) (Nat.le_trans (Nat.le_of_ble_eq_true rfl) hRs) dX12_init_1075 (fun q_109 cA H hK2 hP hD hS => ?_)
  obtain rfl := z_cls_char hK hK2
  refine W.widen (k := 54) (n := 27668) (Nat.le_of_ble_eq_true rfl) (Nat.le_of_ble_eq_true rfl) ?_
  obtain ⟨hP, hD⟩ := z_rot hP hD
  have hP : va_P D vwCl ((h0, .inr (12, fs)) :: (q_109, .inl (D.1 14, 4, .inl (fun _ => i2 0))) :: T) H := hP
  have hD : va_D A ((h0, .inr (12, fs)) :: (q_109, .inl (D.1 14, 4, .inl (fun _ => i2 0))) :: T) := hD
  refine lv_dup hx hb dX12_init_1077 rfl ?_
  refine lv_iconst (v := 0) hx hb dX12_init_1078 (by decide) ?_
  refine lv_bipush (v := 108) hx hb dX12_init_1079 (by decide) ?_
  refine va_cast hx hb hK hP hD hS 1 1 rfl rfl (z_in (by decide) (by decide)) dX12_init_1081 (fun H locs hP hD hS => ?_)
  rw [c_i2 (F := fun _ => 0) (k := Int32.toNatClampNeg 0) (c := vp_nar .char 108) (v := 108) (by decide)] at hP hD
  have hP : va_P D vwCl ((h0, .inr (12, fs)) :: (q_109, .inl (D.1 14, 4, .inl (fun j => i2 (upZ (fun _ => 0) 0 108 j)))) :: T) H := hP
  have hD : va_D A ((h0, .inr (12, fs)) :: (q_109, .inl (D.1 14, 4, .inl (fun j => i2 (upZ (fun _ => 0) 0 108 j)))) :: T) := hD
  refine lv_dup hx hb dX12_init_1082 rfl ?_
  refine lv_iconst (v := 1) hx hb dX12_init_1083 (by decide) ?_
  refine lv_bipush (v := 97) hx hb dX12_init_1084 (by decide) ?_
  refine va_cast hx hb hK hP hD hS 1 1 rfl rfl (z_in (by decide) (by decide)) dX12_init_1086 (fun H locs hP hD hS => ?_)
  rw [c_i2 (F := upZ (fun _ => 0) 0 108) (k := Int32.toNatClampNeg 1) (c := vp_nar .char 97) (v := 97) (by decide)] at hP hD
  have hP : va_P D vwCl ((h0, .inr (12, fs)) :: (q_109, .inl (D.1 14, 4, .inl (fun j => i2 (upZ (upZ (fun _ => 0) 0 108) 1 97 j)))) :: T) H := hP
  have hD : va_D A ((h0, .inr (12, fs)) :: (q_109, .inl (D.1 14, 4, .inl (fun j => i2 (upZ (upZ (fun _ => 0) 0 108) 1 97 j)))) :: T) := hD
  refine lv_dup hx hb dX12_init_1087 rfl ?_
  refine lv_iconst (v := 2) hx hb dX12_init_1088 (by decide) ?_
  refine lv_bipush (v := 115) hx hb dX12_init_1089 (by decide) ?_
  refine va_cast hx hb hK hP hD hS 1 1 rfl rfl (z_in (by decide) (by decide)) dX12_init_1091 (fun H locs hP hD hS => ?_)
  rw [c_i2 (F := upZ (upZ (fun _ => 0) 0 108) 1 97) (k := Int32.toNatClampNeg 2) (c := vp_nar .char 115) (v := 115) (by decide)] at hP hD
  have hP : va_P D vwCl ((h0, .inr (12, fs)) :: (q_109, .inl (D.1 14, 4, .inl (fun j => i2 (upZ (upZ (upZ (fun _ => 0) 0 108) 1 97) 2 115 j)))) :: T) H := hP
  have hD : va_D A ((h0, .inr (12, fs)) :: (q_109, .inl (D.1 14, 4, .inl (fun j => i2 (upZ (upZ (upZ (fun _ => 0) 0 108) 1 97) 2 115 j)))) :: T) := hD
  refine lv_dup hx hb dX12_init_1092 rfl ?_
  refine lv_iconst (v := 3) hx hb dX12_init_1093 (by decide) ?_
  refine lv_bipush (v := 116) hx hb dX12_init_1094 (by decide) ?_
  refine va_cast hx hb hK hP hD hS 1 1 rfl rfl (z_in (by decide) (by decide)) dX12_init_1096 (fun H locs hP hD hS => ?_)
  rw [c_i2 (F := upZ (upZ (upZ (fun _ => 0) 0 108) 1 97) 2 115) (k := Int32.toNatClampNeg 3) (c := vp_nar .char 116) (v := 116) (by decide)] at hP hD
  have hP : va_P D vwCl ((h0, .inr (12, fs)) :: (q_109, .inl (D.1 14, 4, .inl (fun j => i2 (upZ (upZ (upZ (upZ (fun _ => 0) 0 108) 1 97) 2 115) 3 116 j)))) :: T) H := hP
  have hD : va_D A ((h0, .inr (12, fs)) :: (q_109, .inl (D.1 14, 4, .inl (fun j => i2 (upZ (upZ (upZ (upZ (fun _ => 0) 0 108) 1 97) 2 115) 3 116 j)))) :: T) := hD
  refine va_putF (D := D) (ci := 12) (v := .ref q_109) (ty := .array .char) (C := RX12) (T := TX12) (N := 116) hx hb ht inX12 tyX12 tyX12_ok nmX12 hown hK hP hD hS 0 rfl rfl 80 (by decide) (ht (.fieldLink RX12 180 "CloneVolumesModel" "lastAsked" "[C") fl_X12_180) (fun _ h9 => h9) rfl hin rfl (by decide +kernel) rfl rfl (by rw [hlen]; decide) dX12_init_1097 (fun H locs hP hD hS => ?_)
  have hP : va_P D vwCl ((h0, .inr (12, (fs.set 80 (.ref q_109)))) :: (q_109, .inl (D.1 14, 4, .inl (fun j => i2 (upZ (upZ (upZ (upZ (fun _ => 0) 0 108) 1 97) 2 115) 3 116 j)))) :: T) H := hP
  have hD : va_D A ((h0, .inr (12, (fs.set 80 (.ref q_109)))) :: (q_109, .inl (D.1 14, 4, .inl (fun j => i2 (upZ (upZ (upZ (upZ (fun _ => 0) 0 108) 1 97) 2 115) 3 116 j)))) :: T) := hD
  generalize hfs_110 : fs.set 80 (.ref q_109) = fs_110 at hP hD
  have hlen : fs_110.length = 116 := by rw [← hfs_110, List.length_set]; exact hlen
  have hP : va_P D vwCl ((h0, .inr (12, fs_110)) :: (q_109, .inl (D.1 14, 4, .inl (fun j => i2 (upZ (upZ (upZ (upZ (fun _ => 0) 0 108) 1 97) 2 115) 3 116 j)))) :: T) H := hP
  have hD : va_D A ((h0, .inr (12, fs_110)) :: (q_109, .inl (D.1 14, 4, .inl (fun j => i2 (upZ (upZ (upZ (upZ (fun _ => 0) 0 108) 1 97) 2 115) 3 116 j)))) :: T) := hD
  refine lv_aload_n hx hb dX12_init_1100 rfl (lv_at hl 0 rfl) ?_
  refine lv_iconst (v := 5) hx hb dX12_init_1101 (by decide) ?_
  refine va_newa (atype := .char) (a0 := (5, .inl (fun _ => 0))) (ty := .char) (N' := 5) hx hb (ht _ ac_char) rfl hK hP hD hS hA (fun _ => rfl) (by decide) (by decide) (by decide) (Nat.le_trans (Nat.le_of_ble_eq_true rfl) hRc) (Nat.le_trans (Nat.le_of_ble_eq_true rfl) hRs) dX12_init_1102 (fun q_111 cA H hK2 hP hD hS => ?_)
  obtain rfl := z_cls_char hK hK2
  refine W.widen (k := 55) (n := 27673) (Nat.le_of_ble_eq_true rfl) (Nat.le_of_ble_eq_true rfl) ?_
  obtain ⟨hP, hD⟩ := z_rot hP hD
  have hP : va_P D vwCl ((h0, .inr (12, fs_110)) :: (q_111, .inl (D.1 14, 5, .inl (fun _ => i2 0))) :: (q_109, .inl (D.1 14, 4, .inl (fun j => i2 (upZ (upZ (upZ (upZ (fun _ => 0) 0 108) 1 97) 2 115) 3 116 j)))) :: T) H := hP
  have hD : va_D A ((h0, .inr (12, fs_110)) :: (q_111, .inl (D.1 14, 5, .inl (fun _ => i2 0))) :: (q_109, .inl (D.1 14, 4, .inl (fun j => i2 (upZ (upZ (upZ (upZ (fun _ => 0) 0 108) 1 97) 2 115) 3 116 j)))) :: T) := hD
  refine lv_dup hx hb dX12_init_1104 rfl ?_
  refine lv_iconst (v := 0) hx hb dX12_init_1105 (by decide) ?_
  refine lv_bipush (v := 111) hx hb dX12_init_1106 (by decide) ?_
  refine va_cast hx hb hK hP hD hS 1 1 rfl rfl (z_in (by decide) (by decide)) dX12_init_1108 (fun H locs hP hD hS => ?_)
  rw [c_i2 (F := fun _ => 0) (k := Int32.toNatClampNeg 0) (c := vp_nar .char 111) (v := 111) (by decide)] at hP hD
  have hP : va_P D vwCl ((h0, .inr (12, fs_110)) :: (q_111, .inl (D.1 14, 5, .inl (fun j => i2 (upZ (fun _ => 0) 0 111 j)))) :: (q_109, .inl (D.1 14, 4, .inl (fun j => i2 (upZ (upZ (upZ (upZ (fun _ => 0) 0 108) 1 97) 2 115) 3 116 j)))) :: T) H := hP
  have hD : va_D A ((h0, .inr (12, fs_110)) :: (q_111, .inl (D.1 14, 5, .inl (fun j => i2 (upZ (fun _ => 0) 0 111 j)))) :: (q_109, .inl (D.1 14, 4, .inl (fun j => i2 (upZ (upZ (upZ (upZ (fun _ => 0) 0 108) 1 97) 2 115) 3 116 j)))) :: T) := hD
  refine lv_dup hx hb dX12_init_1109 rfl ?_
  refine lv_iconst (v := 1) hx hb dX12_init_1110 (by decide) ?_
  refine lv_bipush (v := 102) hx hb dX12_init_1111 (by decide) ?_
  refine va_cast hx hb hK hP hD hS 1 1 rfl rfl (z_in (by decide) (by decide)) dX12_init_1113 (fun H locs hP hD hS => ?_)
  rw [c_i2 (F := upZ (fun _ => 0) 0 111) (k := Int32.toNatClampNeg 1) (c := vp_nar .char 102) (v := 102) (by decide)] at hP hD
  have hP : va_P D vwCl ((h0, .inr (12, fs_110)) :: (q_111, .inl (D.1 14, 5, .inl (fun j => i2 (upZ (upZ (fun _ => 0) 0 111) 1 102 j)))) :: (q_109, .inl (D.1 14, 4, .inl (fun j => i2 (upZ (upZ (upZ (upZ (fun _ => 0) 0 108) 1 97) 2 115) 3 116 j)))) :: T) H := hP
  have hD : va_D A ((h0, .inr (12, fs_110)) :: (q_111, .inl (D.1 14, 5, .inl (fun j => i2 (upZ (upZ (fun _ => 0) 0 111) 1 102 j)))) :: (q_109, .inl (D.1 14, 4, .inl (fun j => i2 (upZ (upZ (upZ (upZ (fun _ => 0) 0 108) 1 97) 2 115) 3 116 j)))) :: T) := hD
  refine lv_dup hx hb dX12_init_1114 rfl ?_
  refine lv_iconst (v := 2) hx hb dX12_init_1115 (by decide) ?_
  refine lv_bipush (v := 116) hx hb dX12_init_1116 (by decide) ?_
  refine va_cast hx hb hK hP hD hS 1 1 rfl rfl (z_in (by decide) (by decide)) dX12_init_1118 (fun H locs hP hD hS => ?_)
  rw [c_i2 (F := upZ (upZ (fun _ => 0) 0 111) 1 102) (k := Int32.toNatClampNeg 2) (c := vp_nar .char 116) (v := 116) (by decide)] at hP hD
  have hP : va_P D vwCl ((h0, .inr (12, fs_110)) :: (q_111, .inl (D.1 14, 5, .inl (fun j => i2 (upZ (upZ (upZ (fun _ => 0) 0 111) 1 102) 2 116 j)))) :: (q_109, .inl (D.1 14, 4, .inl (fun j => i2 (upZ (upZ (upZ (upZ (fun _ => 0) 0 108) 1 97) 2 115) 3 116 j)))) :: T) H := hP
  have hD : va_D A ((h0, .inr (12, fs_110)) :: (q_111, .inl (D.1 14, 5, .inl (fun j => i2 (upZ (upZ (upZ (fun _ => 0) 0 111) 1 102) 2 116 j)))) :: (q_109, .inl (D.1 14, 4, .inl (fun j => i2 (upZ (upZ (upZ (upZ (fun _ => 0) 0 108) 1 97) 2 115) 3 116 j)))) :: T) := hD
  refine lv_dup hx hb dX12_init_1119 rfl ?_
  refine lv_iconst (v := 3) hx hb dX12_init_1120 (by decide) ?_
  refine lv_bipush (v := 101) hx hb dX12_init_1121 (by decide) ?_
  refine va_cast hx hb hK hP hD hS 1 1 rfl rfl (z_in (by decide) (by decide)) dX12_init_1123 (fun H locs hP hD hS => ?_)
  rw [c_i2 (F := upZ (upZ (upZ (fun _ => 0) 0 111) 1 102) 2 116) (k := Int32.toNatClampNeg 3) (c := vp_nar .char 101) (v := 101) (by decide)] at hP hD
  have hP : va_P D vwCl ((h0, .inr (12, fs_110)) :: (q_111, .inl (D.1 14, 5, .inl (fun j => i2 (upZ (upZ (upZ (upZ (fun _ => 0) 0 111) 1 102) 2 116) 3 101 j)))) :: (q_109, .inl (D.1 14, 4, .inl (fun j => i2 (upZ (upZ (upZ (upZ (fun _ => 0) 0 108) 1 97) 2 115) 3 116 j)))) :: T) H := hP
  have hD : va_D A ((h0, .inr (12, fs_110)) :: (q_111, .inl (D.1 14, 5, .inl (fun j => i2 (upZ (upZ (upZ (upZ (fun _ => 0) 0 111) 1 102) 2 116) 3 101 j)))) :: (q_109, .inl (D.1 14, 4, .inl (fun j => i2 (upZ (upZ (upZ (upZ (fun _ => 0) 0 108) 1 97) 2 115) 3 116 j)))) :: T) := hD
  refine lv_dup hx hb dX12_init_1124 rfl ?_
  refine lv_iconst (v := 4) hx hb dX12_init_1125 (by decide) ?_
  refine lv_bipush (v := 110) hx hb dX12_init_1126 (by decide) ?_
  refine va_cast hx hb hK hP hD hS 1 1 rfl rfl (z_in (by decide) (by decide)) dX12_init_1128 (fun H locs hP hD hS => ?_)
  rw [c_i2 (F := upZ (upZ (upZ (upZ (fun _ => 0) 0 111) 1 102) 2 116) 3 101) (k := Int32.toNatClampNeg 4) (c := vp_nar .char 110) (v := 110) (by decide)] at hP hD
  have hP : va_P D vwCl ((h0, .inr (12, fs_110)) :: (q_111, .inl (D.1 14, 5, .inl (fun j => i2 (upZ (upZ (upZ (upZ (upZ (fun _ => 0) 0 111) 1 102) 2 116) 3 101) 4 110 j)))) :: (q_109, .inl (D.1 14, 4, .inl (fun j => i2 (upZ (upZ (upZ (upZ (fun _ => 0) 0 108) 1 97) 2 115) 3 116 j)))) :: T) H := hP
  have hD : va_D A ((h0, .inr (12, fs_110)) :: (q_111, .inl (D.1 14, 5, .inl (fun j => i2 (upZ (upZ (upZ (upZ (upZ (fun _ => 0) 0 111) 1 102) 2 116) 3 101) 4 110 j)))) :: (q_109, .inl (D.1 14, 4, .inl (fun j => i2 (upZ (upZ (upZ (upZ (fun _ => 0) 0 108) 1 97) 2 115) 3 116 j)))) :: T) := hD
  refine va_putF (D := D) (ci := 12) (v := .ref q_111) (ty := .array .char) (C := RX12) (T := TX12) (N := 116) hx hb ht inX12 tyX12 tyX12_ok nmX12 hown hK hP hD hS 0 rfl rfl 81 (by decide) (ht (.fieldLink RX12 183 "CloneVolumesModel" "oftenAsked" "[C") fl_X12_183) (fun _ h9 => h9) rfl hin rfl (by decide +kernel) rfl rfl (by rw [hlen]; decide) dX12_init_1129 (fun H locs hP hD hS => ?_)
  have hP : va_P D vwCl ((h0, .inr (12, (fs_110.set 81 (.ref q_111)))) :: (q_111, .inl (D.1 14, 5, .inl (fun j => i2 (upZ (upZ (upZ (upZ (upZ (fun _ => 0) 0 111) 1 102) 2 116) 3 101) 4 110 j)))) :: (q_109, .inl (D.1 14, 4, .inl (fun j => i2 (upZ (upZ (upZ (upZ (fun _ => 0) 0 108) 1 97) 2 115) 3 116 j)))) :: T) H := hP
  have hD : va_D A ((h0, .inr (12, (fs_110.set 81 (.ref q_111)))) :: (q_111, .inl (D.1 14, 5, .inl (fun j => i2 (upZ (upZ (upZ (upZ (upZ (fun _ => 0) 0 111) 1 102) 2 116) 3 101) 4 110 j)))) :: (q_109, .inl (D.1 14, 4, .inl (fun j => i2 (upZ (upZ (upZ (upZ (fun _ => 0) 0 108) 1 97) 2 115) 3 116 j)))) :: T) := hD
  generalize hfs_112 : fs_110.set 81 (.ref q_111) = fs_112 at hP hD
  have hlen : fs_112.length = 116 := by rw [← hfs_112, List.length_set]; exact hlen
  have hP : va_P D vwCl ((h0, .inr (12, fs_112)) :: (q_111, .inl (D.1 14, 5, .inl (fun j => i2 (upZ (upZ (upZ (upZ (upZ (fun _ => 0) 0 111) 1 102) 2 116) 3 101) 4 110 j)))) :: (q_109, .inl (D.1 14, 4, .inl (fun j => i2 (upZ (upZ (upZ (upZ (fun _ => 0) 0 108) 1 97) 2 115) 3 116 j)))) :: T) H := hP
  have hD : va_D A ((h0, .inr (12, fs_112)) :: (q_111, .inl (D.1 14, 5, .inl (fun j => i2 (upZ (upZ (upZ (upZ (upZ (fun _ => 0) 0 111) 1 102) 2 116) 3 101) 4 110 j)))) :: (q_109, .inl (D.1 14, 4, .inl (fun j => i2 (upZ (upZ (upZ (upZ (fun _ => 0) 0 108) 1 97) 2 115) 3 116 j)))) :: T) := hD
  refine lv_aload_n hx hb dX12_init_1132 rfl (lv_at hl 0 rfl) ?_
  refine lv_iconst (v := 5) hx hb dX12_init_1133 (by decide) ?_
  refine va_newa (atype := .char) (a0 := (5, .inl (fun _ => 0))) (ty := .char) (N' := 5) hx hb (ht _ ac_char) rfl hK hP hD hS hA (fun _ => rfl) (by decide) (by decide) (by decide) (Nat.le_trans (Nat.le_of_ble_eq_true rfl) hRc) (Nat.le_trans (Nat.le_of_ble_eq_true rfl) hRs) dX12_init_1134 (fun q_113 cA H hK2 hP hD hS => ?_)
  obtain rfl := z_cls_char hK hK2
  refine W.widen (k := 56) (n := 27678) (Nat.le_of_ble_eq_true rfl) (Nat.le_of_ble_eq_true rfl) ?_
  obtain ⟨hP, hD⟩ := z_rot hP hD
  have hP : va_P D vwCl ((h0, .inr (12, fs_112)) :: (q_113, .inl (D.1 14, 5, .inl (fun _ => i2 0))) :: (q_111, .inl (D.1 14, 5, .inl (fun j => i2 (upZ (upZ (upZ (upZ (upZ (fun _ => 0) 0 111) 1 102) 2 116) 3 101) 4 110 j)))) :: (q_109, .inl (D.1 14, 4, .inl (fun j => i2 (upZ (upZ (upZ (upZ (fun _ => 0) 0 108) 1 97) 2 115) 3 116 j)))) :: T) H := hP
  have hD : va_D A ((h0, .inr (12, fs_112)) :: (q_113, .inl (D.1 14, 5, .inl (fun _ => i2 0))) :: (q_111, .inl (D.1 14, 5, .inl (fun j => i2 (upZ (upZ (upZ (upZ (upZ (fun _ => 0) 0 111) 1 102) 2 116) 3 101) 4 110 j)))) :: (q_109, .inl (D.1 14, 4, .inl (fun j => i2 (upZ (upZ (upZ (upZ (fun _ => 0) 0 108) 1 97) 2 115) 3 116 j)))) :: T) := hD
  refine lv_dup hx hb dX12_init_1136 rfl ?_
  refine lv_iconst (v := 0) hx hb dX12_init_1137 (by decide) ?_
  refine lv_bipush (v := 116) hx hb dX12_init_1138 (by decide) ?_
  refine va_cast hx hb hK hP hD hS 1 1 rfl rfl (z_in (by decide) (by decide)) dX12_init_1140 (fun H locs hP hD hS => ?_)
  rw [c_i2 (F := fun _ => 0) (k := Int32.toNatClampNeg 0) (c := vp_nar .char 116) (v := 116) (by decide)] at hP hD
  have hP : va_P D vwCl ((h0, .inr (12, fs_112)) :: (q_113, .inl (D.1 14, 5, .inl (fun j => i2 (upZ (fun _ => 0) 0 116 j)))) :: (q_111, .inl (D.1 14, 5, .inl (fun j => i2 (upZ (upZ (upZ (upZ (upZ (fun _ => 0) 0 111) 1 102) 2 116) 3 101) 4 110 j)))) :: (q_109, .inl (D.1 14, 4, .inl (fun j => i2 (upZ (upZ (upZ (upZ (fun _ => 0) 0 108) 1 97) 2 115) 3 116 j)))) :: T) H := hP
  have hD : va_D A ((h0, .inr (12, fs_112)) :: (q_113, .inl (D.1 14, 5, .inl (fun j => i2 (upZ (fun _ => 0) 0 116 j)))) :: (q_111, .inl (D.1 14, 5, .inl (fun j => i2 (upZ (upZ (upZ (upZ (upZ (fun _ => 0) 0 111) 1 102) 2 116) 3 101) 4 110 j)))) :: (q_109, .inl (D.1 14, 4, .inl (fun j => i2 (upZ (upZ (upZ (upZ (fun _ => 0) 0 108) 1 97) 2 115) 3 116 j)))) :: T) := hD
  refine lv_dup hx hb dX12_init_1141 rfl ?_
  refine lv_iconst (v := 1) hx hb dX12_init_1142 (by decide) ?_
  refine lv_bipush (v := 111) hx hb dX12_init_1143 (by decide) ?_
  refine va_cast hx hb hK hP hD hS 1 1 rfl rfl (z_in (by decide) (by decide)) dX12_init_1145 (fun H locs hP hD hS => ?_)
  rw [c_i2 (F := upZ (fun _ => 0) 0 116) (k := Int32.toNatClampNeg 1) (c := vp_nar .char 111) (v := 111) (by decide)] at hP hD
  have hP : va_P D vwCl ((h0, .inr (12, fs_112)) :: (q_113, .inl (D.1 14, 5, .inl (fun j => i2 (upZ (upZ (fun _ => 0) 0 116) 1 111 j)))) :: (q_111, .inl (D.1 14, 5, .inl (fun j => i2 (upZ (upZ (upZ (upZ (upZ (fun _ => 0) 0 111) 1 102) 2 116) 3 101) 4 110 j)))) :: (q_109, .inl (D.1 14, 4, .inl (fun j => i2 (upZ (upZ (upZ (upZ (fun _ => 0) 0 108) 1 97) 2 115) 3 116 j)))) :: T) H := hP
  have hD : va_D A ((h0, .inr (12, fs_112)) :: (q_113, .inl (D.1 14, 5, .inl (fun j => i2 (upZ (upZ (fun _ => 0) 0 116) 1 111 j)))) :: (q_111, .inl (D.1 14, 5, .inl (fun j => i2 (upZ (upZ (upZ (upZ (upZ (fun _ => 0) 0 111) 1 102) 2 116) 3 101) 4 110 j)))) :: (q_109, .inl (D.1 14, 4, .inl (fun j => i2 (upZ (upZ (upZ (upZ (fun _ => 0) 0 108) 1 97) 2 115) 3 116 j)))) :: T) := hD
  refine lv_dup hx hb dX12_init_1146 rfl ?_
  refine lv_iconst (v := 2) hx hb dX12_init_1147 (by decide) ?_
  refine lv_bipush (v := 116) hx hb dX12_init_1148 (by decide) ?_
  refine va_cast hx hb hK hP hD hS 1 1 rfl rfl (z_in (by decide) (by decide)) dX12_init_1150 (fun H locs hP hD hS => ?_)
  rw [c_i2 (F := upZ (upZ (fun _ => 0) 0 116) 1 111) (k := Int32.toNatClampNeg 2) (c := vp_nar .char 116) (v := 116) (by decide)] at hP hD
  have hP : va_P D vwCl ((h0, .inr (12, fs_112)) :: (q_113, .inl (D.1 14, 5, .inl (fun j => i2 (upZ (upZ (upZ (fun _ => 0) 0 116) 1 111) 2 116 j)))) :: (q_111, .inl (D.1 14, 5, .inl (fun j => i2 (upZ (upZ (upZ (upZ (upZ (fun _ => 0) 0 111) 1 102) 2 116) 3 101) 4 110 j)))) :: (q_109, .inl (D.1 14, 4, .inl (fun j => i2 (upZ (upZ (upZ (upZ (fun _ => 0) 0 108) 1 97) 2 115) 3 116 j)))) :: T) H := hP
  have hD : va_D A ((h0, .inr (12, fs_112)) :: (q_113, .inl (D.1 14, 5, .inl (fun j => i2 (upZ (upZ (upZ (fun _ => 0) 0 116) 1 111) 2 116 j)))) :: (q_111, .inl (D.1 14, 5, .inl (fun j => i2 (upZ (upZ (upZ (upZ (upZ (fun _ => 0) 0 111) 1 102) 2 116) 3 101) 4 110 j)))) :: (q_109, .inl (D.1 14, 4, .inl (fun j => i2 (upZ (upZ (upZ (upZ (fun _ => 0) 0 108) 1 97) 2 115) 3 116 j)))) :: T) := hD
  refine lv_dup hx hb dX12_init_1151 rfl ?_
  refine lv_iconst (v := 3) hx hb dX12_init_1152 (by decide) ?_
  refine lv_bipush (v := 97) hx hb dX12_init_1153 (by decide) ?_
  refine va_cast hx hb hK hP hD hS 1 1 rfl rfl (z_in (by decide) (by decide)) dX12_init_1155 (fun H locs hP hD hS => ?_)
  rw [c_i2 (F := upZ (upZ (upZ (fun _ => 0) 0 116) 1 111) 2 116) (k := Int32.toNatClampNeg 3) (c := vp_nar .char 97) (v := 97) (by decide)] at hP hD
  have hP : va_P D vwCl ((h0, .inr (12, fs_112)) :: (q_113, .inl (D.1 14, 5, .inl (fun j => i2 (upZ (upZ (upZ (upZ (fun _ => 0) 0 116) 1 111) 2 116) 3 97 j)))) :: (q_111, .inl (D.1 14, 5, .inl (fun j => i2 (upZ (upZ (upZ (upZ (upZ (fun _ => 0) 0 111) 1 102) 2 116) 3 101) 4 110 j)))) :: (q_109, .inl (D.1 14, 4, .inl (fun j => i2 (upZ (upZ (upZ (upZ (fun _ => 0) 0 108) 1 97) 2 115) 3 116 j)))) :: T) H := hP
  have hD : va_D A ((h0, .inr (12, fs_112)) :: (q_113, .inl (D.1 14, 5, .inl (fun j => i2 (upZ (upZ (upZ (upZ (fun _ => 0) 0 116) 1 111) 2 116) 3 97 j)))) :: (q_111, .inl (D.1 14, 5, .inl (fun j => i2 (upZ (upZ (upZ (upZ (upZ (fun _ => 0) 0 111) 1 102) 2 116) 3 101) 4 110 j)))) :: (q_109, .inl (D.1 14, 4, .inl (fun j => i2 (upZ (upZ (upZ (upZ (fun _ => 0) 0 108) 1 97) 2 115) 3 116 j)))) :: T) := hD
  refine lv_dup hx hb dX12_init_1156 rfl ?_
  refine lv_iconst (v := 4) hx hb dX12_init_1157 (by decide) ?_
  refine lv_bipush (v := 108) hx hb dX12_init_1158 (by decide) ?_
  refine va_cast hx hb hK hP hD hS 1 1 rfl rfl (z_in (by decide) (by decide)) dX12_init_1160 (fun H locs hP hD hS => ?_)
  rw [c_i2 (F := upZ (upZ (upZ (upZ (fun _ => 0) 0 116) 1 111) 2 116) 3 97) (k := Int32.toNatClampNeg 4) (c := vp_nar .char 108) (v := 108) (by decide)] at hP hD
  have hP : va_P D vwCl ((h0, .inr (12, fs_112)) :: (q_113, .inl (D.1 14, 5, .inl (fun j => i2 (upZ (upZ (upZ (upZ (upZ (fun _ => 0) 0 116) 1 111) 2 116) 3 97) 4 108 j)))) :: (q_111, .inl (D.1 14, 5, .inl (fun j => i2 (upZ (upZ (upZ (upZ (upZ (fun _ => 0) 0 111) 1 102) 2 116) 3 101) 4 110 j)))) :: (q_109, .inl (D.1 14, 4, .inl (fun j => i2 (upZ (upZ (upZ (upZ (fun _ => 0) 0 108) 1 97) 2 115) 3 116 j)))) :: T) H := hP
  have hD : va_D A ((h0, .inr (12, fs_112)) :: (q_113, .inl (D.1 14, 5, .inl (fun j => i2 (upZ (upZ (upZ (upZ (upZ (fun _ => 0) 0 116) 1 111) 2 116) 3 97) 4 108 j)))) :: (q_111, .inl (D.1 14, 5, .inl (fun j => i2 (upZ (upZ (upZ (upZ (upZ (fun _ => 0) 0 111) 1 102) 2 116) 3 101) 4 110 j)))) :: (q_109, .inl (D.1 14, 4, .inl (fun j => i2 (upZ (upZ (upZ (upZ (fun _ => 0) 0 108) 1 97) 2 115) 3 116 j)))) :: T) := hD
  refine va_putF (D := D) (ci := 12) (v := .ref q_113) (ty := .array .char) (C := RX12) (T := TX12) (N := 116) hx hb ht inX12 tyX12 tyX12_ok nmX12 hown hK hP hD hS 0 rfl rfl 82 (by decide) (ht (.fieldLink RX12 186 "CloneVolumesModel" "totalAsked" "[C") fl_X12_186) (fun _ h9 => h9) rfl hin rfl (by decide +kernel) rfl rfl (by rw [hlen]; decide) dX12_init_1161 (fun H locs hP hD hS => ?_)
  have hP : va_P D vwCl ((h0, .inr (12, (fs_112.set 82 (.ref q_113)))) :: (q_113, .inl (D.1 14, 5, .inl (fun j => i2 (upZ (upZ (upZ (upZ (upZ (fun _ => 0) 0 116) 1 111) 2 116) 3 97) 4 108 j)))) :: (q_111, .inl (D.1 14, 5, .inl (fun j => i2 (upZ (upZ (upZ (upZ (upZ (fun _ => 0) 0 111) 1 102) 2 116) 3 101) 4 110 j)))) :: (q_109, .inl (D.1 14, 4, .inl (fun j => i2 (upZ (upZ (upZ (upZ (fun _ => 0) 0 108) 1 97) 2 115) 3 116 j)))) :: T) H := hP
  have hD : va_D A ((h0, .inr (12, (fs_112.set 82 (.ref q_113)))) :: (q_113, .inl (D.1 14, 5, .inl (fun j => i2 (upZ (upZ (upZ (upZ (upZ (fun _ => 0) 0 116) 1 111) 2 116) 3 97) 4 108 j)))) :: (q_111, .inl (D.1 14, 5, .inl (fun j => i2 (upZ (upZ (upZ (upZ (upZ (fun _ => 0) 0 111) 1 102) 2 116) 3 101) 4 110 j)))) :: (q_109, .inl (D.1 14, 4, .inl (fun j => i2 (upZ (upZ (upZ (upZ (fun _ => 0) 0 108) 1 97) 2 115) 3 116 j)))) :: T) := hD
  generalize hfs_114 : fs_112.set 82 (.ref q_113) = fs_114 at hP hD
  have hlen : fs_114.length = 116 := by rw [← hfs_114, List.length_set]; exact hlen
  have hP : va_P D vwCl ((h0, .inr (12, fs_114)) :: (q_113, .inl (D.1 14, 5, .inl (fun j => i2 (upZ (upZ (upZ (upZ (upZ (fun _ => 0) 0 116) 1 111) 2 116) 3 97) 4 108 j)))) :: (q_111, .inl (D.1 14, 5, .inl (fun j => i2 (upZ (upZ (upZ (upZ (upZ (fun _ => 0) 0 111) 1 102) 2 116) 3 101) 4 110 j)))) :: (q_109, .inl (D.1 14, 4, .inl (fun j => i2 (upZ (upZ (upZ (upZ (fun _ => 0) 0 108) 1 97) 2 115) 3 116 j)))) :: T) H := hP
  have hD : va_D A ((h0, .inr (12, fs_114)) :: (q_113, .inl (D.1 14, 5, .inl (fun j => i2 (upZ (upZ (upZ (upZ (upZ (fun _ => 0) 0 116) 1 111) 2 116) 3 97) 4 108 j)))) :: (q_111, .inl (D.1 14, 5, .inl (fun j => i2 (upZ (upZ (upZ (upZ (upZ (fun _ => 0) 0 111) 1 102) 2 116) 3 101) 4 110 j)))) :: (q_109, .inl (D.1 14, 4, .inl (fun j => i2 (upZ (upZ (upZ (upZ (fun _ => 0) 0 108) 1 97) 2 115) 3 116 j)))) :: T) := hD
  exact kk q_113 q_111 q_109 fs_114 _ _ (by rw [← hfs_114, ← hfs_112, ← hfs_110]) hP hD hS
set_option maxHeartbeats 4000000 in
set_option maxRecDepth 100000 in
theorem cM_15 {p : Program} {l : Launch} {e : Env} {R : Room} {s : State} {m : MethodId} {args : Array Value} {below : List Frame} {meth : Method} {c : Code} {Q : State → Prop} {D : va_G} {A : Nat → Prop} {ls : Array Slot} {h0 : Nat} {T : va_W} (hx : p.tables.exec = Jvm.exec) (hb : c.code = cX12_init) (ht : ∀ w ∈ lw_gd, w.before args s = true) (hown : s.vm.findClass RX12 = some m.cls) (hin : meth.name = "<init>") (hK : va_K D vwCl (TY D) s) (hA : ∀ q : Nat, s.heap.size ≤ q → A q) (hRc : 80 ≤ R.cells) (hRs : 35050 ≤ R.slots) (hl : lv_has ls 1 [(0, .ref h0)]) {fs : List Value} (hlen : fs.length = 116) {H : Heap} {locs : List Loc} (hP : va_P D vwCl ((h0, .inr (12, fs)) :: T) H) (hD : va_D A ((h0, .inr (12, fs)) :: T)) (hS : va_S A s.heap H locs)
    (kk : ∀ (q_119 : Nat) (q_117 : Nat) (q_115 : Nat) (fs' : List Value) (H : Heap) (locs : List Loc), fs' = (((fs.set 83 (.ref q_115)).set 84 (.ref q_117)).set 85 (.ref q_119)) → va_P D vwCl ((h0, .inr (12, fs')) :: (q_119, .inl (D.1 14, 3, .inl (fun j => i2 (upZ (upZ (upZ (fun _ => 0) 0 110) 1 111) 2 116 j)))) :: (q_117, .inl (D.1 14, 5, .inl (fun j => i2 (upZ (upZ (upZ (upZ (upZ (fun _ => 0) 0 108) 1 101) 2 97) 3 115) 4 116 j)))) :: (q_115, .inl (D.1 14, 4, .inl (fun j => i2 (upZ (upZ (upZ (upZ (fun _ => 0) 0 109) 1 111) 2 115) 3 116 j)))) :: T) H → va_D A ((h0, .inr (12, fs')) :: (q_119, .inl (D.1 14, 3, .inl (fun j => i2 (upZ (upZ (upZ (fun _ => 0) 0 110) 1 111) 2 116 j)))) :: (q_117, .inl (D.1 14, 5, .inl (fun j => i2 (upZ (upZ (upZ (upZ (upZ (fun _ => 0) 0 108) 1 101) 2 97) 3 115) 4 116 j)))) :: (q_115, .inl (D.1 14, 4, .inl (fun j => i2 (upZ (upZ (upZ (upZ (fun _ => 0) 0 109) 1 111) 2 115) 3 116 j)))) :: T) → va_S A s.heap H locs → W p l e R s m args below meth c H locs 59 27690 Q (F0 m 1245 ls [])) : W p l e R s m args below meth c H locs 56 27678 Q (F0 m 1164 ls []) := by
  refine lv_aload_n hx hb dX12_init_1164 rfl (lv_at hl 0 rfl) ?_
  refine lv_iconst (v := 4) hx hb dX12_init_1165 (by decide) ?_
  refine va_newa (atype := .char) (a0 := (4, .inl (fun _ => 0))) (ty := .char) (N' := 4) hx hb (ht _ ac_char) rfl hK hP hD hS hA (fun _ => rfl) (by decide) (by decide) (by decide) (Nat.le_trans (Nat.le_of_ble_eq_true rfl) hRc) (Nat.le_trans (Nat.le_of_ble_eq_true rfl) hRs) dX12_init_1166 (fun q_115 cA H hK2 hP hD hS => ?_)
  obtain rfl := z_cls_char hK hK2
  refine W.widen (k := 57) (n := 27682) (Nat.le_of_ble_eq_true rfl) (Nat.le_of_ble_eq_true rfl) ?_
  obtain ⟨hP, hD⟩ := z_rot hP hD
  have hP : va_P D vwCl ((h0, .inr (12, fs)) :: (q_115, .inl (D.1 14, 4, .inl (fun _ => i2 0))) :: T) H := hP
  have hD : va_D A ((h0, .inr (12, fs)) :: (q_115, .inl (D.1 14, 4, .inl (fun _ => i2 0))) :: T) := hD
  refine lv_dup hx hb dX12_init_1168 rfl ?_
  refine lv_iconst (v := 0) hx hb dX12_init_1169 (by decide) ?_
  refine lv_bipush (v := 109) hx hb dX12_init_1170 (by decide) ?_
  refine va_cast hx hb hK hP hD hS 1 1 rfl rfl (z_in (by decide) (by decide)) dX12_init_1172 (fun H locs hP hD hS => ?_)
  rw [c_i2 (F := fun _ => 0) (k := Int32.toNatClampNeg 0) (c := vp_nar .char 109) (v := 109) (by decide)] at hP hD
  have hP : va_P D vwCl ((h0, .inr (12, fs)) :: (q_115, .inl (D.1 14, 4, .inl (fun j => i2 (upZ (fun _ => 0) 0 109 j)))) :: T) H := hP
  have hD : va_D A ((h0, .inr (12, fs)) :: (q_115, .inl (D.1 14, 4, .inl (fun j => i2 (upZ (fun _ => 0) 0 109 j)))) :: T) := hD
  refine lv_dup hx hb dX12_init_1173 rfl ?_
  refine lv_iconst (v := 1) hx hb dX12_init_1174 (by decide) ?_
  refine lv_bipush (v := 111) hx hb dX12_init_1175 (by decide) ?_
  refine va_cast hx hb hK hP hD hS 1 1 rfl rfl (z_in (by decide) (by decide)) dX12_init_1177 (fun H locs hP hD hS => ?_)
  rw [c_i2 (F := upZ (fun _ => 0) 0 109) (k := Int32.toNatClampNeg 1) (c := vp_nar .char 111) (v := 111) (by decide)] at hP hD
  have hP : va_P D vwCl ((h0, .inr (12, fs)) :: (q_115, .inl (D.1 14, 4, .inl (fun j => i2 (upZ (upZ (fun _ => 0) 0 109) 1 111 j)))) :: T) H := hP
  have hD : va_D A ((h0, .inr (12, fs)) :: (q_115, .inl (D.1 14, 4, .inl (fun j => i2 (upZ (upZ (fun _ => 0) 0 109) 1 111 j)))) :: T) := hD
  refine lv_dup hx hb dX12_init_1178 rfl ?_
  refine lv_iconst (v := 2) hx hb dX12_init_1179 (by decide) ?_
  refine lv_bipush (v := 115) hx hb dX12_init_1180 (by decide) ?_
  refine va_cast hx hb hK hP hD hS 1 1 rfl rfl (z_in (by decide) (by decide)) dX12_init_1182 (fun H locs hP hD hS => ?_)
  rw [c_i2 (F := upZ (upZ (fun _ => 0) 0 109) 1 111) (k := Int32.toNatClampNeg 2) (c := vp_nar .char 115) (v := 115) (by decide)] at hP hD
  have hP : va_P D vwCl ((h0, .inr (12, fs)) :: (q_115, .inl (D.1 14, 4, .inl (fun j => i2 (upZ (upZ (upZ (fun _ => 0) 0 109) 1 111) 2 115 j)))) :: T) H := hP
  have hD : va_D A ((h0, .inr (12, fs)) :: (q_115, .inl (D.1 14, 4, .inl (fun j => i2 (upZ (upZ (upZ (fun _ => 0) 0 109) 1 111) 2 115 j)))) :: T) := hD
  refine lv_dup hx hb dX12_init_1183 rfl ?_
  refine lv_iconst (v := 3) hx hb dX12_init_1184 (by decide) ?_
  refine lv_bipush (v := 116) hx hb dX12_init_1185 (by decide) ?_
  refine va_cast hx hb hK hP hD hS 1 1 rfl rfl (z_in (by decide) (by decide)) dX12_init_1187 (fun H locs hP hD hS => ?_)
  rw [c_i2 (F := upZ (upZ (upZ (fun _ => 0) 0 109) 1 111) 2 115) (k := Int32.toNatClampNeg 3) (c := vp_nar .char 116) (v := 116) (by decide)] at hP hD
  have hP : va_P D vwCl ((h0, .inr (12, fs)) :: (q_115, .inl (D.1 14, 4, .inl (fun j => i2 (upZ (upZ (upZ (upZ (fun _ => 0) 0 109) 1 111) 2 115) 3 116 j)))) :: T) H := hP
  have hD : va_D A ((h0, .inr (12, fs)) :: (q_115, .inl (D.1 14, 4, .inl (fun j => i2 (upZ (upZ (upZ (upZ (fun _ => 0) 0 109) 1 111) 2 115) 3 116 j)))) :: T) := hD
  refine va_putF (D := D) (ci := 12) (v := .ref q_115) (ty := .array .char) (C := RX12) (T := TX12) (N := 116) hx hb ht inX12 tyX12 tyX12_ok nmX12 hown hK hP hD hS 0 rfl rfl 83 (by decide) (ht (.fieldLink RX12 189 "CloneVolumesModel" "mostAsked" "[C") fl_X12_189) (fun _ h9 => h9) rfl hin rfl (by decide +kernel) rfl rfl (by rw [hlen]; decide) dX12_init_1188 (fun H locs hP hD hS => ?_)
  have hP : va_P D vwCl ((h0, .inr (12, (fs.set 83 (.ref q_115)))) :: (q_115, .inl (D.1 14, 4, .inl (fun j => i2 (upZ (upZ (upZ (upZ (fun _ => 0) 0 109) 1 111) 2 115) 3 116 j)))) :: T) H := hP
  have hD : va_D A ((h0, .inr (12, (fs.set 83 (.ref q_115)))) :: (q_115, .inl (D.1 14, 4, .inl (fun j => i2 (upZ (upZ (upZ (upZ (fun _ => 0) 0 109) 1 111) 2 115) 3 116 j)))) :: T) := hD
  generalize hfs_116 : fs.set 83 (.ref q_115) = fs_116 at hP hD
  have hlen : fs_116.length = 116 := by rw [← hfs_116, List.length_set]; exact hlen
  have hP : va_P D vwCl ((h0, .inr (12, fs_116)) :: (q_115, .inl (D.1 14, 4, .inl (fun j => i2 (upZ (upZ (upZ (upZ (fun _ => 0) 0 109) 1 111) 2 115) 3 116 j)))) :: T) H := hP
  have hD : va_D A ((h0, .inr (12, fs_116)) :: (q_115, .inl (D.1 14, 4, .inl (fun j => i2 (upZ (upZ (upZ (upZ (fun _ => 0) 0 109) 1 111) 2 115) 3 116 j)))) :: T) := hD
  refine lv_aload_n hx hb dX12_init_1191 rfl (lv_at hl 0 rfl) ?_
  refine lv_iconst (v := 5) hx hb dX12_init_1192 (by decide) ?_
  refine va_newa (atype := .char) (a0 := (5, .inl (fun _ => 0))) (ty := .char) (N' := 5) hx hb (ht _ ac_char) rfl hK hP hD hS hA (fun _ => rfl) (by decide) (by decide) (by decide) (Nat.le_trans (Nat.le_of_ble_eq_true rfl) hRc) (Nat.le_trans (Nat.le_of_ble_eq_true rfl) hRs) dX12_init_1193 (fun q_117 cA H hK2 hP hD hS => ?_)
  obtain rfl := z_cls_char hK hK2
  refine W.widen (k := 58) (n := 27687) (Nat.le_of_ble_eq_true rfl) (Nat.le_of_ble_eq_true rfl) ?_
  obtain ⟨hP, hD⟩ := z_rot hP hD
  have hP : va_P D vwCl ((h0, .inr (12, fs_116)) :: (q_117, .inl (D.1 14, 5, .inl (fun _ => i2 0))) :: (q_115, .inl (D.1 14, 4, .inl (fun j => i2 (upZ (upZ (upZ (upZ (fun _ => 0) 0 109) 1 111) 2 115) 3 116 j)))) :: T) H := hP
  have hD : va_D A ((h0, .inr (12, fs_116)) :: (q_117, .inl (D.1 14, 5, .inl (fun _ => i2 0))) :: (q_115, .inl (D.1 14, 4, .inl (fun j => i2 (upZ (upZ (upZ (upZ (fun _ => 0) 0 109) 1 111) 2 115) 3 116 j)))) :: T) := hD
  refine lv_dup hx hb dX12_init_1195 rfl ?_
  refine lv_iconst (v := 0) hx hb dX12_init_1196 (by decide) ?_
  refine lv_bipush (v := 108) hx hb dX12_init_1197 (by decide) ?_
  refine va_cast hx hb hK hP hD hS 1 1 rfl rfl (z_in (by decide) (by decide)) dX12_init_1199 (fun H locs hP hD hS => ?_)
  rw [c_i2 (F := fun _ => 0) (k := Int32.toNatClampNeg 0) (c := vp_nar .char 108) (v := 108) (by decide)] at hP hD
  have hP : va_P D vwCl ((h0, .inr (12, fs_116)) :: (q_117, .inl (D.1 14, 5, .inl (fun j => i2 (upZ (fun _ => 0) 0 108 j)))) :: (q_115, .inl (D.1 14, 4, .inl (fun j => i2 (upZ (upZ (upZ (upZ (fun _ => 0) 0 109) 1 111) 2 115) 3 116 j)))) :: T) H := hP
  have hD : va_D A ((h0, .inr (12, fs_116)) :: (q_117, .inl (D.1 14, 5, .inl (fun j => i2 (upZ (fun _ => 0) 0 108 j)))) :: (q_115, .inl (D.1 14, 4, .inl (fun j => i2 (upZ (upZ (upZ (upZ (fun _ => 0) 0 109) 1 111) 2 115) 3 116 j)))) :: T) := hD
  refine lv_dup hx hb dX12_init_1200 rfl ?_
  refine lv_iconst (v := 1) hx hb dX12_init_1201 (by decide) ?_
  refine lv_bipush (v := 101) hx hb dX12_init_1202 (by decide) ?_
  refine va_cast hx hb hK hP hD hS 1 1 rfl rfl (z_in (by decide) (by decide)) dX12_init_1204 (fun H locs hP hD hS => ?_)
  rw [c_i2 (F := upZ (fun _ => 0) 0 108) (k := Int32.toNatClampNeg 1) (c := vp_nar .char 101) (v := 101) (by decide)] at hP hD
  have hP : va_P D vwCl ((h0, .inr (12, fs_116)) :: (q_117, .inl (D.1 14, 5, .inl (fun j => i2 (upZ (upZ (fun _ => 0) 0 108) 1 101 j)))) :: (q_115, .inl (D.1 14, 4, .inl (fun j => i2 (upZ (upZ (upZ (upZ (fun _ => 0) 0 109) 1 111) 2 115) 3 116 j)))) :: T) H := hP
  have hD : va_D A ((h0, .inr (12, fs_116)) :: (q_117, .inl (D.1 14, 5, .inl (fun j => i2 (upZ (upZ (fun _ => 0) 0 108) 1 101 j)))) :: (q_115, .inl (D.1 14, 4, .inl (fun j => i2 (upZ (upZ (upZ (upZ (fun _ => 0) 0 109) 1 111) 2 115) 3 116 j)))) :: T) := hD
  refine lv_dup hx hb dX12_init_1205 rfl ?_
  refine lv_iconst (v := 2) hx hb dX12_init_1206 (by decide) ?_
  refine lv_bipush (v := 97) hx hb dX12_init_1207 (by decide) ?_
  refine va_cast hx hb hK hP hD hS 1 1 rfl rfl (z_in (by decide) (by decide)) dX12_init_1209 (fun H locs hP hD hS => ?_)
  rw [c_i2 (F := upZ (upZ (fun _ => 0) 0 108) 1 101) (k := Int32.toNatClampNeg 2) (c := vp_nar .char 97) (v := 97) (by decide)] at hP hD
  have hP : va_P D vwCl ((h0, .inr (12, fs_116)) :: (q_117, .inl (D.1 14, 5, .inl (fun j => i2 (upZ (upZ (upZ (fun _ => 0) 0 108) 1 101) 2 97 j)))) :: (q_115, .inl (D.1 14, 4, .inl (fun j => i2 (upZ (upZ (upZ (upZ (fun _ => 0) 0 109) 1 111) 2 115) 3 116 j)))) :: T) H := hP
  have hD : va_D A ((h0, .inr (12, fs_116)) :: (q_117, .inl (D.1 14, 5, .inl (fun j => i2 (upZ (upZ (upZ (fun _ => 0) 0 108) 1 101) 2 97 j)))) :: (q_115, .inl (D.1 14, 4, .inl (fun j => i2 (upZ (upZ (upZ (upZ (fun _ => 0) 0 109) 1 111) 2 115) 3 116 j)))) :: T) := hD
  refine lv_dup hx hb dX12_init_1210 rfl ?_
  refine lv_iconst (v := 3) hx hb dX12_init_1211 (by decide) ?_
  refine lv_bipush (v := 115) hx hb dX12_init_1212 (by decide) ?_
  refine va_cast hx hb hK hP hD hS 1 1 rfl rfl (z_in (by decide) (by decide)) dX12_init_1214 (fun H locs hP hD hS => ?_)
  rw [c_i2 (F := upZ (upZ (upZ (fun _ => 0) 0 108) 1 101) 2 97) (k := Int32.toNatClampNeg 3) (c := vp_nar .char 115) (v := 115) (by decide)] at hP hD
  have hP : va_P D vwCl ((h0, .inr (12, fs_116)) :: (q_117, .inl (D.1 14, 5, .inl (fun j => i2 (upZ (upZ (upZ (upZ (fun _ => 0) 0 108) 1 101) 2 97) 3 115 j)))) :: (q_115, .inl (D.1 14, 4, .inl (fun j => i2 (upZ (upZ (upZ (upZ (fun _ => 0) 0 109) 1 111) 2 115) 3 116 j)))) :: T) H := hP
  have hD : va_D A ((h0, .inr (12, fs_116)) :: (q_117, .inl (D.1 14, 5, .inl (fun j => i2 (upZ (upZ (upZ (upZ (fun _ => 0) 0 108) 1 101) 2 97) 3 115 j)))) :: (q_115, .inl (D.1 14, 4, .inl (fun j => i2 (upZ (upZ (upZ (upZ (fun _ => 0) 0 109) 1 111) 2 115) 3 116 j)))) :: T) := hD
  refine lv_dup hx hb dX12_init_1215 rfl ?_
  refine lv_iconst (v := 4) hx hb dX12_init_1216 (by decide) ?_
  refine lv_bipush (v := 116) hx hb dX12_init_1217 (by decide) ?_
  refine va_cast hx hb hK hP hD hS 1 1 rfl rfl (z_in (by decide) (by decide)) dX12_init_1219 (fun H locs hP hD hS => ?_)
  rw [c_i2 (F := upZ (upZ (upZ (upZ (fun _ => 0) 0 108) 1 101) 2 97) 3 115) (k := Int32.toNatClampNeg 4) (c := vp_nar .char 116) (v := 116) (by decide)] at hP hD
  have hP : va_P D vwCl ((h0, .inr (12, fs_116)) :: (q_117, .inl (D.1 14, 5, .inl (fun j => i2 (upZ (upZ (upZ (upZ (upZ (fun _ => 0) 0 108) 1 101) 2 97) 3 115) 4 116 j)))) :: (q_115, .inl (D.1 14, 4, .inl (fun j => i2 (upZ (upZ (upZ (upZ (fun _ => 0) 0 109) 1 111) 2 115) 3 116 j)))) :: T) H := hP
  have hD : va_D A ((h0, .inr (12, fs_116)) :: (q_117, .inl (D.1 14, 5, .inl (fun j => i2 (upZ (upZ (upZ (upZ (upZ (fun _ => 0) 0 108) 1 101) 2 97) 3 115) 4 116 j)))) :: (q_115, .inl (D.1 14, 4, .inl (fun j => i2 (upZ (upZ (upZ (upZ (fun _ => 0) 0 109) 1 111) 2 115) 3 116 j)))) :: T) := hD
  refine va_putF (D := D) (ci := 12) (v := .ref q_117) (ty := .array .char) (C := RX12) (T := TX12) (N := 116) hx hb ht inX12 tyX12 tyX12_ok nmX12 hown hK hP hD hS 0 rfl rfl 84 (by decide) (ht (.fieldLink RX12 192 "CloneVolumesModel" "leastAsked" "[C") fl_X12_192) (fun _ h9 => h9) rfl hin rfl (by decide +kernel) rfl rfl (by rw [hlen]; decide) dX12_init_1220 (fun H locs hP hD hS => ?_)
  have hP : va_P D vwCl ((h0, .inr (12, (fs_116.set 84 (.ref q_117)))) :: (q_117, .inl (D.1 14, 5, .inl (fun j => i2 (upZ (upZ (upZ (upZ (upZ (fun _ => 0) 0 108) 1 101) 2 97) 3 115) 4 116 j)))) :: (q_115, .inl (D.1 14, 4, .inl (fun j => i2 (upZ (upZ (upZ (upZ (fun _ => 0) 0 109) 1 111) 2 115) 3 116 j)))) :: T) H := hP
  have hD : va_D A ((h0, .inr (12, (fs_116.set 84 (.ref q_117)))) :: (q_117, .inl (D.1 14, 5, .inl (fun j => i2 (upZ (upZ (upZ (upZ (upZ (fun _ => 0) 0 108) 1 101) 2 97) 3 115) 4 116 j)))) :: (q_115, .inl (D.1 14, 4, .inl (fun j => i2 (upZ (upZ (upZ (upZ (fun _ => 0) 0 109) 1 111) 2 115) 3 116 j)))) :: T) := hD
  generalize hfs_118 : fs_116.set 84 (.ref q_117) = fs_118 at hP hD
  have hlen : fs_118.length = 116 := by rw [← hfs_118, List.length_set]; exact hlen
  have hP : va_P D vwCl ((h0, .inr (12, fs_118)) :: (q_117, .inl (D.1 14, 5, .inl (fun j => i2 (upZ (upZ (upZ (upZ (upZ (fun _ => 0) 0 108) 1 101) 2 97) 3 115) 4 116 j)))) :: (q_115, .inl (D.1 14, 4, .inl (fun j => i2 (upZ (upZ (upZ (upZ (fun _ => 0) 0 109) 1 111) 2 115) 3 116 j)))) :: T) H := hP
  have hD : va_D A ((h0, .inr (12, fs_118)) :: (q_117, .inl (D.1 14, 5, .inl (fun j => i2 (upZ (upZ (upZ (upZ (upZ (fun _ => 0) 0 108) 1 101) 2 97) 3 115) 4 116 j)))) :: (q_115, .inl (D.1 14, 4, .inl (fun j => i2 (upZ (upZ (upZ (upZ (fun _ => 0) 0 109) 1 111) 2 115) 3 116 j)))) :: T) := hD
  refine lv_aload_n hx hb dX12_init_1223 rfl (lv_at hl 0 rfl) ?_
  refine lv_iconst (v := 3) hx hb dX12_init_1224 (by decide) ?_
  refine va_newa (atype := .char) (a0 := (3, .inl (fun _ => 0))) (ty := .char) (N' := 3) hx hb (ht _ ac_char) rfl hK hP hD hS hA (fun _ => rfl) (by decide) (by decide) (by decide) (Nat.le_trans (Nat.le_of_ble_eq_true rfl) hRc) (Nat.le_trans (Nat.le_of_ble_eq_true rfl) hRs) dX12_init_1225 (fun q_119 cA H hK2 hP hD hS => ?_)
  obtain rfl := z_cls_char hK hK2
  refine W.widen (k := 59) (n := 27690) (Nat.le_of_ble_eq_true rfl) (Nat.le_of_ble_eq_true rfl) ?_
  obtain ⟨hP, hD⟩ := z_rot hP hD
  have hP : va_P D vwCl ((h0, .inr (12, fs_118)) :: (q_119, .inl (D.1 14, 3, .inl (fun _ => i2 0))) :: (q_117, .inl (D.1 14, 5, .inl (fun j => i2 (upZ (upZ (upZ (upZ (upZ (fun _ => 0) 0 108) 1 101) 2 97) 3 115) 4 116 j)))) :: (q_115, .inl (D.1 14, 4, .inl (fun j => i2 (upZ (upZ (upZ (upZ (fun _ => 0) 0 109) 1 111) 2 115) 3 116 j)))) :: T) H := hP
  have hD : va_D A ((h0, .inr (12, fs_118)) :: (q_119, .inl (D.1 14, 3, .inl (fun _ => i2 0))) :: (q_117, .inl (D.1 14, 5, .inl (fun j => i2 (upZ (upZ (upZ (upZ (upZ (fun _ => 0) 0 108) 1 101) 2 97) 3 115) 4 116 j)))) :: (q_115, .inl (D.1 14, 4, .inl (fun j => i2 (upZ (upZ (upZ (upZ (fun _ => 0) 0 109) 1 111) 2 115) 3 116 j)))) :: T) := hD
  refine lv_dup hx hb dX12_init_1227 rfl ?_
  refine lv_iconst (v := 0) hx hb dX12_init_1228 (by decide) ?_
  refine lv_bipush (v := 110) hx hb dX12_init_1229 (by decide) ?_
  refine va_cast hx hb hK hP hD hS 1 1 rfl rfl (z_in (by decide) (by decide)) dX12_init_1231 (fun H locs hP hD hS => ?_)
  rw [c_i2 (F := fun _ => 0) (k := Int32.toNatClampNeg 0) (c := vp_nar .char 110) (v := 110) (by decide)] at hP hD
  have hP : va_P D vwCl ((h0, .inr (12, fs_118)) :: (q_119, .inl (D.1 14, 3, .inl (fun j => i2 (upZ (fun _ => 0) 0 110 j)))) :: (q_117, .inl (D.1 14, 5, .inl (fun j => i2 (upZ (upZ (upZ (upZ (upZ (fun _ => 0) 0 108) 1 101) 2 97) 3 115) 4 116 j)))) :: (q_115, .inl (D.1 14, 4, .inl (fun j => i2 (upZ (upZ (upZ (upZ (fun _ => 0) 0 109) 1 111) 2 115) 3 116 j)))) :: T) H := hP
  have hD : va_D A ((h0, .inr (12, fs_118)) :: (q_119, .inl (D.1 14, 3, .inl (fun j => i2 (upZ (fun _ => 0) 0 110 j)))) :: (q_117, .inl (D.1 14, 5, .inl (fun j => i2 (upZ (upZ (upZ (upZ (upZ (fun _ => 0) 0 108) 1 101) 2 97) 3 115) 4 116 j)))) :: (q_115, .inl (D.1 14, 4, .inl (fun j => i2 (upZ (upZ (upZ (upZ (fun _ => 0) 0 109) 1 111) 2 115) 3 116 j)))) :: T) := hD
  refine lv_dup hx hb dX12_init_1232 rfl ?_
  refine lv_iconst (v := 1) hx hb dX12_init_1233 (by decide) ?_
  refine lv_bipush (v := 111) hx hb dX12_init_1234 (by decide) ?_
  refine va_cast hx hb hK hP hD hS 1 1 rfl rfl (z_in (by decide) (by decide)) dX12_init_1236 (fun H locs hP hD hS => ?_)
  rw [c_i2 (F := upZ (fun _ => 0) 0 110) (k := Int32.toNatClampNeg 1) (c := vp_nar .char 111) (v := 111) (by decide)] at hP hD
  have hP : va_P D vwCl ((h0, .inr (12, fs_118)) :: (q_119, .inl (D.1 14, 3, .inl (fun j => i2 (upZ (upZ (fun _ => 0) 0 110) 1 111 j)))) :: (q_117, .inl (D.1 14, 5, .inl (fun j => i2 (upZ (upZ (upZ (upZ (upZ (fun _ => 0) 0 108) 1 101) 2 97) 3 115) 4 116 j)))) :: (q_115, .inl (D.1 14, 4, .inl (fun j => i2 (upZ (upZ (upZ (upZ (fun _ => 0) 0 109) 1 111) 2 115) 3 116 j)))) :: T) H := hP
  have hD : va_D A ((h0, .inr (12, fs_118)) :: (q_119, .inl (D.1 14, 3, .inl (fun j => i2 (upZ (upZ (fun _ => 0) 0 110) 1 111 j)))) :: (q_117, .inl (D.1 14, 5, .inl (fun j => i2 (upZ (upZ (upZ (upZ (upZ (fun _ => 0) 0 108) 1 101) 2 97) 3 115) 4 116 j)))) :: (q_115, .inl (D.1 14, 4, .inl (fun j => i2 (upZ (upZ (upZ (upZ (fun _ => 0) 0 109) 1 111) 2 115) 3 116 j)))) :: T) := hD
  refine lv_dup hx hb dX12_init_1237 rfl ?_
  refine lv_iconst (v := 2) hx hb dX12_init_1238 (by decide) ?_
  refine lv_bipush (v := 116) hx hb dX12_init_1239 (by decide) ?_
  refine va_cast hx hb hK hP hD hS 1 1 rfl rfl (z_in (by decide) (by decide)) dX12_init_1241 (fun H locs hP hD hS => ?_)
  rw [c_i2 (F := upZ (upZ (fun _ => 0) 0 110) 1 111) (k := Int32.toNatClampNeg 2) (c := vp_nar .char 116) (v := 116) (by decide)] at hP hD
  have hP : va_P D vwCl ((h0, .inr (12, fs_118)) :: (q_119, .inl (D.1 14, 3, .inl (fun j => i2 (upZ (upZ (upZ (fun _ => 0) 0 110) 1 111) 2 116 j)))) :: (q_117, .inl (D.1 14, 5, .inl (fun j => i2 (upZ (upZ (upZ (upZ (upZ (fun _ => 0) 0 108) 1 101) 2 97) 3 115) 4 116 j)))) :: (q_115, .inl (D.1 14, 4, .inl (fun j => i2 (upZ (upZ (upZ (upZ (fun _ => 0) 0 109) 1 111) 2 115) 3 116 j)))) :: T) H := hP
  have hD : va_D A ((h0, .inr (12, fs_118)) :: (q_119, .inl (D.1 14, 3, .inl (fun j => i2 (upZ (upZ (upZ (fun _ => 0) 0 110) 1 111) 2 116 j)))) :: (q_117, .inl (D.1 14, 5, .inl (fun j => i2 (upZ (upZ (upZ (upZ (upZ (fun _ => 0) 0 108) 1 101) 2 97) 3 115) 4 116 j)))) :: (q_115, .inl (D.1 14, 4, .inl (fun j => i2 (upZ (upZ (upZ (upZ (fun _ => 0) 0 109) 1 111) 2 115) 3 116 j)))) :: T) := hD
  refine va_putF (D := D) (ci := 12) (v := .ref q_119) (ty := .array .char) (C := RX12) (T := TX12) (N := 116) hx hb ht inX12 tyX12 tyX12_ok nmX12 hown hK hP hD hS 0 rfl rfl 85 (by decide) (ht (.fieldLink RX12 195 "CloneVolumesModel" "notAsked" "[C") fl_X12_195) (fun _ h9 => h9) rfl hin rfl (by decide +kernel) rfl rfl (by rw [hlen]; decide) dX12_init_1242 (fun H locs hP hD hS => ?_)
  have hP : va_P D vwCl ((h0, .inr (12, (fs_118.set 85 (.ref q_119)))) :: (q_119, .inl (D.1 14, 3, .inl (fun j => i2 (upZ (upZ (upZ (fun _ => 0) 0 110) 1 111) 2 116 j)))) :: (q_117, .inl (D.1 14, 5, .inl (fun j => i2 (upZ (upZ (upZ (upZ (upZ (fun _ => 0) 0 108) 1 101) 2 97) 3 115) 4 116 j)))) :: (q_115, .inl (D.1 14, 4, .inl (fun j => i2 (upZ (upZ (upZ (upZ (fun _ => 0) 0 109) 1 111) 2 115) 3 116 j)))) :: T) H := hP
  have hD : va_D A ((h0, .inr (12, (fs_118.set 85 (.ref q_119)))) :: (q_119, .inl (D.1 14, 3, .inl (fun j => i2 (upZ (upZ (upZ (fun _ => 0) 0 110) 1 111) 2 116 j)))) :: (q_117, .inl (D.1 14, 5, .inl (fun j => i2 (upZ (upZ (upZ (upZ (upZ (fun _ => 0) 0 108) 1 101) 2 97) 3 115) 4 116 j)))) :: (q_115, .inl (D.1 14, 4, .inl (fun j => i2 (upZ (upZ (upZ (upZ (fun _ => 0) 0 109) 1 111) 2 115) 3 116 j)))) :: T) := hD
  generalize hfs_120 : fs_118.set 85 (.ref q_119) = fs_120 at hP hD
  have hlen : fs_120.length = 116 := by rw [← hfs_120, List.length_set]; exact hlen
  have hP : va_P D vwCl ((h0, .inr (12, fs_120)) :: (q_119, .inl (D.1 14, 3, .inl (fun j => i2 (upZ (upZ (upZ (fun _ => 0) 0 110) 1 111) 2 116 j)))) :: (q_117, .inl (D.1 14, 5, .inl (fun j => i2 (upZ (upZ (upZ (upZ (upZ (fun _ => 0) 0 108) 1 101) 2 97) 3 115) 4 116 j)))) :: (q_115, .inl (D.1 14, 4, .inl (fun j => i2 (upZ (upZ (upZ (upZ (fun _ => 0) 0 109) 1 111) 2 115) 3 116 j)))) :: T) H := hP
  have hD : va_D A ((h0, .inr (12, fs_120)) :: (q_119, .inl (D.1 14, 3, .inl (fun j => i2 (upZ (upZ (upZ (fun _ => 0) 0 110) 1 111) 2 116 j)))) :: (q_117, .inl (D.1 14, 5, .inl (fun j => i2 (upZ (upZ (upZ (upZ (upZ (fun _ => 0) 0 108) 1 101) 2 97) 3 115) 4 116 j)))) :: (q_115, .inl (D.1 14, 4, .inl (fun j => i2 (upZ (upZ (upZ (upZ (fun _ => 0) 0 109) 1 111) 2 115) 3 116 j)))) :: T) := hD
  exact kk q_119 q_117 q_115 fs_120 _ _ (by rw [← hfs_120, ← hfs_118, ← hfs_116]) hP hD hS
