theorem ml_X11_3 : Cond.methodLink RX11 3 objectInit ∈ lw_gd := zm (List.mem_of_getElem? (i := 223) (by decide +kernel)) rfl
theorem cx_X11_9 : Cond.classLink RX11 9 RX9 ∈ lw_gd := zm (List.mem_of_getElem? (i := 226) (by decide +kernel)) rfl
theorem ia_X9 : Cond.instantiable RX9 2 ∈ lw_gd := zm (List.mem_of_getElem? (i := 227) (by decide +kernel)) rfl
theorem co_X9_init : Cond.code yX9_init cX9_init 1 none ∈ lw_gd := zm (List.mem_of_getElem? (i := 230) (by decide +kernel)) rfl
theorem im_X9_init : Cond.instanceMethod yX9_init ∈ lw_gd := zm (List.mem_of_getElem? (i := 229) (by decide +kernel)) rfl
theorem cx_X11_16 : Cond.classLink RX11 16 RX6 ∈ lw_gd := zm (List.mem_of_getElem? (i := 246) (by decide +kernel)) rfl
theorem ia_X6 : Cond.instantiable RX6 12 ∈ lw_gd := zm (List.mem_of_getElem? (i := 247) (by decide +kernel)) rfl
theorem ml_X11_18 : Cond.methodLink RX11 18 yX6_init ∈ lw_gd := zm (List.mem_of_getElem? (i := 248) (by decide +kernel)) rfl
theorem co_X6_init : Cond.code yX6_init cX6_init 2 none ∈ lw_gd := zm (List.mem_of_getElem? (i := 250) (by decide +kernel)) rfl
theorem im_X6_init : Cond.instanceMethod yX6_init ∈ lw_gd := zm (List.mem_of_getElem? (i := 249) (by decide +kernel)) rfl
theorem cx_X11_25 : Cond.classLink RX11 25 RX2 ∈ lw_gd := zm (List.mem_of_getElem? (i := 339) (by decide +kernel)) rfl
theorem ia_X2 : Cond.instantiable RX2 6 ∈ lw_gd := zm (List.mem_of_getElem? (i := 340) (by decide +kernel)) rfl
theorem co_X2_init : Cond.code yX2_init cX2_init 1 none ∈ lw_gd := zm (List.mem_of_getElem? (i := 343) (by decide +kernel)) rfl
theorem im_X2_init : Cond.instanceMethod yX2_init ∈ lw_gd := zm (List.mem_of_getElem? (i := 342) (by decide +kernel)) rfl
theorem cx_X11_32 : Cond.classLink RX11 32 RX7 ∈ lw_gd := zm (List.mem_of_getElem? (i := 367) (by decide +kernel)) rfl
theorem ia_X7 : Cond.instantiable RX7 6 ∈ lw_gd := zm (List.mem_of_getElem? (i := 368) (by decide +kernel)) rfl
theorem co_X7_init : Cond.code yX7_init cX7_init 1 none ∈ lw_gd := zm (List.mem_of_getElem? (i := 371) (by decide +kernel)) rfl
theorem im_X7_init : Cond.instanceMethod yX7_init ∈ lw_gd := zm (List.mem_of_getElem? (i := 370) (by decide +kernel)) rfl
theorem cx_X11_39 : Cond.classLink RX11 39 RX4 ∈ lw_gd := zm (List.mem_of_getElem? (i := 394) (by decide +kernel)) rfl
theorem ia_X4 : Cond.instantiable RX4 6 ∈ lw_gd := zm (List.mem_of_getElem? (i := 395) (by decide +kernel)) rfl
theorem co_X4_init : Cond.code yX4_init cX4_init 1 none ∈ lw_gd := zm (List.mem_of_getElem? (i := 398) (by decide +kernel)) rfl
theorem im_X4_init : Cond.instanceMethod yX4_init ∈ lw_gd := zm (List.mem_of_getElem? (i := 397) (by decide +kernel)) rfl
theorem cx_X11_46 : Cond.classLink RX11 46 RX10 ∈ lw_gd := zm (List.mem_of_getElem? (i := 421) (by decide +kernel)) rfl
theorem ia_X10 : Cond.instantiable RX10 4 ∈ lw_gd := zm (List.mem_of_getElem? (i := 422) (by decide +kernel)) rfl
theorem in_X10 : Cond.initialized RX10 ∈ lw_gd := zm (List.mem_of_getElem? (i := 208) (by decide +kernel)) rfl
theorem co_X10_init : Cond.code yX10_init cX10_init 1 none ∈ lw_gd := zm (List.mem_of_getElem? (i := 425) (by decide +kernel)) rfl
theorem im_X10_init : Cond.instanceMethod yX10_init ∈ lw_gd := zm (List.mem_of_getElem? (i := 424) (by decide +kernel)) rfl
theorem fl_X11_49 : Cond.fieldLink RX11 49 "CloneVolumes" "walk" "LCloneVolumes$Walk;" ∈ lw_gd := zm (List.mem_of_getElem? (i := 705) (by decide +kernel)) rfl
theorem fl_X11_53 : Cond.fieldLink RX11 53 "CloneVolumes" "otherWalk" "LCloneVolumes$Walk;" ∈ lw_gd := zm (List.mem_of_getElem? (i := 706) (by decide +kernel)) rfl
theorem ac_long : Cond.arrayClass .long ∈ lw_gd := zm (List.mem_of_getElem? (i := 466) (by decide +kernel)) rfl
theorem cx_X11_64 : Cond.classLink RX11 64 RX5 ∈ lw_gd := zm (List.mem_of_getElem? (i := 442) (by decide +kernel)) rfl
theorem ia_X5 : Cond.instantiable RX5 14 ∈ lw_gd := zm (List.mem_of_getElem? (i := 443) (by decide +kernel)) rfl
theorem ml_X11_66 : Cond.methodLink RX11 66 yX5_init ∈ lw_gd := zm (List.mem_of_getElem? (i := 444) (by decide +kernel)) rfl
theorem co_X5_init : Cond.code yX5_init cX5_init 1 none ∈ lw_gd := zm (List.mem_of_getElem? (i := 446) (by decide +kernel)) rfl
theorem im_X5_init : Cond.instanceMethod yX5_init ∈ lw_gd := zm (List.mem_of_getElem? (i := 445) (by decide +kernel)) rfl
theorem fl_X11_67 : Cond.fieldLink RX11 67 "CloneVolumes" "plan" "LCloneVolumes$Plan;" ∈ lw_gd := zm (List.mem_of_getElem? (i := 709) (by decide +kernel)) rfl
theorem cx_X11_74 : Cond.classLink RX11 74 RX1 ∈ lw_gd := zm (List.mem_of_getElem? (i := 537) (by decide +kernel)) rfl
theorem ia_X1 : Cond.instantiable RX1 9 ∈ lw_gd := zm (List.mem_of_getElem? (i := 538) (by decide +kernel)) rfl
theorem in_X1 : Cond.initialized RX1 ∈ lw_gd := zm (List.mem_of_getElem? (i := 211) (by decide +kernel)) rfl
theorem ml_X11_76 : Cond.methodLink RX11 76 yX1_init ∈ lw_gd := zm (List.mem_of_getElem? (i := 539) (by decide +kernel)) rfl
theorem co_X1_init : Cond.code yX1_init cX1_init 2 none ∈ lw_gd := zm (List.mem_of_getElem? (i := 541) (by decide +kernel)) rfl
theorem im_X1_init : Cond.instanceMethod yX1_init ∈ lw_gd := zm (List.mem_of_getElem? (i := 540) (by decide +kernel)) rfl
theorem ml_X12_1 : Cond.methodLink RX12 1 objectInit ∈ lw_gd := zm (List.mem_of_getElem? (i := 1537) (by decide +kernel)) rfl
theorem fl_X12_27 : Cond.fieldLink RX12 27 "CloneVolumesModel" "volumeWord" "[C" ∈ lw_gd := zm (List.mem_of_getElem? (i := 1551) (by decide +kernel)) rfl
theorem fl_X12_30 : Cond.fieldLink RX12 30 "CloneVolumesModel" "cloneWord" "[C" ∈ lw_gd := zm (List.mem_of_getElem? (i := 1552) (by decide +kernel)) rfl
theorem fl_X12_33 : Cond.fieldLink RX12 33 "CloneVolumesModel" "ofWord" "[C" ∈ lw_gd := zm (List.mem_of_getElem? (i := 1553) (by decide +kernel)) rfl
theorem fl_X12_36 : Cond.fieldLink RX12 36 "CloneVolumesModel" "putWord" "[C" ∈ lw_gd := zm (List.mem_of_getElem? (i := 1554) (by decide +kernel)) rfl
theorem fl_X12_39 : Cond.fieldLink RX12 39 "CloneVolumesModel" "removeWord" "[C" ∈ lw_gd := zm (List.mem_of_getElem? (i := 1555) (by decide +kernel)) rfl
theorem fl_X12_42 : Cond.fieldLink RX12 42 "CloneVolumesModel" "picksWord" "[C" ∈ lw_gd := zm (List.mem_of_getElem? (i := 1556) (by decide +kernel)) rfl
theorem fl_X12_45 : Cond.fieldLink RX12 45 "CloneVolumesModel" "splitsWord" "[C" ∈ lw_gd := zm (List.mem_of_getElem? (i := 1557) (by decide +kernel)) rfl
theorem fl_X12_48 : Cond.fieldLink RX12 48 "CloneVolumesModel" "costsWord" "[C" ∈ lw_gd := zm (List.mem_of_getElem? (i := 1558) (by decide +kernel)) rfl
theorem fl_X12_51 : Cond.fieldLink RX12 51 "CloneVolumesModel" "churnWord" "[C" ∈ lw_gd := zm (List.mem_of_getElem? (i := 1559) (by decide +kernel)) rfl
theorem fl_X12_54 : Cond.fieldLink RX12 54 "CloneVolumesModel" "blockWord" "[C" ∈ lw_gd := zm (List.mem_of_getElem? (i := 1560) (by decide +kernel)) rfl
theorem fl_X12_57 : Cond.fieldLink RX12 57 "CloneVolumesModel" "fromWord" "[C" ∈ lw_gd := zm (List.mem_of_getElem? (i := 1561) (by decide +kernel)) rfl
theorem fl_X12_60 : Cond.fieldLink RX12 60 "CloneVolumesModel" "levelWord" "[C" ∈ lw_gd := zm (List.mem_of_getElem? (i := 1562) (by decide +kernel)) rfl
theorem fl_X12_63 : Cond.fieldLink RX12 63 "CloneVolumesModel" "entriesWord" "[C" ∈ lw_gd := zm (List.mem_of_getElem? (i := 1563) (by decide +kernel)) rfl
theorem fl_X12_66 : Cond.fieldLink RX12 66 "CloneVolumesModel" "numberWord" "[C" ∈ lw_gd := zm (List.mem_of_getElem? (i := 1564) (by decide +kernel)) rfl
theorem fl_X12_69 : Cond.fieldLink RX12 69 "CloneVolumesModel" "countWord" "[C" ∈ lw_gd := zm (List.mem_of_getElem? (i := 1565) (by decide +kernel)) rfl
theorem fl_X12_72 : Cond.fieldLink RX12 72 "CloneVolumesModel" "freshWord" "[C" ∈ lw_gd := zm (List.mem_of_getElem? (i := 1566) (by decide +kernel)) rfl
theorem fl_X12_75 : Cond.fieldLink RX12 75 "CloneVolumesModel" "savedWord" "[C" ∈ lw_gd := zm (List.mem_of_getElem? (i := 1567) (by decide +kernel)) rfl
theorem fl_X12_78 : Cond.fieldLink RX12 78 "CloneVolumesModel" "refsWord" "[C" ∈ lw_gd := zm (List.mem_of_getElem? (i := 1568) (by decide +kernel)) rfl
theorem fl_X12_81 : Cond.fieldLink RX12 81 "CloneVolumesModel" "keyWord" "[C" ∈ lw_gd := zm (List.mem_of_getElem? (i := 1569) (by decide +kernel)) rfl
theorem fl_X12_84 : Cond.fieldLink RX12 84 "CloneVolumesModel" "orWord" "[C" ∈ lw_gd := zm (List.mem_of_getElem? (i := 1570) (by decide +kernel)) rfl
theorem fl_X12_87 : Cond.fieldLink RX12 87 "CloneVolumesModel" "andWord" "[C" ∈ lw_gd := zm (List.mem_of_getElem? (i := 1571) (by decide +kernel)) rfl
theorem fl_X12_90 : Cond.fieldLink RX12 90 "CloneVolumesModel" "notWord" "[C" ∈ lw_gd := zm (List.mem_of_getElem? (i := 1572) (by decide +kernel)) rfl
theorem fl_X12_93 : Cond.fieldLink RX12 93 "CloneVolumesModel" "allWord" "[C" ∈ lw_gd := zm (List.mem_of_getElem? (i := 1573) (by decide +kernel)) rfl
theorem fl_X12_96 : Cond.fieldLink RX12 96 "CloneVolumesModel" "minWord" "[C" ∈ lw_gd := zm (List.mem_of_getElem? (i := 1574) (by decide +kernel)) rfl
theorem fl_X12_99 : Cond.fieldLink RX12 99 "CloneVolumesModel" "maxWord" "[C" ∈ lw_gd := zm (List.mem_of_getElem? (i := 1575) (by decide +kernel)) rfl
theorem fl_X12_105 : Cond.fieldLink RX12 105 "CloneVolumesModel" "names" "[J" ∈ lw_gd := zm (List.mem_of_getElem? (i := 1578) (by decide +kernel)) rfl
theorem fl_X12_109 : Cond.fieldLink RX12 109 "CloneVolumesModel" "acts" "[I" ∈ lw_gd := zm (List.mem_of_getElem? (i := 1579) (by decide +kernel)) rfl
theorem fl_X12_115 : Cond.fieldLink RX12 115 "CloneVolumesModel" "codeEnd" "[I" ∈ lw_gd := zm (List.mem_of_getElem? (i := 1581) (by decide +kernel)) rfl
theorem fl_X12_118 : Cond.fieldLink RX12 118 "CloneVolumesModel" "codes" "[I" ∈ lw_gd := zm (List.mem_of_getElem? (i := 1582) (by decide +kernel)) rfl
theorem ac_boolean : Cond.arrayClass .boolean ∈ lw_gd := zm (List.mem_of_getElem? (i := 1887) (by decide +kernel)) rfl
theorem fl_X12_124 : Cond.fieldLink RX12 124 "CloneVolumesModel" "isTouched" "[Z" ∈ lw_gd := zm (List.mem_of_getElem? (i := 1592) (by decide +kernel)) rfl
theorem fl_X12_128 : Cond.fieldLink RX12 128 "CloneVolumesModel" "fallRow" "[I" ∈ lw_gd := zm (List.mem_of_getElem? (i := 1594) (by decide +kernel)) rfl
theorem fl_X12_131 : Cond.fieldLink RX12 131 "CloneVolumesModel" "wayBlocks" "[I" ∈ lw_gd := zm (List.mem_of_getElem? (i := 1595) (by decide +kernel)) rfl
theorem fl_X12_134 : Cond.fieldLink RX12 134 "CloneVolumesModel" "wayPlaces" "[I" ∈ lw_gd := zm (List.mem_of_getElem? (i := 1596) (by decide +kernel)) rfl
theorem fl_X12_137 : Cond.fieldLink RX12 137 "CloneVolumesModel" "tried" "[I" ∈ lw_gd := zm (List.mem_of_getElem? (i := 1597) (by decide +kernel)) rfl
theorem fl_X12_140 : Cond.fieldLink RX12 140 "CloneVolumesModel" "wasTouched" "[Z" ∈ lw_gd := zm (List.mem_of_getElem? (i := 1598) (by decide +kernel)) rfl
theorem fl_X12_143 : Cond.fieldLink RX12 143 "CloneVolumesModel" "aside" "[I" ∈ lw_gd := zm (List.mem_of_getElem? (i := 1599) (by decide +kernel)) rfl
theorem fl_X12_146 : Cond.fieldLink RX12 146 "CloneVolumesModel" "treeRow" "[I" ∈ lw_gd := zm (List.mem_of_getElem? (i := 1600) (by decide +kernel)) rfl
theorem fl_X12_149 : Cond.fieldLink RX12 149 "CloneVolumesModel" "isInTree" "[Z" ∈ lw_gd := zm (List.mem_of_getElem? (i := 1601) (by decide +kernel)) rfl
theorem fl_X12_152 : Cond.fieldLink RX12 152 "CloneVolumesModel" "keyRow" "[I" ∈ lw_gd := zm (List.mem_of_getElem? (i := 1602) (by decide +kernel)) rfl
theorem fl_X12_155 : Cond.fieldLink RX12 155 "CloneVolumesModel" "valueRow" "[I" ∈ lw_gd := zm (List.mem_of_getElem? (i := 1603) (by decide +kernel)) rfl
theorem fl_X12_158 : Cond.fieldLink RX12 158 "CloneVolumesModel" "leafRow" "[I" ∈ lw_gd := zm (List.mem_of_getElem? (i := 1604) (by decide +kernel)) rfl
theorem fl_X12_161 : Cond.fieldLink RX12 161 "CloneVolumesModel" "wasInTree" "[Z" ∈ lw_gd := zm (List.mem_of_getElem? (i := 1607) (by decide +kernel)) rfl
theorem fl_X12_167 : Cond.fieldLink RX12 167 "CloneVolumesModel" "rows" "[I" ∈ lw_gd := zm (List.mem_of_getElem? (i := 1612) (by decide +kernel)) rfl
theorem fl_X12_170 : Cond.fieldLink RX12 170 "CloneVolumesModel" "kept0" "[I" ∈ lw_gd := zm (List.mem_of_getElem? (i := 1613) (by decide +kernel)) rfl
theorem fl_X12_177 : Cond.fieldLink RX12 177 "CloneVolumesModel" "firstAsked" "[C" ∈ lw_gd := zm (List.mem_of_getElem? (i := 1617) (by decide +kernel)) rfl
theorem fl_X12_180 : Cond.fieldLink RX12 180 "CloneVolumesModel" "lastAsked" "[C" ∈ lw_gd := zm (List.mem_of_getElem? (i := 1618) (by decide +kernel)) rfl
theorem fl_X12_183 : Cond.fieldLink RX12 183 "CloneVolumesModel" "oftenAsked" "[C" ∈ lw_gd := zm (List.mem_of_getElem? (i := 1619) (by decide +kernel)) rfl
theorem fl_X12_186 : Cond.fieldLink RX12 186 "CloneVolumesModel" "totalAsked" "[C" ∈ lw_gd := zm (List.mem_of_getElem? (i := 1620) (by decide +kernel)) rfl
theorem fl_X12_189 : Cond.fieldLink RX12 189 "CloneVolumesModel" "mostAsked" "[C" ∈ lw_gd := zm (List.mem_of_getElem? (i := 1621) (by decide +kernel)) rfl
theorem fl_X12_192 : Cond.fieldLink RX12 192 "CloneVolumesModel" "leastAsked" "[C" ∈ lw_gd := zm (List.mem_of_getElem? (i := 1622) (by decide +kernel)) rfl
theorem fl_X12_195 : Cond.fieldLink RX12 195 "CloneVolumesModel" "notAsked" "[C" ∈ lw_gd := zm (List.mem_of_getElem? (i := 1623) (by decide +kernel)) rfl
theorem fl_X12_198 : Cond.fieldLink RX12 198 "CloneVolumesModel" "andAsked" "[C" ∈ lw_gd := zm (List.mem_of_getElem? (i := 1624) (by decide +kernel)) rfl
theorem fl_X12_201 : Cond.fieldLink RX12 201 "CloneVolumesModel" "orAsked" "[C" ∈ lw_gd := zm (List.mem_of_getElem? (i := 1625) (by decide +kernel)) rfl
theorem fl_X12_204 : Cond.fieldLink RX12 204 "CloneVolumesModel" "allAsked" "[C" ∈ lw_gd := zm (List.mem_of_getElem? (i := 1626) (by decide +kernel)) rfl
theorem fl_X12_207 : Cond.fieldLink RX12 207 "CloneVolumesModel" "minAsked" "[C" ∈ lw_gd := zm (List.mem_of_getElem? (i := 1627) (by decide +kernel)) rfl
theorem fl_X12_210 : Cond.fieldLink RX12 210 "CloneVolumesModel" "maxAsked" "[C" ∈ lw_gd := zm (List.mem_of_getElem? (i := 1628) (by decide +kernel)) rfl
theorem fl_X12_213 : Cond.fieldLink RX12 213 "CloneVolumesModel" "levelAsked" "[C" ∈ lw_gd := zm (List.mem_of_getElem? (i := 1629) (by decide +kernel)) rfl
theorem fl_X12_216 : Cond.fieldLink RX12 216 "CloneVolumesModel" "blockAsked" "[C" ∈ lw_gd := zm (List.mem_of_getElem? (i := 1630) (by decide +kernel)) rfl
theorem fl_X12_219 : Cond.fieldLink RX12 219 "CloneVolumesModel" "fromAsked" "[C" ∈ lw_gd := zm (List.mem_of_getElem? (i := 1631) (by decide +kernel)) rfl
theorem fl_X12_222 : Cond.fieldLink RX12 222 "CloneVolumesModel" "entriesAsked" "[C" ∈ lw_gd := zm (List.mem_of_getElem? (i := 1632) (by decide +kernel)) rfl
theorem fl_X12_225 : Cond.fieldLink RX12 225 "CloneVolumesModel" "numberAsked" "[C" ∈ lw_gd := zm (List.mem_of_getElem? (i := 1633) (by decide +kernel)) rfl
theorem fl_X12_228 : Cond.fieldLink RX12 228 "CloneVolumesModel" "countAsked" "[C" ∈ lw_gd := zm (List.mem_of_getElem? (i := 1634) (by decide +kernel)) rfl
theorem fl_X12_231 : Cond.fieldLink RX12 231 "CloneVolumesModel" "freshAsked" "[C" ∈ lw_gd := zm (List.mem_of_getElem? (i := 1635) (by decide +kernel)) rfl
theorem fl_X12_234 : Cond.fieldLink RX12 234 "CloneVolumesModel" "savedAsked" "[C" ∈ lw_gd := zm (List.mem_of_getElem? (i := 1636) (by decide +kernel)) rfl
theorem fl_X12_237 : Cond.fieldLink RX12 237 "CloneVolumesModel" "refsAsked" "[C" ∈ lw_gd := zm (List.mem_of_getElem? (i := 1637) (by decide +kernel)) rfl
theorem fl_X12_240 : Cond.fieldLink RX12 240 "CloneVolumesModel" "keyAsked" "[C" ∈ lw_gd := zm (List.mem_of_getElem? (i := 1638) (by decide +kernel)) rfl
theorem fl_X12_243 : Cond.fieldLink RX12 243 "CloneVolumesModel" "qCodes" "[I" ∈ lw_gd := zm (List.mem_of_getElem? (i := 1639) (by decide +kernel)) rfl
theorem fl_X12_246 : Cond.fieldLink RX12 246 "CloneVolumesModel" "qWait" "[I" ∈ lw_gd := zm (List.mem_of_getElem? (i := 1641) (by decide +kernel)) rfl
theorem fl_X12_249 : Cond.fieldLink RX12 249 "CloneVolumesModel" "qPile" "[J" ∈ lw_gd := zm (List.mem_of_getElem? (i := 1645) (by decide +kernel)) rfl
theorem fl_X12_255 : Cond.fieldLink RX12 255 "CloneVolumesModel" "laid" "[I" ∈ lw_gd := zm (List.mem_of_getElem? (i := 1651) (by decide +kernel)) rfl
theorem fl_X12_258 : Cond.fieldLink RX12 258 "CloneVolumesModel" "recount" "[I" ∈ lw_gd := zm (List.mem_of_getElem? (i := 1653) (by decide +kernel)) rfl
theorem dX11_init_0 : decode cX11_init 0 = .ok (.aload_n 0, 1) := by decide +kernel
theorem dX11_init_1 : decode cX11_init 1 = .ok (.invokespecial 3, 3) := by decide +kernel
theorem dX11_init_4 : decode cX11_init 4 = .ok (.aload_n 0, 1) := by decide +kernel
theorem dX11_init_5 : decode cX11_init 5 = .ok (.new 9, 3) := by decide +kernel
theorem dX11_init_8 : decode cX11_init 8 = .ok (.dup, 1) := by decide +kernel
theorem dX11_init_9 : decode cX11_init 9 = .ok (.invokespecial 11, 3) := by decide +kernel
theorem dX11_init_12 : decode cX11_init 12 = .ok (.putfield 12, 3) := by decide +kernel
theorem dX11_init_15 : decode cX11_init 15 = .ok (.aload_n 0, 1) := by decide +kernel
theorem dX11_init_16 : decode cX11_init 16 = .ok (.new 16, 3) := by decide +kernel
theorem dX11_init_19 : decode cX11_init 19 = .ok (.dup, 1) := by decide +kernel
theorem dX11_init_20 : decode cX11_init 20 = .ok (.aload_n 0, 1) := by decide +kernel
theorem dX11_init_21 : decode cX11_init 21 = .ok (.getfield 12, 3) := by decide +kernel
theorem dX11_init_24 : decode cX11_init 24 = .ok (.invokespecial 18, 3) := by decide +kernel
theorem dX11_init_27 : decode cX11_init 27 = .ok (.putfield 21, 3) := by decide +kernel
theorem dX11_init_30 : decode cX11_init 30 = .ok (.aload_n 0, 1) := by decide +kernel
theorem dX11_init_31 : decode cX11_init 31 = .ok (.new 25, 3) := by decide +kernel
theorem dX11_init_34 : decode cX11_init 34 = .ok (.dup, 1) := by decide +kernel
theorem dX11_init_35 : decode cX11_init 35 = .ok (.invokespecial 27, 3) := by decide +kernel
theorem dX11_init_38 : decode cX11_init 38 = .ok (.putfield 28, 3) := by decide +kernel
theorem dX11_init_41 : decode cX11_init 41 = .ok (.aload_n 0, 1) := by decide +kernel
theorem dX11_init_42 : decode cX11_init 42 = .ok (.new 32, 3) := by decide +kernel
theorem dX11_init_45 : decode cX11_init 45 = .ok (.dup, 1) := by decide +kernel
theorem dX11_init_46 : decode cX11_init 46 = .ok (.invokespecial 34, 3) := by decide +kernel
theorem dX11_init_49 : decode cX11_init 49 = .ok (.putfield 35, 3) := by decide +kernel
theorem dX11_init_52 : decode cX11_init 52 = .ok (.aload_n 0, 1) := by decide +kernel
theorem dX11_init_53 : decode cX11_init 53 = .ok (.new 39, 3) := by decide +kernel
theorem dX11_init_56 : decode cX11_init 56 = .ok (.dup, 1) := by decide +kernel
theorem dX11_init_57 : decode cX11_init 57 = .ok (.invokespecial 41, 3) := by decide +kernel
theorem dX11_init_60 : decode cX11_init 60 = .ok (.putfield 42, 3) := by decide +kernel
theorem dX11_init_63 : decode cX11_init 63 = .ok (.aload_n 0, 1) := by decide +kernel
theorem dX11_init_64 : decode cX11_init 64 = .ok (.new 46, 3) := by decide +kernel
theorem dX11_init_67 : decode cX11_init 67 = .ok (.dup, 1) := by decide +kernel
theorem dX11_init_68 : decode cX11_init 68 = .ok (.invokespecial 48, 3) := by decide +kernel
theorem dX11_init_71 : decode cX11_init 71 = .ok (.putfield 49, 3) := by decide +kernel
theorem dX11_init_74 : decode cX11_init 74 = .ok (.aload_n 0, 1) := by decide +kernel
theorem dX11_init_75 : decode cX11_init 75 = .ok (.new 46, 3) := by decide +kernel
theorem dX11_init_78 : decode cX11_init 78 = .ok (.dup, 1) := by decide +kernel
theorem dX11_init_79 : decode cX11_init 79 = .ok (.invokespecial 48, 3) := by decide +kernel
theorem dX11_init_82 : decode cX11_init 82 = .ok (.putfield 53, 3) := by decide +kernel
theorem dX11_init_85 : decode cX11_init 85 = .ok (.aload_n 0, 1) := by decide +kernel
theorem dX11_init_86 : decode cX11_init 86 = .ok (.bipush 8, 2) := by decide +kernel
theorem dX11_init_88 : decode cX11_init 88 = .ok (.newarray .long, 2) := by decide +kernel
theorem dX11_init_90 : decode cX11_init 90 = .ok (.putfield 56, 3) := by decide +kernel
theorem dX11_init_93 : decode cX11_init 93 = .ok (.aload_n 0, 1) := by decide +kernel
theorem dX11_init_94 : decode cX11_init 94 = .ok (.bipush 6, 2) := by decide +kernel
theorem dX11_init_96 : decode cX11_init 96 = .ok (.newarray .int, 2) := by decide +kernel
theorem dX11_init_98 : decode cX11_init 98 = .ok (.putfield 60, 3) := by decide +kernel
theorem dX11_init_101 : decode cX11_init 101 = .ok (.aload_n 0, 1) := by decide +kernel
theorem dX11_init_102 : decode cX11_init 102 = .ok (.new 64, 3) := by decide +kernel
theorem dX11_init_105 : decode cX11_init 105 = .ok (.dup, 1) := by decide +kernel
theorem dX11_init_106 : decode cX11_init 106 = .ok (.invokespecial 66, 3) := by decide +kernel
theorem dX11_init_109 : decode cX11_init 109 = .ok (.putfield 67, 3) := by decide +kernel
theorem dX11_init_112 : decode cX11_init 112 = .ok (.aload_n 0, 1) := by decide +kernel
theorem dX11_init_113 : decode cX11_init 113 = .ok (.new 64, 3) := by decide +kernel
theorem dX11_init_116 : decode cX11_init 116 = .ok (.dup, 1) := by decide +kernel
theorem dX11_init_117 : decode cX11_init 117 = .ok (.invokespecial 66, 3) := by decide +kernel
theorem dX11_init_120 : decode cX11_init 120 = .ok (.putfield 71, 3) := by decide +kernel
theorem dX11_init_123 : decode cX11_init 123 = .ok (.aload_n 0, 1) := by decide +kernel
theorem dX11_init_124 : decode cX11_init 124 = .ok (.new 74, 3) := by decide +kernel
theorem dX11_init_127 : decode cX11_init 127 = .ok (.dup, 1) := by decide +kernel
theorem dX11_init_128 : decode cX11_init 128 = .ok (.aload_n 0, 1) := by decide +kernel
theorem dX11_init_129 : decode cX11_init 129 = .ok (.getfield 67, 3) := by decide +kernel
theorem dX11_init_132 : decode cX11_init 132 = .ok (.invokespecial 76, 3) := by decide +kernel
theorem dX11_init_135 : decode cX11_init 135 = .ok (.putfield 79, 3) := by decide +kernel
theorem dX11_init_138 : decode cX11_init 138 = .ok (.return_, 1) := by decide +kernel
theorem dX12_init_0 : decode cX12_init 0 = .ok (.aload_n 0, 1) := by decide +kernel
theorem dX12_init_1 : decode cX12_init 1 = .ok (.invokespecial 1, 3) := by decide +kernel
theorem dX12_init_4 : decode cX12_init 4 = .ok (.aload_n 0, 1) := by decide +kernel
theorem dX12_init_5 : decode cX12_init 5 = .ok (.sipush 1600, 3) := by decide +kernel
theorem dX12_init_8 : decode cX12_init 8 = .ok (.newarray .int, 2) := by decide +kernel
theorem dX12_init_10 : decode cX12_init 10 = .ok (.putfield 7, 3) := by decide +kernel
theorem dX12_init_13 : decode cX12_init 13 = .ok (.aload_n 0, 1) := by decide +kernel
theorem dX12_init_14 : decode cX12_init 14 = .ok (.iconst (-1), 1) := by decide +kernel
theorem dX12_init_15 : decode cX12_init 15 = .ok (.putfield 13, 3) := by decide +kernel
theorem dX12_init_18 : decode cX12_init 18 = .ok (.aload_n 0, 1) := by decide +kernel
theorem dX12_init_19 : decode cX12_init 19 = .ok (.bipush 6, 2) := by decide +kernel
theorem dX12_init_21 : decode cX12_init 21 = .ok (.newarray .int, 2) := by decide +kernel
theorem dX12_init_23 : decode cX12_init 23 = .ok (.putfield 17, 3) := by decide +kernel
theorem dX12_init_26 : decode cX12_init 26 = .ok (.aload_n 0, 1) := by decide +kernel
theorem dX12_init_27 : decode cX12_init 27 = .ok (.bipush 6, 2) := by decide +kernel
theorem dX12_init_29 : decode cX12_init 29 = .ok (.newarray .char, 2) := by decide +kernel
theorem dX12_init_31 : decode cX12_init 31 = .ok (.dup, 1) := by decide +kernel
theorem dX12_init_32 : decode cX12_init 32 = .ok (.iconst 0, 1) := by decide +kernel
theorem dX12_init_33 : decode cX12_init 33 = .ok (.bipush 98, 2) := by decide +kernel
theorem dX12_init_35 : decode cX12_init 35 = .ok (.castore, 1) := by decide +kernel
theorem dX12_init_36 : decode cX12_init 36 = .ok (.dup, 1) := by decide +kernel
theorem dX12_init_37 : decode cX12_init 37 = .ok (.iconst 1, 1) := by decide +kernel
theorem dX12_init_38 : decode cX12_init 38 = .ok (.bipush 108, 2) := by decide +kernel
theorem dX12_init_40 : decode cX12_init 40 = .ok (.castore, 1) := by decide +kernel
theorem dX12_init_41 : decode cX12_init 41 = .ok (.dup, 1) := by decide +kernel
theorem dX12_init_42 : decode cX12_init 42 = .ok (.iconst 2, 1) := by decide +kernel
theorem dX12_init_43 : decode cX12_init 43 = .ok (.bipush 111, 2) := by decide +kernel
theorem dX12_init_45 : decode cX12_init 45 = .ok (.castore, 1) := by decide +kernel
theorem dX12_init_46 : decode cX12_init 46 = .ok (.dup, 1) := by decide +kernel
theorem dX12_init_47 : decode cX12_init 47 = .ok (.iconst 3, 1) := by decide +kernel
theorem dX12_init_48 : decode cX12_init 48 = .ok (.bipush 99, 2) := by decide +kernel
theorem dX12_init_50 : decode cX12_init 50 = .ok (.castore, 1) := by decide +kernel
theorem dX12_init_51 : decode cX12_init 51 = .ok (.dup, 1) := by decide +kernel
theorem dX12_init_52 : decode cX12_init 52 = .ok (.iconst 4, 1) := by decide +kernel
theorem dX12_init_53 : decode cX12_init 53 = .ok (.bipush 107, 2) := by decide +kernel
theorem dX12_init_55 : decode cX12_init 55 = .ok (.castore, 1) := by decide +kernel
theorem dX12_init_56 : decode cX12_init 56 = .ok (.dup, 1) := by decide +kernel
theorem dX12_init_57 : decode cX12_init 57 = .ok (.iconst 5, 1) := by decide +kernel
theorem dX12_init_58 : decode cX12_init 58 = .ok (.bipush 115, 2) := by decide +kernel
theorem dX12_init_60 : decode cX12_init 60 = .ok (.castore, 1) := by decide +kernel
theorem dX12_init_61 : decode cX12_init 61 = .ok (.putfield 20, 3) := by decide +kernel
theorem dX12_init_64 : decode cX12_init 64 = .ok (.aload_n 0, 1) := by decide +kernel
theorem dX12_init_65 : decode cX12_init 65 = .ok (.iconst 4, 1) := by decide +kernel
theorem dX12_init_66 : decode cX12_init 66 = .ok (.newarray .char, 2) := by decide +kernel
theorem dX12_init_68 : decode cX12_init 68 = .ok (.dup, 1) := by decide +kernel
theorem dX12_init_69 : decode cX12_init 69 = .ok (.iconst 0, 1) := by decide +kernel
theorem dX12_init_70 : decode cX12_init 70 = .ok (.bipush 114, 2) := by decide +kernel
theorem dX12_init_72 : decode cX12_init 72 = .ok (.castore, 1) := by decide +kernel
theorem dX12_init_73 : decode cX12_init 73 = .ok (.dup, 1) := by decide +kernel
theorem dX12_init_74 : decode cX12_init 74 = .ok (.iconst 1, 1) := by decide +kernel
theorem dX12_init_75 : decode cX12_init 75 = .ok (.bipush 111, 2) := by decide +kernel
theorem dX12_init_77 : decode cX12_init 77 = .ok (.castore, 1) := by decide +kernel
theorem dX12_init_78 : decode cX12_init 78 = .ok (.dup, 1) := by decide +kernel
theorem dX12_init_79 : decode cX12_init 79 = .ok (.iconst 2, 1) := by decide +kernel
theorem dX12_init_80 : decode cX12_init 80 = .ok (.bipush 111, 2) := by decide +kernel
theorem dX12_init_82 : decode cX12_init 82 = .ok (.castore, 1) := by decide +kernel
theorem dX12_init_83 : decode cX12_init 83 = .ok (.dup, 1) := by decide +kernel
theorem dX12_init_84 : decode cX12_init 84 = .ok (.iconst 3, 1) := by decide +kernel
theorem dX12_init_85 : decode cX12_init 85 = .ok (.bipush 109, 2) := by decide +kernel
theorem dX12_init_87 : decode cX12_init 87 = .ok (.castore, 1) := by decide +kernel
theorem dX12_init_88 : decode cX12_init 88 = .ok (.putfield 24, 3) := by decide +kernel
theorem dX12_init_91 : decode cX12_init 91 = .ok (.aload_n 0, 1) := by decide +kernel
theorem dX12_init_92 : decode cX12_init 92 = .ok (.bipush 6, 2) := by decide +kernel
theorem dX12_init_94 : decode cX12_init 94 = .ok (.newarray .char, 2) := by decide +kernel
theorem dX12_init_96 : decode cX12_init 96 = .ok (.dup, 1) := by decide +kernel
theorem dX12_init_97 : decode cX12_init 97 = .ok (.iconst 0, 1) := by decide +kernel
theorem dX12_init_98 : decode cX12_init 98 = .ok (.bipush 118, 2) := by decide +kernel
theorem dX12_init_100 : decode cX12_init 100 = .ok (.castore, 1) := by decide +kernel
theorem dX12_init_101 : decode cX12_init 101 = .ok (.dup, 1) := by decide +kernel
theorem dX12_init_102 : decode cX12_init 102 = .ok (.iconst 1, 1) := by decide +kernel
theorem dX12_init_103 : decode cX12_init 103 = .ok (.bipush 111, 2) := by decide +kernel
theorem dX12_init_105 : decode cX12_init 105 = .ok (.castore, 1) := by decide +kernel
theorem dX12_init_106 : decode cX12_init 106 = .ok (.dup, 1) := by decide +kernel
theorem dX12_init_107 : decode cX12_init 107 = .ok (.iconst 2, 1) := by decide +kernel
theorem dX12_init_108 : decode cX12_init 108 = .ok (.bipush 108, 2) := by decide +kernel
theorem dX12_init_110 : decode cX12_init 110 = .ok (.castore, 1) := by decide +kernel
theorem dX12_init_111 : decode cX12_init 111 = .ok (.dup, 1) := by decide +kernel
theorem dX12_init_112 : decode cX12_init 112 = .ok (.iconst 3, 1) := by decide +kernel
theorem dX12_init_113 : decode cX12_init 113 = .ok (.bipush 117, 2) := by decide +kernel
theorem dX12_init_115 : decode cX12_init 115 = .ok (.castore, 1) := by decide +kernel
theorem dX12_init_116 : decode cX12_init 116 = .ok (.dup, 1) := by decide +kernel
theorem dX12_init_117 : decode cX12_init 117 = .ok (.iconst 4, 1) := by decide +kernel
theorem dX12_init_118 : decode cX12_init 118 = .ok (.bipush 109, 2) := by decide +kernel
theorem dX12_init_120 : decode cX12_init 120 = .ok (.castore, 1) := by decide +kernel
theorem dX12_init_121 : decode cX12_init 121 = .ok (.dup, 1) := by decide +kernel
theorem dX12_init_122 : decode cX12_init 122 = .ok (.iconst 5, 1) := by decide +kernel
theorem dX12_init_123 : decode cX12_init 123 = .ok (.bipush 101, 2) := by decide +kernel
theorem dX12_init_125 : decode cX12_init 125 = .ok (.castore, 1) := by decide +kernel
theorem dX12_init_126 : decode cX12_init 126 = .ok (.putfield 27, 3) := by decide +kernel
theorem dX12_init_129 : decode cX12_init 129 = .ok (.aload_n 0, 1) := by decide +kernel
theorem dX12_init_130 : decode cX12_init 130 = .ok (.iconst 5, 1) := by decide +kernel
theorem dX12_init_131 : decode cX12_init 131 = .ok (.newarray .char, 2) := by decide +kernel
theorem dX12_init_133 : decode cX12_init 133 = .ok (.dup, 1) := by decide +kernel
theorem dX12_init_134 : decode cX12_init 134 = .ok (.iconst 0, 1) := by decide +kernel
theorem dX12_init_135 : decode cX12_init 135 = .ok (.bipush 99, 2) := by decide +kernel
theorem dX12_init_137 : decode cX12_init 137 = .ok (.castore, 1) := by decide +kernel
theorem dX12_init_138 : decode cX12_init 138 = .ok (.dup, 1) := by decide +kernel
theorem dX12_init_139 : decode cX12_init 139 = .ok (.iconst 1, 1) := by decide +kernel
theorem dX12_init_140 : decode cX12_init 140 = .ok (.bipush 108, 2) := by decide +kernel
theorem dX12_init_142 : decode cX12_init 142 = .ok (.castore, 1) := by decide +kernel
theorem dX12_init_143 : decode cX12_init 143 = .ok (.dup, 1) := by decide +kernel
theorem dX12_init_144 : decode cX12_init 144 = .ok (.iconst 2, 1) := by decide +kernel
theorem dX12_init_145 : decode cX12_init 145 = .ok (.bipush 111, 2) := by decide +kernel
theorem dX12_init_147 : decode cX12_init 147 = .ok (.castore, 1) := by decide +kernel
theorem dX12_init_148 : decode cX12_init 148 = .ok (.dup, 1) := by decide +kernel
theorem dX12_init_149 : decode cX12_init 149 = .ok (.iconst 3, 1) := by decide +kernel
theorem dX12_init_150 : decode cX12_init 150 = .ok (.bipush 110, 2) := by decide +kernel
theorem dX12_init_152 : decode cX12_init 152 = .ok (.castore, 1) := by decide +kernel
theorem dX12_init_153 : decode cX12_init 153 = .ok (.dup, 1) := by decide +kernel
theorem dX12_init_154 : decode cX12_init 154 = .ok (.iconst 4, 1) := by decide +kernel
theorem dX12_init_155 : decode cX12_init 155 = .ok (.bipush 101, 2) := by decide +kernel
theorem dX12_init_157 : decode cX12_init 157 = .ok (.castore, 1) := by decide +kernel
theorem dX12_init_158 : decode cX12_init 158 = .ok (.putfield 30, 3) := by decide +kernel
theorem dX12_init_161 : decode cX12_init 161 = .ok (.aload_n 0, 1) := by decide +kernel
theorem dX12_init_162 : decode cX12_init 162 = .ok (.iconst 2, 1) := by decide +kernel
theorem dX12_init_163 : decode cX12_init 163 = .ok (.newarray .char, 2) := by decide +kernel
theorem dX12_init_165 : decode cX12_init 165 = .ok (.dup, 1) := by decide +kernel
theorem dX12_init_166 : decode cX12_init 166 = .ok (.iconst 0, 1) := by decide +kernel
theorem dX12_init_167 : decode cX12_init 167 = .ok (.bipush 111, 2) := by decide +kernel
theorem dX12_init_169 : decode cX12_init 169 = .ok (.castore, 1) := by decide +kernel
theorem dX12_init_170 : decode cX12_init 170 = .ok (.dup, 1) := by decide +kernel
theorem dX12_init_171 : decode cX12_init 171 = .ok (.iconst 1, 1) := by decide +kernel
theorem dX12_init_172 : decode cX12_init 172 = .ok (.bipush 102, 2) := by decide +kernel
theorem dX12_init_174 : decode cX12_init 174 = .ok (.castore, 1) := by decide +kernel
theorem dX12_init_175 : decode cX12_init 175 = .ok (.putfield 33, 3) := by decide +kernel
theorem dX12_init_178 : decode cX12_init 178 = .ok (.aload_n 0, 1) := by decide +kernel
theorem dX12_init_179 : decode cX12_init 179 = .ok (.iconst 3, 1) := by decide +kernel
theorem dX12_init_180 : decode cX12_init 180 = .ok (.newarray .char, 2) := by decide +kernel
theorem dX12_init_182 : decode cX12_init 182 = .ok (.dup, 1) := by decide +kernel
theorem dX12_init_183 : decode cX12_init 183 = .ok (.iconst 0, 1) := by decide +kernel
theorem dX12_init_184 : decode cX12_init 184 = .ok (.bipush 112, 2) := by decide +kernel
theorem dX12_init_186 : decode cX12_init 186 = .ok (.castore, 1) := by decide +kernel
theorem dX12_init_187 : decode cX12_init 187 = .ok (.dup, 1) := by decide +kernel
theorem dX12_init_188 : decode cX12_init 188 = .ok (.iconst 1, 1) := by decide +kernel
theorem dX12_init_189 : decode cX12_init 189 = .ok (.bipush 117, 2) := by decide +kernel
theorem dX12_init_191 : decode cX12_init 191 = .ok (.castore, 1) := by decide +kernel
theorem dX12_init_192 : decode cX12_init 192 = .ok (.dup, 1) := by decide +kernel
theorem dX12_init_193 : decode cX12_init 193 = .ok (.iconst 2, 1) := by decide +kernel
theorem dX12_init_194 : decode cX12_init 194 = .ok (.bipush 116, 2) := by decide +kernel
theorem dX12_init_196 : decode cX12_init 196 = .ok (.castore, 1) := by decide +kernel
theorem dX12_init_197 : decode cX12_init 197 = .ok (.putfield 36, 3) := by decide +kernel
theorem dX12_init_200 : decode cX12_init 200 = .ok (.aload_n 0, 1) := by decide +kernel
theorem dX12_init_201 : decode cX12_init 201 = .ok (.bipush 6, 2) := by decide +kernel
theorem dX12_init_203 : decode cX12_init 203 = .ok (.newarray .char, 2) := by decide +kernel
theorem dX12_init_205 : decode cX12_init 205 = .ok (.dup, 1) := by decide +kernel
theorem dX12_init_206 : decode cX12_init 206 = .ok (.iconst 0, 1) := by decide +kernel
theorem dX12_init_207 : decode cX12_init 207 = .ok (.bipush 114, 2) := by decide +kernel
theorem dX12_init_209 : decode cX12_init 209 = .ok (.castore, 1) := by decide +kernel
theorem dX12_init_210 : decode cX12_init 210 = .ok (.dup, 1) := by decide +kernel
theorem dX12_init_211 : decode cX12_init 211 = .ok (.iconst 1, 1) := by decide +kernel
theorem dX12_init_212 : decode cX12_init 212 = .ok (.bipush 101, 2) := by decide +kernel
theorem dX12_init_214 : decode cX12_init 214 = .ok (.castore, 1) := by decide +kernel
theorem dX12_init_215 : decode cX12_init 215 = .ok (.dup, 1) := by decide +kernel
theorem dX12_init_216 : decode cX12_init 216 = .ok (.iconst 2, 1) := by decide +kernel
theorem dX12_init_217 : decode cX12_init 217 = .ok (.bipush 109, 2) := by decide +kernel
theorem dX12_init_219 : decode cX12_init 219 = .ok (.castore, 1) := by decide +kernel
theorem dX12_init_220 : decode cX12_init 220 = .ok (.dup, 1) := by decide +kernel
theorem dX12_init_221 : decode cX12_init 221 = .ok (.iconst 3, 1) := by decide +kernel
theorem dX12_init_222 : decode cX12_init 222 = .ok (.bipush 111, 2) := by decide +kernel
theorem dX12_init_224 : decode cX12_init 224 = .ok (.castore, 1) := by decide +kernel
theorem dX12_init_225 : decode cX12_init 225 = .ok (.dup, 1) := by decide +kernel
theorem dX12_init_226 : decode cX12_init 226 = .ok (.iconst 4, 1) := by decide +kernel
theorem dX12_init_227 : decode cX12_init 227 = .ok (.bipush 118, 2) := by decide +kernel
theorem dX12_init_229 : decode cX12_init 229 = .ok (.castore, 1) := by decide +kernel
theorem dX12_init_230 : decode cX12_init 230 = .ok (.dup, 1) := by decide +kernel
theorem dX12_init_231 : decode cX12_init 231 = .ok (.iconst 5, 1) := by decide +kernel
theorem dX12_init_232 : decode cX12_init 232 = .ok (.bipush 101, 2) := by decide +kernel
theorem dX12_init_234 : decode cX12_init 234 = .ok (.castore, 1) := by decide +kernel
theorem dX12_init_235 : decode cX12_init 235 = .ok (.putfield 39, 3) := by decide +kernel
theorem dX12_init_238 : decode cX12_init 238 = .ok (.aload_n 0, 1) := by decide +kernel
theorem dX12_init_239 : decode cX12_init 239 = .ok (.iconst 5, 1) := by decide +kernel
theorem dX12_init_240 : decode cX12_init 240 = .ok (.newarray .char, 2) := by decide +kernel
theorem dX12_init_242 : decode cX12_init 242 = .ok (.dup, 1) := by decide +kernel
theorem dX12_init_243 : decode cX12_init 243 = .ok (.iconst 0, 1) := by decide +kernel
theorem dX12_init_244 : decode cX12_init 244 = .ok (.bipush 112, 2) := by decide +kernel
theorem dX12_init_246 : decode cX12_init 246 = .ok (.castore, 1) := by decide +kernel
theorem dX12_init_247 : decode cX12_init 247 = .ok (.dup, 1) := by decide +kernel
theorem dX12_init_248 : decode cX12_init 248 = .ok (.iconst 1, 1) := by decide +kernel
theorem dX12_init_249 : decode cX12_init 249 = .ok (.bipush 105, 2) := by decide +kernel
theorem dX12_init_251 : decode cX12_init 251 = .ok (.castore, 1) := by decide +kernel
theorem dX12_init_252 : decode cX12_init 252 = .ok (.dup, 1) := by decide +kernel
theorem dX12_init_253 : decode cX12_init 253 = .ok (.iconst 2, 1) := by decide +kernel
theorem dX12_init_254 : decode cX12_init 254 = .ok (.bipush 99, 2) := by decide +kernel
theorem dX12_init_256 : decode cX12_init 256 = .ok (.castore, 1) := by decide +kernel
theorem dX12_init_257 : decode cX12_init 257 = .ok (.dup, 1) := by decide +kernel
theorem dX12_init_258 : decode cX12_init 258 = .ok (.iconst 3, 1) := by decide +kernel
theorem dX12_init_259 : decode cX12_init 259 = .ok (.bipush 107, 2) := by decide +kernel
theorem dX12_init_261 : decode cX12_init 261 = .ok (.castore, 1) := by decide +kernel
theorem dX12_init_262 : decode cX12_init 262 = .ok (.dup, 1) := by decide +kernel
theorem dX12_init_263 : decode cX12_init 263 = .ok (.iconst 4, 1) := by decide +kernel
theorem dX12_init_264 : decode cX12_init 264 = .ok (.bipush 115, 2) := by decide +kernel
theorem dX12_init_266 : decode cX12_init 266 = .ok (.castore, 1) := by decide +kernel
theorem dX12_init_267 : decode cX12_init 267 = .ok (.putfield 42, 3) := by decide +kernel
theorem dX12_init_270 : decode cX12_init 270 = .ok (.aload_n 0, 1) := by decide +kernel
theorem dX12_init_271 : decode cX12_init 271 = .ok (.bipush 6, 2) := by decide +kernel
theorem dX12_init_273 : decode cX12_init 273 = .ok (.newarray .char, 2) := by decide +kernel
theorem dX12_init_275 : decode cX12_init 275 = .ok (.dup, 1) := by decide +kernel
theorem dX12_init_276 : decode cX12_init 276 = .ok (.iconst 0, 1) := by decide +kernel
theorem dX12_init_277 : decode cX12_init 277 = .ok (.bipush 115, 2) := by decide +kernel
theorem dX12_init_279 : decode cX12_init 279 = .ok (.castore, 1) := by decide +kernel
theorem dX12_init_280 : decode cX12_init 280 = .ok (.dup, 1) := by decide +kernel
theorem dX12_init_281 : decode cX12_init 281 = .ok (.iconst 1, 1) := by decide +kernel
theorem dX12_init_282 : decode cX12_init 282 = .ok (.bipush 112, 2) := by decide +kernel
theorem dX12_init_284 : decode cX12_init 284 = .ok (.castore, 1) := by decide +kernel
theorem dX12_init_285 : decode cX12_init 285 = .ok (.dup, 1) := by decide +kernel
theorem dX12_init_286 : decode cX12_init 286 = .ok (.iconst 2, 1) := by decide +kernel
theorem dX12_init_287 : decode cX12_init 287 = .ok (.bipush 108, 2) := by decide +kernel
theorem dX12_init_289 : decode cX12_init 289 = .ok (.castore, 1) := by decide +kernel
theorem dX12_init_290 : decode cX12_init 290 = .ok (.dup, 1) := by decide +kernel
theorem dX12_init_291 : decode cX12_init 291 = .ok (.iconst 3, 1) := by decide +kernel
theorem dX12_init_292 : decode cX12_init 292 = .ok (.bipush 105, 2) := by decide +kernel
theorem dX12_init_294 : decode cX12_init 294 = .ok (.castore, 1) := by decide +kernel
theorem dX12_init_295 : decode cX12_init 295 = .ok (.dup, 1) := by decide +kernel
theorem dX12_init_296 : decode cX12_init 296 = .ok (.iconst 4, 1) := by decide +kernel
theorem dX12_init_297 : decode cX12_init 297 = .ok (.bipush 116, 2) := by decide +kernel
theorem dX12_init_299 : decode cX12_init 299 = .ok (.castore, 1) := by decide +kernel
theorem dX12_init_300 : decode cX12_init 300 = .ok (.dup, 1) := by decide +kernel
theorem dX12_init_301 : decode cX12_init 301 = .ok (.iconst 5, 1) := by decide +kernel
theorem dX12_init_302 : decode cX12_init 302 = .ok (.bipush 115, 2) := by decide +kernel
theorem dX12_init_304 : decode cX12_init 304 = .ok (.castore, 1) := by decide +kernel
theorem dX12_init_305 : decode cX12_init 305 = .ok (.putfield 45, 3) := by decide +kernel
theorem dX12_init_308 : decode cX12_init 308 = .ok (.aload_n 0, 1) := by decide +kernel
theorem dX12_init_309 : decode cX12_init 309 = .ok (.iconst 5, 1) := by decide +kernel
theorem dX12_init_310 : decode cX12_init 310 = .ok (.newarray .char, 2) := by decide +kernel
theorem dX12_init_312 : decode cX12_init 312 = .ok (.dup, 1) := by decide +kernel
theorem dX12_init_313 : decode cX12_init 313 = .ok (.iconst 0, 1) := by decide +kernel
theorem dX12_init_314 : decode cX12_init 314 = .ok (.bipush 99, 2) := by decide +kernel
theorem dX12_init_316 : decode cX12_init 316 = .ok (.castore, 1) := by decide +kernel
theorem dX12_init_317 : decode cX12_init 317 = .ok (.dup, 1) := by decide +kernel
theorem dX12_init_318 : decode cX12_init 318 = .ok (.iconst 1, 1) := by decide +kernel
theorem dX12_init_319 : decode cX12_init 319 = .ok (.bipush 111, 2) := by decide +kernel
theorem dX12_init_321 : decode cX12_init 321 = .ok (.castore, 1) := by decide +kernel
theorem dX12_init_322 : decode cX12_init 322 = .ok (.dup, 1) := by decide +kernel
theorem dX12_init_323 : decode cX12_init 323 = .ok (.iconst 2, 1) := by decide +kernel
theorem dX12_init_324 : decode cX12_init 324 = .ok (.bipush 115, 2) := by decide +kernel
theorem dX12_init_326 : decode cX12_init 326 = .ok (.castore, 1) := by decide +kernel
theorem dX12_init_327 : decode cX12_init 327 = .ok (.dup, 1) := by decide +kernel
theorem dX12_init_328 : decode cX12_init 328 = .ok (.iconst 3, 1) := by decide +kernel
theorem dX12_init_329 : decode cX12_init 329 = .ok (.bipush 116, 2) := by decide +kernel
theorem dX12_init_331 : decode cX12_init 331 = .ok (.castore, 1) := by decide +kernel
theorem dX12_init_332 : decode cX12_init 332 = .ok (.dup, 1) := by decide +kernel
theorem dX12_init_333 : decode cX12_init 333 = .ok (.iconst 4, 1) := by decide +kernel
theorem dX12_init_334 : decode cX12_init 334 = .ok (.bipush 115, 2) := by decide +kernel
theorem dX12_init_336 : decode cX12_init 336 = .ok (.castore, 1) := by decide +kernel
theorem dX12_init_337 : decode cX12_init 337 = .ok (.putfield 48, 3) := by decide +kernel
theorem dX12_init_340 : decode cX12_init 340 = .ok (.aload_n 0, 1) := by decide +kernel
theorem dX12_init_341 : decode cX12_init 341 = .ok (.iconst 5, 1) := by decide +kernel
theorem dX12_init_342 : decode cX12_init 342 = .ok (.newarray .char, 2) := by decide +kernel
theorem dX12_init_344 : decode cX12_init 344 = .ok (.dup, 1) := by decide +kernel
theorem dX12_init_345 : decode cX12_init 345 = .ok (.iconst 0, 1) := by decide +kernel
theorem dX12_init_346 : decode cX12_init 346 = .ok (.bipush 99, 2) := by decide +kernel
theorem dX12_init_348 : decode cX12_init 348 = .ok (.castore, 1) := by decide +kernel
theorem dX12_init_349 : decode cX12_init 349 = .ok (.dup, 1) := by decide +kernel
theorem dX12_init_350 : decode cX12_init 350 = .ok (.iconst 1, 1) := by decide +kernel
theorem dX12_init_351 : decode cX12_init 351 = .ok (.bipush 104, 2) := by decide +kernel
theorem dX12_init_353 : decode cX12_init 353 = .ok (.castore, 1) := by decide +kernel
theorem dX12_init_354 : decode cX12_init 354 = .ok (.dup, 1) := by decide +kernel
theorem dX12_init_355 : decode cX12_init 355 = .ok (.iconst 2, 1) := by decide +kernel
theorem dX12_init_356 : decode cX12_init 356 = .ok (.bipush 117, 2) := by decide +kernel
theorem dX12_init_358 : decode cX12_init 358 = .ok (.castore, 1) := by decide +kernel
theorem dX12_init_359 : decode cX12_init 359 = .ok (.dup, 1) := by decide +kernel
theorem dX12_init_360 : decode cX12_init 360 = .ok (.iconst 3, 1) := by decide +kernel
theorem dX12_init_361 : decode cX12_init 361 = .ok (.bipush 114, 2) := by decide +kernel
theorem dX12_init_363 : decode cX12_init 363 = .ok (.castore, 1) := by decide +kernel
theorem dX12_init_364 : decode cX12_init 364 = .ok (.dup, 1) := by decide +kernel
theorem dX12_init_365 : decode cX12_init 365 = .ok (.iconst 4, 1) := by decide +kernel
theorem dX12_init_366 : decode cX12_init 366 = .ok (.bipush 110, 2) := by decide +kernel
theorem dX12_init_368 : decode cX12_init 368 = .ok (.castore, 1) := by decide +kernel
theorem dX12_init_369 : decode cX12_init 369 = .ok (.putfield 51, 3) := by decide +kernel
theorem dX12_init_372 : decode cX12_init 372 = .ok (.aload_n 0, 1) := by decide +kernel
theorem dX12_init_373 : decode cX12_init 373 = .ok (.iconst 5, 1) := by decide +kernel
theorem dX12_init_374 : decode cX12_init 374 = .ok (.newarray .char, 2) := by decide +kernel
theorem dX12_init_376 : decode cX12_init 376 = .ok (.dup, 1) := by decide +kernel
theorem dX12_init_377 : decode cX12_init 377 = .ok (.iconst 0, 1) := by decide +kernel
theorem dX12_init_378 : decode cX12_init 378 = .ok (.bipush 98, 2) := by decide +kernel
theorem dX12_init_380 : decode cX12_init 380 = .ok (.castore, 1) := by decide +kernel
theorem dX12_init_381 : decode cX12_init 381 = .ok (.dup, 1) := by decide +kernel
theorem dX12_init_382 : decode cX12_init 382 = .ok (.iconst 1, 1) := by decide +kernel
theorem dX12_init_383 : decode cX12_init 383 = .ok (.bipush 108, 2) := by decide +kernel
theorem dX12_init_385 : decode cX12_init 385 = .ok (.castore, 1) := by decide +kernel
theorem dX12_init_386 : decode cX12_init 386 = .ok (.dup, 1) := by decide +kernel
theorem dX12_init_387 : decode cX12_init 387 = .ok (.iconst 2, 1) := by decide +kernel
theorem dX12_init_388 : decode cX12_init 388 = .ok (.bipush 111, 2) := by decide +kernel
theorem dX12_init_390 : decode cX12_init 390 = .ok (.castore, 1) := by decide +kernel
theorem dX12_init_391 : decode cX12_init 391 = .ok (.dup, 1) := by decide +kernel
theorem dX12_init_392 : decode cX12_init 392 = .ok (.iconst 3, 1) := by decide +kernel
theorem dX12_init_393 : decode cX12_init 393 = .ok (.bipush 99, 2) := by decide +kernel
theorem dX12_init_395 : decode cX12_init 395 = .ok (.castore, 1) := by decide +kernel
theorem dX12_init_396 : decode cX12_init 396 = .ok (.dup, 1) := by decide +kernel
theorem dX12_init_397 : decode cX12_init 397 = .ok (.iconst 4, 1) := by decide +kernel
theorem dX12_init_398 : decode cX12_init 398 = .ok (.bipush 107, 2) := by decide +kernel
theorem dX12_init_400 : decode cX12_init 400 = .ok (.castore, 1) := by decide +kernel
theorem dX12_init_401 : decode cX12_init 401 = .ok (.putfield 54, 3) := by decide +kernel
theorem dX12_init_404 : decode cX12_init 404 = .ok (.aload_n 0, 1) := by decide +kernel
theorem dX12_init_405 : decode cX12_init 405 = .ok (.iconst 4, 1) := by decide +kernel
theorem dX12_init_406 : decode cX12_init 406 = .ok (.newarray .char, 2) := by decide +kernel
theorem dX12_init_408 : decode cX12_init 408 = .ok (.dup, 1) := by decide +kernel
theorem dX12_init_409 : decode cX12_init 409 = .ok (.iconst 0, 1) := by decide +kernel
theorem dX12_init_410 : decode cX12_init 410 = .ok (.bipush 102, 2) := by decide +kernel
theorem dX12_init_412 : decode cX12_init 412 = .ok (.castore, 1) := by decide +kernel
theorem dX12_init_413 : decode cX12_init 413 = .ok (.dup, 1) := by decide +kernel
theorem dX12_init_414 : decode cX12_init 414 = .ok (.iconst 1, 1) := by decide +kernel
theorem dX12_init_415 : decode cX12_init 415 = .ok (.bipush 114, 2) := by decide +kernel
theorem dX12_init_417 : decode cX12_init 417 = .ok (.castore, 1) := by decide +kernel
theorem dX12_init_418 : decode cX12_init 418 = .ok (.dup, 1) := by decide +kernel
theorem dX12_init_419 : decode cX12_init 419 = .ok (.iconst 2, 1) := by decide +kernel
theorem dX12_init_420 : decode cX12_init 420 = .ok (.bipush 111, 2) := by decide +kernel
theorem dX12_init_422 : decode cX12_init 422 = .ok (.castore, 1) := by decide +kernel
theorem dX12_init_423 : decode cX12_init 423 = .ok (.dup, 1) := by decide +kernel
theorem dX12_init_424 : decode cX12_init 424 = .ok (.iconst 3, 1) := by decide +kernel
theorem dX12_init_425 : decode cX12_init 425 = .ok (.bipush 109, 2) := by decide +kernel
theorem dX12_init_427 : decode cX12_init 427 = .ok (.castore, 1) := by decide +kernel
theorem dX12_init_428 : decode cX12_init 428 = .ok (.putfield 57, 3) := by decide +kernel
theorem dX12_init_431 : decode cX12_init 431 = .ok (.aload_n 0, 1) := by decide +kernel
theorem dX12_init_432 : decode cX12_init 432 = .ok (.iconst 5, 1) := by decide +kernel
theorem dX12_init_433 : decode cX12_init 433 = .ok (.newarray .char, 2) := by decide +kernel
theorem dX12_init_435 : decode cX12_init 435 = .ok (.dup, 1) := by decide +kernel
theorem dX12_init_436 : decode cX12_init 436 = .ok (.iconst 0, 1) := by decide +kernel
theorem dX12_init_437 : decode cX12_init 437 = .ok (.bipush 108, 2) := by decide +kernel
theorem dX12_init_439 : decode cX12_init 439 = .ok (.castore, 1) := by decide +kernel
theorem dX12_init_440 : decode cX12_init 440 = .ok (.dup, 1) := by decide +kernel
theorem dX12_init_441 : decode cX12_init 441 = .ok (.iconst 1, 1) := by decide +kernel
theorem dX12_init_442 : decode cX12_init 442 = .ok (.bipush 101, 2) := by decide +kernel
theorem dX12_init_444 : decode cX12_init 444 = .ok (.castore, 1) := by decide +kernel
theorem dX12_init_445 : decode cX12_init 445 = .ok (.dup, 1) := by decide +kernel
theorem dX12_init_446 : decode cX12_init 446 = .ok (.iconst 2, 1) := by decide +kernel
theorem dX12_init_447 : decode cX12_init 447 = .ok (.bipush 118, 2) := by decide +kernel
theorem dX12_init_449 : decode cX12_init 449 = .ok (.castore, 1) := by decide +kernel
theorem dX12_init_450 : decode cX12_init 450 = .ok (.dup, 1) := by decide +kernel
theorem dX12_init_451 : decode cX12_init 451 = .ok (.iconst 3, 1) := by decide +kernel
theorem dX12_init_452 : decode cX12_init 452 = .ok (.bipush 101, 2) := by decide +kernel
theorem dX12_init_454 : decode cX12_init 454 = .ok (.castore, 1) := by decide +kernel
theorem dX12_init_455 : decode cX12_init 455 = .ok (.dup, 1) := by decide +kernel
theorem dX12_init_456 : decode cX12_init 456 = .ok (.iconst 4, 1) := by decide +kernel
theorem dX12_init_457 : decode cX12_init 457 = .ok (.bipush 108, 2) := by decide +kernel
theorem dX12_init_459 : decode cX12_init 459 = .ok (.castore, 1) := by decide +kernel
theorem dX12_init_460 : decode cX12_init 460 = .ok (.putfield 60, 3) := by decide +kernel
theorem dX12_init_463 : decode cX12_init 463 = .ok (.aload_n 0, 1) := by decide +kernel
theorem dX12_init_464 : decode cX12_init 464 = .ok (.bipush 7, 2) := by decide +kernel
theorem dX12_init_466 : decode cX12_init 466 = .ok (.newarray .char, 2) := by decide +kernel
theorem dX12_init_468 : decode cX12_init 468 = .ok (.dup, 1) := by decide +kernel
theorem dX12_init_469 : decode cX12_init 469 = .ok (.iconst 0, 1) := by decide +kernel
theorem dX12_init_470 : decode cX12_init 470 = .ok (.bipush 101, 2) := by decide +kernel
theorem dX12_init_472 : decode cX12_init 472 = .ok (.castore, 1) := by decide +kernel
theorem dX12_init_473 : decode cX12_init 473 = .ok (.dup, 1) := by decide +kernel
theorem dX12_init_474 : decode cX12_init 474 = .ok (.iconst 1, 1) := by decide +kernel
theorem dX12_init_475 : decode cX12_init 475 = .ok (.bipush 110, 2) := by decide +kernel
theorem dX12_init_477 : decode cX12_init 477 = .ok (.castore, 1) := by decide +kernel
theorem dX12_init_478 : decode cX12_init 478 = .ok (.dup, 1) := by decide +kernel
theorem dX12_init_479 : decode cX12_init 479 = .ok (.iconst 2, 1) := by decide +kernel
theorem dX12_init_480 : decode cX12_init 480 = .ok (.bipush 116, 2) := by decide +kernel
theorem dX12_init_482 : decode cX12_init 482 = .ok (.castore, 1) := by decide +kernel
theorem dX12_init_483 : decode cX12_init 483 = .ok (.dup, 1) := by decide +kernel
theorem dX12_init_484 : decode cX12_init 484 = .ok (.iconst 3, 1) := by decide +kernel
theorem dX12_init_485 : decode cX12_init 485 = .ok (.bipush 114, 2) := by decide +kernel
theorem dX12_init_487 : decode cX12_init 487 = .ok (.castore, 1) := by decide +kernel
theorem dX12_init_488 : decode cX12_init 488 = .ok (.dup, 1) := by decide +kernel
theorem dX12_init_489 : decode cX12_init 489 = .ok (.iconst 4, 1) := by decide +kernel
theorem dX12_init_490 : decode cX12_init 490 = .ok (.bipush 105, 2) := by decide +kernel
theorem dX12_init_492 : decode cX12_init 492 = .ok (.castore, 1) := by decide +kernel
theorem dX12_init_493 : decode cX12_init 493 = .ok (.dup, 1) := by decide +kernel
theorem dX12_init_494 : decode cX12_init 494 = .ok (.iconst 5, 1) := by decide +kernel
theorem dX12_init_495 : decode cX12_init 495 = .ok (.bipush 101, 2) := by decide +kernel
theorem dX12_init_497 : decode cX12_init 497 = .ok (.castore, 1) := by decide +kernel
theorem dX12_init_498 : decode cX12_init 498 = .ok (.dup, 1) := by decide +kernel
theorem dX12_init_499 : decode cX12_init 499 = .ok (.bipush 6, 2) := by decide +kernel
theorem dX12_init_501 : decode cX12_init 501 = .ok (.bipush 115, 2) := by decide +kernel
theorem dX12_init_503 : decode cX12_init 503 = .ok (.castore, 1) := by decide +kernel
theorem dX12_init_504 : decode cX12_init 504 = .ok (.putfield 63, 3) := by decide +kernel
theorem dX12_init_507 : decode cX12_init 507 = .ok (.aload_n 0, 1) := by decide +kernel
theorem dX12_init_508 : decode cX12_init 508 = .ok (.bipush 6, 2) := by decide +kernel
theorem dX12_init_510 : decode cX12_init 510 = .ok (.newarray .char, 2) := by decide +kernel
theorem dX12_init_512 : decode cX12_init 512 = .ok (.dup, 1) := by decide +kernel
theorem dX12_init_513 : decode cX12_init 513 = .ok (.iconst 0, 1) := by decide +kernel
theorem dX12_init_514 : decode cX12_init 514 = .ok (.bipush 110, 2) := by decide +kernel
theorem dX12_init_516 : decode cX12_init 516 = .ok (.castore, 1) := by decide +kernel
theorem dX12_init_517 : decode cX12_init 517 = .ok (.dup, 1) := by decide +kernel
theorem dX12_init_518 : decode cX12_init 518 = .ok (.iconst 1, 1) := by decide +kernel
theorem dX12_init_519 : decode cX12_init 519 = .ok (.bipush 117, 2) := by decide +kernel
theorem dX12_init_521 : decode cX12_init 521 = .ok (.castore, 1) := by decide +kernel
theorem dX12_init_522 : decode cX12_init 522 = .ok (.dup, 1) := by decide +kernel
theorem dX12_init_523 : decode cX12_init 523 = .ok (.iconst 2, 1) := by decide +kernel
theorem dX12_init_524 : decode cX12_init 524 = .ok (.bipush 109, 2) := by decide +kernel
theorem dX12_init_526 : decode cX12_init 526 = .ok (.castore, 1) := by decide +kernel
theorem dX12_init_527 : decode cX12_init 527 = .ok (.dup, 1) := by decide +kernel
theorem dX12_init_528 : decode cX12_init 528 = .ok (.iconst 3, 1) := by decide +kernel
theorem dX12_init_529 : decode cX12_init 529 = .ok (.bipush 98, 2) := by decide +kernel
theorem dX12_init_531 : decode cX12_init 531 = .ok (.castore, 1) := by decide +kernel
theorem dX12_init_532 : decode cX12_init 532 = .ok (.dup, 1) := by decide +kernel
theorem dX12_init_533 : decode cX12_init 533 = .ok (.iconst 4, 1) := by decide +kernel
theorem dX12_init_534 : decode cX12_init 534 = .ok (.bipush 101, 2) := by decide +kernel
theorem dX12_init_536 : decode cX12_init 536 = .ok (.castore, 1) := by decide +kernel
theorem dX12_init_537 : decode cX12_init 537 = .ok (.dup, 1) := by decide +kernel
theorem dX12_init_538 : decode cX12_init 538 = .ok (.iconst 5, 1) := by decide +kernel
theorem dX12_init_539 : decode cX12_init 539 = .ok (.bipush 114, 2) := by decide +kernel
theorem dX12_init_541 : decode cX12_init 541 = .ok (.castore, 1) := by decide +kernel
theorem dX12_init_542 : decode cX12_init 542 = .ok (.putfield 66, 3) := by decide +kernel
theorem dX12_init_545 : decode cX12_init 545 = .ok (.aload_n 0, 1) := by decide +kernel
theorem dX12_init_546 : decode cX12_init 546 = .ok (.iconst 5, 1) := by decide +kernel
theorem dX12_init_547 : decode cX12_init 547 = .ok (.newarray .char, 2) := by decide +kernel
theorem dX12_init_549 : decode cX12_init 549 = .ok (.dup, 1) := by decide +kernel
theorem dX12_init_550 : decode cX12_init 550 = .ok (.iconst 0, 1) := by decide +kernel
theorem dX12_init_551 : decode cX12_init 551 = .ok (.bipush 99, 2) := by decide +kernel
theorem dX12_init_553 : decode cX12_init 553 = .ok (.castore, 1) := by decide +kernel
theorem dX12_init_554 : decode cX12_init 554 = .ok (.dup, 1) := by decide +kernel
theorem dX12_init_555 : decode cX12_init 555 = .ok (.iconst 1, 1) := by decide +kernel
theorem dX12_init_556 : decode cX12_init 556 = .ok (.bipush 111, 2) := by decide +kernel
theorem dX12_init_558 : decode cX12_init 558 = .ok (.castore, 1) := by decide +kernel
theorem dX12_init_559 : decode cX12_init 559 = .ok (.dup, 1) := by decide +kernel
theorem dX12_init_560 : decode cX12_init 560 = .ok (.iconst 2, 1) := by decide +kernel
theorem dX12_init_561 : decode cX12_init 561 = .ok (.bipush 117, 2) := by decide +kernel
theorem dX12_init_563 : decode cX12_init 563 = .ok (.castore, 1) := by decide +kernel
theorem dX12_init_564 : decode cX12_init 564 = .ok (.dup, 1) := by decide +kernel
theorem dX12_init_565 : decode cX12_init 565 = .ok (.iconst 3, 1) := by decide +kernel
theorem dX12_init_566 : decode cX12_init 566 = .ok (.bipush 110, 2) := by decide +kernel
theorem dX12_init_568 : decode cX12_init 568 = .ok (.castore, 1) := by decide +kernel
theorem dX12_init_569 : decode cX12_init 569 = .ok (.dup, 1) := by decide +kernel
theorem dX12_init_570 : decode cX12_init 570 = .ok (.iconst 4, 1) := by decide +kernel
theorem dX12_init_571 : decode cX12_init 571 = .ok (.bipush 116, 2) := by decide +kernel
theorem dX12_init_573 : decode cX12_init 573 = .ok (.castore, 1) := by decide +kernel
theorem dX12_init_574 : decode cX12_init 574 = .ok (.putfield 69, 3) := by decide +kernel
theorem dX12_init_577 : decode cX12_init 577 = .ok (.aload_n 0, 1) := by decide +kernel
theorem dX12_init_578 : decode cX12_init 578 = .ok (.iconst 5, 1) := by decide +kernel
theorem dX12_init_579 : decode cX12_init 579 = .ok (.newarray .char, 2) := by decide +kernel
theorem dX12_init_581 : decode cX12_init 581 = .ok (.dup, 1) := by decide +kernel
theorem dX12_init_582 : decode cX12_init 582 = .ok (.iconst 0, 1) := by decide +kernel
theorem dX12_init_583 : decode cX12_init 583 = .ok (.bipush 102, 2) := by decide +kernel
theorem dX12_init_585 : decode cX12_init 585 = .ok (.castore, 1) := by decide +kernel
theorem dX12_init_586 : decode cX12_init 586 = .ok (.dup, 1) := by decide +kernel
theorem dX12_init_587 : decode cX12_init 587 = .ok (.iconst 1, 1) := by decide +kernel
theorem dX12_init_588 : decode cX12_init 588 = .ok (.bipush 114, 2) := by decide +kernel
theorem dX12_init_590 : decode cX12_init 590 = .ok (.castore, 1) := by decide +kernel
theorem dX12_init_591 : decode cX12_init 591 = .ok (.dup, 1) := by decide +kernel
theorem dX12_init_592 : decode cX12_init 592 = .ok (.iconst 2, 1) := by decide +kernel
theorem dX12_init_593 : decode cX12_init 593 = .ok (.bipush 101, 2) := by decide +kernel
theorem dX12_init_595 : decode cX12_init 595 = .ok (.castore, 1) := by decide +kernel
theorem dX12_init_596 : decode cX12_init 596 = .ok (.dup, 1) := by decide +kernel
theorem dX12_init_597 : decode cX12_init 597 = .ok (.iconst 3, 1) := by decide +kernel
theorem dX12_init_598 : decode cX12_init 598 = .ok (.bipush 115, 2) := by decide +kernel
theorem dX12_init_600 : decode cX12_init 600 = .ok (.castore, 1) := by decide +kernel
theorem dX12_init_601 : decode cX12_init 601 = .ok (.dup, 1) := by decide +kernel
theorem dX12_init_602 : decode cX12_init 602 = .ok (.iconst 4, 1) := by decide +kernel
theorem dX12_init_603 : decode cX12_init 603 = .ok (.bipush 104, 2) := by decide +kernel
theorem dX12_init_605 : decode cX12_init 605 = .ok (.castore, 1) := by decide +kernel
theorem dX12_init_606 : decode cX12_init 606 = .ok (.putfield 72, 3) := by decide +kernel
theorem dX12_init_609 : decode cX12_init 609 = .ok (.aload_n 0, 1) := by decide +kernel
theorem dX12_init_610 : decode cX12_init 610 = .ok (.iconst 5, 1) := by decide +kernel
theorem dX12_init_611 : decode cX12_init 611 = .ok (.newarray .char, 2) := by decide +kernel
theorem dX12_init_613 : decode cX12_init 613 = .ok (.dup, 1) := by decide +kernel
theorem dX12_init_614 : decode cX12_init 614 = .ok (.iconst 0, 1) := by decide +kernel
theorem dX12_init_615 : decode cX12_init 615 = .ok (.bipush 115, 2) := by decide +kernel
theorem dX12_init_617 : decode cX12_init 617 = .ok (.castore, 1) := by decide +kernel
theorem dX12_init_618 : decode cX12_init 618 = .ok (.dup, 1) := by decide +kernel
theorem dX12_init_619 : decode cX12_init 619 = .ok (.iconst 1, 1) := by decide +kernel
theorem dX12_init_620 : decode cX12_init 620 = .ok (.bipush 97, 2) := by decide +kernel
theorem dX12_init_622 : decode cX12_init 622 = .ok (.castore, 1) := by decide +kernel
theorem dX12_init_623 : decode cX12_init 623 = .ok (.dup, 1) := by decide +kernel
theorem dX12_init_624 : decode cX12_init 624 = .ok (.iconst 2, 1) := by decide +kernel
theorem dX12_init_625 : decode cX12_init 625 = .ok (.bipush 118, 2) := by decide +kernel
theorem dX12_init_627 : decode cX12_init 627 = .ok (.castore, 1) := by decide +kernel
theorem dX12_init_628 : decode cX12_init 628 = .ok (.dup, 1) := by decide +kernel
theorem dX12_init_629 : decode cX12_init 629 = .ok (.iconst 3, 1) := by decide +kernel
theorem dX12_init_630 : decode cX12_init 630 = .ok (.bipush 101, 2) := by decide +kernel
theorem dX12_init_632 : decode cX12_init 632 = .ok (.castore, 1) := by decide +kernel
theorem dX12_init_633 : decode cX12_init 633 = .ok (.dup, 1) := by decide +kernel
theorem dX12_init_634 : decode cX12_init 634 = .ok (.iconst 4, 1) := by decide +kernel
theorem dX12_init_635 : decode cX12_init 635 = .ok (.bipush 100, 2) := by decide +kernel
theorem dX12_init_637 : decode cX12_init 637 = .ok (.castore, 1) := by decide +kernel
theorem dX12_init_638 : decode cX12_init 638 = .ok (.putfield 75, 3) := by decide +kernel
theorem dX12_init_641 : decode cX12_init 641 = .ok (.aload_n 0, 1) := by decide +kernel
theorem dX12_init_642 : decode cX12_init 642 = .ok (.iconst 4, 1) := by decide +kernel
theorem dX12_init_643 : decode cX12_init 643 = .ok (.newarray .char, 2) := by decide +kernel
theorem dX12_init_645 : decode cX12_init 645 = .ok (.dup, 1) := by decide +kernel
theorem dX12_init_646 : decode cX12_init 646 = .ok (.iconst 0, 1) := by decide +kernel
theorem dX12_init_647 : decode cX12_init 647 = .ok (.bipush 114, 2) := by decide +kernel
theorem dX12_init_649 : decode cX12_init 649 = .ok (.castore, 1) := by decide +kernel
theorem dX12_init_650 : decode cX12_init 650 = .ok (.dup, 1) := by decide +kernel
theorem dX12_init_651 : decode cX12_init 651 = .ok (.iconst 1, 1) := by decide +kernel
theorem dX12_init_652 : decode cX12_init 652 = .ok (.bipush 101, 2) := by decide +kernel
theorem dX12_init_654 : decode cX12_init 654 = .ok (.castore, 1) := by decide +kernel
theorem dX12_init_655 : decode cX12_init 655 = .ok (.dup, 1) := by decide +kernel
theorem dX12_init_656 : decode cX12_init 656 = .ok (.iconst 2, 1) := by decide +kernel
theorem dX12_init_657 : decode cX12_init 657 = .ok (.bipush 102, 2) := by decide +kernel
theorem dX12_init_659 : decode cX12_init 659 = .ok (.castore, 1) := by decide +kernel
theorem dX12_init_660 : decode cX12_init 660 = .ok (.dup, 1) := by decide +kernel
theorem dX12_init_661 : decode cX12_init 661 = .ok (.iconst 3, 1) := by decide +kernel
theorem dX12_init_662 : decode cX12_init 662 = .ok (.bipush 115, 2) := by decide +kernel
theorem dX12_init_664 : decode cX12_init 664 = .ok (.castore, 1) := by decide +kernel
theorem dX12_init_665 : decode cX12_init 665 = .ok (.putfield 78, 3) := by decide +kernel
theorem dX12_init_668 : decode cX12_init 668 = .ok (.aload_n 0, 1) := by decide +kernel
theorem dX12_init_669 : decode cX12_init 669 = .ok (.iconst 3, 1) := by decide +kernel
theorem dX12_init_670 : decode cX12_init 670 = .ok (.newarray .char, 2) := by decide +kernel
theorem dX12_init_672 : decode cX12_init 672 = .ok (.dup, 1) := by decide +kernel
theorem dX12_init_673 : decode cX12_init 673 = .ok (.iconst 0, 1) := by decide +kernel
theorem dX12_init_674 : decode cX12_init 674 = .ok (.bipush 107, 2) := by decide +kernel
theorem dX12_init_676 : decode cX12_init 676 = .ok (.castore, 1) := by decide +kernel
theorem dX12_init_677 : decode cX12_init 677 = .ok (.dup, 1) := by decide +kernel
theorem dX12_init_678 : decode cX12_init 678 = .ok (.iconst 1, 1) := by decide +kernel
theorem dX12_init_679 : decode cX12_init 679 = .ok (.bipush 101, 2) := by decide +kernel
theorem dX12_init_681 : decode cX12_init 681 = .ok (.castore, 1) := by decide +kernel
theorem dX12_init_682 : decode cX12_init 682 = .ok (.dup, 1) := by decide +kernel
theorem dX12_init_683 : decode cX12_init 683 = .ok (.iconst 2, 1) := by decide +kernel
theorem dX12_init_684 : decode cX12_init 684 = .ok (.bipush 121, 2) := by decide +kernel
theorem dX12_init_686 : decode cX12_init 686 = .ok (.castore, 1) := by decide +kernel
theorem dX12_init_687 : decode cX12_init 687 = .ok (.putfield 81, 3) := by decide +kernel
theorem dX12_init_690 : decode cX12_init 690 = .ok (.aload_n 0, 1) := by decide +kernel
theorem dX12_init_691 : decode cX12_init 691 = .ok (.iconst 2, 1) := by decide +kernel
theorem dX12_init_692 : decode cX12_init 692 = .ok (.newarray .char, 2) := by decide +kernel
theorem dX12_init_694 : decode cX12_init 694 = .ok (.dup, 1) := by decide +kernel
theorem dX12_init_695 : decode cX12_init 695 = .ok (.iconst 0, 1) := by decide +kernel
theorem dX12_init_696 : decode cX12_init 696 = .ok (.bipush 111, 2) := by decide +kernel
theorem dX12_init_698 : decode cX12_init 698 = .ok (.castore, 1) := by decide +kernel
theorem dX12_init_699 : decode cX12_init 699 = .ok (.dup, 1) := by decide +kernel
theorem dX12_init_700 : decode cX12_init 700 = .ok (.iconst 1, 1) := by decide +kernel
theorem dX12_init_701 : decode cX12_init 701 = .ok (.bipush 114, 2) := by decide +kernel
theorem dX12_init_703 : decode cX12_init 703 = .ok (.castore, 1) := by decide +kernel
theorem dX12_init_704 : decode cX12_init 704 = .ok (.putfield 84, 3) := by decide +kernel
theorem dX12_init_707 : decode cX12_init 707 = .ok (.aload_n 0, 1) := by decide +kernel
theorem dX12_init_708 : decode cX12_init 708 = .ok (.iconst 3, 1) := by decide +kernel
theorem dX12_init_709 : decode cX12_init 709 = .ok (.newarray .char, 2) := by decide +kernel
theorem dX12_init_711 : decode cX12_init 711 = .ok (.dup, 1) := by decide +kernel
theorem dX12_init_712 : decode cX12_init 712 = .ok (.iconst 0, 1) := by decide +kernel
theorem dX12_init_713 : decode cX12_init 713 = .ok (.bipush 97, 2) := by decide +kernel
theorem dX12_init_715 : decode cX12_init 715 = .ok (.castore, 1) := by decide +kernel
theorem dX12_init_716 : decode cX12_init 716 = .ok (.dup, 1) := by decide +kernel
theorem dX12_init_717 : decode cX12_init 717 = .ok (.iconst 1, 1) := by decide +kernel
theorem dX12_init_718 : decode cX12_init 718 = .ok (.bipush 110, 2) := by decide +kernel
theorem dX12_init_720 : decode cX12_init 720 = .ok (.castore, 1) := by decide +kernel
theorem dX12_init_721 : decode cX12_init 721 = .ok (.dup, 1) := by decide +kernel
theorem dX12_init_722 : decode cX12_init 722 = .ok (.iconst 2, 1) := by decide +kernel
theorem dX12_init_723 : decode cX12_init 723 = .ok (.bipush 100, 2) := by decide +kernel
theorem dX12_init_725 : decode cX12_init 725 = .ok (.castore, 1) := by decide +kernel
theorem dX12_init_726 : decode cX12_init 726 = .ok (.putfield 87, 3) := by decide +kernel
theorem dX12_init_729 : decode cX12_init 729 = .ok (.aload_n 0, 1) := by decide +kernel
theorem dX12_init_730 : decode cX12_init 730 = .ok (.iconst 3, 1) := by decide +kernel
theorem dX12_init_731 : decode cX12_init 731 = .ok (.newarray .char, 2) := by decide +kernel
theorem dX12_init_733 : decode cX12_init 733 = .ok (.dup, 1) := by decide +kernel
theorem dX12_init_734 : decode cX12_init 734 = .ok (.iconst 0, 1) := by decide +kernel
theorem dX12_init_735 : decode cX12_init 735 = .ok (.bipush 110, 2) := by decide +kernel
theorem dX12_init_737 : decode cX12_init 737 = .ok (.castore, 1) := by decide +kernel
theorem dX12_init_738 : decode cX12_init 738 = .ok (.dup, 1) := by decide +kernel
theorem dX12_init_739 : decode cX12_init 739 = .ok (.iconst 1, 1) := by decide +kernel
theorem dX12_init_740 : decode cX12_init 740 = .ok (.bipush 111, 2) := by decide +kernel
theorem dX12_init_742 : decode cX12_init 742 = .ok (.castore, 1) := by decide +kernel
theorem dX12_init_743 : decode cX12_init 743 = .ok (.dup, 1) := by decide +kernel
theorem dX12_init_744 : decode cX12_init 744 = .ok (.iconst 2, 1) := by decide +kernel
theorem dX12_init_745 : decode cX12_init 745 = .ok (.bipush 116, 2) := by decide +kernel
theorem dX12_init_747 : decode cX12_init 747 = .ok (.castore, 1) := by decide +kernel
theorem dX12_init_748 : decode cX12_init 748 = .ok (.putfield 90, 3) := by decide +kernel
theorem dX12_init_751 : decode cX12_init 751 = .ok (.aload_n 0, 1) := by decide +kernel
theorem dX12_init_752 : decode cX12_init 752 = .ok (.iconst 3, 1) := by decide +kernel
theorem dX12_init_753 : decode cX12_init 753 = .ok (.newarray .char, 2) := by decide +kernel
theorem dX12_init_755 : decode cX12_init 755 = .ok (.dup, 1) := by decide +kernel
theorem dX12_init_756 : decode cX12_init 756 = .ok (.iconst 0, 1) := by decide +kernel
theorem dX12_init_757 : decode cX12_init 757 = .ok (.bipush 97, 2) := by decide +kernel
theorem dX12_init_759 : decode cX12_init 759 = .ok (.castore, 1) := by decide +kernel
theorem dX12_init_760 : decode cX12_init 760 = .ok (.dup, 1) := by decide +kernel
theorem dX12_init_761 : decode cX12_init 761 = .ok (.iconst 1, 1) := by decide +kernel
theorem dX12_init_762 : decode cX12_init 762 = .ok (.bipush 108, 2) := by decide +kernel
theorem dX12_init_764 : decode cX12_init 764 = .ok (.castore, 1) := by decide +kernel
theorem dX12_init_765 : decode cX12_init 765 = .ok (.dup, 1) := by decide +kernel
theorem dX12_init_766 : decode cX12_init 766 = .ok (.iconst 2, 1) := by decide +kernel
theorem dX12_init_767 : decode cX12_init 767 = .ok (.bipush 108, 2) := by decide +kernel
theorem dX12_init_769 : decode cX12_init 769 = .ok (.castore, 1) := by decide +kernel
theorem dX12_init_770 : decode cX12_init 770 = .ok (.putfield 93, 3) := by decide +kernel
theorem dX12_init_773 : decode cX12_init 773 = .ok (.aload_n 0, 1) := by decide +kernel
theorem dX12_init_774 : decode cX12_init 774 = .ok (.iconst 3, 1) := by decide +kernel
theorem dX12_init_775 : decode cX12_init 775 = .ok (.newarray .char, 2) := by decide +kernel
theorem dX12_init_777 : decode cX12_init 777 = .ok (.dup, 1) := by decide +kernel
theorem dX12_init_778 : decode cX12_init 778 = .ok (.iconst 0, 1) := by decide +kernel
theorem dX12_init_779 : decode cX12_init 779 = .ok (.bipush 109, 2) := by decide +kernel
theorem dX12_init_781 : decode cX12_init 781 = .ok (.castore, 1) := by decide +kernel
theorem dX12_init_782 : decode cX12_init 782 = .ok (.dup, 1) := by decide +kernel
theorem dX12_init_783 : decode cX12_init 783 = .ok (.iconst 1, 1) := by decide +kernel
theorem dX12_init_784 : decode cX12_init 784 = .ok (.bipush 105, 2) := by decide +kernel
theorem dX12_init_786 : decode cX12_init 786 = .ok (.castore, 1) := by decide +kernel
theorem dX12_init_787 : decode cX12_init 787 = .ok (.dup, 1) := by decide +kernel
theorem dX12_init_788 : decode cX12_init 788 = .ok (.iconst 2, 1) := by decide +kernel
theorem dX12_init_789 : decode cX12_init 789 = .ok (.bipush 110, 2) := by decide +kernel
theorem dX12_init_791 : decode cX12_init 791 = .ok (.castore, 1) := by decide +kernel
theorem dX12_init_792 : decode cX12_init 792 = .ok (.putfield 96, 3) := by decide +kernel
theorem dX12_init_795 : decode cX12_init 795 = .ok (.aload_n 0, 1) := by decide +kernel
theorem dX12_init_796 : decode cX12_init 796 = .ok (.iconst 3, 1) := by decide +kernel
theorem dX12_init_797 : decode cX12_init 797 = .ok (.newarray .char, 2) := by decide +kernel
theorem dX12_init_799 : decode cX12_init 799 = .ok (.dup, 1) := by decide +kernel
theorem dX12_init_800 : decode cX12_init 800 = .ok (.iconst 0, 1) := by decide +kernel
theorem dX12_init_801 : decode cX12_init 801 = .ok (.bipush 109, 2) := by decide +kernel
theorem dX12_init_803 : decode cX12_init 803 = .ok (.castore, 1) := by decide +kernel
theorem dX12_init_804 : decode cX12_init 804 = .ok (.dup, 1) := by decide +kernel
theorem dX12_init_805 : decode cX12_init 805 = .ok (.iconst 1, 1) := by decide +kernel
theorem dX12_init_806 : decode cX12_init 806 = .ok (.bipush 97, 2) := by decide +kernel
theorem dX12_init_808 : decode cX12_init 808 = .ok (.castore, 1) := by decide +kernel
theorem dX12_init_809 : decode cX12_init 809 = .ok (.dup, 1) := by decide +kernel
theorem dX12_init_810 : decode cX12_init 810 = .ok (.iconst 2, 1) := by decide +kernel
theorem dX12_init_811 : decode cX12_init 811 = .ok (.bipush 120, 2) := by decide +kernel
theorem dX12_init_813 : decode cX12_init 813 = .ok (.castore, 1) := by decide +kernel
theorem dX12_init_814 : decode cX12_init 814 = .ok (.putfield 99, 3) := by decide +kernel
theorem dX12_init_817 : decode cX12_init 817 = .ok (.aload_n 0, 1) := by decide +kernel
theorem dX12_init_818 : decode cX12_init 818 = .ok (.bipush 10, 2) := by decide +kernel
theorem dX12_init_820 : decode cX12_init 820 = .ok (.newarray .int, 2) := by decide +kernel
theorem dX12_init_822 : decode cX12_init 822 = .ok (.putfield 102, 3) := by decide +kernel
theorem dX12_init_825 : decode cX12_init 825 = .ok (.aload_n 0, 1) := by decide +kernel
theorem dX12_init_826 : decode cX12_init 826 = .ok (.bipush 16, 2) := by decide +kernel
theorem dX12_init_828 : decode cX12_init 828 = .ok (.newarray .long, 2) := by decide +kernel
theorem dX12_init_830 : decode cX12_init 830 = .ok (.putfield 105, 3) := by decide +kernel
theorem dX12_init_833 : decode cX12_init 833 = .ok (.aload_n 0, 1) := by decide +kernel
theorem dX12_init_834 : decode cX12_init 834 = .ok (.sipush 240, 3) := by decide +kernel
theorem dX12_init_837 : decode cX12_init 837 = .ok (.newarray .int, 2) := by decide +kernel
theorem dX12_init_839 : decode cX12_init 839 = .ok (.putfield 109, 3) := by decide +kernel
theorem dX12_init_842 : decode cX12_init 842 = .ok (.aload_n 0, 1) := by decide +kernel
theorem dX12_init_843 : decode cX12_init 843 = .ok (.bipush 6, 2) := by decide +kernel
theorem dX12_init_845 : decode cX12_init 845 = .ok (.newarray .int, 2) := by decide +kernel
theorem dX12_init_847 : decode cX12_init 847 = .ok (.dup, 1) := by decide +kernel
theorem dX12_init_848 : decode cX12_init 848 = .ok (.iconst 0, 1) := by decide +kernel
theorem dX12_init_849 : decode cX12_init 849 = .ok (.iconst (-1), 1) := by decide +kernel
theorem dX12_init_850 : decode cX12_init 850 = .ok (.iastore, 1) := by decide +kernel
theorem dX12_init_851 : decode cX12_init 851 = .ok (.dup, 1) := by decide +kernel
theorem dX12_init_852 : decode cX12_init 852 = .ok (.iconst 1, 1) := by decide +kernel
theorem dX12_init_853 : decode cX12_init 853 = .ok (.iconst (-1), 1) := by decide +kernel
theorem dX12_init_854 : decode cX12_init 854 = .ok (.iastore, 1) := by decide +kernel
theorem dX12_init_855 : decode cX12_init 855 = .ok (.dup, 1) := by decide +kernel
theorem dX12_init_856 : decode cX12_init 856 = .ok (.iconst 2, 1) := by decide +kernel
theorem dX12_init_857 : decode cX12_init 857 = .ok (.iconst (-1), 1) := by decide +kernel
theorem dX12_init_858 : decode cX12_init 858 = .ok (.iastore, 1) := by decide +kernel
theorem dX12_init_859 : decode cX12_init 859 = .ok (.dup, 1) := by decide +kernel
theorem dX12_init_860 : decode cX12_init 860 = .ok (.iconst 3, 1) := by decide +kernel
theorem dX12_init_861 : decode cX12_init 861 = .ok (.iconst (-1), 1) := by decide +kernel
theorem dX12_init_862 : decode cX12_init 862 = .ok (.iastore, 1) := by decide +kernel
theorem dX12_init_863 : decode cX12_init 863 = .ok (.dup, 1) := by decide +kernel
theorem dX12_init_864 : decode cX12_init 864 = .ok (.iconst 4, 1) := by decide +kernel
theorem dX12_init_865 : decode cX12_init 865 = .ok (.iconst (-1), 1) := by decide +kernel
theorem dX12_init_866 : decode cX12_init 866 = .ok (.iastore, 1) := by decide +kernel
theorem dX12_init_867 : decode cX12_init 867 = .ok (.dup, 1) := by decide +kernel
theorem dX12_init_868 : decode cX12_init 868 = .ok (.iconst 5, 1) := by decide +kernel
theorem dX12_init_869 : decode cX12_init 869 = .ok (.iconst (-1), 1) := by decide +kernel
theorem dX12_init_870 : decode cX12_init 870 = .ok (.iastore, 1) := by decide +kernel
theorem dX12_init_871 : decode cX12_init 871 = .ok (.putfield 112, 3) := by decide +kernel
theorem dX12_init_874 : decode cX12_init 874 = .ok (.aload_n 0, 1) := by decide +kernel
theorem dX12_init_875 : decode cX12_init 875 = .ok (.bipush 6, 2) := by decide +kernel
theorem dX12_init_877 : decode cX12_init 877 = .ok (.newarray .int, 2) := by decide +kernel
theorem dX12_init_879 : decode cX12_init 879 = .ok (.putfield 115, 3) := by decide +kernel
theorem dX12_init_882 : decode cX12_init 882 = .ok (.aload_n 0, 1) := by decide +kernel
theorem dX12_init_883 : decode cX12_init 883 = .ok (.sipush 3200, 3) := by decide +kernel
theorem dX12_init_886 : decode cX12_init 886 = .ok (.newarray .int, 2) := by decide +kernel
theorem dX12_init_888 : decode cX12_init 888 = .ok (.putfield 118, 3) := by decide +kernel
theorem dX12_init_891 : decode cX12_init 891 = .ok (.aload_n 0, 1) := by decide +kernel
theorem dX12_init_892 : decode cX12_init 892 = .ok (.sipush 906, 3) := by decide +kernel
theorem dX12_init_895 : decode cX12_init 895 = .ok (.newarray .int, 2) := by decide +kernel
theorem dX12_init_897 : decode cX12_init 897 = .ok (.putfield 121, 3) := by decide +kernel
theorem dX12_init_900 : decode cX12_init 900 = .ok (.aload_n 0, 1) := by decide +kernel
theorem dX12_init_901 : decode cX12_init 901 = .ok (.bipush 48, 2) := by decide +kernel
theorem dX12_init_903 : decode cX12_init 903 = .ok (.newarray .boolean, 2) := by decide +kernel
theorem dX12_init_905 : decode cX12_init 905 = .ok (.putfield 124, 3) := by decide +kernel
theorem dX12_init_908 : decode cX12_init 908 = .ok (.aload_n 0, 1) := by decide +kernel
theorem dX12_init_909 : decode cX12_init 909 = .ok (.sipush 300, 3) := by decide +kernel
theorem dX12_init_912 : decode cX12_init 912 = .ok (.newarray .int, 2) := by decide +kernel
theorem dX12_init_914 : decode cX12_init 914 = .ok (.putfield 128, 3) := by decide +kernel
theorem dX12_init_917 : decode cX12_init 917 = .ok (.aload_n 0, 1) := by decide +kernel
theorem dX12_init_918 : decode cX12_init 918 = .ok (.bipush 48, 2) := by decide +kernel
theorem dX12_init_920 : decode cX12_init 920 = .ok (.newarray .int, 2) := by decide +kernel
theorem dX12_init_922 : decode cX12_init 922 = .ok (.putfield 131, 3) := by decide +kernel
theorem dX12_init_925 : decode cX12_init 925 = .ok (.aload_n 0, 1) := by decide +kernel
theorem dX12_init_926 : decode cX12_init 926 = .ok (.bipush 48, 2) := by decide +kernel
theorem dX12_init_928 : decode cX12_init 928 = .ok (.newarray .int, 2) := by decide +kernel
theorem dX12_init_930 : decode cX12_init 930 = .ok (.putfield 134, 3) := by decide +kernel
theorem dX12_init_933 : decode cX12_init 933 = .ok (.aload_n 0, 1) := by decide +kernel
theorem dX12_init_934 : decode cX12_init 934 = .ok (.sipush 785, 3) := by decide +kernel
theorem dX12_init_937 : decode cX12_init 937 = .ok (.newarray .int, 2) := by decide +kernel
theorem dX12_init_939 : decode cX12_init 939 = .ok (.putfield 137, 3) := by decide +kernel
theorem dX12_init_942 : decode cX12_init 942 = .ok (.aload_n 0, 1) := by decide +kernel
theorem dX12_init_943 : decode cX12_init 943 = .ok (.bipush 48, 2) := by decide +kernel
theorem dX12_init_945 : decode cX12_init 945 = .ok (.newarray .boolean, 2) := by decide +kernel
theorem dX12_init_947 : decode cX12_init 947 = .ok (.putfield 140, 3) := by decide +kernel
theorem dX12_init_950 : decode cX12_init 950 = .ok (.aload_n 0, 1) := by decide +kernel
theorem dX12_init_951 : decode cX12_init 951 = .ok (.sipush 785, 3) := by decide +kernel
theorem dX12_init_954 : decode cX12_init 954 = .ok (.newarray .int, 2) := by decide +kernel
theorem dX12_init_956 : decode cX12_init 956 = .ok (.putfield 143, 3) := by decide +kernel
theorem dX12_init_959 : decode cX12_init 959 = .ok (.aload_n 0, 1) := by decide +kernel
theorem dX12_init_960 : decode cX12_init 960 = .ok (.sipush 300, 3) := by decide +kernel
theorem dX12_init_963 : decode cX12_init 963 = .ok (.newarray .int, 2) := by decide +kernel
theorem dX12_init_965 : decode cX12_init 965 = .ok (.putfield 146, 3) := by decide +kernel
theorem dX12_init_968 : decode cX12_init 968 = .ok (.aload_n 0, 1) := by decide +kernel
theorem dX12_init_969 : decode cX12_init 969 = .ok (.bipush 48, 2) := by decide +kernel
theorem dX12_init_971 : decode cX12_init 971 = .ok (.newarray .boolean, 2) := by decide +kernel
theorem dX12_init_973 : decode cX12_init 973 = .ok (.putfield 149, 3) := by decide +kernel
theorem dX12_init_976 : decode cX12_init 976 = .ok (.aload_n 0, 1) := by decide +kernel
theorem dX12_init_977 : decode cX12_init 977 = .ok (.sipush 300, 3) := by decide +kernel
theorem dX12_init_980 : decode cX12_init 980 = .ok (.newarray .int, 2) := by decide +kernel
theorem dX12_init_982 : decode cX12_init 982 = .ok (.putfield 152, 3) := by decide +kernel
theorem dX12_init_985 : decode cX12_init 985 = .ok (.aload_n 0, 1) := by decide +kernel
theorem dX12_init_986 : decode cX12_init 986 = .ok (.sipush 300, 3) := by decide +kernel
theorem dX12_init_989 : decode cX12_init 989 = .ok (.newarray .int, 2) := by decide +kernel
theorem dX12_init_991 : decode cX12_init 991 = .ok (.putfield 155, 3) := by decide +kernel
theorem dX12_init_994 : decode cX12_init 994 = .ok (.aload_n 0, 1) := by decide +kernel
theorem dX12_init_995 : decode cX12_init 995 = .ok (.sipush 300, 3) := by decide +kernel
theorem dX12_init_998 : decode cX12_init 998 = .ok (.newarray .int, 2) := by decide +kernel
theorem dX12_init_1000 : decode cX12_init 1000 = .ok (.putfield 158, 3) := by decide +kernel
theorem dX12_init_1003 : decode cX12_init 1003 = .ok (.aload_n 0, 1) := by decide +kernel
theorem dX12_init_1004 : decode cX12_init 1004 = .ok (.bipush 48, 2) := by decide +kernel
theorem dX12_init_1006 : decode cX12_init 1006 = .ok (.newarray .boolean, 2) := by decide +kernel
theorem dX12_init_1008 : decode cX12_init 1008 = .ok (.putfield 161, 3) := by decide +kernel
theorem dX12_init_1011 : decode cX12_init 1011 = .ok (.aload_n 0, 1) := by decide +kernel
theorem dX12_init_1012 : decode cX12_init 1012 = .ok (.bipush 48, 2) := by decide +kernel
theorem dX12_init_1014 : decode cX12_init 1014 = .ok (.newarray .int, 2) := by decide +kernel
theorem dX12_init_1016 : decode cX12_init 1016 = .ok (.putfield 164, 3) := by decide +kernel
theorem dX12_init_1019 : decode cX12_init 1019 = .ok (.aload_n 0, 1) := by decide +kernel
theorem dX12_init_1020 : decode cX12_init 1020 = .ok (.bipush 24, 2) := by decide +kernel
theorem dX12_init_1022 : decode cX12_init 1022 = .ok (.newarray .int, 2) := by decide +kernel
theorem dX12_init_1024 : decode cX12_init 1024 = .ok (.putfield 167, 3) := by decide +kernel
theorem dX12_init_1027 : decode cX12_init 1027 = .ok (.aload_n 0, 1) := by decide +kernel
theorem dX12_init_1028 : decode cX12_init 1028 = .ok (.sipush 18120, 3) := by decide +kernel
theorem dX12_init_1031 : decode cX12_init 1031 = .ok (.newarray .int, 2) := by decide +kernel
theorem dX12_init_1033 : decode cX12_init 1033 = .ok (.putfield 170, 3) := by decide +kernel
theorem dX12_init_1036 : decode cX12_init 1036 = .ok (.aload_n 0, 1) := by decide +kernel
theorem dX12_init_1037 : decode cX12_init 1037 = .ok (.lconst 1, 1) := by decide +kernel
theorem dX12_init_1038 : decode cX12_init 1038 = .ok (.putfield 173, 3) := by decide +kernel
theorem dX12_init_1041 : decode cX12_init 1041 = .ok (.aload_n 0, 1) := by decide +kernel
theorem dX12_init_1042 : decode cX12_init 1042 = .ok (.iconst 5, 1) := by decide +kernel
theorem dX12_init_1043 : decode cX12_init 1043 = .ok (.newarray .char, 2) := by decide +kernel
theorem dX12_init_1045 : decode cX12_init 1045 = .ok (.dup, 1) := by decide +kernel
theorem dX12_init_1046 : decode cX12_init 1046 = .ok (.iconst 0, 1) := by decide +kernel
theorem dX12_init_1047 : decode cX12_init 1047 = .ok (.bipush 102, 2) := by decide +kernel
theorem dX12_init_1049 : decode cX12_init 1049 = .ok (.castore, 1) := by decide +kernel
theorem dX12_init_1050 : decode cX12_init 1050 = .ok (.dup, 1) := by decide +kernel
theorem dX12_init_1051 : decode cX12_init 1051 = .ok (.iconst 1, 1) := by decide +kernel
theorem dX12_init_1052 : decode cX12_init 1052 = .ok (.bipush 105, 2) := by decide +kernel
theorem dX12_init_1054 : decode cX12_init 1054 = .ok (.castore, 1) := by decide +kernel
theorem dX12_init_1055 : decode cX12_init 1055 = .ok (.dup, 1) := by decide +kernel
theorem dX12_init_1056 : decode cX12_init 1056 = .ok (.iconst 2, 1) := by decide +kernel
theorem dX12_init_1057 : decode cX12_init 1057 = .ok (.bipush 114, 2) := by decide +kernel
theorem dX12_init_1059 : decode cX12_init 1059 = .ok (.castore, 1) := by decide +kernel
theorem dX12_init_1060 : decode cX12_init 1060 = .ok (.dup, 1) := by decide +kernel
theorem dX12_init_1061 : decode cX12_init 1061 = .ok (.iconst 3, 1) := by decide +kernel
theorem dX12_init_1062 : decode cX12_init 1062 = .ok (.bipush 115, 2) := by decide +kernel
theorem dX12_init_1064 : decode cX12_init 1064 = .ok (.castore, 1) := by decide +kernel
theorem dX12_init_1065 : decode cX12_init 1065 = .ok (.dup, 1) := by decide +kernel
theorem dX12_init_1066 : decode cX12_init 1066 = .ok (.iconst 4, 1) := by decide +kernel
theorem dX12_init_1067 : decode cX12_init 1067 = .ok (.bipush 116, 2) := by decide +kernel
theorem dX12_init_1069 : decode cX12_init 1069 = .ok (.castore, 1) := by decide +kernel
theorem dX12_init_1070 : decode cX12_init 1070 = .ok (.putfield 177, 3) := by decide +kernel
theorem dX12_init_1073 : decode cX12_init 1073 = .ok (.aload_n 0, 1) := by decide +kernel
theorem dX12_init_1074 : decode cX12_init 1074 = .ok (.iconst 4, 1) := by decide +kernel
theorem dX12_init_1075 : decode cX12_init 1075 = .ok (.newarray .char, 2) := by decide +kernel
theorem dX12_init_1077 : decode cX12_init 1077 = .ok (.dup, 1) := by decide +kernel
theorem dX12_init_1078 : decode cX12_init 1078 = .ok (.iconst 0, 1) := by decide +kernel
theorem dX12_init_1079 : decode cX12_init 1079 = .ok (.bipush 108, 2) := by decide +kernel
theorem dX12_init_1081 : decode cX12_init 1081 = .ok (.castore, 1) := by decide +kernel
theorem dX12_init_1082 : decode cX12_init 1082 = .ok (.dup, 1) := by decide +kernel
theorem dX12_init_1083 : decode cX12_init 1083 = .ok (.iconst 1, 1) := by decide +kernel
theorem dX12_init_1084 : decode cX12_init 1084 = .ok (.bipush 97, 2) := by decide +kernel
theorem dX12_init_1086 : decode cX12_init 1086 = .ok (.castore, 1) := by decide +kernel
theorem dX12_init_1087 : decode cX12_init 1087 = .ok (.dup, 1) := by decide +kernel
theorem dX12_init_1088 : decode cX12_init 1088 = .ok (.iconst 2, 1) := by decide +kernel
theorem dX12_init_1089 : decode cX12_init 1089 = .ok (.bipush 115, 2) := by decide +kernel
theorem dX12_init_1091 : decode cX12_init 1091 = .ok (.castore, 1) := by decide +kernel
theorem dX12_init_1092 : decode cX12_init 1092 = .ok (.dup, 1) := by decide +kernel
theorem dX12_init_1093 : decode cX12_init 1093 = .ok (.iconst 3, 1) := by decide +kernel
theorem dX12_init_1094 : decode cX12_init 1094 = .ok (.bipush 116, 2) := by decide +kernel
theorem dX12_init_1096 : decode cX12_init 1096 = .ok (.castore, 1) := by decide +kernel
theorem dX12_init_1097 : decode cX12_init 1097 = .ok (.putfield 180, 3) := by decide +kernel
theorem dX12_init_1100 : decode cX12_init 1100 = .ok (.aload_n 0, 1) := by decide +kernel
theorem dX12_init_1101 : decode cX12_init 1101 = .ok (.iconst 5, 1) := by decide +kernel
theorem dX12_init_1102 : decode cX12_init 1102 = .ok (.newarray .char, 2) := by decide +kernel
theorem dX12_init_1104 : decode cX12_init 1104 = .ok (.dup, 1) := by decide +kernel
theorem dX12_init_1105 : decode cX12_init 1105 = .ok (.iconst 0, 1) := by decide +kernel
theorem dX12_init_1106 : decode cX12_init 1106 = .ok (.bipush 111, 2) := by decide +kernel
theorem dX12_init_1108 : decode cX12_init 1108 = .ok (.castore, 1) := by decide +kernel
theorem dX12_init_1109 : decode cX12_init 1109 = .ok (.dup, 1) := by decide +kernel
theorem dX12_init_1110 : decode cX12_init 1110 = .ok (.iconst 1, 1) := by decide +kernel
theorem dX12_init_1111 : decode cX12_init 1111 = .ok (.bipush 102, 2) := by decide +kernel
theorem dX12_init_1113 : decode cX12_init 1113 = .ok (.castore, 1) := by decide +kernel
theorem dX12_init_1114 : decode cX12_init 1114 = .ok (.dup, 1) := by decide +kernel
theorem dX12_init_1115 : decode cX12_init 1115 = .ok (.iconst 2, 1) := by decide +kernel
theorem dX12_init_1116 : decode cX12_init 1116 = .ok (.bipush 116, 2) := by decide +kernel
theorem dX12_init_1118 : decode cX12_init 1118 = .ok (.castore, 1) := by decide +kernel
theorem dX12_init_1119 : decode cX12_init 1119 = .ok (.dup, 1) := by decide +kernel
theorem dX12_init_1120 : decode cX12_init 1120 = .ok (.iconst 3, 1) := by decide +kernel
theorem dX12_init_1121 : decode cX12_init 1121 = .ok (.bipush 101, 2) := by decide +kernel
theorem dX12_init_1123 : decode cX12_init 1123 = .ok (.castore, 1) := by decide +kernel
theorem dX12_init_1124 : decode cX12_init 1124 = .ok (.dup, 1) := by decide +kernel
theorem dX12_init_1125 : decode cX12_init 1125 = .ok (.iconst 4, 1) := by decide +kernel
theorem dX12_init_1126 : decode cX12_init 1126 = .ok (.bipush 110, 2) := by decide +kernel
theorem dX12_init_1128 : decode cX12_init 1128 = .ok (.castore, 1) := by decide +kernel
theorem dX12_init_1129 : decode cX12_init 1129 = .ok (.putfield 183, 3) := by decide +kernel
theorem dX12_init_1132 : decode cX12_init 1132 = .ok (.aload_n 0, 1) := by decide +kernel
theorem dX12_init_1133 : decode cX12_init 1133 = .ok (.iconst 5, 1) := by decide +kernel
theorem dX12_init_1134 : decode cX12_init 1134 = .ok (.newarray .char, 2) := by decide +kernel
theorem dX12_init_1136 : decode cX12_init 1136 = .ok (.dup, 1) := by decide +kernel
theorem dX12_init_1137 : decode cX12_init 1137 = .ok (.iconst 0, 1) := by decide +kernel
theorem dX12_init_1138 : decode cX12_init 1138 = .ok (.bipush 116, 2) := by decide +kernel
theorem dX12_init_1140 : decode cX12_init 1140 = .ok (.castore, 1) := by decide +kernel
theorem dX12_init_1141 : decode cX12_init 1141 = .ok (.dup, 1) := by decide +kernel
theorem dX12_init_1142 : decode cX12_init 1142 = .ok (.iconst 1, 1) := by decide +kernel
theorem dX12_init_1143 : decode cX12_init 1143 = .ok (.bipush 111, 2) := by decide +kernel
theorem dX12_init_1145 : decode cX12_init 1145 = .ok (.castore, 1) := by decide +kernel
theorem dX12_init_1146 : decode cX12_init 1146 = .ok (.dup, 1) := by decide +kernel
theorem dX12_init_1147 : decode cX12_init 1147 = .ok (.iconst 2, 1) := by decide +kernel
theorem dX12_init_1148 : decode cX12_init 1148 = .ok (.bipush 116, 2) := by decide +kernel
theorem dX12_init_1150 : decode cX12_init 1150 = .ok (.castore, 1) := by decide +kernel
theorem dX12_init_1151 : decode cX12_init 1151 = .ok (.dup, 1) := by decide +kernel
theorem dX12_init_1152 : decode cX12_init 1152 = .ok (.iconst 3, 1) := by decide +kernel
theorem dX12_init_1153 : decode cX12_init 1153 = .ok (.bipush 97, 2) := by decide +kernel
theorem dX12_init_1155 : decode cX12_init 1155 = .ok (.castore, 1) := by decide +kernel
theorem dX12_init_1156 : decode cX12_init 1156 = .ok (.dup, 1) := by decide +kernel
theorem dX12_init_1157 : decode cX12_init 1157 = .ok (.iconst 4, 1) := by decide +kernel
theorem dX12_init_1158 : decode cX12_init 1158 = .ok (.bipush 108, 2) := by decide +kernel
theorem dX12_init_1160 : decode cX12_init 1160 = .ok (.castore, 1) := by decide +kernel
theorem dX12_init_1161 : decode cX12_init 1161 = .ok (.putfield 186, 3) := by decide +kernel
theorem dX12_init_1164 : decode cX12_init 1164 = .ok (.aload_n 0, 1) := by decide +kernel
theorem dX12_init_1165 : decode cX12_init 1165 = .ok (.iconst 4, 1) := by decide +kernel
theorem dX12_init_1166 : decode cX12_init 1166 = .ok (.newarray .char, 2) := by decide +kernel
theorem dX12_init_1168 : decode cX12_init 1168 = .ok (.dup, 1) := by decide +kernel
theorem dX12_init_1169 : decode cX12_init 1169 = .ok (.iconst 0, 1) := by decide +kernel
theorem dX12_init_1170 : decode cX12_init 1170 = .ok (.bipush 109, 2) := by decide +kernel
theorem dX12_init_1172 : decode cX12_init 1172 = .ok (.castore, 1) := by decide +kernel
theorem dX12_init_1173 : decode cX12_init 1173 = .ok (.dup, 1) := by decide +kernel
theorem dX12_init_1174 : decode cX12_init 1174 = .ok (.iconst 1, 1) := by decide +kernel
theorem dX12_init_1175 : decode cX12_init 1175 = .ok (.bipush 111, 2) := by decide +kernel
theorem dX12_init_1177 : decode cX12_init 1177 = .ok (.castore, 1) := by decide +kernel
theorem dX12_init_1178 : decode cX12_init 1178 = .ok (.dup, 1) := by decide +kernel
theorem dX12_init_1179 : decode cX12_init 1179 = .ok (.iconst 2, 1) := by decide +kernel
theorem dX12_init_1180 : decode cX12_init 1180 = .ok (.bipush 115, 2) := by decide +kernel
theorem dX12_init_1182 : decode cX12_init 1182 = .ok (.castore, 1) := by decide +kernel
theorem dX12_init_1183 : decode cX12_init 1183 = .ok (.dup, 1) := by decide +kernel
theorem dX12_init_1184 : decode cX12_init 1184 = .ok (.iconst 3, 1) := by decide +kernel
theorem dX12_init_1185 : decode cX12_init 1185 = .ok (.bipush 116, 2) := by decide +kernel
theorem dX12_init_1187 : decode cX12_init 1187 = .ok (.castore, 1) := by decide +kernel
theorem dX12_init_1188 : decode cX12_init 1188 = .ok (.putfield 189, 3) := by decide +kernel
theorem dX12_init_1191 : decode cX12_init 1191 = .ok (.aload_n 0, 1) := by decide +kernel
theorem dX12_init_1192 : decode cX12_init 1192 = .ok (.iconst 5, 1) := by decide +kernel
theorem dX12_init_1193 : decode cX12_init 1193 = .ok (.newarray .char, 2) := by decide +kernel
theorem dX12_init_1195 : decode cX12_init 1195 = .ok (.dup, 1) := by decide +kernel
theorem dX12_init_1196 : decode cX12_init 1196 = .ok (.iconst 0, 1) := by decide +kernel
theorem dX12_init_1197 : decode cX12_init 1197 = .ok (.bipush 108, 2) := by decide +kernel
theorem dX12_init_1199 : decode cX12_init 1199 = .ok (.castore, 1) := by decide +kernel
theorem dX12_init_1200 : decode cX12_init 1200 = .ok (.dup, 1) := by decide +kernel
theorem dX12_init_1201 : decode cX12_init 1201 = .ok (.iconst 1, 1) := by decide +kernel
theorem dX12_init_1202 : decode cX12_init 1202 = .ok (.bipush 101, 2) := by decide +kernel
theorem dX12_init_1204 : decode cX12_init 1204 = .ok (.castore, 1) := by decide +kernel
theorem dX12_init_1205 : decode cX12_init 1205 = .ok (.dup, 1) := by decide +kernel
theorem dX12_init_1206 : decode cX12_init 1206 = .ok (.iconst 2, 1) := by decide +kernel
theorem dX12_init_1207 : decode cX12_init 1207 = .ok (.bipush 97, 2) := by decide +kernel
theorem dX12_init_1209 : decode cX12_init 1209 = .ok (.castore, 1) := by decide +kernel
theorem dX12_init_1210 : decode cX12_init 1210 = .ok (.dup, 1) := by decide +kernel
theorem dX12_init_1211 : decode cX12_init 1211 = .ok (.iconst 3, 1) := by decide +kernel
theorem dX12_init_1212 : decode cX12_init 1212 = .ok (.bipush 115, 2) := by decide +kernel
theorem dX12_init_1214 : decode cX12_init 1214 = .ok (.castore, 1) := by decide +kernel
theorem dX12_init_1215 : decode cX12_init 1215 = .ok (.dup, 1) := by decide +kernel
theorem dX12_init_1216 : decode cX12_init 1216 = .ok (.iconst 4, 1) := by decide +kernel
theorem dX12_init_1217 : decode cX12_init 1217 = .ok (.bipush 116, 2) := by decide +kernel
theorem dX12_init_1219 : decode cX12_init 1219 = .ok (.castore, 1) := by decide +kernel
theorem dX12_init_1220 : decode cX12_init 1220 = .ok (.putfield 192, 3) := by decide +kernel
theorem dX12_init_1223 : decode cX12_init 1223 = .ok (.aload_n 0, 1) := by decide +kernel
theorem dX12_init_1224 : decode cX12_init 1224 = .ok (.iconst 3, 1) := by decide +kernel
theorem dX12_init_1225 : decode cX12_init 1225 = .ok (.newarray .char, 2) := by decide +kernel
theorem dX12_init_1227 : decode cX12_init 1227 = .ok (.dup, 1) := by decide +kernel
theorem dX12_init_1228 : decode cX12_init 1228 = .ok (.iconst 0, 1) := by decide +kernel
theorem dX12_init_1229 : decode cX12_init 1229 = .ok (.bipush 110, 2) := by decide +kernel
theorem dX12_init_1231 : decode cX12_init 1231 = .ok (.castore, 1) := by decide +kernel
theorem dX12_init_1232 : decode cX12_init 1232 = .ok (.dup, 1) := by decide +kernel
theorem dX12_init_1233 : decode cX12_init 1233 = .ok (.iconst 1, 1) := by decide +kernel
theorem dX12_init_1234 : decode cX12_init 1234 = .ok (.bipush 111, 2) := by decide +kernel
theorem dX12_init_1236 : decode cX12_init 1236 = .ok (.castore, 1) := by decide +kernel
theorem dX12_init_1237 : decode cX12_init 1237 = .ok (.dup, 1) := by decide +kernel
theorem dX12_init_1238 : decode cX12_init 1238 = .ok (.iconst 2, 1) := by decide +kernel
theorem dX12_init_1239 : decode cX12_init 1239 = .ok (.bipush 116, 2) := by decide +kernel
theorem dX12_init_1241 : decode cX12_init 1241 = .ok (.castore, 1) := by decide +kernel
theorem dX12_init_1242 : decode cX12_init 1242 = .ok (.putfield 195, 3) := by decide +kernel
theorem dX12_init_1245 : decode cX12_init 1245 = .ok (.aload_n 0, 1) := by decide +kernel
theorem dX12_init_1246 : decode cX12_init 1246 = .ok (.iconst 3, 1) := by decide +kernel
theorem dX12_init_1247 : decode cX12_init 1247 = .ok (.newarray .char, 2) := by decide +kernel
theorem dX12_init_1249 : decode cX12_init 1249 = .ok (.dup, 1) := by decide +kernel
theorem dX12_init_1250 : decode cX12_init 1250 = .ok (.iconst 0, 1) := by decide +kernel
theorem dX12_init_1251 : decode cX12_init 1251 = .ok (.bipush 97, 2) := by decide +kernel
theorem dX12_init_1253 : decode cX12_init 1253 = .ok (.castore, 1) := by decide +kernel
theorem dX12_init_1254 : decode cX12_init 1254 = .ok (.dup, 1) := by decide +kernel
theorem dX12_init_1255 : decode cX12_init 1255 = .ok (.iconst 1, 1) := by decide +kernel
theorem dX12_init_1256 : decode cX12_init 1256 = .ok (.bipush 110, 2) := by decide +kernel
theorem dX12_init_1258 : decode cX12_init 1258 = .ok (.castore, 1) := by decide +kernel
theorem dX12_init_1259 : decode cX12_init 1259 = .ok (.dup, 1) := by decide +kernel
theorem dX12_init_1260 : decode cX12_init 1260 = .ok (.iconst 2, 1) := by decide +kernel
theorem dX12_init_1261 : decode cX12_init 1261 = .ok (.bipush 100, 2) := by decide +kernel
theorem dX12_init_1263 : decode cX12_init 1263 = .ok (.castore, 1) := by decide +kernel
theorem dX12_init_1264 : decode cX12_init 1264 = .ok (.putfield 198, 3) := by decide +kernel
theorem dX12_init_1267 : decode cX12_init 1267 = .ok (.aload_n 0, 1) := by decide +kernel
theorem dX12_init_1268 : decode cX12_init 1268 = .ok (.iconst 2, 1) := by decide +kernel
theorem dX12_init_1269 : decode cX12_init 1269 = .ok (.newarray .char, 2) := by decide +kernel
theorem dX12_init_1271 : decode cX12_init 1271 = .ok (.dup, 1) := by decide +kernel
theorem dX12_init_1272 : decode cX12_init 1272 = .ok (.iconst 0, 1) := by decide +kernel
theorem dX12_init_1273 : decode cX12_init 1273 = .ok (.bipush 111, 2) := by decide +kernel
theorem dX12_init_1275 : decode cX12_init 1275 = .ok (.castore, 1) := by decide +kernel
theorem dX12_init_1276 : decode cX12_init 1276 = .ok (.dup, 1) := by decide +kernel
theorem dX12_init_1277 : decode cX12_init 1277 = .ok (.iconst 1, 1) := by decide +kernel
theorem dX12_init_1278 : decode cX12_init 1278 = .ok (.bipush 114, 2) := by decide +kernel
theorem dX12_init_1280 : decode cX12_init 1280 = .ok (.castore, 1) := by decide +kernel
theorem dX12_init_1281 : decode cX12_init 1281 = .ok (.putfield 201, 3) := by decide +kernel
theorem dX12_init_1284 : decode cX12_init 1284 = .ok (.aload_n 0, 1) := by decide +kernel
theorem dX12_init_1285 : decode cX12_init 1285 = .ok (.iconst 3, 1) := by decide +kernel
theorem dX12_init_1286 : decode cX12_init 1286 = .ok (.newarray .char, 2) := by decide +kernel
theorem dX12_init_1288 : decode cX12_init 1288 = .ok (.dup, 1) := by decide +kernel
theorem dX12_init_1289 : decode cX12_init 1289 = .ok (.iconst 0, 1) := by decide +kernel
theorem dX12_init_1290 : decode cX12_init 1290 = .ok (.bipush 97, 2) := by decide +kernel
theorem dX12_init_1292 : decode cX12_init 1292 = .ok (.castore, 1) := by decide +kernel
theorem dX12_init_1293 : decode cX12_init 1293 = .ok (.dup, 1) := by decide +kernel
theorem dX12_init_1294 : decode cX12_init 1294 = .ok (.iconst 1, 1) := by decide +kernel
theorem dX12_init_1295 : decode cX12_init 1295 = .ok (.bipush 108, 2) := by decide +kernel
theorem dX12_init_1297 : decode cX12_init 1297 = .ok (.castore, 1) := by decide +kernel
theorem dX12_init_1298 : decode cX12_init 1298 = .ok (.dup, 1) := by decide +kernel
theorem dX12_init_1299 : decode cX12_init 1299 = .ok (.iconst 2, 1) := by decide +kernel
theorem dX12_init_1300 : decode cX12_init 1300 = .ok (.bipush 108, 2) := by decide +kernel
theorem dX12_init_1302 : decode cX12_init 1302 = .ok (.castore, 1) := by decide +kernel
theorem dX12_init_1303 : decode cX12_init 1303 = .ok (.putfield 204, 3) := by decide +kernel
theorem dX12_init_1306 : decode cX12_init 1306 = .ok (.aload_n 0, 1) := by decide +kernel
theorem dX12_init_1307 : decode cX12_init 1307 = .ok (.iconst 3, 1) := by decide +kernel
theorem dX12_init_1308 : decode cX12_init 1308 = .ok (.newarray .char, 2) := by decide +kernel
theorem dX12_init_1310 : decode cX12_init 1310 = .ok (.dup, 1) := by decide +kernel
theorem dX12_init_1311 : decode cX12_init 1311 = .ok (.iconst 0, 1) := by decide +kernel
theorem dX12_init_1312 : decode cX12_init 1312 = .ok (.bipush 109, 2) := by decide +kernel
theorem dX12_init_1314 : decode cX12_init 1314 = .ok (.castore, 1) := by decide +kernel
theorem dX12_init_1315 : decode cX12_init 1315 = .ok (.dup, 1) := by decide +kernel
theorem dX12_init_1316 : decode cX12_init 1316 = .ok (.iconst 1, 1) := by decide +kernel
theorem dX12_init_1317 : decode cX12_init 1317 = .ok (.bipush 105, 2) := by decide +kernel
theorem dX12_init_1319 : decode cX12_init 1319 = .ok (.castore, 1) := by decide +kernel
theorem dX12_init_1320 : decode cX12_init 1320 = .ok (.dup, 1) := by decide +kernel
theorem dX12_init_1321 : decode cX12_init 1321 = .ok (.iconst 2, 1) := by decide +kernel
theorem dX12_init_1322 : decode cX12_init 1322 = .ok (.bipush 110, 2) := by decide +kernel
theorem dX12_init_1324 : decode cX12_init 1324 = .ok (.castore, 1) := by decide +kernel
theorem dX12_init_1325 : decode cX12_init 1325 = .ok (.putfield 207, 3) := by decide +kernel
theorem dX12_init_1328 : decode cX12_init 1328 = .ok (.aload_n 0, 1) := by decide +kernel
theorem dX12_init_1329 : decode cX12_init 1329 = .ok (.iconst 3, 1) := by decide +kernel
theorem dX12_init_1330 : decode cX12_init 1330 = .ok (.newarray .char, 2) := by decide +kernel
theorem dX12_init_1332 : decode cX12_init 1332 = .ok (.dup, 1) := by decide +kernel
theorem dX12_init_1333 : decode cX12_init 1333 = .ok (.iconst 0, 1) := by decide +kernel
theorem dX12_init_1334 : decode cX12_init 1334 = .ok (.bipush 109, 2) := by decide +kernel
theorem dX12_init_1336 : decode cX12_init 1336 = .ok (.castore, 1) := by decide +kernel
theorem dX12_init_1337 : decode cX12_init 1337 = .ok (.dup, 1) := by decide +kernel
theorem dX12_init_1338 : decode cX12_init 1338 = .ok (.iconst 1, 1) := by decide +kernel
theorem dX12_init_1339 : decode cX12_init 1339 = .ok (.bipush 97, 2) := by decide +kernel
theorem dX12_init_1341 : decode cX12_init 1341 = .ok (.castore, 1) := by decide +kernel
theorem dX12_init_1342 : decode cX12_init 1342 = .ok (.dup, 1) := by decide +kernel
theorem dX12_init_1343 : decode cX12_init 1343 = .ok (.iconst 2, 1) := by decide +kernel
theorem dX12_init_1344 : decode cX12_init 1344 = .ok (.bipush 120, 2) := by decide +kernel
theorem dX12_init_1346 : decode cX12_init 1346 = .ok (.castore, 1) := by decide +kernel
theorem dX12_init_1347 : decode cX12_init 1347 = .ok (.putfield 210, 3) := by decide +kernel
theorem dX12_init_1350 : decode cX12_init 1350 = .ok (.aload_n 0, 1) := by decide +kernel
theorem dX12_init_1351 : decode cX12_init 1351 = .ok (.iconst 5, 1) := by decide +kernel
theorem dX12_init_1352 : decode cX12_init 1352 = .ok (.newarray .char, 2) := by decide +kernel
theorem dX12_init_1354 : decode cX12_init 1354 = .ok (.dup, 1) := by decide +kernel
theorem dX12_init_1355 : decode cX12_init 1355 = .ok (.iconst 0, 1) := by decide +kernel
theorem dX12_init_1356 : decode cX12_init 1356 = .ok (.bipush 108, 2) := by decide +kernel
theorem dX12_init_1358 : decode cX12_init 1358 = .ok (.castore, 1) := by decide +kernel
theorem dX12_init_1359 : decode cX12_init 1359 = .ok (.dup, 1) := by decide +kernel
theorem dX12_init_1360 : decode cX12_init 1360 = .ok (.iconst 1, 1) := by decide +kernel
theorem dX12_init_1361 : decode cX12_init 1361 = .ok (.bipush 101, 2) := by decide +kernel
theorem dX12_init_1363 : decode cX12_init 1363 = .ok (.castore, 1) := by decide +kernel
theorem dX12_init_1364 : decode cX12_init 1364 = .ok (.dup, 1) := by decide +kernel
theorem dX12_init_1365 : decode cX12_init 1365 = .ok (.iconst 2, 1) := by decide +kernel
theorem dX12_init_1366 : decode cX12_init 1366 = .ok (.bipush 118, 2) := by decide +kernel
theorem dX12_init_1368 : decode cX12_init 1368 = .ok (.castore, 1) := by decide +kernel
theorem dX12_init_1369 : decode cX12_init 1369 = .ok (.dup, 1) := by decide +kernel
theorem dX12_init_1370 : decode cX12_init 1370 = .ok (.iconst 3, 1) := by decide +kernel
theorem dX12_init_1371 : decode cX12_init 1371 = .ok (.bipush 101, 2) := by decide +kernel
theorem dX12_init_1373 : decode cX12_init 1373 = .ok (.castore, 1) := by decide +kernel
theorem dX12_init_1374 : decode cX12_init 1374 = .ok (.dup, 1) := by decide +kernel
theorem dX12_init_1375 : decode cX12_init 1375 = .ok (.iconst 4, 1) := by decide +kernel
theorem dX12_init_1376 : decode cX12_init 1376 = .ok (.bipush 108, 2) := by decide +kernel
theorem dX12_init_1378 : decode cX12_init 1378 = .ok (.castore, 1) := by decide +kernel
theorem dX12_init_1379 : decode cX12_init 1379 = .ok (.putfield 213, 3) := by decide +kernel
theorem dX12_init_1382 : decode cX12_init 1382 = .ok (.aload_n 0, 1) := by decide +kernel
theorem dX12_init_1383 : decode cX12_init 1383 = .ok (.iconst 5, 1) := by decide +kernel
theorem dX12_init_1384 : decode cX12_init 1384 = .ok (.newarray .char, 2) := by decide +kernel
theorem dX12_init_1386 : decode cX12_init 1386 = .ok (.dup, 1) := by decide +kernel
theorem dX12_init_1387 : decode cX12_init 1387 = .ok (.iconst 0, 1) := by decide +kernel
theorem dX12_init_1388 : decode cX12_init 1388 = .ok (.bipush 98, 2) := by decide +kernel
theorem dX12_init_1390 : decode cX12_init 1390 = .ok (.castore, 1) := by decide +kernel
theorem dX12_init_1391 : decode cX12_init 1391 = .ok (.dup, 1) := by decide +kernel
theorem dX12_init_1392 : decode cX12_init 1392 = .ok (.iconst 1, 1) := by decide +kernel
theorem dX12_init_1393 : decode cX12_init 1393 = .ok (.bipush 108, 2) := by decide +kernel
theorem dX12_init_1395 : decode cX12_init 1395 = .ok (.castore, 1) := by decide +kernel
theorem dX12_init_1396 : decode cX12_init 1396 = .ok (.dup, 1) := by decide +kernel
theorem dX12_init_1397 : decode cX12_init 1397 = .ok (.iconst 2, 1) := by decide +kernel
theorem dX12_init_1398 : decode cX12_init 1398 = .ok (.bipush 111, 2) := by decide +kernel
theorem dX12_init_1400 : decode cX12_init 1400 = .ok (.castore, 1) := by decide +kernel
theorem dX12_init_1401 : decode cX12_init 1401 = .ok (.dup, 1) := by decide +kernel
theorem dX12_init_1402 : decode cX12_init 1402 = .ok (.iconst 3, 1) := by decide +kernel
theorem dX12_init_1403 : decode cX12_init 1403 = .ok (.bipush 99, 2) := by decide +kernel
theorem dX12_init_1405 : decode cX12_init 1405 = .ok (.castore, 1) := by decide +kernel
theorem dX12_init_1406 : decode cX12_init 1406 = .ok (.dup, 1) := by decide +kernel
theorem dX12_init_1407 : decode cX12_init 1407 = .ok (.iconst 4, 1) := by decide +kernel
theorem dX12_init_1408 : decode cX12_init 1408 = .ok (.bipush 107, 2) := by decide +kernel
theorem dX12_init_1410 : decode cX12_init 1410 = .ok (.castore, 1) := by decide +kernel
theorem dX12_init_1411 : decode cX12_init 1411 = .ok (.putfield 216, 3) := by decide +kernel
theorem dX12_init_1414 : decode cX12_init 1414 = .ok (.aload_n 0, 1) := by decide +kernel
theorem dX12_init_1415 : decode cX12_init 1415 = .ok (.iconst 4, 1) := by decide +kernel
theorem dX12_init_1416 : decode cX12_init 1416 = .ok (.newarray .char, 2) := by decide +kernel
theorem dX12_init_1418 : decode cX12_init 1418 = .ok (.dup, 1) := by decide +kernel
theorem dX12_init_1419 : decode cX12_init 1419 = .ok (.iconst 0, 1) := by decide +kernel
theorem dX12_init_1420 : decode cX12_init 1420 = .ok (.bipush 102, 2) := by decide +kernel
theorem dX12_init_1422 : decode cX12_init 1422 = .ok (.castore, 1) := by decide +kernel
theorem dX12_init_1423 : decode cX12_init 1423 = .ok (.dup, 1) := by decide +kernel
theorem dX12_init_1424 : decode cX12_init 1424 = .ok (.iconst 1, 1) := by decide +kernel
theorem dX12_init_1425 : decode cX12_init 1425 = .ok (.bipush 114, 2) := by decide +kernel
theorem dX12_init_1427 : decode cX12_init 1427 = .ok (.castore, 1) := by decide +kernel
theorem dX12_init_1428 : decode cX12_init 1428 = .ok (.dup, 1) := by decide +kernel
theorem dX12_init_1429 : decode cX12_init 1429 = .ok (.iconst 2, 1) := by decide +kernel
theorem dX12_init_1430 : decode cX12_init 1430 = .ok (.bipush 111, 2) := by decide +kernel
theorem dX12_init_1432 : decode cX12_init 1432 = .ok (.castore, 1) := by decide +kernel
theorem dX12_init_1433 : decode cX12_init 1433 = .ok (.dup, 1) := by decide +kernel
theorem dX12_init_1434 : decode cX12_init 1434 = .ok (.iconst 3, 1) := by decide +kernel
theorem dX12_init_1435 : decode cX12_init 1435 = .ok (.bipush 109, 2) := by decide +kernel
theorem dX12_init_1437 : decode cX12_init 1437 = .ok (.castore, 1) := by decide +kernel
theorem dX12_init_1438 : decode cX12_init 1438 = .ok (.putfield 219, 3) := by decide +kernel
theorem dX12_init_1441 : decode cX12_init 1441 = .ok (.aload_n 0, 1) := by decide +kernel
theorem dX12_init_1442 : decode cX12_init 1442 = .ok (.bipush 7, 2) := by decide +kernel
theorem dX12_init_1444 : decode cX12_init 1444 = .ok (.newarray .char, 2) := by decide +kernel
theorem dX12_init_1446 : decode cX12_init 1446 = .ok (.dup, 1) := by decide +kernel
theorem dX12_init_1447 : decode cX12_init 1447 = .ok (.iconst 0, 1) := by decide +kernel
theorem dX12_init_1448 : decode cX12_init 1448 = .ok (.bipush 101, 2) := by decide +kernel
theorem dX12_init_1450 : decode cX12_init 1450 = .ok (.castore, 1) := by decide +kernel
theorem dX12_init_1451 : decode cX12_init 1451 = .ok (.dup, 1) := by decide +kernel
theorem dX12_init_1452 : decode cX12_init 1452 = .ok (.iconst 1, 1) := by decide +kernel
theorem dX12_init_1453 : decode cX12_init 1453 = .ok (.bipush 110, 2) := by decide +kernel
theorem dX12_init_1455 : decode cX12_init 1455 = .ok (.castore, 1) := by decide +kernel
theorem dX12_init_1456 : decode cX12_init 1456 = .ok (.dup, 1) := by decide +kernel
theorem dX12_init_1457 : decode cX12_init 1457 = .ok (.iconst 2, 1) := by decide +kernel
theorem dX12_init_1458 : decode cX12_init 1458 = .ok (.bipush 116, 2) := by decide +kernel
theorem dX12_init_1460 : decode cX12_init 1460 = .ok (.castore, 1) := by decide +kernel
theorem dX12_init_1461 : decode cX12_init 1461 = .ok (.dup, 1) := by decide +kernel
theorem dX12_init_1462 : decode cX12_init 1462 = .ok (.iconst 3, 1) := by decide +kernel
theorem dX12_init_1463 : decode cX12_init 1463 = .ok (.bipush 114, 2) := by decide +kernel
theorem dX12_init_1465 : decode cX12_init 1465 = .ok (.castore, 1) := by decide +kernel
theorem dX12_init_1466 : decode cX12_init 1466 = .ok (.dup, 1) := by decide +kernel
theorem dX12_init_1467 : decode cX12_init 1467 = .ok (.iconst 4, 1) := by decide +kernel
theorem dX12_init_1468 : decode cX12_init 1468 = .ok (.bipush 105, 2) := by decide +kernel
theorem dX12_init_1470 : decode cX12_init 1470 = .ok (.castore, 1) := by decide +kernel
theorem dX12_init_1471 : decode cX12_init 1471 = .ok (.dup, 1) := by decide +kernel
theorem dX12_init_1472 : decode cX12_init 1472 = .ok (.iconst 5, 1) := by decide +kernel
theorem dX12_init_1473 : decode cX12_init 1473 = .ok (.bipush 101, 2) := by decide +kernel
theorem dX12_init_1475 : decode cX12_init 1475 = .ok (.castore, 1) := by decide +kernel
theorem dX12_init_1476 : decode cX12_init 1476 = .ok (.dup, 1) := by decide +kernel
theorem dX12_init_1477 : decode cX12_init 1477 = .ok (.bipush 6, 2) := by decide +kernel
theorem dX12_init_1479 : decode cX12_init 1479 = .ok (.bipush 115, 2) := by decide +kernel
theorem dX12_init_1481 : decode cX12_init 1481 = .ok (.castore, 1) := by decide +kernel
theorem dX12_init_1482 : decode cX12_init 1482 = .ok (.putfield 222, 3) := by decide +kernel
theorem dX12_init_1485 : decode cX12_init 1485 = .ok (.aload_n 0, 1) := by decide +kernel
theorem dX12_init_1486 : decode cX12_init 1486 = .ok (.bipush 6, 2) := by decide +kernel
theorem dX12_init_1488 : decode cX12_init 1488 = .ok (.newarray .char, 2) := by decide +kernel
theorem dX12_init_1490 : decode cX12_init 1490 = .ok (.dup, 1) := by decide +kernel
theorem dX12_init_1491 : decode cX12_init 1491 = .ok (.iconst 0, 1) := by decide +kernel
theorem dX12_init_1492 : decode cX12_init 1492 = .ok (.bipush 110, 2) := by decide +kernel
theorem dX12_init_1494 : decode cX12_init 1494 = .ok (.castore, 1) := by decide +kernel
theorem dX12_init_1495 : decode cX12_init 1495 = .ok (.dup, 1) := by decide +kernel
theorem dX12_init_1496 : decode cX12_init 1496 = .ok (.iconst 1, 1) := by decide +kernel
theorem dX12_init_1497 : decode cX12_init 1497 = .ok (.bipush 117, 2) := by decide +kernel
theorem dX12_init_1499 : decode cX12_init 1499 = .ok (.castore, 1) := by decide +kernel
theorem dX12_init_1500 : decode cX12_init 1500 = .ok (.dup, 1) := by decide +kernel
theorem dX12_init_1501 : decode cX12_init 1501 = .ok (.iconst 2, 1) := by decide +kernel
theorem dX12_init_1502 : decode cX12_init 1502 = .ok (.bipush 109, 2) := by decide +kernel
theorem dX12_init_1504 : decode cX12_init 1504 = .ok (.castore, 1) := by decide +kernel
theorem dX12_init_1505 : decode cX12_init 1505 = .ok (.dup, 1) := by decide +kernel
theorem dX12_init_1506 : decode cX12_init 1506 = .ok (.iconst 3, 1) := by decide +kernel
theorem dX12_init_1507 : decode cX12_init 1507 = .ok (.bipush 98, 2) := by decide +kernel
theorem dX12_init_1509 : decode cX12_init 1509 = .ok (.castore, 1) := by decide +kernel
theorem dX12_init_1510 : decode cX12_init 1510 = .ok (.dup, 1) := by decide +kernel
theorem dX12_init_1511 : decode cX12_init 1511 = .ok (.iconst 4, 1) := by decide +kernel
theorem dX12_init_1512 : decode cX12_init 1512 = .ok (.bipush 101, 2) := by decide +kernel
theorem dX12_init_1514 : decode cX12_init 1514 = .ok (.castore, 1) := by decide +kernel
theorem dX12_init_1515 : decode cX12_init 1515 = .ok (.dup, 1) := by decide +kernel
theorem dX12_init_1516 : decode cX12_init 1516 = .ok (.iconst 5, 1) := by decide +kernel
theorem dX12_init_1517 : decode cX12_init 1517 = .ok (.bipush 114, 2) := by decide +kernel
theorem dX12_init_1519 : decode cX12_init 1519 = .ok (.castore, 1) := by decide +kernel
theorem dX12_init_1520 : decode cX12_init 1520 = .ok (.putfield 225, 3) := by decide +kernel
theorem dX12_init_1523 : decode cX12_init 1523 = .ok (.aload_n 0, 1) := by decide +kernel
theorem dX12_init_1524 : decode cX12_init 1524 = .ok (.iconst 5, 1) := by decide +kernel
theorem dX12_init_1525 : decode cX12_init 1525 = .ok (.newarray .char, 2) := by decide +kernel
theorem dX12_init_1527 : decode cX12_init 1527 = .ok (.dup, 1) := by decide +kernel
theorem dX12_init_1528 : decode cX12_init 1528 = .ok (.iconst 0, 1) := by decide +kernel
theorem dX12_init_1529 : decode cX12_init 1529 = .ok (.bipush 99, 2) := by decide +kernel
theorem dX12_init_1531 : decode cX12_init 1531 = .ok (.castore, 1) := by decide +kernel
theorem dX12_init_1532 : decode cX12_init 1532 = .ok (.dup, 1) := by decide +kernel
theorem dX12_init_1533 : decode cX12_init 1533 = .ok (.iconst 1, 1) := by decide +kernel
theorem dX12_init_1534 : decode cX12_init 1534 = .ok (.bipush 111, 2) := by decide +kernel
theorem dX12_init_1536 : decode cX12_init 1536 = .ok (.castore, 1) := by decide +kernel
theorem dX12_init_1537 : decode cX12_init 1537 = .ok (.dup, 1) := by decide +kernel
theorem dX12_init_1538 : decode cX12_init 1538 = .ok (.iconst 2, 1) := by decide +kernel
theorem dX12_init_1539 : decode cX12_init 1539 = .ok (.bipush 117, 2) := by decide +kernel
theorem dX12_init_1541 : decode cX12_init 1541 = .ok (.castore, 1) := by decide +kernel
theorem dX12_init_1542 : decode cX12_init 1542 = .ok (.dup, 1) := by decide +kernel
theorem dX12_init_1543 : decode cX12_init 1543 = .ok (.iconst 3, 1) := by decide +kernel
theorem dX12_init_1544 : decode cX12_init 1544 = .ok (.bipush 110, 2) := by decide +kernel
theorem dX12_init_1546 : decode cX12_init 1546 = .ok (.castore, 1) := by decide +kernel
theorem dX12_init_1547 : decode cX12_init 1547 = .ok (.dup, 1) := by decide +kernel
theorem dX12_init_1548 : decode cX12_init 1548 = .ok (.iconst 4, 1) := by decide +kernel
theorem dX12_init_1549 : decode cX12_init 1549 = .ok (.bipush 116, 2) := by decide +kernel
theorem dX12_init_1551 : decode cX12_init 1551 = .ok (.castore, 1) := by decide +kernel
theorem dX12_init_1552 : decode cX12_init 1552 = .ok (.putfield 228, 3) := by decide +kernel
theorem dX12_init_1555 : decode cX12_init 1555 = .ok (.aload_n 0, 1) := by decide +kernel
theorem dX12_init_1556 : decode cX12_init 1556 = .ok (.iconst 5, 1) := by decide +kernel
theorem dX12_init_1557 : decode cX12_init 1557 = .ok (.newarray .char, 2) := by decide +kernel
theorem dX12_init_1559 : decode cX12_init 1559 = .ok (.dup, 1) := by decide +kernel
theorem dX12_init_1560 : decode cX12_init 1560 = .ok (.iconst 0, 1) := by decide +kernel
theorem dX12_init_1561 : decode cX12_init 1561 = .ok (.bipush 102, 2) := by decide +kernel
theorem dX12_init_1563 : decode cX12_init 1563 = .ok (.castore, 1) := by decide +kernel
theorem dX12_init_1564 : decode cX12_init 1564 = .ok (.dup, 1) := by decide +kernel
theorem dX12_init_1565 : decode cX12_init 1565 = .ok (.iconst 1, 1) := by decide +kernel
theorem dX12_init_1566 : decode cX12_init 1566 = .ok (.bipush 114, 2) := by decide +kernel
theorem dX12_init_1568 : decode cX12_init 1568 = .ok (.castore, 1) := by decide +kernel
theorem dX12_init_1569 : decode cX12_init 1569 = .ok (.dup, 1) := by decide +kernel
theorem dX12_init_1570 : decode cX12_init 1570 = .ok (.iconst 2, 1) := by decide +kernel
theorem dX12_init_1571 : decode cX12_init 1571 = .ok (.bipush 101, 2) := by decide +kernel
theorem dX12_init_1573 : decode cX12_init 1573 = .ok (.castore, 1) := by decide +kernel
theorem dX12_init_1574 : decode cX12_init 1574 = .ok (.dup, 1) := by decide +kernel
theorem dX12_init_1575 : decode cX12_init 1575 = .ok (.iconst 3, 1) := by decide +kernel
theorem dX12_init_1576 : decode cX12_init 1576 = .ok (.bipush 115, 2) := by decide +kernel
theorem dX12_init_1578 : decode cX12_init 1578 = .ok (.castore, 1) := by decide +kernel
theorem dX12_init_1579 : decode cX12_init 1579 = .ok (.dup, 1) := by decide +kernel
theorem dX12_init_1580 : decode cX12_init 1580 = .ok (.iconst 4, 1) := by decide +kernel
theorem dX12_init_1581 : decode cX12_init 1581 = .ok (.bipush 104, 2) := by decide +kernel
theorem dX12_init_1583 : decode cX12_init 1583 = .ok (.castore, 1) := by decide +kernel
theorem dX12_init_1584 : decode cX12_init 1584 = .ok (.putfield 231, 3) := by decide +kernel
theorem dX12_init_1587 : decode cX12_init 1587 = .ok (.aload_n 0, 1) := by decide +kernel
theorem dX12_init_1588 : decode cX12_init 1588 = .ok (.iconst 5, 1) := by decide +kernel
theorem dX12_init_1589 : decode cX12_init 1589 = .ok (.newarray .char, 2) := by decide +kernel
theorem dX12_init_1591 : decode cX12_init 1591 = .ok (.dup, 1) := by decide +kernel
theorem dX12_init_1592 : decode cX12_init 1592 = .ok (.iconst 0, 1) := by decide +kernel
theorem dX12_init_1593 : decode cX12_init 1593 = .ok (.bipush 115, 2) := by decide +kernel
theorem dX12_init_1595 : decode cX12_init 1595 = .ok (.castore, 1) := by decide +kernel
theorem dX12_init_1596 : decode cX12_init 1596 = .ok (.dup, 1) := by decide +kernel
theorem dX12_init_1597 : decode cX12_init 1597 = .ok (.iconst 1, 1) := by decide +kernel
theorem dX12_init_1598 : decode cX12_init 1598 = .ok (.bipush 97, 2) := by decide +kernel
theorem dX12_init_1600 : decode cX12_init 1600 = .ok (.castore, 1) := by decide +kernel
theorem dX12_init_1601 : decode cX12_init 1601 = .ok (.dup, 1) := by decide +kernel
theorem dX12_init_1602 : decode cX12_init 1602 = .ok (.iconst 2, 1) := by decide +kernel
theorem dX12_init_1603 : decode cX12_init 1603 = .ok (.bipush 118, 2) := by decide +kernel
theorem dX12_init_1605 : decode cX12_init 1605 = .ok (.castore, 1) := by decide +kernel
theorem dX12_init_1606 : decode cX12_init 1606 = .ok (.dup, 1) := by decide +kernel
theorem dX12_init_1607 : decode cX12_init 1607 = .ok (.iconst 3, 1) := by decide +kernel
theorem dX12_init_1608 : decode cX12_init 1608 = .ok (.bipush 101, 2) := by decide +kernel
theorem dX12_init_1610 : decode cX12_init 1610 = .ok (.castore, 1) := by decide +kernel
theorem dX12_init_1611 : decode cX12_init 1611 = .ok (.dup, 1) := by decide +kernel
theorem dX12_init_1612 : decode cX12_init 1612 = .ok (.iconst 4, 1) := by decide +kernel
theorem dX12_init_1613 : decode cX12_init 1613 = .ok (.bipush 100, 2) := by decide +kernel
theorem dX12_init_1615 : decode cX12_init 1615 = .ok (.castore, 1) := by decide +kernel
theorem dX12_init_1616 : decode cX12_init 1616 = .ok (.putfield 234, 3) := by decide +kernel
theorem dX12_init_1619 : decode cX12_init 1619 = .ok (.aload_n 0, 1) := by decide +kernel
theorem dX12_init_1620 : decode cX12_init 1620 = .ok (.iconst 4, 1) := by decide +kernel
theorem dX12_init_1621 : decode cX12_init 1621 = .ok (.newarray .char, 2) := by decide +kernel
theorem dX12_init_1623 : decode cX12_init 1623 = .ok (.dup, 1) := by decide +kernel
theorem dX12_init_1624 : decode cX12_init 1624 = .ok (.iconst 0, 1) := by decide +kernel
theorem dX12_init_1625 : decode cX12_init 1625 = .ok (.bipush 114, 2) := by decide +kernel
theorem dX12_init_1627 : decode cX12_init 1627 = .ok (.castore, 1) := by decide +kernel
theorem dX12_init_1628 : decode cX12_init 1628 = .ok (.dup, 1) := by decide +kernel
theorem dX12_init_1629 : decode cX12_init 1629 = .ok (.iconst 1, 1) := by decide +kernel
theorem dX12_init_1630 : decode cX12_init 1630 = .ok (.bipush 101, 2) := by decide +kernel
theorem dX12_init_1632 : decode cX12_init 1632 = .ok (.castore, 1) := by decide +kernel
theorem dX12_init_1633 : decode cX12_init 1633 = .ok (.dup, 1) := by decide +kernel
theorem dX12_init_1634 : decode cX12_init 1634 = .ok (.iconst 2, 1) := by decide +kernel
theorem dX12_init_1635 : decode cX12_init 1635 = .ok (.bipush 102, 2) := by decide +kernel
theorem dX12_init_1637 : decode cX12_init 1637 = .ok (.castore, 1) := by decide +kernel
theorem dX12_init_1638 : decode cX12_init 1638 = .ok (.dup, 1) := by decide +kernel
theorem dX12_init_1639 : decode cX12_init 1639 = .ok (.iconst 3, 1) := by decide +kernel
theorem dX12_init_1640 : decode cX12_init 1640 = .ok (.bipush 115, 2) := by decide +kernel
theorem dX12_init_1642 : decode cX12_init 1642 = .ok (.castore, 1) := by decide +kernel
theorem dX12_init_1643 : decode cX12_init 1643 = .ok (.putfield 237, 3) := by decide +kernel
theorem dX12_init_1646 : decode cX12_init 1646 = .ok (.aload_n 0, 1) := by decide +kernel
theorem dX12_init_1647 : decode cX12_init 1647 = .ok (.iconst 3, 1) := by decide +kernel
theorem dX12_init_1648 : decode cX12_init 1648 = .ok (.newarray .char, 2) := by decide +kernel
theorem dX12_init_1650 : decode cX12_init 1650 = .ok (.dup, 1) := by decide +kernel
theorem dX12_init_1651 : decode cX12_init 1651 = .ok (.iconst 0, 1) := by decide +kernel
theorem dX12_init_1652 : decode cX12_init 1652 = .ok (.bipush 107, 2) := by decide +kernel
theorem dX12_init_1654 : decode cX12_init 1654 = .ok (.castore, 1) := by decide +kernel
theorem dX12_init_1655 : decode cX12_init 1655 = .ok (.dup, 1) := by decide +kernel
theorem dX12_init_1656 : decode cX12_init 1656 = .ok (.iconst 1, 1) := by decide +kernel
theorem dX12_init_1657 : decode cX12_init 1657 = .ok (.bipush 101, 2) := by decide +kernel
theorem dX12_init_1659 : decode cX12_init 1659 = .ok (.castore, 1) := by decide +kernel
theorem dX12_init_1660 : decode cX12_init 1660 = .ok (.dup, 1) := by decide +kernel
theorem dX12_init_1661 : decode cX12_init 1661 = .ok (.iconst 2, 1) := by decide +kernel
theorem dX12_init_1662 : decode cX12_init 1662 = .ok (.bipush 121, 2) := by decide +kernel
theorem dX12_init_1664 : decode cX12_init 1664 = .ok (.castore, 1) := by decide +kernel
theorem dX12_init_1665 : decode cX12_init 1665 = .ok (.putfield 240, 3) := by decide +kernel
theorem dX12_init_1668 : decode cX12_init 1668 = .ok (.aload_n 0, 1) := by decide +kernel
theorem dX12_init_1669 : decode cX12_init 1669 = .ok (.sipush 1700, 3) := by decide +kernel
theorem dX12_init_1672 : decode cX12_init 1672 = .ok (.newarray .int, 2) := by decide +kernel
theorem dX12_init_1674 : decode cX12_init 1674 = .ok (.putfield 243, 3) := by decide +kernel
theorem dX12_init_1677 : decode cX12_init 1677 = .ok (.aload_n 0, 1) := by decide +kernel
theorem dX12_init_1678 : decode cX12_init 1678 = .ok (.sipush 1700, 3) := by decide +kernel
theorem dX12_init_1681 : decode cX12_init 1681 = .ok (.newarray .int, 2) := by decide +kernel
theorem dX12_init_1683 : decode cX12_init 1683 = .ok (.putfield 246, 3) := by decide +kernel
theorem dX12_init_1686 : decode cX12_init 1686 = .ok (.aload_n 0, 1) := by decide +kernel
theorem dX12_init_1687 : decode cX12_init 1687 = .ok (.sipush 1700, 3) := by decide +kernel
theorem dX12_init_1690 : decode cX12_init 1690 = .ok (.newarray .long, 2) := by decide +kernel
theorem dX12_init_1692 : decode cX12_init 1692 = .ok (.putfield 249, 3) := by decide +kernel
theorem dX12_init_1695 : decode cX12_init 1695 = .ok (.aload_n 0, 1) := by decide +kernel
theorem dX12_init_1696 : decode cX12_init 1696 = .ok (.sipush 1364, 3) := by decide +kernel
theorem dX12_init_1699 : decode cX12_init 1699 = .ok (.newarray .int, 2) := by decide +kernel
theorem dX12_init_1701 : decode cX12_init 1701 = .ok (.putfield 252, 3) := by decide +kernel
theorem dX12_init_1704 : decode cX12_init 1704 = .ok (.aload_n 0, 1) := by decide +kernel
theorem dX12_init_1705 : decode cX12_init 1705 = .ok (.sipush 785, 3) := by decide +kernel
theorem dX12_init_1708 : decode cX12_init 1708 = .ok (.newarray .int, 2) := by decide +kernel
theorem dX12_init_1710 : decode cX12_init 1710 = .ok (.putfield 255, 3) := by decide +kernel
theorem dX12_init_1713 : decode cX12_init 1713 = .ok (.aload_n 0, 1) := by decide +kernel
theorem dX12_init_1714 : decode cX12_init 1714 = .ok (.bipush 48, 2) := by decide +kernel
theorem dX12_init_1716 : decode cX12_init 1716 = .ok (.newarray .int, 2) := by decide +kernel
theorem dX12_init_1718 : decode cX12_init 1718 = .ok (.putfield 258, 3) := by decide +kernel
theorem dX12_init_1721 : decode cX12_init 1721 = .ok (.return_, 1) := by decide +kernel
set_option maxHeartbeats 4000000 in
set_option maxRecDepth 100000 in
theorem k_X11_init (l : Launch) (D : va_G) (sz : Nat) (b0 qS vS : Nat) (fS : Nat → Int32) (h0 : Nat) (hB : ∀ q, va_A [(h0, .inr (11, [.null, .null, .null, .null, .null, .null, .null, .null, .null, .null, .null, .null, .int 0]))] sz q → b0 ≤ q) : Met l yX11_init (wz yX11_init cX11_init 1 none) { frames := 4, cells := 82, slots := 11261, locals := 240 } (va_Pc [.ref h0] (fun U => zW D sz [(h0, .inr (11, [.null, .null, .null, .null, .null, .null, .null, .null, .null, .null, .null, .null, .int 0]))] U ∧ EE b0 qS vS fS U)) (va_Qv (fun (u : ((Nat → Nat) × (Nat → Int32) × (Nat → Int32))) => u.1 0 = h0) (fun u t => zB D (va_A [(h0, .inr (11, [.null, .null, .null, .null, .null, .null, .null, .null, .null, .null, .null, .null, .int 0]))] sz) ((fun (u : ((Nat → Nat) × (Nat → Int32) × (Nat → Int32))) => [((u.1 0), .inr (11, [.ref (u.1 1), .ref (u.1 2), .ref (u.1 3), .ref (u.1 4), .ref (u.1 5), .ref (u.1 6), .ref (u.1 7), .ref (u.1 8), .ref (u.1 9), .ref (u.1 10), .ref (u.1 11), .ref (u.1 12), .int 0])), ((u.1 1), .inr (9, [.ref (u.1 20), .int 0])), ((u.1 20), .inl (D.1 13, 1600, .inl (fun _ => 0))), ((u.1 2), .inr (6, [.int 0, .int (-1), .ref (u.1 1), .ref (u.1 21), .null, .int 0, .int 0, .int 0, .int 0, .int 0, .int 0, .int 0])), ((u.1 3), .inr (2, [.ref (u.1 22), .ref (u.1 23), .ref (u.1 24), .int 0, .ref (u.1 25), .int 0])), ((u.1 4), .inr (7, [.int 0, .ref (u.1 26), .ref (u.1 27), .ref (u.1 28), .int 0, .ref (u.1 29)])), ((u.1 5), .inr (4, [.ref (u.1 30), .int 0, .int 0, .ref (u.1 31), .ref (u.1 32), .ref (u.1 33)])), ((u.1 30), .inl (D.1 13, 1364, .inl (fun _ => 0))), ((u.1 8), .inl (D.1 15, 8, .inr (.inl (fun _ => 0)))), ((u.1 9), .inl (D.1 13, 6, .inl (fun _ => 0))), ((u.1 11), .inr (5, [.int 0, .int 0, .int 0, .int 0, .int 0, .int 0, .ref (u.1 50), .ref (u.1 51), .ref (u.1 52), .ref (u.1 53), .ref (u.1 54), .ref (u.1 55), .ref (u.1 56), .ref (u.1 57)])), ((u.1 55), .inr (0, [.ref (u.1 58), .int 0])), ((u.1 56), .inl (D.1 13, 3, .inl u.2.1)), ((u.1 57), .inl (D.1 13, 3, .inl u.2.2)), ((u.1 12), .inr (1, [.ref (u.1 13), .ref (u.1 14), .ref (u.1 15), .int 1, .ref (u.1 10), .ref (u.1 16), .ref (u.1 17), .ref (u.1 18), .ref (u.1 19)])), ((u.1 13), .inr (8, [.int 0, .int 0, .long 0, .ref (u.1 60), .ref (u.1 61), .ref (u.1 62), .ref (u.1 63), .ref (u.1 64), .ref (u.1 65), .ref (u.1 66), .ref (u.1 67)])), ((u.1 66), .inl (D.1 13, 8, .inl (fun _ => (-2)))), ((u.1 67), .inl (D.1 13, 8, .inl (fun _ => (-2))))]) u) t) (va_A [(h0, .inr (11, [.null, .null, .null, .null, .null, .null, .null, .null, .null, .null, .null, .null, .int 0]))] sz)) 82 11261 (va_A [(h0, .inr (11, [.null, .null, .null, .null, .null, .null, .null, .null, .null, .null, .null, .null, .int 0]))] sz) := by
  refine Met.ofW (cc := cX11_init) (maxL := 1) (ret := none) (by decide) rfl ?_
  intro p e s m args below meth c s₁ B hml hv
  obtain ⟨rfl, ⟨hsz, hP, hK, hD0⟩, hE⟩ := hv
  have hx := B.exec
  have hb := B.bytes
  have hr := B.returns
  have hts := atoms_spec (ws := wz yX11_init cX11_init 1 none) B.pre
  have ht : ∀ w ∈ lw_gd, w.before _ s = true := fun w h => hts w (List.mem_cons_of_mem _ h)
  have hown : s.vm.findClass RX11 = some m.cls := findClass_of_methodNamed B.named
  have hlocks := B.notSynchronized
  have hin : meth.name = "<init>" := (name_of_methodNamed B.named B.method).1
  subst hsz
  have hD := hD0.self (sz := s.heap.size)
  have hAb := hB
  generalize hAe : va_A [(h0, .inr (11, [.null, .null, .null, .null, .null, .null, .null, .null, .null, .null, .null, .null, .int 0]))] s.heap.size = A at hAb hD ⊢
  have hA : ∀ q : Nat, s.heap.size ≤ q → A q := fun q h => by rw [← hAe]; exact Or.inr h
  have hS : va_S A s.heap s.heap [] := va_S.rf
  have hl := lv_entry ([.ref h0]) (n := 1) (Nat.le_of_ble_eq_true rfl)
  rw [lg_entry_eq]
  generalize (lg_sl ([.ref h0]) ++ List.replicate (1 - (lg_sl ([.ref h0])).length) Slot.unset).toArray = ls at hl ⊢
  have hl : lv_has ls 1 [(0, .ref h0)] := hl
  refine lv_aload_n hx hb dX11_init_0 rfl (lv_at hl 0 rfl) ?_
  refine W.objInit hx hb hown (ht _ ml_X11_3) (ht _ im_obj) (ht _ co_obj) rfl (by rw [hml]; exact hl.1) rfl dX11_init_1 (Nat.le_of_ble_eq_true rfl) (Nat.le_of_ble_eq_true rfl) ?_
  refine W.eq (g2 := F0 m 4 ls []) rfl ?_
  refine lv_aload_n hx hb dX11_init_4 rfl (lv_at hl 0 rfl) ?_
  refine va_new (ci := 9) (fs := [.null, .int 0]) (C := RX9) (T := TX9) (N := 2) hx hb ht inX9 tyX9 tyX9_ok hown (ht _ cx_X11_9) (ht _ ia_X9) (ht _ in_X9) hK hP hD hS hA rfl (by decide +kernel) (Nat.le_of_ble_eq_true rfl) (Nat.le_of_ble_eq_true rfl) dX11_init_5 (fun q_1 H hP hD hS => ?_)
  refine W.widen (k := 1) (n := 2) (Nat.le_of_ble_eq_true rfl) (Nat.le_of_ble_eq_true rfl) ?_
  have hP : va_P D vwCl [(h0, .inr (11, [.null, .null, .null, .null, .null, .null, .null, .null, .null, .null, .null, .null, .int 0])), (q_1, .inr (9, [.null, .int 0]))] H := hP
  have hD : va_D A [(h0, .inr (11, [.null, .null, .null, .null, .null, .null, .null, .null, .null, .null, .null, .null, .int 0])), (q_1, .inr (9, [.null, .int 0]))] := hD
  refine lv_dup hx hb dX11_init_8 rfl ?_
  refine zwIN (As := []) (rest := [.ref q_1, .ref h0]) (n := 0) (wr := [(h0, .inr (11, [.null, .null, .null, .null, .null, .null, .null, .null, .null, .null, .null, .null, .int 0]))]) ⟨hx, hb, hml, hown, ht⟩ (k_X9_init l D _ q_1) co_X9_init rfl rfl in_X9 hE.1.1 im_X9_init rfl (by decide +kernel) ⟨Nat.le_of_ble_eq_true rfl, Nat.le_of_ble_eq_true rfl⟩ hK hP hD hS hA [1] [0] rfl rfl rfl rfl (by decide) rfl hl.1 rfl (Nat.le_of_ble_eq_true rfl) dX11_init_9 ⟨Nat.le_of_ble_eq_true rfl, Nat.le_of_ble_eq_true rfl⟩ (fun u_2 H locs hw hP hD hS => ?_)
  refine W.widen (k := 2) (n := 1602) (Nat.le_of_ble_eq_true rfl) (Nat.le_of_ble_eq_true rfl) ?_
  have hP : va_P D vwCl [(h0, .inr (11, [.null, .null, .null, .null, .null, .null, .null, .null, .null, .null, .null, .null, .int 0])), (q_1, .inr (9, [.ref u_2, .int 0])), (u_2, .inl (D.1 13, 1600, .inl (fun _ => 0)))] H := hP
  have hD : va_D A [(h0, .inr (11, [.null, .null, .null, .null, .null, .null, .null, .null, .null, .null, .null, .null, .int 0])), (q_1, .inr (9, [.ref u_2, .int 0])), (u_2, .inl (D.1 13, 1600, .inl (fun _ => 0)))] := hD
  refine va_putF (D := D) (ci := 11) (v := .ref q_1) (ty := .object "CloneVolumes$Tape") (C := RX11) (T := TX11) (N := 13) hx hb ht inX11 tyX11 tyX11_ok nmX11 hown hK hP hD hS 0 rfl rfl 0 (by decide) (ht (.fieldLink RX11 12 "CloneVolumes" "tape" "LCloneVolumes$Tape;") fl_X11_12) (fun _ h9 => h9) rfl hin rfl (by decide +kernel) rfl rfl (Nat.le_of_ble_eq_true rfl) dX11_init_12 (fun H locs hP hD hS => ?_)
  have hP : va_P D vwCl [(h0, .inr (11, [.ref q_1, .null, .null, .null, .null, .null, .null, .null, .null, .null, .null, .null, .int 0])), (q_1, .inr (9, [.ref u_2, .int 0])), (u_2, .inl (D.1 13, 1600, .inl (fun _ => 0)))] H := hP
  have hD : va_D A [(h0, .inr (11, [.ref q_1, .null, .null, .null, .null, .null, .null, .null, .null, .null, .null, .null, .int 0])), (q_1, .inr (9, [.ref u_2, .int 0])), (u_2, .inl (D.1 13, 1600, .inl (fun _ => 0)))] := hD
  refine lv_aload_n hx hb dX11_init_15 rfl (lv_at hl 0 rfl) ?_
  refine va_new (ci := 6) (fs := [.int 0, .int 0, .null, .null, .null, .int 0, .int 0, .int 0, .int 0, .int 0, .int 0, .int 0]) (C := RX6) (T := TX6) (N := 12) hx hb ht inX6 tyX6 tyX6_ok hown (ht _ cx_X11_16) (ht _ ia_X6) (ht _ in_X6) hK hP hD hS hA rfl (by decide +kernel) (Nat.le_of_ble_eq_true rfl) (Nat.le_of_ble_eq_true rfl) dX11_init_16 (fun q_3 H hP hD hS => ?_)
  refine W.widen (k := 3) (n := 1614) (Nat.le_of_ble_eq_true rfl) (Nat.le_of_ble_eq_true rfl) ?_
  have hP : va_P D vwCl [(h0, .inr (11, [.ref q_1, .null, .null, .null, .null, .null, .null, .null, .null, .null, .null, .null, .int 0])), (q_1, .inr (9, [.ref u_2, .int 0])), (u_2, .inl (D.1 13, 1600, .inl (fun _ => 0))), (q_3, .inr (6, [.int 0, .int 0, .null, .null, .null, .int 0, .int 0, .int 0, .int 0, .int 0, .int 0, .int 0]))] H := hP
  have hD : va_D A [(h0, .inr (11, [.ref q_1, .null, .null, .null, .null, .null, .null, .null, .null, .null, .null, .null, .int 0])), (q_1, .inr (9, [.ref u_2, .int 0])), (u_2, .inl (D.1 13, 1600, .inl (fun _ => 0))), (q_3, .inr (6, [.int 0, .int 0, .null, .null, .null, .int 0, .int 0, .int 0, .int 0, .int 0, .int 0, .int 0]))] := hD
  refine lv_dup hx hb dX11_init_19 rfl ?_
  refine lv_aload_n hx hb dX11_init_20 rfl (lv_at hl 0 rfl) ?_
  refine va_get (D := D) (ci := 11) (v := .ref q_1) (C := RX11) (T := TX11) (N := 13) hx hb ht inX11 hown hK hP 0 rfl rfl 0 (by decide) (ht (.fieldLink RX11 12 "CloneVolumes" "tape" "LCloneVolumes$Tape;") fl_X11_12) (fun _ h9 => h9) rfl dX11_init_21 ?_
  refine zwIE (As := [.ref q_1]) (rest := [.ref q_3, .ref h0]) (n := 1) (wr := [(h0, .inr (11, [.ref q_1, .null, .null, .null, .null, .null, .null, .null, .null, .null, .null, .null, .int 0])), (q_1, .inr (9, [.ref u_2, .int 0])), (u_2, .inl (D.1 13, 1600, .inl (fun _ => 0)))]) ⟨hx, hb, hml, hown, ht⟩ (k_X6_init l D _ b0 qS vS fS q_3 q_1) co_X6_init rfl rfl in_X6 ml_X11_18 im_X6_init rfl (by decide +kernel) ⟨Nat.le_of_ble_eq_true rfl, Nat.le_of_ble_eq_true rfl⟩ hK hP hD hS hA hE hAb [3] [0, 1, 2] rfl rfl rfl rfl (by decide) rfl hl.1 rfl (Nat.le_of_ble_eq_true rfl) dX11_init_24 ⟨Nat.le_of_ble_eq_true rfl, Nat.le_of_ble_eq_true rfl⟩ (fun u_4 H locs hw hP hD hS => ?_)
  refine W.widen (k := 4) (n := 1793) (Nat.le_of_ble_eq_true rfl) (Nat.le_of_ble_eq_true rfl) ?_
  have hP : va_P D vwCl [(h0, .inr (11, [.ref q_1, .null, .null, .null, .null, .null, .null, .null, .null, .null, .null, .null, .int 0])), (q_1, .inr (9, [.ref u_2, .int 0])), (u_2, .inl (D.1 13, 1600, .inl (fun _ => 0))), (q_3, .inr (6, [.int 0, .int (-1), .ref q_1, .ref u_4, .null, .int 0, .int 0, .int 0, .int 0, .int 0, .int 0, .int 0]))] H := hP
  have hD : va_D A [(h0, .inr (11, [.ref q_1, .null, .null, .null, .null, .null, .null, .null, .null, .null, .null, .null, .int 0])), (q_1, .inr (9, [.ref u_2, .int 0])), (u_2, .inl (D.1 13, 1600, .inl (fun _ => 0))), (q_3, .inr (6, [.int 0, .int (-1), .ref q_1, .ref u_4, .null, .int 0, .int 0, .int 0, .int 0, .int 0, .int 0, .int 0]))] := hD
  refine va_putF (D := D) (ci := 11) (v := .ref q_3) (ty := .object "CloneVolumes$Reader") (C := RX11) (T := TX11) (N := 13) hx hb ht inX11 tyX11 tyX11_ok nmX11 hown hK hP hD hS 0 rfl rfl 1 (by decide) (ht (.fieldLink RX11 21 "CloneVolumes" "reader" "LCloneVolumes$Reader;") fl_X11_21) (fun _ h9 => h9) rfl hin rfl (by decide +kernel) rfl rfl (Nat.le_of_ble_eq_true rfl) dX11_init_27 (fun H locs hP hD hS => ?_)
  have hP : va_P D vwCl [(h0, .inr (11, [.ref q_1, .ref q_3, .null, .null, .null, .null, .null, .null, .null, .null, .null, .null, .int 0])), (q_1, .inr (9, [.ref u_2, .int 0])), (u_2, .inl (D.1 13, 1600, .inl (fun _ => 0))), (q_3, .inr (6, [.int 0, .int (-1), .ref q_1, .ref u_4, .null, .int 0, .int 0, .int 0, .int 0, .int 0, .int 0, .int 0]))] H := hP
  have hD : va_D A [(h0, .inr (11, [.ref q_1, .ref q_3, .null, .null, .null, .null, .null, .null, .null, .null, .null, .null, .int 0])), (q_1, .inr (9, [.ref u_2, .int 0])), (u_2, .inl (D.1 13, 1600, .inl (fun _ => 0))), (q_3, .inr (6, [.int 0, .int (-1), .ref q_1, .ref u_4, .null, .int 0, .int 0, .int 0, .int 0, .int 0, .int 0, .int 0]))] := hD
  refine lv_aload_n hx hb dX11_init_30 rfl (lv_at hl 0 rfl) ?_
  refine va_new (ci := 2) (fs := [.null, .null, .null, .int 0, .null, .int 0]) (C := RX2) (T := TX2) (N := 6) hx hb ht inX2 tyX2 tyX2_ok hown (ht _ cx_X11_25) (ht _ ia_X2) (ht _ in_X2) hK hP hD hS hA rfl (by decide +kernel) (Nat.le_of_ble_eq_true rfl) (Nat.le_of_ble_eq_true rfl) dX11_init_31 (fun q_5 H hP hD hS => ?_)
  refine W.widen (k := 5) (n := 1799) (Nat.le_of_ble_eq_true rfl) (Nat.le_of_ble_eq_true rfl) ?_
  have hP : va_P D vwCl [(h0, .inr (11, [.ref q_1, .ref q_3, .null, .null, .null, .null, .null, .null, .null, .null, .null, .null, .int 0])), (q_1, .inr (9, [.ref u_2, .int 0])), (u_2, .inl (D.1 13, 1600, .inl (fun _ => 0))), (q_3, .inr (6, [.int 0, .int (-1), .ref q_1, .ref u_4, .null, .int 0, .int 0, .int 0, .int 0, .int 0, .int 0, .int 0])), (q_5, .inr (2, [.null, .null, .null, .int 0, .null, .int 0]))] H := hP
  have hD : va_D A [(h0, .inr (11, [.ref q_1, .ref q_3, .null, .null, .null, .null, .null, .null, .null, .null, .null, .null, .int 0])), (q_1, .inr (9, [.ref u_2, .int 0])), (u_2, .inl (D.1 13, 1600, .inl (fun _ => 0))), (q_3, .inr (6, [.int 0, .int (-1), .ref q_1, .ref u_4, .null, .int 0, .int 0, .int 0, .int 0, .int 0, .int 0, .int 0])), (q_5, .inr (2, [.null, .null, .null, .int 0, .null, .int 0]))] := hD
  refine lv_dup hx hb dX11_init_34 rfl ?_
  refine zwINE (As := []) (rest := [.ref q_5, .ref h0]) (n := 0) (wr := [(h0, .inr (11, [.ref q_1, .ref q_3, .null, .null, .null, .null, .null, .null, .null, .null, .null, .null, .int 0])), (q_1, .inr (9, [.ref u_2, .int 0])), (u_2, .inl (D.1 13, 1600, .inl (fun _ => 0))), (q_3, .inr (6, [.int 0, .int (-1), .ref q_1, .ref u_4, .null, .int 0, .int 0, .int 0, .int 0, .int 0, .int 0, .int 0]))]) ⟨hx, hb, hml, hown, ht⟩ (k_X2_init l D _ b0 qS vS fS q_5) co_X2_init rfl rfl in_X2 hE.1.2.1 im_X2_init rfl (by decide +kernel) ⟨Nat.le_of_ble_eq_true rfl, Nat.le_of_ble_eq_true rfl⟩ hK hP hD hS hA hE hAb [4] [0, 1, 2, 3] rfl rfl rfl rfl (by decide) rfl hl.1 rfl (Nat.le_of_ble_eq_true rfl) dX11_init_35 ⟨Nat.le_of_ble_eq_true rfl, Nat.le_of_ble_eq_true rfl⟩ (fun u_6 H locs hw hP hD hS => ?_)
  refine W.widen (k := 9) (n := 1999) (Nat.le_of_ble_eq_true rfl) (Nat.le_of_ble_eq_true rfl) ?_
  obtain ⟨q_7, q_8, q_9, q_10⟩ := u_6
  have hP : va_P D vwCl [(h0, .inr (11, [.ref q_1, .ref q_3, .null, .null, .null, .null, .null, .null, .null, .null, .null, .null, .int 0])), (q_1, .inr (9, [.ref u_2, .int 0])), (u_2, .inl (D.1 13, 1600, .inl (fun _ => 0))), (q_3, .inr (6, [.int 0, .int (-1), .ref q_1, .ref u_4, .null, .int 0, .int 0, .int 0, .int 0, .int 0, .int 0, .int 0])), (q_5, .inr (2, [.ref q_7, .ref q_8, .ref q_9, .int 0, .ref q_10, .int 0]))] H := hP
  have hD : va_D A [(h0, .inr (11, [.ref q_1, .ref q_3, .null, .null, .null, .null, .null, .null, .null, .null, .null, .null, .int 0])), (q_1, .inr (9, [.ref u_2, .int 0])), (u_2, .inl (D.1 13, 1600, .inl (fun _ => 0))), (q_3, .inr (6, [.int 0, .int (-1), .ref q_1, .ref u_4, .null, .int 0, .int 0, .int 0, .int 0, .int 0, .int 0, .int 0])), (q_5, .inr (2, [.ref q_7, .ref q_8, .ref q_9, .int 0, .ref q_10, .int 0]))] := hD
  refine va_putF (D := D) (ci := 11) (v := .ref q_5) (ty := .object "CloneVolumes$History") (C := RX11) (T := TX11) (N := 13) hx hb ht inX11 tyX11 tyX11_ok nmX11 hown hK hP hD hS 0 rfl rfl 2 (by decide) (ht (.fieldLink RX11 28 "CloneVolumes" "history" "LCloneVolumes$History;") fl_X11_28) (fun _ h9 => h9) rfl hin rfl (by decide +kernel) rfl rfl (Nat.le_of_ble_eq_true rfl) dX11_init_38 (fun H locs hP hD hS => ?_)
  have hP : va_P D vwCl [(h0, .inr (11, [.ref q_1, .ref q_3, .ref q_5, .null, .null, .null, .null, .null, .null, .null, .null, .null, .int 0])), (q_1, .inr (9, [.ref u_2, .int 0])), (u_2, .inl (D.1 13, 1600, .inl (fun _ => 0))), (q_3, .inr (6, [.int 0, .int (-1), .ref q_1, .ref u_4, .null, .int 0, .int 0, .int 0, .int 0, .int 0, .int 0, .int 0])), (q_5, .inr (2, [.ref q_7, .ref q_8, .ref q_9, .int 0, .ref q_10, .int 0]))] H := hP
  have hD : va_D A [(h0, .inr (11, [.ref q_1, .ref q_3, .ref q_5, .null, .null, .null, .null, .null, .null, .null, .null, .null, .int 0])), (q_1, .inr (9, [.ref u_2, .int 0])), (u_2, .inl (D.1 13, 1600, .inl (fun _ => 0))), (q_3, .inr (6, [.int 0, .int (-1), .ref q_1, .ref u_4, .null, .int 0, .int 0, .int 0, .int 0, .int 0, .int 0, .int 0])), (q_5, .inr (2, [.ref q_7, .ref q_8, .ref q_9, .int 0, .ref q_10, .int 0]))] := hD
  refine lv_aload_n hx hb dX11_init_41 rfl (lv_at hl 0 rfl) ?_
  refine va_new (ci := 7) (fs := [.int 0, .null, .null, .null, .int 0, .null]) (C := RX7) (T := TX7) (N := 6) hx hb ht inX7 tyX7 tyX7_ok hown (ht _ cx_X11_32) (ht _ ia_X7) (ht _ in_X7) hK hP hD hS hA rfl (by decide +kernel) (Nat.le_of_ble_eq_true rfl) (Nat.le_of_ble_eq_true rfl) dX11_init_42 (fun q_11 H hP hD hS => ?_)
  refine W.widen (k := 10) (n := 2005) (Nat.le_of_ble_eq_true rfl) (Nat.le_of_ble_eq_true rfl) ?_
  have hP : va_P D vwCl [(h0, .inr (11, [.ref q_1, .ref q_3, .ref q_5, .null, .null, .null, .null, .null, .null, .null, .null, .null, .int 0])), (q_1, .inr (9, [.ref u_2, .int 0])), (u_2, .inl (D.1 13, 1600, .inl (fun _ => 0))), (q_3, .inr (6, [.int 0, .int (-1), .ref q_1, .ref u_4, .null, .int 0, .int 0, .int 0, .int 0, .int 0, .int 0, .int 0])), (q_5, .inr (2, [.ref q_7, .ref q_8, .ref q_9, .int 0, .ref q_10, .int 0])), (q_11, .inr (7, [.int 0, .null, .null, .null, .int 0, .null]))] H := hP
  have hD : va_D A [(h0, .inr (11, [.ref q_1, .ref q_3, .ref q_5, .null, .null, .null, .null, .null, .null, .null, .null, .null, .int 0])), (q_1, .inr (9, [.ref u_2, .int 0])), (u_2, .inl (D.1 13, 1600, .inl (fun _ => 0))), (q_3, .inr (6, [.int 0, .int (-1), .ref q_1, .ref u_4, .null, .int 0, .int 0, .int 0, .int 0, .int 0, .int 0, .int 0])), (q_5, .inr (2, [.ref q_7, .ref q_8, .ref q_9, .int 0, .ref q_10, .int 0])), (q_11, .inr (7, [.int 0, .null, .null, .null, .int 0, .null]))] := hD
  refine lv_dup hx hb dX11_init_45 rfl ?_
  refine zwIN (As := []) (rest := [.ref q_11, .ref h0]) (n := 0) (wr := [(h0, .inr (11, [.ref q_1, .ref q_3, .ref q_5, .null, .null, .null, .null, .null, .null, .null, .null, .null, .int 0])), (q_1, .inr (9, [.ref u_2, .int 0])), (u_2, .inl (D.1 13, 1600, .inl (fun _ => 0))), (q_3, .inr (6, [.int 0, .int (-1), .ref q_1, .ref u_4, .null, .int 0, .int 0, .int 0, .int 0, .int 0, .int 0, .int 0])), (q_5, .inr (2, [.ref q_7, .ref q_8, .ref q_9, .int 0, .ref q_10, .int 0]))]) ⟨hx, hb, hml, hown, ht⟩ (k_X7_init l D _ q_11) co_X7_init rfl rfl in_X7 hE.1.2.2.1 im_X7_init rfl (by decide +kernel) ⟨Nat.le_of_ble_eq_true rfl, Nat.le_of_ble_eq_true rfl⟩ hK hP hD hS hA [5] [0, 1, 2, 3, 4] rfl rfl rfl rfl (by decide) rfl hl.1 rfl (Nat.le_of_ble_eq_true rfl) dX11_init_46 ⟨Nat.le_of_ble_eq_true rfl, Nat.le_of_ble_eq_true rfl⟩ (fun u_12 H locs hw hP hD hS => ?_)
  refine W.widen (k := 14) (n := 2045) (Nat.le_of_ble_eq_true rfl) (Nat.le_of_ble_eq_true rfl) ?_
  obtain ⟨q_13, q_14, q_15, q_16⟩ := u_12
  have hP : va_P D vwCl [(h0, .inr (11, [.ref q_1, .ref q_3, .ref q_5, .null, .null, .null, .null, .null, .null, .null, .null, .null, .int 0])), (q_1, .inr (9, [.ref u_2, .int 0])), (u_2, .inl (D.1 13, 1600, .inl (fun _ => 0))), (q_3, .inr (6, [.int 0, .int (-1), .ref q_1, .ref u_4, .null, .int 0, .int 0, .int 0, .int 0, .int 0, .int 0, .int 0])), (q_5, .inr (2, [.ref q_7, .ref q_8, .ref q_9, .int 0, .ref q_10, .int 0])), (q_11, .inr (7, [.int 0, .ref q_13, .ref q_14, .ref q_15, .int 0, .ref q_16]))] H := hP
  have hD : va_D A [(h0, .inr (11, [.ref q_1, .ref q_3, .ref q_5, .null, .null, .null, .null, .null, .null, .null, .null, .null, .int 0])), (q_1, .inr (9, [.ref u_2, .int 0])), (u_2, .inl (D.1 13, 1600, .inl (fun _ => 0))), (q_3, .inr (6, [.int 0, .int (-1), .ref q_1, .ref u_4, .null, .int 0, .int 0, .int 0, .int 0, .int 0, .int 0, .int 0])), (q_5, .inr (2, [.ref q_7, .ref q_8, .ref q_9, .int 0, .ref q_10, .int 0])), (q_11, .inr (7, [.int 0, .ref q_13, .ref q_14, .ref q_15, .int 0, .ref q_16]))] := hD
  refine va_putF (D := D) (ci := 11) (v := .ref q_11) (ty := .object "CloneVolumes$Sight") (C := RX11) (T := TX11) (N := 13) hx hb ht inX11 tyX11 tyX11_ok nmX11 hown hK hP hD hS 0 rfl rfl 3 (by decide) (ht (.fieldLink RX11 35 "CloneVolumes" "sight" "LCloneVolumes$Sight;") fl_X11_35) (fun _ h9 => h9) rfl hin rfl (by decide +kernel) rfl rfl (Nat.le_of_ble_eq_true rfl) dX11_init_49 (fun H locs hP hD hS => ?_)
  have hP : va_P D vwCl [(h0, .inr (11, [.ref q_1, .ref q_3, .ref q_5, .ref q_11, .null, .null, .null, .null, .null, .null, .null, .null, .int 0])), (q_1, .inr (9, [.ref u_2, .int 0])), (u_2, .inl (D.1 13, 1600, .inl (fun _ => 0))), (q_3, .inr (6, [.int 0, .int (-1), .ref q_1, .ref u_4, .null, .int 0, .int 0, .int 0, .int 0, .int 0, .int 0, .int 0])), (q_5, .inr (2, [.ref q_7, .ref q_8, .ref q_9, .int 0, .ref q_10, .int 0])), (q_11, .inr (7, [.int 0, .ref q_13, .ref q_14, .ref q_15, .int 0, .ref q_16]))] H := hP
  have hD : va_D A [(h0, .inr (11, [.ref q_1, .ref q_3, .ref q_5, .ref q_11, .null, .null, .null, .null, .null, .null, .null, .null, .int 0])), (q_1, .inr (9, [.ref u_2, .int 0])), (u_2, .inl (D.1 13, 1600, .inl (fun _ => 0))), (q_3, .inr (6, [.int 0, .int (-1), .ref q_1, .ref u_4, .null, .int 0, .int 0, .int 0, .int 0, .int 0, .int 0, .int 0])), (q_5, .inr (2, [.ref q_7, .ref q_8, .ref q_9, .int 0, .ref q_10, .int 0])), (q_11, .inr (7, [.int 0, .ref q_13, .ref q_14, .ref q_15, .int 0, .ref q_16]))] := hD
  refine lv_aload_n hx hb dX11_init_52 rfl (lv_at hl 0 rfl) ?_
  refine va_new (ci := 4) (fs := [.null, .int 0, .int 0, .null, .null, .null]) (C := RX4) (T := TX4) (N := 6) hx hb ht inX4 tyX4 tyX4_ok hown (ht _ cx_X11_39) (ht _ ia_X4) (ht _ in_X4) hK hP hD hS hA rfl (by decide +kernel) (Nat.le_of_ble_eq_true rfl) (Nat.le_of_ble_eq_true rfl) dX11_init_53 (fun q_17 H hP hD hS => ?_)
  refine W.widen (k := 15) (n := 2051) (Nat.le_of_ble_eq_true rfl) (Nat.le_of_ble_eq_true rfl) ?_
  have hP : va_P D vwCl [(h0, .inr (11, [.ref q_1, .ref q_3, .ref q_5, .ref q_11, .null, .null, .null, .null, .null, .null, .null, .null, .int 0])), (q_1, .inr (9, [.ref u_2, .int 0])), (u_2, .inl (D.1 13, 1600, .inl (fun _ => 0))), (q_3, .inr (6, [.int 0, .int (-1), .ref q_1, .ref u_4, .null, .int 0, .int 0, .int 0, .int 0, .int 0, .int 0, .int 0])), (q_5, .inr (2, [.ref q_7, .ref q_8, .ref q_9, .int 0, .ref q_10, .int 0])), (q_11, .inr (7, [.int 0, .ref q_13, .ref q_14, .ref q_15, .int 0, .ref q_16])), (q_17, .inr (4, [.null, .int 0, .int 0, .null, .null, .null]))] H := hP
  have hD : va_D A [(h0, .inr (11, [.ref q_1, .ref q_3, .ref q_5, .ref q_11, .null, .null, .null, .null, .null, .null, .null, .null, .int 0])), (q_1, .inr (9, [.ref u_2, .int 0])), (u_2, .inl (D.1 13, 1600, .inl (fun _ => 0))), (q_3, .inr (6, [.int 0, .int (-1), .ref q_1, .ref u_4, .null, .int 0, .int 0, .int 0, .int 0, .int 0, .int 0, .int 0])), (q_5, .inr (2, [.ref q_7, .ref q_8, .ref q_9, .int 0, .ref q_10, .int 0])), (q_11, .inr (7, [.int 0, .ref q_13, .ref q_14, .ref q_15, .int 0, .ref q_16])), (q_17, .inr (4, [.null, .int 0, .int 0, .null, .null, .null]))] := hD
  refine lv_dup hx hb dX11_init_56 rfl ?_
  refine zwIN (As := []) (rest := [.ref q_17, .ref h0]) (n := 0) (wr := [(h0, .inr (11, [.ref q_1, .ref q_3, .ref q_5, .ref q_11, .null, .null, .null, .null, .null, .null, .null, .null, .int 0])), (q_1, .inr (9, [.ref u_2, .int 0])), (u_2, .inl (D.1 13, 1600, .inl (fun _ => 0))), (q_3, .inr (6, [.int 0, .int (-1), .ref q_1, .ref u_4, .null, .int 0, .int 0, .int 0, .int 0, .int 0, .int 0, .int 0])), (q_5, .inr (2, [.ref q_7, .ref q_8, .ref q_9, .int 0, .ref q_10, .int 0])), (q_11, .inr (7, [.int 0, .ref q_13, .ref q_14, .ref q_15, .int 0, .ref q_16]))]) ⟨hx, hb, hml, hown, ht⟩ (k_X4_init l D _ q_17) co_X4_init rfl rfl in_X4 hE.1.2.2.2.1 im_X4_init rfl (by decide +kernel) ⟨Nat.le_of_ble_eq_true rfl, Nat.le_of_ble_eq_true rfl⟩ hK hP hD hS hA [6] [0, 1, 2, 3, 4, 5] rfl rfl rfl rfl (by decide) rfl hl.1 rfl (Nat.le_of_ble_eq_true rfl) dX11_init_57 ⟨Nat.le_of_ble_eq_true rfl, Nat.le_of_ble_eq_true rfl⟩ (fun u_18 H locs hw hP hD hS => ?_)
  refine W.widen (k := 19) (n := 3559) (Nat.le_of_ble_eq_true rfl) (Nat.le_of_ble_eq_true rfl) ?_
  obtain ⟨q_19, q_20, q_21, q_22⟩ := u_18
  have hP : va_P D vwCl [(h0, .inr (11, [.ref q_1, .ref q_3, .ref q_5, .ref q_11, .null, .null, .null, .null, .null, .null, .null, .null, .int 0])), (q_1, .inr (9, [.ref u_2, .int 0])), (u_2, .inl (D.1 13, 1600, .inl (fun _ => 0))), (q_3, .inr (6, [.int 0, .int (-1), .ref q_1, .ref u_4, .null, .int 0, .int 0, .int 0, .int 0, .int 0, .int 0, .int 0])), (q_5, .inr (2, [.ref q_7, .ref q_8, .ref q_9, .int 0, .ref q_10, .int 0])), (q_11, .inr (7, [.int 0, .ref q_13, .ref q_14, .ref q_15, .int 0, .ref q_16])), (q_17, .inr (4, [.ref q_19, .int 0, .int 0, .ref q_20, .ref q_21, .ref q_22])), (q_19, .inl (D.1 13, 1364, .inl (fun _ => 0)))] H := hP
  have hD : va_D A [(h0, .inr (11, [.ref q_1, .ref q_3, .ref q_5, .ref q_11, .null, .null, .null, .null, .null, .null, .null, .null, .int 0])), (q_1, .inr (9, [.ref u_2, .int 0])), (u_2, .inl (D.1 13, 1600, .inl (fun _ => 0))), (q_3, .inr (6, [.int 0, .int (-1), .ref q_1, .ref u_4, .null, .int 0, .int 0, .int 0, .int 0, .int 0, .int 0, .int 0])), (q_5, .inr (2, [.ref q_7, .ref q_8, .ref q_9, .int 0, .ref q_10, .int 0])), (q_11, .inr (7, [.int 0, .ref q_13, .ref q_14, .ref q_15, .int 0, .ref q_16])), (q_17, .inr (4, [.ref q_19, .int 0, .int 0, .ref q_20, .ref q_21, .ref q_22])), (q_19, .inl (D.1 13, 1364, .inl (fun _ => 0)))] := hD
  refine va_putF (D := D) (ci := 11) (v := .ref q_17) (ty := .object "CloneVolumes$Picture") (C := RX11) (T := TX11) (N := 13) hx hb ht inX11 tyX11 tyX11_ok nmX11 hown hK hP hD hS 0 rfl rfl 4 (by decide) (ht (.fieldLink RX11 42 "CloneVolumes" "picture" "LCloneVolumes$Picture;") fl_X11_42) (fun _ h9 => h9) rfl hin rfl (by decide +kernel) rfl rfl (Nat.le_of_ble_eq_true rfl) dX11_init_60 (fun H locs hP hD hS => ?_)
  have hP : va_P D vwCl [(h0, .inr (11, [.ref q_1, .ref q_3, .ref q_5, .ref q_11, .ref q_17, .null, .null, .null, .null, .null, .null, .null, .int 0])), (q_1, .inr (9, [.ref u_2, .int 0])), (u_2, .inl (D.1 13, 1600, .inl (fun _ => 0))), (q_3, .inr (6, [.int 0, .int (-1), .ref q_1, .ref u_4, .null, .int 0, .int 0, .int 0, .int 0, .int 0, .int 0, .int 0])), (q_5, .inr (2, [.ref q_7, .ref q_8, .ref q_9, .int 0, .ref q_10, .int 0])), (q_11, .inr (7, [.int 0, .ref q_13, .ref q_14, .ref q_15, .int 0, .ref q_16])), (q_17, .inr (4, [.ref q_19, .int 0, .int 0, .ref q_20, .ref q_21, .ref q_22])), (q_19, .inl (D.1 13, 1364, .inl (fun _ => 0)))] H := hP
  have hD : va_D A [(h0, .inr (11, [.ref q_1, .ref q_3, .ref q_5, .ref q_11, .ref q_17, .null, .null, .null, .null, .null, .null, .null, .int 0])), (q_1, .inr (9, [.ref u_2, .int 0])), (u_2, .inl (D.1 13, 1600, .inl (fun _ => 0))), (q_3, .inr (6, [.int 0, .int (-1), .ref q_1, .ref u_4, .null, .int 0, .int 0, .int 0, .int 0, .int 0, .int 0, .int 0])), (q_5, .inr (2, [.ref q_7, .ref q_8, .ref q_9, .int 0, .ref q_10, .int 0])), (q_11, .inr (7, [.int 0, .ref q_13, .ref q_14, .ref q_15, .int 0, .ref q_16])), (q_17, .inr (4, [.ref q_19, .int 0, .int 0, .ref q_20, .ref q_21, .ref q_22])), (q_19, .inl (D.1 13, 1364, .inl (fun _ => 0)))] := hD
  refine lv_aload_n hx hb dX11_init_63 rfl (lv_at hl 0 rfl) ?_
  refine va_new (ci := 10) (fs := [.null, .int 0, .null, .null]) (C := RX10) (T := TX10) (N := 4) hx hb ht inX10 tyX10 tyX10_ok hown (ht _ cx_X11_46) (ht _ ia_X10) (ht _ in_X10) hK hP hD hS hA rfl (by decide +kernel) (Nat.le_of_ble_eq_true rfl) (Nat.le_of_ble_eq_true rfl) dX11_init_64 (fun q_23 H hP hD hS => ?_)
  refine W.widen (k := 20) (n := 3563) (Nat.le_of_ble_eq_true rfl) (Nat.le_of_ble_eq_true rfl) ?_
  have hP : va_P D vwCl [(h0, .inr (11, [.ref q_1, .ref q_3, .ref q_5, .ref q_11, .ref q_17, .null, .null, .null, .null, .null, .null, .null, .int 0])), (q_1, .inr (9, [.ref u_2, .int 0])), (u_2, .inl (D.1 13, 1600, .inl (fun _ => 0))), (q_3, .inr (6, [.int 0, .int (-1), .ref q_1, .ref u_4, .null, .int 0, .int 0, .int 0, .int 0, .int 0, .int 0, .int 0])), (q_5, .inr (2, [.ref q_7, .ref q_8, .ref q_9, .int 0, .ref q_10, .int 0])), (q_11, .inr (7, [.int 0, .ref q_13, .ref q_14, .ref q_15, .int 0, .ref q_16])), (q_17, .inr (4, [.ref q_19, .int 0, .int 0, .ref q_20, .ref q_21, .ref q_22])), (q_19, .inl (D.1 13, 1364, .inl (fun _ => 0))), (q_23, .inr (10, [.null, .int 0, .null, .null]))] H := hP
  have hD : va_D A [(h0, .inr (11, [.ref q_1, .ref q_3, .ref q_5, .ref q_11, .ref q_17, .null, .null, .null, .null, .null, .null, .null, .int 0])), (q_1, .inr (9, [.ref u_2, .int 0])), (u_2, .inl (D.1 13, 1600, .inl (fun _ => 0))), (q_3, .inr (6, [.int 0, .int (-1), .ref q_1, .ref u_4, .null, .int 0, .int 0, .int 0, .int 0, .int 0, .int 0, .int 0])), (q_5, .inr (2, [.ref q_7, .ref q_8, .ref q_9, .int 0, .ref q_10, .int 0])), (q_11, .inr (7, [.int 0, .ref q_13, .ref q_14, .ref q_15, .int 0, .ref q_16])), (q_17, .inr (4, [.ref q_19, .int 0, .int 0, .ref q_20, .ref q_21, .ref q_22])), (q_19, .inl (D.1 13, 1364, .inl (fun _ => 0))), (q_23, .inr (10, [.null, .int 0, .null, .null]))] := hD
  refine lv_dup hx hb dX11_init_67 rfl ?_
  refine zwIN (As := []) (rest := [.ref q_23, .ref h0]) (n := 0) (wr := [(h0, .inr (11, [.ref q_1, .ref q_3, .ref q_5, .ref q_11, .ref q_17, .null, .null, .null, .null, .null, .null, .null, .int 0])), (q_1, .inr (9, [.ref u_2, .int 0])), (u_2, .inl (D.1 13, 1600, .inl (fun _ => 0))), (q_3, .inr (6, [.int 0, .int (-1), .ref q_1, .ref u_4, .null, .int 0, .int 0, .int 0, .int 0, .int 0, .int 0, .int 0])), (q_5, .inr (2, [.ref q_7, .ref q_8, .ref q_9, .int 0, .ref q_10, .int 0])), (q_11, .inr (7, [.int 0, .ref q_13, .ref q_14, .ref q_15, .int 0, .ref q_16])), (q_17, .inr (4, [.ref q_19, .int 0, .int 0, .ref q_20, .ref q_21, .ref q_22])), (q_19, .inl (D.1 13, 1364, .inl (fun _ => 0)))]) ⟨hx, hb, hml, hown, ht⟩ (k_X10_init l D _ q_23) co_X10_init rfl rfl in_X10 hE.1.2.2.2.2.1 im_X10_init rfl (by decide +kernel) ⟨Nat.le_of_ble_eq_true rfl, Nat.le_of_ble_eq_true rfl⟩ hK hP hD hS hA [8] [0, 1, 2, 3, 4, 5, 6, 7] rfl rfl rfl rfl (by decide) rfl hl.1 rfl (Nat.le_of_ble_eq_true rfl) dX11_init_68 ⟨Nat.le_of_ble_eq_true rfl, Nat.le_of_ble_eq_true rfl⟩ (fun u_24 H locs hw hP hD hS => ?_)
  refine W.widen (k := 23) (n := 4187) (Nat.le_of_ble_eq_true rfl) (Nat.le_of_ble_eq_true rfl) ?_
  obtain ⟨q_25, q_26, q_27⟩ := u_24
  have hP : va_P D vwCl [(h0, .inr (11, [.ref q_1, .ref q_3, .ref q_5, .ref q_11, .ref q_17, .null, .null, .null, .null, .null, .null, .null, .int 0])), (q_1, .inr (9, [.ref u_2, .int 0])), (u_2, .inl (D.1 13, 1600, .inl (fun _ => 0))), (q_3, .inr (6, [.int 0, .int (-1), .ref q_1, .ref u_4, .null, .int 0, .int 0, .int 0, .int 0, .int 0, .int 0, .int 0])), (q_5, .inr (2, [.ref q_7, .ref q_8, .ref q_9, .int 0, .ref q_10, .int 0])), (q_11, .inr (7, [.int 0, .ref q_13, .ref q_14, .ref q_15, .int 0, .ref q_16])), (q_17, .inr (4, [.ref q_19, .int 0, .int 0, .ref q_20, .ref q_21, .ref q_22])), (q_19, .inl (D.1 13, 1364, .inl (fun _ => 0))), (q_23, .inr (10, [.ref q_25, .int 0, .ref q_26, .ref q_27]))] H := hP
  have hD : va_D A [(h0, .inr (11, [.ref q_1, .ref q_3, .ref q_5, .ref q_11, .ref q_17, .null, .null, .null, .null, .null, .null, .null, .int 0])), (q_1, .inr (9, [.ref u_2, .int 0])), (u_2, .inl (D.1 13, 1600, .inl (fun _ => 0))), (q_3, .inr (6, [.int 0, .int (-1), .ref q_1, .ref u_4, .null, .int 0, .int 0, .int 0, .int 0, .int 0, .int 0, .int 0])), (q_5, .inr (2, [.ref q_7, .ref q_8, .ref q_9, .int 0, .ref q_10, .int 0])), (q_11, .inr (7, [.int 0, .ref q_13, .ref q_14, .ref q_15, .int 0, .ref q_16])), (q_17, .inr (4, [.ref q_19, .int 0, .int 0, .ref q_20, .ref q_21, .ref q_22])), (q_19, .inl (D.1 13, 1364, .inl (fun _ => 0))), (q_23, .inr (10, [.ref q_25, .int 0, .ref q_26, .ref q_27]))] := hD
  refine va_putF (D := D) (ci := 11) (v := .ref q_23) (ty := .object "CloneVolumes$Walk") (C := RX11) (T := TX11) (N := 13) hx hb ht inX11 tyX11 tyX11_ok nmX11 hown hK hP hD hS 0 rfl rfl 5 (by decide) (ht (.fieldLink RX11 49 "CloneVolumes" "walk" "LCloneVolumes$Walk;") fl_X11_49) (fun _ h9 => h9) rfl hin rfl (by decide +kernel) rfl rfl (Nat.le_of_ble_eq_true rfl) dX11_init_71 (fun H locs hP hD hS => ?_)
  have hP : va_P D vwCl [(h0, .inr (11, [.ref q_1, .ref q_3, .ref q_5, .ref q_11, .ref q_17, .ref q_23, .null, .null, .null, .null, .null, .null, .int 0])), (q_1, .inr (9, [.ref u_2, .int 0])), (u_2, .inl (D.1 13, 1600, .inl (fun _ => 0))), (q_3, .inr (6, [.int 0, .int (-1), .ref q_1, .ref u_4, .null, .int 0, .int 0, .int 0, .int 0, .int 0, .int 0, .int 0])), (q_5, .inr (2, [.ref q_7, .ref q_8, .ref q_9, .int 0, .ref q_10, .int 0])), (q_11, .inr (7, [.int 0, .ref q_13, .ref q_14, .ref q_15, .int 0, .ref q_16])), (q_17, .inr (4, [.ref q_19, .int 0, .int 0, .ref q_20, .ref q_21, .ref q_22])), (q_19, .inl (D.1 13, 1364, .inl (fun _ => 0))), (q_23, .inr (10, [.ref q_25, .int 0, .ref q_26, .ref q_27]))] H := hP
  have hD : va_D A [(h0, .inr (11, [.ref q_1, .ref q_3, .ref q_5, .ref q_11, .ref q_17, .ref q_23, .null, .null, .null, .null, .null, .null, .int 0])), (q_1, .inr (9, [.ref u_2, .int 0])), (u_2, .inl (D.1 13, 1600, .inl (fun _ => 0))), (q_3, .inr (6, [.int 0, .int (-1), .ref q_1, .ref u_4, .null, .int 0, .int 0, .int 0, .int 0, .int 0, .int 0, .int 0])), (q_5, .inr (2, [.ref q_7, .ref q_8, .ref q_9, .int 0, .ref q_10, .int 0])), (q_11, .inr (7, [.int 0, .ref q_13, .ref q_14, .ref q_15, .int 0, .ref q_16])), (q_17, .inr (4, [.ref q_19, .int 0, .int 0, .ref q_20, .ref q_21, .ref q_22])), (q_19, .inl (D.1 13, 1364, .inl (fun _ => 0))), (q_23, .inr (10, [.ref q_25, .int 0, .ref q_26, .ref q_27]))] := hD
  have hP := hP.sub (ws' := [(h0, .inr (11, [.ref q_1, .ref q_3, .ref q_5, .ref q_11, .ref q_17, .ref q_23, .null, .null, .null, .null, .null, .null, .int 0])), (q_1, .inr (9, [.ref u_2, .int 0])), (u_2, .inl (D.1 13, 1600, .inl (fun _ => 0))), (q_3, .inr (6, [.int 0, .int (-1), .ref q_1, .ref u_4, .null, .int 0, .int 0, .int 0, .int 0, .int 0, .int 0, .int 0])), (q_5, .inr (2, [.ref q_7, .ref q_8, .ref q_9, .int 0, .ref q_10, .int 0])), (q_11, .inr (7, [.int 0, .ref q_13, .ref q_14, .ref q_15, .int 0, .ref q_16])), (q_17, .inr (4, [.ref q_19, .int 0, .int 0, .ref q_20, .ref q_21, .ref q_22])), (q_19, .inl (D.1 13, 1364, .inl (fun _ => 0)))]) [0, 1, 2, 3, 4, 5, 6, 7] rfl
  have hD := hD.sub (ws' := [(h0, .inr (11, [.ref q_1, .ref q_3, .ref q_5, .ref q_11, .ref q_17, .ref q_23, .null, .null, .null, .null, .null, .null, .int 0])), (q_1, .inr (9, [.ref u_2, .int 0])), (u_2, .inl (D.1 13, 1600, .inl (fun _ => 0))), (q_3, .inr (6, [.int 0, .int (-1), .ref q_1, .ref u_4, .null, .int 0, .int 0, .int 0, .int 0, .int 0, .int 0, .int 0])), (q_5, .inr (2, [.ref q_7, .ref q_8, .ref q_9, .int 0, .ref q_10, .int 0])), (q_11, .inr (7, [.int 0, .ref q_13, .ref q_14, .ref q_15, .int 0, .ref q_16])), (q_17, .inr (4, [.ref q_19, .int 0, .int 0, .ref q_20, .ref q_21, .ref q_22])), (q_19, .inl (D.1 13, 1364, .inl (fun _ => 0)))]) [0, 1, 2, 3, 4, 5, 6, 7] (by decide) rfl
  refine lv_aload_n hx hb dX11_init_74 rfl (lv_at hl 0 rfl) ?_
  refine va_new (ci := 10) (fs := [.null, .int 0, .null, .null]) (C := RX10) (T := TX10) (N := 4) hx hb ht inX10 tyX10 tyX10_ok hown (ht _ cx_X11_46) (ht _ ia_X10) (ht _ in_X10) hK hP hD hS hA rfl (by decide +kernel) (Nat.le_of_ble_eq_true rfl) (Nat.le_of_ble_eq_true rfl) dX11_init_75 (fun q_28 H hP hD hS => ?_)
  refine W.widen (k := 24) (n := 4191) (Nat.le_of_ble_eq_true rfl) (Nat.le_of_ble_eq_true rfl) ?_
  have hP : va_P D vwCl [(h0, .inr (11, [.ref q_1, .ref q_3, .ref q_5, .ref q_11, .ref q_17, .ref q_23, .null, .null, .null, .null, .null, .null, .int 0])), (q_1, .inr (9, [.ref u_2, .int 0])), (u_2, .inl (D.1 13, 1600, .inl (fun _ => 0))), (q_3, .inr (6, [.int 0, .int (-1), .ref q_1, .ref u_4, .null, .int 0, .int 0, .int 0, .int 0, .int 0, .int 0, .int 0])), (q_5, .inr (2, [.ref q_7, .ref q_8, .ref q_9, .int 0, .ref q_10, .int 0])), (q_11, .inr (7, [.int 0, .ref q_13, .ref q_14, .ref q_15, .int 0, .ref q_16])), (q_17, .inr (4, [.ref q_19, .int 0, .int 0, .ref q_20, .ref q_21, .ref q_22])), (q_19, .inl (D.1 13, 1364, .inl (fun _ => 0))), (q_28, .inr (10, [.null, .int 0, .null, .null]))] H := hP
  have hD : va_D A [(h0, .inr (11, [.ref q_1, .ref q_3, .ref q_5, .ref q_11, .ref q_17, .ref q_23, .null, .null, .null, .null, .null, .null, .int 0])), (q_1, .inr (9, [.ref u_2, .int 0])), (u_2, .inl (D.1 13, 1600, .inl (fun _ => 0))), (q_3, .inr (6, [.int 0, .int (-1), .ref q_1, .ref u_4, .null, .int 0, .int 0, .int 0, .int 0, .int 0, .int 0, .int 0])), (q_5, .inr (2, [.ref q_7, .ref q_8, .ref q_9, .int 0, .ref q_10, .int 0])), (q_11, .inr (7, [.int 0, .ref q_13, .ref q_14, .ref q_15, .int 0, .ref q_16])), (q_17, .inr (4, [.ref q_19, .int 0, .int 0, .ref q_20, .ref q_21, .ref q_22])), (q_19, .inl (D.1 13, 1364, .inl (fun _ => 0))), (q_28, .inr (10, [.null, .int 0, .null, .null]))] := hD
  refine lv_dup hx hb dX11_init_78 rfl ?_
  refine zwIN (As := []) (rest := [.ref q_28, .ref h0]) (n := 0) (wr := [(h0, .inr (11, [.ref q_1, .ref q_3, .ref q_5, .ref q_11, .ref q_17, .ref q_23, .null, .null, .null, .null, .null, .null, .int 0])), (q_1, .inr (9, [.ref u_2, .int 0])), (u_2, .inl (D.1 13, 1600, .inl (fun _ => 0))), (q_3, .inr (6, [.int 0, .int (-1), .ref q_1, .ref u_4, .null, .int 0, .int 0, .int 0, .int 0, .int 0, .int 0, .int 0])), (q_5, .inr (2, [.ref q_7, .ref q_8, .ref q_9, .int 0, .ref q_10, .int 0])), (q_11, .inr (7, [.int 0, .ref q_13, .ref q_14, .ref q_15, .int 0, .ref q_16])), (q_17, .inr (4, [.ref q_19, .int 0, .int 0, .ref q_20, .ref q_21, .ref q_22])), (q_19, .inl (D.1 13, 1364, .inl (fun _ => 0)))]) ⟨hx, hb, hml, hown, ht⟩ (k_X10_init l D _ q_28) co_X10_init rfl rfl in_X10 hE.1.2.2.2.2.1 im_X10_init rfl (by decide +kernel) ⟨Nat.le_of_ble_eq_true rfl, Nat.le_of_ble_eq_true rfl⟩ hK hP hD hS hA [8] [0, 1, 2, 3, 4, 5, 6, 7] rfl rfl rfl rfl (by decide) rfl hl.1 rfl (Nat.le_of_ble_eq_true rfl) dX11_init_79 ⟨Nat.le_of_ble_eq_true rfl, Nat.le_of_ble_eq_true rfl⟩ (fun u_29 H locs hw hP hD hS => ?_)
  refine W.widen (k := 27) (n := 4815) (Nat.le_of_ble_eq_true rfl) (Nat.le_of_ble_eq_true rfl) ?_
  obtain ⟨q_30, q_31, q_32⟩ := u_29
  have hP : va_P D vwCl [(h0, .inr (11, [.ref q_1, .ref q_3, .ref q_5, .ref q_11, .ref q_17, .ref q_23, .null, .null, .null, .null, .null, .null, .int 0])), (q_1, .inr (9, [.ref u_2, .int 0])), (u_2, .inl (D.1 13, 1600, .inl (fun _ => 0))), (q_3, .inr (6, [.int 0, .int (-1), .ref q_1, .ref u_4, .null, .int 0, .int 0, .int 0, .int 0, .int 0, .int 0, .int 0])), (q_5, .inr (2, [.ref q_7, .ref q_8, .ref q_9, .int 0, .ref q_10, .int 0])), (q_11, .inr (7, [.int 0, .ref q_13, .ref q_14, .ref q_15, .int 0, .ref q_16])), (q_17, .inr (4, [.ref q_19, .int 0, .int 0, .ref q_20, .ref q_21, .ref q_22])), (q_19, .inl (D.1 13, 1364, .inl (fun _ => 0))), (q_28, .inr (10, [.ref q_30, .int 0, .ref q_31, .ref q_32]))] H := hP
  have hD : va_D A [(h0, .inr (11, [.ref q_1, .ref q_3, .ref q_5, .ref q_11, .ref q_17, .ref q_23, .null, .null, .null, .null, .null, .null, .int 0])), (q_1, .inr (9, [.ref u_2, .int 0])), (u_2, .inl (D.1 13, 1600, .inl (fun _ => 0))), (q_3, .inr (6, [.int 0, .int (-1), .ref q_1, .ref u_4, .null, .int 0, .int 0, .int 0, .int 0, .int 0, .int 0, .int 0])), (q_5, .inr (2, [.ref q_7, .ref q_8, .ref q_9, .int 0, .ref q_10, .int 0])), (q_11, .inr (7, [.int 0, .ref q_13, .ref q_14, .ref q_15, .int 0, .ref q_16])), (q_17, .inr (4, [.ref q_19, .int 0, .int 0, .ref q_20, .ref q_21, .ref q_22])), (q_19, .inl (D.1 13, 1364, .inl (fun _ => 0))), (q_28, .inr (10, [.ref q_30, .int 0, .ref q_31, .ref q_32]))] := hD
  refine va_putF (D := D) (ci := 11) (v := .ref q_28) (ty := .object "CloneVolumes$Walk") (C := RX11) (T := TX11) (N := 13) hx hb ht inX11 tyX11 tyX11_ok nmX11 hown hK hP hD hS 0 rfl rfl 6 (by decide) (ht (.fieldLink RX11 53 "CloneVolumes" "otherWalk" "LCloneVolumes$Walk;") fl_X11_53) (fun _ h9 => h9) rfl hin rfl (by decide +kernel) rfl rfl (Nat.le_of_ble_eq_true rfl) dX11_init_82 (fun H locs hP hD hS => ?_)
  have hP : va_P D vwCl [(h0, .inr (11, [.ref q_1, .ref q_3, .ref q_5, .ref q_11, .ref q_17, .ref q_23, .ref q_28, .null, .null, .null, .null, .null, .int 0])), (q_1, .inr (9, [.ref u_2, .int 0])), (u_2, .inl (D.1 13, 1600, .inl (fun _ => 0))), (q_3, .inr (6, [.int 0, .int (-1), .ref q_1, .ref u_4, .null, .int 0, .int 0, .int 0, .int 0, .int 0, .int 0, .int 0])), (q_5, .inr (2, [.ref q_7, .ref q_8, .ref q_9, .int 0, .ref q_10, .int 0])), (q_11, .inr (7, [.int 0, .ref q_13, .ref q_14, .ref q_15, .int 0, .ref q_16])), (q_17, .inr (4, [.ref q_19, .int 0, .int 0, .ref q_20, .ref q_21, .ref q_22])), (q_19, .inl (D.1 13, 1364, .inl (fun _ => 0))), (q_28, .inr (10, [.ref q_30, .int 0, .ref q_31, .ref q_32]))] H := hP
  have hD : va_D A [(h0, .inr (11, [.ref q_1, .ref q_3, .ref q_5, .ref q_11, .ref q_17, .ref q_23, .ref q_28, .null, .null, .null, .null, .null, .int 0])), (q_1, .inr (9, [.ref u_2, .int 0])), (u_2, .inl (D.1 13, 1600, .inl (fun _ => 0))), (q_3, .inr (6, [.int 0, .int (-1), .ref q_1, .ref u_4, .null, .int 0, .int 0, .int 0, .int 0, .int 0, .int 0, .int 0])), (q_5, .inr (2, [.ref q_7, .ref q_8, .ref q_9, .int 0, .ref q_10, .int 0])), (q_11, .inr (7, [.int 0, .ref q_13, .ref q_14, .ref q_15, .int 0, .ref q_16])), (q_17, .inr (4, [.ref q_19, .int 0, .int 0, .ref q_20, .ref q_21, .ref q_22])), (q_19, .inl (D.1 13, 1364, .inl (fun _ => 0))), (q_28, .inr (10, [.ref q_30, .int 0, .ref q_31, .ref q_32]))] := hD
  have hP := hP.sub (ws' := [(h0, .inr (11, [.ref q_1, .ref q_3, .ref q_5, .ref q_11, .ref q_17, .ref q_23, .ref q_28, .null, .null, .null, .null, .null, .int 0])), (q_1, .inr (9, [.ref u_2, .int 0])), (u_2, .inl (D.1 13, 1600, .inl (fun _ => 0))), (q_3, .inr (6, [.int 0, .int (-1), .ref q_1, .ref u_4, .null, .int 0, .int 0, .int 0, .int 0, .int 0, .int 0, .int 0])), (q_5, .inr (2, [.ref q_7, .ref q_8, .ref q_9, .int 0, .ref q_10, .int 0])), (q_11, .inr (7, [.int 0, .ref q_13, .ref q_14, .ref q_15, .int 0, .ref q_16])), (q_17, .inr (4, [.ref q_19, .int 0, .int 0, .ref q_20, .ref q_21, .ref q_22])), (q_19, .inl (D.1 13, 1364, .inl (fun _ => 0)))]) [0, 1, 2, 3, 4, 5, 6, 7] rfl
  have hD := hD.sub (ws' := [(h0, .inr (11, [.ref q_1, .ref q_3, .ref q_5, .ref q_11, .ref q_17, .ref q_23, .ref q_28, .null, .null, .null, .null, .null, .int 0])), (q_1, .inr (9, [.ref u_2, .int 0])), (u_2, .inl (D.1 13, 1600, .inl (fun _ => 0))), (q_3, .inr (6, [.int 0, .int (-1), .ref q_1, .ref u_4, .null, .int 0, .int 0, .int 0, .int 0, .int 0, .int 0, .int 0])), (q_5, .inr (2, [.ref q_7, .ref q_8, .ref q_9, .int 0, .ref q_10, .int 0])), (q_11, .inr (7, [.int 0, .ref q_13, .ref q_14, .ref q_15, .int 0, .ref q_16])), (q_17, .inr (4, [.ref q_19, .int 0, .int 0, .ref q_20, .ref q_21, .ref q_22])), (q_19, .inl (D.1 13, 1364, .inl (fun _ => 0)))]) [0, 1, 2, 3, 4, 5, 6, 7] (by decide) rfl
  refine lv_aload_n hx hb dX11_init_85 rfl (lv_at hl 0 rfl) ?_
  refine lv_bipush (v := 8) hx hb dX11_init_86 (by decide) ?_
  refine va_newa (atype := .long) (a0 := (8, .inr (.inl (fun _ => 0)))) (ty := .long) (N' := 8) hx hb (ht _ ac_long) rfl hK hP hD hS hA (fun _ => rfl) (by decide) (by decide) (by decide) (Nat.le_of_ble_eq_true rfl) (Nat.le_of_ble_eq_true rfl) dX11_init_88 (fun q_33 cA H hK2 hP hD hS => ?_)
  obtain rfl := z_cls_long hK hK2
  refine W.widen (k := 28) (n := 4823) (Nat.le_of_ble_eq_true rfl) (Nat.le_of_ble_eq_true rfl) ?_
  have hP : va_P D vwCl [(h0, .inr (11, [.ref q_1, .ref q_3, .ref q_5, .ref q_11, .ref q_17, .ref q_23, .ref q_28, .null, .null, .null, .null, .null, .int 0])), (q_1, .inr (9, [.ref u_2, .int 0])), (u_2, .inl (D.1 13, 1600, .inl (fun _ => 0))), (q_3, .inr (6, [.int 0, .int (-1), .ref q_1, .ref u_4, .null, .int 0, .int 0, .int 0, .int 0, .int 0, .int 0, .int 0])), (q_5, .inr (2, [.ref q_7, .ref q_8, .ref q_9, .int 0, .ref q_10, .int 0])), (q_11, .inr (7, [.int 0, .ref q_13, .ref q_14, .ref q_15, .int 0, .ref q_16])), (q_17, .inr (4, [.ref q_19, .int 0, .int 0, .ref q_20, .ref q_21, .ref q_22])), (q_19, .inl (D.1 13, 1364, .inl (fun _ => 0))), (q_33, .inl (D.1 15, 8, .inr (.inl (fun _ => 0))))] H := hP
  have hD : va_D A [(h0, .inr (11, [.ref q_1, .ref q_3, .ref q_5, .ref q_11, .ref q_17, .ref q_23, .ref q_28, .null, .null, .null, .null, .null, .int 0])), (q_1, .inr (9, [.ref u_2, .int 0])), (u_2, .inl (D.1 13, 1600, .inl (fun _ => 0))), (q_3, .inr (6, [.int 0, .int (-1), .ref q_1, .ref u_4, .null, .int 0, .int 0, .int 0, .int 0, .int 0, .int 0, .int 0])), (q_5, .inr (2, [.ref q_7, .ref q_8, .ref q_9, .int 0, .ref q_10, .int 0])), (q_11, .inr (7, [.int 0, .ref q_13, .ref q_14, .ref q_15, .int 0, .ref q_16])), (q_17, .inr (4, [.ref q_19, .int 0, .int 0, .ref q_20, .ref q_21, .ref q_22])), (q_19, .inl (D.1 13, 1364, .inl (fun _ => 0))), (q_33, .inl (D.1 15, 8, .inr (.inl (fun _ => 0))))] := hD
  refine va_putF (D := D) (ci := 11) (v := .ref q_33) (ty := .array .long) (C := RX11) (T := TX11) (N := 13) hx hb ht inX11 tyX11 tyX11_ok nmX11 hown hK hP hD hS 0 rfl rfl 7 (by decide) (ht (.fieldLink RX11 56 "CloneVolumes" "trees" "[J") fl_X11_56) (fun _ h9 => h9) rfl hin rfl (by decide +kernel) rfl rfl (Nat.le_of_ble_eq_true rfl) dX11_init_90 (fun H locs hP hD hS => ?_)
  have hP : va_P D vwCl [(h0, .inr (11, [.ref q_1, .ref q_3, .ref q_5, .ref q_11, .ref q_17, .ref q_23, .ref q_28, .ref q_33, .null, .null, .null, .null, .int 0])), (q_1, .inr (9, [.ref u_2, .int 0])), (u_2, .inl (D.1 13, 1600, .inl (fun _ => 0))), (q_3, .inr (6, [.int 0, .int (-1), .ref q_1, .ref u_4, .null, .int 0, .int 0, .int 0, .int 0, .int 0, .int 0, .int 0])), (q_5, .inr (2, [.ref q_7, .ref q_8, .ref q_9, .int 0, .ref q_10, .int 0])), (q_11, .inr (7, [.int 0, .ref q_13, .ref q_14, .ref q_15, .int 0, .ref q_16])), (q_17, .inr (4, [.ref q_19, .int 0, .int 0, .ref q_20, .ref q_21, .ref q_22])), (q_19, .inl (D.1 13, 1364, .inl (fun _ => 0))), (q_33, .inl (D.1 15, 8, .inr (.inl (fun _ => 0))))] H := hP
  have hD : va_D A [(h0, .inr (11, [.ref q_1, .ref q_3, .ref q_5, .ref q_11, .ref q_17, .ref q_23, .ref q_28, .ref q_33, .null, .null, .null, .null, .int 0])), (q_1, .inr (9, [.ref u_2, .int 0])), (u_2, .inl (D.1 13, 1600, .inl (fun _ => 0))), (q_3, .inr (6, [.int 0, .int (-1), .ref q_1, .ref u_4, .null, .int 0, .int 0, .int 0, .int 0, .int 0, .int 0, .int 0])), (q_5, .inr (2, [.ref q_7, .ref q_8, .ref q_9, .int 0, .ref q_10, .int 0])), (q_11, .inr (7, [.int 0, .ref q_13, .ref q_14, .ref q_15, .int 0, .ref q_16])), (q_17, .inr (4, [.ref q_19, .int 0, .int 0, .ref q_20, .ref q_21, .ref q_22])), (q_19, .inl (D.1 13, 1364, .inl (fun _ => 0))), (q_33, .inl (D.1 15, 8, .inr (.inl (fun _ => 0))))] := hD
  refine lv_aload_n hx hb dX11_init_93 rfl (lv_at hl 0 rfl) ?_
  refine lv_bipush (v := 6) hx hb dX11_init_94 (by decide) ?_
  refine va_newa (atype := .int) (a0 := (6, .inl (fun _ => 0))) (ty := .int) (N' := 6) hx hb (ht _ ac_int) rfl hK hP hD hS hA (fun _ => rfl) (by decide) (by decide) (by decide) (Nat.le_of_ble_eq_true rfl) (Nat.le_of_ble_eq_true rfl) dX11_init_96 (fun q_34 cA H hK2 hP hD hS => ?_)
  obtain rfl := z_cls_int hK hK2
  refine W.widen (k := 29) (n := 4829) (Nat.le_of_ble_eq_true rfl) (Nat.le_of_ble_eq_true rfl) ?_
  have hP : va_P D vwCl [(h0, .inr (11, [.ref q_1, .ref q_3, .ref q_5, .ref q_11, .ref q_17, .ref q_23, .ref q_28, .ref q_33, .null, .null, .null, .null, .int 0])), (q_1, .inr (9, [.ref u_2, .int 0])), (u_2, .inl (D.1 13, 1600, .inl (fun _ => 0))), (q_3, .inr (6, [.int 0, .int (-1), .ref q_1, .ref u_4, .null, .int 0, .int 0, .int 0, .int 0, .int 0, .int 0, .int 0])), (q_5, .inr (2, [.ref q_7, .ref q_8, .ref q_9, .int 0, .ref q_10, .int 0])), (q_11, .inr (7, [.int 0, .ref q_13, .ref q_14, .ref q_15, .int 0, .ref q_16])), (q_17, .inr (4, [.ref q_19, .int 0, .int 0, .ref q_20, .ref q_21, .ref q_22])), (q_19, .inl (D.1 13, 1364, .inl (fun _ => 0))), (q_33, .inl (D.1 15, 8, .inr (.inl (fun _ => 0)))), (q_34, .inl (D.1 13, 6, .inl (fun _ => 0)))] H := hP
  have hD : va_D A [(h0, .inr (11, [.ref q_1, .ref q_3, .ref q_5, .ref q_11, .ref q_17, .ref q_23, .ref q_28, .ref q_33, .null, .null, .null, .null, .int 0])), (q_1, .inr (9, [.ref u_2, .int 0])), (u_2, .inl (D.1 13, 1600, .inl (fun _ => 0))), (q_3, .inr (6, [.int 0, .int (-1), .ref q_1, .ref u_4, .null, .int 0, .int 0, .int 0, .int 0, .int 0, .int 0, .int 0])), (q_5, .inr (2, [.ref q_7, .ref q_8, .ref q_9, .int 0, .ref q_10, .int 0])), (q_11, .inr (7, [.int 0, .ref q_13, .ref q_14, .ref q_15, .int 0, .ref q_16])), (q_17, .inr (4, [.ref q_19, .int 0, .int 0, .ref q_20, .ref q_21, .ref q_22])), (q_19, .inl (D.1 13, 1364, .inl (fun _ => 0))), (q_33, .inl (D.1 15, 8, .inr (.inl (fun _ => 0)))), (q_34, .inl (D.1 13, 6, .inl (fun _ => 0)))] := hD
  refine va_putF (D := D) (ci := 11) (v := .ref q_34) (ty := .array .int) (C := RX11) (T := TX11) (N := 13) hx hb ht inX11 tyX11 tyX11_ok nmX11 hown hK hP hD hS 0 rfl rfl 8 (by decide) (ht (.fieldLink RX11 60 "CloneVolumes" "refused" "[I") fl_X11_60) (fun _ h9 => h9) rfl hin rfl (by decide +kernel) rfl rfl (Nat.le_of_ble_eq_true rfl) dX11_init_98 (fun H locs hP hD hS => ?_)
  have hP : va_P D vwCl [(h0, .inr (11, [.ref q_1, .ref q_3, .ref q_5, .ref q_11, .ref q_17, .ref q_23, .ref q_28, .ref q_33, .ref q_34, .null, .null, .null, .int 0])), (q_1, .inr (9, [.ref u_2, .int 0])), (u_2, .inl (D.1 13, 1600, .inl (fun _ => 0))), (q_3, .inr (6, [.int 0, .int (-1), .ref q_1, .ref u_4, .null, .int 0, .int 0, .int 0, .int 0, .int 0, .int 0, .int 0])), (q_5, .inr (2, [.ref q_7, .ref q_8, .ref q_9, .int 0, .ref q_10, .int 0])), (q_11, .inr (7, [.int 0, .ref q_13, .ref q_14, .ref q_15, .int 0, .ref q_16])), (q_17, .inr (4, [.ref q_19, .int 0, .int 0, .ref q_20, .ref q_21, .ref q_22])), (q_19, .inl (D.1 13, 1364, .inl (fun _ => 0))), (q_33, .inl (D.1 15, 8, .inr (.inl (fun _ => 0)))), (q_34, .inl (D.1 13, 6, .inl (fun _ => 0)))] H := hP
  have hD : va_D A [(h0, .inr (11, [.ref q_1, .ref q_3, .ref q_5, .ref q_11, .ref q_17, .ref q_23, .ref q_28, .ref q_33, .ref q_34, .null, .null, .null, .int 0])), (q_1, .inr (9, [.ref u_2, .int 0])), (u_2, .inl (D.1 13, 1600, .inl (fun _ => 0))), (q_3, .inr (6, [.int 0, .int (-1), .ref q_1, .ref u_4, .null, .int 0, .int 0, .int 0, .int 0, .int 0, .int 0, .int 0])), (q_5, .inr (2, [.ref q_7, .ref q_8, .ref q_9, .int 0, .ref q_10, .int 0])), (q_11, .inr (7, [.int 0, .ref q_13, .ref q_14, .ref q_15, .int 0, .ref q_16])), (q_17, .inr (4, [.ref q_19, .int 0, .int 0, .ref q_20, .ref q_21, .ref q_22])), (q_19, .inl (D.1 13, 1364, .inl (fun _ => 0))), (q_33, .inl (D.1 15, 8, .inr (.inl (fun _ => 0)))), (q_34, .inl (D.1 13, 6, .inl (fun _ => 0)))] := hD
  refine lv_aload_n hx hb dX11_init_101 rfl (lv_at hl 0 rfl) ?_
  refine va_new (ci := 5) (fs := [.int 0, .int 0, .int 0, .int 0, .int 0, .int 0, .null, .null, .null, .null, .null, .null, .null, .null]) (C := RX5) (T := TX5) (N := 14) hx hb ht inX5 tyX5 tyX5_ok hown (ht _ cx_X11_64) (ht _ ia_X5) (ht _ in_X5) hK hP hD hS hA rfl (by decide +kernel) (Nat.le_of_ble_eq_true rfl) (Nat.le_of_ble_eq_true rfl) dX11_init_102 (fun q_35 H hP hD hS => ?_)
  refine W.widen (k := 30) (n := 4843) (Nat.le_of_ble_eq_true rfl) (Nat.le_of_ble_eq_true rfl) ?_
  have hP : va_P D vwCl [(h0, .inr (11, [.ref q_1, .ref q_3, .ref q_5, .ref q_11, .ref q_17, .ref q_23, .ref q_28, .ref q_33, .ref q_34, .null, .null, .null, .int 0])), (q_1, .inr (9, [.ref u_2, .int 0])), (u_2, .inl (D.1 13, 1600, .inl (fun _ => 0))), (q_3, .inr (6, [.int 0, .int (-1), .ref q_1, .ref u_4, .null, .int 0, .int 0, .int 0, .int 0, .int 0, .int 0, .int 0])), (q_5, .inr (2, [.ref q_7, .ref q_8, .ref q_9, .int 0, .ref q_10, .int 0])), (q_11, .inr (7, [.int 0, .ref q_13, .ref q_14, .ref q_15, .int 0, .ref q_16])), (q_17, .inr (4, [.ref q_19, .int 0, .int 0, .ref q_20, .ref q_21, .ref q_22])), (q_19, .inl (D.1 13, 1364, .inl (fun _ => 0))), (q_33, .inl (D.1 15, 8, .inr (.inl (fun _ => 0)))), (q_34, .inl (D.1 13, 6, .inl (fun _ => 0))), (q_35, .inr (5, [.int 0, .int 0, .int 0, .int 0, .int 0, .int 0, .null, .null, .null, .null, .null, .null, .null, .null]))] H := hP
  have hD : va_D A [(h0, .inr (11, [.ref q_1, .ref q_3, .ref q_5, .ref q_11, .ref q_17, .ref q_23, .ref q_28, .ref q_33, .ref q_34, .null, .null, .null, .int 0])), (q_1, .inr (9, [.ref u_2, .int 0])), (u_2, .inl (D.1 13, 1600, .inl (fun _ => 0))), (q_3, .inr (6, [.int 0, .int (-1), .ref q_1, .ref u_4, .null, .int 0, .int 0, .int 0, .int 0, .int 0, .int 0, .int 0])), (q_5, .inr (2, [.ref q_7, .ref q_8, .ref q_9, .int 0, .ref q_10, .int 0])), (q_11, .inr (7, [.int 0, .ref q_13, .ref q_14, .ref q_15, .int 0, .ref q_16])), (q_17, .inr (4, [.ref q_19, .int 0, .int 0, .ref q_20, .ref q_21, .ref q_22])), (q_19, .inl (D.1 13, 1364, .inl (fun _ => 0))), (q_33, .inl (D.1 15, 8, .inr (.inl (fun _ => 0)))), (q_34, .inl (D.1 13, 6, .inl (fun _ => 0))), (q_35, .inr (5, [.int 0, .int 0, .int 0, .int 0, .int 0, .int 0, .null, .null, .null, .null, .null, .null, .null, .null]))] := hD
  refine lv_dup hx hb dX11_init_105 rfl ?_
  refine zwIE (As := []) (rest := [.ref q_35, .ref h0]) (n := 0) (wr := [(h0, .inr (11, [.ref q_1, .ref q_3, .ref q_5, .ref q_11, .ref q_17, .ref q_23, .ref q_28, .ref q_33, .ref q_34, .null, .null, .null, .int 0])), (q_1, .inr (9, [.ref u_2, .int 0])), (u_2, .inl (D.1 13, 1600, .inl (fun _ => 0))), (q_3, .inr (6, [.int 0, .int (-1), .ref q_1, .ref u_4, .null, .int 0, .int 0, .int 0, .int 0, .int 0, .int 0, .int 0])), (q_5, .inr (2, [.ref q_7, .ref q_8, .ref q_9, .int 0, .ref q_10, .int 0])), (q_11, .inr (7, [.int 0, .ref q_13, .ref q_14, .ref q_15, .int 0, .ref q_16])), (q_17, .inr (4, [.ref q_19, .int 0, .int 0, .ref q_20, .ref q_21, .ref q_22])), (q_19, .inl (D.1 13, 1364, .inl (fun _ => 0))), (q_33, .inl (D.1 15, 8, .inr (.inl (fun _ => 0)))), (q_34, .inl (D.1 13, 6, .inl (fun _ => 0)))]) ⟨hx, hb, hml, hown, ht⟩ (k_X5_init l D _ b0 qS vS fS q_35) co_X5_init rfl rfl in_X5 ml_X11_66 im_X5_init rfl (by decide +kernel) ⟨Nat.le_of_ble_eq_true rfl, Nat.le_of_ble_eq_true rfl⟩ hK hP hD hS hA hE hAb [10] [0, 1, 2, 3, 4, 5, 6, 7, 8, 9] rfl rfl rfl rfl (by decide) rfl hl.1 rfl (Nat.le_of_ble_eq_true rfl) dX11_init_106 ⟨Nat.le_of_ble_eq_true rfl, Nat.le_of_ble_eq_true rfl⟩ (fun u_36 H locs hw hP hD hS => ?_)
  refine W.widen (k := 39) (n := 6739) (Nat.le_of_ble_eq_true rfl) (Nat.le_of_ble_eq_true rfl) ?_
  obtain ⟨q_37, q_38, q_39, q_40, q_41, q_42, q_43, q_44, q_45, f_46, f_47⟩ := u_36
  have hP : va_P D vwCl [(h0, .inr (11, [.ref q_1, .ref q_3, .ref q_5, .ref q_11, .ref q_17, .ref q_23, .ref q_28, .ref q_33, .ref q_34, .null, .null, .null, .int 0])), (q_1, .inr (9, [.ref u_2, .int 0])), (u_2, .inl (D.1 13, 1600, .inl (fun _ => 0))), (q_3, .inr (6, [.int 0, .int (-1), .ref q_1, .ref u_4, .null, .int 0, .int 0, .int 0, .int 0, .int 0, .int 0, .int 0])), (q_5, .inr (2, [.ref q_7, .ref q_8, .ref q_9, .int 0, .ref q_10, .int 0])), (q_11, .inr (7, [.int 0, .ref q_13, .ref q_14, .ref q_15, .int 0, .ref q_16])), (q_17, .inr (4, [.ref q_19, .int 0, .int 0, .ref q_20, .ref q_21, .ref q_22])), (q_19, .inl (D.1 13, 1364, .inl (fun _ => 0))), (q_33, .inl (D.1 15, 8, .inr (.inl (fun _ => 0)))), (q_34, .inl (D.1 13, 6, .inl (fun _ => 0))), (q_35, .inr (5, [.int 0, .int 0, .int 0, .int 0, .int 0, .int 0, .ref q_37, .ref q_38, .ref q_39, .ref q_40, .ref q_41, .ref q_42, .ref q_43, .ref q_44])), (q_42, .inr (0, [.ref q_45, .int 0])), (q_43, .inl (D.1 13, 3, .inl f_46)), (q_44, .inl (D.1 13, 3, .inl f_47))] H := hP
  have hD : va_D A [(h0, .inr (11, [.ref q_1, .ref q_3, .ref q_5, .ref q_11, .ref q_17, .ref q_23, .ref q_28, .ref q_33, .ref q_34, .null, .null, .null, .int 0])), (q_1, .inr (9, [.ref u_2, .int 0])), (u_2, .inl (D.1 13, 1600, .inl (fun _ => 0))), (q_3, .inr (6, [.int 0, .int (-1), .ref q_1, .ref u_4, .null, .int 0, .int 0, .int 0, .int 0, .int 0, .int 0, .int 0])), (q_5, .inr (2, [.ref q_7, .ref q_8, .ref q_9, .int 0, .ref q_10, .int 0])), (q_11, .inr (7, [.int 0, .ref q_13, .ref q_14, .ref q_15, .int 0, .ref q_16])), (q_17, .inr (4, [.ref q_19, .int 0, .int 0, .ref q_20, .ref q_21, .ref q_22])), (q_19, .inl (D.1 13, 1364, .inl (fun _ => 0))), (q_33, .inl (D.1 15, 8, .inr (.inl (fun _ => 0)))), (q_34, .inl (D.1 13, 6, .inl (fun _ => 0))), (q_35, .inr (5, [.int 0, .int 0, .int 0, .int 0, .int 0, .int 0, .ref q_37, .ref q_38, .ref q_39, .ref q_40, .ref q_41, .ref q_42, .ref q_43, .ref q_44])), (q_42, .inr (0, [.ref q_45, .int 0])), (q_43, .inl (D.1 13, 3, .inl f_46)), (q_44, .inl (D.1 13, 3, .inl f_47))] := hD
  refine va_put (D := D) (ci := 11) (v := .ref q_35) (ty := .object "CloneVolumes$Plan") (C := RX11) (T := TX11) (N := 13) hx hb ht inX11 tyX11 tyX11_ok nmX11 hown hK hP hD hS 0 rfl rfl 9 (by decide) (ht (.fieldLink RX11 67 "CloneVolumes" "plan" "LCloneVolumes$Plan;") fl_X11_67) (fun _ h9 => h9) rfl (by decide +kernel) rfl rfl (Nat.le_of_ble_eq_true rfl) dX11_init_109 (fun H locs hP hD hS => ?_)
  have hP : va_P D vwCl [(h0, .inr (11, [.ref q_1, .ref q_3, .ref q_5, .ref q_11, .ref q_17, .ref q_23, .ref q_28, .ref q_33, .ref q_34, .ref q_35, .null, .null, .int 0])), (q_1, .inr (9, [.ref u_2, .int 0])), (u_2, .inl (D.1 13, 1600, .inl (fun _ => 0))), (q_3, .inr (6, [.int 0, .int (-1), .ref q_1, .ref u_4, .null, .int 0, .int 0, .int 0, .int 0, .int 0, .int 0, .int 0])), (q_5, .inr (2, [.ref q_7, .ref q_8, .ref q_9, .int 0, .ref q_10, .int 0])), (q_11, .inr (7, [.int 0, .ref q_13, .ref q_14, .ref q_15, .int 0, .ref q_16])), (q_17, .inr (4, [.ref q_19, .int 0, .int 0, .ref q_20, .ref q_21, .ref q_22])), (q_19, .inl (D.1 13, 1364, .inl (fun _ => 0))), (q_33, .inl (D.1 15, 8, .inr (.inl (fun _ => 0)))), (q_34, .inl (D.1 13, 6, .inl (fun _ => 0))), (q_35, .inr (5, [.int 0, .int 0, .int 0, .int 0, .int 0, .int 0, .ref q_37, .ref q_38, .ref q_39, .ref q_40, .ref q_41, .ref q_42, .ref q_43, .ref q_44])), (q_42, .inr (0, [.ref q_45, .int 0])), (q_43, .inl (D.1 13, 3, .inl f_46)), (q_44, .inl (D.1 13, 3, .inl f_47))] H := hP
  have hD : va_D A [(h0, .inr (11, [.ref q_1, .ref q_3, .ref q_5, .ref q_11, .ref q_17, .ref q_23, .ref q_28, .ref q_33, .ref q_34, .ref q_35, .null, .null, .int 0])), (q_1, .inr (9, [.ref u_2, .int 0])), (u_2, .inl (D.1 13, 1600, .inl (fun _ => 0))), (q_3, .inr (6, [.int 0, .int (-1), .ref q_1, .ref u_4, .null, .int 0, .int 0, .int 0, .int 0, .int 0, .int 0, .int 0])), (q_5, .inr (2, [.ref q_7, .ref q_8, .ref q_9, .int 0, .ref q_10, .int 0])), (q_11, .inr (7, [.int 0, .ref q_13, .ref q_14, .ref q_15, .int 0, .ref q_16])), (q_17, .inr (4, [.ref q_19, .int 0, .int 0, .ref q_20, .ref q_21, .ref q_22])), (q_19, .inl (D.1 13, 1364, .inl (fun _ => 0))), (q_33, .inl (D.1 15, 8, .inr (.inl (fun _ => 0)))), (q_34, .inl (D.1 13, 6, .inl (fun _ => 0))), (q_35, .inr (5, [.int 0, .int 0, .int 0, .int 0, .int 0, .int 0, .ref q_37, .ref q_38, .ref q_39, .ref q_40, .ref q_41, .ref q_42, .ref q_43, .ref q_44])), (q_42, .inr (0, [.ref q_45, .int 0])), (q_43, .inl (D.1 13, 3, .inl f_46)), (q_44, .inl (D.1 13, 3, .inl f_47))] := hD
  have hP := hP.sub (ws' := [(h0, .inr (11, [.ref q_1, .ref q_3, .ref q_5, .ref q_11, .ref q_17, .ref q_23, .ref q_28, .ref q_33, .ref q_34, .ref q_35, .null, .null, .int 0])), (q_1, .inr (9, [.ref u_2, .int 0])), (u_2, .inl (D.1 13, 1600, .inl (fun _ => 0))), (q_3, .inr (6, [.int 0, .int (-1), .ref q_1, .ref u_4, .null, .int 0, .int 0, .int 0, .int 0, .int 0, .int 0, .int 0])), (q_5, .inr (2, [.ref q_7, .ref q_8, .ref q_9, .int 0, .ref q_10, .int 0])), (q_11, .inr (7, [.int 0, .ref q_13, .ref q_14, .ref q_15, .int 0, .ref q_16])), (q_17, .inr (4, [.ref q_19, .int 0, .int 0, .ref q_20, .ref q_21, .ref q_22])), (q_19, .inl (D.1 13, 1364, .inl (fun _ => 0))), (q_33, .inl (D.1 15, 8, .inr (.inl (fun _ => 0)))), (q_34, .inl (D.1 13, 6, .inl (fun _ => 0)))]) [0, 1, 2, 3, 4, 5, 6, 7, 8, 9] rfl
  have hD := hD.sub (ws' := [(h0, .inr (11, [.ref q_1, .ref q_3, .ref q_5, .ref q_11, .ref q_17, .ref q_23, .ref q_28, .ref q_33, .ref q_34, .ref q_35, .null, .null, .int 0])), (q_1, .inr (9, [.ref u_2, .int 0])), (u_2, .inl (D.1 13, 1600, .inl (fun _ => 0))), (q_3, .inr (6, [.int 0, .int (-1), .ref q_1, .ref u_4, .null, .int 0, .int 0, .int 0, .int 0, .int 0, .int 0, .int 0])), (q_5, .inr (2, [.ref q_7, .ref q_8, .ref q_9, .int 0, .ref q_10, .int 0])), (q_11, .inr (7, [.int 0, .ref q_13, .ref q_14, .ref q_15, .int 0, .ref q_16])), (q_17, .inr (4, [.ref q_19, .int 0, .int 0, .ref q_20, .ref q_21, .ref q_22])), (q_19, .inl (D.1 13, 1364, .inl (fun _ => 0))), (q_33, .inl (D.1 15, 8, .inr (.inl (fun _ => 0)))), (q_34, .inl (D.1 13, 6, .inl (fun _ => 0)))]) [0, 1, 2, 3, 4, 5, 6, 7, 8, 9] (by decide) rfl
  refine lv_aload_n hx hb dX11_init_112 rfl (lv_at hl 0 rfl) ?_
  refine va_new (ci := 5) (fs := [.int 0, .int 0, .int 0, .int 0, .int 0, .int 0, .null, .null, .null, .null, .null, .null, .null, .null]) (C := RX5) (T := TX5) (N := 14) hx hb ht inX5 tyX5 tyX5_ok hown (ht _ cx_X11_64) (ht _ ia_X5) (ht _ in_X5) hK hP hD hS hA rfl (by decide +kernel) (Nat.le_of_ble_eq_true rfl) (Nat.le_of_ble_eq_true rfl) dX11_init_113 (fun q_48 H hP hD hS => ?_)
  refine W.widen (k := 40) (n := 6753) (Nat.le_of_ble_eq_true rfl) (Nat.le_of_ble_eq_true rfl) ?_
  have hP : va_P D vwCl [(h0, .inr (11, [.ref q_1, .ref q_3, .ref q_5, .ref q_11, .ref q_17, .ref q_23, .ref q_28, .ref q_33, .ref q_34, .ref q_35, .null, .null, .int 0])), (q_1, .inr (9, [.ref u_2, .int 0])), (u_2, .inl (D.1 13, 1600, .inl (fun _ => 0))), (q_3, .inr (6, [.int 0, .int (-1), .ref q_1, .ref u_4, .null, .int 0, .int 0, .int 0, .int 0, .int 0, .int 0, .int 0])), (q_5, .inr (2, [.ref q_7, .ref q_8, .ref q_9, .int 0, .ref q_10, .int 0])), (q_11, .inr (7, [.int 0, .ref q_13, .ref q_14, .ref q_15, .int 0, .ref q_16])), (q_17, .inr (4, [.ref q_19, .int 0, .int 0, .ref q_20, .ref q_21, .ref q_22])), (q_19, .inl (D.1 13, 1364, .inl (fun _ => 0))), (q_33, .inl (D.1 15, 8, .inr (.inl (fun _ => 0)))), (q_34, .inl (D.1 13, 6, .inl (fun _ => 0))), (q_48, .inr (5, [.int 0, .int 0, .int 0, .int 0, .int 0, .int 0, .null, .null, .null, .null, .null, .null, .null, .null]))] H := hP
  have hD : va_D A [(h0, .inr (11, [.ref q_1, .ref q_3, .ref q_5, .ref q_11, .ref q_17, .ref q_23, .ref q_28, .ref q_33, .ref q_34, .ref q_35, .null, .null, .int 0])), (q_1, .inr (9, [.ref u_2, .int 0])), (u_2, .inl (D.1 13, 1600, .inl (fun _ => 0))), (q_3, .inr (6, [.int 0, .int (-1), .ref q_1, .ref u_4, .null, .int 0, .int 0, .int 0, .int 0, .int 0, .int 0, .int 0])), (q_5, .inr (2, [.ref q_7, .ref q_8, .ref q_9, .int 0, .ref q_10, .int 0])), (q_11, .inr (7, [.int 0, .ref q_13, .ref q_14, .ref q_15, .int 0, .ref q_16])), (q_17, .inr (4, [.ref q_19, .int 0, .int 0, .ref q_20, .ref q_21, .ref q_22])), (q_19, .inl (D.1 13, 1364, .inl (fun _ => 0))), (q_33, .inl (D.1 15, 8, .inr (.inl (fun _ => 0)))), (q_34, .inl (D.1 13, 6, .inl (fun _ => 0))), (q_48, .inr (5, [.int 0, .int 0, .int 0, .int 0, .int 0, .int 0, .null, .null, .null, .null, .null, .null, .null, .null]))] := hD
  refine lv_dup hx hb dX11_init_116 rfl ?_
  refine zwIE (As := []) (rest := [.ref q_48, .ref h0]) (n := 0) (wr := [(h0, .inr (11, [.ref q_1, .ref q_3, .ref q_5, .ref q_11, .ref q_17, .ref q_23, .ref q_28, .ref q_33, .ref q_34, .ref q_35, .null, .null, .int 0])), (q_1, .inr (9, [.ref u_2, .int 0])), (u_2, .inl (D.1 13, 1600, .inl (fun _ => 0))), (q_3, .inr (6, [.int 0, .int (-1), .ref q_1, .ref u_4, .null, .int 0, .int 0, .int 0, .int 0, .int 0, .int 0, .int 0])), (q_5, .inr (2, [.ref q_7, .ref q_8, .ref q_9, .int 0, .ref q_10, .int 0])), (q_11, .inr (7, [.int 0, .ref q_13, .ref q_14, .ref q_15, .int 0, .ref q_16])), (q_17, .inr (4, [.ref q_19, .int 0, .int 0, .ref q_20, .ref q_21, .ref q_22])), (q_19, .inl (D.1 13, 1364, .inl (fun _ => 0))), (q_33, .inl (D.1 15, 8, .inr (.inl (fun _ => 0)))), (q_34, .inl (D.1 13, 6, .inl (fun _ => 0)))]) ⟨hx, hb, hml, hown, ht⟩ (k_X5_init l D _ b0 qS vS fS q_48) co_X5_init rfl rfl in_X5 ml_X11_66 im_X5_init rfl (by decide +kernel) ⟨Nat.le_of_ble_eq_true rfl, Nat.le_of_ble_eq_true rfl⟩ hK hP hD hS hA hE hAb [10] [0, 1, 2, 3, 4, 5, 6, 7, 8, 9] rfl rfl rfl rfl (by decide) rfl hl.1 rfl (Nat.le_of_ble_eq_true rfl) dX11_init_117 ⟨Nat.le_of_ble_eq_true rfl, Nat.le_of_ble_eq_true rfl⟩ (fun u_49 H locs hw hP hD hS => ?_)
  refine W.widen (k := 49) (n := 8649) (Nat.le_of_ble_eq_true rfl) (Nat.le_of_ble_eq_true rfl) ?_
  obtain ⟨q_50, q_51, q_52, q_53, q_54, q_55, q_56, q_57, q_58, f_59, f_60⟩ := u_49
  have hP : va_P D vwCl [(h0, .inr (11, [.ref q_1, .ref q_3, .ref q_5, .ref q_11, .ref q_17, .ref q_23, .ref q_28, .ref q_33, .ref q_34, .ref q_35, .null, .null, .int 0])), (q_1, .inr (9, [.ref u_2, .int 0])), (u_2, .inl (D.1 13, 1600, .inl (fun _ => 0))), (q_3, .inr (6, [.int 0, .int (-1), .ref q_1, .ref u_4, .null, .int 0, .int 0, .int 0, .int 0, .int 0, .int 0, .int 0])), (q_5, .inr (2, [.ref q_7, .ref q_8, .ref q_9, .int 0, .ref q_10, .int 0])), (q_11, .inr (7, [.int 0, .ref q_13, .ref q_14, .ref q_15, .int 0, .ref q_16])), (q_17, .inr (4, [.ref q_19, .int 0, .int 0, .ref q_20, .ref q_21, .ref q_22])), (q_19, .inl (D.1 13, 1364, .inl (fun _ => 0))), (q_33, .inl (D.1 15, 8, .inr (.inl (fun _ => 0)))), (q_34, .inl (D.1 13, 6, .inl (fun _ => 0))), (q_48, .inr (5, [.int 0, .int 0, .int 0, .int 0, .int 0, .int 0, .ref q_50, .ref q_51, .ref q_52, .ref q_53, .ref q_54, .ref q_55, .ref q_56, .ref q_57])), (q_55, .inr (0, [.ref q_58, .int 0])), (q_56, .inl (D.1 13, 3, .inl f_59)), (q_57, .inl (D.1 13, 3, .inl f_60))] H := hP
  have hD : va_D A [(h0, .inr (11, [.ref q_1, .ref q_3, .ref q_5, .ref q_11, .ref q_17, .ref q_23, .ref q_28, .ref q_33, .ref q_34, .ref q_35, .null, .null, .int 0])), (q_1, .inr (9, [.ref u_2, .int 0])), (u_2, .inl (D.1 13, 1600, .inl (fun _ => 0))), (q_3, .inr (6, [.int 0, .int (-1), .ref q_1, .ref u_4, .null, .int 0, .int 0, .int 0, .int 0, .int 0, .int 0, .int 0])), (q_5, .inr (2, [.ref q_7, .ref q_8, .ref q_9, .int 0, .ref q_10, .int 0])), (q_11, .inr (7, [.int 0, .ref q_13, .ref q_14, .ref q_15, .int 0, .ref q_16])), (q_17, .inr (4, [.ref q_19, .int 0, .int 0, .ref q_20, .ref q_21, .ref q_22])), (q_19, .inl (D.1 13, 1364, .inl (fun _ => 0))), (q_33, .inl (D.1 15, 8, .inr (.inl (fun _ => 0)))), (q_34, .inl (D.1 13, 6, .inl (fun _ => 0))), (q_48, .inr (5, [.int 0, .int 0, .int 0, .int 0, .int 0, .int 0, .ref q_50, .ref q_51, .ref q_52, .ref q_53, .ref q_54, .ref q_55, .ref q_56, .ref q_57])), (q_55, .inr (0, [.ref q_58, .int 0])), (q_56, .inl (D.1 13, 3, .inl f_59)), (q_57, .inl (D.1 13, 3, .inl f_60))] := hD
  refine va_put (D := D) (ci := 11) (v := .ref q_48) (ty := .object "CloneVolumes$Plan") (C := RX11) (T := TX11) (N := 13) hx hb ht inX11 tyX11 tyX11_ok nmX11 hown hK hP hD hS 0 rfl rfl 10 (by decide) (ht (.fieldLink RX11 71 "CloneVolumes" "spare" "LCloneVolumes$Plan;") fl_X11_71) (fun _ h9 => h9) rfl (by decide +kernel) rfl rfl (Nat.le_of_ble_eq_true rfl) dX11_init_120 (fun H locs hP hD hS => ?_)
  have hP : va_P D vwCl [(h0, .inr (11, [.ref q_1, .ref q_3, .ref q_5, .ref q_11, .ref q_17, .ref q_23, .ref q_28, .ref q_33, .ref q_34, .ref q_35, .ref q_48, .null, .int 0])), (q_1, .inr (9, [.ref u_2, .int 0])), (u_2, .inl (D.1 13, 1600, .inl (fun _ => 0))), (q_3, .inr (6, [.int 0, .int (-1), .ref q_1, .ref u_4, .null, .int 0, .int 0, .int 0, .int 0, .int 0, .int 0, .int 0])), (q_5, .inr (2, [.ref q_7, .ref q_8, .ref q_9, .int 0, .ref q_10, .int 0])), (q_11, .inr (7, [.int 0, .ref q_13, .ref q_14, .ref q_15, .int 0, .ref q_16])), (q_17, .inr (4, [.ref q_19, .int 0, .int 0, .ref q_20, .ref q_21, .ref q_22])), (q_19, .inl (D.1 13, 1364, .inl (fun _ => 0))), (q_33, .inl (D.1 15, 8, .inr (.inl (fun _ => 0)))), (q_34, .inl (D.1 13, 6, .inl (fun _ => 0))), (q_48, .inr (5, [.int 0, .int 0, .int 0, .int 0, .int 0, .int 0, .ref q_50, .ref q_51, .ref q_52, .ref q_53, .ref q_54, .ref q_55, .ref q_56, .ref q_57])), (q_55, .inr (0, [.ref q_58, .int 0])), (q_56, .inl (D.1 13, 3, .inl f_59)), (q_57, .inl (D.1 13, 3, .inl f_60))] H := hP
  have hD : va_D A [(h0, .inr (11, [.ref q_1, .ref q_3, .ref q_5, .ref q_11, .ref q_17, .ref q_23, .ref q_28, .ref q_33, .ref q_34, .ref q_35, .ref q_48, .null, .int 0])), (q_1, .inr (9, [.ref u_2, .int 0])), (u_2, .inl (D.1 13, 1600, .inl (fun _ => 0))), (q_3, .inr (6, [.int 0, .int (-1), .ref q_1, .ref u_4, .null, .int 0, .int 0, .int 0, .int 0, .int 0, .int 0, .int 0])), (q_5, .inr (2, [.ref q_7, .ref q_8, .ref q_9, .int 0, .ref q_10, .int 0])), (q_11, .inr (7, [.int 0, .ref q_13, .ref q_14, .ref q_15, .int 0, .ref q_16])), (q_17, .inr (4, [.ref q_19, .int 0, .int 0, .ref q_20, .ref q_21, .ref q_22])), (q_19, .inl (D.1 13, 1364, .inl (fun _ => 0))), (q_33, .inl (D.1 15, 8, .inr (.inl (fun _ => 0)))), (q_34, .inl (D.1 13, 6, .inl (fun _ => 0))), (q_48, .inr (5, [.int 0, .int 0, .int 0, .int 0, .int 0, .int 0, .ref q_50, .ref q_51, .ref q_52, .ref q_53, .ref q_54, .ref q_55, .ref q_56, .ref q_57])), (q_55, .inr (0, [.ref q_58, .int 0])), (q_56, .inl (D.1 13, 3, .inl f_59)), (q_57, .inl (D.1 13, 3, .inl f_60))] := hD
  refine lv_aload_n hx hb dX11_init_123 rfl (lv_at hl 0 rfl) ?_
  refine va_new (ci := 1) (fs := [.null, .null, .null, .int 0, .null, .null, .null, .null, .null]) (C := RX1) (T := TX1) (N := 9) hx hb ht inX1 tyX1 tyX1_ok hown (ht _ cx_X11_74) (ht _ ia_X1) (ht _ in_X1) hK hP hD hS hA rfl (by decide +kernel) (Nat.le_of_ble_eq_true rfl) (Nat.le_of_ble_eq_true rfl) dX11_init_124 (fun q_61 H hP hD hS => ?_)
  refine W.widen (k := 50) (n := 8658) (Nat.le_of_ble_eq_true rfl) (Nat.le_of_ble_eq_true rfl) ?_
  have hP : va_P D vwCl [(h0, .inr (11, [.ref q_1, .ref q_3, .ref q_5, .ref q_11, .ref q_17, .ref q_23, .ref q_28, .ref q_33, .ref q_34, .ref q_35, .ref q_48, .null, .int 0])), (q_1, .inr (9, [.ref u_2, .int 0])), (u_2, .inl (D.1 13, 1600, .inl (fun _ => 0))), (q_3, .inr (6, [.int 0, .int (-1), .ref q_1, .ref u_4, .null, .int 0, .int 0, .int 0, .int 0, .int 0, .int 0, .int 0])), (q_5, .inr (2, [.ref q_7, .ref q_8, .ref q_9, .int 0, .ref q_10, .int 0])), (q_11, .inr (7, [.int 0, .ref q_13, .ref q_14, .ref q_15, .int 0, .ref q_16])), (q_17, .inr (4, [.ref q_19, .int 0, .int 0, .ref q_20, .ref q_21, .ref q_22])), (q_19, .inl (D.1 13, 1364, .inl (fun _ => 0))), (q_33, .inl (D.1 15, 8, .inr (.inl (fun _ => 0)))), (q_34, .inl (D.1 13, 6, .inl (fun _ => 0))), (q_48, .inr (5, [.int 0, .int 0, .int 0, .int 0, .int 0, .int 0, .ref q_50, .ref q_51, .ref q_52, .ref q_53, .ref q_54, .ref q_55, .ref q_56, .ref q_57])), (q_55, .inr (0, [.ref q_58, .int 0])), (q_56, .inl (D.1 13, 3, .inl f_59)), (q_57, .inl (D.1 13, 3, .inl f_60)), (q_61, .inr (1, [.null, .null, .null, .int 0, .null, .null, .null, .null, .null]))] H := hP
  have hD : va_D A [(h0, .inr (11, [.ref q_1, .ref q_3, .ref q_5, .ref q_11, .ref q_17, .ref q_23, .ref q_28, .ref q_33, .ref q_34, .ref q_35, .ref q_48, .null, .int 0])), (q_1, .inr (9, [.ref u_2, .int 0])), (u_2, .inl (D.1 13, 1600, .inl (fun _ => 0))), (q_3, .inr (6, [.int 0, .int (-1), .ref q_1, .ref u_4, .null, .int 0, .int 0, .int 0, .int 0, .int 0, .int 0, .int 0])), (q_5, .inr (2, [.ref q_7, .ref q_8, .ref q_9, .int 0, .ref q_10, .int 0])), (q_11, .inr (7, [.int 0, .ref q_13, .ref q_14, .ref q_15, .int 0, .ref q_16])), (q_17, .inr (4, [.ref q_19, .int 0, .int 0, .ref q_20, .ref q_21, .ref q_22])), (q_19, .inl (D.1 13, 1364, .inl (fun _ => 0))), (q_33, .inl (D.1 15, 8, .inr (.inl (fun _ => 0)))), (q_34, .inl (D.1 13, 6, .inl (fun _ => 0))), (q_48, .inr (5, [.int 0, .int 0, .int 0, .int 0, .int 0, .int 0, .ref q_50, .ref q_51, .ref q_52, .ref q_53, .ref q_54, .ref q_55, .ref q_56, .ref q_57])), (q_55, .inr (0, [.ref q_58, .int 0])), (q_56, .inl (D.1 13, 3, .inl f_59)), (q_57, .inl (D.1 13, 3, .inl f_60)), (q_61, .inr (1, [.null, .null, .null, .int 0, .null, .null, .null, .null, .null]))] := hD
  refine lv_dup hx hb dX11_init_127 rfl ?_
  refine lv_aload_n hx hb dX11_init_128 rfl (lv_at hl 0 rfl) ?_
  refine va_get (D := D) (ci := 11) (v := .ref q_35) (C := RX11) (T := TX11) (N := 13) hx hb ht inX11 hown hK hP 0 rfl rfl 9 (by decide) (ht (.fieldLink RX11 67 "CloneVolumes" "plan" "LCloneVolumes$Plan;") fl_X11_67) (fun _ h9 => h9) rfl dX11_init_129 ?_
  refine zwI (As := [.ref q_35]) (rest := [.ref q_61, .ref h0]) (n := 1) (wr := [(h0, .inr (11, [.ref q_1, .ref q_3, .ref q_5, .ref q_11, .ref q_17, .ref q_23, .ref q_28, .ref q_33, .ref q_34, .ref q_35, .ref q_48, .null, .int 0])), (q_1, .inr (9, [.ref u_2, .int 0])), (u_2, .inl (D.1 13, 1600, .inl (fun _ => 0))), (q_3, .inr (6, [.int 0, .int (-1), .ref q_1, .ref u_4, .null, .int 0, .int 0, .int 0, .int 0, .int 0, .int 0, .int 0])), (q_5, .inr (2, [.ref q_7, .ref q_8, .ref q_9, .int 0, .ref q_10, .int 0])), (q_11, .inr (7, [.int 0, .ref q_13, .ref q_14, .ref q_15, .int 0, .ref q_16])), (q_17, .inr (4, [.ref q_19, .int 0, .int 0, .ref q_20, .ref q_21, .ref q_22])), (q_19, .inl (D.1 13, 1364, .inl (fun _ => 0))), (q_33, .inl (D.1 15, 8, .inr (.inl (fun _ => 0)))), (q_34, .inl (D.1 13, 6, .inl (fun _ => 0))), (q_48, .inr (5, [.int 0, .int 0, .int 0, .int 0, .int 0, .int 0, .ref q_50, .ref q_51, .ref q_52, .ref q_53, .ref q_54, .ref q_55, .ref q_56, .ref q_57])), (q_55, .inr (0, [.ref q_58, .int 0])), (q_56, .inl (D.1 13, 3, .inl f_59)), (q_57, .inl (D.1 13, 3, .inl f_60))]) ⟨hx, hb, hml, hown, ht⟩ (k_X1_init l D _ q_61 q_35) co_X1_init rfl rfl in_X1 ml_X11_76 im_X1_init rfl (by decide +kernel) ⟨Nat.le_of_ble_eq_true rfl, Nat.le_of_ble_eq_true rfl⟩ hK hP hD hS hA [14] [0, 1, 2, 3, 4, 5, 6, 7, 8, 9, 10, 11, 12, 13] rfl rfl rfl rfl (by decide) rfl hl.1 rfl (Nat.le_of_ble_eq_true rfl) dX11_init_132 ⟨Nat.le_of_ble_eq_true rfl, Nat.le_of_ble_eq_true rfl⟩ (fun u_62 H locs hw hP hD hS => ?_)
  refine W.widen (k := 82) (n := 11261) (Nat.le_of_ble_eq_true rfl) (Nat.le_of_ble_eq_true rfl) ?_
  obtain ⟨q_63, q_64, q_65, q_66, q_67, q_68, q_69, q_70, q_71, q_72, q_73, q_74, q_75, q_76, q_77⟩ := u_62
  have hP : va_P D vwCl [(h0, .inr (11, [.ref q_1, .ref q_3, .ref q_5, .ref q_11, .ref q_17, .ref q_23, .ref q_28, .ref q_33, .ref q_34, .ref q_35, .ref q_48, .null, .int 0])), (q_1, .inr (9, [.ref u_2, .int 0])), (u_2, .inl (D.1 13, 1600, .inl (fun _ => 0))), (q_3, .inr (6, [.int 0, .int (-1), .ref q_1, .ref u_4, .null, .int 0, .int 0, .int 0, .int 0, .int 0, .int 0, .int 0])), (q_5, .inr (2, [.ref q_7, .ref q_8, .ref q_9, .int 0, .ref q_10, .int 0])), (q_11, .inr (7, [.int 0, .ref q_13, .ref q_14, .ref q_15, .int 0, .ref q_16])), (q_17, .inr (4, [.ref q_19, .int 0, .int 0, .ref q_20, .ref q_21, .ref q_22])), (q_19, .inl (D.1 13, 1364, .inl (fun _ => 0))), (q_33, .inl (D.1 15, 8, .inr (.inl (fun _ => 0)))), (q_34, .inl (D.1 13, 6, .inl (fun _ => 0))), (q_48, .inr (5, [.int 0, .int 0, .int 0, .int 0, .int 0, .int 0, .ref q_50, .ref q_51, .ref q_52, .ref q_53, .ref q_54, .ref q_55, .ref q_56, .ref q_57])), (q_55, .inr (0, [.ref q_58, .int 0])), (q_56, .inl (D.1 13, 3, .inl f_59)), (q_57, .inl (D.1 13, 3, .inl f_60)), (q_61, .inr (1, [.ref q_63, .ref q_64, .ref q_65, .int 1, .ref q_35, .ref q_66, .ref q_67, .ref q_68, .ref q_69])), (q_63, .inr (8, [.int 0, .int 0, .long 0, .ref q_70, .ref q_71, .ref q_72, .ref q_73, .ref q_74, .ref q_75, .ref q_76, .ref q_77])), (q_76, .inl (D.1 13, 8, .inl (fun _ => (-2)))), (q_77, .inl (D.1 13, 8, .inl (fun _ => (-2))))] H := hP
  have hD : va_D A [(h0, .inr (11, [.ref q_1, .ref q_3, .ref q_5, .ref q_11, .ref q_17, .ref q_23, .ref q_28, .ref q_33, .ref q_34, .ref q_35, .ref q_48, .null, .int 0])), (q_1, .inr (9, [.ref u_2, .int 0])), (u_2, .inl (D.1 13, 1600, .inl (fun _ => 0))), (q_3, .inr (6, [.int 0, .int (-1), .ref q_1, .ref u_4, .null, .int 0, .int 0, .int 0, .int 0, .int 0, .int 0, .int 0])), (q_5, .inr (2, [.ref q_7, .ref q_8, .ref q_9, .int 0, .ref q_10, .int 0])), (q_11, .inr (7, [.int 0, .ref q_13, .ref q_14, .ref q_15, .int 0, .ref q_16])), (q_17, .inr (4, [.ref q_19, .int 0, .int 0, .ref q_20, .ref q_21, .ref q_22])), (q_19, .inl (D.1 13, 1364, .inl (fun _ => 0))), (q_33, .inl (D.1 15, 8, .inr (.inl (fun _ => 0)))), (q_34, .inl (D.1 13, 6, .inl (fun _ => 0))), (q_48, .inr (5, [.int 0, .int 0, .int 0, .int 0, .int 0, .int 0, .ref q_50, .ref q_51, .ref q_52, .ref q_53, .ref q_54, .ref q_55, .ref q_56, .ref q_57])), (q_55, .inr (0, [.ref q_58, .int 0])), (q_56, .inl (D.1 13, 3, .inl f_59)), (q_57, .inl (D.1 13, 3, .inl f_60)), (q_61, .inr (1, [.ref q_63, .ref q_64, .ref q_65, .int 1, .ref q_35, .ref q_66, .ref q_67, .ref q_68, .ref q_69])), (q_63, .inr (8, [.int 0, .int 0, .long 0, .ref q_70, .ref q_71, .ref q_72, .ref q_73, .ref q_74, .ref q_75, .ref q_76, .ref q_77])), (q_76, .inl (D.1 13, 8, .inl (fun _ => (-2)))), (q_77, .inl (D.1 13, 8, .inl (fun _ => (-2))))] := hD
  refine va_putF (D := D) (ci := 11) (v := .ref q_61) (ty := .object "CloneVolumes$Forest") (C := RX11) (T := TX11) (N := 13) hx hb ht inX11 tyX11 tyX11_ok nmX11 hown hK hP hD hS 0 rfl rfl 11 (by decide) (ht (.fieldLink RX11 79 "CloneVolumes" "forest" "LCloneVolumes$Forest;") fl_X11_79) (fun _ h9 => h9) rfl hin rfl (by decide +kernel) rfl rfl (Nat.le_of_ble_eq_true rfl) dX11_init_135 (fun H locs hP hD hS => ?_)
  have hP : va_P D vwCl [(h0, .inr (11, [.ref q_1, .ref q_3, .ref q_5, .ref q_11, .ref q_17, .ref q_23, .ref q_28, .ref q_33, .ref q_34, .ref q_35, .ref q_48, .ref q_61, .int 0])), (q_1, .inr (9, [.ref u_2, .int 0])), (u_2, .inl (D.1 13, 1600, .inl (fun _ => 0))), (q_3, .inr (6, [.int 0, .int (-1), .ref q_1, .ref u_4, .null, .int 0, .int 0, .int 0, .int 0, .int 0, .int 0, .int 0])), (q_5, .inr (2, [.ref q_7, .ref q_8, .ref q_9, .int 0, .ref q_10, .int 0])), (q_11, .inr (7, [.int 0, .ref q_13, .ref q_14, .ref q_15, .int 0, .ref q_16])), (q_17, .inr (4, [.ref q_19, .int 0, .int 0, .ref q_20, .ref q_21, .ref q_22])), (q_19, .inl (D.1 13, 1364, .inl (fun _ => 0))), (q_33, .inl (D.1 15, 8, .inr (.inl (fun _ => 0)))), (q_34, .inl (D.1 13, 6, .inl (fun _ => 0))), (q_48, .inr (5, [.int 0, .int 0, .int 0, .int 0, .int 0, .int 0, .ref q_50, .ref q_51, .ref q_52, .ref q_53, .ref q_54, .ref q_55, .ref q_56, .ref q_57])), (q_55, .inr (0, [.ref q_58, .int 0])), (q_56, .inl (D.1 13, 3, .inl f_59)), (q_57, .inl (D.1 13, 3, .inl f_60)), (q_61, .inr (1, [.ref q_63, .ref q_64, .ref q_65, .int 1, .ref q_35, .ref q_66, .ref q_67, .ref q_68, .ref q_69])), (q_63, .inr (8, [.int 0, .int 0, .long 0, .ref q_70, .ref q_71, .ref q_72, .ref q_73, .ref q_74, .ref q_75, .ref q_76, .ref q_77])), (q_76, .inl (D.1 13, 8, .inl (fun _ => (-2)))), (q_77, .inl (D.1 13, 8, .inl (fun _ => (-2))))] H := hP
  have hD : va_D A [(h0, .inr (11, [.ref q_1, .ref q_3, .ref q_5, .ref q_11, .ref q_17, .ref q_23, .ref q_28, .ref q_33, .ref q_34, .ref q_35, .ref q_48, .ref q_61, .int 0])), (q_1, .inr (9, [.ref u_2, .int 0])), (u_2, .inl (D.1 13, 1600, .inl (fun _ => 0))), (q_3, .inr (6, [.int 0, .int (-1), .ref q_1, .ref u_4, .null, .int 0, .int 0, .int 0, .int 0, .int 0, .int 0, .int 0])), (q_5, .inr (2, [.ref q_7, .ref q_8, .ref q_9, .int 0, .ref q_10, .int 0])), (q_11, .inr (7, [.int 0, .ref q_13, .ref q_14, .ref q_15, .int 0, .ref q_16])), (q_17, .inr (4, [.ref q_19, .int 0, .int 0, .ref q_20, .ref q_21, .ref q_22])), (q_19, .inl (D.1 13, 1364, .inl (fun _ => 0))), (q_33, .inl (D.1 15, 8, .inr (.inl (fun _ => 0)))), (q_34, .inl (D.1 13, 6, .inl (fun _ => 0))), (q_48, .inr (5, [.int 0, .int 0, .int 0, .int 0, .int 0, .int 0, .ref q_50, .ref q_51, .ref q_52, .ref q_53, .ref q_54, .ref q_55, .ref q_56, .ref q_57])), (q_55, .inr (0, [.ref q_58, .int 0])), (q_56, .inl (D.1 13, 3, .inl f_59)), (q_57, .inl (D.1 13, 3, .inl f_60)), (q_61, .inr (1, [.ref q_63, .ref q_64, .ref q_65, .int 1, .ref q_35, .ref q_66, .ref q_67, .ref q_68, .ref q_69])), (q_63, .inr (8, [.int 0, .int 0, .long 0, .ref q_70, .ref q_71, .ref q_72, .ref q_73, .ref q_74, .ref q_75, .ref q_76, .ref q_77])), (q_76, .inl (D.1 13, 8, .inl (fun _ => (-2)))), (q_77, .inl (D.1 13, 8, .inl (fun _ => (-2))))] := hD
  obtain ⟨a, e0, e1, e2, e3, e4, e5, e6, e7, e8, e9, e10, e11, e12, e13, e14, e15, e16, e17, e18, e19, e20, e21, e22, e23, e24, e25, e26, e27, e28, e29, e30, e31, e32, e33, e50, e51, e52, e53, e54, e55, e56, e57, e58, e60, e61, e62, e63, e64, e65, e66, e67⟩ : ∃ a : Nat → Nat, a 0 = h0 ∧ a 1 = q_1 ∧ a 2 = q_3 ∧ a 3 = q_5 ∧ a 4 = q_11 ∧ a 5 = q_17 ∧ a 6 = q_23 ∧ a 7 = q_28 ∧ a 8 = q_33 ∧ a 9 = q_34 ∧ a 10 = q_35 ∧ a 11 = q_48 ∧ a 12 = q_61 ∧ a 13 = q_63 ∧ a 14 = q_64 ∧ a 15 = q_65 ∧ a 16 = q_66 ∧ a 17 = q_67 ∧ a 18 = q_68 ∧ a 19 = q_69 ∧ a 20 = u_2 ∧ a 21 = u_4 ∧ a 22 = q_7 ∧ a 23 = q_8 ∧ a 24 = q_9 ∧ a 25 = q_10 ∧ a 26 = q_13 ∧ a 27 = q_14 ∧ a 28 = q_15 ∧ a 29 = q_16 ∧ a 30 = q_19 ∧ a 31 = q_20 ∧ a 32 = q_21 ∧ a 33 = q_22 ∧ a 50 = q_50 ∧ a 51 = q_51 ∧ a 52 = q_52 ∧ a 53 = q_53 ∧ a 54 = q_54 ∧ a 55 = q_55 ∧ a 56 = q_56 ∧ a 57 = q_57 ∧ a 58 = q_58 ∧ a 60 = q_70 ∧ a 61 = q_71 ∧ a 62 = q_72 ∧ a 63 = q_73 ∧ a 64 = q_74 ∧ a 65 = q_75 ∧ a 66 = q_76 ∧ a 67 = q_77 := ⟨fun k => (h0 :: q_1 :: q_3 :: q_5 :: q_11 :: q_17 :: q_23 :: q_28 :: q_33 :: q_34 :: q_35 :: q_48 :: q_61 :: q_63 :: q_64 :: q_65 :: q_66 :: q_67 :: q_68 :: q_69 :: u_2 :: u_4 :: q_7 :: q_8 :: q_9 :: q_10 :: q_13 :: q_14 :: q_15 :: q_16 :: q_19 :: q_20 :: q_21 :: q_22 :: 0 :: 0 :: 0 :: 0 :: 0 :: 0 :: 0 :: 0 :: 0 :: 0 :: 0 :: 0 :: 0 :: 0 :: 0 :: 0 :: q_50 :: q_51 :: q_52 :: q_53 :: q_54 :: q_55 :: q_56 :: q_57 :: q_58 :: 0 :: q_70 :: q_71 :: q_72 :: q_73 :: q_74 :: q_75 :: q_76 :: q_77 :: [] : List Nat).getD k 0, rfl, rfl, rfl, rfl, rfl, rfl, rfl, rfl, rfl, rfl, rfl, rfl, rfl, rfl, rfl, rfl, rfl, rfl, rfl, rfl, rfl, rfl, rfl, rfl, rfl, rfl, rfl, rfl, rfl, rfl, rfl, rfl, rfl, rfl, rfl, rfl, rfl, rfl, rfl, rfl, rfl, rfl, rfl, rfl, rfl, rfl, rfl, rfl, rfl, rfl, rfl⟩
  subst e0
  subst e1
  subst e2
  subst e3
  subst e4
  subst e5
  subst e6
  subst e7
  subst e8
  subst e9
  subst e10
  subst e11
  subst e12
  subst e13
  subst e14
  subst e15
  subst e16
  subst e17
  subst e18
  subst e19
  subst e20
  subst e21
  subst e22
  subst e23
  subst e24
  subst e25
  subst e26
  subst e27
  subst e28
  subst e29
  subst e30
  subst e31
  subst e32
  subst e33
  subst e50
  subst e51
  subst e52
  subst e53
  subst e54
  subst e55
  subst e56
  subst e57
  subst e58
  subst e60
  subst e61
  subst e62
  subst e63
  subst e64
  subst e65
  subst e66
  subst e67
  have hP9 := hP.sub (ws' := [((a 0), .inr (11, [.ref (a 1), .ref (a 2), .ref (a 3), .ref (a 4), .ref (a 5), .ref (a 6), .ref (a 7), .ref (a 8), .ref (a 9), .ref (a 10), .ref (a 11), .ref (a 12), .int 0])), ((a 1), .inr (9, [.ref (a 20), .int 0])), ((a 20), .inl (D.1 13, 1600, .inl (fun _ => 0))), ((a 2), .inr (6, [.int 0, .int (-1), .ref (a 1), .ref (a 21), .null, .int 0, .int 0, .int 0, .int 0, .int 0, .int 0, .int 0])), ((a 3), .inr (2, [.ref (a 22), .ref (a 23), .ref (a 24), .int 0, .ref (a 25), .int 0])), ((a 4), .inr (7, [.int 0, .ref (a 26), .ref (a 27), .ref (a 28), .int 0, .ref (a 29)])), ((a 5), .inr (4, [.ref (a 30), .int 0, .int 0, .ref (a 31), .ref (a 32), .ref (a 33)])), ((a 30), .inl (D.1 13, 1364, .inl (fun _ => 0))), ((a 8), .inl (D.1 15, 8, .inr (.inl (fun _ => 0)))), ((a 9), .inl (D.1 13, 6, .inl (fun _ => 0))), ((a 11), .inr (5, [.int 0, .int 0, .int 0, .int 0, .int 0, .int 0, .ref (a 50), .ref (a 51), .ref (a 52), .ref (a 53), .ref (a 54), .ref (a 55), .ref (a 56), .ref (a 57)])), ((a 55), .inr (0, [.ref (a 58), .int 0])), ((a 56), .inl (D.1 13, 3, .inl f_59)), ((a 57), .inl (D.1 13, 3, .inl f_60)), ((a 12), .inr (1, [.ref (a 13), .ref (a 14), .ref (a 15), .int 1, .ref (a 10), .ref (a 16), .ref (a 17), .ref (a 18), .ref (a 19)])), ((a 13), .inr (8, [.int 0, .int 0, .long 0, .ref (a 60), .ref (a 61), .ref (a 62), .ref (a 63), .ref (a 64), .ref (a 65), .ref (a 66), .ref (a 67)])), ((a 66), .inl (D.1 13, 8, .inl (fun _ => (-2)))), ((a 67), .inl (D.1 13, 8, .inl (fun _ => (-2))))]) [0, 1, 2, 3, 4, 5, 6, 7, 8, 9, 10, 11, 12, 13, 14, 15, 16, 17] rfl
  have hD9 := hD.sub (ws' := [((a 0), .inr (11, [.ref (a 1), .ref (a 2), .ref (a 3), .ref (a 4), .ref (a 5), .ref (a 6), .ref (a 7), .ref (a 8), .ref (a 9), .ref (a 10), .ref (a 11), .ref (a 12), .int 0])), ((a 1), .inr (9, [.ref (a 20), .int 0])), ((a 20), .inl (D.1 13, 1600, .inl (fun _ => 0))), ((a 2), .inr (6, [.int 0, .int (-1), .ref (a 1), .ref (a 21), .null, .int 0, .int 0, .int 0, .int 0, .int 0, .int 0, .int 0])), ((a 3), .inr (2, [.ref (a 22), .ref (a 23), .ref (a 24), .int 0, .ref (a 25), .int 0])), ((a 4), .inr (7, [.int 0, .ref (a 26), .ref (a 27), .ref (a 28), .int 0, .ref (a 29)])), ((a 5), .inr (4, [.ref (a 30), .int 0, .int 0, .ref (a 31), .ref (a 32), .ref (a 33)])), ((a 30), .inl (D.1 13, 1364, .inl (fun _ => 0))), ((a 8), .inl (D.1 15, 8, .inr (.inl (fun _ => 0)))), ((a 9), .inl (D.1 13, 6, .inl (fun _ => 0))), ((a 11), .inr (5, [.int 0, .int 0, .int 0, .int 0, .int 0, .int 0, .ref (a 50), .ref (a 51), .ref (a 52), .ref (a 53), .ref (a 54), .ref (a 55), .ref (a 56), .ref (a 57)])), ((a 55), .inr (0, [.ref (a 58), .int 0])), ((a 56), .inl (D.1 13, 3, .inl f_59)), ((a 57), .inl (D.1 13, 3, .inl f_60)), ((a 12), .inr (1, [.ref (a 13), .ref (a 14), .ref (a 15), .int 1, .ref (a 10), .ref (a 16), .ref (a 17), .ref (a 18), .ref (a 19)])), ((a 13), .inr (8, [.int 0, .int 0, .long 0, .ref (a 60), .ref (a 61), .ref (a 62), .ref (a 63), .ref (a 64), .ref (a 65), .ref (a 66), .ref (a 67)])), ((a 66), .inl (D.1 13, 8, .inl (fun _ => (-2)))), ((a 67), .inl (D.1 13, 8, .inl (fun _ => (-2))))]) [0, 1, 2, 3, 4, 5, 6, 7, 8, 9, 10, 11, 12, 13, 14, 15, 16, 17] (by decide) rfl
  refine W.widen (k := 82) (n := 11261) (Nat.le_of_ble_eq_true rfl) (Nat.le_of_ble_eq_true rfl) ?_
  exact W.vret hx hb hr (fun t ht hW => ⟨⟨(a, f_59, f_60), rfl, rfl, by rw [ht]; exact hP9, va_K.moved hW.alike hK, hD9⟩, hS.F ht⟩) hS.2.2 dX11_init_138
