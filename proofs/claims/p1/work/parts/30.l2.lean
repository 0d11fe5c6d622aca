theorem ml_L_99 : Cond.methodLink RL 99 yX11_victim ∈ lw_gd := zm (List.mem_of_getElem? (i := 1266) (by decide +kernel)) rfl
theorem im_X11_victim : Cond.instanceMethod yX11_victim ∈ lw_gd := zm (List.mem_of_getElem? (i := 1267) (by decide +kernel)) rfl
theorem se_X11_victim : Cond.selects RX11 yX11_victim yX11_victim ∈ lw_gd := zm (List.mem_of_getElem? (i := 1268) (by decide +kernel)) rfl
theorem co_X11_victim : Cond.code yX11_victim cX11_victim 7 (some .int) ∈ lw_gd := zm (List.mem_of_getElem? (i := 1269) (by decide +kernel)) rfl
theorem ml_L_102 : Cond.methodLink RL 102 yX12_victim ∈ lw_gd := zm (List.mem_of_getElem? (i := 2390) (by decide +kernel)) rfl
theorem im_X12_victim : Cond.instanceMethod yX12_victim ∈ lw_gd := zm (List.mem_of_getElem? (i := 2391) (by decide +kernel)) rfl
theorem se_X12_victim : Cond.selects RX12 yX12_victim yX12_victim ∈ lw_gd := zm (List.mem_of_getElem? (i := 2392) (by decide +kernel)) rfl
theorem co_X12_victim : Cond.code yX12_victim cX12_victim 6 (some .int) ∈ lw_gd := zm (List.mem_of_getElem? (i := 2393) (by decide +kernel)) rfl
theorem ml_L_103 : Cond.methodLink RL 103 yX11_room ∈ lw_gd := zm (List.mem_of_getElem? (i := 1270) (by decide +kernel)) rfl
theorem im_X11_room : Cond.instanceMethod yX11_room ∈ lw_gd := zm (List.mem_of_getElem? (i := 1271) (by decide +kernel)) rfl
theorem se_X11_room : Cond.selects RX11 yX11_room yX11_room ∈ lw_gd := zm (List.mem_of_getElem? (i := 1272) (by decide +kernel)) rfl
theorem co_X11_room : Cond.code yX11_room cX11_room 3 (some .int) ∈ lw_gd := zm (List.mem_of_getElem? (i := 1273) (by decide +kernel)) rfl
theorem ml_L_106 : Cond.methodLink RL 106 yX12_room ∈ lw_gd := zm (List.mem_of_getElem? (i := 2394) (by decide +kernel)) rfl
theorem im_X12_room : Cond.instanceMethod yX12_room ∈ lw_gd := zm (List.mem_of_getElem? (i := 2395) (by decide +kernel)) rfl
theorem se_X12_room : Cond.selects RX12 yX12_room yX12_room ∈ lw_gd := zm (List.mem_of_getElem? (i := 2396) (by decide +kernel)) rfl
theorem co_X12_room : Cond.code yX12_room cX12_room 4 (some .int) ∈ lw_gd := zm (List.mem_of_getElem? (i := 2397) (by decide +kernel)) rfl
theorem ml_L_107 : Cond.methodLink RL 107 yX11_back ∈ lw_gd := zm (List.mem_of_getElem? (i := 1278) (by decide +kernel)) rfl
theorem im_X11_back : Cond.instanceMethod yX11_back ∈ lw_gd := zm (List.mem_of_getElem? (i := 1279) (by decide +kernel)) rfl
theorem se_X11_back : Cond.selects RX11 yX11_back yX11_back ∈ lw_gd := zm (List.mem_of_getElem? (i := 1280) (by decide +kernel)) rfl
theorem co_X11_back : Cond.code yX11_back cX11_back 3 (some .int) ∈ lw_gd := zm (List.mem_of_getElem? (i := 1281) (by decide +kernel)) rfl
theorem ml_L_110 : Cond.methodLink RL 110 yX12_back ∈ lw_gd := zm (List.mem_of_getElem? (i := 2398) (by decide +kernel)) rfl
theorem im_X12_back : Cond.instanceMethod yX12_back ∈ lw_gd := zm (List.mem_of_getElem? (i := 2399) (by decide +kernel)) rfl
theorem se_X12_back : Cond.selects RX12 yX12_back yX12_back ∈ lw_gd := zm (List.mem_of_getElem? (i := 2400) (by decide +kernel)) rfl
theorem co_X12_back : Cond.code yX12_back cX12_back 2 (some .int) ∈ lw_gd := zm (List.mem_of_getElem? (i := 2401) (by decide +kernel)) rfl
theorem ml_L_111 : Cond.methodLink RL 111 yX11_see ∈ lw_gd := zm (List.mem_of_getElem? (i := 1282) (by decide +kernel)) rfl
theorem im_X11_see : Cond.instanceMethod yX11_see ∈ lw_gd := zm (List.mem_of_getElem? (i := 1283) (by decide +kernel)) rfl
theorem se_X11_see : Cond.selects RX11 yX11_see yX11_see ∈ lw_gd := zm (List.mem_of_getElem? (i := 1284) (by decide +kernel)) rfl
theorem co_X11_see : Cond.code yX11_see cX11_see 2 (some .int) ∈ lw_gd := zm (List.mem_of_getElem? (i := 1285) (by decide +kernel)) rfl
theorem ml_L_114 : Cond.methodLink RL 114 yX12_see ∈ lw_gd := zm (List.mem_of_getElem? (i := 2402) (by decide +kernel)) rfl
theorem im_X12_see : Cond.instanceMethod yX12_see ∈ lw_gd := zm (List.mem_of_getElem? (i := 2403) (by decide +kernel)) rfl
theorem se_X12_see : Cond.selects RX12 yX12_see yX12_see ∈ lw_gd := zm (List.mem_of_getElem? (i := 2404) (by decide +kernel)) rfl
theorem co_X12_see : Cond.code yX12_see cX12_see 4 (some .int) ∈ lw_gd := zm (List.mem_of_getElem? (i := 2405) (by decide +kernel)) rfl
theorem ml_L_115 : Cond.methodLink RL 115 yX11_fits ∈ lw_gd := zm (List.mem_of_getElem? (i := 1295) (by decide +kernel)) rfl
theorem im_X11_fits : Cond.instanceMethod yX11_fits ∈ lw_gd := zm (List.mem_of_getElem? (i := 1296) (by decide +kernel)) rfl
theorem se_X11_fits : Cond.selects RX11 yX11_fits yX11_fits ∈ lw_gd := zm (List.mem_of_getElem? (i := 1297) (by decide +kernel)) rfl
theorem co_X11_fits : Cond.code yX11_fits cX11_fits 3 (some .int) ∈ lw_gd := zm (List.mem_of_getElem? (i := 1298) (by decide +kernel)) rfl
theorem ml_L_118 : Cond.methodLink RL 118 yX12_fits ∈ lw_gd := zm (List.mem_of_getElem? (i := 2406) (by decide +kernel)) rfl
theorem ml_L_119 : Cond.methodLink RL 119 yX11_tells ∈ lw_gd := zm (List.mem_of_getElem? (i := 1312) (by decide +kernel)) rfl
theorem im_X11_tells : Cond.instanceMethod yX11_tells ∈ lw_gd := zm (List.mem_of_getElem? (i := 1313) (by decide +kernel)) rfl
theorem se_X11_tells : Cond.selects RX11 yX11_tells yX11_tells ∈ lw_gd := zm (List.mem_of_getElem? (i := 1314) (by decide +kernel)) rfl
theorem co_X11_tells : Cond.code yX11_tells cX11_tells 6 (some .int) ∈ lw_gd := zm (List.mem_of_getElem? (i := 1315) (by decide +kernel)) rfl
theorem ml_L_122 : Cond.methodLink RL 122 yX12_tells ∈ lw_gd := zm (List.mem_of_getElem? (i := 2418) (by decide +kernel)) rfl
theorem im_X12_tells : Cond.instanceMethod yX12_tells ∈ lw_gd := zm (List.mem_of_getElem? (i := 2419) (by decide +kernel)) rfl
theorem se_X12_tells : Cond.selects RX12 yX12_tells yX12_tells ∈ lw_gd := zm (List.mem_of_getElem? (i := 2420) (by decide +kernel)) rfl
theorem co_X12_tells : Cond.code yX12_tells cX12_tells 6 (some .int) ∈ lw_gd := zm (List.mem_of_getElem? (i := 2421) (by decide +kernel)) rfl
theorem ml_L_123 : Cond.methodLink RL 123 yX11_put ∈ lw_gd := zm (List.mem_of_getElem? (i := 1321) (by decide +kernel)) rfl
theorem im_X11_put : Cond.instanceMethod yX11_put ∈ lw_gd := zm (List.mem_of_getElem? (i := 1322) (by decide +kernel)) rfl
theorem se_X11_put : Cond.selects RX11 yX11_put yX11_put ∈ lw_gd := zm (List.mem_of_getElem? (i := 1323) (by decide +kernel)) rfl
theorem co_X11_put : Cond.code yX11_put cX11_put 4 (some .int) ∈ lw_gd := zm (List.mem_of_getElem? (i := 1324) (by decide +kernel)) rfl
theorem ml_L_126 : Cond.methodLink RL 126 yX12_put ∈ lw_gd := zm (List.mem_of_getElem? (i := 2431) (by decide +kernel)) rfl
theorem im_X12_put : Cond.instanceMethod yX12_put ∈ lw_gd := zm (List.mem_of_getElem? (i := 2432) (by decide +kernel)) rfl
theorem se_X12_put : Cond.selects RX12 yX12_put yX12_put ∈ lw_gd := zm (List.mem_of_getElem? (i := 2433) (by decide +kernel)) rfl
theorem co_X12_put : Cond.code yX12_put cX12_put 4 (some .int) ∈ lw_gd := zm (List.mem_of_getElem? (i := 2434) (by decide +kernel)) rfl
theorem ml_L_127 : Cond.methodLink RL 127 yX11_remove ∈ lw_gd := zm (List.mem_of_getElem? (i := 1346) (by decide +kernel)) rfl
theorem im_X11_remove : Cond.instanceMethod yX11_remove ∈ lw_gd := zm (List.mem_of_getElem? (i := 1347) (by decide +kernel)) rfl
theorem se_X11_remove : Cond.selects RX11 yX11_remove yX11_remove ∈ lw_gd := zm (List.mem_of_getElem? (i := 1348) (by decide +kernel)) rfl
theorem co_X11_remove : Cond.code yX11_remove cX11_remove 3 (some .int) ∈ lw_gd := zm (List.mem_of_getElem? (i := 1349) (by decide +kernel)) rfl
theorem ml_L_130 : Cond.methodLink RL 130 yX12_remove ∈ lw_gd := zm (List.mem_of_getElem? (i := 2448) (by decide +kernel)) rfl
theorem im_X12_remove : Cond.instanceMethod yX12_remove ∈ lw_gd := zm (List.mem_of_getElem? (i := 2449) (by decide +kernel)) rfl
theorem se_X12_remove : Cond.selects RX12 yX12_remove yX12_remove ∈ lw_gd := zm (List.mem_of_getElem? (i := 2450) (by decide +kernel)) rfl
theorem co_X12_remove : Cond.code yX12_remove cX12_remove 3 (some .int) ∈ lw_gd := zm (List.mem_of_getElem? (i := 2451) (by decide +kernel)) rfl
theorem ml_L_131 : Cond.methodLink RL 131 yX11_copy ∈ lw_gd := zm (List.mem_of_getElem? (i := 1351) (by decide +kernel)) rfl
theorem im_X11_copy : Cond.instanceMethod yX11_copy ∈ lw_gd := zm (List.mem_of_getElem? (i := 1352) (by decide +kernel)) rfl
theorem se_X11_copy : Cond.selects RX11 yX11_copy yX11_copy ∈ lw_gd := zm (List.mem_of_getElem? (i := 1353) (by decide +kernel)) rfl
theorem co_X11_copy : Cond.code yX11_copy cX11_copy 3 (some .int) ∈ lw_gd := zm (List.mem_of_getElem? (i := 1354) (by decide +kernel)) rfl
theorem ml_L_134 : Cond.methodLink RL 134 yX12_copy ∈ lw_gd := zm (List.mem_of_getElem? (i := 2452) (by decide +kernel)) rfl
theorem im_X12_copy : Cond.instanceMethod yX12_copy ∈ lw_gd := zm (List.mem_of_getElem? (i := 2453) (by decide +kernel)) rfl
theorem se_X12_copy : Cond.selects RX12 yX12_copy yX12_copy ∈ lw_gd := zm (List.mem_of_getElem? (i := 2454) (by decide +kernel)) rfl
theorem co_X12_copy : Cond.code yX12_copy cX12_copy 3 (some .int) ∈ lw_gd := zm (List.mem_of_getElem? (i := 2455) (by decide +kernel)) rfl
theorem ml_L_135 : Cond.methodLink RL 135 yX11_drop ∈ lw_gd := zm (List.mem_of_getElem? (i := 1360) (by decide +kernel)) rfl
theorem im_X11_drop : Cond.instanceMethod yX11_drop ∈ lw_gd := zm (List.mem_of_getElem? (i := 1361) (by decide +kernel)) rfl
theorem se_X11_drop : Cond.selects RX11 yX11_drop yX11_drop ∈ lw_gd := zm (List.mem_of_getElem? (i := 1362) (by decide +kernel)) rfl
theorem co_X11_drop : Cond.code yX11_drop cX11_drop 3 (some .int) ∈ lw_gd := zm (List.mem_of_getElem? (i := 1363) (by decide +kernel)) rfl
theorem ml_L_138 : Cond.methodLink RL 138 yX12_drop ∈ lw_gd := zm (List.mem_of_getElem? (i := 2460) (by decide +kernel)) rfl
theorem im_X12_drop : Cond.instanceMethod yX12_drop ∈ lw_gd := zm (List.mem_of_getElem? (i := 2461) (by decide +kernel)) rfl
theorem se_X12_drop : Cond.selects RX12 yX12_drop yX12_drop ∈ lw_gd := zm (List.mem_of_getElem? (i := 2462) (by decide +kernel)) rfl
theorem co_X12_drop : Cond.code yX12_drop cX12_drop 3 (some .int) ∈ lw_gd := zm (List.mem_of_getElem? (i := 2463) (by decide +kernel)) rfl
theorem dL_law_878 : decode cL_law 878 = .ok (.aload_n 1, 1) := by decide +kernel
theorem dL_law_879 : decode cL_law 879 = .ok (.aload_n 0, 1) := by decide +kernel
theorem dL_law_880 : decode cL_law 880 = .ok (.iload_n 3, 1) := by decide +kernel
theorem dL_law_881 : decode cL_law 881 = .ok (.iconst 1, 1) := by decide +kernel
theorem dL_law_882 : decode cL_law 882 = .ok (.iadd, 1) := by decide +kernel
theorem dL_law_883 : decode cL_law 883 = .ok (.iaload, 1) := by decide +kernel
theorem dL_law_884 : decode cL_law 884 = .ok (.invokevirtual 99, 3) := by decide +kernel
theorem dL_law_887 : decode cL_law 887 = .ok (.aload_n 2, 1) := by decide +kernel
theorem dL_law_888 : decode cL_law 888 = .ok (.aload_n 0, 1) := by decide +kernel
theorem dL_law_889 : decode cL_law 889 = .ok (.iload_n 3, 1) := by decide +kernel
theorem dL_law_890 : decode cL_law 890 = .ok (.iconst 1, 1) := by decide +kernel
theorem dL_law_891 : decode cL_law 891 = .ok (.iadd, 1) := by decide +kernel
theorem dL_law_892 : decode cL_law 892 = .ok (.iaload, 1) := by decide +kernel
theorem dL_law_893 : decode cL_law 893 = .ok (.invokevirtual 102, 3) := by decide +kernel
theorem dL_law_896 : decode cL_law 896 = .ok (.if_icmp .eq 403, 3) := by decide +kernel
theorem dL_law_901 : decode cL_law 901 = .ok (.aload_n 1, 1) := by decide +kernel
theorem dL_law_902 : decode cL_law 902 = .ok (.aload_n 0, 1) := by decide +kernel
theorem dL_law_903 : decode cL_law 903 = .ok (.iload_n 3, 1) := by decide +kernel
theorem dL_law_904 : decode cL_law 904 = .ok (.iconst 1, 1) := by decide +kernel
theorem dL_law_905 : decode cL_law 905 = .ok (.iadd, 1) := by decide +kernel
theorem dL_law_906 : decode cL_law 906 = .ok (.iaload, 1) := by decide +kernel
theorem dL_law_907 : decode cL_law 907 = .ok (.invokevirtual 103, 3) := by decide +kernel
theorem dL_law_910 : decode cL_law 910 = .ok (.aload_n 2, 1) := by decide +kernel
theorem dL_law_911 : decode cL_law 911 = .ok (.aload_n 0, 1) := by decide +kernel
theorem dL_law_912 : decode cL_law 912 = .ok (.iload_n 3, 1) := by decide +kernel
theorem dL_law_913 : decode cL_law 913 = .ok (.iconst 1, 1) := by decide +kernel
theorem dL_law_914 : decode cL_law 914 = .ok (.iadd, 1) := by decide +kernel
theorem dL_law_915 : decode cL_law 915 = .ok (.iaload, 1) := by decide +kernel
theorem dL_law_916 : decode cL_law 916 = .ok (.invokevirtual 106, 3) := by decide +kernel
theorem dL_law_919 : decode cL_law 919 = .ok (.if_icmp .eq 380, 3) := by decide +kernel
theorem dL_law_924 : decode cL_law 924 = .ok (.aload_n 1, 1) := by decide +kernel
theorem dL_law_925 : decode cL_law 925 = .ok (.aload_n 0, 1) := by decide +kernel
theorem dL_law_926 : decode cL_law 926 = .ok (.iload_n 3, 1) := by decide +kernel
theorem dL_law_927 : decode cL_law 927 = .ok (.iconst 1, 1) := by decide +kernel
theorem dL_law_928 : decode cL_law 928 = .ok (.iadd, 1) := by decide +kernel
theorem dL_law_929 : decode cL_law 929 = .ok (.iaload, 1) := by decide +kernel
theorem dL_law_930 : decode cL_law 930 = .ok (.invokevirtual 107, 3) := by decide +kernel
theorem dL_law_933 : decode cL_law 933 = .ok (.aload_n 2, 1) := by decide +kernel
theorem dL_law_934 : decode cL_law 934 = .ok (.aload_n 0, 1) := by decide +kernel
theorem dL_law_935 : decode cL_law 935 = .ok (.iload_n 3, 1) := by decide +kernel
theorem dL_law_936 : decode cL_law 936 = .ok (.iconst 1, 1) := by decide +kernel
theorem dL_law_937 : decode cL_law 937 = .ok (.iadd, 1) := by decide +kernel
theorem dL_law_938 : decode cL_law 938 = .ok (.iaload, 1) := by decide +kernel
theorem dL_law_939 : decode cL_law 939 = .ok (.invokevirtual 110, 3) := by decide +kernel
theorem dL_law_942 : decode cL_law 942 = .ok (.if_icmp .eq 357, 3) := by decide +kernel
theorem dL_law_947 : decode cL_law 947 = .ok (.aload_n 1, 1) := by decide +kernel
theorem dL_law_948 : decode cL_law 948 = .ok (.invokevirtual 111, 3) := by decide +kernel
theorem dL_law_951 : decode cL_law 951 = .ok (.aload_n 2, 1) := by decide +kernel
theorem dL_law_952 : decode cL_law 952 = .ok (.invokevirtual 114, 3) := by decide +kernel
theorem dL_law_955 : decode cL_law 955 = .ok (.if_icmp .eq 344, 3) := by decide +kernel
theorem dL_law_960 : decode cL_law 960 = .ok (.aload_n 1, 1) := by decide +kernel
theorem dL_law_961 : decode cL_law 961 = .ok (.aload_n 0, 1) := by decide +kernel
theorem dL_law_962 : decode cL_law 962 = .ok (.iload_n 3, 1) := by decide +kernel
theorem dL_law_963 : decode cL_law 963 = .ok (.iconst 1, 1) := by decide +kernel
theorem dL_law_964 : decode cL_law 964 = .ok (.iadd, 1) := by decide +kernel
theorem dL_law_965 : decode cL_law 965 = .ok (.iaload, 1) := by decide +kernel
theorem dL_law_966 : decode cL_law 966 = .ok (.invokevirtual 115, 3) := by decide +kernel
theorem dL_law_969 : decode cL_law 969 = .ok (.aload_n 2, 1) := by decide +kernel
theorem dL_law_970 : decode cL_law 970 = .ok (.aload_n 0, 1) := by decide +kernel
theorem dL_law_971 : decode cL_law 971 = .ok (.iload_n 3, 1) := by decide +kernel
theorem dL_law_972 : decode cL_law 972 = .ok (.iconst 1, 1) := by decide +kernel
theorem dL_law_973 : decode cL_law 973 = .ok (.iadd, 1) := by decide +kernel
theorem dL_law_974 : decode cL_law 974 = .ok (.iaload, 1) := by decide +kernel
theorem dL_law_975 : decode cL_law 975 = .ok (.invokevirtual 118, 3) := by decide +kernel
theorem dL_law_978 : decode cL_law 978 = .ok (.if_icmp .eq 321, 3) := by decide +kernel
theorem dL_law_983 : decode cL_law 983 = .ok (.aload_n 1, 1) := by decide +kernel
theorem dL_law_984 : decode cL_law 984 = .ok (.aload_n 0, 1) := by decide +kernel
theorem dL_law_985 : decode cL_law 985 = .ok (.iload_n 3, 1) := by decide +kernel
theorem dL_law_986 : decode cL_law 986 = .ok (.iconst 1, 1) := by decide +kernel
theorem dL_law_987 : decode cL_law 987 = .ok (.iadd, 1) := by decide +kernel
theorem dL_law_988 : decode cL_law 988 = .ok (.iaload, 1) := by decide +kernel
theorem dL_law_989 : decode cL_law 989 = .ok (.invokevirtual 119, 3) := by decide +kernel
theorem dL_law_992 : decode cL_law 992 = .ok (.aload_n 2, 1) := by decide +kernel
theorem dL_law_993 : decode cL_law 993 = .ok (.aload_n 0, 1) := by decide +kernel
theorem dL_law_994 : decode cL_law 994 = .ok (.iload_n 3, 1) := by decide +kernel
theorem dL_law_995 : decode cL_law 995 = .ok (.iconst 1, 1) := by decide +kernel
theorem dL_law_996 : decode cL_law 996 = .ok (.iadd, 1) := by decide +kernel
theorem dL_law_997 : decode cL_law 997 = .ok (.iaload, 1) := by decide +kernel
theorem dL_law_998 : decode cL_law 998 = .ok (.invokevirtual 122, 3) := by decide +kernel
theorem dL_law_1001 : decode cL_law 1001 = .ok (.if_icmp .eq 298, 3) := by decide +kernel
theorem dL_law_1006 : decode cL_law 1006 = .ok (.aload_n 1, 1) := by decide +kernel
theorem dL_law_1007 : decode cL_law 1007 = .ok (.aload_n 0, 1) := by decide +kernel
theorem dL_law_1008 : decode cL_law 1008 = .ok (.iload_n 3, 1) := by decide +kernel
theorem dL_law_1009 : decode cL_law 1009 = .ok (.iconst 1, 1) := by decide +kernel
theorem dL_law_1010 : decode cL_law 1010 = .ok (.iadd, 1) := by decide +kernel
theorem dL_law_1011 : decode cL_law 1011 = .ok (.iaload, 1) := by decide +kernel
theorem dL_law_1012 : decode cL_law 1012 = .ok (.aload_n 0, 1) := by decide +kernel
theorem dL_law_1013 : decode cL_law 1013 = .ok (.iload_n 3, 1) := by decide +kernel
theorem dL_law_1014 : decode cL_law 1014 = .ok (.iconst 2, 1) := by decide +kernel
theorem dL_law_1015 : decode cL_law 1015 = .ok (.iadd, 1) := by decide +kernel
theorem dL_law_1016 : decode cL_law 1016 = .ok (.iaload, 1) := by decide +kernel
theorem dL_law_1017 : decode cL_law 1017 = .ok (.aload_n 0, 1) := by decide +kernel
theorem dL_law_1018 : decode cL_law 1018 = .ok (.iload_n 3, 1) := by decide +kernel
theorem dL_law_1019 : decode cL_law 1019 = .ok (.iconst 3, 1) := by decide +kernel
theorem dL_law_1020 : decode cL_law 1020 = .ok (.iadd, 1) := by decide +kernel
theorem dL_law_1021 : decode cL_law 1021 = .ok (.iaload, 1) := by decide +kernel
theorem dL_law_1022 : decode cL_law 1022 = .ok (.invokevirtual 123, 3) := by decide +kernel
theorem dL_law_1025 : decode cL_law 1025 = .ok (.aload_n 2, 1) := by decide +kernel
theorem dL_law_1026 : decode cL_law 1026 = .ok (.aload_n 0, 1) := by decide +kernel
theorem dL_law_1027 : decode cL_law 1027 = .ok (.iload_n 3, 1) := by decide +kernel
theorem dL_law_1028 : decode cL_law 1028 = .ok (.iconst 1, 1) := by decide +kernel
theorem dL_law_1029 : decode cL_law 1029 = .ok (.iadd, 1) := by decide +kernel
theorem dL_law_1030 : decode cL_law 1030 = .ok (.iaload, 1) := by decide +kernel
theorem dL_law_1031 : decode cL_law 1031 = .ok (.aload_n 0, 1) := by decide +kernel
theorem dL_law_1032 : decode cL_law 1032 = .ok (.iload_n 3, 1) := by decide +kernel
theorem dL_law_1033 : decode cL_law 1033 = .ok (.iconst 2, 1) := by decide +kernel
theorem dL_law_1034 : decode cL_law 1034 = .ok (.iadd, 1) := by decide +kernel
theorem dL_law_1035 : decode cL_law 1035 = .ok (.iaload, 1) := by decide +kernel
theorem dL_law_1036 : decode cL_law 1036 = .ok (.aload_n 0, 1) := by decide +kernel
theorem dL_law_1037 : decode cL_law 1037 = .ok (.iload_n 3, 1) := by decide +kernel
theorem dL_law_1038 : decode cL_law 1038 = .ok (.iconst 3, 1) := by decide +kernel
theorem dL_law_1039 : decode cL_law 1039 = .ok (.iadd, 1) := by decide +kernel
theorem dL_law_1040 : decode cL_law 1040 = .ok (.iaload, 1) := by decide +kernel
theorem dL_law_1041 : decode cL_law 1041 = .ok (.invokevirtual 126, 3) := by decide +kernel
theorem dL_law_1044 : decode cL_law 1044 = .ok (.if_icmp .eq 255, 3) := by decide +kernel
theorem dL_law_1049 : decode cL_law 1049 = .ok (.aload_n 1, 1) := by decide +kernel
theorem dL_law_1050 : decode cL_law 1050 = .ok (.aload_n 0, 1) := by decide +kernel
theorem dL_law_1051 : decode cL_law 1051 = .ok (.iload_n 3, 1) := by decide +kernel
theorem dL_law_1052 : decode cL_law 1052 = .ok (.iconst 1, 1) := by decide +kernel
theorem dL_law_1053 : decode cL_law 1053 = .ok (.iadd, 1) := by decide +kernel
theorem dL_law_1054 : decode cL_law 1054 = .ok (.iaload, 1) := by decide +kernel
theorem dL_law_1055 : decode cL_law 1055 = .ok (.aload_n 0, 1) := by decide +kernel
theorem dL_law_1056 : decode cL_law 1056 = .ok (.iload_n 3, 1) := by decide +kernel
theorem dL_law_1057 : decode cL_law 1057 = .ok (.iconst 2, 1) := by decide +kernel
theorem dL_law_1058 : decode cL_law 1058 = .ok (.iadd, 1) := by decide +kernel
theorem dL_law_1059 : decode cL_law 1059 = .ok (.iaload, 1) := by decide +kernel
theorem dL_law_1060 : decode cL_law 1060 = .ok (.invokevirtual 127, 3) := by decide +kernel
theorem dL_law_1063 : decode cL_law 1063 = .ok (.aload_n 2, 1) := by decide +kernel
theorem dL_law_1064 : decode cL_law 1064 = .ok (.aload_n 0, 1) := by decide +kernel
theorem dL_law_1065 : decode cL_law 1065 = .ok (.iload_n 3, 1) := by decide +kernel
theorem dL_law_1066 : decode cL_law 1066 = .ok (.iconst 1, 1) := by decide +kernel
theorem dL_law_1067 : decode cL_law 1067 = .ok (.iadd, 1) := by decide +kernel
theorem dL_law_1068 : decode cL_law 1068 = .ok (.iaload, 1) := by decide +kernel
theorem dL_law_1069 : decode cL_law 1069 = .ok (.aload_n 0, 1) := by decide +kernel
theorem dL_law_1070 : decode cL_law 1070 = .ok (.iload_n 3, 1) := by decide +kernel
theorem dL_law_1071 : decode cL_law 1071 = .ok (.iconst 2, 1) := by decide +kernel
theorem dL_law_1072 : decode cL_law 1072 = .ok (.iadd, 1) := by decide +kernel
theorem dL_law_1073 : decode cL_law 1073 = .ok (.iaload, 1) := by decide +kernel
theorem dL_law_1074 : decode cL_law 1074 = .ok (.invokevirtual 130, 3) := by decide +kernel
theorem dL_law_1077 : decode cL_law 1077 = .ok (.if_icmp .eq 222, 3) := by decide +kernel
theorem dL_law_1082 : decode cL_law 1082 = .ok (.aload_n 1, 1) := by decide +kernel
theorem dL_law_1083 : decode cL_law 1083 = .ok (.aload_n 0, 1) := by decide +kernel
theorem dL_law_1084 : decode cL_law 1084 = .ok (.iload_n 3, 1) := by decide +kernel
theorem dL_law_1085 : decode cL_law 1085 = .ok (.iconst 1, 1) := by decide +kernel
theorem dL_law_1086 : decode cL_law 1086 = .ok (.iadd, 1) := by decide +kernel
theorem dL_law_1087 : decode cL_law 1087 = .ok (.iaload, 1) := by decide +kernel
theorem dL_law_1088 : decode cL_law 1088 = .ok (.invokevirtual 131, 3) := by decide +kernel
theorem dL_law_1091 : decode cL_law 1091 = .ok (.aload_n 2, 1) := by decide +kernel
theorem dL_law_1092 : decode cL_law 1092 = .ok (.aload_n 0, 1) := by decide +kernel
theorem dL_law_1093 : decode cL_law 1093 = .ok (.iload_n 3, 1) := by decide +kernel
theorem dL_law_1094 : decode cL_law 1094 = .ok (.iconst 1, 1) := by decide +kernel
theorem dL_law_1095 : decode cL_law 1095 = .ok (.iadd, 1) := by decide +kernel
theorem dL_law_1096 : decode cL_law 1096 = .ok (.iaload, 1) := by decide +kernel
theorem dL_law_1097 : decode cL_law 1097 = .ok (.invokevirtual 134, 3) := by decide +kernel
theorem dL_law_1100 : decode cL_law 1100 = .ok (.if_icmp .eq 199, 3) := by decide +kernel
theorem dL_law_1105 : decode cL_law 1105 = .ok (.aload_n 1, 1) := by decide +kernel
theorem dL_law_1106 : decode cL_law 1106 = .ok (.aload_n 0, 1) := by decide +kernel
theorem dL_law_1107 : decode cL_law 1107 = .ok (.iload_n 3, 1) := by decide +kernel
theorem dL_law_1108 : decode cL_law 1108 = .ok (.iconst 1, 1) := by decide +kernel
theorem dL_law_1109 : decode cL_law 1109 = .ok (.iadd, 1) := by decide +kernel
theorem dL_law_1110 : decode cL_law 1110 = .ok (.iaload, 1) := by decide +kernel
theorem dL_law_1111 : decode cL_law 1111 = .ok (.invokevirtual 135, 3) := by decide +kernel
theorem dL_law_1114 : decode cL_law 1114 = .ok (.aload_n 2, 1) := by decide +kernel
theorem dL_law_1115 : decode cL_law 1115 = .ok (.aload_n 0, 1) := by decide +kernel
theorem dL_law_1116 : decode cL_law 1116 = .ok (.iload_n 3, 1) := by decide +kernel
theorem dL_law_1117 : decode cL_law 1117 = .ok (.iconst 1, 1) := by decide +kernel
theorem dL_law_1118 : decode cL_law 1118 = .ok (.iadd, 1) := by decide +kernel
theorem dL_law_1119 : decode cL_law 1119 = .ok (.iaload, 1) := by decide +kernel
theorem dL_law_1120 : decode cL_law 1120 = .ok (.invokevirtual 138, 3) := by decide +kernel
theorem dL_law_1123 : decode cL_law 1123 = .ok (.if_icmp .eq 176, 3) := by decide +kernel
set_option maxHeartbeats 4000000 in
set_option maxRecDepth 100000 in
/-- victim -/
theorem lc_20 {p : Program} (l : Launch) {e : Env} {s : State} {m : MethodId} {below : List Frame} {meth : Method} {c : Code} {b : Nat} {xs : Nat → Int32} {H : Heap} {locs : List Loc} {ls : Array Slot} {A : Nat → Prop} {D : va_G} {ax am : Nat → Nat} (hx : p.tables.exec = Jvm.exec) (hb : c.code = cL_law) (hr : meth.sig.returnType = ret) (hlocks : meth.locks = false) (hml : c.maxLocals = 4) (hown : s.vm.findClass RL = some m.cls) (ht : ∀ w ∈ lw_gd, w.before #[Value.ref b] s = true) (hX : va_X b 6 xs s s.heap) (hbl : b < s.heap.size) (hA : ∀ q, s.heap.size ≤ q → A q) (hAs : ∀ q, A q → s.heap.size ≤ q) (hK : va_K D vwCl (TY D) s) (hP : va_P D vwCl [((ax 0), .inr (11, [.ref (ax 1), .ref (ax 2), .ref (ax 3), .ref (ax 4), .ref (ax 5), .ref (ax 6), .ref (ax 7), .ref (ax 8), .ref (ax 9), .ref (ax 10), .ref (ax 11), .ref (ax 12), .int 0])), ((ax 12), .inr (1, [.ref (ax 13), .ref (ax 14), .ref (ax 15), .int 1, .ref (ax 10), .ref (ax 16), .ref (ax 17), .ref (ax 18), .ref (ax 19)])), ((ax 13), .inr (8, [.int 0, .int 0, .long 0, .ref (ax 60), .ref (ax 61), .ref (ax 62), .ref (ax 63), .ref (ax 64), .ref (ax 65), .ref (ax 66), .ref (ax 67)])), ((ax 66), .inl (D.1 13, 8, .inl (fun _ => (-2)))), ((am 200), .inr (12, mO am 0 0 0 0 0 0 0 (-1) 0 0 1 0))] H) (hD : va_D A [((ax 0), .inr (11, [.ref (ax 1), .ref (ax 2), .ref (ax 3), .ref (ax 4), .ref (ax 5), .ref (ax 6), .ref (ax 7), .ref (ax 8), .ref (ax 9), .ref (ax 10), .ref (ax 11), .ref (ax 12), .int 0])), ((ax 12), .inr (1, [.ref (ax 13), .ref (ax 14), .ref (ax 15), .int 1, .ref (ax 10), .ref (ax 16), .ref (ax 17), .ref (ax 18), .ref (ax 19)])), ((ax 13), .inr (8, [.int 0, .int 0, .long 0, .ref (ax 60), .ref (ax 61), .ref (ax 62), .ref (ax 63), .ref (ax 64), .ref (ax 65), .ref (ax 66), .ref (ax 67)])), ((ax 66), .inl (D.1 13, 8, .inl (fun _ => (-2)))), ((am 200), .inr (12, mO am 0 0 0 0 0 0 0 (-1) 0 0 1 0))]) (hS : va_S A s.heap H locs) (hl : lv_has ls 4 [(3, .int 0), (2, .ref (am 200)), (1, .ref (ax 0)), (0, .ref b)]) : W p l e room_1 s m #[Value.ref b] below meth c H locs 164 46440 (lw_Z below #[Value.ref b] s) (F0 m 878 ls []) := by
  have hbA : ¬ A b := fun h => absurd (hAs b h) (Nat.not_le.mpr hbl)
  refine lv_aload_n hx hb dL_law_878 rfl (lv_at hl 2 rfl) ?_
  refine lv_aload_n hx hb dL_law_879 rfl (lv_at hl 3 rfl) ?_
  refine lv_iload_n hx hb dL_law_880 rfl (lv_at hl 0 rfl) ?_
  refine lv_iconst (v := 1) hx hb dL_law_881 (by decide) ?_
  refine lv_iadd hx hb dL_law_882 ?_
  refine z_topi (y := 1) (by decide) ?_
  refine va_sld hx hb hX hbl hbA hS (z_in (by decide) (by decide)) dL_law_883 ?_
  refine lv_topi (fun p1 e1 => ?_)
  refine zcV (As := [.int p1]) (rest := []) (C := RX11) (n := 1) ⟨hx, hb, hml, hown, ht⟩ (k_X11_victim l D ax p1) (zgV ml_L_99 im_X11_victim se_X11_victim in_X11 co_X11_victim) rfl rfl (by decide +kernel) ⟨Nat.le_of_ble_eq_true rfl, Nat.le_of_ble_eq_true rfl⟩ hK hP hS [0, 1, 2, 3] rfl 0 rfl rfl rfl rfl hl.1 rfl (Nat.le_of_ble_eq_true rfl) dL_law_884 ⟨Nat.le_of_ble_eq_true rfl, Nat.le_of_ble_eq_true rfl⟩ (fun r_1 H locs hw hP hS => ?_)
  subst hw
  refine lv_aload_n hx hb dL_law_887 rfl (lv_at hl 1 rfl) ?_
  refine lv_aload_n hx hb dL_law_888 rfl (lv_at hl 3 rfl) ?_
  refine lv_iload_n hx hb dL_law_889 rfl (lv_at hl 0 rfl) ?_
  refine lv_iconst (v := 1) hx hb dL_law_890 (by decide) ?_
  refine lv_iadd hx hb dL_law_891 ?_
  refine z_topi (y := 1) (by decide) ?_
  refine va_sld hx hb hX hbl hbA hS (z_in (by decide) (by decide)) dL_law_892 ?_
  refine z_topi (y := p1) e1.symm ?_
  refine zcV (As := [.int p1]) (rest := [.int (-1)]) (C := RX12) (n := 1) ⟨hx, hb, hml, hown, ht⟩ (k_X12_victim l D am p1) (zgV ml_L_102 im_X12_victim se_X12_victim in_X12 co_X12_victim) rfl rfl (by decide +kernel) ⟨Nat.le_of_ble_eq_true rfl, Nat.le_of_ble_eq_true rfl⟩ hK hP hS [4] rfl 0 rfl rfl rfl rfl hl.1 rfl (Nat.le_of_ble_eq_true rfl) dL_law_893 ⟨Nat.le_of_ble_eq_true rfl, Nat.le_of_ble_eq_true rfl⟩ (fun r_2 H locs hw hP hS => ?_)
  subst hw
  refine lv_icmp_eq (tgt := 1299) hx hb dL_law_896 (by decide) (fun _ => ?_) (fun c_3 => (z_abs c_3 (by decide)).elim)
  exact lc_end hx hb hr hlocks hX hbl hAs hS (lv_sub hl [0, 3] rfl) (Nat.le_of_ble_eq_true rfl) (Nat.le_of_ble_eq_true rfl)
set_option maxHeartbeats 4000000 in
set_option maxRecDepth 100000 in
/-- room -/
theorem lc_21 {p : Program} (l : Launch) {e : Env} {s : State} {m : MethodId} {below : List Frame} {meth : Method} {c : Code} {b : Nat} {xs : Nat → Int32} {H : Heap} {locs : List Loc} {ls : Array Slot} {A : Nat → Prop} {D : va_G} {ax am : Nat → Nat} (hx : p.tables.exec = Jvm.exec) (hb : c.code = cL_law) (hr : meth.sig.returnType = ret) (hlocks : meth.locks = false) (hml : c.maxLocals = 4) (hown : s.vm.findClass RL = some m.cls) (ht : ∀ w ∈ lw_gd, w.before #[Value.ref b] s = true) (hX : va_X b 6 xs s s.heap) (hbl : b < s.heap.size) (hA : ∀ q, s.heap.size ≤ q → A q) (hAs : ∀ q, A q → s.heap.size ≤ q) (hK : va_K D vwCl (TY D) s) (hP : va_P D vwCl [((ax 0), .inr (11, [.ref (ax 1), .ref (ax 2), .ref (ax 3), .ref (ax 4), .ref (ax 5), .ref (ax 6), .ref (ax 7), .ref (ax 8), .ref (ax 9), .ref (ax 10), .ref (ax 11), .ref (ax 12), .int 0])), ((ax 12), .inr (1, [.ref (ax 13), .ref (ax 14), .ref (ax 15), .int 1, .ref (ax 10), .ref (ax 16), .ref (ax 17), .ref (ax 18), .ref (ax 19)])), ((am 200), .inr (12, mO am 0 0 0 0 0 0 0 (-1) 0 0 1 0))] H) (hD : va_D A [((ax 0), .inr (11, [.ref (ax 1), .ref (ax 2), .ref (ax 3), .ref (ax 4), .ref (ax 5), .ref (ax 6), .ref (ax 7), .ref (ax 8), .ref (ax 9), .ref (ax 10), .ref (ax 11), .ref (ax 12), .int 0])), ((ax 12), .inr (1, [.ref (ax 13), .ref (ax 14), .ref (ax 15), .int 1, .ref (ax 10), .ref (ax 16), .ref (ax 17), .ref (ax 18), .ref (ax 19)])), ((am 200), .inr (12, mO am 0 0 0 0 0 0 0 (-1) 0 0 1 0))]) (hS : va_S A s.heap H locs) (hl : lv_has ls 4 [(3, .int 0), (2, .ref (am 200)), (1, .ref (ax 0)), (0, .ref b)]) : W p l e room_1 s m #[Value.ref b] below meth c H locs 164 46440 (lw_Z below #[Value.ref b] s) (F0 m 901 ls []) := by
  have hbA : ¬ A b := fun h => absurd (hAs b h) (Nat.not_le.mpr hbl)
  refine lv_aload_n hx hb dL_law_901 rfl (lv_at hl 2 rfl) ?_
  refine lv_aload_n hx hb dL_law_902 rfl (lv_at hl 3 rfl) ?_
  refine lv_iload_n hx hb dL_law_903 rfl (lv_at hl 0 rfl) ?_
  refine lv_iconst (v := 1) hx hb dL_law_904 (by decide) ?_
  refine lv_iadd hx hb dL_law_905 ?_
  refine z_topi (y := 1) (by decide) ?_
  refine va_sld hx hb hX hbl hbA hS (z_in (by decide) (by decide)) dL_law_906 ?_
  refine lv_topi (fun p1 e1 => ?_)
  refine zcV (As := [.int p1]) (rest := []) (C := RX11) (n := 1) ⟨hx, hb, hml, hown, ht⟩ (k_X11_room l D ax p1) (zgV ml_L_103 im_X11_room se_X11_room in_X11 co_X11_room) rfl rfl (by decide +kernel) ⟨Nat.le_of_ble_eq_true rfl, Nat.le_of_ble_eq_true rfl⟩ hK hP hS [0, 1] rfl 0 rfl rfl rfl rfl hl.1 rfl (Nat.le_of_ble_eq_true rfl) dL_law_907 ⟨Nat.le_of_ble_eq_true rfl, Nat.le_of_ble_eq_true rfl⟩ (fun r_1 H locs hw hP hS => ?_)
  subst hw
  refine lv_aload_n hx hb dL_law_910 rfl (lv_at hl 1 rfl) ?_
  refine lv_aload_n hx hb dL_law_911 rfl (lv_at hl 3 rfl) ?_
  refine lv_iload_n hx hb dL_law_912 rfl (lv_at hl 0 rfl) ?_
  refine lv_iconst (v := 1) hx hb dL_law_913 (by decide) ?_
  refine lv_iadd hx hb dL_law_914 ?_
  refine z_topi (y := 1) (by decide) ?_
  refine va_sld hx hb hX hbl hbA hS (z_in (by decide) (by decide)) dL_law_915 ?_
  refine z_topi (y := p1) e1.symm ?_
  refine zcV (As := [.int p1]) (rest := [.int (-1)]) (C := RX12) (n := 1) ⟨hx, hb, hml, hown, ht⟩ (k_X12_room l D am p1) (zgV ml_L_106 im_X12_room se_X12_room in_X12 co_X12_room) rfl rfl (by decide +kernel) ⟨Nat.le_of_ble_eq_true rfl, Nat.le_of_ble_eq_true rfl⟩ hK hP hS [2] rfl 0 rfl rfl rfl rfl hl.1 rfl (Nat.le_of_ble_eq_true rfl) dL_law_916 ⟨Nat.le_of_ble_eq_true rfl, Nat.le_of_ble_eq_true rfl⟩ (fun r_2 H locs hw hP hS => ?_)
  subst hw
  refine lv_icmp_eq (tgt := 1299) hx hb dL_law_919 (by decide) (fun _ => ?_) (fun c_3 => (z_abs c_3 (by decide)).elim)
  exact lc_end hx hb hr hlocks hX hbl hAs hS (lv_sub hl [0, 3] rfl) (Nat.le_of_ble_eq_true rfl) (Nat.le_of_ble_eq_true rfl)
set_option maxHeartbeats 4000000 in
set_option maxRecDepth 100000 in
/-- back -/
theorem lc_22 {p : Program} (l : Launch) {e : Env} {s : State} {m : MethodId} {below : List Frame} {meth : Method} {c : Code} {b : Nat} {xs : Nat → Int32} {H : Heap} {locs : List Loc} {ls : Array Slot} {A : Nat → Prop} {D : va_G} {ax am : Nat → Nat} (hx : p.tables.exec = Jvm.exec) (hb : c.code = cL_law) (hr : meth.sig.returnType = ret) (hlocks : meth.locks = false) (hml : c.maxLocals = 4) (hown : s.vm.findClass RL = some m.cls) (ht : ∀ w ∈ lw_gd, w.before #[Value.ref b] s = true) (hX : va_X b 6 xs s s.heap) (hbl : b < s.heap.size) (hA : ∀ q, s.heap.size ≤ q → A q) (hAs : ∀ q, A q → s.heap.size ≤ q) (hK : va_K D vwCl (TY D) s) (hP : va_P D vwCl [((ax 0), .inr (11, [.ref (ax 1), .ref (ax 2), .ref (ax 3), .ref (ax 4), .ref (ax 5), .ref (ax 6), .ref (ax 7), .ref (ax 8), .ref (ax 9), .ref (ax 10), .ref (ax 11), .ref (ax 12), .int 0])), ((ax 12), .inr (1, [.ref (ax 13), .ref (ax 14), .ref (ax 15), .int 1, .ref (ax 10), .ref (ax 16), .ref (ax 17), .ref (ax 18), .ref (ax 19)])), ((ax 13), .inr (8, [.int 0, .int 0, .long 0, .ref (ax 60), .ref (ax 61), .ref (ax 62), .ref (ax 63), .ref (ax 64), .ref (ax 65), .ref (ax 66), .ref (ax 67)])), ((ax 66), .inl (D.1 13, 8, .inl (fun _ => (-2)))), ((am 200), .inr (12, mO am 0 0 0 0 0 0 0 (-1) 0 0 1 0))] H) (hD : va_D A [((ax 0), .inr (11, [.ref (ax 1), .ref (ax 2), .ref (ax 3), .ref (ax 4), .ref (ax 5), .ref (ax 6), .ref (ax 7), .ref (ax 8), .ref (ax 9), .ref (ax 10), .ref (ax 11), .ref (ax 12), .int 0])), ((ax 12), .inr (1, [.ref (ax 13), .ref (ax 14), .ref (ax 15), .int 1, .ref (ax 10), .ref (ax 16), .ref (ax 17), .ref (ax 18), .ref (ax 19)])), ((ax 13), .inr (8, [.int 0, .int 0, .long 0, .ref (ax 60), .ref (ax 61), .ref (ax 62), .ref (ax 63), .ref (ax 64), .ref (ax 65), .ref (ax 66), .ref (ax 67)])), ((ax 66), .inl (D.1 13, 8, .inl (fun _ => (-2)))), ((am 200), .inr (12, mO am 0 0 0 0 0 0 0 (-1) 0 0 1 0))]) (hS : va_S A s.heap H locs) (hl : lv_has ls 4 [(3, .int 0), (2, .ref (am 200)), (1, .ref (ax 0)), (0, .ref b)]) : W p l e room_1 s m #[Value.ref b] below meth c H locs 164 46440 (lw_Z below #[Value.ref b] s) (F0 m 924 ls []) := by
  have hbA : ¬ A b := fun h => absurd (hAs b h) (Nat.not_le.mpr hbl)
  refine lv_aload_n hx hb dL_law_924 rfl (lv_at hl 2 rfl) ?_
  refine lv_aload_n hx hb dL_law_925 rfl (lv_at hl 3 rfl) ?_
  refine lv_iload_n hx hb dL_law_926 rfl (lv_at hl 0 rfl) ?_
  refine lv_iconst (v := 1) hx hb dL_law_927 (by decide) ?_
  refine lv_iadd hx hb dL_law_928 ?_
  refine z_topi (y := 1) (by decide) ?_
  refine va_sld hx hb hX hbl hbA hS (z_in (by decide) (by decide)) dL_law_929 ?_
  refine lv_topi (fun p1 e1 => ?_)
  refine zcV (As := [.int p1]) (rest := []) (C := RX11) (n := 1) ⟨hx, hb, hml, hown, ht⟩ (k_X11_back l D ax p1) (zgV ml_L_107 im_X11_back se_X11_back in_X11 co_X11_back) rfl rfl (by decide +kernel) ⟨Nat.le_of_ble_eq_true rfl, Nat.le_of_ble_eq_true rfl⟩ hK hP hS [0, 1, 2, 3] rfl 0 rfl rfl rfl rfl hl.1 rfl (Nat.le_of_ble_eq_true rfl) dL_law_930 ⟨Nat.le_of_ble_eq_true rfl, Nat.le_of_ble_eq_true rfl⟩ (fun r_1 H locs hw hP hS => ?_)
  subst hw
  refine lv_aload_n hx hb dL_law_933 rfl (lv_at hl 1 rfl) ?_
  refine lv_aload_n hx hb dL_law_934 rfl (lv_at hl 3 rfl) ?_
  refine lv_iload_n hx hb dL_law_935 rfl (lv_at hl 0 rfl) ?_
  refine lv_iconst (v := 1) hx hb dL_law_936 (by decide) ?_
  refine lv_iadd hx hb dL_law_937 ?_
  refine z_topi (y := 1) (by decide) ?_
  refine va_sld hx hb hX hbl hbA hS (z_in (by decide) (by decide)) dL_law_938 ?_
  refine z_topi (y := p1) e1.symm ?_
  refine zcV (As := [.int p1]) (rest := [.int (-1)]) (C := RX12) (n := 1) ⟨hx, hb, hml, hown, ht⟩ (k_X12_back l D am p1) (zgV ml_L_110 im_X12_back se_X12_back in_X12 co_X12_back) rfl rfl (by decide +kernel) ⟨Nat.le_of_ble_eq_true rfl, Nat.le_of_ble_eq_true rfl⟩ hK hP hS [4] rfl 0 rfl rfl rfl rfl hl.1 rfl (Nat.le_of_ble_eq_true rfl) dL_law_939 ⟨Nat.le_of_ble_eq_true rfl, Nat.le_of_ble_eq_true rfl⟩ (fun r_2 H locs hw hP hS => ?_)
  subst hw
  refine lv_icmp_eq (tgt := 1299) hx hb dL_law_942 (by decide) (fun _ => ?_) (fun c_3 => (z_abs c_3 (by decide)).elim)
  exact lc_end hx hb hr hlocks hX hbl hAs hS (lv_sub hl [0, 3] rfl) (Nat.le_of_ble_eq_true rfl) (Nat.le_of_ble_eq_true rfl)
set_option maxHeartbeats 4000000 in
set_option maxRecDepth 100000 in
/-- see -/
theorem lc_23 {p : Program} (l : Launch) {e : Env} {s : State} {m : MethodId} {below : List Frame} {meth : Method} {c : Code} {b : Nat} {xs : Nat → Int32} {H : Heap} {locs : List Loc} {ls : Array Slot} {A : Nat → Prop} {D : va_G} {ax am : Nat → Nat} (hx : p.tables.exec = Jvm.exec) (hb : c.code = cL_law) (hr : meth.sig.returnType = ret) (hlocks : meth.locks = false) (hml : c.maxLocals = 4) (hown : s.vm.findClass RL = some m.cls) (ht : ∀ w ∈ lw_gd, w.before #[Value.ref b] s = true) (hX : va_X b 6 xs s s.heap) (hbl : b < s.heap.size) (hA : ∀ q, s.heap.size ≤ q → A q) (hAs : ∀ q, A q → s.heap.size ≤ q) (hK : va_K D vwCl (TY D) s) (hP : va_P D vwCl [((ax 0), .inr (11, [.ref (ax 1), .ref (ax 2), .ref (ax 3), .ref (ax 4), .ref (ax 5), .ref (ax 6), .ref (ax 7), .ref (ax 8), .ref (ax 9), .ref (ax 10), .ref (ax 11), .ref (ax 12), .int 0])), ((ax 4), .inr (7, [.int 0, .ref (ax 26), .ref (ax 27), .ref (ax 28), .int 0, .ref (ax 29)])), ((ax 1), .inr (9, [.ref (ax 20), .int 0])), ((ax 9), .inl (D.1 13, 6, .inl (fun _ => 0))), ((am 200), .inr (12, mO am 0 0 0 0 0 0 0 (-1) 0 0 1 0)), ((am 9), .inl (D.1 13, 6, .inl (fun _ => 0)))] H) (hD : va_D A [((ax 0), .inr (11, [.ref (ax 1), .ref (ax 2), .ref (ax 3), .ref (ax 4), .ref (ax 5), .ref (ax 6), .ref (ax 7), .ref (ax 8), .ref (ax 9), .ref (ax 10), .ref (ax 11), .ref (ax 12), .int 0])), ((ax 4), .inr (7, [.int 0, .ref (ax 26), .ref (ax 27), .ref (ax 28), .int 0, .ref (ax 29)])), ((ax 1), .inr (9, [.ref (ax 20), .int 0])), ((ax 9), .inl (D.1 13, 6, .inl (fun _ => 0))), ((am 200), .inr (12, mO am 0 0 0 0 0 0 0 (-1) 0 0 1 0)), ((am 9), .inl (D.1 13, 6, .inl (fun _ => 0)))]) (hS : va_S A s.heap H locs) (hl : lv_has ls 4 [(3, .int 0), (2, .ref (am 200)), (1, .ref (ax 0)), (0, .ref b)]) : W p l e room_1 s m #[Value.ref b] below meth c H locs 164 46440 (lw_Z below #[Value.ref b] s) (F0 m 947 ls []) := by
  have hbA : ¬ A b := fun h => absurd (hAs b h) (Nat.not_le.mpr hbl)
  refine lv_aload_n hx hb dL_law_947 rfl (lv_at hl 2 rfl) ?_
  refine zwV (As := []) (rest := []) (C := RX11) (n := 0) (wr := [((am 200), .inr (12, mO am 0 0 0 0 0 0 0 (-1) 0 0 1 0)), ((am 9), .inl (D.1 13, 6, .inl (fun _ => 0)))]) ⟨hx, hb, hml, hown, ht⟩ (k_X11_see l D _ ax) (zgV ml_L_111 im_X11_see se_X11_see in_X11 co_X11_see) rfl rfl (by decide +kernel) ⟨Nat.le_of_ble_eq_true rfl, Nat.le_of_ble_eq_true rfl⟩ hK hP hD hS hA [0, 1, 2, 3] [4, 5] rfl rfl rfl rfl (by decide) 0 rfl rfl rfl rfl hl.1 rfl (Nat.le_of_ble_eq_true rfl) dL_law_948 ⟨Nat.le_of_ble_eq_true rfl, Nat.le_of_ble_eq_true rfl⟩ (fun r_2 u_1 H locs hw hP hD hS => ?_)
  have hP : va_P D vwCl [((am 200), .inr (12, mO am 0 0 0 0 0 0 0 (-1) 0 0 1 0)), ((am 9), .inl (D.1 13, 6, .inl (fun _ => 0)))] H := hP
  have hD : va_D A [((am 200), .inr (12, mO am 0 0 0 0 0 0 0 (-1) 0 0 1 0)), ((am 9), .inl (D.1 13, 6, .inl (fun _ => 0)))] := hD
  subst hw
  refine lv_aload_n hx hb dL_law_951 rfl (lv_at hl 1 rfl) ?_
  refine zwV (As := []) (rest := [.int (-1)]) (C := RX12) (n := 0) (wr := []) ⟨hx, hb, hml, hown, ht⟩ (k_X12_see l D _ am) (zgV ml_L_114 im_X12_see se_X12_see in_X12 co_X12_see) rfl rfl (by decide +kernel) ⟨Nat.le_of_ble_eq_true rfl, Nat.le_of_ble_eq_true rfl⟩ hK hP hD hS hA [0, 1] [] rfl rfl rfl rfl (by decide) 0 rfl rfl rfl rfl hl.1 rfl (Nat.le_of_ble_eq_true rfl) dL_law_952 ⟨Nat.le_of_ble_eq_true rfl, Nat.le_of_ble_eq_true rfl⟩ (fun r_4 u_3 H locs hw hP hD hS => ?_)
  have hP : va_P D vwCl [] H := hP
  have hD : va_D A [] := hD
  subst hw
  refine lv_icmp_eq (tgt := 1299) hx hb dL_law_955 (by decide) (fun _ => ?_) (fun c_5 => (z_abs c_5 (by decide)).elim)
  exact lc_end hx hb hr hlocks hX hbl hAs hS (lv_sub hl [0, 3] rfl) (Nat.le_of_ble_eq_true rfl) (Nat.le_of_ble_eq_true rfl)
set_option maxHeartbeats 4000000 in
set_option maxRecDepth 100000 in
/-- fits -/
theorem lc_24 {p : Program} (l : Launch) {e : Env} {s : State} {m : MethodId} {below : List Frame} {meth : Method} {c : Code} {b : Nat} {xs : Nat → Int32} {H : Heap} {locs : List Loc} {ls : Array Slot} {A : Nat → Prop} {D : va_G} {ax am : Nat → Nat} (hx : p.tables.exec = Jvm.exec) (hb : c.code = cL_law) (hr : meth.sig.returnType = ret) (hlocks : meth.locks = false) (hml : c.maxLocals = 4) (hown : s.vm.findClass RL = some m.cls) (ht : ∀ w ∈ lw_gd, w.before #[Value.ref b] s = true) (hX : va_X b 6 xs s s.heap) (hbl : b < s.heap.size) (hA : ∀ q, s.heap.size ≤ q → A q) (hAs : ∀ q, A q → s.heap.size ≤ q) (hK : va_K D vwCl (TY D) s) (hP : va_P D vwCl [((ax 0), .inr (11, [.ref (ax 1), .ref (ax 2), .ref (ax 3), .ref (ax 4), .ref (ax 5), .ref (ax 6), .ref (ax 7), .ref (ax 8), .ref (ax 9), .ref (ax 10), .ref (ax 11), .ref (ax 12), .int 0])), ((ax 4), .inr (7, [.int 0, .ref (ax 26), .ref (ax 27), .ref (ax 28), .int 0, .ref (ax 29)])), ((ax 12), .inr (1, [.ref (ax 13), .ref (ax 14), .ref (ax 15), .int 1, .ref (ax 10), .ref (ax 16), .ref (ax 17), .ref (ax 18), .ref (ax 19)])), ((ax 13), .inr (8, [.int 0, .int 0, .long 0, .ref (ax 60), .ref (ax 61), .ref (ax 62), .ref (ax 63), .ref (ax 64), .ref (ax 65), .ref (ax 66), .ref (ax 67)])), ((ax 66), .inl (D.1 13, 8, .inl (fun _ => (-2)))), ((am 200), .inr (12, mO am 0 0 0 0 0 0 0 (-1) 0 0 1 0))] H) (hD : va_D A [((ax 0), .inr (11, [.ref (ax 1), .ref (ax 2), .ref (ax 3), .ref (ax 4), .ref (ax 5), .ref (ax 6), .ref (ax 7), .ref (ax 8), .ref (ax 9), .ref (ax 10), .ref (ax 11), .ref (ax 12), .int 0])), ((ax 4), .inr (7, [.int 0, .ref (ax 26), .ref (ax 27), .ref (ax 28), .int 0, .ref (ax 29)])), ((ax 12), .inr (1, [.ref (ax 13), .ref (ax 14), .ref (ax 15), .int 1, .ref (ax 10), .ref (ax 16), .ref (ax 17), .ref (ax 18), .ref (ax 19)])), ((ax 13), .inr (8, [.int 0, .int 0, .long 0, .ref (ax 60), .ref (ax 61), .ref (ax 62), .ref (ax 63), .ref (ax 64), .ref (ax 65), .ref (ax 66), .ref (ax 67)])), ((ax 66), .inl (D.1 13, 8, .inl (fun _ => (-2)))), ((am 200), .inr (12, mO am 0 0 0 0 0 0 0 (-1) 0 0 1 0))]) (hS : va_S A s.heap H locs) (hl : lv_has ls 4 [(3, .int 0), (2, .ref (am 200)), (1, .ref (ax 0)), (0, .ref b)]) : W p l e room_1 s m #[Value.ref b] below meth c H locs 164 46440 (lw_Z below #[Value.ref b] s) (F0 m 960 ls []) := by
  have hbA : ¬ A b := fun h => absurd (hAs b h) (Nat.not_le.mpr hbl)
  refine lv_aload_n hx hb dL_law_960 rfl (lv_at hl 2 rfl) ?_
  refine lv_aload_n hx hb dL_law_961 rfl (lv_at hl 3 rfl) ?_
  refine lv_iload_n hx hb dL_law_962 rfl (lv_at hl 0 rfl) ?_
  refine lv_iconst (v := 1) hx hb dL_law_963 (by decide) ?_
  refine lv_iadd hx hb dL_law_964 ?_
  refine z_topi (y := 1) (by decide) ?_
  refine va_sld hx hb hX hbl hbA hS (z_in (by decide) (by decide)) dL_law_965 ?_
  refine lv_topi (fun p1 e1 => ?_)
  refine zwV (As := [.int p1]) (rest := []) (C := RX11) (n := 1) (wr := [((am 200), .inr (12, mO am 0 0 0 0 0 0 0 (-1) 0 0 1 0))]) ⟨hx, hb, hml, hown, ht⟩ (k_X11_fits l D _ ax p1) (zgV ml_L_115 im_X11_fits se_X11_fits in_X11 co_X11_fits) rfl rfl (by decide +kernel) ⟨Nat.le_of_ble_eq_true rfl, Nat.le_of_ble_eq_true rfl⟩ hK hP hD hS hA [0, 1, 2, 3, 4] [5] rfl rfl rfl rfl (by decide) 0 rfl rfl rfl rfl hl.1 rfl (Nat.le_of_ble_eq_true rfl) dL_law_966 ⟨Nat.le_of_ble_eq_true rfl, Nat.le_of_ble_eq_true rfl⟩ (fun r_2 u_1 H locs hw hP hD hS => ?_)
  have hP : va_P D vwCl [((am 200), .inr (12, mO am 0 0 0 0 0 0 0 (-1) 0 0 1 0))] H := hP
  have hD : va_D A [((am 200), .inr (12, mO am 0 0 0 0 0 0 0 (-1) 0 0 1 0))] := hD
  rcases hw with ⟨rfl, g_3, g_4⟩ | ⟨rfl, g_5, g_6, g_7⟩ | ⟨rfl, g_8⟩
  · skip
    have g_3 : ¬ p1.toInt = (-1) := zt_ne rfl (by decide) g_3
    have g_4 : p1.toInt < 0 := zt_lt rfl (by decide) g_4
    refine lv_aload_n hx hb dL_law_969 rfl (lv_at hl 1 rfl) ?_
    refine lv_aload_n hx hb dL_law_970 rfl (lv_at hl 3 rfl) ?_
    refine lv_iload_n hx hb dL_law_971 rfl (lv_at hl 0 rfl) ?_
    refine lv_iconst (v := 1) hx hb dL_law_972 (by decide) ?_
    refine lv_iadd hx hb dL_law_973 ?_
    refine z_topi (y := 1) (by decide) ?_
    refine va_sld hx hb hX hbl hbA hS (z_in (by decide) (by decide)) dL_law_974 ?_
    refine z_topi (y := p1) e1.symm ?_
    refine zcV (As := [.int p1]) (rest := [.int (-1)]) (C := RX12) (n := 1) ⟨hx, hb, hml, hown, ht⟩ (k_X12_fits l D am p1) (zgV ml_L_118 im_X12_fits se_X12_fits in_X12 co_X12_fits) rfl rfl (by decide +kernel) ⟨Nat.le_of_ble_eq_true rfl, Nat.le_of_ble_eq_true rfl⟩ hK hP hS [0] rfl 0 rfl rfl rfl rfl hl.1 rfl (Nat.le_of_ble_eq_true rfl) dL_law_975 ⟨Nat.le_of_ble_eq_true rfl, Nat.le_of_ble_eq_true rfl⟩ (fun r_9 H locs hw hP hS => ?_)
    rcases hw with ⟨rfl, g_10, g_11⟩ | ⟨rfl, g_12, g_13⟩ | ⟨rfl, g_14⟩
    · skip
      have g_10 : (-1) ≤ p1.toInt := zt_ge rfl (by decide) g_10
      have g_11 : ¬ p1.toInt = (-1) := zt_ne rfl (by decide) g_11
      exfalso; omega
    · skip
      have g_12 : (-1) ≤ p1.toInt := zt_ge rfl (by decide) g_12
      have g_13 : p1.toInt = (-1) := zt_eq rfl (by decide) g_13
      exfalso; omega
    · skip
      have g_14 : p1.toInt < (-1) := zt_lt rfl (by decide) g_14
      refine lv_icmp_eq (tgt := 1299) hx hb dL_law_978 (by decide) (fun _ => ?_) (fun c_15 => (z_abs c_15 (by decide)).elim)
      exact lc_end hx hb hr hlocks hX hbl hAs hS (lv_sub hl [0, 3] rfl) (Nat.le_of_ble_eq_true rfl) (Nat.le_of_ble_eq_true rfl)
  · skip
    have g_5 : ¬ p1.toInt = (-1) := zt_ne rfl (by decide) g_5
    have g_6 : 0 ≤ p1.toInt := zt_ge rfl (by decide) g_6
    have g_7 : 0 ≤ p1.toInt := zt_ge rfl (by decide) g_7
    refine lv_aload_n hx hb dL_law_969 rfl (lv_at hl 1 rfl) ?_
    refine lv_aload_n hx hb dL_law_970 rfl (lv_at hl 3 rfl) ?_
    refine lv_iload_n hx hb dL_law_971 rfl (lv_at hl 0 rfl) ?_
    refine lv_iconst (v := 1) hx hb dL_law_972 (by decide) ?_
    refine lv_iadd hx hb dL_law_973 ?_
    refine z_topi (y := 1) (by decide) ?_
    refine va_sld hx hb hX hbl hbA hS (z_in (by decide) (by decide)) dL_law_974 ?_
    refine z_topi (y := p1) e1.symm ?_
    refine zcV (As := [.int p1]) (rest := [.int (-1)]) (C := RX12) (n := 1) ⟨hx, hb, hml, hown, ht⟩ (k_X12_fits l D am p1) (zgV ml_L_118 im_X12_fits se_X12_fits in_X12 co_X12_fits) rfl rfl (by decide +kernel) ⟨Nat.le_of_ble_eq_true rfl, Nat.le_of_ble_eq_true rfl⟩ hK hP hS [0] rfl 0 rfl rfl rfl rfl hl.1 rfl (Nat.le_of_ble_eq_true rfl) dL_law_975 ⟨Nat.le_of_ble_eq_true rfl, Nat.le_of_ble_eq_true rfl⟩ (fun r_17 H locs hw hP hS => ?_)
    rcases hw with ⟨rfl, g_18, g_19⟩ | ⟨rfl, g_20, g_21⟩ | ⟨rfl, g_22⟩
    · skip
      have g_18 : (-1) ≤ p1.toInt := zt_ge rfl (by decide) g_18
      have g_19 : ¬ p1.toInt = (-1) := zt_ne rfl (by decide) g_19
      refine lv_icmp_eq (tgt := 1299) hx hb dL_law_978 (by decide) (fun _ => ?_) (fun c_23 => (z_abs c_23 (by decide)).elim)
      exact lc_end hx hb hr hlocks hX hbl hAs hS (lv_sub hl [0, 3] rfl) (Nat.le_of_ble_eq_true rfl) (Nat.le_of_ble_eq_true rfl)
    · skip
      have g_20 : (-1) ≤ p1.toInt := zt_ge rfl (by decide) g_20
      have g_21 : p1.toInt = (-1) := zt_eq rfl (by decide) g_21
      exfalso; omega
    · skip
      have g_22 : p1.toInt < (-1) := zt_lt rfl (by decide) g_22
      exfalso; omega
  · skip
    have g_8 : p1.toInt = (-1) := zt_eq rfl (by decide) g_8
    refine lv_aload_n hx hb dL_law_969 rfl (lv_at hl 1 rfl) ?_
    refine lv_aload_n hx hb dL_law_970 rfl (lv_at hl 3 rfl) ?_
    refine lv_iload_n hx hb dL_law_971 rfl (lv_at hl 0 rfl) ?_
    refine lv_iconst (v := 1) hx hb dL_law_972 (by decide) ?_
    refine lv_iadd hx hb dL_law_973 ?_
    refine z_topi (y := 1) (by decide) ?_
    refine va_sld hx hb hX hbl hbA hS (z_in (by decide) (by decide)) dL_law_974 ?_
    refine z_topi (y := p1) e1.symm ?_
    refine zcV (As := [.int p1]) (rest := [.int 0]) (C := RX12) (n := 1) ⟨hx, hb, hml, hown, ht⟩ (k_X12_fits l D am p1) (zgV ml_L_118 im_X12_fits se_X12_fits in_X12 co_X12_fits) rfl rfl (by decide +kernel) ⟨Nat.le_of_ble_eq_true rfl, Nat.le_of_ble_eq_true rfl⟩ hK hP hS [0] rfl 0 rfl rfl rfl rfl hl.1 rfl (Nat.le_of_ble_eq_true rfl) dL_law_975 ⟨Nat.le_of_ble_eq_true rfl, Nat.le_of_ble_eq_true rfl⟩ (fun r_25 H locs hw hP hS => ?_)
    rcases hw with ⟨rfl, g_26, g_27⟩ | ⟨rfl, g_28, g_29⟩ | ⟨rfl, g_30⟩
    · skip
      have g_26 : (-1) ≤ p1.toInt := zt_ge rfl (by decide) g_26
      have g_27 : ¬ p1.toInt = (-1) := zt_ne rfl (by decide) g_27
      exfalso; omega
    · skip
      have g_28 : (-1) ≤ p1.toInt := zt_ge rfl (by decide) g_28
      have g_29 : p1.toInt = (-1) := zt_eq rfl (by decide) g_29
      refine lv_icmp_eq (tgt := 1299) hx hb dL_law_978 (by decide) (fun _ => ?_) (fun c_31 => (z_abs c_31 (by decide)).elim)
      exact lc_end hx hb hr hlocks hX hbl hAs hS (lv_sub hl [0, 3] rfl) (Nat.le_of_ble_eq_true rfl) (Nat.le_of_ble_eq_true rfl)
    · skip
      have g_30 : p1.toInt < (-1) := zt_lt rfl (by decide) g_30
      exfalso; omega
set_option maxHeartbeats 4000000 in
set_option maxRecDepth 100000 in
/-- tells -/
theorem lc_25 {p : Program} (l : Launch) {e : Env} {s : State} {m : MethodId} {below : List Frame} {meth : Method} {c : Code} {b : Nat} {xs : Nat → Int32} {H : Heap} {locs : List Loc} {ls : Array Slot} {A : Nat → Prop} {D : va_G} {ax am : Nat → Nat} (hx : p.tables.exec = Jvm.exec) (hb : c.code = cL_law) (hr : meth.sig.returnType = ret) (hlocks : meth.locks = false) (hml : c.maxLocals = 4) (hown : s.vm.findClass RL = some m.cls) (ht : ∀ w ∈ lw_gd, w.before #[Value.ref b] s = true) (hX : va_X b 6 xs s s.heap) (hbl : b < s.heap.size) (hA : ∀ q, s.heap.size ≤ q → A q) (hAs : ∀ q, A q → s.heap.size ≤ q) (hK : va_K D vwCl (TY D) s) (hP : va_P D vwCl [((ax 0), .inr (11, [.ref (ax 1), .ref (ax 2), .ref (ax 3), .ref (ax 4), .ref (ax 5), .ref (ax 6), .ref (ax 7), .ref (ax 8), .ref (ax 9), .ref (ax 10), .ref (ax 11), .ref (ax 12), .int 0])), ((ax 4), .inr (7, [.int 0, .ref (ax 26), .ref (ax 27), .ref (ax 28), .int 0, .ref (ax 29)])), ((ax 12), .inr (1, [.ref (ax 13), .ref (ax 14), .ref (ax 15), .int 1, .ref (ax 10), .ref (ax 16), .ref (ax 17), .ref (ax 18), .ref (ax 19)])), ((ax 13), .inr (8, [.int 0, .int 0, .long 0, .ref (ax 60), .ref (ax 61), .ref (ax 62), .ref (ax 63), .ref (ax 64), .ref (ax 65), .ref (ax 66), .ref (ax 67)])), ((ax 66), .inl (D.1 13, 8, .inl (fun _ => (-2)))), ((am 200), .inr (12, mO am 0 0 0 0 0 0 0 (-1) 0 0 1 0))] H) (hD : va_D A [((ax 0), .inr (11, [.ref (ax 1), .ref (ax 2), .ref (ax 3), .ref (ax 4), .ref (ax 5), .ref (ax 6), .ref (ax 7), .ref (ax 8), .ref (ax 9), .ref (ax 10), .ref (ax 11), .ref (ax 12), .int 0])), ((ax 4), .inr (7, [.int 0, .ref (ax 26), .ref (ax 27), .ref (ax 28), .int 0, .ref (ax 29)])), ((ax 12), .inr (1, [.ref (ax 13), .ref (ax 14), .ref (ax 15), .int 1, .ref (ax 10), .ref (ax 16), .ref (ax 17), .ref (ax 18), .ref (ax 19)])), ((ax 13), .inr (8, [.int 0, .int 0, .long 0, .ref (ax 60), .ref (ax 61), .ref (ax 62), .ref (ax 63), .ref (ax 64), .ref (ax 65), .ref (ax 66), .ref (ax 67)])), ((ax 66), .inl (D.1 13, 8, .inl (fun _ => (-2)))), ((am 200), .inr (12, mO am 0 0 0 0 0 0 0 (-1) 0 0 1 0))]) (hS : va_S A s.heap H locs) (hl : lv_has ls 4 [(3, .int 0), (2, .ref (am 200)), (1, .ref (ax 0)), (0, .ref b)]) : W p l e room_1 s m #[Value.ref b] below meth c H locs 164 46440 (lw_Z below #[Value.ref b] s) (F0 m 983 ls []) := by
  have hbA : ¬ A b := fun h => absurd (hAs b h) (Nat.not_le.mpr hbl)
  refine lv_aload_n hx hb dL_law_983 rfl (lv_at hl 2 rfl) ?_
  refine lv_aload_n hx hb dL_law_984 rfl (lv_at hl 3 rfl) ?_
  refine lv_iload_n hx hb dL_law_985 rfl (lv_at hl 0 rfl) ?_
  refine lv_iconst (v := 1) hx hb dL_law_986 (by decide) ?_
  refine lv_iadd hx hb dL_law_987 ?_
  refine z_topi (y := 1) (by decide) ?_
  refine va_sld hx hb hX hbl hbA hS (z_in (by decide) (by decide)) dL_law_988 ?_
  refine lv_topi (fun p1 e1 => ?_)
  refine zwV (As := [.int p1]) (rest := []) (C := RX11) (n := 1) (wr := [((am 200), .inr (12, mO am 0 0 0 0 0 0 0 (-1) 0 0 1 0))]) ⟨hx, hb, hml, hown, ht⟩ (k_X11_tells l D _ ax p1) (zgV ml_L_119 im_X11_tells se_X11_tells in_X11 co_X11_tells) rfl rfl (by decide +kernel) ⟨Nat.le_of_ble_eq_true rfl, Nat.le_of_ble_eq_true rfl⟩ hK hP hD hS hA [0, 1, 2, 3, 4] [5] rfl rfl rfl rfl (by decide) 0 rfl rfl rfl rfl hl.1 rfl (Nat.le_of_ble_eq_true rfl) dL_law_989 ⟨Nat.le_of_ble_eq_true rfl, Nat.le_of_ble_eq_true rfl⟩ (fun r_2 u_1 H locs hw hP hD hS => ?_)
  have hP : va_P D vwCl [((am 200), .inr (12, mO am 0 0 0 0 0 0 0 (-1) 0 0 1 0))] H := hP
  have hD : va_D A [((am 200), .inr (12, mO am 0 0 0 0 0 0 0 (-1) 0 0 1 0))] := hD
  subst hw
  refine lv_aload_n hx hb dL_law_992 rfl (lv_at hl 1 rfl) ?_
  refine lv_aload_n hx hb dL_law_993 rfl (lv_at hl 3 rfl) ?_
  refine lv_iload_n hx hb dL_law_994 rfl (lv_at hl 0 rfl) ?_
  refine lv_iconst (v := 1) hx hb dL_law_995 (by decide) ?_
  refine lv_iadd hx hb dL_law_996 ?_
  refine z_topi (y := 1) (by decide) ?_
  refine va_sld hx hb hX hbl hbA hS (z_in (by decide) (by decide)) dL_law_997 ?_
  refine z_topi (y := p1) e1.symm ?_
  refine zcV (As := [.int p1]) (rest := [.int (-1)]) (C := RX12) (n := 1) ⟨hx, hb, hml, hown, ht⟩ (k_X12_tells l D am p1) (zgV ml_L_122 im_X12_tells se_X12_tells in_X12 co_X12_tells) rfl rfl (by decide +kernel) ⟨Nat.le_of_ble_eq_true rfl, Nat.le_of_ble_eq_true rfl⟩ hK hP hS [0] rfl 0 rfl rfl rfl rfl hl.1 rfl (Nat.le_of_ble_eq_true rfl) dL_law_998 ⟨Nat.le_of_ble_eq_true rfl, Nat.le_of_ble_eq_true rfl⟩ (fun r_3 H locs hw hP hS => ?_)
  subst hw
  refine lv_icmp_eq (tgt := 1299) hx hb dL_law_1001 (by decide) (fun _ => ?_) (fun c_4 => (z_abs c_4 (by decide)).elim)
  exact lc_end hx hb hr hlocks hX hbl hAs hS (lv_sub hl [0, 3] rfl) (Nat.le_of_ble_eq_true rfl) (Nat.le_of_ble_eq_true rfl)
set_option maxHeartbeats 4000000 in
set_option maxRecDepth 100000 in
/-- put -/
theorem lc_26 {p : Program} (l : Launch) {e : Env} {s : State} {m : MethodId} {below : List Frame} {meth : Method} {c : Code} {b : Nat} {xs : Nat → Int32} {H : Heap} {locs : List Loc} {ls : Array Slot} {A : Nat → Prop} {D : va_G} {ax am : Nat → Nat} (hx : p.tables.exec = Jvm.exec) (hb : c.code = cL_law) (hr : meth.sig.returnType = ret) (hlocks : meth.locks = false) (hml : c.maxLocals = 4) (hown : s.vm.findClass RL = some m.cls) (ht : ∀ w ∈ lw_gd, w.before #[Value.ref b] s = true) (hX : va_X b 6 xs s s.heap) (hbl : b < s.heap.size) (hA : ∀ q, s.heap.size ≤ q → A q) (hAs : ∀ q, A q → s.heap.size ≤ q) (hK : va_K D vwCl (TY D) s) (hP : va_P D vwCl [((ax 0), .inr (11, [.ref (ax 1), .ref (ax 2), .ref (ax 3), .ref (ax 4), .ref (ax 5), .ref (ax 6), .ref (ax 7), .ref (ax 8), .ref (ax 9), .ref (ax 10), .ref (ax 11), .ref (ax 12), .int 0])), ((ax 12), .inr (1, [.ref (ax 13), .ref (ax 14), .ref (ax 15), .int 1, .ref (ax 10), .ref (ax 16), .ref (ax 17), .ref (ax 18), .ref (ax 19)])), ((ax 13), .inr (8, [.int 0, .int 0, .long 0, .ref (ax 60), .ref (ax 61), .ref (ax 62), .ref (ax 63), .ref (ax 64), .ref (ax 65), .ref (ax 66), .ref (ax 67)])), ((ax 66), .inl (D.1 13, 8, .inl (fun _ => (-2)))), ((ax 9), .inl (D.1 13, 6, .inl (fun _ => 0))), ((am 200), .inr (12, mO am 0 0 0 0 0 0 0 (-1) 0 0 1 0)), ((am 9), .inl (D.1 13, 6, .inl (fun _ => 0)))] H) (hD : va_D A [((ax 0), .inr (11, [.ref (ax 1), .ref (ax 2), .ref (ax 3), .ref (ax 4), .ref (ax 5), .ref (ax 6), .ref (ax 7), .ref (ax 8), .ref (ax 9), .ref (ax 10), .ref (ax 11), .ref (ax 12), .int 0])), ((ax 12), .inr (1, [.ref (ax 13), .ref (ax 14), .ref (ax 15), .int 1, .ref (ax 10), .ref (ax 16), .ref (ax 17), .ref (ax 18), .ref (ax 19)])), ((ax 13), .inr (8, [.int 0, .int 0, .long 0, .ref (ax 60), .ref (ax 61), .ref (ax 62), .ref (ax 63), .ref (ax 64), .ref (ax 65), .ref (ax 66), .ref (ax 67)])), ((ax 66), .inl (D.1 13, 8, .inl (fun _ => (-2)))), ((ax 9), .inl (D.1 13, 6, .inl (fun _ => 0))), ((am 200), .inr (12, mO am 0 0 0 0 0 0 0 (-1) 0 0 1 0)), ((am 9), .inl (D.1 13, 6, .inl (fun _ => 0)))]) (hS : va_S A s.heap H locs) (hl : lv_has ls 4 [(3, .int 0), (2, .ref (am 200)), (1, .ref (ax 0)), (0, .ref b)]) : W p l e room_1 s m #[Value.ref b] below meth c H locs 164 46440 (lw_Z below #[Value.ref b] s) (F0 m 1006 ls []) := by
  have hbA : ¬ A b := fun h => absurd (hAs b h) (Nat.not_le.mpr hbl)
  refine lv_aload_n hx hb dL_law_1006 rfl (lv_at hl 2 rfl) ?_
  refine lv_aload_n hx hb dL_law_1007 rfl (lv_at hl 3 rfl) ?_
  refine lv_iload_n hx hb dL_law_1008 rfl (lv_at hl 0 rfl) ?_
  refine lv_iconst (v := 1) hx hb dL_law_1009 (by decide) ?_
  refine lv_iadd hx hb dL_law_1010 ?_
  refine z_topi (y := 1) (by decide) ?_
  refine va_sld hx hb hX hbl hbA hS (z_in (by decide) (by decide)) dL_law_1011 ?_
  refine lv_topi (fun p1 e1 => ?_)
  refine lv_aload_n hx hb dL_law_1012 rfl (lv_at hl 3 rfl) ?_
  refine lv_iload_n hx hb dL_law_1013 rfl (lv_at hl 0 rfl) ?_
  refine lv_iconst (v := 2) hx hb dL_law_1014 (by decide) ?_
  refine lv_iadd hx hb dL_law_1015 ?_
  refine z_topi (y := 2) (by decide) ?_
  refine va_sld hx hb hX hbl hbA hS (z_in (by decide) (by decide)) dL_law_1016 ?_
  refine lv_topi (fun p2 e2 => ?_)
  refine lv_aload_n hx hb dL_law_1017 rfl (lv_at hl 3 rfl) ?_
  refine lv_iload_n hx hb dL_law_1018 rfl (lv_at hl 0 rfl) ?_
  refine lv_iconst (v := 3) hx hb dL_law_1019 (by decide) ?_
  refine lv_iadd hx hb dL_law_1020 ?_
  refine z_topi (y := 3) (by decide) ?_
  refine va_sld hx hb hX hbl hbA hS (z_in (by decide) (by decide)) dL_law_1021 ?_
  refine lv_topi (fun p3 e3 => ?_)
  refine zwV (As := [.int p1, .int p2, .int p3]) (rest := []) (C := RX11) (n := 3) (wr := [((am 200), .inr (12, mO am 0 0 0 0 0 0 0 (-1) 0 0 1 0)), ((am 9), .inl (D.1 13, 6, .inl (fun _ => 0)))]) ⟨hx, hb, hml, hown, ht⟩ (k_X11_put l D _ ax p1 p2 p3) (zgV ml_L_123 im_X11_put se_X11_put in_X11 co_X11_put) rfl rfl (by decide +kernel) ⟨Nat.le_of_ble_eq_true rfl, Nat.le_of_ble_eq_true rfl⟩ hK hP hD hS hA [0, 1, 2, 3, 4] [5, 6] rfl rfl rfl rfl (by decide) 0 rfl rfl rfl rfl hl.1 rfl (Nat.le_of_ble_eq_true rfl) dL_law_1022 ⟨Nat.le_of_ble_eq_true rfl, Nat.le_of_ble_eq_true rfl⟩ (fun r_2 u_1 H locs hw hP hD hS => ?_)
  have hP : va_P D vwCl [((am 200), .inr (12, mO am 0 0 0 0 0 0 0 (-1) 0 0 1 0)), ((am 9), .inl (D.1 13, 6, .inl (fun _ => 0)))] H := hP
  have hD : va_D A [((am 200), .inr (12, mO am 0 0 0 0 0 0 0 (-1) 0 0 1 0)), ((am 9), .inl (D.1 13, 6, .inl (fun _ => 0)))] := hD
  subst hw
  refine lv_aload_n hx hb dL_law_1025 rfl (lv_at hl 1 rfl) ?_
  refine lv_aload_n hx hb dL_law_1026 rfl (lv_at hl 3 rfl) ?_
  refine lv_iload_n hx hb dL_law_1027 rfl (lv_at hl 0 rfl) ?_
  refine lv_iconst (v := 1) hx hb dL_law_1028 (by decide) ?_
  refine lv_iadd hx hb dL_law_1029 ?_
  refine z_topi (y := 1) (by decide) ?_
  refine va_sld hx hb hX hbl hbA hS (z_in (by decide) (by decide)) dL_law_1030 ?_
  refine z_topi (y := p1) e1.symm ?_
  refine lv_aload_n hx hb dL_law_1031 rfl (lv_at hl 3 rfl) ?_
  refine lv_iload_n hx hb dL_law_1032 rfl (lv_at hl 0 rfl) ?_
  refine lv_iconst (v := 2) hx hb dL_law_1033 (by decide) ?_
  refine lv_iadd hx hb dL_law_1034 ?_
  refine z_topi (y := 2) (by decide) ?_
  refine va_sld hx hb hX hbl hbA hS (z_in (by decide) (by decide)) dL_law_1035 ?_
  refine z_topi (y := p2) e2.symm ?_
  refine lv_aload_n hx hb dL_law_1036 rfl (lv_at hl 3 rfl) ?_
  refine lv_iload_n hx hb dL_law_1037 rfl (lv_at hl 0 rfl) ?_
  refine lv_iconst (v := 3) hx hb dL_law_1038 (by decide) ?_
  refine lv_iadd hx hb dL_law_1039 ?_
  refine z_topi (y := 3) (by decide) ?_
  refine va_sld hx hb hX hbl hbA hS (z_in (by decide) (by decide)) dL_law_1040 ?_
  refine z_topi (y := p3) e3.symm ?_
  refine zwV (As := [.int p1, .int p2, .int p3]) (rest := [.int (-1)]) (C := RX12) (n := 3) (wr := []) ⟨hx, hb, hml, hown, ht⟩ (k_X12_put l D _ am p1 p2 p3) (zgV ml_L_126 im_X12_put se_X12_put in_X12 co_X12_put) rfl rfl (by decide +kernel) ⟨Nat.le_of_ble_eq_true rfl, Nat.le_of_ble_eq_true rfl⟩ hK hP hD hS hA [0, 1] [] rfl rfl rfl rfl (by decide) 0 rfl rfl rfl rfl hl.1 rfl (Nat.le_of_ble_eq_true rfl) dL_law_1041 ⟨Nat.le_of_ble_eq_true rfl, Nat.le_of_ble_eq_true rfl⟩ (fun r_4 u_3 H locs hw hP hD hS => ?_)
  have hP : va_P D vwCl [] H := hP
  have hD : va_D A [] := hD
  subst hw
  refine lv_icmp_eq (tgt := 1299) hx hb dL_law_1044 (by decide) (fun _ => ?_) (fun c_5 => (z_abs c_5 (by decide)).elim)
  exact lc_end hx hb hr hlocks hX hbl hAs hS (lv_sub hl [0, 3] rfl) (Nat.le_of_ble_eq_true rfl) (Nat.le_of_ble_eq_true rfl)
set_option maxHeartbeats 4000000 in
set_option maxRecDepth 100000 in
/-- remove -/
theorem lc_27 {p : Program} (l : Launch) {e : Env} {s : State} {m : MethodId} {below : List Frame} {meth : Method} {c : Code} {b : Nat} {xs : Nat → Int32} {H : Heap} {locs : List Loc} {ls : Array Slot} {A : Nat → Prop} {D : va_G} {ax am : Nat → Nat} (hx : p.tables.exec = Jvm.exec) (hb : c.code = cL_law) (hr : meth.sig.returnType = ret) (hlocks : meth.locks = false) (hml : c.maxLocals = 4) (hown : s.vm.findClass RL = some m.cls) (ht : ∀ w ∈ lw_gd, w.before #[Value.ref b] s = true) (hX : va_X b 6 xs s s.heap) (hbl : b < s.heap.size) (hA : ∀ q, s.heap.size ≤ q → A q) (hAs : ∀ q, A q → s.heap.size ≤ q) (hK : va_K D vwCl (TY D) s) (hP : va_P D vwCl [((ax 0), .inr (11, [.ref (ax 1), .ref (ax 2), .ref (ax 3), .ref (ax 4), .ref (ax 5), .ref (ax 6), .ref (ax 7), .ref (ax 8), .ref (ax 9), .ref (ax 10), .ref (ax 11), .ref (ax 12), .int 0])), ((ax 12), .inr (1, [.ref (ax 13), .ref (ax 14), .ref (ax 15), .int 1, .ref (ax 10), .ref (ax 16), .ref (ax 17), .ref (ax 18), .ref (ax 19)])), ((ax 13), .inr (8, [.int 0, .int 0, .long 0, .ref (ax 60), .ref (ax 61), .ref (ax 62), .ref (ax 63), .ref (ax 64), .ref (ax 65), .ref (ax 66), .ref (ax 67)])), ((ax 66), .inl (D.1 13, 8, .inl (fun _ => (-2)))), ((ax 9), .inl (D.1 13, 6, .inl (fun _ => 0))), ((am 200), .inr (12, mO am 0 0 0 0 0 0 0 (-1) 0 0 1 0)), ((am 9), .inl (D.1 13, 6, .inl (fun _ => 0)))] H) (hD : va_D A [((ax 0), .inr (11, [.ref (ax 1), .ref (ax 2), .ref (ax 3), .ref (ax 4), .ref (ax 5), .ref (ax 6), .ref (ax 7), .ref (ax 8), .ref (ax 9), .ref (ax 10), .ref (ax 11), .ref (ax 12), .int 0])), ((ax 12), .inr (1, [.ref (ax 13), .ref (ax 14), .ref (ax 15), .int 1, .ref (ax 10), .ref (ax 16), .ref (ax 17), .ref (ax 18), .ref (ax 19)])), ((ax 13), .inr (8, [.int 0, .int 0, .long 0, .ref (ax 60), .ref (ax 61), .ref (ax 62), .ref (ax 63), .ref (ax 64), .ref (ax 65), .ref (ax 66), .ref (ax 67)])), ((ax 66), .inl (D.1 13, 8, .inl (fun _ => (-2)))), ((ax 9), .inl (D.1 13, 6, .inl (fun _ => 0))), ((am 200), .inr (12, mO am 0 0 0 0 0 0 0 (-1) 0 0 1 0)), ((am 9), .inl (D.1 13, 6, .inl (fun _ => 0)))]) (hS : va_S A s.heap H locs) (hl : lv_has ls 4 [(3, .int 0), (2, .ref (am 200)), (1, .ref (ax 0)), (0, .ref b)]) : W p l e room_1 s m #[Value.ref b] below meth c H locs 164 46440 (lw_Z below #[Value.ref b] s) (F0 m 1049 ls []) := by
  have hbA : ¬ A b := fun h => absurd (hAs b h) (Nat.not_le.mpr hbl)
  refine lv_aload_n hx hb dL_law_1049 rfl (lv_at hl 2 rfl) ?_
  refine lv_aload_n hx hb dL_law_1050 rfl (lv_at hl 3 rfl) ?_
  refine lv_iload_n hx hb dL_law_1051 rfl (lv_at hl 0 rfl) ?_
  refine lv_iconst (v := 1) hx hb dL_law_1052 (by decide) ?_
  refine lv_iadd hx hb dL_law_1053 ?_
  refine z_topi (y := 1) (by decide) ?_
  refine va_sld hx hb hX hbl hbA hS (z_in (by decide) (by decide)) dL_law_1054 ?_
  refine lv_topi (fun p1 e1 => ?_)
  refine lv_aload_n hx hb dL_law_1055 rfl (lv_at hl 3 rfl) ?_
  refine lv_iload_n hx hb dL_law_1056 rfl (lv_at hl 0 rfl) ?_
  refine lv_iconst (v := 2) hx hb dL_law_1057 (by decide) ?_
  refine lv_iadd hx hb dL_law_1058 ?_
  refine z_topi (y := 2) (by decide) ?_
  refine va_sld hx hb hX hbl hbA hS (z_in (by decide) (by decide)) dL_law_1059 ?_
  refine lv_topi (fun p2 e2 => ?_)
  refine zwV (As := [.int p1, .int p2]) (rest := []) (C := RX11) (n := 2) (wr := [((am 200), .inr (12, mO am 0 0 0 0 0 0 0 (-1) 0 0 1 0)), ((am 9), .inl (D.1 13, 6, .inl (fun _ => 0)))]) ⟨hx, hb, hml, hown, ht⟩ (k_X11_remove l D _ ax p1 p2) (zgV ml_L_127 im_X11_remove se_X11_remove in_X11 co_X11_remove) rfl rfl (by decide +kernel) ⟨Nat.le_of_ble_eq_true rfl, Nat.le_of_ble_eq_true rfl⟩ hK hP hD hS hA [0, 1, 2, 3, 4] [5, 6] rfl rfl rfl rfl (by decide) 0 rfl rfl rfl rfl hl.1 rfl (Nat.le_of_ble_eq_true rfl) dL_law_1060 ⟨Nat.le_of_ble_eq_true rfl, Nat.le_of_ble_eq_true rfl⟩ (fun r_2 u_1 H locs hw hP hD hS => ?_)
  have hP : va_P D vwCl [((am 200), .inr (12, mO am 0 0 0 0 0 0 0 (-1) 0 0 1 0)), ((am 9), .inl (D.1 13, 6, .inl (fun _ => 0)))] H := hP
  have hD : va_D A [((am 200), .inr (12, mO am 0 0 0 0 0 0 0 (-1) 0 0 1 0)), ((am 9), .inl (D.1 13, 6, .inl (fun _ => 0)))] := hD
  subst hw
  refine lv_aload_n hx hb dL_law_1063 rfl (lv_at hl 1 rfl) ?_
  refine lv_aload_n hx hb dL_law_1064 rfl (lv_at hl 3 rfl) ?_
  refine lv_iload_n hx hb dL_law_1065 rfl (lv_at hl 0 rfl) ?_
  refine lv_iconst (v := 1) hx hb dL_law_1066 (by decide) ?_
  refine lv_iadd hx hb dL_law_1067 ?_
  refine z_topi (y := 1) (by decide) ?_
  refine va_sld hx hb hX hbl hbA hS (z_in (by decide) (by decide)) dL_law_1068 ?_
  refine z_topi (y := p1) e1.symm ?_
  refine lv_aload_n hx hb dL_law_1069 rfl (lv_at hl 3 rfl) ?_
  refine lv_iload_n hx hb dL_law_1070 rfl (lv_at hl 0 rfl) ?_
  refine lv_iconst (v := 2) hx hb dL_law_1071 (by decide) ?_
  refine lv_iadd hx hb dL_law_1072 ?_
  refine z_topi (y := 2) (by decide) ?_
  refine va_sld hx hb hX hbl hbA hS (z_in (by decide) (by decide)) dL_law_1073 ?_
  refine z_topi (y := p2) e2.symm ?_
  refine zwV (As := [.int p1, .int p2]) (rest := [.int (-1)]) (C := RX12) (n := 2) (wr := []) ⟨hx, hb, hml, hown, ht⟩ (k_X12_remove l D _ am p1 p2) (zgV ml_L_130 im_X12_remove se_X12_remove in_X12 co_X12_remove) rfl rfl (by decide +kernel) ⟨Nat.le_of_ble_eq_true rfl, Nat.le_of_ble_eq_true rfl⟩ hK hP hD hS hA [0, 1] [] rfl rfl rfl rfl (by decide) 0 rfl rfl rfl rfl hl.1 rfl (Nat.le_of_ble_eq_true rfl) dL_law_1074 ⟨Nat.le_of_ble_eq_true rfl, Nat.le_of_ble_eq_true rfl⟩ (fun r_4 u_3 H locs hw hP hD hS => ?_)
  have hP : va_P D vwCl [] H := hP
  have hD : va_D A [] := hD
  subst hw
  refine lv_icmp_eq (tgt := 1299) hx hb dL_law_1077 (by decide) (fun _ => ?_) (fun c_5 => (z_abs c_5 (by decide)).elim)
  exact lc_end hx hb hr hlocks hX hbl hAs hS (lv_sub hl [0, 3] rfl) (Nat.le_of_ble_eq_true rfl) (Nat.le_of_ble_eq_true rfl)
set_option maxHeartbeats 4000000 in
set_option maxRecDepth 100000 in
/-- copy -/
theorem lc_28 {p : Program} (l : Launch) {e : Env} {s : State} {m : MethodId} {below : List Frame} {meth : Method} {c : Code} {b : Nat} {xs : Nat → Int32} {H : Heap} {locs : List Loc} {ls : Array Slot} {A : Nat → Prop} {D : va_G} {ax am : Nat → Nat} (hx : p.tables.exec = Jvm.exec) (hb : c.code = cL_law) (hr : meth.sig.returnType = ret) (hlocks : meth.locks = false) (hml : c.maxLocals = 4) (hown : s.vm.findClass RL = some m.cls) (ht : ∀ w ∈ lw_gd, w.before #[Value.ref b] s = true) (hX : va_X b 6 xs s s.heap) (hbl : b < s.heap.size) (hA : ∀ q, s.heap.size ≤ q → A q) (hAs : ∀ q, A q → s.heap.size ≤ q) (hK : va_K D vwCl (TY D) s) (hP : va_P D vwCl [((ax 0), .inr (11, [.ref (ax 1), .ref (ax 2), .ref (ax 3), .ref (ax 4), .ref (ax 5), .ref (ax 6), .ref (ax 7), .ref (ax 8), .ref (ax 9), .ref (ax 10), .ref (ax 11), .ref (ax 12), .int 0])), ((ax 12), .inr (1, [.ref (ax 13), .ref (ax 14), .ref (ax 15), .int 1, .ref (ax 10), .ref (ax 16), .ref (ax 17), .ref (ax 18), .ref (ax 19)])), ((ax 13), .inr (8, [.int 0, .int 0, .long 0, .ref (ax 60), .ref (ax 61), .ref (ax 62), .ref (ax 63), .ref (ax 64), .ref (ax 65), .ref (ax 66), .ref (ax 67)])), ((ax 66), .inl (D.1 13, 8, .inl (fun _ => (-2)))), ((ax 9), .inl (D.1 13, 6, .inl (fun _ => 0))), ((am 200), .inr (12, mO am 0 0 0 0 0 0 0 (-1) 0 0 1 0)), ((am 9), .inl (D.1 13, 6, .inl (fun _ => 0))), ((am 49), .inl (D.1 13, 906, .inl (fun _ => 0)))] H) (hD : va_D A [((ax 0), .inr (11, [.ref (ax 1), .ref (ax 2), .ref (ax 3), .ref (ax 4), .ref (ax 5), .ref (ax 6), .ref (ax 7), .ref (ax 8), .ref (ax 9), .ref (ax 10), .ref (ax 11), .ref (ax 12), .int 0])), ((ax 12), .inr (1, [.ref (ax 13), .ref (ax 14), .ref (ax 15), .int 1, .ref (ax 10), .ref (ax 16), .ref (ax 17), .ref (ax 18), .ref (ax 19)])), ((ax 13), .inr (8, [.int 0, .int 0, .long 0, .ref (ax 60), .ref (ax 61), .ref (ax 62), .ref (ax 63), .ref (ax 64), .ref (ax 65), .ref (ax 66), .ref (ax 67)])), ((ax 66), .inl (D.1 13, 8, .inl (fun _ => (-2)))), ((ax 9), .inl (D.1 13, 6, .inl (fun _ => 0))), ((am 200), .inr (12, mO am 0 0 0 0 0 0 0 (-1) 0 0 1 0)), ((am 9), .inl (D.1 13, 6, .inl (fun _ => 0))), ((am 49), .inl (D.1 13, 906, .inl (fun _ => 0)))]) (hS : va_S A s.heap H locs) (hl : lv_has ls 4 [(3, .int 0), (2, .ref (am 200)), (1, .ref (ax 0)), (0, .ref b)]) : W p l e room_1 s m #[Value.ref b] below meth c H locs 164 46440 (lw_Z below #[Value.ref b] s) (F0 m 1082 ls []) := by
  have hbA : ¬ A b := fun h => absurd (hAs b h) (Nat.not_le.mpr hbl)
  refine lv_aload_n hx hb dL_law_1082 rfl (lv_at hl 2 rfl) ?_
  refine lv_aload_n hx hb dL_law_1083 rfl (lv_at hl 3 rfl) ?_
  refine lv_iload_n hx hb dL_law_1084 rfl (lv_at hl 0 rfl) ?_
  refine lv_iconst (v := 1) hx hb dL_law_1085 (by decide) ?_
  refine lv_iadd hx hb dL_law_1086 ?_
  refine z_topi (y := 1) (by decide) ?_
  refine va_sld hx hb hX hbl hbA hS (z_in (by decide) (by decide)) dL_law_1087 ?_
  refine lv_topi (fun p1 e1 => ?_)
  refine zwV (As := [.int p1]) (rest := []) (C := RX11) (n := 1) (wr := [((am 200), .inr (12, mO am 0 0 0 0 0 0 0 (-1) 0 0 1 0)), ((am 9), .inl (D.1 13, 6, .inl (fun _ => 0))), ((am 49), .inl (D.1 13, 906, .inl (fun _ => 0)))]) ⟨hx, hb, hml, hown, ht⟩ (k_X11_copy l D _ ax p1) (zgV ml_L_131 im_X11_copy se_X11_copy in_X11 co_X11_copy) rfl rfl (by decide +kernel) ⟨Nat.le_of_ble_eq_true rfl, Nat.le_of_ble_eq_true rfl⟩ hK hP hD hS hA [0, 1, 2, 3, 4] [5, 6, 7] rfl rfl rfl rfl (by decide) 0 rfl rfl rfl rfl hl.1 rfl (Nat.le_of_ble_eq_true rfl) dL_law_1088 ⟨Nat.le_of_ble_eq_true rfl, Nat.le_of_ble_eq_true rfl⟩ (fun r_2 u_1 H locs hw hP hD hS => ?_)
  have hP : va_P D vwCl [((am 200), .inr (12, mO am 0 0 0 0 0 0 0 (-1) 0 0 1 0)), ((am 9), .inl (D.1 13, 6, .inl (fun _ => 0))), ((am 49), .inl (D.1 13, 906, .inl (fun _ => 0)))] H := hP
  have hD : va_D A [((am 200), .inr (12, mO am 0 0 0 0 0 0 0 (-1) 0 0 1 0)), ((am 9), .inl (D.1 13, 6, .inl (fun _ => 0))), ((am 49), .inl (D.1 13, 906, .inl (fun _ => 0)))] := hD
  subst hw
  refine lv_aload_n hx hb dL_law_1091 rfl (lv_at hl 1 rfl) ?_
  refine lv_aload_n hx hb dL_law_1092 rfl (lv_at hl 3 rfl) ?_
  refine lv_iload_n hx hb dL_law_1093 rfl (lv_at hl 0 rfl) ?_
  refine lv_iconst (v := 1) hx hb dL_law_1094 (by decide) ?_
  refine lv_iadd hx hb dL_law_1095 ?_
  refine z_topi (y := 1) (by decide) ?_
  refine va_sld hx hb hX hbl hbA hS (z_in (by decide) (by decide)) dL_law_1096 ?_
  refine z_topi (y := p1) e1.symm ?_
  refine zwV (As := [.int p1]) (rest := [.int (-1)]) (C := RX12) (n := 1) (wr := []) ⟨hx, hb, hml, hown, ht⟩ (k_X12_copy l D _ am p1) (zgV ml_L_134 im_X12_copy se_X12_copy in_X12 co_X12_copy) rfl rfl (by decide +kernel) ⟨Nat.le_of_ble_eq_true rfl, Nat.le_of_ble_eq_true rfl⟩ hK hP hD hS hA [0, 1, 2] [] rfl rfl rfl rfl (by decide) 0 rfl rfl rfl rfl hl.1 rfl (Nat.le_of_ble_eq_true rfl) dL_law_1097 ⟨Nat.le_of_ble_eq_true rfl, Nat.le_of_ble_eq_true rfl⟩ (fun r_4 u_3 H locs hw hP hD hS => ?_)
  have hP : va_P D vwCl [] H := hP
  have hD : va_D A [] := hD
  subst hw
  refine lv_icmp_eq (tgt := 1299) hx hb dL_law_1100 (by decide) (fun _ => ?_) (fun c_5 => (z_abs c_5 (by decide)).elim)
  exact lc_end hx hb hr hlocks hX hbl hAs hS (lv_sub hl [0, 3] rfl) (Nat.le_of_ble_eq_true rfl) (Nat.le_of_ble_eq_true rfl)
set_option maxHeartbeats 4000000 in
set_option maxRecDepth 100000 in
/-- drop -/
theorem lc_29 {p : Program} (l : Launch) {e : Env} {s : State} {m : MethodId} {below : List Frame} {meth : Method} {c : Code} {b : Nat} {xs : Nat → Int32} {H : Heap} {locs : List Loc} {ls : Array Slot} {A : Nat → Prop} {D : va_G} {ax am : Nat → Nat} (hx : p.tables.exec = Jvm.exec) (hb : c.code = cL_law) (hr : meth.sig.returnType = ret) (hlocks : meth.locks = false) (hml : c.maxLocals = 4) (hown : s.vm.findClass RL = some m.cls) (ht : ∀ w ∈ lw_gd, w.before #[Value.ref b] s = true) (hX : va_X b 6 xs s s.heap) (hbl : b < s.heap.size) (hA : ∀ q, s.heap.size ≤ q → A q) (hAs : ∀ q, A q → s.heap.size ≤ q) (hK : va_K D vwCl (TY D) s) (hP : va_P D vwCl [((ax 0), .inr (11, [.ref (ax 1), .ref (ax 2), .ref (ax 3), .ref (ax 4), .ref (ax 5), .ref (ax 6), .ref (ax 7), .ref (ax 8), .ref (ax 9), .ref (ax 10), .ref (ax 11), .ref (ax 12), .int 0])), ((ax 12), .inr (1, [.ref (ax 13), .ref (ax 14), .ref (ax 15), .int 1, .ref (ax 10), .ref (ax 16), .ref (ax 17), .ref (ax 18), .ref (ax 19)])), ((ax 13), .inr (8, [.int 0, .int 0, .long 0, .ref (ax 60), .ref (ax 61), .ref (ax 62), .ref (ax 63), .ref (ax 64), .ref (ax 65), .ref (ax 66), .ref (ax 67)])), ((ax 66), .inl (D.1 13, 8, .inl (fun _ => (-2)))), ((ax 9), .inl (D.1 13, 6, .inl (fun _ => 0))), ((am 200), .inr (12, mO am 0 0 0 0 0 0 0 (-1) 0 0 1 0)), ((am 9), .inl (D.1 13, 6, .inl (fun _ => 0)))] H) (hD : va_D A [((ax 0), .inr (11, [.ref (ax 1), .ref (ax 2), .ref (ax 3), .ref (ax 4), .ref (ax 5), .ref (ax 6), .ref (ax 7), .ref (ax 8), .ref (ax 9), .ref (ax 10), .ref (ax 11), .ref (ax 12), .int 0])), ((ax 12), .inr (1, [.ref (ax 13), .ref (ax 14), .ref (ax 15), .int 1, .ref (ax 10), .ref (ax 16), .ref (ax 17), .ref (ax 18), .ref (ax 19)])), ((ax 13), .inr (8, [.int 0, .int 0, .long 0, .ref (ax 60), .ref (ax 61), .ref (ax 62), .ref (ax 63), .ref (ax 64), .ref (ax 65), .ref (ax 66), .ref (ax 67)])), ((ax 66), .inl (D.1 13, 8, .inl (fun _ => (-2)))), ((ax 9), .inl (D.1 13, 6, .inl (fun _ => 0))), ((am 200), .inr (12, mO am 0 0 0 0 0 0 0 (-1) 0 0 1 0)), ((am 9), .inl (D.1 13, 6, .inl (fun _ => 0)))]) (hS : va_S A s.heap H locs) (hl : lv_has ls 4 [(3, .int 0), (2, .ref (am 200)), (1, .ref (ax 0)), (0, .ref b)]) : W p l e room_1 s m #[Value.ref b] below meth c H locs 164 46440 (lw_Z below #[Value.ref b] s) (F0 m 1105 ls []) := by
  have hbA : ¬ A b := fun h => absurd (hAs b h) (Nat.not_le.mpr hbl)
  refine lv_aload_n hx hb dL_law_1105 rfl (lv_at hl 2 rfl) ?_
  refine lv_aload_n hx hb dL_law_1106 rfl (lv_at hl 3 rfl) ?_
  refine lv_iload_n hx hb dL_law_1107 rfl (lv_at hl 0 rfl) ?_
  refine lv_iconst (v := 1) hx hb dL_law_1108 (by decide) ?_
  refine lv_iadd hx hb dL_law_1109 ?_
  refine z_topi (y := 1) (by decide) ?_
  refine va_sld hx hb hX hbl hbA hS (z_in (by decide) (by decide)) dL_law_1110 ?_
  refine lv_topi (fun p1 e1 => ?_)
  refine zwV (As := [.int p1]) (rest := []) (C := RX11) (n := 1) (wr := [((am 200), .inr (12, mO am 0 0 0 0 0 0 0 (-1) 0 0 1 0)), ((am 9), .inl (D.1 13, 6, .inl (fun _ => 0)))]) ⟨hx, hb, hml, hown, ht⟩ (k_X11_drop l D _ ax p1) (zgV ml_L_135 im_X11_drop se_X11_drop in_X11 co_X11_drop) rfl rfl (by decide +kernel) ⟨Nat.le_of_ble_eq_true rfl, Nat.le_of_ble_eq_true rfl⟩ hK hP hD hS hA [0, 1, 2, 3, 4] [5, 6] rfl rfl rfl rfl (by decide) 0 rfl rfl rfl rfl hl.1 rfl (Nat.le_of_ble_eq_true rfl) dL_law_1111 ⟨Nat.le_of_ble_eq_true rfl, Nat.le_of_ble_eq_true rfl⟩ (fun r_2 u_1 H locs hw hP hD hS => ?_)
  have hP : va_P D vwCl [((am 200), .inr (12, mO am 0 0 0 0 0 0 0 (-1) 0 0 1 0)), ((am 9), .inl (D.1 13, 6, .inl (fun _ => 0)))] H := hP
  have hD : va_D A [((am 200), .inr (12, mO am 0 0 0 0 0 0 0 (-1) 0 0 1 0)), ((am 9), .inl (D.1 13, 6, .inl (fun _ => 0)))] := hD
  subst hw
  refine lv_aload_n hx hb dL_law_1114 rfl (lv_at hl 1 rfl) ?_
  refine lv_aload_n hx hb dL_law_1115 rfl (lv_at hl 3 rfl) ?_
  refine lv_iload_n hx hb dL_law_1116 rfl (lv_at hl 0 rfl) ?_
  refine lv_iconst (v := 1) hx hb dL_law_1117 (by decide) ?_
  refine lv_iadd hx hb dL_law_1118 ?_
  refine z_topi (y := 1) (by decide) ?_
  refine va_sld hx hb hX hbl hbA hS (z_in (by decide) (by decide)) dL_law_1119 ?_
  refine z_topi (y := p1) e1.symm ?_
  refine zwV (As := [.int p1]) (rest := [.int (-1)]) (C := RX12) (n := 1) (wr := []) ⟨hx, hb, hml, hown, ht⟩ (k_X12_drop l D _ am p1) (zgV ml_L_138 im_X12_drop se_X12_drop in_X12 co_X12_drop) rfl rfl (by decide +kernel) ⟨Nat.le_of_ble_eq_true rfl, Nat.le_of_ble_eq_true rfl⟩ hK hP hD hS hA [0, 1] [] rfl rfl rfl rfl (by decide) 0 rfl rfl rfl rfl hl.1 rfl (Nat.le_of_ble_eq_true rfl) dL_law_1120 ⟨Nat.le_of_ble_eq_true rfl, Nat.le_of_ble_eq_true rfl⟩ (fun r_4 u_3 H locs hw hP hD hS => ?_)
  have hP : va_P D vwCl [] H := hP
  have hD : va_D A [] := hD
  subst hw
  refine lv_icmp_eq (tgt := 1299) hx hb dL_law_1123 (by decide) (fun _ => ?_) (fun c_5 => (z_abs c_5 (by decide)).elim)
  exact lc_end hx hb hr hlocks hX hbl hAs hS (lv_sub hl [0, 3] rfl) (Nat.le_of_ble_eq_true rfl) (Nat.le_of_ble_eq_true rfl)
