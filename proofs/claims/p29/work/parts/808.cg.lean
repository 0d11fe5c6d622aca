theorem ac_boolean : Cond.arrayClass .boolean ∈ lw_gd := zm (lw_g_8 (List.mem_of_getElem? (i := 10) (by decide +kernel))) rfl
theorem fl_X12_102 : Cond.fieldLink RX12 102 "CloneVolumesModel" "many" "[I" ∈ lw_gd := zm (lw_g_6 (List.mem_of_getElem? (i := 180) (by decide +kernel))) rfl
theorem fl_X12_105 : Cond.fieldLink RX12 105 "CloneVolumesModel" "names" "[J" ∈ lw_gd := zm (lw_g_6 (List.mem_of_getElem? (i := 181) (by decide +kernel))) rfl
theorem fl_X12_109 : Cond.fieldLink RX12 109 "CloneVolumesModel" "acts" "[I" ∈ lw_gd := zm (lw_g_6 (List.mem_of_getElem? (i := 182) (by decide +kernel))) rfl
theorem fl_X12_112 : Cond.fieldLink RX12 112 "CloneVolumesModel" "codeFrom" "[I" ∈ lw_gd := zm (lw_g_6 (List.mem_of_getElem? (i := 183) (by decide +kernel))) rfl
theorem fl_X12_115 : Cond.fieldLink RX12 115 "CloneVolumesModel" "codeEnd" "[I" ∈ lw_gd := zm (lw_g_6 (List.mem_of_getElem? (i := 184) (by decide +kernel))) rfl
theorem fl_X12_118 : Cond.fieldLink RX12 118 "CloneVolumesModel" "codes" "[I" ∈ lw_gd := zm (lw_g_6 (List.mem_of_getElem? (i := 185) (by decide +kernel))) rfl
theorem fl_X12_121 : Cond.fieldLink RX12 121 "CloneVolumesModel" "now" "[I" ∈ lw_gd := zm (lw_g_6 (List.mem_of_getElem? (i := 190) (by decide +kernel))) rfl
theorem fl_X12_124 : Cond.fieldLink RX12 124 "CloneVolumesModel" "isTouched" "[Z" ∈ lw_gd := zm (lw_g_6 (List.mem_of_getElem? (i := 195) (by decide +kernel))) rfl
theorem fl_X12_128 : Cond.fieldLink RX12 128 "CloneVolumesModel" "fallRow" "[I" ∈ lw_gd := zm (lw_g_6 (List.mem_of_getElem? (i := 197) (by decide +kernel))) rfl
theorem fl_X12_131 : Cond.fieldLink RX12 131 "CloneVolumesModel" "wayBlocks" "[I" ∈ lw_gd := zm (lw_g_6 (List.mem_of_getElem? (i := 198) (by decide +kernel))) rfl
theorem fl_X12_134 : Cond.fieldLink RX12 134 "CloneVolumesModel" "wayPlaces" "[I" ∈ lw_gd := zm (lw_g_6 (List.mem_of_getElem? (i := 199) (by decide +kernel))) rfl
theorem fl_X12_137 : Cond.fieldLink RX12 137 "CloneVolumesModel" "tried" "[I" ∈ lw_gd := zm (lw_g_6 (List.mem_of_getElem? (i := 200) (by decide +kernel))) rfl
theorem fl_X12_140 : Cond.fieldLink RX12 140 "CloneVolumesModel" "wasTouched" "[Z" ∈ lw_gd := zm (lw_g_6 (List.mem_of_getElem? (i := 201) (by decide +kernel))) rfl
theorem fl_X12_143 : Cond.fieldLink RX12 143 "CloneVolumesModel" "aside" "[I" ∈ lw_gd := zm (lw_g_6 (List.mem_of_getElem? (i := 202) (by decide +kernel))) rfl
theorem fl_X12_146 : Cond.fieldLink RX12 146 "CloneVolumesModel" "treeRow" "[I" ∈ lw_gd := zm (lw_g_6 (List.mem_of_getElem? (i := 203) (by decide +kernel))) rfl
theorem fl_X12_149 : Cond.fieldLink RX12 149 "CloneVolumesModel" "isInTree" "[Z" ∈ lw_gd := zm (lw_g_6 (List.mem_of_getElem? (i := 204) (by decide +kernel))) rfl
theorem fl_X12_84 : Cond.fieldLink RX12 84 "CloneVolumesModel" "orWord" "[C" ∈ lw_gd := zm (lw_g_6 (List.mem_of_getElem? (i := 173) (by decide +kernel))) rfl
theorem fl_X12_87 : Cond.fieldLink RX12 87 "CloneVolumesModel" "andWord" "[C" ∈ lw_gd := zm (lw_g_6 (List.mem_of_getElem? (i := 174) (by decide +kernel))) rfl
theorem fl_X12_90 : Cond.fieldLink RX12 90 "CloneVolumesModel" "notWord" "[C" ∈ lw_gd := zm (lw_g_6 (List.mem_of_getElem? (i := 175) (by decide +kernel))) rfl
theorem fl_X12_93 : Cond.fieldLink RX12 93 "CloneVolumesModel" "allWord" "[C" ∈ lw_gd := zm (lw_g_6 (List.mem_of_getElem? (i := 176) (by decide +kernel))) rfl
theorem fl_X12_96 : Cond.fieldLink RX12 96 "CloneVolumesModel" "minWord" "[C" ∈ lw_gd := zm (lw_g_6 (List.mem_of_getElem? (i := 177) (by decide +kernel))) rfl
theorem fl_X12_99 : Cond.fieldLink RX12 99 "CloneVolumesModel" "maxWord" "[C" ∈ lw_gd := zm (lw_g_6 (List.mem_of_getElem? (i := 178) (by decide +kernel))) rfl
theorem eX12_init_690 : decode cX12_init 690 = .ok (.aload_n 0, 1) ∧ decode cX12_init 691 = .ok (.iconst 2, 1) ∧ decode cX12_init 692 = .ok (.newarray .char, 2) ∧ decode cX12_init 694 = .ok (.dup, 1) ∧ decode cX12_init 695 = .ok (.iconst 0, 1) ∧ decode cX12_init 696 = .ok (.bipush 111, 2) ∧ decode cX12_init 698 = .ok (.castore, 1) ∧ decode cX12_init 699 = .ok (.dup, 1) := by decide +kernel
theorem eX12_init_700 : decode cX12_init 700 = .ok (.iconst 1, 1) ∧ decode cX12_init 701 = .ok (.bipush 114, 2) ∧ decode cX12_init 703 = .ok (.castore, 1) ∧ decode cX12_init 704 = .ok (.putfield 84, 3) ∧ decode cX12_init 707 = .ok (.aload_n 0, 1) ∧ decode cX12_init 708 = .ok (.iconst 3, 1) ∧ decode cX12_init 709 = .ok (.newarray .char, 2) ∧ decode cX12_init 711 = .ok (.dup, 1) := by decide +kernel
theorem eX12_init_712 : decode cX12_init 712 = .ok (.iconst 0, 1) ∧ decode cX12_init 713 = .ok (.bipush 97, 2) ∧ decode cX12_init 715 = .ok (.castore, 1) ∧ decode cX12_init 716 = .ok (.dup, 1) ∧ decode cX12_init 717 = .ok (.iconst 1, 1) ∧ decode cX12_init 718 = .ok (.bipush 110, 2) ∧ decode cX12_init 720 = .ok (.castore, 1) ∧ decode cX12_init 721 = .ok (.dup, 1) := by decide +kernel
theorem eX12_init_722 : decode cX12_init 722 = .ok (.iconst 2, 1) ∧ decode cX12_init 723 = .ok (.bipush 100, 2) ∧ decode cX12_init 725 = .ok (.castore, 1) ∧ decode cX12_init 726 = .ok (.putfield 87, 3) ∧ decode cX12_init 729 = .ok (.aload_n 0, 1) ∧ decode cX12_init 730 = .ok (.iconst 3, 1) ∧ decode cX12_init 731 = .ok (.newarray .char, 2) ∧ decode cX12_init 733 = .ok (.dup, 1) := by decide +kernel
theorem eX12_init_734 : decode cX12_init 734 = .ok (.iconst 0, 1) ∧ decode cX12_init 735 = .ok (.bipush 110, 2) ∧ decode cX12_init 737 = .ok (.castore, 1) ∧ decode cX12_init 738 = .ok (.dup, 1) ∧ decode cX12_init 739 = .ok (.iconst 1, 1) ∧ decode cX12_init 740 = .ok (.bipush 111, 2) ∧ decode cX12_init 742 = .ok (.castore, 1) ∧ decode cX12_init 743 = .ok (.dup, 1) := by decide +kernel
theorem eX12_init_744 : decode cX12_init 744 = .ok (.iconst 2, 1) ∧ decode cX12_init 745 = .ok (.bipush 116, 2) ∧ decode cX12_init 747 = .ok (.castore, 1) ∧ decode cX12_init 748 = .ok (.putfield 90, 3) ∧ decode cX12_init 751 = .ok (.aload_n 0, 1) ∧ decode cX12_init 752 = .ok (.iconst 3, 1) ∧ decode cX12_init 753 = .ok (.newarray .char, 2) ∧ decode cX12_init 755 = .ok (.dup, 1) := by decide +kernel
theorem eX12_init_756 : decode cX12_init 756 = .ok (.iconst 0, 1) ∧ decode cX12_init 757 = .ok (.bipush 97, 2) ∧ decode cX12_init 759 = .ok (.castore, 1) ∧ decode cX12_init 760 = .ok (.dup, 1) ∧ decode cX12_init 761 = .ok (.iconst 1, 1) ∧ decode cX12_init 762 = .ok (.bipush 108, 2) ∧ decode cX12_init 764 = .ok (.castore, 1) ∧ decode cX12_init 765 = .ok (.dup, 1) := by decide +kernel
theorem eX12_init_766 : decode cX12_init 766 = .ok (.iconst 2, 1) ∧ decode cX12_init 767 = .ok (.bipush 108, 2) ∧ decode cX12_init 769 = .ok (.castore, 1) ∧ decode cX12_init 770 = .ok (.putfield 93, 3) ∧ decode cX12_init 773 = .ok (.aload_n 0, 1) ∧ decode cX12_init 774 = .ok (.iconst 3, 1) ∧ decode cX12_init 775 = .ok (.newarray .char, 2) ∧ decode cX12_init 777 = .ok (.dup, 1) := by decide +kernel
theorem eX12_init_778 : decode cX12_init 778 = .ok (.iconst 0, 1) ∧ decode cX12_init 779 = .ok (.bipush 109, 2) ∧ decode cX12_init 781 = .ok (.castore, 1) ∧ decode cX12_init 782 = .ok (.dup, 1) ∧ decode cX12_init 783 = .ok (.iconst 1, 1) ∧ decode cX12_init 784 = .ok (.bipush 105, 2) ∧ decode cX12_init 786 = .ok (.castore, 1) ∧ decode cX12_init 787 = .ok (.dup, 1) := by decide +kernel
theorem eX12_init_788 : decode cX12_init 788 = .ok (.iconst 2, 1) ∧ decode cX12_init 789 = .ok (.bipush 110, 2) ∧ decode cX12_init 791 = .ok (.castore, 1) ∧ decode cX12_init 792 = .ok (.putfield 96, 3) ∧ decode cX12_init 795 = .ok (.aload_n 0, 1) ∧ decode cX12_init 796 = .ok (.iconst 3, 1) ∧ decode cX12_init 797 = .ok (.newarray .char, 2) ∧ decode cX12_init 799 = .ok (.dup, 1) := by decide +kernel
theorem eX12_init_800 : decode cX12_init 800 = .ok (.iconst 0, 1) ∧ decode cX12_init 801 = .ok (.bipush 109, 2) ∧ decode cX12_init 803 = .ok (.castore, 1) ∧ decode cX12_init 804 = .ok (.dup, 1) ∧ decode cX12_init 805 = .ok (.iconst 1, 1) ∧ decode cX12_init 806 = .ok (.bipush 97, 2) ∧ decode cX12_init 808 = .ok (.castore, 1) ∧ decode cX12_init 809 = .ok (.dup, 1) := by decide +kernel
theorem eX12_init_810 : decode cX12_init 810 = .ok (.iconst 2, 1) ∧ decode cX12_init 811 = .ok (.bipush 120, 2) ∧ decode cX12_init 813 = .ok (.castore, 1) ∧ decode cX12_init 814 = .ok (.putfield 99, 3) ∧ decode cX12_init 817 = .ok (.aload_n 0, 1) ∧ decode cX12_init 818 = .ok (.bipush 10, 2) ∧ decode cX12_init 820 = .ok (.newarray .int, 2) ∧ decode cX12_init 822 = .ok (.putfield 102, 3) := by decide +kernel
theorem eX12_init_825 : decode cX12_init 825 = .ok (.aload_n 0, 1) ∧ decode cX12_init 826 = .ok (.bipush 16, 2) ∧ decode cX12_init 828 = .ok (.newarray .long, 2) ∧ decode cX12_init 830 = .ok (.putfield 105, 3) ∧ decode cX12_init 833 = .ok (.aload_n 0, 1) ∧ decode cX12_init 834 = .ok (.sipush 240, 3) ∧ decode cX12_init 837 = .ok (.newarray .int, 2) ∧ decode cX12_init 839 = .ok (.putfield 109, 3) := by decide +kernel
theorem eX12_init_842 : decode cX12_init 842 = .ok (.aload_n 0, 1) ∧ decode cX12_init 843 = .ok (.bipush 6, 2) ∧ decode cX12_init 845 = .ok (.newarray .int, 2) ∧ decode cX12_init 847 = .ok (.dup, 1) ∧ decode cX12_init 848 = .ok (.iconst 0, 1) ∧ decode cX12_init 849 = .ok (.iconst (-1), 1) ∧ decode cX12_init 850 = .ok (.iastore, 1) ∧ decode cX12_init 851 = .ok (.dup, 1) := by decide +kernel
theorem eX12_init_852 : decode cX12_init 852 = .ok (.iconst 1, 1) ∧ decode cX12_init 853 = .ok (.iconst (-1), 1) ∧ decode cX12_init 854 = .ok (.iastore, 1) ∧ decode cX12_init 855 = .ok (.dup, 1) ∧ decode cX12_init 856 = .ok (.iconst 2, 1) ∧ decode cX12_init 857 = .ok (.iconst (-1), 1) ∧ decode cX12_init 858 = .ok (.iastore, 1) ∧ decode cX12_init 859 = .ok (.dup, 1) := by decide +kernel
theorem eX12_init_860 : decode cX12_init 860 = .ok (.iconst 3, 1) ∧ decode cX12_init 861 = .ok (.iconst (-1), 1) ∧ decode cX12_init 862 = .ok (.iastore, 1) ∧ decode cX12_init 863 = .ok (.dup, 1) ∧ decode cX12_init 864 = .ok (.iconst 4, 1) ∧ decode cX12_init 865 = .ok (.iconst (-1), 1) ∧ decode cX12_init 866 = .ok (.iastore, 1) ∧ decode cX12_init 867 = .ok (.dup, 1) := by decide +kernel
theorem eX12_init_868 : decode cX12_init 868 = .ok (.iconst 5, 1) ∧ decode cX12_init 869 = .ok (.iconst (-1), 1) ∧ decode cX12_init 870 = .ok (.iastore, 1) ∧ decode cX12_init 871 = .ok (.putfield 112, 3) ∧ decode cX12_init 874 = .ok (.aload_n 0, 1) ∧ decode cX12_init 875 = .ok (.bipush 6, 2) ∧ decode cX12_init 877 = .ok (.newarray .int, 2) ∧ decode cX12_init 879 = .ok (.putfield 115, 3) := by decide +kernel
theorem eX12_init_882 : decode cX12_init 882 = .ok (.aload_n 0, 1) ∧ decode cX12_init 883 = .ok (.sipush 3200, 3) ∧ decode cX12_init 886 = .ok (.newarray .int, 2) ∧ decode cX12_init 888 = .ok (.putfield 118, 3) ∧ decode cX12_init 891 = .ok (.aload_n 0, 1) ∧ decode cX12_init 892 = .ok (.sipush 906, 3) ∧ decode cX12_init 895 = .ok (.newarray .int, 2) ∧ decode cX12_init 897 = .ok (.putfield 121, 3) := by decide +kernel
theorem eX12_init_900 : decode cX12_init 900 = .ok (.aload_n 0, 1) ∧ decode cX12_init 901 = .ok (.bipush 48, 2) ∧ decode cX12_init 903 = .ok (.newarray .boolean, 2) ∧ decode cX12_init 905 = .ok (.putfield 124, 3) ∧ decode cX12_init 908 = .ok (.aload_n 0, 1) ∧ decode cX12_init 909 = .ok (.sipush 300, 3) ∧ decode cX12_init 912 = .ok (.newarray .int, 2) ∧ decode cX12_init 914 = .ok (.putfield 128, 3) := by decide +kernel
theorem eX12_init_917 : decode cX12_init 917 = .ok (.aload_n 0, 1) ∧ decode cX12_init 918 = .ok (.bipush 48, 2) ∧ decode cX12_init 920 = .ok (.newarray .int, 2) ∧ decode cX12_init 922 = .ok (.putfield 131, 3) ∧ decode cX12_init 925 = .ok (.aload_n 0, 1) ∧ decode cX12_init 926 = .ok (.bipush 48, 2) ∧ decode cX12_init 928 = .ok (.newarray .int, 2) ∧ decode cX12_init 930 = .ok (.putfield 134, 3) := by decide +kernel
theorem eX12_init_933 : decode cX12_init 933 = .ok (.aload_n 0, 1) ∧ decode cX12_init 934 = .ok (.sipush 785, 3) ∧ decode cX12_init 937 = .ok (.newarray .int, 2) ∧ decode cX12_init 939 = .ok (.putfield 137, 3) ∧ decode cX12_init 942 = .ok (.aload_n 0, 1) ∧ decode cX12_init 943 = .ok (.bipush 48, 2) ∧ decode cX12_init 945 = .ok (.newarray .boolean, 2) ∧ decode cX12_init 947 = .ok (.putfield 140, 3) := by decide +kernel
theorem eX12_init_950 : decode cX12_init 950 = .ok (.aload_n 0, 1) ∧ decode cX12_init 951 = .ok (.sipush 785, 3) ∧ decode cX12_init 954 = .ok (.newarray .int, 2) ∧ decode cX12_init 956 = .ok (.putfield 143, 3) ∧ decode cX12_init 959 = .ok (.aload_n 0, 1) ∧ decode cX12_init 960 = .ok (.sipush 300, 3) ∧ decode cX12_init 963 = .ok (.newarray .int, 2) ∧ decode cX12_init 965 = .ok (.putfield 146, 3) := by decide +kernel
theorem eX12_init_968 : decode cX12_init 968 = .ok (.aload_n 0, 1) ∧ decode cX12_init 969 = .ok (.bipush 48, 2) ∧ decode cX12_init 971 = .ok (.newarray .boolean, 2) ∧ decode cX12_init 973 = .ok (.putfield 149, 3) := by decide +kernel
set_option maxHeartbeats 4000000 in
set_option maxRecDepth 100000 in
theorem cM_10 {p : Program} {l : Launch} {e : Env} {R : Room} {s : State} {m : MethodId} {args : Array Value} {below : List Frame} {meth : Method} {c : Code} {Q : State → Prop} {D : va_G} {A : Nat → Prop} {ls : Array Slot} {h0 : Nat} {T : va_W} (hx : p.tables.exec = Jvm.exec) (hb : c.code = cX12_init) (ht : ∀ w ∈ lw_gd, w.before args s = true) (hown : s.vm.findClass RX12 = some m.cls) (hin : meth.name = "<init>") (hK : va_K D vwCl (TY D) s) (hA : ∀ q : Nat, s.heap.size ≤ q → A q) (hRc : 80 ≤ R.cells) (hRs : 35050 ≤ R.slots) (hl : lv_has ls 1 [(0, .ref h0)]) {fs : List Value} (hlen : fs.length = 116) {H : Heap} {locs : List Loc} (hP : va_P D vwCl ((h0, .inr (12, fs)) :: T) H) (hD : va_D A ((h0, .inr (12, fs)) :: T)) (hS : va_S A s.heap H locs)
    (kk : ∀ (q_54 : Nat) (q_52 : Nat) (q_50 : Nat) (q_48 : Nat) (fs' : List Value) (H : Heap) (locs : List Loc), fs' = ((((fs.set 32 (.ref q_48)).set 33 (.ref q_50)).set 34 (.ref q_52)).set 35 (.ref q_54)) → va_P D vwCl ((h0, .inr (12, fs')) :: (q_54, .inl (D.1 14, 3, .inl (fun j => i2 (upZ (upZ (upZ (fun _ => 0) 0 97) 1 108) 2 108 j)))) :: (q_52, .inl (D.1 14, 3, .inl (fun j => i2 (upZ (upZ (upZ (fun _ => 0) 0 110) 1 111) 2 116 j)))) :: (q_50, .inl (D.1 14, 3, .inl (fun j => i2 (upZ (upZ (upZ (fun _ => 0) 0 97) 1 110) 2 100 j)))) :: (q_48, .inl (D.1 14, 2, .inl (fun j => i2 (upZ (upZ (fun _ => 0) 0 111) 1 114 j)))) :: T) H → va_D A ((h0, .inr (12, fs')) :: (q_54, .inl (D.1 14, 3, .inl (fun j => i2 (upZ (upZ (upZ (fun _ => 0) 0 97) 1 108) 2 108 j)))) :: (q_52, .inl (D.1 14, 3, .inl (fun j => i2 (upZ (upZ (upZ (fun _ => 0) 0 110) 1 111) 2 116 j)))) :: (q_50, .inl (D.1 14, 3, .inl (fun j => i2 (upZ (upZ (upZ (fun _ => 0) 0 97) 1 110) 2 100 j)))) :: (q_48, .inl (D.1 14, 2, .inl (fun j => i2 (upZ (upZ (fun _ => 0) 0 111) 1 114 j)))) :: T) → va_S A s.heap H locs → W p l e R s m args below meth c H locs 27 1719 Q (F0 m 773 ls [])) : W p l e R s m args below meth c H locs 23 1708 Q (F0 m 690 ls []) := by
  refine lv_aload_n hx hb eX12_init_690.1 rfl (lv_at hl 0 rfl) ?_
  refine lv_iconst (v := 2) hx hb eX12_init_690.2.1 (by decide) ?_
  refine va_newa (atype := .char) (a0 := (2, .inl (fun _ => 0))) (ty := .char) (N' := 2) hx hb (ht _ ac_char) rfl hK hP hD hS hA (fun _ => rfl) (by decide) (by decide) (by decide) (Nat.le_trans (Nat.le_of_ble_eq_true rfl) hRc) (Nat.le_trans (Nat.le_of_ble_eq_true rfl) hRs) eX12_init_690.2.2.1 (fun q_48 cA H hK2 hP hD hS => ?_)
  obtain rfl := z_cls_char hK hK2
  refine W.widen (k := 24) (n := 1710) (Nat.le_of_ble_eq_true rfl) (Nat.le_of_ble_eq_true rfl) ?_
  obtain ⟨hP, hD⟩ := z_rot hP hD
  have hP : va_P D vwCl ((h0, .inr (12, fs)) :: (q_48, .inl (D.1 14, 2, .inl (fun _ => i2 0))) :: T) H := hP
  have hD : va_D A ((h0, .inr (12, fs)) :: (q_48, .inl (D.1 14, 2, .inl (fun _ => i2 0))) :: T) := hD
  refine lv_dup hx hb eX12_init_690.2.2.2.1 rfl ?_
  refine lv_iconst (v := 0) hx hb eX12_init_690.2.2.2.2.1 (by decide) ?_
  refine lv_bipush (v := 111) hx hb eX12_init_690.2.2.2.2.2.1 (by decide) ?_
  refine va_cast hx hb hK hP hD hS 1 1 rfl rfl (z_in (by decide) (by decide)) eX12_init_690.2.2.2.2.2.2.1 (fun H locs hP hD hS => ?_)
  rw [c_i2 (k := Int32.toNatClampNeg 0) (c := vp_nar .char 111) (v := 111) (by decide)] at hP hD
  have hP : va_P D vwCl (_ :: (q_48, .inl (_, _, .inl (fun j => i2 (upZ _ 0 111 j)))) :: _) H := hP
  have hD : va_D A (_ :: (q_48, .inl (_, _, .inl (fun j => i2 (upZ _ 0 111 j)))) :: _) := hD
  refine lv_dup hx hb eX12_init_690.2.2.2.2.2.2.2 rfl ?_
  refine lv_iconst (v := 1) hx hb eX12_init_700.1 (by decide) ?_
  refine lv_bipush (v := 114) hx hb eX12_init_700.2.1 (by decide) ?_
  refine va_cast hx hb hK hP hD hS 1 1 rfl rfl (z_in (by decide) (by decide)) eX12_init_700.2.2.1 (fun H locs hP hD hS => ?_)
  rw [c_i2 (k := Int32.toNatClampNeg 1) (c := vp_nar .char 114) (v := 114) (by decide)] at hP hD
  have hP : va_P D vwCl (_ :: (q_48, .inl (_, _, .inl (fun j => i2 (upZ _ 1 114 j)))) :: _) H := hP
  have hD : va_D A (_ :: (q_48, .inl (_, _, .inl (fun j => i2 (upZ _ 1 114 j)))) :: _) := hD
  refine va_putF (D := D) (ci := 12) (v := .ref q_48) (ty := .array .char) (C := RX12) (T := TX12) (N := 116) hx hb ht inX12 tyX12 tyX12_ok nmX12 hown hK hP hD hS 0 rfl rfl 32 (by decide) (ht (.fieldLink RX12 84 "CloneVolumesModel" "orWord" "[C") fl_X12_84) (fun _ h9 => h9) rfl hin rfl (by decide +kernel) rfl rfl (by rw [hlen]; decide) eX12_init_700.2.2.2.1 (fun H locs hP hD hS => ?_)
  have hP : va_P D vwCl ((h0, .inr (12, (fs.set 32 (.ref q_48)))) :: _) H := hP
  have hD : va_D A ((h0, .inr (12, (fs.set 32 (.ref q_48)))) :: _) := hD
  generalize hfs_49 : fs.set 32 (.ref q_48) = fs_49 at hP hD
  have hlen : fs_49.length = 116 := by rw [← hfs_49, List.length_set]; exact hlen
  have hP : va_P D vwCl ((h0, .inr (12, fs_49)) :: _) H := hP
  have hD : va_D A ((h0, .inr (12, fs_49)) :: _) := hD
  refine lv_aload_n hx hb eX12_init_700.2.2.2.2.1 rfl (lv_at hl 0 rfl) ?_
  refine lv_iconst (v := 3) hx hb eX12_init_700.2.2.2.2.2.1 (by decide) ?_
  refine va_newa (atype := .char) (a0 := (3, .inl (fun _ => 0))) (ty := .char) (N' := 3) hx hb (ht _ ac_char) rfl hK hP hD hS hA (fun _ => rfl) (by decide) (by decide) (by decide) (Nat.le_trans (Nat.le_of_ble_eq_true rfl) hRc) (Nat.le_trans (Nat.le_of_ble_eq_true rfl) hRs) eX12_init_700.2.2.2.2.2.2.1 (fun q_50 cA H hK2 hP hD hS => ?_)
  obtain rfl := z_cls_char hK hK2
  refine W.widen (k := 25) (n := 1713) (Nat.le_of_ble_eq_true rfl) (Nat.le_of_ble_eq_true rfl) ?_
  obtain ⟨hP, hD⟩ := z_rot hP hD
  have hP : va_P D vwCl ((h0, .inr (12, fs_49)) :: (q_50, .inl (D.1 14, 3, .inl (fun _ => i2 0))) :: _) H := hP
  have hD : va_D A ((h0, .inr (12, fs_49)) :: (q_50, .inl (D.1 14, 3, .inl (fun _ => i2 0))) :: _) := hD
  refine lv_dup hx hb eX12_init_700.2.2.2.2.2.2.2 rfl ?_
  refine lv_iconst (v := 0) hx hb eX12_init_712.1 (by decide) ?_
  refine lv_bipush (v := 97) hx hb eX12_init_712.2.1 (by decide) ?_
  refine va_cast hx hb hK hP hD hS 1 1 rfl rfl (z_in (by decide) (by decide)) eX12_init_712.2.2.1 (fun H locs hP hD hS => ?_)
  rw [c_i2 (k := Int32.toNatClampNeg 0) (c := vp_nar .char 97) (v := 97) (by decide)] at hP hD
  have hP : va_P D vwCl (_ :: (q_50, .inl (_, _, .inl (fun j => i2 (upZ _ 0 97 j)))) :: _) H := hP
  have hD : va_D A (_ :: (q_50, .inl (_, _, .inl (fun j => i2 (upZ _ 0 97 j)))) :: _) := hD
  refine lv_dup hx hb eX12_init_712.2.2.2.1 rfl ?_
  refine lv_iconst (v := 1) hx hb eX12_init_712.2.2.2.2.1 (by decide) ?_
  refine lv_bipush (v := 110) hx hb eX12_init_712.2.2.2.2.2.1 (by decide) ?_
  refine va_cast hx hb hK hP hD hS 1 1 rfl rfl (z_in (by decide) (by decide)) eX12_init_712.2.2.2.2.2.2.1 (fun H locs hP hD hS => ?_)
  rw [c_i2 (k := Int32.toNatClampNeg 1) (c := vp_nar .char 110) (v := 110) (by decide)] at hP hD
  have hP : va_P D vwCl (_ :: (q_50, .inl (_, _, .inl (fun j => i2 (upZ _ 1 110 j)))) :: _) H := hP
  have hD : va_D A (_ :: (q_50, .inl (_, _, .inl (fun j => i2 (upZ _ 1 110 j)))) :: _) := hD
  refine lv_dup hx hb eX12_init_712.2.2.2.2.2.2.2 rfl ?_
  refine lv_iconst (v := 2) hx hb eX12_init_722.1 (by decide) ?_
  refine lv_bipush (v := 100) hx hb eX12_init_722.2.1 (by decide) ?_
  refine va_cast hx hb hK hP hD hS 1 1 rfl rfl (z_in (by decide) (by decide)) eX12_init_722.2.2.1 (fun H locs hP hD hS => ?_)
  rw [c_i2 (k := Int32.toNatClampNeg 2) (c := vp_nar .char 100) (v := 100) (by decide)] at hP hD
  have hP : va_P D vwCl (_ :: (q_50, .inl (_, _, .inl (fun j => i2 (upZ _ 2 100 j)))) :: _) H := hP
  have hD : va_D A (_ :: (q_50, .inl (_, _, .inl (fun j => i2 (upZ _ 2 100 j)))) :: _) := hD
  refine va_putF (D := D) (ci := 12) (v := .ref q_50) (ty := .array .char) (C := RX12) (T := TX12) (N := 116) hx hb ht inX12 tyX12 tyX12_ok nmX12 hown hK hP hD hS 0 rfl rfl 33 (by decide) (ht (.fieldLink RX12 87 "CloneVolumesModel" "andWord" "[C") fl_X12_87) (fun _ h9 => h9) rfl hin rfl (by decide +kernel) rfl rfl (by rw [hlen]; decide) eX12_init_722.2.2.2.1 (fun H locs hP hD hS => ?_)
  have hP : va_P D vwCl ((h0, .inr (12, (fs_49.set 33 (.ref q_50)))) :: _) H := hP
  have hD : va_D A ((h0, .inr (12, (fs_49.set 33 (.ref q_50)))) :: _) := hD
  generalize hfs_51 : fs_49.set 33 (.ref q_50) = fs_51 at hP hD
  have hlen : fs_51.length = 116 := by rw [← hfs_51, List.length_set]; exact hlen
  have hP : va_P D vwCl ((h0, .inr (12, fs_51)) :: _) H := hP
  have hD : va_D A ((h0, .inr (12, fs_51)) :: _) := hD
  refine lv_aload_n hx hb eX12_init_722.2.2.2.2.1 rfl (lv_at hl 0 rfl) ?_
  refine lv_iconst (v := 3) hx hb eX12_init_722.2.2.2.2.2.1 (by decide) ?_
  refine va_newa (atype := .char) (a0 := (3, .inl (fun _ => 0))) (ty := .char) (N' := 3) hx hb (ht _ ac_char) rfl hK hP hD hS hA (fun _ => rfl) (by decide) (by decide) (by decide) (Nat.le_trans (Nat.le_of_ble_eq_true rfl) hRc) (Nat.le_trans (Nat.le_of_ble_eq_true rfl) hRs) eX12_init_722.2.2.2.2.2.2.1 (fun q_52 cA H hK2 hP hD hS => ?_)
  obtain rfl := z_cls_char hK hK2
  refine W.widen (k := 26) (n := 1716) (Nat.le_of_ble_eq_true rfl) (Nat.le_of_ble_eq_true rfl) ?_
  obtain ⟨hP, hD⟩ := z_rot hP hD
  have hP : va_P D vwCl ((h0, .inr (12, fs_51)) :: (q_52, .inl (D.1 14, 3, .inl (fun _ => i2 0))) :: _) H := hP
  have hD : va_D A ((h0, .inr (12, fs_51)) :: (q_52, .inl (D.1 14, 3, .inl (fun _ => i2 0))) :: _) := hD
  refine lv_dup hx hb eX12_init_722.2.2.2.2.2.2.2 rfl ?_
  refine lv_iconst (v := 0) hx hb eX12_init_734.1 (by decide) ?_
  refine lv_bipush (v := 110) hx hb eX12_init_734.2.1 (by decide) ?_
  refine va_cast hx hb hK hP hD hS 1 1 rfl rfl (z_in (by decide) (by decide)) eX12_init_734.2.2.1 (fun H locs hP hD hS => ?_)
  rw [c_i2 (k := Int32.toNatClampNeg 0) (c := vp_nar .char 110) (v := 110) (by decide)] at hP hD
  have hP : va_P D vwCl (_ :: (q_52, .inl (_, _, .inl (fun j => i2 (upZ _ 0 110 j)))) :: _) H := hP
  have hD : va_D A (_ :: (q_52, .inl (_, _, .inl (fun j => i2 (upZ _ 0 110 j)))) :: _) := hD
  refine lv_dup hx hb eX12_init_734.2.2.2.1 rfl ?_
  refine lv_iconst (v := 1) hx hb eX12_init_734.2.2.2.2.1 (by decide) ?_
  refine lv_bipush (v := 111) hx hb eX12_init_734.2.2.2.2.2.1 (by decide) ?_
  refine va_cast hx hb hK hP hD hS 1 1 rfl rfl (z_in (by decide) (by decide)) eX12_init_734.2.2.2.2.2.2.1 (fun H locs hP hD hS => ?_)
  rw [c_i2 (k := Int32.toNatClampNeg 1) (c := vp_nar .char 111) (v := 111) (by decide)] at hP hD
  have hP : va_P D vwCl (_ :: (q_52, .inl (_, _, .inl (fun j => i2 (upZ _ 1 111 j)))) :: _) H := hP
  have hD : va_D A (_ :: (q_52, .inl (_, _, .inl (fun j => i2 (upZ _ 1 111 j)))) :: _) := hD
  refine lv_dup hx hb eX12_init_734.2.2.2.2.2.2.2 rfl ?_
  refine lv_iconst (v := 2) hx hb eX12_init_744.1 (by decide) ?_
  refine lv_bipush (v := 116) hx hb eX12_init_744.2.1 (by decide) ?_
  refine va_cast hx hb hK hP hD hS 1 1 rfl rfl (z_in (by decide) (by decide)) eX12_init_744.2.2.1 (fun H locs hP hD hS => ?_)
  rw [c_i2 (k := Int32.toNatClampNeg 2) (c := vp_nar .char 116) (v := 116) (by decide)] at hP hD
  have hP : va_P D vwCl (_ :: (q_52, .inl (_, _, .inl (fun j => i2 (upZ _ 2 116 j)))) :: _) H := hP
  have hD : va_D A (_ :: (q_52, .inl (_, _, .inl (fun j => i2 (upZ _ 2 116 j)))) :: _) := hD
  refine va_putF (D := D) (ci := 12) (v := .ref q_52) (ty := .array .char) (C := RX12) (T := TX12) (N := 116) hx hb ht inX12 tyX12 tyX12_ok nmX12 hown hK hP hD hS 0 rfl rfl 34 (by decide) (ht (.fieldLink RX12 90 "CloneVolumesModel" "notWord" "[C") fl_X12_90) (fun _ h9 => h9) rfl hin rfl (by decide +kernel) rfl rfl (by rw [hlen]; decide) eX12_init_744.2.2.2.1 (fun H locs hP hD hS => ?_)
  have hP : va_P D vwCl ((h0, .inr (12, (fs_51.set 34 (.ref q_52)))) :: _) H := hP
  have hD : va_D A ((h0, .inr (12, (fs_51.set 34 (.ref q_52)))) :: _) := hD
  generalize hfs_53 : fs_51.set 34 (.ref q_52) = fs_53 at hP hD
  have hlen : fs_53.length = 116 := by rw [← hfs_53, List.length_set]; exact hlen
  have hP : va_P D vwCl ((h0, .inr (12, fs_53)) :: _) H := hP
  have hD : va_D A ((h0, .inr (12, fs_53)) :: _) := hD
  refine lv_aload_n hx hb eX12_init_744.2.2.2.2.1 rfl (lv_at hl 0 rfl) ?_
  refine lv_iconst (v := 3) hx hb eX12_init_744.2.2.2.2.2.1 (by decide) ?_
  refine va_newa (atype := .char) (a0 := (3, .inl (fun _ => 0))) (ty := .char) (N' := 3) hx hb (ht _ ac_char) rfl hK hP hD hS hA (fun _ => rfl) (by decide) (by decide) (by decide) (Nat.le_trans (Nat.le_of_ble_eq_true rfl) hRc) (Nat.le_trans (Nat.le_of_ble_eq_true rfl) hRs) eX12_init_744.2.2.2.2.2.2.1 (fun q_54 cA H hK2 hP hD hS => ?_)
  obtain rfl := z_cls_char hK hK2
  refine W.widen (k := 27) (n := 1719) (Nat.le_of_ble_eq_true rfl) (Nat.le_of_ble_eq_true rfl) ?_
  obtain ⟨hP, hD⟩ := z_rot hP hD
  have hP : va_P D vwCl ((h0, .inr (12, fs_53)) :: (q_54, .inl (D.1 14, 3, .inl (fun _ => i2 0))) :: _) H := hP
  have hD : va_D A ((h0, .inr (12, fs_53)) :: (q_54, .inl (D.1 14, 3, .inl (fun _ => i2 0))) :: _) := hD
  refine lv_dup hx hb eX12_init_744.2.2.2.2.2.2.2 rfl ?_
  refine lv_iconst (v := 0) hx hb eX12_init_756.1 (by decide) ?_
  refine lv_bipush (v := 97) hx hb eX12_init_756.2.1 (by decide) ?_
  refine va_cast hx hb hK hP hD hS 1 1 rfl rfl (z_in (by decide) (by decide)) eX12_init_756.2.2.1 (fun H locs hP hD hS => ?_)
  rw [c_i2 (k := Int32.toNatClampNeg 0) (c := vp_nar .char 97) (v := 97) (by decide)] at hP hD
  have hP : va_P D vwCl (_ :: (q_54, .inl (_, _, .inl (fun j => i2 (upZ _ 0 97 j)))) :: _) H := hP
  have hD : va_D A (_ :: (q_54, .inl (_, _, .inl (fun j => i2 (upZ _ 0 97 j)))) :: _) := hD
  refine lv_dup hx hb eX12_init_756.2.2.2.1 rfl ?_
  refine lv_iconst (v := 1) hx hb eX12_init_756.2.2.2.2.1 (by decide) ?_
  refine lv_bipush (v := 108) hx hb eX12_init_756.2.2.2.2.2.1 (by decide) ?_
  refine va_cast hx hb hK hP hD hS 1 1 rfl rfl (z_in (by decide) (by decide)) eX12_init_756.2.2.2.2.2.2.1 (fun H locs hP hD hS => ?_)
  rw [c_i2 (k := Int32.toNatClampNeg 1) (c := vp_nar .char 108) (v := 108) (by decide)] at hP hD
  have hP : va_P D vwCl (_ :: (q_54, .inl (_, _, .inl (fun j => i2 (upZ _ 1 108 j)))) :: _) H := hP
  have hD : va_D A (_ :: (q_54, .inl (_, _, .inl (fun j => i2 (upZ _ 1 108 j)))) :: _) := hD
  refine lv_dup hx hb eX12_init_756.2.2.2.2.2.2.2 rfl ?_
  refine lv_iconst (v := 2) hx hb eX12_init_766.1 (by decide) ?_
  refine lv_bipush (v := 108) hx hb eX12_init_766.2.1 (by decide) ?_
  refine va_cast hx hb hK hP hD hS 1 1 rfl rfl (z_in (by decide) (by decide)) eX12_init_766.2.2.1 (fun H locs hP hD hS => ?_)
  rw [c_i2 (k := Int32.toNatClampNeg 2) (c := vp_nar .char 108) (v := 108) (by decide)] at hP hD
  have hP : va_P D vwCl (_ :: (q_54, .inl (_, _, .inl (fun j => i2 (upZ _ 2 108 j)))) :: _) H := hP
  have hD : va_D A (_ :: (q_54, .inl (_, _, .inl (fun j => i2 (upZ _ 2 108 j)))) :: _) := hD
  refine va_putF (D := D) (ci := 12) (v := .ref q_54) (ty := .array .char) (C := RX12) (T := TX12) (N := 116) hx hb ht inX12 tyX12 tyX12_ok nmX12 hown hK hP hD hS 0 rfl rfl 35 (by decide) (ht (.fieldLink RX12 93 "CloneVolumesModel" "allWord" "[C") fl_X12_93) (fun _ h9 => h9) rfl hin rfl (by decide +kernel) rfl rfl (by rw [hlen]; decide) eX12_init_766.2.2.2.1 (fun H locs hP hD hS => ?_)
  have hP : va_P D vwCl ((h0, .inr (12, (fs_53.set 35 (.ref q_54)))) :: _) H := hP
  have hD : va_D A ((h0, .inr (12, (fs_53.set 35 (.ref q_54)))) :: _) := hD
  generalize hfs_55 : fs_53.set 35 (.ref q_54) = fs_55 at hP hD
  have hlen : fs_55.length = 116 := by rw [← hfs_55, List.length_set]; exact hlen
  have hP : va_P D vwCl ((h0, .inr (12, fs_55)) :: _) H := hP
  have hD : va_D A ((h0, .inr (12, fs_55)) :: _) := hD
  exact kk q_54 q_52 q_50 q_48 fs_55 _ _ (by rw [← hfs_55, ← hfs_53, ← hfs_51, ← hfs_49]) hP hD hS
set_option maxHeartbeats 4000000 in
set_option maxRecDepth 100000 in
theorem cM_11 {p : Program} {l : Launch} {e : Env} {R : Room} {s : State} {m : MethodId} {args : Array Value} {below : List Frame} {meth : Method} {c : Code} {Q : State → Prop} {D : va_G} {A : Nat → Prop} {ls : Array Slot} {h0 : Nat} {T : va_W} (hx : p.tables.exec = Jvm.exec) (hb : c.code = cX12_init) (ht : ∀ w ∈ lw_gd, w.before args s = true) (hown : s.vm.findClass RX12 = some m.cls) (hin : meth.name = "<init>") (hK : va_K D vwCl (TY D) s) (hA : ∀ q : Nat, s.heap.size ≤ q → A q) (hRc : 80 ≤ R.cells) (hRs : 35050 ≤ R.slots) (hl : lv_has ls 1 [(0, .ref h0)]) {fs : List Value} (hlen : fs.length = 116) {H : Heap} {locs : List Loc} (hP : va_P D vwCl ((h0, .inr (12, fs)) :: T) H) (hD : va_D A ((h0, .inr (12, fs)) :: T)) (hS : va_S A s.heap H locs)
    (kk : ∀ (q_66 : Nat) (q_64 : Nat) (q_62 : Nat) (q_60 : Nat) (q_58 : Nat) (q_56 : Nat) (fs' : List Value) (H : Heap) (locs : List Loc), fs' = ((((((fs.set 36 (.ref q_56)).set 37 (.ref q_58)).set 39 (.ref q_60)).set 40 (.ref q_62)).set 41 (.ref q_64)).set 42 (.ref q_66)) → va_P D vwCl ((h0, .inr (12, fs')) :: (q_66, .inl (D.1 13, 6, .inl (fun j => i2 (upZ (upZ (upZ (upZ (upZ (upZ (fun _ => 0) 0 (-1)) 1 (-1)) 2 (-1)) 3 (-1)) 4 (-1)) 5 (-1) j)))) :: (q_64, .inl (D.1 13, 240, .inl (fun _ => 0))) :: (q_62, .inl (D.1 15, 16, .inr (.inl (fun _ => 0)))) :: (q_60, .inl (D.1 13, 10, .inl (fun _ => 0))) :: (q_58, .inl (D.1 14, 3, .inl (fun j => i2 (upZ (upZ (upZ (fun _ => 0) 0 109) 1 97) 2 120 j)))) :: (q_56, .inl (D.1 14, 3, .inl (fun j => i2 (upZ (upZ (upZ (fun _ => 0) 0 109) 1 105) 2 110 j)))) :: T) H → va_D A ((h0, .inr (12, fs')) :: (q_66, .inl (D.1 13, 6, .inl (fun j => i2 (upZ (upZ (upZ (upZ (upZ (upZ (fun _ => 0) 0 (-1)) 1 (-1)) 2 (-1)) 3 (-1)) 4 (-1)) 5 (-1) j)))) :: (q_64, .inl (D.1 13, 240, .inl (fun _ => 0))) :: (q_62, .inl (D.1 15, 16, .inr (.inl (fun _ => 0)))) :: (q_60, .inl (D.1 13, 10, .inl (fun _ => 0))) :: (q_58, .inl (D.1 14, 3, .inl (fun j => i2 (upZ (upZ (upZ (fun _ => 0) 0 109) 1 97) 2 120 j)))) :: (q_56, .inl (D.1 14, 3, .inl (fun j => i2 (upZ (upZ (upZ (fun _ => 0) 0 109) 1 105) 2 110 j)))) :: T) → va_S A s.heap H locs → W p l e R s m args below meth c H locs 33 1997 Q (F0 m 874 ls [])) : W p l e R s m args below meth c H locs 27 1719 Q (F0 m 773 ls []) := by
  refine lv_aload_n hx hb eX12_init_766.2.2.2.2.1 rfl (lv_at hl 0 rfl) ?_
  refine lv_iconst (v := 3) hx hb eX12_init_766.2.2.2.2.2.1 (by decide) ?_
  refine va_newa (atype := .char) (a0 := (3, .inl (fun _ => 0))) (ty := .char) (N' := 3) hx hb (ht _ ac_char) rfl hK hP hD hS hA (fun _ => rfl) (by decide) (by decide) (by decide) (Nat.le_trans (Nat.le_of_ble_eq_true rfl) hRc) (Nat.le_trans (Nat.le_of_ble_eq_true rfl) hRs) eX12_init_766.2.2.2.2.2.2.1 (fun q_56 cA H hK2 hP hD hS => ?_)
  obtain rfl := z_cls_char hK hK2
  refine W.widen (k := 28) (n := 1722) (Nat.le_of_ble_eq_true rfl) (Nat.le_of_ble_eq_true rfl) ?_
  obtain ⟨hP, hD⟩ := z_rot hP hD
  have hP : va_P D vwCl ((h0, .inr (12, fs)) :: (q_56, .inl (D.1 14, 3, .inl (fun _ => i2 0))) :: T) H := hP
  have hD : va_D A ((h0, .inr (12, fs)) :: (q_56, .inl (D.1 14, 3, .inl (fun _ => i2 0))) :: T) := hD
  refine lv_dup hx hb eX12_init_766.2.2.2.2.2.2.2 rfl ?_
  refine lv_iconst (v := 0) hx hb eX12_init_778.1 (by decide) ?_
  refine lv_bipush (v := 109) hx hb eX12_init_778.2.1 (by decide) ?_
  refine va_cast hx hb hK hP hD hS 1 1 rfl rfl (z_in (by decide) (by decide)) eX12_init_778.2.2.1 (fun H locs hP hD hS => ?_)
  rw [c_i2 (k := Int32.toNatClampNeg 0) (c := vp_nar .char 109) (v := 109) (by decide)] at hP hD
  have hP : va_P D vwCl (_ :: (q_56, .inl (_, _, .inl (fun j => i2 (upZ _ 0 109 j)))) :: _) H := hP
  have hD : va_D A (_ :: (q_56, .inl (_, _, .inl (fun j => i2 (upZ _ 0 109 j)))) :: _) := hD
  refine lv_dup hx hb eX12_init_778.2.2.2.1 rfl ?_
  refine lv_iconst (v := 1) hx hb eX12_init_778.2.2.2.2.1 (by decide) ?_
  refine lv_bipush (v := 105) hx hb eX12_init_778.2.2.2.2.2.1 (by decide) ?_
  refine va_cast hx hb hK hP hD hS 1 1 rfl rfl (z_in (by decide) (by decide)) eX12_init_778.2.2.2.2.2.2.1 (fun H locs hP hD hS => ?_)
  rw [c_i2 (k := Int32.toNatClampNeg 1) (c := vp_nar .char 105) (v := 105) (by decide)] at hP hD
  have hP : va_P D vwCl (_ :: (q_56, .inl (_, _, .inl (fun j => i2 (upZ _ 1 105 j)))) :: _) H := hP
  have hD : va_D A (_ :: (q_56, .inl (_, _, .inl (fun j => i2 (upZ _ 1 105 j)))) :: _) := hD
  refine lv_dup hx hb eX12_init_778.2.2.2.2.2.2.2 rfl ?_
  refine lv_iconst (v := 2) hx hb eX12_init_788.1 (by decide) ?_
  refine lv_bipush (v := 110) hx hb eX12_init_788.2.1 (by decide) ?_
  refine va_cast hx hb hK hP hD hS 1 1 rfl rfl (z_in (by decide) (by decide)) eX12_init_788.2.2.1 (fun H locs hP hD hS => ?_)
  rw [c_i2 (k := Int32.toNatClampNeg 2) (c := vp_nar .char 110) (v := 110) (by decide)] at hP hD
  have hP : va_P D vwCl (_ :: (q_56, .inl (_, _, .inl (fun j => i2 (upZ _ 2 110 j)))) :: _) H := hP
  have hD : va_D A (_ :: (q_56, .inl (_, _, .inl (fun j => i2 (upZ _ 2 110 j)))) :: _) := hD
  refine va_putF (D := D) (ci := 12) (v := .ref q_56) (ty := .array .char) (C := RX12) (T := TX12) (N := 116) hx hb ht inX12 tyX12 tyX12_ok nmX12 hown hK hP hD hS 0 rfl rfl 36 (by decide) (ht (.fieldLink RX12 96 "CloneVolumesModel" "minWord" "[C") fl_X12_96) (fun _ h9 => h9) rfl hin rfl (by decide +kernel) rfl rfl (by rw [hlen]; decide) eX12_init_788.2.2.2.1 (fun H locs hP hD hS => ?_)
  have hP : va_P D vwCl ((h0, .inr (12, (fs.set 36 (.ref q_56)))) :: _) H := hP
  have hD : va_D A ((h0, .inr (12, (fs.set 36 (.ref q_56)))) :: _) := hD
  generalize hfs_57 : fs.set 36 (.ref q_56) = fs_57 at hP hD
  have hlen : fs_57.length = 116 := by rw [← hfs_57, List.length_set]; exact hlen
  have hP : va_P D vwCl ((h0, .inr (12, fs_57)) :: _) H := hP
  have hD : va_D A ((h0, .inr (12, fs_57)) :: _) := hD
  refine lv_aload_n hx hb eX12_init_788.2.2.2.2.1 rfl (lv_at hl 0 rfl) ?_
  refine lv_iconst (v := 3) hx hb eX12_init_788.2.2.2.2.2.1 (by decide) ?_
  refine va_newa (atype := .char) (a0 := (3, .inl (fun _ => 0))) (ty := .char) (N' := 3) hx hb (ht _ ac_char) rfl hK hP hD hS hA (fun _ => rfl) (by decide) (by decide) (by decide) (Nat.le_trans (Nat.le_of_ble_eq_true rfl) hRc) (Nat.le_trans (Nat.le_of_ble_eq_true rfl) hRs) eX12_init_788.2.2.2.2.2.2.1 (fun q_58 cA H hK2 hP hD hS => ?_)
  obtain rfl := z_cls_char hK hK2
  refine W.widen (k := 29) (n := 1725) (Nat.le_of_ble_eq_true rfl) (Nat.le_of_ble_eq_true rfl) ?_
  obtain ⟨hP, hD⟩ := z_rot hP hD
  have hP : va_P D vwCl ((h0, .inr (12, fs_57)) :: (q_58, .inl (D.1 14, 3, .inl (fun _ => i2 0))) :: _) H := hP
  have hD : va_D A ((h0, .inr (12, fs_57)) :: (q_58, .inl (D.1 14, 3, .inl (fun _ => i2 0))) :: _) := hD
  refine lv_dup hx hb eX12_init_788.2.2.2.2.2.2.2 rfl ?_
  refine lv_iconst (v := 0) hx hb eX12_init_800.1 (by decide) ?_
  refine lv_bipush (v := 109) hx hb eX12_init_800.2.1 (by decide) ?_
  refine va_cast hx hb hK hP hD hS 1 1 rfl rfl (z_in (by decide) (by decide)) eX12_init_800.2.2.1 (fun H locs hP hD hS => ?_)
  rw [c_i2 (k := Int32.toNatClampNeg 0) (c := vp_nar .char 109) (v := 109) (by decide)] at hP hD
  have hP : va_P D vwCl (_ :: (q_58, .inl (_, _, .inl (fun j => i2 (upZ _ 0 109 j)))) :: _) H := hP
  have hD : va_D A (_ :: (q_58, .inl (_, _, .inl (fun j => i2 (upZ _ 0 109 j)))) :: _) := hD
  refine lv_dup hx hb eX12_init_800.2.2.2.1 rfl ?_
  refine lv_iconst (v := 1) hx hb eX12_init_800.2.2.2.2.1 (by decide) ?_
  refine lv_bipush (v := 97) hx hb eX12_init_800.2.2.2.2.2.1 (by decide) ?_
  refine va_cast hx hb hK hP hD hS 1 1 rfl rfl (z_in (by decide) (by decide)) eX12_init_800.2.2.2.2.2.2.1 (fun H locs hP hD hS => ?_)
  rw [c_i2 (k := Int32.toNatClampNeg 1) (c := vp_nar .char 97) (v := 97) (by decide)] at hP hD
  have hP : va_P D vwCl (_ :: (q_58, .inl (_, _, .inl (fun j => i2 (upZ _ 1 97 j)))) :: _) H := hP
  have hD : va_D A (_ :: (q_58, .inl (_, _, .inl (fun j => i2 (upZ _ 1 97 j)))) :: _) := hD
  refine lv_dup hx hb eX12_init_800.2.2.2.2.2.2.2 rfl ?_
  refine lv_iconst (v := 2) hx hb eX12_init_810.1 (by decide) ?_
  refine lv_bipush (v := 120) hx hb eX12_init_810.2.1 (by decide) ?_
  refine va_cast hx hb hK hP hD hS 1 1 rfl rfl (z_in (by decide) (by decide)) eX12_init_810.2.2.1 (fun H locs hP hD hS => ?_)
  rw [c_i2 (k := Int32.toNatClampNeg 2) (c := vp_nar .char 120) (v := 120) (by decide)] at hP hD
  have hP : va_P D vwCl (_ :: (q_58, .inl (_, _, .inl (fun j => i2 (upZ _ 2 120 j)))) :: _) H := hP
  have hD : va_D A (_ :: (q_58, .inl (_, _, .inl (fun j => i2 (upZ _ 2 120 j)))) :: _) := hD
  refine va_putF (D := D) (ci := 12) (v := .ref q_58) (ty := .array .char) (C := RX12) (T := TX12) (N := 116) hx hb ht inX12 tyX12 tyX12_ok nmX12 hown hK hP hD hS 0 rfl rfl 37 (by decide) (ht (.fieldLink RX12 99 "CloneVolumesModel" "maxWord" "[C") fl_X12_99) (fun _ h9 => h9) rfl hin rfl (by decide +kernel) rfl rfl (by rw [hlen]; decide) eX12_init_810.2.2.2.1 (fun H locs hP hD hS => ?_)
  have hP : va_P D vwCl ((h0, .inr (12, (fs_57.set 37 (.ref q_58)))) :: _) H := hP
  have hD : va_D A ((h0, .inr (12, (fs_57.set 37 (.ref q_58)))) :: _) := hD
  generalize hfs_59 : fs_57.set 37 (.ref q_58) = fs_59 at hP hD
  have hlen : fs_59.length = 116 := by rw [← hfs_59, List.length_set]; exact hlen
  have hP : va_P D vwCl ((h0, .inr (12, fs_59)) :: _) H := hP
  have hD : va_D A ((h0, .inr (12, fs_59)) :: _) := hD
  refine lv_aload_n hx hb eX12_init_810.2.2.2.2.1 rfl (lv_at hl 0 rfl) ?_
  refine lv_bipush (v := 10) hx hb eX12_init_810.2.2.2.2.2.1 (by decide) ?_
  refine va_newa (atype := .int) (a0 := (10, .inl (fun _ => 0))) (ty := .int) (N' := 10) hx hb (ht _ ac_int) rfl hK hP hD hS hA (fun _ => rfl) (by decide) (by decide) (by decide) (Nat.le_trans (Nat.le_of_ble_eq_true rfl) hRc) (Nat.le_trans (Nat.le_of_ble_eq_true rfl) hRs) eX12_init_810.2.2.2.2.2.2.1 (fun q_60 cA H hK2 hP hD hS => ?_)
  obtain rfl := z_cls_int hK hK2
  refine W.widen (k := 30) (n := 1735) (Nat.le_of_ble_eq_true rfl) (Nat.le_of_ble_eq_true rfl) ?_
  obtain ⟨hP, hD⟩ := z_rot hP hD
  have hP : va_P D vwCl ((h0, .inr (12, fs_59)) :: (q_60, .inl (D.1 13, 10, .inl (fun _ => 0))) :: _) H := hP
  have hD : va_D A ((h0, .inr (12, fs_59)) :: (q_60, .inl (D.1 13, 10, .inl (fun _ => 0))) :: _) := hD
  refine va_putF (D := D) (ci := 12) (v := .ref q_60) (ty := .array .int) (C := RX12) (T := TX12) (N := 116) hx hb ht inX12 tyX12 tyX12_ok nmX12 hown hK hP hD hS 0 rfl rfl 39 (by decide) (ht (.fieldLink RX12 102 "CloneVolumesModel" "many" "[I") fl_X12_102) (fun _ h9 => h9) rfl hin rfl (by decide +kernel) rfl rfl (by rw [hlen]; decide) eX12_init_810.2.2.2.2.2.2.2 (fun H locs hP hD hS => ?_)
  have hP : va_P D vwCl ((h0, .inr (12, (fs_59.set 39 (.ref q_60)))) :: (q_60, .inl (D.1 13, 10, .inl (fun _ => 0))) :: _) H := hP
  have hD : va_D A ((h0, .inr (12, (fs_59.set 39 (.ref q_60)))) :: (q_60, .inl (D.1 13, 10, .inl (fun _ => 0))) :: _) := hD
  generalize hfs_61 : fs_59.set 39 (.ref q_60) = fs_61 at hP hD
  have hlen : fs_61.length = 116 := by rw [← hfs_61, List.length_set]; exact hlen
  have hP : va_P D vwCl ((h0, .inr (12, fs_61)) :: (q_60, .inl (D.1 13, 10, .inl (fun _ => 0))) :: _) H := hP
  have hD : va_D A ((h0, .inr (12, fs_61)) :: (q_60, .inl (D.1 13, 10, .inl (fun _ => 0))) :: _) := hD
  refine lv_aload_n hx hb eX12_init_825.1 rfl (lv_at hl 0 rfl) ?_
  refine lv_bipush (v := 16) hx hb eX12_init_825.2.1 (by decide) ?_
  refine va_newa (atype := .long) (a0 := (16, .inr (.inl (fun _ => 0)))) (ty := .long) (N' := 16) hx hb (ht _ ac_long) rfl hK hP hD hS hA (fun _ => rfl) (by decide) (by decide) (by decide) (Nat.le_trans (Nat.le_of_ble_eq_true rfl) hRc) (Nat.le_trans (Nat.le_of_ble_eq_true rfl) hRs) eX12_init_825.2.2.1 (fun q_62 cA H hK2 hP hD hS => ?_)
  obtain rfl := z_cls_long hK hK2
  refine W.widen (k := 31) (n := 1751) (Nat.le_of_ble_eq_true rfl) (Nat.le_of_ble_eq_true rfl) ?_
  obtain ⟨hP, hD⟩ := z_rot hP hD
  have hP : va_P D vwCl ((h0, .inr (12, fs_61)) :: (q_62, .inl (D.1 15, 16, .inr (.inl (fun _ => 0)))) :: _) H := hP
  have hD : va_D A ((h0, .inr (12, fs_61)) :: (q_62, .inl (D.1 15, 16, .inr (.inl (fun _ => 0)))) :: _) := hD
  refine va_putF (D := D) (ci := 12) (v := .ref q_62) (ty := .array .long) (C := RX12) (T := TX12) (N := 116) hx hb ht inX12 tyX12 tyX12_ok nmX12 hown hK hP hD hS 0 rfl rfl 40 (by decide) (ht (.fieldLink RX12 105 "CloneVolumesModel" "names" "[J") fl_X12_105) (fun _ h9 => h9) rfl hin rfl (by decide +kernel) rfl rfl (by rw [hlen]; decide) eX12_init_825.2.2.2.1 (fun H locs hP hD hS => ?_)
  have hP : va_P D vwCl ((h0, .inr (12, (fs_61.set 40 (.ref q_62)))) :: (q_62, .inl (D.1 15, 16, .inr (.inl (fun _ => 0)))) :: _) H := hP
  have hD : va_D A ((h0, .inr (12, (fs_61.set 40 (.ref q_62)))) :: (q_62, .inl (D.1 15, 16, .inr (.inl (fun _ => 0)))) :: _) := hD
  generalize hfs_63 : fs_61.set 40 (.ref q_62) = fs_63 at hP hD
  have hlen : fs_63.length = 116 := by rw [← hfs_63, List.length_set]; exact hlen
  have hP : va_P D vwCl ((h0, .inr (12, fs_63)) :: (q_62, .inl (D.1 15, 16, .inr (.inl (fun _ => 0)))) :: _) H := hP
  have hD : va_D A ((h0, .inr (12, fs_63)) :: (q_62, .inl (D.1 15, 16, .inr (.inl (fun _ => 0)))) :: _) := hD
  refine lv_aload_n hx hb eX12_init_825.2.2.2.2.1 rfl (lv_at hl 0 rfl) ?_
  refine lv_sipush (v := 240) hx hb eX12_init_825.2.2.2.2.2.1 (by decide) ?_
  refine va_newa (atype := .int) (a0 := (240, .inl (fun _ => 0))) (ty := .int) (N' := 240) hx hb (ht _ ac_int) rfl hK hP hD hS hA (fun _ => rfl) (by decide) (by decide) (by decide) (Nat.le_trans (Nat.le_of_ble_eq_true rfl) hRc) (Nat.le_trans (Nat.le_of_ble_eq_true rfl) hRs) eX12_init_825.2.2.2.2.2.2.1 (fun q_64 cA H hK2 hP hD hS => ?_)
  obtain rfl := z_cls_int hK hK2
  refine W.widen (k := 32) (n := 1991) (Nat.le_of_ble_eq_true rfl) (Nat.le_of_ble_eq_true rfl) ?_
  obtain ⟨hP, hD⟩ := z_rot hP hD
  have hP : va_P D vwCl ((h0, .inr (12, fs_63)) :: (q_64, .inl (D.1 13, 240, .inl (fun _ => 0))) :: _) H := hP
  have hD : va_D A ((h0, .inr (12, fs_63)) :: (q_64, .inl (D.1 13, 240, .inl (fun _ => 0))) :: _) := hD
  refine va_putF (D := D) (ci := 12) (v := .ref q_64) (ty := .array .int) (C := RX12) (T := TX12) (N := 116) hx hb ht inX12 tyX12 tyX12_ok nmX12 hown hK hP hD hS 0 rfl rfl 41 (by decide) (ht (.fieldLink RX12 109 "CloneVolumesModel" "acts" "[I") fl_X12_109) (fun _ h9 => h9) rfl hin rfl (by decide +kernel) rfl rfl (by rw [hlen]; decide) eX12_init_825.2.2.2.2.2.2.2 (fun H locs hP hD hS => ?_)
  have hP : va_P D vwCl ((h0, .inr (12, (fs_63.set 41 (.ref q_64)))) :: (q_64, .inl (D.1 13, 240, .inl (fun _ => 0))) :: _) H := hP
  have hD : va_D A ((h0, .inr (12, (fs_63.set 41 (.ref q_64)))) :: (q_64, .inl (D.1 13, 240, .inl (fun _ => 0))) :: _) := hD
  generalize hfs_65 : fs_63.set 41 (.ref q_64) = fs_65 at hP hD
  have hlen : fs_65.length = 116 := by rw [← hfs_65, List.length_set]; exact hlen
  have hP : va_P D vwCl ((h0, .inr (12, fs_65)) :: (q_64, .inl (D.1 13, 240, .inl (fun _ => 0))) :: _) H := hP
  have hD : va_D A ((h0, .inr (12, fs_65)) :: (q_64, .inl (D.1 13, 240, .inl (fun _ => 0))) :: _) := hD
  refine lv_aload_n hx hb eX12_init_842.1 rfl (lv_at hl 0 rfl) ?_
  refine lv_bipush (v := 6) hx hb eX12_init_842.2.1 (by decide) ?_
  refine va_newa (atype := .int) (a0 := (6, .inl (fun _ => 0))) (ty := .int) (N' := 6) hx hb (ht _ ac_int) rfl hK hP hD hS hA (fun _ => rfl) (by decide) (by decide) (by decide) (Nat.le_trans (Nat.le_of_ble_eq_true rfl) hRc) (Nat.le_trans (Nat.le_of_ble_eq_true rfl) hRs) eX12_init_842.2.2.1 (fun q_66 cA H hK2 hP hD hS => ?_)
  obtain rfl := z_cls_int hK hK2
  refine W.widen (k := 33) (n := 1997) (Nat.le_of_ble_eq_true rfl) (Nat.le_of_ble_eq_true rfl) ?_
  obtain ⟨hP, hD⟩ := z_rot hP hD
  have hP : va_P D vwCl ((h0, .inr (12, fs_65)) :: (q_66, .inl (D.1 13, 6, .inl (fun _ => i2 0))) :: _) H := hP
  have hD : va_D A ((h0, .inr (12, fs_65)) :: (q_66, .inl (D.1 13, 6, .inl (fun _ => i2 0))) :: _) := hD
  refine lv_dup hx hb eX12_init_842.2.2.2.1 rfl ?_
  refine lv_iconst (v := 0) hx hb eX12_init_842.2.2.2.2.1 (by decide) ?_
  refine lv_iconst (v := (-1)) hx hb eX12_init_842.2.2.2.2.2.1 (by decide) ?_
  refine va_iast hx hb hK hP hD hS 1 0 rfl rfl (z_in (by decide) (by decide)) eX12_init_842.2.2.2.2.2.2.1 (fun H locs hP hD hS => ?_)
  rw [c_i2 (k := Int32.toNatClampNeg 0) (c := (-1)) (v := (-1)) (by decide)] at hP hD
  have hP : va_P D vwCl (_ :: (q_66, .inl (_, _, .inl (fun j => i2 (upZ _ 0 (-1) j)))) :: _) H := hP
  have hD : va_D A (_ :: (q_66, .inl (_, _, .inl (fun j => i2 (upZ _ 0 (-1) j)))) :: _) := hD
  refine lv_dup hx hb eX12_init_842.2.2.2.2.2.2.2 rfl ?_
  refine lv_iconst (v := 1) hx hb eX12_init_852.1 (by decide) ?_
  refine lv_iconst (v := (-1)) hx hb eX12_init_852.2.1 (by decide) ?_
  refine va_iast hx hb hK hP hD hS 1 0 rfl rfl (z_in (by decide) (by decide)) eX12_init_852.2.2.1 (fun H locs hP hD hS => ?_)
  rw [c_i2 (k := Int32.toNatClampNeg 1) (c := (-1)) (v := (-1)) (by decide)] at hP hD
  have hP : va_P D vwCl (_ :: (q_66, .inl (_, _, .inl (fun j => i2 (upZ _ 1 (-1) j)))) :: _) H := hP
  have hD : va_D A (_ :: (q_66, .inl (_, _, .inl (fun j => i2 (upZ _ 1 (-1) j)))) :: _) := hD
  refine lv_dup hx hb eX12_init_852.2.2.2.1 rfl ?_
  refine lv_iconst (v := 2) hx hb eX12_init_852.2.2.2.2.1 (by decide) ?_
  refine lv_iconst (v := (-1)) hx hb eX12_init_852.2.2.2.2.2.1 (by decide) ?_
  refine va_iast hx hb hK hP hD hS 1 0 rfl rfl (z_in (by decide) (by decide)) eX12_init_852.2.2.2.2.2.2.1 (fun H locs hP hD hS => ?_)
  rw [c_i2 (k := Int32.toNatClampNeg 2) (c := (-1)) (v := (-1)) (by decide)] at hP hD
  have hP : va_P D vwCl (_ :: (q_66, .inl (_, _, .inl (fun j => i2 (upZ _ 2 (-1) j)))) :: _) H := hP
  have hD : va_D A (_ :: (q_66, .inl (_, _, .inl (fun j => i2 (upZ _ 2 (-1) j)))) :: _) := hD
  refine lv_dup hx hb eX12_init_852.2.2.2.2.2.2.2 rfl ?_
  refine lv_iconst (v := 3) hx hb eX12_init_860.1 (by decide) ?_
  refine lv_iconst (v := (-1)) hx hb eX12_init_860.2.1 (by decide) ?_
  refine va_iast hx hb hK hP hD hS 1 0 rfl rfl (z_in (by decide) (by decide)) eX12_init_860.2.2.1 (fun H locs hP hD hS => ?_)
  rw [c_i2 (k := Int32.toNatClampNeg 3) (c := (-1)) (v := (-1)) (by decide)] at hP hD
  have hP : va_P D vwCl (_ :: (q_66, .inl (_, _, .inl (fun j => i2 (upZ _ 3 (-1) j)))) :: _) H := hP
  have hD : va_D A (_ :: (q_66, .inl (_, _, .inl (fun j => i2 (upZ _ 3 (-1) j)))) :: _) := hD
  refine lv_dup hx hb eX12_init_860.2.2.2.1 rfl ?_
  refine lv_iconst (v := 4) hx hb eX12_init_860.2.2.2.2.1 (by decide) ?_
  refine lv_iconst (v := (-1)) hx hb eX12_init_860.2.2.2.2.2.1 (by decide) ?_
  refine va_iast hx hb hK hP hD hS 1 0 rfl rfl (z_in (by decide) (by decide)) eX12_init_860.2.2.2.2.2.2.1 (fun H locs hP hD hS => ?_)
  rw [c_i2 (k := Int32.toNatClampNeg 4) (c := (-1)) (v := (-1)) (by decide)] at hP hD
  have hP : va_P D vwCl (_ :: (q_66, .inl (_, _, .inl (fun j => i2 (upZ _ 4 (-1) j)))) :: _) H := hP
  have hD : va_D A (_ :: (q_66, .inl (_, _, .inl (fun j => i2 (upZ _ 4 (-1) j)))) :: _) := hD
  refine lv_dup hx hb eX12_init_860.2.2.2.2.2.2.2 rfl ?_
  refine lv_iconst (v := 5) hx hb eX12_init_868.1 (by decide) ?_
  refine lv_iconst (v := (-1)) hx hb eX12_init_868.2.1 (by decide) ?_
  refine va_iast hx hb hK hP hD hS 1 0 rfl rfl (z_in (by decide) (by decide)) eX12_init_868.2.2.1 (fun H locs hP hD hS => ?_)
  rw [c_i2 (k := Int32.toNatClampNeg 5) (c := (-1)) (v := (-1)) (by decide)] at hP hD
  have hP : va_P D vwCl (_ :: (q_66, .inl (_, _, .inl (fun j => i2 (upZ _ 5 (-1) j)))) :: _) H := hP
  have hD : va_D A (_ :: (q_66, .inl (_, _, .inl (fun j => i2 (upZ _ 5 (-1) j)))) :: _) := hD
  refine va_putF (D := D) (ci := 12) (v := .ref q_66) (ty := .array .int) (C := RX12) (T := TX12) (N := 116) hx hb ht inX12 tyX12 tyX12_ok nmX12 hown hK hP hD hS 0 rfl rfl 42 (by decide) (ht (.fieldLink RX12 112 "CloneVolumesModel" "codeFrom" "[I") fl_X12_112) (fun _ h9 => h9) rfl hin rfl (by decide +kernel) rfl rfl (by rw [hlen]; decide) eX12_init_868.2.2.2.1 (fun H locs hP hD hS => ?_)
  have hP : va_P D vwCl ((h0, .inr (12, (fs_65.set 42 (.ref q_66)))) :: _) H := hP
  have hD : va_D A ((h0, .inr (12, (fs_65.set 42 (.ref q_66)))) :: _) := hD
  generalize hfs_67 : fs_65.set 42 (.ref q_66) = fs_67 at hP hD
  have hlen : fs_67.length = 116 := by rw [← hfs_67, List.length_set]; exact hlen
  have hP : va_P D vwCl ((h0, .inr (12, fs_67)) :: _) H := hP
  have hD : va_D A ((h0, .inr (12, fs_67)) :: _) := hD
  exact kk q_66 q_64 q_62 q_60 q_58 q_56 fs_67 _ _ (by rw [← hfs_67, ← hfs_65, ← hfs_63, ← hfs_61, ← hfs_59, ← hfs_57]) hP hD hS
set_option maxHeartbeats 4000000 in
set_option maxRecDepth 100000 in
theorem cM_12 {p : Program} {l : Launch} {e : Env} {R : Room} {s : State} {m : MethodId} {args : Array Value} {below : List Frame} {meth : Method} {c : Code} {Q : State → Prop} {D : va_G} {A : Nat → Prop} {ls : Array Slot} {h0 : Nat} {T : va_W} (hx : p.tables.exec = Jvm.exec) (hb : c.code = cX12_init) (ht : ∀ w ∈ lw_gd, w.before args s = true) (hown : s.vm.findClass RX12 = some m.cls) (hin : meth.name = "<init>") (hK : va_K D vwCl (TY D) s) (hA : ∀ q : Nat, s.heap.size ≤ q → A q) (hRc : 80 ≤ R.cells) (hRs : 35050 ≤ R.slots) (hl : lv_has ls 1 [(0, .ref h0)]) {fs : List Value} (hlen : fs.length = 116) {H : Heap} {locs : List Loc} (hP : va_P D vwCl ((h0, .inr (12, fs)) :: T) H) (hD : va_D A ((h0, .inr (12, fs)) :: T)) (hS : va_S A s.heap H locs)
    (kk : ∀ (q_90 : Nat) (q_88 : Nat) (q_86 : Nat) (q_84 : Nat) (q_82 : Nat) (q_80 : Nat) (q_78 : Nat) (q_76 : Nat) (q_74 : Nat) (q_72 : Nat) (q_70 : Nat) (q_68 : Nat) (fs' : List Value) (H : Heap) (locs : List Loc), fs' = ((((((((((((fs.set 43 (.ref q_68)).set 44 (.ref q_70)).set 49 (.ref q_72)).set 54 (.ref q_74)).set 56 (.ref q_76)).set 57 (.ref q_78)).set 58 (.ref q_80)).set 59 (.ref q_82)).set 60 (.ref q_84)).set 61 (.ref q_86)).set 62 (.ref q_88)).set 63 (.ref q_90)) → va_P D vwCl ((h0, .inr (12, fs')) :: (q_90, .inl (D.1 16, 48, .inl (fun _ => 0))) :: (q_88, .inl (D.1 13, 300, .inl (fun _ => 0))) :: (q_86, .inl (D.1 13, 785, .inl (fun _ => 0))) :: (q_84, .inl (D.1 16, 48, .inl (fun _ => 0))) :: (q_82, .inl (D.1 13, 785, .inl (fun _ => 0))) :: (q_80, .inl (D.1 13, 48, .inl (fun _ => 0))) :: (q_78, .inl (D.1 13, 48, .inl (fun _ => 0))) :: (q_76, .inl (D.1 13, 300, .inl (fun _ => 0))) :: (q_74, .inl (D.1 16, 48, .inl (fun _ => 0))) :: (q_72, .inl (D.1 13, 906, .inl (fun _ => 0))) :: (q_70, .inl (D.1 13, 3200, .inl (fun _ => 0))) :: (q_68, .inl (D.1 13, 6, .inl (fun _ => i2 0))) :: T) H → va_D A ((h0, .inr (12, fs')) :: (q_90, .inl (D.1 16, 48, .inl (fun _ => 0))) :: (q_88, .inl (D.1 13, 300, .inl (fun _ => 0))) :: (q_86, .inl (D.1 13, 785, .inl (fun _ => 0))) :: (q_84, .inl (D.1 16, 48, .inl (fun _ => 0))) :: (q_82, .inl (D.1 13, 785, .inl (fun _ => 0))) :: (q_80, .inl (D.1 13, 48, .inl (fun _ => 0))) :: (q_78, .inl (D.1 13, 48, .inl (fun _ => 0))) :: (q_76, .inl (D.1 13, 300, .inl (fun _ => 0))) :: (q_74, .inl (D.1 16, 48, .inl (fun _ => 0))) :: (q_72, .inl (D.1 13, 906, .inl (fun _ => 0))) :: (q_70, .inl (D.1 13, 3200, .inl (fun _ => 0))) :: (q_68, .inl (D.1 13, 6, .inl (fun _ => i2 0))) :: T) → va_S A s.heap H locs → W p l e R s m args below meth c H locs 45 8519 Q (F0 m 976 ls [])) : W p l e R s m args below meth c H locs 33 1997 Q (F0 m 874 ls []) := by
  refine lv_aload_n hx hb eX12_init_868.2.2.2.2.1 rfl (lv_at hl 0 rfl) ?_
  refine lv_bipush (v := 6) hx hb eX12_init_868.2.2.2.2.2.1 (by decide) ?_
  refine va_newa (atype := .int) (a0 := (6, .inl (fun _ => 0))) (ty := .int) (N' := 6) hx hb (ht _ ac_int) rfl hK hP hD hS hA (fun _ => rfl) (by decide) (by decide) (by decide) (Nat.le_trans (Nat.le_of_ble_eq_true rfl) hRc) (Nat.le_trans (Nat.le_of_ble_eq_true rfl) hRs) eX12_init_868.2.2.2.2.2.2.1 (fun q_68 cA H hK2 hP hD hS => ?_)
  obtain rfl := z_cls_int hK hK2
  refine W.widen (k := 34) (n := 2003) (Nat.le_of_ble_eq_true rfl) (Nat.le_of_ble_eq_true rfl) ?_
  obtain ⟨hP, hD⟩ := z_rot hP hD
  have hP : va_P D vwCl ((h0, .inr (12, fs)) :: (q_68, .inl (D.1 13, 6, .inl (fun _ => i2 0))) :: T) H := hP
  have hD : va_D A ((h0, .inr (12, fs)) :: (q_68, .inl (D.1 13, 6, .inl (fun _ => i2 0))) :: T) := hD
  refine va_putF (D := D) (ci := 12) (v := .ref q_68) (ty := .array .int) (C := RX12) (T := TX12) (N := 116) hx hb ht inX12 tyX12 tyX12_ok nmX12 hown hK hP hD hS 0 rfl rfl 43 (by decide) (ht (.fieldLink RX12 115 "CloneVolumesModel" "codeEnd" "[I") fl_X12_115) (fun _ h9 => h9) rfl hin rfl (by decide +kernel) rfl rfl (by rw [hlen]; decide) eX12_init_868.2.2.2.2.2.2.2 (fun H locs hP hD hS => ?_)
  have hP : va_P D vwCl ((h0, .inr (12, (fs.set 43 (.ref q_68)))) :: (q_68, .inl (D.1 13, 6, .inl (fun _ => i2 0))) :: T) H := hP
  have hD : va_D A ((h0, .inr (12, (fs.set 43 (.ref q_68)))) :: (q_68, .inl (D.1 13, 6, .inl (fun _ => i2 0))) :: T) := hD
  generalize hfs_69 : fs.set 43 (.ref q_68) = fs_69 at hP hD
  have hlen : fs_69.length = 116 := by rw [← hfs_69, List.length_set]; exact hlen
  have hP : va_P D vwCl ((h0, .inr (12, fs_69)) :: (q_68, .inl (D.1 13, 6, .inl (fun _ => i2 0))) :: T) H := hP
  have hD : va_D A ((h0, .inr (12, fs_69)) :: (q_68, .inl (D.1 13, 6, .inl (fun _ => i2 0))) :: T) := hD
  refine lv_aload_n hx hb eX12_init_882.1 rfl (lv_at hl 0 rfl) ?_
  refine lv_sipush (v := 3200) hx hb eX12_init_882.2.1 (by decide) ?_
  refine va_newa (atype := .int) (a0 := (3200, .inl (fun _ => 0))) (ty := .int) (N' := 3200) hx hb (ht _ ac_int) rfl hK hP hD hS hA (fun _ => rfl) (by decide) (by decide) (by decide) (Nat.le_trans (Nat.le_of_ble_eq_true rfl) hRc) (Nat.le_trans (Nat.le_of_ble_eq_true rfl) hRs) eX12_init_882.2.2.1 (fun q_70 cA H hK2 hP hD hS => ?_)
  obtain rfl := z_cls_int hK hK2
  refine W.widen (k := 35) (n := 5203) (Nat.le_of_ble_eq_true rfl) (Nat.le_of_ble_eq_true rfl) ?_
  obtain ⟨hP, hD⟩ := z_rot hP hD
  have hP : va_P D vwCl ((h0, .inr (12, fs_69)) :: (q_70, .inl (D.1 13, 3200, .inl (fun _ => 0))) :: _) H := hP
  have hD : va_D A ((h0, .inr (12, fs_69)) :: (q_70, .inl (D.1 13, 3200, .inl (fun _ => 0))) :: _) := hD
  refine va_putF (D := D) (ci := 12) (v := .ref q_70) (ty := .array .int) (C := RX12) (T := TX12) (N := 116) hx hb ht inX12 tyX12 tyX12_ok nmX12 hown hK hP hD hS 0 rfl rfl 44 (by decide) (ht (.fieldLink RX12 118 "CloneVolumesModel" "codes" "[I") fl_X12_118) (fun _ h9 => h9) rfl hin rfl (by decide +kernel) rfl rfl (by rw [hlen]; decide) eX12_init_882.2.2.2.1 (fun H locs hP hD hS => ?_)
  have hP : va_P D vwCl ((h0, .inr (12, (fs_69.set 44 (.ref q_70)))) :: (q_70, .inl (D.1 13, 3200, .inl (fun _ => 0))) :: _) H := hP
  have hD : va_D A ((h0, .inr (12, (fs_69.set 44 (.ref q_70)))) :: (q_70, .inl (D.1 13, 3200, .inl (fun _ => 0))) :: _) := hD
  generalize hfs_71 : fs_69.set 44 (.ref q_70) = fs_71 at hP hD
  have hlen : fs_71.length = 116 := by rw [← hfs_71, List.length_set]; exact hlen
  have hP : va_P D vwCl ((h0, .inr (12, fs_71)) :: (q_70, .inl (D.1 13, 3200, .inl (fun _ => 0))) :: _) H := hP
  have hD : va_D A ((h0, .inr (12, fs_71)) :: (q_70, .inl (D.1 13, 3200, .inl (fun _ => 0))) :: _) := hD
  refine lv_aload_n hx hb eX12_init_882.2.2.2.2.1 rfl (lv_at hl 0 rfl) ?_
  refine lv_sipush (v := 906) hx hb eX12_init_882.2.2.2.2.2.1 (by decide) ?_
  refine va_newa (atype := .int) (a0 := (906, .inl (fun _ => 0))) (ty := .int) (N' := 906) hx hb (ht _ ac_int) rfl hK hP hD hS hA (fun _ => rfl) (by decide) (by decide) (by decide) (Nat.le_trans (Nat.le_of_ble_eq_true rfl) hRc) (Nat.le_trans (Nat.le_of_ble_eq_true rfl) hRs) eX12_init_882.2.2.2.2.2.2.1 (fun q_72 cA H hK2 hP hD hS => ?_)
  obtain rfl := z_cls_int hK hK2
  refine W.widen (k := 36) (n := 6109) (Nat.le_of_ble_eq_true rfl) (Nat.le_of_ble_eq_true rfl) ?_
  obtain ⟨hP, hD⟩ := z_rot hP hD
  have hP : va_P D vwCl ((h0, .inr (12, fs_71)) :: (q_72, .inl (D.1 13, 906, .inl (fun _ => 0))) :: _) H := hP
  have hD : va_D A ((h0, .inr (12, fs_71)) :: (q_72, .inl (D.1 13, 906, .inl (fun _ => 0))) :: _) := hD
  refine va_putF (D := D) (ci := 12) (v := .ref q_72) (ty := .array .int) (C := RX12) (T := TX12) (N := 116) hx hb ht inX12 tyX12 tyX12_ok nmX12 hown hK hP hD hS 0 rfl rfl 49 (by decide) (ht (.fieldLink RX12 121 "CloneVolumesModel" "now" "[I") fl_X12_121) (fun _ h9 => h9) rfl hin rfl (by decide +kernel) rfl rfl (by rw [hlen]; decide) eX12_init_882.2.2.2.2.2.2.2 (fun H locs hP hD hS => ?_)
  have hP : va_P D vwCl ((h0, .inr (12, (fs_71.set 49 (.ref q_72)))) :: (q_72, .inl (D.1 13, 906, .inl (fun _ => 0))) :: _) H := hP
  have hD : va_D A ((h0, .inr (12, (fs_71.set 49 (.ref q_72)))) :: (q_72, .inl (D.1 13, 906, .inl (fun _ => 0))) :: _) := hD
  generalize hfs_73 : fs_71.set 49 (.ref q_72) = fs_73 at hP hD
  have hlen : fs_73.length = 116 := by rw [← hfs_73, List.length_set]; exact hlen
  have hP : va_P D vwCl ((h0, .inr (12, fs_73)) :: (q_72, .inl (D.1 13, 906, .inl (fun _ => 0))) :: _) H := hP
  have hD : va_D A ((h0, .inr (12, fs_73)) :: (q_72, .inl (D.1 13, 906, .inl (fun _ => 0))) :: _) := hD
  refine lv_aload_n hx hb eX12_init_900.1 rfl (lv_at hl 0 rfl) ?_
  refine lv_bipush (v := 48) hx hb eX12_init_900.2.1 (by decide) ?_
  refine va_newa (atype := .boolean) (a0 := (48, .inl (fun _ => 0))) (ty := .boolean) (N' := 48) hx hb (ht _ ac_boolean) rfl hK hP hD hS hA (fun _ => rfl) (by decide) (by decide) (by decide) (Nat.le_trans (Nat.le_of_ble_eq_true rfl) hRc) (Nat.le_trans (Nat.le_of_ble_eq_true rfl) hRs) eX12_init_900.2.2.1 (fun q_74 cA H hK2 hP hD hS => ?_)
  obtain rfl := z_cls_boolean hK hK2
  refine W.widen (k := 37) (n := 6157) (Nat.le_of_ble_eq_true rfl) (Nat.le_of_ble_eq_true rfl) ?_
  obtain ⟨hP, hD⟩ := z_rot hP hD
  have hP : va_P D vwCl ((h0, .inr (12, fs_73)) :: (q_74, .inl (D.1 16, 48, .inl (fun _ => 0))) :: _) H := hP
  have hD : va_D A ((h0, .inr (12, fs_73)) :: (q_74, .inl (D.1 16, 48, .inl (fun _ => 0))) :: _) := hD
  refine va_putF (D := D) (ci := 12) (v := .ref q_74) (ty := .array .boolean) (C := RX12) (T := TX12) (N := 116) hx hb ht inX12 tyX12 tyX12_ok nmX12 hown hK hP hD hS 0 rfl rfl 54 (by decide) (ht (.fieldLink RX12 124 "CloneVolumesModel" "isTouched" "[Z") fl_X12_124) (fun _ h9 => h9) rfl hin rfl (by decide +kernel) rfl rfl (by rw [hlen]; decide) eX12_init_900.2.2.2.1 (fun H locs hP hD hS => ?_)
  have hP : va_P D vwCl ((h0, .inr (12, (fs_73.set 54 (.ref q_74)))) :: (q_74, .inl (D.1 16, 48, .inl (fun _ => 0))) :: _) H := hP
  have hD : va_D A ((h0, .inr (12, (fs_73.set 54 (.ref q_74)))) :: (q_74, .inl (D.1 16, 48, .inl (fun _ => 0))) :: _) := hD
  generalize hfs_75 : fs_73.set 54 (.ref q_74) = fs_75 at hP hD
  have hlen : fs_75.length = 116 := by rw [← hfs_75, List.length_set]; exact hlen
  have hP : va_P D vwCl ((h0, .inr (12, fs_75)) :: (q_74, .inl (D.1 16, 48, .inl (fun _ => 0))) :: _) H := hP
  have hD : va_D A ((h0, .inr (12, fs_75)) :: (q_74, .inl (D.1 16, 48, .inl (fun _ => 0))) :: _) := hD
  refine lv_aload_n hx hb eX12_init_900.2.2.2.2.1 rfl (lv_at hl 0 rfl) ?_
  refine lv_sipush (v := 300) hx hb eX12_init_900.2.2.2.2.2.1 (by decide) ?_
  refine va_newa (atype := .int) (a0 := (300, .inl (fun _ => 0))) (ty := .int) (N' := 300) hx hb (ht _ ac_int) rfl hK hP hD hS hA (fun _ => rfl) (by decide) (by decide) (by decide) (Nat.le_trans (Nat.le_of_ble_eq_true rfl) hRc) (Nat.le_trans (Nat.le_of_ble_eq_true rfl) hRs) eX12_init_900.2.2.2.2.2.2.1 (fun q_76 cA H hK2 hP hD hS => ?_)
  obtain rfl := z_cls_int hK hK2
  refine W.widen (k := 38) (n := 6457) (Nat.le_of_ble_eq_true rfl) (Nat.le_of_ble_eq_true rfl) ?_
  obtain ⟨hP, hD⟩ := z_rot hP hD
  have hP : va_P D vwCl ((h0, .inr (12, fs_75)) :: (q_76, .inl (D.1 13, 300, .inl (fun _ => 0))) :: _) H := hP
  have hD : va_D A ((h0, .inr (12, fs_75)) :: (q_76, .inl (D.1 13, 300, .inl (fun _ => 0))) :: _) := hD
  refine va_putF (D := D) (ci := 12) (v := .ref q_76) (ty := .array .int) (C := RX12) (T := TX12) (N := 116) hx hb ht inX12 tyX12 tyX12_ok nmX12 hown hK hP hD hS 0 rfl rfl 56 (by decide) (ht (.fieldLink RX12 128 "CloneVolumesModel" "fallRow" "[I") fl_X12_128) (fun _ h9 => h9) rfl hin rfl (by decide +kernel) rfl rfl (by rw [hlen]; decide) eX12_init_900.2.2.2.2.2.2.2 (fun H locs hP hD hS => ?_)
  have hP : va_P D vwCl ((h0, .inr (12, (fs_75.set 56 (.ref q_76)))) :: (q_76, .inl (D.1 13, 300, .inl (fun _ => 0))) :: _) H := hP
  have hD : va_D A ((h0, .inr (12, (fs_75.set 56 (.ref q_76)))) :: (q_76, .inl (D.1 13, 300, .inl (fun _ => 0))) :: _) := hD
  generalize hfs_77 : fs_75.set 56 (.ref q_76) = fs_77 at hP hD
  have hlen : fs_77.length = 116 := by rw [← hfs_77, List.length_set]; exact hlen
  have hP : va_P D vwCl ((h0, .inr (12, fs_77)) :: (q_76, .inl (D.1 13, 300, .inl (fun _ => 0))) :: _) H := hP
  have hD : va_D A ((h0, .inr (12, fs_77)) :: (q_76, .inl (D.1 13, 300, .inl (fun _ => 0))) :: _) := hD
  refine lv_aload_n hx hb eX12_init_917.1 rfl (lv_at hl 0 rfl) ?_
  refine lv_bipush (v := 48) hx hb eX12_init_917.2.1 (by decide) ?_
  refine va_newa (atype := .int) (a0 := (48, .inl (fun _ => 0))) (ty := .int) (N' := 48) hx hb (ht _ ac_int) rfl hK hP hD hS hA (fun _ => rfl) (by decide) (by decide) (by decide) (Nat.le_trans (Nat.le_of_ble_eq_true rfl) hRc) (Nat.le_trans (Nat.le_of_ble_eq_true rfl) hRs) eX12_init_917.2.2.1 (fun q_78 cA H hK2 hP hD hS => ?_)
  obtain rfl := z_cls_int hK hK2
  refine W.widen (k := 39) (n := 6505) (Nat.le_of_ble_eq_true rfl) (Nat.le_of_ble_eq_true rfl) ?_
  obtain ⟨hP, hD⟩ := z_rot hP hD
  have hP : va_P D vwCl ((h0, .inr (12, fs_77)) :: (q_78, .inl (D.1 13, 48, .inl (fun _ => 0))) :: _) H := hP
  have hD : va_D A ((h0, .inr (12, fs_77)) :: (q_78, .inl (D.1 13, 48, .inl (fun _ => 0))) :: _) := hD
  refine va_putF (D := D) (ci := 12) (v := .ref q_78) (ty := .array .int) (C := RX12) (T := TX12) (N := 116) hx hb ht inX12 tyX12 tyX12_ok nmX12 hown hK hP hD hS 0 rfl rfl 57 (by decide) (ht (.fieldLink RX12 131 "CloneVolumesModel" "wayBlocks" "[I") fl_X12_131) (fun _ h9 => h9) rfl hin rfl (by decide +kernel) rfl rfl (by rw [hlen]; decide) eX12_init_917.2.2.2.1 (fun H locs hP hD hS => ?_)
  have hP : va_P D vwCl ((h0, .inr (12, (fs_77.set 57 (.ref q_78)))) :: (q_78, .inl (D.1 13, 48, .inl (fun _ => 0))) :: _) H := hP
  have hD : va_D A ((h0, .inr (12, (fs_77.set 57 (.ref q_78)))) :: (q_78, .inl (D.1 13, 48, .inl (fun _ => 0))) :: _) := hD
  generalize hfs_79 : fs_77.set 57 (.ref q_78) = fs_79 at hP hD
  have hlen : fs_79.length = 116 := by rw [← hfs_79, List.length_set]; exact hlen
  have hP : va_P D vwCl ((h0, .inr (12, fs_79)) :: (q_78, .inl (D.1 13, 48, .inl (fun _ => 0))) :: _) H := hP
  have hD : va_D A ((h0, .inr (12, fs_79)) :: (q_78, .inl (D.1 13, 48, .inl (fun _ => 0))) :: _) := hD
  refine lv_aload_n hx hb eX12_init_917.2.2.2.2.1 rfl (lv_at hl 0 rfl) ?_
  refine lv_bipush (v := 48) hx hb eX12_init_917.2.2.2.2.2.1 (by decide) ?_
  refine va_newa (atype := .int) (a0 := (48, .inl (fun _ => 0))) (ty := .int) (N' := 48) hx hb (ht _ ac_int) rfl hK hP hD hS hA (fun _ => rfl) (by decide) (by decide) (by decide) (Nat.le_trans (Nat.le_of_ble_eq_true rfl) hRc) (Nat.le_trans (Nat.le_of_ble_eq_true rfl) hRs) eX12_init_917.2.2.2.2.2.2.1 (fun q_80 cA H hK2 hP hD hS => ?_)
  obtain rfl := z_cls_int hK hK2
  refine W.widen (k := 40) (n := 6553) (Nat.le_of_ble_eq_true rfl) (Nat.le_of_ble_eq_true rfl) ?_
  obtain ⟨hP, hD⟩ := z_rot hP hD
  have hP : va_P D vwCl ((h0, .inr (12, fs_79)) :: (q_80, .inl (D.1 13, 48, .inl (fun _ => 0))) :: _) H := hP
  have hD : va_D A ((h0, .inr (12, fs_79)) :: (q_80, .inl (D.1 13, 48, .inl (fun _ => 0))) :: _) := hD
  refine va_putF (D := D) (ci := 12) (v := .ref q_80) (ty := .array .int) (C := RX12) (T := TX12) (N := 116) hx hb ht inX12 tyX12 tyX12_ok nmX12 hown hK hP hD hS 0 rfl rfl 58 (by decide) (ht (.fieldLink RX12 134 "CloneVolumesModel" "wayPlaces" "[I") fl_X12_134) (fun _ h9 => h9) rfl hin rfl (by decide +kernel) rfl rfl (by rw [hlen]; decide) eX12_init_917.2.2.2.2.2.2.2 (fun H locs hP hD hS => ?_)
  have hP : va_P D vwCl ((h0, .inr (12, (fs_79.set 58 (.ref q_80)))) :: (q_80, .inl (D.1 13, 48, .inl (fun _ => 0))) :: _) H := hP
  have hD : va_D A ((h0, .inr (12, (fs_79.set 58 (.ref q_80)))) :: (q_80, .inl (D.1 13, 48, .inl (fun _ => 0))) :: _) := hD
  generalize hfs_81 : fs_79.set 58 (.ref q_80) = fs_81 at hP hD
  have hlen : fs_81.length = 116 := by rw [← hfs_81, List.length_set]; exact hlen
  have hP : va_P D vwCl ((h0, .inr (12, fs_81)) :: (q_80, .inl (D.1 13, 48, .inl (fun _ => 0))) :: _) H := hP
  have hD : va_D A ((h0, .inr (12, fs_81)) :: (q_80, .inl (D.1 13, 48, .inl (fun _ => 0))) :: _) := hD
  refine lv_aload_n hx hb eX12_init_933.1 rfl (lv_at hl 0 rfl) ?_
  refine lv_sipush (v := 785) hx hb eX12_init_933.2.1 (by decide) ?_
  refine va_newa (atype := .int) (a0 := (785, .inl (fun _ => 0))) (ty := .int) (N' := 785) hx hb (ht _ ac_int) rfl hK hP hD hS hA (fun _ => rfl) (by decide) (by decide) (by decide) (Nat.le_trans (Nat.le_of_ble_eq_true rfl) hRc) (Nat.le_trans (Nat.le_of_ble_eq_true rfl) hRs) eX12_init_933.2.2.1 (fun q_82 cA H hK2 hP hD hS => ?_)
  obtain rfl := z_cls_int hK hK2
  refine W.widen (k := 41) (n := 7338) (Nat.le_of_ble_eq_true rfl) (Nat.le_of_ble_eq_true rfl) ?_
  obtain ⟨hP, hD⟩ := z_rot hP hD
  have hP : va_P D vwCl ((h0, .inr (12, fs_81)) :: (q_82, .inl (D.1 13, 785, .inl (fun _ => 0))) :: _) H := hP
  have hD : va_D A ((h0, .inr (12, fs_81)) :: (q_82, .inl (D.1 13, 785, .inl (fun _ => 0))) :: _) := hD
  refine va_putF (D := D) (ci := 12) (v := .ref q_82) (ty := .array .int) (C := RX12) (T := TX12) (N := 116) hx hb ht inX12 tyX12 tyX12_ok nmX12 hown hK hP hD hS 0 rfl rfl 59 (by decide) (ht (.fieldLink RX12 137 "CloneVolumesModel" "tried" "[I") fl_X12_137) (fun _ h9 => h9) rfl hin rfl (by decide +kernel) rfl rfl (by rw [hlen]; decide) eX12_init_933.2.2.2.1 (fun H locs hP hD hS => ?_)
  have hP : va_P D vwCl ((h0, .inr (12, (fs_81.set 59 (.ref q_82)))) :: (q_82, .inl (D.1 13, 785, .inl (fun _ => 0))) :: _) H := hP
  have hD : va_D A ((h0, .inr (12, (fs_81.set 59 (.ref q_82)))) :: (q_82, .inl (D.1 13, 785, .inl (fun _ => 0))) :: _) := hD
  generalize hfs_83 : fs_81.set 59 (.ref q_82) = fs_83 at hP hD
  have hlen : fs_83.length = 116 := by rw [← hfs_83, List.length_set]; exact hlen
  have hP : va_P D vwCl ((h0, .inr (12, fs_83)) :: (q_82, .inl (D.1 13, 785, .inl (fun _ => 0))) :: _) H := hP
  have hD : va_D A ((h0, .inr (12, fs_83)) :: (q_82, .inl (D.1 13, 785, .inl (fun _ => 0))) :: _) := hD
  refine lv_aload_n hx hb eX12_init_933.2.2.2.2.1 rfl (lv_at hl 0 rfl) ?_
  refine lv_bipush (v := 48) hx hb eX12_init_933.2.2.2.2.2.1 (by decide) ?_
  refine va_newa (atype := .boolean) (a0 := (48, .inl (fun _ => 0))) (ty := .boolean) (N' := 48) hx hb (ht _ ac_boolean) rfl hK hP hD hS hA (fun _ => rfl) (by decide) (by decide) (by decide) (Nat.le_trans (Nat.le_of_ble_eq_true rfl) hRc) (Nat.le_trans (Nat.le_of_ble_eq_true rfl) hRs) eX12_init_933.2.2.2.2.2.2.1 (fun q_84 cA H hK2 hP hD hS => ?_)
  obtain rfl := z_cls_boolean hK hK2
  refine W.widen (k := 42) (n := 7386) (Nat.le_of_ble_eq_true rfl) (Nat.le_of_ble_eq_true rfl) ?_
  obtain ⟨hP, hD⟩ := z_rot hP hD
  have hP : va_P D vwCl ((h0, .inr (12, fs_83)) :: (q_84, .inl (D.1 16, 48, .inl (fun _ => 0))) :: _) H := hP
  have hD : va_D A ((h0, .inr (12, fs_83)) :: (q_84, .inl (D.1 16, 48, .inl (fun _ => 0))) :: _) := hD
  refine va_putF (D := D) (ci := 12) (v := .ref q_84) (ty := .array .boolean) (C := RX12) (T := TX12) (N := 116) hx hb ht inX12 tyX12 tyX12_ok nmX12 hown hK hP hD hS 0 rfl rfl 60 (by decide) (ht (.fieldLink RX12 140 "CloneVolumesModel" "wasTouched" "[Z") fl_X12_140) (fun _ h9 => h9) rfl hin rfl (by decide +kernel) rfl rfl (by rw [hlen]; decide) eX12_init_933.2.2.2.2.2.2.2 (fun H locs hP hD hS => ?_)
  have hP : va_P D vwCl ((h0, .inr (12, (fs_83.set 60 (.ref q_84)))) :: (q_84, .inl (D.1 16, 48, .inl (fun _ => 0))) :: _) H := hP
  have hD : va_D A ((h0, .inr (12, (fs_83.set 60 (.ref q_84)))) :: (q_84, .inl (D.1 16, 48, .inl (fun _ => 0))) :: _) := hD
  generalize hfs_85 : fs_83.set 60 (.ref q_84) = fs_85 at hP hD
  have hlen : fs_85.length = 116 := by rw [← hfs_85, List.length_set]; exact hlen
  have hP : va_P D vwCl ((h0, .inr (12, fs_85)) :: (q_84, .inl (D.1 16, 48, .inl (fun _ => 0))) :: _) H := hP
  have hD : va_D A ((h0, .inr (12, fs_85)) :: (q_84, .inl (D.1 16, 48, .inl (fun _ => 0))) :: _) := hD
  refine lv_aload_n hx hb eX12_init_950.1 rfl (lv_at hl 0 rfl) ?_
  refine lv_sipush (v := 785) hx hb eX12_init_950.2.1 (by decide) ?_
  refine va_newa (atype := .int) (a0 := (785, .inl (fun _ => 0))) (ty := .int) (N' := 785) hx hb (ht _ ac_int) rfl hK hP hD hS hA (fun _ => rfl) (by decide) (by decide) (by decide) (Nat.le_trans (Nat.le_of_ble_eq_true rfl) hRc) (Nat.le_trans (Nat.le_of_ble_eq_true rfl) hRs) eX12_init_950.2.2.1 (fun q_86 cA H hK2 hP hD hS => ?_)
  obtain rfl := z_cls_int hK hK2
  refine W.widen (k := 43) (n := 8171) (Nat.le_of_ble_eq_true rfl) (Nat.le_of_ble_eq_true rfl) ?_
  obtain ⟨hP, hD⟩ := z_rot hP hD
  have hP : va_P D vwCl ((h0, .inr (12, fs_85)) :: (q_86, .inl (D.1 13, 785, .inl (fun _ => 0))) :: _) H := hP
  have hD : va_D A ((h0, .inr (12, fs_85)) :: (q_86, .inl (D.1 13, 785, .inl (fun _ => 0))) :: _) := hD
  refine va_putF (D := D) (ci := 12) (v := .ref q_86) (ty := .array .int) (C := RX12) (T := TX12) (N := 116) hx hb ht inX12 tyX12 tyX12_ok nmX12 hown hK hP hD hS 0 rfl rfl 61 (by decide) (ht (.fieldLink RX12 143 "CloneVolumesModel" "aside" "[I") fl_X12_143) (fun _ h9 => h9) rfl hin rfl (by decide +kernel) rfl rfl (by rw [hlen]; decide) eX12_init_950.2.2.2.1 (fun H locs hP hD hS => ?_)
  have hP : va_P D vwCl ((h0, .inr (12, (fs_85.set 61 (.ref q_86)))) :: (q_86, .inl (D.1 13, 785, .inl (fun _ => 0))) :: _) H := hP
  have hD : va_D A ((h0, .inr (12, (fs_85.set 61 (.ref q_86)))) :: (q_86, .inl (D.1 13, 785, .inl (fun _ => 0))) :: _) := hD
  generalize hfs_87 : fs_85.set 61 (.ref q_86) = fs_87 at hP hD
  have hlen : fs_87.length = 116 := by rw [← hfs_87, List.length_set]; exact hlen
  have hP : va_P D vwCl ((h0, .inr (12, fs_87)) :: (q_86, .inl (D.1 13, 785, .inl (fun _ => 0))) :: _) H := hP
  have hD : va_D A ((h0, .inr (12, fs_87)) :: (q_86, .inl (D.1 13, 785, .inl (fun _ => 0))) :: _) := hD
  refine lv_aload_n hx hb eX12_init_950.2.2.2.2.1 rfl (lv_at hl 0 rfl) ?_
  refine lv_sipush (v := 300) hx hb eX12_init_950.2.2.2.2.2.1 (by decide) ?_
  refine va_newa (atype := .int) (a0 := (300, .inl (fun _ => 0))) (ty := .int) (N' := 300) hx hb (ht _ ac_int) rfl hK hP hD hS hA (fun _ => rfl) (by decide) (by decide) (by decide) (Nat.le_trans (Nat.le_of_ble_eq_true rfl) hRc) (Nat.le_trans (Nat.le_of_ble_eq_true rfl) hRs) eX12_init_950.2.2.2.2.2.2.1 (fun q_88 cA H hK2 hP hD hS => ?_)
  obtain rfl := z_cls_int hK hK2
  refine W.widen (k := 44) (n := 8471) (Nat.le_of_ble_eq_true rfl) (Nat.le_of_ble_eq_true rfl) ?_
  obtain ⟨hP, hD⟩ := z_rot hP hD
  have hP : va_P D vwCl ((h0, .inr (12, fs_87)) :: (q_88, .inl (D.1 13, 300, .inl (fun _ => 0))) :: _) H := hP
  have hD : va_D A ((h0, .inr (12, fs_87)) :: (q_88, .inl (D.1 13, 300, .inl (fun _ => 0))) :: _) := hD
  refine va_putF (D := D) (ci := 12) (v := .ref q_88) (ty := .array .int) (C := RX12) (T := TX12) (N := 116) hx hb ht inX12 tyX12 tyX12_ok nmX12 hown hK hP hD hS 0 rfl rfl 62 (by decide) (ht (.fieldLink RX12 146 "CloneVolumesModel" "treeRow" "[I") fl_X12_146) (fun _ h9 => h9) rfl hin rfl (by decide +kernel) rfl rfl (by rw [hlen]; decide) eX12_init_950.2.2.2.2.2.2.2 (fun H locs hP hD hS => ?_)
  have hP : va_P D vwCl ((h0, .inr (12, (fs_87.set 62 (.ref q_88)))) :: (q_88, .inl (D.1 13, 300, .inl (fun _ => 0))) :: _) H := hP
  have hD : va_D A ((h0, .inr (12, (fs_87.set 62 (.ref q_88)))) :: (q_88, .inl (D.1 13, 300, .inl (fun _ => 0))) :: _) := hD
  generalize hfs_89 : fs_87.set 62 (.ref q_88) = fs_89 at hP hD
  have hlen : fs_89.length = 116 := by rw [← hfs_89, List.length_set]; exact hlen
  have hP : va_P D vwCl ((h0, .inr (12, fs_89)) :: (q_88, .inl (D.1 13, 300, .inl (fun _ => 0))) :: _) H := hP
  have hD : va_D A ((h0, .inr (12, fs_89)) :: (q_88, .inl (D.1 13, 300, .inl (fun _ => 0))) :: _) := hD
  refine lv_aload_n hx hb eX12_init_968.1 rfl (lv_at hl 0 rfl) ?_
  refine lv_bipush (v := 48) hx hb eX12_init_968.2.1 (by decide) ?_
  refine va_newa (atype := .boolean) (a0 := (48, .inl (fun _ => 0))) (ty := .boolean) (N' := 48) hx hb (ht _ ac_boolean) rfl hK hP hD hS hA (fun _ => rfl) (by decide) (by decide) (by decide) (Nat.le_trans (Nat.le_of_ble_eq_true rfl) hRc) (Nat.le_trans (Nat.le_of_ble_eq_true rfl) hRs) eX12_init_968.2.2.1 (fun q_90 cA H hK2 hP hD hS => ?_)
  obtain rfl := z_cls_boolean hK hK2
  refine W.widen (k := 45) (n := 8519) (Nat.le_of_ble_eq_true rfl) (Nat.le_of_ble_eq_true rfl) ?_
  obtain ⟨hP, hD⟩ := z_rot hP hD
  have hP : va_P D vwCl ((h0, .inr (12, fs_89)) :: (q_90, .inl (D.1 16, 48, .inl (fun _ => 0))) :: _) H := hP
  have hD : va_D A ((h0, .inr (12, fs_89)) :: (q_90, .inl (D.1 16, 48, .inl (fun _ => 0))) :: _) := hD
  refine va_putF (D := D) (ci := 12) (v := .ref q_90) (ty := .array .boolean) (C := RX12) (T := TX12) (N := 116) hx hb ht inX12 tyX12 tyX12_ok nmX12 hown hK hP hD hS 0 rfl rfl 63 (by decide) (ht (.fieldLink RX12 149 "CloneVolumesModel" "isInTree" "[Z") fl_X12_149) (fun _ h9 => h9) rfl hin rfl (by decide +kernel) rfl rfl (by rw [hlen]; decide) eX12_init_968.2.2.2 (fun H locs hP hD hS => ?_)
  have hP : va_P D vwCl ((h0, .inr (12, (fs_89.set 63 (.ref q_90)))) :: (q_90, .inl (D.1 16, 48, .inl (fun _ => 0))) :: _) H := hP
  have hD : va_D A ((h0, .inr (12, (fs_89.set 63 (.ref q_90)))) :: (q_90, .inl (D.1 16, 48, .inl (fun _ => 0))) :: _) := hD
  generalize hfs_91 : fs_89.set 63 (.ref q_90) = fs_91 at hP hD
  have hlen : fs_91.length = 116 := by rw [← hfs_91, List.length_set]; exact hlen
  have hP : va_P D vwCl ((h0, .inr (12, fs_91)) :: (q_90, .inl (D.1 16, 48, .inl (fun _ => 0))) :: _) H := hP
  have hD : va_D A ((h0, .inr (12, fs_91)) :: (q_90, .inl (D.1 16, 48, .inl (fun _ => 0))) :: _) := hD
  exact kk q_90 q_88 q_86 q_84 q_82 q_80 q_78 q_76 q_74 q_72 q_70 q_68 fs_91 _ _ (by rw [← hfs_91, ← hfs_89, ← hfs_87, ← hfs_85, ← hfs_83, ← hfs_81, ← hfs_79, ← hfs_77, ← hfs_75, ← hfs_73, ← hfs_71, ← hfs_69]) hP hD hS
theorem fl_X12_152 : Cond.fieldLink RX12 152 "CloneVolumesModel" "keyRow" "[I" ∈ lw_gd := zm (lw_g_6 (List.mem_of_getElem? (i := 205) (by decide +kernel))) rfl
theorem fl_X12_155 : Cond.fieldLink RX12 155 "CloneVolumesModel" "valueRow" "[I" ∈ lw_gd := zm (lw_g_6 (List.mem_of_getElem? (i := 206) (by decide +kernel))) rfl
theorem fl_X12_158 : Cond.fieldLink RX12 158 "CloneVolumesModel" "leafRow" "[I" ∈ lw_gd := zm (lw_g_6 (List.mem_of_getElem? (i := 207) (by decide +kernel))) rfl
theorem fl_X12_161 : Cond.fieldLink RX12 161 "CloneVolumesModel" "wasInTree" "[Z" ∈ lw_gd := zm (lw_g_6 (List.mem_of_getElem? (i := 210) (by decide +kernel))) rfl
theorem fl_X12_164 : Cond.fieldLink RX12 164 "CloneVolumesModel" "lostBy" "[I" ∈ lw_gd := zm (lw_g_6 (List.mem_of_getElem? (i := 213) (by decide +kernel))) rfl
theorem fl_X12_167 : Cond.fieldLink RX12 167 "CloneVolumesModel" "rows" "[I" ∈ lw_gd := zm (lw_g_6 (List.mem_of_getElem? (i := 215) (by decide +kernel))) rfl
theorem fl_X12_170 : Cond.fieldLink RX12 170 "CloneVolumesModel" "kept0" "[I" ∈ lw_gd := zm (lw_g_6 (List.mem_of_getElem? (i := 216) (by decide +kernel))) rfl
theorem fl_X12_173 : Cond.fieldLink RX12 173 "CloneVolumesModel" "seeded" "J" ∈ lw_gd := zm (lw_g_6 (List.mem_of_getElem? (i := 219) (by decide +kernel))) rfl
theorem fl_X12_177 : Cond.fieldLink RX12 177 "CloneVolumesModel" "firstAsked" "[C" ∈ lw_gd := zm (lw_g_6 (List.mem_of_getElem? (i := 220) (by decide +kernel))) rfl
theorem fl_X12_180 : Cond.fieldLink RX12 180 "CloneVolumesModel" "lastAsked" "[C" ∈ lw_gd := zm (lw_g_6 (List.mem_of_getElem? (i := 221) (by decide +kernel))) rfl
theorem fl_X12_183 : Cond.fieldLink RX12 183 "CloneVolumesModel" "oftenAsked" "[C" ∈ lw_gd := zm (lw_g_6 (List.mem_of_getElem? (i := 222) (by decide +kernel))) rfl
theorem fl_X12_186 : Cond.fieldLink RX12 186 "CloneVolumesModel" "totalAsked" "[C" ∈ lw_gd := zm (lw_g_6 (List.mem_of_getElem? (i := 223) (by decide +kernel))) rfl
theorem fl_X12_189 : Cond.fieldLink RX12 189 "CloneVolumesModel" "mostAsked" "[C" ∈ lw_gd := zm (lw_g_6 (List.mem_of_getElem? (i := 224) (by decide +kernel))) rfl
theorem fl_X12_192 : Cond.fieldLink RX12 192 "CloneVolumesModel" "leastAsked" "[C" ∈ lw_gd := zm (lw_g_6 (List.mem_of_getElem? (i := 225) (by decide +kernel))) rfl
theorem fl_X12_195 : Cond.fieldLink RX12 195 "CloneVolumesModel" "notAsked" "[C" ∈ lw_gd := zm (lw_g_6 (List.mem_of_getElem? (i := 226) (by decide +kernel))) rfl
theorem eX12_init_976 : decode cX12_init 976 = .ok (.aload_n 0, 1) ∧ decode cX12_init 977 = .ok (.sipush 300, 3) ∧ decode cX12_init 980 = .ok (.newarray .int, 2) ∧ decode cX12_init 982 = .ok (.putfield 152, 3) ∧ decode cX12_init 985 = .ok (.aload_n 0, 1) ∧ decode cX12_init 986 = .ok (.sipush 300, 3) ∧ decode cX12_init 989 = .ok (.newarray .int, 2) ∧ decode cX12_init 991 = .ok (.putfield 155, 3) := by decide +kernel
theorem eX12_init_994 : decode cX12_init 994 = .ok (.aload_n 0, 1) ∧ decode cX12_init 995 = .ok (.sipush 300, 3) ∧ decode cX12_init 998 = .ok (.newarray .int, 2) ∧ decode cX12_init 1000 = .ok (.putfield 158, 3) ∧ decode cX12_init 1003 = .ok (.aload_n 0, 1) ∧ decode cX12_init 1004 = .ok (.bipush 48, 2) ∧ decode cX12_init 1006 = .ok (.newarray .boolean, 2) ∧ decode cX12_init 1008 = .ok (.putfield 161, 3) := by decide +kernel
theorem eX12_init_1011 : decode cX12_init 1011 = .ok (.aload_n 0, 1) ∧ decode cX12_init 1012 = .ok (.bipush 48, 2) ∧ decode cX12_init 1014 = .ok (.newarray .int, 2) ∧ decode cX12_init 1016 = .ok (.putfield 164, 3) ∧ decode cX12_init 1019 = .ok (.aload_n 0, 1) ∧ decode cX12_init 1020 = .ok (.bipush 24, 2) ∧ decode cX12_init 1022 = .ok (.newarray .int, 2) ∧ decode cX12_init 1024 = .ok (.putfield 167, 3) := by decide +kernel
theorem eX12_init_1027 : decode cX12_init 1027 = .ok (.aload_n 0, 1) ∧ decode cX12_init 1028 = .ok (.sipush 18120, 3) ∧ decode cX12_init 1031 = .ok (.newarray .int, 2) ∧ decode cX12_init 1033 = .ok (.putfield 170, 3) ∧ decode cX12_init 1036 = .ok (.aload_n 0, 1) ∧ decode cX12_init 1037 = .ok (.lconst 1, 1) ∧ decode cX12_init 1038 = .ok (.putfield 173, 3) ∧ decode cX12_init 1041 = .ok (.aload_n 0, 1) := by decide +kernel
theorem eX12_init_1042 : decode cX12_init 1042 = .ok (.iconst 5, 1) ∧ decode cX12_init 1043 = .ok (.newarray .char, 2) ∧ decode cX12_init 1045 = .ok (.dup, 1) ∧ decode cX12_init 1046 = .ok (.iconst 0, 1) ∧ decode cX12_init 1047 = .ok (.bipush 102, 2) ∧ decode cX12_init 1049 = .ok (.castore, 1) ∧ decode cX12_init 1050 = .ok (.dup, 1) ∧ decode cX12_init 1051 = .ok (.iconst 1, 1) := by decide +kernel
theorem eX12_init_1052 : decode cX12_init 1052 = .ok (.bipush 105, 2) ∧ decode cX12_init 1054 = .ok (.castore, 1) ∧ decode cX12_init 1055 = .ok (.dup, 1) ∧ decode cX12_init 1056 = .ok (.iconst 2, 1) ∧ decode cX12_init 1057 = .ok (.bipush 114, 2) ∧ decode cX12_init 1059 = .ok (.castore, 1) ∧ decode cX12_init 1060 = .ok (.dup, 1) ∧ decode cX12_init 1061 = .ok (.iconst 3, 1) := by decide +kernel
theorem eX12_init_1062 : decode cX12_init 1062 = .ok (.bipush 115, 2) ∧ decode cX12_init 1064 = .ok (.castore, 1) ∧ decode cX12_init 1065 = .ok (.dup, 1) ∧ decode cX12_init 1066 = .ok (.iconst 4, 1) ∧ decode cX12_init 1067 = .ok (.bipush 116, 2) ∧ decode cX12_init 1069 = .ok (.castore, 1) ∧ decode cX12_init 1070 = .ok (.putfield 177, 3) ∧ decode cX12_init 1073 = .ok (.aload_n 0, 1) := by decide +kernel
theorem eX12_init_1074 : decode cX12_init 1074 = .ok (.iconst 4, 1) ∧ decode cX12_init 1075 = .ok (.newarray .char, 2) ∧ decode cX12_init 1077 = .ok (.dup, 1) ∧ decode cX12_init 1078 = .ok (.iconst 0, 1) ∧ decode cX12_init 1079 = .ok (.bipush 108, 2) ∧ decode cX12_init 1081 = .ok (.castore, 1) ∧ decode cX12_init 1082 = .ok (.dup, 1) ∧ decode cX12_init 1083 = .ok (.iconst 1, 1) := by decide +kernel
theorem eX12_init_1084 : decode cX12_init 1084 = .ok (.bipush 97, 2) ∧ decode cX12_init 1086 = .ok (.castore, 1) ∧ decode cX12_init 1087 = .ok (.dup, 1) ∧ decode cX12_init 1088 = .ok (.iconst 2, 1) ∧ decode cX12_init 1089 = .ok (.bipush 115, 2) ∧ decode cX12_init 1091 = .ok (.castore, 1) ∧ decode cX12_init 1092 = .ok (.dup, 1) ∧ decode cX12_init 1093 = .ok (.iconst 3, 1) := by decide +kernel
theorem eX12_init_1094 : decode cX12_init 1094 = .ok (.bipush 116, 2) ∧ decode cX12_init 1096 = .ok (.castore, 1) ∧ decode cX12_init 1097 = .ok (.putfield 180, 3) ∧ decode cX12_init 1100 = .ok (.aload_n 0, 1) ∧ decode cX12_init 1101 = .ok (.iconst 5, 1) ∧ decode cX12_init 1102 = .ok (.newarray .char, 2) ∧ decode cX12_init 1104 = .ok (.dup, 1) ∧ decode cX12_init 1105 = .ok (.iconst 0, 1) := by decide +kernel
theorem eX12_init_1106 : decode cX12_init 1106 = .ok (.bipush 111, 2) ∧ decode cX12_init 1108 = .ok (.castore, 1) ∧ decode cX12_init 1109 = .ok (.dup, 1) ∧ decode cX12_init 1110 = .ok (.iconst 1, 1) ∧ decode cX12_init 1111 = .ok (.bipush 102, 2) ∧ decode cX12_init 1113 = .ok (.castore, 1) ∧ decode cX12_init 1114 = .ok (.dup, 1) ∧ decode cX12_init 1115 = .ok (.iconst 2, 1) := by decide +kernel
theorem eX12_init_1116 : decode cX12_init 1116 = .ok (.bipush 116, 2) ∧ decode cX12_init 1118 = .ok (.castore, 1) ∧ decode cX12_init 1119 = .ok (.dup, 1) ∧ decode cX12_init 1120 = .ok (.iconst 3, 1) ∧ decode cX12_init 1121 = .ok (.bipush 101, 2) ∧ decode cX12_init 1123 = .ok (.castore, 1) ∧ decode cX12_init 1124 = .ok (.dup, 1) ∧ decode cX12_init 1125 = .ok (.iconst 4, 1) := by decide +kernel
theorem eX12_init_1126 : decode cX12_init 1126 = .ok (.bipush 110, 2) ∧ decode cX12_init 1128 = .ok (.castore, 1) ∧ decode cX12_init 1129 = .ok (.putfield 183, 3) ∧ decode cX12_init 1132 = .ok (.aload_n 0, 1) ∧ decode cX12_init 1133 = .ok (.iconst 5, 1) ∧ decode cX12_init 1134 = .ok (.newarray .char, 2) ∧ decode cX12_init 1136 = .ok (.dup, 1) ∧ decode cX12_init 1137 = .ok (.iconst 0, 1) := by decide +kernel
theorem eX12_init_1138 : decode cX12_init 1138 = .ok (.bipush 116, 2) ∧ decode cX12_init 1140 = .ok (.castore, 1) ∧ decode cX12_init 1141 = .ok (.dup, 1) ∧ decode cX12_init 1142 = .ok (.iconst 1, 1) ∧ decode cX12_init 1143 = .ok (.bipush 111, 2) ∧ decode cX12_init 1145 = .ok (.castore, 1) ∧ decode cX12_init 1146 = .ok (.dup, 1) ∧ decode cX12_init 1147 = .ok (.iconst 2, 1) := by decide +kernel
theorem eX12_init_1148 : decode cX12_init 1148 = .ok (.bipush 116, 2) ∧ decode cX12_init 1150 = .ok (.castore, 1) ∧ decode cX12_init 1151 = .ok (.dup, 1) ∧ decode cX12_init 1152 = .ok (.iconst 3, 1) ∧ decode cX12_init 1153 = .ok (.bipush 97, 2) ∧ decode cX12_init 1155 = .ok (.castore, 1) ∧ decode cX12_init 1156 = .ok (.dup, 1) ∧ decode cX12_init 1157 = .ok (.iconst 4, 1) := by decide +kernel
theorem eX12_init_1158 : decode cX12_init 1158 = .ok (.bipush 108, 2) ∧ decode cX12_init 1160 = .ok (.castore, 1) ∧ decode cX12_init 1161 = .ok (.putfield 186, 3) ∧ decode cX12_init 1164 = .ok (.aload_n 0, 1) ∧ decode cX12_init 1165 = .ok (.iconst 4, 1) ∧ decode cX12_init 1166 = .ok (.newarray .char, 2) ∧ decode cX12_init 1168 = .ok (.dup, 1) ∧ decode cX12_init 1169 = .ok (.iconst 0, 1) := by decide +kernel
theorem eX12_init_1170 : decode cX12_init 1170 = .ok (.bipush 109, 2) ∧ decode cX12_init 1172 = .ok (.castore, 1) ∧ decode cX12_init 1173 = .ok (.dup, 1) ∧ decode cX12_init 1174 = .ok (.iconst 1, 1) ∧ decode cX12_init 1175 = .ok (.bipush 111, 2) ∧ decode cX12_init 1177 = .ok (.castore, 1) ∧ decode cX12_init 1178 = .ok (.dup, 1) ∧ decode cX12_init 1179 = .ok (.iconst 2, 1) := by decide +kernel
theorem eX12_init_1180 : decode cX12_init 1180 = .ok (.bipush 115, 2) ∧ decode cX12_init 1182 = .ok (.castore, 1) ∧ decode cX12_init 1183 = .ok (.dup, 1) ∧ decode cX12_init 1184 = .ok (.iconst 3, 1) ∧ decode cX12_init 1185 = .ok (.bipush 116, 2) ∧ decode cX12_init 1187 = .ok (.castore, 1) ∧ decode cX12_init 1188 = .ok (.putfield 189, 3) ∧ decode cX12_init 1191 = .ok (.aload_n 0, 1) := by decide +kernel
theorem eX12_init_1192 : decode cX12_init 1192 = .ok (.iconst 5, 1) ∧ decode cX12_init 1193 = .ok (.newarray .char, 2) ∧ decode cX12_init 1195 = .ok (.dup, 1) ∧ decode cX12_init 1196 = .ok (.iconst 0, 1) ∧ decode cX12_init 1197 = .ok (.bipush 108, 2) ∧ decode cX12_init 1199 = .ok (.castore, 1) ∧ decode cX12_init 1200 = .ok (.dup, 1) ∧ decode cX12_init 1201 = .ok (.iconst 1, 1) := by decide +kernel
theorem eX12_init_1202 : decode cX12_init 1202 = .ok (.bipush 101, 2) ∧ decode cX12_init 1204 = .ok (.castore, 1) ∧ decode cX12_init 1205 = .ok (.dup, 1) ∧ decode cX12_init 1206 = .ok (.iconst 2, 1) ∧ decode cX12_init 1207 = .ok (.bipush 97, 2) ∧ decode cX12_init 1209 = .ok (.castore, 1) ∧ decode cX12_init 1210 = .ok (.dup, 1) ∧ decode cX12_init 1211 = .ok (.iconst 3, 1) := by decide +kernel
theorem eX12_init_1212 : decode cX12_init 1212 = .ok (.bipush 115, 2) ∧ decode cX12_init 1214 = .ok (.castore, 1) ∧ decode cX12_init 1215 = .ok (.dup, 1) ∧ decode cX12_init 1216 = .ok (.iconst 4, 1) ∧ decode cX12_init 1217 = .ok (.bipush 116, 2) ∧ decode cX12_init 1219 = .ok (.castore, 1) ∧ decode cX12_init 1220 = .ok (.putfield 192, 3) ∧ decode cX12_init 1223 = .ok (.aload_n 0, 1) := by decide +kernel
theorem eX12_init_1224 : decode cX12_init 1224 = .ok (.iconst 3, 1) ∧ decode cX12_init 1225 = .ok (.newarray .char, 2) ∧ decode cX12_init 1227 = .ok (.dup, 1) ∧ decode cX12_init 1228 = .ok (.iconst 0, 1) ∧ decode cX12_init 1229 = .ok (.bipush 110, 2) ∧ decode cX12_init 1231 = .ok (.castore, 1) ∧ decode cX12_init 1232 = .ok (.dup, 1) ∧ decode cX12_init 1233 = .ok (.iconst 1, 1) := by decide +kernel
theorem eX12_init_1234 : decode cX12_init 1234 = .ok (.bipush 111, 2) ∧ decode cX12_init 1236 = .ok (.castore, 1) ∧ decode cX12_init 1237 = .ok (.dup, 1) ∧ decode cX12_init 1238 = .ok (.iconst 2, 1) ∧ decode cX12_init 1239 = .ok (.bipush 116, 2) ∧ decode cX12_init 1241 = .ok (.castore, 1) ∧ decode cX12_init 1242 = .ok (.putfield 195, 3) := by decide +kernel
set_option maxHeartbeats 4000000 in
set_option maxRecDepth 100000 in
theorem cM_13 {p : Program} {l : Launch} {e : Env} {R : Room} {s : State} {m : MethodId} {args : Array Value} {below : List Frame} {meth : Method} {c : Code} {Q : State → Prop} {D : va_G} {A : Nat → Prop} {ls : Array Slot} {h0 : Nat} {T : va_W} (hx : p.tables.exec = Jvm.exec) (hb : c.code = cX12_init) (ht : ∀ w ∈ lw_gd, w.before args s = true) (hown : s.vm.findClass RX12 = some m.cls) (hin : meth.name = "<init>") (hK : va_K D vwCl (TY D) s) (hA : ∀ q : Nat, s.heap.size ≤ q → A q) (hRc : 80 ≤ R.cells) (hRs : 35050 ≤ R.slots) (hl : lv_has ls 1 [(0, .ref h0)]) {fs : List Value} (hlen : fs.length = 116) {H : Heap} {locs : List Loc} (hP : va_P D vwCl ((h0, .inr (12, fs)) :: T) H) (hD : va_D A ((h0, .inr (12, fs)) :: T)) (hS : va_S A s.heap H locs)
    (kk : ∀ (q_107 : Nat) (q_104 : Nat) (q_102 : Nat) (q_100 : Nat) (q_98 : Nat) (q_96 : Nat) (q_94 : Nat) (q_92 : Nat) (fs' : List Value) (H : Heap) (locs : List Loc), fs' = (((((((((fs.set 64 (.ref q_92)).set 65 (.ref q_94)).set 66 (.ref q_96)).set 69 (.ref q_98)).set 72 (.ref q_100)).set 74 (.ref q_102)).set 75 (.ref q_104)).set 78 (.long 1)).set 79 (.ref q_107)) → va_P D vwCl ((h0, .inr (12, fs')) :: (q_107, .inl (D.1 14, 5, .inl (fun j => i2 (upZ (upZ (upZ (upZ (upZ (fun _ => 0) 0 102) 1 105) 2 114) 3 115) 4 116 j)))) :: (q_104, .inl (D.1 13, 18120, .inl (fun _ => 0))) :: (q_102, .inl (D.1 13, 24, .inl (fun _ => 0))) :: (q_100, .inl (D.1 13, 48, .inl (fun _ => 0))) :: (q_98, .inl (D.1 16, 48, .inl (fun _ => 0))) :: (q_96, .inl (D.1 13, 300, .inl (fun _ => 0))) :: (q_94, .inl (D.1 13, 300, .inl (fun _ => 0))) :: (q_92, .inl (D.1 13, 300, .inl (fun _ => 0))) :: T) H → va_D A ((h0, .inr (12, fs')) :: (q_107, .inl (D.1 14, 5, .inl (fun j => i2 (upZ (upZ (upZ (upZ (upZ (fun _ => 0) 0 102) 1 105) 2 114) 3 115) 4 116 j)))) :: (q_104, .inl (D.1 13, 18120, .inl (fun _ => 0))) :: (q_102, .inl (D.1 13, 24, .inl (fun _ => 0))) :: (q_100, .inl (D.1 13, 48, .inl (fun _ => 0))) :: (q_98, .inl (D.1 16, 48, .inl (fun _ => 0))) :: (q_96, .inl (D.1 13, 300, .inl (fun _ => 0))) :: (q_94, .inl (D.1 13, 300, .inl (fun _ => 0))) :: (q_92, .inl (D.1 13, 300, .inl (fun _ => 0))) :: T) → va_S A s.heap H locs → W p l e R s m args below meth c H locs 53 27664 Q (F0 m 1073 ls [])) : W p l e R s m args below meth c H locs 45 8519 Q (F0 m 976 ls []) := by
  refine lv_aload_n hx hb eX12_init_976.1 rfl (lv_at hl 0 rfl) ?_
  refine lv_sipush (v := 300) hx hb eX12_init_976.2.1 (by decide) ?_
  refine va_newa (atype := .int) (a0 := (300, .inl (fun _ => 0))) (ty := .int) (N' := 300) hx hb (ht _ ac_int) rfl hK hP hD hS hA (fun _ => rfl) (by decide) (by decide) (by decide) (Nat.le_trans (Nat.le_of_ble_eq_true rfl) hRc) (Nat.le_trans (Nat.le_of_ble_eq_true rfl) hRs) eX12_init_976.2.2.1 (fun q_92 cA H hK2 hP hD hS => ?_)
  obtain rfl := z_cls_int hK hK2
  refine W.widen (k := 46) (n := 8819) (Nat.le_of_ble_eq_true rfl) (Nat.le_of_ble_eq_true rfl) ?_
  obtain ⟨hP, hD⟩ := z_rot hP hD
  have hP : va_P D vwCl ((h0, .inr (12, fs)) :: (q_92, .inl (D.1 13, 300, .inl (fun _ => 0))) :: T) H := hP
  have hD : va_D A ((h0, .inr (12, fs)) :: (q_92, .inl (D.1 13, 300, .inl (fun _ => 0))) :: T) := hD
  refine va_putF (D := D) (ci := 12) (v := .ref q_92) (ty := .array .int) (C := RX12) (T := TX12) (N := 116) hx hb ht inX12 tyX12 tyX12_ok nmX12 hown hK hP hD hS 0 rfl rfl 64 (by decide) (ht (.fieldLink RX12 152 "CloneVolumesModel" "keyRow" "[I") fl_X12_152) (fun _ h9 => h9) rfl hin rfl (by decide +kernel) rfl rfl (by rw [hlen]; decide) eX12_init_976.2.2.2.1 (fun H locs hP hD hS => ?_)
  have hP : va_P D vwCl ((h0, .inr (12, (fs.set 64 (.ref q_92)))) :: (q_92, .inl (D.1 13, 300, .inl (fun _ => 0))) :: T) H := hP
  have hD : va_D A ((h0, .inr (12, (fs.set 64 (.ref q_92)))) :: (q_92, .inl (D.1 13, 300, .inl (fun _ => 0))) :: T) := hD
  generalize hfs_93 : fs.set 64 (.ref q_92) = fs_93 at hP hD
  have hlen : fs_93.length = 116 := by rw [← hfs_93, List.length_set]; exact hlen
  have hP : va_P D vwCl ((h0, .inr (12, fs_93)) :: (q_92, .inl (D.1 13, 300, .inl (fun _ => 0))) :: T) H := hP
  have hD : va_D A ((h0, .inr (12, fs_93)) :: (q_92, .inl (D.1 13, 300, .inl (fun _ => 0))) :: T) := hD
  refine lv_aload_n hx hb eX12_init_976.2.2.2.2.1 rfl (lv_at hl 0 rfl) ?_
  refine lv_sipush (v := 300) hx hb eX12_init_976.2.2.2.2.2.1 (by decide) ?_
  refine va_newa (atype := .int) (a0 := (300, .inl (fun _ => 0))) (ty := .int) (N' := 300) hx hb (ht _ ac_int) rfl hK hP hD hS hA (fun _ => rfl) (by decide) (by decide) (by decide) (Nat.le_trans (Nat.le_of_ble_eq_true rfl) hRc) (Nat.le_trans (Nat.le_of_ble_eq_true rfl) hRs) eX12_init_976.2.2.2.2.2.2.1 (fun q_94 cA H hK2 hP hD hS => ?_)
  obtain rfl := z_cls_int hK hK2
  refine W.widen (k := 47) (n := 9119) (Nat.le_of_ble_eq_true rfl) (Nat.le_of_ble_eq_true rfl) ?_
  obtain ⟨hP, hD⟩ := z_rot hP hD
  have hP : va_P D vwCl ((h0, .inr (12, fs_93)) :: (q_94, .inl (D.1 13, 300, .inl (fun _ => 0))) :: _) H := hP
  have hD : va_D A ((h0, .inr (12, fs_93)) :: (q_94, .inl (D.1 13, 300, .inl (fun _ => 0))) :: _) := hD
  refine va_putF (D := D) (ci := 12) (v := .ref q_94) (ty := .array .int) (C := RX12) (T := TX12) (N := 116) hx hb ht inX12 tyX12 tyX12_ok nmX12 hown hK hP hD hS 0 rfl rfl 65 (by decide) (ht (.fieldLink RX12 155 "CloneVolumesModel" "valueRow" "[I") fl_X12_155) (fun _ h9 => h9) rfl hin rfl (by decide +kernel) rfl rfl (by rw [hlen]; decide) eX12_init_976.2.2.2.2.2.2.2 (fun H locs hP hD hS => ?_)
  have hP : va_P D vwCl ((h0, .inr (12, (fs_93.set 65 (.ref q_94)))) :: (q_94, .inl (D.1 13, 300, .inl (fun _ => 0))) :: _) H := hP
  have hD : va_D A ((h0, .inr (12, (fs_93.set 65 (.ref q_94)))) :: (q_94, .inl (D.1 13, 300, .inl (fun _ => 0))) :: _) := hD
  generalize hfs_95 : fs_93.set 65 (.ref q_94) = fs_95 at hP hD
  have hlen : fs_95.length = 116 := by rw [← hfs_95, List.length_set]; exact hlen
  have hP : va_P D vwCl ((h0, .inr (12, fs_95)) :: (q_94, .inl (D.1 13, 300, .inl (fun _ => 0))) :: _) H := hP
  have hD : va_D A ((h0, .inr (12, fs_95)) :: (q_94, .inl (D.1 13, 300, .inl (fun _ => 0))) :: _) := hD
  refine lv_aload_n hx hb eX12_init_994.1 rfl (lv_at hl 0 rfl) ?_
  refine lv_sipush (v := 300) hx hb eX12_init_994.2.1 (by decide) ?_
  refine va_newa (atype := .int) (a0 := (300, .inl (fun _ => 0))) (ty := .int) (N' := 300) hx hb (ht _ ac_int) rfl hK hP hD hS hA (fun _ => rfl) (by decide) (by decide) (by decide) (Nat.le_trans (Nat.le_of_ble_eq_true rfl) hRc) (Nat.le_trans (Nat.le_of_ble_eq_true rfl) hRs) eX12_init_994.2.2.1 (fun q_96 cA H hK2 hP hD hS => ?_)
  obtain rfl := z_cls_int hK hK2
  refine W.widen (k := 48) (n := 9419) (Nat.le_of_ble_eq_true rfl) (Nat.le_of_ble_eq_true rfl) ?_
  obtain ⟨hP, hD⟩ := z_rot hP hD
  have hP : va_P D vwCl ((h0, .inr (12, fs_95)) :: (q_96, .inl (D.1 13, 300, .inl (fun _ => 0))) :: _) H := hP
  have hD : va_D A ((h0, .inr (12, fs_95)) :: (q_96, .inl (D.1 13, 300, .inl (fun _ => 0))) :: _) := hD
  refine va_putF (D := D) (ci := 12) (v := .ref q_96) (ty := .array .int) (C := RX12) (T := TX12) (N := 116) hx hb ht inX12 tyX12 tyX12_ok nmX12 hown hK hP hD hS 0 rfl rfl 66 (by decide) (ht (.fieldLink RX12 158 "CloneVolumesModel" "leafRow" "[I") fl_X12_158) (fun _ h9 => h9) rfl hin rfl (by decide +kernel) rfl rfl (by rw [hlen]; decide) eX12_init_994.2.2.2.1 (fun H locs hP hD hS => ?_)
  have hP : va_P D vwCl ((h0, .inr (12, (fs_95.set 66 (.ref q_96)))) :: (q_96, .inl (D.1 13, 300, .inl (fun _ => 0))) :: _) H := hP
  have hD : va_D A ((h0, .inr (12, (fs_95.set 66 (.ref q_96)))) :: (q_96, .inl (D.1 13, 300, .inl (fun _ => 0))) :: _) := hD
  generalize hfs_97 : fs_95.set 66 (.ref q_96) = fs_97 at hP hD
  have hlen : fs_97.length = 116 := by rw [← hfs_97, List.length_set]; exact hlen
  have hP : va_P D vwCl ((h0, .inr (12, fs_97)) :: (q_96, .inl (D.1 13, 300, .inl (fun _ => 0))) :: _) H := hP
  have hD : va_D A ((h0, .inr (12, fs_97)) :: (q_96, .inl (D.1 13, 300, .inl (fun _ => 0))) :: _) := hD
  refine lv_aload_n hx hb eX12_init_994.2.2.2.2.1 rfl (lv_at hl 0 rfl) ?_
  refine lv_bipush (v := 48) hx hb eX12_init_994.2.2.2.2.2.1 (by decide) ?_
  refine va_newa (atype := .boolean) (a0 := (48, .inl (fun _ => 0))) (ty := .boolean) (N' := 48) hx hb (ht _ ac_boolean) rfl hK hP hD hS hA (fun _ => rfl) (by decide) (by decide) (by decide) (Nat.le_trans (Nat.le_of_ble_eq_true rfl) hRc) (Nat.le_trans (Nat.le_of_ble_eq_true rfl) hRs) eX12_init_994.2.2.2.2.2.2.1 (fun q_98 cA H hK2 hP hD hS => ?_)
  obtain rfl := z_cls_boolean hK hK2
  refine W.widen (k := 49) (n := 9467) (Nat.le_of_ble_eq_true rfl) (Nat.le_of_ble_eq_true rfl) ?_
  obtain ⟨hP, hD⟩ := z_rot hP hD
  have hP : va_P D vwCl ((h0, .inr (12, fs_97)) :: (q_98, .inl (D.1 16, 48, .inl (fun _ => 0))) :: _) H := hP
  have hD : va_D A ((h0, .inr (12, fs_97)) :: (q_98, .inl (D.1 16, 48, .inl (fun _ => 0))) :: _) := hD
  refine va_putF (D := D) (ci := 12) (v := .ref q_98) (ty := .array .boolean) (C := RX12) (T := TX12) (N := 116) hx hb ht inX12 tyX12 tyX12_ok nmX12 hown hK hP hD hS 0 rfl rfl 69 (by decide) (ht (.fieldLink RX12 161 "CloneVolumesModel" "wasInTree" "[Z") fl_X12_161) (fun _ h9 => h9) rfl hin rfl (by decide +kernel) rfl rfl (by rw [hlen]; decide) eX12_init_994.2.2.2.2.2.2.2 (fun H locs hP hD hS => ?_)
  have hP : va_P D vwCl ((h0, .inr (12, (fs_97.set 69 (.ref q_98)))) :: (q_98, .inl (D.1 16, 48, .inl (fun _ => 0))) :: _) H := hP
  have hD : va_D A ((h0, .inr (12, (fs_97.set 69 (.ref q_98)))) :: (q_98, .inl (D.1 16, 48, .inl (fun _ => 0))) :: _) := hD
  generalize hfs_99 : fs_97.set 69 (.ref q_98) = fs_99 at hP hD
  have hlen : fs_99.length = 116 := by rw [← hfs_99, List.length_set]; exact hlen
  have hP : va_P D vwCl ((h0, .inr (12, fs_99)) :: (q_98, .inl (D.1 16, 48, .inl (fun _ => 0))) :: _) H := hP
  have hD : va_D A ((h0, .inr (12, fs_99)) :: (q_98, .inl (D.1 16, 48, .inl (fun _ => 0))) :: _) := hD
  refine lv_aload_n hx hb eX12_init_1011.1 rfl (lv_at hl 0 rfl) ?_
  refine lv_bipush (v := 48) hx hb eX12_init_1011.2.1 (by decide) ?_
  refine va_newa (atype := .int) (a0 := (48, .inl (fun _ => 0))) (ty := .int) (N' := 48) hx hb (ht _ ac_int) rfl hK hP hD hS hA (fun _ => rfl) (by decide) (by decide) (by decide) (Nat.le_trans (Nat.le_of_ble_eq_true rfl) hRc) (Nat.le_trans (Nat.le_of_ble_eq_true rfl) hRs) eX12_init_1011.2.2.1 (fun q_100 cA H hK2 hP hD hS => ?_)
  obtain rfl := z_cls_int hK hK2
  refine W.widen (k := 50) (n := 9515) (Nat.le_of_ble_eq_true rfl) (Nat.le_of_ble_eq_true rfl) ?_
  obtain ⟨hP, hD⟩ := z_rot hP hD
  have hP : va_P D vwCl ((h0, .inr (12, fs_99)) :: (q_100, .inl (D.1 13, 48, .inl (fun _ => 0))) :: _) H := hP
  have hD : va_D A ((h0, .inr (12, fs_99)) :: (q_100, .inl (D.1 13, 48, .inl (fun _ => 0))) :: _) := hD
  refine va_putF (D := D) (ci := 12) (v := .ref q_100) (ty := .array .int) (C := RX12) (T := TX12) (N := 116) hx hb ht inX12 tyX12 tyX12_ok nmX12 hown hK hP hD hS 0 rfl rfl 72 (by decide) (ht (.fieldLink RX12 164 "CloneVolumesModel" "lostBy" "[I") fl_X12_164) (fun _ h9 => h9) rfl hin rfl (by decide +kernel) rfl rfl (by rw [hlen]; decide) eX12_init_1011.2.2.2.1 (fun H locs hP hD hS => ?_)
  have hP : va_P D vwCl ((h0, .inr (12, (fs_99.set 72 (.ref q_100)))) :: (q_100, .inl (D.1 13, 48, .inl (fun _ => 0))) :: _) H := hP
  have hD : va_D A ((h0, .inr (12, (fs_99.set 72 (.ref q_100)))) :: (q_100, .inl (D.1 13, 48, .inl (fun _ => 0))) :: _) := hD
  generalize hfs_101 : fs_99.set 72 (.ref q_100) = fs_101 at hP hD
  have hlen : fs_101.length = 116 := by rw [← hfs_101, List.length_set]; exact hlen
  have hP : va_P D vwCl ((h0, .inr (12, fs_101)) :: (q_100, .inl (D.1 13, 48, .inl (fun _ => 0))) :: _) H := hP
  have hD : va_D A ((h0, .inr (12, fs_101)) :: (q_100, .inl (D.1 13, 48, .inl (fun _ => 0))) :: _) := hD
  refine lv_aload_n hx hb eX12_init_1011.2.2.2.2.1 rfl (lv_at hl 0 rfl) ?_
  refine lv_bipush (v := 24) hx hb eX12_init_1011.2.2.2.2.2.1 (by decide) ?_
  refine va_newa (atype := .int) (a0 := (24, .inl (fun _ => 0))) (ty := .int) (N' := 24) hx hb (ht _ ac_int) rfl hK hP hD hS hA (fun _ => rfl) (by decide) (by decide) (by decide) (Nat.le_trans (Nat.le_of_ble_eq_true rfl) hRc) (Nat.le_trans (Nat.le_of_ble_eq_true rfl) hRs) eX12_init_1011.2.2.2.2.2.2.1 (fun q_102 cA H hK2 hP hD hS => ?_)
  obtain rfl := z_cls_int hK hK2
  refine W.widen (k := 51) (n := 9539) (Nat.le_of_ble_eq_true rfl) (Nat.le_of_ble_eq_true rfl) ?_
  obtain ⟨hP, hD⟩ := z_rot hP hD
  have hP : va_P D vwCl ((h0, .inr (12, fs_101)) :: (q_102, .inl (D.1 13, 24, .inl (fun _ => 0))) :: _) H := hP
  have hD : va_D A ((h0, .inr (12, fs_101)) :: (q_102, .inl (D.1 13, 24, .inl (fun _ => 0))) :: _) := hD
  refine va_putF (D := D) (ci := 12) (v := .ref q_102) (ty := .array .int) (C := RX12) (T := TX12) (N := 116) hx hb ht inX12 tyX12 tyX12_ok nmX12 hown hK hP hD hS 0 rfl rfl 74 (by decide) (ht (.fieldLink RX12 167 "CloneVolumesModel" "rows" "[I") fl_X12_167) (fun _ h9 => h9) rfl hin rfl (by decide +kernel) rfl rfl (by rw [hlen]; decide) eX12_init_1011.2.2.2.2.2.2.2 (fun H locs hP hD hS => ?_)
  have hP : va_P D vwCl ((h0, .inr (12, (fs_101.set 74 (.ref q_102)))) :: (q_102, .inl (D.1 13, 24, .inl (fun _ => 0))) :: _) H := hP
  have hD : va_D A ((h0, .inr (12, (fs_101.set 74 (.ref q_102)))) :: (q_102, .inl (D.1 13, 24, .inl (fun _ => 0))) :: _) := hD
  generalize hfs_103 : fs_101.set 74 (.ref q_102) = fs_103 at hP hD
  have hlen : fs_103.length = 116 := by rw [← hfs_103, List.length_set]; exact hlen
  have hP : va_P D vwCl ((h0, .inr (12, fs_103)) :: (q_102, .inl (D.1 13, 24, .inl (fun _ => 0))) :: _) H := hP
  have hD : va_D A ((h0, .inr (12, fs_103)) :: (q_102, .inl (D.1 13, 24, .inl (fun _ => 0))) :: _) := hD
  refine lv_aload_n hx hb eX12_init_1027.1 rfl (lv_at hl 0 rfl) ?_
  refine lv_sipush (v := 18120) hx hb eX12_init_1027.2.1 (by decide) ?_
  refine va_newa (atype := .int) (a0 := (18120, .inl (fun _ => 0))) (ty := .int) (N' := 18120) hx hb (ht _ ac_int) rfl hK hP hD hS hA (fun _ => rfl) (by decide) (by decide) (by decide) (Nat.le_trans (Nat.le_of_ble_eq_true rfl) hRc) (Nat.le_trans (Nat.le_of_ble_eq_true rfl) hRs) eX12_init_1027.2.2.1 (fun q_104 cA H hK2 hP hD hS => ?_)
  obtain rfl := z_cls_int hK hK2
  refine W.widen (k := 52) (n := 27659) (Nat.le_of_ble_eq_true rfl) (Nat.le_of_ble_eq_true rfl) ?_
  obtain ⟨hP, hD⟩ := z_rot hP hD
  have hP : va_P D vwCl ((h0, .inr (12, fs_103)) :: (q_104, .inl (D.1 13, 18120, .inl (fun _ => 0))) :: _) H := hP
  have hD : va_D A ((h0, .inr (12, fs_103)) :: (q_104, .inl (D.1 13, 18120, .inl (fun _ => 0))) :: _) := hD
  refine va_putF (D := D) (ci := 12) (v := .ref q_104) (ty := .array .int) (C := RX12) (T := TX12) (N := 116) hx hb ht inX12 tyX12 tyX12_ok nmX12 hown hK hP hD hS 0 rfl rfl 75 (by decide) (ht (.fieldLink RX12 170 "CloneVolumesModel" "kept0" "[I") fl_X12_170) (fun _ h9 => h9) rfl hin rfl (by decide +kernel) rfl rfl (by rw [hlen]; decide) eX12_init_1027.2.2.2.1 (fun H locs hP hD hS => ?_)
  have hP : va_P D vwCl ((h0, .inr (12, (fs_103.set 75 (.ref q_104)))) :: (q_104, .inl (D.1 13, 18120, .inl (fun _ => 0))) :: _) H := hP
  have hD : va_D A ((h0, .inr (12, (fs_103.set 75 (.ref q_104)))) :: (q_104, .inl (D.1 13, 18120, .inl (fun _ => 0))) :: _) := hD
  generalize hfs_105 : fs_103.set 75 (.ref q_104) = fs_105 at hP hD
  have hlen : fs_105.length = 116 := by rw [← hfs_105, List.length_set]; exact hlen
  have hP : va_P D vwCl ((h0, .inr (12, fs_105)) :: (q_104, .inl (D.1 13, 18120, .inl (fun _ => 0))) :: _) H := hP
  have hD : va_D A ((h0, .inr (12, fs_105)) :: (q_104, .inl (D.1 13, 18120, .inl (fun _ => 0))) :: _) := hD
  refine lv_aload_n hx hb eX12_init_1027.2.2.2.2.1 rfl (lv_at hl 0 rfl) ?_
  refine lv_lconst (v := 1) hx hb eX12_init_1027.2.2.2.2.2.1 (by decide) ?_
  refine va_put (D := D) (ci := 12) (v := .long 1) (ty := .long) (C := RX12) (T := TX12) (N := 116) hx hb ht inX12 tyX12 tyX12_ok nmX12 hown hK hP hD hS 0 rfl rfl 78 (by decide) (ht (.fieldLink RX12 173 "CloneVolumesModel" "seeded" "J") fl_X12_173) (fun _ h9 => h9) rfl (by decide +kernel) rfl rfl (by rw [hlen]; decide) eX12_init_1027.2.2.2.2.2.2.1 (fun H locs hP hD hS => ?_)
  have hP : va_P D vwCl ((h0, .inr (12, (fs_105.set 78 (.long 1)))) :: (q_104, .inl (D.1 13, 18120, .inl (fun _ => 0))) :: _) H := hP
  have hD : va_D A ((h0, .inr (12, (fs_105.set 78 (.long 1)))) :: (q_104, .inl (D.1 13, 18120, .inl (fun _ => 0))) :: _) := hD
  generalize hfs_106 : fs_105.set 78 (.long 1) = fs_106 at hP hD
  have hlen : fs_106.length = 116 := by rw [← hfs_106, List.length_set]; exact hlen
  have hP : va_P D vwCl ((h0, .inr (12, fs_106)) :: (q_104, .inl (D.1 13, 18120, .inl (fun _ => 0))) :: _) H := hP
  have hD : va_D A ((h0, .inr (12, fs_106)) :: (q_104, .inl (D.1 13, 18120, .inl (fun _ => 0))) :: _) := hD
  refine lv_aload_n hx hb eX12_init_1027.2.2.2.2.2.2.2 rfl (lv_at hl 0 rfl) ?_
  refine lv_iconst (v := 5) hx hb eX12_init_1042.1 (by decide) ?_
  refine va_newa (atype := .char) (a0 := (5, .inl (fun _ => 0))) (ty := .char) (N' := 5) hx hb (ht _ ac_char) rfl hK hP hD hS hA (fun _ => rfl) (by decide) (by decide) (by decide) (Nat.le_trans (Nat.le_of_ble_eq_true rfl) hRc) (Nat.le_trans (Nat.le_of_ble_eq_true rfl) hRs) eX12_init_1042.2.1 (fun q_107 cA H hK2 hP hD hS => ?_)
  obtain rfl := z_cls_char hK hK2
  refine W.widen (k := 53) (n := 27664) (Nat.le_of_ble_eq_true rfl) (Nat.le_of_ble_eq_true rfl) ?_
  obtain ⟨hP, hD⟩ := z_rot hP hD
  have hP : va_P D vwCl ((h0, .inr (12, fs_106)) :: (q_107, .inl (D.1 14, 5, .inl (fun _ => i2 0))) :: _) H := hP
  have hD : va_D A ((h0, .inr (12, fs_106)) :: (q_107, .inl (D.1 14, 5, .inl (fun _ => i2 0))) :: _) := hD
  refine lv_dup hx hb eX12_init_1042.2.2.1 rfl ?_
  refine lv_iconst (v := 0) hx hb eX12_init_1042.2.2.2.1 (by decide) ?_
  refine lv_bipush (v := 102) hx hb eX12_init_1042.2.2.2.2.1 (by decide) ?_
  refine va_cast hx hb hK hP hD hS 1 1 rfl rfl (z_in (by decide) (by decide)) eX12_init_1042.2.2.2.2.2.1 (fun H locs hP hD hS => ?_)
  rw [c_i2 (k := Int32.toNatClampNeg 0) (c := vp_nar .char 102) (v := 102) (by decide)] at hP hD
  have hP : va_P D vwCl (_ :: (q_107, .inl (_, _, .inl (fun j => i2 (upZ _ 0 102 j)))) :: _) H := hP
  have hD : va_D A (_ :: (q_107, .inl (_, _, .inl (fun j => i2 (upZ _ 0 102 j)))) :: _) := hD
  refine lv_dup hx hb eX12_init_1042.2.2.2.2.2.2.1 rfl ?_
  refine lv_iconst (v := 1) hx hb eX12_init_1042.2.2.2.2.2.2.2 (by decide) ?_
  refine lv_bipush (v := 105) hx hb eX12_init_1052.1 (by decide) ?_
  refine va_cast hx hb hK hP hD hS 1 1 rfl rfl (z_in (by decide) (by decide)) eX12_init_1052.2.1 (fun H locs hP hD hS => ?_)
  rw [c_i2 (k := Int32.toNatClampNeg 1) (c := vp_nar .char 105) (v := 105) (by decide)] at hP hD
  have hP : va_P D vwCl (_ :: (q_107, .inl (_, _, .inl (fun j => i2 (upZ _ 1 105 j)))) :: _) H := hP
  have hD : va_D A (_ :: (q_107, .inl (_, _, .inl (fun j => i2 (upZ _ 1 105 j)))) :: _) := hD
  refine lv_dup hx hb eX12_init_1052.2.2.1 rfl ?_
  refine lv_iconst (v := 2) hx hb eX12_init_1052.2.2.2.1 (by decide) ?_
  refine lv_bipush (v := 114) hx hb eX12_init_1052.2.2.2.2.1 (by decide) ?_
  refine va_cast hx hb hK hP hD hS 1 1 rfl rfl (z_in (by decide) (by decide)) eX12_init_1052.2.2.2.2.2.1 (fun H locs hP hD hS => ?_)
  rw [c_i2 (k := Int32.toNatClampNeg 2) (c := vp_nar .char 114) (v := 114) (by decide)] at hP hD
  have hP : va_P D vwCl (_ :: (q_107, .inl (_, _, .inl (fun j => i2 (upZ _ 2 114 j)))) :: _) H := hP
  have hD : va_D A (_ :: (q_107, .inl (_, _, .inl (fun j => i2 (upZ _ 2 114 j)))) :: _) := hD
  refine lv_dup hx hb eX12_init_1052.2.2.2.2.2.2.1 rfl ?_
  refine lv_iconst (v := 3) hx hb eX12_init_1052.2.2.2.2.2.2.2 (by decide) ?_
  refine lv_bipush (v := 115) hx hb eX12_init_1062.1 (by decide) ?_
  refine va_cast hx hb hK hP hD hS 1 1 rfl rfl (z_in (by decide) (by decide)) eX12_init_1062.2.1 (fun H locs hP hD hS => ?_)
  rw [c_i2 (k := Int32.toNatClampNeg 3) (c := vp_nar .char 115) (v := 115) (by decide)] at hP hD
  have hP : va_P D vwCl (_ :: (q_107, .inl (_, _, .inl (fun j => i2 (upZ _ 3 115 j)))) :: _) H := hP
  have hD : va_D A (_ :: (q_107, .inl (_, _, .inl (fun j => i2 (upZ _ 3 115 j)))) :: _) := hD
  refine lv_dup hx hb eX12_init_1062.2.2.1 rfl ?_
  refine lv_iconst (v := 4) hx hb eX12_init_1062.2.2.2.1 (by decide) ?_
  refine lv_bipush (v := 116) hx hb eX12_init_1062.2.2.2.2.1 (by decide) ?_
  refine va_cast hx hb hK hP hD hS 1 1 rfl rfl (z_in (by decide) (by decide)) eX12_init_1062.2.2.2.2.2.1 (fun H locs hP hD hS => ?_)
  rw [c_i2 (k := Int32.toNatClampNeg 4) (c := vp_nar .char 116) (v := 116) (by decide)] at hP hD
  have hP : va_P D vwCl (_ :: (q_107, .inl (_, _, .inl (fun j => i2 (upZ _ 4 116 j)))) :: _) H := hP
  have hD : va_D A (_ :: (q_107, .inl (_, _, .inl (fun j => i2 (upZ _ 4 116 j)))) :: _) := hD
  refine va_putF (D := D) (ci := 12) (v := .ref q_107) (ty := .array .char) (C := RX12) (T := TX12) (N := 116) hx hb ht inX12 tyX12 tyX12_ok nmX12 hown hK hP hD hS 0 rfl rfl 79 (by decide) (ht (.fieldLink RX12 177 "CloneVolumesModel" "firstAsked" "[C") fl_X12_177) (fun _ h9 => h9) rfl hin rfl (by decide +kernel) rfl rfl (by rw [hlen]; decide) eX12_init_1062.2.2.2.2.2.2.1 (fun H locs hP hD hS => ?_)
  have hP : va_P D vwCl ((h0, .inr (12, (fs_106.set 79 (.ref q_107)))) :: _) H := hP
  have hD : va_D A ((h0, .inr (12, (fs_106.set 79 (.ref q_107)))) :: _) := hD
  generalize hfs_108 : fs_106.set 79 (.ref q_107) = fs_108 at hP hD
  have hlen : fs_108.length = 116 := by rw [← hfs_108, List.length_set]; exact hlen
  have hP : va_P D vwCl ((h0, .inr (12, fs_108)) :: _) H := hP
  have hD : va_D A ((h0, .inr (12, fs_108)) :: _) := hD
  exact kk q_107 q_104 q_102 q_100 q_98 q_96 q_94 q_92 fs_108 _ _ (by rw [← hfs_108, ← hfs_106, ← hfs_105, ← hfs_103, ← hfs_101, ← hfs_99, ← hfs_97, ← hfs_95, ← hfs_93]) hP hD hS
set_option maxHeartbeats 4000000 in
set_option maxRecDepth 100000 in
theorem cM_14 {p : Program} {l : Launch} {e : Env} {R : Room} {s : State} {m : MethodId} {args : Array Value} {below : List Frame} {meth : Method} {c : Code} {Q : State → Prop} {D : va_G} {A : Nat → Prop} {ls : Array Slot} {h0 : Nat} {T : va_W} (hx : p.tables.exec = Jvm.exec) (hb : c.code = cX12_init) (ht : ∀ w ∈ lw_gd, w.before args s = true) (hown : s.vm.findClass RX12 = some m.cls) (hin : meth.name = "<init>") (hK : va_K D vwCl (TY D) s) (hA : ∀ q : Nat, s.heap.size ≤ q → A q) (hRc : 80 ≤ R.cells) (hRs : 35050 ≤ R.slots) (hl : lv_has ls 1 [(0, .ref h0)]) {fs : List Value} (hlen : fs.length = 116) {H : Heap} {locs : List Loc} (hP : va_P D vwCl ((h0, .inr (12, fs)) :: T) H) (hD : va_D A ((h0, .inr (12, fs)) :: T)) (hS : va_S A s.heap H locs)
    (kk : ∀ (q_113 : Nat) (q_111 : Nat) (q_109 : Nat) (fs' : List Value) (H : Heap) (locs : List Loc), fs' = (((fs.set 80 (.ref q_109)).set 81 (.ref q_111)).set 82 (.ref q_113)) → va_P D vwCl ((h0, .inr (12, fs')) :: (q_113, .inl (D.1 14, 5, .inl (fun j => i2 (upZ (upZ (upZ (upZ (upZ (fun _ => 0) 0 116) 1 111) 2 116) 3 97) 4 108 j)))) :: (q_111, .inl (D.1 14, 5, .inl (fun j => i2 (upZ (upZ (upZ (upZ (upZ (fun _ => 0) 0 111) 1 102) 2 116) 3 101) 4 110 j)))) :: (q_109, .inl (D.1 14, 4, .inl (fun j => i2 (upZ (upZ (upZ (upZ (fun _ => 0) 0 108) 1 97) 2 115) 3 116 j)))) :: T) H → va_D A ((h0, .inr (12, fs')) :: (q_113, .inl (D.1 14, 5, .inl (fun j => i2 (upZ (upZ (upZ (upZ (upZ (fun _ => 0) 0 116) 1 111) 2 116) 3 97) 4 108 j)))) :: (q_111, .inl (D.1 14, 5, .inl (fun j => i2 (upZ (upZ (upZ (upZ (upZ (fun _ => 0) 0 111) 1 102) 2 116) 3 101) 4 110 j)))) :: (q_109, .inl (D.1 14, 4, .inl (fun j => i2 (upZ (upZ (upZ (upZ (fun _ => 0) 0 108) 1 97) 2 115) 3 116 j)))) :: T) → va_S A s.heap H locs → W p l e R s m args below meth c H locs 56 27678 Q (F0 m 1164 ls [])) : W p l e R s m args below meth c H locs 53 27664 Q (F0 m 1073 ls []) := by
  refine lv_aload_n hx hb eX12_init_1062.2.2.2.2.2.2.2 rfl (lv_at hl 0 rfl) ?_
  refine lv_iconst (v := 4) hx hb eX12_init_1074.1 (by decide) ?_
  refine va_newa (atype := .char) (a0 := (4, .inl (fun _ => 0))) (ty := .char) (N' := 4) hx hb (ht _ ac_char) rfl hK hP hD hS hA (fun _ => rfl) (by decide) (by decide) (by decide) (Nat.le_trans (Nat.le_of_ble_eq_true rfl) hRc) (Nat.le_trans (Nat.le_of_ble_eq_true rfl) hRs) eX12_init_1074.2.1 (fun q_109 cA H hK2 hP hD hS => ?_)
  obtain rfl := z_cls_char hK hK2
  refine W.widen (k := 54) (n := 27668) (Nat.le_of_ble_eq_true rfl) (Nat.le_of_ble_eq_true rfl) ?_
  obtain ⟨hP, hD⟩ := z_rot hP hD
  have hP : va_P D vwCl ((h0, .inr (12, fs)) :: (q_109, .inl (D.1 14, 4, .inl (fun _ => i2 0))) :: T) H := hP
  have hD : va_D A ((h0, .inr (12, fs)) :: (q_109, .inl (D.1 14, 4, .inl (fun _ => i2 0))) :: T) := hD
  refine lv_dup hx hb eX12_init_1074.2.2.1 rfl ?_
  refine lv_iconst (v := 0) hx hb eX12_init_1074.2.2.2.1 (by decide) ?_
  refine lv_bipush (v := 108) hx hb eX12_init_1074.2.2.2.2.1 (by decide) ?_
  refine va_cast hx hb hK hP hD hS 1 1 rfl rfl (z_in (by decide) (by decide)) eX12_init_1074.2.2.2.2.2.1 (fun H locs hP hD hS => ?_)
  rw [c_i2 (k := Int32.toNatClampNeg 0) (c := vp_nar .char 108) (v := 108) (by decide)] at hP hD
  have hP : va_P D vwCl (_ :: (q_109, .inl (_, _, .inl (fun j => i2 (upZ _ 0 108 j)))) :: _) H := hP
  have hD : va_D A (_ :: (q_109, .inl (_, _, .inl (fun j => i2 (upZ _ 0 108 j)))) :: _) := hD
  refine lv_dup hx hb eX12_init_1074.2.2.2.2.2.2.1 rfl ?_
  refine lv_iconst (v := 1) hx hb eX12_init_1074.2.2.2.2.2.2.2 (by decide) ?_
  refine lv_bipush (v := 97) hx hb eX12_init_1084.1 (by decide) ?_
  refine va_cast hx hb hK hP hD hS 1 1 rfl rfl (z_in (by decide) (by decide)) eX12_init_1084.2.1 (fun H locs hP hD hS => ?_)
  rw [c_i2 (k := Int32.toNatClampNeg 1) (c := vp_nar .char 97) (v := 97) (by decide)] at hP hD
  have hP : va_P D vwCl (_ :: (q_109, .inl (_, _, .inl (fun j => i2 (upZ _ 1 97 j)))) :: _) H := hP
  have hD : va_D A (_ :: (q_109, .inl (_, _, .inl (fun j => i2 (upZ _ 1 97 j)))) :: _) := hD
  refine lv_dup hx hb eX12_init_1084.2.2.1 rfl ?_
  refine lv_iconst (v := 2) hx hb eX12_init_1084.2.2.2.1 (by decide) ?_
  refine lv_bipush (v := 115) hx hb eX12_init_1084.2.2.2.2.1 (by decide) ?_
  refine va_cast hx hb hK hP hD hS 1 1 rfl rfl (z_in (by decide) (by decide)) eX12_init_1084.2.2.2.2.2.1 (fun H locs hP hD hS => ?_)
  rw [c_i2 (k := Int32.toNatClampNeg 2) (c := vp_nar .char 115) (v := 115) (by decide)] at hP hD
  have hP : va_P D vwCl (_ :: (q_109, .inl (_, _, .inl (fun j => i2 (upZ _ 2 115 j)))) :: _) H := hP
  have hD : va_D A (_ :: (q_109, .inl (_, _, .inl (fun j => i2 (upZ _ 2 115 j)))) :: _) := hD
  refine lv_dup hx hb eX12_init_1084.2.2.2.2.2.2.1 rfl ?_
  refine lv_iconst (v := 3) hx hb eX12_init_1084.2.2.2.2.2.2.2 (by decide) ?_
  refine lv_bipush (v := 116) hx hb eX12_init_1094.1 (by decide) ?_
  refine va_cast hx hb hK hP hD hS 1 1 rfl rfl (z_in (by decide) (by decide)) eX12_init_1094.2.1 (fun H locs hP hD hS => ?_)
  rw [c_i2 (k := Int32.toNatClampNeg 3) (c := vp_nar .char 116) (v := 116) (by decide)] at hP hD
  have hP : va_P D vwCl (_ :: (q_109, .inl (_, _, .inl (fun j => i2 (upZ _ 3 116 j)))) :: _) H := hP
  have hD : va_D A (_ :: (q_109, .inl (_, _, .inl (fun j => i2 (upZ _ 3 116 j)))) :: _) := hD
  refine va_putF (D := D) (ci := 12) (v := .ref q_109) (ty := .array .char) (C := RX12) (T := TX12) (N := 116) hx hb ht inX12 tyX12 tyX12_ok nmX12 hown hK hP hD hS 0 rfl rfl 80 (by decide) (ht (.fieldLink RX12 180 "CloneVolumesModel" "lastAsked" "[C") fl_X12_180) (fun _ h9 => h9) rfl hin rfl (by decide +kernel) rfl rfl (by rw [hlen]; decide) eX12_init_1094.2.2.1 (fun H locs hP hD hS => ?_)
  have hP : va_P D vwCl ((h0, .inr (12, (fs.set 80 (.ref q_109)))) :: _) H := hP
  have hD : va_D A ((h0, .inr (12, (fs.set 80 (.ref q_109)))) :: _) := hD
  generalize hfs_110 : fs.set 80 (.ref q_109) = fs_110 at hP hD
  have hlen : fs_110.length = 116 := by rw [← hfs_110, List.length_set]; exact hlen
  have hP : va_P D vwCl ((h0, .inr (12, fs_110)) :: _) H := hP
  have hD : va_D A ((h0, .inr (12, fs_110)) :: _) := hD
  refine lv_aload_n hx hb eX12_init_1094.2.2.2.1 rfl (lv_at hl 0 rfl) ?_
  refine lv_iconst (v := 5) hx hb eX12_init_1094.2.2.2.2.1 (by decide) ?_
  refine va_newa (atype := .char) (a0 := (5, .inl (fun _ => 0))) (ty := .char) (N' := 5) hx hb (ht _ ac_char) rfl hK hP hD hS hA (fun _ => rfl) (by decide) (by decide) (by decide) (Nat.le_trans (Nat.le_of_ble_eq_true rfl) hRc) (Nat.le_trans (Nat.le_of_ble_eq_true rfl) hRs) eX12_init_1094.2.2.2.2.2.1 (fun q_111 cA H hK2 hP hD hS => ?_)
  obtain rfl := z_cls_char hK hK2
  refine W.widen (k := 55) (n := 27673) (Nat.le_of_ble_eq_true rfl) (Nat.le_of_ble_eq_true rfl) ?_
  obtain ⟨hP, hD⟩ := z_rot hP hD
  have hP : va_P D vwCl ((h0, .inr (12, fs_110)) :: (q_111, .inl (D.1 14, 5, .inl (fun _ => i2 0))) :: _) H := hP
  have hD : va_D A ((h0, .inr (12, fs_110)) :: (q_111, .inl (D.1 14, 5, .inl (fun _ => i2 0))) :: _) := hD
  refine lv_dup hx hb eX12_init_1094.2.2.2.2.2.2.1 rfl ?_
  refine lv_iconst (v := 0) hx hb eX12_init_1094.2.2.2.2.2.2.2 (by decide) ?_
  refine lv_bipush (v := 111) hx hb eX12_init_1106.1 (by decide) ?_
  refine va_cast hx hb hK hP hD hS 1 1 rfl rfl (z_in (by decide) (by decide)) eX12_init_1106.2.1 (fun H locs hP hD hS => ?_)
  rw [c_i2 (k := Int32.toNatClampNeg 0) (c := vp_nar .char 111) (v := 111) (by decide)] at hP hD
  have hP : va_P D vwCl (_ :: (q_111, .inl (_, _, .inl (fun j => i2 (upZ _ 0 111 j)))) :: _) H := hP
  have hD : va_D A (_ :: (q_111, .inl (_, _, .inl (fun j => i2 (upZ _ 0 111 j)))) :: _) := hD
  refine lv_dup hx hb eX12_init_1106.2.2.1 rfl ?_
  refine lv_iconst (v := 1) hx hb eX12_init_1106.2.2.2.1 (by decide) ?_
  refine lv_bipush (v := 102) hx hb eX12_init_1106.2.2.2.2.1 (by decide) ?_
  refine va_cast hx hb hK hP hD hS 1 1 rfl rfl (z_in (by decide) (by decide)) eX12_init_1106.2.2.2.2.2.1 (fun H locs hP hD hS => ?_)
  rw [c_i2 (k := Int32.toNatClampNeg 1) (c := vp_nar .char 102) (v := 102) (by decide)] at hP hD
  have hP : va_P D vwCl (_ :: (q_111, .inl (_, _, .inl (fun j => i2 (upZ _ 1 102 j)))) :: _) H := hP
  have hD : va_D A (_ :: (q_111, .inl (_, _, .inl (fun j => i2 (upZ _ 1 102 j)))) :: _) := hD
  refine lv_dup hx hb eX12_init_1106.2.2.2.2.2.2.1 rfl ?_
  refine lv_iconst (v := 2) hx hb eX12_init_1106.2.2.2.2.2.2.2 (by decide) ?_
  refine lv_bipush (v := 116) hx hb eX12_init_1116.1 (by decide) ?_
  refine va_cast hx hb hK hP hD hS 1 1 rfl rfl (z_in (by decide) (by decide)) eX12_init_1116.2.1 (fun H locs hP hD hS => ?_)
  rw [c_i2 (k := Int32.toNatClampNeg 2) (c := vp_nar .char 116) (v := 116) (by decide)] at hP hD
  have hP : va_P D vwCl (_ :: (q_111, .inl (_, _, .inl (fun j => i2 (upZ _ 2 116 j)))) :: _) H := hP
  have hD : va_D A (_ :: (q_111, .inl (_, _, .inl (fun j => i2 (upZ _ 2 116 j)))) :: _) := hD
  refine lv_dup hx hb eX12_init_1116.2.2.1 rfl ?_
  refine lv_iconst (v := 3) hx hb eX12_init_1116.2.2.2.1 (by decide) ?_
  refine lv_bipush (v := 101) hx hb eX12_init_1116.2.2.2.2.1 (by decide) ?_
  refine va_cast hx hb hK hP hD hS 1 1 rfl rfl (z_in (by decide) (by decide)) eX12_init_1116.2.2.2.2.2.1 (fun H locs hP hD hS => ?_)
  rw [c_i2 (k := Int32.toNatClampNeg 3) (c := vp_nar .char 101) (v := 101) (by decide)] at hP hD
  have hP : va_P D vwCl (_ :: (q_111, .inl (_, _, .inl (fun j => i2 (upZ _ 3 101 j)))) :: _) H := hP
  have hD : va_D A (_ :: (q_111, .inl (_, _, .inl (fun j => i2 (upZ _ 3 101 j)))) :: _) := hD
  refine lv_dup hx hb eX12_init_1116.2.2.2.2.2.2.1 rfl ?_
  refine lv_iconst (v := 4) hx hb eX12_init_1116.2.2.2.2.2.2.2 (by decide) ?_
  refine lv_bipush (v := 110) hx hb eX12_init_1126.1 (by decide) ?_
  refine va_cast hx hb hK hP hD hS 1 1 rfl rfl (z_in (by decide) (by decide)) eX12_init_1126.2.1 (fun H locs hP hD hS => ?_)
  rw [c_i2 (k := Int32.toNatClampNeg 4) (c := vp_nar .char 110) (v := 110) (by decide)] at hP hD
  have hP : va_P D vwCl (_ :: (q_111, .inl (_, _, .inl (fun j => i2 (upZ _ 4 110 j)))) :: _) H := hP
  have hD : va_D A (_ :: (q_111, .inl (_, _, .inl (fun j => i2 (upZ _ 4 110 j)))) :: _) := hD
  refine va_putF (D := D) (ci := 12) (v := .ref q_111) (ty := .array .char) (C := RX12) (T := TX12) (N := 116) hx hb ht inX12 tyX12 tyX12_ok nmX12 hown hK hP hD hS 0 rfl rfl 81 (by decide) (ht (.fieldLink RX12 183 "CloneVolumesModel" "oftenAsked" "[C") fl_X12_183) (fun _ h9 => h9) rfl hin rfl (by decide +kernel) rfl rfl (by rw [hlen]; decide) eX12_init_1126.2.2.1 (fun H locs hP hD hS => ?_)
  have hP : va_P D vwCl ((h0, .inr (12, (fs_110.set 81 (.ref q_111)))) :: _) H := hP
  have hD : va_D A ((h0, .inr (12, (fs_110.set 81 (.ref q_111)))) :: _) := hD
  generalize hfs_112 : fs_110.set 81 (.ref q_111) = fs_112 at hP hD
  have hlen : fs_112.length = 116 := by rw [← hfs_112, List.length_set]; exact hlen
  have hP : va_P D vwCl ((h0, .inr (12, fs_112)) :: _) H := hP
  have hD : va_D A ((h0, .inr (12, fs_112)) :: _) := hD
  refine lv_aload_n hx hb eX12_init_1126.2.2.2.1 rfl (lv_at hl 0 rfl) ?_
  refine lv_iconst (v := 5) hx hb eX12_init_1126.2.2.2.2.1 (by decide) ?_
  refine va_newa (atype := .char) (a0 := (5, .inl (fun _ => 0))) (ty := .char) (N' := 5) hx hb (ht _ ac_char) rfl hK hP hD hS hA (fun _ => rfl) (by decide) (by decide) (by decide) (Nat.le_trans (Nat.le_of_ble_eq_true rfl) hRc) (Nat.le_trans (Nat.le_of_ble_eq_true rfl) hRs) eX12_init_1126.2.2.2.2.2.1 (fun q_113 cA H hK2 hP hD hS => ?_)
  obtain rfl := z_cls_char hK hK2
  refine W.widen (k := 56) (n := 27678) (Nat.le_of_ble_eq_true rfl) (Nat.le_of_ble_eq_true rfl) ?_
  obtain ⟨hP, hD⟩ := z_rot hP hD
  have hP : va_P D vwCl ((h0, .inr (12, fs_112)) :: (q_113, .inl (D.1 14, 5, .inl (fun _ => i2 0))) :: _) H := hP
  have hD : va_D A ((h0, .inr (12, fs_112)) :: (q_113, .inl (D.1 14, 5, .inl (fun _ => i2 0))) :: _) := hD
  refine lv_dup hx hb eX12_init_1126.2.2.2.2.2.2.1 rfl ?_
  refine lv_iconst (v := 0) hx hb eX12_init_1126.2.2.2.2.2.2.2 (by decide) ?_
  refine lv_bipush (v := 116) hx hb eX12_init_1138.1 (by decide) ?_
  refine va_cast hx hb hK hP hD hS 1 1 rfl rfl (z_in (by decide) (by decide)) eX12_init_1138.2.1 (fun H locs hP hD hS => ?_)
  rw [c_i2 (k := Int32.toNatClampNeg 0) (c := vp_nar .char 116) (v := 116) (by decide)] at hP hD
  have hP : va_P D vwCl (_ :: (q_113, .inl (_, _, .inl (fun j => i2 (upZ _ 0 116 j)))) :: _) H := hP
  have hD : va_D A (_ :: (q_113, .inl (_, _, .inl (fun j => i2 (upZ _ 0 116 j)))) :: _) := hD
  refine lv_dup hx hb eX12_init_1138.2.2.1 rfl ?_
  refine lv_iconst (v := 1) hx hb eX12_init_1138.2.2.2.1 (by decide) ?_
  refine lv_bipush (v := 111) hx hb eX12_init_1138.2.2.2.2.1 (by decide) ?_
  refine va_cast hx hb hK hP hD hS 1 1 rfl rfl (z_in (by decide) (by decide)) eX12_init_1138.2.2.2.2.2.1 (fun H locs hP hD hS => ?_)
  rw [c_i2 (k := Int32.toNatClampNeg 1) (c := vp_nar .char 111) (v := 111) (by decide)] at hP hD
  have hP : va_P D vwCl (_ :: (q_113, .inl (_, _, .inl (fun j => i2 (upZ _ 1 111 j)))) :: _) H := hP
  have hD : va_D A (_ :: (q_113, .inl (_, _, .inl (fun j => i2 (upZ _ 1 111 j)))) :: _) := hD
  refine lv_dup hx hb eX12_init_1138.2.2.2.2.2.2.1 rfl ?_
  refine lv_iconst (v := 2) hx hb eX12_init_1138.2.2.2.2.2.2.2 (by decide) ?_
  refine lv_bipush (v := 116) hx hb eX12_init_1148.1 (by decide) ?_
  refine va_cast hx hb hK hP hD hS 1 1 rfl rfl (z_in (by decide) (by decide)) eX12_init_1148.2.1 (fun H locs hP hD hS => ?_)
  rw [c_i2 (k := Int32.toNatClampNeg 2) (c := vp_nar .char 116) (v := 116) (by decide)] at hP hD
  have hP : va_P D vwCl (_ :: (q_113, .inl (_, _, .inl (fun j => i2 (upZ _ 2 116 j)))) :: _) H := hP
  have hD : va_D A (_ :: (q_113, .inl (_, _, .inl (fun j => i2 (upZ _ 2 116 j)))) :: _) := hD
  refine lv_dup hx hb eX12_init_1148.2.2.1 rfl ?_
  refine lv_iconst (v := 3) hx hb eX12_init_1148.2.2.2.1 (by decide) ?_
  refine lv_bipush (v := 97) hx hb eX12_init_1148.2.2.2.2.1 (by decide) ?_
  refine va_cast hx hb hK hP hD hS 1 1 rfl rfl (z_in (by decide) (by decide)) eX12_init_1148.2.2.2.2.2.1 (fun H locs hP hD hS => ?_)
  rw [c_i2 (k := Int32.toNatClampNeg 3) (c := vp_nar .char 97) (v := 97) (by decide)] at hP hD
  have hP : va_P D vwCl (_ :: (q_113, .inl (_, _, .inl (fun j => i2 (upZ _ 3 97 j)))) :: _) H := hP
  have hD : va_D A (_ :: (q_113, .inl (_, _, .inl (fun j => i2 (upZ _ 3 97 j)))) :: _) := hD
  refine lv_dup hx hb eX12_init_1148.2.2.2.2.2.2.1 rfl ?_
  refine lv_iconst (v := 4) hx hb eX12_init_1148.2.2.2.2.2.2.2 (by decide) ?_
  refine lv_bipush (v := 108) hx hb eX12_init_1158.1 (by decide) ?_
  refine va_cast hx hb hK hP hD hS 1 1 rfl rfl (z_in (by decide) (by decide)) eX12_init_1158.2.1 (fun H locs hP hD hS => ?_)
  rw [c_i2 (k := Int32.toNatClampNeg 4) (c := vp_nar .char 108) (v := 108) (by decide)] at hP hD
  have hP : va_P D vwCl (_ :: (q_113, .inl (_, _, .inl (fun j => i2 (upZ _ 4 108 j)))) :: _) H := hP
  have hD : va_D A (_ :: (q_113, .inl (_, _, .inl (fun j => i2 (upZ _ 4 108 j)))) :: _) := hD
  refine va_putF (D := D) (ci := 12) (v := .ref q_113) (ty := .array .char) (C := RX12) (T := TX12) (N := 116) hx hb ht inX12 tyX12 tyX12_ok nmX12 hown hK hP hD hS 0 rfl rfl 82 (by decide) (ht (.fieldLink RX12 186 "CloneVolumesModel" "totalAsked" "[C") fl_X12_186) (fun _ h9 => h9) rfl hin rfl (by decide +kernel) rfl rfl (by rw [hlen]; decide) eX12_init_1158.2.2.1 (fun H locs hP hD hS => ?_)
  have hP : va_P D vwCl ((h0, .inr (12, (fs_112.set 82 (.ref q_113)))) :: _) H := hP
  have hD : va_D A ((h0, .inr (12, (fs_112.set 82 (.ref q_113)))) :: _) := hD
  generalize hfs_114 : fs_112.set 82 (.ref q_113) = fs_114 at hP hD
  have hlen : fs_114.length = 116 := by rw [← hfs_114, List.length_set]; exact hlen
  have hP : va_P D vwCl ((h0, .inr (12, fs_114)) :: _) H := hP
  have hD : va_D A ((h0, .inr (12, fs_114)) :: _) := hD
  exact kk q_113 q_111 q_109 fs_114 _ _ (by rw [← hfs_114, ← hfs_112, ← hfs_110]) hP hD hS
set_option maxHeartbeats 4000000 in
set_option maxRecDepth 100000 in
theorem cM_15 {p : Program} {l : Launch} {e : Env} {R : Room} {s : State} {m : MethodId} {args : Array Value} {below : List Frame} {meth : Method} {c : Code} {Q : State → Prop} {D : va_G} {A : Nat → Prop} {ls : Array Slot} {h0 : Nat} {T : va_W} (hx : p.tables.exec = Jvm.exec) (hb : c.code = cX12_init) (ht : ∀ w ∈ lw_gd, w.before args s = true) (hown : s.vm.findClass RX12 = some m.cls) (hin : meth.name = "<init>") (hK : va_K D vwCl (TY D) s) (hA : ∀ q : Nat, s.heap.size ≤ q → A q) (hRc : 80 ≤ R.cells) (hRs : 35050 ≤ R.slots) (hl : lv_has ls 1 [(0, .ref h0)]) {fs : List Value} (hlen : fs.length = 116) {H : Heap} {locs : List Loc} (hP : va_P D vwCl ((h0, .inr (12, fs)) :: T) H) (hD : va_D A ((h0, .inr (12, fs)) :: T)) (hS : va_S A s.heap H locs)
    (kk : ∀ (q_119 : Nat) (q_117 : Nat) (q_115 : Nat) (fs' : List Value) (H : Heap) (locs : List Loc), fs' = (((fs.set 83 (.ref q_115)).set 84 (.ref q_117)).set 85 (.ref q_119)) → va_P D vwCl ((h0, .inr (12, fs')) :: (q_119, .inl (D.1 14, 3, .inl (fun j => i2 (upZ (upZ (upZ (fun _ => 0) 0 110) 1 111) 2 116 j)))) :: (q_117, .inl (D.1 14, 5, .inl (fun j => i2 (upZ (upZ (upZ (upZ (upZ (fun _ => 0) 0 108) 1 101) 2 97) 3 115) 4 116 j)))) :: (q_115, .inl (D.1 14, 4, .inl (fun j => i2 (upZ (upZ (upZ (upZ (fun _ => 0) 0 109) 1 111) 2 115) 3 116 j)))) :: T) H → va_D A ((h0, .inr (12, fs')) :: (q_119, .inl (D.1 14, 3, .inl (fun j => i2 (upZ (upZ (upZ (fun _ => 0) 0 110) 1 111) 2 116 j)))) :: (q_117, .inl (D.1 14, 5, .inl (fun j => i2 (upZ (upZ (upZ (upZ (upZ (fun _ => 0) 0 108) 1 101) 2 97) 3 115) 4 116 j)))) :: (q_115, .inl (D.1 14, 4, .inl (fun j => i2 (upZ (upZ (upZ (upZ (fun _ => 0) 0 109) 1 111) 2 115) 3 116 j)))) :: T) → va_S A s.heap H locs → W p l e R s m args below meth c H locs 59 27690 Q (F0 m 1245 ls [])) : W p l e R s m args below meth c H locs 56 27678 Q (F0 m 1164 ls []) := by
  refine lv_aload_n hx hb eX12_init_1158.2.2.2.1 rfl (lv_at hl 0 rfl) ?_
  refine lv_iconst (v := 4) hx hb eX12_init_1158.2.2.2.2.1 (by decide) ?_
  refine va_newa (atype := .char) (a0 := (4, .inl (fun _ => 0))) (ty := .char) (N' := 4) hx hb (ht _ ac_char) rfl hK hP hD hS hA (fun _ => rfl) (by decide) (by decide) (by decide) (Nat.le_trans (Nat.le_of_ble_eq_true rfl) hRc) (Nat.le_trans (Nat.le_of_ble_eq_true rfl) hRs) eX12_init_1158.2.2.2.2.2.1 (fun q_115 cA H hK2 hP hD hS => ?_)
  obtain rfl := z_cls_char hK hK2
  refine W.widen (k := 57) (n := 27682) (Nat.le_of_ble_eq_true rfl) (Nat.le_of_ble_eq_true rfl) ?_
  obtain ⟨hP, hD⟩ := z_rot hP hD
  have hP : va_P D vwCl ((h0, .inr (12, fs)) :: (q_115, .inl (D.1 14, 4, .inl (fun _ => i2 0))) :: T) H := hP
  have hD : va_D A ((h0, .inr (12, fs)) :: (q_115, .inl (D.1 14, 4, .inl (fun _ => i2 0))) :: T) := hD
  refine lv_dup hx hb eX12_init_1158.2.2.2.2.2.2.1 rfl ?_
  refine lv_iconst (v := 0) hx hb eX12_init_1158.2.2.2.2.2.2.2 (by decide) ?_
  refine lv_bipush (v := 109) hx hb eX12_init_1170.1 (by decide) ?_
  refine va_cast hx hb hK hP hD hS 1 1 rfl rfl (z_in (by decide) (by decide)) eX12_init_1170.2.1 (fun H locs hP hD hS => ?_)
  rw [c_i2 (k := Int32.toNatClampNeg 0) (c := vp_nar .char 109) (v := 109) (by decide)] at hP hD
  have hP : va_P D vwCl (_ :: (q_115, .inl (_, _, .inl (fun j => i2 (upZ _ 0 109 j)))) :: _) H := hP
  have hD : va_D A (_ :: (q_115, .inl (_, _, .inl (fun j => i2 (upZ _ 0 109 j)))) :: _) := hD
  refine lv_dup hx hb eX12_init_1170.2.2.1 rfl ?_
  refine lv_iconst (v := 1) hx hb eX12_init_1170.2.2.2.1 (by decide) ?_
  refine lv_bipush (v := 111) hx hb eX12_init_1170.2.2.2.2.1 (by decide) ?_
  refine va_cast hx hb hK hP hD hS 1 1 rfl rfl (z_in (by decide) (by decide)) eX12_init_1170.2.2.2.2.2.1 (fun H locs hP hD hS => ?_)
  rw [c_i2 (k := Int32.toNatClampNeg 1) (c := vp_nar .char 111) (v := 111) (by decide)] at hP hD
  have hP : va_P D vwCl (_ :: (q_115, .inl (_, _, .inl (fun j => i2 (upZ _ 1 111 j)))) :: _) H := hP
  have hD : va_D A (_ :: (q_115, .inl (_, _, .inl (fun j => i2 (upZ _ 1 111 j)))) :: _) := hD
  refine lv_dup hx hb eX12_init_1170.2.2.2.2.2.2.1 rfl ?_
  refine lv_iconst (v := 2) hx hb eX12_init_1170.2.2.2.2.2.2.2 (by decide) ?_
  refine lv_bipush (v := 115) hx hb eX12_init_1180.1 (by decide) ?_
  refine va_cast hx hb hK hP hD hS 1 1 rfl rfl (z_in (by decide) (by decide)) eX12_init_1180.2.1 (fun H locs hP hD hS => ?_)
  rw [c_i2 (k := Int32.toNatClampNeg 2) (c := vp_nar .char 115) (v := 115) (by decide)] at hP hD
  have hP : va_P D vwCl (_ :: (q_115, .inl (_, _, .inl (fun j => i2 (upZ _ 2 115 j)))) :: _) H := hP
  have hD : va_D A (_ :: (q_115, .inl (_, _, .inl (fun j => i2 (upZ _ 2 115 j)))) :: _) := hD
  refine lv_dup hx hb eX12_init_1180.2.2.1 rfl ?_
  refine lv_iconst (v := 3) hx hb eX12_init_1180.2.2.2.1 (by decide) ?_
  refine lv_bipush (v := 116) hx hb eX12_init_1180.2.2.2.2.1 (by decide) ?_
  refine va_cast hx hb hK hP hD hS 1 1 rfl rfl (z_in (by decide) (by decide)) eX12_init_1180.2.2.2.2.2.1 (fun H locs hP hD hS => ?_)
  rw [c_i2 (k := Int32.toNatClampNeg 3) (c := vp_nar .char 116) (v := 116) (by decide)] at hP hD
  have hP : va_P D vwCl (_ :: (q_115, .inl (_, _, .inl (fun j => i2 (upZ _ 3 116 j)))) :: _) H := hP
  have hD : va_D A (_ :: (q_115, .inl (_, _, .inl (fun j => i2 (upZ _ 3 116 j)))) :: _) := hD
  refine va_putF (D := D) (ci := 12) (v := .ref q_115) (ty := .array .char) (C := RX12) (T := TX12) (N := 116) hx hb ht inX12 tyX12 tyX12_ok nmX12 hown hK hP hD hS 0 rfl rfl 83 (by decide) (ht (.fieldLink RX12 189 "CloneVolumesModel" "mostAsked" "[C") fl_X12_189) (fun _ h9 => h9) rfl hin rfl (by decide +kernel) rfl rfl (by rw [hlen]; decide) eX12_init_1180.2.2.2.2.2.2.1 (fun H locs hP hD hS => ?_)
  have hP : va_P D vwCl ((h0, .inr (12, (fs.set 83 (.ref q_115)))) :: _) H := hP
  have hD : va_D A ((h0, .inr (12, (fs.set 83 (.ref q_115)))) :: _) := hD
  generalize hfs_116 : fs.set 83 (.ref q_115) = fs_116 at hP hD
  have hlen : fs_116.length = 116 := by rw [← hfs_116, List.length_set]; exact hlen
  have hP : va_P D vwCl ((h0, .inr (12, fs_116)) :: _) H := hP
  have hD : va_D A ((h0, .inr (12, fs_116)) :: _) := hD
  refine lv_aload_n hx hb eX12_init_1180.2.2.2.2.2.2.2 rfl (lv_at hl 0 rfl) ?_
  refine lv_iconst (v := 5) hx hb eX12_init_1192.1 (by decide) ?_
  refine va_newa (atype := .char) (a0 := (5, .inl (fun _ => 0))) (ty := .char) (N' := 5) hx hb (ht _ ac_char) rfl hK hP hD hS hA (fun _ => rfl) (by decide) (by decide) (by decide) (Nat.le_trans (Nat.le_of_ble_eq_true rfl) hRc) (Nat.le_trans (Nat.le_of_ble_eq_true rfl) hRs) eX12_init_1192.2.1 (fun q_117 cA H hK2 hP hD hS => ?_)
  obtain rfl := z_cls_char hK hK2
  refine W.widen (k := 58) (n := 27687) (Nat.le_of_ble_eq_true rfl) (Nat.le_of_ble_eq_true rfl) ?_
  obtain ⟨hP, hD⟩ := z_rot hP hD
  have hP : va_P D vwCl ((h0, .inr (12, fs_116)) :: (q_117, .inl (D.1 14, 5, .inl (fun _ => i2 0))) :: _) H := hP
  have hD : va_D A ((h0, .inr (12, fs_116)) :: (q_117, .inl (D.1 14, 5, .inl (fun _ => i2 0))) :: _) := hD
  refine lv_dup hx hb eX12_init_1192.2.2.1 rfl ?_
  refine lv_iconst (v := 0) hx hb eX12_init_1192.2.2.2.1 (by decide) ?_
  refine lv_bipush (v := 108) hx hb eX12_init_1192.2.2.2.2.1 (by decide) ?_
  refine va_cast hx hb hK hP hD hS 1 1 rfl rfl (z_in (by decide) (by decide)) eX12_init_1192.2.2.2.2.2.1 (fun H locs hP hD hS => ?_)
  rw [c_i2 (k := Int32.toNatClampNeg 0) (c := vp_nar .char 108) (v := 108) (by decide)] at hP hD
  have hP : va_P D vwCl (_ :: (q_117, .inl (_, _, .inl (fun j => i2 (upZ _ 0 108 j)))) :: _) H := hP
  have hD : va_D A (_ :: (q_117, .inl (_, _, .inl (fun j => i2 (upZ _ 0 108 j)))) :: _) := hD
  refine lv_dup hx hb eX12_init_1192.2.2.2.2.2.2.1 rfl ?_
  refine lv_iconst (v := 1) hx hb eX12_init_1192.2.2.2.2.2.2.2 (by decide) ?_
  refine lv_bipush (v := 101) hx hb eX12_init_1202.1 (by decide) ?_
  refine va_cast hx hb hK hP hD hS 1 1 rfl rfl (z_in (by decide) (by decide)) eX12_init_1202.2.1 (fun H locs hP hD hS => ?_)
  rw [c_i2 (k := Int32.toNatClampNeg 1) (c := vp_nar .char 101) (v := 101) (by decide)] at hP hD
  have hP : va_P D vwCl (_ :: (q_117, .inl (_, _, .inl (fun j => i2 (upZ _ 1 101 j)))) :: _) H := hP
  have hD : va_D A (_ :: (q_117, .inl (_, _, .inl (fun j => i2 (upZ _ 1 101 j)))) :: _) := hD
  refine lv_dup hx hb eX12_init_1202.2.2.1 rfl ?_
  refine lv_iconst (v := 2) hx hb eX12_init_1202.2.2.2.1 (by decide) ?_
  refine lv_bipush (v := 97) hx hb eX12_init_1202.2.2.2.2.1 (by decide) ?_
  refine va_cast hx hb hK hP hD hS 1 1 rfl rfl (z_in (by decide) (by decide)) eX12_init_1202.2.2.2.2.2.1 (fun H locs hP hD hS => ?_)
  rw [c_i2 (k := Int32.toNatClampNeg 2) (c := vp_nar .char 97) (v := 97) (by decide)] at hP hD
  have hP : va_P D vwCl (_ :: (q_117, .inl (_, _, .inl (fun j => i2 (upZ _ 2 97 j)))) :: _) H := hP
  have hD : va_D A (_ :: (q_117, .inl (_, _, .inl (fun j => i2 (upZ _ 2 97 j)))) :: _) := hD
  refine lv_dup hx hb eX12_init_1202.2.2.2.2.2.2.1 rfl ?_
  refine lv_iconst (v := 3) hx hb eX12_init_1202.2.2.2.2.2.2.2 (by decide) ?_
  refine lv_bipush (v := 115) hx hb eX12_init_1212.1 (by decide) ?_
  refine va_cast hx hb hK hP hD hS 1 1 rfl rfl (z_in (by decide) (by decide)) eX12_init_1212.2.1 (fun H locs hP hD hS => ?_)
  rw [c_i2 (k := Int32.toNatClampNeg 3) (c := vp_nar .char 115) (v := 115) (by decide)] at hP hD
  have hP : va_P D vwCl (_ :: (q_117, .inl (_, _, .inl (fun j => i2 (upZ _ 3 115 j)))) :: _) H := hP
  have hD : va_D A (_ :: (q_117, .inl (_, _, .inl (fun j => i2 (upZ _ 3 115 j)))) :: _) := hD
  refine lv_dup hx hb eX12_init_1212.2.2.1 rfl ?_
  refine lv_iconst (v := 4) hx hb eX12_init_1212.2.2.2.1 (by decide) ?_
  refine lv_bipush (v := 116) hx hb eX12_init_1212.2.2.2.2.1 (by decide) ?_
  refine va_cast hx hb hK hP hD hS 1 1 rfl rfl (z_in (by decide) (by decide)) eX12_init_1212.2.2.2.2.2.1 (fun H locs hP hD hS => ?_)
  rw [c_i2 (k := Int32.toNatClampNeg 4) (c := vp_nar .char 116) (v := 116) (by decide)] at hP hD
  have hP : va_P D vwCl (_ :: (q_117, .inl (_, _, .inl (fun j => i2 (upZ _ 4 116 j)))) :: _) H := hP
  have hD : va_D A (_ :: (q_117, .inl (_, _, .inl (fun j => i2 (upZ _ 4 116 j)))) :: _) := hD
  refine va_putF (D := D) (ci := 12) (v := .ref q_117) (ty := .array .char) (C := RX12) (T := TX12) (N := 116) hx hb ht inX12 tyX12 tyX12_ok nmX12 hown hK hP hD hS 0 rfl rfl 84 (by decide) (ht (.fieldLink RX12 192 "CloneVolumesModel" "leastAsked" "[C") fl_X12_192) (fun _ h9 => h9) rfl hin rfl (by decide +kernel) rfl rfl (by rw [hlen]; decide) eX12_init_1212.2.2.2.2.2.2.1 (fun H locs hP hD hS => ?_)
  have hP : va_P D vwCl ((h0, .inr (12, (fs_116.set 84 (.ref q_117)))) :: _) H := hP
  have hD : va_D A ((h0, .inr (12, (fs_116.set 84 (.ref q_117)))) :: _) := hD
  generalize hfs_118 : fs_116.set 84 (.ref q_117) = fs_118 at hP hD
  have hlen : fs_118.length = 116 := by rw [← hfs_118, List.length_set]; exact hlen
  have hP : va_P D vwCl ((h0, .inr (12, fs_118)) :: _) H := hP
  have hD : va_D A ((h0, .inr (12, fs_118)) :: _) := hD
  refine lv_aload_n hx hb eX12_init_1212.2.2.2.2.2.2.2 rfl (lv_at hl 0 rfl) ?_
  refine lv_iconst (v := 3) hx hb eX12_init_1224.1 (by decide) ?_
  refine va_newa (atype := .char) (a0 := (3, .inl (fun _ => 0))) (ty := .char) (N' := 3) hx hb (ht _ ac_char) rfl hK hP hD hS hA (fun _ => rfl) (by decide) (by decide) (by decide) (Nat.le_trans (Nat.le_of_ble_eq_true rfl) hRc) (Nat.le_trans (Nat.le_of_ble_eq_true rfl) hRs) eX12_init_1224.2.1 (fun q_119 cA H hK2 hP hD hS => ?_)
  obtain rfl := z_cls_char hK hK2
  refine W.widen (k := 59) (n := 27690) (Nat.le_of_ble_eq_true rfl) (Nat.le_of_ble_eq_true rfl) ?_
  obtain ⟨hP, hD⟩ := z_rot hP hD
  have hP : va_P D vwCl ((h0, .inr (12, fs_118)) :: (q_119, .inl (D.1 14, 3, .inl (fun _ => i2 0))) :: _) H := hP
  have hD : va_D A ((h0, .inr (12, fs_118)) :: (q_119, .inl (D.1 14, 3, .inl (fun _ => i2 0))) :: _) := hD
  refine lv_dup hx hb eX12_init_1224.2.2.1 rfl ?_
  refine lv_iconst (v := 0) hx hb eX12_init_1224.2.2.2.1 (by decide) ?_
  refine lv_bipush (v := 110) hx hb eX12_init_1224.2.2.2.2.1 (by decide) ?_
  refine va_cast hx hb hK hP hD hS 1 1 rfl rfl (z_in (by decide) (by decide)) eX12_init_1224.2.2.2.2.2.1 (fun H locs hP hD hS => ?_)
  rw [c_i2 (k := Int32.toNatClampNeg 0) (c := vp_nar .char 110) (v := 110) (by decide)] at hP hD
  have hP : va_P D vwCl (_ :: (q_119, .inl (_, _, .inl (fun j => i2 (upZ _ 0 110 j)))) :: _) H := hP
  have hD : va_D A (_ :: (q_119, .inl (_, _, .inl (fun j => i2 (upZ _ 0 110 j)))) :: _) := hD
  refine lv_dup hx hb eX12_init_1224.2.2.2.2.2.2.1 rfl ?_
  refine lv_iconst (v := 1) hx hb eX12_init_1224.2.2.2.2.2.2.2 (by decide) ?_
  refine lv_bipush (v := 111) hx hb eX12_init_1234.1 (by decide) ?_
  refine va_cast hx hb hK hP hD hS 1 1 rfl rfl (z_in (by decide) (by decide)) eX12_init_1234.2.1 (fun H locs hP hD hS => ?_)
  rw [c_i2 (k := Int32.toNatClampNeg 1) (c := vp_nar .char 111) (v := 111) (by decide)] at hP hD
  have hP : va_P D vwCl (_ :: (q_119, .inl (_, _, .inl (fun j => i2 (upZ _ 1 111 j)))) :: _) H := hP
  have hD : va_D A (_ :: (q_119, .inl (_, _, .inl (fun j => i2 (upZ _ 1 111 j)))) :: _) := hD
  refine lv_dup hx hb eX12_init_1234.2.2.1 rfl ?_
  refine lv_iconst (v := 2) hx hb eX12_init_1234.2.2.2.1 (by decide) ?_
  refine lv_bipush (v := 116) hx hb eX12_init_1234.2.2.2.2.1 (by decide) ?_
  refine va_cast hx hb hK hP hD hS 1 1 rfl rfl (z_in (by decide) (by decide)) eX12_init_1234.2.2.2.2.2.1 (fun H locs hP hD hS => ?_)
  rw [c_i2 (k := Int32.toNatClampNeg 2) (c := vp_nar .char 116) (v := 116) (by decide)] at hP hD
  have hP : va_P D vwCl (_ :: (q_119, .inl (_, _, .inl (fun j => i2 (upZ _ 2 116 j)))) :: _) H := hP
  have hD : va_D A (_ :: (q_119, .inl (_, _, .inl (fun j => i2 (upZ _ 2 116 j)))) :: _) := hD
  refine va_putF (D := D) (ci := 12) (v := .ref q_119) (ty := .array .char) (C := RX12) (T := TX12) (N := 116) hx hb ht inX12 tyX12 tyX12_ok nmX12 hown hK hP hD hS 0 rfl rfl 85 (by decide) (ht (.fieldLink RX12 195 "CloneVolumesModel" "notAsked" "[C") fl_X12_195) (fun _ h9 => h9) rfl hin rfl (by decide +kernel) rfl rfl (by rw [hlen]; decide) eX12_init_1234.2.2.2.2.2.2 (fun H locs hP hD hS => ?_)
  have hP : va_P D vwCl ((h0, .inr (12, (fs_118.set 85 (.ref q_119)))) :: _) H := hP
  have hD : va_D A ((h0, .inr (12, (fs_118.set 85 (.ref q_119)))) :: _) := hD
  generalize hfs_120 : fs_118.set 85 (.ref q_119) = fs_120 at hP hD
  have hlen : fs_120.length = 116 := by rw [← hfs_120, List.length_set]; exact hlen
  have hP : va_P D vwCl ((h0, .inr (12, fs_120)) :: _) H := hP
  have hD : va_D A ((h0, .inr (12, fs_120)) :: _) := hD
  exact kk q_119 q_117 q_115 fs_120 _ _ (by rw [← hfs_120, ← hfs_118, ← hfs_116]) hP hD hS
