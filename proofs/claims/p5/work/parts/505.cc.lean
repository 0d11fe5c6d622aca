set_option maxHeartbeats 4000000 in
set_option maxRecDepth 100000 in
theorem cM_1 {p : Program} {l : Launch} {e : Env} {R : Room} {s : State} {m : MethodId} {args : Array Value} {below : List Frame} {meth : Method} {c : Code} {Q : State → Prop} {D : va_G} {A : Nat → Prop} {ls : Array Slot} {h0 : Nat} {T : va_W} (hx : p.tables.exec = Jvm.exec) (hb : c.code = cX12_init) (ht : ∀ w ∈ lw_gd, w.before args s = true) (hown : s.vm.findClass RX12 = some m.cls) (hin : meth.name = "<init>") (hK : va_K D vwCl (TY D) s) (hA : ∀ q : Nat, s.heap.size ≤ q → A q) (hRc : 80 ≤ R.cells) (hRs : 35050 ≤ R.slots) (hl : lv_has ls 1 [(0, .ref h0)]) {fs : List Value} (hlen : fs.length = 116) {H : Heap} {locs : List Loc} (hP : va_P D vwCl ((h0, .inr (12, fs)) :: T) H) (hD : va_D A ((h0, .inr (12, fs)) :: T)) (hS : va_S A s.heap H locs)
    (kk : ∀ (q_8 : Nat) (q_6 : Nat) (q_4 : Nat) (q_1 : Nat) (fs' : List Value) (H : Heap) (locs : List Loc), fs' = (((((fs.set 0 (.ref q_1)).set 8 (.int (-1))).set 9 (.ref q_4)).set 11 (.ref q_6)).set 12 (.ref q_8)) → va_P D vwCl ((h0, .inr (12, fs')) :: (q_8, .inl (D.1 14, 4, .inl (fun j => i2 (upZ (upZ (upZ (upZ (fun _ => 0) 0 114) 1 111) 2 111) 3 109 j)))) :: (q_6, .inl (D.1 14, 6, .inl (fun j => i2 (upZ (upZ (upZ (upZ (upZ (upZ (fun _ => 0) 0 98) 1 108) 2 111) 3 99) 4 107) 5 115 j)))) :: (q_4, .inl (D.1 13, 6, .inl (fun _ => i2 0))) :: (q_1, .inl (D.1 13, 1600, .inl (fun _ => 0))) :: T) H → va_D A ((h0, .inr (12, fs')) :: (q_8, .inl (D.1 14, 4, .inl (fun j => i2 (upZ (upZ (upZ (upZ (fun _ => 0) 0 114) 1 111) 2 111) 3 109 j)))) :: (q_6, .inl (D.1 14, 6, .inl (fun j => i2 (upZ (upZ (upZ (upZ (upZ (upZ (fun _ => 0) 0 98) 1 108) 2 111) 3 99) 4 107) 5 115 j)))) :: (q_4, .inl (D.1 13, 6, .inl (fun _ => i2 0))) :: (q_1, .inl (D.1 13, 1600, .inl (fun _ => 0))) :: T) → va_S A s.heap H locs → W p l e R s m args below meth c H locs 4 1616 Q (F0 m 91 ls [])) : W p l e R s m args below meth c H locs 0 0 Q (F0 m 4 ls []) := by
  refine lv_aload_n hx hb dX12_init_4 rfl (lv_at hl 0 rfl) ?_
  refine lv_sipush (v := 1600) hx hb dX12_init_5 (by decide) ?_
  refine va_newa (atype := .int) (a0 := (1600, .inl (fun _ => 0))) (ty := .int) (N' := 1600) hx hb (ht _ ac_int) rfl hK hP hD hS hA (fun _ => rfl) (by decide) (by decide) (by decide) (Nat.le_trans (Nat.le_of_ble_eq_true rfl) hRc) (Nat.le_trans (Nat.le_of_ble_eq_true rfl) hRs) dX12_init_8 (fun q_1 cA H hK2 hP hD hS => ?_)
  obtain rfl := z_cls_int hK hK2
  refine W.widen (k := 1) (n := 1600) (Nat.le_of_ble_eq_true rfl) (Nat.le_of_ble_eq_true rfl) ?_
  obtain ⟨hP, hD⟩ := z_rot hP hD
  have hP : va_P D vwCl ((h0, .inr (12, fs)) :: (q_1, .inl (D.1 13, 1600, .inl (fun _ => 0))) :: T) H := hP
  have hD : va_D A ((h0, .inr (12, fs)) :: (q_1, .inl (D.1 13, 1600, .inl (fun _ => 0))) :: T) := hD
  refine va_putF (D := D) (ci := 12) (v := .ref q_1) (ty := .array .int) (C := RX12) (T := TX12) (N := 116) hx hb ht inX12 tyX12 tyX12_ok nmX12 hown hK hP hD hS 0 rfl rfl 0 (by decide) (ht (.fieldLink RX12 7 "CloneVolumesModel" "tape" "[I") fl_X12_7) (fun _ h9 => h9) rfl hin rfl (by decide +kernel) rfl rfl (by rw [hlen]; decide) dX12_init_10 (fun H locs hP hD hS => ?_)
  have hP : va_P D vwCl ((h0, .inr (12, (fs.set 0 (.ref q_1)))) :: (q_1, .inl (D.1 13, 1600, .inl (fun _ => 0))) :: T) H := hP
  have hD : va_D A ((h0, .inr (12, (fs.set 0 (.ref q_1)))) :: (q_1, .inl (D.1 13, 1600, .inl (fun _ => 0))) :: T) := hD
  generalize hfs_2 : fs.set 0 (.ref q_1) = fs_2 at hP hD
  have hlen : fs_2.length = 116 := by rw [← hfs_2, List.length_set]; exact hlen
  have hP : va_P D vwCl ((h0, .inr (12, fs_2)) :: (q_1, .inl (D.1 13, 1600, .inl (fun _ => 0))) :: T) H := hP
  have hD : va_D A ((h0, .inr (12, fs_2)) :: (q_1, .inl (D.1 13, 1600, .inl (fun _ => 0))) :: T) := hD
  refine lv_aload_n hx hb dX12_init_13 rfl (lv_at hl 0 rfl) ?_
  refine lv_iconst (v := (-1)) hx hb dX12_init_14 (by decide) ?_
  refine va_put (D := D) (ci := 12) (v := .int (-1)) (ty := .int) (C := RX12) (T := TX12) (N := 116) hx hb ht inX12 tyX12 tyX12_ok nmX12 hown hK hP hD hS 0 rfl rfl 8 (by decide) (ht (.fieldLink RX12 13 "CloneVolumesModel" "faultPlace" "I") fl_X12_13) (fun _ h9 => h9) rfl (by decide +kernel) rfl rfl (by rw [hlen]; decide) dX12_init_15 (fun H locs hP hD hS => ?_)
  have hP : va_P D vwCl ((h0, .inr (12, (fs_2.set 8 (.int (-1))))) :: (q_1, .inl (D.1 13, 1600, .inl (fun _ => 0))) :: T) H := hP
  have hD : va_D A ((h0, .inr (12, (fs_2.set 8 (.int (-1))))) :: (q_1, .inl (D.1 13, 1600, .inl (fun _ => 0))) :: T) := hD
  generalize hfs_3 : fs_2.set 8 (.int (-1)) = fs_3 at hP hD
  have hlen : fs_3.length = 116 := by rw [← hfs_3, List.length_set]; exact hlen
  have hP : va_P D vwCl ((h0, .inr (12, fs_3)) :: (q_1, .inl (D.1 13, 1600, .inl (fun _ => 0))) :: T) H := hP
  have hD : va_D A ((h0, .inr (12, fs_3)) :: (q_1, .inl (D.1 13, 1600, .inl (fun _ => 0))) :: T) := hD
  refine lv_aload_n hx hb dX12_init_18 rfl (lv_at hl 0 rfl) ?_
  refine lv_bipush (v := 6) hx hb dX12_init_19 (by decide) ?_
  refine va_newa (atype := .int) (a0 := (6, .inl (fun _ => 0))) (ty := .int) (N' := 6) hx hb (ht _ ac_int) rfl hK hP hD hS hA (fun _ => rfl) (by decide) (by decide) (by decide) (Nat.le_trans (Nat.le_of_ble_eq_true rfl) hRc) (Nat.le_trans (Nat.le_of_ble_eq_true rfl) hRs) dX12_init_21 (fun q_4 cA H hK2 hP hD hS => ?_)
  obtain rfl := z_cls_int hK hK2
  refine W.widen (k := 2) (n := 1606) (Nat.le_of_ble_eq_true rfl) (Nat.le_of_ble_eq_true rfl) ?_
  obtain ⟨hP, hD⟩ := z_rot hP hD
  have hP : va_P D vwCl ((h0, .inr (12, fs_3)) :: (q_4, .inl (D.1 13, 6, .inl (fun _ => i2 0))) :: (q_1, .inl (D.1 13, 1600, .inl (fun _ => 0))) :: T) H := hP
  have hD : va_D A ((h0, .inr (12, fs_3)) :: (q_4, .inl (D.1 13, 6, .inl (fun _ => i2 0))) :: (q_1, .inl (D.1 13, 1600, .inl (fun _ => 0))) :: T) := hD
  refine va_putF (D := D) (ci := 12) (v := .ref q_4) (ty := .array .int) (C := RX12) (T := TX12) (N := 116) hx hb ht inX12 tyX12 tyX12_ok nmX12 hown hK hP hD hS 0 rfl rfl 9 (by decide) (ht (.fieldLink RX12 17 "CloneVolumesModel" "refused" "[I") fl_X12_17) (fun _ h9 => h9) rfl hin rfl (by decide +kernel) rfl rfl (by rw [hlen]; decide) dX12_init_23 (fun H locs hP hD hS => ?_)
  have hP : va_P D vwCl ((h0, .inr (12, (fs_3.set 9 (.ref q_4)))) :: (q_4, .inl (D.1 13, 6, .inl (fun _ => i2 0))) :: (q_1, .inl (D.1 13, 1600, .inl (fun _ => 0))) :: T) H := hP
  have hD : va_D A ((h0, .inr (12, (fs_3.set 9 (.ref q_4)))) :: (q_4, .inl (D.1 13, 6, .inl (fun _ => i2 0))) :: (q_1, .inl (D.1 13, 1600, .inl (fun _ => 0))) :: T) := hD
  generalize hfs_5 : fs_3.set 9 (.ref q_4) = fs_5 at hP hD
  have hlen : fs_5.length = 116 := by rw [← hfs_5, List.length_set]; exact hlen
  have hP : va_P D vwCl ((h0, .inr (12, fs_5)) :: (q_4, .inl (D.1 13, 6, .inl (fun _ => i2 0))) :: (q_1, .inl (D.1 13, 1600, .inl (fun _ => 0))) :: T) H := hP
  have hD : va_D A ((h0, .inr (12, fs_5)) :: (q_4, .inl (D.1 13, 6, .inl (fun _ => i2 0))) :: (q_1, .inl (D.1 13, 1600, .inl (fun _ => 0))) :: T) := hD
  refine lv_aload_n hx hb dX12_init_26 rfl (lv_at hl 0 rfl) ?_
  refine lv_bipush (v := 6) hx hb dX12_init_27 (by decide) ?_
  refine va_newa (atype := .char) (a0 := (6, .inl (fun _ => 0))) (ty := .char) (N' := 6) hx hb (ht _ ac_char) rfl hK hP hD hS hA (fun _ => rfl) (by decide) (by decide) (by decide) (Nat.le_trans (Nat.le_of_ble_eq_true rfl) hRc) (Nat.le_trans (Nat.le_of_ble_eq_true rfl) hRs) dX12_init_29 (fun q_6 cA H hK2 hP hD hS => ?_)
  obtain rfl := z_cls_char hK hK2
  refine W.widen (k := 3) (n := 1612) (Nat.le_of_ble_eq_true rfl) (Nat.le_of_ble_eq_true rfl) ?_
  obtain ⟨hP, hD⟩ := z_rot hP hD
  have hP : va_P D vwCl ((h0, .inr (12, fs_5)) :: (q_6, .inl (D.1 14, 6, .inl (fun _ => i2 0))) :: (q_4, .inl (D.1 13, 6, .inl (fun _ => i2 0))) :: (q_1, .inl (D.1 13, 1600, .inl (fun _ => 0))) :: T) H := hP
  have hD : va_D A ((h0, .inr (12, fs_5)) :: (q_6, .inl (D.1 14, 6, .inl (fun _ => i2 0))) :: (q_4, .inl (D.1 13, 6, .inl (fun _ => i2 0))) :: (q_1, .inl (D.1 13, 1600, .inl (fun _ => 0))) :: T) := hD
  refine lv_dup hx hb dX12_init_31 rfl ?_
  refine lv_iconst (v := 0) hx hb dX12_init_32 (by decide) ?_
  refine lv_bipush (v := 98) hx hb dX12_init_33 (by decide) ?_
  refine va_cast hx hb hK hP hD hS 1 1 rfl rfl (z_in (by decide) (by decide)) dX12_init_35 (fun H locs hP hD hS => ?_)
  rw [c_i2 (F := fun _ => 0) (k := Int32.toNatClampNeg 0) (c := vp_nar .char 98) (v := 98) (by decide)] at hP hD
  have hP : va_P D vwCl ((h0, .inr (12, fs_5)) :: (q_6, .inl (D.1 14, 6, .inl (fun j => i2 (upZ (fun _ => 0) 0 98 j)))) :: (q_4, .inl (D.1 13, 6, .inl (fun _ => i2 0))) :: (q_1, .inl (D.1 13, 1600, .inl (fun _ => 0))) :: T) H := hP
  have hD : va_D A ((h0, .inr (12, fs_5)) :: (q_6, .inl (D.1 14, 6, .inl (fun j => i2 (upZ (fun _ => 0) 0 98 j)))) :: (q_4, .inl (D.1 13, 6, .inl (fun _ => i2 0))) :: (q_1, .inl (D.1 13, 1600, .inl (fun _ => 0))) :: T) := hD
  refine lv_dup hx hb dX12_init_36 rfl ?_
  refine lv_iconst (v := 1) hx hb dX12_init_37 (by decide) ?_
  refine lv_bipush (v := 108) hx hb dX12_init_38 (by decide) ?_
  refine va_cast hx hb hK hP hD hS 1 1 rfl rfl (z_in (by decide) (by decide)) dX12_init_40 (fun H locs hP hD hS => ?_)
  rw [c_i2 (F := upZ (fun _ => 0) 0 98) (k := Int32.toNatClampNeg 1) (c := vp_nar .char 108) (v := 108) (by decide)] at hP hD
  have hP : va_P D vwCl ((h0, .inr (12, fs_5)) :: (q_6, .inl (D.1 14, 6, .inl (fun j => i2 (upZ (upZ (fun _ => 0) 0 98) 1 108 j)))) :: (q_4, .inl (D.1 13, 6, .inl (fun _ => i2 0))) :: (q_1, .inl (D.1 13, 1600, .inl (fun _ => 0))) :: T) H := hP
  have hD : va_D A ((h0, .inr (12, fs_5)) :: (q_6, .inl (D.1 14, 6, .inl (fun j => i2 (upZ (upZ (fun _ => 0) 0 98) 1 108 j)))) :: (q_4, .inl (D.1 13, 6, .inl (fun _ => i2 0))) :: (q_1, .inl (D.1 13, 1600, .inl (fun _ => 0))) :: T) := hD
  refine lv_dup hx hb dX12_init_41 rfl ?_
  refine lv_iconst (v := 2) hx hb dX12_init_42 (by decide) ?_
  refine lv_bipush (v := 111) hx hb dX12_init_43 (by decide) ?_
  refine va_cast hx hb hK hP hD hS 1 1 rfl rfl (z_in (by decide) (by decide)) dX12_init_45 (fun H locs hP hD hS => ?_)
  rw [c_i2 (F := upZ (upZ (fun _ => 0) 0 98) 1 108) (k := Int32.toNatClampNeg 2) (c := vp_nar .char 111) (v := 111) (by decide)] at hP hD
  have hP : va_P D vwCl ((h0, .inr (12, fs_5)) :: (q_6, .inl (D.1 14, 6, .inl (fun j => i2 (upZ (upZ (upZ (fun _ => 0) 0 98) 1 108) 2 111 j)))) :: (q_4, .inl (D.1 13, 6, .inl (fun _ => i2 0))) :: (q_1, .inl (D.1 13, 1600, .inl (fun _ => 0))) :: T) H := hP
  have hD : va_D A ((h0, .inr (12, fs_5)) :: (q_6, .inl (D.1 14, 6, .inl (fun j => i2 (upZ (upZ (upZ (fun _ => 0) 0 98) 1 108) 2 111 j)))) :: (q_4, .inl (D.1 13, 6, .inl (fun _ => i2 0))) :: (q_1, .inl (D.1 13, 1600, .inl (fun _ => 0))) :: T) := hD
  refine lv_dup hx hb dX12_init_46 rfl ?_
  refine lv_iconst (v := 3) hx hb dX12_init_47 (by decide) ?_
  refine lv_bipush (v := 99) hx hb dX12_init_48 (by decide) ?_
  refine va_cast hx hb hK hP hD hS 1 1 rfl rfl (z_in (by decide) (by decide)) dX12_init_50 (fun H locs hP hD hS => ?_)
  rw [c_i2 (F := upZ (upZ (upZ (fun _ => 0) 0 98) 1 108) 2 111) (k := Int32.toNatClampNeg 3) (c := vp_nar .char 99) (v := 99) (by decide)] at hP hD
  have hP : va_P D vwCl ((h0, .inr (12, fs_5)) :: (q_6, .inl (D.1 14, 6, .inl (fun j => i2 (upZ (upZ (upZ (upZ (fun _ => 0) 0 98) 1 108) 2 111) 3 99 j)))) :: (q_4, .inl (D.1 13, 6, .inl (fun _ => i2 0))) :: (q_1, .inl (D.1 13, 1600, .inl (fun _ => 0))) :: T) H := hP
  have hD : va_D A ((h0, .inr (12, fs_5)) :: (q_6, .inl (D.1 14, 6, .inl (fun j => i2 (upZ (upZ (upZ (upZ (fun _ => 0) 0 98) 1 108) 2 111) 3 99 j)))) :: (q_4, .inl (D.1 13, 6, .inl (fun _ => i2 0))) :: (q_1, .inl (D.1 13, 1600, .inl (fun _ => 0))) :: T) := hD
  refine lv_dup hx hb dX12_init_51 rfl ?_
  refine lv_iconst (v := 4) hx hb dX12_init_52 (by decide) ?_
  refine lv_bipush (v := 107) hx hb dX12_init_53 (by decide) ?_
  refine va_cast hx hb hK hP hD hS 1 1 rfl rfl (z_in (by decide) (by decide)) dX12_init_55 (fun H locs hP hD hS => ?_)
  rw [c_i2 (F := upZ (upZ (upZ (upZ (fun _ => 0) 0 98) 1 108) 2 111) 3 99) (k := Int32.toNatClampNeg 4) (c := vp_nar .char 107) (v := 107) (by decide)] at hP hD
  have hP : va_P D vwCl ((h0, .inr (12, fs_5)) :: (q_6, .inl (D.1 14, 6, .inl (fun j => i2 (upZ (upZ (upZ (upZ (upZ (fun _ => 0) 0 98) 1 108) 2 111) 3 99) 4 107 j)))) :: (q_4, .inl (D.1 13, 6, .inl (fun _ => i2 0))) :: (q_1, .inl (D.1 13, 1600, .inl (fun _ => 0))) :: T) H := hP
  have hD : va_D A ((h0, .inr (12, fs_5)) :: (q_6, .inl (D.1 14, 6, .inl (fun j => i2 (upZ (upZ (upZ (upZ (upZ (fun _ => 0) 0 98) 1 108) 2 111) 3 99) 4 107 j)))) :: (q_4, .inl (D.1 13, 6, .inl (fun _ => i2 0))) :: (q_1, .inl (D.1 13, 1600, .inl (fun _ => 0))) :: T) := hD
  refine lv_dup hx hb dX12_init_56 rfl ?_
  refine lv_iconst (v := 5) hx hb dX12_init_57 (by decide) ?_
  refine lv_bipush (v := 115) hx hb dX12_init_58 (by decide) ?_
  refine va_cast hx hb hK hP hD hS 1 1 rfl rfl (z_in (by decide) (by decide)) dX12_init_60 (fun H locs hP hD hS => ?_)
  rw [c_i2 (F := upZ (upZ (upZ (upZ (upZ (fun _ => 0) 0 98) 1 108) 2 111) 3 99) 4 107) (k := Int32.toNatClampNeg 5) (c := vp_nar .char 115) (v := 115) (by decide)] at hP hD
  have hP : va_P D vwCl ((h0, .inr (12, fs_5)) :: (q_6, .inl (D.1 14, 6, .inl (fun j => i2 (upZ (upZ (upZ (upZ (upZ (upZ (fun _ => 0) 0 98) 1 108) 2 111) 3 99) 4 107) 5 115 j)))) :: (q_4, .inl (D.1 13, 6, .inl (fun _ => i2 0))) :: (q_1, .inl (D.1 13, 1600, .inl (fun _ => 0))) :: T) H := hP
  have hD : va_D A ((h0, .inr (12, fs_5)) :: (q_6, .inl (D.1 14, 6, .inl (fun j => i2 (upZ (upZ (upZ (upZ (upZ (upZ (fun _ => 0) 0 98) 1 108) 2 111) 3 99) 4 107) 5 115 j)))) :: (q_4, .inl (D.1 13, 6, .inl (fun _ => i2 0))) :: (q_1, .inl (D.1 13, 1600, .inl (fun _ => 0))) :: T) := hD
  refine va_putF (D := D) (ci := 12) (v := .ref q_6) (ty := .array .char) (C := RX12) (T := TX12) (N := 116) hx hb ht inX12 tyX12 tyX12_ok nmX12 hown hK hP hD hS 0 rfl rfl 11 (by decide) (ht (.fieldLink RX12 20 "CloneVolumesModel" "blocksWord" "[C") fl_X12_20) (fun _ h9 => h9) rfl hin rfl (by decide +kernel) rfl rfl (by rw [hlen]; decide) dX12_init_61 (fun H locs hP hD hS => ?_)
  have hP : va_P D vwCl ((h0, .inr (12, (fs_5.set 11 (.ref q_6)))) :: (q_6, .inl (D.1 14, 6, .inl (fun j => i2 (upZ (upZ (upZ (upZ (upZ (upZ (fun _ => 0) 0 98) 1 108) 2 111) 3 99) 4 107) 5 115 j)))) :: (q_4, .inl (D.1 13, 6, .inl (fun _ => i2 0))) :: (q_1, .inl (D.1 13, 1600, .inl (fun _ => 0))) :: T) H := hP
  have hD : va_D A ((h0, .inr (12, (fs_5.set 11 (.ref q_6)))) :: (q_6, .inl (D.1 14, 6, .inl (fun j => i2 (upZ (upZ (upZ (upZ (upZ (upZ (fun _ => 0) 0 98) 1 108) 2 111) 3 99) 4 107) 5 115 j)))) :: (q_4, .inl (D.1 13, 6, .inl (fun _ => i2 0))) :: (q_1, .inl (D.1 13, 1600, .inl (fun _ => 0))) :: T) := hD
  generalize hfs_7 : fs_5.set 11 (.ref q_6) = fs_7 at hP hD
  have hlen : fs_7.length = 116 := by rw [← hfs_7, List.length_set]; exact hlen
  have hP : va_P D vwCl ((h0, .inr (12, fs_7)) :: (q_6, .inl (D.1 14, 6, .inl (fun j => i2 (upZ (upZ (upZ (upZ (upZ (upZ (fun _ => 0) 0 98) 1 108) 2 111) 3 99) 4 107) 5 115 j)))) :: (q_4, .inl (D.1 13, 6, .inl (fun _ => i2 0))) :: (q_1, .inl (D.1 13, 1600, .inl (fun _ => 0))) :: T) H := hP
  have hD : va_D A ((h0, .inr (12, fs_7)) :: (q_6, .inl (D.1 14, 6, .inl (fun j => i2 (upZ (upZ (upZ (upZ (upZ (upZ (fun _ => 0) 0 98) 1 108) 2 111) 3 99) 4 107) 5 115 j)))) :: (q_4, .inl (D.1 13, 6, .inl (fun _ => i2 0))) :: (q_1, .inl (D.1 13, 1600, .inl (fun _ => 0))) :: T) := hD
  refine lv_aload_n hx hb dX12_init_64 rfl (lv_at hl 0 rfl) ?_
  refine lv_iconst (v := 4) hx hb dX12_init_65 (by decide) ?_
  refine va_newa (atype := .char) (a0 := (4, .inl (fun _ => 0))) (ty := .char) (N' := 4) hx hb (ht _ ac_char) rfl hK hP hD hS hA (fun _ => rfl) (by decide) (by decide) (by decide) (Nat.le_trans (Nat.le_of_ble_eq_true rfl) hRc) (Nat.le_trans (Nat.le_of_ble_eq_true rfl) hRs) dX12_init_66 (fun q_8 cA H hK2 hP hD hS => ?_)
  obtain rfl := z_cls_char hK hK2
  refine W.widen (k := 4) (n := 1616) (Nat.le_of_ble_eq_true rfl) (Nat.le_of_ble_eq_true rfl) ?_
  obtain ⟨hP, hD⟩ := z_rot hP hD
  have hP : va_P D vwCl ((h0, .inr (12, fs_7)) :: (q_8, .inl (D.1 14, 4, .inl (fun _ => i2 0))) :: (q_6, .inl (D.1 14, 6, .inl (fun j => i2 (upZ (upZ (upZ (upZ (upZ (upZ (fun _ => 0) 0 98) 1 108) 2 111) 3 99) 4 107) 5 115 j)))) :: (q_4, .inl (D.1 13, 6, .inl (fun _ => i2 0))) :: (q_1, .inl (D.1 13, 1600, .inl (fun _ => 0))) :: T) H := hP
  have hD : va_D A ((h0, .inr (12, fs_7)) :: (q_8, .inl (D.1 14, 4, .inl (fun _ => i2 0))) :: (q_6, .inl (D.1 14, 6, .inl (fun j => i2 (upZ (upZ (upZ (upZ (upZ (upZ (fun _ => 0) 0 98) 1 108) 2 111) 3 99) 4 107) 5 115 j)))) :: (q_4, .inl (D.1 13, 6, .inl (fun _ => i2 0))) :: (q_1, .inl (D.1 13, 1600, .inl (fun _ => 0))) :: T) := hD
  refine lv_dup hx hb dX12_init_68 rfl ?_
  refine lv_iconst (v := 0) hx hb dX12_init_69 (by decide) ?_
  refine lv_bipush (v := 114) hx hb dX12_init_70 (by decide) ?_
  refine va_cast hx hb hK hP hD hS 1 1 rfl rfl (z_in (by decide) (by decide)) dX12_init_72 (fun H locs hP hD hS => ?_)
  rw [c_i2 (F := fun _ => 0) (k := Int32.toNatClampNeg 0) (c := vp_nar .char 114) (v := 114) (by decide)] at hP hD
  have hP : va_P D vwCl ((h0, .inr (12, fs_7)) :: (q_8, .inl (D.1 14, 4, .inl (fun j => i2 (upZ (fun _ => 0) 0 114 j)))) :: (q_6, .inl (D.1 14, 6, .inl (fun j => i2 (upZ (upZ (upZ (upZ (upZ (upZ (fun _ => 0) 0 98) 1 108) 2 111) 3 99) 4 107) 5 115 j)))) :: (q_4, .inl (D.1 13, 6, .inl (fun _ => i2 0))) :: (q_1, .inl (D.1 13, 1600, .inl (fun _ => 0))) :: T) H := hP
  have hD : va_D A ((h0, .inr (12, fs_7)) :: (q_8, .inl (D.1 14, 4, .inl (fun j => i2 (upZ (fun _ => 0) 0 114 j)))) :: (q_6, .inl (D.1 14, 6, .inl (fun j => i2 (upZ (upZ (upZ (upZ (upZ (upZ (fun _ => 0) 0 98) 1 108) 2 111) 3 99) 4 107) 5 115 j)))) :: (q_4, .inl (D.1 13, 6, .inl (fun _ => i2 0))) :: (q_1, .inl (D.1 13, 1600, .inl (fun _ => 0))) :: T) := hD
  refine lv_dup hx hb dX12_init_73 rfl ?_
  refine lv_iconst (v := 1) hx hb dX12_init_74 (by decide) ?_
  refine lv_bipush (v := 111) hx hb dX12_init_75 (by decide) ?_
  refine va_cast hx hb hK hP hD hS 1 1 rfl rfl (z_in (by decide) (by decide)) dX12_init_77 (fun H locs hP hD hS => ?_)
  rw [c_i2 (F := upZ (fun _ => 0) 0 114) (k := Int32.toNatClampNeg 1) (c := vp_nar .char 111) (v := 111) (by decide)] at hP hD
  have hP : va_P D vwCl ((h0, .inr (12, fs_7)) :: (q_8, .inl (D.1 14, 4, .inl (fun j => i2 (upZ (upZ (fun _ => 0) 0 114) 1 111 j)))) :: (q_6, .inl (D.1 14, 6, .inl (fun j => i2 (upZ (upZ (upZ (upZ (upZ (upZ (fun _ => 0) 0 98) 1 108) 2 111) 3 99) 4 107) 5 115 j)))) :: (q_4, .inl (D.1 13, 6, .inl (fun _ => i2 0))) :: (q_1, .inl (D.1 13, 1600, .inl (fun _ => 0))) :: T) H := hP
  have hD : va_D A ((h0, .inr (12, fs_7)) :: (q_8, .inl (D.1 14, 4, .inl (fun j => i2 (upZ (upZ (fun _ => 0) 0 114) 1 111 j)))) :: (q_6, .inl (D.1 14, 6, .inl (fun j => i2 (upZ (upZ (upZ (upZ (upZ (upZ (fun _ => 0) 0 98) 1 108) 2 111) 3 99) 4 107) 5 115 j)))) :: (q_4, .inl (D.1 13, 6, .inl (fun _ => i2 0))) :: (q_1, .inl (D.1 13, 1600, .inl (fun _ => 0))) :: T) := hD
  refine lv_dup hx hb dX12_init_78 rfl ?_
  refine lv_iconst (v := 2) hx hb dX12_init_79 (by decide) ?_
  refine lv_bipush (v := 111) hx hb dX12_init_80 (by decide) ?_
  refine va_cast hx hb hK hP hD hS 1 1 rfl rfl (z_in (by decide) (by decide)) dX12_init_82 (fun H locs hP hD hS => ?_)
  rw [c_i2 (F := upZ (upZ (fun _ => 0) 0 114) 1 111) (k := Int32.toNatClampNeg 2) (c := vp_nar .char 111) (v := 111) (by decide)] at hP hD
  have hP : va_P D vwCl ((h0, .inr (12, fs_7)) :: (q_8, .inl (D.1 14, 4, .inl (fun j => i2 (upZ (upZ (upZ (fun _ => 0) 0 114) 1 111) 2 111 j)))) :: (q_6, .inl (D.1 14, 6, .inl (fun j => i2 (upZ (upZ (upZ (upZ (upZ (upZ (fun _ => 0) 0 98) 1 108) 2 111) 3 99) 4 107) 5 115 j)))) :: (q_4, .inl (D.1 13, 6, .inl (fun _ => i2 0))) :: (q_1, .inl (D.1 13, 1600, .inl (fun _ => 0))) :: T) H := hP
  have hD : va_D A ((h0, .inr (12, fs_7)) :: (q_8, .inl (D.1 14, 4, .inl (fun j => i2 (upZ (upZ (upZ (fun _ => 0) 0 114) 1 111) 2 111 j)))) :: (q_6, .inl (D.1 14, 6, .inl (fun j => i2 (upZ (upZ (upZ (upZ (upZ (upZ (fun _ => 0) 0 98) 1 108) 2 111) 3 99) 4 107) 5 115 j)))) :: (q_4, .inl (D.1 13, 6, .inl (fun _ => i2 0))) :: (q_1, .inl (D.1 13, 1600, .inl (fun _ => 0))) :: T) := hD
  refine lv_dup hx hb dX12_init_83 rfl ?_
  refine lv_iconst (v := 3) hx hb dX12_init_84 (by decide) ?_
  refine lv_bipush (v := 109) hx hb dX12_init_85 (by decide) ?_
  refine va_cast hx hb hK hP hD hS 1 1 rfl rfl (z_in (by decide) (by decide)) dX12_init_87 (fun H locs hP hD hS => ?_)
  rw [c_i2 (F := upZ (upZ (upZ (fun _ => 0) 0 114) 1 111) 2 111) (k := Int32.toNatClampNeg 3) (c := vp_nar .char 109) (v := 109) (by decide)] at hP hD
  have hP : va_P D vwCl ((h0, .inr (12, fs_7)) :: (q_8, .inl (D.1 14, 4, .inl (fun j => i2 (upZ (upZ (upZ (upZ (fun _ => 0) 0 114) 1 111) 2 111) 3 109 j)))) :: (q_6, .inl (D.1 14, 6, .inl (fun j => i2 (upZ (upZ (upZ (upZ (upZ (upZ (fun _ => 0) 0 98) 1 108) 2 111) 3 99) 4 107) 5 115 j)))) :: (q_4, .inl (D.1 13, 6, .inl (fun _ => i2 0))) :: (q_1, .inl (D.1 13, 1600, .inl (fun _ => 0))) :: T) H := hP
  have hD : va_D A ((h0, .inr (12, fs_7)) :: (q_8, .inl (D.1 14, 4, .inl (fun j => i2 (upZ (upZ (upZ (upZ (fun _ => 0) 0 114) 1 111) 2 111) 3 109 j)))) :: (q_6, .inl (D.1 14, 6, .inl (fun j => i2 (upZ (upZ (upZ (upZ (upZ (upZ (fun _ => 0) 0 98) 1 108) 2 111) 3 99) 4 107) 5 115 j)))) :: (q_4, .inl (D.1 13, 6, .inl (fun _ => i2 0))) :: (q_1, .inl (D.1 13, 1600, .inl (fun _ => 0))) :: T) := hD
  refine va_putF (D := D) (ci := 12) (v := .ref q_8) (ty := .array .char) (C := RX12) (T := TX12) (N := 116) hx hb ht inX12 tyX12 tyX12_ok nmX12 hown hK hP hD hS 0 rfl rfl 12 (by decide) (ht (.fieldLink RX12 24 "CloneVolumesModel" "roomWord" "[C") fl_X12_24) (fun _ h9 => h9) rfl hin rfl (by decide +kernel) rfl rfl (by rw [hlen]; decide) dX12_init_88 (fun H locs hP hD hS => ?_)
  have hP : va_P D vwCl ((h0, .inr (12, (fs_7.set 12 (.ref q_8)))) :: (q_8, .inl (D.1 14, 4, .inl (fun j => i2 (upZ (upZ (upZ (upZ (fun _ => 0) 0 114) 1 111) 2 111) 3 109 j)))) :: (q_6, .inl (D.1 14, 6, .inl (fun j => i2 (upZ (upZ (upZ (upZ (upZ (upZ (fun _ => 0) 0 98) 1 108) 2 111) 3 99) 4 107) 5 115 j)))) :: (q_4, .inl (D.1 13, 6, .inl (fun _ => i2 0))) :: (q_1, .inl (D.1 13, 1600, .inl (fun _ => 0))) :: T) H := hP
  have hD : va_D A ((h0, .inr (12, (fs_7.set 12 (.ref q_8)))) :: (q_8, .inl (D.1 14, 4, .inl (fun j => i2 (upZ (upZ (upZ (upZ (fun _ => 0) 0 114) 1 111) 2 111) 3 109 j)))) :: (q_6, .inl (D.1 14, 6, .inl (fun j => i2 (upZ (upZ (upZ (upZ (upZ (upZ (fun _ => 0) 0 98) 1 108) 2 111) 3 99) 4 107) 5 115 j)))) :: (q_4, .inl (D.1 13, 6, .inl (fun _ => i2 0))) :: (q_1, .inl (D.1 13, 1600, .inl (fun _ => 0))) :: T) := hD
  generalize hfs_9 : fs_7.set 12 (.ref q_8) = fs_9 at hP hD
  have hlen : fs_9.length = 116 := by rw [← hfs_9, List.length_set]; exact hlen
  have hP : va_P D vwCl ((h0, .inr (12, fs_9)) :: (q_8, .inl (D.1 14, 4, .inl (fun j => i2 (upZ (upZ (upZ (upZ (fun _ => 0) 0 114) 1 111) 2 111) 3 109 j)))) :: (q_6, .inl (D.1 14, 6, .inl (fun j => i2 (upZ (upZ (upZ (upZ (upZ (upZ (fun _ => 0) 0 98) 1 108) 2 111) 3 99) 4 107) 5 115 j)))) :: (q_4, .inl (D.1 13, 6, .inl (fun _ => i2 0))) :: (q_1, .inl (D.1 13, 1600, .inl (fun _ => 0))) :: T) H := hP
  have hD : va_D A ((h0, .inr (12, fs_9)) :: (q_8, .inl (D.1 14, 4, .inl (fun j => i2 (upZ (upZ (upZ (upZ (fun _ => 0) 0 114) 1 111) 2 111) 3 109 j)))) :: (q_6, .inl (D.1 14, 6, .inl (fun j => i2 (upZ (upZ (upZ (upZ (upZ (upZ (fun _ => 0) 0 98) 1 108) 2 111) 3 99) 4 107) 5 115 j)))) :: (q_4, .inl (D.1 13, 6, .inl (fun _ => i2 0))) :: (q_1, .inl (D.1 13, 1600, .inl (fun _ => 0))) :: T) := hD
  exact kk q_8 q_6 q_4 q_1 fs_9 _ _ (by rw [← hfs_9, ← hfs_7, ← hfs_5, ← hfs_3, ← hfs_2]) hP hD hS
