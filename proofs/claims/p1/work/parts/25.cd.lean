
section CM1
variable {p : Program} {l : Launch} {e : Env} {R : Room} {s : State} {m : MethodId} {args : Array Value} {below : List Frame} {meth : Method} {c : Code} {Q : State → Prop} {D : va_G} {A : Nat → Prop} {ls : Array Slot}
set_option maxHeartbeats 4000000 in
set_option maxRecDepth 100000 in
theorem cM_1 {h0 : Nat} (hx : p.tables.exec = Jvm.exec) (hb : c.code = cX12_init) (ht : ∀ w ∈ lw_gd, w.before args s = true) (hown : s.vm.findClass RX12 = some m.cls) (hin : meth.name = "<init>") (hK : va_K D vwCl (TY D) s) (hA : ∀ q : Nat, s.heap.size ≤ q → A q) (hRc : 80 ≤ R.cells) (hRs : 35050 ≤ R.slots) (hl : lv_has ls 1 [(0, .ref h0)]) {fs : List Value} (hlen : fs.length = 116) {H : Heap} {locs : List Loc} (hP : va_P D vwCl [(h0, .inr (12, fs))] H) (hD : va_D A [(h0, .inr (12, fs))]) (hS : va_S A s.heap H locs)
    (kk : ∀ (q_1 : Nat) (q_4 : Nat) (q_6 : Nat) (q_14 : Nat) (fs' : List Value) (H : Heap) (locs : List Loc), fs' = (((((fs.set 0 (.ref q_1)).set 8 (.int (-1))).set 9 (.ref q_4)).set 11 (.ref q_6)).set 12 (.ref q_14)) → va_P D vwCl [(h0, .inr (12, fs')), (q_1, .inl (D.1 13, 1600, .inl (fun _ => 0))), (q_4, .inl (D.1 13, 6, .inl (fun _ => 0)))] H → va_D A [(h0, .inr (12, fs')), (q_1, .inl (D.1 13, 1600, .inl (fun _ => 0))), (q_4, .inl (D.1 13, 6, .inl (fun _ => 0)))] → va_S A s.heap H locs → W p l e R s m args below meth c H locs 4 1616 Q (F0 m 91 ls [])) : W p l e R s m args below meth c H locs 0 0 Q (F0 m 4 ls []) := by
  refine lv_aload_n hx hb dX12_init_4 rfl (lv_at hl 0 rfl) ?_
  refine lv_sipush (v := 1600) hx hb dX12_init_5 (by decide) ?_
  refine va_newa (atype := .int) (a0 := (1600, .inl (fun _ => 0))) (ty := .int) (N' := 1600) hx hb (ht _ ac_int) rfl hK hP hD hS hA (fun _ => rfl) (by decide) (by decide) (by decide) (Nat.le_trans (Nat.le_of_ble_eq_true rfl) hRc) (Nat.le_trans (Nat.le_of_ble_eq_true rfl) hRs) dX12_init_8 (fun q_1 cA H hK2 hP hD hS => ?_)
  obtain rfl := z_cls_int hK hK2
  refine W.widen (k := 1) (n := 1600) (Nat.le_of_ble_eq_true rfl) (Nat.le_of_ble_eq_true rfl) ?_
  have hP : va_P D vwCl [(h0, .inr (12, fs)), (q_1, .inl (D.1 13, 1600, .inl (fun _ => 0)))] H := hP
  have hD : va_D A [(h0, .inr (12, fs)), (q_1, .inl (D.1 13, 1600, .inl (fun _ => 0)))] := hD
  refine va_putF (D := D) (ci := 12) (v := .ref q_1) (ty := .array .int) (C := RX12) (T := TX12) (N := 116) hx hb ht inX12 tyX12 tyX12_ok nmX12 hown hK hP hD hS 0 rfl rfl 0 (by decide) (ht (.fieldLink RX12 7 "CloneVolumesModel" "tape" "[I") fl_X12_7) (fun _ h9 => h9) rfl hin rfl (by decide +kernel) rfl rfl (by rw [hlen]; decide) dX12_init_10 (fun H locs hP hD hS => ?_)
  have hP : va_P D vwCl [(h0, .inr (12, (fs.set 0 (.ref q_1)))), (q_1, .inl (D.1 13, 1600, .inl (fun _ => 0)))] H := hP
  have hD : va_D A [(h0, .inr (12, (fs.set 0 (.ref q_1)))), (q_1, .inl (D.1 13, 1600, .inl (fun _ => 0)))] := hD
  generalize hfs_2 : fs.set 0 (.ref q_1) = fs_2 at hP hD
  have hlen : fs_2.length = 116 := by rw [← hfs_2, List.length_set]; exact hlen
  have hP : va_P D vwCl [(h0, .inr (12, fs_2)), (q_1, .inl (D.1 13, 1600, .inl (fun _ => 0)))] H := hP
  have hD : va_D A [(h0, .inr (12, fs_2)), (q_1, .inl (D.1 13, 1600, .inl (fun _ => 0)))] := hD
  refine lv_aload_n hx hb dX12_init_13 rfl (lv_at hl 0 rfl) ?_
  refine lv_iconst (v := (-1)) hx hb dX12_init_14 (by decide) ?_
  refine va_put (D := D) (ci := 12) (v := .int (-1)) (ty := .int) (C := RX12) (T := TX12) (N := 116) hx hb ht inX12 tyX12 tyX12_ok nmX12 hown hK hP hD hS 0 rfl rfl 8 (by decide) (ht (.fieldLink RX12 13 "CloneVolumesModel" "faultPlace" "I") fl_X12_13) (fun _ h9 => h9) rfl (by decide +kernel) rfl rfl (by rw [hlen]; decide) dX12_init_15 (fun H locs hP hD hS => ?_)
  have hP : va_P D vwCl [(h0, .inr (12, (fs_2.set 8 (.int (-1))))), (q_1, .inl (D.1 13, 1600, .inl (fun _ => 0)))] H := hP
  have hD : va_D A [(h0, .inr (12, (fs_2.set 8 (.int (-1))))), (q_1, .inl (D.1 13, 1600, .inl (fun _ => 0)))] := hD
  generalize hfs_3 : fs_2.set 8 (.int (-1)) = fs_3 at hP hD
  have hlen : fs_3.length = 116 := by rw [← hfs_3, List.length_set]; exact hlen
  have hP : va_P D vwCl [(h0, .inr (12, fs_3)), (q_1, .inl (D.1 13, 1600, .inl (fun _ => 0)))] H := hP
  have hD : va_D A [(h0, .inr (12, fs_3)), (q_1, .inl (D.1 13, 1600, .inl (fun _ => 0)))] := hD
  refine lv_aload_n hx hb dX12_init_18 rfl (lv_at hl 0 rfl) ?_
  refine lv_bipush (v := 6) hx hb dX12_init_19 (by decide) ?_
  refine va_newa (atype := .int) (a0 := (6, .inl (fun _ => 0))) (ty := .int) (N' := 6) hx hb (ht _ ac_int) rfl hK hP hD hS hA (fun _ => rfl) (by decide) (by decide) (by decide) (Nat.le_trans (Nat.le_of_ble_eq_true rfl) hRc) (Nat.le_trans (Nat.le_of_ble_eq_true rfl) hRs) dX12_init_21 (fun q_4 cA H hK2 hP hD hS => ?_)
  obtain rfl := z_cls_int hK hK2
  refine W.widen (k := 2) (n := 1606) (Nat.le_of_ble_eq_true rfl) (Nat.le_of_ble_eq_true rfl) ?_
  have hP : va_P D vwCl [(h0, .inr (12, fs_3)), (q_1, .inl (D.1 13, 1600, .inl (fun _ => 0))), (q_4, .inl (D.1 13, 6, .inl (fun _ => 0)))] H := hP
  have hD : va_D A [(h0, .inr (12, fs_3)), (q_1, .inl (D.1 13, 1600, .inl (fun _ => 0))), (q_4, .inl (D.1 13, 6, .inl (fun _ => 0)))] := hD
  refine va_putF (D := D) (ci := 12) (v := .ref q_4) (ty := .array .int) (C := RX12) (T := TX12) (N := 116) hx hb ht inX12 tyX12 tyX12_ok nmX12 hown hK hP hD hS 0 rfl rfl 9 (by decide) (ht (.fieldLink RX12 17 "CloneVolumesModel" "refused" "[I") fl_X12_17) (fun _ h9 => h9) rfl hin rfl (by decide +kernel) rfl rfl (by rw [hlen]; decide) dX12_init_23 (fun H locs hP hD hS => ?_)
  have hP : va_P D vwCl [(h0, .inr (12, (fs_3.set 9 (.ref q_4)))), (q_1, .inl (D.1 13, 1600, .inl (fun _ => 0))), (q_4, .inl (D.1 13, 6, .inl (fun _ => 0)))] H := hP
  have hD : va_D A [(h0, .inr (12, (fs_3.set 9 (.ref q_4)))), (q_1, .inl (D.1 13, 1600, .inl (fun _ => 0))), (q_4, .inl (D.1 13, 6, .inl (fun _ => 0)))] := hD
  generalize hfs_5 : fs_3.set 9 (.ref q_4) = fs_5 at hP hD
  have hlen : fs_5.length = 116 := by rw [← hfs_5, List.length_set]; exact hlen
  have hP : va_P D vwCl [(h0, .inr (12, fs_5)), (q_1, .inl (D.1 13, 1600, .inl (fun _ => 0))), (q_4, .inl (D.1 13, 6, .inl (fun _ => 0)))] H := hP
  have hD : va_D A [(h0, .inr (12, fs_5)), (q_1, .inl (D.1 13, 1600, .inl (fun _ => 0))), (q_4, .inl (D.1 13, 6, .inl (fun _ => 0)))] := hD
  refine lv_aload_n hx hb dX12_init_26 rfl (lv_at hl 0 rfl) ?_
  refine lv_bipush (v := 6) hx hb dX12_init_27 (by decide) ?_
  refine va_newa (atype := .char) (a0 := (6, .inl (fun _ => 0))) (ty := .char) (N' := 6) hx hb (ht _ ac_char) rfl hK hP hD hS hA (fun _ => rfl) (by decide) (by decide) (by decide) (Nat.le_trans (Nat.le_of_ble_eq_true rfl) hRc) (Nat.le_trans (Nat.le_of_ble_eq_true rfl) hRs) dX12_init_29 (fun q_6 cA H hK2 hP hD hS => ?_)
  obtain rfl := z_cls_char hK hK2
  refine W.widen (k := 3) (n := 1612) (Nat.le_of_ble_eq_true rfl) (Nat.le_of_ble_eq_true rfl) ?_
  have hP : va_P D vwCl [(h0, .inr (12, fs_5)), (q_1, .inl (D.1 13, 1600, .inl (fun _ => 0))), (q_4, .inl (D.1 13, 6, .inl (fun _ => 0))), (q_6, .inl (D.1 14, 6, .inl (fun _ => 0)))] H := hP
  have hD : va_D A [(h0, .inr (12, fs_5)), (q_1, .inl (D.1 13, 1600, .inl (fun _ => 0))), (q_4, .inl (D.1 13, 6, .inl (fun _ => 0))), (q_6, .inl (D.1 14, 6, .inl (fun _ => 0)))] := hD
  refine lv_dup hx hb dX12_init_31 rfl ?_
  refine lv_iconst (v := 0) hx hb dX12_init_32 (by decide) ?_
  refine lv_bipush (v := 98) hx hb dX12_init_33 (by decide) ?_
  refine va_cast hx hb hK hP hD hS 3 1 rfl rfl (z_in (by decide) (by decide)) dX12_init_35 (fun H locs hP hD hS => ?_)
  generalize hf_7 : upd _ _ _ = f_7 at hP hD
  have hP : va_P D vwCl [(h0, .inr (12, fs_5)), (q_1, .inl (D.1 13, 1600, .inl (fun _ => 0))), (q_4, .inl (D.1 13, 6, .inl (fun _ => 0))), (q_6, .inl (D.1 14, 6, .inl f_7))] H := hP
  have hD : va_D A [(h0, .inr (12, fs_5)), (q_1, .inl (D.1 13, 1600, .inl (fun _ => 0))), (q_4, .inl (D.1 13, 6, .inl (fun _ => 0))), (q_6, .inl (D.1 14, 6, .inl f_7))] := hD
  refine lv_dup hx hb dX12_init_36 rfl ?_
  refine lv_iconst (v := 1) hx hb dX12_init_37 (by decide) ?_
  refine lv_bipush (v := 108) hx hb dX12_init_38 (by decide) ?_
  refine va_cast hx hb hK hP hD hS 3 1 rfl rfl (z_in (by decide) (by decide)) dX12_init_40 (fun H locs hP hD hS => ?_)
  generalize hf_8 : upd _ _ _ = f_8 at hP hD
  have hP : va_P D vwCl [(h0, .inr (12, fs_5)), (q_1, .inl (D.1 13, 1600, .inl (fun _ => 0))), (q_4, .inl (D.1 13, 6, .inl (fun _ => 0))), (q_6, .inl (D.1 14, 6, .inl f_8))] H := hP
  have hD : va_D A [(h0, .inr (12, fs_5)), (q_1, .inl (D.1 13, 1600, .inl (fun _ => 0))), (q_4, .inl (D.1 13, 6, .inl (fun _ => 0))), (q_6, .inl (D.1 14, 6, .inl f_8))] := hD
  refine lv_dup hx hb dX12_init_41 rfl ?_
  refine lv_iconst (v := 2) hx hb dX12_init_42 (by decide) ?_
  refine lv_bipush (v := 111) hx hb dX12_init_43 (by decide) ?_
  refine va_cast hx hb hK hP hD hS 3 1 rfl rfl (z_in (by decide) (by decide)) dX12_init_45 (fun H locs hP hD hS => ?_)
  generalize hf_9 : upd _ _ _ = f_9 at hP hD
  have hP : va_P D vwCl [(h0, .inr (12, fs_5)), (q_1, .inl (D.1 13, 1600, .inl (fun _ => 0))), (q_4, .inl (D.1 13, 6, .inl (fun _ => 0))), (q_6, .inl (D.1 14, 6, .inl f_9))] H := hP
  have hD : va_D A [(h0, .inr (12, fs_5)), (q_1, .inl (D.1 13, 1600, .inl (fun _ => 0))), (q_4, .inl (D.1 13, 6, .inl (fun _ => 0))), (q_6, .inl (D.1 14, 6, .inl f_9))] := hD
  refine lv_dup hx hb dX12_init_46 rfl ?_
  refine lv_iconst (v := 3) hx hb dX12_init_47 (by decide) ?_
  refine lv_bipush (v := 99) hx hb dX12_init_48 (by decide) ?_
  refine va_cast hx hb hK hP hD hS 3 1 rfl rfl (z_in (by decide) (by decide)) dX12_init_50 (fun H locs hP hD hS => ?_)
  generalize hf_10 : upd _ _ _ = f_10 at hP hD
  have hP : va_P D vwCl [(h0, .inr (12, fs_5)), (q_1, .inl (D.1 13, 1600, .inl (fun _ => 0))), (q_4, .inl (D.1 13, 6, .inl (fun _ => 0))), (q_6, .inl (D.1 14, 6, .inl f_10))] H := hP
  have hD : va_D A [(h0, .inr (12, fs_5)), (q_1, .inl (D.1 13, 1600, .inl (fun _ => 0))), (q_4, .inl (D.1 13, 6, .inl (fun _ => 0))), (q_6, .inl (D.1 14, 6, .inl f_10))] := hD
  refine lv_dup hx hb dX12_init_51 rfl ?_
  refine lv_iconst (v := 4) hx hb dX12_init_52 (by decide) ?_
  refine lv_bipush (v := 107) hx hb dX12_init_53 (by decide) ?_
  refine va_cast hx hb hK hP hD hS 3 1 rfl rfl (z_in (by decide) (by decide)) dX12_init_55 (fun H locs hP hD hS => ?_)
  generalize hf_11 : upd _ _ _ = f_11 at hP hD
  have hP : va_P D vwCl [(h0, .inr (12, fs_5)), (q_1, .inl (D.1 13, 1600, .inl (fun _ => 0))), (q_4, .inl (D.1 13, 6, .inl (fun _ => 0))), (q_6, .inl (D.1 14, 6, .inl f_11))] H := hP
  have hD : va_D A [(h0, .inr (12, fs_5)), (q_1, .inl (D.1 13, 1600, .inl (fun _ => 0))), (q_4, .inl (D.1 13, 6, .inl (fun _ => 0))), (q_6, .inl (D.1 14, 6, .inl f_11))] := hD
  refine lv_dup hx hb dX12_init_56 rfl ?_
  refine lv_iconst (v := 5) hx hb dX12_init_57 (by decide) ?_
  refine lv_bipush (v := 115) hx hb dX12_init_58 (by decide) ?_
  refine va_cast hx hb hK hP hD hS 3 1 rfl rfl (z_in (by decide) (by decide)) dX12_init_60 (fun H locs hP hD hS => ?_)
  generalize hf_12 : upd _ _ _ = f_12 at hP hD
  have hP : va_P D vwCl [(h0, .inr (12, fs_5)), (q_1, .inl (D.1 13, 1600, .inl (fun _ => 0))), (q_4, .inl (D.1 13, 6, .inl (fun _ => 0))), (q_6, .inl (D.1 14, 6, .inl f_12))] H := hP
  have hD : va_D A [(h0, .inr (12, fs_5)), (q_1, .inl (D.1 13, 1600, .inl (fun _ => 0))), (q_4, .inl (D.1 13, 6, .inl (fun _ => 0))), (q_6, .inl (D.1 14, 6, .inl f_12))] := hD
  refine va_putF (D := D) (ci := 12) (v := .ref q_6) (ty := .array .char) (C := RX12) (T := TX12) (N := 116) hx hb ht inX12 tyX12 tyX12_ok nmX12 hown hK hP hD hS 0 rfl rfl 11 (by decide) (ht (.fieldLink RX12 20 "CloneVolumesModel" "blocksWord" "[C") fl_X12_20) (fun _ h9 => h9) rfl hin rfl (by decide +kernel) rfl rfl (by rw [hlen]; decide) dX12_init_61 (fun H locs hP hD hS => ?_)
  have hP : va_P D vwCl [(h0, .inr (12, (fs_5.set 11 (.ref q_6)))), (q_1, .inl (D.1 13, 1600, .inl (fun _ => 0))), (q_4, .inl (D.1 13, 6, .inl (fun _ => 0))), (q_6, .inl (D.1 14, 6, .inl f_12))] H := hP
  have hD : va_D A [(h0, .inr (12, (fs_5.set 11 (.ref q_6)))), (q_1, .inl (D.1 13, 1600, .inl (fun _ => 0))), (q_4, .inl (D.1 13, 6, .inl (fun _ => 0))), (q_6, .inl (D.1 14, 6, .inl f_12))] := hD
  generalize hfs_13 : fs_5.set 11 (.ref q_6) = fs_13 at hP hD
  have hlen : fs_13.length = 116 := by rw [← hfs_13, List.length_set]; exact hlen
  have hP : va_P D vwCl [(h0, .inr (12, fs_13)), (q_1, .inl (D.1 13, 1600, .inl (fun _ => 0))), (q_4, .inl (D.1 13, 6, .inl (fun _ => 0))), (q_6, .inl (D.1 14, 6, .inl f_12))] H := hP
  have hD : va_D A [(h0, .inr (12, fs_13)), (q_1, .inl (D.1 13, 1600, .inl (fun _ => 0))), (q_4, .inl (D.1 13, 6, .inl (fun _ => 0))), (q_6, .inl (D.1 14, 6, .inl f_12))] := hD
  have hP := hP.sub (ws' := [(h0, .inr (12, fs_13)), (q_1, .inl (D.1 13, 1600, .inl (fun _ => 0))), (q_4, .inl (D.1 13, 6, .inl (fun _ => 0)))]) [0, 1, 2] rfl
  have hD := hD.sub (ws' := [(h0, .inr (12, fs_13)), (q_1, .inl (D.1 13, 1600, .inl (fun _ => 0))), (q_4, .inl (D.1 13, 6, .inl (fun _ => 0)))]) [0, 1, 2] (by decide) rfl
  refine lv_aload_n hx hb dX12_init_64 rfl (lv_at hl 0 rfl) ?_
  refine lv_iconst (v := 4) hx hb dX12_init_65 (by decide) ?_
  refine va_newa (atype := .char) (a0 := (4, .inl (fun _ => 0))) (ty := .char) (N' := 4) hx hb (ht _ ac_char) rfl hK hP hD hS hA (fun _ => rfl) (by decide) (by decide) (by decide) (Nat.le_trans (Nat.le_of_ble_eq_true rfl) hRc) (Nat.le_trans (Nat.le_of_ble_eq_true rfl) hRs) dX12_init_66 (fun q_14 cA H hK2 hP hD hS => ?_)
  obtain rfl := z_cls_char hK hK2
  refine W.widen (k := 4) (n := 1616) (Nat.le_of_ble_eq_true rfl) (Nat.le_of_ble_eq_true rfl) ?_
  have hP : va_P D vwCl [(h0, .inr (12, fs_13)), (q_1, .inl (D.1 13, 1600, .inl (fun _ => 0))), (q_4, .inl (D.1 13, 6, .inl (fun _ => 0))), (q_14, .inl (D.1 14, 4, .inl (fun _ => 0)))] H := hP
  have hD : va_D A [(h0, .inr (12, fs_13)), (q_1, .inl (D.1 13, 1600, .inl (fun _ => 0))), (q_4, .inl (D.1 13, 6, .inl (fun _ => 0))), (q_14, .inl (D.1 14, 4, .inl (fun _ => 0)))] := hD
  refine lv_dup hx hb dX12_init_68 rfl ?_
  refine lv_iconst (v := 0) hx hb dX12_init_69 (by decide) ?_
  refine lv_bipush (v := 114) hx hb dX12_init_70 (by decide) ?_
  refine va_cast hx hb hK hP hD hS 3 1 rfl rfl (z_in (by decide) (by decide)) dX12_init_72 (fun H locs hP hD hS => ?_)
  generalize hf_15 : upd _ _ _ = f_15 at hP hD
  have hP : va_P D vwCl [(h0, .inr (12, fs_13)), (q_1, .inl (D.1 13, 1600, .inl (fun _ => 0))), (q_4, .inl (D.1 13, 6, .inl (fun _ => 0))), (q_14, .inl (D.1 14, 4, .inl f_15))] H := hP
  have hD : va_D A [(h0, .inr (12, fs_13)), (q_1, .inl (D.1 13, 1600, .inl (fun _ => 0))), (q_4, .inl (D.1 13, 6, .inl (fun _ => 0))), (q_14, .inl (D.1 14, 4, .inl f_15))] := hD
  refine lv_dup hx hb dX12_init_73 rfl ?_
  refine lv_iconst (v := 1) hx hb dX12_init_74 (by decide) ?_
  refine lv_bipush (v := 111) hx hb dX12_init_75 (by decide) ?_
  refine va_cast hx hb hK hP hD hS 3 1 rfl rfl (z_in (by decide) (by decide)) dX12_init_77 (fun H locs hP hD hS => ?_)
  generalize hf_16 : upd _ _ _ = f_16 at hP hD
  have hP : va_P D vwCl [(h0, .inr (12, fs_13)), (q_1, .inl (D.1 13, 1600, .inl (fun _ => 0))), (q_4, .inl (D.1 13, 6, .inl (fun _ => 0))), (q_14, .inl (D.1 14, 4, .inl f_16))] H := hP
  have hD : va_D A [(h0, .inr (12, fs_13)), (q_1, .inl (D.1 13, 1600, .inl (fun _ => 0))), (q_4, .inl (D.1 13, 6, .inl (fun _ => 0))), (q_14, .inl (D.1 14, 4, .inl f_16))] := hD
  refine lv_dup hx hb dX12_init_78 rfl ?_
  refine lv_iconst (v := 2) hx hb dX12_init_79 (by decide) ?_
  refine lv_bipush (v := 111) hx hb dX12_init_80 (by decide) ?_
  refine va_cast hx hb hK hP hD hS 3 1 rfl rfl (z_in (by decide) (by decide)) dX12_init_82 (fun H locs hP hD hS => ?_)
  generalize hf_17 : upd _ _ _ = f_17 at hP hD
  have hP : va_P D vwCl [(h0, .inr (12, fs_13)), (q_1, .inl (D.1 13, 1600, .inl (fun _ => 0))), (q_4, .inl (D.1 13, 6, .inl (fun _ => 0))), (q_14, .inl (D.1 14, 4, .inl f_17))] H := hP
  have hD : va_D A [(h0, .inr (12, fs_13)), (q_1, .inl (D.1 13, 1600, .inl (fun _ => 0))), (q_4, .inl (D.1 13, 6, .inl (fun _ => 0))), (q_14, .inl (D.1 14, 4, .inl f_17))] := hD
  refine lv_dup hx hb dX12_init_83 rfl ?_
  refine lv_iconst (v := 3) hx hb dX12_init_84 (by decide) ?_
  refine lv_bipush (v := 109) hx hb dX12_init_85 (by decide) ?_
  refine va_cast hx hb hK hP hD hS 3 1 rfl rfl (z_in (by decide) (by decide)) dX12_init_87 (fun H locs hP hD hS => ?_)
  generalize hf_18 : upd _ _ _ = f_18 at hP hD
  have hP : va_P D vwCl [(h0, .inr (12, fs_13)), (q_1, .inl (D.1 13, 1600, .inl (fun _ => 0))), (q_4, .inl (D.1 13, 6, .inl (fun _ => 0))), (q_14, .inl (D.1 14, 4, .inl f_18))] H := hP
  have hD : va_D A [(h0, .inr (12, fs_13)), (q_1, .inl (D.1 13, 1600, .inl (fun _ => 0))), (q_4, .inl (D.1 13, 6, .inl (fun _ => 0))), (q_14, .inl (D.1 14, 4, .inl f_18))] := hD
  refine va_putF (D := D) (ci := 12) (v := .ref q_14) (ty := .array .char) (C := RX12) (T := TX12) (N := 116) hx hb ht inX12 tyX12 tyX12_ok nmX12 hown hK hP hD hS 0 rfl rfl 12 (by decide) (ht (.fieldLink RX12 24 "CloneVolumesModel" "roomWord" "[C") fl_X12_24) (fun _ h9 => h9) rfl hin rfl (by decide +kernel) rfl rfl (by rw [hlen]; decide) dX12_init_88 (fun H locs hP hD hS => ?_)
  have hP : va_P D vwCl [(h0, .inr (12, (fs_13.set 12 (.ref q_14)))), (q_1, .inl (D.1 13, 1600, .inl (fun _ => 0))), (q_4, .inl (D.1 13, 6, .inl (fun _ => 0))), (q_14, .inl (D.1 14, 4, .inl f_18))] H := hP
  have hD : va_D A [(h0, .inr (12, (fs_13.set 12 (.ref q_14)))), (q_1, .inl (D.1 13, 1600, .inl (fun _ => 0))), (q_4, .inl (D.1 13, 6, .inl (fun _ => 0))), (q_14, .inl (D.1 14, 4, .inl f_18))] := hD
  generalize hfs_19 : fs_13.set 12 (.ref q_14) = fs_19 at hP hD
  have hlen : fs_19.length = 116 := by rw [← hfs_19, List.length_set]; exact hlen
  have hP : va_P D vwCl [(h0, .inr (12, fs_19)), (q_1, .inl (D.1 13, 1600, .inl (fun _ => 0))), (q_4, .inl (D.1 13, 6, .inl (fun _ => 0))), (q_14, .inl (D.1 14, 4, .inl f_18))] H := hP
  have hD : va_D A [(h0, .inr (12, fs_19)), (q_1, .inl (D.1 13, 1600, .inl (fun _ => 0))), (q_4, .inl (D.1 13, 6, .inl (fun _ => 0))), (q_14, .inl (D.1 14, 4, .inl f_18))] := hD
  have hP := hP.sub (ws' := [(h0, .inr (12, fs_19)), (q_1, .inl (D.1 13, 1600, .inl (fun _ => 0))), (q_4, .inl (D.1 13, 6, .inl (fun _ => 0)))]) [0, 1, 2] rfl
  have hD := hD.sub (ws' := [(h0, .inr (12, fs_19)), (q_1, .inl (D.1 13, 1600, .inl (fun _ => 0))), (q_4, .inl (D.1 13, 6, .inl (fun _ => 0)))]) [0, 1, 2] (by decide) rfl
  exact kk q_1 q_4 q_6 q_14 fs_19 _ _ (by rw [← hfs_19, ← hfs_13, ← hfs_5, ← hfs_3, ← hfs_2]) hP hD hS
set_option maxHeartbeats 4000000 in
set_option maxRecDepth 100000 in
theorem cM_2 {h0 : Nat} {q_1 : Nat} {q_4 : Nat} (hx : p.tables.exec = Jvm.exec) (hb : c.code = cX12_init) (ht : ∀ w ∈ lw_gd, w.before args s = true) (hown : s.vm.findClass RX12 = some m.cls) (hin : meth.name = "<init>") (hK : va_K D vwCl (TY D) s) (hA : ∀ q : Nat, s.heap.size ≤ q → A q) (hRc : 80 ≤ R.cells) (hRs : 35050 ≤ R.slots) (hl : lv_has ls 1 [(0, .ref h0)]) {fs : List Value} (hlen : fs.length = 116) {H : Heap} {locs : List Loc} (hP : va_P D vwCl [(h0, .inr (12, fs)), (q_1, .inl (D.1 13, 1600, .inl (fun _ => 0))), (q_4, .inl (D.1 13, 6, .inl (fun _ => 0)))] H) (hD : va_D A [(h0, .inr (12, fs)), (q_1, .inl (D.1 13, 1600, .inl (fun _ => 0))), (q_4, .inl (D.1 13, 6, .inl (fun _ => 0)))]) (hS : va_S A s.heap H locs)
    (kk : ∀ (q_20 : Nat) (q_28 : Nat) (fs' : List Value) (H : Heap) (locs : List Loc), fs' = ((fs.set 13 (.ref q_20)).set 14 (.ref q_28)) → va_P D vwCl [(h0, .inr (12, fs')), (q_1, .inl (D.1 13, 1600, .inl (fun _ => 0))), (q_4, .inl (D.1 13, 6, .inl (fun _ => 0)))] H → va_D A [(h0, .inr (12, fs')), (q_1, .inl (D.1 13, 1600, .inl (fun _ => 0))), (q_4, .inl (D.1 13, 6, .inl (fun _ => 0)))] → va_S A s.heap H locs → W p l e R s m args below meth c H locs 6 1627 Q (F0 m 161 ls [])) : W p l e R s m args below meth c H locs 4 1616 Q (F0 m 91 ls []) := by
  refine lv_aload_n hx hb dX12_init_91 rfl (lv_at hl 0 rfl) ?_
  refine lv_bipush (v := 6) hx hb dX12_init_92 (by decide) ?_
  refine va_newa (atype := .char) (a0 := (6, .inl (fun _ => 0))) (ty := .char) (N' := 6) hx hb (ht _ ac_char) rfl hK hP hD hS hA (fun _ => rfl) (by decide) (by decide) (by decide) (Nat.le_trans (Nat.le_of_ble_eq_true rfl) hRc) (Nat.le_trans (Nat.le_of_ble_eq_true rfl) hRs) dX12_init_94 (fun q_20 cA H hK2 hP hD hS => ?_)
  obtain rfl := z_cls_char hK hK2
  refine W.widen (k := 5) (n := 1622) (Nat.le_of_ble_eq_true rfl) (Nat.le_of_ble_eq_true rfl) ?_
  have hP : va_P D vwCl [(h0, .inr (12, fs)), (q_1, .inl (D.1 13, 1600, .inl (fun _ => 0))), (q_4, .inl (D.1 13, 6, .inl (fun _ => 0))), (q_20, .inl (D.1 14, 6, .inl (fun _ => 0)))] H := hP
  have hD : va_D A [(h0, .inr (12, fs)), (q_1, .inl (D.1 13, 1600, .inl (fun _ => 0))), (q_4, .inl (D.1 13, 6, .inl (fun _ => 0))), (q_20, .inl (D.1 14, 6, .inl (fun _ => 0)))] := hD
  refine lv_dup hx hb dX12_init_96 rfl ?_
  refine lv_iconst (v := 0) hx hb dX12_init_97 (by decide) ?_
  refine lv_bipush (v := 118) hx hb dX12_init_98 (by decide) ?_
  refine va_cast hx hb hK hP hD hS 3 1 rfl rfl (z_in (by decide) (by decide)) dX12_init_100 (fun H locs hP hD hS => ?_)
  generalize hf_21 : upd _ _ _ = f_21 at hP hD
  have hP : va_P D vwCl [(h0, .inr (12, fs)), (q_1, .inl (D.1 13, 1600, .inl (fun _ => 0))), (q_4, .inl (D.1 13, 6, .inl (fun _ => 0))), (q_20, .inl (D.1 14, 6, .inl f_21))] H := hP
  have hD : va_D A [(h0, .inr (12, fs)), (q_1, .inl (D.1 13, 1600, .inl (fun _ => 0))), (q_4, .inl (D.1 13, 6, .inl (fun _ => 0))), (q_20, .inl (D.1 14, 6, .inl f_21))] := hD
  refine lv_dup hx hb dX12_init_101 rfl ?_
  refine lv_iconst (v := 1) hx hb dX12_init_102 (by decide) ?_
  refine lv_bipush (v := 111) hx hb dX12_init_103 (by decide) ?_
  refine va_cast hx hb hK hP hD hS 3 1 rfl rfl (z_in (by decide) (by decide)) dX12_init_105 (fun H locs hP hD hS => ?_)
  generalize hf_22 : upd _ _ _ = f_22 at hP hD
  have hP : va_P D vwCl [(h0, .inr (12, fs)), (q_1, .inl (D.1 13, 1600, .inl (fun _ => 0))), (q_4, .inl (D.1 13, 6, .inl (fun _ => 0))), (q_20, .inl (D.1 14, 6, .inl f_22))] H := hP
  have hD : va_D A [(h0, .inr (12, fs)), (q_1, .inl (D.1 13, 1600, .inl (fun _ => 0))), (q_4, .inl (D.1 13, 6, .inl (fun _ => 0))), (q_20, .inl (D.1 14, 6, .inl f_22))] := hD
  refine lv_dup hx hb dX12_init_106 rfl ?_
  refine lv_iconst (v := 2) hx hb dX12_init_107 (by decide) ?_
  refine lv_bipush (v := 108) hx hb dX12_init_108 (by decide) ?_
  refine va_cast hx hb hK hP hD hS 3 1 rfl rfl (z_in (by decide) (by decide)) dX12_init_110 (fun H locs hP hD hS => ?_)
  generalize hf_23 : upd _ _ _ = f_23 at hP hD
  have hP : va_P D vwCl [(h0, .inr (12, fs)), (q_1, .inl (D.1 13, 1600, .inl (fun _ => 0))), (q_4, .inl (D.1 13, 6, .inl (fun _ => 0))), (q_20, .inl (D.1 14, 6, .inl f_23))] H := hP
  have hD : va_D A [(h0, .inr (12, fs)), (q_1, .inl (D.1 13, 1600, .inl (fun _ => 0))), (q_4, .inl (D.1 13, 6, .inl (fun _ => 0))), (q_20, .inl (D.1 14, 6, .inl f_23))] := hD
  refine lv_dup hx hb dX12_init_111 rfl ?_
  refine lv_iconst (v := 3) hx hb dX12_init_112 (by decide) ?_
  refine lv_bipush (v := 117) hx hb dX12_init_113 (by decide) ?_
  refine va_cast hx hb hK hP hD hS 3 1 rfl rfl (z_in (by decide) (by decide)) dX12_init_115 (fun H locs hP hD hS => ?_)
  generalize hf_24 : upd _ _ _ = f_24 at hP hD
  have hP : va_P D vwCl [(h0, .inr (12, fs)), (q_1, .inl (D.1 13, 1600, .inl (fun _ => 0))), (q_4, .inl (D.1 13, 6, .inl (fun _ => 0))), (q_20, .inl (D.1 14, 6, .inl f_24))] H := hP
  have hD : va_D A [(h0, .inr (12, fs)), (q_1, .inl (D.1 13, 1600, .inl (fun _ => 0))), (q_4, .inl (D.1 13, 6, .inl (fun _ => 0))), (q_20, .inl (D.1 14, 6, .inl f_24))] := hD
  refine lv_dup hx hb dX12_init_116 rfl ?_
  refine lv_iconst (v := 4) hx hb dX12_init_117 (by decide) ?_
  refine lv_bipush (v := 109) hx hb dX12_init_118 (by decide) ?_
  refine va_cast hx hb hK hP hD hS 3 1 rfl rfl (z_in (by decide) (by decide)) dX12_init_120 (fun H locs hP hD hS => ?_)
  generalize hf_25 : upd _ _ _ = f_25 at hP hD
  have hP : va_P D vwCl [(h0, .inr (12, fs)), (q_1, .inl (D.1 13, 1600, .inl (fun _ => 0))), (q_4, .inl (D.1 13, 6, .inl (fun _ => 0))), (q_20, .inl (D.1 14, 6, .inl f_25))] H := hP
  have hD : va_D A [(h0, .inr (12, fs)), (q_1, .inl (D.1 13, 1600, .inl (fun _ => 0))), (q_4, .inl (D.1 13, 6, .inl (fun _ => 0))), (q_20, .inl (D.1 14, 6, .inl f_25))] := hD
  refine lv_dup hx hb dX12_init_121 rfl ?_
  refine lv_iconst (v := 5) hx hb dX12_init_122 (by decide) ?_
  refine lv_bipush (v := 101) hx hb dX12_init_123 (by decide) ?_
  refine va_cast hx hb hK hP hD hS 3 1 rfl rfl (z_in (by decide) (by decide)) dX12_init_125 (fun H locs hP hD hS => ?_)
  generalize hf_26 : upd _ _ _ = f_26 at hP hD
  have hP : va_P D vwCl [(h0, .inr (12, fs)), (q_1, .inl (D.1 13, 1600, .inl (fun _ => 0))), (q_4, .inl (D.1 13, 6, .inl (fun _ => 0))), (q_20, .inl (D.1 14, 6, .inl f_26))] H := hP
  have hD : va_D A [(h0, .inr (12, fs)), (q_1, .inl (D.1 13, 1600, .inl (fun _ => 0))), (q_4, .inl (D.1 13, 6, .inl (fun _ => 0))), (q_20, .inl (D.1 14, 6, .inl f_26))] := hD
  refine va_putF (D := D) (ci := 12) (v := .ref q_20) (ty := .array .char) (C := RX12) (T := TX12) (N := 116) hx hb ht inX12 tyX12 tyX12_ok nmX12 hown hK hP hD hS 0 rfl rfl 13 (by decide) (ht (.fieldLink RX12 27 "CloneVolumesModel" "volumeWord" "[C") fl_X12_27) (fun _ h9 => h9) rfl hin rfl (by decide +kernel) rfl rfl (by rw [hlen]; decide) dX12_init_126 (fun H locs hP hD hS => ?_)
  have hP : va_P D vwCl [(h0, .inr (12, (fs.set 13 (.ref q_20)))), (q_1, .inl (D.1 13, 1600, .inl (fun _ => 0))), (q_4, .inl (D.1 13, 6, .inl (fun _ => 0))), (q_20, .inl (D.1 14, 6, .inl f_26))] H := hP
  have hD : va_D A [(h0, .inr (12, (fs.set 13 (.ref q_20)))), (q_1, .inl (D.1 13, 1600, .inl (fun _ => 0))), (q_4, .inl (D.1 13, 6, .inl (fun _ => 0))), (q_20, .inl (D.1 14, 6, .inl f_26))] := hD
  generalize hfs_27 : fs.set 13 (.ref q_20) = fs_27 at hP hD
  have hlen : fs_27.length = 116 := by rw [← hfs_27, List.length_set]; exact hlen
  have hP : va_P D vwCl [(h0, .inr (12, fs_27)), (q_1, .inl (D.1 13, 1600, .inl (fun _ => 0))), (q_4, .inl (D.1 13, 6, .inl (fun _ => 0))), (q_20, .inl (D.1 14, 6, .inl f_26))] H := hP
  have hD : va_D A [(h0, .inr (12, fs_27)), (q_1, .inl (D.1 13, 1600, .inl (fun _ => 0))), (q_4, .inl (D.1 13, 6, .inl (fun _ => 0))), (q_20, .inl (D.1 14, 6, .inl f_26))] := hD
  have hP := hP.sub (ws' := [(h0, .inr (12, fs_27)), (q_1, .inl (D.1 13, 1600, .inl (fun _ => 0))), (q_4, .inl (D.1 13, 6, .inl (fun _ => 0)))]) [0, 1, 2] rfl
  have hD := hD.sub (ws' := [(h0, .inr (12, fs_27)), (q_1, .inl (D.1 13, 1600, .inl (fun _ => 0))), (q_4, .inl (D.1 13, 6, .inl (fun _ => 0)))]) [0, 1, 2] (by decide) rfl
  refine lv_aload_n hx hb dX12_init_129 rfl (lv_at hl 0 rfl) ?_
  refine lv_iconst (v := 5) hx hb dX12_init_130 (by decide) ?_
  refine va_newa (atype := .char) (a0 := (5, .inl (fun _ => 0))) (ty := .char) (N' := 5) hx hb (ht _ ac_char) rfl hK hP hD hS hA (fun _ => rfl) (by decide) (by decide) (by decide) (Nat.le_trans (Nat.le_of_ble_eq_true rfl) hRc) (Nat.le_trans (Nat.le_of_ble_eq_true rfl) hRs) dX12_init_131 (fun q_28 cA H hK2 hP hD hS => ?_)
  obtain rfl := z_cls_char hK hK2
  refine W.widen (k := 6) (n := 1627) (Nat.le_of_ble_eq_true rfl) (Nat.le_of_ble_eq_true rfl) ?_
  have hP : va_P D vwCl [(h0, .inr (12, fs_27)), (q_1, .inl (D.1 13, 1600, .inl (fun _ => 0))), (q_4, .inl (D.1 13, 6, .inl (fun _ => 0))), (q_28, .inl (D.1 14, 5, .inl (fun _ => 0)))] H := hP
  have hD : va_D A [(h0, .inr (12, fs_27)), (q_1, .inl (D.1 13, 1600, .inl (fun _ => 0))), (q_4, .inl (D.1 13, 6, .inl (fun _ => 0))), (q_28, .inl (D.1 14, 5, .inl (fun _ => 0)))] := hD
  refine lv_dup hx hb dX12_init_133 rfl ?_
  refine lv_iconst (v := 0) hx hb dX12_init_134 (by decide) ?_
  refine lv_bipush (v := 99) hx hb dX12_init_135 (by decide) ?_
  refine va_cast hx hb hK hP hD hS 3 1 rfl rfl (z_in (by decide) (by decide)) dX12_init_137 (fun H locs hP hD hS => ?_)
  generalize hf_29 : upd _ _ _ = f_29 at hP hD
  have hP : va_P D vwCl [(h0, .inr (12, fs_27)), (q_1, .inl (D.1 13, 1600, .inl (fun _ => 0))), (q_4, .inl (D.1 13, 6, .inl (fun _ => 0))), (q_28, .inl (D.1 14, 5, .inl f_29))] H := hP
  have hD : va_D A [(h0, .inr (12, fs_27)), (q_1, .inl (D.1 13, 1600, .inl (fun _ => 0))), (q_4, .inl (D.1 13, 6, .inl (fun _ => 0))), (q_28, .inl (D.1 14, 5, .inl f_29))] := hD
  refine lv_dup hx hb dX12_init_138 rfl ?_
  refine lv_iconst (v := 1) hx hb dX12_init_139 (by decide) ?_
  refine lv_bipush (v := 108) hx hb dX12_init_140 (by decide) ?_
  refine va_cast hx hb hK hP hD hS 3 1 rfl rfl (z_in (by decide) (by decide)) dX12_init_142 (fun H locs hP hD hS => ?_)
  generalize hf_30 : upd _ _ _ = f_30 at hP hD
  have hP : va_P D vwCl [(h0, .inr (12, fs_27)), (q_1, .inl (D.1 13, 1600, .inl (fun _ => 0))), (q_4, .inl (D.1 13, 6, .inl (fun _ => 0))), (q_28, .inl (D.1 14, 5, .inl f_30))] H := hP
  have hD : va_D A [(h0, .inr (12, fs_27)), (q_1, .inl (D.1 13, 1600, .inl (fun _ => 0))), (q_4, .inl (D.1 13, 6, .inl (fun _ => 0))), (q_28, .inl (D.1 14, 5, .inl f_30))] := hD
  refine lv_dup hx hb dX12_init_143 rfl ?_
  refine lv_iconst (v := 2) hx hb dX12_init_144 (by decide) ?_
  refine lv_bipush (v := 111) hx hb dX12_init_145 (by decide) ?_
  refine va_cast hx hb hK hP hD hS 3 1 rfl rfl (z_in (by decide) (by decide)) dX12_init_147 (fun H locs hP hD hS => ?_)
  generalize hf_31 : upd _ _ _ = f_31 at hP hD
  have hP : va_P D vwCl [(h0, .inr (12, fs_27)), (q_1, .inl (D.1 13, 1600, .inl (fun _ => 0))), (q_4, .inl (D.1 13, 6, .inl (fun _ => 0))), (q_28, .inl (D.1 14, 5, .inl f_31))] H := hP
  have hD : va_D A [(h0, .inr (12, fs_27)), (q_1, .inl (D.1 13, 1600, .inl (fun _ => 0))), (q_4, .inl (D.1 13, 6, .inl (fun _ => 0))), (q_28, .inl (D.1 14, 5, .inl f_31))] := hD
  refine lv_dup hx hb dX12_init_148 rfl ?_
  refine lv_iconst (v := 3) hx hb dX12_init_149 (by decide) ?_
  refine lv_bipush (v := 110) hx hb dX12_init_150 (by decide) ?_
  refine va_cast hx hb hK hP hD hS 3 1 rfl rfl (z_in (by decide) (by decide)) dX12_init_152 (fun H locs hP hD hS => ?_)
  generalize hf_32 : upd _ _ _ = f_32 at hP hD
  have hP : va_P D vwCl [(h0, .inr (12, fs_27)), (q_1, .inl (D.1 13, 1600, .inl (fun _ => 0))), (q_4, .inl (D.1 13, 6, .inl (fun _ => 0))), (q_28, .inl (D.1 14, 5, .inl f_32))] H := hP
  have hD : va_D A [(h0, .inr (12, fs_27)), (q_1, .inl (D.1 13, 1600, .inl (fun _ => 0))), (q_4, .inl (D.1 13, 6, .inl (fun _ => 0))), (q_28, .inl (D.1 14, 5, .inl f_32))] := hD
  refine lv_dup hx hb dX12_init_153 rfl ?_
  refine lv_iconst (v := 4) hx hb dX12_init_154 (by decide) ?_
  refine lv_bipush (v := 101) hx hb dX12_init_155 (by decide) ?_
  refine va_cast hx hb hK hP hD hS 3 1 rfl rfl (z_in (by decide) (by decide)) dX12_init_157 (fun H locs hP hD hS => ?_)
  generalize hf_33 : upd _ _ _ = f_33 at hP hD
  have hP : va_P D vwCl [(h0, .inr (12, fs_27)), (q_1, .inl (D.1 13, 1600, .inl (fun _ => 0))), (q_4, .inl (D.1 13, 6, .inl (fun _ => 0))), (q_28, .inl (D.1 14, 5, .inl f_33))] H := hP
  have hD : va_D A [(h0, .inr (12, fs_27)), (q_1, .inl (D.1 13, 1600, .inl (fun _ => 0))), (q_4, .inl (D.1 13, 6, .inl (fun _ => 0))), (q_28, .inl (D.1 14, 5, .inl f_33))] := hD
  refine va_putF (D := D) (ci := 12) (v := .ref q_28) (ty := .array .char) (C := RX12) (T := TX12) (N := 116) hx hb ht inX12 tyX12 tyX12_ok nmX12 hown hK hP hD hS 0 rfl rfl 14 (by decide) (ht (.fieldLink RX12 30 "CloneVolumesModel" "cloneWord" "[C") fl_X12_30) (fun _ h9 => h9) rfl hin rfl (by decide +kernel) rfl rfl (by rw [hlen]; decide) dX12_init_158 (fun H locs hP hD hS => ?_)
  have hP : va_P D vwCl [(h0, .inr (12, (fs_27.set 14 (.ref q_28)))), (q_1, .inl (D.1 13, 1600, .inl (fun _ => 0))), (q_4, .inl (D.1 13, 6, .inl (fun _ => 0))), (q_28, .inl (D.1 14, 5, .inl f_33))] H := hP
  have hD : va_D A [(h0, .inr (12, (fs_27.set 14 (.ref q_28)))), (q_1, .inl (D.1 13, 1600, .inl (fun _ => 0))), (q_4, .inl (D.1 13, 6, .inl (fun _ => 0))), (q_28, .inl (D.1 14, 5, .inl f_33))] := hD
  generalize hfs_34 : fs_27.set 14 (.ref q_28) = fs_34 at hP hD
  have hlen : fs_34.length = 116 := by rw [← hfs_34, List.length_set]; exact hlen
  have hP : va_P D vwCl [(h0, .inr (12, fs_34)), (q_1, .inl (D.1 13, 1600, .inl (fun _ => 0))), (q_4, .inl (D.1 13, 6, .inl (fun _ => 0))), (q_28, .inl (D.1 14, 5, .inl f_33))] H := hP
  have hD : va_D A [(h0, .inr (12, fs_34)), (q_1, .inl (D.1 13, 1600, .inl (fun _ => 0))), (q_4, .inl (D.1 13, 6, .inl (fun _ => 0))), (q_28, .inl (D.1 14, 5, .inl f_33))] := hD
  have hP := hP.sub (ws' := [(h0, .inr (12, fs_34)), (q_1, .inl (D.1 13, 1600, .inl (fun _ => 0))), (q_4, .inl (D.1 13, 6, .inl (fun _ => 0)))]) [0, 1, 2] rfl
  have hD := hD.sub (ws' := [(h0, .inr (12, fs_34)), (q_1, .inl (D.1 13, 1600, .inl (fun _ => 0))), (q_4, .inl (D.1 13, 6, .inl (fun _ => 0)))]) [0, 1, 2] (by decide) rfl
  exact kk q_20 q_28 fs_34 _ _ (by rw [← hfs_34, ← hfs_27]) hP hD hS
set_option maxHeartbeats 4000000 in
set_option maxRecDepth 100000 in
theorem cM_3 {h0 : Nat} {q_1 : Nat} {q_4 : Nat} (hx : p.tables.exec = Jvm.exec) (hb : c.code = cX12_init) (ht : ∀ w ∈ lw_gd, w.before args s = true) (hown : s.vm.findClass RX12 = some m.cls) (hin : meth.name = "<init>") (hK : va_K D vwCl (TY D) s) (hA : ∀ q : Nat, s.heap.size ≤ q → A q) (hRc : 80 ≤ R.cells) (hRs : 35050 ≤ R.slots) (hl : lv_has ls 1 [(0, .ref h0)]) {fs : List Value} (hlen : fs.length = 116) {H : Heap} {locs : List Loc} (hP : va_P D vwCl [(h0, .inr (12, fs)), (q_1, .inl (D.1 13, 1600, .inl (fun _ => 0))), (q_4, .inl (D.1 13, 6, .inl (fun _ => 0)))] H) (hD : va_D A [(h0, .inr (12, fs)), (q_1, .inl (D.1 13, 1600, .inl (fun _ => 0))), (q_4, .inl (D.1 13, 6, .inl (fun _ => 0)))]) (hS : va_S A s.heap H locs)
    (kk : ∀ (q_35 : Nat) (q_39 : Nat) (q_44 : Nat) (fs' : List Value) (H : Heap) (locs : List Loc), fs' = (((fs.set 15 (.ref q_35)).set 16 (.ref q_39)).set 17 (.ref q_44)) → va_P D vwCl [(h0, .inr (12, fs')), (q_1, .inl (D.1 13, 1600, .inl (fun _ => 0))), (q_4, .inl (D.1 13, 6, .inl (fun _ => 0)))] H → va_D A [(h0, .inr (12, fs')), (q_1, .inl (D.1 13, 1600, .inl (fun _ => 0))), (q_4, .inl (D.1 13, 6, .inl (fun _ => 0)))] → va_S A s.heap H locs → W p l e R s m args below meth c H locs 9 1638 Q (F0 m 238 ls [])) : W p l e R s m args below meth c H locs 6 1627 Q (F0 m 161 ls []) := by
  refine lv_aload_n hx hb dX12_init_161 rfl (lv_at hl 0 rfl) ?_
  refine lv_iconst (v := 2) hx hb dX12_init_162 (by decide) ?_
  refine va_newa (atype := .char) (a0 := (2, .inl (fun _ => 0))) (ty := .char) (N' := 2) hx hb (ht _ ac_char) rfl hK hP hD hS hA (fun _ => rfl) (by decide) (by decide) (by decide) (Nat.le_trans (Nat.le_of_ble_eq_true rfl) hRc) (Nat.le_trans (Nat.le_of_ble_eq_true rfl) hRs) dX12_init_163 (fun q_35 cA H hK2 hP hD hS => ?_)
  obtain rfl := z_cls_char hK hK2
  refine W.widen (k := 7) (n := 1629) (Nat.le_of_ble_eq_true rfl) (Nat.le_of_ble_eq_true rfl) ?_
  have hP : va_P D vwCl [(h0, .inr (12, fs)), (q_1, .inl (D.1 13, 1600, .inl (fun _ => 0))), (q_4, .inl (D.1 13, 6, .inl (fun _ => 0))), (q_35, .inl (D.1 14, 2, .inl (fun _ => 0)))] H := hP
  have hD : va_D A [(h0, .inr (12, fs)), (q_1, .inl (D.1 13, 1600, .inl (fun _ => 0))), (q_4, .inl (D.1 13, 6, .inl (fun _ => 0))), (q_35, .inl (D.1 14, 2, .inl (fun _ => 0)))] := hD
  refine lv_dup hx hb dX12_init_165 rfl ?_
  refine lv_iconst (v := 0) hx hb dX12_init_166 (by decide) ?_
  refine lv_bipush (v := 111) hx hb dX12_init_167 (by decide) ?_
  refine va_cast hx hb hK hP hD hS 3 1 rfl rfl (z_in (by decide) (by decide)) dX12_init_169 (fun H locs hP hD hS => ?_)
  generalize hf_36 : upd _ _ _ = f_36 at hP hD
  have hP : va_P D vwCl [(h0, .inr (12, fs)), (q_1, .inl (D.1 13, 1600, .inl (fun _ => 0))), (q_4, .inl (D.1 13, 6, .inl (fun _ => 0))), (q_35, .inl (D.1 14, 2, .inl f_36))] H := hP
  have hD : va_D A [(h0, .inr (12, fs)), (q_1, .inl (D.1 13, 1600, .inl (fun _ => 0))), (q_4, .inl (D.1 13, 6, .inl (fun _ => 0))), (q_35, .inl (D.1 14, 2, .inl f_36))] := hD
  refine lv_dup hx hb dX12_init_170 rfl ?_
  refine lv_iconst (v := 1) hx hb dX12_init_171 (by decide) ?_
  refine lv_bipush (v := 102) hx hb dX12_init_172 (by decide) ?_
  refine va_cast hx hb hK hP hD hS 3 1 rfl rfl (z_in (by decide) (by decide)) dX12_init_174 (fun H locs hP hD hS => ?_)
  generalize hf_37 : upd _ _ _ = f_37 at hP hD
  have hP : va_P D vwCl [(h0, .inr (12, fs)), (q_1, .inl (D.1 13, 1600, .inl (fun _ => 0))), (q_4, .inl (D.1 13, 6, .inl (fun _ => 0))), (q_35, .inl (D.1 14, 2, .inl f_37))] H := hP
  have hD : va_D A [(h0, .inr (12, fs)), (q_1, .inl (D.1 13, 1600, .inl (fun _ => 0))), (q_4, .inl (D.1 13, 6, .inl (fun _ => 0))), (q_35, .inl (D.1 14, 2, .inl f_37))] := hD
  refine va_putF (D := D) (ci := 12) (v := .ref q_35) (ty := .array .char) (C := RX12) (T := TX12) (N := 116) hx hb ht inX12 tyX12 tyX12_ok nmX12 hown hK hP hD hS 0 rfl rfl 15 (by decide) (ht (.fieldLink RX12 33 "CloneVolumesModel" "ofWord" "[C") fl_X12_33) (fun _ h9 => h9) rfl hin rfl (by decide +kernel) rfl rfl (by rw [hlen]; decide) dX12_init_175 (fun H locs hP hD hS => ?_)
  have hP : va_P D vwCl [(h0, .inr (12, (fs.set 15 (.ref q_35)))), (q_1, .inl (D.1 13, 1600, .inl (fun _ => 0))), (q_4, .inl (D.1 13, 6, .inl (fun _ => 0))), (q_35, .inl (D.1 14, 2, .inl f_37))] H := hP
  have hD : va_D A [(h0, .inr (12, (fs.set 15 (.ref q_35)))), (q_1, .inl (D.1 13, 1600, .inl (fun _ => 0))), (q_4, .inl (D.1 13, 6, .inl (fun _ => 0))), (q_35, .inl (D.1 14, 2, .inl f_37))] := hD
  generalize hfs_38 : fs.set 15 (.ref q_35) = fs_38 at hP hD
  have hlen : fs_38.length = 116 := by rw [← hfs_38, List.length_set]; exact hlen
  have hP : va_P D vwCl [(h0, .inr (12, fs_38)), (q_1, .inl (D.1 13, 1600, .inl (fun _ => 0))), (q_4, .inl (D.1 13, 6, .inl (fun _ => 0))), (q_35, .inl (D.1 14, 2, .inl f_37))] H := hP
  have hD : va_D A [(h0, .inr (12, fs_38)), (q_1, .inl (D.1 13, 1600, .inl (fun _ => 0))), (q_4, .inl (D.1 13, 6, .inl (fun _ => 0))), (q_35, .inl (D.1 14, 2, .inl f_37))] := hD
  have hP := hP.sub (ws' := [(h0, .inr (12, fs_38)), (q_1, .inl (D.1 13, 1600, .inl (fun _ => 0))), (q_4, .inl (D.1 13, 6, .inl (fun _ => 0)))]) [0, 1, 2] rfl
  have hD := hD.sub (ws' := [(h0, .inr (12, fs_38)), (q_1, .inl (D.1 13, 1600, .inl (fun _ => 0))), (q_4, .inl (D.1 13, 6, .inl (fun _ => 0)))]) [0, 1, 2] (by decide) rfl
  refine lv_aload_n hx hb dX12_init_178 rfl (lv_at hl 0 rfl) ?_
  refine lv_iconst (v := 3) hx hb dX12_init_179 (by decide) ?_
  refine va_newa (atype := .char) (a0 := (3, .inl (fun _ => 0))) (ty := .char) (N' := 3) hx hb (ht _ ac_char) rfl hK hP hD hS hA (fun _ => rfl) (by decide) (by decide) (by decide) (Nat.le_trans (Nat.le_of_ble_eq_true rfl) hRc) (Nat.le_trans (Nat.le_of_ble_eq_true rfl) hRs) dX12_init_180 (fun q_39 cA H hK2 hP hD hS => ?_)
  obtain rfl := z_cls_char hK hK2
  refine W.widen (k := 8) (n := 1632) (Nat.le_of_ble_eq_true rfl) (Nat.le_of_ble_eq_true rfl) ?_
  have hP : va_P D vwCl [(h0, .inr (12, fs_38)), (q_1, .inl (D.1 13, 1600, .inl (fun _ => 0))), (q_4, .inl (D.1 13, 6, .inl (fun _ => 0))), (q_39, .inl (D.1 14, 3, .inl (fun _ => 0)))] H := hP
  have hD : va_D A [(h0, .inr (12, fs_38)), (q_1, .inl (D.1 13, 1600, .inl (fun _ => 0))), (q_4, .inl (D.1 13, 6, .inl (fun _ => 0))), (q_39, .inl (D.1 14, 3, .inl (fun _ => 0)))] := hD
  refine lv_dup hx hb dX12_init_182 rfl ?_
  refine lv_iconst (v := 0) hx hb dX12_init_183 (by decide) ?_
  refine lv_bipush (v := 112) hx hb dX12_init_184 (by decide) ?_
  refine va_cast hx hb hK hP hD hS 3 1 rfl rfl (z_in (by decide) (by decide)) dX12_init_186 (fun H locs hP hD hS => ?_)
  generalize hf_40 : upd _ _ _ = f_40 at hP hD
  have hP : va_P D vwCl [(h0, .inr (12, fs_38)), (q_1, .inl (D.1 13, 1600, .inl (fun _ => 0))), (q_4, .inl (D.1 13, 6, .inl (fun _ => 0))), (q_39, .inl (D.1 14, 3, .inl f_40))] H := hP
  have hD : va_D A [(h0, .inr (12, fs_38)), (q_1, .inl (D.1 13, 1600, .inl (fun _ => 0))), (q_4, .inl (D.1 13, 6, .inl (fun _ => 0))), (q_39, .inl (D.1 14, 3, .inl f_40))] := hD
  refine lv_dup hx hb dX12_init_187 rfl ?_
  refine lv_iconst (v := 1) hx hb dX12_init_188 (by decide) ?_
  refine lv_bipush (v := 117) hx hb dX12_init_189 (by decide) ?_
  refine va_cast hx hb hK hP hD hS 3 1 rfl rfl (z_in (by decide) (by decide)) dX12_init_191 (fun H locs hP hD hS => ?_)
  generalize hf_41 : upd _ _ _ = f_41 at hP hD
  have hP : va_P D vwCl [(h0, .inr (12, fs_38)), (q_1, .inl (D.1 13, 1600, .inl (fun _ => 0))), (q_4, .inl (D.1 13, 6, .inl (fun _ => 0))), (q_39, .inl (D.1 14, 3, .inl f_41))] H := hP
  have hD : va_D A [(h0, .inr (12, fs_38)), (q_1, .inl (D.1 13, 1600, .inl (fun _ => 0))), (q_4, .inl (D.1 13, 6, .inl (fun _ => 0))), (q_39, .inl (D.1 14, 3, .inl f_41))] := hD
  refine lv_dup hx hb dX12_init_192 rfl ?_
  refine lv_iconst (v := 2) hx hb dX12_init_193 (by decide) ?_
  refine lv_bipush (v := 116) hx hb dX12_init_194 (by decide) ?_
  refine va_cast hx hb hK hP hD hS 3 1 rfl rfl (z_in (by decide) (by decide)) dX12_init_196 (fun H locs hP hD hS => ?_)
  generalize hf_42 : upd _ _ _ = f_42 at hP hD
  have hP : va_P D vwCl [(h0, .inr (12, fs_38)), (q_1, .inl (D.1 13, 1600, .inl (fun _ => 0))), (q_4, .inl (D.1 13, 6, .inl (fun _ => 0))), (q_39, .inl (D.1 14, 3, .inl f_42))] H := hP
  have hD : va_D A [(h0, .inr (12, fs_38)), (q_1, .inl (D.1 13, 1600, .inl (fun _ => 0))), (q_4, .inl (D.1 13, 6, .inl (fun _ => 0))), (q_39, .inl (D.1 14, 3, .inl f_42))] := hD
  refine va_putF (D := D) (ci := 12) (v := .ref q_39) (ty := .array .char) (C := RX12) (T := TX12) (N := 116) hx hb ht inX12 tyX12 tyX12_ok nmX12 hown hK hP hD hS 0 rfl rfl 16 (by decide) (ht (.fieldLink RX12 36 "CloneVolumesModel" "putWord" "[C") fl_X12_36) (fun _ h9 => h9) rfl hin rfl (by decide +kernel) rfl rfl (by rw [hlen]; decide) dX12_init_197 (fun H locs hP hD hS => ?_)
  have hP : va_P D vwCl [(h0, .inr (12, (fs_38.set 16 (.ref q_39)))), (q_1, .inl (D.1 13, 1600, .inl (fun _ => 0))), (q_4, .inl (D.1 13, 6, .inl (fun _ => 0))), (q_39, .inl (D.1 14, 3, .inl f_42))] H := hP
  have hD : va_D A [(h0, .inr (12, (fs_38.set 16 (.ref q_39)))), (q_1, .inl (D.1 13, 1600, .inl (fun _ => 0))), (q_4, .inl (D.1 13, 6, .inl (fun _ => 0))), (q_39, .inl (D.1 14, 3, .inl f_42))] := hD
  generalize hfs_43 : fs_38.set 16 (.ref q_39) = fs_43 at hP hD
  have hlen : fs_43.length = 116 := by rw [← hfs_43, List.length_set]; exact hlen
  have hP : va_P D vwCl [(h0, .inr (12, fs_43)), (q_1, .inl (D.1 13, 1600, .inl (fun _ => 0))), (q_4, .inl (D.1 13, 6, .inl (fun _ => 0))), (q_39, .inl (D.1 14, 3, .inl f_42))] H := hP
  have hD : va_D A [(h0, .inr (12, fs_43)), (q_1, .inl (D.1 13, 1600, .inl (fun _ => 0))), (q_4, .inl (D.1 13, 6, .inl (fun _ => 0))), (q_39, .inl (D.1 14, 3, .inl f_42))] := hD
  have hP := hP.sub (ws' := [(h0, .inr (12, fs_43)), (q_1, .inl (D.1 13, 1600, .inl (fun _ => 0))), (q_4, .inl (D.1 13, 6, .inl (fun _ => 0)))]) [0, 1, 2] rfl
  have hD := hD.sub (ws' := [(h0, .inr (12, fs_43)), (q_1, .inl (D.1 13, 1600, .inl (fun _ => 0))), (q_4, .inl (D.1 13, 6, .inl (fun _ => 0)))]) [0, 1, 2] (by decide) rfl
  refine lv_aload_n hx hb dX12_init_200 rfl (lv_at hl 0 rfl) ?_
  refine lv_bipush (v := 6) hx hb dX12_init_201 (by decide) ?_
  refine va_newa (atype := .char) (a0 := (6, .inl (fun _ => 0))) (ty := .char) (N' := 6) hx hb (ht _ ac_char) rfl hK hP hD hS hA (fun _ => rfl) (by decide) (by decide) (by decide) (Nat.le_trans (Nat.le_of_ble_eq_true rfl) hRc) (Nat.le_trans (Nat.le_of_ble_eq_true rfl) hRs) dX12_init_203 (fun q_44 cA H hK2 hP hD hS => ?_)
  obtain rfl := z_cls_char hK hK2
  refine W.widen (k := 9) (n := 1638) (Nat.le_of_ble_eq_true rfl) (Nat.le_of_ble_eq_true rfl) ?_
  have hP : va_P D vwCl [(h0, .inr (12, fs_43)), (q_1, .inl (D.1 13, 1600, .inl (fun _ => 0))), (q_4, .inl (D.1 13, 6, .inl (fun _ => 0))), (q_44, .inl (D.1 14, 6, .inl (fun _ => 0)))] H := hP
  have hD : va_D A [(h0, .inr (12, fs_43)), (q_1, .inl (D.1 13, 1600, .inl (fun _ => 0))), (q_4, .inl (D.1 13, 6, .inl (fun _ => 0))), (q_44, .inl (D.1 14, 6, .inl (fun _ => 0)))] := hD
  refine lv_dup hx hb dX12_init_205 rfl ?_
  refine lv_iconst (v := 0) hx hb dX12_init_206 (by decide) ?_
  refine lv_bipush (v := 114) hx hb dX12_init_207 (by decide) ?_
  refine va_cast hx hb hK hP hD hS 3 1 rfl rfl (z_in (by decide) (by decide)) dX12_init_209 (fun H locs hP hD hS => ?_)
  generalize hf_45 : upd _ _ _ = f_45 at hP hD
  have hP : va_P D vwCl [(h0, .inr (12, fs_43)), (q_1, .inl (D.1 13, 1600, .inl (fun _ => 0))), (q_4, .inl (D.1 13, 6, .inl (fun _ => 0))), (q_44, .inl (D.1 14, 6, .inl f_45))] H := hP
  have hD : va_D A [(h0, .inr (12, fs_43)), (q_1, .inl (D.1 13, 1600, .inl (fun _ => 0))), (q_4, .inl (D.1 13, 6, .inl (fun _ => 0))), (q_44, .inl (D.1 14, 6, .inl f_45))] := hD
  refine lv_dup hx hb dX12_init_210 rfl ?_
  refine lv_iconst (v := 1) hx hb dX12_init_211 (by decide) ?_
  refine lv_bipush (v := 101) hx hb dX12_init_212 (by decide) ?_
  refine va_cast hx hb hK hP hD hS 3 1 rfl rfl (z_in (by decide) (by decide)) dX12_init_214 (fun H locs hP hD hS => ?_)
  generalize hf_46 : upd _ _ _ = f_46 at hP hD
  have hP : va_P D vwCl [(h0, .inr (12, fs_43)), (q_1, .inl (D.1 13, 1600, .inl (fun _ => 0))), (q_4, .inl (D.1 13, 6, .inl (fun _ => 0))), (q_44, .inl (D.1 14, 6, .inl f_46))] H := hP
  have hD : va_D A [(h0, .inr (12, fs_43)), (q_1, .inl (D.1 13, 1600, .inl (fun _ => 0))), (q_4, .inl (D.1 13, 6, .inl (fun _ => 0))), (q_44, .inl (D.1 14, 6, .inl f_46))] := hD
  refine lv_dup hx hb dX12_init_215 rfl ?_
  refine lv_iconst (v := 2) hx hb dX12_init_216 (by decide) ?_
  refine lv_bipush (v := 109) hx hb dX12_init_217 (by decide) ?_
  refine va_cast hx hb hK hP hD hS 3 1 rfl rfl (z_in (by decide) (by decide)) dX12_init_219 (fun H locs hP hD hS => ?_)
  generalize hf_47 : upd _ _ _ = f_47 at hP hD
  have hP : va_P D vwCl [(h0, .inr (12, fs_43)), (q_1, .inl (D.1 13, 1600, .inl (fun _ => 0))), (q_4, .inl (D.1 13, 6, .inl (fun _ => 0))), (q_44, .inl (D.1 14, 6, .inl f_47))] H := hP
  have hD : va_D A [(h0, .inr (12, fs_43)), (q_1, .inl (D.1 13, 1600, .inl (fun _ => 0))), (q_4, .inl (D.1 13, 6, .inl (fun _ => 0))), (q_44, .inl (D.1 14, 6, .inl f_47))] := hD
  refine lv_dup hx hb dX12_init_220 rfl ?_
  refine lv_iconst (v := 3) hx hb dX12_init_221 (by decide) ?_
  refine lv_bipush (v := 111) hx hb dX12_init_222 (by decide) ?_
  refine va_cast hx hb hK hP hD hS 3 1 rfl rfl (z_in (by decide) (by decide)) dX12_init_224 (fun H locs hP hD hS => ?_)
  generalize hf_48 : upd _ _ _ = f_48 at hP hD
  have hP : va_P D vwCl [(h0, .inr (12, fs_43)), (q_1, .inl (D.1 13, 1600, .inl (fun _ => 0))), (q_4, .inl (D.1 13, 6, .inl (fun _ => 0))), (q_44, .inl (D.1 14, 6, .inl f_48))] H := hP
  have hD : va_D A [(h0, .inr (12, fs_43)), (q_1, .inl (D.1 13, 1600, .inl (fun _ => 0))), (q_4, .inl (D.1 13, 6, .inl (fun _ => 0))), (q_44, .inl (D.1 14, 6, .inl f_48))] := hD
  refine lv_dup hx hb dX12_init_225 rfl ?_
  refine lv_iconst (v := 4) hx hb dX12_init_226 (by decide) ?_
  refine lv_bipush (v := 118) hx hb dX12_init_227 (by decide) ?_
  refine va_cast hx hb hK hP hD hS 3 1 rfl rfl (z_in (by decide) (by decide)) dX12_init_229 (fun H locs hP hD hS => ?_)
  generalize hf_49 : upd _ _ _ = f_49 at hP hD
  have hP : va_P D vwCl [(h0, .inr (12, fs_43)), (q_1, .inl (D.1 13, 1600, .inl (fun _ => 0))), (q_4, .inl (D.1 13, 6, .inl (fun _ => 0))), (q_44, .inl (D.1 14, 6, .inl f_49))] H := hP
  have hD : va_D A [(h0, .inr (12, fs_43)), (q_1, .inl (D.1 13, 1600, .inl (fun _ => 0))), (q_4, .inl (D.1 13, 6, .inl (fun _ => 0))), (q_44, .inl (D.1 14, 6, .inl f_49))] := hD
  refine lv_dup hx hb dX12_init_230 rfl ?_
  refine lv_iconst (v := 5) hx hb dX12_init_231 (by decide) ?_
  refine lv_bipush (v := 101) hx hb dX12_init_232 (by decide) ?_
  refine va_cast hx hb hK hP hD hS 3 1 rfl rfl (z_in (by decide) (by decide)) dX12_init_234 (fun H locs hP hD hS => ?_)
  generalize hf_50 : upd _ _ _ = f_50 at hP hD
  have hP : va_P D vwCl [(h0, .inr (12, fs_43)), (q_1, .inl (D.1 13, 1600, .inl (fun _ => 0))), (q_4, .inl (D.1 13, 6, .inl (fun _ => 0))), (q_44, .inl (D.1 14, 6, .inl f_50))] H := hP
  have hD : va_D A [(h0, .inr (12, fs_43)), (q_1, .inl (D.1 13, 1600, .inl (fun _ => 0))), (q_4, .inl (D.1 13, 6, .inl (fun _ => 0))), (q_44, .inl (D.1 14, 6, .inl f_50))] := hD
  refine va_putF (D := D) (ci := 12) (v := .ref q_44) (ty := .array .char) (C := RX12) (T := TX12) (N := 116) hx hb ht inX12 tyX12 tyX12_ok nmX12 hown hK hP hD hS 0 rfl rfl 17 (by decide) (ht (.fieldLink RX12 39 "CloneVolumesModel" "removeWord" "[C") fl_X12_39) (fun _ h9 => h9) rfl hin rfl (by decide +kernel) rfl rfl (by rw [hlen]; decide) dX12_init_235 (fun H locs hP hD hS => ?_)
  have hP : va_P D vwCl [(h0, .inr (12, (fs_43.set 17 (.ref q_44)))), (q_1, .inl (D.1 13, 1600, .inl (fun _ => 0))), (q_4, .inl (D.1 13, 6, .inl (fun _ => 0))), (q_44, .inl (D.1 14, 6, .inl f_50))] H := hP
  have hD : va_D A [(h0, .inr (12, (fs_43.set 17 (.ref q_44)))), (q_1, .inl (D.1 13, 1600, .inl (fun _ => 0))), (q_4, .inl (D.1 13, 6, .inl (fun _ => 0))), (q_44, .inl (D.1 14, 6, .inl f_50))] := hD
  generalize hfs_51 : fs_43.set 17 (.ref q_44) = fs_51 at hP hD
  have hlen : fs_51.length = 116 := by rw [← hfs_51, List.length_set]; exact hlen
  have hP : va_P D vwCl [(h0, .inr (12, fs_51)), (q_1, .inl (D.1 13, 1600, .inl (fun _ => 0))), (q_4, .inl (D.1 13, 6, .inl (fun _ => 0))), (q_44, .inl (D.1 14, 6, .inl f_50))] H := hP
  have hD : va_D A [(h0, .inr (12, fs_51)), (q_1, .inl (D.1 13, 1600, .inl (fun _ => 0))), (q_4, .inl (D.1 13, 6, .inl (fun _ => 0))), (q_44, .inl (D.1 14, 6, .inl f_50))] := hD
  have hP := hP.sub (ws' := [(h0, .inr (12, fs_51)), (q_1, .inl (D.1 13, 1600, .inl (fun _ => 0))), (q_4, .inl (D.1 13, 6, .inl (fun _ => 0)))]) [0, 1, 2] rfl
  have hD := hD.sub (ws' := [(h0, .inr (12, fs_51)), (q_1, .inl (D.1 13, 1600, .inl (fun _ => 0))), (q_4, .inl (D.1 13, 6, .inl (fun _ => 0)))]) [0, 1, 2] (by decide) rfl
  exact kk q_35 q_39 q_44 fs_51 _ _ (by rw [← hfs_51, ← hfs_43, ← hfs_38]) hP hD hS
set_option maxHeartbeats 4000000 in
set_option maxRecDepth 100000 in
theorem cM_4 {h0 : Nat} {q_1 : Nat} {q_4 : Nat} (hx : p.tables.exec = Jvm.exec) (hb : c.code = cX12_init) (ht : ∀ w ∈ lw_gd, w.before args s = true) (hown : s.vm.findClass RX12 = some m.cls) (hin : meth.name = "<init>") (hK : va_K D vwCl (TY D) s) (hA : ∀ q : Nat, s.heap.size ≤ q → A q) (hRc : 80 ≤ R.cells) (hRs : 35050 ≤ R.slots) (hl : lv_has ls 1 [(0, .ref h0)]) {fs : List Value} (hlen : fs.length = 116) {H : Heap} {locs : List Loc} (hP : va_P D vwCl [(h0, .inr (12, fs)), (q_1, .inl (D.1 13, 1600, .inl (fun _ => 0))), (q_4, .inl (D.1 13, 6, .inl (fun _ => 0)))] H) (hD : va_D A [(h0, .inr (12, fs)), (q_1, .inl (D.1 13, 1600, .inl (fun _ => 0))), (q_4, .inl (D.1 13, 6, .inl (fun _ => 0)))]) (hS : va_S A s.heap H locs)
    (kk : ∀ (q_52 : Nat) (q_59 : Nat) (fs' : List Value) (H : Heap) (locs : List Loc), fs' = ((fs.set 18 (.ref q_52)).set 19 (.ref q_59)) → va_P D vwCl [(h0, .inr (12, fs')), (q_1, .inl (D.1 13, 1600, .inl (fun _ => 0))), (q_4, .inl (D.1 13, 6, .inl (fun _ => 0)))] H → va_D A [(h0, .inr (12, fs')), (q_1, .inl (D.1 13, 1600, .inl (fun _ => 0))), (q_4, .inl (D.1 13, 6, .inl (fun _ => 0)))] → va_S A s.heap H locs → W p l e R s m args below meth c H locs 11 1649 Q (F0 m 308 ls [])) : W p l e R s m args below meth c H locs 9 1638 Q (F0 m 238 ls []) := by
  refine lv_aload_n hx hb dX12_init_238 rfl (lv_at hl 0 rfl) ?_
  refine lv_iconst (v := 5) hx hb dX12_init_239 (by decide) ?_
  refine va_newa (atype := .char) (a0 := (5, .inl (fun _ => 0))) (ty := .char) (N' := 5) hx hb (ht _ ac_char) rfl hK hP hD hS hA (fun _ => rfl) (by decide) (by decide) (by decide) (Nat.le_trans (Nat.le_of_ble_eq_true rfl) hRc) (Nat.le_trans (Nat.le_of_ble_eq_true rfl) hRs) dX12_init_240 (fun q_52 cA H hK2 hP hD hS => ?_)
  obtain rfl := z_cls_char hK hK2
  refine W.widen (k := 10) (n := 1643) (Nat.le_of_ble_eq_true rfl) (Nat.le_of_ble_eq_true rfl) ?_
  have hP : va_P D vwCl [(h0, .inr (12, fs)), (q_1, .inl (D.1 13, 1600, .inl (fun _ => 0))), (q_4, .inl (D.1 13, 6, .inl (fun _ => 0))), (q_52, .inl (D.1 14, 5, .inl (fun _ => 0)))] H := hP
  have hD : va_D A [(h0, .inr (12, fs)), (q_1, .inl (D.1 13, 1600, .inl (fun _ => 0))), (q_4, .inl (D.1 13, 6, .inl (fun _ => 0))), (q_52, .inl (D.1 14, 5, .inl (fun _ => 0)))] := hD
  refine lv_dup hx hb dX12_init_242 rfl ?_
  refine lv_iconst (v := 0) hx hb dX12_init_243 (by decide) ?_
  refine lv_bipush (v := 112) hx hb dX12_init_244 (by decide) ?_
  refine va_cast hx hb hK hP hD hS 3 1 rfl rfl (z_in (by decide) (by decide)) dX12_init_246 (fun H locs hP hD hS => ?_)
  generalize hf_53 : upd _ _ _ = f_53 at hP hD
  have hP : va_P D vwCl [(h0, .inr (12, fs)), (q_1, .inl (D.1 13, 1600, .inl (fun _ => 0))), (q_4, .inl (D.1 13, 6, .inl (fun _ => 0))), (q_52, .inl (D.1 14, 5, .inl f_53))] H := hP
  have hD : va_D A [(h0, .inr (12, fs)), (q_1, .inl (D.1 13, 1600, .inl (fun _ => 0))), (q_4, .inl (D.1 13, 6, .inl (fun _ => 0))), (q_52, .inl (D.1 14, 5, .inl f_53))] := hD
  refine lv_dup hx hb dX12_init_247 rfl ?_
  refine lv_iconst (v := 1) hx hb dX12_init_248 (by decide) ?_
  refine lv_bipush (v := 105) hx hb dX12_init_249 (by decide) ?_
  refine va_cast hx hb hK hP hD hS 3 1 rfl rfl (z_in (by decide) (by decide)) dX12_init_251 (fun H locs hP hD hS => ?_)
  generalize hf_54 : upd _ _ _ = f_54 at hP hD
  have hP : va_P D vwCl [(h0, .inr (12, fs)), (q_1, .inl (D.1 13, 1600, .inl (fun _ => 0))), (q_4, .inl (D.1 13, 6, .inl (fun _ => 0))), (q_52, .inl (D.1 14, 5, .inl f_54))] H := hP
  have hD : va_D A [(h0, .inr (12, fs)), (q_1, .inl (D.1 13, 1600, .inl (fun _ => 0))), (q_4, .inl (D.1 13, 6, .inl (fun _ => 0))), (q_52, .inl (D.1 14, 5, .inl f_54))] := hD
  refine lv_dup hx hb dX12_init_252 rfl ?_
  refine lv_iconst (v := 2) hx hb dX12_init_253 (by decide) ?_
  refine lv_bipush (v := 99) hx hb dX12_init_254 (by decide) ?_
  refine va_cast hx hb hK hP hD hS 3 1 rfl rfl (z_in (by decide) (by decide)) dX12_init_256 (fun H locs hP hD hS => ?_)
  generalize hf_55 : upd _ _ _ = f_55 at hP hD
  have hP : va_P D vwCl [(h0, .inr (12, fs)), (q_1, .inl (D.1 13, 1600, .inl (fun _ => 0))), (q_4, .inl (D.1 13, 6, .inl (fun _ => 0))), (q_52, .inl (D.1 14, 5, .inl f_55))] H := hP
  have hD : va_D A [(h0, .inr (12, fs)), (q_1, .inl (D.1 13, 1600, .inl (fun _ => 0))), (q_4, .inl (D.1 13, 6, .inl (fun _ => 0))), (q_52, .inl (D.1 14, 5, .inl f_55))] := hD
  refine lv_dup hx hb dX12_init_257 rfl ?_
  refine lv_iconst (v := 3) hx hb dX12_init_258 (by decide) ?_
  refine lv_bipush (v := 107) hx hb dX12_init_259 (by decide) ?_
  refine va_cast hx hb hK hP hD hS 3 1 rfl rfl (z_in (by decide) (by decide)) dX12_init_261 (fun H locs hP hD hS => ?_)
  generalize hf_56 : upd _ _ _ = f_56 at hP hD
  have hP : va_P D vwCl [(h0, .inr (12, fs)), (q_1, .inl (D.1 13, 1600, .inl (fun _ => 0))), (q_4, .inl (D.1 13, 6, .inl (fun _ => 0))), (q_52, .inl (D.1 14, 5, .inl f_56))] H := hP
  have hD : va_D A [(h0, .inr (12, fs)), (q_1, .inl (D.1 13, 1600, .inl (fun _ => 0))), (q_4, .inl (D.1 13, 6, .inl (fun _ => 0))), (q_52, .inl (D.1 14, 5, .inl f_56))] := hD
  refine lv_dup hx hb dX12_init_262 rfl ?_
  refine lv_iconst (v := 4) hx hb dX12_init_263 (by decide) ?_
  refine lv_bipush (v := 115) hx hb dX12_init_264 (by decide) ?_
  refine va_cast hx hb hK hP hD hS 3 1 rfl rfl (z_in (by decide) (by decide)) dX12_init_266 (fun H locs hP hD hS => ?_)
  generalize hf_57 : upd _ _ _ = f_57 at hP hD
  have hP : va_P D vwCl [(h0, .inr (12, fs)), (q_1, .inl (D.1 13, 1600, .inl (fun _ => 0))), (q_4, .inl (D.1 13, 6, .inl (fun _ => 0))), (q_52, .inl (D.1 14, 5, .inl f_57))] H := hP
  have hD : va_D A [(h0, .inr (12, fs)), (q_1, .inl (D.1 13, 1600, .inl (fun _ => 0))), (q_4, .inl (D.1 13, 6, .inl (fun _ => 0))), (q_52, .inl (D.1 14, 5, .inl f_57))] := hD
  refine va_putF (D := D) (ci := 12) (v := .ref q_52) (ty := .array .char) (C := RX12) (T := TX12) (N := 116) hx hb ht inX12 tyX12 tyX12_ok nmX12 hown hK hP hD hS 0 rfl rfl 18 (by decide) (ht (.fieldLink RX12 42 "CloneVolumesModel" "picksWord" "[C") fl_X12_42) (fun _ h9 => h9) rfl hin rfl (by decide +kernel) rfl rfl (by rw [hlen]; decide) dX12_init_267 (fun H locs hP hD hS => ?_)
  have hP : va_P D vwCl [(h0, .inr (12, (fs.set 18 (.ref q_52)))), (q_1, .inl (D.1 13, 1600, .inl (fun _ => 0))), (q_4, .inl (D.1 13, 6, .inl (fun _ => 0))), (q_52, .inl (D.1 14, 5, .inl f_57))] H := hP
  have hD : va_D A [(h0, .inr (12, (fs.set 18 (.ref q_52)))), (q_1, .inl (D.1 13, 1600, .inl (fun _ => 0))), (q_4, .inl (D.1 13, 6, .inl (fun _ => 0))), (q_52, .inl (D.1 14, 5, .inl f_57))] := hD
  generalize hfs_58 : fs.set 18 (.ref q_52) = fs_58 at hP hD
  have hlen : fs_58.length = 116 := by rw [← hfs_58, List.length_set]; exact hlen
  have hP : va_P D vwCl [(h0, .inr (12, fs_58)), (q_1, .inl (D.1 13, 1600, .inl (fun _ => 0))), (q_4, .inl (D.1 13, 6, .inl (fun _ => 0))), (q_52, .inl (D.1 14, 5, .inl f_57))] H := hP
  have hD : va_D A [(h0, .inr (12, fs_58)), (q_1, .inl (D.1 13, 1600, .inl (fun _ => 0))), (q_4, .inl (D.1 13, 6, .inl (fun _ => 0))), (q_52, .inl (D.1 14, 5, .inl f_57))] := hD
  have hP := hP.sub (ws' := [(h0, .inr (12, fs_58)), (q_1, .inl (D.1 13, 1600, .inl (fun _ => 0))), (q_4, .inl (D.1 13, 6, .inl (fun _ => 0)))]) [0, 1, 2] rfl
  have hD := hD.sub (ws' := [(h0, .inr (12, fs_58)), (q_1, .inl (D.1 13, 1600, .inl (fun _ => 0))), (q_4, .inl (D.1 13, 6, .inl (fun _ => 0)))]) [0, 1, 2] (by decide) rfl
  refine lv_aload_n hx hb dX12_init_270 rfl (lv_at hl 0 rfl) ?_
  refine lv_bipush (v := 6) hx hb dX12_init_271 (by decide) ?_
  refine va_newa (atype := .char) (a0 := (6, .inl (fun _ => 0))) (ty := .char) (N' := 6) hx hb (ht _ ac_char) rfl hK hP hD hS hA (fun _ => rfl) (by decide) (by decide) (by decide) (Nat.le_trans (Nat.le_of_ble_eq_true rfl) hRc) (Nat.le_trans (Nat.le_of_ble_eq_true rfl) hRs) dX12_init_273 (fun q_59 cA H hK2 hP hD hS => ?_)
  obtain rfl := z_cls_char hK hK2
  refine W.widen (k := 11) (n := 1649) (Nat.le_of_ble_eq_true rfl) (Nat.le_of_ble_eq_true rfl) ?_
  have hP : va_P D vwCl [(h0, .inr (12, fs_58)), (q_1, .inl (D.1 13, 1600, .inl (fun _ => 0))), (q_4, .inl (D.1 13, 6, .inl (fun _ => 0))), (q_59, .inl (D.1 14, 6, .inl (fun _ => 0)))] H := hP
  have hD : va_D A [(h0, .inr (12, fs_58)), (q_1, .inl (D.1 13, 1600, .inl (fun _ => 0))), (q_4, .inl (D.1 13, 6, .inl (fun _ => 0))), (q_59, .inl (D.1 14, 6, .inl (fun _ => 0)))] := hD
  refine lv_dup hx hb dX12_init_275 rfl ?_
  refine lv_iconst (v := 0) hx hb dX12_init_276 (by decide) ?_
  refine lv_bipush (v := 115) hx hb dX12_init_277 (by decide) ?_
  refine va_cast hx hb hK hP hD hS 3 1 rfl rfl (z_in (by decide) (by decide)) dX12_init_279 (fun H locs hP hD hS => ?_)
  generalize hf_60 : upd _ _ _ = f_60 at hP hD
  have hP : va_P D vwCl [(h0, .inr (12, fs_58)), (q_1, .inl (D.1 13, 1600, .inl (fun _ => 0))), (q_4, .inl (D.1 13, 6, .inl (fun _ => 0))), (q_59, .inl (D.1 14, 6, .inl f_60))] H := hP
  have hD : va_D A [(h0, .inr (12, fs_58)), (q_1, .inl (D.1 13, 1600, .inl (fun _ => 0))), (q_4, .inl (D.1 13, 6, .inl (fun _ => 0))), (q_59, .inl (D.1 14, 6, .inl f_60))] := hD
  refine lv_dup hx hb dX12_init_280 rfl ?_
  refine lv_iconst (v := 1) hx hb dX12_init_281 (by decide) ?_
  refine lv_bipush (v := 112) hx hb dX12_init_282 (by decide) ?_
  refine va_cast hx hb hK hP hD hS 3 1 rfl rfl (z_in (by decide) (by decide)) dX12_init_284 (fun H locs hP hD hS => ?_)
  generalize hf_61 : upd _ _ _ = f_61 at hP hD
  have hP : va_P D vwCl [(h0, .inr (12, fs_58)), (q_1, .inl (D.1 13, 1600, .inl (fun _ => 0))), (q_4, .inl (D.1 13, 6, .inl (fun _ => 0))), (q_59, .inl (D.1 14, 6, .inl f_61))] H := hP
  have hD : va_D A [(h0, .inr (12, fs_58)), (q_1, .inl (D.1 13, 1600, .inl (fun _ => 0))), (q_4, .inl (D.1 13, 6, .inl (fun _ => 0))), (q_59, .inl (D.1 14, 6, .inl f_61))] := hD
  refine lv_dup hx hb dX12_init_285 rfl ?_
  refine lv_iconst (v := 2) hx hb dX12_init_286 (by decide) ?_
  refine lv_bipush (v := 108) hx hb dX12_init_287 (by decide) ?_
  refine va_cast hx hb hK hP hD hS 3 1 rfl rfl (z_in (by decide) (by decide)) dX12_init_289 (fun H locs hP hD hS => ?_)
  generalize hf_62 : upd _ _ _ = f_62 at hP hD
  have hP : va_P D vwCl [(h0, .inr (12, fs_58)), (q_1, .inl (D.1 13, 1600, .inl (fun _ => 0))), (q_4, .inl (D.1 13, 6, .inl (fun _ => 0))), (q_59, .inl (D.1 14, 6, .inl f_62))] H := hP
  have hD : va_D A [(h0, .inr (12, fs_58)), (q_1, .inl (D.1 13, 1600, .inl (fun _ => 0))), (q_4, .inl (D.1 13, 6, .inl (fun _ => 0))), (q_59, .inl (D.1 14, 6, .inl f_62))] := hD
  refine lv_dup hx hb dX12_init_290 rfl ?_
  refine lv_iconst (v := 3) hx hb dX12_init_291 (by decide) ?_
  refine lv_bipush (v := 105) hx hb dX12_init_292 (by decide) ?_
  refine va_cast hx hb hK hP hD hS 3 1 rfl rfl (z_in (by decide) (by decide)) dX12_init_294 (fun H locs hP hD hS => ?_)
  generalize hf_63 : upd _ _ _ = f_63 at hP hD
  have hP : va_P D vwCl [(h0, .inr (12, fs_58)), (q_1, .inl (D.1 13, 1600, .inl (fun _ => 0))), (q_4, .inl (D.1 13, 6, .inl (fun _ => 0))), (q_59, .inl (D.1 14, 6, .inl f_63))] H := hP
  have hD : va_D A [(h0, .inr (12, fs_58)), (q_1, .inl (D.1 13, 1600, .inl (fun _ => 0))), (q_4, .inl (D.1 13, 6, .inl (fun _ => 0))), (q_59, .inl (D.1 14, 6, .inl f_63))] := hD
  refine lv_dup hx hb dX12_init_295 rfl ?_
  refine lv_iconst (v := 4) hx hb dX12_init_296 (by decide) ?_
  refine lv_bipush (v := 116) hx hb dX12_init_297 (by decide) ?_
  refine va_cast hx hb hK hP hD hS 3 1 rfl rfl (z_in (by decide) (by decide)) dX12_init_299 (fun H locs hP hD hS => ?_)
  generalize hf_64 : upd _ _ _ = f_64 at hP hD
  have hP : va_P D vwCl [(h0, .inr (12, fs_58)), (q_1, .inl (D.1 13, 1600, .inl (fun _ => 0))), (q_4, .inl (D.1 13, 6, .inl (fun _ => 0))), (q_59, .inl (D.1 14, 6, .inl f_64))] H := hP
  have hD : va_D A [(h0, .inr (12, fs_58)), (q_1, .inl (D.1 13, 1600, .inl (fun _ => 0))), (q_4, .inl (D.1 13, 6, .inl (fun _ => 0))), (q_59, .inl (D.1 14, 6, .inl f_64))] := hD
  refine lv_dup hx hb dX12_init_300 rfl ?_
  refine lv_iconst (v := 5) hx hb dX12_init_301 (by decide) ?_
  refine lv_bipush (v := 115) hx hb dX12_init_302 (by decide) ?_
  refine va_cast hx hb hK hP hD hS 3 1 rfl rfl (z_in (by decide) (by decide)) dX12_init_304 (fun H locs hP hD hS => ?_)
  generalize hf_65 : upd _ _ _ = f_65 at hP hD
  have hP : va_P D vwCl [(h0, .inr (12, fs_58)), (q_1, .inl (D.1 13, 1600, .inl (fun _ => 0))), (q_4, .inl (D.1 13, 6, .inl (fun _ => 0))), (q_59, .inl (D.1 14, 6, .inl f_65))] H := hP
  have hD : va_D A [(h0, .inr (12, fs_58)), (q_1, .inl (D.1 13, 1600, .inl (fun _ => 0))), (q_4, .inl (D.1 13, 6, .inl (fun _ => 0))), (q_59, .inl (D.1 14, 6, .inl f_65))] := hD
  refine va_putF (D := D) (ci := 12) (v := .ref q_59) (ty := .array .char) (C := RX12) (T := TX12) (N := 116) hx hb ht inX12 tyX12 tyX12_ok nmX12 hown hK hP hD hS 0 rfl rfl 19 (by decide) (ht (.fieldLink RX12 45 "CloneVolumesModel" "splitsWord" "[C") fl_X12_45) (fun _ h9 => h9) rfl hin rfl (by decide +kernel) rfl rfl (by rw [hlen]; decide) dX12_init_305 (fun H locs hP hD hS => ?_)
  have hP : va_P D vwCl [(h0, .inr (12, (fs_58.set 19 (.ref q_59)))), (q_1, .inl (D.1 13, 1600, .inl (fun _ => 0))), (q_4, .inl (D.1 13, 6, .inl (fun _ => 0))), (q_59, .inl (D.1 14, 6, .inl f_65))] H := hP
  have hD : va_D A [(h0, .inr (12, (fs_58.set 19 (.ref q_59)))), (q_1, .inl (D.1 13, 1600, .inl (fun _ => 0))), (q_4, .inl (D.1 13, 6, .inl (fun _ => 0))), (q_59, .inl (D.1 14, 6, .inl f_65))] := hD
  generalize hfs_66 : fs_58.set 19 (.ref q_59) = fs_66 at hP hD
  have hlen : fs_66.length = 116 := by rw [← hfs_66, List.length_set]; exact hlen
  have hP : va_P D vwCl [(h0, .inr (12, fs_66)), (q_1, .inl (D.1 13, 1600, .inl (fun _ => 0))), (q_4, .inl (D.1 13, 6, .inl (fun _ => 0))), (q_59, .inl (D.1 14, 6, .inl f_65))] H := hP
  have hD : va_D A [(h0, .inr (12, fs_66)), (q_1, .inl (D.1 13, 1600, .inl (fun _ => 0))), (q_4, .inl (D.1 13, 6, .inl (fun _ => 0))), (q_59, .inl (D.1 14, 6, .inl f_65))] := hD
  have hP := hP.sub (ws' := [(h0, .inr (12, fs_66)), (q_1, .inl (D.1 13, 1600, .inl (fun _ => 0))), (q_4, .inl (D.1 13, 6, .inl (fun _ => 0)))]) [0, 1, 2] rfl
  have hD := hD.sub (ws' := [(h0, .inr (12, fs_66)), (q_1, .inl (D.1 13, 1600, .inl (fun _ => 0))), (q_4, .inl (D.1 13, 6, .inl (fun _ => 0)))]) [0, 1, 2] (by decide) rfl
  exact kk q_52 q_59 fs_66 _ _ (by rw [← hfs_66, ← hfs_58]) hP hD hS
set_option maxHeartbeats 4000000 in
set_option maxRecDepth 100000 in
theorem cM_5 {h0 : Nat} {q_1 : Nat} {q_4 : Nat} (hx : p.tables.exec = Jvm.exec) (hb : c.code = cX12_init) (ht : ∀ w ∈ lw_gd, w.before args s = true) (hown : s.vm.findClass RX12 = some m.cls) (hin : meth.name = "<init>") (hK : va_K D vwCl (TY D) s) (hA : ∀ q : Nat, s.heap.size ≤ q → A q) (hRc : 80 ≤ R.cells) (hRs : 35050 ≤ R.slots) (hl : lv_has ls 1 [(0, .ref h0)]) {fs : List Value} (hlen : fs.length = 116) {H : Heap} {locs : List Loc} (hP : va_P D vwCl [(h0, .inr (12, fs)), (q_1, .inl (D.1 13, 1600, .inl (fun _ => 0))), (q_4, .inl (D.1 13, 6, .inl (fun _ => 0)))] H) (hD : va_D A [(h0, .inr (12, fs)), (q_1, .inl (D.1 13, 1600, .inl (fun _ => 0))), (q_4, .inl (D.1 13, 6, .inl (fun _ => 0)))]) (hS : va_S A s.heap H locs)
    (kk : ∀ (q_67 : Nat) (q_74 : Nat) (fs' : List Value) (H : Heap) (locs : List Loc), fs' = ((fs.set 20 (.ref q_67)).set 21 (.ref q_74)) → va_P D vwCl [(h0, .inr (12, fs')), (q_1, .inl (D.1 13, 1600, .inl (fun _ => 0))), (q_4, .inl (D.1 13, 6, .inl (fun _ => 0)))] H → va_D A [(h0, .inr (12, fs')), (q_1, .inl (D.1 13, 1600, .inl (fun _ => 0))), (q_4, .inl (D.1 13, 6, .inl (fun _ => 0)))] → va_S A s.heap H locs → W p l e R s m args below meth c H locs 13 1659 Q (F0 m 372 ls [])) : W p l e R s m args below meth c H locs 11 1649 Q (F0 m 308 ls []) := by
  refine lv_aload_n hx hb dX12_init_308 rfl (lv_at hl 0 rfl) ?_
  refine lv_iconst (v := 5) hx hb dX12_init_309 (by decide) ?_
  refine va_newa (atype := .char) (a0 := (5, .inl (fun _ => 0))) (ty := .char) (N' := 5) hx hb (ht _ ac_char) rfl hK hP hD hS hA (fun _ => rfl) (by decide) (by decide) (by decide) (Nat.le_trans (Nat.le_of_ble_eq_true rfl) hRc) (Nat.le_trans (Nat.le_of_ble_eq_true rfl) hRs) dX12_init_310 (fun q_67 cA H hK2 hP hD hS => ?_)
  obtain rfl := z_cls_char hK hK2
  refine W.widen (k := 12) (n := 1654) (Nat.le_of_ble_eq_true rfl) (Nat.le_of_ble_eq_true rfl) ?_
  have hP : va_P D vwCl [(h0, .inr (12, fs)), (q_1, .inl (D.1 13, 1600, .inl (fun _ => 0))), (q_4, .inl (D.1 13, 6, .inl (fun _ => 0))), (q_67, .inl (D.1 14, 5, .inl (fun _ => 0)))] H := hP
  have hD : va_D A [(h0, .inr (12, fs)), (q_1, .inl (D.1 13, 1600, .inl (fun _ => 0))), (q_4, .inl (D.1 13, 6, .inl (fun _ => 0))), (q_67, .inl (D.1 14, 5, .inl (fun _ => 0)))] := hD
  refine lv_dup hx hb dX12_init_312 rfl ?_
  refine lv_iconst (v := 0) hx hb dX12_init_313 (by decide) ?_
  refine lv_bipush (v := 99) hx hb dX12_init_314 (by decide) ?_
  refine va_cast hx hb hK hP hD hS 3 1 rfl rfl (z_in (by decide) (by decide)) dX12_init_316 (fun H locs hP hD hS => ?_)
  generalize hf_68 : upd _ _ _ = f_68 at hP hD
  have hP : va_P D vwCl [(h0, .inr (12, fs)), (q_1, .inl (D.1 13, 1600, .inl (fun _ => 0))), (q_4, .inl (D.1 13, 6, .inl (fun _ => 0))), (q_67, .inl (D.1 14, 5, .inl f_68))] H := hP
  have hD : va_D A [(h0, .inr (12, fs)), (q_1, .inl (D.1 13, 1600, .inl (fun _ => 0))), (q_4, .inl (D.1 13, 6, .inl (fun _ => 0))), (q_67, .inl (D.1 14, 5, .inl f_68))] := hD
  refine lv_dup hx hb dX12_init_317 rfl ?_
  refine lv_iconst (v := 1) hx hb dX12_init_318 (by decide) ?_
  refine lv_bipush (v := 111) hx hb dX12_init_319 (by decide) ?_
  refine va_cast hx hb hK hP hD hS 3 1 rfl rfl (z_in (by decide) (by decide)) dX12_init_321 (fun H locs hP hD hS => ?_)
  generalize hf_69 : upd _ _ _ = f_69 at hP hD
  have hP : va_P D vwCl [(h0, .inr (12, fs)), (q_1, .inl (D.1 13, 1600, .inl (fun _ => 0))), (q_4, .inl (D.1 13, 6, .inl (fun _ => 0))), (q_67, .inl (D.1 14, 5, .inl f_69))] H := hP
  have hD : va_D A [(h0, .inr (12, fs)), (q_1, .inl (D.1 13, 1600, .inl (fun _ => 0))), (q_4, .inl (D.1 13, 6, .inl (fun _ => 0))), (q_67, .inl (D.1 14, 5, .inl f_69))] := hD
  refine lv_dup hx hb dX12_init_322 rfl ?_
  refine lv_iconst (v := 2) hx hb dX12_init_323 (by decide) ?_
  refine lv_bipush (v := 115) hx hb dX12_init_324 (by decide) ?_
  refine va_cast hx hb hK hP hD hS 3 1 rfl rfl (z_in (by decide) (by decide)) dX12_init_326 (fun H locs hP hD hS => ?_)
  generalize hf_70 : upd _ _ _ = f_70 at hP hD
  have hP : va_P D vwCl [(h0, .inr (12, fs)), (q_1, .inl (D.1 13, 1600, .inl (fun _ => 0))), (q_4, .inl (D.1 13, 6, .inl (fun _ => 0))), (q_67, .inl (D.1 14, 5, .inl f_70))] H := hP
  have hD : va_D A [(h0, .inr (12, fs)), (q_1, .inl (D.1 13, 1600, .inl (fun _ => 0))), (q_4, .inl (D.1 13, 6, .inl (fun _ => 0))), (q_67, .inl (D.1 14, 5, .inl f_70))] := hD
  refine lv_dup hx hb dX12_init_327 rfl ?_
  refine lv_iconst (v := 3) hx hb dX12_init_328 (by decide) ?_
  refine lv_bipush (v := 116) hx hb dX12_init_329 (by decide) ?_
  refine va_cast hx hb hK hP hD hS 3 1 rfl rfl (z_in (by decide) (by decide)) dX12_init_331 (fun H locs hP hD hS => ?_)
  generalize hf_71 : upd _ _ _ = f_71 at hP hD
  have hP : va_P D vwCl [(h0, .inr (12, fs)), (q_1, .inl (D.1 13, 1600, .inl (fun _ => 0))), (q_4, .inl (D.1 13, 6, .inl (fun _ => 0))), (q_67, .inl (D.1 14, 5, .inl f_71))] H := hP
  have hD : va_D A [(h0, .inr (12, fs)), (q_1, .inl (D.1 13, 1600, .inl (fun _ => 0))), (q_4, .inl (D.1 13, 6, .inl (fun _ => 0))), (q_67, .inl (D.1 14, 5, .inl f_71))] := hD
  refine lv_dup hx hb dX12_init_332 rfl ?_
  refine lv_iconst (v := 4) hx hb dX12_init_333 (by decide) ?_
  refine lv_bipush (v := 115) hx hb dX12_init_334 (by decide) ?_
  refine va_cast hx hb hK hP hD hS 3 1 rfl rfl (z_in (by decide) (by decide)) dX12_init_336 (fun H locs hP hD hS => ?_)
  generalize hf_72 : upd _ _ _ = f_72 at hP hD
  have hP : va_P D vwCl [(h0, .inr (12, fs)), (q_1, .inl (D.1 13, 1600, .inl (fun _ => 0))), (q_4, .inl (D.1 13, 6, .inl (fun _ => 0))), (q_67, .inl (D.1 14, 5, .inl f_72))] H := hP
  have hD : va_D A [(h0, .inr (12, fs)), (q_1, .inl (D.1 13, 1600, .inl (fun _ => 0))), (q_4, .inl (D.1 13, 6, .inl (fun _ => 0))), (q_67, .inl (D.1 14, 5, .inl f_72))] := hD
  refine va_putF (D := D) (ci := 12) (v := .ref q_67) (ty := .array .char) (C := RX12) (T := TX12) (N := 116) hx hb ht inX12 tyX12 tyX12_ok nmX12 hown hK hP hD hS 0 rfl rfl 20 (by decide) (ht (.fieldLink RX12 48 "CloneVolumesModel" "costsWord" "[C") fl_X12_48) (fun _ h9 => h9) rfl hin rfl (by decide +kernel) rfl rfl (by rw [hlen]; decide) dX12_init_337 (fun H locs hP hD hS => ?_)
  have hP : va_P D vwCl [(h0, .inr (12, (fs.set 20 (.ref q_67)))), (q_1, .inl (D.1 13, 1600, .inl (fun _ => 0))), (q_4, .inl (D.1 13, 6, .inl (fun _ => 0))), (q_67, .inl (D.1 14, 5, .inl f_72))] H := hP
  have hD : va_D A [(h0, .inr (12, (fs.set 20 (.ref q_67)))), (q_1, .inl (D.1 13, 1600, .inl (fun _ => 0))), (q_4, .inl (D.1 13, 6, .inl (fun _ => 0))), (q_67, .inl (D.1 14, 5, .inl f_72))] := hD
  generalize hfs_73 : fs.set 20 (.ref q_67) = fs_73 at hP hD
  have hlen : fs_73.length = 116 := by rw [← hfs_73, List.length_set]; exact hlen
  have hP : va_P D vwCl [(h0, .inr (12, fs_73)), (q_1, .inl (D.1 13, 1600, .inl (fun _ => 0))), (q_4, .inl (D.1 13, 6, .inl (fun _ => 0))), (q_67, .inl (D.1 14, 5, .inl f_72))] H := hP
  have hD : va_D A [(h0, .inr (12, fs_73)), (q_1, .inl (D.1 13, 1600, .inl (fun _ => 0))), (q_4, .inl (D.1 13, 6, .inl (fun _ => 0))), (q_67, .inl (D.1 14, 5, .inl f_72))] := hD
  have hP := hP.sub (ws' := [(h0, .inr (12, fs_73)), (q_1, .inl (D.1 13, 1600, .inl (fun _ => 0))), (q_4, .inl (D.1 13, 6, .inl (fun _ => 0)))]) [0, 1, 2] rfl
  have hD := hD.sub (ws' := [(h0, .inr (12, fs_73)), (q_1, .inl (D.1 13, 1600, .inl (fun _ => 0))), (q_4, .inl (D.1 13, 6, .inl (fun _ => 0)))]) [0, 1, 2] (by decide) rfl
  refine lv_aload_n hx hb dX12_init_340 rfl (lv_at hl 0 rfl) ?_
  refine lv_iconst (v := 5) hx hb dX12_init_341 (by decide) ?_
  refine va_newa (atype := .char) (a0 := (5, .inl (fun _ => 0))) (ty := .char) (N' := 5) hx hb (ht _ ac_char) rfl hK hP hD hS hA (fun _ => rfl) (by decide) (by decide) (by decide) (Nat.le_trans (Nat.le_of_ble_eq_true rfl) hRc) (Nat.le_trans (Nat.le_of_ble_eq_true rfl) hRs) dX12_init_342 (fun q_74 cA H hK2 hP hD hS => ?_)
  obtain rfl := z_cls_char hK hK2
  refine W.widen (k := 13) (n := 1659) (Nat.le_of_ble_eq_true rfl) (Nat.le_of_ble_eq_true rfl) ?_
  have hP : va_P D vwCl [(h0, .inr (12, fs_73)), (q_1, .inl (D.1 13, 1600, .inl (fun _ => 0))), (q_4, .inl (D.1 13, 6, .inl (fun _ => 0))), (q_74, .inl (D.1 14, 5, .inl (fun _ => 0)))] H := hP
  have hD : va_D A [(h0, .inr (12, fs_73)), (q_1, .inl (D.1 13, 1600, .inl (fun _ => 0))), (q_4, .inl (D.1 13, 6, .inl (fun _ => 0))), (q_74, .inl (D.1 14, 5, .inl (fun _ => 0)))] := hD
  refine lv_dup hx hb dX12_init_344 rfl ?_
  refine lv_iconst (v := 0) hx hb dX12_init_345 (by decide) ?_
  refine lv_bipush (v := 99) hx hb dX12_init_346 (by decide) ?_
  refine va_cast hx hb hK hP hD hS 3 1 rfl rfl (z_in (by decide) (by decide)) dX12_init_348 (fun H locs hP hD hS => ?_)
  generalize hf_75 : upd _ _ _ = f_75 at hP hD
  have hP : va_P D vwCl [(h0, .inr (12, fs_73)), (q_1, .inl (D.1 13, 1600, .inl (fun _ => 0))), (q_4, .inl (D.1 13, 6, .inl (fun _ => 0))), (q_74, .inl (D.1 14, 5, .inl f_75))] H := hP
  have hD : va_D A [(h0, .inr (12, fs_73)), (q_1, .inl (D.1 13, 1600, .inl (fun _ => 0))), (q_4, .inl (D.1 13, 6, .inl (fun _ => 0))), (q_74, .inl (D.1 14, 5, .inl f_75))] := hD
  refine lv_dup hx hb dX12_init_349 rfl ?_
  refine lv_iconst (v := 1) hx hb dX12_init_350 (by decide) ?_
  refine lv_bipush (v := 104) hx hb dX12_init_351 (by decide) ?_
  refine va_cast hx hb hK hP hD hS 3 1 rfl rfl (z_in (by decide) (by decide)) dX12_init_353 (fun H locs hP hD hS => ?_)
  generalize hf_76 : upd _ _ _ = f_76 at hP hD
  have hP : va_P D vwCl [(h0, .inr (12, fs_73)), (q_1, .inl (D.1 13, 1600, .inl (fun _ => 0))), (q_4, .inl (D.1 13, 6, .inl (fun _ => 0))), (q_74, .inl (D.1 14, 5, .inl f_76))] H := hP
  have hD : va_D A [(h0, .inr (12, fs_73)), (q_1, .inl (D.1 13, 1600, .inl (fun _ => 0))), (q_4, .inl (D.1 13, 6, .inl (fun _ => 0))), (q_74, .inl (D.1 14, 5, .inl f_76))] := hD
  refine lv_dup hx hb dX12_init_354 rfl ?_
  refine lv_iconst (v := 2) hx hb dX12_init_355 (by decide) ?_
  refine lv_bipush (v := 117) hx hb dX12_init_356 (by decide) ?_
  refine va_cast hx hb hK hP hD hS 3 1 rfl rfl (z_in (by decide) (by decide)) dX12_init_358 (fun H locs hP hD hS => ?_)
  generalize hf_77 : upd _ _ _ = f_77 at hP hD
  have hP : va_P D vwCl [(h0, .inr (12, fs_73)), (q_1, .inl (D.1 13, 1600, .inl (fun _ => 0))), (q_4, .inl (D.1 13, 6, .inl (fun _ => 0))), (q_74, .inl (D.1 14, 5, .inl f_77))] H := hP
  have hD : va_D A [(h0, .inr (12, fs_73)), (q_1, .inl (D.1 13, 1600, .inl (fun _ => 0))), (q_4, .inl (D.1 13, 6, .inl (fun _ => 0))), (q_74, .inl (D.1 14, 5, .inl f_77))] := hD
  refine lv_dup hx hb dX12_init_359 rfl ?_
  refine lv_iconst (v := 3) hx hb dX12_init_360 (by decide) ?_
  refine lv_bipush (v := 114) hx hb dX12_init_361 (by decide) ?_
  refine va_cast hx hb hK hP hD hS 3 1 rfl rfl (z_in (by decide) (by decide)) dX12_init_363 (fun H locs hP hD hS => ?_)
  generalize hf_78 : upd _ _ _ = f_78 at hP hD
  have hP : va_P D vwCl [(h0, .inr (12, fs_73)), (q_1, .inl (D.1 13, 1600, .inl (fun _ => 0))), (q_4, .inl (D.1 13, 6, .inl (fun _ => 0))), (q_74, .inl (D.1 14, 5, .inl f_78))] H := hP
  have hD : va_D A [(h0, .inr (12, fs_73)), (q_1, .inl (D.1 13, 1600, .inl (fun _ => 0))), (q_4, .inl (D.1 13, 6, .inl (fun _ => 0))), (q_74, .inl (D.1 14, 5, .inl f_78))] := hD
  refine lv_dup hx hb dX12_init_364 rfl ?_
  refine lv_iconst (v := 4) hx hb dX12_init_365 (by decide) ?_
  refine lv_bipush (v := 110) hx hb dX12_init_366 (by decide) ?_
  refine va_cast hx hb hK hP hD hS 3 1 rfl rfl (z_in (by decide) (by decide)) dX12_init_368 (fun H locs hP hD hS => ?_)
  generalize hf_79 : upd _ _ _ = f_79 at hP hD
  have hP : va_P D vwCl [(h0, .inr (12, fs_73)), (q_1, .inl (D.1 13, 1600, .inl (fun _ => 0))), (q_4, .inl (D.1 13, 6, .inl (fun _ => 0))), (q_74, .inl (D.1 14, 5, .inl f_79))] H := hP
  have hD : va_D A [(h0, .inr (12, fs_73)), (q_1, .inl (D.1 13, 1600, .inl (fun _ => 0))), (q_4, .inl (D.1 13, 6, .inl (fun _ => 0))), (q_74, .inl (D.1 14, 5, .inl f_79))] := hD
  refine va_putF (D := D) (ci := 12) (v := .ref q_74) (ty := .array .char) (C := RX12) (T := TX12) (N := 116) hx hb ht inX12 tyX12 tyX12_ok nmX12 hown hK hP hD hS 0 rfl rfl 21 (by decide) (ht (.fieldLink RX12 51 "CloneVolumesModel" "churnWord" "[C") fl_X12_51) (fun _ h9 => h9) rfl hin rfl (by decide +kernel) rfl rfl (by rw [hlen]; decide) dX12_init_369 (fun H locs hP hD hS => ?_)
  have hP : va_P D vwCl [(h0, .inr (12, (fs_73.set 21 (.ref q_74)))), (q_1, .inl (D.1 13, 1600, .inl (fun _ => 0))), (q_4, .inl (D.1 13, 6, .inl (fun _ => 0))), (q_74, .inl (D.1 14, 5, .inl f_79))] H := hP
  have hD : va_D A [(h0, .inr (12, (fs_73.set 21 (.ref q_74)))), (q_1, .inl (D.1 13, 1600, .inl (fun _ => 0))), (q_4, .inl (D.1 13, 6, .inl (fun _ => 0))), (q_74, .inl (D.1 14, 5, .inl f_79))] := hD
  generalize hfs_80 : fs_73.set 21 (.ref q_74) = fs_80 at hP hD
  have hlen : fs_80.length = 116 := by rw [← hfs_80, List.length_set]; exact hlen
  have hP : va_P D vwCl [(h0, .inr (12, fs_80)), (q_1, .inl (D.1 13, 1600, .inl (fun _ => 0))), (q_4, .inl (D.1 13, 6, .inl (fun _ => 0))), (q_74, .inl (D.1 14, 5, .inl f_79))] H := hP
  have hD : va_D A [(h0, .inr (12, fs_80)), (q_1, .inl (D.1 13, 1600, .inl (fun _ => 0))), (q_4, .inl (D.1 13, 6, .inl (fun _ => 0))), (q_74, .inl (D.1 14, 5, .inl f_79))] := hD
  have hP := hP.sub (ws' := [(h0, .inr (12, fs_80)), (q_1, .inl (D.1 13, 1600, .inl (fun _ => 0))), (q_4, .inl (D.1 13, 6, .inl (fun _ => 0)))]) [0, 1, 2] rfl
  have hD := hD.sub (ws' := [(h0, .inr (12, fs_80)), (q_1, .inl (D.1 13, 1600, .inl (fun _ => 0))), (q_4, .inl (D.1 13, 6, .inl (fun _ => 0)))]) [0, 1, 2] (by decide) rfl
  exact kk q_67 q_74 fs_80 _ _ (by rw [← hfs_80, ← hfs_73]) hP hD hS
set_option maxHeartbeats 4000000 in
set_option maxRecDepth 100000 in
theorem cM_6 {h0 : Nat} {q_1 : Nat} {q_4 : Nat} (hx : p.tables.exec = Jvm.exec) (hb : c.code = cX12_init) (ht : ∀ w ∈ lw_gd, w.before args s = true) (hown : s.vm.findClass RX12 = some m.cls) (hin : meth.name = "<init>") (hK : va_K D vwCl (TY D) s) (hA : ∀ q : Nat, s.heap.size ≤ q → A q) (hRc : 80 ≤ R.cells) (hRs : 35050 ≤ R.slots) (hl : lv_has ls 1 [(0, .ref h0)]) {fs : List Value} (hlen : fs.length = 116) {H : Heap} {locs : List Loc} (hP : va_P D vwCl [(h0, .inr (12, fs)), (q_1, .inl (D.1 13, 1600, .inl (fun _ => 0))), (q_4, .inl (D.1 13, 6, .inl (fun _ => 0)))] H) (hD : va_D A [(h0, .inr (12, fs)), (q_1, .inl (D.1 13, 1600, .inl (fun _ => 0))), (q_4, .inl (D.1 13, 6, .inl (fun _ => 0)))]) (hS : va_S A s.heap H locs)
    (kk : ∀ (q_81 : Nat) (q_88 : Nat) (q_94 : Nat) (fs' : List Value) (H : Heap) (locs : List Loc), fs' = (((fs.set 22 (.ref q_81)).set 23 (.ref q_88)).set 24 (.ref q_94)) → va_P D vwCl [(h0, .inr (12, fs')), (q_1, .inl (D.1 13, 1600, .inl (fun _ => 0))), (q_4, .inl (D.1 13, 6, .inl (fun _ => 0)))] H → va_D A [(h0, .inr (12, fs')), (q_1, .inl (D.1 13, 1600, .inl (fun _ => 0))), (q_4, .inl (D.1 13, 6, .inl (fun _ => 0)))] → va_S A s.heap H locs → W p l e R s m args below meth c H locs 16 1673 Q (F0 m 463 ls [])) : W p l e R s m args below meth c H locs 13 1659 Q (F0 m 372 ls []) := by
  refine lv_aload_n hx hb dX12_init_372 rfl (lv_at hl 0 rfl) ?_
  refine lv_iconst (v := 5) hx hb dX12_init_373 (by decide) ?_
  refine va_newa (atype := .char) (a0 := (5, .inl (fun _ => 0))) (ty := .char) (N' := 5) hx hb (ht _ ac_char) rfl hK hP hD hS hA (fun _ => rfl) (by decide) (by decide) (by decide) (Nat.le_trans (Nat.le_of_ble_eq_true rfl) hRc) (Nat.le_trans (Nat.le_of_ble_eq_true rfl) hRs) dX12_init_374 (fun q_81 cA H hK2 hP hD hS => ?_)
  obtain rfl := z_cls_char hK hK2
  refine W.widen (k := 14) (n := 1664) (Nat.le_of_ble_eq_true rfl) (Nat.le_of_ble_eq_true rfl) ?_
  have hP : va_P D vwCl [(h0, .inr (12, fs)), (q_1, .inl (D.1 13, 1600, .inl (fun _ => 0))), (q_4, .inl (D.1 13, 6, .inl (fun _ => 0))), (q_81, .inl (D.1 14, 5, .inl (fun _ => 0)))] H := hP
  have hD : va_D A [(h0, .inr (12, fs)), (q_1, .inl (D.1 13, 1600, .inl (fun _ => 0))), (q_4, .inl (D.1 13, 6, .inl (fun _ => 0))), (q_81, .inl (D.1 14, 5, .inl (fun _ => 0)))] := hD
  refine lv_dup hx hb dX12_init_376 rfl ?_
  refine lv_iconst (v := 0) hx hb dX12_init_377 (by decide) ?_
  refine lv_bipush (v := 98) hx hb dX12_init_378 (by decide) ?_
  refine va_cast hx hb hK hP hD hS 3 1 rfl rfl (z_in (by decide) (by decide)) dX12_init_380 (fun H locs hP hD hS => ?_)
  generalize hf_82 : upd _ _ _ = f_82 at hP hD
  have hP : va_P D vwCl [(h0, .inr (12, fs)), (q_1, .inl (D.1 13, 1600, .inl (fun _ => 0))), (q_4, .inl (D.1 13, 6, .inl (fun _ => 0))), (q_81, .inl (D.1 14, 5, .inl f_82))] H := hP
  have hD : va_D A [(h0, .inr (12, fs)), (q_1, .inl (D.1 13, 1600, .inl (fun _ => 0))), (q_4, .inl (D.1 13, 6, .inl (fun _ => 0))), (q_81, .inl (D.1 14, 5, .inl f_82))] := hD
  refine lv_dup hx hb dX12_init_381 rfl ?_
  refine lv_iconst (v := 1) hx hb dX12_init_382 (by decide) ?_
  refine lv_bipush (v := 108) hx hb dX12_init_383 (by decide) ?_
  refine va_cast hx hb hK hP hD hS 3 1 rfl rfl (z_in (by decide) (by decide)) dX12_init_385 (fun H locs hP hD hS => ?_)
  generalize hf_83 : upd _ _ _ = f_83 at hP hD
  have hP : va_P D vwCl [(h0, .inr (12, fs)), (q_1, .inl (D.1 13, 1600, .inl (fun _ => 0))), (q_4, .inl (D.1 13, 6, .inl (fun _ => 0))), (q_81, .inl (D.1 14, 5, .inl f_83))] H := hP
  have hD : va_D A [(h0, .inr (12, fs)), (q_1, .inl (D.1 13, 1600, .inl (fun _ => 0))), (q_4, .inl (D.1 13, 6, .inl (fun _ => 0))), (q_81, .inl (D.1 14, 5, .inl f_83))] := hD
  refine lv_dup hx hb dX12_init_386 rfl ?_
  refine lv_iconst (v := 2) hx hb dX12_init_387 (by decide) ?_
  refine lv_bipush (v := 111) hx hb dX12_init_388 (by decide) ?_
  refine va_cast hx hb hK hP hD hS 3 1 rfl rfl (z_in (by decide) (by decide)) dX12_init_390 (fun H locs hP hD hS => ?_)
  generalize hf_84 : upd _ _ _ = f_84 at hP hD
  have hP : va_P D vwCl [(h0, .inr (12, fs)), (q_1, .inl (D.1 13, 1600, .inl (fun _ => 0))), (q_4, .inl (D.1 13, 6, .inl (fun _ => 0))), (q_81, .inl (D.1 14, 5, .inl f_84))] H := hP
  have hD : va_D A [(h0, .inr (12, fs)), (q_1, .inl (D.1 13, 1600, .inl (fun _ => 0))), (q_4, .inl (D.1 13, 6, .inl (fun _ => 0))), (q_81, .inl (D.1 14, 5, .inl f_84))] := hD
  refine lv_dup hx hb dX12_init_391 rfl ?_
  refine lv_iconst (v := 3) hx hb dX12_init_392 (by decide) ?_
  refine lv_bipush (v := 99) hx hb dX12_init_393 (by decide) ?_
  refine va_cast hx hb hK hP hD hS 3 1 rfl rfl (z_in (by decide) (by decide)) dX12_init_395 (fun H locs hP hD hS => ?_)
  generalize hf_85 : upd _ _ _ = f_85 at hP hD
  have hP : va_P D vwCl [(h0, .inr (12, fs)), (q_1, .inl (D.1 13, 1600, .inl (fun _ => 0))), (q_4, .inl (D.1 13, 6, .inl (fun _ => 0))), (q_81, .inl (D.1 14, 5, .inl f_85))] H := hP
  have hD : va_D A [(h0, .inr (12, fs)), (q_1, .inl (D.1 13, 1600, .inl (fun _ => 0))), (q_4, .inl (D.1 13, 6, .inl (fun _ => 0))), (q_81, .inl (D.1 14, 5, .inl f_85))] := hD
  refine lv_dup hx hb dX12_init_396 rfl ?_
  refine lv_iconst (v := 4) hx hb dX12_init_397 (by decide) ?_
  refine lv_bipush (v := 107) hx hb dX12_init_398 (by decide) ?_
  refine va_cast hx hb hK hP hD hS 3 1 rfl rfl (z_in (by decide) (by decide)) dX12_init_400 (fun H locs hP hD hS => ?_)
  generalize hf_86 : upd _ _ _ = f_86 at hP hD
  have hP : va_P D vwCl [(h0, .inr (12, fs)), (q_1, .inl (D.1 13, 1600, .inl (fun _ => 0))), (q_4, .inl (D.1 13, 6, .inl (fun _ => 0))), (q_81, .inl (D.1 14, 5, .inl f_86))] H := hP
  have hD : va_D A [(h0, .inr (12, fs)), (q_1, .inl (D.1 13, 1600, .inl (fun _ => 0))), (q_4, .inl (D.1 13, 6, .inl (fun _ => 0))), (q_81, .inl (D.1 14, 5, .inl f_86))] := hD
  refine va_putF (D := D) (ci := 12) (v := .ref q_81) (ty := .array .char) (C := RX12) (T := TX12) (N := 116) hx hb ht inX12 tyX12 tyX12_ok nmX12 hown hK hP hD hS 0 rfl rfl 22 (by decide) (ht (.fieldLink RX12 54 "CloneVolumesModel" "blockWord" "[C") fl_X12_54) (fun _ h9 => h9) rfl hin rfl (by decide +kernel) rfl rfl (by rw [hlen]; decide) dX12_init_401 (fun H locs hP hD hS => ?_)
  have hP : va_P D vwCl [(h0, .inr (12, (fs.set 22 (.ref q_81)))), (q_1, .inl (D.1 13, 1600, .inl (fun _ => 0))), (q_4, .inl (D.1 13, 6, .inl (fun _ => 0))), (q_81, .inl (D.1 14, 5, .inl f_86))] H := hP
  have hD : va_D A [(h0, .inr (12, (fs.set 22 (.ref q_81)))), (q_1, .inl (D.1 13, 1600, .inl (fun _ => 0))), (q_4, .inl (D.1 13, 6, .inl (fun _ => 0))), (q_81, .inl (D.1 14, 5, .inl f_86))] := hD
  generalize hfs_87 : fs.set 22 (.ref q_81) = fs_87 at hP hD
  have hlen : fs_87.length = 116 := by rw [← hfs_87, List.length_set]; exact hlen
  have hP : va_P D vwCl [(h0, .inr (12, fs_87)), (q_1, .inl (D.1 13, 1600, .inl (fun _ => 0))), (q_4, .inl (D.1 13, 6, .inl (fun _ => 0))), (q_81, .inl (D.1 14, 5, .inl f_86))] H := hP
  have hD : va_D A [(h0, .inr (12, fs_87)), (q_1, .inl (D.1 13, 1600, .inl (fun _ => 0))), (q_4, .inl (D.1 13, 6, .inl (fun _ => 0))), (q_81, .inl (D.1 14, 5, .inl f_86))] := hD
  have hP := hP.sub (ws' := [(h0, .inr (12, fs_87)), (q_1, .inl (D.1 13, 1600, .inl (fun _ => 0))), (q_4, .inl (D.1 13, 6, .inl (fun _ => 0)))]) [0, 1, 2] rfl
  have hD := hD.sub (ws' := [(h0, .inr (12, fs_87)), (q_1, .inl (D.1 13, 1600, .inl (fun _ => 0))), (q_4, .inl (D.1 13, 6, .inl (fun _ => 0)))]) [0, 1, 2] (by decide) rfl
  refine lv_aload_n hx hb dX12_init_404 rfl (lv_at hl 0 rfl) ?_
  refine lv_iconst (v := 4) hx hb dX12_init_405 (by decide) ?_
  refine va_newa (atype := .char) (a0 := (4, .inl (fun _ => 0))) (ty := .char) (N' := 4) hx hb (ht _ ac_char) rfl hK hP hD hS hA (fun _ => rfl) (by decide) (by decide) (by decide) (Nat.le_trans (Nat.le_of_ble_eq_true rfl) hRc) (Nat.le_trans (Nat.le_of_ble_eq_true rfl) hRs) dX12_init_406 (fun q_88 cA H hK2 hP hD hS => ?_)
  obtain rfl := z_cls_char hK hK2
  refine W.widen (k := 15) (n := 1668) (Nat.le_of_ble_eq_true rfl) (Nat.le_of_ble_eq_true rfl) ?_
  have hP : va_P D vwCl [(h0, .inr (12, fs_87)), (q_1, .inl (D.1 13, 1600, .inl (fun _ => 0))), (q_4, .inl (D.1 13, 6, .inl (fun _ => 0))), (q_88, .inl (D.1 14, 4, .inl (fun _ => 0)))] H := hP
  have hD : va_D A [(h0, .inr (12, fs_87)), (q_1, .inl (D.1 13, 1600, .inl (fun _ => 0))), (q_4, .inl (D.1 13, 6, .inl (fun _ => 0))), (q_88, .inl (D.1 14, 4, .inl (fun _ => 0)))] := hD
  refine lv_dup hx hb dX12_init_408 rfl ?_
  refine lv_iconst (v := 0) hx hb dX12_init_409 (by decide) ?_
  refine lv_bipush (v := 102) hx hb dX12_init_410 (by decide) ?_
  refine va_cast hx hb hK hP hD hS 3 1 rfl rfl (z_in (by decide) (by decide)) dX12_init_412 (fun H locs hP hD hS => ?_)
  generalize hf_89 : upd _ _ _ = f_89 at hP hD
  have hP : va_P D vwCl [(h0, .inr (12, fs_87)), (q_1, .inl (D.1 13, 1600, .inl (fun _ => 0))), (q_4, .inl (D.1 13, 6, .inl (fun _ => 0))), (q_88, .inl (D.1 14, 4, .inl f_89))] H := hP
  have hD : va_D A [(h0, .inr (12, fs_87)), (q_1, .inl (D.1 13, 1600, .inl (fun _ => 0))), (q_4, .inl (D.1 13, 6, .inl (fun _ => 0))), (q_88, .inl (D.1 14, 4, .inl f_89))] := hD
  refine lv_dup hx hb dX12_init_413 rfl ?_
  refine lv_iconst (v := 1) hx hb dX12_init_414 (by decide) ?_
  refine lv_bipush (v := 114) hx hb dX12_init_415 (by decide) ?_
  refine va_cast hx hb hK hP hD hS 3 1 rfl rfl (z_in (by decide) (by decide)) dX12_init_417 (fun H locs hP hD hS => ?_)
  generalize hf_90 : upd _ _ _ = f_90 at hP hD
  have hP : va_P D vwCl [(h0, .inr (12, fs_87)), (q_1, .inl (D.1 13, 1600, .inl (fun _ => 0))), (q_4, .inl (D.1 13, 6, .inl (fun _ => 0))), (q_88, .inl (D.1 14, 4, .inl f_90))] H := hP
  have hD : va_D A [(h0, .inr (12, fs_87)), (q_1, .inl (D.1 13, 1600, .inl (fun _ => 0))), (q_4, .inl (D.1 13, 6, .inl (fun _ => 0))), (q_88, .inl (D.1 14, 4, .inl f_90))] := hD
  refine lv_dup hx hb dX12_init_418 rfl ?_
  refine lv_iconst (v := 2) hx hb dX12_init_419 (by decide) ?_
  refine lv_bipush (v := 111) hx hb dX12_init_420 (by decide) ?_
  refine va_cast hx hb hK hP hD hS 3 1 rfl rfl (z_in (by decide) (by decide)) dX12_init_422 (fun H locs hP hD hS => ?_)
  generalize hf_91 : upd _ _ _ = f_91 at hP hD
  have hP : va_P D vwCl [(h0, .inr (12, fs_87)), (q_1, .inl (D.1 13, 1600, .inl (fun _ => 0))), (q_4, .inl (D.1 13, 6, .inl (fun _ => 0))), (q_88, .inl (D.1 14, 4, .inl f_91))] H := hP
  have hD : va_D A [(h0, .inr (12, fs_87)), (q_1, .inl (D.1 13, 1600, .inl (fun _ => 0))), (q_4, .inl (D.1 13, 6, .inl (fun _ => 0))), (q_88, .inl (D.1 14, 4, .inl f_91))] := hD
  refine lv_dup hx hb dX12_init_423 rfl ?_
  refine lv_iconst (v := 3) hx hb dX12_init_424 (by decide) ?_
  refine lv_bipush (v := 109) hx hb dX12_init_425 (by decide) ?_
  refine va_cast hx hb hK hP hD hS 3 1 rfl rfl (z_in (by decide) (by decide)) dX12_init_427 (fun H locs hP hD hS => ?_)
  generalize hf_92 : upd _ _ _ = f_92 at hP hD
  have hP : va_P D vwCl [(h0, .inr (12, fs_87)), (q_1, .inl (D.1 13, 1600, .inl (fun _ => 0))), (q_4, .inl (D.1 13, 6, .inl (fun _ => 0))), (q_88, .inl (D.1 14, 4, .inl f_92))] H := hP
  have hD : va_D A [(h0, .inr (12, fs_87)), (q_1, .inl (D.1 13, 1600, .inl (fun _ => 0))), (q_4, .inl (D.1 13, 6, .inl (fun _ => 0))), (q_88, .inl (D.1 14, 4, .inl f_92))] := hD
  refine va_putF (D := D) (ci := 12) (v := .ref q_88) (ty := .array .char) (C := RX12) (T := TX12) (N := 116) hx hb ht inX12 tyX12 tyX12_ok nmX12 hown hK hP hD hS 0 rfl rfl 23 (by decide) (ht (.fieldLink RX12 57 "CloneVolumesModel" "fromWord" "[C") fl_X12_57) (fun _ h9 => h9) rfl hin rfl (by decide +kernel) rfl rfl (by rw [hlen]; decide) dX12_init_428 (fun H locs hP hD hS => ?_)
  have hP : va_P D vwCl [(h0, .inr (12, (fs_87.set 23 (.ref q_88)))), (q_1, .inl (D.1 13, 1600, .inl (fun _ => 0))), (q_4, .inl (D.1 13, 6, .inl (fun _ => 0))), (q_88, .inl (D.1 14, 4, .inl f_92))] H := hP
  have hD : va_D A [(h0, .inr (12, (fs_87.set 23 (.ref q_88)))), (q_1, .inl (D.1 13, 1600, .inl (fun _ => 0))), (q_4, .inl (D.1 13, 6, .inl (fun _ => 0))), (q_88, .inl (D.1 14, 4, .inl f_92))] := hD
  generalize hfs_93 : fs_87.set 23 (.ref q_88) = fs_93 at hP hD
  have hlen : fs_93.length = 116 := by rw [← hfs_93, List.length_set]; exact hlen
  have hP : va_P D vwCl [(h0, .inr (12, fs_93)), (q_1, .inl (D.1 13, 1600, .inl (fun _ => 0))), (q_4, .inl (D.1 13, 6, .inl (fun _ => 0))), (q_88, .inl (D.1 14, 4, .inl f_92))] H := hP
  have hD : va_D A [(h0, .inr (12, fs_93)), (q_1, .inl (D.1 13, 1600, .inl (fun _ => 0))), (q_4, .inl (D.1 13, 6, .inl (fun _ => 0))), (q_88, .inl (D.1 14, 4, .inl f_92))] := hD
  have hP := hP.sub (ws' := [(h0, .inr (12, fs_93)), (q_1, .inl (D.1 13, 1600, .inl (fun _ => 0))), (q_4, .inl (D.1 13, 6, .inl (fun _ => 0)))]) [0, 1, 2] rfl
  have hD := hD.sub (ws' := [(h0, .inr (12, fs_93)), (q_1, .inl (D.1 13, 1600, .inl (fun _ => 0))), (q_4, .inl (D.1 13, 6, .inl (fun _ => 0)))]) [0, 1, 2] (by decide) rfl
  refine lv_aload_n hx hb dX12_init_431 rfl (lv_at hl 0 rfl) ?_
  refine lv_iconst (v := 5) hx hb dX12_init_432 (by decide) ?_
  refine va_newa (atype := .char) (a0 := (5, .inl (fun _ => 0))) (ty := .char) (N' := 5) hx hb (ht _ ac_char) rfl hK hP hD hS hA (fun _ => rfl) (by decide) (by decide) (by decide) (Nat.le_trans (Nat.le_of_ble_eq_true rfl) hRc) (Nat.le_trans (Nat.le_of_ble_eq_true rfl) hRs) dX12_init_433 (fun q_94 cA H hK2 hP hD hS => ?_)
  obtain rfl := z_cls_char hK hK2
  refine W.widen (k := 16) (n := 1673) (Nat.le_of_ble_eq_true rfl) (Nat.le_of_ble_eq_true rfl) ?_
  have hP : va_P D vwCl [(h0, .inr (12, fs_93)), (q_1, .inl (D.1 13, 1600, .inl (fun _ => 0))), (q_4, .inl (D.1 13, 6, .inl (fun _ => 0))), (q_94, .inl (D.1 14, 5, .inl (fun _ => 0)))] H := hP
  have hD : va_D A [(h0, .inr (12, fs_93)), (q_1, .inl (D.1 13, 1600, .inl (fun _ => 0))), (q_4, .inl (D.1 13, 6, .inl (fun _ => 0))), (q_94, .inl (D.1 14, 5, .inl (fun _ => 0)))] := hD
  refine lv_dup hx hb dX12_init_435 rfl ?_
  refine lv_iconst (v := 0) hx hb dX12_init_436 (by decide) ?_
  refine lv_bipush (v := 108) hx hb dX12_init_437 (by decide) ?_
  refine va_cast hx hb hK hP hD hS 3 1 rfl rfl (z_in (by decide) (by decide)) dX12_init_439 (fun H locs hP hD hS => ?_)
  generalize hf_95 : upd _ _ _ = f_95 at hP hD
  have hP : va_P D vwCl [(h0, .inr (12, fs_93)), (q_1, .inl (D.1 13, 1600, .inl (fun _ => 0))), (q_4, .inl (D.1 13, 6, .inl (fun _ => 0))), (q_94, .inl (D.1 14, 5, .inl f_95))] H := hP
  have hD : va_D A [(h0, .inr (12, fs_93)), (q_1, .inl (D.1 13, 1600, .inl (fun _ => 0))), (q_4, .inl (D.1 13, 6, .inl (fun _ => 0))), (q_94, .inl (D.1 14, 5, .inl f_95))] := hD
  refine lv_dup hx hb dX12_init_440 rfl ?_
  refine lv_iconst (v := 1) hx hb dX12_init_441 (by decide) ?_
  refine lv_bipush (v := 101) hx hb dX12_init_442 (by decide) ?_
  refine va_cast hx hb hK hP hD hS 3 1 rfl rfl (z_in (by decide) (by decide)) dX12_init_444 (fun H locs hP hD hS => ?_)
  generalize hf_96 : upd _ _ _ = f_96 at hP hD
  have hP : va_P D vwCl [(h0, .inr (12, fs_93)), (q_1, .inl (D.1 13, 1600, .inl (fun _ => 0))), (q_4, .inl (D.1 13, 6, .inl (fun _ => 0))), (q_94, .inl (D.1 14, 5, .inl f_96))] H := hP
  have hD : va_D A [(h0, .inr (12, fs_93)), (q_1, .inl (D.1 13, 1600, .inl (fun _ => 0))), (q_4, .inl (D.1 13, 6, .inl (fun _ => 0))), (q_94, .inl (D.1 14, 5, .inl f_96))] := hD
  refine lv_dup hx hb dX12_init_445 rfl ?_
  refine lv_iconst (v := 2) hx hb dX12_init_446 (by decide) ?_
  refine lv_bipush (v := 118) hx hb dX12_init_447 (by decide) ?_
  refine va_cast hx hb hK hP hD hS 3 1 rfl rfl (z_in (by decide) (by decide)) dX12_init_449 (fun H locs hP hD hS => ?_)
  generalize hf_97 : upd _ _ _ = f_97 at hP hD
  have hP : va_P D vwCl [(h0, .inr (12, fs_93)), (q_1, .inl (D.1 13, 1600, .inl (fun _ => 0))), (q_4, .inl (D.1 13, 6, .inl (fun _ => 0))), (q_94, .inl (D.1 14, 5, .inl f_97))] H := hP
  have hD : va_D A [(h0, .inr (12, fs_93)), (q_1, .inl (D.1 13, 1600, .inl (fun _ => 0))), (q_4, .inl (D.1 13, 6, .inl (fun _ => 0))), (q_94, .inl (D.1 14, 5, .inl f_97))] := hD
  refine lv_dup hx hb dX12_init_450 rfl ?_
  refine lv_iconst (v := 3) hx hb dX12_init_451 (by decide) ?_
  refine lv_bipush (v := 101) hx hb dX12_init_452 (by decide) ?_
  refine va_cast hx hb hK hP hD hS 3 1 rfl rfl (z_in (by decide) (by decide)) dX12_init_454 (fun H locs hP hD hS => ?_)
  generalize hf_98 : upd _ _ _ = f_98 at hP hD
  have hP : va_P D vwCl [(h0, .inr (12, fs_93)), (q_1, .inl (D.1 13, 1600, .inl (fun _ => 0))), (q_4, .inl (D.1 13, 6, .inl (fun _ => 0))), (q_94, .inl (D.1 14, 5, .inl f_98))] H := hP
  have hD : va_D A [(h0, .inr (12, fs_93)), (q_1, .inl (D.1 13, 1600, .inl (fun _ => 0))), (q_4, .inl (D.1 13, 6, .inl (fun _ => 0))), (q_94, .inl (D.1 14, 5, .inl f_98))] := hD
  refine lv_dup hx hb dX12_init_455 rfl ?_
  refine lv_iconst (v := 4) hx hb dX12_init_456 (by decide) ?_
  refine lv_bipush (v := 108) hx hb dX12_init_457 (by decide) ?_
  refine va_cast hx hb hK hP hD hS 3 1 rfl rfl (z_in (by decide) (by decide)) dX12_init_459 (fun H locs hP hD hS => ?_)
  generalize hf_99 : upd _ _ _ = f_99 at hP hD
  have hP : va_P D vwCl [(h0, .inr (12, fs_93)), (q_1, .inl (D.1 13, 1600, .inl (fun _ => 0))), (q_4, .inl (D.1 13, 6, .inl (fun _ => 0))), (q_94, .inl (D.1 14, 5, .inl f_99))] H := hP
  have hD : va_D A [(h0, .inr (12, fs_93)), (q_1, .inl (D.1 13, 1600, .inl (fun _ => 0))), (q_4, .inl (D.1 13, 6, .inl (fun _ => 0))), (q_94, .inl (D.1 14, 5, .inl f_99))] := hD
  refine va_putF (D := D) (ci := 12) (v := .ref q_94) (ty := .array .char) (C := RX12) (T := TX12) (N := 116) hx hb ht inX12 tyX12 tyX12_ok nmX12 hown hK hP hD hS 0 rfl rfl 24 (by decide) (ht (.fieldLink RX12 60 "CloneVolumesModel" "levelWord" "[C") fl_X12_60) (fun _ h9 => h9) rfl hin rfl (by decide +kernel) rfl rfl (by rw [hlen]; decide) dX12_init_460 (fun H locs hP hD hS => ?_)
  have hP : va_P D vwCl [(h0, .inr (12, (fs_93.set 24 (.ref q_94)))), (q_1, .inl (D.1 13, 1600, .inl (fun _ => 0))), (q_4, .inl (D.1 13, 6, .inl (fun _ => 0))), (q_94, .inl (D.1 14, 5, .inl f_99))] H := hP
  have hD : va_D A [(h0, .inr (12, (fs_93.set 24 (.ref q_94)))), (q_1, .inl (D.1 13, 1600, .inl (fun _ => 0))), (q_4, .inl (D.1 13, 6, .inl (fun _ => 0))), (q_94, .inl (D.1 14, 5, .inl f_99))] := hD
  generalize hfs_100 : fs_93.set 24 (.ref q_94) = fs_100 at hP hD
  have hlen : fs_100.length = 116 := by rw [← hfs_100, List.length_set]; exact hlen
  have hP : va_P D vwCl [(h0, .inr (12, fs_100)), (q_1, .inl (D.1 13, 1600, .inl (fun _ => 0))), (q_4, .inl (D.1 13, 6, .inl (fun _ => 0))), (q_94, .inl (D.1 14, 5, .inl f_99))] H := hP
  have hD : va_D A [(h0, .inr (12, fs_100)), (q_1, .inl (D.1 13, 1600, .inl (fun _ => 0))), (q_4, .inl (D.1 13, 6, .inl (fun _ => 0))), (q_94, .inl (D.1 14, 5, .inl f_99))] := hD
  have hP := hP.sub (ws' := [(h0, .inr (12, fs_100)), (q_1, .inl (D.1 13, 1600, .inl (fun _ => 0))), (q_4, .inl (D.1 13, 6, .inl (fun _ => 0)))]) [0, 1, 2] rfl
  have hD := hD.sub (ws' := [(h0, .inr (12, fs_100)), (q_1, .inl (D.1 13, 1600, .inl (fun _ => 0))), (q_4, .inl (D.1 13, 6, .inl (fun _ => 0)))]) [0, 1, 2] (by decide) rfl
  exact kk q_81 q_88 q_94 fs_100 _ _ (by rw [← hfs_100, ← hfs_93, ← hfs_87]) hP hD hS
set_option maxHeartbeats 4000000 in
set_option maxRecDepth 100000 in
theorem cM_7 {h0 : Nat} {q_1 : Nat} {q_4 : Nat} (hx : p.tables.exec = Jvm.exec) (hb : c.code = cX12_init) (ht : ∀ w ∈ lw_gd, w.before args s = true) (hown : s.vm.findClass RX12 = some m.cls) (hin : meth.name = "<init>") (hK : va_K D vwCl (TY D) s) (hA : ∀ q : Nat, s.heap.size ≤ q → A q) (hRc : 80 ≤ R.cells) (hRs : 35050 ≤ R.slots) (hl : lv_has ls 1 [(0, .ref h0)]) {fs : List Value} (hlen : fs.length = 116) {H : Heap} {locs : List Loc} (hP : va_P D vwCl [(h0, .inr (12, fs)), (q_1, .inl (D.1 13, 1600, .inl (fun _ => 0))), (q_4, .inl (D.1 13, 6, .inl (fun _ => 0)))] H) (hD : va_D A [(h0, .inr (12, fs)), (q_1, .inl (D.1 13, 1600, .inl (fun _ => 0))), (q_4, .inl (D.1 13, 6, .inl (fun _ => 0)))]) (hS : va_S A s.heap H locs)
    (kk : ∀ (q_101 : Nat) (q_110 : Nat) (fs' : List Value) (H : Heap) (locs : List Loc), fs' = ((fs.set 25 (.ref q_101)).set 26 (.ref q_110)) → va_P D vwCl [(h0, .inr (12, fs')), (q_1, .inl (D.1 13, 1600, .inl (fun _ => 0))), (q_4, .inl (D.1 13, 6, .inl (fun _ => 0)))] H → va_D A [(h0, .inr (12, fs')), (q_1, .inl (D.1 13, 1600, .inl (fun _ => 0))), (q_4, .inl (D.1 13, 6, .inl (fun _ => 0)))] → va_S A s.heap H locs → W p l e R s m args below meth c H locs 18 1686 Q (F0 m 545 ls [])) : W p l e R s m args below meth c H locs 16 1673 Q (F0 m 463 ls []) := by
  refine lv_aload_n hx hb dX12_init_463 rfl (lv_at hl 0 rfl) ?_
  refine lv_bipush (v := 7) hx hb dX12_init_464 (by decide) ?_
  refine va_newa (atype := .char) (a0 := (7, .inl (fun _ => 0))) (ty := .char) (N' := 7) hx hb (ht _ ac_char) rfl hK hP hD hS hA (fun _ => rfl) (by decide) (by decide) (by decide) (Nat.le_trans (Nat.le_of_ble_eq_true rfl) hRc) (Nat.le_trans (Nat.le_of_ble_eq_true rfl) hRs) dX12_init_466 (fun q_101 cA H hK2 hP hD hS => ?_)
  obtain rfl := z_cls_char hK hK2
  refine W.widen (k := 17) (n := 1680) (Nat.le_of_ble_eq_true rfl) (Nat.le_of_ble_eq_true rfl) ?_
  have hP : va_P D vwCl [(h0, .inr (12, fs)), (q_1, .inl (D.1 13, 1600, .inl (fun _ => 0))), (q_4, .inl (D.1 13, 6, .inl (fun _ => 0))), (q_101, .inl (D.1 14, 7, .inl (fun _ => 0)))] H := hP
  have hD : va_D A [(h0, .inr (12, fs)), (q_1, .inl (D.1 13, 1600, .inl (fun _ => 0))), (q_4, .inl (D.1 13, 6, .inl (fun _ => 0))), (q_101, .inl (D.1 14, 7, .inl (fun _ => 0)))] := hD
  refine lv_dup hx hb dX12_init_468 rfl ?_
  refine lv_iconst (v := 0) hx hb dX12_init_469 (by decide) ?_
  refine lv_bipush (v := 101) hx hb dX12_init_470 (by decide) ?_
  refine va_cast hx hb hK hP hD hS 3 1 rfl rfl (z_in (by decide) (by decide)) dX12_init_472 (fun H locs hP hD hS => ?_)
  generalize hf_102 : upd _ _ _ = f_102 at hP hD
  have hP : va_P D vwCl [(h0, .inr (12, fs)), (q_1, .inl (D.1 13, 1600, .inl (fun _ => 0))), (q_4, .inl (D.1 13, 6, .inl (fun _ => 0))), (q_101, .inl (D.1 14, 7, .inl f_102))] H := hP
  have hD : va_D A [(h0, .inr (12, fs)), (q_1, .inl (D.1 13, 1600, .inl (fun _ => 0))), (q_4, .inl (D.1 13, 6, .inl (fun _ => 0))), (q_101, .inl (D.1 14, 7, .inl f_102))] := hD
  refine lv_dup hx hb dX12_init_473 rfl ?_
  refine lv_iconst (v := 1) hx hb dX12_init_474 (by decide) ?_
  refine lv_bipush (v := 110) hx hb dX12_init_475 (by decide) ?_
  refine va_cast hx hb hK hP hD hS 3 1 rfl rfl (z_in (by decide) (by decide)) dX12_init_477 (fun H locs hP hD hS => ?_)
  generalize hf_103 : upd _ _ _ = f_103 at hP hD
  have hP : va_P D vwCl [(h0, .inr (12, fs)), (q_1, .inl (D.1 13, 1600, .inl (fun _ => 0))), (q_4, .inl (D.1 13, 6, .inl (fun _ => 0))), (q_101, .inl (D.1 14, 7, .inl f_103))] H := hP
  have hD : va_D A [(h0, .inr (12, fs)), (q_1, .inl (D.1 13, 1600, .inl (fun _ => 0))), (q_4, .inl (D.1 13, 6, .inl (fun _ => 0))), (q_101, .inl (D.1 14, 7, .inl f_103))] := hD
  refine lv_dup hx hb dX12_init_478 rfl ?_
  refine lv_iconst (v := 2) hx hb dX12_init_479 (by decide) ?_
  refine lv_bipush (v := 116) hx hb dX12_init_480 (by decide) ?_
  refine va_cast hx hb hK hP hD hS 3 1 rfl rfl (z_in (by decide) (by decide)) dX12_init_482 (fun H locs hP hD hS => ?_)
  generalize hf_104 : upd _ _ _ = f_104 at hP hD
  have hP : va_P D vwCl [(h0, .inr (12, fs)), (q_1, .inl (D.1 13, 1600, .inl (fun _ => 0))), (q_4, .inl (D.1 13, 6, .inl (fun _ => 0))), (q_101, .inl (D.1 14, 7, .inl f_104))] H := hP
  have hD : va_D A [(h0, .inr (12, fs)), (q_1, .inl (D.1 13, 1600, .inl (fun _ => 0))), (q_4, .inl (D.1 13, 6, .inl (fun _ => 0))), (q_101, .inl (D.1 14, 7, .inl f_104))] := hD
  refine lv_dup hx hb dX12_init_483 rfl ?_
  refine lv_iconst (v := 3) hx hb dX12_init_484 (by decide) ?_
  refine lv_bipush (v := 114) hx hb dX12_init_485 (by decide) ?_
  refine va_cast hx hb hK hP hD hS 3 1 rfl rfl (z_in (by decide) (by decide)) dX12_init_487 (fun H locs hP hD hS => ?_)
  generalize hf_105 : upd _ _ _ = f_105 at hP hD
  have hP : va_P D vwCl [(h0, .inr (12, fs)), (q_1, .inl (D.1 13, 1600, .inl (fun _ => 0))), (q_4, .inl (D.1 13, 6, .inl (fun _ => 0))), (q_101, .inl (D.1 14, 7, .inl f_105))] H := hP
  have hD : va_D A [(h0, .inr (12, fs)), (q_1, .inl (D.1 13, 1600, .inl (fun _ => 0))), (q_4, .inl (D.1 13, 6, .inl (fun _ => 0))), (q_101, .inl (D.1 14, 7, .inl f_105))] := hD
  refine lv_dup hx hb dX12_init_488 rfl ?_
  refine lv_iconst (v := 4) hx hb dX12_init_489 (by decide) ?_
  refine lv_bipush (v := 105) hx hb dX12_init_490 (by decide) ?_
  refine va_cast hx hb hK hP hD hS 3 1 rfl rfl (z_in (by decide) (by decide)) dX12_init_492 (fun H locs hP hD hS => ?_)
  generalize hf_106 : upd _ _ _ = f_106 at hP hD
  have hP : va_P D vwCl [(h0, .inr (12, fs)), (q_1, .inl (D.1 13, 1600, .inl (fun _ => 0))), (q_4, .inl (D.1 13, 6, .inl (fun _ => 0))), (q_101, .inl (D.1 14, 7, .inl f_106))] H := hP
  have hD : va_D A [(h0, .inr (12, fs)), (q_1, .inl (D.1 13, 1600, .inl (fun _ => 0))), (q_4, .inl (D.1 13, 6, .inl (fun _ => 0))), (q_101, .inl (D.1 14, 7, .inl f_106))] := hD
  refine lv_dup hx hb dX12_init_493 rfl ?_
  refine lv_iconst (v := 5) hx hb dX12_init_494 (by decide) ?_
  refine lv_bipush (v := 101) hx hb dX12_init_495 (by decide) ?_
  refine va_cast hx hb hK hP hD hS 3 1 rfl rfl (z_in (by decide) (by decide)) dX12_init_497 (fun H locs hP hD hS => ?_)
  generalize hf_107 : upd _ _ _ = f_107 at hP hD
  have hP : va_P D vwCl [(h0, .inr (12, fs)), (q_1, .inl (D.1 13, 1600, .inl (fun _ => 0))), (q_4, .inl (D.1 13, 6, .inl (fun _ => 0))), (q_101, .inl (D.1 14, 7, .inl f_107))] H := hP
  have hD : va_D A [(h0, .inr (12, fs)), (q_1, .inl (D.1 13, 1600, .inl (fun _ => 0))), (q_4, .inl (D.1 13, 6, .inl (fun _ => 0))), (q_101, .inl (D.1 14, 7, .inl f_107))] := hD
  refine lv_dup hx hb dX12_init_498 rfl ?_
  refine lv_bipush (v := 6) hx hb dX12_init_499 (by decide) ?_
  refine lv_bipush (v := 115) hx hb dX12_init_501 (by decide) ?_
  refine va_cast hx hb hK hP hD hS 3 1 rfl rfl (z_in (by decide) (by decide)) dX12_init_503 (fun H locs hP hD hS => ?_)
  generalize hf_108 : upd _ _ _ = f_108 at hP hD
  have hP : va_P D vwCl [(h0, .inr (12, fs)), (q_1, .inl (D.1 13, 1600, .inl (fun _ => 0))), (q_4, .inl (D.1 13, 6, .inl (fun _ => 0))), (q_101, .inl (D.1 14, 7, .inl f_108))] H := hP
  have hD : va_D A [(h0, .inr (12, fs)), (q_1, .inl (D.1 13, 1600, .inl (fun _ => 0))), (q_4, .inl (D.1 13, 6, .inl (fun _ => 0))), (q_101, .inl (D.1 14, 7, .inl f_108))] := hD
  refine va_putF (D := D) (ci := 12) (v := .ref q_101) (ty := .array .char) (C := RX12) (T := TX12) (N := 116) hx hb ht inX12 tyX12 tyX12_ok nmX12 hown hK hP hD hS 0 rfl rfl 25 (by decide) (ht (.fieldLink RX12 63 "CloneVolumesModel" "entriesWord" "[C") fl_X12_63) (fun _ h9 => h9) rfl hin rfl (by decide +kernel) rfl rfl (by rw [hlen]; decide) dX12_init_504 (fun H locs hP hD hS => ?_)
  have hP : va_P D vwCl [(h0, .inr (12, (fs.set 25 (.ref q_101)))), (q_1, .inl (D.1 13, 1600, .inl (fun _ => 0))), (q_4, .inl (D.1 13, 6, .inl (fun _ => 0))), (q_101, .inl (D.1 14, 7, .inl f_108))] H := hP
  have hD : va_D A [(h0, .inr (12, (fs.set 25 (.ref q_101)))), (q_1, .inl (D.1 13, 1600, .inl (fun _ => 0))), (q_4, .inl (D.1 13, 6, .inl (fun _ => 0))), (q_101, .inl (D.1 14, 7, .inl f_108))] := hD
  generalize hfs_109 : fs.set 25 (.ref q_101) = fs_109 at hP hD
  have hlen : fs_109.length = 116 := by rw [← hfs_109, List.length_set]; exact hlen
  have hP : va_P D vwCl [(h0, .inr (12, fs_109)), (q_1, .inl (D.1 13, 1600, .inl (fun _ => 0))), (q_4, .inl (D.1 13, 6, .inl (fun _ => 0))), (q_101, .inl (D.1 14, 7, .inl f_108))] H := hP
  have hD : va_D A [(h0, .inr (12, fs_109)), (q_1, .inl (D.1 13, 1600, .inl (fun _ => 0))), (q_4, .inl (D.1 13, 6, .inl (fun _ => 0))), (q_101, .inl (D.1 14, 7, .inl f_108))] := hD
  have hP := hP.sub (ws' := [(h0, .inr (12, fs_109)), (q_1, .inl (D.1 13, 1600, .inl (fun _ => 0))), (q_4, .inl (D.1 13, 6, .inl (fun _ => 0)))]) [0, 1, 2] rfl
  have hD := hD.sub (ws' := [(h0, .inr (12, fs_109)), (q_1, .inl (D.1 13, 1600, .inl (fun _ => 0))), (q_4, .inl (D.1 13, 6, .inl (fun _ => 0)))]) [0, 1, 2] (by decide) rfl
  refine lv_aload_n hx hb dX12_init_507 rfl (lv_at hl 0 rfl) ?_
  refine lv_bipush (v := 6) hx hb dX12_init_508 (by decide) ?_
  refine va_newa (atype := .char) (a0 := (6, .inl (fun _ => 0))) (ty := .char) (N' := 6) hx hb (ht _ ac_char) rfl hK hP hD hS hA (fun _ => rfl) (by decide) (by decide) (by decide) (Nat.le_trans (Nat.le_of_ble_eq_true rfl) hRc) (Nat.le_trans (Nat.le_of_ble_eq_true rfl) hRs) dX12_init_510 (fun q_110 cA H hK2 hP hD hS => ?_)
  obtain rfl := z_cls_char hK hK2
  refine W.widen (k := 18) (n := 1686) (Nat.le_of_ble_eq_true rfl) (Nat.le_of_ble_eq_true rfl) ?_
  have hP : va_P D vwCl [(h0, .inr (12, fs_109)), (q_1, .inl (D.1 13, 1600, .inl (fun _ => 0))), (q_4, .inl (D.1 13, 6, .inl (fun _ => 0))), (q_110, .inl (D.1 14, 6, .inl (fun _ => 0)))] H := hP
  have hD : va_D A [(h0, .inr (12, fs_109)), (q_1, .inl (D.1 13, 1600, .inl (fun _ => 0))), (q_4, .inl (D.1 13, 6, .inl (fun _ => 0))), (q_110, .inl (D.1 14, 6, .inl (fun _ => 0)))] := hD
  refine lv_dup hx hb dX12_init_512 rfl ?_
  refine lv_iconst (v := 0) hx hb dX12_init_513 (by decide) ?_
  refine lv_bipush (v := 110) hx hb dX12_init_514 (by decide) ?_
  refine va_cast hx hb hK hP hD hS 3 1 rfl rfl (z_in (by decide) (by decide)) dX12_init_516 (fun H locs hP hD hS => ?_)
  generalize hf_111 : upd _ _ _ = f_111 at hP hD
  have hP : va_P D vwCl [(h0, .inr (12, fs_109)), (q_1, .inl (D.1 13, 1600, .inl (fun _ => 0))), (q_4, .inl (D.1 13, 6, .inl (fun _ => 0))), (q_110, .inl (D.1 14, 6, .inl f_111))] H := hP
  have hD : va_D A [(h0, .inr (12, fs_109)), (q_1, .inl (D.1 13, 1600, .inl (fun _ => 0))), (q_4, .inl (D.1 13, 6, .inl (fun _ => 0))), (q_110, .inl (D.1 14, 6, .inl f_111))] := hD
  refine lv_dup hx hb dX12_init_517 rfl ?_
  refine lv_iconst (v := 1) hx hb dX12_init_518 (by decide) ?_
  refine lv_bipush (v := 117) hx hb dX12_init_519 (by decide) ?_
  refine va_cast hx hb hK hP hD hS 3 1 rfl rfl (z_in (by decide) (by decide)) dX12_init_521 (fun H locs hP hD hS => ?_)
  generalize hf_112 : upd _ _ _ = f_112 at hP hD
  have hP : va_P D vwCl [(h0, .inr (12, fs_109)), (q_1, .inl (D.1 13, 1600, .inl (fun _ => 0))), (q_4, .inl (D.1 13, 6, .inl (fun _ => 0))), (q_110, .inl (D.1 14, 6, .inl f_112))] H := hP
  have hD : va_D A [(h0, .inr (12, fs_109)), (q_1, .inl (D.1 13, 1600, .inl (fun _ => 0))), (q_4, .inl (D.1 13, 6, .inl (fun _ => 0))), (q_110, .inl (D.1 14, 6, .inl f_112))] := hD
  refine lv_dup hx hb dX12_init_522 rfl ?_
  refine lv_iconst (v := 2) hx hb dX12_init_523 (by decide) ?_
  refine lv_bipush (v := 109) hx hb dX12_init_524 (by decide) ?_
  refine va_cast hx hb hK hP hD hS 3 1 rfl rfl (z_in (by decide) (by decide)) dX12_init_526 (fun H locs hP hD hS => ?_)
  generalize hf_113 : upd _ _ _ = f_113 at hP hD
  have hP : va_P D vwCl [(h0, .inr (12, fs_109)), (q_1, .inl (D.1 13, 1600, .inl (fun _ => 0))), (q_4, .inl (D.1 13, 6, .inl (fun _ => 0))), (q_110, .inl (D.1 14, 6, .inl f_113))] H := hP
  have hD : va_D A [(h0, .inr (12, fs_109)), (q_1, .inl (D.1 13, 1600, .inl (fun _ => 0))), (q_4, .inl (D.1 13, 6, .inl (fun _ => 0))), (q_110, .inl (D.1 14, 6, .inl f_113))] := hD
  refine lv_dup hx hb dX12_init_527 rfl ?_
  refine lv_iconst (v := 3) hx hb dX12_init_528 (by decide) ?_
  refine lv_bipush (v := 98) hx hb dX12_init_529 (by decide) ?_
  refine va_cast hx hb hK hP hD hS 3 1 rfl rfl (z_in (by decide) (by decide)) dX12_init_531 (fun H locs hP hD hS => ?_)
  generalize hf_114 : upd _ _ _ = f_114 at hP hD
  have hP : va_P D vwCl [(h0, .inr (12, fs_109)), (q_1, .inl (D.1 13, 1600, .inl (fun _ => 0))), (q_4, .inl (D.1 13, 6, .inl (fun _ => 0))), (q_110, .inl (D.1 14, 6, .inl f_114))] H := hP
  have hD : va_D A [(h0, .inr (12, fs_109)), (q_1, .inl (D.1 13, 1600, .inl (fun _ => 0))), (q_4, .inl (D.1 13, 6, .inl (fun _ => 0))), (q_110, .inl (D.1 14, 6, .inl f_114))] := hD
  refine lv_dup hx hb dX12_init_532 rfl ?_
  refine lv_iconst (v := 4) hx hb dX12_init_533 (by decide) ?_
  refine lv_bipush (v := 101) hx hb dX12_init_534 (by decide) ?_
  refine va_cast hx hb hK hP hD hS 3 1 rfl rfl (z_in (by decide) (by decide)) dX12_init_536 (fun H locs hP hD hS => ?_)
  generalize hf_115 : upd _ _ _ = f_115 at hP hD
  have hP : va_P D vwCl [(h0, .inr (12, fs_109)), (q_1, .inl (D.1 13, 1600, .inl (fun _ => 0))), (q_4, .inl (D.1 13, 6, .inl (fun _ => 0))), (q_110, .inl (D.1 14, 6, .inl f_115))] H := hP
  have hD : va_D A [(h0, .inr (12, fs_109)), (q_1, .inl (D.1 13, 1600, .inl (fun _ => 0))), (q_4, .inl (D.1 13, 6, .inl (fun _ => 0))), (q_110, .inl (D.1 14, 6, .inl f_115))] := hD
  refine lv_dup hx hb dX12_init_537 rfl ?_
  refine lv_iconst (v := 5) hx hb dX12_init_538 (by decide) ?_
  refine lv_bipush (v := 114) hx hb dX12_init_539 (by decide) ?_
  refine va_cast hx hb hK hP hD hS 3 1 rfl rfl (z_in (by decide) (by decide)) dX12_init_541 (fun H locs hP hD hS => ?_)
  generalize hf_116 : upd _ _ _ = f_116 at hP hD
  have hP : va_P D vwCl [(h0, .inr (12, fs_109)), (q_1, .inl (D.1 13, 1600, .inl (fun _ => 0))), (q_4, .inl (D.1 13, 6, .inl (fun _ => 0))), (q_110, .inl (D.1 14, 6, .inl f_116))] H := hP
  have hD : va_D A [(h0, .inr (12, fs_109)), (q_1, .inl (D.1 13, 1600, .inl (fun _ => 0))), (q_4, .inl (D.1 13, 6, .inl (fun _ => 0))), (q_110, .inl (D.1 14, 6, .inl f_116))] := hD
  refine va_putF (D := D) (ci := 12) (v := .ref q_110) (ty := .array .char) (C := RX12) (T := TX12) (N := 116) hx hb ht inX12 tyX12 tyX12_ok nmX12 hown hK hP hD hS 0 rfl rfl 26 (by decide) (ht (.fieldLink RX12 66 "CloneVolumesModel" "numberWord" "[C") fl_X12_66) (fun _ h9 => h9) rfl hin rfl (by decide +kernel) rfl rfl (by rw [hlen]; decide) dX12_init_542 (fun H locs hP hD hS => ?_)
  have hP : va_P D vwCl [(h0, .inr (12, (fs_109.set 26 (.ref q_110)))), (q_1, .inl (D.1 13, 1600, .inl (fun _ => 0))), (q_4, .inl (D.1 13, 6, .inl (fun _ => 0))), (q_110, .inl (D.1 14, 6, .inl f_116))] H := hP
  have hD : va_D A [(h0, .inr (12, (fs_109.set 26 (.ref q_110)))), (q_1, .inl (D.1 13, 1600, .inl (fun _ => 0))), (q_4, .inl (D.1 13, 6, .inl (fun _ => 0))), (q_110, .inl (D.1 14, 6, .inl f_116))] := hD
  generalize hfs_117 : fs_109.set 26 (.ref q_110) = fs_117 at hP hD
  have hlen : fs_117.length = 116 := by rw [← hfs_117, List.length_set]; exact hlen
  have hP : va_P D vwCl [(h0, .inr (12, fs_117)), (q_1, .inl (D.1 13, 1600, .inl (fun _ => 0))), (q_4, .inl (D.1 13, 6, .inl (fun _ => 0))), (q_110, .inl (D.1 14, 6, .inl f_116))] H := hP
  have hD : va_D A [(h0, .inr (12, fs_117)), (q_1, .inl (D.1 13, 1600, .inl (fun _ => 0))), (q_4, .inl (D.1 13, 6, .inl (fun _ => 0))), (q_110, .inl (D.1 14, 6, .inl f_116))] := hD
  have hP := hP.sub (ws' := [(h0, .inr (12, fs_117)), (q_1, .inl (D.1 13, 1600, .inl (fun _ => 0))), (q_4, .inl (D.1 13, 6, .inl (fun _ => 0)))]) [0, 1, 2] rfl
  have hD := hD.sub (ws' := [(h0, .inr (12, fs_117)), (q_1, .inl (D.1 13, 1600, .inl (fun _ => 0))), (q_4, .inl (D.1 13, 6, .inl (fun _ => 0)))]) [0, 1, 2] (by decide) rfl
  exact kk q_101 q_110 fs_117 _ _ (by rw [← hfs_117, ← hfs_109]) hP hD hS
set_option maxHeartbeats 4000000 in
set_option maxRecDepth 100000 in
theorem cM_8 {h0 : Nat} {q_1 : Nat} {q_4 : Nat} (hx : p.tables.exec = Jvm.exec) (hb : c.code = cX12_init) (ht : ∀ w ∈ lw_gd, w.before args s = true) (hown : s.vm.findClass RX12 = some m.cls) (hin : meth.name = "<init>") (hK : va_K D vwCl (TY D) s) (hA : ∀ q : Nat, s.heap.size ≤ q → A q) (hRc : 80 ≤ R.cells) (hRs : 35050 ≤ R.slots) (hl : lv_has ls 1 [(0, .ref h0)]) {fs : List Value} (hlen : fs.length = 116) {H : Heap} {locs : List Loc} (hP : va_P D vwCl [(h0, .inr (12, fs)), (q_1, .inl (D.1 13, 1600, .inl (fun _ => 0))), (q_4, .inl (D.1 13, 6, .inl (fun _ => 0)))] H) (hD : va_D A [(h0, .inr (12, fs)), (q_1, .inl (D.1 13, 1600, .inl (fun _ => 0))), (q_4, .inl (D.1 13, 6, .inl (fun _ => 0)))]) (hS : va_S A s.heap H locs)
    (kk : ∀ (q_118 : Nat) (q_125 : Nat) (fs' : List Value) (H : Heap) (locs : List Loc), fs' = ((fs.set 27 (.ref q_118)).set 28 (.ref q_125)) → va_P D vwCl [(h0, .inr (12, fs')), (q_1, .inl (D.1 13, 1600, .inl (fun _ => 0))), (q_4, .inl (D.1 13, 6, .inl (fun _ => 0)))] H → va_D A [(h0, .inr (12, fs')), (q_1, .inl (D.1 13, 1600, .inl (fun _ => 0))), (q_4, .inl (D.1 13, 6, .inl (fun _ => 0)))] → va_S A s.heap H locs → W p l e R s m args below meth c H locs 20 1696 Q (F0 m 609 ls [])) : W p l e R s m args below meth c H locs 18 1686 Q (F0 m 545 ls []) := by
  refine lv_aload_n hx hb dX12_init_545 rfl (lv_at hl 0 rfl) ?_
  refine lv_iconst (v := 5) hx hb dX12_init_546 (by decide) ?_
  refine va_newa (atype := .char) (a0 := (5, .inl (fun _ => 0))) (ty := .char) (N' := 5) hx hb (ht _ ac_char) rfl hK hP hD hS hA (fun _ => rfl) (by decide) (by decide) (by decide) (Nat.le_trans (Nat.le_of_ble_eq_true rfl) hRc) (Nat.le_trans (Nat.le_of_ble_eq_true rfl) hRs) dX12_init_547 (fun q_118 cA H hK2 hP hD hS => ?_)
  obtain rfl := z_cls_char hK hK2
  refine W.widen (k := 19) (n := 1691) (Nat.le_of_ble_eq_true rfl) (Nat.le_of_ble_eq_true rfl) ?_
  have hP : va_P D vwCl [(h0, .inr (12, fs)), (q_1, .inl (D.1 13, 1600, .inl (fun _ => 0))), (q_4, .inl (D.1 13, 6, .inl (fun _ => 0))), (q_118, .inl (D.1 14, 5, .inl (fun _ => 0)))] H := hP
  have hD : va_D A [(h0, .inr (12, fs)), (q_1, .inl (D.1 13, 1600, .inl (fun _ => 0))), (q_4, .inl (D.1 13, 6, .inl (fun _ => 0))), (q_118, .inl (D.1 14, 5, .inl (fun _ => 0)))] := hD
  refine lv_dup hx hb dX12_init_549 rfl ?_
  refine lv_iconst (v := 0) hx hb dX12_init_550 (by decide) ?_
  refine lv_bipush (v := 99) hx hb dX12_init_551 (by decide) ?_
  refine va_cast hx hb hK hP hD hS 3 1 rfl rfl (z_in (by decide) (by decide)) dX12_init_553 (fun H locs hP hD hS => ?_)
  generalize hf_119 : upd _ _ _ = f_119 at hP hD
  have hP : va_P D vwCl [(h0, .inr (12, fs)), (q_1, .inl (D.1 13, 1600, .inl (fun _ => 0))), (q_4, .inl (D.1 13, 6, .inl (fun _ => 0))), (q_118, .inl (D.1 14, 5, .inl f_119))] H := hP
  have hD : va_D A [(h0, .inr (12, fs)), (q_1, .inl (D.1 13, 1600, .inl (fun _ => 0))), (q_4, .inl (D.1 13, 6, .inl (fun _ => 0))), (q_118, .inl (D.1 14, 5, .inl f_119))] := hD
  refine lv_dup hx hb dX12_init_554 rfl ?_
  refine lv_iconst (v := 1) hx hb dX12_init_555 (by decide) ?_
  refine lv_bipush (v := 111) hx hb dX12_init_556 (by decide) ?_
  refine va_cast hx hb hK hP hD hS 3 1 rfl rfl (z_in (by decide) (by decide)) dX12_init_558 (fun H locs hP hD hS => ?_)
  generalize hf_120 : upd _ _ _ = f_120 at hP hD
  have hP : va_P D vwCl [(h0, .inr (12, fs)), (q_1, .inl (D.1 13, 1600, .inl (fun _ => 0))), (q_4, .inl (D.1 13, 6, .inl (fun _ => 0))), (q_118, .inl (D.1 14, 5, .inl f_120))] H := hP
  have hD : va_D A [(h0, .inr (12, fs)), (q_1, .inl (D.1 13, 1600, .inl (fun _ => 0))), (q_4, .inl (D.1 13, 6, .inl (fun _ => 0))), (q_118, .inl (D.1 14, 5, .inl f_120))] := hD
  refine lv_dup hx hb dX12_init_559 rfl ?_
  refine lv_iconst (v := 2) hx hb dX12_init_560 (by decide) ?_
  refine lv_bipush (v := 117) hx hb dX12_init_561 (by decide) ?_
  refine va_cast hx hb hK hP hD hS 3 1 rfl rfl (z_in (by decide) (by decide)) dX12_init_563 (fun H locs hP hD hS => ?_)
  generalize hf_121 : upd _ _ _ = f_121 at hP hD
  have hP : va_P D vwCl [(h0, .inr (12, fs)), (q_1, .inl (D.1 13, 1600, .inl (fun _ => 0))), (q_4, .inl (D.1 13, 6, .inl (fun _ => 0))), (q_118, .inl (D.1 14, 5, .inl f_121))] H := hP
  have hD : va_D A [(h0, .inr (12, fs)), (q_1, .inl (D.1 13, 1600, .inl (fun _ => 0))), (q_4, .inl (D.1 13, 6, .inl (fun _ => 0))), (q_118, .inl (D.1 14, 5, .inl f_121))] := hD
  refine lv_dup hx hb dX12_init_564 rfl ?_
  refine lv_iconst (v := 3) hx hb dX12_init_565 (by decide) ?_
  refine lv_bipush (v := 110) hx hb dX12_init_566 (by decide) ?_
  refine va_cast hx hb hK hP hD hS 3 1 rfl rfl (z_in (by decide) (by decide)) dX12_init_568 (fun H locs hP hD hS => ?_)
  generalize hf_122 : upd _ _ _ = f_122 at hP hD
  have hP : va_P D vwCl [(h0, .inr (12, fs)), (q_1, .inl (D.1 13, 1600, .inl (fun _ => 0))), (q_4, .inl (D.1 13, 6, .inl (fun _ => 0))), (q_118, .inl (D.1 14, 5, .inl f_122))] H := hP
  have hD : va_D A [(h0, .inr (12, fs)), (q_1, .inl (D.1 13, 1600, .inl (fun _ => 0))), (q_4, .inl (D.1 13, 6, .inl (fun _ => 0))), (q_118, .inl (D.1 14, 5, .inl f_122))] := hD
  refine lv_dup hx hb dX12_init_569 rfl ?_
  refine lv_iconst (v := 4) hx hb dX12_init_570 (by decide) ?_
  refine lv_bipush (v := 116) hx hb dX12_init_571 (by decide) ?_
  refine va_cast hx hb hK hP hD hS 3 1 rfl rfl (z_in (by decide) (by decide)) dX12_init_573 (fun H locs hP hD hS => ?_)
  generalize hf_123 : upd _ _ _ = f_123 at hP hD
  have hP : va_P D vwCl [(h0, .inr (12, fs)), (q_1, .inl (D.1 13, 1600, .inl (fun _ => 0))), (q_4, .inl (D.1 13, 6, .inl (fun _ => 0))), (q_118, .inl (D.1 14, 5, .inl f_123))] H := hP
  have hD : va_D A [(h0, .inr (12, fs)), (q_1, .inl (D.1 13, 1600, .inl (fun _ => 0))), (q_4, .inl (D.1 13, 6, .inl (fun _ => 0))), (q_118, .inl (D.1 14, 5, .inl f_123))] := hD
  refine va_putF (D := D) (ci := 12) (v := .ref q_118) (ty := .array .char) (C := RX12) (T := TX12) (N := 116) hx hb ht inX12 tyX12 tyX12_ok nmX12 hown hK hP hD hS 0 rfl rfl 27 (by decide) (ht (.fieldLink RX12 69 "CloneVolumesModel" "countWord" "[C") fl_X12_69) (fun _ h9 => h9) rfl hin rfl (by decide +kernel) rfl rfl (by rw [hlen]; decide) dX12_init_574 (fun H locs hP hD hS => ?_)
  have hP : va_P D vwCl [(h0, .inr (12, (fs.set 27 (.ref q_118)))), (q_1, .inl (D.1 13, 1600, .inl (fun _ => 0))), (q_4, .inl (D.1 13, 6, .inl (fun _ => 0))), (q_118, .inl (D.1 14, 5, .inl f_123))] H := hP
  have hD : va_D A [(h0, .inr (12, (fs.set 27 (.ref q_118)))), (q_1, .inl (D.1 13, 1600, .inl (fun _ => 0))), (q_4, .inl (D.1 13, 6, .inl (fun _ => 0))), (q_118, .inl (D.1 14, 5, .inl f_123))] := hD
  generalize hfs_124 : fs.set 27 (.ref q_118) = fs_124 at hP hD
  have hlen : fs_124.length = 116 := by rw [← hfs_124, List.length_set]; exact hlen
  have hP : va_P D vwCl [(h0, .inr (12, fs_124)), (q_1, .inl (D.1 13, 1600, .inl (fun _ => 0))), (q_4, .inl (D.1 13, 6, .inl (fun _ => 0))), (q_118, .inl (D.1 14, 5, .inl f_123))] H := hP
  have hD : va_D A [(h0, .inr (12, fs_124)), (q_1, .inl (D.1 13, 1600, .inl (fun _ => 0))), (q_4, .inl (D.1 13, 6, .inl (fun _ => 0))), (q_118, .inl (D.1 14, 5, .inl f_123))] := hD
  have hP := hP.sub (ws' := [(h0, .inr (12, fs_124)), (q_1, .inl (D.1 13, 1600, .inl (fun _ => 0))), (q_4, .inl (D.1 13, 6, .inl (fun _ => 0)))]) [0, 1, 2] rfl
  have hD := hD.sub (ws' := [(h0, .inr (12, fs_124)), (q_1, .inl (D.1 13, 1600, .inl (fun _ => 0))), (q_4, .inl (D.1 13, 6, .inl (fun _ => 0)))]) [0, 1, 2] (by decide) rfl
  refine lv_aload_n hx hb dX12_init_577 rfl (lv_at hl 0 rfl) ?_
  refine lv_iconst (v := 5) hx hb dX12_init_578 (by decide) ?_
  refine va_newa (atype := .char) (a0 := (5, .inl (fun _ => 0))) (ty := .char) (N' := 5) hx hb (ht _ ac_char) rfl hK hP hD hS hA (fun _ => rfl) (by decide) (by decide) (by decide) (Nat.le_trans (Nat.le_of_ble_eq_true rfl) hRc) (Nat.le_trans (Nat.le_of_ble_eq_true rfl) hRs) dX12_init_579 (fun q_125 cA H hK2 hP hD hS => ?_)
  obtain rfl := z_cls_char hK hK2
  refine W.widen (k := 20) (n := 1696) (Nat.le_of_ble_eq_true rfl) (Nat.le_of_ble_eq_true rfl) ?_
  have hP : va_P D vwCl [(h0, .inr (12, fs_124)), (q_1, .inl (D.1 13, 1600, .inl (fun _ => 0))), (q_4, .inl (D.1 13, 6, .inl (fun _ => 0))), (q_125, .inl (D.1 14, 5, .inl (fun _ => 0)))] H := hP
  have hD : va_D A [(h0, .inr (12, fs_124)), (q_1, .inl (D.1 13, 1600, .inl (fun _ => 0))), (q_4, .inl (D.1 13, 6, .inl (fun _ => 0))), (q_125, .inl (D.1 14, 5, .inl (fun _ => 0)))] := hD
  refine lv_dup hx hb dX12_init_581 rfl ?_
  refine lv_iconst (v := 0) hx hb dX12_init_582 (by decide) ?_
  refine lv_bipush (v := 102) hx hb dX12_init_583 (by decide) ?_
  refine va_cast hx hb hK hP hD hS 3 1 rfl rfl (z_in (by decide) (by decide)) dX12_init_585 (fun H locs hP hD hS => ?_)
  generalize hf_126 : upd _ _ _ = f_126 at hP hD
  have hP : va_P D vwCl [(h0, .inr (12, fs_124)), (q_1, .inl (D.1 13, 1600, .inl (fun _ => 0))), (q_4, .inl (D.1 13, 6, .inl (fun _ => 0))), (q_125, .inl (D.1 14, 5, .inl f_126))] H := hP
  have hD : va_D A [(h0, .inr (12, fs_124)), (q_1, .inl (D.1 13, 1600, .inl (fun _ => 0))), (q_4, .inl (D.1 13, 6, .inl (fun _ => 0))), (q_125, .inl (D.1 14, 5, .inl f_126))] := hD
  refine lv_dup hx hb dX12_init_586 rfl ?_
  refine lv_iconst (v := 1) hx hb dX12_init_587 (by decide) ?_
  refine lv_bipush (v := 114) hx hb dX12_init_588 (by decide) ?_
  refine va_cast hx hb hK hP hD hS 3 1 rfl rfl (z_in (by decide) (by decide)) dX12_init_590 (fun H locs hP hD hS => ?_)
  generalize hf_127 : upd _ _ _ = f_127 at hP hD
  have hP : va_P D vwCl [(h0, .inr (12, fs_124)), (q_1, .inl (D.1 13, 1600, .inl (fun _ => 0))), (q_4, .inl (D.1 13, 6, .inl (fun _ => 0))), (q_125, .inl (D.1 14, 5, .inl f_127))] H := hP
  have hD : va_D A [(h0, .inr (12, fs_124)), (q_1, .inl (D.1 13, 1600, .inl (fun _ => 0))), (q_4, .inl (D.1 13, 6, .inl (fun _ => 0))), (q_125, .inl (D.1 14, 5, .inl f_127))] := hD
  refine lv_dup hx hb dX12_init_591 rfl ?_
  refine lv_iconst (v := 2) hx hb dX12_init_592 (by decide) ?_
  refine lv_bipush (v := 101) hx hb dX12_init_593 (by decide) ?_
  refine va_cast hx hb hK hP hD hS 3 1 rfl rfl (z_in (by decide) (by decide)) dX12_init_595 (fun H locs hP hD hS => ?_)
  generalize hf_128 : upd _ _ _ = f_128 at hP hD
  have hP : va_P D vwCl [(h0, .inr (12, fs_124)), (q_1, .inl (D.1 13, 1600, .inl (fun _ => 0))), (q_4, .inl (D.1 13, 6, .inl (fun _ => 0))), (q_125, .inl (D.1 14, 5, .inl f_128))] H := hP
  have hD : va_D A [(h0, .inr (12, fs_124)), (q_1, .inl (D.1 13, 1600, .inl (fun _ => 0))), (q_4, .inl (D.1 13, 6, .inl (fun _ => 0))), (q_125, .inl (D.1 14, 5, .inl f_128))] := hD
  refine lv_dup hx hb dX12_init_596 rfl ?_
  refine lv_iconst (v := 3) hx hb dX12_init_597 (by decide) ?_
  refine lv_bipush (v := 115) hx hb dX12_init_598 (by decide) ?_
  refine va_cast hx hb hK hP hD hS 3 1 rfl rfl (z_in (by decide) (by decide)) dX12_init_600 (fun H locs hP hD hS => ?_)
  generalize hf_129 : upd _ _ _ = f_129 at hP hD
  have hP : va_P D vwCl [(h0, .inr (12, fs_124)), (q_1, .inl (D.1 13, 1600, .inl (fun _ => 0))), (q_4, .inl (D.1 13, 6, .inl (fun _ => 0))), (q_125, .inl (D.1 14, 5, .inl f_129))] H := hP
  have hD : va_D A [(h0, .inr (12, fs_124)), (q_1, .inl (D.1 13, 1600, .inl (fun _ => 0))), (q_4, .inl (D.1 13, 6, .inl (fun _ => 0))), (q_125, .inl (D.1 14, 5, .inl f_129))] := hD
  refine lv_dup hx hb dX12_init_601 rfl ?_
  refine lv_iconst (v := 4) hx hb dX12_init_602 (by decide) ?_
  refine lv_bipush (v := 104) hx hb dX12_init_603 (by decide) ?_
  refine va_cast hx hb hK hP hD hS 3 1 rfl rfl (z_in (by decide) (by decide)) dX12_init_605 (fun H locs hP hD hS => ?_)
  generalize hf_130 : upd _ _ _ = f_130 at hP hD
  have hP : va_P D vwCl [(h0, .inr (12, fs_124)), (q_1, .inl (D.1 13, 1600, .inl (fun _ => 0))), (q_4, .inl (D.1 13, 6, .inl (fun _ => 0))), (q_125, .inl (D.1 14, 5, .inl f_130))] H := hP
  have hD : va_D A [(h0, .inr (12, fs_124)), (q_1, .inl (D.1 13, 1600, .inl (fun _ => 0))), (q_4, .inl (D.1 13, 6, .inl (fun _ => 0))), (q_125, .inl (D.1 14, 5, .inl f_130))] := hD
  refine va_putF (D := D) (ci := 12) (v := .ref q_125) (ty := .array .char) (C := RX12) (T := TX12) (N := 116) hx hb ht inX12 tyX12 tyX12_ok nmX12 hown hK hP hD hS 0 rfl rfl 28 (by decide) (ht (.fieldLink RX12 72 "CloneVolumesModel" "freshWord" "[C") fl_X12_72) (fun _ h9 => h9) rfl hin rfl (by decide +kernel) rfl rfl (by rw [hlen]; decide) dX12_init_606 (fun H locs hP hD hS => ?_)
  have hP : va_P D vwCl [(h0, .inr (12, (fs_124.set 28 (.ref q_125)))), (q_1, .inl (D.1 13, 1600, .inl (fun _ => 0))), (q_4, .inl (D.1 13, 6, .inl (fun _ => 0))), (q_125, .inl (D.1 14, 5, .inl f_130))] H := hP
  have hD : va_D A [(h0, .inr (12, (fs_124.set 28 (.ref q_125)))), (q_1, .inl (D.1 13, 1600, .inl (fun _ => 0))), (q_4, .inl (D.1 13, 6, .inl (fun _ => 0))), (q_125, .inl (D.1 14, 5, .inl f_130))] := hD
  generalize hfs_131 : fs_124.set 28 (.ref q_125) = fs_131 at hP hD
  have hlen : fs_131.length = 116 := by rw [← hfs_131, List.length_set]; exact hlen
  have hP : va_P D vwCl [(h0, .inr (12, fs_131)), (q_1, .inl (D.1 13, 1600, .inl (fun _ => 0))), (q_4, .inl (D.1 13, 6, .inl (fun _ => 0))), (q_125, .inl (D.1 14, 5, .inl f_130))] H := hP
  have hD : va_D A [(h0, .inr (12, fs_131)), (q_1, .inl (D.1 13, 1600, .inl (fun _ => 0))), (q_4, .inl (D.1 13, 6, .inl (fun _ => 0))), (q_125, .inl (D.1 14, 5, .inl f_130))] := hD
  have hP := hP.sub (ws' := [(h0, .inr (12, fs_131)), (q_1, .inl (D.1 13, 1600, .inl (fun _ => 0))), (q_4, .inl (D.1 13, 6, .inl (fun _ => 0)))]) [0, 1, 2] rfl
  have hD := hD.sub (ws' := [(h0, .inr (12, fs_131)), (q_1, .inl (D.1 13, 1600, .inl (fun _ => 0))), (q_4, .inl (D.1 13, 6, .inl (fun _ => 0)))]) [0, 1, 2] (by decide) rfl
  exact kk q_118 q_125 fs_131 _ _ (by rw [← hfs_131, ← hfs_124]) hP hD hS
set_option maxHeartbeats 4000000 in
set_option maxRecDepth 100000 in
theorem cM_9 {h0 : Nat} {q_1 : Nat} {q_4 : Nat} (hx : p.tables.exec = Jvm.exec) (hb : c.code = cX12_init) (ht : ∀ w ∈ lw_gd, w.before args s = true) (hown : s.vm.findClass RX12 = some m.cls) (hin : meth.name = "<init>") (hK : va_K D vwCl (TY D) s) (hA : ∀ q : Nat, s.heap.size ≤ q → A q) (hRc : 80 ≤ R.cells) (hRs : 35050 ≤ R.slots) (hl : lv_has ls 1 [(0, .ref h0)]) {fs : List Value} (hlen : fs.length = 116) {H : Heap} {locs : List Loc} (hP : va_P D vwCl [(h0, .inr (12, fs)), (q_1, .inl (D.1 13, 1600, .inl (fun _ => 0))), (q_4, .inl (D.1 13, 6, .inl (fun _ => 0)))] H) (hD : va_D A [(h0, .inr (12, fs)), (q_1, .inl (D.1 13, 1600, .inl (fun _ => 0))), (q_4, .inl (D.1 13, 6, .inl (fun _ => 0)))]) (hS : va_S A s.heap H locs)
    (kk : ∀ (q_132 : Nat) (q_139 : Nat) (q_145 : Nat) (fs' : List Value) (H : Heap) (locs : List Loc), fs' = (((fs.set 29 (.ref q_132)).set 30 (.ref q_139)).set 31 (.ref q_145)) → va_P D vwCl [(h0, .inr (12, fs')), (q_1, .inl (D.1 13, 1600, .inl (fun _ => 0))), (q_4, .inl (D.1 13, 6, .inl (fun _ => 0)))] H → va_D A [(h0, .inr (12, fs')), (q_1, .inl (D.1 13, 1600, .inl (fun _ => 0))), (q_4, .inl (D.1 13, 6, .inl (fun _ => 0)))] → va_S A s.heap H locs → W p l e R s m args below meth c H locs 23 1708 Q (F0 m 690 ls [])) : W p l e R s m args below meth c H locs 20 1696 Q (F0 m 609 ls []) := by
  refine lv_aload_n hx hb dX12_init_609 rfl (lv_at hl 0 rfl) ?_
  refine lv_iconst (v := 5) hx hb dX12_init_610 (by decide) ?_
  refine va_newa (atype := .char) (a0 := (5, .inl (fun _ => 0))) (ty := .char) (N' := 5) hx hb (ht _ ac_char) rfl hK hP hD hS hA (fun _ => rfl) (by decide) (by decide) (by decide) (Nat.le_trans (Nat.le_of_ble_eq_true rfl) hRc) (Nat.le_trans (Nat.le_of_ble_eq_true rfl) hRs) dX12_init_611 (fun q_132 cA H hK2 hP hD hS => ?_)
  obtain rfl := z_cls_char hK hK2
  refine W.widen (k := 21) (n := 1701) (Nat.le_of_ble_eq_true rfl) (Nat.le_of_ble_eq_true rfl) ?_
  have hP : va_P D vwCl [(h0, .inr (12, fs)), (q_1, .inl (D.1 13, 1600, .inl (fun _ => 0))), (q_4, .inl (D.1 13, 6, .inl (fun _ => 0))), (q_132, .inl (D.1 14, 5, .inl (fun _ => 0)))] H := hP
  have hD : va_D A [(h0, .inr (12, fs)), (q_1, .inl (D.1 13, 1600, .inl (fun _ => 0))), (q_4, .inl (D.1 13, 6, .inl (fun _ => 0))), (q_132, .inl (D.1 14, 5, .inl (fun _ => 0)))] := hD
  refine lv_dup hx hb dX12_init_613 rfl ?_
  refine lv_iconst (v := 0) hx hb dX12_init_614 (by decide) ?_
  refine lv_bipush (v := 115) hx hb dX12_init_615 (by decide) ?_
  refine va_cast hx hb hK hP hD hS 3 1 rfl rfl (z_in (by decide) (by decide)) dX12_init_617 (fun H locs hP hD hS => ?_)
  generalize hf_133 : upd _ _ _ = f_133 at hP hD
  have hP : va_P D vwCl [(h0, .inr (12, fs)), (q_1, .inl (D.1 13, 1600, .inl (fun _ => 0))), (q_4, .inl (D.1 13, 6, .inl (fun _ => 0))), (q_132, .inl (D.1 14, 5, .inl f_133))] H := hP
  have hD : va_D A [(h0, .inr (12, fs)), (q_1, .inl (D.1 13, 1600, .inl (fun _ => 0))), (q_4, .inl (D.1 13, 6, .inl (fun _ => 0))), (q_132, .inl (D.1 14, 5, .inl f_133))] := hD
  refine lv_dup hx hb dX12_init_618 rfl ?_
  refine lv_iconst (v := 1) hx hb dX12_init_619 (by decide) ?_
  refine lv_bipush (v := 97) hx hb dX12_init_620 (by decide) ?_
  refine va_cast hx hb hK hP hD hS 3 1 rfl rfl (z_in (by decide) (by decide)) dX12_init_622 (fun H locs hP hD hS => ?_)
  generalize hf_134 : upd _ _ _ = f_134 at hP hD
  have hP : va_P D vwCl [(h0, .inr (12, fs)), (q_1, .inl (D.1 13, 1600, .inl (fun _ => 0))), (q_4, .inl (D.1 13, 6, .inl (fun _ => 0))), (q_132, .inl (D.1 14, 5, .inl f_134))] H := hP
  have hD : va_D A [(h0, .inr (12, fs)), (q_1, .inl (D.1 13, 1600, .inl (fun _ => 0))), (q_4, .inl (D.1 13, 6, .inl (fun _ => 0))), (q_132, .inl (D.1 14, 5, .inl f_134))] := hD
  refine lv_dup hx hb dX12_init_623 rfl ?_
  refine lv_iconst (v := 2) hx hb dX12_init_624 (by decide) ?_
  refine lv_bipush (v := 118) hx hb dX12_init_625 (by decide) ?_
  refine va_cast hx hb hK hP hD hS 3 1 rfl rfl (z_in (by decide) (by decide)) dX12_init_627 (fun H locs hP hD hS => ?_)
  generalize hf_135 : upd _ _ _ = f_135 at hP hD
  have hP : va_P D vwCl [(h0, .inr (12, fs)), (q_1, .inl (D.1 13, 1600, .inl (fun _ => 0))), (q_4, .inl (D.1 13, 6, .inl (fun _ => 0))), (q_132, .inl (D.1 14, 5, .inl f_135))] H := hP
  have hD : va_D A [(h0, .inr (12, fs)), (q_1, .inl (D.1 13, 1600, .inl (fun _ => 0))), (q_4, .inl (D.1 13, 6, .inl (fun _ => 0))), (q_132, .inl (D.1 14, 5, .inl f_135))] := hD
  refine lv_dup hx hb dX12_init_628 rfl ?_
  refine lv_iconst (v := 3) hx hb dX12_init_629 (by decide) ?_
  refine lv_bipush (v := 101) hx hb dX12_init_630 (by decide) ?_
  refine va_cast hx hb hK hP hD hS 3 1 rfl rfl (z_in (by decide) (by decide)) dX12_init_632 (fun H locs hP hD hS => ?_)
  generalize hf_136 : upd _ _ _ = f_136 at hP hD
  have hP : va_P D vwCl [(h0, .inr (12, fs)), (q_1, .inl (D.1 13, 1600, .inl (fun _ => 0))), (q_4, .inl (D.1 13, 6, .inl (fun _ => 0))), (q_132, .inl (D.1 14, 5, .inl f_136))] H := hP
  have hD : va_D A [(h0, .inr (12, fs)), (q_1, .inl (D.1 13, 1600, .inl (fun _ => 0))), (q_4, .inl (D.1 13, 6, .inl (fun _ => 0))), (q_132, .inl (D.1 14, 5, .inl f_136))] := hD
  refine lv_dup hx hb dX12_init_633 rfl ?_
  refine lv_iconst (v := 4) hx hb dX12_init_634 (by decide) ?_
  refine lv_bipush (v := 100) hx hb dX12_init_635 (by decide) ?_
  refine va_cast hx hb hK hP hD hS 3 1 rfl rfl (z_in (by decide) (by decide)) dX12_init_637 (fun H locs hP hD hS => ?_)
  generalize hf_137 : upd _ _ _ = f_137 at hP hD
  have hP : va_P D vwCl [(h0, .inr (12, fs)), (q_1, .inl (D.1 13, 1600, .inl (fun _ => 0))), (q_4, .inl (D.1 13, 6, .inl (fun _ => 0))), (q_132, .inl (D.1 14, 5, .inl f_137))] H := hP
  have hD : va_D A [(h0, .inr (12, fs)), (q_1, .inl (D.1 13, 1600, .inl (fun _ => 0))), (q_4, .inl (D.1 13, 6, .inl (fun _ => 0))), (q_132, .inl (D.1 14, 5, .inl f_137))] := hD
  refine va_putF (D := D) (ci := 12) (v := .ref q_132) (ty := .array .char) (C := RX12) (T := TX12) (N := 116) hx hb ht inX12 tyX12 tyX12_ok nmX12 hown hK hP hD hS 0 rfl rfl 29 (by decide) (ht (.fieldLink RX12 75 "CloneVolumesModel" "savedWord" "[C") fl_X12_75) (fun _ h9 => h9) rfl hin rfl (by decide +kernel) rfl rfl (by rw [hlen]; decide) dX12_init_638 (fun H locs hP hD hS => ?_)
  have hP : va_P D vwCl [(h0, .inr (12, (fs.set 29 (.ref q_132)))), (q_1, .inl (D.1 13, 1600, .inl (fun _ => 0))), (q_4, .inl (D.1 13, 6, .inl (fun _ => 0))), (q_132, .inl (D.1 14, 5, .inl f_137))] H := hP
  have hD : va_D A [(h0, .inr (12, (fs.set 29 (.ref q_132)))), (q_1, .inl (D.1 13, 1600, .inl (fun _ => 0))), (q_4, .inl (D.1 13, 6, .inl (fun _ => 0))), (q_132, .inl (D.1 14, 5, .inl f_137))] := hD
  generalize hfs_138 : fs.set 29 (.ref q_132) = fs_138 at hP hD
  have hlen : fs_138.length = 116 := by rw [← hfs_138, List.length_set]; exact hlen
  have hP : va_P D vwCl [(h0, .inr (12, fs_138)), (q_1, .inl (D.1 13, 1600, .inl (fun _ => 0))), (q_4, .inl (D.1 13, 6, .inl (fun _ => 0))), (q_132, .inl (D.1 14, 5, .inl f_137))] H := hP
  have hD : va_D A [(h0, .inr (12, fs_138)), (q_1, .inl (D.1 13, 1600, .inl (fun _ => 0))), (q_4, .inl (D.1 13, 6, .inl (fun _ => 0))), (q_132, .inl (D.1 14, 5, .inl f_137))] := hD
  have hP := hP.sub (ws' := [(h0, .inr (12, fs_138)), (q_1, .inl (D.1 13, 1600, .inl (fun _ => 0))), (q_4, .inl (D.1 13, 6, .inl (fun _ => 0)))]) [0, 1, 2] rfl
  have hD := hD.sub (ws' := [(h0, .inr (12, fs_138)), (q_1, .inl (D.1 13, 1600, .inl (fun _ => 0))), (q_4, .inl (D.1 13, 6, .inl (fun _ => 0)))]) [0, 1, 2] (by decide) rfl
  refine lv_aload_n hx hb dX12_init_641 rfl (lv_at hl 0 rfl) ?_
  refine lv_iconst (v := 4) hx hb dX12_init_642 (by decide) ?_
  refine va_newa (atype := .char) (a0 := (4, .inl (fun _ => 0))) (ty := .char) (N' := 4) hx hb (ht _ ac_char) rfl hK hP hD hS hA (fun _ => rfl) (by decide) (by decide) (by decide) (Nat.le_trans (Nat.le_of_ble_eq_true rfl) hRc) (Nat.le_trans (Nat.le_of_ble_eq_true rfl) hRs) dX12_init_643 (fun q_139 cA H hK2 hP hD hS => ?_)
  obtain rfl := z_cls_char hK hK2
  refine W.widen (k := 22) (n := 1705) (Nat.le_of_ble_eq_true rfl) (Nat.le_of_ble_eq_true rfl) ?_
  have hP : va_P D vwCl [(h0, .inr (12, fs_138)), (q_1, .inl (D.1 13, 1600, .inl (fun _ => 0))), (q_4, .inl (D.1 13, 6, .inl (fun _ => 0))), (q_139, .inl (D.1 14, 4, .inl (fun _ => 0)))] H := hP
  have hD : va_D A [(h0, .inr (12, fs_138)), (q_1, .inl (D.1 13, 1600, .inl (fun _ => 0))), (q_4, .inl (D.1 13, 6, .inl (fun _ => 0))), (q_139, .inl (D.1 14, 4, .inl (fun _ => 0)))] := hD
  refine lv_dup hx hb dX12_init_645 rfl ?_
  refine lv_iconst (v := 0) hx hb dX12_init_646 (by decide) ?_
  refine lv_bipush (v := 114) hx hb dX12_init_647 (by decide) ?_
  refine va_cast hx hb hK hP hD hS 3 1 rfl rfl (z_in (by decide) (by decide)) dX12_init_649 (fun H locs hP hD hS => ?_)
  generalize hf_140 : upd _ _ _ = f_140 at hP hD
  have hP : va_P D vwCl [(h0, .inr (12, fs_138)), (q_1, .inl (D.1 13, 1600, .inl (fun _ => 0))), (q_4, .inl (D.1 13, 6, .inl (fun _ => 0))), (q_139, .inl (D.1 14, 4, .inl f_140))] H := hP
  have hD : va_D A [(h0, .inr (12, fs_138)), (q_1, .inl (D.1 13, 1600, .inl (fun _ => 0))), (q_4, .inl (D.1 13, 6, .inl (fun _ => 0))), (q_139, .inl (D.1 14, 4, .inl f_140))] := hD
  refine lv_dup hx hb dX12_init_650 rfl ?_
  refine lv_iconst (v := 1) hx hb dX12_init_651 (by decide) ?_
  refine lv_bipush (v := 101) hx hb dX12_init_652 (by decide) ?_
  refine va_cast hx hb hK hP hD hS 3 1 rfl rfl (z_in (by decide) (by decide)) dX12_init_654 (fun H locs hP hD hS => ?_)
  generalize hf_141 : upd _ _ _ = f_141 at hP hD
  have hP : va_P D vwCl [(h0, .inr (12, fs_138)), (q_1, .inl (D.1 13, 1600, .inl (fun _ => 0))), (q_4, .inl (D.1 13, 6, .inl (fun _ => 0))), (q_139, .inl (D.1 14, 4, .inl f_141))] H := hP
  have hD : va_D A [(h0, .inr (12, fs_138)), (q_1, .inl (D.1 13, 1600, .inl (fun _ => 0))), (q_4, .inl (D.1 13, 6, .inl (fun _ => 0))), (q_139, .inl (D.1 14, 4, .inl f_141))] := hD
  refine lv_dup hx hb dX12_init_655 rfl ?_
  refine lv_iconst (v := 2) hx hb dX12_init_656 (by decide) ?_
  refine lv_bipush (v := 102) hx hb dX12_init_657 (by decide) ?_
  refine va_cast hx hb hK hP hD hS 3 1 rfl rfl (z_in (by decide) (by decide)) dX12_init_659 (fun H locs hP hD hS => ?_)
  generalize hf_142 : upd _ _ _ = f_142 at hP hD
  have hP : va_P D vwCl [(h0, .inr (12, fs_138)), (q_1, .inl (D.1 13, 1600, .inl (fun _ => 0))), (q_4, .inl (D.1 13, 6, .inl (fun _ => 0))), (q_139, .inl (D.1 14, 4, .inl f_142))] H := hP
  have hD : va_D A [(h0, .inr (12, fs_138)), (q_1, .inl (D.1 13, 1600, .inl (fun _ => 0))), (q_4, .inl (D.1 13, 6, .inl (fun _ => 0))), (q_139, .inl (D.1 14, 4, .inl f_142))] := hD
  refine lv_dup hx hb dX12_init_660 rfl ?_
  refine lv_iconst (v := 3) hx hb dX12_init_661 (by decide) ?_
  refine lv_bipush (v := 115) hx hb dX12_init_662 (by decide) ?_
  refine va_cast hx hb hK hP hD hS 3 1 rfl rfl (z_in (by decide) (by decide)) dX12_init_664 (fun H locs hP hD hS => ?_)
  generalize hf_143 : upd _ _ _ = f_143 at hP hD
  have hP : va_P D vwCl [(h0, .inr (12, fs_138)), (q_1, .inl (D.1 13, 1600, .inl (fun _ => 0))), (q_4, .inl (D.1 13, 6, .inl (fun _ => 0))), (q_139, .inl (D.1 14, 4, .inl f_143))] H := hP
  have hD : va_D A [(h0, .inr (12, fs_138)), (q_1, .inl (D.1 13, 1600, .inl (fun _ => 0))), (q_4, .inl (D.1 13, 6, .inl (fun _ => 0))), (q_139, .inl (D.1 14, 4, .inl f_143))] := hD
  refine va_putF (D := D) (ci := 12) (v := .ref q_139) (ty := .array .char) (C := RX12) (T := TX12) (N := 116) hx hb ht inX12 tyX12 tyX12_ok nmX12 hown hK hP hD hS 0 rfl rfl 30 (by decide) (ht (.fieldLink RX12 78 "CloneVolumesModel" "refsWord" "[C") fl_X12_78) (fun _ h9 => h9) rfl hin rfl (by decide +kernel) rfl rfl (by rw [hlen]; decide) dX12_init_665 (fun H locs hP hD hS => ?_)
  have hP : va_P D vwCl [(h0, .inr (12, (fs_138.set 30 (.ref q_139)))), (q_1, .inl (D.1 13, 1600, .inl (fun _ => 0))), (q_4, .inl (D.1 13, 6, .inl (fun _ => 0))), (q_139, .inl (D.1 14, 4, .inl f_143))] H := hP
  have hD : va_D A [(h0, .inr (12, (fs_138.set 30 (.ref q_139)))), (q_1, .inl (D.1 13, 1600, .inl (fun _ => 0))), (q_4, .inl (D.1 13, 6, .inl (fun _ => 0))), (q_139, .inl (D.1 14, 4, .inl f_143))] := hD
  generalize hfs_144 : fs_138.set 30 (.ref q_139) = fs_144 at hP hD
  have hlen : fs_144.length = 116 := by rw [← hfs_144, List.length_set]; exact hlen
  have hP : va_P D vwCl [(h0, .inr (12, fs_144)), (q_1, .inl (D.1 13, 1600, .inl (fun _ => 0))), (q_4, .inl (D.1 13, 6, .inl (fun _ => 0))), (q_139, .inl (D.1 14, 4, .inl f_143))] H := hP
  have hD : va_D A [(h0, .inr (12, fs_144)), (q_1, .inl (D.1 13, 1600, .inl (fun _ => 0))), (q_4, .inl (D.1 13, 6, .inl (fun _ => 0))), (q_139, .inl (D.1 14, 4, .inl f_143))] := hD
  have hP := hP.sub (ws' := [(h0, .inr (12, fs_144)), (q_1, .inl (D.1 13, 1600, .inl (fun _ => 0))), (q_4, .inl (D.1 13, 6, .inl (fun _ => 0)))]) [0, 1, 2] rfl
  have hD := hD.sub (ws' := [(h0, .inr (12, fs_144)), (q_1, .inl (D.1 13, 1600, .inl (fun _ => 0))), (q_4, .inl (D.1 13, 6, .inl (fun _ => 0)))]) [0, 1, 2] (by decide) rfl
  refine lv_aload_n hx hb dX12_init_668 rfl (lv_at hl 0 rfl) ?_
  refine lv_iconst (v := 3) hx hb dX12_init_669 (by decide) ?_
  refine va_newa (atype := .char) (a0 := (3, .inl (fun _ => 0))) (ty := .char) (N' := 3) hx hb (ht _ ac_char) rfl hK hP hD hS hA (fun _ => rfl) (by decide) (by decide) (by decide) (Nat.le_trans (Nat.le_of_ble_eq_true rfl) hRc) (Nat.le_trans (Nat.le_of_ble_eq_true rfl) hRs) dX12_init_670 (fun q_145 cA H hK2 hP hD hS => ?_)
  obtain rfl := z_cls_char hK hK2
  refine W.widen (k := 23) (n := 1708) (Nat.le_of_ble_eq_true rfl) (Nat.le_of_ble_eq_true rfl) ?_
  have hP : va_P D vwCl [(h0, .inr (12, fs_144)), (q_1, .inl (D.1 13, 1600, .inl (fun _ => 0))), (q_4, .inl (D.1 13, 6, .inl (fun _ => 0))), (q_145, .inl (D.1 14, 3, .inl (fun _ => 0)))] H := hP
  have hD : va_D A [(h0, .inr (12, fs_144)), (q_1, .inl (D.1 13, 1600, .inl (fun _ => 0))), (q_4, .inl (D.1 13, 6, .inl (fun _ => 0))), (q_145, .inl (D.1 14, 3, .inl (fun _ => 0)))] := hD
  refine lv_dup hx hb dX12_init_672 rfl ?_
  refine lv_iconst (v := 0) hx hb dX12_init_673 (by decide) ?_
  refine lv_bipush (v := 107) hx hb dX12_init_674 (by decide) ?_
  refine va_cast hx hb hK hP hD hS 3 1 rfl rfl (z_in (by decide) (by decide)) dX12_init_676 (fun H locs hP hD hS => ?_)
  generalize hf_146 : upd _ _ _ = f_146 at hP hD
  have hP : va_P D vwCl [(h0, .inr (12, fs_144)), (q_1, .inl (D.1 13, 1600, .inl (fun _ => 0))), (q_4, .inl (D.1 13, 6, .inl (fun _ => 0))), (q_145, .inl (D.1 14, 3, .inl f_146))] H := hP
  have hD : va_D A [(h0, .inr (12, fs_144)), (q_1, .inl (D.1 13, 1600, .inl (fun _ => 0))), (q_4, .inl (D.1 13, 6, .inl (fun _ => 0))), (q_145, .inl (D.1 14, 3, .inl f_146))] := hD
  refine lv_dup hx hb dX12_init_677 rfl ?_
  refine lv_iconst (v := 1) hx hb dX12_init_678 (by decide) ?_
  refine lv_bipush (v := 101) hx hb dX12_init_679 (by decide) ?_
  refine va_cast hx hb hK hP hD hS 3 1 rfl rfl (z_in (by decide) (by decide)) dX12_init_681 (fun H locs hP hD hS => ?_)
  generalize hf_147 : upd _ _ _ = f_147 at hP hD
  have hP : va_P D vwCl [(h0, .inr (12, fs_144)), (q_1, .inl (D.1 13, 1600, .inl (fun _ => 0))), (q_4, .inl (D.1 13, 6, .inl (fun _ => 0))), (q_145, .inl (D.1 14, 3, .inl f_147))] H := hP
  have hD : va_D A [(h0, .inr (12, fs_144)), (q_1, .inl (D.1 13, 1600, .inl (fun _ => 0))), (q_4, .inl (D.1 13, 6, .inl (fun _ => 0))), (q_145, .inl (D.1 14, 3, .inl f_147))] := hD
  refine lv_dup hx hb dX12_init_682 rfl ?_
  refine lv_iconst (v := 2) hx hb dX12_init_683 (by decide) ?_
  refine lv_bipush (v := 121) hx hb dX12_init_684 (by decide) ?_
  refine va_cast hx hb hK hP hD hS 3 1 rfl rfl (z_in (by decide) (by decide)) dX12_init_686 (fun H locs hP hD hS => ?_)
  generalize hf_148 : upd _ _ _ = f_148 at hP hD
  have hP : va_P D vwCl [(h0, .inr (12, fs_144)), (q_1, .inl (D.1 13, 1600, .inl (fun _ => 0))), (q_4, .inl (D.1 13, 6, .inl (fun _ => 0))), (q_145, .inl (D.1 14, 3, .inl f_148))] H := hP
  have hD : va_D A [(h0, .inr (12, fs_144)), (q_1, .inl (D.1 13, 1600, .inl (fun _ => 0))), (q_4, .inl (D.1 13, 6, .inl (fun _ => 0))), (q_145, .inl (D.1 14, 3, .inl f_148))] := hD
  refine va_putF (D := D) (ci := 12) (v := .ref q_145) (ty := .array .char) (C := RX12) (T := TX12) (N := 116) hx hb ht inX12 tyX12 tyX12_ok nmX12 hown hK hP hD hS 0 rfl rfl 31 (by decide) (ht (.fieldLink RX12 81 "CloneVolumesModel" "keyWord" "[C") fl_X12_81) (fun _ h9 => h9) rfl hin rfl (by decide +kernel) rfl rfl (by rw [hlen]; decide) dX12_init_687 (fun H locs hP hD hS => ?_)
  have hP : va_P D vwCl [(h0, .inr (12, (fs_144.set 31 (.ref q_145)))), (q_1, .inl (D.1 13, 1600, .inl (fun _ => 0))), (q_4, .inl (D.1 13, 6, .inl (fun _ => 0))), (q_145, .inl (D.1 14, 3, .inl f_148))] H := hP
  have hD : va_D A [(h0, .inr (12, (fs_144.set 31 (.ref q_145)))), (q_1, .inl (D.1 13, 1600, .inl (fun _ => 0))), (q_4, .inl (D.1 13, 6, .inl (fun _ => 0))), (q_145, .inl (D.1 14, 3, .inl f_148))] := hD
  generalize hfs_149 : fs_144.set 31 (.ref q_145) = fs_149 at hP hD
  have hlen : fs_149.length = 116 := by rw [← hfs_149, List.length_set]; exact hlen
  have hP : va_P D vwCl [(h0, .inr (12, fs_149)), (q_1, .inl (D.1 13, 1600, .inl (fun _ => 0))), (q_4, .inl (D.1 13, 6, .inl (fun _ => 0))), (q_145, .inl (D.1 14, 3, .inl f_148))] H := hP
  have hD : va_D A [(h0, .inr (12, fs_149)), (q_1, .inl (D.1 13, 1600, .inl (fun _ => 0))), (q_4, .inl (D.1 13, 6, .inl (fun _ => 0))), (q_145, .inl (D.1 14, 3, .inl f_148))] := hD
  have hP := hP.sub (ws' := [(h0, .inr (12, fs_149)), (q_1, .inl (D.1 13, 1600, .inl (fun _ => 0))), (q_4, .inl (D.1 13, 6, .inl (fun _ => 0)))]) [0, 1, 2] rfl
  have hD := hD.sub (ws' := [(h0, .inr (12, fs_149)), (q_1, .inl (D.1 13, 1600, .inl (fun _ => 0))), (q_4, .inl (D.1 13, 6, .inl (fun _ => 0)))]) [0, 1, 2] (by decide) rfl
  exact kk q_132 q_139 q_145 fs_149 _ _ (by rw [← hfs_149, ← hfs_144, ← hfs_138]) hP hD hS
set_option maxHeartbeats 4000000 in
set_option maxRecDepth 100000 in
theorem cM_10 {h0 : Nat} {q_1 : Nat} {q_4 : Nat} (hx : p.tables.exec = Jvm.exec) (hb : c.code = cX12_init) (ht : ∀ w ∈ lw_gd, w.before args s = true) (hown : s.vm.findClass RX12 = some m.cls) (hin : meth.name = "<init>") (hK : va_K D vwCl (TY D) s) (hA : ∀ q : Nat, s.heap.size ≤ q → A q) (hRc : 80 ≤ R.cells) (hRs : 35050 ≤ R.slots) (hl : lv_has ls 1 [(0, .ref h0)]) {fs : List Value} (hlen : fs.length = 116) {H : Heap} {locs : List Loc} (hP : va_P D vwCl [(h0, .inr (12, fs)), (q_1, .inl (D.1 13, 1600, .inl (fun _ => 0))), (q_4, .inl (D.1 13, 6, .inl (fun _ => 0)))] H) (hD : va_D A [(h0, .inr (12, fs)), (q_1, .inl (D.1 13, 1600, .inl (fun _ => 0))), (q_4, .inl (D.1 13, 6, .inl (fun _ => 0)))]) (hS : va_S A s.heap H locs)
    (kk : ∀ (q_150 : Nat) (q_154 : Nat) (q_159 : Nat) (q_164 : Nat) (fs' : List Value) (H : Heap) (locs : List Loc), fs' = ((((fs.set 32 (.ref q_150)).set 33 (.ref q_154)).set 34 (.ref q_159)).set 35 (.ref q_164)) → va_P D vwCl [(h0, .inr (12, fs')), (q_1, .inl (D.1 13, 1600, .inl (fun _ => 0))), (q_4, .inl (D.1 13, 6, .inl (fun _ => 0)))] H → va_D A [(h0, .inr (12, fs')), (q_1, .inl (D.1 13, 1600, .inl (fun _ => 0))), (q_4, .inl (D.1 13, 6, .inl (fun _ => 0)))] → va_S A s.heap H locs → W p l e R s m args below meth c H locs 27 1719 Q (F0 m 773 ls [])) : W p l e R s m args below meth c H locs 23 1708 Q (F0 m 690 ls []) := by
  refine lv_aload_n hx hb dX12_init_690 rfl (lv_at hl 0 rfl) ?_
  refine lv_iconst (v := 2) hx hb dX12_init_691 (by decide) ?_
  refine va_newa (atype := .char) (a0 := (2, .inl (fun _ => 0))) (ty := .char) (N' := 2) hx hb (ht _ ac_char) rfl hK hP hD hS hA (fun _ => rfl) (by decide) (by decide) (by decide) (Nat.le_trans (Nat.le_of_ble_eq_true rfl) hRc) (Nat.le_trans (Nat.le_of_ble_eq_true rfl) hRs) dX12_init_692 (fun q_150 cA H hK2 hP hD hS => ?_)
  obtain rfl := z_cls_char hK hK2
  refine W.widen (k := 24) (n := 1710) (Nat.le_of_ble_eq_true rfl) (Nat.le_of_ble_eq_true rfl) ?_
  have hP : va_P D vwCl [(h0, .inr (12, fs)), (q_1, .inl (D.1 13, 1600, .inl (fun _ => 0))), (q_4, .inl (D.1 13, 6, .inl (fun _ => 0))), (q_150, .inl (D.1 14, 2, .inl (fun _ => 0)))] H := hP
  have hD : va_D A [(h0, .inr (12, fs)), (q_1, .inl (D.1 13, 1600, .inl (fun _ => 0))), (q_4, .inl (D.1 13, 6, .inl (fun _ => 0))), (q_150, .inl (D.1 14, 2, .inl (fun _ => 0)))] := hD
  refine lv_dup hx hb dX12_init_694 rfl ?_
  refine lv_iconst (v := 0) hx hb dX12_init_695 (by decide) ?_
  refine lv_bipush (v := 111) hx hb dX12_init_696 (by decide) ?_
  refine va_cast hx hb hK hP hD hS 3 1 rfl rfl (z_in (by decide) (by decide)) dX12_init_698 (fun H locs hP hD hS => ?_)
  generalize hf_151 : upd _ _ _ = f_151 at hP hD
  have hP : va_P D vwCl [(h0, .inr (12, fs)), (q_1, .inl (D.1 13, 1600, .inl (fun _ => 0))), (q_4, .inl (D.1 13, 6, .inl (fun _ => 0))), (q_150, .inl (D.1 14, 2, .inl f_151))] H := hP
  have hD : va_D A [(h0, .inr (12, fs)), (q_1, .inl (D.1 13, 1600, .inl (fun _ => 0))), (q_4, .inl (D.1 13, 6, .inl (fun _ => 0))), (q_150, .inl (D.1 14, 2, .inl f_151))] := hD
  refine lv_dup hx hb dX12_init_699 rfl ?_
  refine lv_iconst (v := 1) hx hb dX12_init_700 (by decide) ?_
  refine lv_bipush (v := 114) hx hb dX12_init_701 (by decide) ?_
  refine va_cast hx hb hK hP hD hS 3 1 rfl rfl (z_in (by decide) (by decide)) dX12_init_703 (fun H locs hP hD hS => ?_)
  generalize hf_152 : upd _ _ _ = f_152 at hP hD
  have hP : va_P D vwCl [(h0, .inr (12, fs)), (q_1, .inl (D.1 13, 1600, .inl (fun _ => 0))), (q_4, .inl (D.1 13, 6, .inl (fun _ => 0))), (q_150, .inl (D.1 14, 2, .inl f_152))] H := hP
  have hD : va_D A [(h0, .inr (12, fs)), (q_1, .inl (D.1 13, 1600, .inl (fun _ => 0))), (q_4, .inl (D.1 13, 6, .inl (fun _ => 0))), (q_150, .inl (D.1 14, 2, .inl f_152))] := hD
  refine va_putF (D := D) (ci := 12) (v := .ref q_150) (ty := .array .char) (C := RX12) (T := TX12) (N := 116) hx hb ht inX12 tyX12 tyX12_ok nmX12 hown hK hP hD hS 0 rfl rfl 32 (by decide) (ht (.fieldLink RX12 84 "CloneVolumesModel" "orWord" "[C") fl_X12_84) (fun _ h9 => h9) rfl hin rfl (by decide +kernel) rfl rfl (by rw [hlen]; decide) dX12_init_704 (fun H locs hP hD hS => ?_)
  have hP : va_P D vwCl [(h0, .inr (12, (fs.set 32 (.ref q_150)))), (q_1, .inl (D.1 13, 1600, .inl (fun _ => 0))), (q_4, .inl (D.1 13, 6, .inl (fun _ => 0))), (q_150, .inl (D.1 14, 2, .inl f_152))] H := hP
  have hD : va_D A [(h0, .inr (12, (fs.set 32 (.ref q_150)))), (q_1, .inl (D.1 13, 1600, .inl (fun _ => 0))), (q_4, .inl (D.1 13, 6, .inl (fun _ => 0))), (q_150, .inl (D.1 14, 2, .inl f_152))] := hD
  generalize hfs_153 : fs.set 32 (.ref q_150) = fs_153 at hP hD
  have hlen : fs_153.length = 116 := by rw [← hfs_153, List.length_set]; exact hlen
  have hP : va_P D vwCl [(h0, .inr (12, fs_153)), (q_1, .inl (D.1 13, 1600, .inl (fun _ => 0))), (q_4, .inl (D.1 13, 6, .inl (fun _ => 0))), (q_150, .inl (D.1 14, 2, .inl f_152))] H := hP
  have hD : va_D A [(h0, .inr (12, fs_153)), (q_1, .inl (D.1 13, 1600, .inl (fun _ => 0))), (q_4, .inl (D.1 13, 6, .inl (fun _ => 0))), (q_150, .inl (D.1 14, 2, .inl f_152))] := hD
  have hP := hP.sub (ws' := [(h0, .inr (12, fs_153)), (q_1, .inl (D.1 13, 1600, .inl (fun _ => 0))), (q_4, .inl (D.1 13, 6, .inl (fun _ => 0)))]) [0, 1, 2] rfl
  have hD := hD.sub (ws' := [(h0, .inr (12, fs_153)), (q_1, .inl (D.1 13, 1600, .inl (fun _ => 0))), (q_4, .inl (D.1 13, 6, .inl (fun _ => 0)))]) [0, 1, 2] (by decide) rfl
  refine lv_aload_n hx hb dX12_init_707 rfl (lv_at hl 0 rfl) ?_
  refine lv_iconst (v := 3) hx hb dX12_init_708 (by decide) ?_
  refine va_newa (atype := .char) (a0 := (3, .inl (fun _ => 0))) (ty := .char) (N' := 3) hx hb (ht _ ac_char) rfl hK hP hD hS hA (fun _ => rfl) (by decide) (by decide) (by decide) (Nat.le_trans (Nat.le_of_ble_eq_true rfl) hRc) (Nat.le_trans (Nat.le_of_ble_eq_true rfl) hRs) dX12_init_709 (fun q_154 cA H hK2 hP hD hS => ?_)
  obtain rfl := z_cls_char hK hK2
  refine W.widen (k := 25) (n := 1713) (Nat.le_of_ble_eq_true rfl) (Nat.le_of_ble_eq_true rfl) ?_
  have hP : va_P D vwCl [(h0, .inr (12, fs_153)), (q_1, .inl (D.1 13, 1600, .inl (fun _ => 0))), (q_4, .inl (D.1 13, 6, .inl (fun _ => 0))), (q_154, .inl (D.1 14, 3, .inl (fun _ => 0)))] H := hP
  have hD : va_D A [(h0, .inr (12, fs_153)), (q_1, .inl (D.1 13, 1600, .inl (fun _ => 0))), (q_4, .inl (D.1 13, 6, .inl (fun _ => 0))), (q_154, .inl (D.1 14, 3, .inl (fun _ => 0)))] := hD
  refine lv_dup hx hb dX12_init_711 rfl ?_
  refine lv_iconst (v := 0) hx hb dX12_init_712 (by decide) ?_
  refine lv_bipush (v := 97) hx hb dX12_init_713 (by decide) ?_
  refine va_cast hx hb hK hP hD hS 3 1 rfl rfl (z_in (by decide) (by decide)) dX12_init_715 (fun H locs hP hD hS => ?_)
  generalize hf_155 : upd _ _ _ = f_155 at hP hD
  have hP : va_P D vwCl [(h0, .inr (12, fs_153)), (q_1, .inl (D.1 13, 1600, .inl (fun _ => 0))), (q_4, .inl (D.1 13, 6, .inl (fun _ => 0))), (q_154, .inl (D.1 14, 3, .inl f_155))] H := hP
  have hD : va_D A [(h0, .inr (12, fs_153)), (q_1, .inl (D.1 13, 1600, .inl (fun _ => 0))), (q_4, .inl (D.1 13, 6, .inl (fun _ => 0))), (q_154, .inl (D.1 14, 3, .inl f_155))] := hD
  refine lv_dup hx hb dX12_init_716 rfl ?_
  refine lv_iconst (v := 1) hx hb dX12_init_717 (by decide) ?_
  refine lv_bipush (v := 110) hx hb dX12_init_718 (by decide) ?_
  refine va_cast hx hb hK hP hD hS 3 1 rfl rfl (z_in (by decide) (by decide)) dX12_init_720 (fun H locs hP hD hS => ?_)
  generalize hf_156 : upd _ _ _ = f_156 at hP hD
  have hP : va_P D vwCl [(h0, .inr (12, fs_153)), (q_1, .inl (D.1 13, 1600, .inl (fun _ => 0))), (q_4, .inl (D.1 13, 6, .inl (fun _ => 0))), (q_154, .inl (D.1 14, 3, .inl f_156))] H := hP
  have hD : va_D A [(h0, .inr (12, fs_153)), (q_1, .inl (D.1 13, 1600, .inl (fun _ => 0))), (q_4, .inl (D.1 13, 6, .inl (fun _ => 0))), (q_154, .inl (D.1 14, 3, .inl f_156))] := hD
  refine lv_dup hx hb dX12_init_721 rfl ?_
  refine lv_iconst (v := 2) hx hb dX12_init_722 (by decide) ?_
  refine lv_bipush (v := 100) hx hb dX12_init_723 (by decide) ?_
  refine va_cast hx hb hK hP hD hS 3 1 rfl rfl (z_in (by decide) (by decide)) dX12_init_725 (fun H locs hP hD hS => ?_)
  generalize hf_157 : upd _ _ _ = f_157 at hP hD
  have hP : va_P D vwCl [(h0, .inr (12, fs_153)), (q_1, .inl (D.1 13, 1600, .inl (fun _ => 0))), (q_4, .inl (D.1 13, 6, .inl (fun _ => 0))), (q_154, .inl (D.1 14, 3, .inl f_157))] H := hP
  have hD : va_D A [(h0, .inr (12, fs_153)), (q_1, .inl (D.1 13, 1600, .inl (fun _ => 0))), (q_4, .inl (D.1 13, 6, .inl (fun _ => 0))), (q_154, .inl (D.1 14, 3, .inl f_157))] := hD
  refine va_putF (D := D) (ci := 12) (v := .ref q_154) (ty := .array .char) (C := RX12) (T := TX12) (N := 116) hx hb ht inX12 tyX12 tyX12_ok nmX12 hown hK hP hD hS 0 rfl rfl 33 (by decide) (ht (.fieldLink RX12 87 "CloneVolumesModel" "andWord" "[C") fl_X12_87) (fun _ h9 => h9) rfl hin rfl (by decide +kernel) rfl rfl (by rw [hlen]; decide) dX12_init_726 (fun H locs hP hD hS => ?_)
  have hP : va_P D vwCl [(h0, .inr (12, (fs_153.set 33 (.ref q_154)))), (q_1, .inl (D.1 13, 1600, .inl (fun _ => 0))), (q_4, .inl (D.1 13, 6, .inl (fun _ => 0))), (q_154, .inl (D.1 14, 3, .inl f_157))] H := hP
  have hD : va_D A [(h0, .inr (12, (fs_153.set 33 (.ref q_154)))), (q_1, .inl (D.1 13, 1600, .inl (fun _ => 0))), (q_4, .inl (D.1 13, 6, .inl (fun _ => 0))), (q_154, .inl (D.1 14, 3, .inl f_157))] := hD
  generalize hfs_158 : fs_153.set 33 (.ref q_154) = fs_158 at hP hD
  have hlen : fs_158.length = 116 := by rw [← hfs_158, List.length_set]; exact hlen
  have hP : va_P D vwCl [(h0, .inr (12, fs_158)), (q_1, .inl (D.1 13, 1600, .inl (fun _ => 0))), (q_4, .inl (D.1 13, 6, .inl (fun _ => 0))), (q_154, .inl (D.1 14, 3, .inl f_157))] H := hP
  have hD : va_D A [(h0, .inr (12, fs_158)), (q_1, .inl (D.1 13, 1600, .inl (fun _ => 0))), (q_4, .inl (D.1 13, 6, .inl (fun _ => 0))), (q_154, .inl (D.1 14, 3, .inl f_157))] := hD
  have hP := hP.sub (ws' := [(h0, .inr (12, fs_158)), (q_1, .inl (D.1 13, 1600, .inl (fun _ => 0))), (q_4, .inl (D.1 13, 6, .inl (fun _ => 0)))]) [0, 1, 2] rfl
  have hD := hD.sub (ws' := [(h0, .inr (12, fs_158)), (q_1, .inl (D.1 13, 1600, .inl (fun _ => 0))), (q_4, .inl (D.1 13, 6, .inl (fun _ => 0)))]) [0, 1, 2] (by decide) rfl
  refine lv_aload_n hx hb dX12_init_729 rfl (lv_at hl 0 rfl) ?_
  refine lv_iconst (v := 3) hx hb dX12_init_730 (by decide) ?_
  refine va_newa (atype := .char) (a0 := (3, .inl (fun _ => 0))) (ty := .char) (N' := 3) hx hb (ht _ ac_char) rfl hK hP hD hS hA (fun _ => rfl) (by decide) (by decide) (by decide) (Nat.le_trans (Nat.le_of_ble_eq_true rfl) hRc) (Nat.le_trans (Nat.le_of_ble_eq_true rfl) hRs) dX12_init_731 (fun q_159 cA H hK2 hP hD hS => ?_)
  obtain rfl := z_cls_char hK hK2
  refine W.widen (k := 26) (n := 1716) (Nat.le_of_ble_eq_true rfl) (Nat.le_of_ble_eq_true rfl) ?_
  have hP : va_P D vwCl [(h0, .inr (12, fs_158)), (q_1, .inl (D.1 13, 1600, .inl (fun _ => 0))), (q_4, .inl (D.1 13, 6, .inl (fun _ => 0))), (q_159, .inl (D.1 14, 3, .inl (fun _ => 0)))] H := hP
  have hD : va_D A [(h0, .inr (12, fs_158)), (q_1, .inl (D.1 13, 1600, .inl (fun _ => 0))), (q_4, .inl (D.1 13, 6, .inl (fun _ => 0))), (q_159, .inl (D.1 14, 3, .inl (fun _ => 0)))] := hD
  refine lv_dup hx hb dX12_init_733 rfl ?_
  refine lv_iconst (v := 0) hx hb dX12_init_734 (by decide) ?_
  refine lv_bipush (v := 110) hx hb dX12_init_735 (by decide) ?_
  refine va_cast hx hb hK hP hD hS 3 1 rfl rfl (z_in (by decide) (by decide)) dX12_init_737 (fun H locs hP hD hS => ?_)
  generalize hf_160 : upd _ _ _ = f_160 at hP hD
  have hP : va_P D vwCl [(h0, .inr (12, fs_158)), (q_1, .inl (D.1 13, 1600, .inl (fun _ => 0))), (q_4, .inl (D.1 13, 6, .inl (fun _ => 0))), (q_159, .inl (D.1 14, 3, .inl f_160))] H := hP
  have hD : va_D A [(h0, .inr (12, fs_158)), (q_1, .inl (D.1 13, 1600, .inl (fun _ => 0))), (q_4, .inl (D.1 13, 6, .inl (fun _ => 0))), (q_159, .inl (D.1 14, 3, .inl f_160))] := hD
  refine lv_dup hx hb dX12_init_738 rfl ?_
  refine lv_iconst (v := 1) hx hb dX12_init_739 (by decide) ?_
  refine lv_bipush (v := 111) hx hb dX12_init_740 (by decide) ?_
  refine va_cast hx hb hK hP hD hS 3 1 rfl rfl (z_in (by decide) (by decide)) dX12_init_742 (fun H locs hP hD hS => ?_)
  generalize hf_161 : upd _ _ _ = f_161 at hP hD
  have hP : va_P D vwCl [(h0, .inr (12, fs_158)), (q_1, .inl (D.1 13, 1600, .inl (fun _ => 0))), (q_4, .inl (D.1 13, 6, .inl (fun _ => 0))), (q_159, .inl (D.1 14, 3, .inl f_161))] H := hP
  have hD : va_D A [(h0, .inr (12, fs_158)), (q_1, .inl (D.1 13, 1600, .inl (fun _ => 0))), (q_4, .inl (D.1 13, 6, .inl (fun _ => 0))), (q_159, .inl (D.1 14, 3, .inl f_161))] := hD
  refine lv_dup hx hb dX12_init_743 rfl ?_
  refine lv_iconst (v := 2) hx hb dX12_init_744 (by decide) ?_
  refine lv_bipush (v := 116) hx hb dX12_init_745 (by decide) ?_
  refine va_cast hx hb hK hP hD hS 3 1 rfl rfl (z_in (by decide) (by decide)) dX12_init_747 (fun H locs hP hD hS => ?_)
  generalize hf_162 : upd _ _ _ = f_162 at hP hD
  have hP : va_P D vwCl [(h0, .inr (12, fs_158)), (q_1, .inl (D.1 13, 1600, .inl (fun _ => 0))), (q_4, .inl (D.1 13, 6, .inl (fun _ => 0))), (q_159, .inl (D.1 14, 3, .inl f_162))] H := hP
  have hD : va_D A [(h0, .inr (12, fs_158)), (q_1, .inl (D.1 13, 1600, .inl (fun _ => 0))), (q_4, .inl (D.1 13, 6, .inl (fun _ => 0))), (q_159, .inl (D.1 14, 3, .inl f_162))] := hD
  refine va_putF (D := D) (ci := 12) (v := .ref q_159) (ty := .array .char) (C := RX12) (T := TX12) (N := 116) hx hb ht inX12 tyX12 tyX12_ok nmX12 hown hK hP hD hS 0 rfl rfl 34 (by decide) (ht (.fieldLink RX12 90 "CloneVolumesModel" "notWord" "[C") fl_X12_90) (fun _ h9 => h9) rfl hin rfl (by decide +kernel) rfl rfl (by rw [hlen]; decide) dX12_init_748 (fun H locs hP hD hS => ?_)
  have hP : va_P D vwCl [(h0, .inr (12, (fs_158.set 34 (.ref q_159)))), (q_1, .inl (D.1 13, 1600, .inl (fun _ => 0))), (q_4, .inl (D.1 13, 6, .inl (fun _ => 0))), (q_159, .inl (D.1 14, 3, .inl f_162))] H := hP
  have hD : va_D A [(h0, .inr (12, (fs_158.set 34 (.ref q_159)))), (q_1, .inl (D.1 13, 1600, .inl (fun _ => 0))), (q_4, .inl (D.1 13, 6, .inl (fun _ => 0))), (q_159, .inl (D.1 14, 3, .inl f_162))] := hD
  generalize hfs_163 : fs_158.set 34 (.ref q_159) = fs_163 at hP hD
  have hlen : fs_163.length = 116 := by rw [← hfs_163, List.length_set]; exact hlen
  have hP : va_P D vwCl [(h0, .inr (12, fs_163)), (q_1, .inl (D.1 13, 1600, .inl (fun _ => 0))), (q_4, .inl (D.1 13, 6, .inl (fun _ => 0))), (q_159, .inl (D.1 14, 3, .inl f_162))] H := hP
  have hD : va_D A [(h0, .inr (12, fs_163)), (q_1, .inl (D.1 13, 1600, .inl (fun _ => 0))), (q_4, .inl (D.1 13, 6, .inl (fun _ => 0))), (q_159, .inl (D.1 14, 3, .inl f_162))] := hD
  have hP := hP.sub (ws' := [(h0, .inr (12, fs_163)), (q_1, .inl (D.1 13, 1600, .inl (fun _ => 0))), (q_4, .inl (D.1 13, 6, .inl (fun _ => 0)))]) [0, 1, 2] rfl
  have hD := hD.sub (ws' := [(h0, .inr (12, fs_163)), (q_1, .inl (D.1 13, 1600, .inl (fun _ => 0))), (q_4, .inl (D.1 13, 6, .inl (fun _ => 0)))]) [0, 1, 2] (by decide) rfl
  refine lv_aload_n hx hb dX12_init_751 rfl (lv_at hl 0 rfl) ?_
  refine lv_iconst (v := 3) hx hb dX12_init_752 (by decide) ?_
  refine va_newa (atype := .char) (a0 := (3, .inl (fun _ => 0))) (ty := .char) (N' := 3) hx hb (ht _ ac_char) rfl hK hP hD hS hA (fun _ => rfl) (by decide) (by decide) (by decide) (Nat.le_trans (Nat.le_of_ble_eq_true rfl) hRc) (Nat.le_trans (Nat.le_of_ble_eq_true rfl) hRs) dX12_init_753 (fun q_164 cA H hK2 hP hD hS => ?_)
  obtain rfl := z_cls_char hK hK2
  refine W.widen (k := 27) (n := 1719) (Nat.le_of_ble_eq_true rfl) (Nat.le_of_ble_eq_true rfl) ?_
  have hP : va_P D vwCl [(h0, .inr (12, fs_163)), (q_1, .inl (D.1 13, 1600, .inl (fun _ => 0))), (q_4, .inl (D.1 13, 6, .inl (fun _ => 0))), (q_164, .inl (D.1 14, 3, .inl (fun _ => 0)))] H := hP
  have hD : va_D A [(h0, .inr (12, fs_163)), (q_1, .inl (D.1 13, 1600, .inl (fun _ => 0))), (q_4, .inl (D.1 13, 6, .inl (fun _ => 0))), (q_164, .inl (D.1 14, 3, .inl (fun _ => 0)))] := hD
  refine lv_dup hx hb dX12_init_755 rfl ?_
  refine lv_iconst (v := 0) hx hb dX12_init_756 (by decide) ?_
  refine lv_bipush (v := 97) hx hb dX12_init_757 (by decide) ?_
  refine va_cast hx hb hK hP hD hS 3 1 rfl rfl (z_in (by decide) (by decide)) dX12_init_759 (fun H locs hP hD hS => ?_)
  generalize hf_165 : upd _ _ _ = f_165 at hP hD
  have hP : va_P D vwCl [(h0, .inr (12, fs_163)), (q_1, .inl (D.1 13, 1600, .inl (fun _ => 0))), (q_4, .inl (D.1 13, 6, .inl (fun _ => 0))), (q_164, .inl (D.1 14, 3, .inl f_165))] H := hP
  have hD : va_D A [(h0, .inr (12, fs_163)), (q_1, .inl (D.1 13, 1600, .inl (fun _ => 0))), (q_4, .inl (D.1 13, 6, .inl (fun _ => 0))), (q_164, .inl (D.1 14, 3, .inl f_165))] := hD
  refine lv_dup hx hb dX12_init_760 rfl ?_
  refine lv_iconst (v := 1) hx hb dX12_init_761 (by decide) ?_
  refine lv_bipush (v := 108) hx hb dX12_init_762 (by decide) ?_
  refine va_cast hx hb hK hP hD hS 3 1 rfl rfl (z_in (by decide) (by decide)) dX12_init_764 (fun H locs hP hD hS => ?_)
  generalize hf_166 : upd _ _ _ = f_166 at hP hD
  have hP : va_P D vwCl [(h0, .inr (12, fs_163)), (q_1, .inl (D.1 13, 1600, .inl (fun _ => 0))), (q_4, .inl (D.1 13, 6, .inl (fun _ => 0))), (q_164, .inl (D.1 14, 3, .inl f_166))] H := hP
  have hD : va_D A [(h0, .inr (12, fs_163)), (q_1, .inl (D.1 13, 1600, .inl (fun _ => 0))), (q_4, .inl (D.1 13, 6, .inl (fun _ => 0))), (q_164, .inl (D.1 14, 3, .inl f_166))] := hD
  refine lv_dup hx hb dX12_init_765 rfl ?_
  refine lv_iconst (v := 2) hx hb dX12_init_766 (by decide) ?_
  refine lv_bipush (v := 108) hx hb dX12_init_767 (by decide) ?_
  refine va_cast hx hb hK hP hD hS 3 1 rfl rfl (z_in (by decide) (by decide)) dX12_init_769 (fun H locs hP hD hS => ?_)
  generalize hf_167 : upd _ _ _ = f_167 at hP hD
  have hP : va_P D vwCl [(h0, .inr (12, fs_163)), (q_1, .inl (D.1 13, 1600, .inl (fun _ => 0))), (q_4, .inl (D.1 13, 6, .inl (fun _ => 0))), (q_164, .inl (D.1 14, 3, .inl f_167))] H := hP
  have hD : va_D A [(h0, .inr (12, fs_163)), (q_1, .inl (D.1 13, 1600, .inl (fun _ => 0))), (q_4, .inl (D.1 13, 6, .inl (fun _ => 0))), (q_164, .inl (D.1 14, 3, .inl f_167))] := hD
  refine va_putF (D := D) (ci := 12) (v := .ref q_164) (ty := .array .char) (C := RX12) (T := TX12) (N := 116) hx hb ht inX12 tyX12 tyX12_ok nmX12 hown hK hP hD hS 0 rfl rfl 35 (by decide) (ht (.fieldLink RX12 93 "CloneVolumesModel" "allWord" "[C") fl_X12_93) (fun _ h9 => h9) rfl hin rfl (by decide +kernel) rfl rfl (by rw [hlen]; decide) dX12_init_770 (fun H locs hP hD hS => ?_)
  have hP : va_P D vwCl [(h0, .inr (12, (fs_163.set 35 (.ref q_164)))), (q_1, .inl (D.1 13, 1600, .inl (fun _ => 0))), (q_4, .inl (D.1 13, 6, .inl (fun _ => 0))), (q_164, .inl (D.1 14, 3, .inl f_167))] H := hP
  have hD : va_D A [(h0, .inr (12, (fs_163.set 35 (.ref q_164)))), (q_1, .inl (D.1 13, 1600, .inl (fun _ => 0))), (q_4, .inl (D.1 13, 6, .inl (fun _ => 0))), (q_164, .inl (D.1 14, 3, .inl f_167))] := hD
  generalize hfs_168 : fs_163.set 35 (.ref q_164) = fs_168 at hP hD
  have hlen : fs_168.length = 116 := by rw [← hfs_168, List.length_set]; exact hlen
  have hP : va_P D vwCl [(h0, .inr (12, fs_168)), (q_1, .inl (D.1 13, 1600, .inl (fun _ => 0))), (q_4, .inl (D.1 13, 6, .inl (fun _ => 0))), (q_164, .inl (D.1 14, 3, .inl f_167))] H := hP
  have hD : va_D A [(h0, .inr (12, fs_168)), (q_1, .inl (D.1 13, 1600, .inl (fun _ => 0))), (q_4, .inl (D.1 13, 6, .inl (fun _ => 0))), (q_164, .inl (D.1 14, 3, .inl f_167))] := hD
  have hP := hP.sub (ws' := [(h0, .inr (12, fs_168)), (q_1, .inl (D.1 13, 1600, .inl (fun _ => 0))), (q_4, .inl (D.1 13, 6, .inl (fun _ => 0)))]) [0, 1, 2] rfl
  have hD := hD.sub (ws' := [(h0, .inr (12, fs_168)), (q_1, .inl (D.1 13, 1600, .inl (fun _ => 0))), (q_4, .inl (D.1 13, 6, .inl (fun _ => 0)))]) [0, 1, 2] (by decide) rfl
  exact kk q_150 q_154 q_159 q_164 fs_168 _ _ (by rw [← hfs_168, ← hfs_163, ← hfs_158, ← hfs_153]) hP hD hS
set_option maxHeartbeats 4000000 in
set_option maxRecDepth 100000 in
theorem cM_11 {h0 : Nat} {q_1 : Nat} {q_4 : Nat} (hx : p.tables.exec = Jvm.exec) (hb : c.code = cX12_init) (ht : ∀ w ∈ lw_gd, w.before args s = true) (hown : s.vm.findClass RX12 = some m.cls) (hin : meth.name = "<init>") (hK : va_K D vwCl (TY D) s) (hA : ∀ q : Nat, s.heap.size ≤ q → A q) (hRc : 80 ≤ R.cells) (hRs : 35050 ≤ R.slots) (hl : lv_has ls 1 [(0, .ref h0)]) {fs : List Value} (hlen : fs.length = 116) {H : Heap} {locs : List Loc} (hP : va_P D vwCl [(h0, .inr (12, fs)), (q_1, .inl (D.1 13, 1600, .inl (fun _ => 0))), (q_4, .inl (D.1 13, 6, .inl (fun _ => 0)))] H) (hD : va_D A [(h0, .inr (12, fs)), (q_1, .inl (D.1 13, 1600, .inl (fun _ => 0))), (q_4, .inl (D.1 13, 6, .inl (fun _ => 0)))]) (hS : va_S A s.heap H locs)
    (kk : ∀ (q_169 : Nat) (q_174 : Nat) (q_179 : Nat) (q_181 : Nat) (q_183 : Nat) (q_185 : Nat) (f_191 : Nat → Int32) (fs' : List Value) (H : Heap) (locs : List Loc), fs' = ((((((fs.set 36 (.ref q_169)).set 37 (.ref q_174)).set 39 (.ref q_179)).set 40 (.ref q_181)).set 41 (.ref q_183)).set 42 (.ref q_185)) → va_P D vwCl [(h0, .inr (12, fs')), (q_1, .inl (D.1 13, 1600, .inl (fun _ => 0))), (q_4, .inl (D.1 13, 6, .inl (fun _ => 0))), (q_179, .inl (D.1 13, 10, .inl (fun _ => 0))), (q_185, .inl (D.1 13, 6, .inl f_191))] H → va_D A [(h0, .inr (12, fs')), (q_1, .inl (D.1 13, 1600, .inl (fun _ => 0))), (q_4, .inl (D.1 13, 6, .inl (fun _ => 0))), (q_179, .inl (D.1 13, 10, .inl (fun _ => 0))), (q_185, .inl (D.1 13, 6, .inl f_191))] → va_S A s.heap H locs → W p l e R s m args below meth c H locs 33 1997 Q (F0 m 874 ls [])) : W p l e R s m args below meth c H locs 27 1719 Q (F0 m 773 ls []) := by
  refine lv_aload_n hx hb dX12_init_773 rfl (lv_at hl 0 rfl) ?_
  refine lv_iconst (v := 3) hx hb dX12_init_774 (by decide) ?_
  refine va_newa (atype := .char) (a0 := (3, .inl (fun _ => 0))) (ty := .char) (N' := 3) hx hb (ht _ ac_char) rfl hK hP hD hS hA (fun _ => rfl) (by decide) (by decide) (by decide) (Nat.le_trans (Nat.le_of_ble_eq_true rfl) hRc) (Nat.le_trans (Nat.le_of_ble_eq_true rfl) hRs) dX12_init_775 (fun q_169 cA H hK2 hP hD hS => ?_)
  obtain rfl := z_cls_char hK hK2
  refine W.widen (k := 28) (n := 1722) (Nat.le_of_ble_eq_true rfl) (Nat.le_of_ble_eq_true rfl) ?_
  have hP : va_P D vwCl [(h0, .inr (12, fs)), (q_1, .inl (D.1 13, 1600, .inl (fun _ => 0))), (q_4, .inl (D.1 13, 6, .inl (fun _ => 0))), (q_169, .inl (D.1 14, 3, .inl (fun _ => 0)))] H := hP
  have hD : va_D A [(h0, .inr (12, fs)), (q_1, .inl (D.1 13, 1600, .inl (fun _ => 0))), (q_4, .inl (D.1 13, 6, .inl (fun _ => 0))), (q_169, .inl (D.1 14, 3, .inl (fun _ => 0)))] := hD
  refine lv_dup hx hb dX12_init_777 rfl ?_
  refine lv_iconst (v := 0) hx hb dX12_init_778 (by decide) ?_
  refine lv_bipush (v := 109) hx hb dX12_init_779 (by decide) ?_
  refine va_cast hx hb hK hP hD hS 3 1 rfl rfl (z_in (by decide) (by decide)) dX12_init_781 (fun H locs hP hD hS => ?_)
  generalize hf_170 : upd _ _ _ = f_170 at hP hD
  have hP : va_P D vwCl [(h0, .inr (12, fs)), (q_1, .inl (D.1 13, 1600, .inl (fun _ => 0))), (q_4, .inl (D.1 13, 6, .inl (fun _ => 0))), (q_169, .inl (D.1 14, 3, .inl f_170))] H := hP
  have hD : va_D A [(h0, .inr (12, fs)), (q_1, .inl (D.1 13, 1600, .inl (fun _ => 0))), (q_4, .inl (D.1 13, 6, .inl (fun _ => 0))), (q_169, .inl (D.1 14, 3, .inl f_170))] := hD
  refine lv_dup hx hb dX12_init_782 rfl ?_
  refine lv_iconst (v := 1) hx hb dX12_init_783 (by decide) ?_
  refine lv_bipush (v := 105) hx hb dX12_init_784 (by decide) ?_
  refine va_cast hx hb hK hP hD hS 3 1 rfl rfl (z_in (by decide) (by decide)) dX12_init_786 (fun H locs hP hD hS => ?_)
  generalize hf_171 : upd _ _ _ = f_171 at hP hD
  have hP : va_P D vwCl [(h0, .inr (12, fs)), (q_1, .inl (D.1 13, 1600, .inl (fun _ => 0))), (q_4, .inl (D.1 13, 6, .inl (fun _ => 0))), (q_169, .inl (D.1 14, 3, .inl f_171))] H := hP
  have hD : va_D A [(h0, .inr (12, fs)), (q_1, .inl (D.1 13, 1600, .inl (fun _ => 0))), (q_4, .inl (D.1 13, 6, .inl (fun _ => 0))), (q_169, .inl (D.1 14, 3, .inl f_171))] := hD
  refine lv_dup hx hb dX12_init_787 rfl ?_
  refine lv_iconst (v := 2) hx hb dX12_init_788 (by decide) ?_
  refine lv_bipush (v := 110) hx hb dX12_init_789 (by decide) ?_
  refine va_cast hx hb hK hP hD hS 3 1 rfl rfl (z_in (by decide) (by decide)) dX12_init_791 (fun H locs hP hD hS => ?_)
  generalize hf_172 : upd _ _ _ = f_172 at hP hD
  have hP : va_P D vwCl [(h0, .inr (12, fs)), (q_1, .inl (D.1 13, 1600, .inl (fun _ => 0))), (q_4, .inl (D.1 13, 6, .inl (fun _ => 0))), (q_169, .inl (D.1 14, 3, .inl f_172))] H := hP
  have hD : va_D A [(h0, .inr (12, fs)), (q_1, .inl (D.1 13, 1600, .inl (fun _ => 0))), (q_4, .inl (D.1 13, 6, .inl (fun _ => 0))), (q_169, .inl (D.1 14, 3, .inl f_172))] := hD
  refine va_putF (D := D) (ci := 12) (v := .ref q_169) (ty := .array .char) (C := RX12) (T := TX12) (N := 116) hx hb ht inX12 tyX12 tyX12_ok nmX12 hown hK hP hD hS 0 rfl rfl 36 (by decide) (ht (.fieldLink RX12 96 "CloneVolumesModel" "minWord" "[C") fl_X12_96) (fun _ h9 => h9) rfl hin rfl (by decide +kernel) rfl rfl (by rw [hlen]; decide) dX12_init_792 (fun H locs hP hD hS => ?_)
  have hP : va_P D vwCl [(h0, .inr (12, (fs.set 36 (.ref q_169)))), (q_1, .inl (D.1 13, 1600, .inl (fun _ => 0))), (q_4, .inl (D.1 13, 6, .inl (fun _ => 0))), (q_169, .inl (D.1 14, 3, .inl f_172))] H := hP
  have hD : va_D A [(h0, .inr (12, (fs.set 36 (.ref q_169)))), (q_1, .inl (D.1 13, 1600, .inl (fun _ => 0))), (q_4, .inl (D.1 13, 6, .inl (fun _ => 0))), (q_169, .inl (D.1 14, 3, .inl f_172))] := hD
  generalize hfs_173 : fs.set 36 (.ref q_169) = fs_173 at hP hD
  have hlen : fs_173.length = 116 := by rw [← hfs_173, List.length_set]; exact hlen
  have hP : va_P D vwCl [(h0, .inr (12, fs_173)), (q_1, .inl (D.1 13, 1600, .inl (fun _ => 0))), (q_4, .inl (D.1 13, 6, .inl (fun _ => 0))), (q_169, .inl (D.1 14, 3, .inl f_172))] H := hP
  have hD : va_D A [(h0, .inr (12, fs_173)), (q_1, .inl (D.1 13, 1600, .inl (fun _ => 0))), (q_4, .inl (D.1 13, 6, .inl (fun _ => 0))), (q_169, .inl (D.1 14, 3, .inl f_172))] := hD
  have hP := hP.sub (ws' := [(h0, .inr (12, fs_173)), (q_1, .inl (D.1 13, 1600, .inl (fun _ => 0))), (q_4, .inl (D.1 13, 6, .inl (fun _ => 0)))]) [0, 1, 2] rfl
  have hD := hD.sub (ws' := [(h0, .inr (12, fs_173)), (q_1, .inl (D.1 13, 1600, .inl (fun _ => 0))), (q_4, .inl (D.1 13, 6, .inl (fun _ => 0)))]) [0, 1, 2] (by decide) rfl
  refine lv_aload_n hx hb dX12_init_795 rfl (lv_at hl 0 rfl) ?_
  refine lv_iconst (v := 3) hx hb dX12_init_796 (by decide) ?_
  refine va_newa (atype := .char) (a0 := (3, .inl (fun _ => 0))) (ty := .char) (N' := 3) hx hb (ht _ ac_char) rfl hK hP hD hS hA (fun _ => rfl) (by decide) (by decide) (by decide) (Nat.le_trans (Nat.le_of_ble_eq_true rfl) hRc) (Nat.le_trans (Nat.le_of_ble_eq_true rfl) hRs) dX12_init_797 (fun q_174 cA H hK2 hP hD hS => ?_)
  obtain rfl := z_cls_char hK hK2
  refine W.widen (k := 29) (n := 1725) (Nat.le_of_ble_eq_true rfl) (Nat.le_of_ble_eq_true rfl) ?_
  have hP : va_P D vwCl [(h0, .inr (12, fs_173)), (q_1, .inl (D.1 13, 1600, .inl (fun _ => 0))), (q_4, .inl (D.1 13, 6, .inl (fun _ => 0))), (q_174, .inl (D.1 14, 3, .inl (fun _ => 0)))] H := hP
  have hD : va_D A [(h0, .inr (12, fs_173)), (q_1, .inl (D.1 13, 1600, .inl (fun _ => 0))), (q_4, .inl (D.1 13, 6, .inl (fun _ => 0))), (q_174, .inl (D.1 14, 3, .inl (fun _ => 0)))] := hD
  refine lv_dup hx hb dX12_init_799 rfl ?_
  refine lv_iconst (v := 0) hx hb dX12_init_800 (by decide) ?_
  refine lv_bipush (v := 109) hx hb dX12_init_801 (by decide) ?_
  refine va_cast hx hb hK hP hD hS 3 1 rfl rfl (z_in (by decide) (by decide)) dX12_init_803 (fun H locs hP hD hS => ?_)
  generalize hf_175 : upd _ _ _ = f_175 at hP hD
  have hP : va_P D vwCl [(h0, .inr (12, fs_173)), (q_1, .inl (D.1 13, 1600, .inl (fun _ => 0))), (q_4, .inl (D.1 13, 6, .inl (fun _ => 0))), (q_174, .inl (D.1 14, 3, .inl f_175))] H := hP
  have hD : va_D A [(h0, .inr (12, fs_173)), (q_1, .inl (D.1 13, 1600, .inl (fun _ => 0))), (q_4, .inl (D.1 13, 6, .inl (fun _ => 0))), (q_174, .inl (D.1 14, 3, .inl f_175))] := hD
  refine lv_dup hx hb dX12_init_804 rfl ?_
  refine lv_iconst (v := 1) hx hb dX12_init_805 (by decide) ?_
  refine lv_bipush (v := 97) hx hb dX12_init_806 (by decide) ?_
  refine va_cast hx hb hK hP hD hS 3 1 rfl rfl (z_in (by decide) (by decide)) dX12_init_808 (fun H locs hP hD hS => ?_)
  generalize hf_176 : upd _ _ _ = f_176 at hP hD
  have hP : va_P D vwCl [(h0, .inr (12, fs_173)), (q_1, .inl (D.1 13, 1600, .inl (fun _ => 0))), (q_4, .inl (D.1 13, 6, .inl (fun _ => 0))), (q_174, .inl (D.1 14, 3, .inl f_176))] H := hP
  have hD : va_D A [(h0, .inr (12, fs_173)), (q_1, .inl (D.1 13, 1600, .inl (fun _ => 0))), (q_4, .inl (D.1 13, 6, .inl (fun _ => 0))), (q_174, .inl (D.1 14, 3, .inl f_176))] := hD
  refine lv_dup hx hb dX12_init_809 rfl ?_
  refine lv_iconst (v := 2) hx hb dX12_init_810 (by decide) ?_
  refine lv_bipush (v := 120) hx hb dX12_init_811 (by decide) ?_
  refine va_cast hx hb hK hP hD hS 3 1 rfl rfl (z_in (by decide) (by decide)) dX12_init_813 (fun H locs hP hD hS => ?_)
  generalize hf_177 : upd _ _ _ = f_177 at hP hD
  have hP : va_P D vwCl [(h0, .inr (12, fs_173)), (q_1, .inl (D.1 13, 1600, .inl (fun _ => 0))), (q_4, .inl (D.1 13, 6, .inl (fun _ => 0))), (q_174, .inl (D.1 14, 3, .inl f_177))] H := hP
  have hD : va_D A [(h0, .inr (12, fs_173)), (q_1, .inl (D.1 13, 1600, .inl (fun _ => 0))), (q_4, .inl (D.1 13, 6, .inl (fun _ => 0))), (q_174, .inl (D.1 14, 3, .inl f_177))] := hD
  refine va_putF (D := D) (ci := 12) (v := .ref q_174) (ty := .array .char) (C := RX12) (T := TX12) (N := 116) hx hb ht inX12 tyX12 tyX12_ok nmX12 hown hK hP hD hS 0 rfl rfl 37 (by decide) (ht (.fieldLink RX12 99 "CloneVolumesModel" "maxWord" "[C") fl_X12_99) (fun _ h9 => h9) rfl hin rfl (by decide +kernel) rfl rfl (by rw [hlen]; decide) dX12_init_814 (fun H locs hP hD hS => ?_)
  have hP : va_P D vwCl [(h0, .inr (12, (fs_173.set 37 (.ref q_174)))), (q_1, .inl (D.1 13, 1600, .inl (fun _ => 0))), (q_4, .inl (D.1 13, 6, .inl (fun _ => 0))), (q_174, .inl (D.1 14, 3, .inl f_177))] H := hP
  have hD : va_D A [(h0, .inr (12, (fs_173.set 37 (.ref q_174)))), (q_1, .inl (D.1 13, 1600, .inl (fun _ => 0))), (q_4, .inl (D.1 13, 6, .inl (fun _ => 0))), (q_174, .inl (D.1 14, 3, .inl f_177))] := hD
  generalize hfs_178 : fs_173.set 37 (.ref q_174) = fs_178 at hP hD
  have hlen : fs_178.length = 116 := by rw [← hfs_178, List.length_set]; exact hlen
  have hP : va_P D vwCl [(h0, .inr (12, fs_178)), (q_1, .inl (D.1 13, 1600, .inl (fun _ => 0))), (q_4, .inl (D.1 13, 6, .inl (fun _ => 0))), (q_174, .inl (D.1 14, 3, .inl f_177))] H := hP
  have hD : va_D A [(h0, .inr (12, fs_178)), (q_1, .inl (D.1 13, 1600, .inl (fun _ => 0))), (q_4, .inl (D.1 13, 6, .inl (fun _ => 0))), (q_174, .inl (D.1 14, 3, .inl f_177))] := hD
  have hP := hP.sub (ws' := [(h0, .inr (12, fs_178)), (q_1, .inl (D.1 13, 1600, .inl (fun _ => 0))), (q_4, .inl (D.1 13, 6, .inl (fun _ => 0)))]) [0, 1, 2] rfl
  have hD := hD.sub (ws' := [(h0, .inr (12, fs_178)), (q_1, .inl (D.1 13, 1600, .inl (fun _ => 0))), (q_4, .inl (D.1 13, 6, .inl (fun _ => 0)))]) [0, 1, 2] (by decide) rfl
  refine lv_aload_n hx hb dX12_init_817 rfl (lv_at hl 0 rfl) ?_
  refine lv_bipush (v := 10) hx hb dX12_init_818 (by decide) ?_
  refine va_newa (atype := .int) (a0 := (10, .inl (fun _ => 0))) (ty := .int) (N' := 10) hx hb (ht _ ac_int) rfl hK hP hD hS hA (fun _ => rfl) (by decide) (by decide) (by decide) (Nat.le_trans (Nat.le_of_ble_eq_true rfl) hRc) (Nat.le_trans (Nat.le_of_ble_eq_true rfl) hRs) dX12_init_820 (fun q_179 cA H hK2 hP hD hS => ?_)
  obtain rfl := z_cls_int hK hK2
  refine W.widen (k := 30) (n := 1735) (Nat.le_of_ble_eq_true rfl) (Nat.le_of_ble_eq_true rfl) ?_
  have hP : va_P D vwCl [(h0, .inr (12, fs_178)), (q_1, .inl (D.1 13, 1600, .inl (fun _ => 0))), (q_4, .inl (D.1 13, 6, .inl (fun _ => 0))), (q_179, .inl (D.1 13, 10, .inl (fun _ => 0)))] H := hP
  have hD : va_D A [(h0, .inr (12, fs_178)), (q_1, .inl (D.1 13, 1600, .inl (fun _ => 0))), (q_4, .inl (D.1 13, 6, .inl (fun _ => 0))), (q_179, .inl (D.1 13, 10, .inl (fun _ => 0)))] := hD
  refine va_putF (D := D) (ci := 12) (v := .ref q_179) (ty := .array .int) (C := RX12) (T := TX12) (N := 116) hx hb ht inX12 tyX12 tyX12_ok nmX12 hown hK hP hD hS 0 rfl rfl 39 (by decide) (ht (.fieldLink RX12 102 "CloneVolumesModel" "many" "[I") fl_X12_102) (fun _ h9 => h9) rfl hin rfl (by decide +kernel) rfl rfl (by rw [hlen]; decide) dX12_init_822 (fun H locs hP hD hS => ?_)
  have hP : va_P D vwCl [(h0, .inr (12, (fs_178.set 39 (.ref q_179)))), (q_1, .inl (D.1 13, 1600, .inl (fun _ => 0))), (q_4, .inl (D.1 13, 6, .inl (fun _ => 0))), (q_179, .inl (D.1 13, 10, .inl (fun _ => 0)))] H := hP
  have hD : va_D A [(h0, .inr (12, (fs_178.set 39 (.ref q_179)))), (q_1, .inl (D.1 13, 1600, .inl (fun _ => 0))), (q_4, .inl (D.1 13, 6, .inl (fun _ => 0))), (q_179, .inl (D.1 13, 10, .inl (fun _ => 0)))] := hD
  generalize hfs_180 : fs_178.set 39 (.ref q_179) = fs_180 at hP hD
  have hlen : fs_180.length = 116 := by rw [← hfs_180, List.length_set]; exact hlen
  have hP : va_P D vwCl [(h0, .inr (12, fs_180)), (q_1, .inl (D.1 13, 1600, .inl (fun _ => 0))), (q_4, .inl (D.1 13, 6, .inl (fun _ => 0))), (q_179, .inl (D.1 13, 10, .inl (fun _ => 0)))] H := hP
  have hD : va_D A [(h0, .inr (12, fs_180)), (q_1, .inl (D.1 13, 1600, .inl (fun _ => 0))), (q_4, .inl (D.1 13, 6, .inl (fun _ => 0))), (q_179, .inl (D.1 13, 10, .inl (fun _ => 0)))] := hD
  refine lv_aload_n hx hb dX12_init_825 rfl (lv_at hl 0 rfl) ?_
  refine lv_bipush (v := 16) hx hb dX12_init_826 (by decide) ?_
  refine va_newa (atype := .long) (a0 := (16, .inr (.inl (fun _ => 0)))) (ty := .long) (N' := 16) hx hb (ht _ ac_long) rfl hK hP hD hS hA (fun _ => rfl) (by decide) (by decide) (by decide) (Nat.le_trans (Nat.le_of_ble_eq_true rfl) hRc) (Nat.le_trans (Nat.le_of_ble_eq_true rfl) hRs) dX12_init_828 (fun q_181 cA H hK2 hP hD hS => ?_)
  obtain rfl := z_cls_long hK hK2
  refine W.widen (k := 31) (n := 1751) (Nat.le_of_ble_eq_true rfl) (Nat.le_of_ble_eq_true rfl) ?_
  have hP : va_P D vwCl [(h0, .inr (12, fs_180)), (q_1, .inl (D.1 13, 1600, .inl (fun _ => 0))), (q_4, .inl (D.1 13, 6, .inl (fun _ => 0))), (q_179, .inl (D.1 13, 10, .inl (fun _ => 0))), (q_181, .inl (D.1 15, 16, .inr (.inl (fun _ => 0))))] H := hP
  have hD : va_D A [(h0, .inr (12, fs_180)), (q_1, .inl (D.1 13, 1600, .inl (fun _ => 0))), (q_4, .inl (D.1 13, 6, .inl (fun _ => 0))), (q_179, .inl (D.1 13, 10, .inl (fun _ => 0))), (q_181, .inl (D.1 15, 16, .inr (.inl (fun _ => 0))))] := hD
  refine va_putF (D := D) (ci := 12) (v := .ref q_181) (ty := .array .long) (C := RX12) (T := TX12) (N := 116) hx hb ht inX12 tyX12 tyX12_ok nmX12 hown hK hP hD hS 0 rfl rfl 40 (by decide) (ht (.fieldLink RX12 105 "CloneVolumesModel" "names" "[J") fl_X12_105) (fun _ h9 => h9) rfl hin rfl (by decide +kernel) rfl rfl (by rw [hlen]; decide) dX12_init_830 (fun H locs hP hD hS => ?_)
  have hP : va_P D vwCl [(h0, .inr (12, (fs_180.set 40 (.ref q_181)))), (q_1, .inl (D.1 13, 1600, .inl (fun _ => 0))), (q_4, .inl (D.1 13, 6, .inl (fun _ => 0))), (q_179, .inl (D.1 13, 10, .inl (fun _ => 0))), (q_181, .inl (D.1 15, 16, .inr (.inl (fun _ => 0))))] H := hP
  have hD : va_D A [(h0, .inr (12, (fs_180.set 40 (.ref q_181)))), (q_1, .inl (D.1 13, 1600, .inl (fun _ => 0))), (q_4, .inl (D.1 13, 6, .inl (fun _ => 0))), (q_179, .inl (D.1 13, 10, .inl (fun _ => 0))), (q_181, .inl (D.1 15, 16, .inr (.inl (fun _ => 0))))] := hD
  generalize hfs_182 : fs_180.set 40 (.ref q_181) = fs_182 at hP hD
  have hlen : fs_182.length = 116 := by rw [← hfs_182, List.length_set]; exact hlen
  have hP : va_P D vwCl [(h0, .inr (12, fs_182)), (q_1, .inl (D.1 13, 1600, .inl (fun _ => 0))), (q_4, .inl (D.1 13, 6, .inl (fun _ => 0))), (q_179, .inl (D.1 13, 10, .inl (fun _ => 0))), (q_181, .inl (D.1 15, 16, .inr (.inl (fun _ => 0))))] H := hP
  have hD : va_D A [(h0, .inr (12, fs_182)), (q_1, .inl (D.1 13, 1600, .inl (fun _ => 0))), (q_4, .inl (D.1 13, 6, .inl (fun _ => 0))), (q_179, .inl (D.1 13, 10, .inl (fun _ => 0))), (q_181, .inl (D.1 15, 16, .inr (.inl (fun _ => 0))))] := hD
  have hP := hP.sub (ws' := [(h0, .inr (12, fs_182)), (q_1, .inl (D.1 13, 1600, .inl (fun _ => 0))), (q_4, .inl (D.1 13, 6, .inl (fun _ => 0))), (q_179, .inl (D.1 13, 10, .inl (fun _ => 0)))]) [0, 1, 2, 3] rfl
  have hD := hD.sub (ws' := [(h0, .inr (12, fs_182)), (q_1, .inl (D.1 13, 1600, .inl (fun _ => 0))), (q_4, .inl (D.1 13, 6, .inl (fun _ => 0))), (q_179, .inl (D.1 13, 10, .inl (fun _ => 0)))]) [0, 1, 2, 3] (by decide) rfl
  refine lv_aload_n hx hb dX12_init_833 rfl (lv_at hl 0 rfl) ?_
  refine lv_sipush (v := 240) hx hb dX12_init_834 (by decide) ?_
  refine va_newa (atype := .int) (a0 := (240, .inl (fun _ => 0))) (ty := .int) (N' := 240) hx hb (ht _ ac_int) rfl hK hP hD hS hA (fun _ => rfl) (by decide) (by decide) (by decide) (Nat.le_trans (Nat.le_of_ble_eq_true rfl) hRc) (Nat.le_trans (Nat.le_of_ble_eq_true rfl) hRs) dX12_init_837 (fun q_183 cA H hK2 hP hD hS => ?_)
  obtain rfl := z_cls_int hK hK2
  refine W.widen (k := 32) (n := 1991) (Nat.le_of_ble_eq_true rfl) (Nat.le_of_ble_eq_true rfl) ?_
  have hP : va_P D vwCl [(h0, .inr (12, fs_182)), (q_1, .inl (D.1 13, 1600, .inl (fun _ => 0))), (q_4, .inl (D.1 13, 6, .inl (fun _ => 0))), (q_179, .inl (D.1 13, 10, .inl (fun _ => 0))), (q_183, .inl (D.1 13, 240, .inl (fun _ => 0)))] H := hP
  have hD : va_D A [(h0, .inr (12, fs_182)), (q_1, .inl (D.1 13, 1600, .inl (fun _ => 0))), (q_4, .inl (D.1 13, 6, .inl (fun _ => 0))), (q_179, .inl (D.1 13, 10, .inl (fun _ => 0))), (q_183, .inl (D.1 13, 240, .inl (fun _ => 0)))] := hD
  refine va_putF (D := D) (ci := 12) (v := .ref q_183) (ty := .array .int) (C := RX12) (T := TX12) (N := 116) hx hb ht inX12 tyX12 tyX12_ok nmX12 hown hK hP hD hS 0 rfl rfl 41 (by decide) (ht (.fieldLink RX12 109 "CloneVolumesModel" "acts" "[I") fl_X12_109) (fun _ h9 => h9) rfl hin rfl (by decide +kernel) rfl rfl (by rw [hlen]; decide) dX12_init_839 (fun H locs hP hD hS => ?_)
  have hP : va_P D vwCl [(h0, .inr (12, (fs_182.set 41 (.ref q_183)))), (q_1, .inl (D.1 13, 1600, .inl (fun _ => 0))), (q_4, .inl (D.1 13, 6, .inl (fun _ => 0))), (q_179, .inl (D.1 13, 10, .inl (fun _ => 0))), (q_183, .inl (D.1 13, 240, .inl (fun _ => 0)))] H := hP
  have hD : va_D A [(h0, .inr (12, (fs_182.set 41 (.ref q_183)))), (q_1, .inl (D.1 13, 1600, .inl (fun _ => 0))), (q_4, .inl (D.1 13, 6, .inl (fun _ => 0))), (q_179, .inl (D.1 13, 10, .inl (fun _ => 0))), (q_183, .inl (D.1 13, 240, .inl (fun _ => 0)))] := hD
  generalize hfs_184 : fs_182.set 41 (.ref q_183) = fs_184 at hP hD
  have hlen : fs_184.length = 116 := by rw [← hfs_184, List.length_set]; exact hlen
  have hP : va_P D vwCl [(h0, .inr (12, fs_184)), (q_1, .inl (D.1 13, 1600, .inl (fun _ => 0))), (q_4, .inl (D.1 13, 6, .inl (fun _ => 0))), (q_179, .inl (D.1 13, 10, .inl (fun _ => 0))), (q_183, .inl (D.1 13, 240, .inl (fun _ => 0)))] H := hP
  have hD : va_D A [(h0, .inr (12, fs_184)), (q_1, .inl (D.1 13, 1600, .inl (fun _ => 0))), (q_4, .inl (D.1 13, 6, .inl (fun _ => 0))), (q_179, .inl (D.1 13, 10, .inl (fun _ => 0))), (q_183, .inl (D.1 13, 240, .inl (fun _ => 0)))] := hD
  have hP := hP.sub (ws' := [(h0, .inr (12, fs_184)), (q_1, .inl (D.1 13, 1600, .inl (fun _ => 0))), (q_4, .inl (D.1 13, 6, .inl (fun _ => 0))), (q_179, .inl (D.1 13, 10, .inl (fun _ => 0)))]) [0, 1, 2, 3] rfl
  have hD := hD.sub (ws' := [(h0, .inr (12, fs_184)), (q_1, .inl (D.1 13, 1600, .inl (fun _ => 0))), (q_4, .inl (D.1 13, 6, .inl (fun _ => 0))), (q_179, .inl (D.1 13, 10, .inl (fun _ => 0)))]) [0, 1, 2, 3] (by decide) rfl
  refine lv_aload_n hx hb dX12_init_842 rfl (lv_at hl 0 rfl) ?_
  refine lv_bipush (v := 6) hx hb dX12_init_843 (by decide) ?_
  refine va_newa (atype := .int) (a0 := (6, .inl (fun _ => 0))) (ty := .int) (N' := 6) hx hb (ht _ ac_int) rfl hK hP hD hS hA (fun _ => rfl) (by decide) (by decide) (by decide) (Nat.le_trans (Nat.le_of_ble_eq_true rfl) hRc) (Nat.le_trans (Nat.le_of_ble_eq_true rfl) hRs) dX12_init_845 (fun q_185 cA H hK2 hP hD hS => ?_)
  obtain rfl := z_cls_int hK hK2
  refine W.widen (k := 33) (n := 1997) (Nat.le_of_ble_eq_true rfl) (Nat.le_of_ble_eq_true rfl) ?_
  have hP : va_P D vwCl [(h0, .inr (12, fs_184)), (q_1, .inl (D.1 13, 1600, .inl (fun _ => 0))), (q_4, .inl (D.1 13, 6, .inl (fun _ => 0))), (q_179, .inl (D.1 13, 10, .inl (fun _ => 0))), (q_185, .inl (D.1 13, 6, .inl (fun _ => 0)))] H := hP
  have hD : va_D A [(h0, .inr (12, fs_184)), (q_1, .inl (D.1 13, 1600, .inl (fun _ => 0))), (q_4, .inl (D.1 13, 6, .inl (fun _ => 0))), (q_179, .inl (D.1 13, 10, .inl (fun _ => 0))), (q_185, .inl (D.1 13, 6, .inl (fun _ => 0)))] := hD
  refine lv_dup hx hb dX12_init_847 rfl ?_
  refine lv_iconst (v := 0) hx hb dX12_init_848 (by decide) ?_
  refine lv_iconst (v := (-1)) hx hb dX12_init_849 (by decide) ?_
  refine va_iast hx hb hK hP hD hS 4 0 rfl rfl (z_in (by decide) (by decide)) dX12_init_850 (fun H locs hP hD hS => ?_)
  generalize hf_186 : upd _ _ _ = f_186 at hP hD
  have hP : va_P D vwCl [(h0, .inr (12, fs_184)), (q_1, .inl (D.1 13, 1600, .inl (fun _ => 0))), (q_4, .inl (D.1 13, 6, .inl (fun _ => 0))), (q_179, .inl (D.1 13, 10, .inl (fun _ => 0))), (q_185, .inl (D.1 13, 6, .inl f_186))] H := hP
  have hD : va_D A [(h0, .inr (12, fs_184)), (q_1, .inl (D.1 13, 1600, .inl (fun _ => 0))), (q_4, .inl (D.1 13, 6, .inl (fun _ => 0))), (q_179, .inl (D.1 13, 10, .inl (fun _ => 0))), (q_185, .inl (D.1 13, 6, .inl f_186))] := hD
  refine lv_dup hx hb dX12_init_851 rfl ?_
  refine lv_iconst (v := 1) hx hb dX12_init_852 (by decide) ?_
  refine lv_iconst (v := (-1)) hx hb dX12_init_853 (by decide) ?_
  refine va_iast hx hb hK hP hD hS 4 0 rfl rfl (z_in (by decide) (by decide)) dX12_init_854 (fun H locs hP hD hS => ?_)
  generalize hf_187 : upd _ _ _ = f_187 at hP hD
  have hP : va_P D vwCl [(h0, .inr (12, fs_184)), (q_1, .inl (D.1 13, 1600, .inl (fun _ => 0))), (q_4, .inl (D.1 13, 6, .inl (fun _ => 0))), (q_179, .inl (D.1 13, 10, .inl (fun _ => 0))), (q_185, .inl (D.1 13, 6, .inl f_187))] H := hP
  have hD : va_D A [(h0, .inr (12, fs_184)), (q_1, .inl (D.1 13, 1600, .inl (fun _ => 0))), (q_4, .inl (D.1 13, 6, .inl (fun _ => 0))), (q_179, .inl (D.1 13, 10, .inl (fun _ => 0))), (q_185, .inl (D.1 13, 6, .inl f_187))] := hD
  refine lv_dup hx hb dX12_init_855 rfl ?_
  refine lv_iconst (v := 2) hx hb dX12_init_856 (by decide) ?_
  refine lv_iconst (v := (-1)) hx hb dX12_init_857 (by decide) ?_
  refine va_iast hx hb hK hP hD hS 4 0 rfl rfl (z_in (by decide) (by decide)) dX12_init_858 (fun H locs hP hD hS => ?_)
  generalize hf_188 : upd _ _ _ = f_188 at hP hD
  have hP : va_P D vwCl [(h0, .inr (12, fs_184)), (q_1, .inl (D.1 13, 1600, .inl (fun _ => 0))), (q_4, .inl (D.1 13, 6, .inl (fun _ => 0))), (q_179, .inl (D.1 13, 10, .inl (fun _ => 0))), (q_185, .inl (D.1 13, 6, .inl f_188))] H := hP
  have hD : va_D A [(h0, .inr (12, fs_184)), (q_1, .inl (D.1 13, 1600, .inl (fun _ => 0))), (q_4, .inl (D.1 13, 6, .inl (fun _ => 0))), (q_179, .inl (D.1 13, 10, .inl (fun _ => 0))), (q_185, .inl (D.1 13, 6, .inl f_188))] := hD
  refine lv_dup hx hb dX12_init_859 rfl ?_
  refine lv_iconst (v := 3) hx hb dX12_init_860 (by decide) ?_
  refine lv_iconst (v := (-1)) hx hb dX12_init_861 (by decide) ?_
  refine va_iast hx hb hK hP hD hS 4 0 rfl rfl (z_in (by decide) (by decide)) dX12_init_862 (fun H locs hP hD hS => ?_)
  generalize hf_189 : upd _ _ _ = f_189 at hP hD
  have hP : va_P D vwCl [(h0, .inr (12, fs_184)), (q_1, .inl (D.1 13, 1600, .inl (fun _ => 0))), (q_4, .inl (D.1 13, 6, .inl (fun _ => 0))), (q_179, .inl (D.1 13, 10, .inl (fun _ => 0))), (q_185, .inl (D.1 13, 6, .inl f_189))] H := hP
  have hD : va_D A [(h0, .inr (12, fs_184)), (q_1, .inl (D.1 13, 1600, .inl (fun _ => 0))), (q_4, .inl (D.1 13, 6, .inl (fun _ => 0))), (q_179, .inl (D.1 13, 10, .inl (fun _ => 0))), (q_185, .inl (D.1 13, 6, .inl f_189))] := hD
  refine lv_dup hx hb dX12_init_863 rfl ?_
  refine lv_iconst (v := 4) hx hb dX12_init_864 (by decide) ?_
  refine lv_iconst (v := (-1)) hx hb dX12_init_865 (by decide) ?_
  refine va_iast hx hb hK hP hD hS 4 0 rfl rfl (z_in (by decide) (by decide)) dX12_init_866 (fun H locs hP hD hS => ?_)
  generalize hf_190 : upd _ _ _ = f_190 at hP hD
  have hP : va_P D vwCl [(h0, .inr (12, fs_184)), (q_1, .inl (D.1 13, 1600, .inl (fun _ => 0))), (q_4, .inl (D.1 13, 6, .inl (fun _ => 0))), (q_179, .inl (D.1 13, 10, .inl (fun _ => 0))), (q_185, .inl (D.1 13, 6, .inl f_190))] H := hP
  have hD : va_D A [(h0, .inr (12, fs_184)), (q_1, .inl (D.1 13, 1600, .inl (fun _ => 0))), (q_4, .inl (D.1 13, 6, .inl (fun _ => 0))), (q_179, .inl (D.1 13, 10, .inl (fun _ => 0))), (q_185, .inl (D.1 13, 6, .inl f_190))] := hD
  refine lv_dup hx hb dX12_init_867 rfl ?_
  refine lv_iconst (v := 5) hx hb dX12_init_868 (by decide) ?_
  refine lv_iconst (v := (-1)) hx hb dX12_init_869 (by decide) ?_
  refine va_iast hx hb hK hP hD hS 4 0 rfl rfl (z_in (by decide) (by decide)) dX12_init_870 (fun H locs hP hD hS => ?_)
  generalize hf_191 : upd _ _ _ = f_191 at hP hD
  have hP : va_P D vwCl [(h0, .inr (12, fs_184)), (q_1, .inl (D.1 13, 1600, .inl (fun _ => 0))), (q_4, .inl (D.1 13, 6, .inl (fun _ => 0))), (q_179, .inl (D.1 13, 10, .inl (fun _ => 0))), (q_185, .inl (D.1 13, 6, .inl f_191))] H := hP
  have hD : va_D A [(h0, .inr (12, fs_184)), (q_1, .inl (D.1 13, 1600, .inl (fun _ => 0))), (q_4, .inl (D.1 13, 6, .inl (fun _ => 0))), (q_179, .inl (D.1 13, 10, .inl (fun _ => 0))), (q_185, .inl (D.1 13, 6, .inl f_191))] := hD
  refine va_putF (D := D) (ci := 12) (v := .ref q_185) (ty := .array .int) (C := RX12) (T := TX12) (N := 116) hx hb ht inX12 tyX12 tyX12_ok nmX12 hown hK hP hD hS 0 rfl rfl 42 (by decide) (ht (.fieldLink RX12 112 "CloneVolumesModel" "codeFrom" "[I") fl_X12_112) (fun _ h9 => h9) rfl hin rfl (by decide +kernel) rfl rfl (by rw [hlen]; decide) dX12_init_871 (fun H locs hP hD hS => ?_)
  have hP : va_P D vwCl [(h0, .inr (12, (fs_184.set 42 (.ref q_185)))), (q_1, .inl (D.1 13, 1600, .inl (fun _ => 0))), (q_4, .inl (D.1 13, 6, .inl (fun _ => 0))), (q_179, .inl (D.1 13, 10, .inl (fun _ => 0))), (q_185, .inl (D.1 13, 6, .inl f_191))] H := hP
  have hD : va_D A [(h0, .inr (12, (fs_184.set 42 (.ref q_185)))), (q_1, .inl (D.1 13, 1600, .inl (fun _ => 0))), (q_4, .inl (D.1 13, 6, .inl (fun _ => 0))), (q_179, .inl (D.1 13, 10, .inl (fun _ => 0))), (q_185, .inl (D.1 13, 6, .inl f_191))] := hD
  generalize hfs_192 : fs_184.set 42 (.ref q_185) = fs_192 at hP hD
  have hlen : fs_192.length = 116 := by rw [← hfs_192, List.length_set]; exact hlen
  have hP : va_P D vwCl [(h0, .inr (12, fs_192)), (q_1, .inl (D.1 13, 1600, .inl (fun _ => 0))), (q_4, .inl (D.1 13, 6, .inl (fun _ => 0))), (q_179, .inl (D.1 13, 10, .inl (fun _ => 0))), (q_185, .inl (D.1 13, 6, .inl f_191))] H := hP
  have hD : va_D A [(h0, .inr (12, fs_192)), (q_1, .inl (D.1 13, 1600, .inl (fun _ => 0))), (q_4, .inl (D.1 13, 6, .inl (fun _ => 0))), (q_179, .inl (D.1 13, 10, .inl (fun _ => 0))), (q_185, .inl (D.1 13, 6, .inl f_191))] := hD
  exact kk q_169 q_174 q_179 q_181 q_183 q_185 f_191 fs_192 _ _ (by rw [← hfs_192, ← hfs_184, ← hfs_182, ← hfs_180, ← hfs_178, ← hfs_173]) hP hD hS
set_option maxHeartbeats 4000000 in
set_option maxRecDepth 100000 in
theorem cM_12 {h0 : Nat} {q_1 : Nat} {q_4 : Nat} {q_179 : Nat} {q_185 : Nat} {f_191 : Nat → Int32} (hx : p.tables.exec = Jvm.exec) (hb : c.code = cX12_init) (ht : ∀ w ∈ lw_gd, w.before args s = true) (hown : s.vm.findClass RX12 = some m.cls) (hin : meth.name = "<init>") (hK : va_K D vwCl (TY D) s) (hA : ∀ q : Nat, s.heap.size ≤ q → A q) (hRc : 80 ≤ R.cells) (hRs : 35050 ≤ R.slots) (hl : lv_has ls 1 [(0, .ref h0)]) {fs : List Value} (hlen : fs.length = 116) {H : Heap} {locs : List Loc} (hP : va_P D vwCl [(h0, .inr (12, fs)), (q_1, .inl (D.1 13, 1600, .inl (fun _ => 0))), (q_4, .inl (D.1 13, 6, .inl (fun _ => 0))), (q_179, .inl (D.1 13, 10, .inl (fun _ => 0))), (q_185, .inl (D.1 13, 6, .inl f_191))] H) (hD : va_D A [(h0, .inr (12, fs)), (q_1, .inl (D.1 13, 1600, .inl (fun _ => 0))), (q_4, .inl (D.1 13, 6, .inl (fun _ => 0))), (q_179, .inl (D.1 13, 10, .inl (fun _ => 0))), (q_185, .inl (D.1 13, 6, .inl f_191))]) (hS : va_S A s.heap H locs)
    (kk : ∀ (q_193 : Nat) (q_195 : Nat) (q_197 : Nat) (q_199 : Nat) (q_201 : Nat) (q_203 : Nat) (q_205 : Nat) (q_207 : Nat) (q_209 : Nat) (q_211 : Nat) (q_213 : Nat) (q_215 : Nat) (fs' : List Value) (H : Heap) (locs : List Loc), fs' = ((((((((((((fs.set 43 (.ref q_193)).set 44 (.ref q_195)).set 49 (.ref q_197)).set 54 (.ref q_199)).set 56 (.ref q_201)).set 57 (.ref q_203)).set 58 (.ref q_205)).set 59 (.ref q_207)).set 60 (.ref q_209)).set 61 (.ref q_211)).set 62 (.ref q_213)).set 63 (.ref q_215)) → va_P D vwCl [(h0, .inr (12, fs')), (q_1, .inl (D.1 13, 1600, .inl (fun _ => 0))), (q_4, .inl (D.1 13, 6, .inl (fun _ => 0))), (q_179, .inl (D.1 13, 10, .inl (fun _ => 0))), (q_185, .inl (D.1 13, 6, .inl f_191)), (q_197, .inl (D.1 13, 906, .inl (fun _ => 0)))] H → va_D A [(h0, .inr (12, fs')), (q_1, .inl (D.1 13, 1600, .inl (fun _ => 0))), (q_4, .inl (D.1 13, 6, .inl (fun _ => 0))), (q_179, .inl (D.1 13, 10, .inl (fun _ => 0))), (q_185, .inl (D.1 13, 6, .inl f_191)), (q_197, .inl (D.1 13, 906, .inl (fun _ => 0)))] → va_S A s.heap H locs → W p l e R s m args below meth c H locs 45 8519 Q (F0 m 976 ls [])) : W p l e R s m args below meth c H locs 33 1997 Q (F0 m 874 ls []) := by
  refine lv_aload_n hx hb dX12_init_874 rfl (lv_at hl 0 rfl) ?_
  refine lv_bipush (v := 6) hx hb dX12_init_875 (by decide) ?_
  refine va_newa (atype := .int) (a0 := (6, .inl (fun _ => 0))) (ty := .int) (N' := 6) hx hb (ht _ ac_int) rfl hK hP hD hS hA (fun _ => rfl) (by decide) (by decide) (by decide) (Nat.le_trans (Nat.le_of_ble_eq_true rfl) hRc) (Nat.le_trans (Nat.le_of_ble_eq_true rfl) hRs) dX12_init_877 (fun q_193 cA H hK2 hP hD hS => ?_)
  obtain rfl := z_cls_int hK hK2
  refine W.widen (k := 34) (n := 2003) (Nat.le_of_ble_eq_true rfl) (Nat.le_of_ble_eq_true rfl) ?_
  have hP : va_P D vwCl [(h0, .inr (12, fs)), (q_1, .inl (D.1 13, 1600, .inl (fun _ => 0))), (q_4, .inl (D.1 13, 6, .inl (fun _ => 0))), (q_179, .inl (D.1 13, 10, .inl (fun _ => 0))), (q_185, .inl (D.1 13, 6, .inl f_191)), (q_193, .inl (D.1 13, 6, .inl (fun _ => 0)))] H := hP
  have hD : va_D A [(h0, .inr (12, fs)), (q_1, .inl (D.1 13, 1600, .inl (fun _ => 0))), (q_4, .inl (D.1 13, 6, .inl (fun _ => 0))), (q_179, .inl (D.1 13, 10, .inl (fun _ => 0))), (q_185, .inl (D.1 13, 6, .inl f_191)), (q_193, .inl (D.1 13, 6, .inl (fun _ => 0)))] := hD
  refine va_putF (D := D) (ci := 12) (v := .ref q_193) (ty := .array .int) (C := RX12) (T := TX12) (N := 116) hx hb ht inX12 tyX12 tyX12_ok nmX12 hown hK hP hD hS 0 rfl rfl 43 (by decide) (ht (.fieldLink RX12 115 "CloneVolumesModel" "codeEnd" "[I") fl_X12_115) (fun _ h9 => h9) rfl hin rfl (by decide +kernel) rfl rfl (by rw [hlen]; decide) dX12_init_879 (fun H locs hP hD hS => ?_)
  have hP : va_P D vwCl [(h0, .inr (12, (fs.set 43 (.ref q_193)))), (q_1, .inl (D.1 13, 1600, .inl (fun _ => 0))), (q_4, .inl (D.1 13, 6, .inl (fun _ => 0))), (q_179, .inl (D.1 13, 10, .inl (fun _ => 0))), (q_185, .inl (D.1 13, 6, .inl f_191)), (q_193, .inl (D.1 13, 6, .inl (fun _ => 0)))] H := hP
  have hD : va_D A [(h0, .inr (12, (fs.set 43 (.ref q_193)))), (q_1, .inl (D.1 13, 1600, .inl (fun _ => 0))), (q_4, .inl (D.1 13, 6, .inl (fun _ => 0))), (q_179, .inl (D.1 13, 10, .inl (fun _ => 0))), (q_185, .inl (D.1 13, 6, .inl f_191)), (q_193, .inl (D.1 13, 6, .inl (fun _ => 0)))] := hD
  generalize hfs_194 : fs.set 43 (.ref q_193) = fs_194 at hP hD
  have hlen : fs_194.length = 116 := by rw [← hfs_194, List.length_set]; exact hlen
  have hP : va_P D vwCl [(h0, .inr (12, fs_194)), (q_1, .inl (D.1 13, 1600, .inl (fun _ => 0))), (q_4, .inl (D.1 13, 6, .inl (fun _ => 0))), (q_179, .inl (D.1 13, 10, .inl (fun _ => 0))), (q_185, .inl (D.1 13, 6, .inl f_191)), (q_193, .inl (D.1 13, 6, .inl (fun _ => 0)))] H := hP
  have hD : va_D A [(h0, .inr (12, fs_194)), (q_1, .inl (D.1 13, 1600, .inl (fun _ => 0))), (q_4, .inl (D.1 13, 6, .inl (fun _ => 0))), (q_179, .inl (D.1 13, 10, .inl (fun _ => 0))), (q_185, .inl (D.1 13, 6, .inl f_191)), (q_193, .inl (D.1 13, 6, .inl (fun _ => 0)))] := hD
  have hP := hP.sub (ws' := [(h0, .inr (12, fs_194)), (q_1, .inl (D.1 13, 1600, .inl (fun _ => 0))), (q_4, .inl (D.1 13, 6, .inl (fun _ => 0))), (q_179, .inl (D.1 13, 10, .inl (fun _ => 0))), (q_185, .inl (D.1 13, 6, .inl f_191))]) [0, 1, 2, 3, 4] rfl
  have hD := hD.sub (ws' := [(h0, .inr (12, fs_194)), (q_1, .inl (D.1 13, 1600, .inl (fun _ => 0))), (q_4, .inl (D.1 13, 6, .inl (fun _ => 0))), (q_179, .inl (D.1 13, 10, .inl (fun _ => 0))), (q_185, .inl (D.1 13, 6, .inl f_191))]) [0, 1, 2, 3, 4] (by decide) rfl
  refine lv_aload_n hx hb dX12_init_882 rfl (lv_at hl 0 rfl) ?_
  refine lv_sipush (v := 3200) hx hb dX12_init_883 (by decide) ?_
  refine va_newa (atype := .int) (a0 := (3200, .inl (fun _ => 0))) (ty := .int) (N' := 3200) hx hb (ht _ ac_int) rfl hK hP hD hS hA (fun _ => rfl) (by decide) (by decide) (by decide) (Nat.le_trans (Nat.le_of_ble_eq_true rfl) hRc) (Nat.le_trans (Nat.le_of_ble_eq_true rfl) hRs) dX12_init_886 (fun q_195 cA H hK2 hP hD hS => ?_)
  obtain rfl := z_cls_int hK hK2
  refine W.widen (k := 35) (n := 5203) (Nat.le_of_ble_eq_true rfl) (Nat.le_of_ble_eq_true rfl) ?_
  have hP : va_P D vwCl [(h0, .inr (12, fs_194)), (q_1, .inl (D.1 13, 1600, .inl (fun _ => 0))), (q_4, .inl (D.1 13, 6, .inl (fun _ => 0))), (q_179, .inl (D.1 13, 10, .inl (fun _ => 0))), (q_185, .inl (D.1 13, 6, .inl f_191)), (q_195, .inl (D.1 13, 3200, .inl (fun _ => 0)))] H := hP
  have hD : va_D A [(h0, .inr (12, fs_194)), (q_1, .inl (D.1 13, 1600, .inl (fun _ => 0))), (q_4, .inl (D.1 13, 6, .inl (fun _ => 0))), (q_179, .inl (D.1 13, 10, .inl (fun _ => 0))), (q_185, .inl (D.1 13, 6, .inl f_191)), (q_195, .inl (D.1 13, 3200, .inl (fun _ => 0)))] := hD
  refine va_putF (D := D) (ci := 12) (v := .ref q_195) (ty := .array .int) (C := RX12) (T := TX12) (N := 116) hx hb ht inX12 tyX12 tyX12_ok nmX12 hown hK hP hD hS 0 rfl rfl 44 (by decide) (ht (.fieldLink RX12 118 "CloneVolumesModel" "codes" "[I") fl_X12_118) (fun _ h9 => h9) rfl hin rfl (by decide +kernel) rfl rfl (by rw [hlen]; decide) dX12_init_888 (fun H locs hP hD hS => ?_)
  have hP : va_P D vwCl [(h0, .inr (12, (fs_194.set 44 (.ref q_195)))), (q_1, .inl (D.1 13, 1600, .inl (fun _ => 0))), (q_4, .inl (D.1 13, 6, .inl (fun _ => 0))), (q_179, .inl (D.1 13, 10, .inl (fun _ => 0))), (q_185, .inl (D.1 13, 6, .inl f_191)), (q_195, .inl (D.1 13, 3200, .inl (fun _ => 0)))] H := hP
  have hD : va_D A [(h0, .inr (12, (fs_194.set 44 (.ref q_195)))), (q_1, .inl (D.1 13, 1600, .inl (fun _ => 0))), (q_4, .inl (D.1 13, 6, .inl (fun _ => 0))), (q_179, .inl (D.1 13, 10, .inl (fun _ => 0))), (q_185, .inl (D.1 13, 6, .inl f_191)), (q_195, .inl (D.1 13, 3200, .inl (fun _ => 0)))] := hD
  generalize hfs_196 : fs_194.set 44 (.ref q_195) = fs_196 at hP hD
  have hlen : fs_196.length = 116 := by rw [← hfs_196, List.length_set]; exact hlen
  have hP : va_P D vwCl [(h0, .inr (12, fs_196)), (q_1, .inl (D.1 13, 1600, .inl (fun _ => 0))), (q_4, .inl (D.1 13, 6, .inl (fun _ => 0))), (q_179, .inl (D.1 13, 10, .inl (fun _ => 0))), (q_185, .inl (D.1 13, 6, .inl f_191)), (q_195, .inl (D.1 13, 3200, .inl (fun _ => 0)))] H := hP
  have hD : va_D A [(h0, .inr (12, fs_196)), (q_1, .inl (D.1 13, 1600, .inl (fun _ => 0))), (q_4, .inl (D.1 13, 6, .inl (fun _ => 0))), (q_179, .inl (D.1 13, 10, .inl (fun _ => 0))), (q_185, .inl (D.1 13, 6, .inl f_191)), (q_195, .inl (D.1 13, 3200, .inl (fun _ => 0)))] := hD
  have hP := hP.sub (ws' := [(h0, .inr (12, fs_196)), (q_1, .inl (D.1 13, 1600, .inl (fun _ => 0))), (q_4, .inl (D.1 13, 6, .inl (fun _ => 0))), (q_179, .inl (D.1 13, 10, .inl (fun _ => 0))), (q_185, .inl (D.1 13, 6, .inl f_191))]) [0, 1, 2, 3, 4] rfl
  have hD := hD.sub (ws' := [(h0, .inr (12, fs_196)), (q_1, .inl (D.1 13, 1600, .inl (fun _ => 0))), (q_4, .inl (D.1 13, 6, .inl (fun _ => 0))), (q_179, .inl (D.1 13, 10, .inl (fun _ => 0))), (q_185, .inl (D.1 13, 6, .inl f_191))]) [0, 1, 2, 3, 4] (by decide) rfl
  refine lv_aload_n hx hb dX12_init_891 rfl (lv_at hl 0 rfl) ?_
  refine lv_sipush (v := 906) hx hb dX12_init_892 (by decide) ?_
  refine va_newa (atype := .int) (a0 := (906, .inl (fun _ => 0))) (ty := .int) (N' := 906) hx hb (ht _ ac_int) rfl hK hP hD hS hA (fun _ => rfl) (by decide) (by decide) (by decide) (Nat.le_trans (Nat.le_of_ble_eq_true rfl) hRc) (Nat.le_trans (Nat.le_of_ble_eq_true rfl) hRs) dX12_init_895 (fun q_197 cA H hK2 hP hD hS => ?_)
  obtain rfl := z_cls_int hK hK2
  refine W.widen (k := 36) (n := 6109) (Nat.le_of_ble_eq_true rfl) (Nat.le_of_ble_eq_true rfl) ?_
  have hP : va_P D vwCl [(h0, .inr (12, fs_196)), (q_1, .inl (D.1 13, 1600, .inl (fun _ => 0))), (q_4, .inl (D.1 13, 6, .inl (fun _ => 0))), (q_179, .inl (D.1 13, 10, .inl (fun _ => 0))), (q_185, .inl (D.1 13, 6, .inl f_191)), (q_197, .inl (D.1 13, 906, .inl (fun _ => 0)))] H := hP
  have hD : va_D A [(h0, .inr (12, fs_196)), (q_1, .inl (D.1 13, 1600, .inl (fun _ => 0))), (q_4, .inl (D.1 13, 6, .inl (fun _ => 0))), (q_179, .inl (D.1 13, 10, .inl (fun _ => 0))), (q_185, .inl (D.1 13, 6, .inl f_191)), (q_197, .inl (D.1 13, 906, .inl (fun _ => 0)))] := hD
  refine va_putF (D := D) (ci := 12) (v := .ref q_197) (ty := .array .int) (C := RX12) (T := TX12) (N := 116) hx hb ht inX12 tyX12 tyX12_ok nmX12 hown hK hP hD hS 0 rfl rfl 49 (by decide) (ht (.fieldLink RX12 121 "CloneVolumesModel" "now" "[I") fl_X12_121) (fun _ h9 => h9) rfl hin rfl (by decide +kernel) rfl rfl (by rw [hlen]; decide) dX12_init_897 (fun H locs hP hD hS => ?_)
  have hP : va_P D vwCl [(h0, .inr (12, (fs_196.set 49 (.ref q_197)))), (q_1, .inl (D.1 13, 1600, .inl (fun _ => 0))), (q_4, .inl (D.1 13, 6, .inl (fun _ => 0))), (q_179, .inl (D.1 13, 10, .inl (fun _ => 0))), (q_185, .inl (D.1 13, 6, .inl f_191)), (q_197, .inl (D.1 13, 906, .inl (fun _ => 0)))] H := hP
  have hD : va_D A [(h0, .inr (12, (fs_196.set 49 (.ref q_197)))), (q_1, .inl (D.1 13, 1600, .inl (fun _ => 0))), (q_4, .inl (D.1 13, 6, .inl (fun _ => 0))), (q_179, .inl (D.1 13, 10, .inl (fun _ => 0))), (q_185, .inl (D.1 13, 6, .inl f_191)), (q_197, .inl (D.1 13, 906, .inl (fun _ => 0)))] := hD
  generalize hfs_198 : fs_196.set 49 (.ref q_197) = fs_198 at hP hD
  have hlen : fs_198.length = 116 := by rw [← hfs_198, List.length_set]; exact hlen
  have hP : va_P D vwCl [(h0, .inr (12, fs_198)), (q_1, .inl (D.1 13, 1600, .inl (fun _ => 0))), (q_4, .inl (D.1 13, 6, .inl (fun _ => 0))), (q_179, .inl (D.1 13, 10, .inl (fun _ => 0))), (q_185, .inl (D.1 13, 6, .inl f_191)), (q_197, .inl (D.1 13, 906, .inl (fun _ => 0)))] H := hP
  have hD : va_D A [(h0, .inr (12, fs_198)), (q_1, .inl (D.1 13, 1600, .inl (fun _ => 0))), (q_4, .inl (D.1 13, 6, .inl (fun _ => 0))), (q_179, .inl (D.1 13, 10, .inl (fun _ => 0))), (q_185, .inl (D.1 13, 6, .inl f_191)), (q_197, .inl (D.1 13, 906, .inl (fun _ => 0)))] := hD
  refine lv_aload_n hx hb dX12_init_900 rfl (lv_at hl 0 rfl) ?_
  refine lv_bipush (v := 48) hx hb dX12_init_901 (by decide) ?_
  refine va_newa (atype := .boolean) (a0 := (48, .inl (fun _ => 0))) (ty := .boolean) (N' := 48) hx hb (ht _ ac_boolean) rfl hK hP hD hS hA (fun _ => rfl) (by decide) (by decide) (by decide) (Nat.le_trans (Nat.le_of_ble_eq_true rfl) hRc) (Nat.le_trans (Nat.le_of_ble_eq_true rfl) hRs) dX12_init_903 (fun q_199 cA H hK2 hP hD hS => ?_)
  obtain rfl := z_cls_boolean hK hK2
  refine W.widen (k := 37) (n := 6157) (Nat.le_of_ble_eq_true rfl) (Nat.le_of_ble_eq_true rfl) ?_
  have hP : va_P D vwCl [(h0, .inr (12, fs_198)), (q_1, .inl (D.1 13, 1600, .inl (fun _ => 0))), (q_4, .inl (D.1 13, 6, .inl (fun _ => 0))), (q_179, .inl (D.1 13, 10, .inl (fun _ => 0))), (q_185, .inl (D.1 13, 6, .inl f_191)), (q_197, .inl (D.1 13, 906, .inl (fun _ => 0))), (q_199, .inl (D.1 16, 48, .inl (fun _ => 0)))] H := hP
  have hD : va_D A [(h0, .inr (12, fs_198)), (q_1, .inl (D.1 13, 1600, .inl (fun _ => 0))), (q_4, .inl (D.1 13, 6, .inl (fun _ => 0))), (q_179, .inl (D.1 13, 10, .inl (fun _ => 0))), (q_185, .inl (D.1 13, 6, .inl f_191)), (q_197, .inl (D.1 13, 906, .inl (fun _ => 0))), (q_199, .inl (D.1 16, 48, .inl (fun _ => 0)))] := hD
  refine va_putF (D := D) (ci := 12) (v := .ref q_199) (ty := .array .boolean) (C := RX12) (T := TX12) (N := 116) hx hb ht inX12 tyX12 tyX12_ok nmX12 hown hK hP hD hS 0 rfl rfl 54 (by decide) (ht (.fieldLink RX12 124 "CloneVolumesModel" "isTouched" "[Z") fl_X12_124) (fun _ h9 => h9) rfl hin rfl (by decide +kernel) rfl rfl (by rw [hlen]; decide) dX12_init_905 (fun H locs hP hD hS => ?_)
  have hP : va_P D vwCl [(h0, .inr (12, (fs_198.set 54 (.ref q_199)))), (q_1, .inl (D.1 13, 1600, .inl (fun _ => 0))), (q_4, .inl (D.1 13, 6, .inl (fun _ => 0))), (q_179, .inl (D.1 13, 10, .inl (fun _ => 0))), (q_185, .inl (D.1 13, 6, .inl f_191)), (q_197, .inl (D.1 13, 906, .inl (fun _ => 0))), (q_199, .inl (D.1 16, 48, .inl (fun _ => 0)))] H := hP
  have hD : va_D A [(h0, .inr (12, (fs_198.set 54 (.ref q_199)))), (q_1, .inl (D.1 13, 1600, .inl (fun _ => 0))), (q_4, .inl (D.1 13, 6, .inl (fun _ => 0))), (q_179, .inl (D.1 13, 10, .inl (fun _ => 0))), (q_185, .inl (D.1 13, 6, .inl f_191)), (q_197, .inl (D.1 13, 906, .inl (fun _ => 0))), (q_199, .inl (D.1 16, 48, .inl (fun _ => 0)))] := hD
  generalize hfs_200 : fs_198.set 54 (.ref q_199) = fs_200 at hP hD
  have hlen : fs_200.length = 116 := by rw [← hfs_200, List.length_set]; exact hlen
  have hP : va_P D vwCl [(h0, .inr (12, fs_200)), (q_1, .inl (D.1 13, 1600, .inl (fun _ => 0))), (q_4, .inl (D.1 13, 6, .inl (fun _ => 0))), (q_179, .inl (D.1 13, 10, .inl (fun _ => 0))), (q_185, .inl (D.1 13, 6, .inl f_191)), (q_197, .inl (D.1 13, 906, .inl (fun _ => 0))), (q_199, .inl (D.1 16, 48, .inl (fun _ => 0)))] H := hP
  have hD : va_D A [(h0, .inr (12, fs_200)), (q_1, .inl (D.1 13, 1600, .inl (fun _ => 0))), (q_4, .inl (D.1 13, 6, .inl (fun _ => 0))), (q_179, .inl (D.1 13, 10, .inl (fun _ => 0))), (q_185, .inl (D.1 13, 6, .inl f_191)), (q_197, .inl (D.1 13, 906, .inl (fun _ => 0))), (q_199, .inl (D.1 16, 48, .inl (fun _ => 0)))] := hD
  have hP := hP.sub (ws' := [(h0, .inr (12, fs_200)), (q_1, .inl (D.1 13, 1600, .inl (fun _ => 0))), (q_4, .inl (D.1 13, 6, .inl (fun _ => 0))), (q_179, .inl (D.1 13, 10, .inl (fun _ => 0))), (q_185, .inl (D.1 13, 6, .inl f_191)), (q_197, .inl (D.1 13, 906, .inl (fun _ => 0)))]) [0, 1, 2, 3, 4, 5] rfl
  have hD := hD.sub (ws' := [(h0, .inr (12, fs_200)), (q_1, .inl (D.1 13, 1600, .inl (fun _ => 0))), (q_4, .inl (D.1 13, 6, .inl (fun _ => 0))), (q_179, .inl (D.1 13, 10, .inl (fun _ => 0))), (q_185, .inl (D.1 13, 6, .inl f_191)), (q_197, .inl (D.1 13, 906, .inl (fun _ => 0)))]) [0, 1, 2, 3, 4, 5] (by decide) rfl
  refine lv_aload_n hx hb dX12_init_908 rfl (lv_at hl 0 rfl) ?_
  refine lv_sipush (v := 300) hx hb dX12_init_909 (by decide) ?_
  refine va_newa (atype := .int) (a0 := (300, .inl (fun _ => 0))) (ty := .int) (N' := 300) hx hb (ht _ ac_int) rfl hK hP hD hS hA (fun _ => rfl) (by decide) (by decide) (by decide) (Nat.le_trans (Nat.le_of_ble_eq_true rfl) hRc) (Nat.le_trans (Nat.le_of_ble_eq_true rfl) hRs) dX12_init_912 (fun q_201 cA H hK2 hP hD hS => ?_)
  obtain rfl := z_cls_int hK hK2
  refine W.widen (k := 38) (n := 6457) (Nat.le_of_ble_eq_true rfl) (Nat.le_of_ble_eq_true rfl) ?_
  have hP : va_P D vwCl [(h0, .inr (12, fs_200)), (q_1, .inl (D.1 13, 1600, .inl (fun _ => 0))), (q_4, .inl (D.1 13, 6, .inl (fun _ => 0))), (q_179, .inl (D.1 13, 10, .inl (fun _ => 0))), (q_185, .inl (D.1 13, 6, .inl f_191)), (q_197, .inl (D.1 13, 906, .inl (fun _ => 0))), (q_201, .inl (D.1 13, 300, .inl (fun _ => 0)))] H := hP
  have hD : va_D A [(h0, .inr (12, fs_200)), (q_1, .inl (D.1 13, 1600, .inl (fun _ => 0))), (q_4, .inl (D.1 13, 6, .inl (fun _ => 0))), (q_179, .inl (D.1 13, 10, .inl (fun _ => 0))), (q_185, .inl (D.1 13, 6, .inl f_191)), (q_197, .inl (D.1 13, 906, .inl (fun _ => 0))), (q_201, .inl (D.1 13, 300, .inl (fun _ => 0)))] := hD
  refine va_putF (D := D) (ci := 12) (v := .ref q_201) (ty := .array .int) (C := RX12) (T := TX12) (N := 116) hx hb ht inX12 tyX12 tyX12_ok nmX12 hown hK hP hD hS 0 rfl rfl 56 (by decide) (ht (.fieldLink RX12 128 "CloneVolumesModel" "fallRow" "[I") fl_X12_128) (fun _ h9 => h9) rfl hin rfl (by decide +kernel) rfl rfl (by rw [hlen]; decide) dX12_init_914 (fun H locs hP hD hS => ?_)
  have hP : va_P D vwCl [(h0, .inr (12, (fs_200.set 56 (.ref q_201)))), (q_1, .inl (D.1 13, 1600, .inl (fun _ => 0))), (q_4, .inl (D.1 13, 6, .inl (fun _ => 0))), (q_179, .inl (D.1 13, 10, .inl (fun _ => 0))), (q_185, .inl (D.1 13, 6, .inl f_191)), (q_197, .inl (D.1 13, 906, .inl (fun _ => 0))), (q_201, .inl (D.1 13, 300, .inl (fun _ => 0)))] H := hP
  have hD : va_D A [(h0, .inr (12, (fs_200.set 56 (.ref q_201)))), (q_1, .inl (D.1 13, 1600, .inl (fun _ => 0))), (q_4, .inl (D.1 13, 6, .inl (fun _ => 0))), (q_179, .inl (D.1 13, 10, .inl (fun _ => 0))), (q_185, .inl (D.1 13, 6, .inl f_191)), (q_197, .inl (D.1 13, 906, .inl (fun _ => 0))), (q_201, .inl (D.1 13, 300, .inl (fun _ => 0)))] := hD
  generalize hfs_202 : fs_200.set 56 (.ref q_201) = fs_202 at hP hD
  have hlen : fs_202.length = 116 := by rw [← hfs_202, List.length_set]; exact hlen
  have hP : va_P D vwCl [(h0, .inr (12, fs_202)), (q_1, .inl (D.1 13, 1600, .inl (fun _ => 0))), (q_4, .inl (D.1 13, 6, .inl (fun _ => 0))), (q_179, .inl (D.1 13, 10, .inl (fun _ => 0))), (q_185, .inl (D.1 13, 6, .inl f_191)), (q_197, .inl (D.1 13, 906, .inl (fun _ => 0))), (q_201, .inl (D.1 13, 300, .inl (fun _ => 0)))] H := hP
  have hD : va_D A [(h0, .inr (12, fs_202)), (q_1, .inl (D.1 13, 1600, .inl (fun _ => 0))), (q_4, .inl (D.1 13, 6, .inl (fun _ => 0))), (q_179, .inl (D.1 13, 10, .inl (fun _ => 0))), (q_185, .inl (D.1 13, 6, .inl f_191)), (q_197, .inl (D.1 13, 906, .inl (fun _ => 0))), (q_201, .inl (D.1 13, 300, .inl (fun _ => 0)))] := hD
  have hP := hP.sub (ws' := [(h0, .inr (12, fs_202)), (q_1, .inl (D.1 13, 1600, .inl (fun _ => 0))), (q_4, .inl (D.1 13, 6, .inl (fun _ => 0))), (q_179, .inl (D.1 13, 10, .inl (fun _ => 0))), (q_185, .inl (D.1 13, 6, .inl f_191)), (q_197, .inl (D.1 13, 906, .inl (fun _ => 0)))]) [0, 1, 2, 3, 4, 5] rfl
  have hD := hD.sub (ws' := [(h0, .inr (12, fs_202)), (q_1, .inl (D.1 13, 1600, .inl (fun _ => 0))), (q_4, .inl (D.1 13, 6, .inl (fun _ => 0))), (q_179, .inl (D.1 13, 10, .inl (fun _ => 0))), (q_185, .inl (D.1 13, 6, .inl f_191)), (q_197, .inl (D.1 13, 906, .inl (fun _ => 0)))]) [0, 1, 2, 3, 4, 5] (by decide) rfl
  refine lv_aload_n hx hb dX12_init_917 rfl (lv_at hl 0 rfl) ?_
  refine lv_bipush (v := 48) hx hb dX12_init_918 (by decide) ?_
  refine va_newa (atype := .int) (a0 := (48, .inl (fun _ => 0))) (ty := .int) (N' := 48) hx hb (ht _ ac_int) rfl hK hP hD hS hA (fun _ => rfl) (by decide) (by decide) (by decide) (Nat.le_trans (Nat.le_of_ble_eq_true rfl) hRc) (Nat.le_trans (Nat.le_of_ble_eq_true rfl) hRs) dX12_init_920 (fun q_203 cA H hK2 hP hD hS => ?_)
  obtain rfl := z_cls_int hK hK2
  refine W.widen (k := 39) (n := 6505) (Nat.le_of_ble_eq_true rfl) (Nat.le_of_ble_eq_true rfl) ?_
  have hP : va_P D vwCl [(h0, .inr (12, fs_202)), (q_1, .inl (D.1 13, 1600, .inl (fun _ => 0))), (q_4, .inl (D.1 13, 6, .inl (fun _ => 0))), (q_179, .inl (D.1 13, 10, .inl (fun _ => 0))), (q_185, .inl (D.1 13, 6, .inl f_191)), (q_197, .inl (D.1 13, 906, .inl (fun _ => 0))), (q_203, .inl (D.1 13, 48, .inl (fun _ => 0)))] H := hP
  have hD : va_D A [(h0, .inr (12, fs_202)), (q_1, .inl (D.1 13, 1600, .inl (fun _ => 0))), (q_4, .inl (D.1 13, 6, .inl (fun _ => 0))), (q_179, .inl (D.1 13, 10, .inl (fun _ => 0))), (q_185, .inl (D.1 13, 6, .inl f_191)), (q_197, .inl (D.1 13, 906, .inl (fun _ => 0))), (q_203, .inl (D.1 13, 48, .inl (fun _ => 0)))] := hD
  refine va_putF (D := D) (ci := 12) (v := .ref q_203) (ty := .array .int) (C := RX12) (T := TX12) (N := 116) hx hb ht inX12 tyX12 tyX12_ok nmX12 hown hK hP hD hS 0 rfl rfl 57 (by decide) (ht (.fieldLink RX12 131 "CloneVolumesModel" "wayBlocks" "[I") fl_X12_131) (fun _ h9 => h9) rfl hin rfl (by decide +kernel) rfl rfl (by rw [hlen]; decide) dX12_init_922 (fun H locs hP hD hS => ?_)
  have hP : va_P D vwCl [(h0, .inr (12, (fs_202.set 57 (.ref q_203)))), (q_1, .inl (D.1 13, 1600, .inl (fun _ => 0))), (q_4, .inl (D.1 13, 6, .inl (fun _ => 0))), (q_179, .inl (D.1 13, 10, .inl (fun _ => 0))), (q_185, .inl (D.1 13, 6, .inl f_191)), (q_197, .inl (D.1 13, 906, .inl (fun _ => 0))), (q_203, .inl (D.1 13, 48, .inl (fun _ => 0)))] H := hP
  have hD : va_D A [(h0, .inr (12, (fs_202.set 57 (.ref q_203)))), (q_1, .inl (D.1 13, 1600, .inl (fun _ => 0))), (q_4, .inl (D.1 13, 6, .inl (fun _ => 0))), (q_179, .inl (D.1 13, 10, .inl (fun _ => 0))), (q_185, .inl (D.1 13, 6, .inl f_191)), (q_197, .inl (D.1 13, 906, .inl (fun _ => 0))), (q_203, .inl (D.1 13, 48, .inl (fun _ => 0)))] := hD
  generalize hfs_204 : fs_202.set 57 (.ref q_203) = fs_204 at hP hD
  have hlen : fs_204.length = 116 := by rw [← hfs_204, List.length_set]; exact hlen
  have hP : va_P D vwCl [(h0, .inr (12, fs_204)), (q_1, .inl (D.1 13, 1600, .inl (fun _ => 0))), (q_4, .inl (D.1 13, 6, .inl (fun _ => 0))), (q_179, .inl (D.1 13, 10, .inl (fun _ => 0))), (q_185, .inl (D.1 13, 6, .inl f_191)), (q_197, .inl (D.1 13, 906, .inl (fun _ => 0))), (q_203, .inl (D.1 13, 48, .inl (fun _ => 0)))] H := hP
  have hD : va_D A [(h0, .inr (12, fs_204)), (q_1, .inl (D.1 13, 1600, .inl (fun _ => 0))), (q_4, .inl (D.1 13, 6, .inl (fun _ => 0))), (q_179, .inl (D.1 13, 10, .inl (fun _ => 0))), (q_185, .inl (D.1 13, 6, .inl f_191)), (q_197, .inl (D.1 13, 906, .inl (fun _ => 0))), (q_203, .inl (D.1 13, 48, .inl (fun _ => 0)))] := hD
  have hP := hP.sub (ws' := [(h0, .inr (12, fs_204)), (q_1, .inl (D.1 13, 1600, .inl (fun _ => 0))), (q_4, .inl (D.1 13, 6, .inl (fun _ => 0))), (q_179, .inl (D.1 13, 10, .inl (fun _ => 0))), (q_185, .inl (D.1 13, 6, .inl f_191)), (q_197, .inl (D.1 13, 906, .inl (fun _ => 0)))]) [0, 1, 2, 3, 4, 5] rfl
  have hD := hD.sub (ws' := [(h0, .inr (12, fs_204)), (q_1, .inl (D.1 13, 1600, .inl (fun _ => 0))), (q_4, .inl (D.1 13, 6, .inl (fun _ => 0))), (q_179, .inl (D.1 13, 10, .inl (fun _ => 0))), (q_185, .inl (D.1 13, 6, .inl f_191)), (q_197, .inl (D.1 13, 906, .inl (fun _ => 0)))]) [0, 1, 2, 3, 4, 5] (by decide) rfl
  refine lv_aload_n hx hb dX12_init_925 rfl (lv_at hl 0 rfl) ?_
  refine lv_bipush (v := 48) hx hb dX12_init_926 (by decide) ?_
  refine va_newa (atype := .int) (a0 := (48, .inl (fun _ => 0))) (ty := .int) (N' := 48) hx hb (ht _ ac_int) rfl hK hP hD hS hA (fun _ => rfl) (by decide) (by decide) (by decide) (Nat.le_trans (Nat.le_of_ble_eq_true rfl) hRc) (Nat.le_trans (Nat.le_of_ble_eq_true rfl) hRs) dX12_init_928 (fun q_205 cA H hK2 hP hD hS => ?_)
  obtain rfl := z_cls_int hK hK2
  refine W.widen (k := 40) (n := 6553) (Nat.le_of_ble_eq_true rfl) (Nat.le_of_ble_eq_true rfl) ?_
  have hP : va_P D vwCl [(h0, .inr (12, fs_204)), (q_1, .inl (D.1 13, 1600, .inl (fun _ => 0))), (q_4, .inl (D.1 13, 6, .inl (fun _ => 0))), (q_179, .inl (D.1 13, 10, .inl (fun _ => 0))), (q_185, .inl (D.1 13, 6, .inl f_191)), (q_197, .inl (D.1 13, 906, .inl (fun _ => 0))), (q_205, .inl (D.1 13, 48, .inl (fun _ => 0)))] H := hP
  have hD : va_D A [(h0, .inr (12, fs_204)), (q_1, .inl (D.1 13, 1600, .inl (fun _ => 0))), (q_4, .inl (D.1 13, 6, .inl (fun _ => 0))), (q_179, .inl (D.1 13, 10, .inl (fun _ => 0))), (q_185, .inl (D.1 13, 6, .inl f_191)), (q_197, .inl (D.1 13, 906, .inl (fun _ => 0))), (q_205, .inl (D.1 13, 48, .inl (fun _ => 0)))] := hD
  refine va_putF (D := D) (ci := 12) (v := .ref q_205) (ty := .array .int) (C := RX12) (T := TX12) (N := 116) hx hb ht inX12 tyX12 tyX12_ok nmX12 hown hK hP hD hS 0 rfl rfl 58 (by decide) (ht (.fieldLink RX12 134 "CloneVolumesModel" "wayPlaces" "[I") fl_X12_134) (fun _ h9 => h9) rfl hin rfl (by decide +kernel) rfl rfl (by rw [hlen]; decide) dX12_init_930 (fun H locs hP hD hS => ?_)
  have hP : va_P D vwCl [(h0, .inr (12, (fs_204.set 58 (.ref q_205)))), (q_1, .inl (D.1 13, 1600, .inl (fun _ => 0))), (q_4, .inl (D.1 13, 6, .inl (fun _ => 0))), (q_179, .inl (D.1 13, 10, .inl (fun _ => 0))), (q_185, .inl (D.1 13, 6, .inl f_191)), (q_197, .inl (D.1 13, 906, .inl (fun _ => 0))), (q_205, .inl (D.1 13, 48, .inl (fun _ => 0)))] H := hP
  have hD : va_D A [(h0, .inr (12, (fs_204.set 58 (.ref q_205)))), (q_1, .inl (D.1 13, 1600, .inl (fun _ => 0))), (q_4, .inl (D.1 13, 6, .inl (fun _ => 0))), (q_179, .inl (D.1 13, 10, .inl (fun _ => 0))), (q_185, .inl (D.1 13, 6, .inl f_191)), (q_197, .inl (D.1 13, 906, .inl (fun _ => 0))), (q_205, .inl (D.1 13, 48, .inl (fun _ => 0)))] := hD
  generalize hfs_206 : fs_204.set 58 (.ref q_205) = fs_206 at hP hD
  have hlen : fs_206.length = 116 := by rw [← hfs_206, List.length_set]; exact hlen
  have hP : va_P D vwCl [(h0, .inr (12, fs_206)), (q_1, .inl (D.1 13, 1600, .inl (fun _ => 0))), (q_4, .inl (D.1 13, 6, .inl (fun _ => 0))), (q_179, .inl (D.1 13, 10, .inl (fun _ => 0))), (q_185, .inl (D.1 13, 6, .inl f_191)), (q_197, .inl (D.1 13, 906, .inl (fun _ => 0))), (q_205, .inl (D.1 13, 48, .inl (fun _ => 0)))] H := hP
  have hD : va_D A [(h0, .inr (12, fs_206)), (q_1, .inl (D.1 13, 1600, .inl (fun _ => 0))), (q_4, .inl (D.1 13, 6, .inl (fun _ => 0))), (q_179, .inl (D.1 13, 10, .inl (fun _ => 0))), (q_185, .inl (D.1 13, 6, .inl f_191)), (q_197, .inl (D.1 13, 906, .inl (fun _ => 0))), (q_205, .inl (D.1 13, 48, .inl (fun _ => 0)))] := hD
  have hP := hP.sub (ws' := [(h0, .inr (12, fs_206)), (q_1, .inl (D.1 13, 1600, .inl (fun _ => 0))), (q_4, .inl (D.1 13, 6, .inl (fun _ => 0))), (q_179, .inl (D.1 13, 10, .inl (fun _ => 0))), (q_185, .inl (D.1 13, 6, .inl f_191)), (q_197, .inl (D.1 13, 906, .inl (fun _ => 0)))]) [0, 1, 2, 3, 4, 5] rfl
  have hD := hD.sub (ws' := [(h0, .inr (12, fs_206)), (q_1, .inl (D.1 13, 1600, .inl (fun _ => 0))), (q_4, .inl (D.1 13, 6, .inl (fun _ => 0))), (q_179, .inl (D.1 13, 10, .inl (fun _ => 0))), (q_185, .inl (D.1 13, 6, .inl f_191)), (q_197, .inl (D.1 13, 906, .inl (fun _ => 0)))]) [0, 1, 2, 3, 4, 5] (by decide) rfl
  refine lv_aload_n hx hb dX12_init_933 rfl (lv_at hl 0 rfl) ?_
  refine lv_sipush (v := 785) hx hb dX12_init_934 (by decide) ?_
  refine va_newa (atype := .int) (a0 := (785, .inl (fun _ => 0))) (ty := .int) (N' := 785) hx hb (ht _ ac_int) rfl hK hP hD hS hA (fun _ => rfl) (by decide) (by decide) (by decide) (Nat.le_trans (Nat.le_of_ble_eq_true rfl) hRc) (Nat.le_trans (Nat.le_of_ble_eq_true rfl) hRs) dX12_init_937 (fun q_207 cA H hK2 hP hD hS => ?_)
  obtain rfl := z_cls_int hK hK2
  refine W.widen (k := 41) (n := 7338) (Nat.le_of_ble_eq_true rfl) (Nat.le_of_ble_eq_true rfl) ?_
  have hP : va_P D vwCl [(h0, .inr (12, fs_206)), (q_1, .inl (D.1 13, 1600, .inl (fun _ => 0))), (q_4, .inl (D.1 13, 6, .inl (fun _ => 0))), (q_179, .inl (D.1 13, 10, .inl (fun _ => 0))), (q_185, .inl (D.1 13, 6, .inl f_191)), (q_197, .inl (D.1 13, 906, .inl (fun _ => 0))), (q_207, .inl (D.1 13, 785, .inl (fun _ => 0)))] H := hP
  have hD : va_D A [(h0, .inr (12, fs_206)), (q_1, .inl (D.1 13, 1600, .inl (fun _ => 0))), (q_4, .inl (D.1 13, 6, .inl (fun _ => 0))), (q_179, .inl (D.1 13, 10, .inl (fun _ => 0))), (q_185, .inl (D.1 13, 6, .inl f_191)), (q_197, .inl (D.1 13, 906, .inl (fun _ => 0))), (q_207, .inl (D.1 13, 785, .inl (fun _ => 0)))] := hD
  refine va_putF (D := D) (ci := 12) (v := .ref q_207) (ty := .array .int) (C := RX12) (T := TX12) (N := 116) hx hb ht inX12 tyX12 tyX12_ok nmX12 hown hK hP hD hS 0 rfl rfl 59 (by decide) (ht (.fieldLink RX12 137 "CloneVolumesModel" "tried" "[I") fl_X12_137) (fun _ h9 => h9) rfl hin rfl (by decide +kernel) rfl rfl (by rw [hlen]; decide) dX12_init_939 (fun H locs hP hD hS => ?_)
  have hP : va_P D vwCl [(h0, .inr (12, (fs_206.set 59 (.ref q_207)))), (q_1, .inl (D.1 13, 1600, .inl (fun _ => 0))), (q_4, .inl (D.1 13, 6, .inl (fun _ => 0))), (q_179, .inl (D.1 13, 10, .inl (fun _ => 0))), (q_185, .inl (D.1 13, 6, .inl f_191)), (q_197, .inl (D.1 13, 906, .inl (fun _ => 0))), (q_207, .inl (D.1 13, 785, .inl (fun _ => 0)))] H := hP
  have hD : va_D A [(h0, .inr (12, (fs_206.set 59 (.ref q_207)))), (q_1, .inl (D.1 13, 1600, .inl (fun _ => 0))), (q_4, .inl (D.1 13, 6, .inl (fun _ => 0))), (q_179, .inl (D.1 13, 10, .inl (fun _ => 0))), (q_185, .inl (D.1 13, 6, .inl f_191)), (q_197, .inl (D.1 13, 906, .inl (fun _ => 0))), (q_207, .inl (D.1 13, 785, .inl (fun _ => 0)))] := hD
  generalize hfs_208 : fs_206.set 59 (.ref q_207) = fs_208 at hP hD
  have hlen : fs_208.length = 116 := by rw [← hfs_208, List.length_set]; exact hlen
  have hP : va_P D vwCl [(h0, .inr (12, fs_208)), (q_1, .inl (D.1 13, 1600, .inl (fun _ => 0))), (q_4, .inl (D.1 13, 6, .inl (fun _ => 0))), (q_179, .inl (D.1 13, 10, .inl (fun _ => 0))), (q_185, .inl (D.1 13, 6, .inl f_191)), (q_197, .inl (D.1 13, 906, .inl (fun _ => 0))), (q_207, .inl (D.1 13, 785, .inl (fun _ => 0)))] H := hP
  have hD : va_D A [(h0, .inr (12, fs_208)), (q_1, .inl (D.1 13, 1600, .inl (fun _ => 0))), (q_4, .inl (D.1 13, 6, .inl (fun _ => 0))), (q_179, .inl (D.1 13, 10, .inl (fun _ => 0))), (q_185, .inl (D.1 13, 6, .inl f_191)), (q_197, .inl (D.1 13, 906, .inl (fun _ => 0))), (q_207, .inl (D.1 13, 785, .inl (fun _ => 0)))] := hD
  have hP := hP.sub (ws' := [(h0, .inr (12, fs_208)), (q_1, .inl (D.1 13, 1600, .inl (fun _ => 0))), (q_4, .inl (D.1 13, 6, .inl (fun _ => 0))), (q_179, .inl (D.1 13, 10, .inl (fun _ => 0))), (q_185, .inl (D.1 13, 6, .inl f_191)), (q_197, .inl (D.1 13, 906, .inl (fun _ => 0)))]) [0, 1, 2, 3, 4, 5] rfl
  have hD := hD.sub (ws' := [(h0, .inr (12, fs_208)), (q_1, .inl (D.1 13, 1600, .inl (fun _ => 0))), (q_4, .inl (D.1 13, 6, .inl (fun _ => 0))), (q_179, .inl (D.1 13, 10, .inl (fun _ => 0))), (q_185, .inl (D.1 13, 6, .inl f_191)), (q_197, .inl (D.1 13, 906, .inl (fun _ => 0)))]) [0, 1, 2, 3, 4, 5] (by decide) rfl
  refine lv_aload_n hx hb dX12_init_942 rfl (lv_at hl 0 rfl) ?_
  refine lv_bipush (v := 48) hx hb dX12_init_943 (by decide) ?_
  refine va_newa (atype := .boolean) (a0 := (48, .inl (fun _ => 0))) (ty := .boolean) (N' := 48) hx hb (ht _ ac_boolean) rfl hK hP hD hS hA (fun _ => rfl) (by decide) (by decide) (by decide) (Nat.le_trans (Nat.le_of_ble_eq_true rfl) hRc) (Nat.le_trans (Nat.le_of_ble_eq_true rfl) hRs) dX12_init_945 (fun q_209 cA H hK2 hP hD hS => ?_)
  obtain rfl := z_cls_boolean hK hK2
  refine W.widen (k := 42) (n := 7386) (Nat.le_of_ble_eq_true rfl) (Nat.le_of_ble_eq_true rfl) ?_
  have hP : va_P D vwCl [(h0, .inr (12, fs_208)), (q_1, .inl (D.1 13, 1600, .inl (fun _ => 0))), (q_4, .inl (D.1 13, 6, .inl (fun _ => 0))), (q_179, .inl (D.1 13, 10, .inl (fun _ => 0))), (q_185, .inl (D.1 13, 6, .inl f_191)), (q_197, .inl (D.1 13, 906, .inl (fun _ => 0))), (q_209, .inl (D.1 16, 48, .inl (fun _ => 0)))] H := hP
  have hD : va_D A [(h0, .inr (12, fs_208)), (q_1, .inl (D.1 13, 1600, .inl (fun _ => 0))), (q_4, .inl (D.1 13, 6, .inl (fun _ => 0))), (q_179, .inl (D.1 13, 10, .inl (fun _ => 0))), (q_185, .inl (D.1 13, 6, .inl f_191)), (q_197, .inl (D.1 13, 906, .inl (fun _ => 0))), (q_209, .inl (D.1 16, 48, .inl (fun _ => 0)))] := hD
  refine va_putF (D := D) (ci := 12) (v := .ref q_209) (ty := .array .boolean) (C := RX12) (T := TX12) (N := 116) hx hb ht inX12 tyX12 tyX12_ok nmX12 hown hK hP hD hS 0 rfl rfl 60 (by decide) (ht (.fieldLink RX12 140 "CloneVolumesModel" "wasTouched" "[Z") fl_X12_140) (fun _ h9 => h9) rfl hin rfl (by decide +kernel) rfl rfl (by rw [hlen]; decide) dX12_init_947 (fun H locs hP hD hS => ?_)
  have hP : va_P D vwCl [(h0, .inr (12, (fs_208.set 60 (.ref q_209)))), (q_1, .inl (D.1 13, 1600, .inl (fun _ => 0))), (q_4, .inl (D.1 13, 6, .inl (fun _ => 0))), (q_179, .inl (D.1 13, 10, .inl (fun _ => 0))), (q_185, .inl (D.1 13, 6, .inl f_191)), (q_197, .inl (D.1 13, 906, .inl (fun _ => 0))), (q_209, .inl (D.1 16, 48, .inl (fun _ => 0)))] H := hP
  have hD : va_D A [(h0, .inr (12, (fs_208.set 60 (.ref q_209)))), (q_1, .inl (D.1 13, 1600, .inl (fun _ => 0))), (q_4, .inl (D.1 13, 6, .inl (fun _ => 0))), (q_179, .inl (D.1 13, 10, .inl (fun _ => 0))), (q_185, .inl (D.1 13, 6, .inl f_191)), (q_197, .inl (D.1 13, 906, .inl (fun _ => 0))), (q_209, .inl (D.1 16, 48, .inl (fun _ => 0)))] := hD
  generalize hfs_210 : fs_208.set 60 (.ref q_209) = fs_210 at hP hD
  have hlen : fs_210.length = 116 := by rw [← hfs_210, List.length_set]; exact hlen
  have hP : va_P D vwCl [(h0, .inr (12, fs_210)), (q_1, .inl (D.1 13, 1600, .inl (fun _ => 0))), (q_4, .inl (D.1 13, 6, .inl (fun _ => 0))), (q_179, .inl (D.1 13, 10, .inl (fun _ => 0))), (q_185, .inl (D.1 13, 6, .inl f_191)), (q_197, .inl (D.1 13, 906, .inl (fun _ => 0))), (q_209, .inl (D.1 16, 48, .inl (fun _ => 0)))] H := hP
  have hD : va_D A [(h0, .inr (12, fs_210)), (q_1, .inl (D.1 13, 1600, .inl (fun _ => 0))), (q_4, .inl (D.1 13, 6, .inl (fun _ => 0))), (q_179, .inl (D.1 13, 10, .inl (fun _ => 0))), (q_185, .inl (D.1 13, 6, .inl f_191)), (q_197, .inl (D.1 13, 906, .inl (fun _ => 0))), (q_209, .inl (D.1 16, 48, .inl (fun _ => 0)))] := hD
  have hP := hP.sub (ws' := [(h0, .inr (12, fs_210)), (q_1, .inl (D.1 13, 1600, .inl (fun _ => 0))), (q_4, .inl (D.1 13, 6, .inl (fun _ => 0))), (q_179, .inl (D.1 13, 10, .inl (fun _ => 0))), (q_185, .inl (D.1 13, 6, .inl f_191)), (q_197, .inl (D.1 13, 906, .inl (fun _ => 0)))]) [0, 1, 2, 3, 4, 5] rfl
  have hD := hD.sub (ws' := [(h0, .inr (12, fs_210)), (q_1, .inl (D.1 13, 1600, .inl (fun _ => 0))), (q_4, .inl (D.1 13, 6, .inl (fun _ => 0))), (q_179, .inl (D.1 13, 10, .inl (fun _ => 0))), (q_185, .inl (D.1 13, 6, .inl f_191)), (q_197, .inl (D.1 13, 906, .inl (fun _ => 0)))]) [0, 1, 2, 3, 4, 5] (by decide) rfl
  refine lv_aload_n hx hb dX12_init_950 rfl (lv_at hl 0 rfl) ?_
  refine lv_sipush (v := 785) hx hb dX12_init_951 (by decide) ?_
  refine va_newa (atype := .int) (a0 := (785, .inl (fun _ => 0))) (ty := .int) (N' := 785) hx hb (ht _ ac_int) rfl hK hP hD hS hA (fun _ => rfl) (by decide) (by decide) (by decide) (Nat.le_trans (Nat.le_of_ble_eq_true rfl) hRc) (Nat.le_trans (Nat.le_of_ble_eq_true rfl) hRs) dX12_init_954 (fun q_211 cA H hK2 hP hD hS => ?_)
  obtain rfl := z_cls_int hK hK2
  refine W.widen (k := 43) (n := 8171) (Nat.le_of_ble_eq_true rfl) (Nat.le_of_ble_eq_true rfl) ?_
  have hP : va_P D vwCl [(h0, .inr (12, fs_210)), (q_1, .inl (D.1 13, 1600, .inl (fun _ => 0))), (q_4, .inl (D.1 13, 6, .inl (fun _ => 0))), (q_179, .inl (D.1 13, 10, .inl (fun _ => 0))), (q_185, .inl (D.1 13, 6, .inl f_191)), (q_197, .inl (D.1 13, 906, .inl (fun _ => 0))), (q_211, .inl (D.1 13, 785, .inl (fun _ => 0)))] H := hP
  have hD : va_D A [(h0, .inr (12, fs_210)), (q_1, .inl (D.1 13, 1600, .inl (fun _ => 0))), (q_4, .inl (D.1 13, 6, .inl (fun _ => 0))), (q_179, .inl (D.1 13, 10, .inl (fun _ => 0))), (q_185, .inl (D.1 13, 6, .inl f_191)), (q_197, .inl (D.1 13, 906, .inl (fun _ => 0))), (q_211, .inl (D.1 13, 785, .inl (fun _ => 0)))] := hD
  refine va_putF (D := D) (ci := 12) (v := .ref q_211) (ty := .array .int) (C := RX12) (T := TX12) (N := 116) hx hb ht inX12 tyX12 tyX12_ok nmX12 hown hK hP hD hS 0 rfl rfl 61 (by decide) (ht (.fieldLink RX12 143 "CloneVolumesModel" "aside" "[I") fl_X12_143) (fun _ h9 => h9) rfl hin rfl (by decide +kernel) rfl rfl (by rw [hlen]; decide) dX12_init_956 (fun H locs hP hD hS => ?_)
  have hP : va_P D vwCl [(h0, .inr (12, (fs_210.set 61 (.ref q_211)))), (q_1, .inl (D.1 13, 1600, .inl (fun _ => 0))), (q_4, .inl (D.1 13, 6, .inl (fun _ => 0))), (q_179, .inl (D.1 13, 10, .inl (fun _ => 0))), (q_185, .inl (D.1 13, 6, .inl f_191)), (q_197, .inl (D.1 13, 906, .inl (fun _ => 0))), (q_211, .inl (D.1 13, 785, .inl (fun _ => 0)))] H := hP
  have hD : va_D A [(h0, .inr (12, (fs_210.set 61 (.ref q_211)))), (q_1, .inl (D.1 13, 1600, .inl (fun _ => 0))), (q_4, .inl (D.1 13, 6, .inl (fun _ => 0))), (q_179, .inl (D.1 13, 10, .inl (fun _ => 0))), (q_185, .inl (D.1 13, 6, .inl f_191)), (q_197, .inl (D.1 13, 906, .inl (fun _ => 0))), (q_211, .inl (D.1 13, 785, .inl (fun _ => 0)))] := hD
  generalize hfs_212 : fs_210.set 61 (.ref q_211) = fs_212 at hP hD
  have hlen : fs_212.length = 116 := by rw [← hfs_212, List.length_set]; exact hlen
  have hP : va_P D vwCl [(h0, .inr (12, fs_212)), (q_1, .inl (D.1 13, 1600, .inl (fun _ => 0))), (q_4, .inl (D.1 13, 6, .inl (fun _ => 0))), (q_179, .inl (D.1 13, 10, .inl (fun _ => 0))), (q_185, .inl (D.1 13, 6, .inl f_191)), (q_197, .inl (D.1 13, 906, .inl (fun _ => 0))), (q_211, .inl (D.1 13, 785, .inl (fun _ => 0)))] H := hP
  have hD : va_D A [(h0, .inr (12, fs_212)), (q_1, .inl (D.1 13, 1600, .inl (fun _ => 0))), (q_4, .inl (D.1 13, 6, .inl (fun _ => 0))), (q_179, .inl (D.1 13, 10, .inl (fun _ => 0))), (q_185, .inl (D.1 13, 6, .inl f_191)), (q_197, .inl (D.1 13, 906, .inl (fun _ => 0))), (q_211, .inl (D.1 13, 785, .inl (fun _ => 0)))] := hD
  have hP := hP.sub (ws' := [(h0, .inr (12, fs_212)), (q_1, .inl (D.1 13, 1600, .inl (fun _ => 0))), (q_4, .inl (D.1 13, 6, .inl (fun _ => 0))), (q_179, .inl (D.1 13, 10, .inl (fun _ => 0))), (q_185, .inl (D.1 13, 6, .inl f_191)), (q_197, .inl (D.1 13, 906, .inl (fun _ => 0)))]) [0, 1, 2, 3, 4, 5] rfl
  have hD := hD.sub (ws' := [(h0, .inr (12, fs_212)), (q_1, .inl (D.1 13, 1600, .inl (fun _ => 0))), (q_4, .inl (D.1 13, 6, .inl (fun _ => 0))), (q_179, .inl (D.1 13, 10, .inl (fun _ => 0))), (q_185, .inl (D.1 13, 6, .inl f_191)), (q_197, .inl (D.1 13, 906, .inl (fun _ => 0)))]) [0, 1, 2, 3, 4, 5] (by decide) rfl
  refine lv_aload_n hx hb dX12_init_959 rfl (lv_at hl 0 rfl) ?_
  refine lv_sipush (v := 300) hx hb dX12_init_960 (by decide) ?_
  refine va_newa (atype := .int) (a0 := (300, .inl (fun _ => 0))) (ty := .int) (N' := 300) hx hb (ht _ ac_int) rfl hK hP hD hS hA (fun _ => rfl) (by decide) (by decide) (by decide) (Nat.le_trans (Nat.le_of_ble_eq_true rfl) hRc) (Nat.le_trans (Nat.le_of_ble_eq_true rfl) hRs) dX12_init_963 (fun q_213 cA H hK2 hP hD hS => ?_)
  obtain rfl := z_cls_int hK hK2
  refine W.widen (k := 44) (n := 8471) (Nat.le_of_ble_eq_true rfl) (Nat.le_of_ble_eq_true rfl) ?_
  have hP : va_P D vwCl [(h0, .inr (12, fs_212)), (q_1, .inl (D.1 13, 1600, .inl (fun _ => 0))), (q_4, .inl (D.1 13, 6, .inl (fun _ => 0))), (q_179, .inl (D.1 13, 10, .inl (fun _ => 0))), (q_185, .inl (D.1 13, 6, .inl f_191)), (q_197, .inl (D.1 13, 906, .inl (fun _ => 0))), (q_213, .inl (D.1 13, 300, .inl (fun _ => 0)))] H := hP
  have hD : va_D A [(h0, .inr (12, fs_212)), (q_1, .inl (D.1 13, 1600, .inl (fun _ => 0))), (q_4, .inl (D.1 13, 6, .inl (fun _ => 0))), (q_179, .inl (D.1 13, 10, .inl (fun _ => 0))), (q_185, .inl (D.1 13, 6, .inl f_191)), (q_197, .inl (D.1 13, 906, .inl (fun _ => 0))), (q_213, .inl (D.1 13, 300, .inl (fun _ => 0)))] := hD
  refine va_putF (D := D) (ci := 12) (v := .ref q_213) (ty := .array .int) (C := RX12) (T := TX12) (N := 116) hx hb ht inX12 tyX12 tyX12_ok nmX12 hown hK hP hD hS 0 rfl rfl 62 (by decide) (ht (.fieldLink RX12 146 "CloneVolumesModel" "treeRow" "[I") fl_X12_146) (fun _ h9 => h9) rfl hin rfl (by decide +kernel) rfl rfl (by rw [hlen]; decide) dX12_init_965 (fun H locs hP hD hS => ?_)
  have hP : va_P D vwCl [(h0, .inr (12, (fs_212.set 62 (.ref q_213)))), (q_1, .inl (D.1 13, 1600, .inl (fun _ => 0))), (q_4, .inl (D.1 13, 6, .inl (fun _ => 0))), (q_179, .inl (D.1 13, 10, .inl (fun _ => 0))), (q_185, .inl (D.1 13, 6, .inl f_191)), (q_197, .inl (D.1 13, 906, .inl (fun _ => 0))), (q_213, .inl (D.1 13, 300, .inl (fun _ => 0)))] H := hP
  have hD : va_D A [(h0, .inr (12, (fs_212.set 62 (.ref q_213)))), (q_1, .inl (D.1 13, 1600, .inl (fun _ => 0))), (q_4, .inl (D.1 13, 6, .inl (fun _ => 0))), (q_179, .inl (D.1 13, 10, .inl (fun _ => 0))), (q_185, .inl (D.1 13, 6, .inl f_191)), (q_197, .inl (D.1 13, 906, .inl (fun _ => 0))), (q_213, .inl (D.1 13, 300, .inl (fun _ => 0)))] := hD
  generalize hfs_214 : fs_212.set 62 (.ref q_213) = fs_214 at hP hD
  have hlen : fs_214.length = 116 := by rw [← hfs_214, List.length_set]; exact hlen
  have hP : va_P D vwCl [(h0, .inr (12, fs_214)), (q_1, .inl (D.1 13, 1600, .inl (fun _ => 0))), (q_4, .inl (D.1 13, 6, .inl (fun _ => 0))), (q_179, .inl (D.1 13, 10, .inl (fun _ => 0))), (q_185, .inl (D.1 13, 6, .inl f_191)), (q_197, .inl (D.1 13, 906, .inl (fun _ => 0))), (q_213, .inl (D.1 13, 300, .inl (fun _ => 0)))] H := hP
  have hD : va_D A [(h0, .inr (12, fs_214)), (q_1, .inl (D.1 13, 1600, .inl (fun _ => 0))), (q_4, .inl (D.1 13, 6, .inl (fun _ => 0))), (q_179, .inl (D.1 13, 10, .inl (fun _ => 0))), (q_185, .inl (D.1 13, 6, .inl f_191)), (q_197, .inl (D.1 13, 906, .inl (fun _ => 0))), (q_213, .inl (D.1 13, 300, .inl (fun _ => 0)))] := hD
  have hP := hP.sub (ws' := [(h0, .inr (12, fs_214)), (q_1, .inl (D.1 13, 1600, .inl (fun _ => 0))), (q_4, .inl (D.1 13, 6, .inl (fun _ => 0))), (q_179, .inl (D.1 13, 10, .inl (fun _ => 0))), (q_185, .inl (D.1 13, 6, .inl f_191)), (q_197, .inl (D.1 13, 906, .inl (fun _ => 0)))]) [0, 1, 2, 3, 4, 5] rfl
  have hD := hD.sub (ws' := [(h0, .inr (12, fs_214)), (q_1, .inl (D.1 13, 1600, .inl (fun _ => 0))), (q_4, .inl (D.1 13, 6, .inl (fun _ => 0))), (q_179, .inl (D.1 13, 10, .inl (fun _ => 0))), (q_185, .inl (D.1 13, 6, .inl f_191)), (q_197, .inl (D.1 13, 906, .inl (fun _ => 0)))]) [0, 1, 2, 3, 4, 5] (by decide) rfl
  refine lv_aload_n hx hb dX12_init_968 rfl (lv_at hl 0 rfl) ?_
  refine lv_bipush (v := 48) hx hb dX12_init_969 (by decide) ?_
  refine va_newa (atype := .boolean) (a0 := (48, .inl (fun _ => 0))) (ty := .boolean) (N' := 48) hx hb (ht _ ac_boolean) rfl hK hP hD hS hA (fun _ => rfl) (by decide) (by decide) (by decide) (Nat.le_trans (Nat.le_of_ble_eq_true rfl) hRc) (Nat.le_trans (Nat.le_of_ble_eq_true rfl) hRs) dX12_init_971 (fun q_215 cA H hK2 hP hD hS => ?_)
  obtain rfl := z_cls_boolean hK hK2
  refine W.widen (k := 45) (n := 8519) (Nat.le_of_ble_eq_true rfl) (Nat.le_of_ble_eq_true rfl) ?_
  have hP : va_P D vwCl [(h0, .inr (12, fs_214)), (q_1, .inl (D.1 13, 1600, .inl (fun _ => 0))), (q_4, .inl (D.1 13, 6, .inl (fun _ => 0))), (q_179, .inl (D.1 13, 10, .inl (fun _ => 0))), (q_185, .inl (D.1 13, 6, .inl f_191)), (q_197, .inl (D.1 13, 906, .inl (fun _ => 0))), (q_215, .inl (D.1 16, 48, .inl (fun _ => 0)))] H := hP
  have hD : va_D A [(h0, .inr (12, fs_214)), (q_1, .inl (D.1 13, 1600, .inl (fun _ => 0))), (q_4, .inl (D.1 13, 6, .inl (fun _ => 0))), (q_179, .inl (D.1 13, 10, .inl (fun _ => 0))), (q_185, .inl (D.1 13, 6, .inl f_191)), (q_197, .inl (D.1 13, 906, .inl (fun _ => 0))), (q_215, .inl (D.1 16, 48, .inl (fun _ => 0)))] := hD
  refine va_putF (D := D) (ci := 12) (v := .ref q_215) (ty := .array .boolean) (C := RX12) (T := TX12) (N := 116) hx hb ht inX12 tyX12 tyX12_ok nmX12 hown hK hP hD hS 0 rfl rfl 63 (by decide) (ht (.fieldLink RX12 149 "CloneVolumesModel" "isInTree" "[Z") fl_X12_149) (fun _ h9 => h9) rfl hin rfl (by decide +kernel) rfl rfl (by rw [hlen]; decide) dX12_init_973 (fun H locs hP hD hS => ?_)
  have hP : va_P D vwCl [(h0, .inr (12, (fs_214.set 63 (.ref q_215)))), (q_1, .inl (D.1 13, 1600, .inl (fun _ => 0))), (q_4, .inl (D.1 13, 6, .inl (fun _ => 0))), (q_179, .inl (D.1 13, 10, .inl (fun _ => 0))), (q_185, .inl (D.1 13, 6, .inl f_191)), (q_197, .inl (D.1 13, 906, .inl (fun _ => 0))), (q_215, .inl (D.1 16, 48, .inl (fun _ => 0)))] H := hP
  have hD : va_D A [(h0, .inr (12, (fs_214.set 63 (.ref q_215)))), (q_1, .inl (D.1 13, 1600, .inl (fun _ => 0))), (q_4, .inl (D.1 13, 6, .inl (fun _ => 0))), (q_179, .inl (D.1 13, 10, .inl (fun _ => 0))), (q_185, .inl (D.1 13, 6, .inl f_191)), (q_197, .inl (D.1 13, 906, .inl (fun _ => 0))), (q_215, .inl (D.1 16, 48, .inl (fun _ => 0)))] := hD
  generalize hfs_216 : fs_214.set 63 (.ref q_215) = fs_216 at hP hD
  have hlen : fs_216.length = 116 := by rw [← hfs_216, List.length_set]; exact hlen
  have hP : va_P D vwCl [(h0, .inr (12, fs_216)), (q_1, .inl (D.1 13, 1600, .inl (fun _ => 0))), (q_4, .inl (D.1 13, 6, .inl (fun _ => 0))), (q_179, .inl (D.1 13, 10, .inl (fun _ => 0))), (q_185, .inl (D.1 13, 6, .inl f_191)), (q_197, .inl (D.1 13, 906, .inl (fun _ => 0))), (q_215, .inl (D.1 16, 48, .inl (fun _ => 0)))] H := hP
  have hD : va_D A [(h0, .inr (12, fs_216)), (q_1, .inl (D.1 13, 1600, .inl (fun _ => 0))), (q_4, .inl (D.1 13, 6, .inl (fun _ => 0))), (q_179, .inl (D.1 13, 10, .inl (fun _ => 0))), (q_185, .inl (D.1 13, 6, .inl f_191)), (q_197, .inl (D.1 13, 906, .inl (fun _ => 0))), (q_215, .inl (D.1 16, 48, .inl (fun _ => 0)))] := hD
  have hP := hP.sub (ws' := [(h0, .inr (12, fs_216)), (q_1, .inl (D.1 13, 1600, .inl (fun _ => 0))), (q_4, .inl (D.1 13, 6, .inl (fun _ => 0))), (q_179, .inl (D.1 13, 10, .inl (fun _ => 0))), (q_185, .inl (D.1 13, 6, .inl f_191)), (q_197, .inl (D.1 13, 906, .inl (fun _ => 0)))]) [0, 1, 2, 3, 4, 5] rfl
  have hD := hD.sub (ws' := [(h0, .inr (12, fs_216)), (q_1, .inl (D.1 13, 1600, .inl (fun _ => 0))), (q_4, .inl (D.1 13, 6, .inl (fun _ => 0))), (q_179, .inl (D.1 13, 10, .inl (fun _ => 0))), (q_185, .inl (D.1 13, 6, .inl f_191)), (q_197, .inl (D.1 13, 906, .inl (fun _ => 0)))]) [0, 1, 2, 3, 4, 5] (by decide) rfl
  exact kk q_193 q_195 q_197 q_199 q_201 q_203 q_205 q_207 q_209 q_211 q_213 q_215 fs_216 _ _ (by rw [← hfs_216, ← hfs_214, ← hfs_212, ← hfs_210, ← hfs_208, ← hfs_206, ← hfs_204, ← hfs_202, ← hfs_200, ← hfs_198, ← hfs_196, ← hfs_194]) hP hD hS
set_option maxHeartbeats 4000000 in
set_option maxRecDepth 100000 in
theorem cM_13 {h0 : Nat} {q_1 : Nat} {q_4 : Nat} {q_179 : Nat} {q_185 : Nat} {q_197 : Nat} {f_191 : Nat → Int32} (hx : p.tables.exec = Jvm.exec) (hb : c.code = cX12_init) (ht : ∀ w ∈ lw_gd, w.before args s = true) (hown : s.vm.findClass RX12 = some m.cls) (hin : meth.name = "<init>") (hK : va_K D vwCl (TY D) s) (hA : ∀ q : Nat, s.heap.size ≤ q → A q) (hRc : 80 ≤ R.cells) (hRs : 35050 ≤ R.slots) (hl : lv_has ls 1 [(0, .ref h0)]) {fs : List Value} (hlen : fs.length = 116) {H : Heap} {locs : List Loc} (hP : va_P D vwCl [(h0, .inr (12, fs)), (q_1, .inl (D.1 13, 1600, .inl (fun _ => 0))), (q_4, .inl (D.1 13, 6, .inl (fun _ => 0))), (q_179, .inl (D.1 13, 10, .inl (fun _ => 0))), (q_185, .inl (D.1 13, 6, .inl f_191)), (q_197, .inl (D.1 13, 906, .inl (fun _ => 0)))] H) (hD : va_D A [(h0, .inr (12, fs)), (q_1, .inl (D.1 13, 1600, .inl (fun _ => 0))), (q_4, .inl (D.1 13, 6, .inl (fun _ => 0))), (q_179, .inl (D.1 13, 10, .inl (fun _ => 0))), (q_185, .inl (D.1 13, 6, .inl f_191)), (q_197, .inl (D.1 13, 906, .inl (fun _ => 0)))]) (hS : va_S A s.heap H locs)
    (kk : ∀ (q_217 : Nat) (q_219 : Nat) (q_221 : Nat) (q_223 : Nat) (q_225 : Nat) (q_227 : Nat) (q_229 : Nat) (q_232 : Nat) (fs' : List Value) (H : Heap) (locs : List Loc), fs' = (((((((((fs.set 64 (.ref q_217)).set 65 (.ref q_219)).set 66 (.ref q_221)).set 69 (.ref q_223)).set 72 (.ref q_225)).set 74 (.ref q_227)).set 75 (.ref q_229)).set 78 (.long 1)).set 79 (.ref q_232)) → va_P D vwCl [(h0, .inr (12, fs')), (q_1, .inl (D.1 13, 1600, .inl (fun _ => 0))), (q_4, .inl (D.1 13, 6, .inl (fun _ => 0))), (q_179, .inl (D.1 13, 10, .inl (fun _ => 0))), (q_185, .inl (D.1 13, 6, .inl f_191)), (q_197, .inl (D.1 13, 906, .inl (fun _ => 0))), (q_225, .inl (D.1 13, 48, .inl (fun _ => 0)))] H → va_D A [(h0, .inr (12, fs')), (q_1, .inl (D.1 13, 1600, .inl (fun _ => 0))), (q_4, .inl (D.1 13, 6, .inl (fun _ => 0))), (q_179, .inl (D.1 13, 10, .inl (fun _ => 0))), (q_185, .inl (D.1 13, 6, .inl f_191)), (q_197, .inl (D.1 13, 906, .inl (fun _ => 0))), (q_225, .inl (D.1 13, 48, .inl (fun _ => 0)))] → va_S A s.heap H locs → W p l e R s m args below meth c H locs 53 27664 Q (F0 m 1073 ls [])) : W p l e R s m args below meth c H locs 45 8519 Q (F0 m 976 ls []) := by
  refine lv_aload_n hx hb dX12_init_976 rfl (lv_at hl 0 rfl) ?_
  refine lv_sipush (v := 300) hx hb dX12_init_977 (by decide) ?_
  refine va_newa (atype := .int) (a0 := (300, .inl (fun _ => 0))) (ty := .int) (N' := 300) hx hb (ht _ ac_int) rfl hK hP hD hS hA (fun _ => rfl) (by decide) (by decide) (by decide) (Nat.le_trans (Nat.le_of_ble_eq_true rfl) hRc) (Nat.le_trans (Nat.le_of_ble_eq_true rfl) hRs) dX12_init_980 (fun q_217 cA H hK2 hP hD hS => ?_)
  obtain rfl := z_cls_int hK hK2
  refine W.widen (k := 46) (n := 8819) (Nat.le_of_ble_eq_true rfl) (Nat.le_of_ble_eq_true rfl) ?_
  have hP : va_P D vwCl [(h0, .inr (12, fs)), (q_1, .inl (D.1 13, 1600, .inl (fun _ => 0))), (q_4, .inl (D.1 13, 6, .inl (fun _ => 0))), (q_179, .inl (D.1 13, 10, .inl (fun _ => 0))), (q_185, .inl (D.1 13, 6, .inl f_191)), (q_197, .inl (D.1 13, 906, .inl (fun _ => 0))), (q_217, .inl (D.1 13, 300, .inl (fun _ => 0)))] H := hP
  have hD : va_D A [(h0, .inr (12, fs)), (q_1, .inl (D.1 13, 1600, .inl (fun _ => 0))), (q_4, .inl (D.1 13, 6, .inl (fun _ => 0))), (q_179, .inl (D.1 13, 10, .inl (fun _ => 0))), (q_185, .inl (D.1 13, 6, .inl f_191)), (q_197, .inl (D.1 13, 906, .inl (fun _ => 0))), (q_217, .inl (D.1 13, 300, .inl (fun _ => 0)))] := hD
  refine va_putF (D := D) (ci := 12) (v := .ref q_217) (ty := .array .int) (C := RX12) (T := TX12) (N := 116) hx hb ht inX12 tyX12 tyX12_ok nmX12 hown hK hP hD hS 0 rfl rfl 64 (by decide) (ht (.fieldLink RX12 152 "CloneVolumesModel" "keyRow" "[I") fl_X12_152) (fun _ h9 => h9) rfl hin rfl (by decide +kernel) rfl rfl (by rw [hlen]; decide) dX12_init_982 (fun H locs hP hD hS => ?_)
  have hP : va_P D vwCl [(h0, .inr (12, (fs.set 64 (.ref q_217)))), (q_1, .inl (D.1 13, 1600, .inl (fun _ => 0))), (q_4, .inl (D.1 13, 6, .inl (fun _ => 0))), (q_179, .inl (D.1 13, 10, .inl (fun _ => 0))), (q_185, .inl (D.1 13, 6, .inl f_191)), (q_197, .inl (D.1 13, 906, .inl (fun _ => 0))), (q_217, .inl (D.1 13, 300, .inl (fun _ => 0)))] H := hP
  have hD : va_D A [(h0, .inr (12, (fs.set 64 (.ref q_217)))), (q_1, .inl (D.1 13, 1600, .inl (fun _ => 0))), (q_4, .inl (D.1 13, 6, .inl (fun _ => 0))), (q_179, .inl (D.1 13, 10, .inl (fun _ => 0))), (q_185, .inl (D.1 13, 6, .inl f_191)), (q_197, .inl (D.1 13, 906, .inl (fun _ => 0))), (q_217, .inl (D.1 13, 300, .inl (fun _ => 0)))] := hD
  generalize hfs_218 : fs.set 64 (.ref q_217) = fs_218 at hP hD
  have hlen : fs_218.length = 116 := by rw [← hfs_218, List.length_set]; exact hlen
  have hP : va_P D vwCl [(h0, .inr (12, fs_218)), (q_1, .inl (D.1 13, 1600, .inl (fun _ => 0))), (q_4, .inl (D.1 13, 6, .inl (fun _ => 0))), (q_179, .inl (D.1 13, 10, .inl (fun _ => 0))), (q_185, .inl (D.1 13, 6, .inl f_191)), (q_197, .inl (D.1 13, 906, .inl (fun _ => 0))), (q_217, .inl (D.1 13, 300, .inl (fun _ => 0)))] H := hP
  have hD : va_D A [(h0, .inr (12, fs_218)), (q_1, .inl (D.1 13, 1600, .inl (fun _ => 0))), (q_4, .inl (D.1 13, 6, .inl (fun _ => 0))), (q_179, .inl (D.1 13, 10, .inl (fun _ => 0))), (q_185, .inl (D.1 13, 6, .inl f_191)), (q_197, .inl (D.1 13, 906, .inl (fun _ => 0))), (q_217, .inl (D.1 13, 300, .inl (fun _ => 0)))] := hD
  have hP := hP.sub (ws' := [(h0, .inr (12, fs_218)), (q_1, .inl (D.1 13, 1600, .inl (fun _ => 0))), (q_4, .inl (D.1 13, 6, .inl (fun _ => 0))), (q_179, .inl (D.1 13, 10, .inl (fun _ => 0))), (q_185, .inl (D.1 13, 6, .inl f_191)), (q_197, .inl (D.1 13, 906, .inl (fun _ => 0)))]) [0, 1, 2, 3, 4, 5] rfl
  have hD := hD.sub (ws' := [(h0, .inr (12, fs_218)), (q_1, .inl (D.1 13, 1600, .inl (fun _ => 0))), (q_4, .inl (D.1 13, 6, .inl (fun _ => 0))), (q_179, .inl (D.1 13, 10, .inl (fun _ => 0))), (q_185, .inl (D.1 13, 6, .inl f_191)), (q_197, .inl (D.1 13, 906, .inl (fun _ => 0)))]) [0, 1, 2, 3, 4, 5] (by decide) rfl
  refine lv_aload_n hx hb dX12_init_985 rfl (lv_at hl 0 rfl) ?_
  refine lv_sipush (v := 300) hx hb dX12_init_986 (by decide) ?_
  refine va_newa (atype := .int) (a0 := (300, .inl (fun _ => 0))) (ty := .int) (N' := 300) hx hb (ht _ ac_int) rfl hK hP hD hS hA (fun _ => rfl) (by decide) (by decide) (by decide) (Nat.le_trans (Nat.le_of_ble_eq_true rfl) hRc) (Nat.le_trans (Nat.le_of_ble_eq_true rfl) hRs) dX12_init_989 (fun q_219 cA H hK2 hP hD hS => ?_)
  obtain rfl := z_cls_int hK hK2
  refine W.widen (k := 47) (n := 9119) (Nat.le_of_ble_eq_true rfl) (Nat.le_of_ble_eq_true rfl) ?_
  have hP : va_P D vwCl [(h0, .inr (12, fs_218)), (q_1, .inl (D.1 13, 1600, .inl (fun _ => 0))), (q_4, .inl (D.1 13, 6, .inl (fun _ => 0))), (q_179, .inl (D.1 13, 10, .inl (fun _ => 0))), (q_185, .inl (D.1 13, 6, .inl f_191)), (q_197, .inl (D.1 13, 906, .inl (fun _ => 0))), (q_219, .inl (D.1 13, 300, .inl (fun _ => 0)))] H := hP
  have hD : va_D A [(h0, .inr (12, fs_218)), (q_1, .inl (D.1 13, 1600, .inl (fun _ => 0))), (q_4, .inl (D.1 13, 6, .inl (fun _ => 0))), (q_179, .inl (D.1 13, 10, .inl (fun _ => 0))), (q_185, .inl (D.1 13, 6, .inl f_191)), (q_197, .inl (D.1 13, 906, .inl (fun _ => 0))), (q_219, .inl (D.1 13, 300, .inl (fun _ => 0)))] := hD
  refine va_putF (D := D) (ci := 12) (v := .ref q_219) (ty := .array .int) (C := RX12) (T := TX12) (N := 116) hx hb ht inX12 tyX12 tyX12_ok nmX12 hown hK hP hD hS 0 rfl rfl 65 (by decide) (ht (.fieldLink RX12 155 "CloneVolumesModel" "valueRow" "[I") fl_X12_155) (fun _ h9 => h9) rfl hin rfl (by decide +kernel) rfl rfl (by rw [hlen]; decide) dX12_init_991 (fun H locs hP hD hS => ?_)
  have hP : va_P D vwCl [(h0, .inr (12, (fs_218.set 65 (.ref q_219)))), (q_1, .inl (D.1 13, 1600, .inl (fun _ => 0))), (q_4, .inl (D.1 13, 6, .inl (fun _ => 0))), (q_179, .inl (D.1 13, 10, .inl (fun _ => 0))), (q_185, .inl (D.1 13, 6, .inl f_191)), (q_197, .inl (D.1 13, 906, .inl (fun _ => 0))), (q_219, .inl (D.1 13, 300, .inl (fun _ => 0)))] H := hP
  have hD : va_D A [(h0, .inr (12, (fs_218.set 65 (.ref q_219)))), (q_1, .inl (D.1 13, 1600, .inl (fun _ => 0))), (q_4, .inl (D.1 13, 6, .inl (fun _ => 0))), (q_179, .inl (D.1 13, 10, .inl (fun _ => 0))), (q_185, .inl (D.1 13, 6, .inl f_191)), (q_197, .inl (D.1 13, 906, .inl (fun _ => 0))), (q_219, .inl (D.1 13, 300, .inl (fun _ => 0)))] := hD
  generalize hfs_220 : fs_218.set 65 (.ref q_219) = fs_220 at hP hD
  have hlen : fs_220.length = 116 := by rw [← hfs_220, List.length_set]; exact hlen
  have hP : va_P D vwCl [(h0, .inr (12, fs_220)), (q_1, .inl (D.1 13, 1600, .inl (fun _ => 0))), (q_4, .inl (D.1 13, 6, .inl (fun _ => 0))), (q_179, .inl (D.1 13, 10, .inl (fun _ => 0))), (q_185, .inl (D.1 13, 6, .inl f_191)), (q_197, .inl (D.1 13, 906, .inl (fun _ => 0))), (q_219, .inl (D.1 13, 300, .inl (fun _ => 0)))] H := hP
  have hD : va_D A [(h0, .inr (12, fs_220)), (q_1, .inl (D.1 13, 1600, .inl (fun _ => 0))), (q_4, .inl (D.1 13, 6, .inl (fun _ => 0))), (q_179, .inl (D.1 13, 10, .inl (fun _ => 0))), (q_185, .inl (D.1 13, 6, .inl f_191)), (q_197, .inl (D.1 13, 906, .inl (fun _ => 0))), (q_219, .inl (D.1 13, 300, .inl (fun _ => 0)))] := hD
  have hP := hP.sub (ws' := [(h0, .inr (12, fs_220)), (q_1, .inl (D.1 13, 1600, .inl (fun _ => 0))), (q_4, .inl (D.1 13, 6, .inl (fun _ => 0))), (q_179, .inl (D.1 13, 10, .inl (fun _ => 0))), (q_185, .inl (D.1 13, 6, .inl f_191)), (q_197, .inl (D.1 13, 906, .inl (fun _ => 0)))]) [0, 1, 2, 3, 4, 5] rfl
  have hD := hD.sub (ws' := [(h0, .inr (12, fs_220)), (q_1, .inl (D.1 13, 1600, .inl (fun _ => 0))), (q_4, .inl (D.1 13, 6, .inl (fun _ => 0))), (q_179, .inl (D.1 13, 10, .inl (fun _ => 0))), (q_185, .inl (D.1 13, 6, .inl f_191)), (q_197, .inl (D.1 13, 906, .inl (fun _ => 0)))]) [0, 1, 2, 3, 4, 5] (by decide) rfl
  refine lv_aload_n hx hb dX12_init_994 rfl (lv_at hl 0 rfl) ?_
  refine lv_sipush (v := 300) hx hb dX12_init_995 (by decide) ?_
  refine va_newa (atype := .int) (a0 := (300, .inl (fun _ => 0))) (ty := .int) (N' := 300) hx hb (ht _ ac_int) rfl hK hP hD hS hA (fun _ => rfl) (by decide) (by decide) (by decide) (Nat.le_trans (Nat.le_of_ble_eq_true rfl) hRc) (Nat.le_trans (Nat.le_of_ble_eq_true rfl) hRs) dX12_init_998 (fun q_221 cA H hK2 hP hD hS => ?_)
  obtain rfl := z_cls_int hK hK2
  refine W.widen (k := 48) (n := 9419) (Nat.le_of_ble_eq_true rfl) (Nat.le_of_ble_eq_true rfl) ?_
  have hP : va_P D vwCl [(h0, .inr (12, fs_220)), (q_1, .inl (D.1 13, 1600, .inl (fun _ => 0))), (q_4, .inl (D.1 13, 6, .inl (fun _ => 0))), (q_179, .inl (D.1 13, 10, .inl (fun _ => 0))), (q_185, .inl (D.1 13, 6, .inl f_191)), (q_197, .inl (D.1 13, 906, .inl (fun _ => 0))), (q_221, .inl (D.1 13, 300, .inl (fun _ => 0)))] H := hP
  have hD : va_D A [(h0, .inr (12, fs_220)), (q_1, .inl (D.1 13, 1600, .inl (fun _ => 0))), (q_4, .inl (D.1 13, 6, .inl (fun _ => 0))), (q_179, .inl (D.1 13, 10, .inl (fun _ => 0))), (q_185, .inl (D.1 13, 6, .inl f_191)), (q_197, .inl (D.1 13, 906, .inl (fun _ => 0))), (q_221, .inl (D.1 13, 300, .inl (fun _ => 0)))] := hD
  refine va_putF (D := D) (ci := 12) (v := .ref q_221) (ty := .array .int) (C := RX12) (T := TX12) (N := 116) hx hb ht inX12 tyX12 tyX12_ok nmX12 hown hK hP hD hS 0 rfl rfl 66 (by decide) (ht (.fieldLink RX12 158 "CloneVolumesModel" "leafRow" "[I") fl_X12_158) (fun _ h9 => h9) rfl hin rfl (by decide +kernel) rfl rfl (by rw [hlen]; decide) dX12_init_1000 (fun H locs hP hD hS => ?_)
  have hP : va_P D vwCl [(h0, .inr (12, (fs_220.set 66 (.ref q_221)))), (q_1, .inl (D.1 13, 1600, .inl (fun _ => 0))), (q_4, .inl (D.1 13, 6, .inl (fun _ => 0))), (q_179, .inl (D.1 13, 10, .inl (fun _ => 0))), (q_185, .inl (D.1 13, 6, .inl f_191)), (q_197, .inl (D.1 13, 906, .inl (fun _ => 0))), (q_221, .inl (D.1 13, 300, .inl (fun _ => 0)))] H := hP
  have hD : va_D A [(h0, .inr (12, (fs_220.set 66 (.ref q_221)))), (q_1, .inl (D.1 13, 1600, .inl (fun _ => 0))), (q_4, .inl (D.1 13, 6, .inl (fun _ => 0))), (q_179, .inl (D.1 13, 10, .inl (fun _ => 0))), (q_185, .inl (D.1 13, 6, .inl f_191)), (q_197, .inl (D.1 13, 906, .inl (fun _ => 0))), (q_221, .inl (D.1 13, 300, .inl (fun _ => 0)))] := hD
  generalize hfs_222 : fs_220.set 66 (.ref q_221) = fs_222 at hP hD
  have hlen : fs_222.length = 116 := by rw [← hfs_222, List.length_set]; exact hlen
  have hP : va_P D vwCl [(h0, .inr (12, fs_222)), (q_1, .inl (D.1 13, 1600, .inl (fun _ => 0))), (q_4, .inl (D.1 13, 6, .inl (fun _ => 0))), (q_179, .inl (D.1 13, 10, .inl (fun _ => 0))), (q_185, .inl (D.1 13, 6, .inl f_191)), (q_197, .inl (D.1 13, 906, .inl (fun _ => 0))), (q_221, .inl (D.1 13, 300, .inl (fun _ => 0)))] H := hP
  have hD : va_D A [(h0, .inr (12, fs_222)), (q_1, .inl (D.1 13, 1600, .inl (fun _ => 0))), (q_4, .inl (D.1 13, 6, .inl (fun _ => 0))), (q_179, .inl (D.1 13, 10, .inl (fun _ => 0))), (q_185, .inl (D.1 13, 6, .inl f_191)), (q_197, .inl (D.1 13, 906, .inl (fun _ => 0))), (q_221, .inl (D.1 13, 300, .inl (fun _ => 0)))] := hD
  have hP := hP.sub (ws' := [(h0, .inr (12, fs_222)), (q_1, .inl (D.1 13, 1600, .inl (fun _ => 0))), (q_4, .inl (D.1 13, 6, .inl (fun _ => 0))), (q_179, .inl (D.1 13, 10, .inl (fun _ => 0))), (q_185, .inl (D.1 13, 6, .inl f_191)), (q_197, .inl (D.1 13, 906, .inl (fun _ => 0)))]) [0, 1, 2, 3, 4, 5] rfl
  have hD := hD.sub (ws' := [(h0, .inr (12, fs_222)), (q_1, .inl (D.1 13, 1600, .inl (fun _ => 0))), (q_4, .inl (D.1 13, 6, .inl (fun _ => 0))), (q_179, .inl (D.1 13, 10, .inl (fun _ => 0))), (q_185, .inl (D.1 13, 6, .inl f_191)), (q_197, .inl (D.1 13, 906, .inl (fun _ => 0)))]) [0, 1, 2, 3, 4, 5] (by decide) rfl
  refine lv_aload_n hx hb dX12_init_1003 rfl (lv_at hl 0 rfl) ?_
  refine lv_bipush (v := 48) hx hb dX12_init_1004 (by decide) ?_
  refine va_newa (atype := .boolean) (a0 := (48, .inl (fun _ => 0))) (ty := .boolean) (N' := 48) hx hb (ht _ ac_boolean) rfl hK hP hD hS hA (fun _ => rfl) (by decide) (by decide) (by decide) (Nat.le_trans (Nat.le_of_ble_eq_true rfl) hRc) (Nat.le_trans (Nat.le_of_ble_eq_true rfl) hRs) dX12_init_1006 (fun q_223 cA H hK2 hP hD hS => ?_)
  obtain rfl := z_cls_boolean hK hK2
  refine W.widen (k := 49) (n := 9467) (Nat.le_of_ble_eq_true rfl) (Nat.le_of_ble_eq_true rfl) ?_
  have hP : va_P D vwCl [(h0, .inr (12, fs_222)), (q_1, .inl (D.1 13, 1600, .inl (fun _ => 0))), (q_4, .inl (D.1 13, 6, .inl (fun _ => 0))), (q_179, .inl (D.1 13, 10, .inl (fun _ => 0))), (q_185, .inl (D.1 13, 6, .inl f_191)), (q_197, .inl (D.1 13, 906, .inl (fun _ => 0))), (q_223, .inl (D.1 16, 48, .inl (fun _ => 0)))] H := hP
  have hD : va_D A [(h0, .inr (12, fs_222)), (q_1, .inl (D.1 13, 1600, .inl (fun _ => 0))), (q_4, .inl (D.1 13, 6, .inl (fun _ => 0))), (q_179, .inl (D.1 13, 10, .inl (fun _ => 0))), (q_185, .inl (D.1 13, 6, .inl f_191)), (q_197, .inl (D.1 13, 906, .inl (fun _ => 0))), (q_223, .inl (D.1 16, 48, .inl (fun _ => 0)))] := hD
  refine va_putF (D := D) (ci := 12) (v := .ref q_223) (ty := .array .boolean) (C := RX12) (T := TX12) (N := 116) hx hb ht inX12 tyX12 tyX12_ok nmX12 hown hK hP hD hS 0 rfl rfl 69 (by decide) (ht (.fieldLink RX12 161 "CloneVolumesModel" "wasInTree" "[Z") fl_X12_161) (fun _ h9 => h9) rfl hin rfl (by decide +kernel) rfl rfl (by rw [hlen]; decide) dX12_init_1008 (fun H locs hP hD hS => ?_)
  have hP : va_P D vwCl [(h0, .inr (12, (fs_222.set 69 (.ref q_223)))), (q_1, .inl (D.1 13, 1600, .inl (fun _ => 0))), (q_4, .inl (D.1 13, 6, .inl (fun _ => 0))), (q_179, .inl (D.1 13, 10, .inl (fun _ => 0))), (q_185, .inl (D.1 13, 6, .inl f_191)), (q_197, .inl (D.1 13, 906, .inl (fun _ => 0))), (q_223, .inl (D.1 16, 48, .inl (fun _ => 0)))] H := hP
  have hD : va_D A [(h0, .inr (12, (fs_222.set 69 (.ref q_223)))), (q_1, .inl (D.1 13, 1600, .inl (fun _ => 0))), (q_4, .inl (D.1 13, 6, .inl (fun _ => 0))), (q_179, .inl (D.1 13, 10, .inl (fun _ => 0))), (q_185, .inl (D.1 13, 6, .inl f_191)), (q_197, .inl (D.1 13, 906, .inl (fun _ => 0))), (q_223, .inl (D.1 16, 48, .inl (fun _ => 0)))] := hD
  generalize hfs_224 : fs_222.set 69 (.ref q_223) = fs_224 at hP hD
  have hlen : fs_224.length = 116 := by rw [← hfs_224, List.length_set]; exact hlen
  have hP : va_P D vwCl [(h0, .inr (12, fs_224)), (q_1, .inl (D.1 13, 1600, .inl (fun _ => 0))), (q_4, .inl (D.1 13, 6, .inl (fun _ => 0))), (q_179, .inl (D.1 13, 10, .inl (fun _ => 0))), (q_185, .inl (D.1 13, 6, .inl f_191)), (q_197, .inl (D.1 13, 906, .inl (fun _ => 0))), (q_223, .inl (D.1 16, 48, .inl (fun _ => 0)))] H := hP
  have hD : va_D A [(h0, .inr (12, fs_224)), (q_1, .inl (D.1 13, 1600, .inl (fun _ => 0))), (q_4, .inl (D.1 13, 6, .inl (fun _ => 0))), (q_179, .inl (D.1 13, 10, .inl (fun _ => 0))), (q_185, .inl (D.1 13, 6, .inl f_191)), (q_197, .inl (D.1 13, 906, .inl (fun _ => 0))), (q_223, .inl (D.1 16, 48, .inl (fun _ => 0)))] := hD
  have hP := hP.sub (ws' := [(h0, .inr (12, fs_224)), (q_1, .inl (D.1 13, 1600, .inl (fun _ => 0))), (q_4, .inl (D.1 13, 6, .inl (fun _ => 0))), (q_179, .inl (D.1 13, 10, .inl (fun _ => 0))), (q_185, .inl (D.1 13, 6, .inl f_191)), (q_197, .inl (D.1 13, 906, .inl (fun _ => 0)))]) [0, 1, 2, 3, 4, 5] rfl
  have hD := hD.sub (ws' := [(h0, .inr (12, fs_224)), (q_1, .inl (D.1 13, 1600, .inl (fun _ => 0))), (q_4, .inl (D.1 13, 6, .inl (fun _ => 0))), (q_179, .inl (D.1 13, 10, .inl (fun _ => 0))), (q_185, .inl (D.1 13, 6, .inl f_191)), (q_197, .inl (D.1 13, 906, .inl (fun _ => 0)))]) [0, 1, 2, 3, 4, 5] (by decide) rfl
  refine lv_aload_n hx hb dX12_init_1011 rfl (lv_at hl 0 rfl) ?_
  refine lv_bipush (v := 48) hx hb dX12_init_1012 (by decide) ?_
  refine va_newa (atype := .int) (a0 := (48, .inl (fun _ => 0))) (ty := .int) (N' := 48) hx hb (ht _ ac_int) rfl hK hP hD hS hA (fun _ => rfl) (by decide) (by decide) (by decide) (Nat.le_trans (Nat.le_of_ble_eq_true rfl) hRc) (Nat.le_trans (Nat.le_of_ble_eq_true rfl) hRs) dX12_init_1014 (fun q_225 cA H hK2 hP hD hS => ?_)
  obtain rfl := z_cls_int hK hK2
  refine W.widen (k := 50) (n := 9515) (Nat.le_of_ble_eq_true rfl) (Nat.le_of_ble_eq_true rfl) ?_
  have hP : va_P D vwCl [(h0, .inr (12, fs_224)), (q_1, .inl (D.1 13, 1600, .inl (fun _ => 0))), (q_4, .inl (D.1 13, 6, .inl (fun _ => 0))), (q_179, .inl (D.1 13, 10, .inl (fun _ => 0))), (q_185, .inl (D.1 13, 6, .inl f_191)), (q_197, .inl (D.1 13, 906, .inl (fun _ => 0))), (q_225, .inl (D.1 13, 48, .inl (fun _ => 0)))] H := hP
  have hD : va_D A [(h0, .inr (12, fs_224)), (q_1, .inl (D.1 13, 1600, .inl (fun _ => 0))), (q_4, .inl (D.1 13, 6, .inl (fun _ => 0))), (q_179, .inl (D.1 13, 10, .inl (fun _ => 0))), (q_185, .inl (D.1 13, 6, .inl f_191)), (q_197, .inl (D.1 13, 906, .inl (fun _ => 0))), (q_225, .inl (D.1 13, 48, .inl (fun _ => 0)))] := hD
  refine va_putF (D := D) (ci := 12) (v := .ref q_225) (ty := .array .int) (C := RX12) (T := TX12) (N := 116) hx hb ht inX12 tyX12 tyX12_ok nmX12 hown hK hP hD hS 0 rfl rfl 72 (by decide) (ht (.fieldLink RX12 164 "CloneVolumesModel" "lostBy" "[I") fl_X12_164) (fun _ h9 => h9) rfl hin rfl (by decide +kernel) rfl rfl (by rw [hlen]; decide) dX12_init_1016 (fun H locs hP hD hS => ?_)
  have hP : va_P D vwCl [(h0, .inr (12, (fs_224.set 72 (.ref q_225)))), (q_1, .inl (D.1 13, 1600, .inl (fun _ => 0))), (q_4, .inl (D.1 13, 6, .inl (fun _ => 0))), (q_179, .inl (D.1 13, 10, .inl (fun _ => 0))), (q_185, .inl (D.1 13, 6, .inl f_191)), (q_197, .inl (D.1 13, 906, .inl (fun _ => 0))), (q_225, .inl (D.1 13, 48, .inl (fun _ => 0)))] H := hP
  have hD : va_D A [(h0, .inr (12, (fs_224.set 72 (.ref q_225)))), (q_1, .inl (D.1 13, 1600, .inl (fun _ => 0))), (q_4, .inl (D.1 13, 6, .inl (fun _ => 0))), (q_179, .inl (D.1 13, 10, .inl (fun _ => 0))), (q_185, .inl (D.1 13, 6, .inl f_191)), (q_197, .inl (D.1 13, 906, .inl (fun _ => 0))), (q_225, .inl (D.1 13, 48, .inl (fun _ => 0)))] := hD
  generalize hfs_226 : fs_224.set 72 (.ref q_225) = fs_226 at hP hD
  have hlen : fs_226.length = 116 := by rw [← hfs_226, List.length_set]; exact hlen
  have hP : va_P D vwCl [(h0, .inr (12, fs_226)), (q_1, .inl (D.1 13, 1600, .inl (fun _ => 0))), (q_4, .inl (D.1 13, 6, .inl (fun _ => 0))), (q_179, .inl (D.1 13, 10, .inl (fun _ => 0))), (q_185, .inl (D.1 13, 6, .inl f_191)), (q_197, .inl (D.1 13, 906, .inl (fun _ => 0))), (q_225, .inl (D.1 13, 48, .inl (fun _ => 0)))] H := hP
  have hD : va_D A [(h0, .inr (12, fs_226)), (q_1, .inl (D.1 13, 1600, .inl (fun _ => 0))), (q_4, .inl (D.1 13, 6, .inl (fun _ => 0))), (q_179, .inl (D.1 13, 10, .inl (fun _ => 0))), (q_185, .inl (D.1 13, 6, .inl f_191)), (q_197, .inl (D.1 13, 906, .inl (fun _ => 0))), (q_225, .inl (D.1 13, 48, .inl (fun _ => 0)))] := hD
  refine lv_aload_n hx hb dX12_init_1019 rfl (lv_at hl 0 rfl) ?_
  refine lv_bipush (v := 24) hx hb dX12_init_1020 (by decide) ?_
  refine va_newa (atype := .int) (a0 := (24, .inl (fun _ => 0))) (ty := .int) (N' := 24) hx hb (ht _ ac_int) rfl hK hP hD hS hA (fun _ => rfl) (by decide) (by decide) (by decide) (Nat.le_trans (Nat.le_of_ble_eq_true rfl) hRc) (Nat.le_trans (Nat.le_of_ble_eq_true rfl) hRs) dX12_init_1022 (fun q_227 cA H hK2 hP hD hS => ?_)
  obtain rfl := z_cls_int hK hK2
  refine W.widen (k := 51) (n := 9539) (Nat.le_of_ble_eq_true rfl) (Nat.le_of_ble_eq_true rfl) ?_
  have hP : va_P D vwCl [(h0, .inr (12, fs_226)), (q_1, .inl (D.1 13, 1600, .inl (fun _ => 0))), (q_4, .inl (D.1 13, 6, .inl (fun _ => 0))), (q_179, .inl (D.1 13, 10, .inl (fun _ => 0))), (q_185, .inl (D.1 13, 6, .inl f_191)), (q_197, .inl (D.1 13, 906, .inl (fun _ => 0))), (q_225, .inl (D.1 13, 48, .inl (fun _ => 0))), (q_227, .inl (D.1 13, 24, .inl (fun _ => 0)))] H := hP
  have hD : va_D A [(h0, .inr (12, fs_226)), (q_1, .inl (D.1 13, 1600, .inl (fun _ => 0))), (q_4, .inl (D.1 13, 6, .inl (fun _ => 0))), (q_179, .inl (D.1 13, 10, .inl (fun _ => 0))), (q_185, .inl (D.1 13, 6, .inl f_191)), (q_197, .inl (D.1 13, 906, .inl (fun _ => 0))), (q_225, .inl (D.1 13, 48, .inl (fun _ => 0))), (q_227, .inl (D.1 13, 24, .inl (fun _ => 0)))] := hD
  refine va_putF (D := D) (ci := 12) (v := .ref q_227) (ty := .array .int) (C := RX12) (T := TX12) (N := 116) hx hb ht inX12 tyX12 tyX12_ok nmX12 hown hK hP hD hS 0 rfl rfl 74 (by decide) (ht (.fieldLink RX12 167 "CloneVolumesModel" "rows" "[I") fl_X12_167) (fun _ h9 => h9) rfl hin rfl (by decide +kernel) rfl rfl (by rw [hlen]; decide) dX12_init_1024 (fun H locs hP hD hS => ?_)
  have hP : va_P D vwCl [(h0, .inr (12, (fs_226.set 74 (.ref q_227)))), (q_1, .inl (D.1 13, 1600, .inl (fun _ => 0))), (q_4, .inl (D.1 13, 6, .inl (fun _ => 0))), (q_179, .inl (D.1 13, 10, .inl (fun _ => 0))), (q_185, .inl (D.1 13, 6, .inl f_191)), (q_197, .inl (D.1 13, 906, .inl (fun _ => 0))), (q_225, .inl (D.1 13, 48, .inl (fun _ => 0))), (q_227, .inl (D.1 13, 24, .inl (fun _ => 0)))] H := hP
  have hD : va_D A [(h0, .inr (12, (fs_226.set 74 (.ref q_227)))), (q_1, .inl (D.1 13, 1600, .inl (fun _ => 0))), (q_4, .inl (D.1 13, 6, .inl (fun _ => 0))), (q_179, .inl (D.1 13, 10, .inl (fun _ => 0))), (q_185, .inl (D.1 13, 6, .inl f_191)), (q_197, .inl (D.1 13, 906, .inl (fun _ => 0))), (q_225, .inl (D.1 13, 48, .inl (fun _ => 0))), (q_227, .inl (D.1 13, 24, .inl (fun _ => 0)))] := hD
  generalize hfs_228 : fs_226.set 74 (.ref q_227) = fs_228 at hP hD
  have hlen : fs_228.length = 116 := by rw [← hfs_228, List.length_set]; exact hlen
  have hP : va_P D vwCl [(h0, .inr (12, fs_228)), (q_1, .inl (D.1 13, 1600, .inl (fun _ => 0))), (q_4, .inl (D.1 13, 6, .inl (fun _ => 0))), (q_179, .inl (D.1 13, 10, .inl (fun _ => 0))), (q_185, .inl (D.1 13, 6, .inl f_191)), (q_197, .inl (D.1 13, 906, .inl (fun _ => 0))), (q_225, .inl (D.1 13, 48, .inl (fun _ => 0))), (q_227, .inl (D.1 13, 24, .inl (fun _ => 0)))] H := hP
  have hD : va_D A [(h0, .inr (12, fs_228)), (q_1, .inl (D.1 13, 1600, .inl (fun _ => 0))), (q_4, .inl (D.1 13, 6, .inl (fun _ => 0))), (q_179, .inl (D.1 13, 10, .inl (fun _ => 0))), (q_185, .inl (D.1 13, 6, .inl f_191)), (q_197, .inl (D.1 13, 906, .inl (fun _ => 0))), (q_225, .inl (D.1 13, 48, .inl (fun _ => 0))), (q_227, .inl (D.1 13, 24, .inl (fun _ => 0)))] := hD
  have hP := hP.sub (ws' := [(h0, .inr (12, fs_228)), (q_1, .inl (D.1 13, 1600, .inl (fun _ => 0))), (q_4, .inl (D.1 13, 6, .inl (fun _ => 0))), (q_179, .inl (D.1 13, 10, .inl (fun _ => 0))), (q_185, .inl (D.1 13, 6, .inl f_191)), (q_197, .inl (D.1 13, 906, .inl (fun _ => 0))), (q_225, .inl (D.1 13, 48, .inl (fun _ => 0)))]) [0, 1, 2, 3, 4, 5, 6] rfl
  have hD := hD.sub (ws' := [(h0, .inr (12, fs_228)), (q_1, .inl (D.1 13, 1600, .inl (fun _ => 0))), (q_4, .inl (D.1 13, 6, .inl (fun _ => 0))), (q_179, .inl (D.1 13, 10, .inl (fun _ => 0))), (q_185, .inl (D.1 13, 6, .inl f_191)), (q_197, .inl (D.1 13, 906, .inl (fun _ => 0))), (q_225, .inl (D.1 13, 48, .inl (fun _ => 0)))]) [0, 1, 2, 3, 4, 5, 6] (by decide) rfl
  refine lv_aload_n hx hb dX12_init_1027 rfl (lv_at hl 0 rfl) ?_
  refine lv_sipush (v := 18120) hx hb dX12_init_1028 (by decide) ?_
  refine va_newa (atype := .int) (a0 := (18120, .inl (fun _ => 0))) (ty := .int) (N' := 18120) hx hb (ht _ ac_int) rfl hK hP hD hS hA (fun _ => rfl) (by decide) (by decide) (by decide) (Nat.le_trans (Nat.le_of_ble_eq_true rfl) hRc) (Nat.le_trans (Nat.le_of_ble_eq_true rfl) hRs) dX12_init_1031 (fun q_229 cA H hK2 hP hD hS => ?_)
  obtain rfl := z_cls_int hK hK2
  refine W.widen (k := 52) (n := 27659) (Nat.le_of_ble_eq_true rfl) (Nat.le_of_ble_eq_true rfl) ?_
  have hP : va_P D vwCl [(h0, .inr (12, fs_228)), (q_1, .inl (D.1 13, 1600, .inl (fun _ => 0))), (q_4, .inl (D.1 13, 6, .inl (fun _ => 0))), (q_179, .inl (D.1 13, 10, .inl (fun _ => 0))), (q_185, .inl (D.1 13, 6, .inl f_191)), (q_197, .inl (D.1 13, 906, .inl (fun _ => 0))), (q_225, .inl (D.1 13, 48, .inl (fun _ => 0))), (q_229, .inl (D.1 13, 18120, .inl (fun _ => 0)))] H := hP
  have hD : va_D A [(h0, .inr (12, fs_228)), (q_1, .inl (D.1 13, 1600, .inl (fun _ => 0))), (q_4, .inl (D.1 13, 6, .inl (fun _ => 0))), (q_179, .inl (D.1 13, 10, .inl (fun _ => 0))), (q_185, .inl (D.1 13, 6, .inl f_191)), (q_197, .inl (D.1 13, 906, .inl (fun _ => 0))), (q_225, .inl (D.1 13, 48, .inl (fun _ => 0))), (q_229, .inl (D.1 13, 18120, .inl (fun _ => 0)))] := hD
  refine va_putF (D := D) (ci := 12) (v := .ref q_229) (ty := .array .int) (C := RX12) (T := TX12) (N := 116) hx hb ht inX12 tyX12 tyX12_ok nmX12 hown hK hP hD hS 0 rfl rfl 75 (by decide) (ht (.fieldLink RX12 170 "CloneVolumesModel" "kept0" "[I") fl_X12_170) (fun _ h9 => h9) rfl hin rfl (by decide +kernel) rfl rfl (by rw [hlen]; decide) dX12_init_1033 (fun H locs hP hD hS => ?_)
  have hP : va_P D vwCl [(h0, .inr (12, (fs_228.set 75 (.ref q_229)))), (q_1, .inl (D.1 13, 1600, .inl (fun _ => 0))), (q_4, .inl (D.1 13, 6, .inl (fun _ => 0))), (q_179, .inl (D.1 13, 10, .inl (fun _ => 0))), (q_185, .inl (D.1 13, 6, .inl f_191)), (q_197, .inl (D.1 13, 906, .inl (fun _ => 0))), (q_225, .inl (D.1 13, 48, .inl (fun _ => 0))), (q_229, .inl (D.1 13, 18120, .inl (fun _ => 0)))] H := hP
  have hD : va_D A [(h0, .inr (12, (fs_228.set 75 (.ref q_229)))), (q_1, .inl (D.1 13, 1600, .inl (fun _ => 0))), (q_4, .inl (D.1 13, 6, .inl (fun _ => 0))), (q_179, .inl (D.1 13, 10, .inl (fun _ => 0))), (q_185, .inl (D.1 13, 6, .inl f_191)), (q_197, .inl (D.1 13, 906, .inl (fun _ => 0))), (q_225, .inl (D.1 13, 48, .inl (fun _ => 0))), (q_229, .inl (D.1 13, 18120, .inl (fun _ => 0)))] := hD
  generalize hfs_230 : fs_228.set 75 (.ref q_229) = fs_230 at hP hD
  have hlen : fs_230.length = 116 := by rw [← hfs_230, List.length_set]; exact hlen
  have hP : va_P D vwCl [(h0, .inr (12, fs_230)), (q_1, .inl (D.1 13, 1600, .inl (fun _ => 0))), (q_4, .inl (D.1 13, 6, .inl (fun _ => 0))), (q_179, .inl (D.1 13, 10, .inl (fun _ => 0))), (q_185, .inl (D.1 13, 6, .inl f_191)), (q_197, .inl (D.1 13, 906, .inl (fun _ => 0))), (q_225, .inl (D.1 13, 48, .inl (fun _ => 0))), (q_229, .inl (D.1 13, 18120, .inl (fun _ => 0)))] H := hP
  have hD : va_D A [(h0, .inr (12, fs_230)), (q_1, .inl (D.1 13, 1600, .inl (fun _ => 0))), (q_4, .inl (D.1 13, 6, .inl (fun _ => 0))), (q_179, .inl (D.1 13, 10, .inl (fun _ => 0))), (q_185, .inl (D.1 13, 6, .inl f_191)), (q_197, .inl (D.1 13, 906, .inl (fun _ => 0))), (q_225, .inl (D.1 13, 48, .inl (fun _ => 0))), (q_229, .inl (D.1 13, 18120, .inl (fun _ => 0)))] := hD
  have hP := hP.sub (ws' := [(h0, .inr (12, fs_230)), (q_1, .inl (D.1 13, 1600, .inl (fun _ => 0))), (q_4, .inl (D.1 13, 6, .inl (fun _ => 0))), (q_179, .inl (D.1 13, 10, .inl (fun _ => 0))), (q_185, .inl (D.1 13, 6, .inl f_191)), (q_197, .inl (D.1 13, 906, .inl (fun _ => 0))), (q_225, .inl (D.1 13, 48, .inl (fun _ => 0)))]) [0, 1, 2, 3, 4, 5, 6] rfl
  have hD := hD.sub (ws' := [(h0, .inr (12, fs_230)), (q_1, .inl (D.1 13, 1600, .inl (fun _ => 0))), (q_4, .inl (D.1 13, 6, .inl (fun _ => 0))), (q_179, .inl (D.1 13, 10, .inl (fun _ => 0))), (q_185, .inl (D.1 13, 6, .inl f_191)), (q_197, .inl (D.1 13, 906, .inl (fun _ => 0))), (q_225, .inl (D.1 13, 48, .inl (fun _ => 0)))]) [0, 1, 2, 3, 4, 5, 6] (by decide) rfl
  refine lv_aload_n hx hb dX12_init_1036 rfl (lv_at hl 0 rfl) ?_
  refine lv_lconst (v := 1) hx hb dX12_init_1037 (by decide) ?_
  refine va_put (D := D) (ci := 12) (v := .long 1) (ty := .long) (C := RX12) (T := TX12) (N := 116) hx hb ht inX12 tyX12 tyX12_ok nmX12 hown hK hP hD hS 0 rfl rfl 78 (by decide) (ht (.fieldLink RX12 173 "CloneVolumesModel" "seeded" "J") fl_X12_173) (fun _ h9 => h9) rfl (by decide +kernel) rfl rfl (by rw [hlen]; decide) dX12_init_1038 (fun H locs hP hD hS => ?_)
  have hP : va_P D vwCl [(h0, .inr (12, (fs_230.set 78 (.long 1)))), (q_1, .inl (D.1 13, 1600, .inl (fun _ => 0))), (q_4, .inl (D.1 13, 6, .inl (fun _ => 0))), (q_179, .inl (D.1 13, 10, .inl (fun _ => 0))), (q_185, .inl (D.1 13, 6, .inl f_191)), (q_197, .inl (D.1 13, 906, .inl (fun _ => 0))), (q_225, .inl (D.1 13, 48, .inl (fun _ => 0)))] H := hP
  have hD : va_D A [(h0, .inr (12, (fs_230.set 78 (.long 1)))), (q_1, .inl (D.1 13, 1600, .inl (fun _ => 0))), (q_4, .inl (D.1 13, 6, .inl (fun _ => 0))), (q_179, .inl (D.1 13, 10, .inl (fun _ => 0))), (q_185, .inl (D.1 13, 6, .inl f_191)), (q_197, .inl (D.1 13, 906, .inl (fun _ => 0))), (q_225, .inl (D.1 13, 48, .inl (fun _ => 0)))] := hD
  generalize hfs_231 : fs_230.set 78 (.long 1) = fs_231 at hP hD
  have hlen : fs_231.length = 116 := by rw [← hfs_231, List.length_set]; exact hlen
  have hP : va_P D vwCl [(h0, .inr (12, fs_231)), (q_1, .inl (D.1 13, 1600, .inl (fun _ => 0))), (q_4, .inl (D.1 13, 6, .inl (fun _ => 0))), (q_179, .inl (D.1 13, 10, .inl (fun _ => 0))), (q_185, .inl (D.1 13, 6, .inl f_191)), (q_197, .inl (D.1 13, 906, .inl (fun _ => 0))), (q_225, .inl (D.1 13, 48, .inl (fun _ => 0)))] H := hP
  have hD : va_D A [(h0, .inr (12, fs_231)), (q_1, .inl (D.1 13, 1600, .inl (fun _ => 0))), (q_4, .inl (D.1 13, 6, .inl (fun _ => 0))), (q_179, .inl (D.1 13, 10, .inl (fun _ => 0))), (q_185, .inl (D.1 13, 6, .inl f_191)), (q_197, .inl (D.1 13, 906, .inl (fun _ => 0))), (q_225, .inl (D.1 13, 48, .inl (fun _ => 0)))] := hD
  refine lv_aload_n hx hb dX12_init_1041 rfl (lv_at hl 0 rfl) ?_
  refine lv_iconst (v := 5) hx hb dX12_init_1042 (by decide) ?_
  refine va_newa (atype := .char) (a0 := (5, .inl (fun _ => 0))) (ty := .char) (N' := 5) hx hb (ht _ ac_char) rfl hK hP hD hS hA (fun _ => rfl) (by decide) (by decide) (by decide) (Nat.le_trans (Nat.le_of_ble_eq_true rfl) hRc) (Nat.le_trans (Nat.le_of_ble_eq_true rfl) hRs) dX12_init_1043 (fun q_232 cA H hK2 hP hD hS => ?_)
  obtain rfl := z_cls_char hK hK2
  refine W.widen (k := 53) (n := 27664) (Nat.le_of_ble_eq_true rfl) (Nat.le_of_ble_eq_true rfl) ?_
  have hP : va_P D vwCl [(h0, .inr (12, fs_231)), (q_1, .inl (D.1 13, 1600, .inl (fun _ => 0))), (q_4, .inl (D.1 13, 6, .inl (fun _ => 0))), (q_179, .inl (D.1 13, 10, .inl (fun _ => 0))), (q_185, .inl (D.1 13, 6, .inl f_191)), (q_197, .inl (D.1 13, 906, .inl (fun _ => 0))), (q_225, .inl (D.1 13, 48, .inl (fun _ => 0))), (q_232, .inl (D.1 14, 5, .inl (fun _ => 0)))] H := hP
  have hD : va_D A [(h0, .inr (12, fs_231)), (q_1, .inl (D.1 13, 1600, .inl (fun _ => 0))), (q_4, .inl (D.1 13, 6, .inl (fun _ => 0))), (q_179, .inl (D.1 13, 10, .inl (fun _ => 0))), (q_185, .inl (D.1 13, 6, .inl f_191)), (q_197, .inl (D.1 13, 906, .inl (fun _ => 0))), (q_225, .inl (D.1 13, 48, .inl (fun _ => 0))), (q_232, .inl (D.1 14, 5, .inl (fun _ => 0)))] := hD
  refine lv_dup hx hb dX12_init_1045 rfl ?_
  refine lv_iconst (v := 0) hx hb dX12_init_1046 (by decide) ?_
  refine lv_bipush (v := 102) hx hb dX12_init_1047 (by decide) ?_
  refine va_cast hx hb hK hP hD hS 7 1 rfl rfl (z_in (by decide) (by decide)) dX12_init_1049 (fun H locs hP hD hS => ?_)
  generalize hf_233 : upd _ _ _ = f_233 at hP hD
  have hP : va_P D vwCl [(h0, .inr (12, fs_231)), (q_1, .inl (D.1 13, 1600, .inl (fun _ => 0))), (q_4, .inl (D.1 13, 6, .inl (fun _ => 0))), (q_179, .inl (D.1 13, 10, .inl (fun _ => 0))), (q_185, .inl (D.1 13, 6, .inl f_191)), (q_197, .inl (D.1 13, 906, .inl (fun _ => 0))), (q_225, .inl (D.1 13, 48, .inl (fun _ => 0))), (q_232, .inl (D.1 14, 5, .inl f_233))] H := hP
  have hD : va_D A [(h0, .inr (12, fs_231)), (q_1, .inl (D.1 13, 1600, .inl (fun _ => 0))), (q_4, .inl (D.1 13, 6, .inl (fun _ => 0))), (q_179, .inl (D.1 13, 10, .inl (fun _ => 0))), (q_185, .inl (D.1 13, 6, .inl f_191)), (q_197, .inl (D.1 13, 906, .inl (fun _ => 0))), (q_225, .inl (D.1 13, 48, .inl (fun _ => 0))), (q_232, .inl (D.1 14, 5, .inl f_233))] := hD
  refine lv_dup hx hb dX12_init_1050 rfl ?_
  refine lv_iconst (v := 1) hx hb dX12_init_1051 (by decide) ?_
  refine lv_bipush (v := 105) hx hb dX12_init_1052 (by decide) ?_
  refine va_cast hx hb hK hP hD hS 7 1 rfl rfl (z_in (by decide) (by decide)) dX12_init_1054 (fun H locs hP hD hS => ?_)
  generalize hf_234 : upd _ _ _ = f_234 at hP hD
  have hP : va_P D vwCl [(h0, .inr (12, fs_231)), (q_1, .inl (D.1 13, 1600, .inl (fun _ => 0))), (q_4, .inl (D.1 13, 6, .inl (fun _ => 0))), (q_179, .inl (D.1 13, 10, .inl (fun _ => 0))), (q_185, .inl (D.1 13, 6, .inl f_191)), (q_197, .inl (D.1 13, 906, .inl (fun _ => 0))), (q_225, .inl (D.1 13, 48, .inl (fun _ => 0))), (q_232, .inl (D.1 14, 5, .inl f_234))] H := hP
  have hD : va_D A [(h0, .inr (12, fs_231)), (q_1, .inl (D.1 13, 1600, .inl (fun _ => 0))), (q_4, .inl (D.1 13, 6, .inl (fun _ => 0))), (q_179, .inl (D.1 13, 10, .inl (fun _ => 0))), (q_185, .inl (D.1 13, 6, .inl f_191)), (q_197, .inl (D.1 13, 906, .inl (fun _ => 0))), (q_225, .inl (D.1 13, 48, .inl (fun _ => 0))), (q_232, .inl (D.1 14, 5, .inl f_234))] := hD
  refine lv_dup hx hb dX12_init_1055 rfl ?_
  refine lv_iconst (v := 2) hx hb dX12_init_1056 (by decide) ?_
  refine lv_bipush (v := 114) hx hb dX12_init_1057 (by decide) ?_
  refine va_cast hx hb hK hP hD hS 7 1 rfl rfl (z_in (by decide) (by decide)) dX12_init_1059 (fun H locs hP hD hS => ?_)
  generalize hf_235 : upd _ _ _ = f_235 at hP hD
  have hP : va_P D vwCl [(h0, .inr (12, fs_231)), (q_1, .inl (D.1 13, 1600, .inl (fun _ => 0))), (q_4, .inl (D.1 13, 6, .inl (fun _ => 0))), (q_179, .inl (D.1 13, 10, .inl (fun _ => 0))), (q_185, .inl (D.1 13, 6, .inl f_191)), (q_197, .inl (D.1 13, 906, .inl (fun _ => 0))), (q_225, .inl (D.1 13, 48, .inl (fun _ => 0))), (q_232, .inl (D.1 14, 5, .inl f_235))] H := hP
  have hD : va_D A [(h0, .inr (12, fs_231)), (q_1, .inl (D.1 13, 1600, .inl (fun _ => 0))), (q_4, .inl (D.1 13, 6, .inl (fun _ => 0))), (q_179, .inl (D.1 13, 10, .inl (fun _ => 0))), (q_185, .inl (D.1 13, 6, .inl f_191)), (q_197, .inl (D.1 13, 906, .inl (fun _ => 0))), (q_225, .inl (D.1 13, 48, .inl (fun _ => 0))), (q_232, .inl (D.1 14, 5, .inl f_235))] := hD
  refine lv_dup hx hb dX12_init_1060 rfl ?_
  refine lv_iconst (v := 3) hx hb dX12_init_1061 (by decide) ?_
  refine lv_bipush (v := 115) hx hb dX12_init_1062 (by decide) ?_
  refine va_cast hx hb hK hP hD hS 7 1 rfl rfl (z_in (by decide) (by decide)) dX12_init_1064 (fun H locs hP hD hS => ?_)
  generalize hf_236 : upd _ _ _ = f_236 at hP hD
  have hP : va_P D vwCl [(h0, .inr (12, fs_231)), (q_1, .inl (D.1 13, 1600, .inl (fun _ => 0))), (q_4, .inl (D.1 13, 6, .inl (fun _ => 0))), (q_179, .inl (D.1 13, 10, .inl (fun _ => 0))), (q_185, .inl (D.1 13, 6, .inl f_191)), (q_197, .inl (D.1 13, 906, .inl (fun _ => 0))), (q_225, .inl (D.1 13, 48, .inl (fun _ => 0))), (q_232, .inl (D.1 14, 5, .inl f_236))] H := hP
  have hD : va_D A [(h0, .inr (12, fs_231)), (q_1, .inl (D.1 13, 1600, .inl (fun _ => 0))), (q_4, .inl (D.1 13, 6, .inl (fun _ => 0))), (q_179, .inl (D.1 13, 10, .inl (fun _ => 0))), (q_185, .inl (D.1 13, 6, .inl f_191)), (q_197, .inl (D.1 13, 906, .inl (fun _ => 0))), (q_225, .inl (D.1 13, 48, .inl (fun _ => 0))), (q_232, .inl (D.1 14, 5, .inl f_236))] := hD
  refine lv_dup hx hb dX12_init_1065 rfl ?_
  refine lv_iconst (v := 4) hx hb dX12_init_1066 (by decide) ?_
  refine lv_bipush (v := 116) hx hb dX12_init_1067 (by decide) ?_
  refine va_cast hx hb hK hP hD hS 7 1 rfl rfl (z_in (by decide) (by decide)) dX12_init_1069 (fun H locs hP hD hS => ?_)
  generalize hf_237 : upd _ _ _ = f_237 at hP hD
  have hP : va_P D vwCl [(h0, .inr (12, fs_231)), (q_1, .inl (D.1 13, 1600, .inl (fun _ => 0))), (q_4, .inl (D.1 13, 6, .inl (fun _ => 0))), (q_179, .inl (D.1 13, 10, .inl (fun _ => 0))), (q_185, .inl (D.1 13, 6, .inl f_191)), (q_197, .inl (D.1 13, 906, .inl (fun _ => 0))), (q_225, .inl (D.1 13, 48, .inl (fun _ => 0))), (q_232, .inl (D.1 14, 5, .inl f_237))] H := hP
  have hD : va_D A [(h0, .inr (12, fs_231)), (q_1, .inl (D.1 13, 1600, .inl (fun _ => 0))), (q_4, .inl (D.1 13, 6, .inl (fun _ => 0))), (q_179, .inl (D.1 13, 10, .inl (fun _ => 0))), (q_185, .inl (D.1 13, 6, .inl f_191)), (q_197, .inl (D.1 13, 906, .inl (fun _ => 0))), (q_225, .inl (D.1 13, 48, .inl (fun _ => 0))), (q_232, .inl (D.1 14, 5, .inl f_237))] := hD
  refine va_putF (D := D) (ci := 12) (v := .ref q_232) (ty := .array .char) (C := RX12) (T := TX12) (N := 116) hx hb ht inX12 tyX12 tyX12_ok nmX12 hown hK hP hD hS 0 rfl rfl 79 (by decide) (ht (.fieldLink RX12 177 "CloneVolumesModel" "firstAsked" "[C") fl_X12_177) (fun _ h9 => h9) rfl hin rfl (by decide +kernel) rfl rfl (by rw [hlen]; decide) dX12_init_1070 (fun H locs hP hD hS => ?_)
  have hP : va_P D vwCl [(h0, .inr (12, (fs_231.set 79 (.ref q_232)))), (q_1, .inl (D.1 13, 1600, .inl (fun _ => 0))), (q_4, .inl (D.1 13, 6, .inl (fun _ => 0))), (q_179, .inl (D.1 13, 10, .inl (fun _ => 0))), (q_185, .inl (D.1 13, 6, .inl f_191)), (q_197, .inl (D.1 13, 906, .inl (fun _ => 0))), (q_225, .inl (D.1 13, 48, .inl (fun _ => 0))), (q_232, .inl (D.1 14, 5, .inl f_237))] H := hP
  have hD : va_D A [(h0, .inr (12, (fs_231.set 79 (.ref q_232)))), (q_1, .inl (D.1 13, 1600, .inl (fun _ => 0))), (q_4, .inl (D.1 13, 6, .inl (fun _ => 0))), (q_179, .inl (D.1 13, 10, .inl (fun _ => 0))), (q_185, .inl (D.1 13, 6, .inl f_191)), (q_197, .inl (D.1 13, 906, .inl (fun _ => 0))), (q_225, .inl (D.1 13, 48, .inl (fun _ => 0))), (q_232, .inl (D.1 14, 5, .inl f_237))] := hD
  generalize hfs_238 : fs_231.set 79 (.ref q_232) = fs_238 at hP hD
  have hlen : fs_238.length = 116 := by rw [← hfs_238, List.length_set]; exact hlen
  have hP : va_P D vwCl [(h0, .inr (12, fs_238)), (q_1, .inl (D.1 13, 1600, .inl (fun _ => 0))), (q_4, .inl (D.1 13, 6, .inl (fun _ => 0))), (q_179, .inl (D.1 13, 10, .inl (fun _ => 0))), (q_185, .inl (D.1 13, 6, .inl f_191)), (q_197, .inl (D.1 13, 906, .inl (fun _ => 0))), (q_225, .inl (D.1 13, 48, .inl (fun _ => 0))), (q_232, .inl (D.1 14, 5, .inl f_237))] H := hP
  have hD : va_D A [(h0, .inr (12, fs_238)), (q_1, .inl (D.1 13, 1600, .inl (fun _ => 0))), (q_4, .inl (D.1 13, 6, .inl (fun _ => 0))), (q_179, .inl (D.1 13, 10, .inl (fun _ => 0))), (q_185, .inl (D.1 13, 6, .inl f_191)), (q_197, .inl (D.1 13, 906, .inl (fun _ => 0))), (q_225, .inl (D.1 13, 48, .inl (fun _ => 0))), (q_232, .inl (D.1 14, 5, .inl f_237))] := hD
  have hP := hP.sub (ws' := [(h0, .inr (12, fs_238)), (q_1, .inl (D.1 13, 1600, .inl (fun _ => 0))), (q_4, .inl (D.1 13, 6, .inl (fun _ => 0))), (q_179, .inl (D.1 13, 10, .inl (fun _ => 0))), (q_185, .inl (D.1 13, 6, .inl f_191)), (q_197, .inl (D.1 13, 906, .inl (fun _ => 0))), (q_225, .inl (D.1 13, 48, .inl (fun _ => 0)))]) [0, 1, 2, 3, 4, 5, 6] rfl
  have hD := hD.sub (ws' := [(h0, .inr (12, fs_238)), (q_1, .inl (D.1 13, 1600, .inl (fun _ => 0))), (q_4, .inl (D.1 13, 6, .inl (fun _ => 0))), (q_179, .inl (D.1 13, 10, .inl (fun _ => 0))), (q_185, .inl (D.1 13, 6, .inl f_191)), (q_197, .inl (D.1 13, 906, .inl (fun _ => 0))), (q_225, .inl (D.1 13, 48, .inl (fun _ => 0)))]) [0, 1, 2, 3, 4, 5, 6] (by decide) rfl
  exact kk q_217 q_219 q_221 q_223 q_225 q_227 q_229 q_232 fs_238 _ _ (by rw [← hfs_238, ← hfs_231, ← hfs_230, ← hfs_228, ← hfs_226, ← hfs_224, ← hfs_222, ← hfs_220, ← hfs_218]) hP hD hS
set_option maxHeartbeats 4000000 in
set_option maxRecDepth 100000 in
theorem cM_14 {h0 : Nat} {q_1 : Nat} {q_4 : Nat} {q_179 : Nat} {q_185 : Nat} {q_197 : Nat} {q_225 : Nat} {f_191 : Nat → Int32} (hx : p.tables.exec = Jvm.exec) (hb : c.code = cX12_init) (ht : ∀ w ∈ lw_gd, w.before args s = true) (hown : s.vm.findClass RX12 = some m.cls) (hin : meth.name = "<init>") (hK : va_K D vwCl (TY D) s) (hA : ∀ q : Nat, s.heap.size ≤ q → A q) (hRc : 80 ≤ R.cells) (hRs : 35050 ≤ R.slots) (hl : lv_has ls 1 [(0, .ref h0)]) {fs : List Value} (hlen : fs.length = 116) {H : Heap} {locs : List Loc} (hP : va_P D vwCl [(h0, .inr (12, fs)), (q_1, .inl (D.1 13, 1600, .inl (fun _ => 0))), (q_4, .inl (D.1 13, 6, .inl (fun _ => 0))), (q_179, .inl (D.1 13, 10, .inl (fun _ => 0))), (q_185, .inl (D.1 13, 6, .inl f_191)), (q_197, .inl (D.1 13, 906, .inl (fun _ => 0))), (q_225, .inl (D.1 13, 48, .inl (fun _ => 0)))] H) (hD : va_D A [(h0, .inr (12, fs)), (q_1, .inl (D.1 13, 1600, .inl (fun _ => 0))), (q_4, .inl (D.1 13, 6, .inl (fun _ => 0))), (q_179, .inl (D.1 13, 10, .inl (fun _ => 0))), (q_185, .inl (D.1 13, 6, .inl f_191)), (q_197, .inl (D.1 13, 906, .inl (fun _ => 0))), (q_225, .inl (D.1 13, 48, .inl (fun _ => 0)))]) (hS : va_S A s.heap H locs)
    (kk : ∀ (q_239 : Nat) (q_245 : Nat) (q_252 : Nat) (fs' : List Value) (H : Heap) (locs : List Loc), fs' = (((fs.set 80 (.ref q_239)).set 81 (.ref q_245)).set 82 (.ref q_252)) → va_P D vwCl [(h0, .inr (12, fs')), (q_1, .inl (D.1 13, 1600, .inl (fun _ => 0))), (q_4, .inl (D.1 13, 6, .inl (fun _ => 0))), (q_179, .inl (D.1 13, 10, .inl (fun _ => 0))), (q_185, .inl (D.1 13, 6, .inl f_191)), (q_197, .inl (D.1 13, 906, .inl (fun _ => 0))), (q_225, .inl (D.1 13, 48, .inl (fun _ => 0)))] H → va_D A [(h0, .inr (12, fs')), (q_1, .inl (D.1 13, 1600, .inl (fun _ => 0))), (q_4, .inl (D.1 13, 6, .inl (fun _ => 0))), (q_179, .inl (D.1 13, 10, .inl (fun _ => 0))), (q_185, .inl (D.1 13, 6, .inl f_191)), (q_197, .inl (D.1 13, 906, .inl (fun _ => 0))), (q_225, .inl (D.1 13, 48, .inl (fun _ => 0)))] → va_S A s.heap H locs → W p l e R s m args below meth c H locs 56 27678 Q (F0 m 1164 ls [])) : W p l e R s m args below meth c H locs 53 27664 Q (F0 m 1073 ls []) := by
  refine lv_aload_n hx hb dX12_init_1073 rfl (lv_at hl 0 rfl) ?_
  refine lv_iconst (v := 4) hx hb dX12_init_1074 (by decide) ?_
  refine va_newa (atype := .char) (a0 := (4, .inl (fun _ => 0))) (ty := .char) (N' := 4) hx hb (ht _ ac_char) rfl hK hP hD hS hA (fun _ => rfl) (by decide) (by decide) (by decide) (Nat.le_trans (Nat.le_of_ble_eq_true rfl) hRc) (Nat.le_trans (Nat.le_of_ble_eq_true rfl) hRs) dX12_init_1075 (fun q_239 cA H hK2 hP hD hS => ?_)
  obtain rfl := z_cls_char hK hK2
  refine W.widen (k := 54) (n := 27668) (Nat.le_of_ble_eq_true rfl) (Nat.le_of_ble_eq_true rfl) ?_
  have hP : va_P D vwCl [(h0, .inr (12, fs)), (q_1, .inl (D.1 13, 1600, .inl (fun _ => 0))), (q_4, .inl (D.1 13, 6, .inl (fun _ => 0))), (q_179, .inl (D.1 13, 10, .inl (fun _ => 0))), (q_185, .inl (D.1 13, 6, .inl f_191)), (q_197, .inl (D.1 13, 906, .inl (fun _ => 0))), (q_225, .inl (D.1 13, 48, .inl (fun _ => 0))), (q_239, .inl (D.1 14, 4, .inl (fun _ => 0)))] H := hP
  have hD : va_D A [(h0, .inr (12, fs)), (q_1, .inl (D.1 13, 1600, .inl (fun _ => 0))), (q_4, .inl (D.1 13, 6, .inl (fun _ => 0))), (q_179, .inl (D.1 13, 10, .inl (fun _ => 0))), (q_185, .inl (D.1 13, 6, .inl f_191)), (q_197, .inl (D.1 13, 906, .inl (fun _ => 0))), (q_225, .inl (D.1 13, 48, .inl (fun _ => 0))), (q_239, .inl (D.1 14, 4, .inl (fun _ => 0)))] := hD
  refine lv_dup hx hb dX12_init_1077 rfl ?_
  refine lv_iconst (v := 0) hx hb dX12_init_1078 (by decide) ?_
  refine lv_bipush (v := 108) hx hb dX12_init_1079 (by decide) ?_
  refine va_cast hx hb hK hP hD hS 7 1 rfl rfl (z_in (by decide) (by decide)) dX12_init_1081 (fun H locs hP hD hS => ?_)
  generalize hf_240 : upd _ _ _ = f_240 at hP hD
  have hP : va_P D vwCl [(h0, .inr (12, fs)), (q_1, .inl (D.1 13, 1600, .inl (fun _ => 0))), (q_4, .inl (D.1 13, 6, .inl (fun _ => 0))), (q_179, .inl (D.1 13, 10, .inl (fun _ => 0))), (q_185, .inl (D.1 13, 6, .inl f_191)), (q_197, .inl (D.1 13, 906, .inl (fun _ => 0))), (q_225, .inl (D.1 13, 48, .inl (fun _ => 0))), (q_239, .inl (D.1 14, 4, .inl f_240))] H := hP
  have hD : va_D A [(h0, .inr (12, fs)), (q_1, .inl (D.1 13, 1600, .inl (fun _ => 0))), (q_4, .inl (D.1 13, 6, .inl (fun _ => 0))), (q_179, .inl (D.1 13, 10, .inl (fun _ => 0))), (q_185, .inl (D.1 13, 6, .inl f_191)), (q_197, .inl (D.1 13, 906, .inl (fun _ => 0))), (q_225, .inl (D.1 13, 48, .inl (fun _ => 0))), (q_239, .inl (D.1 14, 4, .inl f_240))] := hD
  refine lv_dup hx hb dX12_init_1082 rfl ?_
  refine lv_iconst (v := 1) hx hb dX12_init_1083 (by decide) ?_
  refine lv_bipush (v := 97) hx hb dX12_init_1084 (by decide) ?_
  refine va_cast hx hb hK hP hD hS 7 1 rfl rfl (z_in (by decide) (by decide)) dX12_init_1086 (fun H locs hP hD hS => ?_)
  generalize hf_241 : upd _ _ _ = f_241 at hP hD
  have hP : va_P D vwCl [(h0, .inr (12, fs)), (q_1, .inl (D.1 13, 1600, .inl (fun _ => 0))), (q_4, .inl (D.1 13, 6, .inl (fun _ => 0))), (q_179, .inl (D.1 13, 10, .inl (fun _ => 0))), (q_185, .inl (D.1 13, 6, .inl f_191)), (q_197, .inl (D.1 13, 906, .inl (fun _ => 0))), (q_225, .inl (D.1 13, 48, .inl (fun _ => 0))), (q_239, .inl (D.1 14, 4, .inl f_241))] H := hP
  have hD : va_D A [(h0, .inr (12, fs)), (q_1, .inl (D.1 13, 1600, .inl (fun _ => 0))), (q_4, .inl (D.1 13, 6, .inl (fun _ => 0))), (q_179, .inl (D.1 13, 10, .inl (fun _ => 0))), (q_185, .inl (D.1 13, 6, .inl f_191)), (q_197, .inl (D.1 13, 906, .inl (fun _ => 0))), (q_225, .inl (D.1 13, 48, .inl (fun _ => 0))), (q_239, .inl (D.1 14, 4, .inl f_241))] := hD
  refine lv_dup hx hb dX12_init_1087 rfl ?_
  refine lv_iconst (v := 2) hx hb dX12_init_1088 (by decide) ?_
  refine lv_bipush (v := 115) hx hb dX12_init_1089 (by decide) ?_
  refine va_cast hx hb hK hP hD hS 7 1 rfl rfl (z_in (by decide) (by decide)) dX12_init_1091 (fun H locs hP hD hS => ?_)
  generalize hf_242 : upd _ _ _ = f_242 at hP hD
  have hP : va_P D vwCl [(h0, .inr (12, fs)), (q_1, .inl (D.1 13, 1600, .inl (fun _ => 0))), (q_4, .inl (D.1 13, 6, .inl (fun _ => 0))), (q_179, .inl (D.1 13, 10, .inl (fun _ => 0))), (q_185, .inl (D.1 13, 6, .inl f_191)), (q_197, .inl (D.1 13, 906, .inl (fun _ => 0))), (q_225, .inl (D.1 13, 48, .inl (fun _ => 0))), (q_239, .inl (D.1 14, 4, .inl f_242))] H := hP
  have hD : va_D A [(h0, .inr (12, fs)), (q_1, .inl (D.1 13, 1600, .inl (fun _ => 0))), (q_4, .inl (D.1 13, 6, .inl (fun _ => 0))), (q_179, .inl (D.1 13, 10, .inl (fun _ => 0))), (q_185, .inl (D.1 13, 6, .inl f_191)), (q_197, .inl (D.1 13, 906, .inl (fun _ => 0))), (q_225, .inl (D.1 13, 48, .inl (fun _ => 0))), (q_239, .inl (D.1 14, 4, .inl f_242))] := hD
  refine lv_dup hx hb dX12_init_1092 rfl ?_
  refine lv_iconst (v := 3) hx hb dX12_init_1093 (by decide) ?_
  refine lv_bipush (v := 116) hx hb dX12_init_1094 (by decide) ?_
  refine va_cast hx hb hK hP hD hS 7 1 rfl rfl (z_in (by decide) (by decide)) dX12_init_1096 (fun H locs hP hD hS => ?_)
  generalize hf_243 : upd _ _ _ = f_243 at hP hD
  have hP : va_P D vwCl [(h0, .inr (12, fs)), (q_1, .inl (D.1 13, 1600, .inl (fun _ => 0))), (q_4, .inl (D.1 13, 6, .inl (fun _ => 0))), (q_179, .inl (D.1 13, 10, .inl (fun _ => 0))), (q_185, .inl (D.1 13, 6, .inl f_191)), (q_197, .inl (D.1 13, 906, .inl (fun _ => 0))), (q_225, .inl (D.1 13, 48, .inl (fun _ => 0))), (q_239, .inl (D.1 14, 4, .inl f_243))] H := hP
  have hD : va_D A [(h0, .inr (12, fs)), (q_1, .inl (D.1 13, 1600, .inl (fun _ => 0))), (q_4, .inl (D.1 13, 6, .inl (fun _ => 0))), (q_179, .inl (D.1 13, 10, .inl (fun _ => 0))), (q_185, .inl (D.1 13, 6, .inl f_191)), (q_197, .inl (D.1 13, 906, .inl (fun _ => 0))), (q_225, .inl (D.1 13, 48, .inl (fun _ => 0))), (q_239, .inl (D.1 14, 4, .inl f_243))] := hD
  refine va_putF (D := D) (ci := 12) (v := .ref q_239) (ty := .array .char) (C := RX12) (T := TX12) (N := 116) hx hb ht inX12 tyX12 tyX12_ok nmX12 hown hK hP hD hS 0 rfl rfl 80 (by decide) (ht (.fieldLink RX12 180 "CloneVolumesModel" "lastAsked" "[C") fl_X12_180) (fun _ h9 => h9) rfl hin rfl (by decide +kernel) rfl rfl (by rw [hlen]; decide) dX12_init_1097 (fun H locs hP hD hS => ?_)
  have hP : va_P D vwCl [(h0, .inr (12, (fs.set 80 (.ref q_239)))), (q_1, .inl (D.1 13, 1600, .inl (fun _ => 0))), (q_4, .inl (D.1 13, 6, .inl (fun _ => 0))), (q_179, .inl (D.1 13, 10, .inl (fun _ => 0))), (q_185, .inl (D.1 13, 6, .inl f_191)), (q_197, .inl (D.1 13, 906, .inl (fun _ => 0))), (q_225, .inl (D.1 13, 48, .inl (fun _ => 0))), (q_239, .inl (D.1 14, 4, .inl f_243))] H := hP
  have hD : va_D A [(h0, .inr (12, (fs.set 80 (.ref q_239)))), (q_1, .inl (D.1 13, 1600, .inl (fun _ => 0))), (q_4, .inl (D.1 13, 6, .inl (fun _ => 0))), (q_179, .inl (D.1 13, 10, .inl (fun _ => 0))), (q_185, .inl (D.1 13, 6, .inl f_191)), (q_197, .inl (D.1 13, 906, .inl (fun _ => 0))), (q_225, .inl (D.1 13, 48, .inl (fun _ => 0))), (q_239, .inl (D.1 14, 4, .inl f_243))] := hD
  generalize hfs_244 : fs.set 80 (.ref q_239) = fs_244 at hP hD
  have hlen : fs_244.length = 116 := by rw [← hfs_244, List.length_set]; exact hlen
  have hP : va_P D vwCl [(h0, .inr (12, fs_244)), (q_1, .inl (D.1 13, 1600, .inl (fun _ => 0))), (q_4, .inl (D.1 13, 6, .inl (fun _ => 0))), (q_179, .inl (D.1 13, 10, .inl (fun _ => 0))), (q_185, .inl (D.1 13, 6, .inl f_191)), (q_197, .inl (D.1 13, 906, .inl (fun _ => 0))), (q_225, .inl (D.1 13, 48, .inl (fun _ => 0))), (q_239, .inl (D.1 14, 4, .inl f_243))] H := hP
  have hD : va_D A [(h0, .inr (12, fs_244)), (q_1, .inl (D.1 13, 1600, .inl (fun _ => 0))), (q_4, .inl (D.1 13, 6, .inl (fun _ => 0))), (q_179, .inl (D.1 13, 10, .inl (fun _ => 0))), (q_185, .inl (D.1 13, 6, .inl f_191)), (q_197, .inl (D.1 13, 906, .inl (fun _ => 0))), (q_225, .inl (D.1 13, 48, .inl (fun _ => 0))), (q_239, .inl (D.1 14, 4, .inl f_243))] := hD
  have hP := hP.sub (ws' := [(h0, .inr (12, fs_244)), (q_1, .inl (D.1 13, 1600, .inl (fun _ => 0))), (q_4, .inl (D.1 13, 6, .inl (fun _ => 0))), (q_179, .inl (D.1 13, 10, .inl (fun _ => 0))), (q_185, .inl (D.1 13, 6, .inl f_191)), (q_197, .inl (D.1 13, 906, .inl (fun _ => 0))), (q_225, .inl (D.1 13, 48, .inl (fun _ => 0)))]) [0, 1, 2, 3, 4, 5, 6] rfl
  have hD := hD.sub (ws' := [(h0, .inr (12, fs_244)), (q_1, .inl (D.1 13, 1600, .inl (fun _ => 0))), (q_4, .inl (D.1 13, 6, .inl (fun _ => 0))), (q_179, .inl (D.1 13, 10, .inl (fun _ => 0))), (q_185, .inl (D.1 13, 6, .inl f_191)), (q_197, .inl (D.1 13, 906, .inl (fun _ => 0))), (q_225, .inl (D.1 13, 48, .inl (fun _ => 0)))]) [0, 1, 2, 3, 4, 5, 6] (by decide) rfl
  refine lv_aload_n hx hb dX12_init_1100 rfl (lv_at hl 0 rfl) ?_
  refine lv_iconst (v := 5) hx hb dX12_init_1101 (by decide) ?_
  refine va_newa (atype := .char) (a0 := (5, .inl (fun _ => 0))) (ty := .char) (N' := 5) hx hb (ht _ ac_char) rfl hK hP hD hS hA (fun _ => rfl) (by decide) (by decide) (by decide) (Nat.le_trans (Nat.le_of_ble_eq_true rfl) hRc) (Nat.le_trans (Nat.le_of_ble_eq_true rfl) hRs) dX12_init_1102 (fun q_245 cA H hK2 hP hD hS => ?_)
  obtain rfl := z_cls_char hK hK2
  refine W.widen (k := 55) (n := 27673) (Nat.le_of_ble_eq_true rfl) (Nat.le_of_ble_eq_true rfl) ?_
  have hP : va_P D vwCl [(h0, .inr (12, fs_244)), (q_1, .inl (D.1 13, 1600, .inl (fun _ => 0))), (q_4, .inl (D.1 13, 6, .inl (fun _ => 0))), (q_179, .inl (D.1 13, 10, .inl (fun _ => 0))), (q_185, .inl (D.1 13, 6, .inl f_191)), (q_197, .inl (D.1 13, 906, .inl (fun _ => 0))), (q_225, .inl (D.1 13, 48, .inl (fun _ => 0))), (q_245, .inl (D.1 14, 5, .inl (fun _ => 0)))] H := hP
  have hD : va_D A [(h0, .inr (12, fs_244)), (q_1, .inl (D.1 13, 1600, .inl (fun _ => 0))), (q_4, .inl (D.1 13, 6, .inl (fun _ => 0))), (q_179, .inl (D.1 13, 10, .inl (fun _ => 0))), (q_185, .inl (D.1 13, 6, .inl f_191)), (q_197, .inl (D.1 13, 906, .inl (fun _ => 0))), (q_225, .inl (D.1 13, 48, .inl (fun _ => 0))), (q_245, .inl (D.1 14, 5, .inl (fun _ => 0)))] := hD
  refine lv_dup hx hb dX12_init_1104 rfl ?_
  refine lv_iconst (v := 0) hx hb dX12_init_1105 (by decide) ?_
  refine lv_bipush (v := 111) hx hb dX12_init_1106 (by decide) ?_
  refine va_cast hx hb hK hP hD hS 7 1 rfl rfl (z_in (by decide) (by decide)) dX12_init_1108 (fun H locs hP hD hS => ?_)
  generalize hf_246 : upd _ _ _ = f_246 at hP hD
  have hP : va_P D vwCl [(h0, .inr (12, fs_244)), (q_1, .inl (D.1 13, 1600, .inl (fun _ => 0))), (q_4, .inl (D.1 13, 6, .inl (fun _ => 0))), (q_179, .inl (D.1 13, 10, .inl (fun _ => 0))), (q_185, .inl (D.1 13, 6, .inl f_191)), (q_197, .inl (D.1 13, 906, .inl (fun _ => 0))), (q_225, .inl (D.1 13, 48, .inl (fun _ => 0))), (q_245, .inl (D.1 14, 5, .inl f_246))] H := hP
  have hD : va_D A [(h0, .inr (12, fs_244)), (q_1, .inl (D.1 13, 1600, .inl (fun _ => 0))), (q_4, .inl (D.1 13, 6, .inl (fun _ => 0))), (q_179, .inl (D.1 13, 10, .inl (fun _ => 0))), (q_185, .inl (D.1 13, 6, .inl f_191)), (q_197, .inl (D.1 13, 906, .inl (fun _ => 0))), (q_225, .inl (D.1 13, 48, .inl (fun _ => 0))), (q_245, .inl (D.1 14, 5, .inl f_246))] := hD
  refine lv_dup hx hb dX12_init_1109 rfl ?_
  refine lv_iconst (v := 1) hx hb dX12_init_1110 (by decide) ?_
  refine lv_bipush (v := 102) hx hb dX12_init_1111 (by decide) ?_
  refine va_cast hx hb hK hP hD hS 7 1 rfl rfl (z_in (by decide) (by decide)) dX12_init_1113 (fun H locs hP hD hS => ?_)
  generalize hf_247 : upd _ _ _ = f_247 at hP hD
  have hP : va_P D vwCl [(h0, .inr (12, fs_244)), (q_1, .inl (D.1 13, 1600, .inl (fun _ => 0))), (q_4, .inl (D.1 13, 6, .inl (fun _ => 0))), (q_179, .inl (D.1 13, 10, .inl (fun _ => 0))), (q_185, .inl (D.1 13, 6, .inl f_191)), (q_197, .inl (D.1 13, 906, .inl (fun _ => 0))), (q_225, .inl (D.1 13, 48, .inl (fun _ => 0))), (q_245, .inl (D.1 14, 5, .inl f_247))] H := hP
  have hD : va_D A [(h0, .inr (12, fs_244)), (q_1, .inl (D.1 13, 1600, .inl (fun _ => 0))), (q_4, .inl (D.1 13, 6, .inl (fun _ => 0))), (q_179, .inl (D.1 13, 10, .inl (fun _ => 0))), (q_185, .inl (D.1 13, 6, .inl f_191)), (q_197, .inl (D.1 13, 906, .inl (fun _ => 0))), (q_225, .inl (D.1 13, 48, .inl (fun _ => 0))), (q_245, .inl (D.1 14, 5, .inl f_247))] := hD
  refine lv_dup hx hb dX12_init_1114 rfl ?_
  refine lv_iconst (v := 2) hx hb dX12_init_1115 (by decide) ?_
  refine lv_bipush (v := 116) hx hb dX12_init_1116 (by decide) ?_
  refine va_cast hx hb hK hP hD hS 7 1 rfl rfl (z_in (by decide) (by decide)) dX12_init_1118 (fun H locs hP hD hS => ?_)
  generalize hf_248 : upd _ _ _ = f_248 at hP hD
  have hP : va_P D vwCl [(h0, .inr (12, fs_244)), (q_1, .inl (D.1 13, 1600, .inl (fun _ => 0))), (q_4, .inl (D.1 13, 6, .inl (fun _ => 0))), (q_179, .inl (D.1 13, 10, .inl (fun _ => 0))), (q_185, .inl (D.1 13, 6, .inl f_191)), (q_197, .inl (D.1 13, 906, .inl (fun _ => 0))), (q_225, .inl (D.1 13, 48, .inl (fun _ => 0))), (q_245, .inl (D.1 14, 5, .inl f_248))] H := hP
  have hD : va_D A [(h0, .inr (12, fs_244)), (q_1, .inl (D.1 13, 1600, .inl (fun _ => 0))), (q_4, .inl (D.1 13, 6, .inl (fun _ => 0))), (q_179, .inl (D.1 13, 10, .inl (fun _ => 0))), (q_185, .inl (D.1 13, 6, .inl f_191)), (q_197, .inl (D.1 13, 906, .inl (fun _ => 0))), (q_225, .inl (D.1 13, 48, .inl (fun _ => 0))), (q_245, .inl (D.1 14, 5, .inl f_248))] := hD
  refine lv_dup hx hb dX12_init_1119 rfl ?_
  refine lv_iconst (v := 3) hx hb dX12_init_1120 (by decide) ?_
  refine lv_bipush (v := 101) hx hb dX12_init_1121 (by decide) ?_
  refine va_cast hx hb hK hP hD hS 7 1 rfl rfl (z_in (by decide) (by decide)) dX12_init_1123 (fun H locs hP hD hS => ?_)
  generalize hf_249 : upd _ _ _ = f_249 at hP hD
  have hP : va_P D vwCl [(h0, .inr (12, fs_244)), (q_1, .inl (D.1 13, 1600, .inl (fun _ => 0))), (q_4, .inl (D.1 13, 6, .inl (fun _ => 0))), (q_179, .inl (D.1 13, 10, .inl (fun _ => 0))), (q_185, .inl (D.1 13, 6, .inl f_191)), (q_197, .inl (D.1 13, 906, .inl (fun _ => 0))), (q_225, .inl (D.1 13, 48, .inl (fun _ => 0))), (q_245, .inl (D.1 14, 5, .inl f_249))] H := hP
  have hD : va_D A [(h0, .inr (12, fs_244)), (q_1, .inl (D.1 13, 1600, .inl (fun _ => 0))), (q_4, .inl (D.1 13, 6, .inl (fun _ => 0))), (q_179, .inl (D.1 13, 10, .inl (fun _ => 0))), (q_185, .inl (D.1 13, 6, .inl f_191)), (q_197, .inl (D.1 13, 906, .inl (fun _ => 0))), (q_225, .inl (D.1 13, 48, .inl (fun _ => 0))), (q_245, .inl (D.1 14, 5, .inl f_249))] := hD
  refine lv_dup hx hb dX12_init_1124 rfl ?_
  refine lv_iconst (v := 4) hx hb dX12_init_1125 (by decide) ?_
  refine lv_bipush (v := 110) hx hb dX12_init_1126 (by decide) ?_
  refine va_cast hx hb hK hP hD hS 7 1 rfl rfl (z_in (by decide) (by decide)) dX12_init_1128 (fun H locs hP hD hS => ?_)
  generalize hf_250 : upd _ _ _ = f_250 at hP hD
  have hP : va_P D vwCl [(h0, .inr (12, fs_244)), (q_1, .inl (D.1 13, 1600, .inl (fun _ => 0))), (q_4, .inl (D.1 13, 6, .inl (fun _ => 0))), (q_179, .inl (D.1 13, 10, .inl (fun _ => 0))), (q_185, .inl (D.1 13, 6, .inl f_191)), (q_197, .inl (D.1 13, 906, .inl (fun _ => 0))), (q_225, .inl (D.1 13, 48, .inl (fun _ => 0))), (q_245, .inl (D.1 14, 5, .inl f_250))] H := hP
  have hD : va_D A [(h0, .inr (12, fs_244)), (q_1, .inl (D.1 13, 1600, .inl (fun _ => 0))), (q_4, .inl (D.1 13, 6, .inl (fun _ => 0))), (q_179, .inl (D.1 13, 10, .inl (fun _ => 0))), (q_185, .inl (D.1 13, 6, .inl f_191)), (q_197, .inl (D.1 13, 906, .inl (fun _ => 0))), (q_225, .inl (D.1 13, 48, .inl (fun _ => 0))), (q_245, .inl (D.1 14, 5, .inl f_250))] := hD
  refine va_putF (D := D) (ci := 12) (v := .ref q_245) (ty := .array .char) (C := RX12) (T := TX12) (N := 116) hx hb ht inX12 tyX12 tyX12_ok nmX12 hown hK hP hD hS 0 rfl rfl 81 (by decide) (ht (.fieldLink RX12 183 "CloneVolumesModel" "oftenAsked" "[C") fl_X12_183) (fun _ h9 => h9) rfl hin rfl (by decide +kernel) rfl rfl (by rw [hlen]; decide) dX12_init_1129 (fun H locs hP hD hS => ?_)
  have hP : va_P D vwCl [(h0, .inr (12, (fs_244.set 81 (.ref q_245)))), (q_1, .inl (D.1 13, 1600, .inl (fun _ => 0))), (q_4, .inl (D.1 13, 6, .inl (fun _ => 0))), (q_179, .inl (D.1 13, 10, .inl (fun _ => 0))), (q_185, .inl (D.1 13, 6, .inl f_191)), (q_197, .inl (D.1 13, 906, .inl (fun _ => 0))), (q_225, .inl (D.1 13, 48, .inl (fun _ => 0))), (q_245, .inl (D.1 14, 5, .inl f_250))] H := hP
  have hD : va_D A [(h0, .inr (12, (fs_244.set 81 (.ref q_245)))), (q_1, .inl (D.1 13, 1600, .inl (fun _ => 0))), (q_4, .inl (D.1 13, 6, .inl (fun _ => 0))), (q_179, .inl (D.1 13, 10, .inl (fun _ => 0))), (q_185, .inl (D.1 13, 6, .inl f_191)), (q_197, .inl (D.1 13, 906, .inl (fun _ => 0))), (q_225, .inl (D.1 13, 48, .inl (fun _ => 0))), (q_245, .inl (D.1 14, 5, .inl f_250))] := hD
  generalize hfs_251 : fs_244.set 81 (.ref q_245) = fs_251 at hP hD
  have hlen : fs_251.length = 116 := by rw [← hfs_251, List.length_set]; exact hlen
  have hP : va_P D vwCl [(h0, .inr (12, fs_251)), (q_1, .inl (D.1 13, 1600, .inl (fun _ => 0))), (q_4, .inl (D.1 13, 6, .inl (fun _ => 0))), (q_179, .inl (D.1 13, 10, .inl (fun _ => 0))), (q_185, .inl (D.1 13, 6, .inl f_191)), (q_197, .inl (D.1 13, 906, .inl (fun _ => 0))), (q_225, .inl (D.1 13, 48, .inl (fun _ => 0))), (q_245, .inl (D.1 14, 5, .inl f_250))] H := hP
  have hD : va_D A [(h0, .inr (12, fs_251)), (q_1, .inl (D.1 13, 1600, .inl (fun _ => 0))), (q_4, .inl (D.1 13, 6, .inl (fun _ => 0))), (q_179, .inl (D.1 13, 10, .inl (fun _ => 0))), (q_185, .inl (D.1 13, 6, .inl f_191)), (q_197, .inl (D.1 13, 906, .inl (fun _ => 0))), (q_225, .inl (D.1 13, 48, .inl (fun _ => 0))), (q_245, .inl (D.1 14, 5, .inl f_250))] := hD
  have hP := hP.sub (ws' := [(h0, .inr (12, fs_251)), (q_1, .inl (D.1 13, 1600, .inl (fun _ => 0))), (q_4, .inl (D.1 13, 6, .inl (fun _ => 0))), (q_179, .inl (D.1 13, 10, .inl (fun _ => 0))), (q_185, .inl (D.1 13, 6, .inl f_191)), (q_197, .inl (D.1 13, 906, .inl (fun _ => 0))), (q_225, .inl (D.1 13, 48, .inl (fun _ => 0)))]) [0, 1, 2, 3, 4, 5, 6] rfl
  have hD := hD.sub (ws' := [(h0, .inr (12, fs_251)), (q_1, .inl (D.1 13, 1600, .inl (fun _ => 0))), (q_4, .inl (D.1 13, 6, .inl (fun _ => 0))), (q_179, .inl (D.1 13, 10, .inl (fun _ => 0))), (q_185, .inl (D.1 13, 6, .inl f_191)), (q_197, .inl (D.1 13, 906, .inl (fun _ => 0))), (q_225, .inl (D.1 13, 48, .inl (fun _ => 0)))]) [0, 1, 2, 3, 4, 5, 6] (by decide) rfl
  refine lv_aload_n hx hb dX12_init_1132 rfl (lv_at hl 0 rfl) ?_
  refine lv_iconst (v := 5) hx hb dX12_init_1133 (by decide) ?_
  refine va_newa (atype := .char) (a0 := (5, .inl (fun _ => 0))) (ty := .char) (N' := 5) hx hb (ht _ ac_char) rfl hK hP hD hS hA (fun _ => rfl) (by decide) (by decide) (by decide) (Nat.le_trans (Nat.le_of_ble_eq_true rfl) hRc) (Nat.le_trans (Nat.le_of_ble_eq_true rfl) hRs) dX12_init_1134 (fun q_252 cA H hK2 hP hD hS => ?_)
  obtain rfl := z_cls_char hK hK2
  refine W.widen (k := 56) (n := 27678) (Nat.le_of_ble_eq_true rfl) (Nat.le_of_ble_eq_true rfl) ?_
  have hP : va_P D vwCl [(h0, .inr (12, fs_251)), (q_1, .inl (D.1 13, 1600, .inl (fun _ => 0))), (q_4, .inl (D.1 13, 6, .inl (fun _ => 0))), (q_179, .inl (D.1 13, 10, .inl (fun _ => 0))), (q_185, .inl (D.1 13, 6, .inl f_191)), (q_197, .inl (D.1 13, 906, .inl (fun _ => 0))), (q_225, .inl (D.1 13, 48, .inl (fun _ => 0))), (q_252, .inl (D.1 14, 5, .inl (fun _ => 0)))] H := hP
  have hD : va_D A [(h0, .inr (12, fs_251)), (q_1, .inl (D.1 13, 1600, .inl (fun _ => 0))), (q_4, .inl (D.1 13, 6, .inl (fun _ => 0))), (q_179, .inl (D.1 13, 10, .inl (fun _ => 0))), (q_185, .inl (D.1 13, 6, .inl f_191)), (q_197, .inl (D.1 13, 906, .inl (fun _ => 0))), (q_225, .inl (D.1 13, 48, .inl (fun _ => 0))), (q_252, .inl (D.1 14, 5, .inl (fun _ => 0)))] := hD
  refine lv_dup hx hb dX12_init_1136 rfl ?_
  refine lv_iconst (v := 0) hx hb dX12_init_1137 (by decide) ?_
  refine lv_bipush (v := 116) hx hb dX12_init_1138 (by decide) ?_
  refine va_cast hx hb hK hP hD hS 7 1 rfl rfl (z_in (by decide) (by decide)) dX12_init_1140 (fun H locs hP hD hS => ?_)
  generalize hf_253 : upd _ _ _ = f_253 at hP hD
  have hP : va_P D vwCl [(h0, .inr (12, fs_251)), (q_1, .inl (D.1 13, 1600, .inl (fun _ => 0))), (q_4, .inl (D.1 13, 6, .inl (fun _ => 0))), (q_179, .inl (D.1 13, 10, .inl (fun _ => 0))), (q_185, .inl (D.1 13, 6, .inl f_191)), (q_197, .inl (D.1 13, 906, .inl (fun _ => 0))), (q_225, .inl (D.1 13, 48, .inl (fun _ => 0))), (q_252, .inl (D.1 14, 5, .inl f_253))] H := hP
  have hD : va_D A [(h0, .inr (12, fs_251)), (q_1, .inl (D.1 13, 1600, .inl (fun _ => 0))), (q_4, .inl (D.1 13, 6, .inl (fun _ => 0))), (q_179, .inl (D.1 13, 10, .inl (fun _ => 0))), (q_185, .inl (D.1 13, 6, .inl f_191)), (q_197, .inl (D.1 13, 906, .inl (fun _ => 0))), (q_225, .inl (D.1 13, 48, .inl (fun _ => 0))), (q_252, .inl (D.1 14, 5, .inl f_253))] := hD
  refine lv_dup hx hb dX12_init_1141 rfl ?_
  refine lv_iconst (v := 1) hx hb dX12_init_1142 (by decide) ?_
  refine lv_bipush (v := 111) hx hb dX12_init_1143 (by decide) ?_
  refine va_cast hx hb hK hP hD hS 7 1 rfl rfl (z_in (by decide) (by decide)) dX12_init_1145 (fun H locs hP hD hS => ?_)
  generalize hf_254 : upd _ _ _ = f_254 at hP hD
  have hP : va_P D vwCl [(h0, .inr (12, fs_251)), (q_1, .inl (D.1 13, 1600, .inl (fun _ => 0))), (q_4, .inl (D.1 13, 6, .inl (fun _ => 0))), (q_179, .inl (D.1 13, 10, .inl (fun _ => 0))), (q_185, .inl (D.1 13, 6, .inl f_191)), (q_197, .inl (D.1 13, 906, .inl (fun _ => 0))), (q_225, .inl (D.1 13, 48, .inl (fun _ => 0))), (q_252, .inl (D.1 14, 5, .inl f_254))] H := hP
  have hD : va_D A [(h0, .inr (12, fs_251)), (q_1, .inl (D.1 13, 1600, .inl (fun _ => 0))), (q_4, .inl (D.1 13, 6, .inl (fun _ => 0))), (q_179, .inl (D.1 13, 10, .inl (fun _ => 0))), (q_185, .inl (D.1 13, 6, .inl f_191)), (q_197, .inl (D.1 13, 906, .inl (fun _ => 0))), (q_225, .inl (D.1 13, 48, .inl (fun _ => 0))), (q_252, .inl (D.1 14, 5, .inl f_254))] := hD
  refine lv_dup hx hb dX12_init_1146 rfl ?_
  refine lv_iconst (v := 2) hx hb dX12_init_1147 (by decide) ?_
  refine lv_bipush (v := 116) hx hb dX12_init_1148 (by decide) ?_
  refine va_cast hx hb hK hP hD hS 7 1 rfl rfl (z_in (by decide) (by decide)) dX12_init_1150 (fun H locs hP hD hS => ?_)
  generalize hf_255 : upd _ _ _ = f_255 at hP hD
  have hP : va_P D vwCl [(h0, .inr (12, fs_251)), (q_1, .inl (D.1 13, 1600, .inl (fun _ => 0))), (q_4, .inl (D.1 13, 6, .inl (fun _ => 0))), (q_179, .inl (D.1 13, 10, .inl (fun _ => 0))), (q_185, .inl (D.1 13, 6, .inl f_191)), (q_197, .inl (D.1 13, 906, .inl (fun _ => 0))), (q_225, .inl (D.1 13, 48, .inl (fun _ => 0))), (q_252, .inl (D.1 14, 5, .inl f_255))] H := hP
  have hD : va_D A [(h0, .inr (12, fs_251)), (q_1, .inl (D.1 13, 1600, .inl (fun _ => 0))), (q_4, .inl (D.1 13, 6, .inl (fun _ => 0))), (q_179, .inl (D.1 13, 10, .inl (fun _ => 0))), (q_185, .inl (D.1 13, 6, .inl f_191)), (q_197, .inl (D.1 13, 906, .inl (fun _ => 0))), (q_225, .inl (D.1 13, 48, .inl (fun _ => 0))), (q_252, .inl (D.1 14, 5, .inl f_255))] := hD
  refine lv_dup hx hb dX12_init_1151 rfl ?_
  refine lv_iconst (v := 3) hx hb dX12_init_1152 (by decide) ?_
  refine lv_bipush (v := 97) hx hb dX12_init_1153 (by decide) ?_
  refine va_cast hx hb hK hP hD hS 7 1 rfl rfl (z_in (by decide) (by decide)) dX12_init_1155 (fun H locs hP hD hS => ?_)
  generalize hf_256 : upd _ _ _ = f_256 at hP hD
  have hP : va_P D vwCl [(h0, .inr (12, fs_251)), (q_1, .inl (D.1 13, 1600, .inl (fun _ => 0))), (q_4, .inl (D.1 13, 6, .inl (fun _ => 0))), (q_179, .inl (D.1 13, 10, .inl (fun _ => 0))), (q_185, .inl (D.1 13, 6, .inl f_191)), (q_197, .inl (D.1 13, 906, .inl (fun _ => 0))), (q_225, .inl (D.1 13, 48, .inl (fun _ => 0))), (q_252, .inl (D.1 14, 5, .inl f_256))] H := hP
  have hD : va_D A [(h0, .inr (12, fs_251)), (q_1, .inl (D.1 13, 1600, .inl (fun _ => 0))), (q_4, .inl (D.1 13, 6, .inl (fun _ => 0))), (q_179, .inl (D.1 13, 10, .inl (fun _ => 0))), (q_185, .inl (D.1 13, 6, .inl f_191)), (q_197, .inl (D.1 13, 906, .inl (fun _ => 0))), (q_225, .inl (D.1 13, 48, .inl (fun _ => 0))), (q_252, .inl (D.1 14, 5, .inl f_256))] := hD
  refine lv_dup hx hb dX12_init_1156 rfl ?_
  refine lv_iconst (v := 4) hx hb dX12_init_1157 (by decide) ?_
  refine lv_bipush (v := 108) hx hb dX12_init_1158 (by decide) ?_
  refine va_cast hx hb hK hP hD hS 7 1 rfl rfl (z_in (by decide) (by decide)) dX12_init_1160 (fun H locs hP hD hS => ?_)
  generalize hf_257 : upd _ _ _ = f_257 at hP hD
  have hP : va_P D vwCl [(h0, .inr (12, fs_251)), (q_1, .inl (D.1 13, 1600, .inl (fun _ => 0))), (q_4, .inl (D.1 13, 6, .inl (fun _ => 0))), (q_179, .inl (D.1 13, 10, .inl (fun _ => 0))), (q_185, .inl (D.1 13, 6, .inl f_191)), (q_197, .inl (D.1 13, 906, .inl (fun _ => 0))), (q_225, .inl (D.1 13, 48, .inl (fun _ => 0))), (q_252, .inl (D.1 14, 5, .inl f_257))] H := hP
  have hD : va_D A [(h0, .inr (12, fs_251)), (q_1, .inl (D.1 13, 1600, .inl (fun _ => 0))), (q_4, .inl (D.1 13, 6, .inl (fun _ => 0))), (q_179, .inl (D.1 13, 10, .inl (fun _ => 0))), (q_185, .inl (D.1 13, 6, .inl f_191)), (q_197, .inl (D.1 13, 906, .inl (fun _ => 0))), (q_225, .inl (D.1 13, 48, .inl (fun _ => 0))), (q_252, .inl (D.1 14, 5, .inl f_257))] := hD
  refine va_putF (D := D) (ci := 12) (v := .ref q_252) (ty := .array .char) (C := RX12) (T := TX12) (N := 116) hx hb ht inX12 tyX12 tyX12_ok nmX12 hown hK hP hD hS 0 rfl rfl 82 (by decide) (ht (.fieldLink RX12 186 "CloneVolumesModel" "totalAsked" "[C") fl_X12_186) (fun _ h9 => h9) rfl hin rfl (by decide +kernel) rfl rfl (by rw [hlen]; decide) dX12_init_1161 (fun H locs hP hD hS => ?_)
  have hP : va_P D vwCl [(h0, .inr (12, (fs_251.set 82 (.ref q_252)))), (q_1, .inl (D.1 13, 1600, .inl (fun _ => 0))), (q_4, .inl (D.1 13, 6, .inl (fun _ => 0))), (q_179, .inl (D.1 13, 10, .inl (fun _ => 0))), (q_185, .inl (D.1 13, 6, .inl f_191)), (q_197, .inl (D.1 13, 906, .inl (fun _ => 0))), (q_225, .inl (D.1 13, 48, .inl (fun _ => 0))), (q_252, .inl (D.1 14, 5, .inl f_257))] H := hP
  have hD : va_D A [(h0, .inr (12, (fs_251.set 82 (.ref q_252)))), (q_1, .inl (D.1 13, 1600, .inl (fun _ => 0))), (q_4, .inl (D.1 13, 6, .inl (fun _ => 0))), (q_179, .inl (D.1 13, 10, .inl (fun _ => 0))), (q_185, .inl (D.1 13, 6, .inl f_191)), (q_197, .inl (D.1 13, 906, .inl (fun _ => 0))), (q_225, .inl (D.1 13, 48, .inl (fun _ => 0))), (q_252, .inl (D.1 14, 5, .inl f_257))] := hD
  generalize hfs_258 : fs_251.set 82 (.ref q_252) = fs_258 at hP hD
  have hlen : fs_258.length = 116 := by rw [← hfs_258, List.length_set]; exact hlen
  have hP : va_P D vwCl [(h0, .inr (12, fs_258)), (q_1, .inl (D.1 13, 1600, .inl (fun _ => 0))), (q_4, .inl (D.1 13, 6, .inl (fun _ => 0))), (q_179, .inl (D.1 13, 10, .inl (fun _ => 0))), (q_185, .inl (D.1 13, 6, .inl f_191)), (q_197, .inl (D.1 13, 906, .inl (fun _ => 0))), (q_225, .inl (D.1 13, 48, .inl (fun _ => 0))), (q_252, .inl (D.1 14, 5, .inl f_257))] H := hP
  have hD : va_D A [(h0, .inr (12, fs_258)), (q_1, .inl (D.1 13, 1600, .inl (fun _ => 0))), (q_4, .inl (D.1 13, 6, .inl (fun _ => 0))), (q_179, .inl (D.1 13, 10, .inl (fun _ => 0))), (q_185, .inl (D.1 13, 6, .inl f_191)), (q_197, .inl (D.1 13, 906, .inl (fun _ => 0))), (q_225, .inl (D.1 13, 48, .inl (fun _ => 0))), (q_252, .inl (D.1 14, 5, .inl f_257))] := hD
  have hP := hP.sub (ws' := [(h0, .inr (12, fs_258)), (q_1, .inl (D.1 13, 1600, .inl (fun _ => 0))), (q_4, .inl (D.1 13, 6, .inl (fun _ => 0))), (q_179, .inl (D.1 13, 10, .inl (fun _ => 0))), (q_185, .inl (D.1 13, 6, .inl f_191)), (q_197, .inl (D.1 13, 906, .inl (fun _ => 0))), (q_225, .inl (D.1 13, 48, .inl (fun _ => 0)))]) [0, 1, 2, 3, 4, 5, 6] rfl
  have hD := hD.sub (ws' := [(h0, .inr (12, fs_258)), (q_1, .inl (D.1 13, 1600, .inl (fun _ => 0))), (q_4, .inl (D.1 13, 6, .inl (fun _ => 0))), (q_179, .inl (D.1 13, 10, .inl (fun _ => 0))), (q_185, .inl (D.1 13, 6, .inl f_191)), (q_197, .inl (D.1 13, 906, .inl (fun _ => 0))), (q_225, .inl (D.1 13, 48, .inl (fun _ => 0)))]) [0, 1, 2, 3, 4, 5, 6] (by decide) rfl
  exact kk q_239 q_245 q_252 fs_258 _ _ (by rw [← hfs_258, ← hfs_251, ← hfs_244]) hP hD hS
set_option maxHeartbeats 4000000 in
set_option maxRecDepth 100000 in
theorem cM_15 {h0 : Nat} {q_1 : Nat} {q_4 : Nat} {q_179 : Nat} {q_185 : Nat} {q_197 : Nat} {q_225 : Nat} {f_191 : Nat → Int32} (hx : p.tables.exec = Jvm.exec) (hb : c.code = cX12_init) (ht : ∀ w ∈ lw_gd, w.before args s = true) (hown : s.vm.findClass RX12 = some m.cls) (hin : meth.name = "<init>") (hK : va_K D vwCl (TY D) s) (hA : ∀ q : Nat, s.heap.size ≤ q → A q) (hRc : 80 ≤ R.cells) (hRs : 35050 ≤ R.slots) (hl : lv_has ls 1 [(0, .ref h0)]) {fs : List Value} (hlen : fs.length = 116) {H : Heap} {locs : List Loc} (hP : va_P D vwCl [(h0, .inr (12, fs)), (q_1, .inl (D.1 13, 1600, .inl (fun _ => 0))), (q_4, .inl (D.1 13, 6, .inl (fun _ => 0))), (q_179, .inl (D.1 13, 10, .inl (fun _ => 0))), (q_185, .inl (D.1 13, 6, .inl f_191)), (q_197, .inl (D.1 13, 906, .inl (fun _ => 0))), (q_225, .inl (D.1 13, 48, .inl (fun _ => 0)))] H) (hD : va_D A [(h0, .inr (12, fs)), (q_1, .inl (D.1 13, 1600, .inl (fun _ => 0))), (q_4, .inl (D.1 13, 6, .inl (fun _ => 0))), (q_179, .inl (D.1 13, 10, .inl (fun _ => 0))), (q_185, .inl (D.1 13, 6, .inl f_191)), (q_197, .inl (D.1 13, 906, .inl (fun _ => 0))), (q_225, .inl (D.1 13, 48, .inl (fun _ => 0)))]) (hS : va_S A s.heap H locs)
    (kk : ∀ (q_259 : Nat) (q_265 : Nat) (q_272 : Nat) (fs' : List Value) (H : Heap) (locs : List Loc), fs' = (((fs.set 83 (.ref q_259)).set 84 (.ref q_265)).set 85 (.ref q_272)) → va_P D vwCl [(h0, .inr (12, fs')), (q_1, .inl (D.1 13, 1600, .inl (fun _ => 0))), (q_4, .inl (D.1 13, 6, .inl (fun _ => 0))), (q_179, .inl (D.1 13, 10, .inl (fun _ => 0))), (q_185, .inl (D.1 13, 6, .inl f_191)), (q_197, .inl (D.1 13, 906, .inl (fun _ => 0))), (q_225, .inl (D.1 13, 48, .inl (fun _ => 0)))] H → va_D A [(h0, .inr (12, fs')), (q_1, .inl (D.1 13, 1600, .inl (fun _ => 0))), (q_4, .inl (D.1 13, 6, .inl (fun _ => 0))), (q_179, .inl (D.1 13, 10, .inl (fun _ => 0))), (q_185, .inl (D.1 13, 6, .inl f_191)), (q_197, .inl (D.1 13, 906, .inl (fun _ => 0))), (q_225, .inl (D.1 13, 48, .inl (fun _ => 0)))] → va_S A s.heap H locs → W p l e R s m args below meth c H locs 59 27690 Q (F0 m 1245 ls [])) : W p l e R s m args below meth c H locs 56 27678 Q (F0 m 1164 ls []) := by
  refine lv_aload_n hx hb dX12_init_1164 rfl (lv_at hl 0 rfl) ?_
  refine lv_iconst (v := 4) hx hb dX12_init_1165 (by decide) ?_
  refine va_newa (atype := .char) (a0 := (4, .inl (fun _ => 0))) (ty := .char) (N' := 4) hx hb (ht _ ac_char) rfl hK hP hD hS hA (fun _ => rfl) (by decide) (by decide) (by decide) (Nat.le_trans (Nat.le_of_ble_eq_true rfl) hRc) (Nat.le_trans (Nat.le_of_ble_eq_true rfl) hRs) dX12_init_1166 (fun q_259 cA H hK2 hP hD hS => ?_)
  obtain rfl := z_cls_char hK hK2
  refine W.widen (k := 57) (n := 27682) (Nat.le_of_ble_eq_true rfl) (Nat.le_of_ble_eq_true rfl) ?_
  have hP : va_P D vwCl [(h0, .inr (12, fs)), (q_1, .inl (D.1 13, 1600, .inl (fun _ => 0))), (q_4, .inl (D.1 13, 6, .inl (fun _ => 0))), (q_179, .inl (D.1 13, 10, .inl (fun _ => 0))), (q_185, .inl (D.1 13, 6, .inl f_191)), (q_197, .inl (D.1 13, 906, .inl (fun _ => 0))), (q_225, .inl (D.1 13, 48, .inl (fun _ => 0))), (q_259, .inl (D.1 14, 4, .inl (fun _ => 0)))] H := hP
  have hD : va_D A [(h0, .inr (12, fs)), (q_1, .inl (D.1 13, 1600, .inl (fun _ => 0))), (q_4, .inl (D.1 13, 6, .inl (fun _ => 0))), (q_179, .inl (D.1 13, 10, .inl (fun _ => 0))), (q_185, .inl (D.1 13, 6, .inl f_191)), (q_197, .inl (D.1 13, 906, .inl (fun _ => 0))), (q_225, .inl (D.1 13, 48, .inl (fun _ => 0))), (q_259, .inl (D.1 14, 4, .inl (fun _ => 0)))] := hD
  refine lv_dup hx hb dX12_init_1168 rfl ?_
  refine lv_iconst (v := 0) hx hb dX12_init_1169 (by decide) ?_
  refine lv_bipush (v := 109) hx hb dX12_init_1170 (by decide) ?_
  refine va_cast hx hb hK hP hD hS 7 1 rfl rfl (z_in (by decide) (by decide)) dX12_init_1172 (fun H locs hP hD hS => ?_)
  generalize hf_260 : upd _ _ _ = f_260 at hP hD
  have hP : va_P D vwCl [(h0, .inr (12, fs)), (q_1, .inl (D.1 13, 1600, .inl (fun _ => 0))), (q_4, .inl (D.1 13, 6, .inl (fun _ => 0))), (q_179, .inl (D.1 13, 10, .inl (fun _ => 0))), (q_185, .inl (D.1 13, 6, .inl f_191)), (q_197, .inl (D.1 13, 906, .inl (fun _ => 0))), (q_225, .inl (D.1 13, 48, .inl (fun _ => 0))), (q_259, .inl (D.1 14, 4, .inl f_260))] H := hP
  have hD : va_D A [(h0, .inr (12, fs)), (q_1, .inl (D.1 13, 1600, .inl (fun _ => 0))), (q_4, .inl (D.1 13, 6, .inl (fun _ => 0))), (q_179, .inl (D.1 13, 10, .inl (fun _ => 0))), (q_185, .inl (D.1 13, 6, .inl f_191)), (q_197, .inl (D.1 13, 906, .inl (fun _ => 0))), (q_225, .inl (D.1 13, 48, .inl (fun _ => 0))), (q_259, .inl (D.1 14, 4, .inl f_260))] := hD
  refine lv_dup hx hb dX12_init_1173 rfl ?_
  refine lv_iconst (v := 1) hx hb dX12_init_1174 (by decide) ?_
  refine lv_bipush (v := 111) hx hb dX12_init_1175 (by decide) ?_
  refine va_cast hx hb hK hP hD hS 7 1 rfl rfl (z_in (by decide) (by decide)) dX12_init_1177 (fun H locs hP hD hS => ?_)
  generalize hf_261 : upd _ _ _ = f_261 at hP hD
  have hP : va_P D vwCl [(h0, .inr (12, fs)), (q_1, .inl (D.1 13, 1600, .inl (fun _ => 0))), (q_4, .inl (D.1 13, 6, .inl (fun _ => 0))), (q_179, .inl (D.1 13, 10, .inl (fun _ => 0))), (q_185, .inl (D.1 13, 6, .inl f_191)), (q_197, .inl (D.1 13, 906, .inl (fun _ => 0))), (q_225, .inl (D.1 13, 48, .inl (fun _ => 0))), (q_259, .inl (D.1 14, 4, .inl f_261))] H := hP
  have hD : va_D A [(h0, .inr (12, fs)), (q_1, .inl (D.1 13, 1600, .inl (fun _ => 0))), (q_4, .inl (D.1 13, 6, .inl (fun _ => 0))), (q_179, .inl (D.1 13, 10, .inl (fun _ => 0))), (q_185, .inl (D.1 13, 6, .inl f_191)), (q_197, .inl (D.1 13, 906, .inl (fun _ => 0))), (q_225, .inl (D.1 13, 48, .inl (fun _ => 0))), (q_259, .inl (D.1 14, 4, .inl f_261))] := hD
  refine lv_dup hx hb dX12_init_1178 rfl ?_
  refine lv_iconst (v := 2) hx hb dX12_init_1179 (by decide) ?_
  refine lv_bipush (v := 115) hx hb dX12_init_1180 (by decide) ?_
  refine va_cast hx hb hK hP hD hS 7 1 rfl rfl (z_in (by decide) (by decide)) dX12_init_1182 (fun H locs hP hD hS => ?_)
  generalize hf_262 : upd _ _ _ = f_262 at hP hD
  have hP : va_P D vwCl [(h0, .inr (12, fs)), (q_1, .inl (D.1 13, 1600, .inl (fun _ => 0))), (q_4, .inl (D.1 13, 6, .inl (fun _ => 0))), (q_179, .inl (D.1 13, 10, .inl (fun _ => 0))), (q_185, .inl (D.1 13, 6, .inl f_191)), (q_197, .inl (D.1 13, 906, .inl (fun _ => 0))), (q_225, .inl (D.1 13, 48, .inl (fun _ => 0))), (q_259, .inl (D.1 14, 4, .inl f_262))] H := hP
  have hD : va_D A [(h0, .inr (12, fs)), (q_1, .inl (D.1 13, 1600, .inl (fun _ => 0))), (q_4, .inl (D.1 13, 6, .inl (fun _ => 0))), (q_179, .inl (D.1 13, 10, .inl (fun _ => 0))), (q_185, .inl (D.1 13, 6, .inl f_191)), (q_197, .inl (D.1 13, 906, .inl (fun _ => 0))), (q_225, .inl (D.1 13, 48, .inl (fun _ => 0))), (q_259, .inl (D.1 14, 4, .inl f_262))] := hD
  refine lv_dup hx hb dX12_init_1183 rfl ?_
  refine lv_iconst (v := 3) hx hb dX12_init_1184 (by decide) ?_
  refine lv_bipush (v := 116) hx hb dX12_init_1185 (by decide) ?_
  refine va_cast hx hb hK hP hD hS 7 1 rfl rfl (z_in (by decide) (by decide)) dX12_init_1187 (fun H locs hP hD hS => ?_)
  generalize hf_263 : upd _ _ _ = f_263 at hP hD
  have hP : va_P D vwCl [(h0, .inr (12, fs)), (q_1, .inl (D.1 13, 1600, .inl (fun _ => 0))), (q_4, .inl (D.1 13, 6, .inl (fun _ => 0))), (q_179, .inl (D.1 13, 10, .inl (fun _ => 0))), (q_185, .inl (D.1 13, 6, .inl f_191)), (q_197, .inl (D.1 13, 906, .inl (fun _ => 0))), (q_225, .inl (D.1 13, 48, .inl (fun _ => 0))), (q_259, .inl (D.1 14, 4, .inl f_263))] H := hP
  have hD : va_D A [(h0, .inr (12, fs)), (q_1, .inl (D.1 13, 1600, .inl (fun _ => 0))), (q_4, .inl (D.1 13, 6, .inl (fun _ => 0))), (q_179, .inl (D.1 13, 10, .inl (fun _ => 0))), (q_185, .inl (D.1 13, 6, .inl f_191)), (q_197, .inl (D.1 13, 906, .inl (fun _ => 0))), (q_225, .inl (D.1 13, 48, .inl (fun _ => 0))), (q_259, .inl (D.1 14, 4, .inl f_263))] := hD
  refine va_putF (D := D) (ci := 12) (v := .ref q_259) (ty := .array .char) (C := RX12) (T := TX12) (N := 116) hx hb ht inX12 tyX12 tyX12_ok nmX12 hown hK hP hD hS 0 rfl rfl 83 (by decide) (ht (.fieldLink RX12 189 "CloneVolumesModel" "mostAsked" "[C") fl_X12_189) (fun _ h9 => h9) rfl hin rfl (by decide +kernel) rfl rfl (by rw [hlen]; decide) dX12_init_1188 (fun H locs hP hD hS => ?_)
  have hP : va_P D vwCl [(h0, .inr (12, (fs.set 83 (.ref q_259)))), (q_1, .inl (D.1 13, 1600, .inl (fun _ => 0))), (q_4, .inl (D.1 13, 6, .inl (fun _ => 0))), (q_179, .inl (D.1 13, 10, .inl (fun _ => 0))), (q_185, .inl (D.1 13, 6, .inl f_191)), (q_197, .inl (D.1 13, 906, .inl (fun _ => 0))), (q_225, .inl (D.1 13, 48, .inl (fun _ => 0))), (q_259, .inl (D.1 14, 4, .inl f_263))] H := hP
  have hD : va_D A [(h0, .inr (12, (fs.set 83 (.ref q_259)))), (q_1, .inl (D.1 13, 1600, .inl (fun _ => 0))), (q_4, .inl (D.1 13, 6, .inl (fun _ => 0))), (q_179, .inl (D.1 13, 10, .inl (fun _ => 0))), (q_185, .inl (D.1 13, 6, .inl f_191)), (q_197, .inl (D.1 13, 906, .inl (fun _ => 0))), (q_225, .inl (D.1 13, 48, .inl (fun _ => 0))), (q_259, .inl (D.1 14, 4, .inl f_263))] := hD
  generalize hfs_264 : fs.set 83 (.ref q_259) = fs_264 at hP hD
  have hlen : fs_264.length = 116 := by rw [← hfs_264, List.length_set]; exact hlen
  have hP : va_P D vwCl [(h0, .inr (12, fs_264)), (q_1, .inl (D.1 13, 1600, .inl (fun _ => 0))), (q_4, .inl (D.1 13, 6, .inl (fun _ => 0))), (q_179, .inl (D.1 13, 10, .inl (fun _ => 0))), (q_185, .inl (D.1 13, 6, .inl f_191)), (q_197, .inl (D.1 13, 906, .inl (fun _ => 0))), (q_225, .inl (D.1 13, 48, .inl (fun _ => 0))), (q_259, .inl (D.1 14, 4, .inl f_263))] H := hP
  have hD : va_D A [(h0, .inr (12, fs_264)), (q_1, .inl (D.1 13, 1600, .inl (fun _ => 0))), (q_4, .inl (D.1 13, 6, .inl (fun _ => 0))), (q_179, .inl (D.1 13, 10, .inl (fun _ => 0))), (q_185, .inl (D.1 13, 6, .inl f_191)), (q_197, .inl (D.1 13, 906, .inl (fun _ => 0))), (q_225, .inl (D.1 13, 48, .inl (fun _ => 0))), (q_259, .inl (D.1 14, 4, .inl f_263))] := hD
  have hP := hP.sub (ws' := [(h0, .inr (12, fs_264)), (q_1, .inl (D.1 13, 1600, .inl (fun _ => 0))), (q_4, .inl (D.1 13, 6, .inl (fun _ => 0))), (q_179, .inl (D.1 13, 10, .inl (fun _ => 0))), (q_185, .inl (D.1 13, 6, .inl f_191)), (q_197, .inl (D.1 13, 906, .inl (fun _ => 0))), (q_225, .inl (D.1 13, 48, .inl (fun _ => 0)))]) [0, 1, 2, 3, 4, 5, 6] rfl
  have hD := hD.sub (ws' := [(h0, .inr (12, fs_264)), (q_1, .inl (D.1 13, 1600, .inl (fun _ => 0))), (q_4, .inl (D.1 13, 6, .inl (fun _ => 0))), (q_179, .inl (D.1 13, 10, .inl (fun _ => 0))), (q_185, .inl (D.1 13, 6, .inl f_191)), (q_197, .inl (D.1 13, 906, .inl (fun _ => 0))), (q_225, .inl (D.1 13, 48, .inl (fun _ => 0)))]) [0, 1, 2, 3, 4, 5, 6] (by decide) rfl
  refine lv_aload_n hx hb dX12_init_1191 rfl (lv_at hl 0 rfl) ?_
  refine lv_iconst (v := 5) hx hb dX12_init_1192 (by decide) ?_
  refine va_newa (atype := .char) (a0 := (5, .inl (fun _ => 0))) (ty := .char) (N' := 5) hx hb (ht _ ac_char) rfl hK hP hD hS hA (fun _ => rfl) (by decide) (by decide) (by decide) (Nat.le_trans (Nat.le_of_ble_eq_true rfl) hRc) (Nat.le_trans (Nat.le_of_ble_eq_true rfl) hRs) dX12_init_1193 (fun q_265 cA H hK2 hP hD hS => ?_)
  obtain rfl := z_cls_char hK hK2
  refine W.widen (k := 58) (n := 27687) (Nat.le_of_ble_eq_true rfl) (Nat.le_of_ble_eq_true rfl) ?_
  have hP : va_P D vwCl [(h0, .inr (12, fs_264)), (q_1, .inl (D.1 13, 1600, .inl (fun _ => 0))), (q_4, .inl (D.1 13, 6, .inl (fun _ => 0))), (q_179, .inl (D.1 13, 10, .inl (fun _ => 0))), (q_185, .inl (D.1 13, 6, .inl f_191)), (q_197, .inl (D.1 13, 906, .inl (fun _ => 0))), (q_225, .inl (D.1 13, 48, .inl (fun _ => 0))), (q_265, .inl (D.1 14, 5, .inl (fun _ => 0)))] H := hP
  have hD : va_D A [(h0, .inr (12, fs_264)), (q_1, .inl (D.1 13, 1600, .inl (fun _ => 0))), (q_4, .inl (D.1 13, 6, .inl (fun _ => 0))), (q_179, .inl (D.1 13, 10, .inl (fun _ => 0))), (q_185, .inl (D.1 13, 6, .inl f_191)), (q_197, .inl (D.1 13, 906, .inl (fun _ => 0))), (q_225, .inl (D.1 13, 48, .inl (fun _ => 0))), (q_265, .inl (D.1 14, 5, .inl (fun _ => 0)))] := hD
  refine lv_dup hx hb dX12_init_1195 rfl ?_
  refine lv_iconst (v := 0) hx hb dX12_init_1196 (by decide) ?_
  refine lv_bipush (v := 108) hx hb dX12_init_1197 (by decide) ?_
  refine va_cast hx hb hK hP hD hS 7 1 rfl rfl (z_in (by decide) (by decide)) dX12_init_1199 (fun H locs hP hD hS => ?_)
  generalize hf_266 : upd _ _ _ = f_266 at hP hD
  have hP : va_P D vwCl [(h0, .inr (12, fs_264)), (q_1, .inl (D.1 13, 1600, .inl (fun _ => 0))), (q_4, .inl (D.1 13, 6, .inl (fun _ => 0))), (q_179, .inl (D.1 13, 10, .inl (fun _ => 0))), (q_185, .inl (D.1 13, 6, .inl f_191)), (q_197, .inl (D.1 13, 906, .inl (fun _ => 0))), (q_225, .inl (D.1 13, 48, .inl (fun _ => 0))), (q_265, .inl (D.1 14, 5, .inl f_266))] H := hP
  have hD : va_D A [(h0, .inr (12, fs_264)), (q_1, .inl (D.1 13, 1600, .inl (fun _ => 0))), (q_4, .inl (D.1 13, 6, .inl (fun _ => 0))), (q_179, .inl (D.1 13, 10, .inl (fun _ => 0))), (q_185, .inl (D.1 13, 6, .inl f_191)), (q_197, .inl (D.1 13, 906, .inl (fun _ => 0))), (q_225, .inl (D.1 13, 48, .inl (fun _ => 0))), (q_265, .inl (D.1 14, 5, .inl f_266))] := hD
  refine lv_dup hx hb dX12_init_1200 rfl ?_
  refine lv_iconst (v := 1) hx hb dX12_init_1201 (by decide) ?_
  refine lv_bipush (v := 101) hx hb dX12_init_1202 (by decide) ?_
  refine va_cast hx hb hK hP hD hS 7 1 rfl rfl (z_in (by decide) (by decide)) dX12_init_1204 (fun H locs hP hD hS => ?_)
  generalize hf_267 : upd _ _ _ = f_267 at hP hD
  have hP : va_P D vwCl [(h0, .inr (12, fs_264)), (q_1, .inl (D.1 13, 1600, .inl (fun _ => 0))), (q_4, .inl (D.1 13, 6, .inl (fun _ => 0))), (q_179, .inl (D.1 13, 10, .inl (fun _ => 0))), (q_185, .inl (D.1 13, 6, .inl f_191)), (q_197, .inl (D.1 13, 906, .inl (fun _ => 0))), (q_225, .inl (D.1 13, 48, .inl (fun _ => 0))), (q_265, .inl (D.1 14, 5, .inl f_267))] H := hP
  have hD : va_D A [(h0, .inr (12, fs_264)), (q_1, .inl (D.1 13, 1600, .inl (fun _ => 0))), (q_4, .inl (D.1 13, 6, .inl (fun _ => 0))), (q_179, .inl (D.1 13, 10, .inl (fun _ => 0))), (q_185, .inl (D.1 13, 6, .inl f_191)), (q_197, .inl (D.1 13, 906, .inl (fun _ => 0))), (q_225, .inl (D.1 13, 48, .inl (fun _ => 0))), (q_265, .inl (D.1 14, 5, .inl f_267))] := hD
  refine lv_dup hx hb dX12_init_1205 rfl ?_
  refine lv_iconst (v := 2) hx hb dX12_init_1206 (by decide) ?_
  refine lv_bipush (v := 97) hx hb dX12_init_1207 (by decide) ?_
  refine va_cast hx hb hK hP hD hS 7 1 rfl rfl (z_in (by decide) (by decide)) dX12_init_1209 (fun H locs hP hD hS => ?_)
  generalize hf_268 : upd _ _ _ = f_268 at hP hD
  have hP : va_P D vwCl [(h0, .inr (12, fs_264)), (q_1, .inl (D.1 13, 1600, .inl (fun _ => 0))), (q_4, .inl (D.1 13, 6, .inl (fun _ => 0))), (q_179, .inl (D.1 13, 10, .inl (fun _ => 0))), (q_185, .inl (D.1 13, 6, .inl f_191)), (q_197, .inl (D.1 13, 906, .inl (fun _ => 0))), (q_225, .inl (D.1 13, 48, .inl (fun _ => 0))), (q_265, .inl (D.1 14, 5, .inl f_268))] H := hP
  have hD : va_D A [(h0, .inr (12, fs_264)), (q_1, .inl (D.1 13, 1600, .inl (fun _ => 0))), (q_4, .inl (D.1 13, 6, .inl (fun _ => 0))), (q_179, .inl (D.1 13, 10, .inl (fun _ => 0))), (q_185, .inl (D.1 13, 6, .inl f_191)), (q_197, .inl (D.1 13, 906, .inl (fun _ => 0))), (q_225, .inl (D.1 13, 48, .inl (fun _ => 0))), (q_265, .inl (D.1 14, 5, .inl f_268))] := hD
  refine lv_dup hx hb dX12_init_1210 rfl ?_
  refine lv_iconst (v := 3) hx hb dX12_init_1211 (by decide) ?_
  refine lv_bipush (v := 115) hx hb dX12_init_1212 (by decide) ?_
  refine va_cast hx hb hK hP hD hS 7 1 rfl rfl (z_in (by decide) (by decide)) dX12_init_1214 (fun H locs hP hD hS => ?_)
  generalize hf_269 : upd _ _ _ = f_269 at hP hD
  have hP : va_P D vwCl [(h0, .inr (12, fs_264)), (q_1, .inl (D.1 13, 1600, .inl (fun _ => 0))), (q_4, .inl (D.1 13, 6, .inl (fun _ => 0))), (q_179, .inl (D.1 13, 10, .inl (fun _ => 0))), (q_185, .inl (D.1 13, 6, .inl f_191)), (q_197, .inl (D.1 13, 906, .inl (fun _ => 0))), (q_225, .inl (D.1 13, 48, .inl (fun _ => 0))), (q_265, .inl (D.1 14, 5, .inl f_269))] H := hP
  have hD : va_D A [(h0, .inr (12, fs_264)), (q_1, .inl (D.1 13, 1600, .inl (fun _ => 0))), (q_4, .inl (D.1 13, 6, .inl (fun _ => 0))), (q_179, .inl (D.1 13, 10, .inl (fun _ => 0))), (q_185, .inl (D.1 13, 6, .inl f_191)), (q_197, .inl (D.1 13, 906, .inl (fun _ => 0))), (q_225, .inl (D.1 13, 48, .inl (fun _ => 0))), (q_265, .inl (D.1 14, 5, .inl f_269))] := hD
  refine lv_dup hx hb dX12_init_1215 rfl ?_
  refine lv_iconst (v := 4) hx hb dX12_init_1216 (by decide) ?_
  refine lv_bipush (v := 116) hx hb dX12_init_1217 (by decide) ?_
  refine va_cast hx hb hK hP hD hS 7 1 rfl rfl (z_in (by decide) (by decide)) dX12_init_1219 (fun H locs hP hD hS => ?_)
  generalize hf_270 : upd _ _ _ = f_270 at hP hD
  have hP : va_P D vwCl [(h0, .inr (12, fs_264)), (q_1, .inl (D.1 13, 1600, .inl (fun _ => 0))), (q_4, .inl (D.1 13, 6, .inl (fun _ => 0))), (q_179, .inl (D.1 13, 10, .inl (fun _ => 0))), (q_185, .inl (D.1 13, 6, .inl f_191)), (q_197, .inl (D.1 13, 906, .inl (fun _ => 0))), (q_225, .inl (D.1 13, 48, .inl (fun _ => 0))), (q_265, .inl (D.1 14, 5, .inl f_270))] H := hP
  have hD : va_D A [(h0, .inr (12, fs_264)), (q_1, .inl (D.1 13, 1600, .inl (fun _ => 0))), (q_4, .inl (D.1 13, 6, .inl (fun _ => 0))), (q_179, .inl (D.1 13, 10, .inl (fun _ => 0))), (q_185, .inl (D.1 13, 6, .inl f_191)), (q_197, .inl (D.1 13, 906, .inl (fun _ => 0))), (q_225, .inl (D.1 13, 48, .inl (fun _ => 0))), (q_265, .inl (D.1 14, 5, .inl f_270))] := hD
  refine va_putF (D := D) (ci := 12) (v := .ref q_265) (ty := .array .char) (C := RX12) (T := TX12) (N := 116) hx hb ht inX12 tyX12 tyX12_ok nmX12 hown hK hP hD hS 0 rfl rfl 84 (by decide) (ht (.fieldLink RX12 192 "CloneVolumesModel" "leastAsked" "[C") fl_X12_192) (fun _ h9 => h9) rfl hin rfl (by decide +kernel) rfl rfl (by rw [hlen]; decide) dX12_init_1220 (fun H locs hP hD hS => ?_)
  have hP : va_P D vwCl [(h0, .inr (12, (fs_264.set 84 (.ref q_265)))), (q_1, .inl (D.1 13, 1600, .inl (fun _ => 0))), (q_4, .inl (D.1 13, 6, .inl (fun _ => 0))), (q_179, .inl (D.1 13, 10, .inl (fun _ => 0))), (q_185, .inl (D.1 13, 6, .inl f_191)), (q_197, .inl (D.1 13, 906, .inl (fun _ => 0))), (q_225, .inl (D.1 13, 48, .inl (fun _ => 0))), (q_265, .inl (D.1 14, 5, .inl f_270))] H := hP
  have hD : va_D A [(h0, .inr (12, (fs_264.set 84 (.ref q_265)))), (q_1, .inl (D.1 13, 1600, .inl (fun _ => 0))), (q_4, .inl (D.1 13, 6, .inl (fun _ => 0))), (q_179, .inl (D.1 13, 10, .inl (fun _ => 0))), (q_185, .inl (D.1 13, 6, .inl f_191)), (q_197, .inl (D.1 13, 906, .inl (fun _ => 0))), (q_225, .inl (D.1 13, 48, .inl (fun _ => 0))), (q_265, .inl (D.1 14, 5, .inl f_270))] := hD
  generalize hfs_271 : fs_264.set 84 (.ref q_265) = fs_271 at hP hD
  have hlen : fs_271.length = 116 := by rw [← hfs_271, List.length_set]; exact hlen
  have hP : va_P D vwCl [(h0, .inr (12, fs_271)), (q_1, .inl (D.1 13, 1600, .inl (fun _ => 0))), (q_4, .inl (D.1 13, 6, .inl (fun _ => 0))), (q_179, .inl (D.1 13, 10, .inl (fun _ => 0))), (q_185, .inl (D.1 13, 6, .inl f_191)), (q_197, .inl (D.1 13, 906, .inl (fun _ => 0))), (q_225, .inl (D.1 13, 48, .inl (fun _ => 0))), (q_265, .inl (D.1 14, 5, .inl f_270))] H := hP
  have hD : va_D A [(h0, .inr (12, fs_271)), (q_1, .inl (D.1 13, 1600, .inl (fun _ => 0))), (q_4, .inl (D.1 13, 6, .inl (fun _ => 0))), (q_179, .inl (D.1 13, 10, .inl (fun _ => 0))), (q_185, .inl (D.1 13, 6, .inl f_191)), (q_197, .inl (D.1 13, 906, .inl (fun _ => 0))), (q_225, .inl (D.1 13, 48, .inl (fun _ => 0))), (q_265, .inl (D.1 14, 5, .inl f_270))] := hD
  have hP := hP.sub (ws' := [(h0, .inr (12, fs_271)), (q_1, .inl (D.1 13, 1600, .inl (fun _ => 0))), (q_4, .inl (D.1 13, 6, .inl (fun _ => 0))), (q_179, .inl (D.1 13, 10, .inl (fun _ => 0))), (q_185, .inl (D.1 13, 6, .inl f_191)), (q_197, .inl (D.1 13, 906, .inl (fun _ => 0))), (q_225, .inl (D.1 13, 48, .inl (fun _ => 0)))]) [0, 1, 2, 3, 4, 5, 6] rfl
  have hD := hD.sub (ws' := [(h0, .inr (12, fs_271)), (q_1, .inl (D.1 13, 1600, .inl (fun _ => 0))), (q_4, .inl (D.1 13, 6, .inl (fun _ => 0))), (q_179, .inl (D.1 13, 10, .inl (fun _ => 0))), (q_185, .inl (D.1 13, 6, .inl f_191)), (q_197, .inl (D.1 13, 906, .inl (fun _ => 0))), (q_225, .inl (D.1 13, 48, .inl (fun _ => 0)))]) [0, 1, 2, 3, 4, 5, 6] (by decide) rfl
  refine lv_aload_n hx hb dX12_init_1223 rfl (lv_at hl 0 rfl) ?_
  refine lv_iconst (v := 3) hx hb dX12_init_1224 (by decide) ?_
  refine va_newa (atype := .char) (a0 := (3, .inl (fun _ => 0))) (ty := .char) (N' := 3) hx hb (ht _ ac_char) rfl hK hP hD hS hA (fun _ => rfl) (by decide) (by decide) (by decide) (Nat.le_trans (Nat.le_of_ble_eq_true rfl) hRc) (Nat.le_trans (Nat.le_of_ble_eq_true rfl) hRs) dX12_init_1225 (fun q_272 cA H hK2 hP hD hS => ?_)
  obtain rfl := z_cls_char hK hK2
  refine W.widen (k := 59) (n := 27690) (Nat.le_of_ble_eq_true rfl) (Nat.le_of_ble_eq_true rfl) ?_
  have hP : va_P D vwCl [(h0, .inr (12, fs_271)), (q_1, .inl (D.1 13, 1600, .inl (fun _ => 0))), (q_4, .inl (D.1 13, 6, .inl (fun _ => 0))), (q_179, .inl (D.1 13, 10, .inl (fun _ => 0))), (q_185, .inl (D.1 13, 6, .inl f_191)), (q_197, .inl (D.1 13, 906, .inl (fun _ => 0))), (q_225, .inl (D.1 13, 48, .inl (fun _ => 0))), (q_272, .inl (D.1 14, 3, .inl (fun _ => 0)))] H := hP
  have hD : va_D A [(h0, .inr (12, fs_271)), (q_1, .inl (D.1 13, 1600, .inl (fun _ => 0))), (q_4, .inl (D.1 13, 6, .inl (fun _ => 0))), (q_179, .inl (D.1 13, 10, .inl (fun _ => 0))), (q_185, .inl (D.1 13, 6, .inl f_191)), (q_197, .inl (D.1 13, 906, .inl (fun _ => 0))), (q_225, .inl (D.1 13, 48, .inl (fun _ => 0))), (q_272, .inl (D.1 14, 3, .inl (fun _ => 0)))] := hD
  refine lv_dup hx hb dX12_init_1227 rfl ?_
  refine lv_iconst (v := 0) hx hb dX12_init_1228 (by decide) ?_
  refine lv_bipush (v := 110) hx hb dX12_init_1229 (by decide) ?_
  refine va_cast hx hb hK hP hD hS 7 1 rfl rfl (z_in (by decide) (by decide)) dX12_init_1231 (fun H locs hP hD hS => ?_)
  generalize hf_273 : upd _ _ _ = f_273 at hP hD
  have hP : va_P D vwCl [(h0, .inr (12, fs_271)), (q_1, .inl (D.1 13, 1600, .inl (fun _ => 0))), (q_4, .inl (D.1 13, 6, .inl (fun _ => 0))), (q_179, .inl (D.1 13, 10, .inl (fun _ => 0))), (q_185, .inl (D.1 13, 6, .inl f_191)), (q_197, .inl (D.1 13, 906, .inl (fun _ => 0))), (q_225, .inl (D.1 13, 48, .inl (fun _ => 0))), (q_272, .inl (D.1 14, 3, .inl f_273))] H := hP
  have hD : va_D A [(h0, .inr (12, fs_271)), (q_1, .inl (D.1 13, 1600, .inl (fun _ => 0))), (q_4, .inl (D.1 13, 6, .inl (fun _ => 0))), (q_179, .inl (D.1 13, 10, .inl (fun _ => 0))), (q_185, .inl (D.1 13, 6, .inl f_191)), (q_197, .inl (D.1 13, 906, .inl (fun _ => 0))), (q_225, .inl (D.1 13, 48, .inl (fun _ => 0))), (q_272, .inl (D.1 14, 3, .inl f_273))] := hD
  refine lv_dup hx hb dX12_init_1232 rfl ?_
  refine lv_iconst (v := 1) hx hb dX12_init_1233 (by decide) ?_
  refine lv_bipush (v := 111) hx hb dX12_init_1234 (by decide) ?_
  refine va_cast hx hb hK hP hD hS 7 1 rfl rfl (z_in (by decide) (by decide)) dX12_init_1236 (fun H locs hP hD hS => ?_)
  generalize hf_274 : upd _ _ _ = f_274 at hP hD
  have hP : va_P D vwCl [(h0, .inr (12, fs_271)), (q_1, .inl (D.1 13, 1600, .inl (fun _ => 0))), (q_4, .inl (D.1 13, 6, .inl (fun _ => 0))), (q_179, .inl (D.1 13, 10, .inl (fun _ => 0))), (q_185, .inl (D.1 13, 6, .inl f_191)), (q_197, .inl (D.1 13, 906, .inl (fun _ => 0))), (q_225, .inl (D.1 13, 48, .inl (fun _ => 0))), (q_272, .inl (D.1 14, 3, .inl f_274))] H := hP
  have hD : va_D A [(h0, .inr (12, fs_271)), (q_1, .inl (D.1 13, 1600, .inl (fun _ => 0))), (q_4, .inl (D.1 13, 6, .inl (fun _ => 0))), (q_179, .inl (D.1 13, 10, .inl (fun _ => 0))), (q_185, .inl (D.1 13, 6, .inl f_191)), (q_197, .inl (D.1 13, 906, .inl (fun _ => 0))), (q_225, .inl (D.1 13, 48, .inl (fun _ => 0))), (q_272, .inl (D.1 14, 3, .inl f_274))] := hD
  refine lv_dup hx hb dX12_init_1237 rfl ?_
  refine lv_iconst (v := 2) hx hb dX12_init_1238 (by decide) ?_
  refine lv_bipush (v := 116) hx hb dX12_init_1239 (by decide) ?_
  refine va_cast hx hb hK hP hD hS 7 1 rfl rfl (z_in (by decide) (by decide)) dX12_init_1241 (fun H locs hP hD hS => ?_)
  generalize hf_275 : upd _ _ _ = f_275 at hP hD
  have hP : va_P D vwCl [(h0, .inr (12, fs_271)), (q_1, .inl (D.1 13, 1600, .inl (fun _ => 0))), (q_4, .inl (D.1 13, 6, .inl (fun _ => 0))), (q_179, .inl (D.1 13, 10, .inl (fun _ => 0))), (q_185, .inl (D.1 13, 6, .inl f_191)), (q_197, .inl (D.1 13, 906, .inl (fun _ => 0))), (q_225, .inl (D.1 13, 48, .inl (fun _ => 0))), (q_272, .inl (D.1 14, 3, .inl f_275))] H := hP
  have hD : va_D A [(h0, .inr (12, fs_271)), (q_1, .inl (D.1 13, 1600, .inl (fun _ => 0))), (q_4, .inl (D.1 13, 6, .inl (fun _ => 0))), (q_179, .inl (D.1 13, 10, .inl (fun _ => 0))), (q_185, .inl (D.1 13, 6, .inl f_191)), (q_197, .inl (D.1 13, 906, .inl (fun _ => 0))), (q_225, .inl (D.1 13, 48, .inl (fun _ => 0))), (q_272, .inl (D.1 14, 3, .inl f_275))] := hD
  refine va_putF (D := D) (ci := 12) (v := .ref q_272) (ty := .array .char) (C := RX12) (T := TX12) (N := 116) hx hb ht inX12 tyX12 tyX12_ok nmX12 hown hK hP hD hS 0 rfl rfl 85 (by decide) (ht (.fieldLink RX12 195 "CloneVolumesModel" "notAsked" "[C") fl_X12_195) (fun _ h9 => h9) rfl hin rfl (by decide +kernel) rfl rfl (by rw [hlen]; decide) dX12_init_1242 (fun H locs hP hD hS => ?_)
  have hP : va_P D vwCl [(h0, .inr (12, (fs_271.set 85 (.ref q_272)))), (q_1, .inl (D.1 13, 1600, .inl (fun _ => 0))), (q_4, .inl (D.1 13, 6, .inl (fun _ => 0))), (q_179, .inl (D.1 13, 10, .inl (fun _ => 0))), (q_185, .inl (D.1 13, 6, .inl f_191)), (q_197, .inl (D.1 13, 906, .inl (fun _ => 0))), (q_225, .inl (D.1 13, 48, .inl (fun _ => 0))), (q_272, .inl (D.1 14, 3, .inl f_275))] H := hP
  have hD : va_D A [(h0, .inr (12, (fs_271.set 85 (.ref q_272)))), (q_1, .inl (D.1 13, 1600, .inl (fun _ => 0))), (q_4, .inl (D.1 13, 6, .inl (fun _ => 0))), (q_179, .inl (D.1 13, 10, .inl (fun _ => 0))), (q_185, .inl (D.1 13, 6, .inl f_191)), (q_197, .inl (D.1 13, 906, .inl (fun _ => 0))), (q_225, .inl (D.1 13, 48, .inl (fun _ => 0))), (q_272, .inl (D.1 14, 3, .inl f_275))] := hD
  generalize hfs_276 : fs_271.set 85 (.ref q_272) = fs_276 at hP hD
  have hlen : fs_276.length = 116 := by rw [← hfs_276, List.length_set]; exact hlen
  have hP : va_P D vwCl [(h0, .inr (12, fs_276)), (q_1, .inl (D.1 13, 1600, .inl (fun _ => 0))), (q_4, .inl (D.1 13, 6, .inl (fun _ => 0))), (q_179, .inl (D.1 13, 10, .inl (fun _ => 0))), (q_185, .inl (D.1 13, 6, .inl f_191)), (q_197, .inl (D.1 13, 906, .inl (fun _ => 0))), (q_225, .inl (D.1 13, 48, .inl (fun _ => 0))), (q_272, .inl (D.1 14, 3, .inl f_275))] H := hP
  have hD : va_D A [(h0, .inr (12, fs_276)), (q_1, .inl (D.1 13, 1600, .inl (fun _ => 0))), (q_4, .inl (D.1 13, 6, .inl (fun _ => 0))), (q_179, .inl (D.1 13, 10, .inl (fun _ => 0))), (q_185, .inl (D.1 13, 6, .inl f_191)), (q_197, .inl (D.1 13, 906, .inl (fun _ => 0))), (q_225, .inl (D.1 13, 48, .inl (fun _ => 0))), (q_272, .inl (D.1 14, 3, .inl f_275))] := hD
  have hP := hP.sub (ws' := [(h0, .inr (12, fs_276)), (q_1, .inl (D.1 13, 1600, .inl (fun _ => 0))), (q_4, .inl (D.1 13, 6, .inl (fun _ => 0))), (q_179, .inl (D.1 13, 10, .inl (fun _ => 0))), (q_185, .inl (D.1 13, 6, .inl f_191)), (q_197, .inl (D.1 13, 906, .inl (fun _ => 0))), (q_225, .inl (D.1 13, 48, .inl (fun _ => 0)))]) [0, 1, 2, 3, 4, 5, 6] rfl
  have hD := hD.sub (ws' := [(h0, .inr (12, fs_276)), (q_1, .inl (D.1 13, 1600, .inl (fun _ => 0))), (q_4, .inl (D.1 13, 6, .inl (fun _ => 0))), (q_179, .inl (D.1 13, 10, .inl (fun _ => 0))), (q_185, .inl (D.1 13, 6, .inl f_191)), (q_197, .inl (D.1 13, 906, .inl (fun _ => 0))), (q_225, .inl (D.1 13, 48, .inl (fun _ => 0)))]) [0, 1, 2, 3, 4, 5, 6] (by decide) rfl
  exact kk q_259 q_265 q_272 fs_276 _ _ (by rw [← hfs_276, ← hfs_271, ← hfs_264]) hP hD hS
set_option maxHeartbeats 4000000 in
set_option maxRecDepth 100000 in
theorem cM_16 {h0 : Nat} {q_1 : Nat} {q_4 : Nat} {q_179 : Nat} {q_185 : Nat} {q_197 : Nat} {q_225 : Nat} {f_191 : Nat → Int32} (hx : p.tables.exec = Jvm.exec) (hb : c.code = cX12_init) (ht : ∀ w ∈ lw_gd, w.before args s = true) (hown : s.vm.findClass RX12 = some m.cls) (hin : meth.name = "<init>") (hK : va_K D vwCl (TY D) s) (hA : ∀ q : Nat, s.heap.size ≤ q → A q) (hRc : 80 ≤ R.cells) (hRs : 35050 ≤ R.slots) (hl : lv_has ls 1 [(0, .ref h0)]) {fs : List Value} (hlen : fs.length = 116) {H : Heap} {locs : List Loc} (hP : va_P D vwCl [(h0, .inr (12, fs)), (q_1, .inl (D.1 13, 1600, .inl (fun _ => 0))), (q_4, .inl (D.1 13, 6, .inl (fun _ => 0))), (q_179, .inl (D.1 13, 10, .inl (fun _ => 0))), (q_185, .inl (D.1 13, 6, .inl f_191)), (q_197, .inl (D.1 13, 906, .inl (fun _ => 0))), (q_225, .inl (D.1 13, 48, .inl (fun _ => 0)))] H) (hD : va_D A [(h0, .inr (12, fs)), (q_1, .inl (D.1 13, 1600, .inl (fun _ => 0))), (q_4, .inl (D.1 13, 6, .inl (fun _ => 0))), (q_179, .inl (D.1 13, 10, .inl (fun _ => 0))), (q_185, .inl (D.1 13, 6, .inl f_191)), (q_197, .inl (D.1 13, 906, .inl (fun _ => 0))), (q_225, .inl (D.1 13, 48, .inl (fun _ => 0)))]) (hS : va_S A s.heap H locs)
    (kk : ∀ (q_277 : Nat) (q_282 : Nat) (q_286 : Nat) (q_291 : Nat) (fs' : List Value) (H : Heap) (locs : List Loc), fs' = ((((fs.set 86 (.ref q_277)).set 87 (.ref q_282)).set 88 (.ref q_286)).set 89 (.ref q_291)) → va_P D vwCl [(h0, .inr (12, fs')), (q_1, .inl (D.1 13, 1600, .inl (fun _ => 0))), (q_4, .inl (D.1 13, 6, .inl (fun _ => 0))), (q_179, .inl (D.1 13, 10, .inl (fun _ => 0))), (q_185, .inl (D.1 13, 6, .inl f_191)), (q_197, .inl (D.1 13, 906, .inl (fun _ => 0))), (q_225, .inl (D.1 13, 48, .inl (fun _ => 0)))] H → va_D A [(h0, .inr (12, fs')), (q_1, .inl (D.1 13, 1600, .inl (fun _ => 0))), (q_4, .inl (D.1 13, 6, .inl (fun _ => 0))), (q_179, .inl (D.1 13, 10, .inl (fun _ => 0))), (q_185, .inl (D.1 13, 6, .inl f_191)), (q_197, .inl (D.1 13, 906, .inl (fun _ => 0))), (q_225, .inl (D.1 13, 48, .inl (fun _ => 0)))] → va_S A s.heap H locs → W p l e R s m args below meth c H locs 63 27701 Q (F0 m 1328 ls [])) : W p l e R s m args below meth c H locs 59 27690 Q (F0 m 1245 ls []) := by
  refine lv_aload_n hx hb dX12_init_1245 rfl (lv_at hl 0 rfl) ?_
  refine lv_iconst (v := 3) hx hb dX12_init_1246 (by decide) ?_
  refine va_newa (atype := .char) (a0 := (3, .inl (fun _ => 0))) (ty := .char) (N' := 3) hx hb (ht _ ac_char) rfl hK hP hD hS hA (fun _ => rfl) (by decide) (by decide) (by decide) (Nat.le_trans (Nat.le_of_ble_eq_true rfl) hRc) (Nat.le_trans (Nat.le_of_ble_eq_true rfl) hRs) dX12_init_1247 (fun q_277 cA H hK2 hP hD hS => ?_)
  obtain rfl := z_cls_char hK hK2
  refine W.widen (k := 60) (n := 27693) (Nat.le_of_ble_eq_true rfl) (Nat.le_of_ble_eq_true rfl) ?_
  have hP : va_P D vwCl [(h0, .inr (12, fs)), (q_1, .inl (D.1 13, 1600, .inl (fun _ => 0))), (q_4, .inl (D.1 13, 6, .inl (fun _ => 0))), (q_179, .inl (D.1 13, 10, .inl (fun _ => 0))), (q_185, .inl (D.1 13, 6, .inl f_191)), (q_197, .inl (D.1 13, 906, .inl (fun _ => 0))), (q_225, .inl (D.1 13, 48, .inl (fun _ => 0))), (q_277, .inl (D.1 14, 3, .inl (fun _ => 0)))] H := hP
  have hD : va_D A [(h0, .inr (12, fs)), (q_1, .inl (D.1 13, 1600, .inl (fun _ => 0))), (q_4, .inl (D.1 13, 6, .inl (fun _ => 0))), (q_179, .inl (D.1 13, 10, .inl (fun _ => 0))), (q_185, .inl (D.1 13, 6, .inl f_191)), (q_197, .inl (D.1 13, 906, .inl (fun _ => 0))), (q_225, .inl (D.1 13, 48, .inl (fun _ => 0))), (q_277, .inl (D.1 14, 3, .inl (fun _ => 0)))] := hD
  refine lv_dup hx hb dX12_init_1249 rfl ?_
  refine lv_iconst (v := 0) hx hb dX12_init_1250 (by decide) ?_
  refine lv_bipush (v := 97) hx hb dX12_init_1251 (by decide) ?_
  refine va_cast hx hb hK hP hD hS 7 1 rfl rfl (z_in (by decide) (by decide)) dX12_init_1253 (fun H locs hP hD hS => ?_)
  generalize hf_278 : upd _ _ _ = f_278 at hP hD
  have hP : va_P D vwCl [(h0, .inr (12, fs)), (q_1, .inl (D.1 13, 1600, .inl (fun _ => 0))), (q_4, .inl (D.1 13, 6, .inl (fun _ => 0))), (q_179, .inl (D.1 13, 10, .inl (fun _ => 0))), (q_185, .inl (D.1 13, 6, .inl f_191)), (q_197, .inl (D.1 13, 906, .inl (fun _ => 0))), (q_225, .inl (D.1 13, 48, .inl (fun _ => 0))), (q_277, .inl (D.1 14, 3, .inl f_278))] H := hP
  have hD : va_D A [(h0, .inr (12, fs)), (q_1, .inl (D.1 13, 1600, .inl (fun _ => 0))), (q_4, .inl (D.1 13, 6, .inl (fun _ => 0))), (q_179, .inl (D.1 13, 10, .inl (fun _ => 0))), (q_185, .inl (D.1 13, 6, .inl f_191)), (q_197, .inl (D.1 13, 906, .inl (fun _ => 0))), (q_225, .inl (D.1 13, 48, .inl (fun _ => 0))), (q_277, .inl (D.1 14, 3, .inl f_278))] := hD
  refine lv_dup hx hb dX12_init_1254 rfl ?_
  refine lv_iconst (v := 1) hx hb dX12_init_1255 (by decide) ?_
  refine lv_bipush (v := 110) hx hb dX12_init_1256 (by decide) ?_
  refine va_cast hx hb hK hP hD hS 7 1 rfl rfl (z_in (by decide) (by decide)) dX12_init_1258 (fun H locs hP hD hS => ?_)
  generalize hf_279 : upd _ _ _ = f_279 at hP hD
  have hP : va_P D vwCl [(h0, .inr (12, fs)), (q_1, .inl (D.1 13, 1600, .inl (fun _ => 0))), (q_4, .inl (D.1 13, 6, .inl (fun _ => 0))), (q_179, .inl (D.1 13, 10, .inl (fun _ => 0))), (q_185, .inl (D.1 13, 6, .inl f_191)), (q_197, .inl (D.1 13, 906, .inl (fun _ => 0))), (q_225, .inl (D.1 13, 48, .inl (fun _ => 0))), (q_277, .inl (D.1 14, 3, .inl f_279))] H := hP
  have hD : va_D A [(h0, .inr (12, fs)), (q_1, .inl (D.1 13, 1600, .inl (fun _ => 0))), (q_4, .inl (D.1 13, 6, .inl (fun _ => 0))), (q_179, .inl (D.1 13, 10, .inl (fun _ => 0))), (q_185, .inl (D.1 13, 6, .inl f_191)), (q_197, .inl (D.1 13, 906, .inl (fun _ => 0))), (q_225, .inl (D.1 13, 48, .inl (fun _ => 0))), (q_277, .inl (D.1 14, 3, .inl f_279))] := hD
  refine lv_dup hx hb dX12_init_1259 rfl ?_
  refine lv_iconst (v := 2) hx hb dX12_init_1260 (by decide) ?_
  refine lv_bipush (v := 100) hx hb dX12_init_1261 (by decide) ?_
  refine va_cast hx hb hK hP hD hS 7 1 rfl rfl (z_in (by decide) (by decide)) dX12_init_1263 (fun H locs hP hD hS => ?_)
  generalize hf_280 : upd _ _ _ = f_280 at hP hD
  have hP : va_P D vwCl [(h0, .inr (12, fs)), (q_1, .inl (D.1 13, 1600, .inl (fun _ => 0))), (q_4, .inl (D.1 13, 6, .inl (fun _ => 0))), (q_179, .inl (D.1 13, 10, .inl (fun _ => 0))), (q_185, .inl (D.1 13, 6, .inl f_191)), (q_197, .inl (D.1 13, 906, .inl (fun _ => 0))), (q_225, .inl (D.1 13, 48, .inl (fun _ => 0))), (q_277, .inl (D.1 14, 3, .inl f_280))] H := hP
  have hD : va_D A [(h0, .inr (12, fs)), (q_1, .inl (D.1 13, 1600, .inl (fun _ => 0))), (q_4, .inl (D.1 13, 6, .inl (fun _ => 0))), (q_179, .inl (D.1 13, 10, .inl (fun _ => 0))), (q_185, .inl (D.1 13, 6, .inl f_191)), (q_197, .inl (D.1 13, 906, .inl (fun _ => 0))), (q_225, .inl (D.1 13, 48, .inl (fun _ => 0))), (q_277, .inl (D.1 14, 3, .inl f_280))] := hD
  refine va_putF (D := D) (ci := 12) (v := .ref q_277) (ty := .array .char) (C := RX12) (T := TX12) (N := 116) hx hb ht inX12 tyX12 tyX12_ok nmX12 hown hK hP hD hS 0 rfl rfl 86 (by decide) (ht (.fieldLink RX12 198 "CloneVolumesModel" "andAsked" "[C") fl_X12_198) (fun _ h9 => h9) rfl hin rfl (by decide +kernel) rfl rfl (by rw [hlen]; decide) dX12_init_1264 (fun H locs hP hD hS => ?_)
  have hP : va_P D vwCl [(h0, .inr (12, (fs.set 86 (.ref q_277)))), (q_1, .inl (D.1 13, 1600, .inl (fun _ => 0))), (q_4, .inl (D.1 13, 6, .inl (fun _ => 0))), (q_179, .inl (D.1 13, 10, .inl (fun _ => 0))), (q_185, .inl (D.1 13, 6, .inl f_191)), (q_197, .inl (D.1 13, 906, .inl (fun _ => 0))), (q_225, .inl (D.1 13, 48, .inl (fun _ => 0))), (q_277, .inl (D.1 14, 3, .inl f_280))] H := hP
  have hD : va_D A [(h0, .inr (12, (fs.set 86 (.ref q_277)))), (q_1, .inl (D.1 13, 1600, .inl (fun _ => 0))), (q_4, .inl (D.1 13, 6, .inl (fun _ => 0))), (q_179, .inl (D.1 13, 10, .inl (fun _ => 0))), (q_185, .inl (D.1 13, 6, .inl f_191)), (q_197, .inl (D.1 13, 906, .inl (fun _ => 0))), (q_225, .inl (D.1 13, 48, .inl (fun _ => 0))), (q_277, .inl (D.1 14, 3, .inl f_280))] := hD
  generalize hfs_281 : fs.set 86 (.ref q_277) = fs_281 at hP hD
  have hlen : fs_281.length = 116 := by rw [← hfs_281, List.length_set]; exact hlen
  have hP : va_P D vwCl [(h0, .inr (12, fs_281)), (q_1, .inl (D.1 13, 1600, .inl (fun _ => 0))), (q_4, .inl (D.1 13, 6, .inl (fun _ => 0))), (q_179, .inl (D.1 13, 10, .inl (fun _ => 0))), (q_185, .inl (D.1 13, 6, .inl f_191)), (q_197, .inl (D.1 13, 906, .inl (fun _ => 0))), (q_225, .inl (D.1 13, 48, .inl (fun _ => 0))), (q_277, .inl (D.1 14, 3, .inl f_280))] H := hP
  have hD : va_D A [(h0, .inr (12, fs_281)), (q_1, .inl (D.1 13, 1600, .inl (fun _ => 0))), (q_4, .inl (D.1 13, 6, .inl (fun _ => 0))), (q_179, .inl (D.1 13, 10, .inl (fun _ => 0))), (q_185, .inl (D.1 13, 6, .inl f_191)), (q_197, .inl (D.1 13, 906, .inl (fun _ => 0))), (q_225, .inl (D.1 13, 48, .inl (fun _ => 0))), (q_277, .inl (D.1 14, 3, .inl f_280))] := hD
  have hP := hP.sub (ws' := [(h0, .inr (12, fs_281)), (q_1, .inl (D.1 13, 1600, .inl (fun _ => 0))), (q_4, .inl (D.1 13, 6, .inl (fun _ => 0))), (q_179, .inl (D.1 13, 10, .inl (fun _ => 0))), (q_185, .inl (D.1 13, 6, .inl f_191)), (q_197, .inl (D.1 13, 906, .inl (fun _ => 0))), (q_225, .inl (D.1 13, 48, .inl (fun _ => 0)))]) [0, 1, 2, 3, 4, 5, 6] rfl
  have hD := hD.sub (ws' := [(h0, .inr (12, fs_281)), (q_1, .inl (D.1 13, 1600, .inl (fun _ => 0))), (q_4, .inl (D.1 13, 6, .inl (fun _ => 0))), (q_179, .inl (D.1 13, 10, .inl (fun _ => 0))), (q_185, .inl (D.1 13, 6, .inl f_191)), (q_197, .inl (D.1 13, 906, .inl (fun _ => 0))), (q_225, .inl (D.1 13, 48, .inl (fun _ => 0)))]) [0, 1, 2, 3, 4, 5, 6] (by decide) rfl
  refine lv_aload_n hx hb dX12_init_1267 rfl (lv_at hl 0 rfl) ?_
  refine lv_iconst (v := 2) hx hb dX12_init_1268 (by decide) ?_
  refine va_newa (atype := .char) (a0 := (2, .inl (fun _ => 0))) (ty := .char) (N' := 2) hx hb (ht _ ac_char) rfl hK hP hD hS hA (fun _ => rfl) (by decide) (by decide) (by decide) (Nat.le_trans (Nat.le_of_ble_eq_true rfl) hRc) (Nat.le_trans (Nat.le_of_ble_eq_true rfl) hRs) dX12_init_1269 (fun q_282 cA H hK2 hP hD hS => ?_)
  obtain rfl := z_cls_char hK hK2
  refine W.widen (k := 61) (n := 27695) (Nat.le_of_ble_eq_true rfl) (Nat.le_of_ble_eq_true rfl) ?_
  have hP : va_P D vwCl [(h0, .inr (12, fs_281)), (q_1, .inl (D.1 13, 1600, .inl (fun _ => 0))), (q_4, .inl (D.1 13, 6, .inl (fun _ => 0))), (q_179, .inl (D.1 13, 10, .inl (fun _ => 0))), (q_185, .inl (D.1 13, 6, .inl f_191)), (q_197, .inl (D.1 13, 906, .inl (fun _ => 0))), (q_225, .inl (D.1 13, 48, .inl (fun _ => 0))), (q_282, .inl (D.1 14, 2, .inl (fun _ => 0)))] H := hP
  have hD : va_D A [(h0, .inr (12, fs_281)), (q_1, .inl (D.1 13, 1600, .inl (fun _ => 0))), (q_4, .inl (D.1 13, 6, .inl (fun _ => 0))), (q_179, .inl (D.1 13, 10, .inl (fun _ => 0))), (q_185, .inl (D.1 13, 6, .inl f_191)), (q_197, .inl (D.1 13, 906, .inl (fun _ => 0))), (q_225, .inl (D.1 13, 48, .inl (fun _ => 0))), (q_282, .inl (D.1 14, 2, .inl (fun _ => 0)))] := hD
  refine lv_dup hx hb dX12_init_1271 rfl ?_
  refine lv_iconst (v := 0) hx hb dX12_init_1272 (by decide) ?_
  refine lv_bipush (v := 111) hx hb dX12_init_1273 (by decide) ?_
  refine va_cast hx hb hK hP hD hS 7 1 rfl rfl (z_in (by decide) (by decide)) dX12_init_1275 (fun H locs hP hD hS => ?_)
  generalize hf_283 : upd _ _ _ = f_283 at hP hD
  have hP : va_P D vwCl [(h0, .inr (12, fs_281)), (q_1, .inl (D.1 13, 1600, .inl (fun _ => 0))), (q_4, .inl (D.1 13, 6, .inl (fun _ => 0))), (q_179, .inl (D.1 13, 10, .inl (fun _ => 0))), (q_185, .inl (D.1 13, 6, .inl f_191)), (q_197, .inl (D.1 13, 906, .inl (fun _ => 0))), (q_225, .inl (D.1 13, 48, .inl (fun _ => 0))), (q_282, .inl (D.1 14, 2, .inl f_283))] H := hP
  have hD : va_D A [(h0, .inr (12, fs_281)), (q_1, .inl (D.1 13, 1600, .inl (fun _ => 0))), (q_4, .inl (D.1 13, 6, .inl (fun _ => 0))), (q_179, .inl (D.1 13, 10, .inl (fun _ => 0))), (q_185, .inl (D.1 13, 6, .inl f_191)), (q_197, .inl (D.1 13, 906, .inl (fun _ => 0))), (q_225, .inl (D.1 13, 48, .inl (fun _ => 0))), (q_282, .inl (D.1 14, 2, .inl f_283))] := hD
  refine lv_dup hx hb dX12_init_1276 rfl ?_
  refine lv_iconst (v := 1) hx hb dX12_init_1277 (by decide) ?_
  refine lv_bipush (v := 114) hx hb dX12_init_1278 (by decide) ?_
  refine va_cast hx hb hK hP hD hS 7 1 rfl rfl (z_in (by decide) (by decide)) dX12_init_1280 (fun H locs hP hD hS => ?_)
  generalize hf_284 : upd _ _ _ = f_284 at hP hD
  have hP : va_P D vwCl [(h0, .inr (12, fs_281)), (q_1, .inl (D.1 13, 1600, .inl (fun _ => 0))), (q_4, .inl (D.1 13, 6, .inl (fun _ => 0))), (q_179, .inl (D.1 13, 10, .inl (fun _ => 0))), (q_185, .inl (D.1 13, 6, .inl f_191)), (q_197, .inl (D.1 13, 906, .inl (fun _ => 0))), (q_225, .inl (D.1 13, 48, .inl (fun _ => 0))), (q_282, .inl (D.1 14, 2, .inl f_284))] H := hP
  have hD : va_D A [(h0, .inr (12, fs_281)), (q_1, .inl (D.1 13, 1600, .inl (fun _ => 0))), (q_4, .inl (D.1 13, 6, .inl (fun _ => 0))), (q_179, .inl (D.1 13, 10, .inl (fun _ => 0))), (q_185, .inl (D.1 13, 6, .inl f_191)), (q_197, .inl (D.1 13, 906, .inl (fun _ => 0))), (q_225, .inl (D.1 13, 48, .inl (fun _ => 0))), (q_282, .inl (D.1 14, 2, .inl f_284))] := hD
  refine va_putF (D := D) (ci := 12) (v := .ref q_282) (ty := .array .char) (C := RX12) (T := TX12) (N := 116) hx hb ht inX12 tyX12 tyX12_ok nmX12 hown hK hP hD hS 0 rfl rfl 87 (by decide) (ht (.fieldLink RX12 201 "CloneVolumesModel" "orAsked" "[C") fl_X12_201) (fun _ h9 => h9) rfl hin rfl (by decide +kernel) rfl rfl (by rw [hlen]; decide) dX12_init_1281 (fun H locs hP hD hS => ?_)
  have hP : va_P D vwCl [(h0, .inr (12, (fs_281.set 87 (.ref q_282)))), (q_1, .inl (D.1 13, 1600, .inl (fun _ => 0))), (q_4, .inl (D.1 13, 6, .inl (fun _ => 0))), (q_179, .inl (D.1 13, 10, .inl (fun _ => 0))), (q_185, .inl (D.1 13, 6, .inl f_191)), (q_197, .inl (D.1 13, 906, .inl (fun _ => 0))), (q_225, .inl (D.1 13, 48, .inl (fun _ => 0))), (q_282, .inl (D.1 14, 2, .inl f_284))] H := hP
  have hD : va_D A [(h0, .inr (12, (fs_281.set 87 (.ref q_282)))), (q_1, .inl (D.1 13, 1600, .inl (fun _ => 0))), (q_4, .inl (D.1 13, 6, .inl (fun _ => 0))), (q_179, .inl (D.1 13, 10, .inl (fun _ => 0))), (q_185, .inl (D.1 13, 6, .inl f_191)), (q_197, .inl (D.1 13, 906, .inl (fun _ => 0))), (q_225, .inl (D.1 13, 48, .inl (fun _ => 0))), (q_282, .inl (D.1 14, 2, .inl f_284))] := hD
  generalize hfs_285 : fs_281.set 87 (.ref q_282) = fs_285 at hP hD
  have hlen : fs_285.length = 116 := by rw [← hfs_285, List.length_set]; exact hlen
  have hP : va_P D vwCl [(h0, .inr (12, fs_285)), (q_1, .inl (D.1 13, 1600, .inl (fun _ => 0))), (q_4, .inl (D.1 13, 6, .inl (fun _ => 0))), (q_179, .inl (D.1 13, 10, .inl (fun _ => 0))), (q_185, .inl (D.1 13, 6, .inl f_191)), (q_197, .inl (D.1 13, 906, .inl (fun _ => 0))), (q_225, .inl (D.1 13, 48, .inl (fun _ => 0))), (q_282, .inl (D.1 14, 2, .inl f_284))] H := hP
  have hD : va_D A [(h0, .inr (12, fs_285)), (q_1, .inl (D.1 13, 1600, .inl (fun _ => 0))), (q_4, .inl (D.1 13, 6, .inl (fun _ => 0))), (q_179, .inl (D.1 13, 10, .inl (fun _ => 0))), (q_185, .inl (D.1 13, 6, .inl f_191)), (q_197, .inl (D.1 13, 906, .inl (fun _ => 0))), (q_225, .inl (D.1 13, 48, .inl (fun _ => 0))), (q_282, .inl (D.1 14, 2, .inl f_284))] := hD
  have hP := hP.sub (ws' := [(h0, .inr (12, fs_285)), (q_1, .inl (D.1 13, 1600, .inl (fun _ => 0))), (q_4, .inl (D.1 13, 6, .inl (fun _ => 0))), (q_179, .inl (D.1 13, 10, .inl (fun _ => 0))), (q_185, .inl (D.1 13, 6, .inl f_191)), (q_197, .inl (D.1 13, 906, .inl (fun _ => 0))), (q_225, .inl (D.1 13, 48, .inl (fun _ => 0)))]) [0, 1, 2, 3, 4, 5, 6] rfl
  have hD := hD.sub (ws' := [(h0, .inr (12, fs_285)), (q_1, .inl (D.1 13, 1600, .inl (fun _ => 0))), (q_4, .inl (D.1 13, 6, .inl (fun _ => 0))), (q_179, .inl (D.1 13, 10, .inl (fun _ => 0))), (q_185, .inl (D.1 13, 6, .inl f_191)), (q_197, .inl (D.1 13, 906, .inl (fun _ => 0))), (q_225, .inl (D.1 13, 48, .inl (fun _ => 0)))]) [0, 1, 2, 3, 4, 5, 6] (by decide) rfl
  refine lv_aload_n hx hb dX12_init_1284 rfl (lv_at hl 0 rfl) ?_
  refine lv_iconst (v := 3) hx hb dX12_init_1285 (by decide) ?_
  refine va_newa (atype := .char) (a0 := (3, .inl (fun _ => 0))) (ty := .char) (N' := 3) hx hb (ht _ ac_char) rfl hK hP hD hS hA (fun _ => rfl) (by decide) (by decide) (by decide) (Nat.le_trans (Nat.le_of_ble_eq_true rfl) hRc) (Nat.le_trans (Nat.le_of_ble_eq_true rfl) hRs) dX12_init_1286 (fun q_286 cA H hK2 hP hD hS => ?_)
  obtain rfl := z_cls_char hK hK2
  refine W.widen (k := 62) (n := 27698) (Nat.le_of_ble_eq_true rfl) (Nat.le_of_ble_eq_true rfl) ?_
  have hP : va_P D vwCl [(h0, .inr (12, fs_285)), (q_1, .inl (D.1 13, 1600, .inl (fun _ => 0))), (q_4, .inl (D.1 13, 6, .inl (fun _ => 0))), (q_179, .inl (D.1 13, 10, .inl (fun _ => 0))), (q_185, .inl (D.1 13, 6, .inl f_191)), (q_197, .inl (D.1 13, 906, .inl (fun _ => 0))), (q_225, .inl (D.1 13, 48, .inl (fun _ => 0))), (q_286, .inl (D.1 14, 3, .inl (fun _ => 0)))] H := hP
  have hD : va_D A [(h0, .inr (12, fs_285)), (q_1, .inl (D.1 13, 1600, .inl (fun _ => 0))), (q_4, .inl (D.1 13, 6, .inl (fun _ => 0))), (q_179, .inl (D.1 13, 10, .inl (fun _ => 0))), (q_185, .inl (D.1 13, 6, .inl f_191)), (q_197, .inl (D.1 13, 906, .inl (fun _ => 0))), (q_225, .inl (D.1 13, 48, .inl (fun _ => 0))), (q_286, .inl (D.1 14, 3, .inl (fun _ => 0)))] := hD
  refine lv_dup hx hb dX12_init_1288 rfl ?_
  refine lv_iconst (v := 0) hx hb dX12_init_1289 (by decide) ?_
  refine lv_bipush (v := 97) hx hb dX12_init_1290 (by decide) ?_
  refine va_cast hx hb hK hP hD hS 7 1 rfl rfl (z_in (by decide) (by decide)) dX12_init_1292 (fun H locs hP hD hS => ?_)
  generalize hf_287 : upd _ _ _ = f_287 at hP hD
  have hP : va_P D vwCl [(h0, .inr (12, fs_285)), (q_1, .inl (D.1 13, 1600, .inl (fun _ => 0))), (q_4, .inl (D.1 13, 6, .inl (fun _ => 0))), (q_179, .inl (D.1 13, 10, .inl (fun _ => 0))), (q_185, .inl (D.1 13, 6, .inl f_191)), (q_197, .inl (D.1 13, 906, .inl (fun _ => 0))), (q_225, .inl (D.1 13, 48, .inl (fun _ => 0))), (q_286, .inl (D.1 14, 3, .inl f_287))] H := hP
  have hD : va_D A [(h0, .inr (12, fs_285)), (q_1, .inl (D.1 13, 1600, .inl (fun _ => 0))), (q_4, .inl (D.1 13, 6, .inl (fun _ => 0))), (q_179, .inl (D.1 13, 10, .inl (fun _ => 0))), (q_185, .inl (D.1 13, 6, .inl f_191)), (q_197, .inl (D.1 13, 906, .inl (fun _ => 0))), (q_225, .inl (D.1 13, 48, .inl (fun _ => 0))), (q_286, .inl (D.1 14, 3, .inl f_287))] := hD
  refine lv_dup hx hb dX12_init_1293 rfl ?_
  refine lv_iconst (v := 1) hx hb dX12_init_1294 (by decide) ?_
  refine lv_bipush (v := 108) hx hb dX12_init_1295 (by decide) ?_
  refine va_cast hx hb hK hP hD hS 7 1 rfl rfl (z_in (by decide) (by decide)) dX12_init_1297 (fun H locs hP hD hS => ?_)
  generalize hf_288 : upd _ _ _ = f_288 at hP hD
  have hP : va_P D vwCl [(h0, .inr (12, fs_285)), (q_1, .inl (D.1 13, 1600, .inl (fun _ => 0))), (q_4, .inl (D.1 13, 6, .inl (fun _ => 0))), (q_179, .inl (D.1 13, 10, .inl (fun _ => 0))), (q_185, .inl (D.1 13, 6, .inl f_191)), (q_197, .inl (D.1 13, 906, .inl (fun _ => 0))), (q_225, .inl (D.1 13, 48, .inl (fun _ => 0))), (q_286, .inl (D.1 14, 3, .inl f_288))] H := hP
  have hD : va_D A [(h0, .inr (12, fs_285)), (q_1, .inl (D.1 13, 1600, .inl (fun _ => 0))), (q_4, .inl (D.1 13, 6, .inl (fun _ => 0))), (q_179, .inl (D.1 13, 10, .inl (fun _ => 0))), (q_185, .inl (D.1 13, 6, .inl f_191)), (q_197, .inl (D.1 13, 906, .inl (fun _ => 0))), (q_225, .inl (D.1 13, 48, .inl (fun _ => 0))), (q_286, .inl (D.1 14, 3, .inl f_288))] := hD
  refine lv_dup hx hb dX12_init_1298 rfl ?_
  refine lv_iconst (v := 2) hx hb dX12_init_1299 (by decide) ?_
  refine lv_bipush (v := 108) hx hb dX12_init_1300 (by decide) ?_
  refine va_cast hx hb hK hP hD hS 7 1 rfl rfl (z_in (by decide) (by decide)) dX12_init_1302 (fun H locs hP hD hS => ?_)
  generalize hf_289 : upd _ _ _ = f_289 at hP hD
  have hP : va_P D vwCl [(h0, .inr (12, fs_285)), (q_1, .inl (D.1 13, 1600, .inl (fun _ => 0))), (q_4, .inl (D.1 13, 6, .inl (fun _ => 0))), (q_179, .inl (D.1 13, 10, .inl (fun _ => 0))), (q_185, .inl (D.1 13, 6, .inl f_191)), (q_197, .inl (D.1 13, 906, .inl (fun _ => 0))), (q_225, .inl (D.1 13, 48, .inl (fun _ => 0))), (q_286, .inl (D.1 14, 3, .inl f_289))] H := hP
  have hD : va_D A [(h0, .inr (12, fs_285)), (q_1, .inl (D.1 13, 1600, .inl (fun _ => 0))), (q_4, .inl (D.1 13, 6, .inl (fun _ => 0))), (q_179, .inl (D.1 13, 10, .inl (fun _ => 0))), (q_185, .inl (D.1 13, 6, .inl f_191)), (q_197, .inl (D.1 13, 906, .inl (fun _ => 0))), (q_225, .inl (D.1 13, 48, .inl (fun _ => 0))), (q_286, .inl (D.1 14, 3, .inl f_289))] := hD
  refine va_putF (D := D) (ci := 12) (v := .ref q_286) (ty := .array .char) (C := RX12) (T := TX12) (N := 116) hx hb ht inX12 tyX12 tyX12_ok nmX12 hown hK hP hD hS 0 rfl rfl 88 (by decide) (ht (.fieldLink RX12 204 "CloneVolumesModel" "allAsked" "[C") fl_X12_204) (fun _ h9 => h9) rfl hin rfl (by decide +kernel) rfl rfl (by rw [hlen]; decide) dX12_init_1303 (fun H locs hP hD hS => ?_)
  have hP : va_P D vwCl [(h0, .inr (12, (fs_285.set 88 (.ref q_286)))), (q_1, .inl (D.1 13, 1600, .inl (fun _ => 0))), (q_4, .inl (D.1 13, 6, .inl (fun _ => 0))), (q_179, .inl (D.1 13, 10, .inl (fun _ => 0))), (q_185, .inl (D.1 13, 6, .inl f_191)), (q_197, .inl (D.1 13, 906, .inl (fun _ => 0))), (q_225, .inl (D.1 13, 48, .inl (fun _ => 0))), (q_286, .inl (D.1 14, 3, .inl f_289))] H := hP
  have hD : va_D A [(h0, .inr (12, (fs_285.set 88 (.ref q_286)))), (q_1, .inl (D.1 13, 1600, .inl (fun _ => 0))), (q_4, .inl (D.1 13, 6, .inl (fun _ => 0))), (q_179, .inl (D.1 13, 10, .inl (fun _ => 0))), (q_185, .inl (D.1 13, 6, .inl f_191)), (q_197, .inl (D.1 13, 906, .inl (fun _ => 0))), (q_225, .inl (D.1 13, 48, .inl (fun _ => 0))), (q_286, .inl (D.1 14, 3, .inl f_289))] := hD
  generalize hfs_290 : fs_285.set 88 (.ref q_286) = fs_290 at hP hD
  have hlen : fs_290.length = 116 := by rw [← hfs_290, List.length_set]; exact hlen
  have hP : va_P D vwCl [(h0, .inr (12, fs_290)), (q_1, .inl (D.1 13, 1600, .inl (fun _ => 0))), (q_4, .inl (D.1 13, 6, .inl (fun _ => 0))), (q_179, .inl (D.1 13, 10, .inl (fun _ => 0))), (q_185, .inl (D.1 13, 6, .inl f_191)), (q_197, .inl (D.1 13, 906, .inl (fun _ => 0))), (q_225, .inl (D.1 13, 48, .inl (fun _ => 0))), (q_286, .inl (D.1 14, 3, .inl f_289))] H := hP
  have hD : va_D A [(h0, .inr (12, fs_290)), (q_1, .inl (D.1 13, 1600, .inl (fun _ => 0))), (q_4, .inl (D.1 13, 6, .inl (fun _ => 0))), (q_179, .inl (D.1 13, 10, .inl (fun _ => 0))), (q_185, .inl (D.1 13, 6, .inl f_191)), (q_197, .inl (D.1 13, 906, .inl (fun _ => 0))), (q_225, .inl (D.1 13, 48, .inl (fun _ => 0))), (q_286, .inl (D.1 14, 3, .inl f_289))] := hD
  have hP := hP.sub (ws' := [(h0, .inr (12, fs_290)), (q_1, .inl (D.1 13, 1600, .inl (fun _ => 0))), (q_4, .inl (D.1 13, 6, .inl (fun _ => 0))), (q_179, .inl (D.1 13, 10, .inl (fun _ => 0))), (q_185, .inl (D.1 13, 6, .inl f_191)), (q_197, .inl (D.1 13, 906, .inl (fun _ => 0))), (q_225, .inl (D.1 13, 48, .inl (fun _ => 0)))]) [0, 1, 2, 3, 4, 5, 6] rfl
  have hD := hD.sub (ws' := [(h0, .inr (12, fs_290)), (q_1, .inl (D.1 13, 1600, .inl (fun _ => 0))), (q_4, .inl (D.1 13, 6, .inl (fun _ => 0))), (q_179, .inl (D.1 13, 10, .inl (fun _ => 0))), (q_185, .inl (D.1 13, 6, .inl f_191)), (q_197, .inl (D.1 13, 906, .inl (fun _ => 0))), (q_225, .inl (D.1 13, 48, .inl (fun _ => 0)))]) [0, 1, 2, 3, 4, 5, 6] (by decide) rfl
  refine lv_aload_n hx hb dX12_init_1306 rfl (lv_at hl 0 rfl) ?_
  refine lv_iconst (v := 3) hx hb dX12_init_1307 (by decide) ?_
  refine va_newa (atype := .char) (a0 := (3, .inl (fun _ => 0))) (ty := .char) (N' := 3) hx hb (ht _ ac_char) rfl hK hP hD hS hA (fun _ => rfl) (by decide) (by decide) (by decide) (Nat.le_trans (Nat.le_of_ble_eq_true rfl) hRc) (Nat.le_trans (Nat.le_of_ble_eq_true rfl) hRs) dX12_init_1308 (fun q_291 cA H hK2 hP hD hS => ?_)
  obtain rfl := z_cls_char hK hK2
  refine W.widen (k := 63) (n := 27701) (Nat.le_of_ble_eq_true rfl) (Nat.le_of_ble_eq_true rfl) ?_
  have hP : va_P D vwCl [(h0, .inr (12, fs_290)), (q_1, .inl (D.1 13, 1600, .inl (fun _ => 0))), (q_4, .inl (D.1 13, 6, .inl (fun _ => 0))), (q_179, .inl (D.1 13, 10, .inl (fun _ => 0))), (q_185, .inl (D.1 13, 6, .inl f_191)), (q_197, .inl (D.1 13, 906, .inl (fun _ => 0))), (q_225, .inl (D.1 13, 48, .inl (fun _ => 0))), (q_291, .inl (D.1 14, 3, .inl (fun _ => 0)))] H := hP
  have hD : va_D A [(h0, .inr (12, fs_290)), (q_1, .inl (D.1 13, 1600, .inl (fun _ => 0))), (q_4, .inl (D.1 13, 6, .inl (fun _ => 0))), (q_179, .inl (D.1 13, 10, .inl (fun _ => 0))), (q_185, .inl (D.1 13, 6, .inl f_191)), (q_197, .inl (D.1 13, 906, .inl (fun _ => 0))), (q_225, .inl (D.1 13, 48, .inl (fun _ => 0))), (q_291, .inl (D.1 14, 3, .inl (fun _ => 0)))] := hD
  refine lv_dup hx hb dX12_init_1310 rfl ?_
  refine lv_iconst (v := 0) hx hb dX12_init_1311 (by decide) ?_
  refine lv_bipush (v := 109) hx hb dX12_init_1312 (by decide) ?_
  refine va_cast hx hb hK hP hD hS 7 1 rfl rfl (z_in (by decide) (by decide)) dX12_init_1314 (fun H locs hP hD hS => ?_)
  generalize hf_292 : upd _ _ _ = f_292 at hP hD
  have hP : va_P D vwCl [(h0, .inr (12, fs_290)), (q_1, .inl (D.1 13, 1600, .inl (fun _ => 0))), (q_4, .inl (D.1 13, 6, .inl (fun _ => 0))), (q_179, .inl (D.1 13, 10, .inl (fun _ => 0))), (q_185, .inl (D.1 13, 6, .inl f_191)), (q_197, .inl (D.1 13, 906, .inl (fun _ => 0))), (q_225, .inl (D.1 13, 48, .inl (fun _ => 0))), (q_291, .inl (D.1 14, 3, .inl f_292))] H := hP
  have hD : va_D A [(h0, .inr (12, fs_290)), (q_1, .inl (D.1 13, 1600, .inl (fun _ => 0))), (q_4, .inl (D.1 13, 6, .inl (fun _ => 0))), (q_179, .inl (D.1 13, 10, .inl (fun _ => 0))), (q_185, .inl (D.1 13, 6, .inl f_191)), (q_197, .inl (D.1 13, 906, .inl (fun _ => 0))), (q_225, .inl (D.1 13, 48, .inl (fun _ => 0))), (q_291, .inl (D.1 14, 3, .inl f_292))] := hD
  refine lv_dup hx hb dX12_init_1315 rfl ?_
  refine lv_iconst (v := 1) hx hb dX12_init_1316 (by decide) ?_
  refine lv_bipush (v := 105) hx hb dX12_init_1317 (by decide) ?_
  refine va_cast hx hb hK hP hD hS 7 1 rfl rfl (z_in (by decide) (by decide)) dX12_init_1319 (fun H locs hP hD hS => ?_)
  generalize hf_293 : upd _ _ _ = f_293 at hP hD
  have hP : va_P D vwCl [(h0, .inr (12, fs_290)), (q_1, .inl (D.1 13, 1600, .inl (fun _ => 0))), (q_4, .inl (D.1 13, 6, .inl (fun _ => 0))), (q_179, .inl (D.1 13, 10, .inl (fun _ => 0))), (q_185, .inl (D.1 13, 6, .inl f_191)), (q_197, .inl (D.1 13, 906, .inl (fun _ => 0))), (q_225, .inl (D.1 13, 48, .inl (fun _ => 0))), (q_291, .inl (D.1 14, 3, .inl f_293))] H := hP
  have hD : va_D A [(h0, .inr (12, fs_290)), (q_1, .inl (D.1 13, 1600, .inl (fun _ => 0))), (q_4, .inl (D.1 13, 6, .inl (fun _ => 0))), (q_179, .inl (D.1 13, 10, .inl (fun _ => 0))), (q_185, .inl (D.1 13, 6, .inl f_191)), (q_197, .inl (D.1 13, 906, .inl (fun _ => 0))), (q_225, .inl (D.1 13, 48, .inl (fun _ => 0))), (q_291, .inl (D.1 14, 3, .inl f_293))] := hD
  refine lv_dup hx hb dX12_init_1320 rfl ?_
  refine lv_iconst (v := 2) hx hb dX12_init_1321 (by decide) ?_
  refine lv_bipush (v := 110) hx hb dX12_init_1322 (by decide) ?_
  refine va_cast hx hb hK hP hD hS 7 1 rfl rfl (z_in (by decide) (by decide)) dX12_init_1324 (fun H locs hP hD hS => ?_)
  generalize hf_294 : upd _ _ _ = f_294 at hP hD
  have hP : va_P D vwCl [(h0, .inr (12, fs_290)), (q_1, .inl (D.1 13, 1600, .inl (fun _ => 0))), (q_4, .inl (D.1 13, 6, .inl (fun _ => 0))), (q_179, .inl (D.1 13, 10, .inl (fun _ => 0))), (q_185, .inl (D.1 13, 6, .inl f_191)), (q_197, .inl (D.1 13, 906, .inl (fun _ => 0))), (q_225, .inl (D.1 13, 48, .inl (fun _ => 0))), (q_291, .inl (D.1 14, 3, .inl f_294))] H := hP
  have hD : va_D A [(h0, .inr (12, fs_290)), (q_1, .inl (D.1 13, 1600, .inl (fun _ => 0))), (q_4, .inl (D.1 13, 6, .inl (fun _ => 0))), (q_179, .inl (D.1 13, 10, .inl (fun _ => 0))), (q_185, .inl (D.1 13, 6, .inl f_191)), (q_197, .inl (D.1 13, 906, .inl (fun _ => 0))), (q_225, .inl (D.1 13, 48, .inl (fun _ => 0))), (q_291, .inl (D.1 14, 3, .inl f_294))] := hD
  refine va_putF (D := D) (ci := 12) (v := .ref q_291) (ty := .array .char) (C := RX12) (T := TX12) (N := 116) hx hb ht inX12 tyX12 tyX12_ok nmX12 hown hK hP hD hS 0 rfl rfl 89 (by decide) (ht (.fieldLink RX12 207 "CloneVolumesModel" "minAsked" "[C") fl_X12_207) (fun _ h9 => h9) rfl hin rfl (by decide +kernel) rfl rfl (by rw [hlen]; decide) dX12_init_1325 (fun H locs hP hD hS => ?_)
  have hP : va_P D vwCl [(h0, .inr (12, (fs_290.set 89 (.ref q_291)))), (q_1, .inl (D.1 13, 1600, .inl (fun _ => 0))), (q_4, .inl (D.1 13, 6, .inl (fun _ => 0))), (q_179, .inl (D.1 13, 10, .inl (fun _ => 0))), (q_185, .inl (D.1 13, 6, .inl f_191)), (q_197, .inl (D.1 13, 906, .inl (fun _ => 0))), (q_225, .inl (D.1 13, 48, .inl (fun _ => 0))), (q_291, .inl (D.1 14, 3, .inl f_294))] H := hP
  have hD : va_D A [(h0, .inr (12, (fs_290.set 89 (.ref q_291)))), (q_1, .inl (D.1 13, 1600, .inl (fun _ => 0))), (q_4, .inl (D.1 13, 6, .inl (fun _ => 0))), (q_179, .inl (D.1 13, 10, .inl (fun _ => 0))), (q_185, .inl (D.1 13, 6, .inl f_191)), (q_197, .inl (D.1 13, 906, .inl (fun _ => 0))), (q_225, .inl (D.1 13, 48, .inl (fun _ => 0))), (q_291, .inl (D.1 14, 3, .inl f_294))] := hD
  generalize hfs_295 : fs_290.set 89 (.ref q_291) = fs_295 at hP hD
  have hlen : fs_295.length = 116 := by rw [← hfs_295, List.length_set]; exact hlen
  have hP : va_P D vwCl [(h0, .inr (12, fs_295)), (q_1, .inl (D.1 13, 1600, .inl (fun _ => 0))), (q_4, .inl (D.1 13, 6, .inl (fun _ => 0))), (q_179, .inl (D.1 13, 10, .inl (fun _ => 0))), (q_185, .inl (D.1 13, 6, .inl f_191)), (q_197, .inl (D.1 13, 906, .inl (fun _ => 0))), (q_225, .inl (D.1 13, 48, .inl (fun _ => 0))), (q_291, .inl (D.1 14, 3, .inl f_294))] H := hP
  have hD : va_D A [(h0, .inr (12, fs_295)), (q_1, .inl (D.1 13, 1600, .inl (fun _ => 0))), (q_4, .inl (D.1 13, 6, .inl (fun _ => 0))), (q_179, .inl (D.1 13, 10, .inl (fun _ => 0))), (q_185, .inl (D.1 13, 6, .inl f_191)), (q_197, .inl (D.1 13, 906, .inl (fun _ => 0))), (q_225, .inl (D.1 13, 48, .inl (fun _ => 0))), (q_291, .inl (D.1 14, 3, .inl f_294))] := hD
  have hP := hP.sub (ws' := [(h0, .inr (12, fs_295)), (q_1, .inl (D.1 13, 1600, .inl (fun _ => 0))), (q_4, .inl (D.1 13, 6, .inl (fun _ => 0))), (q_179, .inl (D.1 13, 10, .inl (fun _ => 0))), (q_185, .inl (D.1 13, 6, .inl f_191)), (q_197, .inl (D.1 13, 906, .inl (fun _ => 0))), (q_225, .inl (D.1 13, 48, .inl (fun _ => 0)))]) [0, 1, 2, 3, 4, 5, 6] rfl
  have hD := hD.sub (ws' := [(h0, .inr (12, fs_295)), (q_1, .inl (D.1 13, 1600, .inl (fun _ => 0))), (q_4, .inl (D.1 13, 6, .inl (fun _ => 0))), (q_179, .inl (D.1 13, 10, .inl (fun _ => 0))), (q_185, .inl (D.1 13, 6, .inl f_191)), (q_197, .inl (D.1 13, 906, .inl (fun _ => 0))), (q_225, .inl (D.1 13, 48, .inl (fun _ => 0)))]) [0, 1, 2, 3, 4, 5, 6] (by decide) rfl
  exact kk q_277 q_282 q_286 q_291 fs_295 _ _ (by rw [← hfs_295, ← hfs_290, ← hfs_285, ← hfs_281]) hP hD hS
set_option maxHeartbeats 4000000 in
set_option maxRecDepth 100000 in
theorem cM_17 {h0 : Nat} {q_1 : Nat} {q_4 : Nat} {q_179 : Nat} {q_185 : Nat} {q_197 : Nat} {q_225 : Nat} {f_191 : Nat → Int32} (hx : p.tables.exec = Jvm.exec) (hb : c.code = cX12_init) (ht : ∀ w ∈ lw_gd, w.before args s = true) (hown : s.vm.findClass RX12 = some m.cls) (hin : meth.name = "<init>") (hK : va_K D vwCl (TY D) s) (hA : ∀ q : Nat, s.heap.size ≤ q → A q) (hRc : 80 ≤ R.cells) (hRs : 35050 ≤ R.slots) (hl : lv_has ls 1 [(0, .ref h0)]) {fs : List Value} (hlen : fs.length = 116) {H : Heap} {locs : List Loc} (hP : va_P D vwCl [(h0, .inr (12, fs)), (q_1, .inl (D.1 13, 1600, .inl (fun _ => 0))), (q_4, .inl (D.1 13, 6, .inl (fun _ => 0))), (q_179, .inl (D.1 13, 10, .inl (fun _ => 0))), (q_185, .inl (D.1 13, 6, .inl f_191)), (q_197, .inl (D.1 13, 906, .inl (fun _ => 0))), (q_225, .inl (D.1 13, 48, .inl (fun _ => 0)))] H) (hD : va_D A [(h0, .inr (12, fs)), (q_1, .inl (D.1 13, 1600, .inl (fun _ => 0))), (q_4, .inl (D.1 13, 6, .inl (fun _ => 0))), (q_179, .inl (D.1 13, 10, .inl (fun _ => 0))), (q_185, .inl (D.1 13, 6, .inl f_191)), (q_197, .inl (D.1 13, 906, .inl (fun _ => 0))), (q_225, .inl (D.1 13, 48, .inl (fun _ => 0)))]) (hS : va_S A s.heap H locs)
    (kk : ∀ (q_296 : Nat) (q_301 : Nat) (q_308 : Nat) (fs' : List Value) (H : Heap) (locs : List Loc), fs' = (((fs.set 90 (.ref q_296)).set 91 (.ref q_301)).set 92 (.ref q_308)) → va_P D vwCl [(h0, .inr (12, fs')), (q_1, .inl (D.1 13, 1600, .inl (fun _ => 0))), (q_4, .inl (D.1 13, 6, .inl (fun _ => 0))), (q_179, .inl (D.1 13, 10, .inl (fun _ => 0))), (q_185, .inl (D.1 13, 6, .inl f_191)), (q_197, .inl (D.1 13, 906, .inl (fun _ => 0))), (q_225, .inl (D.1 13, 48, .inl (fun _ => 0)))] H → va_D A [(h0, .inr (12, fs')), (q_1, .inl (D.1 13, 1600, .inl (fun _ => 0))), (q_4, .inl (D.1 13, 6, .inl (fun _ => 0))), (q_179, .inl (D.1 13, 10, .inl (fun _ => 0))), (q_185, .inl (D.1 13, 6, .inl f_191)), (q_197, .inl (D.1 13, 906, .inl (fun _ => 0))), (q_225, .inl (D.1 13, 48, .inl (fun _ => 0)))] → va_S A s.heap H locs → W p l e R s m args below meth c H locs 66 27714 Q (F0 m 1414 ls [])) : W p l e R s m args below meth c H locs 63 27701 Q (F0 m 1328 ls []) := by
  refine lv_aload_n hx hb dX12_init_1328 rfl (lv_at hl 0 rfl) ?_
  refine lv_iconst (v := 3) hx hb dX12_init_1329 (by decide) ?_
  refine va_newa (atype := .char) (a0 := (3, .inl (fun _ => 0))) (ty := .char) (N' := 3) hx hb (ht _ ac_char) rfl hK hP hD hS hA (fun _ => rfl) (by decide) (by decide) (by decide) (Nat.le_trans (Nat.le_of_ble_eq_true rfl) hRc) (Nat.le_trans (Nat.le_of_ble_eq_true rfl) hRs) dX12_init_1330 (fun q_296 cA H hK2 hP hD hS => ?_)
  obtain rfl := z_cls_char hK hK2
  refine W.widen (k := 64) (n := 27704) (Nat.le_of_ble_eq_true rfl) (Nat.le_of_ble_eq_true rfl) ?_
  have hP : va_P D vwCl [(h0, .inr (12, fs)), (q_1, .inl (D.1 13, 1600, .inl (fun _ => 0))), (q_4, .inl (D.1 13, 6, .inl (fun _ => 0))), (q_179, .inl (D.1 13, 10, .inl (fun _ => 0))), (q_185, .inl (D.1 13, 6, .inl f_191)), (q_197, .inl (D.1 13, 906, .inl (fun _ => 0))), (q_225, .inl (D.1 13, 48, .inl (fun _ => 0))), (q_296, .inl (D.1 14, 3, .inl (fun _ => 0)))] H := hP
  have hD : va_D A [(h0, .inr (12, fs)), (q_1, .inl (D.1 13, 1600, .inl (fun _ => 0))), (q_4, .inl (D.1 13, 6, .inl (fun _ => 0))), (q_179, .inl (D.1 13, 10, .inl (fun _ => 0))), (q_185, .inl (D.1 13, 6, .inl f_191)), (q_197, .inl (D.1 13, 906, .inl (fun _ => 0))), (q_225, .inl (D.1 13, 48, .inl (fun _ => 0))), (q_296, .inl (D.1 14, 3, .inl (fun _ => 0)))] := hD
  refine lv_dup hx hb dX12_init_1332 rfl ?_
  refine lv_iconst (v := 0) hx hb dX12_init_1333 (by decide) ?_
  refine lv_bipush (v := 109) hx hb dX12_init_1334 (by decide) ?_
  refine va_cast hx hb hK hP hD hS 7 1 rfl rfl (z_in (by decide) (by decide)) dX12_init_1336 (fun H locs hP hD hS => ?_)
  generalize hf_297 : upd _ _ _ = f_297 at hP hD
  have hP : va_P D vwCl [(h0, .inr (12, fs)), (q_1, .inl (D.1 13, 1600, .inl (fun _ => 0))), (q_4, .inl (D.1 13, 6, .inl (fun _ => 0))), (q_179, .inl (D.1 13, 10, .inl (fun _ => 0))), (q_185, .inl (D.1 13, 6, .inl f_191)), (q_197, .inl (D.1 13, 906, .inl (fun _ => 0))), (q_225, .inl (D.1 13, 48, .inl (fun _ => 0))), (q_296, .inl (D.1 14, 3, .inl f_297))] H := hP
  have hD : va_D A [(h0, .inr (12, fs)), (q_1, .inl (D.1 13, 1600, .inl (fun _ => 0))), (q_4, .inl (D.1 13, 6, .inl (fun _ => 0))), (q_179, .inl (D.1 13, 10, .inl (fun _ => 0))), (q_185, .inl (D.1 13, 6, .inl f_191)), (q_197, .inl (D.1 13, 906, .inl (fun _ => 0))), (q_225, .inl (D.1 13, 48, .inl (fun _ => 0))), (q_296, .inl (D.1 14, 3, .inl f_297))] := hD
  refine lv_dup hx hb dX12_init_1337 rfl ?_
  refine lv_iconst (v := 1) hx hb dX12_init_1338 (by decide) ?_
  refine lv_bipush (v := 97) hx hb dX12_init_1339 (by decide) ?_
  refine va_cast hx hb hK hP hD hS 7 1 rfl rfl (z_in (by decide) (by decide)) dX12_init_1341 (fun H locs hP hD hS => ?_)
  generalize hf_298 : upd _ _ _ = f_298 at hP hD
  have hP : va_P D vwCl [(h0, .inr (12, fs)), (q_1, .inl (D.1 13, 1600, .inl (fun _ => 0))), (q_4, .inl (D.1 13, 6, .inl (fun _ => 0))), (q_179, .inl (D.1 13, 10, .inl (fun _ => 0))), (q_185, .inl (D.1 13, 6, .inl f_191)), (q_197, .inl (D.1 13, 906, .inl (fun _ => 0))), (q_225, .inl (D.1 13, 48, .inl (fun _ => 0))), (q_296, .inl (D.1 14, 3, .inl f_298))] H := hP
  have hD : va_D A [(h0, .inr (12, fs)), (q_1, .inl (D.1 13, 1600, .inl (fun _ => 0))), (q_4, .inl (D.1 13, 6, .inl (fun _ => 0))), (q_179, .inl (D.1 13, 10, .inl (fun _ => 0))), (q_185, .inl (D.1 13, 6, .inl f_191)), (q_197, .inl (D.1 13, 906, .inl (fun _ => 0))), (q_225, .inl (D.1 13, 48, .inl (fun _ => 0))), (q_296, .inl (D.1 14, 3, .inl f_298))] := hD
  refine lv_dup hx hb dX12_init_1342 rfl ?_
  refine lv_iconst (v := 2) hx hb dX12_init_1343 (by decide) ?_
  refine lv_bipush (v := 120) hx hb dX12_init_1344 (by decide) ?_
  refine va_cast hx hb hK hP hD hS 7 1 rfl rfl (z_in (by decide) (by decide)) dX12_init_1346 (fun H locs hP hD hS => ?_)
  generalize hf_299 : upd _ _ _ = f_299 at hP hD
  have hP : va_P D vwCl [(h0, .inr (12, fs)), (q_1, .inl (D.1 13, 1600, .inl (fun _ => 0))), (q_4, .inl (D.1 13, 6, .inl (fun _ => 0))), (q_179, .inl (D.1 13, 10, .inl (fun _ => 0))), (q_185, .inl (D.1 13, 6, .inl f_191)), (q_197, .inl (D.1 13, 906, .inl (fun _ => 0))), (q_225, .inl (D.1 13, 48, .inl (fun _ => 0))), (q_296, .inl (D.1 14, 3, .inl f_299))] H := hP
  have hD : va_D A [(h0, .inr (12, fs)), (q_1, .inl (D.1 13, 1600, .inl (fun _ => 0))), (q_4, .inl (D.1 13, 6, .inl (fun _ => 0))), (q_179, .inl (D.1 13, 10, .inl (fun _ => 0))), (q_185, .inl (D.1 13, 6, .inl f_191)), (q_197, .inl (D.1 13, 906, .inl (fun _ => 0))), (q_225, .inl (D.1 13, 48, .inl (fun _ => 0))), (q_296, .inl (D.1 14, 3, .inl f_299))] := hD
  refine va_putF (D := D) (ci := 12) (v := .ref q_296) (ty := .array .char) (C := RX12) (T := TX12) (N := 116) hx hb ht inX12 tyX12 tyX12_ok nmX12 hown hK hP hD hS 0 rfl rfl 90 (by decide) (ht (.fieldLink RX12 210 "CloneVolumesModel" "maxAsked" "[C") fl_X12_210) (fun _ h9 => h9) rfl hin rfl (by decide +kernel) rfl rfl (by rw [hlen]; decide) dX12_init_1347 (fun H locs hP hD hS => ?_)
  have hP : va_P D vwCl [(h0, .inr (12, (fs.set 90 (.ref q_296)))), (q_1, .inl (D.1 13, 1600, .inl (fun _ => 0))), (q_4, .inl (D.1 13, 6, .inl (fun _ => 0))), (q_179, .inl (D.1 13, 10, .inl (fun _ => 0))), (q_185, .inl (D.1 13, 6, .inl f_191)), (q_197, .inl (D.1 13, 906, .inl (fun _ => 0))), (q_225, .inl (D.1 13, 48, .inl (fun _ => 0))), (q_296, .inl (D.1 14, 3, .inl f_299))] H := hP
  have hD : va_D A [(h0, .inr (12, (fs.set 90 (.ref q_296)))), (q_1, .inl (D.1 13, 1600, .inl (fun _ => 0))), (q_4, .inl (D.1 13, 6, .inl (fun _ => 0))), (q_179, .inl (D.1 13, 10, .inl (fun _ => 0))), (q_185, .inl (D.1 13, 6, .inl f_191)), (q_197, .inl (D.1 13, 906, .inl (fun _ => 0))), (q_225, .inl (D.1 13, 48, .inl (fun _ => 0))), (q_296, .inl (D.1 14, 3, .inl f_299))] := hD
  generalize hfs_300 : fs.set 90 (.ref q_296) = fs_300 at hP hD
  have hlen : fs_300.length = 116 := by rw [← hfs_300, List.length_set]; exact hlen
  have hP : va_P D vwCl [(h0, .inr (12, fs_300)), (q_1, .inl (D.1 13, 1600, .inl (fun _ => 0))), (q_4, .inl (D.1 13, 6, .inl (fun _ => 0))), (q_179, .inl (D.1 13, 10, .inl (fun _ => 0))), (q_185, .inl (D.1 13, 6, .inl f_191)), (q_197, .inl (D.1 13, 906, .inl (fun _ => 0))), (q_225, .inl (D.1 13, 48, .inl (fun _ => 0))), (q_296, .inl (D.1 14, 3, .inl f_299))] H := hP
  have hD : va_D A [(h0, .inr (12, fs_300)), (q_1, .inl (D.1 13, 1600, .inl (fun _ => 0))), (q_4, .inl (D.1 13, 6, .inl (fun _ => 0))), (q_179, .inl (D.1 13, 10, .inl (fun _ => 0))), (q_185, .inl (D.1 13, 6, .inl f_191)), (q_197, .inl (D.1 13, 906, .inl (fun _ => 0))), (q_225, .inl (D.1 13, 48, .inl (fun _ => 0))), (q_296, .inl (D.1 14, 3, .inl f_299))] := hD
  have hP := hP.sub (ws' := [(h0, .inr (12, fs_300)), (q_1, .inl (D.1 13, 1600, .inl (fun _ => 0))), (q_4, .inl (D.1 13, 6, .inl (fun _ => 0))), (q_179, .inl (D.1 13, 10, .inl (fun _ => 0))), (q_185, .inl (D.1 13, 6, .inl f_191)), (q_197, .inl (D.1 13, 906, .inl (fun _ => 0))), (q_225, .inl (D.1 13, 48, .inl (fun _ => 0)))]) [0, 1, 2, 3, 4, 5, 6] rfl
  have hD := hD.sub (ws' := [(h0, .inr (12, fs_300)), (q_1, .inl (D.1 13, 1600, .inl (fun _ => 0))), (q_4, .inl (D.1 13, 6, .inl (fun _ => 0))), (q_179, .inl (D.1 13, 10, .inl (fun _ => 0))), (q_185, .inl (D.1 13, 6, .inl f_191)), (q_197, .inl (D.1 13, 906, .inl (fun _ => 0))), (q_225, .inl (D.1 13, 48, .inl (fun _ => 0)))]) [0, 1, 2, 3, 4, 5, 6] (by decide) rfl
  refine lv_aload_n hx hb dX12_init_1350 rfl (lv_at hl 0 rfl) ?_
  refine lv_iconst (v := 5) hx hb dX12_init_1351 (by decide) ?_
  refine va_newa (atype := .char) (a0 := (5, .inl (fun _ => 0))) (ty := .char) (N' := 5) hx hb (ht _ ac_char) rfl hK hP hD hS hA (fun _ => rfl) (by decide) (by decide) (by decide) (Nat.le_trans (Nat.le_of_ble_eq_true rfl) hRc) (Nat.le_trans (Nat.le_of_ble_eq_true rfl) hRs) dX12_init_1352 (fun q_301 cA H hK2 hP hD hS => ?_)
  obtain rfl := z_cls_char hK hK2
  refine W.widen (k := 65) (n := 27709) (Nat.le_of_ble_eq_true rfl) (Nat.le_of_ble_eq_true rfl) ?_
  have hP : va_P D vwCl [(h0, .inr (12, fs_300)), (q_1, .inl (D.1 13, 1600, .inl (fun _ => 0))), (q_4, .inl (D.1 13, 6, .inl (fun _ => 0))), (q_179, .inl (D.1 13, 10, .inl (fun _ => 0))), (q_185, .inl (D.1 13, 6, .inl f_191)), (q_197, .inl (D.1 13, 906, .inl (fun _ => 0))), (q_225, .inl (D.1 13, 48, .inl (fun _ => 0))), (q_301, .inl (D.1 14, 5, .inl (fun _ => 0)))] H := hP
  have hD : va_D A [(h0, .inr (12, fs_300)), (q_1, .inl (D.1 13, 1600, .inl (fun _ => 0))), (q_4, .inl (D.1 13, 6, .inl (fun _ => 0))), (q_179, .inl (D.1 13, 10, .inl (fun _ => 0))), (q_185, .inl (D.1 13, 6, .inl f_191)), (q_197, .inl (D.1 13, 906, .inl (fun _ => 0))), (q_225, .inl (D.1 13, 48, .inl (fun _ => 0))), (q_301, .inl (D.1 14, 5, .inl (fun _ => 0)))] := hD
  refine lv_dup hx hb dX12_init_1354 rfl ?_
  refine lv_iconst (v := 0) hx hb dX12_init_1355 (by decide) ?_
  refine lv_bipush (v := 108) hx hb dX12_init_1356 (by decide) ?_
  refine va_cast hx hb hK hP hD hS 7 1 rfl rfl (z_in (by decide) (by decide)) dX12_init_1358 (fun H locs hP hD hS => ?_)
  generalize hf_302 : upd _ _ _ = f_302 at hP hD
  have hP : va_P D vwCl [(h0, .inr (12, fs_300)), (q_1, .inl (D.1 13, 1600, .inl (fun _ => 0))), (q_4, .inl (D.1 13, 6, .inl (fun _ => 0))), (q_179, .inl (D.1 13, 10, .inl (fun _ => 0))), (q_185, .inl (D.1 13, 6, .inl f_191)), (q_197, .inl (D.1 13, 906, .inl (fun _ => 0))), (q_225, .inl (D.1 13, 48, .inl (fun _ => 0))), (q_301, .inl (D.1 14, 5, .inl f_302))] H := hP
  have hD : va_D A [(h0, .inr (12, fs_300)), (q_1, .inl (D.1 13, 1600, .inl (fun _ => 0))), (q_4, .inl (D.1 13, 6, .inl (fun _ => 0))), (q_179, .inl (D.1 13, 10, .inl (fun _ => 0))), (q_185, .inl (D.1 13, 6, .inl f_191)), (q_197, .inl (D.1 13, 906, .inl (fun _ => 0))), (q_225, .inl (D.1 13, 48, .inl (fun _ => 0))), (q_301, .inl (D.1 14, 5, .inl f_302))] := hD
  refine lv_dup hx hb dX12_init_1359 rfl ?_
  refine lv_iconst (v := 1) hx hb dX12_init_1360 (by decide) ?_
  refine lv_bipush (v := 101) hx hb dX12_init_1361 (by decide) ?_
  refine va_cast hx hb hK hP hD hS 7 1 rfl rfl (z_in (by decide) (by decide)) dX12_init_1363 (fun H locs hP hD hS => ?_)
  generalize hf_303 : upd _ _ _ = f_303 at hP hD
  have hP : va_P D vwCl [(h0, .inr (12, fs_300)), (q_1, .inl (D.1 13, 1600, .inl (fun _ => 0))), (q_4, .inl (D.1 13, 6, .inl (fun _ => 0))), (q_179, .inl (D.1 13, 10, .inl (fun _ => 0))), (q_185, .inl (D.1 13, 6, .inl f_191)), (q_197, .inl (D.1 13, 906, .inl (fun _ => 0))), (q_225, .inl (D.1 13, 48, .inl (fun _ => 0))), (q_301, .inl (D.1 14, 5, .inl f_303))] H := hP
  have hD : va_D A [(h0, .inr (12, fs_300)), (q_1, .inl (D.1 13, 1600, .inl (fun _ => 0))), (q_4, .inl (D.1 13, 6, .inl (fun _ => 0))), (q_179, .inl (D.1 13, 10, .inl (fun _ => 0))), (q_185, .inl (D.1 13, 6, .inl f_191)), (q_197, .inl (D.1 13, 906, .inl (fun _ => 0))), (q_225, .inl (D.1 13, 48, .inl (fun _ => 0))), (q_301, .inl (D.1 14, 5, .inl f_303))] := hD
  refine lv_dup hx hb dX12_init_1364 rfl ?_
  refine lv_iconst (v := 2) hx hb dX12_init_1365 (by decide) ?_
  refine lv_bipush (v := 118) hx hb dX12_init_1366 (by decide) ?_
  refine va_cast hx hb hK hP hD hS 7 1 rfl rfl (z_in (by decide) (by decide)) dX12_init_1368 (fun H locs hP hD hS => ?_)
  generalize hf_304 : upd _ _ _ = f_304 at hP hD
  have hP : va_P D vwCl [(h0, .inr (12, fs_300)), (q_1, .inl (D.1 13, 1600, .inl (fun _ => 0))), (q_4, .inl (D.1 13, 6, .inl (fun _ => 0))), (q_179, .inl (D.1 13, 10, .inl (fun _ => 0))), (q_185, .inl (D.1 13, 6, .inl f_191)), (q_197, .inl (D.1 13, 906, .inl (fun _ => 0))), (q_225, .inl (D.1 13, 48, .inl (fun _ => 0))), (q_301, .inl (D.1 14, 5, .inl f_304))] H := hP
  have hD : va_D A [(h0, .inr (12, fs_300)), (q_1, .inl (D.1 13, 1600, .inl (fun _ => 0))), (q_4, .inl (D.1 13, 6, .inl (fun _ => 0))), (q_179, .inl (D.1 13, 10, .inl (fun _ => 0))), (q_185, .inl (D.1 13, 6, .inl f_191)), (q_197, .inl (D.1 13, 906, .inl (fun _ => 0))), (q_225, .inl (D.1 13, 48, .inl (fun _ => 0))), (q_301, .inl (D.1 14, 5, .inl f_304))] := hD
  refine lv_dup hx hb dX12_init_1369 rfl ?_
  refine lv_iconst (v := 3) hx hb dX12_init_1370 (by decide) ?_
  refine lv_bipush (v := 101) hx hb dX12_init_1371 (by decide) ?_
  refine va_cast hx hb hK hP hD hS 7 1 rfl rfl (z_in (by decide) (by decide)) dX12_init_1373 (fun H locs hP hD hS => ?_)
  generalize hf_305 : upd _ _ _ = f_305 at hP hD
  have hP : va_P D vwCl [(h0, .inr (12, fs_300)), (q_1, .inl (D.1 13, 1600, .inl (fun _ => 0))), (q_4, .inl (D.1 13, 6, .inl (fun _ => 0))), (q_179, .inl (D.1 13, 10, .inl (fun _ => 0))), (q_185, .inl (D.1 13, 6, .inl f_191)), (q_197, .inl (D.1 13, 906, .inl (fun _ => 0))), (q_225, .inl (D.1 13, 48, .inl (fun _ => 0))), (q_301, .inl (D.1 14, 5, .inl f_305))] H := hP
  have hD : va_D A [(h0, .inr (12, fs_300)), (q_1, .inl (D.1 13, 1600, .inl (fun _ => 0))), (q_4, .inl (D.1 13, 6, .inl (fun _ => 0))), (q_179, .inl (D.1 13, 10, .inl (fun _ => 0))), (q_185, .inl (D.1 13, 6, .inl f_191)), (q_197, .inl (D.1 13, 906, .inl (fun _ => 0))), (q_225, .inl (D.1 13, 48, .inl (fun _ => 0))), (q_301, .inl (D.1 14, 5, .inl f_305))] := hD
  refine lv_dup hx hb dX12_init_1374 rfl ?_
  refine lv_iconst (v := 4) hx hb dX12_init_1375 (by decide) ?_
  refine lv_bipush (v := 108) hx hb dX12_init_1376 (by decide) ?_
  refine va_cast hx hb hK hP hD hS 7 1 rfl rfl (z_in (by decide) (by decide)) dX12_init_1378 (fun H locs hP hD hS => ?_)
  generalize hf_306 : upd _ _ _ = f_306 at hP hD
  have hP : va_P D vwCl [(h0, .inr (12, fs_300)), (q_1, .inl (D.1 13, 1600, .inl (fun _ => 0))), (q_4, .inl (D.1 13, 6, .inl (fun _ => 0))), (q_179, .inl (D.1 13, 10, .inl (fun _ => 0))), (q_185, .inl (D.1 13, 6, .inl f_191)), (q_197, .inl (D.1 13, 906, .inl (fun _ => 0))), (q_225, .inl (D.1 13, 48, .inl (fun _ => 0))), (q_301, .inl (D.1 14, 5, .inl f_306))] H := hP
  have hD : va_D A [(h0, .inr (12, fs_300)), (q_1, .inl (D.1 13, 1600, .inl (fun _ => 0))), (q_4, .inl (D.1 13, 6, .inl (fun _ => 0))), (q_179, .inl (D.1 13, 10, .inl (fun _ => 0))), (q_185, .inl (D.1 13, 6, .inl f_191)), (q_197, .inl (D.1 13, 906, .inl (fun _ => 0))), (q_225, .inl (D.1 13, 48, .inl (fun _ => 0))), (q_301, .inl (D.1 14, 5, .inl f_306))] := hD
  refine va_putF (D := D) (ci := 12) (v := .ref q_301) (ty := .array .char) (C := RX12) (T := TX12) (N := 116) hx hb ht inX12 tyX12 tyX12_ok nmX12 hown hK hP hD hS 0 rfl rfl 91 (by decide) (ht (.fieldLink RX12 213 "CloneVolumesModel" "levelAsked" "[C") fl_X12_213) (fun _ h9 => h9) rfl hin rfl (by decide +kernel) rfl rfl (by rw [hlen]; decide) dX12_init_1379 (fun H locs hP hD hS => ?_)
  have hP : va_P D vwCl [(h0, .inr (12, (fs_300.set 91 (.ref q_301)))), (q_1, .inl (D.1 13, 1600, .inl (fun _ => 0))), (q_4, .inl (D.1 13, 6, .inl (fun _ => 0))), (q_179, .inl (D.1 13, 10, .inl (fun _ => 0))), (q_185, .inl (D.1 13, 6, .inl f_191)), (q_197, .inl (D.1 13, 906, .inl (fun _ => 0))), (q_225, .inl (D.1 13, 48, .inl (fun _ => 0))), (q_301, .inl (D.1 14, 5, .inl f_306))] H := hP
  have hD : va_D A [(h0, .inr (12, (fs_300.set 91 (.ref q_301)))), (q_1, .inl (D.1 13, 1600, .inl (fun _ => 0))), (q_4, .inl (D.1 13, 6, .inl (fun _ => 0))), (q_179, .inl (D.1 13, 10, .inl (fun _ => 0))), (q_185, .inl (D.1 13, 6, .inl f_191)), (q_197, .inl (D.1 13, 906, .inl (fun _ => 0))), (q_225, .inl (D.1 13, 48, .inl (fun _ => 0))), (q_301, .inl (D.1 14, 5, .inl f_306))] := hD
  generalize hfs_307 : fs_300.set 91 (.ref q_301) = fs_307 at hP hD
  have hlen : fs_307.length = 116 := by rw [← hfs_307, List.length_set]; exact hlen
  have hP : va_P D vwCl [(h0, .inr (12, fs_307)), (q_1, .inl (D.1 13, 1600, .inl (fun _ => 0))), (q_4, .inl (D.1 13, 6, .inl (fun _ => 0))), (q_179, .inl (D.1 13, 10, .inl (fun _ => 0))), (q_185, .inl (D.1 13, 6, .inl f_191)), (q_197, .inl (D.1 13, 906, .inl (fun _ => 0))), (q_225, .inl (D.1 13, 48, .inl (fun _ => 0))), (q_301, .inl (D.1 14, 5, .inl f_306))] H := hP
  have hD : va_D A [(h0, .inr (12, fs_307)), (q_1, .inl (D.1 13, 1600, .inl (fun _ => 0))), (q_4, .inl (D.1 13, 6, .inl (fun _ => 0))), (q_179, .inl (D.1 13, 10, .inl (fun _ => 0))), (q_185, .inl (D.1 13, 6, .inl f_191)), (q_197, .inl (D.1 13, 906, .inl (fun _ => 0))), (q_225, .inl (D.1 13, 48, .inl (fun _ => 0))), (q_301, .inl (D.1 14, 5, .inl f_306))] := hD
  have hP := hP.sub (ws' := [(h0, .inr (12, fs_307)), (q_1, .inl (D.1 13, 1600, .inl (fun _ => 0))), (q_4, .inl (D.1 13, 6, .inl (fun _ => 0))), (q_179, .inl (D.1 13, 10, .inl (fun _ => 0))), (q_185, .inl (D.1 13, 6, .inl f_191)), (q_197, .inl (D.1 13, 906, .inl (fun _ => 0))), (q_225, .inl (D.1 13, 48, .inl (fun _ => 0)))]) [0, 1, 2, 3, 4, 5, 6] rfl
  have hD := hD.sub (ws' := [(h0, .inr (12, fs_307)), (q_1, .inl (D.1 13, 1600, .inl (fun _ => 0))), (q_4, .inl (D.1 13, 6, .inl (fun _ => 0))), (q_179, .inl (D.1 13, 10, .inl (fun _ => 0))), (q_185, .inl (D.1 13, 6, .inl f_191)), (q_197, .inl (D.1 13, 906, .inl (fun _ => 0))), (q_225, .inl (D.1 13, 48, .inl (fun _ => 0)))]) [0, 1, 2, 3, 4, 5, 6] (by decide) rfl
  refine lv_aload_n hx hb dX12_init_1382 rfl (lv_at hl 0 rfl) ?_
  refine lv_iconst (v := 5) hx hb dX12_init_1383 (by decide) ?_
  refine va_newa (atype := .char) (a0 := (5, .inl (fun _ => 0))) (ty := .char) (N' := 5) hx hb (ht _ ac_char) rfl hK hP hD hS hA (fun _ => rfl) (by decide) (by decide) (by decide) (Nat.le_trans (Nat.le_of_ble_eq_true rfl) hRc) (Nat.le_trans (Nat.le_of_ble_eq_true rfl) hRs) dX12_init_1384 (fun q_308 cA H hK2 hP hD hS => ?_)
  obtain rfl := z_cls_char hK hK2
  refine W.widen (k := 66) (n := 27714) (Nat.le_of_ble_eq_true rfl) (Nat.le_of_ble_eq_true rfl) ?_
  have hP : va_P D vwCl [(h0, .inr (12, fs_307)), (q_1, .inl (D.1 13, 1600, .inl (fun _ => 0))), (q_4, .inl (D.1 13, 6, .inl (fun _ => 0))), (q_179, .inl (D.1 13, 10, .inl (fun _ => 0))), (q_185, .inl (D.1 13, 6, .inl f_191)), (q_197, .inl (D.1 13, 906, .inl (fun _ => 0))), (q_225, .inl (D.1 13, 48, .inl (fun _ => 0))), (q_308, .inl (D.1 14, 5, .inl (fun _ => 0)))] H := hP
  have hD : va_D A [(h0, .inr (12, fs_307)), (q_1, .inl (D.1 13, 1600, .inl (fun _ => 0))), (q_4, .inl (D.1 13, 6, .inl (fun _ => 0))), (q_179, .inl (D.1 13, 10, .inl (fun _ => 0))), (q_185, .inl (D.1 13, 6, .inl f_191)), (q_197, .inl (D.1 13, 906, .inl (fun _ => 0))), (q_225, .inl (D.1 13, 48, .inl (fun _ => 0))), (q_308, .inl (D.1 14, 5, .inl (fun _ => 0)))] := hD
  refine lv_dup hx hb dX12_init_1386 rfl ?_
  refine lv_iconst (v := 0) hx hb dX12_init_1387 (by decide) ?_
  refine lv_bipush (v := 98) hx hb dX12_init_1388 (by decide) ?_
  refine va_cast hx hb hK hP hD hS 7 1 rfl rfl (z_in (by decide) (by decide)) dX12_init_1390 (fun H locs hP hD hS => ?_)
  generalize hf_309 : upd _ _ _ = f_309 at hP hD
  have hP : va_P D vwCl [(h0, .inr (12, fs_307)), (q_1, .inl (D.1 13, 1600, .inl (fun _ => 0))), (q_4, .inl (D.1 13, 6, .inl (fun _ => 0))), (q_179, .inl (D.1 13, 10, .inl (fun _ => 0))), (q_185, .inl (D.1 13, 6, .inl f_191)), (q_197, .inl (D.1 13, 906, .inl (fun _ => 0))), (q_225, .inl (D.1 13, 48, .inl (fun _ => 0))), (q_308, .inl (D.1 14, 5, .inl f_309))] H := hP
  have hD : va_D A [(h0, .inr (12, fs_307)), (q_1, .inl (D.1 13, 1600, .inl (fun _ => 0))), (q_4, .inl (D.1 13, 6, .inl (fun _ => 0))), (q_179, .inl (D.1 13, 10, .inl (fun _ => 0))), (q_185, .inl (D.1 13, 6, .inl f_191)), (q_197, .inl (D.1 13, 906, .inl (fun _ => 0))), (q_225, .inl (D.1 13, 48, .inl (fun _ => 0))), (q_308, .inl (D.1 14, 5, .inl f_309))] := hD
  refine lv_dup hx hb dX12_init_1391 rfl ?_
  refine lv_iconst (v := 1) hx hb dX12_init_1392 (by decide) ?_
  refine lv_bipush (v := 108) hx hb dX12_init_1393 (by decide) ?_
  refine va_cast hx hb hK hP hD hS 7 1 rfl rfl (z_in (by decide) (by decide)) dX12_init_1395 (fun H locs hP hD hS => ?_)
  generalize hf_310 : upd _ _ _ = f_310 at hP hD
  have hP : va_P D vwCl [(h0, .inr (12, fs_307)), (q_1, .inl (D.1 13, 1600, .inl (fun _ => 0))), (q_4, .inl (D.1 13, 6, .inl (fun _ => 0))), (q_179, .inl (D.1 13, 10, .inl (fun _ => 0))), (q_185, .inl (D.1 13, 6, .inl f_191)), (q_197, .inl (D.1 13, 906, .inl (fun _ => 0))), (q_225, .inl (D.1 13, 48, .inl (fun _ => 0))), (q_308, .inl (D.1 14, 5, .inl f_310))] H := hP
  have hD : va_D A [(h0, .inr (12, fs_307)), (q_1, .inl (D.1 13, 1600, .inl (fun _ => 0))), (q_4, .inl (D.1 13, 6, .inl (fun _ => 0))), (q_179, .inl (D.1 13, 10, .inl (fun _ => 0))), (q_185, .inl (D.1 13, 6, .inl f_191)), (q_197, .inl (D.1 13, 906, .inl (fun _ => 0))), (q_225, .inl (D.1 13, 48, .inl (fun _ => 0))), (q_308, .inl (D.1 14, 5, .inl f_310))] := hD
  refine lv_dup hx hb dX12_init_1396 rfl ?_
  refine lv_iconst (v := 2) hx hb dX12_init_1397 (by decide) ?_
  refine lv_bipush (v := 111) hx hb dX12_init_1398 (by decide) ?_
  refine va_cast hx hb hK hP hD hS 7 1 rfl rfl (z_in (by decide) (by decide)) dX12_init_1400 (fun H locs hP hD hS => ?_)
  generalize hf_311 : upd _ _ _ = f_311 at hP hD
  have hP : va_P D vwCl [(h0, .inr (12, fs_307)), (q_1, .inl (D.1 13, 1600, .inl (fun _ => 0))), (q_4, .inl (D.1 13, 6, .inl (fun _ => 0))), (q_179, .inl (D.1 13, 10, .inl (fun _ => 0))), (q_185, .inl (D.1 13, 6, .inl f_191)), (q_197, .inl (D.1 13, 906, .inl (fun _ => 0))), (q_225, .inl (D.1 13, 48, .inl (fun _ => 0))), (q_308, .inl (D.1 14, 5, .inl f_311))] H := hP
  have hD : va_D A [(h0, .inr (12, fs_307)), (q_1, .inl (D.1 13, 1600, .inl (fun _ => 0))), (q_4, .inl (D.1 13, 6, .inl (fun _ => 0))), (q_179, .inl (D.1 13, 10, .inl (fun _ => 0))), (q_185, .inl (D.1 13, 6, .inl f_191)), (q_197, .inl (D.1 13, 906, .inl (fun _ => 0))), (q_225, .inl (D.1 13, 48, .inl (fun _ => 0))), (q_308, .inl (D.1 14, 5, .inl f_311))] := hD
  refine lv_dup hx hb dX12_init_1401 rfl ?_
  refine lv_iconst (v := 3) hx hb dX12_init_1402 (by decide) ?_
  refine lv_bipush (v := 99) hx hb dX12_init_1403 (by decide) ?_
  refine va_cast hx hb hK hP hD hS 7 1 rfl rfl (z_in (by decide) (by decide)) dX12_init_1405 (fun H locs hP hD hS => ?_)
  generalize hf_312 : upd _ _ _ = f_312 at hP hD
  have hP : va_P D vwCl [(h0, .inr (12, fs_307)), (q_1, .inl (D.1 13, 1600, .inl (fun _ => 0))), (q_4, .inl (D.1 13, 6, .inl (fun _ => 0))), (q_179, .inl (D.1 13, 10, .inl (fun _ => 0))), (q_185, .inl (D.1 13, 6, .inl f_191)), (q_197, .inl (D.1 13, 906, .inl (fun _ => 0))), (q_225, .inl (D.1 13, 48, .inl (fun _ => 0))), (q_308, .inl (D.1 14, 5, .inl f_312))] H := hP
  have hD : va_D A [(h0, .inr (12, fs_307)), (q_1, .inl (D.1 13, 1600, .inl (fun _ => 0))), (q_4, .inl (D.1 13, 6, .inl (fun _ => 0))), (q_179, .inl (D.1 13, 10, .inl (fun _ => 0))), (q_185, .inl (D.1 13, 6, .inl f_191)), (q_197, .inl (D.1 13, 906, .inl (fun _ => 0))), (q_225, .inl (D.1 13, 48, .inl (fun _ => 0))), (q_308, .inl (D.1 14, 5, .inl f_312))] := hD
  refine lv_dup hx hb dX12_init_1406 rfl ?_
  refine lv_iconst (v := 4) hx hb dX12_init_1407 (by decide) ?_
  refine lv_bipush (v := 107) hx hb dX12_init_1408 (by decide) ?_
  refine va_cast hx hb hK hP hD hS 7 1 rfl rfl (z_in (by decide) (by decide)) dX12_init_1410 (fun H locs hP hD hS => ?_)
  generalize hf_313 : upd _ _ _ = f_313 at hP hD
  have hP : va_P D vwCl [(h0, .inr (12, fs_307)), (q_1, .inl (D.1 13, 1600, .inl (fun _ => 0))), (q_4, .inl (D.1 13, 6, .inl (fun _ => 0))), (q_179, .inl (D.1 13, 10, .inl (fun _ => 0))), (q_185, .inl (D.1 13, 6, .inl f_191)), (q_197, .inl (D.1 13, 906, .inl (fun _ => 0))), (q_225, .inl (D.1 13, 48, .inl (fun _ => 0))), (q_308, .inl (D.1 14, 5, .inl f_313))] H := hP
  have hD : va_D A [(h0, .inr (12, fs_307)), (q_1, .inl (D.1 13, 1600, .inl (fun _ => 0))), (q_4, .inl (D.1 13, 6, .inl (fun _ => 0))), (q_179, .inl (D.1 13, 10, .inl (fun _ => 0))), (q_185, .inl (D.1 13, 6, .inl f_191)), (q_197, .inl (D.1 13, 906, .inl (fun _ => 0))), (q_225, .inl (D.1 13, 48, .inl (fun _ => 0))), (q_308, .inl (D.1 14, 5, .inl f_313))] := hD
  refine va_putF (D := D) (ci := 12) (v := .ref q_308) (ty := .array .char) (C := RX12) (T := TX12) (N := 116) hx hb ht inX12 tyX12 tyX12_ok nmX12 hown hK hP hD hS 0 rfl rfl 92 (by decide) (ht (.fieldLink RX12 216 "CloneVolumesModel" "blockAsked" "[C") fl_X12_216) (fun _ h9 => h9) rfl hin rfl (by decide +kernel) rfl rfl (by rw [hlen]; decide) dX12_init_1411 (fun H locs hP hD hS => ?_)
  have hP : va_P D vwCl [(h0, .inr (12, (fs_307.set 92 (.ref q_308)))), (q_1, .inl (D.1 13, 1600, .inl (fun _ => 0))), (q_4, .inl (D.1 13, 6, .inl (fun _ => 0))), (q_179, .inl (D.1 13, 10, .inl (fun _ => 0))), (q_185, .inl (D.1 13, 6, .inl f_191)), (q_197, .inl (D.1 13, 906, .inl (fun _ => 0))), (q_225, .inl (D.1 13, 48, .inl (fun _ => 0))), (q_308, .inl (D.1 14, 5, .inl f_313))] H := hP
  have hD : va_D A [(h0, .inr (12, (fs_307.set 92 (.ref q_308)))), (q_1, .inl (D.1 13, 1600, .inl (fun _ => 0))), (q_4, .inl (D.1 13, 6, .inl (fun _ => 0))), (q_179, .inl (D.1 13, 10, .inl (fun _ => 0))), (q_185, .inl (D.1 13, 6, .inl f_191)), (q_197, .inl (D.1 13, 906, .inl (fun _ => 0))), (q_225, .inl (D.1 13, 48, .inl (fun _ => 0))), (q_308, .inl (D.1 14, 5, .inl f_313))] := hD
  generalize hfs_314 : fs_307.set 92 (.ref q_308) = fs_314 at hP hD
  have hlen : fs_314.length = 116 := by rw [← hfs_314, List.length_set]; exact hlen
  have hP : va_P D vwCl [(h0, .inr (12, fs_314)), (q_1, .inl (D.1 13, 1600, .inl (fun _ => 0))), (q_4, .inl (D.1 13, 6, .inl (fun _ => 0))), (q_179, .inl (D.1 13, 10, .inl (fun _ => 0))), (q_185, .inl (D.1 13, 6, .inl f_191)), (q_197, .inl (D.1 13, 906, .inl (fun _ => 0))), (q_225, .inl (D.1 13, 48, .inl (fun _ => 0))), (q_308, .inl (D.1 14, 5, .inl f_313))] H := hP
  have hD : va_D A [(h0, .inr (12, fs_314)), (q_1, .inl (D.1 13, 1600, .inl (fun _ => 0))), (q_4, .inl (D.1 13, 6, .inl (fun _ => 0))), (q_179, .inl (D.1 13, 10, .inl (fun _ => 0))), (q_185, .inl (D.1 13, 6, .inl f_191)), (q_197, .inl (D.1 13, 906, .inl (fun _ => 0))), (q_225, .inl (D.1 13, 48, .inl (fun _ => 0))), (q_308, .inl (D.1 14, 5, .inl f_313))] := hD
  have hP := hP.sub (ws' := [(h0, .inr (12, fs_314)), (q_1, .inl (D.1 13, 1600, .inl (fun _ => 0))), (q_4, .inl (D.1 13, 6, .inl (fun _ => 0))), (q_179, .inl (D.1 13, 10, .inl (fun _ => 0))), (q_185, .inl (D.1 13, 6, .inl f_191)), (q_197, .inl (D.1 13, 906, .inl (fun _ => 0))), (q_225, .inl (D.1 13, 48, .inl (fun _ => 0)))]) [0, 1, 2, 3, 4, 5, 6] rfl
  have hD := hD.sub (ws' := [(h0, .inr (12, fs_314)), (q_1, .inl (D.1 13, 1600, .inl (fun _ => 0))), (q_4, .inl (D.1 13, 6, .inl (fun _ => 0))), (q_179, .inl (D.1 13, 10, .inl (fun _ => 0))), (q_185, .inl (D.1 13, 6, .inl f_191)), (q_197, .inl (D.1 13, 906, .inl (fun _ => 0))), (q_225, .inl (D.1 13, 48, .inl (fun _ => 0)))]) [0, 1, 2, 3, 4, 5, 6] (by decide) rfl
  exact kk q_296 q_301 q_308 fs_314 _ _ (by rw [← hfs_314, ← hfs_307, ← hfs_300]) hP hD hS
set_option maxHeartbeats 4000000 in
set_option maxRecDepth 100000 in
theorem cM_18 {h0 : Nat} {q_1 : Nat} {q_4 : Nat} {q_179 : Nat} {q_185 : Nat} {q_197 : Nat} {q_225 : Nat} {f_191 : Nat → Int32} (hx : p.tables.exec = Jvm.exec) (hb : c.code = cX12_init) (ht : ∀ w ∈ lw_gd, w.before args s = true) (hown : s.vm.findClass RX12 = some m.cls) (hin : meth.name = "<init>") (hK : va_K D vwCl (TY D) s) (hA : ∀ q : Nat, s.heap.size ≤ q → A q) (hRc : 80 ≤ R.cells) (hRs : 35050 ≤ R.slots) (hl : lv_has ls 1 [(0, .ref h0)]) {fs : List Value} (hlen : fs.length = 116) {H : Heap} {locs : List Loc} (hP : va_P D vwCl [(h0, .inr (12, fs)), (q_1, .inl (D.1 13, 1600, .inl (fun _ => 0))), (q_4, .inl (D.1 13, 6, .inl (fun _ => 0))), (q_179, .inl (D.1 13, 10, .inl (fun _ => 0))), (q_185, .inl (D.1 13, 6, .inl f_191)), (q_197, .inl (D.1 13, 906, .inl (fun _ => 0))), (q_225, .inl (D.1 13, 48, .inl (fun _ => 0)))] H) (hD : va_D A [(h0, .inr (12, fs)), (q_1, .inl (D.1 13, 1600, .inl (fun _ => 0))), (q_4, .inl (D.1 13, 6, .inl (fun _ => 0))), (q_179, .inl (D.1 13, 10, .inl (fun _ => 0))), (q_185, .inl (D.1 13, 6, .inl f_191)), (q_197, .inl (D.1 13, 906, .inl (fun _ => 0))), (q_225, .inl (D.1 13, 48, .inl (fun _ => 0)))]) (hS : va_S A s.heap H locs)
    (kk : ∀ (q_315 : Nat) (q_321 : Nat) (fs' : List Value) (H : Heap) (locs : List Loc), fs' = ((fs.set 93 (.ref q_315)).set 94 (.ref q_321)) → va_P D vwCl [(h0, .inr (12, fs')), (q_1, .inl (D.1 13, 1600, .inl (fun _ => 0))), (q_4, .inl (D.1 13, 6, .inl (fun _ => 0))), (q_179, .inl (D.1 13, 10, .inl (fun _ => 0))), (q_185, .inl (D.1 13, 6, .inl f_191)), (q_197, .inl (D.1 13, 906, .inl (fun _ => 0))), (q_225, .inl (D.1 13, 48, .inl (fun _ => 0)))] H → va_D A [(h0, .inr (12, fs')), (q_1, .inl (D.1 13, 1600, .inl (fun _ => 0))), (q_4, .inl (D.1 13, 6, .inl (fun _ => 0))), (q_179, .inl (D.1 13, 10, .inl (fun _ => 0))), (q_185, .inl (D.1 13, 6, .inl f_191)), (q_197, .inl (D.1 13, 906, .inl (fun _ => 0))), (q_225, .inl (D.1 13, 48, .inl (fun _ => 0)))] → va_S A s.heap H locs → W p l e R s m args below meth c H locs 68 27725 Q (F0 m 1485 ls [])) : W p l e R s m args below meth c H locs 66 27714 Q (F0 m 1414 ls []) := by
  refine lv_aload_n hx hb dX12_init_1414 rfl (lv_at hl 0 rfl) ?_
  refine lv_iconst (v := 4) hx hb dX12_init_1415 (by decide) ?_
  refine va_newa (atype := .char) (a0 := (4, .inl (fun _ => 0))) (ty := .char) (N' := 4) hx hb (ht _ ac_char) rfl hK hP hD hS hA (fun _ => rfl) (by decide) (by decide) (by decide) (Nat.le_trans (Nat.le_of_ble_eq_true rfl) hRc) (Nat.le_trans (Nat.le_of_ble_eq_true rfl) hRs) dX12_init_1416 (fun q_315 cA H hK2 hP hD hS => ?_)
  obtain rfl := z_cls_char hK hK2
  refine W.widen (k := 67) (n := 27718) (Nat.le_of_ble_eq_true rfl) (Nat.le_of_ble_eq_true rfl) ?_
  have hP : va_P D vwCl [(h0, .inr (12, fs)), (q_1, .inl (D.1 13, 1600, .inl (fun _ => 0))), (q_4, .inl (D.1 13, 6, .inl (fun _ => 0))), (q_179, .inl (D.1 13, 10, .inl (fun _ => 0))), (q_185, .inl (D.1 13, 6, .inl f_191)), (q_197, .inl (D.1 13, 906, .inl (fun _ => 0))), (q_225, .inl (D.1 13, 48, .inl (fun _ => 0))), (q_315, .inl (D.1 14, 4, .inl (fun _ => 0)))] H := hP
  have hD : va_D A [(h0, .inr (12, fs)), (q_1, .inl (D.1 13, 1600, .inl (fun _ => 0))), (q_4, .inl (D.1 13, 6, .inl (fun _ => 0))), (q_179, .inl (D.1 13, 10, .inl (fun _ => 0))), (q_185, .inl (D.1 13, 6, .inl f_191)), (q_197, .inl (D.1 13, 906, .inl (fun _ => 0))), (q_225, .inl (D.1 13, 48, .inl (fun _ => 0))), (q_315, .inl (D.1 14, 4, .inl (fun _ => 0)))] := hD
  refine lv_dup hx hb dX12_init_1418 rfl ?_
  refine lv_iconst (v := 0) hx hb dX12_init_1419 (by decide) ?_
  refine lv_bipush (v := 102) hx hb dX12_init_1420 (by decide) ?_
  refine va_cast hx hb hK hP hD hS 7 1 rfl rfl (z_in (by decide) (by decide)) dX12_init_1422 (fun H locs hP hD hS => ?_)
  generalize hf_316 : upd _ _ _ = f_316 at hP hD
  have hP : va_P D vwCl [(h0, .inr (12, fs)), (q_1, .inl (D.1 13, 1600, .inl (fun _ => 0))), (q_4, .inl (D.1 13, 6, .inl (fun _ => 0))), (q_179, .inl (D.1 13, 10, .inl (fun _ => 0))), (q_185, .inl (D.1 13, 6, .inl f_191)), (q_197, .inl (D.1 13, 906, .inl (fun _ => 0))), (q_225, .inl (D.1 13, 48, .inl (fun _ => 0))), (q_315, .inl (D.1 14, 4, .inl f_316))] H := hP
  have hD : va_D A [(h0, .inr (12, fs)), (q_1, .inl (D.1 13, 1600, .inl (fun _ => 0))), (q_4, .inl (D.1 13, 6, .inl (fun _ => 0))), (q_179, .inl (D.1 13, 10, .inl (fun _ => 0))), (q_185, .inl (D.1 13, 6, .inl f_191)), (q_197, .inl (D.1 13, 906, .inl (fun _ => 0))), (q_225, .inl (D.1 13, 48, .inl (fun _ => 0))), (q_315, .inl (D.1 14, 4, .inl f_316))] := hD
  refine lv_dup hx hb dX12_init_1423 rfl ?_
  refine lv_iconst (v := 1) hx hb dX12_init_1424 (by decide) ?_
  refine lv_bipush (v := 114) hx hb dX12_init_1425 (by decide) ?_
  refine va_cast hx hb hK hP hD hS 7 1 rfl rfl (z_in (by decide) (by decide)) dX12_init_1427 (fun H locs hP hD hS => ?_)
  generalize hf_317 : upd _ _ _ = f_317 at hP hD
  have hP : va_P D vwCl [(h0, .inr (12, fs)), (q_1, .inl (D.1 13, 1600, .inl (fun _ => 0))), (q_4, .inl (D.1 13, 6, .inl (fun _ => 0))), (q_179, .inl (D.1 13, 10, .inl (fun _ => 0))), (q_185, .inl (D.1 13, 6, .inl f_191)), (q_197, .inl (D.1 13, 906, .inl (fun _ => 0))), (q_225, .inl (D.1 13, 48, .inl (fun _ => 0))), (q_315, .inl (D.1 14, 4, .inl f_317))] H := hP
  have hD : va_D A [(h0, .inr (12, fs)), (q_1, .inl (D.1 13, 1600, .inl (fun _ => 0))), (q_4, .inl (D.1 13, 6, .inl (fun _ => 0))), (q_179, .inl (D.1 13, 10, .inl (fun _ => 0))), (q_185, .inl (D.1 13, 6, .inl f_191)), (q_197, .inl (D.1 13, 906, .inl (fun _ => 0))), (q_225, .inl (D.1 13, 48, .inl (fun _ => 0))), (q_315, .inl (D.1 14, 4, .inl f_317))] := hD
  refine lv_dup hx hb dX12_init_1428 rfl ?_
  refine lv_iconst (v := 2) hx hb dX12_init_1429 (by decide) ?_
  refine lv_bipush (v := 111) hx hb dX12_init_1430 (by decide) ?_
  refine va_cast hx hb hK hP hD hS 7 1 rfl rfl (z_in (by decide) (by decide)) dX12_init_1432 (fun H locs hP hD hS => ?_)
  generalize hf_318 : upd _ _ _ = f_318 at hP hD
  have hP : va_P D vwCl [(h0, .inr (12, fs)), (q_1, .inl (D.1 13, 1600, .inl (fun _ => 0))), (q_4, .inl (D.1 13, 6, .inl (fun _ => 0))), (q_179, .inl (D.1 13, 10, .inl (fun _ => 0))), (q_185, .inl (D.1 13, 6, .inl f_191)), (q_197, .inl (D.1 13, 906, .inl (fun _ => 0))), (q_225, .inl (D.1 13, 48, .inl (fun _ => 0))), (q_315, .inl (D.1 14, 4, .inl f_318))] H := hP
  have hD : va_D A [(h0, .inr (12, fs)), (q_1, .inl (D.1 13, 1600, .inl (fun _ => 0))), (q_4, .inl (D.1 13, 6, .inl (fun _ => 0))), (q_179, .inl (D.1 13, 10, .inl (fun _ => 0))), (q_185, .inl (D.1 13, 6, .inl f_191)), (q_197, .inl (D.1 13, 906, .inl (fun _ => 0))), (q_225, .inl (D.1 13, 48, .inl (fun _ => 0))), (q_315, .inl (D.1 14, 4, .inl f_318))] := hD
  refine lv_dup hx hb dX12_init_1433 rfl ?_
  refine lv_iconst (v := 3) hx hb dX12_init_1434 (by decide) ?_
  refine lv_bipush (v := 109) hx hb dX12_init_1435 (by decide) ?_
  refine va_cast hx hb hK hP hD hS 7 1 rfl rfl (z_in (by decide) (by decide)) dX12_init_1437 (fun H locs hP hD hS => ?_)
  generalize hf_319 : upd _ _ _ = f_319 at hP hD
  have hP : va_P D vwCl [(h0, .inr (12, fs)), (q_1, .inl (D.1 13, 1600, .inl (fun _ => 0))), (q_4, .inl (D.1 13, 6, .inl (fun _ => 0))), (q_179, .inl (D.1 13, 10, .inl (fun _ => 0))), (q_185, .inl (D.1 13, 6, .inl f_191)), (q_197, .inl (D.1 13, 906, .inl (fun _ => 0))), (q_225, .inl (D.1 13, 48, .inl (fun _ => 0))), (q_315, .inl (D.1 14, 4, .inl f_319))] H := hP
  have hD : va_D A [(h0, .inr (12, fs)), (q_1, .inl (D.1 13, 1600, .inl (fun _ => 0))), (q_4, .inl (D.1 13, 6, .inl (fun _ => 0))), (q_179, .inl (D.1 13, 10, .inl (fun _ => 0))), (q_185, .inl (D.1 13, 6, .inl f_191)), (q_197, .inl (D.1 13, 906, .inl (fun _ => 0))), (q_225, .inl (D.1 13, 48, .inl (fun _ => 0))), (q_315, .inl (D.1 14, 4, .inl f_319))] := hD
  refine va_putF (D := D) (ci := 12) (v := .ref q_315) (ty := .array .char) (C := RX12) (T := TX12) (N := 116) hx hb ht inX12 tyX12 tyX12_ok nmX12 hown hK hP hD hS 0 rfl rfl 93 (by decide) (ht (.fieldLink RX12 219 "CloneVolumesModel" "fromAsked" "[C") fl_X12_219) (fun _ h9 => h9) rfl hin rfl (by decide +kernel) rfl rfl (by rw [hlen]; decide) dX12_init_1438 (fun H locs hP hD hS => ?_)
  have hP : va_P D vwCl [(h0, .inr (12, (fs.set 93 (.ref q_315)))), (q_1, .inl (D.1 13, 1600, .inl (fun _ => 0))), (q_4, .inl (D.1 13, 6, .inl (fun _ => 0))), (q_179, .inl (D.1 13, 10, .inl (fun _ => 0))), (q_185, .inl (D.1 13, 6, .inl f_191)), (q_197, .inl (D.1 13, 906, .inl (fun _ => 0))), (q_225, .inl (D.1 13, 48, .inl (fun _ => 0))), (q_315, .inl (D.1 14, 4, .inl f_319))] H := hP
  have hD : va_D A [(h0, .inr (12, (fs.set 93 (.ref q_315)))), (q_1, .inl (D.1 13, 1600, .inl (fun _ => 0))), (q_4, .inl (D.1 13, 6, .inl (fun _ => 0))), (q_179, .inl (D.1 13, 10, .inl (fun _ => 0))), (q_185, .inl (D.1 13, 6, .inl f_191)), (q_197, .inl (D.1 13, 906, .inl (fun _ => 0))), (q_225, .inl (D.1 13, 48, .inl (fun _ => 0))), (q_315, .inl (D.1 14, 4, .inl f_319))] := hD
  generalize hfs_320 : fs.set 93 (.ref q_315) = fs_320 at hP hD
  have hlen : fs_320.length = 116 := by rw [← hfs_320, List.length_set]; exact hlen
  have hP : va_P D vwCl [(h0, .inr (12, fs_320)), (q_1, .inl (D.1 13, 1600, .inl (fun _ => 0))), (q_4, .inl (D.1 13, 6, .inl (fun _ => 0))), (q_179, .inl (D.1 13, 10, .inl (fun _ => 0))), (q_185, .inl (D.1 13, 6, .inl f_191)), (q_197, .inl (D.1 13, 906, .inl (fun _ => 0))), (q_225, .inl (D.1 13, 48, .inl (fun _ => 0))), (q_315, .inl (D.1 14, 4, .inl f_319))] H := hP
  have hD : va_D A [(h0, .inr (12, fs_320)), (q_1, .inl (D.1 13, 1600, .inl (fun _ => 0))), (q_4, .inl (D.1 13, 6, .inl (fun _ => 0))), (q_179, .inl (D.1 13, 10, .inl (fun _ => 0))), (q_185, .inl (D.1 13, 6, .inl f_191)), (q_197, .inl (D.1 13, 906, .inl (fun _ => 0))), (q_225, .inl (D.1 13, 48, .inl (fun _ => 0))), (q_315, .inl (D.1 14, 4, .inl f_319))] := hD
  have hP := hP.sub (ws' := [(h0, .inr (12, fs_320)), (q_1, .inl (D.1 13, 1600, .inl (fun _ => 0))), (q_4, .inl (D.1 13, 6, .inl (fun _ => 0))), (q_179, .inl (D.1 13, 10, .inl (fun _ => 0))), (q_185, .inl (D.1 13, 6, .inl f_191)), (q_197, .inl (D.1 13, 906, .inl (fun _ => 0))), (q_225, .inl (D.1 13, 48, .inl (fun _ => 0)))]) [0, 1, 2, 3, 4, 5, 6] rfl
  have hD := hD.sub (ws' := [(h0, .inr (12, fs_320)), (q_1, .inl (D.1 13, 1600, .inl (fun _ => 0))), (q_4, .inl (D.1 13, 6, .inl (fun _ => 0))), (q_179, .inl (D.1 13, 10, .inl (fun _ => 0))), (q_185, .inl (D.1 13, 6, .inl f_191)), (q_197, .inl (D.1 13, 906, .inl (fun _ => 0))), (q_225, .inl (D.1 13, 48, .inl (fun _ => 0)))]) [0, 1, 2, 3, 4, 5, 6] (by decide) rfl
  refine lv_aload_n hx hb dX12_init_1441 rfl (lv_at hl 0 rfl) ?_
  refine lv_bipush (v := 7) hx hb dX12_init_1442 (by decide) ?_
  refine va_newa (atype := .char) (a0 := (7, .inl (fun _ => 0))) (ty := .char) (N' := 7) hx hb (ht _ ac_char) rfl hK hP hD hS hA (fun _ => rfl) (by decide) (by decide) (by decide) (Nat.le_trans (Nat.le_of_ble_eq_true rfl) hRc) (Nat.le_trans (Nat.le_of_ble_eq_true rfl) hRs) dX12_init_1444 (fun q_321 cA H hK2 hP hD hS => ?_)
  obtain rfl := z_cls_char hK hK2
  refine W.widen (k := 68) (n := 27725) (Nat.le_of_ble_eq_true rfl) (Nat.le_of_ble_eq_true rfl) ?_
  have hP : va_P D vwCl [(h0, .inr (12, fs_320)), (q_1, .inl (D.1 13, 1600, .inl (fun _ => 0))), (q_4, .inl (D.1 13, 6, .inl (fun _ => 0))), (q_179, .inl (D.1 13, 10, .inl (fun _ => 0))), (q_185, .inl (D.1 13, 6, .inl f_191)), (q_197, .inl (D.1 13, 906, .inl (fun _ => 0))), (q_225, .inl (D.1 13, 48, .inl (fun _ => 0))), (q_321, .inl (D.1 14, 7, .inl (fun _ => 0)))] H := hP
  have hD : va_D A [(h0, .inr (12, fs_320)), (q_1, .inl (D.1 13, 1600, .inl (fun _ => 0))), (q_4, .inl (D.1 13, 6, .inl (fun _ => 0))), (q_179, .inl (D.1 13, 10, .inl (fun _ => 0))), (q_185, .inl (D.1 13, 6, .inl f_191)), (q_197, .inl (D.1 13, 906, .inl (fun _ => 0))), (q_225, .inl (D.1 13, 48, .inl (fun _ => 0))), (q_321, .inl (D.1 14, 7, .inl (fun _ => 0)))] := hD
  refine lv_dup hx hb dX12_init_1446 rfl ?_
  refine lv_iconst (v := 0) hx hb dX12_init_1447 (by decide) ?_
  refine lv_bipush (v := 101) hx hb dX12_init_1448 (by decide) ?_
  refine va_cast hx hb hK hP hD hS 7 1 rfl rfl (z_in (by decide) (by decide)) dX12_init_1450 (fun H locs hP hD hS => ?_)
  generalize hf_322 : upd _ _ _ = f_322 at hP hD
  have hP : va_P D vwCl [(h0, .inr (12, fs_320)), (q_1, .inl (D.1 13, 1600, .inl (fun _ => 0))), (q_4, .inl (D.1 13, 6, .inl (fun _ => 0))), (q_179, .inl (D.1 13, 10, .inl (fun _ => 0))), (q_185, .inl (D.1 13, 6, .inl f_191)), (q_197, .inl (D.1 13, 906, .inl (fun _ => 0))), (q_225, .inl (D.1 13, 48, .inl (fun _ => 0))), (q_321, .inl (D.1 14, 7, .inl f_322))] H := hP
  have hD : va_D A [(h0, .inr (12, fs_320)), (q_1, .inl (D.1 13, 1600, .inl (fun _ => 0))), (q_4, .inl (D.1 13, 6, .inl (fun _ => 0))), (q_179, .inl (D.1 13, 10, .inl (fun _ => 0))), (q_185, .inl (D.1 13, 6, .inl f_191)), (q_197, .inl (D.1 13, 906, .inl (fun _ => 0))), (q_225, .inl (D.1 13, 48, .inl (fun _ => 0))), (q_321, .inl (D.1 14, 7, .inl f_322))] := hD
  refine lv_dup hx hb dX12_init_1451 rfl ?_
  refine lv_iconst (v := 1) hx hb dX12_init_1452 (by decide) ?_
  refine lv_bipush (v := 110) hx hb dX12_init_1453 (by decide) ?_
  refine va_cast hx hb hK hP hD hS 7 1 rfl rfl (z_in (by decide) (by decide)) dX12_init_1455 (fun H locs hP hD hS => ?_)
  generalize hf_323 : upd _ _ _ = f_323 at hP hD
  have hP : va_P D vwCl [(h0, .inr (12, fs_320)), (q_1, .inl (D.1 13, 1600, .inl (fun _ => 0))), (q_4, .inl (D.1 13, 6, .inl (fun _ => 0))), (q_179, .inl (D.1 13, 10, .inl (fun _ => 0))), (q_185, .inl (D.1 13, 6, .inl f_191)), (q_197, .inl (D.1 13, 906, .inl (fun _ => 0))), (q_225, .inl (D.1 13, 48, .inl (fun _ => 0))), (q_321, .inl (D.1 14, 7, .inl f_323))] H := hP
  have hD : va_D A [(h0, .inr (12, fs_320)), (q_1, .inl (D.1 13, 1600, .inl (fun _ => 0))), (q_4, .inl (D.1 13, 6, .inl (fun _ => 0))), (q_179, .inl (D.1 13, 10, .inl (fun _ => 0))), (q_185, .inl (D.1 13, 6, .inl f_191)), (q_197, .inl (D.1 13, 906, .inl (fun _ => 0))), (q_225, .inl (D.1 13, 48, .inl (fun _ => 0))), (q_321, .inl (D.1 14, 7, .inl f_323))] := hD
  refine lv_dup hx hb dX12_init_1456 rfl ?_
  refine lv_iconst (v := 2) hx hb dX12_init_1457 (by decide) ?_
  refine lv_bipush (v := 116) hx hb dX12_init_1458 (by decide) ?_
  refine va_cast hx hb hK hP hD hS 7 1 rfl rfl (z_in (by decide) (by decide)) dX12_init_1460 (fun H locs hP hD hS => ?_)
  generalize hf_324 : upd _ _ _ = f_324 at hP hD
  have hP : va_P D vwCl [(h0, .inr (12, fs_320)), (q_1, .inl (D.1 13, 1600, .inl (fun _ => 0))), (q_4, .inl (D.1 13, 6, .inl (fun _ => 0))), (q_179, .inl (D.1 13, 10, .inl (fun _ => 0))), (q_185, .inl (D.1 13, 6, .inl f_191)), (q_197, .inl (D.1 13, 906, .inl (fun _ => 0))), (q_225, .inl (D.1 13, 48, .inl (fun _ => 0))), (q_321, .inl (D.1 14, 7, .inl f_324))] H := hP
  have hD : va_D A [(h0, .inr (12, fs_320)), (q_1, .inl (D.1 13, 1600, .inl (fun _ => 0))), (q_4, .inl (D.1 13, 6, .inl (fun _ => 0))), (q_179, .inl (D.1 13, 10, .inl (fun _ => 0))), (q_185, .inl (D.1 13, 6, .inl f_191)), (q_197, .inl (D.1 13, 906, .inl (fun _ => 0))), (q_225, .inl (D.1 13, 48, .inl (fun _ => 0))), (q_321, .inl (D.1 14, 7, .inl f_324))] := hD
  refine lv_dup hx hb dX12_init_1461 rfl ?_
  refine lv_iconst (v := 3) hx hb dX12_init_1462 (by decide) ?_
  refine lv_bipush (v := 114) hx hb dX12_init_1463 (by decide) ?_
  refine va_cast hx hb hK hP hD hS 7 1 rfl rfl (z_in (by decide) (by decide)) dX12_init_1465 (fun H locs hP hD hS => ?_)
  generalize hf_325 : upd _ _ _ = f_325 at hP hD
  have hP : va_P D vwCl [(h0, .inr (12, fs_320)), (q_1, .inl (D.1 13, 1600, .inl (fun _ => 0))), (q_4, .inl (D.1 13, 6, .inl (fun _ => 0))), (q_179, .inl (D.1 13, 10, .inl (fun _ => 0))), (q_185, .inl (D.1 13, 6, .inl f_191)), (q_197, .inl (D.1 13, 906, .inl (fun _ => 0))), (q_225, .inl (D.1 13, 48, .inl (fun _ => 0))), (q_321, .inl (D.1 14, 7, .inl f_325))] H := hP
  have hD : va_D A [(h0, .inr (12, fs_320)), (q_1, .inl (D.1 13, 1600, .inl (fun _ => 0))), (q_4, .inl (D.1 13, 6, .inl (fun _ => 0))), (q_179, .inl (D.1 13, 10, .inl (fun _ => 0))), (q_185, .inl (D.1 13, 6, .inl f_191)), (q_197, .inl (D.1 13, 906, .inl (fun _ => 0))), (q_225, .inl (D.1 13, 48, .inl (fun _ => 0))), (q_321, .inl (D.1 14, 7, .inl f_325))] := hD
  refine lv_dup hx hb dX12_init_1466 rfl ?_
  refine lv_iconst (v := 4) hx hb dX12_init_1467 (by decide) ?_
  refine lv_bipush (v := 105) hx hb dX12_init_1468 (by decide) ?_
  refine va_cast hx hb hK hP hD hS 7 1 rfl rfl (z_in (by decide) (by decide)) dX12_init_1470 (fun H locs hP hD hS => ?_)
  generalize hf_326 : upd _ _ _ = f_326 at hP hD
  have hP : va_P D vwCl [(h0, .inr (12, fs_320)), (q_1, .inl (D.1 13, 1600, .inl (fun _ => 0))), (q_4, .inl (D.1 13, 6, .inl (fun _ => 0))), (q_179, .inl (D.1 13, 10, .inl (fun _ => 0))), (q_185, .inl (D.1 13, 6, .inl f_191)), (q_197, .inl (D.1 13, 906, .inl (fun _ => 0))), (q_225, .inl (D.1 13, 48, .inl (fun _ => 0))), (q_321, .inl (D.1 14, 7, .inl f_326))] H := hP
  have hD : va_D A [(h0, .inr (12, fs_320)), (q_1, .inl (D.1 13, 1600, .inl (fun _ => 0))), (q_4, .inl (D.1 13, 6, .inl (fun _ => 0))), (q_179, .inl (D.1 13, 10, .inl (fun _ => 0))), (q_185, .inl (D.1 13, 6, .inl f_191)), (q_197, .inl (D.1 13, 906, .inl (fun _ => 0))), (q_225, .inl (D.1 13, 48, .inl (fun _ => 0))), (q_321, .inl (D.1 14, 7, .inl f_326))] := hD
  refine lv_dup hx hb dX12_init_1471 rfl ?_
  refine lv_iconst (v := 5) hx hb dX12_init_1472 (by decide) ?_
  refine lv_bipush (v := 101) hx hb dX12_init_1473 (by decide) ?_
  refine va_cast hx hb hK hP hD hS 7 1 rfl rfl (z_in (by decide) (by decide)) dX12_init_1475 (fun H locs hP hD hS => ?_)
  generalize hf_327 : upd _ _ _ = f_327 at hP hD
  have hP : va_P D vwCl [(h0, .inr (12, fs_320)), (q_1, .inl (D.1 13, 1600, .inl (fun _ => 0))), (q_4, .inl (D.1 13, 6, .inl (fun _ => 0))), (q_179, .inl (D.1 13, 10, .inl (fun _ => 0))), (q_185, .inl (D.1 13, 6, .inl f_191)), (q_197, .inl (D.1 13, 906, .inl (fun _ => 0))), (q_225, .inl (D.1 13, 48, .inl (fun _ => 0))), (q_321, .inl (D.1 14, 7, .inl f_327))] H := hP
  have hD : va_D A [(h0, .inr (12, fs_320)), (q_1, .inl (D.1 13, 1600, .inl (fun _ => 0))), (q_4, .inl (D.1 13, 6, .inl (fun _ => 0))), (q_179, .inl (D.1 13, 10, .inl (fun _ => 0))), (q_185, .inl (D.1 13, 6, .inl f_191)), (q_197, .inl (D.1 13, 906, .inl (fun _ => 0))), (q_225, .inl (D.1 13, 48, .inl (fun _ => 0))), (q_321, .inl (D.1 14, 7, .inl f_327))] := hD
  refine lv_dup hx hb dX12_init_1476 rfl ?_
  refine lv_bipush (v := 6) hx hb dX12_init_1477 (by decide) ?_
  refine lv_bipush (v := 115) hx hb dX12_init_1479 (by decide) ?_
  refine va_cast hx hb hK hP hD hS 7 1 rfl rfl (z_in (by decide) (by decide)) dX12_init_1481 (fun H locs hP hD hS => ?_)
  generalize hf_328 : upd _ _ _ = f_328 at hP hD
  have hP : va_P D vwCl [(h0, .inr (12, fs_320)), (q_1, .inl (D.1 13, 1600, .inl (fun _ => 0))), (q_4, .inl (D.1 13, 6, .inl (fun _ => 0))), (q_179, .inl (D.1 13, 10, .inl (fun _ => 0))), (q_185, .inl (D.1 13, 6, .inl f_191)), (q_197, .inl (D.1 13, 906, .inl (fun _ => 0))), (q_225, .inl (D.1 13, 48, .inl (fun _ => 0))), (q_321, .inl (D.1 14, 7, .inl f_328))] H := hP
  have hD : va_D A [(h0, .inr (12, fs_320)), (q_1, .inl (D.1 13, 1600, .inl (fun _ => 0))), (q_4, .inl (D.1 13, 6, .inl (fun _ => 0))), (q_179, .inl (D.1 13, 10, .inl (fun _ => 0))), (q_185, .inl (D.1 13, 6, .inl f_191)), (q_197, .inl (D.1 13, 906, .inl (fun _ => 0))), (q_225, .inl (D.1 13, 48, .inl (fun _ => 0))), (q_321, .inl (D.1 14, 7, .inl f_328))] := hD
  refine va_putF (D := D) (ci := 12) (v := .ref q_321) (ty := .array .char) (C := RX12) (T := TX12) (N := 116) hx hb ht inX12 tyX12 tyX12_ok nmX12 hown hK hP hD hS 0 rfl rfl 94 (by decide) (ht (.fieldLink RX12 222 "CloneVolumesModel" "entriesAsked" "[C") fl_X12_222) (fun _ h9 => h9) rfl hin rfl (by decide +kernel) rfl rfl (by rw [hlen]; decide) dX12_init_1482 (fun H locs hP hD hS => ?_)
  have hP : va_P D vwCl [(h0, .inr (12, (fs_320.set 94 (.ref q_321)))), (q_1, .inl (D.1 13, 1600, .inl (fun _ => 0))), (q_4, .inl (D.1 13, 6, .inl (fun _ => 0))), (q_179, .inl (D.1 13, 10, .inl (fun _ => 0))), (q_185, .inl (D.1 13, 6, .inl f_191)), (q_197, .inl (D.1 13, 906, .inl (fun _ => 0))), (q_225, .inl (D.1 13, 48, .inl (fun _ => 0))), (q_321, .inl (D.1 14, 7, .inl f_328))] H := hP
  have hD : va_D A [(h0, .inr (12, (fs_320.set 94 (.ref q_321)))), (q_1, .inl (D.1 13, 1600, .inl (fun _ => 0))), (q_4, .inl (D.1 13, 6, .inl (fun _ => 0))), (q_179, .inl (D.1 13, 10, .inl (fun _ => 0))), (q_185, .inl (D.1 13, 6, .inl f_191)), (q_197, .inl (D.1 13, 906, .inl (fun _ => 0))), (q_225, .inl (D.1 13, 48, .inl (fun _ => 0))), (q_321, .inl (D.1 14, 7, .inl f_328))] := hD
  generalize hfs_329 : fs_320.set 94 (.ref q_321) = fs_329 at hP hD
  have hlen : fs_329.length = 116 := by rw [← hfs_329, List.length_set]; exact hlen
  have hP : va_P D vwCl [(h0, .inr (12, fs_329)), (q_1, .inl (D.1 13, 1600, .inl (fun _ => 0))), (q_4, .inl (D.1 13, 6, .inl (fun _ => 0))), (q_179, .inl (D.1 13, 10, .inl (fun _ => 0))), (q_185, .inl (D.1 13, 6, .inl f_191)), (q_197, .inl (D.1 13, 906, .inl (fun _ => 0))), (q_225, .inl (D.1 13, 48, .inl (fun _ => 0))), (q_321, .inl (D.1 14, 7, .inl f_328))] H := hP
  have hD : va_D A [(h0, .inr (12, fs_329)), (q_1, .inl (D.1 13, 1600, .inl (fun _ => 0))), (q_4, .inl (D.1 13, 6, .inl (fun _ => 0))), (q_179, .inl (D.1 13, 10, .inl (fun _ => 0))), (q_185, .inl (D.1 13, 6, .inl f_191)), (q_197, .inl (D.1 13, 906, .inl (fun _ => 0))), (q_225, .inl (D.1 13, 48, .inl (fun _ => 0))), (q_321, .inl (D.1 14, 7, .inl f_328))] := hD
  have hP := hP.sub (ws' := [(h0, .inr (12, fs_329)), (q_1, .inl (D.1 13, 1600, .inl (fun _ => 0))), (q_4, .inl (D.1 13, 6, .inl (fun _ => 0))), (q_179, .inl (D.1 13, 10, .inl (fun _ => 0))), (q_185, .inl (D.1 13, 6, .inl f_191)), (q_197, .inl (D.1 13, 906, .inl (fun _ => 0))), (q_225, .inl (D.1 13, 48, .inl (fun _ => 0)))]) [0, 1, 2, 3, 4, 5, 6] rfl
  have hD := hD.sub (ws' := [(h0, .inr (12, fs_329)), (q_1, .inl (D.1 13, 1600, .inl (fun _ => 0))), (q_4, .inl (D.1 13, 6, .inl (fun _ => 0))), (q_179, .inl (D.1 13, 10, .inl (fun _ => 0))), (q_185, .inl (D.1 13, 6, .inl f_191)), (q_197, .inl (D.1 13, 906, .inl (fun _ => 0))), (q_225, .inl (D.1 13, 48, .inl (fun _ => 0)))]) [0, 1, 2, 3, 4, 5, 6] (by decide) rfl
  exact kk q_315 q_321 fs_329 _ _ (by rw [← hfs_329, ← hfs_320]) hP hD hS
set_option maxHeartbeats 4000000 in
set_option maxRecDepth 100000 in
theorem cM_19 {h0 : Nat} {q_1 : Nat} {q_4 : Nat} {q_179 : Nat} {q_185 : Nat} {q_197 : Nat} {q_225 : Nat} {f_191 : Nat → Int32} (hx : p.tables.exec = Jvm.exec) (hb : c.code = cX12_init) (ht : ∀ w ∈ lw_gd, w.before args s = true) (hown : s.vm.findClass RX12 = some m.cls) (hin : meth.name = "<init>") (hK : va_K D vwCl (TY D) s) (hA : ∀ q : Nat, s.heap.size ≤ q → A q) (hRc : 80 ≤ R.cells) (hRs : 35050 ≤ R.slots) (hl : lv_has ls 1 [(0, .ref h0)]) {fs : List Value} (hlen : fs.length = 116) {H : Heap} {locs : List Loc} (hP : va_P D vwCl [(h0, .inr (12, fs)), (q_1, .inl (D.1 13, 1600, .inl (fun _ => 0))), (q_4, .inl (D.1 13, 6, .inl (fun _ => 0))), (q_179, .inl (D.1 13, 10, .inl (fun _ => 0))), (q_185, .inl (D.1 13, 6, .inl f_191)), (q_197, .inl (D.1 13, 906, .inl (fun _ => 0))), (q_225, .inl (D.1 13, 48, .inl (fun _ => 0)))] H) (hD : va_D A [(h0, .inr (12, fs)), (q_1, .inl (D.1 13, 1600, .inl (fun _ => 0))), (q_4, .inl (D.1 13, 6, .inl (fun _ => 0))), (q_179, .inl (D.1 13, 10, .inl (fun _ => 0))), (q_185, .inl (D.1 13, 6, .inl f_191)), (q_197, .inl (D.1 13, 906, .inl (fun _ => 0))), (q_225, .inl (D.1 13, 48, .inl (fun _ => 0)))]) (hS : va_S A s.heap H locs)
    (kk : ∀ (q_330 : Nat) (q_338 : Nat) (fs' : List Value) (H : Heap) (locs : List Loc), fs' = ((fs.set 95 (.ref q_330)).set 96 (.ref q_338)) → va_P D vwCl [(h0, .inr (12, fs')), (q_1, .inl (D.1 13, 1600, .inl (fun _ => 0))), (q_4, .inl (D.1 13, 6, .inl (fun _ => 0))), (q_179, .inl (D.1 13, 10, .inl (fun _ => 0))), (q_185, .inl (D.1 13, 6, .inl f_191)), (q_197, .inl (D.1 13, 906, .inl (fun _ => 0))), (q_225, .inl (D.1 13, 48, .inl (fun _ => 0)))] H → va_D A [(h0, .inr (12, fs')), (q_1, .inl (D.1 13, 1600, .inl (fun _ => 0))), (q_4, .inl (D.1 13, 6, .inl (fun _ => 0))), (q_179, .inl (D.1 13, 10, .inl (fun _ => 0))), (q_185, .inl (D.1 13, 6, .inl f_191)), (q_197, .inl (D.1 13, 906, .inl (fun _ => 0))), (q_225, .inl (D.1 13, 48, .inl (fun _ => 0)))] → va_S A s.heap H locs → W p l e R s m args below meth c H locs 70 27736 Q (F0 m 1555 ls [])) : W p l e R s m args below meth c H locs 68 27725 Q (F0 m 1485 ls []) := by
  refine lv_aload_n hx hb dX12_init_1485 rfl (lv_at hl 0 rfl) ?_
  refine lv_bipush (v := 6) hx hb dX12_init_1486 (by decide) ?_
  refine va_newa (atype := .char) (a0 := (6, .inl (fun _ => 0))) (ty := .char) (N' := 6) hx hb (ht _ ac_char) rfl hK hP hD hS hA (fun _ => rfl) (by decide) (by decide) (by decide) (Nat.le_trans (Nat.le_of_ble_eq_true rfl) hRc) (Nat.le_trans (Nat.le_of_ble_eq_true rfl) hRs) dX12_init_1488 (fun q_330 cA H hK2 hP hD hS => ?_)
  obtain rfl := z_cls_char hK hK2
  refine W.widen (k := 69) (n := 27731) (Nat.le_of_ble_eq_true rfl) (Nat.le_of_ble_eq_true rfl) ?_
  have hP : va_P D vwCl [(h0, .inr (12, fs)), (q_1, .inl (D.1 13, 1600, .inl (fun _ => 0))), (q_4, .inl (D.1 13, 6, .inl (fun _ => 0))), (q_179, .inl (D.1 13, 10, .inl (fun _ => 0))), (q_185, .inl (D.1 13, 6, .inl f_191)), (q_197, .inl (D.1 13, 906, .inl (fun _ => 0))), (q_225, .inl (D.1 13, 48, .inl (fun _ => 0))), (q_330, .inl (D.1 14, 6, .inl (fun _ => 0)))] H := hP
  have hD : va_D A [(h0, .inr (12, fs)), (q_1, .inl (D.1 13, 1600, .inl (fun _ => 0))), (q_4, .inl (D.1 13, 6, .inl (fun _ => 0))), (q_179, .inl (D.1 13, 10, .inl (fun _ => 0))), (q_185, .inl (D.1 13, 6, .inl f_191)), (q_197, .inl (D.1 13, 906, .inl (fun _ => 0))), (q_225, .inl (D.1 13, 48, .inl (fun _ => 0))), (q_330, .inl (D.1 14, 6, .inl (fun _ => 0)))] := hD
  refine lv_dup hx hb dX12_init_1490 rfl ?_
  refine lv_iconst (v := 0) hx hb dX12_init_1491 (by decide) ?_
  refine lv_bipush (v := 110) hx hb dX12_init_1492 (by decide) ?_
  refine va_cast hx hb hK hP hD hS 7 1 rfl rfl (z_in (by decide) (by decide)) dX12_init_1494 (fun H locs hP hD hS => ?_)
  generalize hf_331 : upd _ _ _ = f_331 at hP hD
  have hP : va_P D vwCl [(h0, .inr (12, fs)), (q_1, .inl (D.1 13, 1600, .inl (fun _ => 0))), (q_4, .inl (D.1 13, 6, .inl (fun _ => 0))), (q_179, .inl (D.1 13, 10, .inl (fun _ => 0))), (q_185, .inl (D.1 13, 6, .inl f_191)), (q_197, .inl (D.1 13, 906, .inl (fun _ => 0))), (q_225, .inl (D.1 13, 48, .inl (fun _ => 0))), (q_330, .inl (D.1 14, 6, .inl f_331))] H := hP
  have hD : va_D A [(h0, .inr (12, fs)), (q_1, .inl (D.1 13, 1600, .inl (fun _ => 0))), (q_4, .inl (D.1 13, 6, .inl (fun _ => 0))), (q_179, .inl (D.1 13, 10, .inl (fun _ => 0))), (q_185, .inl (D.1 13, 6, .inl f_191)), (q_197, .inl (D.1 13, 906, .inl (fun _ => 0))), (q_225, .inl (D.1 13, 48, .inl (fun _ => 0))), (q_330, .inl (D.1 14, 6, .inl f_331))] := hD
  refine lv_dup hx hb dX12_init_1495 rfl ?_
  refine lv_iconst (v := 1) hx hb dX12_init_1496 (by decide) ?_
  refine lv_bipush (v := 117) hx hb dX12_init_1497 (by decide) ?_
  refine va_cast hx hb hK hP hD hS 7 1 rfl rfl (z_in (by decide) (by decide)) dX12_init_1499 (fun H locs hP hD hS => ?_)
  generalize hf_332 : upd _ _ _ = f_332 at hP hD
  have hP : va_P D vwCl [(h0, .inr (12, fs)), (q_1, .inl (D.1 13, 1600, .inl (fun _ => 0))), (q_4, .inl (D.1 13, 6, .inl (fun _ => 0))), (q_179, .inl (D.1 13, 10, .inl (fun _ => 0))), (q_185, .inl (D.1 13, 6, .inl f_191)), (q_197, .inl (D.1 13, 906, .inl (fun _ => 0))), (q_225, .inl (D.1 13, 48, .inl (fun _ => 0))), (q_330, .inl (D.1 14, 6, .inl f_332))] H := hP
  have hD : va_D A [(h0, .inr (12, fs)), (q_1, .inl (D.1 13, 1600, .inl (fun _ => 0))), (q_4, .inl (D.1 13, 6, .inl (fun _ => 0))), (q_179, .inl (D.1 13, 10, .inl (fun _ => 0))), (q_185, .inl (D.1 13, 6, .inl f_191)), (q_197, .inl (D.1 13, 906, .inl (fun _ => 0))), (q_225, .inl (D.1 13, 48, .inl (fun _ => 0))), (q_330, .inl (D.1 14, 6, .inl f_332))] := hD
  refine lv_dup hx hb dX12_init_1500 rfl ?_
  refine lv_iconst (v := 2) hx hb dX12_init_1501 (by decide) ?_
  refine lv_bipush (v := 109) hx hb dX12_init_1502 (by decide) ?_
  refine va_cast hx hb hK hP hD hS 7 1 rfl rfl (z_in (by decide) (by decide)) dX12_init_1504 (fun H locs hP hD hS => ?_)
  generalize hf_333 : upd _ _ _ = f_333 at hP hD
  have hP : va_P D vwCl [(h0, .inr (12, fs)), (q_1, .inl (D.1 13, 1600, .inl (fun _ => 0))), (q_4, .inl (D.1 13, 6, .inl (fun _ => 0))), (q_179, .inl (D.1 13, 10, .inl (fun _ => 0))), (q_185, .inl (D.1 13, 6, .inl f_191)), (q_197, .inl (D.1 13, 906, .inl (fun _ => 0))), (q_225, .inl (D.1 13, 48, .inl (fun _ => 0))), (q_330, .inl (D.1 14, 6, .inl f_333))] H := hP
  have hD : va_D A [(h0, .inr (12, fs)), (q_1, .inl (D.1 13, 1600, .inl (fun _ => 0))), (q_4, .inl (D.1 13, 6, .inl (fun _ => 0))), (q_179, .inl (D.1 13, 10, .inl (fun _ => 0))), (q_185, .inl (D.1 13, 6, .inl f_191)), (q_197, .inl (D.1 13, 906, .inl (fun _ => 0))), (q_225, .inl (D.1 13, 48, .inl (fun _ => 0))), (q_330, .inl (D.1 14, 6, .inl f_333))] := hD
  refine lv_dup hx hb dX12_init_1505 rfl ?_
  refine lv_iconst (v := 3) hx hb dX12_init_1506 (by decide) ?_
  refine lv_bipush (v := 98) hx hb dX12_init_1507 (by decide) ?_
  refine va_cast hx hb hK hP hD hS 7 1 rfl rfl (z_in (by decide) (by decide)) dX12_init_1509 (fun H locs hP hD hS => ?_)
  generalize hf_334 : upd _ _ _ = f_334 at hP hD
  have hP : va_P D vwCl [(h0, .inr (12, fs)), (q_1, .inl (D.1 13, 1600, .inl (fun _ => 0))), (q_4, .inl (D.1 13, 6, .inl (fun _ => 0))), (q_179, .inl (D.1 13, 10, .inl (fun _ => 0))), (q_185, .inl (D.1 13, 6, .inl f_191)), (q_197, .inl (D.1 13, 906, .inl (fun _ => 0))), (q_225, .inl (D.1 13, 48, .inl (fun _ => 0))), (q_330, .inl (D.1 14, 6, .inl f_334))] H := hP
  have hD : va_D A [(h0, .inr (12, fs)), (q_1, .inl (D.1 13, 1600, .inl (fun _ => 0))), (q_4, .inl (D.1 13, 6, .inl (fun _ => 0))), (q_179, .inl (D.1 13, 10, .inl (fun _ => 0))), (q_185, .inl (D.1 13, 6, .inl f_191)), (q_197, .inl (D.1 13, 906, .inl (fun _ => 0))), (q_225, .inl (D.1 13, 48, .inl (fun _ => 0))), (q_330, .inl (D.1 14, 6, .inl f_334))] := hD
  refine lv_dup hx hb dX12_init_1510 rfl ?_
  refine lv_iconst (v := 4) hx hb dX12_init_1511 (by decide) ?_
  refine lv_bipush (v := 101) hx hb dX12_init_1512 (by decide) ?_
  refine va_cast hx hb hK hP hD hS 7 1 rfl rfl (z_in (by decide) (by decide)) dX12_init_1514 (fun H locs hP hD hS => ?_)
  generalize hf_335 : upd _ _ _ = f_335 at hP hD
  have hP : va_P D vwCl [(h0, .inr (12, fs)), (q_1, .inl (D.1 13, 1600, .inl (fun _ => 0))), (q_4, .inl (D.1 13, 6, .inl (fun _ => 0))), (q_179, .inl (D.1 13, 10, .inl (fun _ => 0))), (q_185, .inl (D.1 13, 6, .inl f_191)), (q_197, .inl (D.1 13, 906, .inl (fun _ => 0))), (q_225, .inl (D.1 13, 48, .inl (fun _ => 0))), (q_330, .inl (D.1 14, 6, .inl f_335))] H := hP
  have hD : va_D A [(h0, .inr (12, fs)), (q_1, .inl (D.1 13, 1600, .inl (fun _ => 0))), (q_4, .inl (D.1 13, 6, .inl (fun _ => 0))), (q_179, .inl (D.1 13, 10, .inl (fun _ => 0))), (q_185, .inl (D.1 13, 6, .inl f_191)), (q_197, .inl (D.1 13, 906, .inl (fun _ => 0))), (q_225, .inl (D.1 13, 48, .inl (fun _ => 0))), (q_330, .inl (D.1 14, 6, .inl f_335))] := hD
  refine lv_dup hx hb dX12_init_1515 rfl ?_
  refine lv_iconst (v := 5) hx hb dX12_init_1516 (by decide) ?_
  refine lv_bipush (v := 114) hx hb dX12_init_1517 (by decide) ?_
  refine va_cast hx hb hK hP hD hS 7 1 rfl rfl (z_in (by decide) (by decide)) dX12_init_1519 (fun H locs hP hD hS => ?_)
  generalize hf_336 : upd _ _ _ = f_336 at hP hD
  have hP : va_P D vwCl [(h0, .inr (12, fs)), (q_1, .inl (D.1 13, 1600, .inl (fun _ => 0))), (q_4, .inl (D.1 13, 6, .inl (fun _ => 0))), (q_179, .inl (D.1 13, 10, .inl (fun _ => 0))), (q_185, .inl (D.1 13, 6, .inl f_191)), (q_197, .inl (D.1 13, 906, .inl (fun _ => 0))), (q_225, .inl (D.1 13, 48, .inl (fun _ => 0))), (q_330, .inl (D.1 14, 6, .inl f_336))] H := hP
  have hD : va_D A [(h0, .inr (12, fs)), (q_1, .inl (D.1 13, 1600, .inl (fun _ => 0))), (q_4, .inl (D.1 13, 6, .inl (fun _ => 0))), (q_179, .inl (D.1 13, 10, .inl (fun _ => 0))), (q_185, .inl (D.1 13, 6, .inl f_191)), (q_197, .inl (D.1 13, 906, .inl (fun _ => 0))), (q_225, .inl (D.1 13, 48, .inl (fun _ => 0))), (q_330, .inl (D.1 14, 6, .inl f_336))] := hD
  refine va_putF (D := D) (ci := 12) (v := .ref q_330) (ty := .array .char) (C := RX12) (T := TX12) (N := 116) hx hb ht inX12 tyX12 tyX12_ok nmX12 hown hK hP hD hS 0 rfl rfl 95 (by decide) (ht (.fieldLink RX12 225 "CloneVolumesModel" "numberAsked" "[C") fl_X12_225) (fun _ h9 => h9) rfl hin rfl (by decide +kernel) rfl rfl (by rw [hlen]; decide) dX12_init_1520 (fun H locs hP hD hS => ?_)
  have hP : va_P D vwCl [(h0, .inr (12, (fs.set 95 (.ref q_330)))), (q_1, .inl (D.1 13, 1600, .inl (fun _ => 0))), (q_4, .inl (D.1 13, 6, .inl (fun _ => 0))), (q_179, .inl (D.1 13, 10, .inl (fun _ => 0))), (q_185, .inl (D.1 13, 6, .inl f_191)), (q_197, .inl (D.1 13, 906, .inl (fun _ => 0))), (q_225, .inl (D.1 13, 48, .inl (fun _ => 0))), (q_330, .inl (D.1 14, 6, .inl f_336))] H := hP
  have hD : va_D A [(h0, .inr (12, (fs.set 95 (.ref q_330)))), (q_1, .inl (D.1 13, 1600, .inl (fun _ => 0))), (q_4, .inl (D.1 13, 6, .inl (fun _ => 0))), (q_179, .inl (D.1 13, 10, .inl (fun _ => 0))), (q_185, .inl (D.1 13, 6, .inl f_191)), (q_197, .inl (D.1 13, 906, .inl (fun _ => 0))), (q_225, .inl (D.1 13, 48, .inl (fun _ => 0))), (q_330, .inl (D.1 14, 6, .inl f_336))] := hD
  generalize hfs_337 : fs.set 95 (.ref q_330) = fs_337 at hP hD
  have hlen : fs_337.length = 116 := by rw [← hfs_337, List.length_set]; exact hlen
  have hP : va_P D vwCl [(h0, .inr (12, fs_337)), (q_1, .inl (D.1 13, 1600, .inl (fun _ => 0))), (q_4, .inl (D.1 13, 6, .inl (fun _ => 0))), (q_179, .inl (D.1 13, 10, .inl (fun _ => 0))), (q_185, .inl (D.1 13, 6, .inl f_191)), (q_197, .inl (D.1 13, 906, .inl (fun _ => 0))), (q_225, .inl (D.1 13, 48, .inl (fun _ => 0))), (q_330, .inl (D.1 14, 6, .inl f_336))] H := hP
  have hD : va_D A [(h0, .inr (12, fs_337)), (q_1, .inl (D.1 13, 1600, .inl (fun _ => 0))), (q_4, .inl (D.1 13, 6, .inl (fun _ => 0))), (q_179, .inl (D.1 13, 10, .inl (fun _ => 0))), (q_185, .inl (D.1 13, 6, .inl f_191)), (q_197, .inl (D.1 13, 906, .inl (fun _ => 0))), (q_225, .inl (D.1 13, 48, .inl (fun _ => 0))), (q_330, .inl (D.1 14, 6, .inl f_336))] := hD
  have hP := hP.sub (ws' := [(h0, .inr (12, fs_337)), (q_1, .inl (D.1 13, 1600, .inl (fun _ => 0))), (q_4, .inl (D.1 13, 6, .inl (fun _ => 0))), (q_179, .inl (D.1 13, 10, .inl (fun _ => 0))), (q_185, .inl (D.1 13, 6, .inl f_191)), (q_197, .inl (D.1 13, 906, .inl (fun _ => 0))), (q_225, .inl (D.1 13, 48, .inl (fun _ => 0)))]) [0, 1, 2, 3, 4, 5, 6] rfl
  have hD := hD.sub (ws' := [(h0, .inr (12, fs_337)), (q_1, .inl (D.1 13, 1600, .inl (fun _ => 0))), (q_4, .inl (D.1 13, 6, .inl (fun _ => 0))), (q_179, .inl (D.1 13, 10, .inl (fun _ => 0))), (q_185, .inl (D.1 13, 6, .inl f_191)), (q_197, .inl (D.1 13, 906, .inl (fun _ => 0))), (q_225, .inl (D.1 13, 48, .inl (fun _ => 0)))]) [0, 1, 2, 3, 4, 5, 6] (by decide) rfl
  refine lv_aload_n hx hb dX12_init_1523 rfl (lv_at hl 0 rfl) ?_
  refine lv_iconst (v := 5) hx hb dX12_init_1524 (by decide) ?_
  refine va_newa (atype := .char) (a0 := (5, .inl (fun _ => 0))) (ty := .char) (N' := 5) hx hb (ht _ ac_char) rfl hK hP hD hS hA (fun _ => rfl) (by decide) (by decide) (by decide) (Nat.le_trans (Nat.le_of_ble_eq_true rfl) hRc) (Nat.le_trans (Nat.le_of_ble_eq_true rfl) hRs) dX12_init_1525 (fun q_338 cA H hK2 hP hD hS => ?_)
  obtain rfl := z_cls_char hK hK2
  refine W.widen (k := 70) (n := 27736) (Nat.le_of_ble_eq_true rfl) (Nat.le_of_ble_eq_true rfl) ?_
  have hP : va_P D vwCl [(h0, .inr (12, fs_337)), (q_1, .inl (D.1 13, 1600, .inl (fun _ => 0))), (q_4, .inl (D.1 13, 6, .inl (fun _ => 0))), (q_179, .inl (D.1 13, 10, .inl (fun _ => 0))), (q_185, .inl (D.1 13, 6, .inl f_191)), (q_197, .inl (D.1 13, 906, .inl (fun _ => 0))), (q_225, .inl (D.1 13, 48, .inl (fun _ => 0))), (q_338, .inl (D.1 14, 5, .inl (fun _ => 0)))] H := hP
  have hD : va_D A [(h0, .inr (12, fs_337)), (q_1, .inl (D.1 13, 1600, .inl (fun _ => 0))), (q_4, .inl (D.1 13, 6, .inl (fun _ => 0))), (q_179, .inl (D.1 13, 10, .inl (fun _ => 0))), (q_185, .inl (D.1 13, 6, .inl f_191)), (q_197, .inl (D.1 13, 906, .inl (fun _ => 0))), (q_225, .inl (D.1 13, 48, .inl (fun _ => 0))), (q_338, .inl (D.1 14, 5, .inl (fun _ => 0)))] := hD
  refine lv_dup hx hb dX12_init_1527 rfl ?_
  refine lv_iconst (v := 0) hx hb dX12_init_1528 (by decide) ?_
  refine lv_bipush (v := 99) hx hb dX12_init_1529 (by decide) ?_
  refine va_cast hx hb hK hP hD hS 7 1 rfl rfl (z_in (by decide) (by decide)) dX12_init_1531 (fun H locs hP hD hS => ?_)
  generalize hf_339 : upd _ _ _ = f_339 at hP hD
  have hP : va_P D vwCl [(h0, .inr (12, fs_337)), (q_1, .inl (D.1 13, 1600, .inl (fun _ => 0))), (q_4, .inl (D.1 13, 6, .inl (fun _ => 0))), (q_179, .inl (D.1 13, 10, .inl (fun _ => 0))), (q_185, .inl (D.1 13, 6, .inl f_191)), (q_197, .inl (D.1 13, 906, .inl (fun _ => 0))), (q_225, .inl (D.1 13, 48, .inl (fun _ => 0))), (q_338, .inl (D.1 14, 5, .inl f_339))] H := hP
  have hD : va_D A [(h0, .inr (12, fs_337)), (q_1, .inl (D.1 13, 1600, .inl (fun _ => 0))), (q_4, .inl (D.1 13, 6, .inl (fun _ => 0))), (q_179, .inl (D.1 13, 10, .inl (fun _ => 0))), (q_185, .inl (D.1 13, 6, .inl f_191)), (q_197, .inl (D.1 13, 906, .inl (fun _ => 0))), (q_225, .inl (D.1 13, 48, .inl (fun _ => 0))), (q_338, .inl (D.1 14, 5, .inl f_339))] := hD
  refine lv_dup hx hb dX12_init_1532 rfl ?_
  refine lv_iconst (v := 1) hx hb dX12_init_1533 (by decide) ?_
  refine lv_bipush (v := 111) hx hb dX12_init_1534 (by decide) ?_
  refine va_cast hx hb hK hP hD hS 7 1 rfl rfl (z_in (by decide) (by decide)) dX12_init_1536 (fun H locs hP hD hS => ?_)
  generalize hf_340 : upd _ _ _ = f_340 at hP hD
  have hP : va_P D vwCl [(h0, .inr (12, fs_337)), (q_1, .inl (D.1 13, 1600, .inl (fun _ => 0))), (q_4, .inl (D.1 13, 6, .inl (fun _ => 0))), (q_179, .inl (D.1 13, 10, .inl (fun _ => 0))), (q_185, .inl (D.1 13, 6, .inl f_191)), (q_197, .inl (D.1 13, 906, .inl (fun _ => 0))), (q_225, .inl (D.1 13, 48, .inl (fun _ => 0))), (q_338, .inl (D.1 14, 5, .inl f_340))] H := hP
  have hD : va_D A [(h0, .inr (12, fs_337)), (q_1, .inl (D.1 13, 1600, .inl (fun _ => 0))), (q_4, .inl (D.1 13, 6, .inl (fun _ => 0))), (q_179, .inl (D.1 13, 10, .inl (fun _ => 0))), (q_185, .inl (D.1 13, 6, .inl f_191)), (q_197, .inl (D.1 13, 906, .inl (fun _ => 0))), (q_225, .inl (D.1 13, 48, .inl (fun _ => 0))), (q_338, .inl (D.1 14, 5, .inl f_340))] := hD
  refine lv_dup hx hb dX12_init_1537 rfl ?_
  refine lv_iconst (v := 2) hx hb dX12_init_1538 (by decide) ?_
  refine lv_bipush (v := 117) hx hb dX12_init_1539 (by decide) ?_
  refine va_cast hx hb hK hP hD hS 7 1 rfl rfl (z_in (by decide) (by decide)) dX12_init_1541 (fun H locs hP hD hS => ?_)
  generalize hf_341 : upd _ _ _ = f_341 at hP hD
  have hP : va_P D vwCl [(h0, .inr (12, fs_337)), (q_1, .inl (D.1 13, 1600, .inl (fun _ => 0))), (q_4, .inl (D.1 13, 6, .inl (fun _ => 0))), (q_179, .inl (D.1 13, 10, .inl (fun _ => 0))), (q_185, .inl (D.1 13, 6, .inl f_191)), (q_197, .inl (D.1 13, 906, .inl (fun _ => 0))), (q_225, .inl (D.1 13, 48, .inl (fun _ => 0))), (q_338, .inl (D.1 14, 5, .inl f_341))] H := hP
  have hD : va_D A [(h0, .inr (12, fs_337)), (q_1, .inl (D.1 13, 1600, .inl (fun _ => 0))), (q_4, .inl (D.1 13, 6, .inl (fun _ => 0))), (q_179, .inl (D.1 13, 10, .inl (fun _ => 0))), (q_185, .inl (D.1 13, 6, .inl f_191)), (q_197, .inl (D.1 13, 906, .inl (fun _ => 0))), (q_225, .inl (D.1 13, 48, .inl (fun _ => 0))), (q_338, .inl (D.1 14, 5, .inl f_341))] := hD
  refine lv_dup hx hb dX12_init_1542 rfl ?_
  refine lv_iconst (v := 3) hx hb dX12_init_1543 (by decide) ?_
  refine lv_bipush (v := 110) hx hb dX12_init_1544 (by decide) ?_
  refine va_cast hx hb hK hP hD hS 7 1 rfl rfl (z_in (by decide) (by decide)) dX12_init_1546 (fun H locs hP hD hS => ?_)
  generalize hf_342 : upd _ _ _ = f_342 at hP hD
  have hP : va_P D vwCl [(h0, .inr (12, fs_337)), (q_1, .inl (D.1 13, 1600, .inl (fun _ => 0))), (q_4, .inl (D.1 13, 6, .inl (fun _ => 0))), (q_179, .inl (D.1 13, 10, .inl (fun _ => 0))), (q_185, .inl (D.1 13, 6, .inl f_191)), (q_197, .inl (D.1 13, 906, .inl (fun _ => 0))), (q_225, .inl (D.1 13, 48, .inl (fun _ => 0))), (q_338, .inl (D.1 14, 5, .inl f_342))] H := hP
  have hD : va_D A [(h0, .inr (12, fs_337)), (q_1, .inl (D.1 13, 1600, .inl (fun _ => 0))), (q_4, .inl (D.1 13, 6, .inl (fun _ => 0))), (q_179, .inl (D.1 13, 10, .inl (fun _ => 0))), (q_185, .inl (D.1 13, 6, .inl f_191)), (q_197, .inl (D.1 13, 906, .inl (fun _ => 0))), (q_225, .inl (D.1 13, 48, .inl (fun _ => 0))), (q_338, .inl (D.1 14, 5, .inl f_342))] := hD
  refine lv_dup hx hb dX12_init_1547 rfl ?_
  refine lv_iconst (v := 4) hx hb dX12_init_1548 (by decide) ?_
  refine lv_bipush (v := 116) hx hb dX12_init_1549 (by decide) ?_
  refine va_cast hx hb hK hP hD hS 7 1 rfl rfl (z_in (by decide) (by decide)) dX12_init_1551 (fun H locs hP hD hS => ?_)
  generalize hf_343 : upd _ _ _ = f_343 at hP hD
  have hP : va_P D vwCl [(h0, .inr (12, fs_337)), (q_1, .inl (D.1 13, 1600, .inl (fun _ => 0))), (q_4, .inl (D.1 13, 6, .inl (fun _ => 0))), (q_179, .inl (D.1 13, 10, .inl (fun _ => 0))), (q_185, .inl (D.1 13, 6, .inl f_191)), (q_197, .inl (D.1 13, 906, .inl (fun _ => 0))), (q_225, .inl (D.1 13, 48, .inl (fun _ => 0))), (q_338, .inl (D.1 14, 5, .inl f_343))] H := hP
  have hD : va_D A [(h0, .inr (12, fs_337)), (q_1, .inl (D.1 13, 1600, .inl (fun _ => 0))), (q_4, .inl (D.1 13, 6, .inl (fun _ => 0))), (q_179, .inl (D.1 13, 10, .inl (fun _ => 0))), (q_185, .inl (D.1 13, 6, .inl f_191)), (q_197, .inl (D.1 13, 906, .inl (fun _ => 0))), (q_225, .inl (D.1 13, 48, .inl (fun _ => 0))), (q_338, .inl (D.1 14, 5, .inl f_343))] := hD
  refine va_putF (D := D) (ci := 12) (v := .ref q_338) (ty := .array .char) (C := RX12) (T := TX12) (N := 116) hx hb ht inX12 tyX12 tyX12_ok nmX12 hown hK hP hD hS 0 rfl rfl 96 (by decide) (ht (.fieldLink RX12 228 "CloneVolumesModel" "countAsked" "[C") fl_X12_228) (fun _ h9 => h9) rfl hin rfl (by decide +kernel) rfl rfl (by rw [hlen]; decide) dX12_init_1552 (fun H locs hP hD hS => ?_)
  have hP : va_P D vwCl [(h0, .inr (12, (fs_337.set 96 (.ref q_338)))), (q_1, .inl (D.1 13, 1600, .inl (fun _ => 0))), (q_4, .inl (D.1 13, 6, .inl (fun _ => 0))), (q_179, .inl (D.1 13, 10, .inl (fun _ => 0))), (q_185, .inl (D.1 13, 6, .inl f_191)), (q_197, .inl (D.1 13, 906, .inl (fun _ => 0))), (q_225, .inl (D.1 13, 48, .inl (fun _ => 0))), (q_338, .inl (D.1 14, 5, .inl f_343))] H := hP
  have hD : va_D A [(h0, .inr (12, (fs_337.set 96 (.ref q_338)))), (q_1, .inl (D.1 13, 1600, .inl (fun _ => 0))), (q_4, .inl (D.1 13, 6, .inl (fun _ => 0))), (q_179, .inl (D.1 13, 10, .inl (fun _ => 0))), (q_185, .inl (D.1 13, 6, .inl f_191)), (q_197, .inl (D.1 13, 906, .inl (fun _ => 0))), (q_225, .inl (D.1 13, 48, .inl (fun _ => 0))), (q_338, .inl (D.1 14, 5, .inl f_343))] := hD
  generalize hfs_344 : fs_337.set 96 (.ref q_338) = fs_344 at hP hD
  have hlen : fs_344.length = 116 := by rw [← hfs_344, List.length_set]; exact hlen
  have hP : va_P D vwCl [(h0, .inr (12, fs_344)), (q_1, .inl (D.1 13, 1600, .inl (fun _ => 0))), (q_4, .inl (D.1 13, 6, .inl (fun _ => 0))), (q_179, .inl (D.1 13, 10, .inl (fun _ => 0))), (q_185, .inl (D.1 13, 6, .inl f_191)), (q_197, .inl (D.1 13, 906, .inl (fun _ => 0))), (q_225, .inl (D.1 13, 48, .inl (fun _ => 0))), (q_338, .inl (D.1 14, 5, .inl f_343))] H := hP
  have hD : va_D A [(h0, .inr (12, fs_344)), (q_1, .inl (D.1 13, 1600, .inl (fun _ => 0))), (q_4, .inl (D.1 13, 6, .inl (fun _ => 0))), (q_179, .inl (D.1 13, 10, .inl (fun _ => 0))), (q_185, .inl (D.1 13, 6, .inl f_191)), (q_197, .inl (D.1 13, 906, .inl (fun _ => 0))), (q_225, .inl (D.1 13, 48, .inl (fun _ => 0))), (q_338, .inl (D.1 14, 5, .inl f_343))] := hD
  have hP := hP.sub (ws' := [(h0, .inr (12, fs_344)), (q_1, .inl (D.1 13, 1600, .inl (fun _ => 0))), (q_4, .inl (D.1 13, 6, .inl (fun _ => 0))), (q_179, .inl (D.1 13, 10, .inl (fun _ => 0))), (q_185, .inl (D.1 13, 6, .inl f_191)), (q_197, .inl (D.1 13, 906, .inl (fun _ => 0))), (q_225, .inl (D.1 13, 48, .inl (fun _ => 0)))]) [0, 1, 2, 3, 4, 5, 6] rfl
  have hD := hD.sub (ws' := [(h0, .inr (12, fs_344)), (q_1, .inl (D.1 13, 1600, .inl (fun _ => 0))), (q_4, .inl (D.1 13, 6, .inl (fun _ => 0))), (q_179, .inl (D.1 13, 10, .inl (fun _ => 0))), (q_185, .inl (D.1 13, 6, .inl f_191)), (q_197, .inl (D.1 13, 906, .inl (fun _ => 0))), (q_225, .inl (D.1 13, 48, .inl (fun _ => 0)))]) [0, 1, 2, 3, 4, 5, 6] (by decide) rfl
  exact kk q_330 q_338 fs_344 _ _ (by rw [← hfs_344, ← hfs_337]) hP hD hS
set_option maxHeartbeats 4000000 in
set_option maxRecDepth 100000 in
theorem cM_20 {h0 : Nat} {q_1 : Nat} {q_4 : Nat} {q_179 : Nat} {q_185 : Nat} {q_197 : Nat} {q_225 : Nat} {f_191 : Nat → Int32} (hx : p.tables.exec = Jvm.exec) (hb : c.code = cX12_init) (ht : ∀ w ∈ lw_gd, w.before args s = true) (hown : s.vm.findClass RX12 = some m.cls) (hin : meth.name = "<init>") (hK : va_K D vwCl (TY D) s) (hA : ∀ q : Nat, s.heap.size ≤ q → A q) (hRc : 80 ≤ R.cells) (hRs : 35050 ≤ R.slots) (hl : lv_has ls 1 [(0, .ref h0)]) {fs : List Value} (hlen : fs.length = 116) {H : Heap} {locs : List Loc} (hP : va_P D vwCl [(h0, .inr (12, fs)), (q_1, .inl (D.1 13, 1600, .inl (fun _ => 0))), (q_4, .inl (D.1 13, 6, .inl (fun _ => 0))), (q_179, .inl (D.1 13, 10, .inl (fun _ => 0))), (q_185, .inl (D.1 13, 6, .inl f_191)), (q_197, .inl (D.1 13, 906, .inl (fun _ => 0))), (q_225, .inl (D.1 13, 48, .inl (fun _ => 0)))] H) (hD : va_D A [(h0, .inr (12, fs)), (q_1, .inl (D.1 13, 1600, .inl (fun _ => 0))), (q_4, .inl (D.1 13, 6, .inl (fun _ => 0))), (q_179, .inl (D.1 13, 10, .inl (fun _ => 0))), (q_185, .inl (D.1 13, 6, .inl f_191)), (q_197, .inl (D.1 13, 906, .inl (fun _ => 0))), (q_225, .inl (D.1 13, 48, .inl (fun _ => 0)))]) (hS : va_S A s.heap H locs)
    (kk : ∀ (q_345 : Nat) (q_352 : Nat) (fs' : List Value) (H : Heap) (locs : List Loc), fs' = ((fs.set 97 (.ref q_345)).set 98 (.ref q_352)) → va_P D vwCl [(h0, .inr (12, fs')), (q_1, .inl (D.1 13, 1600, .inl (fun _ => 0))), (q_4, .inl (D.1 13, 6, .inl (fun _ => 0))), (q_179, .inl (D.1 13, 10, .inl (fun _ => 0))), (q_185, .inl (D.1 13, 6, .inl f_191)), (q_197, .inl (D.1 13, 906, .inl (fun _ => 0))), (q_225, .inl (D.1 13, 48, .inl (fun _ => 0)))] H → va_D A [(h0, .inr (12, fs')), (q_1, .inl (D.1 13, 1600, .inl (fun _ => 0))), (q_4, .inl (D.1 13, 6, .inl (fun _ => 0))), (q_179, .inl (D.1 13, 10, .inl (fun _ => 0))), (q_185, .inl (D.1 13, 6, .inl f_191)), (q_197, .inl (D.1 13, 906, .inl (fun _ => 0))), (q_225, .inl (D.1 13, 48, .inl (fun _ => 0)))] → va_S A s.heap H locs → W p l e R s m args below meth c H locs 72 27746 Q (F0 m 1619 ls [])) : W p l e R s m args below meth c H locs 70 27736 Q (F0 m 1555 ls []) := by
  refine lv_aload_n hx hb dX12_init_1555 rfl (lv_at hl 0 rfl) ?_
  refine lv_iconst (v := 5) hx hb dX12_init_1556 (by decide) ?_
  refine va_newa (atype := .char) (a0 := (5, .inl (fun _ => 0))) (ty := .char) (N' := 5) hx hb (ht _ ac_char) rfl hK hP hD hS hA (fun _ => rfl) (by decide) (by decide) (by decide) (Nat.le_trans (Nat.le_of_ble_eq_true rfl) hRc) (Nat.le_trans (Nat.le_of_ble_eq_true rfl) hRs) dX12_init_1557 (fun q_345 cA H hK2 hP hD hS => ?_)
  obtain rfl := z_cls_char hK hK2
  refine W.widen (k := 71) (n := 27741) (Nat.le_of_ble_eq_true rfl) (Nat.le_of_ble_eq_true rfl) ?_
  have hP : va_P D vwCl [(h0, .inr (12, fs)), (q_1, .inl (D.1 13, 1600, .inl (fun _ => 0))), (q_4, .inl (D.1 13, 6, .inl (fun _ => 0))), (q_179, .inl (D.1 13, 10, .inl (fun _ => 0))), (q_185, .inl (D.1 13, 6, .inl f_191)), (q_197, .inl (D.1 13, 906, .inl (fun _ => 0))), (q_225, .inl (D.1 13, 48, .inl (fun _ => 0))), (q_345, .inl (D.1 14, 5, .inl (fun _ => 0)))] H := hP
  have hD : va_D A [(h0, .inr (12, fs)), (q_1, .inl (D.1 13, 1600, .inl (fun _ => 0))), (q_4, .inl (D.1 13, 6, .inl (fun _ => 0))), (q_179, .inl (D.1 13, 10, .inl (fun _ => 0))), (q_185, .inl (D.1 13, 6, .inl f_191)), (q_197, .inl (D.1 13, 906, .inl (fun _ => 0))), (q_225, .inl (D.1 13, 48, .inl (fun _ => 0))), (q_345, .inl (D.1 14, 5, .inl (fun _ => 0)))] := hD
  refine lv_dup hx hb dX12_init_1559 rfl ?_
  refine lv_iconst (v := 0) hx hb dX12_init_1560 (by decide) ?_
  refine lv_bipush (v := 102) hx hb dX12_init_1561 (by decide) ?_
  refine va_cast hx hb hK hP hD hS 7 1 rfl rfl (z_in (by decide) (by decide)) dX12_init_1563 (fun H locs hP hD hS => ?_)
  generalize hf_346 : upd _ _ _ = f_346 at hP hD
  have hP : va_P D vwCl [(h0, .inr (12, fs)), (q_1, .inl (D.1 13, 1600, .inl (fun _ => 0))), (q_4, .inl (D.1 13, 6, .inl (fun _ => 0))), (q_179, .inl (D.1 13, 10, .inl (fun _ => 0))), (q_185, .inl (D.1 13, 6, .inl f_191)), (q_197, .inl (D.1 13, 906, .inl (fun _ => 0))), (q_225, .inl (D.1 13, 48, .inl (fun _ => 0))), (q_345, .inl (D.1 14, 5, .inl f_346))] H := hP
  have hD : va_D A [(h0, .inr (12, fs)), (q_1, .inl (D.1 13, 1600, .inl (fun _ => 0))), (q_4, .inl (D.1 13, 6, .inl (fun _ => 0))), (q_179, .inl (D.1 13, 10, .inl (fun _ => 0))), (q_185, .inl (D.1 13, 6, .inl f_191)), (q_197, .inl (D.1 13, 906, .inl (fun _ => 0))), (q_225, .inl (D.1 13, 48, .inl (fun _ => 0))), (q_345, .inl (D.1 14, 5, .inl f_346))] := hD
  refine lv_dup hx hb dX12_init_1564 rfl ?_
  refine lv_iconst (v := 1) hx hb dX12_init_1565 (by decide) ?_
  refine lv_bipush (v := 114) hx hb dX12_init_1566 (by decide) ?_
  refine va_cast hx hb hK hP hD hS 7 1 rfl rfl (z_in (by decide) (by decide)) dX12_init_1568 (fun H locs hP hD hS => ?_)
  generalize hf_347 : upd _ _ _ = f_347 at hP hD
  have hP : va_P D vwCl [(h0, .inr (12, fs)), (q_1, .inl (D.1 13, 1600, .inl (fun _ => 0))), (q_4, .inl (D.1 13, 6, .inl (fun _ => 0))), (q_179, .inl (D.1 13, 10, .inl (fun _ => 0))), (q_185, .inl (D.1 13, 6, .inl f_191)), (q_197, .inl (D.1 13, 906, .inl (fun _ => 0))), (q_225, .inl (D.1 13, 48, .inl (fun _ => 0))), (q_345, .inl (D.1 14, 5, .inl f_347))] H := hP
  have hD : va_D A [(h0, .inr (12, fs)), (q_1, .inl (D.1 13, 1600, .inl (fun _ => 0))), (q_4, .inl (D.1 13, 6, .inl (fun _ => 0))), (q_179, .inl (D.1 13, 10, .inl (fun _ => 0))), (q_185, .inl (D.1 13, 6, .inl f_191)), (q_197, .inl (D.1 13, 906, .inl (fun _ => 0))), (q_225, .inl (D.1 13, 48, .inl (fun _ => 0))), (q_345, .inl (D.1 14, 5, .inl f_347))] := hD
  refine lv_dup hx hb dX12_init_1569 rfl ?_
  refine lv_iconst (v := 2) hx hb dX12_init_1570 (by decide) ?_
  refine lv_bipush (v := 101) hx hb dX12_init_1571 (by decide) ?_
  refine va_cast hx hb hK hP hD hS 7 1 rfl rfl (z_in (by decide) (by decide)) dX12_init_1573 (fun H locs hP hD hS => ?_)
  generalize hf_348 : upd _ _ _ = f_348 at hP hD
  have hP : va_P D vwCl [(h0, .inr (12, fs)), (q_1, .inl (D.1 13, 1600, .inl (fun _ => 0))), (q_4, .inl (D.1 13, 6, .inl (fun _ => 0))), (q_179, .inl (D.1 13, 10, .inl (fun _ => 0))), (q_185, .inl (D.1 13, 6, .inl f_191)), (q_197, .inl (D.1 13, 906, .inl (fun _ => 0))), (q_225, .inl (D.1 13, 48, .inl (fun _ => 0))), (q_345, .inl (D.1 14, 5, .inl f_348))] H := hP
  have hD : va_D A [(h0, .inr (12, fs)), (q_1, .inl (D.1 13, 1600, .inl (fun _ => 0))), (q_4, .inl (D.1 13, 6, .inl (fun _ => 0))), (q_179, .inl (D.1 13, 10, .inl (fun _ => 0))), (q_185, .inl (D.1 13, 6, .inl f_191)), (q_197, .inl (D.1 13, 906, .inl (fun _ => 0))), (q_225, .inl (D.1 13, 48, .inl (fun _ => 0))), (q_345, .inl (D.1 14, 5, .inl f_348))] := hD
  refine lv_dup hx hb dX12_init_1574 rfl ?_
  refine lv_iconst (v := 3) hx hb dX12_init_1575 (by decide) ?_
  refine lv_bipush (v := 115) hx hb dX12_init_1576 (by decide) ?_
  refine va_cast hx hb hK hP hD hS 7 1 rfl rfl (z_in (by decide) (by decide)) dX12_init_1578 (fun H locs hP hD hS => ?_)
  generalize hf_349 : upd _ _ _ = f_349 at hP hD
  have hP : va_P D vwCl [(h0, .inr (12, fs)), (q_1, .inl (D.1 13, 1600, .inl (fun _ => 0))), (q_4, .inl (D.1 13, 6, .inl (fun _ => 0))), (q_179, .inl (D.1 13, 10, .inl (fun _ => 0))), (q_185, .inl (D.1 13, 6, .inl f_191)), (q_197, .inl (D.1 13, 906, .inl (fun _ => 0))), (q_225, .inl (D.1 13, 48, .inl (fun _ => 0))), (q_345, .inl (D.1 14, 5, .inl f_349))] H := hP
  have hD : va_D A [(h0, .inr (12, fs)), (q_1, .inl (D.1 13, 1600, .inl (fun _ => 0))), (q_4, .inl (D.1 13, 6, .inl (fun _ => 0))), (q_179, .inl (D.1 13, 10, .inl (fun _ => 0))), (q_185, .inl (D.1 13, 6, .inl f_191)), (q_197, .inl (D.1 13, 906, .inl (fun _ => 0))), (q_225, .inl (D.1 13, 48, .inl (fun _ => 0))), (q_345, .inl (D.1 14, 5, .inl f_349))] := hD
  refine lv_dup hx hb dX12_init_1579 rfl ?_
  refine lv_iconst (v := 4) hx hb dX12_init_1580 (by decide) ?_
  refine lv_bipush (v := 104) hx hb dX12_init_1581 (by decide) ?_
  refine va_cast hx hb hK hP hD hS 7 1 rfl rfl (z_in (by decide) (by decide)) dX12_init_1583 (fun H locs hP hD hS => ?_)
  generalize hf_350 : upd _ _ _ = f_350 at hP hD
  have hP : va_P D vwCl [(h0, .inr (12, fs)), (q_1, .inl (D.1 13, 1600, .inl (fun _ => 0))), (q_4, .inl (D.1 13, 6, .inl (fun _ => 0))), (q_179, .inl (D.1 13, 10, .inl (fun _ => 0))), (q_185, .inl (D.1 13, 6, .inl f_191)), (q_197, .inl (D.1 13, 906, .inl (fun _ => 0))), (q_225, .inl (D.1 13, 48, .inl (fun _ => 0))), (q_345, .inl (D.1 14, 5, .inl f_350))] H := hP
  have hD : va_D A [(h0, .inr (12, fs)), (q_1, .inl (D.1 13, 1600, .inl (fun _ => 0))), (q_4, .inl (D.1 13, 6, .inl (fun _ => 0))), (q_179, .inl (D.1 13, 10, .inl (fun _ => 0))), (q_185, .inl (D.1 13, 6, .inl f_191)), (q_197, .inl (D.1 13, 906, .inl (fun _ => 0))), (q_225, .inl (D.1 13, 48, .inl (fun _ => 0))), (q_345, .inl (D.1 14, 5, .inl f_350))] := hD
  refine va_putF (D := D) (ci := 12) (v := .ref q_345) (ty := .array .char) (C := RX12) (T := TX12) (N := 116) hx hb ht inX12 tyX12 tyX12_ok nmX12 hown hK hP hD hS 0 rfl rfl 97 (by decide) (ht (.fieldLink RX12 231 "CloneVolumesModel" "freshAsked" "[C") fl_X12_231) (fun _ h9 => h9) rfl hin rfl (by decide +kernel) rfl rfl (by rw [hlen]; decide) dX12_init_1584 (fun H locs hP hD hS => ?_)
  have hP : va_P D vwCl [(h0, .inr (12, (fs.set 97 (.ref q_345)))), (q_1, .inl (D.1 13, 1600, .inl (fun _ => 0))), (q_4, .inl (D.1 13, 6, .inl (fun _ => 0))), (q_179, .inl (D.1 13, 10, .inl (fun _ => 0))), (q_185, .inl (D.1 13, 6, .inl f_191)), (q_197, .inl (D.1 13, 906, .inl (fun _ => 0))), (q_225, .inl (D.1 13, 48, .inl (fun _ => 0))), (q_345, .inl (D.1 14, 5, .inl f_350))] H := hP
  have hD : va_D A [(h0, .inr (12, (fs.set 97 (.ref q_345)))), (q_1, .inl (D.1 13, 1600, .inl (fun _ => 0))), (q_4, .inl (D.1 13, 6, .inl (fun _ => 0))), (q_179, .inl (D.1 13, 10, .inl (fun _ => 0))), (q_185, .inl (D.1 13, 6, .inl f_191)), (q_197, .inl (D.1 13, 906, .inl (fun _ => 0))), (q_225, .inl (D.1 13, 48, .inl (fun _ => 0))), (q_345, .inl (D.1 14, 5, .inl f_350))] := hD
  generalize hfs_351 : fs.set 97 (.ref q_345) = fs_351 at hP hD
  have hlen : fs_351.length = 116 := by rw [← hfs_351, List.length_set]; exact hlen
  have hP : va_P D vwCl [(h0, .inr (12, fs_351)), (q_1, .inl (D.1 13, 1600, .inl (fun _ => 0))), (q_4, .inl (D.1 13, 6, .inl (fun _ => 0))), (q_179, .inl (D.1 13, 10, .inl (fun _ => 0))), (q_185, .inl (D.1 13, 6, .inl f_191)), (q_197, .inl (D.1 13, 906, .inl (fun _ => 0))), (q_225, .inl (D.1 13, 48, .inl (fun _ => 0))), (q_345, .inl (D.1 14, 5, .inl f_350))] H := hP
  have hD : va_D A [(h0, .inr (12, fs_351)), (q_1, .inl (D.1 13, 1600, .inl (fun _ => 0))), (q_4, .inl (D.1 13, 6, .inl (fun _ => 0))), (q_179, .inl (D.1 13, 10, .inl (fun _ => 0))), (q_185, .inl (D.1 13, 6, .inl f_191)), (q_197, .inl (D.1 13, 906, .inl (fun _ => 0))), (q_225, .inl (D.1 13, 48, .inl (fun _ => 0))), (q_345, .inl (D.1 14, 5, .inl f_350))] := hD
  have hP := hP.sub (ws' := [(h0, .inr (12, fs_351)), (q_1, .inl (D.1 13, 1600, .inl (fun _ => 0))), (q_4, .inl (D.1 13, 6, .inl (fun _ => 0))), (q_179, .inl (D.1 13, 10, .inl (fun _ => 0))), (q_185, .inl (D.1 13, 6, .inl f_191)), (q_197, .inl (D.1 13, 906, .inl (fun _ => 0))), (q_225, .inl (D.1 13, 48, .inl (fun _ => 0)))]) [0, 1, 2, 3, 4, 5, 6] rfl
  have hD := hD.sub (ws' := [(h0, .inr (12, fs_351)), (q_1, .inl (D.1 13, 1600, .inl (fun _ => 0))), (q_4, .inl (D.1 13, 6, .inl (fun _ => 0))), (q_179, .inl (D.1 13, 10, .inl (fun _ => 0))), (q_185, .inl (D.1 13, 6, .inl f_191)), (q_197, .inl (D.1 13, 906, .inl (fun _ => 0))), (q_225, .inl (D.1 13, 48, .inl (fun _ => 0)))]) [0, 1, 2, 3, 4, 5, 6] (by decide) rfl
  refine lv_aload_n hx hb dX12_init_1587 rfl (lv_at hl 0 rfl) ?_
  refine lv_iconst (v := 5) hx hb dX12_init_1588 (by decide) ?_
  refine va_newa (atype := .char) (a0 := (5, .inl (fun _ => 0))) (ty := .char) (N' := 5) hx hb (ht _ ac_char) rfl hK hP hD hS hA (fun _ => rfl) (by decide) (by decide) (by decide) (Nat.le_trans (Nat.le_of_ble_eq_true rfl) hRc) (Nat.le_trans (Nat.le_of_ble_eq_true rfl) hRs) dX12_init_1589 (fun q_352 cA H hK2 hP hD hS => ?_)
  obtain rfl := z_cls_char hK hK2
  refine W.widen (k := 72) (n := 27746) (Nat.le_of_ble_eq_true rfl) (Nat.le_of_ble_eq_true rfl) ?_
  have hP : va_P D vwCl [(h0, .inr (12, fs_351)), (q_1, .inl (D.1 13, 1600, .inl (fun _ => 0))), (q_4, .inl (D.1 13, 6, .inl (fun _ => 0))), (q_179, .inl (D.1 13, 10, .inl (fun _ => 0))), (q_185, .inl (D.1 13, 6, .inl f_191)), (q_197, .inl (D.1 13, 906, .inl (fun _ => 0))), (q_225, .inl (D.1 13, 48, .inl (fun _ => 0))), (q_352, .inl (D.1 14, 5, .inl (fun _ => 0)))] H := hP
  have hD : va_D A [(h0, .inr (12, fs_351)), (q_1, .inl (D.1 13, 1600, .inl (fun _ => 0))), (q_4, .inl (D.1 13, 6, .inl (fun _ => 0))), (q_179, .inl (D.1 13, 10, .inl (fun _ => 0))), (q_185, .inl (D.1 13, 6, .inl f_191)), (q_197, .inl (D.1 13, 906, .inl (fun _ => 0))), (q_225, .inl (D.1 13, 48, .inl (fun _ => 0))), (q_352, .inl (D.1 14, 5, .inl (fun _ => 0)))] := hD
  refine lv_dup hx hb dX12_init_1591 rfl ?_
  refine lv_iconst (v := 0) hx hb dX12_init_1592 (by decide) ?_
  refine lv_bipush (v := 115) hx hb dX12_init_1593 (by decide) ?_
  refine va_cast hx hb hK hP hD hS 7 1 rfl rfl (z_in (by decide) (by decide)) dX12_init_1595 (fun H locs hP hD hS => ?_)
  generalize hf_353 : upd _ _ _ = f_353 at hP hD
  have hP : va_P D vwCl [(h0, .inr (12, fs_351)), (q_1, .inl (D.1 13, 1600, .inl (fun _ => 0))), (q_4, .inl (D.1 13, 6, .inl (fun _ => 0))), (q_179, .inl (D.1 13, 10, .inl (fun _ => 0))), (q_185, .inl (D.1 13, 6, .inl f_191)), (q_197, .inl (D.1 13, 906, .inl (fun _ => 0))), (q_225, .inl (D.1 13, 48, .inl (fun _ => 0))), (q_352, .inl (D.1 14, 5, .inl f_353))] H := hP
  have hD : va_D A [(h0, .inr (12, fs_351)), (q_1, .inl (D.1 13, 1600, .inl (fun _ => 0))), (q_4, .inl (D.1 13, 6, .inl (fun _ => 0))), (q_179, .inl (D.1 13, 10, .inl (fun _ => 0))), (q_185, .inl (D.1 13, 6, .inl f_191)), (q_197, .inl (D.1 13, 906, .inl (fun _ => 0))), (q_225, .inl (D.1 13, 48, .inl (fun _ => 0))), (q_352, .inl (D.1 14, 5, .inl f_353))] := hD
  refine lv_dup hx hb dX12_init_1596 rfl ?_
  refine lv_iconst (v := 1) hx hb dX12_init_1597 (by decide) ?_
  refine lv_bipush (v := 97) hx hb dX12_init_1598 (by decide) ?_
  refine va_cast hx hb hK hP hD hS 7 1 rfl rfl (z_in (by decide) (by decide)) dX12_init_1600 (fun H locs hP hD hS => ?_)
  generalize hf_354 : upd _ _ _ = f_354 at hP hD
  have hP : va_P D vwCl [(h0, .inr (12, fs_351)), (q_1, .inl (D.1 13, 1600, .inl (fun _ => 0))), (q_4, .inl (D.1 13, 6, .inl (fun _ => 0))), (q_179, .inl (D.1 13, 10, .inl (fun _ => 0))), (q_185, .inl (D.1 13, 6, .inl f_191)), (q_197, .inl (D.1 13, 906, .inl (fun _ => 0))), (q_225, .inl (D.1 13, 48, .inl (fun _ => 0))), (q_352, .inl (D.1 14, 5, .inl f_354))] H := hP
  have hD : va_D A [(h0, .inr (12, fs_351)), (q_1, .inl (D.1 13, 1600, .inl (fun _ => 0))), (q_4, .inl (D.1 13, 6, .inl (fun _ => 0))), (q_179, .inl (D.1 13, 10, .inl (fun _ => 0))), (q_185, .inl (D.1 13, 6, .inl f_191)), (q_197, .inl (D.1 13, 906, .inl (fun _ => 0))), (q_225, .inl (D.1 13, 48, .inl (fun _ => 0))), (q_352, .inl (D.1 14, 5, .inl f_354))] := hD
  refine lv_dup hx hb dX12_init_1601 rfl ?_
  refine lv_iconst (v := 2) hx hb dX12_init_1602 (by decide) ?_
  refine lv_bipush (v := 118) hx hb dX12_init_1603 (by decide) ?_
  refine va_cast hx hb hK hP hD hS 7 1 rfl rfl (z_in (by decide) (by decide)) dX12_init_1605 (fun H locs hP hD hS => ?_)
  generalize hf_355 : upd _ _ _ = f_355 at hP hD
  have hP : va_P D vwCl [(h0, .inr (12, fs_351)), (q_1, .inl (D.1 13, 1600, .inl (fun _ => 0))), (q_4, .inl (D.1 13, 6, .inl (fun _ => 0))), (q_179, .inl (D.1 13, 10, .inl (fun _ => 0))), (q_185, .inl (D.1 13, 6, .inl f_191)), (q_197, .inl (D.1 13, 906, .inl (fun _ => 0))), (q_225, .inl (D.1 13, 48, .inl (fun _ => 0))), (q_352, .inl (D.1 14, 5, .inl f_355))] H := hP
  have hD : va_D A [(h0, .inr (12, fs_351)), (q_1, .inl (D.1 13, 1600, .inl (fun _ => 0))), (q_4, .inl (D.1 13, 6, .inl (fun _ => 0))), (q_179, .inl (D.1 13, 10, .inl (fun _ => 0))), (q_185, .inl (D.1 13, 6, .inl f_191)), (q_197, .inl (D.1 13, 906, .inl (fun _ => 0))), (q_225, .inl (D.1 13, 48, .inl (fun _ => 0))), (q_352, .inl (D.1 14, 5, .inl f_355))] := hD
  refine lv_dup hx hb dX12_init_1606 rfl ?_
  refine lv_iconst (v := 3) hx hb dX12_init_1607 (by decide) ?_
  refine lv_bipush (v := 101) hx hb dX12_init_1608 (by decide) ?_
  refine va_cast hx hb hK hP hD hS 7 1 rfl rfl (z_in (by decide) (by decide)) dX12_init_1610 (fun H locs hP hD hS => ?_)
  generalize hf_356 : upd _ _ _ = f_356 at hP hD
  have hP : va_P D vwCl [(h0, .inr (12, fs_351)), (q_1, .inl (D.1 13, 1600, .inl (fun _ => 0))), (q_4, .inl (D.1 13, 6, .inl (fun _ => 0))), (q_179, .inl (D.1 13, 10, .inl (fun _ => 0))), (q_185, .inl (D.1 13, 6, .inl f_191)), (q_197, .inl (D.1 13, 906, .inl (fun _ => 0))), (q_225, .inl (D.1 13, 48, .inl (fun _ => 0))), (q_352, .inl (D.1 14, 5, .inl f_356))] H := hP
  have hD : va_D A [(h0, .inr (12, fs_351)), (q_1, .inl (D.1 13, 1600, .inl (fun _ => 0))), (q_4, .inl (D.1 13, 6, .inl (fun _ => 0))), (q_179, .inl (D.1 13, 10, .inl (fun _ => 0))), (q_185, .inl (D.1 13, 6, .inl f_191)), (q_197, .inl (D.1 13, 906, .inl (fun _ => 0))), (q_225, .inl (D.1 13, 48, .inl (fun _ => 0))), (q_352, .inl (D.1 14, 5, .inl f_356))] := hD
  refine lv_dup hx hb dX12_init_1611 rfl ?_
  refine lv_iconst (v := 4) hx hb dX12_init_1612 (by decide) ?_
  refine lv_bipush (v := 100) hx hb dX12_init_1613 (by decide) ?_
  refine va_cast hx hb hK hP hD hS 7 1 rfl rfl (z_in (by decide) (by decide)) dX12_init_1615 (fun H locs hP hD hS => ?_)
  generalize hf_357 : upd _ _ _ = f_357 at hP hD
  have hP : va_P D vwCl [(h0, .inr (12, fs_351)), (q_1, .inl (D.1 13, 1600, .inl (fun _ => 0))), (q_4, .inl (D.1 13, 6, .inl (fun _ => 0))), (q_179, .inl (D.1 13, 10, .inl (fun _ => 0))), (q_185, .inl (D.1 13, 6, .inl f_191)), (q_197, .inl (D.1 13, 906, .inl (fun _ => 0))), (q_225, .inl (D.1 13, 48, .inl (fun _ => 0))), (q_352, .inl (D.1 14, 5, .inl f_357))] H := hP
  have hD : va_D A [(h0, .inr (12, fs_351)), (q_1, .inl (D.1 13, 1600, .inl (fun _ => 0))), (q_4, .inl (D.1 13, 6, .inl (fun _ => 0))), (q_179, .inl (D.1 13, 10, .inl (fun _ => 0))), (q_185, .inl (D.1 13, 6, .inl f_191)), (q_197, .inl (D.1 13, 906, .inl (fun _ => 0))), (q_225, .inl (D.1 13, 48, .inl (fun _ => 0))), (q_352, .inl (D.1 14, 5, .inl f_357))] := hD
  refine va_putF (D := D) (ci := 12) (v := .ref q_352) (ty := .array .char) (C := RX12) (T := TX12) (N := 116) hx hb ht inX12 tyX12 tyX12_ok nmX12 hown hK hP hD hS 0 rfl rfl 98 (by decide) (ht (.fieldLink RX12 234 "CloneVolumesModel" "savedAsked" "[C") fl_X12_234) (fun _ h9 => h9) rfl hin rfl (by decide +kernel) rfl rfl (by rw [hlen]; decide) dX12_init_1616 (fun H locs hP hD hS => ?_)
  have hP : va_P D vwCl [(h0, .inr (12, (fs_351.set 98 (.ref q_352)))), (q_1, .inl (D.1 13, 1600, .inl (fun _ => 0))), (q_4, .inl (D.1 13, 6, .inl (fun _ => 0))), (q_179, .inl (D.1 13, 10, .inl (fun _ => 0))), (q_185, .inl (D.1 13, 6, .inl f_191)), (q_197, .inl (D.1 13, 906, .inl (fun _ => 0))), (q_225, .inl (D.1 13, 48, .inl (fun _ => 0))), (q_352, .inl (D.1 14, 5, .inl f_357))] H := hP
  have hD : va_D A [(h0, .inr (12, (fs_351.set 98 (.ref q_352)))), (q_1, .inl (D.1 13, 1600, .inl (fun _ => 0))), (q_4, .inl (D.1 13, 6, .inl (fun _ => 0))), (q_179, .inl (D.1 13, 10, .inl (fun _ => 0))), (q_185, .inl (D.1 13, 6, .inl f_191)), (q_197, .inl (D.1 13, 906, .inl (fun _ => 0))), (q_225, .inl (D.1 13, 48, .inl (fun _ => 0))), (q_352, .inl (D.1 14, 5, .inl f_357))] := hD
  generalize hfs_358 : fs_351.set 98 (.ref q_352) = fs_358 at hP hD
  have hlen : fs_358.length = 116 := by rw [← hfs_358, List.length_set]; exact hlen
  have hP : va_P D vwCl [(h0, .inr (12, fs_358)), (q_1, .inl (D.1 13, 1600, .inl (fun _ => 0))), (q_4, .inl (D.1 13, 6, .inl (fun _ => 0))), (q_179, .inl (D.1 13, 10, .inl (fun _ => 0))), (q_185, .inl (D.1 13, 6, .inl f_191)), (q_197, .inl (D.1 13, 906, .inl (fun _ => 0))), (q_225, .inl (D.1 13, 48, .inl (fun _ => 0))), (q_352, .inl (D.1 14, 5, .inl f_357))] H := hP
  have hD : va_D A [(h0, .inr (12, fs_358)), (q_1, .inl (D.1 13, 1600, .inl (fun _ => 0))), (q_4, .inl (D.1 13, 6, .inl (fun _ => 0))), (q_179, .inl (D.1 13, 10, .inl (fun _ => 0))), (q_185, .inl (D.1 13, 6, .inl f_191)), (q_197, .inl (D.1 13, 906, .inl (fun _ => 0))), (q_225, .inl (D.1 13, 48, .inl (fun _ => 0))), (q_352, .inl (D.1 14, 5, .inl f_357))] := hD
  have hP := hP.sub (ws' := [(h0, .inr (12, fs_358)), (q_1, .inl (D.1 13, 1600, .inl (fun _ => 0))), (q_4, .inl (D.1 13, 6, .inl (fun _ => 0))), (q_179, .inl (D.1 13, 10, .inl (fun _ => 0))), (q_185, .inl (D.1 13, 6, .inl f_191)), (q_197, .inl (D.1 13, 906, .inl (fun _ => 0))), (q_225, .inl (D.1 13, 48, .inl (fun _ => 0)))]) [0, 1, 2, 3, 4, 5, 6] rfl
  have hD := hD.sub (ws' := [(h0, .inr (12, fs_358)), (q_1, .inl (D.1 13, 1600, .inl (fun _ => 0))), (q_4, .inl (D.1 13, 6, .inl (fun _ => 0))), (q_179, .inl (D.1 13, 10, .inl (fun _ => 0))), (q_185, .inl (D.1 13, 6, .inl f_191)), (q_197, .inl (D.1 13, 906, .inl (fun _ => 0))), (q_225, .inl (D.1 13, 48, .inl (fun _ => 0)))]) [0, 1, 2, 3, 4, 5, 6] (by decide) rfl
  exact kk q_345 q_352 fs_358 _ _ (by rw [← hfs_358, ← hfs_351]) hP hD hS
set_option maxHeartbeats 4000000 in
set_option maxRecDepth 100000 in
theorem cM_21 {h0 : Nat} {q_1 : Nat} {q_4 : Nat} {q_179 : Nat} {q_185 : Nat} {q_197 : Nat} {q_225 : Nat} {f_191 : Nat → Int32} (hx : p.tables.exec = Jvm.exec) (hb : c.code = cX12_init) (ht : ∀ w ∈ lw_gd, w.before args s = true) (hown : s.vm.findClass RX12 = some m.cls) (hin : meth.name = "<init>") (hK : va_K D vwCl (TY D) s) (hA : ∀ q : Nat, s.heap.size ≤ q → A q) (hRc : 80 ≤ R.cells) (hRs : 35050 ≤ R.slots) (hl : lv_has ls 1 [(0, .ref h0)]) {fs : List Value} (hlen : fs.length = 116) {H : Heap} {locs : List Loc} (hP : va_P D vwCl [(h0, .inr (12, fs)), (q_1, .inl (D.1 13, 1600, .inl (fun _ => 0))), (q_4, .inl (D.1 13, 6, .inl (fun _ => 0))), (q_179, .inl (D.1 13, 10, .inl (fun _ => 0))), (q_185, .inl (D.1 13, 6, .inl f_191)), (q_197, .inl (D.1 13, 906, .inl (fun _ => 0))), (q_225, .inl (D.1 13, 48, .inl (fun _ => 0)))] H) (hD : va_D A [(h0, .inr (12, fs)), (q_1, .inl (D.1 13, 1600, .inl (fun _ => 0))), (q_4, .inl (D.1 13, 6, .inl (fun _ => 0))), (q_179, .inl (D.1 13, 10, .inl (fun _ => 0))), (q_185, .inl (D.1 13, 6, .inl f_191)), (q_197, .inl (D.1 13, 906, .inl (fun _ => 0))), (q_225, .inl (D.1 13, 48, .inl (fun _ => 0)))]) (hS : va_S A s.heap H locs)
    (kk : ∀ (q_359 : Nat) (q_365 : Nat) (q_370 : Nat) (q_372 : Nat) (q_374 : Nat) (fs' : List Value) (H : Heap) (locs : List Loc), fs' = (((((fs.set 99 (.ref q_359)).set 100 (.ref q_365)).set 101 (.ref q_370)).set 103 (.ref q_372)).set 107 (.ref q_374)) → va_P D vwCl [(h0, .inr (12, fs')), (q_1, .inl (D.1 13, 1600, .inl (fun _ => 0))), (q_4, .inl (D.1 13, 6, .inl (fun _ => 0))), (q_179, .inl (D.1 13, 10, .inl (fun _ => 0))), (q_185, .inl (D.1 13, 6, .inl f_191)), (q_197, .inl (D.1 13, 906, .inl (fun _ => 0))), (q_225, .inl (D.1 13, 48, .inl (fun _ => 0)))] H → va_D A [(h0, .inr (12, fs')), (q_1, .inl (D.1 13, 1600, .inl (fun _ => 0))), (q_4, .inl (D.1 13, 6, .inl (fun _ => 0))), (q_179, .inl (D.1 13, 10, .inl (fun _ => 0))), (q_185, .inl (D.1 13, 6, .inl f_191)), (q_197, .inl (D.1 13, 906, .inl (fun _ => 0))), (q_225, .inl (D.1 13, 48, .inl (fun _ => 0)))] → va_S A s.heap H locs → W p l e R s m args below meth c H locs 77 32853 Q (F0 m 1695 ls [])) : W p l e R s m args below meth c H locs 72 27746 Q (F0 m 1619 ls []) := by
  refine lv_aload_n hx hb dX12_init_1619 rfl (lv_at hl 0 rfl) ?_
  refine lv_iconst (v := 4) hx hb dX12_init_1620 (by decide) ?_
  refine va_newa (atype := .char) (a0 := (4, .inl (fun _ => 0))) (ty := .char) (N' := 4) hx hb (ht _ ac_char) rfl hK hP hD hS hA (fun _ => rfl) (by decide) (by decide) (by decide) (Nat.le_trans (Nat.le_of_ble_eq_true rfl) hRc) (Nat.le_trans (Nat.le_of_ble_eq_true rfl) hRs) dX12_init_1621 (fun q_359 cA H hK2 hP hD hS => ?_)
  obtain rfl := z_cls_char hK hK2
  refine W.widen (k := 73) (n := 27750) (Nat.le_of_ble_eq_true rfl) (Nat.le_of_ble_eq_true rfl) ?_
  have hP : va_P D vwCl [(h0, .inr (12, fs)), (q_1, .inl (D.1 13, 1600, .inl (fun _ => 0))), (q_4, .inl (D.1 13, 6, .inl (fun _ => 0))), (q_179, .inl (D.1 13, 10, .inl (fun _ => 0))), (q_185, .inl (D.1 13, 6, .inl f_191)), (q_197, .inl (D.1 13, 906, .inl (fun _ => 0))), (q_225, .inl (D.1 13, 48, .inl (fun _ => 0))), (q_359, .inl (D.1 14, 4, .inl (fun _ => 0)))] H := hP
  have hD : va_D A [(h0, .inr (12, fs)), (q_1, .inl (D.1 13, 1600, .inl (fun _ => 0))), (q_4, .inl (D.1 13, 6, .inl (fun _ => 0))), (q_179, .inl (D.1 13, 10, .inl (fun _ => 0))), (q_185, .inl (D.1 13, 6, .inl f_191)), (q_197, .inl (D.1 13, 906, .inl (fun _ => 0))), (q_225, .inl (D.1 13, 48, .inl (fun _ => 0))), (q_359, .inl (D.1 14, 4, .inl (fun _ => 0)))] := hD
  refine lv_dup hx hb dX12_init_1623 rfl ?_
  refine lv_iconst (v := 0) hx hb dX12_init_1624 (by decide) ?_
  refine lv_bipush (v := 114) hx hb dX12_init_1625 (by decide) ?_
  refine va_cast hx hb hK hP hD hS 7 1 rfl rfl (z_in (by decide) (by decide)) dX12_init_1627 (fun H locs hP hD hS => ?_)
  generalize hf_360 : upd _ _ _ = f_360 at hP hD
  have hP : va_P D vwCl [(h0, .inr (12, fs)), (q_1, .inl (D.1 13, 1600, .inl (fun _ => 0))), (q_4, .inl (D.1 13, 6, .inl (fun _ => 0))), (q_179, .inl (D.1 13, 10, .inl (fun _ => 0))), (q_185, .inl (D.1 13, 6, .inl f_191)), (q_197, .inl (D.1 13, 906, .inl (fun _ => 0))), (q_225, .inl (D.1 13, 48, .inl (fun _ => 0))), (q_359, .inl (D.1 14, 4, .inl f_360))] H := hP
  have hD : va_D A [(h0, .inr (12, fs)), (q_1, .inl (D.1 13, 1600, .inl (fun _ => 0))), (q_4, .inl (D.1 13, 6, .inl (fun _ => 0))), (q_179, .inl (D.1 13, 10, .inl (fun _ => 0))), (q_185, .inl (D.1 13, 6, .inl f_191)), (q_197, .inl (D.1 13, 906, .inl (fun _ => 0))), (q_225, .inl (D.1 13, 48, .inl (fun _ => 0))), (q_359, .inl (D.1 14, 4, .inl f_360))] := hD
  refine lv_dup hx hb dX12_init_1628 rfl ?_
  refine lv_iconst (v := 1) hx hb dX12_init_1629 (by decide) ?_
  refine lv_bipush (v := 101) hx hb dX12_init_1630 (by decide) ?_
  refine va_cast hx hb hK hP hD hS 7 1 rfl rfl (z_in (by decide) (by decide)) dX12_init_1632 (fun H locs hP hD hS => ?_)
  generalize hf_361 : upd _ _ _ = f_361 at hP hD
  have hP : va_P D vwCl [(h0, .inr (12, fs)), (q_1, .inl (D.1 13, 1600, .inl (fun _ => 0))), (q_4, .inl (D.1 13, 6, .inl (fun _ => 0))), (q_179, .inl (D.1 13, 10, .inl (fun _ => 0))), (q_185, .inl (D.1 13, 6, .inl f_191)), (q_197, .inl (D.1 13, 906, .inl (fun _ => 0))), (q_225, .inl (D.1 13, 48, .inl (fun _ => 0))), (q_359, .inl (D.1 14, 4, .inl f_361))] H := hP
  have hD : va_D A [(h0, .inr (12, fs)), (q_1, .inl (D.1 13, 1600, .inl (fun _ => 0))), (q_4, .inl (D.1 13, 6, .inl (fun _ => 0))), (q_179, .inl (D.1 13, 10, .inl (fun _ => 0))), (q_185, .inl (D.1 13, 6, .inl f_191)), (q_197, .inl (D.1 13, 906, .inl (fun _ => 0))), (q_225, .inl (D.1 13, 48, .inl (fun _ => 0))), (q_359, .inl (D.1 14, 4, .inl f_361))] := hD
  refine lv_dup hx hb dX12_init_1633 rfl ?_
  refine lv_iconst (v := 2) hx hb dX12_init_1634 (by decide) ?_
  refine lv_bipush (v := 102) hx hb dX12_init_1635 (by decide) ?_
  refine va_cast hx hb hK hP hD hS 7 1 rfl rfl (z_in (by decide) (by decide)) dX12_init_1637 (fun H locs hP hD hS => ?_)
  generalize hf_362 : upd _ _ _ = f_362 at hP hD
  have hP : va_P D vwCl [(h0, .inr (12, fs)), (q_1, .inl (D.1 13, 1600, .inl (fun _ => 0))), (q_4, .inl (D.1 13, 6, .inl (fun _ => 0))), (q_179, .inl (D.1 13, 10, .inl (fun _ => 0))), (q_185, .inl (D.1 13, 6, .inl f_191)), (q_197, .inl (D.1 13, 906, .inl (fun _ => 0))), (q_225, .inl (D.1 13, 48, .inl (fun _ => 0))), (q_359, .inl (D.1 14, 4, .inl f_362))] H := hP
  have hD : va_D A [(h0, .inr (12, fs)), (q_1, .inl (D.1 13, 1600, .inl (fun _ => 0))), (q_4, .inl (D.1 13, 6, .inl (fun _ => 0))), (q_179, .inl (D.1 13, 10, .inl (fun _ => 0))), (q_185, .inl (D.1 13, 6, .inl f_191)), (q_197, .inl (D.1 13, 906, .inl (fun _ => 0))), (q_225, .inl (D.1 13, 48, .inl (fun _ => 0))), (q_359, .inl (D.1 14, 4, .inl f_362))] := hD
  refine lv_dup hx hb dX12_init_1638 rfl ?_
  refine lv_iconst (v := 3) hx hb dX12_init_1639 (by decide) ?_
  refine lv_bipush (v := 115) hx hb dX12_init_1640 (by decide) ?_
  refine va_cast hx hb hK hP hD hS 7 1 rfl rfl (z_in (by decide) (by decide)) dX12_init_1642 (fun H locs hP hD hS => ?_)
  generalize hf_363 : upd _ _ _ = f_363 at hP hD
  have hP : va_P D vwCl [(h0, .inr (12, fs)), (q_1, .inl (D.1 13, 1600, .inl (fun _ => 0))), (q_4, .inl (D.1 13, 6, .inl (fun _ => 0))), (q_179, .inl (D.1 13, 10, .inl (fun _ => 0))), (q_185, .inl (D.1 13, 6, .inl f_191)), (q_197, .inl (D.1 13, 906, .inl (fun _ => 0))), (q_225, .inl (D.1 13, 48, .inl (fun _ => 0))), (q_359, .inl (D.1 14, 4, .inl f_363))] H := hP
  have hD : va_D A [(h0, .inr (12, fs)), (q_1, .inl (D.1 13, 1600, .inl (fun _ => 0))), (q_4, .inl (D.1 13, 6, .inl (fun _ => 0))), (q_179, .inl (D.1 13, 10, .inl (fun _ => 0))), (q_185, .inl (D.1 13, 6, .inl f_191)), (q_197, .inl (D.1 13, 906, .inl (fun _ => 0))), (q_225, .inl (D.1 13, 48, .inl (fun _ => 0))), (q_359, .inl (D.1 14, 4, .inl f_363))] := hD
  refine va_putF (D := D) (ci := 12) (v := .ref q_359) (ty := .array .char) (C := RX12) (T := TX12) (N := 116) hx hb ht inX12 tyX12 tyX12_ok nmX12 hown hK hP hD hS 0 rfl rfl 99 (by decide) (ht (.fieldLink RX12 237 "CloneVolumesModel" "refsAsked" "[C") fl_X12_237) (fun _ h9 => h9) rfl hin rfl (by decide +kernel) rfl rfl (by rw [hlen]; decide) dX12_init_1643 (fun H locs hP hD hS => ?_)
  have hP : va_P D vwCl [(h0, .inr (12, (fs.set 99 (.ref q_359)))), (q_1, .inl (D.1 13, 1600, .inl (fun _ => 0))), (q_4, .inl (D.1 13, 6, .inl (fun _ => 0))), (q_179, .inl (D.1 13, 10, .inl (fun _ => 0))), (q_185, .inl (D.1 13, 6, .inl f_191)), (q_197, .inl (D.1 13, 906, .inl (fun _ => 0))), (q_225, .inl (D.1 13, 48, .inl (fun _ => 0))), (q_359, .inl (D.1 14, 4, .inl f_363))] H := hP
  have hD : va_D A [(h0, .inr (12, (fs.set 99 (.ref q_359)))), (q_1, .inl (D.1 13, 1600, .inl (fun _ => 0))), (q_4, .inl (D.1 13, 6, .inl (fun _ => 0))), (q_179, .inl (D.1 13, 10, .inl (fun _ => 0))), (q_185, .inl (D.1 13, 6, .inl f_191)), (q_197, .inl (D.1 13, 906, .inl (fun _ => 0))), (q_225, .inl (D.1 13, 48, .inl (fun _ => 0))), (q_359, .inl (D.1 14, 4, .inl f_363))] := hD
  generalize hfs_364 : fs.set 99 (.ref q_359) = fs_364 at hP hD
  have hlen : fs_364.length = 116 := by rw [← hfs_364, List.length_set]; exact hlen
  have hP : va_P D vwCl [(h0, .inr (12, fs_364)), (q_1, .inl (D.1 13, 1600, .inl (fun _ => 0))), (q_4, .inl (D.1 13, 6, .inl (fun _ => 0))), (q_179, .inl (D.1 13, 10, .inl (fun _ => 0))), (q_185, .inl (D.1 13, 6, .inl f_191)), (q_197, .inl (D.1 13, 906, .inl (fun _ => 0))), (q_225, .inl (D.1 13, 48, .inl (fun _ => 0))), (q_359, .inl (D.1 14, 4, .inl f_363))] H := hP
  have hD : va_D A [(h0, .inr (12, fs_364)), (q_1, .inl (D.1 13, 1600, .inl (fun _ => 0))), (q_4, .inl (D.1 13, 6, .inl (fun _ => 0))), (q_179, .inl (D.1 13, 10, .inl (fun _ => 0))), (q_185, .inl (D.1 13, 6, .inl f_191)), (q_197, .inl (D.1 13, 906, .inl (fun _ => 0))), (q_225, .inl (D.1 13, 48, .inl (fun _ => 0))), (q_359, .inl (D.1 14, 4, .inl f_363))] := hD
  have hP := hP.sub (ws' := [(h0, .inr (12, fs_364)), (q_1, .inl (D.1 13, 1600, .inl (fun _ => 0))), (q_4, .inl (D.1 13, 6, .inl (fun _ => 0))), (q_179, .inl (D.1 13, 10, .inl (fun _ => 0))), (q_185, .inl (D.1 13, 6, .inl f_191)), (q_197, .inl (D.1 13, 906, .inl (fun _ => 0))), (q_225, .inl (D.1 13, 48, .inl (fun _ => 0)))]) [0, 1, 2, 3, 4, 5, 6] rfl
  have hD := hD.sub (ws' := [(h0, .inr (12, fs_364)), (q_1, .inl (D.1 13, 1600, .inl (fun _ => 0))), (q_4, .inl (D.1 13, 6, .inl (fun _ => 0))), (q_179, .inl (D.1 13, 10, .inl (fun _ => 0))), (q_185, .inl (D.1 13, 6, .inl f_191)), (q_197, .inl (D.1 13, 906, .inl (fun _ => 0))), (q_225, .inl (D.1 13, 48, .inl (fun _ => 0)))]) [0, 1, 2, 3, 4, 5, 6] (by decide) rfl
  refine lv_aload_n hx hb dX12_init_1646 rfl (lv_at hl 0 rfl) ?_
  refine lv_iconst (v := 3) hx hb dX12_init_1647 (by decide) ?_
  refine va_newa (atype := .char) (a0 := (3, .inl (fun _ => 0))) (ty := .char) (N' := 3) hx hb (ht _ ac_char) rfl hK hP hD hS hA (fun _ => rfl) (by decide) (by decide) (by decide) (Nat.le_trans (Nat.le_of_ble_eq_true rfl) hRc) (Nat.le_trans (Nat.le_of_ble_eq_true rfl) hRs) dX12_init_1648 (fun q_365 cA H hK2 hP hD hS => ?_)
  obtain rfl := z_cls_char hK hK2
  refine W.widen (k := 74) (n := 27753) (Nat.le_of_ble_eq_true rfl) (Nat.le_of_ble_eq_true rfl) ?_
  have hP : va_P D vwCl [(h0, .inr (12, fs_364)), (q_1, .inl (D.1 13, 1600, .inl (fun _ => 0))), (q_4, .inl (D.1 13, 6, .inl (fun _ => 0))), (q_179, .inl (D.1 13, 10, .inl (fun _ => 0))), (q_185, .inl (D.1 13, 6, .inl f_191)), (q_197, .inl (D.1 13, 906, .inl (fun _ => 0))), (q_225, .inl (D.1 13, 48, .inl (fun _ => 0))), (q_365, .inl (D.1 14, 3, .inl (fun _ => 0)))] H := hP
  have hD : va_D A [(h0, .inr (12, fs_364)), (q_1, .inl (D.1 13, 1600, .inl (fun _ => 0))), (q_4, .inl (D.1 13, 6, .inl (fun _ => 0))), (q_179, .inl (D.1 13, 10, .inl (fun _ => 0))), (q_185, .inl (D.1 13, 6, .inl f_191)), (q_197, .inl (D.1 13, 906, .inl (fun _ => 0))), (q_225, .inl (D.1 13, 48, .inl (fun _ => 0))), (q_365, .inl (D.1 14, 3, .inl (fun _ => 0)))] := hD
  refine lv_dup hx hb dX12_init_1650 rfl ?_
  refine lv_iconst (v := 0) hx hb dX12_init_1651 (by decide) ?_
  refine lv_bipush (v := 107) hx hb dX12_init_1652 (by decide) ?_
  refine va_cast hx hb hK hP hD hS 7 1 rfl rfl (z_in (by decide) (by decide)) dX12_init_1654 (fun H locs hP hD hS => ?_)
  generalize hf_366 : upd _ _ _ = f_366 at hP hD
  have hP : va_P D vwCl [(h0, .inr (12, fs_364)), (q_1, .inl (D.1 13, 1600, .inl (fun _ => 0))), (q_4, .inl (D.1 13, 6, .inl (fun _ => 0))), (q_179, .inl (D.1 13, 10, .inl (fun _ => 0))), (q_185, .inl (D.1 13, 6, .inl f_191)), (q_197, .inl (D.1 13, 906, .inl (fun _ => 0))), (q_225, .inl (D.1 13, 48, .inl (fun _ => 0))), (q_365, .inl (D.1 14, 3, .inl f_366))] H := hP
  have hD : va_D A [(h0, .inr (12, fs_364)), (q_1, .inl (D.1 13, 1600, .inl (fun _ => 0))), (q_4, .inl (D.1 13, 6, .inl (fun _ => 0))), (q_179, .inl (D.1 13, 10, .inl (fun _ => 0))), (q_185, .inl (D.1 13, 6, .inl f_191)), (q_197, .inl (D.1 13, 906, .inl (fun _ => 0))), (q_225, .inl (D.1 13, 48, .inl (fun _ => 0))), (q_365, .inl (D.1 14, 3, .inl f_366))] := hD
  refine lv_dup hx hb dX12_init_1655 rfl ?_
  refine lv_iconst (v := 1) hx hb dX12_init_1656 (by decide) ?_
  refine lv_bipush (v := 101) hx hb dX12_init_1657 (by decide) ?_
  refine va_cast hx hb hK hP hD hS 7 1 rfl rfl (z_in (by decide) (by decide)) dX12_init_1659 (fun H locs hP hD hS => ?_)
  generalize hf_367 : upd _ _ _ = f_367 at hP hD
  have hP : va_P D vwCl [(h0, .inr (12, fs_364)), (q_1, .inl (D.1 13, 1600, .inl (fun _ => 0))), (q_4, .inl (D.1 13, 6, .inl (fun _ => 0))), (q_179, .inl (D.1 13, 10, .inl (fun _ => 0))), (q_185, .inl (D.1 13, 6, .inl f_191)), (q_197, .inl (D.1 13, 906, .inl (fun _ => 0))), (q_225, .inl (D.1 13, 48, .inl (fun _ => 0))), (q_365, .inl (D.1 14, 3, .inl f_367))] H := hP
  have hD : va_D A [(h0, .inr (12, fs_364)), (q_1, .inl (D.1 13, 1600, .inl (fun _ => 0))), (q_4, .inl (D.1 13, 6, .inl (fun _ => 0))), (q_179, .inl (D.1 13, 10, .inl (fun _ => 0))), (q_185, .inl (D.1 13, 6, .inl f_191)), (q_197, .inl (D.1 13, 906, .inl (fun _ => 0))), (q_225, .inl (D.1 13, 48, .inl (fun _ => 0))), (q_365, .inl (D.1 14, 3, .inl f_367))] := hD
  refine lv_dup hx hb dX12_init_1660 rfl ?_
  refine lv_iconst (v := 2) hx hb dX12_init_1661 (by decide) ?_
  refine lv_bipush (v := 121) hx hb dX12_init_1662 (by decide) ?_
  refine va_cast hx hb hK hP hD hS 7 1 rfl rfl (z_in (by decide) (by decide)) dX12_init_1664 (fun H locs hP hD hS => ?_)
  generalize hf_368 : upd _ _ _ = f_368 at hP hD
  have hP : va_P D vwCl [(h0, .inr (12, fs_364)), (q_1, .inl (D.1 13, 1600, .inl (fun _ => 0))), (q_4, .inl (D.1 13, 6, .inl (fun _ => 0))), (q_179, .inl (D.1 13, 10, .inl (fun _ => 0))), (q_185, .inl (D.1 13, 6, .inl f_191)), (q_197, .inl (D.1 13, 906, .inl (fun _ => 0))), (q_225, .inl (D.1 13, 48, .inl (fun _ => 0))), (q_365, .inl (D.1 14, 3, .inl f_368))] H := hP
  have hD : va_D A [(h0, .inr (12, fs_364)), (q_1, .inl (D.1 13, 1600, .inl (fun _ => 0))), (q_4, .inl (D.1 13, 6, .inl (fun _ => 0))), (q_179, .inl (D.1 13, 10, .inl (fun _ => 0))), (q_185, .inl (D.1 13, 6, .inl f_191)), (q_197, .inl (D.1 13, 906, .inl (fun _ => 0))), (q_225, .inl (D.1 13, 48, .inl (fun _ => 0))), (q_365, .inl (D.1 14, 3, .inl f_368))] := hD
  refine va_putF (D := D) (ci := 12) (v := .ref q_365) (ty := .array .char) (C := RX12) (T := TX12) (N := 116) hx hb ht inX12 tyX12 tyX12_ok nmX12 hown hK hP hD hS 0 rfl rfl 100 (by decide) (ht (.fieldLink RX12 240 "CloneVolumesModel" "keyAsked" "[C") fl_X12_240) (fun _ h9 => h9) rfl hin rfl (by decide +kernel) rfl rfl (by rw [hlen]; decide) dX12_init_1665 (fun H locs hP hD hS => ?_)
  have hP : va_P D vwCl [(h0, .inr (12, (fs_364.set 100 (.ref q_365)))), (q_1, .inl (D.1 13, 1600, .inl (fun _ => 0))), (q_4, .inl (D.1 13, 6, .inl (fun _ => 0))), (q_179, .inl (D.1 13, 10, .inl (fun _ => 0))), (q_185, .inl (D.1 13, 6, .inl f_191)), (q_197, .inl (D.1 13, 906, .inl (fun _ => 0))), (q_225, .inl (D.1 13, 48, .inl (fun _ => 0))), (q_365, .inl (D.1 14, 3, .inl f_368))] H := hP
  have hD : va_D A [(h0, .inr (12, (fs_364.set 100 (.ref q_365)))), (q_1, .inl (D.1 13, 1600, .inl (fun _ => 0))), (q_4, .inl (D.1 13, 6, .inl (fun _ => 0))), (q_179, .inl (D.1 13, 10, .inl (fun _ => 0))), (q_185, .inl (D.1 13, 6, .inl f_191)), (q_197, .inl (D.1 13, 906, .inl (fun _ => 0))), (q_225, .inl (D.1 13, 48, .inl (fun _ => 0))), (q_365, .inl (D.1 14, 3, .inl f_368))] := hD
  generalize hfs_369 : fs_364.set 100 (.ref q_365) = fs_369 at hP hD
  have hlen : fs_369.length = 116 := by rw [← hfs_369, List.length_set]; exact hlen
  have hP : va_P D vwCl [(h0, .inr (12, fs_369)), (q_1, .inl (D.1 13, 1600, .inl (fun _ => 0))), (q_4, .inl (D.1 13, 6, .inl (fun _ => 0))), (q_179, .inl (D.1 13, 10, .inl (fun _ => 0))), (q_185, .inl (D.1 13, 6, .inl f_191)), (q_197, .inl (D.1 13, 906, .inl (fun _ => 0))), (q_225, .inl (D.1 13, 48, .inl (fun _ => 0))), (q_365, .inl (D.1 14, 3, .inl f_368))] H := hP
  have hD : va_D A [(h0, .inr (12, fs_369)), (q_1, .inl (D.1 13, 1600, .inl (fun _ => 0))), (q_4, .inl (D.1 13, 6, .inl (fun _ => 0))), (q_179, .inl (D.1 13, 10, .inl (fun _ => 0))), (q_185, .inl (D.1 13, 6, .inl f_191)), (q_197, .inl (D.1 13, 906, .inl (fun _ => 0))), (q_225, .inl (D.1 13, 48, .inl (fun _ => 0))), (q_365, .inl (D.1 14, 3, .inl f_368))] := hD
  have hP := hP.sub (ws' := [(h0, .inr (12, fs_369)), (q_1, .inl (D.1 13, 1600, .inl (fun _ => 0))), (q_4, .inl (D.1 13, 6, .inl (fun _ => 0))), (q_179, .inl (D.1 13, 10, .inl (fun _ => 0))), (q_185, .inl (D.1 13, 6, .inl f_191)), (q_197, .inl (D.1 13, 906, .inl (fun _ => 0))), (q_225, .inl (D.1 13, 48, .inl (fun _ => 0)))]) [0, 1, 2, 3, 4, 5, 6] rfl
  have hD := hD.sub (ws' := [(h0, .inr (12, fs_369)), (q_1, .inl (D.1 13, 1600, .inl (fun _ => 0))), (q_4, .inl (D.1 13, 6, .inl (fun _ => 0))), (q_179, .inl (D.1 13, 10, .inl (fun _ => 0))), (q_185, .inl (D.1 13, 6, .inl f_191)), (q_197, .inl (D.1 13, 906, .inl (fun _ => 0))), (q_225, .inl (D.1 13, 48, .inl (fun _ => 0)))]) [0, 1, 2, 3, 4, 5, 6] (by decide) rfl
  refine lv_aload_n hx hb dX12_init_1668 rfl (lv_at hl 0 rfl) ?_
  refine lv_sipush (v := 1700) hx hb dX12_init_1669 (by decide) ?_
  refine va_newa (atype := .int) (a0 := (1700, .inl (fun _ => 0))) (ty := .int) (N' := 1700) hx hb (ht _ ac_int) rfl hK hP hD hS hA (fun _ => rfl) (by decide) (by decide) (by decide) (Nat.le_trans (Nat.le_of_ble_eq_true rfl) hRc) (Nat.le_trans (Nat.le_of_ble_eq_true rfl) hRs) dX12_init_1672 (fun q_370 cA H hK2 hP hD hS => ?_)
  obtain rfl := z_cls_int hK hK2
  refine W.widen (k := 75) (n := 29453) (Nat.le_of_ble_eq_true rfl) (Nat.le_of_ble_eq_true rfl) ?_
  have hP : va_P D vwCl [(h0, .inr (12, fs_369)), (q_1, .inl (D.1 13, 1600, .inl (fun _ => 0))), (q_4, .inl (D.1 13, 6, .inl (fun _ => 0))), (q_179, .inl (D.1 13, 10, .inl (fun _ => 0))), (q_185, .inl (D.1 13, 6, .inl f_191)), (q_197, .inl (D.1 13, 906, .inl (fun _ => 0))), (q_225, .inl (D.1 13, 48, .inl (fun _ => 0))), (q_370, .inl (D.1 13, 1700, .inl (fun _ => 0)))] H := hP
  have hD : va_D A [(h0, .inr (12, fs_369)), (q_1, .inl (D.1 13, 1600, .inl (fun _ => 0))), (q_4, .inl (D.1 13, 6, .inl (fun _ => 0))), (q_179, .inl (D.1 13, 10, .inl (fun _ => 0))), (q_185, .inl (D.1 13, 6, .inl f_191)), (q_197, .inl (D.1 13, 906, .inl (fun _ => 0))), (q_225, .inl (D.1 13, 48, .inl (fun _ => 0))), (q_370, .inl (D.1 13, 1700, .inl (fun _ => 0)))] := hD
  refine va_putF (D := D) (ci := 12) (v := .ref q_370) (ty := .array .int) (C := RX12) (T := TX12) (N := 116) hx hb ht inX12 tyX12 tyX12_ok nmX12 hown hK hP hD hS 0 rfl rfl 101 (by decide) (ht (.fieldLink RX12 243 "CloneVolumesModel" "qCodes" "[I") fl_X12_243) (fun _ h9 => h9) rfl hin rfl (by decide +kernel) rfl rfl (by rw [hlen]; decide) dX12_init_1674 (fun H locs hP hD hS => ?_)
  have hP : va_P D vwCl [(h0, .inr (12, (fs_369.set 101 (.ref q_370)))), (q_1, .inl (D.1 13, 1600, .inl (fun _ => 0))), (q_4, .inl (D.1 13, 6, .inl (fun _ => 0))), (q_179, .inl (D.1 13, 10, .inl (fun _ => 0))), (q_185, .inl (D.1 13, 6, .inl f_191)), (q_197, .inl (D.1 13, 906, .inl (fun _ => 0))), (q_225, .inl (D.1 13, 48, .inl (fun _ => 0))), (q_370, .inl (D.1 13, 1700, .inl (fun _ => 0)))] H := hP
  have hD : va_D A [(h0, .inr (12, (fs_369.set 101 (.ref q_370)))), (q_1, .inl (D.1 13, 1600, .inl (fun _ => 0))), (q_4, .inl (D.1 13, 6, .inl (fun _ => 0))), (q_179, .inl (D.1 13, 10, .inl (fun _ => 0))), (q_185, .inl (D.1 13, 6, .inl f_191)), (q_197, .inl (D.1 13, 906, .inl (fun _ => 0))), (q_225, .inl (D.1 13, 48, .inl (fun _ => 0))), (q_370, .inl (D.1 13, 1700, .inl (fun _ => 0)))] := hD
  generalize hfs_371 : fs_369.set 101 (.ref q_370) = fs_371 at hP hD
  have hlen : fs_371.length = 116 := by rw [← hfs_371, List.length_set]; exact hlen
  have hP : va_P D vwCl [(h0, .inr (12, fs_371)), (q_1, .inl (D.1 13, 1600, .inl (fun _ => 0))), (q_4, .inl (D.1 13, 6, .inl (fun _ => 0))), (q_179, .inl (D.1 13, 10, .inl (fun _ => 0))), (q_185, .inl (D.1 13, 6, .inl f_191)), (q_197, .inl (D.1 13, 906, .inl (fun _ => 0))), (q_225, .inl (D.1 13, 48, .inl (fun _ => 0))), (q_370, .inl (D.1 13, 1700, .inl (fun _ => 0)))] H := hP
  have hD : va_D A [(h0, .inr (12, fs_371)), (q_1, .inl (D.1 13, 1600, .inl (fun _ => 0))), (q_4, .inl (D.1 13, 6, .inl (fun _ => 0))), (q_179, .inl (D.1 13, 10, .inl (fun _ => 0))), (q_185, .inl (D.1 13, 6, .inl f_191)), (q_197, .inl (D.1 13, 906, .inl (fun _ => 0))), (q_225, .inl (D.1 13, 48, .inl (fun _ => 0))), (q_370, .inl (D.1 13, 1700, .inl (fun _ => 0)))] := hD
  have hP := hP.sub (ws' := [(h0, .inr (12, fs_371)), (q_1, .inl (D.1 13, 1600, .inl (fun _ => 0))), (q_4, .inl (D.1 13, 6, .inl (fun _ => 0))), (q_179, .inl (D.1 13, 10, .inl (fun _ => 0))), (q_185, .inl (D.1 13, 6, .inl f_191)), (q_197, .inl (D.1 13, 906, .inl (fun _ => 0))), (q_225, .inl (D.1 13, 48, .inl (fun _ => 0)))]) [0, 1, 2, 3, 4, 5, 6] rfl
  have hD := hD.sub (ws' := [(h0, .inr (12, fs_371)), (q_1, .inl (D.1 13, 1600, .inl (fun _ => 0))), (q_4, .inl (D.1 13, 6, .inl (fun _ => 0))), (q_179, .inl (D.1 13, 10, .inl (fun _ => 0))), (q_185, .inl (D.1 13, 6, .inl f_191)), (q_197, .inl (D.1 13, 906, .inl (fun _ => 0))), (q_225, .inl (D.1 13, 48, .inl (fun _ => 0)))]) [0, 1, 2, 3, 4, 5, 6] (by decide) rfl
  refine lv_aload_n hx hb dX12_init_1677 rfl (lv_at hl 0 rfl) ?_
  refine lv_sipush (v := 1700) hx hb dX12_init_1678 (by decide) ?_
  refine va_newa (atype := .int) (a0 := (1700, .inl (fun _ => 0))) (ty := .int) (N' := 1700) hx hb (ht _ ac_int) rfl hK hP hD hS hA (fun _ => rfl) (by decide) (by decide) (by decide) (Nat.le_trans (Nat.le_of_ble_eq_true rfl) hRc) (Nat.le_trans (Nat.le_of_ble_eq_true rfl) hRs) dX12_init_1681 (fun q_372 cA H hK2 hP hD hS => ?_)
  obtain rfl := z_cls_int hK hK2
  refine W.widen (k := 76) (n := 31153) (Nat.le_of_ble_eq_true rfl) (Nat.le_of_ble_eq_true rfl) ?_
  have hP : va_P D vwCl [(h0, .inr (12, fs_371)), (q_1, .inl (D.1 13, 1600, .inl (fun _ => 0))), (q_4, .inl (D.1 13, 6, .inl (fun _ => 0))), (q_179, .inl (D.1 13, 10, .inl (fun _ => 0))), (q_185, .inl (D.1 13, 6, .inl f_191)), (q_197, .inl (D.1 13, 906, .inl (fun _ => 0))), (q_225, .inl (D.1 13, 48, .inl (fun _ => 0))), (q_372, .inl (D.1 13, 1700, .inl (fun _ => 0)))] H := hP
  have hD : va_D A [(h0, .inr (12, fs_371)), (q_1, .inl (D.1 13, 1600, .inl (fun _ => 0))), (q_4, .inl (D.1 13, 6, .inl (fun _ => 0))), (q_179, .inl (D.1 13, 10, .inl (fun _ => 0))), (q_185, .inl (D.1 13, 6, .inl f_191)), (q_197, .inl (D.1 13, 906, .inl (fun _ => 0))), (q_225, .inl (D.1 13, 48, .inl (fun _ => 0))), (q_372, .inl (D.1 13, 1700, .inl (fun _ => 0)))] := hD
  refine va_putF (D := D) (ci := 12) (v := .ref q_372) (ty := .array .int) (C := RX12) (T := TX12) (N := 116) hx hb ht inX12 tyX12 tyX12_ok nmX12 hown hK hP hD hS 0 rfl rfl 103 (by decide) (ht (.fieldLink RX12 246 "CloneVolumesModel" "qWait" "[I") fl_X12_246) (fun _ h9 => h9) rfl hin rfl (by decide +kernel) rfl rfl (by rw [hlen]; decide) dX12_init_1683 (fun H locs hP hD hS => ?_)
  have hP : va_P D vwCl [(h0, .inr (12, (fs_371.set 103 (.ref q_372)))), (q_1, .inl (D.1 13, 1600, .inl (fun _ => 0))), (q_4, .inl (D.1 13, 6, .inl (fun _ => 0))), (q_179, .inl (D.1 13, 10, .inl (fun _ => 0))), (q_185, .inl (D.1 13, 6, .inl f_191)), (q_197, .inl (D.1 13, 906, .inl (fun _ => 0))), (q_225, .inl (D.1 13, 48, .inl (fun _ => 0))), (q_372, .inl (D.1 13, 1700, .inl (fun _ => 0)))] H := hP
  have hD : va_D A [(h0, .inr (12, (fs_371.set 103 (.ref q_372)))), (q_1, .inl (D.1 13, 1600, .inl (fun _ => 0))), (q_4, .inl (D.1 13, 6, .inl (fun _ => 0))), (q_179, .inl (D.1 13, 10, .inl (fun _ => 0))), (q_185, .inl (D.1 13, 6, .inl f_191)), (q_197, .inl (D.1 13, 906, .inl (fun _ => 0))), (q_225, .inl (D.1 13, 48, .inl (fun _ => 0))), (q_372, .inl (D.1 13, 1700, .inl (fun _ => 0)))] := hD
  generalize hfs_373 : fs_371.set 103 (.ref q_372) = fs_373 at hP hD
  have hlen : fs_373.length = 116 := by rw [← hfs_373, List.length_set]; exact hlen
  have hP : va_P D vwCl [(h0, .inr (12, fs_373)), (q_1, .inl (D.1 13, 1600, .inl (fun _ => 0))), (q_4, .inl (D.1 13, 6, .inl (fun _ => 0))), (q_179, .inl (D.1 13, 10, .inl (fun _ => 0))), (q_185, .inl (D.1 13, 6, .inl f_191)), (q_197, .inl (D.1 13, 906, .inl (fun _ => 0))), (q_225, .inl (D.1 13, 48, .inl (fun _ => 0))), (q_372, .inl (D.1 13, 1700, .inl (fun _ => 0)))] H := hP
  have hD : va_D A [(h0, .inr (12, fs_373)), (q_1, .inl (D.1 13, 1600, .inl (fun _ => 0))), (q_4, .inl (D.1 13, 6, .inl (fun _ => 0))), (q_179, .inl (D.1 13, 10, .inl (fun _ => 0))), (q_185, .inl (D.1 13, 6, .inl f_191)), (q_197, .inl (D.1 13, 906, .inl (fun _ => 0))), (q_225, .inl (D.1 13, 48, .inl (fun _ => 0))), (q_372, .inl (D.1 13, 1700, .inl (fun _ => 0)))] := hD
  have hP := hP.sub (ws' := [(h0, .inr (12, fs_373)), (q_1, .inl (D.1 13, 1600, .inl (fun _ => 0))), (q_4, .inl (D.1 13, 6, .inl (fun _ => 0))), (q_179, .inl (D.1 13, 10, .inl (fun _ => 0))), (q_185, .inl (D.1 13, 6, .inl f_191)), (q_197, .inl (D.1 13, 906, .inl (fun _ => 0))), (q_225, .inl (D.1 13, 48, .inl (fun _ => 0)))]) [0, 1, 2, 3, 4, 5, 6] rfl
  have hD := hD.sub (ws' := [(h0, .inr (12, fs_373)), (q_1, .inl (D.1 13, 1600, .inl (fun _ => 0))), (q_4, .inl (D.1 13, 6, .inl (fun _ => 0))), (q_179, .inl (D.1 13, 10, .inl (fun _ => 0))), (q_185, .inl (D.1 13, 6, .inl f_191)), (q_197, .inl (D.1 13, 906, .inl (fun _ => 0))), (q_225, .inl (D.1 13, 48, .inl (fun _ => 0)))]) [0, 1, 2, 3, 4, 5, 6] (by decide) rfl
  refine lv_aload_n hx hb dX12_init_1686 rfl (lv_at hl 0 rfl) ?_
  refine lv_sipush (v := 1700) hx hb dX12_init_1687 (by decide) ?_
  refine va_newa (atype := .long) (a0 := (1700, .inr (.inl (fun _ => 0)))) (ty := .long) (N' := 1700) hx hb (ht _ ac_long) rfl hK hP hD hS hA (fun _ => rfl) (by decide) (by decide) (by decide) (Nat.le_trans (Nat.le_of_ble_eq_true rfl) hRc) (Nat.le_trans (Nat.le_of_ble_eq_true rfl) hRs) dX12_init_1690 (fun q_374 cA H hK2 hP hD hS => ?_)
  obtain rfl := z_cls_long hK hK2
  refine W.widen (k := 77) (n := 32853) (Nat.le_of_ble_eq_true rfl) (Nat.le_of_ble_eq_true rfl) ?_
  have hP : va_P D vwCl [(h0, .inr (12, fs_373)), (q_1, .inl (D.1 13, 1600, .inl (fun _ => 0))), (q_4, .inl (D.1 13, 6, .inl (fun _ => 0))), (q_179, .inl (D.1 13, 10, .inl (fun _ => 0))), (q_185, .inl (D.1 13, 6, .inl f_191)), (q_197, .inl (D.1 13, 906, .inl (fun _ => 0))), (q_225, .inl (D.1 13, 48, .inl (fun _ => 0))), (q_374, .inl (D.1 15, 1700, .inr (.inl (fun _ => 0))))] H := hP
  have hD : va_D A [(h0, .inr (12, fs_373)), (q_1, .inl (D.1 13, 1600, .inl (fun _ => 0))), (q_4, .inl (D.1 13, 6, .inl (fun _ => 0))), (q_179, .inl (D.1 13, 10, .inl (fun _ => 0))), (q_185, .inl (D.1 13, 6, .inl f_191)), (q_197, .inl (D.1 13, 906, .inl (fun _ => 0))), (q_225, .inl (D.1 13, 48, .inl (fun _ => 0))), (q_374, .inl (D.1 15, 1700, .inr (.inl (fun _ => 0))))] := hD
  refine va_putF (D := D) (ci := 12) (v := .ref q_374) (ty := .array .long) (C := RX12) (T := TX12) (N := 116) hx hb ht inX12 tyX12 tyX12_ok nmX12 hown hK hP hD hS 0 rfl rfl 107 (by decide) (ht (.fieldLink RX12 249 "CloneVolumesModel" "qPile" "[J") fl_X12_249) (fun _ h9 => h9) rfl hin rfl (by decide +kernel) rfl rfl (by rw [hlen]; decide) dX12_init_1692 (fun H locs hP hD hS => ?_)
  have hP : va_P D vwCl [(h0, .inr (12, (fs_373.set 107 (.ref q_374)))), (q_1, .inl (D.1 13, 1600, .inl (fun _ => 0))), (q_4, .inl (D.1 13, 6, .inl (fun _ => 0))), (q_179, .inl (D.1 13, 10, .inl (fun _ => 0))), (q_185, .inl (D.1 13, 6, .inl f_191)), (q_197, .inl (D.1 13, 906, .inl (fun _ => 0))), (q_225, .inl (D.1 13, 48, .inl (fun _ => 0))), (q_374, .inl (D.1 15, 1700, .inr (.inl (fun _ => 0))))] H := hP
  have hD : va_D A [(h0, .inr (12, (fs_373.set 107 (.ref q_374)))), (q_1, .inl (D.1 13, 1600, .inl (fun _ => 0))), (q_4, .inl (D.1 13, 6, .inl (fun _ => 0))), (q_179, .inl (D.1 13, 10, .inl (fun _ => 0))), (q_185, .inl (D.1 13, 6, .inl f_191)), (q_197, .inl (D.1 13, 906, .inl (fun _ => 0))), (q_225, .inl (D.1 13, 48, .inl (fun _ => 0))), (q_374, .inl (D.1 15, 1700, .inr (.inl (fun _ => 0))))] := hD
  generalize hfs_375 : fs_373.set 107 (.ref q_374) = fs_375 at hP hD
  have hlen : fs_375.length = 116 := by rw [← hfs_375, List.length_set]; exact hlen
  have hP : va_P D vwCl [(h0, .inr (12, fs_375)), (q_1, .inl (D.1 13, 1600, .inl (fun _ => 0))), (q_4, .inl (D.1 13, 6, .inl (fun _ => 0))), (q_179, .inl (D.1 13, 10, .inl (fun _ => 0))), (q_185, .inl (D.1 13, 6, .inl f_191)), (q_197, .inl (D.1 13, 906, .inl (fun _ => 0))), (q_225, .inl (D.1 13, 48, .inl (fun _ => 0))), (q_374, .inl (D.1 15, 1700, .inr (.inl (fun _ => 0))))] H := hP
  have hD : va_D A [(h0, .inr (12, fs_375)), (q_1, .inl (D.1 13, 1600, .inl (fun _ => 0))), (q_4, .inl (D.1 13, 6, .inl (fun _ => 0))), (q_179, .inl (D.1 13, 10, .inl (fun _ => 0))), (q_185, .inl (D.1 13, 6, .inl f_191)), (q_197, .inl (D.1 13, 906, .inl (fun _ => 0))), (q_225, .inl (D.1 13, 48, .inl (fun _ => 0))), (q_374, .inl (D.1 15, 1700, .inr (.inl (fun _ => 0))))] := hD
  have hP := hP.sub (ws' := [(h0, .inr (12, fs_375)), (q_1, .inl (D.1 13, 1600, .inl (fun _ => 0))), (q_4, .inl (D.1 13, 6, .inl (fun _ => 0))), (q_179, .inl (D.1 13, 10, .inl (fun _ => 0))), (q_185, .inl (D.1 13, 6, .inl f_191)), (q_197, .inl (D.1 13, 906, .inl (fun _ => 0))), (q_225, .inl (D.1 13, 48, .inl (fun _ => 0)))]) [0, 1, 2, 3, 4, 5, 6] rfl
  have hD := hD.sub (ws' := [(h0, .inr (12, fs_375)), (q_1, .inl (D.1 13, 1600, .inl (fun _ => 0))), (q_4, .inl (D.1 13, 6, .inl (fun _ => 0))), (q_179, .inl (D.1 13, 10, .inl (fun _ => 0))), (q_185, .inl (D.1 13, 6, .inl f_191)), (q_197, .inl (D.1 13, 906, .inl (fun _ => 0))), (q_225, .inl (D.1 13, 48, .inl (fun _ => 0)))]) [0, 1, 2, 3, 4, 5, 6] (by decide) rfl
  exact kk q_359 q_365 q_370 q_372 q_374 fs_375 _ _ (by rw [← hfs_375, ← hfs_373, ← hfs_371, ← hfs_369, ← hfs_364]) hP hD hS
set_option maxHeartbeats 4000000 in
set_option maxRecDepth 100000 in
theorem cM_22 {h0 : Nat} {q_1 : Nat} {q_4 : Nat} {q_179 : Nat} {q_185 : Nat} {q_197 : Nat} {q_225 : Nat} {f_191 : Nat → Int32} (hx : p.tables.exec = Jvm.exec) (hb : c.code = cX12_init) (ht : ∀ w ∈ lw_gd, w.before args s = true) (hown : s.vm.findClass RX12 = some m.cls) (hin : meth.name = "<init>") (hK : va_K D vwCl (TY D) s) (hA : ∀ q : Nat, s.heap.size ≤ q → A q) (hRc : 80 ≤ R.cells) (hRs : 35050 ≤ R.slots) (hl : lv_has ls 1 [(0, .ref h0)]) {fs : List Value} (hlen : fs.length = 116) {H : Heap} {locs : List Loc} (hP : va_P D vwCl [(h0, .inr (12, fs)), (q_1, .inl (D.1 13, 1600, .inl (fun _ => 0))), (q_4, .inl (D.1 13, 6, .inl (fun _ => 0))), (q_179, .inl (D.1 13, 10, .inl (fun _ => 0))), (q_185, .inl (D.1 13, 6, .inl f_191)), (q_197, .inl (D.1 13, 906, .inl (fun _ => 0))), (q_225, .inl (D.1 13, 48, .inl (fun _ => 0)))] H) (hD : va_D A [(h0, .inr (12, fs)), (q_1, .inl (D.1 13, 1600, .inl (fun _ => 0))), (q_4, .inl (D.1 13, 6, .inl (fun _ => 0))), (q_179, .inl (D.1 13, 10, .inl (fun _ => 0))), (q_185, .inl (D.1 13, 6, .inl f_191)), (q_197, .inl (D.1 13, 906, .inl (fun _ => 0))), (q_225, .inl (D.1 13, 48, .inl (fun _ => 0)))]) (hS : va_S A s.heap H locs)
    (kk : ∀ (q_376 : Nat) (q_378 : Nat) (q_380 : Nat) (fs' : List Value) (H : Heap) (locs : List Loc), fs' = (((fs.set 111 (.ref q_376)).set 113 (.ref q_378)).set 115 (.ref q_380)) → va_P D vwCl [(h0, .inr (12, fs')), (q_1, .inl (D.1 13, 1600, .inl (fun _ => 0))), (q_4, .inl (D.1 13, 6, .inl (fun _ => 0))), (q_179, .inl (D.1 13, 10, .inl (fun _ => 0))), (q_185, .inl (D.1 13, 6, .inl f_191)), (q_197, .inl (D.1 13, 906, .inl (fun _ => 0))), (q_225, .inl (D.1 13, 48, .inl (fun _ => 0))), (q_376, .inl (D.1 13, 1364, .inl (fun _ => 0)))] H → va_D A [(h0, .inr (12, fs')), (q_1, .inl (D.1 13, 1600, .inl (fun _ => 0))), (q_4, .inl (D.1 13, 6, .inl (fun _ => 0))), (q_179, .inl (D.1 13, 10, .inl (fun _ => 0))), (q_185, .inl (D.1 13, 6, .inl f_191)), (q_197, .inl (D.1 13, 906, .inl (fun _ => 0))), (q_225, .inl (D.1 13, 48, .inl (fun _ => 0))), (q_376, .inl (D.1 13, 1364, .inl (fun _ => 0)))] → va_S A s.heap H locs → W p l e R s m args below meth c H locs 80 35050 Q (F0 m 1721 ls [])) : W p l e R s m args below meth c H locs 77 32853 Q (F0 m 1695 ls []) := by
  refine lv_aload_n hx hb dX12_init_1695 rfl (lv_at hl 0 rfl) ?_
  refine lv_sipush (v := 1364) hx hb dX12_init_1696 (by decide) ?_
  refine va_newa (atype := .int) (a0 := (1364, .inl (fun _ => 0))) (ty := .int) (N' := 1364) hx hb (ht _ ac_int) rfl hK hP hD hS hA (fun _ => rfl) (by decide) (by decide) (by decide) (Nat.le_trans (Nat.le_of_ble_eq_true rfl) hRc) (Nat.le_trans (Nat.le_of_ble_eq_true rfl) hRs) dX12_init_1699 (fun q_376 cA H hK2 hP hD hS => ?_)
  obtain rfl := z_cls_int hK hK2
  refine W.widen (k := 78) (n := 34217) (Nat.le_of_ble_eq_true rfl) (Nat.le_of_ble_eq_true rfl) ?_
  have hP : va_P D vwCl [(h0, .inr (12, fs)), (q_1, .inl (D.1 13, 1600, .inl (fun _ => 0))), (q_4, .inl (D.1 13, 6, .inl (fun _ => 0))), (q_179, .inl (D.1 13, 10, .inl (fun _ => 0))), (q_185, .inl (D.1 13, 6, .inl f_191)), (q_197, .inl (D.1 13, 906, .inl (fun _ => 0))), (q_225, .inl (D.1 13, 48, .inl (fun _ => 0))), (q_376, .inl (D.1 13, 1364, .inl (fun _ => 0)))] H := hP
  have hD : va_D A [(h0, .inr (12, fs)), (q_1, .inl (D.1 13, 1600, .inl (fun _ => 0))), (q_4, .inl (D.1 13, 6, .inl (fun _ => 0))), (q_179, .inl (D.1 13, 10, .inl (fun _ => 0))), (q_185, .inl (D.1 13, 6, .inl f_191)), (q_197, .inl (D.1 13, 906, .inl (fun _ => 0))), (q_225, .inl (D.1 13, 48, .inl (fun _ => 0))), (q_376, .inl (D.1 13, 1364, .inl (fun _ => 0)))] := hD
  refine va_putF (D := D) (ci := 12) (v := .ref q_376) (ty := .array .int) (C := RX12) (T := TX12) (N := 116) hx hb ht inX12 tyX12 tyX12_ok nmX12 hown hK hP hD hS 0 rfl rfl 111 (by decide) (ht (.fieldLink RX12 252 "CloneVolumesModel" "octet" "[I") fl_X12_252) (fun _ h9 => h9) rfl hin rfl (by decide +kernel) rfl rfl (by rw [hlen]; decide) dX12_init_1701 (fun H locs hP hD hS => ?_)
  have hP : va_P D vwCl [(h0, .inr (12, (fs.set 111 (.ref q_376)))), (q_1, .inl (D.1 13, 1600, .inl (fun _ => 0))), (q_4, .inl (D.1 13, 6, .inl (fun _ => 0))), (q_179, .inl (D.1 13, 10, .inl (fun _ => 0))), (q_185, .inl (D.1 13, 6, .inl f_191)), (q_197, .inl (D.1 13, 906, .inl (fun _ => 0))), (q_225, .inl (D.1 13, 48, .inl (fun _ => 0))), (q_376, .inl (D.1 13, 1364, .inl (fun _ => 0)))] H := hP
  have hD : va_D A [(h0, .inr (12, (fs.set 111 (.ref q_376)))), (q_1, .inl (D.1 13, 1600, .inl (fun _ => 0))), (q_4, .inl (D.1 13, 6, .inl (fun _ => 0))), (q_179, .inl (D.1 13, 10, .inl (fun _ => 0))), (q_185, .inl (D.1 13, 6, .inl f_191)), (q_197, .inl (D.1 13, 906, .inl (fun _ => 0))), (q_225, .inl (D.1 13, 48, .inl (fun _ => 0))), (q_376, .inl (D.1 13, 1364, .inl (fun _ => 0)))] := hD
  generalize hfs_377 : fs.set 111 (.ref q_376) = fs_377 at hP hD
  have hlen : fs_377.length = 116 := by rw [← hfs_377, List.length_set]; exact hlen
  have hP : va_P D vwCl [(h0, .inr (12, fs_377)), (q_1, .inl (D.1 13, 1600, .inl (fun _ => 0))), (q_4, .inl (D.1 13, 6, .inl (fun _ => 0))), (q_179, .inl (D.1 13, 10, .inl (fun _ => 0))), (q_185, .inl (D.1 13, 6, .inl f_191)), (q_197, .inl (D.1 13, 906, .inl (fun _ => 0))), (q_225, .inl (D.1 13, 48, .inl (fun _ => 0))), (q_376, .inl (D.1 13, 1364, .inl (fun _ => 0)))] H := hP
  have hD : va_D A [(h0, .inr (12, fs_377)), (q_1, .inl (D.1 13, 1600, .inl (fun _ => 0))), (q_4, .inl (D.1 13, 6, .inl (fun _ => 0))), (q_179, .inl (D.1 13, 10, .inl (fun _ => 0))), (q_185, .inl (D.1 13, 6, .inl f_191)), (q_197, .inl (D.1 13, 906, .inl (fun _ => 0))), (q_225, .inl (D.1 13, 48, .inl (fun _ => 0))), (q_376, .inl (D.1 13, 1364, .inl (fun _ => 0)))] := hD
  refine lv_aload_n hx hb dX12_init_1704 rfl (lv_at hl 0 rfl) ?_
  refine lv_sipush (v := 785) hx hb dX12_init_1705 (by decide) ?_
  refine va_newa (atype := .int) (a0 := (785, .inl (fun _ => 0))) (ty := .int) (N' := 785) hx hb (ht _ ac_int) rfl hK hP hD hS hA (fun _ => rfl) (by decide) (by decide) (by decide) (Nat.le_trans (Nat.le_of_ble_eq_true rfl) hRc) (Nat.le_trans (Nat.le_of_ble_eq_true rfl) hRs) dX12_init_1708 (fun q_378 cA H hK2 hP hD hS => ?_)
  obtain rfl := z_cls_int hK hK2
  refine W.widen (k := 79) (n := 35002) (Nat.le_of_ble_eq_true rfl) (Nat.le_of_ble_eq_true rfl) ?_
  have hP : va_P D vwCl [(h0, .inr (12, fs_377)), (q_1, .inl (D.1 13, 1600, .inl (fun _ => 0))), (q_4, .inl (D.1 13, 6, .inl (fun _ => 0))), (q_179, .inl (D.1 13, 10, .inl (fun _ => 0))), (q_185, .inl (D.1 13, 6, .inl f_191)), (q_197, .inl (D.1 13, 906, .inl (fun _ => 0))), (q_225, .inl (D.1 13, 48, .inl (fun _ => 0))), (q_376, .inl (D.1 13, 1364, .inl (fun _ => 0))), (q_378, .inl (D.1 13, 785, .inl (fun _ => 0)))] H := hP
  have hD : va_D A [(h0, .inr (12, fs_377)), (q_1, .inl (D.1 13, 1600, .inl (fun _ => 0))), (q_4, .inl (D.1 13, 6, .inl (fun _ => 0))), (q_179, .inl (D.1 13, 10, .inl (fun _ => 0))), (q_185, .inl (D.1 13, 6, .inl f_191)), (q_197, .inl (D.1 13, 906, .inl (fun _ => 0))), (q_225, .inl (D.1 13, 48, .inl (fun _ => 0))), (q_376, .inl (D.1 13, 1364, .inl (fun _ => 0))), (q_378, .inl (D.1 13, 785, .inl (fun _ => 0)))] := hD
  refine va_putF (D := D) (ci := 12) (v := .ref q_378) (ty := .array .int) (C := RX12) (T := TX12) (N := 116) hx hb ht inX12 tyX12 tyX12_ok nmX12 hown hK hP hD hS 0 rfl rfl 113 (by decide) (ht (.fieldLink RX12 255 "CloneVolumesModel" "laid" "[I") fl_X12_255) (fun _ h9 => h9) rfl hin rfl (by decide +kernel) rfl rfl (by rw [hlen]; decide) dX12_init_1710 (fun H locs hP hD hS => ?_)
  have hP : va_P D vwCl [(h0, .inr (12, (fs_377.set 113 (.ref q_378)))), (q_1, .inl (D.1 13, 1600, .inl (fun _ => 0))), (q_4, .inl (D.1 13, 6, .inl (fun _ => 0))), (q_179, .inl (D.1 13, 10, .inl (fun _ => 0))), (q_185, .inl (D.1 13, 6, .inl f_191)), (q_197, .inl (D.1 13, 906, .inl (fun _ => 0))), (q_225, .inl (D.1 13, 48, .inl (fun _ => 0))), (q_376, .inl (D.1 13, 1364, .inl (fun _ => 0))), (q_378, .inl (D.1 13, 785, .inl (fun _ => 0)))] H := hP
  have hD : va_D A [(h0, .inr (12, (fs_377.set 113 (.ref q_378)))), (q_1, .inl (D.1 13, 1600, .inl (fun _ => 0))), (q_4, .inl (D.1 13, 6, .inl (fun _ => 0))), (q_179, .inl (D.1 13, 10, .inl (fun _ => 0))), (q_185, .inl (D.1 13, 6, .inl f_191)), (q_197, .inl (D.1 13, 906, .inl (fun _ => 0))), (q_225, .inl (D.1 13, 48, .inl (fun _ => 0))), (q_376, .inl (D.1 13, 1364, .inl (fun _ => 0))), (q_378, .inl (D.1 13, 785, .inl (fun _ => 0)))] := hD
  generalize hfs_379 : fs_377.set 113 (.ref q_378) = fs_379 at hP hD
  have hlen : fs_379.length = 116 := by rw [← hfs_379, List.length_set]; exact hlen
  have hP : va_P D vwCl [(h0, .inr (12, fs_379)), (q_1, .inl (D.1 13, 1600, .inl (fun _ => 0))), (q_4, .inl (D.1 13, 6, .inl (fun _ => 0))), (q_179, .inl (D.1 13, 10, .inl (fun _ => 0))), (q_185, .inl (D.1 13, 6, .inl f_191)), (q_197, .inl (D.1 13, 906, .inl (fun _ => 0))), (q_225, .inl (D.1 13, 48, .inl (fun _ => 0))), (q_376, .inl (D.1 13, 1364, .inl (fun _ => 0))), (q_378, .inl (D.1 13, 785, .inl (fun _ => 0)))] H := hP
  have hD : va_D A [(h0, .inr (12, fs_379)), (q_1, .inl (D.1 13, 1600, .inl (fun _ => 0))), (q_4, .inl (D.1 13, 6, .inl (fun _ => 0))), (q_179, .inl (D.1 13, 10, .inl (fun _ => 0))), (q_185, .inl (D.1 13, 6, .inl f_191)), (q_197, .inl (D.1 13, 906, .inl (fun _ => 0))), (q_225, .inl (D.1 13, 48, .inl (fun _ => 0))), (q_376, .inl (D.1 13, 1364, .inl (fun _ => 0))), (q_378, .inl (D.1 13, 785, .inl (fun _ => 0)))] := hD
  have hP := hP.sub (ws' := [(h0, .inr (12, fs_379)), (q_1, .inl (D.1 13, 1600, .inl (fun _ => 0))), (q_4, .inl (D.1 13, 6, .inl (fun _ => 0))), (q_179, .inl (D.1 13, 10, .inl (fun _ => 0))), (q_185, .inl (D.1 13, 6, .inl f_191)), (q_197, .inl (D.1 13, 906, .inl (fun _ => 0))), (q_225, .inl (D.1 13, 48, .inl (fun _ => 0))), (q_376, .inl (D.1 13, 1364, .inl (fun _ => 0)))]) [0, 1, 2, 3, 4, 5, 6, 7] rfl
  have hD := hD.sub (ws' := [(h0, .inr (12, fs_379)), (q_1, .inl (D.1 13, 1600, .inl (fun _ => 0))), (q_4, .inl (D.1 13, 6, .inl (fun _ => 0))), (q_179, .inl (D.1 13, 10, .inl (fun _ => 0))), (q_185, .inl (D.1 13, 6, .inl f_191)), (q_197, .inl (D.1 13, 906, .inl (fun _ => 0))), (q_225, .inl (D.1 13, 48, .inl (fun _ => 0))), (q_376, .inl (D.1 13, 1364, .inl (fun _ => 0)))]) [0, 1, 2, 3, 4, 5, 6, 7] (by decide) rfl
  refine lv_aload_n hx hb dX12_init_1713 rfl (lv_at hl 0 rfl) ?_
  refine lv_bipush (v := 48) hx hb dX12_init_1714 (by decide) ?_
  refine va_newa (atype := .int) (a0 := (48, .inl (fun _ => 0))) (ty := .int) (N' := 48) hx hb (ht _ ac_int) rfl hK hP hD hS hA (fun _ => rfl) (by decide) (by decide) (by decide) (Nat.le_trans (Nat.le_of_ble_eq_true rfl) hRc) (Nat.le_trans (Nat.le_of_ble_eq_true rfl) hRs) dX12_init_1716 (fun q_380 cA H hK2 hP hD hS => ?_)
  obtain rfl := z_cls_int hK hK2
  refine W.widen (k := 80) (n := 35050) (Nat.le_of_ble_eq_true rfl) (Nat.le_of_ble_eq_true rfl) ?_
  have hP : va_P D vwCl [(h0, .inr (12, fs_379)), (q_1, .inl (D.1 13, 1600, .inl (fun _ => 0))), (q_4, .inl (D.1 13, 6, .inl (fun _ => 0))), (q_179, .inl (D.1 13, 10, .inl (fun _ => 0))), (q_185, .inl (D.1 13, 6, .inl f_191)), (q_197, .inl (D.1 13, 906, .inl (fun _ => 0))), (q_225, .inl (D.1 13, 48, .inl (fun _ => 0))), (q_376, .inl (D.1 13, 1364, .inl (fun _ => 0))), (q_380, .inl (D.1 13, 48, .inl (fun _ => 0)))] H := hP
  have hD : va_D A [(h0, .inr (12, fs_379)), (q_1, .inl (D.1 13, 1600, .inl (fun _ => 0))), (q_4, .inl (D.1 13, 6, .inl (fun _ => 0))), (q_179, .inl (D.1 13, 10, .inl (fun _ => 0))), (q_185, .inl (D.1 13, 6, .inl f_191)), (q_197, .inl (D.1 13, 906, .inl (fun _ => 0))), (q_225, .inl (D.1 13, 48, .inl (fun _ => 0))), (q_376, .inl (D.1 13, 1364, .inl (fun _ => 0))), (q_380, .inl (D.1 13, 48, .inl (fun _ => 0)))] := hD
  refine va_putF (D := D) (ci := 12) (v := .ref q_380) (ty := .array .int) (C := RX12) (T := TX12) (N := 116) hx hb ht inX12 tyX12 tyX12_ok nmX12 hown hK hP hD hS 0 rfl rfl 115 (by decide) (ht (.fieldLink RX12 258 "CloneVolumesModel" "recount" "[I") fl_X12_258) (fun _ h9 => h9) rfl hin rfl (by decide +kernel) rfl rfl (by rw [hlen]; decide) dX12_init_1718 (fun H locs hP hD hS => ?_)
  have hP : va_P D vwCl [(h0, .inr (12, (fs_379.set 115 (.ref q_380)))), (q_1, .inl (D.1 13, 1600, .inl (fun _ => 0))), (q_4, .inl (D.1 13, 6, .inl (fun _ => 0))), (q_179, .inl (D.1 13, 10, .inl (fun _ => 0))), (q_185, .inl (D.1 13, 6, .inl f_191)), (q_197, .inl (D.1 13, 906, .inl (fun _ => 0))), (q_225, .inl (D.1 13, 48, .inl (fun _ => 0))), (q_376, .inl (D.1 13, 1364, .inl (fun _ => 0))), (q_380, .inl (D.1 13, 48, .inl (fun _ => 0)))] H := hP
  have hD : va_D A [(h0, .inr (12, (fs_379.set 115 (.ref q_380)))), (q_1, .inl (D.1 13, 1600, .inl (fun _ => 0))), (q_4, .inl (D.1 13, 6, .inl (fun _ => 0))), (q_179, .inl (D.1 13, 10, .inl (fun _ => 0))), (q_185, .inl (D.1 13, 6, .inl f_191)), (q_197, .inl (D.1 13, 906, .inl (fun _ => 0))), (q_225, .inl (D.1 13, 48, .inl (fun _ => 0))), (q_376, .inl (D.1 13, 1364, .inl (fun _ => 0))), (q_380, .inl (D.1 13, 48, .inl (fun _ => 0)))] := hD
  generalize hfs_381 : fs_379.set 115 (.ref q_380) = fs_381 at hP hD
  have hlen : fs_381.length = 116 := by rw [← hfs_381, List.length_set]; exact hlen
  have hP : va_P D vwCl [(h0, .inr (12, fs_381)), (q_1, .inl (D.1 13, 1600, .inl (fun _ => 0))), (q_4, .inl (D.1 13, 6, .inl (fun _ => 0))), (q_179, .inl (D.1 13, 10, .inl (fun _ => 0))), (q_185, .inl (D.1 13, 6, .inl f_191)), (q_197, .inl (D.1 13, 906, .inl (fun _ => 0))), (q_225, .inl (D.1 13, 48, .inl (fun _ => 0))), (q_376, .inl (D.1 13, 1364, .inl (fun _ => 0))), (q_380, .inl (D.1 13, 48, .inl (fun _ => 0)))] H := hP
  have hD : va_D A [(h0, .inr (12, fs_381)), (q_1, .inl (D.1 13, 1600, .inl (fun _ => 0))), (q_4, .inl (D.1 13, 6, .inl (fun _ => 0))), (q_179, .inl (D.1 13, 10, .inl (fun _ => 0))), (q_185, .inl (D.1 13, 6, .inl f_191)), (q_197, .inl (D.1 13, 906, .inl (fun _ => 0))), (q_225, .inl (D.1 13, 48, .inl (fun _ => 0))), (q_376, .inl (D.1 13, 1364, .inl (fun _ => 0))), (q_380, .inl (D.1 13, 48, .inl (fun _ => 0)))] := hD
  have hP := hP.sub (ws' := [(h0, .inr (12, fs_381)), (q_1, .inl (D.1 13, 1600, .inl (fun _ => 0))), (q_4, .inl (D.1 13, 6, .inl (fun _ => 0))), (q_179, .inl (D.1 13, 10, .inl (fun _ => 0))), (q_185, .inl (D.1 13, 6, .inl f_191)), (q_197, .inl (D.1 13, 906, .inl (fun _ => 0))), (q_225, .inl (D.1 13, 48, .inl (fun _ => 0))), (q_376, .inl (D.1 13, 1364, .inl (fun _ => 0)))]) [0, 1, 2, 3, 4, 5, 6, 7] rfl
  have hD := hD.sub (ws' := [(h0, .inr (12, fs_381)), (q_1, .inl (D.1 13, 1600, .inl (fun _ => 0))), (q_4, .inl (D.1 13, 6, .inl (fun _ => 0))), (q_179, .inl (D.1 13, 10, .inl (fun _ => 0))), (q_185, .inl (D.1 13, 6, .inl f_191)), (q_197, .inl (D.1 13, 906, .inl (fun _ => 0))), (q_225, .inl (D.1 13, 48, .inl (fun _ => 0))), (q_376, .inl (D.1 13, 1364, .inl (fun _ => 0)))]) [0, 1, 2, 3, 4, 5, 6, 7] (by decide) rfl
  exact kk q_376 q_378 q_380 fs_381 _ _ (by rw [← hfs_381, ← hfs_379, ← hfs_377]) hP hD hS
end CM1
