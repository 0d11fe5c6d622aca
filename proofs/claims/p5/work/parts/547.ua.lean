theorem co_X2_forget : Cond.code yX2_forget cX2_forget 1 (some (.object "CloneVolumes$State")) ∈ lw_gd := zm (List.mem_of_getElem? (i := 1414) (by decide +kernel)) rfl
theorem im_X2_forget : Cond.instanceMethod yX2_forget ∈ lw_gd := zm (List.mem_of_getElem? (i := 1412) (by decide +kernel)) rfl
theorem ml_X11_308 : Cond.methodLink RX11 308 yX2_forget ∈ lw_gd := zm (List.mem_of_getElem? (i := 1411) (by decide +kernel)) rfl
theorem se_X2_forget : Cond.selects RX2 yX2_forget yX2_forget ∈ lw_gd := zm (List.mem_of_getElem? (i := 1413) (by decide +kernel)) rfl
theorem dX11_undo_0 : decode cX11_undo 0 = .ok (.aload_n 0, 1) := by decide +kernel
theorem dX11_undo_1 : decode cX11_undo 1 = .ok (.getfield 28, 3) := by decide +kernel
theorem dX11_undo_4 : decode cX11_undo 4 = .ok (.invokevirtual 308, 3) := by decide +kernel
theorem dX11_undo_7 : decode cX11_undo 7 = .ok (.astore_n 1, 1) := by decide +kernel
theorem dX11_undo_8 : decode cX11_undo 8 = .ok (.aload_n 1, 1) := by decide +kernel
theorem dX11_undo_9 : decode cX11_undo 9 = .ok (.ifnonnull 11, 3) := by decide +kernel
theorem dX11_undo_12 : decode cX11_undo 12 = .ok (.aload_n 0, 1) := by decide +kernel
theorem dX11_undo_13 : decode cX11_undo 13 = .ok (.iconst 4, 1) := by decide +kernel
theorem dX11_undo_14 : decode cX11_undo 14 = .ok (.invokevirtual 87, 3) := by decide +kernel
theorem dX11_undo_17 : decode cX11_undo 17 = .ok (.pop, 1) := by decide +kernel
theorem dX11_undo_18 : decode cX11_undo 18 = .ok (.iconst 0, 1) := by decide +kernel
theorem dX11_undo_19 : decode cX11_undo 19 = .ok (.ireturn, 1) := by decide +kernel
theorem dX11_undo_20 : decode cX11_undo 20 = .ok (.aload_n 0, 1) := by decide +kernel
theorem dX11_undo_21 : decode cX11_undo 21 = .ok (.getfield 79, 3) := by decide +kernel
theorem dX11_undo_24 : decode cX11_undo 24 = .ok (.getfield 125, 3) := by decide +kernel
theorem dX11_undo_27 : decode cX11_undo 27 = .ok (.aload_n 1, 1) := by decide +kernel
theorem dX11_undo_28 : decode cX11_undo 28 = .ok (.invokevirtual 312, 3) := by decide +kernel
theorem dX11_undo_31 : decode cX11_undo 31 = .ok (.iconst 1, 1) := by decide +kernel
theorem dX11_undo_32 : decode cX11_undo 32 = .ok (.ireturn, 1) := by decide +kernel
theorem dX2_forget_0 : decode cX2_forget 0 = .ok (.aload_n 0, 1) := by decide +kernel
theorem dX2_forget_1 : decode cX2_forget 1 = .ok (.getfield 31, 3) := by decide +kernel
theorem dX2_forget_4 : decode cX2_forget 4 = .ok (.ifCond .eq 10, 3) := by decide +kernel
theorem dX2_forget_7 : decode cX2_forget 7 = .ok (.aload_n 0, 1) := by decide +kernel
theorem dX2_forget_8 : decode cX2_forget 8 = .ok (.getfield 27, 3) := by decide +kernel
theorem dX2_forget_11 : decode cX2_forget 11 = .ok (.ifCond .ne 5, 3) := by decide +kernel
theorem dX2_forget_14 : decode cX2_forget 14 = .ok (.aconst_null, 1) := by decide +kernel
theorem dX2_forget_15 : decode cX2_forget 15 = .ok (.areturn, 1) := by decide +kernel
theorem dX2_forget_16 : decode cX2_forget 16 = .ok (.aload_n 0, 1) := by decide +kernel
theorem dX2_forget_17 : decode cX2_forget 17 = .ok (.dup, 1) := by decide +kernel
theorem dX2_forget_18 : decode cX2_forget 18 = .ok (.getfield 31, 3) := by decide +kernel
theorem dX2_forget_21 : decode cX2_forget 21 = .ok (.iconst 1, 1) := by decide +kernel
theorem dX2_forget_22 : decode cX2_forget 22 = .ok (.isub, 1) := by decide +kernel
theorem dX2_forget_23 : decode cX2_forget 23 = .ok (.putfield 31, 3) := by decide +kernel
theorem dX2_forget_26 : decode cX2_forget 26 = .ok (.aload_n 0, 1) := by decide +kernel
theorem dX2_forget_27 : decode cX2_forget 27 = .ok (.dup, 1) := by decide +kernel
theorem dX2_forget_28 : decode cX2_forget 28 = .ok (.getfield 27, 3) := by decide +kernel
theorem dX2_forget_31 : decode cX2_forget 31 = .ok (.iconst 1, 1) := by decide +kernel
theorem dX2_forget_32 : decode cX2_forget 32 = .ok (.isub, 1) := by decide +kernel
theorem dX2_forget_33 : decode cX2_forget 33 = .ok (.putfield 27, 3) := by decide +kernel
theorem dX2_forget_36 : decode cX2_forget 36 = .ok (.aload_n 0, 1) := by decide +kernel
theorem dX2_forget_37 : decode cX2_forget 37 = .ok (.getfield 23, 3) := by decide +kernel
theorem dX2_forget_40 : decode cX2_forget 40 = .ok (.aload_n 0, 1) := by decide +kernel
theorem dX2_forget_41 : decode cX2_forget 41 = .ok (.getfield 31, 3) := by decide +kernel
theorem dX2_forget_44 : decode cX2_forget 44 = .ok (.aaload, 1) := by decide +kernel
theorem dX2_forget_45 : decode cX2_forget 45 = .ok (.areturn, 1) := by decide +kernel
set_option maxHeartbeats 4000000 in
set_option maxRecDepth 100000 in
theorem k_x8_becomeP (l : Launch) (D : va_G) (a : Nat → Nat) (c1 c2 c3 c4 : Value) (sz : Nat) (s : MS) (o : MS) (h : m_x8_becomeP s = some o) : yWv l yX8_become cX8_become 2 none { frames := 1, cells := 0, slots := 0, locals := 60 } D sz [.ref (a 53), .ref (a 62)] (CW D a c1 c2 c3 c4 s) (CW D a c1 c2 c3 c4 o) := by
  refine Met.ofW (cc := cX8_become) (maxL := 2) (ret := none) (by decide) rfl ?_
  intro p e s₀ m args below meth c s₁ B hml hv
  obtain ⟨rfl, ⟨hsz, hP, hK, hD0⟩, hN⟩ := hv
  have hx := B.exec
  have hb := B.bytes
  have hr := B.returns
  have hts := atoms_spec (ws := wz yX8_become cX8_become 2 none) B.pre
  have ht : ∀ w ∈ lw_gd, w.before _ s₀ = true := fun w h => hts w (List.mem_cons_of_mem _ h)
  have hown : s₀.vm.findClass RX8 = some m.cls := findClass_of_methodNamed B.named
  have hlocks := B.notSynchronized
  subst hsz
  have hD := hD0.self (sz := s₀.heap.size)
  generalize hAe : va_A (CW D a c1 c2 c3 c4 s) s₀.heap.size = A at hD ⊢
  have hA : ∀ q : Nat, s₀.heap.size ≤ q → A q := fun q h => by rw [← hAe]; exact Or.inr h
  have hS : va_S A s₀.heap s₀.heap [] := va_S.rf
  have hDD : ∀ t : MS, va_D A (CW D a c1 c2 c3 c4 t) := fun t => CW_D t hD
  have hl := lv_entry ([.ref (a 53), .ref (a 62)]) (n := 2) (Nat.le_of_ble_eq_true rfl)
  rw [lg_entry_eq]
  generalize (lg_sl ([.ref (a 53), .ref (a 62)]) ++ List.replicate (2 - (lg_sl ([.ref (a 53), .ref (a 62)])).length) Slot.unset).toArray = ls at hl ⊢
  have hl : lv_has ls 2 [(0, .ref (a 53)), (1, .ref (a 62))] := hl
  unfold m_x8_becomeP at h
  refine lv_aload_n hx hb dX8_become_0 rfl (lv_at hl 0 rfl) ?_
  refine lv_aload_n hx hb dX8_become_1 rfl (lv_at hl 1 rfl) ?_
  refine va_get (D := D) (ci := 8) (v := .int (i2 (gI s 1240))) (C := RX8) (T := TX8) (N := 11) hx hb ht inX8 hown hK hP 62 CW_62 rfl 0 (by decide) (ht (.fieldLink RX8 40 "CloneVolumes$State" "blocks" "I") fl_X8_40) (fun _ h9 => h9) rfl dX8_become_2 ?_
  refine ya_put (D := D) (ci := 8) (v := .int (i2 (gI s 1240))) (ty := .int) (C := RX8) (T := TX8) (N := 11) hx hb ht inX8 tyX8 tyX8_ok nmX8 hown hK hP (hDD _) hS 53 CW_53 rfl 0 (by decide) (ht (.fieldLink RX8 40 "CloneVolumes$State" "blocks" "I") fl_X8_40) (fun _ h9 => h9) rfl (by decide +kernel) rfl rfl (Nat.le_of_ble_eq_true rfl) dX8_become_5 (CW_w53_0 (gI s 1240)) (fun H locs hP hS => ?_)
  obtain ⟨s1, hs1, h⟩ := st_e h
  rw [hs1] at hP
  refine lv_aload_n hx hb dX8_become_8 rfl (lv_at hl 0 rfl) ?_
  refine lv_aload_n hx hb dX8_become_9 rfl (lv_at hl 1 rfl) ?_
  refine va_get (D := D) (ci := 8) (v := .int (i2 (gI s1 1241))) (C := RX8) (T := TX8) (N := 11) hx hb ht inX8 hown hK hP 62 CW_62 rfl 1 (by decide) (ht (.fieldLink RX8 44 "CloneVolumes$State" "spent" "I") fl_X8_44) (fun _ h9 => h9) rfl dX8_become_10 ?_
  refine ya_put (D := D) (ci := 8) (v := .int (i2 (gI s1 1241))) (ty := .int) (C := RX8) (T := TX8) (N := 11) hx hb ht inX8 tyX8 tyX8_ok nmX8 hown hK hP (hDD _) hS 53 CW_53 rfl 1 (by decide) (ht (.fieldLink RX8 44 "CloneVolumes$State" "spent" "I") fl_X8_44) (fun _ h9 => h9) rfl (by decide +kernel) rfl rfl (Nat.le_of_ble_eq_true rfl) dX8_become_13 (CW_w53_1 (gI s1 1241)) (fun H locs hP hS => ?_)
  obtain ⟨s2, hs2, h⟩ := st_e h
  rw [hs2] at hP
  refine lv_aload_n hx hb dX8_become_16 rfl (lv_at hl 0 rfl) ?_
  refine lv_aload_n hx hb dX8_become_17 rfl (lv_at hl 1 rfl) ?_
  refine va_get (D := D) (ci := 8) (v := .long (i8 (gL s2 1242))) (C := RX8) (T := TX8) (N := 11) hx hb ht inX8 hown hK hP 62 CW_62 rfl 2 (by decide) (ht (.fieldLink RX8 47 "CloneVolumes$State" "written" "J") fl_X8_47) (fun _ h9 => h9) rfl dX8_become_18 ?_
  refine ya_put (D := D) (ci := 8) (v := .long (i8 (gL s2 1242))) (ty := .long) (C := RX8) (T := TX8) (N := 11) hx hb ht inX8 tyX8 tyX8_ok nmX8 hown hK hP (hDD _) hS 53 CW_53 rfl 2 (by decide) (ht (.fieldLink RX8 47 "CloneVolumes$State" "written" "J") fl_X8_47) (fun _ h9 => h9) rfl (by decide +kernel) rfl rfl (Nat.le_of_ble_eq_true rfl) dX8_become_21 (CW_w53_2 (gL s2 1242)) (fun H locs hP hS => ?_)
  obtain ⟨s3, hs3, h⟩ := st_e h
  rw [hs3] at hP
  refine lv_aload_n hx hb dX8_become_24 rfl (lv_at hl 1 rfl) ?_
  refine va_get (D := D) (ci := 8) (v := .ref (a 63)) (C := RX8) (T := TX8) (N := 11) hx hb ht inX8 hown hK hP 62 CW_62 rfl 3 (by decide) (ht (.fieldLink RX8 9 "CloneVolumes$State" "count" "[I") fl_X8_9) (fun _ h9 => h9) rfl dX8_become_25 ?_
  refine lv_iconst (v := 0) hx hb dX8_become_28 (by decide) ?_
  refine lv_aload_n hx hb dX8_become_29 rfl (lv_at hl 0 rfl) ?_
  refine va_get (D := D) (ci := 8) (v := .ref (a 54)) (C := RX8) (T := TX8) (N := 11) hx hb ht inX8 hown hK hP 53 CW_53 rfl 3 (by decide) (ht (.fieldLink RX8 9 "CloneVolumes$State" "count" "[I") fl_X8_9) (fun _ h9 => h9) rfl dX8_become_30 ?_
  refine lv_iconst (v := 0) hx hb dX8_become_33 (by decide) ?_
  refine lv_bipush (v := 48) hx hb dX8_become_34 (by decide) ?_
  obtain ⟨hc4, h⟩ := cpg_e h
  refine ya_copyi (sp := 0) (dp := 0) (n := 48) hx hb (by rw [hml]; exact hl.1.symm) hown (ht _ ml_X8_51) (ht _ na_cpy) (ht _ st_cpy) (ht _ in_sys) hK hP (hDD _) hS 63 54 CW_63 CW_54 (by decide) (by decide) hc4 (Nat.le_of_ble_eq_true rfl) (Nat.le_of_ble_eq_true rfl) dX8_become_36 (CW_w54 _) (fun H locs hP hS => ?_)
  obtain ⟨s5, hs5, h⟩ := st_e h
  rw [hs5] at hP
  refine lv_aload_n hx hb dX8_become_39 rfl (lv_at hl 1 rfl) ?_
  refine va_get (D := D) (ci := 8) (v := .ref (a 64)) (C := RX8) (T := TX8) (N := 11) hx hb ht inX8 hown hK hP 62 CW_62 rfl 4 (by decide) (ht (.fieldLink RX8 15 "CloneVolumes$State" "saved" "[I") fl_X8_15) (fun _ h9 => h9) rfl dX8_become_40 ?_
  refine lv_iconst (v := 0) hx hb dX8_become_43 (by decide) ?_
  refine lv_aload_n hx hb dX8_become_44 rfl (lv_at hl 0 rfl) ?_
  refine va_get (D := D) (ci := 8) (v := .ref (a 55)) (C := RX8) (T := TX8) (N := 11) hx hb ht inX8 hown hK hP 53 CW_53 rfl 4 (by decide) (ht (.fieldLink RX8 15 "CloneVolumes$State" "saved" "[I") fl_X8_15) (fun _ h9 => h9) rfl dX8_become_45 ?_
  refine lv_iconst (v := 0) hx hb dX8_become_48 (by decide) ?_
  refine lv_bipush (v := 48) hx hb dX8_become_49 (by decide) ?_
  obtain ⟨hc6, h⟩ := cpg_e h
  refine ya_copyi (sp := 0) (dp := 0) (n := 48) hx hb (by rw [hml]; exact hl.1.symm) hown (ht _ ml_X8_51) (ht _ na_cpy) (ht _ st_cpy) (ht _ in_sys) hK hP (hDD _) hS 64 55 CW_64 CW_55 (by decide) (by decide) hc6 (Nat.le_of_ble_eq_true rfl) (Nat.le_of_ble_eq_true rfl) dX8_become_51 (CW_w55 _) (fun H locs hP hS => ?_)
  obtain ⟨s7, hs7, h⟩ := st_e h
  rw [hs7] at hP
  refine lv_aload_n hx hb dX8_become_54 rfl (lv_at hl 1 rfl) ?_
  refine va_get (D := D) (ci := 8) (v := .ref (a 65)) (C := RX8) (T := TX8) (N := 11) hx hb ht inX8 hown hK hP 62 CW_62 rfl 5 (by decide) (ht (.fieldLink RX8 18 "CloneVolumes$State" "level" "[I") fl_X8_18) (fun _ h9 => h9) rfl dX8_become_55 ?_
  refine lv_iconst (v := 0) hx hb dX8_become_58 (by decide) ?_
  refine lv_aload_n hx hb dX8_become_59 rfl (lv_at hl 0 rfl) ?_
  refine va_get (D := D) (ci := 8) (v := .ref (a 56)) (C := RX8) (T := TX8) (N := 11) hx hb ht inX8 hown hK hP 53 CW_53 rfl 5 (by decide) (ht (.fieldLink RX8 18 "CloneVolumes$State" "level" "[I") fl_X8_18) (fun _ h9 => h9) rfl dX8_become_60 ?_
  refine lv_iconst (v := 0) hx hb dX8_become_63 (by decide) ?_
  refine lv_bipush (v := 48) hx hb dX8_become_64 (by decide) ?_
  obtain ⟨hc8, h⟩ := cpg_e h
  refine ya_copyi (sp := 0) (dp := 0) (n := 48) hx hb (by rw [hml]; exact hl.1.symm) hown (ht _ ml_X8_51) (ht _ na_cpy) (ht _ st_cpy) (ht _ in_sys) hK hP (hDD _) hS 65 56 CW_65 CW_56 (by decide) (by decide) hc8 (Nat.le_of_ble_eq_true rfl) (Nat.le_of_ble_eq_true rfl) dX8_become_66 (CW_w56 _) (fun H locs hP hS => ?_)
  obtain ⟨s9, hs9, h⟩ := st_e h
  rw [hs9] at hP
  refine lv_aload_n hx hb dX8_become_69 rfl (lv_at hl 1 rfl) ?_
  refine va_get (D := D) (ci := 8) (v := .ref (a 66)) (C := RX8) (T := TX8) (N := 11) hx hb ht inX8 hown hK hP 62 CW_62 rfl 6 (by decide) (ht (.fieldLink RX8 21 "CloneVolumes$State" "size" "[I") fl_X8_21) (fun _ h9 => h9) rfl dX8_become_70 ?_
  refine lv_iconst (v := 0) hx hb dX8_become_73 (by decide) ?_
  refine lv_aload_n hx hb dX8_become_74 rfl (lv_at hl 0 rfl) ?_
  refine va_get (D := D) (ci := 8) (v := .ref (a 57)) (C := RX8) (T := TX8) (N := 11) hx hb ht inX8 hown hK hP 53 CW_53 rfl 6 (by decide) (ht (.fieldLink RX8 21 "CloneVolumes$State" "size" "[I") fl_X8_21) (fun _ h9 => h9) rfl dX8_become_75 ?_
  refine lv_iconst (v := 0) hx hb dX8_become_78 (by decide) ?_
  refine lv_bipush (v := 48) hx hb dX8_become_79 (by decide) ?_
  obtain ⟨hc10, h⟩ := cpg_e h
  refine ya_copyi (sp := 0) (dp := 0) (n := 48) hx hb (by rw [hml]; exact hl.1.symm) hown (ht _ ml_X8_51) (ht _ na_cpy) (ht _ st_cpy) (ht _ in_sys) hK hP (hDD _) hS 66 57 CW_66 CW_57 (by decide) (by decide) hc10 (Nat.le_of_ble_eq_true rfl) (Nat.le_of_ble_eq_true rfl) dX8_become_81 (CW_w57 _) (fun H locs hP hS => ?_)
  obtain ⟨s11, hs11, h⟩ := st_e h
  rw [hs11] at hP
  refine lv_aload_n hx hb dX8_become_84 rfl (lv_at hl 1 rfl) ?_
  refine va_get (D := D) (ci := 8) (v := .ref (a 67)) (C := RX8) (T := TX8) (N := 11) hx hb ht inX8 hown hK hP 62 CW_62 rfl 7 (by decide) (ht (.fieldLink RX8 24 "CloneVolumes$State" "keys" "[I") fl_X8_24) (fun _ h9 => h9) rfl dX8_become_85 ?_
  refine lv_iconst (v := 0) hx hb dX8_become_88 (by decide) ?_
  refine lv_aload_n hx hb dX8_become_89 rfl (lv_at hl 0 rfl) ?_
  refine va_get (D := D) (ci := 8) (v := .ref (a 58)) (C := RX8) (T := TX8) (N := 11) hx hb ht inX8 hown hK hP 53 CW_53 rfl 7 (by decide) (ht (.fieldLink RX8 24 "CloneVolumes$State" "keys" "[I") fl_X8_24) (fun _ h9 => h9) rfl dX8_become_90 ?_
  refine lv_iconst (v := 0) hx hb dX8_become_93 (by decide) ?_
  refine lv_sipush (v := 288) hx hb dX8_become_94 (by decide) ?_
  obtain ⟨hc12, h⟩ := cpg_e h
  refine ya_copyi (sp := 0) (dp := 0) (n := 288) hx hb (by rw [hml]; exact hl.1.symm) hown (ht _ ml_X8_51) (ht _ na_cpy) (ht _ st_cpy) (ht _ in_sys) hK hP (hDD _) hS 67 58 CW_67 CW_58 (by decide) (by decide) hc12 (Nat.le_of_ble_eq_true rfl) (Nat.le_of_ble_eq_true rfl) dX8_become_97 (CW_w58 _) (fun H locs hP hS => ?_)
  obtain ⟨s13, hs13, h⟩ := st_e h
  rw [hs13] at hP
  refine lv_aload_n hx hb dX8_become_100 rfl (lv_at hl 1 rfl) ?_
  refine va_get (D := D) (ci := 8) (v := .ref (a 68)) (C := RX8) (T := TX8) (N := 11) hx hb ht inX8 hown hK hP 62 CW_62 rfl 8 (by decide) (ht (.fieldLink RX8 27 "CloneVolumes$State" "values" "[I") fl_X8_27) (fun _ h9 => h9) rfl dX8_become_101 ?_
  refine lv_iconst (v := 0) hx hb dX8_become_104 (by decide) ?_
  refine lv_aload_n hx hb dX8_become_105 rfl (lv_at hl 0 rfl) ?_
  refine va_get (D := D) (ci := 8) (v := .ref (a 59)) (C := RX8) (T := TX8) (N := 11) hx hb ht inX8 hown hK hP 53 CW_53 rfl 8 (by decide) (ht (.fieldLink RX8 27 "CloneVolumes$State" "values" "[I") fl_X8_27) (fun _ h9 => h9) rfl dX8_become_106 ?_
  refine lv_iconst (v := 0) hx hb dX8_become_109 (by decide) ?_
  refine lv_sipush (v := 288) hx hb dX8_become_110 (by decide) ?_
  obtain ⟨hc14, h⟩ := cpg_e h
  refine ya_copyi (sp := 0) (dp := 0) (n := 288) hx hb (by rw [hml]; exact hl.1.symm) hown (ht _ ml_X8_51) (ht _ na_cpy) (ht _ st_cpy) (ht _ in_sys) hK hP (hDD _) hS 68 59 CW_68 CW_59 (by decide) (by decide) hc14 (Nat.le_of_ble_eq_true rfl) (Nat.le_of_ble_eq_true rfl) dX8_become_113 (CW_w59 _) (fun H locs hP hS => ?_)
  obtain ⟨s15, hs15, h⟩ := st_e h
  rw [hs15] at hP
  refine lv_aload_n hx hb dX8_become_116 rfl (lv_at hl 1 rfl) ?_
  refine va_get (D := D) (ci := 8) (v := .ref (a 69)) (C := RX8) (T := TX8) (N := 11) hx hb ht inX8 hown hK hP 62 CW_62 rfl 9 (by decide) (ht (.fieldLink RX8 30 "CloneVolumes$State" "roots" "[I") fl_X8_30) (fun _ h9 => h9) rfl dX8_become_117 ?_
  refine lv_iconst (v := 0) hx hb dX8_become_120 (by decide) ?_
  refine lv_aload_n hx hb dX8_become_121 rfl (lv_at hl 0 rfl) ?_
  refine va_get (D := D) (ci := 8) (v := .ref (a 60)) (C := RX8) (T := TX8) (N := 11) hx hb ht inX8 hown hK hP 53 CW_53 rfl 9 (by decide) (ht (.fieldLink RX8 30 "CloneVolumes$State" "roots" "[I") fl_X8_30) (fun _ h9 => h9) rfl dX8_become_122 ?_
  refine lv_iconst (v := 0) hx hb dX8_become_125 (by decide) ?_
  refine lv_bipush (v := 8) hx hb dX8_become_126 (by decide) ?_
  obtain ⟨hc16, h⟩ := cpg_e h
  refine ya_copyi (sp := 0) (dp := 0) (n := 8) hx hb (by rw [hml]; exact hl.1.symm) hown (ht _ ml_X8_51) (ht _ na_cpy) (ht _ st_cpy) (ht _ in_sys) hK hP (hDD _) hS 69 60 CW_69 CW_60 (by decide) (by decide) hc16 (Nat.le_of_ble_eq_true rfl) (Nat.le_of_ble_eq_true rfl) dX8_become_128 (CW_w60 _) (fun H locs hP hS => ?_)
  obtain ⟨s17, hs17, h⟩ := st_e h
  rw [hs17] at hP
  refine lv_aload_n hx hb dX8_become_131 rfl (lv_at hl 1 rfl) ?_
  refine va_get (D := D) (ci := 8) (v := .ref (a 70)) (C := RX8) (T := TX8) (N := 11) hx hb ht inX8 hown hK hP 62 CW_62 rfl 10 (by decide) (ht (.fieldLink RX8 33 "CloneVolumes$State" "savedRoots" "[I") fl_X8_33) (fun _ h9 => h9) rfl dX8_become_132 ?_
  refine lv_iconst (v := 0) hx hb dX8_become_135 (by decide) ?_
  refine lv_aload_n hx hb dX8_become_136 rfl (lv_at hl 0 rfl) ?_
  refine va_get (D := D) (ci := 8) (v := .ref (a 61)) (C := RX8) (T := TX8) (N := 11) hx hb ht inX8 hown hK hP 53 CW_53 rfl 10 (by decide) (ht (.fieldLink RX8 33 "CloneVolumes$State" "savedRoots" "[I") fl_X8_33) (fun _ h9 => h9) rfl dX8_become_137 ?_
  refine lv_iconst (v := 0) hx hb dX8_become_140 (by decide) ?_
  refine lv_bipush (v := 8) hx hb dX8_become_141 (by decide) ?_
  obtain ⟨hc18, h⟩ := cpg_e h
  refine ya_copyi (sp := 0) (dp := 0) (n := 8) hx hb (by rw [hml]; exact hl.1.symm) hown (ht _ ml_X8_51) (ht _ na_cpy) (ht _ st_cpy) (ht _ in_sys) hK hP (hDD _) hS 70 61 CW_70 CW_61 (by decide) (by decide) hc18 (Nat.le_of_ble_eq_true rfl) (Nat.le_of_ble_eq_true rfl) dX8_become_143 (CW_w61 _) (fun H locs hP hS => ?_)
  obtain ⟨s19, hs19, h⟩ := st_e h
  rw [hs19] at hP
  obtain rfl := Option.some.inj h
  exact W.vret hx hb hr (fun t ht hW => ⟨⟨(), rfl, trivial, by rw [ht]; exact hP, va_K.moved hW.alike hK, hDD _⟩, hS.F ht⟩) hS.2.2 dX8_become_146
theorem range_map {α : Type} {r : List α} : (List.range r.length).map (fun i => r[i]?) = r.map some := by
  apply List.ext_getElem
  · simp
  · intro i h1 h2
    simp at h1 ⊢
set_option maxHeartbeats 4000000 in
set_option maxRecDepth 100000 in
theorem k_forgetN (l : Launch) (D : va_G) (a : Nat → Nat) (s : MS) (T : va_W) (h : gI s 145 = 0 ∨ gI s 143 = 0) : Met l yX2_forget (wz yX2_forget cX2_forget 1 (some (.object "CloneVolumes$State"))) { frames := 0, cells := 0, slots := 0, locals := 0 } (va_Pc [.ref (a 7)] (zP D (CS D a s ++ T))) zQn 0 0 (fun _ => False) := by
  refine Met.ofW (cc := cX2_forget) (maxL := 1) (ret := (some (.object "CloneVolumes$State"))) (by decide) rfl ?_
  intro p e s₀ m args below meth c s₁ B hml hv
  obtain ⟨rfl, hP, hK⟩ := hv
  have hx := B.exec
  have hb := B.bytes
  have hr := B.returns
  have hat := atoms_spec (ws := wz yX2_forget cX2_forget 1 (some (.object "CloneVolumes$State"))) B.pre
  have ht : ∀ w ∈ lw_gd, w.before _ s₀ = true := fun w h => hat w (List.mem_cons_of_mem _ h)
  have hown : s₀.vm.findClass RX2 = some m.cls := findClass_of_methodNamed B.named
  have hlocks := B.notSynchronized
  have hS : va_S (fun _ => False) s₀.heap s₀.heap [] := va_S.rf
  have hl := lv_entry ([.ref (a 7)]) (n := 1) (Nat.le_of_ble_eq_true rfl)
  rw [lg_entry_eq]
  generalize (lg_sl ([.ref (a 7)]) ++ List.replicate (1 - (lg_sl ([.ref (a 7)])).length) Slot.unset).toArray = ls at hl ⊢
  have hl : lv_has ls 1 [(0, .ref (a 7))] := hl
  refine y_head (pcJ := 14) (σ := Unit) (fun _ H locs ls => va_S (fun _ => False) s₀.heap H locs) (fun _ => []) (fun _ H locs ls hS => ?_) (fun J14 => ?_)
  · refine lv_null hx hb dX2_forget_14 ?_
    exact W.aret (v := .null) hx hb hr (Or.inl ⟨_, rfl⟩) (Or.inl rfl) (fun t ht hW => ⟨rfl, hS.F ht⟩) hS.2.2 dX2_forget_15
  refine lv_aload_n hx hb dX2_forget_0 rfl (lv_at hl 0 rfl) ?_
  refine va_get (D := D) (ci := 2) (v := .int (i2 (gI s 145))) (C := RX2) (T := TX2) (N := 6) hx hb ht inX2 hown hK hP 7 (ap_g CW_7) rfl 5 (by decide) (ht (.fieldLink RX2 31 "CloneVolumes$History" "depth" "I") fl_X2_31) (fun _ h9 => h9) rfl dX2_forget_1 ?_
  refine lv_if_eq (tgt := 14) hx hb dX2_forget_4 (by decide) (fun c1 => J14 () _ _ _ hS) (fun c1 => ?_)
  refine lv_aload_n hx hb dX2_forget_7 rfl (lv_at hl 0 rfl) ?_
  refine va_get (D := D) (ci := 2) (v := .int (i2 (gI s 143))) (C := RX2) (T := TX2) (N := 6) hx hb ht inX2 hown hK hP 7 (ap_g CW_7) rfl 3 (by decide) (ht (.fieldLink RX2 27 "CloneVolumes$History" "rows" "I") fl_X2_27) (fun _ h9 => h9) rfl dX2_forget_8 ?_
  refine lv_if_ne (tgt := 16) hx hb dX2_forget_11 (by decide) (fun c2 => ?_) (fun c2 => J14 () _ _ _ hS)
  exact (h.elim (fun q => c1 (by rw [q]; rfl)) (fun q => c2 (by rw [q]; rfl))).elim
set_option maxHeartbeats 4000000 in
set_option maxRecDepth 100000 in
theorem k_forgetR (l : Launch) (D : va_G) (a : Nat → Nat) (sz : Nat) (s s2 : MS) (ps : List ((Nat → Nat) × MS)) (x : Nat) (r1 : R2 (gI s 145)) (r2 : R2 (gI s 143)) (h1 : ¬ gI s 145 = 0) (h2 : ¬ gI s 143 = 0) (hs2 : sI (sI s 145 (gI s 145 - 1)) 143 (gI s 143 - 1) = s2) (hi : 0 ≤ gI s2 145 ∧ gI s2 145 < 20) (hv : pf ps (gI s2 145).toNat = some x) : Met l yX2_forget (wz yX2_forget cX2_forget 1 (some (.object "CloneVolumes$State"))) { frames := 0, cells := 0, slots := 0, locals := 0 } (va_Pc [.ref (a 7)] (yW D sz (XW D a s ps))) (va_Qr (fun (_ : Unit) => True) (fun _ r t => r = x ∧ zB D (va_A (XW D a s ps) sz) (XW D a s2 ps) t) (va_A (XW D a s ps) sz)) 0 0 (va_A (XW D a s ps) sz) := by
  refine Met.ofW (cc := cX2_forget) (maxL := 1) (ret := (some (.object "CloneVolumes$State"))) (by decide) rfl ?_
  intro p e s₀ m args below meth c s₁ B hml hv
  obtain ⟨rfl, ⟨hsz, hP, hK, hD0⟩, hN⟩ := hv
  have hx := B.exec
  have hb := B.bytes
  have hr := B.returns
  have hts := atoms_spec (ws := wz yX2_forget cX2_forget 1 (some (.object "CloneVolumes$State"))) B.pre
  have ht : ∀ w ∈ lw_gd, w.before _ s₀ = true := fun w h => hts w (List.mem_cons_of_mem _ h)
  have hown : s₀.vm.findClass RX2 = some m.cls := findClass_of_methodNamed B.named
  have hlocks := B.notSynchronized
  subst hsz
  have hD := hD0.self (sz := s₀.heap.size)
  generalize hAe : va_A (XW D a s ps) s₀.heap.size = A at hD ⊢
  have hA : ∀ q : Nat, s₀.heap.size ≤ q → A q := fun q h => by rw [← hAe]; exact Or.inr h
  have hS : va_S A s₀.heap s₀.heap [] := va_S.rf
  have hl := lv_entry ([.ref (a 7)]) (n := 1) (Nat.le_of_ble_eq_true rfl)
  rw [lg_entry_eq]
  generalize (lg_sl ([.ref (a 7)]) ++ List.replicate (1 - (lg_sl ([.ref (a 7)])).length) Slot.unset).toArray = ls at hl ⊢
  have hDD : ∀ t : MS, va_D A (CS D a t ++ PT D (a 90) ps) := fun t => va_D_same hD rfl
  have hl : lv_has ls 1 [(0, .ref (a 7))] := hl
  refine lv_aload_n hx hb dX2_forget_0 rfl (lv_at hl 0 rfl) ?_
  refine va_get (D := D) (ci := 2) (v := .int (i2 (gI s 145))) (C := RX2) (T := TX2) (N := 6) hx hb ht inX2 hown hK hP 7 (ap_g CW_7) rfl 5 (by decide) (ht (.fieldLink RX2 31 "CloneVolumes$History" "depth" "I") fl_X2_31) (fun _ h9 => h9) rfl dX2_forget_1 ?_
  refine lv_if_eq (tgt := 14) hx hb dX2_forget_4 (by decide) (fun c1 => absurd ((i2_eq (y := 0) r1 (by decide)).mp c1) h1) (fun c1 => ?_)
  refine lv_aload_n hx hb dX2_forget_7 rfl (lv_at hl 0 rfl) ?_
  refine va_get (D := D) (ci := 2) (v := .int (i2 (gI s 143))) (C := RX2) (T := TX2) (N := 6) hx hb ht inX2 hown hK hP 7 (ap_g CW_7) rfl 3 (by decide) (ht (.fieldLink RX2 27 "CloneVolumes$History" "rows" "I") fl_X2_27) (fun _ h9 => h9) rfl dX2_forget_8 ?_
  refine lv_if_ne (tgt := 16) hx hb dX2_forget_11 (by decide) (fun c2 => ?_) (fun c2 => absurd ((i2_eq (y := 0) r2 (by decide)).mp c2) h2)
  refine lv_aload_n hx hb dX2_forget_16 rfl (lv_at hl 0 rfl) ?_
  refine lv_dup hx hb dX2_forget_17 rfl ?_
  refine va_get (D := D) (ci := 2) (v := .int (i2 (gI s 145))) (C := RX2) (T := TX2) (N := 6) hx hb ht inX2 hown hK hP 7 (ap_g CW_7) rfl 5 (by decide) (ht (.fieldLink RX2 31 "CloneVolumes$History" "depth" "I") fl_X2_31) (fun _ h9 => h9) rfl dX2_forget_18 ?_
  refine lv_iconst (v := 1) hx hb dX2_forget_21 (by decide) ?_
  refine lv_isub hx hb dX2_forget_22 ?_
  refine z_topi (y := i2 (gI s 145 - 1)) (i2_sub (gI s 145) 1) ?_
  refine ya_put (D := D) (ci := 2) (v := .int (i2 (gI s 145 - 1))) (ty := .int) (C := RX2) (T := TX2) (N := 6) hx hb ht inX2 tyX2 tyX2_ok nmX2 hown hK hP (hDD _) hS 7 (ap_g CW_7) rfl 5 (by decide) (ht (.fieldLink RX2 31 "CloneVolumes$History" "depth" "I") fl_X2_31) (fun _ h9 => h9) rfl (by decide +kernel) rfl rfl (Nat.le_of_ble_eq_true rfl) dX2_forget_23 (ap_s CW_7 (CW_w7_5 (gI s 145 - 1))) (fun H locs hP hS => ?_)
  refine lv_aload_n hx hb dX2_forget_26 rfl (lv_at hl 0 rfl) ?_
  refine lv_dup hx hb dX2_forget_27 rfl ?_
  refine va_get (D := D) (ci := 2) (v := .int (i2 (gI s 143))) (C := RX2) (T := TX2) (N := 6) hx hb ht inX2 hown hK hP 7 (ap_g CW_7) rfl 3 (by decide) (ht (.fieldLink RX2 27 "CloneVolumes$History" "rows" "I") fl_X2_27) (fun _ h9 => h9) rfl dX2_forget_28 ?_
  refine lv_iconst (v := 1) hx hb dX2_forget_31 (by decide) ?_
  refine lv_isub hx hb dX2_forget_32 ?_
  refine z_topi (y := i2 (gI s 143 - 1)) (i2_sub (gI s 143) 1) ?_
  refine ya_put (D := D) (ci := 2) (v := .int (i2 (gI s 143 - 1))) (ty := .int) (C := RX2) (T := TX2) (N := 6) hx hb ht inX2 tyX2 tyX2_ok nmX2 hown hK hP (hDD _) hS 7 (ap_g CW_7) rfl 3 (by decide) (ht (.fieldLink RX2 27 "CloneVolumes$History" "rows" "I") fl_X2_27) (fun _ h9 => h9) rfl (by decide +kernel) rfl rfl (Nat.le_of_ble_eq_true rfl) dX2_forget_33 (ap_s CW_7 (CW_w7_3 (gI s 143 - 1))) (fun H locs hP hS => ?_)
  rw [hs2] at hP
  refine lv_aload_n hx hb dX2_forget_36 rfl (lv_at hl 0 rfl) ?_
  refine va_get (D := D) (ci := 2) (v := .ref (a 90)) (C := RX2) (T := TX2) (N := 6) hx hb ht inX2 hown hK hP 7 (ap_g CW_7) rfl 4 (by decide) (ht (.fieldLink RX2 23 "CloneVolumes$History" "past" "[LCloneVolumes$State;") fl_X2_23) (fun _ h9 => h9) rfl dX2_forget_37 ?_
  refine lv_aload_n hx hb dX2_forget_40 rfl (lv_at hl 0 rfl) ?_
  refine va_get (D := D) (ci := 2) (v := .int (i2 (gI s2 145))) (C := RX2) (T := TX2) (N := 6) hx hb ht inX2 hown hK hP 7 (ap_g CW_7) rfl 5 (by decide) (ht (.fieldLink RX2 31 "CloneVolumes$History" "depth" "I") fl_X2_31) (fun _ h9 => h9) rfl dX2_forget_41 ?_
  refine ya_ald hx hb hK hP 82 XW_82 hv hi (by decide) dX2_forget_44 ?_
  exact W.aret (v := .ref x) hx hb hr (Or.inl ⟨_, rfl⟩) (Or.inr ⟨_, rfl⟩) (fun t ht hW => ⟨⟨(), x, rfl, trivial, rfl, by rw [ht]; exact hP, va_K.moved hW.alike hK, hDD _⟩, hS.F ht⟩) hS.2.2 dX2_forget_45
theorem setP_back (a b : Nat → Nat) : setP (setP a b) a = a := by
  funext k
  unfold setP
  by_cases h : 62 ≤ k ∧ k ≤ 70
  · rw [if_pos h]
  · rw [if_neg h, if_neg h]
set_option maxHeartbeats 4000000 in
set_option maxRecDepth 100000 in
theorem k_x11_undo (l : Launch) (D : va_G) (a : Nat → Nat) (sz : Nat) (s : MS) (ps : List ((Nat → Nat) × MS)) (ts : List MS) (hts : ps.map Prod.snd = ts) (o : Int × MS × List MS) (h : m_x11_undo ts s = some o) : yU l yX11_undo cX11_undo 2 (some .boolean) { frames := 2, cells := 9, slots := 795, locals := 120 } D sz [.ref (a 0)] a s ps (i2 o.1) o.2.1 o.2.2 := by
  refine Met.ofW (cc := cX11_undo) (maxL := 2) (ret := (some .boolean)) (by decide) rfl ?_
  intro p e s₀ m args below meth c s₁ B hml hv
  obtain ⟨rfl, ⟨hsz, hP, hK, hD0⟩, hN⟩ := hv
  have hx := B.exec
  have hb := B.bytes
  have hr := B.returns
  have hat := atoms_spec (ws := wz yX11_undo cX11_undo 2 (some .boolean)) B.pre
  have ht : ∀ w ∈ lw_gd, w.before _ s₀ = true := fun w h => hat w (List.mem_cons_of_mem _ h)
  have hown : s₀.vm.findClass RX11 = some m.cls := findClass_of_methodNamed B.named
  have hlocks := B.notSynchronized
  subst hsz
  have hD := hD0.self (sz := s₀.heap.size)
  generalize hAe : va_A (XW D a s ps) s₀.heap.size = A at hD ⊢
  have hA : ∀ q : Nat, s₀.heap.size ≤ q → A q := fun q h => by rw [← hAe]; exact Or.inr h
  have hS : va_S A s₀.heap s₀.heap [] := va_S.rf
  have hl := lv_entry ([.ref (a 0)]) (n := 2) (Nat.le_of_ble_eq_true rfl)
  rw [lg_entry_eq]
  generalize (lg_sl ([.ref (a 0)]) ++ List.replicate (2 - (lg_sl ([.ref (a 0)])).length) Slot.unset).toArray = ls at hl ⊢
  have hDD : ∀ t : MS, va_D A (CS D a t ++ PT D (a 90) ps) := fun t => va_D_same hD rfl
  have hl : lv_has ls 2 [(0, .ref (a 0))] := hl
  have hu : ∀ k, (k < 62 ∨ 70 < k) → a k = a k := fun _ _ => rfl
  unfold m_x11_undo at h
  obtain ⟨hr1, h⟩ := rg_e h
  obtain ⟨hr2, h⟩ := rg_e h
  refine lv_aload_n hx hb dX11_undo_0 rfl (lv_at hl 0 rfl) ?_
  refine va_get (D := D) (ci := 11) (v := .ref (a 7)) (C := RX11) (T := TX11) (N := 13) hx hb ht inX11 hown hK hP 0 (ap_g CW_0) rfl 2 (by decide) (ht (.fieldLink RX11 28 "CloneVolumes" "history" "LCloneVolumes$History;") fl_X11_28) (fun _ h9 => h9) rfl dX11_undo_1 ?_
  by_cases hc : gI s 145 = 0 ∨ gI s 143 = 0
  · have h := if_t hc h
    obtain ⟨⟨r1, s1⟩, hc1, h⟩ := bn_e h
    obtain rfl := Option.some.inj h
    refine zcVn (As := []) (rest := []) (C := RX2) (n := 0) ⟨hx, hb, hml, hown, ht⟩ (WS := CS D a s ++ PT D (a 90) ps) (k_forgetN l D a s _ hc) (zgV ml_X11_308 im_X2_forget se_X2_forget in_X2 co_X2_forget) rfl rfl (by decide +kernel) ⟨Nat.le_of_ble_eq_true rfl, Nat.le_of_ble_eq_true rfl⟩ hK hP hS (List.range (CS D a s ++ PT D (a 90) ps).length) (z_fm range_map) 7 (ap_g CW_7) rfl rfl rfl hl.1 rfl (Nat.le_of_ble_eq_true rfl) dX11_undo_4 ⟨Nat.le_of_ble_eq_true rfl, Nat.le_of_ble_eq_true rfl⟩ (fun H locs hP hS => ?_)
    refine lv_astore_nN (lv' := [(1, .null), (0, .ref (a 0))]) hx hb dX11_undo_7 rfl hl (by decide) rfl (fun ls hl => ?_)
    refine lv_aload_nN hx hb dX11_undo_8 rfl (lv_at hl 0 rfl) ?_
    refine lv_ifnonnullN hx hb dX11_undo_9 ?_
    refine lv_aload_n hx hb dX11_undo_12 rfl (lv_at hl 1 rfl) ?_
    refine lv_iconst (v := 4) hx hb dX11_undo_13 (by decide) ?_
    refine ywV (r0 := i2 r1) (As := [.int 4]) (rest := []) (C := RX11) (n := 1) (ws' := CS D a s1 ++ PT D (a 90) ps) ⟨hx, hb, hml, hown, ht⟩ (yWi_f _ (k_x11_refuse l D a 4 _ _ _ hc1)) (zgV ml_X11_87 im_X11_refuse se_X11_refuse in_X11 co_X11_refuse) rfl rfl (by decide +kernel) ⟨Nat.le_of_ble_eq_true rfl, Nat.le_of_ble_eq_true rfl⟩ hN hK hP (hDD _) hS hA 0 (ap_g CW_0) rfl rfl rfl hl.1 rfl (Nat.le_of_ble_eq_true rfl) dX11_undo_14 ⟨Nat.le_of_ble_eq_true rfl, Nat.le_of_ble_eq_true rfl⟩ (fun H locs hP hS => ?_)
    refine lv_pop hx hb dX11_undo_17 rfl ?_
    refine lv_iconst (v := 0) hx hb dX11_undo_18 (by decide) ?_
    refine W.widen (k := 9) (n := 795) (Nat.le_of_ble_eq_true rfl) (Nat.le_of_ble_eq_true rfl) ?_
    exact W.zret (v := 0) hx hb hr (by decide) (fun t ht hW => ⟨⟨_, (a, ps), rfl, ⟨rfl, hu, hts⟩, by rw [ht]; exact hP, va_K.moved hW.alike hK, hDD _⟩, hS.F ht⟩) hS.2.2 dX11_undo_19
  · have h := if_f hc h
    obtain ⟨s2, hs2, h⟩ := st_e h
    obtain ⟨hi, h⟩ := inb_e h
    have hlen : ts.length = ps.length := by rw [← hts]; exact List.length_map _
    by_cases hc2 : (gI s2 145).toNat < ts.length
    case neg => have h := if_f hc2 h; cases h
    have h := if_t hc2 h
    obtain ⟨s3, hc3, h⟩ := bn_e h
    obtain rfl := Option.some.inj h
    generalize hgi : (gI s2 145).toNat = i at hc2 hc3 ⊢
    rw [hlen] at hc2
    obtain ⟨q, hq⟩ : ∃ q, ps[i]? = some q := ⟨ps[i], List.getElem?_eq_getElem hc2⟩
    have hq2 : ts.getD i s2 = q.2 := by rw [← hts, List.getD_eq_getElem?_getD, List.getElem?_map, hq]; rfl
    rw [hq2] at hc3
    refine ywR (As := []) (rest := []) (C := RX2) (n := 0) (ra := fun _ => q.1 62) ⟨hx, hb, hml, hown, ht⟩ (k_forgetR l D a _ s s2 ps (q.1 62) hr1 hr2 (fun e => hc (Or.inl e)) (fun e => hc (Or.inr e)) hs2 hi (by rw [hgi]; exact pf_some hq)) (zgV ml_X11_308 im_X2_forget se_X2_forget in_X2 co_X2_forget) rfl rfl (by decide +kernel) ⟨Nat.le_of_ble_eq_true rfl, Nat.le_of_ble_eq_true rfl⟩ hN hK hP (hDD _) hS hA 7 (ap_g CW_7) rfl rfl rfl hl.1 rfl (Nat.le_of_ble_eq_true rfl) dX11_undo_4 ⟨Nat.le_of_ble_eq_true rfl, Nat.le_of_ble_eq_true rfl⟩ (fun u H locs hw hP hD hS => ?_)
    refine lv_astore_n (lv' := [(1, .ref (q.1 62)), (0, .ref (a 0))]) hx hb dX11_undo_7 rfl hl (by decide) rfl (fun ls hl => ?_)
    refine lv_aload_n hx hb dX11_undo_8 rfl (lv_at hl 0 rfl) ?_
    refine lv_ifnonnull (tgt := 20) hx hb dX11_undo_9 (by decide) ?_
    refine lv_aload_n hx hb dX11_undo_20 rfl (lv_at hl 1 rfl) ?_
    refine va_get (D := D) (ci := 11) (v := .ref (a 49)) (C := RX11) (T := TX11) (N := 13) hx hb ht inX11 hown hK hP 0 (ap_g CW_0) rfl 11 (by decide) (ht (.fieldLink RX11 79 "CloneVolumes" "forest" "LCloneVolumes$Forest;") fl_X11_79) (fun _ h9 => h9) rfl dX11_undo_21 ?_
    refine va_get (D := D) (ci := 1) (v := .ref (a 53)) (C := RX1) (T := TX1) (N := 9) hx hb ht inX1 hown hK hP 49 (ap_g CW_49) rfl 0 (by decide) (ht (.fieldLink RX11 125 "CloneVolumes$Forest" "now" "LCloneVolumes$State;") fl_X11_125) (fun _ h9 => h9) rfl dX11_undo_24 ?_
    refine lv_aload_n hx hb dX11_undo_27 rfl (lv_at hl 0 rfl) ?_
    have hsp : ps = ps.take i ++ q :: ps.drop (i + 1) := by
      obtain ⟨hb1, hb2⟩ := List.getElem?_eq_some_iff.mp hq
      rw [← hb2, List.getElem_cons_drop, List.take_append_drop]
    have hpm := pm_B (D := D) (a := a) (c1 := .ref (a 29)) (c2 := .ref (a 29)) (c3 := .ref (a 39)) (c4 := .ref (a 62)) (s := s2) (q := q) (p1 := ps.take i) (p2 := ps.drop (i + 1)) (X := PC D (a 90) (pf ps))
    rw [← hsp] at hpm
    have hP1 := va_P_mem hP (fun y hy => hpm.mem_iff.mp hy)
    have hD1 := va_D_perm (hDD s2) hpm
    refine ywVv (As := [.ref (q.1 62)]) (rest := []) (C := RX8) (n := 1) (ws' := CW D (setP a q.1) (.ref (a 29)) (.ref (a 29)) (.ref (a 39)) (.ref (a 62)) s3 ++ (PC D (a 90) (pf ps) :: PLs D (ps.take i ++ (a, s2) :: ps.drop (i + 1)))) ⟨hx, hb, hml, hown, ht⟩ (yWv_f _ (k_x8_becomeP l D (setP a q.1) _ _ _ _ _ _ _ hc3)) (zgV ml_X11_312 im_X8_become se_X8_become in_X8 co_X8_become) rfl rfl (by decide +kernel) ⟨Nat.le_of_ble_eq_true rfl, Nat.le_of_ble_eq_true rfl⟩ hN hK hP1 hD1 hS hA 53 (ap_g CW_53) rfl rfl rfl hl.1 rfl (Nat.le_of_ble_eq_true rfl) dX11_undo_28 ⟨Nat.le_of_ble_eq_true rfl, Nat.le_of_ble_eq_true rfl⟩ (fun H locs hP hS => ?_)
    refine lv_iconst (v := 1) hx hb dX11_undo_31 (by decide) ?_
    have hpm2 := pm_B (D := D) (a := setP a q.1) (c1 := .ref (a 29)) (c2 := .ref (a 29)) (c3 := .ref (a 39)) (c4 := .ref (a 62)) (s := s3) (q := (a, s2)) (p1 := ps.take i) (p2 := ps.drop (i + 1)) (X := PC D (a 90) (pf ps))
    have hset : ps.set i (setP a q.1, s3) = ps.take i ++ (setP a q.1, s3) :: ps.drop (i + 1) := List.set_eq_take_append_cons_drop.trans (by rw [if_pos hc2])
    rw [← hset, setP_back] at hpm2
    have hpf : pf ps = pf (ps.set i (setP a q.1, s3)) := by
      rw [← pf_up (q := (setP a q.1, s3)) hc2]
      funext k
      by_cases e : k = i
      · subst e; rw [va_up_self]; show pf ps k = some (q.1 62); exact pf_some hq
      · rw [va_up_ne _ _ e]
    rw [hpf] at hpm2 hP
    have hP9 := va_P_mem hP (fun y hy => hpm2.mem_iff.mp hy)
    have hD9 : va_D A (CS D a (setB s3 s2) ++ PT D (a 90) (ps.set i (setP a q.1, s3))) := va_D_perm (va_D_same hD1 (by rw [hpf]; rfl)) hpm2
    refine W.widen (k := 9) (n := 795) (Nat.le_of_ble_eq_true rfl) (Nat.le_of_ble_eq_true rfl) ?_
    exact W.zret (v := 1) hx hb hr (by decide) (fun t ht hW => ⟨⟨_, (a, ps.set i (setP a q.1, s3)), rfl, ⟨rfl, hu, by rw [← hts, List.map_set]⟩, by rw [ht]; exact hP9, va_K.moved hW.alike hK, hD9⟩, hS.F ht⟩) hS.2.2 dX11_undo_32
