theorem fl_X4_24 : Cond.fieldLink RX4 24 "CloneVolumes$Picture" "size" "I" ∈ lw_gd := zm (List.mem_of_getElem? (i := 402) (by decide +kernel)) rfl
theorem fl_X4_11 : Cond.fieldLink RX4 11 "CloneVolumes$Picture" "bytes" "[I" ∈ lw_gd := zm (List.mem_of_getElem? (i := 400) (by decide +kernel)) rfl
theorem ml_X4_33 : Cond.methodLink RX4 33 yX4_add ∈ lw_gd := zm (List.mem_of_getElem? (i := 1454) (by decide +kernel)) rfl
theorem im_X4_add : Cond.instanceMethod yX4_add ∈ lw_gd := zm (List.mem_of_getElem? (i := 1456) (by decide +kernel)) rfl
theorem se_X4_add : Cond.selects RX4 yX4_add yX4_add ∈ lw_gd := zm (List.mem_of_getElem? (i := 58) (by decide +kernel)) rfl
theorem in_X4 : Cond.initialized RX4 ∈ lw_gd := zm (List.mem_of_getElem? (i := 207) (by decide +kernel)) rfl
theorem co_X4_add : Cond.code yX4_add cX4_add 2 none ∈ lw_gd := zm (List.mem_of_getElem? (i := 1457) (by decide +kernel)) rfl
theorem fl_X4_28 : Cond.fieldLink RX4 28 "CloneVolumes$State" "spent" "I" ∈ lw_gd := zm (List.mem_of_getElem? (i := 559) (by decide +kernel)) rfl
theorem ck_X4_37 : Cond.constant RX4 37 65535 ∈ lw_gd := zm (List.mem_of_getElem? (i := 1458) (by decide +kernel)) rfl
theorem ml_X4_38 : Cond.methodLink RX4 38 yX4_addPair ∈ lw_gd := zm (List.mem_of_getElem? (i := 1459) (by decide +kernel)) rfl
theorem im_X4_addPair : Cond.instanceMethod yX4_addPair ∈ lw_gd := zm (List.mem_of_getElem? (i := 1461) (by decide +kernel)) rfl
theorem se_X4_addPair : Cond.selects RX4 yX4_addPair yX4_addPair ∈ lw_gd := zm (List.mem_of_getElem? (i := 59) (by decide +kernel)) rfl
theorem co_X4_addPair : Cond.code yX4_addPair cX4_addPair 2 none ∈ lw_gd := zm (List.mem_of_getElem? (i := 1462) (by decide +kernel)) rfl
theorem fl_X4_51 : Cond.fieldLink RX4 51 "CloneVolumes$State" "blocks" "I" ∈ lw_gd := zm (List.mem_of_getElem? (i := 554) (by decide +kernel)) rfl
theorem ml_X4_68 : Cond.methodLink RX4 68 yX4_seal ∈ lw_gd := zm (List.mem_of_getElem? (i := 1472) (by decide +kernel)) rfl
theorem st_X4_seal : Cond.static yX4_seal ∈ lw_gd := zm (List.mem_of_getElem? (i := 1473) (by decide +kernel)) rfl
theorem co_X4_seal : Cond.code yX4_seal cX4_seal 4 (some .int) ∈ lw_gd := zm (List.mem_of_getElem? (i := 1474) (by decide +kernel)) rfl
theorem fl_X4_41 : Cond.fieldLink RX4 41 "CloneVolumes$State" "roots" "[I" ∈ lw_gd := zm (List.mem_of_getElem? (i := 594) (by decide +kernel)) rfl
theorem ml_X4_44 : Cond.methodLink RX4 44 yX4_rootByte ∈ lw_gd := zm (List.mem_of_getElem? (i := 1463) (by decide +kernel)) rfl
theorem st_X4_rootByte : Cond.static yX4_rootByte ∈ lw_gd := zm (List.mem_of_getElem? (i := 1464) (by decide +kernel)) rfl
theorem co_X4_rootByte : Cond.code yX4_rootByte cX4_rootByte 1 (some .int) ∈ lw_gd := zm (List.mem_of_getElem? (i := 1465) (by decide +kernel)) rfl
theorem fl_X4_48 : Cond.fieldLink RX4 48 "CloneVolumes$State" "savedRoots" "[I" ∈ lw_gd := zm (List.mem_of_getElem? (i := 599) (by decide +kernel)) rfl
theorem ml_X11_336 : Cond.methodLink RX11 336 yX4_draw ∈ lw_gd := zm (List.mem_of_getElem? (i := 1450) (by decide +kernel)) rfl
theorem im_X4_draw : Cond.instanceMethod yX4_draw ∈ lw_gd := zm (List.mem_of_getElem? (i := 1451) (by decide +kernel)) rfl
theorem se_X4_draw : Cond.selects RX4 yX4_draw yX4_draw ∈ lw_gd := zm (List.mem_of_getElem? (i := 1452) (by decide +kernel)) rfl
theorem co_X4_draw : Cond.code yX4_draw cX4_draw 3 (some .int) ∈ lw_gd := zm (List.mem_of_getElem? (i := 1453) (by decide +kernel)) rfl
theorem dX11_image_0 : decode cX11_image 0 = .ok (.aload_n 0, 1) := by decide +kernel
theorem dX11_image_1 : decode cX11_image 1 = .ok (.getfield 42, 3) := by decide +kernel
theorem dX11_image_4 : decode cX11_image 4 = .ok (.aload_n 0, 1) := by decide +kernel
theorem dX11_image_5 : decode cX11_image 5 = .ok (.getfield 79, 3) := by decide +kernel
theorem dX11_image_8 : decode cX11_image 8 = .ok (.getfield 125, 3) := by decide +kernel
theorem dX11_image_11 : decode cX11_image 11 = .ok (.invokevirtual 336, 3) := by decide +kernel
theorem dX11_image_14 : decode cX11_image 14 = .ok (.ireturn, 1) := by decide +kernel
theorem dX4_add_0 : decode cX4_add 0 = .ok (.aload_n 0, 1) := by decide +kernel
theorem dX4_add_1 : decode cX4_add 1 = .ok (.getfield 24, 3) := by decide +kernel
theorem dX4_add_4 : decode cX4_add 4 = .ok (.aload_n 0, 1) := by decide +kernel
theorem dX4_add_5 : decode cX4_add 5 = .ok (.getfield 11, 3) := by decide +kernel
theorem dX4_add_8 : decode cX4_add 8 = .ok (.arraylength, 1) := by decide +kernel
theorem dX4_add_9 : decode cX4_add 9 = .ok (.if_icmp .ge 27, 3) := by decide +kernel
theorem dX4_add_12 : decode cX4_add 12 = .ok (.aload_n 0, 1) := by decide +kernel
theorem dX4_add_13 : decode cX4_add 13 = .ok (.getfield 11, 3) := by decide +kernel
theorem dX4_add_16 : decode cX4_add 16 = .ok (.aload_n 0, 1) := by decide +kernel
theorem dX4_add_17 : decode cX4_add 17 = .ok (.getfield 24, 3) := by decide +kernel
theorem dX4_add_20 : decode cX4_add 20 = .ok (.iload_n 1, 1) := by decide +kernel
theorem dX4_add_21 : decode cX4_add 21 = .ok (.sipush 255, 3) := by decide +kernel
theorem dX4_add_24 : decode cX4_add 24 = .ok (.iand, 1) := by decide +kernel
theorem dX4_add_25 : decode cX4_add 25 = .ok (.iastore, 1) := by decide +kernel
theorem dX4_add_26 : decode cX4_add 26 = .ok (.aload_n 0, 1) := by decide +kernel
theorem dX4_add_27 : decode cX4_add 27 = .ok (.dup, 1) := by decide +kernel
theorem dX4_add_28 : decode cX4_add 28 = .ok (.getfield 24, 3) := by decide +kernel
theorem dX4_add_31 : decode cX4_add 31 = .ok (.iconst 1, 1) := by decide +kernel
theorem dX4_add_32 : decode cX4_add 32 = .ok (.iadd, 1) := by decide +kernel
theorem dX4_add_33 : decode cX4_add 33 = .ok (.putfield 24, 3) := by decide +kernel
theorem dX4_add_36 : decode cX4_add 36 = .ok (.return_, 1) := by decide +kernel
theorem dX4_addPair_0 : decode cX4_addPair 0 = .ok (.aload_n 0, 1) := by decide +kernel
theorem dX4_addPair_1 : decode cX4_addPair 1 = .ok (.iload_n 1, 1) := by decide +kernel
theorem dX4_addPair_2 : decode cX4_addPair 2 = .ok (.bipush 8, 2) := by decide +kernel
theorem dX4_addPair_4 : decode cX4_addPair 4 = .ok (.iushr, 1) := by decide +kernel
theorem dX4_addPair_5 : decode cX4_addPair 5 = .ok (.invokevirtual 33, 3) := by decide +kernel
theorem dX4_addPair_8 : decode cX4_addPair 8 = .ok (.aload_n 0, 1) := by decide +kernel
theorem dX4_addPair_9 : decode cX4_addPair 9 = .ok (.iload_n 1, 1) := by decide +kernel
theorem dX4_addPair_10 : decode cX4_addPair 10 = .ok (.invokevirtual 33, 3) := by decide +kernel
theorem dX4_addPair_13 : decode cX4_addPair 13 = .ok (.return_, 1) := by decide +kernel
theorem dX4_draw_0 : decode cX4_draw 0 = .ok (.aload_n 0, 1) := by decide +kernel
theorem dX4_draw_1 : decode cX4_draw 1 = .ok (.iconst 0, 1) := by decide +kernel
theorem dX4_draw_2 : decode cX4_draw 2 = .ok (.putfield 24, 3) := by decide +kernel
theorem dX4_draw_5 : decode cX4_draw 5 = .ok (.aload_n 0, 1) := by decide +kernel
theorem dX4_draw_6 : decode cX4_draw 6 = .ok (.aload_n 1, 1) := by decide +kernel
theorem dX4_draw_7 : decode cX4_draw 7 = .ok (.getfield 28, 3) := by decide +kernel
theorem dX4_draw_10 : decode cX4_draw 10 = .ok (.bipush 16, 2) := by decide +kernel
theorem dX4_draw_12 : decode cX4_draw 12 = .ok (.iushr, 1) := by decide +kernel
theorem dX4_draw_13 : decode cX4_draw 13 = .ok (.invokevirtual 33, 3) := by decide +kernel
theorem dX4_draw_16 : decode cX4_draw 16 = .ok (.aload_n 0, 1) := by decide +kernel
theorem dX4_draw_17 : decode cX4_draw 17 = .ok (.aload_n 1, 1) := by decide +kernel
theorem dX4_draw_18 : decode cX4_draw 18 = .ok (.getfield 28, 3) := by decide +kernel
theorem dX4_draw_21 : decode cX4_draw 21 = .ok (.ldc 37, 2) := by decide +kernel
theorem dX4_draw_23 : decode cX4_draw 23 = .ok (.iand, 1) := by decide +kernel
theorem dX4_draw_24 : decode cX4_draw 24 = .ok (.invokevirtual 38, 3) := by decide +kernel
theorem dX4_draw_27 : decode cX4_draw 27 = .ok (.iconst 0, 1) := by decide +kernel
theorem dX4_draw_28 : decode cX4_draw 28 = .ok (.istore_n 2, 1) := by decide +kernel
theorem dX4_draw_29 : decode cX4_draw 29 = .ok (.iload_n 2, 1) := by decide +kernel
theorem dX4_draw_30 : decode cX4_draw 30 = .ok (.bipush 8, 2) := by decide +kernel
theorem dX4_draw_32 : decode cX4_draw 32 = .ok (.if_icmp .ge 35, 3) := by decide +kernel
theorem dX4_draw_35 : decode cX4_draw 35 = .ok (.aload_n 0, 1) := by decide +kernel
theorem dX4_draw_36 : decode cX4_draw 36 = .ok (.aload_n 1, 1) := by decide +kernel
theorem dX4_draw_37 : decode cX4_draw 37 = .ok (.getfield 41, 3) := by decide +kernel
theorem dX4_draw_40 : decode cX4_draw 40 = .ok (.iload_n 2, 1) := by decide +kernel
theorem dX4_draw_41 : decode cX4_draw 41 = .ok (.iaload, 1) := by decide +kernel
theorem dX4_draw_42 : decode cX4_draw 42 = .ok (.invokestatic 44, 3) := by decide +kernel
theorem dX4_draw_45 : decode cX4_draw 45 = .ok (.invokevirtual 33, 3) := by decide +kernel
theorem dX4_draw_48 : decode cX4_draw 48 = .ok (.aload_n 0, 1) := by decide +kernel
theorem dX4_draw_49 : decode cX4_draw 49 = .ok (.aload_n 1, 1) := by decide +kernel
theorem dX4_draw_50 : decode cX4_draw 50 = .ok (.getfield 48, 3) := by decide +kernel
theorem dX4_draw_53 : decode cX4_draw 53 = .ok (.iload_n 2, 1) := by decide +kernel
theorem dX4_draw_54 : decode cX4_draw 54 = .ok (.iaload, 1) := by decide +kernel
theorem dX4_draw_55 : decode cX4_draw 55 = .ok (.invokestatic 44, 3) := by decide +kernel
theorem dX4_draw_58 : decode cX4_draw 58 = .ok (.invokevirtual 33, 3) := by decide +kernel
theorem dX4_draw_61 : decode cX4_draw 61 = .ok (.iinc 2 1, 3) := by decide +kernel
theorem dX4_draw_64 : decode cX4_draw 64 = .ok (.goto (-35), 3) := by decide +kernel
theorem dX4_draw_67 : decode cX4_draw 67 = .ok (.iconst 0, 1) := by decide +kernel
theorem dX4_draw_68 : decode cX4_draw 68 = .ok (.istore_n 2, 1) := by decide +kernel
theorem dX4_draw_69 : decode cX4_draw 69 = .ok (.iload_n 2, 1) := by decide +kernel
theorem dX4_draw_70 : decode cX4_draw 70 = .ok (.aload_n 1, 1) := by decide +kernel
theorem dX4_draw_71 : decode cX4_draw 71 = .ok (.getfield 51, 3) := by decide +kernel
theorem dX4_draw_74 : decode cX4_draw 74 = .ok (.if_icmp .ge 43, 3) := by decide +kernel
theorem dX4_draw_117 : decode cX4_draw 117 = .ok (.aload_n 0, 1) := by decide +kernel
theorem dX4_draw_118 : decode cX4_draw 118 = .ok (.getfield 11, 3) := by decide +kernel
theorem dX4_draw_121 : decode cX4_draw 121 = .ok (.aload_n 0, 1) := by decide +kernel
theorem dX4_draw_122 : decode cX4_draw 122 = .ok (.getfield 24, 3) := by decide +kernel
theorem dX4_draw_125 : decode cX4_draw 125 = .ok (.invokestatic 68, 3) := by decide +kernel
theorem dX4_draw_128 : decode cX4_draw 128 = .ok (.istore_n 2, 1) := by decide +kernel
theorem dX4_draw_129 : decode cX4_draw 129 = .ok (.aload_n 0, 1) := by decide +kernel
theorem dX4_draw_130 : decode cX4_draw 130 = .ok (.iload_n 2, 1) := by decide +kernel
theorem dX4_draw_131 : decode cX4_draw 131 = .ok (.invokevirtual 33, 3) := by decide +kernel
theorem dX4_draw_134 : decode cX4_draw 134 = .ok (.aload_n 0, 1) := by decide +kernel
theorem dX4_draw_135 : decode cX4_draw 135 = .ok (.getfield 24, 3) := by decide +kernel
theorem dX4_draw_138 : decode cX4_draw 138 = .ok (.ireturn, 1) := by decide +kernel
theorem dX4_rootByte_0 : decode cX4_rootByte 0 = .ok (.iload_n 0, 1) := by decide +kernel
theorem dX4_rootByte_1 : decode cX4_rootByte 1 = .ok (.bipush (-2), 2) := by decide +kernel
theorem dX4_rootByte_3 : decode cX4_rootByte 3 = .ok (.if_icmp .ne 7, 3) := by decide +kernel
theorem dX4_rootByte_6 : decode cX4_rootByte 6 = .ok (.sipush 255, 3) := by decide +kernel
theorem dX4_rootByte_9 : decode cX4_rootByte 9 = .ok (.ireturn, 1) := by decide +kernel
theorem dX4_rootByte_10 : decode cX4_rootByte 10 = .ok (.iload_n 0, 1) := by decide +kernel
theorem dX4_rootByte_11 : decode cX4_rootByte 11 = .ok (.iconst (-1), 1) := by decide +kernel
theorem dX4_rootByte_12 : decode cX4_rootByte 12 = .ok (.if_icmp .ne 9, 3) := by decide +kernel
theorem dX4_rootByte_15 : decode cX4_rootByte 15 = .ok (.sipush 254, 3) := by decide +kernel
theorem dX4_rootByte_18 : decode cX4_rootByte 18 = .ok (.goto 4, 3) := by decide +kernel
theorem dX4_rootByte_21 : decode cX4_rootByte 21 = .ok (.iload_n 0, 1) := by decide +kernel
theorem dX4_rootByte_22 : decode cX4_rootByte 22 = .ok (.ireturn, 1) := by decide +kernel
theorem dX4_seal_0 : decode cX4_seal 0 = .ok (.sipush 157, 3) := by decide +kernel
theorem dX4_seal_3 : decode cX4_seal 3 = .ok (.istore_n 2, 1) := by decide +kernel
theorem dX4_seal_4 : decode cX4_seal 4 = .ok (.iconst 0, 1) := by decide +kernel
theorem dX4_seal_5 : decode cX4_seal 5 = .ok (.istore_n 3, 1) := by decide +kernel
theorem dX4_seal_6 : decode cX4_seal 6 = .ok (.iload_n 3, 1) := by decide +kernel
theorem dX4_seal_7 : decode cX4_seal 7 = .ok (.iload_n 1, 1) := by decide +kernel
theorem dX4_seal_8 : decode cX4_seal 8 = .ok (.if_icmp .ge 27, 3) := by decide +kernel
theorem dX4_seal_11 : decode cX4_seal 11 = .ok (.iload_n 3, 1) := by decide +kernel
theorem dX4_seal_12 : decode cX4_seal 12 = .ok (.aload_n 0, 1) := by decide +kernel
theorem dX4_seal_13 : decode cX4_seal 13 = .ok (.arraylength, 1) := by decide +kernel
theorem dX4_seal_14 : decode cX4_seal 14 = .ok (.if_icmp .ge 21, 3) := by decide +kernel
theorem dX4_seal_17 : decode cX4_seal 17 = .ok (.iconst 3, 1) := by decide +kernel
theorem dX4_seal_18 : decode cX4_seal 18 = .ok (.iload_n 2, 1) := by decide +kernel
theorem dX4_seal_19 : decode cX4_seal 19 = .ok (.imul, 1) := by decide +kernel
theorem dX4_seal_20 : decode cX4_seal 20 = .ok (.aload_n 0, 1) := by decide +kernel
theorem dX4_seal_21 : decode cX4_seal 21 = .ok (.iload_n 3, 1) := by decide +kernel
theorem dX4_seal_22 : decode cX4_seal 22 = .ok (.iaload, 1) := by decide +kernel
theorem dX4_seal_23 : decode cX4_seal 23 = .ok (.iadd, 1) := by decide +kernel
theorem dX4_seal_24 : decode cX4_seal 24 = .ok (.sipush 251, 3) := by decide +kernel
theorem dX4_seal_27 : decode cX4_seal 27 = .ok (.irem, 1) := by decide +kernel
theorem dX4_seal_28 : decode cX4_seal 28 = .ok (.istore_n 2, 1) := by decide +kernel
theorem dX4_seal_29 : decode cX4_seal 29 = .ok (.iinc 3 1, 3) := by decide +kernel
theorem dX4_seal_32 : decode cX4_seal 32 = .ok (.goto (-26), 3) := by decide +kernel
theorem dX4_seal_35 : decode cX4_seal 35 = .ok (.iload_n 2, 1) := by decide +kernel
theorem dX4_seal_36 : decode cX4_seal 36 = .ok (.ireturn, 1) := by decide +kernel
set_option maxHeartbeats 4000000 in
set_option maxRecDepth 100000 in
theorem k_X4_add (l : Launch) (D : va_G) (sz : Nat) (a : Nat → Nat) (k : Nat) (h_1 : k < 1300) (f : Nat → Int32) (p0 : Int32) : Met l yX4_add (wz yX4_add cX4_add 2 none) { frames := 0, cells := 0, slots := 0, locals := 0 } (va_Pc [.ref (a 5), .int p0] (zW D sz [((a 5), .inr (4, [.ref (a 30), .int (nI k), .int 0, .ref (a 31), .ref (a 32), .ref (a 33)])), ((a 30), .inl (D.1 13, 1364, .inl f))])) (va_Qv (fun (_ : (Nat → Int32)) => True) (fun u t => zB D (va_A [((a 5), .inr (4, [.ref (a 30), .int (nI k), .int 0, .ref (a 31), .ref (a 32), .ref (a 33)])), ((a 30), .inl (D.1 13, 1364, .inl f))] sz) ((fun (u : (Nat → Int32)) => [((a 5), .inr (4, [.ref (a 30), .int (nI (k + 1)), .int 0, .ref (a 31), .ref (a 32), .ref (a 33)])), ((a 30), .inl (D.1 13, 1364, .inl u))]) u) t) (va_A [((a 5), .inr (4, [.ref (a 30), .int (nI k), .int 0, .ref (a 31), .ref (a 32), .ref (a 33)])), ((a 30), .inl (D.1 13, 1364, .inl f))] sz)) 0 0 (va_A [((a 5), .inr (4, [.ref (a 30), .int (nI k), .int 0, .ref (a 31), .ref (a 32), .ref (a 33)])), ((a 30), .inl (D.1 13, 1364, .inl f))] sz) := by
  refine Met.ofW (cc := cX4_add) (maxL := 2) (ret := none) (by decide) rfl ?_
  intro p e s m args below meth c s₁ B hml hv
  obtain ⟨rfl, hsz, hP, hK, hD0⟩ := hv
  have hx := B.exec
  have hb := B.bytes
  have hr := B.returns
  have hts := atoms_spec (ws := wz yX4_add cX4_add 2 none) B.pre
  have ht : ∀ w ∈ lw_gd, w.before _ s = true := fun w h => hts w (List.mem_cons_of_mem _ h)
  have hown : s.vm.findClass RX4 = some m.cls := findClass_of_methodNamed B.named
  have hlocks := B.notSynchronized
  subst hsz
  have hD := hD0.self (sz := s.heap.size)
  generalize hAe : va_A [((a 5), .inr (4, [.ref (a 30), .int (nI k), .int 0, .ref (a 31), .ref (a 32), .ref (a 33)])), ((a 30), .inl (D.1 13, 1364, .inl f))] s.heap.size = A at hD ⊢
  have hA : ∀ q : Nat, s.heap.size ≤ q → A q := fun q h => by rw [← hAe]; exact Or.inr h
  have hS : va_S A s.heap s.heap [] := va_S.rf
  have hl := lv_entry ([.ref (a 5), .int p0]) (n := 2) (Nat.le_of_ble_eq_true rfl)
  rw [lg_entry_eq]
  generalize (lg_sl ([.ref (a 5), .int p0]) ++ List.replicate (2 - (lg_sl ([.ref (a 5), .int p0])).length) Slot.unset).toArray = ls at hl ⊢
  have hl : lv_has ls 2 [(0, .ref (a 5)), (1, .int p0)] := hl
  refine lv_aload_n hx hb dX4_add_0 rfl (lv_at hl 0 rfl) ?_
  refine va_get (D := D) (ci := 4) (v := .int (nI k)) (C := RX4) (T := TX4) (N := 6) hx hb ht inX4 hown hK hP 0 rfl rfl 1 (by decide) (ht (.fieldLink RX4 24 "CloneVolumes$Picture" "size" "I") fl_X4_24) (fun _ h9 => h9) rfl dX4_add_1 ?_
  refine lv_aload_n hx hb dX4_add_4 rfl (lv_at hl 0 rfl) ?_
  refine va_get (D := D) (ci := 4) (v := .ref (a 30)) (C := RX4) (T := TX4) (N := 6) hx hb ht inX4 hown hK hP 0 rfl rfl 0 (by decide) (ht (.fieldLink RX4 11 "CloneVolumes$Picture" "bytes" "[I") fl_X4_11) (fun _ h9 => h9) rfl dX4_add_5 ?_
  refine va_alen (v := 1364) hx hb hK hP 1 0 rfl (ty := .int) rfl rfl dX4_add_8 ?_
  refine lv_icmp_ge (tgt := 36) hx hb dX4_add_9 (by decide) (fun c_1 => ?_) (fun c_1 => ?_)
  · exfalso
    have g_2 : 1364 ≤ ((k : Nat) : Int) := z_le (by decide) (nI_toInt (by omega)) c_1
    omega
  · have g_2 : ((k : Nat) : Int) < 1364 := z_nle (by decide) (nI_toInt (by omega)) c_1
    refine lv_aload_n hx hb dX4_add_12 rfl (lv_at hl 0 rfl) ?_
    refine va_get (D := D) (ci := 4) (v := .ref (a 30)) (C := RX4) (T := TX4) (N := 6) hx hb ht inX4 hown hK hP 0 rfl rfl 0 (by decide) (ht (.fieldLink RX4 11 "CloneVolumes$Picture" "bytes" "[I") fl_X4_11) (fun _ h9 => h9) rfl dX4_add_13 ?_
    refine lv_aload_n hx hb dX4_add_16 rfl (lv_at hl 0 rfl) ?_
    refine va_get (D := D) (ci := 4) (v := .int (nI k)) (C := RX4) (T := TX4) (N := 6) hx hb ht inX4 hown hK hP 0 rfl rfl 1 (by decide) (ht (.fieldLink RX4 24 "CloneVolumes$Picture" "size" "I") fl_X4_24) (fun _ h9 => h9) rfl dX4_add_17 ?_
    refine lv_iload_n hx hb dX4_add_20 rfl (lv_at hl 1 rfl) ?_
    refine lv_sipush (v := 255) hx hb dX4_add_21 (by decide) ?_
    refine lv_iand hx hb dX4_add_24 ?_
    refine lv_topi (fun x_3 ex_3 => ?_)
    refine va_iast hx hb hK hP hD hS 1 0 rfl rfl (vp_in_nI (by omega) (by omega)) dX4_add_25 (fun H locs hP hD hS => ?_)
    generalize hf_4 : upd _ _ _ = f_4 at hP hD
    have hP : va_P D vwCl [((a 5), .inr (4, [.ref (a 30), .int (nI k), .int 0, .ref (a 31), .ref (a 32), .ref (a 33)])), ((a 30), .inl (D.1 13, 1364, .inl f_4))] H := hP
    have hD : va_D A [((a 5), .inr (4, [.ref (a 30), .int (nI k), .int 0, .ref (a 31), .ref (a 32), .ref (a 33)])), ((a 30), .inl (D.1 13, 1364, .inl f_4))] := hD
    refine lv_aload_n hx hb dX4_add_26 rfl (lv_at hl 0 rfl) ?_
    refine lv_dup hx hb dX4_add_27 rfl ?_
    refine va_get (D := D) (ci := 4) (v := .int (nI k)) (C := RX4) (T := TX4) (N := 6) hx hb ht inX4 hown hK hP 0 rfl rfl 1 (by decide) (ht (.fieldLink RX4 24 "CloneVolumes$Picture" "size" "I") fl_X4_24) (fun _ h9 => h9) rfl dX4_add_28 ?_
    refine lv_iconst (v := 1) hx hb dX4_add_31 (by decide) ?_
    refine lv_iadd hx hb dX4_add_32 ?_
    refine z_topi (y := nI (k + 1)) (nI_add _ _) ?_
    refine va_put (D := D) (ci := 4) (v := .int (nI (k + 1))) (ty := .int) (C := RX4) (T := TX4) (N := 6) hx hb ht inX4 tyX4 tyX4_ok nmX4 hown hK hP hD hS 0 rfl rfl 1 (by decide) (ht (.fieldLink RX4 24 "CloneVolumes$Picture" "size" "I") fl_X4_24) (fun _ h9 => h9) rfl (by decide +kernel) rfl rfl (Nat.le_of_ble_eq_true rfl) dX4_add_33 (fun H locs hP hD hS => ?_)
    have hP : va_P D vwCl [((a 5), .inr (4, [.ref (a 30), .int (nI (k + 1)), .int 0, .ref (a 31), .ref (a 32), .ref (a 33)])), ((a 30), .inl (D.1 13, 1364, .inl f_4))] H := hP
    have hD : va_D A [((a 5), .inr (4, [.ref (a 30), .int (nI (k + 1)), .int 0, .ref (a 31), .ref (a 32), .ref (a 33)])), ((a 30), .inl (D.1 13, 1364, .inl f_4))] := hD
    have hP9 := hP.sub (ws' := [((a 5), .inr (4, [.ref (a 30), .int (nI (k + 1)), .int 0, .ref (a 31), .ref (a 32), .ref (a 33)])), ((a 30), .inl (D.1 13, 1364, .inl f_4))]) [0, 1] rfl
    have hD9 := hD.sub (ws' := [((a 5), .inr (4, [.ref (a 30), .int (nI (k + 1)), .int 0, .ref (a 31), .ref (a 32), .ref (a 33)])), ((a 30), .inl (D.1 13, 1364, .inl f_4))]) [0, 1] (by decide) rfl
    refine W.widen (k := 0) (n := 0) (Nat.le_of_ble_eq_true rfl) (Nat.le_of_ble_eq_true rfl) ?_
    exact W.vret hx hb hr (fun t ht hW => ⟨⟨f_4, rfl, trivial, by rw [ht]; exact hP9, va_K.moved hW.alike hK, hD9⟩, hS.F ht⟩) hS.2.2 dX4_add_36
set_option maxHeartbeats 4000000 in
set_option maxRecDepth 100000 in
theorem k_X4_addPair (l : Launch) (D : va_G) (sz : Nat) (a : Nat → Nat) (k : Nat) (h_1 : k < 1200) (f : Nat → Int32) (p0 : Int32) : Met l yX4_addPair (wz yX4_addPair cX4_addPair 2 none) { frames := 1, cells := 0, slots := 0, locals := 60 } (va_Pc [.ref (a 5), .int p0] (zW D sz [((a 5), .inr (4, [.ref (a 30), .int (nI k), .int 0, .ref (a 31), .ref (a 32), .ref (a 33)])), ((a 30), .inl (D.1 13, 1364, .inl f))])) (va_Qv (fun (_ : (Nat → Int32)) => True) (fun u t => zB D (va_A [((a 5), .inr (4, [.ref (a 30), .int (nI k), .int 0, .ref (a 31), .ref (a 32), .ref (a 33)])), ((a 30), .inl (D.1 13, 1364, .inl f))] sz) ((fun (u : (Nat → Int32)) => [((a 5), .inr (4, [.ref (a 30), .int (nI ((k + 1) + 1)), .int 0, .ref (a 31), .ref (a 32), .ref (a 33)])), ((a 30), .inl (D.1 13, 1364, .inl u))]) u) t) (va_A [((a 5), .inr (4, [.ref (a 30), .int (nI k), .int 0, .ref (a 31), .ref (a 32), .ref (a 33)])), ((a 30), .inl (D.1 13, 1364, .inl f))] sz)) 0 0 (va_A [((a 5), .inr (4, [.ref (a 30), .int (nI k), .int 0, .ref (a 31), .ref (a 32), .ref (a 33)])), ((a 30), .inl (D.1 13, 1364, .inl f))] sz) := by
  refine Met.ofW (cc := cX4_addPair) (maxL := 2) (ret := none) (by decide) rfl ?_
  intro p e s m args below meth c s₁ B hml hv
  obtain ⟨rfl, hsz, hP, hK, hD0⟩ := hv
  have hx := B.exec
  have hb := B.bytes
  have hr := B.returns
  have hts := atoms_spec (ws := wz yX4_addPair cX4_addPair 2 none) B.pre
  have ht : ∀ w ∈ lw_gd, w.before _ s = true := fun w h => hts w (List.mem_cons_of_mem _ h)
  have hown : s.vm.findClass RX4 = some m.cls := findClass_of_methodNamed B.named
  have hlocks := B.notSynchronized
  subst hsz
  have hD := hD0.self (sz := s.heap.size)
  generalize hAe : va_A [((a 5), .inr (4, [.ref (a 30), .int (nI k), .int 0, .ref (a 31), .ref (a 32), .ref (a 33)])), ((a 30), .inl (D.1 13, 1364, .inl f))] s.heap.size = A at hD ⊢
  have hA : ∀ q : Nat, s.heap.size ≤ q → A q := fun q h => by rw [← hAe]; exact Or.inr h
  have hS : va_S A s.heap s.heap [] := va_S.rf
  have hl := lv_entry ([.ref (a 5), .int p0]) (n := 2) (Nat.le_of_ble_eq_true rfl)
  rw [lg_entry_eq]
  generalize (lg_sl ([.ref (a 5), .int p0]) ++ List.replicate (2 - (lg_sl ([.ref (a 5), .int p0])).length) Slot.unset).toArray = ls at hl ⊢
  have hl : lv_has ls 2 [(0, .ref (a 5)), (1, .int p0)] := hl
  refine lv_aload_n hx hb dX4_addPair_0 rfl (lv_at hl 0 rfl) ?_
  refine lv_iload_n hx hb dX4_addPair_1 rfl (lv_at hl 1 rfl) ?_
  refine lv_bipush (v := 8) hx hb dX4_addPair_2 (by decide) ?_
  obtain ⟨x_1, ex_1⟩ : ∃ z : Int32, (p0.toUInt32 >>> ((8 : Int32).toUInt32 &&& Int32.toUInt32 31)).toInt32 = z := ⟨_, rfl⟩
  refine lv_iushr (v := x_1) hx hb dX4_addPair_4 ex_1 ?_
  refine zwVv (As := [.int x_1]) (rest := []) (C := RX4) (n := 1) (wr := []) ⟨hx, hb, hml, hown, ht⟩ (k_X4_add l D _ a k (by first | decide | omega) f x_1) (zgV ml_X4_33 im_X4_add se_X4_add in_X4 co_X4_add) rfl rfl (by decide +kernel) ⟨Nat.le_of_ble_eq_true rfl, Nat.le_of_ble_eq_true rfl⟩ hK hP hD hS hA [0, 1] [] rfl rfl rfl rfl (by decide) 0 rfl rfl rfl rfl hl.1 rfl (Nat.le_of_ble_eq_true rfl) dX4_addPair_5 ⟨Nat.le_of_ble_eq_true rfl, Nat.le_of_ble_eq_true rfl⟩ (fun u_2 H locs hw hP hD hS => ?_)
  have hP : va_P D vwCl [((a 5), .inr (4, [.ref (a 30), .int (nI (k + 1)), .int 0, .ref (a 31), .ref (a 32), .ref (a 33)])), ((a 30), .inl (D.1 13, 1364, .inl u_2))] H := hP
  have hD : va_D A [((a 5), .inr (4, [.ref (a 30), .int (nI (k + 1)), .int 0, .ref (a 31), .ref (a 32), .ref (a 33)])), ((a 30), .inl (D.1 13, 1364, .inl u_2))] := hD
  refine lv_aload_n hx hb dX4_addPair_8 rfl (lv_at hl 0 rfl) ?_
  refine lv_iload_n hx hb dX4_addPair_9 rfl (lv_at hl 1 rfl) ?_
  refine zwVv (As := [.int p0]) (rest := []) (C := RX4) (n := 1) (wr := []) ⟨hx, hb, hml, hown, ht⟩ (k_X4_add l D _ a (k + 1) (by first | decide | omega) u_2 p0) (zgV ml_X4_33 im_X4_add se_X4_add in_X4 co_X4_add) rfl rfl (by decide +kernel) ⟨Nat.le_of_ble_eq_true rfl, Nat.le_of_ble_eq_true rfl⟩ hK hP hD hS hA [0, 1] [] rfl rfl rfl rfl (by decide) 0 rfl rfl rfl rfl hl.1 rfl (Nat.le_of_ble_eq_true rfl) dX4_addPair_10 ⟨Nat.le_of_ble_eq_true rfl, Nat.le_of_ble_eq_true rfl⟩ (fun u_4 H locs hw hP hD hS => ?_)
  have hP : va_P D vwCl [((a 5), .inr (4, [.ref (a 30), .int (nI ((k + 1) + 1)), .int 0, .ref (a 31), .ref (a 32), .ref (a 33)])), ((a 30), .inl (D.1 13, 1364, .inl u_4))] H := hP
  have hD : va_D A [((a 5), .inr (4, [.ref (a 30), .int (nI ((k + 1) + 1)), .int 0, .ref (a 31), .ref (a 32), .ref (a 33)])), ((a 30), .inl (D.1 13, 1364, .inl u_4))] := hD
  have hP9 := hP.sub (ws' := [((a 5), .inr (4, [.ref (a 30), .int (nI ((k + 1) + 1)), .int 0, .ref (a 31), .ref (a 32), .ref (a 33)])), ((a 30), .inl (D.1 13, 1364, .inl u_4))]) [0, 1] rfl
  have hD9 := hD.sub (ws' := [((a 5), .inr (4, [.ref (a 30), .int (nI ((k + 1) + 1)), .int 0, .ref (a 31), .ref (a 32), .ref (a 33)])), ((a 30), .inl (D.1 13, 1364, .inl u_4))]) [0, 1] (by decide) rfl
  refine W.widen (k := 0) (n := 0) (Nat.le_of_ble_eq_true rfl) (Nat.le_of_ble_eq_true rfl) ?_
  exact W.vret hx hb hr (fun t ht hW => ⟨⟨u_4, rfl, trivial, by rw [ht]; exact hP9, va_K.moved hW.alike hK, hD9⟩, hS.F ht⟩) hS.2.2 dX4_addPair_13
set_option maxHeartbeats 4000000 in
set_option maxRecDepth 100000 in
theorem k_X4_rootByte (l : Launch) (D : va_G) (p0 : Int32) : Met l yX4_rootByte (wz yX4_rootByte cX4_rootByte 1 (some .int)) { frames := 0, cells := 0, slots := 0, locals := 0 } (va_Pc [.int p0] (zP D [])) (va_Qi (fun r (_ : Unit) => (r = p0 ∧ ¬ p0.toInt = (-2) ∧ ¬ p0.toInt = (-1)) ∨ (r = 254 ∧ ¬ p0.toInt = (-2) ∧ p0.toInt = (-1)) ∨ (r = 255 ∧ p0.toInt = (-2))) (fun _ _ => True) (fun _ => False)) 0 0 (fun _ => False) := by
  refine Met.ofW (cc := cX4_rootByte) (maxL := 1) (ret := (some .int)) (by decide) rfl ?_
  intro p e s m args below meth c s₁ B hml hv
  obtain ⟨rfl, hP, hK⟩ := hv
  have hx := B.exec
  have hb := B.bytes
  have hr := B.returns
  have hts := atoms_spec (ws := wz yX4_rootByte cX4_rootByte 1 (some .int)) B.pre
  have ht : ∀ w ∈ lw_gd, w.before _ s = true := fun w h => hts w (List.mem_cons_of_mem _ h)
  have hown : s.vm.findClass RX4 = some m.cls := findClass_of_methodNamed B.named
  have hlocks := B.notSynchronized
  have hS : va_S (fun _ => False) s.heap s.heap [] := va_S.rf
  have hl := lv_entry ([.int p0]) (n := 1) (Nat.le_of_ble_eq_true rfl)
  rw [lg_entry_eq]
  generalize (lg_sl ([.int p0]) ++ List.replicate (1 - (lg_sl ([.int p0])).length) Slot.unset).toArray = ls at hl ⊢
  have hl : lv_has ls 1 [(0, .int p0)] := hl
  refine lv_iload_n hx hb dX4_rootByte_0 rfl (lv_at hl 0 rfl) ?_
  refine lv_bipush (v := (-2)) hx hb dX4_rootByte_1 (by decide) ?_
  refine lv_icmp_ne (tgt := 10) hx hb dX4_rootByte_3 (by decide) (fun c_1 => ?_) (fun c_1 => ?_)
  · have g_2 : ¬ p0.toInt = (-2) := z_ne rfl (by decide) c_1
    refine lv_iload_n hx hb dX4_rootByte_10 rfl (lv_at hl 0 rfl) ?_
    refine lv_iconst (v := (-1)) hx hb dX4_rootByte_11 (by decide) ?_
    refine lv_icmp_ne (tgt := 21) hx hb dX4_rootByte_12 (by decide) (fun c_3 => ?_) (fun c_3 => ?_)
    · have g_4 : ¬ p0.toInt = (-1) := z_ne rfl (by decide) c_3
      refine lv_iload_n hx hb dX4_rootByte_21 rfl (lv_at hl 0 rfl) ?_
      exact W.iret (v := p0) hx hb hr (fun t ht hW => ⟨⟨p0, (), rfl, Or.inl (⟨rfl, zu_ne rfl (by decide) g_2, zu_ne rfl (by decide) g_4⟩), trivial⟩, hS.F ht⟩) hS.2.2 dX4_rootByte_22
    · have g_4 : p0.toInt = (-1) := z_eq rfl (by decide) c_3
      refine lv_sipush (v := 254) hx hb dX4_rootByte_15 (by decide) ?_
      refine lv_goto (tgt := 22) hx hb dX4_rootByte_18 (by decide) ?_
      exact W.iret (v := 254) hx hb hr (fun t ht hW => ⟨⟨254, (), rfl, Or.inr (Or.inl (⟨rfl, zu_ne rfl (by decide) g_2, zu_eq rfl (by decide) g_4⟩)), trivial⟩, hS.F ht⟩) hS.2.2 dX4_rootByte_22
  · have g_2 : p0.toInt = (-2) := z_eq rfl (by decide) c_1
    refine lv_sipush (v := 255) hx hb dX4_rootByte_6 (by decide) ?_
    exact W.iret (v := 255) hx hb hr (fun t ht hW => ⟨⟨255, (), rfl, Or.inr (Or.inr (⟨rfl, zu_eq rfl (by decide) g_2⟩)), trivial⟩, hS.F ht⟩) hS.2.2 dX4_rootByte_9
set_option maxHeartbeats 4000000 in
set_option maxRecDepth 100000 in
theorem k_X4_seal (l : Launch) (D : va_G) (a : Nat → Nat) (f : Nat → Int32) : Met l yX4_seal (wz yX4_seal cX4_seal 4 (some .int)) { frames := 0, cells := 0, slots := 0, locals := 0 } (va_Pc [.ref (a 30), .int 19] (zP D [((a 30), .inl (D.1 13, 1364, .inl f))])) (va_Qi (fun r (_ : Unit) => True) (fun _ _ => True) (fun _ => False)) 0 0 (fun _ => False) := by
  refine Met.ofW (cc := cX4_seal) (maxL := 4) (ret := (some .int)) (by decide) rfl ?_
  intro p e s m args below meth c s₁ B hml hv
  obtain ⟨rfl, hP, hK⟩ := hv
  have hx := B.exec
  have hb := B.bytes
  have hr := B.returns
  have hts := atoms_spec (ws := wz yX4_seal cX4_seal 4 (some .int)) B.pre
  have ht : ∀ w ∈ lw_gd, w.before _ s = true := fun w h => hts w (List.mem_cons_of_mem _ h)
  have hown : s.vm.findClass RX4 = some m.cls := findClass_of_methodNamed B.named
  have hlocks := B.notSynchronized
  have hS : va_S (fun _ => False) s.heap s.heap [] := va_S.rf
  have hl := lv_entry ([.ref (a 30), .int 19]) (n := 4) (Nat.le_of_ble_eq_true rfl)
  rw [lg_entry_eq]
  generalize (lg_sl ([.ref (a 30), .int 19]) ++ List.replicate (4 - (lg_sl ([.ref (a 30), .int 19])).length) Slot.unset).toArray = ls at hl ⊢
  have hl : lv_has ls 4 [(0, .ref (a 30)), (1, .int 19)] := hl
  refine lv_sipush (v := 157) hx hb dX4_seal_0 (by decide) ?_
  refine lv_istore_n (lv' := [(2, .int 157), (0, .ref (a 30)), (1, .int 19)]) hx hb dX4_seal_3 rfl hl (by decide) rfl (fun ls hl => ?_)
  refine lv_iconst (v := 0) hx hb dX4_seal_4 (by decide) ?_
  refine lv_istore_n (lv' := [(3, .int 0), (2, .int 157), (0, .ref (a 30)), (1, .int 19)]) hx hb dX4_seal_5 rfl hl (by decide) rfl (fun ls hl => ?_)
  refine z_loop (σ := (Int32)) (N := 19) (fun i u H locs ls => va_P D vwCl [((a 30), .inl (D.1 13, 1364, .inl f))] H ∧ va_S (fun _ => False) s.heap H locs ∧ lv_has ls 4 [(3, .int (nI i)), (2, .int u), (0, .ref (a 30)), (1, .int 19)]) (fun i_1 x_2 H locs ls hi_i_1 hI ih_6 => ?_) 0 157 (by decide) ⟨hP, hS, lv_sub hl [0, 1, 2, 3] rfl⟩
  obtain ⟨hP, hS, hl⟩ := hI
  have hP : va_P D vwCl [((a 30), .inl (D.1 13, 1364, .inl f))] H := hP
  have hl : lv_has ls 4 [(3, .int (nI i_1)), (2, .int x_2), (0, .ref (a 30)), (1, .int 19)] := hl
  refine lv_iload_n hx hb dX4_seal_6 rfl (lv_at hl 0 rfl) ?_
  refine lv_iload_n hx hb dX4_seal_7 rfl (lv_at hl 3 rfl) ?_
  refine lv_icmp_ge (tgt := 35) hx hb dX4_seal_8 (by decide) (fun c_3 => ?_) (fun c_3 => ?_)
  · have g_4 : 19 ≤ ((i_1 : Nat) : Int) := z_le (by decide) (nI_toInt (by omega)) c_3
    obtain rfl : i_1 = 19 := by omega
    have hP : va_P D vwCl [((a 30), .inl (D.1 13, 1364, .inl f))] H := hP
    have hl : lv_has ls 4 [(3, .int 19), (2, .int x_2), (0, .ref (a 30)), (1, .int 19)] := hl
    refine lv_iload_n hx hb dX4_seal_35 rfl (lv_at hl 1 rfl) ?_
    exact W.iret (v := x_2) hx hb hr (fun t ht hW => ⟨⟨x_2, (), rfl, trivial, trivial⟩, hS.F ht⟩) hS.2.2 dX4_seal_36
  · have g_4 : ((i_1 : Nat) : Int) < 19 := z_nle (by decide) (nI_toInt (by omega)) c_3
    refine lv_iload_n hx hb dX4_seal_11 rfl (lv_at hl 0 rfl) ?_
    refine lv_aload_n hx hb dX4_seal_12 rfl (lv_at hl 2 rfl) ?_
    refine va_alen (v := 1364) hx hb hK hP 0 0 rfl (ty := .int) rfl rfl dX4_seal_13 ?_
    refine lv_icmp_ge (tgt := 35) hx hb dX4_seal_14 (by decide) (fun c_5 => ?_) (fun c_5 => ?_)
    · exfalso
      have g_6 : 1364 ≤ ((i_1 : Nat) : Int) := z_le (by decide) (nI_toInt (by omega)) c_5
      omega
    · have g_6 : ((i_1 : Nat) : Int) < 1364 := z_nle (by decide) (nI_toInt (by omega)) c_5
      refine lv_iconst (v := 3) hx hb dX4_seal_17 (by decide) ?_
      refine lv_iload_n hx hb dX4_seal_18 rfl (lv_at hl 1 rfl) ?_
      refine lv_imul hx hb dX4_seal_19 ?_
      refine lv_topi (fun x_7 ex_7 => ?_)
      refine lv_aload_n hx hb dX4_seal_20 rfl (lv_at hl 2 rfl) ?_
      refine lv_iload_n hx hb dX4_seal_21 rfl (lv_at hl 0 rfl) ?_
      refine va_iald hx hb hK hP 0 0 rfl rfl (vp_in_nI (by omega) (by omega)) dX4_seal_22 ?_
      refine lv_topi (fun x_8 ex_8 => ?_)
      refine lv_iadd hx hb dX4_seal_23 ?_
      refine lv_topi (fun x_9 ex_9 => ?_)
      refine lv_sipush (v := 251) hx hb dX4_seal_24 (by decide) ?_
      refine lv_irem hx hb dX4_seal_27 (by decide) ?_
      refine lv_topi (fun x_10 ex_10 => ?_)
      refine lv_istore_n (lv' := [(2, .int x_10), (3, .int (nI i_1)), (0, .ref (a 30)), (1, .int 19)]) hx hb dX4_seal_28 rfl hl (by decide) rfl (fun ls hl => ?_)
      refine lv_iinc (v := nI (i_1 + 1)) (lv' := [(3, .int (nI (i_1 + 1))), (2, .int x_10), (0, .ref (a 30)), (1, .int 19)]) hx hb dX4_seal_29 hl (k := 1) rfl (z_inc _) (by decide) rfl (fun ls hl => ?_)
      refine lv_goto (tgt := 6) hx hb dX4_seal_32 (by decide) ?_
      exact ih_6 x_10 _ _ _ (by omega) ⟨hP.sub [0] rfl, hS, lv_sub hl [0, 1, 2, 3] rfl⟩
set_option maxHeartbeats 4000000 in
set_option maxRecDepth 100000 in
theorem k_X4_draw (l : Launch) (D : va_G) (sz : Nat) (a : Nat → Nat)  : Met l yX4_draw (wz yX4_draw cX4_draw 3 (some .int)) { frames := 2, cells := 0, slots := 0, locals := 120 } (va_Pc [.ref (a 5), .ref (a 13)] (zW D sz [((a 5), .inr (4, [.ref (a 30), .int 0, .int 0, .ref (a 31), .ref (a 32), .ref (a 33)])), ((a 30), .inl (D.1 13, 1364, .inl (fun _ => 0))), ((a 13), .inr (8, [.int 0, .int 0, .long 0, .ref (a 60), .ref (a 61), .ref (a 62), .ref (a 63), .ref (a 64), .ref (a 65), .ref (a 66), .ref (a 67)])), ((a 66), .inl (D.1 13, 8, .inl (fun _ => (-2)))), ((a 67), .inl (D.1 13, 8, .inl (fun _ => (-2))))])) (va_Qi (fun r (_ : Unit) => r = 20) (fun u t => zB D (va_A [((a 5), .inr (4, [.ref (a 30), .int 0, .int 0, .ref (a 31), .ref (a 32), .ref (a 33)])), ((a 30), .inl (D.1 13, 1364, .inl (fun _ => 0))), ((a 13), .inr (8, [.int 0, .int 0, .long 0, .ref (a 60), .ref (a 61), .ref (a 62), .ref (a 63), .ref (a 64), .ref (a 65), .ref (a 66), .ref (a 67)])), ((a 66), .inl (D.1 13, 8, .inl (fun _ => (-2)))), ((a 67), .inl (D.1 13, 8, .inl (fun _ => (-2))))] sz) ((fun (_ : Unit) => []) u) t) (va_A [((a 5), .inr (4, [.ref (a 30), .int 0, .int 0, .ref (a 31), .ref (a 32), .ref (a 33)])), ((a 30), .inl (D.1 13, 1364, .inl (fun _ => 0))), ((a 13), .inr (8, [.int 0, .int 0, .long 0, .ref (a 60), .ref (a 61), .ref (a 62), .ref (a 63), .ref (a 64), .ref (a 65), .ref (a 66), .ref (a 67)])), ((a 66), .inl (D.1 13, 8, .inl (fun _ => (-2)))), ((a 67), .inl (D.1 13, 8, .inl (fun _ => (-2))))] sz)) 0 0 (va_A [((a 5), .inr (4, [.ref (a 30), .int 0, .int 0, .ref (a 31), .ref (a 32), .ref (a 33)])), ((a 30), .inl (D.1 13, 1364, .inl (fun _ => 0))), ((a 13), .inr (8, [.int 0, .int 0, .long 0, .ref (a 60), .ref (a 61), .ref (a 62), .ref (a 63), .ref (a 64), .ref (a 65), .ref (a 66), .ref (a 67)])), ((a 66), .inl (D.1 13, 8, .inl (fun _ => (-2)))), ((a 67), .inl (D.1 13, 8, .inl (fun _ => (-2))))] sz) := by
  refine Met.ofW (cc := cX4_draw) (maxL := 3) (ret := (some .int)) (by decide) rfl ?_
  intro p e s m args below meth c s₁ B hml hv
  obtain ⟨rfl, hsz, hP, hK, hD0⟩ := hv
  have hx := B.exec
  have hb := B.bytes
  have hr := B.returns
  have hts := atoms_spec (ws := wz yX4_draw cX4_draw 3 (some .int)) B.pre
  have ht : ∀ w ∈ lw_gd, w.before _ s = true := fun w h => hts w (List.mem_cons_of_mem _ h)
  have hown : s.vm.findClass RX4 = some m.cls := findClass_of_methodNamed B.named
  have hlocks := B.notSynchronized
  subst hsz
  have hD := hD0.self (sz := s.heap.size)
  generalize hAe : va_A [((a 5), .inr (4, [.ref (a 30), .int 0, .int 0, .ref (a 31), .ref (a 32), .ref (a 33)])), ((a 30), .inl (D.1 13, 1364, .inl (fun _ => 0))), ((a 13), .inr (8, [.int 0, .int 0, .long 0, .ref (a 60), .ref (a 61), .ref (a 62), .ref (a 63), .ref (a 64), .ref (a 65), .ref (a 66), .ref (a 67)])), ((a 66), .inl (D.1 13, 8, .inl (fun _ => (-2)))), ((a 67), .inl (D.1 13, 8, .inl (fun _ => (-2))))] s.heap.size = A at hD ⊢
  have hA : ∀ q : Nat, s.heap.size ≤ q → A q := fun q h => by rw [← hAe]; exact Or.inr h
  have hS : va_S A s.heap s.heap [] := va_S.rf
  have hl := lv_entry ([.ref (a 5), .ref (a 13)]) (n := 3) (Nat.le_of_ble_eq_true rfl)
  rw [lg_entry_eq]
  generalize (lg_sl ([.ref (a 5), .ref (a 13)]) ++ List.replicate (3 - (lg_sl ([.ref (a 5), .ref (a 13)])).length) Slot.unset).toArray = ls at hl ⊢
  have hl : lv_has ls 3 [(0, .ref (a 5)), (1, .ref (a 13))] := hl
  refine lv_aload_n hx hb dX4_draw_0 rfl (lv_at hl 0 rfl) ?_
  refine lv_iconst (v := 0) hx hb dX4_draw_1 (by decide) ?_
  refine va_put (D := D) (ci := 4) (v := .int 0) (ty := .int) (C := RX4) (T := TX4) (N := 6) hx hb ht inX4 tyX4 tyX4_ok nmX4 hown hK hP hD hS 0 rfl rfl 1 (by decide) (ht (.fieldLink RX4 24 "CloneVolumes$Picture" "size" "I") fl_X4_24) (fun _ h9 => h9) rfl (by decide +kernel) rfl rfl (Nat.le_of_ble_eq_true rfl) dX4_draw_2 (fun H locs hP hD hS => ?_)
  have hP : va_P D vwCl [((a 5), .inr (4, [.ref (a 30), .int 0, .int 0, .ref (a 31), .ref (a 32), .ref (a 33)])), ((a 30), .inl (D.1 13, 1364, .inl (fun _ => 0))), ((a 13), .inr (8, [.int 0, .int 0, .long 0, .ref (a 60), .ref (a 61), .ref (a 62), .ref (a 63), .ref (a 64), .ref (a 65), .ref (a 66), .ref (a 67)])), ((a 66), .inl (D.1 13, 8, .inl (fun _ => (-2)))), ((a 67), .inl (D.1 13, 8, .inl (fun _ => (-2))))] H := hP
  have hD : va_D A [((a 5), .inr (4, [.ref (a 30), .int 0, .int 0, .ref (a 31), .ref (a 32), .ref (a 33)])), ((a 30), .inl (D.1 13, 1364, .inl (fun _ => 0))), ((a 13), .inr (8, [.int 0, .int 0, .long 0, .ref (a 60), .ref (a 61), .ref (a 62), .ref (a 63), .ref (a 64), .ref (a 65), .ref (a 66), .ref (a 67)])), ((a 66), .inl (D.1 13, 8, .inl (fun _ => (-2)))), ((a 67), .inl (D.1 13, 8, .inl (fun _ => (-2))))] := hD
  refine lv_aload_n hx hb dX4_draw_5 rfl (lv_at hl 0 rfl) ?_
  refine lv_aload_n hx hb dX4_draw_6 rfl (lv_at hl 1 rfl) ?_
  refine va_get (D := D) (ci := 8) (v := .int 0) (C := RX8) (T := TX8) (N := 11) hx hb ht inX8 hown hK hP 2 rfl rfl 1 (by decide) (ht (.fieldLink RX4 28 "CloneVolumes$State" "spent" "I") fl_X4_28) (fun _ h9 => h9) rfl dX4_draw_7 ?_
  refine lv_bipush (v := 16) hx hb dX4_draw_10 (by decide) ?_
  refine lv_iushr (v := 0) hx hb dX4_draw_12 (by decide) ?_
  refine zwVv (As := [.int 0]) (rest := []) (C := RX4) (n := 1) (wr := [((a 13), .inr (8, [.int 0, .int 0, .long 0, .ref (a 60), .ref (a 61), .ref (a 62), .ref (a 63), .ref (a 64), .ref (a 65), .ref (a 66), .ref (a 67)])), ((a 66), .inl (D.1 13, 8, .inl (fun _ => (-2)))), ((a 67), .inl (D.1 13, 8, .inl (fun _ => (-2))))]) ⟨hx, hb, hml, hown, ht⟩ (k_X4_add l D _ a 0 (by first | decide | omega) (fun _ => 0) 0) (zgV ml_X4_33 im_X4_add se_X4_add in_X4 co_X4_add) rfl rfl (by decide +kernel) ⟨Nat.le_of_ble_eq_true rfl, Nat.le_of_ble_eq_true rfl⟩ hK hP hD hS hA [0, 1] [2, 3, 4] rfl rfl rfl rfl (by decide) 0 rfl rfl rfl rfl hl.1 rfl (Nat.le_of_ble_eq_true rfl) dX4_draw_13 ⟨Nat.le_of_ble_eq_true rfl, Nat.le_of_ble_eq_true rfl⟩ (fun u_2 H locs hw hP hD hS => ?_)
  have hP : va_P D vwCl [((a 13), .inr (8, [.int 0, .int 0, .long 0, .ref (a 60), .ref (a 61), .ref (a 62), .ref (a 63), .ref (a 64), .ref (a 65), .ref (a 66), .ref (a 67)])), ((a 66), .inl (D.1 13, 8, .inl (fun _ => (-2)))), ((a 67), .inl (D.1 13, 8, .inl (fun _ => (-2)))), ((a 5), .inr (4, [.ref (a 30), .int 1, .int 0, .ref (a 31), .ref (a 32), .ref (a 33)])), ((a 30), .inl (D.1 13, 1364, .inl u_2))] H := hP
  have hD : va_D A [((a 13), .inr (8, [.int 0, .int 0, .long 0, .ref (a 60), .ref (a 61), .ref (a 62), .ref (a 63), .ref (a 64), .ref (a 65), .ref (a 66), .ref (a 67)])), ((a 66), .inl (D.1 13, 8, .inl (fun _ => (-2)))), ((a 67), .inl (D.1 13, 8, .inl (fun _ => (-2)))), ((a 5), .inr (4, [.ref (a 30), .int 1, .int 0, .ref (a 31), .ref (a 32), .ref (a 33)])), ((a 30), .inl (D.1 13, 1364, .inl u_2))] := hD
  refine lv_aload_n hx hb dX4_draw_16 rfl (lv_at hl 0 rfl) ?_
  refine lv_aload_n hx hb dX4_draw_17 rfl (lv_at hl 1 rfl) ?_
  refine va_get (D := D) (ci := 8) (v := .int 0) (C := RX8) (T := TX8) (N := 11) hx hb ht inX8 hown hK hP 0 rfl rfl 1 (by decide) (ht (.fieldLink RX4 28 "CloneVolumes$State" "spent" "I") fl_X4_28) (fun _ h9 => h9) rfl dX4_draw_18 ?_
  refine lv_ldc (own := RX4) (v := 65535) hx hb hown (ht _ ck_X4_37) dX4_draw_21 ?_
  refine lv_iand hx hb dX4_draw_23 ?_
  refine z_topi (y := 0) (by decide) ?_
  refine zwVv (As := [.int 0]) (rest := []) (C := RX4) (n := 1) (wr := [((a 13), .inr (8, [.int 0, .int 0, .long 0, .ref (a 60), .ref (a 61), .ref (a 62), .ref (a 63), .ref (a 64), .ref (a 65), .ref (a 66), .ref (a 67)])), ((a 66), .inl (D.1 13, 8, .inl (fun _ => (-2)))), ((a 67), .inl (D.1 13, 8, .inl (fun _ => (-2))))]) ⟨hx, hb, hml, hown, ht⟩ (k_X4_addPair l D _ a 1 (by first | decide | omega) u_2 0) (zgV ml_X4_38 im_X4_addPair se_X4_addPair in_X4 co_X4_addPair) rfl rfl (by decide +kernel) ⟨Nat.le_of_ble_eq_true rfl, Nat.le_of_ble_eq_true rfl⟩ hK hP hD hS hA [3, 4] [0, 1, 2] rfl rfl rfl rfl (by decide) 0 rfl rfl rfl rfl hl.1 rfl (Nat.le_of_ble_eq_true rfl) dX4_draw_24 ⟨Nat.le_of_ble_eq_true rfl, Nat.le_of_ble_eq_true rfl⟩ (fun u_4 H locs hw hP hD hS => ?_)
  have hP : va_P D vwCl [((a 13), .inr (8, [.int 0, .int 0, .long 0, .ref (a 60), .ref (a 61), .ref (a 62), .ref (a 63), .ref (a 64), .ref (a 65), .ref (a 66), .ref (a 67)])), ((a 66), .inl (D.1 13, 8, .inl (fun _ => (-2)))), ((a 67), .inl (D.1 13, 8, .inl (fun _ => (-2)))), ((a 5), .inr (4, [.ref (a 30), .int 3, .int 0, .ref (a 31), .ref (a 32), .ref (a 33)])), ((a 30), .inl (D.1 13, 1364, .inl u_4))] H := hP
  have hD : va_D A [((a 13), .inr (8, [.int 0, .int 0, .long 0, .ref (a 60), .ref (a 61), .ref (a 62), .ref (a 63), .ref (a 64), .ref (a 65), .ref (a 66), .ref (a 67)])), ((a 66), .inl (D.1 13, 8, .inl (fun _ => (-2)))), ((a 67), .inl (D.1 13, 8, .inl (fun _ => (-2)))), ((a 5), .inr (4, [.ref (a 30), .int 3, .int 0, .ref (a 31), .ref (a 32), .ref (a 33)])), ((a 30), .inl (D.1 13, 1364, .inl u_4))] := hD
  refine lv_iconst (v := 0) hx hb dX4_draw_27 (by decide) ?_
  refine lv_istore_n (lv' := [(2, .int 0), (0, .ref (a 5)), (1, .ref (a 13))]) hx hb dX4_draw_28 rfl hl (by decide) rfl (fun ls hl => ?_)
  refine z_loop (σ := (Nat → Int32)) (N := 8) (fun i u H locs ls => va_P D vwCl [((a 13), .inr (8, [.int 0, .int 0, .long 0, .ref (a 60), .ref (a 61), .ref (a 62), .ref (a 63), .ref (a 64), .ref (a 65), .ref (a 66), .ref (a 67)])), ((a 66), .inl (D.1 13, 8, .inl (fun _ => (-2)))), ((a 67), .inl (D.1 13, 8, .inl (fun _ => (-2)))), ((a 5), .inr (4, [.ref (a 30), .int (nI (3 + 2 * i)), .int 0, .ref (a 31), .ref (a 32), .ref (a 33)])), ((a 30), .inl (D.1 13, 1364, .inl u))] H ∧ va_D A [((a 13), .inr (8, [.int 0, .int 0, .long 0, .ref (a 60), .ref (a 61), .ref (a 62), .ref (a 63), .ref (a 64), .ref (a 65), .ref (a 66), .ref (a 67)])), ((a 66), .inl (D.1 13, 8, .inl (fun _ => (-2)))), ((a 67), .inl (D.1 13, 8, .inl (fun _ => (-2)))), ((a 5), .inr (4, [.ref (a 30), .int (nI (3 + 2 * i)), .int 0, .ref (a 31), .ref (a 32), .ref (a 33)])), ((a 30), .inl (D.1 13, 1364, .inl u))] ∧ va_S A s.heap H locs ∧ lv_has ls 3 [(2, .int (nI i)), (0, .ref (a 5)), (1, .ref (a 13))]) (fun i_6 f_7 H locs ls hi_i_6 hI ih_29 => ?_) 0 u_4 (by decide) ⟨hP, hD, hS, lv_sub hl [0, 1, 2] rfl⟩
  obtain ⟨hP, hD, hS, hl⟩ := hI
  have hP : va_P D vwCl [((a 13), .inr (8, [.int 0, .int 0, .long 0, .ref (a 60), .ref (a 61), .ref (a 62), .ref (a 63), .ref (a 64), .ref (a 65), .ref (a 66), .ref (a 67)])), ((a 66), .inl (D.1 13, 8, .inl (fun _ => (-2)))), ((a 67), .inl (D.1 13, 8, .inl (fun _ => (-2)))), ((a 5), .inr (4, [.ref (a 30), .int (nI (3 + 2 * i_6)), .int 0, .ref (a 31), .ref (a 32), .ref (a 33)])), ((a 30), .inl (D.1 13, 1364, .inl f_7))] H := hP
  have hD : va_D A [((a 13), .inr (8, [.int 0, .int 0, .long 0, .ref (a 60), .ref (a 61), .ref (a 62), .ref (a 63), .ref (a 64), .ref (a 65), .ref (a 66), .ref (a 67)])), ((a 66), .inl (D.1 13, 8, .inl (fun _ => (-2)))), ((a 67), .inl (D.1 13, 8, .inl (fun _ => (-2)))), ((a 5), .inr (4, [.ref (a 30), .int (nI (3 + 2 * i_6)), .int 0, .ref (a 31), .ref (a 32), .ref (a 33)])), ((a 30), .inl (D.1 13, 1364, .inl f_7))] := hD
  have hl : lv_has ls 3 [(2, .int (nI i_6)), (0, .ref (a 5)), (1, .ref (a 13))] := hl
  refine lv_iload_n hx hb dX4_draw_29 rfl (lv_at hl 0 rfl) ?_
  refine lv_bipush (v := 8) hx hb dX4_draw_30 (by decide) ?_
  refine lv_icmp_ge (tgt := 67) hx hb dX4_draw_32 (by decide) (fun c_8 => ?_) (fun c_8 => ?_)
  · have g_9 : 8 ≤ ((i_6 : Nat) : Int) := z_le (by decide) (nI_toInt (by omega)) c_8
    obtain rfl : i_6 = 8 := by omega
    have hP : va_P D vwCl [((a 13), .inr (8, [.int 0, .int 0, .long 0, .ref (a 60), .ref (a 61), .ref (a 62), .ref (a 63), .ref (a 64), .ref (a 65), .ref (a 66), .ref (a 67)])), ((a 66), .inl (D.1 13, 8, .inl (fun _ => (-2)))), ((a 67), .inl (D.1 13, 8, .inl (fun _ => (-2)))), ((a 5), .inr (4, [.ref (a 30), .int 19, .int 0, .ref (a 31), .ref (a 32), .ref (a 33)])), ((a 30), .inl (D.1 13, 1364, .inl f_7))] H := hP
    have hD : va_D A [((a 13), .inr (8, [.int 0, .int 0, .long 0, .ref (a 60), .ref (a 61), .ref (a 62), .ref (a 63), .ref (a 64), .ref (a 65), .ref (a 66), .ref (a 67)])), ((a 66), .inl (D.1 13, 8, .inl (fun _ => (-2)))), ((a 67), .inl (D.1 13, 8, .inl (fun _ => (-2)))), ((a 5), .inr (4, [.ref (a 30), .int 19, .int 0, .ref (a 31), .ref (a 32), .ref (a 33)])), ((a 30), .inl (D.1 13, 1364, .inl f_7))] := hD
    have hl : lv_has ls 3 [(2, .int 8), (0, .ref (a 5)), (1, .ref (a 13))] := hl
    refine lv_iconst (v := 0) hx hb dX4_draw_67 (by decide) ?_
    refine lv_istore_n (lv' := [(2, .int 0), (0, .ref (a 5)), (1, .ref (a 13))]) hx hb dX4_draw_68 rfl hl (by decide) rfl (fun ls hl => ?_)
    refine lv_iload_n hx hb dX4_draw_69 rfl (lv_at hl 0 rfl) ?_
    refine lv_aload_n hx hb dX4_draw_70 rfl (lv_at hl 2 rfl) ?_
    refine va_get (D := D) (ci := 8) (v := .int 0) (C := RX8) (T := TX8) (N := 11) hx hb ht inX8 hown hK hP 0 rfl rfl 0 (by decide) (ht (.fieldLink RX4 51 "CloneVolumes$State" "blocks" "I") fl_X4_51) (fun _ h9 => h9) rfl dX4_draw_71 ?_
    refine lv_icmp_ge (tgt := 117) hx hb dX4_draw_74 (by decide) (fun _ => ?_) (fun c_10 => (z_abs c_10 (by decide)).elim)
    refine lv_aload_n hx hb dX4_draw_117 rfl (lv_at hl 1 rfl) ?_
    refine va_get (D := D) (ci := 4) (v := .ref (a 30)) (C := RX4) (T := TX4) (N := 6) hx hb ht inX4 hown hK hP 3 rfl rfl 0 (by decide) (ht (.fieldLink RX4 11 "CloneVolumes$Picture" "bytes" "[I") fl_X4_11) (fun _ h9 => h9) rfl dX4_draw_118 ?_
    refine lv_aload_n hx hb dX4_draw_121 rfl (lv_at hl 1 rfl) ?_
    refine va_get (D := D) (ci := 4) (v := .int 19) (C := RX4) (T := TX4) (N := 6) hx hb ht inX4 hown hK hP 3 rfl rfl 1 (by decide) (ht (.fieldLink RX4 24 "CloneVolumes$Picture" "size" "I") fl_X4_24) (fun _ h9 => h9) rfl dX4_draw_122 ?_
    refine zcS (As := [.ref (a 30), .int 19]) (rest := []) (n := 2) ⟨hx, hb, hml, hown, ht⟩ (k_X4_seal l D a f_7) (zgT ml_X4_68 st_X4_seal in_X4 co_X4_seal) rfl rfl (by decide +kernel) ⟨Nat.le_of_ble_eq_true rfl, Nat.le_of_ble_eq_true rfl⟩ hK hP hS [4] rfl rfl hl.1 rfl (Nat.le_of_ble_eq_true rfl) dX4_draw_125 ⟨Nat.le_of_ble_eq_true rfl, Nat.le_of_ble_eq_true rfl⟩ (fun r_12 H locs hw hP hS => ?_)
    refine lv_istore_n (lv' := [(2, .int r_12), (0, .ref (a 5)), (1, .ref (a 13))]) hx hb dX4_draw_128 rfl hl (by decide) rfl (fun ls hl => ?_)
    refine lv_aload_n hx hb dX4_draw_129 rfl (lv_at hl 1 rfl) ?_
    refine lv_iload_n hx hb dX4_draw_130 rfl (lv_at hl 0 rfl) ?_
    refine zwVv (As := [.int r_12]) (rest := []) (C := RX4) (n := 1) (wr := [((a 13), .inr (8, [.int 0, .int 0, .long 0, .ref (a 60), .ref (a 61), .ref (a 62), .ref (a 63), .ref (a 64), .ref (a 65), .ref (a 66), .ref (a 67)])), ((a 66), .inl (D.1 13, 8, .inl (fun _ => (-2)))), ((a 67), .inl (D.1 13, 8, .inl (fun _ => (-2))))]) ⟨hx, hb, hml, hown, ht⟩ (k_X4_add l D _ a 19 (by first | decide | omega) f_7 r_12) (zgV ml_X4_33 im_X4_add se_X4_add in_X4 co_X4_add) rfl rfl (by decide +kernel) ⟨Nat.le_of_ble_eq_true rfl, Nat.le_of_ble_eq_true rfl⟩ hK hP hD hS hA [3, 4] [0, 1, 2] rfl rfl rfl rfl (by decide) 0 rfl rfl rfl rfl hl.1 rfl (Nat.le_of_ble_eq_true rfl) dX4_draw_131 ⟨Nat.le_of_ble_eq_true rfl, Nat.le_of_ble_eq_true rfl⟩ (fun u_13 H locs hw hP hD hS => ?_)
    have hP : va_P D vwCl [((a 13), .inr (8, [.int 0, .int 0, .long 0, .ref (a 60), .ref (a 61), .ref (a 62), .ref (a 63), .ref (a 64), .ref (a 65), .ref (a 66), .ref (a 67)])), ((a 66), .inl (D.1 13, 8, .inl (fun _ => (-2)))), ((a 67), .inl (D.1 13, 8, .inl (fun _ => (-2)))), ((a 5), .inr (4, [.ref (a 30), .int 20, .int 0, .ref (a 31), .ref (a 32), .ref (a 33)])), ((a 30), .inl (D.1 13, 1364, .inl u_13))] H := hP
    have hD : va_D A [((a 13), .inr (8, [.int 0, .int 0, .long 0, .ref (a 60), .ref (a 61), .ref (a 62), .ref (a 63), .ref (a 64), .ref (a 65), .ref (a 66), .ref (a 67)])), ((a 66), .inl (D.1 13, 8, .inl (fun _ => (-2)))), ((a 67), .inl (D.1 13, 8, .inl (fun _ => (-2)))), ((a 5), .inr (4, [.ref (a 30), .int 20, .int 0, .ref (a 31), .ref (a 32), .ref (a 33)])), ((a 30), .inl (D.1 13, 1364, .inl u_13))] := hD
    refine lv_aload_n hx hb dX4_draw_134 rfl (lv_at hl 1 rfl) ?_
    refine va_get (D := D) (ci := 4) (v := .int 20) (C := RX4) (T := TX4) (N := 6) hx hb ht inX4 hown hK hP 3 rfl rfl 1 (by decide) (ht (.fieldLink RX4 24 "CloneVolumes$Picture" "size" "I") fl_X4_24) (fun _ h9 => h9) rfl dX4_draw_135 ?_
    have hP9 := hP.sub (ws' := []) [] rfl
    have hD9 := hD.sub (ws' := []) [] (by decide) rfl
    refine W.widen (k := 0) (n := 0) (Nat.le_of_ble_eq_true rfl) (Nat.le_of_ble_eq_true rfl) ?_
    exact W.iret (v := 20) hx hb hr (fun t ht hW => ⟨⟨20, (), rfl, rfl, by rw [ht]; exact hP9, va_K.moved hW.alike hK, hD9⟩, hS.F ht⟩) hS.2.2 dX4_draw_138
  · have g_9 : ((i_6 : Nat) : Int) < 8 := z_nle (by decide) (nI_toInt (by omega)) c_8
    refine lv_aload_n hx hb dX4_draw_35 rfl (lv_at hl 1 rfl) ?_
    refine lv_aload_n hx hb dX4_draw_36 rfl (lv_at hl 2 rfl) ?_
    refine va_get (D := D) (ci := 8) (v := .ref (a 66)) (C := RX8) (T := TX8) (N := 11) hx hb ht inX8 hown hK hP 0 rfl rfl 9 (by decide) (ht (.fieldLink RX4 41 "CloneVolumes$State" "roots" "[I") fl_X4_41) (fun _ h9 => h9) rfl dX4_draw_37 ?_
    refine lv_iload_n hx hb dX4_draw_40 rfl (lv_at hl 0 rfl) ?_
    refine va_iald hx hb hK hP 1 0 rfl rfl (vp_in_nI (by omega) (by omega)) dX4_draw_41 ?_
    refine z_topi (y := (-2)) (by decide) ?_
    refine zcS (As := [.int (-2)]) (rest := [.ref (a 5)]) (n := 1) ⟨hx, hb, hml, hown, ht⟩ (k_X4_rootByte l D (-2)) (zgT ml_X4_44 st_X4_rootByte in_X4 co_X4_rootByte) rfl rfl (by decide +kernel) ⟨Nat.le_of_ble_eq_true rfl, Nat.le_of_ble_eq_true rfl⟩ hK hP hS [] rfl rfl hl.1 rfl (Nat.le_of_ble_eq_true rfl) dX4_draw_42 ⟨Nat.le_of_ble_eq_true rfl, Nat.le_of_ble_eq_true rfl⟩ (fun r_15 H locs hw hP hS => ?_)
    rcases hw with ⟨rfl, g_16, g_17⟩ | ⟨rfl, g_18, g_19⟩ | ⟨rfl, g_20⟩
    · skip
      have g_16 : ¬ ((-2) : Int) = (-2) := zt_ne (by decide) (by decide) g_16
      have g_17 : ¬ ((-2) : Int) = (-1) := zt_ne (by decide) (by decide) g_17
      exfalso; omega
    · skip
      have g_18 : ¬ ((-2) : Int) = (-2) := zt_ne (by decide) (by decide) g_18
      have g_19 : ((-2) : Int) = (-1) := zt_eq (by decide) (by decide) g_19
      exfalso; omega
    · skip
      have g_20 : ((-2) : Int) = (-2) := zt_eq (by decide) (by decide) g_20
      refine zwVv (As := [.int 255]) (rest := []) (C := RX4) (n := 1) (wr := [((a 13), .inr (8, [.int 0, .int 0, .long 0, .ref (a 60), .ref (a 61), .ref (a 62), .ref (a 63), .ref (a 64), .ref (a 65), .ref (a 66), .ref (a 67)])), ((a 66), .inl (D.1 13, 8, .inl (fun _ => (-2)))), ((a 67), .inl (D.1 13, 8, .inl (fun _ => (-2))))]) ⟨hx, hb, hml, hown, ht⟩ (k_X4_add l D _ a (3 + 2 * i_6) (by first | decide | omega) f_7 255) (zgV ml_X4_33 im_X4_add se_X4_add in_X4 co_X4_add) rfl rfl (by decide +kernel) ⟨Nat.le_of_ble_eq_true rfl, Nat.le_of_ble_eq_true rfl⟩ hK hP hD hS hA [3, 4] [0, 1, 2] rfl rfl rfl rfl (by decide) 0 rfl rfl rfl rfl hl.1 rfl (Nat.le_of_ble_eq_true rfl) dX4_draw_45 ⟨Nat.le_of_ble_eq_true rfl, Nat.le_of_ble_eq_true rfl⟩ (fun u_21 H locs hw hP hD hS => ?_)
      have hP : va_P D vwCl [((a 13), .inr (8, [.int 0, .int 0, .long 0, .ref (a 60), .ref (a 61), .ref (a 62), .ref (a 63), .ref (a 64), .ref (a 65), .ref (a 66), .ref (a 67)])), ((a 66), .inl (D.1 13, 8, .inl (fun _ => (-2)))), ((a 67), .inl (D.1 13, 8, .inl (fun _ => (-2)))), ((a 5), .inr (4, [.ref (a 30), .int (nI ((3 + 2 * i_6) + 1)), .int 0, .ref (a 31), .ref (a 32), .ref (a 33)])), ((a 30), .inl (D.1 13, 1364, .inl u_21))] H := hP
      have hD : va_D A [((a 13), .inr (8, [.int 0, .int 0, .long 0, .ref (a 60), .ref (a 61), .ref (a 62), .ref (a 63), .ref (a 64), .ref (a 65), .ref (a 66), .ref (a 67)])), ((a 66), .inl (D.1 13, 8, .inl (fun _ => (-2)))), ((a 67), .inl (D.1 13, 8, .inl (fun _ => (-2)))), ((a 5), .inr (4, [.ref (a 30), .int (nI ((3 + 2 * i_6) + 1)), .int 0, .ref (a 31), .ref (a 32), .ref (a 33)])), ((a 30), .inl (D.1 13, 1364, .inl u_21))] := hD
      refine lv_aload_n hx hb dX4_draw_48 rfl (lv_at hl 1 rfl) ?_
      refine lv_aload_n hx hb dX4_draw_49 rfl (lv_at hl 2 rfl) ?_
      refine va_get (D := D) (ci := 8) (v := .ref (a 67)) (C := RX8) (T := TX8) (N := 11) hx hb ht inX8 hown hK hP 0 rfl rfl 10 (by decide) (ht (.fieldLink RX4 48 "CloneVolumes$State" "savedRoots" "[I") fl_X4_48) (fun _ h9 => h9) rfl dX4_draw_50 ?_
      refine lv_iload_n hx hb dX4_draw_53 rfl (lv_at hl 0 rfl) ?_
      refine va_iald hx hb hK hP 2 0 rfl rfl (vp_in_nI (by omega) (by omega)) dX4_draw_54 ?_
      refine z_topi (y := (-2)) (by decide) ?_
      refine zcS (As := [.int (-2)]) (rest := [.ref (a 5)]) (n := 1) ⟨hx, hb, hml, hown, ht⟩ (k_X4_rootByte l D (-2)) (zgT ml_X4_44 st_X4_rootByte in_X4 co_X4_rootByte) rfl rfl (by decide +kernel) ⟨Nat.le_of_ble_eq_true rfl, Nat.le_of_ble_eq_true rfl⟩ hK hP hS [] rfl rfl hl.1 rfl (Nat.le_of_ble_eq_true rfl) dX4_draw_55 ⟨Nat.le_of_ble_eq_true rfl, Nat.le_of_ble_eq_true rfl⟩ (fun r_23 H locs hw hP hS => ?_)
      rcases hw with ⟨rfl, g_24, g_25⟩ | ⟨rfl, g_26, g_27⟩ | ⟨rfl, g_28⟩
      · skip
        have g_24 : ¬ ((-2) : Int) = (-2) := zt_ne (by decide) (by decide) g_24
        have g_25 : ¬ ((-2) : Int) = (-1) := zt_ne (by decide) (by decide) g_25
        exfalso; omega
      · skip
        have g_26 : ¬ ((-2) : Int) = (-2) := zt_ne (by decide) (by decide) g_26
        have g_27 : ((-2) : Int) = (-1) := zt_eq (by decide) (by decide) g_27
        exfalso; omega
      · skip
        have g_28 : ((-2) : Int) = (-2) := zt_eq (by decide) (by decide) g_28
        refine zwVv (As := [.int 255]) (rest := []) (C := RX4) (n := 1) (wr := [((a 13), .inr (8, [.int 0, .int 0, .long 0, .ref (a 60), .ref (a 61), .ref (a 62), .ref (a 63), .ref (a 64), .ref (a 65), .ref (a 66), .ref (a 67)])), ((a 66), .inl (D.1 13, 8, .inl (fun _ => (-2)))), ((a 67), .inl (D.1 13, 8, .inl (fun _ => (-2))))]) ⟨hx, hb, hml, hown, ht⟩ (k_X4_add l D _ a ((3 + 2 * i_6) + 1) (by first | decide | omega) u_21 255) (zgV ml_X4_33 im_X4_add se_X4_add in_X4 co_X4_add) rfl rfl (by decide +kernel) ⟨Nat.le_of_ble_eq_true rfl, Nat.le_of_ble_eq_true rfl⟩ hK hP hD hS hA [3, 4] [0, 1, 2] rfl rfl rfl rfl (by decide) 0 rfl rfl rfl rfl hl.1 rfl (Nat.le_of_ble_eq_true rfl) dX4_draw_58 ⟨Nat.le_of_ble_eq_true rfl, Nat.le_of_ble_eq_true rfl⟩ (fun u_29 H locs hw hP hD hS => ?_)
        have hP : va_P D vwCl [((a 13), .inr (8, [.int 0, .int 0, .long 0, .ref (a 60), .ref (a 61), .ref (a 62), .ref (a 63), .ref (a 64), .ref (a 65), .ref (a 66), .ref (a 67)])), ((a 66), .inl (D.1 13, 8, .inl (fun _ => (-2)))), ((a 67), .inl (D.1 13, 8, .inl (fun _ => (-2)))), ((a 5), .inr (4, [.ref (a 30), .int (nI (((3 + 2 * i_6) + 1) + 1)), .int 0, .ref (a 31), .ref (a 32), .ref (a 33)])), ((a 30), .inl (D.1 13, 1364, .inl u_29))] H := hP
        have hD : va_D A [((a 13), .inr (8, [.int 0, .int 0, .long 0, .ref (a 60), .ref (a 61), .ref (a 62), .ref (a 63), .ref (a 64), .ref (a 65), .ref (a 66), .ref (a 67)])), ((a 66), .inl (D.1 13, 8, .inl (fun _ => (-2)))), ((a 67), .inl (D.1 13, 8, .inl (fun _ => (-2)))), ((a 5), .inr (4, [.ref (a 30), .int (nI (((3 + 2 * i_6) + 1) + 1)), .int 0, .ref (a 31), .ref (a 32), .ref (a 33)])), ((a 30), .inl (D.1 13, 1364, .inl u_29))] := hD
        refine lv_iinc (v := nI (i_6 + 1)) (lv' := [(2, .int (nI (i_6 + 1))), (0, .ref (a 5)), (1, .ref (a 13))]) hx hb dX4_draw_61 hl (k := 0) rfl (z_inc _) (by decide) rfl (fun ls hl => ?_)
        refine lv_goto (tgt := 29) hx hb dX4_draw_64 (by decide) ?_
        rw [show ((3 + 2 * i_6) + 1) + 1 = 3 + 2 * (i_6 + 1) by omega] at hP hD
        exact ih_29 u_29 _ _ _ (by omega) ⟨hP.sub [0, 1, 2, 3, 4] rfl, hD.sub [0, 1, 2, 3, 4] (by decide) rfl, hS, lv_sub hl [0, 1, 2] rfl⟩
set_option maxHeartbeats 4000000 in
set_option maxRecDepth 100000 in
theorem k_X11_image (l : Launch) (D : va_G) (sz : Nat) (a : Nat → Nat)  : Met l yX11_image (wz yX11_image cX11_image 1 (some .int)) { frames := 3, cells := 0, slots := 0, locals := 180 } (va_Pc [.ref (a 0)] (zW D sz [((a 0), .inr (11, [.ref (a 1), .ref (a 2), .ref (a 3), .ref (a 4), .ref (a 5), .ref (a 6), .ref (a 7), .ref (a 8), .ref (a 9), .ref (a 10), .ref (a 11), .ref (a 12), .int 0])), ((a 5), .inr (4, [.ref (a 30), .int 0, .int 0, .ref (a 31), .ref (a 32), .ref (a 33)])), ((a 30), .inl (D.1 13, 1364, .inl (fun _ => 0))), ((a 12), .inr (1, [.ref (a 13), .ref (a 14), .ref (a 15), .int 1, .ref (a 10), .ref (a 16), .ref (a 17), .ref (a 18), .ref (a 19)])), ((a 13), .inr (8, [.int 0, .int 0, .long 0, .ref (a 60), .ref (a 61), .ref (a 62), .ref (a 63), .ref (a 64), .ref (a 65), .ref (a 66), .ref (a 67)])), ((a 66), .inl (D.1 13, 8, .inl (fun _ => (-2)))), ((a 67), .inl (D.1 13, 8, .inl (fun _ => (-2))))])) (va_Qi (fun r (_ : Unit) => r = 20) (fun u t => zB D (va_A [((a 0), .inr (11, [.ref (a 1), .ref (a 2), .ref (a 3), .ref (a 4), .ref (a 5), .ref (a 6), .ref (a 7), .ref (a 8), .ref (a 9), .ref (a 10), .ref (a 11), .ref (a 12), .int 0])), ((a 5), .inr (4, [.ref (a 30), .int 0, .int 0, .ref (a 31), .ref (a 32), .ref (a 33)])), ((a 30), .inl (D.1 13, 1364, .inl (fun _ => 0))), ((a 12), .inr (1, [.ref (a 13), .ref (a 14), .ref (a 15), .int 1, .ref (a 10), .ref (a 16), .ref (a 17), .ref (a 18), .ref (a 19)])), ((a 13), .inr (8, [.int 0, .int 0, .long 0, .ref (a 60), .ref (a 61), .ref (a 62), .ref (a 63), .ref (a 64), .ref (a 65), .ref (a 66), .ref (a 67)])), ((a 66), .inl (D.1 13, 8, .inl (fun _ => (-2)))), ((a 67), .inl (D.1 13, 8, .inl (fun _ => (-2))))] sz) ((fun (_ : Unit) => []) u) t) (va_A [((a 0), .inr (11, [.ref (a 1), .ref (a 2), .ref (a 3), .ref (a 4), .ref (a 5), .ref (a 6), .ref (a 7), .ref (a 8), .ref (a 9), .ref (a 10), .ref (a 11), .ref (a 12), .int 0])), ((a 5), .inr (4, [.ref (a 30), .int 0, .int 0, .ref (a 31), .ref (a 32), .ref (a 33)])), ((a 30), .inl (D.1 13, 1364, .inl (fun _ => 0))), ((a 12), .inr (1, [.ref (a 13), .ref (a 14), .ref (a 15), .int 1, .ref (a 10), .ref (a 16), .ref (a 17), .ref (a 18), .ref (a 19)])), ((a 13), .inr (8, [.int 0, .int 0, .long 0, .ref (a 60), .ref (a 61), .ref (a 62), .ref (a 63), .ref (a 64), .ref (a 65), .ref (a 66), .ref (a 67)])), ((a 66), .inl (D.1 13, 8, .inl (fun _ => (-2)))), ((a 67), .inl (D.1 13, 8, .inl (fun _ => (-2))))] sz)) 0 0 (va_A [((a 0), .inr (11, [.ref (a 1), .ref (a 2), .ref (a 3), .ref (a 4), .ref (a 5), .ref (a 6), .ref (a 7), .ref (a 8), .ref (a 9), .ref (a 10), .ref (a 11), .ref (a 12), .int 0])), ((a 5), .inr (4, [.ref (a 30), .int 0, .int 0, .ref (a 31), .ref (a 32), .ref (a 33)])), ((a 30), .inl (D.1 13, 1364, .inl (fun _ => 0))), ((a 12), .inr (1, [.ref (a 13), .ref (a 14), .ref (a 15), .int 1, .ref (a 10), .ref (a 16), .ref (a 17), .ref (a 18), .ref (a 19)])), ((a 13), .inr (8, [.int 0, .int 0, .long 0, .ref (a 60), .ref (a 61), .ref (a 62), .ref (a 63), .ref (a 64), .ref (a 65), .ref (a 66), .ref (a 67)])), ((a 66), .inl (D.1 13, 8, .inl (fun _ => (-2)))), ((a 67), .inl (D.1 13, 8, .inl (fun _ => (-2))))] sz) := by
  refine Met.ofW (cc := cX11_image) (maxL := 1) (ret := (some .int)) (by decide) rfl ?_
  intro p e s m args below meth c s₁ B hml hv
  obtain ⟨rfl, hsz, hP, hK, hD0⟩ := hv
  have hx := B.exec
  have hb := B.bytes
  have hr := B.returns
  have hts := atoms_spec (ws := wz yX11_image cX11_image 1 (some .int)) B.pre
  have ht : ∀ w ∈ lw_gd, w.before _ s = true := fun w h => hts w (List.mem_cons_of_mem _ h)
  have hown : s.vm.findClass RX11 = some m.cls := findClass_of_methodNamed B.named
  have hlocks := B.notSynchronized
  subst hsz
  have hD := hD0.self (sz := s.heap.size)
  generalize hAe : va_A [((a 0), .inr (11, [.ref (a 1), .ref (a 2), .ref (a 3), .ref (a 4), .ref (a 5), .ref (a 6), .ref (a 7), .ref (a 8), .ref (a 9), .ref (a 10), .ref (a 11), .ref (a 12), .int 0])), ((a 5), .inr (4, [.ref (a 30), .int 0, .int 0, .ref (a 31), .ref (a 32), .ref (a 33)])), ((a 30), .inl (D.1 13, 1364, .inl (fun _ => 0))), ((a 12), .inr (1, [.ref (a 13), .ref (a 14), .ref (a 15), .int 1, .ref (a 10), .ref (a 16), .ref (a 17), .ref (a 18), .ref (a 19)])), ((a 13), .inr (8, [.int 0, .int 0, .long 0, .ref (a 60), .ref (a 61), .ref (a 62), .ref (a 63), .ref (a 64), .ref (a 65), .ref (a 66), .ref (a 67)])), ((a 66), .inl (D.1 13, 8, .inl (fun _ => (-2)))), ((a 67), .inl (D.1 13, 8, .inl (fun _ => (-2))))] s.heap.size = A at hD ⊢
  have hA : ∀ q : Nat, s.heap.size ≤ q → A q := fun q h => by rw [← hAe]; exact Or.inr h
  have hS : va_S A s.heap s.heap [] := va_S.rf
  have hl := lv_entry ([.ref (a 0)]) (n := 1) (Nat.le_of_ble_eq_true rfl)
  rw [lg_entry_eq]
  generalize (lg_sl ([.ref (a 0)]) ++ List.replicate (1 - (lg_sl ([.ref (a 0)])).length) Slot.unset).toArray = ls at hl ⊢
  have hl : lv_has ls 1 [(0, .ref (a 0))] := hl
  refine lv_aload_n hx hb dX11_image_0 rfl (lv_at hl 0 rfl) ?_
  refine va_get (D := D) (ci := 11) (v := .ref (a 5)) (C := RX11) (T := TX11) (N := 13) hx hb ht inX11 hown hK hP 0 rfl rfl 4 (by decide) (ht (.fieldLink RX11 42 "CloneVolumes" "picture" "LCloneVolumes$Picture;") fl_X11_42) (fun _ h9 => h9) rfl dX11_image_1 ?_
  refine lv_aload_n hx hb dX11_image_4 rfl (lv_at hl 0 rfl) ?_
  refine va_get (D := D) (ci := 11) (v := .ref (a 12)) (C := RX11) (T := TX11) (N := 13) hx hb ht inX11 hown hK hP 0 rfl rfl 11 (by decide) (ht (.fieldLink RX11 79 "CloneVolumes" "forest" "LCloneVolumes$Forest;") fl_X11_79) (fun _ h9 => h9) rfl dX11_image_5 ?_
  refine va_get (D := D) (ci := 1) (v := .ref (a 13)) (C := RX1) (T := TX1) (N := 9) hx hb ht inX1 hown hK hP 3 rfl rfl 0 (by decide) (ht (.fieldLink RX11 125 "CloneVolumes$Forest" "now" "LCloneVolumes$State;") fl_X11_125) (fun _ h9 => h9) rfl dX11_image_8 ?_
  refine zwV (As := [.ref (a 13)]) (rest := []) (C := RX4) (n := 1) (wr := [((a 0), .inr (11, [.ref (a 1), .ref (a 2), .ref (a 3), .ref (a 4), .ref (a 5), .ref (a 6), .ref (a 7), .ref (a 8), .ref (a 9), .ref (a 10), .ref (a 11), .ref (a 12), .int 0])), ((a 12), .inr (1, [.ref (a 13), .ref (a 14), .ref (a 15), .int 1, .ref (a 10), .ref (a 16), .ref (a 17), .ref (a 18), .ref (a 19)]))]) ⟨hx, hb, hml, hown, ht⟩ (k_X4_draw l D _ a) (zgV ml_X11_336 im_X4_draw se_X4_draw in_X4 co_X4_draw) rfl rfl (by decide +kernel) ⟨Nat.le_of_ble_eq_true rfl, Nat.le_of_ble_eq_true rfl⟩ hK hP hD hS hA [1, 2, 4, 5, 6] [0, 3] rfl rfl rfl rfl (by decide) 0 rfl rfl rfl rfl hl.1 rfl (Nat.le_of_ble_eq_true rfl) dX11_image_11 ⟨Nat.le_of_ble_eq_true rfl, Nat.le_of_ble_eq_true rfl⟩ (fun r_2 u_1 H locs hw hP hD hS => ?_)
  have hP : va_P D vwCl [((a 0), .inr (11, [.ref (a 1), .ref (a 2), .ref (a 3), .ref (a 4), .ref (a 5), .ref (a 6), .ref (a 7), .ref (a 8), .ref (a 9), .ref (a 10), .ref (a 11), .ref (a 12), .int 0])), ((a 12), .inr (1, [.ref (a 13), .ref (a 14), .ref (a 15), .int 1, .ref (a 10), .ref (a 16), .ref (a 17), .ref (a 18), .ref (a 19)]))] H := hP
  have hD : va_D A [((a 0), .inr (11, [.ref (a 1), .ref (a 2), .ref (a 3), .ref (a 4), .ref (a 5), .ref (a 6), .ref (a 7), .ref (a 8), .ref (a 9), .ref (a 10), .ref (a 11), .ref (a 12), .int 0])), ((a 12), .inr (1, [.ref (a 13), .ref (a 14), .ref (a 15), .int 1, .ref (a 10), .ref (a 16), .ref (a 17), .ref (a 18), .ref (a 19)]))] := hD
  subst hw
  have hP9 := hP.sub (ws' := []) [] rfl
  have hD9 := hD.sub (ws' := []) [] (by decide) rfl
  refine W.widen (k := 0) (n := 0) (Nat.le_of_ble_eq_true rfl) (Nat.le_of_ble_eq_true rfl) ?_
  exact W.iret (v := 20) hx hb hr (fun t ht hW => ⟨⟨20, (), rfl, rfl, by rw [ht]; exact hP9, va_K.moved hW.alike hK, hD9⟩, hS.F ht⟩) hS.2.2 dX11_image_14
