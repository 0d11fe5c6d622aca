theorem ac_char : Cond.arrayClass .char ∈ lw_gd := zm (lw_g_1 (List.mem_of_getElem? (i := 141) (by decide +kernel))) rfl
theorem ac_int : Cond.arrayClass .int ∈ lw_gd := zm (lw_g_1 (List.mem_of_getElem? (i := 48) (by decide +kernel))) rfl
theorem co_J0_isLatin1_aae02 : Cond.code yJ0_isLatin1_aae02 cJ0_isLatin1_aae02 1 (some .boolean) ∈ lw_gd := zm (lw_g_1 (List.mem_of_getElem? (i := 63) (by decide +kernel))) rfl
theorem co_J1_inflate_03870 : Cond.code yJ1_inflate_03870 cJ1_inflate_03870 6 none ∈ lw_gd := zm (lw_g_1 (List.mem_of_getElem? (i := 71) (by decide +kernel))) rfl
theorem co_J1_toChars_9d188 : Cond.code yJ1_toChars_9d188 cJ1_toChars_9d188 2 (some (.array .char)) ∈ lw_gd := zm (lw_g_1 (List.mem_of_getElem? (i := 68) (by decide +kernel))) rfl
theorem co_obj : Cond.code objectInit ⟨#[0xb1]⟩ 1 none ∈ lw_gd := zm (lw_g_1 (List.mem_of_getElem? (i := 28) (by decide +kernel))) rfl
theorem cx_X2_21 : Cond.classLink RX2 21 RX8 ∈ lw_gd := zm (lw_g_1 (List.mem_of_getElem? (i := 148) (by decide +kernel))) rfl
theorem fl_J0_15 : Cond.fieldLink RJ0 15 "java/lang/String" "coder" "B" ∈ lw_gd := zm (lw_g_11 (List.mem_of_getElem? (i := 6) (by decide +kernel))) rfl
theorem fl_J0_38 : Cond.fieldLink RJ0 38 "java/lang/String" "COMPACT_STRINGS" "Z" ∈ lw_gd := zm (lw_g_1 (List.mem_of_getElem? (i := 64) (by decide +kernel))) rfl
theorem fl_J0_9 : Cond.fieldLink RJ0 9 "java/lang/String" "value" "[B" ∈ lw_gd := zm (lw_g_11 (List.mem_of_getElem? (i := 7) (by decide +kernel))) rfl
theorem fl_X0_9 : Cond.fieldLink RX0 9 "CloneVolumes$Code" "steps" "[I" ∈ lw_gd := zm (lw_g_2 (List.mem_of_getElem? (i := 17) (by decide +kernel))) rfl
theorem fl_X10_15 : Cond.fieldLink RX10 15 "CloneVolumes$Walk" "keys" "[I" ∈ lw_gd := zm (lw_g_1 (List.mem_of_getElem? (i := 232) (by decide +kernel))) rfl
theorem fl_X10_18 : Cond.fieldLink RX10 18 "CloneVolumes$Walk" "values" "[I" ∈ lw_gd := zm (lw_g_1 (List.mem_of_getElem? (i := 234) (by decide +kernel))) rfl
theorem fl_X10_9 : Cond.fieldLink RX10 9 "CloneVolumes$Walk" "row" "[I" ∈ lw_gd := zm (lw_g_1 (List.mem_of_getElem? (i := 230) (by decide +kernel))) rfl
theorem fl_X2_11 : Cond.fieldLink RX2 11 "CloneVolumes$History" "acts" "[I" ∈ lw_gd := zm (lw_g_1 (List.mem_of_getElem? (i := 150) (by decide +kernel))) rfl
theorem fl_X2_15 : Cond.fieldLink RX2 15 "CloneVolumes$History" "volumes" "[I" ∈ lw_gd := zm (lw_g_1 (List.mem_of_getElem? (i := 151) (by decide +kernel))) rfl
theorem fl_X2_18 : Cond.fieldLink RX2 18 "CloneVolumes$History" "wrote" "[I" ∈ lw_gd := zm (lw_g_1 (List.mem_of_getElem? (i := 152) (by decide +kernel))) rfl
theorem fl_X2_23 : Cond.fieldLink RX2 23 "CloneVolumes$History" "past" "[LCloneVolumes$State;" ∈ lw_gd := zm (lw_g_1 (List.mem_of_getElem? (i := 154) (by decide +kernel))) rfl
theorem fl_X4_11 : Cond.fieldLink RX4 11 "CloneVolumes$Picture" "bytes" "[I" ∈ lw_gd := zm (lw_g_1 (List.mem_of_getElem? (i := 203) (by decide +kernel))) rfl
theorem fl_X4_15 : Cond.fieldLink RX4 15 "CloneVolumes$Picture" "lowest" "[I" ∈ lw_gd := zm (lw_g_1 (List.mem_of_getElem? (i := 208) (by decide +kernel))) rfl
theorem fl_X4_18 : Cond.fieldLink RX4 18 "CloneVolumes$Picture" "highest" "[I" ∈ lw_gd := zm (lw_g_1 (List.mem_of_getElem? (i := 209) (by decide +kernel))) rfl
theorem fl_X4_21 : Cond.fieldLink RX4 21 "CloneVolumes$Picture" "refs" "[I" ∈ lw_gd := zm (lw_g_1 (List.mem_of_getElem? (i := 210) (by decide +kernel))) rfl
theorem fl_X7_15 : Cond.fieldLink RX7 15 "CloneVolumes$Sight" "values" "[I" ∈ lw_gd := zm (lw_g_1 (List.mem_of_getElem? (i := 179) (by decide +kernel))) rfl
theorem fl_X7_18 : Cond.fieldLink RX7 18 "CloneVolumes$Sight" "fit" "[I" ∈ lw_gd := zm (lw_g_1 (List.mem_of_getElem? (i := 180) (by decide +kernel))) rfl
theorem fl_X7_21 : Cond.fieldLink RX7 21 "CloneVolumes$Sight" "readings" "[I" ∈ lw_gd := zm (lw_g_1 (List.mem_of_getElem? (i := 183) (by decide +kernel))) rfl
theorem fl_X7_9 : Cond.fieldLink RX7 9 "CloneVolumes$Sight" "keys" "[I" ∈ lw_gd := zm (lw_g_1 (List.mem_of_getElem? (i := 178) (by decide +kernel))) rfl
theorem fl_X9_9 : Cond.fieldLink RX9 9 "CloneVolumes$Tape" "bytes" "[I" ∈ lw_gd := zm (lw_g_1 (List.mem_of_getElem? (i := 35) (by decide +kernel))) rfl
theorem im_J0_isLatin1_aae02 : Cond.instanceMethod yJ0_isLatin1_aae02 ∈ lw_gd := zm (lw_g_1 (List.mem_of_getElem? (i := 61) (by decide +kernel))) rfl
theorem im_obj : Cond.instanceMethod objectInit ∈ lw_gd := zm (lw_g_1 (List.mem_of_getElem? (i := 27) (by decide +kernel))) rfl
theorem in_J0 : Cond.initialized RJ0 ∈ lw_gd := zm (lw_g_1 (List.mem_of_getElem? (i := 4) (by decide +kernel))) rfl
theorem in_J1 : Cond.initialized RJ1 ∈ lw_gd := zm (lw_g_1 (List.mem_of_getElem? (i := 5) (by decide +kernel))) rfl
theorem ml_J0_299 : Cond.methodLink RJ0 299 yJ1_toChars_9d188 ∈ lw_gd := zm (lw_g_1 (List.mem_of_getElem? (i := 66) (by decide +kernel))) rfl
theorem ml_J0_492 : Cond.methodLink RJ0 492 yJ0_isLatin1_aae02 ∈ lw_gd := zm (lw_g_1 (List.mem_of_getElem? (i := 60) (by decide +kernel))) rfl
theorem ml_J1_13 : Cond.methodLink RJ1 13 yJ1_inflate_03870 ∈ lw_gd := zm (lw_g_1 (List.mem_of_getElem? (i := 69) (by decide +kernel))) rfl
theorem ml_X0_3 : Cond.methodLink RX0 3 objectInit ∈ lw_gd := zm (lw_g_2 (List.mem_of_getElem? (i := 16) (by decide +kernel))) rfl
theorem ml_X10_3 : Cond.methodLink RX10 3 objectInit ∈ lw_gd := zm (lw_g_1 (List.mem_of_getElem? (i := 229) (by decide +kernel))) rfl
theorem ml_X2_3 : Cond.methodLink RX2 3 objectInit ∈ lw_gd := zm (lw_g_1 (List.mem_of_getElem? (i := 147) (by decide +kernel))) rfl
theorem ml_X4_3 : Cond.methodLink RX4 3 objectInit ∈ lw_gd := zm (lw_g_1 (List.mem_of_getElem? (i := 202) (by decide +kernel))) rfl
theorem ml_X7_3 : Cond.methodLink RX7 3 objectInit ∈ lw_gd := zm (lw_g_1 (List.mem_of_getElem? (i := 175) (by decide +kernel))) rfl
theorem ml_X9_3 : Cond.methodLink RX9 3 objectInit ∈ lw_gd := zm (lw_g_1 (List.mem_of_getElem? (i := 34) (by decide +kernel))) rfl
theorem se_J0_isLatin1_aae02 : Cond.selects RJ0 yJ0_isLatin1_aae02 yJ0_isLatin1_aae02 ∈ lw_gd := zm (lw_g_1 (List.mem_of_getElem? (i := 62) (by decide +kernel))) rfl
theorem st_J1_inflate_03870 : Cond.static yJ1_inflate_03870 ∈ lw_gd := zm (lw_g_1 (List.mem_of_getElem? (i := 70) (by decide +kernel))) rfl
theorem st_J1_toChars_9d188 : Cond.static yJ1_toChars_9d188 ∈ lw_gd := zm (lw_g_1 (List.mem_of_getElem? (i := 67) (by decide +kernel))) rfl
theorem eJ0_isLatin1_aae02_0 : decode cJ0_isLatin1_aae02 0 = .ok (.getstatic 38, 3) ∧ decode cJ0_isLatin1_aae02 3 = .ok (.ifCond .eq 14, 3) ∧ decode cJ0_isLatin1_aae02 6 = .ok (.aload_n 0, 1) ∧ decode cJ0_isLatin1_aae02 7 = .ok (.getfield 15, 3) ∧ decode cJ0_isLatin1_aae02 10 = .ok (.ifCond .ne 7, 3) ∧ decode cJ0_isLatin1_aae02 13 = .ok (.iconst 1, 1) ∧ decode cJ0_isLatin1_aae02 14 = .ok (.goto 4, 3) ∧ decode cJ0_isLatin1_aae02 18 = .ok (.ireturn, 1) := by decide +kernel
theorem eJ0_toCharArray_70df3_0 : decode cJ0_toCharArray_70df3 0 = .ok (.aload_n 0, 1) ∧ decode cJ0_toCharArray_70df3 1 = .ok (.invokevirtual 492, 3) ∧ decode cJ0_toCharArray_70df3 4 = .ok (.ifCond .eq 13, 3) ∧ decode cJ0_toCharArray_70df3 7 = .ok (.aload_n 0, 1) ∧ decode cJ0_toCharArray_70df3 8 = .ok (.getfield 9, 3) ∧ decode cJ0_toCharArray_70df3 11 = .ok (.invokestatic 299, 3) ∧ decode cJ0_toCharArray_70df3 14 = .ok (.goto 10, 3) ∧ decode cJ0_toCharArray_70df3 24 = .ok (.areturn, 1) := by decide +kernel
theorem eJ1_inflate_03870_0 : decode cJ1_inflate_03870 0 = .ok (.iconst 0, 1) ∧ decode cJ1_inflate_03870 1 = .ok (.istore 5, 2) ∧ decode cJ1_inflate_03870 3 = .ok (.iload 5, 2) ∧ decode cJ1_inflate_03870 5 = .ok (.iload 4, 2) ∧ decode cJ1_inflate_03870 7 = .ok (.if_icmp .ge 26, 3) ∧ decode cJ1_inflate_03870 10 = .ok (.aload_n 2, 1) ∧ decode cJ1_inflate_03870 11 = .ok (.iload_n 3, 1) ∧ decode cJ1_inflate_03870 12 = .ok (.iinc 3 1, 3) := by decide +kernel
theorem eJ1_inflate_03870_15 : decode cJ1_inflate_03870 15 = .ok (.aload_n 0, 1) ∧ decode cJ1_inflate_03870 16 = .ok (.iload_n 1, 1) ∧ decode cJ1_inflate_03870 17 = .ok (.iinc 1 1, 3) ∧ decode cJ1_inflate_03870 20 = .ok (.baload, 1) ∧ decode cJ1_inflate_03870 21 = .ok (.sipush 255, 3) ∧ decode cJ1_inflate_03870 24 = .ok (.iand, 1) ∧ decode cJ1_inflate_03870 25 = .ok (.i2c, 1) ∧ decode cJ1_inflate_03870 26 = .ok (.castore, 1) := by decide +kernel
theorem eJ1_inflate_03870_27 : decode cJ1_inflate_03870 27 = .ok (.iinc 5 1, 3) ∧ decode cJ1_inflate_03870 30 = .ok (.goto (-27), 3) ∧ decode cJ1_inflate_03870 33 = .ok (.return_, 1) ∧ decode cJ1_toChars_9d188 0 = .ok (.aload_n 0, 1) ∧ decode cJ1_toChars_9d188 1 = .ok (.arraylength, 1) ∧ decode cJ1_toChars_9d188 2 = .ok (.newarray .char, 2) ∧ decode cJ1_toChars_9d188 4 = .ok (.astore_n 1, 1) ∧ decode cJ1_toChars_9d188 5 = .ok (.aload_n 0, 1) := by decide +kernel
theorem eJ1_toChars_9d188_6 : decode cJ1_toChars_9d188 6 = .ok (.iconst 0, 1) ∧ decode cJ1_toChars_9d188 7 = .ok (.aload_n 1, 1) ∧ decode cJ1_toChars_9d188 8 = .ok (.iconst 0, 1) ∧ decode cJ1_toChars_9d188 9 = .ok (.aload_n 0, 1) ∧ decode cJ1_toChars_9d188 10 = .ok (.arraylength, 1) ∧ decode cJ1_toChars_9d188 11 = .ok (.invokestatic 13, 3) ∧ decode cJ1_toChars_9d188 14 = .ok (.aload_n 1, 1) ∧ decode cJ1_toChars_9d188 15 = .ok (.areturn, 1) := by decide +kernel
theorem eX0_init_0 : decode cX0_init 0 = .ok (.aload_n 0, 1) ∧ decode cX0_init 1 = .ok (.invokespecial 3, 3) ∧ decode cX0_init 4 = .ok (.aload_n 0, 1) ∧ decode cX0_init 5 = .ok (.sipush 1600, 3) ∧ decode cX0_init 8 = .ok (.newarray .int, 2) ∧ decode cX0_init 10 = .ok (.putfield 9, 3) ∧ decode cX0_init 13 = .ok (.return_, 1) ∧ decode cX10_init 0 = .ok (.aload_n 0, 1) := by decide +kernel
theorem eX10_init_1 : decode cX10_init 1 = .ok (.invokespecial 3, 3) ∧ decode cX10_init 4 = .ok (.aload_n 0, 1) ∧ decode cX10_init 5 = .ok (.bipush 48, 2) ∧ decode cX10_init 7 = .ok (.newarray .int, 2) ∧ decode cX10_init 9 = .ok (.putfield 9, 3) ∧ decode cX10_init 12 = .ok (.aload_n 0, 1) ∧ decode cX10_init 13 = .ok (.sipush 288, 3) ∧ decode cX10_init 16 = .ok (.newarray .int, 2) := by decide +kernel
theorem eX10_init_18 : decode cX10_init 18 = .ok (.putfield 15, 3) ∧ decode cX10_init 21 = .ok (.aload_n 0, 1) ∧ decode cX10_init 22 = .ok (.sipush 288, 3) ∧ decode cX10_init 25 = .ok (.newarray .int, 2) ∧ decode cX10_init 27 = .ok (.putfield 18, 3) ∧ decode cX10_init 30 = .ok (.return_, 1) ∧ decode cX2_init 0 = .ok (.aload_n 0, 1) ∧ decode cX2_init 1 = .ok (.invokespecial 3, 3) := by decide +kernel
theorem eX2_init_4 : decode cX2_init 4 = .ok (.aload_n 0, 1) ∧ decode cX2_init 5 = .ok (.bipush 60, 2) ∧ decode cX2_init 7 = .ok (.newarray .int, 2) ∧ decode cX2_init 9 = .ok (.putfield 11, 3) ∧ decode cX2_init 12 = .ok (.aload_n 0, 1) ∧ decode cX2_init 13 = .ok (.bipush 60, 2) ∧ decode cX2_init 15 = .ok (.newarray .int, 2) ∧ decode cX2_init 17 = .ok (.putfield 15, 3) := by decide +kernel
theorem eX2_init_20 : decode cX2_init 20 = .ok (.aload_n 0, 1) ∧ decode cX2_init 21 = .ok (.bipush 60, 2) ∧ decode cX2_init 23 = .ok (.newarray .int, 2) ∧ decode cX2_init 25 = .ok (.putfield 18, 3) ∧ decode cX2_init 28 = .ok (.aload_n 0, 1) ∧ decode cX2_init 29 = .ok (.bipush 20, 2) ∧ decode cX2_init 31 = .ok (.anewarray 21, 3) ∧ decode cX2_init 34 = .ok (.putfield 23, 3) := by decide +kernel
theorem eX2_init_37 : decode cX2_init 37 = .ok (.return_, 1) ∧ decode cX4_init 0 = .ok (.aload_n 0, 1) ∧ decode cX4_init 1 = .ok (.invokespecial 3, 3) ∧ decode cX4_init 4 = .ok (.aload_n 0, 1) ∧ decode cX4_init 5 = .ok (.sipush 1364, 3) ∧ decode cX4_init 8 = .ok (.newarray .int, 2) ∧ decode cX4_init 10 = .ok (.putfield 11, 3) ∧ decode cX4_init 13 = .ok (.aload_n 0, 1) := by decide +kernel
theorem eX4_init_14 : decode cX4_init 14 = .ok (.bipush 48, 2) ∧ decode cX4_init 16 = .ok (.newarray .int, 2) ∧ decode cX4_init 18 = .ok (.putfield 15, 3) ∧ decode cX4_init 21 = .ok (.aload_n 0, 1) ∧ decode cX4_init 22 = .ok (.bipush 48, 2) ∧ decode cX4_init 24 = .ok (.newarray .int, 2) ∧ decode cX4_init 26 = .ok (.putfield 18, 3) ∧ decode cX4_init 29 = .ok (.aload_n 0, 1) := by decide +kernel
theorem eX4_init_30 : decode cX4_init 30 = .ok (.bipush 48, 2) ∧ decode cX4_init 32 = .ok (.newarray .int, 2) ∧ decode cX4_init 34 = .ok (.putfield 21, 3) ∧ decode cX4_init 37 = .ok (.return_, 1) ∧ decode cX7_init 0 = .ok (.aload_n 0, 1) ∧ decode cX7_init 1 = .ok (.invokespecial 3, 3) ∧ decode cX7_init 4 = .ok (.aload_n 0, 1) ∧ decode cX7_init 5 = .ok (.bipush 12, 2) := by decide +kernel
theorem eX7_init_7 : decode cX7_init 7 = .ok (.newarray .int, 2) ∧ decode cX7_init 9 = .ok (.putfield 9, 3) ∧ decode cX7_init 12 = .ok (.aload_n 0, 1) ∧ decode cX7_init 13 = .ok (.bipush 12, 2) ∧ decode cX7_init 15 = .ok (.newarray .int, 2) ∧ decode cX7_init 17 = .ok (.putfield 15, 3) ∧ decode cX7_init 20 = .ok (.aload_n 0, 1) ∧ decode cX7_init 21 = .ok (.bipush 8, 2) := by decide +kernel
theorem eX7_init_23 : decode cX7_init 23 = .ok (.newarray .int, 2) ∧ decode cX7_init 25 = .ok (.putfield 18, 3) ∧ decode cX7_init 28 = .ok (.aload_n 0, 1) ∧ decode cX7_init 29 = .ok (.bipush 8, 2) ∧ decode cX7_init 31 = .ok (.newarray .int, 2) ∧ decode cX7_init 33 = .ok (.putfield 21, 3) ∧ decode cX7_init 36 = .ok (.return_, 1) ∧ decode cX9_init 0 = .ok (.aload_n 0, 1) := by decide +kernel
theorem eX9_init_1 : decode cX9_init 1 = .ok (.invokespecial 3, 3) ∧ decode cX9_init 4 = .ok (.aload_n 0, 1) ∧ decode cX9_init 5 = .ok (.sipush 1600, 3) ∧ decode cX9_init 8 = .ok (.newarray .int, 2) ∧ decode cX9_init 10 = .ok (.putfield 9, 3) ∧ decode cX9_init 13 = .ok (.return_, 1) := by decide +kernel
/-- a byte as a character -/
def zw (x : Int32) : Int32 := vp_nar .char ((x &&& 255).toUInt32 % 65536).toInt32
set_option maxHeartbeats 4000000 in
set_option maxRecDepth 100000 in
theorem kJ_isLatin1 (l : Launch) (b0 qS vS : Nat) (fS : Nat → Int32) : Met l yJ0_isLatin1_aae02 (wz yJ0_isLatin1_aae02 cJ0_isLatin1_aae02 1 (some .boolean)) { frames := 0, cells := 0, slots := 0, locals := 0 } (va_Pc [.ref qS] (EE b0 qS vS fS)) (va_Qi (fun r (_ : Unit) => r = 1) (fun _ _ => True) (fun _ => False)) 0 0 (fun _ => False) := by
  refine Met.ofW (cc := cJ0_isLatin1_aae02) (maxL := 1) (ret := (some .boolean)) (by decide) rfl ?_
  intro p e s m args below meth c s₁ B hml hv
  obtain ⟨rfl, hE⟩ := hv
  have hx := B.exec
  have hb := B.bytes
  have hr := B.returns
  have hts := atoms_spec (ws := wz yJ0_isLatin1_aae02 cJ0_isLatin1_aae02 1 (some .boolean)) B.pre
  have ht : ∀ w ∈ lw_gd, w.before _ s = true := fun w h => hts w (List.mem_cons_of_mem _ h)
  have hown : s.vm.findClass RJ0 = some m.cls := findClass_of_methodNamed B.named
  have hlocks := B.notSynchronized
  have hS : va_S (fun _ => False) s.heap s.heap [] := va_S.rf
  have hl := lv_entry ([.ref qS]) (n := 1) (Nat.le_of_ble_eq_true rfl)
  rw [lg_entry_eq]
  generalize (lg_sl ([.ref qS]) ++ List.replicate (1 - (lg_sl ([.ref qS])).length) Slot.unset).toArray = ls at hl ⊢
  have hl : lv_has ls 1 [(0, .ref qS)] := hl
  have hZ := hE.2.2.2.2.2.narrow (B := fun _ => False) (fun _ h => h.elim)
  have hC := hE.2.2.1.narrow (B := fun _ => False) (fun _ h => h.elim)
  refine va_gets (own := RJ0) (ref := "java/lang/String") hx hb hZ hS hown (ht _ fl_J0_38) (fun _ h => h) eJ0_isLatin1_aae02_0.1 ?_
  refine lv_if_eq (tgt := 17) hx hb eJ0_isLatin1_aae02_0.2.1 (by decide) (fun c_1 => (z_abs c_1 (by decide)).elim) (fun _ => ?_)
  refine lv_aload_n hx hb eJ0_isLatin1_aae02_0.2.2.1 rfl (lv_at hl 0 rfl) ?_
  refine vk_getf (own := RJ0) (ref := "java/lang/String") hx hb hC hS hown (ht _ fl_J0_15) (fun _ h => h) eJ0_isLatin1_aae02_0.2.2.2.1 ?_
  refine lv_if_ne (tgt := 17) hx hb eJ0_isLatin1_aae02_0.2.2.2.2.1 (by decide) (fun c_2 => (z_abs c_2 (by decide)).elim) (fun _ => ?_)
  refine lv_iconst (v := 1) hx hb eJ0_isLatin1_aae02_0.2.2.2.2.2.1 (by decide) ?_
  refine lv_goto (tgt := 18) hx hb eJ0_isLatin1_aae02_0.2.2.2.2.2.2.1 (by decide) ?_
  exact W.zret (v := 1) hx hb hr (by decide) (fun t ht hW => ⟨⟨1, (), rfl, rfl, trivial⟩, hS.F ht⟩) hS.2.2 eJ0_isLatin1_aae02_0.2.2.2.2.2.2.2
set_option maxHeartbeats 4000000 in
set_option maxRecDepth 100000 in
theorem kJ_inflate (l : Launch) (D : va_G) (sz b0 qS vS : Nat) (fS : Nat → Int32) (h0 : Nat) (f : Nat → Int32) (hB : ∀ q, va_A [(h0, .inl (D.1 14, 179, .inl f))] sz q → b0 ≤ q) : Met l yJ1_inflate_03870 (wz yJ1_inflate_03870 cJ1_inflate_03870 6 none) { frames := 0, cells := 0, slots := 0, locals := 0 } (va_Pc [.ref vS, .int 0, .ref h0, .int 0, .int 179] (fun U => zW D sz [(h0, .inl (D.1 14, 179, .inl f))] U ∧ EE b0 qS vS fS U)) (va_Qv (fun (u : Nat → Int32) => u = fun j => zw (fS j)) (fun u t => zB D (va_A [(h0, .inl (D.1 14, 179, .inl f))] sz) [(h0, .inl (D.1 14, 179, .inl u))] t) (va_A [(h0, .inl (D.1 14, 179, .inl f))] sz)) 0 0 (va_A [(h0, .inl (D.1 14, 179, .inl f))] sz) := by
  refine Met.ofW (cc := cJ1_inflate_03870) (maxL := 6) (ret := none) (by decide) rfl ?_
  intro p e s m args below meth c s₁ B hml hv
  obtain ⟨rfl, ⟨hsz, hP, hK, hD0⟩, hE⟩ := hv
  have hx := B.exec
  have hb := B.bytes
  have hr := B.returns
  have hown : s.vm.findClass RJ1 = some m.cls := findClass_of_methodNamed B.named
  have hlocks := B.notSynchronized
  subst hsz
  have hD := hD0.self (sz := s.heap.size)
  generalize hAe : va_A [(h0, .inl (D.1 14, 179, .inl f))] s.heap.size = A at hB hD ⊢
  have hS : va_S A s.heap s.heap [] := va_S.rf
  have hT := hE.2.2.2.2.1.narrow hB
  have hl := lv_entry ([.ref vS, .int 0, .ref h0, .int 0, .int 179]) (n := 6) (Nat.le_of_ble_eq_true rfl)
  rw [lg_entry_eq]
  generalize (lg_sl ([.ref vS, .int 0, .ref h0, .int 0, .int 179]) ++ List.replicate (6 - (lg_sl ([.ref vS, .int 0, .ref h0, .int 0, .int 179])).length) Slot.unset).toArray = ls at hl ⊢
  have hl : lv_has ls 6 [(0, .ref vS), (1, .int 0), (2, .ref h0), (3, .int 0), (4, .int 179)] := hl
  refine lv_iconst (v := 0) hx hb eJ1_inflate_03870_0.1 (by decide) ?_
  refine lv_istore (lv' := [(5, .int 0), (0, .ref vS), (1, .int 0), (2, .ref h0), (3, .int 0), (4, .int 179)]) hx hb eJ1_inflate_03870_0.2.1 hl (by decide) rfl (fun ls hl => ?_)
  refine z_loop (σ := (Nat → Int32)) (N := 179) (fun i u H locs ls => va_P D vwCl [(h0, .inl (D.1 14, 179, .inl u))] H ∧ va_D A [(h0, .inl (D.1 14, 179, .inl u))] ∧ (∀ j, j < i → u j = zw (fS j)) ∧ va_S A s.heap H locs ∧ lv_has ls 6 [(5, .int (nI i)), (0, .ref vS), (1, .int (nI i)), (2, .ref h0), (3, .int (nI i)), (4, .int 179)]) (fun i u H locs ls hi hI ih => ?_) 0 f (by decide) ⟨hP, hD, fun j hj => absurd hj (Nat.not_lt_zero j), hS, hl⟩
  obtain ⟨hP, hD, hu, hS, hl⟩ := hI
  refine lv_iload hx hb eJ1_inflate_03870_0.2.2.1 (lv_at hl 0 rfl) ?_
  refine lv_iload hx hb eJ1_inflate_03870_0.2.2.2.1 (lv_at hl 5 rfl) ?_
  refine lv_icmp_ge (tgt := 33) hx hb eJ1_inflate_03870_0.2.2.2.2.1 (by decide) (fun c_1 => ?_) (fun c_1 => ?_)
  · have g_1 : 179 ≤ i := by
      have q := z_le (a := 179) (by decide) (nI_toInt (by omega)) c_1
      omega
    have hPn := z_cong (k := 0) (g := fun j => zw (fS j)) hP hD rfl (fun j hj => hu j (by omega))
    have hDn := hD.set (p := 0) (e := .inl (D.1 14, 179, .inl (fun j => zw (fS j)))) (A := A) (ws := [(h0, .inl (D.1 14, 179, .inl u))]) rfl
    have hP : va_P D vwCl [(h0, .inl (D.1 14, 179, .inl (fun j => zw (fS j))))] H := hPn
    have hD : va_D A [(h0, .inl (D.1 14, 179, .inl (fun j => zw (fS j))))] := hDn
    exact W.vret hx hb hr (fun t ht hW => ⟨⟨fun j => zw (fS j), rfl, rfl, by rw [ht]; exact hP, va_K.moved hW.alike hK, hD⟩, hS.F ht⟩) hS.2.2 eJ1_inflate_03870_27.2.2.1
  · have g_1 : ((i : Nat) : Int) < 179 := z_nle (by decide) (nI_toInt (by omega)) c_1
    refine lv_aload_n hx hb eJ1_inflate_03870_0.2.2.2.2.2.1 rfl (lv_at hl 3 rfl) ?_
    refine lv_iload_n hx hb eJ1_inflate_03870_0.2.2.2.2.2.2.1 rfl (lv_at hl 4 rfl) ?_
    refine lv_iinc (v := nI (i + 1)) (lv' := [(3, .int (nI (i + 1))), (5, .int (nI i)), (0, .ref vS), (1, .int (nI i)), (2, .ref h0), (4, .int 179)]) hx hb eJ1_inflate_03870_0.2.2.2.2.2.2.2 hl (k := 4) rfl (z_inc _) (by decide) rfl (fun ls hl => ?_)
    refine lv_aload_n hx hb eJ1_inflate_03870_15.1 rfl (lv_at hl 2 rfl) ?_
    refine lv_iload_n hx hb eJ1_inflate_03870_15.2.1 rfl (lv_at hl 3 rfl) ?_
    refine lv_iinc (v := nI (i + 1)) (lv' := [(1, .int (nI (i + 1))), (3, .int (nI (i + 1))), (5, .int (nI i)), (0, .ref vS), (2, .ref h0), (4, .int 179)]) hx hb eJ1_inflate_03870_15.2.2.1 hl (k := 3) rfl (z_inc _) (by decide) rfl (fun ls hl => ?_)
    refine va_tb hx hb hT hS (vp_in_nI (by omega) (by omega)) rfl eJ1_inflate_03870_15.2.2.2.1 ?_
    refine lv_sipush (v := 255) hx hb eJ1_inflate_03870_15.2.2.2.2.1 (by decide) ?_
    refine lv_iand hx hb eJ1_inflate_03870_15.2.2.2.2.2.1 ?_
    refine lv_topi (fun x_1 ex_1 => ?_)
    obtain ⟨x_2, ex_2⟩ : ∃ z : Int32, (x_1.toUInt32 % 65536).toInt32 = z := ⟨_, rfl⟩
    refine lv_i2c (v := x_2) hx hb eJ1_inflate_03870_15.2.2.2.2.2.2.1 ex_2 ?_
    refine va_cast hx hb hK hP hD hS 0 1 rfl rfl (vp_in_nI (by omega) (by omega)) eJ1_inflate_03870_15.2.2.2.2.2.2.2 (fun H locs hP hD hS => ?_)
    generalize hf_2 : upd _ _ _ = f_2 at hP hD
    have hP : va_P D vwCl [(h0, .inl (D.1 14, 179, .inl f_2))] H := hP
    have hD : va_D A [(h0, .inl (D.1 14, 179, .inl f_2))] := hD
    refine lv_iinc (v := nI (i + 1)) (lv' := [(5, .int (nI (i + 1))), (1, .int (nI (i + 1))), (3, .int (nI (i + 1))), (0, .ref vS), (2, .ref h0), (4, .int 179)]) hx hb eJ1_inflate_03870_27.1 hl (k := 2) rfl (z_inc _) (by decide) rfl (fun ls hl => ?_)
    refine lv_goto (tgt := 3) hx hb eJ1_inflate_03870_27.2.1 (by decide) ?_
    have hu2 : ∀ j, j < i + 1 → f_2 j = zw (fS j) := fun j hj => by
      subst hf_2
      subst ex_2
      subst ex_1
      rw [nI_clamp (by omega)]
      unfold upd
      by_cases z : j = i
      · rw [if_pos z, z]
        rfl
      · rw [if_neg z]; exact hu j (by omega)
    exact ih f_2 _ _ _ (by omega) ⟨hP, hD, hu2, hS, lv_sub hl [0, 3, 1, 4, 2, 5] rfl⟩
set_option maxHeartbeats 4000000 in
set_option maxRecDepth 100000 in
theorem kJ_toChars (l : Launch) (D : va_G) (sz b0 qS vS : Nat) (fS : Nat → Int32) (hB : ∀ q, va_A [] sz q → b0 ≤ q) : Met l yJ1_toChars_9d188 (wz yJ1_toChars_9d188 cJ1_toChars_9d188 2 (some (.array .char))) { frames := 1, cells := 1, slots := 179, locals := 60 } (va_Pc [.ref vS] (fun U => zW D sz [] U ∧ EE b0 qS vS fS U)) (va_Qr (fun (u : Nat → Int32) => u = fun j => zw (fS j)) (fun u ra t => zB D (va_A [] sz) [(ra, .inl (D.1 14, 179, .inl u))] t) (va_A [] sz)) 1 179 (va_A [] sz) := by
  refine Met.ofW (cc := cJ1_toChars_9d188) (maxL := 2) (ret := (some (.array .char))) (by decide) rfl ?_
  intro p e s m args below meth c s₁ B hml hv
  obtain ⟨rfl, ⟨hsz, hP, hK, hD0⟩, hE⟩ := hv
  have hx := B.exec
  have hb := B.bytes
  have hr := B.returns
  have hts := atoms_spec (ws := wz yJ1_toChars_9d188 cJ1_toChars_9d188 2 (some (.array .char))) B.pre
  have ht : ∀ w ∈ lw_gd, w.before _ s = true := fun w h => hts w (List.mem_cons_of_mem _ h)
  have hown : s.vm.findClass RJ1 = some m.cls := findClass_of_methodNamed B.named
  have hlocks := B.notSynchronized
  subst hsz
  have hD := hD0.self (sz := s.heap.size)
  generalize hAe : va_A [] s.heap.size = A at hB hD ⊢
  have hA : ∀ q : Nat, s.heap.size ≤ q → A q := fun q h => by rw [← hAe]; exact Or.inr h
  have hS : va_S A s.heap s.heap [] := va_S.rf
  have hT := hE.2.2.2.2.1.narrow hB
  have hl := lv_entry ([.ref vS]) (n := 2) (Nat.le_of_ble_eq_true rfl)
  rw [lg_entry_eq]
  generalize (lg_sl ([.ref vS]) ++ List.replicate (2 - (lg_sl ([.ref vS])).length) Slot.unset).toArray = ls at hl ⊢
  have hl : lv_has ls 2 [(0, .ref vS)] := hl
  refine lv_aload_n hx hb eJ1_inflate_03870_27.2.2.2.1 rfl (lv_at hl 0 rfl) ?_
  refine va_tlen (v := 179) hx hb hT hS (by decide) eJ1_inflate_03870_27.2.2.2.2.1 ?_
  refine va_newa (atype := .char) (a0 := (179, .inl (fun _ => 0))) (ty := .char) (N' := 179) hx hb (ht _ ac_char) rfl hK hP hD hS hA (fun _ => rfl) (by decide) (by decide) (by decide) (Nat.le_of_ble_eq_true rfl) (Nat.le_of_ble_eq_true rfl) eJ1_inflate_03870_27.2.2.2.2.2.1 (fun q_1 cA H hK2 hP hD hS => ?_)
  obtain rfl := z_cls_char hK hK2
  refine W.widen (k := 1) (n := 179) (Nat.le_of_ble_eq_true rfl) (Nat.le_of_ble_eq_true rfl) ?_
  have hP : va_P D vwCl [(q_1, .inl (D.1 14, 179, .inl (fun _ => 0)))] H := hP
  have hD : va_D A [(q_1, .inl (D.1 14, 179, .inl (fun _ => 0)))] := hD
  refine lv_astore_n (lv' := [(1, .ref q_1), (0, .ref vS)]) hx hb eJ1_inflate_03870_27.2.2.2.2.2.2.1 rfl hl (by decide) rfl (fun ls hl => ?_)
  refine lv_aload_n hx hb eJ1_inflate_03870_27.2.2.2.2.2.2.2 rfl (lv_at hl 1 rfl) ?_
  refine lv_iconst (v := 0) hx hb eJ1_toChars_9d188_6.1 (by decide) ?_
  refine lv_aload_n hx hb eJ1_toChars_9d188_6.2.1 rfl (lv_at hl 0 rfl) ?_
  refine lv_iconst (v := 0) hx hb eJ1_toChars_9d188_6.2.2.1 (by decide) ?_
  refine lv_aload_n hx hb eJ1_toChars_9d188_6.2.2.2.1 rfl (lv_at hl 1 rfl) ?_
  refine va_tlen (v := 179) hx hb hT hS (by decide) eJ1_toChars_9d188_6.2.2.2.2.1 ?_
  have hFc := va_free (wc := [(q_1, .inl (D.1 14, 179, .inl (fun _ => 0)))]) hD hS hA [0] rfl
  refine va_callv (va_runS (As := [.ref vS, .int 0, .ref q_1, .int 0, .int 179]) (rest := []) ⟨hx, hb, hml, hown, ht⟩ (kJ_inflate l D H.size b0 qS vS fS q_1 (fun _ => 0) (fun q h => hB q (hFc q h))) (va_cwS 5 ht (zgT ml_J1_13 st_J1_inflate_03870 in_J1 co_J1_inflate_03870) rfl rfl rfl (by decide +kernel) ⟨Nat.le_of_ble_eq_true rfl, Nat.le_of_ble_eq_true rfl⟩) ⟨zWEb _ D _ _ _ _ _ _, fun U hU hW => ⟨rfl, ⟨by rw [hU], by rw [hU]; exact hP, va_K.moved hW.alike hK, hD.weaken (fun _ _ _ _ => trivial)⟩, hE.go hS hB hU hW⟩⟩ rfl rfl hl.1 rfl (lv_room (Nat.le_of_ble_eq_true rfl)) eJ1_toChars_9d188_6.2.2.2.2.2.1 ⟨Nat.le_of_ble_eq_true rfl, Nat.le_of_ble_eq_true rfl⟩) hS (fun q _ h => hFc q h) hFc (fun u t H1 locs ht1 hvm hw hBB hz1 hk1 hS => ?_)
  obtain ⟨hP, hD⟩ := va_join (wr := []) (w1 := [(q_1, .inl (D.1 14, 179, .inl u))]) (wc := [(q_1, .inl (D.1 14, 179, .inl (fun _ => 0)))]) hP hD [0] [] rfl rfl (by decide) (by decide) hk1 hFc (by rw [← ht1]; exact hBB.1) hBB.2.2
  have hP : va_P D vwCl [(q_1, .inl (D.1 14, 179, .inl u))] H1 := hP
  have hD : va_D A [(q_1, .inl (D.1 14, 179, .inl u))] := hD
  refine lv_aload_n hx hb eJ1_toChars_9d188_6.2.2.2.2.2.2.1 rfl (lv_at hl 0 rfl) ?_
  exact W.aret (v := .ref q_1) hx hb hr (Or.inr ⟨_, rfl⟩) (Or.inr ⟨_, rfl⟩) (fun t ht hW => ⟨⟨u, q_1, rfl, hw, by rw [ht]; exact hP, va_K.moved hW.alike hK, hD⟩, hS.F ht⟩) hS.2.2 eJ1_toChars_9d188_6.2.2.2.2.2.2.2
set_option maxHeartbeats 4000000 in
set_option maxRecDepth 100000 in
theorem kJ_toCharArray (l : Launch) (D : va_G) (sz b0 qS vS : Nat) (fS : Nat → Int32) (hB : ∀ q, va_A [] sz q → b0 ≤ q) : Met l yJ0_toCharArray_70df3 (wz yJ0_toCharArray_70df3 cJ0_toCharArray_70df3 1 (some (.array .char))) { frames := 2, cells := 1, slots := 179, locals := 120 } (va_Pc [.ref qS] (fun U => zW D sz [] U ∧ EE b0 qS vS fS U)) (va_Qr (fun (u : Nat → Int32) => u = fun j => zw (fS j)) (fun u ra t => zB D (va_A [] sz) [(ra, .inl (D.1 14, 179, .inl u))] t) (va_A [] sz)) 1 179 (va_A [] sz) := by
  refine Met.ofW (cc := cJ0_toCharArray_70df3) (maxL := 1) (ret := (some (.array .char))) (by decide) rfl ?_
  intro p e s m args below meth c s₁ B hml hv
  obtain ⟨rfl, ⟨hsz, hP, hK, hD0⟩, hE⟩ := hv
  have hx := B.exec
  have hb := B.bytes
  have hr := B.returns
  have hts := atoms_spec (ws := wz yJ0_toCharArray_70df3 cJ0_toCharArray_70df3 1 (some (.array .char))) B.pre
  have ht : ∀ w ∈ lw_gd, w.before _ s = true := fun w h => hts w (List.mem_cons_of_mem _ h)
  have hown : s.vm.findClass RJ0 = some m.cls := findClass_of_methodNamed B.named
  have hlocks := B.notSynchronized
  subst hsz
  have hD := hD0.self (sz := s.heap.size)
  generalize hAe : va_A [] s.heap.size = A at hB hD ⊢
  have hA : ∀ q : Nat, s.heap.size ≤ q → A q := fun q h => by rw [← hAe]; exact Or.inr h
  have hS : va_S A s.heap s.heap [] := va_S.rf
  have hl := lv_entry ([.ref qS]) (n := 1) (Nat.le_of_ble_eq_true rfl)
  rw [lg_entry_eq]
  generalize (lg_sl ([.ref qS]) ++ List.replicate (1 - (lg_sl ([.ref qS])).length) Slot.unset).toArray = ls at hl ⊢
  have hl : lv_has ls 1 [(0, .ref qS)] := hl
  refine lv_aload_n hx hb eJ0_toCharArray_70df3_0.1 rfl (lv_at hl 0 rfl) ?_
  refine va_calli (va_runV (As := []) (rest := []) ⟨hx, hb, hml, hown, ht⟩ (kJ_isLatin1 l b0 qS vS fS) (cwV 0 ht (zgV ml_J0_492 im_J0_isLatin1_aae02 se_J0_isLatin1_aae02 in_J0 co_J0_isLatin1_aae02) rfl rfl rfl (by decide +kernel) ⟨Nat.le_of_ble_eq_true rfl, Nat.le_of_ble_eq_true rfl⟩) ⟨fun a U g mk q => ⟨q.1, EE.blind a U g mk q.2⟩, by obtain ⟨cell, h1, h2, h3, -⟩ := (hE.2.1.kept (fun a h1 h2 => hS.2.1 a h1 (fun z => h2 (hB a z)))); exact ⟨cell, h1, h2, h3⟩, fun U hU hW => ⟨rfl, hE.go hS hB hU hW⟩⟩ rfl rfl hl.1 rfl (lv_room (Nat.le_of_ble_eq_true rfl)) eJ0_toCharArray_70df3_0.2.1 ⟨Nat.le_of_ble_eq_true rfl, Nat.le_of_ble_eq_true rfl⟩) hS (fun _ _ h => h.elim) (fun _ h => h.elim) (fun r u t H locs ht1 hvm hw hBB hz1 hk1 hS => ?_)
  have hP : va_P D vwCl [] H := fun k q h => by simp at h
  subst hw
  refine lv_if_eq (tgt := 17) hx hb eJ0_toCharArray_70df3_0.2.2.1 (by decide) (fun c_1 => (z_abs c_1 (by decide)).elim) (fun _ => ?_)
  refine lv_aload_n hx hb eJ0_toCharArray_70df3_0.2.2.2.1 rfl (lv_at hl 0 rfl) ?_
  have hV := hE.2.2.2.1.narrow hB
  refine vk_getf (own := RJ0) (ref := "java/lang/String") hx hb hV hS hown (ht _ fl_J0_9) (fun _ h => h) eJ0_toCharArray_70df3_0.2.2.2.2.1 ?_
  have hFc : ∀ q, va_A [] H.size q → A q := fun q h => hA q (by
    rcases h with ⟨k, e, h⟩ | h
    · simp at h
    · exact Nat.le_trans hS.1 h)
  refine va_callr (va_runS (As := [.ref vS]) (rest := []) ⟨hx, hb, hml, hown, ht⟩ (kJ_toChars l D H.size b0 qS vS fS (fun q h => hB q (hFc q h))) (va_cwS 1 ht (zgT ml_J0_299 st_J1_toChars_9d188 in_J1 co_J1_toChars_9d188) rfl rfl rfl (by decide +kernel) ⟨Nat.le_of_ble_eq_true rfl, Nat.le_of_ble_eq_true rfl⟩) ⟨zWEb _ D _ _ _ _ _ _, fun U hU hW => ⟨rfl, ⟨by rw [hU], by rw [hU]; exact hP, va_K.moved hW.alike hK, ⟨fun i j p q h => by simp at h, fun k q h => by simp at h⟩⟩, hE.go hS hB hU hW⟩⟩ rfl rfl hl.1 rfl (lv_room (Nat.le_of_ble_eq_true rfl)) eJ0_toCharArray_70df3_0.2.2.2.2.2.1 ⟨Nat.le_of_ble_eq_true rfl, Nat.le_of_ble_eq_true rfl⟩) hS (fun q _ h => hFc q h) hFc (fun u q_1 t H1 locs ht1 hvm hw hBB hz1 hk1 hS => ?_)
  obtain ⟨hP, hD⟩ := va_join (wr := []) (w1 := [(q_1, .inl (D.1 14, 179, .inl u))]) (wc := []) hP ⟨fun i j p q h => by simp at h, fun k q h => by simp at h⟩ [] [] rfl rfl (by decide) (by decide) hk1 hFc (by rw [← ht1]; exact hBB.1) hBB.2.2
  have hP : va_P D vwCl [(q_1, .inl (D.1 14, 179, .inl u))] H1 := hP
  have hD : va_D A [(q_1, .inl (D.1 14, 179, .inl u))] := hD
  refine lv_goto (tgt := 24) hx hb eJ0_toCharArray_70df3_0.2.2.2.2.2.2.1 (by decide) ?_
  exact W.aret (v := .ref q_1) hx hb hr (Or.inr ⟨_, rfl⟩) (Or.inr ⟨_, rfl⟩) (fun t ht hW => ⟨⟨u, q_1, rfl, hw, by rw [ht]; exact hP, va_K.moved hW.alike hK, hD⟩, hS.F ht⟩) hS.2.2 eJ0_toCharArray_70df3_0.2.2.2.2.2.2.2
set_option maxHeartbeats 4000000 in
set_option maxRecDepth 100000 in
theorem k_X9_init (l : Launch) (D : va_G) (sz : Nat) (h0 : Nat) : Met l yX9_init (wz yX9_init cX9_init 1 none) { frames := 1, cells := 1, slots := 1600, locals := 60 } (va_Pc [.ref h0] (zW D sz [(h0, .inr (9, [.null, .int 0]))])) (va_Qv (fun (_ : (Nat)) => True) (fun u t => zB D (va_A [(h0, .inr (9, [.null, .int 0]))] sz) ((fun (u : (Nat)) => [(h0, .inr (9, [.ref u, .int 0])), (u, .inl (D.1 13, 1600, .inl (fun _ => 0)))]) u) t) (va_A [(h0, .inr (9, [.null, .int 0]))] sz)) 1 1600 (va_A [(h0, .inr (9, [.null, .int 0]))] sz) := by
  refine Met.ofW (cc := cX9_init) (maxL := 1) (ret := none) (by decide) rfl ?_
  intro p e s m args below meth c s₁ B hml hv
  obtain ⟨rfl, hsz, hP, hK, hD0⟩ := hv
  have hx := B.exec
  have hb := B.bytes
  have hr := B.returns
  have hts := atoms_spec (ws := wz yX9_init cX9_init 1 none) B.pre
  have ht : ∀ w ∈ lw_gd, w.before _ s = true := fun w h => hts w (List.mem_cons_of_mem _ h)
  have hown : s.vm.findClass RX9 = some m.cls := findClass_of_methodNamed B.named
  have hlocks := B.notSynchronized
  have hin : meth.name = "<init>" := (name_of_methodNamed B.named B.method).1
  subst hsz
  have hD := hD0.self (sz := s.heap.size)
  generalize hAe : va_A [(h0, .inr (9, [.null, .int 0]))] s.heap.size = A at hD ⊢
  have hA : ∀ q : Nat, s.heap.size ≤ q → A q := fun q h => by rw [← hAe]; exact Or.inr h
  have hS : va_S A s.heap s.heap [] := va_S.rf
  have zi0 : (0 : Int32).toInt = 0 := rfl
  have zi1 : (1 : Int32).toInt = 1 := rfl
  have zi2 : (2 : Int32).toInt = 2 := rfl
  have zi3 : (3 : Int32).toInt = 3 := rfl
  have zi4 : (4 : Int32).toInt = 4 := rfl
  have hl := lv_entry ([.ref h0]) (n := 1) (Nat.le_of_ble_eq_true rfl)
  rw [lg_entry_eq]
  generalize (lg_sl ([.ref h0]) ++ List.replicate (1 - (lg_sl ([.ref h0])).length) Slot.unset).toArray = ls at hl ⊢
  have hl : lv_has ls 1 [(0, .ref h0)] := hl
  refine lv_aload_n hx hb eX7_init_23.2.2.2.2.2.2.2 rfl (lv_at hl 0 rfl) ?_
  refine W.objInit hx hb hown (ht _ ml_X9_3) (ht _ im_obj) (ht _ co_obj) rfl (by rw [hml]; exact hl.1) rfl eX9_init_1.1 (Nat.le_of_ble_eq_true rfl) (Nat.le_of_ble_eq_true rfl) ?_
  refine W.eq (g2 := F0 m 4 ls []) rfl ?_
  refine lv_aload_n hx hb eX9_init_1.2.1 rfl (lv_at hl 0 rfl) ?_
  refine lv_sipush (v := 1600) hx hb eX9_init_1.2.2.1 (by decide) ?_
  refine va_newa (atype := .int) (a0 := (1600, .inl (fun _ => 0))) (ty := .int) (N' := 1600) hx hb (ht _ ac_int) rfl hK hP hD hS hA (fun _ => rfl) (by decide) (by decide) (by decide) (Nat.le_of_ble_eq_true rfl) (Nat.le_of_ble_eq_true rfl) eX9_init_1.2.2.2.1 (fun q_1 cA H hK2 hP hD hS => ?_)
  obtain rfl := z_cls_int hK hK2
  refine W.widen (k := 1) (n := 1600) (Nat.le_of_ble_eq_true rfl) (Nat.le_of_ble_eq_true rfl) ?_
  have hP : va_P D vwCl [(h0, .inr (9, [.null, .int 0])), (q_1, .inl (D.1 13, 1600, .inl (fun _ => 0)))] H := hP
  have hD : va_D A [(h0, .inr (9, [.null, .int 0])), (q_1, .inl (D.1 13, 1600, .inl (fun _ => 0)))] := hD
  refine va_putF (D := D) (ci := 9) (v := .ref q_1) (ty := .array .int) (C := RX9) (T := TX9) (N := 2) hx hb ht inX9 tyX9 tyX9_ok nmX9 hown hK hP hD hS 0 rfl rfl 0 (by decide) (ht (.fieldLink RX9 9 "CloneVolumes$Tape" "bytes" "[I") fl_X9_9) (fun _ h9 => h9) rfl hin rfl (by decide +kernel) rfl rfl (Nat.le_of_ble_eq_true rfl) eX9_init_1.2.2.2.2.1 (fun H locs hP hD hS => ?_)
  have hP : va_P D vwCl [(h0, .inr (9, [.ref q_1, .int 0])), (q_1, .inl (D.1 13, 1600, .inl (fun _ => 0)))] H := hP
  have hD : va_D A [(h0, .inr (9, [.ref q_1, .int 0])), (q_1, .inl (D.1 13, 1600, .inl (fun _ => 0)))] := hD
  have hP9 := hP.sub (ws' := [(h0, .inr (9, [.ref q_1, .int 0])), (q_1, .inl (D.1 13, 1600, .inl (fun _ => 0)))]) [0, 1] rfl
  have hD9 := hD.sub (ws' := [(h0, .inr (9, [.ref q_1, .int 0])), (q_1, .inl (D.1 13, 1600, .inl (fun _ => 0)))]) [0, 1] (by decide) rfl
  refine W.widen (k := 1) (n := 1600) (Nat.le_of_ble_eq_true rfl) (Nat.le_of_ble_eq_true rfl) ?_
  exact W.vret hx hb hr (fun t ht hW => ⟨⟨q_1, rfl, trivial, by rw [ht]; exact hP9, va_K.moved hW.alike hK, hD9⟩, hS.F ht⟩) hS.2.2 eX9_init_1.2.2.2.2.2
set_option maxHeartbeats 4000000 in
set_option maxRecDepth 100000 in
theorem k_X0_init (l : Launch) (D : va_G) (sz : Nat) (h0 : Nat) : Met l yX0_init (wz yX0_init cX0_init 1 none) { frames := 1, cells := 1, slots := 1600, locals := 60 } (va_Pc [.ref h0] (zW D sz [(h0, .inr (0, [.null, .int 0]))])) (va_Qv (fun (_ : (Nat)) => True) (fun u t => zB D (va_A [(h0, .inr (0, [.null, .int 0]))] sz) ((fun (u : (Nat)) => [(h0, .inr (0, [.ref u, .int 0])), (u, .inl (D.1 13, 1600, .inl (fun _ => 0)))]) u) t) (va_A [(h0, .inr (0, [.null, .int 0]))] sz)) 1 1600 (va_A [(h0, .inr (0, [.null, .int 0]))] sz) := by
  refine Met.ofW (cc := cX0_init) (maxL := 1) (ret := none) (by decide) rfl ?_
  intro p e s m args below meth c s₁ B hml hv
  obtain ⟨rfl, hsz, hP, hK, hD0⟩ := hv
  have hx := B.exec
  have hb := B.bytes
  have hr := B.returns
  have hts := atoms_spec (ws := wz yX0_init cX0_init 1 none) B.pre
  have ht : ∀ w ∈ lw_gd, w.before _ s = true := fun w h => hts w (List.mem_cons_of_mem _ h)
  have hown : s.vm.findClass RX0 = some m.cls := findClass_of_methodNamed B.named
  have hlocks := B.notSynchronized
  have hin : meth.name = "<init>" := (name_of_methodNamed B.named B.method).1
  subst hsz
  have hD := hD0.self (sz := s.heap.size)
  generalize hAe : va_A [(h0, .inr (0, [.null, .int 0]))] s.heap.size = A at hD ⊢
  have hA : ∀ q : Nat, s.heap.size ≤ q → A q := fun q h => by rw [← hAe]; exact Or.inr h
  have hS : va_S A s.heap s.heap [] := va_S.rf
  have zi0 : (0 : Int32).toInt = 0 := rfl
  have zi1 : (1 : Int32).toInt = 1 := rfl
  have zi2 : (2 : Int32).toInt = 2 := rfl
  have zi3 : (3 : Int32).toInt = 3 := rfl
  have zi4 : (4 : Int32).toInt = 4 := rfl
  have hl := lv_entry ([.ref h0]) (n := 1) (Nat.le_of_ble_eq_true rfl)
  rw [lg_entry_eq]
  generalize (lg_sl ([.ref h0]) ++ List.replicate (1 - (lg_sl ([.ref h0])).length) Slot.unset).toArray = ls at hl ⊢
  have hl : lv_has ls 1 [(0, .ref h0)] := hl
  refine lv_aload_n hx hb eX0_init_0.1 rfl (lv_at hl 0 rfl) ?_
  refine W.objInit hx hb hown (ht _ ml_X0_3) (ht _ im_obj) (ht _ co_obj) rfl (by rw [hml]; exact hl.1) rfl eX0_init_0.2.1 (Nat.le_of_ble_eq_true rfl) (Nat.le_of_ble_eq_true rfl) ?_
  refine W.eq (g2 := F0 m 4 ls []) rfl ?_
  refine lv_aload_n hx hb eX0_init_0.2.2.1 rfl (lv_at hl 0 rfl) ?_
  refine lv_sipush (v := 1600) hx hb eX0_init_0.2.2.2.1 (by decide) ?_
  refine va_newa (atype := .int) (a0 := (1600, .inl (fun _ => 0))) (ty := .int) (N' := 1600) hx hb (ht _ ac_int) rfl hK hP hD hS hA (fun _ => rfl) (by decide) (by decide) (by decide) (Nat.le_of_ble_eq_true rfl) (Nat.le_of_ble_eq_true rfl) eX0_init_0.2.2.2.2.1 (fun q_1 cA H hK2 hP hD hS => ?_)
  obtain rfl := z_cls_int hK hK2
  refine W.widen (k := 1) (n := 1600) (Nat.le_of_ble_eq_true rfl) (Nat.le_of_ble_eq_true rfl) ?_
  have hP : va_P D vwCl [(h0, .inr (0, [.null, .int 0])), (q_1, .inl (D.1 13, 1600, .inl (fun _ => 0)))] H := hP
  have hD : va_D A [(h0, .inr (0, [.null, .int 0])), (q_1, .inl (D.1 13, 1600, .inl (fun _ => 0)))] := hD
  refine va_putF (D := D) (ci := 0) (v := .ref q_1) (ty := .array .int) (C := RX0) (T := TX0) (N := 2) hx hb ht inX0 tyX0 tyX0_ok nmX0 hown hK hP hD hS 0 rfl rfl 0 (by decide) (ht (.fieldLink RX0 9 "CloneVolumes$Code" "steps" "[I") fl_X0_9) (fun _ h9 => h9) rfl hin rfl (by decide +kernel) rfl rfl (Nat.le_of_ble_eq_true rfl) eX0_init_0.2.2.2.2.2.1 (fun H locs hP hD hS => ?_)
  have hP : va_P D vwCl [(h0, .inr (0, [.ref q_1, .int 0])), (q_1, .inl (D.1 13, 1600, .inl (fun _ => 0)))] H := hP
  have hD : va_D A [(h0, .inr (0, [.ref q_1, .int 0])), (q_1, .inl (D.1 13, 1600, .inl (fun _ => 0)))] := hD
  have hP9 := hP.sub (ws' := [(h0, .inr (0, [.ref q_1, .int 0])), (q_1, .inl (D.1 13, 1600, .inl (fun _ => 0)))]) [0, 1] rfl
  have hD9 := hD.sub (ws' := [(h0, .inr (0, [.ref q_1, .int 0])), (q_1, .inl (D.1 13, 1600, .inl (fun _ => 0)))]) [0, 1] (by decide) rfl
  refine W.widen (k := 1) (n := 1600) (Nat.le_of_ble_eq_true rfl) (Nat.le_of_ble_eq_true rfl) ?_
  exact W.vret hx hb hr (fun t ht hW => ⟨⟨q_1, rfl, trivial, by rw [ht]; exact hP9, va_K.moved hW.alike hK, hD9⟩, hS.F ht⟩) hS.2.2 eX0_init_0.2.2.2.2.2.2.1
set_option maxHeartbeats 4000000 in
set_option maxRecDepth 100000 in
theorem k_X7_init (l : Launch) (D : va_G) (sz : Nat) (h0 : Nat) : Met l yX7_init (wz yX7_init cX7_init 1 none) { frames := 1, cells := 4, slots := 40, locals := 60 } (va_Pc [.ref h0] (zW D sz [(h0, .inr (7, [.int 0, .null, .null, .null, .int 0, .null]))])) (va_Qv (fun (_ : ((Nat) × (Nat) × (Nat) × (Nat))) => True) (fun u t => zB D (va_A [(h0, .inr (7, [.int 0, .null, .null, .null, .int 0, .null]))] sz) ((fun (u : ((Nat) × (Nat) × (Nat) × (Nat))) => [(h0, .inr (7, [.int 0, .ref u.1, .ref u.2.1, .ref u.2.2.1, .int 0, .ref u.2.2.2])), (u.1, .inl (D.1 13, 12, .inl (fun _ => 0))), (u.2.1, .inl (D.1 13, 12, .inl (fun _ => 0))), (u.2.2.1, .inl (D.1 13, 8, .inl (fun _ => 0))), (u.2.2.2, .inl (D.1 13, 8, .inl (fun _ => 0)))]) u) t) (va_A [(h0, .inr (7, [.int 0, .null, .null, .null, .int 0, .null]))] sz)) 4 40 (va_A [(h0, .inr (7, [.int 0, .null, .null, .null, .int 0, .null]))] sz) := by
  refine Met.ofW (cc := cX7_init) (maxL := 1) (ret := none) (by decide) rfl ?_
  intro p e s m args below meth c s₁ B hml hv
  obtain ⟨rfl, hsz, hP, hK, hD0⟩ := hv
  have hx := B.exec
  have hb := B.bytes
  have hr := B.returns
  have hts := atoms_spec (ws := wz yX7_init cX7_init 1 none) B.pre
  have ht : ∀ w ∈ lw_gd, w.before _ s = true := fun w h => hts w (List.mem_cons_of_mem _ h)
  have hown : s.vm.findClass RX7 = some m.cls := findClass_of_methodNamed B.named
  have hlocks := B.notSynchronized
  have hin : meth.name = "<init>" := (name_of_methodNamed B.named B.method).1
  subst hsz
  have hD := hD0.self (sz := s.heap.size)
  generalize hAe : va_A [(h0, .inr (7, [.int 0, .null, .null, .null, .int 0, .null]))] s.heap.size = A at hD ⊢
  have hA : ∀ q : Nat, s.heap.size ≤ q → A q := fun q h => by rw [← hAe]; exact Or.inr h
  have hS : va_S A s.heap s.heap [] := va_S.rf
  have zi0 : (0 : Int32).toInt = 0 := rfl
  have zi1 : (1 : Int32).toInt = 1 := rfl
  have zi2 : (2 : Int32).toInt = 2 := rfl
  have zi3 : (3 : Int32).toInt = 3 := rfl
  have zi4 : (4 : Int32).toInt = 4 := rfl
  have hl := lv_entry ([.ref h0]) (n := 1) (Nat.le_of_ble_eq_true rfl)
  rw [lg_entry_eq]
  generalize (lg_sl ([.ref h0]) ++ List.replicate (1 - (lg_sl ([.ref h0])).length) Slot.unset).toArray = ls at hl ⊢
  have hl : lv_has ls 1 [(0, .ref h0)] := hl
  refine lv_aload_n hx hb eX4_init_30.2.2.2.2.1 rfl (lv_at hl 0 rfl) ?_
  refine W.objInit hx hb hown (ht _ ml_X7_3) (ht _ im_obj) (ht _ co_obj) rfl (by rw [hml]; exact hl.1) rfl eX4_init_30.2.2.2.2.2.1 (Nat.le_of_ble_eq_true rfl) (Nat.le_of_ble_eq_true rfl) ?_
  refine W.eq (g2 := F0 m 4 ls []) rfl ?_
  refine lv_aload_n hx hb eX4_init_30.2.2.2.2.2.2.1 rfl (lv_at hl 0 rfl) ?_
  refine lv_bipush (v := 12) hx hb eX4_init_30.2.2.2.2.2.2.2 (by decide) ?_
  refine va_newa (atype := .int) (a0 := (12, .inl (fun _ => 0))) (ty := .int) (N' := 12) hx hb (ht _ ac_int) rfl hK hP hD hS hA (fun _ => rfl) (by decide) (by decide) (by decide) (Nat.le_of_ble_eq_true rfl) (Nat.le_of_ble_eq_true rfl) eX7_init_7.1 (fun q_1 cA H hK2 hP hD hS => ?_)
  obtain rfl := z_cls_int hK hK2
  refine W.widen (k := 1) (n := 12) (Nat.le_of_ble_eq_true rfl) (Nat.le_of_ble_eq_true rfl) ?_
  have hP : va_P D vwCl [(h0, .inr (7, [.int 0, .null, .null, .null, .int 0, .null])), (q_1, .inl (D.1 13, 12, .inl (fun _ => 0)))] H := hP
  have hD : va_D A [(h0, .inr (7, [.int 0, .null, .null, .null, .int 0, .null])), (q_1, .inl (D.1 13, 12, .inl (fun _ => 0)))] := hD
  refine va_putF (D := D) (ci := 7) (v := .ref q_1) (ty := .array .int) (C := RX7) (T := TX7) (N := 6) hx hb ht inX7 tyX7 tyX7_ok nmX7 hown hK hP hD hS 0 rfl rfl 1 (by decide) (ht (.fieldLink RX7 9 "CloneVolumes$Sight" "keys" "[I") fl_X7_9) (fun _ h9 => h9) rfl hin rfl (by decide +kernel) rfl rfl (Nat.le_of_ble_eq_true rfl) eX7_init_7.2.1 (fun H locs hP hD hS => ?_)
  have hP : va_P D vwCl [(h0, .inr (7, [.int 0, .ref q_1, .null, .null, .int 0, .null])), (q_1, .inl (D.1 13, 12, .inl (fun _ => 0)))] H := hP
  have hD : va_D A [(h0, .inr (7, [.int 0, .ref q_1, .null, .null, .int 0, .null])), (q_1, .inl (D.1 13, 12, .inl (fun _ => 0)))] := hD
  refine lv_aload_n hx hb eX7_init_7.2.2.1 rfl (lv_at hl 0 rfl) ?_
  refine lv_bipush (v := 12) hx hb eX7_init_7.2.2.2.1 (by decide) ?_
  refine va_newa (atype := .int) (a0 := (12, .inl (fun _ => 0))) (ty := .int) (N' := 12) hx hb (ht _ ac_int) rfl hK hP hD hS hA (fun _ => rfl) (by decide) (by decide) (by decide) (Nat.le_of_ble_eq_true rfl) (Nat.le_of_ble_eq_true rfl) eX7_init_7.2.2.2.2.1 (fun q_2 cA H hK2 hP hD hS => ?_)
  obtain rfl := z_cls_int hK hK2
  refine W.widen (k := 2) (n := 24) (Nat.le_of_ble_eq_true rfl) (Nat.le_of_ble_eq_true rfl) ?_
  have hP : va_P D vwCl [(h0, .inr (7, [.int 0, .ref q_1, .null, .null, .int 0, .null])), (q_1, .inl (D.1 13, 12, .inl (fun _ => 0))), (q_2, .inl (D.1 13, 12, .inl (fun _ => 0)))] H := hP
  have hD : va_D A [(h0, .inr (7, [.int 0, .ref q_1, .null, .null, .int 0, .null])), (q_1, .inl (D.1 13, 12, .inl (fun _ => 0))), (q_2, .inl (D.1 13, 12, .inl (fun _ => 0)))] := hD
  refine va_putF (D := D) (ci := 7) (v := .ref q_2) (ty := .array .int) (C := RX7) (T := TX7) (N := 6) hx hb ht inX7 tyX7 tyX7_ok nmX7 hown hK hP hD hS 0 rfl rfl 2 (by decide) (ht (.fieldLink RX7 15 "CloneVolumes$Sight" "values" "[I") fl_X7_15) (fun _ h9 => h9) rfl hin rfl (by decide +kernel) rfl rfl (Nat.le_of_ble_eq_true rfl) eX7_init_7.2.2.2.2.2.1 (fun H locs hP hD hS => ?_)
  have hP : va_P D vwCl [(h0, .inr (7, [.int 0, .ref q_1, .ref q_2, .null, .int 0, .null])), (q_1, .inl (D.1 13, 12, .inl (fun _ => 0))), (q_2, .inl (D.1 13, 12, .inl (fun _ => 0)))] H := hP
  have hD : va_D A [(h0, .inr (7, [.int 0, .ref q_1, .ref q_2, .null, .int 0, .null])), (q_1, .inl (D.1 13, 12, .inl (fun _ => 0))), (q_2, .inl (D.1 13, 12, .inl (fun _ => 0)))] := hD
  refine lv_aload_n hx hb eX7_init_7.2.2.2.2.2.2.1 rfl (lv_at hl 0 rfl) ?_
  refine lv_bipush (v := 8) hx hb eX7_init_7.2.2.2.2.2.2.2 (by decide) ?_
  refine va_newa (atype := .int) (a0 := (8, .inl (fun _ => 0))) (ty := .int) (N' := 8) hx hb (ht _ ac_int) rfl hK hP hD hS hA (fun _ => rfl) (by decide) (by decide) (by decide) (Nat.le_of_ble_eq_true rfl) (Nat.le_of_ble_eq_true rfl) eX7_init_23.1 (fun q_3 cA H hK2 hP hD hS => ?_)
  obtain rfl := z_cls_int hK hK2
  refine W.widen (k := 3) (n := 32) (Nat.le_of_ble_eq_true rfl) (Nat.le_of_ble_eq_true rfl) ?_
  have hP : va_P D vwCl [(h0, .inr (7, [.int 0, .ref q_1, .ref q_2, .null, .int 0, .null])), (q_1, .inl (D.1 13, 12, .inl (fun _ => 0))), (q_2, .inl (D.1 13, 12, .inl (fun _ => 0))), (q_3, .inl (D.1 13, 8, .inl (fun _ => 0)))] H := hP
  have hD : va_D A [(h0, .inr (7, [.int 0, .ref q_1, .ref q_2, .null, .int 0, .null])), (q_1, .inl (D.1 13, 12, .inl (fun _ => 0))), (q_2, .inl (D.1 13, 12, .inl (fun _ => 0))), (q_3, .inl (D.1 13, 8, .inl (fun _ => 0)))] := hD
  refine va_putF (D := D) (ci := 7) (v := .ref q_3) (ty := .array .int) (C := RX7) (T := TX7) (N := 6) hx hb ht inX7 tyX7 tyX7_ok nmX7 hown hK hP hD hS 0 rfl rfl 3 (by decide) (ht (.fieldLink RX7 18 "CloneVolumes$Sight" "fit" "[I") fl_X7_18) (fun _ h9 => h9) rfl hin rfl (by decide +kernel) rfl rfl (Nat.le_of_ble_eq_true rfl) eX7_init_23.2.1 (fun H locs hP hD hS => ?_)
  have hP : va_P D vwCl [(h0, .inr (7, [.int 0, .ref q_1, .ref q_2, .ref q_3, .int 0, .null])), (q_1, .inl (D.1 13, 12, .inl (fun _ => 0))), (q_2, .inl (D.1 13, 12, .inl (fun _ => 0))), (q_3, .inl (D.1 13, 8, .inl (fun _ => 0)))] H := hP
  have hD : va_D A [(h0, .inr (7, [.int 0, .ref q_1, .ref q_2, .ref q_3, .int 0, .null])), (q_1, .inl (D.1 13, 12, .inl (fun _ => 0))), (q_2, .inl (D.1 13, 12, .inl (fun _ => 0))), (q_3, .inl (D.1 13, 8, .inl (fun _ => 0)))] := hD
  refine lv_aload_n hx hb eX7_init_23.2.2.1 rfl (lv_at hl 0 rfl) ?_
  refine lv_bipush (v := 8) hx hb eX7_init_23.2.2.2.1 (by decide) ?_
  refine va_newa (atype := .int) (a0 := (8, .inl (fun _ => 0))) (ty := .int) (N' := 8) hx hb (ht _ ac_int) rfl hK hP hD hS hA (fun _ => rfl) (by decide) (by decide) (by decide) (Nat.le_of_ble_eq_true rfl) (Nat.le_of_ble_eq_true rfl) eX7_init_23.2.2.2.2.1 (fun q_4 cA H hK2 hP hD hS => ?_)
  obtain rfl := z_cls_int hK hK2
  refine W.widen (k := 4) (n := 40) (Nat.le_of_ble_eq_true rfl) (Nat.le_of_ble_eq_true rfl) ?_
  have hP : va_P D vwCl [(h0, .inr (7, [.int 0, .ref q_1, .ref q_2, .ref q_3, .int 0, .null])), (q_1, .inl (D.1 13, 12, .inl (fun _ => 0))), (q_2, .inl (D.1 13, 12, .inl (fun _ => 0))), (q_3, .inl (D.1 13, 8, .inl (fun _ => 0))), (q_4, .inl (D.1 13, 8, .inl (fun _ => 0)))] H := hP
  have hD : va_D A [(h0, .inr (7, [.int 0, .ref q_1, .ref q_2, .ref q_3, .int 0, .null])), (q_1, .inl (D.1 13, 12, .inl (fun _ => 0))), (q_2, .inl (D.1 13, 12, .inl (fun _ => 0))), (q_3, .inl (D.1 13, 8, .inl (fun _ => 0))), (q_4, .inl (D.1 13, 8, .inl (fun _ => 0)))] := hD
  refine va_putF (D := D) (ci := 7) (v := .ref q_4) (ty := .array .int) (C := RX7) (T := TX7) (N := 6) hx hb ht inX7 tyX7 tyX7_ok nmX7 hown hK hP hD hS 0 rfl rfl 5 (by decide) (ht (.fieldLink RX7 21 "CloneVolumes$Sight" "readings" "[I") fl_X7_21) (fun _ h9 => h9) rfl hin rfl (by decide +kernel) rfl rfl (Nat.le_of_ble_eq_true rfl) eX7_init_23.2.2.2.2.2.1 (fun H locs hP hD hS => ?_)
  have hP : va_P D vwCl [(h0, .inr (7, [.int 0, .ref q_1, .ref q_2, .ref q_3, .int 0, .ref q_4])), (q_1, .inl (D.1 13, 12, .inl (fun _ => 0))), (q_2, .inl (D.1 13, 12, .inl (fun _ => 0))), (q_3, .inl (D.1 13, 8, .inl (fun _ => 0))), (q_4, .inl (D.1 13, 8, .inl (fun _ => 0)))] H := hP
  have hD : va_D A [(h0, .inr (7, [.int 0, .ref q_1, .ref q_2, .ref q_3, .int 0, .ref q_4])), (q_1, .inl (D.1 13, 12, .inl (fun _ => 0))), (q_2, .inl (D.1 13, 12, .inl (fun _ => 0))), (q_3, .inl (D.1 13, 8, .inl (fun _ => 0))), (q_4, .inl (D.1 13, 8, .inl (fun _ => 0)))] := hD
  have hP9 := hP.sub (ws' := [(h0, .inr (7, [.int 0, .ref q_1, .ref q_2, .ref q_3, .int 0, .ref q_4])), (q_1, .inl (D.1 13, 12, .inl (fun _ => 0))), (q_2, .inl (D.1 13, 12, .inl (fun _ => 0))), (q_3, .inl (D.1 13, 8, .inl (fun _ => 0))), (q_4, .inl (D.1 13, 8, .inl (fun _ => 0)))]) [0, 1, 2, 3, 4] rfl
  have hD9 := hD.sub (ws' := [(h0, .inr (7, [.int 0, .ref q_1, .ref q_2, .ref q_3, .int 0, .ref q_4])), (q_1, .inl (D.1 13, 12, .inl (fun _ => 0))), (q_2, .inl (D.1 13, 12, .inl (fun _ => 0))), (q_3, .inl (D.1 13, 8, .inl (fun _ => 0))), (q_4, .inl (D.1 13, 8, .inl (fun _ => 0)))]) [0, 1, 2, 3, 4] (by decide) rfl
  refine W.widen (k := 4) (n := 40) (Nat.le_of_ble_eq_true rfl) (Nat.le_of_ble_eq_true rfl) ?_
  exact W.vret hx hb hr (fun t ht hW => ⟨⟨(q_1, q_2, q_3, q_4), rfl, trivial, by rw [ht]; exact hP9, va_K.moved hW.alike hK, hD9⟩, hS.F ht⟩) hS.2.2 eX7_init_23.2.2.2.2.2.2.1
set_option maxHeartbeats 4000000 in
set_option maxRecDepth 100000 in
theorem k_X4_init (l : Launch) (D : va_G) (sz : Nat) (h0 : Nat) : Met l yX4_init (wz yX4_init cX4_init 1 none) { frames := 1, cells := 4, slots := 1508, locals := 60 } (va_Pc [.ref h0] (zW D sz [(h0, .inr (4, [.null, .int 0, .int 0, .null, .null, .null]))])) (va_Qv (fun (_ : ((Nat) × (Nat) × (Nat) × (Nat))) => True) (fun u t => zB D (va_A [(h0, .inr (4, [.null, .int 0, .int 0, .null, .null, .null]))] sz) ((fun (u : ((Nat) × (Nat) × (Nat) × (Nat))) => [(h0, .inr (4, [.ref u.1, .int 0, .int 0, .ref u.2.1, .ref u.2.2.1, .ref u.2.2.2])), (u.1, .inl (D.1 13, 1364, .inl (fun _ => 0))), (u.2.1, .inl (D.1 13, 48, .inl (fun _ => 0))), (u.2.2.1, .inl (D.1 13, 48, .inl (fun _ => 0))), (u.2.2.2, .inl (D.1 13, 48, .inl (fun _ => 0)))]) u) t) (va_A [(h0, .inr (4, [.null, .int 0, .int 0, .null, .null, .null]))] sz)) 4 1508 (va_A [(h0, .inr (4, [.null, .int 0, .int 0, .null, .null, .null]))] sz) := by
  refine Met.ofW (cc := cX4_init) (maxL := 1) (ret := none) (by decide) rfl ?_
  intro p e s m args below meth c s₁ B hml hv
  obtain ⟨rfl, hsz, hP, hK, hD0⟩ := hv
  have hx := B.exec
  have hb := B.bytes
  have hr := B.returns
  have hts := atoms_spec (ws := wz yX4_init cX4_init 1 none) B.pre
  have ht : ∀ w ∈ lw_gd, w.before _ s = true := fun w h => hts w (List.mem_cons_of_mem _ h)
  have hown : s.vm.findClass RX4 = some m.cls := findClass_of_methodNamed B.named
  have hlocks := B.notSynchronized
  have hin : meth.name = "<init>" := (name_of_methodNamed B.named B.method).1
  subst hsz
  have hD := hD0.self (sz := s.heap.size)
  generalize hAe : va_A [(h0, .inr (4, [.null, .int 0, .int 0, .null, .null, .null]))] s.heap.size = A at hD ⊢
  have hA : ∀ q : Nat, s.heap.size ≤ q → A q := fun q h => by rw [← hAe]; exact Or.inr h
  have hS : va_S A s.heap s.heap [] := va_S.rf
  have zi0 : (0 : Int32).toInt = 0 := rfl
  have zi1 : (1 : Int32).toInt = 1 := rfl
  have zi2 : (2 : Int32).toInt = 2 := rfl
  have zi3 : (3 : Int32).toInt = 3 := rfl
  have zi4 : (4 : Int32).toInt = 4 := rfl
  have hl := lv_entry ([.ref h0]) (n := 1) (Nat.le_of_ble_eq_true rfl)
  rw [lg_entry_eq]
  generalize (lg_sl ([.ref h0]) ++ List.replicate (1 - (lg_sl ([.ref h0])).length) Slot.unset).toArray = ls at hl ⊢
  have hl : lv_has ls 1 [(0, .ref h0)] := hl
  refine lv_aload_n hx hb eX2_init_37.2.1 rfl (lv_at hl 0 rfl) ?_
  refine W.objInit hx hb hown (ht _ ml_X4_3) (ht _ im_obj) (ht _ co_obj) rfl (by rw [hml]; exact hl.1) rfl eX2_init_37.2.2.1 (Nat.le_of_ble_eq_true rfl) (Nat.le_of_ble_eq_true rfl) ?_
  refine W.eq (g2 := F0 m 4 ls []) rfl ?_
  refine lv_aload_n hx hb eX2_init_37.2.2.2.1 rfl (lv_at hl 0 rfl) ?_
  refine lv_sipush (v := 1364) hx hb eX2_init_37.2.2.2.2.1 (by decide) ?_
  refine va_newa (atype := .int) (a0 := (1364, .inl (fun _ => 0))) (ty := .int) (N' := 1364) hx hb (ht _ ac_int) rfl hK hP hD hS hA (fun _ => rfl) (by decide) (by decide) (by decide) (Nat.le_of_ble_eq_true rfl) (Nat.le_of_ble_eq_true rfl) eX2_init_37.2.2.2.2.2.1 (fun q_1 cA H hK2 hP hD hS => ?_)
  obtain rfl := z_cls_int hK hK2
  refine W.widen (k := 1) (n := 1364) (Nat.le_of_ble_eq_true rfl) (Nat.le_of_ble_eq_true rfl) ?_
  have hP : va_P D vwCl [(h0, .inr (4, [.null, .int 0, .int 0, .null, .null, .null])), (q_1, .inl (D.1 13, 1364, .inl (fun _ => 0)))] H := hP
  have hD : va_D A [(h0, .inr (4, [.null, .int 0, .int 0, .null, .null, .null])), (q_1, .inl (D.1 13, 1364, .inl (fun _ => 0)))] := hD
  refine va_putF (D := D) (ci := 4) (v := .ref q_1) (ty := .array .int) (C := RX4) (T := TX4) (N := 6) hx hb ht inX4 tyX4 tyX4_ok nmX4 hown hK hP hD hS 0 rfl rfl 0 (by decide) (ht (.fieldLink RX4 11 "CloneVolumes$Picture" "bytes" "[I") fl_X4_11) (fun _ h9 => h9) rfl hin rfl (by decide +kernel) rfl rfl (Nat.le_of_ble_eq_true rfl) eX2_init_37.2.2.2.2.2.2.1 (fun H locs hP hD hS => ?_)
  have hP : va_P D vwCl [(h0, .inr (4, [.ref q_1, .int 0, .int 0, .null, .null, .null])), (q_1, .inl (D.1 13, 1364, .inl (fun _ => 0)))] H := hP
  have hD : va_D A [(h0, .inr (4, [.ref q_1, .int 0, .int 0, .null, .null, .null])), (q_1, .inl (D.1 13, 1364, .inl (fun _ => 0)))] := hD
  refine lv_aload_n hx hb eX2_init_37.2.2.2.2.2.2.2 rfl (lv_at hl 0 rfl) ?_
  refine lv_bipush (v := 48) hx hb eX4_init_14.1 (by decide) ?_
  refine va_newa (atype := .int) (a0 := (48, .inl (fun _ => 0))) (ty := .int) (N' := 48) hx hb (ht _ ac_int) rfl hK hP hD hS hA (fun _ => rfl) (by decide) (by decide) (by decide) (Nat.le_of_ble_eq_true rfl) (Nat.le_of_ble_eq_true rfl) eX4_init_14.2.1 (fun q_2 cA H hK2 hP hD hS => ?_)
  obtain rfl := z_cls_int hK hK2
  refine W.widen (k := 2) (n := 1412) (Nat.le_of_ble_eq_true rfl) (Nat.le_of_ble_eq_true rfl) ?_
  have hP : va_P D vwCl [(h0, .inr (4, [.ref q_1, .int 0, .int 0, .null, .null, .null])), (q_1, .inl (D.1 13, 1364, .inl (fun _ => 0))), (q_2, .inl (D.1 13, 48, .inl (fun _ => 0)))] H := hP
  have hD : va_D A [(h0, .inr (4, [.ref q_1, .int 0, .int 0, .null, .null, .null])), (q_1, .inl (D.1 13, 1364, .inl (fun _ => 0))), (q_2, .inl (D.1 13, 48, .inl (fun _ => 0)))] := hD
  refine va_putF (D := D) (ci := 4) (v := .ref q_2) (ty := .array .int) (C := RX4) (T := TX4) (N := 6) hx hb ht inX4 tyX4 tyX4_ok nmX4 hown hK hP hD hS 0 rfl rfl 3 (by decide) (ht (.fieldLink RX4 15 "CloneVolumes$Picture" "lowest" "[I") fl_X4_15) (fun _ h9 => h9) rfl hin rfl (by decide +kernel) rfl rfl (Nat.le_of_ble_eq_true rfl) eX4_init_14.2.2.1 (fun H locs hP hD hS => ?_)
  have hP : va_P D vwCl [(h0, .inr (4, [.ref q_1, .int 0, .int 0, .ref q_2, .null, .null])), (q_1, .inl (D.1 13, 1364, .inl (fun _ => 0))), (q_2, .inl (D.1 13, 48, .inl (fun _ => 0)))] H := hP
  have hD : va_D A [(h0, .inr (4, [.ref q_1, .int 0, .int 0, .ref q_2, .null, .null])), (q_1, .inl (D.1 13, 1364, .inl (fun _ => 0))), (q_2, .inl (D.1 13, 48, .inl (fun _ => 0)))] := hD
  refine lv_aload_n hx hb eX4_init_14.2.2.2.1 rfl (lv_at hl 0 rfl) ?_
  refine lv_bipush (v := 48) hx hb eX4_init_14.2.2.2.2.1 (by decide) ?_
  refine va_newa (atype := .int) (a0 := (48, .inl (fun _ => 0))) (ty := .int) (N' := 48) hx hb (ht _ ac_int) rfl hK hP hD hS hA (fun _ => rfl) (by decide) (by decide) (by decide) (Nat.le_of_ble_eq_true rfl) (Nat.le_of_ble_eq_true rfl) eX4_init_14.2.2.2.2.2.1 (fun q_3 cA H hK2 hP hD hS => ?_)
  obtain rfl := z_cls_int hK hK2
  refine W.widen (k := 3) (n := 1460) (Nat.le_of_ble_eq_true rfl) (Nat.le_of_ble_eq_true rfl) ?_
  have hP : va_P D vwCl [(h0, .inr (4, [.ref q_1, .int 0, .int 0, .ref q_2, .null, .null])), (q_1, .inl (D.1 13, 1364, .inl (fun _ => 0))), (q_2, .inl (D.1 13, 48, .inl (fun _ => 0))), (q_3, .inl (D.1 13, 48, .inl (fun _ => 0)))] H := hP
  have hD : va_D A [(h0, .inr (4, [.ref q_1, .int 0, .int 0, .ref q_2, .null, .null])), (q_1, .inl (D.1 13, 1364, .inl (fun _ => 0))), (q_2, .inl (D.1 13, 48, .inl (fun _ => 0))), (q_3, .inl (D.1 13, 48, .inl (fun _ => 0)))] := hD
  refine va_putF (D := D) (ci := 4) (v := .ref q_3) (ty := .array .int) (C := RX4) (T := TX4) (N := 6) hx hb ht inX4 tyX4 tyX4_ok nmX4 hown hK hP hD hS 0 rfl rfl 4 (by decide) (ht (.fieldLink RX4 18 "CloneVolumes$Picture" "highest" "[I") fl_X4_18) (fun _ h9 => h9) rfl hin rfl (by decide +kernel) rfl rfl (Nat.le_of_ble_eq_true rfl) eX4_init_14.2.2.2.2.2.2.1 (fun H locs hP hD hS => ?_)
  have hP : va_P D vwCl [(h0, .inr (4, [.ref q_1, .int 0, .int 0, .ref q_2, .ref q_3, .null])), (q_1, .inl (D.1 13, 1364, .inl (fun _ => 0))), (q_2, .inl (D.1 13, 48, .inl (fun _ => 0))), (q_3, .inl (D.1 13, 48, .inl (fun _ => 0)))] H := hP
  have hD : va_D A [(h0, .inr (4, [.ref q_1, .int 0, .int 0, .ref q_2, .ref q_3, .null])), (q_1, .inl (D.1 13, 1364, .inl (fun _ => 0))), (q_2, .inl (D.1 13, 48, .inl (fun _ => 0))), (q_3, .inl (D.1 13, 48, .inl (fun _ => 0)))] := hD
  refine lv_aload_n hx hb eX4_init_14.2.2.2.2.2.2.2 rfl (lv_at hl 0 rfl) ?_
  refine lv_bipush (v := 48) hx hb eX4_init_30.1 (by decide) ?_
  refine va_newa (atype := .int) (a0 := (48, .inl (fun _ => 0))) (ty := .int) (N' := 48) hx hb (ht _ ac_int) rfl hK hP hD hS hA (fun _ => rfl) (by decide) (by decide) (by decide) (Nat.le_of_ble_eq_true rfl) (Nat.le_of_ble_eq_true rfl) eX4_init_30.2.1 (fun q_4 cA H hK2 hP hD hS => ?_)
  obtain rfl := z_cls_int hK hK2
  refine W.widen (k := 4) (n := 1508) (Nat.le_of_ble_eq_true rfl) (Nat.le_of_ble_eq_true rfl) ?_
  have hP : va_P D vwCl [(h0, .inr (4, [.ref q_1, .int 0, .int 0, .ref q_2, .ref q_3, .null])), (q_1, .inl (D.1 13, 1364, .inl (fun _ => 0))), (q_2, .inl (D.1 13, 48, .inl (fun _ => 0))), (q_3, .inl (D.1 13, 48, .inl (fun _ => 0))), (q_4, .inl (D.1 13, 48, .inl (fun _ => 0)))] H := hP
  have hD : va_D A [(h0, .inr (4, [.ref q_1, .int 0, .int 0, .ref q_2, .ref q_3, .null])), (q_1, .inl (D.1 13, 1364, .inl (fun _ => 0))), (q_2, .inl (D.1 13, 48, .inl (fun _ => 0))), (q_3, .inl (D.1 13, 48, .inl (fun _ => 0))), (q_4, .inl (D.1 13, 48, .inl (fun _ => 0)))] := hD
  refine va_putF (D := D) (ci := 4) (v := .ref q_4) (ty := .array .int) (C := RX4) (T := TX4) (N := 6) hx hb ht inX4 tyX4 tyX4_ok nmX4 hown hK hP hD hS 0 rfl rfl 5 (by decide) (ht (.fieldLink RX4 21 "CloneVolumes$Picture" "refs" "[I") fl_X4_21) (fun _ h9 => h9) rfl hin rfl (by decide +kernel) rfl rfl (Nat.le_of_ble_eq_true rfl) eX4_init_30.2.2.1 (fun H locs hP hD hS => ?_)
  have hP : va_P D vwCl [(h0, .inr (4, [.ref q_1, .int 0, .int 0, .ref q_2, .ref q_3, .ref q_4])), (q_1, .inl (D.1 13, 1364, .inl (fun _ => 0))), (q_2, .inl (D.1 13, 48, .inl (fun _ => 0))), (q_3, .inl (D.1 13, 48, .inl (fun _ => 0))), (q_4, .inl (D.1 13, 48, .inl (fun _ => 0)))] H := hP
  have hD : va_D A [(h0, .inr (4, [.ref q_1, .int 0, .int 0, .ref q_2, .ref q_3, .ref q_4])), (q_1, .inl (D.1 13, 1364, .inl (fun _ => 0))), (q_2, .inl (D.1 13, 48, .inl (fun _ => 0))), (q_3, .inl (D.1 13, 48, .inl (fun _ => 0))), (q_4, .inl (D.1 13, 48, .inl (fun _ => 0)))] := hD
  have hP9 := hP.sub (ws' := [(h0, .inr (4, [.ref q_1, .int 0, .int 0, .ref q_2, .ref q_3, .ref q_4])), (q_1, .inl (D.1 13, 1364, .inl (fun _ => 0))), (q_2, .inl (D.1 13, 48, .inl (fun _ => 0))), (q_3, .inl (D.1 13, 48, .inl (fun _ => 0))), (q_4, .inl (D.1 13, 48, .inl (fun _ => 0)))]) [0, 1, 2, 3, 4] rfl
  have hD9 := hD.sub (ws' := [(h0, .inr (4, [.ref q_1, .int 0, .int 0, .ref q_2, .ref q_3, .ref q_4])), (q_1, .inl (D.1 13, 1364, .inl (fun _ => 0))), (q_2, .inl (D.1 13, 48, .inl (fun _ => 0))), (q_3, .inl (D.1 13, 48, .inl (fun _ => 0))), (q_4, .inl (D.1 13, 48, .inl (fun _ => 0)))]) [0, 1, 2, 3, 4] (by decide) rfl
  refine W.widen (k := 4) (n := 1508) (Nat.le_of_ble_eq_true rfl) (Nat.le_of_ble_eq_true rfl) ?_
  exact W.vret hx hb hr (fun t ht hW => ⟨⟨(q_1, q_2, q_3, q_4), rfl, trivial, by rw [ht]; exact hP9, va_K.moved hW.alike hK, hD9⟩, hS.F ht⟩) hS.2.2 eX4_init_30.2.2.2.1
set_option maxHeartbeats 4000000 in
set_option maxRecDepth 100000 in
theorem k_X10_init (l : Launch) (D : va_G) (sz : Nat) (h0 : Nat) : Met l yX10_init (wz yX10_init cX10_init 1 none) { frames := 1, cells := 3, slots := 624, locals := 60 } (va_Pc [.ref h0] (zW D sz [(h0, .inr (10, [.null, .int 0, .null, .null]))])) (va_Qv (fun (_ : ((Nat) × (Nat) × (Nat))) => True) (fun u t => zB D (va_A [(h0, .inr (10, [.null, .int 0, .null, .null]))] sz) ((fun (u : ((Nat) × (Nat) × (Nat))) => [(h0, .inr (10, [.ref u.1, .int 0, .ref u.2.1, .ref u.2.2])), (u.1, .inl (D.1 13, 48, .inl (fun _ => 0))), (u.2.1, .inl (D.1 13, 288, .inl (fun _ => 0))), (u.2.2, .inl (D.1 13, 288, .inl (fun _ => 0)))]) u) t) (va_A [(h0, .inr (10, [.null, .int 0, .null, .null]))] sz)) 3 624 (va_A [(h0, .inr (10, [.null, .int 0, .null, .null]))] sz) := by
  refine Met.ofW (cc := cX10_init) (maxL := 1) (ret := none) (by decide) rfl ?_
  intro p e s m args below meth c s₁ B hml hv
  obtain ⟨rfl, hsz, hP, hK, hD0⟩ := hv
  have hx := B.exec
  have hb := B.bytes
  have hr := B.returns
  have hts := atoms_spec (ws := wz yX10_init cX10_init 1 none) B.pre
  have ht : ∀ w ∈ lw_gd, w.before _ s = true := fun w h => hts w (List.mem_cons_of_mem _ h)
  have hown : s.vm.findClass RX10 = some m.cls := findClass_of_methodNamed B.named
  have hlocks := B.notSynchronized
  have hin : meth.name = "<init>" := (name_of_methodNamed B.named B.method).1
  subst hsz
  have hD := hD0.self (sz := s.heap.size)
  generalize hAe : va_A [(h0, .inr (10, [.null, .int 0, .null, .null]))] s.heap.size = A at hD ⊢
  have hA : ∀ q : Nat, s.heap.size ≤ q → A q := fun q h => by rw [← hAe]; exact Or.inr h
  have hS : va_S A s.heap s.heap [] := va_S.rf
  have zi0 : (0 : Int32).toInt = 0 := rfl
  have zi1 : (1 : Int32).toInt = 1 := rfl
  have zi2 : (2 : Int32).toInt = 2 := rfl
  have zi3 : (3 : Int32).toInt = 3 := rfl
  have zi4 : (4 : Int32).toInt = 4 := rfl
  have hl := lv_entry ([.ref h0]) (n := 1) (Nat.le_of_ble_eq_true rfl)
  rw [lg_entry_eq]
  generalize (lg_sl ([.ref h0]) ++ List.replicate (1 - (lg_sl ([.ref h0])).length) Slot.unset).toArray = ls at hl ⊢
  have hl : lv_has ls 1 [(0, .ref h0)] := hl
  refine lv_aload_n hx hb eX0_init_0.2.2.2.2.2.2.2 rfl (lv_at hl 0 rfl) ?_
  refine W.objInit hx hb hown (ht _ ml_X10_3) (ht _ im_obj) (ht _ co_obj) rfl (by rw [hml]; exact hl.1) rfl eX10_init_1.1 (Nat.le_of_ble_eq_true rfl) (Nat.le_of_ble_eq_true rfl) ?_
  refine W.eq (g2 := F0 m 4 ls []) rfl ?_
  refine lv_aload_n hx hb eX10_init_1.2.1 rfl (lv_at hl 0 rfl) ?_
  refine lv_bipush (v := 48) hx hb eX10_init_1.2.2.1 (by decide) ?_
  refine va_newa (atype := .int) (a0 := (48, .inl (fun _ => 0))) (ty := .int) (N' := 48) hx hb (ht _ ac_int) rfl hK hP hD hS hA (fun _ => rfl) (by decide) (by decide) (by decide) (Nat.le_of_ble_eq_true rfl) (Nat.le_of_ble_eq_true rfl) eX10_init_1.2.2.2.1 (fun q_1 cA H hK2 hP hD hS => ?_)
  obtain rfl := z_cls_int hK hK2
  refine W.widen (k := 1) (n := 48) (Nat.le_of_ble_eq_true rfl) (Nat.le_of_ble_eq_true rfl) ?_
  have hP : va_P D vwCl [(h0, .inr (10, [.null, .int 0, .null, .null])), (q_1, .inl (D.1 13, 48, .inl (fun _ => 0)))] H := hP
  have hD : va_D A [(h0, .inr (10, [.null, .int 0, .null, .null])), (q_1, .inl (D.1 13, 48, .inl (fun _ => 0)))] := hD
  refine va_putF (D := D) (ci := 10) (v := .ref q_1) (ty := .array .int) (C := RX10) (T := TX10) (N := 4) hx hb ht inX10 tyX10 tyX10_ok nmX10 hown hK hP hD hS 0 rfl rfl 0 (by decide) (ht (.fieldLink RX10 9 "CloneVolumes$Walk" "row" "[I") fl_X10_9) (fun _ h9 => h9) rfl hin rfl (by decide +kernel) rfl rfl (Nat.le_of_ble_eq_true rfl) eX10_init_1.2.2.2.2.1 (fun H locs hP hD hS => ?_)
  have hP : va_P D vwCl [(h0, .inr (10, [.ref q_1, .int 0, .null, .null])), (q_1, .inl (D.1 13, 48, .inl (fun _ => 0)))] H := hP
  have hD : va_D A [(h0, .inr (10, [.ref q_1, .int 0, .null, .null])), (q_1, .inl (D.1 13, 48, .inl (fun _ => 0)))] := hD
  refine lv_aload_n hx hb eX10_init_1.2.2.2.2.2.1 rfl (lv_at hl 0 rfl) ?_
  refine lv_sipush (v := 288) hx hb eX10_init_1.2.2.2.2.2.2.1 (by decide) ?_
  refine va_newa (atype := .int) (a0 := (288, .inl (fun _ => 0))) (ty := .int) (N' := 288) hx hb (ht _ ac_int) rfl hK hP hD hS hA (fun _ => rfl) (by decide) (by decide) (by decide) (Nat.le_of_ble_eq_true rfl) (Nat.le_of_ble_eq_true rfl) eX10_init_1.2.2.2.2.2.2.2 (fun q_2 cA H hK2 hP hD hS => ?_)
  obtain rfl := z_cls_int hK hK2
  refine W.widen (k := 2) (n := 336) (Nat.le_of_ble_eq_true rfl) (Nat.le_of_ble_eq_true rfl) ?_
  have hP : va_P D vwCl [(h0, .inr (10, [.ref q_1, .int 0, .null, .null])), (q_1, .inl (D.1 13, 48, .inl (fun _ => 0))), (q_2, .inl (D.1 13, 288, .inl (fun _ => 0)))] H := hP
  have hD : va_D A [(h0, .inr (10, [.ref q_1, .int 0, .null, .null])), (q_1, .inl (D.1 13, 48, .inl (fun _ => 0))), (q_2, .inl (D.1 13, 288, .inl (fun _ => 0)))] := hD
  refine va_putF (D := D) (ci := 10) (v := .ref q_2) (ty := .array .int) (C := RX10) (T := TX10) (N := 4) hx hb ht inX10 tyX10 tyX10_ok nmX10 hown hK hP hD hS 0 rfl rfl 2 (by decide) (ht (.fieldLink RX10 15 "CloneVolumes$Walk" "keys" "[I") fl_X10_15) (fun _ h9 => h9) rfl hin rfl (by decide +kernel) rfl rfl (Nat.le_of_ble_eq_true rfl) eX10_init_18.1 (fun H locs hP hD hS => ?_)
  have hP : va_P D vwCl [(h0, .inr (10, [.ref q_1, .int 0, .ref q_2, .null])), (q_1, .inl (D.1 13, 48, .inl (fun _ => 0))), (q_2, .inl (D.1 13, 288, .inl (fun _ => 0)))] H := hP
  have hD : va_D A [(h0, .inr (10, [.ref q_1, .int 0, .ref q_2, .null])), (q_1, .inl (D.1 13, 48, .inl (fun _ => 0))), (q_2, .inl (D.1 13, 288, .inl (fun _ => 0)))] := hD
  refine lv_aload_n hx hb eX10_init_18.2.1 rfl (lv_at hl 0 rfl) ?_
  refine lv_sipush (v := 288) hx hb eX10_init_18.2.2.1 (by decide) ?_
  refine va_newa (atype := .int) (a0 := (288, .inl (fun _ => 0))) (ty := .int) (N' := 288) hx hb (ht _ ac_int) rfl hK hP hD hS hA (fun _ => rfl) (by decide) (by decide) (by decide) (Nat.le_of_ble_eq_true rfl) (Nat.le_of_ble_eq_true rfl) eX10_init_18.2.2.2.1 (fun q_3 cA H hK2 hP hD hS => ?_)
  obtain rfl := z_cls_int hK hK2
  refine W.widen (k := 3) (n := 624) (Nat.le_of_ble_eq_true rfl) (Nat.le_of_ble_eq_true rfl) ?_
  have hP : va_P D vwCl [(h0, .inr (10, [.ref q_1, .int 0, .ref q_2, .null])), (q_1, .inl (D.1 13, 48, .inl (fun _ => 0))), (q_2, .inl (D.1 13, 288, .inl (fun _ => 0))), (q_3, .inl (D.1 13, 288, .inl (fun _ => 0)))] H := hP
  have hD : va_D A [(h0, .inr (10, [.ref q_1, .int 0, .ref q_2, .null])), (q_1, .inl (D.1 13, 48, .inl (fun _ => 0))), (q_2, .inl (D.1 13, 288, .inl (fun _ => 0))), (q_3, .inl (D.1 13, 288, .inl (fun _ => 0)))] := hD
  refine va_putF (D := D) (ci := 10) (v := .ref q_3) (ty := .array .int) (C := RX10) (T := TX10) (N := 4) hx hb ht inX10 tyX10 tyX10_ok nmX10 hown hK hP hD hS 0 rfl rfl 3 (by decide) (ht (.fieldLink RX10 18 "CloneVolumes$Walk" "values" "[I") fl_X10_18) (fun _ h9 => h9) rfl hin rfl (by decide +kernel) rfl rfl (Nat.le_of_ble_eq_true rfl) eX10_init_18.2.2.2.2.1 (fun H locs hP hD hS => ?_)
  have hP : va_P D vwCl [(h0, .inr (10, [.ref q_1, .int 0, .ref q_2, .ref q_3])), (q_1, .inl (D.1 13, 48, .inl (fun _ => 0))), (q_2, .inl (D.1 13, 288, .inl (fun _ => 0))), (q_3, .inl (D.1 13, 288, .inl (fun _ => 0)))] H := hP
  have hD : va_D A [(h0, .inr (10, [.ref q_1, .int 0, .ref q_2, .ref q_3])), (q_1, .inl (D.1 13, 48, .inl (fun _ => 0))), (q_2, .inl (D.1 13, 288, .inl (fun _ => 0))), (q_3, .inl (D.1 13, 288, .inl (fun _ => 0)))] := hD
  have hP9 := hP.sub (ws' := [(h0, .inr (10, [.ref q_1, .int 0, .ref q_2, .ref q_3])), (q_1, .inl (D.1 13, 48, .inl (fun _ => 0))), (q_2, .inl (D.1 13, 288, .inl (fun _ => 0))), (q_3, .inl (D.1 13, 288, .inl (fun _ => 0)))]) [0, 1, 2, 3] rfl
  have hD9 := hD.sub (ws' := [(h0, .inr (10, [.ref q_1, .int 0, .ref q_2, .ref q_3])), (q_1, .inl (D.1 13, 48, .inl (fun _ => 0))), (q_2, .inl (D.1 13, 288, .inl (fun _ => 0))), (q_3, .inl (D.1 13, 288, .inl (fun _ => 0)))]) [0, 1, 2, 3] (by decide) rfl
  refine W.widen (k := 3) (n := 624) (Nat.le_of_ble_eq_true rfl) (Nat.le_of_ble_eq_true rfl) ?_
  exact W.vret hx hb hr (fun t ht hW => ⟨⟨(q_1, q_2, q_3), rfl, trivial, by rw [ht]; exact hP9, va_K.moved hW.alike hK, hD9⟩, hS.F ht⟩) hS.2.2 eX10_init_18.2.2.2.2.2.1
set_option maxHeartbeats 4000000 in
set_option maxRecDepth 100000 in
theorem k_X2_init (l : Launch) (D : va_G) (sz : Nat) (b0 qS vS : Nat) (fS : Nat → Int32) (h0 : Nat) (hB : ∀ q, va_A [(h0, .inr (2, [.null, .null, .null, .int 0, .null, .int 0]))] sz q → b0 ≤ q) : Met l yX2_init (wz yX2_init cX2_init 1 none) { frames := 1, cells := 4, slots := 200, locals := 60 } (va_Pc [.ref h0] (fun U => zW D sz [(h0, .inr (2, [.null, .null, .null, .int 0, .null, .int 0]))] U ∧ EE b0 qS vS fS U)) (va_Qv (fun (_ : ((Nat) × (Nat) × (Nat) × (Nat))) => True) (fun u t => zB D (va_A [(h0, .inr (2, [.null, .null, .null, .int 0, .null, .int 0]))] sz) ((fun (u : ((Nat) × (Nat) × (Nat) × (Nat))) => [(h0, .inr (2, [.ref u.1, .ref u.2.1, .ref u.2.2.1, .int 0, .ref u.2.2.2, .int 0])), (u.1, .inl (D.1 13, 60, .inl (fun _ => 0))), (u.2.1, .inl (D.1 13, 60, .inl (fun _ => 0))), (u.2.2.1, .inl (D.1 13, 60, .inl (fun _ => 0))), (u.2.2.2, .inl (D.1 17, 20, .inr (.inr (.inr (.inr (fun _ => none))))))]) u) t) (va_A [(h0, .inr (2, [.null, .null, .null, .int 0, .null, .int 0]))] sz)) 4 200 (va_A [(h0, .inr (2, [.null, .null, .null, .int 0, .null, .int 0]))] sz) := by
  refine Met.ofW (cc := cX2_init) (maxL := 1) (ret := none) (by decide) rfl ?_
  intro p e s m args below meth c s₁ B hml hv
  obtain ⟨rfl, ⟨hsz, hP, hK, hD0⟩, hE⟩ := hv
  have hx := B.exec
  have hb := B.bytes
  have hr := B.returns
  have hts := atoms_spec (ws := wz yX2_init cX2_init 1 none) B.pre
  have ht : ∀ w ∈ lw_gd, w.before _ s = true := fun w h => hts w (List.mem_cons_of_mem _ h)
  have hown : s.vm.findClass RX2 = some m.cls := findClass_of_methodNamed B.named
  have hlocks := B.notSynchronized
  have hin : meth.name = "<init>" := (name_of_methodNamed B.named B.method).1
  subst hsz
  have hD := hD0.self (sz := s.heap.size)
  have hAb := hB
  generalize hAe : va_A [(h0, .inr (2, [.null, .null, .null, .int 0, .null, .int 0]))] s.heap.size = A at hAb hD ⊢
  have hA : ∀ q : Nat, s.heap.size ≤ q → A q := fun q h => by rw [← hAe]; exact Or.inr h
  have hS : va_S A s.heap s.heap [] := va_S.rf
  have zi0 : (0 : Int32).toInt = 0 := rfl
  have zi1 : (1 : Int32).toInt = 1 := rfl
  have zi2 : (2 : Int32).toInt = 2 := rfl
  have zi3 : (3 : Int32).toInt = 3 := rfl
  have zi4 : (4 : Int32).toInt = 4 := rfl
  have hl := lv_entry ([.ref h0]) (n := 1) (Nat.le_of_ble_eq_true rfl)
  rw [lg_entry_eq]
  generalize (lg_sl ([.ref h0]) ++ List.replicate (1 - (lg_sl ([.ref h0])).length) Slot.unset).toArray = ls at hl ⊢
  have hl : lv_has ls 1 [(0, .ref h0)] := hl
  refine lv_aload_n hx hb eX10_init_18.2.2.2.2.2.2.1 rfl (lv_at hl 0 rfl) ?_
  refine W.objInit hx hb hown (ht _ ml_X2_3) (ht _ im_obj) (ht _ co_obj) rfl (by rw [hml]; exact hl.1) rfl eX10_init_18.2.2.2.2.2.2.2 (Nat.le_of_ble_eq_true rfl) (Nat.le_of_ble_eq_true rfl) ?_
  refine W.eq (g2 := F0 m 4 ls []) rfl ?_
  refine lv_aload_n hx hb eX2_init_4.1 rfl (lv_at hl 0 rfl) ?_
  refine lv_bipush (v := 60) hx hb eX2_init_4.2.1 (by decide) ?_
  refine va_newa (atype := .int) (a0 := (60, .inl (fun _ => 0))) (ty := .int) (N' := 60) hx hb (ht _ ac_int) rfl hK hP hD hS hA (fun _ => rfl) (by decide) (by decide) (by decide) (Nat.le_of_ble_eq_true rfl) (Nat.le_of_ble_eq_true rfl) eX2_init_4.2.2.1 (fun q_1 cA H hK2 hP hD hS => ?_)
  obtain rfl := z_cls_int hK hK2
  refine W.widen (k := 1) (n := 60) (Nat.le_of_ble_eq_true rfl) (Nat.le_of_ble_eq_true rfl) ?_
  have hP : va_P D vwCl [(h0, .inr (2, [.null, .null, .null, .int 0, .null, .int 0])), (q_1, .inl (D.1 13, 60, .inl (fun _ => 0)))] H := hP
  have hD : va_D A [(h0, .inr (2, [.null, .null, .null, .int 0, .null, .int 0])), (q_1, .inl (D.1 13, 60, .inl (fun _ => 0)))] := hD
  refine va_putF (D := D) (ci := 2) (v := .ref q_1) (ty := .array .int) (C := RX2) (T := TX2) (N := 6) hx hb ht inX2 tyX2 tyX2_ok nmX2 hown hK hP hD hS 0 rfl rfl 0 (by decide) (ht (.fieldLink RX2 11 "CloneVolumes$History" "acts" "[I") fl_X2_11) (fun _ h9 => h9) rfl hin rfl (by decide +kernel) rfl rfl (Nat.le_of_ble_eq_true rfl) eX2_init_4.2.2.2.1 (fun H locs hP hD hS => ?_)
  have hP : va_P D vwCl [(h0, .inr (2, [.ref q_1, .null, .null, .int 0, .null, .int 0])), (q_1, .inl (D.1 13, 60, .inl (fun _ => 0)))] H := hP
  have hD : va_D A [(h0, .inr (2, [.ref q_1, .null, .null, .int 0, .null, .int 0])), (q_1, .inl (D.1 13, 60, .inl (fun _ => 0)))] := hD
  refine lv_aload_n hx hb eX2_init_4.2.2.2.2.1 rfl (lv_at hl 0 rfl) ?_
  refine lv_bipush (v := 60) hx hb eX2_init_4.2.2.2.2.2.1 (by decide) ?_
  refine va_newa (atype := .int) (a0 := (60, .inl (fun _ => 0))) (ty := .int) (N' := 60) hx hb (ht _ ac_int) rfl hK hP hD hS hA (fun _ => rfl) (by decide) (by decide) (by decide) (Nat.le_of_ble_eq_true rfl) (Nat.le_of_ble_eq_true rfl) eX2_init_4.2.2.2.2.2.2.1 (fun q_2 cA H hK2 hP hD hS => ?_)
  obtain rfl := z_cls_int hK hK2
  refine W.widen (k := 2) (n := 120) (Nat.le_of_ble_eq_true rfl) (Nat.le_of_ble_eq_true rfl) ?_
  have hP : va_P D vwCl [(h0, .inr (2, [.ref q_1, .null, .null, .int 0, .null, .int 0])), (q_1, .inl (D.1 13, 60, .inl (fun _ => 0))), (q_2, .inl (D.1 13, 60, .inl (fun _ => 0)))] H := hP
  have hD : va_D A [(h0, .inr (2, [.ref q_1, .null, .null, .int 0, .null, .int 0])), (q_1, .inl (D.1 13, 60, .inl (fun _ => 0))), (q_2, .inl (D.1 13, 60, .inl (fun _ => 0)))] := hD
  refine va_putF (D := D) (ci := 2) (v := .ref q_2) (ty := .array .int) (C := RX2) (T := TX2) (N := 6) hx hb ht inX2 tyX2 tyX2_ok nmX2 hown hK hP hD hS 0 rfl rfl 1 (by decide) (ht (.fieldLink RX2 15 "CloneVolumes$History" "volumes" "[I") fl_X2_15) (fun _ h9 => h9) rfl hin rfl (by decide +kernel) rfl rfl (Nat.le_of_ble_eq_true rfl) eX2_init_4.2.2.2.2.2.2.2 (fun H locs hP hD hS => ?_)
  have hP : va_P D vwCl [(h0, .inr (2, [.ref q_1, .ref q_2, .null, .int 0, .null, .int 0])), (q_1, .inl (D.1 13, 60, .inl (fun _ => 0))), (q_2, .inl (D.1 13, 60, .inl (fun _ => 0)))] H := hP
  have hD : va_D A [(h0, .inr (2, [.ref q_1, .ref q_2, .null, .int 0, .null, .int 0])), (q_1, .inl (D.1 13, 60, .inl (fun _ => 0))), (q_2, .inl (D.1 13, 60, .inl (fun _ => 0)))] := hD
  refine lv_aload_n hx hb eX2_init_20.1 rfl (lv_at hl 0 rfl) ?_
  refine lv_bipush (v := 60) hx hb eX2_init_20.2.1 (by decide) ?_
  refine va_newa (atype := .int) (a0 := (60, .inl (fun _ => 0))) (ty := .int) (N' := 60) hx hb (ht _ ac_int) rfl hK hP hD hS hA (fun _ => rfl) (by decide) (by decide) (by decide) (Nat.le_of_ble_eq_true rfl) (Nat.le_of_ble_eq_true rfl) eX2_init_20.2.2.1 (fun q_3 cA H hK2 hP hD hS => ?_)
  obtain rfl := z_cls_int hK hK2
  refine W.widen (k := 3) (n := 180) (Nat.le_of_ble_eq_true rfl) (Nat.le_of_ble_eq_true rfl) ?_
  have hP : va_P D vwCl [(h0, .inr (2, [.ref q_1, .ref q_2, .null, .int 0, .null, .int 0])), (q_1, .inl (D.1 13, 60, .inl (fun _ => 0))), (q_2, .inl (D.1 13, 60, .inl (fun _ => 0))), (q_3, .inl (D.1 13, 60, .inl (fun _ => 0)))] H := hP
  have hD : va_D A [(h0, .inr (2, [.ref q_1, .ref q_2, .null, .int 0, .null, .int 0])), (q_1, .inl (D.1 13, 60, .inl (fun _ => 0))), (q_2, .inl (D.1 13, 60, .inl (fun _ => 0))), (q_3, .inl (D.1 13, 60, .inl (fun _ => 0)))] := hD
  refine va_putF (D := D) (ci := 2) (v := .ref q_3) (ty := .array .int) (C := RX2) (T := TX2) (N := 6) hx hb ht inX2 tyX2 tyX2_ok nmX2 hown hK hP hD hS 0 rfl rfl 2 (by decide) (ht (.fieldLink RX2 18 "CloneVolumes$History" "wrote" "[I") fl_X2_18) (fun _ h9 => h9) rfl hin rfl (by decide +kernel) rfl rfl (Nat.le_of_ble_eq_true rfl) eX2_init_20.2.2.2.1 (fun H locs hP hD hS => ?_)
  have hP : va_P D vwCl [(h0, .inr (2, [.ref q_1, .ref q_2, .ref q_3, .int 0, .null, .int 0])), (q_1, .inl (D.1 13, 60, .inl (fun _ => 0))), (q_2, .inl (D.1 13, 60, .inl (fun _ => 0))), (q_3, .inl (D.1 13, 60, .inl (fun _ => 0)))] H := hP
  have hD : va_D A [(h0, .inr (2, [.ref q_1, .ref q_2, .ref q_3, .int 0, .null, .int 0])), (q_1, .inl (D.1 13, 60, .inl (fun _ => 0))), (q_2, .inl (D.1 13, 60, .inl (fun _ => 0))), (q_3, .inl (D.1 13, 60, .inl (fun _ => 0)))] := hD
  refine lv_aload_n hx hb eX2_init_20.2.2.2.2.1 rfl (lv_at hl 0 rfl) ?_
  refine lv_bipush (v := 20) hx hb eX2_init_20.2.2.2.2.2.1 (by decide) ?_
  refine va_newq (C := "CloneVolumes$State") (N' := 20) hx hb hown (ht _ cx_X2_21) hE.1.2.2.2.2.2.2.1 hK hP hD hS hA (by decide) (by decide) (by decide) (Nat.le_of_ble_eq_true rfl) (Nat.le_of_ble_eq_true rfl) eX2_init_20.2.2.2.2.2.2.1 (fun q_4 cA H hK2 hP hD hS => ?_)
  refine W.widen (k := 4) (n := 200) (Nat.le_of_ble_eq_true rfl) (Nat.le_of_ble_eq_true rfl) ?_
  obtain rfl := z_cls_obj hK hK2
  have hP : va_P D vwCl [(h0, .inr (2, [.ref q_1, .ref q_2, .ref q_3, .int 0, .null, .int 0])), (q_1, .inl (D.1 13, 60, .inl (fun _ => 0))), (q_2, .inl (D.1 13, 60, .inl (fun _ => 0))), (q_3, .inl (D.1 13, 60, .inl (fun _ => 0))), (q_4, .inl (D.1 17, 20, .inr (.inr (.inr (.inr (fun _ => none))))))] H := hP
  have hD : va_D A [(h0, .inr (2, [.ref q_1, .ref q_2, .ref q_3, .int 0, .null, .int 0])), (q_1, .inl (D.1 13, 60, .inl (fun _ => 0))), (q_2, .inl (D.1 13, 60, .inl (fun _ => 0))), (q_3, .inl (D.1 13, 60, .inl (fun _ => 0))), (q_4, .inl (D.1 17, 20, .inr (.inr (.inr (.inr (fun _ => none))))))] := hD
  refine va_putF (D := D) (ci := 2) (v := .ref q_4) (ty := .array (.object "CloneVolumes$State")) (C := RX2) (T := TX2) (N := 6) hx hb ht inX2 tyX2 tyX2_ok nmX2 hown hK hP hD hS 0 rfl rfl 4 (by decide) (ht (.fieldLink RX2 23 "CloneVolumes$History" "past" "[LCloneVolumes$State;") fl_X2_23) (fun _ h9 => h9) rfl hin rfl (by decide +kernel) rfl rfl (Nat.le_of_ble_eq_true rfl) eX2_init_20.2.2.2.2.2.2.2 (fun H locs hP hD hS => ?_)
  have hP : va_P D vwCl [(h0, .inr (2, [.ref q_1, .ref q_2, .ref q_3, .int 0, .ref q_4, .int 0])), (q_1, .inl (D.1 13, 60, .inl (fun _ => 0))), (q_2, .inl (D.1 13, 60, .inl (fun _ => 0))), (q_3, .inl (D.1 13, 60, .inl (fun _ => 0))), (q_4, .inl (D.1 17, 20, .inr (.inr (.inr (.inr (fun _ => none))))))] H := hP
  have hD : va_D A [(h0, .inr (2, [.ref q_1, .ref q_2, .ref q_3, .int 0, .ref q_4, .int 0])), (q_1, .inl (D.1 13, 60, .inl (fun _ => 0))), (q_2, .inl (D.1 13, 60, .inl (fun _ => 0))), (q_3, .inl (D.1 13, 60, .inl (fun _ => 0))), (q_4, .inl (D.1 17, 20, .inr (.inr (.inr (.inr (fun _ => none))))))] := hD
  have hP9 := hP.sub (ws' := [(h0, .inr (2, [.ref q_1, .ref q_2, .ref q_3, .int 0, .ref q_4, .int 0])), (q_1, .inl (D.1 13, 60, .inl (fun _ => 0))), (q_2, .inl (D.1 13, 60, .inl (fun _ => 0))), (q_3, .inl (D.1 13, 60, .inl (fun _ => 0))), (q_4, .inl (D.1 17, 20, .inr (.inr (.inr (.inr (fun _ => none))))))]) [0, 1, 2, 3, 4] rfl
  have hD9 := hD.sub (ws' := [(h0, .inr (2, [.ref q_1, .ref q_2, .ref q_3, .int 0, .ref q_4, .int 0])), (q_1, .inl (D.1 13, 60, .inl (fun _ => 0))), (q_2, .inl (D.1 13, 60, .inl (fun _ => 0))), (q_3, .inl (D.1 13, 60, .inl (fun _ => 0))), (q_4, .inl (D.1 17, 20, .inr (.inr (.inr (.inr (fun _ => none))))))]) [0, 1, 2, 3, 4] (by decide) rfl
  refine W.widen (k := 4) (n := 200) (Nat.le_of_ble_eq_true rfl) (Nat.le_of_ble_eq_true rfl) ?_
  exact W.vret hx hb hr (fun t ht hW => ⟨⟨(q_1, q_2, q_3, q_4), rfl, trivial, by rw [ht]; exact hP9, va_K.moved hW.alike hK, hD9⟩, hS.F ht⟩) hS.2.2 eX2_init_37.1
theorem co_J0_toCharArray_70df3 : Cond.code yJ0_toCharArray_70df3 cJ0_toCharArray_70df3 1 (some (.array .char)) ∈ lw_gd := zm (lw_g_1 (List.mem_of_getElem? (i := 59) (by decide +kernel))) rfl
theorem co_X0_init : Cond.code yX0_init cX0_init 1 none ∈ lw_gd := zm (lw_g_2 (List.mem_of_getElem? (i := 15) (by decide +kernel))) rfl
theorem co_X5_clear : Cond.code yX5_clear cX5_clear 2 none ∈ lw_gd := zm (lw_g_2 (List.mem_of_getElem? (i := 33) (by decide +kernel))) rfl
theorem cx_X5_27 : Cond.classLink RX5 27 RX0 ∈ lw_gd := zm (lw_g_2 (List.mem_of_getElem? (i := 11) (by decide +kernel))) rfl
theorem fl_X3_11 : Cond.fieldLink RX3 11 "CloneVolumes$Machine" "stack" "[I" ∈ lw_gd := zm (lw_g_2 (List.mem_of_getElem? (i := 193) (by decide +kernel))) rfl
theorem fl_X3_15 : Cond.fieldLink RX3 15 "CloneVolumes$Machine" "state" "LCloneVolumes$State;" ∈ lw_gd := zm (lw_g_2 (List.mem_of_getElem? (i := 209) (by decide +kernel))) rfl
theorem fl_X5_15 : Cond.fieldLink RX5 15 "CloneVolumes$Plan" "kinds" "[I" ∈ lw_gd := zm (lw_g_2 (List.mem_of_getElem? (i := 53) (by decide +kernel))) rfl
theorem fl_X5_18 : Cond.fieldLink RX5 18 "CloneVolumes$Plan" "who" "[I" ∈ lw_gd := zm (lw_g_2 (List.mem_of_getElem? (i := 55) (by decide +kernel))) rfl
theorem fl_X5_21 : Cond.fieldLink RX5 21 "CloneVolumes$Plan" "first" "[I" ∈ lw_gd := zm (lw_g_2 (List.mem_of_getElem? (i := 57) (by decide +kernel))) rfl
theorem fl_X5_24 : Cond.fieldLink RX5 24 "CloneVolumes$Plan" "second" "[I" ∈ lw_gd := zm (lw_g_2 (List.mem_of_getElem? (i := 59) (by decide +kernel))) rfl
theorem fl_X5_30 : Cond.fieldLink RX5 30 "CloneVolumes$Plan" "code" "LCloneVolumes$Code;" ∈ lw_gd := zm (lw_g_2 (List.mem_of_getElem? (i := 61) (by decide +kernel))) rfl
theorem fl_X5_34 : Cond.fieldLink RX5 34 "CloneVolumes$Plan" "begins" "[I" ∈ lw_gd := zm (lw_g_2 (List.mem_of_getElem? (i := 65) (by decide +kernel))) rfl
theorem fl_X5_37 : Cond.fieldLink RX5 37 "CloneVolumes$Plan" "ends" "[I" ∈ lw_gd := zm (lw_g_2 (List.mem_of_getElem? (i := 68) (by decide +kernel))) rfl
theorem fl_X5_43 : Cond.fieldLink RX5 43 "CloneVolumes$Plan" "statements" "I" ∈ lw_gd := zm (lw_g_2 (List.mem_of_getElem? (i := 43) (by decide +kernel))) rfl
theorem fl_X5_47 : Cond.fieldLink RX5 47 "CloneVolumes$Plan" "volumes" "I" ∈ lw_gd := zm (lw_g_2 (List.mem_of_getElem? (i := 46) (by decide +kernel))) rfl
theorem fl_X5_50 : Cond.fieldLink RX5 50 "CloneVolumes$Plan" "changes" "I" ∈ lw_gd := zm (lw_g_2 (List.mem_of_getElem? (i := 49) (by decide +kernel))) rfl
theorem fl_X5_53 : Cond.fieldLink RX5 53 "CloneVolumes$Plan" "churn" "I" ∈ lw_gd := zm (lw_g_2 (List.mem_of_getElem? (i := 40) (by decide +kernel))) rfl
theorem fl_X5_56 : Cond.fieldLink RX5 56 "CloneVolumes$Code" "size" "I" ∈ lw_gd := zm (lw_g_2 (List.mem_of_getElem? (i := 21) (by decide +kernel))) rfl
theorem fl_X5_9 : Cond.fieldLink RX5 9 "CloneVolumes$Plan" "names" "[I" ∈ lw_gd := zm (lw_g_2 (List.mem_of_getElem? (i := 51) (by decide +kernel))) rfl
theorem fl_X6_23 : Cond.fieldLink RX6 23 "CloneVolumes$Reader" "words" "[C" ∈ lw_gd := zm (lw_g_1 (List.mem_of_getElem? (i := 106) (by decide +kernel))) rfl
theorem fl_X6_27 : Cond.fieldLink RX6 27 "CloneVolumes$Reader" "tape" "LCloneVolumes$Tape;" ∈ lw_gd := zm (lw_g_1 (List.mem_of_getElem? (i := 105) (by decide +kernel))) rfl
theorem fl_X6_9 : Cond.fieldLink RX6 9 "CloneVolumes$Reader" "place" "I" ∈ lw_gd := zm (lw_g_1 (List.mem_of_getElem? (i := 103) (by decide +kernel))) rfl
theorem ia_X0 : Cond.instantiable RX0 2 ∈ lw_gd := zm (lw_g_2 (List.mem_of_getElem? (i := 12) (by decide +kernel))) rfl
theorem im_J0_toCharArray_70df3 : Cond.instanceMethod yJ0_toCharArray_70df3 ∈ lw_gd := zm (lw_g_1 (List.mem_of_getElem? (i := 57) (by decide +kernel))) rfl
theorem im_X0_init : Cond.instanceMethod yX0_init ∈ lw_gd := zm (lw_g_2 (List.mem_of_getElem? (i := 14) (by decide +kernel))) rfl
theorem im_X5_clear : Cond.instanceMethod yX5_clear ∈ lw_gd := zm (lw_g_2 (List.mem_of_getElem? (i := 31) (by decide +kernel))) rfl
theorem in_X0 : Cond.initialized RX0 ∈ lw_gd := zm (lw_g_1 (List.mem_of_getElem? (i := 13) (by decide +kernel))) rfl
theorem in_X5 : Cond.initialized RX5 ∈ lw_gd := zm (lw_g_1 (List.mem_of_getElem? (i := 12) (by decide +kernel))) rfl
theorem ml_X3_3 : Cond.methodLink RX3 3 objectInit ∈ lw_gd := zm (lw_g_2 (List.mem_of_getElem? (i := 192) (by decide +kernel))) rfl
theorem ml_X5_3 : Cond.methodLink RX5 3 objectInit ∈ lw_gd := zm (lw_g_2 (List.mem_of_getElem? (i := 10) (by decide +kernel))) rfl
theorem ml_X5_40 : Cond.methodLink RX5 40 yX5_clear ∈ lw_gd := zm (lw_g_2 (List.mem_of_getElem? (i := 30) (by decide +kernel))) rfl
theorem ml_X6_17 : Cond.methodLink RX6 17 yJ0_toCharArray_70df3 ∈ lw_gd := zm (lw_g_1 (List.mem_of_getElem? (i := 56) (by decide +kernel))) rfl
theorem ml_X6_3 : Cond.methodLink RX6 3 objectInit ∈ lw_gd := zm (lw_g_1 (List.mem_of_getElem? (i := 54) (by decide +kernel))) rfl
theorem se_J0_toCharArray_70df3 : Cond.selects RJ0 yJ0_toCharArray_70df3 yJ0_toCharArray_70df3 ∈ lw_gd := zm (lw_g_1 (List.mem_of_getElem? (i := 58) (by decide +kernel))) rfl
theorem se_X5_clear : Cond.selects RX5 yX5_clear yX5_clear ∈ lw_gd := zm (lw_g_2 (List.mem_of_getElem? (i := 32) (by decide +kernel))) rfl
theorem eX3_init_0 : decode cX3_init 0 = .ok (.aload_n 0, 1) ∧ decode cX3_init 1 = .ok (.invokespecial 3, 3) ∧ decode cX3_init 4 = .ok (.aload_n 0, 1) ∧ decode cX3_init 5 = .ok (.bipush 64, 2) ∧ decode cX3_init 7 = .ok (.newarray .int, 2) ∧ decode cX3_init 9 = .ok (.putfield 11, 3) ∧ decode cX3_init 12 = .ok (.aload_n 0, 1) ∧ decode cX3_init 13 = .ok (.aload_n 1, 1) := by decide +kernel
theorem eX3_init_14 : decode cX3_init 14 = .ok (.putfield 15, 3) ∧ decode cX3_init 17 = .ok (.return_, 1) ∧ decode cX5_clear 0 = .ok (.aload_n 0, 1) ∧ decode cX5_clear 1 = .ok (.iconst 0, 1) ∧ decode cX5_clear 2 = .ok (.putfield 43, 3) ∧ decode cX5_clear 5 = .ok (.aload_n 0, 1) ∧ decode cX5_clear 6 = .ok (.iconst 0, 1) ∧ decode cX5_clear 7 = .ok (.putfield 47, 3) := by decide +kernel
theorem eX5_clear_10 : decode cX5_clear 10 = .ok (.aload_n 0, 1) ∧ decode cX5_clear 11 = .ok (.iconst 0, 1) ∧ decode cX5_clear 12 = .ok (.putfield 50, 3) ∧ decode cX5_clear 15 = .ok (.aload_n 0, 1) ∧ decode cX5_clear 16 = .ok (.iconst 0, 1) ∧ decode cX5_clear 17 = .ok (.putfield 53, 3) ∧ decode cX5_clear 20 = .ok (.aload_n 0, 1) ∧ decode cX5_clear 21 = .ok (.getfield 30, 3) := by decide +kernel
theorem eX5_clear_24 : decode cX5_clear 24 = .ok (.iconst 0, 1) ∧ decode cX5_clear 25 = .ok (.putfield 56, 3) ∧ decode cX5_clear 28 = .ok (.iconst 0, 1) ∧ decode cX5_clear 29 = .ok (.istore_n 1, 1) ∧ decode cX5_clear 30 = .ok (.iload_n 1, 1) ∧ decode cX5_clear 31 = .ok (.iconst 3, 1) ∧ decode cX5_clear 32 = .ok (.if_icmp .ge 23, 3) ∧ decode cX5_clear 35 = .ok (.aload_n 0, 1) := by decide +kernel
theorem eX5_clear_36 : decode cX5_clear 36 = .ok (.getfield 34, 3) ∧ decode cX5_clear 39 = .ok (.iload_n 1, 1) ∧ decode cX5_clear 40 = .ok (.iconst (-1), 1) ∧ decode cX5_clear 41 = .ok (.iastore, 1) ∧ decode cX5_clear 42 = .ok (.aload_n 0, 1) ∧ decode cX5_clear 43 = .ok (.getfield 37, 3) ∧ decode cX5_clear 46 = .ok (.iload_n 1, 1) ∧ decode cX5_clear 47 = .ok (.iconst (-1), 1) := by decide +kernel
theorem eX5_clear_48 : decode cX5_clear 48 = .ok (.iastore, 1) ∧ decode cX5_clear 49 = .ok (.iinc 1 1, 3) ∧ decode cX5_clear 52 = .ok (.goto (-22), 3) ∧ decode cX5_clear 55 = .ok (.return_, 1) ∧ decode cX5_init 0 = .ok (.aload_n 0, 1) ∧ decode cX5_init 1 = .ok (.invokespecial 3, 3) ∧ decode cX5_init 4 = .ok (.aload_n 0, 1) ∧ decode cX5_init 5 = .ok (.bipush 48, 2) := by decide +kernel
theorem eX5_init_7 : decode cX5_init 7 = .ok (.newarray .int, 2) ∧ decode cX5_init 9 = .ok (.putfield 9, 3) ∧ decode cX5_init 12 = .ok (.aload_n 0, 1) ∧ decode cX5_init 13 = .ok (.bipush 60, 2) ∧ decode cX5_init 15 = .ok (.newarray .int, 2) ∧ decode cX5_init 17 = .ok (.putfield 15, 3) ∧ decode cX5_init 20 = .ok (.aload_n 0, 1) ∧ decode cX5_init 21 = .ok (.bipush 60, 2) := by decide +kernel
theorem eX5_init_23 : decode cX5_init 23 = .ok (.newarray .int, 2) ∧ decode cX5_init 25 = .ok (.putfield 18, 3) ∧ decode cX5_init 28 = .ok (.aload_n 0, 1) ∧ decode cX5_init 29 = .ok (.bipush 60, 2) ∧ decode cX5_init 31 = .ok (.newarray .int, 2) ∧ decode cX5_init 33 = .ok (.putfield 21, 3) ∧ decode cX5_init 36 = .ok (.aload_n 0, 1) ∧ decode cX5_init 37 = .ok (.bipush 60, 2) := by decide +kernel
theorem eX5_init_39 : decode cX5_init 39 = .ok (.newarray .int, 2) ∧ decode cX5_init 41 = .ok (.putfield 24, 3) ∧ decode cX5_init 44 = .ok (.aload_n 0, 1) ∧ decode cX5_init 45 = .ok (.new 27, 3) ∧ decode cX5_init 48 = .ok (.dup, 1) ∧ decode cX5_init 49 = .ok (.invokespecial 29, 3) ∧ decode cX5_init 52 = .ok (.putfield 30, 3) ∧ decode cX5_init 55 = .ok (.aload_n 0, 1) := by decide +kernel
theorem eX5_init_56 : decode cX5_init 56 = .ok (.iconst 3, 1) ∧ decode cX5_init 57 = .ok (.newarray .int, 2) ∧ decode cX5_init 59 = .ok (.putfield 34, 3) ∧ decode cX5_init 62 = .ok (.aload_n 0, 1) ∧ decode cX5_init 63 = .ok (.iconst 3, 1) ∧ decode cX5_init 64 = .ok (.newarray .int, 2) ∧ decode cX5_init 66 = .ok (.putfield 37, 3) ∧ decode cX5_init 69 = .ok (.aload_n 0, 1) := by decide +kernel
theorem eX5_init_70 : decode cX5_init 70 = .ok (.invokevirtual 40, 3) ∧ decode cX5_init 73 = .ok (.return_, 1) ∧ decode cX6_init 0 = .ok (.aload_n 0, 1) ∧ decode cX6_init 1 = .ok (.invokespecial 3, 3) ∧ decode cX6_init 4 = .ok (.aload_n 0, 1) ∧ decode cX6_init 5 = .ok (.iconst (-1), 1) ∧ decode cX6_init 6 = .ok (.putfield 9, 3) ∧ decode cX6_init 9 = .ok (.aload_n 0, 1) := by decide +kernel
theorem eX6_init_10 : decode cX6_init 10 = .ok (.ldc 15, 2) ∧ decode cX6_init 12 = .ok (.invokevirtual 17, 3) ∧ decode cX6_init 15 = .ok (.putfield 23, 3) ∧ decode cX6_init 18 = .ok (.aload_n 0, 1) ∧ decode cX6_init 19 = .ok (.aload_n 1, 1) ∧ decode cX6_init 20 = .ok (.putfield 27, 3) ∧ decode cX6_init 23 = .ok (.return_, 1) := by decide +kernel
set_option maxHeartbeats 4000000 in
set_option maxRecDepth 100000 in
theorem k_X3_init (l : Launch) (D : va_G) (sz : Nat) (h0 h1 : Nat) : Met l yX3_init (wz yX3_init cX3_init 2 none) { frames := 1, cells := 1, slots := 64, locals := 60 } (va_Pc [.ref h0, .ref h1] (zW D sz [(h0, .inr (3, [.null, .int 0, .int 0, .int 0, .int 0, .int 0, .int 0, .int 0, .int 0, .null]))])) (va_Qv (fun (_ : (Nat)) => True) (fun u t => zB D (va_A [(h0, .inr (3, [.null, .int 0, .int 0, .int 0, .int 0, .int 0, .int 0, .int 0, .int 0, .null]))] sz) ((fun (u : (Nat)) => [(h0, .inr (3, [.ref u, .int 0, .int 0, .int 0, .int 0, .int 0, .int 0, .int 0, .int 0, .ref h1])), (u, .inl (D.1 13, 64, .inl (fun _ => 0)))]) u) t) (va_A [(h0, .inr (3, [.null, .int 0, .int 0, .int 0, .int 0, .int 0, .int 0, .int 0, .int 0, .null]))] sz)) 1 64 (va_A [(h0, .inr (3, [.null, .int 0, .int 0, .int 0, .int 0, .int 0, .int 0, .int 0, .int 0, .null]))] sz) := by
  refine Met.ofW (cc := cX3_init) (maxL := 2) (ret := none) (by decide) rfl ?_
  intro p e s m args below meth c s₁ B hml hv
  obtain ⟨rfl, hsz, hP, hK, hD0⟩ := hv
  have hx := B.exec
  have hb := B.bytes
  have hr := B.returns
  have hts := atoms_spec (ws := wz yX3_init cX3_init 2 none) B.pre
  have ht : ∀ w ∈ lw_gd, w.before _ s = true := fun w h => hts w (List.mem_cons_of_mem _ h)
  have hown : s.vm.findClass RX3 = some m.cls := findClass_of_methodNamed B.named
  have hlocks := B.notSynchronized
  have hin : meth.name = "<init>" := (name_of_methodNamed B.named B.method).1
  subst hsz
  have hD := hD0.self (sz := s.heap.size)
  generalize hAe : va_A [(h0, .inr (3, [.null, .int 0, .int 0, .int 0, .int 0, .int 0, .int 0, .int 0, .int 0, .null]))] s.heap.size = A at hD ⊢
  have hA : ∀ q : Nat, s.heap.size ≤ q → A q := fun q h => by rw [← hAe]; exact Or.inr h
  have hS : va_S A s.heap s.heap [] := va_S.rf
  have zi0 : (0 : Int32).toInt = 0 := rfl
  have zi1 : (1 : Int32).toInt = 1 := rfl
  have zi2 : (2 : Int32).toInt = 2 := rfl
  have zi3 : (3 : Int32).toInt = 3 := rfl
  have zi4 : (4 : Int32).toInt = 4 := rfl
  have hl := lv_entry ([.ref h0, .ref h1]) (n := 2) (Nat.le_of_ble_eq_true rfl)
  rw [lg_entry_eq]
  generalize (lg_sl ([.ref h0, .ref h1]) ++ List.replicate (2 - (lg_sl ([.ref h0, .ref h1])).length) Slot.unset).toArray = ls at hl ⊢
  have hl : lv_has ls 2 [(0, .ref h0), (1, .ref h1)] := hl
  refine lv_aload_n hx hb eX3_init_0.1 rfl (lv_at hl 0 rfl) ?_
  refine W.objInit hx hb hown (ht _ ml_X3_3) (ht _ im_obj) (ht _ co_obj) rfl (by rw [hml]; exact hl.1) rfl eX3_init_0.2.1 (Nat.le_of_ble_eq_true rfl) (Nat.le_of_ble_eq_true rfl) ?_
  refine W.eq (g2 := F0 m 4 ls []) rfl ?_
  refine lv_aload_n hx hb eX3_init_0.2.2.1 rfl (lv_at hl 0 rfl) ?_
  refine lv_bipush (v := 64) hx hb eX3_init_0.2.2.2.1 (by decide) ?_
  refine va_newa (atype := .int) (a0 := (64, .inl (fun _ => 0))) (ty := .int) (N' := 64) hx hb (ht _ ac_int) rfl hK hP hD hS hA (fun _ => rfl) (by decide) (by decide) (by decide) (Nat.le_of_ble_eq_true rfl) (Nat.le_of_ble_eq_true rfl) eX3_init_0.2.2.2.2.1 (fun q_1 cA H hK2 hP hD hS => ?_)
  obtain rfl := z_cls_int hK hK2
  refine W.widen (k := 1) (n := 64) (Nat.le_of_ble_eq_true rfl) (Nat.le_of_ble_eq_true rfl) ?_
  have hP : va_P D vwCl [(h0, .inr (3, [.null, .int 0, .int 0, .int 0, .int 0, .int 0, .int 0, .int 0, .int 0, .null])), (q_1, .inl (D.1 13, 64, .inl (fun _ => 0)))] H := hP
  have hD : va_D A [(h0, .inr (3, [.null, .int 0, .int 0, .int 0, .int 0, .int 0, .int 0, .int 0, .int 0, .null])), (q_1, .inl (D.1 13, 64, .inl (fun _ => 0)))] := hD
  refine va_putF (D := D) (ci := 3) (v := .ref q_1) (ty := .array .int) (C := RX3) (T := TX3) (N := 10) hx hb ht inX3 tyX3 tyX3_ok nmX3 hown hK hP hD hS 0 rfl rfl 0 (by decide) (ht (.fieldLink RX3 11 "CloneVolumes$Machine" "stack" "[I") fl_X3_11) (fun _ h9 => h9) rfl hin rfl (by decide +kernel) rfl rfl (Nat.le_of_ble_eq_true rfl) eX3_init_0.2.2.2.2.2.1 (fun H locs hP hD hS => ?_)
  have hP : va_P D vwCl [(h0, .inr (3, [.ref q_1, .int 0, .int 0, .int 0, .int 0, .int 0, .int 0, .int 0, .int 0, .null])), (q_1, .inl (D.1 13, 64, .inl (fun _ => 0)))] H := hP
  have hD : va_D A [(h0, .inr (3, [.ref q_1, .int 0, .int 0, .int 0, .int 0, .int 0, .int 0, .int 0, .int 0, .null])), (q_1, .inl (D.1 13, 64, .inl (fun _ => 0)))] := hD
  refine lv_aload_n hx hb eX3_init_0.2.2.2.2.2.2.1 rfl (lv_at hl 0 rfl) ?_
  refine lv_aload_n hx hb eX3_init_0.2.2.2.2.2.2.2 rfl (lv_at hl 1 rfl) ?_
  refine va_putF (D := D) (ci := 3) (v := .ref h1) (ty := .object "CloneVolumes$State") (C := RX3) (T := TX3) (N := 10) hx hb ht inX3 tyX3 tyX3_ok nmX3 hown hK hP hD hS 0 rfl rfl 9 (by decide) (ht (.fieldLink RX3 15 "CloneVolumes$Machine" "state" "LCloneVolumes$State;") fl_X3_15) (fun _ h9 => h9) rfl hin rfl (by decide +kernel) rfl rfl (Nat.le_of_ble_eq_true rfl) eX3_init_14.1 (fun H locs hP hD hS => ?_)
  have hP : va_P D vwCl [(h0, .inr (3, [.ref q_1, .int 0, .int 0, .int 0, .int 0, .int 0, .int 0, .int 0, .int 0, .ref h1])), (q_1, .inl (D.1 13, 64, .inl (fun _ => 0)))] H := hP
  have hD : va_D A [(h0, .inr (3, [.ref q_1, .int 0, .int 0, .int 0, .int 0, .int 0, .int 0, .int 0, .int 0, .ref h1])), (q_1, .inl (D.1 13, 64, .inl (fun _ => 0)))] := hD
  have hP9 := hP.sub (ws' := [(h0, .inr (3, [.ref q_1, .int 0, .int 0, .int 0, .int 0, .int 0, .int 0, .int 0, .int 0, .ref h1])), (q_1, .inl (D.1 13, 64, .inl (fun _ => 0)))]) [0, 1] rfl
  have hD9 := hD.sub (ws' := [(h0, .inr (3, [.ref q_1, .int 0, .int 0, .int 0, .int 0, .int 0, .int 0, .int 0, .int 0, .ref h1])), (q_1, .inl (D.1 13, 64, .inl (fun _ => 0)))]) [0, 1] (by decide) rfl
  refine W.widen (k := 1) (n := 64) (Nat.le_of_ble_eq_true rfl) (Nat.le_of_ble_eq_true rfl) ?_
  exact W.vret hx hb hr (fun t ht hW => ⟨⟨q_1, rfl, trivial, by rw [ht]; exact hP9, va_K.moved hW.alike hK, hD9⟩, hS.F ht⟩) hS.2.2 eX3_init_14.2.1
set_option maxHeartbeats 4000000 in
set_option maxRecDepth 100000 in
theorem k_X6_init (l : Launch) (D : va_G) (sz : Nat) (b0 qS vS : Nat) (fS : Nat → Int32) (h0 h1 : Nat) (hB : ∀ q, va_A [(h0, .inr (6, [.int 0, .int 0, .null, .null, .null, .int 0, .int 0, .int 0, .int 0, .int 0, .int 0, .int 0]))] sz q → b0 ≤ q) : Met l yX6_init (wz yX6_init cX6_init 2 none) { frames := 3, cells := 1, slots := 179, locals := 180 } (va_Pc [.ref h0, .ref h1] (fun U => zW D sz [(h0, .inr (6, [.int 0, .int 0, .null, .null, .null, .int 0, .int 0, .int 0, .int 0, .int 0, .int 0, .int 0]))] U ∧ EE b0 qS vS fS U)) (va_Qv (fun (_ : (Nat)) => True) (fun u t => zB D (va_A [(h0, .inr (6, [.int 0, .int 0, .null, .null, .null, .int 0, .int 0, .int 0, .int 0, .int 0, .int 0, .int 0]))] sz) ((fun (u : (Nat)) => [(h0, .inr (6, [.int 0, .int (-1), .ref h1, .ref u, .null, .int 0, .int 0, .int 0, .int 0, .int 0, .int 0, .int 0])), (u, .inl (D.1 14, 179, .inl (fun j => zw (fS j))))]) u) t) (va_A [(h0, .inr (6, [.int 0, .int 0, .null, .null, .null, .int 0, .int 0, .int 0, .int 0, .int 0, .int 0, .int 0]))] sz)) 1 179 (va_A [(h0, .inr (6, [.int 0, .int 0, .null, .null, .null, .int 0, .int 0, .int 0, .int 0, .int 0, .int 0, .int 0]))] sz) := by
  refine Met.ofW (cc := cX6_init) (maxL := 2) (ret := none) (by decide) rfl ?_
  intro p e s m args below meth c s₁ B hml hv
  obtain ⟨rfl, ⟨hsz, hP, hK, hD0⟩, hE⟩ := hv
  have hx := B.exec
  have hb := B.bytes
  have hr := B.returns
  have hts := atoms_spec (ws := wz yX6_init cX6_init 2 none) B.pre
  have ht : ∀ w ∈ lw_gd, w.before _ s = true := fun w h => hts w (List.mem_cons_of_mem _ h)
  have hown : s.vm.findClass RX6 = some m.cls := findClass_of_methodNamed B.named
  have hlocks := B.notSynchronized
  have hin : meth.name = "<init>" := (name_of_methodNamed B.named B.method).1
  subst hsz
  have hD := hD0.self (sz := s.heap.size)
  have hAb := hB
  generalize hAe : va_A [(h0, .inr (6, [.int 0, .int 0, .null, .null, .null, .int 0, .int 0, .int 0, .int 0, .int 0, .int 0, .int 0]))] s.heap.size = A at hAb hD ⊢
  have hA : ∀ q : Nat, s.heap.size ≤ q → A q := fun q h => by rw [← hAe]; exact Or.inr h
  have hS : va_S A s.heap s.heap [] := va_S.rf
  have zi0 : (0 : Int32).toInt = 0 := rfl
  have zi1 : (1 : Int32).toInt = 1 := rfl
  have zi2 : (2 : Int32).toInt = 2 := rfl
  have zi3 : (3 : Int32).toInt = 3 := rfl
  have zi4 : (4 : Int32).toInt = 4 := rfl
  have hl := lv_entry ([.ref h0, .ref h1]) (n := 2) (Nat.le_of_ble_eq_true rfl)
  rw [lg_entry_eq]
  generalize (lg_sl ([.ref h0, .ref h1]) ++ List.replicate (2 - (lg_sl ([.ref h0, .ref h1])).length) Slot.unset).toArray = ls at hl ⊢
  have hl : lv_has ls 2 [(0, .ref h0), (1, .ref h1)] := hl
  refine lv_aload_n hx hb eX5_init_70.2.2.1 rfl (lv_at hl 0 rfl) ?_
  refine W.objInit hx hb hown (ht _ ml_X6_3) (ht _ im_obj) (ht _ co_obj) rfl (by rw [hml]; exact hl.1) rfl eX5_init_70.2.2.2.1 (Nat.le_of_ble_eq_true rfl) (Nat.le_of_ble_eq_true rfl) ?_
  refine W.eq (g2 := F0 m 4 ls []) rfl ?_
  refine lv_aload_n hx hb eX5_init_70.2.2.2.2.1 rfl (lv_at hl 0 rfl) ?_
  refine lv_iconst (v := (-1)) hx hb eX5_init_70.2.2.2.2.2.1 (by decide) ?_
  refine va_put (D := D) (ci := 6) (v := .int (-1)) (ty := .int) (C := RX6) (T := TX6) (N := 12) hx hb ht inX6 tyX6 tyX6_ok nmX6 hown hK hP hD hS 0 rfl rfl 1 (by decide) (ht (.fieldLink RX6 9 "CloneVolumes$Reader" "place" "I") fl_X6_9) (fun _ h9 => h9) rfl (by decide +kernel) rfl rfl (Nat.le_of_ble_eq_true rfl) eX5_init_70.2.2.2.2.2.2.1 (fun H locs hP hD hS => ?_)
  have hP : va_P D vwCl [(h0, .inr (6, [.int 0, .int (-1), .null, .null, .null, .int 0, .int 0, .int 0, .int 0, .int 0, .int 0, .int 0]))] H := hP
  have hD : va_D A [(h0, .inr (6, [.int 0, .int (-1), .null, .null, .null, .int 0, .int 0, .int 0, .int 0, .int 0, .int 0, .int 0]))] := hD
  refine lv_aload_n hx hb eX5_init_70.2.2.2.2.2.2.2 rfl (lv_at hl 0 rfl) ?_
  refine va_ldcS hx hb hown hE.1.2.2.2.2.2.2.2 eX6_init_10.1 ?_
  have hFc : ∀ q, va_A [] H.size q → A q := va_free (wc := []) hD hS hA [] rfl
  refine va_callr (va_runV (As := []) (rest := [.ref h0]) ⟨hx, hb, hml, hown, ht⟩ (kJ_toCharArray l D H.size b0 qS vS fS (fun q h => hAb q (hFc q h))) (cwV 0 ht (zgV ml_X6_17 im_J0_toCharArray_70df3 se_J0_toCharArray_70df3 in_J0 co_J0_toCharArray_70df3) rfl rfl rfl (by decide +kernel) ⟨Nat.le_of_ble_eq_true rfl, Nat.le_of_ble_eq_true rfl⟩) ⟨zWEb _ D _ _ _ _ _ _, by obtain ⟨cell, h1, h2, h3, -⟩ := (hE.2.1.kept (fun a h1 h2 => hS.2.1 a h1 (fun z => h2 (hAb a z)))); exact ⟨cell, h1, h2, h3⟩, fun U hU hW => ⟨rfl, ⟨by rw [hU], by rw [hU]; exact fun k q h => by simp at h, va_K.moved hW.alike hK, ⟨fun i j p q h => by simp at h, fun k q h => by simp at h⟩⟩, hE.go hS hAb hU hW⟩⟩ rfl rfl hl.1 rfl (lv_room (Nat.le_of_ble_eq_true rfl)) eX6_init_10.2.1 ⟨Nat.le_of_ble_eq_true rfl, Nat.le_of_ble_eq_true rfl⟩) hS (fun q _ h => hFc q h) hFc (fun u q_1 t H1 locs ht1 hvm hw hBB hz1 hk1 hS => ?_)
  subst hw
  obtain ⟨hP, hD⟩ := va_join (wr := [(h0, .inr (6, [.int 0, .int (-1), .null, .null, .null, .int 0, .int 0, .int 0, .int 0, .int 0, .int 0, .int 0]))]) (w1 := [(q_1, .inl (D.1 14, 179, .inl (fun j => zw (fS j))))]) (wc := []) hP hD [] [0] rfl rfl (by decide) (by decide) hk1 hFc (by rw [← ht1]; exact hBB.1) hBB.2.2
  generalize H1 = H at hP hS ⊢
  refine W.widen (k := 1) (n := 179) (Nat.le_of_ble_eq_true rfl) (Nat.le_of_ble_eq_true rfl) ?_
  have hP : va_P D vwCl [(h0, .inr (6, [.int 0, .int (-1), .null, .null, .null, .int 0, .int 0, .int 0, .int 0, .int 0, .int 0, .int 0])), (q_1, .inl (D.1 14, 179, .inl (fun j => zw (fS j))))] H := hP
  have hD : va_D A [(h0, .inr (6, [.int 0, .int (-1), .null, .null, .null, .int 0, .int 0, .int 0, .int 0, .int 0, .int 0, .int 0])), (q_1, .inl (D.1 14, 179, .inl (fun j => zw (fS j))))] := hD
  refine va_putF (D := D) (ci := 6) (v := .ref q_1) (ty := .array .char) (C := RX6) (T := TX6) (N := 12) hx hb ht inX6 tyX6 tyX6_ok nmX6 hown hK hP hD hS 0 rfl rfl 3 (by decide) (ht (.fieldLink RX6 23 "CloneVolumes$Reader" "words" "[C") fl_X6_23) (fun _ h9 => h9) rfl hin rfl (by decide +kernel) rfl rfl (Nat.le_of_ble_eq_true rfl) eX6_init_10.2.2.1 (fun H locs hP hD hS => ?_)
  have hP : va_P D vwCl [(h0, .inr (6, [.int 0, .int (-1), .null, .ref q_1, .null, .int 0, .int 0, .int 0, .int 0, .int 0, .int 0, .int 0])), (q_1, .inl (D.1 14, 179, .inl (fun j => zw (fS j))))] H := hP
  have hD : va_D A [(h0, .inr (6, [.int 0, .int (-1), .null, .ref q_1, .null, .int 0, .int 0, .int 0, .int 0, .int 0, .int 0, .int 0])), (q_1, .inl (D.1 14, 179, .inl (fun j => zw (fS j))))] := hD
  refine lv_aload_n hx hb eX6_init_10.2.2.2.1 rfl (lv_at hl 0 rfl) ?_
  refine lv_aload_n hx hb eX6_init_10.2.2.2.2.1 rfl (lv_at hl 1 rfl) ?_
  refine va_putF (D := D) (ci := 6) (v := .ref h1) (ty := .object "CloneVolumes$Tape") (C := RX6) (T := TX6) (N := 12) hx hb ht inX6 tyX6 tyX6_ok nmX6 hown hK hP hD hS 0 rfl rfl 2 (by decide) (ht (.fieldLink RX6 27 "CloneVolumes$Reader" "tape" "LCloneVolumes$Tape;") fl_X6_27) (fun _ h9 => h9) rfl hin rfl (by decide +kernel) rfl rfl (Nat.le_of_ble_eq_true rfl) eX6_init_10.2.2.2.2.2.1 (fun H locs hP hD hS => ?_)
  have hP : va_P D vwCl [(h0, .inr (6, [.int 0, .int (-1), .ref h1, .ref q_1, .null, .int 0, .int 0, .int 0, .int 0, .int 0, .int 0, .int 0])), (q_1, .inl (D.1 14, 179, .inl (fun j => zw (fS j))))] H := hP
  have hD : va_D A [(h0, .inr (6, [.int 0, .int (-1), .ref h1, .ref q_1, .null, .int 0, .int 0, .int 0, .int 0, .int 0, .int 0, .int 0])), (q_1, .inl (D.1 14, 179, .inl (fun j => zw (fS j))))] := hD
  have hP9 := hP.sub (ws' := [(h0, .inr (6, [.int 0, .int (-1), .ref h1, .ref q_1, .null, .int 0, .int 0, .int 0, .int 0, .int 0, .int 0, .int 0])), (q_1, .inl (D.1 14, 179, .inl (fun j => zw (fS j))))]) [0, 1] rfl
  have hD9 := hD.sub (ws' := [(h0, .inr (6, [.int 0, .int (-1), .ref h1, .ref q_1, .null, .int 0, .int 0, .int 0, .int 0, .int 0, .int 0, .int 0])), (q_1, .inl (D.1 14, 179, .inl (fun j => zw (fS j))))]) [0, 1] (by decide) rfl
  refine W.widen (k := 1) (n := 179) (Nat.le_of_ble_eq_true rfl) (Nat.le_of_ble_eq_true rfl) ?_
  exact W.vret hx hb hr (fun t ht hW => ⟨⟨q_1, rfl, trivial, by rw [ht]; exact hP9, va_K.moved hW.alike hK, hD9⟩, hS.F ht⟩) hS.2.2 eX6_init_10.2.2.2.2.2.2
set_option maxHeartbeats 4000000 in
set_option maxRecDepth 100000 in
theorem k_X5_clear0 (l : Launch) (D : va_G) (sz : Nat) (h0 h1 h2 h3 x1 x2 x3 x4 x5 x6 : Nat) (fb fe : Nat → Int32) : Met l yX5_clear (wz yX5_clear cX5_clear 2 none) { frames := 0, cells := 0, slots := 0, locals := 0 } (va_Pc [.ref h0] (zW D sz [(h0, .inr (5, [.int 0, .int 0, .int 0, .int 0, .int 0, .int 0, .ref x1, .ref x2, .ref x3, .ref x4, .ref x5, .ref h1, .ref h2, .ref h3])), (h1, .inr (0, [.ref x6, .int 0])), (h2, .inl (D.1 13, 3, .inl fb)), (h3, .inl (D.1 13, 3, .inl fe))])) (va_Qv (fun (_ : ((Nat → Int32) × (Nat → Int32))) => True) (fun u t => zB D (va_A [(h0, .inr (5, [.int 0, .int 0, .int 0, .int 0, .int 0, .int 0, .ref x1, .ref x2, .ref x3, .ref x4, .ref x5, .ref h1, .ref h2, .ref h3])), (h1, .inr (0, [.ref x6, .int 0])), (h2, .inl (D.1 13, 3, .inl fb)), (h3, .inl (D.1 13, 3, .inl fe))] sz) ((fun (u : ((Nat → Int32) × (Nat → Int32))) => [(h0, .inr (5, [.int 0, .int 0, .int 0, .int 0, .int 0, .int 0, .ref x1, .ref x2, .ref x3, .ref x4, .ref x5, .ref h1, .ref h2, .ref h3])), (h1, .inr (0, [.ref x6, .int 0])), (h2, .inl (D.1 13, 3, .inl u.1)), (h3, .inl (D.1 13, 3, .inl u.2))]) u) t) (va_A [(h0, .inr (5, [.int 0, .int 0, .int 0, .int 0, .int 0, .int 0, .ref x1, .ref x2, .ref x3, .ref x4, .ref x5, .ref h1, .ref h2, .ref h3])), (h1, .inr (0, [.ref x6, .int 0])), (h2, .inl (D.1 13, 3, .inl fb)), (h3, .inl (D.1 13, 3, .inl fe))] sz)) 0 0 (va_A [(h0, .inr (5, [.int 0, .int 0, .int 0, .int 0, .int 0, .int 0, .ref x1, .ref x2, .ref x3, .ref x4, .ref x5, .ref h1, .ref h2, .ref h3])), (h1, .inr (0, [.ref x6, .int 0])), (h2, .inl (D.1 13, 3, .inl fb)), (h3, .inl (D.1 13, 3, .inl fe))] sz) := by
  refine Met.ofW (cc := cX5_clear) (maxL := 2) (ret := none) (by decide) rfl ?_
  intro p e s m args below meth c s₁ B hml hv
  obtain ⟨rfl, hsz, hP, hK, hD0⟩ := hv
  have hx := B.exec
  have hb := B.bytes
  have hr := B.returns
  have hts := atoms_spec (ws := wz yX5_clear cX5_clear 2 none) B.pre
  have ht : ∀ w ∈ lw_gd, w.before _ s = true := fun w h => hts w (List.mem_cons_of_mem _ h)
  have hown : s.vm.findClass RX5 = some m.cls := findClass_of_methodNamed B.named
  have hlocks := B.notSynchronized
  subst hsz
  have hD := hD0.self (sz := s.heap.size)
  generalize hAe : va_A [(h0, .inr (5, [.int 0, .int 0, .int 0, .int 0, .int 0, .int 0, .ref x1, .ref x2, .ref x3, .ref x4, .ref x5, .ref h1, .ref h2, .ref h3])), (h1, .inr (0, [.ref x6, .int 0])), (h2, .inl (D.1 13, 3, .inl fb)), (h3, .inl (D.1 13, 3, .inl fe))] s.heap.size = A at hD ⊢
  have hA : ∀ q : Nat, s.heap.size ≤ q → A q := fun q h => by rw [← hAe]; exact Or.inr h
  have hS : va_S A s.heap s.heap [] := va_S.rf
  have zi0 : (0 : Int32).toInt = 0 := rfl
  have zi1 : (1 : Int32).toInt = 1 := rfl
  have zi2 : (2 : Int32).toInt = 2 := rfl
  have zi3 : (3 : Int32).toInt = 3 := rfl
  have zi4 : (4 : Int32).toInt = 4 := rfl
  have hl := lv_entry ([.ref h0]) (n := 2) (Nat.le_of_ble_eq_true rfl)
  rw [lg_entry_eq]
  generalize (lg_sl ([.ref h0]) ++ List.replicate (2 - (lg_sl ([.ref h0])).length) Slot.unset).toArray = ls at hl ⊢
  have hl : lv_has ls 2 [(0, .ref h0)] := hl
  refine lv_aload_n hx hb eX3_init_14.2.2.1 rfl (lv_at hl 0 rfl) ?_
  refine lv_iconst (v := 0) hx hb eX3_init_14.2.2.2.1 (by decide) ?_
  refine va_put (D := D) (ci := 5) (v := .int 0) (ty := .int) (C := RX5) (T := TX5) (N := 14) hx hb ht inX5 tyX5 tyX5_ok nmX5 hown hK hP hD hS 0 rfl rfl 3 (by decide) (ht (.fieldLink RX5 43 "CloneVolumes$Plan" "statements" "I") fl_X5_43) (fun _ h9 => h9) rfl (by decide +kernel) rfl rfl (Nat.le_of_ble_eq_true rfl) eX3_init_14.2.2.2.2.1 (fun H locs hP hD hS => ?_)
  have hP : va_P D vwCl [(h0, .inr (5, [.int 0, .int 0, .int 0, .int 0, .int 0, .int 0, .ref x1, .ref x2, .ref x3, .ref x4, .ref x5, .ref h1, .ref h2, .ref h3])), (h1, .inr (0, [.ref x6, .int 0])), (h2, .inl (D.1 13, 3, .inl fb)), (h3, .inl (D.1 13, 3, .inl fe))] H := hP
  have hD : va_D A [(h0, .inr (5, [.int 0, .int 0, .int 0, .int 0, .int 0, .int 0, .ref x1, .ref x2, .ref x3, .ref x4, .ref x5, .ref h1, .ref h2, .ref h3])), (h1, .inr (0, [.ref x6, .int 0])), (h2, .inl (D.1 13, 3, .inl fb)), (h3, .inl (D.1 13, 3, .inl fe))] := hD
  refine lv_aload_n hx hb eX3_init_14.2.2.2.2.2.1 rfl (lv_at hl 0 rfl) ?_
  refine lv_iconst (v := 0) hx hb eX3_init_14.2.2.2.2.2.2.1 (by decide) ?_
  refine va_put (D := D) (ci := 5) (v := .int 0) (ty := .int) (C := RX5) (T := TX5) (N := 14) hx hb ht inX5 tyX5 tyX5_ok nmX5 hown hK hP hD hS 0 rfl rfl 4 (by decide) (ht (.fieldLink RX5 47 "CloneVolumes$Plan" "volumes" "I") fl_X5_47) (fun _ h9 => h9) rfl (by decide +kernel) rfl rfl (Nat.le_of_ble_eq_true rfl) eX3_init_14.2.2.2.2.2.2.2 (fun H locs hP hD hS => ?_)
  have hP : va_P D vwCl [(h0, .inr (5, [.int 0, .int 0, .int 0, .int 0, .int 0, .int 0, .ref x1, .ref x2, .ref x3, .ref x4, .ref x5, .ref h1, .ref h2, .ref h3])), (h1, .inr (0, [.ref x6, .int 0])), (h2, .inl (D.1 13, 3, .inl fb)), (h3, .inl (D.1 13, 3, .inl fe))] H := hP
  have hD : va_D A [(h0, .inr (5, [.int 0, .int 0, .int 0, .int 0, .int 0, .int 0, .ref x1, .ref x2, .ref x3, .ref x4, .ref x5, .ref h1, .ref h2, .ref h3])), (h1, .inr (0, [.ref x6, .int 0])), (h2, .inl (D.1 13, 3, .inl fb)), (h3, .inl (D.1 13, 3, .inl fe))] := hD
  refine lv_aload_n hx hb eX5_clear_10.1 rfl (lv_at hl 0 rfl) ?_
  refine lv_iconst (v := 0) hx hb eX5_clear_10.2.1 (by decide) ?_
  refine va_put (D := D) (ci := 5) (v := .int 0) (ty := .int) (C := RX5) (T := TX5) (N := 14) hx hb ht inX5 tyX5 tyX5_ok nmX5 hown hK hP hD hS 0 rfl rfl 5 (by decide) (ht (.fieldLink RX5 50 "CloneVolumes$Plan" "changes" "I") fl_X5_50) (fun _ h9 => h9) rfl (by decide +kernel) rfl rfl (Nat.le_of_ble_eq_true rfl) eX5_clear_10.2.2.1 (fun H locs hP hD hS => ?_)
  have hP : va_P D vwCl [(h0, .inr (5, [.int 0, .int 0, .int 0, .int 0, .int 0, .int 0, .ref x1, .ref x2, .ref x3, .ref x4, .ref x5, .ref h1, .ref h2, .ref h3])), (h1, .inr (0, [.ref x6, .int 0])), (h2, .inl (D.1 13, 3, .inl fb)), (h3, .inl (D.1 13, 3, .inl fe))] H := hP
  have hD : va_D A [(h0, .inr (5, [.int 0, .int 0, .int 0, .int 0, .int 0, .int 0, .ref x1, .ref x2, .ref x3, .ref x4, .ref x5, .ref h1, .ref h2, .ref h3])), (h1, .inr (0, [.ref x6, .int 0])), (h2, .inl (D.1 13, 3, .inl fb)), (h3, .inl (D.1 13, 3, .inl fe))] := hD
  refine lv_aload_n hx hb eX5_clear_10.2.2.2.1 rfl (lv_at hl 0 rfl) ?_
  refine lv_iconst (v := 0) hx hb eX5_clear_10.2.2.2.2.1 (by decide) ?_
  refine va_put (D := D) (ci := 5) (v := .int 0) (ty := .int) (C := RX5) (T := TX5) (N := 14) hx hb ht inX5 tyX5 tyX5_ok nmX5 hown hK hP hD hS 0 rfl rfl 2 (by decide) (ht (.fieldLink RX5 53 "CloneVolumes$Plan" "churn" "I") fl_X5_53) (fun _ h9 => h9) rfl (by decide +kernel) rfl rfl (Nat.le_of_ble_eq_true rfl) eX5_clear_10.2.2.2.2.2.1 (fun H locs hP hD hS => ?_)
  have hP : va_P D vwCl [(h0, .inr (5, [.int 0, .int 0, .int 0, .int 0, .int 0, .int 0, .ref x1, .ref x2, .ref x3, .ref x4, .ref x5, .ref h1, .ref h2, .ref h3])), (h1, .inr (0, [.ref x6, .int 0])), (h2, .inl (D.1 13, 3, .inl fb)), (h3, .inl (D.1 13, 3, .inl fe))] H := hP
  have hD : va_D A [(h0, .inr (5, [.int 0, .int 0, .int 0, .int 0, .int 0, .int 0, .ref x1, .ref x2, .ref x3, .ref x4, .ref x5, .ref h1, .ref h2, .ref h3])), (h1, .inr (0, [.ref x6, .int 0])), (h2, .inl (D.1 13, 3, .inl fb)), (h3, .inl (D.1 13, 3, .inl fe))] := hD
  refine lv_aload_n hx hb eX5_clear_10.2.2.2.2.2.2.1 rfl (lv_at hl 0 rfl) ?_
  refine va_get (D := D) (ci := 5) (v := .ref h1) (C := RX5) (T := TX5) (N := 14) hx hb ht inX5 hown hK hP 0 rfl rfl 11 (by decide) (ht (.fieldLink RX5 30 "CloneVolumes$Plan" "code" "LCloneVolumes$Code;") fl_X5_30) (fun _ h9 => h9) rfl eX5_clear_10.2.2.2.2.2.2.2 ?_
  refine lv_iconst (v := 0) hx hb eX5_clear_24.1 (by decide) ?_
  refine va_put (D := D) (ci := 0) (v := .int 0) (ty := .int) (C := RX0) (T := TX0) (N := 2) hx hb ht inX0 tyX0 tyX0_ok nmX0 hown hK hP hD hS 1 rfl rfl 1 (by decide) (ht (.fieldLink RX5 56 "CloneVolumes$Code" "size" "I") fl_X5_56) (fun _ h9 => h9) rfl (by decide +kernel) rfl rfl (Nat.le_of_ble_eq_true rfl) eX5_clear_24.2.1 (fun H locs hP hD hS => ?_)
  have hP : va_P D vwCl [(h0, .inr (5, [.int 0, .int 0, .int 0, .int 0, .int 0, .int 0, .ref x1, .ref x2, .ref x3, .ref x4, .ref x5, .ref h1, .ref h2, .ref h3])), (h1, .inr (0, [.ref x6, .int 0])), (h2, .inl (D.1 13, 3, .inl fb)), (h3, .inl (D.1 13, 3, .inl fe))] H := hP
  have hD : va_D A [(h0, .inr (5, [.int 0, .int 0, .int 0, .int 0, .int 0, .int 0, .ref x1, .ref x2, .ref x3, .ref x4, .ref x5, .ref h1, .ref h2, .ref h3])), (h1, .inr (0, [.ref x6, .int 0])), (h2, .inl (D.1 13, 3, .inl fb)), (h3, .inl (D.1 13, 3, .inl fe))] := hD
  refine lv_iconst (v := 0) hx hb eX5_clear_24.2.2.1 (by decide) ?_
  refine lv_istore_n (lv' := [(1, .int 0), (0, .ref h0)]) hx hb eX5_clear_24.2.2.2.1 rfl hl (by decide) rfl (fun ls hl => ?_)
  refine lv_iload_n hx hb eX5_clear_24.2.2.2.2.1 rfl (lv_at hl 0 rfl) ?_
  refine lv_iconst (v := 3) hx hb eX5_clear_24.2.2.2.2.2.1 (by decide) ?_
  refine lv_icmp_ge (tgt := 55) hx hb eX5_clear_24.2.2.2.2.2.2.1 (by decide) (fun c_1 => (z_abs c_1 (by decide)).elim) (fun _ => ?_)
  refine lv_aload_n hx hb eX5_clear_24.2.2.2.2.2.2.2 rfl (lv_at hl 1 rfl) ?_
  refine va_get (D := D) (ci := 5) (v := .ref h2) (C := RX5) (T := TX5) (N := 14) hx hb ht inX5 hown hK hP 0 rfl rfl 12 (by decide) (ht (.fieldLink RX5 34 "CloneVolumes$Plan" "begins" "[I") fl_X5_34) (fun _ h9 => h9) rfl eX5_clear_36.1 ?_
  refine lv_iload_n hx hb eX5_clear_36.2.1 rfl (lv_at hl 0 rfl) ?_
  refine lv_iconst (v := (-1)) hx hb eX5_clear_36.2.2.1 (by decide) ?_
  refine va_iast hx hb hK hP hD hS 2 0 rfl rfl (z_in (by decide) (by decide)) eX5_clear_36.2.2.2.1 (fun H locs hP hD hS => ?_)
  generalize hf_3 : upd _ _ _ = f_3 at hP hD
  have hP : va_P D vwCl [(h0, .inr (5, [.int 0, .int 0, .int 0, .int 0, .int 0, .int 0, .ref x1, .ref x2, .ref x3, .ref x4, .ref x5, .ref h1, .ref h2, .ref h3])), (h1, .inr (0, [.ref x6, .int 0])), (h2, .inl (D.1 13, 3, .inl f_3)), (h3, .inl (D.1 13, 3, .inl fe))] H := hP
  have hD : va_D A [(h0, .inr (5, [.int 0, .int 0, .int 0, .int 0, .int 0, .int 0, .ref x1, .ref x2, .ref x3, .ref x4, .ref x5, .ref h1, .ref h2, .ref h3])), (h1, .inr (0, [.ref x6, .int 0])), (h2, .inl (D.1 13, 3, .inl f_3)), (h3, .inl (D.1 13, 3, .inl fe))] := hD
  refine lv_aload_n hx hb eX5_clear_36.2.2.2.2.1 rfl (lv_at hl 1 rfl) ?_
  refine va_get (D := D) (ci := 5) (v := .ref h3) (C := RX5) (T := TX5) (N := 14) hx hb ht inX5 hown hK hP 0 rfl rfl 13 (by decide) (ht (.fieldLink RX5 37 "CloneVolumes$Plan" "ends" "[I") fl_X5_37) (fun _ h9 => h9) rfl eX5_clear_36.2.2.2.2.2.1 ?_
  refine lv_iload_n hx hb eX5_clear_36.2.2.2.2.2.2.1 rfl (lv_at hl 0 rfl) ?_
  refine lv_iconst (v := (-1)) hx hb eX5_clear_36.2.2.2.2.2.2.2 (by decide) ?_
  refine va_iast hx hb hK hP hD hS 3 0 rfl rfl (z_in (by decide) (by decide)) eX5_clear_48.1 (fun H locs hP hD hS => ?_)
  generalize hf_4 : upd _ _ _ = f_4 at hP hD
  have hP : va_P D vwCl [(h0, .inr (5, [.int 0, .int 0, .int 0, .int 0, .int 0, .int 0, .ref x1, .ref x2, .ref x3, .ref x4, .ref x5, .ref h1, .ref h2, .ref h3])), (h1, .inr (0, [.ref x6, .int 0])), (h2, .inl (D.1 13, 3, .inl f_3)), (h3, .inl (D.1 13, 3, .inl f_4))] H := hP
  have hD : va_D A [(h0, .inr (5, [.int 0, .int 0, .int 0, .int 0, .int 0, .int 0, .ref x1, .ref x2, .ref x3, .ref x4, .ref x5, .ref h1, .ref h2, .ref h3])), (h1, .inr (0, [.ref x6, .int 0])), (h2, .inl (D.1 13, 3, .inl f_3)), (h3, .inl (D.1 13, 3, .inl f_4))] := hD
  refine lv_iinc (v := 1) (lv' := [(1, .int 1), (0, .ref h0)]) hx hb eX5_clear_48.2.1 hl (k := 0) rfl (by decide) (by decide) rfl (fun ls hl => ?_)
  refine lv_goto (tgt := 30) hx hb eX5_clear_48.2.2.1 (by decide) ?_
  refine lv_iload_n hx hb eX5_clear_24.2.2.2.2.1 rfl (lv_at hl 0 rfl) ?_
  refine lv_iconst (v := 3) hx hb eX5_clear_24.2.2.2.2.2.1 (by decide) ?_
  refine lv_icmp_ge (tgt := 55) hx hb eX5_clear_24.2.2.2.2.2.2.1 (by decide) (fun c_5 => (z_abs c_5 (by decide)).elim) (fun _ => ?_)
  refine lv_aload_n hx hb eX5_clear_24.2.2.2.2.2.2.2 rfl (lv_at hl 1 rfl) ?_
  refine va_get (D := D) (ci := 5) (v := .ref h2) (C := RX5) (T := TX5) (N := 14) hx hb ht inX5 hown hK hP 0 rfl rfl 12 (by decide) (ht (.fieldLink RX5 34 "CloneVolumes$Plan" "begins" "[I") fl_X5_34) (fun _ h9 => h9) rfl eX5_clear_36.1 ?_
  refine lv_iload_n hx hb eX5_clear_36.2.1 rfl (lv_at hl 0 rfl) ?_
  refine lv_iconst (v := (-1)) hx hb eX5_clear_36.2.2.1 (by decide) ?_
  refine va_iast hx hb hK hP hD hS 2 0 rfl rfl (z_in (by decide) (by decide)) eX5_clear_36.2.2.2.1 (fun H locs hP hD hS => ?_)
  generalize hf_7 : upd _ _ _ = f_7 at hP hD
  have hP : va_P D vwCl [(h0, .inr (5, [.int 0, .int 0, .int 0, .int 0, .int 0, .int 0, .ref x1, .ref x2, .ref x3, .ref x4, .ref x5, .ref h1, .ref h2, .ref h3])), (h1, .inr (0, [.ref x6, .int 0])), (h2, .inl (D.1 13, 3, .inl f_7)), (h3, .inl (D.1 13, 3, .inl f_4))] H := hP
  have hD : va_D A [(h0, .inr (5, [.int 0, .int 0, .int 0, .int 0, .int 0, .int 0, .ref x1, .ref x2, .ref x3, .ref x4, .ref x5, .ref h1, .ref h2, .ref h3])), (h1, .inr (0, [.ref x6, .int 0])), (h2, .inl (D.1 13, 3, .inl f_7)), (h3, .inl (D.1 13, 3, .inl f_4))] := hD
  refine lv_aload_n hx hb eX5_clear_36.2.2.2.2.1 rfl (lv_at hl 1 rfl) ?_
  refine va_get (D := D) (ci := 5) (v := .ref h3) (C := RX5) (T := TX5) (N := 14) hx hb ht inX5 hown hK hP 0 rfl rfl 13 (by decide) (ht (.fieldLink RX5 37 "CloneVolumes$Plan" "ends" "[I") fl_X5_37) (fun _ h9 => h9) rfl eX5_clear_36.2.2.2.2.2.1 ?_
  refine lv_iload_n hx hb eX5_clear_36.2.2.2.2.2.2.1 rfl (lv_at hl 0 rfl) ?_
  refine lv_iconst (v := (-1)) hx hb eX5_clear_36.2.2.2.2.2.2.2 (by decide) ?_
  refine va_iast hx hb hK hP hD hS 3 0 rfl rfl (z_in (by decide) (by decide)) eX5_clear_48.1 (fun H locs hP hD hS => ?_)
  generalize hf_8 : upd _ _ _ = f_8 at hP hD
  have hP : va_P D vwCl [(h0, .inr (5, [.int 0, .int 0, .int 0, .int 0, .int 0, .int 0, .ref x1, .ref x2, .ref x3, .ref x4, .ref x5, .ref h1, .ref h2, .ref h3])), (h1, .inr (0, [.ref x6, .int 0])), (h2, .inl (D.1 13, 3, .inl f_7)), (h3, .inl (D.1 13, 3, .inl f_8))] H := hP
  have hD : va_D A [(h0, .inr (5, [.int 0, .int 0, .int 0, .int 0, .int 0, .int 0, .ref x1, .ref x2, .ref x3, .ref x4, .ref x5, .ref h1, .ref h2, .ref h3])), (h1, .inr (0, [.ref x6, .int 0])), (h2, .inl (D.1 13, 3, .inl f_7)), (h3, .inl (D.1 13, 3, .inl f_8))] := hD
  refine lv_iinc (v := 2) (lv' := [(1, .int 2), (0, .ref h0)]) hx hb eX5_clear_48.2.1 hl (k := 0) rfl (by decide) (by decide) rfl (fun ls hl => ?_)
  refine lv_goto (tgt := 30) hx hb eX5_clear_48.2.2.1 (by decide) ?_
  refine lv_iload_n hx hb eX5_clear_24.2.2.2.2.1 rfl (lv_at hl 0 rfl) ?_
  refine lv_iconst (v := 3) hx hb eX5_clear_24.2.2.2.2.2.1 (by decide) ?_
  refine lv_icmp_ge (tgt := 55) hx hb eX5_clear_24.2.2.2.2.2.2.1 (by decide) (fun c_9 => (z_abs c_9 (by decide)).elim) (fun _ => ?_)
  refine lv_aload_n hx hb eX5_clear_24.2.2.2.2.2.2.2 rfl (lv_at hl 1 rfl) ?_
  refine va_get (D := D) (ci := 5) (v := .ref h2) (C := RX5) (T := TX5) (N := 14) hx hb ht inX5 hown hK hP 0 rfl rfl 12 (by decide) (ht (.fieldLink RX5 34 "CloneVolumes$Plan" "begins" "[I") fl_X5_34) (fun _ h9 => h9) rfl eX5_clear_36.1 ?_
  refine lv_iload_n hx hb eX5_clear_36.2.1 rfl (lv_at hl 0 rfl) ?_
  refine lv_iconst (v := (-1)) hx hb eX5_clear_36.2.2.1 (by decide) ?_
  refine va_iast hx hb hK hP hD hS 2 0 rfl rfl (z_in (by decide) (by decide)) eX5_clear_36.2.2.2.1 (fun H locs hP hD hS => ?_)
  generalize hf_11 : upd _ _ _ = f_11 at hP hD
  have hP : va_P D vwCl [(h0, .inr (5, [.int 0, .int 0, .int 0, .int 0, .int 0, .int 0, .ref x1, .ref x2, .ref x3, .ref x4, .ref x5, .ref h1, .ref h2, .ref h3])), (h1, .inr (0, [.ref x6, .int 0])), (h2, .inl (D.1 13, 3, .inl f_11)), (h3, .inl (D.1 13, 3, .inl f_8))] H := hP
  have hD : va_D A [(h0, .inr (5, [.int 0, .int 0, .int 0, .int 0, .int 0, .int 0, .ref x1, .ref x2, .ref x3, .ref x4, .ref x5, .ref h1, .ref h2, .ref h3])), (h1, .inr (0, [.ref x6, .int 0])), (h2, .inl (D.1 13, 3, .inl f_11)), (h3, .inl (D.1 13, 3, .inl f_8))] := hD
  refine lv_aload_n hx hb eX5_clear_36.2.2.2.2.1 rfl (lv_at hl 1 rfl) ?_
  refine va_get (D := D) (ci := 5) (v := .ref h3) (C := RX5) (T := TX5) (N := 14) hx hb ht inX5 hown hK hP 0 rfl rfl 13 (by decide) (ht (.fieldLink RX5 37 "CloneVolumes$Plan" "ends" "[I") fl_X5_37) (fun _ h9 => h9) rfl eX5_clear_36.2.2.2.2.2.1 ?_
  refine lv_iload_n hx hb eX5_clear_36.2.2.2.2.2.2.1 rfl (lv_at hl 0 rfl) ?_
  refine lv_iconst (v := (-1)) hx hb eX5_clear_36.2.2.2.2.2.2.2 (by decide) ?_
  refine va_iast hx hb hK hP hD hS 3 0 rfl rfl (z_in (by decide) (by decide)) eX5_clear_48.1 (fun H locs hP hD hS => ?_)
  generalize hf_12 : upd _ _ _ = f_12 at hP hD
  have hP : va_P D vwCl [(h0, .inr (5, [.int 0, .int 0, .int 0, .int 0, .int 0, .int 0, .ref x1, .ref x2, .ref x3, .ref x4, .ref x5, .ref h1, .ref h2, .ref h3])), (h1, .inr (0, [.ref x6, .int 0])), (h2, .inl (D.1 13, 3, .inl f_11)), (h3, .inl (D.1 13, 3, .inl f_12))] H := hP
  have hD : va_D A [(h0, .inr (5, [.int 0, .int 0, .int 0, .int 0, .int 0, .int 0, .ref x1, .ref x2, .ref x3, .ref x4, .ref x5, .ref h1, .ref h2, .ref h3])), (h1, .inr (0, [.ref x6, .int 0])), (h2, .inl (D.1 13, 3, .inl f_11)), (h3, .inl (D.1 13, 3, .inl f_12))] := hD
  refine lv_iinc (v := 3) (lv' := [(1, .int 3), (0, .ref h0)]) hx hb eX5_clear_48.2.1 hl (k := 0) rfl (by decide) (by decide) rfl (fun ls hl => ?_)
  refine lv_goto (tgt := 30) hx hb eX5_clear_48.2.2.1 (by decide) ?_
  refine lv_iload_n hx hb eX5_clear_24.2.2.2.2.1 rfl (lv_at hl 0 rfl) ?_
  refine lv_iconst (v := 3) hx hb eX5_clear_24.2.2.2.2.2.1 (by decide) ?_
  refine lv_icmp_ge (tgt := 55) hx hb eX5_clear_24.2.2.2.2.2.2.1 (by decide) (fun _ => ?_) (fun c_13 => (z_abs c_13 (by decide)).elim)
  have hP9 := hP.sub (ws' := [(h0, .inr (5, [.int 0, .int 0, .int 0, .int 0, .int 0, .int 0, .ref x1, .ref x2, .ref x3, .ref x4, .ref x5, .ref h1, .ref h2, .ref h3])), (h1, .inr (0, [.ref x6, .int 0])), (h2, .inl (D.1 13, 3, .inl f_11)), (h3, .inl (D.1 13, 3, .inl f_12))]) [0, 1, 2, 3] rfl
  have hD9 := hD.sub (ws' := [(h0, .inr (5, [.int 0, .int 0, .int 0, .int 0, .int 0, .int 0, .ref x1, .ref x2, .ref x3, .ref x4, .ref x5, .ref h1, .ref h2, .ref h3])), (h1, .inr (0, [.ref x6, .int 0])), (h2, .inl (D.1 13, 3, .inl f_11)), (h3, .inl (D.1 13, 3, .inl f_12))]) [0, 1, 2, 3] (by decide) rfl
  refine W.widen (k := 0) (n := 0) (Nat.le_of_ble_eq_true rfl) (Nat.le_of_ble_eq_true rfl) ?_
  exact W.vret hx hb hr (fun t ht hW => ⟨⟨(f_11, f_12), rfl, trivial, by rw [ht]; exact hP9, va_K.moved hW.alike hK, hD9⟩, hS.F ht⟩) hS.2.2 eX5_clear_48.2.2.2.1
set_option maxHeartbeats 4000000 in
set_option maxRecDepth 100000 in
theorem k_X5_init (l : Launch) (D : va_G) (sz : Nat) (b0 qS vS : Nat) (fS : Nat → Int32) (h0 : Nat) (hB : ∀ q, va_A [(h0, .inr (5, [.int 0, .int 0, .int 0, .int 0, .int 0, .int 0, .null, .null, .null, .null, .null, .null, .null, .null]))] sz q → b0 ≤ q) : Met l yX5_init (wz yX5_init cX5_init 1 none) { frames := 2, cells := 9, slots := 1896, locals := 120 } (va_Pc [.ref h0] (fun U => zW D sz [(h0, .inr (5, [.int 0, .int 0, .int 0, .int 0, .int 0, .int 0, .null, .null, .null, .null, .null, .null, .null, .null]))] U ∧ EE b0 qS vS fS U)) (va_Qv (fun (_ : ((Nat) × (Nat) × (Nat) × (Nat) × (Nat) × (Nat) × (Nat) × (Nat) × (Nat) × (Nat → Int32) × (Nat → Int32))) => True) (fun u t => zB D (va_A [(h0, .inr (5, [.int 0, .int 0, .int 0, .int 0, .int 0, .int 0, .null, .null, .null, .null, .null, .null, .null, .null]))] sz) ((fun (u : ((Nat) × (Nat) × (Nat) × (Nat) × (Nat) × (Nat) × (Nat) × (Nat) × (Nat) × (Nat → Int32) × (Nat → Int32))) => [(u.1, .inl (D.1 13, 48, .inl (fun _ => 0))), (u.2.1, .inl (D.1 13, 60, .inl (fun _ => 0))), (u.2.2.1, .inl (D.1 13, 60, .inl (fun _ => 0))), (u.2.2.2.1, .inl (D.1 13, 60, .inl (fun _ => 0))), (u.2.2.2.2.1, .inl (D.1 13, 60, .inl (fun _ => 0))), (u.2.2.2.2.2.1, .inl (D.1 13, 1600, .inl (fun _ => 0))), (h0, .inr (5, [.int 0, .int 0, .int 0, .int 0, .int 0, .int 0, .ref u.1, .ref u.2.1, .ref u.2.2.1, .ref u.2.2.2.1, .ref u.2.2.2.2.1, .ref u.2.2.2.2.2.2.1, .ref u.2.2.2.2.2.2.2.1, .ref u.2.2.2.2.2.2.2.2.1])), (u.2.2.2.2.2.2.1, .inr (0, [.ref u.2.2.2.2.2.1, .int 0])), (u.2.2.2.2.2.2.2.1, .inl (D.1 13, 3, .inl u.2.2.2.2.2.2.2.2.2.1)), (u.2.2.2.2.2.2.2.2.1, .inl (D.1 13, 3, .inl u.2.2.2.2.2.2.2.2.2.2))]) u) t) (va_A [(h0, .inr (5, [.int 0, .int 0, .int 0, .int 0, .int 0, .int 0, .null, .null, .null, .null, .null, .null, .null, .null]))] sz)) 9 1896 (va_A [(h0, .inr (5, [.int 0, .int 0, .int 0, .int 0, .int 0, .int 0, .null, .null, .null, .null, .null, .null, .null, .null]))] sz) := by
  refine Met.ofW (cc := cX5_init) (maxL := 1) (ret := none) (by decide) rfl ?_
  intro p e s m args below meth c s₁ B hml hv
  obtain ⟨rfl, ⟨hsz, hP, hK, hD0⟩, hE⟩ := hv
  have hx := B.exec
  have hb := B.bytes
  have hr := B.returns
  have hts := atoms_spec (ws := wz yX5_init cX5_init 1 none) B.pre
  have ht : ∀ w ∈ lw_gd, w.before _ s = true := fun w h => hts w (List.mem_cons_of_mem _ h)
  have hown : s.vm.findClass RX5 = some m.cls := findClass_of_methodNamed B.named
  have hlocks := B.notSynchronized
  have hin : meth.name = "<init>" := (name_of_methodNamed B.named B.method).1
  subst hsz
  have hD := hD0.self (sz := s.heap.size)
  have hAb := hB
  generalize hAe : va_A [(h0, .inr (5, [.int 0, .int 0, .int 0, .int 0, .int 0, .int 0, .null, .null, .null, .null, .null, .null, .null, .null]))] s.heap.size = A at hAb hD ⊢
  have hA : ∀ q : Nat, s.heap.size ≤ q → A q := fun q h => by rw [← hAe]; exact Or.inr h
  have hS : va_S A s.heap s.heap [] := va_S.rf
  have zi0 : (0 : Int32).toInt = 0 := rfl
  have zi1 : (1 : Int32).toInt = 1 := rfl
  have zi2 : (2 : Int32).toInt = 2 := rfl
  have zi3 : (3 : Int32).toInt = 3 := rfl
  have zi4 : (4 : Int32).toInt = 4 := rfl
  have hl := lv_entry ([.ref h0]) (n := 1) (Nat.le_of_ble_eq_true rfl)
  rw [lg_entry_eq]
  generalize (lg_sl ([.ref h0]) ++ List.replicate (1 - (lg_sl ([.ref h0])).length) Slot.unset).toArray = ls at hl ⊢
  have hl : lv_has ls 1 [(0, .ref h0)] := hl
  refine lv_aload_n hx hb eX5_clear_48.2.2.2.2.1 rfl (lv_at hl 0 rfl) ?_
  refine W.objInit hx hb hown (ht _ ml_X5_3) (ht _ im_obj) (ht _ co_obj) rfl (by rw [hml]; exact hl.1) rfl eX5_clear_48.2.2.2.2.2.1 (Nat.le_of_ble_eq_true rfl) (Nat.le_of_ble_eq_true rfl) ?_
  refine W.eq (g2 := F0 m 4 ls []) rfl ?_
  refine lv_aload_n hx hb eX5_clear_48.2.2.2.2.2.2.1 rfl (lv_at hl 0 rfl) ?_
  refine lv_bipush (v := 48) hx hb eX5_clear_48.2.2.2.2.2.2.2 (by decide) ?_
  refine va_newa (atype := .int) (a0 := (48, .inl (fun _ => 0))) (ty := .int) (N' := 48) hx hb (ht _ ac_int) rfl hK hP hD hS hA (fun _ => rfl) (by decide) (by decide) (by decide) (Nat.le_of_ble_eq_true rfl) (Nat.le_of_ble_eq_true rfl) eX5_init_7.1 (fun q_1 cA H hK2 hP hD hS => ?_)
  obtain rfl := z_cls_int hK hK2
  refine W.widen (k := 1) (n := 48) (Nat.le_of_ble_eq_true rfl) (Nat.le_of_ble_eq_true rfl) ?_
  have hP : va_P D vwCl [(h0, .inr (5, [.int 0, .int 0, .int 0, .int 0, .int 0, .int 0, .null, .null, .null, .null, .null, .null, .null, .null])), (q_1, .inl (D.1 13, 48, .inl (fun _ => 0)))] H := hP
  have hD : va_D A [(h0, .inr (5, [.int 0, .int 0, .int 0, .int 0, .int 0, .int 0, .null, .null, .null, .null, .null, .null, .null, .null])), (q_1, .inl (D.1 13, 48, .inl (fun _ => 0)))] := hD
  refine va_putF (D := D) (ci := 5) (v := .ref q_1) (ty := .array .int) (C := RX5) (T := TX5) (N := 14) hx hb ht inX5 tyX5 tyX5_ok nmX5 hown hK hP hD hS 0 rfl rfl 6 (by decide) (ht (.fieldLink RX5 9 "CloneVolumes$Plan" "names" "[I") fl_X5_9) (fun _ h9 => h9) rfl hin rfl (by decide +kernel) rfl rfl (Nat.le_of_ble_eq_true rfl) eX5_init_7.2.1 (fun H locs hP hD hS => ?_)
  have hP : va_P D vwCl [(h0, .inr (5, [.int 0, .int 0, .int 0, .int 0, .int 0, .int 0, .ref q_1, .null, .null, .null, .null, .null, .null, .null])), (q_1, .inl (D.1 13, 48, .inl (fun _ => 0)))] H := hP
  have hD : va_D A [(h0, .inr (5, [.int 0, .int 0, .int 0, .int 0, .int 0, .int 0, .ref q_1, .null, .null, .null, .null, .null, .null, .null])), (q_1, .inl (D.1 13, 48, .inl (fun _ => 0)))] := hD
  refine lv_aload_n hx hb eX5_init_7.2.2.1 rfl (lv_at hl 0 rfl) ?_
  refine lv_bipush (v := 60) hx hb eX5_init_7.2.2.2.1 (by decide) ?_
  refine va_newa (atype := .int) (a0 := (60, .inl (fun _ => 0))) (ty := .int) (N' := 60) hx hb (ht _ ac_int) rfl hK hP hD hS hA (fun _ => rfl) (by decide) (by decide) (by decide) (Nat.le_of_ble_eq_true rfl) (Nat.le_of_ble_eq_true rfl) eX5_init_7.2.2.2.2.1 (fun q_2 cA H hK2 hP hD hS => ?_)
  obtain rfl := z_cls_int hK hK2
  refine W.widen (k := 2) (n := 108) (Nat.le_of_ble_eq_true rfl) (Nat.le_of_ble_eq_true rfl) ?_
  have hP : va_P D vwCl [(h0, .inr (5, [.int 0, .int 0, .int 0, .int 0, .int 0, .int 0, .ref q_1, .null, .null, .null, .null, .null, .null, .null])), (q_1, .inl (D.1 13, 48, .inl (fun _ => 0))), (q_2, .inl (D.1 13, 60, .inl (fun _ => 0)))] H := hP
  have hD : va_D A [(h0, .inr (5, [.int 0, .int 0, .int 0, .int 0, .int 0, .int 0, .ref q_1, .null, .null, .null, .null, .null, .null, .null])), (q_1, .inl (D.1 13, 48, .inl (fun _ => 0))), (q_2, .inl (D.1 13, 60, .inl (fun _ => 0)))] := hD
  refine va_putF (D := D) (ci := 5) (v := .ref q_2) (ty := .array .int) (C := RX5) (T := TX5) (N := 14) hx hb ht inX5 tyX5 tyX5_ok nmX5 hown hK hP hD hS 0 rfl rfl 7 (by decide) (ht (.fieldLink RX5 15 "CloneVolumes$Plan" "kinds" "[I") fl_X5_15) (fun _ h9 => h9) rfl hin rfl (by decide +kernel) rfl rfl (Nat.le_of_ble_eq_true rfl) eX5_init_7.2.2.2.2.2.1 (fun H locs hP hD hS => ?_)
  have hP : va_P D vwCl [(h0, .inr (5, [.int 0, .int 0, .int 0, .int 0, .int 0, .int 0, .ref q_1, .ref q_2, .null, .null, .null, .null, .null, .null])), (q_1, .inl (D.1 13, 48, .inl (fun _ => 0))), (q_2, .inl (D.1 13, 60, .inl (fun _ => 0)))] H := hP
  have hD : va_D A [(h0, .inr (5, [.int 0, .int 0, .int 0, .int 0, .int 0, .int 0, .ref q_1, .ref q_2, .null, .null, .null, .null, .null, .null])), (q_1, .inl (D.1 13, 48, .inl (fun _ => 0))), (q_2, .inl (D.1 13, 60, .inl (fun _ => 0)))] := hD
  refine lv_aload_n hx hb eX5_init_7.2.2.2.2.2.2.1 rfl (lv_at hl 0 rfl) ?_
  refine lv_bipush (v := 60) hx hb eX5_init_7.2.2.2.2.2.2.2 (by decide) ?_
  refine va_newa (atype := .int) (a0 := (60, .inl (fun _ => 0))) (ty := .int) (N' := 60) hx hb (ht _ ac_int) rfl hK hP hD hS hA (fun _ => rfl) (by decide) (by decide) (by decide) (Nat.le_of_ble_eq_true rfl) (Nat.le_of_ble_eq_true rfl) eX5_init_23.1 (fun q_3 cA H hK2 hP hD hS => ?_)
  obtain rfl := z_cls_int hK hK2
  refine W.widen (k := 3) (n := 168) (Nat.le_of_ble_eq_true rfl) (Nat.le_of_ble_eq_true rfl) ?_
  have hP : va_P D vwCl [(h0, .inr (5, [.int 0, .int 0, .int 0, .int 0, .int 0, .int 0, .ref q_1, .ref q_2, .null, .null, .null, .null, .null, .null])), (q_1, .inl (D.1 13, 48, .inl (fun _ => 0))), (q_2, .inl (D.1 13, 60, .inl (fun _ => 0))), (q_3, .inl (D.1 13, 60, .inl (fun _ => 0)))] H := hP
  have hD : va_D A [(h0, .inr (5, [.int 0, .int 0, .int 0, .int 0, .int 0, .int 0, .ref q_1, .ref q_2, .null, .null, .null, .null, .null, .null])), (q_1, .inl (D.1 13, 48, .inl (fun _ => 0))), (q_2, .inl (D.1 13, 60, .inl (fun _ => 0))), (q_3, .inl (D.1 13, 60, .inl (fun _ => 0)))] := hD
  refine va_putF (D := D) (ci := 5) (v := .ref q_3) (ty := .array .int) (C := RX5) (T := TX5) (N := 14) hx hb ht inX5 tyX5 tyX5_ok nmX5 hown hK hP hD hS 0 rfl rfl 8 (by decide) (ht (.fieldLink RX5 18 "CloneVolumes$Plan" "who" "[I") fl_X5_18) (fun _ h9 => h9) rfl hin rfl (by decide +kernel) rfl rfl (Nat.le_of_ble_eq_true rfl) eX5_init_23.2.1 (fun H locs hP hD hS => ?_)
  have hP : va_P D vwCl [(h0, .inr (5, [.int 0, .int 0, .int 0, .int 0, .int 0, .int 0, .ref q_1, .ref q_2, .ref q_3, .null, .null, .null, .null, .null])), (q_1, .inl (D.1 13, 48, .inl (fun _ => 0))), (q_2, .inl (D.1 13, 60, .inl (fun _ => 0))), (q_3, .inl (D.1 13, 60, .inl (fun _ => 0)))] H := hP
  have hD : va_D A [(h0, .inr (5, [.int 0, .int 0, .int 0, .int 0, .int 0, .int 0, .ref q_1, .ref q_2, .ref q_3, .null, .null, .null, .null, .null])), (q_1, .inl (D.1 13, 48, .inl (fun _ => 0))), (q_2, .inl (D.1 13, 60, .inl (fun _ => 0))), (q_3, .inl (D.1 13, 60, .inl (fun _ => 0)))] := hD
  refine lv_aload_n hx hb eX5_init_23.2.2.1 rfl (lv_at hl 0 rfl) ?_
  refine lv_bipush (v := 60) hx hb eX5_init_23.2.2.2.1 (by decide) ?_
  refine va_newa (atype := .int) (a0 := (60, .inl (fun _ => 0))) (ty := .int) (N' := 60) hx hb (ht _ ac_int) rfl hK hP hD hS hA (fun _ => rfl) (by decide) (by decide) (by decide) (Nat.le_of_ble_eq_true rfl) (Nat.le_of_ble_eq_true rfl) eX5_init_23.2.2.2.2.1 (fun q_4 cA H hK2 hP hD hS => ?_)
  obtain rfl := z_cls_int hK hK2
  refine W.widen (k := 4) (n := 228) (Nat.le_of_ble_eq_true rfl) (Nat.le_of_ble_eq_true rfl) ?_
  have hP : va_P D vwCl [(h0, .inr (5, [.int 0, .int 0, .int 0, .int 0, .int 0, .int 0, .ref q_1, .ref q_2, .ref q_3, .null, .null, .null, .null, .null])), (q_1, .inl (D.1 13, 48, .inl (fun _ => 0))), (q_2, .inl (D.1 13, 60, .inl (fun _ => 0))), (q_3, .inl (D.1 13, 60, .inl (fun _ => 0))), (q_4, .inl (D.1 13, 60, .inl (fun _ => 0)))] H := hP
  have hD : va_D A [(h0, .inr (5, [.int 0, .int 0, .int 0, .int 0, .int 0, .int 0, .ref q_1, .ref q_2, .ref q_3, .null, .null, .null, .null, .null])), (q_1, .inl (D.1 13, 48, .inl (fun _ => 0))), (q_2, .inl (D.1 13, 60, .inl (fun _ => 0))), (q_3, .inl (D.1 13, 60, .inl (fun _ => 0))), (q_4, .inl (D.1 13, 60, .inl (fun _ => 0)))] := hD
  refine va_putF (D := D) (ci := 5) (v := .ref q_4) (ty := .array .int) (C := RX5) (T := TX5) (N := 14) hx hb ht inX5 tyX5 tyX5_ok nmX5 hown hK hP hD hS 0 rfl rfl 9 (by decide) (ht (.fieldLink RX5 21 "CloneVolumes$Plan" "first" "[I") fl_X5_21) (fun _ h9 => h9) rfl hin rfl (by decide +kernel) rfl rfl (Nat.le_of_ble_eq_true rfl) eX5_init_23.2.2.2.2.2.1 (fun H locs hP hD hS => ?_)
  have hP : va_P D vwCl [(h0, .inr (5, [.int 0, .int 0, .int 0, .int 0, .int 0, .int 0, .ref q_1, .ref q_2, .ref q_3, .ref q_4, .null, .null, .null, .null])), (q_1, .inl (D.1 13, 48, .inl (fun _ => 0))), (q_2, .inl (D.1 13, 60, .inl (fun _ => 0))), (q_3, .inl (D.1 13, 60, .inl (fun _ => 0))), (q_4, .inl (D.1 13, 60, .inl (fun _ => 0)))] H := hP
  have hD : va_D A [(h0, .inr (5, [.int 0, .int 0, .int 0, .int 0, .int 0, .int 0, .ref q_1, .ref q_2, .ref q_3, .ref q_4, .null, .null, .null, .null])), (q_1, .inl (D.1 13, 48, .inl (fun _ => 0))), (q_2, .inl (D.1 13, 60, .inl (fun _ => 0))), (q_3, .inl (D.1 13, 60, .inl (fun _ => 0))), (q_4, .inl (D.1 13, 60, .inl (fun _ => 0)))] := hD
  refine lv_aload_n hx hb eX5_init_23.2.2.2.2.2.2.1 rfl (lv_at hl 0 rfl) ?_
  refine lv_bipush (v := 60) hx hb eX5_init_23.2.2.2.2.2.2.2 (by decide) ?_
  refine va_newa (atype := .int) (a0 := (60, .inl (fun _ => 0))) (ty := .int) (N' := 60) hx hb (ht _ ac_int) rfl hK hP hD hS hA (fun _ => rfl) (by decide) (by decide) (by decide) (Nat.le_of_ble_eq_true rfl) (Nat.le_of_ble_eq_true rfl) eX5_init_39.1 (fun q_5 cA H hK2 hP hD hS => ?_)
  obtain rfl := z_cls_int hK hK2
  refine W.widen (k := 5) (n := 288) (Nat.le_of_ble_eq_true rfl) (Nat.le_of_ble_eq_true rfl) ?_
  have hP : va_P D vwCl [(h0, .inr (5, [.int 0, .int 0, .int 0, .int 0, .int 0, .int 0, .ref q_1, .ref q_2, .ref q_3, .ref q_4, .null, .null, .null, .null])), (q_1, .inl (D.1 13, 48, .inl (fun _ => 0))), (q_2, .inl (D.1 13, 60, .inl (fun _ => 0))), (q_3, .inl (D.1 13, 60, .inl (fun _ => 0))), (q_4, .inl (D.1 13, 60, .inl (fun _ => 0))), (q_5, .inl (D.1 13, 60, .inl (fun _ => 0)))] H := hP
  have hD : va_D A [(h0, .inr (5, [.int 0, .int 0, .int 0, .int 0, .int 0, .int 0, .ref q_1, .ref q_2, .ref q_3, .ref q_4, .null, .null, .null, .null])), (q_1, .inl (D.1 13, 48, .inl (fun _ => 0))), (q_2, .inl (D.1 13, 60, .inl (fun _ => 0))), (q_3, .inl (D.1 13, 60, .inl (fun _ => 0))), (q_4, .inl (D.1 13, 60, .inl (fun _ => 0))), (q_5, .inl (D.1 13, 60, .inl (fun _ => 0)))] := hD
  refine va_putF (D := D) (ci := 5) (v := .ref q_5) (ty := .array .int) (C := RX5) (T := TX5) (N := 14) hx hb ht inX5 tyX5 tyX5_ok nmX5 hown hK hP hD hS 0 rfl rfl 10 (by decide) (ht (.fieldLink RX5 24 "CloneVolumes$Plan" "second" "[I") fl_X5_24) (fun _ h9 => h9) rfl hin rfl (by decide +kernel) rfl rfl (Nat.le_of_ble_eq_true rfl) eX5_init_39.2.1 (fun H locs hP hD hS => ?_)
  have hP : va_P D vwCl [(h0, .inr (5, [.int 0, .int 0, .int 0, .int 0, .int 0, .int 0, .ref q_1, .ref q_2, .ref q_3, .ref q_4, .ref q_5, .null, .null, .null])), (q_1, .inl (D.1 13, 48, .inl (fun _ => 0))), (q_2, .inl (D.1 13, 60, .inl (fun _ => 0))), (q_3, .inl (D.1 13, 60, .inl (fun _ => 0))), (q_4, .inl (D.1 13, 60, .inl (fun _ => 0))), (q_5, .inl (D.1 13, 60, .inl (fun _ => 0)))] H := hP
  have hD : va_D A [(h0, .inr (5, [.int 0, .int 0, .int 0, .int 0, .int 0, .int 0, .ref q_1, .ref q_2, .ref q_3, .ref q_4, .ref q_5, .null, .null, .null])), (q_1, .inl (D.1 13, 48, .inl (fun _ => 0))), (q_2, .inl (D.1 13, 60, .inl (fun _ => 0))), (q_3, .inl (D.1 13, 60, .inl (fun _ => 0))), (q_4, .inl (D.1 13, 60, .inl (fun _ => 0))), (q_5, .inl (D.1 13, 60, .inl (fun _ => 0)))] := hD
  refine lv_aload_n hx hb eX5_init_39.2.2.1 rfl (lv_at hl 0 rfl) ?_
  refine va_new (ci := 0) (fs := [.null, .int 0]) (C := RX0) (T := TX0) (N := 2) hx hb ht inX0 tyX0 tyX0_ok hown (ht _ cx_X5_27) (ht _ ia_X0) (ht _ in_X0) hK hP hD hS hA rfl (by decide +kernel) (Nat.le_of_ble_eq_true rfl) (Nat.le_of_ble_eq_true rfl) eX5_init_39.2.2.2.1 (fun q_6 H hP hD hS => ?_)
  refine W.widen (k := 6) (n := 290) (Nat.le_of_ble_eq_true rfl) (Nat.le_of_ble_eq_true rfl) ?_
  have hP : va_P D vwCl [(h0, .inr (5, [.int 0, .int 0, .int 0, .int 0, .int 0, .int 0, .ref q_1, .ref q_2, .ref q_3, .ref q_4, .ref q_5, .null, .null, .null])), (q_1, .inl (D.1 13, 48, .inl (fun _ => 0))), (q_2, .inl (D.1 13, 60, .inl (fun _ => 0))), (q_3, .inl (D.1 13, 60, .inl (fun _ => 0))), (q_4, .inl (D.1 13, 60, .inl (fun _ => 0))), (q_5, .inl (D.1 13, 60, .inl (fun _ => 0))), (q_6, .inr (0, [.null, .int 0]))] H := hP
  have hD : va_D A [(h0, .inr (5, [.int 0, .int 0, .int 0, .int 0, .int 0, .int 0, .ref q_1, .ref q_2, .ref q_3, .ref q_4, .ref q_5, .null, .null, .null])), (q_1, .inl (D.1 13, 48, .inl (fun _ => 0))), (q_2, .inl (D.1 13, 60, .inl (fun _ => 0))), (q_3, .inl (D.1 13, 60, .inl (fun _ => 0))), (q_4, .inl (D.1 13, 60, .inl (fun _ => 0))), (q_5, .inl (D.1 13, 60, .inl (fun _ => 0))), (q_6, .inr (0, [.null, .int 0]))] := hD
  refine lv_dup hx hb eX5_init_39.2.2.2.2.1 rfl ?_
  refine zwIN (As := []) (rest := [.ref q_6, .ref h0]) (n := 0) (wr := [(h0, .inr (5, [.int 0, .int 0, .int 0, .int 0, .int 0, .int 0, .ref q_1, .ref q_2, .ref q_3, .ref q_4, .ref q_5, .null, .null, .null])), (q_1, .inl (D.1 13, 48, .inl (fun _ => 0))), (q_2, .inl (D.1 13, 60, .inl (fun _ => 0))), (q_3, .inl (D.1 13, 60, .inl (fun _ => 0))), (q_4, .inl (D.1 13, 60, .inl (fun _ => 0))), (q_5, .inl (D.1 13, 60, .inl (fun _ => 0)))]) ⟨hx, hb, hml, hown, ht⟩ (k_X0_init l D _ q_6) co_X0_init rfl rfl in_X0 hE.1.2.2.2.2.2.1 im_X0_init rfl (by decide +kernel) ⟨Nat.le_of_ble_eq_true rfl, Nat.le_of_ble_eq_true rfl⟩ hK hP hD hS hA [6] [0, 1, 2, 3, 4, 5] rfl rfl rfl rfl (by decide) rfl hl.1 rfl (Nat.le_of_ble_eq_true rfl) eX5_init_39.2.2.2.2.2.1 ⟨Nat.le_of_ble_eq_true rfl, Nat.le_of_ble_eq_true rfl⟩ (fun u_7 H locs hw hP hD hS => ?_)
  refine W.widen (k := 7) (n := 1890) (Nat.le_of_ble_eq_true rfl) (Nat.le_of_ble_eq_true rfl) ?_
  have hP : va_P D vwCl [(h0, .inr (5, [.int 0, .int 0, .int 0, .int 0, .int 0, .int 0, .ref q_1, .ref q_2, .ref q_3, .ref q_4, .ref q_5, .null, .null, .null])), (q_1, .inl (D.1 13, 48, .inl (fun _ => 0))), (q_2, .inl (D.1 13, 60, .inl (fun _ => 0))), (q_3, .inl (D.1 13, 60, .inl (fun _ => 0))), (q_4, .inl (D.1 13, 60, .inl (fun _ => 0))), (q_5, .inl (D.1 13, 60, .inl (fun _ => 0))), (q_6, .inr (0, [.ref u_7, .int 0])), (u_7, .inl (D.1 13, 1600, .inl (fun _ => 0)))] H := hP
  have hD : va_D A [(h0, .inr (5, [.int 0, .int 0, .int 0, .int 0, .int 0, .int 0, .ref q_1, .ref q_2, .ref q_3, .ref q_4, .ref q_5, .null, .null, .null])), (q_1, .inl (D.1 13, 48, .inl (fun _ => 0))), (q_2, .inl (D.1 13, 60, .inl (fun _ => 0))), (q_3, .inl (D.1 13, 60, .inl (fun _ => 0))), (q_4, .inl (D.1 13, 60, .inl (fun _ => 0))), (q_5, .inl (D.1 13, 60, .inl (fun _ => 0))), (q_6, .inr (0, [.ref u_7, .int 0])), (u_7, .inl (D.1 13, 1600, .inl (fun _ => 0)))] := hD
  refine va_putF (D := D) (ci := 5) (v := .ref q_6) (ty := .object "CloneVolumes$Code") (C := RX5) (T := TX5) (N := 14) hx hb ht inX5 tyX5 tyX5_ok nmX5 hown hK hP hD hS 0 rfl rfl 11 (by decide) (ht (.fieldLink RX5 30 "CloneVolumes$Plan" "code" "LCloneVolumes$Code;") fl_X5_30) (fun _ h9 => h9) rfl hin rfl (by decide +kernel) rfl rfl (Nat.le_of_ble_eq_true rfl) eX5_init_39.2.2.2.2.2.2.1 (fun H locs hP hD hS => ?_)
  have hP : va_P D vwCl [(h0, .inr (5, [.int 0, .int 0, .int 0, .int 0, .int 0, .int 0, .ref q_1, .ref q_2, .ref q_3, .ref q_4, .ref q_5, .ref q_6, .null, .null])), (q_1, .inl (D.1 13, 48, .inl (fun _ => 0))), (q_2, .inl (D.1 13, 60, .inl (fun _ => 0))), (q_3, .inl (D.1 13, 60, .inl (fun _ => 0))), (q_4, .inl (D.1 13, 60, .inl (fun _ => 0))), (q_5, .inl (D.1 13, 60, .inl (fun _ => 0))), (q_6, .inr (0, [.ref u_7, .int 0])), (u_7, .inl (D.1 13, 1600, .inl (fun _ => 0)))] H := hP
  have hD : va_D A [(h0, .inr (5, [.int 0, .int 0, .int 0, .int 0, .int 0, .int 0, .ref q_1, .ref q_2, .ref q_3, .ref q_4, .ref q_5, .ref q_6, .null, .null])), (q_1, .inl (D.1 13, 48, .inl (fun _ => 0))), (q_2, .inl (D.1 13, 60, .inl (fun _ => 0))), (q_3, .inl (D.1 13, 60, .inl (fun _ => 0))), (q_4, .inl (D.1 13, 60, .inl (fun _ => 0))), (q_5, .inl (D.1 13, 60, .inl (fun _ => 0))), (q_6, .inr (0, [.ref u_7, .int 0])), (u_7, .inl (D.1 13, 1600, .inl (fun _ => 0)))] := hD
  refine lv_aload_n hx hb eX5_init_39.2.2.2.2.2.2.2 rfl (lv_at hl 0 rfl) ?_
  refine lv_iconst (v := 3) hx hb eX5_init_56.1 (by decide) ?_
  refine va_newa (atype := .int) (a0 := (3, .inl (fun _ => 0))) (ty := .int) (N' := 3) hx hb (ht _ ac_int) rfl hK hP hD hS hA (fun _ => rfl) (by decide) (by decide) (by decide) (Nat.le_of_ble_eq_true rfl) (Nat.le_of_ble_eq_true rfl) eX5_init_56.2.1 (fun q_8 cA H hK2 hP hD hS => ?_)
  obtain rfl := z_cls_int hK hK2
  refine W.widen (k := 8) (n := 1893) (Nat.le_of_ble_eq_true rfl) (Nat.le_of_ble_eq_true rfl) ?_
  have hP : va_P D vwCl [(h0, .inr (5, [.int 0, .int 0, .int 0, .int 0, .int 0, .int 0, .ref q_1, .ref q_2, .ref q_3, .ref q_4, .ref q_5, .ref q_6, .null, .null])), (q_1, .inl (D.1 13, 48, .inl (fun _ => 0))), (q_2, .inl (D.1 13, 60, .inl (fun _ => 0))), (q_3, .inl (D.1 13, 60, .inl (fun _ => 0))), (q_4, .inl (D.1 13, 60, .inl (fun _ => 0))), (q_5, .inl (D.1 13, 60, .inl (fun _ => 0))), (q_6, .inr (0, [.ref u_7, .int 0])), (u_7, .inl (D.1 13, 1600, .inl (fun _ => 0))), (q_8, .inl (D.1 13, 3, .inl (fun _ => 0)))] H := hP
  have hD : va_D A [(h0, .inr (5, [.int 0, .int 0, .int 0, .int 0, .int 0, .int 0, .ref q_1, .ref q_2, .ref q_3, .ref q_4, .ref q_5, .ref q_6, .null, .null])), (q_1, .inl (D.1 13, 48, .inl (fun _ => 0))), (q_2, .inl (D.1 13, 60, .inl (fun _ => 0))), (q_3, .inl (D.1 13, 60, .inl (fun _ => 0))), (q_4, .inl (D.1 13, 60, .inl (fun _ => 0))), (q_5, .inl (D.1 13, 60, .inl (fun _ => 0))), (q_6, .inr (0, [.ref u_7, .int 0])), (u_7, .inl (D.1 13, 1600, .inl (fun _ => 0))), (q_8, .inl (D.1 13, 3, .inl (fun _ => 0)))] := hD
  refine va_putF (D := D) (ci := 5) (v := .ref q_8) (ty := .array .int) (C := RX5) (T := TX5) (N := 14) hx hb ht inX5 tyX5 tyX5_ok nmX5 hown hK hP hD hS 0 rfl rfl 12 (by decide) (ht (.fieldLink RX5 34 "CloneVolumes$Plan" "begins" "[I") fl_X5_34) (fun _ h9 => h9) rfl hin rfl (by decide +kernel) rfl rfl (Nat.le_of_ble_eq_true rfl) eX5_init_56.2.2.1 (fun H locs hP hD hS => ?_)
  have hP : va_P D vwCl [(h0, .inr (5, [.int 0, .int 0, .int 0, .int 0, .int 0, .int 0, .ref q_1, .ref q_2, .ref q_3, .ref q_4, .ref q_5, .ref q_6, .ref q_8, .null])), (q_1, .inl (D.1 13, 48, .inl (fun _ => 0))), (q_2, .inl (D.1 13, 60, .inl (fun _ => 0))), (q_3, .inl (D.1 13, 60, .inl (fun _ => 0))), (q_4, .inl (D.1 13, 60, .inl (fun _ => 0))), (q_5, .inl (D.1 13, 60, .inl (fun _ => 0))), (q_6, .inr (0, [.ref u_7, .int 0])), (u_7, .inl (D.1 13, 1600, .inl (fun _ => 0))), (q_8, .inl (D.1 13, 3, .inl (fun _ => 0)))] H := hP
  have hD : va_D A [(h0, .inr (5, [.int 0, .int 0, .int 0, .int 0, .int 0, .int 0, .ref q_1, .ref q_2, .ref q_3, .ref q_4, .ref q_5, .ref q_6, .ref q_8, .null])), (q_1, .inl (D.1 13, 48, .inl (fun _ => 0))), (q_2, .inl (D.1 13, 60, .inl (fun _ => 0))), (q_3, .inl (D.1 13, 60, .inl (fun _ => 0))), (q_4, .inl (D.1 13, 60, .inl (fun _ => 0))), (q_5, .inl (D.1 13, 60, .inl (fun _ => 0))), (q_6, .inr (0, [.ref u_7, .int 0])), (u_7, .inl (D.1 13, 1600, .inl (fun _ => 0))), (q_8, .inl (D.1 13, 3, .inl (fun _ => 0)))] := hD
  refine lv_aload_n hx hb eX5_init_56.2.2.2.1 rfl (lv_at hl 0 rfl) ?_
  refine lv_iconst (v := 3) hx hb eX5_init_56.2.2.2.2.1 (by decide) ?_
  refine va_newa (atype := .int) (a0 := (3, .inl (fun _ => 0))) (ty := .int) (N' := 3) hx hb (ht _ ac_int) rfl hK hP hD hS hA (fun _ => rfl) (by decide) (by decide) (by decide) (Nat.le_of_ble_eq_true rfl) (Nat.le_of_ble_eq_true rfl) eX5_init_56.2.2.2.2.2.1 (fun q_9 cA H hK2 hP hD hS => ?_)
  obtain rfl := z_cls_int hK hK2
  refine W.widen (k := 9) (n := 1896) (Nat.le_of_ble_eq_true rfl) (Nat.le_of_ble_eq_true rfl) ?_
  have hP : va_P D vwCl [(h0, .inr (5, [.int 0, .int 0, .int 0, .int 0, .int 0, .int 0, .ref q_1, .ref q_2, .ref q_3, .ref q_4, .ref q_5, .ref q_6, .ref q_8, .null])), (q_1, .inl (D.1 13, 48, .inl (fun _ => 0))), (q_2, .inl (D.1 13, 60, .inl (fun _ => 0))), (q_3, .inl (D.1 13, 60, .inl (fun _ => 0))), (q_4, .inl (D.1 13, 60, .inl (fun _ => 0))), (q_5, .inl (D.1 13, 60, .inl (fun _ => 0))), (q_6, .inr (0, [.ref u_7, .int 0])), (u_7, .inl (D.1 13, 1600, .inl (fun _ => 0))), (q_8, .inl (D.1 13, 3, .inl (fun _ => 0))), (q_9, .inl (D.1 13, 3, .inl (fun _ => 0)))] H := hP
  have hD : va_D A [(h0, .inr (5, [.int 0, .int 0, .int 0, .int 0, .int 0, .int 0, .ref q_1, .ref q_2, .ref q_3, .ref q_4, .ref q_5, .ref q_6, .ref q_8, .null])), (q_1, .inl (D.1 13, 48, .inl (fun _ => 0))), (q_2, .inl (D.1 13, 60, .inl (fun _ => 0))), (q_3, .inl (D.1 13, 60, .inl (fun _ => 0))), (q_4, .inl (D.1 13, 60, .inl (fun _ => 0))), (q_5, .inl (D.1 13, 60, .inl (fun _ => 0))), (q_6, .inr (0, [.ref u_7, .int 0])), (u_7, .inl (D.1 13, 1600, .inl (fun _ => 0))), (q_8, .inl (D.1 13, 3, .inl (fun _ => 0))), (q_9, .inl (D.1 13, 3, .inl (fun _ => 0)))] := hD
  refine va_putF (D := D) (ci := 5) (v := .ref q_9) (ty := .array .int) (C := RX5) (T := TX5) (N := 14) hx hb ht inX5 tyX5 tyX5_ok nmX5 hown hK hP hD hS 0 rfl rfl 13 (by decide) (ht (.fieldLink RX5 37 "CloneVolumes$Plan" "ends" "[I") fl_X5_37) (fun _ h9 => h9) rfl hin rfl (by decide +kernel) rfl rfl (Nat.le_of_ble_eq_true rfl) eX5_init_56.2.2.2.2.2.2.1 (fun H locs hP hD hS => ?_)
  have hP : va_P D vwCl [(h0, .inr (5, [.int 0, .int 0, .int 0, .int 0, .int 0, .int 0, .ref q_1, .ref q_2, .ref q_3, .ref q_4, .ref q_5, .ref q_6, .ref q_8, .ref q_9])), (q_1, .inl (D.1 13, 48, .inl (fun _ => 0))), (q_2, .inl (D.1 13, 60, .inl (fun _ => 0))), (q_3, .inl (D.1 13, 60, .inl (fun _ => 0))), (q_4, .inl (D.1 13, 60, .inl (fun _ => 0))), (q_5, .inl (D.1 13, 60, .inl (fun _ => 0))), (q_6, .inr (0, [.ref u_7, .int 0])), (u_7, .inl (D.1 13, 1600, .inl (fun _ => 0))), (q_8, .inl (D.1 13, 3, .inl (fun _ => 0))), (q_9, .inl (D.1 13, 3, .inl (fun _ => 0)))] H := hP
  have hD : va_D A [(h0, .inr (5, [.int 0, .int 0, .int 0, .int 0, .int 0, .int 0, .ref q_1, .ref q_2, .ref q_3, .ref q_4, .ref q_5, .ref q_6, .ref q_8, .ref q_9])), (q_1, .inl (D.1 13, 48, .inl (fun _ => 0))), (q_2, .inl (D.1 13, 60, .inl (fun _ => 0))), (q_3, .inl (D.1 13, 60, .inl (fun _ => 0))), (q_4, .inl (D.1 13, 60, .inl (fun _ => 0))), (q_5, .inl (D.1 13, 60, .inl (fun _ => 0))), (q_6, .inr (0, [.ref u_7, .int 0])), (u_7, .inl (D.1 13, 1600, .inl (fun _ => 0))), (q_8, .inl (D.1 13, 3, .inl (fun _ => 0))), (q_9, .inl (D.1 13, 3, .inl (fun _ => 0)))] := hD
  refine lv_aload_n hx hb eX5_init_56.2.2.2.2.2.2.2 rfl (lv_at hl 0 rfl) ?_
  refine zwVv (As := []) (rest := []) (C := RX5) (n := 0) (wr := [(q_1, .inl (D.1 13, 48, .inl (fun _ => 0))), (q_2, .inl (D.1 13, 60, .inl (fun _ => 0))), (q_3, .inl (D.1 13, 60, .inl (fun _ => 0))), (q_4, .inl (D.1 13, 60, .inl (fun _ => 0))), (q_5, .inl (D.1 13, 60, .inl (fun _ => 0))), (u_7, .inl (D.1 13, 1600, .inl (fun _ => 0)))]) ⟨hx, hb, hml, hown, ht⟩ (k_X5_clear0 l D _ h0 q_6 q_8 q_9 q_1 q_2 q_3 q_4 q_5 u_7 (fun _ => 0) (fun _ => 0)) (zgV ml_X5_40 im_X5_clear se_X5_clear in_X5 co_X5_clear) rfl rfl (by decide +kernel) ⟨Nat.le_of_ble_eq_true rfl, Nat.le_of_ble_eq_true rfl⟩ hK hP hD hS hA [0, 6, 8, 9] [1, 2, 3, 4, 5, 7] rfl rfl rfl rfl (by decide) 0 rfl rfl rfl rfl hl.1 rfl (Nat.le_of_ble_eq_true rfl) eX5_init_70.1 ⟨Nat.le_of_ble_eq_true rfl, Nat.le_of_ble_eq_true rfl⟩ (fun u_10 H locs hw hP hD hS => ?_)
  obtain ⟨f_12, f_13⟩ := u_10
  have hP : va_P D vwCl [(q_1, .inl (D.1 13, 48, .inl (fun _ => 0))), (q_2, .inl (D.1 13, 60, .inl (fun _ => 0))), (q_3, .inl (D.1 13, 60, .inl (fun _ => 0))), (q_4, .inl (D.1 13, 60, .inl (fun _ => 0))), (q_5, .inl (D.1 13, 60, .inl (fun _ => 0))), (u_7, .inl (D.1 13, 1600, .inl (fun _ => 0))), (h0, .inr (5, [.int 0, .int 0, .int 0, .int 0, .int 0, .int 0, .ref q_1, .ref q_2, .ref q_3, .ref q_4, .ref q_5, .ref q_6, .ref q_8, .ref q_9])), (q_6, .inr (0, [.ref u_7, .int 0])), (q_8, .inl (D.1 13, 3, .inl f_12)), (q_9, .inl (D.1 13, 3, .inl f_13))] H := hP
  have hD : va_D A [(q_1, .inl (D.1 13, 48, .inl (fun _ => 0))), (q_2, .inl (D.1 13, 60, .inl (fun _ => 0))), (q_3, .inl (D.1 13, 60, .inl (fun _ => 0))), (q_4, .inl (D.1 13, 60, .inl (fun _ => 0))), (q_5, .inl (D.1 13, 60, .inl (fun _ => 0))), (u_7, .inl (D.1 13, 1600, .inl (fun _ => 0))), (h0, .inr (5, [.int 0, .int 0, .int 0, .int 0, .int 0, .int 0, .ref q_1, .ref q_2, .ref q_3, .ref q_4, .ref q_5, .ref q_6, .ref q_8, .ref q_9])), (q_6, .inr (0, [.ref u_7, .int 0])), (q_8, .inl (D.1 13, 3, .inl f_12)), (q_9, .inl (D.1 13, 3, .inl f_13))] := hD
  have hP9 := hP.sub (ws' := [(q_1, .inl (D.1 13, 48, .inl (fun _ => 0))), (q_2, .inl (D.1 13, 60, .inl (fun _ => 0))), (q_3, .inl (D.1 13, 60, .inl (fun _ => 0))), (q_4, .inl (D.1 13, 60, .inl (fun _ => 0))), (q_5, .inl (D.1 13, 60, .inl (fun _ => 0))), (u_7, .inl (D.1 13, 1600, .inl (fun _ => 0))), (h0, .inr (5, [.int 0, .int 0, .int 0, .int 0, .int 0, .int 0, .ref q_1, .ref q_2, .ref q_3, .ref q_4, .ref q_5, .ref q_6, .ref q_8, .ref q_9])), (q_6, .inr (0, [.ref u_7, .int 0])), (q_8, .inl (D.1 13, 3, .inl f_12)), (q_9, .inl (D.1 13, 3, .inl f_13))]) [0, 1, 2, 3, 4, 5, 6, 7, 8, 9] rfl
  have hD9 := hD.sub (ws' := [(q_1, .inl (D.1 13, 48, .inl (fun _ => 0))), (q_2, .inl (D.1 13, 60, .inl (fun _ => 0))), (q_3, .inl (D.1 13, 60, .inl (fun _ => 0))), (q_4, .inl (D.1 13, 60, .inl (fun _ => 0))), (q_5, .inl (D.1 13, 60, .inl (fun _ => 0))), (u_7, .inl (D.1 13, 1600, .inl (fun _ => 0))), (h0, .inr (5, [.int 0, .int 0, .int 0, .int 0, .int 0, .int 0, .ref q_1, .ref q_2, .ref q_3, .ref q_4, .ref q_5, .ref q_6, .ref q_8, .ref q_9])), (q_6, .inr (0, [.ref u_7, .int 0])), (q_8, .inl (D.1 13, 3, .inl f_12)), (q_9, .inl (D.1 13, 3, .inl f_13))]) [0, 1, 2, 3, 4, 5, 6, 7, 8, 9] (by decide) rfl
  refine W.widen (k := 9) (n := 1896) (Nat.le_of_ble_eq_true rfl) (Nat.le_of_ble_eq_true rfl) ?_
  exact W.vret hx hb hr (fun t ht hW => ⟨⟨(q_1, q_2, q_3, q_4, q_5, u_7, q_6, q_8, q_9, f_12, f_13), rfl, trivial, by rw [ht]; exact hP9, va_K.moved hW.alike hK, hD9⟩, hS.F ht⟩) hS.2.2 eX5_init_70.2.1
