theorem fl_X8_30 : Cond.fieldLink RX8 30 "CloneVolumes$State" "roots" "[I" ∈ lw_gd := zm (List.mem_of_getElem? (i := 593) (by decide +kernel)) rfl
theorem fl_X8_40 : Cond.fieldLink RX8 40 "CloneVolumes$State" "blocks" "I" ∈ lw_gd := zm (List.mem_of_getElem? (i := 553) (by decide +kernel)) rfl
theorem ml_X8_67 : Cond.methodLink RX8 67 yX8_isVolume ∈ lw_gd := zm (List.mem_of_getElem? (i := 1083) (by decide +kernel)) rfl
theorem im_X8_isVolume : Cond.instanceMethod yX8_isVolume ∈ lw_gd := zm (List.mem_of_getElem? (i := 1084) (by decide +kernel)) rfl
theorem se_X8_isVolume : Cond.selects RX8 yX8_isVolume yX8_isVolume ∈ lw_gd := zm (List.mem_of_getElem? (i := 1085) (by decide +kernel)) rfl
theorem in_X8 : Cond.initialized RX8 ∈ lw_gd := zm (List.mem_of_getElem? (i := 212) (by decide +kernel)) rfl
theorem co_X8_isVolume : Cond.code yX8_isVolume cX8_isVolume 2 (some .boolean) ∈ lw_gd := zm (List.mem_of_getElem? (i := 1086) (by decide +kernel)) rfl
theorem fl_X2_27 : Cond.fieldLink RX2 27 "CloneVolumes$History" "rows" "I" ∈ lw_gd := zm (List.mem_of_getElem? (i := 350) (by decide +kernel)) rfl
theorem ml_X2_34 : Cond.methodLink RX2 34 Lib.Math.min.name ∈ lw_gd := zm (List.mem_of_getElem? (i := 1103) (by decide +kernel)) rfl
theorem st_mmin : Cond.static Lib.Math.min.name ∈ lw_gd := zm (List.mem_of_getElem? (i := 1104) (by decide +kernel)) rfl
theorem in_math : Cond.initialized "java/lang/Math" ∈ lw_gd := zm (List.mem_of_getElem? (i := 216) (by decide +kernel)) rfl
theorem co_mmin : Cond.code Lib.Math.min.name Lib.Math.min.code 2 (some .int) ∈ lw_gd := zm (List.mem_of_getElem? (i := 1105) (by decide +kernel)) rfl
theorem ml_X2_40 : Cond.methodLink RX2 40 yX2_toldRows ∈ lw_gd := zm (List.mem_of_getElem? (i := 1167) (by decide +kernel)) rfl
theorem im_X2_toldRows : Cond.instanceMethod yX2_toldRows ∈ lw_gd := zm (List.mem_of_getElem? (i := 1100) (by decide +kernel)) rfl
theorem se_X2_toldRows : Cond.selects RX2 yX2_toldRows yX2_toldRows ∈ lw_gd := zm (List.mem_of_getElem? (i := 1101) (by decide +kernel)) rfl
theorem in_X2 : Cond.initialized RX2 ∈ lw_gd := zm (List.mem_of_getElem? (i := 205) (by decide +kernel)) rfl
theorem co_X2_toldRows : Cond.code yX2_toldRows cX2_toldRows 1 (some .int) ∈ lw_gd := zm (List.mem_of_getElem? (i := 1102) (by decide +kernel)) rfl
theorem fl_X2_31 : Cond.fieldLink RX2 31 "CloneVolumes$History" "depth" "I" ∈ lw_gd := zm (List.mem_of_getElem? (i := 352) (by decide +kernel)) rfl
theorem fl_X7_24 : Cond.fieldLink RX7 24 "CloneVolumes$Tape" "length" "I" ∈ lw_gd := zm (List.mem_of_getElem? (i := 236) (by decide +kernel)) rfl
theorem fl_X9_15 : Cond.fieldLink RX9 15 "CloneVolumes$Tape" "length" "I" ∈ lw_gd := zm (List.mem_of_getElem? (i := 235) (by decide +kernel)) rfl
theorem dX11_isKey_0 : decode cX11_isKey 0 = .ok (.iload_n 0, 1) := by decide +kernel
theorem dX11_isKey_1 : decode cX11_isKey 1 = .ok (.ifCond .lt 14, 3) := by decide +kernel
theorem dX11_isKey_4 : decode cX11_isKey 4 = .ok (.iload_n 0, 1) := by decide +kernel
theorem dX11_isKey_5 : decode cX11_isKey 5 = .ok (.sipush 999, 3) := by decide +kernel
theorem dX11_isKey_8 : decode cX11_isKey 8 = .ok (.if_icmp .gt 7, 3) := by decide +kernel
theorem dX11_isKey_11 : decode cX11_isKey 11 = .ok (.iconst 1, 1) := by decide +kernel
theorem dX11_isKey_12 : decode cX11_isKey 12 = .ok (.goto 4, 3) := by decide +kernel
theorem dX11_isKey_15 : decode cX11_isKey 15 = .ok (.iconst 0, 1) := by decide +kernel
theorem dX11_isKey_16 : decode cX11_isKey 16 = .ok (.ireturn, 1) := by decide +kernel
theorem dX11_oneOf_0 : decode cX11_oneOf 0 = .ok (.iload_n 0, 1) := by decide +kernel
theorem dX11_oneOf_1 : decode cX11_oneOf 1 = .ok (.ifCond .ne 5, 3) := by decide +kernel
theorem dX11_oneOf_4 : decode cX11_oneOf 4 = .ok (.iload_n 1, 1) := by decide +kernel
theorem dX11_oneOf_5 : decode cX11_oneOf 5 = .ok (.ireturn, 1) := by decide +kernel
theorem dX11_oneOf_6 : decode cX11_oneOf 6 = .ok (.iload_n 0, 1) := by decide +kernel
theorem dX11_oneOf_7 : decode cX11_oneOf 7 = .ok (.iconst 1, 1) := by decide +kernel
theorem dX11_oneOf_8 : decode cX11_oneOf 8 = .ok (.if_icmp .ne 7, 3) := by decide +kernel
theorem dX11_oneOf_11 : decode cX11_oneOf 11 = .ok (.iload_n 2, 1) := by decide +kernel
theorem dX11_oneOf_12 : decode cX11_oneOf 12 = .ok (.goto 4, 3) := by decide +kernel
theorem dX11_oneOf_15 : decode cX11_oneOf 15 = .ok (.iconst (-1), 1) := by decide +kernel
theorem dX11_oneOf_16 : decode cX11_oneOf 16 = .ok (.ireturn, 1) := by decide +kernel
theorem dX2_forget_0 : decode cX2_forget 0 = .ok (.aload_n 0, 1) := by decide +kernel
theorem dX2_forget_1 : decode cX2_forget 1 = .ok (.getfield 31, 3) := by decide +kernel
theorem dX2_forget_4 : decode cX2_forget 4 = .ok (.ifCond .eq 10, 3) := by decide +kernel
theorem dX2_forget_14 : decode cX2_forget 14 = .ok (.aconst_null, 1) := by decide +kernel
theorem dX2_forget_15 : decode cX2_forget 15 = .ok (.areturn, 1) := by decide +kernel
theorem dX2_toldOf_0 : decode cX2_toldOf 0 = .ok (.iload_n 1, 1) := by decide +kernel
theorem dX2_toldOf_1 : decode cX2_toldOf 1 = .ok (.ifCond .lt 11, 3) := by decide +kernel
theorem dX2_toldOf_4 : decode cX2_toldOf 4 = .ok (.iload_n 1, 1) := by decide +kernel
theorem dX2_toldOf_5 : decode cX2_toldOf 5 = .ok (.aload_n 0, 1) := by decide +kernel
theorem dX2_toldOf_6 : decode cX2_toldOf 6 = .ok (.invokevirtual 40, 3) := by decide +kernel
theorem dX2_toldOf_9 : decode cX2_toldOf 9 = .ok (.if_icmp .lt 5, 3) := by decide +kernel
theorem dX2_toldOf_12 : decode cX2_toldOf 12 = .ok (.iconst (-1), 1) := by decide +kernel
theorem dX2_toldOf_13 : decode cX2_toldOf 13 = .ok (.ireturn, 1) := by decide +kernel
theorem dX2_toldRows_0 : decode cX2_toldRows 0 = .ok (.aload_n 0, 1) := by decide +kernel
theorem dX2_toldRows_1 : decode cX2_toldRows 1 = .ok (.getfield 27, 3) := by decide +kernel
theorem dX2_toldRows_4 : decode cX2_toldRows 4 = .ok (.bipush 40, 2) := by decide +kernel
theorem dX2_toldRows_6 : decode cX2_toldRows 6 = .ok (.invokestatic 34, 3) := by decide +kernel
theorem dX2_toldRows_9 : decode cX2_toldRows 9 = .ok (.ireturn, 1) := by decide +kernel
theorem dX7_take_0 : decode cX7_take 0 = .ok (.aload_n 1, 1) := by decide +kernel
theorem dX7_take_1 : decode cX7_take 1 = .ok (.getfield 24, 3) := by decide +kernel
theorem dX7_take_4 : decode cX7_take 4 = .ok (.iconst 4, 1) := by decide +kernel
theorem dX7_take_5 : decode cX7_take 5 = .ok (.idiv, 1) := by decide +kernel
theorem dX7_take_6 : decode cX7_take 6 = .ok (.istore_n 2, 1) := by decide +kernel
theorem dX7_take_7 : decode cX7_take 7 = .ok (.aload_n 1, 1) := by decide +kernel
theorem dX7_take_8 : decode cX7_take 8 = .ok (.getfield 24, 3) := by decide +kernel
theorem dX7_take_11 : decode cX7_take 11 = .ok (.iconst 4, 1) := by decide +kernel
theorem dX7_take_12 : decode cX7_take 12 = .ok (.irem, 1) := by decide +kernel
theorem dX7_take_13 : decode cX7_take 13 = .ok (.ifCond .ne 14, 3) := by decide +kernel
theorem dX7_take_16 : decode cX7_take 16 = .ok (.iload_n 2, 1) := by decide +kernel
theorem dX7_take_17 : decode cX7_take 17 = .ok (.iconst 1, 1) := by decide +kernel
theorem dX7_take_18 : decode cX7_take 18 = .ok (.if_icmp .lt 9, 3) := by decide +kernel
theorem dX7_take_27 : decode cX7_take 27 = .ok (.iconst 0, 1) := by decide +kernel
theorem dX7_take_28 : decode cX7_take 28 = .ok (.ireturn, 1) := by decide +kernel
theorem dX8_freeNumber_0 : decode cX8_freeNumber 0 = .ok (.iconst 0, 1) := by decide +kernel
theorem dX8_freeNumber_1 : decode cX8_freeNumber 1 = .ok (.istore_n 1, 1) := by decide +kernel
theorem dX8_freeNumber_2 : decode cX8_freeNumber 2 = .ok (.iload_n 1, 1) := by decide +kernel
theorem dX8_freeNumber_3 : decode cX8_freeNumber 3 = .ok (.bipush 8, 2) := by decide +kernel
theorem dX8_freeNumber_5 : decode cX8_freeNumber 5 = .ok (.if_icmp .ge 19, 3) := by decide +kernel
theorem dX8_freeNumber_8 : decode cX8_freeNumber 8 = .ok (.aload_n 0, 1) := by decide +kernel
theorem dX8_freeNumber_9 : decode cX8_freeNumber 9 = .ok (.iload_n 1, 1) := by decide +kernel
theorem dX8_freeNumber_10 : decode cX8_freeNumber 10 = .ok (.invokevirtual 67, 3) := by decide +kernel
theorem dX8_freeNumber_13 : decode cX8_freeNumber 13 = .ok (.ifCond .ne 5, 3) := by decide +kernel
theorem dX8_freeNumber_16 : decode cX8_freeNumber 16 = .ok (.iload_n 1, 1) := by decide +kernel
theorem dX8_freeNumber_17 : decode cX8_freeNumber 17 = .ok (.ireturn, 1) := by decide +kernel
theorem dX8_held_0 : decode cX8_held 0 = .ok (.iconst 0, 1) := by decide +kernel
theorem dX8_held_1 : decode cX8_held 1 = .ok (.istore_n 1, 1) := by decide +kernel
theorem dX8_held_2 : decode cX8_held 2 = .ok (.iconst 0, 1) := by decide +kernel
theorem dX8_held_3 : decode cX8_held 3 = .ok (.istore_n 2, 1) := by decide +kernel
theorem dX8_held_4 : decode cX8_held 4 = .ok (.iload_n 2, 1) := by decide +kernel
theorem dX8_held_5 : decode cX8_held 5 = .ok (.aload_n 0, 1) := by decide +kernel
theorem dX8_held_6 : decode cX8_held 6 = .ok (.getfield 40, 3) := by decide +kernel
theorem dX8_held_9 : decode cX8_held 9 = .ok (.if_icmp .ge 25, 3) := by decide +kernel
theorem dX8_held_34 : decode cX8_held 34 = .ok (.iload_n 1, 1) := by decide +kernel
theorem dX8_held_35 : decode cX8_held 35 = .ok (.ireturn, 1) := by decide +kernel
theorem dX8_isBlock_0 : decode cX8_isBlock 0 = .ok (.iload_n 1, 1) := by decide +kernel
theorem dX8_isBlock_1 : decode cX8_isBlock 1 = .ok (.ifCond .lt 15, 3) := by decide +kernel
theorem dX8_isBlock_4 : decode cX8_isBlock 4 = .ok (.iload_n 1, 1) := by decide +kernel
theorem dX8_isBlock_5 : decode cX8_isBlock 5 = .ok (.aload_n 0, 1) := by decide +kernel
theorem dX8_isBlock_6 : decode cX8_isBlock 6 = .ok (.getfield 40, 3) := by decide +kernel
theorem dX8_isBlock_9 : decode cX8_isBlock 9 = .ok (.if_icmp .ge 7, 3) := by decide +kernel
theorem dX8_isBlock_16 : decode cX8_isBlock 16 = .ok (.iconst 0, 1) := by decide +kernel
theorem dX8_isBlock_17 : decode cX8_isBlock 17 = .ok (.ireturn, 1) := by decide +kernel
theorem dX8_isVolume_0 : decode cX8_isVolume 0 = .ok (.iload_n 1, 1) := by decide +kernel
theorem dX8_isVolume_1 : decode cX8_isVolume 1 = .ok (.ifCond .lt 24, 3) := by decide +kernel
theorem dX8_isVolume_4 : decode cX8_isVolume 4 = .ok (.iload_n 1, 1) := by decide +kernel
theorem dX8_isVolume_5 : decode cX8_isVolume 5 = .ok (.bipush 8, 2) := by decide +kernel
theorem dX8_isVolume_7 : decode cX8_isVolume 7 = .ok (.if_icmp .ge 18, 3) := by decide +kernel
theorem dX8_isVolume_10 : decode cX8_isVolume 10 = .ok (.aload_n 0, 1) := by decide +kernel
theorem dX8_isVolume_11 : decode cX8_isVolume 11 = .ok (.getfield 30, 3) := by decide +kernel
theorem dX8_isVolume_14 : decode cX8_isVolume 14 = .ok (.iload_n 1, 1) := by decide +kernel
theorem dX8_isVolume_15 : decode cX8_isVolume 15 = .ok (.iaload, 1) := by decide +kernel
theorem dX8_isVolume_16 : decode cX8_isVolume 16 = .ok (.bipush (-2), 2) := by decide +kernel
theorem dX8_isVolume_18 : decode cX8_isVolume 18 = .ok (.if_icmp .eq 7, 3) := by decide +kernel
theorem dX8_isVolume_25 : decode cX8_isVolume 25 = .ok (.iconst 0, 1) := by decide +kernel
theorem dX8_isVolume_26 : decode cX8_isVolume 26 = .ok (.ireturn, 1) := by decide +kernel
theorem dX8_used_0 : decode cX8_used 0 = .ok (.iconst 0, 1) := by decide +kernel
theorem dX8_used_1 : decode cX8_used 1 = .ok (.istore_n 1, 1) := by decide +kernel
theorem dX8_used_2 : decode cX8_used 2 = .ok (.iconst 0, 1) := by decide +kernel
theorem dX8_used_3 : decode cX8_used 3 = .ok (.istore_n 2, 1) := by decide +kernel
theorem dX8_used_4 : decode cX8_used 4 = .ok (.iload_n 2, 1) := by decide +kernel
theorem dX8_used_5 : decode cX8_used 5 = .ok (.aload_n 0, 1) := by decide +kernel
theorem dX8_used_6 : decode cX8_used 6 = .ok (.getfield 40, 3) := by decide +kernel
theorem dX8_used_9 : decode cX8_used 9 = .ok (.if_icmp .ge 26, 3) := by decide +kernel
theorem dX8_used_35 : decode cX8_used 35 = .ok (.iload_n 1, 1) := by decide +kernel
theorem dX8_used_36 : decode cX8_used 36 = .ok (.ireturn, 1) := by decide +kernel
theorem dX8_volumes_0 : decode cX8_volumes 0 = .ok (.iconst 0, 1) := by decide +kernel
theorem dX8_volumes_1 : decode cX8_volumes 1 = .ok (.istore_n 1, 1) := by decide +kernel
theorem dX8_volumes_2 : decode cX8_volumes 2 = .ok (.iconst 0, 1) := by decide +kernel
theorem dX8_volumes_3 : decode cX8_volumes 3 = .ok (.istore_n 2, 1) := by decide +kernel
theorem dX8_volumes_4 : decode cX8_volumes 4 = .ok (.iload_n 2, 1) := by decide +kernel
theorem dX8_volumes_5 : decode cX8_volumes 5 = .ok (.bipush 8, 2) := by decide +kernel
theorem dX8_volumes_7 : decode cX8_volumes 7 = .ok (.if_icmp .ge 25, 3) := by decide +kernel
theorem dX8_volumes_10 : decode cX8_volumes 10 = .ok (.iload_n 1, 1) := by decide +kernel
theorem dX8_volumes_11 : decode cX8_volumes 11 = .ok (.aload_n 0, 1) := by decide +kernel
theorem dX8_volumes_12 : decode cX8_volumes 12 = .ok (.iload_n 2, 1) := by decide +kernel
theorem dX8_volumes_13 : decode cX8_volumes 13 = .ok (.invokevirtual 67, 3) := by decide +kernel
theorem dX8_volumes_16 : decode cX8_volumes 16 = .ok (.ifCond .eq 7, 3) := by decide +kernel
theorem dX8_volumes_23 : decode cX8_volumes 23 = .ok (.iconst 0, 1) := by decide +kernel
theorem dX8_volumes_24 : decode cX8_volumes 24 = .ok (.iadd, 1) := by decide +kernel
theorem dX8_volumes_25 : decode cX8_volumes 25 = .ok (.istore_n 1, 1) := by decide +kernel
theorem dX8_volumes_26 : decode cX8_volumes 26 = .ok (.iinc 2 1, 3) := by decide +kernel
theorem dX8_volumes_29 : decode cX8_volumes 29 = .ok (.goto (-25), 3) := by decide +kernel
theorem dX8_volumes_32 : decode cX8_volumes 32 = .ok (.iload_n 1, 1) := by decide +kernel
theorem dX8_volumes_33 : decode cX8_volumes 33 = .ok (.ireturn, 1) := by decide +kernel
theorem dX9_at_0 : decode cX9_at 0 = .ok (.iload_n 1, 1) := by decide +kernel
theorem dX9_at_1 : decode cX9_at 1 = .ok (.ifCond .lt 20, 3) := by decide +kernel
theorem dX9_at_4 : decode cX9_at 4 = .ok (.iload_n 1, 1) := by decide +kernel
theorem dX9_at_5 : decode cX9_at 5 = .ok (.aload_n 0, 1) := by decide +kernel
theorem dX9_at_6 : decode cX9_at 6 = .ok (.getfield 15, 3) := by decide +kernel
theorem dX9_at_9 : decode cX9_at 9 = .ok (.if_icmp .ge 12, 3) := by decide +kernel
theorem dX9_at_21 : decode cX9_at 21 = .ok (.iconst (-1), 1) := by decide +kernel
theorem dX9_at_22 : decode cX9_at 22 = .ok (.ireturn, 1) := by decide +kernel
theorem dX9_hasRoom_0 : decode cX9_hasRoom 0 = .ok (.aload_n 0, 1) := by decide +kernel
theorem dX9_hasRoom_1 : decode cX9_hasRoom 1 = .ok (.getfield 15, 3) := by decide +kernel
theorem dX9_hasRoom_4 : decode cX9_hasRoom 4 = .ok (.bipush 20, 2) := by decide +kernel
theorem dX9_hasRoom_6 : decode cX9_hasRoom 6 = .ok (.iadd, 1) := by decide +kernel
theorem dX9_hasRoom_7 : decode cX9_hasRoom 7 = .ok (.sipush 1600, 3) := by decide +kernel
theorem dX9_hasRoom_10 : decode cX9_hasRoom 10 = .ok (.if_icmp .gt 7, 3) := by decide +kernel
theorem dX9_hasRoom_13 : decode cX9_hasRoom 13 = .ok (.iconst 1, 1) := by decide +kernel
theorem dX9_hasRoom_14 : decode cX9_hasRoom 14 = .ok (.goto 4, 3) := by decide +kernel
theorem dX9_hasRoom_18 : decode cX9_hasRoom 18 = .ok (.ireturn, 1) := by decide +kernel
set_option maxHeartbeats 4000000 in
set_option maxRecDepth 100000 in
theorem k_X8_isVolume (l : Launch) (D : va_G) (a : Nat → Nat) (p0 : Int32) : Met l yX8_isVolume (wz yX8_isVolume cX8_isVolume 2 (some .boolean)) { frames := 0, cells := 0, slots := 0, locals := 0 } (va_Pc [.ref (a 13), .int p0] (zP D [((a 13), .inr (8, [.int 0, .int 0, .long 0, .ref (a 60), .ref (a 61), .ref (a 62), .ref (a 63), .ref (a 64), .ref (a 65), .ref (a 66), .ref (a 67)])), ((a 66), .inl (D.1 13, 8, .inl (fun _ => (-2))))])) (va_Qi (fun r (_ : Unit) => r = 0) (fun _ _ => True) (fun _ => False)) 0 0 (fun _ => False) := by
  refine Met.ofW (cc := cX8_isVolume) (maxL := 2) (ret := (some .boolean)) (by decide) rfl ?_
  intro p e s m args below meth c s₁ B hml hv
  obtain ⟨rfl, hP, hK⟩ := hv
  have hx := B.exec
  have hb := B.bytes
  have hr := B.returns
  have hts := atoms_spec (ws := wz yX8_isVolume cX8_isVolume 2 (some .boolean)) B.pre
  have ht : ∀ w ∈ lw_gd, w.before _ s = true := fun w h => hts w (List.mem_cons_of_mem _ h)
  have hown : s.vm.findClass RX8 = some m.cls := findClass_of_methodNamed B.named
  have hlocks := B.notSynchronized
  have hS : va_S (fun _ => False) s.heap s.heap [] := va_S.rf
  have hl := lv_entry ([.ref (a 13), .int p0]) (n := 2) (Nat.le_of_ble_eq_true rfl)
  rw [lg_entry_eq]
  generalize (lg_sl ([.ref (a 13), .int p0]) ++ List.replicate (2 - (lg_sl ([.ref (a 13), .int p0])).length) Slot.unset).toArray = ls at hl ⊢
  have hl : lv_has ls 2 [(0, .ref (a 13)), (1, .int p0)] := hl
  refine lv_iload_n hx hb dX8_isVolume_0 rfl (lv_at hl 1 rfl) ?_
  refine lv_if_lt (tgt := 25) hx hb dX8_isVolume_1 (by decide) (fun c_1 => ?_) (fun c_1 => ?_)
  · have g_2 : p0.toInt < 0 := z_lt rfl (by decide) c_1
    refine lv_iconst (v := 0) hx hb dX8_isVolume_25 (by decide) ?_
    exact W.zret (v := 0) hx hb hr (by decide) (fun t ht hW => ⟨⟨0, (), rfl, rfl, trivial⟩, hS.F ht⟩) hS.2.2 dX8_isVolume_26
  · have g_2 : 0 ≤ p0.toInt := z_nlt rfl (by decide) c_1
    refine lv_iload_n hx hb dX8_isVolume_4 rfl (lv_at hl 1 rfl) ?_
    refine lv_bipush (v := 8) hx hb dX8_isVolume_5 (by decide) ?_
    refine lv_icmp_ge (tgt := 25) hx hb dX8_isVolume_7 (by decide) (fun c_3 => ?_) (fun c_3 => ?_)
    · have g_4 : 8 ≤ p0.toInt := z_le (by decide) rfl c_3
      refine lv_iconst (v := 0) hx hb dX8_isVolume_25 (by decide) ?_
      exact W.zret (v := 0) hx hb hr (by decide) (fun t ht hW => ⟨⟨0, (), rfl, rfl, trivial⟩, hS.F ht⟩) hS.2.2 dX8_isVolume_26
    · have g_4 : p0.toInt < 8 := z_nle (by decide) rfl c_3
      refine lv_aload_n hx hb dX8_isVolume_10 rfl (lv_at hl 0 rfl) ?_
      refine va_get (D := D) (ci := 8) (v := .ref (a 66)) (C := RX8) (T := TX8) (N := 11) hx hb ht inX8 hown hK hP 0 rfl rfl 9 (by decide) (ht (.fieldLink RX8 30 "CloneVolumes$State" "roots" "[I") fl_X8_30) (fun _ h9 => h9) rfl dX8_isVolume_11 ?_
      refine lv_iload_n hx hb dX8_isVolume_14 rfl (lv_at hl 1 rfl) ?_
      refine va_iald hx hb hK hP 1 0 rfl rfl (z_in (by omega) (by omega)) dX8_isVolume_15 ?_
      refine z_topi (y := (-2)) (by decide) ?_
      refine lv_bipush (v := (-2)) hx hb dX8_isVolume_16 (by decide) ?_
      refine lv_icmp_eq (tgt := 25) hx hb dX8_isVolume_18 (by decide) (fun _ => ?_) (fun c_5 => (z_abs c_5 (by decide)).elim)
      refine lv_iconst (v := 0) hx hb dX8_isVolume_25 (by decide) ?_
      exact W.zret (v := 0) hx hb hr (by decide) (fun t ht hW => ⟨⟨0, (), rfl, rfl, trivial⟩, hS.F ht⟩) hS.2.2 dX8_isVolume_26
set_option maxHeartbeats 4000000 in
set_option maxRecDepth 100000 in
theorem k_X8_isBlock (l : Launch) (D : va_G) (a : Nat → Nat) (p0 : Int32) : Met l yX8_isBlock (wz yX8_isBlock cX8_isBlock 2 (some .boolean)) { frames := 0, cells := 0, slots := 0, locals := 0 } (va_Pc [.ref (a 13), .int p0] (zP D [((a 13), .inr (8, [.int 0, .int 0, .long 0, .ref (a 60), .ref (a 61), .ref (a 62), .ref (a 63), .ref (a 64), .ref (a 65), .ref (a 66), .ref (a 67)]))])) (va_Qi (fun r (_ : Unit) => r = 0) (fun _ _ => True) (fun _ => False)) 0 0 (fun _ => False) := by
  refine Met.ofW (cc := cX8_isBlock) (maxL := 2) (ret := (some .boolean)) (by decide) rfl ?_
  intro p e s m args below meth c s₁ B hml hv
  obtain ⟨rfl, hP, hK⟩ := hv
  have hx := B.exec
  have hb := B.bytes
  have hr := B.returns
  have hts := atoms_spec (ws := wz yX8_isBlock cX8_isBlock 2 (some .boolean)) B.pre
  have ht : ∀ w ∈ lw_gd, w.before _ s = true := fun w h => hts w (List.mem_cons_of_mem _ h)
  have hown : s.vm.findClass RX8 = some m.cls := findClass_of_methodNamed B.named
  have hlocks := B.notSynchronized
  have hS : va_S (fun _ => False) s.heap s.heap [] := va_S.rf
  have hl := lv_entry ([.ref (a 13), .int p0]) (n := 2) (Nat.le_of_ble_eq_true rfl)
  rw [lg_entry_eq]
  generalize (lg_sl ([.ref (a 13), .int p0]) ++ List.replicate (2 - (lg_sl ([.ref (a 13), .int p0])).length) Slot.unset).toArray = ls at hl ⊢
  have hl : lv_has ls 2 [(0, .ref (a 13)), (1, .int p0)] := hl
  refine lv_iload_n hx hb dX8_isBlock_0 rfl (lv_at hl 1 rfl) ?_
  refine lv_if_lt (tgt := 16) hx hb dX8_isBlock_1 (by decide) (fun c_1 => ?_) (fun c_1 => ?_)
  · have g_2 : p0.toInt < 0 := z_lt rfl (by decide) c_1
    refine lv_iconst (v := 0) hx hb dX8_isBlock_16 (by decide) ?_
    exact W.zret (v := 0) hx hb hr (by decide) (fun t ht hW => ⟨⟨0, (), rfl, rfl, trivial⟩, hS.F ht⟩) hS.2.2 dX8_isBlock_17
  · have g_2 : 0 ≤ p0.toInt := z_nlt rfl (by decide) c_1
    refine lv_iload_n hx hb dX8_isBlock_4 rfl (lv_at hl 1 rfl) ?_
    refine lv_aload_n hx hb dX8_isBlock_5 rfl (lv_at hl 0 rfl) ?_
    refine va_get (D := D) (ci := 8) (v := .int 0) (C := RX8) (T := TX8) (N := 11) hx hb ht inX8 hown hK hP 0 rfl rfl 0 (by decide) (ht (.fieldLink RX8 40 "CloneVolumes$State" "blocks" "I") fl_X8_40) (fun _ h9 => h9) rfl dX8_isBlock_6 ?_
    refine lv_icmp_ge (tgt := 16) hx hb dX8_isBlock_9 (by decide) (fun c_3 => ?_) (fun c_3 => ?_)
    · have g_4 : 0 ≤ p0.toInt := z_le (by decide) rfl c_3
      refine lv_iconst (v := 0) hx hb dX8_isBlock_16 (by decide) ?_
      exact W.zret (v := 0) hx hb hr (by decide) (fun t ht hW => ⟨⟨0, (), rfl, rfl, trivial⟩, hS.F ht⟩) hS.2.2 dX8_isBlock_17
    · exfalso
      have g_4 : p0.toInt < 0 := z_nle (by decide) rfl c_3
      omega
set_option maxHeartbeats 4000000 in
set_option maxRecDepth 100000 in
theorem k_X11_isKey (l : Launch) (D : va_G) (p0 : Int32) : Met l yX11_isKey (wz yX11_isKey cX11_isKey 1 (some .boolean)) { frames := 0, cells := 0, slots := 0, locals := 0 } (va_Pc [.int p0] (zP D [])) (va_Qi (fun r (_ : Unit) => (r = 0 ∧ p0.toInt < 0) ∨ (r = 0 ∧ 0 ≤ p0.toInt ∧ 999 < p0.toInt) ∨ (r = 1 ∧ 0 ≤ p0.toInt ∧ p0.toInt ≤ 999)) (fun _ _ => True) (fun _ => False)) 0 0 (fun _ => False) := by
  refine Met.ofW (cc := cX11_isKey) (maxL := 1) (ret := (some .boolean)) (by decide) rfl ?_
  intro p e s m args below meth c s₁ B hml hv
  obtain ⟨rfl, hP, hK⟩ := hv
  have hx := B.exec
  have hb := B.bytes
  have hr := B.returns
  have hts := atoms_spec (ws := wz yX11_isKey cX11_isKey 1 (some .boolean)) B.pre
  have ht : ∀ w ∈ lw_gd, w.before _ s = true := fun w h => hts w (List.mem_cons_of_mem _ h)
  have hown : s.vm.findClass RX11 = some m.cls := findClass_of_methodNamed B.named
  have hlocks := B.notSynchronized
  have hS : va_S (fun _ => False) s.heap s.heap [] := va_S.rf
  have hl := lv_entry ([.int p0]) (n := 1) (Nat.le_of_ble_eq_true rfl)
  rw [lg_entry_eq]
  generalize (lg_sl ([.int p0]) ++ List.replicate (1 - (lg_sl ([.int p0])).length) Slot.unset).toArray = ls at hl ⊢
  have hl : lv_has ls 1 [(0, .int p0)] := hl
  refine lv_iload_n hx hb dX11_isKey_0 rfl (lv_at hl 0 rfl) ?_
  refine lv_if_lt (tgt := 15) hx hb dX11_isKey_1 (by decide) (fun c_1 => ?_) (fun c_1 => ?_)
  · have g_2 : p0.toInt < 0 := z_lt rfl (by decide) c_1
    refine lv_iconst (v := 0) hx hb dX11_isKey_15 (by decide) ?_
    exact W.zret (v := 0) hx hb hr (by decide) (fun t ht hW => ⟨⟨0, (), rfl, Or.inl (⟨rfl, zu_lt rfl (by decide) g_2⟩), trivial⟩, hS.F ht⟩) hS.2.2 dX11_isKey_16
  · have g_2 : 0 ≤ p0.toInt := z_nlt rfl (by decide) c_1
    refine lv_iload_n hx hb dX11_isKey_4 rfl (lv_at hl 0 rfl) ?_
    refine lv_sipush (v := 999) hx hb dX11_isKey_5 (by decide) ?_
    refine lv_icmp_gt (tgt := 15) hx hb dX11_isKey_8 (by decide) (fun c_3 => ?_) (fun c_3 => ?_)
    · have g_4 : 999 < p0.toInt := z_lt (by decide) rfl c_3
      refine lv_iconst (v := 0) hx hb dX11_isKey_15 (by decide) ?_
      exact W.zret (v := 0) hx hb hr (by decide) (fun t ht hW => ⟨⟨0, (), rfl, Or.inr (Or.inl (⟨rfl, zu_ge rfl (by decide) g_2, zu_gt rfl (by decide) g_4⟩)), trivial⟩, hS.F ht⟩) hS.2.2 dX11_isKey_16
    · have g_4 : p0.toInt ≤ 999 := z_nlt (by decide) rfl c_3
      refine lv_iconst (v := 1) hx hb dX11_isKey_11 (by decide) ?_
      refine lv_goto (tgt := 16) hx hb dX11_isKey_12 (by decide) ?_
      exact W.zret (v := 1) hx hb hr (by decide) (fun t ht hW => ⟨⟨1, (), rfl, Or.inr (Or.inr (⟨rfl, zu_ge rfl (by decide) g_2, zu_le rfl (by decide) g_4⟩)), trivial⟩, hS.F ht⟩) hS.2.2 dX11_isKey_16
set_option maxHeartbeats 4000000 in
set_option maxRecDepth 100000 in
theorem k_X11_oneOf (l : Launch) (D : va_G) (p0 p1 p2 : Int32) : Met l yX11_oneOf (wz yX11_oneOf cX11_oneOf 3 (some .int)) { frames := 0, cells := 0, slots := 0, locals := 0 } (va_Pc [.int p0, .int p1, .int p2] (zP D [])) (va_Qi (fun r (_ : Unit) => (r = (-1) ∧ ¬ p0.toInt = 0 ∧ ¬ p0.toInt = 1) ∨ (r = p2 ∧ ¬ p0.toInt = 0 ∧ p0.toInt = 1) ∨ (r = p1 ∧ p0.toInt = 0)) (fun _ _ => True) (fun _ => False)) 0 0 (fun _ => False) := by
  refine Met.ofW (cc := cX11_oneOf) (maxL := 3) (ret := (some .int)) (by decide) rfl ?_
  intro p e s m args below meth c s₁ B hml hv
  obtain ⟨rfl, hP, hK⟩ := hv
  have hx := B.exec
  have hb := B.bytes
  have hr := B.returns
  have hts := atoms_spec (ws := wz yX11_oneOf cX11_oneOf 3 (some .int)) B.pre
  have ht : ∀ w ∈ lw_gd, w.before _ s = true := fun w h => hts w (List.mem_cons_of_mem _ h)
  have hown : s.vm.findClass RX11 = some m.cls := findClass_of_methodNamed B.named
  have hlocks := B.notSynchronized
  have hS : va_S (fun _ => False) s.heap s.heap [] := va_S.rf
  have hl := lv_entry ([.int p0, .int p1, .int p2]) (n := 3) (Nat.le_of_ble_eq_true rfl)
  rw [lg_entry_eq]
  generalize (lg_sl ([.int p0, .int p1, .int p2]) ++ List.replicate (3 - (lg_sl ([.int p0, .int p1, .int p2])).length) Slot.unset).toArray = ls at hl ⊢
  have hl : lv_has ls 3 [(0, .int p0), (1, .int p1), (2, .int p2)] := hl
  refine lv_iload_n hx hb dX11_oneOf_0 rfl (lv_at hl 0 rfl) ?_
  refine lv_if_ne (tgt := 6) hx hb dX11_oneOf_1 (by decide) (fun c_1 => ?_) (fun c_1 => ?_)
  · have g_2 : ¬ p0.toInt = 0 := z_ne rfl (by decide) c_1
    refine lv_iload_n hx hb dX11_oneOf_6 rfl (lv_at hl 0 rfl) ?_
    refine lv_iconst (v := 1) hx hb dX11_oneOf_7 (by decide) ?_
    refine lv_icmp_ne (tgt := 15) hx hb dX11_oneOf_8 (by decide) (fun c_3 => ?_) (fun c_3 => ?_)
    · have g_4 : ¬ p0.toInt = 1 := z_ne rfl (by decide) c_3
      refine lv_iconst (v := (-1)) hx hb dX11_oneOf_15 (by decide) ?_
      exact W.iret (v := (-1)) hx hb hr (fun t ht hW => ⟨⟨(-1), (), rfl, Or.inl (⟨rfl, zu_ne rfl (by decide) g_2, zu_ne rfl (by decide) g_4⟩), trivial⟩, hS.F ht⟩) hS.2.2 dX11_oneOf_16
    · have g_4 : p0.toInt = 1 := z_eq rfl (by decide) c_3
      refine lv_iload_n hx hb dX11_oneOf_11 rfl (lv_at hl 2 rfl) ?_
      refine lv_goto (tgt := 16) hx hb dX11_oneOf_12 (by decide) ?_
      exact W.iret (v := p2) hx hb hr (fun t ht hW => ⟨⟨p2, (), rfl, Or.inr (Or.inl (⟨rfl, zu_ne rfl (by decide) g_2, zu_eq rfl (by decide) g_4⟩)), trivial⟩, hS.F ht⟩) hS.2.2 dX11_oneOf_16
  · have g_2 : p0.toInt = 0 := z_eq rfl (by decide) c_1
    refine lv_iload_n hx hb dX11_oneOf_4 rfl (lv_at hl 1 rfl) ?_
    exact W.iret (v := p1) hx hb hr (fun t ht hW => ⟨⟨p1, (), rfl, Or.inr (Or.inr (⟨rfl, zu_eq rfl (by decide) g_2⟩)), trivial⟩, hS.F ht⟩) hS.2.2 dX11_oneOf_5
set_option maxHeartbeats 4000000 in
set_option maxRecDepth 100000 in
theorem k_X8_volumes (l : Launch) (D : va_G) (a : Nat → Nat)  : Met l yX8_volumes (wz yX8_volumes cX8_volumes 3 (some .int)) { frames := 1, cells := 0, slots := 0, locals := 60 } (va_Pc [.ref (a 13)] (zP D [((a 13), .inr (8, [.int 0, .int 0, .long 0, .ref (a 60), .ref (a 61), .ref (a 62), .ref (a 63), .ref (a 64), .ref (a 65), .ref (a 66), .ref (a 67)])), ((a 66), .inl (D.1 13, 8, .inl (fun _ => (-2))))])) (va_Qi (fun r (_ : Unit) => r = 0) (fun _ _ => True) (fun _ => False)) 0 0 (fun _ => False) := by
  refine Met.ofW (cc := cX8_volumes) (maxL := 3) (ret := (some .int)) (by decide) rfl ?_
  intro p e s m args below meth c s₁ B hml hv
  obtain ⟨rfl, hP, hK⟩ := hv
  have hx := B.exec
  have hb := B.bytes
  have hr := B.returns
  have hts := atoms_spec (ws := wz yX8_volumes cX8_volumes 3 (some .int)) B.pre
  have ht : ∀ w ∈ lw_gd, w.before _ s = true := fun w h => hts w (List.mem_cons_of_mem _ h)
  have hown : s.vm.findClass RX8 = some m.cls := findClass_of_methodNamed B.named
  have hlocks := B.notSynchronized
  have hS : va_S (fun _ => False) s.heap s.heap [] := va_S.rf
  have hl := lv_entry ([.ref (a 13)]) (n := 3) (Nat.le_of_ble_eq_true rfl)
  rw [lg_entry_eq]
  generalize (lg_sl ([.ref (a 13)]) ++ List.replicate (3 - (lg_sl ([.ref (a 13)])).length) Slot.unset).toArray = ls at hl ⊢
  have hl : lv_has ls 3 [(0, .ref (a 13))] := hl
  refine lv_iconst (v := 0) hx hb dX8_volumes_0 (by decide) ?_
  refine lv_istore_n (lv' := [(1, .int 0), (0, .ref (a 13))]) hx hb dX8_volumes_1 rfl hl (by decide) rfl (fun ls hl => ?_)
  refine lv_iconst (v := 0) hx hb dX8_volumes_2 (by decide) ?_
  refine lv_istore_n (lv' := [(2, .int 0), (1, .int 0), (0, .ref (a 13))]) hx hb dX8_volumes_3 rfl hl (by decide) rfl (fun ls hl => ?_)
  refine z_loop (σ := Unit) (N := 8) (fun i u H locs ls => va_P D vwCl [((a 13), .inr (8, [.int 0, .int 0, .long 0, .ref (a 60), .ref (a 61), .ref (a 62), .ref (a 63), .ref (a 64), .ref (a 65), .ref (a 66), .ref (a 67)])), ((a 66), .inl (D.1 13, 8, .inl (fun _ => (-2))))] H ∧ va_S (fun _ => False) s.heap H locs ∧ lv_has ls 3 [(2, .int (nI i)), (1, .int 0), (0, .ref (a 13))]) (fun i_1 _u H locs ls hi_i_1 hI ih_4 => ?_) 0 () (by decide) ⟨hP, hS, lv_sub hl [0, 1, 2] rfl⟩
  obtain ⟨hP, hS, hl⟩ := hI
  have hP : va_P D vwCl [((a 13), .inr (8, [.int 0, .int 0, .long 0, .ref (a 60), .ref (a 61), .ref (a 62), .ref (a 63), .ref (a 64), .ref (a 65), .ref (a 66), .ref (a 67)])), ((a 66), .inl (D.1 13, 8, .inl (fun _ => (-2))))] H := hP
  have hl : lv_has ls 3 [(2, .int (nI i_1)), (1, .int 0), (0, .ref (a 13))] := hl
  refine lv_iload_n hx hb dX8_volumes_4 rfl (lv_at hl 0 rfl) ?_
  refine lv_bipush (v := 8) hx hb dX8_volumes_5 (by decide) ?_
  refine lv_icmp_ge (tgt := 32) hx hb dX8_volumes_7 (by decide) (fun c_2 => ?_) (fun c_2 => ?_)
  · have g_3 : 8 ≤ ((i_1 : Nat) : Int) := z_le (by decide) (nI_toInt (by omega)) c_2
    obtain rfl : i_1 = 8 := by omega
    have hP : va_P D vwCl [((a 13), .inr (8, [.int 0, .int 0, .long 0, .ref (a 60), .ref (a 61), .ref (a 62), .ref (a 63), .ref (a 64), .ref (a 65), .ref (a 66), .ref (a 67)])), ((a 66), .inl (D.1 13, 8, .inl (fun _ => (-2))))] H := hP
    have hl : lv_has ls 3 [(2, .int 8), (1, .int 0), (0, .ref (a 13))] := hl
    refine lv_iload_n hx hb dX8_volumes_32 rfl (lv_at hl 1 rfl) ?_
    exact W.iret (v := 0) hx hb hr (fun t ht hW => ⟨⟨0, (), rfl, rfl, trivial⟩, hS.F ht⟩) hS.2.2 dX8_volumes_33
  · have g_3 : ((i_1 : Nat) : Int) < 8 := z_nle (by decide) (nI_toInt (by omega)) c_2
    refine lv_iload_n hx hb dX8_volumes_10 rfl (lv_at hl 1 rfl) ?_
    refine lv_aload_n hx hb dX8_volumes_11 rfl (lv_at hl 2 rfl) ?_
    refine lv_iload_n hx hb dX8_volumes_12 rfl (lv_at hl 0 rfl) ?_
    refine zcV (As := [.int (nI i_1)]) (rest := [.int 0]) (C := RX8) (n := 1) ⟨hx, hb, hml, hown, ht⟩ (k_X8_isVolume l D a (nI i_1)) (zgV ml_X8_67 im_X8_isVolume se_X8_isVolume in_X8 co_X8_isVolume) rfl rfl (by decide +kernel) ⟨Nat.le_of_ble_eq_true rfl, Nat.le_of_ble_eq_true rfl⟩ hK hP hS [0, 1] rfl 0 rfl rfl rfl rfl hl.1 rfl (Nat.le_of_ble_eq_true rfl) dX8_volumes_13 ⟨Nat.le_of_ble_eq_true rfl, Nat.le_of_ble_eq_true rfl⟩ (fun r_4 H locs hw hP hS => ?_)
    subst hw
    refine lv_if_eq (tgt := 23) hx hb dX8_volumes_16 (by decide) (fun _ => ?_) (fun c_5 => (z_abs c_5 (by decide)).elim)
    refine lv_iconst (v := 0) hx hb dX8_volumes_23 (by decide) ?_
    refine lv_iadd hx hb dX8_volumes_24 ?_
    refine z_topi (y := 0) (by decide) ?_
    refine lv_istore_n (lv' := [(1, .int 0), (2, .int (nI i_1)), (0, .ref (a 13))]) hx hb dX8_volumes_25 rfl hl (by decide) rfl (fun ls hl => ?_)
    refine lv_iinc (v := nI (i_1 + 1)) (lv' := [(2, .int (nI (i_1 + 1))), (1, .int 0), (0, .ref (a 13))]) hx hb dX8_volumes_26 hl (k := 1) rfl (z_inc _) (by decide) rfl (fun ls hl => ?_)
    refine lv_goto (tgt := 4) hx hb dX8_volumes_29 (by decide) ?_
    exact ih_4 () _ _ _ (by omega) ⟨hP.sub [0, 1] rfl, hS, lv_sub hl [0, 1, 2] rfl⟩
set_option maxHeartbeats 4000000 in
set_option maxRecDepth 100000 in
theorem k_X8_freeNumber (l : Launch) (D : va_G) (a : Nat → Nat)  : Met l yX8_freeNumber (wz yX8_freeNumber cX8_freeNumber 2 (some .int)) { frames := 1, cells := 0, slots := 0, locals := 60 } (va_Pc [.ref (a 13)] (zP D [((a 13), .inr (8, [.int 0, .int 0, .long 0, .ref (a 60), .ref (a 61), .ref (a 62), .ref (a 63), .ref (a 64), .ref (a 65), .ref (a 66), .ref (a 67)])), ((a 66), .inl (D.1 13, 8, .inl (fun _ => (-2))))])) (va_Qi (fun r (_ : Unit) => r = 0) (fun _ _ => True) (fun _ => False)) 0 0 (fun _ => False) := by
  refine Met.ofW (cc := cX8_freeNumber) (maxL := 2) (ret := (some .int)) (by decide) rfl ?_
  intro p e s m args below meth c s₁ B hml hv
  obtain ⟨rfl, hP, hK⟩ := hv
  have hx := B.exec
  have hb := B.bytes
  have hr := B.returns
  have hts := atoms_spec (ws := wz yX8_freeNumber cX8_freeNumber 2 (some .int)) B.pre
  have ht : ∀ w ∈ lw_gd, w.before _ s = true := fun w h => hts w (List.mem_cons_of_mem _ h)
  have hown : s.vm.findClass RX8 = some m.cls := findClass_of_methodNamed B.named
  have hlocks := B.notSynchronized
  have hS : va_S (fun _ => False) s.heap s.heap [] := va_S.rf
  have hl := lv_entry ([.ref (a 13)]) (n := 2) (Nat.le_of_ble_eq_true rfl)
  rw [lg_entry_eq]
  generalize (lg_sl ([.ref (a 13)]) ++ List.replicate (2 - (lg_sl ([.ref (a 13)])).length) Slot.unset).toArray = ls at hl ⊢
  have hl : lv_has ls 2 [(0, .ref (a 13))] := hl
  refine lv_iconst (v := 0) hx hb dX8_freeNumber_0 (by decide) ?_
  refine lv_istore_n (lv' := [(1, .int 0), (0, .ref (a 13))]) hx hb dX8_freeNumber_1 rfl hl (by decide) rfl (fun ls hl => ?_)
  refine lv_iload_n hx hb dX8_freeNumber_2 rfl (lv_at hl 0 rfl) ?_
  refine lv_bipush (v := 8) hx hb dX8_freeNumber_3 (by decide) ?_
  refine lv_icmp_ge (tgt := 24) hx hb dX8_freeNumber_5 (by decide) (fun c_1 => (z_abs c_1 (by decide)).elim) (fun _ => ?_)
  refine lv_aload_n hx hb dX8_freeNumber_8 rfl (lv_at hl 1 rfl) ?_
  refine lv_iload_n hx hb dX8_freeNumber_9 rfl (lv_at hl 0 rfl) ?_
  refine zcV (As := [.int 0]) (rest := []) (C := RX8) (n := 1) ⟨hx, hb, hml, hown, ht⟩ (k_X8_isVolume l D a 0) (zgV ml_X8_67 im_X8_isVolume se_X8_isVolume in_X8 co_X8_isVolume) rfl rfl (by decide +kernel) ⟨Nat.le_of_ble_eq_true rfl, Nat.le_of_ble_eq_true rfl⟩ hK hP hS [0, 1] rfl 0 rfl rfl rfl rfl hl.1 rfl (Nat.le_of_ble_eq_true rfl) dX8_freeNumber_10 ⟨Nat.le_of_ble_eq_true rfl, Nat.le_of_ble_eq_true rfl⟩ (fun r_3 H locs hw hP hS => ?_)
  subst hw
  refine lv_if_ne (tgt := 18) hx hb dX8_freeNumber_13 (by decide) (fun c_4 => (z_abs c_4 (by decide)).elim) (fun _ => ?_)
  refine lv_iload_n hx hb dX8_freeNumber_16 rfl (lv_at hl 0 rfl) ?_
  exact W.iret (v := 0) hx hb hr (fun t ht hW => ⟨⟨0, (), rfl, rfl, trivial⟩, hS.F ht⟩) hS.2.2 dX8_freeNumber_17
set_option maxHeartbeats 4000000 in
set_option maxRecDepth 100000 in
theorem k_X8_used (l : Launch) (D : va_G) (a : Nat → Nat)  : Met l yX8_used (wz yX8_used cX8_used 3 (some .int)) { frames := 0, cells := 0, slots := 0, locals := 0 } (va_Pc [.ref (a 13)] (zP D [((a 13), .inr (8, [.int 0, .int 0, .long 0, .ref (a 60), .ref (a 61), .ref (a 62), .ref (a 63), .ref (a 64), .ref (a 65), .ref (a 66), .ref (a 67)]))])) (va_Qi (fun r (_ : Unit) => r = 0) (fun _ _ => True) (fun _ => False)) 0 0 (fun _ => False) := by
  refine Met.ofW (cc := cX8_used) (maxL := 3) (ret := (some .int)) (by decide) rfl ?_
  intro p e s m args below meth c s₁ B hml hv
  obtain ⟨rfl, hP, hK⟩ := hv
  have hx := B.exec
  have hb := B.bytes
  have hr := B.returns
  have hts := atoms_spec (ws := wz yX8_used cX8_used 3 (some .int)) B.pre
  have ht : ∀ w ∈ lw_gd, w.before _ s = true := fun w h => hts w (List.mem_cons_of_mem _ h)
  have hown : s.vm.findClass RX8 = some m.cls := findClass_of_methodNamed B.named
  have hlocks := B.notSynchronized
  have hS : va_S (fun _ => False) s.heap s.heap [] := va_S.rf
  have hl := lv_entry ([.ref (a 13)]) (n := 3) (Nat.le_of_ble_eq_true rfl)
  rw [lg_entry_eq]
  generalize (lg_sl ([.ref (a 13)]) ++ List.replicate (3 - (lg_sl ([.ref (a 13)])).length) Slot.unset).toArray = ls at hl ⊢
  have hl : lv_has ls 3 [(0, .ref (a 13))] := hl
  refine lv_iconst (v := 0) hx hb dX8_used_0 (by decide) ?_
  refine lv_istore_n (lv' := [(1, .int 0), (0, .ref (a 13))]) hx hb dX8_used_1 rfl hl (by decide) rfl (fun ls hl => ?_)
  refine lv_iconst (v := 0) hx hb dX8_used_2 (by decide) ?_
  refine lv_istore_n (lv' := [(2, .int 0), (1, .int 0), (0, .ref (a 13))]) hx hb dX8_used_3 rfl hl (by decide) rfl (fun ls hl => ?_)
  refine lv_iload_n hx hb dX8_used_4 rfl (lv_at hl 0 rfl) ?_
  refine lv_aload_n hx hb dX8_used_5 rfl (lv_at hl 2 rfl) ?_
  refine va_get (D := D) (ci := 8) (v := .int 0) (C := RX8) (T := TX8) (N := 11) hx hb ht inX8 hown hK hP 0 rfl rfl 0 (by decide) (ht (.fieldLink RX8 40 "CloneVolumes$State" "blocks" "I") fl_X8_40) (fun _ h9 => h9) rfl dX8_used_6 ?_
  refine lv_icmp_ge (tgt := 35) hx hb dX8_used_9 (by decide) (fun _ => ?_) (fun c_1 => (z_abs c_1 (by decide)).elim)
  refine lv_iload_n hx hb dX8_used_35 rfl (lv_at hl 1 rfl) ?_
  exact W.iret (v := 0) hx hb hr (fun t ht hW => ⟨⟨0, (), rfl, rfl, trivial⟩, hS.F ht⟩) hS.2.2 dX8_used_36
set_option maxHeartbeats 4000000 in
set_option maxRecDepth 100000 in
theorem k_X8_held (l : Launch) (D : va_G) (a : Nat → Nat)  : Met l yX8_held (wz yX8_held cX8_held 3 (some .int)) { frames := 0, cells := 0, slots := 0, locals := 0 } (va_Pc [.ref (a 13)] (zP D [((a 13), .inr (8, [.int 0, .int 0, .long 0, .ref (a 60), .ref (a 61), .ref (a 62), .ref (a 63), .ref (a 64), .ref (a 65), .ref (a 66), .ref (a 67)]))])) (va_Qi (fun r (_ : Unit) => r = 0) (fun _ _ => True) (fun _ => False)) 0 0 (fun _ => False) := by
  refine Met.ofW (cc := cX8_held) (maxL := 3) (ret := (some .int)) (by decide) rfl ?_
  intro p e s m args below meth c s₁ B hml hv
  obtain ⟨rfl, hP, hK⟩ := hv
  have hx := B.exec
  have hb := B.bytes
  have hr := B.returns
  have hts := atoms_spec (ws := wz yX8_held cX8_held 3 (some .int)) B.pre
  have ht : ∀ w ∈ lw_gd, w.before _ s = true := fun w h => hts w (List.mem_cons_of_mem _ h)
  have hown : s.vm.findClass RX8 = some m.cls := findClass_of_methodNamed B.named
  have hlocks := B.notSynchronized
  have hS : va_S (fun _ => False) s.heap s.heap [] := va_S.rf
  have hl := lv_entry ([.ref (a 13)]) (n := 3) (Nat.le_of_ble_eq_true rfl)
  rw [lg_entry_eq]
  generalize (lg_sl ([.ref (a 13)]) ++ List.replicate (3 - (lg_sl ([.ref (a 13)])).length) Slot.unset).toArray = ls at hl ⊢
  have hl : lv_has ls 3 [(0, .ref (a 13))] := hl
  refine lv_iconst (v := 0) hx hb dX8_held_0 (by decide) ?_
  refine lv_istore_n (lv' := [(1, .int 0), (0, .ref (a 13))]) hx hb dX8_held_1 rfl hl (by decide) rfl (fun ls hl => ?_)
  refine lv_iconst (v := 0) hx hb dX8_held_2 (by decide) ?_
  refine lv_istore_n (lv' := [(2, .int 0), (1, .int 0), (0, .ref (a 13))]) hx hb dX8_held_3 rfl hl (by decide) rfl (fun ls hl => ?_)
  refine lv_iload_n hx hb dX8_held_4 rfl (lv_at hl 0 rfl) ?_
  refine lv_aload_n hx hb dX8_held_5 rfl (lv_at hl 2 rfl) ?_
  refine va_get (D := D) (ci := 8) (v := .int 0) (C := RX8) (T := TX8) (N := 11) hx hb ht inX8 hown hK hP 0 rfl rfl 0 (by decide) (ht (.fieldLink RX8 40 "CloneVolumes$State" "blocks" "I") fl_X8_40) (fun _ h9 => h9) rfl dX8_held_6 ?_
  refine lv_icmp_ge (tgt := 34) hx hb dX8_held_9 (by decide) (fun _ => ?_) (fun c_1 => (z_abs c_1 (by decide)).elim)
  refine lv_iload_n hx hb dX8_held_34 rfl (lv_at hl 1 rfl) ?_
  exact W.iret (v := 0) hx hb hr (fun t ht hW => ⟨⟨0, (), rfl, rfl, trivial⟩, hS.F ht⟩) hS.2.2 dX8_held_35
set_option maxHeartbeats 4000000 in
set_option maxRecDepth 100000 in
theorem k_X2_toldRows (l : Launch) (D : va_G) (a : Nat → Nat)  : Met l yX2_toldRows (wz yX2_toldRows cX2_toldRows 1 (some .int)) { frames := 1, cells := 0, slots := 0, locals := 60 } (va_Pc [.ref (a 3)] (zP D [((a 3), .inr (2, [.ref (a 22), .ref (a 23), .ref (a 24), .int 0, .ref (a 25), .int 0]))])) (va_Qi (fun r (_ : Unit) => r = 0) (fun _ _ => True) (fun _ => False)) 0 0 (fun _ => False) := by
  refine Met.ofW (cc := cX2_toldRows) (maxL := 1) (ret := (some .int)) (by decide) rfl ?_
  intro p e s m args below meth c s₁ B hml hv
  obtain ⟨rfl, hP, hK⟩ := hv
  have hx := B.exec
  have hb := B.bytes
  have hr := B.returns
  have hts := atoms_spec (ws := wz yX2_toldRows cX2_toldRows 1 (some .int)) B.pre
  have ht : ∀ w ∈ lw_gd, w.before _ s = true := fun w h => hts w (List.mem_cons_of_mem _ h)
  have hown : s.vm.findClass RX2 = some m.cls := findClass_of_methodNamed B.named
  have hlocks := B.notSynchronized
  have hS : va_S (fun _ => False) s.heap s.heap [] := va_S.rf
  have hl := lv_entry ([.ref (a 3)]) (n := 1) (Nat.le_of_ble_eq_true rfl)
  rw [lg_entry_eq]
  generalize (lg_sl ([.ref (a 3)]) ++ List.replicate (1 - (lg_sl ([.ref (a 3)])).length) Slot.unset).toArray = ls at hl ⊢
  have hl : lv_has ls 1 [(0, .ref (a 3))] := hl
  refine lv_aload_n hx hb dX2_toldRows_0 rfl (lv_at hl 0 rfl) ?_
  refine va_get (D := D) (ci := 2) (v := .int 0) (C := RX2) (T := TX2) (N := 6) hx hb ht inX2 hown hK hP 0 rfl rfl 3 (by decide) (ht (.fieldLink RX2 27 "CloneVolumes$History" "rows" "I") fl_X2_27) (fun _ h9 => h9) rfl dX2_toldRows_1 ?_
  refine lv_bipush (v := 40) hx hb dX2_toldRows_4 (by decide) ?_
  refine va_mmin hx hb (by rw [hml]; exact hl.1.symm) hown (ht _ ml_X2_34) (ht _ st_mmin) (ht _ in_math) (ht _ co_mmin) (Nat.le_of_ble_eq_true rfl) (Nat.le_of_ble_eq_true rfl) (Nat.le_of_ble_eq_true rfl) (Nat.le_of_ble_eq_true rfl) dX2_toldRows_6 ?_
  refine z_topi (y := 0) (by decide) ?_
  exact W.iret (v := 0) hx hb hr (fun t ht hW => ⟨⟨0, (), rfl, rfl, trivial⟩, hS.F ht⟩) hS.2.2 dX2_toldRows_9
set_option maxHeartbeats 4000000 in
set_option maxRecDepth 100000 in
theorem k_X2_toldOf (l : Launch) (D : va_G) (a : Nat → Nat) (p0 : Int32) (p1 : Int32) : Met l yX2_toldOf (wz yX2_toldOf cX2_toldOf 4 (some .int)) { frames := 2, cells := 0, slots := 0, locals := 120 } (va_Pc [.ref (a 3), .int p0, .int p1] (zP D [((a 3), .inr (2, [.ref (a 22), .ref (a 23), .ref (a 24), .int 0, .ref (a 25), .int 0]))])) (va_Qi (fun r (_ : Unit) => r = (-1)) (fun _ _ => True) (fun _ => False)) 0 0 (fun _ => False) := by
  refine Met.ofW (cc := cX2_toldOf) (maxL := 4) (ret := (some .int)) (by decide) rfl ?_
  intro p e s m args below meth c s₁ B hml hv
  obtain ⟨rfl, hP, hK⟩ := hv
  have hx := B.exec
  have hb := B.bytes
  have hr := B.returns
  have hts := atoms_spec (ws := wz yX2_toldOf cX2_toldOf 4 (some .int)) B.pre
  have ht : ∀ w ∈ lw_gd, w.before _ s = true := fun w h => hts w (List.mem_cons_of_mem _ h)
  have hown : s.vm.findClass RX2 = some m.cls := findClass_of_methodNamed B.named
  have hlocks := B.notSynchronized
  have hS : va_S (fun _ => False) s.heap s.heap [] := va_S.rf
  have hl := lv_entry ([.ref (a 3), .int p0, .int p1]) (n := 4) (Nat.le_of_ble_eq_true rfl)
  rw [lg_entry_eq]
  generalize (lg_sl ([.ref (a 3), .int p0, .int p1]) ++ List.replicate (4 - (lg_sl ([.ref (a 3), .int p0, .int p1])).length) Slot.unset).toArray = ls at hl ⊢
  have hl : lv_has ls 4 [(0, .ref (a 3)), (1, .int p0), (2, .int p1)] := hl
  refine lv_iload_n hx hb dX2_toldOf_0 rfl (lv_at hl 1 rfl) ?_
  refine lv_if_lt (tgt := 12) hx hb dX2_toldOf_1 (by decide) (fun c_1 => ?_) (fun c_1 => ?_)
  · have g_2 : p0.toInt < 0 := z_lt rfl (by decide) c_1
    refine lv_iconst (v := (-1)) hx hb dX2_toldOf_12 (by decide) ?_
    exact W.iret (v := (-1)) hx hb hr (fun t ht hW => ⟨⟨(-1), (), rfl, rfl, trivial⟩, hS.F ht⟩) hS.2.2 dX2_toldOf_13
  · have g_2 : 0 ≤ p0.toInt := z_nlt rfl (by decide) c_1
    refine lv_iload_n hx hb dX2_toldOf_4 rfl (lv_at hl 1 rfl) ?_
    refine lv_aload_n hx hb dX2_toldOf_5 rfl (lv_at hl 0 rfl) ?_
    refine zcV (As := []) (rest := [.int p0]) (C := RX2) (n := 0) ⟨hx, hb, hml, hown, ht⟩ (k_X2_toldRows l D a) (zgV ml_X2_40 im_X2_toldRows se_X2_toldRows in_X2 co_X2_toldRows) rfl rfl (by decide +kernel) ⟨Nat.le_of_ble_eq_true rfl, Nat.le_of_ble_eq_true rfl⟩ hK hP hS [0] rfl 0 rfl rfl rfl rfl hl.1 rfl (Nat.le_of_ble_eq_true rfl) dX2_toldOf_6 ⟨Nat.le_of_ble_eq_true rfl, Nat.le_of_ble_eq_true rfl⟩ (fun r_3 H locs hw hP hS => ?_)
    subst hw
    refine lv_icmp_lt (tgt := 14) hx hb dX2_toldOf_9 (by decide) (fun c_4 => ?_) (fun c_4 => ?_)
    · exfalso
      have g_5 : p0.toInt < 0 := z_lt rfl (by decide) c_4
      omega
    · have g_5 : 0 ≤ p0.toInt := z_nlt rfl (by decide) c_4
      refine lv_iconst (v := (-1)) hx hb dX2_toldOf_12 (by decide) ?_
      exact W.iret (v := (-1)) hx hb hr (fun t ht hW => ⟨⟨(-1), (), rfl, rfl, trivial⟩, hS.F ht⟩) hS.2.2 dX2_toldOf_13
set_option maxHeartbeats 4000000 in
set_option maxRecDepth 100000 in
theorem k_X2_forget (l : Launch) (D : va_G) (a : Nat → Nat)  : Met l yX2_forget (wz yX2_forget cX2_forget 1 (some (.object "CloneVolumes$State"))) { frames := 0, cells := 0, slots := 0, locals := 0 } (va_Pc [.ref (a 3)] (zP D [((a 3), .inr (2, [.ref (a 22), .ref (a 23), .ref (a 24), .int 0, .ref (a 25), .int 0]))])) zQn 0 0 (fun _ => False) := by
  refine Met.ofW (cc := cX2_forget) (maxL := 1) (ret := (some (.object "CloneVolumes$State"))) (by decide) rfl ?_
  intro p e s m args below meth c s₁ B hml hv
  obtain ⟨rfl, hP, hK⟩ := hv
  have hx := B.exec
  have hb := B.bytes
  have hr := B.returns
  have hts := atoms_spec (ws := wz yX2_forget cX2_forget 1 (some (.object "CloneVolumes$State"))) B.pre
  have ht : ∀ w ∈ lw_gd, w.before _ s = true := fun w h => hts w (List.mem_cons_of_mem _ h)
  have hown : s.vm.findClass RX2 = some m.cls := findClass_of_methodNamed B.named
  have hlocks := B.notSynchronized
  have hS : va_S (fun _ => False) s.heap s.heap [] := va_S.rf
  have hl := lv_entry ([.ref (a 3)]) (n := 1) (Nat.le_of_ble_eq_true rfl)
  rw [lg_entry_eq]
  generalize (lg_sl ([.ref (a 3)]) ++ List.replicate (1 - (lg_sl ([.ref (a 3)])).length) Slot.unset).toArray = ls at hl ⊢
  have hl : lv_has ls 1 [(0, .ref (a 3))] := hl
  refine lv_aload_n hx hb dX2_forget_0 rfl (lv_at hl 0 rfl) ?_
  refine va_get (D := D) (ci := 2) (v := .int 0) (C := RX2) (T := TX2) (N := 6) hx hb ht inX2 hown hK hP 0 rfl rfl 5 (by decide) (ht (.fieldLink RX2 31 "CloneVolumes$History" "depth" "I") fl_X2_31) (fun _ h9 => h9) rfl dX2_forget_1 ?_
  refine lv_if_eq (tgt := 14) hx hb dX2_forget_4 (by decide) (fun _ => ?_) (fun c_1 => (z_abs c_1 (by decide)).elim)
  refine lv_null hx hb dX2_forget_14 ?_
  exact W.aret (v := .null) hx hb hr (Or.inl ⟨_, rfl⟩) (Or.inl rfl) (fun t ht hW => ⟨rfl, hS.F ht⟩) hS.2.2 dX2_forget_15
set_option maxHeartbeats 4000000 in
set_option maxRecDepth 100000 in
theorem k_X7_take (l : Launch) (D : va_G) (a : Nat → Nat)  : Met l yX7_take (wz yX7_take cX7_take 4 (some .boolean)) { frames := 0, cells := 0, slots := 0, locals := 0 } (va_Pc [.ref (a 4), .ref (a 1)] (zP D [((a 4), .inr (7, [.int 0, .ref (a 26), .ref (a 27), .ref (a 28), .int 0, .ref (a 29)])), ((a 1), .inr (9, [.ref (a 20), .int 0]))])) (va_Qi (fun r (_ : Unit) => r = 0) (fun _ _ => True) (fun _ => False)) 0 0 (fun _ => False) := by
  refine Met.ofW (cc := cX7_take) (maxL := 4) (ret := (some .boolean)) (by decide) rfl ?_
  intro p e s m args below meth c s₁ B hml hv
  obtain ⟨rfl, hP, hK⟩ := hv
  have hx := B.exec
  have hb := B.bytes
  have hr := B.returns
  have hts := atoms_spec (ws := wz yX7_take cX7_take 4 (some .boolean)) B.pre
  have ht : ∀ w ∈ lw_gd, w.before _ s = true := fun w h => hts w (List.mem_cons_of_mem _ h)
  have hown : s.vm.findClass RX7 = some m.cls := findClass_of_methodNamed B.named
  have hlocks := B.notSynchronized
  have hS : va_S (fun _ => False) s.heap s.heap [] := va_S.rf
  have hl := lv_entry ([.ref (a 4), .ref (a 1)]) (n := 4) (Nat.le_of_ble_eq_true rfl)
  rw [lg_entry_eq]
  generalize (lg_sl ([.ref (a 4), .ref (a 1)]) ++ List.replicate (4 - (lg_sl ([.ref (a 4), .ref (a 1)])).length) Slot.unset).toArray = ls at hl ⊢
  have hl : lv_has ls 4 [(0, .ref (a 4)), (1, .ref (a 1))] := hl
  refine lv_aload_n hx hb dX7_take_0 rfl (lv_at hl 1 rfl) ?_
  refine va_get (D := D) (ci := 9) (v := .int 0) (C := RX9) (T := TX9) (N := 2) hx hb ht inX9 hown hK hP 1 rfl rfl 1 (by decide) (ht (.fieldLink RX7 24 "CloneVolumes$Tape" "length" "I") fl_X7_24) (fun _ h9 => h9) rfl dX7_take_1 ?_
  refine lv_iconst (v := 4) hx hb dX7_take_4 (by decide) ?_
  refine lv_idiv hx hb dX7_take_5 (by decide) ?_
  refine z_topi (y := 0) (by decide) ?_
  refine lv_istore_n (lv' := [(2, .int 0), (0, .ref (a 4)), (1, .ref (a 1))]) hx hb dX7_take_6 rfl hl (by decide) rfl (fun ls hl => ?_)
  refine lv_aload_n hx hb dX7_take_7 rfl (lv_at hl 2 rfl) ?_
  refine va_get (D := D) (ci := 9) (v := .int 0) (C := RX9) (T := TX9) (N := 2) hx hb ht inX9 hown hK hP 1 rfl rfl 1 (by decide) (ht (.fieldLink RX7 24 "CloneVolumes$Tape" "length" "I") fl_X7_24) (fun _ h9 => h9) rfl dX7_take_8 ?_
  refine lv_iconst (v := 4) hx hb dX7_take_11 (by decide) ?_
  refine lv_irem hx hb dX7_take_12 (by decide) ?_
  refine z_topi (y := 0) (by decide) ?_
  refine lv_if_ne (tgt := 27) hx hb dX7_take_13 (by decide) (fun c_1 => (z_abs c_1 (by decide)).elim) (fun _ => ?_)
  refine lv_iload_n hx hb dX7_take_16 rfl (lv_at hl 0 rfl) ?_
  refine lv_iconst (v := 1) hx hb dX7_take_17 (by decide) ?_
  refine lv_icmp_lt (tgt := 27) hx hb dX7_take_18 (by decide) (fun _ => ?_) (fun c_3 => (z_abs c_3 (by decide)).elim)
  refine lv_iconst (v := 0) hx hb dX7_take_27 (by decide) ?_
  exact W.zret (v := 0) hx hb hr (by decide) (fun t ht hW => ⟨⟨0, (), rfl, rfl, trivial⟩, hS.F ht⟩) hS.2.2 dX7_take_28
set_option maxHeartbeats 4000000 in
set_option maxRecDepth 100000 in
theorem k_X9_hasRoom (l : Launch) (D : va_G) (a : Nat → Nat)  : Met l yX9_hasRoom (wz yX9_hasRoom cX9_hasRoom 1 (some .boolean)) { frames := 0, cells := 0, slots := 0, locals := 0 } (va_Pc [.ref (a 1)] (zP D [((a 1), .inr (9, [.ref (a 20), .int 0]))])) (va_Qi (fun r (_ : Unit) => r = 1) (fun _ _ => True) (fun _ => False)) 0 0 (fun _ => False) := by
  refine Met.ofW (cc := cX9_hasRoom) (maxL := 1) (ret := (some .boolean)) (by decide) rfl ?_
  intro p e s m args below meth c s₁ B hml hv
  obtain ⟨rfl, hP, hK⟩ := hv
  have hx := B.exec
  have hb := B.bytes
  have hr := B.returns
  have hts := atoms_spec (ws := wz yX9_hasRoom cX9_hasRoom 1 (some .boolean)) B.pre
  have ht : ∀ w ∈ lw_gd, w.before _ s = true := fun w h => hts w (List.mem_cons_of_mem _ h)
  have hown : s.vm.findClass RX9 = some m.cls := findClass_of_methodNamed B.named
  have hlocks := B.notSynchronized
  have hS : va_S (fun _ => False) s.heap s.heap [] := va_S.rf
  have hl := lv_entry ([.ref (a 1)]) (n := 1) (Nat.le_of_ble_eq_true rfl)
  rw [lg_entry_eq]
  generalize (lg_sl ([.ref (a 1)]) ++ List.replicate (1 - (lg_sl ([.ref (a 1)])).length) Slot.unset).toArray = ls at hl ⊢
  have hl : lv_has ls 1 [(0, .ref (a 1))] := hl
  refine lv_aload_n hx hb dX9_hasRoom_0 rfl (lv_at hl 0 rfl) ?_
  refine va_get (D := D) (ci := 9) (v := .int 0) (C := RX9) (T := TX9) (N := 2) hx hb ht inX9 hown hK hP 0 rfl rfl 1 (by decide) (ht (.fieldLink RX9 15 "CloneVolumes$Tape" "length" "I") fl_X9_15) (fun _ h9 => h9) rfl dX9_hasRoom_1 ?_
  refine lv_bipush (v := 20) hx hb dX9_hasRoom_4 (by decide) ?_
  refine lv_iadd hx hb dX9_hasRoom_6 ?_
  refine z_topi (y := 20) (by decide) ?_
  refine lv_sipush (v := 1600) hx hb dX9_hasRoom_7 (by decide) ?_
  refine lv_icmp_gt (tgt := 17) hx hb dX9_hasRoom_10 (by decide) (fun c_1 => (z_abs c_1 (by decide)).elim) (fun _ => ?_)
  refine lv_iconst (v := 1) hx hb dX9_hasRoom_13 (by decide) ?_
  refine lv_goto (tgt := 18) hx hb dX9_hasRoom_14 (by decide) ?_
  exact W.zret (v := 1) hx hb hr (by decide) (fun t ht hW => ⟨⟨1, (), rfl, rfl, trivial⟩, hS.F ht⟩) hS.2.2 dX9_hasRoom_18
set_option maxHeartbeats 4000000 in
set_option maxRecDepth 100000 in
theorem k_X9_at (l : Launch) (D : va_G) (a : Nat → Nat) (p0 : Int32) : Met l yX9_at (wz yX9_at cX9_at 2 (some .int)) { frames := 0, cells := 0, slots := 0, locals := 0 } (va_Pc [.ref (a 1), .int p0] (zP D [((a 1), .inr (9, [.ref (a 20), .int 0]))])) (va_Qi (fun r (_ : Unit) => r = (-1)) (fun _ _ => True) (fun _ => False)) 0 0 (fun _ => False) := by
  refine Met.ofW (cc := cX9_at) (maxL := 2) (ret := (some .int)) (by decide) rfl ?_
  intro p e s m args below meth c s₁ B hml hv
  obtain ⟨rfl, hP, hK⟩ := hv
  have hx := B.exec
  have hb := B.bytes
  have hr := B.returns
  have hts := atoms_spec (ws := wz yX9_at cX9_at 2 (some .int)) B.pre
  have ht : ∀ w ∈ lw_gd, w.before _ s = true := fun w h => hts w (List.mem_cons_of_mem _ h)
  have hown : s.vm.findClass RX9 = some m.cls := findClass_of_methodNamed B.named
  have hlocks := B.notSynchronized
  have hS : va_S (fun _ => False) s.heap s.heap [] := va_S.rf
  have hl := lv_entry ([.ref (a 1), .int p0]) (n := 2) (Nat.le_of_ble_eq_true rfl)
  rw [lg_entry_eq]
  generalize (lg_sl ([.ref (a 1), .int p0]) ++ List.replicate (2 - (lg_sl ([.ref (a 1), .int p0])).length) Slot.unset).toArray = ls at hl ⊢
  have hl : lv_has ls 2 [(0, .ref (a 1)), (1, .int p0)] := hl
  refine lv_iload_n hx hb dX9_at_0 rfl (lv_at hl 1 rfl) ?_
  refine lv_if_lt (tgt := 21) hx hb dX9_at_1 (by decide) (fun c_1 => ?_) (fun c_1 => ?_)
  · have g_2 : p0.toInt < 0 := z_lt rfl (by decide) c_1
    refine lv_iconst (v := (-1)) hx hb dX9_at_21 (by decide) ?_
    exact W.iret (v := (-1)) hx hb hr (fun t ht hW => ⟨⟨(-1), (), rfl, rfl, trivial⟩, hS.F ht⟩) hS.2.2 dX9_at_22
  · have g_2 : 0 ≤ p0.toInt := z_nlt rfl (by decide) c_1
    refine lv_iload_n hx hb dX9_at_4 rfl (lv_at hl 1 rfl) ?_
    refine lv_aload_n hx hb dX9_at_5 rfl (lv_at hl 0 rfl) ?_
    refine va_get (D := D) (ci := 9) (v := .int 0) (C := RX9) (T := TX9) (N := 2) hx hb ht inX9 hown hK hP 0 rfl rfl 1 (by decide) (ht (.fieldLink RX9 15 "CloneVolumes$Tape" "length" "I") fl_X9_15) (fun _ h9 => h9) rfl dX9_at_6 ?_
    refine lv_icmp_ge (tgt := 21) hx hb dX9_at_9 (by decide) (fun c_3 => ?_) (fun c_3 => ?_)
    · have g_4 : 0 ≤ p0.toInt := z_le (by decide) rfl c_3
      refine lv_iconst (v := (-1)) hx hb dX9_at_21 (by decide) ?_
      exact W.iret (v := (-1)) hx hb hr (fun t ht hW => ⟨⟨(-1), (), rfl, rfl, trivial⟩, hS.F ht⟩) hS.2.2 dX9_at_22
    · exfalso
      have g_4 : p0.toInt < 0 := z_nle (by decide) rfl c_3
      omega
