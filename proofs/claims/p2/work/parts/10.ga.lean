theorem fl_X8_40 : Cond.fieldLink RX8 40 "CloneVolumes$State" "blocks" "I" ∈ lw_gd := zm (List.mem_of_getElem? (i := 553) (by decide +kernel)) rfl
theorem fl_X8_30 : Cond.fieldLink RX8 30 "CloneVolumes$State" "roots" "[I" ∈ lw_gd := zm (List.mem_of_getElem? (i := 593) (by decide +kernel)) rfl
theorem ml_X8_57 : Cond.methodLink RX8 57 yX8_isBlock ∈ lw_gd := zm (List.mem_of_getElem? (i := 943) (by decide +kernel)) rfl
theorem im_X8_isBlock : Cond.instanceMethod yX8_isBlock ∈ lw_gd := zm (List.mem_of_getElem? (i := 944) (by decide +kernel)) rfl
theorem se_X8_isBlock : Cond.selects RX8 yX8_isBlock yX8_isBlock ∈ lw_gd := zm (List.mem_of_getElem? (i := 945) (by decide +kernel)) rfl
theorem in_X8 : Cond.initialized RX8 ∈ lw_gd := zm (List.mem_of_getElem? (i := 212) (by decide +kernel)) rfl
theorem co_X8_isBlock : Cond.code yX8_isBlock cX8_isBlock 2 (some .boolean) ∈ lw_gd := zm (List.mem_of_getElem? (i := 946) (by decide +kernel)) rfl
theorem fl_X8_9 : Cond.fieldLink RX8 9 "CloneVolumes$State" "count" "[I" ∈ lw_gd := zm (List.mem_of_getElem? (i := 564) (by decide +kernel)) rfl
theorem fl_X8_15 : Cond.fieldLink RX8 15 "CloneVolumes$State" "saved" "[I" ∈ lw_gd := zm (List.mem_of_getElem? (i := 569) (by decide +kernel)) rfl
theorem ml_X8_61 : Cond.methodLink RX8 61 yX8_inUse ∈ lw_gd := zm (List.mem_of_getElem? (i := 1144) (by decide +kernel)) rfl
theorem im_X8_inUse : Cond.instanceMethod yX8_inUse ∈ lw_gd := zm (List.mem_of_getElem? (i := 1145) (by decide +kernel)) rfl
theorem se_X8_inUse : Cond.selects RX8 yX8_inUse yX8_inUse ∈ lw_gd := zm (List.mem_of_getElem? (i := 1146) (by decide +kernel)) rfl
theorem co_X8_inUse : Cond.code yX8_inUse cX8_inUse 2 (some .boolean) ∈ lw_gd := zm (List.mem_of_getElem? (i := 1147) (by decide +kernel)) rfl
theorem fl_X8_18 : Cond.fieldLink RX8 18 "CloneVolumes$State" "level" "[I" ∈ lw_gd := zm (List.mem_of_getElem? (i := 573) (by decide +kernel)) rfl
theorem ml_X8_64 : Cond.methodLink RX8 64 yX8_isHeld ∈ lw_gd := zm (List.mem_of_getElem? (i := 1095) (by decide +kernel)) rfl
theorem im_X8_isHeld : Cond.instanceMethod yX8_isHeld ∈ lw_gd := zm (List.mem_of_getElem? (i := 1096) (by decide +kernel)) rfl
theorem se_X8_isHeld : Cond.selects RX8 yX8_isHeld yX8_isHeld ∈ lw_gd := zm (List.mem_of_getElem? (i := 1097) (by decide +kernel)) rfl
theorem co_X8_isHeld : Cond.code yX8_isHeld cX8_isHeld 2 (some .boolean) ∈ lw_gd := zm (List.mem_of_getElem? (i := 1098) (by decide +kernel)) rfl
theorem fl_X8_21 : Cond.fieldLink RX8 21 "CloneVolumes$State" "size" "[I" ∈ lw_gd := zm (List.mem_of_getElem? (i := 578) (by decide +kernel)) rfl
theorem dX8_inUse_0 : decode cX8_inUse 0 = .ok (.aload_n 0, 1) := by decide +kernel
theorem dX8_inUse_1 : decode cX8_inUse 1 = .ok (.iload_n 1, 1) := by decide +kernel
theorem dX8_inUse_2 : decode cX8_inUse 2 = .ok (.invokevirtual 57, 3) := by decide +kernel
theorem dX8_inUse_5 : decode cX8_inUse 5 = .ok (.ifCond .eq 16, 3) := by decide +kernel
theorem dX8_inUse_8 : decode cX8_inUse 8 = .ok (.aload_n 0, 1) := by decide +kernel
theorem dX8_inUse_9 : decode cX8_inUse 9 = .ok (.getfield 9, 3) := by decide +kernel
theorem dX8_inUse_12 : decode cX8_inUse 12 = .ok (.iload_n 1, 1) := by decide +kernel
theorem dX8_inUse_13 : decode cX8_inUse 13 = .ok (.iaload, 1) := by decide +kernel
theorem dX8_inUse_14 : decode cX8_inUse 14 = .ok (.ifCond .le 7, 3) := by decide +kernel
theorem dX8_inUse_17 : decode cX8_inUse 17 = .ok (.iconst 1, 1) := by decide +kernel
theorem dX8_inUse_18 : decode cX8_inUse 18 = .ok (.goto 4, 3) := by decide +kernel
theorem dX8_inUse_21 : decode cX8_inUse 21 = .ok (.iconst 0, 1) := by decide +kernel
theorem dX8_inUse_22 : decode cX8_inUse 22 = .ok (.ireturn, 1) := by decide +kernel
theorem dX8_isBlock_0 : decode cX8_isBlock 0 = .ok (.iload_n 1, 1) := by decide +kernel
theorem dX8_isBlock_1 : decode cX8_isBlock 1 = .ok (.ifCond .lt 15, 3) := by decide +kernel
theorem dX8_isBlock_4 : decode cX8_isBlock 4 = .ok (.iload_n 1, 1) := by decide +kernel
theorem dX8_isBlock_5 : decode cX8_isBlock 5 = .ok (.aload_n 0, 1) := by decide +kernel
theorem dX8_isBlock_6 : decode cX8_isBlock 6 = .ok (.getfield 40, 3) := by decide +kernel
theorem dX8_isBlock_9 : decode cX8_isBlock 9 = .ok (.if_icmp .ge 7, 3) := by decide +kernel
theorem dX8_isBlock_12 : decode cX8_isBlock 12 = .ok (.iconst 1, 1) := by decide +kernel
theorem dX8_isBlock_13 : decode cX8_isBlock 13 = .ok (.goto 4, 3) := by decide +kernel
theorem dX8_isBlock_16 : decode cX8_isBlock 16 = .ok (.iconst 0, 1) := by decide +kernel
theorem dX8_isBlock_17 : decode cX8_isBlock 17 = .ok (.ireturn, 1) := by decide +kernel
theorem dX8_isFree_0 : decode cX8_isFree 0 = .ok (.aload_n 0, 1) := by decide +kernel
theorem dX8_isFree_1 : decode cX8_isFree 1 = .ok (.iload_n 1, 1) := by decide +kernel
theorem dX8_isFree_2 : decode cX8_isFree 2 = .ok (.invokevirtual 57, 3) := by decide +kernel
theorem dX8_isFree_5 : decode cX8_isFree 5 = .ok (.ifCond .eq 25, 3) := by decide +kernel
theorem dX8_isFree_8 : decode cX8_isFree 8 = .ok (.aload_n 0, 1) := by decide +kernel
theorem dX8_isFree_9 : decode cX8_isFree 9 = .ok (.getfield 9, 3) := by decide +kernel
theorem dX8_isFree_12 : decode cX8_isFree 12 = .ok (.iload_n 1, 1) := by decide +kernel
theorem dX8_isFree_13 : decode cX8_isFree 13 = .ok (.iaload, 1) := by decide +kernel
theorem dX8_isFree_14 : decode cX8_isFree 14 = .ok (.ifCond .ne 16, 3) := by decide +kernel
theorem dX8_isFree_17 : decode cX8_isFree 17 = .ok (.aload_n 0, 1) := by decide +kernel
theorem dX8_isFree_18 : decode cX8_isFree 18 = .ok (.getfield 15, 3) := by decide +kernel
theorem dX8_isFree_21 : decode cX8_isFree 21 = .ok (.iload_n 1, 1) := by decide +kernel
theorem dX8_isFree_22 : decode cX8_isFree 22 = .ok (.iaload, 1) := by decide +kernel
theorem dX8_isFree_23 : decode cX8_isFree 23 = .ok (.ifCond .ne 7, 3) := by decide +kernel
theorem dX8_isFree_26 : decode cX8_isFree 26 = .ok (.iconst 1, 1) := by decide +kernel
theorem dX8_isFree_27 : decode cX8_isFree 27 = .ok (.goto 4, 3) := by decide +kernel
theorem dX8_isFree_30 : decode cX8_isFree 30 = .ok (.iconst 0, 1) := by decide +kernel
theorem dX8_isFree_31 : decode cX8_isFree 31 = .ok (.ireturn, 1) := by decide +kernel
theorem dX8_isFresh_0 : decode cX8_isFresh 0 = .ok (.aload_n 0, 1) := by decide +kernel
theorem dX8_isFresh_1 : decode cX8_isFresh 1 = .ok (.iload_n 1, 1) := by decide +kernel
theorem dX8_isFresh_2 : decode cX8_isFresh 2 = .ok (.invokevirtual 57, 3) := by decide +kernel
theorem dX8_isFresh_5 : decode cX8_isFresh 5 = .ok (.ifCond .eq 25, 3) := by decide +kernel
theorem dX8_isFresh_8 : decode cX8_isFresh 8 = .ok (.aload_n 0, 1) := by decide +kernel
theorem dX8_isFresh_9 : decode cX8_isFresh 9 = .ok (.getfield 9, 3) := by decide +kernel
theorem dX8_isFresh_12 : decode cX8_isFresh 12 = .ok (.iload_n 1, 1) := by decide +kernel
theorem dX8_isFresh_13 : decode cX8_isFresh 13 = .ok (.iaload, 1) := by decide +kernel
theorem dX8_isFresh_14 : decode cX8_isFresh 14 = .ok (.ifCond .le 16, 3) := by decide +kernel
theorem dX8_isFresh_17 : decode cX8_isFresh 17 = .ok (.aload_n 0, 1) := by decide +kernel
theorem dX8_isFresh_18 : decode cX8_isFresh 18 = .ok (.getfield 15, 3) := by decide +kernel
theorem dX8_isFresh_21 : decode cX8_isFresh 21 = .ok (.iload_n 1, 1) := by decide +kernel
theorem dX8_isFresh_22 : decode cX8_isFresh 22 = .ok (.iaload, 1) := by decide +kernel
theorem dX8_isFresh_23 : decode cX8_isFresh 23 = .ok (.ifCond .ne 7, 3) := by decide +kernel
theorem dX8_isFresh_26 : decode cX8_isFresh 26 = .ok (.iconst 1, 1) := by decide +kernel
theorem dX8_isFresh_27 : decode cX8_isFresh 27 = .ok (.goto 4, 3) := by decide +kernel
theorem dX8_isFresh_30 : decode cX8_isFresh 30 = .ok (.iconst 0, 1) := by decide +kernel
theorem dX8_isFresh_31 : decode cX8_isFresh 31 = .ok (.ireturn, 1) := by decide +kernel
theorem dX8_isHeld_0 : decode cX8_isHeld 0 = .ok (.aload_n 0, 1) := by decide +kernel
theorem dX8_isHeld_1 : decode cX8_isHeld 1 = .ok (.iload_n 1, 1) := by decide +kernel
theorem dX8_isHeld_2 : decode cX8_isHeld 2 = .ok (.invokevirtual 57, 3) := by decide +kernel
theorem dX8_isHeld_5 : decode cX8_isHeld 5 = .ok (.ifCond .eq 25, 3) := by decide +kernel
theorem dX8_isHeld_8 : decode cX8_isHeld 8 = .ok (.aload_n 0, 1) := by decide +kernel
theorem dX8_isHeld_9 : decode cX8_isHeld 9 = .ok (.getfield 9, 3) := by decide +kernel
theorem dX8_isHeld_12 : decode cX8_isHeld 12 = .ok (.iload_n 1, 1) := by decide +kernel
theorem dX8_isHeld_13 : decode cX8_isHeld 13 = .ok (.iaload, 1) := by decide +kernel
theorem dX8_isHeld_14 : decode cX8_isHeld 14 = .ok (.ifCond .ne 16, 3) := by decide +kernel
theorem dX8_isHeld_17 : decode cX8_isHeld 17 = .ok (.aload_n 0, 1) := by decide +kernel
theorem dX8_isHeld_18 : decode cX8_isHeld 18 = .ok (.getfield 15, 3) := by decide +kernel
theorem dX8_isHeld_21 : decode cX8_isHeld 21 = .ok (.iload_n 1, 1) := by decide +kernel
theorem dX8_isHeld_22 : decode cX8_isHeld 22 = .ok (.iaload, 1) := by decide +kernel
theorem dX8_isHeld_23 : decode cX8_isHeld 23 = .ok (.ifCond .le 7, 3) := by decide +kernel
theorem dX8_isHeld_26 : decode cX8_isHeld 26 = .ok (.iconst 1, 1) := by decide +kernel
theorem dX8_isHeld_27 : decode cX8_isHeld 27 = .ok (.goto 4, 3) := by decide +kernel
theorem dX8_isHeld_30 : decode cX8_isHeld 30 = .ok (.iconst 0, 1) := by decide +kernel
theorem dX8_isHeld_31 : decode cX8_isHeld 31 = .ok (.ireturn, 1) := by decide +kernel
theorem dX8_isVolume_0 : decode cX8_isVolume 0 = .ok (.iload_n 1, 1) := by decide +kernel
theorem dX8_isVolume_1 : decode cX8_isVolume 1 = .ok (.ifCond .lt 24, 3) := by decide +kernel
theorem dX8_isVolume_4 : decode cX8_isVolume 4 = .ok (.iload_n 1, 1) := by decide +kernel
theorem dX8_isVolume_5 : decode cX8_isVolume 5 = .ok (.bipush 8, 2) := by decide +kernel
theorem dX8_isVolume_7 : decode cX8_isVolume 7 = .ok (.if_icmp .ge 18, 3) := by decide +kernel
theorem dX8_isVolume_10 : decode cX8_isVolume 10 = .ok (.aload_n 0, 1) := by decide +kernel
theorem dX8_isVolume_11 : decode cX8_isVolume 11 = .ok (.getfield 30, 3) := by decide +kernel
theorem dX8_isVolume_14 : decode cX8_isVolume 14 = .ok (.iload_n 1, 1) := by decide +kernel
theorem dX8_isVolume_15 : decode cX8_isVolume 15 = .ok (.iaload, 1) := by decide +kernel
theorem dX8_isVolume_16 : decode cX8_isVolume 16 = .ok (.bipush (-2), 2) := by decide +kernel
theorem dX8_isVolume_18 : decode cX8_isVolume 18 = .ok (.if_icmp .eq 7, 3) := by decide +kernel
theorem dX8_isVolume_21 : decode cX8_isVolume 21 = .ok (.iconst 1, 1) := by decide +kernel
theorem dX8_isVolume_22 : decode cX8_isVolume 22 = .ok (.goto 4, 3) := by decide +kernel
theorem dX8_isVolume_25 : decode cX8_isVolume 25 = .ok (.iconst 0, 1) := by decide +kernel
theorem dX8_isVolume_26 : decode cX8_isVolume 26 = .ok (.ireturn, 1) := by decide +kernel
theorem dX8_levelOf_0 : decode cX8_levelOf 0 = .ok (.aload_n 0, 1) := by decide +kernel
theorem dX8_levelOf_1 : decode cX8_levelOf 1 = .ok (.iload_n 1, 1) := by decide +kernel
theorem dX8_levelOf_2 : decode cX8_levelOf 2 = .ok (.invokevirtual 61, 3) := by decide +kernel
theorem dX8_levelOf_5 : decode cX8_levelOf 5 = .ok (.ifCond .ne 11, 3) := by decide +kernel
theorem dX8_levelOf_8 : decode cX8_levelOf 8 = .ok (.aload_n 0, 1) := by decide +kernel
theorem dX8_levelOf_9 : decode cX8_levelOf 9 = .ok (.iload_n 1, 1) := by decide +kernel
theorem dX8_levelOf_10 : decode cX8_levelOf 10 = .ok (.invokevirtual 64, 3) := by decide +kernel
theorem dX8_levelOf_13 : decode cX8_levelOf 13 = .ok (.ifCond .eq 12, 3) := by decide +kernel
theorem dX8_levelOf_16 : decode cX8_levelOf 16 = .ok (.aload_n 0, 1) := by decide +kernel
theorem dX8_levelOf_17 : decode cX8_levelOf 17 = .ok (.getfield 18, 3) := by decide +kernel
theorem dX8_levelOf_20 : decode cX8_levelOf 20 = .ok (.iload_n 1, 1) := by decide +kernel
theorem dX8_levelOf_21 : decode cX8_levelOf 21 = .ok (.iaload, 1) := by decide +kernel
theorem dX8_levelOf_22 : decode cX8_levelOf 22 = .ok (.goto 4, 3) := by decide +kernel
theorem dX8_levelOf_25 : decode cX8_levelOf 25 = .ok (.iconst 0, 1) := by decide +kernel
theorem dX8_levelOf_26 : decode cX8_levelOf 26 = .ok (.ireturn, 1) := by decide +kernel
theorem dX8_sizeOf_0 : decode cX8_sizeOf 0 = .ok (.aload_n 0, 1) := by decide +kernel
theorem dX8_sizeOf_1 : decode cX8_sizeOf 1 = .ok (.iload_n 1, 1) := by decide +kernel
theorem dX8_sizeOf_2 : decode cX8_sizeOf 2 = .ok (.invokevirtual 61, 3) := by decide +kernel
theorem dX8_sizeOf_5 : decode cX8_sizeOf 5 = .ok (.ifCond .ne 11, 3) := by decide +kernel
theorem dX8_sizeOf_8 : decode cX8_sizeOf 8 = .ok (.aload_n 0, 1) := by decide +kernel
theorem dX8_sizeOf_9 : decode cX8_sizeOf 9 = .ok (.iload_n 1, 1) := by decide +kernel
theorem dX8_sizeOf_10 : decode cX8_sizeOf 10 = .ok (.invokevirtual 64, 3) := by decide +kernel
theorem dX8_sizeOf_13 : decode cX8_sizeOf 13 = .ok (.ifCond .eq 12, 3) := by decide +kernel
theorem dX8_sizeOf_16 : decode cX8_sizeOf 16 = .ok (.aload_n 0, 1) := by decide +kernel
theorem dX8_sizeOf_17 : decode cX8_sizeOf 17 = .ok (.getfield 21, 3) := by decide +kernel
theorem dX8_sizeOf_20 : decode cX8_sizeOf 20 = .ok (.iload_n 1, 1) := by decide +kernel
theorem dX8_sizeOf_21 : decode cX8_sizeOf 21 = .ok (.iaload, 1) := by decide +kernel
theorem dX8_sizeOf_22 : decode cX8_sizeOf 22 = .ok (.goto 4, 3) := by decide +kernel
theorem dX8_sizeOf_25 : decode cX8_sizeOf 25 = .ok (.iconst 0, 1) := by decide +kernel
theorem dX8_sizeOf_26 : decode cX8_sizeOf 26 = .ok (.ireturn, 1) := by decide +kernel
theorem dX8_slot_0 : decode cX8_slot 0 = .ok (.iload_n 1, 1) := by decide +kernel
theorem dX8_slot_1 : decode cX8_slot 1 = .ok (.bipush 6, 2) := by decide +kernel
theorem dX8_slot_3 : decode cX8_slot 3 = .ok (.imul, 1) := by decide +kernel
theorem dX8_slot_4 : decode cX8_slot 4 = .ok (.iload_n 2, 1) := by decide +kernel
theorem dX8_slot_5 : decode cX8_slot 5 = .ok (.iadd, 1) := by decide +kernel
theorem dX8_slot_6 : decode cX8_slot 6 = .ok (.ireturn, 1) := by decide +kernel
set_option maxHeartbeats 4000000 in
set_option maxRecDepth 100000 in
theorem k_X8_slot (l : Launch) (D : va_G) (h0 h1 h2 h3 h4 h5 h6 h7 h8 nb : Nat) (sp : Int32) (wr : Int64) (b : Nat) (k : Nat) (h_b : nb ≤ 48) (h_1 : b < 48) (h_2 : k ≤ 48) : Met l yX8_slot (wz yX8_slot cX8_slot 3 (some .int)) { frames := 0, cells := 0, slots := 0, locals := 0 } (va_Pc [.ref h0, .int (nI b), .int (nI k)] (zP D [(h0, .inr (8, [.int (nI nb), .int sp, .long wr, .ref h1, .ref h2, .ref h3, .ref h4, .ref h5, .ref h6, .ref h7, .ref h8]))])) (va_Qi (fun r (_ : Unit) => r = nI ((b * 6) + k)) (fun _ _ => True) (fun _ => False)) 0 0 (fun _ => False) := by
  refine Met.ofW (cc := cX8_slot) (maxL := 3) (ret := (some .int)) (by decide) rfl ?_
  intro p e s m args below meth c s₁ B hml hv
  obtain ⟨rfl, hP, hK⟩ := hv
  have hx := B.exec
  have hb := B.bytes
  have hr := B.returns
  have hts := atoms_spec (ws := wz yX8_slot cX8_slot 3 (some .int)) B.pre
  have ht : ∀ w ∈ lw_gd, w.before _ s = true := fun w h => hts w (List.mem_cons_of_mem _ h)
  have hown : s.vm.findClass RX8 = some m.cls := findClass_of_methodNamed B.named
  have hlocks := B.notSynchronized
  have hS : va_S (fun _ => False) s.heap s.heap [] := va_S.rf
  have zi0 : (0 : Int32).toInt = 0 := rfl
  have zi1 : (1 : Int32).toInt = 1 := rfl
  have zi2 : (2 : Int32).toInt = 2 := rfl
  have zi3 : (3 : Int32).toInt = 3 := rfl
  have zi4 : (4 : Int32).toInt = 4 := rfl
  have hl := lv_entry ([.ref h0, .int (nI b), .int (nI k)]) (n := 3) (Nat.le_of_ble_eq_true rfl)
  rw [lg_entry_eq]
  generalize (lg_sl ([.ref h0, .int (nI b), .int (nI k)]) ++ List.replicate (3 - (lg_sl ([.ref h0, .int (nI b), .int (nI k)])).length) Slot.unset).toArray = ls at hl ⊢
  have hl : lv_has ls 3 [(0, .ref h0), (1, .int (nI b)), (2, .int (nI k))] := hl
  refine lv_iload_n hx hb dX8_slot_0 rfl (lv_at hl 1 rfl) ?_
  refine lv_bipush (v := 6) hx hb dX8_slot_1 (by decide) ?_
  refine lv_imul hx hb dX8_slot_3 ?_
  refine z_topi (y := nI (b * 6)) (z_nmul b 6) ?_
  refine lv_iload_n hx hb dX8_slot_4 rfl (lv_at hl 2 rfl) ?_
  refine lv_iadd hx hb dX8_slot_5 ?_
  refine z_topi (y := nI ((b * 6) + k)) (z_nadd (b * 6) k) ?_
  exact W.iret (v := nI ((b * 6) + k)) hx hb hr (fun t ht hW => ⟨⟨nI ((b * 6) + k), (), rfl, rfl, trivial⟩, hS.F ht⟩) hS.2.2 dX8_slot_6
set_option maxHeartbeats 4000000 in
set_option maxRecDepth 100000 in
theorem k_X8_isBlock (l : Launch) (D : va_G) (h0 h1 h2 h3 h4 h5 h6 h7 h8 nb : Nat) (sp : Int32) (wr : Int64) (p0 : Int32) (h_b : nb ≤ 48)  : Met l yX8_isBlock (wz yX8_isBlock cX8_isBlock 2 (some .boolean)) { frames := 0, cells := 0, slots := 0, locals := 0 } (va_Pc [.ref h0, .int p0] (zP D [(h0, .inr (8, [.int (nI nb), .int sp, .long wr, .ref h1, .ref h2, .ref h3, .ref h4, .ref h5, .ref h6, .ref h7, .ref h8]))])) (va_Qi (fun r (_ : Unit) => (r = 1 ∧ (0 ≤ p0.toInt ∧ p0.toInt < (nb : Int))) ∨ (r = 0 ∧ ¬ (0 ≤ p0.toInt ∧ p0.toInt < (nb : Int)))) (fun _ _ => True) (fun _ => False)) 0 0 (fun _ => False) := by
  refine Met.ofW (cc := cX8_isBlock) (maxL := 2) (ret := (some .boolean)) (by decide) rfl ?_
  intro p e s m args below meth c s₁ B hml hv
  obtain ⟨rfl, hP, hK⟩ := hv
  have hx := B.exec
  have hb := B.bytes
  have hr := B.returns
  have hts := atoms_spec (ws := wz yX8_isBlock cX8_isBlock 2 (some .boolean)) B.pre
  have ht : ∀ w ∈ lw_gd, w.before _ s = true := fun w h => hts w (List.mem_cons_of_mem _ h)
  have hown : s.vm.findClass RX8 = some m.cls := findClass_of_methodNamed B.named
  have hlocks := B.notSynchronized
  have hS : va_S (fun _ => False) s.heap s.heap [] := va_S.rf
  have zi0 : (0 : Int32).toInt = 0 := rfl
  have zi1 : (1 : Int32).toInt = 1 := rfl
  have zi2 : (2 : Int32).toInt = 2 := rfl
  have zi3 : (3 : Int32).toInt = 3 := rfl
  have zi4 : (4 : Int32).toInt = 4 := rfl
  have hl := lv_entry ([.ref h0, .int p0]) (n := 2) (Nat.le_of_ble_eq_true rfl)
  rw [lg_entry_eq]
  generalize (lg_sl ([.ref h0, .int p0]) ++ List.replicate (2 - (lg_sl ([.ref h0, .int p0])).length) Slot.unset).toArray = ls at hl ⊢
  have hl : lv_has ls 2 [(0, .ref h0), (1, .int p0)] := hl
  refine lv_iload_n hx hb dX8_isBlock_0 rfl (lv_at hl 1 rfl) ?_
  refine lv_if_lt (tgt := 16) hx hb dX8_isBlock_1 (by decide) (fun c_1 => ?_) (fun c_1 => ?_)
  · have g_2 : p0.toInt < 0 := z_lt rfl (by decide) c_1
    refine lv_iconst (v := 0) hx hb dX8_isBlock_16 (by decide) ?_
    exact W.zret (v := 0) hx hb hr (by decide) (fun t ht hW => ⟨⟨0, (), rfl, Or.inr ⟨rfl, by omega⟩, trivial⟩, hS.F ht⟩) hS.2.2 dX8_isBlock_17
  · have g_2 : 0 ≤ p0.toInt := z_nlt rfl (by decide) c_1
    refine lv_iload_n hx hb dX8_isBlock_4 rfl (lv_at hl 1 rfl) ?_
    refine lv_aload_n hx hb dX8_isBlock_5 rfl (lv_at hl 0 rfl) ?_
    refine va_get (D := D) (ci := 8) (v := .int (nI nb)) (C := RX8) (T := TX8) (N := 11) hx hb ht inX8 hown hK hP 0 rfl rfl 0 (by decide) (ht (.fieldLink RX8 40 "CloneVolumes$State" "blocks" "I") fl_X8_40) (fun _ h9 => h9) rfl dX8_isBlock_6 ?_
    refine lv_icmp_ge (tgt := 16) hx hb dX8_isBlock_9 (by decide) (fun c_3 => ?_) (fun c_3 => ?_)
    · have g_4 : ((nb : Nat) : Int) ≤ p0.toInt := z_le (nI_toInt (by omega)) rfl c_3
      refine lv_iconst (v := 0) hx hb dX8_isBlock_16 (by decide) ?_
      exact W.zret (v := 0) hx hb hr (by decide) (fun t ht hW => ⟨⟨0, (), rfl, Or.inr ⟨rfl, by omega⟩, trivial⟩, hS.F ht⟩) hS.2.2 dX8_isBlock_17
    · have g_4 : p0.toInt < ((nb : Nat) : Int) := z_nle (nI_toInt (by omega)) rfl c_3
      refine lv_iconst (v := 1) hx hb dX8_isBlock_12 (by decide) ?_
      refine lv_goto (tgt := 17) hx hb dX8_isBlock_13 (by decide) ?_
      exact W.zret (v := 1) hx hb hr (by decide) (fun t ht hW => ⟨⟨1, (), rfl, Or.inl ⟨rfl, by omega⟩, trivial⟩, hS.F ht⟩) hS.2.2 dX8_isBlock_17
set_option maxHeartbeats 4000000 in
set_option maxRecDepth 100000 in
theorem k_X8_isVolume (l : Launch) (D : va_G) (h0 h1 h2 h3 h4 h5 h6 h7 h8 nb : Nat) (sp : Int32) (wr : Int64) (fR : Nat → Int32) (p0 : Int32) (h_b : nb ≤ 48)  : Met l yX8_isVolume (wz yX8_isVolume cX8_isVolume 2 (some .boolean)) { frames := 0, cells := 0, slots := 0, locals := 0 } (va_Pc [.ref h0, .int p0] (zP D [(h0, .inr (8, [.int (nI nb), .int sp, .long wr, .ref h1, .ref h2, .ref h3, .ref h4, .ref h5, .ref h6, .ref h7, .ref h8])), (h7, .inl (D.1 13, 8, .inl fR))])) (va_Qi (fun r (_ : Unit) => (r = 1 ∧ (0 ≤ p0.toInt ∧ p0.toInt < 8 ∧ ¬ (fR p0.toNatClampNeg).toInt = -2)) ∨ (r = 0 ∧ ¬ (0 ≤ p0.toInt ∧ p0.toInt < 8 ∧ ¬ (fR p0.toNatClampNeg).toInt = -2))) (fun _ _ => True) (fun _ => False)) 0 0 (fun _ => False) := by
  refine Met.ofW (cc := cX8_isVolume) (maxL := 2) (ret := (some .boolean)) (by decide) rfl ?_
  intro p e s m args below meth c s₁ B hml hv
  obtain ⟨rfl, hP, hK⟩ := hv
  have hx := B.exec
  have hb := B.bytes
  have hr := B.returns
  have hts := atoms_spec (ws := wz yX8_isVolume cX8_isVolume 2 (some .boolean)) B.pre
  have ht : ∀ w ∈ lw_gd, w.before _ s = true := fun w h => hts w (List.mem_cons_of_mem _ h)
  have hown : s.vm.findClass RX8 = some m.cls := findClass_of_methodNamed B.named
  have hlocks := B.notSynchronized
  have hS : va_S (fun _ => False) s.heap s.heap [] := va_S.rf
  have zi0 : (0 : Int32).toInt = 0 := rfl
  have zi1 : (1 : Int32).toInt = 1 := rfl
  have zi2 : (2 : Int32).toInt = 2 := rfl
  have zi3 : (3 : Int32).toInt = 3 := rfl
  have zi4 : (4 : Int32).toInt = 4 := rfl
  have hl := lv_entry ([.ref h0, .int p0]) (n := 2) (Nat.le_of_ble_eq_true rfl)
  rw [lg_entry_eq]
  generalize (lg_sl ([.ref h0, .int p0]) ++ List.replicate (2 - (lg_sl ([.ref h0, .int p0])).length) Slot.unset).toArray = ls at hl ⊢
  have hl : lv_has ls 2 [(0, .ref h0), (1, .int p0)] := hl
  refine lv_iload_n hx hb dX8_isVolume_0 rfl (lv_at hl 1 rfl) ?_
  refine lv_if_lt (tgt := 25) hx hb dX8_isVolume_1 (by decide) (fun c_1 => ?_) (fun c_1 => ?_)
  · have g_2 : p0.toInt < 0 := z_lt rfl (by decide) c_1
    refine lv_iconst (v := 0) hx hb dX8_isVolume_25 (by decide) ?_
    exact W.zret (v := 0) hx hb hr (by decide) (fun t ht hW => ⟨⟨0, (), rfl, Or.inr ⟨rfl, by omega⟩, trivial⟩, hS.F ht⟩) hS.2.2 dX8_isVolume_26
  · have g_2 : 0 ≤ p0.toInt := z_nlt rfl (by decide) c_1
    refine lv_iload_n hx hb dX8_isVolume_4 rfl (lv_at hl 1 rfl) ?_
    refine lv_bipush (v := 8) hx hb dX8_isVolume_5 (by decide) ?_
    refine lv_icmp_ge (tgt := 25) hx hb dX8_isVolume_7 (by decide) (fun c_3 => ?_) (fun c_3 => ?_)
    · have g_4 : 8 ≤ p0.toInt := z_le (by decide) rfl c_3
      refine lv_iconst (v := 0) hx hb dX8_isVolume_25 (by decide) ?_
      exact W.zret (v := 0) hx hb hr (by decide) (fun t ht hW => ⟨⟨0, (), rfl, Or.inr ⟨rfl, by omega⟩, trivial⟩, hS.F ht⟩) hS.2.2 dX8_isVolume_26
    · have g_4 : p0.toInt < 8 := z_nle (by decide) rfl c_3
      refine lv_aload_n hx hb dX8_isVolume_10 rfl (lv_at hl 0 rfl) ?_
      refine va_get (D := D) (ci := 8) (v := .ref h7) (C := RX8) (T := TX8) (N := 11) hx hb ht inX8 hown hK hP 0 rfl rfl 9 (by decide) (ht (.fieldLink RX8 30 "CloneVolumes$State" "roots" "[I") fl_X8_30) (fun _ h9 => h9) rfl dX8_isVolume_11 ?_
      refine lv_iload_n hx hb dX8_isVolume_14 rfl (lv_at hl 1 rfl) ?_
      refine va_iald hx hb hK hP 1 0 rfl rfl (z_in (by omega) (by omega)) dX8_isVolume_15 ?_
      refine lv_bipush (v := (-2)) hx hb dX8_isVolume_16 (by decide) ?_
      refine lv_icmp_eq (tgt := 25) hx hb dX8_isVolume_18 (by decide) (fun c_5 => ?_) (fun c_5 => ?_)
      · have g_6 : (fR p0.toNatClampNeg).toInt = (-2) := z_eq rfl (by decide) c_5
        refine lv_iconst (v := 0) hx hb dX8_isVolume_25 (by decide) ?_
        exact W.zret (v := 0) hx hb hr (by decide) (fun t ht hW => ⟨⟨0, (), rfl, Or.inr ⟨rfl, by omega⟩, trivial⟩, hS.F ht⟩) hS.2.2 dX8_isVolume_26
      · have g_6 : ¬ (fR p0.toNatClampNeg).toInt = (-2) := z_ne rfl (by decide) c_5
        refine lv_iconst (v := 1) hx hb dX8_isVolume_21 (by decide) ?_
        refine lv_goto (tgt := 26) hx hb dX8_isVolume_22 (by decide) ?_
        exact W.zret (v := 1) hx hb hr (by decide) (fun t ht hW => ⟨⟨1, (), rfl, Or.inl ⟨rfl, by omega⟩, trivial⟩, hS.F ht⟩) hS.2.2 dX8_isVolume_26
set_option maxHeartbeats 4000000 in
set_option maxRecDepth 100000 in
theorem k_X8_inUse (l : Launch) (D : va_G) (h0 h1 h2 h3 h4 h5 h6 h7 h8 nb : Nat) (sp : Int32) (wr : Int64) (fC : Nat → Int32) (p0 : Int32) (h_b : nb ≤ 48)  : Met l yX8_inUse (wz yX8_inUse cX8_inUse 2 (some .boolean)) { frames := 1, cells := 0, slots := 0, locals := 60 } (va_Pc [.ref h0, .int p0] (zP D [(h0, .inr (8, [.int (nI nb), .int sp, .long wr, .ref h1, .ref h2, .ref h3, .ref h4, .ref h5, .ref h6, .ref h7, .ref h8])), (h1, .inl (D.1 13, 48, .inl fC))])) (va_Qi (fun r (_ : Unit) => (r = 1 ∧ (0 ≤ p0.toInt ∧ p0.toInt < (nb : Int) ∧ 0 < (fC p0.toNatClampNeg).toInt)) ∨ (r = 0 ∧ ¬ (0 ≤ p0.toInt ∧ p0.toInt < (nb : Int) ∧ 0 < (fC p0.toNatClampNeg).toInt))) (fun _ _ => True) (fun _ => False)) 0 0 (fun _ => False) := by
  refine Met.ofW (cc := cX8_inUse) (maxL := 2) (ret := (some .boolean)) (by decide) rfl ?_
  intro p e s m args below meth c s₁ B hml hv
  obtain ⟨rfl, hP, hK⟩ := hv
  have hx := B.exec
  have hb := B.bytes
  have hr := B.returns
  have hts := atoms_spec (ws := wz yX8_inUse cX8_inUse 2 (some .boolean)) B.pre
  have ht : ∀ w ∈ lw_gd, w.before _ s = true := fun w h => hts w (List.mem_cons_of_mem _ h)
  have hown : s.vm.findClass RX8 = some m.cls := findClass_of_methodNamed B.named
  have hlocks := B.notSynchronized
  have hS : va_S (fun _ => False) s.heap s.heap [] := va_S.rf
  have zi0 : (0 : Int32).toInt = 0 := rfl
  have zi1 : (1 : Int32).toInt = 1 := rfl
  have zi2 : (2 : Int32).toInt = 2 := rfl
  have zi3 : (3 : Int32).toInt = 3 := rfl
  have zi4 : (4 : Int32).toInt = 4 := rfl
  have hl := lv_entry ([.ref h0, .int p0]) (n := 2) (Nat.le_of_ble_eq_true rfl)
  rw [lg_entry_eq]
  generalize (lg_sl ([.ref h0, .int p0]) ++ List.replicate (2 - (lg_sl ([.ref h0, .int p0])).length) Slot.unset).toArray = ls at hl ⊢
  have hl : lv_has ls 2 [(0, .ref h0), (1, .int p0)] := hl
  refine lv_aload_n hx hb dX8_inUse_0 rfl (lv_at hl 0 rfl) ?_
  refine lv_iload_n hx hb dX8_inUse_1 rfl (lv_at hl 1 rfl) ?_
  refine zcV (As := [.int p0]) (rest := []) (C := RX8) (n := 1) ⟨hx, hb, hml, hown, ht⟩ (k_X8_isBlock l D h0 h1 h2 h3 h4 h5 h6 h7 h8 nb sp wr p0 (by first | decide | omega)) (zgV ml_X8_57 im_X8_isBlock se_X8_isBlock in_X8 co_X8_isBlock) rfl rfl (by decide +kernel) ⟨Nat.le_of_ble_eq_true rfl, Nat.le_of_ble_eq_true rfl⟩ hK hP hS [0] rfl 0 rfl rfl rfl rfl hl.1 rfl (Nat.le_of_ble_eq_true rfl) dX8_inUse_2 ⟨Nat.le_of_ble_eq_true rfl, Nat.le_of_ble_eq_true rfl⟩ (fun r_1 H locs hw hP hS => ?_)
  rcases hw with ⟨rfl, g_2⟩ | ⟨rfl, g_3⟩
  · skip
    refine lv_if_eq (tgt := 21) hx hb dX8_inUse_5 (by decide) (fun c_4 => (z_abs c_4 (by decide)).elim) (fun _ => ?_)
    refine lv_aload_n hx hb dX8_inUse_8 rfl (lv_at hl 0 rfl) ?_
    refine va_get (D := D) (ci := 8) (v := .ref h1) (C := RX8) (T := TX8) (N := 11) hx hb ht inX8 hown hK hP 0 rfl rfl 3 (by decide) (ht (.fieldLink RX8 9 "CloneVolumes$State" "count" "[I") fl_X8_9) (fun _ h9 => h9) rfl dX8_inUse_9 ?_
    refine lv_iload_n hx hb dX8_inUse_12 rfl (lv_at hl 1 rfl) ?_
    refine va_iald hx hb hK hP 1 0 rfl rfl (z_in (by omega) (by omega)) dX8_inUse_13 ?_
    refine lv_if_le (tgt := 21) hx hb dX8_inUse_14 (by decide) (fun c_6 => ?_) (fun c_6 => ?_)
    · have g_7 : (fC p0.toNatClampNeg).toInt ≤ 0 := z_le rfl (by decide) c_6
      refine lv_iconst (v := 0) hx hb dX8_inUse_21 (by decide) ?_
      exact W.zret (v := 0) hx hb hr (by decide) (fun t ht hW => ⟨⟨0, (), rfl, Or.inr ⟨rfl, by omega⟩, trivial⟩, hS.F ht⟩) hS.2.2 dX8_inUse_22
    · have g_7 : 0 < (fC p0.toNatClampNeg).toInt := z_nle rfl (by decide) c_6
      refine lv_iconst (v := 1) hx hb dX8_inUse_17 (by decide) ?_
      refine lv_goto (tgt := 22) hx hb dX8_inUse_18 (by decide) ?_
      exact W.zret (v := 1) hx hb hr (by decide) (fun t ht hW => ⟨⟨1, (), rfl, Or.inl ⟨rfl, by omega⟩, trivial⟩, hS.F ht⟩) hS.2.2 dX8_inUse_22
  · skip
    refine lv_if_eq (tgt := 21) hx hb dX8_inUse_5 (by decide) (fun _ => ?_) (fun c_8 => (z_abs c_8 (by decide)).elim)
    refine lv_iconst (v := 0) hx hb dX8_inUse_21 (by decide) ?_
    exact W.zret (v := 0) hx hb hr (by decide) (fun t ht hW => ⟨⟨0, (), rfl, Or.inr ⟨rfl, by omega⟩, trivial⟩, hS.F ht⟩) hS.2.2 dX8_inUse_22
set_option maxHeartbeats 4000000 in
set_option maxRecDepth 100000 in
theorem k_X8_isHeld (l : Launch) (D : va_G) (h0 h1 h2 h3 h4 h5 h6 h7 h8 nb : Nat) (sp : Int32) (wr : Int64) (fC : Nat → Int32) (fS : Nat → Int32) (p0 : Int32) (h_b : nb ≤ 48)  : Met l yX8_isHeld (wz yX8_isHeld cX8_isHeld 2 (some .boolean)) { frames := 1, cells := 0, slots := 0, locals := 60 } (va_Pc [.ref h0, .int p0] (zP D [(h0, .inr (8, [.int (nI nb), .int sp, .long wr, .ref h1, .ref h2, .ref h3, .ref h4, .ref h5, .ref h6, .ref h7, .ref h8])), (h1, .inl (D.1 13, 48, .inl fC)), (h2, .inl (D.1 13, 48, .inl fS))])) (va_Qi (fun r (_ : Unit) => (r = 1 ∧ (0 ≤ p0.toInt ∧ p0.toInt < (nb : Int) ∧ (fC p0.toNatClampNeg).toInt = 0 ∧ 0 < (fS p0.toNatClampNeg).toInt)) ∨ (r = 0 ∧ ¬ (0 ≤ p0.toInt ∧ p0.toInt < (nb : Int) ∧ (fC p0.toNatClampNeg).toInt = 0 ∧ 0 < (fS p0.toNatClampNeg).toInt))) (fun _ _ => True) (fun _ => False)) 0 0 (fun _ => False) := by
  refine Met.ofW (cc := cX8_isHeld) (maxL := 2) (ret := (some .boolean)) (by decide) rfl ?_
  intro p e s m args below meth c s₁ B hml hv
  obtain ⟨rfl, hP, hK⟩ := hv
  have hx := B.exec
  have hb := B.bytes
  have hr := B.returns
  have hts := atoms_spec (ws := wz yX8_isHeld cX8_isHeld 2 (some .boolean)) B.pre
  have ht : ∀ w ∈ lw_gd, w.before _ s = true := fun w h => hts w (List.mem_cons_of_mem _ h)
  have hown : s.vm.findClass RX8 = some m.cls := findClass_of_methodNamed B.named
  have hlocks := B.notSynchronized
  have hS : va_S (fun _ => False) s.heap s.heap [] := va_S.rf
  have zi0 : (0 : Int32).toInt = 0 := rfl
  have zi1 : (1 : Int32).toInt = 1 := rfl
  have zi2 : (2 : Int32).toInt = 2 := rfl
  have zi3 : (3 : Int32).toInt = 3 := rfl
  have zi4 : (4 : Int32).toInt = 4 := rfl
  have hl := lv_entry ([.ref h0, .int p0]) (n := 2) (Nat.le_of_ble_eq_true rfl)
  rw [lg_entry_eq]
  generalize (lg_sl ([.ref h0, .int p0]) ++ List.replicate (2 - (lg_sl ([.ref h0, .int p0])).length) Slot.unset).toArray = ls at hl ⊢
  have hl : lv_has ls 2 [(0, .ref h0), (1, .int p0)] := hl
  refine lv_aload_n hx hb dX8_isHeld_0 rfl (lv_at hl 0 rfl) ?_
  refine lv_iload_n hx hb dX8_isHeld_1 rfl (lv_at hl 1 rfl) ?_
  refine zcV (As := [.int p0]) (rest := []) (C := RX8) (n := 1) ⟨hx, hb, hml, hown, ht⟩ (k_X8_isBlock l D h0 h1 h2 h3 h4 h5 h6 h7 h8 nb sp wr p0 (by first | decide | omega)) (zgV ml_X8_57 im_X8_isBlock se_X8_isBlock in_X8 co_X8_isBlock) rfl rfl (by decide +kernel) ⟨Nat.le_of_ble_eq_true rfl, Nat.le_of_ble_eq_true rfl⟩ hK hP hS [0] rfl 0 rfl rfl rfl rfl hl.1 rfl (Nat.le_of_ble_eq_true rfl) dX8_isHeld_2 ⟨Nat.le_of_ble_eq_true rfl, Nat.le_of_ble_eq_true rfl⟩ (fun r_1 H locs hw hP hS => ?_)
  rcases hw with ⟨rfl, g_2⟩ | ⟨rfl, g_3⟩
  · skip
    refine lv_if_eq (tgt := 30) hx hb dX8_isHeld_5 (by decide) (fun c_4 => (z_abs c_4 (by decide)).elim) (fun _ => ?_)
    refine lv_aload_n hx hb dX8_isHeld_8 rfl (lv_at hl 0 rfl) ?_
    refine va_get (D := D) (ci := 8) (v := .ref h1) (C := RX8) (T := TX8) (N := 11) hx hb ht inX8 hown hK hP 0 rfl rfl 3 (by decide) (ht (.fieldLink RX8 9 "CloneVolumes$State" "count" "[I") fl_X8_9) (fun _ h9 => h9) rfl dX8_isHeld_9 ?_
    refine lv_iload_n hx hb dX8_isHeld_12 rfl (lv_at hl 1 rfl) ?_
    refine va_iald hx hb hK hP 1 0 rfl rfl (z_in (by omega) (by omega)) dX8_isHeld_13 ?_
    refine lv_if_ne (tgt := 30) hx hb dX8_isHeld_14 (by decide) (fun c_6 => ?_) (fun c_6 => ?_)
    · have g_7 : ¬ (fC p0.toNatClampNeg).toInt = 0 := z_ne rfl (by decide) c_6
      refine lv_iconst (v := 0) hx hb dX8_isHeld_30 (by decide) ?_
      exact W.zret (v := 0) hx hb hr (by decide) (fun t ht hW => ⟨⟨0, (), rfl, Or.inr ⟨rfl, by omega⟩, trivial⟩, hS.F ht⟩) hS.2.2 dX8_isHeld_31
    · have g_7 : (fC p0.toNatClampNeg).toInt = 0 := z_eq rfl (by decide) c_6
      refine lv_aload_n hx hb dX8_isHeld_17 rfl (lv_at hl 0 rfl) ?_
      refine va_get (D := D) (ci := 8) (v := .ref h2) (C := RX8) (T := TX8) (N := 11) hx hb ht inX8 hown hK hP 0 rfl rfl 4 (by decide) (ht (.fieldLink RX8 15 "CloneVolumes$State" "saved" "[I") fl_X8_15) (fun _ h9 => h9) rfl dX8_isHeld_18 ?_
      refine lv_iload_n hx hb dX8_isHeld_21 rfl (lv_at hl 1 rfl) ?_
      refine va_iald hx hb hK hP 2 0 rfl rfl (z_in (by omega) (by omega)) dX8_isHeld_22 ?_
      refine lv_if_le (tgt := 30) hx hb dX8_isHeld_23 (by decide) (fun c_8 => ?_) (fun c_8 => ?_)
      · have g_9 : (fS p0.toNatClampNeg).toInt ≤ 0 := z_le rfl (by decide) c_8
        refine lv_iconst (v := 0) hx hb dX8_isHeld_30 (by decide) ?_
        exact W.zret (v := 0) hx hb hr (by decide) (fun t ht hW => ⟨⟨0, (), rfl, Or.inr ⟨rfl, by omega⟩, trivial⟩, hS.F ht⟩) hS.2.2 dX8_isHeld_31
      · have g_9 : 0 < (fS p0.toNatClampNeg).toInt := z_nle rfl (by decide) c_8
        refine lv_iconst (v := 1) hx hb dX8_isHeld_26 (by decide) ?_
        refine lv_goto (tgt := 31) hx hb dX8_isHeld_27 (by decide) ?_
        exact W.zret (v := 1) hx hb hr (by decide) (fun t ht hW => ⟨⟨1, (), rfl, Or.inl ⟨rfl, by omega⟩, trivial⟩, hS.F ht⟩) hS.2.2 dX8_isHeld_31
  · skip
    refine lv_if_eq (tgt := 30) hx hb dX8_isHeld_5 (by decide) (fun _ => ?_) (fun c_10 => (z_abs c_10 (by decide)).elim)
    refine lv_iconst (v := 0) hx hb dX8_isHeld_30 (by decide) ?_
    exact W.zret (v := 0) hx hb hr (by decide) (fun t ht hW => ⟨⟨0, (), rfl, Or.inr ⟨rfl, by omega⟩, trivial⟩, hS.F ht⟩) hS.2.2 dX8_isHeld_31
set_option maxHeartbeats 4000000 in
set_option maxRecDepth 100000 in
theorem k_X8_isFresh (l : Launch) (D : va_G) (h0 h1 h2 h3 h4 h5 h6 h7 h8 nb : Nat) (sp : Int32) (wr : Int64) (fC : Nat → Int32) (fS : Nat → Int32) (p0 : Int32) (h_b : nb ≤ 48)  : Met l yX8_isFresh (wz yX8_isFresh cX8_isFresh 2 (some .boolean)) { frames := 1, cells := 0, slots := 0, locals := 60 } (va_Pc [.ref h0, .int p0] (zP D [(h0, .inr (8, [.int (nI nb), .int sp, .long wr, .ref h1, .ref h2, .ref h3, .ref h4, .ref h5, .ref h6, .ref h7, .ref h8])), (h1, .inl (D.1 13, 48, .inl fC)), (h2, .inl (D.1 13, 48, .inl fS))])) (va_Qi (fun r (_ : Unit) => (r = 1 ∧ (0 ≤ p0.toInt ∧ p0.toInt < (nb : Int) ∧ 0 < (fC p0.toNatClampNeg).toInt ∧ (fS p0.toNatClampNeg).toInt = 0)) ∨ (r = 0 ∧ ¬ (0 ≤ p0.toInt ∧ p0.toInt < (nb : Int) ∧ 0 < (fC p0.toNatClampNeg).toInt ∧ (fS p0.toNatClampNeg).toInt = 0))) (fun _ _ => True) (fun _ => False)) 0 0 (fun _ => False) := by
  refine Met.ofW (cc := cX8_isFresh) (maxL := 2) (ret := (some .boolean)) (by decide) rfl ?_
  intro p e s m args below meth c s₁ B hml hv
  obtain ⟨rfl, hP, hK⟩ := hv
  have hx := B.exec
  have hb := B.bytes
  have hr := B.returns
  have hts := atoms_spec (ws := wz yX8_isFresh cX8_isFresh 2 (some .boolean)) B.pre
  have ht : ∀ w ∈ lw_gd, w.before _ s = true := fun w h => hts w (List.mem_cons_of_mem _ h)
  have hown : s.vm.findClass RX8 = some m.cls := findClass_of_methodNamed B.named
  have hlocks := B.notSynchronized
  have hS : va_S (fun _ => False) s.heap s.heap [] := va_S.rf
  have zi0 : (0 : Int32).toInt = 0 := rfl
  have zi1 : (1 : Int32).toInt = 1 := rfl
  have zi2 : (2 : Int32).toInt = 2 := rfl
  have zi3 : (3 : Int32).toInt = 3 := rfl
  have zi4 : (4 : Int32).toInt = 4 := rfl
  have hl := lv_entry ([.ref h0, .int p0]) (n := 2) (Nat.le_of_ble_eq_true rfl)
  rw [lg_entry_eq]
  generalize (lg_sl ([.ref h0, .int p0]) ++ List.replicate (2 - (lg_sl ([.ref h0, .int p0])).length) Slot.unset).toArray = ls at hl ⊢
  have hl : lv_has ls 2 [(0, .ref h0), (1, .int p0)] := hl
  refine lv_aload_n hx hb dX8_isFresh_0 rfl (lv_at hl 0 rfl) ?_
  refine lv_iload_n hx hb dX8_isFresh_1 rfl (lv_at hl 1 rfl) ?_
  refine zcV (As := [.int p0]) (rest := []) (C := RX8) (n := 1) ⟨hx, hb, hml, hown, ht⟩ (k_X8_isBlock l D h0 h1 h2 h3 h4 h5 h6 h7 h8 nb sp wr p0 (by first | decide | omega)) (zgV ml_X8_57 im_X8_isBlock se_X8_isBlock in_X8 co_X8_isBlock) rfl rfl (by decide +kernel) ⟨Nat.le_of_ble_eq_true rfl, Nat.le_of_ble_eq_true rfl⟩ hK hP hS [0] rfl 0 rfl rfl rfl rfl hl.1 rfl (Nat.le_of_ble_eq_true rfl) dX8_isFresh_2 ⟨Nat.le_of_ble_eq_true rfl, Nat.le_of_ble_eq_true rfl⟩ (fun r_1 H locs hw hP hS => ?_)
  rcases hw with ⟨rfl, g_2⟩ | ⟨rfl, g_3⟩
  · skip
    refine lv_if_eq (tgt := 30) hx hb dX8_isFresh_5 (by decide) (fun c_4 => (z_abs c_4 (by decide)).elim) (fun _ => ?_)
    refine lv_aload_n hx hb dX8_isFresh_8 rfl (lv_at hl 0 rfl) ?_
    refine va_get (D := D) (ci := 8) (v := .ref h1) (C := RX8) (T := TX8) (N := 11) hx hb ht inX8 hown hK hP 0 rfl rfl 3 (by decide) (ht (.fieldLink RX8 9 "CloneVolumes$State" "count" "[I") fl_X8_9) (fun _ h9 => h9) rfl dX8_isFresh_9 ?_
    refine lv_iload_n hx hb dX8_isFresh_12 rfl (lv_at hl 1 rfl) ?_
    refine va_iald hx hb hK hP 1 0 rfl rfl (z_in (by omega) (by omega)) dX8_isFresh_13 ?_
    refine lv_if_le (tgt := 30) hx hb dX8_isFresh_14 (by decide) (fun c_6 => ?_) (fun c_6 => ?_)
    · have g_7 : (fC p0.toNatClampNeg).toInt ≤ 0 := z_le rfl (by decide) c_6
      refine lv_iconst (v := 0) hx hb dX8_isFresh_30 (by decide) ?_
      exact W.zret (v := 0) hx hb hr (by decide) (fun t ht hW => ⟨⟨0, (), rfl, Or.inr ⟨rfl, by omega⟩, trivial⟩, hS.F ht⟩) hS.2.2 dX8_isFresh_31
    · have g_7 : 0 < (fC p0.toNatClampNeg).toInt := z_nle rfl (by decide) c_6
      refine lv_aload_n hx hb dX8_isFresh_17 rfl (lv_at hl 0 rfl) ?_
      refine va_get (D := D) (ci := 8) (v := .ref h2) (C := RX8) (T := TX8) (N := 11) hx hb ht inX8 hown hK hP 0 rfl rfl 4 (by decide) (ht (.fieldLink RX8 15 "CloneVolumes$State" "saved" "[I") fl_X8_15) (fun _ h9 => h9) rfl dX8_isFresh_18 ?_
      refine lv_iload_n hx hb dX8_isFresh_21 rfl (lv_at hl 1 rfl) ?_
      refine va_iald hx hb hK hP 2 0 rfl rfl (z_in (by omega) (by omega)) dX8_isFresh_22 ?_
      refine lv_if_ne (tgt := 30) hx hb dX8_isFresh_23 (by decide) (fun c_8 => ?_) (fun c_8 => ?_)
      · have g_9 : ¬ (fS p0.toNatClampNeg).toInt = 0 := z_ne rfl (by decide) c_8
        refine lv_iconst (v := 0) hx hb dX8_isFresh_30 (by decide) ?_
        exact W.zret (v := 0) hx hb hr (by decide) (fun t ht hW => ⟨⟨0, (), rfl, Or.inr ⟨rfl, by omega⟩, trivial⟩, hS.F ht⟩) hS.2.2 dX8_isFresh_31
      · have g_9 : (fS p0.toNatClampNeg).toInt = 0 := z_eq rfl (by decide) c_8
        refine lv_iconst (v := 1) hx hb dX8_isFresh_26 (by decide) ?_
        refine lv_goto (tgt := 31) hx hb dX8_isFresh_27 (by decide) ?_
        exact W.zret (v := 1) hx hb hr (by decide) (fun t ht hW => ⟨⟨1, (), rfl, Or.inl ⟨rfl, by omega⟩, trivial⟩, hS.F ht⟩) hS.2.2 dX8_isFresh_31
  · skip
    refine lv_if_eq (tgt := 30) hx hb dX8_isFresh_5 (by decide) (fun _ => ?_) (fun c_10 => (z_abs c_10 (by decide)).elim)
    refine lv_iconst (v := 0) hx hb dX8_isFresh_30 (by decide) ?_
    exact W.zret (v := 0) hx hb hr (by decide) (fun t ht hW => ⟨⟨0, (), rfl, Or.inr ⟨rfl, by omega⟩, trivial⟩, hS.F ht⟩) hS.2.2 dX8_isFresh_31
set_option maxHeartbeats 4000000 in
set_option maxRecDepth 100000 in
theorem k_X8_isFree (l : Launch) (D : va_G) (h0 h1 h2 h3 h4 h5 h6 h7 h8 nb : Nat) (sp : Int32) (wr : Int64) (fC : Nat → Int32) (fS : Nat → Int32) (p0 : Int32) (h_b : nb ≤ 48)  : Met l yX8_isFree (wz yX8_isFree cX8_isFree 2 (some .boolean)) { frames := 1, cells := 0, slots := 0, locals := 60 } (va_Pc [.ref h0, .int p0] (zP D [(h0, .inr (8, [.int (nI nb), .int sp, .long wr, .ref h1, .ref h2, .ref h3, .ref h4, .ref h5, .ref h6, .ref h7, .ref h8])), (h1, .inl (D.1 13, 48, .inl fC)), (h2, .inl (D.1 13, 48, .inl fS))])) (va_Qi (fun r (_ : Unit) => (r = 1 ∧ (0 ≤ p0.toInt ∧ p0.toInt < (nb : Int) ∧ (fC p0.toNatClampNeg).toInt = 0 ∧ (fS p0.toNatClampNeg).toInt = 0)) ∨ (r = 0 ∧ ¬ (0 ≤ p0.toInt ∧ p0.toInt < (nb : Int) ∧ (fC p0.toNatClampNeg).toInt = 0 ∧ (fS p0.toNatClampNeg).toInt = 0))) (fun _ _ => True) (fun _ => False)) 0 0 (fun _ => False) := by
  refine Met.ofW (cc := cX8_isFree) (maxL := 2) (ret := (some .boolean)) (by decide) rfl ?_
  intro p e s m args below meth c s₁ B hml hv
  obtain ⟨rfl, hP, hK⟩ := hv
  have hx := B.exec
  have hb := B.bytes
  have hr := B.returns
  have hts := atoms_spec (ws := wz yX8_isFree cX8_isFree 2 (some .boolean)) B.pre
  have ht : ∀ w ∈ lw_gd, w.before _ s = true := fun w h => hts w (List.mem_cons_of_mem _ h)
  have hown : s.vm.findClass RX8 = some m.cls := findClass_of_methodNamed B.named
  have hlocks := B.notSynchronized
  have hS : va_S (fun _ => False) s.heap s.heap [] := va_S.rf
  have zi0 : (0 : Int32).toInt = 0 := rfl
  have zi1 : (1 : Int32).toInt = 1 := rfl
  have zi2 : (2 : Int32).toInt = 2 := rfl
  have zi3 : (3 : Int32).toInt = 3 := rfl
  have zi4 : (4 : Int32).toInt = 4 := rfl
  have hl := lv_entry ([.ref h0, .int p0]) (n := 2) (Nat.le_of_ble_eq_true rfl)
  rw [lg_entry_eq]
  generalize (lg_sl ([.ref h0, .int p0]) ++ List.replicate (2 - (lg_sl ([.ref h0, .int p0])).length) Slot.unset).toArray = ls at hl ⊢
  have hl : lv_has ls 2 [(0, .ref h0), (1, .int p0)] := hl
  refine lv_aload_n hx hb dX8_isFree_0 rfl (lv_at hl 0 rfl) ?_
  refine lv_iload_n hx hb dX8_isFree_1 rfl (lv_at hl 1 rfl) ?_
  refine zcV (As := [.int p0]) (rest := []) (C := RX8) (n := 1) ⟨hx, hb, hml, hown, ht⟩ (k_X8_isBlock l D h0 h1 h2 h3 h4 h5 h6 h7 h8 nb sp wr p0 (by first | decide | omega)) (zgV ml_X8_57 im_X8_isBlock se_X8_isBlock in_X8 co_X8_isBlock) rfl rfl (by decide +kernel) ⟨Nat.le_of_ble_eq_true rfl, Nat.le_of_ble_eq_true rfl⟩ hK hP hS [0] rfl 0 rfl rfl rfl rfl hl.1 rfl (Nat.le_of_ble_eq_true rfl) dX8_isFree_2 ⟨Nat.le_of_ble_eq_true rfl, Nat.le_of_ble_eq_true rfl⟩ (fun r_1 H locs hw hP hS => ?_)
  rcases hw with ⟨rfl, g_2⟩ | ⟨rfl, g_3⟩
  · skip
    refine lv_if_eq (tgt := 30) hx hb dX8_isFree_5 (by decide) (fun c_4 => (z_abs c_4 (by decide)).elim) (fun _ => ?_)
    refine lv_aload_n hx hb dX8_isFree_8 rfl (lv_at hl 0 rfl) ?_
    refine va_get (D := D) (ci := 8) (v := .ref h1) (C := RX8) (T := TX8) (N := 11) hx hb ht inX8 hown hK hP 0 rfl rfl 3 (by decide) (ht (.fieldLink RX8 9 "CloneVolumes$State" "count" "[I") fl_X8_9) (fun _ h9 => h9) rfl dX8_isFree_9 ?_
    refine lv_iload_n hx hb dX8_isFree_12 rfl (lv_at hl 1 rfl) ?_
    refine va_iald hx hb hK hP 1 0 rfl rfl (z_in (by omega) (by omega)) dX8_isFree_13 ?_
    refine lv_if_ne (tgt := 30) hx hb dX8_isFree_14 (by decide) (fun c_6 => ?_) (fun c_6 => ?_)
    · have g_7 : ¬ (fC p0.toNatClampNeg).toInt = 0 := z_ne rfl (by decide) c_6
      refine lv_iconst (v := 0) hx hb dX8_isFree_30 (by decide) ?_
      exact W.zret (v := 0) hx hb hr (by decide) (fun t ht hW => ⟨⟨0, (), rfl, Or.inr ⟨rfl, by omega⟩, trivial⟩, hS.F ht⟩) hS.2.2 dX8_isFree_31
    · have g_7 : (fC p0.toNatClampNeg).toInt = 0 := z_eq rfl (by decide) c_6
      refine lv_aload_n hx hb dX8_isFree_17 rfl (lv_at hl 0 rfl) ?_
      refine va_get (D := D) (ci := 8) (v := .ref h2) (C := RX8) (T := TX8) (N := 11) hx hb ht inX8 hown hK hP 0 rfl rfl 4 (by decide) (ht (.fieldLink RX8 15 "CloneVolumes$State" "saved" "[I") fl_X8_15) (fun _ h9 => h9) rfl dX8_isFree_18 ?_
      refine lv_iload_n hx hb dX8_isFree_21 rfl (lv_at hl 1 rfl) ?_
      refine va_iald hx hb hK hP 2 0 rfl rfl (z_in (by omega) (by omega)) dX8_isFree_22 ?_
      refine lv_if_ne (tgt := 30) hx hb dX8_isFree_23 (by decide) (fun c_8 => ?_) (fun c_8 => ?_)
      · have g_9 : ¬ (fS p0.toNatClampNeg).toInt = 0 := z_ne rfl (by decide) c_8
        refine lv_iconst (v := 0) hx hb dX8_isFree_30 (by decide) ?_
        exact W.zret (v := 0) hx hb hr (by decide) (fun t ht hW => ⟨⟨0, (), rfl, Or.inr ⟨rfl, by omega⟩, trivial⟩, hS.F ht⟩) hS.2.2 dX8_isFree_31
      · have g_9 : (fS p0.toNatClampNeg).toInt = 0 := z_eq rfl (by decide) c_8
        refine lv_iconst (v := 1) hx hb dX8_isFree_26 (by decide) ?_
        refine lv_goto (tgt := 31) hx hb dX8_isFree_27 (by decide) ?_
        exact W.zret (v := 1) hx hb hr (by decide) (fun t ht hW => ⟨⟨1, (), rfl, Or.inl ⟨rfl, by omega⟩, trivial⟩, hS.F ht⟩) hS.2.2 dX8_isFree_31
  · skip
    refine lv_if_eq (tgt := 30) hx hb dX8_isFree_5 (by decide) (fun _ => ?_) (fun c_10 => (z_abs c_10 (by decide)).elim)
    refine lv_iconst (v := 0) hx hb dX8_isFree_30 (by decide) ?_
    exact W.zret (v := 0) hx hb hr (by decide) (fun t ht hW => ⟨⟨0, (), rfl, Or.inr ⟨rfl, by omega⟩, trivial⟩, hS.F ht⟩) hS.2.2 dX8_isFree_31
set_option maxHeartbeats 4000000 in
set_option maxRecDepth 100000 in
theorem k_X8_levelOf (l : Launch) (D : va_G) (h0 h1 h2 h3 h4 h5 h6 h7 h8 nb : Nat) (sp : Int32) (wr : Int64) (fC : Nat → Int32) (fS : Nat → Int32) (fL : Nat → Int32) (p0 : Int32) (h_b : nb ≤ 48)  : Met l yX8_levelOf (wz yX8_levelOf cX8_levelOf 2 (some .int)) { frames := 2, cells := 0, slots := 0, locals := 120 } (va_Pc [.ref h0, .int p0] (zP D [(h0, .inr (8, [.int (nI nb), .int sp, .long wr, .ref h1, .ref h2, .ref h3, .ref h4, .ref h5, .ref h6, .ref h7, .ref h8])), (h1, .inl (D.1 13, 48, .inl fC)), (h2, .inl (D.1 13, 48, .inl fS)), (h3, .inl (D.1 13, 48, .inl fL))])) (va_Qi (fun r (_ : Unit) => (r = fL p0.toNatClampNeg ∧ (0 ≤ p0.toInt ∧ p0.toInt < (nb : Int) ∧ (0 < (fC p0.toNatClampNeg).toInt ∨ ((fC p0.toNatClampNeg).toInt = 0 ∧ 0 < (fS p0.toNatClampNeg).toInt)))) ∨ (r = 0 ∧ ¬ (0 ≤ p0.toInt ∧ p0.toInt < (nb : Int) ∧ (0 < (fC p0.toNatClampNeg).toInt ∨ ((fC p0.toNatClampNeg).toInt = 0 ∧ 0 < (fS p0.toNatClampNeg).toInt))))) (fun _ _ => True) (fun _ => False)) 0 0 (fun _ => False) := by
  refine Met.ofW (cc := cX8_levelOf) (maxL := 2) (ret := (some .int)) (by decide) rfl ?_
  intro p e s m args below meth c s₁ B hml hv
  obtain ⟨rfl, hP, hK⟩ := hv
  have hx := B.exec
  have hb := B.bytes
  have hr := B.returns
  have hts := atoms_spec (ws := wz yX8_levelOf cX8_levelOf 2 (some .int)) B.pre
  have ht : ∀ w ∈ lw_gd, w.before _ s = true := fun w h => hts w (List.mem_cons_of_mem _ h)
  have hown : s.vm.findClass RX8 = some m.cls := findClass_of_methodNamed B.named
  have hlocks := B.notSynchronized
  have hS : va_S (fun _ => False) s.heap s.heap [] := va_S.rf
  have zi0 : (0 : Int32).toInt = 0 := rfl
  have zi1 : (1 : Int32).toInt = 1 := rfl
  have zi2 : (2 : Int32).toInt = 2 := rfl
  have zi3 : (3 : Int32).toInt = 3 := rfl
  have zi4 : (4 : Int32).toInt = 4 := rfl
  have hl := lv_entry ([.ref h0, .int p0]) (n := 2) (Nat.le_of_ble_eq_true rfl)
  rw [lg_entry_eq]
  generalize (lg_sl ([.ref h0, .int p0]) ++ List.replicate (2 - (lg_sl ([.ref h0, .int p0])).length) Slot.unset).toArray = ls at hl ⊢
  have hl : lv_has ls 2 [(0, .ref h0), (1, .int p0)] := hl
  refine lv_aload_n hx hb dX8_levelOf_0 rfl (lv_at hl 0 rfl) ?_
  refine lv_iload_n hx hb dX8_levelOf_1 rfl (lv_at hl 1 rfl) ?_
  refine zcV (As := [.int p0]) (rest := []) (C := RX8) (n := 1) ⟨hx, hb, hml, hown, ht⟩ (k_X8_inUse l D h0 h1 h2 h3 h4 h5 h6 h7 h8 nb sp wr fC p0 (by first | decide | omega)) (zgV ml_X8_61 im_X8_inUse se_X8_inUse in_X8 co_X8_inUse) rfl rfl (by decide +kernel) ⟨Nat.le_of_ble_eq_true rfl, Nat.le_of_ble_eq_true rfl⟩ hK hP hS [0, 1] rfl 0 rfl rfl rfl rfl hl.1 rfl (Nat.le_of_ble_eq_true rfl) dX8_levelOf_2 ⟨Nat.le_of_ble_eq_true rfl, Nat.le_of_ble_eq_true rfl⟩ (fun r_1 H locs hw hP hS => ?_)
  rcases hw with ⟨rfl, g_2⟩ | ⟨rfl, g_3⟩
  · skip
    refine lv_if_ne (tgt := 16) hx hb dX8_levelOf_5 (by decide) (fun _ => ?_) (fun c_4 => (z_abs c_4 (by decide)).elim)
    refine lv_aload_n hx hb dX8_levelOf_16 rfl (lv_at hl 0 rfl) ?_
    refine va_get (D := D) (ci := 8) (v := .ref h3) (C := RX8) (T := TX8) (N := 11) hx hb ht inX8 hown hK hP 0 rfl rfl 5 (by decide) (ht (.fieldLink RX8 18 "CloneVolumes$State" "level" "[I") fl_X8_18) (fun _ h9 => h9) rfl dX8_levelOf_17 ?_
    refine lv_iload_n hx hb dX8_levelOf_20 rfl (lv_at hl 1 rfl) ?_
    refine va_iald hx hb hK hP 3 0 rfl rfl (z_in (by omega) (by omega)) dX8_levelOf_21 ?_
    refine lv_goto (tgt := 26) hx hb dX8_levelOf_22 (by decide) ?_
    exact W.iret (v := fL p0.toNatClampNeg) hx hb hr (fun t ht hW => ⟨⟨fL p0.toNatClampNeg, (), rfl, Or.inl ⟨rfl, by omega⟩, trivial⟩, hS.F ht⟩) hS.2.2 dX8_levelOf_26
  · skip
    refine lv_if_ne (tgt := 16) hx hb dX8_levelOf_5 (by decide) (fun c_6 => (z_abs c_6 (by decide)).elim) (fun _ => ?_)
    refine lv_aload_n hx hb dX8_levelOf_8 rfl (lv_at hl 0 rfl) ?_
    refine lv_iload_n hx hb dX8_levelOf_9 rfl (lv_at hl 1 rfl) ?_
    refine zcV (As := [.int p0]) (rest := []) (C := RX8) (n := 1) ⟨hx, hb, hml, hown, ht⟩ (k_X8_isHeld l D h0 h1 h2 h3 h4 h5 h6 h7 h8 nb sp wr fC fS p0 (by first | decide | omega)) (zgV ml_X8_64 im_X8_isHeld se_X8_isHeld in_X8 co_X8_isHeld) rfl rfl (by decide +kernel) ⟨Nat.le_of_ble_eq_true rfl, Nat.le_of_ble_eq_true rfl⟩ hK hP hS [0, 1, 2] rfl 0 rfl rfl rfl rfl hl.1 rfl (Nat.le_of_ble_eq_true rfl) dX8_levelOf_10 ⟨Nat.le_of_ble_eq_true rfl, Nat.le_of_ble_eq_true rfl⟩ (fun r_8 H locs hw hP hS => ?_)
    rcases hw with ⟨rfl, g_9⟩ | ⟨rfl, g_10⟩
    · skip
      refine lv_if_eq (tgt := 25) hx hb dX8_levelOf_13 (by decide) (fun c_11 => (z_abs c_11 (by decide)).elim) (fun _ => ?_)
      refine lv_aload_n hx hb dX8_levelOf_16 rfl (lv_at hl 0 rfl) ?_
      refine va_get (D := D) (ci := 8) (v := .ref h3) (C := RX8) (T := TX8) (N := 11) hx hb ht inX8 hown hK hP 0 rfl rfl 5 (by decide) (ht (.fieldLink RX8 18 "CloneVolumes$State" "level" "[I") fl_X8_18) (fun _ h9 => h9) rfl dX8_levelOf_17 ?_
      refine lv_iload_n hx hb dX8_levelOf_20 rfl (lv_at hl 1 rfl) ?_
      refine va_iald hx hb hK hP 3 0 rfl rfl (z_in (by omega) (by omega)) dX8_levelOf_21 ?_
      refine lv_goto (tgt := 26) hx hb dX8_levelOf_22 (by decide) ?_
      exact W.iret (v := fL p0.toNatClampNeg) hx hb hr (fun t ht hW => ⟨⟨fL p0.toNatClampNeg, (), rfl, Or.inl ⟨rfl, by omega⟩, trivial⟩, hS.F ht⟩) hS.2.2 dX8_levelOf_26
    · skip
      refine lv_if_eq (tgt := 25) hx hb dX8_levelOf_13 (by decide) (fun _ => ?_) (fun c_13 => (z_abs c_13 (by decide)).elim)
      refine lv_iconst (v := 0) hx hb dX8_levelOf_25 (by decide) ?_
      exact W.iret (v := 0) hx hb hr (fun t ht hW => ⟨⟨0, (), rfl, Or.inr ⟨rfl, by omega⟩, trivial⟩, hS.F ht⟩) hS.2.2 dX8_levelOf_26
set_option maxHeartbeats 4000000 in
set_option maxRecDepth 100000 in
theorem k_X8_sizeOf (l : Launch) (D : va_G) (h0 h1 h2 h3 h4 h5 h6 h7 h8 nb : Nat) (sp : Int32) (wr : Int64) (fC : Nat → Int32) (fS : Nat → Int32) (fZ : Nat → Int32) (p0 : Int32) (h_b : nb ≤ 48)  : Met l yX8_sizeOf (wz yX8_sizeOf cX8_sizeOf 2 (some .int)) { frames := 2, cells := 0, slots := 0, locals := 120 } (va_Pc [.ref h0, .int p0] (zP D [(h0, .inr (8, [.int (nI nb), .int sp, .long wr, .ref h1, .ref h2, .ref h3, .ref h4, .ref h5, .ref h6, .ref h7, .ref h8])), (h1, .inl (D.1 13, 48, .inl fC)), (h2, .inl (D.1 13, 48, .inl fS)), (h4, .inl (D.1 13, 48, .inl fZ))])) (va_Qi (fun r (_ : Unit) => (r = fZ p0.toNatClampNeg ∧ (0 ≤ p0.toInt ∧ p0.toInt < (nb : Int) ∧ (0 < (fC p0.toNatClampNeg).toInt ∨ ((fC p0.toNatClampNeg).toInt = 0 ∧ 0 < (fS p0.toNatClampNeg).toInt)))) ∨ (r = 0 ∧ ¬ (0 ≤ p0.toInt ∧ p0.toInt < (nb : Int) ∧ (0 < (fC p0.toNatClampNeg).toInt ∨ ((fC p0.toNatClampNeg).toInt = 0 ∧ 0 < (fS p0.toNatClampNeg).toInt))))) (fun _ _ => True) (fun _ => False)) 0 0 (fun _ => False) := by
  refine Met.ofW (cc := cX8_sizeOf) (maxL := 2) (ret := (some .int)) (by decide) rfl ?_
  intro p e s m args below meth c s₁ B hml hv
  obtain ⟨rfl, hP, hK⟩ := hv
  have hx := B.exec
  have hb := B.bytes
  have hr := B.returns
  have hts := atoms_spec (ws := wz yX8_sizeOf cX8_sizeOf 2 (some .int)) B.pre
  have ht : ∀ w ∈ lw_gd, w.before _ s = true := fun w h => hts w (List.mem_cons_of_mem _ h)
  have hown : s.vm.findClass RX8 = some m.cls := findClass_of_methodNamed B.named
  have hlocks := B.notSynchronized
  have hS : va_S (fun _ => False) s.heap s.heap [] := va_S.rf
  have zi0 : (0 : Int32).toInt = 0 := rfl
  have zi1 : (1 : Int32).toInt = 1 := rfl
  have zi2 : (2 : Int32).toInt = 2 := rfl
  have zi3 : (3 : Int32).toInt = 3 := rfl
  have zi4 : (4 : Int32).toInt = 4 := rfl
  have hl := lv_entry ([.ref h0, .int p0]) (n := 2) (Nat.le_of_ble_eq_true rfl)
  rw [lg_entry_eq]
  generalize (lg_sl ([.ref h0, .int p0]) ++ List.replicate (2 - (lg_sl ([.ref h0, .int p0])).length) Slot.unset).toArray = ls at hl ⊢
  have hl : lv_has ls 2 [(0, .ref h0), (1, .int p0)] := hl
  refine lv_aload_n hx hb dX8_sizeOf_0 rfl (lv_at hl 0 rfl) ?_
  refine lv_iload_n hx hb dX8_sizeOf_1 rfl (lv_at hl 1 rfl) ?_
  refine zcV (As := [.int p0]) (rest := []) (C := RX8) (n := 1) ⟨hx, hb, hml, hown, ht⟩ (k_X8_inUse l D h0 h1 h2 h3 h4 h5 h6 h7 h8 nb sp wr fC p0 (by first | decide | omega)) (zgV ml_X8_61 im_X8_inUse se_X8_inUse in_X8 co_X8_inUse) rfl rfl (by decide +kernel) ⟨Nat.le_of_ble_eq_true rfl, Nat.le_of_ble_eq_true rfl⟩ hK hP hS [0, 1] rfl 0 rfl rfl rfl rfl hl.1 rfl (Nat.le_of_ble_eq_true rfl) dX8_sizeOf_2 ⟨Nat.le_of_ble_eq_true rfl, Nat.le_of_ble_eq_true rfl⟩ (fun r_1 H locs hw hP hS => ?_)
  rcases hw with ⟨rfl, g_2⟩ | ⟨rfl, g_3⟩
  · skip
    refine lv_if_ne (tgt := 16) hx hb dX8_sizeOf_5 (by decide) (fun _ => ?_) (fun c_4 => (z_abs c_4 (by decide)).elim)
    refine lv_aload_n hx hb dX8_sizeOf_16 rfl (lv_at hl 0 rfl) ?_
    refine va_get (D := D) (ci := 8) (v := .ref h4) (C := RX8) (T := TX8) (N := 11) hx hb ht inX8 hown hK hP 0 rfl rfl 6 (by decide) (ht (.fieldLink RX8 21 "CloneVolumes$State" "size" "[I") fl_X8_21) (fun _ h9 => h9) rfl dX8_sizeOf_17 ?_
    refine lv_iload_n hx hb dX8_sizeOf_20 rfl (lv_at hl 1 rfl) ?_
    refine va_iald hx hb hK hP 3 0 rfl rfl (z_in (by omega) (by omega)) dX8_sizeOf_21 ?_
    refine lv_goto (tgt := 26) hx hb dX8_sizeOf_22 (by decide) ?_
    exact W.iret (v := fZ p0.toNatClampNeg) hx hb hr (fun t ht hW => ⟨⟨fZ p0.toNatClampNeg, (), rfl, Or.inl ⟨rfl, by omega⟩, trivial⟩, hS.F ht⟩) hS.2.2 dX8_sizeOf_26
  · skip
    refine lv_if_ne (tgt := 16) hx hb dX8_sizeOf_5 (by decide) (fun c_6 => (z_abs c_6 (by decide)).elim) (fun _ => ?_)
    refine lv_aload_n hx hb dX8_sizeOf_8 rfl (lv_at hl 0 rfl) ?_
    refine lv_iload_n hx hb dX8_sizeOf_9 rfl (lv_at hl 1 rfl) ?_
    refine zcV (As := [.int p0]) (rest := []) (C := RX8) (n := 1) ⟨hx, hb, hml, hown, ht⟩ (k_X8_isHeld l D h0 h1 h2 h3 h4 h5 h6 h7 h8 nb sp wr fC fS p0 (by first | decide | omega)) (zgV ml_X8_64 im_X8_isHeld se_X8_isHeld in_X8 co_X8_isHeld) rfl rfl (by decide +kernel) ⟨Nat.le_of_ble_eq_true rfl, Nat.le_of_ble_eq_true rfl⟩ hK hP hS [0, 1, 2] rfl 0 rfl rfl rfl rfl hl.1 rfl (Nat.le_of_ble_eq_true rfl) dX8_sizeOf_10 ⟨Nat.le_of_ble_eq_true rfl, Nat.le_of_ble_eq_true rfl⟩ (fun r_8 H locs hw hP hS => ?_)
    rcases hw with ⟨rfl, g_9⟩ | ⟨rfl, g_10⟩
    · skip
      refine lv_if_eq (tgt := 25) hx hb dX8_sizeOf_13 (by decide) (fun c_11 => (z_abs c_11 (by decide)).elim) (fun _ => ?_)
      refine lv_aload_n hx hb dX8_sizeOf_16 rfl (lv_at hl 0 rfl) ?_
      refine va_get (D := D) (ci := 8) (v := .ref h4) (C := RX8) (T := TX8) (N := 11) hx hb ht inX8 hown hK hP 0 rfl rfl 6 (by decide) (ht (.fieldLink RX8 21 "CloneVolumes$State" "size" "[I") fl_X8_21) (fun _ h9 => h9) rfl dX8_sizeOf_17 ?_
      refine lv_iload_n hx hb dX8_sizeOf_20 rfl (lv_at hl 1 rfl) ?_
      refine va_iald hx hb hK hP 3 0 rfl rfl (z_in (by omega) (by omega)) dX8_sizeOf_21 ?_
      refine lv_goto (tgt := 26) hx hb dX8_sizeOf_22 (by decide) ?_
      exact W.iret (v := fZ p0.toNatClampNeg) hx hb hr (fun t ht hW => ⟨⟨fZ p0.toNatClampNeg, (), rfl, Or.inl ⟨rfl, by omega⟩, trivial⟩, hS.F ht⟩) hS.2.2 dX8_sizeOf_26
    · skip
      refine lv_if_eq (tgt := 25) hx hb dX8_sizeOf_13 (by decide) (fun _ => ?_) (fun c_13 => (z_abs c_13 (by decide)).elim)
      refine lv_iconst (v := 0) hx hb dX8_sizeOf_25 (by decide) ?_
      exact W.iret (v := 0) hx hb hr (fun t ht hW => ⟨⟨0, (), rfl, Or.inr ⟨rfl, by omega⟩, trivial⟩, hS.F ht⟩) hS.2.2 dX8_sizeOf_26
