theorem fl_X9_15 : Cond.fieldLink RX9 15 "CloneVolumes$Tape" "length" "I" ∈ lw_gd := zm (List.mem_of_getElem? (i := 235) (by decide +kernel)) rfl
theorem fl_X9_9 : Cond.fieldLink RX9 9 "CloneVolumes$Tape" "bytes" "[I" ∈ lw_gd := zm (List.mem_of_getElem? (i := 232) (by decide +kernel)) rfl
theorem fl_X0_15 : Cond.fieldLink RX0 15 "CloneVolumes$Code" "size" "I" ∈ lw_gd := zm (List.mem_of_getElem? (i := 456) (by decide +kernel)) rfl
theorem fl_X0_9 : Cond.fieldLink RX0 9 "CloneVolumes$Code" "steps" "[I" ∈ lw_gd := zm (List.mem_of_getElem? (i := 454) (by decide +kernel)) rfl
theorem fl_X3_19 : Cond.fieldLink RX3 19 "CloneVolumes$Machine" "top" "I" ∈ lw_gd := zm (List.mem_of_getElem? (i := 631) (by decide +kernel)) rfl
theorem fl_X3_11 : Cond.fieldLink RX3 11 "CloneVolumes$Machine" "stack" "[I" ∈ lw_gd := zm (List.mem_of_getElem? (i := 630) (by decide +kernel)) rfl
theorem dX0_add_0 : decode cX0_add 0 = .ok (.aload_n 0, 1) := by decide +kernel
theorem dX0_add_1 : decode cX0_add 1 = .ok (.getfield 15, 3) := by decide +kernel
theorem dX0_add_4 : decode cX0_add 4 = .ok (.sipush 1600, 3) := by decide +kernel
theorem dX0_add_7 : decode cX0_add 7 = .ok (.if_icmp .ge 23, 3) := by decide +kernel
theorem dX0_add_10 : decode cX0_add 10 = .ok (.aload_n 0, 1) := by decide +kernel
theorem dX0_add_11 : decode cX0_add 11 = .ok (.getfield 9, 3) := by decide +kernel
theorem dX0_add_14 : decode cX0_add 14 = .ok (.aload_n 0, 1) := by decide +kernel
theorem dX0_add_15 : decode cX0_add 15 = .ok (.getfield 15, 3) := by decide +kernel
theorem dX0_add_18 : decode cX0_add 18 = .ok (.iload_n 1, 1) := by decide +kernel
theorem dX0_add_19 : decode cX0_add 19 = .ok (.iastore, 1) := by decide +kernel
theorem dX0_add_20 : decode cX0_add 20 = .ok (.aload_n 0, 1) := by decide +kernel
theorem dX0_add_21 : decode cX0_add 21 = .ok (.dup, 1) := by decide +kernel
theorem dX0_add_22 : decode cX0_add 22 = .ok (.getfield 15, 3) := by decide +kernel
theorem dX0_add_25 : decode cX0_add 25 = .ok (.iconst 1, 1) := by decide +kernel
theorem dX0_add_26 : decode cX0_add 26 = .ok (.iadd, 1) := by decide +kernel
theorem dX0_add_27 : decode cX0_add 27 = .ok (.putfield 15, 3) := by decide +kernel
theorem dX0_add_30 : decode cX0_add 30 = .ok (.return_, 1) := by decide +kernel
theorem dX3_pop_0 : decode cX3_pop 0 = .ok (.aload_n 0, 1) := by decide +kernel
theorem dX3_pop_1 : decode cX3_pop 1 = .ok (.getfield 19, 3) := by decide +kernel
theorem dX3_pop_4 : decode cX3_pop 4 = .ok (.ifCond .gt 5, 3) := by decide +kernel
theorem dX3_pop_7 : decode cX3_pop 7 = .ok (.iconst 0, 1) := by decide +kernel
theorem dX3_pop_8 : decode cX3_pop 8 = .ok (.ireturn, 1) := by decide +kernel
theorem dX3_pop_9 : decode cX3_pop 9 = .ok (.aload_n 0, 1) := by decide +kernel
theorem dX3_pop_10 : decode cX3_pop 10 = .ok (.dup, 1) := by decide +kernel
theorem dX3_pop_11 : decode cX3_pop 11 = .ok (.getfield 19, 3) := by decide +kernel
theorem dX3_pop_14 : decode cX3_pop 14 = .ok (.iconst 1, 1) := by decide +kernel
theorem dX3_pop_15 : decode cX3_pop 15 = .ok (.isub, 1) := by decide +kernel
theorem dX3_pop_16 : decode cX3_pop 16 = .ok (.putfield 19, 3) := by decide +kernel
theorem dX3_pop_19 : decode cX3_pop 19 = .ok (.aload_n 0, 1) := by decide +kernel
theorem dX3_pop_20 : decode cX3_pop 20 = .ok (.getfield 11, 3) := by decide +kernel
theorem dX3_pop_23 : decode cX3_pop 23 = .ok (.aload_n 0, 1) := by decide +kernel
theorem dX3_pop_24 : decode cX3_pop 24 = .ok (.getfield 19, 3) := by decide +kernel
theorem dX3_pop_27 : decode cX3_pop 27 = .ok (.iaload, 1) := by decide +kernel
theorem dX3_pop_28 : decode cX3_pop 28 = .ok (.ireturn, 1) := by decide +kernel
theorem dX3_push_0 : decode cX3_push 0 = .ok (.aload_n 0, 1) := by decide +kernel
theorem dX3_push_1 : decode cX3_push 1 = .ok (.getfield 19, 3) := by decide +kernel
theorem dX3_push_4 : decode cX3_push 4 = .ok (.bipush 64, 2) := by decide +kernel
theorem dX3_push_6 : decode cX3_push 6 = .ok (.if_icmp .ge 23, 3) := by decide +kernel
theorem dX3_push_9 : decode cX3_push 9 = .ok (.aload_n 0, 1) := by decide +kernel
theorem dX3_push_10 : decode cX3_push 10 = .ok (.getfield 11, 3) := by decide +kernel
theorem dX3_push_13 : decode cX3_push 13 = .ok (.aload_n 0, 1) := by decide +kernel
theorem dX3_push_14 : decode cX3_push 14 = .ok (.getfield 19, 3) := by decide +kernel
theorem dX3_push_17 : decode cX3_push 17 = .ok (.iload_n 1, 1) := by decide +kernel
theorem dX3_push_18 : decode cX3_push 18 = .ok (.iastore, 1) := by decide +kernel
theorem dX3_push_19 : decode cX3_push 19 = .ok (.aload_n 0, 1) := by decide +kernel
theorem dX3_push_20 : decode cX3_push 20 = .ok (.dup, 1) := by decide +kernel
theorem dX3_push_21 : decode cX3_push 21 = .ok (.getfield 19, 3) := by decide +kernel
theorem dX3_push_24 : decode cX3_push 24 = .ok (.iconst 1, 1) := by decide +kernel
theorem dX3_push_25 : decode cX3_push 25 = .ok (.iadd, 1) := by decide +kernel
theorem dX3_push_26 : decode cX3_push 26 = .ok (.putfield 19, 3) := by decide +kernel
theorem dX3_push_29 : decode cX3_push 29 = .ok (.return_, 1) := by decide +kernel
theorem dX9_append_0 : decode cX9_append 0 = .ok (.bipush 24, 2) := by decide +kernel
theorem dX9_append_2 : decode cX9_append 2 = .ok (.istore_n 2, 1) := by decide +kernel
theorem dX9_append_3 : decode cX9_append 3 = .ok (.iload_n 2, 1) := by decide +kernel
theorem dX9_append_4 : decode cX9_append 4 = .ok (.ifCond .lt 45, 3) := by decide +kernel
theorem dX9_append_7 : decode cX9_append 7 = .ok (.aload_n 0, 1) := by decide +kernel
theorem dX9_append_8 : decode cX9_append 8 = .ok (.getfield 15, 3) := by decide +kernel
theorem dX9_append_11 : decode cX9_append 11 = .ok (.sipush 1600, 3) := by decide +kernel
theorem dX9_append_14 : decode cX9_append 14 = .ok (.if_icmp .ge 35, 3) := by decide +kernel
theorem dX9_append_17 : decode cX9_append 17 = .ok (.aload_n 0, 1) := by decide +kernel
theorem dX9_append_18 : decode cX9_append 18 = .ok (.getfield 9, 3) := by decide +kernel
theorem dX9_append_21 : decode cX9_append 21 = .ok (.aload_n 0, 1) := by decide +kernel
theorem dX9_append_22 : decode cX9_append 22 = .ok (.getfield 15, 3) := by decide +kernel
theorem dX9_append_25 : decode cX9_append 25 = .ok (.iload_n 1, 1) := by decide +kernel
theorem dX9_append_26 : decode cX9_append 26 = .ok (.iload_n 2, 1) := by decide +kernel
theorem dX9_append_27 : decode cX9_append 27 = .ok (.iushr, 1) := by decide +kernel
theorem dX9_append_28 : decode cX9_append 28 = .ok (.sipush 255, 3) := by decide +kernel
theorem dX9_append_31 : decode cX9_append 31 = .ok (.iand, 1) := by decide +kernel
theorem dX9_append_32 : decode cX9_append 32 = .ok (.iastore, 1) := by decide +kernel
theorem dX9_append_33 : decode cX9_append 33 = .ok (.aload_n 0, 1) := by decide +kernel
theorem dX9_append_34 : decode cX9_append 34 = .ok (.dup, 1) := by decide +kernel
theorem dX9_append_35 : decode cX9_append 35 = .ok (.getfield 15, 3) := by decide +kernel
theorem dX9_append_38 : decode cX9_append 38 = .ok (.iconst 1, 1) := by decide +kernel
theorem dX9_append_39 : decode cX9_append 39 = .ok (.iadd, 1) := by decide +kernel
theorem dX9_append_40 : decode cX9_append 40 = .ok (.putfield 15, 3) := by decide +kernel
theorem dX9_append_43 : decode cX9_append 43 = .ok (.iinc 2 (-8), 3) := by decide +kernel
theorem dX9_append_46 : decode cX9_append 46 = .ok (.goto (-43), 3) := by decide +kernel
theorem dX9_append_49 : decode cX9_append 49 = .ok (.return_, 1) := by decide +kernel
theorem dX9_at_0 : decode cX9_at 0 = .ok (.iload_n 1, 1) := by decide +kernel
theorem dX9_at_1 : decode cX9_at 1 = .ok (.ifCond .lt 20, 3) := by decide +kernel
theorem dX9_at_4 : decode cX9_at 4 = .ok (.iload_n 1, 1) := by decide +kernel
theorem dX9_at_5 : decode cX9_at 5 = .ok (.aload_n 0, 1) := by decide +kernel
theorem dX9_at_6 : decode cX9_at 6 = .ok (.getfield 15, 3) := by decide +kernel
theorem dX9_at_9 : decode cX9_at 9 = .ok (.if_icmp .ge 12, 3) := by decide +kernel
theorem dX9_at_12 : decode cX9_at 12 = .ok (.aload_n 0, 1) := by decide +kernel
theorem dX9_at_13 : decode cX9_at 13 = .ok (.getfield 9, 3) := by decide +kernel
theorem dX9_at_16 : decode cX9_at 16 = .ok (.iload_n 1, 1) := by decide +kernel
theorem dX9_at_17 : decode cX9_at 17 = .ok (.iaload, 1) := by decide +kernel
theorem dX9_at_18 : decode cX9_at 18 = .ok (.goto 4, 3) := by decide +kernel
theorem dX9_at_21 : decode cX9_at 21 = .ok (.iconst (-1), 1) := by decide +kernel
theorem dX9_at_22 : decode cX9_at 22 = .ok (.ireturn, 1) := by decide +kernel
theorem dX9_hasRoom_0 : decode cX9_hasRoom 0 = .ok (.aload_n 0, 1) := by decide +kernel
theorem dX9_hasRoom_1 : decode cX9_hasRoom 1 = .ok (.getfield 15, 3) := by decide +kernel
theorem dX9_hasRoom_4 : decode cX9_hasRoom 4 = .ok (.bipush 20, 2) := by decide +kernel
theorem dX9_hasRoom_6 : decode cX9_hasRoom 6 = .ok (.iadd, 1) := by decide +kernel
theorem dX9_hasRoom_7 : decode cX9_hasRoom 7 = .ok (.sipush 1600, 3) := by decide +kernel
theorem dX9_hasRoom_10 : decode cX9_hasRoom 10 = .ok (.if_icmp .gt 7, 3) := by decide +kernel
theorem dX9_hasRoom_13 : decode cX9_hasRoom 13 = .ok (.iconst 1, 1) := by decide +kernel
theorem dX9_hasRoom_14 : decode cX9_hasRoom 14 = .ok (.goto 4, 3) := by decide +kernel
theorem dX9_hasRoom_17 : decode cX9_hasRoom 17 = .ok (.iconst 0, 1) := by decide +kernel
theorem dX9_hasRoom_18 : decode cX9_hasRoom 18 = .ok (.ireturn, 1) := by decide +kernel
set_option maxHeartbeats 4000000 in
set_option maxRecDepth 100000 in
theorem k_X9_hasRoom (l : Launch) (D : va_G) (h0 h1 n : Nat) (h_n : n ≤ 1600) : Met l yX9_hasRoom (wz yX9_hasRoom cX9_hasRoom 1 (some .boolean)) { frames := 0, cells := 0, slots := 0, locals := 0 } (va_Pc [.ref h0] (zP D [(h0, .inr (9, [.ref h1, .int (nI n)]))])) (va_Qi (fun r (_ : Unit) => (r = 1 ∧ (n + 20 ≤ 1600)) ∨ (r = 0 ∧ ¬ (n + 20 ≤ 1600))) (fun _ _ => True) (fun _ => False)) 0 0 (fun _ => False) := by
  refine Met.ofW (cc := cX9_hasRoom) (maxL := 1) (ret := (some .boolean)) (by decide) rfl ?_
  intro p e s m args below meth c s₁ B hml hv
  obtain ⟨rfl, hP, hK⟩ := hv
  have hx := B.exec
  have hb := B.bytes
  have hr := B.returns
  have hts := atoms_spec (ws := wz yX9_hasRoom cX9_hasRoom 1 (some .boolean)) B.pre
  have ht : ∀ w ∈ lw_gd, w.before _ s = true := fun w h => hts w (List.mem_cons_of_mem _ h)
  have hown : s.vm.findClass RX9 = some m.cls := findClass_of_methodNamed B.named
  have hlocks := B.notSynchronized
  have hS : va_S (fun _ => False) s.heap s.heap [] := va_S.rf
  have zi0 : (0 : Int32).toInt = 0 := rfl
  have zi1 : (1 : Int32).toInt = 1 := rfl
  have zi2 : (2 : Int32).toInt = 2 := rfl
  have zi3 : (3 : Int32).toInt = 3 := rfl
  have zi4 : (4 : Int32).toInt = 4 := rfl
  have hl := lv_entry ([.ref h0]) (n := 1) (Nat.le_of_ble_eq_true rfl)
  rw [lg_entry_eq]
  generalize (lg_sl ([.ref h0]) ++ List.replicate (1 - (lg_sl ([.ref h0])).length) Slot.unset).toArray = ls at hl ⊢
  have hl : lv_has ls 1 [(0, .ref h0)] := hl
  refine lv_aload_n hx hb dX9_hasRoom_0 rfl (lv_at hl 0 rfl) ?_
  refine va_get (D := D) (ci := 9) (v := .int (nI n)) (C := RX9) (T := TX9) (N := 2) hx hb ht inX9 hown hK hP 0 rfl rfl 1 (by decide) (ht (.fieldLink RX9 15 "CloneVolumes$Tape" "length" "I") fl_X9_15) (fun _ h9 => h9) rfl dX9_hasRoom_1 ?_
  refine lv_bipush (v := 20) hx hb dX9_hasRoom_4 (by decide) ?_
  refine lv_iadd hx hb dX9_hasRoom_6 ?_
  refine z_topi (y := nI (n + 20)) (z_nadd n 20) ?_
  refine lv_sipush (v := 1600) hx hb dX9_hasRoom_7 (by decide) ?_
  refine lv_icmp_gt (tgt := 17) hx hb dX9_hasRoom_10 (by decide) (fun c_1 => ?_) (fun c_1 => ?_)
  · have g_2 : 1600 < ((n + 20 : Nat) : Int) := z_lt (by decide) (nI_toInt (by omega)) c_1
    refine lv_iconst (v := 0) hx hb dX9_hasRoom_17 (by decide) ?_
    exact W.zret (v := 0) hx hb hr (by decide) (fun t ht hW => ⟨⟨0, (), rfl, Or.inr ⟨rfl, by omega⟩, trivial⟩, hS.F ht⟩) hS.2.2 dX9_hasRoom_18
  · have g_2 : ((n + 20 : Nat) : Int) ≤ 1600 := z_nlt (by decide) (nI_toInt (by omega)) c_1
    refine lv_iconst (v := 1) hx hb dX9_hasRoom_13 (by decide) ?_
    refine lv_goto (tgt := 18) hx hb dX9_hasRoom_14 (by decide) ?_
    exact W.zret (v := 1) hx hb hr (by decide) (fun t ht hW => ⟨⟨1, (), rfl, Or.inl ⟨rfl, by omega⟩, trivial⟩, hS.F ht⟩) hS.2.2 dX9_hasRoom_18
set_option maxHeartbeats 4000000 in
set_option maxRecDepth 100000 in
theorem k_X9_at (l : Launch) (D : va_G) (h0 h1 n : Nat) (f : Nat → Int32) (p0 : Int32) (h_n : n ≤ 1600) : Met l yX9_at (wz yX9_at cX9_at 2 (some .int)) { frames := 0, cells := 0, slots := 0, locals := 0 } (va_Pc [.ref h0, .int p0] (zP D [(h0, .inr (9, [.ref h1, .int (nI n)])), (h1, .inl (D.1 13, 1600, .inl f))])) (va_Qi (fun r (_ : Unit) => (r = f p0.toNatClampNeg ∧ (0 ≤ p0.toInt ∧ p0.toInt < (n : Int))) ∨ (r = (-1) ∧ ¬ (0 ≤ p0.toInt ∧ p0.toInt < (n : Int)))) (fun _ _ => True) (fun _ => False)) 0 0 (fun _ => False) := by
  refine Met.ofW (cc := cX9_at) (maxL := 2) (ret := (some .int)) (by decide) rfl ?_
  intro p e s m args below meth c s₁ B hml hv
  obtain ⟨rfl, hP, hK⟩ := hv
  have hx := B.exec
  have hb := B.bytes
  have hr := B.returns
  have hts := atoms_spec (ws := wz yX9_at cX9_at 2 (some .int)) B.pre
  have ht : ∀ w ∈ lw_gd, w.before _ s = true := fun w h => hts w (List.mem_cons_of_mem _ h)
  have hown : s.vm.findClass RX9 = some m.cls := findClass_of_methodNamed B.named
  have hlocks := B.notSynchronized
  have hS : va_S (fun _ => False) s.heap s.heap [] := va_S.rf
  have zi0 : (0 : Int32).toInt = 0 := rfl
  have zi1 : (1 : Int32).toInt = 1 := rfl
  have zi2 : (2 : Int32).toInt = 2 := rfl
  have zi3 : (3 : Int32).toInt = 3 := rfl
  have zi4 : (4 : Int32).toInt = 4 := rfl
  have hl := lv_entry ([.ref h0, .int p0]) (n := 2) (Nat.le_of_ble_eq_true rfl)
  rw [lg_entry_eq]
  generalize (lg_sl ([.ref h0, .int p0]) ++ List.replicate (2 - (lg_sl ([.ref h0, .int p0])).length) Slot.unset).toArray = ls at hl ⊢
  have hl : lv_has ls 2 [(0, .ref h0), (1, .int p0)] := hl
  refine lv_iload_n hx hb dX9_at_0 rfl (lv_at hl 1 rfl) ?_
  refine lv_if_lt (tgt := 21) hx hb dX9_at_1 (by decide) (fun c_1 => ?_) (fun c_1 => ?_)
  · have g_2 : p0.toInt < 0 := z_lt rfl (by decide) c_1
    refine lv_iconst (v := (-1)) hx hb dX9_at_21 (by decide) ?_
    exact W.iret (v := (-1)) hx hb hr (fun t ht hW => ⟨⟨(-1), (), rfl, Or.inr ⟨rfl, by omega⟩, trivial⟩, hS.F ht⟩) hS.2.2 dX9_at_22
  · have g_2 : 0 ≤ p0.toInt := z_nlt rfl (by decide) c_1
    refine lv_iload_n hx hb dX9_at_4 rfl (lv_at hl 1 rfl) ?_
    refine lv_aload_n hx hb dX9_at_5 rfl (lv_at hl 0 rfl) ?_
    refine va_get (D := D) (ci := 9) (v := .int (nI n)) (C := RX9) (T := TX9) (N := 2) hx hb ht inX9 hown hK hP 0 rfl rfl 1 (by decide) (ht (.fieldLink RX9 15 "CloneVolumes$Tape" "length" "I") fl_X9_15) (fun _ h9 => h9) rfl dX9_at_6 ?_
    refine lv_icmp_ge (tgt := 21) hx hb dX9_at_9 (by decide) (fun c_3 => ?_) (fun c_3 => ?_)
    · have g_4 : ((n : Nat) : Int) ≤ p0.toInt := z_le (nI_toInt (by omega)) rfl c_3
      refine lv_iconst (v := (-1)) hx hb dX9_at_21 (by decide) ?_
      exact W.iret (v := (-1)) hx hb hr (fun t ht hW => ⟨⟨(-1), (), rfl, Or.inr ⟨rfl, by omega⟩, trivial⟩, hS.F ht⟩) hS.2.2 dX9_at_22
    · have g_4 : p0.toInt < ((n : Nat) : Int) := z_nle (nI_toInt (by omega)) rfl c_3
      refine lv_aload_n hx hb dX9_at_12 rfl (lv_at hl 0 rfl) ?_
      refine va_get (D := D) (ci := 9) (v := .ref h1) (C := RX9) (T := TX9) (N := 2) hx hb ht inX9 hown hK hP 0 rfl rfl 0 (by decide) (ht (.fieldLink RX9 9 "CloneVolumes$Tape" "bytes" "[I") fl_X9_9) (fun _ h9 => h9) rfl dX9_at_13 ?_
      refine lv_iload_n hx hb dX9_at_16 rfl (lv_at hl 1 rfl) ?_
      refine va_iald hx hb hK hP 1 0 rfl rfl (z_in (by omega) (by omega)) dX9_at_17 ?_
      refine lv_goto (tgt := 22) hx hb dX9_at_18 (by decide) ?_
      exact W.iret (v := f p0.toNatClampNeg) hx hb hr (fun t ht hW => ⟨⟨f p0.toNatClampNeg, (), rfl, Or.inl ⟨rfl, by omega⟩, trivial⟩, hS.F ht⟩) hS.2.2 dX9_at_22
set_option maxHeartbeats 4000000 in
set_option maxRecDepth 100000 in
theorem k_X9_append (l : Launch) (D : va_G) (sz : Nat) (h0 h1 n : Nat) (f : Nat → Int32) (p0 : Int32) (h_n : n ≤ 1600) : Met l yX9_append (wz yX9_append cX9_append 3 none) { frames := 0, cells := 0, slots := 0, locals := 0 } (va_Pc [.ref h0, .int p0] (zW D sz [(h0, .inr (9, [.ref h1, .int (nI n)])), (h1, .inl (D.1 13, 1600, .inl f))])) (va_Qv (fun (u : ((Nat) × (Nat → Int32))) => u.1 ≤ 1600 ∧ n ≤ u.1 ∧ (n + 4 ≤ 1600 → u.1 = n + 4)) (fun u t => zB D (va_A [(h0, .inr (9, [.ref h1, .int (nI n)])), (h1, .inl (D.1 13, 1600, .inl f))] sz) ((fun (u : ((Nat) × (Nat → Int32))) => [(h0, .inr (9, [.ref h1, .int (nI u.1)])), (h1, .inl (D.1 13, 1600, .inl u.2))]) u) t) (va_A [(h0, .inr (9, [.ref h1, .int (nI n)])), (h1, .inl (D.1 13, 1600, .inl f))] sz)) 0 0 (va_A [(h0, .inr (9, [.ref h1, .int (nI n)])), (h1, .inl (D.1 13, 1600, .inl f))] sz) := by
  refine Met.ofW (cc := cX9_append) (maxL := 3) (ret := none) (by decide) rfl ?_
  intro p e s m args below meth c s₁ B hml hv
  obtain ⟨rfl, hsz, hP, hK, hD0⟩ := hv
  have hx := B.exec
  have hb := B.bytes
  have hr := B.returns
  have hts := atoms_spec (ws := wz yX9_append cX9_append 3 none) B.pre
  have ht : ∀ w ∈ lw_gd, w.before _ s = true := fun w h => hts w (List.mem_cons_of_mem _ h)
  have hown : s.vm.findClass RX9 = some m.cls := findClass_of_methodNamed B.named
  have hlocks := B.notSynchronized
  subst hsz
  have hD := hD0.self (sz := s.heap.size)
  generalize hAe : va_A [(h0, .inr (9, [.ref h1, .int (nI n)])), (h1, .inl (D.1 13, 1600, .inl f))] s.heap.size = A at hD ⊢
  have hA : ∀ q : Nat, s.heap.size ≤ q → A q := fun q h => by rw [← hAe]; exact Or.inr h
  have hS : va_S A s.heap s.heap [] := va_S.rf
  have zi0 : (0 : Int32).toInt = 0 := rfl
  have zi1 : (1 : Int32).toInt = 1 := rfl
  have zi2 : (2 : Int32).toInt = 2 := rfl
  have zi3 : (3 : Int32).toInt = 3 := rfl
  have zi4 : (4 : Int32).toInt = 4 := rfl
  have hl := lv_entry ([.ref h0, .int p0]) (n := 3) (Nat.le_of_ble_eq_true rfl)
  rw [lg_entry_eq]
  generalize (lg_sl ([.ref h0, .int p0]) ++ List.replicate (3 - (lg_sl ([.ref h0, .int p0])).length) Slot.unset).toArray = ls at hl ⊢
  have hl : lv_has ls 3 [(0, .ref h0), (1, .int p0)] := hl
  refine lv_bipush (v := 24) hx hb dX9_append_0 (by decide) ?_
  refine lv_istore_n (lv' := [(2, .int 24), (0, .ref h0), (1, .int p0)]) hx hb dX9_append_2 rfl hl (by decide) rfl (fun ls hl => ?_)
  refine lv_iload_n hx hb dX9_append_3 rfl (lv_at hl 0 rfl) ?_
  refine lv_if_lt (tgt := 49) hx hb dX9_append_4 (by decide) (fun c_1 => (z_abs c_1 (by decide)).elim) (fun _ => ?_)
  refine lv_aload_n hx hb dX9_append_7 rfl (lv_at hl 1 rfl) ?_
  refine va_get (D := D) (ci := 9) (v := .int (nI n)) (C := RX9) (T := TX9) (N := 2) hx hb ht inX9 hown hK hP 0 rfl rfl 1 (by decide) (ht (.fieldLink RX9 15 "CloneVolumes$Tape" "length" "I") fl_X9_15) (fun _ h9 => h9) rfl dX9_append_8 ?_
  refine lv_sipush (v := 1600) hx hb dX9_append_11 (by decide) ?_
  refine lv_icmp_ge (tgt := 49) hx hb dX9_append_14 (by decide) (fun c_3 => ?_) (fun c_3 => ?_)
  · have g_4 : 1600 ≤ ((n : Nat) : Int) := z_le (by decide) (nI_toInt (by omega)) c_3
    have hP9 := hP.sub (ws' := [(h0, .inr (9, [.ref h1, .int (nI n)])), (h1, .inl (D.1 13, 1600, .inl f))]) [0, 1] rfl
    have hD9 := hD.sub (ws' := [(h0, .inr (9, [.ref h1, .int (nI n)])), (h1, .inl (D.1 13, 1600, .inl f))]) [0, 1] (by decide) rfl
    refine W.widen (k := 0) (n := 0) (Nat.le_of_ble_eq_true rfl) (Nat.le_of_ble_eq_true rfl) ?_
    exact W.vret hx hb hr (fun t ht hW => ⟨⟨(n, f), rfl, (by first | omega | (dsimp only; omega)), by rw [ht]; exact hP9, va_K.moved hW.alike hK, hD9⟩, hS.F ht⟩) hS.2.2 dX9_append_49
  · have g_4 : ((n : Nat) : Int) < 1600 := z_nle (by decide) (nI_toInt (by omega)) c_3
    refine lv_aload_n hx hb dX9_append_17 rfl (lv_at hl 1 rfl) ?_
    refine va_get (D := D) (ci := 9) (v := .ref h1) (C := RX9) (T := TX9) (N := 2) hx hb ht inX9 hown hK hP 0 rfl rfl 0 (by decide) (ht (.fieldLink RX9 9 "CloneVolumes$Tape" "bytes" "[I") fl_X9_9) (fun _ h9 => h9) rfl dX9_append_18 ?_
    refine lv_aload_n hx hb dX9_append_21 rfl (lv_at hl 1 rfl) ?_
    refine va_get (D := D) (ci := 9) (v := .int (nI n)) (C := RX9) (T := TX9) (N := 2) hx hb ht inX9 hown hK hP 0 rfl rfl 1 (by decide) (ht (.fieldLink RX9 15 "CloneVolumes$Tape" "length" "I") fl_X9_15) (fun _ h9 => h9) rfl dX9_append_22 ?_
    refine lv_iload_n hx hb dX9_append_25 rfl (lv_at hl 2 rfl) ?_
    refine lv_iload_n hx hb dX9_append_26 rfl (lv_at hl 0 rfl) ?_
    obtain ⟨x_5, ex_5⟩ : ∃ z : Int32, (p0.toUInt32 >>> ((24 : Int32).toUInt32 &&& Int32.toUInt32 31)).toInt32 = z := ⟨_, rfl⟩
    refine lv_iushr (v := x_5) hx hb dX9_append_27 ex_5 ?_
    refine lv_sipush (v := 255) hx hb dX9_append_28 (by decide) ?_
    refine lv_iand hx hb dX9_append_31 ?_
    refine lv_topi (fun x_6 ex_6 => ?_)
    refine va_iast hx hb hK hP hD hS 1 0 rfl rfl (vp_in_nI (by omega) (by omega)) dX9_append_32 (fun H locs hP hD hS => ?_)
    generalize hf_7 : upd _ _ _ = f_7 at hP hD
    have hP : va_P D vwCl [(h0, .inr (9, [.ref h1, .int (nI n)])), (h1, .inl (D.1 13, 1600, .inl f_7))] H := hP
    have hD : va_D A [(h0, .inr (9, [.ref h1, .int (nI n)])), (h1, .inl (D.1 13, 1600, .inl f_7))] := hD
    refine lv_aload_n hx hb dX9_append_33 rfl (lv_at hl 1 rfl) ?_
    refine lv_dup hx hb dX9_append_34 rfl ?_
    refine va_get (D := D) (ci := 9) (v := .int (nI n)) (C := RX9) (T := TX9) (N := 2) hx hb ht inX9 hown hK hP 0 rfl rfl 1 (by decide) (ht (.fieldLink RX9 15 "CloneVolumes$Tape" "length" "I") fl_X9_15) (fun _ h9 => h9) rfl dX9_append_35 ?_
    refine lv_iconst (v := 1) hx hb dX9_append_38 (by decide) ?_
    refine lv_iadd hx hb dX9_append_39 ?_
    refine z_topi (y := nI (n + 1)) (z_nadd n 1) ?_
    refine va_put (D := D) (ci := 9) (v := .int (nI (n + 1))) (ty := .int) (C := RX9) (T := TX9) (N := 2) hx hb ht inX9 tyX9 tyX9_ok nmX9 hown hK hP hD hS 0 rfl rfl 1 (by decide) (ht (.fieldLink RX9 15 "CloneVolumes$Tape" "length" "I") fl_X9_15) (fun _ h9 => h9) rfl (by decide +kernel) rfl rfl (Nat.le_of_ble_eq_true rfl) dX9_append_40 (fun H locs hP hD hS => ?_)
    have hP : va_P D vwCl [(h0, .inr (9, [.ref h1, .int (nI (n + 1))])), (h1, .inl (D.1 13, 1600, .inl f_7))] H := hP
    have hD : va_D A [(h0, .inr (9, [.ref h1, .int (nI (n + 1))])), (h1, .inl (D.1 13, 1600, .inl f_7))] := hD
    refine lv_iinc (v := 16) (lv' := [(2, .int 16), (0, .ref h0), (1, .int p0)]) hx hb dX9_append_43 hl (k := 0) rfl (by decide) (by decide) rfl (fun ls hl => ?_)
    refine lv_goto (tgt := 3) hx hb dX9_append_46 (by decide) ?_
    refine lv_iload_n hx hb dX9_append_3 rfl (lv_at hl 0 rfl) ?_
    refine lv_if_lt (tgt := 49) hx hb dX9_append_4 (by decide) (fun c_8 => (z_abs c_8 (by decide)).elim) (fun _ => ?_)
    refine lv_aload_n hx hb dX9_append_7 rfl (lv_at hl 1 rfl) ?_
    refine va_get (D := D) (ci := 9) (v := .int (nI (n + 1))) (C := RX9) (T := TX9) (N := 2) hx hb ht inX9 hown hK hP 0 rfl rfl 1 (by decide) (ht (.fieldLink RX9 15 "CloneVolumes$Tape" "length" "I") fl_X9_15) (fun _ h9 => h9) rfl dX9_append_8 ?_
    refine lv_sipush (v := 1600) hx hb dX9_append_11 (by decide) ?_
    refine lv_icmp_ge (tgt := 49) hx hb dX9_append_14 (by decide) (fun c_10 => ?_) (fun c_10 => ?_)
    · have g_11 : 1600 ≤ ((n + 1 : Nat) : Int) := z_le (by decide) (nI_toInt (by omega)) c_10
      have hP9 := hP.sub (ws' := [(h0, .inr (9, [.ref h1, .int (nI (n + 1))])), (h1, .inl (D.1 13, 1600, .inl f_7))]) [0, 1] rfl
      have hD9 := hD.sub (ws' := [(h0, .inr (9, [.ref h1, .int (nI (n + 1))])), (h1, .inl (D.1 13, 1600, .inl f_7))]) [0, 1] (by decide) rfl
      refine W.widen (k := 0) (n := 0) (Nat.le_of_ble_eq_true rfl) (Nat.le_of_ble_eq_true rfl) ?_
      exact W.vret hx hb hr (fun t ht hW => ⟨⟨((n + 1), f_7), rfl, (by first | omega | (dsimp only; omega)), by rw [ht]; exact hP9, va_K.moved hW.alike hK, hD9⟩, hS.F ht⟩) hS.2.2 dX9_append_49
    · have g_11 : ((n + 1 : Nat) : Int) < 1600 := z_nle (by decide) (nI_toInt (by omega)) c_10
      refine lv_aload_n hx hb dX9_append_17 rfl (lv_at hl 1 rfl) ?_
      refine va_get (D := D) (ci := 9) (v := .ref h1) (C := RX9) (T := TX9) (N := 2) hx hb ht inX9 hown hK hP 0 rfl rfl 0 (by decide) (ht (.fieldLink RX9 9 "CloneVolumes$Tape" "bytes" "[I") fl_X9_9) (fun _ h9 => h9) rfl dX9_append_18 ?_
      refine lv_aload_n hx hb dX9_append_21 rfl (lv_at hl 1 rfl) ?_
      refine va_get (D := D) (ci := 9) (v := .int (nI (n + 1))) (C := RX9) (T := TX9) (N := 2) hx hb ht inX9 hown hK hP 0 rfl rfl 1 (by decide) (ht (.fieldLink RX9 15 "CloneVolumes$Tape" "length" "I") fl_X9_15) (fun _ h9 => h9) rfl dX9_append_22 ?_
      refine lv_iload_n hx hb dX9_append_25 rfl (lv_at hl 2 rfl) ?_
      refine lv_iload_n hx hb dX9_append_26 rfl (lv_at hl 0 rfl) ?_
      obtain ⟨x_12, ex_12⟩ : ∃ z : Int32, (p0.toUInt32 >>> ((16 : Int32).toUInt32 &&& Int32.toUInt32 31)).toInt32 = z := ⟨_, rfl⟩
      refine lv_iushr (v := x_12) hx hb dX9_append_27 ex_12 ?_
      refine lv_sipush (v := 255) hx hb dX9_append_28 (by decide) ?_
      refine lv_iand hx hb dX9_append_31 ?_
      refine lv_topi (fun x_13 ex_13 => ?_)
      refine va_iast hx hb hK hP hD hS 1 0 rfl rfl (vp_in_nI (by omega) (by omega)) dX9_append_32 (fun H locs hP hD hS => ?_)
      generalize hf_14 : upd _ _ _ = f_14 at hP hD
      have hP : va_P D vwCl [(h0, .inr (9, [.ref h1, .int (nI (n + 1))])), (h1, .inl (D.1 13, 1600, .inl f_14))] H := hP
      have hD : va_D A [(h0, .inr (9, [.ref h1, .int (nI (n + 1))])), (h1, .inl (D.1 13, 1600, .inl f_14))] := hD
      refine lv_aload_n hx hb dX9_append_33 rfl (lv_at hl 1 rfl) ?_
      refine lv_dup hx hb dX9_append_34 rfl ?_
      refine va_get (D := D) (ci := 9) (v := .int (nI (n + 1))) (C := RX9) (T := TX9) (N := 2) hx hb ht inX9 hown hK hP 0 rfl rfl 1 (by decide) (ht (.fieldLink RX9 15 "CloneVolumes$Tape" "length" "I") fl_X9_15) (fun _ h9 => h9) rfl dX9_append_35 ?_
      refine lv_iconst (v := 1) hx hb dX9_append_38 (by decide) ?_
      refine lv_iadd hx hb dX9_append_39 ?_
      refine z_topi (y := nI ((n + 1) + 1)) (z_nadd (n + 1) 1) ?_
      refine va_put (D := D) (ci := 9) (v := .int (nI ((n + 1) + 1))) (ty := .int) (C := RX9) (T := TX9) (N := 2) hx hb ht inX9 tyX9 tyX9_ok nmX9 hown hK hP hD hS 0 rfl rfl 1 (by decide) (ht (.fieldLink RX9 15 "CloneVolumes$Tape" "length" "I") fl_X9_15) (fun _ h9 => h9) rfl (by decide +kernel) rfl rfl (Nat.le_of_ble_eq_true rfl) dX9_append_40 (fun H locs hP hD hS => ?_)
      have hP : va_P D vwCl [(h0, .inr (9, [.ref h1, .int (nI ((n + 1) + 1))])), (h1, .inl (D.1 13, 1600, .inl f_14))] H := hP
      have hD : va_D A [(h0, .inr (9, [.ref h1, .int (nI ((n + 1) + 1))])), (h1, .inl (D.1 13, 1600, .inl f_14))] := hD
      refine lv_iinc (v := 8) (lv' := [(2, .int 8), (0, .ref h0), (1, .int p0)]) hx hb dX9_append_43 hl (k := 0) rfl (by decide) (by decide) rfl (fun ls hl => ?_)
      refine lv_goto (tgt := 3) hx hb dX9_append_46 (by decide) ?_
      refine lv_iload_n hx hb dX9_append_3 rfl (lv_at hl 0 rfl) ?_
      refine lv_if_lt (tgt := 49) hx hb dX9_append_4 (by decide) (fun c_15 => (z_abs c_15 (by decide)).elim) (fun _ => ?_)
      refine lv_aload_n hx hb dX9_append_7 rfl (lv_at hl 1 rfl) ?_
      refine va_get (D := D) (ci := 9) (v := .int (nI ((n + 1) + 1))) (C := RX9) (T := TX9) (N := 2) hx hb ht inX9 hown hK hP 0 rfl rfl 1 (by decide) (ht (.fieldLink RX9 15 "CloneVolumes$Tape" "length" "I") fl_X9_15) (fun _ h9 => h9) rfl dX9_append_8 ?_
      refine lv_sipush (v := 1600) hx hb dX9_append_11 (by decide) ?_
      refine lv_icmp_ge (tgt := 49) hx hb dX9_append_14 (by decide) (fun c_17 => ?_) (fun c_17 => ?_)
      · have g_18 : 1600 ≤ (((n + 1) + 1 : Nat) : Int) := z_le (by decide) (nI_toInt (by omega)) c_17
        have hP9 := hP.sub (ws' := [(h0, .inr (9, [.ref h1, .int (nI ((n + 1) + 1))])), (h1, .inl (D.1 13, 1600, .inl f_14))]) [0, 1] rfl
        have hD9 := hD.sub (ws' := [(h0, .inr (9, [.ref h1, .int (nI ((n + 1) + 1))])), (h1, .inl (D.1 13, 1600, .inl f_14))]) [0, 1] (by decide) rfl
        refine W.widen (k := 0) (n := 0) (Nat.le_of_ble_eq_true rfl) (Nat.le_of_ble_eq_true rfl) ?_
        exact W.vret hx hb hr (fun t ht hW => ⟨⟨(((n + 1) + 1), f_14), rfl, (by first | omega | (dsimp only; omega)), by rw [ht]; exact hP9, va_K.moved hW.alike hK, hD9⟩, hS.F ht⟩) hS.2.2 dX9_append_49
      · have g_18 : (((n + 1) + 1 : Nat) : Int) < 1600 := z_nle (by decide) (nI_toInt (by omega)) c_17
        refine lv_aload_n hx hb dX9_append_17 rfl (lv_at hl 1 rfl) ?_
        refine va_get (D := D) (ci := 9) (v := .ref h1) (C := RX9) (T := TX9) (N := 2) hx hb ht inX9 hown hK hP 0 rfl rfl 0 (by decide) (ht (.fieldLink RX9 9 "CloneVolumes$Tape" "bytes" "[I") fl_X9_9) (fun _ h9 => h9) rfl dX9_append_18 ?_
        refine lv_aload_n hx hb dX9_append_21 rfl (lv_at hl 1 rfl) ?_
        refine va_get (D := D) (ci := 9) (v := .int (nI ((n + 1) + 1))) (C := RX9) (T := TX9) (N := 2) hx hb ht inX9 hown hK hP 0 rfl rfl 1 (by decide) (ht (.fieldLink RX9 15 "CloneVolumes$Tape" "length" "I") fl_X9_15) (fun _ h9 => h9) rfl dX9_append_22 ?_
        refine lv_iload_n hx hb dX9_append_25 rfl (lv_at hl 2 rfl) ?_
        refine lv_iload_n hx hb dX9_append_26 rfl (lv_at hl 0 rfl) ?_
        obtain ⟨x_19, ex_19⟩ : ∃ z : Int32, (p0.toUInt32 >>> ((8 : Int32).toUInt32 &&& Int32.toUInt32 31)).toInt32 = z := ⟨_, rfl⟩
        refine lv_iushr (v := x_19) hx hb dX9_append_27 ex_19 ?_
        refine lv_sipush (v := 255) hx hb dX9_append_28 (by decide) ?_
        refine lv_iand hx hb dX9_append_31 ?_
        refine lv_topi (fun x_20 ex_20 => ?_)
        refine va_iast hx hb hK hP hD hS 1 0 rfl rfl (vp_in_nI (by omega) (by omega)) dX9_append_32 (fun H locs hP hD hS => ?_)
        generalize hf_21 : upd _ _ _ = f_21 at hP hD
        have hP : va_P D vwCl [(h0, .inr (9, [.ref h1, .int (nI ((n + 1) + 1))])), (h1, .inl (D.1 13, 1600, .inl f_21))] H := hP
        have hD : va_D A [(h0, .inr (9, [.ref h1, .int (nI ((n + 1) + 1))])), (h1, .inl (D.1 13, 1600, .inl f_21))] := hD
        refine lv_aload_n hx hb dX9_append_33 rfl (lv_at hl 1 rfl) ?_
        refine lv_dup hx hb dX9_append_34 rfl ?_
        refine va_get (D := D) (ci := 9) (v := .int (nI ((n + 1) + 1))) (C := RX9) (T := TX9) (N := 2) hx hb ht inX9 hown hK hP 0 rfl rfl 1 (by decide) (ht (.fieldLink RX9 15 "CloneVolumes$Tape" "length" "I") fl_X9_15) (fun _ h9 => h9) rfl dX9_append_35 ?_
        refine lv_iconst (v := 1) hx hb dX9_append_38 (by decide) ?_
        refine lv_iadd hx hb dX9_append_39 ?_
        refine z_topi (y := nI (((n + 1) + 1) + 1)) (z_nadd ((n + 1) + 1) 1) ?_
        refine va_put (D := D) (ci := 9) (v := .int (nI (((n + 1) + 1) + 1))) (ty := .int) (C := RX9) (T := TX9) (N := 2) hx hb ht inX9 tyX9 tyX9_ok nmX9 hown hK hP hD hS 0 rfl rfl 1 (by decide) (ht (.fieldLink RX9 15 "CloneVolumes$Tape" "length" "I") fl_X9_15) (fun _ h9 => h9) rfl (by decide +kernel) rfl rfl (Nat.le_of_ble_eq_true rfl) dX9_append_40 (fun H locs hP hD hS => ?_)
        have hP : va_P D vwCl [(h0, .inr (9, [.ref h1, .int (nI (((n + 1) + 1) + 1))])), (h1, .inl (D.1 13, 1600, .inl f_21))] H := hP
        have hD : va_D A [(h0, .inr (9, [.ref h1, .int (nI (((n + 1) + 1) + 1))])), (h1, .inl (D.1 13, 1600, .inl f_21))] := hD
        refine lv_iinc (v := 0) (lv' := [(2, .int 0), (0, .ref h0), (1, .int p0)]) hx hb dX9_append_43 hl (k := 0) rfl (by decide) (by decide) rfl (fun ls hl => ?_)
        refine lv_goto (tgt := 3) hx hb dX9_append_46 (by decide) ?_
        refine lv_iload_n hx hb dX9_append_3 rfl (lv_at hl 0 rfl) ?_
        refine lv_if_lt (tgt := 49) hx hb dX9_append_4 (by decide) (fun c_22 => (z_abs c_22 (by decide)).elim) (fun _ => ?_)
        refine lv_aload_n hx hb dX9_append_7 rfl (lv_at hl 1 rfl) ?_
        refine va_get (D := D) (ci := 9) (v := .int (nI (((n + 1) + 1) + 1))) (C := RX9) (T := TX9) (N := 2) hx hb ht inX9 hown hK hP 0 rfl rfl 1 (by decide) (ht (.fieldLink RX9 15 "CloneVolumes$Tape" "length" "I") fl_X9_15) (fun _ h9 => h9) rfl dX9_append_8 ?_
        refine lv_sipush (v := 1600) hx hb dX9_append_11 (by decide) ?_
        refine lv_icmp_ge (tgt := 49) hx hb dX9_append_14 (by decide) (fun c_24 => ?_) (fun c_24 => ?_)
        · have g_25 : 1600 ≤ ((((n + 1) + 1) + 1 : Nat) : Int) := z_le (by decide) (nI_toInt (by omega)) c_24
          have hP9 := hP.sub (ws' := [(h0, .inr (9, [.ref h1, .int (nI (((n + 1) + 1) + 1))])), (h1, .inl (D.1 13, 1600, .inl f_21))]) [0, 1] rfl
          have hD9 := hD.sub (ws' := [(h0, .inr (9, [.ref h1, .int (nI (((n + 1) + 1) + 1))])), (h1, .inl (D.1 13, 1600, .inl f_21))]) [0, 1] (by decide) rfl
          refine W.widen (k := 0) (n := 0) (Nat.le_of_ble_eq_true rfl) (Nat.le_of_ble_eq_true rfl) ?_
          exact W.vret hx hb hr (fun t ht hW => ⟨⟨((((n + 1) + 1) + 1), f_21), rfl, (by first | omega | (dsimp only; omega)), by rw [ht]; exact hP9, va_K.moved hW.alike hK, hD9⟩, hS.F ht⟩) hS.2.2 dX9_append_49
        · have g_25 : ((((n + 1) + 1) + 1 : Nat) : Int) < 1600 := z_nle (by decide) (nI_toInt (by omega)) c_24
          refine lv_aload_n hx hb dX9_append_17 rfl (lv_at hl 1 rfl) ?_
          refine va_get (D := D) (ci := 9) (v := .ref h1) (C := RX9) (T := TX9) (N := 2) hx hb ht inX9 hown hK hP 0 rfl rfl 0 (by decide) (ht (.fieldLink RX9 9 "CloneVolumes$Tape" "bytes" "[I") fl_X9_9) (fun _ h9 => h9) rfl dX9_append_18 ?_
          refine lv_aload_n hx hb dX9_append_21 rfl (lv_at hl 1 rfl) ?_
          refine va_get (D := D) (ci := 9) (v := .int (nI (((n + 1) + 1) + 1))) (C := RX9) (T := TX9) (N := 2) hx hb ht inX9 hown hK hP 0 rfl rfl 1 (by decide) (ht (.fieldLink RX9 15 "CloneVolumes$Tape" "length" "I") fl_X9_15) (fun _ h9 => h9) rfl dX9_append_22 ?_
          refine lv_iload_n hx hb dX9_append_25 rfl (lv_at hl 2 rfl) ?_
          refine lv_iload_n hx hb dX9_append_26 rfl (lv_at hl 0 rfl) ?_
          obtain ⟨x_26, ex_26⟩ : ∃ z : Int32, (p0.toUInt32 >>> ((0 : Int32).toUInt32 &&& Int32.toUInt32 31)).toInt32 = z := ⟨_, rfl⟩
          refine lv_iushr (v := x_26) hx hb dX9_append_27 ex_26 ?_
          refine lv_sipush (v := 255) hx hb dX9_append_28 (by decide) ?_
          refine lv_iand hx hb dX9_append_31 ?_
          refine lv_topi (fun x_27 ex_27 => ?_)
          refine va_iast hx hb hK hP hD hS 1 0 rfl rfl (vp_in_nI (by omega) (by omega)) dX9_append_32 (fun H locs hP hD hS => ?_)
          generalize hf_28 : upd _ _ _ = f_28 at hP hD
          have hP : va_P D vwCl [(h0, .inr (9, [.ref h1, .int (nI (((n + 1) + 1) + 1))])), (h1, .inl (D.1 13, 1600, .inl f_28))] H := hP
          have hD : va_D A [(h0, .inr (9, [.ref h1, .int (nI (((n + 1) + 1) + 1))])), (h1, .inl (D.1 13, 1600, .inl f_28))] := hD
          refine lv_aload_n hx hb dX9_append_33 rfl (lv_at hl 1 rfl) ?_
          refine lv_dup hx hb dX9_append_34 rfl ?_
          refine va_get (D := D) (ci := 9) (v := .int (nI (((n + 1) + 1) + 1))) (C := RX9) (T := TX9) (N := 2) hx hb ht inX9 hown hK hP 0 rfl rfl 1 (by decide) (ht (.fieldLink RX9 15 "CloneVolumes$Tape" "length" "I") fl_X9_15) (fun _ h9 => h9) rfl dX9_append_35 ?_
          refine lv_iconst (v := 1) hx hb dX9_append_38 (by decide) ?_
          refine lv_iadd hx hb dX9_append_39 ?_
          refine z_topi (y := nI ((((n + 1) + 1) + 1) + 1)) (z_nadd (((n + 1) + 1) + 1) 1) ?_
          refine va_put (D := D) (ci := 9) (v := .int (nI ((((n + 1) + 1) + 1) + 1))) (ty := .int) (C := RX9) (T := TX9) (N := 2) hx hb ht inX9 tyX9 tyX9_ok nmX9 hown hK hP hD hS 0 rfl rfl 1 (by decide) (ht (.fieldLink RX9 15 "CloneVolumes$Tape" "length" "I") fl_X9_15) (fun _ h9 => h9) rfl (by decide +kernel) rfl rfl (Nat.le_of_ble_eq_true rfl) dX9_append_40 (fun H locs hP hD hS => ?_)
          have hP : va_P D vwCl [(h0, .inr (9, [.ref h1, .int (nI ((((n + 1) + 1) + 1) + 1))])), (h1, .inl (D.1 13, 1600, .inl f_28))] H := hP
          have hD : va_D A [(h0, .inr (9, [.ref h1, .int (nI ((((n + 1) + 1) + 1) + 1))])), (h1, .inl (D.1 13, 1600, .inl f_28))] := hD
          refine lv_iinc (v := (-8)) (lv' := [(2, .int (-8)), (0, .ref h0), (1, .int p0)]) hx hb dX9_append_43 hl (k := 0) rfl (by decide) (by decide) rfl (fun ls hl => ?_)
          refine lv_goto (tgt := 3) hx hb dX9_append_46 (by decide) ?_
          refine lv_iload_n hx hb dX9_append_3 rfl (lv_at hl 0 rfl) ?_
          refine lv_if_lt (tgt := 49) hx hb dX9_append_4 (by decide) (fun _ => ?_) (fun c_29 => (z_abs c_29 (by decide)).elim)
          have hP9 := hP.sub (ws' := [(h0, .inr (9, [.ref h1, .int (nI ((((n + 1) + 1) + 1) + 1))])), (h1, .inl (D.1 13, 1600, .inl f_28))]) [0, 1] rfl
          have hD9 := hD.sub (ws' := [(h0, .inr (9, [.ref h1, .int (nI ((((n + 1) + 1) + 1) + 1))])), (h1, .inl (D.1 13, 1600, .inl f_28))]) [0, 1] (by decide) rfl
          refine W.widen (k := 0) (n := 0) (Nat.le_of_ble_eq_true rfl) (Nat.le_of_ble_eq_true rfl) ?_
          exact W.vret hx hb hr (fun t ht hW => ⟨⟨(((((n + 1) + 1) + 1) + 1), f_28), rfl, (by first | omega | (dsimp only; omega)), by rw [ht]; exact hP9, va_K.moved hW.alike hK, hD9⟩, hS.F ht⟩) hS.2.2 dX9_append_49
set_option maxHeartbeats 4000000 in
set_option maxRecDepth 100000 in
theorem k_X0_add (l : Launch) (D : va_G) (sz : Nat) (h0 h1 n : Nat) (f : Nat → Int32) (p0 : Int32) (h_n : n ≤ 1600) : Met l yX0_add (wz yX0_add cX0_add 2 none) { frames := 0, cells := 0, slots := 0, locals := 0 } (va_Pc [.ref h0, .int p0] (zW D sz [(h0, .inr (0, [.ref h1, .int (nI n)])), (h1, .inl (D.1 13, 1600, .inl f))])) (va_Qv (fun (u : ((Nat) × (Nat → Int32))) => u.1 ≤ 1600) (fun u t => zB D (va_A [(h0, .inr (0, [.ref h1, .int (nI n)])), (h1, .inl (D.1 13, 1600, .inl f))] sz) ((fun (u : ((Nat) × (Nat → Int32))) => [(h0, .inr (0, [.ref h1, .int (nI u.1)])), (h1, .inl (D.1 13, 1600, .inl u.2))]) u) t) (va_A [(h0, .inr (0, [.ref h1, .int (nI n)])), (h1, .inl (D.1 13, 1600, .inl f))] sz)) 0 0 (va_A [(h0, .inr (0, [.ref h1, .int (nI n)])), (h1, .inl (D.1 13, 1600, .inl f))] sz) := by
  refine Met.ofW (cc := cX0_add) (maxL := 2) (ret := none) (by decide) rfl ?_
  intro p e s m args below meth c s₁ B hml hv
  obtain ⟨rfl, hsz, hP, hK, hD0⟩ := hv
  have hx := B.exec
  have hb := B.bytes
  have hr := B.returns
  have hts := atoms_spec (ws := wz yX0_add cX0_add 2 none) B.pre
  have ht : ∀ w ∈ lw_gd, w.before _ s = true := fun w h => hts w (List.mem_cons_of_mem _ h)
  have hown : s.vm.findClass RX0 = some m.cls := findClass_of_methodNamed B.named
  have hlocks := B.notSynchronized
  subst hsz
  have hD := hD0.self (sz := s.heap.size)
  generalize hAe : va_A [(h0, .inr (0, [.ref h1, .int (nI n)])), (h1, .inl (D.1 13, 1600, .inl f))] s.heap.size = A at hD ⊢
  have hA : ∀ q : Nat, s.heap.size ≤ q → A q := fun q h => by rw [← hAe]; exact Or.inr h
  have hS : va_S A s.heap s.heap [] := va_S.rf
  have zi0 : (0 : Int32).toInt = 0 := rfl
  have zi1 : (1 : Int32).toInt = 1 := rfl
  have zi2 : (2 : Int32).toInt = 2 := rfl
  have zi3 : (3 : Int32).toInt = 3 := rfl
  have zi4 : (4 : Int32).toInt = 4 := rfl
  have hl := lv_entry ([.ref h0, .int p0]) (n := 2) (Nat.le_of_ble_eq_true rfl)
  rw [lg_entry_eq]
  generalize (lg_sl ([.ref h0, .int p0]) ++ List.replicate (2 - (lg_sl ([.ref h0, .int p0])).length) Slot.unset).toArray = ls at hl ⊢
  have hl : lv_has ls 2 [(0, .ref h0), (1, .int p0)] := hl
  refine lv_aload_n hx hb dX0_add_0 rfl (lv_at hl 0 rfl) ?_
  refine va_get (D := D) (ci := 0) (v := .int (nI n)) (C := RX0) (T := TX0) (N := 2) hx hb ht inX0 hown hK hP 0 rfl rfl 1 (by decide) (ht (.fieldLink RX0 15 "CloneVolumes$Code" "size" "I") fl_X0_15) (fun _ h9 => h9) rfl dX0_add_1 ?_
  refine lv_sipush (v := 1600) hx hb dX0_add_4 (by decide) ?_
  refine lv_icmp_ge (tgt := 30) hx hb dX0_add_7 (by decide) (fun c_1 => ?_) (fun c_1 => ?_)
  · have g_2 : 1600 ≤ ((n : Nat) : Int) := z_le (by decide) (nI_toInt (by omega)) c_1
    have hP9 := hP.sub (ws' := [(h0, .inr (0, [.ref h1, .int (nI n)])), (h1, .inl (D.1 13, 1600, .inl f))]) [0, 1] rfl
    have hD9 := hD.sub (ws' := [(h0, .inr (0, [.ref h1, .int (nI n)])), (h1, .inl (D.1 13, 1600, .inl f))]) [0, 1] (by decide) rfl
    refine W.widen (k := 0) (n := 0) (Nat.le_of_ble_eq_true rfl) (Nat.le_of_ble_eq_true rfl) ?_
    exact W.vret hx hb hr (fun t ht hW => ⟨⟨(n, f), rfl, (by first | omega | (dsimp only; omega)), by rw [ht]; exact hP9, va_K.moved hW.alike hK, hD9⟩, hS.F ht⟩) hS.2.2 dX0_add_30
  · have g_2 : ((n : Nat) : Int) < 1600 := z_nle (by decide) (nI_toInt (by omega)) c_1
    refine lv_aload_n hx hb dX0_add_10 rfl (lv_at hl 0 rfl) ?_
    refine va_get (D := D) (ci := 0) (v := .ref h1) (C := RX0) (T := TX0) (N := 2) hx hb ht inX0 hown hK hP 0 rfl rfl 0 (by decide) (ht (.fieldLink RX0 9 "CloneVolumes$Code" "steps" "[I") fl_X0_9) (fun _ h9 => h9) rfl dX0_add_11 ?_
    refine lv_aload_n hx hb dX0_add_14 rfl (lv_at hl 0 rfl) ?_
    refine va_get (D := D) (ci := 0) (v := .int (nI n)) (C := RX0) (T := TX0) (N := 2) hx hb ht inX0 hown hK hP 0 rfl rfl 1 (by decide) (ht (.fieldLink RX0 15 "CloneVolumes$Code" "size" "I") fl_X0_15) (fun _ h9 => h9) rfl dX0_add_15 ?_
    refine lv_iload_n hx hb dX0_add_18 rfl (lv_at hl 1 rfl) ?_
    refine va_iast hx hb hK hP hD hS 1 0 rfl rfl (vp_in_nI (by omega) (by omega)) dX0_add_19 (fun H locs hP hD hS => ?_)
    generalize hf_3 : upd _ _ _ = f_3 at hP hD
    have hP : va_P D vwCl [(h0, .inr (0, [.ref h1, .int (nI n)])), (h1, .inl (D.1 13, 1600, .inl f_3))] H := hP
    have hD : va_D A [(h0, .inr (0, [.ref h1, .int (nI n)])), (h1, .inl (D.1 13, 1600, .inl f_3))] := hD
    refine lv_aload_n hx hb dX0_add_20 rfl (lv_at hl 0 rfl) ?_
    refine lv_dup hx hb dX0_add_21 rfl ?_
    refine va_get (D := D) (ci := 0) (v := .int (nI n)) (C := RX0) (T := TX0) (N := 2) hx hb ht inX0 hown hK hP 0 rfl rfl 1 (by decide) (ht (.fieldLink RX0 15 "CloneVolumes$Code" "size" "I") fl_X0_15) (fun _ h9 => h9) rfl dX0_add_22 ?_
    refine lv_iconst (v := 1) hx hb dX0_add_25 (by decide) ?_
    refine lv_iadd hx hb dX0_add_26 ?_
    refine z_topi (y := nI (n + 1)) (z_nadd n 1) ?_
    refine va_put (D := D) (ci := 0) (v := .int (nI (n + 1))) (ty := .int) (C := RX0) (T := TX0) (N := 2) hx hb ht inX0 tyX0 tyX0_ok nmX0 hown hK hP hD hS 0 rfl rfl 1 (by decide) (ht (.fieldLink RX0 15 "CloneVolumes$Code" "size" "I") fl_X0_15) (fun _ h9 => h9) rfl (by decide +kernel) rfl rfl (Nat.le_of_ble_eq_true rfl) dX0_add_27 (fun H locs hP hD hS => ?_)
    have hP : va_P D vwCl [(h0, .inr (0, [.ref h1, .int (nI (n + 1))])), (h1, .inl (D.1 13, 1600, .inl f_3))] H := hP
    have hD : va_D A [(h0, .inr (0, [.ref h1, .int (nI (n + 1))])), (h1, .inl (D.1 13, 1600, .inl f_3))] := hD
    have hP9 := hP.sub (ws' := [(h0, .inr (0, [.ref h1, .int (nI (n + 1))])), (h1, .inl (D.1 13, 1600, .inl f_3))]) [0, 1] rfl
    have hD9 := hD.sub (ws' := [(h0, .inr (0, [.ref h1, .int (nI (n + 1))])), (h1, .inl (D.1 13, 1600, .inl f_3))]) [0, 1] (by decide) rfl
    refine W.widen (k := 0) (n := 0) (Nat.le_of_ble_eq_true rfl) (Nat.le_of_ble_eq_true rfl) ?_
    exact W.vret hx hb hr (fun t ht hW => ⟨⟨((n + 1), f_3), rfl, (by first | omega | (dsimp only; omega)), by rw [ht]; exact hP9, va_K.moved hW.alike hK, hD9⟩, hS.F ht⟩) hS.2.2 dX0_add_30
set_option maxHeartbeats 4000000 in
set_option maxRecDepth 100000 in
theorem k_X3_push (l : Launch) (D : va_G) (sz : Nat) (h0 h1 h2 n : Nat) (m0 m1 m2 m3 m4 m5 m6 : Int32) (f : Nat → Int32) (p0 : Int32) (h_n : n ≤ 64) : Met l yX3_push (wz yX3_push cX3_push 2 none) { frames := 0, cells := 0, slots := 0, locals := 0 } (va_Pc [.ref h0, .int p0] (zW D sz [(h0, .inr (3, [.ref h1, .int (nI n), .int m0, .int m1, .int m2, .int m3, .int m4, .int m5, .int m6, .ref h2])), (h1, .inl (D.1 13, 64, .inl f))])) (va_Qv (fun (u : ((Nat) × (Nat → Int32))) => u.1 ≤ 64) (fun u t => zB D (va_A [(h0, .inr (3, [.ref h1, .int (nI n), .int m0, .int m1, .int m2, .int m3, .int m4, .int m5, .int m6, .ref h2])), (h1, .inl (D.1 13, 64, .inl f))] sz) ((fun (u : ((Nat) × (Nat → Int32))) => [(h0, .inr (3, [.ref h1, .int (nI u.1), .int m0, .int m1, .int m2, .int m3, .int m4, .int m5, .int m6, .ref h2])), (h1, .inl (D.1 13, 64, .inl u.2))]) u) t) (va_A [(h0, .inr (3, [.ref h1, .int (nI n), .int m0, .int m1, .int m2, .int m3, .int m4, .int m5, .int m6, .ref h2])), (h1, .inl (D.1 13, 64, .inl f))] sz)) 0 0 (va_A [(h0, .inr (3, [.ref h1, .int (nI n), .int m0, .int m1, .int m2, .int m3, .int m4, .int m5, .int m6, .ref h2])), (h1, .inl (D.1 13, 64, .inl f))] sz) := by
  refine Met.ofW (cc := cX3_push) (maxL := 2) (ret := none) (by decide) rfl ?_
  intro p e s m args below meth c s₁ B hml hv
  obtain ⟨rfl, hsz, hP, hK, hD0⟩ := hv
  have hx := B.exec
  have hb := B.bytes
  have hr := B.returns
  have hts := atoms_spec (ws := wz yX3_push cX3_push 2 none) B.pre
  have ht : ∀ w ∈ lw_gd, w.before _ s = true := fun w h => hts w (List.mem_cons_of_mem _ h)
  have hown : s.vm.findClass RX3 = some m.cls := findClass_of_methodNamed B.named
  have hlocks := B.notSynchronized
  subst hsz
  have hD := hD0.self (sz := s.heap.size)
  generalize hAe : va_A [(h0, .inr (3, [.ref h1, .int (nI n), .int m0, .int m1, .int m2, .int m3, .int m4, .int m5, .int m6, .ref h2])), (h1, .inl (D.1 13, 64, .inl f))] s.heap.size = A at hD ⊢
  have hA : ∀ q : Nat, s.heap.size ≤ q → A q := fun q h => by rw [← hAe]; exact Or.inr h
  have hS : va_S A s.heap s.heap [] := va_S.rf
  have zi0 : (0 : Int32).toInt = 0 := rfl
  have zi1 : (1 : Int32).toInt = 1 := rfl
  have zi2 : (2 : Int32).toInt = 2 := rfl
  have zi3 : (3 : Int32).toInt = 3 := rfl
  have zi4 : (4 : Int32).toInt = 4 := rfl
  have hl := lv_entry ([.ref h0, .int p0]) (n := 2) (Nat.le_of_ble_eq_true rfl)
  rw [lg_entry_eq]
  generalize (lg_sl ([.ref h0, .int p0]) ++ List.replicate (2 - (lg_sl ([.ref h0, .int p0])).length) Slot.unset).toArray = ls at hl ⊢
  have hl : lv_has ls 2 [(0, .ref h0), (1, .int p0)] := hl
  refine lv_aload_n hx hb dX3_push_0 rfl (lv_at hl 0 rfl) ?_
  refine va_get (D := D) (ci := 3) (v := .int (nI n)) (C := RX3) (T := TX3) (N := 10) hx hb ht inX3 hown hK hP 0 rfl rfl 1 (by decide) (ht (.fieldLink RX3 19 "CloneVolumes$Machine" "top" "I") fl_X3_19) (fun _ h9 => h9) rfl dX3_push_1 ?_
  refine lv_bipush (v := 64) hx hb dX3_push_4 (by decide) ?_
  refine lv_icmp_ge (tgt := 29) hx hb dX3_push_6 (by decide) (fun c_1 => ?_) (fun c_1 => ?_)
  · have g_2 : 64 ≤ ((n : Nat) : Int) := z_le (by decide) (nI_toInt (by omega)) c_1
    have hP9 := hP.sub (ws' := [(h0, .inr (3, [.ref h1, .int (nI n), .int m0, .int m1, .int m2, .int m3, .int m4, .int m5, .int m6, .ref h2])), (h1, .inl (D.1 13, 64, .inl f))]) [0, 1] rfl
    have hD9 := hD.sub (ws' := [(h0, .inr (3, [.ref h1, .int (nI n), .int m0, .int m1, .int m2, .int m3, .int m4, .int m5, .int m6, .ref h2])), (h1, .inl (D.1 13, 64, .inl f))]) [0, 1] (by decide) rfl
    refine W.widen (k := 0) (n := 0) (Nat.le_of_ble_eq_true rfl) (Nat.le_of_ble_eq_true rfl) ?_
    exact W.vret hx hb hr (fun t ht hW => ⟨⟨(n, f), rfl, (by first | omega | (dsimp only; omega)), by rw [ht]; exact hP9, va_K.moved hW.alike hK, hD9⟩, hS.F ht⟩) hS.2.2 dX3_push_29
  · have g_2 : ((n : Nat) : Int) < 64 := z_nle (by decide) (nI_toInt (by omega)) c_1
    refine lv_aload_n hx hb dX3_push_9 rfl (lv_at hl 0 rfl) ?_
    refine va_get (D := D) (ci := 3) (v := .ref h1) (C := RX3) (T := TX3) (N := 10) hx hb ht inX3 hown hK hP 0 rfl rfl 0 (by decide) (ht (.fieldLink RX3 11 "CloneVolumes$Machine" "stack" "[I") fl_X3_11) (fun _ h9 => h9) rfl dX3_push_10 ?_
    refine lv_aload_n hx hb dX3_push_13 rfl (lv_at hl 0 rfl) ?_
    refine va_get (D := D) (ci := 3) (v := .int (nI n)) (C := RX3) (T := TX3) (N := 10) hx hb ht inX3 hown hK hP 0 rfl rfl 1 (by decide) (ht (.fieldLink RX3 19 "CloneVolumes$Machine" "top" "I") fl_X3_19) (fun _ h9 => h9) rfl dX3_push_14 ?_
    refine lv_iload_n hx hb dX3_push_17 rfl (lv_at hl 1 rfl) ?_
    refine va_iast hx hb hK hP hD hS 1 0 rfl rfl (vp_in_nI (by omega) (by omega)) dX3_push_18 (fun H locs hP hD hS => ?_)
    generalize hf_3 : upd _ _ _ = f_3 at hP hD
    have hP : va_P D vwCl [(h0, .inr (3, [.ref h1, .int (nI n), .int m0, .int m1, .int m2, .int m3, .int m4, .int m5, .int m6, .ref h2])), (h1, .inl (D.1 13, 64, .inl f_3))] H := hP
    have hD : va_D A [(h0, .inr (3, [.ref h1, .int (nI n), .int m0, .int m1, .int m2, .int m3, .int m4, .int m5, .int m6, .ref h2])), (h1, .inl (D.1 13, 64, .inl f_3))] := hD
    refine lv_aload_n hx hb dX3_push_19 rfl (lv_at hl 0 rfl) ?_
    refine lv_dup hx hb dX3_push_20 rfl ?_
    refine va_get (D := D) (ci := 3) (v := .int (nI n)) (C := RX3) (T := TX3) (N := 10) hx hb ht inX3 hown hK hP 0 rfl rfl 1 (by decide) (ht (.fieldLink RX3 19 "CloneVolumes$Machine" "top" "I") fl_X3_19) (fun _ h9 => h9) rfl dX3_push_21 ?_
    refine lv_iconst (v := 1) hx hb dX3_push_24 (by decide) ?_
    refine lv_iadd hx hb dX3_push_25 ?_
    refine z_topi (y := nI (n + 1)) (z_nadd n 1) ?_
    refine va_put (D := D) (ci := 3) (v := .int (nI (n + 1))) (ty := .int) (C := RX3) (T := TX3) (N := 10) hx hb ht inX3 tyX3 tyX3_ok nmX3 hown hK hP hD hS 0 rfl rfl 1 (by decide) (ht (.fieldLink RX3 19 "CloneVolumes$Machine" "top" "I") fl_X3_19) (fun _ h9 => h9) rfl (by decide +kernel) rfl rfl (Nat.le_of_ble_eq_true rfl) dX3_push_26 (fun H locs hP hD hS => ?_)
    have hP : va_P D vwCl [(h0, .inr (3, [.ref h1, .int (nI (n + 1)), .int m0, .int m1, .int m2, .int m3, .int m4, .int m5, .int m6, .ref h2])), (h1, .inl (D.1 13, 64, .inl f_3))] H := hP
    have hD : va_D A [(h0, .inr (3, [.ref h1, .int (nI (n + 1)), .int m0, .int m1, .int m2, .int m3, .int m4, .int m5, .int m6, .ref h2])), (h1, .inl (D.1 13, 64, .inl f_3))] := hD
    have hP9 := hP.sub (ws' := [(h0, .inr (3, [.ref h1, .int (nI (n + 1)), .int m0, .int m1, .int m2, .int m3, .int m4, .int m5, .int m6, .ref h2])), (h1, .inl (D.1 13, 64, .inl f_3))]) [0, 1] rfl
    have hD9 := hD.sub (ws' := [(h0, .inr (3, [.ref h1, .int (nI (n + 1)), .int m0, .int m1, .int m2, .int m3, .int m4, .int m5, .int m6, .ref h2])), (h1, .inl (D.1 13, 64, .inl f_3))]) [0, 1] (by decide) rfl
    refine W.widen (k := 0) (n := 0) (Nat.le_of_ble_eq_true rfl) (Nat.le_of_ble_eq_true rfl) ?_
    exact W.vret hx hb hr (fun t ht hW => ⟨⟨((n + 1), f_3), rfl, (by first | omega | (dsimp only; omega)), by rw [ht]; exact hP9, va_K.moved hW.alike hK, hD9⟩, hS.F ht⟩) hS.2.2 dX3_push_29
set_option maxHeartbeats 4000000 in
set_option maxRecDepth 100000 in
theorem k_X3_pop (l : Launch) (D : va_G) (sz : Nat) (h0 h1 h2 n : Nat) (m0 m1 m2 m3 m4 m5 m6 : Int32) (f : Nat → Int32) (h_n : n ≤ 64) : Met l yX3_pop (wz yX3_pop cX3_pop 1 (some .int)) { frames := 0, cells := 0, slots := 0, locals := 0 } (va_Pc [.ref h0] (zW D sz [(h0, .inr (3, [.ref h1, .int (nI n), .int m0, .int m1, .int m2, .int m3, .int m4, .int m5, .int m6, .ref h2])), (h1, .inl (D.1 13, 64, .inl f))])) (va_Qi (fun r (u : (Nat)) => u ≤ 64) (fun u t => zB D (va_A [(h0, .inr (3, [.ref h1, .int (nI n), .int m0, .int m1, .int m2, .int m3, .int m4, .int m5, .int m6, .ref h2])), (h1, .inl (D.1 13, 64, .inl f))] sz) ((fun (u : (Nat)) => [(h0, .inr (3, [.ref h1, .int (nI u), .int m0, .int m1, .int m2, .int m3, .int m4, .int m5, .int m6, .ref h2])), (h1, .inl (D.1 13, 64, .inl f))]) u) t) (va_A [(h0, .inr (3, [.ref h1, .int (nI n), .int m0, .int m1, .int m2, .int m3, .int m4, .int m5, .int m6, .ref h2])), (h1, .inl (D.1 13, 64, .inl f))] sz)) 0 0 (va_A [(h0, .inr (3, [.ref h1, .int (nI n), .int m0, .int m1, .int m2, .int m3, .int m4, .int m5, .int m6, .ref h2])), (h1, .inl (D.1 13, 64, .inl f))] sz) := by
  refine Met.ofW (cc := cX3_pop) (maxL := 1) (ret := (some .int)) (by decide) rfl ?_
  intro p e s m args below meth c s₁ B hml hv
  obtain ⟨rfl, hsz, hP, hK, hD0⟩ := hv
  have hx := B.exec
  have hb := B.bytes
  have hr := B.returns
  have hts := atoms_spec (ws := wz yX3_pop cX3_pop 1 (some .int)) B.pre
  have ht : ∀ w ∈ lw_gd, w.before _ s = true := fun w h => hts w (List.mem_cons_of_mem _ h)
  have hown : s.vm.findClass RX3 = some m.cls := findClass_of_methodNamed B.named
  have hlocks := B.notSynchronized
  subst hsz
  have hD := hD0.self (sz := s.heap.size)
  generalize hAe : va_A [(h0, .inr (3, [.ref h1, .int (nI n), .int m0, .int m1, .int m2, .int m3, .int m4, .int m5, .int m6, .ref h2])), (h1, .inl (D.1 13, 64, .inl f))] s.heap.size = A at hD ⊢
  have hA : ∀ q : Nat, s.heap.size ≤ q → A q := fun q h => by rw [← hAe]; exact Or.inr h
  have hS : va_S A s.heap s.heap [] := va_S.rf
  have zi0 : (0 : Int32).toInt = 0 := rfl
  have zi1 : (1 : Int32).toInt = 1 := rfl
  have zi2 : (2 : Int32).toInt = 2 := rfl
  have zi3 : (3 : Int32).toInt = 3 := rfl
  have zi4 : (4 : Int32).toInt = 4 := rfl
  have hl := lv_entry ([.ref h0]) (n := 1) (Nat.le_of_ble_eq_true rfl)
  rw [lg_entry_eq]
  generalize (lg_sl ([.ref h0]) ++ List.replicate (1 - (lg_sl ([.ref h0])).length) Slot.unset).toArray = ls at hl ⊢
  have hl : lv_has ls 1 [(0, .ref h0)] := hl
  refine lv_aload_n hx hb dX3_pop_0 rfl (lv_at hl 0 rfl) ?_
  refine va_get (D := D) (ci := 3) (v := .int (nI n)) (C := RX3) (T := TX3) (N := 10) hx hb ht inX3 hown hK hP 0 rfl rfl 1 (by decide) (ht (.fieldLink RX3 19 "CloneVolumes$Machine" "top" "I") fl_X3_19) (fun _ h9 => h9) rfl dX3_pop_1 ?_
  refine lv_if_gt (tgt := 9) hx hb dX3_pop_4 (by decide) (fun c_1 => ?_) (fun c_1 => ?_)
  · have g_2 : 0 < ((n : Nat) : Int) := z_lt (by decide) (nI_toInt (by omega)) c_1
    refine lv_aload_n hx hb dX3_pop_9 rfl (lv_at hl 0 rfl) ?_
    refine lv_dup hx hb dX3_pop_10 rfl ?_
    refine va_get (D := D) (ci := 3) (v := .int (nI n)) (C := RX3) (T := TX3) (N := 10) hx hb ht inX3 hown hK hP 0 rfl rfl 1 (by decide) (ht (.fieldLink RX3 19 "CloneVolumes$Machine" "top" "I") fl_X3_19) (fun _ h9 => h9) rfl dX3_pop_11 ?_
    refine lv_iconst (v := 1) hx hb dX3_pop_14 (by decide) ?_
    refine lv_isub hx hb dX3_pop_15 ?_
    refine z_topi (y := nI (n - 1)) (z_nsub (a := n) (b := 1) (by omega)) ?_
    refine va_put (D := D) (ci := 3) (v := .int (nI (n - 1))) (ty := .int) (C := RX3) (T := TX3) (N := 10) hx hb ht inX3 tyX3 tyX3_ok nmX3 hown hK hP hD hS 0 rfl rfl 1 (by decide) (ht (.fieldLink RX3 19 "CloneVolumes$Machine" "top" "I") fl_X3_19) (fun _ h9 => h9) rfl (by decide +kernel) rfl rfl (Nat.le_of_ble_eq_true rfl) dX3_pop_16 (fun H locs hP hD hS => ?_)
    have hP : va_P D vwCl [(h0, .inr (3, [.ref h1, .int (nI (n - 1)), .int m0, .int m1, .int m2, .int m3, .int m4, .int m5, .int m6, .ref h2])), (h1, .inl (D.1 13, 64, .inl f))] H := hP
    have hD : va_D A [(h0, .inr (3, [.ref h1, .int (nI (n - 1)), .int m0, .int m1, .int m2, .int m3, .int m4, .int m5, .int m6, .ref h2])), (h1, .inl (D.1 13, 64, .inl f))] := hD
    refine lv_aload_n hx hb dX3_pop_19 rfl (lv_at hl 0 rfl) ?_
    refine va_get (D := D) (ci := 3) (v := .ref h1) (C := RX3) (T := TX3) (N := 10) hx hb ht inX3 hown hK hP 0 rfl rfl 0 (by decide) (ht (.fieldLink RX3 11 "CloneVolumes$Machine" "stack" "[I") fl_X3_11) (fun _ h9 => h9) rfl dX3_pop_20 ?_
    refine lv_aload_n hx hb dX3_pop_23 rfl (lv_at hl 0 rfl) ?_
    refine va_get (D := D) (ci := 3) (v := .int (nI (n - 1))) (C := RX3) (T := TX3) (N := 10) hx hb ht inX3 hown hK hP 0 rfl rfl 1 (by decide) (ht (.fieldLink RX3 19 "CloneVolumes$Machine" "top" "I") fl_X3_19) (fun _ h9 => h9) rfl dX3_pop_24 ?_
    refine va_iald hx hb hK hP 1 0 rfl rfl (vp_in_nI (by omega) (by omega)) dX3_pop_27 ?_
    refine z_topi (y := f (n - 1)) (by rw [nI_clamp (by omega)]) ?_
    have hP9 := hP.sub (ws' := [(h0, .inr (3, [.ref h1, .int (nI (n - 1)), .int m0, .int m1, .int m2, .int m3, .int m4, .int m5, .int m6, .ref h2])), (h1, .inl (D.1 13, 64, .inl f))]) [0, 1] rfl
    have hD9 := hD.sub (ws' := [(h0, .inr (3, [.ref h1, .int (nI (n - 1)), .int m0, .int m1, .int m2, .int m3, .int m4, .int m5, .int m6, .ref h2])), (h1, .inl (D.1 13, 64, .inl f))]) [0, 1] (by decide) rfl
    refine W.widen (k := 0) (n := 0) (Nat.le_of_ble_eq_true rfl) (Nat.le_of_ble_eq_true rfl) ?_
    exact W.iret (v := f (n - 1)) hx hb hr (fun t ht hW => ⟨⟨f (n - 1), (n - 1), rfl, (by first | omega | (dsimp only; omega)), by rw [ht]; exact hP9, va_K.moved hW.alike hK, hD9⟩, hS.F ht⟩) hS.2.2 dX3_pop_28
  · have g_2 : ((n : Nat) : Int) ≤ 0 := z_nlt (by decide) (nI_toInt (by omega)) c_1
    refine lv_iconst (v := 0) hx hb dX3_pop_7 (by decide) ?_
    have hP9 := hP.sub (ws' := [(h0, .inr (3, [.ref h1, .int (nI n), .int m0, .int m1, .int m2, .int m3, .int m4, .int m5, .int m6, .ref h2])), (h1, .inl (D.1 13, 64, .inl f))]) [0, 1] rfl
    have hD9 := hD.sub (ws' := [(h0, .inr (3, [.ref h1, .int (nI n), .int m0, .int m1, .int m2, .int m3, .int m4, .int m5, .int m6, .ref h2])), (h1, .inl (D.1 13, 64, .inl f))]) [0, 1] (by decide) rfl
    refine W.widen (k := 0) (n := 0) (Nat.le_of_ble_eq_true rfl) (Nat.le_of_ble_eq_true rfl) ?_
    have enr : (0 : Int32).toInt = 0 := by decide
    exact W.iret (v := 0) hx hb hr (fun t ht hW => ⟨⟨0, n, rfl, (by first | omega | (dsimp only; omega)), by rw [ht]; exact hP9, va_K.moved hW.alike hK, hD9⟩, hS.F ht⟩) hS.2.2 dX3_pop_8
