theorem fl_X8_24 : Cond.fieldLink RX8 24 "CloneVolumes$State" "keys" "[I" ∈ lw_gd := zm (List.mem_of_getElem? (i := 582) (by decide +kernel)) rfl
theorem ml_X8_73 : Cond.methodLink RX8 73 yX8_slot ∈ lw_gd := zm (List.mem_of_getElem? (i := 1011) (by decide +kernel)) rfl
theorem im_X8_slot : Cond.instanceMethod yX8_slot ∈ lw_gd := zm (List.mem_of_getElem? (i := 991) (by decide +kernel)) rfl
theorem se_X8_slot : Cond.selects RX8 yX8_slot yX8_slot ∈ lw_gd := zm (List.mem_of_getElem? (i := 992) (by decide +kernel)) rfl
theorem co_X8_slot : Cond.code yX8_slot cX8_slot 3 (some .int) ∈ lw_gd := zm (List.mem_of_getElem? (i := 993) (by decide +kernel)) rfl
theorem fl_X8_27 : Cond.fieldLink RX8 27 "CloneVolumes$State" "values" "[I" ∈ lw_gd := zm (List.mem_of_getElem? (i := 588) (by decide +kernel)) rfl
theorem ml_X8_77 : Cond.methodLink RX8 77 yX8_entryFor ∈ lw_gd := zm (List.mem_of_getElem? (i := 1045) (by decide +kernel)) rfl
theorem im_X8_entryFor : Cond.instanceMethod yX8_entryFor ∈ lw_gd := zm (List.mem_of_getElem? (i := 1018) (by decide +kernel)) rfl
theorem se_X8_entryFor : Cond.selects RX8 yX8_entryFor yX8_entryFor ∈ lw_gd := zm (List.mem_of_getElem? (i := 1019) (by decide +kernel)) rfl
theorem co_X8_entryFor : Cond.code yX8_entryFor cX8_entryFor 5 (some .int) ∈ lw_gd := zm (List.mem_of_getElem? (i := 1020) (by decide +kernel)) rfl
theorem dX8_below_0 : decode cX8_below 0 = .ok (.aload_n 0, 1) := by decide +kernel
theorem dX8_below_1 : decode cX8_below 1 = .ok (.getfield 27, 3) := by decide +kernel
theorem dX8_below_4 : decode cX8_below 4 = .ok (.aload_n 0, 1) := by decide +kernel
theorem dX8_below_5 : decode cX8_below 5 = .ok (.iload_n 1, 1) := by decide +kernel
theorem dX8_below_6 : decode cX8_below 6 = .ok (.aload_n 0, 1) := by decide +kernel
theorem dX8_below_7 : decode cX8_below 7 = .ok (.iload_n 1, 1) := by decide +kernel
theorem dX8_below_8 : decode cX8_below 8 = .ok (.iload_n 2, 1) := by decide +kernel
theorem dX8_below_9 : decode cX8_below 9 = .ok (.invokevirtual 77, 3) := by decide +kernel
theorem dX8_below_12 : decode cX8_below 12 = .ok (.invokevirtual 73, 3) := by decide +kernel
theorem dX8_below_15 : decode cX8_below 15 = .ok (.iaload, 1) := by decide +kernel
theorem dX8_below_16 : decode cX8_below 16 = .ok (.ireturn, 1) := by decide +kernel
theorem dX8_entryFor_0 : decode cX8_entryFor 0 = .ok (.iconst 0, 1) := by decide +kernel
theorem dX8_entryFor_1 : decode cX8_entryFor 1 = .ok (.istore_n 3, 1) := by decide +kernel
theorem dX8_entryFor_2 : decode cX8_entryFor 2 = .ok (.iconst 1, 1) := by decide +kernel
theorem dX8_entryFor_3 : decode cX8_entryFor 3 = .ok (.istore 4, 2) := by decide +kernel
theorem dX8_entryFor_5 : decode cX8_entryFor 5 = .ok (.iload 4, 2) := by decide +kernel
theorem dX8_entryFor_7 : decode cX8_entryFor 7 = .ok (.aload_n 0, 1) := by decide +kernel
theorem dX8_entryFor_8 : decode cX8_entryFor 8 = .ok (.getfield 21, 3) := by decide +kernel
theorem dX8_entryFor_11 : decode cX8_entryFor 11 = .ok (.iload_n 1, 1) := by decide +kernel
theorem dX8_entryFor_12 : decode cX8_entryFor 12 = .ok (.iaload, 1) := by decide +kernel
theorem dX8_entryFor_13 : decode cX8_entryFor 13 = .ok (.if_icmp .ge 28, 3) := by decide +kernel
theorem dX8_entryFor_16 : decode cX8_entryFor 16 = .ok (.aload_n 0, 1) := by decide +kernel
theorem dX8_entryFor_17 : decode cX8_entryFor 17 = .ok (.getfield 24, 3) := by decide +kernel
theorem dX8_entryFor_20 : decode cX8_entryFor 20 = .ok (.aload_n 0, 1) := by decide +kernel
theorem dX8_entryFor_21 : decode cX8_entryFor 21 = .ok (.iload_n 1, 1) := by decide +kernel
theorem dX8_entryFor_22 : decode cX8_entryFor 22 = .ok (.iload 4, 2) := by decide +kernel
theorem dX8_entryFor_24 : decode cX8_entryFor 24 = .ok (.invokevirtual 73, 3) := by decide +kernel
theorem dX8_entryFor_27 : decode cX8_entryFor 27 = .ok (.iaload, 1) := by decide +kernel
theorem dX8_entryFor_28 : decode cX8_entryFor 28 = .ok (.iload_n 2, 1) := by decide +kernel
theorem dX8_entryFor_29 : decode cX8_entryFor 29 = .ok (.if_icmp .gt 6, 3) := by decide +kernel
theorem dX8_entryFor_32 : decode cX8_entryFor 32 = .ok (.iload 4, 2) := by decide +kernel
theorem dX8_entryFor_34 : decode cX8_entryFor 34 = .ok (.istore_n 3, 1) := by decide +kernel
theorem dX8_entryFor_35 : decode cX8_entryFor 35 = .ok (.iinc 4 1, 3) := by decide +kernel
theorem dX8_entryFor_38 : decode cX8_entryFor 38 = .ok (.goto (-33), 3) := by decide +kernel
theorem dX8_entryFor_41 : decode cX8_entryFor 41 = .ok (.iload_n 3, 1) := by decide +kernel
theorem dX8_entryFor_42 : decode cX8_entryFor 42 = .ok (.ireturn, 1) := by decide +kernel
theorem dX8_find_0 : decode cX8_find 0 = .ok (.iconst 0, 1) := by decide +kernel
theorem dX8_find_1 : decode cX8_find 1 = .ok (.istore_n 3, 1) := by decide +kernel
theorem dX8_find_2 : decode cX8_find 2 = .ok (.iload_n 3, 1) := by decide +kernel
theorem dX8_find_3 : decode cX8_find 3 = .ok (.aload_n 0, 1) := by decide +kernel
theorem dX8_find_4 : decode cX8_find 4 = .ok (.getfield 21, 3) := by decide +kernel
theorem dX8_find_7 : decode cX8_find 7 = .ok (.iload_n 1, 1) := by decide +kernel
theorem dX8_find_8 : decode cX8_find 8 = .ok (.iaload, 1) := by decide +kernel
theorem dX8_find_9 : decode cX8_find 9 = .ok (.if_icmp .ge 26, 3) := by decide +kernel
theorem dX8_find_12 : decode cX8_find 12 = .ok (.aload_n 0, 1) := by decide +kernel
theorem dX8_find_13 : decode cX8_find 13 = .ok (.getfield 24, 3) := by decide +kernel
theorem dX8_find_16 : decode cX8_find 16 = .ok (.aload_n 0, 1) := by decide +kernel
theorem dX8_find_17 : decode cX8_find 17 = .ok (.iload_n 1, 1) := by decide +kernel
theorem dX8_find_18 : decode cX8_find 18 = .ok (.iload_n 3, 1) := by decide +kernel
theorem dX8_find_19 : decode cX8_find 19 = .ok (.invokevirtual 73, 3) := by decide +kernel
theorem dX8_find_22 : decode cX8_find 22 = .ok (.iaload, 1) := by decide +kernel
theorem dX8_find_23 : decode cX8_find 23 = .ok (.iload_n 2, 1) := by decide +kernel
theorem dX8_find_24 : decode cX8_find 24 = .ok (.if_icmp .ne 5, 3) := by decide +kernel
theorem dX8_find_27 : decode cX8_find 27 = .ok (.iload_n 3, 1) := by decide +kernel
theorem dX8_find_28 : decode cX8_find 28 = .ok (.ireturn, 1) := by decide +kernel
theorem dX8_find_29 : decode cX8_find 29 = .ok (.iinc 3 1, 3) := by decide +kernel
theorem dX8_find_32 : decode cX8_find 32 = .ok (.goto (-30), 3) := by decide +kernel
theorem dX8_find_35 : decode cX8_find 35 = .ok (.iconst (-1), 1) := by decide +kernel
theorem dX8_find_36 : decode cX8_find 36 = .ok (.ireturn, 1) := by decide +kernel
set_option maxHeartbeats 4000000 in
set_option maxRecDepth 100000 in
theorem k_X8_slot2 (l : Launch) (D : va_G) (h0 h1 h2 h3 h4 h5 h6 h7 h8 nb : Nat) (sp : Int32) (wr : Int64) (b : Nat) (k : Nat) (h_b : nb ≤ 48) (h_1 : b < 48) (h_2 : k ≤ 48) : Met l yX8_slot (wz yX8_slot cX8_slot 3 (some .int)) { frames := 0, cells := 0, slots := 0, locals := 0 } (va_Pc [.ref h0, .int (nI b), .int (nI k)] (zP D [(h0, .inr (8, [.int (nI nb), .int sp, .long wr, .ref h1, .ref h2, .ref h3, .ref h4, .ref h5, .ref h6, .ref h7, .ref h8]))])) (va_Qi (fun r (_ : Unit) => r = nI (b * 6 + k)) (fun _ _ => True) (fun _ => False)) 0 0 (fun _ => False) := by
  refine Met.ofW (cc := cX8_slot) (maxL := 3) (ret := (some .int)) (by decide) rfl ?_
  intro p e s m args below meth c s₁ B hml hv
  obtain ⟨rfl, hP, hK⟩ := hv
  have hx := B.exec
  have hb := B.bytes
  have hr := B.returns
  have hts := atoms_spec (ws := wz yX8_slot cX8_slot 3 (some .int)) B.pre
  have ht : ∀ w ∈ lw_gd, w.before _ s = true := fun w h => hts w (List.mem_cons_of_mem _ h)
  have hown : s.vm.findClass RX8 = some m.cls := findClass_of_methodNamed B.named
  have hlocks := B.notSynchronized
  have hS : va_S (fun _ => False) s.heap s.heap [] := va_S.rf
  have zi0 : (0 : Int32).toInt = 0 := rfl
  have zi1 : (1 : Int32).toInt = 1 := rfl
  have zi2 : (2 : Int32).toInt = 2 := rfl
  have zi3 : (3 : Int32).toInt = 3 := rfl
  have zi4 : (4 : Int32).toInt = 4 := rfl
  have hl := lv_entry ([.ref h0, .int (nI b), .int (nI k)]) (n := 3) (Nat.le_of_ble_eq_true rfl)
  rw [lg_entry_eq]
  generalize (lg_sl ([.ref h0, .int (nI b), .int (nI k)]) ++ List.replicate (3 - (lg_sl ([.ref h0, .int (nI b), .int (nI k)])).length) Slot.unset).toArray = ls at hl ⊢
  have hl : lv_has ls 3 [(0, .ref h0), (1, .int (nI b)), (2, .int (nI k))] := hl
  refine lv_iload_n hx hb dX8_slot_0 rfl (lv_at hl 1 rfl) ?_
  refine lv_bipush (v := 6) hx hb dX8_slot_1 (by decide) ?_
  refine lv_imul hx hb dX8_slot_3 ?_
  refine z_topi (y := nI (b * 6)) (z_nmul b 6) ?_
  refine lv_iload_n hx hb dX8_slot_4 rfl (lv_at hl 2 rfl) ?_
  refine lv_iadd hx hb dX8_slot_5 ?_
  refine z_topi (y := nI ((b * 6) + k)) (z_nadd (b * 6) k) ?_
  exact W.iret (v := nI ((b * 6) + k)) hx hb hr (fun t ht hW => ⟨⟨nI ((b * 6) + k), (), rfl, rfl, trivial⟩, hS.F ht⟩) hS.2.2 dX8_slot_6
set_option maxHeartbeats 4000000 in
set_option maxRecDepth 100000 in
theorem k_X8_entryFor (l : Launch) (D : va_G) (h0 h1 h2 h3 h4 h5 h6 h7 h8 nb : Nat) (sp : Int32) (wr : Int64) (fZ : Nat → Int32) (fK : Nat → Int32) (b : Nat) (p0 : Int32) (h_b : nb ≤ 48) (h_z : 0 ≤ (fZ b).toInt ∧ (fZ b).toInt ≤ 6) (h_1 : b < 48)  : Met l yX8_entryFor (wz yX8_entryFor cX8_entryFor 5 (some .int)) { frames := 1, cells := 0, slots := 0, locals := 60 } (va_Pc [.ref h0, .int (nI b), .int p0] (zP D [(h0, .inr (8, [.int (nI nb), .int sp, .long wr, .ref h1, .ref h2, .ref h3, .ref h4, .ref h5, .ref h6, .ref h7, .ref h8])), (h4, .inl (D.1 13, 48, .inl fZ)), (h5, .inl (D.1 13, 288, .inl fK))])) (va_Qi (fun r (_ : Unit) => ∃ x : Nat, r = nI x ∧ (x < 6 ∧ (x = 0 ∨ ((x : Nat) : Int) < (fZ b).toInt))) (fun _ _ => True) (fun _ => False)) 0 0 (fun _ => False) := by
  refine Met.ofW (cc := cX8_entryFor) (maxL := 5) (ret := (some .int)) (by decide) rfl ?_
  intro p e s m args below meth c s₁ B hml hv
  obtain ⟨rfl, hP, hK⟩ := hv
  have hx := B.exec
  have hb := B.bytes
  have hr := B.returns
  have hts := atoms_spec (ws := wz yX8_entryFor cX8_entryFor 5 (some .int)) B.pre
  have ht : ∀ w ∈ lw_gd, w.before _ s = true := fun w h => hts w (List.mem_cons_of_mem _ h)
  have hown : s.vm.findClass RX8 = some m.cls := findClass_of_methodNamed B.named
  have hlocks := B.notSynchronized
  have hS : va_S (fun _ => False) s.heap s.heap [] := va_S.rf
  have zi0 : (0 : Int32).toInt = 0 := rfl
  have zi1 : (1 : Int32).toInt = 1 := rfl
  have zi2 : (2 : Int32).toInt = 2 := rfl
  have zi3 : (3 : Int32).toInt = 3 := rfl
  have zi4 : (4 : Int32).toInt = 4 := rfl
  have hl := lv_entry ([.ref h0, .int (nI b), .int p0]) (n := 5) (Nat.le_of_ble_eq_true rfl)
  rw [lg_entry_eq]
  generalize (lg_sl ([.ref h0, .int (nI b), .int p0]) ++ List.replicate (5 - (lg_sl ([.ref h0, .int (nI b), .int p0])).length) Slot.unset).toArray = ls at hl ⊢
  have hl : lv_has ls 5 [(0, .ref h0), (1, .int (nI b)), (2, .int p0)] := hl
  refine lv_iconst (v := 0) hx hb dX8_entryFor_0 (by decide) ?_
  refine lv_istore_n (lv' := [(3, .int 0), (0, .ref h0), (1, .int (nI b)), (2, .int p0)]) hx hb dX8_entryFor_1 rfl hl (by decide) rfl (fun ls hl => ?_)
  refine lv_iconst (v := 1) hx hb dX8_entryFor_2 (by decide) ?_
  refine lv_istore (lv' := [(4, .int 1), (3, .int 0), (0, .ref h0), (1, .int (nI b)), (2, .int p0)]) hx hb dX8_entryFor_3 hl (by decide) rfl (fun ls hl => ?_)
  refine z_loop (σ := (Nat)) (N := 6) (fun i u H locs ls => ((u = 0 ∨ ((u : Nat) : Int) < (fZ b).toInt) ∧ u < 6) ∧ va_P D vwCl [(h0, .inr (8, [.int (nI nb), .int sp, .long wr, .ref h1, .ref h2, .ref h3, .ref h4, .ref h5, .ref h6, .ref h7, .ref h8])), (h4, .inl (D.1 13, 48, .inl fZ)), (h5, .inl (D.1 13, 288, .inl fK))] H ∧ va_S (fun _ => False) s.heap H locs ∧ lv_has ls 5 [(4, .int (nI i)), (3, .int (nI u)), (0, .ref h0), (1, .int (nI b)), (2, .int p0)]) (fun i_1 n_2 H locs ls hi_i_1 hI ih_5 => ?_) 1 0 (by decide) ⟨(by first | omega | (dsimp only; omega)), hP, hS, lv_sub hl [0, 1, 2, 3, 4] rfl⟩
  obtain ⟨hv_i_1, hP, hS, hl⟩ := hI
  have hv_i_1 : (n_2 = 0 ∨ ((n_2 : Nat) : Int) < (fZ b).toInt) ∧ n_2 < 6 := hv_i_1
  have hP : va_P D vwCl [(h0, .inr (8, [.int (nI nb), .int sp, .long wr, .ref h1, .ref h2, .ref h3, .ref h4, .ref h5, .ref h6, .ref h7, .ref h8])), (h4, .inl (D.1 13, 48, .inl fZ)), (h5, .inl (D.1 13, 288, .inl fK))] H := hP
  have hl : lv_has ls 5 [(4, .int (nI i_1)), (3, .int (nI n_2)), (0, .ref h0), (1, .int (nI b)), (2, .int p0)] := hl
  refine lv_iload hx hb dX8_entryFor_5 (lv_at hl 0 rfl) ?_
  refine lv_aload_n hx hb dX8_entryFor_7 rfl (lv_at hl 2 rfl) ?_
  refine va_get (D := D) (ci := 8) (v := .ref h4) (C := RX8) (T := TX8) (N := 11) hx hb ht inX8 hown hK hP 0 rfl rfl 6 (by decide) (ht (.fieldLink RX8 21 "CloneVolumes$State" "size" "[I") fl_X8_21) (fun _ h9 => h9) rfl dX8_entryFor_8 ?_
  refine lv_iload_n hx hb dX8_entryFor_11 rfl (lv_at hl 3 rfl) ?_
  refine va_iald hx hb hK hP 1 0 rfl rfl (vp_in_nI (by omega) (by omega)) dX8_entryFor_12 ?_
  refine z_topi (y := fZ b) (by rw [nI_clamp (by omega)]) ?_
  refine lv_icmp_ge (tgt := 41) hx hb dX8_entryFor_13 (by decide) (fun c_3 => ?_) (fun c_3 => ?_)
  · have g_4 : (fZ b).toInt ≤ ((i_1 : Nat) : Int) := z_le rfl (nI_toInt (by omega)) c_3
    refine lv_iload_n hx hb dX8_entryFor_41 rfl (lv_at hl 1 rfl) ?_
    exact W.iret (v := nI n_2) hx hb hr (fun t ht hW => ⟨⟨nI n_2, (), rfl, ⟨n_2, rfl, by omega⟩, trivial⟩, hS.F ht⟩) hS.2.2 dX8_entryFor_42
  · have g_4 : ((i_1 : Nat) : Int) < (fZ b).toInt := z_nle rfl (nI_toInt (by omega)) c_3
    refine lv_aload_n hx hb dX8_entryFor_16 rfl (lv_at hl 2 rfl) ?_
    refine va_get (D := D) (ci := 8) (v := .ref h5) (C := RX8) (T := TX8) (N := 11) hx hb ht inX8 hown hK hP 0 rfl rfl 7 (by decide) (ht (.fieldLink RX8 24 "CloneVolumes$State" "keys" "[I") fl_X8_24) (fun _ h9 => h9) rfl dX8_entryFor_17 ?_
    refine lv_aload_n hx hb dX8_entryFor_20 rfl (lv_at hl 2 rfl) ?_
    refine lv_iload_n hx hb dX8_entryFor_21 rfl (lv_at hl 3 rfl) ?_
    refine lv_iload hx hb dX8_entryFor_22 (lv_at hl 0 rfl) ?_
    have en_5 : (nI b).toInt = ((b : Nat) : Int) := nI_toInt (by omega)
    have en_6 : (nI i_1).toInt = ((i_1 : Nat) : Int) := nI_toInt (by omega)
    refine zcV (As := [.int (nI b), .int (nI i_1)]) (rest := [.ref h5]) (C := RX8) (n := 2) ⟨hx, hb, hml, hown, ht⟩ (k_X8_slot2 l D h0 h1 h2 h3 h4 h5 h6 h7 h8 nb sp wr b i_1 (by first | decide | omega) (by first | decide | omega) (by first | decide | omega)) (zgV ml_X8_73 im_X8_slot se_X8_slot in_X8 co_X8_slot) rfl rfl (by decide +kernel) ⟨Nat.le_of_ble_eq_true rfl, Nat.le_of_ble_eq_true rfl⟩ hK hP hS [0] rfl 0 rfl rfl rfl rfl hl.1 rfl (Nat.le_of_ble_eq_true rfl) dX8_entryFor_24 ⟨Nat.le_of_ble_eq_true rfl, Nat.le_of_ble_eq_true rfl⟩ (fun r_7 H locs hw hP hS => ?_)
    subst hw
    refine va_iald hx hb hK hP 2 0 rfl rfl (vp_in_nI (by omega) (by omega)) dX8_entryFor_27 ?_
    refine z_topi (y := fK (b * 6 + i_1)) (by rw [nI_clamp (by omega)]) ?_
    refine lv_iload_n hx hb dX8_entryFor_28 rfl (lv_at hl 4 rfl) ?_
    refine lv_icmp_gt (tgt := 35) hx hb dX8_entryFor_29 (by decide) (fun c_8 => ?_) (fun c_8 => ?_)
    · have g_9 : p0.toInt < (fK (b * 6 + i_1)).toInt := z_lt rfl rfl c_8
      refine lv_iinc (v := nI (i_1 + 1)) (lv' := [(4, .int (nI (i_1 + 1))), (3, .int (nI n_2)), (0, .ref h0), (1, .int (nI b)), (2, .int p0)]) hx hb dX8_entryFor_35 hl (k := 0) rfl (z_inc _) (by decide) rfl (fun ls hl => ?_)
      refine lv_goto (tgt := 5) hx hb dX8_entryFor_38 (by decide) ?_
      exact ih_5 n_2 _ _ _ (by omega) ⟨(by first | omega | (dsimp only; omega)), hP.sub [0, 1, 2] rfl, hS, lv_sub hl [0, 1, 2, 3, 4] rfl⟩
    · have g_9 : (fK (b * 6 + i_1)).toInt ≤ p0.toInt := z_nlt rfl rfl c_8
      refine lv_iload hx hb dX8_entryFor_32 (lv_at hl 0 rfl) ?_
      refine lv_istore_n (lv' := [(3, .int (nI i_1)), (4, .int (nI i_1)), (0, .ref h0), (1, .int (nI b)), (2, .int p0)]) hx hb dX8_entryFor_34 rfl hl (by decide) rfl (fun ls hl => ?_)
      refine lv_iinc (v := nI (i_1 + 1)) (lv' := [(4, .int (nI (i_1 + 1))), (3, .int (nI i_1)), (0, .ref h0), (1, .int (nI b)), (2, .int p0)]) hx hb dX8_entryFor_35 hl (k := 1) rfl (z_inc _) (by decide) rfl (fun ls hl => ?_)
      refine lv_goto (tgt := 5) hx hb dX8_entryFor_38 (by decide) ?_
      exact ih_5 i_1 _ _ _ (by omega) ⟨(by first | omega | (dsimp only; omega)), hP.sub [0, 1, 2] rfl, hS, lv_sub hl [0, 1, 2, 3, 4] rfl⟩
set_option maxHeartbeats 4000000 in
set_option maxRecDepth 100000 in
theorem k_X8_find (l : Launch) (D : va_G) (h0 h1 h2 h3 h4 h5 h6 h7 h8 nb : Nat) (sp : Int32) (wr : Int64) (fZ : Nat → Int32) (fK : Nat → Int32) (b : Nat) (p0 : Int32) (h_b : nb ≤ 48) (h_z : 0 ≤ (fZ b).toInt ∧ (fZ b).toInt ≤ 6) (h_1 : b < 48)  : Met l yX8_find (wz yX8_find cX8_find 4 (some .int)) { frames := 1, cells := 0, slots := 0, locals := 60 } (va_Pc [.ref h0, .int (nI b), .int p0] (zP D [(h0, .inr (8, [.int (nI nb), .int sp, .long wr, .ref h1, .ref h2, .ref h3, .ref h4, .ref h5, .ref h6, .ref h7, .ref h8])), (h4, .inl (D.1 13, 48, .inl fZ)), (h5, .inl (D.1 13, 288, .inl fK))])) (va_Qi (fun r (_ : Unit) => r = -1 ∨ ∃ x : Nat, r = nI x ∧ (x < 6 ∧ ((x : Nat) : Int) < (fZ b).toInt)) (fun _ _ => True) (fun _ => False)) 0 0 (fun _ => False) := by
  refine Met.ofW (cc := cX8_find) (maxL := 4) (ret := (some .int)) (by decide) rfl ?_
  intro p e s m args below meth c s₁ B hml hv
  obtain ⟨rfl, hP, hK⟩ := hv
  have hx := B.exec
  have hb := B.bytes
  have hr := B.returns
  have hts := atoms_spec (ws := wz yX8_find cX8_find 4 (some .int)) B.pre
  have ht : ∀ w ∈ lw_gd, w.before _ s = true := fun w h => hts w (List.mem_cons_of_mem _ h)
  have hown : s.vm.findClass RX8 = some m.cls := findClass_of_methodNamed B.named
  have hlocks := B.notSynchronized
  have hS : va_S (fun _ => False) s.heap s.heap [] := va_S.rf
  have zi0 : (0 : Int32).toInt = 0 := rfl
  have zi1 : (1 : Int32).toInt = 1 := rfl
  have zi2 : (2 : Int32).toInt = 2 := rfl
  have zi3 : (3 : Int32).toInt = 3 := rfl
  have zi4 : (4 : Int32).toInt = 4 := rfl
  have hl := lv_entry ([.ref h0, .int (nI b), .int p0]) (n := 4) (Nat.le_of_ble_eq_true rfl)
  rw [lg_entry_eq]
  generalize (lg_sl ([.ref h0, .int (nI b), .int p0]) ++ List.replicate (4 - (lg_sl ([.ref h0, .int (nI b), .int p0])).length) Slot.unset).toArray = ls at hl ⊢
  have hl : lv_has ls 4 [(0, .ref h0), (1, .int (nI b)), (2, .int p0)] := hl
  refine lv_iconst (v := 0) hx hb dX8_find_0 (by decide) ?_
  refine lv_istore_n (lv' := [(3, .int 0), (0, .ref h0), (1, .int (nI b)), (2, .int p0)]) hx hb dX8_find_1 rfl hl (by decide) rfl (fun ls hl => ?_)
  refine z_loop (σ := Unit) (N := 6) (fun i u H locs ls => va_P D vwCl [(h0, .inr (8, [.int (nI nb), .int sp, .long wr, .ref h1, .ref h2, .ref h3, .ref h4, .ref h5, .ref h6, .ref h7, .ref h8])), (h4, .inl (D.1 13, 48, .inl fZ)), (h5, .inl (D.1 13, 288, .inl fK))] H ∧ va_S (fun _ => False) s.heap H locs ∧ lv_has ls 4 [(3, .int (nI i)), (0, .ref h0), (1, .int (nI b)), (2, .int p0)]) (fun i_1 _u H locs ls hi_i_1 hI ih_2 => ?_) 0 () (by decide) ⟨hP, hS, lv_sub hl [0, 1, 2, 3] rfl⟩
  obtain ⟨hP, hS, hl⟩ := hI
  have hP : va_P D vwCl [(h0, .inr (8, [.int (nI nb), .int sp, .long wr, .ref h1, .ref h2, .ref h3, .ref h4, .ref h5, .ref h6, .ref h7, .ref h8])), (h4, .inl (D.1 13, 48, .inl fZ)), (h5, .inl (D.1 13, 288, .inl fK))] H := hP
  have hl : lv_has ls 4 [(3, .int (nI i_1)), (0, .ref h0), (1, .int (nI b)), (2, .int p0)] := hl
  refine lv_iload_n hx hb dX8_find_2 rfl (lv_at hl 0 rfl) ?_
  refine lv_aload_n hx hb dX8_find_3 rfl (lv_at hl 1 rfl) ?_
  refine va_get (D := D) (ci := 8) (v := .ref h4) (C := RX8) (T := TX8) (N := 11) hx hb ht inX8 hown hK hP 0 rfl rfl 6 (by decide) (ht (.fieldLink RX8 21 "CloneVolumes$State" "size" "[I") fl_X8_21) (fun _ h9 => h9) rfl dX8_find_4 ?_
  refine lv_iload_n hx hb dX8_find_7 rfl (lv_at hl 2 rfl) ?_
  refine va_iald hx hb hK hP 1 0 rfl rfl (vp_in_nI (by omega) (by omega)) dX8_find_8 ?_
  refine z_topi (y := fZ b) (by rw [nI_clamp (by omega)]) ?_
  refine lv_icmp_ge (tgt := 35) hx hb dX8_find_9 (by decide) (fun c_2 => ?_) (fun c_2 => ?_)
  · have g_3 : (fZ b).toInt ≤ ((i_1 : Nat) : Int) := z_le rfl (nI_toInt (by omega)) c_2
    refine lv_iconst (v := (-1)) hx hb dX8_find_35 (by decide) ?_
    exact W.iret (v := (-1)) hx hb hr (fun t ht hW => ⟨⟨(-1), (), rfl, Or.inl rfl, trivial⟩, hS.F ht⟩) hS.2.2 dX8_find_36
  · have g_3 : ((i_1 : Nat) : Int) < (fZ b).toInt := z_nle rfl (nI_toInt (by omega)) c_2
    refine lv_aload_n hx hb dX8_find_12 rfl (lv_at hl 1 rfl) ?_
    refine va_get (D := D) (ci := 8) (v := .ref h5) (C := RX8) (T := TX8) (N := 11) hx hb ht inX8 hown hK hP 0 rfl rfl 7 (by decide) (ht (.fieldLink RX8 24 "CloneVolumes$State" "keys" "[I") fl_X8_24) (fun _ h9 => h9) rfl dX8_find_13 ?_
    refine lv_aload_n hx hb dX8_find_16 rfl (lv_at hl 1 rfl) ?_
    refine lv_iload_n hx hb dX8_find_17 rfl (lv_at hl 2 rfl) ?_
    refine lv_iload_n hx hb dX8_find_18 rfl (lv_at hl 0 rfl) ?_
    have en_4 : (nI b).toInt = ((b : Nat) : Int) := nI_toInt (by omega)
    have en_5 : (nI i_1).toInt = ((i_1 : Nat) : Int) := nI_toInt (by omega)
    refine zcV (As := [.int (nI b), .int (nI i_1)]) (rest := [.ref h5]) (C := RX8) (n := 2) ⟨hx, hb, hml, hown, ht⟩ (k_X8_slot2 l D h0 h1 h2 h3 h4 h5 h6 h7 h8 nb sp wr b i_1 (by first | decide | omega) (by first | decide | omega) (by first | decide | omega)) (zgV ml_X8_73 im_X8_slot se_X8_slot in_X8 co_X8_slot) rfl rfl (by decide +kernel) ⟨Nat.le_of_ble_eq_true rfl, Nat.le_of_ble_eq_true rfl⟩ hK hP hS [0] rfl 0 rfl rfl rfl rfl hl.1 rfl (Nat.le_of_ble_eq_true rfl) dX8_find_19 ⟨Nat.le_of_ble_eq_true rfl, Nat.le_of_ble_eq_true rfl⟩ (fun r_6 H locs hw hP hS => ?_)
    subst hw
    refine va_iald hx hb hK hP 2 0 rfl rfl (vp_in_nI (by omega) (by omega)) dX8_find_22 ?_
    refine z_topi (y := fK (b * 6 + i_1)) (by rw [nI_clamp (by omega)]) ?_
    refine lv_iload_n hx hb dX8_find_23 rfl (lv_at hl 3 rfl) ?_
    refine lv_icmp_ne (tgt := 29) hx hb dX8_find_24 (by decide) (fun c_7 => ?_) (fun c_7 => ?_)
    · have g_8 : ¬ (fK (b * 6 + i_1)).toInt = p0.toInt := z_ne rfl rfl c_7
      refine lv_iinc (v := nI (i_1 + 1)) (lv' := [(3, .int (nI (i_1 + 1))), (0, .ref h0), (1, .int (nI b)), (2, .int p0)]) hx hb dX8_find_29 hl (k := 0) rfl (z_inc _) (by decide) rfl (fun ls hl => ?_)
      refine lv_goto (tgt := 2) hx hb dX8_find_32 (by decide) ?_
      exact ih_2 () _ _ _ (by omega) ⟨hP.sub [0, 1, 2] rfl, hS, lv_sub hl [0, 1, 2, 3] rfl⟩
    · have g_8 : (fK (b * 6 + i_1)).toInt = p0.toInt := z_eq rfl rfl c_7
      refine lv_iload_n hx hb dX8_find_27 rfl (lv_at hl 0 rfl) ?_
      exact W.iret (v := nI i_1) hx hb hr (fun t ht hW => ⟨⟨nI i_1, (), rfl, Or.inr ⟨i_1, rfl, by omega⟩, trivial⟩, hS.F ht⟩) hS.2.2 dX8_find_28
set_option maxHeartbeats 4000000 in
set_option maxRecDepth 100000 in
theorem k_X8_below (l : Launch) (D : va_G) (h0 h1 h2 h3 h4 h5 h6 h7 h8 nb : Nat) (sp : Int32) (wr : Int64) (fZ : Nat → Int32) (fK : Nat → Int32) (fV : Nat → Int32) (b : Nat) (p0 : Int32) (h_b : nb ≤ 48) (h_z : 0 ≤ (fZ b).toInt ∧ (fZ b).toInt ≤ 6) (h_1 : b < 48)  : Met l yX8_below (wz yX8_below cX8_below 3 (some .int)) { frames := 2, cells := 0, slots := 0, locals := 120 } (va_Pc [.ref h0, .int (nI b), .int p0] (zP D [(h0, .inr (8, [.int (nI nb), .int sp, .long wr, .ref h1, .ref h2, .ref h3, .ref h4, .ref h5, .ref h6, .ref h7, .ref h8])), (h4, .inl (D.1 13, 48, .inl fZ)), (h5, .inl (D.1 13, 288, .inl fK)), (h6, .inl (D.1 13, 288, .inl fV))])) (va_Qi (fun r (_ : Unit) => ∃ x : Nat, r = fV (b * 6 + x) ∧ (x < 6 ∧ (x = 0 ∨ ((x : Nat) : Int) < (fZ b).toInt))) (fun _ _ => True) (fun _ => False)) 0 0 (fun _ => False) := by
  refine Met.ofW (cc := cX8_below) (maxL := 3) (ret := (some .int)) (by decide) rfl ?_
  intro p e s m args below meth c s₁ B hml hv
  obtain ⟨rfl, hP, hK⟩ := hv
  have hx := B.exec
  have hb := B.bytes
  have hr := B.returns
  have hts := atoms_spec (ws := wz yX8_below cX8_below 3 (some .int)) B.pre
  have ht : ∀ w ∈ lw_gd, w.before _ s = true := fun w h => hts w (List.mem_cons_of_mem _ h)
  have hown : s.vm.findClass RX8 = some m.cls := findClass_of_methodNamed B.named
  have hlocks := B.notSynchronized
  have hS : va_S (fun _ => False) s.heap s.heap [] := va_S.rf
  have zi0 : (0 : Int32).toInt = 0 := rfl
  have zi1 : (1 : Int32).toInt = 1 := rfl
  have zi2 : (2 : Int32).toInt = 2 := rfl
  have zi3 : (3 : Int32).toInt = 3 := rfl
  have zi4 : (4 : Int32).toInt = 4 := rfl
  have hl := lv_entry ([.ref h0, .int (nI b), .int p0]) (n := 3) (Nat.le_of_ble_eq_true rfl)
  rw [lg_entry_eq]
  generalize (lg_sl ([.ref h0, .int (nI b), .int p0]) ++ List.replicate (3 - (lg_sl ([.ref h0, .int (nI b), .int p0])).length) Slot.unset).toArray = ls at hl ⊢
  have hl : lv_has ls 3 [(0, .ref h0), (1, .int (nI b)), (2, .int p0)] := hl
  refine lv_aload_n hx hb dX8_below_0 rfl (lv_at hl 0 rfl) ?_
  refine va_get (D := D) (ci := 8) (v := .ref h6) (C := RX8) (T := TX8) (N := 11) hx hb ht inX8 hown hK hP 0 rfl rfl 8 (by decide) (ht (.fieldLink RX8 27 "CloneVolumes$State" "values" "[I") fl_X8_27) (fun _ h9 => h9) rfl dX8_below_1 ?_
  refine lv_aload_n hx hb dX8_below_4 rfl (lv_at hl 0 rfl) ?_
  refine lv_iload_n hx hb dX8_below_5 rfl (lv_at hl 1 rfl) ?_
  refine lv_aload_n hx hb dX8_below_6 rfl (lv_at hl 0 rfl) ?_
  refine lv_iload_n hx hb dX8_below_7 rfl (lv_at hl 1 rfl) ?_
  refine lv_iload_n hx hb dX8_below_8 rfl (lv_at hl 2 rfl) ?_
  have en_1 : (nI b).toInt = ((b : Nat) : Int) := nI_toInt (by omega)
  refine zcV (As := [.int (nI b), .int p0]) (rest := [.int (nI b), .ref h0, .ref h6]) (C := RX8) (n := 2) ⟨hx, hb, hml, hown, ht⟩ (k_X8_entryFor l D h0 h1 h2 h3 h4 h5 h6 h7 h8 nb sp wr fZ fK b p0 (by first | decide | omega) (by first | decide | omega) (by first | decide | omega)) (zgV ml_X8_77 im_X8_entryFor se_X8_entryFor in_X8 co_X8_entryFor) rfl rfl (by decide +kernel) ⟨Nat.le_of_ble_eq_true rfl, Nat.le_of_ble_eq_true rfl⟩ hK hP hS [0, 1, 2] rfl 0 rfl rfl rfl rfl hl.1 rfl (Nat.le_of_ble_eq_true rfl) dX8_below_9 ⟨Nat.le_of_ble_eq_true rfl, Nat.le_of_ble_eq_true rfl⟩ (fun r_2 H locs hw hP hS => ?_)
  obtain ⟨n_3, rfl, hw⟩ := hw
  have en_4 : (nI b).toInt = ((b : Nat) : Int) := nI_toInt (by omega)
  have en_5 : (nI n_3).toInt = ((n_3 : Nat) : Int) := nI_toInt (by omega)
  refine zcV (As := [.int (nI b), .int (nI n_3)]) (rest := [.ref h6]) (C := RX8) (n := 2) ⟨hx, hb, hml, hown, ht⟩ (k_X8_slot2 l D h0 h1 h2 h3 h4 h5 h6 h7 h8 nb sp wr b n_3 (by first | decide | omega) (by first | decide | omega) (by first | decide | omega)) (zgV ml_X8_73 im_X8_slot se_X8_slot in_X8 co_X8_slot) rfl rfl (by decide +kernel) ⟨Nat.le_of_ble_eq_true rfl, Nat.le_of_ble_eq_true rfl⟩ hK hP hS [0] rfl 0 rfl rfl rfl rfl hl.1 rfl (Nat.le_of_ble_eq_true rfl) dX8_below_12 ⟨Nat.le_of_ble_eq_true rfl, Nat.le_of_ble_eq_true rfl⟩ (fun r_6 H locs hw hP hS => ?_)
  subst hw
  refine va_iald hx hb hK hP 3 0 rfl rfl (vp_in_nI (by omega) (by omega)) dX8_below_15 ?_
  refine z_topi (y := fV (b * 6 + n_3)) (by rw [nI_clamp (by omega)]) ?_
  exact W.iret (v := fV (b * 6 + n_3)) hx hb hr (fun t ht hW => ⟨⟨fV (b * 6 + n_3), (), rfl, ⟨_, rfl, by omega⟩, trivial⟩, hS.F ht⟩) hS.2.2 dX8_below_16
