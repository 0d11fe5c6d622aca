theorem ml_X5_63 : Cond.methodLink RX5 63 yX9_at ∈ lw_gd := zm (List.mem_of_getElem? (i := 833) (by decide +kernel)) rfl
theorem fl_X5_47 : Cond.fieldLink RX5 47 "CloneVolumes$Plan" "volumes" "I" ∈ lw_gd := zm (List.mem_of_getElem? (i := 483) (by decide +kernel)) rfl
theorem fl_X5_9 : Cond.fieldLink RX5 9 "CloneVolumes$Plan" "names" "[I" ∈ lw_gd := zm (List.mem_of_getElem? (i := 488) (by decide +kernel)) rfl
theorem ml_X5_59 : Cond.methodLink RX5 59 yX5_letterAt ∈ lw_gd := zm (List.mem_of_getElem? (i := 830) (by decide +kernel)) rfl
theorem st_X5_letterAt : Cond.static yX5_letterAt ∈ lw_gd := zm (List.mem_of_getElem? (i := 831) (by decide +kernel)) rfl
theorem in_X5 : Cond.initialized RX5 ∈ lw_gd := zm (List.mem_of_getElem? (i := 209) (by decide +kernel)) rfl
theorem co_X5_letterAt : Cond.code yX5_letterAt cX5_letterAt 3 (some .int) ∈ lw_gd := zm (List.mem_of_getElem? (i := 832) (by decide +kernel)) rfl
theorem dX5_addVolume_0 : decode cX5_addVolume 0 = .ok (.aload_n 0, 1) := by decide +kernel
theorem dX5_addVolume_1 : decode cX5_addVolume 1 = .ok (.getfield 47, 3) := by decide +kernel
theorem dX5_addVolume_4 : decode cX5_addVolume 4 = .ok (.bipush 8, 2) := by decide +kernel
theorem dX5_addVolume_6 : decode cX5_addVolume 6 = .ok (.if_icmp .lt 5, 3) := by decide +kernel
theorem dX5_addVolume_9 : decode cX5_addVolume 9 = .ok (.iconst (-1), 1) := by decide +kernel
theorem dX5_addVolume_10 : decode cX5_addVolume 10 = .ok (.ireturn, 1) := by decide +kernel
theorem dX5_addVolume_11 : decode cX5_addVolume 11 = .ok (.iconst 0, 1) := by decide +kernel
theorem dX5_addVolume_12 : decode cX5_addVolume 12 = .ok (.istore 4, 2) := by decide +kernel
theorem dX5_addVolume_14 : decode cX5_addVolume 14 = .ok (.iload 4, 2) := by decide +kernel
theorem dX5_addVolume_16 : decode cX5_addVolume 16 = .ok (.bipush 6, 2) := by decide +kernel
theorem dX5_addVolume_18 : decode cX5_addVolume 18 = .ok (.if_icmp .ge 33, 3) := by decide +kernel
theorem dX5_addVolume_21 : decode cX5_addVolume 21 = .ok (.aload_n 0, 1) := by decide +kernel
theorem dX5_addVolume_22 : decode cX5_addVolume 22 = .ok (.getfield 9, 3) := by decide +kernel
theorem dX5_addVolume_25 : decode cX5_addVolume 25 = .ok (.aload_n 0, 1) := by decide +kernel
theorem dX5_addVolume_26 : decode cX5_addVolume 26 = .ok (.getfield 47, 3) := by decide +kernel
theorem dX5_addVolume_29 : decode cX5_addVolume 29 = .ok (.bipush 6, 2) := by decide +kernel
theorem dX5_addVolume_31 : decode cX5_addVolume 31 = .ok (.imul, 1) := by decide +kernel
theorem dX5_addVolume_32 : decode cX5_addVolume 32 = .ok (.iload 4, 2) := by decide +kernel
theorem dX5_addVolume_34 : decode cX5_addVolume 34 = .ok (.iadd, 1) := by decide +kernel
theorem dX5_addVolume_35 : decode cX5_addVolume 35 = .ok (.aload_n 1, 1) := by decide +kernel
theorem dX5_addVolume_36 : decode cX5_addVolume 36 = .ok (.iload_n 2, 1) := by decide +kernel
theorem dX5_addVolume_37 : decode cX5_addVolume 37 = .ok (.iload 4, 2) := by decide +kernel
theorem dX5_addVolume_39 : decode cX5_addVolume 39 = .ok (.iadd, 1) := by decide +kernel
theorem dX5_addVolume_40 : decode cX5_addVolume 40 = .ok (.iload_n 3, 1) := by decide +kernel
theorem dX5_addVolume_41 : decode cX5_addVolume 41 = .ok (.invokestatic 59, 3) := by decide +kernel
theorem dX5_addVolume_44 : decode cX5_addVolume 44 = .ok (.iastore, 1) := by decide +kernel
theorem dX5_addVolume_45 : decode cX5_addVolume 45 = .ok (.iinc 4 1, 3) := by decide +kernel
theorem dX5_addVolume_48 : decode cX5_addVolume 48 = .ok (.goto (-34), 3) := by decide +kernel
theorem dX5_addVolume_51 : decode cX5_addVolume 51 = .ok (.aload_n 0, 1) := by decide +kernel
theorem dX5_addVolume_52 : decode cX5_addVolume 52 = .ok (.dup, 1) := by decide +kernel
theorem dX5_addVolume_53 : decode cX5_addVolume 53 = .ok (.getfield 47, 3) := by decide +kernel
theorem dX5_addVolume_56 : decode cX5_addVolume 56 = .ok (.iconst 1, 1) := by decide +kernel
theorem dX5_addVolume_57 : decode cX5_addVolume 57 = .ok (.iadd, 1) := by decide +kernel
theorem dX5_addVolume_58 : decode cX5_addVolume 58 = .ok (.putfield 47, 3) := by decide +kernel
theorem dX5_addVolume_61 : decode cX5_addVolume 61 = .ok (.aload_n 0, 1) := by decide +kernel
theorem dX5_addVolume_62 : decode cX5_addVolume 62 = .ok (.getfield 47, 3) := by decide +kernel
theorem dX5_addVolume_65 : decode cX5_addVolume 65 = .ok (.iconst 1, 1) := by decide +kernel
theorem dX5_addVolume_66 : decode cX5_addVolume 66 = .ok (.isub, 1) := by decide +kernel
theorem dX5_addVolume_67 : decode cX5_addVolume 67 = .ok (.ireturn, 1) := by decide +kernel
theorem dX5_letterAt_0 : decode cX5_letterAt 0 = .ok (.iload_n 1, 1) := by decide +kernel
theorem dX5_letterAt_1 : decode cX5_letterAt 1 = .ok (.iload_n 2, 1) := by decide +kernel
theorem dX5_letterAt_2 : decode cX5_letterAt 2 = .ok (.if_icmp .ge 16, 3) := by decide +kernel
theorem dX5_letterAt_5 : decode cX5_letterAt 5 = .ok (.aload_n 0, 1) := by decide +kernel
theorem dX5_letterAt_6 : decode cX5_letterAt 6 = .ok (.iload_n 1, 1) := by decide +kernel
theorem dX5_letterAt_7 : decode cX5_letterAt 7 = .ok (.invokevirtual 63, 3) := by decide +kernel
theorem dX5_letterAt_10 : decode cX5_letterAt 10 = .ok (.bipush 97, 2) := by decide +kernel
theorem dX5_letterAt_12 : decode cX5_letterAt 12 = .ok (.isub, 1) := by decide +kernel
theorem dX5_letterAt_13 : decode cX5_letterAt 13 = .ok (.iconst 1, 1) := by decide +kernel
theorem dX5_letterAt_14 : decode cX5_letterAt 14 = .ok (.iadd, 1) := by decide +kernel
theorem dX5_letterAt_15 : decode cX5_letterAt 15 = .ok (.goto 4, 3) := by decide +kernel
theorem dX5_letterAt_18 : decode cX5_letterAt 18 = .ok (.iconst 0, 1) := by decide +kernel
theorem dX5_letterAt_19 : decode cX5_letterAt 19 = .ok (.ireturn, 1) := by decide +kernel
theorem dX5_volumeNamed_0 : decode cX5_volumeNamed 0 = .ok (.iconst 0, 1) := by decide +kernel
theorem dX5_volumeNamed_1 : decode cX5_volumeNamed 1 = .ok (.istore 4, 2) := by decide +kernel
theorem dX5_volumeNamed_3 : decode cX5_volumeNamed 3 = .ok (.iload 4, 2) := by decide +kernel
theorem dX5_volumeNamed_5 : decode cX5_volumeNamed 5 = .ok (.aload_n 0, 1) := by decide +kernel
theorem dX5_volumeNamed_6 : decode cX5_volumeNamed 6 = .ok (.getfield 47, 3) := by decide +kernel
theorem dX5_volumeNamed_9 : decode cX5_volumeNamed 9 = .ok (.if_icmp .ge 73, 3) := by decide +kernel
theorem dX5_volumeNamed_12 : decode cX5_volumeNamed 12 = .ok (.iconst 1, 1) := by decide +kernel
theorem dX5_volumeNamed_13 : decode cX5_volumeNamed 13 = .ok (.istore 5, 2) := by decide +kernel
theorem dX5_volumeNamed_15 : decode cX5_volumeNamed 15 = .ok (.iconst 0, 1) := by decide +kernel
theorem dX5_volumeNamed_16 : decode cX5_volumeNamed 16 = .ok (.istore 6, 2) := by decide +kernel
theorem dX5_volumeNamed_18 : decode cX5_volumeNamed 18 = .ok (.iload 6, 2) := by decide +kernel
theorem dX5_volumeNamed_20 : decode cX5_volumeNamed 20 = .ok (.bipush 6, 2) := by decide +kernel
theorem dX5_volumeNamed_22 : decode cX5_volumeNamed 22 = .ok (.if_icmp .ge 46, 3) := by decide +kernel
theorem dX5_volumeNamed_25 : decode cX5_volumeNamed 25 = .ok (.iload 5, 2) := by decide +kernel
theorem dX5_volumeNamed_27 : decode cX5_volumeNamed 27 = .ok (.ifCond .eq 32, 3) := by decide +kernel
theorem dX5_volumeNamed_30 : decode cX5_volumeNamed 30 = .ok (.aload_n 0, 1) := by decide +kernel
theorem dX5_volumeNamed_31 : decode cX5_volumeNamed 31 = .ok (.getfield 9, 3) := by decide +kernel
theorem dX5_volumeNamed_34 : decode cX5_volumeNamed 34 = .ok (.iload 4, 2) := by decide +kernel
theorem dX5_volumeNamed_36 : decode cX5_volumeNamed 36 = .ok (.bipush 6, 2) := by decide +kernel
theorem dX5_volumeNamed_38 : decode cX5_volumeNamed 38 = .ok (.imul, 1) := by decide +kernel
theorem dX5_volumeNamed_39 : decode cX5_volumeNamed 39 = .ok (.iload 6, 2) := by decide +kernel
theorem dX5_volumeNamed_41 : decode cX5_volumeNamed 41 = .ok (.iadd, 1) := by decide +kernel
theorem dX5_volumeNamed_42 : decode cX5_volumeNamed 42 = .ok (.iaload, 1) := by decide +kernel
theorem dX5_volumeNamed_43 : decode cX5_volumeNamed 43 = .ok (.aload_n 1, 1) := by decide +kernel
theorem dX5_volumeNamed_44 : decode cX5_volumeNamed 44 = .ok (.iload_n 2, 1) := by decide +kernel
theorem dX5_volumeNamed_45 : decode cX5_volumeNamed 45 = .ok (.iload 6, 2) := by decide +kernel
theorem dX5_volumeNamed_47 : decode cX5_volumeNamed 47 = .ok (.iadd, 1) := by decide +kernel
theorem dX5_volumeNamed_48 : decode cX5_volumeNamed 48 = .ok (.iload_n 3, 1) := by decide +kernel
theorem dX5_volumeNamed_49 : decode cX5_volumeNamed 49 = .ok (.invokestatic 59, 3) := by decide +kernel
theorem dX5_volumeNamed_52 : decode cX5_volumeNamed 52 = .ok (.if_icmp .ne 7, 3) := by decide +kernel
theorem dX5_volumeNamed_55 : decode cX5_volumeNamed 55 = .ok (.iconst 1, 1) := by decide +kernel
theorem dX5_volumeNamed_56 : decode cX5_volumeNamed 56 = .ok (.goto 4, 3) := by decide +kernel
theorem dX5_volumeNamed_59 : decode cX5_volumeNamed 59 = .ok (.iconst 0, 1) := by decide +kernel
theorem dX5_volumeNamed_60 : decode cX5_volumeNamed 60 = .ok (.istore 5, 2) := by decide +kernel
theorem dX5_volumeNamed_62 : decode cX5_volumeNamed 62 = .ok (.iinc 6 1, 3) := by decide +kernel
theorem dX5_volumeNamed_65 : decode cX5_volumeNamed 65 = .ok (.goto (-47), 3) := by decide +kernel
theorem dX5_volumeNamed_68 : decode cX5_volumeNamed 68 = .ok (.iload 5, 2) := by decide +kernel
theorem dX5_volumeNamed_70 : decode cX5_volumeNamed 70 = .ok (.ifCond .eq 6, 3) := by decide +kernel
theorem dX5_volumeNamed_73 : decode cX5_volumeNamed 73 = .ok (.iload 4, 2) := by decide +kernel
theorem dX5_volumeNamed_75 : decode cX5_volumeNamed 75 = .ok (.ireturn, 1) := by decide +kernel
theorem dX5_volumeNamed_76 : decode cX5_volumeNamed 76 = .ok (.iinc 4 1, 3) := by decide +kernel
theorem dX5_volumeNamed_79 : decode cX5_volumeNamed 79 = .ok (.goto (-76), 3) := by decide +kernel
theorem dX5_volumeNamed_82 : decode cX5_volumeNamed 82 = .ok (.iconst (-1), 1) := by decide +kernel
theorem dX5_volumeNamed_83 : decode cX5_volumeNamed 83 = .ok (.ireturn, 1) := by decide +kernel
set_option maxHeartbeats 4000000 in
set_option maxRecDepth 100000 in
theorem k_X5_letterAt (l : Launch) (D : va_G) (h9 h10 n : Nat) (f : Nat → Int32) (p0 p1 : Int32) (h_n : n ≤ 1600) : Met l yX5_letterAt (wz yX5_letterAt cX5_letterAt 3 (some .int)) { frames := 1, cells := 0, slots := 0, locals := 60 } (va_Pc [.ref h9, .int p0, .int p1] (zP D [(h9, .inr (9, [.ref h10, .int (nI n)])), (h10, .inl (D.1 13, 1600, .inl f))])) (va_Qi (fun r (_ : Unit) => True) (fun _ _ => True) (fun _ => False)) 0 0 (fun _ => False) := by
  refine Met.ofW (cc := cX5_letterAt) (maxL := 3) (ret := (some .int)) (by decide) rfl ?_
  intro p e s m args below meth c s₁ B hml hv
  obtain ⟨rfl, hP, hK⟩ := hv
  have hx := B.exec
  have hb := B.bytes
  have hr := B.returns
  have hts := atoms_spec (ws := wz yX5_letterAt cX5_letterAt 3 (some .int)) B.pre
  have ht : ∀ w ∈ lw_gd, w.before _ s = true := fun w h => hts w (List.mem_cons_of_mem _ h)
  have hown : s.vm.findClass RX5 = some m.cls := findClass_of_methodNamed B.named
  have hlocks := B.notSynchronized
  have hS : va_S (fun _ => False) s.heap s.heap [] := va_S.rf
  have zi0 : (0 : Int32).toInt = 0 := rfl
  have zi1 : (1 : Int32).toInt = 1 := rfl
  have zi2 : (2 : Int32).toInt = 2 := rfl
  have zi3 : (3 : Int32).toInt = 3 := rfl
  have zi4 : (4 : Int32).toInt = 4 := rfl
  have hl := lv_entry ([.ref h9, .int p0, .int p1]) (n := 3) (Nat.le_of_ble_eq_true rfl)
  rw [lg_entry_eq]
  generalize (lg_sl ([.ref h9, .int p0, .int p1]) ++ List.replicate (3 - (lg_sl ([.ref h9, .int p0, .int p1])).length) Slot.unset).toArray = ls at hl ⊢
  have hl : lv_has ls 3 [(0, .ref h9), (1, .int p0), (2, .int p1)] := hl
  refine lv_iload_n hx hb dX5_letterAt_0 rfl (lv_at hl 1 rfl) ?_
  refine lv_iload_n hx hb dX5_letterAt_1 rfl (lv_at hl 2 rfl) ?_
  refine lv_icmp_ge (tgt := 18) hx hb dX5_letterAt_2 (by decide) (fun c_1 => ?_) (fun c_1 => ?_)
  · have g_2 : p1.toInt ≤ p0.toInt := z_le rfl rfl c_1
    refine lv_iconst (v := 0) hx hb dX5_letterAt_18 (by decide) ?_
    exact W.iret (v := 0) hx hb hr (fun t ht hW => ⟨⟨0, (), rfl, trivial, trivial⟩, hS.F ht⟩) hS.2.2 dX5_letterAt_19
  · have g_2 : p0.toInt < p1.toInt := z_nle rfl rfl c_1
    refine lv_aload_n hx hb dX5_letterAt_5 rfl (lv_at hl 0 rfl) ?_
    refine lv_iload_n hx hb dX5_letterAt_6 rfl (lv_at hl 1 rfl) ?_
    refine zcV (As := [.int p0]) (rest := []) (C := RX9) (n := 1) ⟨hx, hb, hml, hown, ht⟩ (k_X9_at l D h9 h10 n f p0 (by first | decide | omega)) (zgV ml_X5_63 im_X9_at se_X9_at in_X9 co_X9_at) rfl rfl (by decide +kernel) ⟨Nat.le_of_ble_eq_true rfl, Nat.le_of_ble_eq_true rfl⟩ hK hP hS [0, 1] rfl 0 rfl rfl rfl rfl hl.1 rfl (Nat.le_of_ble_eq_true rfl) dX5_letterAt_7 ⟨Nat.le_of_ble_eq_true rfl, Nat.le_of_ble_eq_true rfl⟩ (fun r_3 H locs hw hP hS => ?_)
    rcases hw with ⟨rfl, g_4⟩ | ⟨rfl, g_5⟩
    · skip
      refine lv_bipush (v := 97) hx hb dX5_letterAt_10 (by decide) ?_
      refine lv_isub hx hb dX5_letterAt_12 ?_
      refine lv_topi (fun x_6 ex_6 => ?_)
      refine lv_iconst (v := 1) hx hb dX5_letterAt_13 (by decide) ?_
      refine lv_iadd hx hb dX5_letterAt_14 ?_
      refine lv_topi (fun x_7 ex_7 => ?_)
      refine lv_goto (tgt := 19) hx hb dX5_letterAt_15 (by decide) ?_
      exact W.iret (v := x_7) hx hb hr (fun t ht hW => ⟨⟨x_7, (), rfl, trivial, trivial⟩, hS.F ht⟩) hS.2.2 dX5_letterAt_19
    · skip
      refine lv_bipush (v := 97) hx hb dX5_letterAt_10 (by decide) ?_
      refine lv_isub hx hb dX5_letterAt_12 ?_
      refine z_topi (y := (-98)) (by decide) ?_
      refine lv_iconst (v := 1) hx hb dX5_letterAt_13 (by decide) ?_
      refine lv_iadd hx hb dX5_letterAt_14 ?_
      refine z_topi (y := (-97)) (by decide) ?_
      refine lv_goto (tgt := 19) hx hb dX5_letterAt_15 (by decide) ?_
      exact W.iret (v := (-97)) hx hb hr (fun t ht hW => ⟨⟨(-97), (), rfl, trivial, trivial⟩, hS.F ht⟩) hS.2.2 dX5_letterAt_19
set_option maxHeartbeats 4000000 in
set_option maxRecDepth 100000 in
theorem k_X5_volumeNamed (l : Launch) (D : va_G) (h0 h1 h2 h3 h4 h5 h6 h7 h8 h9 h10 vo cg n : Nat) (bk em ch sm0 : Int32) (fN f : Nat → Int32) (p0 p1 : Int32) (h_n : n ≤ 1600) (h_v : vo ≤ 8) : Met l yX5_volumeNamed (wz yX5_volumeNamed cX5_volumeNamed 7 (some .int)) { frames := 2, cells := 0, slots := 0, locals := 120 } (va_Pc [.ref h0, .ref h9, .int p0, .int p1] (zP D [(h0, .inr (5, [.int bk, .int em, .int ch, .int sm0, .int (nI vo), .int (nI cg), .ref h1, .ref h2, .ref h3, .ref h4, .ref h5, .ref h6, .ref h7, .ref h8])), (h1, .inl (D.1 13, 48, .inl fN)), (h9, .inr (9, [.ref h10, .int (nI n)])), (h10, .inl (D.1 13, 1600, .inl f))])) (va_Qi (fun r (_ : Unit) => r = -1 ∨ ∃ x : Nat, r = nI x ∧ (x < vo)) (fun _ _ => True) (fun _ => False)) 0 0 (fun _ => False) := by
  refine Met.ofW (cc := cX5_volumeNamed) (maxL := 7) (ret := (some .int)) (by decide) rfl ?_
  intro p e s m args below meth c s₁ B hml hv
  obtain ⟨rfl, hP, hK⟩ := hv
  have hx := B.exec
  have hb := B.bytes
  have hr := B.returns
  have hts := atoms_spec (ws := wz yX5_volumeNamed cX5_volumeNamed 7 (some .int)) B.pre
  have ht : ∀ w ∈ lw_gd, w.before _ s = true := fun w h => hts w (List.mem_cons_of_mem _ h)
  have hown : s.vm.findClass RX5 = some m.cls := findClass_of_methodNamed B.named
  have hlocks := B.notSynchronized
  have hS : va_S (fun _ => False) s.heap s.heap [] := va_S.rf
  have zi0 : (0 : Int32).toInt = 0 := rfl
  have zi1 : (1 : Int32).toInt = 1 := rfl
  have zi2 : (2 : Int32).toInt = 2 := rfl
  have zi3 : (3 : Int32).toInt = 3 := rfl
  have zi4 : (4 : Int32).toInt = 4 := rfl
  have hl := lv_entry ([.ref h0, .ref h9, .int p0, .int p1]) (n := 7) (Nat.le_of_ble_eq_true rfl)
  rw [lg_entry_eq]
  generalize (lg_sl ([.ref h0, .ref h9, .int p0, .int p1]) ++ List.replicate (7 - (lg_sl ([.ref h0, .ref h9, .int p0, .int p1])).length) Slot.unset).toArray = ls at hl ⊢
  have hl : lv_has ls 7 [(0, .ref h0), (1, .ref h9), (2, .int p0), (3, .int p1)] := hl
  refine lv_iconst (v := 0) hx hb dX5_volumeNamed_0 (by decide) ?_
  refine lv_istore (lv' := [(4, .int 0), (0, .ref h0), (1, .ref h9), (2, .int p0), (3, .int p1)]) hx hb dX5_volumeNamed_1 hl (by decide) rfl (fun ls hl => ?_)
  refine z_loop (σ := Unit) (N := vo) (fun i u H locs ls => va_P D vwCl [(h0, .inr (5, [.int bk, .int em, .int ch, .int sm0, .int (nI vo), .int (nI cg), .ref h1, .ref h2, .ref h3, .ref h4, .ref h5, .ref h6, .ref h7, .ref h8])), (h1, .inl (D.1 13, 48, .inl fN)), (h9, .inr (9, [.ref h10, .int (nI n)])), (h10, .inl (D.1 13, 1600, .inl f))] H ∧ va_S (fun _ => False) s.heap H locs ∧ lv_has ls 7 [(4, .int (nI i)), (0, .ref h0), (1, .ref h9), (2, .int p0), (3, .int p1)]) (fun i_1 _u H locs ls hi_i_1 hI ih_3 => ?_) 0 () (by omega) ⟨hP, hS, lv_sub hl [0, 1, 2, 3, 4] rfl⟩
  obtain ⟨hP, hS, hl⟩ := hI
  have hP : va_P D vwCl [(h0, .inr (5, [.int bk, .int em, .int ch, .int sm0, .int (nI vo), .int (nI cg), .ref h1, .ref h2, .ref h3, .ref h4, .ref h5, .ref h6, .ref h7, .ref h8])), (h1, .inl (D.1 13, 48, .inl fN)), (h9, .inr (9, [.ref h10, .int (nI n)])), (h10, .inl (D.1 13, 1600, .inl f))] H := hP
  have hl : lv_has ls 7 [(4, .int (nI i_1)), (0, .ref h0), (1, .ref h9), (2, .int p0), (3, .int p1)] := hl
  refine lv_iload hx hb dX5_volumeNamed_3 (lv_at hl 0 rfl) ?_
  refine lv_aload_n hx hb dX5_volumeNamed_5 rfl (lv_at hl 1 rfl) ?_
  refine va_get (D := D) (ci := 5) (v := .int (nI vo)) (C := RX5) (T := TX5) (N := 14) hx hb ht inX5 hown hK hP 0 rfl rfl 4 (by decide) (ht (.fieldLink RX5 47 "CloneVolumes$Plan" "volumes" "I") fl_X5_47) (fun _ h9 => h9) rfl dX5_volumeNamed_6 ?_
  refine lv_icmp_ge (tgt := 82) hx hb dX5_volumeNamed_9 (by decide) (fun c_2 => ?_) (fun c_2 => ?_)
  · have g_3 : ((vo : Nat) : Int) ≤ ((i_1 : Nat) : Int) := z_le (nI_toInt (by omega)) (nI_toInt (by omega)) c_2
    refine lv_iconst (v := (-1)) hx hb dX5_volumeNamed_82 (by decide) ?_
    exact W.iret (v := (-1)) hx hb hr (fun t ht hW => ⟨⟨(-1), (), rfl, Or.inl rfl, trivial⟩, hS.F ht⟩) hS.2.2 dX5_volumeNamed_83
  · have g_3 : ((i_1 : Nat) : Int) < ((vo : Nat) : Int) := z_nle (nI_toInt (by omega)) (nI_toInt (by omega)) c_2
    refine lv_iconst (v := 1) hx hb dX5_volumeNamed_12 (by decide) ?_
    refine lv_istore (lv' := [(5, .int 1), (4, .int (nI i_1)), (0, .ref h0), (1, .ref h9), (2, .int p0), (3, .int p1)]) hx hb dX5_volumeNamed_13 hl (by decide) rfl (fun ls hl => ?_)
    refine lv_iconst (v := 0) hx hb dX5_volumeNamed_15 (by decide) ?_
    refine lv_istore (lv' := [(6, .int 0), (5, .int 1), (4, .int (nI i_1)), (0, .ref h0), (1, .ref h9), (2, .int p0), (3, .int p1)]) hx hb dX5_volumeNamed_16 hl (by decide) rfl (fun ls hl => ?_)
    refine z_loop (σ := (Int32)) (N := 6) (fun i u H locs ls => va_P D vwCl [(h0, .inr (5, [.int bk, .int em, .int ch, .int sm0, .int (nI vo), .int (nI cg), .ref h1, .ref h2, .ref h3, .ref h4, .ref h5, .ref h6, .ref h7, .ref h8])), (h1, .inl (D.1 13, 48, .inl fN)), (h9, .inr (9, [.ref h10, .int (nI n)])), (h10, .inl (D.1 13, 1600, .inl f))] H ∧ va_S (fun _ => False) s.heap H locs ∧ lv_has ls 7 [(6, .int (nI i)), (5, .int u), (4, .int (nI i_1)), (0, .ref h0), (1, .ref h9), (2, .int p0), (3, .int p1)]) (fun i_4 x_5 H locs ls hi_i_4 hI ih_18 => ?_) 0 1 (by decide) ⟨hP, hS, lv_sub hl [0, 1, 2, 3, 4, 5, 6] rfl⟩
    obtain ⟨hP, hS, hl⟩ := hI
    have hP : va_P D vwCl [(h0, .inr (5, [.int bk, .int em, .int ch, .int sm0, .int (nI vo), .int (nI cg), .ref h1, .ref h2, .ref h3, .ref h4, .ref h5, .ref h6, .ref h7, .ref h8])), (h1, .inl (D.1 13, 48, .inl fN)), (h9, .inr (9, [.ref h10, .int (nI n)])), (h10, .inl (D.1 13, 1600, .inl f))] H := hP
    have hl : lv_has ls 7 [(6, .int (nI i_4)), (5, .int x_5), (4, .int (nI i_1)), (0, .ref h0), (1, .ref h9), (2, .int p0), (3, .int p1)] := hl
    refine lv_iload hx hb dX5_volumeNamed_18 (lv_at hl 0 rfl) ?_
    refine lv_bipush (v := 6) hx hb dX5_volumeNamed_20 (by decide) ?_
    refine lv_icmp_ge (tgt := 68) hx hb dX5_volumeNamed_22 (by decide) (fun c_6 => ?_) (fun c_6 => ?_)
    · have g_7 : 6 ≤ ((i_4 : Nat) : Int) := z_le (by decide) (nI_toInt (by omega)) c_6
      obtain rfl : i_4 = 6 := by omega
      have hP : va_P D vwCl [(h0, .inr (5, [.int bk, .int em, .int ch, .int sm0, .int (nI vo), .int (nI cg), .ref h1, .ref h2, .ref h3, .ref h4, .ref h5, .ref h6, .ref h7, .ref h8])), (h1, .inl (D.1 13, 48, .inl fN)), (h9, .inr (9, [.ref h10, .int (nI n)])), (h10, .inl (D.1 13, 1600, .inl f))] H := hP
      have hl : lv_has ls 7 [(6, .int 6), (5, .int x_5), (4, .int (nI i_1)), (0, .ref h0), (1, .ref h9), (2, .int p0), (3, .int p1)] := hl
      refine lv_iload hx hb dX5_volumeNamed_68 (lv_at hl 1 rfl) ?_
      refine lv_if_eq (tgt := 76) hx hb dX5_volumeNamed_70 (by decide) (fun c_8 => ?_) (fun c_8 => ?_)
      · have g_9 : x_5.toInt = 0 := z_eq rfl (by decide) c_8
        refine lv_iinc (v := nI (i_1 + 1)) (lv' := [(4, .int (nI (i_1 + 1))), (6, .int 6), (5, .int x_5), (0, .ref h0), (1, .ref h9), (2, .int p0), (3, .int p1)]) hx hb dX5_volumeNamed_76 hl (k := 2) rfl (z_inc _) (by decide) rfl (fun ls hl => ?_)
        refine lv_goto (tgt := 3) hx hb dX5_volumeNamed_79 (by decide) ?_
        exact ih_3 () _ _ _ (by omega) ⟨hP.sub [0, 1, 2, 3] rfl, hS, lv_sub hl [0, 3, 4, 5, 6] rfl⟩
      · have g_9 : ¬ x_5.toInt = 0 := z_ne rfl (by decide) c_8
        refine lv_iload hx hb dX5_volumeNamed_73 (lv_at hl 2 rfl) ?_
        exact W.iret (v := nI i_1) hx hb hr (fun t ht hW => ⟨⟨nI i_1, (), rfl, Or.inr ⟨i_1, rfl, by omega⟩, trivial⟩, hS.F ht⟩) hS.2.2 dX5_volumeNamed_75
    · have g_7 : ((i_4 : Nat) : Int) < 6 := z_nle (by decide) (nI_toInt (by omega)) c_6
      refine lv_iload hx hb dX5_volumeNamed_25 (lv_at hl 1 rfl) ?_
      refine lv_if_eq (tgt := 59) hx hb dX5_volumeNamed_27 (by decide) (fun c_10 => ?_) (fun c_10 => ?_)
      · have g_11 : x_5.toInt = 0 := z_eq rfl (by decide) c_10
        refine lv_iconst (v := 0) hx hb dX5_volumeNamed_59 (by decide) ?_
        refine lv_istore (lv' := [(5, .int 0), (6, .int (nI i_4)), (4, .int (nI i_1)), (0, .ref h0), (1, .ref h9), (2, .int p0), (3, .int p1)]) hx hb dX5_volumeNamed_60 hl (by decide) rfl (fun ls hl => ?_)
        refine lv_iinc (v := nI (i_4 + 1)) (lv' := [(6, .int (nI (i_4 + 1))), (5, .int 0), (4, .int (nI i_1)), (0, .ref h0), (1, .ref h9), (2, .int p0), (3, .int p1)]) hx hb dX5_volumeNamed_62 hl (k := 1) rfl (z_inc _) (by decide) rfl (fun ls hl => ?_)
        refine lv_goto (tgt := 18) hx hb dX5_volumeNamed_65 (by decide) ?_
        exact ih_18 0 _ _ _ (by omega) ⟨hP.sub [0, 1, 2, 3] rfl, hS, lv_sub hl [0, 1, 2, 3, 4, 5, 6] rfl⟩
      · have g_11 : ¬ x_5.toInt = 0 := z_ne rfl (by decide) c_10
        refine lv_aload_n hx hb dX5_volumeNamed_30 rfl (lv_at hl 3 rfl) ?_
        refine va_get (D := D) (ci := 5) (v := .ref h1) (C := RX5) (T := TX5) (N := 14) hx hb ht inX5 hown hK hP 0 rfl rfl 6 (by decide) (ht (.fieldLink RX5 9 "CloneVolumes$Plan" "names" "[I") fl_X5_9) (fun _ h9 => h9) rfl dX5_volumeNamed_31 ?_
        refine lv_iload hx hb dX5_volumeNamed_34 (lv_at hl 2 rfl) ?_
        refine lv_bipush (v := 6) hx hb dX5_volumeNamed_36 (by decide) ?_
        refine lv_imul hx hb dX5_volumeNamed_38 ?_
        refine z_topi (y := nI (i_1 * 6)) (z_nmul i_1 6) ?_
        refine lv_iload hx hb dX5_volumeNamed_39 (lv_at hl 0 rfl) ?_
        refine lv_iadd hx hb dX5_volumeNamed_41 ?_
        refine z_topi (y := nI ((i_1 * 6) + i_4)) (z_nadd (i_1 * 6) i_4) ?_
        refine va_iald hx hb hK hP 1 0 rfl rfl (vp_in_nI (by omega) (by omega)) dX5_volumeNamed_42 ?_
        refine z_topi (y := fN ((i_1 * 6) + i_4)) (by rw [nI_clamp (by omega)]) ?_
        refine lv_aload_n hx hb dX5_volumeNamed_43 rfl (lv_at hl 4 rfl) ?_
        refine lv_iload_n hx hb dX5_volumeNamed_44 rfl (lv_at hl 5 rfl) ?_
        refine lv_iload hx hb dX5_volumeNamed_45 (lv_at hl 0 rfl) ?_
        refine lv_iadd hx hb dX5_volumeNamed_47 ?_
        refine lv_topi (fun x_12 ex_12 => ?_)
        refine lv_iload_n hx hb dX5_volumeNamed_48 rfl (lv_at hl 6 rfl) ?_
        refine zcS (As := [.ref h9, .int x_12, .int p1]) (rest := [.int (fN ((i_1 * 6) + i_4))]) (n := 3) ⟨hx, hb, hml, hown, ht⟩ (k_X5_letterAt l D h9 h10 n f x_12 p1 (by first | decide | omega)) (zgT ml_X5_59 st_X5_letterAt in_X5 co_X5_letterAt) rfl rfl (by decide +kernel) ⟨Nat.le_of_ble_eq_true rfl, Nat.le_of_ble_eq_true rfl⟩ hK hP hS [2, 3] rfl rfl hl.1 rfl (Nat.le_of_ble_eq_true rfl) dX5_volumeNamed_49 ⟨Nat.le_of_ble_eq_true rfl, Nat.le_of_ble_eq_true rfl⟩ (fun r_13 H locs hw hP hS => ?_)
        refine lv_icmp_ne (tgt := 59) hx hb dX5_volumeNamed_52 (by decide) (fun c_14 => ?_) (fun c_14 => ?_)
        · have g_15 : ¬ (fN ((i_1 * 6) + i_4)).toInt = r_13.toInt := z_ne rfl rfl c_14
          refine lv_iconst (v := 0) hx hb dX5_volumeNamed_59 (by decide) ?_
          refine lv_istore (lv' := [(5, .int 0), (6, .int (nI i_4)), (4, .int (nI i_1)), (0, .ref h0), (1, .ref h9), (2, .int p0), (3, .int p1)]) hx hb dX5_volumeNamed_60 hl (by decide) rfl (fun ls hl => ?_)
          refine lv_iinc (v := nI (i_4 + 1)) (lv' := [(6, .int (nI (i_4 + 1))), (5, .int 0), (4, .int (nI i_1)), (0, .ref h0), (1, .ref h9), (2, .int p0), (3, .int p1)]) hx hb dX5_volumeNamed_62 hl (k := 1) rfl (z_inc _) (by decide) rfl (fun ls hl => ?_)
          refine lv_goto (tgt := 18) hx hb dX5_volumeNamed_65 (by decide) ?_
          exact ih_18 0 _ _ _ (by omega) ⟨hP.sub [0, 1, 2, 3] rfl, hS, lv_sub hl [0, 1, 2, 3, 4, 5, 6] rfl⟩
        · have g_15 : (fN ((i_1 * 6) + i_4)).toInt = r_13.toInt := z_eq rfl rfl c_14
          refine lv_iconst (v := 1) hx hb dX5_volumeNamed_55 (by decide) ?_
          refine lv_goto (tgt := 60) hx hb dX5_volumeNamed_56 (by decide) ?_
          refine lv_istore (lv' := [(5, .int 1), (6, .int (nI i_4)), (4, .int (nI i_1)), (0, .ref h0), (1, .ref h9), (2, .int p0), (3, .int p1)]) hx hb dX5_volumeNamed_60 hl (by decide) rfl (fun ls hl => ?_)
          refine lv_iinc (v := nI (i_4 + 1)) (lv' := [(6, .int (nI (i_4 + 1))), (5, .int 1), (4, .int (nI i_1)), (0, .ref h0), (1, .ref h9), (2, .int p0), (3, .int p1)]) hx hb dX5_volumeNamed_62 hl (k := 1) rfl (z_inc _) (by decide) rfl (fun ls hl => ?_)
          refine lv_goto (tgt := 18) hx hb dX5_volumeNamed_65 (by decide) ?_
          exact ih_18 1 _ _ _ (by omega) ⟨hP.sub [0, 1, 2, 3] rfl, hS, lv_sub hl [0, 1, 2, 3, 4, 5, 6] rfl⟩
set_option maxHeartbeats 4000000 in
set_option maxRecDepth 100000 in
theorem k_X5_addVolume (l : Launch) (D : va_G) (sz : Nat) (h0 h1 h2 h3 h4 h5 h6 h7 h8 h9 h10 vo cg n : Nat) (bk em ch sm0 : Int32) (fN f : Nat → Int32) (p0 p1 : Int32) (h_n : n ≤ 1600) (h_v : vo ≤ 8) : Met l yX5_addVolume (wz yX5_addVolume cX5_addVolume 5 (some .int)) { frames := 2, cells := 0, slots := 0, locals := 120 } (va_Pc [.ref h0, .ref h9, .int p0, .int p1] (zW D sz [(h0, .inr (5, [.int bk, .int em, .int ch, .int sm0, .int (nI vo), .int (nI cg), .ref h1, .ref h2, .ref h3, .ref h4, .ref h5, .ref h6, .ref h7, .ref h8])), (h1, .inl (D.1 13, 48, .inl fN)), (h9, .inr (9, [.ref h10, .int (nI n)])), (h10, .inl (D.1 13, 1600, .inl f))])) (va_Qi (fun r (u : ((Nat) × (Nat → Int32))) => u.1 ≤ 8 ∧ vo ≤ u.1 ∧ -1 ≤ r.toInt ∧ r.toInt < (u.1 : Int)) (fun u t => zB D (va_A [(h0, .inr (5, [.int bk, .int em, .int ch, .int sm0, .int (nI vo), .int (nI cg), .ref h1, .ref h2, .ref h3, .ref h4, .ref h5, .ref h6, .ref h7, .ref h8])), (h1, .inl (D.1 13, 48, .inl fN)), (h9, .inr (9, [.ref h10, .int (nI n)])), (h10, .inl (D.1 13, 1600, .inl f))] sz) ((fun (u : ((Nat) × (Nat → Int32))) => [(h0, .inr (5, [.int bk, .int em, .int ch, .int sm0, .int (nI u.1), .int (nI cg), .ref h1, .ref h2, .ref h3, .ref h4, .ref h5, .ref h6, .ref h7, .ref h8])), (h1, .inl (D.1 13, 48, .inl u.2)), (h9, .inr (9, [.ref h10, .int (nI n)])), (h10, .inl (D.1 13, 1600, .inl f))]) u) t) (va_A [(h0, .inr (5, [.int bk, .int em, .int ch, .int sm0, .int (nI vo), .int (nI cg), .ref h1, .ref h2, .ref h3, .ref h4, .ref h5, .ref h6, .ref h7, .ref h8])), (h1, .inl (D.1 13, 48, .inl fN)), (h9, .inr (9, [.ref h10, .int (nI n)])), (h10, .inl (D.1 13, 1600, .inl f))] sz)) 0 0 (va_A [(h0, .inr (5, [.int bk, .int em, .int ch, .int sm0, .int (nI vo), .int (nI cg), .ref h1, .ref h2, .ref h3, .ref h4, .ref h5, .ref h6, .ref h7, .ref h8])), (h1, .inl (D.1 13, 48, .inl fN)), (h9, .inr (9, [.ref h10, .int (nI n)])), (h10, .inl (D.1 13, 1600, .inl f))] sz) := by
  refine Met.ofW (cc := cX5_addVolume) (maxL := 5) (ret := (some .int)) (by decide) rfl ?_
  intro p e s m args below meth c s₁ B hml hv
  obtain ⟨rfl, hsz, hP, hK, hD0⟩ := hv
  have hx := B.exec
  have hb := B.bytes
  have hr := B.returns
  have hts := atoms_spec (ws := wz yX5_addVolume cX5_addVolume 5 (some .int)) B.pre
  have ht : ∀ w ∈ lw_gd, w.before _ s = true := fun w h => hts w (List.mem_cons_of_mem _ h)
  have hown : s.vm.findClass RX5 = some m.cls := findClass_of_methodNamed B.named
  have hlocks := B.notSynchronized
  subst hsz
  have hD := hD0.self (sz := s.heap.size)
  generalize hAe : va_A [(h0, .inr (5, [.int bk, .int em, .int ch, .int sm0, .int (nI vo), .int (nI cg), .ref h1, .ref h2, .ref h3, .ref h4, .ref h5, .ref h6, .ref h7, .ref h8])), (h1, .inl (D.1 13, 48, .inl fN)), (h9, .inr (9, [.ref h10, .int (nI n)])), (h10, .inl (D.1 13, 1600, .inl f))] s.heap.size = A at hD ⊢
  have hA : ∀ q : Nat, s.heap.size ≤ q → A q := fun q h => by rw [← hAe]; exact Or.inr h
  have hS : va_S A s.heap s.heap [] := va_S.rf
  have zi0 : (0 : Int32).toInt = 0 := rfl
  have zi1 : (1 : Int32).toInt = 1 := rfl
  have zi2 : (2 : Int32).toInt = 2 := rfl
  have zi3 : (3 : Int32).toInt = 3 := rfl
  have zi4 : (4 : Int32).toInt = 4 := rfl
  have hl := lv_entry ([.ref h0, .ref h9, .int p0, .int p1]) (n := 5) (Nat.le_of_ble_eq_true rfl)
  rw [lg_entry_eq]
  generalize (lg_sl ([.ref h0, .ref h9, .int p0, .int p1]) ++ List.replicate (5 - (lg_sl ([.ref h0, .ref h9, .int p0, .int p1])).length) Slot.unset).toArray = ls at hl ⊢
  have hl : lv_has ls 5 [(0, .ref h0), (1, .ref h9), (2, .int p0), (3, .int p1)] := hl
  refine lv_aload_n hx hb dX5_addVolume_0 rfl (lv_at hl 0 rfl) ?_
  refine va_get (D := D) (ci := 5) (v := .int (nI vo)) (C := RX5) (T := TX5) (N := 14) hx hb ht inX5 hown hK hP 0 rfl rfl 4 (by decide) (ht (.fieldLink RX5 47 "CloneVolumes$Plan" "volumes" "I") fl_X5_47) (fun _ h9 => h9) rfl dX5_addVolume_1 ?_
  refine lv_bipush (v := 8) hx hb dX5_addVolume_4 (by decide) ?_
  refine lv_icmp_lt (tgt := 11) hx hb dX5_addVolume_6 (by decide) (fun c_1 => ?_) (fun c_1 => ?_)
  · have g_2 : ((vo : Nat) : Int) < 8 := z_lt (nI_toInt (by omega)) (by decide) c_1
    refine lv_iconst (v := 0) hx hb dX5_addVolume_11 (by decide) ?_
    refine lv_istore (lv' := [(4, .int 0), (0, .ref h0), (1, .ref h9), (2, .int p0), (3, .int p1)]) hx hb dX5_addVolume_12 hl (by decide) rfl (fun ls hl => ?_)
    refine z_loop (σ := (Nat → Int32)) (N := 6) (fun i u H locs ls => va_P D vwCl [(h0, .inr (5, [.int bk, .int em, .int ch, .int sm0, .int (nI vo), .int (nI cg), .ref h1, .ref h2, .ref h3, .ref h4, .ref h5, .ref h6, .ref h7, .ref h8])), (h1, .inl (D.1 13, 48, .inl u)), (h9, .inr (9, [.ref h10, .int (nI n)])), (h10, .inl (D.1 13, 1600, .inl f))] H ∧ va_D A [(h0, .inr (5, [.int bk, .int em, .int ch, .int sm0, .int (nI vo), .int (nI cg), .ref h1, .ref h2, .ref h3, .ref h4, .ref h5, .ref h6, .ref h7, .ref h8])), (h1, .inl (D.1 13, 48, .inl u)), (h9, .inr (9, [.ref h10, .int (nI n)])), (h10, .inl (D.1 13, 1600, .inl f))] ∧ va_S A s.heap H locs ∧ lv_has ls 5 [(4, .int (nI i)), (0, .ref h0), (1, .ref h9), (2, .int p0), (3, .int p1)]) (fun i_3 f_4 H locs ls hi_i_3 hI ih_14 => ?_) 0 fN (by decide) ⟨hP, hD, hS, lv_sub hl [0, 1, 2, 3, 4] rfl⟩
    obtain ⟨hP, hD, hS, hl⟩ := hI
    have hP : va_P D vwCl [(h0, .inr (5, [.int bk, .int em, .int ch, .int sm0, .int (nI vo), .int (nI cg), .ref h1, .ref h2, .ref h3, .ref h4, .ref h5, .ref h6, .ref h7, .ref h8])), (h1, .inl (D.1 13, 48, .inl f_4)), (h9, .inr (9, [.ref h10, .int (nI n)])), (h10, .inl (D.1 13, 1600, .inl f))] H := hP
    have hD : va_D A [(h0, .inr (5, [.int bk, .int em, .int ch, .int sm0, .int (nI vo), .int (nI cg), .ref h1, .ref h2, .ref h3, .ref h4, .ref h5, .ref h6, .ref h7, .ref h8])), (h1, .inl (D.1 13, 48, .inl f_4)), (h9, .inr (9, [.ref h10, .int (nI n)])), (h10, .inl (D.1 13, 1600, .inl f))] := hD
    have hl : lv_has ls 5 [(4, .int (nI i_3)), (0, .ref h0), (1, .ref h9), (2, .int p0), (3, .int p1)] := hl
    refine lv_iload hx hb dX5_addVolume_14 (lv_at hl 0 rfl) ?_
    refine lv_bipush (v := 6) hx hb dX5_addVolume_16 (by decide) ?_
    refine lv_icmp_ge (tgt := 51) hx hb dX5_addVolume_18 (by decide) (fun c_5 => ?_) (fun c_5 => ?_)
    · have g_6 : 6 ≤ ((i_3 : Nat) : Int) := z_le (by decide) (nI_toInt (by omega)) c_5
      obtain rfl : i_3 = 6 := by omega
      have hP : va_P D vwCl [(h0, .inr (5, [.int bk, .int em, .int ch, .int sm0, .int (nI vo), .int (nI cg), .ref h1, .ref h2, .ref h3, .ref h4, .ref h5, .ref h6, .ref h7, .ref h8])), (h1, .inl (D.1 13, 48, .inl f_4)), (h9, .inr (9, [.ref h10, .int (nI n)])), (h10, .inl (D.1 13, 1600, .inl f))] H := hP
      have hD : va_D A [(h0, .inr (5, [.int bk, .int em, .int ch, .int sm0, .int (nI vo), .int (nI cg), .ref h1, .ref h2, .ref h3, .ref h4, .ref h5, .ref h6, .ref h7, .ref h8])), (h1, .inl (D.1 13, 48, .inl f_4)), (h9, .inr (9, [.ref h10, .int (nI n)])), (h10, .inl (D.1 13, 1600, .inl f))] := hD
      have hl : lv_has ls 5 [(4, .int 6), (0, .ref h0), (1, .ref h9), (2, .int p0), (3, .int p1)] := hl
      refine lv_aload_n hx hb dX5_addVolume_51 rfl (lv_at hl 1 rfl) ?_
      refine lv_dup hx hb dX5_addVolume_52 rfl ?_
      refine va_get (D := D) (ci := 5) (v := .int (nI vo)) (C := RX5) (T := TX5) (N := 14) hx hb ht inX5 hown hK hP 0 rfl rfl 4 (by decide) (ht (.fieldLink RX5 47 "CloneVolumes$Plan" "volumes" "I") fl_X5_47) (fun _ h9 => h9) rfl dX5_addVolume_53 ?_
      refine lv_iconst (v := 1) hx hb dX5_addVolume_56 (by decide) ?_
      refine lv_iadd hx hb dX5_addVolume_57 ?_
      refine z_topi (y := nI (vo + 1)) (z_nadd vo 1) ?_
      refine va_put (D := D) (ci := 5) (v := .int (nI (vo + 1))) (ty := .int) (C := RX5) (T := TX5) (N := 14) hx hb ht inX5 tyX5 tyX5_ok nmX5 hown hK hP hD hS 0 rfl rfl 4 (by decide) (ht (.fieldLink RX5 47 "CloneVolumes$Plan" "volumes" "I") fl_X5_47) (fun _ h9 => h9) rfl (by decide +kernel) rfl rfl (Nat.le_of_ble_eq_true rfl) dX5_addVolume_58 (fun H locs hP hD hS => ?_)
      have hP : va_P D vwCl [(h0, .inr (5, [.int bk, .int em, .int ch, .int sm0, .int (nI (vo + 1)), .int (nI cg), .ref h1, .ref h2, .ref h3, .ref h4, .ref h5, .ref h6, .ref h7, .ref h8])), (h1, .inl (D.1 13, 48, .inl f_4)), (h9, .inr (9, [.ref h10, .int (nI n)])), (h10, .inl (D.1 13, 1600, .inl f))] H := hP
      have hD : va_D A [(h0, .inr (5, [.int bk, .int em, .int ch, .int sm0, .int (nI (vo + 1)), .int (nI cg), .ref h1, .ref h2, .ref h3, .ref h4, .ref h5, .ref h6, .ref h7, .ref h8])), (h1, .inl (D.1 13, 48, .inl f_4)), (h9, .inr (9, [.ref h10, .int (nI n)])), (h10, .inl (D.1 13, 1600, .inl f))] := hD
      refine lv_aload_n hx hb dX5_addVolume_61 rfl (lv_at hl 1 rfl) ?_
      refine va_get (D := D) (ci := 5) (v := .int (nI (vo + 1))) (C := RX5) (T := TX5) (N := 14) hx hb ht inX5 hown hK hP 0 rfl rfl 4 (by decide) (ht (.fieldLink RX5 47 "CloneVolumes$Plan" "volumes" "I") fl_X5_47) (fun _ h9 => h9) rfl dX5_addVolume_62 ?_
      refine lv_iconst (v := 1) hx hb dX5_addVolume_65 (by decide) ?_
      refine lv_isub hx hb dX5_addVolume_66 ?_
      refine z_topi (y := nI ((vo + 1) - 1)) (z_nsub (a := (vo + 1)) (b := 1) (by omega)) ?_
      have hP9 := hP.sub (ws' := [(h0, .inr (5, [.int bk, .int em, .int ch, .int sm0, .int (nI (vo + 1)), .int (nI cg), .ref h1, .ref h2, .ref h3, .ref h4, .ref h5, .ref h6, .ref h7, .ref h8])), (h1, .inl (D.1 13, 48, .inl f_4)), (h9, .inr (9, [.ref h10, .int (nI n)])), (h10, .inl (D.1 13, 1600, .inl f))]) [0, 1, 2, 3] rfl
      have hD9 := hD.sub (ws' := [(h0, .inr (5, [.int bk, .int em, .int ch, .int sm0, .int (nI (vo + 1)), .int (nI cg), .ref h1, .ref h2, .ref h3, .ref h4, .ref h5, .ref h6, .ref h7, .ref h8])), (h1, .inl (D.1 13, 48, .inl f_4)), (h9, .inr (9, [.ref h10, .int (nI n)])), (h10, .inl (D.1 13, 1600, .inl f))]) [0, 1, 2, 3] (by decide) rfl
      refine W.widen (k := 0) (n := 0) (Nat.le_of_ble_eq_true rfl) (Nat.le_of_ble_eq_true rfl) ?_
      have enr : (nI ((vo + 1) - 1)).toInt = (((vo + 1) - 1 : Nat) : Int) := nI_toInt (by omega)
      exact W.iret (v := nI ((vo + 1) - 1)) hx hb hr (fun t ht hW => ⟨⟨nI ((vo + 1) - 1), ((vo + 1), f_4), rfl, (by first | omega | (dsimp only; omega)), by rw [ht]; exact hP9, va_K.moved hW.alike hK, hD9⟩, hS.F ht⟩) hS.2.2 dX5_addVolume_67
    · have g_6 : ((i_3 : Nat) : Int) < 6 := z_nle (by decide) (nI_toInt (by omega)) c_5
      refine lv_aload_n hx hb dX5_addVolume_21 rfl (lv_at hl 1 rfl) ?_
      refine va_get (D := D) (ci := 5) (v := .ref h1) (C := RX5) (T := TX5) (N := 14) hx hb ht inX5 hown hK hP 0 rfl rfl 6 (by decide) (ht (.fieldLink RX5 9 "CloneVolumes$Plan" "names" "[I") fl_X5_9) (fun _ h9 => h9) rfl dX5_addVolume_22 ?_
      refine lv_aload_n hx hb dX5_addVolume_25 rfl (lv_at hl 1 rfl) ?_
      refine va_get (D := D) (ci := 5) (v := .int (nI vo)) (C := RX5) (T := TX5) (N := 14) hx hb ht inX5 hown hK hP 0 rfl rfl 4 (by decide) (ht (.fieldLink RX5 47 "CloneVolumes$Plan" "volumes" "I") fl_X5_47) (fun _ h9 => h9) rfl dX5_addVolume_26 ?_
      refine lv_bipush (v := 6) hx hb dX5_addVolume_29 (by decide) ?_
      refine lv_imul hx hb dX5_addVolume_31 ?_
      refine z_topi (y := nI (vo * 6)) (z_nmul vo 6) ?_
      refine lv_iload hx hb dX5_addVolume_32 (lv_at hl 0 rfl) ?_
      refine lv_iadd hx hb dX5_addVolume_34 ?_
      refine z_topi (y := nI ((vo * 6) + i_3)) (z_nadd (vo * 6) i_3) ?_
      refine lv_aload_n hx hb dX5_addVolume_35 rfl (lv_at hl 2 rfl) ?_
      refine lv_iload_n hx hb dX5_addVolume_36 rfl (lv_at hl 3 rfl) ?_
      refine lv_iload hx hb dX5_addVolume_37 (lv_at hl 0 rfl) ?_
      refine lv_iadd hx hb dX5_addVolume_39 ?_
      refine lv_topi (fun x_7 ex_7 => ?_)
      refine lv_iload_n hx hb dX5_addVolume_40 rfl (lv_at hl 4 rfl) ?_
      refine zcS (As := [.ref h9, .int x_7, .int p1]) (rest := [.int (nI ((vo * 6) + i_3)), .ref h1]) (n := 3) ⟨hx, hb, hml, hown, ht⟩ (k_X5_letterAt l D h9 h10 n f x_7 p1 (by first | decide | omega)) (zgT ml_X5_59 st_X5_letterAt in_X5 co_X5_letterAt) rfl rfl (by decide +kernel) ⟨Nat.le_of_ble_eq_true rfl, Nat.le_of_ble_eq_true rfl⟩ hK hP hS [2, 3] rfl rfl hl.1 rfl (Nat.le_of_ble_eq_true rfl) dX5_addVolume_41 ⟨Nat.le_of_ble_eq_true rfl, Nat.le_of_ble_eq_true rfl⟩ (fun r_8 H locs hw hP hS => ?_)
      refine va_iast hx hb hK hP hD hS 1 0 rfl rfl (vp_in_nI (by omega) (by omega)) dX5_addVolume_44 (fun H locs hP hD hS => ?_)
      generalize hf_9 : upd _ _ _ = f_9 at hP hD
      have hP : va_P D vwCl [(h0, .inr (5, [.int bk, .int em, .int ch, .int sm0, .int (nI vo), .int (nI cg), .ref h1, .ref h2, .ref h3, .ref h4, .ref h5, .ref h6, .ref h7, .ref h8])), (h1, .inl (D.1 13, 48, .inl f_9)), (h9, .inr (9, [.ref h10, .int (nI n)])), (h10, .inl (D.1 13, 1600, .inl f))] H := hP
      have hD : va_D A [(h0, .inr (5, [.int bk, .int em, .int ch, .int sm0, .int (nI vo), .int (nI cg), .ref h1, .ref h2, .ref h3, .ref h4, .ref h5, .ref h6, .ref h7, .ref h8])), (h1, .inl (D.1 13, 48, .inl f_9)), (h9, .inr (9, [.ref h10, .int (nI n)])), (h10, .inl (D.1 13, 1600, .inl f))] := hD
      refine lv_iinc (v := nI (i_3 + 1)) (lv' := [(4, .int (nI (i_3 + 1))), (0, .ref h0), (1, .ref h9), (2, .int p0), (3, .int p1)]) hx hb dX5_addVolume_45 hl (k := 0) rfl (z_inc _) (by decide) rfl (fun ls hl => ?_)
      refine lv_goto (tgt := 14) hx hb dX5_addVolume_48 (by decide) ?_
      exact ih_14 f_9 _ _ _ (by omega) ⟨hP.sub [0, 1, 2, 3] rfl, hD.sub [0, 1, 2, 3] (by decide) rfl, hS, lv_sub hl [0, 1, 2, 3, 4] rfl⟩
  · have g_2 : 8 ≤ ((vo : Nat) : Int) := z_nlt (nI_toInt (by omega)) (by decide) c_1
    refine lv_iconst (v := (-1)) hx hb dX5_addVolume_9 (by decide) ?_
    have hP9 := hP.sub (ws' := [(h0, .inr (5, [.int bk, .int em, .int ch, .int sm0, .int (nI vo), .int (nI cg), .ref h1, .ref h2, .ref h3, .ref h4, .ref h5, .ref h6, .ref h7, .ref h8])), (h1, .inl (D.1 13, 48, .inl fN)), (h9, .inr (9, [.ref h10, .int (nI n)])), (h10, .inl (D.1 13, 1600, .inl f))]) [0, 1, 2, 3] rfl
    have hD9 := hD.sub (ws' := [(h0, .inr (5, [.int bk, .int em, .int ch, .int sm0, .int (nI vo), .int (nI cg), .ref h1, .ref h2, .ref h3, .ref h4, .ref h5, .ref h6, .ref h7, .ref h8])), (h1, .inl (D.1 13, 48, .inl fN)), (h9, .inr (9, [.ref h10, .int (nI n)])), (h10, .inl (D.1 13, 1600, .inl f))]) [0, 1, 2, 3] (by decide) rfl
    refine W.widen (k := 0) (n := 0) (Nat.le_of_ble_eq_true rfl) (Nat.le_of_ble_eq_true rfl) ?_
    have enr : ((-1) : Int32).toInt = (-1) := by decide
    exact W.iret (v := (-1)) hx hb hr (fun t ht hW => ⟨⟨(-1), (vo, fN), rfl, (by first | omega | (dsimp only; omega)), by rw [ht]; exact hP9, va_K.moved hW.alike hK, hD9⟩, hS.F ht⟩) hS.2.2 dX5_addVolume_10
set_option maxHeartbeats 4000000 in
set_option maxRecDepth 100000 in
theorem k_X6_advance0 (l : Launch) (D : va_G) (sz : Nat) (h0 h1 h2 h3 h4 : Nat) (pl mo ki wo si st : Int32) (op sp n : Nat) (f fw : Nat → Int32) (h_2 : sp ≤ n) (h_3 : n ≤ 1600) : Met l yX6_advance (wz yX6_advance cX6_advance 2 none) { frames := 1, cells := 0, slots := 0, locals := 60 } (va_Pc [.ref h0] (zW D sz [(h0, .inr (6, [.int 0, .int pl, .ref h1, .ref h2, .ref h3, .int mo, .int (nI op), .int ki, .int st, .int (nI sp), .int wo, .int si])), (h1, .inr (9, [.ref h4, .int (nI n)])), (h4, .inl (D.1 13, 1600, .inl f)), (h2, .inl (D.1 14, 179, .inl fw))])) (va_Qv (fun (u : ((Int32) × (Nat) × (Nat) × (Int32) × (Int32))) => u.2.1 ≤ u.2.2.1 ∧ u.2.2.1 ≤ n ∧ sp ≤ u.2.2.1) (fun u t => zB D (va_A [(h0, .inr (6, [.int 0, .int pl, .ref h1, .ref h2, .ref h3, .int mo, .int (nI op), .int ki, .int st, .int (nI sp), .int wo, .int si])), (h1, .inr (9, [.ref h4, .int (nI n)])), (h4, .inl (D.1 13, 1600, .inl f)), (h2, .inl (D.1 14, 179, .inl fw))] sz) ((fun (u : ((Int32) × (Nat) × (Nat) × (Int32) × (Int32))) => [(h0, .inr (6, [.int 0, .int pl, .ref h1, .ref h2, .ref h3, .int mo, .int (nI op), .int u.1, .int (nI u.2.1), .int (nI u.2.2.1), .int u.2.2.2.1, .int u.2.2.2.2])), (h1, .inr (9, [.ref h4, .int (nI n)])), (h4, .inl (D.1 13, 1600, .inl f)), (h2, .inl (D.1 14, 179, .inl fw))]) u) t) (va_A [(h0, .inr (6, [.int 0, .int pl, .ref h1, .ref h2, .ref h3, .int mo, .int (nI op), .int ki, .int st, .int (nI sp), .int wo, .int si])), (h1, .inr (9, [.ref h4, .int (nI n)])), (h4, .inl (D.1 13, 1600, .inl f)), (h2, .inl (D.1 14, 179, .inl fw))] sz)) 0 0 (va_A [(h0, .inr (6, [.int 0, .int pl, .ref h1, .ref h2, .ref h3, .int mo, .int (nI op), .int ki, .int st, .int (nI sp), .int wo, .int si])), (h1, .inr (9, [.ref h4, .int (nI n)])), (h4, .inl (D.1 13, 1600, .inl f)), (h2, .inl (D.1 14, 179, .inl fw))] sz) := by
  refine Met.ofW (cc := cX6_advance) (maxL := 2) (ret := none) (by decide) rfl ?_
  intro p e s m args below meth c s₁ B hml hv
  obtain ⟨rfl, hsz, hP, hK, hD0⟩ := hv
  have hx := B.exec
  have hb := B.bytes
  have hr := B.returns
  have hts := atoms_spec (ws := wz yX6_advance cX6_advance 2 none) B.pre
  have ht : ∀ w ∈ lw_gd, w.before _ s = true := fun w h => hts w (List.mem_cons_of_mem _ h)
  have hown : s.vm.findClass RX6 = some m.cls := findClass_of_methodNamed B.named
  have hlocks := B.notSynchronized
  subst hsz
  have hD := hD0.self (sz := s.heap.size)
  generalize hAe : va_A [(h0, .inr (6, [.int 0, .int pl, .ref h1, .ref h2, .ref h3, .int mo, .int (nI op), .int ki, .int st, .int (nI sp), .int wo, .int si])), (h1, .inr (9, [.ref h4, .int (nI n)])), (h4, .inl (D.1 13, 1600, .inl f)), (h2, .inl (D.1 14, 179, .inl fw))] s.heap.size = A at hD ⊢
  have hA : ∀ q : Nat, s.heap.size ≤ q → A q := fun q h => by rw [← hAe]; exact Or.inr h
  have hS : va_S A s.heap s.heap [] := va_S.rf
  have zi0 : (0 : Int32).toInt = 0 := rfl
  have zi1 : (1 : Int32).toInt = 1 := rfl
  have zi2 : (2 : Int32).toInt = 2 := rfl
  have zi3 : (3 : Int32).toInt = 3 := rfl
  have zi4 : (4 : Int32).toInt = 4 := rfl
  have hl := lv_entry ([.ref h0]) (n := 2) (Nat.le_of_ble_eq_true rfl)
  rw [lg_entry_eq]
  generalize (lg_sl ([.ref h0]) ++ List.replicate (2 - (lg_sl ([.ref h0])).length) Slot.unset).toArray = ls at hl ⊢
  have hl : lv_has ls 2 [(0, .ref h0)] := hl
  refine lv_aload_n hx hb dX6_advance_0 rfl (lv_at hl 0 rfl) ?_
  refine va_get (D := D) (ci := 6) (v := .int 0) (C := RX6) (T := TX6) (N := 12) hx hb ht inX6 hown hK hP 0 rfl rfl 0 (by decide) (ht (.fieldLink RX6 61 "CloneVolumes$Reader" "fault" "I") fl_X6_61) (fun _ h9 => h9) rfl dX6_advance_1 ?_
  refine lv_if_eq (tgt := 8) hx hb dX6_advance_4 (by decide) (fun _ => ?_) (fun c_1 => (z_abs c_1 (by decide)).elim)
  refine lv_aload_n hx hb dX6_advance_8 rfl (lv_at hl 0 rfl) ?_
  refine lv_aload_n hx hb dX6_advance_9 rfl (lv_at hl 0 rfl) ?_
  refine va_get (D := D) (ci := 6) (v := .int (nI sp)) (C := RX6) (T := TX6) (N := 12) hx hb ht inX6 hown hK hP 0 rfl rfl 9 (by decide) (ht (.fieldLink RX6 88 "CloneVolumes$Reader" "stop" "I") fl_X6_88) (fun _ h9 => h9) rfl dX6_advance_10 ?_
  refine va_put (D := D) (ci := 6) (v := .int (nI sp)) (ty := .int) (C := RX6) (T := TX6) (N := 12) hx hb ht inX6 tyX6 tyX6_ok nmX6 hown hK hP hD hS 0 rfl rfl 8 (by decide) (ht (.fieldLink RX6 51 "CloneVolumes$Reader" "start" "I") fl_X6_51) (fun _ h9 => h9) rfl (by decide +kernel) rfl rfl (Nat.le_of_ble_eq_true rfl) dX6_advance_13 (fun H locs hP hD hS => ?_)
  have hP : va_P D vwCl [(h0, .inr (6, [.int 0, .int pl, .ref h1, .ref h2, .ref h3, .int mo, .int (nI op), .int ki, .int (nI sp), .int (nI sp), .int wo, .int si])), (h1, .inr (9, [.ref h4, .int (nI n)])), (h4, .inl (D.1 13, 1600, .inl f)), (h2, .inl (D.1 14, 179, .inl fw))] H := hP
  have hD : va_D A [(h0, .inr (6, [.int 0, .int pl, .ref h1, .ref h2, .ref h3, .int mo, .int (nI op), .int ki, .int (nI sp), .int (nI sp), .int wo, .int si])), (h1, .inr (9, [.ref h4, .int (nI n)])), (h4, .inl (D.1 13, 1600, .inl f)), (h2, .inl (D.1 14, 179, .inl fw))] := hD
  refine z_loop (σ := Unit) (N := 1600) (fun i u H locs ls => (sp + i ≤ n) ∧ va_P D vwCl [(h0, .inr (6, [.int 0, .int pl, .ref h1, .ref h2, .ref h3, .int mo, .int (nI op), .int ki, .int (nI (sp + i)), .int (nI sp), .int wo, .int si])), (h1, .inr (9, [.ref h4, .int (nI n)])), (h4, .inl (D.1 13, 1600, .inl f)), (h2, .inl (D.1 14, 179, .inl fw))] H ∧ va_D A [(h0, .inr (6, [.int 0, .int pl, .ref h1, .ref h2, .ref h3, .int mo, .int (nI op), .int ki, .int (nI (sp + i)), .int (nI sp), .int wo, .int si])), (h1, .inr (9, [.ref h4, .int (nI n)])), (h4, .inl (D.1 13, 1600, .inl f)), (h2, .inl (D.1 14, 179, .inl fw))] ∧ va_S A s.heap H locs ∧ lv_has ls 2 [(0, .ref h0)]) (fun i_3 _u H locs ls hi_i_3 hI ih_16 => ?_) 0 () (by decide) ⟨(by first | omega | (dsimp only; omega)), hP, hD, hS, lv_sub hl [0] rfl⟩
  obtain ⟨hv_i_3, hP, hD, hS, hl⟩ := hI
  have hv_i_3 : sp + i_3 ≤ n := hv_i_3
  have hP : va_P D vwCl [(h0, .inr (6, [.int 0, .int pl, .ref h1, .ref h2, .ref h3, .int mo, .int (nI op), .int ki, .int (nI (sp + i_3)), .int (nI sp), .int wo, .int si])), (h1, .inr (9, [.ref h4, .int (nI n)])), (h4, .inl (D.1 13, 1600, .inl f)), (h2, .inl (D.1 14, 179, .inl fw))] H := hP
  have hD : va_D A [(h0, .inr (6, [.int 0, .int pl, .ref h1, .ref h2, .ref h3, .int mo, .int (nI op), .int ki, .int (nI (sp + i_3)), .int (nI sp), .int wo, .int si])), (h1, .inr (9, [.ref h4, .int (nI n)])), (h4, .inl (D.1 13, 1600, .inl f)), (h2, .inl (D.1 14, 179, .inl fw))] := hD
  have hl : lv_has ls 2 [(0, .ref h0)] := hl
  refine lv_aload_n hx hb dX6_advance_16 rfl (lv_at hl 0 rfl) ?_
  refine va_get (D := D) (ci := 6) (v := .int (nI (sp + i_3))) (C := RX6) (T := TX6) (N := 12) hx hb ht inX6 hown hK hP 0 rfl rfl 8 (by decide) (ht (.fieldLink RX6 51 "CloneVolumes$Reader" "start" "I") fl_X6_51) (fun _ h9 => h9) rfl dX6_advance_17 ?_
  refine lv_aload_n hx hb dX6_advance_20 rfl (lv_at hl 0 rfl) ?_
  refine va_get (D := D) (ci := 6) (v := .ref h1) (C := RX6) (T := TX6) (N := 12) hx hb ht inX6 hown hK hP 0 rfl rfl 2 (by decide) (ht (.fieldLink RX6 27 "CloneVolumes$Reader" "tape" "LCloneVolumes$Tape;") fl_X6_27) (fun _ h9 => h9) rfl dX6_advance_21 ?_
  refine va_get (D := D) (ci := 9) (v := .int (nI n)) (C := RX9) (T := TX9) (N := 2) hx hb ht inX9 hown hK hP 1 rfl rfl 1 (by decide) (ht (.fieldLink RX6 91 "CloneVolumes$Tape" "length" "I") fl_X6_91) (fun _ h9 => h9) rfl dX6_advance_24 ?_
  refine lv_icmp_ge (tgt := 61) hx hb dX6_advance_27 (by decide) (fun c_4 => ?_) (fun c_4 => ?_)
  · have g_5 : ((n : Nat) : Int) ≤ ((sp + i_3 : Nat) : Int) := z_le (nI_toInt (by omega)) (nI_toInt (by omega)) c_4
    refine lv_aload_n hx hb dX6_advance_61 rfl (lv_at hl 0 rfl) ?_
    refine lv_aload_n hx hb dX6_advance_62 rfl (lv_at hl 0 rfl) ?_
    refine va_get (D := D) (ci := 6) (v := .int (nI (sp + i_3))) (C := RX6) (T := TX6) (N := 12) hx hb ht inX6 hown hK hP 0 rfl rfl 8 (by decide) (ht (.fieldLink RX6 51 "CloneVolumes$Reader" "start" "I") fl_X6_51) (fun _ h9 => h9) rfl dX6_advance_63 ?_
    refine va_put (D := D) (ci := 6) (v := .int (nI (sp + i_3))) (ty := .int) (C := RX6) (T := TX6) (N := 12) hx hb ht inX6 tyX6 tyX6_ok nmX6 hown hK hP hD hS 0 rfl rfl 9 (by decide) (ht (.fieldLink RX6 88 "CloneVolumes$Reader" "stop" "I") fl_X6_88) (fun _ h9 => h9) rfl (by decide +kernel) rfl rfl (Nat.le_of_ble_eq_true rfl) dX6_advance_66 (fun H locs hP hD hS => ?_)
    have hP : va_P D vwCl [(h0, .inr (6, [.int 0, .int pl, .ref h1, .ref h2, .ref h3, .int mo, .int (nI op), .int ki, .int (nI (sp + i_3)), .int (nI (sp + i_3)), .int wo, .int si])), (h1, .inr (9, [.ref h4, .int (nI n)])), (h4, .inl (D.1 13, 1600, .inl f)), (h2, .inl (D.1 14, 179, .inl fw))] H := hP
    have hD : va_D A [(h0, .inr (6, [.int 0, .int pl, .ref h1, .ref h2, .ref h3, .int mo, .int (nI op), .int ki, .int (nI (sp + i_3)), .int (nI (sp + i_3)), .int wo, .int si])), (h1, .inr (9, [.ref h4, .int (nI n)])), (h4, .inl (D.1 13, 1600, .inl f)), (h2, .inl (D.1 14, 179, .inl fw))] := hD
    refine lv_aload_n hx hb dX6_advance_69 rfl (lv_at hl 0 rfl) ?_
    refine lv_iconst (v := (-1)) hx hb dX6_advance_70 (by decide) ?_
    refine va_put (D := D) (ci := 6) (v := .int (-1)) (ty := .int) (C := RX6) (T := TX6) (N := 12) hx hb ht inX6 tyX6 tyX6_ok nmX6 hown hK hP hD hS 0 rfl rfl 10 (by decide) (ht (.fieldLink RX6 72 "CloneVolumes$Reader" "word" "I") fl_X6_72) (fun _ h9 => h9) rfl (by decide +kernel) rfl rfl (Nat.le_of_ble_eq_true rfl) dX6_advance_71 (fun H locs hP hD hS => ?_)
    have hP : va_P D vwCl [(h0, .inr (6, [.int 0, .int pl, .ref h1, .ref h2, .ref h3, .int mo, .int (nI op), .int ki, .int (nI (sp + i_3)), .int (nI (sp + i_3)), .int (-1), .int si])), (h1, .inr (9, [.ref h4, .int (nI n)])), (h4, .inl (D.1 13, 1600, .inl f)), (h2, .inl (D.1 14, 179, .inl fw))] H := hP
    have hD : va_D A [(h0, .inr (6, [.int 0, .int pl, .ref h1, .ref h2, .ref h3, .int mo, .int (nI op), .int ki, .int (nI (sp + i_3)), .int (nI (sp + i_3)), .int (-1), .int si])), (h1, .inr (9, [.ref h4, .int (nI n)])), (h4, .inl (D.1 13, 1600, .inl f)), (h2, .inl (D.1 14, 179, .inl fw))] := hD
    refine lv_aload_n hx hb dX6_advance_74 rfl (lv_at hl 0 rfl) ?_
    refine lv_aload_n hx hb dX6_advance_75 rfl (lv_at hl 0 rfl) ?_
    refine va_get (D := D) (ci := 6) (v := .ref h1) (C := RX6) (T := TX6) (N := 12) hx hb ht inX6 hown hK hP 0 rfl rfl 2 (by decide) (ht (.fieldLink RX6 27 "CloneVolumes$Reader" "tape" "LCloneVolumes$Tape;") fl_X6_27) (fun _ h9 => h9) rfl dX6_advance_76 ?_
    refine lv_aload_n hx hb dX6_advance_79 rfl (lv_at hl 0 rfl) ?_
    refine va_get (D := D) (ci := 6) (v := .int (nI (sp + i_3))) (C := RX6) (T := TX6) (N := 12) hx hb ht inX6 hown hK hP 0 rfl rfl 8 (by decide) (ht (.fieldLink RX6 51 "CloneVolumes$Reader" "start" "I") fl_X6_51) (fun _ h9 => h9) rfl dX6_advance_80 ?_
    have en_6 : (nI (sp + i_3)).toInt = ((sp + i_3 : Nat) : Int) := nI_toInt (by omega)
    refine zcV (As := [.int (nI (sp + i_3))]) (rest := [.ref h0]) (C := RX9) (n := 1) ⟨hx, hb, hml, hown, ht⟩ (k_X9_at l D h1 h4 n f (nI (sp + i_3)) (by first | decide | omega)) (zgV ml_X6_104 im_X9_at se_X9_at in_X9 co_X9_at) rfl rfl (by decide +kernel) ⟨Nat.le_of_ble_eq_true rfl, Nat.le_of_ble_eq_true rfl⟩ hK hP hS [1, 2] rfl 0 rfl rfl rfl rfl hl.1 rfl (Nat.le_of_ble_eq_true rfl) dX6_advance_83 ⟨Nat.le_of_ble_eq_true rfl, Nat.le_of_ble_eq_true rfl⟩ (fun r_7 H locs hw hP hS => ?_)
    rcases hw with ⟨rfl, g_8⟩ | ⟨rfl, g_9⟩
    · skip
      refine z_topi (y := f (sp + i_3)) (by rw [nI_clamp (by omega)]) ?_
      refine va_put (D := D) (ci := 6) (v := .int (f (sp + i_3))) (ty := .int) (C := RX6) (T := TX6) (N := 12) hx hb ht inX6 tyX6 tyX6_ok nmX6 hown hK hP hD hS 0 rfl rfl 11 (by decide) (ht (.fieldLink RX6 108 "CloneVolumes$Reader" "sign" "I") fl_X6_108) (fun _ h9 => h9) rfl (by decide +kernel) rfl rfl (Nat.le_of_ble_eq_true rfl) dX6_advance_86 (fun H locs hP hD hS => ?_)
      have hP : va_P D vwCl [(h0, .inr (6, [.int 0, .int pl, .ref h1, .ref h2, .ref h3, .int mo, .int (nI op), .int ki, .int (nI (sp + i_3)), .int (nI (sp + i_3)), .int (-1), .int (f (sp + i_3))])), (h1, .inr (9, [.ref h4, .int (nI n)])), (h4, .inl (D.1 13, 1600, .inl f)), (h2, .inl (D.1 14, 179, .inl fw))] H := hP
      have hD : va_D A [(h0, .inr (6, [.int 0, .int pl, .ref h1, .ref h2, .ref h3, .int mo, .int (nI op), .int ki, .int (nI (sp + i_3)), .int (nI (sp + i_3)), .int (-1), .int (f (sp + i_3))])), (h1, .inr (9, [.ref h4, .int (nI n)])), (h4, .inl (D.1 13, 1600, .inl f)), (h2, .inl (D.1 14, 179, .inl fw))] := hD
      refine lv_aload_n hx hb dX6_advance_89 rfl (lv_at hl 0 rfl) ?_
      refine va_get (D := D) (ci := 6) (v := .int (f (sp + i_3))) (C := RX6) (T := TX6) (N := 12) hx hb ht inX6 hown hK hP 0 rfl rfl 11 (by decide) (ht (.fieldLink RX6 108 "CloneVolumes$Reader" "sign" "I") fl_X6_108) (fun _ h9 => h9) rfl dX6_advance_90 ?_
      refine lv_iconst (v := (-1)) hx hb dX6_advance_93 (by decide) ?_
      refine lv_icmp_ne (tgt := 105) hx hb dX6_advance_94 (by decide) (fun c_10 => ?_) (fun c_10 => ?_)
      · have g_11 : ¬ (f (sp + i_3)).toInt = (-1) := z_ne rfl (by decide) c_10
        refine lv_aload_n hx hb dX6_advance_105 rfl (lv_at hl 0 rfl) ?_
        refine va_get (D := D) (ci := 6) (v := .int (f (sp + i_3))) (C := RX6) (T := TX6) (N := 12) hx hb ht inX6 hown hK hP 0 rfl rfl 11 (by decide) (ht (.fieldLink RX6 108 "CloneVolumes$Reader" "sign" "I") fl_X6_108) (fun _ h9 => h9) rfl dX6_advance_106 ?_
        refine zcS (As := [.int (f (sp + i_3))]) (rest := []) (n := 1) ⟨hx, hb, hml, hown, ht⟩ (k_X6_isLetter l D (f (sp + i_3))) (zgT ml_X6_111 st_X6_isLetter in_X6 co_X6_isLetter) rfl rfl (by decide +kernel) ⟨Nat.le_of_ble_eq_true rfl, Nat.le_of_ble_eq_true rfl⟩ hK hP hS [] rfl rfl hl.1 rfl (Nat.le_of_ble_eq_true rfl) dX6_advance_109 ⟨Nat.le_of_ble_eq_true rfl, Nat.le_of_ble_eq_true rfl⟩ (fun r_12 H locs hw hP hS => ?_)
        rcases hw with ⟨rfl, g_13⟩ | ⟨rfl, g_14⟩
        · skip
          refine lv_if_eq (tgt := 176) hx hb dX6_advance_112 (by decide) (fun c_15 => (z_abs c_15 (by decide)).elim) (fun _ => ?_)
          refine lv_aload_n hx hb dX6_advance_115 rfl (lv_at hl 0 rfl) ?_
          refine lv_iconst (v := 1) hx hb dX6_advance_116 (by decide) ?_
          refine va_put (D := D) (ci := 6) (v := .int 1) (ty := .int) (C := RX6) (T := TX6) (N := 12) hx hb ht inX6 tyX6 tyX6_ok nmX6 hown hK hP hD hS 0 rfl rfl 7 (by decide) (ht (.fieldLink RX6 44 "CloneVolumes$Reader" "kind" "I") fl_X6_44) (fun _ h9 => h9) rfl (by decide +kernel) rfl rfl (Nat.le_of_ble_eq_true rfl) dX6_advance_117 (fun H locs hP hD hS => ?_)
          have hP : va_P D vwCl [(h0, .inr (6, [.int 0, .int pl, .ref h1, .ref h2, .ref h3, .int mo, .int (nI op), .int 1, .int (nI (sp + i_3)), .int (nI (sp + i_3)), .int (-1), .int (f (sp + i_3))])), (h1, .inr (9, [.ref h4, .int (nI n)])), (h4, .inl (D.1 13, 1600, .inl f)), (h2, .inl (D.1 14, 179, .inl fw))] H := hP
          have hD : va_D A [(h0, .inr (6, [.int 0, .int pl, .ref h1, .ref h2, .ref h3, .int mo, .int (nI op), .int 1, .int (nI (sp + i_3)), .int (nI (sp + i_3)), .int (-1), .int (f (sp + i_3))])), (h1, .inr (9, [.ref h4, .int (nI n)])), (h4, .inl (D.1 13, 1600, .inl f)), (h2, .inl (D.1 14, 179, .inl fw))] := hD
          refine z_loop (σ := Unit) (N := 1600) (fun i u H locs ls => ((sp + i_3) + i ≤ n) ∧ va_P D vwCl [(h0, .inr (6, [.int 0, .int pl, .ref h1, .ref h2, .ref h3, .int mo, .int (nI op), .int 1, .int (nI (sp + i_3)), .int (nI ((sp + i_3) + i)), .int (-1), .int (f (sp + i_3))])), (h1, .inr (9, [.ref h4, .int (nI n)])), (h4, .inl (D.1 13, 1600, .inl f)), (h2, .inl (D.1 14, 179, .inl fw))] H ∧ va_D A [(h0, .inr (6, [.int 0, .int pl, .ref h1, .ref h2, .ref h3, .int mo, .int (nI op), .int 1, .int (nI (sp + i_3)), .int (nI ((sp + i_3) + i)), .int (-1), .int (f (sp + i_3))])), (h1, .inr (9, [.ref h4, .int (nI n)])), (h4, .inl (D.1 13, 1600, .inl f)), (h2, .inl (D.1 14, 179, .inl fw))] ∧ va_S A s.heap H locs ∧ lv_has ls 2 [(0, .ref h0)]) (fun i_17 _u H locs ls hi_i_17 hI ih_120 => ?_) 0 () (by decide) ⟨(by first | omega | (dsimp only; omega)), hP, hD, hS, lv_sub hl [0] rfl⟩
          obtain ⟨hv_i_17, hP, hD, hS, hl⟩ := hI
          have hv_i_17 : (sp + i_3) + i_17 ≤ n := hv_i_17
          have hP : va_P D vwCl [(h0, .inr (6, [.int 0, .int pl, .ref h1, .ref h2, .ref h3, .int mo, .int (nI op), .int 1, .int (nI (sp + i_3)), .int (nI ((sp + i_3) + i_17)), .int (-1), .int (f (sp + i_3))])), (h1, .inr (9, [.ref h4, .int (nI n)])), (h4, .inl (D.1 13, 1600, .inl f)), (h2, .inl (D.1 14, 179, .inl fw))] H := hP
          have hD : va_D A [(h0, .inr (6, [.int 0, .int pl, .ref h1, .ref h2, .ref h3, .int mo, .int (nI op), .int 1, .int (nI (sp + i_3)), .int (nI ((sp + i_3) + i_17)), .int (-1), .int (f (sp + i_3))])), (h1, .inr (9, [.ref h4, .int (nI n)])), (h4, .inl (D.1 13, 1600, .inl f)), (h2, .inl (D.1 14, 179, .inl fw))] := hD
          have hl : lv_has ls 2 [(0, .ref h0)] := hl
          have hz_18 : i_17 = 0 → (f ((sp + i_3) + i_17)).toInt = (f ((sp + i_3))).toInt := fun h => by rw [h]; rfl
          refine lv_aload_n hx hb dX6_advance_120 rfl (lv_at hl 0 rfl) ?_
          refine va_get (D := D) (ci := 6) (v := .int (nI ((sp + i_3) + i_17))) (C := RX6) (T := TX6) (N := 12) hx hb ht inX6 hown hK hP 0 rfl rfl 9 (by decide) (ht (.fieldLink RX6 88 "CloneVolumes$Reader" "stop" "I") fl_X6_88) (fun _ h9 => h9) rfl dX6_advance_121 ?_
          refine lv_aload_n hx hb dX6_advance_124 rfl (lv_at hl 0 rfl) ?_
          refine va_get (D := D) (ci := 6) (v := .ref h1) (C := RX6) (T := TX6) (N := 12) hx hb ht inX6 hown hK hP 0 rfl rfl 2 (by decide) (ht (.fieldLink RX6 27 "CloneVolumes$Reader" "tape" "LCloneVolumes$Tape;") fl_X6_27) (fun _ h9 => h9) rfl dX6_advance_125 ?_
          refine va_get (D := D) (ci := 9) (v := .int (nI n)) (C := RX9) (T := TX9) (N := 2) hx hb ht inX9 hown hK hP 1 rfl rfl 1 (by decide) (ht (.fieldLink RX6 91 "CloneVolumes$Tape" "length" "I") fl_X6_91) (fun _ h9 => h9) rfl dX6_advance_128 ?_
          refine lv_icmp_ge (tgt := 165) hx hb dX6_advance_131 (by decide) (fun c_19 => ?_) (fun c_19 => ?_)
          · have g_20 : ((n : Nat) : Int) ≤ (((sp + i_3) + i_17 : Nat) : Int) := z_le (nI_toInt (by omega)) (nI_toInt (by omega)) c_19
            refine lv_aload_n hx hb dX6_advance_165 rfl (lv_at hl 0 rfl) ?_
            refine lv_aload_n hx hb dX6_advance_166 rfl (lv_at hl 0 rfl) ?_
            refine zcV (As := []) (rest := [.ref h0]) (C := RX6) (n := 0) ⟨hx, hb, hml, hown, ht⟩ (k_X6_wordNumber l D h0 h1 h2 h3 h4 0 pl mo 1 (-1) (f (sp + i_3)) op (sp + i_3) ((sp + i_3) + i_17) n f fw (by first | decide | omega) (by first | decide | omega) (by first | decide | omega)) (zgV ml_X6_114 im_X6_wordNumber se_X6_wordNumber in_X6 co_X6_wordNumber) rfl rfl (by decide +kernel) ⟨Nat.le_of_ble_eq_true rfl, Nat.le_of_ble_eq_true rfl⟩ hK hP hS [0, 1, 2, 3] rfl 0 rfl rfl rfl rfl hl.1 rfl (Nat.le_of_ble_eq_true rfl) dX6_advance_167 ⟨Nat.le_of_ble_eq_true rfl, Nat.le_of_ble_eq_true rfl⟩ (fun r_21 H locs hw hP hS => ?_)
            refine va_put (D := D) (ci := 6) (v := .int r_21) (ty := .int) (C := RX6) (T := TX6) (N := 12) hx hb ht inX6 tyX6 tyX6_ok nmX6 hown hK hP hD hS 0 rfl rfl 10 (by decide) (ht (.fieldLink RX6 72 "CloneVolumes$Reader" "word" "I") fl_X6_72) (fun _ h9 => h9) rfl (by decide +kernel) rfl rfl (Nat.le_of_ble_eq_true rfl) dX6_advance_170 (fun H locs hP hD hS => ?_)
            have hP : va_P D vwCl [(h0, .inr (6, [.int 0, .int pl, .ref h1, .ref h2, .ref h3, .int mo, .int (nI op), .int 1, .int (nI (sp + i_3)), .int (nI ((sp + i_3) + i_17)), .int r_21, .int (f (sp + i_3))])), (h1, .inr (9, [.ref h4, .int (nI n)])), (h4, .inl (D.1 13, 1600, .inl f)), (h2, .inl (D.1 14, 179, .inl fw))] H := hP
            have hD : va_D A [(h0, .inr (6, [.int 0, .int pl, .ref h1, .ref h2, .ref h3, .int mo, .int (nI op), .int 1, .int (nI (sp + i_3)), .int (nI ((sp + i_3) + i_17)), .int r_21, .int (f (sp + i_3))])), (h1, .inr (9, [.ref h4, .int (nI n)])), (h4, .inl (D.1 13, 1600, .inl f)), (h2, .inl (D.1 14, 179, .inl fw))] := hD
            refine lv_goto (tgt := 251) hx hb dX6_advance_173 (by decide) ?_
            refine lv_aload_n hx hb dX6_advance_251 rfl (lv_at hl 0 rfl) ?_
            refine va_get (D := D) (ci := 6) (v := .ref h1) (C := RX6) (T := TX6) (N := 12) hx hb ht inX6 hown hK hP 0 rfl rfl 2 (by decide) (ht (.fieldLink RX6 27 "CloneVolumes$Reader" "tape" "LCloneVolumes$Tape;") fl_X6_27) (fun _ h9 => h9) rfl dX6_advance_252 ?_
            refine lv_aload_n hx hb dX6_advance_255 rfl (lv_at hl 0 rfl) ?_
            refine va_get (D := D) (ci := 6) (v := .int (nI (sp + i_3))) (C := RX6) (T := TX6) (N := 12) hx hb ht inX6 hown hK hP 0 rfl rfl 8 (by decide) (ht (.fieldLink RX6 51 "CloneVolumes$Reader" "start" "I") fl_X6_51) (fun _ h9 => h9) rfl dX6_advance_256 ?_
            refine lv_iconst (v := 1) hx hb dX6_advance_259 (by decide) ?_
            refine lv_isub hx hb dX6_advance_260 ?_
            refine lv_topi (fun x_22 ex_22 => ?_)
            refine zcV (As := [.int x_22]) (rest := []) (C := RX9) (n := 1) ⟨hx, hb, hml, hown, ht⟩ (k_X9_at l D h1 h4 n f x_22 (by first | decide | omega)) (zgV ml_X6_104 im_X9_at se_X9_at in_X9 co_X9_at) rfl rfl (by decide +kernel) ⟨Nat.le_of_ble_eq_true rfl, Nat.le_of_ble_eq_true rfl⟩ hK hP hS [1, 2] rfl 0 rfl rfl rfl rfl hl.1 rfl (Nat.le_of_ble_eq_true rfl) dX6_advance_261 ⟨Nat.le_of_ble_eq_true rfl, Nat.le_of_ble_eq_true rfl⟩ (fun r_23 H locs hw hP hS => ?_)
            rcases hw with ⟨rfl, g_24⟩ | ⟨rfl, g_25⟩
            · skip
              refine lv_istore_n (lv' := [(1, .int (f x_22.toNatClampNeg)), (0, .ref h0)]) hx hb dX6_advance_264 rfl hl (by decide) rfl (fun ls hl => ?_)
              refine lv_aload_n hx hb dX6_advance_265 rfl (lv_at hl 1 rfl) ?_
              refine va_get (D := D) (ci := 6) (v := .int 1) (C := RX6) (T := TX6) (N := 12) hx hb ht inX6 hown hK hP 0 rfl rfl 7 (by decide) (ht (.fieldLink RX6 44 "CloneVolumes$Reader" "kind" "I") fl_X6_44) (fun _ h9 => h9) rfl dX6_advance_266 ?_
              refine lv_iconst (v := 1) hx hb dX6_advance_269 (by decide) ?_
              refine lv_icmp_eq (tgt := 281) hx hb dX6_advance_270 (by decide) (fun _ => ?_) (fun c_26 => (z_abs c_26 (by decide)).elim)
              refine lv_iload_n hx hb dX6_advance_281 rfl (lv_at hl 0 rfl) ?_
              refine zcS (As := [.int (f x_22.toNatClampNeg)]) (rest := []) (n := 1) ⟨hx, hb, hml, hown, ht⟩ (k_X6_isLetter l D (f x_22.toNatClampNeg)) (zgT ml_X6_111 st_X6_isLetter in_X6 co_X6_isLetter) rfl rfl (by decide +kernel) ⟨Nat.le_of_ble_eq_true rfl, Nat.le_of_ble_eq_true rfl⟩ hK hP hS [] rfl rfl hl.1 rfl (Nat.le_of_ble_eq_true rfl) dX6_advance_282 ⟨Nat.le_of_ble_eq_true rfl, Nat.le_of_ble_eq_true rfl⟩ (fun r_28 H locs hw hP hS => ?_)
              rcases hw with ⟨rfl, g_29⟩ | ⟨rfl, g_30⟩
              · skip
                refine lv_if_ne (tgt := 295) hx hb dX6_advance_285 (by decide) (fun _ => ?_) (fun c_31 => (z_abs c_31 (by decide)).elim)
                refine lv_aload_n hx hb dX6_advance_295 rfl (lv_at hl 1 rfl) ?_
                refine lv_iconst (v := 4) hx hb dX6_advance_296 (by decide) ?_
                refine va_put (D := D) (ci := 6) (v := .int 4) (ty := .int) (C := RX6) (T := TX6) (N := 12) hx hb ht inX6 tyX6 tyX6_ok nmX6 hown hK hP hD hS 0 rfl rfl 7 (by decide) (ht (.fieldLink RX6 44 "CloneVolumes$Reader" "kind" "I") fl_X6_44) (fun _ h9 => h9) rfl (by decide +kernel) rfl rfl (Nat.le_of_ble_eq_true rfl) dX6_advance_297 (fun H locs hP hD hS => ?_)
                have hP : va_P D vwCl [(h0, .inr (6, [.int 0, .int pl, .ref h1, .ref h2, .ref h3, .int mo, .int (nI op), .int 4, .int (nI (sp + i_3)), .int (nI ((sp + i_3) + i_17)), .int r_21, .int (f (sp + i_3))])), (h1, .inr (9, [.ref h4, .int (nI n)])), (h4, .inl (D.1 13, 1600, .inl f)), (h2, .inl (D.1 14, 179, .inl fw))] H := hP
                have hD : va_D A [(h0, .inr (6, [.int 0, .int pl, .ref h1, .ref h2, .ref h3, .int mo, .int (nI op), .int 4, .int (nI (sp + i_3)), .int (nI ((sp + i_3) + i_17)), .int r_21, .int (f (sp + i_3))])), (h1, .inr (9, [.ref h4, .int (nI n)])), (h4, .inl (D.1 13, 1600, .inl f)), (h2, .inl (D.1 14, 179, .inl fw))] := hD
                have hP9 := hP.sub (ws' := [(h0, .inr (6, [.int 0, .int pl, .ref h1, .ref h2, .ref h3, .int mo, .int (nI op), .int 4, .int (nI (sp + i_3)), .int (nI ((sp + i_3) + i_17)), .int r_21, .int (f (sp + i_3))])), (h1, .inr (9, [.ref h4, .int (nI n)])), (h4, .inl (D.1 13, 1600, .inl f)), (h2, .inl (D.1 14, 179, .inl fw))]) [0, 1, 2, 3] rfl
                have hD9 := hD.sub (ws' := [(h0, .inr (6, [.int 0, .int pl, .ref h1, .ref h2, .ref h3, .int mo, .int (nI op), .int 4, .int (nI (sp + i_3)), .int (nI ((sp + i_3) + i_17)), .int r_21, .int (f (sp + i_3))])), (h1, .inr (9, [.ref h4, .int (nI n)])), (h4, .inl (D.1 13, 1600, .inl f)), (h2, .inl (D.1 14, 179, .inl fw))]) [0, 1, 2, 3] (by decide) rfl
                refine W.widen (k := 0) (n := 0) (Nat.le_of_ble_eq_true rfl) (Nat.le_of_ble_eq_true rfl) ?_
                exact W.vret hx hb hr (fun t ht hW => ⟨⟨(4, (sp + i_3), ((sp + i_3) + i_17), r_21, (f (sp + i_3))), rfl, (by first | omega | (dsimp only; omega)), by rw [ht]; exact hP9, va_K.moved hW.alike hK, hD9⟩, hS.F ht⟩) hS.2.2 dX6_advance_300
              · skip
                refine lv_if_ne (tgt := 295) hx hb dX6_advance_285 (by decide) (fun c_33 => (z_abs c_33 (by decide)).elim) (fun _ => ?_)
                refine lv_iload_n hx hb dX6_advance_288 rfl (lv_at hl 0 rfl) ?_
                refine zcS (As := [.int (f x_22.toNatClampNeg)]) (rest := []) (n := 1) ⟨hx, hb, hml, hown, ht⟩ (k_X6_isDigit l D (f x_22.toNatClampNeg)) (zgT ml_X6_118 st_X6_isDigit in_X6 co_X6_isDigit) rfl rfl (by decide +kernel) ⟨Nat.le_of_ble_eq_true rfl, Nat.le_of_ble_eq_true rfl⟩ hK hP hS [] rfl rfl hl.1 rfl (Nat.le_of_ble_eq_true rfl) dX6_advance_289 ⟨Nat.le_of_ble_eq_true rfl, Nat.le_of_ble_eq_true rfl⟩ (fun r_35 H locs hw hP hS => ?_)
                rcases hw with ⟨rfl, g_36⟩ | ⟨rfl, g_37⟩
                · skip
                  refine lv_if_eq (tgt := 300) hx hb dX6_advance_292 (by decide) (fun c_38 => (z_abs c_38 (by decide)).elim) (fun _ => ?_)
                  refine lv_aload_n hx hb dX6_advance_295 rfl (lv_at hl 1 rfl) ?_
                  refine lv_iconst (v := 4) hx hb dX6_advance_296 (by decide) ?_
                  refine va_put (D := D) (ci := 6) (v := .int 4) (ty := .int) (C := RX6) (T := TX6) (N := 12) hx hb ht inX6 tyX6 tyX6_ok nmX6 hown hK hP hD hS 0 rfl rfl 7 (by decide) (ht (.fieldLink RX6 44 "CloneVolumes$Reader" "kind" "I") fl_X6_44) (fun _ h9 => h9) rfl (by decide +kernel) rfl rfl (Nat.le_of_ble_eq_true rfl) dX6_advance_297 (fun H locs hP hD hS => ?_)
                  have hP : va_P D vwCl [(h0, .inr (6, [.int 0, .int pl, .ref h1, .ref h2, .ref h3, .int mo, .int (nI op), .int 4, .int (nI (sp + i_3)), .int (nI ((sp + i_3) + i_17)), .int r_21, .int (f (sp + i_3))])), (h1, .inr (9, [.ref h4, .int (nI n)])), (h4, .inl (D.1 13, 1600, .inl f)), (h2, .inl (D.1 14, 179, .inl fw))] H := hP
                  have hD : va_D A [(h0, .inr (6, [.int 0, .int pl, .ref h1, .ref h2, .ref h3, .int mo, .int (nI op), .int 4, .int (nI (sp + i_3)), .int (nI ((sp + i_3) + i_17)), .int r_21, .int (f (sp + i_3))])), (h1, .inr (9, [.ref h4, .int (nI n)])), (h4, .inl (D.1 13, 1600, .inl f)), (h2, .inl (D.1 14, 179, .inl fw))] := hD
                  have hP9 := hP.sub (ws' := [(h0, .inr (6, [.int 0, .int pl, .ref h1, .ref h2, .ref h3, .int mo, .int (nI op), .int 4, .int (nI (sp + i_3)), .int (nI ((sp + i_3) + i_17)), .int r_21, .int (f (sp + i_3))])), (h1, .inr (9, [.ref h4, .int (nI n)])), (h4, .inl (D.1 13, 1600, .inl f)), (h2, .inl (D.1 14, 179, .inl fw))]) [0, 1, 2, 3] rfl
                  have hD9 := hD.sub (ws' := [(h0, .inr (6, [.int 0, .int pl, .ref h1, .ref h2, .ref h3, .int mo, .int (nI op), .int 4, .int (nI (sp + i_3)), .int (nI ((sp + i_3) + i_17)), .int r_21, .int (f (sp + i_3))])), (h1, .inr (9, [.ref h4, .int (nI n)])), (h4, .inl (D.1 13, 1600, .inl f)), (h2, .inl (D.1 14, 179, .inl fw))]) [0, 1, 2, 3] (by decide) rfl
                  refine W.widen (k := 0) (n := 0) (Nat.le_of_ble_eq_true rfl) (Nat.le_of_ble_eq_true rfl) ?_
                  exact W.vret hx hb hr (fun t ht hW => ⟨⟨(4, (sp + i_3), ((sp + i_3) + i_17), r_21, (f (sp + i_3))), rfl, (by first | omega | (dsimp only; omega)), by rw [ht]; exact hP9, va_K.moved hW.alike hK, hD9⟩, hS.F ht⟩) hS.2.2 dX6_advance_300
                · skip
                  refine lv_if_eq (tgt := 300) hx hb dX6_advance_292 (by decide) (fun _ => ?_) (fun c_40 => (z_abs c_40 (by decide)).elim)
                  have hP9 := hP.sub (ws' := [(h0, .inr (6, [.int 0, .int pl, .ref h1, .ref h2, .ref h3, .int mo, .int (nI op), .int 1, .int (nI (sp + i_3)), .int (nI ((sp + i_3) + i_17)), .int r_21, .int (f (sp + i_3))])), (h1, .inr (9, [.ref h4, .int (nI n)])), (h4, .inl (D.1 13, 1600, .inl f)), (h2, .inl (D.1 14, 179, .inl fw))]) [0, 1, 2, 3] rfl
                  have hD9 := hD.sub (ws' := [(h0, .inr (6, [.int 0, .int pl, .ref h1, .ref h2, .ref h3, .int mo, .int (nI op), .int 1, .int (nI (sp + i_3)), .int (nI ((sp + i_3) + i_17)), .int r_21, .int (f (sp + i_3))])), (h1, .inr (9, [.ref h4, .int (nI n)])), (h4, .inl (D.1 13, 1600, .inl f)), (h2, .inl (D.1 14, 179, .inl fw))]) [0, 1, 2, 3] (by decide) rfl
                  refine W.widen (k := 0) (n := 0) (Nat.le_of_ble_eq_true rfl) (Nat.le_of_ble_eq_true rfl) ?_
                  exact W.vret hx hb hr (fun t ht hW => ⟨⟨(1, (sp + i_3), ((sp + i_3) + i_17), r_21, (f (sp + i_3))), rfl, (by first | omega | (dsimp only; omega)), by rw [ht]; exact hP9, va_K.moved hW.alike hK, hD9⟩, hS.F ht⟩) hS.2.2 dX6_advance_300
            · skip
              refine lv_istore_n (lv' := [(1, .int (-1)), (0, .ref h0)]) hx hb dX6_advance_264 rfl hl (by decide) rfl (fun ls hl => ?_)
              refine lv_aload_n hx hb dX6_advance_265 rfl (lv_at hl 1 rfl) ?_
              refine va_get (D := D) (ci := 6) (v := .int 1) (C := RX6) (T := TX6) (N := 12) hx hb ht inX6 hown hK hP 0 rfl rfl 7 (by decide) (ht (.fieldLink RX6 44 "CloneVolumes$Reader" "kind" "I") fl_X6_44) (fun _ h9 => h9) rfl dX6_advance_266 ?_
              refine lv_iconst (v := 1) hx hb dX6_advance_269 (by decide) ?_
              refine lv_icmp_eq (tgt := 281) hx hb dX6_advance_270 (by decide) (fun _ => ?_) (fun c_42 => (z_abs c_42 (by decide)).elim)
              refine lv_iload_n hx hb dX6_advance_281 rfl (lv_at hl 0 rfl) ?_
              have en_44 : ((-1) : Int32).toInt = (-1) := by decide
              refine zcS (As := [.int (-1)]) (rest := []) (n := 1) ⟨hx, hb, hml, hown, ht⟩ (k_X6_isLetter l D (-1)) (zgT ml_X6_111 st_X6_isLetter in_X6 co_X6_isLetter) rfl rfl (by decide +kernel) ⟨Nat.le_of_ble_eq_true rfl, Nat.le_of_ble_eq_true rfl⟩ hK hP hS [] rfl rfl hl.1 rfl (Nat.le_of_ble_eq_true rfl) dX6_advance_282 ⟨Nat.le_of_ble_eq_true rfl, Nat.le_of_ble_eq_true rfl⟩ (fun r_45 H locs hw hP hS => ?_)
              rcases hw with ⟨rfl, g_46⟩ | ⟨rfl, g_47⟩
              · skip
                refine lv_if_ne (tgt := 295) hx hb dX6_advance_285 (by decide) (fun _ => ?_) (fun c_48 => (z_abs c_48 (by decide)).elim)
                refine lv_aload_n hx hb dX6_advance_295 rfl (lv_at hl 1 rfl) ?_
                refine lv_iconst (v := 4) hx hb dX6_advance_296 (by decide) ?_
                refine va_put (D := D) (ci := 6) (v := .int 4) (ty := .int) (C := RX6) (T := TX6) (N := 12) hx hb ht inX6 tyX6 tyX6_ok nmX6 hown hK hP hD hS 0 rfl rfl 7 (by decide) (ht (.fieldLink RX6 44 "CloneVolumes$Reader" "kind" "I") fl_X6_44) (fun _ h9 => h9) rfl (by decide +kernel) rfl rfl (Nat.le_of_ble_eq_true rfl) dX6_advance_297 (fun H locs hP hD hS => ?_)
                have hP : va_P D vwCl [(h0, .inr (6, [.int 0, .int pl, .ref h1, .ref h2, .ref h3, .int mo, .int (nI op), .int 4, .int (nI (sp + i_3)), .int (nI ((sp + i_3) + i_17)), .int r_21, .int (f (sp + i_3))])), (h1, .inr (9, [.ref h4, .int (nI n)])), (h4, .inl (D.1 13, 1600, .inl f)), (h2, .inl (D.1 14, 179, .inl fw))] H := hP
                have hD : va_D A [(h0, .inr (6, [.int 0, .int pl, .ref h1, .ref h2, .ref h3, .int mo, .int (nI op), .int 4, .int (nI (sp + i_3)), .int (nI ((sp + i_3) + i_17)), .int r_21, .int (f (sp + i_3))])), (h1, .inr (9, [.ref h4, .int (nI n)])), (h4, .inl (D.1 13, 1600, .inl f)), (h2, .inl (D.1 14, 179, .inl fw))] := hD
                have hP9 := hP.sub (ws' := [(h0, .inr (6, [.int 0, .int pl, .ref h1, .ref h2, .ref h3, .int mo, .int (nI op), .int 4, .int (nI (sp + i_3)), .int (nI ((sp + i_3) + i_17)), .int r_21, .int (f (sp + i_3))])), (h1, .inr (9, [.ref h4, .int (nI n)])), (h4, .inl (D.1 13, 1600, .inl f)), (h2, .inl (D.1 14, 179, .inl fw))]) [0, 1, 2, 3] rfl
                have hD9 := hD.sub (ws' := [(h0, .inr (6, [.int 0, .int pl, .ref h1, .ref h2, .ref h3, .int mo, .int (nI op), .int 4, .int (nI (sp + i_3)), .int (nI ((sp + i_3) + i_17)), .int r_21, .int (f (sp + i_3))])), (h1, .inr (9, [.ref h4, .int (nI n)])), (h4, .inl (D.1 13, 1600, .inl f)), (h2, .inl (D.1 14, 179, .inl fw))]) [0, 1, 2, 3] (by decide) rfl
                refine W.widen (k := 0) (n := 0) (Nat.le_of_ble_eq_true rfl) (Nat.le_of_ble_eq_true rfl) ?_
                exact W.vret hx hb hr (fun t ht hW => ⟨⟨(4, (sp + i_3), ((sp + i_3) + i_17), r_21, (f (sp + i_3))), rfl, (by first | omega | (dsimp only; omega)), by rw [ht]; exact hP9, va_K.moved hW.alike hK, hD9⟩, hS.F ht⟩) hS.2.2 dX6_advance_300
              · skip
                refine lv_if_ne (tgt := 295) hx hb dX6_advance_285 (by decide) (fun c_50 => (z_abs c_50 (by decide)).elim) (fun _ => ?_)
                refine lv_iload_n hx hb dX6_advance_288 rfl (lv_at hl 0 rfl) ?_
                have en_52 : ((-1) : Int32).toInt = (-1) := by decide
                refine zcS (As := [.int (-1)]) (rest := []) (n := 1) ⟨hx, hb, hml, hown, ht⟩ (k_X6_isDigit l D (-1)) (zgT ml_X6_118 st_X6_isDigit in_X6 co_X6_isDigit) rfl rfl (by decide +kernel) ⟨Nat.le_of_ble_eq_true rfl, Nat.le_of_ble_eq_true rfl⟩ hK hP hS [] rfl rfl hl.1 rfl (Nat.le_of_ble_eq_true rfl) dX6_advance_289 ⟨Nat.le_of_ble_eq_true rfl, Nat.le_of_ble_eq_true rfl⟩ (fun r_53 H locs hw hP hS => ?_)
                rcases hw with ⟨rfl, g_54⟩ | ⟨rfl, g_55⟩
                · skip
                  refine lv_if_eq (tgt := 300) hx hb dX6_advance_292 (by decide) (fun c_56 => (z_abs c_56 (by decide)).elim) (fun _ => ?_)
                  refine lv_aload_n hx hb dX6_advance_295 rfl (lv_at hl 1 rfl) ?_
                  refine lv_iconst (v := 4) hx hb dX6_advance_296 (by decide) ?_
                  refine va_put (D := D) (ci := 6) (v := .int 4) (ty := .int) (C := RX6) (T := TX6) (N := 12) hx hb ht inX6 tyX6 tyX6_ok nmX6 hown hK hP hD hS 0 rfl rfl 7 (by decide) (ht (.fieldLink RX6 44 "CloneVolumes$Reader" "kind" "I") fl_X6_44) (fun _ h9 => h9) rfl (by decide +kernel) rfl rfl (Nat.le_of_ble_eq_true rfl) dX6_advance_297 (fun H locs hP hD hS => ?_)
                  have hP : va_P D vwCl [(h0, .inr (6, [.int 0, .int pl, .ref h1, .ref h2, .ref h3, .int mo, .int (nI op), .int 4, .int (nI (sp + i_3)), .int (nI ((sp + i_3) + i_17)), .int r_21, .int (f (sp + i_3))])), (h1, .inr (9, [.ref h4, .int (nI n)])), (h4, .inl (D.1 13, 1600, .inl f)), (h2, .inl (D.1 14, 179, .inl fw))] H := hP
                  have hD : va_D A [(h0, .inr (6, [.int 0, .int pl, .ref h1, .ref h2, .ref h3, .int mo, .int (nI op), .int 4, .int (nI (sp + i_3)), .int (nI ((sp + i_3) + i_17)), .int r_21, .int (f (sp + i_3))])), (h1, .inr (9, [.ref h4, .int (nI n)])), (h4, .inl (D.1 13, 1600, .inl f)), (h2, .inl (D.1 14, 179, .inl fw))] := hD
                  have hP9 := hP.sub (ws' := [(h0, .inr (6, [.int 0, .int pl, .ref h1, .ref h2, .ref h3, .int mo, .int (nI op), .int 4, .int (nI (sp + i_3)), .int (nI ((sp + i_3) + i_17)), .int r_21, .int (f (sp + i_3))])), (h1, .inr (9, [.ref h4, .int (nI n)])), (h4, .inl (D.1 13, 1600, .inl f)), (h2, .inl (D.1 14, 179, .inl fw))]) [0, 1, 2, 3] rfl
                  have hD9 := hD.sub (ws' := [(h0, .inr (6, [.int 0, .int pl, .ref h1, .ref h2, .ref h3, .int mo, .int (nI op), .int 4, .int (nI (sp + i_3)), .int (nI ((sp + i_3) + i_17)), .int r_21, .int (f (sp + i_3))])), (h1, .inr (9, [.ref h4, .int (nI n)])), (h4, .inl (D.1 13, 1600, .inl f)), (h2, .inl (D.1 14, 179, .inl fw))]) [0, 1, 2, 3] (by decide) rfl
                  refine W.widen (k := 0) (n := 0) (Nat.le_of_ble_eq_true rfl) (Nat.le_of_ble_eq_true rfl) ?_
                  exact W.vret hx hb hr (fun t ht hW => ⟨⟨(4, (sp + i_3), ((sp + i_3) + i_17), r_21, (f (sp + i_3))), rfl, (by first | omega | (dsimp only; omega)), by rw [ht]; exact hP9, va_K.moved hW.alike hK, hD9⟩, hS.F ht⟩) hS.2.2 dX6_advance_300
                · skip
                  refine lv_if_eq (tgt := 300) hx hb dX6_advance_292 (by decide) (fun _ => ?_) (fun c_58 => (z_abs c_58 (by decide)).elim)
                  have hP9 := hP.sub (ws' := [(h0, .inr (6, [.int 0, .int pl, .ref h1, .ref h2, .ref h3, .int mo, .int (nI op), .int 1, .int (nI (sp + i_3)), .int (nI ((sp + i_3) + i_17)), .int r_21, .int (f (sp + i_3))])), (h1, .inr (9, [.ref h4, .int (nI n)])), (h4, .inl (D.1 13, 1600, .inl f)), (h2, .inl (D.1 14, 179, .inl fw))]) [0, 1, 2, 3] rfl
                  have hD9 := hD.sub (ws' := [(h0, .inr (6, [.int 0, .int pl, .ref h1, .ref h2, .ref h3, .int mo, .int (nI op), .int 1, .int (nI (sp + i_3)), .int (nI ((sp + i_3) + i_17)), .int r_21, .int (f (sp + i_3))])), (h1, .inr (9, [.ref h4, .int (nI n)])), (h4, .inl (D.1 13, 1600, .inl f)), (h2, .inl (D.1 14, 179, .inl fw))]) [0, 1, 2, 3] (by decide) rfl
                  refine W.widen (k := 0) (n := 0) (Nat.le_of_ble_eq_true rfl) (Nat.le_of_ble_eq_true rfl) ?_
                  exact W.vret hx hb hr (fun t ht hW => ⟨⟨(1, (sp + i_3), ((sp + i_3) + i_17), r_21, (f (sp + i_3))), rfl, (by first | omega | (dsimp only; omega)), by rw [ht]; exact hP9, va_K.moved hW.alike hK, hD9⟩, hS.F ht⟩) hS.2.2 dX6_advance_300
          · have g_20 : (((sp + i_3) + i_17 : Nat) : Int) < ((n : Nat) : Int) := z_nle (nI_toInt (by omega)) (nI_toInt (by omega)) c_19
            refine lv_aload_n hx hb dX6_advance_134 rfl (lv_at hl 0 rfl) ?_
            refine va_get (D := D) (ci := 6) (v := .ref h1) (C := RX6) (T := TX6) (N := 12) hx hb ht inX6 hown hK hP 0 rfl rfl 2 (by decide) (ht (.fieldLink RX6 27 "CloneVolumes$Reader" "tape" "LCloneVolumes$Tape;") fl_X6_27) (fun _ h9 => h9) rfl dX6_advance_135 ?_
            refine va_get (D := D) (ci := 9) (v := .ref h4) (C := RX9) (T := TX9) (N := 2) hx hb ht inX9 hown hK hP 1 rfl rfl 0 (by decide) (ht (.fieldLink RX6 96 "CloneVolumes$Tape" "bytes" "[I") fl_X6_96) (fun _ h9 => h9) rfl dX6_advance_138 ?_
            refine lv_aload_n hx hb dX6_advance_141 rfl (lv_at hl 0 rfl) ?_
            refine va_get (D := D) (ci := 6) (v := .int (nI ((sp + i_3) + i_17))) (C := RX6) (T := TX6) (N := 12) hx hb ht inX6 hown hK hP 0 rfl rfl 9 (by decide) (ht (.fieldLink RX6 88 "CloneVolumes$Reader" "stop" "I") fl_X6_88) (fun _ h9 => h9) rfl dX6_advance_142 ?_
            refine va_iald hx hb hK hP 2 0 rfl rfl (vp_in_nI (by omega) (by omega)) dX6_advance_145 ?_
            refine z_topi (y := f ((sp + i_3) + i_17)) (by rw [nI_clamp (by omega)]) ?_
            refine zcS (As := [.int (f ((sp + i_3) + i_17))]) (rest := []) (n := 1) ⟨hx, hb, hml, hown, ht⟩ (k_X6_isLetter l D (f ((sp + i_3) + i_17))) (zgT ml_X6_111 st_X6_isLetter in_X6 co_X6_isLetter) rfl rfl (by decide +kernel) ⟨Nat.le_of_ble_eq_true rfl, Nat.le_of_ble_eq_true rfl⟩ hK hP hS [] rfl rfl hl.1 rfl (Nat.le_of_ble_eq_true rfl) dX6_advance_146 ⟨Nat.le_of_ble_eq_true rfl, Nat.le_of_ble_eq_true rfl⟩ (fun r_60 H locs hw hP hS => ?_)
            rcases hw with ⟨rfl, g_61⟩ | ⟨rfl, g_62⟩
            · skip
              refine lv_if_eq (tgt := 165) hx hb dX6_advance_149 (by decide) (fun c_63 => (z_abs c_63 (by decide)).elim) (fun _ => ?_)
              refine lv_aload_n hx hb dX6_advance_152 rfl (lv_at hl 0 rfl) ?_
              refine lv_dup hx hb dX6_advance_153 rfl ?_
              refine va_get (D := D) (ci := 6) (v := .int (nI ((sp + i_3) + i_17))) (C := RX6) (T := TX6) (N := 12) hx hb ht inX6 hown hK hP 0 rfl rfl 9 (by decide) (ht (.fieldLink RX6 88 "CloneVolumes$Reader" "stop" "I") fl_X6_88) (fun _ h9 => h9) rfl dX6_advance_154 ?_
              refine lv_iconst (v := 1) hx hb dX6_advance_157 (by decide) ?_
              refine lv_iadd hx hb dX6_advance_158 ?_
              refine z_topi (y := nI (((sp + i_3) + i_17) + 1)) (z_nadd ((sp + i_3) + i_17) 1) ?_
              refine va_put (D := D) (ci := 6) (v := .int (nI (((sp + i_3) + i_17) + 1))) (ty := .int) (C := RX6) (T := TX6) (N := 12) hx hb ht inX6 tyX6 tyX6_ok nmX6 hown hK hP hD hS 0 rfl rfl 9 (by decide) (ht (.fieldLink RX6 88 "CloneVolumes$Reader" "stop" "I") fl_X6_88) (fun _ h9 => h9) rfl (by decide +kernel) rfl rfl (Nat.le_of_ble_eq_true rfl) dX6_advance_159 (fun H locs hP hD hS => ?_)
              have hP : va_P D vwCl [(h0, .inr (6, [.int 0, .int pl, .ref h1, .ref h2, .ref h3, .int mo, .int (nI op), .int 1, .int (nI (sp + i_3)), .int (nI (((sp + i_3) + i_17) + 1)), .int (-1), .int (f (sp + i_3))])), (h1, .inr (9, [.ref h4, .int (nI n)])), (h4, .inl (D.1 13, 1600, .inl f)), (h2, .inl (D.1 14, 179, .inl fw))] H := hP
              have hD : va_D A [(h0, .inr (6, [.int 0, .int pl, .ref h1, .ref h2, .ref h3, .int mo, .int (nI op), .int 1, .int (nI (sp + i_3)), .int (nI (((sp + i_3) + i_17) + 1)), .int (-1), .int (f (sp + i_3))])), (h1, .inr (9, [.ref h4, .int (nI n)])), (h4, .inl (D.1 13, 1600, .inl f)), (h2, .inl (D.1 14, 179, .inl fw))] := hD
              refine lv_goto (tgt := 120) hx hb dX6_advance_162 (by decide) ?_
              rw [show ((sp + i_3) + i_17) + 1 = (sp + i_3) + (i_17 + 1) by omega] at hP hD
              exact ih_120 () _ _ _ (by omega) ⟨(by first | omega | (dsimp only; omega)), hP.sub [0, 1, 2, 3] rfl, hD.sub [0, 1, 2, 3] (by decide) rfl, hS, lv_sub hl [0] rfl⟩
            · skip
              refine lv_if_eq (tgt := 165) hx hb dX6_advance_149 (by decide) (fun _ => ?_) (fun c_65 => (z_abs c_65 (by decide)).elim)
              refine lv_aload_n hx hb dX6_advance_165 rfl (lv_at hl 0 rfl) ?_
              refine lv_aload_n hx hb dX6_advance_166 rfl (lv_at hl 0 rfl) ?_
              refine zcV (As := []) (rest := [.ref h0]) (C := RX6) (n := 0) ⟨hx, hb, hml, hown, ht⟩ (k_X6_wordNumber l D h0 h1 h2 h3 h4 0 pl mo 1 (-1) (f (sp + i_3)) op (sp + i_3) ((sp + i_3) + i_17) n f fw (by first | decide | omega) (by first | decide | omega) (by first | decide | omega)) (zgV ml_X6_114 im_X6_wordNumber se_X6_wordNumber in_X6 co_X6_wordNumber) rfl rfl (by decide +kernel) ⟨Nat.le_of_ble_eq_true rfl, Nat.le_of_ble_eq_true rfl⟩ hK hP hS [0, 1, 2, 3] rfl 0 rfl rfl rfl rfl hl.1 rfl (Nat.le_of_ble_eq_true rfl) dX6_advance_167 ⟨Nat.le_of_ble_eq_true rfl, Nat.le_of_ble_eq_true rfl⟩ (fun r_67 H locs hw hP hS => ?_)
              refine va_put (D := D) (ci := 6) (v := .int r_67) (ty := .int) (C := RX6) (T := TX6) (N := 12) hx hb ht inX6 tyX6 tyX6_ok nmX6 hown hK hP hD hS 0 rfl rfl 10 (by decide) (ht (.fieldLink RX6 72 "CloneVolumes$Reader" "word" "I") fl_X6_72) (fun _ h9 => h9) rfl (by decide +kernel) rfl rfl (Nat.le_of_ble_eq_true rfl) dX6_advance_170 (fun H locs hP hD hS => ?_)
              have hP : va_P D vwCl [(h0, .inr (6, [.int 0, .int pl, .ref h1, .ref h2, .ref h3, .int mo, .int (nI op), .int 1, .int (nI (sp + i_3)), .int (nI ((sp + i_3) + i_17)), .int r_67, .int (f (sp + i_3))])), (h1, .inr (9, [.ref h4, .int (nI n)])), (h4, .inl (D.1 13, 1600, .inl f)), (h2, .inl (D.1 14, 179, .inl fw))] H := hP
              have hD : va_D A [(h0, .inr (6, [.int 0, .int pl, .ref h1, .ref h2, .ref h3, .int mo, .int (nI op), .int 1, .int (nI (sp + i_3)), .int (nI ((sp + i_3) + i_17)), .int r_67, .int (f (sp + i_3))])), (h1, .inr (9, [.ref h4, .int (nI n)])), (h4, .inl (D.1 13, 1600, .inl f)), (h2, .inl (D.1 14, 179, .inl fw))] := hD
              refine lv_goto (tgt := 251) hx hb dX6_advance_173 (by decide) ?_
              refine lv_aload_n hx hb dX6_advance_251 rfl (lv_at hl 0 rfl) ?_
              refine va_get (D := D) (ci := 6) (v := .ref h1) (C := RX6) (T := TX6) (N := 12) hx hb ht inX6 hown hK hP 0 rfl rfl 2 (by decide) (ht (.fieldLink RX6 27 "CloneVolumes$Reader" "tape" "LCloneVolumes$Tape;") fl_X6_27) (fun _ h9 => h9) rfl dX6_advance_252 ?_
              refine lv_aload_n hx hb dX6_advance_255 rfl (lv_at hl 0 rfl) ?_
              refine va_get (D := D) (ci := 6) (v := .int (nI (sp + i_3))) (C := RX6) (T := TX6) (N := 12) hx hb ht inX6 hown hK hP 0 rfl rfl 8 (by decide) (ht (.fieldLink RX6 51 "CloneVolumes$Reader" "start" "I") fl_X6_51) (fun _ h9 => h9) rfl dX6_advance_256 ?_
              refine lv_iconst (v := 1) hx hb dX6_advance_259 (by decide) ?_
              refine lv_isub hx hb dX6_advance_260 ?_
              refine lv_topi (fun x_68 ex_68 => ?_)
              refine zcV (As := [.int x_68]) (rest := []) (C := RX9) (n := 1) ⟨hx, hb, hml, hown, ht⟩ (k_X9_at l D h1 h4 n f x_68 (by first | decide | omega)) (zgV ml_X6_104 im_X9_at se_X9_at in_X9 co_X9_at) rfl rfl (by decide +kernel) ⟨Nat.le_of_ble_eq_true rfl, Nat.le_of_ble_eq_true rfl⟩ hK hP hS [1, 2] rfl 0 rfl rfl rfl rfl hl.1 rfl (Nat.le_of_ble_eq_true rfl) dX6_advance_261 ⟨Nat.le_of_ble_eq_true rfl, Nat.le_of_ble_eq_true rfl⟩ (fun r_69 H locs hw hP hS => ?_)
              rcases hw with ⟨rfl, g_70⟩ | ⟨rfl, g_71⟩
              · skip
                refine lv_istore_n (lv' := [(1, .int (f x_68.toNatClampNeg)), (0, .ref h0)]) hx hb dX6_advance_264 rfl hl (by decide) rfl (fun ls hl => ?_)
                refine lv_aload_n hx hb dX6_advance_265 rfl (lv_at hl 1 rfl) ?_
                refine va_get (D := D) (ci := 6) (v := .int 1) (C := RX6) (T := TX6) (N := 12) hx hb ht inX6 hown hK hP 0 rfl rfl 7 (by decide) (ht (.fieldLink RX6 44 "CloneVolumes$Reader" "kind" "I") fl_X6_44) (fun _ h9 => h9) rfl dX6_advance_266 ?_
                refine lv_iconst (v := 1) hx hb dX6_advance_269 (by decide) ?_
                refine lv_icmp_eq (tgt := 281) hx hb dX6_advance_270 (by decide) (fun _ => ?_) (fun c_72 => (z_abs c_72 (by decide)).elim)
                refine lv_iload_n hx hb dX6_advance_281 rfl (lv_at hl 0 rfl) ?_
                refine zcS (As := [.int (f x_68.toNatClampNeg)]) (rest := []) (n := 1) ⟨hx, hb, hml, hown, ht⟩ (k_X6_isLetter l D (f x_68.toNatClampNeg)) (zgT ml_X6_111 st_X6_isLetter in_X6 co_X6_isLetter) rfl rfl (by decide +kernel) ⟨Nat.le_of_ble_eq_true rfl, Nat.le_of_ble_eq_true rfl⟩ hK hP hS [] rfl rfl hl.1 rfl (Nat.le_of_ble_eq_true rfl) dX6_advance_282 ⟨Nat.le_of_ble_eq_true rfl, Nat.le_of_ble_eq_true rfl⟩ (fun r_74 H locs hw hP hS => ?_)
                rcases hw with ⟨rfl, g_75⟩ | ⟨rfl, g_76⟩
                · skip
                  refine lv_if_ne (tgt := 295) hx hb dX6_advance_285 (by decide) (fun _ => ?_) (fun c_77 => (z_abs c_77 (by decide)).elim)
                  refine lv_aload_n hx hb dX6_advance_295 rfl (lv_at hl 1 rfl) ?_
                  refine lv_iconst (v := 4) hx hb dX6_advance_296 (by decide) ?_
                  refine va_put (D := D) (ci := 6) (v := .int 4) (ty := .int) (C := RX6) (T := TX6) (N := 12) hx hb ht inX6 tyX6 tyX6_ok nmX6 hown hK hP hD hS 0 rfl rfl 7 (by decide) (ht (.fieldLink RX6 44 "CloneVolumes$Reader" "kind" "I") fl_X6_44) (fun _ h9 => h9) rfl (by decide +kernel) rfl rfl (Nat.le_of_ble_eq_true rfl) dX6_advance_297 (fun H locs hP hD hS => ?_)
                  have hP : va_P D vwCl [(h0, .inr (6, [.int 0, .int pl, .ref h1, .ref h2, .ref h3, .int mo, .int (nI op), .int 4, .int (nI (sp + i_3)), .int (nI ((sp + i_3) + i_17)), .int r_67, .int (f (sp + i_3))])), (h1, .inr (9, [.ref h4, .int (nI n)])), (h4, .inl (D.1 13, 1600, .inl f)), (h2, .inl (D.1 14, 179, .inl fw))] H := hP
                  have hD : va_D A [(h0, .inr (6, [.int 0, .int pl, .ref h1, .ref h2, .ref h3, .int mo, .int (nI op), .int 4, .int (nI (sp + i_3)), .int (nI ((sp + i_3) + i_17)), .int r_67, .int (f (sp + i_3))])), (h1, .inr (9, [.ref h4, .int (nI n)])), (h4, .inl (D.1 13, 1600, .inl f)), (h2, .inl (D.1 14, 179, .inl fw))] := hD
                  have hP9 := hP.sub (ws' := [(h0, .inr (6, [.int 0, .int pl, .ref h1, .ref h2, .ref h3, .int mo, .int (nI op), .int 4, .int (nI (sp + i_3)), .int (nI ((sp + i_3) + i_17)), .int r_67, .int (f (sp + i_3))])), (h1, .inr (9, [.ref h4, .int (nI n)])), (h4, .inl (D.1 13, 1600, .inl f)), (h2, .inl (D.1 14, 179, .inl fw))]) [0, 1, 2, 3] rfl
                  have hD9 := hD.sub (ws' := [(h0, .inr (6, [.int 0, .int pl, .ref h1, .ref h2, .ref h3, .int mo, .int (nI op), .int 4, .int (nI (sp + i_3)), .int (nI ((sp + i_3) + i_17)), .int r_67, .int (f (sp + i_3))])), (h1, .inr (9, [.ref h4, .int (nI n)])), (h4, .inl (D.1 13, 1600, .inl f)), (h2, .inl (D.1 14, 179, .inl fw))]) [0, 1, 2, 3] (by decide) rfl
                  refine W.widen (k := 0) (n := 0) (Nat.le_of_ble_eq_true rfl) (Nat.le_of_ble_eq_true rfl) ?_
                  exact W.vret hx hb hr (fun t ht hW => ⟨⟨(4, (sp + i_3), ((sp + i_3) + i_17), r_67, (f (sp + i_3))), rfl, (by first | omega | (dsimp only; omega)), by rw [ht]; exact hP9, va_K.moved hW.alike hK, hD9⟩, hS.F ht⟩) hS.2.2 dX6_advance_300
                · skip
                  refine lv_if_ne (tgt := 295) hx hb dX6_advance_285 (by decide) (fun c_79 => (z_abs c_79 (by decide)).elim) (fun _ => ?_)
                  refine lv_iload_n hx hb dX6_advance_288 rfl (lv_at hl 0 rfl) ?_
                  refine zcS (As := [.int (f x_68.toNatClampNeg)]) (rest := []) (n := 1) ⟨hx, hb, hml, hown, ht⟩ (k_X6_isDigit l D (f x_68.toNatClampNeg)) (zgT ml_X6_118 st_X6_isDigit in_X6 co_X6_isDigit) rfl rfl (by decide +kernel) ⟨Nat.le_of_ble_eq_true rfl, Nat.le_of_ble_eq_true rfl⟩ hK hP hS [] rfl rfl hl.1 rfl (Nat.le_of_ble_eq_true rfl) dX6_advance_289 ⟨Nat.le_of_ble_eq_true rfl, Nat.le_of_ble_eq_true rfl⟩ (fun r_81 H locs hw hP hS => ?_)
                  rcases hw with ⟨rfl, g_82⟩ | ⟨rfl, g_83⟩
                  · skip
                    refine lv_if_eq (tgt := 300) hx hb dX6_advance_292 (by decide) (fun c_84 => (z_abs c_84 (by decide)).elim) (fun _ => ?_)
                    refine lv_aload_n hx hb dX6_advance_295 rfl (lv_at hl 1 rfl) ?_
                    refine lv_iconst (v := 4) hx hb dX6_advance_296 (by decide) ?_
                    refine va_put (D := D) (ci := 6) (v := .int 4) (ty := .int) (C := RX6) (T := TX6) (N := 12) hx hb ht inX6 tyX6 tyX6_ok nmX6 hown hK hP hD hS 0 rfl rfl 7 (by decide) (ht (.fieldLink RX6 44 "CloneVolumes$Reader" "kind" "I") fl_X6_44) (fun _ h9 => h9) rfl (by decide +kernel) rfl rfl (Nat.le_of_ble_eq_true rfl) dX6_advance_297 (fun H locs hP hD hS => ?_)
                    have hP : va_P D vwCl [(h0, .inr (6, [.int 0, .int pl, .ref h1, .ref h2, .ref h3, .int mo, .int (nI op), .int 4, .int (nI (sp + i_3)), .int (nI ((sp + i_3) + i_17)), .int r_67, .int (f (sp + i_3))])), (h1, .inr (9, [.ref h4, .int (nI n)])), (h4, .inl (D.1 13, 1600, .inl f)), (h2, .inl (D.1 14, 179, .inl fw))] H := hP
                    have hD : va_D A [(h0, .inr (6, [.int 0, .int pl, .ref h1, .ref h2, .ref h3, .int mo, .int (nI op), .int 4, .int (nI (sp + i_3)), .int (nI ((sp + i_3) + i_17)), .int r_67, .int (f (sp + i_3))])), (h1, .inr (9, [.ref h4, .int (nI n)])), (h4, .inl (D.1 13, 1600, .inl f)), (h2, .inl (D.1 14, 179, .inl fw))] := hD
                    have hP9 := hP.sub (ws' := [(h0, .inr (6, [.int 0, .int pl, .ref h1, .ref h2, .ref h3, .int mo, .int (nI op), .int 4, .int (nI (sp + i_3)), .int (nI ((sp + i_3) + i_17)), .int r_67, .int (f (sp + i_3))])), (h1, .inr (9, [.ref h4, .int (nI n)])), (h4, .inl (D.1 13, 1600, .inl f)), (h2, .inl (D.1 14, 179, .inl fw))]) [0, 1, 2, 3] rfl
                    have hD9 := hD.sub (ws' := [(h0, .inr (6, [.int 0, .int pl, .ref h1, .ref h2, .ref h3, .int mo, .int (nI op), .int 4, .int (nI (sp + i_3)), .int (nI ((sp + i_3) + i_17)), .int r_67, .int (f (sp + i_3))])), (h1, .inr (9, [.ref h4, .int (nI n)])), (h4, .inl (D.1 13, 1600, .inl f)), (h2, .inl (D.1 14, 179, .inl fw))]) [0, 1, 2, 3] (by decide) rfl
                    refine W.widen (k := 0) (n := 0) (Nat.le_of_ble_eq_true rfl) (Nat.le_of_ble_eq_true rfl) ?_
                    exact W.vret hx hb hr (fun t ht hW => ⟨⟨(4, (sp + i_3), ((sp + i_3) + i_17), r_67, (f (sp + i_3))), rfl, (by first | omega | (dsimp only; omega)), by rw [ht]; exact hP9, va_K.moved hW.alike hK, hD9⟩, hS.F ht⟩) hS.2.2 dX6_advance_300
                  · skip
                    refine lv_if_eq (tgt := 300) hx hb dX6_advance_292 (by decide) (fun _ => ?_) (fun c_86 => (z_abs c_86 (by decide)).elim)
                    have hP9 := hP.sub (ws' := [(h0, .inr (6, [.int 0, .int pl, .ref h1, .ref h2, .ref h3, .int mo, .int (nI op), .int 1, .int (nI (sp + i_3)), .int (nI ((sp + i_3) + i_17)), .int r_67, .int (f (sp + i_3))])), (h1, .inr (9, [.ref h4, .int (nI n)])), (h4, .inl (D.1 13, 1600, .inl f)), (h2, .inl (D.1 14, 179, .inl fw))]) [0, 1, 2, 3] rfl
                    have hD9 := hD.sub (ws' := [(h0, .inr (6, [.int 0, .int pl, .ref h1, .ref h2, .ref h3, .int mo, .int (nI op), .int 1, .int (nI (sp + i_3)), .int (nI ((sp + i_3) + i_17)), .int r_67, .int (f (sp + i_3))])), (h1, .inr (9, [.ref h4, .int (nI n)])), (h4, .inl (D.1 13, 1600, .inl f)), (h2, .inl (D.1 14, 179, .inl fw))]) [0, 1, 2, 3] (by decide) rfl
                    refine W.widen (k := 0) (n := 0) (Nat.le_of_ble_eq_true rfl) (Nat.le_of_ble_eq_true rfl) ?_
                    exact W.vret hx hb hr (fun t ht hW => ⟨⟨(1, (sp + i_3), ((sp + i_3) + i_17), r_67, (f (sp + i_3))), rfl, (by first | omega | (dsimp only; omega)), by rw [ht]; exact hP9, va_K.moved hW.alike hK, hD9⟩, hS.F ht⟩) hS.2.2 dX6_advance_300
              · skip
                refine lv_istore_n (lv' := [(1, .int (-1)), (0, .ref h0)]) hx hb dX6_advance_264 rfl hl (by decide) rfl (fun ls hl => ?_)
                refine lv_aload_n hx hb dX6_advance_265 rfl (lv_at hl 1 rfl) ?_
                refine va_get (D := D) (ci := 6) (v := .int 1) (C := RX6) (T := TX6) (N := 12) hx hb ht inX6 hown hK hP 0 rfl rfl 7 (by decide) (ht (.fieldLink RX6 44 "CloneVolumes$Reader" "kind" "I") fl_X6_44) (fun _ h9 => h9) rfl dX6_advance_266 ?_
                refine lv_iconst (v := 1) hx hb dX6_advance_269 (by decide) ?_
                refine lv_icmp_eq (tgt := 281) hx hb dX6_advance_270 (by decide) (fun _ => ?_) (fun c_88 => (z_abs c_88 (by decide)).elim)
                refine lv_iload_n hx hb dX6_advance_281 rfl (lv_at hl 0 rfl) ?_
                have en_90 : ((-1) : Int32).toInt = (-1) := by decide
                refine zcS (As := [.int (-1)]) (rest := []) (n := 1) ⟨hx, hb, hml, hown, ht⟩ (k_X6_isLetter l D (-1)) (zgT ml_X6_111 st_X6_isLetter in_X6 co_X6_isLetter) rfl rfl (by decide +kernel) ⟨Nat.le_of_ble_eq_true rfl, Nat.le_of_ble_eq_true rfl⟩ hK hP hS [] rfl rfl hl.1 rfl (Nat.le_of_ble_eq_true rfl) dX6_advance_282 ⟨Nat.le_of_ble_eq_true rfl, Nat.le_of_ble_eq_true rfl⟩ (fun r_91 H locs hw hP hS => ?_)
                rcases hw with ⟨rfl, g_92⟩ | ⟨rfl, g_93⟩
                · skip
                  refine lv_if_ne (tgt := 295) hx hb dX6_advance_285 (by decide) (fun _ => ?_) (fun c_94 => (z_abs c_94 (by decide)).elim)
                  refine lv_aload_n hx hb dX6_advance_295 rfl (lv_at hl 1 rfl) ?_
                  refine lv_iconst (v := 4) hx hb dX6_advance_296 (by decide) ?_
                  refine va_put (D := D) (ci := 6) (v := .int 4) (ty := .int) (C := RX6) (T := TX6) (N := 12) hx hb ht inX6 tyX6 tyX6_ok nmX6 hown hK hP hD hS 0 rfl rfl 7 (by decide) (ht (.fieldLink RX6 44 "CloneVolumes$Reader" "kind" "I") fl_X6_44) (fun _ h9 => h9) rfl (by decide +kernel) rfl rfl (Nat.le_of_ble_eq_true rfl) dX6_advance_297 (fun H locs hP hD hS => ?_)
                  have hP : va_P D vwCl [(h0, .inr (6, [.int 0, .int pl, .ref h1, .ref h2, .ref h3, .int mo, .int (nI op), .int 4, .int (nI (sp + i_3)), .int (nI ((sp + i_3) + i_17)), .int r_67, .int (f (sp + i_3))])), (h1, .inr (9, [.ref h4, .int (nI n)])), (h4, .inl (D.1 13, 1600, .inl f)), (h2, .inl (D.1 14, 179, .inl fw))] H := hP
                  have hD : va_D A [(h0, .inr (6, [.int 0, .int pl, .ref h1, .ref h2, .ref h3, .int mo, .int (nI op), .int 4, .int (nI (sp + i_3)), .int (nI ((sp + i_3) + i_17)), .int r_67, .int (f (sp + i_3))])), (h1, .inr (9, [.ref h4, .int (nI n)])), (h4, .inl (D.1 13, 1600, .inl f)), (h2, .inl (D.1 14, 179, .inl fw))] := hD
                  have hP9 := hP.sub (ws' := [(h0, .inr (6, [.int 0, .int pl, .ref h1, .ref h2, .ref h3, .int mo, .int (nI op), .int 4, .int (nI (sp + i_3)), .int (nI ((sp + i_3) + i_17)), .int r_67, .int (f (sp + i_3))])), (h1, .inr (9, [.ref h4, .int (nI n)])), (h4, .inl (D.1 13, 1600, .inl f)), (h2, .inl (D.1 14, 179, .inl fw))]) [0, 1, 2, 3] rfl
                  have hD9 := hD.sub (ws' := [(h0, .inr (6, [.int 0, .int pl, .ref h1, .ref h2, .ref h3, .int mo, .int (nI op), .int 4, .int (nI (sp + i_3)), .int (nI ((sp + i_3) + i_17)), .int r_67, .int (f (sp + i_3))])), (h1, .inr (9, [.ref h4, .int (nI n)])), (h4, .inl (D.1 13, 1600, .inl f)), (h2, .inl (D.1 14, 179, .inl fw))]) [0, 1, 2, 3] (by decide) rfl
                  refine W.widen (k := 0) (n := 0) (Nat.le_of_ble_eq_true rfl) (Nat.le_of_ble_eq_true rfl) ?_
                  exact W.vret hx hb hr (fun t ht hW => ⟨⟨(4, (sp + i_3), ((sp + i_3) + i_17), r_67, (f (sp + i_3))), rfl, (by first | omega | (dsimp only; omega)), by rw [ht]; exact hP9, va_K.moved hW.alike hK, hD9⟩, hS.F ht⟩) hS.2.2 dX6_advance_300
                · skip
                  refine lv_if_ne (tgt := 295) hx hb dX6_advance_285 (by decide) (fun c_96 => (z_abs c_96 (by decide)).elim) (fun _ => ?_)
                  refine lv_iload_n hx hb dX6_advance_288 rfl (lv_at hl 0 rfl) ?_
                  have en_98 : ((-1) : Int32).toInt = (-1) := by decide
                  refine zcS (As := [.int (-1)]) (rest := []) (n := 1) ⟨hx, hb, hml, hown, ht⟩ (k_X6_isDigit l D (-1)) (zgT ml_X6_118 st_X6_isDigit in_X6 co_X6_isDigit) rfl rfl (by decide +kernel) ⟨Nat.le_of_ble_eq_true rfl, Nat.le_of_ble_eq_true rfl⟩ hK hP hS [] rfl rfl hl.1 rfl (Nat.le_of_ble_eq_true rfl) dX6_advance_289 ⟨Nat.le_of_ble_eq_true rfl, Nat.le_of_ble_eq_true rfl⟩ (fun r_99 H locs hw hP hS => ?_)
                  rcases hw with ⟨rfl, g_100⟩ | ⟨rfl, g_101⟩
                  · skip
                    refine lv_if_eq (tgt := 300) hx hb dX6_advance_292 (by decide) (fun c_102 => (z_abs c_102 (by decide)).elim) (fun _ => ?_)
                    refine lv_aload_n hx hb dX6_advance_295 rfl (lv_at hl 1 rfl) ?_
                    refine lv_iconst (v := 4) hx hb dX6_advance_296 (by decide) ?_
                    refine va_put (D := D) (ci := 6) (v := .int 4) (ty := .int) (C := RX6) (T := TX6) (N := 12) hx hb ht inX6 tyX6 tyX6_ok nmX6 hown hK hP hD hS 0 rfl rfl 7 (by decide) (ht (.fieldLink RX6 44 "CloneVolumes$Reader" "kind" "I") fl_X6_44) (fun _ h9 => h9) rfl (by decide +kernel) rfl rfl (Nat.le_of_ble_eq_true rfl) dX6_advance_297 (fun H locs hP hD hS => ?_)
                    have hP : va_P D vwCl [(h0, .inr (6, [.int 0, .int pl, .ref h1, .ref h2, .ref h3, .int mo, .int (nI op), .int 4, .int (nI (sp + i_3)), .int (nI ((sp + i_3) + i_17)), .int r_67, .int (f (sp + i_3))])), (h1, .inr (9, [.ref h4, .int (nI n)])), (h4, .inl (D.1 13, 1600, .inl f)), (h2, .inl (D.1 14, 179, .inl fw))] H := hP
                    have hD : va_D A [(h0, .inr (6, [.int 0, .int pl, .ref h1, .ref h2, .ref h3, .int mo, .int (nI op), .int 4, .int (nI (sp + i_3)), .int (nI ((sp + i_3) + i_17)), .int r_67, .int (f (sp + i_3))])), (h1, .inr (9, [.ref h4, .int (nI n)])), (h4, .inl (D.1 13, 1600, .inl f)), (h2, .inl (D.1 14, 179, .inl fw))] := hD
                    have hP9 := hP.sub (ws' := [(h0, .inr (6, [.int 0, .int pl, .ref h1, .ref h2, .ref h3, .int mo, .int (nI op), .int 4, .int (nI (sp + i_3)), .int (nI ((sp + i_3) + i_17)), .int r_67, .int (f (sp + i_3))])), (h1, .inr (9, [.ref h4, .int (nI n)])), (h4, .inl (D.1 13, 1600, .inl f)), (h2, .inl (D.1 14, 179, .inl fw))]) [0, 1, 2, 3] rfl
                    have hD9 := hD.sub (ws' := [(h0, .inr (6, [.int 0, .int pl, .ref h1, .ref h2, .ref h3, .int mo, .int (nI op), .int 4, .int (nI (sp + i_3)), .int (nI ((sp + i_3) + i_17)), .int r_67, .int (f (sp + i_3))])), (h1, .inr (9, [.ref h4, .int (nI n)])), (h4, .inl (D.1 13, 1600, .inl f)), (h2, .inl (D.1 14, 179, .inl fw))]) [0, 1, 2, 3] (by decide) rfl
                    refine W.widen (k := 0) (n := 0) (Nat.le_of_ble_eq_true rfl) (Nat.le_of_ble_eq_true rfl) ?_
                    exact W.vret hx hb hr (fun t ht hW => ⟨⟨(4, (sp + i_3), ((sp + i_3) + i_17), r_67, (f (sp + i_3))), rfl, (by first | omega | (dsimp only; omega)), by rw [ht]; exact hP9, va_K.moved hW.alike hK, hD9⟩, hS.F ht⟩) hS.2.2 dX6_advance_300
                  · skip
                    refine lv_if_eq (tgt := 300) hx hb dX6_advance_292 (by decide) (fun _ => ?_) (fun c_104 => (z_abs c_104 (by decide)).elim)
                    have hP9 := hP.sub (ws' := [(h0, .inr (6, [.int 0, .int pl, .ref h1, .ref h2, .ref h3, .int mo, .int (nI op), .int 1, .int (nI (sp + i_3)), .int (nI ((sp + i_3) + i_17)), .int r_67, .int (f (sp + i_3))])), (h1, .inr (9, [.ref h4, .int (nI n)])), (h4, .inl (D.1 13, 1600, .inl f)), (h2, .inl (D.1 14, 179, .inl fw))]) [0, 1, 2, 3] rfl
                    have hD9 := hD.sub (ws' := [(h0, .inr (6, [.int 0, .int pl, .ref h1, .ref h2, .ref h3, .int mo, .int (nI op), .int 1, .int (nI (sp + i_3)), .int (nI ((sp + i_3) + i_17)), .int r_67, .int (f (sp + i_3))])), (h1, .inr (9, [.ref h4, .int (nI n)])), (h4, .inl (D.1 13, 1600, .inl f)), (h2, .inl (D.1 14, 179, .inl fw))]) [0, 1, 2, 3] (by decide) rfl
                    refine W.widen (k := 0) (n := 0) (Nat.le_of_ble_eq_true rfl) (Nat.le_of_ble_eq_true rfl) ?_
                    exact W.vret hx hb hr (fun t ht hW => ⟨⟨(1, (sp + i_3), ((sp + i_3) + i_17), r_67, (f (sp + i_3))), rfl, (by first | omega | (dsimp only; omega)), by rw [ht]; exact hP9, va_K.moved hW.alike hK, hD9⟩, hS.F ht⟩) hS.2.2 dX6_advance_300
        · skip
          refine lv_if_eq (tgt := 176) hx hb dX6_advance_112 (by decide) (fun _ => ?_) (fun c_106 => (z_abs c_106 (by decide)).elim)
          refine lv_aload_n hx hb dX6_advance_176 rfl (lv_at hl 0 rfl) ?_
          refine va_get (D := D) (ci := 6) (v := .int (f (sp + i_3))) (C := RX6) (T := TX6) (N := 12) hx hb ht inX6 hown hK hP 0 rfl rfl 11 (by decide) (ht (.fieldLink RX6 108 "CloneVolumes$Reader" "sign" "I") fl_X6_108) (fun _ h9 => h9) rfl dX6_advance_177 ?_
          refine zcS (As := [.int (f (sp + i_3))]) (rest := []) (n := 1) ⟨hx, hb, hml, hown, ht⟩ (k_X6_isDigit l D (f (sp + i_3))) (zgT ml_X6_118 st_X6_isDigit in_X6 co_X6_isDigit) rfl rfl (by decide +kernel) ⟨Nat.le_of_ble_eq_true rfl, Nat.le_of_ble_eq_true rfl⟩ hK hP hS [] rfl rfl hl.1 rfl (Nat.le_of_ble_eq_true rfl) dX6_advance_180 ⟨Nat.le_of_ble_eq_true rfl, Nat.le_of_ble_eq_true rfl⟩ (fun r_108 H locs hw hP hS => ?_)
          rcases hw with ⟨rfl, g_109⟩ | ⟨rfl, g_110⟩
          · skip
            refine lv_if_eq (tgt := 236) hx hb dX6_advance_183 (by decide) (fun c_111 => (z_abs c_111 (by decide)).elim) (fun _ => ?_)
            refine lv_aload_n hx hb dX6_advance_186 rfl (lv_at hl 0 rfl) ?_
            refine lv_iconst (v := 2) hx hb dX6_advance_187 (by decide) ?_
            refine va_put (D := D) (ci := 6) (v := .int 2) (ty := .int) (C := RX6) (T := TX6) (N := 12) hx hb ht inX6 tyX6 tyX6_ok nmX6 hown hK hP hD hS 0 rfl rfl 7 (by decide) (ht (.fieldLink RX6 44 "CloneVolumes$Reader" "kind" "I") fl_X6_44) (fun _ h9 => h9) rfl (by decide +kernel) rfl rfl (Nat.le_of_ble_eq_true rfl) dX6_advance_188 (fun H locs hP hD hS => ?_)
            have hP : va_P D vwCl [(h0, .inr (6, [.int 0, .int pl, .ref h1, .ref h2, .ref h3, .int mo, .int (nI op), .int 2, .int (nI (sp + i_3)), .int (nI (sp + i_3)), .int (-1), .int (f (sp + i_3))])), (h1, .inr (9, [.ref h4, .int (nI n)])), (h4, .inl (D.1 13, 1600, .inl f)), (h2, .inl (D.1 14, 179, .inl fw))] H := hP
            have hD : va_D A [(h0, .inr (6, [.int 0, .int pl, .ref h1, .ref h2, .ref h3, .int mo, .int (nI op), .int 2, .int (nI (sp + i_3)), .int (nI (sp + i_3)), .int (-1), .int (f (sp + i_3))])), (h1, .inr (9, [.ref h4, .int (nI n)])), (h4, .inl (D.1 13, 1600, .inl f)), (h2, .inl (D.1 14, 179, .inl fw))] := hD
            refine z_loop (σ := Unit) (N := 1600) (fun i u H locs ls => ((sp + i_3) + i ≤ n) ∧ va_P D vwCl [(h0, .inr (6, [.int 0, .int pl, .ref h1, .ref h2, .ref h3, .int mo, .int (nI op), .int 2, .int (nI (sp + i_3)), .int (nI ((sp + i_3) + i)), .int (-1), .int (f (sp + i_3))])), (h1, .inr (9, [.ref h4, .int (nI n)])), (h4, .inl (D.1 13, 1600, .inl f)), (h2, .inl (D.1 14, 179, .inl fw))] H ∧ va_D A [(h0, .inr (6, [.int 0, .int pl, .ref h1, .ref h2, .ref h3, .int mo, .int (nI op), .int 2, .int (nI (sp + i_3)), .int (nI ((sp + i_3) + i)), .int (-1), .int (f (sp + i_3))])), (h1, .inr (9, [.ref h4, .int (nI n)])), (h4, .inl (D.1 13, 1600, .inl f)), (h2, .inl (D.1 14, 179, .inl fw))] ∧ va_S A s.heap H locs ∧ lv_has ls 2 [(0, .ref h0)]) (fun i_113 _u H locs ls hi_i_113 hI ih_191 => ?_) 0 () (by decide) ⟨(by first | omega | (dsimp only; omega)), hP, hD, hS, lv_sub hl [0] rfl⟩
            obtain ⟨hv_i_113, hP, hD, hS, hl⟩ := hI
            have hv_i_113 : (sp + i_3) + i_113 ≤ n := hv_i_113
            have hP : va_P D vwCl [(h0, .inr (6, [.int 0, .int pl, .ref h1, .ref h2, .ref h3, .int mo, .int (nI op), .int 2, .int (nI (sp + i_3)), .int (nI ((sp + i_3) + i_113)), .int (-1), .int (f (sp + i_3))])), (h1, .inr (9, [.ref h4, .int (nI n)])), (h4, .inl (D.1 13, 1600, .inl f)), (h2, .inl (D.1 14, 179, .inl fw))] H := hP
            have hD : va_D A [(h0, .inr (6, [.int 0, .int pl, .ref h1, .ref h2, .ref h3, .int mo, .int (nI op), .int 2, .int (nI (sp + i_3)), .int (nI ((sp + i_3) + i_113)), .int (-1), .int (f (sp + i_3))])), (h1, .inr (9, [.ref h4, .int (nI n)])), (h4, .inl (D.1 13, 1600, .inl f)), (h2, .inl (D.1 14, 179, .inl fw))] := hD
            have hl : lv_has ls 2 [(0, .ref h0)] := hl
            have hz_114 : i_113 = 0 → (f ((sp + i_3) + i_113)).toInt = (f ((sp + i_3))).toInt := fun h => by rw [h]; rfl
            refine lv_aload_n hx hb dX6_advance_191 rfl (lv_at hl 0 rfl) ?_
            refine va_get (D := D) (ci := 6) (v := .int (nI ((sp + i_3) + i_113))) (C := RX6) (T := TX6) (N := 12) hx hb ht inX6 hown hK hP 0 rfl rfl 9 (by decide) (ht (.fieldLink RX6 88 "CloneVolumes$Reader" "stop" "I") fl_X6_88) (fun _ h9 => h9) rfl dX6_advance_192 ?_
            refine lv_aload_n hx hb dX6_advance_195 rfl (lv_at hl 0 rfl) ?_
            refine va_get (D := D) (ci := 6) (v := .ref h1) (C := RX6) (T := TX6) (N := 12) hx hb ht inX6 hown hK hP 0 rfl rfl 2 (by decide) (ht (.fieldLink RX6 27 "CloneVolumes$Reader" "tape" "LCloneVolumes$Tape;") fl_X6_27) (fun _ h9 => h9) rfl dX6_advance_196 ?_
            refine va_get (D := D) (ci := 9) (v := .int (nI n)) (C := RX9) (T := TX9) (N := 2) hx hb ht inX9 hown hK hP 1 rfl rfl 1 (by decide) (ht (.fieldLink RX6 91 "CloneVolumes$Tape" "length" "I") fl_X6_91) (fun _ h9 => h9) rfl dX6_advance_199 ?_
            refine lv_icmp_ge (tgt := 251) hx hb dX6_advance_202 (by decide) (fun c_115 => ?_) (fun c_115 => ?_)
            · have g_116 : ((n : Nat) : Int) ≤ (((sp + i_3) + i_113 : Nat) : Int) := z_le (nI_toInt (by omega)) (nI_toInt (by omega)) c_115
              refine lv_aload_n hx hb dX6_advance_251 rfl (lv_at hl 0 rfl) ?_
              refine va_get (D := D) (ci := 6) (v := .ref h1) (C := RX6) (T := TX6) (N := 12) hx hb ht inX6 hown hK hP 0 rfl rfl 2 (by decide) (ht (.fieldLink RX6 27 "CloneVolumes$Reader" "tape" "LCloneVolumes$Tape;") fl_X6_27) (fun _ h9 => h9) rfl dX6_advance_252 ?_
              refine lv_aload_n hx hb dX6_advance_255 rfl (lv_at hl 0 rfl) ?_
              refine va_get (D := D) (ci := 6) (v := .int (nI (sp + i_3))) (C := RX6) (T := TX6) (N := 12) hx hb ht inX6 hown hK hP 0 rfl rfl 8 (by decide) (ht (.fieldLink RX6 51 "CloneVolumes$Reader" "start" "I") fl_X6_51) (fun _ h9 => h9) rfl dX6_advance_256 ?_
              refine lv_iconst (v := 1) hx hb dX6_advance_259 (by decide) ?_
              refine lv_isub hx hb dX6_advance_260 ?_
              refine lv_topi (fun x_117 ex_117 => ?_)
              refine zcV (As := [.int x_117]) (rest := []) (C := RX9) (n := 1) ⟨hx, hb, hml, hown, ht⟩ (k_X9_at l D h1 h4 n f x_117 (by first | decide | omega)) (zgV ml_X6_104 im_X9_at se_X9_at in_X9 co_X9_at) rfl rfl (by decide +kernel) ⟨Nat.le_of_ble_eq_true rfl, Nat.le_of_ble_eq_true rfl⟩ hK hP hS [1, 2] rfl 0 rfl rfl rfl rfl hl.1 rfl (Nat.le_of_ble_eq_true rfl) dX6_advance_261 ⟨Nat.le_of_ble_eq_true rfl, Nat.le_of_ble_eq_true rfl⟩ (fun r_118 H locs hw hP hS => ?_)
              rcases hw with ⟨rfl, g_119⟩ | ⟨rfl, g_120⟩
              · skip
                refine lv_istore_n (lv' := [(1, .int (f x_117.toNatClampNeg)), (0, .ref h0)]) hx hb dX6_advance_264 rfl hl (by decide) rfl (fun ls hl => ?_)
                refine lv_aload_n hx hb dX6_advance_265 rfl (lv_at hl 1 rfl) ?_
                refine va_get (D := D) (ci := 6) (v := .int 2) (C := RX6) (T := TX6) (N := 12) hx hb ht inX6 hown hK hP 0 rfl rfl 7 (by decide) (ht (.fieldLink RX6 44 "CloneVolumes$Reader" "kind" "I") fl_X6_44) (fun _ h9 => h9) rfl dX6_advance_266 ?_
                refine lv_iconst (v := 1) hx hb dX6_advance_269 (by decide) ?_
                refine lv_icmp_eq (tgt := 281) hx hb dX6_advance_270 (by decide) (fun c_121 => (z_abs c_121 (by decide)).elim) (fun _ => ?_)
                refine lv_aload_n hx hb dX6_advance_273 rfl (lv_at hl 1 rfl) ?_
                refine va_get (D := D) (ci := 6) (v := .int 2) (C := RX6) (T := TX6) (N := 12) hx hb ht inX6 hown hK hP 0 rfl rfl 7 (by decide) (ht (.fieldLink RX6 44 "CloneVolumes$Reader" "kind" "I") fl_X6_44) (fun _ h9 => h9) rfl dX6_advance_274 ?_
                refine lv_iconst (v := 2) hx hb dX6_advance_277 (by decide) ?_
                refine lv_icmp_ne (tgt := 300) hx hb dX6_advance_278 (by decide) (fun c_123 => (z_abs c_123 (by decide)).elim) (fun _ => ?_)
                refine lv_iload_n hx hb dX6_advance_281 rfl (lv_at hl 0 rfl) ?_
                refine zcS (As := [.int (f x_117.toNatClampNeg)]) (rest := []) (n := 1) ⟨hx, hb, hml, hown, ht⟩ (k_X6_isLetter l D (f x_117.toNatClampNeg)) (zgT ml_X6_111 st_X6_isLetter in_X6 co_X6_isLetter) rfl rfl (by decide +kernel) ⟨Nat.le_of_ble_eq_true rfl, Nat.le_of_ble_eq_true rfl⟩ hK hP hS [] rfl rfl hl.1 rfl (Nat.le_of_ble_eq_true rfl) dX6_advance_282 ⟨Nat.le_of_ble_eq_true rfl, Nat.le_of_ble_eq_true rfl⟩ (fun r_125 H locs hw hP hS => ?_)
                rcases hw with ⟨rfl, g_126⟩ | ⟨rfl, g_127⟩
                · skip
                  refine lv_if_ne (tgt := 295) hx hb dX6_advance_285 (by decide) (fun _ => ?_) (fun c_128 => (z_abs c_128 (by decide)).elim)
                  refine lv_aload_n hx hb dX6_advance_295 rfl (lv_at hl 1 rfl) ?_
                  refine lv_iconst (v := 4) hx hb dX6_advance_296 (by decide) ?_
                  refine va_put (D := D) (ci := 6) (v := .int 4) (ty := .int) (C := RX6) (T := TX6) (N := 12) hx hb ht inX6 tyX6 tyX6_ok nmX6 hown hK hP hD hS 0 rfl rfl 7 (by decide) (ht (.fieldLink RX6 44 "CloneVolumes$Reader" "kind" "I") fl_X6_44) (fun _ h9 => h9) rfl (by decide +kernel) rfl rfl (Nat.le_of_ble_eq_true rfl) dX6_advance_297 (fun H locs hP hD hS => ?_)
                  have hP : va_P D vwCl [(h0, .inr (6, [.int 0, .int pl, .ref h1, .ref h2, .ref h3, .int mo, .int (nI op), .int 4, .int (nI (sp + i_3)), .int (nI ((sp + i_3) + i_113)), .int (-1), .int (f (sp + i_3))])), (h1, .inr (9, [.ref h4, .int (nI n)])), (h4, .inl (D.1 13, 1600, .inl f)), (h2, .inl (D.1 14, 179, .inl fw))] H := hP
                  have hD : va_D A [(h0, .inr (6, [.int 0, .int pl, .ref h1, .ref h2, .ref h3, .int mo, .int (nI op), .int 4, .int (nI (sp + i_3)), .int (nI ((sp + i_3) + i_113)), .int (-1), .int (f (sp + i_3))])), (h1, .inr (9, [.ref h4, .int (nI n)])), (h4, .inl (D.1 13, 1600, .inl f)), (h2, .inl (D.1 14, 179, .inl fw))] := hD
                  have hP9 := hP.sub (ws' := [(h0, .inr (6, [.int 0, .int pl, .ref h1, .ref h2, .ref h3, .int mo, .int (nI op), .int 4, .int (nI (sp + i_3)), .int (nI ((sp + i_3) + i_113)), .int (-1), .int (f (sp + i_3))])), (h1, .inr (9, [.ref h4, .int (nI n)])), (h4, .inl (D.1 13, 1600, .inl f)), (h2, .inl (D.1 14, 179, .inl fw))]) [0, 1, 2, 3] rfl
                  have hD9 := hD.sub (ws' := [(h0, .inr (6, [.int 0, .int pl, .ref h1, .ref h2, .ref h3, .int mo, .int (nI op), .int 4, .int (nI (sp + i_3)), .int (nI ((sp + i_3) + i_113)), .int (-1), .int (f (sp + i_3))])), (h1, .inr (9, [.ref h4, .int (nI n)])), (h4, .inl (D.1 13, 1600, .inl f)), (h2, .inl (D.1 14, 179, .inl fw))]) [0, 1, 2, 3] (by decide) rfl
                  refine W.widen (k := 0) (n := 0) (Nat.le_of_ble_eq_true rfl) (Nat.le_of_ble_eq_true rfl) ?_
                  exact W.vret hx hb hr (fun t ht hW => ⟨⟨(4, (sp + i_3), ((sp + i_3) + i_113), (-1), (f (sp + i_3))), rfl, (by first | omega | (dsimp only; omega)), by rw [ht]; exact hP9, va_K.moved hW.alike hK, hD9⟩, hS.F ht⟩) hS.2.2 dX6_advance_300
                · skip
                  refine lv_if_ne (tgt := 295) hx hb dX6_advance_285 (by decide) (fun c_130 => (z_abs c_130 (by decide)).elim) (fun _ => ?_)
                  refine lv_iload_n hx hb dX6_advance_288 rfl (lv_at hl 0 rfl) ?_
                  refine zcS (As := [.int (f x_117.toNatClampNeg)]) (rest := []) (n := 1) ⟨hx, hb, hml, hown, ht⟩ (k_X6_isDigit l D (f x_117.toNatClampNeg)) (zgT ml_X6_118 st_X6_isDigit in_X6 co_X6_isDigit) rfl rfl (by decide +kernel) ⟨Nat.le_of_ble_eq_true rfl, Nat.le_of_ble_eq_true rfl⟩ hK hP hS [] rfl rfl hl.1 rfl (Nat.le_of_ble_eq_true rfl) dX6_advance_289 ⟨Nat.le_of_ble_eq_true rfl, Nat.le_of_ble_eq_true rfl⟩ (fun r_132 H locs hw hP hS => ?_)
                  rcases hw with ⟨rfl, g_133⟩ | ⟨rfl, g_134⟩
                  · skip
                    refine lv_if_eq (tgt := 300) hx hb dX6_advance_292 (by decide) (fun c_135 => (z_abs c_135 (by decide)).elim) (fun _ => ?_)
                    refine lv_aload_n hx hb dX6_advance_295 rfl (lv_at hl 1 rfl) ?_
                    refine lv_iconst (v := 4) hx hb dX6_advance_296 (by decide) ?_
                    refine va_put (D := D) (ci := 6) (v := .int 4) (ty := .int) (C := RX6) (T := TX6) (N := 12) hx hb ht inX6 tyX6 tyX6_ok nmX6 hown hK hP hD hS 0 rfl rfl 7 (by decide) (ht (.fieldLink RX6 44 "CloneVolumes$Reader" "kind" "I") fl_X6_44) (fun _ h9 => h9) rfl (by decide +kernel) rfl rfl (Nat.le_of_ble_eq_true rfl) dX6_advance_297 (fun H locs hP hD hS => ?_)
                    have hP : va_P D vwCl [(h0, .inr (6, [.int 0, .int pl, .ref h1, .ref h2, .ref h3, .int mo, .int (nI op), .int 4, .int (nI (sp + i_3)), .int (nI ((sp + i_3) + i_113)), .int (-1), .int (f (sp + i_3))])), (h1, .inr (9, [.ref h4, .int (nI n)])), (h4, .inl (D.1 13, 1600, .inl f)), (h2, .inl (D.1 14, 179, .inl fw))] H := hP
                    have hD : va_D A [(h0, .inr (6, [.int 0, .int pl, .ref h1, .ref h2, .ref h3, .int mo, .int (nI op), .int 4, .int (nI (sp + i_3)), .int (nI ((sp + i_3) + i_113)), .int (-1), .int (f (sp + i_3))])), (h1, .inr (9, [.ref h4, .int (nI n)])), (h4, .inl (D.1 13, 1600, .inl f)), (h2, .inl (D.1 14, 179, .inl fw))] := hD
                    have hP9 := hP.sub (ws' := [(h0, .inr (6, [.int 0, .int pl, .ref h1, .ref h2, .ref h3, .int mo, .int (nI op), .int 4, .int (nI (sp + i_3)), .int (nI ((sp + i_3) + i_113)), .int (-1), .int (f (sp + i_3))])), (h1, .inr (9, [.ref h4, .int (nI n)])), (h4, .inl (D.1 13, 1600, .inl f)), (h2, .inl (D.1 14, 179, .inl fw))]) [0, 1, 2, 3] rfl
                    have hD9 := hD.sub (ws' := [(h0, .inr (6, [.int 0, .int pl, .ref h1, .ref h2, .ref h3, .int mo, .int (nI op), .int 4, .int (nI (sp + i_3)), .int (nI ((sp + i_3) + i_113)), .int (-1), .int (f (sp + i_3))])), (h1, .inr (9, [.ref h4, .int (nI n)])), (h4, .inl (D.1 13, 1600, .inl f)), (h2, .inl (D.1 14, 179, .inl fw))]) [0, 1, 2, 3] (by decide) rfl
                    refine W.widen (k := 0) (n := 0) (Nat.le_of_ble_eq_true rfl) (Nat.le_of_ble_eq_true rfl) ?_
                    exact W.vret hx hb hr (fun t ht hW => ⟨⟨(4, (sp + i_3), ((sp + i_3) + i_113), (-1), (f (sp + i_3))), rfl, (by first | omega | (dsimp only; omega)), by rw [ht]; exact hP9, va_K.moved hW.alike hK, hD9⟩, hS.F ht⟩) hS.2.2 dX6_advance_300
                  · skip
                    refine lv_if_eq (tgt := 300) hx hb dX6_advance_292 (by decide) (fun _ => ?_) (fun c_137 => (z_abs c_137 (by decide)).elim)
                    have hP9 := hP.sub (ws' := [(h0, .inr (6, [.int 0, .int pl, .ref h1, .ref h2, .ref h3, .int mo, .int (nI op), .int 2, .int (nI (sp + i_3)), .int (nI ((sp + i_3) + i_113)), .int (-1), .int (f (sp + i_3))])), (h1, .inr (9, [.ref h4, .int (nI n)])), (h4, .inl (D.1 13, 1600, .inl f)), (h2, .inl (D.1 14, 179, .inl fw))]) [0, 1, 2, 3] rfl
                    have hD9 := hD.sub (ws' := [(h0, .inr (6, [.int 0, .int pl, .ref h1, .ref h2, .ref h3, .int mo, .int (nI op), .int 2, .int (nI (sp + i_3)), .int (nI ((sp + i_3) + i_113)), .int (-1), .int (f (sp + i_3))])), (h1, .inr (9, [.ref h4, .int (nI n)])), (h4, .inl (D.1 13, 1600, .inl f)), (h2, .inl (D.1 14, 179, .inl fw))]) [0, 1, 2, 3] (by decide) rfl
                    refine W.widen (k := 0) (n := 0) (Nat.le_of_ble_eq_true rfl) (Nat.le_of_ble_eq_true rfl) ?_
                    exact W.vret hx hb hr (fun t ht hW => ⟨⟨(2, (sp + i_3), ((sp + i_3) + i_113), (-1), (f (sp + i_3))), rfl, (by first | omega | (dsimp only; omega)), by rw [ht]; exact hP9, va_K.moved hW.alike hK, hD9⟩, hS.F ht⟩) hS.2.2 dX6_advance_300
              · skip
                refine lv_istore_n (lv' := [(1, .int (-1)), (0, .ref h0)]) hx hb dX6_advance_264 rfl hl (by decide) rfl (fun ls hl => ?_)
                refine lv_aload_n hx hb dX6_advance_265 rfl (lv_at hl 1 rfl) ?_
                refine va_get (D := D) (ci := 6) (v := .int 2) (C := RX6) (T := TX6) (N := 12) hx hb ht inX6 hown hK hP 0 rfl rfl 7 (by decide) (ht (.fieldLink RX6 44 "CloneVolumes$Reader" "kind" "I") fl_X6_44) (fun _ h9 => h9) rfl dX6_advance_266 ?_
                refine lv_iconst (v := 1) hx hb dX6_advance_269 (by decide) ?_
                refine lv_icmp_eq (tgt := 281) hx hb dX6_advance_270 (by decide) (fun c_139 => (z_abs c_139 (by decide)).elim) (fun _ => ?_)
                refine lv_aload_n hx hb dX6_advance_273 rfl (lv_at hl 1 rfl) ?_
                refine va_get (D := D) (ci := 6) (v := .int 2) (C := RX6) (T := TX6) (N := 12) hx hb ht inX6 hown hK hP 0 rfl rfl 7 (by decide) (ht (.fieldLink RX6 44 "CloneVolumes$Reader" "kind" "I") fl_X6_44) (fun _ h9 => h9) rfl dX6_advance_274 ?_
                refine lv_iconst (v := 2) hx hb dX6_advance_277 (by decide) ?_
                refine lv_icmp_ne (tgt := 300) hx hb dX6_advance_278 (by decide) (fun c_141 => (z_abs c_141 (by decide)).elim) (fun _ => ?_)
                refine lv_iload_n hx hb dX6_advance_281 rfl (lv_at hl 0 rfl) ?_
                have en_143 : ((-1) : Int32).toInt = (-1) := by decide
                refine zcS (As := [.int (-1)]) (rest := []) (n := 1) ⟨hx, hb, hml, hown, ht⟩ (k_X6_isLetter l D (-1)) (zgT ml_X6_111 st_X6_isLetter in_X6 co_X6_isLetter) rfl rfl (by decide +kernel) ⟨Nat.le_of_ble_eq_true rfl, Nat.le_of_ble_eq_true rfl⟩ hK hP hS [] rfl rfl hl.1 rfl (Nat.le_of_ble_eq_true rfl) dX6_advance_282 ⟨Nat.le_of_ble_eq_true rfl, Nat.le_of_ble_eq_true rfl⟩ (fun r_144 H locs hw hP hS => ?_)
                rcases hw with ⟨rfl, g_145⟩ | ⟨rfl, g_146⟩
                · skip
                  refine lv_if_ne (tgt := 295) hx hb dX6_advance_285 (by decide) (fun _ => ?_) (fun c_147 => (z_abs c_147 (by decide)).elim)
                  refine lv_aload_n hx hb dX6_advance_295 rfl (lv_at hl 1 rfl) ?_
                  refine lv_iconst (v := 4) hx hb dX6_advance_296 (by decide) ?_
                  refine va_put (D := D) (ci := 6) (v := .int 4) (ty := .int) (C := RX6) (T := TX6) (N := 12) hx hb ht inX6 tyX6 tyX6_ok nmX6 hown hK hP hD hS 0 rfl rfl 7 (by decide) (ht (.fieldLink RX6 44 "CloneVolumes$Reader" "kind" "I") fl_X6_44) (fun _ h9 => h9) rfl (by decide +kernel) rfl rfl (Nat.le_of_ble_eq_true rfl) dX6_advance_297 (fun H locs hP hD hS => ?_)
                  have hP : va_P D vwCl [(h0, .inr (6, [.int 0, .int pl, .ref h1, .ref h2, .ref h3, .int mo, .int (nI op), .int 4, .int (nI (sp + i_3)), .int (nI ((sp + i_3) + i_113)), .int (-1), .int (f (sp + i_3))])), (h1, .inr (9, [.ref h4, .int (nI n)])), (h4, .inl (D.1 13, 1600, .inl f)), (h2, .inl (D.1 14, 179, .inl fw))] H := hP
                  have hD : va_D A [(h0, .inr (6, [.int 0, .int pl, .ref h1, .ref h2, .ref h3, .int mo, .int (nI op), .int 4, .int (nI (sp + i_3)), .int (nI ((sp + i_3) + i_113)), .int (-1), .int (f (sp + i_3))])), (h1, .inr (9, [.ref h4, .int (nI n)])), (h4, .inl (D.1 13, 1600, .inl f)), (h2, .inl (D.1 14, 179, .inl fw))] := hD
                  have hP9 := hP.sub (ws' := [(h0, .inr (6, [.int 0, .int pl, .ref h1, .ref h2, .ref h3, .int mo, .int (nI op), .int 4, .int (nI (sp + i_3)), .int (nI ((sp + i_3) + i_113)), .int (-1), .int (f (sp + i_3))])), (h1, .inr (9, [.ref h4, .int (nI n)])), (h4, .inl (D.1 13, 1600, .inl f)), (h2, .inl (D.1 14, 179, .inl fw))]) [0, 1, 2, 3] rfl
                  have hD9 := hD.sub (ws' := [(h0, .inr (6, [.int 0, .int pl, .ref h1, .ref h2, .ref h3, .int mo, .int (nI op), .int 4, .int (nI (sp + i_3)), .int (nI ((sp + i_3) + i_113)), .int (-1), .int (f (sp + i_3))])), (h1, .inr (9, [.ref h4, .int (nI n)])), (h4, .inl (D.1 13, 1600, .inl f)), (h2, .inl (D.1 14, 179, .inl fw))]) [0, 1, 2, 3] (by decide) rfl
                  refine W.widen (k := 0) (n := 0) (Nat.le_of_ble_eq_true rfl) (Nat.le_of_ble_eq_true rfl) ?_
                  exact W.vret hx hb hr (fun t ht hW => ⟨⟨(4, (sp + i_3), ((sp + i_3) + i_113), (-1), (f (sp + i_3))), rfl, (by first | omega | (dsimp only; omega)), by rw [ht]; exact hP9, va_K.moved hW.alike hK, hD9⟩, hS.F ht⟩) hS.2.2 dX6_advance_300
                · skip
                  refine lv_if_ne (tgt := 295) hx hb dX6_advance_285 (by decide) (fun c_149 => (z_abs c_149 (by decide)).elim) (fun _ => ?_)
                  refine lv_iload_n hx hb dX6_advance_288 rfl (lv_at hl 0 rfl) ?_
                  have en_151 : ((-1) : Int32).toInt = (-1) := by decide
                  refine zcS (As := [.int (-1)]) (rest := []) (n := 1) ⟨hx, hb, hml, hown, ht⟩ (k_X6_isDigit l D (-1)) (zgT ml_X6_118 st_X6_isDigit in_X6 co_X6_isDigit) rfl rfl (by decide +kernel) ⟨Nat.le_of_ble_eq_true rfl, Nat.le_of_ble_eq_true rfl⟩ hK hP hS [] rfl rfl hl.1 rfl (Nat.le_of_ble_eq_true rfl) dX6_advance_289 ⟨Nat.le_of_ble_eq_true rfl, Nat.le_of_ble_eq_true rfl⟩ (fun r_152 H locs hw hP hS => ?_)
                  rcases hw with ⟨rfl, g_153⟩ | ⟨rfl, g_154⟩
                  · skip
                    refine lv_if_eq (tgt := 300) hx hb dX6_advance_292 (by decide) (fun c_155 => (z_abs c_155 (by decide)).elim) (fun _ => ?_)
                    refine lv_aload_n hx hb dX6_advance_295 rfl (lv_at hl 1 rfl) ?_
                    refine lv_iconst (v := 4) hx hb dX6_advance_296 (by decide) ?_
                    refine va_put (D := D) (ci := 6) (v := .int 4) (ty := .int) (C := RX6) (T := TX6) (N := 12) hx hb ht inX6 tyX6 tyX6_ok nmX6 hown hK hP hD hS 0 rfl rfl 7 (by decide) (ht (.fieldLink RX6 44 "CloneVolumes$Reader" "kind" "I") fl_X6_44) (fun _ h9 => h9) rfl (by decide +kernel) rfl rfl (Nat.le_of_ble_eq_true rfl) dX6_advance_297 (fun H locs hP hD hS => ?_)
                    have hP : va_P D vwCl [(h0, .inr (6, [.int 0, .int pl, .ref h1, .ref h2, .ref h3, .int mo, .int (nI op), .int 4, .int (nI (sp + i_3)), .int (nI ((sp + i_3) + i_113)), .int (-1), .int (f (sp + i_3))])), (h1, .inr (9, [.ref h4, .int (nI n)])), (h4, .inl (D.1 13, 1600, .inl f)), (h2, .inl (D.1 14, 179, .inl fw))] H := hP
                    have hD : va_D A [(h0, .inr (6, [.int 0, .int pl, .ref h1, .ref h2, .ref h3, .int mo, .int (nI op), .int 4, .int (nI (sp + i_3)), .int (nI ((sp + i_3) + i_113)), .int (-1), .int (f (sp + i_3))])), (h1, .inr (9, [.ref h4, .int (nI n)])), (h4, .inl (D.1 13, 1600, .inl f)), (h2, .inl (D.1 14, 179, .inl fw))] := hD
                    have hP9 := hP.sub (ws' := [(h0, .inr (6, [.int 0, .int pl, .ref h1, .ref h2, .ref h3, .int mo, .int (nI op), .int 4, .int (nI (sp + i_3)), .int (nI ((sp + i_3) + i_113)), .int (-1), .int (f (sp + i_3))])), (h1, .inr (9, [.ref h4, .int (nI n)])), (h4, .inl (D.1 13, 1600, .inl f)), (h2, .inl (D.1 14, 179, .inl fw))]) [0, 1, 2, 3] rfl
                    have hD9 := hD.sub (ws' := [(h0, .inr (6, [.int 0, .int pl, .ref h1, .ref h2, .ref h3, .int mo, .int (nI op), .int 4, .int (nI (sp + i_3)), .int (nI ((sp + i_3) + i_113)), .int (-1), .int (f (sp + i_3))])), (h1, .inr (9, [.ref h4, .int (nI n)])), (h4, .inl (D.1 13, 1600, .inl f)), (h2, .inl (D.1 14, 179, .inl fw))]) [0, 1, 2, 3] (by decide) rfl
                    refine W.widen (k := 0) (n := 0) (Nat.le_of_ble_eq_true rfl) (Nat.le_of_ble_eq_true rfl) ?_
                    exact W.vret hx hb hr (fun t ht hW => ⟨⟨(4, (sp + i_3), ((sp + i_3) + i_113), (-1), (f (sp + i_3))), rfl, (by first | omega | (dsimp only; omega)), by rw [ht]; exact hP9, va_K.moved hW.alike hK, hD9⟩, hS.F ht⟩) hS.2.2 dX6_advance_300
                  · skip
                    refine lv_if_eq (tgt := 300) hx hb dX6_advance_292 (by decide) (fun _ => ?_) (fun c_157 => (z_abs c_157 (by decide)).elim)
                    have hP9 := hP.sub (ws' := [(h0, .inr (6, [.int 0, .int pl, .ref h1, .ref h2, .ref h3, .int mo, .int (nI op), .int 2, .int (nI (sp + i_3)), .int (nI ((sp + i_3) + i_113)), .int (-1), .int (f (sp + i_3))])), (h1, .inr (9, [.ref h4, .int (nI n)])), (h4, .inl (D.1 13, 1600, .inl f)), (h2, .inl (D.1 14, 179, .inl fw))]) [0, 1, 2, 3] rfl
                    have hD9 := hD.sub (ws' := [(h0, .inr (6, [.int 0, .int pl, .ref h1, .ref h2, .ref h3, .int mo, .int (nI op), .int 2, .int (nI (sp + i_3)), .int (nI ((sp + i_3) + i_113)), .int (-1), .int (f (sp + i_3))])), (h1, .inr (9, [.ref h4, .int (nI n)])), (h4, .inl (D.1 13, 1600, .inl f)), (h2, .inl (D.1 14, 179, .inl fw))]) [0, 1, 2, 3] (by decide) rfl
                    refine W.widen (k := 0) (n := 0) (Nat.le_of_ble_eq_true rfl) (Nat.le_of_ble_eq_true rfl) ?_
                    exact W.vret hx hb hr (fun t ht hW => ⟨⟨(2, (sp + i_3), ((sp + i_3) + i_113), (-1), (f (sp + i_3))), rfl, (by first | omega | (dsimp only; omega)), by rw [ht]; exact hP9, va_K.moved hW.alike hK, hD9⟩, hS.F ht⟩) hS.2.2 dX6_advance_300
            · have g_116 : (((sp + i_3) + i_113 : Nat) : Int) < ((n : Nat) : Int) := z_nle (nI_toInt (by omega)) (nI_toInt (by omega)) c_115
              refine lv_aload_n hx hb dX6_advance_205 rfl (lv_at hl 0 rfl) ?_
              refine va_get (D := D) (ci := 6) (v := .ref h1) (C := RX6) (T := TX6) (N := 12) hx hb ht inX6 hown hK hP 0 rfl rfl 2 (by decide) (ht (.fieldLink RX6 27 "CloneVolumes$Reader" "tape" "LCloneVolumes$Tape;") fl_X6_27) (fun _ h9 => h9) rfl dX6_advance_206 ?_
              refine va_get (D := D) (ci := 9) (v := .ref h4) (C := RX9) (T := TX9) (N := 2) hx hb ht inX9 hown hK hP 1 rfl rfl 0 (by decide) (ht (.fieldLink RX6 96 "CloneVolumes$Tape" "bytes" "[I") fl_X6_96) (fun _ h9 => h9) rfl dX6_advance_209 ?_
              refine lv_aload_n hx hb dX6_advance_212 rfl (lv_at hl 0 rfl) ?_
              refine va_get (D := D) (ci := 6) (v := .int (nI ((sp + i_3) + i_113))) (C := RX6) (T := TX6) (N := 12) hx hb ht inX6 hown hK hP 0 rfl rfl 9 (by decide) (ht (.fieldLink RX6 88 "CloneVolumes$Reader" "stop" "I") fl_X6_88) (fun _ h9 => h9) rfl dX6_advance_213 ?_
              refine va_iald hx hb hK hP 2 0 rfl rfl (vp_in_nI (by omega) (by omega)) dX6_advance_216 ?_
              refine z_topi (y := f ((sp + i_3) + i_113)) (by rw [nI_clamp (by omega)]) ?_
              refine zcS (As := [.int (f ((sp + i_3) + i_113))]) (rest := []) (n := 1) ⟨hx, hb, hml, hown, ht⟩ (k_X6_isDigit l D (f ((sp + i_3) + i_113))) (zgT ml_X6_118 st_X6_isDigit in_X6 co_X6_isDigit) rfl rfl (by decide +kernel) ⟨Nat.le_of_ble_eq_true rfl, Nat.le_of_ble_eq_true rfl⟩ hK hP hS [] rfl rfl hl.1 rfl (Nat.le_of_ble_eq_true rfl) dX6_advance_217 ⟨Nat.le_of_ble_eq_true rfl, Nat.le_of_ble_eq_true rfl⟩ (fun r_159 H locs hw hP hS => ?_)
              rcases hw with ⟨rfl, g_160⟩ | ⟨rfl, g_161⟩
              · skip
                refine lv_if_eq (tgt := 251) hx hb dX6_advance_220 (by decide) (fun c_162 => (z_abs c_162 (by decide)).elim) (fun _ => ?_)
                refine lv_aload_n hx hb dX6_advance_223 rfl (lv_at hl 0 rfl) ?_
                refine lv_dup hx hb dX6_advance_224 rfl ?_
                refine va_get (D := D) (ci := 6) (v := .int (nI ((sp + i_3) + i_113))) (C := RX6) (T := TX6) (N := 12) hx hb ht inX6 hown hK hP 0 rfl rfl 9 (by decide) (ht (.fieldLink RX6 88 "CloneVolumes$Reader" "stop" "I") fl_X6_88) (fun _ h9 => h9) rfl dX6_advance_225 ?_
                refine lv_iconst (v := 1) hx hb dX6_advance_228 (by decide) ?_
                refine lv_iadd hx hb dX6_advance_229 ?_
                refine z_topi (y := nI (((sp + i_3) + i_113) + 1)) (z_nadd ((sp + i_3) + i_113) 1) ?_
                refine va_put (D := D) (ci := 6) (v := .int (nI (((sp + i_3) + i_113) + 1))) (ty := .int) (C := RX6) (T := TX6) (N := 12) hx hb ht inX6 tyX6 tyX6_ok nmX6 hown hK hP hD hS 0 rfl rfl 9 (by decide) (ht (.fieldLink RX6 88 "CloneVolumes$Reader" "stop" "I") fl_X6_88) (fun _ h9 => h9) rfl (by decide +kernel) rfl rfl (Nat.le_of_ble_eq_true rfl) dX6_advance_230 (fun H locs hP hD hS => ?_)
                have hP : va_P D vwCl [(h0, .inr (6, [.int 0, .int pl, .ref h1, .ref h2, .ref h3, .int mo, .int (nI op), .int 2, .int (nI (sp + i_3)), .int (nI (((sp + i_3) + i_113) + 1)), .int (-1), .int (f (sp + i_3))])), (h1, .inr (9, [.ref h4, .int (nI n)])), (h4, .inl (D.1 13, 1600, .inl f)), (h2, .inl (D.1 14, 179, .inl fw))] H := hP
                have hD : va_D A [(h0, .inr (6, [.int 0, .int pl, .ref h1, .ref h2, .ref h3, .int mo, .int (nI op), .int 2, .int (nI (sp + i_3)), .int (nI (((sp + i_3) + i_113) + 1)), .int (-1), .int (f (sp + i_3))])), (h1, .inr (9, [.ref h4, .int (nI n)])), (h4, .inl (D.1 13, 1600, .inl f)), (h2, .inl (D.1 14, 179, .inl fw))] := hD
                refine lv_goto (tgt := 191) hx hb dX6_advance_233 (by decide) ?_
                rw [show ((sp + i_3) + i_113) + 1 = (sp + i_3) + (i_113 + 1) by omega] at hP hD
                exact ih_191 () _ _ _ (by omega) ⟨(by first | omega | (dsimp only; omega)), hP.sub [0, 1, 2, 3] rfl, hD.sub [0, 1, 2, 3] (by decide) rfl, hS, lv_sub hl [0] rfl⟩
              · skip
                refine lv_if_eq (tgt := 251) hx hb dX6_advance_220 (by decide) (fun _ => ?_) (fun c_164 => (z_abs c_164 (by decide)).elim)
                refine lv_aload_n hx hb dX6_advance_251 rfl (lv_at hl 0 rfl) ?_
                refine va_get (D := D) (ci := 6) (v := .ref h1) (C := RX6) (T := TX6) (N := 12) hx hb ht inX6 hown hK hP 0 rfl rfl 2 (by decide) (ht (.fieldLink RX6 27 "CloneVolumes$Reader" "tape" "LCloneVolumes$Tape;") fl_X6_27) (fun _ h9 => h9) rfl dX6_advance_252 ?_
                refine lv_aload_n hx hb dX6_advance_255 rfl (lv_at hl 0 rfl) ?_
                refine va_get (D := D) (ci := 6) (v := .int (nI (sp + i_3))) (C := RX6) (T := TX6) (N := 12) hx hb ht inX6 hown hK hP 0 rfl rfl 8 (by decide) (ht (.fieldLink RX6 51 "CloneVolumes$Reader" "start" "I") fl_X6_51) (fun _ h9 => h9) rfl dX6_advance_256 ?_
                refine lv_iconst (v := 1) hx hb dX6_advance_259 (by decide) ?_
                refine lv_isub hx hb dX6_advance_260 ?_
                refine lv_topi (fun x_166 ex_166 => ?_)
                refine zcV (As := [.int x_166]) (rest := []) (C := RX9) (n := 1) ⟨hx, hb, hml, hown, ht⟩ (k_X9_at l D h1 h4 n f x_166 (by first | decide | omega)) (zgV ml_X6_104 im_X9_at se_X9_at in_X9 co_X9_at) rfl rfl (by decide +kernel) ⟨Nat.le_of_ble_eq_true rfl, Nat.le_of_ble_eq_true rfl⟩ hK hP hS [1, 2] rfl 0 rfl rfl rfl rfl hl.1 rfl (Nat.le_of_ble_eq_true rfl) dX6_advance_261 ⟨Nat.le_of_ble_eq_true rfl, Nat.le_of_ble_eq_true rfl⟩ (fun r_167 H locs hw hP hS => ?_)
                rcases hw with ⟨rfl, g_168⟩ | ⟨rfl, g_169⟩
                · skip
                  refine lv_istore_n (lv' := [(1, .int (f x_166.toNatClampNeg)), (0, .ref h0)]) hx hb dX6_advance_264 rfl hl (by decide) rfl (fun ls hl => ?_)
                  refine lv_aload_n hx hb dX6_advance_265 rfl (lv_at hl 1 rfl) ?_
                  refine va_get (D := D) (ci := 6) (v := .int 2) (C := RX6) (T := TX6) (N := 12) hx hb ht inX6 hown hK hP 0 rfl rfl 7 (by decide) (ht (.fieldLink RX6 44 "CloneVolumes$Reader" "kind" "I") fl_X6_44) (fun _ h9 => h9) rfl dX6_advance_266 ?_
                  refine lv_iconst (v := 1) hx hb dX6_advance_269 (by decide) ?_
                  refine lv_icmp_eq (tgt := 281) hx hb dX6_advance_270 (by decide) (fun c_170 => (z_abs c_170 (by decide)).elim) (fun _ => ?_)
                  refine lv_aload_n hx hb dX6_advance_273 rfl (lv_at hl 1 rfl) ?_
                  refine va_get (D := D) (ci := 6) (v := .int 2) (C := RX6) (T := TX6) (N := 12) hx hb ht inX6 hown hK hP 0 rfl rfl 7 (by decide) (ht (.fieldLink RX6 44 "CloneVolumes$Reader" "kind" "I") fl_X6_44) (fun _ h9 => h9) rfl dX6_advance_274 ?_
                  refine lv_iconst (v := 2) hx hb dX6_advance_277 (by decide) ?_
                  refine lv_icmp_ne (tgt := 300) hx hb dX6_advance_278 (by decide) (fun c_172 => (z_abs c_172 (by decide)).elim) (fun _ => ?_)
                  refine lv_iload_n hx hb dX6_advance_281 rfl (lv_at hl 0 rfl) ?_
                  refine zcS (As := [.int (f x_166.toNatClampNeg)]) (rest := []) (n := 1) ⟨hx, hb, hml, hown, ht⟩ (k_X6_isLetter l D (f x_166.toNatClampNeg)) (zgT ml_X6_111 st_X6_isLetter in_X6 co_X6_isLetter) rfl rfl (by decide +kernel) ⟨Nat.le_of_ble_eq_true rfl, Nat.le_of_ble_eq_true rfl⟩ hK hP hS [] rfl rfl hl.1 rfl (Nat.le_of_ble_eq_true rfl) dX6_advance_282 ⟨Nat.le_of_ble_eq_true rfl, Nat.le_of_ble_eq_true rfl⟩ (fun r_174 H locs hw hP hS => ?_)
                  rcases hw with ⟨rfl, g_175⟩ | ⟨rfl, g_176⟩
                  · skip
                    refine lv_if_ne (tgt := 295) hx hb dX6_advance_285 (by decide) (fun _ => ?_) (fun c_177 => (z_abs c_177 (by decide)).elim)
                    refine lv_aload_n hx hb dX6_advance_295 rfl (lv_at hl 1 rfl) ?_
                    refine lv_iconst (v := 4) hx hb dX6_advance_296 (by decide) ?_
                    refine va_put (D := D) (ci := 6) (v := .int 4) (ty := .int) (C := RX6) (T := TX6) (N := 12) hx hb ht inX6 tyX6 tyX6_ok nmX6 hown hK hP hD hS 0 rfl rfl 7 (by decide) (ht (.fieldLink RX6 44 "CloneVolumes$Reader" "kind" "I") fl_X6_44) (fun _ h9 => h9) rfl (by decide +kernel) rfl rfl (Nat.le_of_ble_eq_true rfl) dX6_advance_297 (fun H locs hP hD hS => ?_)
                    have hP : va_P D vwCl [(h0, .inr (6, [.int 0, .int pl, .ref h1, .ref h2, .ref h3, .int mo, .int (nI op), .int 4, .int (nI (sp + i_3)), .int (nI ((sp + i_3) + i_113)), .int (-1), .int (f (sp + i_3))])), (h1, .inr (9, [.ref h4, .int (nI n)])), (h4, .inl (D.1 13, 1600, .inl f)), (h2, .inl (D.1 14, 179, .inl fw))] H := hP
                    have hD : va_D A [(h0, .inr (6, [.int 0, .int pl, .ref h1, .ref h2, .ref h3, .int mo, .int (nI op), .int 4, .int (nI (sp + i_3)), .int (nI ((sp + i_3) + i_113)), .int (-1), .int (f (sp + i_3))])), (h1, .inr (9, [.ref h4, .int (nI n)])), (h4, .inl (D.1 13, 1600, .inl f)), (h2, .inl (D.1 14, 179, .inl fw))] := hD
                    have hP9 := hP.sub (ws' := [(h0, .inr (6, [.int 0, .int pl, .ref h1, .ref h2, .ref h3, .int mo, .int (nI op), .int 4, .int (nI (sp + i_3)), .int (nI ((sp + i_3) + i_113)), .int (-1), .int (f (sp + i_3))])), (h1, .inr (9, [.ref h4, .int (nI n)])), (h4, .inl (D.1 13, 1600, .inl f)), (h2, .inl (D.1 14, 179, .inl fw))]) [0, 1, 2, 3] rfl
                    have hD9 := hD.sub (ws' := [(h0, .inr (6, [.int 0, .int pl, .ref h1, .ref h2, .ref h3, .int mo, .int (nI op), .int 4, .int (nI (sp + i_3)), .int (nI ((sp + i_3) + i_113)), .int (-1), .int (f (sp + i_3))])), (h1, .inr (9, [.ref h4, .int (nI n)])), (h4, .inl (D.1 13, 1600, .inl f)), (h2, .inl (D.1 14, 179, .inl fw))]) [0, 1, 2, 3] (by decide) rfl
                    refine W.widen (k := 0) (n := 0) (Nat.le_of_ble_eq_true rfl) (Nat.le_of_ble_eq_true rfl) ?_
                    exact W.vret hx hb hr (fun t ht hW => ⟨⟨(4, (sp + i_3), ((sp + i_3) + i_113), (-1), (f (sp + i_3))), rfl, (by first | omega | (dsimp only; omega)), by rw [ht]; exact hP9, va_K.moved hW.alike hK, hD9⟩, hS.F ht⟩) hS.2.2 dX6_advance_300
                  · skip
                    refine lv_if_ne (tgt := 295) hx hb dX6_advance_285 (by decide) (fun c_179 => (z_abs c_179 (by decide)).elim) (fun _ => ?_)
                    refine lv_iload_n hx hb dX6_advance_288 rfl (lv_at hl 0 rfl) ?_
                    refine zcS (As := [.int (f x_166.toNatClampNeg)]) (rest := []) (n := 1) ⟨hx, hb, hml, hown, ht⟩ (k_X6_isDigit l D (f x_166.toNatClampNeg)) (zgT ml_X6_118 st_X6_isDigit in_X6 co_X6_isDigit) rfl rfl (by decide +kernel) ⟨Nat.le_of_ble_eq_true rfl, Nat.le_of_ble_eq_true rfl⟩ hK hP hS [] rfl rfl hl.1 rfl (Nat.le_of_ble_eq_true rfl) dX6_advance_289 ⟨Nat.le_of_ble_eq_true rfl, Nat.le_of_ble_eq_true rfl⟩ (fun r_181 H locs hw hP hS => ?_)
                    rcases hw with ⟨rfl, g_182⟩ | ⟨rfl, g_183⟩
                    · skip
                      refine lv_if_eq (tgt := 300) hx hb dX6_advance_292 (by decide) (fun c_184 => (z_abs c_184 (by decide)).elim) (fun _ => ?_)
                      refine lv_aload_n hx hb dX6_advance_295 rfl (lv_at hl 1 rfl) ?_
                      refine lv_iconst (v := 4) hx hb dX6_advance_296 (by decide) ?_
                      refine va_put (D := D) (ci := 6) (v := .int 4) (ty := .int) (C := RX6) (T := TX6) (N := 12) hx hb ht inX6 tyX6 tyX6_ok nmX6 hown hK hP hD hS 0 rfl rfl 7 (by decide) (ht (.fieldLink RX6 44 "CloneVolumes$Reader" "kind" "I") fl_X6_44) (fun _ h9 => h9) rfl (by decide +kernel) rfl rfl (Nat.le_of_ble_eq_true rfl) dX6_advance_297 (fun H locs hP hD hS => ?_)
                      have hP : va_P D vwCl [(h0, .inr (6, [.int 0, .int pl, .ref h1, .ref h2, .ref h3, .int mo, .int (nI op), .int 4, .int (nI (sp + i_3)), .int (nI ((sp + i_3) + i_113)), .int (-1), .int (f (sp + i_3))])), (h1, .inr (9, [.ref h4, .int (nI n)])), (h4, .inl (D.1 13, 1600, .inl f)), (h2, .inl (D.1 14, 179, .inl fw))] H := hP
                      have hD : va_D A [(h0, .inr (6, [.int 0, .int pl, .ref h1, .ref h2, .ref h3, .int mo, .int (nI op), .int 4, .int (nI (sp + i_3)), .int (nI ((sp + i_3) + i_113)), .int (-1), .int (f (sp + i_3))])), (h1, .inr (9, [.ref h4, .int (nI n)])), (h4, .inl (D.1 13, 1600, .inl f)), (h2, .inl (D.1 14, 179, .inl fw))] := hD
                      have hP9 := hP.sub (ws' := [(h0, .inr (6, [.int 0, .int pl, .ref h1, .ref h2, .ref h3, .int mo, .int (nI op), .int 4, .int (nI (sp + i_3)), .int (nI ((sp + i_3) + i_113)), .int (-1), .int (f (sp + i_3))])), (h1, .inr (9, [.ref h4, .int (nI n)])), (h4, .inl (D.1 13, 1600, .inl f)), (h2, .inl (D.1 14, 179, .inl fw))]) [0, 1, 2, 3] rfl
                      have hD9 := hD.sub (ws' := [(h0, .inr (6, [.int 0, .int pl, .ref h1, .ref h2, .ref h3, .int mo, .int (nI op), .int 4, .int (nI (sp + i_3)), .int (nI ((sp + i_3) + i_113)), .int (-1), .int (f (sp + i_3))])), (h1, .inr (9, [.ref h4, .int (nI n)])), (h4, .inl (D.1 13, 1600, .inl f)), (h2, .inl (D.1 14, 179, .inl fw))]) [0, 1, 2, 3] (by decide) rfl
                      refine W.widen (k := 0) (n := 0) (Nat.le_of_ble_eq_true rfl) (Nat.le_of_ble_eq_true rfl) ?_
                      exact W.vret hx hb hr (fun t ht hW => ⟨⟨(4, (sp + i_3), ((sp + i_3) + i_113), (-1), (f (sp + i_3))), rfl, (by first | omega | (dsimp only; omega)), by rw [ht]; exact hP9, va_K.moved hW.alike hK, hD9⟩, hS.F ht⟩) hS.2.2 dX6_advance_300
                    · skip
                      refine lv_if_eq (tgt := 300) hx hb dX6_advance_292 (by decide) (fun _ => ?_) (fun c_186 => (z_abs c_186 (by decide)).elim)
                      have hP9 := hP.sub (ws' := [(h0, .inr (6, [.int 0, .int pl, .ref h1, .ref h2, .ref h3, .int mo, .int (nI op), .int 2, .int (nI (sp + i_3)), .int (nI ((sp + i_3) + i_113)), .int (-1), .int (f (sp + i_3))])), (h1, .inr (9, [.ref h4, .int (nI n)])), (h4, .inl (D.1 13, 1600, .inl f)), (h2, .inl (D.1 14, 179, .inl fw))]) [0, 1, 2, 3] rfl
                      have hD9 := hD.sub (ws' := [(h0, .inr (6, [.int 0, .int pl, .ref h1, .ref h2, .ref h3, .int mo, .int (nI op), .int 2, .int (nI (sp + i_3)), .int (nI ((sp + i_3) + i_113)), .int (-1), .int (f (sp + i_3))])), (h1, .inr (9, [.ref h4, .int (nI n)])), (h4, .inl (D.1 13, 1600, .inl f)), (h2, .inl (D.1 14, 179, .inl fw))]) [0, 1, 2, 3] (by decide) rfl
                      refine W.widen (k := 0) (n := 0) (Nat.le_of_ble_eq_true rfl) (Nat.le_of_ble_eq_true rfl) ?_
                      exact W.vret hx hb hr (fun t ht hW => ⟨⟨(2, (sp + i_3), ((sp + i_3) + i_113), (-1), (f (sp + i_3))), rfl, (by first | omega | (dsimp only; omega)), by rw [ht]; exact hP9, va_K.moved hW.alike hK, hD9⟩, hS.F ht⟩) hS.2.2 dX6_advance_300
                · skip
                  refine lv_istore_n (lv' := [(1, .int (-1)), (0, .ref h0)]) hx hb dX6_advance_264 rfl hl (by decide) rfl (fun ls hl => ?_)
                  refine lv_aload_n hx hb dX6_advance_265 rfl (lv_at hl 1 rfl) ?_
                  refine va_get (D := D) (ci := 6) (v := .int 2) (C := RX6) (T := TX6) (N := 12) hx hb ht inX6 hown hK hP 0 rfl rfl 7 (by decide) (ht (.fieldLink RX6 44 "CloneVolumes$Reader" "kind" "I") fl_X6_44) (fun _ h9 => h9) rfl dX6_advance_266 ?_
                  refine lv_iconst (v := 1) hx hb dX6_advance_269 (by decide) ?_
                  refine lv_icmp_eq (tgt := 281) hx hb dX6_advance_270 (by decide) (fun c_188 => (z_abs c_188 (by decide)).elim) (fun _ => ?_)
                  refine lv_aload_n hx hb dX6_advance_273 rfl (lv_at hl 1 rfl) ?_
                  refine va_get (D := D) (ci := 6) (v := .int 2) (C := RX6) (T := TX6) (N := 12) hx hb ht inX6 hown hK hP 0 rfl rfl 7 (by decide) (ht (.fieldLink RX6 44 "CloneVolumes$Reader" "kind" "I") fl_X6_44) (fun _ h9 => h9) rfl dX6_advance_274 ?_
                  refine lv_iconst (v := 2) hx hb dX6_advance_277 (by decide) ?_
                  refine lv_icmp_ne (tgt := 300) hx hb dX6_advance_278 (by decide) (fun c_190 => (z_abs c_190 (by decide)).elim) (fun _ => ?_)
                  refine lv_iload_n hx hb dX6_advance_281 rfl (lv_at hl 0 rfl) ?_
                  have en_192 : ((-1) : Int32).toInt = (-1) := by decide
                  refine zcS (As := [.int (-1)]) (rest := []) (n := 1) ⟨hx, hb, hml, hown, ht⟩ (k_X6_isLetter l D (-1)) (zgT ml_X6_111 st_X6_isLetter in_X6 co_X6_isLetter) rfl rfl (by decide +kernel) ⟨Nat.le_of_ble_eq_true rfl, Nat.le_of_ble_eq_true rfl⟩ hK hP hS [] rfl rfl hl.1 rfl (Nat.le_of_ble_eq_true rfl) dX6_advance_282 ⟨Nat.le_of_ble_eq_true rfl, Nat.le_of_ble_eq_true rfl⟩ (fun r_193 H locs hw hP hS => ?_)
                  rcases hw with ⟨rfl, g_194⟩ | ⟨rfl, g_195⟩
                  · skip
                    refine lv_if_ne (tgt := 295) hx hb dX6_advance_285 (by decide) (fun _ => ?_) (fun c_196 => (z_abs c_196 (by decide)).elim)
                    refine lv_aload_n hx hb dX6_advance_295 rfl (lv_at hl 1 rfl) ?_
                    refine lv_iconst (v := 4) hx hb dX6_advance_296 (by decide) ?_
                    refine va_put (D := D) (ci := 6) (v := .int 4) (ty := .int) (C := RX6) (T := TX6) (N := 12) hx hb ht inX6 tyX6 tyX6_ok nmX6 hown hK hP hD hS 0 rfl rfl 7 (by decide) (ht (.fieldLink RX6 44 "CloneVolumes$Reader" "kind" "I") fl_X6_44) (fun _ h9 => h9) rfl (by decide +kernel) rfl rfl (Nat.le_of_ble_eq_true rfl) dX6_advance_297 (fun H locs hP hD hS => ?_)
                    have hP : va_P D vwCl [(h0, .inr (6, [.int 0, .int pl, .ref h1, .ref h2, .ref h3, .int mo, .int (nI op), .int 4, .int (nI (sp + i_3)), .int (nI ((sp + i_3) + i_113)), .int (-1), .int (f (sp + i_3))])), (h1, .inr (9, [.ref h4, .int (nI n)])), (h4, .inl (D.1 13, 1600, .inl f)), (h2, .inl (D.1 14, 179, .inl fw))] H := hP
                    have hD : va_D A [(h0, .inr (6, [.int 0, .int pl, .ref h1, .ref h2, .ref h3, .int mo, .int (nI op), .int 4, .int (nI (sp + i_3)), .int (nI ((sp + i_3) + i_113)), .int (-1), .int (f (sp + i_3))])), (h1, .inr (9, [.ref h4, .int (nI n)])), (h4, .inl (D.1 13, 1600, .inl f)), (h2, .inl (D.1 14, 179, .inl fw))] := hD
                    have hP9 := hP.sub (ws' := [(h0, .inr (6, [.int 0, .int pl, .ref h1, .ref h2, .ref h3, .int mo, .int (nI op), .int 4, .int (nI (sp + i_3)), .int (nI ((sp + i_3) + i_113)), .int (-1), .int (f (sp + i_3))])), (h1, .inr (9, [.ref h4, .int (nI n)])), (h4, .inl (D.1 13, 1600, .inl f)), (h2, .inl (D.1 14, 179, .inl fw))]) [0, 1, 2, 3] rfl
                    have hD9 := hD.sub (ws' := [(h0, .inr (6, [.int 0, .int pl, .ref h1, .ref h2, .ref h3, .int mo, .int (nI op), .int 4, .int (nI (sp + i_3)), .int (nI ((sp + i_3) + i_113)), .int (-1), .int (f (sp + i_3))])), (h1, .inr (9, [.ref h4, .int (nI n)])), (h4, .inl (D.1 13, 1600, .inl f)), (h2, .inl (D.1 14, 179, .inl fw))]) [0, 1, 2, 3] (by decide) rfl
                    refine W.widen (k := 0) (n := 0) (Nat.le_of_ble_eq_true rfl) (Nat.le_of_ble_eq_true rfl) ?_
                    exact W.vret hx hb hr (fun t ht hW => ⟨⟨(4, (sp + i_3), ((sp + i_3) + i_113), (-1), (f (sp + i_3))), rfl, (by first | omega | (dsimp only; omega)), by rw [ht]; exact hP9, va_K.moved hW.alike hK, hD9⟩, hS.F ht⟩) hS.2.2 dX6_advance_300
                  · skip
                    refine lv_if_ne (tgt := 295) hx hb dX6_advance_285 (by decide) (fun c_198 => (z_abs c_198 (by decide)).elim) (fun _ => ?_)
                    refine lv_iload_n hx hb dX6_advance_288 rfl (lv_at hl 0 rfl) ?_
                    have en_200 : ((-1) : Int32).toInt = (-1) := by decide
                    refine zcS (As := [.int (-1)]) (rest := []) (n := 1) ⟨hx, hb, hml, hown, ht⟩ (k_X6_isDigit l D (-1)) (zgT ml_X6_118 st_X6_isDigit in_X6 co_X6_isDigit) rfl rfl (by decide +kernel) ⟨Nat.le_of_ble_eq_true rfl, Nat.le_of_ble_eq_true rfl⟩ hK hP hS [] rfl rfl hl.1 rfl (Nat.le_of_ble_eq_true rfl) dX6_advance_289 ⟨Nat.le_of_ble_eq_true rfl, Nat.le_of_ble_eq_true rfl⟩ (fun r_201 H locs hw hP hS => ?_)
                    rcases hw with ⟨rfl, g_202⟩ | ⟨rfl, g_203⟩
                    · skip
                      refine lv_if_eq (tgt := 300) hx hb dX6_advance_292 (by decide) (fun c_204 => (z_abs c_204 (by decide)).elim) (fun _ => ?_)
                      refine lv_aload_n hx hb dX6_advance_295 rfl (lv_at hl 1 rfl) ?_
                      refine lv_iconst (v := 4) hx hb dX6_advance_296 (by decide) ?_
                      refine va_put (D := D) (ci := 6) (v := .int 4) (ty := .int) (C := RX6) (T := TX6) (N := 12) hx hb ht inX6 tyX6 tyX6_ok nmX6 hown hK hP hD hS 0 rfl rfl 7 (by decide) (ht (.fieldLink RX6 44 "CloneVolumes$Reader" "kind" "I") fl_X6_44) (fun _ h9 => h9) rfl (by decide +kernel) rfl rfl (Nat.le_of_ble_eq_true rfl) dX6_advance_297 (fun H locs hP hD hS => ?_)
                      have hP : va_P D vwCl [(h0, .inr (6, [.int 0, .int pl, .ref h1, .ref h2, .ref h3, .int mo, .int (nI op), .int 4, .int (nI (sp + i_3)), .int (nI ((sp + i_3) + i_113)), .int (-1), .int (f (sp + i_3))])), (h1, .inr (9, [.ref h4, .int (nI n)])), (h4, .inl (D.1 13, 1600, .inl f)), (h2, .inl (D.1 14, 179, .inl fw))] H := hP
                      have hD : va_D A [(h0, .inr (6, [.int 0, .int pl, .ref h1, .ref h2, .ref h3, .int mo, .int (nI op), .int 4, .int (nI (sp + i_3)), .int (nI ((sp + i_3) + i_113)), .int (-1), .int (f (sp + i_3))])), (h1, .inr (9, [.ref h4, .int (nI n)])), (h4, .inl (D.1 13, 1600, .inl f)), (h2, .inl (D.1 14, 179, .inl fw))] := hD
                      have hP9 := hP.sub (ws' := [(h0, .inr (6, [.int 0, .int pl, .ref h1, .ref h2, .ref h3, .int mo, .int (nI op), .int 4, .int (nI (sp + i_3)), .int (nI ((sp + i_3) + i_113)), .int (-1), .int (f (sp + i_3))])), (h1, .inr (9, [.ref h4, .int (nI n)])), (h4, .inl (D.1 13, 1600, .inl f)), (h2, .inl (D.1 14, 179, .inl fw))]) [0, 1, 2, 3] rfl
                      have hD9 := hD.sub (ws' := [(h0, .inr (6, [.int 0, .int pl, .ref h1, .ref h2, .ref h3, .int mo, .int (nI op), .int 4, .int (nI (sp + i_3)), .int (nI ((sp + i_3) + i_113)), .int (-1), .int (f (sp + i_3))])), (h1, .inr (9, [.ref h4, .int (nI n)])), (h4, .inl (D.1 13, 1600, .inl f)), (h2, .inl (D.1 14, 179, .inl fw))]) [0, 1, 2, 3] (by decide) rfl
                      refine W.widen (k := 0) (n := 0) (Nat.le_of_ble_eq_true rfl) (Nat.le_of_ble_eq_true rfl) ?_
                      exact W.vret hx hb hr (fun t ht hW => ⟨⟨(4, (sp + i_3), ((sp + i_3) + i_113), (-1), (f (sp + i_3))), rfl, (by first | omega | (dsimp only; omega)), by rw [ht]; exact hP9, va_K.moved hW.alike hK, hD9⟩, hS.F ht⟩) hS.2.2 dX6_advance_300
                    · skip
                      refine lv_if_eq (tgt := 300) hx hb dX6_advance_292 (by decide) (fun _ => ?_) (fun c_206 => (z_abs c_206 (by decide)).elim)
                      have hP9 := hP.sub (ws' := [(h0, .inr (6, [.int 0, .int pl, .ref h1, .ref h2, .ref h3, .int mo, .int (nI op), .int 2, .int (nI (sp + i_3)), .int (nI ((sp + i_3) + i_113)), .int (-1), .int (f (sp + i_3))])), (h1, .inr (9, [.ref h4, .int (nI n)])), (h4, .inl (D.1 13, 1600, .inl f)), (h2, .inl (D.1 14, 179, .inl fw))]) [0, 1, 2, 3] rfl
                      have hD9 := hD.sub (ws' := [(h0, .inr (6, [.int 0, .int pl, .ref h1, .ref h2, .ref h3, .int mo, .int (nI op), .int 2, .int (nI (sp + i_3)), .int (nI ((sp + i_3) + i_113)), .int (-1), .int (f (sp + i_3))])), (h1, .inr (9, [.ref h4, .int (nI n)])), (h4, .inl (D.1 13, 1600, .inl f)), (h2, .inl (D.1 14, 179, .inl fw))]) [0, 1, 2, 3] (by decide) rfl
                      refine W.widen (k := 0) (n := 0) (Nat.le_of_ble_eq_true rfl) (Nat.le_of_ble_eq_true rfl) ?_
                      exact W.vret hx hb hr (fun t ht hW => ⟨⟨(2, (sp + i_3), ((sp + i_3) + i_113), (-1), (f (sp + i_3))), rfl, (by first | omega | (dsimp only; omega)), by rw [ht]; exact hP9, va_K.moved hW.alike hK, hD9⟩, hS.F ht⟩) hS.2.2 dX6_advance_300
          · skip
            refine lv_if_eq (tgt := 236) hx hb dX6_advance_183 (by decide) (fun _ => ?_) (fun c_208 => (z_abs c_208 (by decide)).elim)
            refine lv_aload_n hx hb dX6_advance_236 rfl (lv_at hl 0 rfl) ?_
            refine lv_iconst (v := 3) hx hb dX6_advance_237 (by decide) ?_
            refine va_put (D := D) (ci := 6) (v := .int 3) (ty := .int) (C := RX6) (T := TX6) (N := 12) hx hb ht inX6 tyX6 tyX6_ok nmX6 hown hK hP hD hS 0 rfl rfl 7 (by decide) (ht (.fieldLink RX6 44 "CloneVolumes$Reader" "kind" "I") fl_X6_44) (fun _ h9 => h9) rfl (by decide +kernel) rfl rfl (Nat.le_of_ble_eq_true rfl) dX6_advance_238 (fun H locs hP hD hS => ?_)
            have hP : va_P D vwCl [(h0, .inr (6, [.int 0, .int pl, .ref h1, .ref h2, .ref h3, .int mo, .int (nI op), .int 3, .int (nI (sp + i_3)), .int (nI (sp + i_3)), .int (-1), .int (f (sp + i_3))])), (h1, .inr (9, [.ref h4, .int (nI n)])), (h4, .inl (D.1 13, 1600, .inl f)), (h2, .inl (D.1 14, 179, .inl fw))] H := hP
            have hD : va_D A [(h0, .inr (6, [.int 0, .int pl, .ref h1, .ref h2, .ref h3, .int mo, .int (nI op), .int 3, .int (nI (sp + i_3)), .int (nI (sp + i_3)), .int (-1), .int (f (sp + i_3))])), (h1, .inr (9, [.ref h4, .int (nI n)])), (h4, .inl (D.1 13, 1600, .inl f)), (h2, .inl (D.1 14, 179, .inl fw))] := hD
            refine lv_aload_n hx hb dX6_advance_241 rfl (lv_at hl 0 rfl) ?_
            refine lv_dup hx hb dX6_advance_242 rfl ?_
            refine va_get (D := D) (ci := 6) (v := .int (nI (sp + i_3))) (C := RX6) (T := TX6) (N := 12) hx hb ht inX6 hown hK hP 0 rfl rfl 9 (by decide) (ht (.fieldLink RX6 88 "CloneVolumes$Reader" "stop" "I") fl_X6_88) (fun _ h9 => h9) rfl dX6_advance_243 ?_
            refine lv_iconst (v := 1) hx hb dX6_advance_246 (by decide) ?_
            refine lv_iadd hx hb dX6_advance_247 ?_
            refine z_topi (y := nI ((sp + i_3) + 1)) (z_nadd (sp + i_3) 1) ?_
            refine va_put (D := D) (ci := 6) (v := .int (nI ((sp + i_3) + 1))) (ty := .int) (C := RX6) (T := TX6) (N := 12) hx hb ht inX6 tyX6 tyX6_ok nmX6 hown hK hP hD hS 0 rfl rfl 9 (by decide) (ht (.fieldLink RX6 88 "CloneVolumes$Reader" "stop" "I") fl_X6_88) (fun _ h9 => h9) rfl (by decide +kernel) rfl rfl (Nat.le_of_ble_eq_true rfl) dX6_advance_248 (fun H locs hP hD hS => ?_)
            have hP : va_P D vwCl [(h0, .inr (6, [.int 0, .int pl, .ref h1, .ref h2, .ref h3, .int mo, .int (nI op), .int 3, .int (nI (sp + i_3)), .int (nI ((sp + i_3) + 1)), .int (-1), .int (f (sp + i_3))])), (h1, .inr (9, [.ref h4, .int (nI n)])), (h4, .inl (D.1 13, 1600, .inl f)), (h2, .inl (D.1 14, 179, .inl fw))] H := hP
            have hD : va_D A [(h0, .inr (6, [.int 0, .int pl, .ref h1, .ref h2, .ref h3, .int mo, .int (nI op), .int 3, .int (nI (sp + i_3)), .int (nI ((sp + i_3) + 1)), .int (-1), .int (f (sp + i_3))])), (h1, .inr (9, [.ref h4, .int (nI n)])), (h4, .inl (D.1 13, 1600, .inl f)), (h2, .inl (D.1 14, 179, .inl fw))] := hD
            refine lv_aload_n hx hb dX6_advance_251 rfl (lv_at hl 0 rfl) ?_
            refine va_get (D := D) (ci := 6) (v := .ref h1) (C := RX6) (T := TX6) (N := 12) hx hb ht inX6 hown hK hP 0 rfl rfl 2 (by decide) (ht (.fieldLink RX6 27 "CloneVolumes$Reader" "tape" "LCloneVolumes$Tape;") fl_X6_27) (fun _ h9 => h9) rfl dX6_advance_252 ?_
            refine lv_aload_n hx hb dX6_advance_255 rfl (lv_at hl 0 rfl) ?_
            refine va_get (D := D) (ci := 6) (v := .int (nI (sp + i_3))) (C := RX6) (T := TX6) (N := 12) hx hb ht inX6 hown hK hP 0 rfl rfl 8 (by decide) (ht (.fieldLink RX6 51 "CloneVolumes$Reader" "start" "I") fl_X6_51) (fun _ h9 => h9) rfl dX6_advance_256 ?_
            refine lv_iconst (v := 1) hx hb dX6_advance_259 (by decide) ?_
            refine lv_isub hx hb dX6_advance_260 ?_
            refine lv_topi (fun x_210 ex_210 => ?_)
            refine zcV (As := [.int x_210]) (rest := []) (C := RX9) (n := 1) ⟨hx, hb, hml, hown, ht⟩ (k_X9_at l D h1 h4 n f x_210 (by first | decide | omega)) (zgV ml_X6_104 im_X9_at se_X9_at in_X9 co_X9_at) rfl rfl (by decide +kernel) ⟨Nat.le_of_ble_eq_true rfl, Nat.le_of_ble_eq_true rfl⟩ hK hP hS [1, 2] rfl 0 rfl rfl rfl rfl hl.1 rfl (Nat.le_of_ble_eq_true rfl) dX6_advance_261 ⟨Nat.le_of_ble_eq_true rfl, Nat.le_of_ble_eq_true rfl⟩ (fun r_211 H locs hw hP hS => ?_)
            rcases hw with ⟨rfl, g_212⟩ | ⟨rfl, g_213⟩
            · skip
              refine lv_istore_n (lv' := [(1, .int (f x_210.toNatClampNeg)), (0, .ref h0)]) hx hb dX6_advance_264 rfl hl (by decide) rfl (fun ls hl => ?_)
              refine lv_aload_n hx hb dX6_advance_265 rfl (lv_at hl 1 rfl) ?_
              refine va_get (D := D) (ci := 6) (v := .int 3) (C := RX6) (T := TX6) (N := 12) hx hb ht inX6 hown hK hP 0 rfl rfl 7 (by decide) (ht (.fieldLink RX6 44 "CloneVolumes$Reader" "kind" "I") fl_X6_44) (fun _ h9 => h9) rfl dX6_advance_266 ?_
              refine lv_iconst (v := 1) hx hb dX6_advance_269 (by decide) ?_
              refine lv_icmp_eq (tgt := 281) hx hb dX6_advance_270 (by decide) (fun c_214 => (z_abs c_214 (by decide)).elim) (fun _ => ?_)
              refine lv_aload_n hx hb dX6_advance_273 rfl (lv_at hl 1 rfl) ?_
              refine va_get (D := D) (ci := 6) (v := .int 3) (C := RX6) (T := TX6) (N := 12) hx hb ht inX6 hown hK hP 0 rfl rfl 7 (by decide) (ht (.fieldLink RX6 44 "CloneVolumes$Reader" "kind" "I") fl_X6_44) (fun _ h9 => h9) rfl dX6_advance_274 ?_
              refine lv_iconst (v := 2) hx hb dX6_advance_277 (by decide) ?_
              refine lv_icmp_ne (tgt := 300) hx hb dX6_advance_278 (by decide) (fun _ => ?_) (fun c_216 => (z_abs c_216 (by decide)).elim)
              have hP9 := hP.sub (ws' := [(h0, .inr (6, [.int 0, .int pl, .ref h1, .ref h2, .ref h3, .int mo, .int (nI op), .int 3, .int (nI (sp + i_3)), .int (nI ((sp + i_3) + 1)), .int (-1), .int (f (sp + i_3))])), (h1, .inr (9, [.ref h4, .int (nI n)])), (h4, .inl (D.1 13, 1600, .inl f)), (h2, .inl (D.1 14, 179, .inl fw))]) [0, 1, 2, 3] rfl
              have hD9 := hD.sub (ws' := [(h0, .inr (6, [.int 0, .int pl, .ref h1, .ref h2, .ref h3, .int mo, .int (nI op), .int 3, .int (nI (sp + i_3)), .int (nI ((sp + i_3) + 1)), .int (-1), .int (f (sp + i_3))])), (h1, .inr (9, [.ref h4, .int (nI n)])), (h4, .inl (D.1 13, 1600, .inl f)), (h2, .inl (D.1 14, 179, .inl fw))]) [0, 1, 2, 3] (by decide) rfl
              refine W.widen (k := 0) (n := 0) (Nat.le_of_ble_eq_true rfl) (Nat.le_of_ble_eq_true rfl) ?_
              exact W.vret hx hb hr (fun t ht hW => ⟨⟨(3, (sp + i_3), ((sp + i_3) + 1), (-1), (f (sp + i_3))), rfl, (by first | omega | (dsimp only; omega)), by rw [ht]; exact hP9, va_K.moved hW.alike hK, hD9⟩, hS.F ht⟩) hS.2.2 dX6_advance_300
            · skip
              refine lv_istore_n (lv' := [(1, .int (-1)), (0, .ref h0)]) hx hb dX6_advance_264 rfl hl (by decide) rfl (fun ls hl => ?_)
              refine lv_aload_n hx hb dX6_advance_265 rfl (lv_at hl 1 rfl) ?_
              refine va_get (D := D) (ci := 6) (v := .int 3) (C := RX6) (T := TX6) (N := 12) hx hb ht inX6 hown hK hP 0 rfl rfl 7 (by decide) (ht (.fieldLink RX6 44 "CloneVolumes$Reader" "kind" "I") fl_X6_44) (fun _ h9 => h9) rfl dX6_advance_266 ?_
              refine lv_iconst (v := 1) hx hb dX6_advance_269 (by decide) ?_
              refine lv_icmp_eq (tgt := 281) hx hb dX6_advance_270 (by decide) (fun c_218 => (z_abs c_218 (by decide)).elim) (fun _ => ?_)
              refine lv_aload_n hx hb dX6_advance_273 rfl (lv_at hl 1 rfl) ?_
              refine va_get (D := D) (ci := 6) (v := .int 3) (C := RX6) (T := TX6) (N := 12) hx hb ht inX6 hown hK hP 0 rfl rfl 7 (by decide) (ht (.fieldLink RX6 44 "CloneVolumes$Reader" "kind" "I") fl_X6_44) (fun _ h9 => h9) rfl dX6_advance_274 ?_
              refine lv_iconst (v := 2) hx hb dX6_advance_277 (by decide) ?_
              refine lv_icmp_ne (tgt := 300) hx hb dX6_advance_278 (by decide) (fun _ => ?_) (fun c_220 => (z_abs c_220 (by decide)).elim)
              have hP9 := hP.sub (ws' := [(h0, .inr (6, [.int 0, .int pl, .ref h1, .ref h2, .ref h3, .int mo, .int (nI op), .int 3, .int (nI (sp + i_3)), .int (nI ((sp + i_3) + 1)), .int (-1), .int (f (sp + i_3))])), (h1, .inr (9, [.ref h4, .int (nI n)])), (h4, .inl (D.1 13, 1600, .inl f)), (h2, .inl (D.1 14, 179, .inl fw))]) [0, 1, 2, 3] rfl
              have hD9 := hD.sub (ws' := [(h0, .inr (6, [.int 0, .int pl, .ref h1, .ref h2, .ref h3, .int mo, .int (nI op), .int 3, .int (nI (sp + i_3)), .int (nI ((sp + i_3) + 1)), .int (-1), .int (f (sp + i_3))])), (h1, .inr (9, [.ref h4, .int (nI n)])), (h4, .inl (D.1 13, 1600, .inl f)), (h2, .inl (D.1 14, 179, .inl fw))]) [0, 1, 2, 3] (by decide) rfl
              refine W.widen (k := 0) (n := 0) (Nat.le_of_ble_eq_true rfl) (Nat.le_of_ble_eq_true rfl) ?_
              exact W.vret hx hb hr (fun t ht hW => ⟨⟨(3, (sp + i_3), ((sp + i_3) + 1), (-1), (f (sp + i_3))), rfl, (by first | omega | (dsimp only; omega)), by rw [ht]; exact hP9, va_K.moved hW.alike hK, hD9⟩, hS.F ht⟩) hS.2.2 dX6_advance_300
      · have g_11 : (f (sp + i_3)).toInt = (-1) := z_eq rfl (by decide) c_10
        refine lv_aload_n hx hb dX6_advance_97 rfl (lv_at hl 0 rfl) ?_
        refine lv_iconst (v := 0) hx hb dX6_advance_98 (by decide) ?_
        refine va_put (D := D) (ci := 6) (v := .int 0) (ty := .int) (C := RX6) (T := TX6) (N := 12) hx hb ht inX6 tyX6 tyX6_ok nmX6 hown hK hP hD hS 0 rfl rfl 7 (by decide) (ht (.fieldLink RX6 44 "CloneVolumes$Reader" "kind" "I") fl_X6_44) (fun _ h9 => h9) rfl (by decide +kernel) rfl rfl (Nat.le_of_ble_eq_true rfl) dX6_advance_99 (fun H locs hP hD hS => ?_)
        have hP : va_P D vwCl [(h0, .inr (6, [.int 0, .int pl, .ref h1, .ref h2, .ref h3, .int mo, .int (nI op), .int 0, .int (nI (sp + i_3)), .int (nI (sp + i_3)), .int (-1), .int (f (sp + i_3))])), (h1, .inr (9, [.ref h4, .int (nI n)])), (h4, .inl (D.1 13, 1600, .inl f)), (h2, .inl (D.1 14, 179, .inl fw))] H := hP
        have hD : va_D A [(h0, .inr (6, [.int 0, .int pl, .ref h1, .ref h2, .ref h3, .int mo, .int (nI op), .int 0, .int (nI (sp + i_3)), .int (nI (sp + i_3)), .int (-1), .int (f (sp + i_3))])), (h1, .inr (9, [.ref h4, .int (nI n)])), (h4, .inl (D.1 13, 1600, .inl f)), (h2, .inl (D.1 14, 179, .inl fw))] := hD
        refine lv_goto (tgt := 251) hx hb dX6_advance_102 (by decide) ?_
        refine lv_aload_n hx hb dX6_advance_251 rfl (lv_at hl 0 rfl) ?_
        refine va_get (D := D) (ci := 6) (v := .ref h1) (C := RX6) (T := TX6) (N := 12) hx hb ht inX6 hown hK hP 0 rfl rfl 2 (by decide) (ht (.fieldLink RX6 27 "CloneVolumes$Reader" "tape" "LCloneVolumes$Tape;") fl_X6_27) (fun _ h9 => h9) rfl dX6_advance_252 ?_
        refine lv_aload_n hx hb dX6_advance_255 rfl (lv_at hl 0 rfl) ?_
        refine va_get (D := D) (ci := 6) (v := .int (nI (sp + i_3))) (C := RX6) (T := TX6) (N := 12) hx hb ht inX6 hown hK hP 0 rfl rfl 8 (by decide) (ht (.fieldLink RX6 51 "CloneVolumes$Reader" "start" "I") fl_X6_51) (fun _ h9 => h9) rfl dX6_advance_256 ?_
        refine lv_iconst (v := 1) hx hb dX6_advance_259 (by decide) ?_
        refine lv_isub hx hb dX6_advance_260 ?_
        refine lv_topi (fun x_222 ex_222 => ?_)
        refine zcV (As := [.int x_222]) (rest := []) (C := RX9) (n := 1) ⟨hx, hb, hml, hown, ht⟩ (k_X9_at l D h1 h4 n f x_222 (by first | decide | omega)) (zgV ml_X6_104 im_X9_at se_X9_at in_X9 co_X9_at) rfl rfl (by decide +kernel) ⟨Nat.le_of_ble_eq_true rfl, Nat.le_of_ble_eq_true rfl⟩ hK hP hS [1, 2] rfl 0 rfl rfl rfl rfl hl.1 rfl (Nat.le_of_ble_eq_true rfl) dX6_advance_261 ⟨Nat.le_of_ble_eq_true rfl, Nat.le_of_ble_eq_true rfl⟩ (fun r_223 H locs hw hP hS => ?_)
        rcases hw with ⟨rfl, g_224⟩ | ⟨rfl, g_225⟩
        · skip
          refine lv_istore_n (lv' := [(1, .int (f x_222.toNatClampNeg)), (0, .ref h0)]) hx hb dX6_advance_264 rfl hl (by decide) rfl (fun ls hl => ?_)
          refine lv_aload_n hx hb dX6_advance_265 rfl (lv_at hl 1 rfl) ?_
          refine va_get (D := D) (ci := 6) (v := .int 0) (C := RX6) (T := TX6) (N := 12) hx hb ht inX6 hown hK hP 0 rfl rfl 7 (by decide) (ht (.fieldLink RX6 44 "CloneVolumes$Reader" "kind" "I") fl_X6_44) (fun _ h9 => h9) rfl dX6_advance_266 ?_
          refine lv_iconst (v := 1) hx hb dX6_advance_269 (by decide) ?_
          refine lv_icmp_eq (tgt := 281) hx hb dX6_advance_270 (by decide) (fun c_226 => (z_abs c_226 (by decide)).elim) (fun _ => ?_)
          refine lv_aload_n hx hb dX6_advance_273 rfl (lv_at hl 1 rfl) ?_
          refine va_get (D := D) (ci := 6) (v := .int 0) (C := RX6) (T := TX6) (N := 12) hx hb ht inX6 hown hK hP 0 rfl rfl 7 (by decide) (ht (.fieldLink RX6 44 "CloneVolumes$Reader" "kind" "I") fl_X6_44) (fun _ h9 => h9) rfl dX6_advance_274 ?_
          refine lv_iconst (v := 2) hx hb dX6_advance_277 (by decide) ?_
          refine lv_icmp_ne (tgt := 300) hx hb dX6_advance_278 (by decide) (fun _ => ?_) (fun c_228 => (z_abs c_228 (by decide)).elim)
          have hP9 := hP.sub (ws' := [(h0, .inr (6, [.int 0, .int pl, .ref h1, .ref h2, .ref h3, .int mo, .int (nI op), .int 0, .int (nI (sp + i_3)), .int (nI (sp + i_3)), .int (-1), .int (f (sp + i_3))])), (h1, .inr (9, [.ref h4, .int (nI n)])), (h4, .inl (D.1 13, 1600, .inl f)), (h2, .inl (D.1 14, 179, .inl fw))]) [0, 1, 2, 3] rfl
          have hD9 := hD.sub (ws' := [(h0, .inr (6, [.int 0, .int pl, .ref h1, .ref h2, .ref h3, .int mo, .int (nI op), .int 0, .int (nI (sp + i_3)), .int (nI (sp + i_3)), .int (-1), .int (f (sp + i_3))])), (h1, .inr (9, [.ref h4, .int (nI n)])), (h4, .inl (D.1 13, 1600, .inl f)), (h2, .inl (D.1 14, 179, .inl fw))]) [0, 1, 2, 3] (by decide) rfl
          refine W.widen (k := 0) (n := 0) (Nat.le_of_ble_eq_true rfl) (Nat.le_of_ble_eq_true rfl) ?_
          exact W.vret hx hb hr (fun t ht hW => ⟨⟨(0, (sp + i_3), (sp + i_3), (-1), (f (sp + i_3))), rfl, (by first | omega | (dsimp only; omega)), by rw [ht]; exact hP9, va_K.moved hW.alike hK, hD9⟩, hS.F ht⟩) hS.2.2 dX6_advance_300
        · skip
          refine lv_istore_n (lv' := [(1, .int (-1)), (0, .ref h0)]) hx hb dX6_advance_264 rfl hl (by decide) rfl (fun ls hl => ?_)
          refine lv_aload_n hx hb dX6_advance_265 rfl (lv_at hl 1 rfl) ?_
          refine va_get (D := D) (ci := 6) (v := .int 0) (C := RX6) (T := TX6) (N := 12) hx hb ht inX6 hown hK hP 0 rfl rfl 7 (by decide) (ht (.fieldLink RX6 44 "CloneVolumes$Reader" "kind" "I") fl_X6_44) (fun _ h9 => h9) rfl dX6_advance_266 ?_
          refine lv_iconst (v := 1) hx hb dX6_advance_269 (by decide) ?_
          refine lv_icmp_eq (tgt := 281) hx hb dX6_advance_270 (by decide) (fun c_230 => (z_abs c_230 (by decide)).elim) (fun _ => ?_)
          refine lv_aload_n hx hb dX6_advance_273 rfl (lv_at hl 1 rfl) ?_
          refine va_get (D := D) (ci := 6) (v := .int 0) (C := RX6) (T := TX6) (N := 12) hx hb ht inX6 hown hK hP 0 rfl rfl 7 (by decide) (ht (.fieldLink RX6 44 "CloneVolumes$Reader" "kind" "I") fl_X6_44) (fun _ h9 => h9) rfl dX6_advance_274 ?_
          refine lv_iconst (v := 2) hx hb dX6_advance_277 (by decide) ?_
          refine lv_icmp_ne (tgt := 300) hx hb dX6_advance_278 (by decide) (fun _ => ?_) (fun c_232 => (z_abs c_232 (by decide)).elim)
          have hP9 := hP.sub (ws' := [(h0, .inr (6, [.int 0, .int pl, .ref h1, .ref h2, .ref h3, .int mo, .int (nI op), .int 0, .int (nI (sp + i_3)), .int (nI (sp + i_3)), .int (-1), .int (f (sp + i_3))])), (h1, .inr (9, [.ref h4, .int (nI n)])), (h4, .inl (D.1 13, 1600, .inl f)), (h2, .inl (D.1 14, 179, .inl fw))]) [0, 1, 2, 3] rfl
          have hD9 := hD.sub (ws' := [(h0, .inr (6, [.int 0, .int pl, .ref h1, .ref h2, .ref h3, .int mo, .int (nI op), .int 0, .int (nI (sp + i_3)), .int (nI (sp + i_3)), .int (-1), .int (f (sp + i_3))])), (h1, .inr (9, [.ref h4, .int (nI n)])), (h4, .inl (D.1 13, 1600, .inl f)), (h2, .inl (D.1 14, 179, .inl fw))]) [0, 1, 2, 3] (by decide) rfl
          refine W.widen (k := 0) (n := 0) (Nat.le_of_ble_eq_true rfl) (Nat.le_of_ble_eq_true rfl) ?_
          exact W.vret hx hb hr (fun t ht hW => ⟨⟨(0, (sp + i_3), (sp + i_3), (-1), (f (sp + i_3))), rfl, (by first | omega | (dsimp only; omega)), by rw [ht]; exact hP9, va_K.moved hW.alike hK, hD9⟩, hS.F ht⟩) hS.2.2 dX6_advance_300
    · skip
      refine va_put (D := D) (ci := 6) (v := .int (-1)) (ty := .int) (C := RX6) (T := TX6) (N := 12) hx hb ht inX6 tyX6 tyX6_ok nmX6 hown hK hP hD hS 0 rfl rfl 11 (by decide) (ht (.fieldLink RX6 108 "CloneVolumes$Reader" "sign" "I") fl_X6_108) (fun _ h9 => h9) rfl (by decide +kernel) rfl rfl (Nat.le_of_ble_eq_true rfl) dX6_advance_86 (fun H locs hP hD hS => ?_)
      have hP : va_P D vwCl [(h0, .inr (6, [.int 0, .int pl, .ref h1, .ref h2, .ref h3, .int mo, .int (nI op), .int ki, .int (nI (sp + i_3)), .int (nI (sp + i_3)), .int (-1), .int (-1)])), (h1, .inr (9, [.ref h4, .int (nI n)])), (h4, .inl (D.1 13, 1600, .inl f)), (h2, .inl (D.1 14, 179, .inl fw))] H := hP
      have hD : va_D A [(h0, .inr (6, [.int 0, .int pl, .ref h1, .ref h2, .ref h3, .int mo, .int (nI op), .int ki, .int (nI (sp + i_3)), .int (nI (sp + i_3)), .int (-1), .int (-1)])), (h1, .inr (9, [.ref h4, .int (nI n)])), (h4, .inl (D.1 13, 1600, .inl f)), (h2, .inl (D.1 14, 179, .inl fw))] := hD
      refine lv_aload_n hx hb dX6_advance_89 rfl (lv_at hl 0 rfl) ?_
      refine va_get (D := D) (ci := 6) (v := .int (-1)) (C := RX6) (T := TX6) (N := 12) hx hb ht inX6 hown hK hP 0 rfl rfl 11 (by decide) (ht (.fieldLink RX6 108 "CloneVolumes$Reader" "sign" "I") fl_X6_108) (fun _ h9 => h9) rfl dX6_advance_90 ?_
      refine lv_iconst (v := (-1)) hx hb dX6_advance_93 (by decide) ?_
      refine lv_icmp_ne (tgt := 105) hx hb dX6_advance_94 (by decide) (fun c_234 => (z_abs c_234 (by decide)).elim) (fun _ => ?_)
      refine lv_aload_n hx hb dX6_advance_97 rfl (lv_at hl 0 rfl) ?_
      refine lv_iconst (v := 0) hx hb dX6_advance_98 (by decide) ?_
      refine va_put (D := D) (ci := 6) (v := .int 0) (ty := .int) (C := RX6) (T := TX6) (N := 12) hx hb ht inX6 tyX6 tyX6_ok nmX6 hown hK hP hD hS 0 rfl rfl 7 (by decide) (ht (.fieldLink RX6 44 "CloneVolumes$Reader" "kind" "I") fl_X6_44) (fun _ h9 => h9) rfl (by decide +kernel) rfl rfl (Nat.le_of_ble_eq_true rfl) dX6_advance_99 (fun H locs hP hD hS => ?_)
      have hP : va_P D vwCl [(h0, .inr (6, [.int 0, .int pl, .ref h1, .ref h2, .ref h3, .int mo, .int (nI op), .int 0, .int (nI (sp + i_3)), .int (nI (sp + i_3)), .int (-1), .int (-1)])), (h1, .inr (9, [.ref h4, .int (nI n)])), (h4, .inl (D.1 13, 1600, .inl f)), (h2, .inl (D.1 14, 179, .inl fw))] H := hP
      have hD : va_D A [(h0, .inr (6, [.int 0, .int pl, .ref h1, .ref h2, .ref h3, .int mo, .int (nI op), .int 0, .int (nI (sp + i_3)), .int (nI (sp + i_3)), .int (-1), .int (-1)])), (h1, .inr (9, [.ref h4, .int (nI n)])), (h4, .inl (D.1 13, 1600, .inl f)), (h2, .inl (D.1 14, 179, .inl fw))] := hD
      refine lv_goto (tgt := 251) hx hb dX6_advance_102 (by decide) ?_
      refine lv_aload_n hx hb dX6_advance_251 rfl (lv_at hl 0 rfl) ?_
      refine va_get (D := D) (ci := 6) (v := .ref h1) (C := RX6) (T := TX6) (N := 12) hx hb ht inX6 hown hK hP 0 rfl rfl 2 (by decide) (ht (.fieldLink RX6 27 "CloneVolumes$Reader" "tape" "LCloneVolumes$Tape;") fl_X6_27) (fun _ h9 => h9) rfl dX6_advance_252 ?_
      refine lv_aload_n hx hb dX6_advance_255 rfl (lv_at hl 0 rfl) ?_
      refine va_get (D := D) (ci := 6) (v := .int (nI (sp + i_3))) (C := RX6) (T := TX6) (N := 12) hx hb ht inX6 hown hK hP 0 rfl rfl 8 (by decide) (ht (.fieldLink RX6 51 "CloneVolumes$Reader" "start" "I") fl_X6_51) (fun _ h9 => h9) rfl dX6_advance_256 ?_
      refine lv_iconst (v := 1) hx hb dX6_advance_259 (by decide) ?_
      refine lv_isub hx hb dX6_advance_260 ?_
      refine lv_topi (fun x_236 ex_236 => ?_)
      refine zcV (As := [.int x_236]) (rest := []) (C := RX9) (n := 1) ⟨hx, hb, hml, hown, ht⟩ (k_X9_at l D h1 h4 n f x_236 (by first | decide | omega)) (zgV ml_X6_104 im_X9_at se_X9_at in_X9 co_X9_at) rfl rfl (by decide +kernel) ⟨Nat.le_of_ble_eq_true rfl, Nat.le_of_ble_eq_true rfl⟩ hK hP hS [1, 2] rfl 0 rfl rfl rfl rfl hl.1 rfl (Nat.le_of_ble_eq_true rfl) dX6_advance_261 ⟨Nat.le_of_ble_eq_true rfl, Nat.le_of_ble_eq_true rfl⟩ (fun r_237 H locs hw hP hS => ?_)
      rcases hw with ⟨rfl, g_238⟩ | ⟨rfl, g_239⟩
      · skip
        refine lv_istore_n (lv' := [(1, .int (f x_236.toNatClampNeg)), (0, .ref h0)]) hx hb dX6_advance_264 rfl hl (by decide) rfl (fun ls hl => ?_)
        refine lv_aload_n hx hb dX6_advance_265 rfl (lv_at hl 1 rfl) ?_
        refine va_get (D := D) (ci := 6) (v := .int 0) (C := RX6) (T := TX6) (N := 12) hx hb ht inX6 hown hK hP 0 rfl rfl 7 (by decide) (ht (.fieldLink RX6 44 "CloneVolumes$Reader" "kind" "I") fl_X6_44) (fun _ h9 => h9) rfl dX6_advance_266 ?_
        refine lv_iconst (v := 1) hx hb dX6_advance_269 (by decide) ?_
        refine lv_icmp_eq (tgt := 281) hx hb dX6_advance_270 (by decide) (fun c_240 => (z_abs c_240 (by decide)).elim) (fun _ => ?_)
        refine lv_aload_n hx hb dX6_advance_273 rfl (lv_at hl 1 rfl) ?_
        refine va_get (D := D) (ci := 6) (v := .int 0) (C := RX6) (T := TX6) (N := 12) hx hb ht inX6 hown hK hP 0 rfl rfl 7 (by decide) (ht (.fieldLink RX6 44 "CloneVolumes$Reader" "kind" "I") fl_X6_44) (fun _ h9 => h9) rfl dX6_advance_274 ?_
        refine lv_iconst (v := 2) hx hb dX6_advance_277 (by decide) ?_
        refine lv_icmp_ne (tgt := 300) hx hb dX6_advance_278 (by decide) (fun _ => ?_) (fun c_242 => (z_abs c_242 (by decide)).elim)
        have hP9 := hP.sub (ws' := [(h0, .inr (6, [.int 0, .int pl, .ref h1, .ref h2, .ref h3, .int mo, .int (nI op), .int 0, .int (nI (sp + i_3)), .int (nI (sp + i_3)), .int (-1), .int (-1)])), (h1, .inr (9, [.ref h4, .int (nI n)])), (h4, .inl (D.1 13, 1600, .inl f)), (h2, .inl (D.1 14, 179, .inl fw))]) [0, 1, 2, 3] rfl
        have hD9 := hD.sub (ws' := [(h0, .inr (6, [.int 0, .int pl, .ref h1, .ref h2, .ref h3, .int mo, .int (nI op), .int 0, .int (nI (sp + i_3)), .int (nI (sp + i_3)), .int (-1), .int (-1)])), (h1, .inr (9, [.ref h4, .int (nI n)])), (h4, .inl (D.1 13, 1600, .inl f)), (h2, .inl (D.1 14, 179, .inl fw))]) [0, 1, 2, 3] (by decide) rfl
        refine W.widen (k := 0) (n := 0) (Nat.le_of_ble_eq_true rfl) (Nat.le_of_ble_eq_true rfl) ?_
        exact W.vret hx hb hr (fun t ht hW => ⟨⟨(0, (sp + i_3), (sp + i_3), (-1), (-1)), rfl, (by first | omega | (dsimp only; omega)), by rw [ht]; exact hP9, va_K.moved hW.alike hK, hD9⟩, hS.F ht⟩) hS.2.2 dX6_advance_300
      · skip
        refine lv_istore_n (lv' := [(1, .int (-1)), (0, .ref h0)]) hx hb dX6_advance_264 rfl hl (by decide) rfl (fun ls hl => ?_)
        refine lv_aload_n hx hb dX6_advance_265 rfl (lv_at hl 1 rfl) ?_
        refine va_get (D := D) (ci := 6) (v := .int 0) (C := RX6) (T := TX6) (N := 12) hx hb ht inX6 hown hK hP 0 rfl rfl 7 (by decide) (ht (.fieldLink RX6 44 "CloneVolumes$Reader" "kind" "I") fl_X6_44) (fun _ h9 => h9) rfl dX6_advance_266 ?_
        refine lv_iconst (v := 1) hx hb dX6_advance_269 (by decide) ?_
        refine lv_icmp_eq (tgt := 281) hx hb dX6_advance_270 (by decide) (fun c_244 => (z_abs c_244 (by decide)).elim) (fun _ => ?_)
        refine lv_aload_n hx hb dX6_advance_273 rfl (lv_at hl 1 rfl) ?_
        refine va_get (D := D) (ci := 6) (v := .int 0) (C := RX6) (T := TX6) (N := 12) hx hb ht inX6 hown hK hP 0 rfl rfl 7 (by decide) (ht (.fieldLink RX6 44 "CloneVolumes$Reader" "kind" "I") fl_X6_44) (fun _ h9 => h9) rfl dX6_advance_274 ?_
        refine lv_iconst (v := 2) hx hb dX6_advance_277 (by decide) ?_
        refine lv_icmp_ne (tgt := 300) hx hb dX6_advance_278 (by decide) (fun _ => ?_) (fun c_246 => (z_abs c_246 (by decide)).elim)
        have hP9 := hP.sub (ws' := [(h0, .inr (6, [.int 0, .int pl, .ref h1, .ref h2, .ref h3, .int mo, .int (nI op), .int 0, .int (nI (sp + i_3)), .int (nI (sp + i_3)), .int (-1), .int (-1)])), (h1, .inr (9, [.ref h4, .int (nI n)])), (h4, .inl (D.1 13, 1600, .inl f)), (h2, .inl (D.1 14, 179, .inl fw))]) [0, 1, 2, 3] rfl
        have hD9 := hD.sub (ws' := [(h0, .inr (6, [.int 0, .int pl, .ref h1, .ref h2, .ref h3, .int mo, .int (nI op), .int 0, .int (nI (sp + i_3)), .int (nI (sp + i_3)), .int (-1), .int (-1)])), (h1, .inr (9, [.ref h4, .int (nI n)])), (h4, .inl (D.1 13, 1600, .inl f)), (h2, .inl (D.1 14, 179, .inl fw))]) [0, 1, 2, 3] (by decide) rfl
        refine W.widen (k := 0) (n := 0) (Nat.le_of_ble_eq_true rfl) (Nat.le_of_ble_eq_true rfl) ?_
        exact W.vret hx hb hr (fun t ht hW => ⟨⟨(0, (sp + i_3), (sp + i_3), (-1), (-1)), rfl, (by first | omega | (dsimp only; omega)), by rw [ht]; exact hP9, va_K.moved hW.alike hK, hD9⟩, hS.F ht⟩) hS.2.2 dX6_advance_300
  · have g_5 : ((sp + i_3 : Nat) : Int) < ((n : Nat) : Int) := z_nle (nI_toInt (by omega)) (nI_toInt (by omega)) c_4
    refine lv_aload_n hx hb dX6_advance_30 rfl (lv_at hl 0 rfl) ?_
    refine va_get (D := D) (ci := 6) (v := .ref h1) (C := RX6) (T := TX6) (N := 12) hx hb ht inX6 hown hK hP 0 rfl rfl 2 (by decide) (ht (.fieldLink RX6 27 "CloneVolumes$Reader" "tape" "LCloneVolumes$Tape;") fl_X6_27) (fun _ h9 => h9) rfl dX6_advance_31 ?_
    refine va_get (D := D) (ci := 9) (v := .ref h4) (C := RX9) (T := TX9) (N := 2) hx hb ht inX9 hown hK hP 1 rfl rfl 0 (by decide) (ht (.fieldLink RX6 96 "CloneVolumes$Tape" "bytes" "[I") fl_X6_96) (fun _ h9 => h9) rfl dX6_advance_34 ?_
    refine lv_aload_n hx hb dX6_advance_37 rfl (lv_at hl 0 rfl) ?_
    refine va_get (D := D) (ci := 6) (v := .int (nI (sp + i_3))) (C := RX6) (T := TX6) (N := 12) hx hb ht inX6 hown hK hP 0 rfl rfl 8 (by decide) (ht (.fieldLink RX6 51 "CloneVolumes$Reader" "start" "I") fl_X6_51) (fun _ h9 => h9) rfl dX6_advance_38 ?_
    refine va_iald hx hb hK hP 2 0 rfl rfl (vp_in_nI (by omega) (by omega)) dX6_advance_41 ?_
    refine z_topi (y := f (sp + i_3)) (by rw [nI_clamp (by omega)]) ?_
    refine zcS (As := [.int (f (sp + i_3))]) (rest := []) (n := 1) ⟨hx, hb, hml, hown, ht⟩ (k_X6_isBlank l D (f (sp + i_3))) (zgT ml_X6_100 st_X6_isBlank in_X6 co_X6_isBlank) rfl rfl (by decide +kernel) ⟨Nat.le_of_ble_eq_true rfl, Nat.le_of_ble_eq_true rfl⟩ hK hP hS [] rfl rfl hl.1 rfl (Nat.le_of_ble_eq_true rfl) dX6_advance_42 ⟨Nat.le_of_ble_eq_true rfl, Nat.le_of_ble_eq_true rfl⟩ (fun r_248 H locs hw hP hS => ?_)
    rcases hw with ⟨rfl, g_249⟩ | ⟨rfl, g_250⟩
    · skip
      refine lv_if_eq (tgt := 61) hx hb dX6_advance_45 (by decide) (fun c_251 => (z_abs c_251 (by decide)).elim) (fun _ => ?_)
      refine lv_aload_n hx hb dX6_advance_48 rfl (lv_at hl 0 rfl) ?_
      refine lv_dup hx hb dX6_advance_49 rfl ?_
      refine va_get (D := D) (ci := 6) (v := .int (nI (sp + i_3))) (C := RX6) (T := TX6) (N := 12) hx hb ht inX6 hown hK hP 0 rfl rfl 8 (by decide) (ht (.fieldLink RX6 51 "CloneVolumes$Reader" "start" "I") fl_X6_51) (fun _ h9 => h9) rfl dX6_advance_50 ?_
      refine lv_iconst (v := 1) hx hb dX6_advance_53 (by decide) ?_
      refine lv_iadd hx hb dX6_advance_54 ?_
      refine z_topi (y := nI ((sp + i_3) + 1)) (z_nadd (sp + i_3) 1) ?_
      refine va_put (D := D) (ci := 6) (v := .int (nI ((sp + i_3) + 1))) (ty := .int) (C := RX6) (T := TX6) (N := 12) hx hb ht inX6 tyX6 tyX6_ok nmX6 hown hK hP hD hS 0 rfl rfl 8 (by decide) (ht (.fieldLink RX6 51 "CloneVolumes$Reader" "start" "I") fl_X6_51) (fun _ h9 => h9) rfl (by decide +kernel) rfl rfl (Nat.le_of_ble_eq_true rfl) dX6_advance_55 (fun H locs hP hD hS => ?_)
      have hP : va_P D vwCl [(h0, .inr (6, [.int 0, .int pl, .ref h1, .ref h2, .ref h3, .int mo, .int (nI op), .int ki, .int (nI ((sp + i_3) + 1)), .int (nI sp), .int wo, .int si])), (h1, .inr (9, [.ref h4, .int (nI n)])), (h4, .inl (D.1 13, 1600, .inl f)), (h2, .inl (D.1 14, 179, .inl fw))] H := hP
      have hD : va_D A [(h0, .inr (6, [.int 0, .int pl, .ref h1, .ref h2, .ref h3, .int mo, .int (nI op), .int ki, .int (nI ((sp + i_3) + 1)), .int (nI sp), .int wo, .int si])), (h1, .inr (9, [.ref h4, .int (nI n)])), (h4, .inl (D.1 13, 1600, .inl f)), (h2, .inl (D.1 14, 179, .inl fw))] := hD
      refine lv_goto (tgt := 16) hx hb dX6_advance_58 (by decide) ?_
      rw [show (sp + i_3) + 1 = sp + (i_3 + 1) by omega] at hP hD
      exact ih_16 () _ _ _ (by omega) ⟨(by first | omega | (dsimp only; omega)), hP.sub [0, 1, 2, 3] rfl, hD.sub [0, 1, 2, 3] (by decide) rfl, hS, lv_sub hl [0] rfl⟩
    · skip
      refine lv_if_eq (tgt := 61) hx hb dX6_advance_45 (by decide) (fun _ => ?_) (fun c_253 => (z_abs c_253 (by decide)).elim)
      refine lv_aload_n hx hb dX6_advance_61 rfl (lv_at hl 0 rfl) ?_
      refine lv_aload_n hx hb dX6_advance_62 rfl (lv_at hl 0 rfl) ?_
      refine va_get (D := D) (ci := 6) (v := .int (nI (sp + i_3))) (C := RX6) (T := TX6) (N := 12) hx hb ht inX6 hown hK hP 0 rfl rfl 8 (by decide) (ht (.fieldLink RX6 51 "CloneVolumes$Reader" "start" "I") fl_X6_51) (fun _ h9 => h9) rfl dX6_advance_63 ?_
      refine va_put (D := D) (ci := 6) (v := .int (nI (sp + i_3))) (ty := .int) (C := RX6) (T := TX6) (N := 12) hx hb ht inX6 tyX6 tyX6_ok nmX6 hown hK hP hD hS 0 rfl rfl 9 (by decide) (ht (.fieldLink RX6 88 "CloneVolumes$Reader" "stop" "I") fl_X6_88) (fun _ h9 => h9) rfl (by decide +kernel) rfl rfl (Nat.le_of_ble_eq_true rfl) dX6_advance_66 (fun H locs hP hD hS => ?_)
      have hP : va_P D vwCl [(h0, .inr (6, [.int 0, .int pl, .ref h1, .ref h2, .ref h3, .int mo, .int (nI op), .int ki, .int (nI (sp + i_3)), .int (nI (sp + i_3)), .int wo, .int si])), (h1, .inr (9, [.ref h4, .int (nI n)])), (h4, .inl (D.1 13, 1600, .inl f)), (h2, .inl (D.1 14, 179, .inl fw))] H := hP
      have hD : va_D A [(h0, .inr (6, [.int 0, .int pl, .ref h1, .ref h2, .ref h3, .int mo, .int (nI op), .int ki, .int (nI (sp + i_3)), .int (nI (sp + i_3)), .int wo, .int si])), (h1, .inr (9, [.ref h4, .int (nI n)])), (h4, .inl (D.1 13, 1600, .inl f)), (h2, .inl (D.1 14, 179, .inl fw))] := hD
      refine lv_aload_n hx hb dX6_advance_69 rfl (lv_at hl 0 rfl) ?_
      refine lv_iconst (v := (-1)) hx hb dX6_advance_70 (by decide) ?_
      refine va_put (D := D) (ci := 6) (v := .int (-1)) (ty := .int) (C := RX6) (T := TX6) (N := 12) hx hb ht inX6 tyX6 tyX6_ok nmX6 hown hK hP hD hS 0 rfl rfl 10 (by decide) (ht (.fieldLink RX6 72 "CloneVolumes$Reader" "word" "I") fl_X6_72) (fun _ h9 => h9) rfl (by decide +kernel) rfl rfl (Nat.le_of_ble_eq_true rfl) dX6_advance_71 (fun H locs hP hD hS => ?_)
      have hP : va_P D vwCl [(h0, .inr (6, [.int 0, .int pl, .ref h1, .ref h2, .ref h3, .int mo, .int (nI op), .int ki, .int (nI (sp + i_3)), .int (nI (sp + i_3)), .int (-1), .int si])), (h1, .inr (9, [.ref h4, .int (nI n)])), (h4, .inl (D.1 13, 1600, .inl f)), (h2, .inl (D.1 14, 179, .inl fw))] H := hP
      have hD : va_D A [(h0, .inr (6, [.int 0, .int pl, .ref h1, .ref h2, .ref h3, .int mo, .int (nI op), .int ki, .int (nI (sp + i_3)), .int (nI (sp + i_3)), .int (-1), .int si])), (h1, .inr (9, [.ref h4, .int (nI n)])), (h4, .inl (D.1 13, 1600, .inl f)), (h2, .inl (D.1 14, 179, .inl fw))] := hD
      refine lv_aload_n hx hb dX6_advance_74 rfl (lv_at hl 0 rfl) ?_
      refine lv_aload_n hx hb dX6_advance_75 rfl (lv_at hl 0 rfl) ?_
      refine va_get (D := D) (ci := 6) (v := .ref h1) (C := RX6) (T := TX6) (N := 12) hx hb ht inX6 hown hK hP 0 rfl rfl 2 (by decide) (ht (.fieldLink RX6 27 "CloneVolumes$Reader" "tape" "LCloneVolumes$Tape;") fl_X6_27) (fun _ h9 => h9) rfl dX6_advance_76 ?_
      refine lv_aload_n hx hb dX6_advance_79 rfl (lv_at hl 0 rfl) ?_
      refine va_get (D := D) (ci := 6) (v := .int (nI (sp + i_3))) (C := RX6) (T := TX6) (N := 12) hx hb ht inX6 hown hK hP 0 rfl rfl 8 (by decide) (ht (.fieldLink RX6 51 "CloneVolumes$Reader" "start" "I") fl_X6_51) (fun _ h9 => h9) rfl dX6_advance_80 ?_
      have en_255 : (nI (sp + i_3)).toInt = ((sp + i_3 : Nat) : Int) := nI_toInt (by omega)
      refine zcV (As := [.int (nI (sp + i_3))]) (rest := [.ref h0]) (C := RX9) (n := 1) ⟨hx, hb, hml, hown, ht⟩ (k_X9_at l D h1 h4 n f (nI (sp + i_3)) (by first | decide | omega)) (zgV ml_X6_104 im_X9_at se_X9_at in_X9 co_X9_at) rfl rfl (by decide +kernel) ⟨Nat.le_of_ble_eq_true rfl, Nat.le_of_ble_eq_true rfl⟩ hK hP hS [1, 2] rfl 0 rfl rfl rfl rfl hl.1 rfl (Nat.le_of_ble_eq_true rfl) dX6_advance_83 ⟨Nat.le_of_ble_eq_true rfl, Nat.le_of_ble_eq_true rfl⟩ (fun r_256 H locs hw hP hS => ?_)
      rcases hw with ⟨rfl, g_257⟩ | ⟨rfl, g_258⟩
      · skip
        refine z_topi (y := f (sp + i_3)) (by rw [nI_clamp (by omega)]) ?_
        refine va_put (D := D) (ci := 6) (v := .int (f (sp + i_3))) (ty := .int) (C := RX6) (T := TX6) (N := 12) hx hb ht inX6 tyX6 tyX6_ok nmX6 hown hK hP hD hS 0 rfl rfl 11 (by decide) (ht (.fieldLink RX6 108 "CloneVolumes$Reader" "sign" "I") fl_X6_108) (fun _ h9 => h9) rfl (by decide +kernel) rfl rfl (Nat.le_of_ble_eq_true rfl) dX6_advance_86 (fun H locs hP hD hS => ?_)
        have hP : va_P D vwCl [(h0, .inr (6, [.int 0, .int pl, .ref h1, .ref h2, .ref h3, .int mo, .int (nI op), .int ki, .int (nI (sp + i_3)), .int (nI (sp + i_3)), .int (-1), .int (f (sp + i_3))])), (h1, .inr (9, [.ref h4, .int (nI n)])), (h4, .inl (D.1 13, 1600, .inl f)), (h2, .inl (D.1 14, 179, .inl fw))] H := hP
        have hD : va_D A [(h0, .inr (6, [.int 0, .int pl, .ref h1, .ref h2, .ref h3, .int mo, .int (nI op), .int ki, .int (nI (sp + i_3)), .int (nI (sp + i_3)), .int (-1), .int (f (sp + i_3))])), (h1, .inr (9, [.ref h4, .int (nI n)])), (h4, .inl (D.1 13, 1600, .inl f)), (h2, .inl (D.1 14, 179, .inl fw))] := hD
        refine lv_aload_n hx hb dX6_advance_89 rfl (lv_at hl 0 rfl) ?_
        refine va_get (D := D) (ci := 6) (v := .int (f (sp + i_3))) (C := RX6) (T := TX6) (N := 12) hx hb ht inX6 hown hK hP 0 rfl rfl 11 (by decide) (ht (.fieldLink RX6 108 "CloneVolumes$Reader" "sign" "I") fl_X6_108) (fun _ h9 => h9) rfl dX6_advance_90 ?_
        refine lv_iconst (v := (-1)) hx hb dX6_advance_93 (by decide) ?_
        refine lv_icmp_ne (tgt := 105) hx hb dX6_advance_94 (by decide) (fun c_259 => ?_) (fun c_259 => ?_)
        · have g_260 : ¬ (f (sp + i_3)).toInt = (-1) := z_ne rfl (by decide) c_259
          refine lv_aload_n hx hb dX6_advance_105 rfl (lv_at hl 0 rfl) ?_
          refine va_get (D := D) (ci := 6) (v := .int (f (sp + i_3))) (C := RX6) (T := TX6) (N := 12) hx hb ht inX6 hown hK hP 0 rfl rfl 11 (by decide) (ht (.fieldLink RX6 108 "CloneVolumes$Reader" "sign" "I") fl_X6_108) (fun _ h9 => h9) rfl dX6_advance_106 ?_
          refine zcS (As := [.int (f (sp + i_3))]) (rest := []) (n := 1) ⟨hx, hb, hml, hown, ht⟩ (k_X6_isLetter l D (f (sp + i_3))) (zgT ml_X6_111 st_X6_isLetter in_X6 co_X6_isLetter) rfl rfl (by decide +kernel) ⟨Nat.le_of_ble_eq_true rfl, Nat.le_of_ble_eq_true rfl⟩ hK hP hS [] rfl rfl hl.1 rfl (Nat.le_of_ble_eq_true rfl) dX6_advance_109 ⟨Nat.le_of_ble_eq_true rfl, Nat.le_of_ble_eq_true rfl⟩ (fun r_261 H locs hw hP hS => ?_)
          rcases hw with ⟨rfl, g_262⟩ | ⟨rfl, g_263⟩
          · skip
            refine lv_if_eq (tgt := 176) hx hb dX6_advance_112 (by decide) (fun c_264 => (z_abs c_264 (by decide)).elim) (fun _ => ?_)
            refine lv_aload_n hx hb dX6_advance_115 rfl (lv_at hl 0 rfl) ?_
            refine lv_iconst (v := 1) hx hb dX6_advance_116 (by decide) ?_
            refine va_put (D := D) (ci := 6) (v := .int 1) (ty := .int) (C := RX6) (T := TX6) (N := 12) hx hb ht inX6 tyX6 tyX6_ok nmX6 hown hK hP hD hS 0 rfl rfl 7 (by decide) (ht (.fieldLink RX6 44 "CloneVolumes$Reader" "kind" "I") fl_X6_44) (fun _ h9 => h9) rfl (by decide +kernel) rfl rfl (Nat.le_of_ble_eq_true rfl) dX6_advance_117 (fun H locs hP hD hS => ?_)
            have hP : va_P D vwCl [(h0, .inr (6, [.int 0, .int pl, .ref h1, .ref h2, .ref h3, .int mo, .int (nI op), .int 1, .int (nI (sp + i_3)), .int (nI (sp + i_3)), .int (-1), .int (f (sp + i_3))])), (h1, .inr (9, [.ref h4, .int (nI n)])), (h4, .inl (D.1 13, 1600, .inl f)), (h2, .inl (D.1 14, 179, .inl fw))] H := hP
            have hD : va_D A [(h0, .inr (6, [.int 0, .int pl, .ref h1, .ref h2, .ref h3, .int mo, .int (nI op), .int 1, .int (nI (sp + i_3)), .int (nI (sp + i_3)), .int (-1), .int (f (sp + i_3))])), (h1, .inr (9, [.ref h4, .int (nI n)])), (h4, .inl (D.1 13, 1600, .inl f)), (h2, .inl (D.1 14, 179, .inl fw))] := hD
            refine z_loop (σ := Unit) (N := 1600) (fun i u H locs ls => ((sp + i_3) + i ≤ n) ∧ va_P D vwCl [(h0, .inr (6, [.int 0, .int pl, .ref h1, .ref h2, .ref h3, .int mo, .int (nI op), .int 1, .int (nI (sp + i_3)), .int (nI ((sp + i_3) + i)), .int (-1), .int (f (sp + i_3))])), (h1, .inr (9, [.ref h4, .int (nI n)])), (h4, .inl (D.1 13, 1600, .inl f)), (h2, .inl (D.1 14, 179, .inl fw))] H ∧ va_D A [(h0, .inr (6, [.int 0, .int pl, .ref h1, .ref h2, .ref h3, .int mo, .int (nI op), .int 1, .int (nI (sp + i_3)), .int (nI ((sp + i_3) + i)), .int (-1), .int (f (sp + i_3))])), (h1, .inr (9, [.ref h4, .int (nI n)])), (h4, .inl (D.1 13, 1600, .inl f)), (h2, .inl (D.1 14, 179, .inl fw))] ∧ va_S A s.heap H locs ∧ lv_has ls 2 [(0, .ref h0)]) (fun i_266 _u H locs ls hi_i_266 hI ih_120 => ?_) 0 () (by decide) ⟨(by first | omega | (dsimp only; omega)), hP, hD, hS, lv_sub hl [0] rfl⟩
            obtain ⟨hv_i_266, hP, hD, hS, hl⟩ := hI
            have hv_i_266 : (sp + i_3) + i_266 ≤ n := hv_i_266
            have hP : va_P D vwCl [(h0, .inr (6, [.int 0, .int pl, .ref h1, .ref h2, .ref h3, .int mo, .int (nI op), .int 1, .int (nI (sp + i_3)), .int (nI ((sp + i_3) + i_266)), .int (-1), .int (f (sp + i_3))])), (h1, .inr (9, [.ref h4, .int (nI n)])), (h4, .inl (D.1 13, 1600, .inl f)), (h2, .inl (D.1 14, 179, .inl fw))] H := hP
            have hD : va_D A [(h0, .inr (6, [.int 0, .int pl, .ref h1, .ref h2, .ref h3, .int mo, .int (nI op), .int 1, .int (nI (sp + i_3)), .int (nI ((sp + i_3) + i_266)), .int (-1), .int (f (sp + i_3))])), (h1, .inr (9, [.ref h4, .int (nI n)])), (h4, .inl (D.1 13, 1600, .inl f)), (h2, .inl (D.1 14, 179, .inl fw))] := hD
            have hl : lv_has ls 2 [(0, .ref h0)] := hl
            have hz_267 : i_266 = 0 → (f ((sp + i_3) + i_266)).toInt = (f ((sp + i_3))).toInt := fun h => by rw [h]; rfl
            refine lv_aload_n hx hb dX6_advance_120 rfl (lv_at hl 0 rfl) ?_
            refine va_get (D := D) (ci := 6) (v := .int (nI ((sp + i_3) + i_266))) (C := RX6) (T := TX6) (N := 12) hx hb ht inX6 hown hK hP 0 rfl rfl 9 (by decide) (ht (.fieldLink RX6 88 "CloneVolumes$Reader" "stop" "I") fl_X6_88) (fun _ h9 => h9) rfl dX6_advance_121 ?_
            refine lv_aload_n hx hb dX6_advance_124 rfl (lv_at hl 0 rfl) ?_
            refine va_get (D := D) (ci := 6) (v := .ref h1) (C := RX6) (T := TX6) (N := 12) hx hb ht inX6 hown hK hP 0 rfl rfl 2 (by decide) (ht (.fieldLink RX6 27 "CloneVolumes$Reader" "tape" "LCloneVolumes$Tape;") fl_X6_27) (fun _ h9 => h9) rfl dX6_advance_125 ?_
            refine va_get (D := D) (ci := 9) (v := .int (nI n)) (C := RX9) (T := TX9) (N := 2) hx hb ht inX9 hown hK hP 1 rfl rfl 1 (by decide) (ht (.fieldLink RX6 91 "CloneVolumes$Tape" "length" "I") fl_X6_91) (fun _ h9 => h9) rfl dX6_advance_128 ?_
            refine lv_icmp_ge (tgt := 165) hx hb dX6_advance_131 (by decide) (fun c_268 => ?_) (fun c_268 => ?_)
            · have g_269 : ((n : Nat) : Int) ≤ (((sp + i_3) + i_266 : Nat) : Int) := z_le (nI_toInt (by omega)) (nI_toInt (by omega)) c_268
              refine lv_aload_n hx hb dX6_advance_165 rfl (lv_at hl 0 rfl) ?_
              refine lv_aload_n hx hb dX6_advance_166 rfl (lv_at hl 0 rfl) ?_
              refine zcV (As := []) (rest := [.ref h0]) (C := RX6) (n := 0) ⟨hx, hb, hml, hown, ht⟩ (k_X6_wordNumber l D h0 h1 h2 h3 h4 0 pl mo 1 (-1) (f (sp + i_3)) op (sp + i_3) ((sp + i_3) + i_266) n f fw (by first | decide | omega) (by first | decide | omega) (by first | decide | omega)) (zgV ml_X6_114 im_X6_wordNumber se_X6_wordNumber in_X6 co_X6_wordNumber) rfl rfl (by decide +kernel) ⟨Nat.le_of_ble_eq_true rfl, Nat.le_of_ble_eq_true rfl⟩ hK hP hS [0, 1, 2, 3] rfl 0 rfl rfl rfl rfl hl.1 rfl (Nat.le_of_ble_eq_true rfl) dX6_advance_167 ⟨Nat.le_of_ble_eq_true rfl, Nat.le_of_ble_eq_true rfl⟩ (fun r_270 H locs hw hP hS => ?_)
              refine va_put (D := D) (ci := 6) (v := .int r_270) (ty := .int) (C := RX6) (T := TX6) (N := 12) hx hb ht inX6 tyX6 tyX6_ok nmX6 hown hK hP hD hS 0 rfl rfl 10 (by decide) (ht (.fieldLink RX6 72 "CloneVolumes$Reader" "word" "I") fl_X6_72) (fun _ h9 => h9) rfl (by decide +kernel) rfl rfl (Nat.le_of_ble_eq_true rfl) dX6_advance_170 (fun H locs hP hD hS => ?_)
              have hP : va_P D vwCl [(h0, .inr (6, [.int 0, .int pl, .ref h1, .ref h2, .ref h3, .int mo, .int (nI op), .int 1, .int (nI (sp + i_3)), .int (nI ((sp + i_3) + i_266)), .int r_270, .int (f (sp + i_3))])), (h1, .inr (9, [.ref h4, .int (nI n)])), (h4, .inl (D.1 13, 1600, .inl f)), (h2, .inl (D.1 14, 179, .inl fw))] H := hP
              have hD : va_D A [(h0, .inr (6, [.int 0, .int pl, .ref h1, .ref h2, .ref h3, .int mo, .int (nI op), .int 1, .int (nI (sp + i_3)), .int (nI ((sp + i_3) + i_266)), .int r_270, .int (f (sp + i_3))])), (h1, .inr (9, [.ref h4, .int (nI n)])), (h4, .inl (D.1 13, 1600, .inl f)), (h2, .inl (D.1 14, 179, .inl fw))] := hD
              refine lv_goto (tgt := 251) hx hb dX6_advance_173 (by decide) ?_
              refine lv_aload_n hx hb dX6_advance_251 rfl (lv_at hl 0 rfl) ?_
              refine va_get (D := D) (ci := 6) (v := .ref h1) (C := RX6) (T := TX6) (N := 12) hx hb ht inX6 hown hK hP 0 rfl rfl 2 (by decide) (ht (.fieldLink RX6 27 "CloneVolumes$Reader" "tape" "LCloneVolumes$Tape;") fl_X6_27) (fun _ h9 => h9) rfl dX6_advance_252 ?_
              refine lv_aload_n hx hb dX6_advance_255 rfl (lv_at hl 0 rfl) ?_
              refine va_get (D := D) (ci := 6) (v := .int (nI (sp + i_3))) (C := RX6) (T := TX6) (N := 12) hx hb ht inX6 hown hK hP 0 rfl rfl 8 (by decide) (ht (.fieldLink RX6 51 "CloneVolumes$Reader" "start" "I") fl_X6_51) (fun _ h9 => h9) rfl dX6_advance_256 ?_
              refine lv_iconst (v := 1) hx hb dX6_advance_259 (by decide) ?_
              refine lv_isub hx hb dX6_advance_260 ?_
              refine lv_topi (fun x_271 ex_271 => ?_)
              refine zcV (As := [.int x_271]) (rest := []) (C := RX9) (n := 1) ⟨hx, hb, hml, hown, ht⟩ (k_X9_at l D h1 h4 n f x_271 (by first | decide | omega)) (zgV ml_X6_104 im_X9_at se_X9_at in_X9 co_X9_at) rfl rfl (by decide +kernel) ⟨Nat.le_of_ble_eq_true rfl, Nat.le_of_ble_eq_true rfl⟩ hK hP hS [1, 2] rfl 0 rfl rfl rfl rfl hl.1 rfl (Nat.le_of_ble_eq_true rfl) dX6_advance_261 ⟨Nat.le_of_ble_eq_true rfl, Nat.le_of_ble_eq_true rfl⟩ (fun r_272 H locs hw hP hS => ?_)
              rcases hw with ⟨rfl, g_273⟩ | ⟨rfl, g_274⟩
              · skip
                refine lv_istore_n (lv' := [(1, .int (f x_271.toNatClampNeg)), (0, .ref h0)]) hx hb dX6_advance_264 rfl hl (by decide) rfl (fun ls hl => ?_)
                refine lv_aload_n hx hb dX6_advance_265 rfl (lv_at hl 1 rfl) ?_
                refine va_get (D := D) (ci := 6) (v := .int 1) (C := RX6) (T := TX6) (N := 12) hx hb ht inX6 hown hK hP 0 rfl rfl 7 (by decide) (ht (.fieldLink RX6 44 "CloneVolumes$Reader" "kind" "I") fl_X6_44) (fun _ h9 => h9) rfl dX6_advance_266 ?_
                refine lv_iconst (v := 1) hx hb dX6_advance_269 (by decide) ?_
                refine lv_icmp_eq (tgt := 281) hx hb dX6_advance_270 (by decide) (fun _ => ?_) (fun c_275 => (z_abs c_275 (by decide)).elim)
                refine lv_iload_n hx hb dX6_advance_281 rfl (lv_at hl 0 rfl) ?_
                refine zcS (As := [.int (f x_271.toNatClampNeg)]) (rest := []) (n := 1) ⟨hx, hb, hml, hown, ht⟩ (k_X6_isLetter l D (f x_271.toNatClampNeg)) (zgT ml_X6_111 st_X6_isLetter in_X6 co_X6_isLetter) rfl rfl (by decide +kernel) ⟨Nat.le_of_ble_eq_true rfl, Nat.le_of_ble_eq_true rfl⟩ hK hP hS [] rfl rfl hl.1 rfl (Nat.le_of_ble_eq_true rfl) dX6_advance_282 ⟨Nat.le_of_ble_eq_true rfl, Nat.le_of_ble_eq_true rfl⟩ (fun r_277 H locs hw hP hS => ?_)
                rcases hw with ⟨rfl, g_278⟩ | ⟨rfl, g_279⟩
                · skip
                  refine lv_if_ne (tgt := 295) hx hb dX6_advance_285 (by decide) (fun _ => ?_) (fun c_280 => (z_abs c_280 (by decide)).elim)
                  refine lv_aload_n hx hb dX6_advance_295 rfl (lv_at hl 1 rfl) ?_
                  refine lv_iconst (v := 4) hx hb dX6_advance_296 (by decide) ?_
                  refine va_put (D := D) (ci := 6) (v := .int 4) (ty := .int) (C := RX6) (T := TX6) (N := 12) hx hb ht inX6 tyX6 tyX6_ok nmX6 hown hK hP hD hS 0 rfl rfl 7 (by decide) (ht (.fieldLink RX6 44 "CloneVolumes$Reader" "kind" "I") fl_X6_44) (fun _ h9 => h9) rfl (by decide +kernel) rfl rfl (Nat.le_of_ble_eq_true rfl) dX6_advance_297 (fun H locs hP hD hS => ?_)
                  have hP : va_P D vwCl [(h0, .inr (6, [.int 0, .int pl, .ref h1, .ref h2, .ref h3, .int mo, .int (nI op), .int 4, .int (nI (sp + i_3)), .int (nI ((sp + i_3) + i_266)), .int r_270, .int (f (sp + i_3))])), (h1, .inr (9, [.ref h4, .int (nI n)])), (h4, .inl (D.1 13, 1600, .inl f)), (h2, .inl (D.1 14, 179, .inl fw))] H := hP
                  have hD : va_D A [(h0, .inr (6, [.int 0, .int pl, .ref h1, .ref h2, .ref h3, .int mo, .int (nI op), .int 4, .int (nI (sp + i_3)), .int (nI ((sp + i_3) + i_266)), .int r_270, .int (f (sp + i_3))])), (h1, .inr (9, [.ref h4, .int (nI n)])), (h4, .inl (D.1 13, 1600, .inl f)), (h2, .inl (D.1 14, 179, .inl fw))] := hD
                  have hP9 := hP.sub (ws' := [(h0, .inr (6, [.int 0, .int pl, .ref h1, .ref h2, .ref h3, .int mo, .int (nI op), .int 4, .int (nI (sp + i_3)), .int (nI ((sp + i_3) + i_266)), .int r_270, .int (f (sp + i_3))])), (h1, .inr (9, [.ref h4, .int (nI n)])), (h4, .inl (D.1 13, 1600, .inl f)), (h2, .inl (D.1 14, 179, .inl fw))]) [0, 1, 2, 3] rfl
                  have hD9 := hD.sub (ws' := [(h0, .inr (6, [.int 0, .int pl, .ref h1, .ref h2, .ref h3, .int mo, .int (nI op), .int 4, .int (nI (sp + i_3)), .int (nI ((sp + i_3) + i_266)), .int r_270, .int (f (sp + i_3))])), (h1, .inr (9, [.ref h4, .int (nI n)])), (h4, .inl (D.1 13, 1600, .inl f)), (h2, .inl (D.1 14, 179, .inl fw))]) [0, 1, 2, 3] (by decide) rfl
                  refine W.widen (k := 0) (n := 0) (Nat.le_of_ble_eq_true rfl) (Nat.le_of_ble_eq_true rfl) ?_
                  exact W.vret hx hb hr (fun t ht hW => ⟨⟨(4, (sp + i_3), ((sp + i_3) + i_266), r_270, (f (sp + i_3))), rfl, (by first | omega | (dsimp only; omega)), by rw [ht]; exact hP9, va_K.moved hW.alike hK, hD9⟩, hS.F ht⟩) hS.2.2 dX6_advance_300
                · skip
                  refine lv_if_ne (tgt := 295) hx hb dX6_advance_285 (by decide) (fun c_282 => (z_abs c_282 (by decide)).elim) (fun _ => ?_)
                  refine lv_iload_n hx hb dX6_advance_288 rfl (lv_at hl 0 rfl) ?_
                  refine zcS (As := [.int (f x_271.toNatClampNeg)]) (rest := []) (n := 1) ⟨hx, hb, hml, hown, ht⟩ (k_X6_isDigit l D (f x_271.toNatClampNeg)) (zgT ml_X6_118 st_X6_isDigit in_X6 co_X6_isDigit) rfl rfl (by decide +kernel) ⟨Nat.le_of_ble_eq_true rfl, Nat.le_of_ble_eq_true rfl⟩ hK hP hS [] rfl rfl hl.1 rfl (Nat.le_of_ble_eq_true rfl) dX6_advance_289 ⟨Nat.le_of_ble_eq_true rfl, Nat.le_of_ble_eq_true rfl⟩ (fun r_284 H locs hw hP hS => ?_)
                  rcases hw with ⟨rfl, g_285⟩ | ⟨rfl, g_286⟩
                  · skip
                    refine lv_if_eq (tgt := 300) hx hb dX6_advance_292 (by decide) (fun c_287 => (z_abs c_287 (by decide)).elim) (fun _ => ?_)
                    refine lv_aload_n hx hb dX6_advance_295 rfl (lv_at hl 1 rfl) ?_
                    refine lv_iconst (v := 4) hx hb dX6_advance_296 (by decide) ?_
                    refine va_put (D := D) (ci := 6) (v := .int 4) (ty := .int) (C := RX6) (T := TX6) (N := 12) hx hb ht inX6 tyX6 tyX6_ok nmX6 hown hK hP hD hS 0 rfl rfl 7 (by decide) (ht (.fieldLink RX6 44 "CloneVolumes$Reader" "kind" "I") fl_X6_44) (fun _ h9 => h9) rfl (by decide +kernel) rfl rfl (Nat.le_of_ble_eq_true rfl) dX6_advance_297 (fun H locs hP hD hS => ?_)
                    have hP : va_P D vwCl [(h0, .inr (6, [.int 0, .int pl, .ref h1, .ref h2, .ref h3, .int mo, .int (nI op), .int 4, .int (nI (sp + i_3)), .int (nI ((sp + i_3) + i_266)), .int r_270, .int (f (sp + i_3))])), (h1, .inr (9, [.ref h4, .int (nI n)])), (h4, .inl (D.1 13, 1600, .inl f)), (h2, .inl (D.1 14, 179, .inl fw))] H := hP
                    have hD : va_D A [(h0, .inr (6, [.int 0, .int pl, .ref h1, .ref h2, .ref h3, .int mo, .int (nI op), .int 4, .int (nI (sp + i_3)), .int (nI ((sp + i_3) + i_266)), .int r_270, .int (f (sp + i_3))])), (h1, .inr (9, [.ref h4, .int (nI n)])), (h4, .inl (D.1 13, 1600, .inl f)), (h2, .inl (D.1 14, 179, .inl fw))] := hD
                    have hP9 := hP.sub (ws' := [(h0, .inr (6, [.int 0, .int pl, .ref h1, .ref h2, .ref h3, .int mo, .int (nI op), .int 4, .int (nI (sp + i_3)), .int (nI ((sp + i_3) + i_266)), .int r_270, .int (f (sp + i_3))])), (h1, .inr (9, [.ref h4, .int (nI n)])), (h4, .inl (D.1 13, 1600, .inl f)), (h2, .inl (D.1 14, 179, .inl fw))]) [0, 1, 2, 3] rfl
                    have hD9 := hD.sub (ws' := [(h0, .inr (6, [.int 0, .int pl, .ref h1, .ref h2, .ref h3, .int mo, .int (nI op), .int 4, .int (nI (sp + i_3)), .int (nI ((sp + i_3) + i_266)), .int r_270, .int (f (sp + i_3))])), (h1, .inr (9, [.ref h4, .int (nI n)])), (h4, .inl (D.1 13, 1600, .inl f)), (h2, .inl (D.1 14, 179, .inl fw))]) [0, 1, 2, 3] (by decide) rfl
                    refine W.widen (k := 0) (n := 0) (Nat.le_of_ble_eq_true rfl) (Nat.le_of_ble_eq_true rfl) ?_
                    exact W.vret hx hb hr (fun t ht hW => ⟨⟨(4, (sp + i_3), ((sp + i_3) + i_266), r_270, (f (sp + i_3))), rfl, (by first | omega | (dsimp only; omega)), by rw [ht]; exact hP9, va_K.moved hW.alike hK, hD9⟩, hS.F ht⟩) hS.2.2 dX6_advance_300
                  · skip
                    refine lv_if_eq (tgt := 300) hx hb dX6_advance_292 (by decide) (fun _ => ?_) (fun c_289 => (z_abs c_289 (by decide)).elim)
                    have hP9 := hP.sub (ws' := [(h0, .inr (6, [.int 0, .int pl, .ref h1, .ref h2, .ref h3, .int mo, .int (nI op), .int 1, .int (nI (sp + i_3)), .int (nI ((sp + i_3) + i_266)), .int r_270, .int (f (sp + i_3))])), (h1, .inr (9, [.ref h4, .int (nI n)])), (h4, .inl (D.1 13, 1600, .inl f)), (h2, .inl (D.1 14, 179, .inl fw))]) [0, 1, 2, 3] rfl
                    have hD9 := hD.sub (ws' := [(h0, .inr (6, [.int 0, .int pl, .ref h1, .ref h2, .ref h3, .int mo, .int (nI op), .int 1, .int (nI (sp + i_3)), .int (nI ((sp + i_3) + i_266)), .int r_270, .int (f (sp + i_3))])), (h1, .inr (9, [.ref h4, .int (nI n)])), (h4, .inl (D.1 13, 1600, .inl f)), (h2, .inl (D.1 14, 179, .inl fw))]) [0, 1, 2, 3] (by decide) rfl
                    refine W.widen (k := 0) (n := 0) (Nat.le_of_ble_eq_true rfl) (Nat.le_of_ble_eq_true rfl) ?_
                    exact W.vret hx hb hr (fun t ht hW => ⟨⟨(1, (sp + i_3), ((sp + i_3) + i_266), r_270, (f (sp + i_3))), rfl, (by first | omega | (dsimp only; omega)), by rw [ht]; exact hP9, va_K.moved hW.alike hK, hD9⟩, hS.F ht⟩) hS.2.2 dX6_advance_300
              · skip
                refine lv_istore_n (lv' := [(1, .int (-1)), (0, .ref h0)]) hx hb dX6_advance_264 rfl hl (by decide) rfl (fun ls hl => ?_)
                refine lv_aload_n hx hb dX6_advance_265 rfl (lv_at hl 1 rfl) ?_
                refine va_get (D := D) (ci := 6) (v := .int 1) (C := RX6) (T := TX6) (N := 12) hx hb ht inX6 hown hK hP 0 rfl rfl 7 (by decide) (ht (.fieldLink RX6 44 "CloneVolumes$Reader" "kind" "I") fl_X6_44) (fun _ h9 => h9) rfl dX6_advance_266 ?_
                refine lv_iconst (v := 1) hx hb dX6_advance_269 (by decide) ?_
                refine lv_icmp_eq (tgt := 281) hx hb dX6_advance_270 (by decide) (fun _ => ?_) (fun c_291 => (z_abs c_291 (by decide)).elim)
                refine lv_iload_n hx hb dX6_advance_281 rfl (lv_at hl 0 rfl) ?_
                have en_293 : ((-1) : Int32).toInt = (-1) := by decide
                refine zcS (As := [.int (-1)]) (rest := []) (n := 1) ⟨hx, hb, hml, hown, ht⟩ (k_X6_isLetter l D (-1)) (zgT ml_X6_111 st_X6_isLetter in_X6 co_X6_isLetter) rfl rfl (by decide +kernel) ⟨Nat.le_of_ble_eq_true rfl, Nat.le_of_ble_eq_true rfl⟩ hK hP hS [] rfl rfl hl.1 rfl (Nat.le_of_ble_eq_true rfl) dX6_advance_282 ⟨Nat.le_of_ble_eq_true rfl, Nat.le_of_ble_eq_true rfl⟩ (fun r_294 H locs hw hP hS => ?_)
                rcases hw with ⟨rfl, g_295⟩ | ⟨rfl, g_296⟩
                · skip
                  refine lv_if_ne (tgt := 295) hx hb dX6_advance_285 (by decide) (fun _ => ?_) (fun c_297 => (z_abs c_297 (by decide)).elim)
                  refine lv_aload_n hx hb dX6_advance_295 rfl (lv_at hl 1 rfl) ?_
                  refine lv_iconst (v := 4) hx hb dX6_advance_296 (by decide) ?_
                  refine va_put (D := D) (ci := 6) (v := .int 4) (ty := .int) (C := RX6) (T := TX6) (N := 12) hx hb ht inX6 tyX6 tyX6_ok nmX6 hown hK hP hD hS 0 rfl rfl 7 (by decide) (ht (.fieldLink RX6 44 "CloneVolumes$Reader" "kind" "I") fl_X6_44) (fun _ h9 => h9) rfl (by decide +kernel) rfl rfl (Nat.le_of_ble_eq_true rfl) dX6_advance_297 (fun H locs hP hD hS => ?_)
                  have hP : va_P D vwCl [(h0, .inr (6, [.int 0, .int pl, .ref h1, .ref h2, .ref h3, .int mo, .int (nI op), .int 4, .int (nI (sp + i_3)), .int (nI ((sp + i_3) + i_266)), .int r_270, .int (f (sp + i_3))])), (h1, .inr (9, [.ref h4, .int (nI n)])), (h4, .inl (D.1 13, 1600, .inl f)), (h2, .inl (D.1 14, 179, .inl fw))] H := hP
                  have hD : va_D A [(h0, .inr (6, [.int 0, .int pl, .ref h1, .ref h2, .ref h3, .int mo, .int (nI op), .int 4, .int (nI (sp + i_3)), .int (nI ((sp + i_3) + i_266)), .int r_270, .int (f (sp + i_3))])), (h1, .inr (9, [.ref h4, .int (nI n)])), (h4, .inl (D.1 13, 1600, .inl f)), (h2, .inl (D.1 14, 179, .inl fw))] := hD
                  have hP9 := hP.sub (ws' := [(h0, .inr (6, [.int 0, .int pl, .ref h1, .ref h2, .ref h3, .int mo, .int (nI op), .int 4, .int (nI (sp + i_3)), .int (nI ((sp + i_3) + i_266)), .int r_270, .int (f (sp + i_3))])), (h1, .inr (9, [.ref h4, .int (nI n)])), (h4, .inl (D.1 13, 1600, .inl f)), (h2, .inl (D.1 14, 179, .inl fw))]) [0, 1, 2, 3] rfl
                  have hD9 := hD.sub (ws' := [(h0, .inr (6, [.int 0, .int pl, .ref h1, .ref h2, .ref h3, .int mo, .int (nI op), .int 4, .int (nI (sp + i_3)), .int (nI ((sp + i_3) + i_266)), .int r_270, .int (f (sp + i_3))])), (h1, .inr (9, [.ref h4, .int (nI n)])), (h4, .inl (D.1 13, 1600, .inl f)), (h2, .inl (D.1 14, 179, .inl fw))]) [0, 1, 2, 3] (by decide) rfl
                  refine W.widen (k := 0) (n := 0) (Nat.le_of_ble_eq_true rfl) (Nat.le_of_ble_eq_true rfl) ?_
                  exact W.vret hx hb hr (fun t ht hW => ⟨⟨(4, (sp + i_3), ((sp + i_3) + i_266), r_270, (f (sp + i_3))), rfl, (by first | omega | (dsimp only; omega)), by rw [ht]; exact hP9, va_K.moved hW.alike hK, hD9⟩, hS.F ht⟩) hS.2.2 dX6_advance_300
                · skip
                  refine lv_if_ne (tgt := 295) hx hb dX6_advance_285 (by decide) (fun c_299 => (z_abs c_299 (by decide)).elim) (fun _ => ?_)
                  refine lv_iload_n hx hb dX6_advance_288 rfl (lv_at hl 0 rfl) ?_
                  have en_301 : ((-1) : Int32).toInt = (-1) := by decide
                  refine zcS (As := [.int (-1)]) (rest := []) (n := 1) ⟨hx, hb, hml, hown, ht⟩ (k_X6_isDigit l D (-1)) (zgT ml_X6_118 st_X6_isDigit in_X6 co_X6_isDigit) rfl rfl (by decide +kernel) ⟨Nat.le_of_ble_eq_true rfl, Nat.le_of_ble_eq_true rfl⟩ hK hP hS [] rfl rfl hl.1 rfl (Nat.le_of_ble_eq_true rfl) dX6_advance_289 ⟨Nat.le_of_ble_eq_true rfl, Nat.le_of_ble_eq_true rfl⟩ (fun r_302 H locs hw hP hS => ?_)
                  rcases hw with ⟨rfl, g_303⟩ | ⟨rfl, g_304⟩
                  · skip
                    refine lv_if_eq (tgt := 300) hx hb dX6_advance_292 (by decide) (fun c_305 => (z_abs c_305 (by decide)).elim) (fun _ => ?_)
                    refine lv_aload_n hx hb dX6_advance_295 rfl (lv_at hl 1 rfl) ?_
                    refine lv_iconst (v := 4) hx hb dX6_advance_296 (by decide) ?_
                    refine va_put (D := D) (ci := 6) (v := .int 4) (ty := .int) (C := RX6) (T := TX6) (N := 12) hx hb ht inX6 tyX6 tyX6_ok nmX6 hown hK hP hD hS 0 rfl rfl 7 (by decide) (ht (.fieldLink RX6 44 "CloneVolumes$Reader" "kind" "I") fl_X6_44) (fun _ h9 => h9) rfl (by decide +kernel) rfl rfl (Nat.le_of_ble_eq_true rfl) dX6_advance_297 (fun H locs hP hD hS => ?_)
                    have hP : va_P D vwCl [(h0, .inr (6, [.int 0, .int pl, .ref h1, .ref h2, .ref h3, .int mo, .int (nI op), .int 4, .int (nI (sp + i_3)), .int (nI ((sp + i_3) + i_266)), .int r_270, .int (f (sp + i_3))])), (h1, .inr (9, [.ref h4, .int (nI n)])), (h4, .inl (D.1 13, 1600, .inl f)), (h2, .inl (D.1 14, 179, .inl fw))] H := hP
                    have hD : va_D A [(h0, .inr (6, [.int 0, .int pl, .ref h1, .ref h2, .ref h3, .int mo, .int (nI op), .int 4, .int (nI (sp + i_3)), .int (nI ((sp + i_3) + i_266)), .int r_270, .int (f (sp + i_3))])), (h1, .inr (9, [.ref h4, .int (nI n)])), (h4, .inl (D.1 13, 1600, .inl f)), (h2, .inl (D.1 14, 179, .inl fw))] := hD
                    have hP9 := hP.sub (ws' := [(h0, .inr (6, [.int 0, .int pl, .ref h1, .ref h2, .ref h3, .int mo, .int (nI op), .int 4, .int (nI (sp + i_3)), .int (nI ((sp + i_3) + i_266)), .int r_270, .int (f (sp + i_3))])), (h1, .inr (9, [.ref h4, .int (nI n)])), (h4, .inl (D.1 13, 1600, .inl f)), (h2, .inl (D.1 14, 179, .inl fw))]) [0, 1, 2, 3] rfl
                    have hD9 := hD.sub (ws' := [(h0, .inr (6, [.int 0, .int pl, .ref h1, .ref h2, .ref h3, .int mo, .int (nI op), .int 4, .int (nI (sp + i_3)), .int (nI ((sp + i_3) + i_266)), .int r_270, .int (f (sp + i_3))])), (h1, .inr (9, [.ref h4, .int (nI n)])), (h4, .inl (D.1 13, 1600, .inl f)), (h2, .inl (D.1 14, 179, .inl fw))]) [0, 1, 2, 3] (by decide) rfl
                    refine W.widen (k := 0) (n := 0) (Nat.le_of_ble_eq_true rfl) (Nat.le_of_ble_eq_true rfl) ?_
                    exact W.vret hx hb hr (fun t ht hW => ⟨⟨(4, (sp + i_3), ((sp + i_3) + i_266), r_270, (f (sp + i_3))), rfl, (by first | omega | (dsimp only; omega)), by rw [ht]; exact hP9, va_K.moved hW.alike hK, hD9⟩, hS.F ht⟩) hS.2.2 dX6_advance_300
                  · skip
                    refine lv_if_eq (tgt := 300) hx hb dX6_advance_292 (by decide) (fun _ => ?_) (fun c_307 => (z_abs c_307 (by decide)).elim)
                    have hP9 := hP.sub (ws' := [(h0, .inr (6, [.int 0, .int pl, .ref h1, .ref h2, .ref h3, .int mo, .int (nI op), .int 1, .int (nI (sp + i_3)), .int (nI ((sp + i_3) + i_266)), .int r_270, .int (f (sp + i_3))])), (h1, .inr (9, [.ref h4, .int (nI n)])), (h4, .inl (D.1 13, 1600, .inl f)), (h2, .inl (D.1 14, 179, .inl fw))]) [0, 1, 2, 3] rfl
                    have hD9 := hD.sub (ws' := [(h0, .inr (6, [.int 0, .int pl, .ref h1, .ref h2, .ref h3, .int mo, .int (nI op), .int 1, .int (nI (sp + i_3)), .int (nI ((sp + i_3) + i_266)), .int r_270, .int (f (sp + i_3))])), (h1, .inr (9, [.ref h4, .int (nI n)])), (h4, .inl (D.1 13, 1600, .inl f)), (h2, .inl (D.1 14, 179, .inl fw))]) [0, 1, 2, 3] (by decide) rfl
                    refine W.widen (k := 0) (n := 0) (Nat.le_of_ble_eq_true rfl) (Nat.le_of_ble_eq_true rfl) ?_
                    exact W.vret hx hb hr (fun t ht hW => ⟨⟨(1, (sp + i_3), ((sp + i_3) + i_266), r_270, (f (sp + i_3))), rfl, (by first | omega | (dsimp only; omega)), by rw [ht]; exact hP9, va_K.moved hW.alike hK, hD9⟩, hS.F ht⟩) hS.2.2 dX6_advance_300
            · have g_269 : (((sp + i_3) + i_266 : Nat) : Int) < ((n : Nat) : Int) := z_nle (nI_toInt (by omega)) (nI_toInt (by omega)) c_268
              refine lv_aload_n hx hb dX6_advance_134 rfl (lv_at hl 0 rfl) ?_
              refine va_get (D := D) (ci := 6) (v := .ref h1) (C := RX6) (T := TX6) (N := 12) hx hb ht inX6 hown hK hP 0 rfl rfl 2 (by decide) (ht (.fieldLink RX6 27 "CloneVolumes$Reader" "tape" "LCloneVolumes$Tape;") fl_X6_27) (fun _ h9 => h9) rfl dX6_advance_135 ?_
              refine va_get (D := D) (ci := 9) (v := .ref h4) (C := RX9) (T := TX9) (N := 2) hx hb ht inX9 hown hK hP 1 rfl rfl 0 (by decide) (ht (.fieldLink RX6 96 "CloneVolumes$Tape" "bytes" "[I") fl_X6_96) (fun _ h9 => h9) rfl dX6_advance_138 ?_
              refine lv_aload_n hx hb dX6_advance_141 rfl (lv_at hl 0 rfl) ?_
              refine va_get (D := D) (ci := 6) (v := .int (nI ((sp + i_3) + i_266))) (C := RX6) (T := TX6) (N := 12) hx hb ht inX6 hown hK hP 0 rfl rfl 9 (by decide) (ht (.fieldLink RX6 88 "CloneVolumes$Reader" "stop" "I") fl_X6_88) (fun _ h9 => h9) rfl dX6_advance_142 ?_
              refine va_iald hx hb hK hP 2 0 rfl rfl (vp_in_nI (by omega) (by omega)) dX6_advance_145 ?_
              refine z_topi (y := f ((sp + i_3) + i_266)) (by rw [nI_clamp (by omega)]) ?_
              refine zcS (As := [.int (f ((sp + i_3) + i_266))]) (rest := []) (n := 1) ⟨hx, hb, hml, hown, ht⟩ (k_X6_isLetter l D (f ((sp + i_3) + i_266))) (zgT ml_X6_111 st_X6_isLetter in_X6 co_X6_isLetter) rfl rfl (by decide +kernel) ⟨Nat.le_of_ble_eq_true rfl, Nat.le_of_ble_eq_true rfl⟩ hK hP hS [] rfl rfl hl.1 rfl (Nat.le_of_ble_eq_true rfl) dX6_advance_146 ⟨Nat.le_of_ble_eq_true rfl, Nat.le_of_ble_eq_true rfl⟩ (fun r_309 H locs hw hP hS => ?_)
              rcases hw with ⟨rfl, g_310⟩ | ⟨rfl, g_311⟩
              · skip
                refine lv_if_eq (tgt := 165) hx hb dX6_advance_149 (by decide) (fun c_312 => (z_abs c_312 (by decide)).elim) (fun _ => ?_)
                refine lv_aload_n hx hb dX6_advance_152 rfl (lv_at hl 0 rfl) ?_
                refine lv_dup hx hb dX6_advance_153 rfl ?_
                refine va_get (D := D) (ci := 6) (v := .int (nI ((sp + i_3) + i_266))) (C := RX6) (T := TX6) (N := 12) hx hb ht inX6 hown hK hP 0 rfl rfl 9 (by decide) (ht (.fieldLink RX6 88 "CloneVolumes$Reader" "stop" "I") fl_X6_88) (fun _ h9 => h9) rfl dX6_advance_154 ?_
                refine lv_iconst (v := 1) hx hb dX6_advance_157 (by decide) ?_
                refine lv_iadd hx hb dX6_advance_158 ?_
                refine z_topi (y := nI (((sp + i_3) + i_266) + 1)) (z_nadd ((sp + i_3) + i_266) 1) ?_
                refine va_put (D := D) (ci := 6) (v := .int (nI (((sp + i_3) + i_266) + 1))) (ty := .int) (C := RX6) (T := TX6) (N := 12) hx hb ht inX6 tyX6 tyX6_ok nmX6 hown hK hP hD hS 0 rfl rfl 9 (by decide) (ht (.fieldLink RX6 88 "CloneVolumes$Reader" "stop" "I") fl_X6_88) (fun _ h9 => h9) rfl (by decide +kernel) rfl rfl (Nat.le_of_ble_eq_true rfl) dX6_advance_159 (fun H locs hP hD hS => ?_)
                have hP : va_P D vwCl [(h0, .inr (6, [.int 0, .int pl, .ref h1, .ref h2, .ref h3, .int mo, .int (nI op), .int 1, .int (nI (sp + i_3)), .int (nI (((sp + i_3) + i_266) + 1)), .int (-1), .int (f (sp + i_3))])), (h1, .inr (9, [.ref h4, .int (nI n)])), (h4, .inl (D.1 13, 1600, .inl f)), (h2, .inl (D.1 14, 179, .inl fw))] H := hP
                have hD : va_D A [(h0, .inr (6, [.int 0, .int pl, .ref h1, .ref h2, .ref h3, .int mo, .int (nI op), .int 1, .int (nI (sp + i_3)), .int (nI (((sp + i_3) + i_266) + 1)), .int (-1), .int (f (sp + i_3))])), (h1, .inr (9, [.ref h4, .int (nI n)])), (h4, .inl (D.1 13, 1600, .inl f)), (h2, .inl (D.1 14, 179, .inl fw))] := hD
                refine lv_goto (tgt := 120) hx hb dX6_advance_162 (by decide) ?_
                rw [show ((sp + i_3) + i_266) + 1 = (sp + i_3) + (i_266 + 1) by omega] at hP hD
                exact ih_120 () _ _ _ (by omega) ⟨(by first | omega | (dsimp only; omega)), hP.sub [0, 1, 2, 3] rfl, hD.sub [0, 1, 2, 3] (by decide) rfl, hS, lv_sub hl [0] rfl⟩
              · skip
                refine lv_if_eq (tgt := 165) hx hb dX6_advance_149 (by decide) (fun _ => ?_) (fun c_314 => (z_abs c_314 (by decide)).elim)
                refine lv_aload_n hx hb dX6_advance_165 rfl (lv_at hl 0 rfl) ?_
                refine lv_aload_n hx hb dX6_advance_166 rfl (lv_at hl 0 rfl) ?_
                refine zcV (As := []) (rest := [.ref h0]) (C := RX6) (n := 0) ⟨hx, hb, hml, hown, ht⟩ (k_X6_wordNumber l D h0 h1 h2 h3 h4 0 pl mo 1 (-1) (f (sp + i_3)) op (sp + i_3) ((sp + i_3) + i_266) n f fw (by first | decide | omega) (by first | decide | omega) (by first | decide | omega)) (zgV ml_X6_114 im_X6_wordNumber se_X6_wordNumber in_X6 co_X6_wordNumber) rfl rfl (by decide +kernel) ⟨Nat.le_of_ble_eq_true rfl, Nat.le_of_ble_eq_true rfl⟩ hK hP hS [0, 1, 2, 3] rfl 0 rfl rfl rfl rfl hl.1 rfl (Nat.le_of_ble_eq_true rfl) dX6_advance_167 ⟨Nat.le_of_ble_eq_true rfl, Nat.le_of_ble_eq_true rfl⟩ (fun r_316 H locs hw hP hS => ?_)
                refine va_put (D := D) (ci := 6) (v := .int r_316) (ty := .int) (C := RX6) (T := TX6) (N := 12) hx hb ht inX6 tyX6 tyX6_ok nmX6 hown hK hP hD hS 0 rfl rfl 10 (by decide) (ht (.fieldLink RX6 72 "CloneVolumes$Reader" "word" "I") fl_X6_72) (fun _ h9 => h9) rfl (by decide +kernel) rfl rfl (Nat.le_of_ble_eq_true rfl) dX6_advance_170 (fun H locs hP hD hS => ?_)
                have hP : va_P D vwCl [(h0, .inr (6, [.int 0, .int pl, .ref h1, .ref h2, .ref h3, .int mo, .int (nI op), .int 1, .int (nI (sp + i_3)), .int (nI ((sp + i_3) + i_266)), .int r_316, .int (f (sp + i_3))])), (h1, .inr (9, [.ref h4, .int (nI n)])), (h4, .inl (D.1 13, 1600, .inl f)), (h2, .inl (D.1 14, 179, .inl fw))] H := hP
                have hD : va_D A [(h0, .inr (6, [.int 0, .int pl, .ref h1, .ref h2, .ref h3, .int mo, .int (nI op), .int 1, .int (nI (sp + i_3)), .int (nI ((sp + i_3) + i_266)), .int r_316, .int (f (sp + i_3))])), (h1, .inr (9, [.ref h4, .int (nI n)])), (h4, .inl (D.1 13, 1600, .inl f)), (h2, .inl (D.1 14, 179, .inl fw))] := hD
                refine lv_goto (tgt := 251) hx hb dX6_advance_173 (by decide) ?_
                refine lv_aload_n hx hb dX6_advance_251 rfl (lv_at hl 0 rfl) ?_
                refine va_get (D := D) (ci := 6) (v := .ref h1) (C := RX6) (T := TX6) (N := 12) hx hb ht inX6 hown hK hP 0 rfl rfl 2 (by decide) (ht (.fieldLink RX6 27 "CloneVolumes$Reader" "tape" "LCloneVolumes$Tape;") fl_X6_27) (fun _ h9 => h9) rfl dX6_advance_252 ?_
                refine lv_aload_n hx hb dX6_advance_255 rfl (lv_at hl 0 rfl) ?_
                refine va_get (D := D) (ci := 6) (v := .int (nI (sp + i_3))) (C := RX6) (T := TX6) (N := 12) hx hb ht inX6 hown hK hP 0 rfl rfl 8 (by decide) (ht (.fieldLink RX6 51 "CloneVolumes$Reader" "start" "I") fl_X6_51) (fun _ h9 => h9) rfl dX6_advance_256 ?_
                refine lv_iconst (v := 1) hx hb dX6_advance_259 (by decide) ?_
                refine lv_isub hx hb dX6_advance_260 ?_
                refine lv_topi (fun x_317 ex_317 => ?_)
                refine zcV (As := [.int x_317]) (rest := []) (C := RX9) (n := 1) ⟨hx, hb, hml, hown, ht⟩ (k_X9_at l D h1 h4 n f x_317 (by first | decide | omega)) (zgV ml_X6_104 im_X9_at se_X9_at in_X9 co_X9_at) rfl rfl (by decide +kernel) ⟨Nat.le_of_ble_eq_true rfl, Nat.le_of_ble_eq_true rfl⟩ hK hP hS [1, 2] rfl 0 rfl rfl rfl rfl hl.1 rfl (Nat.le_of_ble_eq_true rfl) dX6_advance_261 ⟨Nat.le_of_ble_eq_true rfl, Nat.le_of_ble_eq_true rfl⟩ (fun r_318 H locs hw hP hS => ?_)
                rcases hw with ⟨rfl, g_319⟩ | ⟨rfl, g_320⟩
                · skip
                  refine lv_istore_n (lv' := [(1, .int (f x_317.toNatClampNeg)), (0, .ref h0)]) hx hb dX6_advance_264 rfl hl (by decide) rfl (fun ls hl => ?_)
                  refine lv_aload_n hx hb dX6_advance_265 rfl (lv_at hl 1 rfl) ?_
                  refine va_get (D := D) (ci := 6) (v := .int 1) (C := RX6) (T := TX6) (N := 12) hx hb ht inX6 hown hK hP 0 rfl rfl 7 (by decide) (ht (.fieldLink RX6 44 "CloneVolumes$Reader" "kind" "I") fl_X6_44) (fun _ h9 => h9) rfl dX6_advance_266 ?_
                  refine lv_iconst (v := 1) hx hb dX6_advance_269 (by decide) ?_
                  refine lv_icmp_eq (tgt := 281) hx hb dX6_advance_270 (by decide) (fun _ => ?_) (fun c_321 => (z_abs c_321 (by decide)).elim)
                  refine lv_iload_n hx hb dX6_advance_281 rfl (lv_at hl 0 rfl) ?_
                  refine zcS (As := [.int (f x_317.toNatClampNeg)]) (rest := []) (n := 1) ⟨hx, hb, hml, hown, ht⟩ (k_X6_isLetter l D (f x_317.toNatClampNeg)) (zgT ml_X6_111 st_X6_isLetter in_X6 co_X6_isLetter) rfl rfl (by decide +kernel) ⟨Nat.le_of_ble_eq_true rfl, Nat.le_of_ble_eq_true rfl⟩ hK hP hS [] rfl rfl hl.1 rfl (Nat.le_of_ble_eq_true rfl) dX6_advance_282 ⟨Nat.le_of_ble_eq_true rfl, Nat.le_of_ble_eq_true rfl⟩ (fun r_323 H locs hw hP hS => ?_)
                  rcases hw with ⟨rfl, g_324⟩ | ⟨rfl, g_325⟩
                  · skip
                    refine lv_if_ne (tgt := 295) hx hb dX6_advance_285 (by decide) (fun _ => ?_) (fun c_326 => (z_abs c_326 (by decide)).elim)
                    refine lv_aload_n hx hb dX6_advance_295 rfl (lv_at hl 1 rfl) ?_
                    refine lv_iconst (v := 4) hx hb dX6_advance_296 (by decide) ?_
                    refine va_put (D := D) (ci := 6) (v := .int 4) (ty := .int) (C := RX6) (T := TX6) (N := 12) hx hb ht inX6 tyX6 tyX6_ok nmX6 hown hK hP hD hS 0 rfl rfl 7 (by decide) (ht (.fieldLink RX6 44 "CloneVolumes$Reader" "kind" "I") fl_X6_44) (fun _ h9 => h9) rfl (by decide +kernel) rfl rfl (Nat.le_of_ble_eq_true rfl) dX6_advance_297 (fun H locs hP hD hS => ?_)
                    have hP : va_P D vwCl [(h0, .inr (6, [.int 0, .int pl, .ref h1, .ref h2, .ref h3, .int mo, .int (nI op), .int 4, .int (nI (sp + i_3)), .int (nI ((sp + i_3) + i_266)), .int r_316, .int (f (sp + i_3))])), (h1, .inr (9, [.ref h4, .int (nI n)])), (h4, .inl (D.1 13, 1600, .inl f)), (h2, .inl (D.1 14, 179, .inl fw))] H := hP
                    have hD : va_D A [(h0, .inr (6, [.int 0, .int pl, .ref h1, .ref h2, .ref h3, .int mo, .int (nI op), .int 4, .int (nI (sp + i_3)), .int (nI ((sp + i_3) + i_266)), .int r_316, .int (f (sp + i_3))])), (h1, .inr (9, [.ref h4, .int (nI n)])), (h4, .inl (D.1 13, 1600, .inl f)), (h2, .inl (D.1 14, 179, .inl fw))] := hD
                    have hP9 := hP.sub (ws' := [(h0, .inr (6, [.int 0, .int pl, .ref h1, .ref h2, .ref h3, .int mo, .int (nI op), .int 4, .int (nI (sp + i_3)), .int (nI ((sp + i_3) + i_266)), .int r_316, .int (f (sp + i_3))])), (h1, .inr (9, [.ref h4, .int (nI n)])), (h4, .inl (D.1 13, 1600, .inl f)), (h2, .inl (D.1 14, 179, .inl fw))]) [0, 1, 2, 3] rfl
                    have hD9 := hD.sub (ws' := [(h0, .inr (6, [.int 0, .int pl, .ref h1, .ref h2, .ref h3, .int mo, .int (nI op), .int 4, .int (nI (sp + i_3)), .int (nI ((sp + i_3) + i_266)), .int r_316, .int (f (sp + i_3))])), (h1, .inr (9, [.ref h4, .int (nI n)])), (h4, .inl (D.1 13, 1600, .inl f)), (h2, .inl (D.1 14, 179, .inl fw))]) [0, 1, 2, 3] (by decide) rfl
                    refine W.widen (k := 0) (n := 0) (Nat.le_of_ble_eq_true rfl) (Nat.le_of_ble_eq_true rfl) ?_
                    exact W.vret hx hb hr (fun t ht hW => ⟨⟨(4, (sp + i_3), ((sp + i_3) + i_266), r_316, (f (sp + i_3))), rfl, (by first | omega | (dsimp only; omega)), by rw [ht]; exact hP9, va_K.moved hW.alike hK, hD9⟩, hS.F ht⟩) hS.2.2 dX6_advance_300
                  · skip
                    refine lv_if_ne (tgt := 295) hx hb dX6_advance_285 (by decide) (fun c_328 => (z_abs c_328 (by decide)).elim) (fun _ => ?_)
                    refine lv_iload_n hx hb dX6_advance_288 rfl (lv_at hl 0 rfl) ?_
                    refine zcS (As := [.int (f x_317.toNatClampNeg)]) (rest := []) (n := 1) ⟨hx, hb, hml, hown, ht⟩ (k_X6_isDigit l D (f x_317.toNatClampNeg)) (zgT ml_X6_118 st_X6_isDigit in_X6 co_X6_isDigit) rfl rfl (by decide +kernel) ⟨Nat.le_of_ble_eq_true rfl, Nat.le_of_ble_eq_true rfl⟩ hK hP hS [] rfl rfl hl.1 rfl (Nat.le_of_ble_eq_true rfl) dX6_advance_289 ⟨Nat.le_of_ble_eq_true rfl, Nat.le_of_ble_eq_true rfl⟩ (fun r_330 H locs hw hP hS => ?_)
                    rcases hw with ⟨rfl, g_331⟩ | ⟨rfl, g_332⟩
                    · skip
                      refine lv_if_eq (tgt := 300) hx hb dX6_advance_292 (by decide) (fun c_333 => (z_abs c_333 (by decide)).elim) (fun _ => ?_)
                      refine lv_aload_n hx hb dX6_advance_295 rfl (lv_at hl 1 rfl) ?_
                      refine lv_iconst (v := 4) hx hb dX6_advance_296 (by decide) ?_
                      refine va_put (D := D) (ci := 6) (v := .int 4) (ty := .int) (C := RX6) (T := TX6) (N := 12) hx hb ht inX6 tyX6 tyX6_ok nmX6 hown hK hP hD hS 0 rfl rfl 7 (by decide) (ht (.fieldLink RX6 44 "CloneVolumes$Reader" "kind" "I") fl_X6_44) (fun _ h9 => h9) rfl (by decide +kernel) rfl rfl (Nat.le_of_ble_eq_true rfl) dX6_advance_297 (fun H locs hP hD hS => ?_)
                      have hP : va_P D vwCl [(h0, .inr (6, [.int 0, .int pl, .ref h1, .ref h2, .ref h3, .int mo, .int (nI op), .int 4, .int (nI (sp + i_3)), .int (nI ((sp + i_3) + i_266)), .int r_316, .int (f (sp + i_3))])), (h1, .inr (9, [.ref h4, .int (nI n)])), (h4, .inl (D.1 13, 1600, .inl f)), (h2, .inl (D.1 14, 179, .inl fw))] H := hP
                      have hD : va_D A [(h0, .inr (6, [.int 0, .int pl, .ref h1, .ref h2, .ref h3, .int mo, .int (nI op), .int 4, .int (nI (sp + i_3)), .int (nI ((sp + i_3) + i_266)), .int r_316, .int (f (sp + i_3))])), (h1, .inr (9, [.ref h4, .int (nI n)])), (h4, .inl (D.1 13, 1600, .inl f)), (h2, .inl (D.1 14, 179, .inl fw))] := hD
                      have hP9 := hP.sub (ws' := [(h0, .inr (6, [.int 0, .int pl, .ref h1, .ref h2, .ref h3, .int mo, .int (nI op), .int 4, .int (nI (sp + i_3)), .int (nI ((sp + i_3) + i_266)), .int r_316, .int (f (sp + i_3))])), (h1, .inr (9, [.ref h4, .int (nI n)])), (h4, .inl (D.1 13, 1600, .inl f)), (h2, .inl (D.1 14, 179, .inl fw))]) [0, 1, 2, 3] rfl
                      have hD9 := hD.sub (ws' := [(h0, .inr (6, [.int 0, .int pl, .ref h1, .ref h2, .ref h3, .int mo, .int (nI op), .int 4, .int (nI (sp + i_3)), .int (nI ((sp + i_3) + i_266)), .int r_316, .int (f (sp + i_3))])), (h1, .inr (9, [.ref h4, .int (nI n)])), (h4, .inl (D.1 13, 1600, .inl f)), (h2, .inl (D.1 14, 179, .inl fw))]) [0, 1, 2, 3] (by decide) rfl
                      refine W.widen (k := 0) (n := 0) (Nat.le_of_ble_eq_true rfl) (Nat.le_of_ble_eq_true rfl) ?_
                      exact W.vret hx hb hr (fun t ht hW => ⟨⟨(4, (sp + i_3), ((sp + i_3) + i_266), r_316, (f (sp + i_3))), rfl, (by first | omega | (dsimp only; omega)), by rw [ht]; exact hP9, va_K.moved hW.alike hK, hD9⟩, hS.F ht⟩) hS.2.2 dX6_advance_300
                    · skip
                      refine lv_if_eq (tgt := 300) hx hb dX6_advance_292 (by decide) (fun _ => ?_) (fun c_335 => (z_abs c_335 (by decide)).elim)
                      have hP9 := hP.sub (ws' := [(h0, .inr (6, [.int 0, .int pl, .ref h1, .ref h2, .ref h3, .int mo, .int (nI op), .int 1, .int (nI (sp + i_3)), .int (nI ((sp + i_3) + i_266)), .int r_316, .int (f (sp + i_3))])), (h1, .inr (9, [.ref h4, .int (nI n)])), (h4, .inl (D.1 13, 1600, .inl f)), (h2, .inl (D.1 14, 179, .inl fw))]) [0, 1, 2, 3] rfl
                      have hD9 := hD.sub (ws' := [(h0, .inr (6, [.int 0, .int pl, .ref h1, .ref h2, .ref h3, .int mo, .int (nI op), .int 1, .int (nI (sp + i_3)), .int (nI ((sp + i_3) + i_266)), .int r_316, .int (f (sp + i_3))])), (h1, .inr (9, [.ref h4, .int (nI n)])), (h4, .inl (D.1 13, 1600, .inl f)), (h2, .inl (D.1 14, 179, .inl fw))]) [0, 1, 2, 3] (by decide) rfl
                      refine W.widen (k := 0) (n := 0) (Nat.le_of_ble_eq_true rfl) (Nat.le_of_ble_eq_true rfl) ?_
                      exact W.vret hx hb hr (fun t ht hW => ⟨⟨(1, (sp + i_3), ((sp + i_3) + i_266), r_316, (f (sp + i_3))), rfl, (by first | omega | (dsimp only; omega)), by rw [ht]; exact hP9, va_K.moved hW.alike hK, hD9⟩, hS.F ht⟩) hS.2.2 dX6_advance_300
                · skip
                  refine lv_istore_n (lv' := [(1, .int (-1)), (0, .ref h0)]) hx hb dX6_advance_264 rfl hl (by decide) rfl (fun ls hl => ?_)
                  refine lv_aload_n hx hb dX6_advance_265 rfl (lv_at hl 1 rfl) ?_
                  refine va_get (D := D) (ci := 6) (v := .int 1) (C := RX6) (T := TX6) (N := 12) hx hb ht inX6 hown hK hP 0 rfl rfl 7 (by decide) (ht (.fieldLink RX6 44 "CloneVolumes$Reader" "kind" "I") fl_X6_44) (fun _ h9 => h9) rfl dX6_advance_266 ?_
                  refine lv_iconst (v := 1) hx hb dX6_advance_269 (by decide) ?_
                  refine lv_icmp_eq (tgt := 281) hx hb dX6_advance_270 (by decide) (fun _ => ?_) (fun c_337 => (z_abs c_337 (by decide)).elim)
                  refine lv_iload_n hx hb dX6_advance_281 rfl (lv_at hl 0 rfl) ?_
                  have en_339 : ((-1) : Int32).toInt = (-1) := by decide
                  refine zcS (As := [.int (-1)]) (rest := []) (n := 1) ⟨hx, hb, hml, hown, ht⟩ (k_X6_isLetter l D (-1)) (zgT ml_X6_111 st_X6_isLetter in_X6 co_X6_isLetter) rfl rfl (by decide +kernel) ⟨Nat.le_of_ble_eq_true rfl, Nat.le_of_ble_eq_true rfl⟩ hK hP hS [] rfl rfl hl.1 rfl (Nat.le_of_ble_eq_true rfl) dX6_advance_282 ⟨Nat.le_of_ble_eq_true rfl, Nat.le_of_ble_eq_true rfl⟩ (fun r_340 H locs hw hP hS => ?_)
                  rcases hw with ⟨rfl, g_341⟩ | ⟨rfl, g_342⟩
                  · skip
                    refine lv_if_ne (tgt := 295) hx hb dX6_advance_285 (by decide) (fun _ => ?_) (fun c_343 => (z_abs c_343 (by decide)).elim)
                    refine lv_aload_n hx hb dX6_advance_295 rfl (lv_at hl 1 rfl) ?_
                    refine lv_iconst (v := 4) hx hb dX6_advance_296 (by decide) ?_
                    refine va_put (D := D) (ci := 6) (v := .int 4) (ty := .int) (C := RX6) (T := TX6) (N := 12) hx hb ht inX6 tyX6 tyX6_ok nmX6 hown hK hP hD hS 0 rfl rfl 7 (by decide) (ht (.fieldLink RX6 44 "CloneVolumes$Reader" "kind" "I") fl_X6_44) (fun _ h9 => h9) rfl (by decide +kernel) rfl rfl (Nat.le_of_ble_eq_true rfl) dX6_advance_297 (fun H locs hP hD hS => ?_)
                    have hP : va_P D vwCl [(h0, .inr (6, [.int 0, .int pl, .ref h1, .ref h2, .ref h3, .int mo, .int (nI op), .int 4, .int (nI (sp + i_3)), .int (nI ((sp + i_3) + i_266)), .int r_316, .int (f (sp + i_3))])), (h1, .inr (9, [.ref h4, .int (nI n)])), (h4, .inl (D.1 13, 1600, .inl f)), (h2, .inl (D.1 14, 179, .inl fw))] H := hP
                    have hD : va_D A [(h0, .inr (6, [.int 0, .int pl, .ref h1, .ref h2, .ref h3, .int mo, .int (nI op), .int 4, .int (nI (sp + i_3)), .int (nI ((sp + i_3) + i_266)), .int r_316, .int (f (sp + i_3))])), (h1, .inr (9, [.ref h4, .int (nI n)])), (h4, .inl (D.1 13, 1600, .inl f)), (h2, .inl (D.1 14, 179, .inl fw))] := hD
                    have hP9 := hP.sub (ws' := [(h0, .inr (6, [.int 0, .int pl, .ref h1, .ref h2, .ref h3, .int mo, .int (nI op), .int 4, .int (nI (sp + i_3)), .int (nI ((sp + i_3) + i_266)), .int r_316, .int (f (sp + i_3))])), (h1, .inr (9, [.ref h4, .int (nI n)])), (h4, .inl (D.1 13, 1600, .inl f)), (h2, .inl (D.1 14, 179, .inl fw))]) [0, 1, 2, 3] rfl
                    have hD9 := hD.sub (ws' := [(h0, .inr (6, [.int 0, .int pl, .ref h1, .ref h2, .ref h3, .int mo, .int (nI op), .int 4, .int (nI (sp + i_3)), .int (nI ((sp + i_3) + i_266)), .int r_316, .int (f (sp + i_3))])), (h1, .inr (9, [.ref h4, .int (nI n)])), (h4, .inl (D.1 13, 1600, .inl f)), (h2, .inl (D.1 14, 179, .inl fw))]) [0, 1, 2, 3] (by decide) rfl
                    refine W.widen (k := 0) (n := 0) (Nat.le_of_ble_eq_true rfl) (Nat.le_of_ble_eq_true rfl) ?_
                    exact W.vret hx hb hr (fun t ht hW => ⟨⟨(4, (sp + i_3), ((sp + i_3) + i_266), r_316, (f (sp + i_3))), rfl, (by first | omega | (dsimp only; omega)), by rw [ht]; exact hP9, va_K.moved hW.alike hK, hD9⟩, hS.F ht⟩) hS.2.2 dX6_advance_300
                  · skip
                    refine lv_if_ne (tgt := 295) hx hb dX6_advance_285 (by decide) (fun c_345 => (z_abs c_345 (by decide)).elim) (fun _ => ?_)
                    refine lv_iload_n hx hb dX6_advance_288 rfl (lv_at hl 0 rfl) ?_
                    have en_347 : ((-1) : Int32).toInt = (-1) := by decide
                    refine zcS (As := [.int (-1)]) (rest := []) (n := 1) ⟨hx, hb, hml, hown, ht⟩ (k_X6_isDigit l D (-1)) (zgT ml_X6_118 st_X6_isDigit in_X6 co_X6_isDigit) rfl rfl (by decide +kernel) ⟨Nat.le_of_ble_eq_true rfl, Nat.le_of_ble_eq_true rfl⟩ hK hP hS [] rfl rfl hl.1 rfl (Nat.le_of_ble_eq_true rfl) dX6_advance_289 ⟨Nat.le_of_ble_eq_true rfl, Nat.le_of_ble_eq_true rfl⟩ (fun r_348 H locs hw hP hS => ?_)
                    rcases hw with ⟨rfl, g_349⟩ | ⟨rfl, g_350⟩
                    · skip
                      refine lv_if_eq (tgt := 300) hx hb dX6_advance_292 (by decide) (fun c_351 => (z_abs c_351 (by decide)).elim) (fun _ => ?_)
                      refine lv_aload_n hx hb dX6_advance_295 rfl (lv_at hl 1 rfl) ?_
                      refine lv_iconst (v := 4) hx hb dX6_advance_296 (by decide) ?_
                      refine va_put (D := D) (ci := 6) (v := .int 4) (ty := .int) (C := RX6) (T := TX6) (N := 12) hx hb ht inX6 tyX6 tyX6_ok nmX6 hown hK hP hD hS 0 rfl rfl 7 (by decide) (ht (.fieldLink RX6 44 "CloneVolumes$Reader" "kind" "I") fl_X6_44) (fun _ h9 => h9) rfl (by decide +kernel) rfl rfl (Nat.le_of_ble_eq_true rfl) dX6_advance_297 (fun H locs hP hD hS => ?_)
                      have hP : va_P D vwCl [(h0, .inr (6, [.int 0, .int pl, .ref h1, .ref h2, .ref h3, .int mo, .int (nI op), .int 4, .int (nI (sp + i_3)), .int (nI ((sp + i_3) + i_266)), .int r_316, .int (f (sp + i_3))])), (h1, .inr (9, [.ref h4, .int (nI n)])), (h4, .inl (D.1 13, 1600, .inl f)), (h2, .inl (D.1 14, 179, .inl fw))] H := hP
                      have hD : va_D A [(h0, .inr (6, [.int 0, .int pl, .ref h1, .ref h2, .ref h3, .int mo, .int (nI op), .int 4, .int (nI (sp + i_3)), .int (nI ((sp + i_3) + i_266)), .int r_316, .int (f (sp + i_3))])), (h1, .inr (9, [.ref h4, .int (nI n)])), (h4, .inl (D.1 13, 1600, .inl f)), (h2, .inl (D.1 14, 179, .inl fw))] := hD
                      have hP9 := hP.sub (ws' := [(h0, .inr (6, [.int 0, .int pl, .ref h1, .ref h2, .ref h3, .int mo, .int (nI op), .int 4, .int (nI (sp + i_3)), .int (nI ((sp + i_3) + i_266)), .int r_316, .int (f (sp + i_3))])), (h1, .inr (9, [.ref h4, .int (nI n)])), (h4, .inl (D.1 13, 1600, .inl f)), (h2, .inl (D.1 14, 179, .inl fw))]) [0, 1, 2, 3] rfl
                      have hD9 := hD.sub (ws' := [(h0, .inr (6, [.int 0, .int pl, .ref h1, .ref h2, .ref h3, .int mo, .int (nI op), .int 4, .int (nI (sp + i_3)), .int (nI ((sp + i_3) + i_266)), .int r_316, .int (f (sp + i_3))])), (h1, .inr (9, [.ref h4, .int (nI n)])), (h4, .inl (D.1 13, 1600, .inl f)), (h2, .inl (D.1 14, 179, .inl fw))]) [0, 1, 2, 3] (by decide) rfl
                      refine W.widen (k := 0) (n := 0) (Nat.le_of_ble_eq_true rfl) (Nat.le_of_ble_eq_true rfl) ?_
                      exact W.vret hx hb hr (fun t ht hW => ⟨⟨(4, (sp + i_3), ((sp + i_3) + i_266), r_316, (f (sp + i_3))), rfl, (by first | omega | (dsimp only; omega)), by rw [ht]; exact hP9, va_K.moved hW.alike hK, hD9⟩, hS.F ht⟩) hS.2.2 dX6_advance_300
                    · skip
                      refine lv_if_eq (tgt := 300) hx hb dX6_advance_292 (by decide) (fun _ => ?_) (fun c_353 => (z_abs c_353 (by decide)).elim)
                      have hP9 := hP.sub (ws' := [(h0, .inr (6, [.int 0, .int pl, .ref h1, .ref h2, .ref h3, .int mo, .int (nI op), .int 1, .int (nI (sp + i_3)), .int (nI ((sp + i_3) + i_266)), .int r_316, .int (f (sp + i_3))])), (h1, .inr (9, [.ref h4, .int (nI n)])), (h4, .inl (D.1 13, 1600, .inl f)), (h2, .inl (D.1 14, 179, .inl fw))]) [0, 1, 2, 3] rfl
                      have hD9 := hD.sub (ws' := [(h0, .inr (6, [.int 0, .int pl, .ref h1, .ref h2, .ref h3, .int mo, .int (nI op), .int 1, .int (nI (sp + i_3)), .int (nI ((sp + i_3) + i_266)), .int r_316, .int (f (sp + i_3))])), (h1, .inr (9, [.ref h4, .int (nI n)])), (h4, .inl (D.1 13, 1600, .inl f)), (h2, .inl (D.1 14, 179, .inl fw))]) [0, 1, 2, 3] (by decide) rfl
                      refine W.widen (k := 0) (n := 0) (Nat.le_of_ble_eq_true rfl) (Nat.le_of_ble_eq_true rfl) ?_
                      exact W.vret hx hb hr (fun t ht hW => ⟨⟨(1, (sp + i_3), ((sp + i_3) + i_266), r_316, (f (sp + i_3))), rfl, (by first | omega | (dsimp only; omega)), by rw [ht]; exact hP9, va_K.moved hW.alike hK, hD9⟩, hS.F ht⟩) hS.2.2 dX6_advance_300
          · skip
            refine lv_if_eq (tgt := 176) hx hb dX6_advance_112 (by decide) (fun _ => ?_) (fun c_355 => (z_abs c_355 (by decide)).elim)
            refine lv_aload_n hx hb dX6_advance_176 rfl (lv_at hl 0 rfl) ?_
            refine va_get (D := D) (ci := 6) (v := .int (f (sp + i_3))) (C := RX6) (T := TX6) (N := 12) hx hb ht inX6 hown hK hP 0 rfl rfl 11 (by decide) (ht (.fieldLink RX6 108 "CloneVolumes$Reader" "sign" "I") fl_X6_108) (fun _ h9 => h9) rfl dX6_advance_177 ?_
            refine zcS (As := [.int (f (sp + i_3))]) (rest := []) (n := 1) ⟨hx, hb, hml, hown, ht⟩ (k_X6_isDigit l D (f (sp + i_3))) (zgT ml_X6_118 st_X6_isDigit in_X6 co_X6_isDigit) rfl rfl (by decide +kernel) ⟨Nat.le_of_ble_eq_true rfl, Nat.le_of_ble_eq_true rfl⟩ hK hP hS [] rfl rfl hl.1 rfl (Nat.le_of_ble_eq_true rfl) dX6_advance_180 ⟨Nat.le_of_ble_eq_true rfl, Nat.le_of_ble_eq_true rfl⟩ (fun r_357 H locs hw hP hS => ?_)
            rcases hw with ⟨rfl, g_358⟩ | ⟨rfl, g_359⟩
            · skip
              refine lv_if_eq (tgt := 236) hx hb dX6_advance_183 (by decide) (fun c_360 => (z_abs c_360 (by decide)).elim) (fun _ => ?_)
              refine lv_aload_n hx hb dX6_advance_186 rfl (lv_at hl 0 rfl) ?_
              refine lv_iconst (v := 2) hx hb dX6_advance_187 (by decide) ?_
              refine va_put (D := D) (ci := 6) (v := .int 2) (ty := .int) (C := RX6) (T := TX6) (N := 12) hx hb ht inX6 tyX6 tyX6_ok nmX6 hown hK hP hD hS 0 rfl rfl 7 (by decide) (ht (.fieldLink RX6 44 "CloneVolumes$Reader" "kind" "I") fl_X6_44) (fun _ h9 => h9) rfl (by decide +kernel) rfl rfl (Nat.le_of_ble_eq_true rfl) dX6_advance_188 (fun H locs hP hD hS => ?_)
              have hP : va_P D vwCl [(h0, .inr (6, [.int 0, .int pl, .ref h1, .ref h2, .ref h3, .int mo, .int (nI op), .int 2, .int (nI (sp + i_3)), .int (nI (sp + i_3)), .int (-1), .int (f (sp + i_3))])), (h1, .inr (9, [.ref h4, .int (nI n)])), (h4, .inl (D.1 13, 1600, .inl f)), (h2, .inl (D.1 14, 179, .inl fw))] H := hP
              have hD : va_D A [(h0, .inr (6, [.int 0, .int pl, .ref h1, .ref h2, .ref h3, .int mo, .int (nI op), .int 2, .int (nI (sp + i_3)), .int (nI (sp + i_3)), .int (-1), .int (f (sp + i_3))])), (h1, .inr (9, [.ref h4, .int (nI n)])), (h4, .inl (D.1 13, 1600, .inl f)), (h2, .inl (D.1 14, 179, .inl fw))] := hD
              refine z_loop (σ := Unit) (N := 1600) (fun i u H locs ls => ((sp + i_3) + i ≤ n) ∧ va_P D vwCl [(h0, .inr (6, [.int 0, .int pl, .ref h1, .ref h2, .ref h3, .int mo, .int (nI op), .int 2, .int (nI (sp + i_3)), .int (nI ((sp + i_3) + i)), .int (-1), .int (f (sp + i_3))])), (h1, .inr (9, [.ref h4, .int (nI n)])), (h4, .inl (D.1 13, 1600, .inl f)), (h2, .inl (D.1 14, 179, .inl fw))] H ∧ va_D A [(h0, .inr (6, [.int 0, .int pl, .ref h1, .ref h2, .ref h3, .int mo, .int (nI op), .int 2, .int (nI (sp + i_3)), .int (nI ((sp + i_3) + i)), .int (-1), .int (f (sp + i_3))])), (h1, .inr (9, [.ref h4, .int (nI n)])), (h4, .inl (D.1 13, 1600, .inl f)), (h2, .inl (D.1 14, 179, .inl fw))] ∧ va_S A s.heap H locs ∧ lv_has ls 2 [(0, .ref h0)]) (fun i_362 _u H locs ls hi_i_362 hI ih_191 => ?_) 0 () (by decide) ⟨(by first | omega | (dsimp only; omega)), hP, hD, hS, lv_sub hl [0] rfl⟩
              obtain ⟨hv_i_362, hP, hD, hS, hl⟩ := hI
              have hv_i_362 : (sp + i_3) + i_362 ≤ n := hv_i_362
              have hP : va_P D vwCl [(h0, .inr (6, [.int 0, .int pl, .ref h1, .ref h2, .ref h3, .int mo, .int (nI op), .int 2, .int (nI (sp + i_3)), .int (nI ((sp + i_3) + i_362)), .int (-1), .int (f (sp + i_3))])), (h1, .inr (9, [.ref h4, .int (nI n)])), (h4, .inl (D.1 13, 1600, .inl f)), (h2, .inl (D.1 14, 179, .inl fw))] H := hP
              have hD : va_D A [(h0, .inr (6, [.int 0, .int pl, .ref h1, .ref h2, .ref h3, .int mo, .int (nI op), .int 2, .int (nI (sp + i_3)), .int (nI ((sp + i_3) + i_362)), .int (-1), .int (f (sp + i_3))])), (h1, .inr (9, [.ref h4, .int (nI n)])), (h4, .inl (D.1 13, 1600, .inl f)), (h2, .inl (D.1 14, 179, .inl fw))] := hD
              have hl : lv_has ls 2 [(0, .ref h0)] := hl
              have hz_363 : i_362 = 0 → (f ((sp + i_3) + i_362)).toInt = (f ((sp + i_3))).toInt := fun h => by rw [h]; rfl
              refine lv_aload_n hx hb dX6_advance_191 rfl (lv_at hl 0 rfl) ?_
              refine va_get (D := D) (ci := 6) (v := .int (nI ((sp + i_3) + i_362))) (C := RX6) (T := TX6) (N := 12) hx hb ht inX6 hown hK hP 0 rfl rfl 9 (by decide) (ht (.fieldLink RX6 88 "CloneVolumes$Reader" "stop" "I") fl_X6_88) (fun _ h9 => h9) rfl dX6_advance_192 ?_
              refine lv_aload_n hx hb dX6_advance_195 rfl (lv_at hl 0 rfl) ?_
              refine va_get (D := D) (ci := 6) (v := .ref h1) (C := RX6) (T := TX6) (N := 12) hx hb ht inX6 hown hK hP 0 rfl rfl 2 (by decide) (ht (.fieldLink RX6 27 "CloneVolumes$Reader" "tape" "LCloneVolumes$Tape;") fl_X6_27) (fun _ h9 => h9) rfl dX6_advance_196 ?_
              refine va_get (D := D) (ci := 9) (v := .int (nI n)) (C := RX9) (T := TX9) (N := 2) hx hb ht inX9 hown hK hP 1 rfl rfl 1 (by decide) (ht (.fieldLink RX6 91 "CloneVolumes$Tape" "length" "I") fl_X6_91) (fun _ h9 => h9) rfl dX6_advance_199 ?_
              refine lv_icmp_ge (tgt := 251) hx hb dX6_advance_202 (by decide) (fun c_364 => ?_) (fun c_364 => ?_)
              · have g_365 : ((n : Nat) : Int) ≤ (((sp + i_3) + i_362 : Nat) : Int) := z_le (nI_toInt (by omega)) (nI_toInt (by omega)) c_364
                refine lv_aload_n hx hb dX6_advance_251 rfl (lv_at hl 0 rfl) ?_
                refine va_get (D := D) (ci := 6) (v := .ref h1) (C := RX6) (T := TX6) (N := 12) hx hb ht inX6 hown hK hP 0 rfl rfl 2 (by decide) (ht (.fieldLink RX6 27 "CloneVolumes$Reader" "tape" "LCloneVolumes$Tape;") fl_X6_27) (fun _ h9 => h9) rfl dX6_advance_252 ?_
                refine lv_aload_n hx hb dX6_advance_255 rfl (lv_at hl 0 rfl) ?_
                refine va_get (D := D) (ci := 6) (v := .int (nI (sp + i_3))) (C := RX6) (T := TX6) (N := 12) hx hb ht inX6 hown hK hP 0 rfl rfl 8 (by decide) (ht (.fieldLink RX6 51 "CloneVolumes$Reader" "start" "I") fl_X6_51) (fun _ h9 => h9) rfl dX6_advance_256 ?_
                refine lv_iconst (v := 1) hx hb dX6_advance_259 (by decide) ?_
                refine lv_isub hx hb dX6_advance_260 ?_
                refine lv_topi (fun x_366 ex_366 => ?_)
                refine zcV (As := [.int x_366]) (rest := []) (C := RX9) (n := 1) ⟨hx, hb, hml, hown, ht⟩ (k_X9_at l D h1 h4 n f x_366 (by first | decide | omega)) (zgV ml_X6_104 im_X9_at se_X9_at in_X9 co_X9_at) rfl rfl (by decide +kernel) ⟨Nat.le_of_ble_eq_true rfl, Nat.le_of_ble_eq_true rfl⟩ hK hP hS [1, 2] rfl 0 rfl rfl rfl rfl hl.1 rfl (Nat.le_of_ble_eq_true rfl) dX6_advance_261 ⟨Nat.le_of_ble_eq_true rfl, Nat.le_of_ble_eq_true rfl⟩ (fun r_367 H locs hw hP hS => ?_)
                rcases hw with ⟨rfl, g_368⟩ | ⟨rfl, g_369⟩
                · skip
                  refine lv_istore_n (lv' := [(1, .int (f x_366.toNatClampNeg)), (0, .ref h0)]) hx hb dX6_advance_264 rfl hl (by decide) rfl (fun ls hl => ?_)
                  refine lv_aload_n hx hb dX6_advance_265 rfl (lv_at hl 1 rfl) ?_
                  refine va_get (D := D) (ci := 6) (v := .int 2) (C := RX6) (T := TX6) (N := 12) hx hb ht inX6 hown hK hP 0 rfl rfl 7 (by decide) (ht (.fieldLink RX6 44 "CloneVolumes$Reader" "kind" "I") fl_X6_44) (fun _ h9 => h9) rfl dX6_advance_266 ?_
                  refine lv_iconst (v := 1) hx hb dX6_advance_269 (by decide) ?_
                  refine lv_icmp_eq (tgt := 281) hx hb dX6_advance_270 (by decide) (fun c_370 => (z_abs c_370 (by decide)).elim) (fun _ => ?_)
                  refine lv_aload_n hx hb dX6_advance_273 rfl (lv_at hl 1 rfl) ?_
                  refine va_get (D := D) (ci := 6) (v := .int 2) (C := RX6) (T := TX6) (N := 12) hx hb ht inX6 hown hK hP 0 rfl rfl 7 (by decide) (ht (.fieldLink RX6 44 "CloneVolumes$Reader" "kind" "I") fl_X6_44) (fun _ h9 => h9) rfl dX6_advance_274 ?_
                  refine lv_iconst (v := 2) hx hb dX6_advance_277 (by decide) ?_
                  refine lv_icmp_ne (tgt := 300) hx hb dX6_advance_278 (by decide) (fun c_372 => (z_abs c_372 (by decide)).elim) (fun _ => ?_)
                  refine lv_iload_n hx hb dX6_advance_281 rfl (lv_at hl 0 rfl) ?_
                  refine zcS (As := [.int (f x_366.toNatClampNeg)]) (rest := []) (n := 1) ⟨hx, hb, hml, hown, ht⟩ (k_X6_isLetter l D (f x_366.toNatClampNeg)) (zgT ml_X6_111 st_X6_isLetter in_X6 co_X6_isLetter) rfl rfl (by decide +kernel) ⟨Nat.le_of_ble_eq_true rfl, Nat.le_of_ble_eq_true rfl⟩ hK hP hS [] rfl rfl hl.1 rfl (Nat.le_of_ble_eq_true rfl) dX6_advance_282 ⟨Nat.le_of_ble_eq_true rfl, Nat.le_of_ble_eq_true rfl⟩ (fun r_374 H locs hw hP hS => ?_)
                  rcases hw with ⟨rfl, g_375⟩ | ⟨rfl, g_376⟩
                  · skip
                    refine lv_if_ne (tgt := 295) hx hb dX6_advance_285 (by decide) (fun _ => ?_) (fun c_377 => (z_abs c_377 (by decide)).elim)
                    refine lv_aload_n hx hb dX6_advance_295 rfl (lv_at hl 1 rfl) ?_
                    refine lv_iconst (v := 4) hx hb dX6_advance_296 (by decide) ?_
                    refine va_put (D := D) (ci := 6) (v := .int 4) (ty := .int) (C := RX6) (T := TX6) (N := 12) hx hb ht inX6 tyX6 tyX6_ok nmX6 hown hK hP hD hS 0 rfl rfl 7 (by decide) (ht (.fieldLink RX6 44 "CloneVolumes$Reader" "kind" "I") fl_X6_44) (fun _ h9 => h9) rfl (by decide +kernel) rfl rfl (Nat.le_of_ble_eq_true rfl) dX6_advance_297 (fun H locs hP hD hS => ?_)
                    have hP : va_P D vwCl [(h0, .inr (6, [.int 0, .int pl, .ref h1, .ref h2, .ref h3, .int mo, .int (nI op), .int 4, .int (nI (sp + i_3)), .int (nI ((sp + i_3) + i_362)), .int (-1), .int (f (sp + i_3))])), (h1, .inr (9, [.ref h4, .int (nI n)])), (h4, .inl (D.1 13, 1600, .inl f)), (h2, .inl (D.1 14, 179, .inl fw))] H := hP
                    have hD : va_D A [(h0, .inr (6, [.int 0, .int pl, .ref h1, .ref h2, .ref h3, .int mo, .int (nI op), .int 4, .int (nI (sp + i_3)), .int (nI ((sp + i_3) + i_362)), .int (-1), .int (f (sp + i_3))])), (h1, .inr (9, [.ref h4, .int (nI n)])), (h4, .inl (D.1 13, 1600, .inl f)), (h2, .inl (D.1 14, 179, .inl fw))] := hD
                    have hP9 := hP.sub (ws' := [(h0, .inr (6, [.int 0, .int pl, .ref h1, .ref h2, .ref h3, .int mo, .int (nI op), .int 4, .int (nI (sp + i_3)), .int (nI ((sp + i_3) + i_362)), .int (-1), .int (f (sp + i_3))])), (h1, .inr (9, [.ref h4, .int (nI n)])), (h4, .inl (D.1 13, 1600, .inl f)), (h2, .inl (D.1 14, 179, .inl fw))]) [0, 1, 2, 3] rfl
                    have hD9 := hD.sub (ws' := [(h0, .inr (6, [.int 0, .int pl, .ref h1, .ref h2, .ref h3, .int mo, .int (nI op), .int 4, .int (nI (sp + i_3)), .int (nI ((sp + i_3) + i_362)), .int (-1), .int (f (sp + i_3))])), (h1, .inr (9, [.ref h4, .int (nI n)])), (h4, .inl (D.1 13, 1600, .inl f)), (h2, .inl (D.1 14, 179, .inl fw))]) [0, 1, 2, 3] (by decide) rfl
                    refine W.widen (k := 0) (n := 0) (Nat.le_of_ble_eq_true rfl) (Nat.le_of_ble_eq_true rfl) ?_
                    exact W.vret hx hb hr (fun t ht hW => ⟨⟨(4, (sp + i_3), ((sp + i_3) + i_362), (-1), (f (sp + i_3))), rfl, (by first | omega | (dsimp only; omega)), by rw [ht]; exact hP9, va_K.moved hW.alike hK, hD9⟩, hS.F ht⟩) hS.2.2 dX6_advance_300
                  · skip
                    refine lv_if_ne (tgt := 295) hx hb dX6_advance_285 (by decide) (fun c_379 => (z_abs c_379 (by decide)).elim) (fun _ => ?_)
                    refine lv_iload_n hx hb dX6_advance_288 rfl (lv_at hl 0 rfl) ?_
                    refine zcS (As := [.int (f x_366.toNatClampNeg)]) (rest := []) (n := 1) ⟨hx, hb, hml, hown, ht⟩ (k_X6_isDigit l D (f x_366.toNatClampNeg)) (zgT ml_X6_118 st_X6_isDigit in_X6 co_X6_isDigit) rfl rfl (by decide +kernel) ⟨Nat.le_of_ble_eq_true rfl, Nat.le_of_ble_eq_true rfl⟩ hK hP hS [] rfl rfl hl.1 rfl (Nat.le_of_ble_eq_true rfl) dX6_advance_289 ⟨Nat.le_of_ble_eq_true rfl, Nat.le_of_ble_eq_true rfl⟩ (fun r_381 H locs hw hP hS => ?_)
                    rcases hw with ⟨rfl, g_382⟩ | ⟨rfl, g_383⟩
                    · skip
                      refine lv_if_eq (tgt := 300) hx hb dX6_advance_292 (by decide) (fun c_384 => (z_abs c_384 (by decide)).elim) (fun _ => ?_)
                      refine lv_aload_n hx hb dX6_advance_295 rfl (lv_at hl 1 rfl) ?_
                      refine lv_iconst (v := 4) hx hb dX6_advance_296 (by decide) ?_
                      refine va_put (D := D) (ci := 6) (v := .int 4) (ty := .int) (C := RX6) (T := TX6) (N := 12) hx hb ht inX6 tyX6 tyX6_ok nmX6 hown hK hP hD hS 0 rfl rfl 7 (by decide) (ht (.fieldLink RX6 44 "CloneVolumes$Reader" "kind" "I") fl_X6_44) (fun _ h9 => h9) rfl (by decide +kernel) rfl rfl (Nat.le_of_ble_eq_true rfl) dX6_advance_297 (fun H locs hP hD hS => ?_)
                      have hP : va_P D vwCl [(h0, .inr (6, [.int 0, .int pl, .ref h1, .ref h2, .ref h3, .int mo, .int (nI op), .int 4, .int (nI (sp + i_3)), .int (nI ((sp + i_3) + i_362)), .int (-1), .int (f (sp + i_3))])), (h1, .inr (9, [.ref h4, .int (nI n)])), (h4, .inl (D.1 13, 1600, .inl f)), (h2, .inl (D.1 14, 179, .inl fw))] H := hP
                      have hD : va_D A [(h0, .inr (6, [.int 0, .int pl, .ref h1, .ref h2, .ref h3, .int mo, .int (nI op), .int 4, .int (nI (sp + i_3)), .int (nI ((sp + i_3) + i_362)), .int (-1), .int (f (sp + i_3))])), (h1, .inr (9, [.ref h4, .int (nI n)])), (h4, .inl (D.1 13, 1600, .inl f)), (h2, .inl (D.1 14, 179, .inl fw))] := hD
                      have hP9 := hP.sub (ws' := [(h0, .inr (6, [.int 0, .int pl, .ref h1, .ref h2, .ref h3, .int mo, .int (nI op), .int 4, .int (nI (sp + i_3)), .int (nI ((sp + i_3) + i_362)), .int (-1), .int (f (sp + i_3))])), (h1, .inr (9, [.ref h4, .int (nI n)])), (h4, .inl (D.1 13, 1600, .inl f)), (h2, .inl (D.1 14, 179, .inl fw))]) [0, 1, 2, 3] rfl
                      have hD9 := hD.sub (ws' := [(h0, .inr (6, [.int 0, .int pl, .ref h1, .ref h2, .ref h3, .int mo, .int (nI op), .int 4, .int (nI (sp + i_3)), .int (nI ((sp + i_3) + i_362)), .int (-1), .int (f (sp + i_3))])), (h1, .inr (9, [.ref h4, .int (nI n)])), (h4, .inl (D.1 13, 1600, .inl f)), (h2, .inl (D.1 14, 179, .inl fw))]) [0, 1, 2, 3] (by decide) rfl
                      refine W.widen (k := 0) (n := 0) (Nat.le_of_ble_eq_true rfl) (Nat.le_of_ble_eq_true rfl) ?_
                      exact W.vret hx hb hr (fun t ht hW => ⟨⟨(4, (sp + i_3), ((sp + i_3) + i_362), (-1), (f (sp + i_3))), rfl, (by first | omega | (dsimp only; omega)), by rw [ht]; exact hP9, va_K.moved hW.alike hK, hD9⟩, hS.F ht⟩) hS.2.2 dX6_advance_300
                    · skip
                      refine lv_if_eq (tgt := 300) hx hb dX6_advance_292 (by decide) (fun _ => ?_) (fun c_386 => (z_abs c_386 (by decide)).elim)
                      have hP9 := hP.sub (ws' := [(h0, .inr (6, [.int 0, .int pl, .ref h1, .ref h2, .ref h3, .int mo, .int (nI op), .int 2, .int (nI (sp + i_3)), .int (nI ((sp + i_3) + i_362)), .int (-1), .int (f (sp + i_3))])), (h1, .inr (9, [.ref h4, .int (nI n)])), (h4, .inl (D.1 13, 1600, .inl f)), (h2, .inl (D.1 14, 179, .inl fw))]) [0, 1, 2, 3] rfl
                      have hD9 := hD.sub (ws' := [(h0, .inr (6, [.int 0, .int pl, .ref h1, .ref h2, .ref h3, .int mo, .int (nI op), .int 2, .int (nI (sp + i_3)), .int (nI ((sp + i_3) + i_362)), .int (-1), .int (f (sp + i_3))])), (h1, .inr (9, [.ref h4, .int (nI n)])), (h4, .inl (D.1 13, 1600, .inl f)), (h2, .inl (D.1 14, 179, .inl fw))]) [0, 1, 2, 3] (by decide) rfl
                      refine W.widen (k := 0) (n := 0) (Nat.le_of_ble_eq_true rfl) (Nat.le_of_ble_eq_true rfl) ?_
                      exact W.vret hx hb hr (fun t ht hW => ⟨⟨(2, (sp + i_3), ((sp + i_3) + i_362), (-1), (f (sp + i_3))), rfl, (by first | omega | (dsimp only; omega)), by rw [ht]; exact hP9, va_K.moved hW.alike hK, hD9⟩, hS.F ht⟩) hS.2.2 dX6_advance_300
                · skip
                  refine lv_istore_n (lv' := [(1, .int (-1)), (0, .ref h0)]) hx hb dX6_advance_264 rfl hl (by decide) rfl (fun ls hl => ?_)
                  refine lv_aload_n hx hb dX6_advance_265 rfl (lv_at hl 1 rfl) ?_
                  refine va_get (D := D) (ci := 6) (v := .int 2) (C := RX6) (T := TX6) (N := 12) hx hb ht inX6 hown hK hP 0 rfl rfl 7 (by decide) (ht (.fieldLink RX6 44 "CloneVolumes$Reader" "kind" "I") fl_X6_44) (fun _ h9 => h9) rfl dX6_advance_266 ?_
                  refine lv_iconst (v := 1) hx hb dX6_advance_269 (by decide) ?_
                  refine lv_icmp_eq (tgt := 281) hx hb dX6_advance_270 (by decide) (fun c_388 => (z_abs c_388 (by decide)).elim) (fun _ => ?_)
                  refine lv_aload_n hx hb dX6_advance_273 rfl (lv_at hl 1 rfl) ?_
                  refine va_get (D := D) (ci := 6) (v := .int 2) (C := RX6) (T := TX6) (N := 12) hx hb ht inX6 hown hK hP 0 rfl rfl 7 (by decide) (ht (.fieldLink RX6 44 "CloneVolumes$Reader" "kind" "I") fl_X6_44) (fun _ h9 => h9) rfl dX6_advance_274 ?_
                  refine lv_iconst (v := 2) hx hb dX6_advance_277 (by decide) ?_
                  refine lv_icmp_ne (tgt := 300) hx hb dX6_advance_278 (by decide) (fun c_390 => (z_abs c_390 (by decide)).elim) (fun _ => ?_)
                  refine lv_iload_n hx hb dX6_advance_281 rfl (lv_at hl 0 rfl) ?_
                  have en_392 : ((-1) : Int32).toInt = (-1) := by decide
                  refine zcS (As := [.int (-1)]) (rest := []) (n := 1) ⟨hx, hb, hml, hown, ht⟩ (k_X6_isLetter l D (-1)) (zgT ml_X6_111 st_X6_isLetter in_X6 co_X6_isLetter) rfl rfl (by decide +kernel) ⟨Nat.le_of_ble_eq_true rfl, Nat.le_of_ble_eq_true rfl⟩ hK hP hS [] rfl rfl hl.1 rfl (Nat.le_of_ble_eq_true rfl) dX6_advance_282 ⟨Nat.le_of_ble_eq_true rfl, Nat.le_of_ble_eq_true rfl⟩ (fun r_393 H locs hw hP hS => ?_)
                  rcases hw with ⟨rfl, g_394⟩ | ⟨rfl, g_395⟩
                  · skip
                    refine lv_if_ne (tgt := 295) hx hb dX6_advance_285 (by decide) (fun _ => ?_) (fun c_396 => (z_abs c_396 (by decide)).elim)
                    refine lv_aload_n hx hb dX6_advance_295 rfl (lv_at hl 1 rfl) ?_
                    refine lv_iconst (v := 4) hx hb dX6_advance_296 (by decide) ?_
                    refine va_put (D := D) (ci := 6) (v := .int 4) (ty := .int) (C := RX6) (T := TX6) (N := 12) hx hb ht inX6 tyX6 tyX6_ok nmX6 hown hK hP hD hS 0 rfl rfl 7 (by decide) (ht (.fieldLink RX6 44 "CloneVolumes$Reader" "kind" "I") fl_X6_44) (fun _ h9 => h9) rfl (by decide +kernel) rfl rfl (Nat.le_of_ble_eq_true rfl) dX6_advance_297 (fun H locs hP hD hS => ?_)
                    have hP : va_P D vwCl [(h0, .inr (6, [.int 0, .int pl, .ref h1, .ref h2, .ref h3, .int mo, .int (nI op), .int 4, .int (nI (sp + i_3)), .int (nI ((sp + i_3) + i_362)), .int (-1), .int (f (sp + i_3))])), (h1, .inr (9, [.ref h4, .int (nI n)])), (h4, .inl (D.1 13, 1600, .inl f)), (h2, .inl (D.1 14, 179, .inl fw))] H := hP
                    have hD : va_D A [(h0, .inr (6, [.int 0, .int pl, .ref h1, .ref h2, .ref h3, .int mo, .int (nI op), .int 4, .int (nI (sp + i_3)), .int (nI ((sp + i_3) + i_362)), .int (-1), .int (f (sp + i_3))])), (h1, .inr (9, [.ref h4, .int (nI n)])), (h4, .inl (D.1 13, 1600, .inl f)), (h2, .inl (D.1 14, 179, .inl fw))] := hD
                    have hP9 := hP.sub (ws' := [(h0, .inr (6, [.int 0, .int pl, .ref h1, .ref h2, .ref h3, .int mo, .int (nI op), .int 4, .int (nI (sp + i_3)), .int (nI ((sp + i_3) + i_362)), .int (-1), .int (f (sp + i_3))])), (h1, .inr (9, [.ref h4, .int (nI n)])), (h4, .inl (D.1 13, 1600, .inl f)), (h2, .inl (D.1 14, 179, .inl fw))]) [0, 1, 2, 3] rfl
                    have hD9 := hD.sub (ws' := [(h0, .inr (6, [.int 0, .int pl, .ref h1, .ref h2, .ref h3, .int mo, .int (nI op), .int 4, .int (nI (sp + i_3)), .int (nI ((sp + i_3) + i_362)), .int (-1), .int (f (sp + i_3))])), (h1, .inr (9, [.ref h4, .int (nI n)])), (h4, .inl (D.1 13, 1600, .inl f)), (h2, .inl (D.1 14, 179, .inl fw))]) [0, 1, 2, 3] (by decide) rfl
                    refine W.widen (k := 0) (n := 0) (Nat.le_of_ble_eq_true rfl) (Nat.le_of_ble_eq_true rfl) ?_
                    exact W.vret hx hb hr (fun t ht hW => ⟨⟨(4, (sp + i_3), ((sp + i_3) + i_362), (-1), (f (sp + i_3))), rfl, (by first | omega | (dsimp only; omega)), by rw [ht]; exact hP9, va_K.moved hW.alike hK, hD9⟩, hS.F ht⟩) hS.2.2 dX6_advance_300
                  · skip
                    refine lv_if_ne (tgt := 295) hx hb dX6_advance_285 (by decide) (fun c_398 => (z_abs c_398 (by decide)).elim) (fun _ => ?_)
                    refine lv_iload_n hx hb dX6_advance_288 rfl (lv_at hl 0 rfl) ?_
                    have en_400 : ((-1) : Int32).toInt = (-1) := by decide
                    refine zcS (As := [.int (-1)]) (rest := []) (n := 1) ⟨hx, hb, hml, hown, ht⟩ (k_X6_isDigit l D (-1)) (zgT ml_X6_118 st_X6_isDigit in_X6 co_X6_isDigit) rfl rfl (by decide +kernel) ⟨Nat.le_of_ble_eq_true rfl, Nat.le_of_ble_eq_true rfl⟩ hK hP hS [] rfl rfl hl.1 rfl (Nat.le_of_ble_eq_true rfl) dX6_advance_289 ⟨Nat.le_of_ble_eq_true rfl, Nat.le_of_ble_eq_true rfl⟩ (fun r_401 H locs hw hP hS => ?_)
                    rcases hw with ⟨rfl, g_402⟩ | ⟨rfl, g_403⟩
                    · skip
                      refine lv_if_eq (tgt := 300) hx hb dX6_advance_292 (by decide) (fun c_404 => (z_abs c_404 (by decide)).elim) (fun _ => ?_)
                      refine lv_aload_n hx hb dX6_advance_295 rfl (lv_at hl 1 rfl) ?_
                      refine lv_iconst (v := 4) hx hb dX6_advance_296 (by decide) ?_
                      refine va_put (D := D) (ci := 6) (v := .int 4) (ty := .int) (C := RX6) (T := TX6) (N := 12) hx hb ht inX6 tyX6 tyX6_ok nmX6 hown hK hP hD hS 0 rfl rfl 7 (by decide) (ht (.fieldLink RX6 44 "CloneVolumes$Reader" "kind" "I") fl_X6_44) (fun _ h9 => h9) rfl (by decide +kernel) rfl rfl (Nat.le_of_ble_eq_true rfl) dX6_advance_297 (fun H locs hP hD hS => ?_)
                      have hP : va_P D vwCl [(h0, .inr (6, [.int 0, .int pl, .ref h1, .ref h2, .ref h3, .int mo, .int (nI op), .int 4, .int (nI (sp + i_3)), .int (nI ((sp + i_3) + i_362)), .int (-1), .int (f (sp + i_3))])), (h1, .inr (9, [.ref h4, .int (nI n)])), (h4, .inl (D.1 13, 1600, .inl f)), (h2, .inl (D.1 14, 179, .inl fw))] H := hP
                      have hD : va_D A [(h0, .inr (6, [.int 0, .int pl, .ref h1, .ref h2, .ref h3, .int mo, .int (nI op), .int 4, .int (nI (sp + i_3)), .int (nI ((sp + i_3) + i_362)), .int (-1), .int (f (sp + i_3))])), (h1, .inr (9, [.ref h4, .int (nI n)])), (h4, .inl (D.1 13, 1600, .inl f)), (h2, .inl (D.1 14, 179, .inl fw))] := hD
                      have hP9 := hP.sub (ws' := [(h0, .inr (6, [.int 0, .int pl, .ref h1, .ref h2, .ref h3, .int mo, .int (nI op), .int 4, .int (nI (sp + i_3)), .int (nI ((sp + i_3) + i_362)), .int (-1), .int (f (sp + i_3))])), (h1, .inr (9, [.ref h4, .int (nI n)])), (h4, .inl (D.1 13, 1600, .inl f)), (h2, .inl (D.1 14, 179, .inl fw))]) [0, 1, 2, 3] rfl
                      have hD9 := hD.sub (ws' := [(h0, .inr (6, [.int 0, .int pl, .ref h1, .ref h2, .ref h3, .int mo, .int (nI op), .int 4, .int (nI (sp + i_3)), .int (nI ((sp + i_3) + i_362)), .int (-1), .int (f (sp + i_3))])), (h1, .inr (9, [.ref h4, .int (nI n)])), (h4, .inl (D.1 13, 1600, .inl f)), (h2, .inl (D.1 14, 179, .inl fw))]) [0, 1, 2, 3] (by decide) rfl
                      refine W.widen (k := 0) (n := 0) (Nat.le_of_ble_eq_true rfl) (Nat.le_of_ble_eq_true rfl) ?_
                      exact W.vret hx hb hr (fun t ht hW => ⟨⟨(4, (sp + i_3), ((sp + i_3) + i_362), (-1), (f (sp + i_3))), rfl, (by first | omega | (dsimp only; omega)), by rw [ht]; exact hP9, va_K.moved hW.alike hK, hD9⟩, hS.F ht⟩) hS.2.2 dX6_advance_300
                    · skip
                      refine lv_if_eq (tgt := 300) hx hb dX6_advance_292 (by decide) (fun _ => ?_) (fun c_406 => (z_abs c_406 (by decide)).elim)
                      have hP9 := hP.sub (ws' := [(h0, .inr (6, [.int 0, .int pl, .ref h1, .ref h2, .ref h3, .int mo, .int (nI op), .int 2, .int (nI (sp + i_3)), .int (nI ((sp + i_3) + i_362)), .int (-1), .int (f (sp + i_3))])), (h1, .inr (9, [.ref h4, .int (nI n)])), (h4, .inl (D.1 13, 1600, .inl f)), (h2, .inl (D.1 14, 179, .inl fw))]) [0, 1, 2, 3] rfl
                      have hD9 := hD.sub (ws' := [(h0, .inr (6, [.int 0, .int pl, .ref h1, .ref h2, .ref h3, .int mo, .int (nI op), .int 2, .int (nI (sp + i_3)), .int (nI ((sp + i_3) + i_362)), .int (-1), .int (f (sp + i_3))])), (h1, .inr (9, [.ref h4, .int (nI n)])), (h4, .inl (D.1 13, 1600, .inl f)), (h2, .inl (D.1 14, 179, .inl fw))]) [0, 1, 2, 3] (by decide) rfl
                      refine W.widen (k := 0) (n := 0) (Nat.le_of_ble_eq_true rfl) (Nat.le_of_ble_eq_true rfl) ?_
                      exact W.vret hx hb hr (fun t ht hW => ⟨⟨(2, (sp + i_3), ((sp + i_3) + i_362), (-1), (f (sp + i_3))), rfl, (by first | omega | (dsimp only; omega)), by rw [ht]; exact hP9, va_K.moved hW.alike hK, hD9⟩, hS.F ht⟩) hS.2.2 dX6_advance_300
              · have g_365 : (((sp + i_3) + i_362 : Nat) : Int) < ((n : Nat) : Int) := z_nle (nI_toInt (by omega)) (nI_toInt (by omega)) c_364
                refine lv_aload_n hx hb dX6_advance_205 rfl (lv_at hl 0 rfl) ?_
                refine va_get (D := D) (ci := 6) (v := .ref h1) (C := RX6) (T := TX6) (N := 12) hx hb ht inX6 hown hK hP 0 rfl rfl 2 (by decide) (ht (.fieldLink RX6 27 "CloneVolumes$Reader" "tape" "LCloneVolumes$Tape;") fl_X6_27) (fun _ h9 => h9) rfl dX6_advance_206 ?_
                refine va_get (D := D) (ci := 9) (v := .ref h4) (C := RX9) (T := TX9) (N := 2) hx hb ht inX9 hown hK hP 1 rfl rfl 0 (by decide) (ht (.fieldLink RX6 96 "CloneVolumes$Tape" "bytes" "[I") fl_X6_96) (fun _ h9 => h9) rfl dX6_advance_209 ?_
                refine lv_aload_n hx hb dX6_advance_212 rfl (lv_at hl 0 rfl) ?_
                refine va_get (D := D) (ci := 6) (v := .int (nI ((sp + i_3) + i_362))) (C := RX6) (T := TX6) (N := 12) hx hb ht inX6 hown hK hP 0 rfl rfl 9 (by decide) (ht (.fieldLink RX6 88 "CloneVolumes$Reader" "stop" "I") fl_X6_88) (fun _ h9 => h9) rfl dX6_advance_213 ?_
                refine va_iald hx hb hK hP 2 0 rfl rfl (vp_in_nI (by omega) (by omega)) dX6_advance_216 ?_
                refine z_topi (y := f ((sp + i_3) + i_362)) (by rw [nI_clamp (by omega)]) ?_
                refine zcS (As := [.int (f ((sp + i_3) + i_362))]) (rest := []) (n := 1) ⟨hx, hb, hml, hown, ht⟩ (k_X6_isDigit l D (f ((sp + i_3) + i_362))) (zgT ml_X6_118 st_X6_isDigit in_X6 co_X6_isDigit) rfl rfl (by decide +kernel) ⟨Nat.le_of_ble_eq_true rfl, Nat.le_of_ble_eq_true rfl⟩ hK hP hS [] rfl rfl hl.1 rfl (Nat.le_of_ble_eq_true rfl) dX6_advance_217 ⟨Nat.le_of_ble_eq_true rfl, Nat.le_of_ble_eq_true rfl⟩ (fun r_408 H locs hw hP hS => ?_)
                rcases hw with ⟨rfl, g_409⟩ | ⟨rfl, g_410⟩
                · skip
                  refine lv_if_eq (tgt := 251) hx hb dX6_advance_220 (by decide) (fun c_411 => (z_abs c_411 (by decide)).elim) (fun _ => ?_)
                  refine lv_aload_n hx hb dX6_advance_223 rfl (lv_at hl 0 rfl) ?_
                  refine lv_dup hx hb dX6_advance_224 rfl ?_
                  refine va_get (D := D) (ci := 6) (v := .int (nI ((sp + i_3) + i_362))) (C := RX6) (T := TX6) (N := 12) hx hb ht inX6 hown hK hP 0 rfl rfl 9 (by decide) (ht (.fieldLink RX6 88 "CloneVolumes$Reader" "stop" "I") fl_X6_88) (fun _ h9 => h9) rfl dX6_advance_225 ?_
                  refine lv_iconst (v := 1) hx hb dX6_advance_228 (by decide) ?_
                  refine lv_iadd hx hb dX6_advance_229 ?_
                  refine z_topi (y := nI (((sp + i_3) + i_362) + 1)) (z_nadd ((sp + i_3) + i_362) 1) ?_
                  refine va_put (D := D) (ci := 6) (v := .int (nI (((sp + i_3) + i_362) + 1))) (ty := .int) (C := RX6) (T := TX6) (N := 12) hx hb ht inX6 tyX6 tyX6_ok nmX6 hown hK hP hD hS 0 rfl rfl 9 (by decide) (ht (.fieldLink RX6 88 "CloneVolumes$Reader" "stop" "I") fl_X6_88) (fun _ h9 => h9) rfl (by decide +kernel) rfl rfl (Nat.le_of_ble_eq_true rfl) dX6_advance_230 (fun H locs hP hD hS => ?_)
                  have hP : va_P D vwCl [(h0, .inr (6, [.int 0, .int pl, .ref h1, .ref h2, .ref h3, .int mo, .int (nI op), .int 2, .int (nI (sp + i_3)), .int (nI (((sp + i_3) + i_362) + 1)), .int (-1), .int (f (sp + i_3))])), (h1, .inr (9, [.ref h4, .int (nI n)])), (h4, .inl (D.1 13, 1600, .inl f)), (h2, .inl (D.1 14, 179, .inl fw))] H := hP
                  have hD : va_D A [(h0, .inr (6, [.int 0, .int pl, .ref h1, .ref h2, .ref h3, .int mo, .int (nI op), .int 2, .int (nI (sp + i_3)), .int (nI (((sp + i_3) + i_362) + 1)), .int (-1), .int (f (sp + i_3))])), (h1, .inr (9, [.ref h4, .int (nI n)])), (h4, .inl (D.1 13, 1600, .inl f)), (h2, .inl (D.1 14, 179, .inl fw))] := hD
                  refine lv_goto (tgt := 191) hx hb dX6_advance_233 (by decide) ?_
                  rw [show ((sp + i_3) + i_362) + 1 = (sp + i_3) + (i_362 + 1) by omega] at hP hD
                  exact ih_191 () _ _ _ (by omega) ⟨(by first | omega | (dsimp only; omega)), hP.sub [0, 1, 2, 3] rfl, hD.sub [0, 1, 2, 3] (by decide) rfl, hS, lv_sub hl [0] rfl⟩
                · skip
                  refine lv_if_eq (tgt := 251) hx hb dX6_advance_220 (by decide) (fun _ => ?_) (fun c_413 => (z_abs c_413 (by decide)).elim)
                  refine lv_aload_n hx hb dX6_advance_251 rfl (lv_at hl 0 rfl) ?_
                  refine va_get (D := D) (ci := 6) (v := .ref h1) (C := RX6) (T := TX6) (N := 12) hx hb ht inX6 hown hK hP 0 rfl rfl 2 (by decide) (ht (.fieldLink RX6 27 "CloneVolumes$Reader" "tape" "LCloneVolumes$Tape;") fl_X6_27) (fun _ h9 => h9) rfl dX6_advance_252 ?_
                  refine lv_aload_n hx hb dX6_advance_255 rfl (lv_at hl 0 rfl) ?_
                  refine va_get (D := D) (ci := 6) (v := .int (nI (sp + i_3))) (C := RX6) (T := TX6) (N := 12) hx hb ht inX6 hown hK hP 0 rfl rfl 8 (by decide) (ht (.fieldLink RX6 51 "CloneVolumes$Reader" "start" "I") fl_X6_51) (fun _ h9 => h9) rfl dX6_advance_256 ?_
                  refine lv_iconst (v := 1) hx hb dX6_advance_259 (by decide) ?_
                  refine lv_isub hx hb dX6_advance_260 ?_
                  refine lv_topi (fun x_415 ex_415 => ?_)
                  refine zcV (As := [.int x_415]) (rest := []) (C := RX9) (n := 1) ⟨hx, hb, hml, hown, ht⟩ (k_X9_at l D h1 h4 n f x_415 (by first | decide | omega)) (zgV ml_X6_104 im_X9_at se_X9_at in_X9 co_X9_at) rfl rfl (by decide +kernel) ⟨Nat.le_of_ble_eq_true rfl, Nat.le_of_ble_eq_true rfl⟩ hK hP hS [1, 2] rfl 0 rfl rfl rfl rfl hl.1 rfl (Nat.le_of_ble_eq_true rfl) dX6_advance_261 ⟨Nat.le_of_ble_eq_true rfl, Nat.le_of_ble_eq_true rfl⟩ (fun r_416 H locs hw hP hS => ?_)
                  rcases hw with ⟨rfl, g_417⟩ | ⟨rfl, g_418⟩
                  · skip
                    refine lv_istore_n (lv' := [(1, .int (f x_415.toNatClampNeg)), (0, .ref h0)]) hx hb dX6_advance_264 rfl hl (by decide) rfl (fun ls hl => ?_)
                    refine lv_aload_n hx hb dX6_advance_265 rfl (lv_at hl 1 rfl) ?_
                    refine va_get (D := D) (ci := 6) (v := .int 2) (C := RX6) (T := TX6) (N := 12) hx hb ht inX6 hown hK hP 0 rfl rfl 7 (by decide) (ht (.fieldLink RX6 44 "CloneVolumes$Reader" "kind" "I") fl_X6_44) (fun _ h9 => h9) rfl dX6_advance_266 ?_
                    refine lv_iconst (v := 1) hx hb dX6_advance_269 (by decide) ?_
                    refine lv_icmp_eq (tgt := 281) hx hb dX6_advance_270 (by decide) (fun c_419 => (z_abs c_419 (by decide)).elim) (fun _ => ?_)
                    refine lv_aload_n hx hb dX6_advance_273 rfl (lv_at hl 1 rfl) ?_
                    refine va_get (D := D) (ci := 6) (v := .int 2) (C := RX6) (T := TX6) (N := 12) hx hb ht inX6 hown hK hP 0 rfl rfl 7 (by decide) (ht (.fieldLink RX6 44 "CloneVolumes$Reader" "kind" "I") fl_X6_44) (fun _ h9 => h9) rfl dX6_advance_274 ?_
                    refine lv_iconst (v := 2) hx hb dX6_advance_277 (by decide) ?_
                    refine lv_icmp_ne (tgt := 300) hx hb dX6_advance_278 (by decide) (fun c_421 => (z_abs c_421 (by decide)).elim) (fun _ => ?_)
                    refine lv_iload_n hx hb dX6_advance_281 rfl (lv_at hl 0 rfl) ?_
                    refine zcS (As := [.int (f x_415.toNatClampNeg)]) (rest := []) (n := 1) ⟨hx, hb, hml, hown, ht⟩ (k_X6_isLetter l D (f x_415.toNatClampNeg)) (zgT ml_X6_111 st_X6_isLetter in_X6 co_X6_isLetter) rfl rfl (by decide +kernel) ⟨Nat.le_of_ble_eq_true rfl, Nat.le_of_ble_eq_true rfl⟩ hK hP hS [] rfl rfl hl.1 rfl (Nat.le_of_ble_eq_true rfl) dX6_advance_282 ⟨Nat.le_of_ble_eq_true rfl, Nat.le_of_ble_eq_true rfl⟩ (fun r_423 H locs hw hP hS => ?_)
                    rcases hw with ⟨rfl, g_424⟩ | ⟨rfl, g_425⟩
                    · skip
                      refine lv_if_ne (tgt := 295) hx hb dX6_advance_285 (by decide) (fun _ => ?_) (fun c_426 => (z_abs c_426 (by decide)).elim)
                      refine lv_aload_n hx hb dX6_advance_295 rfl (lv_at hl 1 rfl) ?_
                      refine lv_iconst (v := 4) hx hb dX6_advance_296 (by decide) ?_
                      refine va_put (D := D) (ci := 6) (v := .int 4) (ty := .int) (C := RX6) (T := TX6) (N := 12) hx hb ht inX6 tyX6 tyX6_ok nmX6 hown hK hP hD hS 0 rfl rfl 7 (by decide) (ht (.fieldLink RX6 44 "CloneVolumes$Reader" "kind" "I") fl_X6_44) (fun _ h9 => h9) rfl (by decide +kernel) rfl rfl (Nat.le_of_ble_eq_true rfl) dX6_advance_297 (fun H locs hP hD hS => ?_)
                      have hP : va_P D vwCl [(h0, .inr (6, [.int 0, .int pl, .ref h1, .ref h2, .ref h3, .int mo, .int (nI op), .int 4, .int (nI (sp + i_3)), .int (nI ((sp + i_3) + i_362)), .int (-1), .int (f (sp + i_3))])), (h1, .inr (9, [.ref h4, .int (nI n)])), (h4, .inl (D.1 13, 1600, .inl f)), (h2, .inl (D.1 14, 179, .inl fw))] H := hP
                      have hD : va_D A [(h0, .inr (6, [.int 0, .int pl, .ref h1, .ref h2, .ref h3, .int mo, .int (nI op), .int 4, .int (nI (sp + i_3)), .int (nI ((sp + i_3) + i_362)), .int (-1), .int (f (sp + i_3))])), (h1, .inr (9, [.ref h4, .int (nI n)])), (h4, .inl (D.1 13, 1600, .inl f)), (h2, .inl (D.1 14, 179, .inl fw))] := hD
                      have hP9 := hP.sub (ws' := [(h0, .inr (6, [.int 0, .int pl, .ref h1, .ref h2, .ref h3, .int mo, .int (nI op), .int 4, .int (nI (sp + i_3)), .int (nI ((sp + i_3) + i_362)), .int (-1), .int (f (sp + i_3))])), (h1, .inr (9, [.ref h4, .int (nI n)])), (h4, .inl (D.1 13, 1600, .inl f)), (h2, .inl (D.1 14, 179, .inl fw))]) [0, 1, 2, 3] rfl
                      have hD9 := hD.sub (ws' := [(h0, .inr (6, [.int 0, .int pl, .ref h1, .ref h2, .ref h3, .int mo, .int (nI op), .int 4, .int (nI (sp + i_3)), .int (nI ((sp + i_3) + i_362)), .int (-1), .int (f (sp + i_3))])), (h1, .inr (9, [.ref h4, .int (nI n)])), (h4, .inl (D.1 13, 1600, .inl f)), (h2, .inl (D.1 14, 179, .inl fw))]) [0, 1, 2, 3] (by decide) rfl
                      refine W.widen (k := 0) (n := 0) (Nat.le_of_ble_eq_true rfl) (Nat.le_of_ble_eq_true rfl) ?_
                      exact W.vret hx hb hr (fun t ht hW => ⟨⟨(4, (sp + i_3), ((sp + i_3) + i_362), (-1), (f (sp + i_3))), rfl, (by first | omega | (dsimp only; omega)), by rw [ht]; exact hP9, va_K.moved hW.alike hK, hD9⟩, hS.F ht⟩) hS.2.2 dX6_advance_300
                    · skip
                      refine lv_if_ne (tgt := 295) hx hb dX6_advance_285 (by decide) (fun c_428 => (z_abs c_428 (by decide)).elim) (fun _ => ?_)
                      refine lv_iload_n hx hb dX6_advance_288 rfl (lv_at hl 0 rfl) ?_
                      refine zcS (As := [.int (f x_415.toNatClampNeg)]) (rest := []) (n := 1) ⟨hx, hb, hml, hown, ht⟩ (k_X6_isDigit l D (f x_415.toNatClampNeg)) (zgT ml_X6_118 st_X6_isDigit in_X6 co_X6_isDigit) rfl rfl (by decide +kernel) ⟨Nat.le_of_ble_eq_true rfl, Nat.le_of_ble_eq_true rfl⟩ hK hP hS [] rfl rfl hl.1 rfl (Nat.le_of_ble_eq_true rfl) dX6_advance_289 ⟨Nat.le_of_ble_eq_true rfl, Nat.le_of_ble_eq_true rfl⟩ (fun r_430 H locs hw hP hS => ?_)
                      rcases hw with ⟨rfl, g_431⟩ | ⟨rfl, g_432⟩
                      · skip
                        refine lv_if_eq (tgt := 300) hx hb dX6_advance_292 (by decide) (fun c_433 => (z_abs c_433 (by decide)).elim) (fun _ => ?_)
                        refine lv_aload_n hx hb dX6_advance_295 rfl (lv_at hl 1 rfl) ?_
                        refine lv_iconst (v := 4) hx hb dX6_advance_296 (by decide) ?_
                        refine va_put (D := D) (ci := 6) (v := .int 4) (ty := .int) (C := RX6) (T := TX6) (N := 12) hx hb ht inX6 tyX6 tyX6_ok nmX6 hown hK hP hD hS 0 rfl rfl 7 (by decide) (ht (.fieldLink RX6 44 "CloneVolumes$Reader" "kind" "I") fl_X6_44) (fun _ h9 => h9) rfl (by decide +kernel) rfl rfl (Nat.le_of_ble_eq_true rfl) dX6_advance_297 (fun H locs hP hD hS => ?_)
                        have hP : va_P D vwCl [(h0, .inr (6, [.int 0, .int pl, .ref h1, .ref h2, .ref h3, .int mo, .int (nI op), .int 4, .int (nI (sp + i_3)), .int (nI ((sp + i_3) + i_362)), .int (-1), .int (f (sp + i_3))])), (h1, .inr (9, [.ref h4, .int (nI n)])), (h4, .inl (D.1 13, 1600, .inl f)), (h2, .inl (D.1 14, 179, .inl fw))] H := hP
                        have hD : va_D A [(h0, .inr (6, [.int 0, .int pl, .ref h1, .ref h2, .ref h3, .int mo, .int (nI op), .int 4, .int (nI (sp + i_3)), .int (nI ((sp + i_3) + i_362)), .int (-1), .int (f (sp + i_3))])), (h1, .inr (9, [.ref h4, .int (nI n)])), (h4, .inl (D.1 13, 1600, .inl f)), (h2, .inl (D.1 14, 179, .inl fw))] := hD
                        have hP9 := hP.sub (ws' := [(h0, .inr (6, [.int 0, .int pl, .ref h1, .ref h2, .ref h3, .int mo, .int (nI op), .int 4, .int (nI (sp + i_3)), .int (nI ((sp + i_3) + i_362)), .int (-1), .int (f (sp + i_3))])), (h1, .inr (9, [.ref h4, .int (nI n)])), (h4, .inl (D.1 13, 1600, .inl f)), (h2, .inl (D.1 14, 179, .inl fw))]) [0, 1, 2, 3] rfl
                        have hD9 := hD.sub (ws' := [(h0, .inr (6, [.int 0, .int pl, .ref h1, .ref h2, .ref h3, .int mo, .int (nI op), .int 4, .int (nI (sp + i_3)), .int (nI ((sp + i_3) + i_362)), .int (-1), .int (f (sp + i_3))])), (h1, .inr (9, [.ref h4, .int (nI n)])), (h4, .inl (D.1 13, 1600, .inl f)), (h2, .inl (D.1 14, 179, .inl fw))]) [0, 1, 2, 3] (by decide) rfl
                        refine W.widen (k := 0) (n := 0) (Nat.le_of_ble_eq_true rfl) (Nat.le_of_ble_eq_true rfl) ?_
                        exact W.vret hx hb hr (fun t ht hW => ⟨⟨(4, (sp + i_3), ((sp + i_3) + i_362), (-1), (f (sp + i_3))), rfl, (by first | omega | (dsimp only; omega)), by rw [ht]; exact hP9, va_K.moved hW.alike hK, hD9⟩, hS.F ht⟩) hS.2.2 dX6_advance_300
                      · skip
                        refine lv_if_eq (tgt := 300) hx hb dX6_advance_292 (by decide) (fun _ => ?_) (fun c_435 => (z_abs c_435 (by decide)).elim)
                        have hP9 := hP.sub (ws' := [(h0, .inr (6, [.int 0, .int pl, .ref h1, .ref h2, .ref h3, .int mo, .int (nI op), .int 2, .int (nI (sp + i_3)), .int (nI ((sp + i_3) + i_362)), .int (-1), .int (f (sp + i_3))])), (h1, .inr (9, [.ref h4, .int (nI n)])), (h4, .inl (D.1 13, 1600, .inl f)), (h2, .inl (D.1 14, 179, .inl fw))]) [0, 1, 2, 3] rfl
                        have hD9 := hD.sub (ws' := [(h0, .inr (6, [.int 0, .int pl, .ref h1, .ref h2, .ref h3, .int mo, .int (nI op), .int 2, .int (nI (sp + i_3)), .int (nI ((sp + i_3) + i_362)), .int (-1), .int (f (sp + i_3))])), (h1, .inr (9, [.ref h4, .int (nI n)])), (h4, .inl (D.1 13, 1600, .inl f)), (h2, .inl (D.1 14, 179, .inl fw))]) [0, 1, 2, 3] (by decide) rfl
                        refine W.widen (k := 0) (n := 0) (Nat.le_of_ble_eq_true rfl) (Nat.le_of_ble_eq_true rfl) ?_
                        exact W.vret hx hb hr (fun t ht hW => ⟨⟨(2, (sp + i_3), ((sp + i_3) + i_362), (-1), (f (sp + i_3))), rfl, (by first | omega | (dsimp only; omega)), by rw [ht]; exact hP9, va_K.moved hW.alike hK, hD9⟩, hS.F ht⟩) hS.2.2 dX6_advance_300
                  · skip
                    refine lv_istore_n (lv' := [(1, .int (-1)), (0, .ref h0)]) hx hb dX6_advance_264 rfl hl (by decide) rfl (fun ls hl => ?_)
                    refine lv_aload_n hx hb dX6_advance_265 rfl (lv_at hl 1 rfl) ?_
                    refine va_get (D := D) (ci := 6) (v := .int 2) (C := RX6) (T := TX6) (N := 12) hx hb ht inX6 hown hK hP 0 rfl rfl 7 (by decide) (ht (.fieldLink RX6 44 "CloneVolumes$Reader" "kind" "I") fl_X6_44) (fun _ h9 => h9) rfl dX6_advance_266 ?_
                    refine lv_iconst (v := 1) hx hb dX6_advance_269 (by decide) ?_
                    refine lv_icmp_eq (tgt := 281) hx hb dX6_advance_270 (by decide) (fun c_437 => (z_abs c_437 (by decide)).elim) (fun _ => ?_)
                    refine lv_aload_n hx hb dX6_advance_273 rfl (lv_at hl 1 rfl) ?_
                    refine va_get (D := D) (ci := 6) (v := .int 2) (C := RX6) (T := TX6) (N := 12) hx hb ht inX6 hown hK hP 0 rfl rfl 7 (by decide) (ht (.fieldLink RX6 44 "CloneVolumes$Reader" "kind" "I") fl_X6_44) (fun _ h9 => h9) rfl dX6_advance_274 ?_
                    refine lv_iconst (v := 2) hx hb dX6_advance_277 (by decide) ?_
                    refine lv_icmp_ne (tgt := 300) hx hb dX6_advance_278 (by decide) (fun c_439 => (z_abs c_439 (by decide)).elim) (fun _ => ?_)
                    refine lv_iload_n hx hb dX6_advance_281 rfl (lv_at hl 0 rfl) ?_
                    have en_441 : ((-1) : Int32).toInt = (-1) := by decide
                    refine zcS (As := [.int (-1)]) (rest := []) (n := 1) ⟨hx, hb, hml, hown, ht⟩ (k_X6_isLetter l D (-1)) (zgT ml_X6_111 st_X6_isLetter in_X6 co_X6_isLetter) rfl rfl (by decide +kernel) ⟨Nat.le_of_ble_eq_true rfl, Nat.le_of_ble_eq_true rfl⟩ hK hP hS [] rfl rfl hl.1 rfl (Nat.le_of_ble_eq_true rfl) dX6_advance_282 ⟨Nat.le_of_ble_eq_true rfl, Nat.le_of_ble_eq_true rfl⟩ (fun r_442 H locs hw hP hS => ?_)
                    rcases hw with ⟨rfl, g_443⟩ | ⟨rfl, g_444⟩
                    · skip
                      refine lv_if_ne (tgt := 295) hx hb dX6_advance_285 (by decide) (fun _ => ?_) (fun c_445 => (z_abs c_445 (by decide)).elim)
                      refine lv_aload_n hx hb dX6_advance_295 rfl (lv_at hl 1 rfl) ?_
                      refine lv_iconst (v := 4) hx hb dX6_advance_296 (by decide) ?_
                      refine va_put (D := D) (ci := 6) (v := .int 4) (ty := .int) (C := RX6) (T := TX6) (N := 12) hx hb ht inX6 tyX6 tyX6_ok nmX6 hown hK hP hD hS 0 rfl rfl 7 (by decide) (ht (.fieldLink RX6 44 "CloneVolumes$Reader" "kind" "I") fl_X6_44) (fun _ h9 => h9) rfl (by decide +kernel) rfl rfl (Nat.le_of_ble_eq_true rfl) dX6_advance_297 (fun H locs hP hD hS => ?_)
                      have hP : va_P D vwCl [(h0, .inr (6, [.int 0, .int pl, .ref h1, .ref h2, .ref h3, .int mo, .int (nI op), .int 4, .int (nI (sp + i_3)), .int (nI ((sp + i_3) + i_362)), .int (-1), .int (f (sp + i_3))])), (h1, .inr (9, [.ref h4, .int (nI n)])), (h4, .inl (D.1 13, 1600, .inl f)), (h2, .inl (D.1 14, 179, .inl fw))] H := hP
                      have hD : va_D A [(h0, .inr (6, [.int 0, .int pl, .ref h1, .ref h2, .ref h3, .int mo, .int (nI op), .int 4, .int (nI (sp + i_3)), .int (nI ((sp + i_3) + i_362)), .int (-1), .int (f (sp + i_3))])), (h1, .inr (9, [.ref h4, .int (nI n)])), (h4, .inl (D.1 13, 1600, .inl f)), (h2, .inl (D.1 14, 179, .inl fw))] := hD
                      have hP9 := hP.sub (ws' := [(h0, .inr (6, [.int 0, .int pl, .ref h1, .ref h2, .ref h3, .int mo, .int (nI op), .int 4, .int (nI (sp + i_3)), .int (nI ((sp + i_3) + i_362)), .int (-1), .int (f (sp + i_3))])), (h1, .inr (9, [.ref h4, .int (nI n)])), (h4, .inl (D.1 13, 1600, .inl f)), (h2, .inl (D.1 14, 179, .inl fw))]) [0, 1, 2, 3] rfl
                      have hD9 := hD.sub (ws' := [(h0, .inr (6, [.int 0, .int pl, .ref h1, .ref h2, .ref h3, .int mo, .int (nI op), .int 4, .int (nI (sp + i_3)), .int (nI ((sp + i_3) + i_362)), .int (-1), .int (f (sp + i_3))])), (h1, .inr (9, [.ref h4, .int (nI n)])), (h4, .inl (D.1 13, 1600, .inl f)), (h2, .inl (D.1 14, 179, .inl fw))]) [0, 1, 2, 3] (by decide) rfl
                      refine W.widen (k := 0) (n := 0) (Nat.le_of_ble_eq_true rfl) (Nat.le_of_ble_eq_true rfl) ?_
                      exact W.vret hx hb hr (fun t ht hW => ⟨⟨(4, (sp + i_3), ((sp + i_3) + i_362), (-1), (f (sp + i_3))), rfl, (by first | omega | (dsimp only; omega)), by rw [ht]; exact hP9, va_K.moved hW.alike hK, hD9⟩, hS.F ht⟩) hS.2.2 dX6_advance_300
                    · skip
                      refine lv_if_ne (tgt := 295) hx hb dX6_advance_285 (by decide) (fun c_447 => (z_abs c_447 (by decide)).elim) (fun _ => ?_)
                      refine lv_iload_n hx hb dX6_advance_288 rfl (lv_at hl 0 rfl) ?_
                      have en_449 : ((-1) : Int32).toInt = (-1) := by decide
                      refine zcS (As := [.int (-1)]) (rest := []) (n := 1) ⟨hx, hb, hml, hown, ht⟩ (k_X6_isDigit l D (-1)) (zgT ml_X6_118 st_X6_isDigit in_X6 co_X6_isDigit) rfl rfl (by decide +kernel) ⟨Nat.le_of_ble_eq_true rfl, Nat.le_of_ble_eq_true rfl⟩ hK hP hS [] rfl rfl hl.1 rfl (Nat.le_of_ble_eq_true rfl) dX6_advance_289 ⟨Nat.le_of_ble_eq_true rfl, Nat.le_of_ble_eq_true rfl⟩ (fun r_450 H locs hw hP hS => ?_)
                      rcases hw with ⟨rfl, g_451⟩ | ⟨rfl, g_452⟩
                      · skip
                        refine lv_if_eq (tgt := 300) hx hb dX6_advance_292 (by decide) (fun c_453 => (z_abs c_453 (by decide)).elim) (fun _ => ?_)
                        refine lv_aload_n hx hb dX6_advance_295 rfl (lv_at hl 1 rfl) ?_
                        refine lv_iconst (v := 4) hx hb dX6_advance_296 (by decide) ?_
                        refine va_put (D := D) (ci := 6) (v := .int 4) (ty := .int) (C := RX6) (T := TX6) (N := 12) hx hb ht inX6 tyX6 tyX6_ok nmX6 hown hK hP hD hS 0 rfl rfl 7 (by decide) (ht (.fieldLink RX6 44 "CloneVolumes$Reader" "kind" "I") fl_X6_44) (fun _ h9 => h9) rfl (by decide +kernel) rfl rfl (Nat.le_of_ble_eq_true rfl) dX6_advance_297 (fun H locs hP hD hS => ?_)
                        have hP : va_P D vwCl [(h0, .inr (6, [.int 0, .int pl, .ref h1, .ref h2, .ref h3, .int mo, .int (nI op), .int 4, .int (nI (sp + i_3)), .int (nI ((sp + i_3) + i_362)), .int (-1), .int (f (sp + i_3))])), (h1, .inr (9, [.ref h4, .int (nI n)])), (h4, .inl (D.1 13, 1600, .inl f)), (h2, .inl (D.1 14, 179, .inl fw))] H := hP
                        have hD : va_D A [(h0, .inr (6, [.int 0, .int pl, .ref h1, .ref h2, .ref h3, .int mo, .int (nI op), .int 4, .int (nI (sp + i_3)), .int (nI ((sp + i_3) + i_362)), .int (-1), .int (f (sp + i_3))])), (h1, .inr (9, [.ref h4, .int (nI n)])), (h4, .inl (D.1 13, 1600, .inl f)), (h2, .inl (D.1 14, 179, .inl fw))] := hD
                        have hP9 := hP.sub (ws' := [(h0, .inr (6, [.int 0, .int pl, .ref h1, .ref h2, .ref h3, .int mo, .int (nI op), .int 4, .int (nI (sp + i_3)), .int (nI ((sp + i_3) + i_362)), .int (-1), .int (f (sp + i_3))])), (h1, .inr (9, [.ref h4, .int (nI n)])), (h4, .inl (D.1 13, 1600, .inl f)), (h2, .inl (D.1 14, 179, .inl fw))]) [0, 1, 2, 3] rfl
                        have hD9 := hD.sub (ws' := [(h0, .inr (6, [.int 0, .int pl, .ref h1, .ref h2, .ref h3, .int mo, .int (nI op), .int 4, .int (nI (sp + i_3)), .int (nI ((sp + i_3) + i_362)), .int (-1), .int (f (sp + i_3))])), (h1, .inr (9, [.ref h4, .int (nI n)])), (h4, .inl (D.1 13, 1600, .inl f)), (h2, .inl (D.1 14, 179, .inl fw))]) [0, 1, 2, 3] (by decide) rfl
                        refine W.widen (k := 0) (n := 0) (Nat.le_of_ble_eq_true rfl) (Nat.le_of_ble_eq_true rfl) ?_
                        exact W.vret hx hb hr (fun t ht hW => ⟨⟨(4, (sp + i_3), ((sp + i_3) + i_362), (-1), (f (sp + i_3))), rfl, (by first | omega | (dsimp only; omega)), by rw [ht]; exact hP9, va_K.moved hW.alike hK, hD9⟩, hS.F ht⟩) hS.2.2 dX6_advance_300
                      · skip
                        refine lv_if_eq (tgt := 300) hx hb dX6_advance_292 (by decide) (fun _ => ?_) (fun c_455 => (z_abs c_455 (by decide)).elim)
                        have hP9 := hP.sub (ws' := [(h0, .inr (6, [.int 0, .int pl, .ref h1, .ref h2, .ref h3, .int mo, .int (nI op), .int 2, .int (nI (sp + i_3)), .int (nI ((sp + i_3) + i_362)), .int (-1), .int (f (sp + i_3))])), (h1, .inr (9, [.ref h4, .int (nI n)])), (h4, .inl (D.1 13, 1600, .inl f)), (h2, .inl (D.1 14, 179, .inl fw))]) [0, 1, 2, 3] rfl
                        have hD9 := hD.sub (ws' := [(h0, .inr (6, [.int 0, .int pl, .ref h1, .ref h2, .ref h3, .int mo, .int (nI op), .int 2, .int (nI (sp + i_3)), .int (nI ((sp + i_3) + i_362)), .int (-1), .int (f (sp + i_3))])), (h1, .inr (9, [.ref h4, .int (nI n)])), (h4, .inl (D.1 13, 1600, .inl f)), (h2, .inl (D.1 14, 179, .inl fw))]) [0, 1, 2, 3] (by decide) rfl
                        refine W.widen (k := 0) (n := 0) (Nat.le_of_ble_eq_true rfl) (Nat.le_of_ble_eq_true rfl) ?_
                        exact W.vret hx hb hr (fun t ht hW => ⟨⟨(2, (sp + i_3), ((sp + i_3) + i_362), (-1), (f (sp + i_3))), rfl, (by first | omega | (dsimp only; omega)), by rw [ht]; exact hP9, va_K.moved hW.alike hK, hD9⟩, hS.F ht⟩) hS.2.2 dX6_advance_300
            · skip
              refine lv_if_eq (tgt := 236) hx hb dX6_advance_183 (by decide) (fun _ => ?_) (fun c_457 => (z_abs c_457 (by decide)).elim)
              refine lv_aload_n hx hb dX6_advance_236 rfl (lv_at hl 0 rfl) ?_
              refine lv_iconst (v := 3) hx hb dX6_advance_237 (by decide) ?_
              refine va_put (D := D) (ci := 6) (v := .int 3) (ty := .int) (C := RX6) (T := TX6) (N := 12) hx hb ht inX6 tyX6 tyX6_ok nmX6 hown hK hP hD hS 0 rfl rfl 7 (by decide) (ht (.fieldLink RX6 44 "CloneVolumes$Reader" "kind" "I") fl_X6_44) (fun _ h9 => h9) rfl (by decide +kernel) rfl rfl (Nat.le_of_ble_eq_true rfl) dX6_advance_238 (fun H locs hP hD hS => ?_)
              have hP : va_P D vwCl [(h0, .inr (6, [.int 0, .int pl, .ref h1, .ref h2, .ref h3, .int mo, .int (nI op), .int 3, .int (nI (sp + i_3)), .int (nI (sp + i_3)), .int (-1), .int (f (sp + i_3))])), (h1, .inr (9, [.ref h4, .int (nI n)])), (h4, .inl (D.1 13, 1600, .inl f)), (h2, .inl (D.1 14, 179, .inl fw))] H := hP
              have hD : va_D A [(h0, .inr (6, [.int 0, .int pl, .ref h1, .ref h2, .ref h3, .int mo, .int (nI op), .int 3, .int (nI (sp + i_3)), .int (nI (sp + i_3)), .int (-1), .int (f (sp + i_3))])), (h1, .inr (9, [.ref h4, .int (nI n)])), (h4, .inl (D.1 13, 1600, .inl f)), (h2, .inl (D.1 14, 179, .inl fw))] := hD
              refine lv_aload_n hx hb dX6_advance_241 rfl (lv_at hl 0 rfl) ?_
              refine lv_dup hx hb dX6_advance_242 rfl ?_
              refine va_get (D := D) (ci := 6) (v := .int (nI (sp + i_3))) (C := RX6) (T := TX6) (N := 12) hx hb ht inX6 hown hK hP 0 rfl rfl 9 (by decide) (ht (.fieldLink RX6 88 "CloneVolumes$Reader" "stop" "I") fl_X6_88) (fun _ h9 => h9) rfl dX6_advance_243 ?_
              refine lv_iconst (v := 1) hx hb dX6_advance_246 (by decide) ?_
              refine lv_iadd hx hb dX6_advance_247 ?_
              refine z_topi (y := nI ((sp + i_3) + 1)) (z_nadd (sp + i_3) 1) ?_
              refine va_put (D := D) (ci := 6) (v := .int (nI ((sp + i_3) + 1))) (ty := .int) (C := RX6) (T := TX6) (N := 12) hx hb ht inX6 tyX6 tyX6_ok nmX6 hown hK hP hD hS 0 rfl rfl 9 (by decide) (ht (.fieldLink RX6 88 "CloneVolumes$Reader" "stop" "I") fl_X6_88) (fun _ h9 => h9) rfl (by decide +kernel) rfl rfl (Nat.le_of_ble_eq_true rfl) dX6_advance_248 (fun H locs hP hD hS => ?_)
              have hP : va_P D vwCl [(h0, .inr (6, [.int 0, .int pl, .ref h1, .ref h2, .ref h3, .int mo, .int (nI op), .int 3, .int (nI (sp + i_3)), .int (nI ((sp + i_3) + 1)), .int (-1), .int (f (sp + i_3))])), (h1, .inr (9, [.ref h4, .int (nI n)])), (h4, .inl (D.1 13, 1600, .inl f)), (h2, .inl (D.1 14, 179, .inl fw))] H := hP
              have hD : va_D A [(h0, .inr (6, [.int 0, .int pl, .ref h1, .ref h2, .ref h3, .int mo, .int (nI op), .int 3, .int (nI (sp + i_3)), .int (nI ((sp + i_3) + 1)), .int (-1), .int (f (sp + i_3))])), (h1, .inr (9, [.ref h4, .int (nI n)])), (h4, .inl (D.1 13, 1600, .inl f)), (h2, .inl (D.1 14, 179, .inl fw))] := hD
              refine lv_aload_n hx hb dX6_advance_251 rfl (lv_at hl 0 rfl) ?_
              refine va_get (D := D) (ci := 6) (v := .ref h1) (C := RX6) (T := TX6) (N := 12) hx hb ht inX6 hown hK hP 0 rfl rfl 2 (by decide) (ht (.fieldLink RX6 27 "CloneVolumes$Reader" "tape" "LCloneVolumes$Tape;") fl_X6_27) (fun _ h9 => h9) rfl dX6_advance_252 ?_
              refine lv_aload_n hx hb dX6_advance_255 rfl (lv_at hl 0 rfl) ?_
              refine va_get (D := D) (ci := 6) (v := .int (nI (sp + i_3))) (C := RX6) (T := TX6) (N := 12) hx hb ht inX6 hown hK hP 0 rfl rfl 8 (by decide) (ht (.fieldLink RX6 51 "CloneVolumes$Reader" "start" "I") fl_X6_51) (fun _ h9 => h9) rfl dX6_advance_256 ?_
              refine lv_iconst (v := 1) hx hb dX6_advance_259 (by decide) ?_
              refine lv_isub hx hb dX6_advance_260 ?_
              refine lv_topi (fun x_459 ex_459 => ?_)
              refine zcV (As := [.int x_459]) (rest := []) (C := RX9) (n := 1) ⟨hx, hb, hml, hown, ht⟩ (k_X9_at l D h1 h4 n f x_459 (by first | decide | omega)) (zgV ml_X6_104 im_X9_at se_X9_at in_X9 co_X9_at) rfl rfl (by decide +kernel) ⟨Nat.le_of_ble_eq_true rfl, Nat.le_of_ble_eq_true rfl⟩ hK hP hS [1, 2] rfl 0 rfl rfl rfl rfl hl.1 rfl (Nat.le_of_ble_eq_true rfl) dX6_advance_261 ⟨Nat.le_of_ble_eq_true rfl, Nat.le_of_ble_eq_true rfl⟩ (fun r_460 H locs hw hP hS => ?_)
              rcases hw with ⟨rfl, g_461⟩ | ⟨rfl, g_462⟩
              · skip
                refine lv_istore_n (lv' := [(1, .int (f x_459.toNatClampNeg)), (0, .ref h0)]) hx hb dX6_advance_264 rfl hl (by decide) rfl (fun ls hl => ?_)
                refine lv_aload_n hx hb dX6_advance_265 rfl (lv_at hl 1 rfl) ?_
                refine va_get (D := D) (ci := 6) (v := .int 3) (C := RX6) (T := TX6) (N := 12) hx hb ht inX6 hown hK hP 0 rfl rfl 7 (by decide) (ht (.fieldLink RX6 44 "CloneVolumes$Reader" "kind" "I") fl_X6_44) (fun _ h9 => h9) rfl dX6_advance_266 ?_
                refine lv_iconst (v := 1) hx hb dX6_advance_269 (by decide) ?_
                refine lv_icmp_eq (tgt := 281) hx hb dX6_advance_270 (by decide) (fun c_463 => (z_abs c_463 (by decide)).elim) (fun _ => ?_)
                refine lv_aload_n hx hb dX6_advance_273 rfl (lv_at hl 1 rfl) ?_
                refine va_get (D := D) (ci := 6) (v := .int 3) (C := RX6) (T := TX6) (N := 12) hx hb ht inX6 hown hK hP 0 rfl rfl 7 (by decide) (ht (.fieldLink RX6 44 "CloneVolumes$Reader" "kind" "I") fl_X6_44) (fun _ h9 => h9) rfl dX6_advance_274 ?_
                refine lv_iconst (v := 2) hx hb dX6_advance_277 (by decide) ?_
                refine lv_icmp_ne (tgt := 300) hx hb dX6_advance_278 (by decide) (fun _ => ?_) (fun c_465 => (z_abs c_465 (by decide)).elim)
                have hP9 := hP.sub (ws' := [(h0, .inr (6, [.int 0, .int pl, .ref h1, .ref h2, .ref h3, .int mo, .int (nI op), .int 3, .int (nI (sp + i_3)), .int (nI ((sp + i_3) + 1)), .int (-1), .int (f (sp + i_3))])), (h1, .inr (9, [.ref h4, .int (nI n)])), (h4, .inl (D.1 13, 1600, .inl f)), (h2, .inl (D.1 14, 179, .inl fw))]) [0, 1, 2, 3] rfl
                have hD9 := hD.sub (ws' := [(h0, .inr (6, [.int 0, .int pl, .ref h1, .ref h2, .ref h3, .int mo, .int (nI op), .int 3, .int (nI (sp + i_3)), .int (nI ((sp + i_3) + 1)), .int (-1), .int (f (sp + i_3))])), (h1, .inr (9, [.ref h4, .int (nI n)])), (h4, .inl (D.1 13, 1600, .inl f)), (h2, .inl (D.1 14, 179, .inl fw))]) [0, 1, 2, 3] (by decide) rfl
                refine W.widen (k := 0) (n := 0) (Nat.le_of_ble_eq_true rfl) (Nat.le_of_ble_eq_true rfl) ?_
                exact W.vret hx hb hr (fun t ht hW => ⟨⟨(3, (sp + i_3), ((sp + i_3) + 1), (-1), (f (sp + i_3))), rfl, (by first | omega | (dsimp only; omega)), by rw [ht]; exact hP9, va_K.moved hW.alike hK, hD9⟩, hS.F ht⟩) hS.2.2 dX6_advance_300
              · skip
                refine lv_istore_n (lv' := [(1, .int (-1)), (0, .ref h0)]) hx hb dX6_advance_264 rfl hl (by decide) rfl (fun ls hl => ?_)
                refine lv_aload_n hx hb dX6_advance_265 rfl (lv_at hl 1 rfl) ?_
                refine va_get (D := D) (ci := 6) (v := .int 3) (C := RX6) (T := TX6) (N := 12) hx hb ht inX6 hown hK hP 0 rfl rfl 7 (by decide) (ht (.fieldLink RX6 44 "CloneVolumes$Reader" "kind" "I") fl_X6_44) (fun _ h9 => h9) rfl dX6_advance_266 ?_
                refine lv_iconst (v := 1) hx hb dX6_advance_269 (by decide) ?_
                refine lv_icmp_eq (tgt := 281) hx hb dX6_advance_270 (by decide) (fun c_467 => (z_abs c_467 (by decide)).elim) (fun _ => ?_)
                refine lv_aload_n hx hb dX6_advance_273 rfl (lv_at hl 1 rfl) ?_
                refine va_get (D := D) (ci := 6) (v := .int 3) (C := RX6) (T := TX6) (N := 12) hx hb ht inX6 hown hK hP 0 rfl rfl 7 (by decide) (ht (.fieldLink RX6 44 "CloneVolumes$Reader" "kind" "I") fl_X6_44) (fun _ h9 => h9) rfl dX6_advance_274 ?_
                refine lv_iconst (v := 2) hx hb dX6_advance_277 (by decide) ?_
                refine lv_icmp_ne (tgt := 300) hx hb dX6_advance_278 (by decide) (fun _ => ?_) (fun c_469 => (z_abs c_469 (by decide)).elim)
                have hP9 := hP.sub (ws' := [(h0, .inr (6, [.int 0, .int pl, .ref h1, .ref h2, .ref h3, .int mo, .int (nI op), .int 3, .int (nI (sp + i_3)), .int (nI ((sp + i_3) + 1)), .int (-1), .int (f (sp + i_3))])), (h1, .inr (9, [.ref h4, .int (nI n)])), (h4, .inl (D.1 13, 1600, .inl f)), (h2, .inl (D.1 14, 179, .inl fw))]) [0, 1, 2, 3] rfl
                have hD9 := hD.sub (ws' := [(h0, .inr (6, [.int 0, .int pl, .ref h1, .ref h2, .ref h3, .int mo, .int (nI op), .int 3, .int (nI (sp + i_3)), .int (nI ((sp + i_3) + 1)), .int (-1), .int (f (sp + i_3))])), (h1, .inr (9, [.ref h4, .int (nI n)])), (h4, .inl (D.1 13, 1600, .inl f)), (h2, .inl (D.1 14, 179, .inl fw))]) [0, 1, 2, 3] (by decide) rfl
                refine W.widen (k := 0) (n := 0) (Nat.le_of_ble_eq_true rfl) (Nat.le_of_ble_eq_true rfl) ?_
                exact W.vret hx hb hr (fun t ht hW => ⟨⟨(3, (sp + i_3), ((sp + i_3) + 1), (-1), (f (sp + i_3))), rfl, (by first | omega | (dsimp only; omega)), by rw [ht]; exact hP9, va_K.moved hW.alike hK, hD9⟩, hS.F ht⟩) hS.2.2 dX6_advance_300
        · have g_260 : (f (sp + i_3)).toInt = (-1) := z_eq rfl (by decide) c_259
          refine lv_aload_n hx hb dX6_advance_97 rfl (lv_at hl 0 rfl) ?_
          refine lv_iconst (v := 0) hx hb dX6_advance_98 (by decide) ?_
          refine va_put (D := D) (ci := 6) (v := .int 0) (ty := .int) (C := RX6) (T := TX6) (N := 12) hx hb ht inX6 tyX6 tyX6_ok nmX6 hown hK hP hD hS 0 rfl rfl 7 (by decide) (ht (.fieldLink RX6 44 "CloneVolumes$Reader" "kind" "I") fl_X6_44) (fun _ h9 => h9) rfl (by decide +kernel) rfl rfl (Nat.le_of_ble_eq_true rfl) dX6_advance_99 (fun H locs hP hD hS => ?_)
          have hP : va_P D vwCl [(h0, .inr (6, [.int 0, .int pl, .ref h1, .ref h2, .ref h3, .int mo, .int (nI op), .int 0, .int (nI (sp + i_3)), .int (nI (sp + i_3)), .int (-1), .int (f (sp + i_3))])), (h1, .inr (9, [.ref h4, .int (nI n)])), (h4, .inl (D.1 13, 1600, .inl f)), (h2, .inl (D.1 14, 179, .inl fw))] H := hP
          have hD : va_D A [(h0, .inr (6, [.int 0, .int pl, .ref h1, .ref h2, .ref h3, .int mo, .int (nI op), .int 0, .int (nI (sp + i_3)), .int (nI (sp + i_3)), .int (-1), .int (f (sp + i_3))])), (h1, .inr (9, [.ref h4, .int (nI n)])), (h4, .inl (D.1 13, 1600, .inl f)), (h2, .inl (D.1 14, 179, .inl fw))] := hD
          refine lv_goto (tgt := 251) hx hb dX6_advance_102 (by decide) ?_
          refine lv_aload_n hx hb dX6_advance_251 rfl (lv_at hl 0 rfl) ?_
          refine va_get (D := D) (ci := 6) (v := .ref h1) (C := RX6) (T := TX6) (N := 12) hx hb ht inX6 hown hK hP 0 rfl rfl 2 (by decide) (ht (.fieldLink RX6 27 "CloneVolumes$Reader" "tape" "LCloneVolumes$Tape;") fl_X6_27) (fun _ h9 => h9) rfl dX6_advance_252 ?_
          refine lv_aload_n hx hb dX6_advance_255 rfl (lv_at hl 0 rfl) ?_
          refine va_get (D := D) (ci := 6) (v := .int (nI (sp + i_3))) (C := RX6) (T := TX6) (N := 12) hx hb ht inX6 hown hK hP 0 rfl rfl 8 (by decide) (ht (.fieldLink RX6 51 "CloneVolumes$Reader" "start" "I") fl_X6_51) (fun _ h9 => h9) rfl dX6_advance_256 ?_
          refine lv_iconst (v := 1) hx hb dX6_advance_259 (by decide) ?_
          refine lv_isub hx hb dX6_advance_260 ?_
          refine lv_topi (fun x_471 ex_471 => ?_)
          refine zcV (As := [.int x_471]) (rest := []) (C := RX9) (n := 1) ⟨hx, hb, hml, hown, ht⟩ (k_X9_at l D h1 h4 n f x_471 (by first | decide | omega)) (zgV ml_X6_104 im_X9_at se_X9_at in_X9 co_X9_at) rfl rfl (by decide +kernel) ⟨Nat.le_of_ble_eq_true rfl, Nat.le_of_ble_eq_true rfl⟩ hK hP hS [1, 2] rfl 0 rfl rfl rfl rfl hl.1 rfl (Nat.le_of_ble_eq_true rfl) dX6_advance_261 ⟨Nat.le_of_ble_eq_true rfl, Nat.le_of_ble_eq_true rfl⟩ (fun r_472 H locs hw hP hS => ?_)
          rcases hw with ⟨rfl, g_473⟩ | ⟨rfl, g_474⟩
          · skip
            refine lv_istore_n (lv' := [(1, .int (f x_471.toNatClampNeg)), (0, .ref h0)]) hx hb dX6_advance_264 rfl hl (by decide) rfl (fun ls hl => ?_)
            refine lv_aload_n hx hb dX6_advance_265 rfl (lv_at hl 1 rfl) ?_
            refine va_get (D := D) (ci := 6) (v := .int 0) (C := RX6) (T := TX6) (N := 12) hx hb ht inX6 hown hK hP 0 rfl rfl 7 (by decide) (ht (.fieldLink RX6 44 "CloneVolumes$Reader" "kind" "I") fl_X6_44) (fun _ h9 => h9) rfl dX6_advance_266 ?_
            refine lv_iconst (v := 1) hx hb dX6_advance_269 (by decide) ?_
            refine lv_icmp_eq (tgt := 281) hx hb dX6_advance_270 (by decide) (fun c_475 => (z_abs c_475 (by decide)).elim) (fun _ => ?_)
            refine lv_aload_n hx hb dX6_advance_273 rfl (lv_at hl 1 rfl) ?_
            refine va_get (D := D) (ci := 6) (v := .int 0) (C := RX6) (T := TX6) (N := 12) hx hb ht inX6 hown hK hP 0 rfl rfl 7 (by decide) (ht (.fieldLink RX6 44 "CloneVolumes$Reader" "kind" "I") fl_X6_44) (fun _ h9 => h9) rfl dX6_advance_274 ?_
            refine lv_iconst (v := 2) hx hb dX6_advance_277 (by decide) ?_
            refine lv_icmp_ne (tgt := 300) hx hb dX6_advance_278 (by decide) (fun _ => ?_) (fun c_477 => (z_abs c_477 (by decide)).elim)
            have hP9 := hP.sub (ws' := [(h0, .inr (6, [.int 0, .int pl, .ref h1, .ref h2, .ref h3, .int mo, .int (nI op), .int 0, .int (nI (sp + i_3)), .int (nI (sp + i_3)), .int (-1), .int (f (sp + i_3))])), (h1, .inr (9, [.ref h4, .int (nI n)])), (h4, .inl (D.1 13, 1600, .inl f)), (h2, .inl (D.1 14, 179, .inl fw))]) [0, 1, 2, 3] rfl
            have hD9 := hD.sub (ws' := [(h0, .inr (6, [.int 0, .int pl, .ref h1, .ref h2, .ref h3, .int mo, .int (nI op), .int 0, .int (nI (sp + i_3)), .int (nI (sp + i_3)), .int (-1), .int (f (sp + i_3))])), (h1, .inr (9, [.ref h4, .int (nI n)])), (h4, .inl (D.1 13, 1600, .inl f)), (h2, .inl (D.1 14, 179, .inl fw))]) [0, 1, 2, 3] (by decide) rfl
            refine W.widen (k := 0) (n := 0) (Nat.le_of_ble_eq_true rfl) (Nat.le_of_ble_eq_true rfl) ?_
            exact W.vret hx hb hr (fun t ht hW => ⟨⟨(0, (sp + i_3), (sp + i_3), (-1), (f (sp + i_3))), rfl, (by first | omega | (dsimp only; omega)), by rw [ht]; exact hP9, va_K.moved hW.alike hK, hD9⟩, hS.F ht⟩) hS.2.2 dX6_advance_300
          · skip
            refine lv_istore_n (lv' := [(1, .int (-1)), (0, .ref h0)]) hx hb dX6_advance_264 rfl hl (by decide) rfl (fun ls hl => ?_)
            refine lv_aload_n hx hb dX6_advance_265 rfl (lv_at hl 1 rfl) ?_
            refine va_get (D := D) (ci := 6) (v := .int 0) (C := RX6) (T := TX6) (N := 12) hx hb ht inX6 hown hK hP 0 rfl rfl 7 (by decide) (ht (.fieldLink RX6 44 "CloneVolumes$Reader" "kind" "I") fl_X6_44) (fun _ h9 => h9) rfl dX6_advance_266 ?_
            refine lv_iconst (v := 1) hx hb dX6_advance_269 (by decide) ?_
            refine lv_icmp_eq (tgt := 281) hx hb dX6_advance_270 (by decide) (fun c_479 => (z_abs c_479 (by decide)).elim) (fun _ => ?_)
            refine lv_aload_n hx hb dX6_advance_273 rfl (lv_at hl 1 rfl) ?_
            refine va_get (D := D) (ci := 6) (v := .int 0) (C := RX6) (T := TX6) (N := 12) hx hb ht inX6 hown hK hP 0 rfl rfl 7 (by decide) (ht (.fieldLink RX6 44 "CloneVolumes$Reader" "kind" "I") fl_X6_44) (fun _ h9 => h9) rfl dX6_advance_274 ?_
            refine lv_iconst (v := 2) hx hb dX6_advance_277 (by decide) ?_
            refine lv_icmp_ne (tgt := 300) hx hb dX6_advance_278 (by decide) (fun _ => ?_) (fun c_481 => (z_abs c_481 (by decide)).elim)
            have hP9 := hP.sub (ws' := [(h0, .inr (6, [.int 0, .int pl, .ref h1, .ref h2, .ref h3, .int mo, .int (nI op), .int 0, .int (nI (sp + i_3)), .int (nI (sp + i_3)), .int (-1), .int (f (sp + i_3))])), (h1, .inr (9, [.ref h4, .int (nI n)])), (h4, .inl (D.1 13, 1600, .inl f)), (h2, .inl (D.1 14, 179, .inl fw))]) [0, 1, 2, 3] rfl
            have hD9 := hD.sub (ws' := [(h0, .inr (6, [.int 0, .int pl, .ref h1, .ref h2, .ref h3, .int mo, .int (nI op), .int 0, .int (nI (sp + i_3)), .int (nI (sp + i_3)), .int (-1), .int (f (sp + i_3))])), (h1, .inr (9, [.ref h4, .int (nI n)])), (h4, .inl (D.1 13, 1600, .inl f)), (h2, .inl (D.1 14, 179, .inl fw))]) [0, 1, 2, 3] (by decide) rfl
            refine W.widen (k := 0) (n := 0) (Nat.le_of_ble_eq_true rfl) (Nat.le_of_ble_eq_true rfl) ?_
            exact W.vret hx hb hr (fun t ht hW => ⟨⟨(0, (sp + i_3), (sp + i_3), (-1), (f (sp + i_3))), rfl, (by first | omega | (dsimp only; omega)), by rw [ht]; exact hP9, va_K.moved hW.alike hK, hD9⟩, hS.F ht⟩) hS.2.2 dX6_advance_300
      · skip
        refine va_put (D := D) (ci := 6) (v := .int (-1)) (ty := .int) (C := RX6) (T := TX6) (N := 12) hx hb ht inX6 tyX6 tyX6_ok nmX6 hown hK hP hD hS 0 rfl rfl 11 (by decide) (ht (.fieldLink RX6 108 "CloneVolumes$Reader" "sign" "I") fl_X6_108) (fun _ h9 => h9) rfl (by decide +kernel) rfl rfl (Nat.le_of_ble_eq_true rfl) dX6_advance_86 (fun H locs hP hD hS => ?_)
        have hP : va_P D vwCl [(h0, .inr (6, [.int 0, .int pl, .ref h1, .ref h2, .ref h3, .int mo, .int (nI op), .int ki, .int (nI (sp + i_3)), .int (nI (sp + i_3)), .int (-1), .int (-1)])), (h1, .inr (9, [.ref h4, .int (nI n)])), (h4, .inl (D.1 13, 1600, .inl f)), (h2, .inl (D.1 14, 179, .inl fw))] H := hP
        have hD : va_D A [(h0, .inr (6, [.int 0, .int pl, .ref h1, .ref h2, .ref h3, .int mo, .int (nI op), .int ki, .int (nI (sp + i_3)), .int (nI (sp + i_3)), .int (-1), .int (-1)])), (h1, .inr (9, [.ref h4, .int (nI n)])), (h4, .inl (D.1 13, 1600, .inl f)), (h2, .inl (D.1 14, 179, .inl fw))] := hD
        refine lv_aload_n hx hb dX6_advance_89 rfl (lv_at hl 0 rfl) ?_
        refine va_get (D := D) (ci := 6) (v := .int (-1)) (C := RX6) (T := TX6) (N := 12) hx hb ht inX6 hown hK hP 0 rfl rfl 11 (by decide) (ht (.fieldLink RX6 108 "CloneVolumes$Reader" "sign" "I") fl_X6_108) (fun _ h9 => h9) rfl dX6_advance_90 ?_
        refine lv_iconst (v := (-1)) hx hb dX6_advance_93 (by decide) ?_
        refine lv_icmp_ne (tgt := 105) hx hb dX6_advance_94 (by decide) (fun c_483 => (z_abs c_483 (by decide)).elim) (fun _ => ?_)
        refine lv_aload_n hx hb dX6_advance_97 rfl (lv_at hl 0 rfl) ?_
        refine lv_iconst (v := 0) hx hb dX6_advance_98 (by decide) ?_
        refine va_put (D := D) (ci := 6) (v := .int 0) (ty := .int) (C := RX6) (T := TX6) (N := 12) hx hb ht inX6 tyX6 tyX6_ok nmX6 hown hK hP hD hS 0 rfl rfl 7 (by decide) (ht (.fieldLink RX6 44 "CloneVolumes$Reader" "kind" "I") fl_X6_44) (fun _ h9 => h9) rfl (by decide +kernel) rfl rfl (Nat.le_of_ble_eq_true rfl) dX6_advance_99 (fun H locs hP hD hS => ?_)
        have hP : va_P D vwCl [(h0, .inr (6, [.int 0, .int pl, .ref h1, .ref h2, .ref h3, .int mo, .int (nI op), .int 0, .int (nI (sp + i_3)), .int (nI (sp + i_3)), .int (-1), .int (-1)])), (h1, .inr (9, [.ref h4, .int (nI n)])), (h4, .inl (D.1 13, 1600, .inl f)), (h2, .inl (D.1 14, 179, .inl fw))] H := hP
        have hD : va_D A [(h0, .inr (6, [.int 0, .int pl, .ref h1, .ref h2, .ref h3, .int mo, .int (nI op), .int 0, .int (nI (sp + i_3)), .int (nI (sp + i_3)), .int (-1), .int (-1)])), (h1, .inr (9, [.ref h4, .int (nI n)])), (h4, .inl (D.1 13, 1600, .inl f)), (h2, .inl (D.1 14, 179, .inl fw))] := hD
        refine lv_goto (tgt := 251) hx hb dX6_advance_102 (by decide) ?_
        refine lv_aload_n hx hb dX6_advance_251 rfl (lv_at hl 0 rfl) ?_
        refine va_get (D := D) (ci := 6) (v := .ref h1) (C := RX6) (T := TX6) (N := 12) hx hb ht inX6 hown hK hP 0 rfl rfl 2 (by decide) (ht (.fieldLink RX6 27 "CloneVolumes$Reader" "tape" "LCloneVolumes$Tape;") fl_X6_27) (fun _ h9 => h9) rfl dX6_advance_252 ?_
        refine lv_aload_n hx hb dX6_advance_255 rfl (lv_at hl 0 rfl) ?_
        refine va_get (D := D) (ci := 6) (v := .int (nI (sp + i_3))) (C := RX6) (T := TX6) (N := 12) hx hb ht inX6 hown hK hP 0 rfl rfl 8 (by decide) (ht (.fieldLink RX6 51 "CloneVolumes$Reader" "start" "I") fl_X6_51) (fun _ h9 => h9) rfl dX6_advance_256 ?_
        refine lv_iconst (v := 1) hx hb dX6_advance_259 (by decide) ?_
        refine lv_isub hx hb dX6_advance_260 ?_
        refine lv_topi (fun x_485 ex_485 => ?_)
        refine zcV (As := [.int x_485]) (rest := []) (C := RX9) (n := 1) ⟨hx, hb, hml, hown, ht⟩ (k_X9_at l D h1 h4 n f x_485 (by first | decide | omega)) (zgV ml_X6_104 im_X9_at se_X9_at in_X9 co_X9_at) rfl rfl (by decide +kernel) ⟨Nat.le_of_ble_eq_true rfl, Nat.le_of_ble_eq_true rfl⟩ hK hP hS [1, 2] rfl 0 rfl rfl rfl rfl hl.1 rfl (Nat.le_of_ble_eq_true rfl) dX6_advance_261 ⟨Nat.le_of_ble_eq_true rfl, Nat.le_of_ble_eq_true rfl⟩ (fun r_486 H locs hw hP hS => ?_)
        rcases hw with ⟨rfl, g_487⟩ | ⟨rfl, g_488⟩
        · skip
          refine lv_istore_n (lv' := [(1, .int (f x_485.toNatClampNeg)), (0, .ref h0)]) hx hb dX6_advance_264 rfl hl (by decide) rfl (fun ls hl => ?_)
          refine lv_aload_n hx hb dX6_advance_265 rfl (lv_at hl 1 rfl) ?_
          refine va_get (D := D) (ci := 6) (v := .int 0) (C := RX6) (T := TX6) (N := 12) hx hb ht inX6 hown hK hP 0 rfl rfl 7 (by decide) (ht (.fieldLink RX6 44 "CloneVolumes$Reader" "kind" "I") fl_X6_44) (fun _ h9 => h9) rfl dX6_advance_266 ?_
          refine lv_iconst (v := 1) hx hb dX6_advance_269 (by decide) ?_
          refine lv_icmp_eq (tgt := 281) hx hb dX6_advance_270 (by decide) (fun c_489 => (z_abs c_489 (by decide)).elim) (fun _ => ?_)
          refine lv_aload_n hx hb dX6_advance_273 rfl (lv_at hl 1 rfl) ?_
          refine va_get (D := D) (ci := 6) (v := .int 0) (C := RX6) (T := TX6) (N := 12) hx hb ht inX6 hown hK hP 0 rfl rfl 7 (by decide) (ht (.fieldLink RX6 44 "CloneVolumes$Reader" "kind" "I") fl_X6_44) (fun _ h9 => h9) rfl dX6_advance_274 ?_
          refine lv_iconst (v := 2) hx hb dX6_advance_277 (by decide) ?_
          refine lv_icmp_ne (tgt := 300) hx hb dX6_advance_278 (by decide) (fun _ => ?_) (fun c_491 => (z_abs c_491 (by decide)).elim)
          have hP9 := hP.sub (ws' := [(h0, .inr (6, [.int 0, .int pl, .ref h1, .ref h2, .ref h3, .int mo, .int (nI op), .int 0, .int (nI (sp + i_3)), .int (nI (sp + i_3)), .int (-1), .int (-1)])), (h1, .inr (9, [.ref h4, .int (nI n)])), (h4, .inl (D.1 13, 1600, .inl f)), (h2, .inl (D.1 14, 179, .inl fw))]) [0, 1, 2, 3] rfl
          have hD9 := hD.sub (ws' := [(h0, .inr (6, [.int 0, .int pl, .ref h1, .ref h2, .ref h3, .int mo, .int (nI op), .int 0, .int (nI (sp + i_3)), .int (nI (sp + i_3)), .int (-1), .int (-1)])), (h1, .inr (9, [.ref h4, .int (nI n)])), (h4, .inl (D.1 13, 1600, .inl f)), (h2, .inl (D.1 14, 179, .inl fw))]) [0, 1, 2, 3] (by decide) rfl
          refine W.widen (k := 0) (n := 0) (Nat.le_of_ble_eq_true rfl) (Nat.le_of_ble_eq_true rfl) ?_
          exact W.vret hx hb hr (fun t ht hW => ⟨⟨(0, (sp + i_3), (sp + i_3), (-1), (-1)), rfl, (by first | omega | (dsimp only; omega)), by rw [ht]; exact hP9, va_K.moved hW.alike hK, hD9⟩, hS.F ht⟩) hS.2.2 dX6_advance_300
        · skip
          refine lv_istore_n (lv' := [(1, .int (-1)), (0, .ref h0)]) hx hb dX6_advance_264 rfl hl (by decide) rfl (fun ls hl => ?_)
          refine lv_aload_n hx hb dX6_advance_265 rfl (lv_at hl 1 rfl) ?_
          refine va_get (D := D) (ci := 6) (v := .int 0) (C := RX6) (T := TX6) (N := 12) hx hb ht inX6 hown hK hP 0 rfl rfl 7 (by decide) (ht (.fieldLink RX6 44 "CloneVolumes$Reader" "kind" "I") fl_X6_44) (fun _ h9 => h9) rfl dX6_advance_266 ?_
          refine lv_iconst (v := 1) hx hb dX6_advance_269 (by decide) ?_
          refine lv_icmp_eq (tgt := 281) hx hb dX6_advance_270 (by decide) (fun c_493 => (z_abs c_493 (by decide)).elim) (fun _ => ?_)
          refine lv_aload_n hx hb dX6_advance_273 rfl (lv_at hl 1 rfl) ?_
          refine va_get (D := D) (ci := 6) (v := .int 0) (C := RX6) (T := TX6) (N := 12) hx hb ht inX6 hown hK hP 0 rfl rfl 7 (by decide) (ht (.fieldLink RX6 44 "CloneVolumes$Reader" "kind" "I") fl_X6_44) (fun _ h9 => h9) rfl dX6_advance_274 ?_
          refine lv_iconst (v := 2) hx hb dX6_advance_277 (by decide) ?_
          refine lv_icmp_ne (tgt := 300) hx hb dX6_advance_278 (by decide) (fun _ => ?_) (fun c_495 => (z_abs c_495 (by decide)).elim)
          have hP9 := hP.sub (ws' := [(h0, .inr (6, [.int 0, .int pl, .ref h1, .ref h2, .ref h3, .int mo, .int (nI op), .int 0, .int (nI (sp + i_3)), .int (nI (sp + i_3)), .int (-1), .int (-1)])), (h1, .inr (9, [.ref h4, .int (nI n)])), (h4, .inl (D.1 13, 1600, .inl f)), (h2, .inl (D.1 14, 179, .inl fw))]) [0, 1, 2, 3] rfl
          have hD9 := hD.sub (ws' := [(h0, .inr (6, [.int 0, .int pl, .ref h1, .ref h2, .ref h3, .int mo, .int (nI op), .int 0, .int (nI (sp + i_3)), .int (nI (sp + i_3)), .int (-1), .int (-1)])), (h1, .inr (9, [.ref h4, .int (nI n)])), (h4, .inl (D.1 13, 1600, .inl f)), (h2, .inl (D.1 14, 179, .inl fw))]) [0, 1, 2, 3] (by decide) rfl
          refine W.widen (k := 0) (n := 0) (Nat.le_of_ble_eq_true rfl) (Nat.le_of_ble_eq_true rfl) ?_
          exact W.vret hx hb hr (fun t ht hW => ⟨⟨(0, (sp + i_3), (sp + i_3), (-1), (-1)), rfl, (by first | omega | (dsimp only; omega)), by rw [ht]; exact hP9, va_K.moved hW.alike hK, hD9⟩, hS.F ht⟩) hS.2.2 dX6_advance_300
