theorem fl_X7_37 : Cond.fieldLink RX7 37 "CloneVolumes$Sight" "fits" "I" ∈ lw_gd := zm (List.mem_of_getElem? (i := 379) (by decide +kernel)) rfl
theorem ml_X7_40 : Cond.methodLink RX7 40 yX8_isVolume ∈ lw_gd := zm (List.mem_of_getElem? (i := 1303) (by decide +kernel)) rfl
theorem ml_X11_262 : Cond.methodLink RX11 262 yX7_findFits ∈ lw_gd := zm (List.mem_of_getElem? (i := 1299) (by decide +kernel)) rfl
theorem im_X7_findFits : Cond.instanceMethod yX7_findFits ∈ lw_gd := zm (List.mem_of_getElem? (i := 1300) (by decide +kernel)) rfl
theorem se_X7_findFits : Cond.selects RX7 yX7_findFits yX7_findFits ∈ lw_gd := zm (List.mem_of_getElem? (i := 1301) (by decide +kernel)) rfl
theorem co_X7_findFits : Cond.code yX7_findFits cX7_findFits 3 (some .int) ∈ lw_gd := zm (List.mem_of_getElem? (i := 1302) (by decide +kernel)) rfl
theorem fl_X11_56 : Cond.fieldLink RX11 56 "CloneVolumes" "trees" "[J" ∈ lw_gd := zm (List.mem_of_getElem? (i := 707) (by decide +kernel)) rfl
theorem ml_X11_243 : Cond.methodLink RX11 243 yX11_growTrees ∈ lw_gd := zm (List.mem_of_getElem? (i := 1251) (by decide +kernel)) rfl
theorem im_X11_growTrees : Cond.instanceMethod yX11_growTrees ∈ lw_gd := zm (List.mem_of_getElem? (i := 1253) (by decide +kernel)) rfl
theorem se_X11_growTrees : Cond.selects RX11 yX11_growTrees yX11_growTrees ∈ lw_gd := zm (List.mem_of_getElem? (i := 50) (by decide +kernel)) rfl
theorem co_X11_growTrees : Cond.code yX11_growTrees cX11_growTrees 3 none ∈ lw_gd := zm (List.mem_of_getElem? (i := 1254) (by decide +kernel)) rfl
theorem dX11_fits_0 : decode cX11_fits 0 = .ok (.aload_n 0, 1) := by decide +kernel
theorem dX11_fits_1 : decode cX11_fits 1 = .ok (.getfield 35, 3) := by decide +kernel
theorem dX11_fits_4 : decode cX11_fits 4 = .ok (.aload_n 0, 1) := by decide +kernel
theorem dX11_fits_5 : decode cX11_fits 5 = .ok (.getfield 79, 3) := by decide +kernel
theorem dX11_fits_8 : decode cX11_fits 8 = .ok (.getfield 125, 3) := by decide +kernel
theorem dX11_fits_11 : decode cX11_fits 11 = .ok (.invokevirtual 262, 3) := by decide +kernel
theorem dX11_fits_14 : decode cX11_fits 14 = .ok (.istore_n 2, 1) := by decide +kernel
theorem dX11_fits_15 : decode cX11_fits 15 = .ok (.iload_n 1, 1) := by decide +kernel
theorem dX11_fits_16 : decode cX11_fits 16 = .ok (.iconst (-1), 1) := by decide +kernel
theorem dX11_fits_17 : decode cX11_fits 17 = .ok (.if_icmp .ne 5, 3) := by decide +kernel
theorem dX11_fits_20 : decode cX11_fits 20 = .ok (.iload_n 2, 1) := by decide +kernel
theorem dX11_fits_21 : decode cX11_fits 21 = .ok (.ireturn, 1) := by decide +kernel
theorem dX11_fits_22 : decode cX11_fits 22 = .ok (.iload_n 1, 1) := by decide +kernel
theorem dX11_fits_23 : decode cX11_fits 23 = .ok (.ifCond .lt 20, 3) := by decide +kernel
theorem dX11_fits_26 : decode cX11_fits 26 = .ok (.iload_n 1, 1) := by decide +kernel
theorem dX11_fits_27 : decode cX11_fits 27 = .ok (.iload_n 2, 1) := by decide +kernel
theorem dX11_fits_28 : decode cX11_fits 28 = .ok (.if_icmp .ge 15, 3) := by decide +kernel
theorem dX11_fits_43 : decode cX11_fits 43 = .ok (.iconst (-1), 1) := by decide +kernel
theorem dX11_fits_44 : decode cX11_fits 44 = .ok (.ireturn, 1) := by decide +kernel
theorem dX11_growTrees_0 : decode cX11_growTrees 0 = .ok (.aload_n 0, 1) := by decide +kernel
theorem dX11_growTrees_1 : decode cX11_growTrees 1 = .ok (.getfield 79, 3) := by decide +kernel
theorem dX11_growTrees_4 : decode cX11_growTrees 4 = .ok (.getfield 125, 3) := by decide +kernel
theorem dX11_growTrees_7 : decode cX11_growTrees 7 = .ok (.astore_n 1, 1) := by decide +kernel
theorem dX11_growTrees_8 : decode cX11_growTrees 8 = .ok (.iconst 0, 1) := by decide +kernel
theorem dX11_growTrees_9 : decode cX11_growTrees 9 = .ok (.istore_n 2, 1) := by decide +kernel
theorem dX11_growTrees_10 : decode cX11_growTrees 10 = .ok (.iload_n 2, 1) := by decide +kernel
theorem dX11_growTrees_11 : decode cX11_growTrees 11 = .ok (.bipush 8, 2) := by decide +kernel
theorem dX11_growTrees_13 : decode cX11_growTrees 13 = .ok (.if_icmp .ge 41, 3) := by decide +kernel
theorem dX11_growTrees_16 : decode cX11_growTrees 16 = .ok (.aload_n 0, 1) := by decide +kernel
theorem dX11_growTrees_17 : decode cX11_growTrees 17 = .ok (.getfield 56, 3) := by decide +kernel
theorem dX11_growTrees_20 : decode cX11_growTrees 20 = .ok (.iload_n 2, 1) := by decide +kernel
theorem dX11_growTrees_21 : decode cX11_growTrees 21 = .ok (.aload_n 1, 1) := by decide +kernel
theorem dX11_growTrees_22 : decode cX11_growTrees 22 = .ok (.iload_n 2, 1) := by decide +kernel
theorem dX11_growTrees_23 : decode cX11_growTrees 23 = .ok (.invokevirtual 161, 3) := by decide +kernel
theorem dX11_growTrees_26 : decode cX11_growTrees 26 = .ok (.ifCond .eq 20, 3) := by decide +kernel
theorem dX11_growTrees_46 : decode cX11_growTrees 46 = .ok (.lconst 0, 1) := by decide +kernel
theorem dX11_growTrees_47 : decode cX11_growTrees 47 = .ok (.lastore, 1) := by decide +kernel
theorem dX11_growTrees_48 : decode cX11_growTrees 48 = .ok (.iinc 2 1, 3) := by decide +kernel
theorem dX11_growTrees_51 : decode cX11_growTrees 51 = .ok (.goto (-41), 3) := by decide +kernel
theorem dX11_growTrees_54 : decode cX11_growTrees 54 = .ok (.return_, 1) := by decide +kernel
theorem dX11_tells_0 : decode cX11_tells 0 = .ok (.aload_n 0, 1) := by decide +kernel
theorem dX11_tells_1 : decode cX11_tells 1 = .ok (.getfield 35, 3) := by decide +kernel
theorem dX11_tells_4 : decode cX11_tells 4 = .ok (.aload_n 0, 1) := by decide +kernel
theorem dX11_tells_5 : decode cX11_tells 5 = .ok (.getfield 79, 3) := by decide +kernel
theorem dX11_tells_8 : decode cX11_tells 8 = .ok (.getfield 125, 3) := by decide +kernel
theorem dX11_tells_11 : decode cX11_tells 11 = .ok (.invokevirtual 262, 3) := by decide +kernel
theorem dX11_tells_14 : decode cX11_tells 14 = .ok (.ifCond .ne 5, 3) := by decide +kernel
theorem dX11_tells_17 : decode cX11_tells 17 = .ok (.iconst (-1), 1) := by decide +kernel
theorem dX11_tells_18 : decode cX11_tells 18 = .ok (.ireturn, 1) := by decide +kernel
theorem dX11_worst_0 : decode cX11_worst 0 = .ok (.aload_n 0, 1) := by decide +kernel
theorem dX11_worst_1 : decode cX11_worst 1 = .ok (.invokevirtual 243, 3) := by decide +kernel
theorem dX11_worst_4 : decode cX11_worst 4 = .ok (.iconst (-1), 1) := by decide +kernel
theorem dX11_worst_5 : decode cX11_worst 5 = .ok (.istore_n 2, 1) := by decide +kernel
theorem dX11_worst_6 : decode cX11_worst 6 = .ok (.iconst 0, 1) := by decide +kernel
theorem dX11_worst_7 : decode cX11_worst 7 = .ok (.istore_n 3, 1) := by decide +kernel
theorem dX11_worst_8 : decode cX11_worst 8 = .ok (.iconst 0, 1) := by decide +kernel
theorem dX11_worst_9 : decode cX11_worst 9 = .ok (.istore 4, 2) := by decide +kernel
theorem dX11_worst_11 : decode cX11_worst 11 = .ok (.iload 4, 2) := by decide +kernel
theorem dX11_worst_13 : decode cX11_worst 13 = .ok (.aload_n 0, 1) := by decide +kernel
theorem dX11_worst_14 : decode cX11_worst 14 = .ok (.getfield 79, 3) := by decide +kernel
theorem dX11_worst_17 : decode cX11_worst 17 = .ok (.getfield 125, 3) := by decide +kernel
theorem dX11_worst_20 : decode cX11_worst 20 = .ok (.getfield 129, 3) := by decide +kernel
theorem dX11_worst_23 : decode cX11_worst 23 = .ok (.if_icmp .ge 29, 3) := by decide +kernel
theorem dX11_worst_52 : decode cX11_worst 52 = .ok (.iload_n 2, 1) := by decide +kernel
theorem dX11_worst_53 : decode cX11_worst 53 = .ok (.iconst (-1), 1) := by decide +kernel
theorem dX11_worst_54 : decode cX11_worst 54 = .ok (.if_icmp .ne 5, 3) := by decide +kernel
theorem dX11_worst_57 : decode cX11_worst 57 = .ok (.iconst (-1), 1) := by decide +kernel
theorem dX11_worst_58 : decode cX11_worst 58 = .ok (.ireturn, 1) := by decide +kernel
theorem dX7_findFits_0 : decode cX7_findFits 0 = .ok (.aload_n 0, 1) := by decide +kernel
theorem dX7_findFits_1 : decode cX7_findFits 1 = .ok (.iconst 0, 1) := by decide +kernel
theorem dX7_findFits_2 : decode cX7_findFits 2 = .ok (.putfield 37, 3) := by decide +kernel
theorem dX7_findFits_5 : decode cX7_findFits 5 = .ok (.iconst 0, 1) := by decide +kernel
theorem dX7_findFits_6 : decode cX7_findFits 6 = .ok (.istore_n 2, 1) := by decide +kernel
theorem dX7_findFits_7 : decode cX7_findFits 7 = .ok (.iload_n 2, 1) := by decide +kernel
theorem dX7_findFits_8 : decode cX7_findFits 8 = .ok (.bipush 8, 2) := by decide +kernel
theorem dX7_findFits_10 : decode cX7_findFits 10 = .ok (.if_icmp .ge 46, 3) := by decide +kernel
theorem dX7_findFits_13 : decode cX7_findFits 13 = .ok (.aload_n 1, 1) := by decide +kernel
theorem dX7_findFits_14 : decode cX7_findFits 14 = .ok (.iload_n 2, 1) := by decide +kernel
theorem dX7_findFits_15 : decode cX7_findFits 15 = .ok (.invokevirtual 40, 3) := by decide +kernel
theorem dX7_findFits_18 : decode cX7_findFits 18 = .ok (.ifCond .eq 32, 3) := by decide +kernel
theorem dX7_findFits_50 : decode cX7_findFits 50 = .ok (.iinc 2 1, 3) := by decide +kernel
theorem dX7_findFits_53 : decode cX7_findFits 53 = .ok (.goto (-46), 3) := by decide +kernel
theorem dX7_findFits_56 : decode cX7_findFits 56 = .ok (.aload_n 0, 1) := by decide +kernel
theorem dX7_findFits_57 : decode cX7_findFits 57 = .ok (.getfield 37, 3) := by decide +kernel
theorem dX7_findFits_60 : decode cX7_findFits 60 = .ok (.ireturn, 1) := by decide +kernel
set_option maxHeartbeats 4000000 in
set_option maxRecDepth 100000 in
theorem k_X7_findFits (l : Launch) (D : va_G) (sz : Nat) (a : Nat → Nat)  : Met l yX7_findFits (wz yX7_findFits cX7_findFits 3 (some .int)) { frames := 1, cells := 0, slots := 0, locals := 60 } (va_Pc [.ref (a 4), .ref (a 13)] (zW D sz [((a 4), .inr (7, [.int 0, .ref (a 26), .ref (a 27), .ref (a 28), .int 0, .ref (a 29)])), ((a 13), .inr (8, [.int 0, .int 0, .long 0, .ref (a 60), .ref (a 61), .ref (a 62), .ref (a 63), .ref (a 64), .ref (a 65), .ref (a 66), .ref (a 67)])), ((a 66), .inl (D.1 13, 8, .inl (fun _ => (-2))))])) (va_Qi (fun r (_ : Unit) => r = 0) (fun u t => zB D (va_A [((a 4), .inr (7, [.int 0, .ref (a 26), .ref (a 27), .ref (a 28), .int 0, .ref (a 29)])), ((a 13), .inr (8, [.int 0, .int 0, .long 0, .ref (a 60), .ref (a 61), .ref (a 62), .ref (a 63), .ref (a 64), .ref (a 65), .ref (a 66), .ref (a 67)])), ((a 66), .inl (D.1 13, 8, .inl (fun _ => (-2))))] sz) ((fun (_ : Unit) => []) u) t) (va_A [((a 4), .inr (7, [.int 0, .ref (a 26), .ref (a 27), .ref (a 28), .int 0, .ref (a 29)])), ((a 13), .inr (8, [.int 0, .int 0, .long 0, .ref (a 60), .ref (a 61), .ref (a 62), .ref (a 63), .ref (a 64), .ref (a 65), .ref (a 66), .ref (a 67)])), ((a 66), .inl (D.1 13, 8, .inl (fun _ => (-2))))] sz)) 0 0 (va_A [((a 4), .inr (7, [.int 0, .ref (a 26), .ref (a 27), .ref (a 28), .int 0, .ref (a 29)])), ((a 13), .inr (8, [.int 0, .int 0, .long 0, .ref (a 60), .ref (a 61), .ref (a 62), .ref (a 63), .ref (a 64), .ref (a 65), .ref (a 66), .ref (a 67)])), ((a 66), .inl (D.1 13, 8, .inl (fun _ => (-2))))] sz) := by
  refine Met.ofW (cc := cX7_findFits) (maxL := 3) (ret := (some .int)) (by decide) rfl ?_
  intro p e s m args below meth c s₁ B hml hv
  obtain ⟨rfl, hsz, hP, hK, hD0⟩ := hv
  have hx := B.exec
  have hb := B.bytes
  have hr := B.returns
  have hts := atoms_spec (ws := wz yX7_findFits cX7_findFits 3 (some .int)) B.pre
  have ht : ∀ w ∈ lw_gd, w.before _ s = true := fun w h => hts w (List.mem_cons_of_mem _ h)
  have hown : s.vm.findClass RX7 = some m.cls := findClass_of_methodNamed B.named
  have hlocks := B.notSynchronized
  subst hsz
  have hD := hD0.self (sz := s.heap.size)
  generalize hAe : va_A [((a 4), .inr (7, [.int 0, .ref (a 26), .ref (a 27), .ref (a 28), .int 0, .ref (a 29)])), ((a 13), .inr (8, [.int 0, .int 0, .long 0, .ref (a 60), .ref (a 61), .ref (a 62), .ref (a 63), .ref (a 64), .ref (a 65), .ref (a 66), .ref (a 67)])), ((a 66), .inl (D.1 13, 8, .inl (fun _ => (-2))))] s.heap.size = A at hD ⊢
  have hA : ∀ q : Nat, s.heap.size ≤ q → A q := fun q h => by rw [← hAe]; exact Or.inr h
  have hS : va_S A s.heap s.heap [] := va_S.rf
  have hl := lv_entry ([.ref (a 4), .ref (a 13)]) (n := 3) (Nat.le_of_ble_eq_true rfl)
  rw [lg_entry_eq]
  generalize (lg_sl ([.ref (a 4), .ref (a 13)]) ++ List.replicate (3 - (lg_sl ([.ref (a 4), .ref (a 13)])).length) Slot.unset).toArray = ls at hl ⊢
  have hl : lv_has ls 3 [(0, .ref (a 4)), (1, .ref (a 13))] := hl
  refine lv_aload_n hx hb dX7_findFits_0 rfl (lv_at hl 0 rfl) ?_
  refine lv_iconst (v := 0) hx hb dX7_findFits_1 (by decide) ?_
  refine va_put (D := D) (ci := 7) (v := .int 0) (ty := .int) (C := RX7) (T := TX7) (N := 6) hx hb ht inX7 tyX7 tyX7_ok nmX7 hown hK hP hD hS 0 rfl rfl 4 (by decide) (ht (.fieldLink RX7 37 "CloneVolumes$Sight" "fits" "I") fl_X7_37) (fun _ h9 => h9) rfl (by decide +kernel) rfl rfl (Nat.le_of_ble_eq_true rfl) dX7_findFits_2 (fun H locs hP hD hS => ?_)
  have hP : va_P D vwCl [((a 4), .inr (7, [.int 0, .ref (a 26), .ref (a 27), .ref (a 28), .int 0, .ref (a 29)])), ((a 13), .inr (8, [.int 0, .int 0, .long 0, .ref (a 60), .ref (a 61), .ref (a 62), .ref (a 63), .ref (a 64), .ref (a 65), .ref (a 66), .ref (a 67)])), ((a 66), .inl (D.1 13, 8, .inl (fun _ => (-2))))] H := hP
  have hD : va_D A [((a 4), .inr (7, [.int 0, .ref (a 26), .ref (a 27), .ref (a 28), .int 0, .ref (a 29)])), ((a 13), .inr (8, [.int 0, .int 0, .long 0, .ref (a 60), .ref (a 61), .ref (a 62), .ref (a 63), .ref (a 64), .ref (a 65), .ref (a 66), .ref (a 67)])), ((a 66), .inl (D.1 13, 8, .inl (fun _ => (-2))))] := hD
  refine lv_iconst (v := 0) hx hb dX7_findFits_5 (by decide) ?_
  refine lv_istore_n (lv' := [(2, .int 0), (0, .ref (a 4)), (1, .ref (a 13))]) hx hb dX7_findFits_6 rfl hl (by decide) rfl (fun ls hl => ?_)
  refine z_loop (σ := Unit) (N := 8) (fun i u H locs ls => va_P D vwCl [((a 4), .inr (7, [.int 0, .ref (a 26), .ref (a 27), .ref (a 28), .int 0, .ref (a 29)])), ((a 13), .inr (8, [.int 0, .int 0, .long 0, .ref (a 60), .ref (a 61), .ref (a 62), .ref (a 63), .ref (a 64), .ref (a 65), .ref (a 66), .ref (a 67)])), ((a 66), .inl (D.1 13, 8, .inl (fun _ => (-2))))] H ∧ va_D A [((a 4), .inr (7, [.int 0, .ref (a 26), .ref (a 27), .ref (a 28), .int 0, .ref (a 29)])), ((a 13), .inr (8, [.int 0, .int 0, .long 0, .ref (a 60), .ref (a 61), .ref (a 62), .ref (a 63), .ref (a 64), .ref (a 65), .ref (a 66), .ref (a 67)])), ((a 66), .inl (D.1 13, 8, .inl (fun _ => (-2))))] ∧ va_S A s.heap H locs ∧ lv_has ls 3 [(2, .int (nI i)), (0, .ref (a 4)), (1, .ref (a 13))]) (fun i_1 _u H locs ls hi_i_1 hI ih_7 => ?_) 0 () (by decide) ⟨hP, hD, hS, lv_sub hl [0, 1, 2] rfl⟩
  obtain ⟨hP, hD, hS, hl⟩ := hI
  have hP : va_P D vwCl [((a 4), .inr (7, [.int 0, .ref (a 26), .ref (a 27), .ref (a 28), .int 0, .ref (a 29)])), ((a 13), .inr (8, [.int 0, .int 0, .long 0, .ref (a 60), .ref (a 61), .ref (a 62), .ref (a 63), .ref (a 64), .ref (a 65), .ref (a 66), .ref (a 67)])), ((a 66), .inl (D.1 13, 8, .inl (fun _ => (-2))))] H := hP
  have hD : va_D A [((a 4), .inr (7, [.int 0, .ref (a 26), .ref (a 27), .ref (a 28), .int 0, .ref (a 29)])), ((a 13), .inr (8, [.int 0, .int 0, .long 0, .ref (a 60), .ref (a 61), .ref (a 62), .ref (a 63), .ref (a 64), .ref (a 65), .ref (a 66), .ref (a 67)])), ((a 66), .inl (D.1 13, 8, .inl (fun _ => (-2))))] := hD
  have hl : lv_has ls 3 [(2, .int (nI i_1)), (0, .ref (a 4)), (1, .ref (a 13))] := hl
  refine lv_iload_n hx hb dX7_findFits_7 rfl (lv_at hl 0 rfl) ?_
  refine lv_bipush (v := 8) hx hb dX7_findFits_8 (by decide) ?_
  refine lv_icmp_ge (tgt := 56) hx hb dX7_findFits_10 (by decide) (fun c_2 => ?_) (fun c_2 => ?_)
  · have g_3 : 8 ≤ ((i_1 : Nat) : Int) := z_le (by decide) (nI_toInt (by omega)) c_2
    obtain rfl : i_1 = 8 := by omega
    have hP : va_P D vwCl [((a 4), .inr (7, [.int 0, .ref (a 26), .ref (a 27), .ref (a 28), .int 0, .ref (a 29)])), ((a 13), .inr (8, [.int 0, .int 0, .long 0, .ref (a 60), .ref (a 61), .ref (a 62), .ref (a 63), .ref (a 64), .ref (a 65), .ref (a 66), .ref (a 67)])), ((a 66), .inl (D.1 13, 8, .inl (fun _ => (-2))))] H := hP
    have hD : va_D A [((a 4), .inr (7, [.int 0, .ref (a 26), .ref (a 27), .ref (a 28), .int 0, .ref (a 29)])), ((a 13), .inr (8, [.int 0, .int 0, .long 0, .ref (a 60), .ref (a 61), .ref (a 62), .ref (a 63), .ref (a 64), .ref (a 65), .ref (a 66), .ref (a 67)])), ((a 66), .inl (D.1 13, 8, .inl (fun _ => (-2))))] := hD
    have hl : lv_has ls 3 [(2, .int 8), (0, .ref (a 4)), (1, .ref (a 13))] := hl
    refine lv_aload_n hx hb dX7_findFits_56 rfl (lv_at hl 1 rfl) ?_
    refine va_get (D := D) (ci := 7) (v := .int 0) (C := RX7) (T := TX7) (N := 6) hx hb ht inX7 hown hK hP 0 rfl rfl 4 (by decide) (ht (.fieldLink RX7 37 "CloneVolumes$Sight" "fits" "I") fl_X7_37) (fun _ h9 => h9) rfl dX7_findFits_57 ?_
    have hP9 := hP.sub (ws' := []) [] rfl
    have hD9 := hD.sub (ws' := []) [] (by decide) rfl
    refine W.widen (k := 0) (n := 0) (Nat.le_of_ble_eq_true rfl) (Nat.le_of_ble_eq_true rfl) ?_
    exact W.iret (v := 0) hx hb hr (fun t ht hW => ⟨⟨0, (), rfl, rfl, by rw [ht]; exact hP9, va_K.moved hW.alike hK, hD9⟩, hS.F ht⟩) hS.2.2 dX7_findFits_60
  · have g_3 : ((i_1 : Nat) : Int) < 8 := z_nle (by decide) (nI_toInt (by omega)) c_2
    refine lv_aload_n hx hb dX7_findFits_13 rfl (lv_at hl 2 rfl) ?_
    refine lv_iload_n hx hb dX7_findFits_14 rfl (lv_at hl 0 rfl) ?_
    refine zcV (As := [.int (nI i_1)]) (rest := []) (C := RX8) (n := 1) ⟨hx, hb, hml, hown, ht⟩ (k_X8_isVolume l D a (nI i_1)) (zgV ml_X7_40 im_X8_isVolume se_X8_isVolume in_X8 co_X8_isVolume) rfl rfl (by decide +kernel) ⟨Nat.le_of_ble_eq_true rfl, Nat.le_of_ble_eq_true rfl⟩ hK hP hS [1, 2] rfl 0 rfl rfl rfl rfl hl.1 rfl (Nat.le_of_ble_eq_true rfl) dX7_findFits_15 ⟨Nat.le_of_ble_eq_true rfl, Nat.le_of_ble_eq_true rfl⟩ (fun r_4 H locs hw hP hS => ?_)
    subst hw
    refine lv_if_eq (tgt := 50) hx hb dX7_findFits_18 (by decide) (fun _ => ?_) (fun c_5 => (z_abs c_5 (by decide)).elim)
    refine lv_iinc (v := nI (i_1 + 1)) (lv' := [(2, .int (nI (i_1 + 1))), (0, .ref (a 4)), (1, .ref (a 13))]) hx hb dX7_findFits_50 hl (k := 0) rfl (z_inc _) (by decide) rfl (fun ls hl => ?_)
    refine lv_goto (tgt := 7) hx hb dX7_findFits_53 (by decide) ?_
    exact ih_7 () _ _ _ (by omega) ⟨hP.sub [0, 1, 2] rfl, hD.sub [0, 1, 2] (by decide) rfl, hS, lv_sub hl [0, 1, 2] rfl⟩
set_option maxHeartbeats 4000000 in
set_option maxRecDepth 100000 in
theorem k_X11_fits (l : Launch) (D : va_G) (sz : Nat) (a : Nat → Nat) (p0 : Int32) : Met l yX11_fits (wz yX11_fits cX11_fits 3 (some .int)) { frames := 2, cells := 0, slots := 0, locals := 120 } (va_Pc [.ref (a 0), .int p0] (zW D sz [((a 0), .inr (11, [.ref (a 1), .ref (a 2), .ref (a 3), .ref (a 4), .ref (a 5), .ref (a 6), .ref (a 7), .ref (a 8), .ref (a 9), .ref (a 10), .ref (a 11), .ref (a 12), .int 0])), ((a 4), .inr (7, [.int 0, .ref (a 26), .ref (a 27), .ref (a 28), .int 0, .ref (a 29)])), ((a 12), .inr (1, [.ref (a 13), .ref (a 14), .ref (a 15), .int 1, .ref (a 10), .ref (a 16), .ref (a 17), .ref (a 18), .ref (a 19)])), ((a 13), .inr (8, [.int 0, .int 0, .long 0, .ref (a 60), .ref (a 61), .ref (a 62), .ref (a 63), .ref (a 64), .ref (a 65), .ref (a 66), .ref (a 67)])), ((a 66), .inl (D.1 13, 8, .inl (fun _ => (-2))))])) (va_Qi (fun r (_ : Unit) => (r = (-1) ∧ ¬ p0.toInt = (-1) ∧ p0.toInt < 0) ∨ (r = (-1) ∧ ¬ p0.toInt = (-1) ∧ 0 ≤ p0.toInt ∧ 0 ≤ p0.toInt) ∨ (r = 0 ∧ p0.toInt = (-1))) (fun u t => zB D (va_A [((a 0), .inr (11, [.ref (a 1), .ref (a 2), .ref (a 3), .ref (a 4), .ref (a 5), .ref (a 6), .ref (a 7), .ref (a 8), .ref (a 9), .ref (a 10), .ref (a 11), .ref (a 12), .int 0])), ((a 4), .inr (7, [.int 0, .ref (a 26), .ref (a 27), .ref (a 28), .int 0, .ref (a 29)])), ((a 12), .inr (1, [.ref (a 13), .ref (a 14), .ref (a 15), .int 1, .ref (a 10), .ref (a 16), .ref (a 17), .ref (a 18), .ref (a 19)])), ((a 13), .inr (8, [.int 0, .int 0, .long 0, .ref (a 60), .ref (a 61), .ref (a 62), .ref (a 63), .ref (a 64), .ref (a 65), .ref (a 66), .ref (a 67)])), ((a 66), .inl (D.1 13, 8, .inl (fun _ => (-2))))] sz) ((fun (_ : Unit) => []) u) t) (va_A [((a 0), .inr (11, [.ref (a 1), .ref (a 2), .ref (a 3), .ref (a 4), .ref (a 5), .ref (a 6), .ref (a 7), .ref (a 8), .ref (a 9), .ref (a 10), .ref (a 11), .ref (a 12), .int 0])), ((a 4), .inr (7, [.int 0, .ref (a 26), .ref (a 27), .ref (a 28), .int 0, .ref (a 29)])), ((a 12), .inr (1, [.ref (a 13), .ref (a 14), .ref (a 15), .int 1, .ref (a 10), .ref (a 16), .ref (a 17), .ref (a 18), .ref (a 19)])), ((a 13), .inr (8, [.int 0, .int 0, .long 0, .ref (a 60), .ref (a 61), .ref (a 62), .ref (a 63), .ref (a 64), .ref (a 65), .ref (a 66), .ref (a 67)])), ((a 66), .inl (D.1 13, 8, .inl (fun _ => (-2))))] sz)) 0 0 (va_A [((a 0), .inr (11, [.ref (a 1), .ref (a 2), .ref (a 3), .ref (a 4), .ref (a 5), .ref (a 6), .ref (a 7), .ref (a 8), .ref (a 9), .ref (a 10), .ref (a 11), .ref (a 12), .int 0])), ((a 4), .inr (7, [.int 0, .ref (a 26), .ref (a 27), .ref (a 28), .int 0, .ref (a 29)])), ((a 12), .inr (1, [.ref (a 13), .ref (a 14), .ref (a 15), .int 1, .ref (a 10), .ref (a 16), .ref (a 17), .ref (a 18), .ref (a 19)])), ((a 13), .inr (8, [.int 0, .int 0, .long 0, .ref (a 60), .ref (a 61), .ref (a 62), .ref (a 63), .ref (a 64), .ref (a 65), .ref (a 66), .ref (a 67)])), ((a 66), .inl (D.1 13, 8, .inl (fun _ => (-2))))] sz) := by
  refine Met.ofW (cc := cX11_fits) (maxL := 3) (ret := (some .int)) (by decide) rfl ?_
  intro p e s m args below meth c s₁ B hml hv
  obtain ⟨rfl, hsz, hP, hK, hD0⟩ := hv
  have hx := B.exec
  have hb := B.bytes
  have hr := B.returns
  have hts := atoms_spec (ws := wz yX11_fits cX11_fits 3 (some .int)) B.pre
  have ht : ∀ w ∈ lw_gd, w.before _ s = true := fun w h => hts w (List.mem_cons_of_mem _ h)
  have hown : s.vm.findClass RX11 = some m.cls := findClass_of_methodNamed B.named
  have hlocks := B.notSynchronized
  subst hsz
  have hD := hD0.self (sz := s.heap.size)
  generalize hAe : va_A [((a 0), .inr (11, [.ref (a 1), .ref (a 2), .ref (a 3), .ref (a 4), .ref (a 5), .ref (a 6), .ref (a 7), .ref (a 8), .ref (a 9), .ref (a 10), .ref (a 11), .ref (a 12), .int 0])), ((a 4), .inr (7, [.int 0, .ref (a 26), .ref (a 27), .ref (a 28), .int 0, .ref (a 29)])), ((a 12), .inr (1, [.ref (a 13), .ref (a 14), .ref (a 15), .int 1, .ref (a 10), .ref (a 16), .ref (a 17), .ref (a 18), .ref (a 19)])), ((a 13), .inr (8, [.int 0, .int 0, .long 0, .ref (a 60), .ref (a 61), .ref (a 62), .ref (a 63), .ref (a 64), .ref (a 65), .ref (a 66), .ref (a 67)])), ((a 66), .inl (D.1 13, 8, .inl (fun _ => (-2))))] s.heap.size = A at hD ⊢
  have hA : ∀ q : Nat, s.heap.size ≤ q → A q := fun q h => by rw [← hAe]; exact Or.inr h
  have hS : va_S A s.heap s.heap [] := va_S.rf
  have hl := lv_entry ([.ref (a 0), .int p0]) (n := 3) (Nat.le_of_ble_eq_true rfl)
  rw [lg_entry_eq]
  generalize (lg_sl ([.ref (a 0), .int p0]) ++ List.replicate (3 - (lg_sl ([.ref (a 0), .int p0])).length) Slot.unset).toArray = ls at hl ⊢
  have hl : lv_has ls 3 [(0, .ref (a 0)), (1, .int p0)] := hl
  refine lv_aload_n hx hb dX11_fits_0 rfl (lv_at hl 0 rfl) ?_
  refine va_get (D := D) (ci := 11) (v := .ref (a 4)) (C := RX11) (T := TX11) (N := 13) hx hb ht inX11 hown hK hP 0 rfl rfl 3 (by decide) (ht (.fieldLink RX11 35 "CloneVolumes" "sight" "LCloneVolumes$Sight;") fl_X11_35) (fun _ h9 => h9) rfl dX11_fits_1 ?_
  refine lv_aload_n hx hb dX11_fits_4 rfl (lv_at hl 0 rfl) ?_
  refine va_get (D := D) (ci := 11) (v := .ref (a 12)) (C := RX11) (T := TX11) (N := 13) hx hb ht inX11 hown hK hP 0 rfl rfl 11 (by decide) (ht (.fieldLink RX11 79 "CloneVolumes" "forest" "LCloneVolumes$Forest;") fl_X11_79) (fun _ h9 => h9) rfl dX11_fits_5 ?_
  refine va_get (D := D) (ci := 1) (v := .ref (a 13)) (C := RX1) (T := TX1) (N := 9) hx hb ht inX1 hown hK hP 2 rfl rfl 0 (by decide) (ht (.fieldLink RX11 125 "CloneVolumes$Forest" "now" "LCloneVolumes$State;") fl_X11_125) (fun _ h9 => h9) rfl dX11_fits_8 ?_
  refine zwV (As := [.ref (a 13)]) (rest := []) (C := RX7) (n := 1) (wr := [((a 0), .inr (11, [.ref (a 1), .ref (a 2), .ref (a 3), .ref (a 4), .ref (a 5), .ref (a 6), .ref (a 7), .ref (a 8), .ref (a 9), .ref (a 10), .ref (a 11), .ref (a 12), .int 0])), ((a 12), .inr (1, [.ref (a 13), .ref (a 14), .ref (a 15), .int 1, .ref (a 10), .ref (a 16), .ref (a 17), .ref (a 18), .ref (a 19)]))]) ⟨hx, hb, hml, hown, ht⟩ (k_X7_findFits l D _ a) (zgV ml_X11_262 im_X7_findFits se_X7_findFits in_X7 co_X7_findFits) rfl rfl (by decide +kernel) ⟨Nat.le_of_ble_eq_true rfl, Nat.le_of_ble_eq_true rfl⟩ hK hP hD hS hA [1, 3, 4] [0, 2] rfl rfl rfl rfl (by decide) 0 rfl rfl rfl rfl hl.1 rfl (Nat.le_of_ble_eq_true rfl) dX11_fits_11 ⟨Nat.le_of_ble_eq_true rfl, Nat.le_of_ble_eq_true rfl⟩ (fun r_2 u_1 H locs hw hP hD hS => ?_)
  have hP : va_P D vwCl [((a 0), .inr (11, [.ref (a 1), .ref (a 2), .ref (a 3), .ref (a 4), .ref (a 5), .ref (a 6), .ref (a 7), .ref (a 8), .ref (a 9), .ref (a 10), .ref (a 11), .ref (a 12), .int 0])), ((a 12), .inr (1, [.ref (a 13), .ref (a 14), .ref (a 15), .int 1, .ref (a 10), .ref (a 16), .ref (a 17), .ref (a 18), .ref (a 19)]))] H := hP
  have hD : va_D A [((a 0), .inr (11, [.ref (a 1), .ref (a 2), .ref (a 3), .ref (a 4), .ref (a 5), .ref (a 6), .ref (a 7), .ref (a 8), .ref (a 9), .ref (a 10), .ref (a 11), .ref (a 12), .int 0])), ((a 12), .inr (1, [.ref (a 13), .ref (a 14), .ref (a 15), .int 1, .ref (a 10), .ref (a 16), .ref (a 17), .ref (a 18), .ref (a 19)]))] := hD
  subst hw
  refine lv_istore_n (lv' := [(2, .int 0), (0, .ref (a 0)), (1, .int p0)]) hx hb dX11_fits_14 rfl hl (by decide) rfl (fun ls hl => ?_)
  refine lv_iload_n hx hb dX11_fits_15 rfl (lv_at hl 2 rfl) ?_
  refine lv_iconst (v := (-1)) hx hb dX11_fits_16 (by decide) ?_
  refine lv_icmp_ne (tgt := 22) hx hb dX11_fits_17 (by decide) (fun c_3 => ?_) (fun c_3 => ?_)
  · have g_4 : ¬ p0.toInt = (-1) := z_ne rfl (by decide) c_3
    refine lv_iload_n hx hb dX11_fits_22 rfl (lv_at hl 2 rfl) ?_
    refine lv_if_lt (tgt := 43) hx hb dX11_fits_23 (by decide) (fun c_5 => ?_) (fun c_5 => ?_)
    · have g_6 : p0.toInt < 0 := z_lt rfl (by decide) c_5
      refine lv_iconst (v := (-1)) hx hb dX11_fits_43 (by decide) ?_
      have hP9 := hP.sub (ws' := []) [] rfl
      have hD9 := hD.sub (ws' := []) [] (by decide) rfl
      refine W.widen (k := 0) (n := 0) (Nat.le_of_ble_eq_true rfl) (Nat.le_of_ble_eq_true rfl) ?_
      exact W.iret (v := (-1)) hx hb hr (fun t ht hW => ⟨⟨(-1), (), rfl, Or.inl (⟨rfl, zu_ne rfl (by decide) g_4, zu_lt rfl (by decide) g_6⟩), by rw [ht]; exact hP9, va_K.moved hW.alike hK, hD9⟩, hS.F ht⟩) hS.2.2 dX11_fits_44
    · have g_6 : 0 ≤ p0.toInt := z_nlt rfl (by decide) c_5
      refine lv_iload_n hx hb dX11_fits_26 rfl (lv_at hl 2 rfl) ?_
      refine lv_iload_n hx hb dX11_fits_27 rfl (lv_at hl 0 rfl) ?_
      refine lv_icmp_ge (tgt := 43) hx hb dX11_fits_28 (by decide) (fun c_7 => ?_) (fun c_7 => ?_)
      · have g_8 : 0 ≤ p0.toInt := z_le (by decide) rfl c_7
        refine lv_iconst (v := (-1)) hx hb dX11_fits_43 (by decide) ?_
        have hP9 := hP.sub (ws' := []) [] rfl
        have hD9 := hD.sub (ws' := []) [] (by decide) rfl
        refine W.widen (k := 0) (n := 0) (Nat.le_of_ble_eq_true rfl) (Nat.le_of_ble_eq_true rfl) ?_
        exact W.iret (v := (-1)) hx hb hr (fun t ht hW => ⟨⟨(-1), (), rfl, Or.inr (Or.inl (⟨rfl, zu_ne rfl (by decide) g_4, zu_ge rfl (by decide) g_6, zu_ge rfl (by decide) g_8⟩)), by rw [ht]; exact hP9, va_K.moved hW.alike hK, hD9⟩, hS.F ht⟩) hS.2.2 dX11_fits_44
      · exfalso
        have g_8 : p0.toInt < 0 := z_nle (by decide) rfl c_7
        omega
  · have g_4 : p0.toInt = (-1) := z_eq rfl (by decide) c_3
    refine lv_iload_n hx hb dX11_fits_20 rfl (lv_at hl 0 rfl) ?_
    have hP9 := hP.sub (ws' := []) [] rfl
    have hD9 := hD.sub (ws' := []) [] (by decide) rfl
    refine W.widen (k := 0) (n := 0) (Nat.le_of_ble_eq_true rfl) (Nat.le_of_ble_eq_true rfl) ?_
    exact W.iret (v := 0) hx hb hr (fun t ht hW => ⟨⟨0, (), rfl, Or.inr (Or.inr (⟨rfl, zu_eq rfl (by decide) g_4⟩)), by rw [ht]; exact hP9, va_K.moved hW.alike hK, hD9⟩, hS.F ht⟩) hS.2.2 dX11_fits_21
set_option maxHeartbeats 4000000 in
set_option maxRecDepth 100000 in
theorem k_X11_tells (l : Launch) (D : va_G) (sz : Nat) (a : Nat → Nat) (p0 : Int32) : Met l yX11_tells (wz yX11_tells cX11_tells 6 (some .int)) { frames := 2, cells := 0, slots := 0, locals := 120 } (va_Pc [.ref (a 0), .int p0] (zW D sz [((a 0), .inr (11, [.ref (a 1), .ref (a 2), .ref (a 3), .ref (a 4), .ref (a 5), .ref (a 6), .ref (a 7), .ref (a 8), .ref (a 9), .ref (a 10), .ref (a 11), .ref (a 12), .int 0])), ((a 4), .inr (7, [.int 0, .ref (a 26), .ref (a 27), .ref (a 28), .int 0, .ref (a 29)])), ((a 12), .inr (1, [.ref (a 13), .ref (a 14), .ref (a 15), .int 1, .ref (a 10), .ref (a 16), .ref (a 17), .ref (a 18), .ref (a 19)])), ((a 13), .inr (8, [.int 0, .int 0, .long 0, .ref (a 60), .ref (a 61), .ref (a 62), .ref (a 63), .ref (a 64), .ref (a 65), .ref (a 66), .ref (a 67)])), ((a 66), .inl (D.1 13, 8, .inl (fun _ => (-2))))])) (va_Qi (fun r (_ : Unit) => r = (-1)) (fun u t => zB D (va_A [((a 0), .inr (11, [.ref (a 1), .ref (a 2), .ref (a 3), .ref (a 4), .ref (a 5), .ref (a 6), .ref (a 7), .ref (a 8), .ref (a 9), .ref (a 10), .ref (a 11), .ref (a 12), .int 0])), ((a 4), .inr (7, [.int 0, .ref (a 26), .ref (a 27), .ref (a 28), .int 0, .ref (a 29)])), ((a 12), .inr (1, [.ref (a 13), .ref (a 14), .ref (a 15), .int 1, .ref (a 10), .ref (a 16), .ref (a 17), .ref (a 18), .ref (a 19)])), ((a 13), .inr (8, [.int 0, .int 0, .long 0, .ref (a 60), .ref (a 61), .ref (a 62), .ref (a 63), .ref (a 64), .ref (a 65), .ref (a 66), .ref (a 67)])), ((a 66), .inl (D.1 13, 8, .inl (fun _ => (-2))))] sz) ((fun (_ : Unit) => []) u) t) (va_A [((a 0), .inr (11, [.ref (a 1), .ref (a 2), .ref (a 3), .ref (a 4), .ref (a 5), .ref (a 6), .ref (a 7), .ref (a 8), .ref (a 9), .ref (a 10), .ref (a 11), .ref (a 12), .int 0])), ((a 4), .inr (7, [.int 0, .ref (a 26), .ref (a 27), .ref (a 28), .int 0, .ref (a 29)])), ((a 12), .inr (1, [.ref (a 13), .ref (a 14), .ref (a 15), .int 1, .ref (a 10), .ref (a 16), .ref (a 17), .ref (a 18), .ref (a 19)])), ((a 13), .inr (8, [.int 0, .int 0, .long 0, .ref (a 60), .ref (a 61), .ref (a 62), .ref (a 63), .ref (a 64), .ref (a 65), .ref (a 66), .ref (a 67)])), ((a 66), .inl (D.1 13, 8, .inl (fun _ => (-2))))] sz)) 0 0 (va_A [((a 0), .inr (11, [.ref (a 1), .ref (a 2), .ref (a 3), .ref (a 4), .ref (a 5), .ref (a 6), .ref (a 7), .ref (a 8), .ref (a 9), .ref (a 10), .ref (a 11), .ref (a 12), .int 0])), ((a 4), .inr (7, [.int 0, .ref (a 26), .ref (a 27), .ref (a 28), .int 0, .ref (a 29)])), ((a 12), .inr (1, [.ref (a 13), .ref (a 14), .ref (a 15), .int 1, .ref (a 10), .ref (a 16), .ref (a 17), .ref (a 18), .ref (a 19)])), ((a 13), .inr (8, [.int 0, .int 0, .long 0, .ref (a 60), .ref (a 61), .ref (a 62), .ref (a 63), .ref (a 64), .ref (a 65), .ref (a 66), .ref (a 67)])), ((a 66), .inl (D.1 13, 8, .inl (fun _ => (-2))))] sz) := by
  refine Met.ofW (cc := cX11_tells) (maxL := 6) (ret := (some .int)) (by decide) rfl ?_
  intro p e s m args below meth c s₁ B hml hv
  obtain ⟨rfl, hsz, hP, hK, hD0⟩ := hv
  have hx := B.exec
  have hb := B.bytes
  have hr := B.returns
  have hts := atoms_spec (ws := wz yX11_tells cX11_tells 6 (some .int)) B.pre
  have ht : ∀ w ∈ lw_gd, w.before _ s = true := fun w h => hts w (List.mem_cons_of_mem _ h)
  have hown : s.vm.findClass RX11 = some m.cls := findClass_of_methodNamed B.named
  have hlocks := B.notSynchronized
  subst hsz
  have hD := hD0.self (sz := s.heap.size)
  generalize hAe : va_A [((a 0), .inr (11, [.ref (a 1), .ref (a 2), .ref (a 3), .ref (a 4), .ref (a 5), .ref (a 6), .ref (a 7), .ref (a 8), .ref (a 9), .ref (a 10), .ref (a 11), .ref (a 12), .int 0])), ((a 4), .inr (7, [.int 0, .ref (a 26), .ref (a 27), .ref (a 28), .int 0, .ref (a 29)])), ((a 12), .inr (1, [.ref (a 13), .ref (a 14), .ref (a 15), .int 1, .ref (a 10), .ref (a 16), .ref (a 17), .ref (a 18), .ref (a 19)])), ((a 13), .inr (8, [.int 0, .int 0, .long 0, .ref (a 60), .ref (a 61), .ref (a 62), .ref (a 63), .ref (a 64), .ref (a 65), .ref (a 66), .ref (a 67)])), ((a 66), .inl (D.1 13, 8, .inl (fun _ => (-2))))] s.heap.size = A at hD ⊢
  have hA : ∀ q : Nat, s.heap.size ≤ q → A q := fun q h => by rw [← hAe]; exact Or.inr h
  have hS : va_S A s.heap s.heap [] := va_S.rf
  have hl := lv_entry ([.ref (a 0), .int p0]) (n := 6) (Nat.le_of_ble_eq_true rfl)
  rw [lg_entry_eq]
  generalize (lg_sl ([.ref (a 0), .int p0]) ++ List.replicate (6 - (lg_sl ([.ref (a 0), .int p0])).length) Slot.unset).toArray = ls at hl ⊢
  have hl : lv_has ls 6 [(0, .ref (a 0)), (1, .int p0)] := hl
  refine lv_aload_n hx hb dX11_tells_0 rfl (lv_at hl 0 rfl) ?_
  refine va_get (D := D) (ci := 11) (v := .ref (a 4)) (C := RX11) (T := TX11) (N := 13) hx hb ht inX11 hown hK hP 0 rfl rfl 3 (by decide) (ht (.fieldLink RX11 35 "CloneVolumes" "sight" "LCloneVolumes$Sight;") fl_X11_35) (fun _ h9 => h9) rfl dX11_tells_1 ?_
  refine lv_aload_n hx hb dX11_tells_4 rfl (lv_at hl 0 rfl) ?_
  refine va_get (D := D) (ci := 11) (v := .ref (a 12)) (C := RX11) (T := TX11) (N := 13) hx hb ht inX11 hown hK hP 0 rfl rfl 11 (by decide) (ht (.fieldLink RX11 79 "CloneVolumes" "forest" "LCloneVolumes$Forest;") fl_X11_79) (fun _ h9 => h9) rfl dX11_tells_5 ?_
  refine va_get (D := D) (ci := 1) (v := .ref (a 13)) (C := RX1) (T := TX1) (N := 9) hx hb ht inX1 hown hK hP 2 rfl rfl 0 (by decide) (ht (.fieldLink RX11 125 "CloneVolumes$Forest" "now" "LCloneVolumes$State;") fl_X11_125) (fun _ h9 => h9) rfl dX11_tells_8 ?_
  refine zwV (As := [.ref (a 13)]) (rest := []) (C := RX7) (n := 1) (wr := [((a 0), .inr (11, [.ref (a 1), .ref (a 2), .ref (a 3), .ref (a 4), .ref (a 5), .ref (a 6), .ref (a 7), .ref (a 8), .ref (a 9), .ref (a 10), .ref (a 11), .ref (a 12), .int 0])), ((a 12), .inr (1, [.ref (a 13), .ref (a 14), .ref (a 15), .int 1, .ref (a 10), .ref (a 16), .ref (a 17), .ref (a 18), .ref (a 19)]))]) ⟨hx, hb, hml, hown, ht⟩ (k_X7_findFits l D _ a) (zgV ml_X11_262 im_X7_findFits se_X7_findFits in_X7 co_X7_findFits) rfl rfl (by decide +kernel) ⟨Nat.le_of_ble_eq_true rfl, Nat.le_of_ble_eq_true rfl⟩ hK hP hD hS hA [1, 3, 4] [0, 2] rfl rfl rfl rfl (by decide) 0 rfl rfl rfl rfl hl.1 rfl (Nat.le_of_ble_eq_true rfl) dX11_tells_11 ⟨Nat.le_of_ble_eq_true rfl, Nat.le_of_ble_eq_true rfl⟩ (fun r_2 u_1 H locs hw hP hD hS => ?_)
  have hP : va_P D vwCl [((a 0), .inr (11, [.ref (a 1), .ref (a 2), .ref (a 3), .ref (a 4), .ref (a 5), .ref (a 6), .ref (a 7), .ref (a 8), .ref (a 9), .ref (a 10), .ref (a 11), .ref (a 12), .int 0])), ((a 12), .inr (1, [.ref (a 13), .ref (a 14), .ref (a 15), .int 1, .ref (a 10), .ref (a 16), .ref (a 17), .ref (a 18), .ref (a 19)]))] H := hP
  have hD : va_D A [((a 0), .inr (11, [.ref (a 1), .ref (a 2), .ref (a 3), .ref (a 4), .ref (a 5), .ref (a 6), .ref (a 7), .ref (a 8), .ref (a 9), .ref (a 10), .ref (a 11), .ref (a 12), .int 0])), ((a 12), .inr (1, [.ref (a 13), .ref (a 14), .ref (a 15), .int 1, .ref (a 10), .ref (a 16), .ref (a 17), .ref (a 18), .ref (a 19)]))] := hD
  subst hw
  refine lv_if_ne (tgt := 19) hx hb dX11_tells_14 (by decide) (fun c_3 => (z_abs c_3 (by decide)).elim) (fun _ => ?_)
  refine lv_iconst (v := (-1)) hx hb dX11_tells_17 (by decide) ?_
  have hP9 := hP.sub (ws' := []) [] rfl
  have hD9 := hD.sub (ws' := []) [] (by decide) rfl
  refine W.widen (k := 0) (n := 0) (Nat.le_of_ble_eq_true rfl) (Nat.le_of_ble_eq_true rfl) ?_
  exact W.iret (v := (-1)) hx hb hr (fun t ht hW => ⟨⟨(-1), (), rfl, rfl, by rw [ht]; exact hP9, va_K.moved hW.alike hK, hD9⟩, hS.F ht⟩) hS.2.2 dX11_tells_18
set_option maxHeartbeats 4000000 in
set_option maxRecDepth 100000 in
theorem k_X11_growTrees (l : Launch) (D : va_G) (sz : Nat) (a : Nat → Nat)  : Met l yX11_growTrees (wz yX11_growTrees cX11_growTrees 3 none) { frames := 1, cells := 0, slots := 0, locals := 60 } (va_Pc [.ref (a 0)] (zW D sz [((a 0), .inr (11, [.ref (a 1), .ref (a 2), .ref (a 3), .ref (a 4), .ref (a 5), .ref (a 6), .ref (a 7), .ref (a 8), .ref (a 9), .ref (a 10), .ref (a 11), .ref (a 12), .int 0])), ((a 12), .inr (1, [.ref (a 13), .ref (a 14), .ref (a 15), .int 1, .ref (a 10), .ref (a 16), .ref (a 17), .ref (a 18), .ref (a 19)])), ((a 13), .inr (8, [.int 0, .int 0, .long 0, .ref (a 60), .ref (a 61), .ref (a 62), .ref (a 63), .ref (a 64), .ref (a 65), .ref (a 66), .ref (a 67)])), ((a 66), .inl (D.1 13, 8, .inl (fun _ => (-2)))), ((a 8), .inl (D.1 15, 8, .inr (.inl (fun _ => 0))))])) (va_Qv (fun (_ : Unit) => True) (fun u t => zB D (va_A [((a 0), .inr (11, [.ref (a 1), .ref (a 2), .ref (a 3), .ref (a 4), .ref (a 5), .ref (a 6), .ref (a 7), .ref (a 8), .ref (a 9), .ref (a 10), .ref (a 11), .ref (a 12), .int 0])), ((a 12), .inr (1, [.ref (a 13), .ref (a 14), .ref (a 15), .int 1, .ref (a 10), .ref (a 16), .ref (a 17), .ref (a 18), .ref (a 19)])), ((a 13), .inr (8, [.int 0, .int 0, .long 0, .ref (a 60), .ref (a 61), .ref (a 62), .ref (a 63), .ref (a 64), .ref (a 65), .ref (a 66), .ref (a 67)])), ((a 66), .inl (D.1 13, 8, .inl (fun _ => (-2)))), ((a 8), .inl (D.1 15, 8, .inr (.inl (fun _ => 0))))] sz) ((fun (u : Unit) => [((a 0), .inr (11, [.ref (a 1), .ref (a 2), .ref (a 3), .ref (a 4), .ref (a 5), .ref (a 6), .ref (a 7), .ref (a 8), .ref (a 9), .ref (a 10), .ref (a 11), .ref (a 12), .int 0])), ((a 12), .inr (1, [.ref (a 13), .ref (a 14), .ref (a 15), .int 1, .ref (a 10), .ref (a 16), .ref (a 17), .ref (a 18), .ref (a 19)])), ((a 13), .inr (8, [.int 0, .int 0, .long 0, .ref (a 60), .ref (a 61), .ref (a 62), .ref (a 63), .ref (a 64), .ref (a 65), .ref (a 66), .ref (a 67)]))]) u) t) (va_A [((a 0), .inr (11, [.ref (a 1), .ref (a 2), .ref (a 3), .ref (a 4), .ref (a 5), .ref (a 6), .ref (a 7), .ref (a 8), .ref (a 9), .ref (a 10), .ref (a 11), .ref (a 12), .int 0])), ((a 12), .inr (1, [.ref (a 13), .ref (a 14), .ref (a 15), .int 1, .ref (a 10), .ref (a 16), .ref (a 17), .ref (a 18), .ref (a 19)])), ((a 13), .inr (8, [.int 0, .int 0, .long 0, .ref (a 60), .ref (a 61), .ref (a 62), .ref (a 63), .ref (a 64), .ref (a 65), .ref (a 66), .ref (a 67)])), ((a 66), .inl (D.1 13, 8, .inl (fun _ => (-2)))), ((a 8), .inl (D.1 15, 8, .inr (.inl (fun _ => 0))))] sz)) 0 0 (va_A [((a 0), .inr (11, [.ref (a 1), .ref (a 2), .ref (a 3), .ref (a 4), .ref (a 5), .ref (a 6), .ref (a 7), .ref (a 8), .ref (a 9), .ref (a 10), .ref (a 11), .ref (a 12), .int 0])), ((a 12), .inr (1, [.ref (a 13), .ref (a 14), .ref (a 15), .int 1, .ref (a 10), .ref (a 16), .ref (a 17), .ref (a 18), .ref (a 19)])), ((a 13), .inr (8, [.int 0, .int 0, .long 0, .ref (a 60), .ref (a 61), .ref (a 62), .ref (a 63), .ref (a 64), .ref (a 65), .ref (a 66), .ref (a 67)])), ((a 66), .inl (D.1 13, 8, .inl (fun _ => (-2)))), ((a 8), .inl (D.1 15, 8, .inr (.inl (fun _ => 0))))] sz) := by
  refine Met.ofW (cc := cX11_growTrees) (maxL := 3) (ret := none) (by decide) rfl ?_
  intro p e s m args below meth c s₁ B hml hv
  obtain ⟨rfl, hsz, hP, hK, hD0⟩ := hv
  have hx := B.exec
  have hb := B.bytes
  have hr := B.returns
  have hts := atoms_spec (ws := wz yX11_growTrees cX11_growTrees 3 none) B.pre
  have ht : ∀ w ∈ lw_gd, w.before _ s = true := fun w h => hts w (List.mem_cons_of_mem _ h)
  have hown : s.vm.findClass RX11 = some m.cls := findClass_of_methodNamed B.named
  have hlocks := B.notSynchronized
  subst hsz
  have hD := hD0.self (sz := s.heap.size)
  generalize hAe : va_A [((a 0), .inr (11, [.ref (a 1), .ref (a 2), .ref (a 3), .ref (a 4), .ref (a 5), .ref (a 6), .ref (a 7), .ref (a 8), .ref (a 9), .ref (a 10), .ref (a 11), .ref (a 12), .int 0])), ((a 12), .inr (1, [.ref (a 13), .ref (a 14), .ref (a 15), .int 1, .ref (a 10), .ref (a 16), .ref (a 17), .ref (a 18), .ref (a 19)])), ((a 13), .inr (8, [.int 0, .int 0, .long 0, .ref (a 60), .ref (a 61), .ref (a 62), .ref (a 63), .ref (a 64), .ref (a 65), .ref (a 66), .ref (a 67)])), ((a 66), .inl (D.1 13, 8, .inl (fun _ => (-2)))), ((a 8), .inl (D.1 15, 8, .inr (.inl (fun _ => 0))))] s.heap.size = A at hD ⊢
  have hA : ∀ q : Nat, s.heap.size ≤ q → A q := fun q h => by rw [← hAe]; exact Or.inr h
  have hS : va_S A s.heap s.heap [] := va_S.rf
  have hl := lv_entry ([.ref (a 0)]) (n := 3) (Nat.le_of_ble_eq_true rfl)
  rw [lg_entry_eq]
  generalize (lg_sl ([.ref (a 0)]) ++ List.replicate (3 - (lg_sl ([.ref (a 0)])).length) Slot.unset).toArray = ls at hl ⊢
  have hl : lv_has ls 3 [(0, .ref (a 0))] := hl
  refine lv_aload_n hx hb dX11_growTrees_0 rfl (lv_at hl 0 rfl) ?_
  refine va_get (D := D) (ci := 11) (v := .ref (a 12)) (C := RX11) (T := TX11) (N := 13) hx hb ht inX11 hown hK hP 0 rfl rfl 11 (by decide) (ht (.fieldLink RX11 79 "CloneVolumes" "forest" "LCloneVolumes$Forest;") fl_X11_79) (fun _ h9 => h9) rfl dX11_growTrees_1 ?_
  refine va_get (D := D) (ci := 1) (v := .ref (a 13)) (C := RX1) (T := TX1) (N := 9) hx hb ht inX1 hown hK hP 1 rfl rfl 0 (by decide) (ht (.fieldLink RX11 125 "CloneVolumes$Forest" "now" "LCloneVolumes$State;") fl_X11_125) (fun _ h9 => h9) rfl dX11_growTrees_4 ?_
  refine lv_astore_n (lv' := [(1, .ref (a 13)), (0, .ref (a 0))]) hx hb dX11_growTrees_7 rfl hl (by decide) rfl (fun ls hl => ?_)
  refine lv_iconst (v := 0) hx hb dX11_growTrees_8 (by decide) ?_
  refine lv_istore_n (lv' := [(2, .int 0), (1, .ref (a 13)), (0, .ref (a 0))]) hx hb dX11_growTrees_9 rfl hl (by decide) rfl (fun ls hl => ?_)
  refine z_loop (σ := Unit) (N := 8) (fun i u H locs ls => va_P D vwCl [((a 0), .inr (11, [.ref (a 1), .ref (a 2), .ref (a 3), .ref (a 4), .ref (a 5), .ref (a 6), .ref (a 7), .ref (a 8), .ref (a 9), .ref (a 10), .ref (a 11), .ref (a 12), .int 0])), ((a 12), .inr (1, [.ref (a 13), .ref (a 14), .ref (a 15), .int 1, .ref (a 10), .ref (a 16), .ref (a 17), .ref (a 18), .ref (a 19)])), ((a 13), .inr (8, [.int 0, .int 0, .long 0, .ref (a 60), .ref (a 61), .ref (a 62), .ref (a 63), .ref (a 64), .ref (a 65), .ref (a 66), .ref (a 67)])), ((a 66), .inl (D.1 13, 8, .inl (fun _ => (-2)))), ((a 8), .inl (D.1 15, 8, .inr (.inl (fun _ => 0))))] H ∧ va_D A [((a 0), .inr (11, [.ref (a 1), .ref (a 2), .ref (a 3), .ref (a 4), .ref (a 5), .ref (a 6), .ref (a 7), .ref (a 8), .ref (a 9), .ref (a 10), .ref (a 11), .ref (a 12), .int 0])), ((a 12), .inr (1, [.ref (a 13), .ref (a 14), .ref (a 15), .int 1, .ref (a 10), .ref (a 16), .ref (a 17), .ref (a 18), .ref (a 19)])), ((a 13), .inr (8, [.int 0, .int 0, .long 0, .ref (a 60), .ref (a 61), .ref (a 62), .ref (a 63), .ref (a 64), .ref (a 65), .ref (a 66), .ref (a 67)])), ((a 66), .inl (D.1 13, 8, .inl (fun _ => (-2)))), ((a 8), .inl (D.1 15, 8, .inr (.inl (fun _ => 0))))] ∧ va_S A s.heap H locs ∧ lv_has ls 3 [(2, .int (nI i)), (1, .ref (a 13)), (0, .ref (a 0))]) (fun i_1 _u H locs ls hi_i_1 hI ih_10 => ?_) 0 () (by decide) ⟨hP, hD, hS, lv_sub hl [0, 1, 2] rfl⟩
  obtain ⟨hP, hD, hS, hl⟩ := hI
  have hP : va_P D vwCl [((a 0), .inr (11, [.ref (a 1), .ref (a 2), .ref (a 3), .ref (a 4), .ref (a 5), .ref (a 6), .ref (a 7), .ref (a 8), .ref (a 9), .ref (a 10), .ref (a 11), .ref (a 12), .int 0])), ((a 12), .inr (1, [.ref (a 13), .ref (a 14), .ref (a 15), .int 1, .ref (a 10), .ref (a 16), .ref (a 17), .ref (a 18), .ref (a 19)])), ((a 13), .inr (8, [.int 0, .int 0, .long 0, .ref (a 60), .ref (a 61), .ref (a 62), .ref (a 63), .ref (a 64), .ref (a 65), .ref (a 66), .ref (a 67)])), ((a 66), .inl (D.1 13, 8, .inl (fun _ => (-2)))), ((a 8), .inl (D.1 15, 8, .inr (.inl (fun _ => 0))))] H := hP
  have hD : va_D A [((a 0), .inr (11, [.ref (a 1), .ref (a 2), .ref (a 3), .ref (a 4), .ref (a 5), .ref (a 6), .ref (a 7), .ref (a 8), .ref (a 9), .ref (a 10), .ref (a 11), .ref (a 12), .int 0])), ((a 12), .inr (1, [.ref (a 13), .ref (a 14), .ref (a 15), .int 1, .ref (a 10), .ref (a 16), .ref (a 17), .ref (a 18), .ref (a 19)])), ((a 13), .inr (8, [.int 0, .int 0, .long 0, .ref (a 60), .ref (a 61), .ref (a 62), .ref (a 63), .ref (a 64), .ref (a 65), .ref (a 66), .ref (a 67)])), ((a 66), .inl (D.1 13, 8, .inl (fun _ => (-2)))), ((a 8), .inl (D.1 15, 8, .inr (.inl (fun _ => 0))))] := hD
  have hl : lv_has ls 3 [(2, .int (nI i_1)), (1, .ref (a 13)), (0, .ref (a 0))] := hl
  refine lv_iload_n hx hb dX11_growTrees_10 rfl (lv_at hl 0 rfl) ?_
  refine lv_bipush (v := 8) hx hb dX11_growTrees_11 (by decide) ?_
  refine lv_icmp_ge (tgt := 54) hx hb dX11_growTrees_13 (by decide) (fun c_2 => ?_) (fun c_2 => ?_)
  · have g_3 : 8 ≤ ((i_1 : Nat) : Int) := z_le (by decide) (nI_toInt (by omega)) c_2
    obtain rfl : i_1 = 8 := by omega
    have hP : va_P D vwCl [((a 0), .inr (11, [.ref (a 1), .ref (a 2), .ref (a 3), .ref (a 4), .ref (a 5), .ref (a 6), .ref (a 7), .ref (a 8), .ref (a 9), .ref (a 10), .ref (a 11), .ref (a 12), .int 0])), ((a 12), .inr (1, [.ref (a 13), .ref (a 14), .ref (a 15), .int 1, .ref (a 10), .ref (a 16), .ref (a 17), .ref (a 18), .ref (a 19)])), ((a 13), .inr (8, [.int 0, .int 0, .long 0, .ref (a 60), .ref (a 61), .ref (a 62), .ref (a 63), .ref (a 64), .ref (a 65), .ref (a 66), .ref (a 67)])), ((a 66), .inl (D.1 13, 8, .inl (fun _ => (-2)))), ((a 8), .inl (D.1 15, 8, .inr (.inl (fun _ => 0))))] H := hP
    have hD : va_D A [((a 0), .inr (11, [.ref (a 1), .ref (a 2), .ref (a 3), .ref (a 4), .ref (a 5), .ref (a 6), .ref (a 7), .ref (a 8), .ref (a 9), .ref (a 10), .ref (a 11), .ref (a 12), .int 0])), ((a 12), .inr (1, [.ref (a 13), .ref (a 14), .ref (a 15), .int 1, .ref (a 10), .ref (a 16), .ref (a 17), .ref (a 18), .ref (a 19)])), ((a 13), .inr (8, [.int 0, .int 0, .long 0, .ref (a 60), .ref (a 61), .ref (a 62), .ref (a 63), .ref (a 64), .ref (a 65), .ref (a 66), .ref (a 67)])), ((a 66), .inl (D.1 13, 8, .inl (fun _ => (-2)))), ((a 8), .inl (D.1 15, 8, .inr (.inl (fun _ => 0))))] := hD
    have hl : lv_has ls 3 [(2, .int 8), (1, .ref (a 13)), (0, .ref (a 0))] := hl
    have hP9 := hP.sub (ws' := [((a 0), .inr (11, [.ref (a 1), .ref (a 2), .ref (a 3), .ref (a 4), .ref (a 5), .ref (a 6), .ref (a 7), .ref (a 8), .ref (a 9), .ref (a 10), .ref (a 11), .ref (a 12), .int 0])), ((a 12), .inr (1, [.ref (a 13), .ref (a 14), .ref (a 15), .int 1, .ref (a 10), .ref (a 16), .ref (a 17), .ref (a 18), .ref (a 19)])), ((a 13), .inr (8, [.int 0, .int 0, .long 0, .ref (a 60), .ref (a 61), .ref (a 62), .ref (a 63), .ref (a 64), .ref (a 65), .ref (a 66), .ref (a 67)]))]) [0, 1, 2] rfl
    have hD9 := hD.sub (ws' := [((a 0), .inr (11, [.ref (a 1), .ref (a 2), .ref (a 3), .ref (a 4), .ref (a 5), .ref (a 6), .ref (a 7), .ref (a 8), .ref (a 9), .ref (a 10), .ref (a 11), .ref (a 12), .int 0])), ((a 12), .inr (1, [.ref (a 13), .ref (a 14), .ref (a 15), .int 1, .ref (a 10), .ref (a 16), .ref (a 17), .ref (a 18), .ref (a 19)])), ((a 13), .inr (8, [.int 0, .int 0, .long 0, .ref (a 60), .ref (a 61), .ref (a 62), .ref (a 63), .ref (a 64), .ref (a 65), .ref (a 66), .ref (a 67)]))]) [0, 1, 2] (by decide) rfl
    refine W.widen (k := 0) (n := 0) (Nat.le_of_ble_eq_true rfl) (Nat.le_of_ble_eq_true rfl) ?_
    exact W.vret hx hb hr (fun t ht hW => ⟨⟨(), rfl, trivial, by rw [ht]; exact hP9, va_K.moved hW.alike hK, hD9⟩, hS.F ht⟩) hS.2.2 dX11_growTrees_54
  · have g_3 : ((i_1 : Nat) : Int) < 8 := z_nle (by decide) (nI_toInt (by omega)) c_2
    refine lv_aload_n hx hb dX11_growTrees_16 rfl (lv_at hl 2 rfl) ?_
    refine va_get (D := D) (ci := 11) (v := .ref (a 8)) (C := RX11) (T := TX11) (N := 13) hx hb ht inX11 hown hK hP 0 rfl rfl 7 (by decide) (ht (.fieldLink RX11 56 "CloneVolumes" "trees" "[J") fl_X11_56) (fun _ h9 => h9) rfl dX11_growTrees_17 ?_
    refine lv_iload_n hx hb dX11_growTrees_20 rfl (lv_at hl 0 rfl) ?_
    refine lv_aload_n hx hb dX11_growTrees_21 rfl (lv_at hl 1 rfl) ?_
    refine lv_iload_n hx hb dX11_growTrees_22 rfl (lv_at hl 0 rfl) ?_
    refine zcV (As := [.int (nI i_1)]) (rest := [.int (nI i_1), .ref (a 8)]) (C := RX8) (n := 1) ⟨hx, hb, hml, hown, ht⟩ (k_X8_isVolume l D a (nI i_1)) (zgV ml_X11_161 im_X8_isVolume se_X8_isVolume in_X8 co_X8_isVolume) rfl rfl (by decide +kernel) ⟨Nat.le_of_ble_eq_true rfl, Nat.le_of_ble_eq_true rfl⟩ hK hP hS [2, 3] rfl 0 rfl rfl rfl rfl hl.1 rfl (Nat.le_of_ble_eq_true rfl) dX11_growTrees_23 ⟨Nat.le_of_ble_eq_true rfl, Nat.le_of_ble_eq_true rfl⟩ (fun r_4 H locs hw hP hS => ?_)
    subst hw
    refine lv_if_eq (tgt := 46) hx hb dX11_growTrees_26 (by decide) (fun _ => ?_) (fun c_5 => (z_abs c_5 (by decide)).elim)
    refine lv_lconst (v := 0) hx hb dX11_growTrees_46 (by decide) ?_
    refine va_last hx hb hK hP hD hS 4 2 rfl rfl (vp_in_nI (by omega) (by omega)) dX11_growTrees_47 (fun H locs hP hD hS => ?_)
    rw [z_updLc] at hP hD
    have hP : va_P D vwCl [((a 0), .inr (11, [.ref (a 1), .ref (a 2), .ref (a 3), .ref (a 4), .ref (a 5), .ref (a 6), .ref (a 7), .ref (a 8), .ref (a 9), .ref (a 10), .ref (a 11), .ref (a 12), .int 0])), ((a 12), .inr (1, [.ref (a 13), .ref (a 14), .ref (a 15), .int 1, .ref (a 10), .ref (a 16), .ref (a 17), .ref (a 18), .ref (a 19)])), ((a 13), .inr (8, [.int 0, .int 0, .long 0, .ref (a 60), .ref (a 61), .ref (a 62), .ref (a 63), .ref (a 64), .ref (a 65), .ref (a 66), .ref (a 67)])), ((a 66), .inl (D.1 13, 8, .inl (fun _ => (-2)))), ((a 8), .inl (D.1 15, 8, .inr (.inl (fun _ => 0))))] H := hP
    have hD : va_D A [((a 0), .inr (11, [.ref (a 1), .ref (a 2), .ref (a 3), .ref (a 4), .ref (a 5), .ref (a 6), .ref (a 7), .ref (a 8), .ref (a 9), .ref (a 10), .ref (a 11), .ref (a 12), .int 0])), ((a 12), .inr (1, [.ref (a 13), .ref (a 14), .ref (a 15), .int 1, .ref (a 10), .ref (a 16), .ref (a 17), .ref (a 18), .ref (a 19)])), ((a 13), .inr (8, [.int 0, .int 0, .long 0, .ref (a 60), .ref (a 61), .ref (a 62), .ref (a 63), .ref (a 64), .ref (a 65), .ref (a 66), .ref (a 67)])), ((a 66), .inl (D.1 13, 8, .inl (fun _ => (-2)))), ((a 8), .inl (D.1 15, 8, .inr (.inl (fun _ => 0))))] := hD
    refine lv_iinc (v := nI (i_1 + 1)) (lv' := [(2, .int (nI (i_1 + 1))), (1, .ref (a 13)), (0, .ref (a 0))]) hx hb dX11_growTrees_48 hl (k := 0) rfl (z_inc _) (by decide) rfl (fun ls hl => ?_)
    refine lv_goto (tgt := 10) hx hb dX11_growTrees_51 (by decide) ?_
    exact ih_10 () _ _ _ (by omega) ⟨hP.sub [0, 1, 2, 3, 4] rfl, hD.sub [0, 1, 2, 3, 4] (by decide) rfl, hS, lv_sub hl [0, 1, 2] rfl⟩
set_option maxHeartbeats 4000000 in
set_option maxRecDepth 100000 in
theorem k_X11_worst (l : Launch) (D : va_G) (sz : Nat) (a : Nat → Nat) (p0 : Int32) : Met l yX11_worst (wz yX11_worst cX11_worst 6 (some .int)) { frames := 2, cells := 0, slots := 0, locals := 120 } (va_Pc [.ref (a 0), .int p0] (zW D sz [((a 0), .inr (11, [.ref (a 1), .ref (a 2), .ref (a 3), .ref (a 4), .ref (a 5), .ref (a 6), .ref (a 7), .ref (a 8), .ref (a 9), .ref (a 10), .ref (a 11), .ref (a 12), .int 0])), ((a 12), .inr (1, [.ref (a 13), .ref (a 14), .ref (a 15), .int 1, .ref (a 10), .ref (a 16), .ref (a 17), .ref (a 18), .ref (a 19)])), ((a 13), .inr (8, [.int 0, .int 0, .long 0, .ref (a 60), .ref (a 61), .ref (a 62), .ref (a 63), .ref (a 64), .ref (a 65), .ref (a 66), .ref (a 67)])), ((a 66), .inl (D.1 13, 8, .inl (fun _ => (-2)))), ((a 8), .inl (D.1 15, 8, .inr (.inl (fun _ => 0))))])) (va_Qi (fun r (_ : Unit) => r = (-1)) (fun u t => zB D (va_A [((a 0), .inr (11, [.ref (a 1), .ref (a 2), .ref (a 3), .ref (a 4), .ref (a 5), .ref (a 6), .ref (a 7), .ref (a 8), .ref (a 9), .ref (a 10), .ref (a 11), .ref (a 12), .int 0])), ((a 12), .inr (1, [.ref (a 13), .ref (a 14), .ref (a 15), .int 1, .ref (a 10), .ref (a 16), .ref (a 17), .ref (a 18), .ref (a 19)])), ((a 13), .inr (8, [.int 0, .int 0, .long 0, .ref (a 60), .ref (a 61), .ref (a 62), .ref (a 63), .ref (a 64), .ref (a 65), .ref (a 66), .ref (a 67)])), ((a 66), .inl (D.1 13, 8, .inl (fun _ => (-2)))), ((a 8), .inl (D.1 15, 8, .inr (.inl (fun _ => 0))))] sz) ((fun (_ : Unit) => []) u) t) (va_A [((a 0), .inr (11, [.ref (a 1), .ref (a 2), .ref (a 3), .ref (a 4), .ref (a 5), .ref (a 6), .ref (a 7), .ref (a 8), .ref (a 9), .ref (a 10), .ref (a 11), .ref (a 12), .int 0])), ((a 12), .inr (1, [.ref (a 13), .ref (a 14), .ref (a 15), .int 1, .ref (a 10), .ref (a 16), .ref (a 17), .ref (a 18), .ref (a 19)])), ((a 13), .inr (8, [.int 0, .int 0, .long 0, .ref (a 60), .ref (a 61), .ref (a 62), .ref (a 63), .ref (a 64), .ref (a 65), .ref (a 66), .ref (a 67)])), ((a 66), .inl (D.1 13, 8, .inl (fun _ => (-2)))), ((a 8), .inl (D.1 15, 8, .inr (.inl (fun _ => 0))))] sz)) 0 0 (va_A [((a 0), .inr (11, [.ref (a 1), .ref (a 2), .ref (a 3), .ref (a 4), .ref (a 5), .ref (a 6), .ref (a 7), .ref (a 8), .ref (a 9), .ref (a 10), .ref (a 11), .ref (a 12), .int 0])), ((a 12), .inr (1, [.ref (a 13), .ref (a 14), .ref (a 15), .int 1, .ref (a 10), .ref (a 16), .ref (a 17), .ref (a 18), .ref (a 19)])), ((a 13), .inr (8, [.int 0, .int 0, .long 0, .ref (a 60), .ref (a 61), .ref (a 62), .ref (a 63), .ref (a 64), .ref (a 65), .ref (a 66), .ref (a 67)])), ((a 66), .inl (D.1 13, 8, .inl (fun _ => (-2)))), ((a 8), .inl (D.1 15, 8, .inr (.inl (fun _ => 0))))] sz) := by
  refine Met.ofW (cc := cX11_worst) (maxL := 6) (ret := (some .int)) (by decide) rfl ?_
  intro p e s m args below meth c s₁ B hml hv
  obtain ⟨rfl, hsz, hP, hK, hD0⟩ := hv
  have hx := B.exec
  have hb := B.bytes
  have hr := B.returns
  have hts := atoms_spec (ws := wz yX11_worst cX11_worst 6 (some .int)) B.pre
  have ht : ∀ w ∈ lw_gd, w.before _ s = true := fun w h => hts w (List.mem_cons_of_mem _ h)
  have hown : s.vm.findClass RX11 = some m.cls := findClass_of_methodNamed B.named
  have hlocks := B.notSynchronized
  subst hsz
  have hD := hD0.self (sz := s.heap.size)
  generalize hAe : va_A [((a 0), .inr (11, [.ref (a 1), .ref (a 2), .ref (a 3), .ref (a 4), .ref (a 5), .ref (a 6), .ref (a 7), .ref (a 8), .ref (a 9), .ref (a 10), .ref (a 11), .ref (a 12), .int 0])), ((a 12), .inr (1, [.ref (a 13), .ref (a 14), .ref (a 15), .int 1, .ref (a 10), .ref (a 16), .ref (a 17), .ref (a 18), .ref (a 19)])), ((a 13), .inr (8, [.int 0, .int 0, .long 0, .ref (a 60), .ref (a 61), .ref (a 62), .ref (a 63), .ref (a 64), .ref (a 65), .ref (a 66), .ref (a 67)])), ((a 66), .inl (D.1 13, 8, .inl (fun _ => (-2)))), ((a 8), .inl (D.1 15, 8, .inr (.inl (fun _ => 0))))] s.heap.size = A at hD ⊢
  have hA : ∀ q : Nat, s.heap.size ≤ q → A q := fun q h => by rw [← hAe]; exact Or.inr h
  have hS : va_S A s.heap s.heap [] := va_S.rf
  have hl := lv_entry ([.ref (a 0), .int p0]) (n := 6) (Nat.le_of_ble_eq_true rfl)
  rw [lg_entry_eq]
  generalize (lg_sl ([.ref (a 0), .int p0]) ++ List.replicate (6 - (lg_sl ([.ref (a 0), .int p0])).length) Slot.unset).toArray = ls at hl ⊢
  have hl : lv_has ls 6 [(0, .ref (a 0)), (1, .int p0)] := hl
  refine lv_aload_n hx hb dX11_worst_0 rfl (lv_at hl 0 rfl) ?_
  refine zwVv (As := []) (rest := []) (C := RX11) (n := 0) (wr := []) ⟨hx, hb, hml, hown, ht⟩ (k_X11_growTrees l D _ a) (zgV ml_X11_243 im_X11_growTrees se_X11_growTrees in_X11 co_X11_growTrees) rfl rfl (by decide +kernel) ⟨Nat.le_of_ble_eq_true rfl, Nat.le_of_ble_eq_true rfl⟩ hK hP hD hS hA [0, 1, 2, 3, 4] [] rfl rfl rfl rfl (by decide) 0 rfl rfl rfl rfl hl.1 rfl (Nat.le_of_ble_eq_true rfl) dX11_worst_1 ⟨Nat.le_of_ble_eq_true rfl, Nat.le_of_ble_eq_true rfl⟩ (fun u_1 H locs hw hP hD hS => ?_)
  have hP : va_P D vwCl [((a 0), .inr (11, [.ref (a 1), .ref (a 2), .ref (a 3), .ref (a 4), .ref (a 5), .ref (a 6), .ref (a 7), .ref (a 8), .ref (a 9), .ref (a 10), .ref (a 11), .ref (a 12), .int 0])), ((a 12), .inr (1, [.ref (a 13), .ref (a 14), .ref (a 15), .int 1, .ref (a 10), .ref (a 16), .ref (a 17), .ref (a 18), .ref (a 19)])), ((a 13), .inr (8, [.int 0, .int 0, .long 0, .ref (a 60), .ref (a 61), .ref (a 62), .ref (a 63), .ref (a 64), .ref (a 65), .ref (a 66), .ref (a 67)]))] H := hP
  have hD : va_D A [((a 0), .inr (11, [.ref (a 1), .ref (a 2), .ref (a 3), .ref (a 4), .ref (a 5), .ref (a 6), .ref (a 7), .ref (a 8), .ref (a 9), .ref (a 10), .ref (a 11), .ref (a 12), .int 0])), ((a 12), .inr (1, [.ref (a 13), .ref (a 14), .ref (a 15), .int 1, .ref (a 10), .ref (a 16), .ref (a 17), .ref (a 18), .ref (a 19)])), ((a 13), .inr (8, [.int 0, .int 0, .long 0, .ref (a 60), .ref (a 61), .ref (a 62), .ref (a 63), .ref (a 64), .ref (a 65), .ref (a 66), .ref (a 67)]))] := hD
  refine lv_iconst (v := (-1)) hx hb dX11_worst_4 (by decide) ?_
  refine lv_istore_n (lv' := [(2, .int (-1)), (0, .ref (a 0)), (1, .int p0)]) hx hb dX11_worst_5 rfl hl (by decide) rfl (fun ls hl => ?_)
  refine lv_iconst (v := 0) hx hb dX11_worst_6 (by decide) ?_
  refine lv_istore_n (lv' := [(3, .int 0), (2, .int (-1)), (0, .ref (a 0)), (1, .int p0)]) hx hb dX11_worst_7 rfl hl (by decide) rfl (fun ls hl => ?_)
  refine lv_iconst (v := 0) hx hb dX11_worst_8 (by decide) ?_
  refine lv_istore (lv' := [(4, .int 0), (3, .int 0), (2, .int (-1)), (0, .ref (a 0)), (1, .int p0)]) hx hb dX11_worst_9 hl (by decide) rfl (fun ls hl => ?_)
  refine lv_iload hx hb dX11_worst_11 (lv_at hl 0 rfl) ?_
  refine lv_aload_n hx hb dX11_worst_13 rfl (lv_at hl 3 rfl) ?_
  refine va_get (D := D) (ci := 11) (v := .ref (a 12)) (C := RX11) (T := TX11) (N := 13) hx hb ht inX11 hown hK hP 0 rfl rfl 11 (by decide) (ht (.fieldLink RX11 79 "CloneVolumes" "forest" "LCloneVolumes$Forest;") fl_X11_79) (fun _ h9 => h9) rfl dX11_worst_14 ?_
  refine va_get (D := D) (ci := 1) (v := .ref (a 13)) (C := RX1) (T := TX1) (N := 9) hx hb ht inX1 hown hK hP 1 rfl rfl 0 (by decide) (ht (.fieldLink RX11 125 "CloneVolumes$Forest" "now" "LCloneVolumes$State;") fl_X11_125) (fun _ h9 => h9) rfl dX11_worst_17 ?_
  refine va_get (D := D) (ci := 8) (v := .int 0) (C := RX8) (T := TX8) (N := 11) hx hb ht inX8 hown hK hP 2 rfl rfl 0 (by decide) (ht (.fieldLink RX11 129 "CloneVolumes$State" "blocks" "I") fl_X11_129) (fun _ h9 => h9) rfl dX11_worst_20 ?_
  refine lv_icmp_ge (tgt := 52) hx hb dX11_worst_23 (by decide) (fun _ => ?_) (fun c_3 => (z_abs c_3 (by decide)).elim)
  refine lv_iload_n hx hb dX11_worst_52 rfl (lv_at hl 2 rfl) ?_
  refine lv_iconst (v := (-1)) hx hb dX11_worst_53 (by decide) ?_
  refine lv_icmp_ne (tgt := 59) hx hb dX11_worst_54 (by decide) (fun c_5 => (z_abs c_5 (by decide)).elim) (fun _ => ?_)
  refine lv_iconst (v := (-1)) hx hb dX11_worst_57 (by decide) ?_
  have hP9 := hP.sub (ws' := []) [] rfl
  have hD9 := hD.sub (ws' := []) [] (by decide) rfl
  refine W.widen (k := 0) (n := 0) (Nat.le_of_ble_eq_true rfl) (Nat.le_of_ble_eq_true rfl) ?_
  exact W.iret (v := (-1)) hx hb hr (fun t ht hW => ⟨⟨(-1), (), rfl, rfl, by rw [ht]; exact hP9, va_K.moved hW.alike hK, hD9⟩, hS.F ht⟩) hS.2.2 dX11_worst_58
