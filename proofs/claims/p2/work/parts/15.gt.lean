theorem dX6_comparison_0 : decode cX6_comparison 0 = .ok (.bipush (-9), 2) := by decide +kernel
theorem dX6_comparison_2 : decode cX6_comparison 2 = .ok (.istore_n 1, 1) := by decide +kernel
theorem dX6_comparison_3 : decode cX6_comparison 3 = .ok (.aload_n 0, 1) := by decide +kernel
theorem dX6_comparison_4 : decode cX6_comparison 4 = .ok (.bipush 60, 2) := by decide +kernel
theorem dX6_comparison_6 : decode cX6_comparison 6 = .ok (.invokevirtual 124, 3) := by decide +kernel
theorem dX6_comparison_9 : decode cX6_comparison 9 = .ok (.ifCond .eq 9, 3) := by decide +kernel
theorem dX6_comparison_12 : decode cX6_comparison 12 = .ok (.bipush (-7), 2) := by decide +kernel
theorem dX6_comparison_14 : decode cX6_comparison 14 = .ok (.istore_n 1, 1) := by decide +kernel
theorem dX6_comparison_15 : decode cX6_comparison 15 = .ok (.goto 37, 3) := by decide +kernel
theorem dX6_comparison_18 : decode cX6_comparison 18 = .ok (.aload_n 0, 1) := by decide +kernel
theorem dX6_comparison_19 : decode cX6_comparison 19 = .ok (.bipush 62, 2) := by decide +kernel
theorem dX6_comparison_21 : decode cX6_comparison 21 = .ok (.invokevirtual 124, 3) := by decide +kernel
theorem dX6_comparison_24 : decode cX6_comparison 24 = .ok (.ifCond .eq 9, 3) := by decide +kernel
theorem dX6_comparison_27 : decode cX6_comparison 27 = .ok (.bipush (-8), 2) := by decide +kernel
theorem dX6_comparison_29 : decode cX6_comparison 29 = .ok (.istore_n 1, 1) := by decide +kernel
theorem dX6_comparison_30 : decode cX6_comparison 30 = .ok (.goto 22, 3) := by decide +kernel
theorem dX6_comparison_33 : decode cX6_comparison 33 = .ok (.aload_n 0, 1) := by decide +kernel
theorem dX6_comparison_34 : decode cX6_comparison 34 = .ok (.bipush 61, 2) := by decide +kernel
theorem dX6_comparison_36 : decode cX6_comparison 36 = .ok (.invokevirtual 124, 3) := by decide +kernel
theorem dX6_comparison_39 : decode cX6_comparison 39 = .ok (.ifCond .ne 13, 3) := by decide +kernel
theorem dX6_comparison_42 : decode cX6_comparison 42 = .ok (.aload_n 0, 1) := by decide +kernel
theorem dX6_comparison_43 : decode cX6_comparison 43 = .ok (.iconst 1, 1) := by decide +kernel
theorem dX6_comparison_44 : decode cX6_comparison 44 = .ok (.aload_n 0, 1) := by decide +kernel
theorem dX6_comparison_45 : decode cX6_comparison 45 = .ok (.getfield 51, 3) := by decide +kernel
theorem dX6_comparison_48 : decode cX6_comparison 48 = .ok (.invokevirtual 54, 3) := by decide +kernel
theorem dX6_comparison_51 : decode cX6_comparison 51 = .ok (.pop, 1) := by decide +kernel
theorem dX6_comparison_52 : decode cX6_comparison 52 = .ok (.aload_n 0, 1) := by decide +kernel
theorem dX6_comparison_53 : decode cX6_comparison 53 = .ok (.invokevirtual 75, 3) := by decide +kernel
theorem dX6_comparison_56 : decode cX6_comparison 56 = .ok (.iload_n 1, 1) := by decide +kernel
theorem dX6_comparison_57 : decode cX6_comparison 57 = .ok (.ireturn, 1) := by decide +kernel
theorem dX6_expectNumber_0 : decode cX6_expectNumber 0 = .ok (.aload_n 0, 1) := by decide +kernel
theorem dX6_expectNumber_1 : decode cX6_expectNumber 1 = .ok (.getfield 44, 3) := by decide +kernel
theorem dX6_expectNumber_4 : decode cX6_expectNumber 4 = .ok (.iconst 2, 1) := by decide +kernel
theorem dX6_expectNumber_5 : decode cX6_expectNumber 5 = .ok (.if_icmp .eq 15, 3) := by decide +kernel
theorem dX6_expectNumber_8 : decode cX6_expectNumber 8 = .ok (.aload_n 0, 1) := by decide +kernel
theorem dX6_expectNumber_9 : decode cX6_expectNumber 9 = .ok (.iconst 1, 1) := by decide +kernel
theorem dX6_expectNumber_10 : decode cX6_expectNumber 10 = .ok (.aload_n 0, 1) := by decide +kernel
theorem dX6_expectNumber_11 : decode cX6_expectNumber 11 = .ok (.getfield 51, 3) := by decide +kernel
theorem dX6_expectNumber_14 : decode cX6_expectNumber 14 = .ok (.invokevirtual 54, 3) := by decide +kernel
theorem dX6_expectNumber_17 : decode cX6_expectNumber 17 = .ok (.pop, 1) := by decide +kernel
theorem dX6_expectNumber_18 : decode cX6_expectNumber 18 = .ok (.iload_n 1, 1) := by decide +kernel
theorem dX6_expectNumber_19 : decode cX6_expectNumber 19 = .ok (.ireturn, 1) := by decide +kernel
theorem dX6_expectNumber_20 : decode cX6_expectNumber 20 = .ok (.aload_n 0, 1) := by decide +kernel
theorem dX6_expectNumber_21 : decode cX6_expectNumber 21 = .ok (.getfield 88, 3) := by decide +kernel
theorem dX6_expectNumber_24 : decode cX6_expectNumber 24 = .ok (.aload_n 0, 1) := by decide +kernel
theorem dX6_expectNumber_25 : decode cX6_expectNumber 25 = .ok (.getfield 51, 3) := by decide +kernel
theorem dX6_expectNumber_28 : decode cX6_expectNumber 28 = .ok (.isub, 1) := by decide +kernel
theorem dX6_expectNumber_29 : decode cX6_expectNumber 29 = .ok (.iconst 4, 1) := by decide +kernel
theorem dX6_expectNumber_30 : decode cX6_expectNumber 30 = .ok (.if_icmp .le 17, 3) := by decide +kernel
theorem dX6_expectNumber_33 : decode cX6_expectNumber 33 = .ok (.aload_n 0, 1) := by decide +kernel
theorem dX6_expectNumber_34 : decode cX6_expectNumber 34 = .ok (.iconst 1, 1) := by decide +kernel
theorem dX6_expectNumber_35 : decode cX6_expectNumber 35 = .ok (.aload_n 0, 1) := by decide +kernel
theorem dX6_expectNumber_36 : decode cX6_expectNumber 36 = .ok (.getfield 51, 3) := by decide +kernel
theorem dX6_expectNumber_39 : decode cX6_expectNumber 39 = .ok (.iconst 4, 1) := by decide +kernel
theorem dX6_expectNumber_40 : decode cX6_expectNumber 40 = .ok (.iadd, 1) := by decide +kernel
theorem dX6_expectNumber_41 : decode cX6_expectNumber 41 = .ok (.invokevirtual 54, 3) := by decide +kernel
theorem dX6_expectNumber_44 : decode cX6_expectNumber 44 = .ok (.pop, 1) := by decide +kernel
theorem dX6_expectNumber_45 : decode cX6_expectNumber 45 = .ok (.iload_n 1, 1) := by decide +kernel
theorem dX6_expectNumber_46 : decode cX6_expectNumber 46 = .ok (.ireturn, 1) := by decide +kernel
theorem dX6_expectNumber_47 : decode cX6_expectNumber 47 = .ok (.iconst 0, 1) := by decide +kernel
theorem dX6_expectNumber_48 : decode cX6_expectNumber 48 = .ok (.istore_n 3, 1) := by decide +kernel
theorem dX6_expectNumber_49 : decode cX6_expectNumber 49 = .ok (.aload_n 0, 1) := by decide +kernel
theorem dX6_expectNumber_50 : decode cX6_expectNumber 50 = .ok (.getfield 51, 3) := by decide +kernel
theorem dX6_expectNumber_53 : decode cX6_expectNumber 53 = .ok (.istore 4, 2) := by decide +kernel
theorem dX6_expectNumber_55 : decode cX6_expectNumber 55 = .ok (.iload 4, 2) := by decide +kernel
theorem dX6_expectNumber_57 : decode cX6_expectNumber 57 = .ok (.aload_n 0, 1) := by decide +kernel
theorem dX6_expectNumber_58 : decode cX6_expectNumber 58 = .ok (.getfield 88, 3) := by decide +kernel
theorem dX6_expectNumber_61 : decode cX6_expectNumber 61 = .ok (.if_icmp .ge 27, 3) := by decide +kernel
theorem dX6_expectNumber_64 : decode cX6_expectNumber 64 = .ok (.iload_n 3, 1) := by decide +kernel
theorem dX6_expectNumber_65 : decode cX6_expectNumber 65 = .ok (.bipush 10, 2) := by decide +kernel
theorem dX6_expectNumber_67 : decode cX6_expectNumber 67 = .ok (.imul, 1) := by decide +kernel
theorem dX6_expectNumber_68 : decode cX6_expectNumber 68 = .ok (.aload_n 0, 1) := by decide +kernel
theorem dX6_expectNumber_69 : decode cX6_expectNumber 69 = .ok (.getfield 27, 3) := by decide +kernel
theorem dX6_expectNumber_72 : decode cX6_expectNumber 72 = .ok (.iload 4, 2) := by decide +kernel
theorem dX6_expectNumber_74 : decode cX6_expectNumber 74 = .ok (.invokevirtual 104, 3) := by decide +kernel
theorem dX6_expectNumber_77 : decode cX6_expectNumber 77 = .ok (.iadd, 1) := by decide +kernel
theorem dX6_expectNumber_78 : decode cX6_expectNumber 78 = .ok (.bipush 48, 2) := by decide +kernel
theorem dX6_expectNumber_80 : decode cX6_expectNumber 80 = .ok (.isub, 1) := by decide +kernel
theorem dX6_expectNumber_81 : decode cX6_expectNumber 81 = .ok (.istore_n 3, 1) := by decide +kernel
theorem dX6_expectNumber_82 : decode cX6_expectNumber 82 = .ok (.iinc 4 1, 3) := by decide +kernel
theorem dX6_expectNumber_85 : decode cX6_expectNumber 85 = .ok (.goto (-30), 3) := by decide +kernel
theorem dX6_expectNumber_88 : decode cX6_expectNumber 88 = .ok (.iload_n 3, 1) := by decide +kernel
theorem dX6_expectNumber_89 : decode cX6_expectNumber 89 = .ok (.iload_n 1, 1) := by decide +kernel
theorem dX6_expectNumber_90 : decode cX6_expectNumber 90 = .ok (.if_icmp .lt 8, 3) := by decide +kernel
theorem dX6_expectNumber_93 : decode cX6_expectNumber 93 = .ok (.iload_n 3, 1) := by decide +kernel
theorem dX6_expectNumber_94 : decode cX6_expectNumber 94 = .ok (.iload_n 2, 1) := by decide +kernel
theorem dX6_expectNumber_95 : decode cX6_expectNumber 95 = .ok (.if_icmp .le 15, 3) := by decide +kernel
theorem dX6_expectNumber_98 : decode cX6_expectNumber 98 = .ok (.aload_n 0, 1) := by decide +kernel
theorem dX6_expectNumber_99 : decode cX6_expectNumber 99 = .ok (.iconst 2, 1) := by decide +kernel
theorem dX6_expectNumber_100 : decode cX6_expectNumber 100 = .ok (.aload_n 0, 1) := by decide +kernel
theorem dX6_expectNumber_101 : decode cX6_expectNumber 101 = .ok (.getfield 51, 3) := by decide +kernel
theorem dX6_expectNumber_104 : decode cX6_expectNumber 104 = .ok (.invokevirtual 54, 3) := by decide +kernel
theorem dX6_expectNumber_107 : decode cX6_expectNumber 107 = .ok (.pop, 1) := by decide +kernel
theorem dX6_expectNumber_108 : decode cX6_expectNumber 108 = .ok (.iload_n 1, 1) := by decide +kernel
theorem dX6_expectNumber_109 : decode cX6_expectNumber 109 = .ok (.ireturn, 1) := by decide +kernel
theorem dX6_expectNumber_110 : decode cX6_expectNumber 110 = .ok (.aload_n 0, 1) := by decide +kernel
theorem dX6_expectNumber_111 : decode cX6_expectNumber 111 = .ok (.invokevirtual 75, 3) := by decide +kernel
theorem dX6_expectNumber_114 : decode cX6_expectNumber 114 = .ok (.iload_n 3, 1) := by decide +kernel
theorem dX6_expectNumber_115 : decode cX6_expectNumber 115 = .ok (.ireturn, 1) := by decide +kernel
theorem dX6_isName_0 : decode cX6_isName 0 = .ok (.aload_n 0, 1) := by decide +kernel
theorem dX6_isName_1 : decode cX6_isName 1 = .ok (.getfield 44, 3) := by decide +kernel
theorem dX6_isName_4 : decode cX6_isName 4 = .ok (.iconst 1, 1) := by decide +kernel
theorem dX6_isName_5 : decode cX6_isName 5 = .ok (.if_icmp .ne 20, 3) := by decide +kernel
theorem dX6_isName_8 : decode cX6_isName 8 = .ok (.aload_n 0, 1) := by decide +kernel
theorem dX6_isName_9 : decode cX6_isName 9 = .ok (.getfield 72, 3) := by decide +kernel
theorem dX6_isName_12 : decode cX6_isName 12 = .ok (.iconst (-1), 1) := by decide +kernel
theorem dX6_isName_13 : decode cX6_isName 13 = .ok (.if_icmp .eq 22, 3) := by decide +kernel
theorem dX6_isName_16 : decode cX6_isName 16 = .ok (.aload_n 0, 1) := by decide +kernel
theorem dX6_isName_17 : decode cX6_isName 17 = .ok (.getfield 72, 3) := by decide +kernel
theorem dX6_isName_20 : decode cX6_isName 20 = .ok (.bipush 27, 2) := by decide +kernel
theorem dX6_isName_22 : decode cX6_isName 22 = .ok (.if_icmp .ge 13, 3) := by decide +kernel
theorem dX6_isName_25 : decode cX6_isName 25 = .ok (.aload_n 0, 1) := by decide +kernel
theorem dX6_isName_26 : decode cX6_isName 26 = .ok (.iconst 1, 1) := by decide +kernel
theorem dX6_isName_27 : decode cX6_isName 27 = .ok (.aload_n 0, 1) := by decide +kernel
theorem dX6_isName_28 : decode cX6_isName 28 = .ok (.getfield 51, 3) := by decide +kernel
theorem dX6_isName_31 : decode cX6_isName 31 = .ok (.invokevirtual 54, 3) := by decide +kernel
theorem dX6_isName_34 : decode cX6_isName 34 = .ok (.ireturn, 1) := by decide +kernel
theorem dX6_isName_35 : decode cX6_isName 35 = .ok (.aload_n 0, 1) := by decide +kernel
theorem dX6_isName_36 : decode cX6_isName 36 = .ok (.getfield 88, 3) := by decide +kernel
theorem dX6_isName_39 : decode cX6_isName 39 = .ok (.aload_n 0, 1) := by decide +kernel
theorem dX6_isName_40 : decode cX6_isName 40 = .ok (.getfield 51, 3) := by decide +kernel
theorem dX6_isName_43 : decode cX6_isName 43 = .ok (.isub, 1) := by decide +kernel
theorem dX6_isName_44 : decode cX6_isName 44 = .ok (.bipush 6, 2) := by decide +kernel
theorem dX6_isName_46 : decode cX6_isName 46 = .ok (.if_icmp .le 18, 3) := by decide +kernel
theorem dX6_isName_49 : decode cX6_isName 49 = .ok (.aload_n 0, 1) := by decide +kernel
theorem dX6_isName_50 : decode cX6_isName 50 = .ok (.iconst 1, 1) := by decide +kernel
theorem dX6_isName_51 : decode cX6_isName 51 = .ok (.aload_n 0, 1) := by decide +kernel
theorem dX6_isName_52 : decode cX6_isName 52 = .ok (.getfield 51, 3) := by decide +kernel
theorem dX6_isName_55 : decode cX6_isName 55 = .ok (.bipush 6, 2) := by decide +kernel
theorem dX6_isName_57 : decode cX6_isName 57 = .ok (.iadd, 1) := by decide +kernel
theorem dX6_isName_58 : decode cX6_isName 58 = .ok (.invokevirtual 54, 3) := by decide +kernel
theorem dX6_isName_61 : decode cX6_isName 61 = .ok (.ifCond .eq 7, 3) := by decide +kernel
theorem dX6_isName_64 : decode cX6_isName 64 = .ok (.iconst 1, 1) := by decide +kernel
theorem dX6_isName_65 : decode cX6_isName 65 = .ok (.goto 4, 3) := by decide +kernel
theorem dX6_isName_68 : decode cX6_isName 68 = .ok (.iconst 0, 1) := by decide +kernel
theorem dX6_isName_69 : decode cX6_isName 69 = .ok (.ireturn, 1) := by decide +kernel
set_option maxHeartbeats 4000000 in
set_option maxRecDepth 100000 in
theorem k_X6_expectNumber (l : Launch) (D : va_G) (sz : Nat) (h0 h1 h2 h3 h4 : Nat) (fa pl mo ki wo si : Int32) (op s0 sp n : Nat) (f fw : Nat → Int32) (p0 : Int32) (p1 : Int32) (h_1 : s0 ≤ sp) (h_2 : sp ≤ n) (h_3 : n ≤ 1600) (h_4 : ¬ fa.toInt = 0 → ki.toInt = 0) (h_5 : op ≤ 6) (h_6 : p0.toInt ≤ p1.toInt) : Met l yX6_expectNumber (wz yX6_expectNumber cX6_expectNumber 5 (some .int)) { frames := 2, cells := 0, slots := 0, locals := 120 } (va_Pc [.ref h0, .int p0, .int p1] (zW D sz [(h0, .inr (6, [.int fa, .int pl, .ref h1, .ref h2, .ref h3, .int mo, .int (nI op), .int ki, .int (nI s0), .int (nI sp), .int wo, .int si])), (h1, .inr (9, [.ref h4, .int (nI n)])), (h4, .inl (D.1 13, 1600, .inl f)), (h2, .inl (D.1 14, 179, .inl fw))])) (va_Qi (fun r (u : ((Int32) × (Int32) × (Int32) × (Nat) × (Nat) × (Int32) × (Int32))) => u.2.2.2.1 ≤ u.2.2.2.2.1 ∧ u.2.2.2.2.1 ≤ n ∧ sp ≤ u.2.2.2.2.1 ∧ (¬ u.1.toInt = 0 → u.2.2.1.toInt = 0) ∧ p0.toInt ≤ r.toInt ∧ r.toInt ≤ p1.toInt) (fun u t => zB D (va_A [(h0, .inr (6, [.int fa, .int pl, .ref h1, .ref h2, .ref h3, .int mo, .int (nI op), .int ki, .int (nI s0), .int (nI sp), .int wo, .int si])), (h1, .inr (9, [.ref h4, .int (nI n)])), (h4, .inl (D.1 13, 1600, .inl f)), (h2, .inl (D.1 14, 179, .inl fw))] sz) ((fun (u : ((Int32) × (Int32) × (Int32) × (Nat) × (Nat) × (Int32) × (Int32))) => [(h0, .inr (6, [.int u.1, .int u.2.1, .ref h1, .ref h2, .ref h3, .int mo, .int (nI op), .int u.2.2.1, .int (nI u.2.2.2.1), .int (nI u.2.2.2.2.1), .int u.2.2.2.2.2.1, .int u.2.2.2.2.2.2])), (h1, .inr (9, [.ref h4, .int (nI n)])), (h4, .inl (D.1 13, 1600, .inl f)), (h2, .inl (D.1 14, 179, .inl fw))]) u) t) (va_A [(h0, .inr (6, [.int fa, .int pl, .ref h1, .ref h2, .ref h3, .int mo, .int (nI op), .int ki, .int (nI s0), .int (nI sp), .int wo, .int si])), (h1, .inr (9, [.ref h4, .int (nI n)])), (h4, .inl (D.1 13, 1600, .inl f)), (h2, .inl (D.1 14, 179, .inl fw))] sz)) 0 0 (va_A [(h0, .inr (6, [.int fa, .int pl, .ref h1, .ref h2, .ref h3, .int mo, .int (nI op), .int ki, .int (nI s0), .int (nI sp), .int wo, .int si])), (h1, .inr (9, [.ref h4, .int (nI n)])), (h4, .inl (D.1 13, 1600, .inl f)), (h2, .inl (D.1 14, 179, .inl fw))] sz) := by
  refine Met.ofW (cc := cX6_expectNumber) (maxL := 5) (ret := (some .int)) (by decide) rfl ?_
  intro p e s m args below meth c s₁ B hml hv
  obtain ⟨rfl, hsz, hP, hK, hD0⟩ := hv
  have hx := B.exec
  have hb := B.bytes
  have hr := B.returns
  have hts := atoms_spec (ws := wz yX6_expectNumber cX6_expectNumber 5 (some .int)) B.pre
  have ht : ∀ w ∈ lw_gd, w.before _ s = true := fun w h => hts w (List.mem_cons_of_mem _ h)
  have hown : s.vm.findClass RX6 = some m.cls := findClass_of_methodNamed B.named
  have hlocks := B.notSynchronized
  subst hsz
  have hD := hD0.self (sz := s.heap.size)
  generalize hAe : va_A [(h0, .inr (6, [.int fa, .int pl, .ref h1, .ref h2, .ref h3, .int mo, .int (nI op), .int ki, .int (nI s0), .int (nI sp), .int wo, .int si])), (h1, .inr (9, [.ref h4, .int (nI n)])), (h4, .inl (D.1 13, 1600, .inl f)), (h2, .inl (D.1 14, 179, .inl fw))] s.heap.size = A at hD ⊢
  have hA : ∀ q : Nat, s.heap.size ≤ q → A q := fun q h => by rw [← hAe]; exact Or.inr h
  have hS : va_S A s.heap s.heap [] := va_S.rf
  have zi0 : (0 : Int32).toInt = 0 := rfl
  have zi1 : (1 : Int32).toInt = 1 := rfl
  have zi2 : (2 : Int32).toInt = 2 := rfl
  have zi3 : (3 : Int32).toInt = 3 := rfl
  have zi4 : (4 : Int32).toInt = 4 := rfl
  have hl := lv_entry ([.ref h0, .int p0, .int p1]) (n := 5) (Nat.le_of_ble_eq_true rfl)
  rw [lg_entry_eq]
  generalize (lg_sl ([.ref h0, .int p0, .int p1]) ++ List.replicate (5 - (lg_sl ([.ref h0, .int p0, .int p1])).length) Slot.unset).toArray = ls at hl ⊢
  have hl : lv_has ls 5 [(0, .ref h0), (1, .int p0), (2, .int p1)] := hl
  refine lv_aload_n hx hb dX6_expectNumber_0 rfl (lv_at hl 0 rfl) ?_
  refine va_get (D := D) (ci := 6) (v := .int ki) (C := RX6) (T := TX6) (N := 12) hx hb ht inX6 hown hK hP 0 rfl rfl 7 (by decide) (ht (.fieldLink RX6 44 "CloneVolumes$Reader" "kind" "I") fl_X6_44) (fun _ h9 => h9) rfl dX6_expectNumber_1 ?_
  refine lv_iconst (v := 2) hx hb dX6_expectNumber_4 (by decide) ?_
  refine lv_icmp_eq (tgt := 20) hx hb dX6_expectNumber_5 (by decide) (fun c_1 => ?_) (fun c_1 => ?_)
  · have g_2 : ki.toInt = 2 := z_eq rfl (by decide) c_1
    refine lv_aload_n hx hb dX6_expectNumber_20 rfl (lv_at hl 0 rfl) ?_
    refine va_get (D := D) (ci := 6) (v := .int (nI sp)) (C := RX6) (T := TX6) (N := 12) hx hb ht inX6 hown hK hP 0 rfl rfl 9 (by decide) (ht (.fieldLink RX6 88 "CloneVolumes$Reader" "stop" "I") fl_X6_88) (fun _ h9 => h9) rfl dX6_expectNumber_21 ?_
    refine lv_aload_n hx hb dX6_expectNumber_24 rfl (lv_at hl 0 rfl) ?_
    refine va_get (D := D) (ci := 6) (v := .int (nI s0)) (C := RX6) (T := TX6) (N := 12) hx hb ht inX6 hown hK hP 0 rfl rfl 8 (by decide) (ht (.fieldLink RX6 51 "CloneVolumes$Reader" "start" "I") fl_X6_51) (fun _ h9 => h9) rfl dX6_expectNumber_25 ?_
    refine lv_isub hx hb dX6_expectNumber_28 ?_
    refine z_topi (y := nI (sp - s0)) (z_nsub (a := sp) (b := s0) (by omega)) ?_
    refine lv_iconst (v := 4) hx hb dX6_expectNumber_29 (by decide) ?_
    refine lv_icmp_le (tgt := 47) hx hb dX6_expectNumber_30 (by decide) (fun c_3 => ?_) (fun c_3 => ?_)
    · have g_4 : ((sp - s0 : Nat) : Int) ≤ 4 := z_le (nI_toInt (by omega)) (by decide) c_3
      refine lv_iconst (v := 0) hx hb dX6_expectNumber_47 (by decide) ?_
      refine lv_istore_n (lv' := [(3, .int 0), (0, .ref h0), (1, .int p0), (2, .int p1)]) hx hb dX6_expectNumber_48 rfl hl (by decide) rfl (fun ls hl => ?_)
      refine lv_aload_n hx hb dX6_expectNumber_49 rfl (lv_at hl 1 rfl) ?_
      refine va_get (D := D) (ci := 6) (v := .int (nI s0)) (C := RX6) (T := TX6) (N := 12) hx hb ht inX6 hown hK hP 0 rfl rfl 8 (by decide) (ht (.fieldLink RX6 51 "CloneVolumes$Reader" "start" "I") fl_X6_51) (fun _ h9 => h9) rfl dX6_expectNumber_50 ?_
      refine lv_istore (lv' := [(4, .int (nI s0)), (3, .int 0), (0, .ref h0), (1, .int p0), (2, .int p1)]) hx hb dX6_expectNumber_53 hl (by decide) rfl (fun ls hl => ?_)
      refine z_loop (σ := (Int32)) (N := sp) (fun i u H locs ls => va_P D vwCl [(h0, .inr (6, [.int fa, .int pl, .ref h1, .ref h2, .ref h3, .int mo, .int (nI op), .int ki, .int (nI s0), .int (nI sp), .int wo, .int si])), (h1, .inr (9, [.ref h4, .int (nI n)])), (h4, .inl (D.1 13, 1600, .inl f)), (h2, .inl (D.1 14, 179, .inl fw))] H ∧ va_D A [(h0, .inr (6, [.int fa, .int pl, .ref h1, .ref h2, .ref h3, .int mo, .int (nI op), .int ki, .int (nI s0), .int (nI sp), .int wo, .int si])), (h1, .inr (9, [.ref h4, .int (nI n)])), (h4, .inl (D.1 13, 1600, .inl f)), (h2, .inl (D.1 14, 179, .inl fw))] ∧ va_S A s.heap H locs ∧ lv_has ls 5 [(4, .int (nI i)), (3, .int u), (0, .ref h0), (1, .int p0), (2, .int p1)]) (fun i_5 x_6 H locs ls hi_i_5 hI ih_55 => ?_) s0 0 (by omega) ⟨hP, hD, hS, lv_sub hl [0, 1, 2, 3, 4] rfl⟩
      obtain ⟨hP, hD, hS, hl⟩ := hI
      have hP : va_P D vwCl [(h0, .inr (6, [.int fa, .int pl, .ref h1, .ref h2, .ref h3, .int mo, .int (nI op), .int ki, .int (nI s0), .int (nI sp), .int wo, .int si])), (h1, .inr (9, [.ref h4, .int (nI n)])), (h4, .inl (D.1 13, 1600, .inl f)), (h2, .inl (D.1 14, 179, .inl fw))] H := hP
      have hD : va_D A [(h0, .inr (6, [.int fa, .int pl, .ref h1, .ref h2, .ref h3, .int mo, .int (nI op), .int ki, .int (nI s0), .int (nI sp), .int wo, .int si])), (h1, .inr (9, [.ref h4, .int (nI n)])), (h4, .inl (D.1 13, 1600, .inl f)), (h2, .inl (D.1 14, 179, .inl fw))] := hD
      have hl : lv_has ls 5 [(4, .int (nI i_5)), (3, .int x_6), (0, .ref h0), (1, .int p0), (2, .int p1)] := hl
      refine lv_iload hx hb dX6_expectNumber_55 (lv_at hl 0 rfl) ?_
      refine lv_aload_n hx hb dX6_expectNumber_57 rfl (lv_at hl 2 rfl) ?_
      refine va_get (D := D) (ci := 6) (v := .int (nI sp)) (C := RX6) (T := TX6) (N := 12) hx hb ht inX6 hown hK hP 0 rfl rfl 9 (by decide) (ht (.fieldLink RX6 88 "CloneVolumes$Reader" "stop" "I") fl_X6_88) (fun _ h9 => h9) rfl dX6_expectNumber_58 ?_
      refine lv_icmp_ge (tgt := 88) hx hb dX6_expectNumber_61 (by decide) (fun c_7 => ?_) (fun c_7 => ?_)
      · have g_8 : ((sp : Nat) : Int) ≤ ((i_5 : Nat) : Int) := z_le (nI_toInt (by omega)) (nI_toInt (by omega)) c_7
        refine lv_iload_n hx hb dX6_expectNumber_88 rfl (lv_at hl 1 rfl) ?_
        refine lv_iload_n hx hb dX6_expectNumber_89 rfl (lv_at hl 3 rfl) ?_
        refine lv_icmp_lt (tgt := 98) hx hb dX6_expectNumber_90 (by decide) (fun c_9 => ?_) (fun c_9 => ?_)
        · have g_10 : x_6.toInt < p0.toInt := z_lt rfl rfl c_9
          refine lv_aload_n hx hb dX6_expectNumber_98 rfl (lv_at hl 2 rfl) ?_
          refine lv_iconst (v := 2) hx hb dX6_expectNumber_99 (by decide) ?_
          refine lv_aload_n hx hb dX6_expectNumber_100 rfl (lv_at hl 2 rfl) ?_
          refine va_get (D := D) (ci := 6) (v := .int (nI s0)) (C := RX6) (T := TX6) (N := 12) hx hb ht inX6 hown hK hP 0 rfl rfl 8 (by decide) (ht (.fieldLink RX6 51 "CloneVolumes$Reader" "start" "I") fl_X6_51) (fun _ h9 => h9) rfl dX6_expectNumber_101 ?_
          have en_11 : (2 : Int32).toInt = 2 := by decide
          have en_12 : (nI s0).toInt = ((s0 : Nat) : Int) := nI_toInt (by omega)
          refine zwV (As := [.int 2, .int (nI s0)]) (rest := []) (C := RX6) (n := 2) (wr := [(h1, .inr (9, [.ref h4, .int (nI n)])), (h4, .inl (D.1 13, 1600, .inl f)), (h2, .inl (D.1 14, 179, .inl fw))]) ⟨hx, hb, hml, hown, ht⟩ (k_X6_fail l D _ h0 h1 h2 h3 fa pl mo ki wo si op s0 sp 2 (nI s0) (by first | decide | omega)) (zgV ml_X6_54 im_X6_fail se_X6_fail in_X6 co_X6_fail) rfl rfl (by decide +kernel) ⟨Nat.le_of_ble_eq_true rfl, Nat.le_of_ble_eq_true rfl⟩ hK hP hD hS hA [0] [1, 2, 3] rfl rfl rfl rfl (by decide) 0 rfl rfl rfl rfl hl.1 rfl (Nat.le_of_ble_eq_true rfl) dX6_expectNumber_104 ⟨Nat.le_of_ble_eq_true rfl, Nat.le_of_ble_eq_true rfl⟩ (fun r_14 u_13 H locs hw hP hD hS => ?_)
          obtain ⟨x_15, x_16, x_17⟩ := u_13
          have hP : va_P D vwCl [(h1, .inr (9, [.ref h4, .int (nI n)])), (h4, .inl (D.1 13, 1600, .inl f)), (h2, .inl (D.1 14, 179, .inl fw)), (h0, .inr (6, [.int x_15, .int x_16, .ref h1, .ref h2, .ref h3, .int mo, .int (nI (op)), .int x_17, .int (nI (s0)), .int (nI (sp)), .int wo, .int si]))] H := hP
          have hD : va_D A [(h1, .inr (9, [.ref h4, .int (nI n)])), (h4, .inl (D.1 13, 1600, .inl f)), (h2, .inl (D.1 14, 179, .inl fw)), (h0, .inr (6, [.int x_15, .int x_16, .ref h1, .ref h2, .ref h3, .int mo, .int (nI (op)), .int x_17, .int (nI (s0)), .int (nI (sp)), .int wo, .int si]))] := hD
          obtain ⟨hrr, hw⟩ := hw
          subst hrr
          have hw_18 : (¬ x_15.toInt = 0 → x_17.toInt = 0) ∧ (¬ (2 : Int32).toInt = 0 → ¬ x_15.toInt = 0) := hw
          refine lv_pop hx hb dX6_expectNumber_107 rfl ?_
          refine lv_iload_n hx hb dX6_expectNumber_108 rfl (lv_at hl 3 rfl) ?_
          have hP9 := hP.sub (ws' := [(h0, .inr (6, [.int x_15, .int x_16, .ref h1, .ref h2, .ref h3, .int mo, .int (nI op), .int x_17, .int (nI s0), .int (nI sp), .int wo, .int si])), (h1, .inr (9, [.ref h4, .int (nI n)])), (h4, .inl (D.1 13, 1600, .inl f)), (h2, .inl (D.1 14, 179, .inl fw))]) [3, 0, 1, 2] rfl
          have hD9 := hD.sub (ws' := [(h0, .inr (6, [.int x_15, .int x_16, .ref h1, .ref h2, .ref h3, .int mo, .int (nI op), .int x_17, .int (nI s0), .int (nI sp), .int wo, .int si])), (h1, .inr (9, [.ref h4, .int (nI n)])), (h4, .inl (D.1 13, 1600, .inl f)), (h2, .inl (D.1 14, 179, .inl fw))]) [3, 0, 1, 2] (by decide) rfl
          refine W.widen (k := 0) (n := 0) (Nat.le_of_ble_eq_true rfl) (Nat.le_of_ble_eq_true rfl) ?_
          exact W.iret (v := p0) hx hb hr (fun t ht hW => ⟨⟨p0, (x_15, x_16, x_17, s0, sp, wo, si), rfl, (by first | omega | (dsimp only; omega)), by rw [ht]; exact hP9, va_K.moved hW.alike hK, hD9⟩, hS.F ht⟩) hS.2.2 dX6_expectNumber_109
        · have g_10 : p0.toInt ≤ x_6.toInt := z_nlt rfl rfl c_9
          refine lv_iload_n hx hb dX6_expectNumber_93 rfl (lv_at hl 1 rfl) ?_
          refine lv_iload_n hx hb dX6_expectNumber_94 rfl (lv_at hl 4 rfl) ?_
          refine lv_icmp_le (tgt := 110) hx hb dX6_expectNumber_95 (by decide) (fun c_19 => ?_) (fun c_19 => ?_)
          · have g_20 : x_6.toInt ≤ p1.toInt := z_le rfl rfl c_19
            refine lv_aload_n hx hb dX6_expectNumber_110 rfl (lv_at hl 2 rfl) ?_
            refine zwVv (As := []) (rest := []) (C := RX6) (n := 0) (wr := []) ⟨hx, hb, hml, hown, ht⟩ (k_X6_advance l D _ h0 h1 h2 h3 h4 fa pl mo ki wo si op s0 sp n f fw (by first | decide | omega) (by first | decide | omega) (by first | decide | omega) (by first | decide | omega)) (zgV ml_X6_75 im_X6_advance se_X6_advance in_X6 co_X6_advance) rfl rfl (by decide +kernel) ⟨Nat.le_of_ble_eq_true rfl, Nat.le_of_ble_eq_true rfl⟩ hK hP hD hS hA [0, 1, 2, 3] [] rfl rfl rfl rfl (by decide) 0 rfl rfl rfl rfl hl.1 rfl (Nat.le_of_ble_eq_true rfl) dX6_expectNumber_111 ⟨Nat.le_of_ble_eq_true rfl, Nat.le_of_ble_eq_true rfl⟩ (fun u_21 H locs hw hP hD hS => ?_)
            obtain ⟨x_23, n_24, n_25, x_26, x_27⟩ := u_21
            have hP : va_P D vwCl [(h0, .inr (6, [.int fa, .int pl, .ref h1, .ref h2, .ref h3, .int mo, .int (nI (op)), .int x_23, .int (nI (n_24)), .int (nI (n_25)), .int x_26, .int x_27])), (h1, .inr (9, [.ref h4, .int (nI (n))])), (h4, .inl (D.1 13, 1600, .inl f)), (h2, .inl (D.1 14, 179, .inl fw))] H := hP
            have hD : va_D A [(h0, .inr (6, [.int fa, .int pl, .ref h1, .ref h2, .ref h3, .int mo, .int (nI (op)), .int x_23, .int (nI (n_24)), .int (nI (n_25)), .int x_26, .int x_27])), (h1, .inr (9, [.ref h4, .int (nI (n))])), (h4, .inl (D.1 13, 1600, .inl f)), (h2, .inl (D.1 14, 179, .inl fw))] := hD
            have hw_28 : n_24 ≤ n_25 ∧ n_25 ≤ n ∧ sp ≤ n_25 ∧ (x_23.toInt = 0 ∨ (sp < n_25 ∧ n_24 < n_25)) ∧ (¬ fa.toInt = 0 → x_23.toInt = 0) := hw
            refine lv_iload_n hx hb dX6_expectNumber_114 rfl (lv_at hl 1 rfl) ?_
            have hP9 := hP.sub (ws' := [(h0, .inr (6, [.int fa, .int pl, .ref h1, .ref h2, .ref h3, .int mo, .int (nI op), .int x_23, .int (nI n_24), .int (nI n_25), .int x_26, .int x_27])), (h1, .inr (9, [.ref h4, .int (nI n)])), (h4, .inl (D.1 13, 1600, .inl f)), (h2, .inl (D.1 14, 179, .inl fw))]) [0, 1, 2, 3] rfl
            have hD9 := hD.sub (ws' := [(h0, .inr (6, [.int fa, .int pl, .ref h1, .ref h2, .ref h3, .int mo, .int (nI op), .int x_23, .int (nI n_24), .int (nI n_25), .int x_26, .int x_27])), (h1, .inr (9, [.ref h4, .int (nI n)])), (h4, .inl (D.1 13, 1600, .inl f)), (h2, .inl (D.1 14, 179, .inl fw))]) [0, 1, 2, 3] (by decide) rfl
            refine W.widen (k := 0) (n := 0) (Nat.le_of_ble_eq_true rfl) (Nat.le_of_ble_eq_true rfl) ?_
            exact W.iret (v := x_6) hx hb hr (fun t ht hW => ⟨⟨x_6, (fa, pl, x_23, n_24, n_25, x_26, x_27), rfl, (by first | omega | (dsimp only; omega)), by rw [ht]; exact hP9, va_K.moved hW.alike hK, hD9⟩, hS.F ht⟩) hS.2.2 dX6_expectNumber_115
          · have g_20 : p1.toInt < x_6.toInt := z_nle rfl rfl c_19
            refine lv_aload_n hx hb dX6_expectNumber_98 rfl (lv_at hl 2 rfl) ?_
            refine lv_iconst (v := 2) hx hb dX6_expectNumber_99 (by decide) ?_
            refine lv_aload_n hx hb dX6_expectNumber_100 rfl (lv_at hl 2 rfl) ?_
            refine va_get (D := D) (ci := 6) (v := .int (nI s0)) (C := RX6) (T := TX6) (N := 12) hx hb ht inX6 hown hK hP 0 rfl rfl 8 (by decide) (ht (.fieldLink RX6 51 "CloneVolumes$Reader" "start" "I") fl_X6_51) (fun _ h9 => h9) rfl dX6_expectNumber_101 ?_
            have en_29 : (2 : Int32).toInt = 2 := by decide
            have en_30 : (nI s0).toInt = ((s0 : Nat) : Int) := nI_toInt (by omega)
            refine zwV (As := [.int 2, .int (nI s0)]) (rest := []) (C := RX6) (n := 2) (wr := [(h1, .inr (9, [.ref h4, .int (nI n)])), (h4, .inl (D.1 13, 1600, .inl f)), (h2, .inl (D.1 14, 179, .inl fw))]) ⟨hx, hb, hml, hown, ht⟩ (k_X6_fail l D _ h0 h1 h2 h3 fa pl mo ki wo si op s0 sp 2 (nI s0) (by first | decide | omega)) (zgV ml_X6_54 im_X6_fail se_X6_fail in_X6 co_X6_fail) rfl rfl (by decide +kernel) ⟨Nat.le_of_ble_eq_true rfl, Nat.le_of_ble_eq_true rfl⟩ hK hP hD hS hA [0] [1, 2, 3] rfl rfl rfl rfl (by decide) 0 rfl rfl rfl rfl hl.1 rfl (Nat.le_of_ble_eq_true rfl) dX6_expectNumber_104 ⟨Nat.le_of_ble_eq_true rfl, Nat.le_of_ble_eq_true rfl⟩ (fun r_32 u_31 H locs hw hP hD hS => ?_)
            obtain ⟨x_33, x_34, x_35⟩ := u_31
            have hP : va_P D vwCl [(h1, .inr (9, [.ref h4, .int (nI n)])), (h4, .inl (D.1 13, 1600, .inl f)), (h2, .inl (D.1 14, 179, .inl fw)), (h0, .inr (6, [.int x_33, .int x_34, .ref h1, .ref h2, .ref h3, .int mo, .int (nI (op)), .int x_35, .int (nI (s0)), .int (nI (sp)), .int wo, .int si]))] H := hP
            have hD : va_D A [(h1, .inr (9, [.ref h4, .int (nI n)])), (h4, .inl (D.1 13, 1600, .inl f)), (h2, .inl (D.1 14, 179, .inl fw)), (h0, .inr (6, [.int x_33, .int x_34, .ref h1, .ref h2, .ref h3, .int mo, .int (nI (op)), .int x_35, .int (nI (s0)), .int (nI (sp)), .int wo, .int si]))] := hD
            obtain ⟨hrr, hw⟩ := hw
            subst hrr
            have hw_36 : (¬ x_33.toInt = 0 → x_35.toInt = 0) ∧ (¬ (2 : Int32).toInt = 0 → ¬ x_33.toInt = 0) := hw
            refine lv_pop hx hb dX6_expectNumber_107 rfl ?_
            refine lv_iload_n hx hb dX6_expectNumber_108 rfl (lv_at hl 3 rfl) ?_
            have hP9 := hP.sub (ws' := [(h0, .inr (6, [.int x_33, .int x_34, .ref h1, .ref h2, .ref h3, .int mo, .int (nI op), .int x_35, .int (nI s0), .int (nI sp), .int wo, .int si])), (h1, .inr (9, [.ref h4, .int (nI n)])), (h4, .inl (D.1 13, 1600, .inl f)), (h2, .inl (D.1 14, 179, .inl fw))]) [3, 0, 1, 2] rfl
            have hD9 := hD.sub (ws' := [(h0, .inr (6, [.int x_33, .int x_34, .ref h1, .ref h2, .ref h3, .int mo, .int (nI op), .int x_35, .int (nI s0), .int (nI sp), .int wo, .int si])), (h1, .inr (9, [.ref h4, .int (nI n)])), (h4, .inl (D.1 13, 1600, .inl f)), (h2, .inl (D.1 14, 179, .inl fw))]) [3, 0, 1, 2] (by decide) rfl
            refine W.widen (k := 0) (n := 0) (Nat.le_of_ble_eq_true rfl) (Nat.le_of_ble_eq_true rfl) ?_
            exact W.iret (v := p0) hx hb hr (fun t ht hW => ⟨⟨p0, (x_33, x_34, x_35, s0, sp, wo, si), rfl, (by first | omega | (dsimp only; omega)), by rw [ht]; exact hP9, va_K.moved hW.alike hK, hD9⟩, hS.F ht⟩) hS.2.2 dX6_expectNumber_109
      · have g_8 : ((i_5 : Nat) : Int) < ((sp : Nat) : Int) := z_nle (nI_toInt (by omega)) (nI_toInt (by omega)) c_7
        refine lv_iload_n hx hb dX6_expectNumber_64 rfl (lv_at hl 1 rfl) ?_
        refine lv_bipush (v := 10) hx hb dX6_expectNumber_65 (by decide) ?_
        refine lv_imul hx hb dX6_expectNumber_67 ?_
        refine lv_topi (fun x_37 ex_37 => ?_)
        refine lv_aload_n hx hb dX6_expectNumber_68 rfl (lv_at hl 2 rfl) ?_
        refine va_get (D := D) (ci := 6) (v := .ref h1) (C := RX6) (T := TX6) (N := 12) hx hb ht inX6 hown hK hP 0 rfl rfl 2 (by decide) (ht (.fieldLink RX6 27 "CloneVolumes$Reader" "tape" "LCloneVolumes$Tape;") fl_X6_27) (fun _ h9 => h9) rfl dX6_expectNumber_69 ?_
        refine lv_iload hx hb dX6_expectNumber_72 (lv_at hl 0 rfl) ?_
        have en_38 : (nI i_5).toInt = ((i_5 : Nat) : Int) := nI_toInt (by omega)
        refine zcV (As := [.int (nI i_5)]) (rest := [.int x_37]) (C := RX9) (n := 1) ⟨hx, hb, hml, hown, ht⟩ (k_X9_at l D h1 h4 n f (nI i_5) (by first | decide | omega)) (zgV ml_X6_104 im_X9_at se_X9_at in_X9 co_X9_at) rfl rfl (by decide +kernel) ⟨Nat.le_of_ble_eq_true rfl, Nat.le_of_ble_eq_true rfl⟩ hK hP hS [1, 2] rfl 0 rfl rfl rfl rfl hl.1 rfl (Nat.le_of_ble_eq_true rfl) dX6_expectNumber_74 ⟨Nat.le_of_ble_eq_true rfl, Nat.le_of_ble_eq_true rfl⟩ (fun r_39 H locs hw hP hS => ?_)
        rcases hw with ⟨rfl, g_40⟩ | ⟨rfl, g_41⟩
        · skip
          refine z_topi (y := f i_5) (by rw [nI_clamp (by omega)]) ?_
          refine lv_iadd hx hb dX6_expectNumber_77 ?_
          refine lv_topi (fun x_42 ex_42 => ?_)
          refine lv_bipush (v := 48) hx hb dX6_expectNumber_78 (by decide) ?_
          refine lv_isub hx hb dX6_expectNumber_80 ?_
          refine lv_topi (fun x_43 ex_43 => ?_)
          refine lv_istore_n (lv' := [(3, .int x_43), (4, .int (nI i_5)), (0, .ref h0), (1, .int p0), (2, .int p1)]) hx hb dX6_expectNumber_81 rfl hl (by decide) rfl (fun ls hl => ?_)
          refine lv_iinc (v := nI (i_5 + 1)) (lv' := [(4, .int (nI (i_5 + 1))), (3, .int x_43), (0, .ref h0), (1, .int p0), (2, .int p1)]) hx hb dX6_expectNumber_82 hl (k := 1) rfl (z_inc _) (by decide) rfl (fun ls hl => ?_)
          refine lv_goto (tgt := 55) hx hb dX6_expectNumber_85 (by decide) ?_
          exact ih_55 x_43 _ _ _ (by omega) ⟨hP.sub [0, 1, 2, 3] rfl, hD.sub [0, 1, 2, 3] (by decide) rfl, hS, lv_sub hl [0, 1, 2, 3, 4] rfl⟩
        · skip
          refine lv_iadd hx hb dX6_expectNumber_77 ?_
          refine lv_topi (fun x_44 ex_44 => ?_)
          refine lv_bipush (v := 48) hx hb dX6_expectNumber_78 (by decide) ?_
          refine lv_isub hx hb dX6_expectNumber_80 ?_
          refine lv_topi (fun x_45 ex_45 => ?_)
          refine lv_istore_n (lv' := [(3, .int x_45), (4, .int (nI i_5)), (0, .ref h0), (1, .int p0), (2, .int p1)]) hx hb dX6_expectNumber_81 rfl hl (by decide) rfl (fun ls hl => ?_)
          refine lv_iinc (v := nI (i_5 + 1)) (lv' := [(4, .int (nI (i_5 + 1))), (3, .int x_45), (0, .ref h0), (1, .int p0), (2, .int p1)]) hx hb dX6_expectNumber_82 hl (k := 1) rfl (z_inc _) (by decide) rfl (fun ls hl => ?_)
          refine lv_goto (tgt := 55) hx hb dX6_expectNumber_85 (by decide) ?_
          exact ih_55 x_45 _ _ _ (by omega) ⟨hP.sub [0, 1, 2, 3] rfl, hD.sub [0, 1, 2, 3] (by decide) rfl, hS, lv_sub hl [0, 1, 2, 3, 4] rfl⟩
    · have g_4 : 4 < ((sp - s0 : Nat) : Int) := z_nle (nI_toInt (by omega)) (by decide) c_3
      refine lv_aload_n hx hb dX6_expectNumber_33 rfl (lv_at hl 0 rfl) ?_
      refine lv_iconst (v := 1) hx hb dX6_expectNumber_34 (by decide) ?_
      refine lv_aload_n hx hb dX6_expectNumber_35 rfl (lv_at hl 0 rfl) ?_
      refine va_get (D := D) (ci := 6) (v := .int (nI s0)) (C := RX6) (T := TX6) (N := 12) hx hb ht inX6 hown hK hP 0 rfl rfl 8 (by decide) (ht (.fieldLink RX6 51 "CloneVolumes$Reader" "start" "I") fl_X6_51) (fun _ h9 => h9) rfl dX6_expectNumber_36 ?_
      refine lv_iconst (v := 4) hx hb dX6_expectNumber_39 (by decide) ?_
      refine lv_iadd hx hb dX6_expectNumber_40 ?_
      refine z_topi (y := nI (s0 + 4)) (z_nadd s0 4) ?_
      have en_46 : (1 : Int32).toInt = 1 := by decide
      have en_47 : (nI (s0 + 4)).toInt = ((s0 + 4 : Nat) : Int) := nI_toInt (by omega)
      refine zwV (As := [.int 1, .int (nI (s0 + 4))]) (rest := []) (C := RX6) (n := 2) (wr := [(h1, .inr (9, [.ref h4, .int (nI n)])), (h4, .inl (D.1 13, 1600, .inl f)), (h2, .inl (D.1 14, 179, .inl fw))]) ⟨hx, hb, hml, hown, ht⟩ (k_X6_fail l D _ h0 h1 h2 h3 fa pl mo ki wo si op s0 sp 1 (nI (s0 + 4)) (by first | decide | omega)) (zgV ml_X6_54 im_X6_fail se_X6_fail in_X6 co_X6_fail) rfl rfl (by decide +kernel) ⟨Nat.le_of_ble_eq_true rfl, Nat.le_of_ble_eq_true rfl⟩ hK hP hD hS hA [0] [1, 2, 3] rfl rfl rfl rfl (by decide) 0 rfl rfl rfl rfl hl.1 rfl (Nat.le_of_ble_eq_true rfl) dX6_expectNumber_41 ⟨Nat.le_of_ble_eq_true rfl, Nat.le_of_ble_eq_true rfl⟩ (fun r_49 u_48 H locs hw hP hD hS => ?_)
      obtain ⟨x_50, x_51, x_52⟩ := u_48
      have hP : va_P D vwCl [(h1, .inr (9, [.ref h4, .int (nI n)])), (h4, .inl (D.1 13, 1600, .inl f)), (h2, .inl (D.1 14, 179, .inl fw)), (h0, .inr (6, [.int x_50, .int x_51, .ref h1, .ref h2, .ref h3, .int mo, .int (nI (op)), .int x_52, .int (nI (s0)), .int (nI (sp)), .int wo, .int si]))] H := hP
      have hD : va_D A [(h1, .inr (9, [.ref h4, .int (nI n)])), (h4, .inl (D.1 13, 1600, .inl f)), (h2, .inl (D.1 14, 179, .inl fw)), (h0, .inr (6, [.int x_50, .int x_51, .ref h1, .ref h2, .ref h3, .int mo, .int (nI (op)), .int x_52, .int (nI (s0)), .int (nI (sp)), .int wo, .int si]))] := hD
      obtain ⟨hrr, hw⟩ := hw
      subst hrr
      have hw_53 : (¬ x_50.toInt = 0 → x_52.toInt = 0) ∧ (¬ (1 : Int32).toInt = 0 → ¬ x_50.toInt = 0) := hw
      refine lv_pop hx hb dX6_expectNumber_44 rfl ?_
      refine lv_iload_n hx hb dX6_expectNumber_45 rfl (lv_at hl 1 rfl) ?_
      have hP9 := hP.sub (ws' := [(h0, .inr (6, [.int x_50, .int x_51, .ref h1, .ref h2, .ref h3, .int mo, .int (nI op), .int x_52, .int (nI s0), .int (nI sp), .int wo, .int si])), (h1, .inr (9, [.ref h4, .int (nI n)])), (h4, .inl (D.1 13, 1600, .inl f)), (h2, .inl (D.1 14, 179, .inl fw))]) [3, 0, 1, 2] rfl
      have hD9 := hD.sub (ws' := [(h0, .inr (6, [.int x_50, .int x_51, .ref h1, .ref h2, .ref h3, .int mo, .int (nI op), .int x_52, .int (nI s0), .int (nI sp), .int wo, .int si])), (h1, .inr (9, [.ref h4, .int (nI n)])), (h4, .inl (D.1 13, 1600, .inl f)), (h2, .inl (D.1 14, 179, .inl fw))]) [3, 0, 1, 2] (by decide) rfl
      refine W.widen (k := 0) (n := 0) (Nat.le_of_ble_eq_true rfl) (Nat.le_of_ble_eq_true rfl) ?_
      exact W.iret (v := p0) hx hb hr (fun t ht hW => ⟨⟨p0, (x_50, x_51, x_52, s0, sp, wo, si), rfl, (by first | omega | (dsimp only; omega)), by rw [ht]; exact hP9, va_K.moved hW.alike hK, hD9⟩, hS.F ht⟩) hS.2.2 dX6_expectNumber_46
  · have g_2 : ¬ ki.toInt = 2 := z_ne rfl (by decide) c_1
    refine lv_aload_n hx hb dX6_expectNumber_8 rfl (lv_at hl 0 rfl) ?_
    refine lv_iconst (v := 1) hx hb dX6_expectNumber_9 (by decide) ?_
    refine lv_aload_n hx hb dX6_expectNumber_10 rfl (lv_at hl 0 rfl) ?_
    refine va_get (D := D) (ci := 6) (v := .int (nI s0)) (C := RX6) (T := TX6) (N := 12) hx hb ht inX6 hown hK hP 0 rfl rfl 8 (by decide) (ht (.fieldLink RX6 51 "CloneVolumes$Reader" "start" "I") fl_X6_51) (fun _ h9 => h9) rfl dX6_expectNumber_11 ?_
    have en_54 : (1 : Int32).toInt = 1 := by decide
    have en_55 : (nI s0).toInt = ((s0 : Nat) : Int) := nI_toInt (by omega)
    refine zwV (As := [.int 1, .int (nI s0)]) (rest := []) (C := RX6) (n := 2) (wr := [(h1, .inr (9, [.ref h4, .int (nI n)])), (h4, .inl (D.1 13, 1600, .inl f)), (h2, .inl (D.1 14, 179, .inl fw))]) ⟨hx, hb, hml, hown, ht⟩ (k_X6_fail l D _ h0 h1 h2 h3 fa pl mo ki wo si op s0 sp 1 (nI s0) (by first | decide | omega)) (zgV ml_X6_54 im_X6_fail se_X6_fail in_X6 co_X6_fail) rfl rfl (by decide +kernel) ⟨Nat.le_of_ble_eq_true rfl, Nat.le_of_ble_eq_true rfl⟩ hK hP hD hS hA [0] [1, 2, 3] rfl rfl rfl rfl (by decide) 0 rfl rfl rfl rfl hl.1 rfl (Nat.le_of_ble_eq_true rfl) dX6_expectNumber_14 ⟨Nat.le_of_ble_eq_true rfl, Nat.le_of_ble_eq_true rfl⟩ (fun r_57 u_56 H locs hw hP hD hS => ?_)
    obtain ⟨x_58, x_59, x_60⟩ := u_56
    have hP : va_P D vwCl [(h1, .inr (9, [.ref h4, .int (nI n)])), (h4, .inl (D.1 13, 1600, .inl f)), (h2, .inl (D.1 14, 179, .inl fw)), (h0, .inr (6, [.int x_58, .int x_59, .ref h1, .ref h2, .ref h3, .int mo, .int (nI (op)), .int x_60, .int (nI (s0)), .int (nI (sp)), .int wo, .int si]))] H := hP
    have hD : va_D A [(h1, .inr (9, [.ref h4, .int (nI n)])), (h4, .inl (D.1 13, 1600, .inl f)), (h2, .inl (D.1 14, 179, .inl fw)), (h0, .inr (6, [.int x_58, .int x_59, .ref h1, .ref h2, .ref h3, .int mo, .int (nI (op)), .int x_60, .int (nI (s0)), .int (nI (sp)), .int wo, .int si]))] := hD
    obtain ⟨hrr, hw⟩ := hw
    subst hrr
    have hw_61 : (¬ x_58.toInt = 0 → x_60.toInt = 0) ∧ (¬ (1 : Int32).toInt = 0 → ¬ x_58.toInt = 0) := hw
    refine lv_pop hx hb dX6_expectNumber_17 rfl ?_
    refine lv_iload_n hx hb dX6_expectNumber_18 rfl (lv_at hl 1 rfl) ?_
    have hP9 := hP.sub (ws' := [(h0, .inr (6, [.int x_58, .int x_59, .ref h1, .ref h2, .ref h3, .int mo, .int (nI op), .int x_60, .int (nI s0), .int (nI sp), .int wo, .int si])), (h1, .inr (9, [.ref h4, .int (nI n)])), (h4, .inl (D.1 13, 1600, .inl f)), (h2, .inl (D.1 14, 179, .inl fw))]) [3, 0, 1, 2] rfl
    have hD9 := hD.sub (ws' := [(h0, .inr (6, [.int x_58, .int x_59, .ref h1, .ref h2, .ref h3, .int mo, .int (nI op), .int x_60, .int (nI s0), .int (nI sp), .int wo, .int si])), (h1, .inr (9, [.ref h4, .int (nI n)])), (h4, .inl (D.1 13, 1600, .inl f)), (h2, .inl (D.1 14, 179, .inl fw))]) [3, 0, 1, 2] (by decide) rfl
    refine W.widen (k := 0) (n := 0) (Nat.le_of_ble_eq_true rfl) (Nat.le_of_ble_eq_true rfl) ?_
    exact W.iret (v := p0) hx hb hr (fun t ht hW => ⟨⟨p0, (x_58, x_59, x_60, s0, sp, wo, si), rfl, (by first | omega | (dsimp only; omega)), by rw [ht]; exact hP9, va_K.moved hW.alike hK, hD9⟩, hS.F ht⟩) hS.2.2 dX6_expectNumber_19
set_option maxHeartbeats 4000000 in
set_option maxRecDepth 100000 in
theorem k_X6_isName (l : Launch) (D : va_G) (sz : Nat) (h0 h1 h2 h3 h4 : Nat) (fa pl mo ki wo si : Int32) (op s0 sp n : Nat) (f fw : Nat → Int32) (h_1 : s0 ≤ sp) (h_2 : sp ≤ n) (h_3 : n ≤ 1600) (h_4 : ¬ fa.toInt = 0 → ki.toInt = 0) (h_5 : op ≤ 6) : Met l yX6_isName (wz yX6_isName cX6_isName 1 (some .boolean)) { frames := 1, cells := 0, slots := 0, locals := 60 } (va_Pc [.ref h0] (zW D sz [(h0, .inr (6, [.int fa, .int pl, .ref h1, .ref h2, .ref h3, .int mo, .int (nI op), .int ki, .int (nI s0), .int (nI sp), .int wo, .int si])), (h1, .inr (9, [.ref h4, .int (nI n)])), (h4, .inl (D.1 13, 1600, .inl f)), (h2, .inl (D.1 14, 179, .inl fw))])) (va_Qi (fun r (u : ((Int32) × (Int32) × (Int32) × (Nat) × (Nat) × (Int32) × (Int32))) => (r = 1 ∧ ((u.1.toInt = fa.toInt ∧ u.2.2.1.toInt = 1 ∧ u.2.2.2.2.1 - u.2.2.2.1 ≤ 6) ∧ (u.2.2.2.1 ≤ u.2.2.2.2.1 ∧ u.2.2.2.2.1 ≤ n ∧ sp ≤ u.2.2.2.2.1 ∧ (¬ u.1.toInt = 0 → u.2.2.1.toInt = 0)))) ∨ (r = 0 ∧ (((0 : Nat) = 0) ∧ (u.2.2.2.1 ≤ u.2.2.2.2.1 ∧ u.2.2.2.2.1 ≤ n ∧ sp ≤ u.2.2.2.2.1 ∧ (¬ u.1.toInt = 0 → u.2.2.1.toInt = 0))))) (fun u t => zB D (va_A [(h0, .inr (6, [.int fa, .int pl, .ref h1, .ref h2, .ref h3, .int mo, .int (nI op), .int ki, .int (nI s0), .int (nI sp), .int wo, .int si])), (h1, .inr (9, [.ref h4, .int (nI n)])), (h4, .inl (D.1 13, 1600, .inl f)), (h2, .inl (D.1 14, 179, .inl fw))] sz) ((fun (u : ((Int32) × (Int32) × (Int32) × (Nat) × (Nat) × (Int32) × (Int32))) => [(h0, .inr (6, [.int u.1, .int u.2.1, .ref h1, .ref h2, .ref h3, .int mo, .int (nI op), .int u.2.2.1, .int (nI u.2.2.2.1), .int (nI u.2.2.2.2.1), .int u.2.2.2.2.2.1, .int u.2.2.2.2.2.2])), (h1, .inr (9, [.ref h4, .int (nI n)])), (h4, .inl (D.1 13, 1600, .inl f)), (h2, .inl (D.1 14, 179, .inl fw))]) u) t) (va_A [(h0, .inr (6, [.int fa, .int pl, .ref h1, .ref h2, .ref h3, .int mo, .int (nI op), .int ki, .int (nI s0), .int (nI sp), .int wo, .int si])), (h1, .inr (9, [.ref h4, .int (nI n)])), (h4, .inl (D.1 13, 1600, .inl f)), (h2, .inl (D.1 14, 179, .inl fw))] sz)) 0 0 (va_A [(h0, .inr (6, [.int fa, .int pl, .ref h1, .ref h2, .ref h3, .int mo, .int (nI op), .int ki, .int (nI s0), .int (nI sp), .int wo, .int si])), (h1, .inr (9, [.ref h4, .int (nI n)])), (h4, .inl (D.1 13, 1600, .inl f)), (h2, .inl (D.1 14, 179, .inl fw))] sz) := by
  refine Met.ofW (cc := cX6_isName) (maxL := 1) (ret := (some .boolean)) (by decide) rfl ?_
  intro p e s m args below meth c s₁ B hml hv
  obtain ⟨rfl, hsz, hP, hK, hD0⟩ := hv
  have hx := B.exec
  have hb := B.bytes
  have hr := B.returns
  have hts := atoms_spec (ws := wz yX6_isName cX6_isName 1 (some .boolean)) B.pre
  have ht : ∀ w ∈ lw_gd, w.before _ s = true := fun w h => hts w (List.mem_cons_of_mem _ h)
  have hown : s.vm.findClass RX6 = some m.cls := findClass_of_methodNamed B.named
  have hlocks := B.notSynchronized
  subst hsz
  have hD := hD0.self (sz := s.heap.size)
  generalize hAe : va_A [(h0, .inr (6, [.int fa, .int pl, .ref h1, .ref h2, .ref h3, .int mo, .int (nI op), .int ki, .int (nI s0), .int (nI sp), .int wo, .int si])), (h1, .inr (9, [.ref h4, .int (nI n)])), (h4, .inl (D.1 13, 1600, .inl f)), (h2, .inl (D.1 14, 179, .inl fw))] s.heap.size = A at hD ⊢
  have hA : ∀ q : Nat, s.heap.size ≤ q → A q := fun q h => by rw [← hAe]; exact Or.inr h
  have hS : va_S A s.heap s.heap [] := va_S.rf
  have zi0 : (0 : Int32).toInt = 0 := rfl
  have zi1 : (1 : Int32).toInt = 1 := rfl
  have zi2 : (2 : Int32).toInt = 2 := rfl
  have zi3 : (3 : Int32).toInt = 3 := rfl
  have zi4 : (4 : Int32).toInt = 4 := rfl
  have hl := lv_entry ([.ref h0]) (n := 1) (Nat.le_of_ble_eq_true rfl)
  rw [lg_entry_eq]
  generalize (lg_sl ([.ref h0]) ++ List.replicate (1 - (lg_sl ([.ref h0])).length) Slot.unset).toArray = ls at hl ⊢
  have hl : lv_has ls 1 [(0, .ref h0)] := hl
  refine lv_aload_n hx hb dX6_isName_0 rfl (lv_at hl 0 rfl) ?_
  refine va_get (D := D) (ci := 6) (v := .int ki) (C := RX6) (T := TX6) (N := 12) hx hb ht inX6 hown hK hP 0 rfl rfl 7 (by decide) (ht (.fieldLink RX6 44 "CloneVolumes$Reader" "kind" "I") fl_X6_44) (fun _ h9 => h9) rfl dX6_isName_1 ?_
  refine lv_iconst (v := 1) hx hb dX6_isName_4 (by decide) ?_
  refine lv_icmp_ne (tgt := 25) hx hb dX6_isName_5 (by decide) (fun c_1 => ?_) (fun c_1 => ?_)
  · have g_2 : ¬ ki.toInt = 1 := z_ne rfl (by decide) c_1
    refine lv_aload_n hx hb dX6_isName_25 rfl (lv_at hl 0 rfl) ?_
    refine lv_iconst (v := 1) hx hb dX6_isName_26 (by decide) ?_
    refine lv_aload_n hx hb dX6_isName_27 rfl (lv_at hl 0 rfl) ?_
    refine va_get (D := D) (ci := 6) (v := .int (nI s0)) (C := RX6) (T := TX6) (N := 12) hx hb ht inX6 hown hK hP 0 rfl rfl 8 (by decide) (ht (.fieldLink RX6 51 "CloneVolumes$Reader" "start" "I") fl_X6_51) (fun _ h9 => h9) rfl dX6_isName_28 ?_
    have en_3 : (1 : Int32).toInt = 1 := by decide
    have en_4 : (nI s0).toInt = ((s0 : Nat) : Int) := nI_toInt (by omega)
    refine zwV (As := [.int 1, .int (nI s0)]) (rest := []) (C := RX6) (n := 2) (wr := [(h1, .inr (9, [.ref h4, .int (nI n)])), (h4, .inl (D.1 13, 1600, .inl f)), (h2, .inl (D.1 14, 179, .inl fw))]) ⟨hx, hb, hml, hown, ht⟩ (k_X6_fail l D _ h0 h1 h2 h3 fa pl mo ki wo si op s0 sp 1 (nI s0) (by first | decide | omega)) (zgV ml_X6_54 im_X6_fail se_X6_fail in_X6 co_X6_fail) rfl rfl (by decide +kernel) ⟨Nat.le_of_ble_eq_true rfl, Nat.le_of_ble_eq_true rfl⟩ hK hP hD hS hA [0] [1, 2, 3] rfl rfl rfl rfl (by decide) 0 rfl rfl rfl rfl hl.1 rfl (Nat.le_of_ble_eq_true rfl) dX6_isName_31 ⟨Nat.le_of_ble_eq_true rfl, Nat.le_of_ble_eq_true rfl⟩ (fun r_6 u_5 H locs hw hP hD hS => ?_)
    obtain ⟨x_7, x_8, x_9⟩ := u_5
    have hP : va_P D vwCl [(h1, .inr (9, [.ref h4, .int (nI n)])), (h4, .inl (D.1 13, 1600, .inl f)), (h2, .inl (D.1 14, 179, .inl fw)), (h0, .inr (6, [.int x_7, .int x_8, .ref h1, .ref h2, .ref h3, .int mo, .int (nI (op)), .int x_9, .int (nI (s0)), .int (nI (sp)), .int wo, .int si]))] H := hP
    have hD : va_D A [(h1, .inr (9, [.ref h4, .int (nI n)])), (h4, .inl (D.1 13, 1600, .inl f)), (h2, .inl (D.1 14, 179, .inl fw)), (h0, .inr (6, [.int x_7, .int x_8, .ref h1, .ref h2, .ref h3, .int mo, .int (nI (op)), .int x_9, .int (nI (s0)), .int (nI (sp)), .int wo, .int si]))] := hD
    obtain ⟨hrr, hw⟩ := hw
    subst hrr
    have hw_10 : (¬ x_7.toInt = 0 → x_9.toInt = 0) ∧ (¬ (1 : Int32).toInt = 0 → ¬ x_7.toInt = 0) := hw
    have hP9 := hP.sub (ws' := [(h0, .inr (6, [.int x_7, .int x_8, .ref h1, .ref h2, .ref h3, .int mo, .int (nI op), .int x_9, .int (nI s0), .int (nI sp), .int wo, .int si])), (h1, .inr (9, [.ref h4, .int (nI n)])), (h4, .inl (D.1 13, 1600, .inl f)), (h2, .inl (D.1 14, 179, .inl fw))]) [3, 0, 1, 2] rfl
    have hD9 := hD.sub (ws' := [(h0, .inr (6, [.int x_7, .int x_8, .ref h1, .ref h2, .ref h3, .int mo, .int (nI op), .int x_9, .int (nI s0), .int (nI sp), .int wo, .int si])), (h1, .inr (9, [.ref h4, .int (nI n)])), (h4, .inl (D.1 13, 1600, .inl f)), (h2, .inl (D.1 14, 179, .inl fw))]) [3, 0, 1, 2] (by decide) rfl
    refine W.widen (k := 0) (n := 0) (Nat.le_of_ble_eq_true rfl) (Nat.le_of_ble_eq_true rfl) ?_
    have enr : (0 : Int32).toInt = 0 := by decide
    exact W.zret (v := 0) hx hb hr (by decide) (fun t ht hW => ⟨⟨0, (x_7, x_8, x_9, s0, sp, wo, si), rfl, (Or.inr (⟨rfl, by first | omega | (dsimp only; omega)⟩)), by rw [ht]; exact hP9, va_K.moved hW.alike hK, hD9⟩, hS.F ht⟩) hS.2.2 dX6_isName_34
  · have g_2 : ki.toInt = 1 := z_eq rfl (by decide) c_1
    refine lv_aload_n hx hb dX6_isName_8 rfl (lv_at hl 0 rfl) ?_
    refine va_get (D := D) (ci := 6) (v := .int wo) (C := RX6) (T := TX6) (N := 12) hx hb ht inX6 hown hK hP 0 rfl rfl 10 (by decide) (ht (.fieldLink RX6 72 "CloneVolumes$Reader" "word" "I") fl_X6_72) (fun _ h9 => h9) rfl dX6_isName_9 ?_
    refine lv_iconst (v := (-1)) hx hb dX6_isName_12 (by decide) ?_
    refine lv_icmp_eq (tgt := 35) hx hb dX6_isName_13 (by decide) (fun c_11 => ?_) (fun c_11 => ?_)
    · have g_12 : wo.toInt = (-1) := z_eq rfl (by decide) c_11
      refine lv_aload_n hx hb dX6_isName_35 rfl (lv_at hl 0 rfl) ?_
      refine va_get (D := D) (ci := 6) (v := .int (nI sp)) (C := RX6) (T := TX6) (N := 12) hx hb ht inX6 hown hK hP 0 rfl rfl 9 (by decide) (ht (.fieldLink RX6 88 "CloneVolumes$Reader" "stop" "I") fl_X6_88) (fun _ h9 => h9) rfl dX6_isName_36 ?_
      refine lv_aload_n hx hb dX6_isName_39 rfl (lv_at hl 0 rfl) ?_
      refine va_get (D := D) (ci := 6) (v := .int (nI s0)) (C := RX6) (T := TX6) (N := 12) hx hb ht inX6 hown hK hP 0 rfl rfl 8 (by decide) (ht (.fieldLink RX6 51 "CloneVolumes$Reader" "start" "I") fl_X6_51) (fun _ h9 => h9) rfl dX6_isName_40 ?_
      refine lv_isub hx hb dX6_isName_43 ?_
      refine z_topi (y := nI (sp - s0)) (z_nsub (a := sp) (b := s0) (by omega)) ?_
      refine lv_bipush (v := 6) hx hb dX6_isName_44 (by decide) ?_
      refine lv_icmp_le (tgt := 64) hx hb dX6_isName_46 (by decide) (fun c_13 => ?_) (fun c_13 => ?_)
      · have g_14 : ((sp - s0 : Nat) : Int) ≤ 6 := z_le (nI_toInt (by omega)) (by decide) c_13
        refine lv_iconst (v := 1) hx hb dX6_isName_64 (by decide) ?_
        refine lv_goto (tgt := 69) hx hb dX6_isName_65 (by decide) ?_
        have hP9 := hP.sub (ws' := [(h0, .inr (6, [.int fa, .int pl, .ref h1, .ref h2, .ref h3, .int mo, .int (nI op), .int ki, .int (nI s0), .int (nI sp), .int wo, .int si])), (h1, .inr (9, [.ref h4, .int (nI n)])), (h4, .inl (D.1 13, 1600, .inl f)), (h2, .inl (D.1 14, 179, .inl fw))]) [0, 1, 2, 3] rfl
        have hD9 := hD.sub (ws' := [(h0, .inr (6, [.int fa, .int pl, .ref h1, .ref h2, .ref h3, .int mo, .int (nI op), .int ki, .int (nI s0), .int (nI sp), .int wo, .int si])), (h1, .inr (9, [.ref h4, .int (nI n)])), (h4, .inl (D.1 13, 1600, .inl f)), (h2, .inl (D.1 14, 179, .inl fw))]) [0, 1, 2, 3] (by decide) rfl
        refine W.widen (k := 0) (n := 0) (Nat.le_of_ble_eq_true rfl) (Nat.le_of_ble_eq_true rfl) ?_
        have enr : (1 : Int32).toInt = 1 := by decide
        exact W.zret (v := 1) hx hb hr (by decide) (fun t ht hW => ⟨⟨1, (fa, pl, ki, s0, sp, wo, si), rfl, (Or.inl ⟨rfl, by first | omega | (dsimp only; omega)⟩), by rw [ht]; exact hP9, va_K.moved hW.alike hK, hD9⟩, hS.F ht⟩) hS.2.2 dX6_isName_69
      · have g_14 : 6 < ((sp - s0 : Nat) : Int) := z_nle (nI_toInt (by omega)) (by decide) c_13
        refine lv_aload_n hx hb dX6_isName_49 rfl (lv_at hl 0 rfl) ?_
        refine lv_iconst (v := 1) hx hb dX6_isName_50 (by decide) ?_
        refine lv_aload_n hx hb dX6_isName_51 rfl (lv_at hl 0 rfl) ?_
        refine va_get (D := D) (ci := 6) (v := .int (nI s0)) (C := RX6) (T := TX6) (N := 12) hx hb ht inX6 hown hK hP 0 rfl rfl 8 (by decide) (ht (.fieldLink RX6 51 "CloneVolumes$Reader" "start" "I") fl_X6_51) (fun _ h9 => h9) rfl dX6_isName_52 ?_
        refine lv_bipush (v := 6) hx hb dX6_isName_55 (by decide) ?_
        refine lv_iadd hx hb dX6_isName_57 ?_
        refine z_topi (y := nI (s0 + 6)) (z_nadd s0 6) ?_
        have en_15 : (1 : Int32).toInt = 1 := by decide
        have en_16 : (nI (s0 + 6)).toInt = ((s0 + 6 : Nat) : Int) := nI_toInt (by omega)
        refine zwV (As := [.int 1, .int (nI (s0 + 6))]) (rest := []) (C := RX6) (n := 2) (wr := [(h1, .inr (9, [.ref h4, .int (nI n)])), (h4, .inl (D.1 13, 1600, .inl f)), (h2, .inl (D.1 14, 179, .inl fw))]) ⟨hx, hb, hml, hown, ht⟩ (k_X6_fail l D _ h0 h1 h2 h3 fa pl mo ki wo si op s0 sp 1 (nI (s0 + 6)) (by first | decide | omega)) (zgV ml_X6_54 im_X6_fail se_X6_fail in_X6 co_X6_fail) rfl rfl (by decide +kernel) ⟨Nat.le_of_ble_eq_true rfl, Nat.le_of_ble_eq_true rfl⟩ hK hP hD hS hA [0] [1, 2, 3] rfl rfl rfl rfl (by decide) 0 rfl rfl rfl rfl hl.1 rfl (Nat.le_of_ble_eq_true rfl) dX6_isName_58 ⟨Nat.le_of_ble_eq_true rfl, Nat.le_of_ble_eq_true rfl⟩ (fun r_18 u_17 H locs hw hP hD hS => ?_)
        obtain ⟨x_19, x_20, x_21⟩ := u_17
        have hP : va_P D vwCl [(h1, .inr (9, [.ref h4, .int (nI n)])), (h4, .inl (D.1 13, 1600, .inl f)), (h2, .inl (D.1 14, 179, .inl fw)), (h0, .inr (6, [.int x_19, .int x_20, .ref h1, .ref h2, .ref h3, .int mo, .int (nI (op)), .int x_21, .int (nI (s0)), .int (nI (sp)), .int wo, .int si]))] H := hP
        have hD : va_D A [(h1, .inr (9, [.ref h4, .int (nI n)])), (h4, .inl (D.1 13, 1600, .inl f)), (h2, .inl (D.1 14, 179, .inl fw)), (h0, .inr (6, [.int x_19, .int x_20, .ref h1, .ref h2, .ref h3, .int mo, .int (nI (op)), .int x_21, .int (nI (s0)), .int (nI (sp)), .int wo, .int si]))] := hD
        obtain ⟨hrr, hw⟩ := hw
        subst hrr
        have hw_22 : (¬ x_19.toInt = 0 → x_21.toInt = 0) ∧ (¬ (1 : Int32).toInt = 0 → ¬ x_19.toInt = 0) := hw
        refine lv_if_eq (tgt := 68) hx hb dX6_isName_61 (by decide) (fun _ => ?_) (fun c_23 => (z_abs c_23 (by decide)).elim)
        refine lv_iconst (v := 0) hx hb dX6_isName_68 (by decide) ?_
        have hP9 := hP.sub (ws' := [(h0, .inr (6, [.int x_19, .int x_20, .ref h1, .ref h2, .ref h3, .int mo, .int (nI op), .int x_21, .int (nI s0), .int (nI sp), .int wo, .int si])), (h1, .inr (9, [.ref h4, .int (nI n)])), (h4, .inl (D.1 13, 1600, .inl f)), (h2, .inl (D.1 14, 179, .inl fw))]) [3, 0, 1, 2] rfl
        have hD9 := hD.sub (ws' := [(h0, .inr (6, [.int x_19, .int x_20, .ref h1, .ref h2, .ref h3, .int mo, .int (nI op), .int x_21, .int (nI s0), .int (nI sp), .int wo, .int si])), (h1, .inr (9, [.ref h4, .int (nI n)])), (h4, .inl (D.1 13, 1600, .inl f)), (h2, .inl (D.1 14, 179, .inl fw))]) [3, 0, 1, 2] (by decide) rfl
        refine W.widen (k := 0) (n := 0) (Nat.le_of_ble_eq_true rfl) (Nat.le_of_ble_eq_true rfl) ?_
        have enr : (0 : Int32).toInt = 0 := by decide
        exact W.zret (v := 0) hx hb hr (by decide) (fun t ht hW => ⟨⟨0, (x_19, x_20, x_21, s0, sp, wo, si), rfl, (Or.inr (⟨rfl, by first | omega | (dsimp only; omega)⟩)), by rw [ht]; exact hP9, va_K.moved hW.alike hK, hD9⟩, hS.F ht⟩) hS.2.2 dX6_isName_69
    · have g_12 : ¬ wo.toInt = (-1) := z_ne rfl (by decide) c_11
      refine lv_aload_n hx hb dX6_isName_16 rfl (lv_at hl 0 rfl) ?_
      refine va_get (D := D) (ci := 6) (v := .int wo) (C := RX6) (T := TX6) (N := 12) hx hb ht inX6 hown hK hP 0 rfl rfl 10 (by decide) (ht (.fieldLink RX6 72 "CloneVolumes$Reader" "word" "I") fl_X6_72) (fun _ h9 => h9) rfl dX6_isName_17 ?_
      refine lv_bipush (v := 27) hx hb dX6_isName_20 (by decide) ?_
      refine lv_icmp_ge (tgt := 35) hx hb dX6_isName_22 (by decide) (fun c_25 => ?_) (fun c_25 => ?_)
      · have g_26 : 27 ≤ wo.toInt := z_le (by decide) rfl c_25
        refine lv_aload_n hx hb dX6_isName_35 rfl (lv_at hl 0 rfl) ?_
        refine va_get (D := D) (ci := 6) (v := .int (nI sp)) (C := RX6) (T := TX6) (N := 12) hx hb ht inX6 hown hK hP 0 rfl rfl 9 (by decide) (ht (.fieldLink RX6 88 "CloneVolumes$Reader" "stop" "I") fl_X6_88) (fun _ h9 => h9) rfl dX6_isName_36 ?_
        refine lv_aload_n hx hb dX6_isName_39 rfl (lv_at hl 0 rfl) ?_
        refine va_get (D := D) (ci := 6) (v := .int (nI s0)) (C := RX6) (T := TX6) (N := 12) hx hb ht inX6 hown hK hP 0 rfl rfl 8 (by decide) (ht (.fieldLink RX6 51 "CloneVolumes$Reader" "start" "I") fl_X6_51) (fun _ h9 => h9) rfl dX6_isName_40 ?_
        refine lv_isub hx hb dX6_isName_43 ?_
        refine z_topi (y := nI (sp - s0)) (z_nsub (a := sp) (b := s0) (by omega)) ?_
        refine lv_bipush (v := 6) hx hb dX6_isName_44 (by decide) ?_
        refine lv_icmp_le (tgt := 64) hx hb dX6_isName_46 (by decide) (fun c_27 => ?_) (fun c_27 => ?_)
        · have g_28 : ((sp - s0 : Nat) : Int) ≤ 6 := z_le (nI_toInt (by omega)) (by decide) c_27
          refine lv_iconst (v := 1) hx hb dX6_isName_64 (by decide) ?_
          refine lv_goto (tgt := 69) hx hb dX6_isName_65 (by decide) ?_
          have hP9 := hP.sub (ws' := [(h0, .inr (6, [.int fa, .int pl, .ref h1, .ref h2, .ref h3, .int mo, .int (nI op), .int ki, .int (nI s0), .int (nI sp), .int wo, .int si])), (h1, .inr (9, [.ref h4, .int (nI n)])), (h4, .inl (D.1 13, 1600, .inl f)), (h2, .inl (D.1 14, 179, .inl fw))]) [0, 1, 2, 3] rfl
          have hD9 := hD.sub (ws' := [(h0, .inr (6, [.int fa, .int pl, .ref h1, .ref h2, .ref h3, .int mo, .int (nI op), .int ki, .int (nI s0), .int (nI sp), .int wo, .int si])), (h1, .inr (9, [.ref h4, .int (nI n)])), (h4, .inl (D.1 13, 1600, .inl f)), (h2, .inl (D.1 14, 179, .inl fw))]) [0, 1, 2, 3] (by decide) rfl
          refine W.widen (k := 0) (n := 0) (Nat.le_of_ble_eq_true rfl) (Nat.le_of_ble_eq_true rfl) ?_
          have enr : (1 : Int32).toInt = 1 := by decide
          exact W.zret (v := 1) hx hb hr (by decide) (fun t ht hW => ⟨⟨1, (fa, pl, ki, s0, sp, wo, si), rfl, (Or.inl ⟨rfl, by first | omega | (dsimp only; omega)⟩), by rw [ht]; exact hP9, va_K.moved hW.alike hK, hD9⟩, hS.F ht⟩) hS.2.2 dX6_isName_69
        · have g_28 : 6 < ((sp - s0 : Nat) : Int) := z_nle (nI_toInt (by omega)) (by decide) c_27
          refine lv_aload_n hx hb dX6_isName_49 rfl (lv_at hl 0 rfl) ?_
          refine lv_iconst (v := 1) hx hb dX6_isName_50 (by decide) ?_
          refine lv_aload_n hx hb dX6_isName_51 rfl (lv_at hl 0 rfl) ?_
          refine va_get (D := D) (ci := 6) (v := .int (nI s0)) (C := RX6) (T := TX6) (N := 12) hx hb ht inX6 hown hK hP 0 rfl rfl 8 (by decide) (ht (.fieldLink RX6 51 "CloneVolumes$Reader" "start" "I") fl_X6_51) (fun _ h9 => h9) rfl dX6_isName_52 ?_
          refine lv_bipush (v := 6) hx hb dX6_isName_55 (by decide) ?_
          refine lv_iadd hx hb dX6_isName_57 ?_
          refine z_topi (y := nI (s0 + 6)) (z_nadd s0 6) ?_
          have en_29 : (1 : Int32).toInt = 1 := by decide
          have en_30 : (nI (s0 + 6)).toInt = ((s0 + 6 : Nat) : Int) := nI_toInt (by omega)
          refine zwV (As := [.int 1, .int (nI (s0 + 6))]) (rest := []) (C := RX6) (n := 2) (wr := [(h1, .inr (9, [.ref h4, .int (nI n)])), (h4, .inl (D.1 13, 1600, .inl f)), (h2, .inl (D.1 14, 179, .inl fw))]) ⟨hx, hb, hml, hown, ht⟩ (k_X6_fail l D _ h0 h1 h2 h3 fa pl mo ki wo si op s0 sp 1 (nI (s0 + 6)) (by first | decide | omega)) (zgV ml_X6_54 im_X6_fail se_X6_fail in_X6 co_X6_fail) rfl rfl (by decide +kernel) ⟨Nat.le_of_ble_eq_true rfl, Nat.le_of_ble_eq_true rfl⟩ hK hP hD hS hA [0] [1, 2, 3] rfl rfl rfl rfl (by decide) 0 rfl rfl rfl rfl hl.1 rfl (Nat.le_of_ble_eq_true rfl) dX6_isName_58 ⟨Nat.le_of_ble_eq_true rfl, Nat.le_of_ble_eq_true rfl⟩ (fun r_32 u_31 H locs hw hP hD hS => ?_)
          obtain ⟨x_33, x_34, x_35⟩ := u_31
          have hP : va_P D vwCl [(h1, .inr (9, [.ref h4, .int (nI n)])), (h4, .inl (D.1 13, 1600, .inl f)), (h2, .inl (D.1 14, 179, .inl fw)), (h0, .inr (6, [.int x_33, .int x_34, .ref h1, .ref h2, .ref h3, .int mo, .int (nI (op)), .int x_35, .int (nI (s0)), .int (nI (sp)), .int wo, .int si]))] H := hP
          have hD : va_D A [(h1, .inr (9, [.ref h4, .int (nI n)])), (h4, .inl (D.1 13, 1600, .inl f)), (h2, .inl (D.1 14, 179, .inl fw)), (h0, .inr (6, [.int x_33, .int x_34, .ref h1, .ref h2, .ref h3, .int mo, .int (nI (op)), .int x_35, .int (nI (s0)), .int (nI (sp)), .int wo, .int si]))] := hD
          obtain ⟨hrr, hw⟩ := hw
          subst hrr
          have hw_36 : (¬ x_33.toInt = 0 → x_35.toInt = 0) ∧ (¬ (1 : Int32).toInt = 0 → ¬ x_33.toInt = 0) := hw
          refine lv_if_eq (tgt := 68) hx hb dX6_isName_61 (by decide) (fun _ => ?_) (fun c_37 => (z_abs c_37 (by decide)).elim)
          refine lv_iconst (v := 0) hx hb dX6_isName_68 (by decide) ?_
          have hP9 := hP.sub (ws' := [(h0, .inr (6, [.int x_33, .int x_34, .ref h1, .ref h2, .ref h3, .int mo, .int (nI op), .int x_35, .int (nI s0), .int (nI sp), .int wo, .int si])), (h1, .inr (9, [.ref h4, .int (nI n)])), (h4, .inl (D.1 13, 1600, .inl f)), (h2, .inl (D.1 14, 179, .inl fw))]) [3, 0, 1, 2] rfl
          have hD9 := hD.sub (ws' := [(h0, .inr (6, [.int x_33, .int x_34, .ref h1, .ref h2, .ref h3, .int mo, .int (nI op), .int x_35, .int (nI s0), .int (nI sp), .int wo, .int si])), (h1, .inr (9, [.ref h4, .int (nI n)])), (h4, .inl (D.1 13, 1600, .inl f)), (h2, .inl (D.1 14, 179, .inl fw))]) [3, 0, 1, 2] (by decide) rfl
          refine W.widen (k := 0) (n := 0) (Nat.le_of_ble_eq_true rfl) (Nat.le_of_ble_eq_true rfl) ?_
          have enr : (0 : Int32).toInt = 0 := by decide
          exact W.zret (v := 0) hx hb hr (by decide) (fun t ht hW => ⟨⟨0, (x_33, x_34, x_35, s0, sp, wo, si), rfl, (Or.inr (⟨rfl, by first | omega | (dsimp only; omega)⟩)), by rw [ht]; exact hP9, va_K.moved hW.alike hK, hD9⟩, hS.F ht⟩) hS.2.2 dX6_isName_69
      · have g_26 : wo.toInt < 27 := z_nle (by decide) rfl c_25
        refine lv_aload_n hx hb dX6_isName_25 rfl (lv_at hl 0 rfl) ?_
        refine lv_iconst (v := 1) hx hb dX6_isName_26 (by decide) ?_
        refine lv_aload_n hx hb dX6_isName_27 rfl (lv_at hl 0 rfl) ?_
        refine va_get (D := D) (ci := 6) (v := .int (nI s0)) (C := RX6) (T := TX6) (N := 12) hx hb ht inX6 hown hK hP 0 rfl rfl 8 (by decide) (ht (.fieldLink RX6 51 "CloneVolumes$Reader" "start" "I") fl_X6_51) (fun _ h9 => h9) rfl dX6_isName_28 ?_
        have en_39 : (1 : Int32).toInt = 1 := by decide
        have en_40 : (nI s0).toInt = ((s0 : Nat) : Int) := nI_toInt (by omega)
        refine zwV (As := [.int 1, .int (nI s0)]) (rest := []) (C := RX6) (n := 2) (wr := [(h1, .inr (9, [.ref h4, .int (nI n)])), (h4, .inl (D.1 13, 1600, .inl f)), (h2, .inl (D.1 14, 179, .inl fw))]) ⟨hx, hb, hml, hown, ht⟩ (k_X6_fail l D _ h0 h1 h2 h3 fa pl mo ki wo si op s0 sp 1 (nI s0) (by first | decide | omega)) (zgV ml_X6_54 im_X6_fail se_X6_fail in_X6 co_X6_fail) rfl rfl (by decide +kernel) ⟨Nat.le_of_ble_eq_true rfl, Nat.le_of_ble_eq_true rfl⟩ hK hP hD hS hA [0] [1, 2, 3] rfl rfl rfl rfl (by decide) 0 rfl rfl rfl rfl hl.1 rfl (Nat.le_of_ble_eq_true rfl) dX6_isName_31 ⟨Nat.le_of_ble_eq_true rfl, Nat.le_of_ble_eq_true rfl⟩ (fun r_42 u_41 H locs hw hP hD hS => ?_)
        obtain ⟨x_43, x_44, x_45⟩ := u_41
        have hP : va_P D vwCl [(h1, .inr (9, [.ref h4, .int (nI n)])), (h4, .inl (D.1 13, 1600, .inl f)), (h2, .inl (D.1 14, 179, .inl fw)), (h0, .inr (6, [.int x_43, .int x_44, .ref h1, .ref h2, .ref h3, .int mo, .int (nI (op)), .int x_45, .int (nI (s0)), .int (nI (sp)), .int wo, .int si]))] H := hP
        have hD : va_D A [(h1, .inr (9, [.ref h4, .int (nI n)])), (h4, .inl (D.1 13, 1600, .inl f)), (h2, .inl (D.1 14, 179, .inl fw)), (h0, .inr (6, [.int x_43, .int x_44, .ref h1, .ref h2, .ref h3, .int mo, .int (nI (op)), .int x_45, .int (nI (s0)), .int (nI (sp)), .int wo, .int si]))] := hD
        obtain ⟨hrr, hw⟩ := hw
        subst hrr
        have hw_46 : (¬ x_43.toInt = 0 → x_45.toInt = 0) ∧ (¬ (1 : Int32).toInt = 0 → ¬ x_43.toInt = 0) := hw
        have hP9 := hP.sub (ws' := [(h0, .inr (6, [.int x_43, .int x_44, .ref h1, .ref h2, .ref h3, .int mo, .int (nI op), .int x_45, .int (nI s0), .int (nI sp), .int wo, .int si])), (h1, .inr (9, [.ref h4, .int (nI n)])), (h4, .inl (D.1 13, 1600, .inl f)), (h2, .inl (D.1 14, 179, .inl fw))]) [3, 0, 1, 2] rfl
        have hD9 := hD.sub (ws' := [(h0, .inr (6, [.int x_43, .int x_44, .ref h1, .ref h2, .ref h3, .int mo, .int (nI op), .int x_45, .int (nI s0), .int (nI sp), .int wo, .int si])), (h1, .inr (9, [.ref h4, .int (nI n)])), (h4, .inl (D.1 13, 1600, .inl f)), (h2, .inl (D.1 14, 179, .inl fw))]) [3, 0, 1, 2] (by decide) rfl
        refine W.widen (k := 0) (n := 0) (Nat.le_of_ble_eq_true rfl) (Nat.le_of_ble_eq_true rfl) ?_
        have enr : (0 : Int32).toInt = 0 := by decide
        exact W.zret (v := 0) hx hb hr (by decide) (fun t ht hW => ⟨⟨0, (x_43, x_44, x_45, s0, sp, wo, si), rfl, (Or.inr (⟨rfl, by first | omega | (dsimp only; omega)⟩)), by rw [ht]; exact hP9, va_K.moved hW.alike hK, hD9⟩, hS.F ht⟩) hS.2.2 dX6_isName_34
set_option maxHeartbeats 4000000 in
set_option maxRecDepth 100000 in
theorem k_X6_comparison (l : Launch) (D : va_G) (sz : Nat) (h0 h1 h2 h3 h4 : Nat) (fa pl mo ki wo si : Int32) (op s0 sp n : Nat) (f fw : Nat → Int32) (h_1 : s0 ≤ sp) (h_2 : sp ≤ n) (h_3 : n ≤ 1600) (h_4 : ¬ fa.toInt = 0 → ki.toInt = 0) (h_5 : op ≤ 6) : Met l yX6_comparison (wz yX6_comparison cX6_comparison 2 (some .int)) { frames := 2, cells := 0, slots := 0, locals := 120 } (va_Pc [.ref h0] (zW D sz [(h0, .inr (6, [.int fa, .int pl, .ref h1, .ref h2, .ref h3, .int mo, .int (nI op), .int ki, .int (nI s0), .int (nI sp), .int wo, .int si])), (h1, .inr (9, [.ref h4, .int (nI n)])), (h4, .inl (D.1 13, 1600, .inl f)), (h2, .inl (D.1 14, 179, .inl fw))])) (va_Qi (fun r (u : ((Int32) × (Int32) × (Int32) × (Nat) × (Nat) × (Int32) × (Int32))) => u.2.2.2.1 ≤ u.2.2.2.2.1 ∧ u.2.2.2.2.1 ≤ n ∧ sp ≤ u.2.2.2.2.1 ∧ (¬ u.1.toInt = 0 → u.2.2.1.toInt = 0)) (fun u t => zB D (va_A [(h0, .inr (6, [.int fa, .int pl, .ref h1, .ref h2, .ref h3, .int mo, .int (nI op), .int ki, .int (nI s0), .int (nI sp), .int wo, .int si])), (h1, .inr (9, [.ref h4, .int (nI n)])), (h4, .inl (D.1 13, 1600, .inl f)), (h2, .inl (D.1 14, 179, .inl fw))] sz) ((fun (u : ((Int32) × (Int32) × (Int32) × (Nat) × (Nat) × (Int32) × (Int32))) => [(h0, .inr (6, [.int u.1, .int u.2.1, .ref h1, .ref h2, .ref h3, .int mo, .int (nI op), .int u.2.2.1, .int (nI u.2.2.2.1), .int (nI u.2.2.2.2.1), .int u.2.2.2.2.2.1, .int u.2.2.2.2.2.2])), (h1, .inr (9, [.ref h4, .int (nI n)])), (h4, .inl (D.1 13, 1600, .inl f)), (h2, .inl (D.1 14, 179, .inl fw))]) u) t) (va_A [(h0, .inr (6, [.int fa, .int pl, .ref h1, .ref h2, .ref h3, .int mo, .int (nI op), .int ki, .int (nI s0), .int (nI sp), .int wo, .int si])), (h1, .inr (9, [.ref h4, .int (nI n)])), (h4, .inl (D.1 13, 1600, .inl f)), (h2, .inl (D.1 14, 179, .inl fw))] sz)) 0 0 (va_A [(h0, .inr (6, [.int fa, .int pl, .ref h1, .ref h2, .ref h3, .int mo, .int (nI op), .int ki, .int (nI s0), .int (nI sp), .int wo, .int si])), (h1, .inr (9, [.ref h4, .int (nI n)])), (h4, .inl (D.1 13, 1600, .inl f)), (h2, .inl (D.1 14, 179, .inl fw))] sz) := by
  refine Met.ofW (cc := cX6_comparison) (maxL := 2) (ret := (some .int)) (by decide) rfl ?_
  intro p e s m args below meth c s₁ B hml hv
  obtain ⟨rfl, hsz, hP, hK, hD0⟩ := hv
  have hx := B.exec
  have hb := B.bytes
  have hr := B.returns
  have hts := atoms_spec (ws := wz yX6_comparison cX6_comparison 2 (some .int)) B.pre
  have ht : ∀ w ∈ lw_gd, w.before _ s = true := fun w h => hts w (List.mem_cons_of_mem _ h)
  have hown : s.vm.findClass RX6 = some m.cls := findClass_of_methodNamed B.named
  have hlocks := B.notSynchronized
  subst hsz
  have hD := hD0.self (sz := s.heap.size)
  generalize hAe : va_A [(h0, .inr (6, [.int fa, .int pl, .ref h1, .ref h2, .ref h3, .int mo, .int (nI op), .int ki, .int (nI s0), .int (nI sp), .int wo, .int si])), (h1, .inr (9, [.ref h4, .int (nI n)])), (h4, .inl (D.1 13, 1600, .inl f)), (h2, .inl (D.1 14, 179, .inl fw))] s.heap.size = A at hD ⊢
  have hA : ∀ q : Nat, s.heap.size ≤ q → A q := fun q h => by rw [← hAe]; exact Or.inr h
  have hS : va_S A s.heap s.heap [] := va_S.rf
  have zi0 : (0 : Int32).toInt = 0 := rfl
  have zi1 : (1 : Int32).toInt = 1 := rfl
  have zi2 : (2 : Int32).toInt = 2 := rfl
  have zi3 : (3 : Int32).toInt = 3 := rfl
  have zi4 : (4 : Int32).toInt = 4 := rfl
  have hl := lv_entry ([.ref h0]) (n := 2) (Nat.le_of_ble_eq_true rfl)
  rw [lg_entry_eq]
  generalize (lg_sl ([.ref h0]) ++ List.replicate (2 - (lg_sl ([.ref h0])).length) Slot.unset).toArray = ls at hl ⊢
  have hl : lv_has ls 2 [(0, .ref h0)] := hl
  refine lv_bipush (v := (-9)) hx hb dX6_comparison_0 (by decide) ?_
  refine lv_istore_n (lv' := [(1, .int (-9)), (0, .ref h0)]) hx hb dX6_comparison_2 rfl hl (by decide) rfl (fun ls hl => ?_)
  refine lv_aload_n hx hb dX6_comparison_3 rfl (lv_at hl 1 rfl) ?_
  refine lv_bipush (v := 60) hx hb dX6_comparison_4 (by decide) ?_
  have en_1 : (60 : Int32).toInt = 60 := by decide
  refine zcV (As := [.int 60]) (rest := []) (C := RX6) (n := 1) ⟨hx, hb, hml, hown, ht⟩ (k_X6_isSign l D h0 h1 h2 h3 fa pl mo ki wo si op s0 sp 60) (zgV ml_X6_124 im_X6_isSign se_X6_isSign in_X6 co_X6_isSign) rfl rfl (by decide +kernel) ⟨Nat.le_of_ble_eq_true rfl, Nat.le_of_ble_eq_true rfl⟩ hK hP hS [0] rfl 0 rfl rfl rfl rfl hl.1 rfl (Nat.le_of_ble_eq_true rfl) dX6_comparison_6 ⟨Nat.le_of_ble_eq_true rfl, Nat.le_of_ble_eq_true rfl⟩ (fun r_2 H locs hw hP hS => ?_)
  rcases hw with ⟨rfl, g_3⟩ | ⟨rfl, g_4⟩
  · skip
    refine lv_if_eq (tgt := 18) hx hb dX6_comparison_9 (by decide) (fun c_5 => (z_abs c_5 (by decide)).elim) (fun _ => ?_)
    refine lv_bipush (v := (-7)) hx hb dX6_comparison_12 (by decide) ?_
    refine lv_istore_n (lv' := [(1, .int (-7)), (0, .ref h0)]) hx hb dX6_comparison_14 rfl hl (by decide) rfl (fun ls hl => ?_)
    refine lv_goto (tgt := 52) hx hb dX6_comparison_15 (by decide) ?_
    refine lv_aload_n hx hb dX6_comparison_52 rfl (lv_at hl 1 rfl) ?_
    refine zwVv (As := []) (rest := []) (C := RX6) (n := 0) (wr := []) ⟨hx, hb, hml, hown, ht⟩ (k_X6_advance l D _ h0 h1 h2 h3 h4 fa pl mo ki wo si op s0 sp n f fw (by first | decide | omega) (by first | decide | omega) (by first | decide | omega) (by first | decide | omega)) (zgV ml_X6_75 im_X6_advance se_X6_advance in_X6 co_X6_advance) rfl rfl (by decide +kernel) ⟨Nat.le_of_ble_eq_true rfl, Nat.le_of_ble_eq_true rfl⟩ hK hP hD hS hA [0, 1, 2, 3] [] rfl rfl rfl rfl (by decide) 0 rfl rfl rfl rfl hl.1 rfl (Nat.le_of_ble_eq_true rfl) dX6_comparison_53 ⟨Nat.le_of_ble_eq_true rfl, Nat.le_of_ble_eq_true rfl⟩ (fun u_7 H locs hw hP hD hS => ?_)
    obtain ⟨x_9, n_10, n_11, x_12, x_13⟩ := u_7
    have hP : va_P D vwCl [(h0, .inr (6, [.int fa, .int pl, .ref h1, .ref h2, .ref h3, .int mo, .int (nI (op)), .int x_9, .int (nI (n_10)), .int (nI (n_11)), .int x_12, .int x_13])), (h1, .inr (9, [.ref h4, .int (nI (n))])), (h4, .inl (D.1 13, 1600, .inl f)), (h2, .inl (D.1 14, 179, .inl fw))] H := hP
    have hD : va_D A [(h0, .inr (6, [.int fa, .int pl, .ref h1, .ref h2, .ref h3, .int mo, .int (nI (op)), .int x_9, .int (nI (n_10)), .int (nI (n_11)), .int x_12, .int x_13])), (h1, .inr (9, [.ref h4, .int (nI (n))])), (h4, .inl (D.1 13, 1600, .inl f)), (h2, .inl (D.1 14, 179, .inl fw))] := hD
    have hw_14 : n_10 ≤ n_11 ∧ n_11 ≤ n ∧ sp ≤ n_11 ∧ (x_9.toInt = 0 ∨ (sp < n_11 ∧ n_10 < n_11)) ∧ (¬ fa.toInt = 0 → x_9.toInt = 0) := hw
    refine lv_iload_n hx hb dX6_comparison_56 rfl (lv_at hl 0 rfl) ?_
    have hP9 := hP.sub (ws' := [(h0, .inr (6, [.int fa, .int pl, .ref h1, .ref h2, .ref h3, .int mo, .int (nI op), .int x_9, .int (nI n_10), .int (nI n_11), .int x_12, .int x_13])), (h1, .inr (9, [.ref h4, .int (nI n)])), (h4, .inl (D.1 13, 1600, .inl f)), (h2, .inl (D.1 14, 179, .inl fw))]) [0, 1, 2, 3] rfl
    have hD9 := hD.sub (ws' := [(h0, .inr (6, [.int fa, .int pl, .ref h1, .ref h2, .ref h3, .int mo, .int (nI op), .int x_9, .int (nI n_10), .int (nI n_11), .int x_12, .int x_13])), (h1, .inr (9, [.ref h4, .int (nI n)])), (h4, .inl (D.1 13, 1600, .inl f)), (h2, .inl (D.1 14, 179, .inl fw))]) [0, 1, 2, 3] (by decide) rfl
    refine W.widen (k := 0) (n := 0) (Nat.le_of_ble_eq_true rfl) (Nat.le_of_ble_eq_true rfl) ?_
    have enr : ((-7) : Int32).toInt = (-7) := by decide
    exact W.iret (v := (-7)) hx hb hr (fun t ht hW => ⟨⟨(-7), (fa, pl, x_9, n_10, n_11, x_12, x_13), rfl, (by first | omega | (dsimp only; omega)), by rw [ht]; exact hP9, va_K.moved hW.alike hK, hD9⟩, hS.F ht⟩) hS.2.2 dX6_comparison_57
  · skip
    refine lv_if_eq (tgt := 18) hx hb dX6_comparison_9 (by decide) (fun _ => ?_) (fun c_15 => (z_abs c_15 (by decide)).elim)
    refine lv_aload_n hx hb dX6_comparison_18 rfl (lv_at hl 1 rfl) ?_
    refine lv_bipush (v := 62) hx hb dX6_comparison_19 (by decide) ?_
    have en_17 : (62 : Int32).toInt = 62 := by decide
    refine zcV (As := [.int 62]) (rest := []) (C := RX6) (n := 1) ⟨hx, hb, hml, hown, ht⟩ (k_X6_isSign l D h0 h1 h2 h3 fa pl mo ki wo si op s0 sp 62) (zgV ml_X6_124 im_X6_isSign se_X6_isSign in_X6 co_X6_isSign) rfl rfl (by decide +kernel) ⟨Nat.le_of_ble_eq_true rfl, Nat.le_of_ble_eq_true rfl⟩ hK hP hS [0] rfl 0 rfl rfl rfl rfl hl.1 rfl (Nat.le_of_ble_eq_true rfl) dX6_comparison_21 ⟨Nat.le_of_ble_eq_true rfl, Nat.le_of_ble_eq_true rfl⟩ (fun r_18 H locs hw hP hS => ?_)
    rcases hw with ⟨rfl, g_19⟩ | ⟨rfl, g_20⟩
    · skip
      refine lv_if_eq (tgt := 33) hx hb dX6_comparison_24 (by decide) (fun c_21 => (z_abs c_21 (by decide)).elim) (fun _ => ?_)
      refine lv_bipush (v := (-8)) hx hb dX6_comparison_27 (by decide) ?_
      refine lv_istore_n (lv' := [(1, .int (-8)), (0, .ref h0)]) hx hb dX6_comparison_29 rfl hl (by decide) rfl (fun ls hl => ?_)
      refine lv_goto (tgt := 52) hx hb dX6_comparison_30 (by decide) ?_
      refine lv_aload_n hx hb dX6_comparison_52 rfl (lv_at hl 1 rfl) ?_
      refine zwVv (As := []) (rest := []) (C := RX6) (n := 0) (wr := []) ⟨hx, hb, hml, hown, ht⟩ (k_X6_advance l D _ h0 h1 h2 h3 h4 fa pl mo ki wo si op s0 sp n f fw (by first | decide | omega) (by first | decide | omega) (by first | decide | omega) (by first | decide | omega)) (zgV ml_X6_75 im_X6_advance se_X6_advance in_X6 co_X6_advance) rfl rfl (by decide +kernel) ⟨Nat.le_of_ble_eq_true rfl, Nat.le_of_ble_eq_true rfl⟩ hK hP hD hS hA [0, 1, 2, 3] [] rfl rfl rfl rfl (by decide) 0 rfl rfl rfl rfl hl.1 rfl (Nat.le_of_ble_eq_true rfl) dX6_comparison_53 ⟨Nat.le_of_ble_eq_true rfl, Nat.le_of_ble_eq_true rfl⟩ (fun u_23 H locs hw hP hD hS => ?_)
      obtain ⟨x_25, n_26, n_27, x_28, x_29⟩ := u_23
      have hP : va_P D vwCl [(h0, .inr (6, [.int fa, .int pl, .ref h1, .ref h2, .ref h3, .int mo, .int (nI (op)), .int x_25, .int (nI (n_26)), .int (nI (n_27)), .int x_28, .int x_29])), (h1, .inr (9, [.ref h4, .int (nI (n))])), (h4, .inl (D.1 13, 1600, .inl f)), (h2, .inl (D.1 14, 179, .inl fw))] H := hP
      have hD : va_D A [(h0, .inr (6, [.int fa, .int pl, .ref h1, .ref h2, .ref h3, .int mo, .int (nI (op)), .int x_25, .int (nI (n_26)), .int (nI (n_27)), .int x_28, .int x_29])), (h1, .inr (9, [.ref h4, .int (nI (n))])), (h4, .inl (D.1 13, 1600, .inl f)), (h2, .inl (D.1 14, 179, .inl fw))] := hD
      have hw_30 : n_26 ≤ n_27 ∧ n_27 ≤ n ∧ sp ≤ n_27 ∧ (x_25.toInt = 0 ∨ (sp < n_27 ∧ n_26 < n_27)) ∧ (¬ fa.toInt = 0 → x_25.toInt = 0) := hw
      refine lv_iload_n hx hb dX6_comparison_56 rfl (lv_at hl 0 rfl) ?_
      have hP9 := hP.sub (ws' := [(h0, .inr (6, [.int fa, .int pl, .ref h1, .ref h2, .ref h3, .int mo, .int (nI op), .int x_25, .int (nI n_26), .int (nI n_27), .int x_28, .int x_29])), (h1, .inr (9, [.ref h4, .int (nI n)])), (h4, .inl (D.1 13, 1600, .inl f)), (h2, .inl (D.1 14, 179, .inl fw))]) [0, 1, 2, 3] rfl
      have hD9 := hD.sub (ws' := [(h0, .inr (6, [.int fa, .int pl, .ref h1, .ref h2, .ref h3, .int mo, .int (nI op), .int x_25, .int (nI n_26), .int (nI n_27), .int x_28, .int x_29])), (h1, .inr (9, [.ref h4, .int (nI n)])), (h4, .inl (D.1 13, 1600, .inl f)), (h2, .inl (D.1 14, 179, .inl fw))]) [0, 1, 2, 3] (by decide) rfl
      refine W.widen (k := 0) (n := 0) (Nat.le_of_ble_eq_true rfl) (Nat.le_of_ble_eq_true rfl) ?_
      have enr : ((-8) : Int32).toInt = (-8) := by decide
      exact W.iret (v := (-8)) hx hb hr (fun t ht hW => ⟨⟨(-8), (fa, pl, x_25, n_26, n_27, x_28, x_29), rfl, (by first | omega | (dsimp only; omega)), by rw [ht]; exact hP9, va_K.moved hW.alike hK, hD9⟩, hS.F ht⟩) hS.2.2 dX6_comparison_57
    · skip
      refine lv_if_eq (tgt := 33) hx hb dX6_comparison_24 (by decide) (fun _ => ?_) (fun c_31 => (z_abs c_31 (by decide)).elim)
      refine lv_aload_n hx hb dX6_comparison_33 rfl (lv_at hl 1 rfl) ?_
      refine lv_bipush (v := 61) hx hb dX6_comparison_34 (by decide) ?_
      have en_33 : (61 : Int32).toInt = 61 := by decide
      refine zcV (As := [.int 61]) (rest := []) (C := RX6) (n := 1) ⟨hx, hb, hml, hown, ht⟩ (k_X6_isSign l D h0 h1 h2 h3 fa pl mo ki wo si op s0 sp 61) (zgV ml_X6_124 im_X6_isSign se_X6_isSign in_X6 co_X6_isSign) rfl rfl (by decide +kernel) ⟨Nat.le_of_ble_eq_true rfl, Nat.le_of_ble_eq_true rfl⟩ hK hP hS [0] rfl 0 rfl rfl rfl rfl hl.1 rfl (Nat.le_of_ble_eq_true rfl) dX6_comparison_36 ⟨Nat.le_of_ble_eq_true rfl, Nat.le_of_ble_eq_true rfl⟩ (fun r_34 H locs hw hP hS => ?_)
      rcases hw with ⟨rfl, g_35⟩ | ⟨rfl, g_36⟩
      · skip
        refine lv_if_ne (tgt := 52) hx hb dX6_comparison_39 (by decide) (fun _ => ?_) (fun c_37 => (z_abs c_37 (by decide)).elim)
        refine lv_aload_n hx hb dX6_comparison_52 rfl (lv_at hl 1 rfl) ?_
        refine zwVv (As := []) (rest := []) (C := RX6) (n := 0) (wr := []) ⟨hx, hb, hml, hown, ht⟩ (k_X6_advance l D _ h0 h1 h2 h3 h4 fa pl mo ki wo si op s0 sp n f fw (by first | decide | omega) (by first | decide | omega) (by first | decide | omega) (by first | decide | omega)) (zgV ml_X6_75 im_X6_advance se_X6_advance in_X6 co_X6_advance) rfl rfl (by decide +kernel) ⟨Nat.le_of_ble_eq_true rfl, Nat.le_of_ble_eq_true rfl⟩ hK hP hD hS hA [0, 1, 2, 3] [] rfl rfl rfl rfl (by decide) 0 rfl rfl rfl rfl hl.1 rfl (Nat.le_of_ble_eq_true rfl) dX6_comparison_53 ⟨Nat.le_of_ble_eq_true rfl, Nat.le_of_ble_eq_true rfl⟩ (fun u_39 H locs hw hP hD hS => ?_)
        obtain ⟨x_41, n_42, n_43, x_44, x_45⟩ := u_39
        have hP : va_P D vwCl [(h0, .inr (6, [.int fa, .int pl, .ref h1, .ref h2, .ref h3, .int mo, .int (nI (op)), .int x_41, .int (nI (n_42)), .int (nI (n_43)), .int x_44, .int x_45])), (h1, .inr (9, [.ref h4, .int (nI (n))])), (h4, .inl (D.1 13, 1600, .inl f)), (h2, .inl (D.1 14, 179, .inl fw))] H := hP
        have hD : va_D A [(h0, .inr (6, [.int fa, .int pl, .ref h1, .ref h2, .ref h3, .int mo, .int (nI (op)), .int x_41, .int (nI (n_42)), .int (nI (n_43)), .int x_44, .int x_45])), (h1, .inr (9, [.ref h4, .int (nI (n))])), (h4, .inl (D.1 13, 1600, .inl f)), (h2, .inl (D.1 14, 179, .inl fw))] := hD
        have hw_46 : n_42 ≤ n_43 ∧ n_43 ≤ n ∧ sp ≤ n_43 ∧ (x_41.toInt = 0 ∨ (sp < n_43 ∧ n_42 < n_43)) ∧ (¬ fa.toInt = 0 → x_41.toInt = 0) := hw
        refine lv_iload_n hx hb dX6_comparison_56 rfl (lv_at hl 0 rfl) ?_
        have hP9 := hP.sub (ws' := [(h0, .inr (6, [.int fa, .int pl, .ref h1, .ref h2, .ref h3, .int mo, .int (nI op), .int x_41, .int (nI n_42), .int (nI n_43), .int x_44, .int x_45])), (h1, .inr (9, [.ref h4, .int (nI n)])), (h4, .inl (D.1 13, 1600, .inl f)), (h2, .inl (D.1 14, 179, .inl fw))]) [0, 1, 2, 3] rfl
        have hD9 := hD.sub (ws' := [(h0, .inr (6, [.int fa, .int pl, .ref h1, .ref h2, .ref h3, .int mo, .int (nI op), .int x_41, .int (nI n_42), .int (nI n_43), .int x_44, .int x_45])), (h1, .inr (9, [.ref h4, .int (nI n)])), (h4, .inl (D.1 13, 1600, .inl f)), (h2, .inl (D.1 14, 179, .inl fw))]) [0, 1, 2, 3] (by decide) rfl
        refine W.widen (k := 0) (n := 0) (Nat.le_of_ble_eq_true rfl) (Nat.le_of_ble_eq_true rfl) ?_
        have enr : ((-9) : Int32).toInt = (-9) := by decide
        exact W.iret (v := (-9)) hx hb hr (fun t ht hW => ⟨⟨(-9), (fa, pl, x_41, n_42, n_43, x_44, x_45), rfl, (by first | omega | (dsimp only; omega)), by rw [ht]; exact hP9, va_K.moved hW.alike hK, hD9⟩, hS.F ht⟩) hS.2.2 dX6_comparison_57
      · skip
        refine lv_if_ne (tgt := 52) hx hb dX6_comparison_39 (by decide) (fun c_47 => (z_abs c_47 (by decide)).elim) (fun _ => ?_)
        refine lv_aload_n hx hb dX6_comparison_42 rfl (lv_at hl 1 rfl) ?_
        refine lv_iconst (v := 1) hx hb dX6_comparison_43 (by decide) ?_
        refine lv_aload_n hx hb dX6_comparison_44 rfl (lv_at hl 1 rfl) ?_
        refine va_get (D := D) (ci := 6) (v := .int (nI s0)) (C := RX6) (T := TX6) (N := 12) hx hb ht inX6 hown hK hP 0 rfl rfl 8 (by decide) (ht (.fieldLink RX6 51 "CloneVolumes$Reader" "start" "I") fl_X6_51) (fun _ h9 => h9) rfl dX6_comparison_45 ?_
        have en_49 : (1 : Int32).toInt = 1 := by decide
        have en_50 : (nI s0).toInt = ((s0 : Nat) : Int) := nI_toInt (by omega)
        refine zwV (As := [.int 1, .int (nI s0)]) (rest := []) (C := RX6) (n := 2) (wr := [(h1, .inr (9, [.ref h4, .int (nI n)])), (h4, .inl (D.1 13, 1600, .inl f)), (h2, .inl (D.1 14, 179, .inl fw))]) ⟨hx, hb, hml, hown, ht⟩ (k_X6_fail l D _ h0 h1 h2 h3 fa pl mo ki wo si op s0 sp 1 (nI s0) (by first | decide | omega)) (zgV ml_X6_54 im_X6_fail se_X6_fail in_X6 co_X6_fail) rfl rfl (by decide +kernel) ⟨Nat.le_of_ble_eq_true rfl, Nat.le_of_ble_eq_true rfl⟩ hK hP hD hS hA [0] [1, 2, 3] rfl rfl rfl rfl (by decide) 0 rfl rfl rfl rfl hl.1 rfl (Nat.le_of_ble_eq_true rfl) dX6_comparison_48 ⟨Nat.le_of_ble_eq_true rfl, Nat.le_of_ble_eq_true rfl⟩ (fun r_52 u_51 H locs hw hP hD hS => ?_)
        obtain ⟨x_53, x_54, x_55⟩ := u_51
        have hP : va_P D vwCl [(h1, .inr (9, [.ref h4, .int (nI n)])), (h4, .inl (D.1 13, 1600, .inl f)), (h2, .inl (D.1 14, 179, .inl fw)), (h0, .inr (6, [.int x_53, .int x_54, .ref h1, .ref h2, .ref h3, .int mo, .int (nI (op)), .int x_55, .int (nI (s0)), .int (nI (sp)), .int wo, .int si]))] H := hP
        have hD : va_D A [(h1, .inr (9, [.ref h4, .int (nI n)])), (h4, .inl (D.1 13, 1600, .inl f)), (h2, .inl (D.1 14, 179, .inl fw)), (h0, .inr (6, [.int x_53, .int x_54, .ref h1, .ref h2, .ref h3, .int mo, .int (nI (op)), .int x_55, .int (nI (s0)), .int (nI (sp)), .int wo, .int si]))] := hD
        obtain ⟨hrr, hw⟩ := hw
        subst hrr
        have hw_56 : (¬ x_53.toInt = 0 → x_55.toInt = 0) ∧ (¬ (1 : Int32).toInt = 0 → ¬ x_53.toInt = 0) := hw
        refine lv_pop hx hb dX6_comparison_51 rfl ?_
        refine lv_aload_n hx hb dX6_comparison_52 rfl (lv_at hl 1 rfl) ?_
        refine zwVv (As := []) (rest := []) (C := RX6) (n := 0) (wr := []) ⟨hx, hb, hml, hown, ht⟩ (k_X6_advance l D _ h0 h1 h2 h3 h4 x_53 x_54 mo x_55 wo si op s0 sp n f fw (by first | decide | omega) (by first | decide | omega) (by first | decide | omega) (by first | decide | omega)) (zgV ml_X6_75 im_X6_advance se_X6_advance in_X6 co_X6_advance) rfl rfl (by decide +kernel) ⟨Nat.le_of_ble_eq_true rfl, Nat.le_of_ble_eq_true rfl⟩ hK hP hD hS hA [3, 0, 1, 2] [] rfl rfl rfl rfl (by decide) 0 rfl rfl rfl rfl hl.1 rfl (Nat.le_of_ble_eq_true rfl) dX6_comparison_53 ⟨Nat.le_of_ble_eq_true rfl, Nat.le_of_ble_eq_true rfl⟩ (fun u_57 H locs hw hP hD hS => ?_)
        obtain ⟨x_59, n_60, n_61, x_62, x_63⟩ := u_57
        have hP : va_P D vwCl [(h0, .inr (6, [.int x_53, .int x_54, .ref h1, .ref h2, .ref h3, .int mo, .int (nI (op)), .int x_59, .int (nI (n_60)), .int (nI (n_61)), .int x_62, .int x_63])), (h1, .inr (9, [.ref h4, .int (nI (n))])), (h4, .inl (D.1 13, 1600, .inl f)), (h2, .inl (D.1 14, 179, .inl fw))] H := hP
        have hD : va_D A [(h0, .inr (6, [.int x_53, .int x_54, .ref h1, .ref h2, .ref h3, .int mo, .int (nI (op)), .int x_59, .int (nI (n_60)), .int (nI (n_61)), .int x_62, .int x_63])), (h1, .inr (9, [.ref h4, .int (nI (n))])), (h4, .inl (D.1 13, 1600, .inl f)), (h2, .inl (D.1 14, 179, .inl fw))] := hD
        have hw_64 : n_60 ≤ n_61 ∧ n_61 ≤ n ∧ sp ≤ n_61 ∧ (x_59.toInt = 0 ∨ (sp < n_61 ∧ n_60 < n_61)) ∧ (¬ x_53.toInt = 0 → x_59.toInt = 0) := hw
        refine lv_iload_n hx hb dX6_comparison_56 rfl (lv_at hl 0 rfl) ?_
        have hP9 := hP.sub (ws' := [(h0, .inr (6, [.int x_53, .int x_54, .ref h1, .ref h2, .ref h3, .int mo, .int (nI op), .int x_59, .int (nI n_60), .int (nI n_61), .int x_62, .int x_63])), (h1, .inr (9, [.ref h4, .int (nI n)])), (h4, .inl (D.1 13, 1600, .inl f)), (h2, .inl (D.1 14, 179, .inl fw))]) [0, 1, 2, 3] rfl
        have hD9 := hD.sub (ws' := [(h0, .inr (6, [.int x_53, .int x_54, .ref h1, .ref h2, .ref h3, .int mo, .int (nI op), .int x_59, .int (nI n_60), .int (nI n_61), .int x_62, .int x_63])), (h1, .inr (9, [.ref h4, .int (nI n)])), (h4, .inl (D.1 13, 1600, .inl f)), (h2, .inl (D.1 14, 179, .inl fw))]) [0, 1, 2, 3] (by decide) rfl
        refine W.widen (k := 0) (n := 0) (Nat.le_of_ble_eq_true rfl) (Nat.le_of_ble_eq_true rfl) ?_
        have enr : ((-9) : Int32).toInt = (-9) := by decide
        exact W.iret (v := (-9)) hx hb hr (fun t ht hW => ⟨⟨(-9), (x_53, x_54, x_59, n_60, n_61, x_62, x_63), rfl, (by first | omega | (dsimp only; omega)), by rw [ht]; exact hP9, va_K.moved hW.alike hK, hD9⟩, hS.F ht⟩) hS.2.2 dX6_comparison_57
