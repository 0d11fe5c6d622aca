theorem fl_X6_9 : Cond.fieldLink RX6 9 "CloneVolumes$Reader" "place" "I" ∈ lw_gd := zm (List.mem_of_getElem? (i := 300) (by decide +kernel)) rfl
theorem fl_X6_69 : Cond.fieldLink RX6 69 "CloneVolumes$Reader" "mode" "I" ∈ lw_gd := zm (List.mem_of_getElem? (i := 305) (by decide +kernel)) rfl
theorem ml_X6_121 : Cond.methodLink RX6 121 yX6_isWord ∈ lw_gd := zm (List.mem_of_getElem? (i := 814) (by decide +kernel)) rfl
theorem im_X6_isWord : Cond.instanceMethod yX6_isWord ∈ lw_gd := zm (List.mem_of_getElem? (i := 816) (by decide +kernel)) rfl
theorem se_X6_isWord : Cond.selects RX6 yX6_isWord yX6_isWord ∈ lw_gd := zm (List.mem_of_getElem? (i := 9) (by decide +kernel)) rfl
theorem co_X6_isWord : Cond.code yX6_isWord cX6_isWord 2 (some .boolean) ∈ lw_gd := zm (List.mem_of_getElem? (i := 817) (by decide +kernel)) rfl
theorem ml_X6_75 : Cond.methodLink RX6 75 yX6_advance ∈ lw_gd := zm (List.mem_of_getElem? (i := 773) (by decide +kernel)) rfl
theorem im_X6_advance : Cond.instanceMethod yX6_advance ∈ lw_gd := zm (List.mem_of_getElem? (i := 775) (by decide +kernel)) rfl
theorem se_X6_advance : Cond.selects RX6 yX6_advance yX6_advance ∈ lw_gd := zm (List.mem_of_getElem? (i := 2) (by decide +kernel)) rfl
theorem co_X6_advance : Cond.code yX6_advance cX6_advance 2 none ∈ lw_gd := zm (List.mem_of_getElem? (i := 776) (by decide +kernel)) rfl
theorem ml_X6_54 : Cond.methodLink RX6 54 yX6_fail ∈ lw_gd := zm (List.mem_of_getElem? (i := 798) (by decide +kernel)) rfl
theorem im_X6_fail : Cond.instanceMethod yX6_fail ∈ lw_gd := zm (List.mem_of_getElem? (i := 800) (by decide +kernel)) rfl
theorem se_X6_fail : Cond.selects RX6 yX6_fail yX6_fail ∈ lw_gd := zm (List.mem_of_getElem? (i := 5) (by decide +kernel)) rfl
theorem co_X6_fail : Cond.code yX6_fail cX6_fail 3 (some .boolean) ∈ lw_gd := zm (List.mem_of_getElem? (i := 801) (by decide +kernel)) rfl
theorem ml_X6_124 : Cond.methodLink RX6 124 yX6_isSign ∈ lw_gd := zm (List.mem_of_getElem? (i := 871) (by decide +kernel)) rfl
theorem im_X6_isSign : Cond.instanceMethod yX6_isSign ∈ lw_gd := zm (List.mem_of_getElem? (i := 873) (by decide +kernel)) rfl
theorem se_X6_isSign : Cond.selects RX6 yX6_isSign yX6_isSign ∈ lw_gd := zm (List.mem_of_getElem? (i := 18) (by decide +kernel)) rfl
theorem co_X6_isSign : Cond.code yX6_isSign cX6_isSign 2 (some .boolean) ∈ lw_gd := zm (List.mem_of_getElem? (i := 874) (by decide +kernel)) rfl
theorem fl_X6_85 : Cond.fieldLink RX6 85 "CloneVolumes$Reader" "open" "I" ∈ lw_gd := zm (List.mem_of_getElem? (i := 306) (by decide +kernel)) rfl
theorem dX6_expectSign_0 : decode cX6_expectSign 0 = .ok (.aload_n 0, 1) := by decide +kernel
theorem dX6_expectSign_1 : decode cX6_expectSign 1 = .ok (.iload_n 1, 1) := by decide +kernel
theorem dX6_expectSign_2 : decode cX6_expectSign 2 = .ok (.invokevirtual 124, 3) := by decide +kernel
theorem dX6_expectSign_5 : decode cX6_expectSign 5 = .ok (.ifCond .eq 10, 3) := by decide +kernel
theorem dX6_expectSign_8 : decode cX6_expectSign 8 = .ok (.aload_n 0, 1) := by decide +kernel
theorem dX6_expectSign_9 : decode cX6_expectSign 9 = .ok (.invokevirtual 75, 3) := by decide +kernel
theorem dX6_expectSign_12 : decode cX6_expectSign 12 = .ok (.goto 13, 3) := by decide +kernel
theorem dX6_expectSign_15 : decode cX6_expectSign 15 = .ok (.aload_n 0, 1) := by decide +kernel
theorem dX6_expectSign_16 : decode cX6_expectSign 16 = .ok (.iconst 1, 1) := by decide +kernel
theorem dX6_expectSign_17 : decode cX6_expectSign 17 = .ok (.aload_n 0, 1) := by decide +kernel
theorem dX6_expectSign_18 : decode cX6_expectSign 18 = .ok (.getfield 51, 3) := by decide +kernel
theorem dX6_expectSign_21 : decode cX6_expectSign 21 = .ok (.invokevirtual 54, 3) := by decide +kernel
theorem dX6_expectSign_24 : decode cX6_expectSign 24 = .ok (.pop, 1) := by decide +kernel
theorem dX6_expectSign_25 : decode cX6_expectSign 25 = .ok (.return_, 1) := by decide +kernel
theorem dX6_expectWord_0 : decode cX6_expectWord 0 = .ok (.aload_n 0, 1) := by decide +kernel
theorem dX6_expectWord_1 : decode cX6_expectWord 1 = .ok (.iload_n 1, 1) := by decide +kernel
theorem dX6_expectWord_2 : decode cX6_expectWord 2 = .ok (.invokevirtual 121, 3) := by decide +kernel
theorem dX6_expectWord_5 : decode cX6_expectWord 5 = .ok (.ifCond .eq 10, 3) := by decide +kernel
theorem dX6_expectWord_8 : decode cX6_expectWord 8 = .ok (.aload_n 0, 1) := by decide +kernel
theorem dX6_expectWord_9 : decode cX6_expectWord 9 = .ok (.invokevirtual 75, 3) := by decide +kernel
theorem dX6_expectWord_12 : decode cX6_expectWord 12 = .ok (.goto 13, 3) := by decide +kernel
theorem dX6_expectWord_15 : decode cX6_expectWord 15 = .ok (.aload_n 0, 1) := by decide +kernel
theorem dX6_expectWord_16 : decode cX6_expectWord 16 = .ok (.iconst 1, 1) := by decide +kernel
theorem dX6_expectWord_17 : decode cX6_expectWord 17 = .ok (.aload_n 0, 1) := by decide +kernel
theorem dX6_expectWord_18 : decode cX6_expectWord 18 = .ok (.getfield 51, 3) := by decide +kernel
theorem dX6_expectWord_21 : decode cX6_expectWord 21 = .ok (.invokevirtual 54, 3) := by decide +kernel
theorem dX6_expectWord_24 : decode cX6_expectWord 24 = .ok (.pop, 1) := by decide +kernel
theorem dX6_expectWord_25 : decode cX6_expectWord 25 = .ok (.return_, 1) := by decide +kernel
theorem dX6_fail_0 : decode cX6_fail 0 = .ok (.aload_n 0, 1) := by decide +kernel
theorem dX6_fail_1 : decode cX6_fail 1 = .ok (.getfield 61, 3) := by decide +kernel
theorem dX6_fail_4 : decode cX6_fail 4 = .ok (.ifCond .ne 18, 3) := by decide +kernel
theorem dX6_fail_7 : decode cX6_fail 7 = .ok (.aload_n 0, 1) := by decide +kernel
theorem dX6_fail_8 : decode cX6_fail 8 = .ok (.iload_n 1, 1) := by decide +kernel
theorem dX6_fail_9 : decode cX6_fail 9 = .ok (.putfield 61, 3) := by decide +kernel
theorem dX6_fail_12 : decode cX6_fail 12 = .ok (.aload_n 0, 1) := by decide +kernel
theorem dX6_fail_13 : decode cX6_fail 13 = .ok (.iload_n 2, 1) := by decide +kernel
theorem dX6_fail_14 : decode cX6_fail 14 = .ok (.putfield 9, 3) := by decide +kernel
theorem dX6_fail_17 : decode cX6_fail 17 = .ok (.aload_n 0, 1) := by decide +kernel
theorem dX6_fail_18 : decode cX6_fail 18 = .ok (.iconst 0, 1) := by decide +kernel
theorem dX6_fail_19 : decode cX6_fail 19 = .ok (.putfield 44, 3) := by decide +kernel
theorem dX6_fail_22 : decode cX6_fail 22 = .ok (.iconst 0, 1) := by decide +kernel
theorem dX6_fail_23 : decode cX6_fail 23 = .ok (.ireturn, 1) := by decide +kernel
theorem dX6_isFact_0 : decode cX6_isFact 0 = .ok (.aload_n 0, 1) := by decide +kernel
theorem dX6_isFact_1 : decode cX6_isFact 1 = .ok (.getfield 44, 3) := by decide +kernel
theorem dX6_isFact_4 : decode cX6_isFact 4 = .ok (.iconst 1, 1) := by decide +kernel
theorem dX6_isFact_5 : decode cX6_isFact 5 = .ok (.if_icmp .eq 5, 3) := by decide +kernel
theorem dX6_isFact_8 : decode cX6_isFact 8 = .ok (.iconst 0, 1) := by decide +kernel
theorem dX6_isFact_9 : decode cX6_isFact 9 = .ok (.ireturn, 1) := by decide +kernel
theorem dX6_isFact_10 : decode cX6_isFact 10 = .ok (.aload_n 0, 1) := by decide +kernel
theorem dX6_isFact_11 : decode cX6_isFact 11 = .ok (.getfield 72, 3) := by decide +kernel
theorem dX6_isFact_14 : decode cX6_isFact 14 = .ok (.tableswitch 109 11 18 #[48, 69, 46, 82, 95, 95, 95, 95], 46) := by decide +kernel
theorem dX6_isFact_60 : decode cX6_isFact 60 = .ok (.iconst 1, 1) := by decide +kernel
theorem dX6_isFact_61 : decode cX6_isFact 61 = .ok (.ireturn, 1) := by decide +kernel
theorem dX6_isFact_62 : decode cX6_isFact 62 = .ok (.aload_n 0, 1) := by decide +kernel
theorem dX6_isFact_63 : decode cX6_isFact 63 = .ok (.getfield 69, 3) := by decide +kernel
theorem dX6_isFact_66 : decode cX6_isFact 66 = .ok (.ifCond .eq 11, 3) := by decide +kernel
theorem dX6_isFact_69 : decode cX6_isFact 69 = .ok (.aload_n 0, 1) := by decide +kernel
theorem dX6_isFact_70 : decode cX6_isFact 70 = .ok (.getfield 69, 3) := by decide +kernel
theorem dX6_isFact_73 : decode cX6_isFact 73 = .ok (.iconst 2, 1) := by decide +kernel
theorem dX6_isFact_74 : decode cX6_isFact 74 = .ok (.if_icmp .ne 7, 3) := by decide +kernel
theorem dX6_isFact_77 : decode cX6_isFact 77 = .ok (.iconst 1, 1) := by decide +kernel
theorem dX6_isFact_78 : decode cX6_isFact 78 = .ok (.goto 4, 3) := by decide +kernel
theorem dX6_isFact_81 : decode cX6_isFact 81 = .ok (.iconst 0, 1) := by decide +kernel
theorem dX6_isFact_82 : decode cX6_isFact 82 = .ok (.ireturn, 1) := by decide +kernel
theorem dX6_isFact_83 : decode cX6_isFact 83 = .ok (.aload_n 0, 1) := by decide +kernel
theorem dX6_isFact_84 : decode cX6_isFact 84 = .ok (.getfield 69, 3) := by decide +kernel
theorem dX6_isFact_87 : decode cX6_isFact 87 = .ok (.ifCond .ne 7, 3) := by decide +kernel
theorem dX6_isFact_90 : decode cX6_isFact 90 = .ok (.iconst 1, 1) := by decide +kernel
theorem dX6_isFact_91 : decode cX6_isFact 91 = .ok (.goto 4, 3) := by decide +kernel
theorem dX6_isFact_94 : decode cX6_isFact 94 = .ok (.iconst 0, 1) := by decide +kernel
theorem dX6_isFact_95 : decode cX6_isFact 95 = .ok (.ireturn, 1) := by decide +kernel
theorem dX6_isFact_96 : decode cX6_isFact 96 = .ok (.aload_n 0, 1) := by decide +kernel
theorem dX6_isFact_97 : decode cX6_isFact 97 = .ok (.getfield 69, 3) := by decide +kernel
theorem dX6_isFact_100 : decode cX6_isFact 100 = .ok (.ifCond .eq 7, 3) := by decide +kernel
theorem dX6_isFact_103 : decode cX6_isFact 103 = .ok (.iconst 1, 1) := by decide +kernel
theorem dX6_isFact_104 : decode cX6_isFact 104 = .ok (.goto 4, 3) := by decide +kernel
theorem dX6_isFact_107 : decode cX6_isFact 107 = .ok (.iconst 0, 1) := by decide +kernel
theorem dX6_isFact_108 : decode cX6_isFact 108 = .ok (.ireturn, 1) := by decide +kernel
theorem dX6_isFact_109 : decode cX6_isFact 109 = .ok (.aload_n 0, 1) := by decide +kernel
theorem dX6_isFact_110 : decode cX6_isFact 110 = .ok (.getfield 69, 3) := by decide +kernel
theorem dX6_isFact_113 : decode cX6_isFact 113 = .ok (.iconst 3, 1) := by decide +kernel
theorem dX6_isFact_114 : decode cX6_isFact 114 = .ok (.if_icmp .ne 7, 3) := by decide +kernel
theorem dX6_isFact_117 : decode cX6_isFact 117 = .ok (.iconst 1, 1) := by decide +kernel
theorem dX6_isFact_118 : decode cX6_isFact 118 = .ok (.goto 4, 3) := by decide +kernel
theorem dX6_isFact_121 : decode cX6_isFact 121 = .ok (.iconst 0, 1) := by decide +kernel
theorem dX6_isFact_122 : decode cX6_isFact 122 = .ok (.ireturn, 1) := by decide +kernel
theorem dX6_isFact_123 : decode cX6_isFact 123 = .ok (.iconst 0, 1) := by decide +kernel
theorem dX6_isFact_124 : decode cX6_isFact 124 = .ok (.ireturn, 1) := by decide +kernel
theorem dX6_isSign_0 : decode cX6_isSign 0 = .ok (.aload_n 0, 1) := by decide +kernel
theorem dX6_isSign_1 : decode cX6_isSign 1 = .ok (.getfield 44, 3) := by decide +kernel
theorem dX6_isSign_4 : decode cX6_isSign 4 = .ok (.iconst 3, 1) := by decide +kernel
theorem dX6_isSign_5 : decode cX6_isSign 5 = .ok (.if_icmp .ne 15, 3) := by decide +kernel
theorem dX6_isSign_8 : decode cX6_isSign 8 = .ok (.aload_n 0, 1) := by decide +kernel
theorem dX6_isSign_9 : decode cX6_isSign 9 = .ok (.getfield 108, 3) := by decide +kernel
theorem dX6_isSign_12 : decode cX6_isSign 12 = .ok (.iload_n 1, 1) := by decide +kernel
theorem dX6_isSign_13 : decode cX6_isSign 13 = .ok (.if_icmp .ne 7, 3) := by decide +kernel
theorem dX6_isSign_16 : decode cX6_isSign 16 = .ok (.iconst 1, 1) := by decide +kernel
theorem dX6_isSign_17 : decode cX6_isSign 17 = .ok (.goto 4, 3) := by decide +kernel
theorem dX6_isSign_20 : decode cX6_isSign 20 = .ok (.iconst 0, 1) := by decide +kernel
theorem dX6_isSign_21 : decode cX6_isSign 21 = .ok (.ireturn, 1) := by decide +kernel
theorem dX6_isWord_0 : decode cX6_isWord 0 = .ok (.aload_n 0, 1) := by decide +kernel
theorem dX6_isWord_1 : decode cX6_isWord 1 = .ok (.getfield 44, 3) := by decide +kernel
theorem dX6_isWord_4 : decode cX6_isWord 4 = .ok (.iconst 1, 1) := by decide +kernel
theorem dX6_isWord_5 : decode cX6_isWord 5 = .ok (.if_icmp .ne 15, 3) := by decide +kernel
theorem dX6_isWord_8 : decode cX6_isWord 8 = .ok (.aload_n 0, 1) := by decide +kernel
theorem dX6_isWord_9 : decode cX6_isWord 9 = .ok (.getfield 72, 3) := by decide +kernel
theorem dX6_isWord_12 : decode cX6_isWord 12 = .ok (.iload_n 1, 1) := by decide +kernel
theorem dX6_isWord_13 : decode cX6_isWord 13 = .ok (.if_icmp .ne 7, 3) := by decide +kernel
theorem dX6_isWord_16 : decode cX6_isWord 16 = .ok (.iconst 1, 1) := by decide +kernel
theorem dX6_isWord_17 : decode cX6_isWord 17 = .ok (.goto 4, 3) := by decide +kernel
theorem dX6_isWord_20 : decode cX6_isWord 20 = .ok (.iconst 0, 1) := by decide +kernel
theorem dX6_isWord_21 : decode cX6_isWord 21 = .ok (.ireturn, 1) := by decide +kernel
theorem dX6_opens_0 : decode cX6_opens 0 = .ok (.aload_n 0, 1) := by decide +kernel
theorem dX6_opens_1 : decode cX6_opens 1 = .ok (.getfield 85, 3) := by decide +kernel
theorem dX6_opens_4 : decode cX6_opens 4 = .ok (.bipush 6, 2) := by decide +kernel
theorem dX6_opens_6 : decode cX6_opens 6 = .ok (.if_icmp .lt 13, 3) := by decide +kernel
theorem dX6_opens_9 : decode cX6_opens 9 = .ok (.aload_n 0, 1) := by decide +kernel
theorem dX6_opens_10 : decode cX6_opens 10 = .ok (.iconst 4, 1) := by decide +kernel
theorem dX6_opens_11 : decode cX6_opens 11 = .ok (.aload_n 0, 1) := by decide +kernel
theorem dX6_opens_12 : decode cX6_opens 12 = .ok (.getfield 51, 3) := by decide +kernel
theorem dX6_opens_15 : decode cX6_opens 15 = .ok (.invokevirtual 54, 3) := by decide +kernel
theorem dX6_opens_18 : decode cX6_opens 18 = .ok (.ireturn, 1) := by decide +kernel
theorem dX6_opens_19 : decode cX6_opens 19 = .ok (.aload_n 0, 1) := by decide +kernel
theorem dX6_opens_20 : decode cX6_opens 20 = .ok (.dup, 1) := by decide +kernel
theorem dX6_opens_21 : decode cX6_opens 21 = .ok (.getfield 85, 3) := by decide +kernel
theorem dX6_opens_24 : decode cX6_opens 24 = .ok (.iconst 1, 1) := by decide +kernel
theorem dX6_opens_25 : decode cX6_opens 25 = .ok (.iadd, 1) := by decide +kernel
theorem dX6_opens_26 : decode cX6_opens 26 = .ok (.putfield 85, 3) := by decide +kernel
theorem dX6_opens_29 : decode cX6_opens 29 = .ok (.iconst 1, 1) := by decide +kernel
theorem dX6_opens_30 : decode cX6_opens 30 = .ok (.ireturn, 1) := by decide +kernel
set_option maxHeartbeats 4000000 in
set_option maxRecDepth 100000 in
theorem k_X6_fail (l : Launch) (D : va_G) (sz : Nat) (h0 h1 h2 h3 : Nat) (fa pl mo ki wo si : Int32) (op s0 sp : Nat) (p0 p1 : Int32) (h_4 : ¬ fa.toInt = 0 → ki.toInt = 0) : Met l yX6_fail (wz yX6_fail cX6_fail 3 (some .boolean)) { frames := 0, cells := 0, slots := 0, locals := 0 } (va_Pc [.ref h0, .int p0, .int p1] (zW D sz [(h0, .inr (6, [.int fa, .int pl, .ref h1, .ref h2, .ref h3, .int mo, .int (nI op), .int ki, .int (nI s0), .int (nI sp), .int wo, .int si]))])) (va_Qi (fun r (u : ((Int32) × (Int32) × (Int32))) => r = 0 ∧ ((¬ u.1.toInt = 0 → u.2.2.toInt = 0) ∧ (¬ p0.toInt = 0 → ¬ u.1.toInt = 0))) (fun u t => zB D (va_A [(h0, .inr (6, [.int fa, .int pl, .ref h1, .ref h2, .ref h3, .int mo, .int (nI op), .int ki, .int (nI s0), .int (nI sp), .int wo, .int si]))] sz) ((fun (u : ((Int32) × (Int32) × (Int32))) => [(h0, .inr (6, [.int u.1, .int u.2.1, .ref h1, .ref h2, .ref h3, .int mo, .int (nI op), .int u.2.2, .int (nI s0), .int (nI sp), .int wo, .int si]))]) u) t) (va_A [(h0, .inr (6, [.int fa, .int pl, .ref h1, .ref h2, .ref h3, .int mo, .int (nI op), .int ki, .int (nI s0), .int (nI sp), .int wo, .int si]))] sz)) 0 0 (va_A [(h0, .inr (6, [.int fa, .int pl, .ref h1, .ref h2, .ref h3, .int mo, .int (nI op), .int ki, .int (nI s0), .int (nI sp), .int wo, .int si]))] sz) := by
  refine Met.ofW (cc := cX6_fail) (maxL := 3) (ret := (some .boolean)) (by decide) rfl ?_
  intro p e s m args below meth c s₁ B hml hv
  obtain ⟨rfl, hsz, hP, hK, hD0⟩ := hv
  have hx := B.exec
  have hb := B.bytes
  have hr := B.returns
  have hts := atoms_spec (ws := wz yX6_fail cX6_fail 3 (some .boolean)) B.pre
  have ht : ∀ w ∈ lw_gd, w.before _ s = true := fun w h => hts w (List.mem_cons_of_mem _ h)
  have hown : s.vm.findClass RX6 = some m.cls := findClass_of_methodNamed B.named
  have hlocks := B.notSynchronized
  subst hsz
  have hD := hD0.self (sz := s.heap.size)
  generalize hAe : va_A [(h0, .inr (6, [.int fa, .int pl, .ref h1, .ref h2, .ref h3, .int mo, .int (nI op), .int ki, .int (nI s0), .int (nI sp), .int wo, .int si]))] s.heap.size = A at hD ⊢
  have hA : ∀ q : Nat, s.heap.size ≤ q → A q := fun q h => by rw [← hAe]; exact Or.inr h
  have hS : va_S A s.heap s.heap [] := va_S.rf
  have zi0 : (0 : Int32).toInt = 0 := rfl
  have zi1 : (1 : Int32).toInt = 1 := rfl
  have zi2 : (2 : Int32).toInt = 2 := rfl
  have zi3 : (3 : Int32).toInt = 3 := rfl
  have zi4 : (4 : Int32).toInt = 4 := rfl
  have hl := lv_entry ([.ref h0, .int p0, .int p1]) (n := 3) (Nat.le_of_ble_eq_true rfl)
  rw [lg_entry_eq]
  generalize (lg_sl ([.ref h0, .int p0, .int p1]) ++ List.replicate (3 - (lg_sl ([.ref h0, .int p0, .int p1])).length) Slot.unset).toArray = ls at hl ⊢
  have hl : lv_has ls 3 [(0, .ref h0), (1, .int p0), (2, .int p1)] := hl
  refine lv_aload_n hx hb dX6_fail_0 rfl (lv_at hl 0 rfl) ?_
  refine va_get (D := D) (ci := 6) (v := .int fa) (C := RX6) (T := TX6) (N := 12) hx hb ht inX6 hown hK hP 0 rfl rfl 0 (by decide) (ht (.fieldLink RX6 61 "CloneVolumes$Reader" "fault" "I") fl_X6_61) (fun _ h9 => h9) rfl dX6_fail_1 ?_
  refine lv_if_ne (tgt := 22) hx hb dX6_fail_4 (by decide) (fun c_1 => ?_) (fun c_1 => ?_)
  · have g_2 : ¬ fa.toInt = 0 := z_ne rfl (by decide) c_1
    refine lv_iconst (v := 0) hx hb dX6_fail_22 (by decide) ?_
    have hP9 := hP.sub (ws' := [(h0, .inr (6, [.int fa, .int pl, .ref h1, .ref h2, .ref h3, .int mo, .int (nI op), .int ki, .int (nI s0), .int (nI sp), .int wo, .int si]))]) [0] rfl
    have hD9 := hD.sub (ws' := [(h0, .inr (6, [.int fa, .int pl, .ref h1, .ref h2, .ref h3, .int mo, .int (nI op), .int ki, .int (nI s0), .int (nI sp), .int wo, .int si]))]) [0] (by decide) rfl
    refine W.widen (k := 0) (n := 0) (Nat.le_of_ble_eq_true rfl) (Nat.le_of_ble_eq_true rfl) ?_
    have enr : (0 : Int32).toInt = 0 := by decide
    exact W.zret (v := 0) hx hb hr (by decide) (fun t ht hW => ⟨⟨0, (fa, pl, ki), rfl, (⟨rfl, by first | omega | (dsimp only; omega)⟩), by rw [ht]; exact hP9, va_K.moved hW.alike hK, hD9⟩, hS.F ht⟩) hS.2.2 dX6_fail_23
  · have g_2 : fa.toInt = 0 := z_eq rfl (by decide) c_1
    refine lv_aload_n hx hb dX6_fail_7 rfl (lv_at hl 0 rfl) ?_
    refine lv_iload_n hx hb dX6_fail_8 rfl (lv_at hl 1 rfl) ?_
    refine va_put (D := D) (ci := 6) (v := .int p0) (ty := .int) (C := RX6) (T := TX6) (N := 12) hx hb ht inX6 tyX6 tyX6_ok nmX6 hown hK hP hD hS 0 rfl rfl 0 (by decide) (ht (.fieldLink RX6 61 "CloneVolumes$Reader" "fault" "I") fl_X6_61) (fun _ h9 => h9) rfl (by decide +kernel) rfl rfl (Nat.le_of_ble_eq_true rfl) dX6_fail_9 (fun H locs hP hD hS => ?_)
    have hP : va_P D vwCl [(h0, .inr (6, [.int p0, .int pl, .ref h1, .ref h2, .ref h3, .int mo, .int (nI op), .int ki, .int (nI s0), .int (nI sp), .int wo, .int si]))] H := hP
    have hD : va_D A [(h0, .inr (6, [.int p0, .int pl, .ref h1, .ref h2, .ref h3, .int mo, .int (nI op), .int ki, .int (nI s0), .int (nI sp), .int wo, .int si]))] := hD
    refine lv_aload_n hx hb dX6_fail_12 rfl (lv_at hl 0 rfl) ?_
    refine lv_iload_n hx hb dX6_fail_13 rfl (lv_at hl 2 rfl) ?_
    refine va_put (D := D) (ci := 6) (v := .int p1) (ty := .int) (C := RX6) (T := TX6) (N := 12) hx hb ht inX6 tyX6 tyX6_ok nmX6 hown hK hP hD hS 0 rfl rfl 1 (by decide) (ht (.fieldLink RX6 9 "CloneVolumes$Reader" "place" "I") fl_X6_9) (fun _ h9 => h9) rfl (by decide +kernel) rfl rfl (Nat.le_of_ble_eq_true rfl) dX6_fail_14 (fun H locs hP hD hS => ?_)
    have hP : va_P D vwCl [(h0, .inr (6, [.int p0, .int p1, .ref h1, .ref h2, .ref h3, .int mo, .int (nI op), .int ki, .int (nI s0), .int (nI sp), .int wo, .int si]))] H := hP
    have hD : va_D A [(h0, .inr (6, [.int p0, .int p1, .ref h1, .ref h2, .ref h3, .int mo, .int (nI op), .int ki, .int (nI s0), .int (nI sp), .int wo, .int si]))] := hD
    refine lv_aload_n hx hb dX6_fail_17 rfl (lv_at hl 0 rfl) ?_
    refine lv_iconst (v := 0) hx hb dX6_fail_18 (by decide) ?_
    refine va_put (D := D) (ci := 6) (v := .int 0) (ty := .int) (C := RX6) (T := TX6) (N := 12) hx hb ht inX6 tyX6 tyX6_ok nmX6 hown hK hP hD hS 0 rfl rfl 7 (by decide) (ht (.fieldLink RX6 44 "CloneVolumes$Reader" "kind" "I") fl_X6_44) (fun _ h9 => h9) rfl (by decide +kernel) rfl rfl (Nat.le_of_ble_eq_true rfl) dX6_fail_19 (fun H locs hP hD hS => ?_)
    have hP : va_P D vwCl [(h0, .inr (6, [.int p0, .int p1, .ref h1, .ref h2, .ref h3, .int mo, .int (nI op), .int 0, .int (nI s0), .int (nI sp), .int wo, .int si]))] H := hP
    have hD : va_D A [(h0, .inr (6, [.int p0, .int p1, .ref h1, .ref h2, .ref h3, .int mo, .int (nI op), .int 0, .int (nI s0), .int (nI sp), .int wo, .int si]))] := hD
    refine lv_iconst (v := 0) hx hb dX6_fail_22 (by decide) ?_
    have hP9 := hP.sub (ws' := [(h0, .inr (6, [.int p0, .int p1, .ref h1, .ref h2, .ref h3, .int mo, .int (nI op), .int 0, .int (nI s0), .int (nI sp), .int wo, .int si]))]) [0] rfl
    have hD9 := hD.sub (ws' := [(h0, .inr (6, [.int p0, .int p1, .ref h1, .ref h2, .ref h3, .int mo, .int (nI op), .int 0, .int (nI s0), .int (nI sp), .int wo, .int si]))]) [0] (by decide) rfl
    refine W.widen (k := 0) (n := 0) (Nat.le_of_ble_eq_true rfl) (Nat.le_of_ble_eq_true rfl) ?_
    have enr : (0 : Int32).toInt = 0 := by decide
    exact W.zret (v := 0) hx hb hr (by decide) (fun t ht hW => ⟨⟨0, (p0, p1, 0), rfl, (⟨rfl, by first | omega | (dsimp only; omega)⟩), by rw [ht]; exact hP9, va_K.moved hW.alike hK, hD9⟩, hS.F ht⟩) hS.2.2 dX6_fail_23
set_option maxHeartbeats 4000000 in
set_option maxRecDepth 100000 in
theorem k_X6_isWord (l : Launch) (D : va_G) (h0 h1 h2 h3 : Nat) (fa pl mo ki wo si : Int32) (op s0 sp : Nat) (p0 : Int32) : Met l yX6_isWord (wz yX6_isWord cX6_isWord 2 (some .boolean)) { frames := 0, cells := 0, slots := 0, locals := 0 } (va_Pc [.ref h0, .int p0] (zP D [(h0, .inr (6, [.int fa, .int pl, .ref h1, .ref h2, .ref h3, .int mo, .int (nI op), .int ki, .int (nI s0), .int (nI sp), .int wo, .int si]))])) (va_Qi (fun r (_ : Unit) => (r = 1 ∧ (ki.toInt = 1 ∧ wo.toInt = p0.toInt)) ∨ (r = 0 ∧ ¬ (ki.toInt = 1 ∧ wo.toInt = p0.toInt))) (fun _ _ => True) (fun _ => False)) 0 0 (fun _ => False) := by
  refine Met.ofW (cc := cX6_isWord) (maxL := 2) (ret := (some .boolean)) (by decide) rfl ?_
  intro p e s m args below meth c s₁ B hml hv
  obtain ⟨rfl, hP, hK⟩ := hv
  have hx := B.exec
  have hb := B.bytes
  have hr := B.returns
  have hts := atoms_spec (ws := wz yX6_isWord cX6_isWord 2 (some .boolean)) B.pre
  have ht : ∀ w ∈ lw_gd, w.before _ s = true := fun w h => hts w (List.mem_cons_of_mem _ h)
  have hown : s.vm.findClass RX6 = some m.cls := findClass_of_methodNamed B.named
  have hlocks := B.notSynchronized
  have hS : va_S (fun _ => False) s.heap s.heap [] := va_S.rf
  have zi0 : (0 : Int32).toInt = 0 := rfl
  have zi1 : (1 : Int32).toInt = 1 := rfl
  have zi2 : (2 : Int32).toInt = 2 := rfl
  have zi3 : (3 : Int32).toInt = 3 := rfl
  have zi4 : (4 : Int32).toInt = 4 := rfl
  have hl := lv_entry ([.ref h0, .int p0]) (n := 2) (Nat.le_of_ble_eq_true rfl)
  rw [lg_entry_eq]
  generalize (lg_sl ([.ref h0, .int p0]) ++ List.replicate (2 - (lg_sl ([.ref h0, .int p0])).length) Slot.unset).toArray = ls at hl ⊢
  have hl : lv_has ls 2 [(0, .ref h0), (1, .int p0)] := hl
  refine lv_aload_n hx hb dX6_isWord_0 rfl (lv_at hl 0 rfl) ?_
  refine va_get (D := D) (ci := 6) (v := .int ki) (C := RX6) (T := TX6) (N := 12) hx hb ht inX6 hown hK hP 0 rfl rfl 7 (by decide) (ht (.fieldLink RX6 44 "CloneVolumes$Reader" "kind" "I") fl_X6_44) (fun _ h9 => h9) rfl dX6_isWord_1 ?_
  refine lv_iconst (v := 1) hx hb dX6_isWord_4 (by decide) ?_
  refine lv_icmp_ne (tgt := 20) hx hb dX6_isWord_5 (by decide) (fun c_1 => ?_) (fun c_1 => ?_)
  · have g_2 : ¬ ki.toInt = 1 := z_ne rfl (by decide) c_1
    refine lv_iconst (v := 0) hx hb dX6_isWord_20 (by decide) ?_
    exact W.zret (v := 0) hx hb hr (by decide) (fun t ht hW => ⟨⟨0, (), rfl, Or.inr ⟨rfl, by omega⟩, trivial⟩, hS.F ht⟩) hS.2.2 dX6_isWord_21
  · have g_2 : ki.toInt = 1 := z_eq rfl (by decide) c_1
    refine lv_aload_n hx hb dX6_isWord_8 rfl (lv_at hl 0 rfl) ?_
    refine va_get (D := D) (ci := 6) (v := .int wo) (C := RX6) (T := TX6) (N := 12) hx hb ht inX6 hown hK hP 0 rfl rfl 10 (by decide) (ht (.fieldLink RX6 72 "CloneVolumes$Reader" "word" "I") fl_X6_72) (fun _ h9 => h9) rfl dX6_isWord_9 ?_
    refine lv_iload_n hx hb dX6_isWord_12 rfl (lv_at hl 1 rfl) ?_
    refine lv_icmp_ne (tgt := 20) hx hb dX6_isWord_13 (by decide) (fun c_3 => ?_) (fun c_3 => ?_)
    · have g_4 : ¬ wo.toInt = p0.toInt := z_ne rfl rfl c_3
      refine lv_iconst (v := 0) hx hb dX6_isWord_20 (by decide) ?_
      exact W.zret (v := 0) hx hb hr (by decide) (fun t ht hW => ⟨⟨0, (), rfl, Or.inr ⟨rfl, by omega⟩, trivial⟩, hS.F ht⟩) hS.2.2 dX6_isWord_21
    · have g_4 : wo.toInt = p0.toInt := z_eq rfl rfl c_3
      refine lv_iconst (v := 1) hx hb dX6_isWord_16 (by decide) ?_
      refine lv_goto (tgt := 21) hx hb dX6_isWord_17 (by decide) ?_
      exact W.zret (v := 1) hx hb hr (by decide) (fun t ht hW => ⟨⟨1, (), rfl, Or.inl ⟨rfl, by omega⟩, trivial⟩, hS.F ht⟩) hS.2.2 dX6_isWord_21
set_option maxHeartbeats 4000000 in
set_option maxRecDepth 100000 in
theorem k_X6_isSign (l : Launch) (D : va_G) (h0 h1 h2 h3 : Nat) (fa pl mo ki wo si : Int32) (op s0 sp : Nat) (p0 : Int32) : Met l yX6_isSign (wz yX6_isSign cX6_isSign 2 (some .boolean)) { frames := 0, cells := 0, slots := 0, locals := 0 } (va_Pc [.ref h0, .int p0] (zP D [(h0, .inr (6, [.int fa, .int pl, .ref h1, .ref h2, .ref h3, .int mo, .int (nI op), .int ki, .int (nI s0), .int (nI sp), .int wo, .int si]))])) (va_Qi (fun r (_ : Unit) => (r = 1 ∧ (ki.toInt = 3 ∧ si.toInt = p0.toInt)) ∨ (r = 0 ∧ ¬ (ki.toInt = 3 ∧ si.toInt = p0.toInt))) (fun _ _ => True) (fun _ => False)) 0 0 (fun _ => False) := by
  refine Met.ofW (cc := cX6_isSign) (maxL := 2) (ret := (some .boolean)) (by decide) rfl ?_
  intro p e s m args below meth c s₁ B hml hv
  obtain ⟨rfl, hP, hK⟩ := hv
  have hx := B.exec
  have hb := B.bytes
  have hr := B.returns
  have hts := atoms_spec (ws := wz yX6_isSign cX6_isSign 2 (some .boolean)) B.pre
  have ht : ∀ w ∈ lw_gd, w.before _ s = true := fun w h => hts w (List.mem_cons_of_mem _ h)
  have hown : s.vm.findClass RX6 = some m.cls := findClass_of_methodNamed B.named
  have hlocks := B.notSynchronized
  have hS : va_S (fun _ => False) s.heap s.heap [] := va_S.rf
  have zi0 : (0 : Int32).toInt = 0 := rfl
  have zi1 : (1 : Int32).toInt = 1 := rfl
  have zi2 : (2 : Int32).toInt = 2 := rfl
  have zi3 : (3 : Int32).toInt = 3 := rfl
  have zi4 : (4 : Int32).toInt = 4 := rfl
  have hl := lv_entry ([.ref h0, .int p0]) (n := 2) (Nat.le_of_ble_eq_true rfl)
  rw [lg_entry_eq]
  generalize (lg_sl ([.ref h0, .int p0]) ++ List.replicate (2 - (lg_sl ([.ref h0, .int p0])).length) Slot.unset).toArray = ls at hl ⊢
  have hl : lv_has ls 2 [(0, .ref h0), (1, .int p0)] := hl
  refine lv_aload_n hx hb dX6_isSign_0 rfl (lv_at hl 0 rfl) ?_
  refine va_get (D := D) (ci := 6) (v := .int ki) (C := RX6) (T := TX6) (N := 12) hx hb ht inX6 hown hK hP 0 rfl rfl 7 (by decide) (ht (.fieldLink RX6 44 "CloneVolumes$Reader" "kind" "I") fl_X6_44) (fun _ h9 => h9) rfl dX6_isSign_1 ?_
  refine lv_iconst (v := 3) hx hb dX6_isSign_4 (by decide) ?_
  refine lv_icmp_ne (tgt := 20) hx hb dX6_isSign_5 (by decide) (fun c_1 => ?_) (fun c_1 => ?_)
  · have g_2 : ¬ ki.toInt = 3 := z_ne rfl (by decide) c_1
    refine lv_iconst (v := 0) hx hb dX6_isSign_20 (by decide) ?_
    exact W.zret (v := 0) hx hb hr (by decide) (fun t ht hW => ⟨⟨0, (), rfl, Or.inr ⟨rfl, by omega⟩, trivial⟩, hS.F ht⟩) hS.2.2 dX6_isSign_21
  · have g_2 : ki.toInt = 3 := z_eq rfl (by decide) c_1
    refine lv_aload_n hx hb dX6_isSign_8 rfl (lv_at hl 0 rfl) ?_
    refine va_get (D := D) (ci := 6) (v := .int si) (C := RX6) (T := TX6) (N := 12) hx hb ht inX6 hown hK hP 0 rfl rfl 11 (by decide) (ht (.fieldLink RX6 108 "CloneVolumes$Reader" "sign" "I") fl_X6_108) (fun _ h9 => h9) rfl dX6_isSign_9 ?_
    refine lv_iload_n hx hb dX6_isSign_12 rfl (lv_at hl 1 rfl) ?_
    refine lv_icmp_ne (tgt := 20) hx hb dX6_isSign_13 (by decide) (fun c_3 => ?_) (fun c_3 => ?_)
    · have g_4 : ¬ si.toInt = p0.toInt := z_ne rfl rfl c_3
      refine lv_iconst (v := 0) hx hb dX6_isSign_20 (by decide) ?_
      exact W.zret (v := 0) hx hb hr (by decide) (fun t ht hW => ⟨⟨0, (), rfl, Or.inr ⟨rfl, by omega⟩, trivial⟩, hS.F ht⟩) hS.2.2 dX6_isSign_21
    · have g_4 : si.toInt = p0.toInt := z_eq rfl rfl c_3
      refine lv_iconst (v := 1) hx hb dX6_isSign_16 (by decide) ?_
      refine lv_goto (tgt := 21) hx hb dX6_isSign_17 (by decide) ?_
      exact W.zret (v := 1) hx hb hr (by decide) (fun t ht hW => ⟨⟨1, (), rfl, Or.inl ⟨rfl, by omega⟩, trivial⟩, hS.F ht⟩) hS.2.2 dX6_isSign_21
set_option maxHeartbeats 4000000 in
set_option maxRecDepth 100000 in
theorem k_X6_isFact (l : Launch) (D : va_G) (h0 h1 h2 h3 : Nat) (fa pl mo ki wo si : Int32) (op s0 sp : Nat)  : Met l yX6_isFact (wz yX6_isFact cX6_isFact 1 (some .boolean)) { frames := 0, cells := 0, slots := 0, locals := 0 } (va_Pc [.ref h0] (zP D [(h0, .inr (6, [.int fa, .int pl, .ref h1, .ref h2, .ref h3, .int mo, .int (nI op), .int ki, .int (nI s0), .int (nI sp), .int wo, .int si]))])) (va_Qi (fun r (_ : Unit) => r = 0 ∨ r = 1) (fun _ _ => True) (fun _ => False)) 0 0 (fun _ => False) := by
  refine Met.ofW (cc := cX6_isFact) (maxL := 1) (ret := (some .boolean)) (by decide) rfl ?_
  intro p e s m args below meth c s₁ B hml hv
  obtain ⟨rfl, hP, hK⟩ := hv
  have hx := B.exec
  have hb := B.bytes
  have hr := B.returns
  have hts := atoms_spec (ws := wz yX6_isFact cX6_isFact 1 (some .boolean)) B.pre
  have ht : ∀ w ∈ lw_gd, w.before _ s = true := fun w h => hts w (List.mem_cons_of_mem _ h)
  have hown : s.vm.findClass RX6 = some m.cls := findClass_of_methodNamed B.named
  have hlocks := B.notSynchronized
  have hS : va_S (fun _ => False) s.heap s.heap [] := va_S.rf
  have zi0 : (0 : Int32).toInt = 0 := rfl
  have zi1 : (1 : Int32).toInt = 1 := rfl
  have zi2 : (2 : Int32).toInt = 2 := rfl
  have zi3 : (3 : Int32).toInt = 3 := rfl
  have zi4 : (4 : Int32).toInt = 4 := rfl
  have hl := lv_entry ([.ref h0]) (n := 1) (Nat.le_of_ble_eq_true rfl)
  rw [lg_entry_eq]
  generalize (lg_sl ([.ref h0]) ++ List.replicate (1 - (lg_sl ([.ref h0])).length) Slot.unset).toArray = ls at hl ⊢
  have hl : lv_has ls 1 [(0, .ref h0)] := hl
  refine lv_aload_n hx hb dX6_isFact_0 rfl (lv_at hl 0 rfl) ?_
  refine va_get (D := D) (ci := 6) (v := .int ki) (C := RX6) (T := TX6) (N := 12) hx hb ht inX6 hown hK hP 0 rfl rfl 7 (by decide) (ht (.fieldLink RX6 44 "CloneVolumes$Reader" "kind" "I") fl_X6_44) (fun _ h9 => h9) rfl dX6_isFact_1 ?_
  refine lv_iconst (v := 1) hx hb dX6_isFact_4 (by decide) ?_
  refine lv_icmp_eq (tgt := 10) hx hb dX6_isFact_5 (by decide) (fun c_1 => ?_) (fun c_1 => ?_)
  · have g_2 : ki.toInt = 1 := z_eq rfl (by decide) c_1
    refine lv_aload_n hx hb dX6_isFact_10 rfl (lv_at hl 0 rfl) ?_
    refine va_get (D := D) (ci := 6) (v := .int wo) (C := RX6) (T := TX6) (N := 12) hx hb ht inX6 hown hK hP 0 rfl rfl 10 (by decide) (ht (.fieldLink RX6 72 "CloneVolumes$Reader" "word" "I") fl_X6_72) (fun _ h9 => h9) rfl dX6_isFact_11 ?_
    by_cases c_3 : wo = 11
    · have g_4 : wo.toInt = 11 := z_eq rfl (by decide) c_3
      refine lv_tableIn (off := 48) (tgt := 62) hx hb dX6_isFact_14 (by omega) (by omega) (by rw [g_4]; decide) (by decide) ?_
      refine lv_aload_n hx hb dX6_isFact_62 rfl (lv_at hl 0 rfl) ?_
      refine va_get (D := D) (ci := 6) (v := .int mo) (C := RX6) (T := TX6) (N := 12) hx hb ht inX6 hown hK hP 0 rfl rfl 5 (by decide) (ht (.fieldLink RX6 69 "CloneVolumes$Reader" "mode" "I") fl_X6_69) (fun _ h9 => h9) rfl dX6_isFact_63 ?_
      refine lv_if_eq (tgt := 77) hx hb dX6_isFact_66 (by decide) (fun c_5 => ?_) (fun c_5 => ?_)
      · have g_6 : mo.toInt = 0 := z_eq rfl (by decide) c_5
        refine lv_iconst (v := 1) hx hb dX6_isFact_77 (by decide) ?_
        refine lv_goto (tgt := 82) hx hb dX6_isFact_78 (by decide) ?_
        exact W.zret (v := 1) hx hb hr (by decide) (fun t ht hW => ⟨⟨1, (), rfl, Or.inr rfl, trivial⟩, hS.F ht⟩) hS.2.2 dX6_isFact_82
      · have g_6 : ¬ mo.toInt = 0 := z_ne rfl (by decide) c_5
        refine lv_aload_n hx hb dX6_isFact_69 rfl (lv_at hl 0 rfl) ?_
        refine va_get (D := D) (ci := 6) (v := .int mo) (C := RX6) (T := TX6) (N := 12) hx hb ht inX6 hown hK hP 0 rfl rfl 5 (by decide) (ht (.fieldLink RX6 69 "CloneVolumes$Reader" "mode" "I") fl_X6_69) (fun _ h9 => h9) rfl dX6_isFact_70 ?_
        refine lv_iconst (v := 2) hx hb dX6_isFact_73 (by decide) ?_
        refine lv_icmp_ne (tgt := 81) hx hb dX6_isFact_74 (by decide) (fun c_7 => ?_) (fun c_7 => ?_)
        · have g_8 : ¬ mo.toInt = 2 := z_ne rfl (by decide) c_7
          refine lv_iconst (v := 0) hx hb dX6_isFact_81 (by decide) ?_
          exact W.zret (v := 0) hx hb hr (by decide) (fun t ht hW => ⟨⟨0, (), rfl, Or.inl rfl, trivial⟩, hS.F ht⟩) hS.2.2 dX6_isFact_82
        · have g_8 : mo.toInt = 2 := z_eq rfl (by decide) c_7
          refine lv_iconst (v := 1) hx hb dX6_isFact_77 (by decide) ?_
          refine lv_goto (tgt := 82) hx hb dX6_isFact_78 (by decide) ?_
          exact W.zret (v := 1) hx hb hr (by decide) (fun t ht hW => ⟨⟨1, (), rfl, Or.inr rfl, trivial⟩, hS.F ht⟩) hS.2.2 dX6_isFact_82
    · have g_4 : ¬ wo.toInt = 11 := z_ne rfl (by decide) c_3
      by_cases c_9 : wo = 12
      · have g_10 : wo.toInt = 12 := z_eq rfl (by decide) c_9
        refine lv_tableIn (off := 69) (tgt := 83) hx hb dX6_isFact_14 (by omega) (by omega) (by rw [g_10]; decide) (by decide) ?_
        refine lv_aload_n hx hb dX6_isFact_83 rfl (lv_at hl 0 rfl) ?_
        refine va_get (D := D) (ci := 6) (v := .int mo) (C := RX6) (T := TX6) (N := 12) hx hb ht inX6 hown hK hP 0 rfl rfl 5 (by decide) (ht (.fieldLink RX6 69 "CloneVolumes$Reader" "mode" "I") fl_X6_69) (fun _ h9 => h9) rfl dX6_isFact_84 ?_
        refine lv_if_ne (tgt := 94) hx hb dX6_isFact_87 (by decide) (fun c_11 => ?_) (fun c_11 => ?_)
        · have g_12 : ¬ mo.toInt = 0 := z_ne rfl (by decide) c_11
          refine lv_iconst (v := 0) hx hb dX6_isFact_94 (by decide) ?_
          exact W.zret (v := 0) hx hb hr (by decide) (fun t ht hW => ⟨⟨0, (), rfl, Or.inl rfl, trivial⟩, hS.F ht⟩) hS.2.2 dX6_isFact_95
        · have g_12 : mo.toInt = 0 := z_eq rfl (by decide) c_11
          refine lv_iconst (v := 1) hx hb dX6_isFact_90 (by decide) ?_
          refine lv_goto (tgt := 95) hx hb dX6_isFact_91 (by decide) ?_
          exact W.zret (v := 1) hx hb hr (by decide) (fun t ht hW => ⟨⟨1, (), rfl, Or.inr rfl, trivial⟩, hS.F ht⟩) hS.2.2 dX6_isFact_95
      · have g_10 : ¬ wo.toInt = 12 := z_ne rfl (by decide) c_9
        by_cases c_13 : wo = 13
        · have g_14 : wo.toInt = 13 := z_eq rfl (by decide) c_13
          refine lv_tableIn (off := 46) (tgt := 60) hx hb dX6_isFact_14 (by omega) (by omega) (by rw [g_14]; decide) (by decide) ?_
          refine lv_iconst (v := 1) hx hb dX6_isFact_60 (by decide) ?_
          exact W.zret (v := 1) hx hb hr (by decide) (fun t ht hW => ⟨⟨1, (), rfl, Or.inr rfl, trivial⟩, hS.F ht⟩) hS.2.2 dX6_isFact_61
        · have g_14 : ¬ wo.toInt = 13 := z_ne rfl (by decide) c_13
          by_cases c_15 : wo = 14
          · have g_16 : wo.toInt = 14 := z_eq rfl (by decide) c_15
            refine lv_tableIn (off := 82) (tgt := 96) hx hb dX6_isFact_14 (by omega) (by omega) (by rw [g_16]; decide) (by decide) ?_
            refine lv_aload_n hx hb dX6_isFact_96 rfl (lv_at hl 0 rfl) ?_
            refine va_get (D := D) (ci := 6) (v := .int mo) (C := RX6) (T := TX6) (N := 12) hx hb ht inX6 hown hK hP 0 rfl rfl 5 (by decide) (ht (.fieldLink RX6 69 "CloneVolumes$Reader" "mode" "I") fl_X6_69) (fun _ h9 => h9) rfl dX6_isFact_97 ?_
            refine lv_if_eq (tgt := 107) hx hb dX6_isFact_100 (by decide) (fun c_17 => ?_) (fun c_17 => ?_)
            · have g_18 : mo.toInt = 0 := z_eq rfl (by decide) c_17
              refine lv_iconst (v := 0) hx hb dX6_isFact_107 (by decide) ?_
              exact W.zret (v := 0) hx hb hr (by decide) (fun t ht hW => ⟨⟨0, (), rfl, Or.inl rfl, trivial⟩, hS.F ht⟩) hS.2.2 dX6_isFact_108
            · have g_18 : ¬ mo.toInt = 0 := z_ne rfl (by decide) c_17
              refine lv_iconst (v := 1) hx hb dX6_isFact_103 (by decide) ?_
              refine lv_goto (tgt := 108) hx hb dX6_isFact_104 (by decide) ?_
              exact W.zret (v := 1) hx hb hr (by decide) (fun t ht hW => ⟨⟨1, (), rfl, Or.inr rfl, trivial⟩, hS.F ht⟩) hS.2.2 dX6_isFact_108
          · have g_16 : ¬ wo.toInt = 14 := z_ne rfl (by decide) c_15
            by_cases c_19 : wo = 15
            · have g_20 : wo.toInt = 15 := z_eq rfl (by decide) c_19
              refine lv_tableIn (off := 95) (tgt := 109) hx hb dX6_isFact_14 (by omega) (by omega) (by rw [g_20]; decide) (by decide) ?_
              refine lv_aload_n hx hb dX6_isFact_109 rfl (lv_at hl 0 rfl) ?_
              refine va_get (D := D) (ci := 6) (v := .int mo) (C := RX6) (T := TX6) (N := 12) hx hb ht inX6 hown hK hP 0 rfl rfl 5 (by decide) (ht (.fieldLink RX6 69 "CloneVolumes$Reader" "mode" "I") fl_X6_69) (fun _ h9 => h9) rfl dX6_isFact_110 ?_
              refine lv_iconst (v := 3) hx hb dX6_isFact_113 (by decide) ?_
              refine lv_icmp_ne (tgt := 121) hx hb dX6_isFact_114 (by decide) (fun c_21 => ?_) (fun c_21 => ?_)
              · have g_22 : ¬ mo.toInt = 3 := z_ne rfl (by decide) c_21
                refine lv_iconst (v := 0) hx hb dX6_isFact_121 (by decide) ?_
                exact W.zret (v := 0) hx hb hr (by decide) (fun t ht hW => ⟨⟨0, (), rfl, Or.inl rfl, trivial⟩, hS.F ht⟩) hS.2.2 dX6_isFact_122
              · have g_22 : mo.toInt = 3 := z_eq rfl (by decide) c_21
                refine lv_iconst (v := 1) hx hb dX6_isFact_117 (by decide) ?_
                refine lv_goto (tgt := 122) hx hb dX6_isFact_118 (by decide) ?_
                exact W.zret (v := 1) hx hb hr (by decide) (fun t ht hW => ⟨⟨1, (), rfl, Or.inr rfl, trivial⟩, hS.F ht⟩) hS.2.2 dX6_isFact_122
            · have g_20 : ¬ wo.toInt = 15 := z_ne rfl (by decide) c_19
              by_cases c_23 : wo = 16
              · have g_24 : wo.toInt = 16 := z_eq rfl (by decide) c_23
                refine lv_tableIn (off := 95) (tgt := 109) hx hb dX6_isFact_14 (by omega) (by omega) (by rw [g_24]; decide) (by decide) ?_
                refine lv_aload_n hx hb dX6_isFact_109 rfl (lv_at hl 0 rfl) ?_
                refine va_get (D := D) (ci := 6) (v := .int mo) (C := RX6) (T := TX6) (N := 12) hx hb ht inX6 hown hK hP 0 rfl rfl 5 (by decide) (ht (.fieldLink RX6 69 "CloneVolumes$Reader" "mode" "I") fl_X6_69) (fun _ h9 => h9) rfl dX6_isFact_110 ?_
                refine lv_iconst (v := 3) hx hb dX6_isFact_113 (by decide) ?_
                refine lv_icmp_ne (tgt := 121) hx hb dX6_isFact_114 (by decide) (fun c_25 => ?_) (fun c_25 => ?_)
                · have g_26 : ¬ mo.toInt = 3 := z_ne rfl (by decide) c_25
                  refine lv_iconst (v := 0) hx hb dX6_isFact_121 (by decide) ?_
                  exact W.zret (v := 0) hx hb hr (by decide) (fun t ht hW => ⟨⟨0, (), rfl, Or.inl rfl, trivial⟩, hS.F ht⟩) hS.2.2 dX6_isFact_122
                · have g_26 : mo.toInt = 3 := z_eq rfl (by decide) c_25
                  refine lv_iconst (v := 1) hx hb dX6_isFact_117 (by decide) ?_
                  refine lv_goto (tgt := 122) hx hb dX6_isFact_118 (by decide) ?_
                  exact W.zret (v := 1) hx hb hr (by decide) (fun t ht hW => ⟨⟨1, (), rfl, Or.inr rfl, trivial⟩, hS.F ht⟩) hS.2.2 dX6_isFact_122
              · have g_24 : ¬ wo.toInt = 16 := z_ne rfl (by decide) c_23
                by_cases c_27 : wo = 17
                · have g_28 : wo.toInt = 17 := z_eq rfl (by decide) c_27
                  refine lv_tableIn (off := 95) (tgt := 109) hx hb dX6_isFact_14 (by omega) (by omega) (by rw [g_28]; decide) (by decide) ?_
                  refine lv_aload_n hx hb dX6_isFact_109 rfl (lv_at hl 0 rfl) ?_
                  refine va_get (D := D) (ci := 6) (v := .int mo) (C := RX6) (T := TX6) (N := 12) hx hb ht inX6 hown hK hP 0 rfl rfl 5 (by decide) (ht (.fieldLink RX6 69 "CloneVolumes$Reader" "mode" "I") fl_X6_69) (fun _ h9 => h9) rfl dX6_isFact_110 ?_
                  refine lv_iconst (v := 3) hx hb dX6_isFact_113 (by decide) ?_
                  refine lv_icmp_ne (tgt := 121) hx hb dX6_isFact_114 (by decide) (fun c_29 => ?_) (fun c_29 => ?_)
                  · have g_30 : ¬ mo.toInt = 3 := z_ne rfl (by decide) c_29
                    refine lv_iconst (v := 0) hx hb dX6_isFact_121 (by decide) ?_
                    exact W.zret (v := 0) hx hb hr (by decide) (fun t ht hW => ⟨⟨0, (), rfl, Or.inl rfl, trivial⟩, hS.F ht⟩) hS.2.2 dX6_isFact_122
                  · have g_30 : mo.toInt = 3 := z_eq rfl (by decide) c_29
                    refine lv_iconst (v := 1) hx hb dX6_isFact_117 (by decide) ?_
                    refine lv_goto (tgt := 122) hx hb dX6_isFact_118 (by decide) ?_
                    exact W.zret (v := 1) hx hb hr (by decide) (fun t ht hW => ⟨⟨1, (), rfl, Or.inr rfl, trivial⟩, hS.F ht⟩) hS.2.2 dX6_isFact_122
                · have g_28 : ¬ wo.toInt = 17 := z_ne rfl (by decide) c_27
                  by_cases c_31 : wo = 18
                  · have g_32 : wo.toInt = 18 := z_eq rfl (by decide) c_31
                    refine lv_tableIn (off := 95) (tgt := 109) hx hb dX6_isFact_14 (by omega) (by omega) (by rw [g_32]; decide) (by decide) ?_
                    refine lv_aload_n hx hb dX6_isFact_109 rfl (lv_at hl 0 rfl) ?_
                    refine va_get (D := D) (ci := 6) (v := .int mo) (C := RX6) (T := TX6) (N := 12) hx hb ht inX6 hown hK hP 0 rfl rfl 5 (by decide) (ht (.fieldLink RX6 69 "CloneVolumes$Reader" "mode" "I") fl_X6_69) (fun _ h9 => h9) rfl dX6_isFact_110 ?_
                    refine lv_iconst (v := 3) hx hb dX6_isFact_113 (by decide) ?_
                    refine lv_icmp_ne (tgt := 121) hx hb dX6_isFact_114 (by decide) (fun c_33 => ?_) (fun c_33 => ?_)
                    · have g_34 : ¬ mo.toInt = 3 := z_ne rfl (by decide) c_33
                      refine lv_iconst (v := 0) hx hb dX6_isFact_121 (by decide) ?_
                      exact W.zret (v := 0) hx hb hr (by decide) (fun t ht hW => ⟨⟨0, (), rfl, Or.inl rfl, trivial⟩, hS.F ht⟩) hS.2.2 dX6_isFact_122
                    · have g_34 : mo.toInt = 3 := z_eq rfl (by decide) c_33
                      refine lv_iconst (v := 1) hx hb dX6_isFact_117 (by decide) ?_
                      refine lv_goto (tgt := 122) hx hb dX6_isFact_118 (by decide) ?_
                      exact W.zret (v := 1) hx hb hr (by decide) (fun t ht hW => ⟨⟨1, (), rfl, Or.inr rfl, trivial⟩, hS.F ht⟩) hS.2.2 dX6_isFact_122
                  · have g_32 : ¬ wo.toInt = 18 := z_ne rfl (by decide) c_31
                    refine lv_tableOut (tgt := 123) hx hb dX6_isFact_14 (by omega) (by decide) ?_
                    refine lv_iconst (v := 0) hx hb dX6_isFact_123 (by decide) ?_
                    exact W.zret (v := 0) hx hb hr (by decide) (fun t ht hW => ⟨⟨0, (), rfl, Or.inl rfl, trivial⟩, hS.F ht⟩) hS.2.2 dX6_isFact_124
  · have g_2 : ¬ ki.toInt = 1 := z_ne rfl (by decide) c_1
    refine lv_iconst (v := 0) hx hb dX6_isFact_8 (by decide) ?_
    exact W.zret (v := 0) hx hb hr (by decide) (fun t ht hW => ⟨⟨0, (), rfl, Or.inl rfl, trivial⟩, hS.F ht⟩) hS.2.2 dX6_isFact_9
set_option maxHeartbeats 4000000 in
set_option maxRecDepth 100000 in
theorem k_X6_expectWord (l : Launch) (D : va_G) (sz : Nat) (h0 h1 h2 h3 h4 : Nat) (fa pl mo ki wo si : Int32) (op s0 sp n : Nat) (f fw : Nat → Int32) (p0 : Int32) (h_1 : s0 ≤ sp) (h_2 : sp ≤ n) (h_3 : n ≤ 1600) (h_4 : ¬ fa.toInt = 0 → ki.toInt = 0) (h_5 : op ≤ 6) : Met l yX6_expectWord (wz yX6_expectWord cX6_expectWord 2 none) { frames := 2, cells := 0, slots := 0, locals := 120 } (va_Pc [.ref h0, .int p0] (zW D sz [(h0, .inr (6, [.int fa, .int pl, .ref h1, .ref h2, .ref h3, .int mo, .int (nI op), .int ki, .int (nI s0), .int (nI sp), .int wo, .int si])), (h1, .inr (9, [.ref h4, .int (nI n)])), (h4, .inl (D.1 13, 1600, .inl f)), (h2, .inl (D.1 14, 179, .inl fw))])) (va_Qv (fun (u : ((Int32) × (Int32) × (Int32) × (Nat) × (Nat) × (Int32) × (Int32))) => u.2.2.2.1 ≤ u.2.2.2.2.1 ∧ u.2.2.2.2.1 ≤ n ∧ sp ≤ u.2.2.2.2.1 ∧ (¬ u.1.toInt = 0 → u.2.2.1.toInt = 0)) (fun u t => zB D (va_A [(h0, .inr (6, [.int fa, .int pl, .ref h1, .ref h2, .ref h3, .int mo, .int (nI op), .int ki, .int (nI s0), .int (nI sp), .int wo, .int si])), (h1, .inr (9, [.ref h4, .int (nI n)])), (h4, .inl (D.1 13, 1600, .inl f)), (h2, .inl (D.1 14, 179, .inl fw))] sz) ((fun (u : ((Int32) × (Int32) × (Int32) × (Nat) × (Nat) × (Int32) × (Int32))) => [(h0, .inr (6, [.int u.1, .int u.2.1, .ref h1, .ref h2, .ref h3, .int mo, .int (nI op), .int u.2.2.1, .int (nI u.2.2.2.1), .int (nI u.2.2.2.2.1), .int u.2.2.2.2.2.1, .int u.2.2.2.2.2.2])), (h1, .inr (9, [.ref h4, .int (nI n)])), (h4, .inl (D.1 13, 1600, .inl f)), (h2, .inl (D.1 14, 179, .inl fw))]) u) t) (va_A [(h0, .inr (6, [.int fa, .int pl, .ref h1, .ref h2, .ref h3, .int mo, .int (nI op), .int ki, .int (nI s0), .int (nI sp), .int wo, .int si])), (h1, .inr (9, [.ref h4, .int (nI n)])), (h4, .inl (D.1 13, 1600, .inl f)), (h2, .inl (D.1 14, 179, .inl fw))] sz)) 0 0 (va_A [(h0, .inr (6, [.int fa, .int pl, .ref h1, .ref h2, .ref h3, .int mo, .int (nI op), .int ki, .int (nI s0), .int (nI sp), .int wo, .int si])), (h1, .inr (9, [.ref h4, .int (nI n)])), (h4, .inl (D.1 13, 1600, .inl f)), (h2, .inl (D.1 14, 179, .inl fw))] sz) := by
  refine Met.ofW (cc := cX6_expectWord) (maxL := 2) (ret := none) (by decide) rfl ?_
  intro p e s m args below meth c s₁ B hml hv
  obtain ⟨rfl, hsz, hP, hK, hD0⟩ := hv
  have hx := B.exec
  have hb := B.bytes
  have hr := B.returns
  have hts := atoms_spec (ws := wz yX6_expectWord cX6_expectWord 2 none) B.pre
  have ht : ∀ w ∈ lw_gd, w.before _ s = true := fun w h => hts w (List.mem_cons_of_mem _ h)
  have hown : s.vm.findClass RX6 = some m.cls := findClass_of_methodNamed B.named
  have hlocks := B.notSynchronized
  subst hsz
  have hD := hD0.self (sz := s.heap.size)
  generalize hAe : va_A [(h0, .inr (6, [.int fa, .int pl, .ref h1, .ref h2, .ref h3, .int mo, .int (nI op), .int ki, .int (nI s0), .int (nI sp), .int wo, .int si])), (h1, .inr (9, [.ref h4, .int (nI n)])), (h4, .inl (D.1 13, 1600, .inl f)), (h2, .inl (D.1 14, 179, .inl fw))] s.heap.size = A at hD ⊢
  have hA : ∀ q : Nat, s.heap.size ≤ q → A q := fun q h => by rw [← hAe]; exact Or.inr h
  have hS : va_S A s.heap s.heap [] := va_S.rf
  have zi0 : (0 : Int32).toInt = 0 := rfl
  have zi1 : (1 : Int32).toInt = 1 := rfl
  have zi2 : (2 : Int32).toInt = 2 := rfl
  have zi3 : (3 : Int32).toInt = 3 := rfl
  have zi4 : (4 : Int32).toInt = 4 := rfl
  have hl := lv_entry ([.ref h0, .int p0]) (n := 2) (Nat.le_of_ble_eq_true rfl)
  rw [lg_entry_eq]
  generalize (lg_sl ([.ref h0, .int p0]) ++ List.replicate (2 - (lg_sl ([.ref h0, .int p0])).length) Slot.unset).toArray = ls at hl ⊢
  have hl : lv_has ls 2 [(0, .ref h0), (1, .int p0)] := hl
  refine lv_aload_n hx hb dX6_expectWord_0 rfl (lv_at hl 0 rfl) ?_
  refine lv_iload_n hx hb dX6_expectWord_1 rfl (lv_at hl 1 rfl) ?_
  refine zcV (As := [.int p0]) (rest := []) (C := RX6) (n := 1) ⟨hx, hb, hml, hown, ht⟩ (k_X6_isWord l D h0 h1 h2 h3 fa pl mo ki wo si op s0 sp p0) (zgV ml_X6_121 im_X6_isWord se_X6_isWord in_X6 co_X6_isWord) rfl rfl (by decide +kernel) ⟨Nat.le_of_ble_eq_true rfl, Nat.le_of_ble_eq_true rfl⟩ hK hP hS [0] rfl 0 rfl rfl rfl rfl hl.1 rfl (Nat.le_of_ble_eq_true rfl) dX6_expectWord_2 ⟨Nat.le_of_ble_eq_true rfl, Nat.le_of_ble_eq_true rfl⟩ (fun r_1 H locs hw hP hS => ?_)
  rcases hw with ⟨rfl, g_2⟩ | ⟨rfl, g_3⟩
  · skip
    refine lv_if_eq (tgt := 15) hx hb dX6_expectWord_5 (by decide) (fun c_4 => (z_abs c_4 (by decide)).elim) (fun _ => ?_)
    refine lv_aload_n hx hb dX6_expectWord_8 rfl (lv_at hl 0 rfl) ?_
    refine zwVv (As := []) (rest := []) (C := RX6) (n := 0) (wr := []) ⟨hx, hb, hml, hown, ht⟩ (k_X6_advance l D _ h0 h1 h2 h3 h4 fa pl mo ki wo si op s0 sp n f fw (by first | decide | omega) (by first | decide | omega) (by first | decide | omega) (by first | decide | omega)) (zgV ml_X6_75 im_X6_advance se_X6_advance in_X6 co_X6_advance) rfl rfl (by decide +kernel) ⟨Nat.le_of_ble_eq_true rfl, Nat.le_of_ble_eq_true rfl⟩ hK hP hD hS hA [0, 1, 2, 3] [] rfl rfl rfl rfl (by decide) 0 rfl rfl rfl rfl hl.1 rfl (Nat.le_of_ble_eq_true rfl) dX6_expectWord_9 ⟨Nat.le_of_ble_eq_true rfl, Nat.le_of_ble_eq_true rfl⟩ (fun u_6 H locs hw hP hD hS => ?_)
    obtain ⟨x_8, n_9, n_10, x_11, x_12⟩ := u_6
    have hP : va_P D vwCl [(h0, .inr (6, [.int fa, .int pl, .ref h1, .ref h2, .ref h3, .int mo, .int (nI (op)), .int x_8, .int (nI (n_9)), .int (nI (n_10)), .int x_11, .int x_12])), (h1, .inr (9, [.ref h4, .int (nI (n))])), (h4, .inl (D.1 13, 1600, .inl f)), (h2, .inl (D.1 14, 179, .inl fw))] H := hP
    have hD : va_D A [(h0, .inr (6, [.int fa, .int pl, .ref h1, .ref h2, .ref h3, .int mo, .int (nI (op)), .int x_8, .int (nI (n_9)), .int (nI (n_10)), .int x_11, .int x_12])), (h1, .inr (9, [.ref h4, .int (nI (n))])), (h4, .inl (D.1 13, 1600, .inl f)), (h2, .inl (D.1 14, 179, .inl fw))] := hD
    have hw_13 : n_9 ≤ n_10 ∧ n_10 ≤ n ∧ sp ≤ n_10 ∧ (x_8.toInt = 0 ∨ (sp < n_10 ∧ n_9 < n_10)) ∧ (¬ fa.toInt = 0 → x_8.toInt = 0) := hw
    refine lv_goto (tgt := 25) hx hb dX6_expectWord_12 (by decide) ?_
    have hP9 := hP.sub (ws' := [(h0, .inr (6, [.int fa, .int pl, .ref h1, .ref h2, .ref h3, .int mo, .int (nI op), .int x_8, .int (nI n_9), .int (nI n_10), .int x_11, .int x_12])), (h1, .inr (9, [.ref h4, .int (nI n)])), (h4, .inl (D.1 13, 1600, .inl f)), (h2, .inl (D.1 14, 179, .inl fw))]) [0, 1, 2, 3] rfl
    have hD9 := hD.sub (ws' := [(h0, .inr (6, [.int fa, .int pl, .ref h1, .ref h2, .ref h3, .int mo, .int (nI op), .int x_8, .int (nI n_9), .int (nI n_10), .int x_11, .int x_12])), (h1, .inr (9, [.ref h4, .int (nI n)])), (h4, .inl (D.1 13, 1600, .inl f)), (h2, .inl (D.1 14, 179, .inl fw))]) [0, 1, 2, 3] (by decide) rfl
    refine W.widen (k := 0) (n := 0) (Nat.le_of_ble_eq_true rfl) (Nat.le_of_ble_eq_true rfl) ?_
    exact W.vret hx hb hr (fun t ht hW => ⟨⟨(fa, pl, x_8, n_9, n_10, x_11, x_12), rfl, (by first | omega | (dsimp only; omega)), by rw [ht]; exact hP9, va_K.moved hW.alike hK, hD9⟩, hS.F ht⟩) hS.2.2 dX6_expectWord_25
  · skip
    refine lv_if_eq (tgt := 15) hx hb dX6_expectWord_5 (by decide) (fun _ => ?_) (fun c_14 => (z_abs c_14 (by decide)).elim)
    refine lv_aload_n hx hb dX6_expectWord_15 rfl (lv_at hl 0 rfl) ?_
    refine lv_iconst (v := 1) hx hb dX6_expectWord_16 (by decide) ?_
    refine lv_aload_n hx hb dX6_expectWord_17 rfl (lv_at hl 0 rfl) ?_
    refine va_get (D := D) (ci := 6) (v := .int (nI s0)) (C := RX6) (T := TX6) (N := 12) hx hb ht inX6 hown hK hP 0 rfl rfl 8 (by decide) (ht (.fieldLink RX6 51 "CloneVolumes$Reader" "start" "I") fl_X6_51) (fun _ h9 => h9) rfl dX6_expectWord_18 ?_
    have en_16 : (1 : Int32).toInt = 1 := by decide
    have en_17 : (nI s0).toInt = ((s0 : Nat) : Int) := nI_toInt (by omega)
    refine zwV (As := [.int 1, .int (nI s0)]) (rest := []) (C := RX6) (n := 2) (wr := [(h1, .inr (9, [.ref h4, .int (nI n)])), (h4, .inl (D.1 13, 1600, .inl f)), (h2, .inl (D.1 14, 179, .inl fw))]) ⟨hx, hb, hml, hown, ht⟩ (k_X6_fail l D _ h0 h1 h2 h3 fa pl mo ki wo si op s0 sp 1 (nI s0) (by first | decide | omega)) (zgV ml_X6_54 im_X6_fail se_X6_fail in_X6 co_X6_fail) rfl rfl (by decide +kernel) ⟨Nat.le_of_ble_eq_true rfl, Nat.le_of_ble_eq_true rfl⟩ hK hP hD hS hA [0] [1, 2, 3] rfl rfl rfl rfl (by decide) 0 rfl rfl rfl rfl hl.1 rfl (Nat.le_of_ble_eq_true rfl) dX6_expectWord_21 ⟨Nat.le_of_ble_eq_true rfl, Nat.le_of_ble_eq_true rfl⟩ (fun r_19 u_18 H locs hw hP hD hS => ?_)
    obtain ⟨x_20, x_21, x_22⟩ := u_18
    have hP : va_P D vwCl [(h1, .inr (9, [.ref h4, .int (nI n)])), (h4, .inl (D.1 13, 1600, .inl f)), (h2, .inl (D.1 14, 179, .inl fw)), (h0, .inr (6, [.int x_20, .int x_21, .ref h1, .ref h2, .ref h3, .int mo, .int (nI (op)), .int x_22, .int (nI (s0)), .int (nI (sp)), .int wo, .int si]))] H := hP
    have hD : va_D A [(h1, .inr (9, [.ref h4, .int (nI n)])), (h4, .inl (D.1 13, 1600, .inl f)), (h2, .inl (D.1 14, 179, .inl fw)), (h0, .inr (6, [.int x_20, .int x_21, .ref h1, .ref h2, .ref h3, .int mo, .int (nI (op)), .int x_22, .int (nI (s0)), .int (nI (sp)), .int wo, .int si]))] := hD
    obtain ⟨hrr, hw⟩ := hw
    subst hrr
    have hw_23 : (¬ x_20.toInt = 0 → x_22.toInt = 0) ∧ (¬ (1 : Int32).toInt = 0 → ¬ x_20.toInt = 0) := hw
    refine lv_pop hx hb dX6_expectWord_24 rfl ?_
    have hP9 := hP.sub (ws' := [(h0, .inr (6, [.int x_20, .int x_21, .ref h1, .ref h2, .ref h3, .int mo, .int (nI op), .int x_22, .int (nI s0), .int (nI sp), .int wo, .int si])), (h1, .inr (9, [.ref h4, .int (nI n)])), (h4, .inl (D.1 13, 1600, .inl f)), (h2, .inl (D.1 14, 179, .inl fw))]) [3, 0, 1, 2] rfl
    have hD9 := hD.sub (ws' := [(h0, .inr (6, [.int x_20, .int x_21, .ref h1, .ref h2, .ref h3, .int mo, .int (nI op), .int x_22, .int (nI s0), .int (nI sp), .int wo, .int si])), (h1, .inr (9, [.ref h4, .int (nI n)])), (h4, .inl (D.1 13, 1600, .inl f)), (h2, .inl (D.1 14, 179, .inl fw))]) [3, 0, 1, 2] (by decide) rfl
    refine W.widen (k := 0) (n := 0) (Nat.le_of_ble_eq_true rfl) (Nat.le_of_ble_eq_true rfl) ?_
    exact W.vret hx hb hr (fun t ht hW => ⟨⟨(x_20, x_21, x_22, s0, sp, wo, si), rfl, (by first | omega | (dsimp only; omega)), by rw [ht]; exact hP9, va_K.moved hW.alike hK, hD9⟩, hS.F ht⟩) hS.2.2 dX6_expectWord_25
set_option maxHeartbeats 4000000 in
set_option maxRecDepth 100000 in
theorem k_X6_expectSign (l : Launch) (D : va_G) (sz : Nat) (h0 h1 h2 h3 h4 : Nat) (fa pl mo ki wo si : Int32) (op s0 sp n : Nat) (f fw : Nat → Int32) (p0 : Int32) (h_1 : s0 ≤ sp) (h_2 : sp ≤ n) (h_3 : n ≤ 1600) (h_4 : ¬ fa.toInt = 0 → ki.toInt = 0) (h_5 : op ≤ 6) : Met l yX6_expectSign (wz yX6_expectSign cX6_expectSign 2 none) { frames := 2, cells := 0, slots := 0, locals := 120 } (va_Pc [.ref h0, .int p0] (zW D sz [(h0, .inr (6, [.int fa, .int pl, .ref h1, .ref h2, .ref h3, .int mo, .int (nI op), .int ki, .int (nI s0), .int (nI sp), .int wo, .int si])), (h1, .inr (9, [.ref h4, .int (nI n)])), (h4, .inl (D.1 13, 1600, .inl f)), (h2, .inl (D.1 14, 179, .inl fw))])) (va_Qv (fun (u : ((Int32) × (Int32) × (Int32) × (Nat) × (Nat) × (Int32) × (Int32))) => u.2.2.2.1 ≤ u.2.2.2.2.1 ∧ u.2.2.2.2.1 ≤ n ∧ sp ≤ u.2.2.2.2.1 ∧ (¬ u.1.toInt = 0 → u.2.2.1.toInt = 0)) (fun u t => zB D (va_A [(h0, .inr (6, [.int fa, .int pl, .ref h1, .ref h2, .ref h3, .int mo, .int (nI op), .int ki, .int (nI s0), .int (nI sp), .int wo, .int si])), (h1, .inr (9, [.ref h4, .int (nI n)])), (h4, .inl (D.1 13, 1600, .inl f)), (h2, .inl (D.1 14, 179, .inl fw))] sz) ((fun (u : ((Int32) × (Int32) × (Int32) × (Nat) × (Nat) × (Int32) × (Int32))) => [(h0, .inr (6, [.int u.1, .int u.2.1, .ref h1, .ref h2, .ref h3, .int mo, .int (nI op), .int u.2.2.1, .int (nI u.2.2.2.1), .int (nI u.2.2.2.2.1), .int u.2.2.2.2.2.1, .int u.2.2.2.2.2.2])), (h1, .inr (9, [.ref h4, .int (nI n)])), (h4, .inl (D.1 13, 1600, .inl f)), (h2, .inl (D.1 14, 179, .inl fw))]) u) t) (va_A [(h0, .inr (6, [.int fa, .int pl, .ref h1, .ref h2, .ref h3, .int mo, .int (nI op), .int ki, .int (nI s0), .int (nI sp), .int wo, .int si])), (h1, .inr (9, [.ref h4, .int (nI n)])), (h4, .inl (D.1 13, 1600, .inl f)), (h2, .inl (D.1 14, 179, .inl fw))] sz)) 0 0 (va_A [(h0, .inr (6, [.int fa, .int pl, .ref h1, .ref h2, .ref h3, .int mo, .int (nI op), .int ki, .int (nI s0), .int (nI sp), .int wo, .int si])), (h1, .inr (9, [.ref h4, .int (nI n)])), (h4, .inl (D.1 13, 1600, .inl f)), (h2, .inl (D.1 14, 179, .inl fw))] sz) := by
  refine Met.ofW (cc := cX6_expectSign) (maxL := 2) (ret := none) (by decide) rfl ?_
  intro p e s m args below meth c s₁ B hml hv
  obtain ⟨rfl, hsz, hP, hK, hD0⟩ := hv
  have hx := B.exec
  have hb := B.bytes
  have hr := B.returns
  have hts := atoms_spec (ws := wz yX6_expectSign cX6_expectSign 2 none) B.pre
  have ht : ∀ w ∈ lw_gd, w.before _ s = true := fun w h => hts w (List.mem_cons_of_mem _ h)
  have hown : s.vm.findClass RX6 = some m.cls := findClass_of_methodNamed B.named
  have hlocks := B.notSynchronized
  subst hsz
  have hD := hD0.self (sz := s.heap.size)
  generalize hAe : va_A [(h0, .inr (6, [.int fa, .int pl, .ref h1, .ref h2, .ref h3, .int mo, .int (nI op), .int ki, .int (nI s0), .int (nI sp), .int wo, .int si])), (h1, .inr (9, [.ref h4, .int (nI n)])), (h4, .inl (D.1 13, 1600, .inl f)), (h2, .inl (D.1 14, 179, .inl fw))] s.heap.size = A at hD ⊢
  have hA : ∀ q : Nat, s.heap.size ≤ q → A q := fun q h => by rw [← hAe]; exact Or.inr h
  have hS : va_S A s.heap s.heap [] := va_S.rf
  have zi0 : (0 : Int32).toInt = 0 := rfl
  have zi1 : (1 : Int32).toInt = 1 := rfl
  have zi2 : (2 : Int32).toInt = 2 := rfl
  have zi3 : (3 : Int32).toInt = 3 := rfl
  have zi4 : (4 : Int32).toInt = 4 := rfl
  have hl := lv_entry ([.ref h0, .int p0]) (n := 2) (Nat.le_of_ble_eq_true rfl)
  rw [lg_entry_eq]
  generalize (lg_sl ([.ref h0, .int p0]) ++ List.replicate (2 - (lg_sl ([.ref h0, .int p0])).length) Slot.unset).toArray = ls at hl ⊢
  have hl : lv_has ls 2 [(0, .ref h0), (1, .int p0)] := hl
  refine lv_aload_n hx hb dX6_expectSign_0 rfl (lv_at hl 0 rfl) ?_
  refine lv_iload_n hx hb dX6_expectSign_1 rfl (lv_at hl 1 rfl) ?_
  refine zcV (As := [.int p0]) (rest := []) (C := RX6) (n := 1) ⟨hx, hb, hml, hown, ht⟩ (k_X6_isSign l D h0 h1 h2 h3 fa pl mo ki wo si op s0 sp p0) (zgV ml_X6_124 im_X6_isSign se_X6_isSign in_X6 co_X6_isSign) rfl rfl (by decide +kernel) ⟨Nat.le_of_ble_eq_true rfl, Nat.le_of_ble_eq_true rfl⟩ hK hP hS [0] rfl 0 rfl rfl rfl rfl hl.1 rfl (Nat.le_of_ble_eq_true rfl) dX6_expectSign_2 ⟨Nat.le_of_ble_eq_true rfl, Nat.le_of_ble_eq_true rfl⟩ (fun r_1 H locs hw hP hS => ?_)
  rcases hw with ⟨rfl, g_2⟩ | ⟨rfl, g_3⟩
  · skip
    refine lv_if_eq (tgt := 15) hx hb dX6_expectSign_5 (by decide) (fun c_4 => (z_abs c_4 (by decide)).elim) (fun _ => ?_)
    refine lv_aload_n hx hb dX6_expectSign_8 rfl (lv_at hl 0 rfl) ?_
    refine zwVv (As := []) (rest := []) (C := RX6) (n := 0) (wr := []) ⟨hx, hb, hml, hown, ht⟩ (k_X6_advance l D _ h0 h1 h2 h3 h4 fa pl mo ki wo si op s0 sp n f fw (by first | decide | omega) (by first | decide | omega) (by first | decide | omega) (by first | decide | omega)) (zgV ml_X6_75 im_X6_advance se_X6_advance in_X6 co_X6_advance) rfl rfl (by decide +kernel) ⟨Nat.le_of_ble_eq_true rfl, Nat.le_of_ble_eq_true rfl⟩ hK hP hD hS hA [0, 1, 2, 3] [] rfl rfl rfl rfl (by decide) 0 rfl rfl rfl rfl hl.1 rfl (Nat.le_of_ble_eq_true rfl) dX6_expectSign_9 ⟨Nat.le_of_ble_eq_true rfl, Nat.le_of_ble_eq_true rfl⟩ (fun u_6 H locs hw hP hD hS => ?_)
    obtain ⟨x_8, n_9, n_10, x_11, x_12⟩ := u_6
    have hP : va_P D vwCl [(h0, .inr (6, [.int fa, .int pl, .ref h1, .ref h2, .ref h3, .int mo, .int (nI (op)), .int x_8, .int (nI (n_9)), .int (nI (n_10)), .int x_11, .int x_12])), (h1, .inr (9, [.ref h4, .int (nI (n))])), (h4, .inl (D.1 13, 1600, .inl f)), (h2, .inl (D.1 14, 179, .inl fw))] H := hP
    have hD : va_D A [(h0, .inr (6, [.int fa, .int pl, .ref h1, .ref h2, .ref h3, .int mo, .int (nI (op)), .int x_8, .int (nI (n_9)), .int (nI (n_10)), .int x_11, .int x_12])), (h1, .inr (9, [.ref h4, .int (nI (n))])), (h4, .inl (D.1 13, 1600, .inl f)), (h2, .inl (D.1 14, 179, .inl fw))] := hD
    have hw_13 : n_9 ≤ n_10 ∧ n_10 ≤ n ∧ sp ≤ n_10 ∧ (x_8.toInt = 0 ∨ (sp < n_10 ∧ n_9 < n_10)) ∧ (¬ fa.toInt = 0 → x_8.toInt = 0) := hw
    refine lv_goto (tgt := 25) hx hb dX6_expectSign_12 (by decide) ?_
    have hP9 := hP.sub (ws' := [(h0, .inr (6, [.int fa, .int pl, .ref h1, .ref h2, .ref h3, .int mo, .int (nI op), .int x_8, .int (nI n_9), .int (nI n_10), .int x_11, .int x_12])), (h1, .inr (9, [.ref h4, .int (nI n)])), (h4, .inl (D.1 13, 1600, .inl f)), (h2, .inl (D.1 14, 179, .inl fw))]) [0, 1, 2, 3] rfl
    have hD9 := hD.sub (ws' := [(h0, .inr (6, [.int fa, .int pl, .ref h1, .ref h2, .ref h3, .int mo, .int (nI op), .int x_8, .int (nI n_9), .int (nI n_10), .int x_11, .int x_12])), (h1, .inr (9, [.ref h4, .int (nI n)])), (h4, .inl (D.1 13, 1600, .inl f)), (h2, .inl (D.1 14, 179, .inl fw))]) [0, 1, 2, 3] (by decide) rfl
    refine W.widen (k := 0) (n := 0) (Nat.le_of_ble_eq_true rfl) (Nat.le_of_ble_eq_true rfl) ?_
    exact W.vret hx hb hr (fun t ht hW => ⟨⟨(fa, pl, x_8, n_9, n_10, x_11, x_12), rfl, (by first | omega | (dsimp only; omega)), by rw [ht]; exact hP9, va_K.moved hW.alike hK, hD9⟩, hS.F ht⟩) hS.2.2 dX6_expectSign_25
  · skip
    refine lv_if_eq (tgt := 15) hx hb dX6_expectSign_5 (by decide) (fun _ => ?_) (fun c_14 => (z_abs c_14 (by decide)).elim)
    refine lv_aload_n hx hb dX6_expectSign_15 rfl (lv_at hl 0 rfl) ?_
    refine lv_iconst (v := 1) hx hb dX6_expectSign_16 (by decide) ?_
    refine lv_aload_n hx hb dX6_expectSign_17 rfl (lv_at hl 0 rfl) ?_
    refine va_get (D := D) (ci := 6) (v := .int (nI s0)) (C := RX6) (T := TX6) (N := 12) hx hb ht inX6 hown hK hP 0 rfl rfl 8 (by decide) (ht (.fieldLink RX6 51 "CloneVolumes$Reader" "start" "I") fl_X6_51) (fun _ h9 => h9) rfl dX6_expectSign_18 ?_
    have en_16 : (1 : Int32).toInt = 1 := by decide
    have en_17 : (nI s0).toInt = ((s0 : Nat) : Int) := nI_toInt (by omega)
    refine zwV (As := [.int 1, .int (nI s0)]) (rest := []) (C := RX6) (n := 2) (wr := [(h1, .inr (9, [.ref h4, .int (nI n)])), (h4, .inl (D.1 13, 1600, .inl f)), (h2, .inl (D.1 14, 179, .inl fw))]) ⟨hx, hb, hml, hown, ht⟩ (k_X6_fail l D _ h0 h1 h2 h3 fa pl mo ki wo si op s0 sp 1 (nI s0) (by first | decide | omega)) (zgV ml_X6_54 im_X6_fail se_X6_fail in_X6 co_X6_fail) rfl rfl (by decide +kernel) ⟨Nat.le_of_ble_eq_true rfl, Nat.le_of_ble_eq_true rfl⟩ hK hP hD hS hA [0] [1, 2, 3] rfl rfl rfl rfl (by decide) 0 rfl rfl rfl rfl hl.1 rfl (Nat.le_of_ble_eq_true rfl) dX6_expectSign_21 ⟨Nat.le_of_ble_eq_true rfl, Nat.le_of_ble_eq_true rfl⟩ (fun r_19 u_18 H locs hw hP hD hS => ?_)
    obtain ⟨x_20, x_21, x_22⟩ := u_18
    have hP : va_P D vwCl [(h1, .inr (9, [.ref h4, .int (nI n)])), (h4, .inl (D.1 13, 1600, .inl f)), (h2, .inl (D.1 14, 179, .inl fw)), (h0, .inr (6, [.int x_20, .int x_21, .ref h1, .ref h2, .ref h3, .int mo, .int (nI (op)), .int x_22, .int (nI (s0)), .int (nI (sp)), .int wo, .int si]))] H := hP
    have hD : va_D A [(h1, .inr (9, [.ref h4, .int (nI n)])), (h4, .inl (D.1 13, 1600, .inl f)), (h2, .inl (D.1 14, 179, .inl fw)), (h0, .inr (6, [.int x_20, .int x_21, .ref h1, .ref h2, .ref h3, .int mo, .int (nI (op)), .int x_22, .int (nI (s0)), .int (nI (sp)), .int wo, .int si]))] := hD
    obtain ⟨hrr, hw⟩ := hw
    subst hrr
    have hw_23 : (¬ x_20.toInt = 0 → x_22.toInt = 0) ∧ (¬ (1 : Int32).toInt = 0 → ¬ x_20.toInt = 0) := hw
    refine lv_pop hx hb dX6_expectSign_24 rfl ?_
    have hP9 := hP.sub (ws' := [(h0, .inr (6, [.int x_20, .int x_21, .ref h1, .ref h2, .ref h3, .int mo, .int (nI op), .int x_22, .int (nI s0), .int (nI sp), .int wo, .int si])), (h1, .inr (9, [.ref h4, .int (nI n)])), (h4, .inl (D.1 13, 1600, .inl f)), (h2, .inl (D.1 14, 179, .inl fw))]) [3, 0, 1, 2] rfl
    have hD9 := hD.sub (ws' := [(h0, .inr (6, [.int x_20, .int x_21, .ref h1, .ref h2, .ref h3, .int mo, .int (nI op), .int x_22, .int (nI s0), .int (nI sp), .int wo, .int si])), (h1, .inr (9, [.ref h4, .int (nI n)])), (h4, .inl (D.1 13, 1600, .inl f)), (h2, .inl (D.1 14, 179, .inl fw))]) [3, 0, 1, 2] (by decide) rfl
    refine W.widen (k := 0) (n := 0) (Nat.le_of_ble_eq_true rfl) (Nat.le_of_ble_eq_true rfl) ?_
    exact W.vret hx hb hr (fun t ht hW => ⟨⟨(x_20, x_21, x_22, s0, sp, wo, si), rfl, (by first | omega | (dsimp only; omega)), by rw [ht]; exact hP9, va_K.moved hW.alike hK, hD9⟩, hS.F ht⟩) hS.2.2 dX6_expectSign_25
set_option maxHeartbeats 4000000 in
set_option maxRecDepth 100000 in
theorem k_X6_opens (l : Launch) (D : va_G) (sz : Nat) (h0 h1 h2 h3 h4 : Nat) (fa pl mo ki wo si : Int32) (op s0 sp n : Nat) (f fw : Nat → Int32) (h_1 : s0 ≤ sp) (h_2 : sp ≤ n) (h_3 : n ≤ 1600) (h_4 : ¬ fa.toInt = 0 → ki.toInt = 0) (h_5 : op ≤ 6) : Met l yX6_opens (wz yX6_opens cX6_opens 1 (some .boolean)) { frames := 1, cells := 0, slots := 0, locals := 60 } (va_Pc [.ref h0] (zW D sz [(h0, .inr (6, [.int fa, .int pl, .ref h1, .ref h2, .ref h3, .int mo, .int (nI op), .int ki, .int (nI s0), .int (nI sp), .int wo, .int si])), (h1, .inr (9, [.ref h4, .int (nI n)])), (h4, .inl (D.1 13, 1600, .inl f)), (h2, .inl (D.1 14, 179, .inl fw))])) (va_Qi (fun r (u : ((Int32) × (Int32) × (Int32) × (Nat))) => (r = 1 ∧ ((u.2.2.2 = op + 1 ∧ op < 6) ∧ (u.2.2.2 ≤ 6 ∧ (¬ u.1.toInt = 0 → u.2.2.1.toInt = 0)))) ∨ (r = 0 ∧ ((u.2.2.2 = op ∧ ¬ u.1.toInt = 0) ∧ (u.2.2.2 ≤ 6 ∧ (¬ u.1.toInt = 0 → u.2.2.1.toInt = 0))))) (fun u t => zB D (va_A [(h0, .inr (6, [.int fa, .int pl, .ref h1, .ref h2, .ref h3, .int mo, .int (nI op), .int ki, .int (nI s0), .int (nI sp), .int wo, .int si])), (h1, .inr (9, [.ref h4, .int (nI n)])), (h4, .inl (D.1 13, 1600, .inl f)), (h2, .inl (D.1 14, 179, .inl fw))] sz) ((fun (u : ((Int32) × (Int32) × (Int32) × (Nat))) => [(h0, .inr (6, [.int u.1, .int u.2.1, .ref h1, .ref h2, .ref h3, .int mo, .int (nI u.2.2.2), .int u.2.2.1, .int (nI s0), .int (nI sp), .int wo, .int si])), (h1, .inr (9, [.ref h4, .int (nI n)])), (h4, .inl (D.1 13, 1600, .inl f)), (h2, .inl (D.1 14, 179, .inl fw))]) u) t) (va_A [(h0, .inr (6, [.int fa, .int pl, .ref h1, .ref h2, .ref h3, .int mo, .int (nI op), .int ki, .int (nI s0), .int (nI sp), .int wo, .int si])), (h1, .inr (9, [.ref h4, .int (nI n)])), (h4, .inl (D.1 13, 1600, .inl f)), (h2, .inl (D.1 14, 179, .inl fw))] sz)) 0 0 (va_A [(h0, .inr (6, [.int fa, .int pl, .ref h1, .ref h2, .ref h3, .int mo, .int (nI op), .int ki, .int (nI s0), .int (nI sp), .int wo, .int si])), (h1, .inr (9, [.ref h4, .int (nI n)])), (h4, .inl (D.1 13, 1600, .inl f)), (h2, .inl (D.1 14, 179, .inl fw))] sz) := by
  refine Met.ofW (cc := cX6_opens) (maxL := 1) (ret := (some .boolean)) (by decide) rfl ?_
  intro p e s m args below meth c s₁ B hml hv
  obtain ⟨rfl, hsz, hP, hK, hD0⟩ := hv
  have hx := B.exec
  have hb := B.bytes
  have hr := B.returns
  have hts := atoms_spec (ws := wz yX6_opens cX6_opens 1 (some .boolean)) B.pre
  have ht : ∀ w ∈ lw_gd, w.before _ s = true := fun w h => hts w (List.mem_cons_of_mem _ h)
  have hown : s.vm.findClass RX6 = some m.cls := findClass_of_methodNamed B.named
  have hlocks := B.notSynchronized
  subst hsz
  have hD := hD0.self (sz := s.heap.size)
  generalize hAe : va_A [(h0, .inr (6, [.int fa, .int pl, .ref h1, .ref h2, .ref h3, .int mo, .int (nI op), .int ki, .int (nI s0), .int (nI sp), .int wo, .int si])), (h1, .inr (9, [.ref h4, .int (nI n)])), (h4, .inl (D.1 13, 1600, .inl f)), (h2, .inl (D.1 14, 179, .inl fw))] s.heap.size = A at hD ⊢
  have hA : ∀ q : Nat, s.heap.size ≤ q → A q := fun q h => by rw [← hAe]; exact Or.inr h
  have hS : va_S A s.heap s.heap [] := va_S.rf
  have zi0 : (0 : Int32).toInt = 0 := rfl
  have zi1 : (1 : Int32).toInt = 1 := rfl
  have zi2 : (2 : Int32).toInt = 2 := rfl
  have zi3 : (3 : Int32).toInt = 3 := rfl
  have zi4 : (4 : Int32).toInt = 4 := rfl
  have hl := lv_entry ([.ref h0]) (n := 1) (Nat.le_of_ble_eq_true rfl)
  rw [lg_entry_eq]
  generalize (lg_sl ([.ref h0]) ++ List.replicate (1 - (lg_sl ([.ref h0])).length) Slot.unset).toArray = ls at hl ⊢
  have hl : lv_has ls 1 [(0, .ref h0)] := hl
  refine lv_aload_n hx hb dX6_opens_0 rfl (lv_at hl 0 rfl) ?_
  refine va_get (D := D) (ci := 6) (v := .int (nI op)) (C := RX6) (T := TX6) (N := 12) hx hb ht inX6 hown hK hP 0 rfl rfl 6 (by decide) (ht (.fieldLink RX6 85 "CloneVolumes$Reader" "open" "I") fl_X6_85) (fun _ h9 => h9) rfl dX6_opens_1 ?_
  refine lv_bipush (v := 6) hx hb dX6_opens_4 (by decide) ?_
  refine lv_icmp_lt (tgt := 19) hx hb dX6_opens_6 (by decide) (fun c_1 => ?_) (fun c_1 => ?_)
  · have g_2 : ((op : Nat) : Int) < 6 := z_lt (nI_toInt (by omega)) (by decide) c_1
    refine lv_aload_n hx hb dX6_opens_19 rfl (lv_at hl 0 rfl) ?_
    refine lv_dup hx hb dX6_opens_20 rfl ?_
    refine va_get (D := D) (ci := 6) (v := .int (nI op)) (C := RX6) (T := TX6) (N := 12) hx hb ht inX6 hown hK hP 0 rfl rfl 6 (by decide) (ht (.fieldLink RX6 85 "CloneVolumes$Reader" "open" "I") fl_X6_85) (fun _ h9 => h9) rfl dX6_opens_21 ?_
    refine lv_iconst (v := 1) hx hb dX6_opens_24 (by decide) ?_
    refine lv_iadd hx hb dX6_opens_25 ?_
    refine z_topi (y := nI (op + 1)) (z_nadd op 1) ?_
    refine va_put (D := D) (ci := 6) (v := .int (nI (op + 1))) (ty := .int) (C := RX6) (T := TX6) (N := 12) hx hb ht inX6 tyX6 tyX6_ok nmX6 hown hK hP hD hS 0 rfl rfl 6 (by decide) (ht (.fieldLink RX6 85 "CloneVolumes$Reader" "open" "I") fl_X6_85) (fun _ h9 => h9) rfl (by decide +kernel) rfl rfl (Nat.le_of_ble_eq_true rfl) dX6_opens_26 (fun H locs hP hD hS => ?_)
    have hP : va_P D vwCl [(h0, .inr (6, [.int fa, .int pl, .ref h1, .ref h2, .ref h3, .int mo, .int (nI (op + 1)), .int ki, .int (nI s0), .int (nI sp), .int wo, .int si])), (h1, .inr (9, [.ref h4, .int (nI n)])), (h4, .inl (D.1 13, 1600, .inl f)), (h2, .inl (D.1 14, 179, .inl fw))] H := hP
    have hD : va_D A [(h0, .inr (6, [.int fa, .int pl, .ref h1, .ref h2, .ref h3, .int mo, .int (nI (op + 1)), .int ki, .int (nI s0), .int (nI sp), .int wo, .int si])), (h1, .inr (9, [.ref h4, .int (nI n)])), (h4, .inl (D.1 13, 1600, .inl f)), (h2, .inl (D.1 14, 179, .inl fw))] := hD
    refine lv_iconst (v := 1) hx hb dX6_opens_29 (by decide) ?_
    have hP9 := hP.sub (ws' := [(h0, .inr (6, [.int fa, .int pl, .ref h1, .ref h2, .ref h3, .int mo, .int (nI (op + 1)), .int ki, .int (nI s0), .int (nI sp), .int wo, .int si])), (h1, .inr (9, [.ref h4, .int (nI n)])), (h4, .inl (D.1 13, 1600, .inl f)), (h2, .inl (D.1 14, 179, .inl fw))]) [0, 1, 2, 3] rfl
    have hD9 := hD.sub (ws' := [(h0, .inr (6, [.int fa, .int pl, .ref h1, .ref h2, .ref h3, .int mo, .int (nI (op + 1)), .int ki, .int (nI s0), .int (nI sp), .int wo, .int si])), (h1, .inr (9, [.ref h4, .int (nI n)])), (h4, .inl (D.1 13, 1600, .inl f)), (h2, .inl (D.1 14, 179, .inl fw))]) [0, 1, 2, 3] (by decide) rfl
    refine W.widen (k := 0) (n := 0) (Nat.le_of_ble_eq_true rfl) (Nat.le_of_ble_eq_true rfl) ?_
    have enr : (1 : Int32).toInt = 1 := by decide
    exact W.zret (v := 1) hx hb hr (by decide) (fun t ht hW => ⟨⟨1, (fa, pl, ki, (op + 1)), rfl, (Or.inl ⟨rfl, by first | omega | (dsimp only; omega)⟩), by rw [ht]; exact hP9, va_K.moved hW.alike hK, hD9⟩, hS.F ht⟩) hS.2.2 dX6_opens_30
  · have g_2 : 6 ≤ ((op : Nat) : Int) := z_nlt (nI_toInt (by omega)) (by decide) c_1
    refine lv_aload_n hx hb dX6_opens_9 rfl (lv_at hl 0 rfl) ?_
    refine lv_iconst (v := 4) hx hb dX6_opens_10 (by decide) ?_
    refine lv_aload_n hx hb dX6_opens_11 rfl (lv_at hl 0 rfl) ?_
    refine va_get (D := D) (ci := 6) (v := .int (nI s0)) (C := RX6) (T := TX6) (N := 12) hx hb ht inX6 hown hK hP 0 rfl rfl 8 (by decide) (ht (.fieldLink RX6 51 "CloneVolumes$Reader" "start" "I") fl_X6_51) (fun _ h9 => h9) rfl dX6_opens_12 ?_
    have en_3 : (4 : Int32).toInt = 4 := by decide
    have en_4 : (nI s0).toInt = ((s0 : Nat) : Int) := nI_toInt (by omega)
    refine zwV (As := [.int 4, .int (nI s0)]) (rest := []) (C := RX6) (n := 2) (wr := [(h1, .inr (9, [.ref h4, .int (nI n)])), (h4, .inl (D.1 13, 1600, .inl f)), (h2, .inl (D.1 14, 179, .inl fw))]) ⟨hx, hb, hml, hown, ht⟩ (k_X6_fail l D _ h0 h1 h2 h3 fa pl mo ki wo si op s0 sp 4 (nI s0) (by first | decide | omega)) (zgV ml_X6_54 im_X6_fail se_X6_fail in_X6 co_X6_fail) rfl rfl (by decide +kernel) ⟨Nat.le_of_ble_eq_true rfl, Nat.le_of_ble_eq_true rfl⟩ hK hP hD hS hA [0] [1, 2, 3] rfl rfl rfl rfl (by decide) 0 rfl rfl rfl rfl hl.1 rfl (Nat.le_of_ble_eq_true rfl) dX6_opens_15 ⟨Nat.le_of_ble_eq_true rfl, Nat.le_of_ble_eq_true rfl⟩ (fun r_6 u_5 H locs hw hP hD hS => ?_)
    obtain ⟨x_7, x_8, x_9⟩ := u_5
    have hP : va_P D vwCl [(h1, .inr (9, [.ref h4, .int (nI n)])), (h4, .inl (D.1 13, 1600, .inl f)), (h2, .inl (D.1 14, 179, .inl fw)), (h0, .inr (6, [.int x_7, .int x_8, .ref h1, .ref h2, .ref h3, .int mo, .int (nI (op)), .int x_9, .int (nI (s0)), .int (nI (sp)), .int wo, .int si]))] H := hP
    have hD : va_D A [(h1, .inr (9, [.ref h4, .int (nI n)])), (h4, .inl (D.1 13, 1600, .inl f)), (h2, .inl (D.1 14, 179, .inl fw)), (h0, .inr (6, [.int x_7, .int x_8, .ref h1, .ref h2, .ref h3, .int mo, .int (nI (op)), .int x_9, .int (nI (s0)), .int (nI (sp)), .int wo, .int si]))] := hD
    obtain ⟨hrr, hw⟩ := hw
    subst hrr
    have hw_10 : (¬ x_7.toInt = 0 → x_9.toInt = 0) ∧ (¬ (4 : Int32).toInt = 0 → ¬ x_7.toInt = 0) := hw
    have hP9 := hP.sub (ws' := [(h0, .inr (6, [.int x_7, .int x_8, .ref h1, .ref h2, .ref h3, .int mo, .int (nI op), .int x_9, .int (nI s0), .int (nI sp), .int wo, .int si])), (h1, .inr (9, [.ref h4, .int (nI n)])), (h4, .inl (D.1 13, 1600, .inl f)), (h2, .inl (D.1 14, 179, .inl fw))]) [3, 0, 1, 2] rfl
    have hD9 := hD.sub (ws' := [(h0, .inr (6, [.int x_7, .int x_8, .ref h1, .ref h2, .ref h3, .int mo, .int (nI op), .int x_9, .int (nI s0), .int (nI sp), .int wo, .int si])), (h1, .inr (9, [.ref h4, .int (nI n)])), (h4, .inl (D.1 13, 1600, .inl f)), (h2, .inl (D.1 14, 179, .inl fw))]) [3, 0, 1, 2] (by decide) rfl
    refine W.widen (k := 0) (n := 0) (Nat.le_of_ble_eq_true rfl) (Nat.le_of_ble_eq_true rfl) ?_
    have enr : (0 : Int32).toInt = 0 := by decide
    exact W.zret (v := 0) hx hb hr (by decide) (fun t ht hW => ⟨⟨0, (x_7, x_8, x_9, op), rfl, (Or.inr (⟨rfl, by first | omega | (dsimp only; omega)⟩)), by rw [ht]; exact hP9, va_K.moved hW.alike hK, hD9⟩, hS.F ht⟩) hS.2.2 dX6_opens_18
