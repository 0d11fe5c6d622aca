theorem fl_X6_51 : Cond.fieldLink RX6 51 "CloneVolumes$Reader" "start" "I" ∈ lw_gd := zm (List.mem_of_getElem? (i := 308) (by decide +kernel)) rfl
theorem fl_X6_23 : Cond.fieldLink RX6 23 "CloneVolumes$Reader" "words" "[C" ∈ lw_gd := zm (List.mem_of_getElem? (i := 303) (by decide +kernel)) rfl
theorem fl_X6_88 : Cond.fieldLink RX6 88 "CloneVolumes$Reader" "stop" "I" ∈ lw_gd := zm (List.mem_of_getElem? (i := 309) (by decide +kernel)) rfl
theorem fl_X6_27 : Cond.fieldLink RX6 27 "CloneVolumes$Reader" "tape" "LCloneVolumes$Tape;" ∈ lw_gd := zm (List.mem_of_getElem? (i := 302) (by decide +kernel)) rfl
theorem fl_X6_96 : Cond.fieldLink RX6 96 "CloneVolumes$Tape" "bytes" "[I" ∈ lw_gd := zm (List.mem_of_getElem? (i := 233) (by decide +kernel)) rfl
theorem dX6_isBlank_0 : decode cX6_isBlank 0 = .ok (.iload_n 0, 1) := by decide +kernel
theorem dX6_isBlank_1 : decode cX6_isBlank 1 = .ok (.bipush 10, 2) := by decide +kernel
theorem dX6_isBlank_3 : decode cX6_isBlank 3 = .ok (.if_icmp .eq 9, 3) := by decide +kernel
theorem dX6_isBlank_6 : decode cX6_isBlank 6 = .ok (.iload_n 0, 1) := by decide +kernel
theorem dX6_isBlank_7 : decode cX6_isBlank 7 = .ok (.bipush 32, 2) := by decide +kernel
theorem dX6_isBlank_9 : decode cX6_isBlank 9 = .ok (.if_icmp .ne 7, 3) := by decide +kernel
theorem dX6_isBlank_12 : decode cX6_isBlank 12 = .ok (.iconst 1, 1) := by decide +kernel
theorem dX6_isBlank_13 : decode cX6_isBlank 13 = .ok (.goto 4, 3) := by decide +kernel
theorem dX6_isBlank_16 : decode cX6_isBlank 16 = .ok (.iconst 0, 1) := by decide +kernel
theorem dX6_isBlank_17 : decode cX6_isBlank 17 = .ok (.ireturn, 1) := by decide +kernel
theorem dX6_isDigit_0 : decode cX6_isDigit 0 = .ok (.iload_n 0, 1) := by decide +kernel
theorem dX6_isDigit_1 : decode cX6_isDigit 1 = .ok (.bipush 48, 2) := by decide +kernel
theorem dX6_isDigit_3 : decode cX6_isDigit 3 = .ok (.if_icmp .lt 13, 3) := by decide +kernel
theorem dX6_isDigit_6 : decode cX6_isDigit 6 = .ok (.iload_n 0, 1) := by decide +kernel
theorem dX6_isDigit_7 : decode cX6_isDigit 7 = .ok (.bipush 57, 2) := by decide +kernel
theorem dX6_isDigit_9 : decode cX6_isDigit 9 = .ok (.if_icmp .gt 7, 3) := by decide +kernel
theorem dX6_isDigit_12 : decode cX6_isDigit 12 = .ok (.iconst 1, 1) := by decide +kernel
theorem dX6_isDigit_13 : decode cX6_isDigit 13 = .ok (.goto 4, 3) := by decide +kernel
theorem dX6_isDigit_16 : decode cX6_isDigit 16 = .ok (.iconst 0, 1) := by decide +kernel
theorem dX6_isDigit_17 : decode cX6_isDigit 17 = .ok (.ireturn, 1) := by decide +kernel
theorem dX6_isLetter_0 : decode cX6_isLetter 0 = .ok (.iload_n 0, 1) := by decide +kernel
theorem dX6_isLetter_1 : decode cX6_isLetter 1 = .ok (.bipush 97, 2) := by decide +kernel
theorem dX6_isLetter_3 : decode cX6_isLetter 3 = .ok (.if_icmp .lt 13, 3) := by decide +kernel
theorem dX6_isLetter_6 : decode cX6_isLetter 6 = .ok (.iload_n 0, 1) := by decide +kernel
theorem dX6_isLetter_7 : decode cX6_isLetter 7 = .ok (.bipush 122, 2) := by decide +kernel
theorem dX6_isLetter_9 : decode cX6_isLetter 9 = .ok (.if_icmp .gt 7, 3) := by decide +kernel
theorem dX6_isLetter_12 : decode cX6_isLetter 12 = .ok (.iconst 1, 1) := by decide +kernel
theorem dX6_isLetter_13 : decode cX6_isLetter 13 = .ok (.goto 4, 3) := by decide +kernel
theorem dX6_isLetter_16 : decode cX6_isLetter 16 = .ok (.iconst 0, 1) := by decide +kernel
theorem dX6_isLetter_17 : decode cX6_isLetter 17 = .ok (.ireturn, 1) := by decide +kernel
theorem dX6_wordNumber_0 : decode cX6_wordNumber 0 = .ok (.iconst 0, 1) := by decide +kernel
theorem dX6_wordNumber_1 : decode cX6_wordNumber 1 = .ok (.istore_n 1, 1) := by decide +kernel
theorem dX6_wordNumber_2 : decode cX6_wordNumber 2 = .ok (.aload_n 0, 1) := by decide +kernel
theorem dX6_wordNumber_3 : decode cX6_wordNumber 3 = .ok (.getfield 51, 3) := by decide +kernel
theorem dX6_wordNumber_6 : decode cX6_wordNumber 6 = .ok (.istore_n 2, 1) := by decide +kernel
theorem dX6_wordNumber_7 : decode cX6_wordNumber 7 = .ok (.iconst 1, 1) := by decide +kernel
theorem dX6_wordNumber_8 : decode cX6_wordNumber 8 = .ok (.istore_n 3, 1) := by decide +kernel
theorem dX6_wordNumber_9 : decode cX6_wordNumber 9 = .ok (.iconst 0, 1) := by decide +kernel
theorem dX6_wordNumber_10 : decode cX6_wordNumber 10 = .ok (.istore 4, 2) := by decide +kernel
theorem dX6_wordNumber_12 : decode cX6_wordNumber 12 = .ok (.iload 4, 2) := by decide +kernel
theorem dX6_wordNumber_14 : decode cX6_wordNumber 14 = .ok (.aload_n 0, 1) := by decide +kernel
theorem dX6_wordNumber_15 : decode cX6_wordNumber 15 = .ok (.getfield 23, 3) := by decide +kernel
theorem dX6_wordNumber_18 : decode cX6_wordNumber 18 = .ok (.arraylength, 1) := by decide +kernel
theorem dX6_wordNumber_19 : decode cX6_wordNumber 19 = .ok (.if_icmp .ge 88, 3) := by decide +kernel
theorem dX6_wordNumber_22 : decode cX6_wordNumber 22 = .ok (.aload_n 0, 1) := by decide +kernel
theorem dX6_wordNumber_23 : decode cX6_wordNumber 23 = .ok (.getfield 23, 3) := by decide +kernel
theorem dX6_wordNumber_26 : decode cX6_wordNumber 26 = .ok (.iload 4, 2) := by decide +kernel
theorem dX6_wordNumber_28 : decode cX6_wordNumber 28 = .ok (.caload, 1) := by decide +kernel
theorem dX6_wordNumber_29 : decode cX6_wordNumber 29 = .ok (.bipush 32, 2) := by decide +kernel
theorem dX6_wordNumber_31 : decode cX6_wordNumber 31 = .ok (.if_icmp .eq 46, 3) := by decide +kernel
theorem dX6_wordNumber_34 : decode cX6_wordNumber 34 = .ok (.iload_n 3, 1) := by decide +kernel
theorem dX6_wordNumber_35 : decode cX6_wordNumber 35 = .ok (.ifCond .eq 34, 3) := by decide +kernel
theorem dX6_wordNumber_38 : decode cX6_wordNumber 38 = .ok (.iload_n 2, 1) := by decide +kernel
theorem dX6_wordNumber_39 : decode cX6_wordNumber 39 = .ok (.aload_n 0, 1) := by decide +kernel
theorem dX6_wordNumber_40 : decode cX6_wordNumber 40 = .ok (.getfield 88, 3) := by decide +kernel
theorem dX6_wordNumber_43 : decode cX6_wordNumber 43 = .ok (.if_icmp .ge 26, 3) := by decide +kernel
theorem dX6_wordNumber_46 : decode cX6_wordNumber 46 = .ok (.aload_n 0, 1) := by decide +kernel
theorem dX6_wordNumber_47 : decode cX6_wordNumber 47 = .ok (.getfield 27, 3) := by decide +kernel
theorem dX6_wordNumber_50 : decode cX6_wordNumber 50 = .ok (.getfield 96, 3) := by decide +kernel
theorem dX6_wordNumber_53 : decode cX6_wordNumber 53 = .ok (.iload_n 2, 1) := by decide +kernel
theorem dX6_wordNumber_54 : decode cX6_wordNumber 54 = .ok (.iaload, 1) := by decide +kernel
theorem dX6_wordNumber_55 : decode cX6_wordNumber 55 = .ok (.aload_n 0, 1) := by decide +kernel
theorem dX6_wordNumber_56 : decode cX6_wordNumber 56 = .ok (.getfield 23, 3) := by decide +kernel
theorem dX6_wordNumber_59 : decode cX6_wordNumber 59 = .ok (.iload 4, 2) := by decide +kernel
theorem dX6_wordNumber_61 : decode cX6_wordNumber 61 = .ok (.caload, 1) := by decide +kernel
theorem dX6_wordNumber_62 : decode cX6_wordNumber 62 = .ok (.if_icmp .ne 7, 3) := by decide +kernel
theorem dX6_wordNumber_65 : decode cX6_wordNumber 65 = .ok (.iconst 1, 1) := by decide +kernel
theorem dX6_wordNumber_66 : decode cX6_wordNumber 66 = .ok (.goto 4, 3) := by decide +kernel
theorem dX6_wordNumber_69 : decode cX6_wordNumber 69 = .ok (.iconst 0, 1) := by decide +kernel
theorem dX6_wordNumber_70 : decode cX6_wordNumber 70 = .ok (.istore_n 3, 1) := by decide +kernel
theorem dX6_wordNumber_71 : decode cX6_wordNumber 71 = .ok (.iinc 2 1, 3) := by decide +kernel
theorem dX6_wordNumber_74 : decode cX6_wordNumber 74 = .ok (.goto 27, 3) := by decide +kernel
theorem dX6_wordNumber_77 : decode cX6_wordNumber 77 = .ok (.iload_n 3, 1) := by decide +kernel
theorem dX6_wordNumber_78 : decode cX6_wordNumber 78 = .ok (.ifCond .eq 13, 3) := by decide +kernel
theorem dX6_wordNumber_81 : decode cX6_wordNumber 81 = .ok (.iload_n 2, 1) := by decide +kernel
theorem dX6_wordNumber_82 : decode cX6_wordNumber 82 = .ok (.aload_n 0, 1) := by decide +kernel
theorem dX6_wordNumber_83 : decode cX6_wordNumber 83 = .ok (.getfield 88, 3) := by decide +kernel
theorem dX6_wordNumber_86 : decode cX6_wordNumber 86 = .ok (.if_icmp .ne 5, 3) := by decide +kernel
theorem dX6_wordNumber_89 : decode cX6_wordNumber 89 = .ok (.iload_n 1, 1) := by decide +kernel
theorem dX6_wordNumber_90 : decode cX6_wordNumber 90 = .ok (.ireturn, 1) := by decide +kernel
theorem dX6_wordNumber_91 : decode cX6_wordNumber 91 = .ok (.iinc 1 1, 3) := by decide +kernel
theorem dX6_wordNumber_94 : decode cX6_wordNumber 94 = .ok (.aload_n 0, 1) := by decide +kernel
theorem dX6_wordNumber_95 : decode cX6_wordNumber 95 = .ok (.getfield 51, 3) := by decide +kernel
theorem dX6_wordNumber_98 : decode cX6_wordNumber 98 = .ok (.istore_n 2, 1) := by decide +kernel
theorem dX6_wordNumber_99 : decode cX6_wordNumber 99 = .ok (.iconst 1, 1) := by decide +kernel
theorem dX6_wordNumber_100 : decode cX6_wordNumber 100 = .ok (.istore_n 3, 1) := by decide +kernel
theorem dX6_wordNumber_101 : decode cX6_wordNumber 101 = .ok (.iinc 4 1, 3) := by decide +kernel
theorem dX6_wordNumber_104 : decode cX6_wordNumber 104 = .ok (.goto (-92), 3) := by decide +kernel
theorem dX6_wordNumber_107 : decode cX6_wordNumber 107 = .ok (.iload_n 3, 1) := by decide +kernel
theorem dX6_wordNumber_108 : decode cX6_wordNumber 108 = .ok (.ifCond .eq 15, 3) := by decide +kernel
theorem dX6_wordNumber_111 : decode cX6_wordNumber 111 = .ok (.iload_n 2, 1) := by decide +kernel
theorem dX6_wordNumber_112 : decode cX6_wordNumber 112 = .ok (.aload_n 0, 1) := by decide +kernel
theorem dX6_wordNumber_113 : decode cX6_wordNumber 113 = .ok (.getfield 88, 3) := by decide +kernel
theorem dX6_wordNumber_116 : decode cX6_wordNumber 116 = .ok (.if_icmp .ne 7, 3) := by decide +kernel
theorem dX6_wordNumber_119 : decode cX6_wordNumber 119 = .ok (.iload_n 1, 1) := by decide +kernel
theorem dX6_wordNumber_120 : decode cX6_wordNumber 120 = .ok (.goto 4, 3) := by decide +kernel
theorem dX6_wordNumber_123 : decode cX6_wordNumber 123 = .ok (.iconst (-1), 1) := by decide +kernel
theorem dX6_wordNumber_124 : decode cX6_wordNumber 124 = .ok (.ireturn, 1) := by decide +kernel
set_option maxHeartbeats 4000000 in
set_option maxRecDepth 100000 in
theorem k_X6_isBlank (l : Launch) (D : va_G) (p0 : Int32) : Met l yX6_isBlank (wz yX6_isBlank cX6_isBlank 1 (some .boolean)) { frames := 0, cells := 0, slots := 0, locals := 0 } (va_Pc [.int p0] (zP D [])) (va_Qi (fun r (_ : Unit) => (r = 1 ∧ (p0.toInt = 10 ∨ p0.toInt = 32)) ∨ (r = 0 ∧ ¬ (p0.toInt = 10 ∨ p0.toInt = 32))) (fun _ _ => True) (fun _ => False)) 0 0 (fun _ => False) := by
  refine Met.ofW (cc := cX6_isBlank) (maxL := 1) (ret := (some .boolean)) (by decide) rfl ?_
  intro p e s m args below meth c s₁ B hml hv
  obtain ⟨rfl, hP, hK⟩ := hv
  have hx := B.exec
  have hb := B.bytes
  have hr := B.returns
  have hts := atoms_spec (ws := wz yX6_isBlank cX6_isBlank 1 (some .boolean)) B.pre
  have ht : ∀ w ∈ lw_gd, w.before _ s = true := fun w h => hts w (List.mem_cons_of_mem _ h)
  have hown : s.vm.findClass RX6 = some m.cls := findClass_of_methodNamed B.named
  have hlocks := B.notSynchronized
  have hS : va_S (fun _ => False) s.heap s.heap [] := va_S.rf
  have hl := lv_entry ([.int p0]) (n := 1) (Nat.le_of_ble_eq_true rfl)
  rw [lg_entry_eq]
  generalize (lg_sl ([.int p0]) ++ List.replicate (1 - (lg_sl ([.int p0])).length) Slot.unset).toArray = ls at hl ⊢
  have hl : lv_has ls 1 [(0, .int p0)] := hl
  refine lv_iload_n hx hb dX6_isBlank_0 rfl (lv_at hl 0 rfl) ?_
  refine lv_bipush (v := 10) hx hb dX6_isBlank_1 (by decide) ?_
  refine lv_icmp_eq (tgt := 12) hx hb dX6_isBlank_3 (by decide) (fun c_1 => ?_) (fun c_1 => ?_)
  · have g_2 : p0.toInt = 10 := z_eq rfl (by decide) c_1
    refine lv_iconst (v := 1) hx hb dX6_isBlank_12 (by decide) ?_
    refine lv_goto (tgt := 17) hx hb dX6_isBlank_13 (by decide) ?_
    exact W.zret (v := 1) hx hb hr (by decide) (fun t ht hW => ⟨⟨1, (), rfl, Or.inl ⟨rfl, by omega⟩, trivial⟩, hS.F ht⟩) hS.2.2 dX6_isBlank_17
  · have g_2 : ¬ p0.toInt = 10 := z_ne rfl (by decide) c_1
    refine lv_iload_n hx hb dX6_isBlank_6 rfl (lv_at hl 0 rfl) ?_
    refine lv_bipush (v := 32) hx hb dX6_isBlank_7 (by decide) ?_
    refine lv_icmp_ne (tgt := 16) hx hb dX6_isBlank_9 (by decide) (fun c_3 => ?_) (fun c_3 => ?_)
    · have g_4 : ¬ p0.toInt = 32 := z_ne rfl (by decide) c_3
      refine lv_iconst (v := 0) hx hb dX6_isBlank_16 (by decide) ?_
      exact W.zret (v := 0) hx hb hr (by decide) (fun t ht hW => ⟨⟨0, (), rfl, Or.inr ⟨rfl, by omega⟩, trivial⟩, hS.F ht⟩) hS.2.2 dX6_isBlank_17
    · have g_4 : p0.toInt = 32 := z_eq rfl (by decide) c_3
      refine lv_iconst (v := 1) hx hb dX6_isBlank_12 (by decide) ?_
      refine lv_goto (tgt := 17) hx hb dX6_isBlank_13 (by decide) ?_
      exact W.zret (v := 1) hx hb hr (by decide) (fun t ht hW => ⟨⟨1, (), rfl, Or.inl ⟨rfl, by omega⟩, trivial⟩, hS.F ht⟩) hS.2.2 dX6_isBlank_17
set_option maxHeartbeats 4000000 in
set_option maxRecDepth 100000 in
theorem k_X6_isLetter (l : Launch) (D : va_G) (p0 : Int32) : Met l yX6_isLetter (wz yX6_isLetter cX6_isLetter 1 (some .boolean)) { frames := 0, cells := 0, slots := 0, locals := 0 } (va_Pc [.int p0] (zP D [])) (va_Qi (fun r (_ : Unit) => (r = 1 ∧ (97 ≤ p0.toInt ∧ p0.toInt ≤ 122)) ∨ (r = 0 ∧ ¬ (97 ≤ p0.toInt ∧ p0.toInt ≤ 122))) (fun _ _ => True) (fun _ => False)) 0 0 (fun _ => False) := by
  refine Met.ofW (cc := cX6_isLetter) (maxL := 1) (ret := (some .boolean)) (by decide) rfl ?_
  intro p e s m args below meth c s₁ B hml hv
  obtain ⟨rfl, hP, hK⟩ := hv
  have hx := B.exec
  have hb := B.bytes
  have hr := B.returns
  have hts := atoms_spec (ws := wz yX6_isLetter cX6_isLetter 1 (some .boolean)) B.pre
  have ht : ∀ w ∈ lw_gd, w.before _ s = true := fun w h => hts w (List.mem_cons_of_mem _ h)
  have hown : s.vm.findClass RX6 = some m.cls := findClass_of_methodNamed B.named
  have hlocks := B.notSynchronized
  have hS : va_S (fun _ => False) s.heap s.heap [] := va_S.rf
  have hl := lv_entry ([.int p0]) (n := 1) (Nat.le_of_ble_eq_true rfl)
  rw [lg_entry_eq]
  generalize (lg_sl ([.int p0]) ++ List.replicate (1 - (lg_sl ([.int p0])).length) Slot.unset).toArray = ls at hl ⊢
  have hl : lv_has ls 1 [(0, .int p0)] := hl
  refine lv_iload_n hx hb dX6_isLetter_0 rfl (lv_at hl 0 rfl) ?_
  refine lv_bipush (v := 97) hx hb dX6_isLetter_1 (by decide) ?_
  refine lv_icmp_lt (tgt := 16) hx hb dX6_isLetter_3 (by decide) (fun c_1 => ?_) (fun c_1 => ?_)
  · have g_2 : p0.toInt < 97 := z_lt rfl (by decide) c_1
    refine lv_iconst (v := 0) hx hb dX6_isLetter_16 (by decide) ?_
    exact W.zret (v := 0) hx hb hr (by decide) (fun t ht hW => ⟨⟨0, (), rfl, Or.inr ⟨rfl, by omega⟩, trivial⟩, hS.F ht⟩) hS.2.2 dX6_isLetter_17
  · have g_2 : 97 ≤ p0.toInt := z_nlt rfl (by decide) c_1
    refine lv_iload_n hx hb dX6_isLetter_6 rfl (lv_at hl 0 rfl) ?_
    refine lv_bipush (v := 122) hx hb dX6_isLetter_7 (by decide) ?_
    refine lv_icmp_gt (tgt := 16) hx hb dX6_isLetter_9 (by decide) (fun c_3 => ?_) (fun c_3 => ?_)
    · have g_4 : 122 < p0.toInt := z_lt (by decide) rfl c_3
      refine lv_iconst (v := 0) hx hb dX6_isLetter_16 (by decide) ?_
      exact W.zret (v := 0) hx hb hr (by decide) (fun t ht hW => ⟨⟨0, (), rfl, Or.inr ⟨rfl, by omega⟩, trivial⟩, hS.F ht⟩) hS.2.2 dX6_isLetter_17
    · have g_4 : p0.toInt ≤ 122 := z_nlt (by decide) rfl c_3
      refine lv_iconst (v := 1) hx hb dX6_isLetter_12 (by decide) ?_
      refine lv_goto (tgt := 17) hx hb dX6_isLetter_13 (by decide) ?_
      exact W.zret (v := 1) hx hb hr (by decide) (fun t ht hW => ⟨⟨1, (), rfl, Or.inl ⟨rfl, by omega⟩, trivial⟩, hS.F ht⟩) hS.2.2 dX6_isLetter_17
set_option maxHeartbeats 4000000 in
set_option maxRecDepth 100000 in
theorem k_X6_isDigit (l : Launch) (D : va_G) (p0 : Int32) : Met l yX6_isDigit (wz yX6_isDigit cX6_isDigit 1 (some .boolean)) { frames := 0, cells := 0, slots := 0, locals := 0 } (va_Pc [.int p0] (zP D [])) (va_Qi (fun r (_ : Unit) => (r = 1 ∧ (48 ≤ p0.toInt ∧ p0.toInt ≤ 57)) ∨ (r = 0 ∧ ¬ (48 ≤ p0.toInt ∧ p0.toInt ≤ 57))) (fun _ _ => True) (fun _ => False)) 0 0 (fun _ => False) := by
  refine Met.ofW (cc := cX6_isDigit) (maxL := 1) (ret := (some .boolean)) (by decide) rfl ?_
  intro p e s m args below meth c s₁ B hml hv
  obtain ⟨rfl, hP, hK⟩ := hv
  have hx := B.exec
  have hb := B.bytes
  have hr := B.returns
  have hts := atoms_spec (ws := wz yX6_isDigit cX6_isDigit 1 (some .boolean)) B.pre
  have ht : ∀ w ∈ lw_gd, w.before _ s = true := fun w h => hts w (List.mem_cons_of_mem _ h)
  have hown : s.vm.findClass RX6 = some m.cls := findClass_of_methodNamed B.named
  have hlocks := B.notSynchronized
  have hS : va_S (fun _ => False) s.heap s.heap [] := va_S.rf
  have hl := lv_entry ([.int p0]) (n := 1) (Nat.le_of_ble_eq_true rfl)
  rw [lg_entry_eq]
  generalize (lg_sl ([.int p0]) ++ List.replicate (1 - (lg_sl ([.int p0])).length) Slot.unset).toArray = ls at hl ⊢
  have hl : lv_has ls 1 [(0, .int p0)] := hl
  refine lv_iload_n hx hb dX6_isDigit_0 rfl (lv_at hl 0 rfl) ?_
  refine lv_bipush (v := 48) hx hb dX6_isDigit_1 (by decide) ?_
  refine lv_icmp_lt (tgt := 16) hx hb dX6_isDigit_3 (by decide) (fun c_1 => ?_) (fun c_1 => ?_)
  · have g_2 : p0.toInt < 48 := z_lt rfl (by decide) c_1
    refine lv_iconst (v := 0) hx hb dX6_isDigit_16 (by decide) ?_
    exact W.zret (v := 0) hx hb hr (by decide) (fun t ht hW => ⟨⟨0, (), rfl, Or.inr ⟨rfl, by omega⟩, trivial⟩, hS.F ht⟩) hS.2.2 dX6_isDigit_17
  · have g_2 : 48 ≤ p0.toInt := z_nlt rfl (by decide) c_1
    refine lv_iload_n hx hb dX6_isDigit_6 rfl (lv_at hl 0 rfl) ?_
    refine lv_bipush (v := 57) hx hb dX6_isDigit_7 (by decide) ?_
    refine lv_icmp_gt (tgt := 16) hx hb dX6_isDigit_9 (by decide) (fun c_3 => ?_) (fun c_3 => ?_)
    · have g_4 : 57 < p0.toInt := z_lt (by decide) rfl c_3
      refine lv_iconst (v := 0) hx hb dX6_isDigit_16 (by decide) ?_
      exact W.zret (v := 0) hx hb hr (by decide) (fun t ht hW => ⟨⟨0, (), rfl, Or.inr ⟨rfl, by omega⟩, trivial⟩, hS.F ht⟩) hS.2.2 dX6_isDigit_17
    · have g_4 : p0.toInt ≤ 57 := z_nlt (by decide) rfl c_3
      refine lv_iconst (v := 1) hx hb dX6_isDigit_12 (by decide) ?_
      refine lv_goto (tgt := 17) hx hb dX6_isDigit_13 (by decide) ?_
      exact W.zret (v := 1) hx hb hr (by decide) (fun t ht hW => ⟨⟨1, (), rfl, Or.inl ⟨rfl, by omega⟩, trivial⟩, hS.F ht⟩) hS.2.2 dX6_isDigit_17
set_option maxHeartbeats 4000000 in
set_option maxRecDepth 100000 in
theorem k_X6_wordNumber (l : Launch) (D : va_G) (h0 h1 h2 h3 h4 : Nat) (fa pl mo op ki wo si : Int32) (s0 sp n : Nat) (f fw : Nat → Int32) (h_1 : s0 ≤ sp) (h_2 : sp ≤ n) (h_3 : n ≤ 1600) : Met l yX6_wordNumber (wz yX6_wordNumber cX6_wordNumber 5 (some .int)) { frames := 0, cells := 0, slots := 0, locals := 0 } (va_Pc [.ref h0] (zP D [(h0, .inr (6, [.int fa, .int pl, .ref h1, .ref h2, .ref h3, .int mo, .int op, .int ki, .int (nI s0), .int (nI sp), .int wo, .int si])), (h1, .inr (9, [.ref h4, .int (nI n)])), (h4, .inl (D.1 13, 1600, .inl f)), (h2, .inl (D.1 14, 179, .inl fw))])) (va_Qi (fun r (_ : Unit) => True) (fun _ _ => True) (fun _ => False)) 0 0 (fun _ => False) := by
  refine Met.ofW (cc := cX6_wordNumber) (maxL := 5) (ret := (some .int)) (by decide) rfl ?_
  intro p e s m args below meth c s₁ B hml hv
  obtain ⟨rfl, hP, hK⟩ := hv
  have hx := B.exec
  have hb := B.bytes
  have hr := B.returns
  have hts := atoms_spec (ws := wz yX6_wordNumber cX6_wordNumber 5 (some .int)) B.pre
  have ht : ∀ w ∈ lw_gd, w.before _ s = true := fun w h => hts w (List.mem_cons_of_mem _ h)
  have hown : s.vm.findClass RX6 = some m.cls := findClass_of_methodNamed B.named
  have hlocks := B.notSynchronized
  have hS : va_S (fun _ => False) s.heap s.heap [] := va_S.rf
  have hl := lv_entry ([.ref h0]) (n := 5) (Nat.le_of_ble_eq_true rfl)
  rw [lg_entry_eq]
  generalize (lg_sl ([.ref h0]) ++ List.replicate (5 - (lg_sl ([.ref h0])).length) Slot.unset).toArray = ls at hl ⊢
  have hl : lv_has ls 5 [(0, .ref h0)] := hl
  refine lv_iconst (v := 0) hx hb dX6_wordNumber_0 (by decide) ?_
  refine lv_istore_n (lv' := [(1, .int 0), (0, .ref h0)]) hx hb dX6_wordNumber_1 rfl hl (by decide) rfl (fun ls hl => ?_)
  refine lv_aload_n hx hb dX6_wordNumber_2 rfl (lv_at hl 1 rfl) ?_
  refine va_get (D := D) (ci := 6) (v := .int (nI s0)) (C := RX6) (T := TX6) (N := 12) hx hb ht inX6 hown hK hP 0 rfl rfl 8 (by decide) (ht (.fieldLink RX6 51 "CloneVolumes$Reader" "start" "I") fl_X6_51) (fun _ h9 => h9) rfl dX6_wordNumber_3 ?_
  refine lv_istore_n (lv' := [(2, .int (nI s0)), (1, .int 0), (0, .ref h0)]) hx hb dX6_wordNumber_6 rfl hl (by decide) rfl (fun ls hl => ?_)
  refine lv_iconst (v := 1) hx hb dX6_wordNumber_7 (by decide) ?_
  refine lv_istore_n (lv' := [(3, .int 1), (2, .int (nI s0)), (1, .int 0), (0, .ref h0)]) hx hb dX6_wordNumber_8 rfl hl (by decide) rfl (fun ls hl => ?_)
  refine lv_iconst (v := 0) hx hb dX6_wordNumber_9 (by decide) ?_
  refine lv_istore (lv' := [(4, .int 0), (3, .int 1), (2, .int (nI s0)), (1, .int 0), (0, .ref h0)]) hx hb dX6_wordNumber_10 hl (by decide) rfl (fun ls hl => ?_)
  refine z_loop (σ := ((Int32) × (Nat) × (Int32))) (N := 179) (fun i u H locs ls => (u.2.1 ≤ 1600 + i) ∧ va_P D vwCl [(h0, .inr (6, [.int fa, .int pl, .ref h1, .ref h2, .ref h3, .int mo, .int op, .int ki, .int (nI s0), .int (nI sp), .int wo, .int si])), (h1, .inr (9, [.ref h4, .int (nI n)])), (h4, .inl (D.1 13, 1600, .inl f)), (h2, .inl (D.1 14, 179, .inl fw))] H ∧ va_S (fun _ => False) s.heap H locs ∧ lv_has ls 5 [(4, .int (nI i)), (3, .int u.1), (2, .int (nI u.2.1)), (1, .int u.2.2), (0, .ref h0)]) (fun i_1 u_5 H locs ls hi_i_1 hI ih_12 => ?_) 0 (1, s0, 0) (by decide) ⟨(by first | omega | (dsimp only; omega)), hP, hS, lv_sub hl [0, 1, 2, 3, 4] rfl⟩
  obtain ⟨hv_i_1, hP, hS, hl⟩ := hI
  obtain ⟨x_2, n_3, x_4⟩ := u_5
  have hv_i_1 : n_3 ≤ 1600 + i_1 := hv_i_1
  have hP : va_P D vwCl [(h0, .inr (6, [.int fa, .int pl, .ref h1, .ref h2, .ref h3, .int mo, .int op, .int ki, .int (nI s0), .int (nI sp), .int wo, .int si])), (h1, .inr (9, [.ref h4, .int (nI n)])), (h4, .inl (D.1 13, 1600, .inl f)), (h2, .inl (D.1 14, 179, .inl fw))] H := hP
  have hl : lv_has ls 5 [(4, .int (nI i_1)), (3, .int x_2), (2, .int (nI n_3)), (1, .int x_4), (0, .ref h0)] := hl
  refine lv_iload hx hb dX6_wordNumber_12 (lv_at hl 0 rfl) ?_
  refine lv_aload_n hx hb dX6_wordNumber_14 rfl (lv_at hl 4 rfl) ?_
  refine va_get (D := D) (ci := 6) (v := .ref h2) (C := RX6) (T := TX6) (N := 12) hx hb ht inX6 hown hK hP 0 rfl rfl 3 (by decide) (ht (.fieldLink RX6 23 "CloneVolumes$Reader" "words" "[C") fl_X6_23) (fun _ h9 => h9) rfl dX6_wordNumber_15 ?_
  refine va_alen (v := 179) hx hb hK hP 3 1 rfl (ty := .char) rfl rfl dX6_wordNumber_18 ?_
  refine lv_icmp_ge (tgt := 107) hx hb dX6_wordNumber_19 (by decide) (fun c_6 => ?_) (fun c_6 => ?_)
  · have g_7 : 179 ≤ ((i_1 : Nat) : Int) := z_le (by decide) (nI_toInt (by omega)) c_6
    obtain rfl : i_1 = 179 := by omega
    have hP : va_P D vwCl [(h0, .inr (6, [.int fa, .int pl, .ref h1, .ref h2, .ref h3, .int mo, .int op, .int ki, .int (nI s0), .int (nI sp), .int wo, .int si])), (h1, .inr (9, [.ref h4, .int (nI n)])), (h4, .inl (D.1 13, 1600, .inl f)), (h2, .inl (D.1 14, 179, .inl fw))] H := hP
    have hl : lv_has ls 5 [(4, .int 179), (3, .int x_2), (2, .int (nI n_3)), (1, .int x_4), (0, .ref h0)] := hl
    refine lv_iload_n hx hb dX6_wordNumber_107 rfl (lv_at hl 1 rfl) ?_
    refine lv_if_eq (tgt := 123) hx hb dX6_wordNumber_108 (by decide) (fun c_8 => ?_) (fun c_8 => ?_)
    · have g_9 : x_2.toInt = 0 := z_eq rfl (by decide) c_8
      refine lv_iconst (v := (-1)) hx hb dX6_wordNumber_123 (by decide) ?_
      exact W.iret (v := (-1)) hx hb hr (fun t ht hW => ⟨⟨(-1), (), rfl, trivial, trivial⟩, hS.F ht⟩) hS.2.2 dX6_wordNumber_124
    · have g_9 : ¬ x_2.toInt = 0 := z_ne rfl (by decide) c_8
      refine lv_iload_n hx hb dX6_wordNumber_111 rfl (lv_at hl 2 rfl) ?_
      refine lv_aload_n hx hb dX6_wordNumber_112 rfl (lv_at hl 4 rfl) ?_
      refine va_get (D := D) (ci := 6) (v := .int (nI sp)) (C := RX6) (T := TX6) (N := 12) hx hb ht inX6 hown hK hP 0 rfl rfl 9 (by decide) (ht (.fieldLink RX6 88 "CloneVolumes$Reader" "stop" "I") fl_X6_88) (fun _ h9 => h9) rfl dX6_wordNumber_113 ?_
      refine lv_icmp_ne (tgt := 123) hx hb dX6_wordNumber_116 (by decide) (fun c_10 => ?_) (fun c_10 => ?_)
      · have g_11 : ¬ ((n_3 : Nat) : Int) = ((sp : Nat) : Int) := z_ne (nI_toInt (by omega)) (nI_toInt (by omega)) c_10
        refine lv_iconst (v := (-1)) hx hb dX6_wordNumber_123 (by decide) ?_
        exact W.iret (v := (-1)) hx hb hr (fun t ht hW => ⟨⟨(-1), (), rfl, trivial, trivial⟩, hS.F ht⟩) hS.2.2 dX6_wordNumber_124
      · have g_11 : ((n_3 : Nat) : Int) = ((sp : Nat) : Int) := z_eq (nI_toInt (by omega)) (nI_toInt (by omega)) c_10
        refine lv_iload_n hx hb dX6_wordNumber_119 rfl (lv_at hl 3 rfl) ?_
        refine lv_goto (tgt := 124) hx hb dX6_wordNumber_120 (by decide) ?_
        exact W.iret (v := x_4) hx hb hr (fun t ht hW => ⟨⟨x_4, (), rfl, trivial, trivial⟩, hS.F ht⟩) hS.2.2 dX6_wordNumber_124
  · have g_7 : ((i_1 : Nat) : Int) < 179 := z_nle (by decide) (nI_toInt (by omega)) c_6
    refine lv_aload_n hx hb dX6_wordNumber_22 rfl (lv_at hl 4 rfl) ?_
    refine va_get (D := D) (ci := 6) (v := .ref h2) (C := RX6) (T := TX6) (N := 12) hx hb ht inX6 hown hK hP 0 rfl rfl 3 (by decide) (ht (.fieldLink RX6 23 "CloneVolumes$Reader" "words" "[C") fl_X6_23) (fun _ h9 => h9) rfl dX6_wordNumber_23 ?_
    refine lv_iload hx hb dX6_wordNumber_26 (lv_at hl 0 rfl) ?_
    refine va_cald hx hb hK hP 3 1 rfl rfl (vp_in_nI (by omega) (by omega)) dX6_wordNumber_28 ?_
    refine z_topi (y := fw i_1) (by rw [nI_clamp (by omega)]) ?_
    refine lv_bipush (v := 32) hx hb dX6_wordNumber_29 (by decide) ?_
    refine lv_icmp_eq (tgt := 77) hx hb dX6_wordNumber_31 (by decide) (fun c_12 => ?_) (fun c_12 => ?_)
    · have g_13 : (fw i_1).toInt = 32 := z_eq rfl (by decide) c_12
      refine lv_iload_n hx hb dX6_wordNumber_77 rfl (lv_at hl 1 rfl) ?_
      refine lv_if_eq (tgt := 91) hx hb dX6_wordNumber_78 (by decide) (fun c_14 => ?_) (fun c_14 => ?_)
      · have g_15 : x_2.toInt = 0 := z_eq rfl (by decide) c_14
        refine lv_iinc (v := x_4 + Int32.ofInt 1) (lv' := [(1, .int (x_4 + Int32.ofInt 1)), (4, .int (nI i_1)), (3, .int x_2), (2, .int (nI n_3)), (0, .ref h0)]) hx hb dX6_wordNumber_91 hl (k := 3) rfl rfl (by decide) rfl (fun ls hl => ?_)
        refine lv_aload_n hx hb dX6_wordNumber_94 rfl (lv_at hl 4 rfl) ?_
        refine va_get (D := D) (ci := 6) (v := .int (nI s0)) (C := RX6) (T := TX6) (N := 12) hx hb ht inX6 hown hK hP 0 rfl rfl 8 (by decide) (ht (.fieldLink RX6 51 "CloneVolumes$Reader" "start" "I") fl_X6_51) (fun _ h9 => h9) rfl dX6_wordNumber_95 ?_
        refine lv_istore_n (lv' := [(2, .int (nI s0)), (1, .int (x_4 + Int32.ofInt 1)), (4, .int (nI i_1)), (3, .int x_2), (0, .ref h0)]) hx hb dX6_wordNumber_98 rfl hl (by decide) rfl (fun ls hl => ?_)
        refine lv_iconst (v := 1) hx hb dX6_wordNumber_99 (by decide) ?_
        refine lv_istore_n (lv' := [(3, .int 1), (2, .int (nI s0)), (1, .int (x_4 + Int32.ofInt 1)), (4, .int (nI i_1)), (0, .ref h0)]) hx hb dX6_wordNumber_100 rfl hl (by decide) rfl (fun ls hl => ?_)
        refine lv_iinc (v := nI (i_1 + 1)) (lv' := [(4, .int (nI (i_1 + 1))), (3, .int 1), (2, .int (nI s0)), (1, .int (x_4 + Int32.ofInt 1)), (0, .ref h0)]) hx hb dX6_wordNumber_101 hl (k := 3) rfl (z_inc _) (by decide) rfl (fun ls hl => ?_)
        refine lv_goto (tgt := 12) hx hb dX6_wordNumber_104 (by decide) ?_
        exact ih_12 (1, s0, (x_4 + Int32.ofInt 1)) _ _ _ (by omega) ⟨(by first | omega | (dsimp only; omega)), hP.sub [0, 1, 2, 3] rfl, hS, lv_sub hl [0, 1, 2, 3, 4] rfl⟩
      · have g_15 : ¬ x_2.toInt = 0 := z_ne rfl (by decide) c_14
        refine lv_iload_n hx hb dX6_wordNumber_81 rfl (lv_at hl 2 rfl) ?_
        refine lv_aload_n hx hb dX6_wordNumber_82 rfl (lv_at hl 4 rfl) ?_
        refine va_get (D := D) (ci := 6) (v := .int (nI sp)) (C := RX6) (T := TX6) (N := 12) hx hb ht inX6 hown hK hP 0 rfl rfl 9 (by decide) (ht (.fieldLink RX6 88 "CloneVolumes$Reader" "stop" "I") fl_X6_88) (fun _ h9 => h9) rfl dX6_wordNumber_83 ?_
        refine lv_icmp_ne (tgt := 91) hx hb dX6_wordNumber_86 (by decide) (fun c_16 => ?_) (fun c_16 => ?_)
        · have g_17 : ¬ ((n_3 : Nat) : Int) = ((sp : Nat) : Int) := z_ne (nI_toInt (by omega)) (nI_toInt (by omega)) c_16
          refine lv_iinc (v := x_4 + Int32.ofInt 1) (lv' := [(1, .int (x_4 + Int32.ofInt 1)), (4, .int (nI i_1)), (3, .int x_2), (2, .int (nI n_3)), (0, .ref h0)]) hx hb dX6_wordNumber_91 hl (k := 3) rfl rfl (by decide) rfl (fun ls hl => ?_)
          refine lv_aload_n hx hb dX6_wordNumber_94 rfl (lv_at hl 4 rfl) ?_
          refine va_get (D := D) (ci := 6) (v := .int (nI s0)) (C := RX6) (T := TX6) (N := 12) hx hb ht inX6 hown hK hP 0 rfl rfl 8 (by decide) (ht (.fieldLink RX6 51 "CloneVolumes$Reader" "start" "I") fl_X6_51) (fun _ h9 => h9) rfl dX6_wordNumber_95 ?_
          refine lv_istore_n (lv' := [(2, .int (nI s0)), (1, .int (x_4 + Int32.ofInt 1)), (4, .int (nI i_1)), (3, .int x_2), (0, .ref h0)]) hx hb dX6_wordNumber_98 rfl hl (by decide) rfl (fun ls hl => ?_)
          refine lv_iconst (v := 1) hx hb dX6_wordNumber_99 (by decide) ?_
          refine lv_istore_n (lv' := [(3, .int 1), (2, .int (nI s0)), (1, .int (x_4 + Int32.ofInt 1)), (4, .int (nI i_1)), (0, .ref h0)]) hx hb dX6_wordNumber_100 rfl hl (by decide) rfl (fun ls hl => ?_)
          refine lv_iinc (v := nI (i_1 + 1)) (lv' := [(4, .int (nI (i_1 + 1))), (3, .int 1), (2, .int (nI s0)), (1, .int (x_4 + Int32.ofInt 1)), (0, .ref h0)]) hx hb dX6_wordNumber_101 hl (k := 3) rfl (z_inc _) (by decide) rfl (fun ls hl => ?_)
          refine lv_goto (tgt := 12) hx hb dX6_wordNumber_104 (by decide) ?_
          exact ih_12 (1, s0, (x_4 + Int32.ofInt 1)) _ _ _ (by omega) ⟨(by first | omega | (dsimp only; omega)), hP.sub [0, 1, 2, 3] rfl, hS, lv_sub hl [0, 1, 2, 3, 4] rfl⟩
        · have g_17 : ((n_3 : Nat) : Int) = ((sp : Nat) : Int) := z_eq (nI_toInt (by omega)) (nI_toInt (by omega)) c_16
          refine lv_iload_n hx hb dX6_wordNumber_89 rfl (lv_at hl 3 rfl) ?_
          exact W.iret (v := x_4) hx hb hr (fun t ht hW => ⟨⟨x_4, (), rfl, trivial, trivial⟩, hS.F ht⟩) hS.2.2 dX6_wordNumber_90
    · have g_13 : ¬ (fw i_1).toInt = 32 := z_ne rfl (by decide) c_12
      refine lv_iload_n hx hb dX6_wordNumber_34 rfl (lv_at hl 1 rfl) ?_
      refine lv_if_eq (tgt := 69) hx hb dX6_wordNumber_35 (by decide) (fun c_18 => ?_) (fun c_18 => ?_)
      · have g_19 : x_2.toInt = 0 := z_eq rfl (by decide) c_18
        refine lv_iconst (v := 0) hx hb dX6_wordNumber_69 (by decide) ?_
        refine lv_istore_n (lv' := [(3, .int 0), (4, .int (nI i_1)), (2, .int (nI n_3)), (1, .int x_4), (0, .ref h0)]) hx hb dX6_wordNumber_70 rfl hl (by decide) rfl (fun ls hl => ?_)
        refine lv_iinc (v := nI (n_3 + 1)) (lv' := [(2, .int (nI (n_3 + 1))), (3, .int 0), (4, .int (nI i_1)), (1, .int x_4), (0, .ref h0)]) hx hb dX6_wordNumber_71 hl (k := 2) rfl (z_inc _) (by decide) rfl (fun ls hl => ?_)
        refine lv_goto (tgt := 101) hx hb dX6_wordNumber_74 (by decide) ?_
        refine lv_iinc (v := nI (i_1 + 1)) (lv' := [(4, .int (nI (i_1 + 1))), (2, .int (nI (n_3 + 1))), (3, .int 0), (1, .int x_4), (0, .ref h0)]) hx hb dX6_wordNumber_101 hl (k := 2) rfl (z_inc _) (by decide) rfl (fun ls hl => ?_)
        refine lv_goto (tgt := 12) hx hb dX6_wordNumber_104 (by decide) ?_
        exact ih_12 (0, (n_3 + 1), x_4) _ _ _ (by omega) ⟨(by first | omega | (dsimp only; omega)), hP.sub [0, 1, 2, 3] rfl, hS, lv_sub hl [0, 2, 1, 3, 4] rfl⟩
      · have g_19 : ¬ x_2.toInt = 0 := z_ne rfl (by decide) c_18
        refine lv_iload_n hx hb dX6_wordNumber_38 rfl (lv_at hl 2 rfl) ?_
        refine lv_aload_n hx hb dX6_wordNumber_39 rfl (lv_at hl 4 rfl) ?_
        refine va_get (D := D) (ci := 6) (v := .int (nI sp)) (C := RX6) (T := TX6) (N := 12) hx hb ht inX6 hown hK hP 0 rfl rfl 9 (by decide) (ht (.fieldLink RX6 88 "CloneVolumes$Reader" "stop" "I") fl_X6_88) (fun _ h9 => h9) rfl dX6_wordNumber_40 ?_
        refine lv_icmp_ge (tgt := 69) hx hb dX6_wordNumber_43 (by decide) (fun c_20 => ?_) (fun c_20 => ?_)
        · have g_21 : ((sp : Nat) : Int) ≤ ((n_3 : Nat) : Int) := z_le (nI_toInt (by omega)) (nI_toInt (by omega)) c_20
          refine lv_iconst (v := 0) hx hb dX6_wordNumber_69 (by decide) ?_
          refine lv_istore_n (lv' := [(3, .int 0), (4, .int (nI i_1)), (2, .int (nI n_3)), (1, .int x_4), (0, .ref h0)]) hx hb dX6_wordNumber_70 rfl hl (by decide) rfl (fun ls hl => ?_)
          refine lv_iinc (v := nI (n_3 + 1)) (lv' := [(2, .int (nI (n_3 + 1))), (3, .int 0), (4, .int (nI i_1)), (1, .int x_4), (0, .ref h0)]) hx hb dX6_wordNumber_71 hl (k := 2) rfl (z_inc _) (by decide) rfl (fun ls hl => ?_)
          refine lv_goto (tgt := 101) hx hb dX6_wordNumber_74 (by decide) ?_
          refine lv_iinc (v := nI (i_1 + 1)) (lv' := [(4, .int (nI (i_1 + 1))), (2, .int (nI (n_3 + 1))), (3, .int 0), (1, .int x_4), (0, .ref h0)]) hx hb dX6_wordNumber_101 hl (k := 2) rfl (z_inc _) (by decide) rfl (fun ls hl => ?_)
          refine lv_goto (tgt := 12) hx hb dX6_wordNumber_104 (by decide) ?_
          exact ih_12 (0, (n_3 + 1), x_4) _ _ _ (by omega) ⟨(by first | omega | (dsimp only; omega)), hP.sub [0, 1, 2, 3] rfl, hS, lv_sub hl [0, 2, 1, 3, 4] rfl⟩
        · have g_21 : ((n_3 : Nat) : Int) < ((sp : Nat) : Int) := z_nle (nI_toInt (by omega)) (nI_toInt (by omega)) c_20
          refine lv_aload_n hx hb dX6_wordNumber_46 rfl (lv_at hl 4 rfl) ?_
          refine va_get (D := D) (ci := 6) (v := .ref h1) (C := RX6) (T := TX6) (N := 12) hx hb ht inX6 hown hK hP 0 rfl rfl 2 (by decide) (ht (.fieldLink RX6 27 "CloneVolumes$Reader" "tape" "LCloneVolumes$Tape;") fl_X6_27) (fun _ h9 => h9) rfl dX6_wordNumber_47 ?_
          refine va_get (D := D) (ci := 9) (v := .ref h4) (C := RX9) (T := TX9) (N := 2) hx hb ht inX9 hown hK hP 1 rfl rfl 0 (by decide) (ht (.fieldLink RX6 96 "CloneVolumes$Tape" "bytes" "[I") fl_X6_96) (fun _ h9 => h9) rfl dX6_wordNumber_50 ?_
          refine lv_iload_n hx hb dX6_wordNumber_53 rfl (lv_at hl 2 rfl) ?_
          refine va_iald hx hb hK hP 2 0 rfl rfl (vp_in_nI (by omega) (by omega)) dX6_wordNumber_54 ?_
          refine z_topi (y := f n_3) (by rw [nI_clamp (by omega)]) ?_
          refine lv_aload_n hx hb dX6_wordNumber_55 rfl (lv_at hl 4 rfl) ?_
          refine va_get (D := D) (ci := 6) (v := .ref h2) (C := RX6) (T := TX6) (N := 12) hx hb ht inX6 hown hK hP 0 rfl rfl 3 (by decide) (ht (.fieldLink RX6 23 "CloneVolumes$Reader" "words" "[C") fl_X6_23) (fun _ h9 => h9) rfl dX6_wordNumber_56 ?_
          refine lv_iload hx hb dX6_wordNumber_59 (lv_at hl 0 rfl) ?_
          refine va_cald hx hb hK hP 3 1 rfl rfl (vp_in_nI (by omega) (by omega)) dX6_wordNumber_61 ?_
          refine z_topi (y := fw i_1) (by rw [nI_clamp (by omega)]) ?_
          refine lv_icmp_ne (tgt := 69) hx hb dX6_wordNumber_62 (by decide) (fun c_22 => ?_) (fun c_22 => ?_)
          · have g_23 : ¬ (f n_3).toInt = (fw i_1).toInt := z_ne rfl rfl c_22
            refine lv_iconst (v := 0) hx hb dX6_wordNumber_69 (by decide) ?_
            refine lv_istore_n (lv' := [(3, .int 0), (4, .int (nI i_1)), (2, .int (nI n_3)), (1, .int x_4), (0, .ref h0)]) hx hb dX6_wordNumber_70 rfl hl (by decide) rfl (fun ls hl => ?_)
            refine lv_iinc (v := nI (n_3 + 1)) (lv' := [(2, .int (nI (n_3 + 1))), (3, .int 0), (4, .int (nI i_1)), (1, .int x_4), (0, .ref h0)]) hx hb dX6_wordNumber_71 hl (k := 2) rfl (z_inc _) (by decide) rfl (fun ls hl => ?_)
            refine lv_goto (tgt := 101) hx hb dX6_wordNumber_74 (by decide) ?_
            refine lv_iinc (v := nI (i_1 + 1)) (lv' := [(4, .int (nI (i_1 + 1))), (2, .int (nI (n_3 + 1))), (3, .int 0), (1, .int x_4), (0, .ref h0)]) hx hb dX6_wordNumber_101 hl (k := 2) rfl (z_inc _) (by decide) rfl (fun ls hl => ?_)
            refine lv_goto (tgt := 12) hx hb dX6_wordNumber_104 (by decide) ?_
            exact ih_12 (0, (n_3 + 1), x_4) _ _ _ (by omega) ⟨(by first | omega | (dsimp only; omega)), hP.sub [0, 1, 2, 3] rfl, hS, lv_sub hl [0, 2, 1, 3, 4] rfl⟩
          · have g_23 : (f n_3).toInt = (fw i_1).toInt := z_eq rfl rfl c_22
            refine lv_iconst (v := 1) hx hb dX6_wordNumber_65 (by decide) ?_
            refine lv_goto (tgt := 70) hx hb dX6_wordNumber_66 (by decide) ?_
            refine lv_istore_n (lv' := [(3, .int 1), (4, .int (nI i_1)), (2, .int (nI n_3)), (1, .int x_4), (0, .ref h0)]) hx hb dX6_wordNumber_70 rfl hl (by decide) rfl (fun ls hl => ?_)
            refine lv_iinc (v := nI (n_3 + 1)) (lv' := [(2, .int (nI (n_3 + 1))), (3, .int 1), (4, .int (nI i_1)), (1, .int x_4), (0, .ref h0)]) hx hb dX6_wordNumber_71 hl (k := 2) rfl (z_inc _) (by decide) rfl (fun ls hl => ?_)
            refine lv_goto (tgt := 101) hx hb dX6_wordNumber_74 (by decide) ?_
            refine lv_iinc (v := nI (i_1 + 1)) (lv' := [(4, .int (nI (i_1 + 1))), (2, .int (nI (n_3 + 1))), (3, .int 1), (1, .int x_4), (0, .ref h0)]) hx hb dX6_wordNumber_101 hl (k := 2) rfl (z_inc _) (by decide) rfl (fun ls hl => ?_)
            refine lv_goto (tgt := 12) hx hb dX6_wordNumber_104 (by decide) ?_
            exact ih_12 (1, (n_3 + 1), x_4) _ _ _ (by omega) ⟨(by first | omega | (dsimp only; omega)), hP.sub [0, 1, 2, 3] rfl, hS, lv_sub hl [0, 2, 1, 3, 4] rfl⟩
