theorem co_X6_readStatement : Cond.code yX6_readStatement cX6_readStatement 4 none ∈ lw_gd := zm (List.mem_of_getElem? (i := 797) (by decide +kernel)) rfl
theorem fl_X6_36 : Cond.fieldLink RX6 36 "CloneVolumes$Plan" "code" "LCloneVolumes$Code;" ∈ lw_gd := zm (List.mem_of_getElem? (i := 499) (by decide +kernel)) rfl
theorem im_X6_readStatement : Cond.instanceMethod yX6_readStatement ∈ lw_gd := zm (List.mem_of_getElem? (i := 796) (by decide +kernel)) rfl
theorem ml_X6_31 : Cond.methodLink RX6 31 yX5_clear ∈ lw_gd := zm (List.mem_of_getElem? (i := 768) (by decide +kernel)) rfl
theorem ml_X6_47 : Cond.methodLink RX6 47 yX6_readStatement ∈ lw_gd := zm (List.mem_of_getElem? (i := 794) (by decide +kernel)) rfl
theorem se_X6_readStatement : Cond.selects RX6 yX6_readStatement yX6_readStatement ∈ lw_gd := zm (List.mem_of_getElem? (i := 4) (by decide +kernel)) rfl
theorem dX6_readStore_0 : decode cX6_readStore 0 = .ok (.aload_n 1, 1) := by decide +kernel
theorem dX6_readStore_1 : decode cX6_readStore 1 = .ok (.invokevirtual 31, 3) := by decide +kernel
theorem dX6_readStore_4 : decode cX6_readStore 4 = .ok (.aload_n 0, 1) := by decide +kernel
theorem dX6_readStore_5 : decode cX6_readStore 5 = .ok (.aload_n 1, 1) := by decide +kernel
theorem dX6_readStore_6 : decode cX6_readStore 6 = .ok (.getfield 36, 3) := by decide +kernel
theorem dX6_readStore_9 : decode cX6_readStore 9 = .ok (.invokevirtual 40, 3) := by decide +kernel
theorem dX6_readStore_12 : decode cX6_readStore 12 = .ok (.iconst 0, 1) := by decide +kernel
theorem dX6_readStore_13 : decode cX6_readStore 13 = .ok (.istore_n 2, 1) := by decide +kernel
theorem dX6_readStore_14 : decode cX6_readStore 14 = .ok (.iload_n 2, 1) := by decide +kernel
theorem dX6_readStore_15 : decode cX6_readStore 15 = .ok (.bipush 60, 2) := by decide +kernel
theorem dX6_readStore_17 : decode cX6_readStore 17 = .ok (.if_icmp .ge 21, 3) := by decide +kernel
theorem dX6_readStore_20 : decode cX6_readStore 20 = .ok (.aload_n 0, 1) := by decide +kernel
theorem dX6_readStore_21 : decode cX6_readStore 21 = .ok (.getfield 44, 3) := by decide +kernel
theorem dX6_readStore_24 : decode cX6_readStore 24 = .ok (.ifCond .eq 14, 3) := by decide +kernel
theorem dX6_readStore_27 : decode cX6_readStore 27 = .ok (.aload_n 0, 1) := by decide +kernel
theorem dX6_readStore_28 : decode cX6_readStore 28 = .ok (.aload_n 1, 1) := by decide +kernel
theorem dX6_readStore_29 : decode cX6_readStore 29 = .ok (.invokevirtual 47, 3) := by decide +kernel
theorem dX6_readStore_32 : decode cX6_readStore 32 = .ok (.iinc 2 1, 3) := by decide +kernel
theorem dX6_readStore_35 : decode cX6_readStore 35 = .ok (.goto (-21), 3) := by decide +kernel
theorem dX6_readStore_38 : decode cX6_readStore 38 = .ok (.aload_n 0, 1) := by decide +kernel
theorem dX6_readStore_39 : decode cX6_readStore 39 = .ok (.getfield 44, 3) := by decide +kernel
theorem dX6_readStore_42 : decode cX6_readStore 42 = .ok (.ifCond .eq 16, 3) := by decide +kernel
theorem dX6_readStore_45 : decode cX6_readStore 45 = .ok (.aload_n 0, 1) := by decide +kernel
theorem dX6_readStore_46 : decode cX6_readStore 46 = .ok (.iconst 5, 1) := by decide +kernel
theorem dX6_readStore_47 : decode cX6_readStore 47 = .ok (.aload_n 0, 1) := by decide +kernel
theorem dX6_readStore_48 : decode cX6_readStore 48 = .ok (.getfield 51, 3) := by decide +kernel
theorem dX6_readStore_51 : decode cX6_readStore 51 = .ok (.invokevirtual 54, 3) := by decide +kernel
theorem dX6_readStore_54 : decode cX6_readStore 54 = .ok (.pop, 1) := by decide +kernel
theorem dX6_readStore_55 : decode cX6_readStore 55 = .ok (.goto 20, 3) := by decide +kernel
theorem dX6_readStore_58 : decode cX6_readStore 58 = .ok (.aload_n 1, 1) := by decide +kernel
theorem dX6_readStore_59 : decode cX6_readStore 59 = .ok (.getfield 58, 3) := by decide +kernel
theorem dX6_readStore_62 : decode cX6_readStore 62 = .ok (.ifCond .ne 13, 3) := by decide +kernel
theorem dX6_readStore_65 : decode cX6_readStore 65 = .ok (.aload_n 0, 1) := by decide +kernel
theorem dX6_readStore_66 : decode cX6_readStore 66 = .ok (.iconst 1, 1) := by decide +kernel
theorem dX6_readStore_67 : decode cX6_readStore 67 = .ok (.aload_n 0, 1) := by decide +kernel
theorem dX6_readStore_68 : decode cX6_readStore 68 = .ok (.getfield 51, 3) := by decide +kernel
theorem dX6_readStore_71 : decode cX6_readStore 71 = .ok (.invokevirtual 54, 3) := by decide +kernel
theorem dX6_readStore_74 : decode cX6_readStore 74 = .ok (.pop, 1) := by decide +kernel
theorem dX6_readStore_75 : decode cX6_readStore 75 = .ok (.aload_n 0, 1) := by decide +kernel
theorem dX6_readStore_76 : decode cX6_readStore 76 = .ok (.getfield 61, 3) := by decide +kernel
theorem dX6_readStore_79 : decode cX6_readStore 79 = .ok (.ifCond .ne 7, 3) := by decide +kernel
theorem dX6_readStore_82 : decode cX6_readStore 82 = .ok (.iconst 1, 1) := by decide +kernel
theorem dX6_readStore_83 : decode cX6_readStore 83 = .ok (.goto 4, 3) := by decide +kernel
theorem dX6_readStore_86 : decode cX6_readStore 86 = .ok (.iconst 0, 1) := by decide +kernel
theorem dX6_readStore_87 : decode cX6_readStore 87 = .ok (.ireturn, 1) := by decide +kernel
set_option maxHeartbeats 4000000 in
set_option maxRecDepth 100000 in
theorem k_x5_clear (l : Launch) (D : va_G) (a : Nat → Nat) (sz : Nat) (s : MS) (o : MS) (h : m_x5_clear s = some o) : yWv l yX5_clear cX5_clear 2 none { frames := 0, cells := 0, slots := 0, locals := 0 } D sz [.ref (a 39)] (CS D a s) (CS D a o) := by
  refine Met.ofW (cc := cX5_clear) (maxL := 2) (ret := none) (by decide) rfl ?_
  intro p e s₀ m args below meth c s₁ B hml hv
  obtain ⟨rfl, ⟨hsz, hP, hK, hD0⟩, hN⟩ := hv
  have hx := B.exec
  have hb := B.bytes
  have hr := B.returns
  have hts := atoms_spec (ws := wz yX5_clear cX5_clear 2 none) B.pre
  have ht : ∀ w ∈ lw_gd, w.before _ s₀ = true := fun w h => hts w (List.mem_cons_of_mem _ h)
  have hown : s₀.vm.findClass RX5 = some m.cls := findClass_of_methodNamed B.named
  have hlocks := B.notSynchronized
  subst hsz
  have hD := hD0.self (sz := s₀.heap.size)
  generalize hAe : va_A (CS D a s) s₀.heap.size = A at hD ⊢
  have hA : ∀ q : Nat, s₀.heap.size ≤ q → A q := fun q h => by rw [← hAe]; exact Or.inr h
  have hS : va_S A s₀.heap s₀.heap [] := va_S.rf
  have hDD : ∀ t : MS, va_D A (CS D a t) := fun t => CW_D t hD
  have hl := lv_entry ([.ref (a 39)]) (n := 2) (Nat.le_of_ble_eq_true rfl)
  rw [lg_entry_eq]
  generalize (lg_sl ([.ref (a 39)]) ++ List.replicate (2 - (lg_sl ([.ref (a 39)])).length) Slot.unset).toArray = ls at hl ⊢
  have hl : lv_has ls 2 [(0, .ref (a 39))] := hl
  unfold m_x5_clear at h
  refine y_loop (pcJ := 30) (σ := Int × MS) (fun n u H locs ls => va_P D vwCl (CS D a u.2) H ∧ va_S A s₀.heap H locs ∧ lv_has ls 2 [(0, .ref (a 39)), (1, .int (i2 u.1))] ∧ m_x5_clear_L30 n u.1 u.2 = some o) (fun u => []) (fun u H locs ls hI => by obtain ⟨_, _, _, h⟩ := hI; cases h) (fun n30 ih30 u H locs ls hI => ?_) (fun J30 => ?_)
  · obtain ⟨hP, hS, hl, h⟩ := hI
    obtain ⟨x1, s2⟩ := u
    have hP : va_P D vwCl (CS D a s2) H := hP
    have hl : lv_has ls 2 [(0, .ref (a 39)), (1, .int (i2 x1))] := hl
    have h : m_x5_clear_b30 (m_x5_clear_L30 n30) x1 s2 = some o := h
    unfold m_x5_clear_b30 at h
    refine lv_iload_n hx hb dX5_clear_30 rfl (lv_at hl 1 rfl) ?_
    refine lv_iconst (v := 3) hx hb dX5_clear_31 (by decide) ?_
    obtain ⟨hr3, h⟩ := rg_e h
    refine lv_icmp_ge (tgt := 55) hx hb dX5_clear_32 (by decide) (fun c4 => ?_) (fun c4 => ?_)
    · have h := if_t ((i2_le (x := 3) (y := x1) (by decide) hr3).mp c4) h
      obtain rfl := Option.some.inj h
      exact W.vret hx hb hr (fun t ht hW => ⟨⟨(), rfl, trivial, by rw [ht]; exact hP, va_K.moved hW.alike hK, hDD _⟩, hS.F ht⟩) hS.2.2 dX5_clear_55
    · have h := if_f (mt (i2_le (x := 3) (y := x1) (by decide) hr3).mpr c4) h
      refine lv_aload_n hx hb dX5_clear_35 rfl (lv_at hl 0 rfl) ?_
      refine va_get (D := D) (ci := 5) (v := .ref (a 45)) (C := RX5) (T := TX5) (N := 14) hx hb ht inX5 hown hK hP 39 CW_39 rfl 12 (by decide) (ht (.fieldLink RX5 34 "CloneVolumes$Plan" "begins" "[I") fl_X5_34) (fun _ h9 => h9) rfl dX5_clear_36 ?_
      refine lv_iload_n hx hb dX5_clear_39 rfl (lv_at hl 1 rfl) ?_
      refine lv_iconst (v := (-1)) hx hb dX5_clear_40 (by decide) ?_
      obtain ⟨hi5, h⟩ := inb_e h
      refine ya_iast (i := x1) (x := (-1)) hx hb hK hP (hDD _) hS 45 0 CW_45 rfl (by decide) hi5 dX5_clear_41 (CW_w45 _) (fun H locs hP hS => ?_)
      obtain ⟨s6, hs6, h⟩ := st_e h
      rw [hs6] at hP
      refine lv_aload_n hx hb dX5_clear_42 rfl (lv_at hl 0 rfl) ?_
      refine va_get (D := D) (ci := 5) (v := .ref (a 46)) (C := RX5) (T := TX5) (N := 14) hx hb ht inX5 hown hK hP 39 CW_39 rfl 13 (by decide) (ht (.fieldLink RX5 37 "CloneVolumes$Plan" "ends" "[I") fl_X5_37) (fun _ h9 => h9) rfl dX5_clear_43 ?_
      refine lv_iload_n hx hb dX5_clear_46 rfl (lv_at hl 1 rfl) ?_
      refine lv_iconst (v := (-1)) hx hb dX5_clear_47 (by decide) ?_
      obtain ⟨hi7, h⟩ := inb_e h
      refine ya_iast (i := x1) (x := (-1)) hx hb hK hP (hDD _) hS 46 0 CW_46 rfl (by decide) hi7 dX5_clear_48 (CW_w46 _) (fun H locs hP hS => ?_)
      obtain ⟨s8, hs8, h⟩ := st_e h
      rw [hs8] at hP
      refine lv_iinc (v := i2 (x1 + 1)) (lv' := [(1, .int (i2 (x1 + 1))), (0, .ref (a 39))]) hx hb dX5_clear_49 hl (k := 1) rfl (i2_add x1 1) (by decide) rfl (fun ls hl => ?_)
      refine lv_goto (tgt := 30) hx hb dX5_clear_52 (by decide) ?_
      exact ih30 (x1 + 1, s8) _ _ _ ⟨hP, hS, lv_sub hl [1, 0] rfl, h⟩
  refine lv_aload_n hx hb dX5_clear_0 rfl (lv_at hl 0 rfl) ?_
  refine lv_iconst (v := 0) hx hb dX5_clear_1 (by decide) ?_
  refine ya_put (D := D) (ci := 5) (v := .int 0) (ty := .int) (C := RX5) (T := TX5) (N := 14) hx hb ht inX5 tyX5 tyX5_ok nmX5 hown hK hP (hDD _) hS 39 CW_39 rfl 3 (by decide) (ht (.fieldLink RX5 43 "CloneVolumes$Plan" "statements" "I") fl_X5_43) (fun _ h9 => h9) rfl (by decide +kernel) rfl rfl (Nat.le_of_ble_eq_true rfl) dX5_clear_2 (CW_w39_3 0) (fun H locs hP hS => ?_)
  obtain ⟨s9, hs9, h⟩ := st_e h
  rw [hs9] at hP
  refine lv_aload_n hx hb dX5_clear_5 rfl (lv_at hl 0 rfl) ?_
  refine lv_iconst (v := 0) hx hb dX5_clear_6 (by decide) ?_
  refine ya_put (D := D) (ci := 5) (v := .int 0) (ty := .int) (C := RX5) (T := TX5) (N := 14) hx hb ht inX5 tyX5 tyX5_ok nmX5 hown hK hP (hDD _) hS 39 CW_39 rfl 4 (by decide) (ht (.fieldLink RX5 47 "CloneVolumes$Plan" "volumes" "I") fl_X5_47) (fun _ h9 => h9) rfl (by decide +kernel) rfl rfl (Nat.le_of_ble_eq_true rfl) dX5_clear_7 (CW_w39_4 0) (fun H locs hP hS => ?_)
  obtain ⟨s10, hs10, h⟩ := st_e h
  rw [hs10] at hP
  refine lv_aload_n hx hb dX5_clear_10 rfl (lv_at hl 0 rfl) ?_
  refine lv_iconst (v := 0) hx hb dX5_clear_11 (by decide) ?_
  refine ya_put (D := D) (ci := 5) (v := .int 0) (ty := .int) (C := RX5) (T := TX5) (N := 14) hx hb ht inX5 tyX5 tyX5_ok nmX5 hown hK hP (hDD _) hS 39 CW_39 rfl 5 (by decide) (ht (.fieldLink RX5 50 "CloneVolumes$Plan" "changes" "I") fl_X5_50) (fun _ h9 => h9) rfl (by decide +kernel) rfl rfl (Nat.le_of_ble_eq_true rfl) dX5_clear_12 (CW_w39_5 0) (fun H locs hP hS => ?_)
  obtain ⟨s11, hs11, h⟩ := st_e h
  rw [hs11] at hP
  refine lv_aload_n hx hb dX5_clear_15 rfl (lv_at hl 0 rfl) ?_
  refine lv_iconst (v := 0) hx hb dX5_clear_16 (by decide) ?_
  refine ya_put (D := D) (ci := 5) (v := .int 0) (ty := .int) (C := RX5) (T := TX5) (N := 14) hx hb ht inX5 tyX5 tyX5_ok nmX5 hown hK hP (hDD _) hS 39 CW_39 rfl 2 (by decide) (ht (.fieldLink RX5 53 "CloneVolumes$Plan" "churn" "I") fl_X5_53) (fun _ h9 => h9) rfl (by decide +kernel) rfl rfl (Nat.le_of_ble_eq_true rfl) dX5_clear_17 (CW_w39_2 0) (fun H locs hP hS => ?_)
  obtain ⟨s12, hs12, h⟩ := st_e h
  rw [hs12] at hP
  refine lv_aload_n hx hb dX5_clear_20 rfl (lv_at hl 0 rfl) ?_
  refine va_get (D := D) (ci := 5) (v := .ref (a 47)) (C := RX5) (T := TX5) (N := 14) hx hb ht inX5 hown hK hP 39 CW_39 rfl 11 (by decide) (ht (.fieldLink RX5 30 "CloneVolumes$Plan" "code" "LCloneVolumes$Code;") fl_X5_30) (fun _ h9 => h9) rfl dX5_clear_21 ?_
  refine lv_iconst (v := 0) hx hb dX5_clear_24 (by decide) ?_
  refine ya_put (D := D) (ci := 0) (v := .int 0) (ty := .int) (C := RX0) (T := TX0) (N := 2) hx hb ht inX0 tyX0 tyX0_ok nmX0 hown hK hP (hDD _) hS 47 CW_47 rfl 1 (by decide) (ht (.fieldLink RX5 56 "CloneVolumes$Code" "size" "I") fl_X5_56) (fun _ h9 => h9) rfl (by decide +kernel) rfl rfl (Nat.le_of_ble_eq_true rfl) dX5_clear_25 (CW_w47_1 0) (fun H locs hP hS => ?_)
  obtain ⟨s13, hs13, h⟩ := st_e h
  rw [hs13] at hP
  refine lv_iconst (v := 0) hx hb dX5_clear_28 (by decide) ?_
  refine lv_istore_n (lv' := [(1, .int 0), (0, .ref (a 39))]) hx hb dX5_clear_29 rfl hl (by decide) rfl (fun ls hl => ?_)
  exact J30 FU (0, s13) _ _ _ ⟨hP, hS, lv_sub hl [1, 0] rfl, h⟩
set_option maxHeartbeats 4000000 in
set_option maxRecDepth 100000 in
theorem k_x6_readStore (l : Launch) (D : va_G) (a : Nat → Nat) (sz : Nat) (s : MS) (o : (Int × MS)) (h : m_x6_readStore s = some o) : yWi l yX6_readStore cX6_readStore 3 (some .boolean) { frames := 162, cells := 0, slots := 0, locals := 9720 } D sz [.ref (a 5), .ref (a 39)] (CS D a s) (CS D a o.2) (i2 o.1) := by
  refine Met.ofW (cc := cX6_readStore) (maxL := 3) (ret := (some .boolean)) (by decide) rfl ?_
  intro p e s₀ m args below meth c s₁ B hml hv
  obtain ⟨rfl, ⟨hsz, hP, hK, hD0⟩, hN⟩ := hv
  have hx := B.exec
  have hb := B.bytes
  have hr := B.returns
  have hts := atoms_spec (ws := wz yX6_readStore cX6_readStore 3 (some .boolean)) B.pre
  have ht : ∀ w ∈ lw_gd, w.before _ s₀ = true := fun w h => hts w (List.mem_cons_of_mem _ h)
  have hown : s₀.vm.findClass RX6 = some m.cls := findClass_of_methodNamed B.named
  have hlocks := B.notSynchronized
  subst hsz
  have hD := hD0.self (sz := s₀.heap.size)
  generalize hAe : va_A (CS D a s) s₀.heap.size = A at hD ⊢
  have hA : ∀ q : Nat, s₀.heap.size ≤ q → A q := fun q h => by rw [← hAe]; exact Or.inr h
  have hS : va_S A s₀.heap s₀.heap [] := va_S.rf
  have hDD : ∀ t : MS, va_D A (CS D a t) := fun t => CW_D t hD
  have hl := lv_entry ([.ref (a 5), .ref (a 39)]) (n := 3) (Nat.le_of_ble_eq_true rfl)
  rw [lg_entry_eq]
  generalize (lg_sl ([.ref (a 5), .ref (a 39)]) ++ List.replicate (3 - (lg_sl ([.ref (a 5), .ref (a 39)])).length) Slot.unset).toArray = ls at hl ⊢
  have hl : lv_has ls 3 [(0, .ref (a 5)), (1, .ref (a 39))] := hl
  unfold m_x6_readStore at h
  refine y_head (pcJ := 87) (σ := Int × MS) (fun u H locs ls => va_P D vwCl (CS D a u.2) H ∧ va_S A s₀.heap H locs ∧ lv_has ls 3 [] ∧ m_x6_readStore_J87 u.1 u.2 = some o) (fun u => [.int (i2 u.1)]) (fun u H locs ls hI => ?_) (fun J87 => ?_)
  · obtain ⟨hP, hS, hl, h⟩ := hI
    obtain ⟨x1, s2⟩ := u
    have hP : va_P D vwCl (CS D a s2) H := hP
    have hl : lv_has ls 3 [] := hl
    have h : m_x6_readStore_J87 x1 s2 = some o := h
    unfold m_x6_readStore_J87 at h
    obtain ⟨hb3, h⟩ := bo_e h
    obtain rfl := Option.some.inj h
    exact W.zret (v := (i2 x1)) hx hb hr (bo_n hb3) (fun t ht hW => ⟨⟨_, (), rfl, rfl, by rw [ht]; exact hP, va_K.moved hW.alike hK, hDD _⟩, hS.F ht⟩) hS.2.2 dX6_readStore_87
  refine y_head (pcJ := 75) (σ := MS) (fun u H locs ls => va_P D vwCl (CS D a u) H ∧ va_S A s₀.heap H locs ∧ lv_has ls 3 [(0, .ref (a 5))] ∧ m_x6_readStore_J75 u = some o) (fun u => []) (fun u H locs ls hI => ?_) (fun J75 => ?_)
  · obtain ⟨hP, hS, hl, h⟩ := hI
    obtain ⟨s4, rfl⟩ : ∃ z, z = u := ⟨u, rfl⟩
    have hP : va_P D vwCl (CS D a s4) H := hP
    have hl : lv_has ls 3 [(0, .ref (a 5))] := hl
    have h : m_x6_readStore_J75 s4 = some o := h
    unfold m_x6_readStore_J75 at h
    refine lv_aload_n hx hb dX6_readStore_75 rfl (lv_at hl 0 rfl) ?_
    refine va_get (D := D) (ci := 6) (v := .int (i2 (gI s4 100))) (C := RX6) (T := TX6) (N := 12) hx hb ht inX6 hown hK hP 5 CW_5 rfl 0 (by decide) (ht (.fieldLink RX6 61 "CloneVolumes$Reader" "fault" "I") fl_X6_61) (fun _ h9 => h9) rfl dX6_readStore_76 ?_
    obtain ⟨hr5, h⟩ := rg_e h
    refine lv_if_ne (tgt := 86) hx hb dX6_readStore_79 (by decide) (fun c6 => ?_) (fun c6 => ?_)
    · have h := if_f (mt (i2_eq (x := (gI s4 100)) (y := 0) hr5 (by decide)).mpr c6) h
      refine lv_iconst (v := 0) hx hb dX6_readStore_86 (by decide) ?_
      exact J87 (0, s4) _ _ _ ⟨hP, hS, lv_sub hl [] rfl, h⟩
    · have h := if_t ((i2_eq (x := (gI s4 100)) (y := 0) hr5 (by decide)).mp c6) h
      refine lv_iconst (v := 1) hx hb dX6_readStore_82 (by decide) ?_
      refine lv_goto (tgt := 87) hx hb dX6_readStore_83 (by decide) ?_
      exact J87 (1, s4) _ _ _ ⟨hP, hS, lv_sub hl [] rfl, h⟩
  refine y_head (pcJ := 38) (σ := MS) (fun u H locs ls => va_P D vwCl (CS D a u) H ∧ va_S A s₀.heap H locs ∧ lv_has ls 3 [(0, .ref (a 5)), (1, .ref (a 39))] ∧ m_x6_readStore_J38 u = some o) (fun u => []) (fun u H locs ls hI => ?_) (fun J38 => ?_)
  · obtain ⟨hP, hS, hl, h⟩ := hI
    obtain ⟨s7, rfl⟩ : ∃ z, z = u := ⟨u, rfl⟩
    have hP : va_P D vwCl (CS D a s7) H := hP
    have hl : lv_has ls 3 [(0, .ref (a 5)), (1, .ref (a 39))] := hl
    have h : m_x6_readStore_J38 s7 = some o := h
    unfold m_x6_readStore_J38 at h
    refine lv_aload_n hx hb dX6_readStore_38 rfl (lv_at hl 0 rfl) ?_
    refine va_get (D := D) (ci := 6) (v := .int (i2 (gI s7 107))) (C := RX6) (T := TX6) (N := 12) hx hb ht inX6 hown hK hP 5 CW_5 rfl 7 (by decide) (ht (.fieldLink RX6 44 "CloneVolumes$Reader" "kind" "I") fl_X6_44) (fun _ h9 => h9) rfl dX6_readStore_39 ?_
    obtain ⟨hr8, h⟩ := rg_e h
    refine lv_if_eq (tgt := 58) hx hb dX6_readStore_42 (by decide) (fun c9 => ?_) (fun c9 => ?_)
    · have h := if_t ((i2_eq (x := (gI s7 107)) (y := 0) hr8 (by decide)).mp c9) h
      refine lv_aload_n hx hb dX6_readStore_58 rfl (lv_at hl 1 rfl) ?_
      refine va_get (D := D) (ci := 5) (v := .int (i2 (gI s7 783))) (C := RX5) (T := TX5) (N := 14) hx hb ht inX5 hown hK hP 39 CW_39 rfl 3 (by decide) (ht (.fieldLink RX6 58 "CloneVolumes$Plan" "statements" "I") fl_X6_58) (fun _ h9 => h9) rfl dX6_readStore_59 ?_
      obtain ⟨hr10, h⟩ := rg_e h
      refine lv_if_ne (tgt := 75) hx hb dX6_readStore_62 (by decide) (fun c11 => ?_) (fun c11 => ?_)
      · have h := if_f (mt (i2_eq (x := (gI s7 783)) (y := 0) hr10 (by decide)).mpr c11) h
        exact J75 s7 _ _ _ ⟨hP, hS, lv_sub hl [0] rfl, h⟩
      · have h := if_t ((i2_eq (x := (gI s7 783)) (y := 0) hr10 (by decide)).mp c11) h
        refine lv_aload_n hx hb dX6_readStore_65 rfl (lv_at hl 0 rfl) ?_
        refine lv_iconst (v := 1) hx hb dX6_readStore_66 (by decide) ?_
        refine lv_aload_n hx hb dX6_readStore_67 rfl (lv_at hl 0 rfl) ?_
        refine va_get (D := D) (ci := 6) (v := .int (i2 (gI s7 108))) (C := RX6) (T := TX6) (N := 12) hx hb ht inX6 hown hK hP 5 CW_5 rfl 8 (by decide) (ht (.fieldLink RX6 51 "CloneVolumes$Reader" "start" "I") fl_X6_51) (fun _ h9 => h9) rfl dX6_readStore_68 ?_
        obtain ⟨⟨r14, s13⟩, hc12, h⟩ := bn_e h
        refine ywV (r0 := i2 r14) (As := [.int 1, .int (i2 (gI s7 108))]) (rest := []) (C := RX6) (n := 2) (ws' := CS D a s13) ⟨hx, hb, hml, hown, ht⟩ (k_x6_fail l D a 1 (gI s7 108) _ _ _ hc12) (zgV ml_X6_54 im_X6_fail se_X6_fail in_X6 co_X6_fail) rfl rfl (by decide +kernel) ⟨Nat.le_of_ble_eq_true rfl, Nat.le_of_ble_eq_true rfl⟩ hN hK hP (hDD _) hS hA 5 CW_5 rfl rfl rfl hl.1 rfl (Nat.le_of_ble_eq_true rfl) dX6_readStore_71 ⟨Nat.le_of_ble_eq_true rfl, Nat.le_of_ble_eq_true rfl⟩ (fun H locs hP hS => ?_)
        refine lv_pop hx hb dX6_readStore_74 rfl ?_
        exact J75 s13 _ _ _ ⟨hP, hS, lv_sub hl [0] rfl, h⟩
    · have h := if_f (mt (i2_eq (x := (gI s7 107)) (y := 0) hr8 (by decide)).mpr c9) h
      refine lv_aload_n hx hb dX6_readStore_45 rfl (lv_at hl 0 rfl) ?_
      refine lv_iconst (v := 5) hx hb dX6_readStore_46 (by decide) ?_
      refine lv_aload_n hx hb dX6_readStore_47 rfl (lv_at hl 0 rfl) ?_
      refine va_get (D := D) (ci := 6) (v := .int (i2 (gI s7 108))) (C := RX6) (T := TX6) (N := 12) hx hb ht inX6 hown hK hP 5 CW_5 rfl 8 (by decide) (ht (.fieldLink RX6 51 "CloneVolumes$Reader" "start" "I") fl_X6_51) (fun _ h9 => h9) rfl dX6_readStore_48 ?_
      obtain ⟨⟨r17, s16⟩, hc15, h⟩ := bn_e h
      refine ywV (r0 := i2 r17) (As := [.int 5, .int (i2 (gI s7 108))]) (rest := []) (C := RX6) (n := 2) (ws' := CS D a s16) ⟨hx, hb, hml, hown, ht⟩ (k_x6_fail l D a 5 (gI s7 108) _ _ _ hc15) (zgV ml_X6_54 im_X6_fail se_X6_fail in_X6 co_X6_fail) rfl rfl (by decide +kernel) ⟨Nat.le_of_ble_eq_true rfl, Nat.le_of_ble_eq_true rfl⟩ hN hK hP (hDD _) hS hA 5 CW_5 rfl rfl rfl hl.1 rfl (Nat.le_of_ble_eq_true rfl) dX6_readStore_51 ⟨Nat.le_of_ble_eq_true rfl, Nat.le_of_ble_eq_true rfl⟩ (fun H locs hP hS => ?_)
      refine lv_pop hx hb dX6_readStore_54 rfl ?_
      refine lv_goto (tgt := 75) hx hb dX6_readStore_55 (by decide) ?_
      exact J75 s16 _ _ _ ⟨hP, hS, lv_sub hl [0] rfl, h⟩
  refine y_loop (pcJ := 14) (σ := Int × MS) (fun n u H locs ls => va_P D vwCl (CS D a u.2) H ∧ va_S A s₀.heap H locs ∧ lv_has ls 3 [(0, .ref (a 5)), (1, .ref (a 39)), (2, .int (i2 u.1))] ∧ m_x6_readStore_L14 n u.1 u.2 = some o) (fun u => []) (fun u H locs ls hI => by obtain ⟨_, _, _, h⟩ := hI; cases h) (fun n14 ih14 u H locs ls hI => ?_) (fun J14 => ?_)
  · obtain ⟨hP, hS, hl, h⟩ := hI
    obtain ⟨x18, s19⟩ := u
    have hP : va_P D vwCl (CS D a s19) H := hP
    have hl : lv_has ls 3 [(0, .ref (a 5)), (1, .ref (a 39)), (2, .int (i2 x18))] := hl
    have h : m_x6_readStore_b14 (m_x6_readStore_L14 n14) x18 s19 = some o := h
    unfold m_x6_readStore_b14 at h
    refine lv_iload_n hx hb dX6_readStore_14 rfl (lv_at hl 2 rfl) ?_
    refine lv_bipush (v := 60) hx hb dX6_readStore_15 (by decide) ?_
    obtain ⟨hr20, h⟩ := rg_e h
    refine lv_icmp_ge (tgt := 38) hx hb dX6_readStore_17 (by decide) (fun c21 => ?_) (fun c21 => ?_)
    · have h := if_t ((i2_le (x := 60) (y := x18) (by decide) hr20).mp c21) h
      exact J38 s19 _ _ _ ⟨hP, hS, lv_sub hl [0, 1] rfl, h⟩
    · have h := if_f (mt (i2_le (x := 60) (y := x18) (by decide) hr20).mpr c21) h
      refine lv_aload_n hx hb dX6_readStore_20 rfl (lv_at hl 0 rfl) ?_
      refine va_get (D := D) (ci := 6) (v := .int (i2 (gI s19 107))) (C := RX6) (T := TX6) (N := 12) hx hb ht inX6 hown hK hP 5 CW_5 rfl 7 (by decide) (ht (.fieldLink RX6 44 "CloneVolumes$Reader" "kind" "I") fl_X6_44) (fun _ h9 => h9) rfl dX6_readStore_21 ?_
      obtain ⟨hr22, h⟩ := rg_e h
      refine lv_if_eq (tgt := 38) hx hb dX6_readStore_24 (by decide) (fun c23 => ?_) (fun c23 => ?_)
      · have h := if_t ((i2_eq (x := (gI s19 107)) (y := 0) hr22 (by decide)).mp c23) h
        exact J38 s19 _ _ _ ⟨hP, hS, lv_sub hl [0, 1] rfl, h⟩
      · have h := if_f (mt (i2_eq (x := (gI s19 107)) (y := 0) hr22 (by decide)).mpr c23) h
        refine lv_aload_n hx hb dX6_readStore_27 rfl (lv_at hl 0 rfl) ?_
        refine lv_aload_n hx hb dX6_readStore_28 rfl (lv_at hl 1 rfl) ?_
        obtain ⟨s25, hc24, h⟩ := bn_e h
        refine ywVv (As := [.ref (a 39)]) (rest := []) (C := RX6) (n := 1) (ws' := CS D a s25) ⟨hx, hb, hml, hown, ht⟩ (k_x6_readStatement l D a _ _ _ hc24) (zgV ml_X6_47 im_X6_readStatement se_X6_readStatement in_X6 co_X6_readStatement) rfl rfl (by decide +kernel) ⟨Nat.le_of_ble_eq_true rfl, Nat.le_of_ble_eq_true rfl⟩ hN hK hP (hDD _) hS hA 5 CW_5 rfl rfl rfl hl.1 rfl (Nat.le_of_ble_eq_true rfl) dX6_readStore_29 ⟨Nat.le_of_ble_eq_true rfl, Nat.le_of_ble_eq_true rfl⟩ (fun H locs hP hS => ?_)
        refine lv_iinc (v := i2 (x18 + 1)) (lv' := [(2, .int (i2 (x18 + 1))), (0, .ref (a 5)), (1, .ref (a 39))]) hx hb dX6_readStore_32 hl (k := 2) rfl (i2_add x18 1) (by decide) rfl (fun ls hl => ?_)
        refine lv_goto (tgt := 14) hx hb dX6_readStore_35 (by decide) ?_
        exact ih14 (x18 + 1, s25) _ _ _ ⟨hP, hS, lv_sub hl [1, 2, 0] rfl, h⟩
  refine lv_aload_n hx hb dX6_readStore_0 rfl (lv_at hl 1 rfl) ?_
  obtain ⟨s27, hc26, h⟩ := bn_e h
  refine ywVv (As := []) (rest := []) (C := RX5) (n := 0) (ws' := CS D a s27) ⟨hx, hb, hml, hown, ht⟩ (k_x5_clear l D a _ _ _ hc26) (zgV ml_X6_31 im_X5_clear se_X5_clear in_X5 co_X5_clear) rfl rfl (by decide +kernel) ⟨Nat.le_of_ble_eq_true rfl, Nat.le_of_ble_eq_true rfl⟩ hN hK hP (hDD _) hS hA 39 CW_39 rfl rfl rfl hl.1 rfl (Nat.le_of_ble_eq_true rfl) dX6_readStore_1 ⟨Nat.le_of_ble_eq_true rfl, Nat.le_of_ble_eq_true rfl⟩ (fun H locs hP hS => ?_)
  refine lv_aload_n hx hb dX6_readStore_4 rfl (lv_at hl 0 rfl) ?_
  refine lv_aload_n hx hb dX6_readStore_5 rfl (lv_at hl 1 rfl) ?_
  refine va_get (D := D) (ci := 5) (v := .ref (a 47)) (C := RX5) (T := TX5) (N := 14) hx hb ht inX5 hown hK hP 39 CW_39 rfl 11 (by decide) (ht (.fieldLink RX6 36 "CloneVolumes$Plan" "code" "LCloneVolumes$Code;") fl_X6_36) (fun _ h9 => h9) rfl dX6_readStore_6 ?_
  obtain ⟨s29, hc28, h⟩ := bn_e h
  refine ywVv (As := [.ref (a 47)]) (rest := []) (C := RX6) (n := 1) (ws' := CS D a s29) ⟨hx, hb, hml, hown, ht⟩ (k_x6_begin l D a _ _ _ hc28) (zgV ml_X6_40 im_X6_begin se_X6_begin in_X6 co_X6_begin) rfl rfl (by decide +kernel) ⟨Nat.le_of_ble_eq_true rfl, Nat.le_of_ble_eq_true rfl⟩ hN hK hP (hDD _) hS hA 5 CW_5 rfl rfl rfl hl.1 rfl (Nat.le_of_ble_eq_true rfl) dX6_readStore_9 ⟨Nat.le_of_ble_eq_true rfl, Nat.le_of_ble_eq_true rfl⟩ (fun H locs hP hS => ?_)
  refine lv_iconst (v := 0) hx hb dX6_readStore_12 (by decide) ?_
  refine lv_istore_n (lv' := [(2, .int 0), (0, .ref (a 5)), (1, .ref (a 39))]) hx hb dX6_readStore_13 rfl hl (by decide) rfl (fun ls hl => ?_)
  exact J14 FU (0, s29) _ _ _ ⟨hP, hS, lv_sub hl [1, 2, 0] rfl, h⟩
