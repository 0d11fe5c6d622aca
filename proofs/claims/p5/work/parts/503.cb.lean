theorem co_J0_toCharArray_70df3 : Cond.code yJ0_toCharArray_70df3 cJ0_toCharArray_70df3 1 (some (.array .char)) ∈ lw_gd := zm (List.mem_of_getElem? (i := 256) (by decide +kernel)) rfl
theorem co_X0_init : Cond.code yX0_init cX0_init 1 none ∈ lw_gd := zm (List.mem_of_getElem? (i := 452) (by decide +kernel)) rfl
theorem co_X5_clear : Cond.code yX5_clear cX5_clear 2 none ∈ lw_gd := zm (List.mem_of_getElem? (i := 470) (by decide +kernel)) rfl
theorem cx_X5_27 : Cond.classLink RX5 27 RX0 ∈ lw_gd := zm (List.mem_of_getElem? (i := 448) (by decide +kernel)) rfl
theorem fl_X3_11 : Cond.fieldLink RX3 11 "CloneVolumes$Machine" "stack" "[I" ∈ lw_gd := zm (List.mem_of_getElem? (i := 630) (by decide +kernel)) rfl
theorem fl_X3_15 : Cond.fieldLink RX3 15 "CloneVolumes$Machine" "state" "LCloneVolumes$State;" ∈ lw_gd := zm (List.mem_of_getElem? (i := 646) (by decide +kernel)) rfl
theorem fl_X5_15 : Cond.fieldLink RX5 15 "CloneVolumes$Plan" "kinds" "[I" ∈ lw_gd := zm (List.mem_of_getElem? (i := 490) (by decide +kernel)) rfl
theorem fl_X5_18 : Cond.fieldLink RX5 18 "CloneVolumes$Plan" "who" "[I" ∈ lw_gd := zm (List.mem_of_getElem? (i := 492) (by decide +kernel)) rfl
theorem fl_X5_21 : Cond.fieldLink RX5 21 "CloneVolumes$Plan" "first" "[I" ∈ lw_gd := zm (List.mem_of_getElem? (i := 494) (by decide +kernel)) rfl
theorem fl_X5_24 : Cond.fieldLink RX5 24 "CloneVolumes$Plan" "second" "[I" ∈ lw_gd := zm (List.mem_of_getElem? (i := 496) (by decide +kernel)) rfl
theorem fl_X5_30 : Cond.fieldLink RX5 30 "CloneVolumes$Plan" "code" "LCloneVolumes$Code;" ∈ lw_gd := zm (List.mem_of_getElem? (i := 498) (by decide +kernel)) rfl
theorem fl_X5_34 : Cond.fieldLink RX5 34 "CloneVolumes$Plan" "begins" "[I" ∈ lw_gd := zm (List.mem_of_getElem? (i := 502) (by decide +kernel)) rfl
theorem fl_X5_37 : Cond.fieldLink RX5 37 "CloneVolumes$Plan" "ends" "[I" ∈ lw_gd := zm (List.mem_of_getElem? (i := 505) (by decide +kernel)) rfl
theorem fl_X5_43 : Cond.fieldLink RX5 43 "CloneVolumes$Plan" "statements" "I" ∈ lw_gd := zm (List.mem_of_getElem? (i := 480) (by decide +kernel)) rfl
theorem fl_X5_47 : Cond.fieldLink RX5 47 "CloneVolumes$Plan" "volumes" "I" ∈ lw_gd := zm (List.mem_of_getElem? (i := 483) (by decide +kernel)) rfl
theorem fl_X5_50 : Cond.fieldLink RX5 50 "CloneVolumes$Plan" "changes" "I" ∈ lw_gd := zm (List.mem_of_getElem? (i := 486) (by decide +kernel)) rfl
theorem fl_X5_53 : Cond.fieldLink RX5 53 "CloneVolumes$Plan" "churn" "I" ∈ lw_gd := zm (List.mem_of_getElem? (i := 477) (by decide +kernel)) rfl
theorem fl_X5_56 : Cond.fieldLink RX5 56 "CloneVolumes$Code" "size" "I" ∈ lw_gd := zm (List.mem_of_getElem? (i := 458) (by decide +kernel)) rfl
theorem fl_X5_9 : Cond.fieldLink RX5 9 "CloneVolumes$Plan" "names" "[I" ∈ lw_gd := zm (List.mem_of_getElem? (i := 488) (by decide +kernel)) rfl
theorem fl_X6_23 : Cond.fieldLink RX6 23 "CloneVolumes$Reader" "words" "[C" ∈ lw_gd := zm (List.mem_of_getElem? (i := 303) (by decide +kernel)) rfl
theorem fl_X6_27 : Cond.fieldLink RX6 27 "CloneVolumes$Reader" "tape" "LCloneVolumes$Tape;" ∈ lw_gd := zm (List.mem_of_getElem? (i := 302) (by decide +kernel)) rfl
theorem fl_X6_9 : Cond.fieldLink RX6 9 "CloneVolumes$Reader" "place" "I" ∈ lw_gd := zm (List.mem_of_getElem? (i := 300) (by decide +kernel)) rfl
theorem ia_X0 : Cond.instantiable RX0 2 ∈ lw_gd := zm (List.mem_of_getElem? (i := 449) (by decide +kernel)) rfl
theorem im_J0_toCharArray_70df3 : Cond.instanceMethod yJ0_toCharArray_70df3 ∈ lw_gd := zm (List.mem_of_getElem? (i := 254) (by decide +kernel)) rfl
theorem im_X0_init : Cond.instanceMethod yX0_init ∈ lw_gd := zm (List.mem_of_getElem? (i := 451) (by decide +kernel)) rfl
theorem im_X5_clear : Cond.instanceMethod yX5_clear ∈ lw_gd := zm (List.mem_of_getElem? (i := 468) (by decide +kernel)) rfl
theorem in_X0 : Cond.initialized RX0 ∈ lw_gd := zm (List.mem_of_getElem? (i := 210) (by decide +kernel)) rfl
theorem in_X5 : Cond.initialized RX5 ∈ lw_gd := zm (List.mem_of_getElem? (i := 209) (by decide +kernel)) rfl
theorem ml_X3_3 : Cond.methodLink RX3 3 objectInit ∈ lw_gd := zm (List.mem_of_getElem? (i := 629) (by decide +kernel)) rfl
theorem ml_X5_3 : Cond.methodLink RX5 3 objectInit ∈ lw_gd := zm (List.mem_of_getElem? (i := 447) (by decide +kernel)) rfl
theorem ml_X5_40 : Cond.methodLink RX5 40 yX5_clear ∈ lw_gd := zm (List.mem_of_getElem? (i := 467) (by decide +kernel)) rfl
theorem ml_X6_17 : Cond.methodLink RX6 17 yJ0_toCharArray_70df3 ∈ lw_gd := zm (List.mem_of_getElem? (i := 253) (by decide +kernel)) rfl
theorem ml_X6_3 : Cond.methodLink RX6 3 objectInit ∈ lw_gd := zm (List.mem_of_getElem? (i := 251) (by decide +kernel)) rfl
theorem se_J0_toCharArray_70df3 : Cond.selects RJ0 yJ0_toCharArray_70df3 yJ0_toCharArray_70df3 ∈ lw_gd := zm (List.mem_of_getElem? (i := 255) (by decide +kernel)) rfl
theorem se_X5_clear : Cond.selects RX5 yX5_clear yX5_clear ∈ lw_gd := zm (List.mem_of_getElem? (i := 469) (by decide +kernel)) rfl
theorem dX3_init_0 : decode cX3_init 0 = .ok (.aload_n 0, 1) := by decide +kernel
theorem dX3_init_1 : decode cX3_init 1 = .ok (.invokespecial 3, 3) := by decide +kernel
theorem dX3_init_4 : decode cX3_init 4 = .ok (.aload_n 0, 1) := by decide +kernel
theorem dX3_init_5 : decode cX3_init 5 = .ok (.bipush 64, 2) := by decide +kernel
theorem dX3_init_7 : decode cX3_init 7 = .ok (.newarray .int, 2) := by decide +kernel
theorem dX3_init_9 : decode cX3_init 9 = .ok (.putfield 11, 3) := by decide +kernel
theorem dX3_init_12 : decode cX3_init 12 = .ok (.aload_n 0, 1) := by decide +kernel
theorem dX3_init_13 : decode cX3_init 13 = .ok (.aload_n 1, 1) := by decide +kernel
theorem dX3_init_14 : decode cX3_init 14 = .ok (.putfield 15, 3) := by decide +kernel
theorem dX3_init_17 : decode cX3_init 17 = .ok (.return_, 1) := by decide +kernel
theorem dX5_clear_0 : decode cX5_clear 0 = .ok (.aload_n 0, 1) := by decide +kernel
theorem dX5_clear_1 : decode cX5_clear 1 = .ok (.iconst 0, 1) := by decide +kernel
theorem dX5_clear_2 : decode cX5_clear 2 = .ok (.putfield 43, 3) := by decide +kernel
theorem dX5_clear_5 : decode cX5_clear 5 = .ok (.aload_n 0, 1) := by decide +kernel
theorem dX5_clear_6 : decode cX5_clear 6 = .ok (.iconst 0, 1) := by decide +kernel
theorem dX5_clear_7 : decode cX5_clear 7 = .ok (.putfield 47, 3) := by decide +kernel
theorem dX5_clear_10 : decode cX5_clear 10 = .ok (.aload_n 0, 1) := by decide +kernel
theorem dX5_clear_11 : decode cX5_clear 11 = .ok (.iconst 0, 1) := by decide +kernel
theorem dX5_clear_12 : decode cX5_clear 12 = .ok (.putfield 50, 3) := by decide +kernel
theorem dX5_clear_15 : decode cX5_clear 15 = .ok (.aload_n 0, 1) := by decide +kernel
theorem dX5_clear_16 : decode cX5_clear 16 = .ok (.iconst 0, 1) := by decide +kernel
theorem dX5_clear_17 : decode cX5_clear 17 = .ok (.putfield 53, 3) := by decide +kernel
theorem dX5_clear_20 : decode cX5_clear 20 = .ok (.aload_n 0, 1) := by decide +kernel
theorem dX5_clear_21 : decode cX5_clear 21 = .ok (.getfield 30, 3) := by decide +kernel
theorem dX5_clear_24 : decode cX5_clear 24 = .ok (.iconst 0, 1) := by decide +kernel
theorem dX5_clear_25 : decode cX5_clear 25 = .ok (.putfield 56, 3) := by decide +kernel
theorem dX5_clear_28 : decode cX5_clear 28 = .ok (.iconst 0, 1) := by decide +kernel
theorem dX5_clear_29 : decode cX5_clear 29 = .ok (.istore_n 1, 1) := by decide +kernel
theorem dX5_clear_30 : decode cX5_clear 30 = .ok (.iload_n 1, 1) := by decide +kernel
theorem dX5_clear_31 : decode cX5_clear 31 = .ok (.iconst 3, 1) := by decide +kernel
theorem dX5_clear_32 : decode cX5_clear 32 = .ok (.if_icmp .ge 23, 3) := by decide +kernel
theorem dX5_clear_35 : decode cX5_clear 35 = .ok (.aload_n 0, 1) := by decide +kernel
theorem dX5_clear_36 : decode cX5_clear 36 = .ok (.getfield 34, 3) := by decide +kernel
theorem dX5_clear_39 : decode cX5_clear 39 = .ok (.iload_n 1, 1) := by decide +kernel
theorem dX5_clear_40 : decode cX5_clear 40 = .ok (.iconst (-1), 1) := by decide +kernel
theorem dX5_clear_41 : decode cX5_clear 41 = .ok (.iastore, 1) := by decide +kernel
theorem dX5_clear_42 : decode cX5_clear 42 = .ok (.aload_n 0, 1) := by decide +kernel
theorem dX5_clear_43 : decode cX5_clear 43 = .ok (.getfield 37, 3) := by decide +kernel
theorem dX5_clear_46 : decode cX5_clear 46 = .ok (.iload_n 1, 1) := by decide +kernel
theorem dX5_clear_47 : decode cX5_clear 47 = .ok (.iconst (-1), 1) := by decide +kernel
theorem dX5_clear_48 : decode cX5_clear 48 = .ok (.iastore, 1) := by decide +kernel
theorem dX5_clear_49 : decode cX5_clear 49 = .ok (.iinc 1 1, 3) := by decide +kernel
theorem dX5_clear_52 : decode cX5_clear 52 = .ok (.goto (-22), 3) := by decide +kernel
theorem dX5_clear_55 : decode cX5_clear 55 = .ok (.return_, 1) := by decide +kernel
theorem dX5_init_0 : decode cX5_init 0 = .ok (.aload_n 0, 1) := by decide +kernel
theorem dX5_init_1 : decode cX5_init 1 = .ok (.invokespecial 3, 3) := by decide +kernel
theorem dX5_init_4 : decode cX5_init 4 = .ok (.aload_n 0, 1) := by decide +kernel
theorem dX5_init_5 : decode cX5_init 5 = .ok (.bipush 48, 2) := by decide +kernel
theorem dX5_init_7 : decode cX5_init 7 = .ok (.newarray .int, 2) := by decide +kernel
theorem dX5_init_9 : decode cX5_init 9 = .ok (.putfield 9, 3) := by decide +kernel
theorem dX5_init_12 : decode cX5_init 12 = .ok (.aload_n 0, 1) := by decide +kernel
theorem dX5_init_13 : decode cX5_init 13 = .ok (.bipush 60, 2) := by decide +kernel
theorem dX5_init_15 : decode cX5_init 15 = .ok (.newarray .int, 2) := by decide +kernel
theorem dX5_init_17 : decode cX5_init 17 = .ok (.putfield 15, 3) := by decide +kernel
theorem dX5_init_20 : decode cX5_init 20 = .ok (.aload_n 0, 1) := by decide +kernel
theorem dX5_init_21 : decode cX5_init 21 = .ok (.bipush 60, 2) := by decide +kernel
theorem dX5_init_23 : decode cX5_init 23 = .ok (.newarray .int, 2) := by decide +kernel
theorem dX5_init_25 : decode cX5_init 25 = .ok (.putfield 18, 3) := by decide +kernel
theorem dX5_init_28 : decode cX5_init 28 = .ok (.aload_n 0, 1) := by decide +kernel
theorem dX5_init_29 : decode cX5_init 29 = .ok (.bipush 60, 2) := by decide +kernel
theorem dX5_init_31 : decode cX5_init 31 = .ok (.newarray .int, 2) := by decide +kernel
theorem dX5_init_33 : decode cX5_init 33 = .ok (.putfield 21, 3) := by decide +kernel
theorem dX5_init_36 : decode cX5_init 36 = .ok (.aload_n 0, 1) := by decide +kernel
theorem dX5_init_37 : decode cX5_init 37 = .ok (.bipush 60, 2) := by decide +kernel
theorem dX5_init_39 : decode cX5_init 39 = .ok (.newarray .int, 2) := by decide +kernel
theorem dX5_init_41 : decode cX5_init 41 = .ok (.putfield 24, 3) := by decide +kernel
theorem dX5_init_44 : decode cX5_init 44 = .ok (.aload_n 0, 1) := by decide +kernel
theorem dX5_init_45 : decode cX5_init 45 = .ok (.new 27, 3) := by decide +kernel
theorem dX5_init_48 : decode cX5_init 48 = .ok (.dup, 1) := by decide +kernel
theorem dX5_init_49 : decode cX5_init 49 = .ok (.invokespecial 29, 3) := by decide +kernel
theorem dX5_init_52 : decode cX5_init 52 = .ok (.putfield 30, 3) := by decide +kernel
theorem dX5_init_55 : decode cX5_init 55 = .ok (.aload_n 0, 1) := by decide +kernel
theorem dX5_init_56 : decode cX5_init 56 = .ok (.iconst 3, 1) := by decide +kernel
theorem dX5_init_57 : decode cX5_init 57 = .ok (.newarray .int, 2) := by decide +kernel
theorem dX5_init_59 : decode cX5_init 59 = .ok (.putfield 34, 3) := by decide +kernel
theorem dX5_init_62 : decode cX5_init 62 = .ok (.aload_n 0, 1) := by decide +kernel
theorem dX5_init_63 : decode cX5_init 63 = .ok (.iconst 3, 1) := by decide +kernel
theorem dX5_init_64 : decode cX5_init 64 = .ok (.newarray .int, 2) := by decide +kernel
theorem dX5_init_66 : decode cX5_init 66 = .ok (.putfield 37, 3) := by decide +kernel
theorem dX5_init_69 : decode cX5_init 69 = .ok (.aload_n 0, 1) := by decide +kernel
theorem dX5_init_70 : decode cX5_init 70 = .ok (.invokevirtual 40, 3) := by decide +kernel
theorem dX5_init_73 : decode cX5_init 73 = .ok (.return_, 1) := by decide +kernel
theorem dX6_init_0 : decode cX6_init 0 = .ok (.aload_n 0, 1) := by decide +kernel
theorem dX6_init_1 : decode cX6_init 1 = .ok (.invokespecial 3, 3) := by decide +kernel
theorem dX6_init_4 : decode cX6_init 4 = .ok (.aload_n 0, 1) := by decide +kernel
theorem dX6_init_5 : decode cX6_init 5 = .ok (.iconst (-1), 1) := by decide +kernel
theorem dX6_init_6 : decode cX6_init 6 = .ok (.putfield 9, 3) := by decide +kernel
theorem dX6_init_9 : decode cX6_init 9 = .ok (.aload_n 0, 1) := by decide +kernel
theorem dX6_init_10 : decode cX6_init 10 = .ok (.ldc 15, 2) := by decide +kernel
theorem dX6_init_12 : decode cX6_init 12 = .ok (.invokevirtual 17, 3) := by decide +kernel
theorem dX6_init_15 : decode cX6_init 15 = .ok (.putfield 23, 3) := by decide +kernel
theorem dX6_init_18 : decode cX6_init 18 = .ok (.aload_n 0, 1) := by decide +kernel
theorem dX6_init_19 : decode cX6_init 19 = .ok (.aload_n 1, 1) := by decide +kernel
theorem dX6_init_20 : decode cX6_init 20 = .ok (.putfield 27, 3) := by decide +kernel
theorem dX6_init_23 : decode cX6_init 23 = .ok (.return_, 1) := by decide +kernel
set_option maxHeartbeats 4000000 in
set_option maxRecDepth 100000 in
theorem k_X3_init (l : Launch) (D : va_G) (sz : Nat) (h0 h1 : Nat) : Met l yX3_init (wz yX3_init cX3_init 2 none) { frames := 1, cells := 1, slots := 64, locals := 60 } (va_Pc [.ref h0, .ref h1] (zW D sz [(h0, .inr (3, [.null, .int 0, .int 0, .int 0, .int 0, .int 0, .int 0, .int 0, .int 0, .null]))])) (va_Qv (fun (_ : (Nat)) => True) (fun u t => zB D (va_A [(h0, .inr (3, [.null, .int 0, .int 0, .int 0, .int 0, .int 0, .int 0, .int 0, .int 0, .null]))] sz) ((fun (u : (Nat)) => [(h0, .inr (3, [.ref u, .int 0, .int 0, .int 0, .int 0, .int 0, .int 0, .int 0, .int 0, .ref h1])), (u, .inl (D.1 13, 64, .inl (fun _ => 0)))]) u) t) (va_A [(h0, .inr (3, [.null, .int 0, .int 0, .int 0, .int 0, .int 0, .int 0, .int 0, .int 0, .null]))] sz)) 1 64 (va_A [(h0, .inr (3, [.null, .int 0, .int 0, .int 0, .int 0, .int 0, .int 0, .int 0, .int 0, .null]))] sz) := by
  refine Met.ofW (cc := cX3_init) (maxL := 2) (ret := none) (by decide) rfl ?_
  intro p e s m args below meth c s₁ B hml hv
  obtain ⟨rfl, hsz, hP, hK, hD0⟩ := hv
  have hx := B.exec
  have hb := B.bytes
  have hr := B.returns
  have hts := atoms_spec (ws := wz yX3_init cX3_init 2 none) B.pre
  have ht : ∀ w ∈ lw_gd, w.before _ s = true := fun w h => hts w (List.mem_cons_of_mem _ h)
  have hown : s.vm.findClass RX3 = some m.cls := findClass_of_methodNamed B.named
  have hlocks := B.notSynchronized
  have hin : meth.name = "<init>" := (name_of_methodNamed B.named B.method).1
  subst hsz
  have hD := hD0.self (sz := s.heap.size)
  generalize hAe : va_A [(h0, .inr (3, [.null, .int 0, .int 0, .int 0, .int 0, .int 0, .int 0, .int 0, .int 0, .null]))] s.heap.size = A at hD ⊢
  have hA : ∀ q : Nat, s.heap.size ≤ q → A q := fun q h => by rw [← hAe]; exact Or.inr h
  have hS : va_S A s.heap s.heap [] := va_S.rf
  have zi0 : (0 : Int32).toInt = 0 := rfl
  have zi1 : (1 : Int32).toInt = 1 := rfl
  have zi2 : (2 : Int32).toInt = 2 := rfl
  have zi3 : (3 : Int32).toInt = 3 := rfl
  have zi4 : (4 : Int32).toInt = 4 := rfl
  have hl := lv_entry ([.ref h0, .ref h1]) (n := 2) (Nat.le_of_ble_eq_true rfl)
  rw [lg_entry_eq]
  generalize (lg_sl ([.ref h0, .ref h1]) ++ List.replicate (2 - (lg_sl ([.ref h0, .ref h1])).length) Slot.unset).toArray = ls at hl ⊢
  have hl : lv_has ls 2 [(0, .ref h0), (1, .ref h1)] := hl
  refine lv_aload_n hx hb dX3_init_0 rfl (lv_at hl 0 rfl) ?_
  refine W.objInit hx hb hown (ht _ ml_X3_3) (ht _ im_obj) (ht _ co_obj) rfl (by rw [hml]; exact hl.1) rfl dX3_init_1 (Nat.le_of_ble_eq_true rfl) (Nat.le_of_ble_eq_true rfl) ?_
  refine W.eq (g2 := F0 m 4 ls []) rfl ?_
  refine lv_aload_n hx hb dX3_init_4 rfl (lv_at hl 0 rfl) ?_
  refine lv_bipush (v := 64) hx hb dX3_init_5 (by decide) ?_
  refine va_newa (atype := .int) (a0 := (64, .inl (fun _ => 0))) (ty := .int) (N' := 64) hx hb (ht _ ac_int) rfl hK hP hD hS hA (fun _ => rfl) (by decide) (by decide) (by decide) (Nat.le_of_ble_eq_true rfl) (Nat.le_of_ble_eq_true rfl) dX3_init_7 (fun q_1 cA H hK2 hP hD hS => ?_)
  obtain rfl := z_cls_int hK hK2
  refine W.widen (k := 1) (n := 64) (Nat.le_of_ble_eq_true rfl) (Nat.le_of_ble_eq_true rfl) ?_
  have hP : va_P D vwCl [(h0, .inr (3, [.null, .int 0, .int 0, .int 0, .int 0, .int 0, .int 0, .int 0, .int 0, .null])), (q_1, .inl (D.1 13, 64, .inl (fun _ => 0)))] H := hP
  have hD : va_D A [(h0, .inr (3, [.null, .int 0, .int 0, .int 0, .int 0, .int 0, .int 0, .int 0, .int 0, .null])), (q_1, .inl (D.1 13, 64, .inl (fun _ => 0)))] := hD
  refine va_putF (D := D) (ci := 3) (v := .ref q_1) (ty := .array .int) (C := RX3) (T := TX3) (N := 10) hx hb ht inX3 tyX3 tyX3_ok nmX3 hown hK hP hD hS 0 rfl rfl 0 (by decide) (ht (.fieldLink RX3 11 "CloneVolumes$Machine" "stack" "[I") fl_X3_11) (fun _ h9 => h9) rfl hin rfl (by decide +kernel) rfl rfl (Nat.le_of_ble_eq_true rfl) dX3_init_9 (fun H locs hP hD hS => ?_)
  have hP : va_P D vwCl [(h0, .inr (3, [.ref q_1, .int 0, .int 0, .int 0, .int 0, .int 0, .int 0, .int 0, .int 0, .null])), (q_1, .inl (D.1 13, 64, .inl (fun _ => 0)))] H := hP
  have hD : va_D A [(h0, .inr (3, [.ref q_1, .int 0, .int 0, .int 0, .int 0, .int 0, .int 0, .int 0, .int 0, .null])), (q_1, .inl (D.1 13, 64, .inl (fun _ => 0)))] := hD
  refine lv_aload_n hx hb dX3_init_12 rfl (lv_at hl 0 rfl) ?_
  refine lv_aload_n hx hb dX3_init_13 rfl (lv_at hl 1 rfl) ?_
  refine va_putF (D := D) (ci := 3) (v := .ref h1) (ty := .object "CloneVolumes$State") (C := RX3) (T := TX3) (N := 10) hx hb ht inX3 tyX3 tyX3_ok nmX3 hown hK hP hD hS 0 rfl rfl 9 (by decide) (ht (.fieldLink RX3 15 "CloneVolumes$Machine" "state" "LCloneVolumes$State;") fl_X3_15) (fun _ h9 => h9) rfl hin rfl (by decide +kernel) rfl rfl (Nat.le_of_ble_eq_true rfl) dX3_init_14 (fun H locs hP hD hS => ?_)
  have hP : va_P D vwCl [(h0, .inr (3, [.ref q_1, .int 0, .int 0, .int 0, .int 0, .int 0, .int 0, .int 0, .int 0, .ref h1])), (q_1, .inl (D.1 13, 64, .inl (fun _ => 0)))] H := hP
  have hD : va_D A [(h0, .inr (3, [.ref q_1, .int 0, .int 0, .int 0, .int 0, .int 0, .int 0, .int 0, .int 0, .ref h1])), (q_1, .inl (D.1 13, 64, .inl (fun _ => 0)))] := hD
  have hP9 := hP.sub (ws' := [(h0, .inr (3, [.ref q_1, .int 0, .int 0, .int 0, .int 0, .int 0, .int 0, .int 0, .int 0, .ref h1])), (q_1, .inl (D.1 13, 64, .inl (fun _ => 0)))]) [0, 1] rfl
  have hD9 := hD.sub (ws' := [(h0, .inr (3, [.ref q_1, .int 0, .int 0, .int 0, .int 0, .int 0, .int 0, .int 0, .int 0, .ref h1])), (q_1, .inl (D.1 13, 64, .inl (fun _ => 0)))]) [0, 1] (by decide) rfl
  refine W.widen (k := 1) (n := 64) (Nat.le_of_ble_eq_true rfl) (Nat.le_of_ble_eq_true rfl) ?_
  exact W.vret hx hb hr (fun t ht hW => ⟨⟨q_1, rfl, trivial, by rw [ht]; exact hP9, va_K.moved hW.alike hK, hD9⟩, hS.F ht⟩) hS.2.2 dX3_init_17
set_option maxHeartbeats 4000000 in
set_option maxRecDepth 100000 in
theorem k_X6_init (l : Launch) (D : va_G) (sz : Nat) (b0 qS vS : Nat) (fS : Nat → Int32) (h0 h1 : Nat) (hB : ∀ q, va_A [(h0, .inr (6, [.int 0, .int 0, .null, .null, .null, .int 0, .int 0, .int 0, .int 0, .int 0, .int 0, .int 0]))] sz q → b0 ≤ q) : Met l yX6_init (wz yX6_init cX6_init 2 none) { frames := 3, cells := 1, slots := 179, locals := 180 } (va_Pc [.ref h0, .ref h1] (fun U => zW D sz [(h0, .inr (6, [.int 0, .int 0, .null, .null, .null, .int 0, .int 0, .int 0, .int 0, .int 0, .int 0, .int 0]))] U ∧ EE b0 qS vS fS U)) (va_Qv (fun (_ : (Nat)) => True) (fun u t => zB D (va_A [(h0, .inr (6, [.int 0, .int 0, .null, .null, .null, .int 0, .int 0, .int 0, .int 0, .int 0, .int 0, .int 0]))] sz) ((fun (u : (Nat)) => [(h0, .inr (6, [.int 0, .int (-1), .ref h1, .ref u, .null, .int 0, .int 0, .int 0, .int 0, .int 0, .int 0, .int 0])), (u, .inl (D.1 14, 179, .inl (fun j => zw (fS j))))]) u) t) (va_A [(h0, .inr (6, [.int 0, .int 0, .null, .null, .null, .int 0, .int 0, .int 0, .int 0, .int 0, .int 0, .int 0]))] sz)) 1 179 (va_A [(h0, .inr (6, [.int 0, .int 0, .null, .null, .null, .int 0, .int 0, .int 0, .int 0, .int 0, .int 0, .int 0]))] sz) := by
  refine Met.ofW (cc := cX6_init) (maxL := 2) (ret := none) (by decide) rfl ?_
  intro p e s m args below meth c s₁ B hml hv
  obtain ⟨rfl, ⟨hsz, hP, hK, hD0⟩, hE⟩ := hv
  have hx := B.exec
  have hb := B.bytes
  have hr := B.returns
  have hts := atoms_spec (ws := wz yX6_init cX6_init 2 none) B.pre
  have ht : ∀ w ∈ lw_gd, w.before _ s = true := fun w h => hts w (List.mem_cons_of_mem _ h)
  have hown : s.vm.findClass RX6 = some m.cls := findClass_of_methodNamed B.named
  have hlocks := B.notSynchronized
  have hin : meth.name = "<init>" := (name_of_methodNamed B.named B.method).1
  subst hsz
  have hD := hD0.self (sz := s.heap.size)
  have hAb := hB
  generalize hAe : va_A [(h0, .inr (6, [.int 0, .int 0, .null, .null, .null, .int 0, .int 0, .int 0, .int 0, .int 0, .int 0, .int 0]))] s.heap.size = A at hAb hD ⊢
  have hA : ∀ q : Nat, s.heap.size ≤ q → A q := fun q h => by rw [← hAe]; exact Or.inr h
  have hS : va_S A s.heap s.heap [] := va_S.rf
  have zi0 : (0 : Int32).toInt = 0 := rfl
  have zi1 : (1 : Int32).toInt = 1 := rfl
  have zi2 : (2 : Int32).toInt = 2 := rfl
  have zi3 : (3 : Int32).toInt = 3 := rfl
  have zi4 : (4 : Int32).toInt = 4 := rfl
  have hl := lv_entry ([.ref h0, .ref h1]) (n := 2) (Nat.le_of_ble_eq_true rfl)
  rw [lg_entry_eq]
  generalize (lg_sl ([.ref h0, .ref h1]) ++ List.replicate (2 - (lg_sl ([.ref h0, .ref h1])).length) Slot.unset).toArray = ls at hl ⊢
  have hl : lv_has ls 2 [(0, .ref h0), (1, .ref h1)] := hl
  refine lv_aload_n hx hb dX6_init_0 rfl (lv_at hl 0 rfl) ?_
  refine W.objInit hx hb hown (ht _ ml_X6_3) (ht _ im_obj) (ht _ co_obj) rfl (by rw [hml]; exact hl.1) rfl dX6_init_1 (Nat.le_of_ble_eq_true rfl) (Nat.le_of_ble_eq_true rfl) ?_
  refine W.eq (g2 := F0 m 4 ls []) rfl ?_
  refine lv_aload_n hx hb dX6_init_4 rfl (lv_at hl 0 rfl) ?_
  refine lv_iconst (v := (-1)) hx hb dX6_init_5 (by decide) ?_
  refine va_put (D := D) (ci := 6) (v := .int (-1)) (ty := .int) (C := RX6) (T := TX6) (N := 12) hx hb ht inX6 tyX6 tyX6_ok nmX6 hown hK hP hD hS 0 rfl rfl 1 (by decide) (ht (.fieldLink RX6 9 "CloneVolumes$Reader" "place" "I") fl_X6_9) (fun _ h9 => h9) rfl (by decide +kernel) rfl rfl (Nat.le_of_ble_eq_true rfl) dX6_init_6 (fun H locs hP hD hS => ?_)
  have hP : va_P D vwCl [(h0, .inr (6, [.int 0, .int (-1), .null, .null, .null, .int 0, .int 0, .int 0, .int 0, .int 0, .int 0, .int 0]))] H := hP
  have hD : va_D A [(h0, .inr (6, [.int 0, .int (-1), .null, .null, .null, .int 0, .int 0, .int 0, .int 0, .int 0, .int 0, .int 0]))] := hD
  refine lv_aload_n hx hb dX6_init_9 rfl (lv_at hl 0 rfl) ?_
  refine va_ldcS hx hb hown hE.1.2.2.2.2.2.2.2 dX6_init_10 ?_
  have hFc : ∀ q, va_A [] H.size q → A q := va_free (wc := []) hD hS hA [] rfl
  refine va_callr (va_runV (As := []) (rest := [.ref h0]) ⟨hx, hb, hml, hown, ht⟩ (kJ_toCharArray l D H.size b0 qS vS fS (fun q h => hAb q (hFc q h))) (cwV 0 ht (zgV ml_X6_17 im_J0_toCharArray_70df3 se_J0_toCharArray_70df3 in_J0 co_J0_toCharArray_70df3) rfl rfl rfl (by decide +kernel) ⟨Nat.le_of_ble_eq_true rfl, Nat.le_of_ble_eq_true rfl⟩) ⟨zWEb _ D _ _ _ _ _ _, by obtain ⟨cell, h1, h2, h3, -⟩ := (hE.2.1.kept (fun a h1 h2 => hS.2.1 a h1 (fun z => h2 (hAb a z)))); exact ⟨cell, h1, h2, h3⟩, fun U hU hW => ⟨rfl, ⟨by rw [hU], by rw [hU]; exact fun k q h => by simp at h, va_K.moved hW.alike hK, ⟨fun i j p q h => by simp at h, fun k q h => by simp at h⟩⟩, hE.go hS hAb hU hW⟩⟩ rfl rfl hl.1 rfl (lv_room (Nat.le_of_ble_eq_true rfl)) dX6_init_12 ⟨Nat.le_of_ble_eq_true rfl, Nat.le_of_ble_eq_true rfl⟩) hS (fun q _ h => hFc q h) hFc (fun u q_1 t H1 locs ht1 hvm hw hBB hz1 hk1 hS => ?_)
  subst hw
  obtain ⟨hP, hD⟩ := va_join (wr := [(h0, .inr (6, [.int 0, .int (-1), .null, .null, .null, .int 0, .int 0, .int 0, .int 0, .int 0, .int 0, .int 0]))]) (w1 := [(q_1, .inl (D.1 14, 179, .inl (fun j => zw (fS j))))]) (wc := []) hP hD [] [0] rfl rfl (by decide) (by decide) hk1 hFc (by rw [← ht1]; exact hBB.1) hBB.2.2
  generalize H1 = H at hP hS ⊢
  refine W.widen (k := 1) (n := 179) (Nat.le_of_ble_eq_true rfl) (Nat.le_of_ble_eq_true rfl) ?_
  have hP : va_P D vwCl [(h0, .inr (6, [.int 0, .int (-1), .null, .null, .null, .int 0, .int 0, .int 0, .int 0, .int 0, .int 0, .int 0])), (q_1, .inl (D.1 14, 179, .inl (fun j => zw (fS j))))] H := hP
  have hD : va_D A [(h0, .inr (6, [.int 0, .int (-1), .null, .null, .null, .int 0, .int 0, .int 0, .int 0, .int 0, .int 0, .int 0])), (q_1, .inl (D.1 14, 179, .inl (fun j => zw (fS j))))] := hD
  refine va_putF (D := D) (ci := 6) (v := .ref q_1) (ty := .array .char) (C := RX6) (T := TX6) (N := 12) hx hb ht inX6 tyX6 tyX6_ok nmX6 hown hK hP hD hS 0 rfl rfl 3 (by decide) (ht (.fieldLink RX6 23 "CloneVolumes$Reader" "words" "[C") fl_X6_23) (fun _ h9 => h9) rfl hin rfl (by decide +kernel) rfl rfl (Nat.le_of_ble_eq_true rfl) dX6_init_15 (fun H locs hP hD hS => ?_)
  have hP : va_P D vwCl [(h0, .inr (6, [.int 0, .int (-1), .null, .ref q_1, .null, .int 0, .int 0, .int 0, .int 0, .int 0, .int 0, .int 0])), (q_1, .inl (D.1 14, 179, .inl (fun j => zw (fS j))))] H := hP
  have hD : va_D A [(h0, .inr (6, [.int 0, .int (-1), .null, .ref q_1, .null, .int 0, .int 0, .int 0, .int 0, .int 0, .int 0, .int 0])), (q_1, .inl (D.1 14, 179, .inl (fun j => zw (fS j))))] := hD
  refine lv_aload_n hx hb dX6_init_18 rfl (lv_at hl 0 rfl) ?_
  refine lv_aload_n hx hb dX6_init_19 rfl (lv_at hl 1 rfl) ?_
  refine va_putF (D := D) (ci := 6) (v := .ref h1) (ty := .object "CloneVolumes$Tape") (C := RX6) (T := TX6) (N := 12) hx hb ht inX6 tyX6 tyX6_ok nmX6 hown hK hP hD hS 0 rfl rfl 2 (by decide) (ht (.fieldLink RX6 27 "CloneVolumes$Reader" "tape" "LCloneVolumes$Tape;") fl_X6_27) (fun _ h9 => h9) rfl hin rfl (by decide +kernel) rfl rfl (Nat.le_of_ble_eq_true rfl) dX6_init_20 (fun H locs hP hD hS => ?_)
  have hP : va_P D vwCl [(h0, .inr (6, [.int 0, .int (-1), .ref h1, .ref q_1, .null, .int 0, .int 0, .int 0, .int 0, .int 0, .int 0, .int 0])), (q_1, .inl (D.1 14, 179, .inl (fun j => zw (fS j))))] H := hP
  have hD : va_D A [(h0, .inr (6, [.int 0, .int (-1), .ref h1, .ref q_1, .null, .int 0, .int 0, .int 0, .int 0, .int 0, .int 0, .int 0])), (q_1, .inl (D.1 14, 179, .inl (fun j => zw (fS j))))] := hD
  have hP9 := hP.sub (ws' := [(h0, .inr (6, [.int 0, .int (-1), .ref h1, .ref q_1, .null, .int 0, .int 0, .int 0, .int 0, .int 0, .int 0, .int 0])), (q_1, .inl (D.1 14, 179, .inl (fun j => zw (fS j))))]) [0, 1] rfl
  have hD9 := hD.sub (ws' := [(h0, .inr (6, [.int 0, .int (-1), .ref h1, .ref q_1, .null, .int 0, .int 0, .int 0, .int 0, .int 0, .int 0, .int 0])), (q_1, .inl (D.1 14, 179, .inl (fun j => zw (fS j))))]) [0, 1] (by decide) rfl
  refine W.widen (k := 1) (n := 179) (Nat.le_of_ble_eq_true rfl) (Nat.le_of_ble_eq_true rfl) ?_
  exact W.vret hx hb hr (fun t ht hW => ⟨⟨q_1, rfl, trivial, by rw [ht]; exact hP9, va_K.moved hW.alike hK, hD9⟩, hS.F ht⟩) hS.2.2 dX6_init_23
set_option maxHeartbeats 4000000 in
set_option maxRecDepth 100000 in
theorem k_X5_clear0 (l : Launch) (D : va_G) (sz : Nat) (h0 h1 h2 h3 x1 x2 x3 x4 x5 x6 : Nat) (fb fe : Nat → Int32) : Met l yX5_clear (wz yX5_clear cX5_clear 2 none) { frames := 0, cells := 0, slots := 0, locals := 0 } (va_Pc [.ref h0] (zW D sz [(h0, .inr (5, [.int 0, .int 0, .int 0, .int 0, .int 0, .int 0, .ref x1, .ref x2, .ref x3, .ref x4, .ref x5, .ref h1, .ref h2, .ref h3])), (h1, .inr (0, [.ref x6, .int 0])), (h2, .inl (D.1 13, 3, .inl fb)), (h3, .inl (D.1 13, 3, .inl fe))])) (va_Qv (fun (_ : ((Nat → Int32) × (Nat → Int32))) => True) (fun u t => zB D (va_A [(h0, .inr (5, [.int 0, .int 0, .int 0, .int 0, .int 0, .int 0, .ref x1, .ref x2, .ref x3, .ref x4, .ref x5, .ref h1, .ref h2, .ref h3])), (h1, .inr (0, [.ref x6, .int 0])), (h2, .inl (D.1 13, 3, .inl fb)), (h3, .inl (D.1 13, 3, .inl fe))] sz) ((fun (u : ((Nat → Int32) × (Nat → Int32))) => [(h0, .inr (5, [.int 0, .int 0, .int 0, .int 0, .int 0, .int 0, .ref x1, .ref x2, .ref x3, .ref x4, .ref x5, .ref h1, .ref h2, .ref h3])), (h1, .inr (0, [.ref x6, .int 0])), (h2, .inl (D.1 13, 3, .inl u.1)), (h3, .inl (D.1 13, 3, .inl u.2))]) u) t) (va_A [(h0, .inr (5, [.int 0, .int 0, .int 0, .int 0, .int 0, .int 0, .ref x1, .ref x2, .ref x3, .ref x4, .ref x5, .ref h1, .ref h2, .ref h3])), (h1, .inr (0, [.ref x6, .int 0])), (h2, .inl (D.1 13, 3, .inl fb)), (h3, .inl (D.1 13, 3, .inl fe))] sz)) 0 0 (va_A [(h0, .inr (5, [.int 0, .int 0, .int 0, .int 0, .int 0, .int 0, .ref x1, .ref x2, .ref x3, .ref x4, .ref x5, .ref h1, .ref h2, .ref h3])), (h1, .inr (0, [.ref x6, .int 0])), (h2, .inl (D.1 13, 3, .inl fb)), (h3, .inl (D.1 13, 3, .inl fe))] sz) := by
  refine Met.ofW (cc := cX5_clear) (maxL := 2) (ret := none) (by decide) rfl ?_
  intro p e s m args below meth c s₁ B hml hv
  obtain ⟨rfl, hsz, hP, hK, hD0⟩ := hv
  have hx := B.exec
  have hb := B.bytes
  have hr := B.returns
  have hts := atoms_spec (ws := wz yX5_clear cX5_clear 2 none) B.pre
  have ht : ∀ w ∈ lw_gd, w.before _ s = true := fun w h => hts w (List.mem_cons_of_mem _ h)
  have hown : s.vm.findClass RX5 = some m.cls := findClass_of_methodNamed B.named
  have hlocks := B.notSynchronized
  subst hsz
  have hD := hD0.self (sz := s.heap.size)
  generalize hAe : va_A [(h0, .inr (5, [.int 0, .int 0, .int 0, .int 0, .int 0, .int 0, .ref x1, .ref x2, .ref x3, .ref x4, .ref x5, .ref h1, .ref h2, .ref h3])), (h1, .inr (0, [.ref x6, .int 0])), (h2, .inl (D.1 13, 3, .inl fb)), (h3, .inl (D.1 13, 3, .inl fe))] s.heap.size = A at hD ⊢
  have hA : ∀ q : Nat, s.heap.size ≤ q → A q := fun q h => by rw [← hAe]; exact Or.inr h
  have hS : va_S A s.heap s.heap [] := va_S.rf
  have zi0 : (0 : Int32).toInt = 0 := rfl
  have zi1 : (1 : Int32).toInt = 1 := rfl
  have zi2 : (2 : Int32).toInt = 2 := rfl
  have zi3 : (3 : Int32).toInt = 3 := rfl
  have zi4 : (4 : Int32).toInt = 4 := rfl
  have hl := lv_entry ([.ref h0]) (n := 2) (Nat.le_of_ble_eq_true rfl)
  rw [lg_entry_eq]
  generalize (lg_sl ([.ref h0]) ++ List.replicate (2 - (lg_sl ([.ref h0])).length) Slot.unset).toArray = ls at hl ⊢
  have hl : lv_has ls 2 [(0, .ref h0)] := hl
  refine lv_aload_n hx hb dX5_clear_0 rfl (lv_at hl 0 rfl) ?_
  refine lv_iconst (v := 0) hx hb dX5_clear_1 (by decide) ?_
  refine va_put (D := D) (ci := 5) (v := .int 0) (ty := .int) (C := RX5) (T := TX5) (N := 14) hx hb ht inX5 tyX5 tyX5_ok nmX5 hown hK hP hD hS 0 rfl rfl 3 (by decide) (ht (.fieldLink RX5 43 "CloneVolumes$Plan" "statements" "I") fl_X5_43) (fun _ h9 => h9) rfl (by decide +kernel) rfl rfl (Nat.le_of_ble_eq_true rfl) dX5_clear_2 (fun H locs hP hD hS => ?_)
  have hP : va_P D vwCl [(h0, .inr (5, [.int 0, .int 0, .int 0, .int 0, .int 0, .int 0, .ref x1, .ref x2, .ref x3, .ref x4, .ref x5, .ref h1, .ref h2, .ref h3])), (h1, .inr (0, [.ref x6, .int 0])), (h2, .inl (D.1 13, 3, .inl fb)), (h3, .inl (D.1 13, 3, .inl fe))] H := hP
  have hD : va_D A [(h0, .inr (5, [.int 0, .int 0, .int 0, .int 0, .int 0, .int 0, .ref x1, .ref x2, .ref x3, .ref x4, .ref x5, .ref h1, .ref h2, .ref h3])), (h1, .inr (0, [.ref x6, .int 0])), (h2, .inl (D.1 13, 3, .inl fb)), (h3, .inl (D.1 13, 3, .inl fe))] := hD
  refine lv_aload_n hx hb dX5_clear_5 rfl (lv_at hl 0 rfl) ?_
  refine lv_iconst (v := 0) hx hb dX5_clear_6 (by decide) ?_
  refine va_put (D := D) (ci := 5) (v := .int 0) (ty := .int) (C := RX5) (T := TX5) (N := 14) hx hb ht inX5 tyX5 tyX5_ok nmX5 hown hK hP hD hS 0 rfl rfl 4 (by decide) (ht (.fieldLink RX5 47 "CloneVolumes$Plan" "volumes" "I") fl_X5_47) (fun _ h9 => h9) rfl (by decide +kernel) rfl rfl (Nat.le_of_ble_eq_true rfl) dX5_clear_7 (fun H locs hP hD hS => ?_)
  have hP : va_P D vwCl [(h0, .inr (5, [.int 0, .int 0, .int 0, .int 0, .int 0, .int 0, .ref x1, .ref x2, .ref x3, .ref x4, .ref x5, .ref h1, .ref h2, .ref h3])), (h1, .inr (0, [.ref x6, .int 0])), (h2, .inl (D.1 13, 3, .inl fb)), (h3, .inl (D.1 13, 3, .inl fe))] H := hP
  have hD : va_D A [(h0, .inr (5, [.int 0, .int 0, .int 0, .int 0, .int 0, .int 0, .ref x1, .ref x2, .ref x3, .ref x4, .ref x5, .ref h1, .ref h2, .ref h3])), (h1, .inr (0, [.ref x6, .int 0])), (h2, .inl (D.1 13, 3, .inl fb)), (h3, .inl (D.1 13, 3, .inl fe))] := hD
  refine lv_aload_n hx hb dX5_clear_10 rfl (lv_at hl 0 rfl) ?_
  refine lv_iconst (v := 0) hx hb dX5_clear_11 (by decide) ?_
  refine va_put (D := D) (ci := 5) (v := .int 0) (ty := .int) (C := RX5) (T := TX5) (N := 14) hx hb ht inX5 tyX5 tyX5_ok nmX5 hown hK hP hD hS 0 rfl rfl 5 (by decide) (ht (.fieldLink RX5 50 "CloneVolumes$Plan" "changes" "I") fl_X5_50) (fun _ h9 => h9) rfl (by decide +kernel) rfl rfl (Nat.le_of_ble_eq_true rfl) dX5_clear_12 (fun H locs hP hD hS => ?_)
  have hP : va_P D vwCl [(h0, .inr (5, [.int 0, .int 0, .int 0, .int 0, .int 0, .int 0, .ref x1, .ref x2, .ref x3, .ref x4, .ref x5, .ref h1, .ref h2, .ref h3])), (h1, .inr (0, [.ref x6, .int 0])), (h2, .inl (D.1 13, 3, .inl fb)), (h3, .inl (D.1 13, 3, .inl fe))] H := hP
  have hD : va_D A [(h0, .inr (5, [.int 0, .int 0, .int 0, .int 0, .int 0, .int 0, .ref x1, .ref x2, .ref x3, .ref x4, .ref x5, .ref h1, .ref h2, .ref h3])), (h1, .inr (0, [.ref x6, .int 0])), (h2, .inl (D.1 13, 3, .inl fb)), (h3, .inl (D.1 13, 3, .inl fe))] := hD
  refine lv_aload_n hx hb dX5_clear_15 rfl (lv_at hl 0 rfl) ?_
  refine lv_iconst (v := 0) hx hb dX5_clear_16 (by decide) ?_
  refine va_put (D := D) (ci := 5) (v := .int 0) (ty := .int) (C := RX5) (T := TX5) (N := 14) hx hb ht inX5 tyX5 tyX5_ok nmX5 hown hK hP hD hS 0 rfl rfl 2 (by decide) (ht (.fieldLink RX5 53 "CloneVolumes$Plan" "churn" "I") fl_X5_53) (fun _ h9 => h9) rfl (by decide +kernel) rfl rfl (Nat.le_of_ble_eq_true rfl) dX5_clear_17 (fun H locs hP hD hS => ?_)
  have hP : va_P D vwCl [(h0, .inr (5, [.int 0, .int 0, .int 0, .int 0, .int 0, .int 0, .ref x1, .ref x2, .ref x3, .ref x4, .ref x5, .ref h1, .ref h2, .ref h3])), (h1, .inr (0, [.ref x6, .int 0])), (h2, .inl (D.1 13, 3, .inl fb)), (h3, .inl (D.1 13, 3, .inl fe))] H := hP
  have hD : va_D A [(h0, .inr (5, [.int 0, .int 0, .int 0, .int 0, .int 0, .int 0, .ref x1, .ref x2, .ref x3, .ref x4, .ref x5, .ref h1, .ref h2, .ref h3])), (h1, .inr (0, [.ref x6, .int 0])), (h2, .inl (D.1 13, 3, .inl fb)), (h3, .inl (D.1 13, 3, .inl fe))] := hD
  refine lv_aload_n hx hb dX5_clear_20 rfl (lv_at hl 0 rfl) ?_
  refine va_get (D := D) (ci := 5) (v := .ref h1) (C := RX5) (T := TX5) (N := 14) hx hb ht inX5 hown hK hP 0 rfl rfl 11 (by decide) (ht (.fieldLink RX5 30 "CloneVolumes$Plan" "code" "LCloneVolumes$Code;") fl_X5_30) (fun _ h9 => h9) rfl dX5_clear_21 ?_
  refine lv_iconst (v := 0) hx hb dX5_clear_24 (by decide) ?_
  refine va_put (D := D) (ci := 0) (v := .int 0) (ty := .int) (C := RX0) (T := TX0) (N := 2) hx hb ht inX0 tyX0 tyX0_ok nmX0 hown hK hP hD hS 1 rfl rfl 1 (by decide) (ht (.fieldLink RX5 56 "CloneVolumes$Code" "size" "I") fl_X5_56) (fun _ h9 => h9) rfl (by decide +kernel) rfl rfl (Nat.le_of_ble_eq_true rfl) dX5_clear_25 (fun H locs hP hD hS => ?_)
  have hP : va_P D vwCl [(h0, .inr (5, [.int 0, .int 0, .int 0, .int 0, .int 0, .int 0, .ref x1, .ref x2, .ref x3, .ref x4, .ref x5, .ref h1, .ref h2, .ref h3])), (h1, .inr (0, [.ref x6, .int 0])), (h2, .inl (D.1 13, 3, .inl fb)), (h3, .inl (D.1 13, 3, .inl fe))] H := hP
  have hD : va_D A [(h0, .inr (5, [.int 0, .int 0, .int 0, .int 0, .int 0, .int 0, .ref x1, .ref x2, .ref x3, .ref x4, .ref x5, .ref h1, .ref h2, .ref h3])), (h1, .inr (0, [.ref x6, .int 0])), (h2, .inl (D.1 13, 3, .inl fb)), (h3, .inl (D.1 13, 3, .inl fe))] := hD
  refine lv_iconst (v := 0) hx hb dX5_clear_28 (by decide) ?_
  refine lv_istore_n (lv' := [(1, .int 0), (0, .ref h0)]) hx hb dX5_clear_29 rfl hl (by decide) rfl (fun ls hl => ?_)
  refine lv_iload_n hx hb dX5_clear_30 rfl (lv_at hl 0 rfl) ?_
  refine lv_iconst (v := 3) hx hb dX5_clear_31 (by decide) ?_
  refine lv_icmp_ge (tgt := 55) hx hb dX5_clear_32 (by decide) (fun c_1 => (z_abs c_1 (by decide)).elim) (fun _ => ?_)
  refine lv_aload_n hx hb dX5_clear_35 rfl (lv_at hl 1 rfl) ?_
  refine va_get (D := D) (ci := 5) (v := .ref h2) (C := RX5) (T := TX5) (N := 14) hx hb ht inX5 hown hK hP 0 rfl rfl 12 (by decide) (ht (.fieldLink RX5 34 "CloneVolumes$Plan" "begins" "[I") fl_X5_34) (fun _ h9 => h9) rfl dX5_clear_36 ?_
  refine lv_iload_n hx hb dX5_clear_39 rfl (lv_at hl 0 rfl) ?_
  refine lv_iconst (v := (-1)) hx hb dX5_clear_40 (by decide) ?_
  refine va_iast hx hb hK hP hD hS 2 0 rfl rfl (z_in (by decide) (by decide)) dX5_clear_41 (fun H locs hP hD hS => ?_)
  generalize hf_3 : upd _ _ _ = f_3 at hP hD
  have hP : va_P D vwCl [(h0, .inr (5, [.int 0, .int 0, .int 0, .int 0, .int 0, .int 0, .ref x1, .ref x2, .ref x3, .ref x4, .ref x5, .ref h1, .ref h2, .ref h3])), (h1, .inr (0, [.ref x6, .int 0])), (h2, .inl (D.1 13, 3, .inl f_3)), (h3, .inl (D.1 13, 3, .inl fe))] H := hP
  have hD : va_D A [(h0, .inr (5, [.int 0, .int 0, .int 0, .int 0, .int 0, .int 0, .ref x1, .ref x2, .ref x3, .ref x4, .ref x5, .ref h1, .ref h2, .ref h3])), (h1, .inr (0, [.ref x6, .int 0])), (h2, .inl (D.1 13, 3, .inl f_3)), (h3, .inl (D.1 13, 3, .inl fe))] := hD
  refine lv_aload_n hx hb dX5_clear_42 rfl (lv_at hl 1 rfl) ?_
  refine va_get (D := D) (ci := 5) (v := .ref h3) (C := RX5) (T := TX5) (N := 14) hx hb ht inX5 hown hK hP 0 rfl rfl 13 (by decide) (ht (.fieldLink RX5 37 "CloneVolumes$Plan" "ends" "[I") fl_X5_37) (fun _ h9 => h9) rfl dX5_clear_43 ?_
  refine lv_iload_n hx hb dX5_clear_46 rfl (lv_at hl 0 rfl) ?_
  refine lv_iconst (v := (-1)) hx hb dX5_clear_47 (by decide) ?_
  refine va_iast hx hb hK hP hD hS 3 0 rfl rfl (z_in (by decide) (by decide)) dX5_clear_48 (fun H locs hP hD hS => ?_)
  generalize hf_4 : upd _ _ _ = f_4 at hP hD
  have hP : va_P D vwCl [(h0, .inr (5, [.int 0, .int 0, .int 0, .int 0, .int 0, .int 0, .ref x1, .ref x2, .ref x3, .ref x4, .ref x5, .ref h1, .ref h2, .ref h3])), (h1, .inr (0, [.ref x6, .int 0])), (h2, .inl (D.1 13, 3, .inl f_3)), (h3, .inl (D.1 13, 3, .inl f_4))] H := hP
  have hD : va_D A [(h0, .inr (5, [.int 0, .int 0, .int 0, .int 0, .int 0, .int 0, .ref x1, .ref x2, .ref x3, .ref x4, .ref x5, .ref h1, .ref h2, .ref h3])), (h1, .inr (0, [.ref x6, .int 0])), (h2, .inl (D.1 13, 3, .inl f_3)), (h3, .inl (D.1 13, 3, .inl f_4))] := hD
  refine lv_iinc (v := 1) (lv' := [(1, .int 1), (0, .ref h0)]) hx hb dX5_clear_49 hl (k := 0) rfl (by decide) (by decide) rfl (fun ls hl => ?_)
  refine lv_goto (tgt := 30) hx hb dX5_clear_52 (by decide) ?_
  refine lv_iload_n hx hb dX5_clear_30 rfl (lv_at hl 0 rfl) ?_
  refine lv_iconst (v := 3) hx hb dX5_clear_31 (by decide) ?_
  refine lv_icmp_ge (tgt := 55) hx hb dX5_clear_32 (by decide) (fun c_5 => (z_abs c_5 (by decide)).elim) (fun _ => ?_)
  refine lv_aload_n hx hb dX5_clear_35 rfl (lv_at hl 1 rfl) ?_
  refine va_get (D := D) (ci := 5) (v := .ref h2) (C := RX5) (T := TX5) (N := 14) hx hb ht inX5 hown hK hP 0 rfl rfl 12 (by decide) (ht (.fieldLink RX5 34 "CloneVolumes$Plan" "begins" "[I") fl_X5_34) (fun _ h9 => h9) rfl dX5_clear_36 ?_
  refine lv_iload_n hx hb dX5_clear_39 rfl (lv_at hl 0 rfl) ?_
  refine lv_iconst (v := (-1)) hx hb dX5_clear_40 (by decide) ?_
  refine va_iast hx hb hK hP hD hS 2 0 rfl rfl (z_in (by decide) (by decide)) dX5_clear_41 (fun H locs hP hD hS => ?_)
  generalize hf_7 : upd _ _ _ = f_7 at hP hD
  have hP : va_P D vwCl [(h0, .inr (5, [.int 0, .int 0, .int 0, .int 0, .int 0, .int 0, .ref x1, .ref x2, .ref x3, .ref x4, .ref x5, .ref h1, .ref h2, .ref h3])), (h1, .inr (0, [.ref x6, .int 0])), (h2, .inl (D.1 13, 3, .inl f_7)), (h3, .inl (D.1 13, 3, .inl f_4))] H := hP
  have hD : va_D A [(h0, .inr (5, [.int 0, .int 0, .int 0, .int 0, .int 0, .int 0, .ref x1, .ref x2, .ref x3, .ref x4, .ref x5, .ref h1, .ref h2, .ref h3])), (h1, .inr (0, [.ref x6, .int 0])), (h2, .inl (D.1 13, 3, .inl f_7)), (h3, .inl (D.1 13, 3, .inl f_4))] := hD
  refine lv_aload_n hx hb dX5_clear_42 rfl (lv_at hl 1 rfl) ?_
  refine va_get (D := D) (ci := 5) (v := .ref h3) (C := RX5) (T := TX5) (N := 14) hx hb ht inX5 hown hK hP 0 rfl rfl 13 (by decide) (ht (.fieldLink RX5 37 "CloneVolumes$Plan" "ends" "[I") fl_X5_37) (fun _ h9 => h9) rfl dX5_clear_43 ?_
  refine lv_iload_n hx hb dX5_clear_46 rfl (lv_at hl 0 rfl) ?_
  refine lv_iconst (v := (-1)) hx hb dX5_clear_47 (by decide) ?_
  refine va_iast hx hb hK hP hD hS 3 0 rfl rfl (z_in (by decide) (by decide)) dX5_clear_48 (fun H locs hP hD hS => ?_)
  generalize hf_8 : upd _ _ _ = f_8 at hP hD
  have hP : va_P D vwCl [(h0, .inr (5, [.int 0, .int 0, .int 0, .int 0, .int 0, .int 0, .ref x1, .ref x2, .ref x3, .ref x4, .ref x5, .ref h1, .ref h2, .ref h3])), (h1, .inr (0, [.ref x6, .int 0])), (h2, .inl (D.1 13, 3, .inl f_7)), (h3, .inl (D.1 13, 3, .inl f_8))] H := hP
  have hD : va_D A [(h0, .inr (5, [.int 0, .int 0, .int 0, .int 0, .int 0, .int 0, .ref x1, .ref x2, .ref x3, .ref x4, .ref x5, .ref h1, .ref h2, .ref h3])), (h1, .inr (0, [.ref x6, .int 0])), (h2, .inl (D.1 13, 3, .inl f_7)), (h3, .inl (D.1 13, 3, .inl f_8))] := hD
  refine lv_iinc (v := 2) (lv' := [(1, .int 2), (0, .ref h0)]) hx hb dX5_clear_49 hl (k := 0) rfl (by decide) (by decide) rfl (fun ls hl => ?_)
  refine lv_goto (tgt := 30) hx hb dX5_clear_52 (by decide) ?_
  refine lv_iload_n hx hb dX5_clear_30 rfl (lv_at hl 0 rfl) ?_
  refine lv_iconst (v := 3) hx hb dX5_clear_31 (by decide) ?_
  refine lv_icmp_ge (tgt := 55) hx hb dX5_clear_32 (by decide) (fun c_9 => (z_abs c_9 (by decide)).elim) (fun _ => ?_)
  refine lv_aload_n hx hb dX5_clear_35 rfl (lv_at hl 1 rfl) ?_
  refine va_get (D := D) (ci := 5) (v := .ref h2) (C := RX5) (T := TX5) (N := 14) hx hb ht inX5 hown hK hP 0 rfl rfl 12 (by decide) (ht (.fieldLink RX5 34 "CloneVolumes$Plan" "begins" "[I") fl_X5_34) (fun _ h9 => h9) rfl dX5_clear_36 ?_
  refine lv_iload_n hx hb dX5_clear_39 rfl (lv_at hl 0 rfl) ?_
  refine lv_iconst (v := (-1)) hx hb dX5_clear_40 (by decide) ?_
  refine va_iast hx hb hK hP hD hS 2 0 rfl rfl (z_in (by decide) (by decide)) dX5_clear_41 (fun H locs hP hD hS => ?_)
  generalize hf_11 : upd _ _ _ = f_11 at hP hD
  have hP : va_P D vwCl [(h0, .inr (5, [.int 0, .int 0, .int 0, .int 0, .int 0, .int 0, .ref x1, .ref x2, .ref x3, .ref x4, .ref x5, .ref h1, .ref h2, .ref h3])), (h1, .inr (0, [.ref x6, .int 0])), (h2, .inl (D.1 13, 3, .inl f_11)), (h3, .inl (D.1 13, 3, .inl f_8))] H := hP
  have hD : va_D A [(h0, .inr (5, [.int 0, .int 0, .int 0, .int 0, .int 0, .int 0, .ref x1, .ref x2, .ref x3, .ref x4, .ref x5, .ref h1, .ref h2, .ref h3])), (h1, .inr (0, [.ref x6, .int 0])), (h2, .inl (D.1 13, 3, .inl f_11)), (h3, .inl (D.1 13, 3, .inl f_8))] := hD
  refine lv_aload_n hx hb dX5_clear_42 rfl (lv_at hl 1 rfl) ?_
  refine va_get (D := D) (ci := 5) (v := .ref h3) (C := RX5) (T := TX5) (N := 14) hx hb ht inX5 hown hK hP 0 rfl rfl 13 (by decide) (ht (.fieldLink RX5 37 "CloneVolumes$Plan" "ends" "[I") fl_X5_37) (fun _ h9 => h9) rfl dX5_clear_43 ?_
  refine lv_iload_n hx hb dX5_clear_46 rfl (lv_at hl 0 rfl) ?_
  refine lv_iconst (v := (-1)) hx hb dX5_clear_47 (by decide) ?_
  refine va_iast hx hb hK hP hD hS 3 0 rfl rfl (z_in (by decide) (by decide)) dX5_clear_48 (fun H locs hP hD hS => ?_)
  generalize hf_12 : upd _ _ _ = f_12 at hP hD
  have hP : va_P D vwCl [(h0, .inr (5, [.int 0, .int 0, .int 0, .int 0, .int 0, .int 0, .ref x1, .ref x2, .ref x3, .ref x4, .ref x5, .ref h1, .ref h2, .ref h3])), (h1, .inr (0, [.ref x6, .int 0])), (h2, .inl (D.1 13, 3, .inl f_11)), (h3, .inl (D.1 13, 3, .inl f_12))] H := hP
  have hD : va_D A [(h0, .inr (5, [.int 0, .int 0, .int 0, .int 0, .int 0, .int 0, .ref x1, .ref x2, .ref x3, .ref x4, .ref x5, .ref h1, .ref h2, .ref h3])), (h1, .inr (0, [.ref x6, .int 0])), (h2, .inl (D.1 13, 3, .inl f_11)), (h3, .inl (D.1 13, 3, .inl f_12))] := hD
  refine lv_iinc (v := 3) (lv' := [(1, .int 3), (0, .ref h0)]) hx hb dX5_clear_49 hl (k := 0) rfl (by decide) (by decide) rfl (fun ls hl => ?_)
  refine lv_goto (tgt := 30) hx hb dX5_clear_52 (by decide) ?_
  refine lv_iload_n hx hb dX5_clear_30 rfl (lv_at hl 0 rfl) ?_
  refine lv_iconst (v := 3) hx hb dX5_clear_31 (by decide) ?_
  refine lv_icmp_ge (tgt := 55) hx hb dX5_clear_32 (by decide) (fun _ => ?_) (fun c_13 => (z_abs c_13 (by decide)).elim)
  have hP9 := hP.sub (ws' := [(h0, .inr (5, [.int 0, .int 0, .int 0, .int 0, .int 0, .int 0, .ref x1, .ref x2, .ref x3, .ref x4, .ref x5, .ref h1, .ref h2, .ref h3])), (h1, .inr (0, [.ref x6, .int 0])), (h2, .inl (D.1 13, 3, .inl f_11)), (h3, .inl (D.1 13, 3, .inl f_12))]) [0, 1, 2, 3] rfl
  have hD9 := hD.sub (ws' := [(h0, .inr (5, [.int 0, .int 0, .int 0, .int 0, .int 0, .int 0, .ref x1, .ref x2, .ref x3, .ref x4, .ref x5, .ref h1, .ref h2, .ref h3])), (h1, .inr (0, [.ref x6, .int 0])), (h2, .inl (D.1 13, 3, .inl f_11)), (h3, .inl (D.1 13, 3, .inl f_12))]) [0, 1, 2, 3] (by decide) rfl
  refine W.widen (k := 0) (n := 0) (Nat.le_of_ble_eq_true rfl) (Nat.le_of_ble_eq_true rfl) ?_
  exact W.vret hx hb hr (fun t ht hW => ⟨⟨(f_11, f_12), rfl, trivial, by rw [ht]; exact hP9, va_K.moved hW.alike hK, hD9⟩, hS.F ht⟩) hS.2.2 dX5_clear_55
set_option maxHeartbeats 4000000 in
set_option maxRecDepth 100000 in
theorem k_X5_init (l : Launch) (D : va_G) (sz : Nat) (b0 qS vS : Nat) (fS : Nat → Int32) (h0 : Nat) (hB : ∀ q, va_A [(h0, .inr (5, [.int 0, .int 0, .int 0, .int 0, .int 0, .int 0, .null, .null, .null, .null, .null, .null, .null, .null]))] sz q → b0 ≤ q) : Met l yX5_init (wz yX5_init cX5_init 1 none) { frames := 2, cells := 9, slots := 1896, locals := 120 } (va_Pc [.ref h0] (fun U => zW D sz [(h0, .inr (5, [.int 0, .int 0, .int 0, .int 0, .int 0, .int 0, .null, .null, .null, .null, .null, .null, .null, .null]))] U ∧ EE b0 qS vS fS U)) (va_Qv (fun (_ : ((Nat) × (Nat) × (Nat) × (Nat) × (Nat) × (Nat) × (Nat) × (Nat) × (Nat) × (Nat → Int32) × (Nat → Int32))) => True) (fun u t => zB D (va_A [(h0, .inr (5, [.int 0, .int 0, .int 0, .int 0, .int 0, .int 0, .null, .null, .null, .null, .null, .null, .null, .null]))] sz) ((fun (u : ((Nat) × (Nat) × (Nat) × (Nat) × (Nat) × (Nat) × (Nat) × (Nat) × (Nat) × (Nat → Int32) × (Nat → Int32))) => [(u.1, .inl (D.1 13, 48, .inl (fun _ => 0))), (u.2.1, .inl (D.1 13, 60, .inl (fun _ => 0))), (u.2.2.1, .inl (D.1 13, 60, .inl (fun _ => 0))), (u.2.2.2.1, .inl (D.1 13, 60, .inl (fun _ => 0))), (u.2.2.2.2.1, .inl (D.1 13, 60, .inl (fun _ => 0))), (u.2.2.2.2.2.1, .inl (D.1 13, 1600, .inl (fun _ => 0))), (h0, .inr (5, [.int 0, .int 0, .int 0, .int 0, .int 0, .int 0, .ref u.1, .ref u.2.1, .ref u.2.2.1, .ref u.2.2.2.1, .ref u.2.2.2.2.1, .ref u.2.2.2.2.2.2.1, .ref u.2.2.2.2.2.2.2.1, .ref u.2.2.2.2.2.2.2.2.1])), (u.2.2.2.2.2.2.1, .inr (0, [.ref u.2.2.2.2.2.1, .int 0])), (u.2.2.2.2.2.2.2.1, .inl (D.1 13, 3, .inl u.2.2.2.2.2.2.2.2.2.1)), (u.2.2.2.2.2.2.2.2.1, .inl (D.1 13, 3, .inl u.2.2.2.2.2.2.2.2.2.2))]) u) t) (va_A [(h0, .inr (5, [.int 0, .int 0, .int 0, .int 0, .int 0, .int 0, .null, .null, .null, .null, .null, .null, .null, .null]))] sz)) 9 1896 (va_A [(h0, .inr (5, [.int 0, .int 0, .int 0, .int 0, .int 0, .int 0, .null, .null, .null, .null, .null, .null, .null, .null]))] sz) := by
  refine Met.ofW (cc := cX5_init) (maxL := 1) (ret := none) (by decide) rfl ?_
  intro p e s m args below meth c s₁ B hml hv
  obtain ⟨rfl, ⟨hsz, hP, hK, hD0⟩, hE⟩ := hv
  have hx := B.exec
  have hb := B.bytes
  have hr := B.returns
  have hts := atoms_spec (ws := wz yX5_init cX5_init 1 none) B.pre
  have ht : ∀ w ∈ lw_gd, w.before _ s = true := fun w h => hts w (List.mem_cons_of_mem _ h)
  have hown : s.vm.findClass RX5 = some m.cls := findClass_of_methodNamed B.named
  have hlocks := B.notSynchronized
  have hin : meth.name = "<init>" := (name_of_methodNamed B.named B.method).1
  subst hsz
  have hD := hD0.self (sz := s.heap.size)
  have hAb := hB
  generalize hAe : va_A [(h0, .inr (5, [.int 0, .int 0, .int 0, .int 0, .int 0, .int 0, .null, .null, .null, .null, .null, .null, .null, .null]))] s.heap.size = A at hAb hD ⊢
  have hA : ∀ q : Nat, s.heap.size ≤ q → A q := fun q h => by rw [← hAe]; exact Or.inr h
  have hS : va_S A s.heap s.heap [] := va_S.rf
  have zi0 : (0 : Int32).toInt = 0 := rfl
  have zi1 : (1 : Int32).toInt = 1 := rfl
  have zi2 : (2 : Int32).toInt = 2 := rfl
  have zi3 : (3 : Int32).toInt = 3 := rfl
  have zi4 : (4 : Int32).toInt = 4 := rfl
  have hl := lv_entry ([.ref h0]) (n := 1) (Nat.le_of_ble_eq_true rfl)
  rw [lg_entry_eq]
  generalize (lg_sl ([.ref h0]) ++ List.replicate (1 - (lg_sl ([.ref h0])).length) Slot.unset).toArray = ls at hl ⊢
  have hl : lv_has ls 1 [(0, .ref h0)] := hl
  refine lv_aload_n hx hb dX5_init_0 rfl (lv_at hl 0 rfl) ?_
  refine W.objInit hx hb hown (ht _ ml_X5_3) (ht _ im_obj) (ht _ co_obj) rfl (by rw [hml]; exact hl.1) rfl dX5_init_1 (Nat.le_of_ble_eq_true rfl) (Nat.le_of_ble_eq_true rfl) ?_
  refine W.eq (g2 := F0 m 4 ls []) rfl ?_
  refine lv_aload_n hx hb dX5_init_4 rfl (lv_at hl 0 rfl) ?_
  refine lv_bipush (v := 48) hx hb dX5_init_5 (by decide) ?_
  refine va_newa (atype := .int) (a0 := (48, .inl (fun _ => 0))) (ty := .int) (N' := 48) hx hb (ht _ ac_int) rfl hK hP hD hS hA (fun _ => rfl) (by decide) (by decide) (by decide) (Nat.le_of_ble_eq_true rfl) (Nat.le_of_ble_eq_true rfl) dX5_init_7 (fun q_1 cA H hK2 hP hD hS => ?_)
  obtain rfl := z_cls_int hK hK2
  refine W.widen (k := 1) (n := 48) (Nat.le_of_ble_eq_true rfl) (Nat.le_of_ble_eq_true rfl) ?_
  have hP : va_P D vwCl [(h0, .inr (5, [.int 0, .int 0, .int 0, .int 0, .int 0, .int 0, .null, .null, .null, .null, .null, .null, .null, .null])), (q_1, .inl (D.1 13, 48, .inl (fun _ => 0)))] H := hP
  have hD : va_D A [(h0, .inr (5, [.int 0, .int 0, .int 0, .int 0, .int 0, .int 0, .null, .null, .null, .null, .null, .null, .null, .null])), (q_1, .inl (D.1 13, 48, .inl (fun _ => 0)))] := hD
  refine va_putF (D := D) (ci := 5) (v := .ref q_1) (ty := .array .int) (C := RX5) (T := TX5) (N := 14) hx hb ht inX5 tyX5 tyX5_ok nmX5 hown hK hP hD hS 0 rfl rfl 6 (by decide) (ht (.fieldLink RX5 9 "CloneVolumes$Plan" "names" "[I") fl_X5_9) (fun _ h9 => h9) rfl hin rfl (by decide +kernel) rfl rfl (Nat.le_of_ble_eq_true rfl) dX5_init_9 (fun H locs hP hD hS => ?_)
  have hP : va_P D vwCl [(h0, .inr (5, [.int 0, .int 0, .int 0, .int 0, .int 0, .int 0, .ref q_1, .null, .null, .null, .null, .null, .null, .null])), (q_1, .inl (D.1 13, 48, .inl (fun _ => 0)))] H := hP
  have hD : va_D A [(h0, .inr (5, [.int 0, .int 0, .int 0, .int 0, .int 0, .int 0, .ref q_1, .null, .null, .null, .null, .null, .null, .null])), (q_1, .inl (D.1 13, 48, .inl (fun _ => 0)))] := hD
  refine lv_aload_n hx hb dX5_init_12 rfl (lv_at hl 0 rfl) ?_
  refine lv_bipush (v := 60) hx hb dX5_init_13 (by decide) ?_
  refine va_newa (atype := .int) (a0 := (60, .inl (fun _ => 0))) (ty := .int) (N' := 60) hx hb (ht _ ac_int) rfl hK hP hD hS hA (fun _ => rfl) (by decide) (by decide) (by decide) (Nat.le_of_ble_eq_true rfl) (Nat.le_of_ble_eq_true rfl) dX5_init_15 (fun q_2 cA H hK2 hP hD hS => ?_)
  obtain rfl := z_cls_int hK hK2
  refine W.widen (k := 2) (n := 108) (Nat.le_of_ble_eq_true rfl) (Nat.le_of_ble_eq_true rfl) ?_
  have hP : va_P D vwCl [(h0, .inr (5, [.int 0, .int 0, .int 0, .int 0, .int 0, .int 0, .ref q_1, .null, .null, .null, .null, .null, .null, .null])), (q_1, .inl (D.1 13, 48, .inl (fun _ => 0))), (q_2, .inl (D.1 13, 60, .inl (fun _ => 0)))] H := hP
  have hD : va_D A [(h0, .inr (5, [.int 0, .int 0, .int 0, .int 0, .int 0, .int 0, .ref q_1, .null, .null, .null, .null, .null, .null, .null])), (q_1, .inl (D.1 13, 48, .inl (fun _ => 0))), (q_2, .inl (D.1 13, 60, .inl (fun _ => 0)))] := hD
  refine va_putF (D := D) (ci := 5) (v := .ref q_2) (ty := .array .int) (C := RX5) (T := TX5) (N := 14) hx hb ht inX5 tyX5 tyX5_ok nmX5 hown hK hP hD hS 0 rfl rfl 7 (by decide) (ht (.fieldLink RX5 15 "CloneVolumes$Plan" "kinds" "[I") fl_X5_15) (fun _ h9 => h9) rfl hin rfl (by decide +kernel) rfl rfl (Nat.le_of_ble_eq_true rfl) dX5_init_17 (fun H locs hP hD hS => ?_)
  have hP : va_P D vwCl [(h0, .inr (5, [.int 0, .int 0, .int 0, .int 0, .int 0, .int 0, .ref q_1, .ref q_2, .null, .null, .null, .null, .null, .null])), (q_1, .inl (D.1 13, 48, .inl (fun _ => 0))), (q_2, .inl (D.1 13, 60, .inl (fun _ => 0)))] H := hP
  have hD : va_D A [(h0, .inr (5, [.int 0, .int 0, .int 0, .int 0, .int 0, .int 0, .ref q_1, .ref q_2, .null, .null, .null, .null, .null, .null])), (q_1, .inl (D.1 13, 48, .inl (fun _ => 0))), (q_2, .inl (D.1 13, 60, .inl (fun _ => 0)))] := hD
  refine lv_aload_n hx hb dX5_init_20 rfl (lv_at hl 0 rfl) ?_
  refine lv_bipush (v := 60) hx hb dX5_init_21 (by decide) ?_
  refine va_newa (atype := .int) (a0 := (60, .inl (fun _ => 0))) (ty := .int) (N' := 60) hx hb (ht _ ac_int) rfl hK hP hD hS hA (fun _ => rfl) (by decide) (by decide) (by decide) (Nat.le_of_ble_eq_true rfl) (Nat.le_of_ble_eq_true rfl) dX5_init_23 (fun q_3 cA H hK2 hP hD hS => ?_)
  obtain rfl := z_cls_int hK hK2
  refine W.widen (k := 3) (n := 168) (Nat.le_of_ble_eq_true rfl) (Nat.le_of_ble_eq_true rfl) ?_
  have hP : va_P D vwCl [(h0, .inr (5, [.int 0, .int 0, .int 0, .int 0, .int 0, .int 0, .ref q_1, .ref q_2, .null, .null, .null, .null, .null, .null])), (q_1, .inl (D.1 13, 48, .inl (fun _ => 0))), (q_2, .inl (D.1 13, 60, .inl (fun _ => 0))), (q_3, .inl (D.1 13, 60, .inl (fun _ => 0)))] H := hP
  have hD : va_D A [(h0, .inr (5, [.int 0, .int 0, .int 0, .int 0, .int 0, .int 0, .ref q_1, .ref q_2, .null, .null, .null, .null, .null, .null])), (q_1, .inl (D.1 13, 48, .inl (fun _ => 0))), (q_2, .inl (D.1 13, 60, .inl (fun _ => 0))), (q_3, .inl (D.1 13, 60, .inl (fun _ => 0)))] := hD
  refine va_putF (D := D) (ci := 5) (v := .ref q_3) (ty := .array .int) (C := RX5) (T := TX5) (N := 14) hx hb ht inX5 tyX5 tyX5_ok nmX5 hown hK hP hD hS 0 rfl rfl 8 (by decide) (ht (.fieldLink RX5 18 "CloneVolumes$Plan" "who" "[I") fl_X5_18) (fun _ h9 => h9) rfl hin rfl (by decide +kernel) rfl rfl (Nat.le_of_ble_eq_true rfl) dX5_init_25 (fun H locs hP hD hS => ?_)
  have hP : va_P D vwCl [(h0, .inr (5, [.int 0, .int 0, .int 0, .int 0, .int 0, .int 0, .ref q_1, .ref q_2, .ref q_3, .null, .null, .null, .null, .null])), (q_1, .inl (D.1 13, 48, .inl (fun _ => 0))), (q_2, .inl (D.1 13, 60, .inl (fun _ => 0))), (q_3, .inl (D.1 13, 60, .inl (fun _ => 0)))] H := hP
  have hD : va_D A [(h0, .inr (5, [.int 0, .int 0, .int 0, .int 0, .int 0, .int 0, .ref q_1, .ref q_2, .ref q_3, .null, .null, .null, .null, .null])), (q_1, .inl (D.1 13, 48, .inl (fun _ => 0))), (q_2, .inl (D.1 13, 60, .inl (fun _ => 0))), (q_3, .inl (D.1 13, 60, .inl (fun _ => 0)))] := hD
  refine lv_aload_n hx hb dX5_init_28 rfl (lv_at hl 0 rfl) ?_
  refine lv_bipush (v := 60) hx hb dX5_init_29 (by decide) ?_
  refine va_newa (atype := .int) (a0 := (60, .inl (fun _ => 0))) (ty := .int) (N' := 60) hx hb (ht _ ac_int) rfl hK hP hD hS hA (fun _ => rfl) (by decide) (by decide) (by decide) (Nat.le_of_ble_eq_true rfl) (Nat.le_of_ble_eq_true rfl) dX5_init_31 (fun q_4 cA H hK2 hP hD hS => ?_)
  obtain rfl := z_cls_int hK hK2
  refine W.widen (k := 4) (n := 228) (Nat.le_of_ble_eq_true rfl) (Nat.le_of_ble_eq_true rfl) ?_
  have hP : va_P D vwCl [(h0, .inr (5, [.int 0, .int 0, .int 0, .int 0, .int 0, .int 0, .ref q_1, .ref q_2, .ref q_3, .null, .null, .null, .null, .null])), (q_1, .inl (D.1 13, 48, .inl (fun _ => 0))), (q_2, .inl (D.1 13, 60, .inl (fun _ => 0))), (q_3, .inl (D.1 13, 60, .inl (fun _ => 0))), (q_4, .inl (D.1 13, 60, .inl (fun _ => 0)))] H := hP
  have hD : va_D A [(h0, .inr (5, [.int 0, .int 0, .int 0, .int 0, .int 0, .int 0, .ref q_1, .ref q_2, .ref q_3, .null, .null, .null, .null, .null])), (q_1, .inl (D.1 13, 48, .inl (fun _ => 0))), (q_2, .inl (D.1 13, 60, .inl (fun _ => 0))), (q_3, .inl (D.1 13, 60, .inl (fun _ => 0))), (q_4, .inl (D.1 13, 60, .inl (fun _ => 0)))] := hD
  refine va_putF (D := D) (ci := 5) (v := .ref q_4) (ty := .array .int) (C := RX5) (T := TX5) (N := 14) hx hb ht inX5 tyX5 tyX5_ok nmX5 hown hK hP hD hS 0 rfl rfl 9 (by decide) (ht (.fieldLink RX5 21 "CloneVolumes$Plan" "first" "[I") fl_X5_21) (fun _ h9 => h9) rfl hin rfl (by decide +kernel) rfl rfl (Nat.le_of_ble_eq_true rfl) dX5_init_33 (fun H locs hP hD hS => ?_)
  have hP : va_P D vwCl [(h0, .inr (5, [.int 0, .int 0, .int 0, .int 0, .int 0, .int 0, .ref q_1, .ref q_2, .ref q_3, .ref q_4, .null, .null, .null, .null])), (q_1, .inl (D.1 13, 48, .inl (fun _ => 0))), (q_2, .inl (D.1 13, 60, .inl (fun _ => 0))), (q_3, .inl (D.1 13, 60, .inl (fun _ => 0))), (q_4, .inl (D.1 13, 60, .inl (fun _ => 0)))] H := hP
  have hD : va_D A [(h0, .inr (5, [.int 0, .int 0, .int 0, .int 0, .int 0, .int 0, .ref q_1, .ref q_2, .ref q_3, .ref q_4, .null, .null, .null, .null])), (q_1, .inl (D.1 13, 48, .inl (fun _ => 0))), (q_2, .inl (D.1 13, 60, .inl (fun _ => 0))), (q_3, .inl (D.1 13, 60, .inl (fun _ => 0))), (q_4, .inl (D.1 13, 60, .inl (fun _ => 0)))] := hD
  refine lv_aload_n hx hb dX5_init_36 rfl (lv_at hl 0 rfl) ?_
  refine lv_bipush (v := 60) hx hb dX5_init_37 (by decide) ?_
  refine va_newa (atype := .int) (a0 := (60, .inl (fun _ => 0))) (ty := .int) (N' := 60) hx hb (ht _ ac_int) rfl hK hP hD hS hA (fun _ => rfl) (by decide) (by decide) (by decide) (Nat.le_of_ble_eq_true rfl) (Nat.le_of_ble_eq_true rfl) dX5_init_39 (fun q_5 cA H hK2 hP hD hS => ?_)
  obtain rfl := z_cls_int hK hK2
  refine W.widen (k := 5) (n := 288) (Nat.le_of_ble_eq_true rfl) (Nat.le_of_ble_eq_true rfl) ?_
  have hP : va_P D vwCl [(h0, .inr (5, [.int 0, .int 0, .int 0, .int 0, .int 0, .int 0, .ref q_1, .ref q_2, .ref q_3, .ref q_4, .null, .null, .null, .null])), (q_1, .inl (D.1 13, 48, .inl (fun _ => 0))), (q_2, .inl (D.1 13, 60, .inl (fun _ => 0))), (q_3, .inl (D.1 13, 60, .inl (fun _ => 0))), (q_4, .inl (D.1 13, 60, .inl (fun _ => 0))), (q_5, .inl (D.1 13, 60, .inl (fun _ => 0)))] H := hP
  have hD : va_D A [(h0, .inr (5, [.int 0, .int 0, .int 0, .int 0, .int 0, .int 0, .ref q_1, .ref q_2, .ref q_3, .ref q_4, .null, .null, .null, .null])), (q_1, .inl (D.1 13, 48, .inl (fun _ => 0))), (q_2, .inl (D.1 13, 60, .inl (fun _ => 0))), (q_3, .inl (D.1 13, 60, .inl (fun _ => 0))), (q_4, .inl (D.1 13, 60, .inl (fun _ => 0))), (q_5, .inl (D.1 13, 60, .inl (fun _ => 0)))] := hD
  refine va_putF (D := D) (ci := 5) (v := .ref q_5) (ty := .array .int) (C := RX5) (T := TX5) (N := 14) hx hb ht inX5 tyX5 tyX5_ok nmX5 hown hK hP hD hS 0 rfl rfl 10 (by decide) (ht (.fieldLink RX5 24 "CloneVolumes$Plan" "second" "[I") fl_X5_24) (fun _ h9 => h9) rfl hin rfl (by decide +kernel) rfl rfl (Nat.le_of_ble_eq_true rfl) dX5_init_41 (fun H locs hP hD hS => ?_)
  have hP : va_P D vwCl [(h0, .inr (5, [.int 0, .int 0, .int 0, .int 0, .int 0, .int 0, .ref q_1, .ref q_2, .ref q_3, .ref q_4, .ref q_5, .null, .null, .null])), (q_1, .inl (D.1 13, 48, .inl (fun _ => 0))), (q_2, .inl (D.1 13, 60, .inl (fun _ => 0))), (q_3, .inl (D.1 13, 60, .inl (fun _ => 0))), (q_4, .inl (D.1 13, 60, .inl (fun _ => 0))), (q_5, .inl (D.1 13, 60, .inl (fun _ => 0)))] H := hP
  have hD : va_D A [(h0, .inr (5, [.int 0, .int 0, .int 0, .int 0, .int 0, .int 0, .ref q_1, .ref q_2, .ref q_3, .ref q_4, .ref q_5, .null, .null, .null])), (q_1, .inl (D.1 13, 48, .inl (fun _ => 0))), (q_2, .inl (D.1 13, 60, .inl (fun _ => 0))), (q_3, .inl (D.1 13, 60, .inl (fun _ => 0))), (q_4, .inl (D.1 13, 60, .inl (fun _ => 0))), (q_5, .inl (D.1 13, 60, .inl (fun _ => 0)))] := hD
  refine lv_aload_n hx hb dX5_init_44 rfl (lv_at hl 0 rfl) ?_
  refine va_new (ci := 0) (fs := [.null, .int 0]) (C := RX0) (T := TX0) (N := 2) hx hb ht inX0 tyX0 tyX0_ok hown (ht _ cx_X5_27) (ht _ ia_X0) (ht _ in_X0) hK hP hD hS hA rfl (by decide +kernel) (Nat.le_of_ble_eq_true rfl) (Nat.le_of_ble_eq_true rfl) dX5_init_45 (fun q_6 H hP hD hS => ?_)
  refine W.widen (k := 6) (n := 290) (Nat.le_of_ble_eq_true rfl) (Nat.le_of_ble_eq_true rfl) ?_
  have hP : va_P D vwCl [(h0, .inr (5, [.int 0, .int 0, .int 0, .int 0, .int 0, .int 0, .ref q_1, .ref q_2, .ref q_3, .ref q_4, .ref q_5, .null, .null, .null])), (q_1, .inl (D.1 13, 48, .inl (fun _ => 0))), (q_2, .inl (D.1 13, 60, .inl (fun _ => 0))), (q_3, .inl (D.1 13, 60, .inl (fun _ => 0))), (q_4, .inl (D.1 13, 60, .inl (fun _ => 0))), (q_5, .inl (D.1 13, 60, .inl (fun _ => 0))), (q_6, .inr (0, [.null, .int 0]))] H := hP
  have hD : va_D A [(h0, .inr (5, [.int 0, .int 0, .int 0, .int 0, .int 0, .int 0, .ref q_1, .ref q_2, .ref q_3, .ref q_4, .ref q_5, .null, .null, .null])), (q_1, .inl (D.1 13, 48, .inl (fun _ => 0))), (q_2, .inl (D.1 13, 60, .inl (fun _ => 0))), (q_3, .inl (D.1 13, 60, .inl (fun _ => 0))), (q_4, .inl (D.1 13, 60, .inl (fun _ => 0))), (q_5, .inl (D.1 13, 60, .inl (fun _ => 0))), (q_6, .inr (0, [.null, .int 0]))] := hD
  refine lv_dup hx hb dX5_init_48 rfl ?_
  refine zwIN (As := []) (rest := [.ref q_6, .ref h0]) (n := 0) (wr := [(h0, .inr (5, [.int 0, .int 0, .int 0, .int 0, .int 0, .int 0, .ref q_1, .ref q_2, .ref q_3, .ref q_4, .ref q_5, .null, .null, .null])), (q_1, .inl (D.1 13, 48, .inl (fun _ => 0))), (q_2, .inl (D.1 13, 60, .inl (fun _ => 0))), (q_3, .inl (D.1 13, 60, .inl (fun _ => 0))), (q_4, .inl (D.1 13, 60, .inl (fun _ => 0))), (q_5, .inl (D.1 13, 60, .inl (fun _ => 0)))]) ⟨hx, hb, hml, hown, ht⟩ (k_X0_init l D _ q_6) co_X0_init rfl rfl in_X0 hE.1.2.2.2.2.2.1 im_X0_init rfl (by decide +kernel) ⟨Nat.le_of_ble_eq_true rfl, Nat.le_of_ble_eq_true rfl⟩ hK hP hD hS hA [6] [0, 1, 2, 3, 4, 5] rfl rfl rfl rfl (by decide) rfl hl.1 rfl (Nat.le_of_ble_eq_true rfl) dX5_init_49 ⟨Nat.le_of_ble_eq_true rfl, Nat.le_of_ble_eq_true rfl⟩ (fun u_7 H locs hw hP hD hS => ?_)
  refine W.widen (k := 7) (n := 1890) (Nat.le_of_ble_eq_true rfl) (Nat.le_of_ble_eq_true rfl) ?_
  have hP : va_P D vwCl [(h0, .inr (5, [.int 0, .int 0, .int 0, .int 0, .int 0, .int 0, .ref q_1, .ref q_2, .ref q_3, .ref q_4, .ref q_5, .null, .null, .null])), (q_1, .inl (D.1 13, 48, .inl (fun _ => 0))), (q_2, .inl (D.1 13, 60, .inl (fun _ => 0))), (q_3, .inl (D.1 13, 60, .inl (fun _ => 0))), (q_4, .inl (D.1 13, 60, .inl (fun _ => 0))), (q_5, .inl (D.1 13, 60, .inl (fun _ => 0))), (q_6, .inr (0, [.ref u_7, .int 0])), (u_7, .inl (D.1 13, 1600, .inl (fun _ => 0)))] H := hP
  have hD : va_D A [(h0, .inr (5, [.int 0, .int 0, .int 0, .int 0, .int 0, .int 0, .ref q_1, .ref q_2, .ref q_3, .ref q_4, .ref q_5, .null, .null, .null])), (q_1, .inl (D.1 13, 48, .inl (fun _ => 0))), (q_2, .inl (D.1 13, 60, .inl (fun _ => 0))), (q_3, .inl (D.1 13, 60, .inl (fun _ => 0))), (q_4, .inl (D.1 13, 60, .inl (fun _ => 0))), (q_5, .inl (D.1 13, 60, .inl (fun _ => 0))), (q_6, .inr (0, [.ref u_7, .int 0])), (u_7, .inl (D.1 13, 1600, .inl (fun _ => 0)))] := hD
  refine va_putF (D := D) (ci := 5) (v := .ref q_6) (ty := .object "CloneVolumes$Code") (C := RX5) (T := TX5) (N := 14) hx hb ht inX5 tyX5 tyX5_ok nmX5 hown hK hP hD hS 0 rfl rfl 11 (by decide) (ht (.fieldLink RX5 30 "CloneVolumes$Plan" "code" "LCloneVolumes$Code;") fl_X5_30) (fun _ h9 => h9) rfl hin rfl (by decide +kernel) rfl rfl (Nat.le_of_ble_eq_true rfl) dX5_init_52 (fun H locs hP hD hS => ?_)
  have hP : va_P D vwCl [(h0, .inr (5, [.int 0, .int 0, .int 0, .int 0, .int 0, .int 0, .ref q_1, .ref q_2, .ref q_3, .ref q_4, .ref q_5, .ref q_6, .null, .null])), (q_1, .inl (D.1 13, 48, .inl (fun _ => 0))), (q_2, .inl (D.1 13, 60, .inl (fun _ => 0))), (q_3, .inl (D.1 13, 60, .inl (fun _ => 0))), (q_4, .inl (D.1 13, 60, .inl (fun _ => 0))), (q_5, .inl (D.1 13, 60, .inl (fun _ => 0))), (q_6, .inr (0, [.ref u_7, .int 0])), (u_7, .inl (D.1 13, 1600, .inl (fun _ => 0)))] H := hP
  have hD : va_D A [(h0, .inr (5, [.int 0, .int 0, .int 0, .int 0, .int 0, .int 0, .ref q_1, .ref q_2, .ref q_3, .ref q_4, .ref q_5, .ref q_6, .null, .null])), (q_1, .inl (D.1 13, 48, .inl (fun _ => 0))), (q_2, .inl (D.1 13, 60, .inl (fun _ => 0))), (q_3, .inl (D.1 13, 60, .inl (fun _ => 0))), (q_4, .inl (D.1 13, 60, .inl (fun _ => 0))), (q_5, .inl (D.1 13, 60, .inl (fun _ => 0))), (q_6, .inr (0, [.ref u_7, .int 0])), (u_7, .inl (D.1 13, 1600, .inl (fun _ => 0)))] := hD
  refine lv_aload_n hx hb dX5_init_55 rfl (lv_at hl 0 rfl) ?_
  refine lv_iconst (v := 3) hx hb dX5_init_56 (by decide) ?_
  refine va_newa (atype := .int) (a0 := (3, .inl (fun _ => 0))) (ty := .int) (N' := 3) hx hb (ht _ ac_int) rfl hK hP hD hS hA (fun _ => rfl) (by decide) (by decide) (by decide) (Nat.le_of_ble_eq_true rfl) (Nat.le_of_ble_eq_true rfl) dX5_init_57 (fun q_8 cA H hK2 hP hD hS => ?_)
  obtain rfl := z_cls_int hK hK2
  refine W.widen (k := 8) (n := 1893) (Nat.le_of_ble_eq_true rfl) (Nat.le_of_ble_eq_true rfl) ?_
  have hP : va_P D vwCl [(h0, .inr (5, [.int 0, .int 0, .int 0, .int 0, .int 0, .int 0, .ref q_1, .ref q_2, .ref q_3, .ref q_4, .ref q_5, .ref q_6, .null, .null])), (q_1, .inl (D.1 13, 48, .inl (fun _ => 0))), (q_2, .inl (D.1 13, 60, .inl (fun _ => 0))), (q_3, .inl (D.1 13, 60, .inl (fun _ => 0))), (q_4, .inl (D.1 13, 60, .inl (fun _ => 0))), (q_5, .inl (D.1 13, 60, .inl (fun _ => 0))), (q_6, .inr (0, [.ref u_7, .int 0])), (u_7, .inl (D.1 13, 1600, .inl (fun _ => 0))), (q_8, .inl (D.1 13, 3, .inl (fun _ => 0)))] H := hP
  have hD : va_D A [(h0, .inr (5, [.int 0, .int 0, .int 0, .int 0, .int 0, .int 0, .ref q_1, .ref q_2, .ref q_3, .ref q_4, .ref q_5, .ref q_6, .null, .null])), (q_1, .inl (D.1 13, 48, .inl (fun _ => 0))), (q_2, .inl (D.1 13, 60, .inl (fun _ => 0))), (q_3, .inl (D.1 13, 60, .inl (fun _ => 0))), (q_4, .inl (D.1 13, 60, .inl (fun _ => 0))), (q_5, .inl (D.1 13, 60, .inl (fun _ => 0))), (q_6, .inr (0, [.ref u_7, .int 0])), (u_7, .inl (D.1 13, 1600, .inl (fun _ => 0))), (q_8, .inl (D.1 13, 3, .inl (fun _ => 0)))] := hD
  refine va_putF (D := D) (ci := 5) (v := .ref q_8) (ty := .array .int) (C := RX5) (T := TX5) (N := 14) hx hb ht inX5 tyX5 tyX5_ok nmX5 hown hK hP hD hS 0 rfl rfl 12 (by decide) (ht (.fieldLink RX5 34 "CloneVolumes$Plan" "begins" "[I") fl_X5_34) (fun _ h9 => h9) rfl hin rfl (by decide +kernel) rfl rfl (Nat.le_of_ble_eq_true rfl) dX5_init_59 (fun H locs hP hD hS => ?_)
  have hP : va_P D vwCl [(h0, .inr (5, [.int 0, .int 0, .int 0, .int 0, .int 0, .int 0, .ref q_1, .ref q_2, .ref q_3, .ref q_4, .ref q_5, .ref q_6, .ref q_8, .null])), (q_1, .inl (D.1 13, 48, .inl (fun _ => 0))), (q_2, .inl (D.1 13, 60, .inl (fun _ => 0))), (q_3, .inl (D.1 13, 60, .inl (fun _ => 0))), (q_4, .inl (D.1 13, 60, .inl (fun _ => 0))), (q_5, .inl (D.1 13, 60, .inl (fun _ => 0))), (q_6, .inr (0, [.ref u_7, .int 0])), (u_7, .inl (D.1 13, 1600, .inl (fun _ => 0))), (q_8, .inl (D.1 13, 3, .inl (fun _ => 0)))] H := hP
  have hD : va_D A [(h0, .inr (5, [.int 0, .int 0, .int 0, .int 0, .int 0, .int 0, .ref q_1, .ref q_2, .ref q_3, .ref q_4, .ref q_5, .ref q_6, .ref q_8, .null])), (q_1, .inl (D.1 13, 48, .inl (fun _ => 0))), (q_2, .inl (D.1 13, 60, .inl (fun _ => 0))), (q_3, .inl (D.1 13, 60, .inl (fun _ => 0))), (q_4, .inl (D.1 13, 60, .inl (fun _ => 0))), (q_5, .inl (D.1 13, 60, .inl (fun _ => 0))), (q_6, .inr (0, [.ref u_7, .int 0])), (u_7, .inl (D.1 13, 1600, .inl (fun _ => 0))), (q_8, .inl (D.1 13, 3, .inl (fun _ => 0)))] := hD
  refine lv_aload_n hx hb dX5_init_62 rfl (lv_at hl 0 rfl) ?_
  refine lv_iconst (v := 3) hx hb dX5_init_63 (by decide) ?_
  refine va_newa (atype := .int) (a0 := (3, .inl (fun _ => 0))) (ty := .int) (N' := 3) hx hb (ht _ ac_int) rfl hK hP hD hS hA (fun _ => rfl) (by decide) (by decide) (by decide) (Nat.le_of_ble_eq_true rfl) (Nat.le_of_ble_eq_true rfl) dX5_init_64 (fun q_9 cA H hK2 hP hD hS => ?_)
  obtain rfl := z_cls_int hK hK2
  refine W.widen (k := 9) (n := 1896) (Nat.le_of_ble_eq_true rfl) (Nat.le_of_ble_eq_true rfl) ?_
  have hP : va_P D vwCl [(h0, .inr (5, [.int 0, .int 0, .int 0, .int 0, .int 0, .int 0, .ref q_1, .ref q_2, .ref q_3, .ref q_4, .ref q_5, .ref q_6, .ref q_8, .null])), (q_1, .inl (D.1 13, 48, .inl (fun _ => 0))), (q_2, .inl (D.1 13, 60, .inl (fun _ => 0))), (q_3, .inl (D.1 13, 60, .inl (fun _ => 0))), (q_4, .inl (D.1 13, 60, .inl (fun _ => 0))), (q_5, .inl (D.1 13, 60, .inl (fun _ => 0))), (q_6, .inr (0, [.ref u_7, .int 0])), (u_7, .inl (D.1 13, 1600, .inl (fun _ => 0))), (q_8, .inl (D.1 13, 3, .inl (fun _ => 0))), (q_9, .inl (D.1 13, 3, .inl (fun _ => 0)))] H := hP
  have hD : va_D A [(h0, .inr (5, [.int 0, .int 0, .int 0, .int 0, .int 0, .int 0, .ref q_1, .ref q_2, .ref q_3, .ref q_4, .ref q_5, .ref q_6, .ref q_8, .null])), (q_1, .inl (D.1 13, 48, .inl (fun _ => 0))), (q_2, .inl (D.1 13, 60, .inl (fun _ => 0))), (q_3, .inl (D.1 13, 60, .inl (fun _ => 0))), (q_4, .inl (D.1 13, 60, .inl (fun _ => 0))), (q_5, .inl (D.1 13, 60, .inl (fun _ => 0))), (q_6, .inr (0, [.ref u_7, .int 0])), (u_7, .inl (D.1 13, 1600, .inl (fun _ => 0))), (q_8, .inl (D.1 13, 3, .inl (fun _ => 0))), (q_9, .inl (D.1 13, 3, .inl (fun _ => 0)))] := hD
  refine va_putF (D := D) (ci := 5) (v := .ref q_9) (ty := .array .int) (C := RX5) (T := TX5) (N := 14) hx hb ht inX5 tyX5 tyX5_ok nmX5 hown hK hP hD hS 0 rfl rfl 13 (by decide) (ht (.fieldLink RX5 37 "CloneVolumes$Plan" "ends" "[I") fl_X5_37) (fun _ h9 => h9) rfl hin rfl (by decide +kernel) rfl rfl (Nat.le_of_ble_eq_true rfl) dX5_init_66 (fun H locs hP hD hS => ?_)
  have hP : va_P D vwCl [(h0, .inr (5, [.int 0, .int 0, .int 0, .int 0, .int 0, .int 0, .ref q_1, .ref q_2, .ref q_3, .ref q_4, .ref q_5, .ref q_6, .ref q_8, .ref q_9])), (q_1, .inl (D.1 13, 48, .inl (fun _ => 0))), (q_2, .inl (D.1 13, 60, .inl (fun _ => 0))), (q_3, .inl (D.1 13, 60, .inl (fun _ => 0))), (q_4, .inl (D.1 13, 60, .inl (fun _ => 0))), (q_5, .inl (D.1 13, 60, .inl (fun _ => 0))), (q_6, .inr (0, [.ref u_7, .int 0])), (u_7, .inl (D.1 13, 1600, .inl (fun _ => 0))), (q_8, .inl (D.1 13, 3, .inl (fun _ => 0))), (q_9, .inl (D.1 13, 3, .inl (fun _ => 0)))] H := hP
  have hD : va_D A [(h0, .inr (5, [.int 0, .int 0, .int 0, .int 0, .int 0, .int 0, .ref q_1, .ref q_2, .ref q_3, .ref q_4, .ref q_5, .ref q_6, .ref q_8, .ref q_9])), (q_1, .inl (D.1 13, 48, .inl (fun _ => 0))), (q_2, .inl (D.1 13, 60, .inl (fun _ => 0))), (q_3, .inl (D.1 13, 60, .inl (fun _ => 0))), (q_4, .inl (D.1 13, 60, .inl (fun _ => 0))), (q_5, .inl (D.1 13, 60, .inl (fun _ => 0))), (q_6, .inr (0, [.ref u_7, .int 0])), (u_7, .inl (D.1 13, 1600, .inl (fun _ => 0))), (q_8, .inl (D.1 13, 3, .inl (fun _ => 0))), (q_9, .inl (D.1 13, 3, .inl (fun _ => 0)))] := hD
  refine lv_aload_n hx hb dX5_init_69 rfl (lv_at hl 0 rfl) ?_
  refine zwVv (As := []) (rest := []) (C := RX5) (n := 0) (wr := [(q_1, .inl (D.1 13, 48, .inl (fun _ => 0))), (q_2, .inl (D.1 13, 60, .inl (fun _ => 0))), (q_3, .inl (D.1 13, 60, .inl (fun _ => 0))), (q_4, .inl (D.1 13, 60, .inl (fun _ => 0))), (q_5, .inl (D.1 13, 60, .inl (fun _ => 0))), (u_7, .inl (D.1 13, 1600, .inl (fun _ => 0)))]) ⟨hx, hb, hml, hown, ht⟩ (k_X5_clear0 l D _ h0 q_6 q_8 q_9 q_1 q_2 q_3 q_4 q_5 u_7 (fun _ => 0) (fun _ => 0)) (zgV ml_X5_40 im_X5_clear se_X5_clear in_X5 co_X5_clear) rfl rfl (by decide +kernel) ⟨Nat.le_of_ble_eq_true rfl, Nat.le_of_ble_eq_true rfl⟩ hK hP hD hS hA [0, 6, 8, 9] [1, 2, 3, 4, 5, 7] rfl rfl rfl rfl (by decide) 0 rfl rfl rfl rfl hl.1 rfl (Nat.le_of_ble_eq_true rfl) dX5_init_70 ⟨Nat.le_of_ble_eq_true rfl, Nat.le_of_ble_eq_true rfl⟩ (fun u_10 H locs hw hP hD hS => ?_)
  obtain ⟨f_12, f_13⟩ := u_10
  have hP : va_P D vwCl [(q_1, .inl (D.1 13, 48, .inl (fun _ => 0))), (q_2, .inl (D.1 13, 60, .inl (fun _ => 0))), (q_3, .inl (D.1 13, 60, .inl (fun _ => 0))), (q_4, .inl (D.1 13, 60, .inl (fun _ => 0))), (q_5, .inl (D.1 13, 60, .inl (fun _ => 0))), (u_7, .inl (D.1 13, 1600, .inl (fun _ => 0))), (h0, .inr (5, [.int 0, .int 0, .int 0, .int 0, .int 0, .int 0, .ref q_1, .ref q_2, .ref q_3, .ref q_4, .ref q_5, .ref q_6, .ref q_8, .ref q_9])), (q_6, .inr (0, [.ref u_7, .int 0])), (q_8, .inl (D.1 13, 3, .inl f_12)), (q_9, .inl (D.1 13, 3, .inl f_13))] H := hP
  have hD : va_D A [(q_1, .inl (D.1 13, 48, .inl (fun _ => 0))), (q_2, .inl (D.1 13, 60, .inl (fun _ => 0))), (q_3, .inl (D.1 13, 60, .inl (fun _ => 0))), (q_4, .inl (D.1 13, 60, .inl (fun _ => 0))), (q_5, .inl (D.1 13, 60, .inl (fun _ => 0))), (u_7, .inl (D.1 13, 1600, .inl (fun _ => 0))), (h0, .inr (5, [.int 0, .int 0, .int 0, .int 0, .int 0, .int 0, .ref q_1, .ref q_2, .ref q_3, .ref q_4, .ref q_5, .ref q_6, .ref q_8, .ref q_9])), (q_6, .inr (0, [.ref u_7, .int 0])), (q_8, .inl (D.1 13, 3, .inl f_12)), (q_9, .inl (D.1 13, 3, .inl f_13))] := hD
  have hP9 := hP.sub (ws' := [(q_1, .inl (D.1 13, 48, .inl (fun _ => 0))), (q_2, .inl (D.1 13, 60, .inl (fun _ => 0))), (q_3, .inl (D.1 13, 60, .inl (fun _ => 0))), (q_4, .inl (D.1 13, 60, .inl (fun _ => 0))), (q_5, .inl (D.1 13, 60, .inl (fun _ => 0))), (u_7, .inl (D.1 13, 1600, .inl (fun _ => 0))), (h0, .inr (5, [.int 0, .int 0, .int 0, .int 0, .int 0, .int 0, .ref q_1, .ref q_2, .ref q_3, .ref q_4, .ref q_5, .ref q_6, .ref q_8, .ref q_9])), (q_6, .inr (0, [.ref u_7, .int 0])), (q_8, .inl (D.1 13, 3, .inl f_12)), (q_9, .inl (D.1 13, 3, .inl f_13))]) [0, 1, 2, 3, 4, 5, 6, 7, 8, 9] rfl
  have hD9 := hD.sub (ws' := [(q_1, .inl (D.1 13, 48, .inl (fun _ => 0))), (q_2, .inl (D.1 13, 60, .inl (fun _ => 0))), (q_3, .inl (D.1 13, 60, .inl (fun _ => 0))), (q_4, .inl (D.1 13, 60, .inl (fun _ => 0))), (q_5, .inl (D.1 13, 60, .inl (fun _ => 0))), (u_7, .inl (D.1 13, 1600, .inl (fun _ => 0))), (h0, .inr (5, [.int 0, .int 0, .int 0, .int 0, .int 0, .int 0, .ref q_1, .ref q_2, .ref q_3, .ref q_4, .ref q_5, .ref q_6, .ref q_8, .ref q_9])), (q_6, .inr (0, [.ref u_7, .int 0])), (q_8, .inl (D.1 13, 3, .inl f_12)), (q_9, .inl (D.1 13, 3, .inl f_13))]) [0, 1, 2, 3, 4, 5, 6, 7, 8, 9] (by decide) rfl
  refine W.widen (k := 9) (n := 1896) (Nat.le_of_ble_eq_true rfl) (Nat.le_of_ble_eq_true rfl) ?_
  exact W.vret hx hb hr (fun t ht hW => ⟨⟨(q_1, q_2, q_3, q_4, q_5, u_7, q_6, q_8, q_9, f_12, f_13), rfl, trivial, by rw [ht]; exact hP9, va_K.moved hW.alike hK, hD9⟩, hS.F ht⟩) hS.2.2 dX5_init_73
