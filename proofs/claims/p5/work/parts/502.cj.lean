set_option maxHeartbeats 4000000 in
set_option maxRecDepth 100000 in
theorem k_X10_init (l : Launch) (D : va_G) (sz : Nat) (h0 : Nat) : Met l yX10_init (wz yX10_init cX10_init 1 none) { frames := 1, cells := 3, slots := 624, locals := 60 } (va_Pc [.ref h0] (zW D sz [(h0, .inr (10, [.null, .int 0, .null, .null]))])) (va_Qv (fun (_ : ((Nat) × (Nat) × (Nat))) => True) (fun u t => zB D (va_A [(h0, .inr (10, [.null, .int 0, .null, .null]))] sz) ((fun (u : ((Nat) × (Nat) × (Nat))) => [(h0, .inr (10, [.ref u.1, .int 0, .ref u.2.1, .ref u.2.2])), (u.1, .inl (D.1 13, 48, .inl (fun _ => 0))), (u.2.1, .inl (D.1 13, 288, .inl (fun _ => 0))), (u.2.2, .inl (D.1 13, 288, .inl (fun _ => 0)))]) u) t) (va_A [(h0, .inr (10, [.null, .int 0, .null, .null]))] sz)) 3 624 (va_A [(h0, .inr (10, [.null, .int 0, .null, .null]))] sz) := by
  refine Met.ofW (cc := cX10_init) (maxL := 1) (ret := none) (by decide) rfl ?_
  intro p e s m args below meth c s₁ B hml hv
  obtain ⟨rfl, hsz, hP, hK, hD0⟩ := hv
  have hx := B.exec
  have hb := B.bytes
  have hr := B.returns
  have hts := atoms_spec (ws := wz yX10_init cX10_init 1 none) B.pre
  have ht : ∀ w ∈ lw_gd, w.before _ s = true := fun w h => hts w (List.mem_cons_of_mem _ h)
  have hown : s.vm.findClass RX10 = some m.cls := findClass_of_methodNamed B.named
  have hlocks := B.notSynchronized
  have hin : meth.name = "<init>" := (name_of_methodNamed B.named B.method).1
  subst hsz
  have hD := hD0.self (sz := s.heap.size)
  generalize hAe : va_A [(h0, .inr (10, [.null, .int 0, .null, .null]))] s.heap.size = A at hD ⊢
  have hA : ∀ q : Nat, s.heap.size ≤ q → A q := fun q h => by rw [← hAe]; exact Or.inr h
  have hS : va_S A s.heap s.heap [] := va_S.rf
  have zi0 : (0 : Int32).toInt = 0 := rfl
  have zi1 : (1 : Int32).toInt = 1 := rfl
  have zi2 : (2 : Int32).toInt = 2 := rfl
  have zi3 : (3 : Int32).toInt = 3 := rfl
  have zi4 : (4 : Int32).toInt = 4 := rfl
  have hl := lv_entry ([.ref h0]) (n := 1) (Nat.le_of_ble_eq_true rfl)
  rw [lg_entry_eq]
  generalize (lg_sl ([.ref h0]) ++ List.replicate (1 - (lg_sl ([.ref h0])).length) Slot.unset).toArray = ls at hl ⊢
  have hl : lv_has ls 1 [(0, .ref h0)] := hl
  refine lv_aload_n hx hb dX10_init_0 rfl (lv_at hl 0 rfl) ?_
  refine W.objInit hx hb hown (ht _ ml_X10_3) (ht _ im_obj) (ht _ co_obj) rfl (by rw [hml]; exact hl.1) rfl dX10_init_1 (Nat.le_of_ble_eq_true rfl) (Nat.le_of_ble_eq_true rfl) ?_
  refine W.eq (g2 := F0 m 4 ls []) rfl ?_
  refine lv_aload_n hx hb dX10_init_4 rfl (lv_at hl 0 rfl) ?_
  refine lv_bipush (v := 48) hx hb dX10_init_5 (by decide) ?_
  refine va_newa (atype := .int) (a0 := (48, .inl (fun _ => 0))) (ty := .int) (N' := 48) hx hb (ht _ ac_int) rfl hK hP hD hS hA (fun _ => rfl) (by decide) (by decide) (by decide) (Nat.le_of_ble_eq_true rfl) (Nat.le_of_ble_eq_true rfl) dX10_init_7 (fun q_1 cA H hK2 hP hD hS => ?_)
  obtain rfl := z_cls_int hK hK2
  refine W.widen (k := 1) (n := 48) (Nat.le_of_ble_eq_true rfl) (Nat.le_of_ble_eq_true rfl) ?_
  have hP : va_P D vwCl [(h0, .inr (10, [.null, .int 0, .null, .null])), (q_1, .inl (D.1 13, 48, .inl (fun _ => 0)))] H := hP
  have hD : va_D A [(h0, .inr (10, [.null, .int 0, .null, .null])), (q_1, .inl (D.1 13, 48, .inl (fun _ => 0)))] := hD
  refine va_putF (D := D) (ci := 10) (v := .ref q_1) (ty := .array .int) (C := RX10) (T := TX10) (N := 4) hx hb ht inX10 tyX10 tyX10_ok nmX10 hown hK hP hD hS 0 rfl rfl 0 (by decide) (ht (.fieldLink RX10 9 "CloneVolumes$Walk" "row" "[I") fl_X10_9) (fun _ h9 => h9) rfl hin rfl (by decide +kernel) rfl rfl (Nat.le_of_ble_eq_true rfl) dX10_init_9 (fun H locs hP hD hS => ?_)
  have hP : va_P D vwCl [(h0, .inr (10, [.ref q_1, .int 0, .null, .null])), (q_1, .inl (D.1 13, 48, .inl (fun _ => 0)))] H := hP
  have hD : va_D A [(h0, .inr (10, [.ref q_1, .int 0, .null, .null])), (q_1, .inl (D.1 13, 48, .inl (fun _ => 0)))] := hD
  refine lv_aload_n hx hb dX10_init_12 rfl (lv_at hl 0 rfl) ?_
  refine lv_sipush (v := 288) hx hb dX10_init_13 (by decide) ?_
  refine va_newa (atype := .int) (a0 := (288, .inl (fun _ => 0))) (ty := .int) (N' := 288) hx hb (ht _ ac_int) rfl hK hP hD hS hA (fun _ => rfl) (by decide) (by decide) (by decide) (Nat.le_of_ble_eq_true rfl) (Nat.le_of_ble_eq_true rfl) dX10_init_16 (fun q_2 cA H hK2 hP hD hS => ?_)
  obtain rfl := z_cls_int hK hK2
  refine W.widen (k := 2) (n := 336) (Nat.le_of_ble_eq_true rfl) (Nat.le_of_ble_eq_true rfl) ?_
  have hP : va_P D vwCl [(h0, .inr (10, [.ref q_1, .int 0, .null, .null])), (q_1, .inl (D.1 13, 48, .inl (fun _ => 0))), (q_2, .inl (D.1 13, 288, .inl (fun _ => 0)))] H := hP
  have hD : va_D A [(h0, .inr (10, [.ref q_1, .int 0, .null, .null])), (q_1, .inl (D.1 13, 48, .inl (fun _ => 0))), (q_2, .inl (D.1 13, 288, .inl (fun _ => 0)))] := hD
  refine va_putF (D := D) (ci := 10) (v := .ref q_2) (ty := .array .int) (C := RX10) (T := TX10) (N := 4) hx hb ht inX10 tyX10 tyX10_ok nmX10 hown hK hP hD hS 0 rfl rfl 2 (by decide) (ht (.fieldLink RX10 15 "CloneVolumes$Walk" "keys" "[I") fl_X10_15) (fun _ h9 => h9) rfl hin rfl (by decide +kernel) rfl rfl (Nat.le_of_ble_eq_true rfl) dX10_init_18 (fun H locs hP hD hS => ?_)
  have hP : va_P D vwCl [(h0, .inr (10, [.ref q_1, .int 0, .ref q_2, .null])), (q_1, .inl (D.1 13, 48, .inl (fun _ => 0))), (q_2, .inl (D.1 13, 288, .inl (fun _ => 0)))] H := hP
  have hD : va_D A [(h0, .inr (10, [.ref q_1, .int 0, .ref q_2, .null])), (q_1, .inl (D.1 13, 48, .inl (fun _ => 0))), (q_2, .inl (D.1 13, 288, .inl (fun _ => 0)))] := hD
  refine lv_aload_n hx hb dX10_init_21 rfl (lv_at hl 0 rfl) ?_
  refine lv_sipush (v := 288) hx hb dX10_init_22 (by decide) ?_
  refine va_newa (atype := .int) (a0 := (288, .inl (fun _ => 0))) (ty := .int) (N' := 288) hx hb (ht _ ac_int) rfl hK hP hD hS hA (fun _ => rfl) (by decide) (by decide) (by decide) (Nat.le_of_ble_eq_true rfl) (Nat.le_of_ble_eq_true rfl) dX10_init_25 (fun q_3 cA H hK2 hP hD hS => ?_)
  obtain rfl := z_cls_int hK hK2
  refine W.widen (k := 3) (n := 624) (Nat.le_of_ble_eq_true rfl) (Nat.le_of_ble_eq_true rfl) ?_
  have hP : va_P D vwCl [(h0, .inr (10, [.ref q_1, .int 0, .ref q_2, .null])), (q_1, .inl (D.1 13, 48, .inl (fun _ => 0))), (q_2, .inl (D.1 13, 288, .inl (fun _ => 0))), (q_3, .inl (D.1 13, 288, .inl (fun _ => 0)))] H := hP
  have hD : va_D A [(h0, .inr (10, [.ref q_1, .int 0, .ref q_2, .null])), (q_1, .inl (D.1 13, 48, .inl (fun _ => 0))), (q_2, .inl (D.1 13, 288, .inl (fun _ => 0))), (q_3, .inl (D.1 13, 288, .inl (fun _ => 0)))] := hD
  refine va_putF (D := D) (ci := 10) (v := .ref q_3) (ty := .array .int) (C := RX10) (T := TX10) (N := 4) hx hb ht inX10 tyX10 tyX10_ok nmX10 hown hK hP hD hS 0 rfl rfl 3 (by decide) (ht (.fieldLink RX10 18 "CloneVolumes$Walk" "values" "[I") fl_X10_18) (fun _ h9 => h9) rfl hin rfl (by decide +kernel) rfl rfl (Nat.le_of_ble_eq_true rfl) dX10_init_27 (fun H locs hP hD hS => ?_)
  have hP : va_P D vwCl [(h0, .inr (10, [.ref q_1, .int 0, .ref q_2, .ref q_3])), (q_1, .inl (D.1 13, 48, .inl (fun _ => 0))), (q_2, .inl (D.1 13, 288, .inl (fun _ => 0))), (q_3, .inl (D.1 13, 288, .inl (fun _ => 0)))] H := hP
  have hD : va_D A [(h0, .inr (10, [.ref q_1, .int 0, .ref q_2, .ref q_3])), (q_1, .inl (D.1 13, 48, .inl (fun _ => 0))), (q_2, .inl (D.1 13, 288, .inl (fun _ => 0))), (q_3, .inl (D.1 13, 288, .inl (fun _ => 0)))] := hD
  have hP9 := hP.sub (ws' := [(h0, .inr (10, [.ref q_1, .int 0, .ref q_2, .ref q_3])), (q_1, .inl (D.1 13, 48, .inl (fun _ => 0))), (q_2, .inl (D.1 13, 288, .inl (fun _ => 0))), (q_3, .inl (D.1 13, 288, .inl (fun _ => 0)))]) [0, 1, 2, 3] rfl
  have hD9 := hD.sub (ws' := [(h0, .inr (10, [.ref q_1, .int 0, .ref q_2, .ref q_3])), (q_1, .inl (D.1 13, 48, .inl (fun _ => 0))), (q_2, .inl (D.1 13, 288, .inl (fun _ => 0))), (q_3, .inl (D.1 13, 288, .inl (fun _ => 0)))]) [0, 1, 2, 3] (by decide) rfl
  refine W.widen (k := 3) (n := 624) (Nat.le_of_ble_eq_true rfl) (Nat.le_of_ble_eq_true rfl) ?_
  exact W.vret hx hb hr (fun t ht hW => ⟨⟨(q_1, q_2, q_3), rfl, trivial, by rw [ht]; exact hP9, va_K.moved hW.alike hK, hD9⟩, hS.F ht⟩) hS.2.2 dX10_init_30
