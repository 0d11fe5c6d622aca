set_option maxHeartbeats 4000000 in
set_option maxRecDepth 100000 in
theorem k_X2_init (l : Launch) (D : va_G) (sz : Nat) (b0 qS vS : Nat) (fS : Nat → Int32) (h0 : Nat) (hB : ∀ q, va_A [(h0, .inr (2, [.null, .null, .null, .int 0, .null, .int 0]))] sz q → b0 ≤ q) : Met l yX2_init (wz yX2_init cX2_init 1 none) { frames := 1, cells := 4, slots := 200, locals := 60 } (va_Pc [.ref h0] (fun U => zW D sz [(h0, .inr (2, [.null, .null, .null, .int 0, .null, .int 0]))] U ∧ EE b0 qS vS fS U)) (va_Qv (fun (_ : ((Nat) × (Nat) × (Nat) × (Nat))) => True) (fun u t => zB D (va_A [(h0, .inr (2, [.null, .null, .null, .int 0, .null, .int 0]))] sz) ((fun (u : ((Nat) × (Nat) × (Nat) × (Nat))) => [(h0, .inr (2, [.ref u.1, .ref u.2.1, .ref u.2.2.1, .int 0, .ref u.2.2.2, .int 0])), (u.1, .inl (D.1 13, 60, .inl (fun _ => 0))), (u.2.1, .inl (D.1 13, 60, .inl (fun _ => 0))), (u.2.2.1, .inl (D.1 13, 60, .inl (fun _ => 0))), (u.2.2.2, .inl (D.1 17, 20, .inr (.inr (.inr (.inr (fun _ => none))))))]) u) t) (va_A [(h0, .inr (2, [.null, .null, .null, .int 0, .null, .int 0]))] sz)) 4 200 (va_A [(h0, .inr (2, [.null, .null, .null, .int 0, .null, .int 0]))] sz) := by
  refine Met.ofW (cc := cX2_init) (maxL := 1) (ret := none) (by decide) rfl ?_
  intro p e s m args below meth c s₁ B hml hv
  obtain ⟨rfl, ⟨hsz, hP, hK, hD0⟩, hE⟩ := hv
  have hx := B.exec
  have hb := B.bytes
  have hr := B.returns
  have hts := atoms_spec (ws := wz yX2_init cX2_init 1 none) B.pre
  have ht : ∀ w ∈ lw_gd, w.before _ s = true := fun w h => hts w (List.mem_cons_of_mem _ h)
  have hown : s.vm.findClass RX2 = some m.cls := findClass_of_methodNamed B.named
  have hlocks := B.notSynchronized
  have hin : meth.name = "<init>" := (name_of_methodNamed B.named B.method).1
  subst hsz
  have hD := hD0.self (sz := s.heap.size)
  have hAb := hB
  generalize hAe : va_A [(h0, .inr (2, [.null, .null, .null, .int 0, .null, .int 0]))] s.heap.size = A at hAb hD ⊢
  have hA : ∀ q : Nat, s.heap.size ≤ q → A q := fun q h => by rw [← hAe]; exact Or.inr h
  have hS : va_S A s.heap s.heap [] := va_S.rf
  have zi0 : (0 : Int32).toInt = 0 := rfl
  have zi1 : (1 : Int32).toInt = 1 := rfl
  have zi2 : (2 : Int32).toInt = 2 := rfl
  have zi3 : (3 : Int32).toInt = 3 := rfl
  have zi4 : (4 : Int32).toInt = 4 := rfl
  have hl := lv_entry ([.ref h0]) (n := 1) (Nat.le_of_ble_eq_true rfl)
  rw [lg_entry_eq]
  generalize (lg_sl ([.ref h0]) ++ List.replicate (1 - (lg_sl ([.ref h0])).length) Slot.unset).toArray = ls at hl ⊢
  have hl : lv_has ls 1 [(0, .ref h0)] := hl
  refine lv_aload_n hx hb dX2_init_0 rfl (lv_at hl 0 rfl) ?_
  refine W.objInit hx hb hown (ht _ ml_X2_3) (ht _ im_obj) (ht _ co_obj) rfl (by rw [hml]; exact hl.1) rfl dX2_init_1 (Nat.le_of_ble_eq_true rfl) (Nat.le_of_ble_eq_true rfl) ?_
  refine W.eq (g2 := F0 m 4 ls []) rfl ?_
  refine lv_aload_n hx hb dX2_init_4 rfl (lv_at hl 0 rfl) ?_
  refine lv_bipush (v := 60) hx hb dX2_init_5 (by decide) ?_
  refine va_newa (atype := .int) (a0 := (60, .inl (fun _ => 0))) (ty := .int) (N' := 60) hx hb (ht _ ac_int) rfl hK hP hD hS hA (fun _ => rfl) (by decide) (by decide) (by decide) (Nat.le_of_ble_eq_true rfl) (Nat.le_of_ble_eq_true rfl) dX2_init_7 (fun q_1 cA H hK2 hP hD hS => ?_)
  obtain rfl := z_cls_int hK hK2
  refine W.widen (k := 1) (n := 60) (Nat.le_of_ble_eq_true rfl) (Nat.le_of_ble_eq_true rfl) ?_
  have hP : va_P D vwCl [(h0, .inr (2, [.null, .null, .null, .int 0, .null, .int 0])), (q_1, .inl (D.1 13, 60, .inl (fun _ => 0)))] H := hP
  have hD : va_D A [(h0, .inr (2, [.null, .null, .null, .int 0, .null, .int 0])), (q_1, .inl (D.1 13, 60, .inl (fun _ => 0)))] := hD
  refine va_putF (D := D) (ci := 2) (v := .ref q_1) (ty := .array .int) (C := RX2) (T := TX2) (N := 6) hx hb ht inX2 tyX2 tyX2_ok nmX2 hown hK hP hD hS 0 rfl rfl 0 (by decide) (ht (.fieldLink RX2 11 "CloneVolumes$History" "acts" "[I") fl_X2_11) (fun _ h9 => h9) rfl hin rfl (by decide +kernel) rfl rfl (Nat.le_of_ble_eq_true rfl) dX2_init_9 (fun H locs hP hD hS => ?_)
  have hP : va_P D vwCl [(h0, .inr (2, [.ref q_1, .null, .null, .int 0, .null, .int 0])), (q_1, .inl (D.1 13, 60, .inl (fun _ => 0)))] H := hP
  have hD : va_D A [(h0, .inr (2, [.ref q_1, .null, .null, .int 0, .null, .int 0])), (q_1, .inl (D.1 13, 60, .inl (fun _ => 0)))] := hD
  refine lv_aload_n hx hb dX2_init_12 rfl (lv_at hl 0 rfl) ?_
  refine lv_bipush (v := 60) hx hb dX2_init_13 (by decide) ?_
  refine va_newa (atype := .int) (a0 := (60, .inl (fun _ => 0))) (ty := .int) (N' := 60) hx hb (ht _ ac_int) rfl hK hP hD hS hA (fun _ => rfl) (by decide) (by decide) (by decide) (Nat.le_of_ble_eq_true rfl) (Nat.le_of_ble_eq_true rfl) dX2_init_15 (fun q_2 cA H hK2 hP hD hS => ?_)
  obtain rfl := z_cls_int hK hK2
  refine W.widen (k := 2) (n := 120) (Nat.le_of_ble_eq_true rfl) (Nat.le_of_ble_eq_true rfl) ?_
  have hP : va_P D vwCl [(h0, .inr (2, [.ref q_1, .null, .null, .int 0, .null, .int 0])), (q_1, .inl (D.1 13, 60, .inl (fun _ => 0))), (q_2, .inl (D.1 13, 60, .inl (fun _ => 0)))] H := hP
  have hD : va_D A [(h0, .inr (2, [.ref q_1, .null, .null, .int 0, .null, .int 0])), (q_1, .inl (D.1 13, 60, .inl (fun _ => 0))), (q_2, .inl (D.1 13, 60, .inl (fun _ => 0)))] := hD
  refine va_putF (D := D) (ci := 2) (v := .ref q_2) (ty := .array .int) (C := RX2) (T := TX2) (N := 6) hx hb ht inX2 tyX2 tyX2_ok nmX2 hown hK hP hD hS 0 rfl rfl 1 (by decide) (ht (.fieldLink RX2 15 "CloneVolumes$History" "volumes" "[I") fl_X2_15) (fun _ h9 => h9) rfl hin rfl (by decide +kernel) rfl rfl (Nat.le_of_ble_eq_true rfl) dX2_init_17 (fun H locs hP hD hS => ?_)
  have hP : va_P D vwCl [(h0, .inr (2, [.ref q_1, .ref q_2, .null, .int 0, .null, .int 0])), (q_1, .inl (D.1 13, 60, .inl (fun _ => 0))), (q_2, .inl (D.1 13, 60, .inl (fun _ => 0)))] H := hP
  have hD : va_D A [(h0, .inr (2, [.ref q_1, .ref q_2, .null, .int 0, .null, .int 0])), (q_1, .inl (D.1 13, 60, .inl (fun _ => 0))), (q_2, .inl (D.1 13, 60, .inl (fun _ => 0)))] := hD
  refine lv_aload_n hx hb dX2_init_20 rfl (lv_at hl 0 rfl) ?_
  refine lv_bipush (v := 60) hx hb dX2_init_21 (by decide) ?_
  refine va_newa (atype := .int) (a0 := (60, .inl (fun _ => 0))) (ty := .int) (N' := 60) hx hb (ht _ ac_int) rfl hK hP hD hS hA (fun _ => rfl) (by decide) (by decide) (by decide) (Nat.le_of_ble_eq_true rfl) (Nat.le_of_ble_eq_true rfl) dX2_init_23 (fun q_3 cA H hK2 hP hD hS => ?_)
  obtain rfl := z_cls_int hK hK2
  refine W.widen (k := 3) (n := 180) (Nat.le_of_ble_eq_true rfl) (Nat.le_of_ble_eq_true rfl) ?_
  have hP : va_P D vwCl [(h0, .inr (2, [.ref q_1, .ref q_2, .null, .int 0, .null, .int 0])), (q_1, .inl (D.1 13, 60, .inl (fun _ => 0))), (q_2, .inl (D.1 13, 60, .inl (fun _ => 0))), (q_3, .inl (D.1 13, 60, .inl (fun _ => 0)))] H := hP
  have hD : va_D A [(h0, .inr (2, [.ref q_1, .ref q_2, .null, .int 0, .null, .int 0])), (q_1, .inl (D.1 13, 60, .inl (fun _ => 0))), (q_2, .inl (D.1 13, 60, .inl (fun _ => 0))), (q_3, .inl (D.1 13, 60, .inl (fun _ => 0)))] := hD
  refine va_putF (D := D) (ci := 2) (v := .ref q_3) (ty := .array .int) (C := RX2) (T := TX2) (N := 6) hx hb ht inX2 tyX2 tyX2_ok nmX2 hown hK hP hD hS 0 rfl rfl 2 (by decide) (ht (.fieldLink RX2 18 "CloneVolumes$History" "wrote" "[I") fl_X2_18) (fun _ h9 => h9) rfl hin rfl (by decide +kernel) rfl rfl (Nat.le_of_ble_eq_true rfl) dX2_init_25 (fun H locs hP hD hS => ?_)
  have hP : va_P D vwCl [(h0, .inr (2, [.ref q_1, .ref q_2, .ref q_3, .int 0, .null, .int 0])), (q_1, .inl (D.1 13, 60, .inl (fun _ => 0))), (q_2, .inl (D.1 13, 60, .inl (fun _ => 0))), (q_3, .inl (D.1 13, 60, .inl (fun _ => 0)))] H := hP
  have hD : va_D A [(h0, .inr (2, [.ref q_1, .ref q_2, .ref q_3, .int 0, .null, .int 0])), (q_1, .inl (D.1 13, 60, .inl (fun _ => 0))), (q_2, .inl (D.1 13, 60, .inl (fun _ => 0))), (q_3, .inl (D.1 13, 60, .inl (fun _ => 0)))] := hD
  refine lv_aload_n hx hb dX2_init_28 rfl (lv_at hl 0 rfl) ?_
  refine lv_bipush (v := 20) hx hb dX2_init_29 (by decide) ?_
  refine va_newq (C := "CloneVolumes$State") (N' := 20) hx hb hown (ht _ cx_X2_21) hE.1.2.2.2.2.2.2.1 hK hP hD hS hA (by decide) (by decide) (by decide) (Nat.le_of_ble_eq_true rfl) (Nat.le_of_ble_eq_true rfl) dX2_init_31 (fun q_4 cA H hK2 hP hD hS => ?_)
  refine W.widen (k := 4) (n := 200) (Nat.le_of_ble_eq_true rfl) (Nat.le_of_ble_eq_true rfl) ?_
  obtain rfl := z_cls_obj hK hK2
  have hP : va_P D vwCl [(h0, .inr (2, [.ref q_1, .ref q_2, .ref q_3, .int 0, .null, .int 0])), (q_1, .inl (D.1 13, 60, .inl (fun _ => 0))), (q_2, .inl (D.1 13, 60, .inl (fun _ => 0))), (q_3, .inl (D.1 13, 60, .inl (fun _ => 0))), (q_4, .inl (D.1 17, 20, .inr (.inr (.inr (.inr (fun _ => none))))))] H := hP
  have hD : va_D A [(h0, .inr (2, [.ref q_1, .ref q_2, .ref q_3, .int 0, .null, .int 0])), (q_1, .inl (D.1 13, 60, .inl (fun _ => 0))), (q_2, .inl (D.1 13, 60, .inl (fun _ => 0))), (q_3, .inl (D.1 13, 60, .inl (fun _ => 0))), (q_4, .inl (D.1 17, 20, .inr (.inr (.inr (.inr (fun _ => none))))))] := hD
  refine va_putF (D := D) (ci := 2) (v := .ref q_4) (ty := .array (.object "CloneVolumes$State")) (C := RX2) (T := TX2) (N := 6) hx hb ht inX2 tyX2 tyX2_ok nmX2 hown hK hP hD hS 0 rfl rfl 4 (by decide) (ht (.fieldLink RX2 23 "CloneVolumes$History" "past" "[LCloneVolumes$State;") fl_X2_23) (fun _ h9 => h9) rfl hin rfl (by decide +kernel) rfl rfl (Nat.le_of_ble_eq_true rfl) dX2_init_34 (fun H locs hP hD hS => ?_)
  have hP : va_P D vwCl [(h0, .inr (2, [.ref q_1, .ref q_2, .ref q_3, .int 0, .ref q_4, .int 0])), (q_1, .inl (D.1 13, 60, .inl (fun _ => 0))), (q_2, .inl (D.1 13, 60, .inl (fun _ => 0))), (q_3, .inl (D.1 13, 60, .inl (fun _ => 0))), (q_4, .inl (D.1 17, 20, .inr (.inr (.inr (.inr (fun _ => none))))))] H := hP
  have hD : va_D A [(h0, .inr (2, [.ref q_1, .ref q_2, .ref q_3, .int 0, .ref q_4, .int 0])), (q_1, .inl (D.1 13, 60, .inl (fun _ => 0))), (q_2, .inl (D.1 13, 60, .inl (fun _ => 0))), (q_3, .inl (D.1 13, 60, .inl (fun _ => 0))), (q_4, .inl (D.1 17, 20, .inr (.inr (.inr (.inr (fun _ => none))))))] := hD
  have hP9 := hP.sub (ws' := [(h0, .inr (2, [.ref q_1, .ref q_2, .ref q_3, .int 0, .ref q_4, .int 0])), (q_1, .inl (D.1 13, 60, .inl (fun _ => 0))), (q_2, .inl (D.1 13, 60, .inl (fun _ => 0))), (q_3, .inl (D.1 13, 60, .inl (fun _ => 0))), (q_4, .inl (D.1 17, 20, .inr (.inr (.inr (.inr (fun _ => none))))))]) [0, 1, 2, 3, 4] rfl
  have hD9 := hD.sub (ws' := [(h0, .inr (2, [.ref q_1, .ref q_2, .ref q_3, .int 0, .ref q_4, .int 0])), (q_1, .inl (D.1 13, 60, .inl (fun _ => 0))), (q_2, .inl (D.1 13, 60, .inl (fun _ => 0))), (q_3, .inl (D.1 13, 60, .inl (fun _ => 0))), (q_4, .inl (D.1 17, 20, .inr (.inr (.inr (.inr (fun _ => none))))))]) [0, 1, 2, 3, 4] (by decide) rfl
  refine W.widen (k := 4) (n := 200) (Nat.le_of_ble_eq_true rfl) (Nat.le_of_ble_eq_true rfl) ?_
  exact W.vret hx hb hr (fun t ht hW => ⟨⟨(q_1, q_2, q_3, q_4), rfl, trivial, by rw [ht]; exact hP9, va_K.moved hW.alike hK, hD9⟩, hS.F ht⟩) hS.2.2 dX2_init_37
