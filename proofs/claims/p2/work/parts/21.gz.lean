theorem dX6_begin_0 : decode cX6_begin 0 = .ok (.aload_n 0, 1) := by decide +kernel
theorem dX6_begin_1 : decode cX6_begin 1 = .ok (.aload_n 1, 1) := by decide +kernel
theorem dX6_begin_2 : decode cX6_begin 2 = .ok (.putfield 84, 3) := by decide +kernel
theorem dX6_begin_5 : decode cX6_begin 5 = .ok (.aload_n 0, 1) := by decide +kernel
theorem dX6_begin_6 : decode cX6_begin 6 = .ok (.iconst 0, 1) := by decide +kernel
theorem dX6_begin_7 : decode cX6_begin 7 = .ok (.putfield 61, 3) := by decide +kernel
theorem dX6_begin_10 : decode cX6_begin 10 = .ok (.aload_n 0, 1) := by decide +kernel
theorem dX6_begin_11 : decode cX6_begin 11 = .ok (.iconst (-1), 1) := by decide +kernel
theorem dX6_begin_12 : decode cX6_begin 12 = .ok (.putfield 9, 3) := by decide +kernel
theorem dX6_begin_15 : decode cX6_begin 15 = .ok (.aload_n 0, 1) := by decide +kernel
theorem dX6_begin_16 : decode cX6_begin 16 = .ok (.iconst 0, 1) := by decide +kernel
theorem dX6_begin_17 : decode cX6_begin 17 = .ok (.putfield 85, 3) := by decide +kernel
theorem dX6_begin_20 : decode cX6_begin 20 = .ok (.aload_n 0, 1) := by decide +kernel
theorem dX6_begin_21 : decode cX6_begin 21 = .ok (.iconst 0, 1) := by decide +kernel
theorem dX6_begin_22 : decode cX6_begin 22 = .ok (.putfield 88, 3) := by decide +kernel
theorem dX6_begin_25 : decode cX6_begin 25 = .ok (.aload_n 0, 1) := by decide +kernel
theorem dX6_begin_26 : decode cX6_begin 26 = .ok (.invokevirtual 75, 3) := by decide +kernel
theorem dX6_begin_29 : decode cX6_begin 29 = .ok (.return_, 1) := by decide +kernel
set_option maxHeartbeats 4000000 in
set_option maxRecDepth 100000 in
theorem k_X6_begin (l : Launch) (D : va_G) (sz : Nat) (h0 h1 h2 h3 h4 : Nat) (cd : Value) (fa pl mo ki wo si st opn sto : Int32) (n : Nat) (f fw : Nat → Int32) (h_3 : n ≤ 1600) : Met l yX6_begin (wz yX6_begin cX6_begin 2 none) { frames := 2, cells := 0, slots := 0, locals := 120 } (va_Pc [.ref h0, .ref h3] (zW D sz [(h0, .inr (6, [.int fa, .int pl, .ref h1, .ref h2, cd, .int mo, .int opn, .int ki, .int st, .int sto, .int wo, .int si])), (h1, .inr (9, [.ref h4, .int (nI n)])), (h4, .inl (D.1 13, 1600, .inl f)), (h2, .inl (D.1 14, 179, .inl fw))])) (va_Qv (fun (u : ((Int32) × (Nat) × (Nat) × (Int32) × (Int32))) => u.2.1 ≤ u.2.2.1 ∧ u.2.2.1 ≤ n) (fun u t => zB D (va_A [(h0, .inr (6, [.int fa, .int pl, .ref h1, .ref h2, cd, .int mo, .int opn, .int ki, .int st, .int sto, .int wo, .int si])), (h1, .inr (9, [.ref h4, .int (nI n)])), (h4, .inl (D.1 13, 1600, .inl f)), (h2, .inl (D.1 14, 179, .inl fw))] sz) ((fun (u : ((Int32) × (Nat) × (Nat) × (Int32) × (Int32))) => [(h0, .inr (6, [.int 0, .int (-1), .ref h1, .ref h2, .ref h3, .int mo, .int 0, .int u.1, .int (nI u.2.1), .int (nI u.2.2.1), .int u.2.2.2.1, .int u.2.2.2.2])), (h1, .inr (9, [.ref h4, .int (nI n)])), (h4, .inl (D.1 13, 1600, .inl f)), (h2, .inl (D.1 14, 179, .inl fw))]) u) t) (va_A [(h0, .inr (6, [.int fa, .int pl, .ref h1, .ref h2, cd, .int mo, .int opn, .int ki, .int st, .int sto, .int wo, .int si])), (h1, .inr (9, [.ref h4, .int (nI n)])), (h4, .inl (D.1 13, 1600, .inl f)), (h2, .inl (D.1 14, 179, .inl fw))] sz)) 0 0 (va_A [(h0, .inr (6, [.int fa, .int pl, .ref h1, .ref h2, cd, .int mo, .int opn, .int ki, .int st, .int sto, .int wo, .int si])), (h1, .inr (9, [.ref h4, .int (nI n)])), (h4, .inl (D.1 13, 1600, .inl f)), (h2, .inl (D.1 14, 179, .inl fw))] sz) := by
  refine Met.ofW (cc := cX6_begin) (maxL := 2) (ret := none) (by decide) rfl ?_
  intro p e s m args below meth c s₁ B hml hv
  obtain ⟨rfl, hsz, hP, hK, hD0⟩ := hv
  have hx := B.exec
  have hb := B.bytes
  have hr := B.returns
  have hts := atoms_spec (ws := wz yX6_begin cX6_begin 2 none) B.pre
  have ht : ∀ w ∈ lw_gd, w.before _ s = true := fun w h => hts w (List.mem_cons_of_mem _ h)
  have hown : s.vm.findClass RX6 = some m.cls := findClass_of_methodNamed B.named
  have hlocks := B.notSynchronized
  subst hsz
  have hD := hD0.self (sz := s.heap.size)
  generalize hAe : va_A [(h0, .inr (6, [.int fa, .int pl, .ref h1, .ref h2, cd, .int mo, .int opn, .int ki, .int st, .int sto, .int wo, .int si])), (h1, .inr (9, [.ref h4, .int (nI n)])), (h4, .inl (D.1 13, 1600, .inl f)), (h2, .inl (D.1 14, 179, .inl fw))] s.heap.size = A at hD ⊢
  have hA : ∀ q : Nat, s.heap.size ≤ q → A q := fun q h => by rw [← hAe]; exact Or.inr h
  have hS : va_S A s.heap s.heap [] := va_S.rf
  have zi0 : (0 : Int32).toInt = 0 := rfl
  have zi1 : (1 : Int32).toInt = 1 := rfl
  have zi2 : (2 : Int32).toInt = 2 := rfl
  have zi3 : (3 : Int32).toInt = 3 := rfl
  have zi4 : (4 : Int32).toInt = 4 := rfl
  have hl := lv_entry ([.ref h0, .ref h3]) (n := 2) (Nat.le_of_ble_eq_true rfl)
  rw [lg_entry_eq]
  generalize (lg_sl ([.ref h0, .ref h3]) ++ List.replicate (2 - (lg_sl ([.ref h0, .ref h3])).length) Slot.unset).toArray = ls at hl ⊢
  have hl : lv_has ls 2 [(0, .ref h0), (1, .ref h3)] := hl
  refine lv_aload_n hx hb dX6_begin_0 rfl (lv_at hl 0 rfl) ?_
  refine lv_aload_n hx hb dX6_begin_1 rfl (lv_at hl 1 rfl) ?_
  refine va_put (D := D) (ci := 6) (v := .ref h3) (ty := .object "CloneVolumes$Code") (C := RX6) (T := TX6) (N := 12) hx hb ht inX6 tyX6 tyX6_ok nmX6 hown hK hP hD hS 0 rfl rfl 4 (by decide) (ht (.fieldLink RX6 84 "CloneVolumes$Reader" "code" "LCloneVolumes$Code;") fl_X6_84) (fun _ h9 => h9) rfl (by decide +kernel) rfl rfl (Nat.le_of_ble_eq_true rfl) dX6_begin_2 (fun H locs hP hD hS => ?_)
  have hP : va_P D vwCl [(h0, .inr (6, [.int fa, .int pl, .ref h1, .ref h2, .ref h3, .int mo, .int opn, .int ki, .int st, .int sto, .int wo, .int si])), (h1, .inr (9, [.ref h4, .int (nI n)])), (h4, .inl (D.1 13, 1600, .inl f)), (h2, .inl (D.1 14, 179, .inl fw))] H := hP
  have hD : va_D A [(h0, .inr (6, [.int fa, .int pl, .ref h1, .ref h2, .ref h3, .int mo, .int opn, .int ki, .int st, .int sto, .int wo, .int si])), (h1, .inr (9, [.ref h4, .int (nI n)])), (h4, .inl (D.1 13, 1600, .inl f)), (h2, .inl (D.1 14, 179, .inl fw))] := hD
  refine lv_aload_n hx hb dX6_begin_5 rfl (lv_at hl 0 rfl) ?_
  refine lv_iconst (v := 0) hx hb dX6_begin_6 (by decide) ?_
  refine va_put (D := D) (ci := 6) (v := .int 0) (ty := .int) (C := RX6) (T := TX6) (N := 12) hx hb ht inX6 tyX6 tyX6_ok nmX6 hown hK hP hD hS 0 rfl rfl 0 (by decide) (ht (.fieldLink RX6 61 "CloneVolumes$Reader" "fault" "I") fl_X6_61) (fun _ h9 => h9) rfl (by decide +kernel) rfl rfl (Nat.le_of_ble_eq_true rfl) dX6_begin_7 (fun H locs hP hD hS => ?_)
  have hP : va_P D vwCl [(h0, .inr (6, [.int 0, .int pl, .ref h1, .ref h2, .ref h3, .int mo, .int opn, .int ki, .int st, .int sto, .int wo, .int si])), (h1, .inr (9, [.ref h4, .int (nI n)])), (h4, .inl (D.1 13, 1600, .inl f)), (h2, .inl (D.1 14, 179, .inl fw))] H := hP
  have hD : va_D A [(h0, .inr (6, [.int 0, .int pl, .ref h1, .ref h2, .ref h3, .int mo, .int opn, .int ki, .int st, .int sto, .int wo, .int si])), (h1, .inr (9, [.ref h4, .int (nI n)])), (h4, .inl (D.1 13, 1600, .inl f)), (h2, .inl (D.1 14, 179, .inl fw))] := hD
  refine lv_aload_n hx hb dX6_begin_10 rfl (lv_at hl 0 rfl) ?_
  refine lv_iconst (v := (-1)) hx hb dX6_begin_11 (by decide) ?_
  refine va_put (D := D) (ci := 6) (v := .int (-1)) (ty := .int) (C := RX6) (T := TX6) (N := 12) hx hb ht inX6 tyX6 tyX6_ok nmX6 hown hK hP hD hS 0 rfl rfl 1 (by decide) (ht (.fieldLink RX6 9 "CloneVolumes$Reader" "place" "I") fl_X6_9) (fun _ h9 => h9) rfl (by decide +kernel) rfl rfl (Nat.le_of_ble_eq_true rfl) dX6_begin_12 (fun H locs hP hD hS => ?_)
  have hP : va_P D vwCl [(h0, .inr (6, [.int 0, .int (-1), .ref h1, .ref h2, .ref h3, .int mo, .int opn, .int ki, .int st, .int sto, .int wo, .int si])), (h1, .inr (9, [.ref h4, .int (nI n)])), (h4, .inl (D.1 13, 1600, .inl f)), (h2, .inl (D.1 14, 179, .inl fw))] H := hP
  have hD : va_D A [(h0, .inr (6, [.int 0, .int (-1), .ref h1, .ref h2, .ref h3, .int mo, .int opn, .int ki, .int st, .int sto, .int wo, .int si])), (h1, .inr (9, [.ref h4, .int (nI n)])), (h4, .inl (D.1 13, 1600, .inl f)), (h2, .inl (D.1 14, 179, .inl fw))] := hD
  refine lv_aload_n hx hb dX6_begin_15 rfl (lv_at hl 0 rfl) ?_
  refine lv_iconst (v := 0) hx hb dX6_begin_16 (by decide) ?_
  refine va_put (D := D) (ci := 6) (v := .int 0) (ty := .int) (C := RX6) (T := TX6) (N := 12) hx hb ht inX6 tyX6 tyX6_ok nmX6 hown hK hP hD hS 0 rfl rfl 6 (by decide) (ht (.fieldLink RX6 85 "CloneVolumes$Reader" "open" "I") fl_X6_85) (fun _ h9 => h9) rfl (by decide +kernel) rfl rfl (Nat.le_of_ble_eq_true rfl) dX6_begin_17 (fun H locs hP hD hS => ?_)
  have hP : va_P D vwCl [(h0, .inr (6, [.int 0, .int (-1), .ref h1, .ref h2, .ref h3, .int mo, .int 0, .int ki, .int st, .int sto, .int wo, .int si])), (h1, .inr (9, [.ref h4, .int (nI n)])), (h4, .inl (D.1 13, 1600, .inl f)), (h2, .inl (D.1 14, 179, .inl fw))] H := hP
  have hD : va_D A [(h0, .inr (6, [.int 0, .int (-1), .ref h1, .ref h2, .ref h3, .int mo, .int 0, .int ki, .int st, .int sto, .int wo, .int si])), (h1, .inr (9, [.ref h4, .int (nI n)])), (h4, .inl (D.1 13, 1600, .inl f)), (h2, .inl (D.1 14, 179, .inl fw))] := hD
  refine lv_aload_n hx hb dX6_begin_20 rfl (lv_at hl 0 rfl) ?_
  refine lv_iconst (v := 0) hx hb dX6_begin_21 (by decide) ?_
  refine va_put (D := D) (ci := 6) (v := .int 0) (ty := .int) (C := RX6) (T := TX6) (N := 12) hx hb ht inX6 tyX6 tyX6_ok nmX6 hown hK hP hD hS 0 rfl rfl 9 (by decide) (ht (.fieldLink RX6 88 "CloneVolumes$Reader" "stop" "I") fl_X6_88) (fun _ h9 => h9) rfl (by decide +kernel) rfl rfl (Nat.le_of_ble_eq_true rfl) dX6_begin_22 (fun H locs hP hD hS => ?_)
  have hP : va_P D vwCl [(h0, .inr (6, [.int 0, .int (-1), .ref h1, .ref h2, .ref h3, .int mo, .int 0, .int ki, .int st, .int 0, .int wo, .int si])), (h1, .inr (9, [.ref h4, .int (nI n)])), (h4, .inl (D.1 13, 1600, .inl f)), (h2, .inl (D.1 14, 179, .inl fw))] H := hP
  have hD : va_D A [(h0, .inr (6, [.int 0, .int (-1), .ref h1, .ref h2, .ref h3, .int mo, .int 0, .int ki, .int st, .int 0, .int wo, .int si])), (h1, .inr (9, [.ref h4, .int (nI n)])), (h4, .inl (D.1 13, 1600, .inl f)), (h2, .inl (D.1 14, 179, .inl fw))] := hD
  refine lv_aload_n hx hb dX6_begin_25 rfl (lv_at hl 0 rfl) ?_
  refine zwVv (As := []) (rest := []) (C := RX6) (n := 0) (wr := []) ⟨hx, hb, hml, hown, ht⟩ (k_X6_advance0 l D _ h0 h1 h2 h3 h4 (-1) mo ki wo si st 0 0 n f fw (by first | decide | omega) (by first | decide | omega)) (zgV ml_X6_75 im_X6_advance se_X6_advance in_X6 co_X6_advance) rfl rfl (by decide +kernel) ⟨Nat.le_of_ble_eq_true rfl, Nat.le_of_ble_eq_true rfl⟩ hK hP hD hS hA [0, 1, 2, 3] [] rfl rfl rfl rfl (by decide) 0 rfl rfl rfl rfl hl.1 rfl (Nat.le_of_ble_eq_true rfl) dX6_begin_26 ⟨Nat.le_of_ble_eq_true rfl, Nat.le_of_ble_eq_true rfl⟩ (fun u_1 H locs hw hP hD hS => ?_)
  obtain ⟨x_3, n_4, n_5, x_6, x_7⟩ := u_1
  have hP : va_P D vwCl [(h0, .inr (6, [.int 0, .int (-1), .ref h1, .ref h2, .ref h3, .int mo, .int 0, .int x_3, .int (nI (n_4)), .int (nI (n_5)), .int x_6, .int x_7])), (h1, .inr (9, [.ref h4, .int (nI (n))])), (h4, .inl (D.1 13, 1600, .inl f)), (h2, .inl (D.1 14, 179, .inl fw))] H := hP
  have hD : va_D A [(h0, .inr (6, [.int 0, .int (-1), .ref h1, .ref h2, .ref h3, .int mo, .int 0, .int x_3, .int (nI (n_4)), .int (nI (n_5)), .int x_6, .int x_7])), (h1, .inr (9, [.ref h4, .int (nI (n))])), (h4, .inl (D.1 13, 1600, .inl f)), (h2, .inl (D.1 14, 179, .inl fw))] := hD
  have hw_8 : n_4 ≤ n_5 ∧ n_5 ≤ n ∧ 0 ≤ n_5 := hw
  have hP9 := hP.sub (ws' := [(h0, .inr (6, [.int 0, .int (-1), .ref h1, .ref h2, .ref h3, .int mo, .int 0, .int x_3, .int (nI n_4), .int (nI n_5), .int x_6, .int x_7])), (h1, .inr (9, [.ref h4, .int (nI n)])), (h4, .inl (D.1 13, 1600, .inl f)), (h2, .inl (D.1 14, 179, .inl fw))]) [0, 1, 2, 3] rfl
  have hD9 := hD.sub (ws' := [(h0, .inr (6, [.int 0, .int (-1), .ref h1, .ref h2, .ref h3, .int mo, .int 0, .int x_3, .int (nI n_4), .int (nI n_5), .int x_6, .int x_7])), (h1, .inr (9, [.ref h4, .int (nI n)])), (h4, .inl (D.1 13, 1600, .inl f)), (h2, .inl (D.1 14, 179, .inl fw))]) [0, 1, 2, 3] (by decide) rfl
  refine W.widen (k := 0) (n := 0) (Nat.le_of_ble_eq_true rfl) (Nat.le_of_ble_eq_true rfl) ?_
  exact W.vret hx hb hr (fun t ht hW => ⟨⟨(x_3, n_4, n_5, x_6, x_7), rfl, (by first | omega | (dsimp only; omega)), by rw [ht]; exact hP9, va_K.moved hW.alike hK, hD9⟩, hS.F ht⟩) hS.2.2 dX6_begin_29
