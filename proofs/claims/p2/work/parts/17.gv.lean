theorem ml_X6_203 : Cond.methodLink RX6 203 yX6_readProduct ∈ lw_gd := zm (List.mem_of_getElem? (i := 858) (by decide +kernel)) rfl
theorem im_X6_readProduct : Cond.instanceMethod yX6_readProduct ∈ lw_gd := zm (List.mem_of_getElem? (i := 860) (by decide +kernel)) rfl
theorem se_X6_readProduct : Cond.selects RX6 yX6_readProduct yX6_readProduct ∈ lw_gd := zm (List.mem_of_getElem? (i := 16) (by decide +kernel)) rfl
theorem co_X6_readProduct : Cond.code yX6_readProduct cX6_readProduct 3 none ∈ lw_gd := zm (List.mem_of_getElem? (i := 861) (by decide +kernel)) rfl
theorem dX6_readProduct_0 : decode cX6_readProduct 0 = .ok (.aload_n 0, 1) := by decide +kernel
theorem dX6_readProduct_1 : decode cX6_readProduct 1 = .ok (.invokevirtual 206, 3) := by decide +kernel
theorem dX6_readProduct_4 : decode cX6_readProduct 4 = .ok (.iconst 0, 1) := by decide +kernel
theorem dX6_readProduct_5 : decode cX6_readProduct 5 = .ok (.istore_n 1, 1) := by decide +kernel
theorem dX6_readProduct_6 : decode cX6_readProduct 6 = .ok (.iload_n 1, 1) := by decide +kernel
theorem dX6_readProduct_7 : decode cX6_readProduct 7 = .ok (.sipush 1600, 3) := by decide +kernel
theorem dX6_readProduct_10 : decode cX6_readProduct 10 = .ok (.if_icmp .ge 60, 3) := by decide +kernel
theorem dX6_readProduct_13 : decode cX6_readProduct 13 = .ok (.aload_n 0, 1) := by decide +kernel
theorem dX6_readProduct_14 : decode cX6_readProduct 14 = .ok (.bipush 42, 2) := by decide +kernel
theorem dX6_readProduct_16 : decode cX6_readProduct 16 = .ok (.invokevirtual 124, 3) := by decide +kernel
theorem dX6_readProduct_19 : decode cX6_readProduct 19 = .ok (.ifCond .ne 12, 3) := by decide +kernel
theorem dX6_readProduct_22 : decode cX6_readProduct 22 = .ok (.aload_n 0, 1) := by decide +kernel
theorem dX6_readProduct_23 : decode cX6_readProduct 23 = .ok (.bipush 47, 2) := by decide +kernel
theorem dX6_readProduct_25 : decode cX6_readProduct 25 = .ok (.invokevirtual 124, 3) := by decide +kernel
theorem dX6_readProduct_28 : decode cX6_readProduct 28 = .ok (.ifCond .eq 42, 3) := by decide +kernel
theorem dX6_readProduct_31 : decode cX6_readProduct 31 = .ok (.aload_n 0, 1) := by decide +kernel
theorem dX6_readProduct_32 : decode cX6_readProduct 32 = .ok (.bipush 42, 2) := by decide +kernel
theorem dX6_readProduct_34 : decode cX6_readProduct 34 = .ok (.invokevirtual 124, 3) := by decide +kernel
theorem dX6_readProduct_37 : decode cX6_readProduct 37 = .ok (.ifCond .eq 8, 3) := by decide +kernel
theorem dX6_readProduct_40 : decode cX6_readProduct 40 = .ok (.bipush (-3), 2) := by decide +kernel
theorem dX6_readProduct_42 : decode cX6_readProduct 42 = .ok (.goto 5, 3) := by decide +kernel
theorem dX6_readProduct_45 : decode cX6_readProduct 45 = .ok (.bipush (-4), 2) := by decide +kernel
theorem dX6_readProduct_47 : decode cX6_readProduct 47 = .ok (.istore_n 2, 1) := by decide +kernel
theorem dX6_readProduct_48 : decode cX6_readProduct 48 = .ok (.aload_n 0, 1) := by decide +kernel
theorem dX6_readProduct_49 : decode cX6_readProduct 49 = .ok (.invokevirtual 75, 3) := by decide +kernel
theorem dX6_readProduct_52 : decode cX6_readProduct 52 = .ok (.aload_n 0, 1) := by decide +kernel
theorem dX6_readProduct_53 : decode cX6_readProduct 53 = .ok (.invokevirtual 206, 3) := by decide +kernel
theorem dX6_readProduct_56 : decode cX6_readProduct 56 = .ok (.aload_n 0, 1) := by decide +kernel
theorem dX6_readProduct_57 : decode cX6_readProduct 57 = .ok (.getfield 84, 3) := by decide +kernel
theorem dX6_readProduct_60 : decode cX6_readProduct 60 = .ok (.iload_n 2, 1) := by decide +kernel
theorem dX6_readProduct_61 : decode cX6_readProduct 61 = .ok (.invokevirtual 191, 3) := by decide +kernel
theorem dX6_readProduct_64 : decode cX6_readProduct 64 = .ok (.iinc 1 1, 3) := by decide +kernel
theorem dX6_readProduct_67 : decode cX6_readProduct 67 = .ok (.goto (-61), 3) := by decide +kernel
theorem dX6_readProduct_70 : decode cX6_readProduct 70 = .ok (.return_, 1) := by decide +kernel
theorem dX6_readSum_0 : decode cX6_readSum 0 = .ok (.aload_n 0, 1) := by decide +kernel
theorem dX6_readSum_1 : decode cX6_readSum 1 = .ok (.invokevirtual 203, 3) := by decide +kernel
theorem dX6_readSum_4 : decode cX6_readSum 4 = .ok (.iconst 0, 1) := by decide +kernel
theorem dX6_readSum_5 : decode cX6_readSum 5 = .ok (.istore_n 1, 1) := by decide +kernel
theorem dX6_readSum_6 : decode cX6_readSum 6 = .ok (.iload_n 1, 1) := by decide +kernel
theorem dX6_readSum_7 : decode cX6_readSum 7 = .ok (.sipush 1600, 3) := by decide +kernel
theorem dX6_readSum_10 : decode cX6_readSum 10 = .ok (.if_icmp .ge 59, 3) := by decide +kernel
theorem dX6_readSum_13 : decode cX6_readSum 13 = .ok (.aload_n 0, 1) := by decide +kernel
theorem dX6_readSum_14 : decode cX6_readSum 14 = .ok (.bipush 43, 2) := by decide +kernel
theorem dX6_readSum_16 : decode cX6_readSum 16 = .ok (.invokevirtual 124, 3) := by decide +kernel
theorem dX6_readSum_19 : decode cX6_readSum 19 = .ok (.ifCond .ne 12, 3) := by decide +kernel
theorem dX6_readSum_22 : decode cX6_readSum 22 = .ok (.aload_n 0, 1) := by decide +kernel
theorem dX6_readSum_23 : decode cX6_readSum 23 = .ok (.bipush 45, 2) := by decide +kernel
theorem dX6_readSum_25 : decode cX6_readSum 25 = .ok (.invokevirtual 124, 3) := by decide +kernel
theorem dX6_readSum_28 : decode cX6_readSum 28 = .ok (.ifCond .eq 41, 3) := by decide +kernel
theorem dX6_readSum_31 : decode cX6_readSum 31 = .ok (.aload_n 0, 1) := by decide +kernel
theorem dX6_readSum_32 : decode cX6_readSum 32 = .ok (.bipush 43, 2) := by decide +kernel
theorem dX6_readSum_34 : decode cX6_readSum 34 = .ok (.invokevirtual 124, 3) := by decide +kernel
theorem dX6_readSum_37 : decode cX6_readSum 37 = .ok (.ifCond .eq 7, 3) := by decide +kernel
theorem dX6_readSum_40 : decode cX6_readSum 40 = .ok (.iconst (-1), 1) := by decide +kernel
theorem dX6_readSum_41 : decode cX6_readSum 41 = .ok (.goto 5, 3) := by decide +kernel
theorem dX6_readSum_44 : decode cX6_readSum 44 = .ok (.bipush (-2), 2) := by decide +kernel
theorem dX6_readSum_46 : decode cX6_readSum 46 = .ok (.istore_n 2, 1) := by decide +kernel
theorem dX6_readSum_47 : decode cX6_readSum 47 = .ok (.aload_n 0, 1) := by decide +kernel
theorem dX6_readSum_48 : decode cX6_readSum 48 = .ok (.invokevirtual 75, 3) := by decide +kernel
theorem dX6_readSum_51 : decode cX6_readSum 51 = .ok (.aload_n 0, 1) := by decide +kernel
theorem dX6_readSum_52 : decode cX6_readSum 52 = .ok (.invokevirtual 203, 3) := by decide +kernel
theorem dX6_readSum_55 : decode cX6_readSum 55 = .ok (.aload_n 0, 1) := by decide +kernel
theorem dX6_readSum_56 : decode cX6_readSum 56 = .ok (.getfield 84, 3) := by decide +kernel
theorem dX6_readSum_59 : decode cX6_readSum 59 = .ok (.iload_n 2, 1) := by decide +kernel
theorem dX6_readSum_60 : decode cX6_readSum 60 = .ok (.invokevirtual 191, 3) := by decide +kernel
theorem dX6_readSum_63 : decode cX6_readSum 63 = .ok (.iinc 1 1, 3) := by decide +kernel
theorem dX6_readSum_66 : decode cX6_readSum 66 = .ok (.goto (-60), 3) := by decide +kernel
theorem dX6_readSum_69 : decode cX6_readSum 69 = .ok (.return_, 1) := by decide +kernel
set_option maxHeartbeats 4000000 in
set_option maxRecDepth 100000 in
theorem k_X6_readProduct (l : Launch) (D : va_G) (sz : Nat) (h0 h1 h2 h3 h4 h5 : Nat) (fa pl mo ki wo si : Int32) (op s0 sp n cn : Nat) (f fw fc : Nat → Int32) (d : Nat) (ih : ∀ e, e + 1 = d → C_readSum l D e ∧ C_readPart l D e) (h_1 : s0 ≤ sp) (h_2 : sp ≤ n) (h_3 : n ≤ 1600) (h_4 : ¬ fa.toInt = 0 → ki.toInt = 0) (h_5 : op ≤ 6) (h_6 : cn ≤ 1600) (h_7 : 6 ≤ op + d) : Met l yX6_readProduct (wz yX6_readProduct cX6_readProduct 3 none) { frames := 40 * d + 24, cells := 0, slots := 0, locals := 2400 * d + 1440 } (va_Pc [.ref h0] (zW D sz [(h0, .inr (6, [.int fa, .int pl, .ref h1, .ref h2, .ref h3, .int mo, .int (nI op), .int ki, .int (nI s0), .int (nI sp), .int wo, .int si])), (h1, .inr (9, [.ref h4, .int (nI n)])), (h4, .inl (D.1 13, 1600, .inl f)), (h2, .inl (D.1 14, 179, .inl fw)), (h3, .inr (0, [.ref h5, .int (nI cn)])), (h5, .inl (D.1 13, 1600, .inl fc))])) (va_Qv (fun (u : ((Int32) × (Int32) × (Int32) × (Nat) × (Nat) × (Int32) × (Int32) × (Nat) × (Nat → Int32))) => u.2.2.2.1 ≤ u.2.2.2.2.1 ∧ u.2.2.2.2.1 ≤ n ∧ sp ≤ u.2.2.2.2.1 ∧ (¬ u.1.toInt = 0 → u.2.2.1.toInt = 0) ∧ u.2.2.2.2.2.2.2.1 ≤ 1600) (fun u t => zB D (va_A [(h0, .inr (6, [.int fa, .int pl, .ref h1, .ref h2, .ref h3, .int mo, .int (nI op), .int ki, .int (nI s0), .int (nI sp), .int wo, .int si])), (h1, .inr (9, [.ref h4, .int (nI n)])), (h4, .inl (D.1 13, 1600, .inl f)), (h2, .inl (D.1 14, 179, .inl fw)), (h3, .inr (0, [.ref h5, .int (nI cn)])), (h5, .inl (D.1 13, 1600, .inl fc))] sz) ((fun (u : ((Int32) × (Int32) × (Int32) × (Nat) × (Nat) × (Int32) × (Int32) × (Nat) × (Nat → Int32))) => [(h0, .inr (6, [.int u.1, .int u.2.1, .ref h1, .ref h2, .ref h3, .int mo, .int (nI op), .int u.2.2.1, .int (nI u.2.2.2.1), .int (nI u.2.2.2.2.1), .int u.2.2.2.2.2.1, .int u.2.2.2.2.2.2.1])), (h1, .inr (9, [.ref h4, .int (nI n)])), (h4, .inl (D.1 13, 1600, .inl f)), (h2, .inl (D.1 14, 179, .inl fw)), (h3, .inr (0, [.ref h5, .int (nI u.2.2.2.2.2.2.2.1)])), (h5, .inl (D.1 13, 1600, .inl u.2.2.2.2.2.2.2.2))]) u) t) (va_A [(h0, .inr (6, [.int fa, .int pl, .ref h1, .ref h2, .ref h3, .int mo, .int (nI op), .int ki, .int (nI s0), .int (nI sp), .int wo, .int si])), (h1, .inr (9, [.ref h4, .int (nI n)])), (h4, .inl (D.1 13, 1600, .inl f)), (h2, .inl (D.1 14, 179, .inl fw)), (h3, .inr (0, [.ref h5, .int (nI cn)])), (h5, .inl (D.1 13, 1600, .inl fc))] sz)) 0 0 (va_A [(h0, .inr (6, [.int fa, .int pl, .ref h1, .ref h2, .ref h3, .int mo, .int (nI op), .int ki, .int (nI s0), .int (nI sp), .int wo, .int si])), (h1, .inr (9, [.ref h4, .int (nI n)])), (h4, .inl (D.1 13, 1600, .inl f)), (h2, .inl (D.1 14, 179, .inl fw)), (h3, .inr (0, [.ref h5, .int (nI cn)])), (h5, .inl (D.1 13, 1600, .inl fc))] sz) := by
  refine Met.ofW (cc := cX6_readProduct) (maxL := 3) (ret := none) (by decide) rfl ?_
  intro p e s m args below meth c s₁ B hml hv
  obtain ⟨rfl, hsz, hP, hK, hD0⟩ := hv
  have hx := B.exec
  have hb := B.bytes
  have hr := B.returns
  have hts := atoms_spec (ws := wz yX6_readProduct cX6_readProduct 3 none) B.pre
  have ht : ∀ w ∈ lw_gd, w.before _ s = true := fun w h => hts w (List.mem_cons_of_mem _ h)
  have hown : s.vm.findClass RX6 = some m.cls := findClass_of_methodNamed B.named
  have hlocks := B.notSynchronized
  subst hsz
  have hD := hD0.self (sz := s.heap.size)
  generalize hAe : va_A [(h0, .inr (6, [.int fa, .int pl, .ref h1, .ref h2, .ref h3, .int mo, .int (nI op), .int ki, .int (nI s0), .int (nI sp), .int wo, .int si])), (h1, .inr (9, [.ref h4, .int (nI n)])), (h4, .inl (D.1 13, 1600, .inl f)), (h2, .inl (D.1 14, 179, .inl fw)), (h3, .inr (0, [.ref h5, .int (nI cn)])), (h5, .inl (D.1 13, 1600, .inl fc))] s.heap.size = A at hD ⊢
  have hA : ∀ q : Nat, s.heap.size ≤ q → A q := fun q h => by rw [← hAe]; exact Or.inr h
  have hS : va_S A s.heap s.heap [] := va_S.rf
  have zi0 : (0 : Int32).toInt = 0 := rfl
  have zi1 : (1 : Int32).toInt = 1 := rfl
  have zi2 : (2 : Int32).toInt = 2 := rfl
  have zi3 : (3 : Int32).toInt = 3 := rfl
  have zi4 : (4 : Int32).toInt = 4 := rfl
  have hl := lv_entry ([.ref h0]) (n := 3) (Nat.le_of_ble_eq_true rfl)
  rw [lg_entry_eq]
  generalize (lg_sl ([.ref h0]) ++ List.replicate (3 - (lg_sl ([.ref h0])).length) Slot.unset).toArray = ls at hl ⊢
  have hl : lv_has ls 3 [(0, .ref h0)] := hl
  refine lv_aload_n hx hb dX6_readProduct_0 rfl (lv_at hl 0 rfl) ?_
  refine zwVv (As := []) (rest := []) (C := RX6) (n := 0) (wr := []) ⟨hx, hb, hml, hown, ht⟩ (k_X6_readPart l D _ h0 h1 h2 h3 h4 h5 fa pl mo ki wo si op s0 sp n cn f fw fc d ih (by first | decide | omega) (by first | decide | omega) (by first | decide | omega) (by first | decide | omega) (by first | decide | omega) (by first | decide | omega) (by first | decide | omega)) (zgV ml_X6_206 im_X6_readPart se_X6_readPart in_X6 co_X6_readPart) rfl rfl (by decide +kernel) ⟨by show 40 * d + 20 + 1 ≤ 40 * d + 24; omega, by show 8 + (1 + 11) + (2400 * d + 1200) ≤ 2400 * d + 1440; omega⟩ hK hP hD hS hA [0, 1, 2, 3, 4, 5] [] rfl rfl rfl rfl (by decide) 0 rfl rfl rfl rfl hl.1 rfl (Nat.le_of_ble_eq_true rfl) dX6_readProduct_1 ⟨Nat.le_of_ble_eq_true rfl, Nat.le_of_ble_eq_true rfl⟩ (fun u_1 H locs hw hP hD hS => ?_)
  obtain ⟨x_3, x_4, x_5, n_6, n_7, x_8, x_9, n_10, f_11⟩ := u_1
  have hP : va_P D vwCl [(h0, .inr (6, [.int x_3, .int x_4, .ref h1, .ref h2, .ref h3, .int mo, .int (nI (op)), .int x_5, .int (nI (n_6)), .int (nI (n_7)), .int x_8, .int x_9])), (h1, .inr (9, [.ref h4, .int (nI (n))])), (h4, .inl (D.1 13, 1600, .inl f)), (h2, .inl (D.1 14, 179, .inl fw)), (h3, .inr (0, [.ref h5, .int (nI (n_10))])), (h5, .inl (D.1 13, 1600, .inl f_11))] H := hP
  have hD : va_D A [(h0, .inr (6, [.int x_3, .int x_4, .ref h1, .ref h2, .ref h3, .int mo, .int (nI (op)), .int x_5, .int (nI (n_6)), .int (nI (n_7)), .int x_8, .int x_9])), (h1, .inr (9, [.ref h4, .int (nI (n))])), (h4, .inl (D.1 13, 1600, .inl f)), (h2, .inl (D.1 14, 179, .inl fw)), (h3, .inr (0, [.ref h5, .int (nI (n_10))])), (h5, .inl (D.1 13, 1600, .inl f_11))] := hD
  have hw_12 : n_6 ≤ n_7 ∧ n_7 ≤ n ∧ sp ≤ n_7 ∧ (¬ x_3.toInt = 0 → x_5.toInt = 0) ∧ n_10 ≤ 1600 := hw
  refine lv_iconst (v := 0) hx hb dX6_readProduct_4 (by decide) ?_
  refine lv_istore_n (lv' := [(1, .int 0), (0, .ref h0)]) hx hb dX6_readProduct_5 rfl hl (by decide) rfl (fun ls hl => ?_)
  refine z_loop (σ := ((Nat → Int32) × (Int32) × (Int32) × (Int32) × (Nat) × (Nat) × (Int32) × (Int32) × (Nat))) (N := 1600) (fun i u H locs ls => (u.2.2.2.2.1 ≤ u.2.2.2.2.2.1 ∧ u.2.2.2.2.2.1 ≤ n ∧ sp ≤ u.2.2.2.2.2.1 ∧ (¬ u.2.1.toInt = 0 → u.2.2.2.1.toInt = 0) ∧ u.2.2.2.2.2.2.2.2 ≤ 1600) ∧ va_P D vwCl [(h0, .inr (6, [.int u.2.1, .int u.2.2.1, .ref h1, .ref h2, .ref h3, .int mo, .int (nI (op)), .int u.2.2.2.1, .int (nI u.2.2.2.2.1), .int (nI u.2.2.2.2.2.1), .int u.2.2.2.2.2.2.1, .int u.2.2.2.2.2.2.2.1])), (h1, .inr (9, [.ref h4, .int (nI (n))])), (h4, .inl (D.1 13, 1600, .inl f)), (h2, .inl (D.1 14, 179, .inl fw)), (h3, .inr (0, [.ref h5, .int (nI u.2.2.2.2.2.2.2.2)])), (h5, .inl (D.1 13, 1600, .inl u.1))] H ∧ va_D A [(h0, .inr (6, [.int u.2.1, .int u.2.2.1, .ref h1, .ref h2, .ref h3, .int mo, .int (nI (op)), .int u.2.2.2.1, .int (nI u.2.2.2.2.1), .int (nI u.2.2.2.2.2.1), .int u.2.2.2.2.2.2.1, .int u.2.2.2.2.2.2.2.1])), (h1, .inr (9, [.ref h4, .int (nI (n))])), (h4, .inl (D.1 13, 1600, .inl f)), (h2, .inl (D.1 14, 179, .inl fw)), (h3, .inr (0, [.ref h5, .int (nI u.2.2.2.2.2.2.2.2)])), (h5, .inl (D.1 13, 1600, .inl u.1))] ∧ va_S A s.heap H locs ∧ lv_has ls 3 [(1, .int (nI i)), (0, .ref h0)]) (fun i_13 u_23 H locs ls hi_i_13 hI ih_6 => ?_) 0 (f_11, x_3, x_4, x_5, n_6, n_7, x_8, x_9, n_10) (by decide) ⟨(by first | omega | (dsimp only; omega)), hP, hD, hS, lv_sub hl [0, 1] rfl⟩
  obtain ⟨hv_i_13, hP, hD, hS, hl⟩ := hI
  obtain ⟨f_14, x_15, x_16, x_17, n_18, n_19, x_20, x_21, n_22⟩ := u_23
  have hv_i_13 : n_18 ≤ n_19 ∧ n_19 ≤ n ∧ sp ≤ n_19 ∧ (¬ x_15.toInt = 0 → x_17.toInt = 0) ∧ n_22 ≤ 1600 := hv_i_13
  have hP : va_P D vwCl [(h0, .inr (6, [.int x_15, .int x_16, .ref h1, .ref h2, .ref h3, .int mo, .int (nI (op)), .int x_17, .int (nI n_18), .int (nI n_19), .int x_20, .int x_21])), (h1, .inr (9, [.ref h4, .int (nI (n))])), (h4, .inl (D.1 13, 1600, .inl f)), (h2, .inl (D.1 14, 179, .inl fw)), (h3, .inr (0, [.ref h5, .int (nI n_22)])), (h5, .inl (D.1 13, 1600, .inl f_14))] H := hP
  have hD : va_D A [(h0, .inr (6, [.int x_15, .int x_16, .ref h1, .ref h2, .ref h3, .int mo, .int (nI (op)), .int x_17, .int (nI n_18), .int (nI n_19), .int x_20, .int x_21])), (h1, .inr (9, [.ref h4, .int (nI (n))])), (h4, .inl (D.1 13, 1600, .inl f)), (h2, .inl (D.1 14, 179, .inl fw)), (h3, .inr (0, [.ref h5, .int (nI n_22)])), (h5, .inl (D.1 13, 1600, .inl f_14))] := hD
  have hl : lv_has ls 3 [(1, .int (nI i_13)), (0, .ref h0)] := hl
  refine lv_iload_n hx hb dX6_readProduct_6 rfl (lv_at hl 0 rfl) ?_
  refine lv_sipush (v := 1600) hx hb dX6_readProduct_7 (by decide) ?_
  refine lv_icmp_ge (tgt := 70) hx hb dX6_readProduct_10 (by decide) (fun c_24 => ?_) (fun c_24 => ?_)
  · have g_25 : 1600 ≤ ((i_13 : Nat) : Int) := z_le (by decide) (nI_toInt (by omega)) c_24
    obtain rfl : i_13 = 1600 := by omega
    have hP : va_P D vwCl [(h0, .inr (6, [.int x_15, .int x_16, .ref h1, .ref h2, .ref h3, .int mo, .int (nI (op)), .int x_17, .int (nI n_18), .int (nI n_19), .int x_20, .int x_21])), (h1, .inr (9, [.ref h4, .int (nI (n))])), (h4, .inl (D.1 13, 1600, .inl f)), (h2, .inl (D.1 14, 179, .inl fw)), (h3, .inr (0, [.ref h5, .int (nI n_22)])), (h5, .inl (D.1 13, 1600, .inl f_14))] H := hP
    have hD : va_D A [(h0, .inr (6, [.int x_15, .int x_16, .ref h1, .ref h2, .ref h3, .int mo, .int (nI (op)), .int x_17, .int (nI n_18), .int (nI n_19), .int x_20, .int x_21])), (h1, .inr (9, [.ref h4, .int (nI (n))])), (h4, .inl (D.1 13, 1600, .inl f)), (h2, .inl (D.1 14, 179, .inl fw)), (h3, .inr (0, [.ref h5, .int (nI n_22)])), (h5, .inl (D.1 13, 1600, .inl f_14))] := hD
    have hl : lv_has ls 3 [(1, .int 1600), (0, .ref h0)] := hl
    have hP9 := hP.sub (ws' := [(h0, .inr (6, [.int x_15, .int x_16, .ref h1, .ref h2, .ref h3, .int mo, .int (nI op), .int x_17, .int (nI n_18), .int (nI n_19), .int x_20, .int x_21])), (h1, .inr (9, [.ref h4, .int (nI n)])), (h4, .inl (D.1 13, 1600, .inl f)), (h2, .inl (D.1 14, 179, .inl fw)), (h3, .inr (0, [.ref h5, .int (nI n_22)])), (h5, .inl (D.1 13, 1600, .inl f_14))]) [0, 1, 2, 3, 4, 5] rfl
    have hD9 := hD.sub (ws' := [(h0, .inr (6, [.int x_15, .int x_16, .ref h1, .ref h2, .ref h3, .int mo, .int (nI op), .int x_17, .int (nI n_18), .int (nI n_19), .int x_20, .int x_21])), (h1, .inr (9, [.ref h4, .int (nI n)])), (h4, .inl (D.1 13, 1600, .inl f)), (h2, .inl (D.1 14, 179, .inl fw)), (h3, .inr (0, [.ref h5, .int (nI n_22)])), (h5, .inl (D.1 13, 1600, .inl f_14))]) [0, 1, 2, 3, 4, 5] (by decide) rfl
    refine W.widen (k := 0) (n := 0) (Nat.le_of_ble_eq_true rfl) (Nat.le_of_ble_eq_true rfl) ?_
    exact W.vret hx hb hr (fun t ht hW => ⟨⟨(x_15, x_16, x_17, n_18, n_19, x_20, x_21, n_22, f_14), rfl, (by first | omega | (dsimp only; omega)), by rw [ht]; exact hP9, va_K.moved hW.alike hK, hD9⟩, hS.F ht⟩) hS.2.2 dX6_readProduct_70
  · have g_25 : ((i_13 : Nat) : Int) < 1600 := z_nle (by decide) (nI_toInt (by omega)) c_24
    refine lv_aload_n hx hb dX6_readProduct_13 rfl (lv_at hl 1 rfl) ?_
    refine lv_bipush (v := 42) hx hb dX6_readProduct_14 (by decide) ?_
    have en_26 : (42 : Int32).toInt = 42 := by decide
    refine zcV (As := [.int 42]) (rest := []) (C := RX6) (n := 1) ⟨hx, hb, hml, hown, ht⟩ (k_X6_isSign l D h0 h1 h2 h3 x_15 x_16 mo x_17 x_20 x_21 op n_18 n_19 42) (zgV ml_X6_124 im_X6_isSign se_X6_isSign in_X6 co_X6_isSign) rfl rfl (by decide +kernel) ⟨by show 0 + 1 ≤ 40 * d + 24; omega, by show 8 + (2 + 11) + 0 ≤ 2400 * d + 1440; omega⟩ hK hP hS [0] rfl 0 rfl rfl rfl rfl hl.1 rfl (Nat.le_of_ble_eq_true rfl) dX6_readProduct_16 ⟨Nat.le_of_ble_eq_true rfl, Nat.le_of_ble_eq_true rfl⟩ (fun r_27 H locs hw hP hS => ?_)
    rcases hw with ⟨rfl, g_28⟩ | ⟨rfl, g_29⟩
    · skip
      refine lv_if_ne (tgt := 31) hx hb dX6_readProduct_19 (by decide) (fun _ => ?_) (fun c_30 => (z_abs c_30 (by decide)).elim)
      refine lv_aload_n hx hb dX6_readProduct_31 rfl (lv_at hl 1 rfl) ?_
      refine lv_bipush (v := 42) hx hb dX6_readProduct_32 (by decide) ?_
      have en_32 : (42 : Int32).toInt = 42 := by decide
      refine zcV (As := [.int 42]) (rest := []) (C := RX6) (n := 1) ⟨hx, hb, hml, hown, ht⟩ (k_X6_isSign l D h0 h1 h2 h3 x_15 x_16 mo x_17 x_20 x_21 op n_18 n_19 42) (zgV ml_X6_124 im_X6_isSign se_X6_isSign in_X6 co_X6_isSign) rfl rfl (by decide +kernel) ⟨by show 0 + 1 ≤ 40 * d + 24; omega, by show 8 + (2 + 11) + 0 ≤ 2400 * d + 1440; omega⟩ hK hP hS [0] rfl 0 rfl rfl rfl rfl hl.1 rfl (Nat.le_of_ble_eq_true rfl) dX6_readProduct_34 ⟨Nat.le_of_ble_eq_true rfl, Nat.le_of_ble_eq_true rfl⟩ (fun r_33 H locs hw hP hS => ?_)
      rcases hw with ⟨rfl, g_34⟩ | ⟨rfl, g_35⟩
      · skip
        refine lv_if_eq (tgt := 45) hx hb dX6_readProduct_37 (by decide) (fun c_36 => (z_abs c_36 (by decide)).elim) (fun _ => ?_)
        refine lv_bipush (v := (-3)) hx hb dX6_readProduct_40 (by decide) ?_
        refine lv_goto (tgt := 47) hx hb dX6_readProduct_42 (by decide) ?_
        refine lv_istore_n (lv' := [(2, .int (-3)), (1, .int (nI i_13)), (0, .ref h0)]) hx hb dX6_readProduct_47 rfl hl (by decide) rfl (fun ls hl => ?_)
        refine lv_aload_n hx hb dX6_readProduct_48 rfl (lv_at hl 2 rfl) ?_
        refine zwVv (As := []) (rest := []) (C := RX6) (n := 0) (wr := [(h3, .inr (0, [.ref h5, .int (nI n_22)])), (h5, .inl (D.1 13, 1600, .inl f_14))]) ⟨hx, hb, hml, hown, ht⟩ (k_X6_advance l D _ h0 h1 h2 h3 h4 x_15 x_16 mo x_17 x_20 x_21 op n_18 n_19 n f fw (by first | decide | omega) (by first | decide | omega) (by first | decide | omega) (by first | decide | omega)) (zgV ml_X6_75 im_X6_advance se_X6_advance in_X6 co_X6_advance) rfl rfl (by decide +kernel) ⟨by show 1 + 1 ≤ 40 * d + 24; omega, by show 8 + (2 + 11) + 60 ≤ 2400 * d + 1440; omega⟩ hK hP hD hS hA [0, 1, 2, 3] [4, 5] rfl rfl rfl rfl (by decide) 0 rfl rfl rfl rfl hl.1 rfl (Nat.le_of_ble_eq_true rfl) dX6_readProduct_49 ⟨Nat.le_of_ble_eq_true rfl, Nat.le_of_ble_eq_true rfl⟩ (fun u_38 H locs hw hP hD hS => ?_)
        obtain ⟨x_40, n_41, n_42, x_43, x_44⟩ := u_38
        have hP : va_P D vwCl [(h3, .inr (0, [.ref h5, .int (nI n_22)])), (h5, .inl (D.1 13, 1600, .inl f_14)), (h0, .inr (6, [.int x_15, .int x_16, .ref h1, .ref h2, .ref h3, .int mo, .int (nI (op)), .int x_40, .int (nI (n_41)), .int (nI (n_42)), .int x_43, .int x_44])), (h1, .inr (9, [.ref h4, .int (nI (n))])), (h4, .inl (D.1 13, 1600, .inl f)), (h2, .inl (D.1 14, 179, .inl fw))] H := hP
        have hD : va_D A [(h3, .inr (0, [.ref h5, .int (nI n_22)])), (h5, .inl (D.1 13, 1600, .inl f_14)), (h0, .inr (6, [.int x_15, .int x_16, .ref h1, .ref h2, .ref h3, .int mo, .int (nI (op)), .int x_40, .int (nI (n_41)), .int (nI (n_42)), .int x_43, .int x_44])), (h1, .inr (9, [.ref h4, .int (nI (n))])), (h4, .inl (D.1 13, 1600, .inl f)), (h2, .inl (D.1 14, 179, .inl fw))] := hD
        have hw_45 : n_41 ≤ n_42 ∧ n_42 ≤ n ∧ n_19 ≤ n_42 ∧ (x_40.toInt = 0 ∨ (n_19 < n_42 ∧ n_41 < n_42)) ∧ (¬ x_15.toInt = 0 → x_40.toInt = 0) := hw
        refine lv_aload_n hx hb dX6_readProduct_52 rfl (lv_at hl 2 rfl) ?_
        refine zwVv (As := []) (rest := []) (C := RX6) (n := 0) (wr := []) ⟨hx, hb, hml, hown, ht⟩ (k_X6_readPart l D _ h0 h1 h2 h3 h4 h5 x_15 x_16 mo x_40 x_43 x_44 op n_41 n_42 n n_22 f fw f_14 d ih (by first | decide | omega) (by first | decide | omega) (by first | decide | omega) (by first | decide | omega) (by first | decide | omega) (by first | decide | omega) (by first | decide | omega)) (zgV ml_X6_206 im_X6_readPart se_X6_readPart in_X6 co_X6_readPart) rfl rfl (by decide +kernel) ⟨by show 40 * d + 20 + 1 ≤ 40 * d + 24; omega, by show 8 + (1 + 11) + (2400 * d + 1200) ≤ 2400 * d + 1440; omega⟩ hK hP hD hS hA [2, 3, 4, 5, 0, 1] [] rfl rfl rfl rfl (by decide) 0 rfl rfl rfl rfl hl.1 rfl (Nat.le_of_ble_eq_true rfl) dX6_readProduct_53 ⟨Nat.le_of_ble_eq_true rfl, Nat.le_of_ble_eq_true rfl⟩ (fun u_46 H locs hw hP hD hS => ?_)
        obtain ⟨x_48, x_49, x_50, n_51, n_52, x_53, x_54, n_55, f_56⟩ := u_46
        have hP : va_P D vwCl [(h0, .inr (6, [.int x_48, .int x_49, .ref h1, .ref h2, .ref h3, .int mo, .int (nI (op)), .int x_50, .int (nI (n_51)), .int (nI (n_52)), .int x_53, .int x_54])), (h1, .inr (9, [.ref h4, .int (nI (n))])), (h4, .inl (D.1 13, 1600, .inl f)), (h2, .inl (D.1 14, 179, .inl fw)), (h3, .inr (0, [.ref h5, .int (nI (n_55))])), (h5, .inl (D.1 13, 1600, .inl f_56))] H := hP
        have hD : va_D A [(h0, .inr (6, [.int x_48, .int x_49, .ref h1, .ref h2, .ref h3, .int mo, .int (nI (op)), .int x_50, .int (nI (n_51)), .int (nI (n_52)), .int x_53, .int x_54])), (h1, .inr (9, [.ref h4, .int (nI (n))])), (h4, .inl (D.1 13, 1600, .inl f)), (h2, .inl (D.1 14, 179, .inl fw)), (h3, .inr (0, [.ref h5, .int (nI (n_55))])), (h5, .inl (D.1 13, 1600, .inl f_56))] := hD
        have hw_57 : n_51 ≤ n_52 ∧ n_52 ≤ n ∧ n_42 ≤ n_52 ∧ (¬ x_48.toInt = 0 → x_50.toInt = 0) ∧ n_55 ≤ 1600 := hw
        refine lv_aload_n hx hb dX6_readProduct_56 rfl (lv_at hl 2 rfl) ?_
        refine va_get (D := D) (ci := 6) (v := .ref h3) (C := RX6) (T := TX6) (N := 12) hx hb ht inX6 hown hK hP 0 rfl rfl 4 (by decide) (ht (.fieldLink RX6 84 "CloneVolumes$Reader" "code" "LCloneVolumes$Code;") fl_X6_84) (fun _ h9 => h9) rfl dX6_readProduct_57 ?_
        refine lv_iload_n hx hb dX6_readProduct_60 rfl (lv_at hl 0 rfl) ?_
        have en_58 : ((-3) : Int32).toInt = (-3) := by decide
        refine zwVv (As := [.int (-3)]) (rest := []) (C := RX0) (n := 1) (wr := [(h0, .inr (6, [.int x_48, .int x_49, .ref h1, .ref h2, .ref h3, .int mo, .int (nI (op)), .int x_50, .int (nI (n_51)), .int (nI (n_52)), .int x_53, .int x_54])), (h1, .inr (9, [.ref h4, .int (nI (n))])), (h4, .inl (D.1 13, 1600, .inl f)), (h2, .inl (D.1 14, 179, .inl fw))]) ⟨hx, hb, hml, hown, ht⟩ (k_X0_add l D _ h3 h5 n_55 f_56 (-3) (by first | decide | omega)) (zgV ml_X6_191 im_X0_add se_X0_add in_X0 co_X0_add) rfl rfl (by decide +kernel) ⟨by show 0 + 1 ≤ 40 * d + 24; omega, by show 8 + (2 + 11) + 0 ≤ 2400 * d + 1440; omega⟩ hK hP hD hS hA [4, 5] [0, 1, 2, 3] rfl rfl rfl rfl (by decide) 0 rfl rfl rfl rfl hl.1 rfl (Nat.le_of_ble_eq_true rfl) dX6_readProduct_61 ⟨Nat.le_of_ble_eq_true rfl, Nat.le_of_ble_eq_true rfl⟩ (fun u_59 H locs hw hP hD hS => ?_)
        obtain ⟨n_61, f_62⟩ := u_59
        have hP : va_P D vwCl [(h0, .inr (6, [.int x_48, .int x_49, .ref h1, .ref h2, .ref h3, .int mo, .int (nI (op)), .int x_50, .int (nI (n_51)), .int (nI (n_52)), .int x_53, .int x_54])), (h1, .inr (9, [.ref h4, .int (nI (n))])), (h4, .inl (D.1 13, 1600, .inl f)), (h2, .inl (D.1 14, 179, .inl fw)), (h3, .inr (0, [.ref h5, .int (nI (n_61))])), (h5, .inl (D.1 13, 1600, .inl f_62))] H := hP
        have hD : va_D A [(h0, .inr (6, [.int x_48, .int x_49, .ref h1, .ref h2, .ref h3, .int mo, .int (nI (op)), .int x_50, .int (nI (n_51)), .int (nI (n_52)), .int x_53, .int x_54])), (h1, .inr (9, [.ref h4, .int (nI (n))])), (h4, .inl (D.1 13, 1600, .inl f)), (h2, .inl (D.1 14, 179, .inl fw)), (h3, .inr (0, [.ref h5, .int (nI (n_61))])), (h5, .inl (D.1 13, 1600, .inl f_62))] := hD
        have hw_63 : n_61 ≤ 1600 := hw
        refine lv_iinc (v := nI (i_13 + 1)) (lv' := [(1, .int (nI (i_13 + 1))), (2, .int (-3)), (0, .ref h0)]) hx hb dX6_readProduct_64 hl (k := 1) rfl (z_inc _) (by decide) rfl (fun ls hl => ?_)
        refine lv_goto (tgt := 6) hx hb dX6_readProduct_67 (by decide) ?_
        exact ih_6 (f_62, x_48, x_49, x_50, n_51, n_52, x_53, x_54, n_61) _ _ _ (by omega) ⟨(by first | omega | (dsimp only; omega)), hP.sub [0, 1, 2, 3, 4, 5] rfl, hD.sub [0, 1, 2, 3, 4, 5] (by decide) rfl, hS, lv_sub hl [0, 2] rfl⟩
      · skip
        refine lv_if_eq (tgt := 45) hx hb dX6_readProduct_37 (by decide) (fun _ => ?_) (fun c_64 => (z_abs c_64 (by decide)).elim)
        refine lv_bipush (v := (-4)) hx hb dX6_readProduct_45 (by decide) ?_
        refine lv_istore_n (lv' := [(2, .int (-4)), (1, .int (nI i_13)), (0, .ref h0)]) hx hb dX6_readProduct_47 rfl hl (by decide) rfl (fun ls hl => ?_)
        refine lv_aload_n hx hb dX6_readProduct_48 rfl (lv_at hl 2 rfl) ?_
        refine zwVv (As := []) (rest := []) (C := RX6) (n := 0) (wr := [(h3, .inr (0, [.ref h5, .int (nI n_22)])), (h5, .inl (D.1 13, 1600, .inl f_14))]) ⟨hx, hb, hml, hown, ht⟩ (k_X6_advance l D _ h0 h1 h2 h3 h4 x_15 x_16 mo x_17 x_20 x_21 op n_18 n_19 n f fw (by first | decide | omega) (by first | decide | omega) (by first | decide | omega) (by first | decide | omega)) (zgV ml_X6_75 im_X6_advance se_X6_advance in_X6 co_X6_advance) rfl rfl (by decide +kernel) ⟨by show 1 + 1 ≤ 40 * d + 24; omega, by show 8 + (2 + 11) + 60 ≤ 2400 * d + 1440; omega⟩ hK hP hD hS hA [0, 1, 2, 3] [4, 5] rfl rfl rfl rfl (by decide) 0 rfl rfl rfl rfl hl.1 rfl (Nat.le_of_ble_eq_true rfl) dX6_readProduct_49 ⟨Nat.le_of_ble_eq_true rfl, Nat.le_of_ble_eq_true rfl⟩ (fun u_66 H locs hw hP hD hS => ?_)
        obtain ⟨x_68, n_69, n_70, x_71, x_72⟩ := u_66
        have hP : va_P D vwCl [(h3, .inr (0, [.ref h5, .int (nI n_22)])), (h5, .inl (D.1 13, 1600, .inl f_14)), (h0, .inr (6, [.int x_15, .int x_16, .ref h1, .ref h2, .ref h3, .int mo, .int (nI (op)), .int x_68, .int (nI (n_69)), .int (nI (n_70)), .int x_71, .int x_72])), (h1, .inr (9, [.ref h4, .int (nI (n))])), (h4, .inl (D.1 13, 1600, .inl f)), (h2, .inl (D.1 14, 179, .inl fw))] H := hP
        have hD : va_D A [(h3, .inr (0, [.ref h5, .int (nI n_22)])), (h5, .inl (D.1 13, 1600, .inl f_14)), (h0, .inr (6, [.int x_15, .int x_16, .ref h1, .ref h2, .ref h3, .int mo, .int (nI (op)), .int x_68, .int (nI (n_69)), .int (nI (n_70)), .int x_71, .int x_72])), (h1, .inr (9, [.ref h4, .int (nI (n))])), (h4, .inl (D.1 13, 1600, .inl f)), (h2, .inl (D.1 14, 179, .inl fw))] := hD
        have hw_73 : n_69 ≤ n_70 ∧ n_70 ≤ n ∧ n_19 ≤ n_70 ∧ (x_68.toInt = 0 ∨ (n_19 < n_70 ∧ n_69 < n_70)) ∧ (¬ x_15.toInt = 0 → x_68.toInt = 0) := hw
        refine lv_aload_n hx hb dX6_readProduct_52 rfl (lv_at hl 2 rfl) ?_
        refine zwVv (As := []) (rest := []) (C := RX6) (n := 0) (wr := []) ⟨hx, hb, hml, hown, ht⟩ (k_X6_readPart l D _ h0 h1 h2 h3 h4 h5 x_15 x_16 mo x_68 x_71 x_72 op n_69 n_70 n n_22 f fw f_14 d ih (by first | decide | omega) (by first | decide | omega) (by first | decide | omega) (by first | decide | omega) (by first | decide | omega) (by first | decide | omega) (by first | decide | omega)) (zgV ml_X6_206 im_X6_readPart se_X6_readPart in_X6 co_X6_readPart) rfl rfl (by decide +kernel) ⟨by show 40 * d + 20 + 1 ≤ 40 * d + 24; omega, by show 8 + (1 + 11) + (2400 * d + 1200) ≤ 2400 * d + 1440; omega⟩ hK hP hD hS hA [2, 3, 4, 5, 0, 1] [] rfl rfl rfl rfl (by decide) 0 rfl rfl rfl rfl hl.1 rfl (Nat.le_of_ble_eq_true rfl) dX6_readProduct_53 ⟨Nat.le_of_ble_eq_true rfl, Nat.le_of_ble_eq_true rfl⟩ (fun u_74 H locs hw hP hD hS => ?_)
        obtain ⟨x_76, x_77, x_78, n_79, n_80, x_81, x_82, n_83, f_84⟩ := u_74
        have hP : va_P D vwCl [(h0, .inr (6, [.int x_76, .int x_77, .ref h1, .ref h2, .ref h3, .int mo, .int (nI (op)), .int x_78, .int (nI (n_79)), .int (nI (n_80)), .int x_81, .int x_82])), (h1, .inr (9, [.ref h4, .int (nI (n))])), (h4, .inl (D.1 13, 1600, .inl f)), (h2, .inl (D.1 14, 179, .inl fw)), (h3, .inr (0, [.ref h5, .int (nI (n_83))])), (h5, .inl (D.1 13, 1600, .inl f_84))] H := hP
        have hD : va_D A [(h0, .inr (6, [.int x_76, .int x_77, .ref h1, .ref h2, .ref h3, .int mo, .int (nI (op)), .int x_78, .int (nI (n_79)), .int (nI (n_80)), .int x_81, .int x_82])), (h1, .inr (9, [.ref h4, .int (nI (n))])), (h4, .inl (D.1 13, 1600, .inl f)), (h2, .inl (D.1 14, 179, .inl fw)), (h3, .inr (0, [.ref h5, .int (nI (n_83))])), (h5, .inl (D.1 13, 1600, .inl f_84))] := hD
        have hw_85 : n_79 ≤ n_80 ∧ n_80 ≤ n ∧ n_70 ≤ n_80 ∧ (¬ x_76.toInt = 0 → x_78.toInt = 0) ∧ n_83 ≤ 1600 := hw
        refine lv_aload_n hx hb dX6_readProduct_56 rfl (lv_at hl 2 rfl) ?_
        refine va_get (D := D) (ci := 6) (v := .ref h3) (C := RX6) (T := TX6) (N := 12) hx hb ht inX6 hown hK hP 0 rfl rfl 4 (by decide) (ht (.fieldLink RX6 84 "CloneVolumes$Reader" "code" "LCloneVolumes$Code;") fl_X6_84) (fun _ h9 => h9) rfl dX6_readProduct_57 ?_
        refine lv_iload_n hx hb dX6_readProduct_60 rfl (lv_at hl 0 rfl) ?_
        have en_86 : ((-4) : Int32).toInt = (-4) := by decide
        refine zwVv (As := [.int (-4)]) (rest := []) (C := RX0) (n := 1) (wr := [(h0, .inr (6, [.int x_76, .int x_77, .ref h1, .ref h2, .ref h3, .int mo, .int (nI (op)), .int x_78, .int (nI (n_79)), .int (nI (n_80)), .int x_81, .int x_82])), (h1, .inr (9, [.ref h4, .int (nI (n))])), (h4, .inl (D.1 13, 1600, .inl f)), (h2, .inl (D.1 14, 179, .inl fw))]) ⟨hx, hb, hml, hown, ht⟩ (k_X0_add l D _ h3 h5 n_83 f_84 (-4) (by first | decide | omega)) (zgV ml_X6_191 im_X0_add se_X0_add in_X0 co_X0_add) rfl rfl (by decide +kernel) ⟨by show 0 + 1 ≤ 40 * d + 24; omega, by show 8 + (2 + 11) + 0 ≤ 2400 * d + 1440; omega⟩ hK hP hD hS hA [4, 5] [0, 1, 2, 3] rfl rfl rfl rfl (by decide) 0 rfl rfl rfl rfl hl.1 rfl (Nat.le_of_ble_eq_true rfl) dX6_readProduct_61 ⟨Nat.le_of_ble_eq_true rfl, Nat.le_of_ble_eq_true rfl⟩ (fun u_87 H locs hw hP hD hS => ?_)
        obtain ⟨n_89, f_90⟩ := u_87
        have hP : va_P D vwCl [(h0, .inr (6, [.int x_76, .int x_77, .ref h1, .ref h2, .ref h3, .int mo, .int (nI (op)), .int x_78, .int (nI (n_79)), .int (nI (n_80)), .int x_81, .int x_82])), (h1, .inr (9, [.ref h4, .int (nI (n))])), (h4, .inl (D.1 13, 1600, .inl f)), (h2, .inl (D.1 14, 179, .inl fw)), (h3, .inr (0, [.ref h5, .int (nI (n_89))])), (h5, .inl (D.1 13, 1600, .inl f_90))] H := hP
        have hD : va_D A [(h0, .inr (6, [.int x_76, .int x_77, .ref h1, .ref h2, .ref h3, .int mo, .int (nI (op)), .int x_78, .int (nI (n_79)), .int (nI (n_80)), .int x_81, .int x_82])), (h1, .inr (9, [.ref h4, .int (nI (n))])), (h4, .inl (D.1 13, 1600, .inl f)), (h2, .inl (D.1 14, 179, .inl fw)), (h3, .inr (0, [.ref h5, .int (nI (n_89))])), (h5, .inl (D.1 13, 1600, .inl f_90))] := hD
        have hw_91 : n_89 ≤ 1600 := hw
        refine lv_iinc (v := nI (i_13 + 1)) (lv' := [(1, .int (nI (i_13 + 1))), (2, .int (-4)), (0, .ref h0)]) hx hb dX6_readProduct_64 hl (k := 1) rfl (z_inc _) (by decide) rfl (fun ls hl => ?_)
        refine lv_goto (tgt := 6) hx hb dX6_readProduct_67 (by decide) ?_
        exact ih_6 (f_90, x_76, x_77, x_78, n_79, n_80, x_81, x_82, n_89) _ _ _ (by omega) ⟨(by first | omega | (dsimp only; omega)), hP.sub [0, 1, 2, 3, 4, 5] rfl, hD.sub [0, 1, 2, 3, 4, 5] (by decide) rfl, hS, lv_sub hl [0, 2] rfl⟩
    · skip
      refine lv_if_ne (tgt := 31) hx hb dX6_readProduct_19 (by decide) (fun c_92 => (z_abs c_92 (by decide)).elim) (fun _ => ?_)
      refine lv_aload_n hx hb dX6_readProduct_22 rfl (lv_at hl 1 rfl) ?_
      refine lv_bipush (v := 47) hx hb dX6_readProduct_23 (by decide) ?_
      have en_94 : (47 : Int32).toInt = 47 := by decide
      refine zcV (As := [.int 47]) (rest := []) (C := RX6) (n := 1) ⟨hx, hb, hml, hown, ht⟩ (k_X6_isSign l D h0 h1 h2 h3 x_15 x_16 mo x_17 x_20 x_21 op n_18 n_19 47) (zgV ml_X6_124 im_X6_isSign se_X6_isSign in_X6 co_X6_isSign) rfl rfl (by decide +kernel) ⟨by show 0 + 1 ≤ 40 * d + 24; omega, by show 8 + (2 + 11) + 0 ≤ 2400 * d + 1440; omega⟩ hK hP hS [0] rfl 0 rfl rfl rfl rfl hl.1 rfl (Nat.le_of_ble_eq_true rfl) dX6_readProduct_25 ⟨Nat.le_of_ble_eq_true rfl, Nat.le_of_ble_eq_true rfl⟩ (fun r_95 H locs hw hP hS => ?_)
      rcases hw with ⟨rfl, g_96⟩ | ⟨rfl, g_97⟩
      · skip
        refine lv_if_eq (tgt := 70) hx hb dX6_readProduct_28 (by decide) (fun c_98 => (z_abs c_98 (by decide)).elim) (fun _ => ?_)
        refine lv_aload_n hx hb dX6_readProduct_31 rfl (lv_at hl 1 rfl) ?_
        refine lv_bipush (v := 42) hx hb dX6_readProduct_32 (by decide) ?_
        have en_100 : (42 : Int32).toInt = 42 := by decide
        refine zcV (As := [.int 42]) (rest := []) (C := RX6) (n := 1) ⟨hx, hb, hml, hown, ht⟩ (k_X6_isSign l D h0 h1 h2 h3 x_15 x_16 mo x_17 x_20 x_21 op n_18 n_19 42) (zgV ml_X6_124 im_X6_isSign se_X6_isSign in_X6 co_X6_isSign) rfl rfl (by decide +kernel) ⟨by show 0 + 1 ≤ 40 * d + 24; omega, by show 8 + (2 + 11) + 0 ≤ 2400 * d + 1440; omega⟩ hK hP hS [0] rfl 0 rfl rfl rfl rfl hl.1 rfl (Nat.le_of_ble_eq_true rfl) dX6_readProduct_34 ⟨Nat.le_of_ble_eq_true rfl, Nat.le_of_ble_eq_true rfl⟩ (fun r_101 H locs hw hP hS => ?_)
        rcases hw with ⟨rfl, g_102⟩ | ⟨rfl, g_103⟩
        · skip
          refine lv_if_eq (tgt := 45) hx hb dX6_readProduct_37 (by decide) (fun c_104 => (z_abs c_104 (by decide)).elim) (fun _ => ?_)
          refine lv_bipush (v := (-3)) hx hb dX6_readProduct_40 (by decide) ?_
          refine lv_goto (tgt := 47) hx hb dX6_readProduct_42 (by decide) ?_
          refine lv_istore_n (lv' := [(2, .int (-3)), (1, .int (nI i_13)), (0, .ref h0)]) hx hb dX6_readProduct_47 rfl hl (by decide) rfl (fun ls hl => ?_)
          refine lv_aload_n hx hb dX6_readProduct_48 rfl (lv_at hl 2 rfl) ?_
          refine zwVv (As := []) (rest := []) (C := RX6) (n := 0) (wr := [(h3, .inr (0, [.ref h5, .int (nI n_22)])), (h5, .inl (D.1 13, 1600, .inl f_14))]) ⟨hx, hb, hml, hown, ht⟩ (k_X6_advance l D _ h0 h1 h2 h3 h4 x_15 x_16 mo x_17 x_20 x_21 op n_18 n_19 n f fw (by first | decide | omega) (by first | decide | omega) (by first | decide | omega) (by first | decide | omega)) (zgV ml_X6_75 im_X6_advance se_X6_advance in_X6 co_X6_advance) rfl rfl (by decide +kernel) ⟨by show 1 + 1 ≤ 40 * d + 24; omega, by show 8 + (2 + 11) + 60 ≤ 2400 * d + 1440; omega⟩ hK hP hD hS hA [0, 1, 2, 3] [4, 5] rfl rfl rfl rfl (by decide) 0 rfl rfl rfl rfl hl.1 rfl (Nat.le_of_ble_eq_true rfl) dX6_readProduct_49 ⟨Nat.le_of_ble_eq_true rfl, Nat.le_of_ble_eq_true rfl⟩ (fun u_106 H locs hw hP hD hS => ?_)
          obtain ⟨x_108, n_109, n_110, x_111, x_112⟩ := u_106
          have hP : va_P D vwCl [(h3, .inr (0, [.ref h5, .int (nI n_22)])), (h5, .inl (D.1 13, 1600, .inl f_14)), (h0, .inr (6, [.int x_15, .int x_16, .ref h1, .ref h2, .ref h3, .int mo, .int (nI (op)), .int x_108, .int (nI (n_109)), .int (nI (n_110)), .int x_111, .int x_112])), (h1, .inr (9, [.ref h4, .int (nI (n))])), (h4, .inl (D.1 13, 1600, .inl f)), (h2, .inl (D.1 14, 179, .inl fw))] H := hP
          have hD : va_D A [(h3, .inr (0, [.ref h5, .int (nI n_22)])), (h5, .inl (D.1 13, 1600, .inl f_14)), (h0, .inr (6, [.int x_15, .int x_16, .ref h1, .ref h2, .ref h3, .int mo, .int (nI (op)), .int x_108, .int (nI (n_109)), .int (nI (n_110)), .int x_111, .int x_112])), (h1, .inr (9, [.ref h4, .int (nI (n))])), (h4, .inl (D.1 13, 1600, .inl f)), (h2, .inl (D.1 14, 179, .inl fw))] := hD
          have hw_113 : n_109 ≤ n_110 ∧ n_110 ≤ n ∧ n_19 ≤ n_110 ∧ (x_108.toInt = 0 ∨ (n_19 < n_110 ∧ n_109 < n_110)) ∧ (¬ x_15.toInt = 0 → x_108.toInt = 0) := hw
          refine lv_aload_n hx hb dX6_readProduct_52 rfl (lv_at hl 2 rfl) ?_
          refine zwVv (As := []) (rest := []) (C := RX6) (n := 0) (wr := []) ⟨hx, hb, hml, hown, ht⟩ (k_X6_readPart l D _ h0 h1 h2 h3 h4 h5 x_15 x_16 mo x_108 x_111 x_112 op n_109 n_110 n n_22 f fw f_14 d ih (by first | decide | omega) (by first | decide | omega) (by first | decide | omega) (by first | decide | omega) (by first | decide | omega) (by first | decide | omega) (by first | decide | omega)) (zgV ml_X6_206 im_X6_readPart se_X6_readPart in_X6 co_X6_readPart) rfl rfl (by decide +kernel) ⟨by show 40 * d + 20 + 1 ≤ 40 * d + 24; omega, by show 8 + (1 + 11) + (2400 * d + 1200) ≤ 2400 * d + 1440; omega⟩ hK hP hD hS hA [2, 3, 4, 5, 0, 1] [] rfl rfl rfl rfl (by decide) 0 rfl rfl rfl rfl hl.1 rfl (Nat.le_of_ble_eq_true rfl) dX6_readProduct_53 ⟨Nat.le_of_ble_eq_true rfl, Nat.le_of_ble_eq_true rfl⟩ (fun u_114 H locs hw hP hD hS => ?_)
          obtain ⟨x_116, x_117, x_118, n_119, n_120, x_121, x_122, n_123, f_124⟩ := u_114
          have hP : va_P D vwCl [(h0, .inr (6, [.int x_116, .int x_117, .ref h1, .ref h2, .ref h3, .int mo, .int (nI (op)), .int x_118, .int (nI (n_119)), .int (nI (n_120)), .int x_121, .int x_122])), (h1, .inr (9, [.ref h4, .int (nI (n))])), (h4, .inl (D.1 13, 1600, .inl f)), (h2, .inl (D.1 14, 179, .inl fw)), (h3, .inr (0, [.ref h5, .int (nI (n_123))])), (h5, .inl (D.1 13, 1600, .inl f_124))] H := hP
          have hD : va_D A [(h0, .inr (6, [.int x_116, .int x_117, .ref h1, .ref h2, .ref h3, .int mo, .int (nI (op)), .int x_118, .int (nI (n_119)), .int (nI (n_120)), .int x_121, .int x_122])), (h1, .inr (9, [.ref h4, .int (nI (n))])), (h4, .inl (D.1 13, 1600, .inl f)), (h2, .inl (D.1 14, 179, .inl fw)), (h3, .inr (0, [.ref h5, .int (nI (n_123))])), (h5, .inl (D.1 13, 1600, .inl f_124))] := hD
          have hw_125 : n_119 ≤ n_120 ∧ n_120 ≤ n ∧ n_110 ≤ n_120 ∧ (¬ x_116.toInt = 0 → x_118.toInt = 0) ∧ n_123 ≤ 1600 := hw
          refine lv_aload_n hx hb dX6_readProduct_56 rfl (lv_at hl 2 rfl) ?_
          refine va_get (D := D) (ci := 6) (v := .ref h3) (C := RX6) (T := TX6) (N := 12) hx hb ht inX6 hown hK hP 0 rfl rfl 4 (by decide) (ht (.fieldLink RX6 84 "CloneVolumes$Reader" "code" "LCloneVolumes$Code;") fl_X6_84) (fun _ h9 => h9) rfl dX6_readProduct_57 ?_
          refine lv_iload_n hx hb dX6_readProduct_60 rfl (lv_at hl 0 rfl) ?_
          have en_126 : ((-3) : Int32).toInt = (-3) := by decide
          refine zwVv (As := [.int (-3)]) (rest := []) (C := RX0) (n := 1) (wr := [(h0, .inr (6, [.int x_116, .int x_117, .ref h1, .ref h2, .ref h3, .int mo, .int (nI (op)), .int x_118, .int (nI (n_119)), .int (nI (n_120)), .int x_121, .int x_122])), (h1, .inr (9, [.ref h4, .int (nI (n))])), (h4, .inl (D.1 13, 1600, .inl f)), (h2, .inl (D.1 14, 179, .inl fw))]) ⟨hx, hb, hml, hown, ht⟩ (k_X0_add l D _ h3 h5 n_123 f_124 (-3) (by first | decide | omega)) (zgV ml_X6_191 im_X0_add se_X0_add in_X0 co_X0_add) rfl rfl (by decide +kernel) ⟨by show 0 + 1 ≤ 40 * d + 24; omega, by show 8 + (2 + 11) + 0 ≤ 2400 * d + 1440; omega⟩ hK hP hD hS hA [4, 5] [0, 1, 2, 3] rfl rfl rfl rfl (by decide) 0 rfl rfl rfl rfl hl.1 rfl (Nat.le_of_ble_eq_true rfl) dX6_readProduct_61 ⟨Nat.le_of_ble_eq_true rfl, Nat.le_of_ble_eq_true rfl⟩ (fun u_127 H locs hw hP hD hS => ?_)
          obtain ⟨n_129, f_130⟩ := u_127
          have hP : va_P D vwCl [(h0, .inr (6, [.int x_116, .int x_117, .ref h1, .ref h2, .ref h3, .int mo, .int (nI (op)), .int x_118, .int (nI (n_119)), .int (nI (n_120)), .int x_121, .int x_122])), (h1, .inr (9, [.ref h4, .int (nI (n))])), (h4, .inl (D.1 13, 1600, .inl f)), (h2, .inl (D.1 14, 179, .inl fw)), (h3, .inr (0, [.ref h5, .int (nI (n_129))])), (h5, .inl (D.1 13, 1600, .inl f_130))] H := hP
          have hD : va_D A [(h0, .inr (6, [.int x_116, .int x_117, .ref h1, .ref h2, .ref h3, .int mo, .int (nI (op)), .int x_118, .int (nI (n_119)), .int (nI (n_120)), .int x_121, .int x_122])), (h1, .inr (9, [.ref h4, .int (nI (n))])), (h4, .inl (D.1 13, 1600, .inl f)), (h2, .inl (D.1 14, 179, .inl fw)), (h3, .inr (0, [.ref h5, .int (nI (n_129))])), (h5, .inl (D.1 13, 1600, .inl f_130))] := hD
          have hw_131 : n_129 ≤ 1600 := hw
          refine lv_iinc (v := nI (i_13 + 1)) (lv' := [(1, .int (nI (i_13 + 1))), (2, .int (-3)), (0, .ref h0)]) hx hb dX6_readProduct_64 hl (k := 1) rfl (z_inc _) (by decide) rfl (fun ls hl => ?_)
          refine lv_goto (tgt := 6) hx hb dX6_readProduct_67 (by decide) ?_
          exact ih_6 (f_130, x_116, x_117, x_118, n_119, n_120, x_121, x_122, n_129) _ _ _ (by omega) ⟨(by first | omega | (dsimp only; omega)), hP.sub [0, 1, 2, 3, 4, 5] rfl, hD.sub [0, 1, 2, 3, 4, 5] (by decide) rfl, hS, lv_sub hl [0, 2] rfl⟩
        · skip
          refine lv_if_eq (tgt := 45) hx hb dX6_readProduct_37 (by decide) (fun _ => ?_) (fun c_132 => (z_abs c_132 (by decide)).elim)
          refine lv_bipush (v := (-4)) hx hb dX6_readProduct_45 (by decide) ?_
          refine lv_istore_n (lv' := [(2, .int (-4)), (1, .int (nI i_13)), (0, .ref h0)]) hx hb dX6_readProduct_47 rfl hl (by decide) rfl (fun ls hl => ?_)
          refine lv_aload_n hx hb dX6_readProduct_48 rfl (lv_at hl 2 rfl) ?_
          refine zwVv (As := []) (rest := []) (C := RX6) (n := 0) (wr := [(h3, .inr (0, [.ref h5, .int (nI n_22)])), (h5, .inl (D.1 13, 1600, .inl f_14))]) ⟨hx, hb, hml, hown, ht⟩ (k_X6_advance l D _ h0 h1 h2 h3 h4 x_15 x_16 mo x_17 x_20 x_21 op n_18 n_19 n f fw (by first | decide | omega) (by first | decide | omega) (by first | decide | omega) (by first | decide | omega)) (zgV ml_X6_75 im_X6_advance se_X6_advance in_X6 co_X6_advance) rfl rfl (by decide +kernel) ⟨by show 1 + 1 ≤ 40 * d + 24; omega, by show 8 + (2 + 11) + 60 ≤ 2400 * d + 1440; omega⟩ hK hP hD hS hA [0, 1, 2, 3] [4, 5] rfl rfl rfl rfl (by decide) 0 rfl rfl rfl rfl hl.1 rfl (Nat.le_of_ble_eq_true rfl) dX6_readProduct_49 ⟨Nat.le_of_ble_eq_true rfl, Nat.le_of_ble_eq_true rfl⟩ (fun u_134 H locs hw hP hD hS => ?_)
          obtain ⟨x_136, n_137, n_138, x_139, x_140⟩ := u_134
          have hP : va_P D vwCl [(h3, .inr (0, [.ref h5, .int (nI n_22)])), (h5, .inl (D.1 13, 1600, .inl f_14)), (h0, .inr (6, [.int x_15, .int x_16, .ref h1, .ref h2, .ref h3, .int mo, .int (nI (op)), .int x_136, .int (nI (n_137)), .int (nI (n_138)), .int x_139, .int x_140])), (h1, .inr (9, [.ref h4, .int (nI (n))])), (h4, .inl (D.1 13, 1600, .inl f)), (h2, .inl (D.1 14, 179, .inl fw))] H := hP
          have hD : va_D A [(h3, .inr (0, [.ref h5, .int (nI n_22)])), (h5, .inl (D.1 13, 1600, .inl f_14)), (h0, .inr (6, [.int x_15, .int x_16, .ref h1, .ref h2, .ref h3, .int mo, .int (nI (op)), .int x_136, .int (nI (n_137)), .int (nI (n_138)), .int x_139, .int x_140])), (h1, .inr (9, [.ref h4, .int (nI (n))])), (h4, .inl (D.1 13, 1600, .inl f)), (h2, .inl (D.1 14, 179, .inl fw))] := hD
          have hw_141 : n_137 ≤ n_138 ∧ n_138 ≤ n ∧ n_19 ≤ n_138 ∧ (x_136.toInt = 0 ∨ (n_19 < n_138 ∧ n_137 < n_138)) ∧ (¬ x_15.toInt = 0 → x_136.toInt = 0) := hw
          refine lv_aload_n hx hb dX6_readProduct_52 rfl (lv_at hl 2 rfl) ?_
          refine zwVv (As := []) (rest := []) (C := RX6) (n := 0) (wr := []) ⟨hx, hb, hml, hown, ht⟩ (k_X6_readPart l D _ h0 h1 h2 h3 h4 h5 x_15 x_16 mo x_136 x_139 x_140 op n_137 n_138 n n_22 f fw f_14 d ih (by first | decide | omega) (by first | decide | omega) (by first | decide | omega) (by first | decide | omega) (by first | decide | omega) (by first | decide | omega) (by first | decide | omega)) (zgV ml_X6_206 im_X6_readPart se_X6_readPart in_X6 co_X6_readPart) rfl rfl (by decide +kernel) ⟨by show 40 * d + 20 + 1 ≤ 40 * d + 24; omega, by show 8 + (1 + 11) + (2400 * d + 1200) ≤ 2400 * d + 1440; omega⟩ hK hP hD hS hA [2, 3, 4, 5, 0, 1] [] rfl rfl rfl rfl (by decide) 0 rfl rfl rfl rfl hl.1 rfl (Nat.le_of_ble_eq_true rfl) dX6_readProduct_53 ⟨Nat.le_of_ble_eq_true rfl, Nat.le_of_ble_eq_true rfl⟩ (fun u_142 H locs hw hP hD hS => ?_)
          obtain ⟨x_144, x_145, x_146, n_147, n_148, x_149, x_150, n_151, f_152⟩ := u_142
          have hP : va_P D vwCl [(h0, .inr (6, [.int x_144, .int x_145, .ref h1, .ref h2, .ref h3, .int mo, .int (nI (op)), .int x_146, .int (nI (n_147)), .int (nI (n_148)), .int x_149, .int x_150])), (h1, .inr (9, [.ref h4, .int (nI (n))])), (h4, .inl (D.1 13, 1600, .inl f)), (h2, .inl (D.1 14, 179, .inl fw)), (h3, .inr (0, [.ref h5, .int (nI (n_151))])), (h5, .inl (D.1 13, 1600, .inl f_152))] H := hP
          have hD : va_D A [(h0, .inr (6, [.int x_144, .int x_145, .ref h1, .ref h2, .ref h3, .int mo, .int (nI (op)), .int x_146, .int (nI (n_147)), .int (nI (n_148)), .int x_149, .int x_150])), (h1, .inr (9, [.ref h4, .int (nI (n))])), (h4, .inl (D.1 13, 1600, .inl f)), (h2, .inl (D.1 14, 179, .inl fw)), (h3, .inr (0, [.ref h5, .int (nI (n_151))])), (h5, .inl (D.1 13, 1600, .inl f_152))] := hD
          have hw_153 : n_147 ≤ n_148 ∧ n_148 ≤ n ∧ n_138 ≤ n_148 ∧ (¬ x_144.toInt = 0 → x_146.toInt = 0) ∧ n_151 ≤ 1600 := hw
          refine lv_aload_n hx hb dX6_readProduct_56 rfl (lv_at hl 2 rfl) ?_
          refine va_get (D := D) (ci := 6) (v := .ref h3) (C := RX6) (T := TX6) (N := 12) hx hb ht inX6 hown hK hP 0 rfl rfl 4 (by decide) (ht (.fieldLink RX6 84 "CloneVolumes$Reader" "code" "LCloneVolumes$Code;") fl_X6_84) (fun _ h9 => h9) rfl dX6_readProduct_57 ?_
          refine lv_iload_n hx hb dX6_readProduct_60 rfl (lv_at hl 0 rfl) ?_
          have en_154 : ((-4) : Int32).toInt = (-4) := by decide
          refine zwVv (As := [.int (-4)]) (rest := []) (C := RX0) (n := 1) (wr := [(h0, .inr (6, [.int x_144, .int x_145, .ref h1, .ref h2, .ref h3, .int mo, .int (nI (op)), .int x_146, .int (nI (n_147)), .int (nI (n_148)), .int x_149, .int x_150])), (h1, .inr (9, [.ref h4, .int (nI (n))])), (h4, .inl (D.1 13, 1600, .inl f)), (h2, .inl (D.1 14, 179, .inl fw))]) ⟨hx, hb, hml, hown, ht⟩ (k_X0_add l D _ h3 h5 n_151 f_152 (-4) (by first | decide | omega)) (zgV ml_X6_191 im_X0_add se_X0_add in_X0 co_X0_add) rfl rfl (by decide +kernel) ⟨by show 0 + 1 ≤ 40 * d + 24; omega, by show 8 + (2 + 11) + 0 ≤ 2400 * d + 1440; omega⟩ hK hP hD hS hA [4, 5] [0, 1, 2, 3] rfl rfl rfl rfl (by decide) 0 rfl rfl rfl rfl hl.1 rfl (Nat.le_of_ble_eq_true rfl) dX6_readProduct_61 ⟨Nat.le_of_ble_eq_true rfl, Nat.le_of_ble_eq_true rfl⟩ (fun u_155 H locs hw hP hD hS => ?_)
          obtain ⟨n_157, f_158⟩ := u_155
          have hP : va_P D vwCl [(h0, .inr (6, [.int x_144, .int x_145, .ref h1, .ref h2, .ref h3, .int mo, .int (nI (op)), .int x_146, .int (nI (n_147)), .int (nI (n_148)), .int x_149, .int x_150])), (h1, .inr (9, [.ref h4, .int (nI (n))])), (h4, .inl (D.1 13, 1600, .inl f)), (h2, .inl (D.1 14, 179, .inl fw)), (h3, .inr (0, [.ref h5, .int (nI (n_157))])), (h5, .inl (D.1 13, 1600, .inl f_158))] H := hP
          have hD : va_D A [(h0, .inr (6, [.int x_144, .int x_145, .ref h1, .ref h2, .ref h3, .int mo, .int (nI (op)), .int x_146, .int (nI (n_147)), .int (nI (n_148)), .int x_149, .int x_150])), (h1, .inr (9, [.ref h4, .int (nI (n))])), (h4, .inl (D.1 13, 1600, .inl f)), (h2, .inl (D.1 14, 179, .inl fw)), (h3, .inr (0, [.ref h5, .int (nI (n_157))])), (h5, .inl (D.1 13, 1600, .inl f_158))] := hD
          have hw_159 : n_157 ≤ 1600 := hw
          refine lv_iinc (v := nI (i_13 + 1)) (lv' := [(1, .int (nI (i_13 + 1))), (2, .int (-4)), (0, .ref h0)]) hx hb dX6_readProduct_64 hl (k := 1) rfl (z_inc _) (by decide) rfl (fun ls hl => ?_)
          refine lv_goto (tgt := 6) hx hb dX6_readProduct_67 (by decide) ?_
          exact ih_6 (f_158, x_144, x_145, x_146, n_147, n_148, x_149, x_150, n_157) _ _ _ (by omega) ⟨(by first | omega | (dsimp only; omega)), hP.sub [0, 1, 2, 3, 4, 5] rfl, hD.sub [0, 1, 2, 3, 4, 5] (by decide) rfl, hS, lv_sub hl [0, 2] rfl⟩
      · skip
        refine lv_if_eq (tgt := 70) hx hb dX6_readProduct_28 (by decide) (fun _ => ?_) (fun c_160 => (z_abs c_160 (by decide)).elim)
        have hP9 := hP.sub (ws' := [(h0, .inr (6, [.int x_15, .int x_16, .ref h1, .ref h2, .ref h3, .int mo, .int (nI op), .int x_17, .int (nI n_18), .int (nI n_19), .int x_20, .int x_21])), (h1, .inr (9, [.ref h4, .int (nI n)])), (h4, .inl (D.1 13, 1600, .inl f)), (h2, .inl (D.1 14, 179, .inl fw)), (h3, .inr (0, [.ref h5, .int (nI n_22)])), (h5, .inl (D.1 13, 1600, .inl f_14))]) [0, 1, 2, 3, 4, 5] rfl
        have hD9 := hD.sub (ws' := [(h0, .inr (6, [.int x_15, .int x_16, .ref h1, .ref h2, .ref h3, .int mo, .int (nI op), .int x_17, .int (nI n_18), .int (nI n_19), .int x_20, .int x_21])), (h1, .inr (9, [.ref h4, .int (nI n)])), (h4, .inl (D.1 13, 1600, .inl f)), (h2, .inl (D.1 14, 179, .inl fw)), (h3, .inr (0, [.ref h5, .int (nI n_22)])), (h5, .inl (D.1 13, 1600, .inl f_14))]) [0, 1, 2, 3, 4, 5] (by decide) rfl
        refine W.widen (k := 0) (n := 0) (Nat.le_of_ble_eq_true rfl) (Nat.le_of_ble_eq_true rfl) ?_
        exact W.vret hx hb hr (fun t ht hW => ⟨⟨(x_15, x_16, x_17, n_18, n_19, x_20, x_21, n_22, f_14), rfl, (by first | omega | (dsimp only; omega)), by rw [ht]; exact hP9, va_K.moved hW.alike hK, hD9⟩, hS.F ht⟩) hS.2.2 dX6_readProduct_70
set_option maxHeartbeats 4000000 in
set_option maxRecDepth 100000 in
theorem k_X6_readSum (l : Launch) (D : va_G) (sz : Nat) (h0 h1 h2 h3 h4 h5 : Nat) (fa pl mo ki wo si : Int32) (op s0 sp n cn : Nat) (f fw fc : Nat → Int32) (d : Nat) (ih : ∀ e, e + 1 = d → C_readSum l D e ∧ C_readPart l D e) (h_1 : s0 ≤ sp) (h_2 : sp ≤ n) (h_3 : n ≤ 1600) (h_4 : ¬ fa.toInt = 0 → ki.toInt = 0) (h_5 : op ≤ 6) (h_6 : cn ≤ 1600) (h_7 : 6 ≤ op + d) : Met l yX6_readSum (wz yX6_readSum cX6_readSum 3 none) { frames := 40 * d + 28, cells := 0, slots := 0, locals := 2400 * d + 1680 } (va_Pc [.ref h0] (zW D sz [(h0, .inr (6, [.int fa, .int pl, .ref h1, .ref h2, .ref h3, .int mo, .int (nI op), .int ki, .int (nI s0), .int (nI sp), .int wo, .int si])), (h1, .inr (9, [.ref h4, .int (nI n)])), (h4, .inl (D.1 13, 1600, .inl f)), (h2, .inl (D.1 14, 179, .inl fw)), (h3, .inr (0, [.ref h5, .int (nI cn)])), (h5, .inl (D.1 13, 1600, .inl fc))])) (va_Qv (fun (u : ((Int32) × (Int32) × (Int32) × (Nat) × (Nat) × (Int32) × (Int32) × (Nat) × (Nat → Int32))) => u.2.2.2.1 ≤ u.2.2.2.2.1 ∧ u.2.2.2.2.1 ≤ n ∧ sp ≤ u.2.2.2.2.1 ∧ (¬ u.1.toInt = 0 → u.2.2.1.toInt = 0) ∧ u.2.2.2.2.2.2.2.1 ≤ 1600) (fun u t => zB D (va_A [(h0, .inr (6, [.int fa, .int pl, .ref h1, .ref h2, .ref h3, .int mo, .int (nI op), .int ki, .int (nI s0), .int (nI sp), .int wo, .int si])), (h1, .inr (9, [.ref h4, .int (nI n)])), (h4, .inl (D.1 13, 1600, .inl f)), (h2, .inl (D.1 14, 179, .inl fw)), (h3, .inr (0, [.ref h5, .int (nI cn)])), (h5, .inl (D.1 13, 1600, .inl fc))] sz) ((fun (u : ((Int32) × (Int32) × (Int32) × (Nat) × (Nat) × (Int32) × (Int32) × (Nat) × (Nat → Int32))) => [(h0, .inr (6, [.int u.1, .int u.2.1, .ref h1, .ref h2, .ref h3, .int mo, .int (nI op), .int u.2.2.1, .int (nI u.2.2.2.1), .int (nI u.2.2.2.2.1), .int u.2.2.2.2.2.1, .int u.2.2.2.2.2.2.1])), (h1, .inr (9, [.ref h4, .int (nI n)])), (h4, .inl (D.1 13, 1600, .inl f)), (h2, .inl (D.1 14, 179, .inl fw)), (h3, .inr (0, [.ref h5, .int (nI u.2.2.2.2.2.2.2.1)])), (h5, .inl (D.1 13, 1600, .inl u.2.2.2.2.2.2.2.2))]) u) t) (va_A [(h0, .inr (6, [.int fa, .int pl, .ref h1, .ref h2, .ref h3, .int mo, .int (nI op), .int ki, .int (nI s0), .int (nI sp), .int wo, .int si])), (h1, .inr (9, [.ref h4, .int (nI n)])), (h4, .inl (D.1 13, 1600, .inl f)), (h2, .inl (D.1 14, 179, .inl fw)), (h3, .inr (0, [.ref h5, .int (nI cn)])), (h5, .inl (D.1 13, 1600, .inl fc))] sz)) 0 0 (va_A [(h0, .inr (6, [.int fa, .int pl, .ref h1, .ref h2, .ref h3, .int mo, .int (nI op), .int ki, .int (nI s0), .int (nI sp), .int wo, .int si])), (h1, .inr (9, [.ref h4, .int (nI n)])), (h4, .inl (D.1 13, 1600, .inl f)), (h2, .inl (D.1 14, 179, .inl fw)), (h3, .inr (0, [.ref h5, .int (nI cn)])), (h5, .inl (D.1 13, 1600, .inl fc))] sz) := by
  refine Met.ofW (cc := cX6_readSum) (maxL := 3) (ret := none) (by decide) rfl ?_
  intro p e s m args below meth c s₁ B hml hv
  obtain ⟨rfl, hsz, hP, hK, hD0⟩ := hv
  have hx := B.exec
  have hb := B.bytes
  have hr := B.returns
  have hts := atoms_spec (ws := wz yX6_readSum cX6_readSum 3 none) B.pre
  have ht : ∀ w ∈ lw_gd, w.before _ s = true := fun w h => hts w (List.mem_cons_of_mem _ h)
  have hown : s.vm.findClass RX6 = some m.cls := findClass_of_methodNamed B.named
  have hlocks := B.notSynchronized
  subst hsz
  have hD := hD0.self (sz := s.heap.size)
  generalize hAe : va_A [(h0, .inr (6, [.int fa, .int pl, .ref h1, .ref h2, .ref h3, .int mo, .int (nI op), .int ki, .int (nI s0), .int (nI sp), .int wo, .int si])), (h1, .inr (9, [.ref h4, .int (nI n)])), (h4, .inl (D.1 13, 1600, .inl f)), (h2, .inl (D.1 14, 179, .inl fw)), (h3, .inr (0, [.ref h5, .int (nI cn)])), (h5, .inl (D.1 13, 1600, .inl fc))] s.heap.size = A at hD ⊢
  have hA : ∀ q : Nat, s.heap.size ≤ q → A q := fun q h => by rw [← hAe]; exact Or.inr h
  have hS : va_S A s.heap s.heap [] := va_S.rf
  have zi0 : (0 : Int32).toInt = 0 := rfl
  have zi1 : (1 : Int32).toInt = 1 := rfl
  have zi2 : (2 : Int32).toInt = 2 := rfl
  have zi3 : (3 : Int32).toInt = 3 := rfl
  have zi4 : (4 : Int32).toInt = 4 := rfl
  have hl := lv_entry ([.ref h0]) (n := 3) (Nat.le_of_ble_eq_true rfl)
  rw [lg_entry_eq]
  generalize (lg_sl ([.ref h0]) ++ List.replicate (3 - (lg_sl ([.ref h0])).length) Slot.unset).toArray = ls at hl ⊢
  have hl : lv_has ls 3 [(0, .ref h0)] := hl
  refine lv_aload_n hx hb dX6_readSum_0 rfl (lv_at hl 0 rfl) ?_
  refine zwVv (As := []) (rest := []) (C := RX6) (n := 0) (wr := []) ⟨hx, hb, hml, hown, ht⟩ (k_X6_readProduct l D _ h0 h1 h2 h3 h4 h5 fa pl mo ki wo si op s0 sp n cn f fw fc d ih (by first | decide | omega) (by first | decide | omega) (by first | decide | omega) (by first | decide | omega) (by first | decide | omega) (by first | decide | omega) (by first | decide | omega)) (zgV ml_X6_203 im_X6_readProduct se_X6_readProduct in_X6 co_X6_readProduct) rfl rfl (by decide +kernel) ⟨by show 40 * d + 24 + 1 ≤ 40 * d + 28; omega, by show 8 + (3 + 11) + (2400 * d + 1440) ≤ 2400 * d + 1680; omega⟩ hK hP hD hS hA [0, 1, 2, 3, 4, 5] [] rfl rfl rfl rfl (by decide) 0 rfl rfl rfl rfl hl.1 rfl (Nat.le_of_ble_eq_true rfl) dX6_readSum_1 ⟨Nat.le_of_ble_eq_true rfl, Nat.le_of_ble_eq_true rfl⟩ (fun u_1 H locs hw hP hD hS => ?_)
  obtain ⟨x_3, x_4, x_5, n_6, n_7, x_8, x_9, n_10, f_11⟩ := u_1
  have hP : va_P D vwCl [(h0, .inr (6, [.int x_3, .int x_4, .ref h1, .ref h2, .ref h3, .int mo, .int (nI (op)), .int x_5, .int (nI (n_6)), .int (nI (n_7)), .int x_8, .int x_9])), (h1, .inr (9, [.ref h4, .int (nI (n))])), (h4, .inl (D.1 13, 1600, .inl f)), (h2, .inl (D.1 14, 179, .inl fw)), (h3, .inr (0, [.ref h5, .int (nI (n_10))])), (h5, .inl (D.1 13, 1600, .inl f_11))] H := hP
  have hD : va_D A [(h0, .inr (6, [.int x_3, .int x_4, .ref h1, .ref h2, .ref h3, .int mo, .int (nI (op)), .int x_5, .int (nI (n_6)), .int (nI (n_7)), .int x_8, .int x_9])), (h1, .inr (9, [.ref h4, .int (nI (n))])), (h4, .inl (D.1 13, 1600, .inl f)), (h2, .inl (D.1 14, 179, .inl fw)), (h3, .inr (0, [.ref h5, .int (nI (n_10))])), (h5, .inl (D.1 13, 1600, .inl f_11))] := hD
  have hw_12 : n_6 ≤ n_7 ∧ n_7 ≤ n ∧ sp ≤ n_7 ∧ (¬ x_3.toInt = 0 → x_5.toInt = 0) ∧ n_10 ≤ 1600 := hw
  refine lv_iconst (v := 0) hx hb dX6_readSum_4 (by decide) ?_
  refine lv_istore_n (lv' := [(1, .int 0), (0, .ref h0)]) hx hb dX6_readSum_5 rfl hl (by decide) rfl (fun ls hl => ?_)
  refine z_loop (σ := ((Nat → Int32) × (Int32) × (Int32) × (Int32) × (Nat) × (Nat) × (Int32) × (Int32) × (Nat))) (N := 1600) (fun i u H locs ls => (u.2.2.2.2.1 ≤ u.2.2.2.2.2.1 ∧ u.2.2.2.2.2.1 ≤ n ∧ sp ≤ u.2.2.2.2.2.1 ∧ (¬ u.2.1.toInt = 0 → u.2.2.2.1.toInt = 0) ∧ u.2.2.2.2.2.2.2.2 ≤ 1600) ∧ va_P D vwCl [(h0, .inr (6, [.int u.2.1, .int u.2.2.1, .ref h1, .ref h2, .ref h3, .int mo, .int (nI (op)), .int u.2.2.2.1, .int (nI u.2.2.2.2.1), .int (nI u.2.2.2.2.2.1), .int u.2.2.2.2.2.2.1, .int u.2.2.2.2.2.2.2.1])), (h1, .inr (9, [.ref h4, .int (nI (n))])), (h4, .inl (D.1 13, 1600, .inl f)), (h2, .inl (D.1 14, 179, .inl fw)), (h3, .inr (0, [.ref h5, .int (nI u.2.2.2.2.2.2.2.2)])), (h5, .inl (D.1 13, 1600, .inl u.1))] H ∧ va_D A [(h0, .inr (6, [.int u.2.1, .int u.2.2.1, .ref h1, .ref h2, .ref h3, .int mo, .int (nI (op)), .int u.2.2.2.1, .int (nI u.2.2.2.2.1), .int (nI u.2.2.2.2.2.1), .int u.2.2.2.2.2.2.1, .int u.2.2.2.2.2.2.2.1])), (h1, .inr (9, [.ref h4, .int (nI (n))])), (h4, .inl (D.1 13, 1600, .inl f)), (h2, .inl (D.1 14, 179, .inl fw)), (h3, .inr (0, [.ref h5, .int (nI u.2.2.2.2.2.2.2.2)])), (h5, .inl (D.1 13, 1600, .inl u.1))] ∧ va_S A s.heap H locs ∧ lv_has ls 3 [(1, .int (nI i)), (0, .ref h0)]) (fun i_13 u_23 H locs ls hi_i_13 hI ih_6 => ?_) 0 (f_11, x_3, x_4, x_5, n_6, n_7, x_8, x_9, n_10) (by decide) ⟨(by first | omega | (dsimp only; omega)), hP, hD, hS, lv_sub hl [0, 1] rfl⟩
  obtain ⟨hv_i_13, hP, hD, hS, hl⟩ := hI
  obtain ⟨f_14, x_15, x_16, x_17, n_18, n_19, x_20, x_21, n_22⟩ := u_23
  have hv_i_13 : n_18 ≤ n_19 ∧ n_19 ≤ n ∧ sp ≤ n_19 ∧ (¬ x_15.toInt = 0 → x_17.toInt = 0) ∧ n_22 ≤ 1600 := hv_i_13
  have hP : va_P D vwCl [(h0, .inr (6, [.int x_15, .int x_16, .ref h1, .ref h2, .ref h3, .int mo, .int (nI (op)), .int x_17, .int (nI n_18), .int (nI n_19), .int x_20, .int x_21])), (h1, .inr (9, [.ref h4, .int (nI (n))])), (h4, .inl (D.1 13, 1600, .inl f)), (h2, .inl (D.1 14, 179, .inl fw)), (h3, .inr (0, [.ref h5, .int (nI n_22)])), (h5, .inl (D.1 13, 1600, .inl f_14))] H := hP
  have hD : va_D A [(h0, .inr (6, [.int x_15, .int x_16, .ref h1, .ref h2, .ref h3, .int mo, .int (nI (op)), .int x_17, .int (nI n_18), .int (nI n_19), .int x_20, .int x_21])), (h1, .inr (9, [.ref h4, .int (nI (n))])), (h4, .inl (D.1 13, 1600, .inl f)), (h2, .inl (D.1 14, 179, .inl fw)), (h3, .inr (0, [.ref h5, .int (nI n_22)])), (h5, .inl (D.1 13, 1600, .inl f_14))] := hD
  have hl : lv_has ls 3 [(1, .int (nI i_13)), (0, .ref h0)] := hl
  refine lv_iload_n hx hb dX6_readSum_6 rfl (lv_at hl 0 rfl) ?_
  refine lv_sipush (v := 1600) hx hb dX6_readSum_7 (by decide) ?_
  refine lv_icmp_ge (tgt := 69) hx hb dX6_readSum_10 (by decide) (fun c_24 => ?_) (fun c_24 => ?_)
  · have g_25 : 1600 ≤ ((i_13 : Nat) : Int) := z_le (by decide) (nI_toInt (by omega)) c_24
    obtain rfl : i_13 = 1600 := by omega
    have hP : va_P D vwCl [(h0, .inr (6, [.int x_15, .int x_16, .ref h1, .ref h2, .ref h3, .int mo, .int (nI (op)), .int x_17, .int (nI n_18), .int (nI n_19), .int x_20, .int x_21])), (h1, .inr (9, [.ref h4, .int (nI (n))])), (h4, .inl (D.1 13, 1600, .inl f)), (h2, .inl (D.1 14, 179, .inl fw)), (h3, .inr (0, [.ref h5, .int (nI n_22)])), (h5, .inl (D.1 13, 1600, .inl f_14))] H := hP
    have hD : va_D A [(h0, .inr (6, [.int x_15, .int x_16, .ref h1, .ref h2, .ref h3, .int mo, .int (nI (op)), .int x_17, .int (nI n_18), .int (nI n_19), .int x_20, .int x_21])), (h1, .inr (9, [.ref h4, .int (nI (n))])), (h4, .inl (D.1 13, 1600, .inl f)), (h2, .inl (D.1 14, 179, .inl fw)), (h3, .inr (0, [.ref h5, .int (nI n_22)])), (h5, .inl (D.1 13, 1600, .inl f_14))] := hD
    have hl : lv_has ls 3 [(1, .int 1600), (0, .ref h0)] := hl
    have hP9 := hP.sub (ws' := [(h0, .inr (6, [.int x_15, .int x_16, .ref h1, .ref h2, .ref h3, .int mo, .int (nI op), .int x_17, .int (nI n_18), .int (nI n_19), .int x_20, .int x_21])), (h1, .inr (9, [.ref h4, .int (nI n)])), (h4, .inl (D.1 13, 1600, .inl f)), (h2, .inl (D.1 14, 179, .inl fw)), (h3, .inr (0, [.ref h5, .int (nI n_22)])), (h5, .inl (D.1 13, 1600, .inl f_14))]) [0, 1, 2, 3, 4, 5] rfl
    have hD9 := hD.sub (ws' := [(h0, .inr (6, [.int x_15, .int x_16, .ref h1, .ref h2, .ref h3, .int mo, .int (nI op), .int x_17, .int (nI n_18), .int (nI n_19), .int x_20, .int x_21])), (h1, .inr (9, [.ref h4, .int (nI n)])), (h4, .inl (D.1 13, 1600, .inl f)), (h2, .inl (D.1 14, 179, .inl fw)), (h3, .inr (0, [.ref h5, .int (nI n_22)])), (h5, .inl (D.1 13, 1600, .inl f_14))]) [0, 1, 2, 3, 4, 5] (by decide) rfl
    refine W.widen (k := 0) (n := 0) (Nat.le_of_ble_eq_true rfl) (Nat.le_of_ble_eq_true rfl) ?_
    exact W.vret hx hb hr (fun t ht hW => ⟨⟨(x_15, x_16, x_17, n_18, n_19, x_20, x_21, n_22, f_14), rfl, (by first | omega | (dsimp only; omega)), by rw [ht]; exact hP9, va_K.moved hW.alike hK, hD9⟩, hS.F ht⟩) hS.2.2 dX6_readSum_69
  · have g_25 : ((i_13 : Nat) : Int) < 1600 := z_nle (by decide) (nI_toInt (by omega)) c_24
    refine lv_aload_n hx hb dX6_readSum_13 rfl (lv_at hl 1 rfl) ?_
    refine lv_bipush (v := 43) hx hb dX6_readSum_14 (by decide) ?_
    have en_26 : (43 : Int32).toInt = 43 := by decide
    refine zcV (As := [.int 43]) (rest := []) (C := RX6) (n := 1) ⟨hx, hb, hml, hown, ht⟩ (k_X6_isSign l D h0 h1 h2 h3 x_15 x_16 mo x_17 x_20 x_21 op n_18 n_19 43) (zgV ml_X6_124 im_X6_isSign se_X6_isSign in_X6 co_X6_isSign) rfl rfl (by decide +kernel) ⟨by show 0 + 1 ≤ 40 * d + 28; omega, by show 8 + (2 + 11) + 0 ≤ 2400 * d + 1680; omega⟩ hK hP hS [0] rfl 0 rfl rfl rfl rfl hl.1 rfl (Nat.le_of_ble_eq_true rfl) dX6_readSum_16 ⟨Nat.le_of_ble_eq_true rfl, Nat.le_of_ble_eq_true rfl⟩ (fun r_27 H locs hw hP hS => ?_)
    rcases hw with ⟨rfl, g_28⟩ | ⟨rfl, g_29⟩
    · skip
      refine lv_if_ne (tgt := 31) hx hb dX6_readSum_19 (by decide) (fun _ => ?_) (fun c_30 => (z_abs c_30 (by decide)).elim)
      refine lv_aload_n hx hb dX6_readSum_31 rfl (lv_at hl 1 rfl) ?_
      refine lv_bipush (v := 43) hx hb dX6_readSum_32 (by decide) ?_
      have en_32 : (43 : Int32).toInt = 43 := by decide
      refine zcV (As := [.int 43]) (rest := []) (C := RX6) (n := 1) ⟨hx, hb, hml, hown, ht⟩ (k_X6_isSign l D h0 h1 h2 h3 x_15 x_16 mo x_17 x_20 x_21 op n_18 n_19 43) (zgV ml_X6_124 im_X6_isSign se_X6_isSign in_X6 co_X6_isSign) rfl rfl (by decide +kernel) ⟨by show 0 + 1 ≤ 40 * d + 28; omega, by show 8 + (2 + 11) + 0 ≤ 2400 * d + 1680; omega⟩ hK hP hS [0] rfl 0 rfl rfl rfl rfl hl.1 rfl (Nat.le_of_ble_eq_true rfl) dX6_readSum_34 ⟨Nat.le_of_ble_eq_true rfl, Nat.le_of_ble_eq_true rfl⟩ (fun r_33 H locs hw hP hS => ?_)
      rcases hw with ⟨rfl, g_34⟩ | ⟨rfl, g_35⟩
      · skip
        refine lv_if_eq (tgt := 44) hx hb dX6_readSum_37 (by decide) (fun c_36 => (z_abs c_36 (by decide)).elim) (fun _ => ?_)
        refine lv_iconst (v := (-1)) hx hb dX6_readSum_40 (by decide) ?_
        refine lv_goto (tgt := 46) hx hb dX6_readSum_41 (by decide) ?_
        refine lv_istore_n (lv' := [(2, .int (-1)), (1, .int (nI i_13)), (0, .ref h0)]) hx hb dX6_readSum_46 rfl hl (by decide) rfl (fun ls hl => ?_)
        refine lv_aload_n hx hb dX6_readSum_47 rfl (lv_at hl 2 rfl) ?_
        refine zwVv (As := []) (rest := []) (C := RX6) (n := 0) (wr := [(h3, .inr (0, [.ref h5, .int (nI n_22)])), (h5, .inl (D.1 13, 1600, .inl f_14))]) ⟨hx, hb, hml, hown, ht⟩ (k_X6_advance l D _ h0 h1 h2 h3 h4 x_15 x_16 mo x_17 x_20 x_21 op n_18 n_19 n f fw (by first | decide | omega) (by first | decide | omega) (by first | decide | omega) (by first | decide | omega)) (zgV ml_X6_75 im_X6_advance se_X6_advance in_X6 co_X6_advance) rfl rfl (by decide +kernel) ⟨by show 1 + 1 ≤ 40 * d + 28; omega, by show 8 + (2 + 11) + 60 ≤ 2400 * d + 1680; omega⟩ hK hP hD hS hA [0, 1, 2, 3] [4, 5] rfl rfl rfl rfl (by decide) 0 rfl rfl rfl rfl hl.1 rfl (Nat.le_of_ble_eq_true rfl) dX6_readSum_48 ⟨Nat.le_of_ble_eq_true rfl, Nat.le_of_ble_eq_true rfl⟩ (fun u_38 H locs hw hP hD hS => ?_)
        obtain ⟨x_40, n_41, n_42, x_43, x_44⟩ := u_38
        have hP : va_P D vwCl [(h3, .inr (0, [.ref h5, .int (nI n_22)])), (h5, .inl (D.1 13, 1600, .inl f_14)), (h0, .inr (6, [.int x_15, .int x_16, .ref h1, .ref h2, .ref h3, .int mo, .int (nI (op)), .int x_40, .int (nI (n_41)), .int (nI (n_42)), .int x_43, .int x_44])), (h1, .inr (9, [.ref h4, .int (nI (n))])), (h4, .inl (D.1 13, 1600, .inl f)), (h2, .inl (D.1 14, 179, .inl fw))] H := hP
        have hD : va_D A [(h3, .inr (0, [.ref h5, .int (nI n_22)])), (h5, .inl (D.1 13, 1600, .inl f_14)), (h0, .inr (6, [.int x_15, .int x_16, .ref h1, .ref h2, .ref h3, .int mo, .int (nI (op)), .int x_40, .int (nI (n_41)), .int (nI (n_42)), .int x_43, .int x_44])), (h1, .inr (9, [.ref h4, .int (nI (n))])), (h4, .inl (D.1 13, 1600, .inl f)), (h2, .inl (D.1 14, 179, .inl fw))] := hD
        have hw_45 : n_41 ≤ n_42 ∧ n_42 ≤ n ∧ n_19 ≤ n_42 ∧ (x_40.toInt = 0 ∨ (n_19 < n_42 ∧ n_41 < n_42)) ∧ (¬ x_15.toInt = 0 → x_40.toInt = 0) := hw
        refine lv_aload_n hx hb dX6_readSum_51 rfl (lv_at hl 2 rfl) ?_
        refine zwVv (As := []) (rest := []) (C := RX6) (n := 0) (wr := []) ⟨hx, hb, hml, hown, ht⟩ (k_X6_readProduct l D _ h0 h1 h2 h3 h4 h5 x_15 x_16 mo x_40 x_43 x_44 op n_41 n_42 n n_22 f fw f_14 d ih (by first | decide | omega) (by first | decide | omega) (by first | decide | omega) (by first | decide | omega) (by first | decide | omega) (by first | decide | omega) (by first | decide | omega)) (zgV ml_X6_203 im_X6_readProduct se_X6_readProduct in_X6 co_X6_readProduct) rfl rfl (by decide +kernel) ⟨by show 40 * d + 24 + 1 ≤ 40 * d + 28; omega, by show 8 + (3 + 11) + (2400 * d + 1440) ≤ 2400 * d + 1680; omega⟩ hK hP hD hS hA [2, 3, 4, 5, 0, 1] [] rfl rfl rfl rfl (by decide) 0 rfl rfl rfl rfl hl.1 rfl (Nat.le_of_ble_eq_true rfl) dX6_readSum_52 ⟨Nat.le_of_ble_eq_true rfl, Nat.le_of_ble_eq_true rfl⟩ (fun u_46 H locs hw hP hD hS => ?_)
        obtain ⟨x_48, x_49, x_50, n_51, n_52, x_53, x_54, n_55, f_56⟩ := u_46
        have hP : va_P D vwCl [(h0, .inr (6, [.int x_48, .int x_49, .ref h1, .ref h2, .ref h3, .int mo, .int (nI (op)), .int x_50, .int (nI (n_51)), .int (nI (n_52)), .int x_53, .int x_54])), (h1, .inr (9, [.ref h4, .int (nI (n))])), (h4, .inl (D.1 13, 1600, .inl f)), (h2, .inl (D.1 14, 179, .inl fw)), (h3, .inr (0, [.ref h5, .int (nI (n_55))])), (h5, .inl (D.1 13, 1600, .inl f_56))] H := hP
        have hD : va_D A [(h0, .inr (6, [.int x_48, .int x_49, .ref h1, .ref h2, .ref h3, .int mo, .int (nI (op)), .int x_50, .int (nI (n_51)), .int (nI (n_52)), .int x_53, .int x_54])), (h1, .inr (9, [.ref h4, .int (nI (n))])), (h4, .inl (D.1 13, 1600, .inl f)), (h2, .inl (D.1 14, 179, .inl fw)), (h3, .inr (0, [.ref h5, .int (nI (n_55))])), (h5, .inl (D.1 13, 1600, .inl f_56))] := hD
        have hw_57 : n_51 ≤ n_52 ∧ n_52 ≤ n ∧ n_42 ≤ n_52 ∧ (¬ x_48.toInt = 0 → x_50.toInt = 0) ∧ n_55 ≤ 1600 := hw
        refine lv_aload_n hx hb dX6_readSum_55 rfl (lv_at hl 2 rfl) ?_
        refine va_get (D := D) (ci := 6) (v := .ref h3) (C := RX6) (T := TX6) (N := 12) hx hb ht inX6 hown hK hP 0 rfl rfl 4 (by decide) (ht (.fieldLink RX6 84 "CloneVolumes$Reader" "code" "LCloneVolumes$Code;") fl_X6_84) (fun _ h9 => h9) rfl dX6_readSum_56 ?_
        refine lv_iload_n hx hb dX6_readSum_59 rfl (lv_at hl 0 rfl) ?_
        have en_58 : ((-1) : Int32).toInt = (-1) := by decide
        refine zwVv (As := [.int (-1)]) (rest := []) (C := RX0) (n := 1) (wr := [(h0, .inr (6, [.int x_48, .int x_49, .ref h1, .ref h2, .ref h3, .int mo, .int (nI (op)), .int x_50, .int (nI (n_51)), .int (nI (n_52)), .int x_53, .int x_54])), (h1, .inr (9, [.ref h4, .int (nI (n))])), (h4, .inl (D.1 13, 1600, .inl f)), (h2, .inl (D.1 14, 179, .inl fw))]) ⟨hx, hb, hml, hown, ht⟩ (k_X0_add l D _ h3 h5 n_55 f_56 (-1) (by first | decide | omega)) (zgV ml_X6_191 im_X0_add se_X0_add in_X0 co_X0_add) rfl rfl (by decide +kernel) ⟨by show 0 + 1 ≤ 40 * d + 28; omega, by show 8 + (2 + 11) + 0 ≤ 2400 * d + 1680; omega⟩ hK hP hD hS hA [4, 5] [0, 1, 2, 3] rfl rfl rfl rfl (by decide) 0 rfl rfl rfl rfl hl.1 rfl (Nat.le_of_ble_eq_true rfl) dX6_readSum_60 ⟨Nat.le_of_ble_eq_true rfl, Nat.le_of_ble_eq_true rfl⟩ (fun u_59 H locs hw hP hD hS => ?_)
        obtain ⟨n_61, f_62⟩ := u_59
        have hP : va_P D vwCl [(h0, .inr (6, [.int x_48, .int x_49, .ref h1, .ref h2, .ref h3, .int mo, .int (nI (op)), .int x_50, .int (nI (n_51)), .int (nI (n_52)), .int x_53, .int x_54])), (h1, .inr (9, [.ref h4, .int (nI (n))])), (h4, .inl (D.1 13, 1600, .inl f)), (h2, .inl (D.1 14, 179, .inl fw)), (h3, .inr (0, [.ref h5, .int (nI (n_61))])), (h5, .inl (D.1 13, 1600, .inl f_62))] H := hP
        have hD : va_D A [(h0, .inr (6, [.int x_48, .int x_49, .ref h1, .ref h2, .ref h3, .int mo, .int (nI (op)), .int x_50, .int (nI (n_51)), .int (nI (n_52)), .int x_53, .int x_54])), (h1, .inr (9, [.ref h4, .int (nI (n))])), (h4, .inl (D.1 13, 1600, .inl f)), (h2, .inl (D.1 14, 179, .inl fw)), (h3, .inr (0, [.ref h5, .int (nI (n_61))])), (h5, .inl (D.1 13, 1600, .inl f_62))] := hD
        have hw_63 : n_61 ≤ 1600 := hw
        refine lv_iinc (v := nI (i_13 + 1)) (lv' := [(1, .int (nI (i_13 + 1))), (2, .int (-1)), (0, .ref h0)]) hx hb dX6_readSum_63 hl (k := 1) rfl (z_inc _) (by decide) rfl (fun ls hl => ?_)
        refine lv_goto (tgt := 6) hx hb dX6_readSum_66 (by decide) ?_
        exact ih_6 (f_62, x_48, x_49, x_50, n_51, n_52, x_53, x_54, n_61) _ _ _ (by omega) ⟨(by first | omega | (dsimp only; omega)), hP.sub [0, 1, 2, 3, 4, 5] rfl, hD.sub [0, 1, 2, 3, 4, 5] (by decide) rfl, hS, lv_sub hl [0, 2] rfl⟩
      · skip
        refine lv_if_eq (tgt := 44) hx hb dX6_readSum_37 (by decide) (fun _ => ?_) (fun c_64 => (z_abs c_64 (by decide)).elim)
        refine lv_bipush (v := (-2)) hx hb dX6_readSum_44 (by decide) ?_
        refine lv_istore_n (lv' := [(2, .int (-2)), (1, .int (nI i_13)), (0, .ref h0)]) hx hb dX6_readSum_46 rfl hl (by decide) rfl (fun ls hl => ?_)
        refine lv_aload_n hx hb dX6_readSum_47 rfl (lv_at hl 2 rfl) ?_
        refine zwVv (As := []) (rest := []) (C := RX6) (n := 0) (wr := [(h3, .inr (0, [.ref h5, .int (nI n_22)])), (h5, .inl (D.1 13, 1600, .inl f_14))]) ⟨hx, hb, hml, hown, ht⟩ (k_X6_advance l D _ h0 h1 h2 h3 h4 x_15 x_16 mo x_17 x_20 x_21 op n_18 n_19 n f fw (by first | decide | omega) (by first | decide | omega) (by first | decide | omega) (by first | decide | omega)) (zgV ml_X6_75 im_X6_advance se_X6_advance in_X6 co_X6_advance) rfl rfl (by decide +kernel) ⟨by show 1 + 1 ≤ 40 * d + 28; omega, by show 8 + (2 + 11) + 60 ≤ 2400 * d + 1680; omega⟩ hK hP hD hS hA [0, 1, 2, 3] [4, 5] rfl rfl rfl rfl (by decide) 0 rfl rfl rfl rfl hl.1 rfl (Nat.le_of_ble_eq_true rfl) dX6_readSum_48 ⟨Nat.le_of_ble_eq_true rfl, Nat.le_of_ble_eq_true rfl⟩ (fun u_66 H locs hw hP hD hS => ?_)
        obtain ⟨x_68, n_69, n_70, x_71, x_72⟩ := u_66
        have hP : va_P D vwCl [(h3, .inr (0, [.ref h5, .int (nI n_22)])), (h5, .inl (D.1 13, 1600, .inl f_14)), (h0, .inr (6, [.int x_15, .int x_16, .ref h1, .ref h2, .ref h3, .int mo, .int (nI (op)), .int x_68, .int (nI (n_69)), .int (nI (n_70)), .int x_71, .int x_72])), (h1, .inr (9, [.ref h4, .int (nI (n))])), (h4, .inl (D.1 13, 1600, .inl f)), (h2, .inl (D.1 14, 179, .inl fw))] H := hP
        have hD : va_D A [(h3, .inr (0, [.ref h5, .int (nI n_22)])), (h5, .inl (D.1 13, 1600, .inl f_14)), (h0, .inr (6, [.int x_15, .int x_16, .ref h1, .ref h2, .ref h3, .int mo, .int (nI (op)), .int x_68, .int (nI (n_69)), .int (nI (n_70)), .int x_71, .int x_72])), (h1, .inr (9, [.ref h4, .int (nI (n))])), (h4, .inl (D.1 13, 1600, .inl f)), (h2, .inl (D.1 14, 179, .inl fw))] := hD
        have hw_73 : n_69 ≤ n_70 ∧ n_70 ≤ n ∧ n_19 ≤ n_70 ∧ (x_68.toInt = 0 ∨ (n_19 < n_70 ∧ n_69 < n_70)) ∧ (¬ x_15.toInt = 0 → x_68.toInt = 0) := hw
        refine lv_aload_n hx hb dX6_readSum_51 rfl (lv_at hl 2 rfl) ?_
        refine zwVv (As := []) (rest := []) (C := RX6) (n := 0) (wr := []) ⟨hx, hb, hml, hown, ht⟩ (k_X6_readProduct l D _ h0 h1 h2 h3 h4 h5 x_15 x_16 mo x_68 x_71 x_72 op n_69 n_70 n n_22 f fw f_14 d ih (by first | decide | omega) (by first | decide | omega) (by first | decide | omega) (by first | decide | omega) (by first | decide | omega) (by first | decide | omega) (by first | decide | omega)) (zgV ml_X6_203 im_X6_readProduct se_X6_readProduct in_X6 co_X6_readProduct) rfl rfl (by decide +kernel) ⟨by show 40 * d + 24 + 1 ≤ 40 * d + 28; omega, by show 8 + (3 + 11) + (2400 * d + 1440) ≤ 2400 * d + 1680; omega⟩ hK hP hD hS hA [2, 3, 4, 5, 0, 1] [] rfl rfl rfl rfl (by decide) 0 rfl rfl rfl rfl hl.1 rfl (Nat.le_of_ble_eq_true rfl) dX6_readSum_52 ⟨Nat.le_of_ble_eq_true rfl, Nat.le_of_ble_eq_true rfl⟩ (fun u_74 H locs hw hP hD hS => ?_)
        obtain ⟨x_76, x_77, x_78, n_79, n_80, x_81, x_82, n_83, f_84⟩ := u_74
        have hP : va_P D vwCl [(h0, .inr (6, [.int x_76, .int x_77, .ref h1, .ref h2, .ref h3, .int mo, .int (nI (op)), .int x_78, .int (nI (n_79)), .int (nI (n_80)), .int x_81, .int x_82])), (h1, .inr (9, [.ref h4, .int (nI (n))])), (h4, .inl (D.1 13, 1600, .inl f)), (h2, .inl (D.1 14, 179, .inl fw)), (h3, .inr (0, [.ref h5, .int (nI (n_83))])), (h5, .inl (D.1 13, 1600, .inl f_84))] H := hP
        have hD : va_D A [(h0, .inr (6, [.int x_76, .int x_77, .ref h1, .ref h2, .ref h3, .int mo, .int (nI (op)), .int x_78, .int (nI (n_79)), .int (nI (n_80)), .int x_81, .int x_82])), (h1, .inr (9, [.ref h4, .int (nI (n))])), (h4, .inl (D.1 13, 1600, .inl f)), (h2, .inl (D.1 14, 179, .inl fw)), (h3, .inr (0, [.ref h5, .int (nI (n_83))])), (h5, .inl (D.1 13, 1600, .inl f_84))] := hD
        have hw_85 : n_79 ≤ n_80 ∧ n_80 ≤ n ∧ n_70 ≤ n_80 ∧ (¬ x_76.toInt = 0 → x_78.toInt = 0) ∧ n_83 ≤ 1600 := hw
        refine lv_aload_n hx hb dX6_readSum_55 rfl (lv_at hl 2 rfl) ?_
        refine va_get (D := D) (ci := 6) (v := .ref h3) (C := RX6) (T := TX6) (N := 12) hx hb ht inX6 hown hK hP 0 rfl rfl 4 (by decide) (ht (.fieldLink RX6 84 "CloneVolumes$Reader" "code" "LCloneVolumes$Code;") fl_X6_84) (fun _ h9 => h9) rfl dX6_readSum_56 ?_
        refine lv_iload_n hx hb dX6_readSum_59 rfl (lv_at hl 0 rfl) ?_
        have en_86 : ((-2) : Int32).toInt = (-2) := by decide
        refine zwVv (As := [.int (-2)]) (rest := []) (C := RX0) (n := 1) (wr := [(h0, .inr (6, [.int x_76, .int x_77, .ref h1, .ref h2, .ref h3, .int mo, .int (nI (op)), .int x_78, .int (nI (n_79)), .int (nI (n_80)), .int x_81, .int x_82])), (h1, .inr (9, [.ref h4, .int (nI (n))])), (h4, .inl (D.1 13, 1600, .inl f)), (h2, .inl (D.1 14, 179, .inl fw))]) ⟨hx, hb, hml, hown, ht⟩ (k_X0_add l D _ h3 h5 n_83 f_84 (-2) (by first | decide | omega)) (zgV ml_X6_191 im_X0_add se_X0_add in_X0 co_X0_add) rfl rfl (by decide +kernel) ⟨by show 0 + 1 ≤ 40 * d + 28; omega, by show 8 + (2 + 11) + 0 ≤ 2400 * d + 1680; omega⟩ hK hP hD hS hA [4, 5] [0, 1, 2, 3] rfl rfl rfl rfl (by decide) 0 rfl rfl rfl rfl hl.1 rfl (Nat.le_of_ble_eq_true rfl) dX6_readSum_60 ⟨Nat.le_of_ble_eq_true rfl, Nat.le_of_ble_eq_true rfl⟩ (fun u_87 H locs hw hP hD hS => ?_)
        obtain ⟨n_89, f_90⟩ := u_87
        have hP : va_P D vwCl [(h0, .inr (6, [.int x_76, .int x_77, .ref h1, .ref h2, .ref h3, .int mo, .int (nI (op)), .int x_78, .int (nI (n_79)), .int (nI (n_80)), .int x_81, .int x_82])), (h1, .inr (9, [.ref h4, .int (nI (n))])), (h4, .inl (D.1 13, 1600, .inl f)), (h2, .inl (D.1 14, 179, .inl fw)), (h3, .inr (0, [.ref h5, .int (nI (n_89))])), (h5, .inl (D.1 13, 1600, .inl f_90))] H := hP
        have hD : va_D A [(h0, .inr (6, [.int x_76, .int x_77, .ref h1, .ref h2, .ref h3, .int mo, .int (nI (op)), .int x_78, .int (nI (n_79)), .int (nI (n_80)), .int x_81, .int x_82])), (h1, .inr (9, [.ref h4, .int (nI (n))])), (h4, .inl (D.1 13, 1600, .inl f)), (h2, .inl (D.1 14, 179, .inl fw)), (h3, .inr (0, [.ref h5, .int (nI (n_89))])), (h5, .inl (D.1 13, 1600, .inl f_90))] := hD
        have hw_91 : n_89 ≤ 1600 := hw
        refine lv_iinc (v := nI (i_13 + 1)) (lv' := [(1, .int (nI (i_13 + 1))), (2, .int (-2)), (0, .ref h0)]) hx hb dX6_readSum_63 hl (k := 1) rfl (z_inc _) (by decide) rfl (fun ls hl => ?_)
        refine lv_goto (tgt := 6) hx hb dX6_readSum_66 (by decide) ?_
        exact ih_6 (f_90, x_76, x_77, x_78, n_79, n_80, x_81, x_82, n_89) _ _ _ (by omega) ⟨(by first | omega | (dsimp only; omega)), hP.sub [0, 1, 2, 3, 4, 5] rfl, hD.sub [0, 1, 2, 3, 4, 5] (by decide) rfl, hS, lv_sub hl [0, 2] rfl⟩
    · skip
      refine lv_if_ne (tgt := 31) hx hb dX6_readSum_19 (by decide) (fun c_92 => (z_abs c_92 (by decide)).elim) (fun _ => ?_)
      refine lv_aload_n hx hb dX6_readSum_22 rfl (lv_at hl 1 rfl) ?_
      refine lv_bipush (v := 45) hx hb dX6_readSum_23 (by decide) ?_
      have en_94 : (45 : Int32).toInt = 45 := by decide
      refine zcV (As := [.int 45]) (rest := []) (C := RX6) (n := 1) ⟨hx, hb, hml, hown, ht⟩ (k_X6_isSign l D h0 h1 h2 h3 x_15 x_16 mo x_17 x_20 x_21 op n_18 n_19 45) (zgV ml_X6_124 im_X6_isSign se_X6_isSign in_X6 co_X6_isSign) rfl rfl (by decide +kernel) ⟨by show 0 + 1 ≤ 40 * d + 28; omega, by show 8 + (2 + 11) + 0 ≤ 2400 * d + 1680; omega⟩ hK hP hS [0] rfl 0 rfl rfl rfl rfl hl.1 rfl (Nat.le_of_ble_eq_true rfl) dX6_readSum_25 ⟨Nat.le_of_ble_eq_true rfl, Nat.le_of_ble_eq_true rfl⟩ (fun r_95 H locs hw hP hS => ?_)
      rcases hw with ⟨rfl, g_96⟩ | ⟨rfl, g_97⟩
      · skip
        refine lv_if_eq (tgt := 69) hx hb dX6_readSum_28 (by decide) (fun c_98 => (z_abs c_98 (by decide)).elim) (fun _ => ?_)
        refine lv_aload_n hx hb dX6_readSum_31 rfl (lv_at hl 1 rfl) ?_
        refine lv_bipush (v := 43) hx hb dX6_readSum_32 (by decide) ?_
        have en_100 : (43 : Int32).toInt = 43 := by decide
        refine zcV (As := [.int 43]) (rest := []) (C := RX6) (n := 1) ⟨hx, hb, hml, hown, ht⟩ (k_X6_isSign l D h0 h1 h2 h3 x_15 x_16 mo x_17 x_20 x_21 op n_18 n_19 43) (zgV ml_X6_124 im_X6_isSign se_X6_isSign in_X6 co_X6_isSign) rfl rfl (by decide +kernel) ⟨by show 0 + 1 ≤ 40 * d + 28; omega, by show 8 + (2 + 11) + 0 ≤ 2400 * d + 1680; omega⟩ hK hP hS [0] rfl 0 rfl rfl rfl rfl hl.1 rfl (Nat.le_of_ble_eq_true rfl) dX6_readSum_34 ⟨Nat.le_of_ble_eq_true rfl, Nat.le_of_ble_eq_true rfl⟩ (fun r_101 H locs hw hP hS => ?_)
        rcases hw with ⟨rfl, g_102⟩ | ⟨rfl, g_103⟩
        · skip
          refine lv_if_eq (tgt := 44) hx hb dX6_readSum_37 (by decide) (fun c_104 => (z_abs c_104 (by decide)).elim) (fun _ => ?_)
          refine lv_iconst (v := (-1)) hx hb dX6_readSum_40 (by decide) ?_
          refine lv_goto (tgt := 46) hx hb dX6_readSum_41 (by decide) ?_
          refine lv_istore_n (lv' := [(2, .int (-1)), (1, .int (nI i_13)), (0, .ref h0)]) hx hb dX6_readSum_46 rfl hl (by decide) rfl (fun ls hl => ?_)
          refine lv_aload_n hx hb dX6_readSum_47 rfl (lv_at hl 2 rfl) ?_
          refine zwVv (As := []) (rest := []) (C := RX6) (n := 0) (wr := [(h3, .inr (0, [.ref h5, .int (nI n_22)])), (h5, .inl (D.1 13, 1600, .inl f_14))]) ⟨hx, hb, hml, hown, ht⟩ (k_X6_advance l D _ h0 h1 h2 h3 h4 x_15 x_16 mo x_17 x_20 x_21 op n_18 n_19 n f fw (by first | decide | omega) (by first | decide | omega) (by first | decide | omega) (by first | decide | omega)) (zgV ml_X6_75 im_X6_advance se_X6_advance in_X6 co_X6_advance) rfl rfl (by decide +kernel) ⟨by show 1 + 1 ≤ 40 * d + 28; omega, by show 8 + (2 + 11) + 60 ≤ 2400 * d + 1680; omega⟩ hK hP hD hS hA [0, 1, 2, 3] [4, 5] rfl rfl rfl rfl (by decide) 0 rfl rfl rfl rfl hl.1 rfl (Nat.le_of_ble_eq_true rfl) dX6_readSum_48 ⟨Nat.le_of_ble_eq_true rfl, Nat.le_of_ble_eq_true rfl⟩ (fun u_106 H locs hw hP hD hS => ?_)
          obtain ⟨x_108, n_109, n_110, x_111, x_112⟩ := u_106
          have hP : va_P D vwCl [(h3, .inr (0, [.ref h5, .int (nI n_22)])), (h5, .inl (D.1 13, 1600, .inl f_14)), (h0, .inr (6, [.int x_15, .int x_16, .ref h1, .ref h2, .ref h3, .int mo, .int (nI (op)), .int x_108, .int (nI (n_109)), .int (nI (n_110)), .int x_111, .int x_112])), (h1, .inr (9, [.ref h4, .int (nI (n))])), (h4, .inl (D.1 13, 1600, .inl f)), (h2, .inl (D.1 14, 179, .inl fw))] H := hP
          have hD : va_D A [(h3, .inr (0, [.ref h5, .int (nI n_22)])), (h5, .inl (D.1 13, 1600, .inl f_14)), (h0, .inr (6, [.int x_15, .int x_16, .ref h1, .ref h2, .ref h3, .int mo, .int (nI (op)), .int x_108, .int (nI (n_109)), .int (nI (n_110)), .int x_111, .int x_112])), (h1, .inr (9, [.ref h4, .int (nI (n))])), (h4, .inl (D.1 13, 1600, .inl f)), (h2, .inl (D.1 14, 179, .inl fw))] := hD
          have hw_113 : n_109 ≤ n_110 ∧ n_110 ≤ n ∧ n_19 ≤ n_110 ∧ (x_108.toInt = 0 ∨ (n_19 < n_110 ∧ n_109 < n_110)) ∧ (¬ x_15.toInt = 0 → x_108.toInt = 0) := hw
          refine lv_aload_n hx hb dX6_readSum_51 rfl (lv_at hl 2 rfl) ?_
          refine zwVv (As := []) (rest := []) (C := RX6) (n := 0) (wr := []) ⟨hx, hb, hml, hown, ht⟩ (k_X6_readProduct l D _ h0 h1 h2 h3 h4 h5 x_15 x_16 mo x_108 x_111 x_112 op n_109 n_110 n n_22 f fw f_14 d ih (by first | decide | omega) (by first | decide | omega) (by first | decide | omega) (by first | decide | omega) (by first | decide | omega) (by first | decide | omega) (by first | decide | omega)) (zgV ml_X6_203 im_X6_readProduct se_X6_readProduct in_X6 co_X6_readProduct) rfl rfl (by decide +kernel) ⟨by show 40 * d + 24 + 1 ≤ 40 * d + 28; omega, by show 8 + (3 + 11) + (2400 * d + 1440) ≤ 2400 * d + 1680; omega⟩ hK hP hD hS hA [2, 3, 4, 5, 0, 1] [] rfl rfl rfl rfl (by decide) 0 rfl rfl rfl rfl hl.1 rfl (Nat.le_of_ble_eq_true rfl) dX6_readSum_52 ⟨Nat.le_of_ble_eq_true rfl, Nat.le_of_ble_eq_true rfl⟩ (fun u_114 H locs hw hP hD hS => ?_)
          obtain ⟨x_116, x_117, x_118, n_119, n_120, x_121, x_122, n_123, f_124⟩ := u_114
          have hP : va_P D vwCl [(h0, .inr (6, [.int x_116, .int x_117, .ref h1, .ref h2, .ref h3, .int mo, .int (nI (op)), .int x_118, .int (nI (n_119)), .int (nI (n_120)), .int x_121, .int x_122])), (h1, .inr (9, [.ref h4, .int (nI (n))])), (h4, .inl (D.1 13, 1600, .inl f)), (h2, .inl (D.1 14, 179, .inl fw)), (h3, .inr (0, [.ref h5, .int (nI (n_123))])), (h5, .inl (D.1 13, 1600, .inl f_124))] H := hP
          have hD : va_D A [(h0, .inr (6, [.int x_116, .int x_117, .ref h1, .ref h2, .ref h3, .int mo, .int (nI (op)), .int x_118, .int (nI (n_119)), .int (nI (n_120)), .int x_121, .int x_122])), (h1, .inr (9, [.ref h4, .int (nI (n))])), (h4, .inl (D.1 13, 1600, .inl f)), (h2, .inl (D.1 14, 179, .inl fw)), (h3, .inr (0, [.ref h5, .int (nI (n_123))])), (h5, .inl (D.1 13, 1600, .inl f_124))] := hD
          have hw_125 : n_119 ≤ n_120 ∧ n_120 ≤ n ∧ n_110 ≤ n_120 ∧ (¬ x_116.toInt = 0 → x_118.toInt = 0) ∧ n_123 ≤ 1600 := hw
          refine lv_aload_n hx hb dX6_readSum_55 rfl (lv_at hl 2 rfl) ?_
          refine va_get (D := D) (ci := 6) (v := .ref h3) (C := RX6) (T := TX6) (N := 12) hx hb ht inX6 hown hK hP 0 rfl rfl 4 (by decide) (ht (.fieldLink RX6 84 "CloneVolumes$Reader" "code" "LCloneVolumes$Code;") fl_X6_84) (fun _ h9 => h9) rfl dX6_readSum_56 ?_
          refine lv_iload_n hx hb dX6_readSum_59 rfl (lv_at hl 0 rfl) ?_
          have en_126 : ((-1) : Int32).toInt = (-1) := by decide
          refine zwVv (As := [.int (-1)]) (rest := []) (C := RX0) (n := 1) (wr := [(h0, .inr (6, [.int x_116, .int x_117, .ref h1, .ref h2, .ref h3, .int mo, .int (nI (op)), .int x_118, .int (nI (n_119)), .int (nI (n_120)), .int x_121, .int x_122])), (h1, .inr (9, [.ref h4, .int (nI (n))])), (h4, .inl (D.1 13, 1600, .inl f)), (h2, .inl (D.1 14, 179, .inl fw))]) ⟨hx, hb, hml, hown, ht⟩ (k_X0_add l D _ h3 h5 n_123 f_124 (-1) (by first | decide | omega)) (zgV ml_X6_191 im_X0_add se_X0_add in_X0 co_X0_add) rfl rfl (by decide +kernel) ⟨by show 0 + 1 ≤ 40 * d + 28; omega, by show 8 + (2 + 11) + 0 ≤ 2400 * d + 1680; omega⟩ hK hP hD hS hA [4, 5] [0, 1, 2, 3] rfl rfl rfl rfl (by decide) 0 rfl rfl rfl rfl hl.1 rfl (Nat.le_of_ble_eq_true rfl) dX6_readSum_60 ⟨Nat.le_of_ble_eq_true rfl, Nat.le_of_ble_eq_true rfl⟩ (fun u_127 H locs hw hP hD hS => ?_)
          obtain ⟨n_129, f_130⟩ := u_127
          have hP : va_P D vwCl [(h0, .inr (6, [.int x_116, .int x_117, .ref h1, .ref h2, .ref h3, .int mo, .int (nI (op)), .int x_118, .int (nI (n_119)), .int (nI (n_120)), .int x_121, .int x_122])), (h1, .inr (9, [.ref h4, .int (nI (n))])), (h4, .inl (D.1 13, 1600, .inl f)), (h2, .inl (D.1 14, 179, .inl fw)), (h3, .inr (0, [.ref h5, .int (nI (n_129))])), (h5, .inl (D.1 13, 1600, .inl f_130))] H := hP
          have hD : va_D A [(h0, .inr (6, [.int x_116, .int x_117, .ref h1, .ref h2, .ref h3, .int mo, .int (nI (op)), .int x_118, .int (nI (n_119)), .int (nI (n_120)), .int x_121, .int x_122])), (h1, .inr (9, [.ref h4, .int (nI (n))])), (h4, .inl (D.1 13, 1600, .inl f)), (h2, .inl (D.1 14, 179, .inl fw)), (h3, .inr (0, [.ref h5, .int (nI (n_129))])), (h5, .inl (D.1 13, 1600, .inl f_130))] := hD
          have hw_131 : n_129 ≤ 1600 := hw
          refine lv_iinc (v := nI (i_13 + 1)) (lv' := [(1, .int (nI (i_13 + 1))), (2, .int (-1)), (0, .ref h0)]) hx hb dX6_readSum_63 hl (k := 1) rfl (z_inc _) (by decide) rfl (fun ls hl => ?_)
          refine lv_goto (tgt := 6) hx hb dX6_readSum_66 (by decide) ?_
          exact ih_6 (f_130, x_116, x_117, x_118, n_119, n_120, x_121, x_122, n_129) _ _ _ (by omega) ⟨(by first | omega | (dsimp only; omega)), hP.sub [0, 1, 2, 3, 4, 5] rfl, hD.sub [0, 1, 2, 3, 4, 5] (by decide) rfl, hS, lv_sub hl [0, 2] rfl⟩
        · skip
          refine lv_if_eq (tgt := 44) hx hb dX6_readSum_37 (by decide) (fun _ => ?_) (fun c_132 => (z_abs c_132 (by decide)).elim)
          refine lv_bipush (v := (-2)) hx hb dX6_readSum_44 (by decide) ?_
          refine lv_istore_n (lv' := [(2, .int (-2)), (1, .int (nI i_13)), (0, .ref h0)]) hx hb dX6_readSum_46 rfl hl (by decide) rfl (fun ls hl => ?_)
          refine lv_aload_n hx hb dX6_readSum_47 rfl (lv_at hl 2 rfl) ?_
          refine zwVv (As := []) (rest := []) (C := RX6) (n := 0) (wr := [(h3, .inr (0, [.ref h5, .int (nI n_22)])), (h5, .inl (D.1 13, 1600, .inl f_14))]) ⟨hx, hb, hml, hown, ht⟩ (k_X6_advance l D _ h0 h1 h2 h3 h4 x_15 x_16 mo x_17 x_20 x_21 op n_18 n_19 n f fw (by first | decide | omega) (by first | decide | omega) (by first | decide | omega) (by first | decide | omega)) (zgV ml_X6_75 im_X6_advance se_X6_advance in_X6 co_X6_advance) rfl rfl (by decide +kernel) ⟨by show 1 + 1 ≤ 40 * d + 28; omega, by show 8 + (2 + 11) + 60 ≤ 2400 * d + 1680; omega⟩ hK hP hD hS hA [0, 1, 2, 3] [4, 5] rfl rfl rfl rfl (by decide) 0 rfl rfl rfl rfl hl.1 rfl (Nat.le_of_ble_eq_true rfl) dX6_readSum_48 ⟨Nat.le_of_ble_eq_true rfl, Nat.le_of_ble_eq_true rfl⟩ (fun u_134 H locs hw hP hD hS => ?_)
          obtain ⟨x_136, n_137, n_138, x_139, x_140⟩ := u_134
          have hP : va_P D vwCl [(h3, .inr (0, [.ref h5, .int (nI n_22)])), (h5, .inl (D.1 13, 1600, .inl f_14)), (h0, .inr (6, [.int x_15, .int x_16, .ref h1, .ref h2, .ref h3, .int mo, .int (nI (op)), .int x_136, .int (nI (n_137)), .int (nI (n_138)), .int x_139, .int x_140])), (h1, .inr (9, [.ref h4, .int (nI (n))])), (h4, .inl (D.1 13, 1600, .inl f)), (h2, .inl (D.1 14, 179, .inl fw))] H := hP
          have hD : va_D A [(h3, .inr (0, [.ref h5, .int (nI n_22)])), (h5, .inl (D.1 13, 1600, .inl f_14)), (h0, .inr (6, [.int x_15, .int x_16, .ref h1, .ref h2, .ref h3, .int mo, .int (nI (op)), .int x_136, .int (nI (n_137)), .int (nI (n_138)), .int x_139, .int x_140])), (h1, .inr (9, [.ref h4, .int (nI (n))])), (h4, .inl (D.1 13, 1600, .inl f)), (h2, .inl (D.1 14, 179, .inl fw))] := hD
          have hw_141 : n_137 ≤ n_138 ∧ n_138 ≤ n ∧ n_19 ≤ n_138 ∧ (x_136.toInt = 0 ∨ (n_19 < n_138 ∧ n_137 < n_138)) ∧ (¬ x_15.toInt = 0 → x_136.toInt = 0) := hw
          refine lv_aload_n hx hb dX6_readSum_51 rfl (lv_at hl 2 rfl) ?_
          refine zwVv (As := []) (rest := []) (C := RX6) (n := 0) (wr := []) ⟨hx, hb, hml, hown, ht⟩ (k_X6_readProduct l D _ h0 h1 h2 h3 h4 h5 x_15 x_16 mo x_136 x_139 x_140 op n_137 n_138 n n_22 f fw f_14 d ih (by first | decide | omega) (by first | decide | omega) (by first | decide | omega) (by first | decide | omega) (by first | decide | omega) (by first | decide | omega) (by first | decide | omega)) (zgV ml_X6_203 im_X6_readProduct se_X6_readProduct in_X6 co_X6_readProduct) rfl rfl (by decide +kernel) ⟨by show 40 * d + 24 + 1 ≤ 40 * d + 28; omega, by show 8 + (3 + 11) + (2400 * d + 1440) ≤ 2400 * d + 1680; omega⟩ hK hP hD hS hA [2, 3, 4, 5, 0, 1] [] rfl rfl rfl rfl (by decide) 0 rfl rfl rfl rfl hl.1 rfl (Nat.le_of_ble_eq_true rfl) dX6_readSum_52 ⟨Nat.le_of_ble_eq_true rfl, Nat.le_of_ble_eq_true rfl⟩ (fun u_142 H locs hw hP hD hS => ?_)
          obtain ⟨x_144, x_145, x_146, n_147, n_148, x_149, x_150, n_151, f_152⟩ := u_142
          have hP : va_P D vwCl [(h0, .inr (6, [.int x_144, .int x_145, .ref h1, .ref h2, .ref h3, .int mo, .int (nI (op)), .int x_146, .int (nI (n_147)), .int (nI (n_148)), .int x_149, .int x_150])), (h1, .inr (9, [.ref h4, .int (nI (n))])), (h4, .inl (D.1 13, 1600, .inl f)), (h2, .inl (D.1 14, 179, .inl fw)), (h3, .inr (0, [.ref h5, .int (nI (n_151))])), (h5, .inl (D.1 13, 1600, .inl f_152))] H := hP
          have hD : va_D A [(h0, .inr (6, [.int x_144, .int x_145, .ref h1, .ref h2, .ref h3, .int mo, .int (nI (op)), .int x_146, .int (nI (n_147)), .int (nI (n_148)), .int x_149, .int x_150])), (h1, .inr (9, [.ref h4, .int (nI (n))])), (h4, .inl (D.1 13, 1600, .inl f)), (h2, .inl (D.1 14, 179, .inl fw)), (h3, .inr (0, [.ref h5, .int (nI (n_151))])), (h5, .inl (D.1 13, 1600, .inl f_152))] := hD
          have hw_153 : n_147 ≤ n_148 ∧ n_148 ≤ n ∧ n_138 ≤ n_148 ∧ (¬ x_144.toInt = 0 → x_146.toInt = 0) ∧ n_151 ≤ 1600 := hw
          refine lv_aload_n hx hb dX6_readSum_55 rfl (lv_at hl 2 rfl) ?_
          refine va_get (D := D) (ci := 6) (v := .ref h3) (C := RX6) (T := TX6) (N := 12) hx hb ht inX6 hown hK hP 0 rfl rfl 4 (by decide) (ht (.fieldLink RX6 84 "CloneVolumes$Reader" "code" "LCloneVolumes$Code;") fl_X6_84) (fun _ h9 => h9) rfl dX6_readSum_56 ?_
          refine lv_iload_n hx hb dX6_readSum_59 rfl (lv_at hl 0 rfl) ?_
          have en_154 : ((-2) : Int32).toInt = (-2) := by decide
          refine zwVv (As := [.int (-2)]) (rest := []) (C := RX0) (n := 1) (wr := [(h0, .inr (6, [.int x_144, .int x_145, .ref h1, .ref h2, .ref h3, .int mo, .int (nI (op)), .int x_146, .int (nI (n_147)), .int (nI (n_148)), .int x_149, .int x_150])), (h1, .inr (9, [.ref h4, .int (nI (n))])), (h4, .inl (D.1 13, 1600, .inl f)), (h2, .inl (D.1 14, 179, .inl fw))]) ⟨hx, hb, hml, hown, ht⟩ (k_X0_add l D _ h3 h5 n_151 f_152 (-2) (by first | decide | omega)) (zgV ml_X6_191 im_X0_add se_X0_add in_X0 co_X0_add) rfl rfl (by decide +kernel) ⟨by show 0 + 1 ≤ 40 * d + 28; omega, by show 8 + (2 + 11) + 0 ≤ 2400 * d + 1680; omega⟩ hK hP hD hS hA [4, 5] [0, 1, 2, 3] rfl rfl rfl rfl (by decide) 0 rfl rfl rfl rfl hl.1 rfl (Nat.le_of_ble_eq_true rfl) dX6_readSum_60 ⟨Nat.le_of_ble_eq_true rfl, Nat.le_of_ble_eq_true rfl⟩ (fun u_155 H locs hw hP hD hS => ?_)
          obtain ⟨n_157, f_158⟩ := u_155
          have hP : va_P D vwCl [(h0, .inr (6, [.int x_144, .int x_145, .ref h1, .ref h2, .ref h3, .int mo, .int (nI (op)), .int x_146, .int (nI (n_147)), .int (nI (n_148)), .int x_149, .int x_150])), (h1, .inr (9, [.ref h4, .int (nI (n))])), (h4, .inl (D.1 13, 1600, .inl f)), (h2, .inl (D.1 14, 179, .inl fw)), (h3, .inr (0, [.ref h5, .int (nI (n_157))])), (h5, .inl (D.1 13, 1600, .inl f_158))] H := hP
          have hD : va_D A [(h0, .inr (6, [.int x_144, .int x_145, .ref h1, .ref h2, .ref h3, .int mo, .int (nI (op)), .int x_146, .int (nI (n_147)), .int (nI (n_148)), .int x_149, .int x_150])), (h1, .inr (9, [.ref h4, .int (nI (n))])), (h4, .inl (D.1 13, 1600, .inl f)), (h2, .inl (D.1 14, 179, .inl fw)), (h3, .inr (0, [.ref h5, .int (nI (n_157))])), (h5, .inl (D.1 13, 1600, .inl f_158))] := hD
          have hw_159 : n_157 ≤ 1600 := hw
          refine lv_iinc (v := nI (i_13 + 1)) (lv' := [(1, .int (nI (i_13 + 1))), (2, .int (-2)), (0, .ref h0)]) hx hb dX6_readSum_63 hl (k := 1) rfl (z_inc _) (by decide) rfl (fun ls hl => ?_)
          refine lv_goto (tgt := 6) hx hb dX6_readSum_66 (by decide) ?_
          exact ih_6 (f_158, x_144, x_145, x_146, n_147, n_148, x_149, x_150, n_157) _ _ _ (by omega) ⟨(by first | omega | (dsimp only; omega)), hP.sub [0, 1, 2, 3, 4, 5] rfl, hD.sub [0, 1, 2, 3, 4, 5] (by decide) rfl, hS, lv_sub hl [0, 2] rfl⟩
      · skip
        refine lv_if_eq (tgt := 69) hx hb dX6_readSum_28 (by decide) (fun _ => ?_) (fun c_160 => (z_abs c_160 (by decide)).elim)
        have hP9 := hP.sub (ws' := [(h0, .inr (6, [.int x_15, .int x_16, .ref h1, .ref h2, .ref h3, .int mo, .int (nI op), .int x_17, .int (nI n_18), .int (nI n_19), .int x_20, .int x_21])), (h1, .inr (9, [.ref h4, .int (nI n)])), (h4, .inl (D.1 13, 1600, .inl f)), (h2, .inl (D.1 14, 179, .inl fw)), (h3, .inr (0, [.ref h5, .int (nI n_22)])), (h5, .inl (D.1 13, 1600, .inl f_14))]) [0, 1, 2, 3, 4, 5] rfl
        have hD9 := hD.sub (ws' := [(h0, .inr (6, [.int x_15, .int x_16, .ref h1, .ref h2, .ref h3, .int mo, .int (nI op), .int x_17, .int (nI n_18), .int (nI n_19), .int x_20, .int x_21])), (h1, .inr (9, [.ref h4, .int (nI n)])), (h4, .inl (D.1 13, 1600, .inl f)), (h2, .inl (D.1 14, 179, .inl fw)), (h3, .inr (0, [.ref h5, .int (nI n_22)])), (h5, .inl (D.1 13, 1600, .inl f_14))]) [0, 1, 2, 3, 4, 5] (by decide) rfl
        refine W.widen (k := 0) (n := 0) (Nat.le_of_ble_eq_true rfl) (Nat.le_of_ble_eq_true rfl) ?_
        exact W.vret hx hb hr (fun t ht hW => ⟨⟨(x_15, x_16, x_17, n_18, n_19, x_20, x_21, n_22, f_14), rfl, (by first | omega | (dsimp only; omega)), by rw [ht]; exact hP9, va_K.moved hW.alike hK, hD9⟩, hS.F ht⟩) hS.2.2 dX6_readSum_69
