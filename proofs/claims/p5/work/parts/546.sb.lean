theorem co_X1_actBySeed : Cond.code yX1_actBySeed cX1_actBySeed 5 (some .boolean) ∈ lw_gd := zm (List.mem_of_getElem? (i := 1393) (by decide +kernel)) rfl
theorem im_X1_actBySeed : Cond.instanceMethod yX1_actBySeed ∈ lw_gd := zm (List.mem_of_getElem? (i := 1391) (by decide +kernel)) rfl
theorem ml_X11_305 : Cond.methodLink RX11 305 yX1_actBySeed ∈ lw_gd := zm (List.mem_of_getElem? (i := 1390) (by decide +kernel)) rfl
theorem se_X1_actBySeed : Cond.selects RX1 yX1_actBySeed yX1_actBySeed ∈ lw_gd := zm (List.mem_of_getElem? (i := 1392) (by decide +kernel)) rfl
theorem dX11_chance_0 : decode cX11_chance 0 = .ok (.aload_n 0, 1) := by decide +kernel
theorem dX11_chance_1 : decode cX11_chance 1 = .ok (.getfield 112, 3) := by decide +kernel
theorem dX11_chance_4 : decode cX11_chance 4 = .ok (.ifCond .eq 14, 3) := by decide +kernel
theorem dX11_chance_7 : decode cX11_chance 7 = .ok (.iload_n 1, 1) := by decide +kernel
theorem dX11_chance_8 : decode cX11_chance 8 = .ok (.iconst 1, 1) := by decide +kernel
theorem dX11_chance_9 : decode cX11_chance 9 = .ok (.if_icmp .lt 9, 3) := by decide +kernel
theorem dX11_chance_12 : decode cX11_chance 12 = .ok (.iload_n 1, 1) := by decide +kernel
theorem dX11_chance_13 : decode cX11_chance 13 = .ok (.bipush 40, 2) := by decide +kernel
theorem dX11_chance_15 : decode cX11_chance 15 = .ok (.if_icmp .le 9, 3) := by decide +kernel
theorem dX11_chance_18 : decode cX11_chance 18 = .ok (.aload_n 0, 1) := by decide +kernel
theorem dX11_chance_19 : decode cX11_chance 19 = .ok (.iconst 3, 1) := by decide +kernel
theorem dX11_chance_20 : decode cX11_chance 20 = .ok (.invokevirtual 87, 3) := by decide +kernel
theorem dX11_chance_23 : decode cX11_chance 23 = .ok (.ireturn, 1) := by decide +kernel
theorem dX11_chance_24 : decode cX11_chance 24 = .ok (.aload_n 0, 1) := by decide +kernel
theorem dX11_chance_25 : decode cX11_chance 25 = .ok (.getfield 79, 3) := by decide +kernel
theorem dX11_chance_28 : decode cX11_chance 28 = .ok (.invokevirtual 272, 3) := by decide +kernel
theorem dX11_chance_31 : decode cX11_chance 31 = .ok (.iconst 0, 1) := by decide +kernel
theorem dX11_chance_32 : decode cX11_chance 32 = .ok (.istore_n 2, 1) := by decide +kernel
theorem dX11_chance_33 : decode cX11_chance 33 = .ok (.iconst 0, 1) := by decide +kernel
theorem dX11_chance_34 : decode cX11_chance 34 = .ok (.istore_n 3, 1) := by decide +kernel
theorem dX11_chance_35 : decode cX11_chance 35 = .ok (.iload_n 3, 1) := by decide +kernel
theorem dX11_chance_36 : decode cX11_chance 36 = .ok (.iload_n 1, 1) := by decide +kernel
theorem dX11_chance_37 : decode cX11_chance 37 = .ok (.if_icmp .ge 22, 3) := by decide +kernel
theorem dX11_chance_40 : decode cX11_chance 40 = .ok (.aload_n 0, 1) := by decide +kernel
theorem dX11_chance_41 : decode cX11_chance 41 = .ok (.getfield 79, 3) := by decide +kernel
theorem dX11_chance_44 : decode cX11_chance 44 = .ok (.invokevirtual 305, 3) := by decide +kernel
theorem dX11_chance_47 : decode cX11_chance 47 = .ok (.ifCond .eq 6, 3) := by decide +kernel
theorem dX11_chance_50 : decode cX11_chance 50 = .ok (.iinc 2 1, 3) := by decide +kernel
theorem dX11_chance_53 : decode cX11_chance 53 = .ok (.iinc 3 1, 3) := by decide +kernel
theorem dX11_chance_56 : decode cX11_chance 56 = .ok (.goto (-21), 3) := by decide +kernel
theorem dX11_chance_59 : decode cX11_chance 59 = .ok (.aload_n 0, 1) := by decide +kernel
theorem dX11_chance_60 : decode cX11_chance 60 = .ok (.bipush 6, 2) := by decide +kernel
theorem dX11_chance_62 : decode cX11_chance 62 = .ok (.sipush 255, 3) := by decide +kernel
theorem dX11_chance_65 : decode cX11_chance 65 = .ok (.invokevirtual 279, 3) := by decide +kernel
theorem dX11_chance_68 : decode cX11_chance 68 = .ok (.pop, 1) := by decide +kernel
theorem dX11_chance_69 : decode cX11_chance 69 = .ok (.iload_n 2, 1) := by decide +kernel
theorem dX11_chance_70 : decode cX11_chance 70 = .ok (.ireturn, 1) := by decide +kernel
set_option maxHeartbeats 4000000 in
set_option maxRecDepth 100000 in
theorem k_x11_chance (l : Launch) (D : va_G) (a0 : Nat → Nat) (p0 : Int) (sz : Nat) (s : MS) (ps : List ((Nat → Nat) × MS)) (ts : List MS) (hts : ps.map Prod.snd = ts) (o : Int × MS × List MS) (h : m_x11_chance ts p0 s = some o) : yU l yX11_chance cX11_chance 4 (some .int) { frames := 7, cells := 9, slots := 795, locals := 420 } D sz [.ref (a0 0), .int (i2 p0)] a0 s ps (i2 o.1) o.2.1 o.2.2 := by
  refine Met.ofW (cc := cX11_chance) (maxL := 4) (ret := (some .int)) (by decide) rfl ?_
  intro p e s₀ m args below meth c s₁ B hml hv
  obtain ⟨rfl, ⟨hsz, hP, hK, hD0⟩, hN⟩ := hv
  have hx := B.exec
  have hb := B.bytes
  have hr := B.returns
  have hat := atoms_spec (ws := wz yX11_chance cX11_chance 4 (some .int)) B.pre
  have ht : ∀ w ∈ lw_gd, w.before _ s₀ = true := fun w h => hat w (List.mem_cons_of_mem _ h)
  have hown : s₀.vm.findClass RX11 = some m.cls := findClass_of_methodNamed B.named
  have hlocks := B.notSynchronized
  subst hsz
  have hD := hD0.self (sz := s₀.heap.size)
  generalize hAe : va_A (XW D a0 s ps) s₀.heap.size = A at hD ⊢
  have hA : ∀ q : Nat, s₀.heap.size ≤ q → A q := fun q h => by rw [← hAe]; exact Or.inr h
  have hS : va_S A s₀.heap s₀.heap [] := va_S.rf
  have hl := lv_entry ([.ref (a0 0), .int (i2 p0)]) (n := 4) (Nat.le_of_ble_eq_true rfl)
  rw [lg_entry_eq]
  generalize (lg_sl ([.ref (a0 0), .int (i2 p0)]) ++ List.replicate (4 - (lg_sl ([.ref (a0 0), .int (i2 p0)])).length) Slot.unset).toArray = ls at hl ⊢
  obtain ⟨a, ha⟩ : ∃ a : Nat → Nat, a = a0 := ⟨a0, rfl⟩
  rw [← ha] at hP hD hl
  have hu : ∀ k, (k < 62 ∨ 70 < k) → a k = a0 k := fun k _ => by rw [ha]
  have hDD : ∀ t : MS, va_D A (CS D a t ++ PT D (a 90) ps) := fun t => va_D_same hD rfl
  have hl : lv_has ls 4 [(0, .ref (a 0)), (1, .int (i2 p0))] := hl
  clear ha
  unfold m_x11_chance at h
  refine y_loop (pcJ := 35) (σ := Int × Int × Int × MS) (fun n u H locs ls => va_P D vwCl (CS D a u.2.2.2 ++ PT D (a 90) ps) H ∧ va_S A s₀.heap H locs ∧ lv_has ls 4 [(0, .ref (a 0)), (1, .int (i2 u.1)), (2, .int (i2 u.2.1)), (3, .int (i2 u.2.2.1))] ∧ m_x11_chance_L35 ts n u.1 u.2.1 u.2.2.1 u.2.2.2 = some o) (fun u => []) (fun u H locs ls hI => by obtain ⟨_, _, _, h⟩ := hI; cases h) (fun n35 ih35 u H locs ls hI => ?_) (fun J35 => ?_)
  · obtain ⟨hP, hS, hl, h⟩ := hI
    obtain ⟨x1, x2, x3, s4⟩ := u
    have hP : va_P D vwCl (CS D a s4 ++ PT D (a 90) ps) H := hP
    have hl : lv_has ls 4 [(0, .ref (a 0)), (1, .int (i2 x1)), (2, .int (i2 x2)), (3, .int (i2 x3))] := hl
    have h : m_x11_chance_b35 ts (m_x11_chance_L35 ts n35) x1 x2 x3 s4 = some o := h
    unfold m_x11_chance_b35 at h
    refine y_head (pcJ := 53) (σ := Int × Int × Int × MS) (fun u H locs ls => va_P D vwCl (CS D a u.2.2.2 ++ PT D (a 90) ps) H ∧ va_S A s₀.heap H locs ∧ lv_has ls 4 [(0, .ref (a 0)), (1, .int (i2 u.1)), (2, .int (i2 u.2.1)), (3, .int (i2 u.2.2.1))] ∧ m_x11_chance_J53 ts (m_x11_chance_L35 ts n35) u.1 u.2.1 u.2.2.1 u.2.2.2 = some o) (fun u => []) (fun u H locs ls hI => ?_) (fun J53 => ?_)
    · obtain ⟨hP, hS, hl, h⟩ := hI
      obtain ⟨x5, x6, x7, s8⟩ := u
      have hP : va_P D vwCl (CS D a s8 ++ PT D (a 90) ps) H := hP
      have hl : lv_has ls 4 [(0, .ref (a 0)), (1, .int (i2 x5)), (2, .int (i2 x6)), (3, .int (i2 x7))] := hl
      have h : m_x11_chance_J53 ts (m_x11_chance_L35 ts n35) x5 x6 x7 s8 = some o := h
      unfold m_x11_chance_J53 at h
      refine lv_iinc (v := i2 (x7 + 1)) (lv' := [(3, .int (i2 (x7 + 1))), (0, .ref (a 0)), (1, .int (i2 x5)), (2, .int (i2 x6))]) hx hb dX11_chance_53 hl (k := 3) rfl (i2_add x7 1) (by decide) rfl (fun ls hl => ?_)
      refine lv_goto (tgt := 35) hx hb dX11_chance_56 (by decide) ?_
      exact ih35 (x5, x6, x7 + 1, s8) _ _ _ ⟨hP, hS, lv_sub hl [1, 2, 3, 0] rfl, h⟩
    refine lv_iload_n hx hb dX11_chance_35 rfl (lv_at hl 3 rfl) ?_
    refine lv_iload_n hx hb dX11_chance_36 rfl (lv_at hl 1 rfl) ?_
    obtain ⟨hr9, h⟩ := rg_e h
    obtain ⟨hr10, h⟩ := rg_e h
    refine lv_icmp_ge (tgt := 59) hx hb dX11_chance_37 (by decide) (fun c11 => ?_) (fun c11 => ?_)
    · have h := if_t ((i2_le (x := x1) (y := x3) hr10 hr9).mp c11) h
      refine lv_aload_n hx hb dX11_chance_59 rfl (lv_at hl 0 rfl) ?_
      refine lv_bipush (v := 6) hx hb dX11_chance_60 (by decide) ?_
      refine lv_sipush (v := 255) hx hb dX11_chance_62 (by decide) ?_
      obtain ⟨⟨r13, s14, t15⟩, hc12, h⟩ := bn_e h
      refine ywU (r0 := i2 r13) (As := [.int 6, .int 255]) (rest := []) (C := RX11) (n := 2) ⟨hx, hb, hml, hown, ht⟩ (k_finish l D a 6 255 _ _ ps ts hts _ hc12) (zgV ml_X11_279 im_X11_finish se_X11_finish in_X11 co_X11_finish) rfl rfl (by decide +kernel) ⟨Nat.le_of_ble_eq_true rfl, Nat.le_of_ble_eq_true rfl⟩ hN hK hP (hDD _) hS hA 0 (ap_g CW_0) rfl rfl rfl hl.1 rfl (Nat.le_of_ble_eq_true rfl) dX11_chance_65 ⟨Nat.le_of_ble_eq_true rfl, Nat.le_of_ble_eq_true rfl⟩ (fun u H locs hu2 hts2 hP hD hS => ?_)
      have hu3 : ∀ k, (k < 62 ∨ 70 < k) → u.1 k = a0 k := fun k hk => (hu2 k hk).trans (hu k hk)
      rw [← hu2 0 (by decide)] at hl
      clear hu2 hu hts hDD
      obtain ⟨a, ps⟩ := u
      have hu : ∀ k, (k < 62 ∨ 70 < k) → a k = a0 k := hu3
      have hts : ps.map Prod.snd = t15 := hts2
      have hl : lv_has ls 4 [(0, .ref (a 0)), (1, .int (i2 x1)), (2, .int (i2 x2)), (3, .int (i2 x3))] := hl
      have hP : va_P D vwCl (CS D a s14 ++ PT D (a 90) ps) H := hP
      have hDD : ∀ t : MS, va_D A (CS D a t ++ PT D (a 90) ps) := fun t => va_D_same hD rfl
      refine lv_pop hx hb dX11_chance_68 rfl ?_
      refine lv_iload_n hx hb dX11_chance_69 rfl (lv_at hl 2 rfl) ?_
      obtain rfl := Option.some.inj h
      refine W.widen (k := 9) (n := 795) (Nat.le_of_ble_eq_true rfl) (Nat.le_of_ble_eq_true rfl) ?_
      exact W.iret (v := (i2 x2)) hx hb hr (fun t ht hW => ⟨⟨_, (a, ps), rfl, ⟨rfl, hu, hts⟩, by rw [ht]; exact hP, va_K.moved hW.alike hK, hDD _⟩, hS.F ht⟩) hS.2.2 dX11_chance_70
    · have h := if_f (mt (i2_le (x := x1) (y := x3) hr10 hr9).mpr c11) h
      refine lv_aload_n hx hb dX11_chance_40 rfl (lv_at hl 0 rfl) ?_
      refine va_get (D := D) (ci := 11) (v := .ref (a 49)) (C := RX11) (T := TX11) (N := 13) hx hb ht inX11 hown hK hP 0 (ap_g CW_0) rfl 11 (by decide) (ht (.fieldLink RX11 79 "CloneVolumes" "forest" "LCloneVolumes$Forest;") fl_X11_79) (fun _ h9 => h9) rfl dX11_chance_41 ?_
      obtain ⟨⟨r18, s17⟩, hc16, h⟩ := bn_e h
      refine ywV (r0 := i2 r18) (As := []) (rest := []) (C := RX1) (n := 0) (ws' := CS D a s17 ++ PT D (a 90) ps) ⟨hx, hb, hml, hown, ht⟩ (yWi_f _ (k_x1_actBySeed l D a _ _ _ hc16)) (zgV ml_X11_305 im_X1_actBySeed se_X1_actBySeed in_X1 co_X1_actBySeed) rfl rfl (by decide +kernel) ⟨Nat.le_of_ble_eq_true rfl, Nat.le_of_ble_eq_true rfl⟩ hN hK hP (hDD _) hS hA 49 (ap_g CW_49) rfl rfl rfl hl.1 rfl (Nat.le_of_ble_eq_true rfl) dX11_chance_44 ⟨Nat.le_of_ble_eq_true rfl, Nat.le_of_ble_eq_true rfl⟩ (fun H locs hP hS => ?_)
      obtain ⟨hr19, h⟩ := rg_e h
      refine lv_if_eq (tgt := 53) hx hb dX11_chance_47 (by decide) (fun c20 => ?_) (fun c20 => ?_)
      · have h := if_t ((i2_eq (x := r18) (y := 0) hr19 (by decide)).mp c20) h
        exact J53 (x1, x2, x3, s17) _ _ _ ⟨hP, hS, lv_sub hl [0, 1, 2, 3] rfl, h⟩
      · have h := if_f (mt (i2_eq (x := r18) (y := 0) hr19 (by decide)).mpr c20) h
        refine lv_iinc (v := i2 (x2 + 1)) (lv' := [(2, .int (i2 (x2 + 1))), (0, .ref (a 0)), (1, .int (i2 x1)), (3, .int (i2 x3))]) hx hb dX11_chance_50 hl (k := 2) rfl (i2_add x2 1) (by decide) rfl (fun ls hl => ?_)
        exact J53 (x1, x2 + 1, x3, s17) _ _ _ ⟨hP, hS, lv_sub hl [1, 2, 0, 3] rfl, h⟩
  refine y_head (pcJ := 18) (σ := MS) (fun u H locs ls => va_P D vwCl (CS D a u ++ PT D (a 90) ps) H ∧ va_S A s₀.heap H locs ∧ lv_has ls 4 [(0, .ref (a 0))] ∧ m_x11_chance_J18 ts u = some o) (fun u => []) (fun u H locs ls hI => ?_) (fun J18 => ?_)
  · obtain ⟨hP, hS, hl, h⟩ := hI
    obtain ⟨s21, rfl⟩ : ∃ z, z = u := ⟨u, rfl⟩
    have hP : va_P D vwCl (CS D a s21 ++ PT D (a 90) ps) H := hP
    have hl : lv_has ls 4 [(0, .ref (a 0))] := hl
    have h : m_x11_chance_J18 ts s21 = some o := h
    unfold m_x11_chance_J18 at h
    refine lv_aload_n hx hb dX11_chance_18 rfl (lv_at hl 0 rfl) ?_
    refine lv_iconst (v := 3) hx hb dX11_chance_19 (by decide) ?_
    obtain ⟨⟨r24, s23⟩, hc22, h⟩ := bn_e h
    refine ywV (r0 := i2 r24) (As := [.int 3]) (rest := []) (C := RX11) (n := 1) (ws' := CS D a s23 ++ PT D (a 90) ps) ⟨hx, hb, hml, hown, ht⟩ (yWi_f _ (k_x11_refuse l D a 3 _ _ _ hc22)) (zgV ml_X11_87 im_X11_refuse se_X11_refuse in_X11 co_X11_refuse) rfl rfl (by decide +kernel) ⟨Nat.le_of_ble_eq_true rfl, Nat.le_of_ble_eq_true rfl⟩ hN hK hP (hDD _) hS hA 0 (ap_g CW_0) rfl rfl rfl hl.1 rfl (Nat.le_of_ble_eq_true rfl) dX11_chance_20 ⟨Nat.le_of_ble_eq_true rfl, Nat.le_of_ble_eq_true rfl⟩ (fun H locs hP hS => ?_)
    obtain rfl := Option.some.inj h
    refine W.widen (k := 9) (n := 795) (Nat.le_of_ble_eq_true rfl) (Nat.le_of_ble_eq_true rfl) ?_
    exact W.iret (v := (i2 r24)) hx hb hr (fun t ht hW => ⟨⟨_, (a, ps), rfl, ⟨rfl, hu, hts⟩, by rw [ht]; exact hP, va_K.moved hW.alike hK, hDD _⟩, hS.F ht⟩) hS.2.2 dX11_chance_23
  refine lv_aload_n hx hb dX11_chance_0 rfl (lv_at hl 0 rfl) ?_
  refine va_get (D := D) (ci := 11) (v := .int (i2 (gI s 12))) (C := RX11) (T := TX11) (N := 13) hx hb ht inX11 hown hK hP 0 (ap_g CW_0) rfl 12 (by decide) (ht (.fieldLink RX11 112 "CloneVolumes" "told" "Z") fl_X11_112) (fun _ h9 => h9) rfl dX11_chance_1 ?_
  obtain ⟨hr25, h⟩ := rg_e h
  refine lv_if_eq (tgt := 18) hx hb dX11_chance_4 (by decide) (fun c26 => ?_) (fun c26 => ?_)
  · have h := if_t ((i2_eq (x := (gI s 12)) (y := 0) hr25 (by decide)).mp c26) h
    exact J18 s _ _ _ ⟨hP, hS, lv_sub hl [0] rfl, h⟩
  · have h := if_f (mt (i2_eq (x := (gI s 12)) (y := 0) hr25 (by decide)).mpr c26) h
    refine lv_iload_n hx hb dX11_chance_7 rfl (lv_at hl 1 rfl) ?_
    refine lv_iconst (v := 1) hx hb dX11_chance_8 (by decide) ?_
    obtain ⟨hr27, h⟩ := rg_e h
    refine lv_icmp_lt (tgt := 18) hx hb dX11_chance_9 (by decide) (fun c28 => ?_) (fun c28 => ?_)
    · have h := if_t ((i2_lt (x := p0) (y := 1) hr27 (by decide)).mp c28) h
      exact J18 s _ _ _ ⟨hP, hS, lv_sub hl [0] rfl, h⟩
    · have h := if_f (mt (i2_lt (x := p0) (y := 1) hr27 (by decide)).mpr c28) h
      refine lv_iload_n hx hb dX11_chance_12 rfl (lv_at hl 1 rfl) ?_
      refine lv_bipush (v := 40) hx hb dX11_chance_13 (by decide) ?_
      obtain ⟨hr29, h⟩ := rg_e h
      refine lv_icmp_le (tgt := 24) hx hb dX11_chance_15 (by decide) (fun c30 => ?_) (fun c30 => ?_)
      · have h := if_t ((i2_le (x := p0) (y := 40) hr29 (by decide)).mp c30) h
        refine lv_aload_n hx hb dX11_chance_24 rfl (lv_at hl 0 rfl) ?_
        refine va_get (D := D) (ci := 11) (v := .ref (a 49)) (C := RX11) (T := TX11) (N := 13) hx hb ht inX11 hown hK hP 0 (ap_g CW_0) rfl 11 (by decide) (ht (.fieldLink RX11 79 "CloneVolumes" "forest" "LCloneVolumes$Forest;") fl_X11_79) (fun _ h9 => h9) rfl dX11_chance_25 ?_
        obtain ⟨s32, hc31, h⟩ := bn_e h
        refine ywVv (As := []) (rest := []) (C := RX1) (n := 0) (ws' := CS D a s32 ++ PT D (a 90) ps) ⟨hx, hb, hml, hown, ht⟩ (yWv_f _ (k_x1_begin l D a _ _ _ hc31)) (zgV ml_X11_272 im_X1_begin se_X1_begin in_X1 co_X1_begin) rfl rfl (by decide +kernel) ⟨Nat.le_of_ble_eq_true rfl, Nat.le_of_ble_eq_true rfl⟩ hN hK hP (hDD _) hS hA 49 (ap_g CW_49) rfl rfl rfl hl.1 rfl (Nat.le_of_ble_eq_true rfl) dX11_chance_28 ⟨Nat.le_of_ble_eq_true rfl, Nat.le_of_ble_eq_true rfl⟩ (fun H locs hP hS => ?_)
        refine lv_iconst (v := 0) hx hb dX11_chance_31 (by decide) ?_
        refine lv_istore_n (lv' := [(2, .int 0), (0, .ref (a 0)), (1, .int (i2 p0))]) hx hb dX11_chance_32 rfl hl (by decide) rfl (fun ls hl => ?_)
        refine lv_iconst (v := 0) hx hb dX11_chance_33 (by decide) ?_
        refine lv_istore_n (lv' := [(3, .int 0), (2, .int 0), (0, .ref (a 0)), (1, .int (i2 p0))]) hx hb dX11_chance_34 rfl hl (by decide) rfl (fun ls hl => ?_)
        exact J35 FU (p0, 0, 0, s32) _ _ _ ⟨hP, hS, lv_sub hl [2, 3, 1, 0] rfl, h⟩
      · have h := if_f (mt (i2_le (x := p0) (y := 40) hr29 (by decide)).mpr c30) h
        exact J18 s _ _ _ ⟨hP, hS, lv_sub hl [0] rfl, h⟩
