set_option maxHeartbeats 4000000 in
set_option maxRecDepth 100000 in
theorem k_X8_isVolume (l : Launch) (D : va_G) (a : Nat → Nat) (p0 : Int32) : Met l yX8_isVolume (wz yX8_isVolume cX8_isVolume 2 (some .boolean)) { frames := 0, cells := 0, slots := 0, locals := 0 } (va_Pc [.ref (a 13), .int p0] (zP D [((a 13), .inr (8, [.int 0, .int 0, .long 0, .ref (a 60), .ref (a 61), .ref (a 62), .ref (a 63), .ref (a 64), .ref (a 65), .ref (a 66), .ref (a 67)])), ((a 66), .inl (D.1 13, 8, .inl (fun _ => (-2))))])) (va_Qi (fun r (_ : Unit) => r = 0) (fun _ _ => True) (fun _ => False)) 0 0 (fun _ => False) := by
  refine Met.ofW (cc := cX8_isVolume) (maxL := 2) (ret := (some .boolean)) (by decide) rfl ?_
  intro p e s m args below meth c s₁ B hml hv
  obtain ⟨rfl, hP, hK⟩ := hv
  have hx := B.exec
  have hb := B.bytes
  have hr := B.returns
  have hts := atoms_spec (ws := wz yX8_isVolume cX8_isVolume 2 (some .boolean)) B.pre
  have ht : ∀ w ∈ lw_gd, w.before _ s = true := fun w h => hts w (List.mem_cons_of_mem _ h)
  have hown : s.vm.findClass RX8 = some m.cls := findClass_of_methodNamed B.named
  have hlocks := B.notSynchronized
  have hS : va_S (fun _ => False) s.heap s.heap [] := va_S.rf
  have hl := lv_entry ([.ref (a 13), .int p0]) (n := 2) (Nat.le_of_ble_eq_true rfl)
  rw [lg_entry_eq]
  generalize (lg_sl ([.ref (a 13), .int p0]) ++ List.replicate (2 - (lg_sl ([.ref (a 13), .int p0])).length) Slot.unset).toArray = ls at hl ⊢
  have hl : lv_has ls 2 [(0, .ref (a 13)), (1, .int p0)] := hl
  refine lv_iload_n hx hb dX8_isVolume_0 rfl (lv_at hl 1 rfl) ?_
  refine lv_if_lt (tgt := 25) hx hb dX8_isVolume_1 (by decide) (fun c_1 => ?_) (fun c_1 => ?_)
  · have g_2 : p0.toInt < 0 := z_lt rfl (by decide) c_1
    refine lv_iconst (v := 0) hx hb dX8_isVolume_25 (by decide) ?_
    exact W.zret (v := 0) hx hb hr (by decide) (fun t ht hW => ⟨⟨0, (), rfl, rfl, trivial⟩, hS.F ht⟩) hS.2.2 dX8_isVolume_26
  · have g_2 : 0 ≤ p0.toInt := z_nlt rfl (by decide) c_1
    refine lv_iload_n hx hb dX8_isVolume_4 rfl (lv_at hl 1 rfl) ?_
    refine lv_bipush (v := 8) hx hb dX8_isVolume_5 (by decide) ?_
    refine lv_icmp_ge (tgt := 25) hx hb dX8_isVolume_7 (by decide) (fun c_3 => ?_) (fun c_3 => ?_)
    · have g_4 : 8 ≤ p0.toInt := z_le (by decide) rfl c_3
      refine lv_iconst (v := 0) hx hb dX8_isVolume_25 (by decide) ?_
      exact W.zret (v := 0) hx hb hr (by decide) (fun t ht hW => ⟨⟨0, (), rfl, rfl, trivial⟩, hS.F ht⟩) hS.2.2 dX8_isVolume_26
    · have g_4 : p0.toInt < 8 := z_nle (by decide) rfl c_3
      refine lv_aload_n hx hb dX8_isVolume_10 rfl (lv_at hl 0 rfl) ?_
      refine va_get (D := D) (ci := 8) (v := .ref (a 66)) (C := RX8) (T := TX8) (N := 11) hx hb ht inX8 hown hK hP 0 rfl rfl 9 (by decide) (ht (.fieldLink RX8 30 "CloneVolumes$State" "roots" "[I") fl_X8_30) (fun _ h9 => h9) rfl dX8_isVolume_11 ?_
      refine lv_iload_n hx hb dX8_isVolume_14 rfl (lv_at hl 1 rfl) ?_
      refine va_iald hx hb hK hP 1 0 rfl rfl (z_in (by omega) (by omega)) dX8_isVolume_15 ?_
      refine z_topi (y := (-2)) (by decide) ?_
      refine lv_bipush (v := (-2)) hx hb dX8_isVolume_16 (by decide) ?_
      refine lv_icmp_eq (tgt := 25) hx hb dX8_isVolume_18 (by decide) (fun _ => ?_) (fun c_5 => (z_abs c_5 (by decide)).elim)
      refine lv_iconst (v := 0) hx hb dX8_isVolume_25 (by decide) ?_
      exact W.zret (v := 0) hx hb hr (by decide) (fun t ht hW => ⟨⟨0, (), rfl, rfl, trivial⟩, hS.F ht⟩) hS.2.2 dX8_isVolume_26
set_option maxHeartbeats 4000000 in
set_option maxRecDepth 100000 in
theorem k_X8_isBlock (l : Launch) (D : va_G) (a : Nat → Nat) (p0 : Int32) : Met l yX8_isBlock (wz yX8_isBlock cX8_isBlock 2 (some .boolean)) { frames := 0, cells := 0, slots := 0, locals := 0 } (va_Pc [.ref (a 13), .int p0] (zP D [((a 13), .inr (8, [.int 0, .int 0, .long 0, .ref (a 60), .ref (a 61), .ref (a 62), .ref (a 63), .ref (a 64), .ref (a 65), .ref (a 66), .ref (a 67)]))])) (va_Qi (fun r (_ : Unit) => r = 0) (fun _ _ => True) (fun _ => False)) 0 0 (fun _ => False) := by
  refine Met.ofW (cc := cX8_isBlock) (maxL := 2) (ret := (some .boolean)) (by decide) rfl ?_
  intro p e s m args below meth c s₁ B hml hv
  obtain ⟨rfl, hP, hK⟩ := hv
  have hx := B.exec
  have hb := B.bytes
  have hr := B.returns
  have hts := atoms_spec (ws := wz yX8_isBlock cX8_isBlock 2 (some .boolean)) B.pre
  have ht : ∀ w ∈ lw_gd, w.before _ s = true := fun w h => hts w (List.mem_cons_of_mem _ h)
  have hown : s.vm.findClass RX8 = some m.cls := findClass_of_methodNamed B.named
  have hlocks := B.notSynchronized
  have hS : va_S (fun _ => False) s.heap s.heap [] := va_S.rf
  have hl := lv_entry ([.ref (a 13), .int p0]) (n := 2) (Nat.le_of_ble_eq_true rfl)
  rw [lg_entry_eq]
  generalize (lg_sl ([.ref (a 13), .int p0]) ++ List.replicate (2 - (lg_sl ([.ref (a 13), .int p0])).length) Slot.unset).toArray = ls at hl ⊢
  have hl : lv_has ls 2 [(0, .ref (a 13)), (1, .int p0)] := hl
  refine lv_iload_n hx hb dX8_isBlock_0 rfl (lv_at hl 1 rfl) ?_
  refine lv_if_lt (tgt := 16) hx hb dX8_isBlock_1 (by decide) (fun c_1 => ?_) (fun c_1 => ?_)
  · have g_2 : p0.toInt < 0 := z_lt rfl (by decide) c_1
    refine lv_iconst (v := 0) hx hb dX8_isBlock_16 (by decide) ?_
    exact W.zret (v := 0) hx hb hr (by decide) (fun t ht hW => ⟨⟨0, (), rfl, rfl, trivial⟩, hS.F ht⟩) hS.2.2 dX8_isBlock_17
  · have g_2 : 0 ≤ p0.toInt := z_nlt rfl (by decide) c_1
    refine lv_iload_n hx hb dX8_isBlock_4 rfl (lv_at hl 1 rfl) ?_
    refine lv_aload_n hx hb dX8_isBlock_5 rfl (lv_at hl 0 rfl) ?_
    refine va_get (D := D) (ci := 8) (v := .int 0) (C := RX8) (T := TX8) (N := 11) hx hb ht inX8 hown hK hP 0 rfl rfl 0 (by decide) (ht (.fieldLink RX8 40 "CloneVolumes$State" "blocks" "I") fl_X8_40) (fun _ h9 => h9) rfl dX8_isBlock_6 ?_
    refine lv_icmp_ge (tgt := 16) hx hb dX8_isBlock_9 (by decide) (fun c_3 => ?_) (fun c_3 => ?_)
    · have g_4 : 0 ≤ p0.toInt := z_le (by decide) rfl c_3
      refine lv_iconst (v := 0) hx hb dX8_isBlock_16 (by decide) ?_
      exact W.zret (v := 0) hx hb hr (by decide) (fun t ht hW => ⟨⟨0, (), rfl, rfl, trivial⟩, hS.F ht⟩) hS.2.2 dX8_isBlock_17
    · exfalso
      have g_4 : p0.toInt < 0 := z_nle (by decide) rfl c_3
      omega
set_option maxHeartbeats 4000000 in
set_option maxRecDepth 100000 in
theorem k_X11_status (l : Launch) (D : va_G) (a : Nat → Nat) (p0 : Int32) : Met l yX11_status (wz yX11_status cX11_status 2 (some .int)) { frames := 0, cells := 0, slots := 0, locals := 0 } (va_Pc [.ref (a 0), .int p0] (zP D [((a 0), .inr (11, [.ref (a 1), .ref (a 2), .ref (a 3), .ref (a 4), .ref (a 5), .ref (a 6), .ref (a 7), .ref (a 8), .ref (a 9), .ref (a 10), .ref (a 11), .ref (a 12), .int 0])), ((a 9), .inl (D.1 13, 6, .inl (fun _ => 0)))])) (va_Qi (fun r (_ : Unit) => (r = (-1) ∧ p0.toInt < 0) ∨ (r = (-1) ∧ 0 ≤ p0.toInt ∧ 6 ≤ p0.toInt) ∨ (r = 0 ∧ 0 ≤ p0.toInt ∧ p0.toInt < 6)) (fun _ _ => True) (fun _ => False)) 0 0 (fun _ => False) := by
  refine Met.ofW (cc := cX11_status) (maxL := 2) (ret := (some .int)) (by decide) rfl ?_
  intro p e s m args below meth c s₁ B hml hv
  obtain ⟨rfl, hP, hK⟩ := hv
  have hx := B.exec
  have hb := B.bytes
  have hr := B.returns
  have hts := atoms_spec (ws := wz yX11_status cX11_status 2 (some .int)) B.pre
  have ht : ∀ w ∈ lw_gd, w.before _ s = true := fun w h => hts w (List.mem_cons_of_mem _ h)
  have hown : s.vm.findClass RX11 = some m.cls := findClass_of_methodNamed B.named
  have hlocks := B.notSynchronized
  have hS : va_S (fun _ => False) s.heap s.heap [] := va_S.rf
  have hl := lv_entry ([.ref (a 0), .int p0]) (n := 2) (Nat.le_of_ble_eq_true rfl)
  rw [lg_entry_eq]
  generalize (lg_sl ([.ref (a 0), .int p0]) ++ List.replicate (2 - (lg_sl ([.ref (a 0), .int p0])).length) Slot.unset).toArray = ls at hl ⊢
  have hl : lv_has ls 2 [(0, .ref (a 0)), (1, .int p0)] := hl
  refine lv_iload_n hx hb dX11_status_0 rfl (lv_at hl 1 rfl) ?_
  refine lv_if_lt (tgt := 19) hx hb dX11_status_1 (by decide) (fun c_1 => ?_) (fun c_1 => ?_)
  · have g_2 : p0.toInt < 0 := z_lt rfl (by decide) c_1
    refine lv_iconst (v := (-1)) hx hb dX11_status_19 (by decide) ?_
    exact W.iret (v := (-1)) hx hb hr (fun t ht hW => ⟨⟨(-1), (), rfl, Or.inl (⟨rfl, zu_lt rfl (by decide) g_2⟩), trivial⟩, hS.F ht⟩) hS.2.2 dX11_status_20
  · have g_2 : 0 ≤ p0.toInt := z_nlt rfl (by decide) c_1
    refine lv_iload_n hx hb dX11_status_4 rfl (lv_at hl 1 rfl) ?_
    refine lv_bipush (v := 6) hx hb dX11_status_5 (by decide) ?_
    refine lv_icmp_ge (tgt := 19) hx hb dX11_status_7 (by decide) (fun c_3 => ?_) (fun c_3 => ?_)
    · have g_4 : 6 ≤ p0.toInt := z_le (by decide) rfl c_3
      refine lv_iconst (v := (-1)) hx hb dX11_status_19 (by decide) ?_
      exact W.iret (v := (-1)) hx hb hr (fun t ht hW => ⟨⟨(-1), (), rfl, Or.inr (Or.inl (⟨rfl, zu_ge rfl (by decide) g_2, zu_ge rfl (by decide) g_4⟩)), trivial⟩, hS.F ht⟩) hS.2.2 dX11_status_20
    · have g_4 : p0.toInt < 6 := z_nle (by decide) rfl c_3
      refine lv_aload_n hx hb dX11_status_10 rfl (lv_at hl 0 rfl) ?_
      refine va_get (D := D) (ci := 11) (v := .ref (a 9)) (C := RX11) (T := TX11) (N := 13) hx hb ht inX11 hown hK hP 0 rfl rfl 8 (by decide) (ht (.fieldLink RX11 60 "CloneVolumes" "refused" "[I") fl_X11_60) (fun _ h9 => h9) rfl dX11_status_11 ?_
      refine lv_iload_n hx hb dX11_status_14 rfl (lv_at hl 1 rfl) ?_
      refine va_iald hx hb hK hP 1 0 rfl rfl (z_in (by omega) (by omega)) dX11_status_15 ?_
      refine z_topi (y := 0) (by decide) ?_
      refine lv_goto (tgt := 20) hx hb dX11_status_16 (by decide) ?_
      exact W.iret (v := 0) hx hb hr (fun t ht hW => ⟨⟨0, (), rfl, Or.inr (Or.inr (⟨rfl, zu_ge rfl (by decide) g_2, zu_lt rfl (by decide) g_4⟩)), trivial⟩, hS.F ht⟩) hS.2.2 dX11_status_20
