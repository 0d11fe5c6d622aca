set_option maxHeartbeats 4000000 in
set_option maxRecDepth 100000 in
theorem k_X12_isIn (l : Launch) (D : va_G) (p0 p1 p2 : Int64) : Met l yX12_isIn (wz yX12_isIn cX12_isIn 6 (some .boolean)) { frames := 0, cells := 0, slots := 0, locals := 0 } (va_Pc [.long p0, .long p1, .long p2] (zP D [])) (va_Qi (fun r (_ : Unit) => (r = 0 ∧ p0.toInt < p1.toInt) ∨ (r = 0 ∧ p1.toInt ≤ p0.toInt ∧ p2.toInt < p0.toInt) ∨ (r = 1 ∧ p1.toInt ≤ p0.toInt ∧ p0.toInt ≤ p2.toInt)) (fun _ _ => True) (fun _ => False)) 0 0 (fun _ => False) := by
  refine Met.ofW (cc := cX12_isIn) (maxL := 6) (ret := (some .boolean)) (by decide) rfl ?_
  intro p e s m args below meth c s₁ B hml hv
  obtain ⟨rfl, hP, hK⟩ := hv
  have hx := B.exec
  have hb := B.bytes
  have hr := B.returns
  have hts := atoms_spec (ws := wz yX12_isIn cX12_isIn 6 (some .boolean)) B.pre
  have ht : ∀ w ∈ lw_gd, w.before _ s = true := fun w h => hts w (List.mem_cons_of_mem _ h)
  have hown : s.vm.findClass RX12 = some m.cls := findClass_of_methodNamed B.named
  have hlocks := B.notSynchronized
  have hS : va_S (fun _ => False) s.heap s.heap [] := va_S.rf
  have hl := lv_entry ([.long p0, .long p1, .long p2]) (n := 6) (Nat.le_of_ble_eq_true rfl)
  rw [lg_entry_eq]
  generalize (lg_sl ([.long p0, .long p1, .long p2]) ++ List.replicate (6 - (lg_sl ([.long p0, .long p1, .long p2])).length) Slot.unset).toArray = ls at hl ⊢
  have hl : lv_has ls 6 [(0, .long p0), (2, .long p1), (4, .long p2)] := hl
  refine lv_lload_n hx hb dX12_isIn_0 rfl (lv_at hl 0 rfl) ?_
  refine lv_lload_n hx hb dX12_isIn_1 rfl (lv_at hl 1 rfl) ?_
  refine W.lcmp hx hb dX12_isIn_2 ?_
  refine lv_if_lt (tgt := 17) hx hb dX12_isIn_3 (by decide) (fun c_1 => ?_) (fun c_1 => ?_)
  · have g_2 : p0.toInt < p1.toInt := zc_lt rfl rfl c_1
    refine lv_iconst (v := 0) hx hb dX12_isIn_17 (by decide) ?_
    exact W.zret (v := 0) hx hb hr (by decide) (fun t ht hW => ⟨⟨0, (), rfl, Or.inl (⟨rfl, zu_lt rfl rfl g_2⟩), trivial⟩, hS.F ht⟩) hS.2.2 dX12_isIn_18
  · have g_2 : p1.toInt ≤ p0.toInt := zc_lt_n rfl rfl c_1
    refine lv_lload_n hx hb dX12_isIn_6 rfl (lv_at hl 0 rfl) ?_
    refine lv_lload hx hb dX12_isIn_7 (lv_at hl 2 rfl) ?_
    refine W.lcmp hx hb dX12_isIn_9 ?_
    refine lv_if_gt (tgt := 17) hx hb dX12_isIn_10 (by decide) (fun c_3 => ?_) (fun c_3 => ?_)
    · have g_4 : p2.toInt < p0.toInt := zc_gt rfl rfl c_3
      refine lv_iconst (v := 0) hx hb dX12_isIn_17 (by decide) ?_
      exact W.zret (v := 0) hx hb hr (by decide) (fun t ht hW => ⟨⟨0, (), rfl, Or.inr (Or.inl (⟨rfl, zu_ge rfl rfl g_2, zu_gt rfl rfl g_4⟩)), trivial⟩, hS.F ht⟩) hS.2.2 dX12_isIn_18
    · have g_4 : p0.toInt ≤ p2.toInt := zc_gt_n rfl rfl c_3
      refine lv_iconst (v := 1) hx hb dX12_isIn_13 (by decide) ?_
      refine lv_goto (tgt := 18) hx hb dX12_isIn_14 (by decide) ?_
      exact W.zret (v := 1) hx hb hr (by decide) (fun t ht hW => ⟨⟨1, (), rfl, Or.inr (Or.inr (⟨rfl, zu_ge rfl rfl g_2, zu_le rfl rfl g_4⟩)), trivial⟩, hS.F ht⟩) hS.2.2 dX12_isIn_18
set_option maxHeartbeats 4000000 in
set_option maxRecDepth 100000 in
theorem k_X12_isVolume (l : Launch) (D : va_G) (a : Nat → Nat) (p0 : Int64) : Met l yX12_isVolume (wz yX12_isVolume cX12_isVolume 3 (some .boolean)) { frames := 1, cells := 0, slots := 0, locals := 60 } (va_Pc [.ref (a 200), .long p0] (zP D [((a 200), .inr (12, [.ref (a 0), .int 0, .int 0, .int 0, .int 0, .int 0, .int 0, .int 0, .int (-1), .ref (a 9), .int 0, .ref (a 11), .ref (a 12), .ref (a 13), .ref (a 14), .ref (a 15), .ref (a 16), .ref (a 17), .ref (a 18), .ref (a 19), .ref (a 20), .ref (a 21), .ref (a 22), .ref (a 23), .ref (a 24), .ref (a 25), .ref (a 26), .ref (a 27), .ref (a 28), .ref (a 29), .ref (a 30), .ref (a 31), .ref (a 32), .ref (a 33), .ref (a 34), .ref (a 35), .ref (a 36), .ref (a 37), .int 0, .ref (a 39), .ref (a 40), .ref (a 41), .ref (a 42), .ref (a 43), .ref (a 44), .int 0, .int 0, .int 0, .int 0, .ref (a 49), .int 0, .int 0, .int 0, .int 0, .ref (a 54), .int 0, .ref (a 56), .ref (a 57), .ref (a 58), .ref (a 59), .ref (a 60), .ref (a 61), .ref (a 62), .ref (a 63), .ref (a 64), .ref (a 65), .ref (a 66), .int 0, .int 0, .ref (a 69), .int 0, .int 0, .ref (a 72), .int 0, .ref (a 74), .ref (a 75), .int 0, .int 0, .long 1, .ref (a 79), .ref (a 80), .ref (a 81), .ref (a 82), .ref (a 83), .ref (a 84), .ref (a 85), .ref (a 86), .ref (a 87), .ref (a 88), .ref (a 89), .ref (a 90), .ref (a 91), .ref (a 92), .ref (a 93), .ref (a 94), .ref (a 95), .ref (a 96), .ref (a 97), .ref (a 98), .ref (a 99), .ref (a 100), .ref (a 101), .int 0, .ref (a 103), .int 0, .int 0, .int 0, .ref (a 107), .int 0, .long 0, .int 0, .ref (a 111), .int 0, .ref (a 113), .int 0, .ref (a 115)])), ((a 49), .inl (D.1 13, 906, .inl (fun _ => 0)))])) (va_Qi (fun r (_ : Unit) => r = 0) (fun _ _ => True) (fun _ => False)) 0 0 (fun _ => False) := by
  refine Met.ofW (cc := cX12_isVolume) (maxL := 3) (ret := (some .boolean)) (by decide) rfl ?_
  intro p e s m args below meth c s₁ B hml hv
  obtain ⟨rfl, hP, hK⟩ := hv
  have hx := B.exec
  have hb := B.bytes
  have hr := B.returns
  have hts := atoms_spec (ws := wz yX12_isVolume cX12_isVolume 3 (some .boolean)) B.pre
  have ht : ∀ w ∈ lw_gd, w.before _ s = true := fun w h => hts w (List.mem_cons_of_mem _ h)
  have hown : s.vm.findClass RX12 = some m.cls := findClass_of_methodNamed B.named
  have hlocks := B.notSynchronized
  have hS : va_S (fun _ => False) s.heap s.heap [] := va_S.rf
  have hl := lv_entry ([.ref (a 200), .long p0]) (n := 3) (Nat.le_of_ble_eq_true rfl)
  rw [lg_entry_eq]
  generalize (lg_sl ([.ref (a 200), .long p0]) ++ List.replicate (3 - (lg_sl ([.ref (a 200), .long p0])).length) Slot.unset).toArray = ls at hl ⊢
  have hl : lv_has ls 3 [(0, .ref (a 200)), (1, .long p0)] := hl
  refine lv_lload_n hx hb dX12_isVolume_0 rfl (lv_at hl 1 rfl) ?_
  refine lv_lconst (v := 0) hx hb dX12_isVolume_1 (by decide) ?_
  refine lv_ldc2 (own := RX12) (v := 7) hx hb hown (ht _ cl_X12_441) dX12_isVolume_2 ?_
  refine zcS (As := [.long p0, .long 0, .long 7]) (rest := []) (n := 3) ⟨hx, hb, hml, hown, ht⟩ (k_X12_isIn l D p0 0 7) (zgT ml_X12_309 st_X12_isIn in_X12 co_X12_isIn) rfl rfl (by decide +kernel) ⟨Nat.le_of_ble_eq_true rfl, Nat.le_of_ble_eq_true rfl⟩ hK hP hS [] rfl rfl hl.1 rfl (by decide) dX12_isVolume_5 ⟨Nat.le_of_ble_eq_true rfl, Nat.le_of_ble_eq_true rfl⟩ (fun r_1 H locs hw hP hS => ?_)
  rcases hw with ⟨rfl, g_2⟩ | ⟨rfl, g_3, g_4⟩ | ⟨rfl, g_5, g_6⟩
  · skip
    have g_2 : p0.toInt < 0 := zt_lt rfl (by decide) g_2
    refine lv_if_eq (tgt := 35) hx hb dX12_isVolume_8 (by decide) (fun _ => ?_) (fun c_7 => (z_abs c_7 (by decide)).elim)
    refine lv_iconst (v := 0) hx hb dX12_isVolume_35 (by decide) ?_
    exact W.zret (v := 0) hx hb hr (by decide) (fun t ht hW => ⟨⟨0, (), rfl, rfl, trivial⟩, hS.F ht⟩) hS.2.2 dX12_isVolume_36
  · skip
    have g_3 : 0 ≤ p0.toInt := zt_ge rfl (by decide) g_3
    have g_4 : 7 < p0.toInt := zt_gt rfl (by decide) g_4
    refine lv_if_eq (tgt := 35) hx hb dX12_isVolume_8 (by decide) (fun _ => ?_) (fun c_9 => (z_abs c_9 (by decide)).elim)
    refine lv_iconst (v := 0) hx hb dX12_isVolume_35 (by decide) ?_
    exact W.zret (v := 0) hx hb hr (by decide) (fun t ht hW => ⟨⟨0, (), rfl, rfl, trivial⟩, hS.F ht⟩) hS.2.2 dX12_isVolume_36
  · skip
    have g_5 : 0 ≤ p0.toInt := zt_ge rfl (by decide) g_5
    have g_6 : p0.toInt ≤ 7 := zt_le rfl (by decide) g_6
    refine lv_if_eq (tgt := 35) hx hb dX12_isVolume_8 (by decide) (fun c_11 => (z_abs c_11 (by decide)).elim) (fun _ => ?_)
    refine lv_aload_n hx hb dX12_isVolume_11 rfl (lv_at hl 0 rfl) ?_
    refine va_get (D := D) (ci := 12) (v := .int 0) (C := RX12) (T := TX12) (N := 116) hx hb ht inX12 hown hK hP 0 rfl rfl 47 (by decide) (ht (.fieldLink RX12 406 "CloneVolumesModel" "isTold" "Z") fl_X12_406) (fun _ h9 => h9) rfl dX12_isVolume_12 ?_
    refine lv_if_eq (tgt := 35) hx hb dX12_isVolume_15 (by decide) (fun _ => ?_) (fun c_13 => (z_abs c_13 (by decide)).elim)
    refine lv_iconst (v := 0) hx hb dX12_isVolume_35 (by decide) ?_
    exact W.zret (v := 0) hx hb hr (by decide) (fun t ht hW => ⟨⟨0, (), rfl, rfl, trivial⟩, hS.F ht⟩) hS.2.2 dX12_isVolume_36
set_option maxHeartbeats 4000000 in
set_option maxRecDepth 100000 in
theorem k_X12_status (l : Launch) (D : va_G) (a : Nat → Nat) (p0 : Int32) : Met l yX12_status (wz yX12_status cX12_status 2 (some .int)) { frames := 1, cells := 0, slots := 0, locals := 60 } (va_Pc [.ref (a 200), .int p0] (zP D [((a 200), .inr (12, [.ref (a 0), .int 0, .int 0, .int 0, .int 0, .int 0, .int 0, .int 0, .int (-1), .ref (a 9), .int 0, .ref (a 11), .ref (a 12), .ref (a 13), .ref (a 14), .ref (a 15), .ref (a 16), .ref (a 17), .ref (a 18), .ref (a 19), .ref (a 20), .ref (a 21), .ref (a 22), .ref (a 23), .ref (a 24), .ref (a 25), .ref (a 26), .ref (a 27), .ref (a 28), .ref (a 29), .ref (a 30), .ref (a 31), .ref (a 32), .ref (a 33), .ref (a 34), .ref (a 35), .ref (a 36), .ref (a 37), .int 0, .ref (a 39), .ref (a 40), .ref (a 41), .ref (a 42), .ref (a 43), .ref (a 44), .int 0, .int 0, .int 0, .int 0, .ref (a 49), .int 0, .int 0, .int 0, .int 0, .ref (a 54), .int 0, .ref (a 56), .ref (a 57), .ref (a 58), .ref (a 59), .ref (a 60), .ref (a 61), .ref (a 62), .ref (a 63), .ref (a 64), .ref (a 65), .ref (a 66), .int 0, .int 0, .ref (a 69), .int 0, .int 0, .ref (a 72), .int 0, .ref (a 74), .ref (a 75), .int 0, .int 0, .long 1, .ref (a 79), .ref (a 80), .ref (a 81), .ref (a 82), .ref (a 83), .ref (a 84), .ref (a 85), .ref (a 86), .ref (a 87), .ref (a 88), .ref (a 89), .ref (a 90), .ref (a 91), .ref (a 92), .ref (a 93), .ref (a 94), .ref (a 95), .ref (a 96), .ref (a 97), .ref (a 98), .ref (a 99), .ref (a 100), .ref (a 101), .int 0, .ref (a 103), .int 0, .int 0, .int 0, .ref (a 107), .int 0, .long 0, .int 0, .ref (a 111), .int 0, .ref (a 113), .int 0, .ref (a 115)])), ((a 9), .inl (D.1 13, 6, .inl (fun _ => 0)))])) (va_Qi (fun r (_ : Unit) => (r = (-1) ∧ p0.toInt64.toInt < 0) ∨ (r = (-1) ∧ 0 ≤ p0.toInt64.toInt ∧ 5 < p0.toInt64.toInt) ∨ (r = 0 ∧ 0 ≤ p0.toInt64.toInt ∧ p0.toInt64.toInt ≤ 5)) (fun _ _ => True) (fun _ => False)) 0 0 (fun _ => False) := by
  refine Met.ofW (cc := cX12_status) (maxL := 2) (ret := (some .int)) (by decide) rfl ?_
  intro p e s m args below meth c s₁ B hml hv
  obtain ⟨rfl, hP, hK⟩ := hv
  have hx := B.exec
  have hb := B.bytes
  have hr := B.returns
  have hts := atoms_spec (ws := wz yX12_status cX12_status 2 (some .int)) B.pre
  have ht : ∀ w ∈ lw_gd, w.before _ s = true := fun w h => hts w (List.mem_cons_of_mem _ h)
  have hown : s.vm.findClass RX12 = some m.cls := findClass_of_methodNamed B.named
  have hlocks := B.notSynchronized
  have hS : va_S (fun _ => False) s.heap s.heap [] := va_S.rf
  have hl := lv_entry ([.ref (a 200), .int p0]) (n := 2) (Nat.le_of_ble_eq_true rfl)
  rw [lg_entry_eq]
  generalize (lg_sl ([.ref (a 200), .int p0]) ++ List.replicate (2 - (lg_sl ([.ref (a 200), .int p0])).length) Slot.unset).toArray = ls at hl ⊢
  have hl : lv_has ls 2 [(0, .ref (a 200)), (1, .int p0)] := hl
  refine lv_iload_n hx hb dX12_status_0 rfl (lv_at hl 1 rfl) ?_
  refine lv_i2l (v := p0.toInt64) hx hb dX12_status_1 rfl ?_
  refine lv_lconst (v := 0) hx hb dX12_status_2 (by decide) ?_
  refine lv_ldc2 (own := RX12) (v := 5) hx hb hown (ht _ cl_X12_590) dX12_status_3 ?_
  refine zcS (As := [.long p0.toInt64, .long 0, .long 5]) (rest := []) (n := 3) ⟨hx, hb, hml, hown, ht⟩ (k_X12_isIn l D p0.toInt64 0 5) (zgT ml_X12_309 st_X12_isIn in_X12 co_X12_isIn) rfl rfl (by decide +kernel) ⟨Nat.le_of_ble_eq_true rfl, Nat.le_of_ble_eq_true rfl⟩ hK hP hS [] rfl rfl hl.1 rfl (by decide) dX12_status_6 ⟨Nat.le_of_ble_eq_true rfl, Nat.le_of_ble_eq_true rfl⟩ (fun r_1 H locs hw hP hS => ?_)
  rcases hw with ⟨rfl, g_2⟩ | ⟨rfl, g_3, g_4⟩ | ⟨rfl, g_5, g_6⟩
  · skip
    have g_2 : p0.toInt < 0 := zt_lt (Int32.toInt_toInt64 _) (by decide) g_2
    refine lv_if_eq (tgt := 21) hx hb dX12_status_9 (by decide) (fun _ => ?_) (fun c_7 => (z_abs c_7 (by decide)).elim)
    refine lv_iconst (v := (-1)) hx hb dX12_status_21 (by decide) ?_
    exact W.iret (v := (-1)) hx hb hr (fun t ht hW => ⟨⟨(-1), (), rfl, Or.inl (⟨rfl, zu_lt (Int32.toInt_toInt64 _) (by decide) g_2⟩), trivial⟩, hS.F ht⟩) hS.2.2 dX12_status_22
  · skip
    have g_3 : 0 ≤ p0.toInt := zt_ge (Int32.toInt_toInt64 _) (by decide) g_3
    have g_4 : 5 < p0.toInt := zt_gt (Int32.toInt_toInt64 _) (by decide) g_4
    refine lv_if_eq (tgt := 21) hx hb dX12_status_9 (by decide) (fun _ => ?_) (fun c_9 => (z_abs c_9 (by decide)).elim)
    refine lv_iconst (v := (-1)) hx hb dX12_status_21 (by decide) ?_
    exact W.iret (v := (-1)) hx hb hr (fun t ht hW => ⟨⟨(-1), (), rfl, Or.inr (Or.inl (⟨rfl, zu_ge (Int32.toInt_toInt64 _) (by decide) g_3, zu_gt (Int32.toInt_toInt64 _) (by decide) g_4⟩)), trivial⟩, hS.F ht⟩) hS.2.2 dX12_status_22
  · skip
    have g_5 : 0 ≤ p0.toInt := zt_ge (Int32.toInt_toInt64 _) (by decide) g_5
    have g_6 : p0.toInt ≤ 5 := zt_le (Int32.toInt_toInt64 _) (by decide) g_6
    refine lv_if_eq (tgt := 21) hx hb dX12_status_9 (by decide) (fun c_11 => (z_abs c_11 (by decide)).elim) (fun _ => ?_)
    refine lv_aload_n hx hb dX12_status_12 rfl (lv_at hl 0 rfl) ?_
    refine va_get (D := D) (ci := 12) (v := .ref (a 9)) (C := RX12) (T := TX12) (N := 116) hx hb ht inX12 hown hK hP 0 rfl rfl 9 (by decide) (ht (.fieldLink RX12 17 "CloneVolumesModel" "refused" "[I") fl_X12_17) (fun _ h9 => h9) rfl dX12_status_13 ?_
    refine lv_iload_n hx hb dX12_status_16 rfl (lv_at hl 1 rfl) ?_
    refine va_iald hx hb hK hP 1 0 rfl rfl (z_in (by omega) (by omega)) dX12_status_17 ?_
    refine z_topi (y := 0) (by decide) ?_
    refine lv_goto (tgt := 22) hx hb dX12_status_18 (by decide) ?_
    exact W.iret (v := 0) hx hb hr (fun t ht hW => ⟨⟨0, (), rfl, Or.inr (Or.inr (⟨rfl, zu_ge (Int32.toInt_toInt64 _) (by decide) g_5, zu_le (Int32.toInt_toInt64 _) (by decide) g_6⟩)), trivial⟩, hS.F ht⟩) hS.2.2 dX12_status_22
