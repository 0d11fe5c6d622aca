theorem fl_J0_38 : Cond.fieldLink RJ0 38 "java/lang/String" "COMPACT_STRINGS" "Z" ∈ lw_gd := zm (List.mem_of_getElem? (i := 261) (by decide +kernel)) rfl
theorem fl_J0_15 : Cond.fieldLink RJ0 15 "java/lang/String" "coder" "B" ∈ lw_gd := zm (List.mem_of_getElem? (i := 2603) (by decide +kernel)) rfl
theorem fl_J0_9 : Cond.fieldLink RJ0 9 "java/lang/String" "value" "[B" ∈ lw_gd := zm (List.mem_of_getElem? (i := 2604) (by decide +kernel)) rfl
theorem ml_J0_492 : Cond.methodLink RJ0 492 yJ0_isLatin1_aae02 ∈ lw_gd := zm (List.mem_of_getElem? (i := 257) (by decide +kernel)) rfl
theorem im_J0_isLatin1_aae02 : Cond.instanceMethod yJ0_isLatin1_aae02 ∈ lw_gd := zm (List.mem_of_getElem? (i := 258) (by decide +kernel)) rfl
theorem se_J0_isLatin1_aae02 : Cond.selects RJ0 yJ0_isLatin1_aae02 yJ0_isLatin1_aae02 ∈ lw_gd := zm (List.mem_of_getElem? (i := 259) (by decide +kernel)) rfl
theorem in_J0 : Cond.initialized RJ0 ∈ lw_gd := zm (List.mem_of_getElem? (i := 201) (by decide +kernel)) rfl
theorem co_J0_isLatin1_aae02 : Cond.code yJ0_isLatin1_aae02 cJ0_isLatin1_aae02 1 (some .boolean) ∈ lw_gd := zm (List.mem_of_getElem? (i := 260) (by decide +kernel)) rfl
theorem ml_J0_299 : Cond.methodLink RJ0 299 yJ1_toChars_9d188 ∈ lw_gd := zm (List.mem_of_getElem? (i := 263) (by decide +kernel)) rfl
theorem st_J1_toChars_9d188 : Cond.static yJ1_toChars_9d188 ∈ lw_gd := zm (List.mem_of_getElem? (i := 264) (by decide +kernel)) rfl
theorem in_J1 : Cond.initialized RJ1 ∈ lw_gd := zm (List.mem_of_getElem? (i := 202) (by decide +kernel)) rfl
theorem co_J1_toChars_9d188 : Cond.code yJ1_toChars_9d188 cJ1_toChars_9d188 2 (some (.array .char)) ∈ lw_gd := zm (List.mem_of_getElem? (i := 265) (by decide +kernel)) rfl
theorem ml_J1_13 : Cond.methodLink RJ1 13 yJ1_inflate_03870 ∈ lw_gd := zm (List.mem_of_getElem? (i := 266) (by decide +kernel)) rfl
theorem st_J1_inflate_03870 : Cond.static yJ1_inflate_03870 ∈ lw_gd := zm (List.mem_of_getElem? (i := 267) (by decide +kernel)) rfl
theorem co_J1_inflate_03870 : Cond.code yJ1_inflate_03870 cJ1_inflate_03870 6 none ∈ lw_gd := zm (List.mem_of_getElem? (i := 268) (by decide +kernel)) rfl
theorem ac_char : Cond.arrayClass .char ∈ lw_gd := zm (List.mem_of_getElem? (i := 338) (by decide +kernel)) rfl
theorem dJ0_isLatin1_aae02_0 : decode cJ0_isLatin1_aae02 0 = .ok (.getstatic 38, 3) := by decide +kernel
theorem dJ0_isLatin1_aae02_3 : decode cJ0_isLatin1_aae02 3 = .ok (.ifCond .eq 14, 3) := by decide +kernel
theorem dJ0_isLatin1_aae02_6 : decode cJ0_isLatin1_aae02 6 = .ok (.aload_n 0, 1) := by decide +kernel
theorem dJ0_isLatin1_aae02_7 : decode cJ0_isLatin1_aae02 7 = .ok (.getfield 15, 3) := by decide +kernel
theorem dJ0_isLatin1_aae02_10 : decode cJ0_isLatin1_aae02 10 = .ok (.ifCond .ne 7, 3) := by decide +kernel
theorem dJ0_isLatin1_aae02_13 : decode cJ0_isLatin1_aae02 13 = .ok (.iconst 1, 1) := by decide +kernel
theorem dJ0_isLatin1_aae02_14 : decode cJ0_isLatin1_aae02 14 = .ok (.goto 4, 3) := by decide +kernel
theorem dJ0_isLatin1_aae02_18 : decode cJ0_isLatin1_aae02 18 = .ok (.ireturn, 1) := by decide +kernel
theorem dJ0_toCharArray_70df3_0 : decode cJ0_toCharArray_70df3 0 = .ok (.aload_n 0, 1) := by decide +kernel
theorem dJ0_toCharArray_70df3_1 : decode cJ0_toCharArray_70df3 1 = .ok (.invokevirtual 492, 3) := by decide +kernel
theorem dJ0_toCharArray_70df3_4 : decode cJ0_toCharArray_70df3 4 = .ok (.ifCond .eq 13, 3) := by decide +kernel
theorem dJ0_toCharArray_70df3_7 : decode cJ0_toCharArray_70df3 7 = .ok (.aload_n 0, 1) := by decide +kernel
theorem dJ0_toCharArray_70df3_8 : decode cJ0_toCharArray_70df3 8 = .ok (.getfield 9, 3) := by decide +kernel
theorem dJ0_toCharArray_70df3_11 : decode cJ0_toCharArray_70df3 11 = .ok (.invokestatic 299, 3) := by decide +kernel
theorem dJ0_toCharArray_70df3_14 : decode cJ0_toCharArray_70df3 14 = .ok (.goto 10, 3) := by decide +kernel
theorem dJ0_toCharArray_70df3_24 : decode cJ0_toCharArray_70df3 24 = .ok (.areturn, 1) := by decide +kernel
theorem dJ1_inflate_03870_0 : decode cJ1_inflate_03870 0 = .ok (.iconst 0, 1) := by decide +kernel
theorem dJ1_inflate_03870_1 : decode cJ1_inflate_03870 1 = .ok (.istore 5, 2) := by decide +kernel
theorem dJ1_inflate_03870_3 : decode cJ1_inflate_03870 3 = .ok (.iload 5, 2) := by decide +kernel
theorem dJ1_inflate_03870_5 : decode cJ1_inflate_03870 5 = .ok (.iload 4, 2) := by decide +kernel
theorem dJ1_inflate_03870_7 : decode cJ1_inflate_03870 7 = .ok (.if_icmp .ge 26, 3) := by decide +kernel
theorem dJ1_inflate_03870_10 : decode cJ1_inflate_03870 10 = .ok (.aload_n 2, 1) := by decide +kernel
theorem dJ1_inflate_03870_11 : decode cJ1_inflate_03870 11 = .ok (.iload_n 3, 1) := by decide +kernel
theorem dJ1_inflate_03870_12 : decode cJ1_inflate_03870 12 = .ok (.iinc 3 1, 3) := by decide +kernel
theorem dJ1_inflate_03870_15 : decode cJ1_inflate_03870 15 = .ok (.aload_n 0, 1) := by decide +kernel
theorem dJ1_inflate_03870_16 : decode cJ1_inflate_03870 16 = .ok (.iload_n 1, 1) := by decide +kernel
theorem dJ1_inflate_03870_17 : decode cJ1_inflate_03870 17 = .ok (.iinc 1 1, 3) := by decide +kernel
theorem dJ1_inflate_03870_20 : decode cJ1_inflate_03870 20 = .ok (.baload, 1) := by decide +kernel
theorem dJ1_inflate_03870_21 : decode cJ1_inflate_03870 21 = .ok (.sipush 255, 3) := by decide +kernel
theorem dJ1_inflate_03870_24 : decode cJ1_inflate_03870 24 = .ok (.iand, 1) := by decide +kernel
theorem dJ1_inflate_03870_25 : decode cJ1_inflate_03870 25 = .ok (.i2c, 1) := by decide +kernel
theorem dJ1_inflate_03870_26 : decode cJ1_inflate_03870 26 = .ok (.castore, 1) := by decide +kernel
theorem dJ1_inflate_03870_27 : decode cJ1_inflate_03870 27 = .ok (.iinc 5 1, 3) := by decide +kernel
theorem dJ1_inflate_03870_30 : decode cJ1_inflate_03870 30 = .ok (.goto (-27), 3) := by decide +kernel
theorem dJ1_inflate_03870_33 : decode cJ1_inflate_03870 33 = .ok (.return_, 1) := by decide +kernel
theorem dJ1_toChars_9d188_0 : decode cJ1_toChars_9d188 0 = .ok (.aload_n 0, 1) := by decide +kernel
theorem dJ1_toChars_9d188_1 : decode cJ1_toChars_9d188 1 = .ok (.arraylength, 1) := by decide +kernel
theorem dJ1_toChars_9d188_2 : decode cJ1_toChars_9d188 2 = .ok (.newarray .char, 2) := by decide +kernel
theorem dJ1_toChars_9d188_4 : decode cJ1_toChars_9d188 4 = .ok (.astore_n 1, 1) := by decide +kernel
theorem dJ1_toChars_9d188_5 : decode cJ1_toChars_9d188 5 = .ok (.aload_n 0, 1) := by decide +kernel
theorem dJ1_toChars_9d188_6 : decode cJ1_toChars_9d188 6 = .ok (.iconst 0, 1) := by decide +kernel
theorem dJ1_toChars_9d188_7 : decode cJ1_toChars_9d188 7 = .ok (.aload_n 1, 1) := by decide +kernel
theorem dJ1_toChars_9d188_8 : decode cJ1_toChars_9d188 8 = .ok (.iconst 0, 1) := by decide +kernel
theorem dJ1_toChars_9d188_9 : decode cJ1_toChars_9d188 9 = .ok (.aload_n 0, 1) := by decide +kernel
theorem dJ1_toChars_9d188_10 : decode cJ1_toChars_9d188 10 = .ok (.arraylength, 1) := by decide +kernel
theorem dJ1_toChars_9d188_11 : decode cJ1_toChars_9d188 11 = .ok (.invokestatic 13, 3) := by decide +kernel
theorem dJ1_toChars_9d188_14 : decode cJ1_toChars_9d188 14 = .ok (.aload_n 1, 1) := by decide +kernel
theorem dJ1_toChars_9d188_15 : decode cJ1_toChars_9d188 15 = .ok (.areturn, 1) := by decide +kernel
set_option maxHeartbeats 4000000 in
set_option maxRecDepth 100000 in
theorem kJ_isLatin1 (l : Launch) (b0 qS vS : Nat) (fS : Nat → Int32) : Met l yJ0_isLatin1_aae02 (wz yJ0_isLatin1_aae02 cJ0_isLatin1_aae02 1 (some .boolean)) { frames := 0, cells := 0, slots := 0, locals := 0 } (va_Pc [.ref qS] (EE b0 qS vS fS)) (va_Qi (fun r (_ : Unit) => r = 1) (fun _ _ => True) (fun _ => False)) 0 0 (fun _ => False) := by
  refine Met.ofW (cc := cJ0_isLatin1_aae02) (maxL := 1) (ret := (some .boolean)) (by decide) rfl ?_
  intro p e s m args below meth c s₁ B hml hv
  obtain ⟨rfl, hE⟩ := hv
  have hx := B.exec
  have hb := B.bytes
  have hr := B.returns
  have hts := atoms_spec (ws := wz yJ0_isLatin1_aae02 cJ0_isLatin1_aae02 1 (some .boolean)) B.pre
  have ht : ∀ w ∈ lw_gd, w.before _ s = true := fun w h => hts w (List.mem_cons_of_mem _ h)
  have hown : s.vm.findClass RJ0 = some m.cls := findClass_of_methodNamed B.named
  have hlocks := B.notSynchronized
  have hS : va_S (fun _ => False) s.heap s.heap [] := va_S.rf
  have hl := lv_entry ([.ref qS]) (n := 1) (Nat.le_of_ble_eq_true rfl)
  rw [lg_entry_eq]
  generalize (lg_sl ([.ref qS]) ++ List.replicate (1 - (lg_sl ([.ref qS])).length) Slot.unset).toArray = ls at hl ⊢
  have hl : lv_has ls 1 [(0, .ref qS)] := hl
  have hZ := hE.2.2.2.2.2.narrow (B := fun _ => False) (fun _ h => h.elim)
  have hC := hE.2.2.1.narrow (B := fun _ => False) (fun _ h => h.elim)
  refine va_gets (own := RJ0) (ref := "java/lang/String") hx hb hZ hS hown (ht _ fl_J0_38) (fun _ h => h) dJ0_isLatin1_aae02_0 ?_
  refine lv_if_eq (tgt := 17) hx hb dJ0_isLatin1_aae02_3 (by decide) (fun c_1 => (z_abs c_1 (by decide)).elim) (fun _ => ?_)
  refine lv_aload_n hx hb dJ0_isLatin1_aae02_6 rfl (lv_at hl 0 rfl) ?_
  refine vk_getf (own := RJ0) (ref := "java/lang/String") hx hb hC hS hown (ht _ fl_J0_15) (fun _ h => h) dJ0_isLatin1_aae02_7 ?_
  refine lv_if_ne (tgt := 17) hx hb dJ0_isLatin1_aae02_10 (by decide) (fun c_2 => (z_abs c_2 (by decide)).elim) (fun _ => ?_)
  refine lv_iconst (v := 1) hx hb dJ0_isLatin1_aae02_13 (by decide) ?_
  refine lv_goto (tgt := 18) hx hb dJ0_isLatin1_aae02_14 (by decide) ?_
  exact W.zret (v := 1) hx hb hr (by decide) (fun t ht hW => ⟨⟨1, (), rfl, rfl, trivial⟩, hS.F ht⟩) hS.2.2 dJ0_isLatin1_aae02_18
set_option maxHeartbeats 4000000 in
set_option maxRecDepth 100000 in
theorem kJ_inflate (l : Launch) (D : va_G) (sz b0 qS vS : Nat) (fS : Nat → Int32) (h0 : Nat) (f : Nat → Int32) (hB : ∀ q, va_A [(h0, .inl (D.1 14, 179, .inl f))] sz q → b0 ≤ q) : Met l yJ1_inflate_03870 (wz yJ1_inflate_03870 cJ1_inflate_03870 6 none) { frames := 0, cells := 0, slots := 0, locals := 0 } (va_Pc [.ref vS, .int 0, .ref h0, .int 0, .int 179] (fun U => zW D sz [(h0, .inl (D.1 14, 179, .inl f))] U ∧ EE b0 qS vS fS U)) (va_Qv (fun (_ : Unit) => True) (fun _ t => True) (va_A [(h0, .inl (D.1 14, 179, .inl f))] sz)) 0 0 (va_A [(h0, .inl (D.1 14, 179, .inl f))] sz) := by
  refine Met.ofW (cc := cJ1_inflate_03870) (maxL := 6) (ret := none) (by decide) rfl ?_
  intro p e s m args below meth c s₁ B hml hv
  obtain ⟨rfl, ⟨hsz, hP, hK, hD0⟩, hE⟩ := hv
  have hx := B.exec
  have hb := B.bytes
  have hr := B.returns
  have hown : s.vm.findClass RJ1 = some m.cls := findClass_of_methodNamed B.named
  have hlocks := B.notSynchronized
  subst hsz
  have hD := hD0.self (sz := s.heap.size)
  generalize hAe : va_A [(h0, .inl (D.1 14, 179, .inl f))] s.heap.size = A at hB hD ⊢
  have hS : va_S A s.heap s.heap [] := va_S.rf
  have hT := hE.2.2.2.2.1.narrow hB
  have hl := lv_entry ([.ref vS, .int 0, .ref h0, .int 0, .int 179]) (n := 6) (Nat.le_of_ble_eq_true rfl)
  rw [lg_entry_eq]
  generalize (lg_sl ([.ref vS, .int 0, .ref h0, .int 0, .int 179]) ++ List.replicate (6 - (lg_sl ([.ref vS, .int 0, .ref h0, .int 0, .int 179])).length) Slot.unset).toArray = ls at hl ⊢
  have hl : lv_has ls 6 [(0, .ref vS), (1, .int 0), (2, .ref h0), (3, .int 0), (4, .int 179)] := hl
  refine lv_iconst (v := 0) hx hb dJ1_inflate_03870_0 (by decide) ?_
  refine lv_istore (lv' := [(5, .int 0), (0, .ref vS), (1, .int 0), (2, .ref h0), (3, .int 0), (4, .int 179)]) hx hb dJ1_inflate_03870_1 hl (by decide) rfl (fun ls hl => ?_)
  refine z_loop (σ := (Nat → Int32)) (N := 179) (fun i u H locs ls => va_P D vwCl [(h0, .inl (D.1 14, 179, .inl u))] H ∧ va_D A [(h0, .inl (D.1 14, 179, .inl u))] ∧ va_S A s.heap H locs ∧ lv_has ls 6 [(5, .int (nI i)), (0, .ref vS), (1, .int (nI i)), (2, .ref h0), (3, .int (nI i)), (4, .int 179)]) (fun i u H locs ls hi hI ih => ?_) 0 f (by decide) ⟨hP, hD, hS, hl⟩
  obtain ⟨hP, hD, hS, hl⟩ := hI
  refine lv_iload hx hb dJ1_inflate_03870_3 (lv_at hl 0 rfl) ?_
  refine lv_iload hx hb dJ1_inflate_03870_5 (lv_at hl 5 rfl) ?_
  refine lv_icmp_ge (tgt := 33) hx hb dJ1_inflate_03870_7 (by decide) (fun c_1 => ?_) (fun c_1 => ?_)
  · exact W.vret hx hb hr (fun t ht hW => ⟨⟨(), rfl, trivial, trivial⟩, hS.F ht⟩) hS.2.2 dJ1_inflate_03870_33
  · have g_1 : ((i : Nat) : Int) < 179 := z_nle (by decide) (nI_toInt (by omega)) c_1
    refine lv_aload_n hx hb dJ1_inflate_03870_10 rfl (lv_at hl 3 rfl) ?_
    refine lv_iload_n hx hb dJ1_inflate_03870_11 rfl (lv_at hl 4 rfl) ?_
    refine lv_iinc (v := nI (i + 1)) (lv' := [(3, .int (nI (i + 1))), (5, .int (nI i)), (0, .ref vS), (1, .int (nI i)), (2, .ref h0), (4, .int 179)]) hx hb dJ1_inflate_03870_12 hl (k := 4) rfl (z_inc _) (by decide) rfl (fun ls hl => ?_)
    refine lv_aload_n hx hb dJ1_inflate_03870_15 rfl (lv_at hl 2 rfl) ?_
    refine lv_iload_n hx hb dJ1_inflate_03870_16 rfl (lv_at hl 3 rfl) ?_
    refine lv_iinc (v := nI (i + 1)) (lv' := [(1, .int (nI (i + 1))), (3, .int (nI (i + 1))), (5, .int (nI i)), (0, .ref vS), (2, .ref h0), (4, .int 179)]) hx hb dJ1_inflate_03870_17 hl (k := 3) rfl (z_inc _) (by decide) rfl (fun ls hl => ?_)
    refine va_tb hx hb hT hS (vp_in_nI (by omega) (by omega)) rfl dJ1_inflate_03870_20 ?_
    refine lv_sipush (v := 255) hx hb dJ1_inflate_03870_21 (by decide) ?_
    refine lv_iand hx hb dJ1_inflate_03870_24 ?_
    refine lv_topi (fun x_1 ex_1 => ?_)
    obtain ⟨x_2, ex_2⟩ : ∃ z : Int32, (x_1.toUInt32 % 65536).toInt32 = z := ⟨_, rfl⟩
    refine lv_i2c (v := x_2) hx hb dJ1_inflate_03870_25 ex_2 ?_
    refine va_cast hx hb hK hP hD hS 0 1 rfl rfl (vp_in_nI (by omega) (by omega)) dJ1_inflate_03870_26 (fun H locs hP hD hS => ?_)
    generalize hf_2 : upd _ _ _ = f_2 at hP hD
    have hP : va_P D vwCl [(h0, .inl (D.1 14, 179, .inl f_2))] H := hP
    have hD : va_D A [(h0, .inl (D.1 14, 179, .inl f_2))] := hD
    refine lv_iinc (v := nI (i + 1)) (lv' := [(5, .int (nI (i + 1))), (1, .int (nI (i + 1))), (3, .int (nI (i + 1))), (0, .ref vS), (2, .ref h0), (4, .int 179)]) hx hb dJ1_inflate_03870_27 hl (k := 2) rfl (z_inc _) (by decide) rfl (fun ls hl => ?_)
    refine lv_goto (tgt := 3) hx hb dJ1_inflate_03870_30 (by decide) ?_
    exact ih f_2 _ _ _ (by omega) ⟨hP, hD, hS, lv_sub hl [0, 3, 1, 4, 2, 5] rfl⟩
set_option maxHeartbeats 4000000 in
set_option maxRecDepth 100000 in
theorem kJ_toChars (l : Launch) (D : va_G) (sz b0 qS vS : Nat) (fS : Nat → Int32) (hB : ∀ q, va_A [] sz q → b0 ≤ q) : Met l yJ1_toChars_9d188 (wz yJ1_toChars_9d188 cJ1_toChars_9d188 2 (some (.array .char))) { frames := 1, cells := 1, slots := 179, locals := 60 } (va_Pc [.ref vS] (fun U => zW D sz [] U ∧ EE b0 qS vS fS U)) (va_Qr (fun (_ : Unit) => True) (fun _ _ _ => True) (va_A [] sz)) 1 179 (va_A [] sz) := by
  refine Met.ofW (cc := cJ1_toChars_9d188) (maxL := 2) (ret := (some (.array .char))) (by decide) rfl ?_
  intro p e s m args below meth c s₁ B hml hv
  obtain ⟨rfl, ⟨hsz, hP, hK, hD0⟩, hE⟩ := hv
  have hx := B.exec
  have hb := B.bytes
  have hr := B.returns
  have hts := atoms_spec (ws := wz yJ1_toChars_9d188 cJ1_toChars_9d188 2 (some (.array .char))) B.pre
  have ht : ∀ w ∈ lw_gd, w.before _ s = true := fun w h => hts w (List.mem_cons_of_mem _ h)
  have hown : s.vm.findClass RJ1 = some m.cls := findClass_of_methodNamed B.named
  have hlocks := B.notSynchronized
  subst hsz
  have hD := hD0.self (sz := s.heap.size)
  generalize hAe : va_A [] s.heap.size = A at hB hD ⊢
  have hA : ∀ q : Nat, s.heap.size ≤ q → A q := fun q h => by rw [← hAe]; exact Or.inr h
  have hS : va_S A s.heap s.heap [] := va_S.rf
  have hT := hE.2.2.2.2.1.narrow hB
  have hl := lv_entry ([.ref vS]) (n := 2) (Nat.le_of_ble_eq_true rfl)
  rw [lg_entry_eq]
  generalize (lg_sl ([.ref vS]) ++ List.replicate (2 - (lg_sl ([.ref vS])).length) Slot.unset).toArray = ls at hl ⊢
  have hl : lv_has ls 2 [(0, .ref vS)] := hl
  refine lv_aload_n hx hb dJ1_toChars_9d188_0 rfl (lv_at hl 0 rfl) ?_
  refine va_tlen (v := 179) hx hb hT hS (by decide) dJ1_toChars_9d188_1 ?_
  refine va_newa (atype := .char) (a0 := (179, .inl (fun _ => 0))) (ty := .char) (N' := 179) hx hb (ht _ ac_char) rfl hK hP hD hS hA (fun _ => rfl) (by decide) (by decide) (by decide) (Nat.le_of_ble_eq_true rfl) (Nat.le_of_ble_eq_true rfl) dJ1_toChars_9d188_2 (fun q_1 cA H hK2 hP hD hS => ?_)
  obtain rfl := z_cls_char hK hK2
  refine W.widen (k := 1) (n := 179) (Nat.le_of_ble_eq_true rfl) (Nat.le_of_ble_eq_true rfl) ?_
  have hP : va_P D vwCl [(q_1, .inl (D.1 14, 179, .inl (fun _ => 0)))] H := hP
  have hD : va_D A [(q_1, .inl (D.1 14, 179, .inl (fun _ => 0)))] := hD
  refine lv_astore_n (lv' := [(1, .ref q_1), (0, .ref vS)]) hx hb dJ1_toChars_9d188_4 rfl hl (by decide) rfl (fun ls hl => ?_)
  refine lv_aload_n hx hb dJ1_toChars_9d188_5 rfl (lv_at hl 1 rfl) ?_
  refine lv_iconst (v := 0) hx hb dJ1_toChars_9d188_6 (by decide) ?_
  refine lv_aload_n hx hb dJ1_toChars_9d188_7 rfl (lv_at hl 0 rfl) ?_
  refine lv_iconst (v := 0) hx hb dJ1_toChars_9d188_8 (by decide) ?_
  refine lv_aload_n hx hb dJ1_toChars_9d188_9 rfl (lv_at hl 1 rfl) ?_
  refine va_tlen (v := 179) hx hb hT hS (by decide) dJ1_toChars_9d188_10 ?_
  have hFc := va_free (wc := [(q_1, .inl (D.1 14, 179, .inl (fun _ => 0)))]) hD hS hA [0] rfl
  refine va_callv (va_runS (As := [.ref vS, .int 0, .ref q_1, .int 0, .int 179]) (rest := []) ⟨hx, hb, hml, hown, ht⟩ (kJ_inflate l D H.size b0 qS vS fS q_1 (fun _ => 0) (fun q h => hB q (hFc q h))) (va_cwS 5 ht (zgT ml_J1_13 st_J1_inflate_03870 in_J1 co_J1_inflate_03870) rfl rfl rfl (by decide +kernel) ⟨Nat.le_of_ble_eq_true rfl, Nat.le_of_ble_eq_true rfl⟩) ⟨zWEb _ D _ _ _ _ _ _, fun U hU hW => ⟨rfl, ⟨by rw [hU], by rw [hU]; exact hP, va_K.moved hW.alike hK, hD.weaken (fun _ _ _ _ => trivial)⟩, hE.go hS hB hU hW⟩⟩ rfl rfl hl.1 rfl (lv_room (Nat.le_of_ble_eq_true rfl)) dJ1_toChars_9d188_11 ⟨Nat.le_of_ble_eq_true rfl, Nat.le_of_ble_eq_true rfl⟩) hS (fun q _ h => hFc q h) hFc (fun u t H1 locs ht1 hvm hw hBB hz1 hk1 hS => ?_)
  refine lv_aload_n hx hb dJ1_toChars_9d188_14 rfl (lv_at hl 0 rfl) ?_
  exact W.aret (v := .ref q_1) hx hb hr (Or.inr ⟨_, rfl⟩) (Or.inr ⟨_, rfl⟩) (fun t ht hW => ⟨⟨(), q_1, rfl, trivial, trivial⟩, hS.F ht⟩) hS.2.2 dJ1_toChars_9d188_15
set_option maxHeartbeats 4000000 in
set_option maxRecDepth 100000 in
theorem kJ_toCharArray (l : Launch) (D : va_G) (sz b0 qS vS : Nat) (fS : Nat → Int32) (hB : ∀ q, va_A [] sz q → b0 ≤ q) : Met l yJ0_toCharArray_70df3 (wz yJ0_toCharArray_70df3 cJ0_toCharArray_70df3 1 (some (.array .char))) { frames := 2, cells := 1, slots := 179, locals := 120 } (va_Pc [.ref qS] (fun U => zW D sz [] U ∧ EE b0 qS vS fS U)) (va_Qr (fun (_ : Unit) => True) (fun _ _ _ => True) (va_A [] sz)) 1 179 (va_A [] sz) := by
  refine Met.ofW (cc := cJ0_toCharArray_70df3) (maxL := 1) (ret := (some (.array .char))) (by decide) rfl ?_
  intro p e s m args below meth c s₁ B hml hv
  obtain ⟨rfl, ⟨hsz, hP, hK, hD0⟩, hE⟩ := hv
  have hx := B.exec
  have hb := B.bytes
  have hr := B.returns
  have hts := atoms_spec (ws := wz yJ0_toCharArray_70df3 cJ0_toCharArray_70df3 1 (some (.array .char))) B.pre
  have ht : ∀ w ∈ lw_gd, w.before _ s = true := fun w h => hts w (List.mem_cons_of_mem _ h)
  have hown : s.vm.findClass RJ0 = some m.cls := findClass_of_methodNamed B.named
  have hlocks := B.notSynchronized
  subst hsz
  have hD := hD0.self (sz := s.heap.size)
  generalize hAe : va_A [] s.heap.size = A at hB hD ⊢
  have hA : ∀ q : Nat, s.heap.size ≤ q → A q := fun q h => by rw [← hAe]; exact Or.inr h
  have hS : va_S A s.heap s.heap [] := va_S.rf
  have hl := lv_entry ([.ref qS]) (n := 1) (Nat.le_of_ble_eq_true rfl)
  rw [lg_entry_eq]
  generalize (lg_sl ([.ref qS]) ++ List.replicate (1 - (lg_sl ([.ref qS])).length) Slot.unset).toArray = ls at hl ⊢
  have hl : lv_has ls 1 [(0, .ref qS)] := hl
  refine lv_aload_n hx hb dJ0_toCharArray_70df3_0 rfl (lv_at hl 0 rfl) ?_
  refine va_calli (va_runV (As := []) (rest := []) ⟨hx, hb, hml, hown, ht⟩ (kJ_isLatin1 l b0 qS vS fS) (cwV 0 ht (zgV ml_J0_492 im_J0_isLatin1_aae02 se_J0_isLatin1_aae02 in_J0 co_J0_isLatin1_aae02) rfl rfl rfl (by decide +kernel) ⟨Nat.le_of_ble_eq_true rfl, Nat.le_of_ble_eq_true rfl⟩) ⟨fun a U g mk q => ⟨q.1, EE.blind a U g mk q.2⟩, by obtain ⟨cell, h1, h2, h3, -⟩ := (hE.2.1.kept (fun a h1 h2 => hS.2.1 a h1 (fun z => h2 (hB a z)))); exact ⟨cell, h1, h2, h3⟩, fun U hU hW => ⟨rfl, hE.go hS hB hU hW⟩⟩ rfl rfl hl.1 rfl (lv_room (Nat.le_of_ble_eq_true rfl)) dJ0_toCharArray_70df3_1 ⟨Nat.le_of_ble_eq_true rfl, Nat.le_of_ble_eq_true rfl⟩) hS (fun _ _ h => h.elim) (fun _ h => h.elim) (fun r u t H locs ht1 hvm hw hBB hz1 hk1 hS => ?_)
  have hP : va_P D vwCl [] H := fun k q h => by simp at h
  subst hw
  refine lv_if_eq (tgt := 17) hx hb dJ0_toCharArray_70df3_4 (by decide) (fun c_1 => (z_abs c_1 (by decide)).elim) (fun _ => ?_)
  refine lv_aload_n hx hb dJ0_toCharArray_70df3_7 rfl (lv_at hl 0 rfl) ?_
  have hV := hE.2.2.2.1.narrow hB
  refine vk_getf (own := RJ0) (ref := "java/lang/String") hx hb hV hS hown (ht _ fl_J0_9) (fun _ h => h) dJ0_toCharArray_70df3_8 ?_
  have hFc : ∀ q, va_A [] H.size q → A q := fun q h => hA q (by
    rcases h with ⟨k, e, h⟩ | h
    · simp at h
    · exact Nat.le_trans hS.1 h)
  refine va_callr (va_runS (As := [.ref vS]) (rest := []) ⟨hx, hb, hml, hown, ht⟩ (kJ_toChars l D H.size b0 qS vS fS (fun q h => hB q (hFc q h))) (va_cwS 1 ht (zgT ml_J0_299 st_J1_toChars_9d188 in_J1 co_J1_toChars_9d188) rfl rfl rfl (by decide +kernel) ⟨Nat.le_of_ble_eq_true rfl, Nat.le_of_ble_eq_true rfl⟩) ⟨zWEb _ D _ _ _ _ _ _, fun U hU hW => ⟨rfl, ⟨by rw [hU], by rw [hU]; exact hP, va_K.moved hW.alike hK, ⟨fun i j p q h => by simp at h, fun k q h => by simp at h⟩⟩, hE.go hS hB hU hW⟩⟩ rfl rfl hl.1 rfl (lv_room (Nat.le_of_ble_eq_true rfl)) dJ0_toCharArray_70df3_11 ⟨Nat.le_of_ble_eq_true rfl, Nat.le_of_ble_eq_true rfl⟩) hS (fun q _ h => hFc q h) hFc (fun u q_1 t H1 locs ht1 hvm hw hBB hz1 hk1 hS => ?_)
  refine lv_goto (tgt := 24) hx hb dJ0_toCharArray_70df3_14 (by decide) ?_
  exact W.aret (v := .ref q_1) hx hb hr (Or.inr ⟨_, rfl⟩) (Or.inr ⟨_, rfl⟩) (fun t ht hW => ⟨⟨(), q_1, rfl, trivial, trivial⟩, hS.F ht⟩) hS.2.2 dJ0_toCharArray_70df3_24
