set_option maxHeartbeats 4000000 in
set_option maxRecDepth 100000 in
theorem kJ_inflate (l : Launch) (D : va_G) (sz b0 qS vS : Nat) (fS : Nat → Int32) (h0 : Nat) (f : Nat → Int32) (hB : ∀ q, va_A [(h0, .inl (D.1 14, 179, .inl f))] sz q → b0 ≤ q) : Met l yJ1_inflate_03870 (wz yJ1_inflate_03870 cJ1_inflate_03870 6 none) { frames := 0, cells := 0, slots := 0, locals := 0 } (va_Pc [.ref vS, .int 0, .ref h0, .int 0, .int 179] (fun U => zW D sz [(h0, .inl (D.1 14, 179, .inl f))] U ∧ EE b0 qS vS fS U)) (va_Qv (fun (u : Nat → Int32) => u = fun j => zw (fS j)) (fun u t => zB D (va_A [(h0, .inl (D.1 14, 179, .inl f))] sz) [(h0, .inl (D.1 14, 179, .inl u))] t) (va_A [(h0, .inl (D.1 14, 179, .inl f))] sz)) 0 0 (va_A [(h0, .inl (D.1 14, 179, .inl f))] sz) := by
  refine Met.ofW (cc := cJ1_inflate_03870) (maxL := 6) (ret := none) (by decide) rfl ?_
  intro p e s m args below meth c s₁ B hml hv
  obtain ⟨rfl, ⟨hsz, hP, hK, hD0⟩, hE⟩ := hv
  have hx := B.exec
  have hb := B.bytes
  have hr := B.returns
  have hown : s.vm.findClass RJ1 = some m.cls := findClass_of_methodNamed B.named
  have hlocks := B.notSynchronized
  subst hsz
  have hD := hD0.self (sz := s.heap.size)
  generalize hAe : va_A [(h0, .inl (D.1 14, 179, .inl f))] s.heap.size = A at hB hD ⊢
  have hS : va_S A s.heap s.heap [] := va_S.rf
  have hT := hE.2.2.2.2.1.narrow hB
  have hl := lv_entry ([.ref vS, .int 0, .ref h0, .int 0, .int 179]) (n := 6) (Nat.le_of_ble_eq_true rfl)
  rw [lg_entry_eq]
  generalize (lg_sl ([.ref vS, .int 0, .ref h0, .int 0, .int 179]) ++ List.replicate (6 - (lg_sl ([.ref vS, .int 0, .ref h0, .int 0, .int 179])).length) Slot.unset).toArray = ls at hl ⊢
  have hl : lv_has ls 6 [(0, .ref vS), (1, .int 0), (2, .ref h0), (3, .int 0), (4, .int 179)] := hl
  refine lv_iconst (v := 0) hx hb dJ1_inflate_03870_0 (by decide) ?_
  refine lv_istore (lv' := [(5, .int 0), (0, .ref vS), (1, .int 0), (2, .ref h0), (3, .int 0), (4, .int 179)]) hx hb dJ1_inflate_03870_1 hl (by decide) rfl (fun ls hl => ?_)
  refine z_loop (σ := (Nat → Int32)) (N := 179) (fun i u H locs ls => va_P D vwCl [(h0, .inl (D.1 14, 179, .inl u))] H ∧ va_D A [(h0, .inl (D.1 14, 179, .inl u))] ∧ (∀ j, j < i → u j = zw (fS j)) ∧ va_S A s.heap H locs ∧ lv_has ls 6 [(5, .int (nI i)), (0, .ref vS), (1, .int (nI i)), (2, .ref h0), (3, .int (nI i)), (4, .int 179)]) (fun i u H locs ls hi hI ih => ?_) 0 f (by decide) ⟨hP, hD, fun j hj => absurd hj (Nat.not_lt_zero j), hS, hl⟩
  obtain ⟨hP, hD, hu, hS, hl⟩ := hI
  refine lv_iload hx hb dJ1_inflate_03870_3 (lv_at hl 0 rfl) ?_
  refine lv_iload hx hb dJ1_inflate_03870_5 (lv_at hl 5 rfl) ?_
  refine lv_icmp_ge (tgt := 33) hx hb dJ1_inflate_03870_7 (by decide) (fun c_1 => ?_) (fun c_1 => ?_)
  · have g_1 : 179 ≤ i := by
      have q := z_le (a := 179) (by decide) (nI_toInt (by omega)) c_1
      omega
    have hPn := z_cong (k := 0) (g := fun j => zw (fS j)) hP hD rfl (fun j hj => hu j (by omega))
    have hDn := hD.set (p := 0) (e := .inl (D.1 14, 179, .inl (fun j => zw (fS j)))) (A := A) (ws := [(h0, .inl (D.1 14, 179, .inl u))]) rfl
    have hP : va_P D vwCl [(h0, .inl (D.1 14, 179, .inl (fun j => zw (fS j))))] H := hPn
    have hD : va_D A [(h0, .inl (D.1 14, 179, .inl (fun j => zw (fS j))))] := hDn
    exact W.vret hx hb hr (fun t ht hW => ⟨⟨fun j => zw (fS j), rfl, rfl, by rw [ht]; exact hP, va_K.moved hW.alike hK, hD⟩, hS.F ht⟩) hS.2.2 dJ1_inflate_03870_33
  · have g_1 : ((i : Nat) : Int) < 179 := z_nle (by decide) (nI_toInt (by omega)) c_1
    refine lv_aload_n hx hb dJ1_inflate_03870_10 rfl (lv_at hl 3 rfl) ?_
    refine lv_iload_n hx hb dJ1_inflate_03870_11 rfl (lv_at hl 4 rfl) ?_
    refine lv_iinc (v := nI (i + 1)) (lv' := [(3, .int (nI (i + 1))), (5, .int (nI i)), (0, .ref vS), (1, .int (nI i)), (2, .ref h0), (4, .int 179)]) hx hb dJ1_inflate_03870_12 hl (k := 4) rfl (z_inc _) (by decide) rfl (fun ls hl => ?_)
    refine lv_aload_n hx hb dJ1_inflate_03870_15 rfl (lv_at hl 2 rfl) ?_
    refine lv_iload_n hx hb dJ1_inflate_03870_16 rfl (lv_at hl 3 rfl) ?_
    refine lv_iinc (v := nI (i + 1)) (lv' := [(1, .int (nI (i + 1))), (3, .int (nI (i + 1))), (5, .int (nI i)), (0, .ref vS), (2, .ref h0), (4, .int 179)]) hx hb dJ1_inflate_03870_17 hl (k := 3) rfl (z_inc _) (by decide) rfl (fun ls hl => ?_)
    refine va_tb hx hb hT hS (vp_in_nI (by omega) (by omega)) rfl dJ1_inflate_03870_20 ?_
    refine lv_sipush (v := 255) hx hb dJ1_inflate_03870_21 (by decide) ?_
    refine lv_iand hx hb dJ1_inflate_03870_24 ?_
    refine lv_topi (fun x_1 ex_1 => ?_)
    obtain ⟨x_2, ex_2⟩ : ∃ z : Int32, (x_1.toUInt32 % 65536).toInt32 = z := ⟨_, rfl⟩
    refine lv_i2c (v := x_2) hx hb dJ1_inflate_03870_25 ex_2 ?_
    refine va_cast hx hb hK hP hD hS 0 1 rfl rfl (vp_in_nI (by omega) (by omega)) dJ1_inflate_03870_26 (fun H locs hP hD hS => ?_)
    generalize hf_2 : upd _ _ _ = f_2 at hP hD
    have hP : va_P D vwCl [(h0, .inl (D.1 14, 179, .inl f_2))] H := hP
    have hD : va_D A [(h0, .inl (D.1 14, 179, .inl f_2))] := hD
    refine lv_iinc (v := nI (i + 1)) (lv' := [(5, .int (nI (i + 1))), (1, .int (nI (i + 1))), (3, .int (nI (i + 1))), (0, .ref vS), (2, .ref h0), (4, .int 179)]) hx hb dJ1_inflate_03870_27 hl (k := 2) rfl (z_inc _) (by decide) rfl (fun ls hl => ?_)
    refine lv_goto (tgt := 3) hx hb dJ1_inflate_03870_30 (by decide) ?_
    have hu2 : ∀ j, j < i + 1 → f_2 j = zw (fS j) := fun j hj => by
      subst hf_2
      subst ex_2
      subst ex_1
      rw [nI_clamp (by omega)]
      unfold upd
      by_cases z : j = i
      · rw [if_pos z, z]
        rfl
      · rw [if_neg z]; exact hu j (by omega)
    exact ih f_2 _ _ _ (by omega) ⟨hP, hD, hu2, hS, lv_sub hl [0, 3, 1, 4, 2, 5] rfl⟩
