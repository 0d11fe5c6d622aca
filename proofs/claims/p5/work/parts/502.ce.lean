set_option maxHeartbeats 4000000 in
set_option maxRecDepth 100000 in
theorem kJ_toCharArray (l : Launch) (D : va_G) (sz b0 qS vS : Nat) (fS : Nat → Int32) (hB : ∀ q, va_A [] sz q → b0 ≤ q) : Met l yJ0_toCharArray_70df3 (wz yJ0_toCharArray_70df3 cJ0_toCharArray_70df3 1 (some (.array .char))) { frames := 2, cells := 1, slots := 179, locals := 120 } (va_Pc [.ref qS] (fun U => zW D sz [] U ∧ EE b0 qS vS fS U)) (va_Qr (fun (u : Nat → Int32) => u = fun j => zw (fS j)) (fun u ra t => zB D (va_A [] sz) [(ra, .inl (D.1 14, 179, .inl u))] t) (va_A [] sz)) 1 179 (va_A [] sz) := by
  refine Met.ofW (cc := cJ0_toCharArray_70df3) (maxL := 1) (ret := (some (.array .char))) (by decide) rfl ?_
  intro p e s m args below meth c s₁ B hml hv
  obtain ⟨rfl, ⟨hsz, hP, hK, hD0⟩, hE⟩ := hv
  have hx := B.exec
  have hb := B.bytes
  have hr := B.returns
  have hts := atoms_spec (ws := wz yJ0_toCharArray_70df3 cJ0_toCharArray_70df3 1 (some (.array .char))) B.pre
  have ht : ∀ w ∈ lw_gd, w.before _ s = true := fun w h => hts w (List.mem_cons_of_mem _ h)
  have hown : s.vm.findClass RJ0 = some m.cls := findClass_of_methodNamed B.named
  have hlocks := B.notSynchronized
  subst hsz
  have hD := hD0.self (sz := s.heap.size)
  generalize hAe : va_A [] s.heap.size = A at hB hD ⊢
  have hA : ∀ q : Nat, s.heap.size ≤ q → A q := fun q h => by rw [← hAe]; exact Or.inr h
  have hS : va_S A s.heap s.heap [] := va_S.rf
  have hl := lv_entry ([.ref qS]) (n := 1) (Nat.le_of_ble_eq_true rfl)
  rw [lg_entry_eq]
  generalize (lg_sl ([.ref qS]) ++ List.replicate (1 - (lg_sl ([.ref qS])).length) Slot.unset).toArray = ls at hl ⊢
  have hl : lv_has ls 1 [(0, .ref qS)] := hl
  refine lv_aload_n hx hb dJ0_toCharArray_70df3_0 rfl (lv_at hl 0 rfl) ?_
  refine va_calli (va_runV (As := []) (rest := []) ⟨hx, hb, hml, hown, ht⟩ (kJ_isLatin1 l b0 qS vS fS) (cwV 0 ht (zgV ml_J0_492 im_J0_isLatin1_aae02 se_J0_isLatin1_aae02 in_J0 co_J0_isLatin1_aae02) rfl rfl rfl (by decide +kernel) ⟨Nat.le_of_ble_eq_true rfl, Nat.le_of_ble_eq_true rfl⟩) ⟨fun a U g mk q => ⟨q.1, EE.blind a U g mk q.2⟩, by obtain ⟨cell, h1, h2, h3, -⟩ := (hE.2.1.kept (fun a h1 h2 => hS.2.1 a h1 (fun z => h2 (hB a z)))); exact ⟨cell, h1, h2, h3⟩, fun U hU hW => ⟨rfl, hE.go hS hB hU hW⟩⟩ rfl rfl hl.1 rfl (lv_room (Nat.le_of_ble_eq_true rfl)) dJ0_toCharArray_70df3_1 ⟨Nat.le_of_ble_eq_true rfl, Nat.le_of_ble_eq_true rfl⟩) hS (fun _ _ h => h.elim) (fun _ h => h.elim) (fun r u t H locs ht1 hvm hw hBB hz1 hk1 hS => ?_)
  have hP : va_P D vwCl [] H := fun k q h => by simp at h
  subst hw
  refine lv_if_eq (tgt := 17) hx hb dJ0_toCharArray_70df3_4 (by decide) (fun c_1 => (z_abs c_1 (by decide)).elim) (fun _ => ?_)
  refine lv_aload_n hx hb dJ0_toCharArray_70df3_7 rfl (lv_at hl 0 rfl) ?_
  have hV := hE.2.2.2.1.narrow hB
  refine vk_getf (own := RJ0) (ref := "java/lang/String") hx hb hV hS hown (ht _ fl_J0_9) (fun _ h => h) dJ0_toCharArray_70df3_8 ?_
  have hFc : ∀ q, va_A [] H.size q → A q := fun q h => hA q (by
    rcases h with ⟨k, e, h⟩ | h
    · simp at h
    · exact Nat.le_trans hS.1 h)
  refine va_callr (va_runS (As := [.ref vS]) (rest := []) ⟨hx, hb, hml, hown, ht⟩ (kJ_toChars l D H.size b0 qS vS fS (fun q h => hB q (hFc q h))) (va_cwS 1 ht (zgT ml_J0_299 st_J1_toChars_9d188 in_J1 co_J1_toChars_9d188) rfl rfl rfl (by decide +kernel) ⟨Nat.le_of_ble_eq_true rfl, Nat.le_of_ble_eq_true rfl⟩) ⟨zWEb _ D _ _ _ _ _ _, fun U hU hW => ⟨rfl, ⟨by rw [hU], by rw [hU]; exact hP, va_K.moved hW.alike hK, ⟨fun i j p q h => by simp at h, fun k q h => by simp at h⟩⟩, hE.go hS hB hU hW⟩⟩ rfl rfl hl.1 rfl (lv_room (Nat.le_of_ble_eq_true rfl)) dJ0_toCharArray_70df3_11 ⟨Nat.le_of_ble_eq_true rfl, Nat.le_of_ble_eq_true rfl⟩) hS (fun q _ h => hFc q h) hFc (fun u q_1 t H1 locs ht1 hvm hw hBB hz1 hk1 hS => ?_)
  obtain ⟨hP, hD⟩ := va_join (wr := []) (w1 := [(q_1, .inl (D.1 14, 179, .inl u))]) (wc := []) hP ⟨fun i j p q h => by simp at h, fun k q h => by simp at h⟩ [] [] rfl rfl (by decide) (by decide) hk1 hFc (by rw [← ht1]; exact hBB.1) hBB.2.2
  have hP : va_P D vwCl [(q_1, .inl (D.1 14, 179, .inl u))] H1 := hP
  have hD : va_D A [(q_1, .inl (D.1 14, 179, .inl u))] := hD
  refine lv_goto (tgt := 24) hx hb dJ0_toCharArray_70df3_14 (by decide) ?_
  exact W.aret (v := .ref q_1) hx hb hr (Or.inr ⟨_, rfl⟩) (Or.inr ⟨_, rfl⟩) (fun t ht hW => ⟨⟨u, q_1, rfl, hw, by rw [ht]; exact hP, va_K.moved hW.alike hK, hD⟩, hS.F ht⟩) hS.2.2 dJ0_toCharArray_70df3_24
