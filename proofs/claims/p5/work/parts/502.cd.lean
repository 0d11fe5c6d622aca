set_option maxHeartbeats 4000000 in
set_option maxRecDepth 100000 in
theorem kJ_toChars (l : Launch) (D : va_G) (sz b0 qS vS : Nat) (fS : Nat → Int32) (hB : ∀ q, va_A [] sz q → b0 ≤ q) : Met l yJ1_toChars_9d188 (wz yJ1_toChars_9d188 cJ1_toChars_9d188 2 (some (.array .char))) { frames := 1, cells := 1, slots := 179, locals := 60 } (va_Pc [.ref vS] (fun U => zW D sz [] U ∧ EE b0 qS vS fS U)) (va_Qr (fun (u : Nat → Int32) => u = fun j => zw (fS j)) (fun u ra t => zB D (va_A [] sz) [(ra, .inl (D.1 14, 179, .inl u))] t) (va_A [] sz)) 1 179 (va_A [] sz) := by
  refine Met.ofW (cc := cJ1_toChars_9d188) (maxL := 2) (ret := (some (.array .char))) (by decide) rfl ?_
  intro p e s m args below meth c s₁ B hml hv
  obtain ⟨rfl, ⟨hsz, hP, hK, hD0⟩, hE⟩ := hv
  have hx := B.exec
  have hb := B.bytes
  have hr := B.returns
  have hts := atoms_spec (ws := wz yJ1_toChars_9d188 cJ1_toChars_9d188 2 (some (.array .char))) B.pre
  have ht : ∀ w ∈ lw_gd, w.before _ s = true := fun w h => hts w (List.mem_cons_of_mem _ h)
  have hown : s.vm.findClass RJ1 = some m.cls := findClass_of_methodNamed B.named
  have hlocks := B.notSynchronized
  subst hsz
  have hD := hD0.self (sz := s.heap.size)
  generalize hAe : va_A [] s.heap.size = A at hB hD ⊢
  have hA : ∀ q : Nat, s.heap.size ≤ q → A q := fun q h => by rw [← hAe]; exact Or.inr h
  have hS : va_S A s.heap s.heap [] := va_S.rf
  have hT := hE.2.2.2.2.1.narrow hB
  have hl := lv_entry ([.ref vS]) (n := 2) (Nat.le_of_ble_eq_true rfl)
  rw [lg_entry_eq]
  generalize (lg_sl ([.ref vS]) ++ List.replicate (2 - (lg_sl ([.ref vS])).length) Slot.unset).toArray = ls at hl ⊢
  have hl : lv_has ls 2 [(0, .ref vS)] := hl
  refine lv_aload_n hx hb dJ1_toChars_9d188_0 rfl (lv_at hl 0 rfl) ?_
  refine va_tlen (v := 179) hx hb hT hS (by decide) dJ1_toChars_9d188_1 ?_
  refine va_newa (atype := .char) (a0 := (179, .inl (fun _ => 0))) (ty := .char) (N' := 179) hx hb (ht _ ac_char) rfl hK hP hD hS hA (fun _ => rfl) (by decide) (by decide) (by decide) (Nat.le_of_ble_eq_true rfl) (Nat.le_of_ble_eq_true rfl) dJ1_toChars_9d188_2 (fun q_1 cA H hK2 hP hD hS => ?_)
  obtain rfl := z_cls_char hK hK2
  refine W.widen (k := 1) (n := 179) (Nat.le_of_ble_eq_true rfl) (Nat.le_of_ble_eq_true rfl) ?_
  have hP : va_P D vwCl [(q_1, .inl (D.1 14, 179, .inl (fun _ => 0)))] H := hP
  have hD : va_D A [(q_1, .inl (D.1 14, 179, .inl (fun _ => 0)))] := hD
  refine lv_astore_n (lv' := [(1, .ref q_1), (0, .ref vS)]) hx hb dJ1_toChars_9d188_4 rfl hl (by decide) rfl (fun ls hl => ?_)
  refine lv_aload_n hx hb dJ1_toChars_9d188_5 rfl (lv_at hl 1 rfl) ?_
  refine lv_iconst (v := 0) hx hb dJ1_toChars_9d188_6 (by decide) ?_
  refine lv_aload_n hx hb dJ1_toChars_9d188_7 rfl (lv_at hl 0 rfl) ?_
  refine lv_iconst (v := 0) hx hb dJ1_toChars_9d188_8 (by decide) ?_
  refine lv_aload_n hx hb dJ1_toChars_9d188_9 rfl (lv_at hl 1 rfl) ?_
  refine va_tlen (v := 179) hx hb hT hS (by decide) dJ1_toChars_9d188_10 ?_
  have hFc := va_free (wc := [(q_1, .inl (D.1 14, 179, .inl (fun _ => 0)))]) hD hS hA [0] rfl
  refine va_callv (va_runS (As := [.ref vS, .int 0, .ref q_1, .int 0, .int 179]) (rest := []) ⟨hx, hb, hml, hown, ht⟩ (kJ_inflate l D H.size b0 qS vS fS q_1 (fun _ => 0) (fun q h => hB q (hFc q h))) (va_cwS 5 ht (zgT ml_J1_13 st_J1_inflate_03870 in_J1 co_J1_inflate_03870) rfl rfl rfl (by decide +kernel) ⟨Nat.le_of_ble_eq_true rfl, Nat.le_of_ble_eq_true rfl⟩) ⟨zWEb _ D _ _ _ _ _ _, fun U hU hW => ⟨rfl, ⟨by rw [hU], by rw [hU]; exact hP, va_K.moved hW.alike hK, hD.weaken (fun _ _ _ _ => trivial)⟩, hE.go hS hB hU hW⟩⟩ rfl rfl hl.1 rfl (lv_room (Nat.le_of_ble_eq_true rfl)) dJ1_toChars_9d188_11 ⟨Nat.le_of_ble_eq_true rfl, Nat.le_of_ble_eq_true rfl⟩) hS (fun q _ h => hFc q h) hFc (fun u t H1 locs ht1 hvm hw hBB hz1 hk1 hS => ?_)
  obtain ⟨hP, hD⟩ := va_join (wr := []) (w1 := [(q_1, .inl (D.1 14, 179, .inl u))]) (wc := [(q_1, .inl (D.1 14, 179, .inl (fun _ => 0)))]) hP hD [0] [] rfl rfl (by decide) (by decide) hk1 hFc (by rw [← ht1]; exact hBB.1) hBB.2.2
  have hP : va_P D vwCl [(q_1, .inl (D.1 14, 179, .inl u))] H1 := hP
  have hD : va_D A [(q_1, .inl (D.1 14, 179, .inl u))] := hD
  refine lv_aload_n hx hb dJ1_toChars_9d188_14 rfl (lv_at hl 0 rfl) ?_
  exact W.aret (v := .ref q_1) hx hb hr (Or.inr ⟨_, rfl⟩) (Or.inr ⟨_, rfl⟩) (fun t ht hW => ⟨⟨u, q_1, rfl, hw, by rw [ht]; exact hP, va_K.moved hW.alike hK, hD⟩, hS.F ht⟩) hS.2.2 dJ1_toChars_9d188_15
