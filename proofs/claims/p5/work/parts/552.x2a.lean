theorem co_X11_init : Cond.code yX11_init cX11_init 1 none ∈ lw_gd := zm (List.mem_of_getElem? (i := 222) (by decide +kernel)) rfl
set_option maxRecDepth 100000 in
theorem co_X12_init : Cond.code yX12_init cX12_init 1 none ∈ lw_gd := zm (List.mem_append_right _ (List.mem_append_right _ (List.mem_append_right _ (List.mem_append_right _ (List.mem_append_right _ (List.mem_append_right _ (List.mem_append_left _ (List.mem_of_getElem? (l := tables_1_6) (i := 139) rfl)))))))) rfl
theorem cx_L_10 : Cond.classLink RL 10 RX12 ∈ lw_gd := zm (List.mem_of_getElem? (i := 1532) (by decide +kernel)) rfl
theorem cx_L_7 : Cond.classLink RL 7 RX11 ∈ lw_gd := zm (List.mem_of_getElem? (i := 218) (by decide +kernel)) rfl
theorem ia_X11 : Cond.instantiable RX11 13 ∈ lw_gd := zm (List.mem_of_getElem? (i := 219) (by decide +kernel)) rfl
theorem ia_X12 : Cond.instantiable RX12 116 ∈ lw_gd := zm (List.mem_of_getElem? (i := 1533) (by decide +kernel)) rfl
theorem im_X11_init : Cond.instanceMethod yX11_init ∈ lw_gd := zm (List.mem_of_getElem? (i := 221) (by decide +kernel)) rfl
theorem im_X12_init : Cond.instanceMethod yX12_init ∈ lw_gd := zm (List.mem_of_getElem? (i := 1535) (by decide +kernel)) rfl
theorem ml_L_12 : Cond.methodLink RL 12 yX12_init ∈ lw_gd := zm (List.mem_of_getElem? (i := 1534) (by decide +kernel)) rfl
theorem ml_L_9 : Cond.methodLink RL 9 yX11_init ∈ lw_gd := zm (List.mem_of_getElem? (i := 220) (by decide +kernel)) rfl
theorem dL_law_0 : decode cL_law 0 = .ok (.new 7, 3) := by decide +kernel
theorem dL_law_3 : decode cL_law 3 = .ok (.dup, 1) := by decide +kernel
theorem dL_law_4 : decode cL_law 4 = .ok (.invokespecial 9, 3) := by decide +kernel
theorem dL_law_7 : decode cL_law 7 = .ok (.astore_n 1, 1) := by decide +kernel
theorem dL_law_8 : decode cL_law 8 = .ok (.new 10, 3) := by decide +kernel
theorem dL_law_11 : decode cL_law 11 = .ok (.dup, 1) := by decide +kernel
theorem dL_law_12 : decode cL_law 12 = .ok (.invokespecial 12, 3) := by decide +kernel
theorem dL_law_15 : decode cL_law 15 = .ok (.astore_n 2, 1) := by decide +kernel
theorem dL_law_16 : decode cL_law 16 = .ok (.iconst 0, 1) := by decide +kernel
theorem dL_law_17 : decode cL_law 17 = .ok (.istore_n 3, 1) := by decide +kernel
theorem dL_law_18 : decode cL_law 18 = .ok (.iload_n 3, 1) := by decide +kernel
theorem dL_law_19 : decode cL_law 19 = .ok (.aload_n 0, 1) := by decide +kernel
theorem dL_law_20 : decode cL_law 20 = .ok (.arraylength, 1) := by decide +kernel
theorem dL_law_21 : decode cL_law 21 = .ok (.bipush 6, 2) := by decide +kernel
theorem dL_law_23 : decode cL_law 23 = .ok (.isub, 1) := by decide +kernel
theorem dL_law_24 : decode cL_law 24 = .ok (.if_icmp .gt 1280, 3) := by decide +kernel
theorem dL_law_27 : decode cL_law 27 = .ok (.aload_n 0, 1) := by decide +kernel
theorem dL_law_28 : decode cL_law 28 = .ok (.iload_n 3, 1) := by decide +kernel
theorem dL_law_29 : decode cL_law 29 = .ok (.iaload, 1) := by decide +kernel
theorem dL_law_30 : decode cL_law 30 = .ok (.bipush 63, 2) := by decide +kernel
theorem dL_law_32 : decode cL_law 32 = .ok (.iand, 1) := by decide +kernel
theorem dL_law_33 : decode cL_law 33 = .ok (.tableswitch 1265 0 39 #[175, 238, 261, 274, 297, 320, 353, 386, 419, 462, 495, 528, 561, 604, 647, 680, 723, 766, 799, 822, 845, 868, 891, 914, 927, 950, 973, 1016, 1049, 1072, 1095, 1108, 1121, 1144, 1157, 1180, 1193, 1206, 1229, 1242], 175) := by decide +kernel
theorem dL_law_1298 : decode cL_law 1298 = .ok (.iinc 3 6, 3) := by decide +kernel
theorem dL_law_1301 : decode cL_law 1301 = .ok (.goto (-1283), 3) := by decide +kernel
theorem dL_law_1304 : decode cL_law 1304 = .ok (.iconst 1, 1) := by decide +kernel
theorem dL_law_1305 : decode cL_law 1305 = .ok (.ireturn, 1) := by decide +kernel
set_option maxHeartbeats 8000000 in
set_option maxRecDepth 100000 in
theorem law_go {p : Program} (l : Launch) {e : Env} {s₀ : State} {m : MethodId} {below : List Frame} {meth : Method} {c : Code} {b L : Nat} {xs : Nat → Int32} {A : Nat → Prop} {D : va_G} (hx : p.tables.exec = Jvm.exec) (hb : c.code = cL_law) (hml : c.maxLocals = 4) (hown : s₀.vm.findClass RL = some m.cls) (ht : ∀ w ∈ lw_gd, w.before #[Value.ref b] s₀ = true) (hX : va_X b L xs s₀ s₀.heap) (hbl : b < s₀.heap.size) (hbA : ¬ A b) (hA : ∀ q, s₀.heap.size ≤ q → A q) (hK : va_K D vwCl (TY D) s₀) (hN : NN s₀) (hL : L ≤ 3072) (hr : meth.sig.returnType = ret) (hlocks : meth.locks = false) (hAs : ∀ q, A q → s₀.heap.size ≤ q) (Iv : MS → List MS → MS → Prop) (hst : LSt Iv) : ∀ (n j : Nat), L < 6 * j + n → 6 * j ≤ L → ∀ (ax am : Nat → Nat) (ps : List ((Nat → Nat) × MS)) (ts : List MS) (x t : MS) (H : Heap) (locs : List Loc) (ls : Array Slot), Iv x ts t → ps.map Prod.snd = ts → va_P D vwCl (XW D ax x ps ++ RW D am t) H → va_D A (XW D ax x ps ++ RW D am t) → va_S A s₀.heap H locs → lv_has ls 4 [(3, .int (nI (6 * j))), (2, .ref (am 200)), (1, .ref (ax 0)), (0, .ref b)] → W p l e room_1 s₀ m #[Value.ref b] below meth c H locs (164 + 9 * j) (46440 + 795 * j) (lw_Z below #[Value.ref b] s₀) (F0 m 18 ls []) := by
  intro n
  induction n with
  | zero => intro j h1 h2; omega
  | succ n ih =>
    intro j hj1 hj2 ax am ps ts x t H locs ls hIv hts hP hD hS hl
    have J : ∀ (ax1 : Nat → Nat) (ps1 : List ((Nat → Nat) × MS)) (ts1 : List MS) (x1 t1 : MS) (H : Heap) (locs : List Loc), 6 * j + 5 < L → Iv x1 ts1 t1 → ax1 0 = ax 0 → ps1.map Prod.snd = ts1 → va_P D vwCl (XW D ax1 x1 ps1 ++ RW D am t1) H → va_D A (XW D ax1 x1 ps1 ++ RW D am t1) → va_S A s₀.heap H locs → W p l e room_1 s₀ m #[Value.ref b] below meth c H locs (164 + 9 * j + 9) (46440 + 795 * j + 795) (lw_Z below #[Value.ref b] s₀) (F0 m 1298 ls []) := by
      intro ax1 ps1 ts1 x1 t1 H locs hlt hIv hax hts hP hD hS
      refine lv_iinc (v := nI (6 * (j + 1))) (lv' := [(3, .int (nI (6 * (j + 1)))), (2, .ref (am 200)), (1, .ref (ax 0)), (0, .ref b)]) hx hb dL_law_1298 hl (k := 0) rfl (li_6 _) (by decide) rfl (fun ls hl => ?_)
      refine lv_goto (tgt := 18) hx hb dL_law_1301 (by decide) ?_
      rw [← hax] at hl
      exact ih (j + 1) (by omega) (by omega) ax1 am ps1 ts1 x1 t1 H locs ls hIv hts hP hD hS hl
    refine lv_iload_n hx hb dL_law_18 rfl (lv_at hl 0 rfl) ?_
    refine lv_aload_n hx hb dL_law_19 rfl (lv_at hl 3 rfl) ?_
    refine va_slen hx hb hX hbl (fun h => hbA h) hS dL_law_20 ?_
    refine lv_bipush (v := 6) hx hb dL_law_21 (by decide) ?_
    refine lv_isub hx hb dL_law_23 ?_
    have hsub : (Int32.ofNat L - 6 : Int32).toInt = (L : Int) - 6 := pk_sub_toInt (a := L) (b := 6) (by omega) (by decide)
    refine lv_icmp_gt (tgt := 1304) hx hb dL_law_24 (by decide) (fun c9 => ?_) (fun c9 => ?_)
    · refine lv_iconst (v := 1) hx hb dL_law_1304 (by decide) ?_
      refine va_forget (fun q hq => hAs _ (hS.2.2 q hq)) ?_
      refine W.widen (k := 600000) (n := 7302249) (by omega) (by omega) ?_
      exact lw_ret hx hb hr hlocks dL_law_1305
    · have g9 : (6 * j : Nat) ≤ (L : Int) - 6 := z_nlt hsub (nI_toInt (by omega)) c9
      have hlt : 6 * j + 5 < L := by omega
      have hcs : (164 + 9 * j) + 9 ≤ 600000 ∧ (46440 + 795 * j) + 795 ≤ 7302249 := ⟨by omega, by omega⟩
      refine lv_aload_n hx hb dL_law_27 rfl (lv_at hl 3 rfl) ?_
      refine lv_iload_n hx hb dL_law_28 rfl (lv_at hl 0 rfl) ?_
      refine va_sld hx hb hX hbl hbA hS (vp_in_nI (by omega) (by omega)) dL_law_29 ?_
      refine lv_bipush (v := 63) hx hb dL_law_30 (by decide) ?_
      refine lv_iand hx hb dL_law_32 ?_
      refine lv_topi (fun k ek => ?_)
      clear ek
      by_cases e0 : k = 0
      · subst e0
        refine lv_tableIn (off := 175) (tgt := 208) hx hb dL_law_33 (by decide) (by decide) (by decide) (by decide) ?_
        obtain ⟨x1, r, t1, r2, h1, h2, hI⟩ := hst.1 x ts t (xs (6 * j + 1)).toInt (xs (6 * j + 2)).toInt (xs (6 * j + 3)).toInt (xs (6 * j + 4)).toInt (xs (6 * j + 5)).toInt (R2_of _) (R2_of _) (R2_of _) (R2_of _) (R2_of _) hIv
        exact lc_0 l hx hb hml hown ht hX hbl hbA hA hK hN hL x x1 ts r t t1 r2 hcs hlt hts hP hD hS hl h1 h2 (fun ax1 ps1 H locs a1 a2 a3 a4 a5 => J ax1 ps1 _ _ _ H locs hlt hI a1 a2 a3 a4 a5)
      by_cases e1 : k = 1
      · subst e1
        refine lv_tableIn (off := 238) (tgt := 271) hx hb dL_law_33 (by decide) (by decide) (by decide) (by decide) ?_
        obtain ⟨x1, r, t1, r2, h1, h2, hI⟩ := hst.2.1 x ts t (xs (6 * j + 1)).toInt (R2_of _) hIv
        exact lc_1 l hx hb hml hown ht hX hbl hbA hA hK hN hL x x1 ts r t t1 r2 hcs hlt hts hP hD hS hl h1 h2 (fun ax1 ps1 H locs a1 a2 a3 a4 a5 => J ax1 ps1 _ _ _ H locs hlt hI a1 a2 a3 a4 a5)
      by_cases e2 : k = 2
      · subst e2
        refine lv_tableIn (off := 261) (tgt := 294) hx hb dL_law_33 (by decide) (by decide) (by decide) (by decide) ?_
        obtain ⟨x1, r, t1, r2, h1, h2, hI⟩ := hst.2.2.1 x ts t hIv
        exact lc_2 l hx hb hml hown ht hX hbl hbA hA hK hN hL x x1 ts r t t1 r2 hcs hlt hts hP hD hS hl h1 h2 (fun ax1 ps1 H locs a1 a2 a3 a4 a5 => J ax1 ps1 _ _ _ H locs hlt hI a1 a2 a3 a4 a5)
      by_cases e3 : k = 3
      · subst e3
        refine lv_tableIn (off := 274) (tgt := 307) hx hb dL_law_33 (by decide) (by decide) (by decide) (by decide) ?_
        obtain ⟨r, r2, h1, h2, hq, hI⟩ := hst.2.2.2.1 x ts t (xs (6 * j + 1)).toInt (R2_of _) hIv
        exact lc_3 l hx hb hml hown ht hX hbl hbA hA hK hN hL x ts r t r2 hcs hlt hts hP hD hS hl h1 h2 hq (fun ax1 ps1 H locs a1 a2 a3 a4 a5 => J ax1 ps1 _ _ _ H locs hlt hI a1 a2 a3 a4 a5)
      by_cases e4 : k = 4
      · subst e4
        refine lv_tableIn (off := 297) (tgt := 330) hx hb dL_law_33 (by decide) (by decide) (by decide) (by decide) ?_
        obtain ⟨r, r2, h1, h2, hI⟩ := hst.2.2.2.2.1 x ts t (xs (6 * j + 1)).toInt (R2_of _) hIv
        exact lc_4 l hx hb hml hown ht hX hbl hbA hA hK hN hL x ts r t r2 hcs hlt hts hP hD hS hl h1 h2 (fun ax1 ps1 H locs a1 a2 a3 a4 a5 => J ax1 ps1 _ _ _ H locs hlt hI a1 a2 a3 a4 a5)
      by_cases e5 : k = 5
      · subst e5
        refine lv_tableIn (off := 320) (tgt := 353) hx hb dL_law_33 (by decide) (by decide) (by decide) (by decide) ?_
        obtain ⟨r, r2, h1, h2, hI⟩ := hst.2.2.2.2.2.1 x ts t (xs (6 * j + 1)).toInt (xs (6 * j + 2)).toInt (R2_of _) (R2_of _) hIv
        exact lc_5 l hx hb hml hown ht hX hbl hbA hA hK hN hL x ts r t r2 hcs hlt hts hP hD hS hl h1 h2 (fun ax1 ps1 H locs a1 a2 a3 a4 a5 => J ax1 ps1 _ _ _ H locs hlt hI a1 a2 a3 a4 a5)
      by_cases e6 : k = 6
      · subst e6
        refine lv_tableIn (off := 353) (tgt := 386) hx hb dL_law_33 (by decide) (by decide) (by decide) (by decide) ?_
        obtain ⟨x1, r, t1, r2, h1, h2, hI⟩ := hst.2.2.2.2.2.2.1 x ts t (xs (6 * j + 1)).toInt (xs (6 * j + 2)).toInt (R2_of _) (R2_of _) hIv
        exact lc_6 l hx hb hml hown ht hX hbl hbA hA hK hN hL x x1 ts r t t1 r2 hcs hlt hts hP hD hS hl h1 h2 (fun ax1 ps1 H locs a1 a2 a3 a4 a5 => J ax1 ps1 _ _ _ H locs hlt hI a1 a2 a3 a4 a5)
      by_cases e7 : k = 7
      · subst e7
        refine lv_tableIn (off := 386) (tgt := 419) hx hb dL_law_33 (by decide) (by decide) (by decide) (by decide) ?_
        obtain ⟨r, r2, h1, h2, hI⟩ := hst.2.2.2.2.2.2.2.1 x ts t (xs (6 * j + 1)).toInt (xs (6 * j + 2)).toInt (R2_of _) (R2_of _) hIv
        exact lc_7 l hx hb hml hown ht hX hbl hbA hA hK hN hL x ts r t r2 hcs hlt hts hP hD hS hl h1 h2 (fun ax1 ps1 H locs a1 a2 a3 a4 a5 => J ax1 ps1 _ _ _ H locs hlt hI a1 a2 a3 a4 a5)
      by_cases e8 : k = 8
      · subst e8
        refine lv_tableIn (off := 419) (tgt := 452) hx hb dL_law_33 (by decide) (by decide) (by decide) (by decide) ?_
        obtain ⟨r, r2, h1, h2, hI⟩ := hst.2.2.2.2.2.2.2.2.1 x ts t (xs (6 * j + 1)).toInt (xs (6 * j + 2)).toInt (xs (6 * j + 3)).toInt (R2_of _) (R2_of _) (R2_of _) hIv
        exact lc_8 l hx hb hml hown ht hX hbl hbA hA hK hN hL x ts r t r2 hcs hlt hts hP hD hS hl h1 h2 (fun ax1 ps1 H locs a1 a2 a3 a4 a5 => J ax1 ps1 _ _ _ H locs hlt hI a1 a2 a3 a4 a5)
      by_cases e9 : k = 9
      · subst e9
        refine lv_tableIn (off := 462) (tgt := 495) hx hb dL_law_33 (by decide) (by decide) (by decide) (by decide) ?_
        obtain ⟨r, r2, h1, h2, hI⟩ := hst.2.2.2.2.2.2.2.2.2.1 x ts t (xs (6 * j + 1)).toInt (xs (6 * j + 2)).toInt (R2_of _) (R2_of _) hIv
        exact lc_9 l hx hb hml hown ht hX hbl hbA hA hK hN hL x ts r t r2 hcs hlt hts hP hD hS hl h1 h2 (fun ax1 ps1 H locs a1 a2 a3 a4 a5 => J ax1 ps1 _ _ _ H locs hlt hI a1 a2 a3 a4 a5)
      by_cases e10 : k = 10
      · subst e10
        refine lv_tableIn (off := 495) (tgt := 528) hx hb dL_law_33 (by decide) (by decide) (by decide) (by decide) ?_
        obtain ⟨r, r2, h1, h2, hI⟩ := hst.2.2.2.2.2.2.2.2.2.2.1 x ts t (xs (6 * j + 1)).toInt (xs (6 * j + 2)).toInt (R2_of _) (R2_of _) hIv
        exact lc_10 l hx hb hml hown ht hX hbl hbA hA hK hN hL x ts r t r2 hcs hlt hts hP hD hS hl h1 h2 (fun ax1 ps1 H locs a1 a2 a3 a4 a5 => J ax1 ps1 _ _ _ H locs hlt hI a1 a2 a3 a4 a5)
      by_cases e11 : k = 11
      · subst e11
        refine lv_tableIn (off := 528) (tgt := 561) hx hb dL_law_33 (by decide) (by decide) (by decide) (by decide) ?_
        obtain ⟨x1, r, t1, r2, h1, h2, hI⟩ := hst.2.2.2.2.2.2.2.2.2.2.2.1 x ts t (xs (6 * j + 1)).toInt (xs (6 * j + 2)).toInt (R2_of _) (R2_of _) hIv
        exact lc_11 l hx hb hml hown ht hX hbl hbA hA hK hN hL x x1 ts r t t1 r2 hcs hlt hts hP hD hS hl h1 h2 (fun ax1 ps1 H locs a1 a2 a3 a4 a5 => J ax1 ps1 _ _ _ H locs hlt hI a1 a2 a3 a4 a5)
      by_cases e12 : k = 12
      · subst e12
        refine lv_tableIn (off := 561) (tgt := 594) hx hb dL_law_33 (by decide) (by decide) (by decide) (by decide) ?_
        obtain ⟨x1, r, t1, r2, h1, h2, hI⟩ := hst.2.2.2.2.2.2.2.2.2.2.2.2.1 x ts t (xs (6 * j + 1)).toInt (xs (6 * j + 2)).toInt (xs (6 * j + 3)).toInt (R2_of _) (R2_of _) (R2_of _) hIv
        exact lc_12 l hx hb hml hown ht hX hbl hbA hA hK hN hL x x1 ts r t t1 r2 hcs hlt hts hP hD hS hl h1 h2 (fun ax1 ps1 H locs a1 a2 a3 a4 a5 => J ax1 ps1 _ _ _ H locs hlt hI a1 a2 a3 a4 a5)
      by_cases e13 : k = 13
      · subst e13
        refine lv_tableIn (off := 604) (tgt := 637) hx hb dL_law_33 (by decide) (by decide) (by decide) (by decide) ?_
        obtain ⟨r, r2, h1, h2, hI⟩ := hst.2.2.2.2.2.2.2.2.2.2.2.2.2.1 x ts t (xs (6 * j + 1)).toInt (xs (6 * j + 2)).toInt (xs (6 * j + 3)).toInt (R2_of _) (R2_of _) (R2_of _) hIv
        exact lc_13 l hx hb hml hown ht hX hbl hbA hA hK hN hL x ts r t r2 hcs hlt hts hP hD hS hl h1 h2 (fun ax1 ps1 H locs a1 a2 a3 a4 a5 => J ax1 ps1 _ _ _ H locs hlt hI a1 a2 a3 a4 a5)
      by_cases e14 : k = 14
      · subst e14
        refine lv_tableIn (off := 647) (tgt := 680) hx hb dL_law_33 (by decide) (by decide) (by decide) (by decide) ?_
        obtain ⟨x1, r, t1, r2, h1, h2, hI⟩ := hst.2.2.2.2.2.2.2.2.2.2.2.2.2.2.1 x ts t (xs (6 * j + 1)).toInt (xs (6 * j + 2)).toInt (R2_of _) (R2_of _) hIv
        exact lc_14 l hx hb hml hown ht hX hbl hbA hA hK hN hL x x1 ts r t t1 r2 hcs hlt hts hP hD hS hl h1 h2 (fun ax1 ps1 H locs a1 a2 a3 a4 a5 => J ax1 ps1 _ _ _ H locs hlt hI a1 a2 a3 a4 a5)
      by_cases e15 : k = 15
      · subst e15
        refine lv_tableIn (off := 680) (tgt := 713) hx hb dL_law_33 (by decide) (by decide) (by decide) (by decide) ?_
        obtain ⟨x1, r, r2, h1, h2, hI⟩ := hst.2.2.2.2.2.2.2.2.2.2.2.2.2.2.2.1 x ts t (xs (6 * j + 1)).toInt (xs (6 * j + 2)).toInt (xs (6 * j + 3)).toInt (R2_of _) (R2_of _) (R2_of _) hIv
        exact lc_15 l hx hb hml hown ht hX hbl hbA hA hK hN hL x x1 ts r t r2 hcs hlt hts hP hD hS hl h1 h2 (fun ax1 ps1 H locs a1 a2 a3 a4 a5 => J ax1 ps1 _ _ _ H locs hlt hI a1 a2 a3 a4 a5)
      by_cases e16 : k = 16
      · subst e16
        refine lv_tableIn (off := 723) (tgt := 756) hx hb dL_law_33 (by decide) (by decide) (by decide) (by decide) ?_
        obtain ⟨x1, r, t1, r2, h1, h2, hI⟩ := hst.2.2.2.2.2.2.2.2.2.2.2.2.2.2.2.2.1 x ts t (xs (6 * j + 1)).toInt (xs (6 * j + 2)).toInt (xs (6 * j + 3)).toInt (R2_of _) (R2_of _) (R2_of _) hIv
        exact lc_16 l hx hb hml hown ht hX hbl hbA hA hK hN hL x x1 ts r t t1 r2 hcs hlt hts hP hD hS hl h1 h2 (fun ax1 ps1 H locs a1 a2 a3 a4 a5 => J ax1 ps1 _ _ _ H locs hlt hI a1 a2 a3 a4 a5)
      by_cases e17 : k = 17
      · subst e17
        refine lv_tableIn (off := 766) (tgt := 799) hx hb dL_law_33 (by decide) (by decide) (by decide) (by decide) ?_
        obtain ⟨x1, r, t1, r2, h1, h2, hI⟩ := hst.2.2.2.2.2.2.2.2.2.2.2.2.2.2.2.2.2.1 x ts t (xs (6 * j + 1)).toInt (xs (6 * j + 2)).toInt (R2_of _) (R2_of _) hIv
        exact lc_17 l hx hb hml hown ht hX hbl hbA hA hK hN hL x x1 ts r t t1 r2 hcs hlt hts hP hD hS hl h1 h2 (fun ax1 ps1 H locs a1 a2 a3 a4 a5 => J ax1 ps1 _ _ _ H locs hlt hI a1 a2 a3 a4 a5)
      by_cases e18 : k = 18
      · subst e18
        refine lv_tableIn (off := 799) (tgt := 832) hx hb dL_law_33 (by decide) (by decide) (by decide) (by decide) ?_
        obtain ⟨x1, r, t1, r2, h1, h2, hI⟩ := hst.2.2.2.2.2.2.2.2.2.2.2.2.2.2.2.2.2.2.1 x ts t (xs (6 * j + 1)).toInt (R2_of _) hIv
        exact lc_18 l hx hb hml hown ht hX hbl hbA hA hK hN hL x x1 ts r t t1 r2 hcs hlt hts hP hD hS hl h1 h2 (fun ax1 ps1 H locs a1 a2 a3 a4 a5 => J ax1 ps1 _ _ _ H locs hlt hI a1 a2 a3 a4 a5)
      by_cases e19 : k = 19
      · subst e19
        refine lv_tableIn (off := 822) (tgt := 855) hx hb dL_law_33 (by decide) (by decide) (by decide) (by decide) ?_
        obtain ⟨x1, r, t1, r2, h1, h2, hI⟩ := hst.2.2.2.2.2.2.2.2.2.2.2.2.2.2.2.2.2.2.2.1 x ts t (xs (6 * j + 1)).toInt (R2_of _) hIv
        exact lc_19 l hx hb hml hown ht hX hbl hbA hA hK hN hL x x1 ts r t t1 r2 hcs hlt hts hP hD hS hl h1 h2 (fun ax1 ps1 H locs a1 a2 a3 a4 a5 => J ax1 ps1 _ _ _ H locs hlt hI a1 a2 a3 a4 a5)
      by_cases e20 : k = 20
      · subst e20
        refine lv_tableIn (off := 845) (tgt := 878) hx hb dL_law_33 (by decide) (by decide) (by decide) (by decide) ?_
        obtain ⟨x1, r, t1, r2, h1, h2, hI⟩ := hst.2.2.2.2.2.2.2.2.2.2.2.2.2.2.2.2.2.2.2.2.1 x ts t (xs (6 * j + 1)).toInt (R2_of _) hIv
        exact lc_20 l hx hb hml hown ht hX hbl hbA hA hK hN hL x x1 ts r t t1 r2 hcs hlt hts hP hD hS hl h1 h2 (fun ax1 ps1 H locs a1 a2 a3 a4 a5 => J ax1 ps1 _ _ _ H locs hlt hI a1 a2 a3 a4 a5)
      by_cases e21 : k = 21
      · subst e21
        refine lv_tableIn (off := 868) (tgt := 901) hx hb dL_law_33 (by decide) (by decide) (by decide) (by decide) ?_
        obtain ⟨r, r2, h1, h2, hI⟩ := hst.2.2.2.2.2.2.2.2.2.2.2.2.2.2.2.2.2.2.2.2.2.1 x ts t (xs (6 * j + 1)).toInt (R2_of _) hIv
        exact lc_21 l hx hb hml hown ht hX hbl hbA hA hK hN hL x ts r t r2 hcs hlt hts hP hD hS hl h1 h2 (fun ax1 ps1 H locs a1 a2 a3 a4 a5 => J ax1 ps1 _ _ _ H locs hlt hI a1 a2 a3 a4 a5)
      by_cases e22 : k = 22
      · subst e22
        refine lv_tableIn (off := 891) (tgt := 924) hx hb dL_law_33 (by decide) (by decide) (by decide) (by decide) ?_
        obtain ⟨x1, r, r2, h1, h2, hI⟩ := hst.2.2.2.2.2.2.2.2.2.2.2.2.2.2.2.2.2.2.2.2.2.2.1 x ts t (xs (6 * j + 1)).toInt (R2_of _) hIv
        exact lc_22 l hx hb hml hown ht hX hbl hbA hA hK hN hL x x1 ts r t r2 hcs hlt hts hP hD hS hl h1 h2 (fun ax1 ps1 H locs a1 a2 a3 a4 a5 => J ax1 ps1 _ _ _ H locs hlt hI a1 a2 a3 a4 a5)
      by_cases e23 : k = 23
      · subst e23
        refine lv_tableIn (off := 914) (tgt := 947) hx hb dL_law_33 (by decide) (by decide) (by decide) (by decide) ?_
        obtain ⟨x1, r, t1, r2, h1, h2, hI⟩ := hst.2.2.2.2.2.2.2.2.2.2.2.2.2.2.2.2.2.2.2.2.2.2.2.1 x ts t hIv
        exact lc_23 l hx hb hml hown ht hX hbl hbA hA hK hN hL x x1 ts r t t1 r2 hcs hlt hts hP hD hS hl h1 h2 (fun ax1 ps1 H locs a1 a2 a3 a4 a5 => J ax1 ps1 _ _ _ H locs hlt hI a1 a2 a3 a4 a5)
      by_cases e24 : k = 24
      · subst e24
        refine lv_tableIn (off := 927) (tgt := 960) hx hb dL_law_33 (by decide) (by decide) (by decide) (by decide) ?_
        obtain ⟨x1, r, r2, h1, h2, hI⟩ := hst.2.2.2.2.2.2.2.2.2.2.2.2.2.2.2.2.2.2.2.2.2.2.2.2.1 x ts t (xs (6 * j + 1)).toInt (R2_of _) hIv
        exact lc_24 l hx hb hml hown ht hX hbl hbA hA hK hN hL x x1 ts r t r2 hcs hlt hts hP hD hS hl h1 h2 (fun ax1 ps1 H locs a1 a2 a3 a4 a5 => J ax1 ps1 _ _ _ H locs hlt hI a1 a2 a3 a4 a5)
      by_cases e25 : k = 25
      · subst e25
        refine lv_tableIn (off := 950) (tgt := 983) hx hb dL_law_33 (by decide) (by decide) (by decide) (by decide) ?_
        obtain ⟨x1, r, r2, h1, h2, hI⟩ := hst.2.2.2.2.2.2.2.2.2.2.2.2.2.2.2.2.2.2.2.2.2.2.2.2.2.1 x ts t (xs (6 * j + 1)).toInt (R2_of _) hIv
        exact lc_25 l hx hb hml hown ht hX hbl hbA hA hK hN hL x x1 ts r t r2 hcs hlt hts hP hD hS hl h1 h2 (fun ax1 ps1 H locs a1 a2 a3 a4 a5 => J ax1 ps1 _ _ _ H locs hlt hI a1 a2 a3 a4 a5)
      by_cases e26 : k = 26
      · subst e26
        refine lv_tableIn (off := 973) (tgt := 1006) hx hb dL_law_33 (by decide) (by decide) (by decide) (by decide) ?_
        obtain ⟨x1, ts1, r, t1, r2, h1, h2, hI⟩ := hst.2.2.2.2.2.2.2.2.2.2.2.2.2.2.2.2.2.2.2.2.2.2.2.2.2.2.1 x ts t (xs (6 * j + 1)).toInt (xs (6 * j + 2)).toInt (xs (6 * j + 3)).toInt (R2_of _) (R2_of _) (R2_of _) hIv
        exact lc_26 l hx hb hml hown ht hX hbl hbA hA hK hN hL x x1 ts ts1 r t t1 r2 hcs hlt hts hP hD hS hl h1 h2 (fun ax1 ps1 H locs a1 a2 a3 a4 a5 => J ax1 ps1 _ _ _ H locs hlt hI a1 a2 a3 a4 a5)
      by_cases e27 : k = 27
      · subst e27
        refine lv_tableIn (off := 1016) (tgt := 1049) hx hb dL_law_33 (by decide) (by decide) (by decide) (by decide) ?_
        obtain ⟨x1, ts1, r, t1, r2, h1, h2, hI⟩ := hst.2.2.2.2.2.2.2.2.2.2.2.2.2.2.2.2.2.2.2.2.2.2.2.2.2.2.2.1 x ts t (xs (6 * j + 1)).toInt (xs (6 * j + 2)).toInt (R2_of _) (R2_of _) hIv
        exact lc_27 l hx hb hml hown ht hX hbl hbA hA hK hN hL x x1 ts ts1 r t t1 r2 hcs hlt hts hP hD hS hl h1 h2 (fun ax1 ps1 H locs a1 a2 a3 a4 a5 => J ax1 ps1 _ _ _ H locs hlt hI a1 a2 a3 a4 a5)
      by_cases e28 : k = 28
      · subst e28
        refine lv_tableIn (off := 1049) (tgt := 1082) hx hb dL_law_33 (by decide) (by decide) (by decide) (by decide) ?_
        obtain ⟨x1, ts1, r, t1, r2, h1, h2, hI⟩ := hst.2.2.2.2.2.2.2.2.2.2.2.2.2.2.2.2.2.2.2.2.2.2.2.2.2.2.2.2.1 x ts t (xs (6 * j + 1)).toInt (R2_of _) hIv
        exact lc_28 l hx hb hml hown ht hX hbl hbA hA hK hN hL x x1 ts ts1 r t t1 r2 hcs hlt hts hP hD hS hl h1 h2 (fun ax1 ps1 H locs a1 a2 a3 a4 a5 => J ax1 ps1 _ _ _ H locs hlt hI a1 a2 a3 a4 a5)
      by_cases e29 : k = 29
      · subst e29
        refine lv_tableIn (off := 1072) (tgt := 1105) hx hb dL_law_33 (by decide) (by decide) (by decide) (by decide) ?_
        obtain ⟨x1, ts1, r, t1, r2, h1, h2, hI⟩ := hst.2.2.2.2.2.2.2.2.2.2.2.2.2.2.2.2.2.2.2.2.2.2.2.2.2.2.2.2.2.1 x ts t (xs (6 * j + 1)).toInt (R2_of _) hIv
        exact lc_29 l hx hb hml hown ht hX hbl hbA hA hK hN hL x x1 ts ts1 r t t1 r2 hcs hlt hts hP hD hS hl h1 h2 (fun ax1 ps1 H locs a1 a2 a3 a4 a5 => J ax1 ps1 _ _ _ H locs hlt hI a1 a2 a3 a4 a5)
      by_cases e30 : k = 30
      · subst e30
        refine lv_tableIn (off := 1095) (tgt := 1128) hx hb dL_law_33 (by decide) (by decide) (by decide) (by decide) ?_
        obtain ⟨x1, ts1, r, t1, r2, h1, h2, hI⟩ := hst.2.2.2.2.2.2.2.2.2.2.2.2.2.2.2.2.2.2.2.2.2.2.2.2.2.2.2.2.2.2.1 x ts t hIv
        exact lc_30 l hx hb hml hown ht hX hbl hbA hA hK hN hL x x1 ts ts1 r t t1 r2 hcs hlt hts hP hD hS hl h1 h2 (fun ax1 ps1 H locs a1 a2 a3 a4 a5 => J ax1 ps1 _ _ _ H locs hlt hI a1 a2 a3 a4 a5)
      by_cases e31 : k = 31
      · subst e31
        refine lv_tableIn (off := 1108) (tgt := 1141) hx hb dL_law_33 (by decide) (by decide) (by decide) (by decide) ?_
        obtain ⟨x1, ts1, r, t1, r2, h1, h2, hI⟩ := hst.2.2.2.2.2.2.2.2.2.2.2.2.2.2.2.2.2.2.2.2.2.2.2.2.2.2.2.2.2.2.2.1 x ts t hIv
        exact lc_31 l hx hb hml hown ht hX hbl hbA hA hK hN hL x x1 ts ts1 r t t1 r2 hcs hlt hts hP hD hS hl h1 h2 (fun ax1 ps1 H locs a1 a2 a3 a4 a5 => J ax1 ps1 _ _ _ H locs hlt hI a1 a2 a3 a4 a5)
      by_cases e32 : k = 32
      · subst e32
        refine lv_tableIn (off := 1121) (tgt := 1154) hx hb dL_law_33 (by decide) (by decide) (by decide) (by decide) ?_
        obtain ⟨x1, ts1, r, t1, r2, h1, h2, hI⟩ := hst.2.2.2.2.2.2.2.2.2.2.2.2.2.2.2.2.2.2.2.2.2.2.2.2.2.2.2.2.2.2.2.2.1 x ts t (xs (6 * j + 1)).toInt (R2_of _) hIv
        exact lc_32 l hx hb hml hown ht hX hbl hbA hA hK hN hL x x1 ts ts1 r t t1 r2 hcs hlt hts hP hD hS hl h1 h2 (fun ax1 ps1 H locs a1 a2 a3 a4 a5 => J ax1 ps1 _ _ _ H locs hlt hI a1 a2 a3 a4 a5)
      by_cases e33 : k = 33
      · subst e33
        refine lv_tableIn (off := 1144) (tgt := 1177) hx hb dL_law_33 (by decide) (by decide) (by decide) (by decide) ?_
        obtain ⟨x1, ts1, r, t1, r2, h1, h2, hI⟩ := hst.2.2.2.2.2.2.2.2.2.2.2.2.2.2.2.2.2.2.2.2.2.2.2.2.2.2.2.2.2.2.2.2.2.1 x ts t hIv
        exact lc_33 l hx hb hml hown ht hX hbl hbA hA hK hN hL x x1 ts ts1 r t t1 r2 hcs hlt hts hP hD hS hl h1 h2 (fun ax1 ps1 H locs a1 a2 a3 a4 a5 => J ax1 ps1 _ _ _ H locs hlt hI a1 a2 a3 a4 a5)
      by_cases e34 : k = 34
      · subst e34
        refine lv_tableIn (off := 1157) (tgt := 1190) hx hb dL_law_33 (by decide) (by decide) (by decide) (by decide) ?_
        obtain ⟨x1, r, t1, r2, h1, h2, hI⟩ := hst.2.2.2.2.2.2.2.2.2.2.2.2.2.2.2.2.2.2.2.2.2.2.2.2.2.2.2.2.2.2.2.2.2.2.1 x ts t (xs (6 * j + 1)).toInt (R2_of _) hIv
        exact lc_34 l hx hb hml hown ht hX hbl hbA hA hK hN hL x x1 ts r t t1 r2 hcs hlt hts hP hD hS hl h1 h2 (fun ax1 ps1 H locs a1 a2 a3 a4 a5 => J ax1 ps1 _ _ _ H locs hlt hI a1 a2 a3 a4 a5)
      by_cases e35 : k = 35
      · subst e35
        refine lv_tableIn (off := 1180) (tgt := 1213) hx hb dL_law_33 (by decide) (by decide) (by decide) (by decide) ?_
        obtain ⟨x1, r, t1, r2, h1, h2, hI⟩ := hst.2.2.2.2.2.2.2.2.2.2.2.2.2.2.2.2.2.2.2.2.2.2.2.2.2.2.2.2.2.2.2.2.2.2.2.1 x ts t hIv
        exact lc_35 l hx hb hml hown ht hX hbl hbA hA hK hN hL x x1 ts r t t1 r2 hcs hlt hts hP hD hS hl h1 h2 (fun ax1 ps1 H locs a1 a2 a3 a4 a5 => J ax1 ps1 _ _ _ H locs hlt hI a1 a2 a3 a4 a5)
      by_cases e36 : k = 36
      · subst e36
        refine lv_tableIn (off := 1193) (tgt := 1226) hx hb dL_law_33 (by decide) (by decide) (by decide) (by decide) ?_
        obtain ⟨x1, r, t1, r2, h1, h2, hI⟩ := hst.2.2.2.2.2.2.2.2.2.2.2.2.2.2.2.2.2.2.2.2.2.2.2.2.2.2.2.2.2.2.2.2.2.2.2.2.1 x ts t hIv
        exact lc_36 l hx hb hml hown ht hX hbl hbA hA hK hN hL x x1 ts r t t1 r2 hcs hlt hts hP hD hS hl h1 h2 (fun ax1 ps1 H locs a1 a2 a3 a4 a5 => J ax1 ps1 _ _ _ H locs hlt hI a1 a2 a3 a4 a5)
      by_cases e37 : k = 37
      · subst e37
        refine lv_tableIn (off := 1206) (tgt := 1239) hx hb dL_law_33 (by decide) (by decide) (by decide) (by decide) ?_
        obtain ⟨r, r2, h1, h2, hI⟩ := hst.2.2.2.2.2.2.2.2.2.2.2.2.2.2.2.2.2.2.2.2.2.2.2.2.2.2.2.2.2.2.2.2.2.2.2.2.2.1 x ts t (xs (6 * j + 1)).toInt (R2_of _) hIv
        exact lc_37 l hx hb hml hown ht hX hbl hbA hA hK hN hL x ts r t r2 hcs hlt hts hP hD hS hl h1 h2 (fun ax1 ps1 H locs a1 a2 a3 a4 a5 => J ax1 ps1 _ _ _ H locs hlt hI a1 a2 a3 a4 a5)
      by_cases e38 : k = 38
      · subst e38
        refine lv_tableIn (off := 1229) (tgt := 1262) hx hb dL_law_33 (by decide) (by decide) (by decide) (by decide) ?_
        obtain ⟨x1, r, t1, r2, h1, h2, hI⟩ := hst.2.2.2.2.2.2.2.2.2.2.2.2.2.2.2.2.2.2.2.2.2.2.2.2.2.2.2.2.2.2.2.2.2.2.2.2.2.2.1 x ts t hIv
        exact lc_38 l hx hb hml hown ht hX hbl hbA hA hK hN hL x x1 ts r t t1 r2 hcs hlt hts hP hD hS hl h1 h2 (fun ax1 ps1 H locs a1 a2 a3 a4 a5 => J ax1 ps1 _ _ _ H locs hlt hI a1 a2 a3 a4 a5)
      by_cases e39 : k = 39
      · subst e39
        refine lv_tableIn (off := 1242) (tgt := 1275) hx hb dL_law_33 (by decide) (by decide) (by decide) (by decide) ?_
        obtain ⟨r, r2, h1, h2, hI⟩ := hst.2.2.2.2.2.2.2.2.2.2.2.2.2.2.2.2.2.2.2.2.2.2.2.2.2.2.2.2.2.2.2.2.2.2.2.2.2.2.2 x ts t (xs (6 * j + 1)).toInt (R2_of _) hIv
        exact lc_39 l hx hb hml hown ht hX hbl hbA hA hK hN hL x ts r t r2 hcs hlt hts hP hD hS hl h1 h2 (fun ax1 ps1 H locs a1 a2 a3 a4 a5 => J ax1 ps1 _ _ _ H locs hlt hI a1 a2 a3 a4 a5)
      have g0 := lv_neT (a := 0) e0 (by decide)
      have g1 := lv_neT (a := 1) e1 (by decide)
      have g2 := lv_neT (a := 2) e2 (by decide)
      have g3 := lv_neT (a := 3) e3 (by decide)
      have g4 := lv_neT (a := 4) e4 (by decide)
      have g5 := lv_neT (a := 5) e5 (by decide)
      have g6 := lv_neT (a := 6) e6 (by decide)
      have g7 := lv_neT (a := 7) e7 (by decide)
      have g8 := lv_neT (a := 8) e8 (by decide)
      have g9 := lv_neT (a := 9) e9 (by decide)
      have g10 := lv_neT (a := 10) e10 (by decide)
      have g11 := lv_neT (a := 11) e11 (by decide)
      have g12 := lv_neT (a := 12) e12 (by decide)
      have g13 := lv_neT (a := 13) e13 (by decide)
      have g14 := lv_neT (a := 14) e14 (by decide)
      have g15 := lv_neT (a := 15) e15 (by decide)
      have g16 := lv_neT (a := 16) e16 (by decide)
      have g17 := lv_neT (a := 17) e17 (by decide)
      have g18 := lv_neT (a := 18) e18 (by decide)
      have g19 := lv_neT (a := 19) e19 (by decide)
      have g20 := lv_neT (a := 20) e20 (by decide)
      have g21 := lv_neT (a := 21) e21 (by decide)
      have g22 := lv_neT (a := 22) e22 (by decide)
      have g23 := lv_neT (a := 23) e23 (by decide)
      have g24 := lv_neT (a := 24) e24 (by decide)
      have g25 := lv_neT (a := 25) e25 (by decide)
      have g26 := lv_neT (a := 26) e26 (by decide)
      have g27 := lv_neT (a := 27) e27 (by decide)
      have g28 := lv_neT (a := 28) e28 (by decide)
      have g29 := lv_neT (a := 29) e29 (by decide)
      have g30 := lv_neT (a := 30) e30 (by decide)
      have g31 := lv_neT (a := 31) e31 (by decide)
      have g32 := lv_neT (a := 32) e32 (by decide)
      have g33 := lv_neT (a := 33) e33 (by decide)
      have g34 := lv_neT (a := 34) e34 (by decide)
      have g35 := lv_neT (a := 35) e35 (by decide)
      have g36 := lv_neT (a := 36) e36 (by decide)
      have g37 := lv_neT (a := 37) e37 (by decide)
      have g38 := lv_neT (a := 38) e38 (by decide)
      have g39 := lv_neT (a := 39) e39 (by decide)
      refine lv_tableOut (tgt := 1298) hx hb dL_law_33 (by omega) (by decide) ?_
      refine W.widen (k := 164 + 9 * j + 9) (n := 46440 + 795 * j + 795) (by omega) (by omega) ?_
      exact J ax ps ts x t H locs hlt hIv rfl hts hP hD hS
theorem gA_nf (s : MS) (k j : Nat) : i2 (gA (nfS s) k j) = i2 (gA s k j) := i2_of _
theorem gI_nf (s : MS) (k : Nat) : gI (nfS s) k = gI s k := rfl
theorem gB_nf (s : MS) (k j : Nat) : gB (nfS s) k j = gB s k j := rfl
theorem gL_nf (s : MS) (k : Nat) : gL (nfS s) k = gL s k := rfl
set_option maxHeartbeats 4000000 in
set_option maxRecDepth 100000 in
theorem XW_nf {D : va_G} {a : Nat → Nat} {s : MS} {ps : List ((Nat → Nat) × MS)} : XW D a (nfS s) ps = XW D a s ps := by
  unfold XW CS CW
  simp only [gA_nf, gI_nf, gB_nf, gL_nf]
theorem z_ao {s : State} (h : va_AO "CloneVolumes$State" s) : ∃ cA : ClassId, ArrOfT s cA (.object "CloneVolumes$State") ∧ va_RA s cA (.object "CloneVolumes$State") := by
  obtain ⟨comp, cA, kA, h1, h2, h3, h4, h5⟩ := Cond.arrayOver_spec h
  exact ⟨cA, fun n z => ⟨fun k h => (by cases h), kA, h3, comp, h4⟩, kA, comp, h3, h4, h1, h5⟩
set_option maxHeartbeats 4000000 in
set_option maxRecDepth 100000 in
theorem whole_open {p : Program} {e : Env} {s : State} {m : MethodId} {below : List Frame} {meth : Method} {c : Code} (l : Launch) {b L : Nat} {xs : Nat → Int32} (hL : L ≤ 3072) (Iv : MS → List MS → MS → Prop) (hst : LSt Iv) (hi0 : ∀ fw fb1 fe1 fb2 fe2 : Nat → Int, fw = (fun j => (zw (zByt.getD j 0)).toInt) → Iv (nfS (cw0 fw fb1 fe1 fb2 fe2)) [] rw0) (C0 : lw_At p s m meth c b L xs) : W p l e room_1 s m #[Value.ref b] below meth c s.heap [] 0 0 (lw_Z below #[Value.ref b] s) (entryFrame m ([Value.ref b] : List Value).toArray 4) := by
  obtain ⟨hx, hb, hr, hml, hown, hts, hX, hbl, hlocks, hgv⟩ := id C0
  have hb : c.code = cL_law := hb
  have hown : s.vm.findClass RL = some m.cls := hown
  have ht : ∀ w ∈ lw_gd, w.before #[Value.ref b] s = true := fun w h => hts w (lw_gd_in h)
  obtain ⟨A, hAe⟩ : ∃ A : Nat → Prop, A = fun q : Nat => s.heap.size ≤ q := ⟨_, rfl⟩
  have hA : ∀ q : Nat, s.heap.size ≤ q → A q := fun q h => by rw [hAe]; exact h
  have hAs : ∀ q : Nat, A q → s.heap.size ≤ q := fun q h => by rw [hAe] at h; exact h
  have hbA : ¬ A b := fun h => absurd (hAs b h) (Nat.not_le.mpr hbl)
  obtain ⟨qS, vS, hE⟩ := z_start hts hgv
  have hN : NN s := va_Nw.of rfl (hts _ (List.mem_of_getElem? (i := 1510) (by decide +kernel)))
  obtain ⟨c0, iS0, hKn0⟩ := u_known (C := RX0) (T := TX0) (N := 2) (n := 2) ht inX0 (ht _ ia_X0)
  obtain ⟨c1, iS1, hKn1⟩ := u_known (C := RX1) (T := TX1) (N := 9) (n := 9) ht inX1 (ht _ ia_X1)
  obtain ⟨c2, iS2, hKn2⟩ := u_known (C := RX2) (T := TX2) (N := 6) (n := 6) ht inX2 (ht _ ia_X2)
  obtain ⟨c3, iS3, hKn3⟩ := u_known (C := RX3) (T := TX3) (N := 10) (n := 10) ht inX3 (ht _ ia_X3)
  obtain ⟨c4, iS4, hKn4⟩ := u_known (C := RX4) (T := TX4) (N := 6) (n := 6) ht inX4 (ht _ ia_X4)
  obtain ⟨c5, iS5, hKn5⟩ := u_known (C := RX5) (T := TX5) (N := 14) (n := 14) ht inX5 (ht _ ia_X5)
  obtain ⟨c6, iS6, hKn6⟩ := u_known (C := RX6) (T := TX6) (N := 12) (n := 12) ht inX6 (ht _ ia_X6)
  obtain ⟨c7, iS7, hKn7⟩ := u_known (C := RX7) (T := TX7) (N := 6) (n := 6) ht inX7 (ht _ ia_X7)
  obtain ⟨c8, iS8, hKn8⟩ := u_known (C := RX8) (T := TX8) (N := 11) (n := 11) ht inX8 (ht _ ia_X8)
  obtain ⟨c9, iS9, hKn9⟩ := u_known (C := RX9) (T := TX9) (N := 2) (n := 2) ht inX9 (ht _ ia_X9)
  obtain ⟨c10, iS10, hKn10⟩ := u_known (C := RX10) (T := TX10) (N := 4) (n := 4) ht inX10 (ht _ ia_X10)
  obtain ⟨c11, iS11, hKn11⟩ := u_known (C := RX11) (T := TX11) (N := 13) (n := 13) ht inX11 (ht _ ia_X11)
  obtain ⟨c12, iS12, hKn12⟩ := u_known (C := RX12) (T := TX12) (N := 116) (n := 116) ht inX12 (ht _ ia_X12)
  obtain ⟨cA0, hAr0, hAn0⟩ := z_arr (ht _ ac_int)
  obtain ⟨cA1, hAr1, hAn1⟩ := z_arr (ht _ ac_char)
  obtain ⟨cA2, hAr2, hAn2⟩ := z_arr (ht _ ac_long)
  obtain ⟨cA3, hAr3, hAn3⟩ := z_arr (ht _ ac_boolean)
  obtain ⟨cA4, hAr4, hAn4⟩ := z_ao hE.1.2.2.2.2.2.2.1
  obtain ⟨D, d0, d1, d2, d3, d4, d5, d6, d7, d8, d9, d10, d11, d12, d13, d14, d15, d16, d17, j0, j1, j2, j3, j4, j5, j6, j7, j8, j9, j10, j11, j12⟩ : ∃ D : va_G, D.1 0 = c0 ∧ D.1 1 = c1 ∧ D.1 2 = c2 ∧ D.1 3 = c3 ∧ D.1 4 = c4 ∧ D.1 5 = c5 ∧ D.1 6 = c6 ∧ D.1 7 = c7 ∧ D.1 8 = c8 ∧ D.1 9 = c9 ∧ D.1 10 = c10 ∧ D.1 11 = c11 ∧ D.1 12 = c12 ∧ D.1 13 = cA0 ∧ D.1 14 = cA1 ∧ D.1 15 = cA2 ∧ D.1 16 = cA3 ∧ D.1 17 = cA4 ∧ D.2 0 = iS0 ∧ D.2 1 = iS1 ∧ D.2 2 = iS2 ∧ D.2 3 = iS3 ∧ D.2 4 = iS4 ∧ D.2 5 = iS5 ∧ D.2 6 = iS6 ∧ D.2 7 = iS7 ∧ D.2 8 = iS8 ∧ D.2 9 = iS9 ∧ D.2 10 = iS10 ∧ D.2 11 = iS11 ∧ D.2 12 = iS12 := ⟨(fun k => (c0 :: c1 :: c2 :: c3 :: c4 :: c5 :: c6 :: c7 :: c8 :: c9 :: c10 :: c11 :: c12 :: cA0 :: cA1 :: cA2 :: cA3 :: cA4 :: [] : List ClassId).getD k c0, fun k => (iS0 :: iS1 :: iS2 :: iS3 :: iS4 :: iS5 :: iS6 :: iS7 :: iS8 :: iS9 :: iS10 :: iS11 :: iS12 :: [] : List (Nat → Nat)).getD k iS0), rfl, rfl, rfl, rfl, rfl, rfl, rfl, rfl, rfl, rfl, rfl, rfl, rfl, rfl, rfl, rfl, rfl, rfl, rfl, rfl, rfl, rfl, rfl, rfl, rfl, rfl, rfl, rfl, rfl, rfl, rfl⟩
  subst d0
  subst d1
  subst d2
  subst d3
  subst d4
  subst d5
  subst d6
  subst d7
  subst d8
  subst d9
  subst d10
  subst d11
  subst d12
  subst d13
  subst d14
  subst d15
  subst d16
  subst d17
  subst j0
  subst j1
  subst j2
  subst j3
  subst j4
  subst j5
  subst j6
  subst j7
  subst j8
  subst j9
  subst j10
  subst j11
  subst j12
  have hK : va_K D vwCl (TY D) s := by
    refine ⟨fun k q hq => ?_, fun k q hq => ?_⟩
    · match k, hq with
      | 0, hq => cases hq; exact hKn0
      | 1, hq => cases hq; exact hKn1
      | 2, hq => cases hq; exact hKn2
      | 3, hq => cases hq; exact hKn3
      | 4, hq => cases hq; exact hKn4
      | 5, hq => cases hq; exact hKn5
      | 6, hq => cases hq; exact hKn6
      | 7, hq => cases hq; exact hKn7
      | 8, hq => cases hq; exact hKn8
      | 9, hq => cases hq; exact hKn9
      | 10, hq => cases hq; exact hKn10
      | 11, hq => cases hq; exact hKn11
      | 12, hq => cases hq; exact hKn12
      | k + 13, hq => simp at hq
    · match k, hq with
      | 0, hq => cases hq; exact ⟨hAr0, hAn0⟩
      | 1, hq => cases hq; exact ⟨hAr1, hAn1⟩
      | 2, hq => cases hq; exact ⟨hAr2, hAn2⟩
      | 3, hq => cases hq; exact ⟨hAr3, hAn3⟩
      | 4, hq => cases hq; exact ⟨hAr4, hAn4⟩
      | k + 5, hq => simp at hq
  have hS : va_S A s.heap s.heap [] := va_S.rf
  have hP : va_P D vwCl [] s.heap := fun k q h => by simp at h
  have hD : va_D A [] := ⟨fun i j p q h => by simp at h, fun k q h => by simp at h⟩
  have hl := lv_entry ([.ref b]) (n := 4) (Nat.le_of_ble_eq_true rfl)
  rw [lg_entry_eq]
  generalize (lg_sl ([.ref b]) ++ List.replicate (4 - (lg_sl ([.ref b])).length) Slot.unset).toArray = ls at hl ⊢
  have hl : lv_has ls 4 [(0, .ref b)] := hl
  refine va_new (ci := 11) (fs := [.null, .null, .null, .null, .null, .null, .null, .null, .null, .null, .null, .null, .int 0]) (C := RX11) (T := TX11) (N := 13) hx hb ht inX11 tyX11 tyX11_ok hown (ht _ cx_L_7) (ht _ ia_X11) (ht _ in_X11) hK hP hD hS hA rfl (by decide +kernel) (Nat.le_of_ble_eq_true rfl) (Nat.le_of_ble_eq_true rfl) dL_law_0 (fun q0 H hP hD hS => ?_)
  refine W.widen (k := 1) (n := 13) (Nat.le_of_ble_eq_true rfl) (Nat.le_of_ble_eq_true rfl) ?_
  refine lv_dup hx hb dL_law_3 rfl ?_
  have hP : va_P D vwCl [(q0, .inr (11, [.null, .null, .null, .null, .null, .null, .null, .null, .null, .null, .null, .null, .int 0]))] H := hP
  have hD : va_D A [(q0, .inr (11, [.null, .null, .null, .null, .null, .null, .null, .null, .null, .null, .null, .null, .int 0]))] := hD
  refine zwIE (As := []) (rest := [.ref q0]) (n := 0) (wr := []) ⟨hx, hb, hml, hown, ht⟩ (k_X11_init l D _ s.heap.size qS vS (fun j => zByt.getD j 0) q0) co_X11_init rfl rfl in_X11 ml_L_9 im_X11_init rfl (by decide +kernel) ⟨Nat.le_of_ble_eq_true rfl, Nat.le_of_ble_eq_true rfl⟩ hK hP hD hS hA hE hAs [0] [] rfl rfl rfl rfl (by decide) rfl hl.1 rfl (Nat.le_of_ble_eq_true rfl) dL_law_4 ⟨Nat.le_of_ble_eq_true rfl, Nat.le_of_ble_eq_true rfl⟩ (fun u H locs hw hP2 hD2 hS => ?_)
  refine W.widen (k := 83) (n := 11274) (Nat.le_of_ble_eq_true rfl) (Nat.le_of_ble_eq_true rfl) ?_
  obtain ⟨ax, fw, fb1, fe1, fb2, fe2⟩ := u
  obtain ⟨hw, hfw⟩ : ax 0 = q0 ∧ fw = fun j => (zw (zByt.getD j 0)).toInt := hw
  subst hw
  clear hP hD
  have hP : va_P D vwCl (XW D ax (cw0 fw fb1 fe1 fb2 fe2) []) H := hP2
  have hD : va_D A (XW D ax (cw0 fw fb1 fe1 fb2 fe2) []) := hD2
  clear hP2 hD2
  rw [← XW_nf] at hP hD
  generalize hx0 : nfS (cw0 fw fb1 fe1 fb2 fe2) = x0 at hP hD
  refine lv_astore_n (lv' := [(1, .ref (ax 0)), (0, .ref b)]) hx hb dL_law_7 rfl hl (by decide) rfl (fun ls hl => ?_)
  refine va_new (ci := 12) (fs := mD) (C := RX12) (T := TX12) (N := 116) hx hb ht inX12 tyX12 tyX12_ok hown (ht _ cx_L_10) (ht _ ia_X12) (ht _ in_X12) hK hP hD hS hA rfl (by decide +kernel) (Nat.le_of_ble_eq_true rfl) (Nat.le_of_ble_eq_true rfl) dL_law_8 (fun q1 H hP hD hS => ?_)
  refine W.widen (k := 84) (n := 11390) (Nat.le_of_ble_eq_true rfl) (Nat.le_of_ble_eq_true rfl) ?_
  refine lv_dup hx hb dL_law_11 rfl ?_
  obtain ⟨hP, hD⟩ := z_rot2 hP hD
  refine zwI (As := []) (rest := [.ref q1]) (n := 0) (wr := XW D ax x0 []) ⟨hx, hb, hml, hown, ht⟩ (k_X12_init l D _ q1) co_X12_init rfl rfl in_X12 ml_L_12 im_X12_init rfl (by decide +kernel) ⟨Nat.le_of_ble_eq_true rfl, Nat.le_of_ble_eq_true rfl⟩ hK hP hD hS hA [0] (irl _) rfl irl_map rfl irl_nd irl_dis rfl hl.1 rfl (Nat.le_of_ble_eq_true rfl) dL_law_12 ⟨Nat.le_of_ble_eq_true rfl, Nat.le_of_ble_eq_true rfl⟩ (fun am H locs hw hP2 hD2 hS => ?_)
  refine W.widen (k := 164) (n := 46440) (Nat.le_of_ble_eq_true rfl) (Nat.le_of_ble_eq_true rfl) ?_
  have hw : am 200 = q1 := hw
  subst hw
  clear hP hD
  have hP : va_P D vwCl (XW D ax x0 [] ++ RW D am rw0) H := hP2
  have hD : va_D A (XW D ax x0 [] ++ RW D am rw0) := hD2
  clear hP2 hD2
  refine lv_astore_n (lv' := [(2, .ref (am 200)), (1, .ref (ax 0)), (0, .ref b)]) hx hb dL_law_15 rfl hl (by decide) rfl (fun ls hl => ?_)
  refine lv_iconst (v := 0) hx hb dL_law_16 (by decide) ?_
  refine lv_istore_n (lv' := [(3, .int 0), (2, .ref (am 200)), (1, .ref (ax 0)), (0, .ref b)]) hx hb dL_law_17 rfl hl (by decide) rfl (fun ls hl => ?_)
  exact law_go l hx hb hml hown ht hX hbl hbA hA hK hN hL hr hlocks hAs Iv hst (L + 1) 0 (by omega) (by omega) ax am [] [] x0 rw0 H locs ls (by rw [← hx0]; exact hi0 _ _ _ _ _ hfw) rfl hP hD hS hl
