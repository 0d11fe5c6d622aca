theorem co_X1_build : Cond.code yX1_build cX1_build 4 none ∈ lw_gd := zm (lw_g_3 (List.mem_of_getElem? (i := 237) (by decide +kernel))) rfl
theorem co_X6_readStore : Cond.code yX6_readStore cX6_readStore 3 (some .boolean) ∈ lw_gd := zm (lw_g_3 (List.mem_of_getElem? (i := 90) (by decide +kernel))) rfl
theorem fl_X11_116 : Cond.fieldLink RX11 116 "CloneVolumes$Plan" "statements" "I" ∈ lw_gd := zm (lw_g_2 (List.mem_of_getElem? (i := 45) (by decide +kernel))) rfl
theorem fl_X1_51 : Cond.fieldLink RX1 51 "CloneVolumes$Plan" "blocks" "I" ∈ lw_gd := zm (lw_g_2 (List.mem_of_getElem? (i := 34) (by decide +kernel))) rfl
theorem fl_X1_60 : Cond.fieldLink RX1 60 "CloneVolumes$Plan" "changes" "I" ∈ lw_gd := zm (lw_g_2 (List.mem_of_getElem? (i := 50) (by decide +kernel))) rfl
theorem fl_X1_63 : Cond.fieldLink RX1 63 "CloneVolumes$Plan" "who" "[I" ∈ lw_gd := zm (lw_g_2 (List.mem_of_getElem? (i := 56) (by decide +kernel))) rfl
theorem fl_X1_66 : Cond.fieldLink RX1 66 "CloneVolumes$Plan" "kinds" "[I" ∈ lw_gd := zm (lw_g_2 (List.mem_of_getElem? (i := 54) (by decide +kernel))) rfl
theorem fl_X1_72 : Cond.fieldLink RX1 72 "CloneVolumes$Plan" "first" "[I" ∈ lw_gd := zm (lw_g_2 (List.mem_of_getElem? (i := 58) (by decide +kernel))) rfl
theorem fl_X1_79 : Cond.fieldLink RX1 79 "CloneVolumes$Plan" "second" "[I" ∈ lw_gd := zm (lw_g_2 (List.mem_of_getElem? (i := 60) (by decide +kernel))) rfl
theorem im_X1_build : Cond.instanceMethod yX1_build ∈ lw_gd := zm (lw_g_3 (List.mem_of_getElem? (i := 235) (by decide +kernel))) rfl
theorem im_X6_readStore : Cond.instanceMethod yX6_readStore ∈ lw_gd := zm (lw_g_3 (List.mem_of_getElem? (i := 88) (by decide +kernel))) rfl
theorem ml_X11_103 : Cond.methodLink RX11 103 yX1_build ∈ lw_gd := zm (lw_g_3 (List.mem_of_getElem? (i := 234) (by decide +kernel))) rfl
theorem ml_X11_99 : Cond.methodLink RX11 99 yX6_readStore ∈ lw_gd := zm (lw_g_3 (List.mem_of_getElem? (i := 87) (by decide +kernel))) rfl
theorem ml_X1_56 : Cond.methodLink RX1 56 yX8_clear ∈ lw_gd := zm (lw_g_3 (List.mem_of_getElem? (i := 238) (by decide +kernel))) rfl
theorem ml_X1_75 : Cond.methodLink RX1 75 yX1_share ∈ lw_gd := zm (lw_g_3 (List.mem_of_getElem? (i := 239) (by decide +kernel))) rfl
theorem se_X1_build : Cond.selects RX1 yX1_build yX1_build ∈ lw_gd := zm (lw_g_3 (List.mem_of_getElem? (i := 236) (by decide +kernel))) rfl
theorem se_X6_readStore : Cond.selects RX6 yX6_readStore yX6_readStore ∈ lw_gd := zm (lw_g_3 (List.mem_of_getElem? (i := 89) (by decide +kernel))) rfl
theorem eX11_store_0 : decode cX11_store 0 = .ok (.aload_n 0, 1) ∧ decode cX11_store 1 = .ok (.getfield 21, 3) ∧ decode cX11_store 4 = .ok (.aload_n 0, 1) ∧ decode cX11_store 5 = .ok (.getfield 71, 3) ∧ decode cX11_store 8 = .ok (.invokevirtual 99, 3) ∧ decode cX11_store 11 = .ok (.istore_n 1, 1) ∧ decode cX11_store 12 = .ok (.aload_n 0, 1) ∧ decode cX11_store 13 = .ok (.getfield 12, 3) := by decide +kernel
theorem eX11_store_16 : decode cX11_store 16 = .ok (.iconst 0, 1) ∧ decode cX11_store 17 = .ok (.putfield 95, 3) ∧ decode cX11_store 20 = .ok (.iload_n 1, 1) ∧ decode cX11_store 21 = .ok (.ifCond .ne 9, 3) ∧ decode cX11_store 24 = .ok (.aload_n 0, 1) ∧ decode cX11_store 25 = .ok (.iconst 1, 1) ∧ decode cX11_store 26 = .ok (.invokevirtual 87, 3) ∧ decode cX11_store 29 = .ok (.ireturn, 1) := by decide +kernel
theorem eX11_store_30 : decode cX11_store 30 = .ok (.aload_n 0, 1) ∧ decode cX11_store 31 = .ok (.getfield 67, 3) ∧ decode cX11_store 34 = .ok (.astore_n 2, 1) ∧ decode cX11_store 35 = .ok (.aload_n 0, 1) ∧ decode cX11_store 36 = .ok (.aload_n 0, 1) ∧ decode cX11_store 37 = .ok (.getfield 71, 3) ∧ decode cX11_store 40 = .ok (.putfield 67, 3) ∧ decode cX11_store 43 = .ok (.aload_n 0, 1) := by decide +kernel
theorem eX11_store_44 : decode cX11_store 44 = .ok (.aload_n 2, 1) ∧ decode cX11_store 45 = .ok (.putfield 71, 3) ∧ decode cX11_store 48 = .ok (.aload_n 0, 1) ∧ decode cX11_store 49 = .ok (.getfield 79, 3) ∧ decode cX11_store 52 = .ok (.aload_n 0, 1) ∧ decode cX11_store 53 = .ok (.getfield 67, 3) ∧ decode cX11_store 56 = .ok (.invokevirtual 103, 3) ∧ decode cX11_store 59 = .ok (.aload_n 0, 1) := by decide +kernel
theorem eX11_store_60 : decode cX11_store 60 = .ok (.getfield 28, 3) ∧ decode cX11_store 63 = .ok (.invokevirtual 106, 3) ∧ decode cX11_store 66 = .ok (.aload_n 0, 1) ∧ decode cX11_store 67 = .ok (.getfield 35, 3) ∧ decode cX11_store 70 = .ok (.iconst 0, 1) ∧ decode cX11_store 71 = .ok (.putfield 109, 3) ∧ decode cX11_store 74 = .ok (.aload_n 0, 1) ∧ decode cX11_store 75 = .ok (.iconst 1, 1) := by decide +kernel
theorem eX11_store_76 : decode cX11_store 76 = .ok (.putfield 112, 3) ∧ decode cX11_store 79 = .ok (.aload_n 0, 1) ∧ decode cX11_store 80 = .ok (.getfield 67, 3) ∧ decode cX11_store 83 = .ok (.getfield 116, 3) ∧ decode cX11_store 86 = .ok (.ireturn, 1) ∧ decode cX1_build 0 = .ok (.aload_n 0, 1) ∧ decode cX1_build 1 = .ok (.aload_n 1, 1) ∧ decode cX1_build 2 = .ok (.putfield 47, 3) := by decide +kernel
theorem eX1_build_5 : decode cX1_build 5 = .ok (.aload_n 0, 1) ∧ decode cX1_build 6 = .ok (.getfield 12, 3) ∧ decode cX1_build 9 = .ok (.aload_n 1, 1) ∧ decode cX1_build 10 = .ok (.getfield 51, 3) ∧ decode cX1_build 13 = .ok (.invokevirtual 56, 3) ∧ decode cX1_build 16 = .ok (.iconst 0, 1) ∧ decode cX1_build 17 = .ok (.istore_n 2, 1) ∧ decode cX1_build 18 = .ok (.iload_n 2, 1) := by decide +kernel
theorem eX1_build_19 : decode cX1_build 19 = .ok (.aload_n 1, 1) ∧ decode cX1_build 20 = .ok (.getfield 60, 3) ∧ decode cX1_build 23 = .ok (.if_icmp .ge 118, 3) ∧ decode cX1_build 26 = .ok (.aload_n 1, 1) ∧ decode cX1_build 27 = .ok (.getfield 63, 3) ∧ decode cX1_build 30 = .ok (.iload_n 2, 1) ∧ decode cX1_build 31 = .ok (.iaload, 1) ∧ decode cX1_build 32 = .ok (.istore_n 3, 1) := by decide +kernel
theorem eX1_build_33 : decode cX1_build 33 = .ok (.aload_n 1, 1) ∧ decode cX1_build 34 = .ok (.getfield 66, 3) ∧ decode cX1_build 37 = .ok (.iload_n 2, 1) ∧ decode cX1_build 38 = .ok (.iaload, 1) ∧ decode cX1_build 39 = .ok (.tableswitch 96 2 6 #[33, 46, 96, 60, 81], 33) ∧ decode cX1_build 72 = .ok (.aload_n 0, 1) ∧ decode cX1_build 73 = .ok (.getfield 12, 3) ∧ decode cX1_build 76 = .ok (.getfield 69, 3) := by decide +kernel
theorem eX1_build_79 : decode cX1_build 79 = .ok (.iload_n 3, 1) ∧ decode cX1_build 80 = .ok (.iconst (-1), 1) ∧ decode cX1_build 81 = .ok (.iastore, 1) ∧ decode cX1_build 82 = .ok (.goto 53, 3) ∧ decode cX1_build 85 = .ok (.aload_n 0, 1) ∧ decode cX1_build 86 = .ok (.aload_n 1, 1) ∧ decode cX1_build 87 = .ok (.getfield 72, 3) ∧ decode cX1_build 90 = .ok (.iload_n 2, 1) := by decide +kernel
theorem eX1_build_91 : decode cX1_build 91 = .ok (.iaload, 1) ∧ decode cX1_build 92 = .ok (.iload_n 3, 1) ∧ decode cX1_build 93 = .ok (.invokevirtual 75, 3) ∧ decode cX1_build 96 = .ok (.goto 39, 3) ∧ decode cX1_build 99 = .ok (.aload_n 0, 1) ∧ decode cX1_build 100 = .ok (.iload_n 3, 1) ∧ decode cX1_build 101 = .ok (.aload_n 1, 1) ∧ decode cX1_build 102 = .ok (.getfield 72, 3) := by decide +kernel
theorem eX1_build_105 : decode cX1_build 105 = .ok (.iload_n 2, 1) ∧ decode cX1_build 106 = .ok (.iaload, 1) ∧ decode cX1_build 107 = .ok (.aload_n 1, 1) ∧ decode cX1_build 108 = .ok (.getfield 79, 3) ∧ decode cX1_build 111 = .ok (.iload_n 2, 1) ∧ decode cX1_build 112 = .ok (.iaload, 1) ∧ decode cX1_build 113 = .ok (.invokevirtual 82, 3) ∧ decode cX1_build 116 = .ok (.pop, 1) := by decide +kernel
theorem eX1_build_117 : decode cX1_build 117 = .ok (.goto 18, 3) ∧ decode cX1_build 120 = .ok (.aload_n 0, 1) ∧ decode cX1_build 121 = .ok (.iload_n 3, 1) ∧ decode cX1_build 122 = .ok (.aload_n 1, 1) ∧ decode cX1_build 123 = .ok (.getfield 72, 3) ∧ decode cX1_build 126 = .ok (.iload_n 2, 1) ∧ decode cX1_build 127 = .ok (.iaload, 1) ∧ decode cX1_build 128 = .ok (.invokevirtual 86, 3) := by decide +kernel
theorem eX1_build_131 : decode cX1_build 131 = .ok (.pop, 1) ∧ decode cX1_build 132 = .ok (.goto 3, 3) ∧ decode cX1_build 135 = .ok (.iinc 2 1, 3) ∧ decode cX1_build 138 = .ok (.goto (-120), 3) ∧ decode cX1_build 141 = .ok (.aload_n 0, 1) ∧ decode cX1_build 142 = .ok (.getfield 12, 3) ∧ decode cX1_build 145 = .ok (.invokevirtual 90, 3) ∧ decode cX1_build 148 = .ok (.aload_n 0, 1) := by decide +kernel
theorem eX1_build_149 : decode cX1_build 149 = .ok (.getfield 12, 3) ∧ decode cX1_build 152 = .ok (.iconst 0, 1) ∧ decode cX1_build 153 = .ok (.putfield 93, 3) ∧ decode cX1_build 156 = .ok (.aload_n 0, 1) ∧ decode cX1_build 157 = .ok (.getfield 12, 3) ∧ decode cX1_build 160 = .ok (.lconst 0, 1) ∧ decode cX1_build 161 = .ok (.putfield 96, 3) ∧ decode cX1_build 164 = .ok (.return_, 1) := by decide +kernel
/-! ===== the plan and the spare one change places ===== -/
def swp (a : Nat → Nat) : Nat → Nat := fun k => if 29 ≤ k ∧ k ≤ 38 then a (k + 10) else if 39 ≤ k ∧ k ≤ 48 then a (k - 10) else a k
theorem swp_out {a : Nat → Nat} {k : Nat} (h : k < 29 ∨ 48 < k) : swp a k = a k := by
  unfold swp
  rw [if_neg (by omega), if_neg (by omega)]
theorem sI_self {s : MS} {k : Nat} {v : Int} (h : gI s k = v) : sI s k v = s := by
  obtain ⟨s1, s2⟩ := s
  unfold sI
  congr 1
  funext j
  by_cases e : j = k
  · subst e; rw [if_pos rfl]; exact h.symm
  · rw [if_neg e]
set_option maxRecDepth 100000 in
set_option maxHeartbeats 4000000 in
theorem CW_swp_P {D : va_G} {a : Nat → Nat} {c1 c2 c3 c4 : Value} {s : MS} {H : Heap} (he : gI s 9999 = 2) (h : va_P D vwCl (CW D a c1 c2 c3 c4 s) H) : va_P D vwCl (CW D (swp a) c1 c2 c3 c4 (sI (swS s) 9999 1)) H := by
  rw [← sI_self he] at h
  exact h.sub [0, 1, 2, 3, 4, 5, 6, 7, 8, 9, 10, 11, 12, 13, 14, 15, 16, 17, 18, 19, 20, 21, 22, 23, 24, 25, 26, 27, 28, 39, 40, 41, 42, 43, 44, 45, 46, 47, 48, 29, 30, 31, 32, 33, 34, 35, 36, 37, 38, 49, 50, 51, 52, 53, 54, 55, 56, 57, 58, 59, 60, 61, 62, 63, 64, 65, 66, 67, 68, 69, 70, 71, 72, 73, 74, 75, 76, 77, 78, 79, 80, 81] rfl
set_option maxRecDepth 100000 in
set_option maxHeartbeats 4000000 in
theorem CW_swp_D {D : va_G} {a : Nat → Nat} {c1 c2 c3 c4 d1 d2 d3 d4 : Value} {s t : MS} {A : Nat → Prop} (h : va_D A (CW D a c1 c2 c3 c4 s)) : va_D A (CW D (swp a) d1 d2 d3 d4 t) := by
  have h1 : va_D A (CW D a c1 c2 c3 c4 (sI s 9999 2)) := CW_D _ h
  exact CW_D t (show va_D A (CW D (swp a) c1 c2 c3 c4 (sI (swS s) 9999 1)) from h1.sub [0, 1, 2, 3, 4, 5, 6, 7, 8, 9, 10, 11, 12, 13, 14, 15, 16, 17, 18, 19, 20, 21, 22, 23, 24, 25, 26, 27, 28, 39, 40, 41, 42, 43, 44, 45, 46, 47, 48, 29, 30, 31, 32, 33, 34, 35, 36, 37, 38, 49, 50, 51, 52, 53, 54, 55, 56, 57, 58, 59, 60, 61, 62, 63, 64, 65, 66, 67, 68, 69, 70, 71, 72, 73, 74, 75, 76, 77, 78, 79, 80, 81] (by decide) rfl)
abbrev yS (l : Launch) (y : MethodName) (bytes : ByteArray) (maxL : Nat) (ret : Option FieldType) (rm : Room) (D : va_G) (sz : Nat) (av : List Value) (a : Nat → Nat) (s : MS) (r : Int32) (s' : MS) : Prop := Met l y (wz y bytes maxL ret) rm (va_Pc av (yW D sz (CS D a s))) (va_Qi (fun q (u : Nat → Nat) => q = r ∧ ∀ k, (k < 29 ∨ 48 < k) → u k = a k) (fun u t => zB D (va_A (CS D a s) sz) (CS D u s') t) (va_A (CS D a s) sz)) 0 0 (va_A (CS D a s) sz)
theorem yGi_f {l : Launch} {y : MethodName} {ws : List Cond} {rm : Room} {D : va_G} {sz mc ms : Nat} {av : List Value} {P : va_W} {Sg : Type} {post : Int32 → Sg → Prop} {W' : Sg → va_W} (T : va_W) (h : Met l y ws rm (va_Pc av (yW D sz P)) (va_Qi post (fun u t => zB D (va_A P sz) (W' u) t) (va_A P sz)) mc ms (va_A P sz)) : Met l y ws rm (va_Pc av (yW D sz (P ++ T))) (va_Qi post (fun u t => zB D (va_A (P ++ T) sz) (W' u ++ T) t) (va_A (P ++ T) sz)) mc ms (va_A (P ++ T) sz) := by
  refine Met_imp h (fun a s hp => ⟨hp.1, zW_l hp.2.1, hp.2.2⟩) (fun a st o t hp hq => ?_) (va_A_up (fun x hx => List.mem_append_left _ hx))
  obtain ⟨-, hz, -⟩ := hp
  obtain ⟨⟨q, u, h1, h2, h3⟩, hF⟩ := hq
  obtain rfl := hz.1
  obtain ⟨g1, g2⟩ := y_beside hz h3 hF
  exact ⟨⟨q, u, h1, h2, g1⟩, g2⟩
set_option maxHeartbeats 4000000 in
set_option maxRecDepth 100000 in
theorem k_x8_clear_v2 (l : Launch) (D : va_G) (a : Nat → Nat) (p0 : Int) (sz : Nat) (s : MS) (o : MS) (h : m_x8_clear_v2 p0 s = some o) : yWv l yX8_clear cX8_clear 3 none { frames := 0, cells := 0, slots := 0, locals := 0 } D sz [.ref (a 53), .int (i2 p0)] (CS D a s) (CS D a o) := by
  refine Met.ofW (cc := cX8_clear) (maxL := 3) (ret := none) (by decide) rfl ?_
  intro p e s₀ m args below meth c s₁ B hml hv
  obtain ⟨rfl, ⟨hsz, hP, hK, hD0⟩, hN⟩ := hv
  have hx := B.exec
  have hb := B.bytes
  have hr := B.returns
  have hts := atoms_spec (ws := wz yX8_clear cX8_clear 3 none) B.pre
  have ht : ∀ w ∈ lw_gd, w.before _ s₀ = true := fun w h => hts w (List.mem_cons_of_mem _ h)
  have hown : s₀.vm.findClass RX8 = some m.cls := findClass_of_methodNamed B.named
  have hlocks := B.notSynchronized
  subst hsz
  have hD := hD0.self (sz := s₀.heap.size)
  generalize hAe : va_A (CS D a s) s₀.heap.size = A at hD ⊢
  have hA : ∀ q : Nat, s₀.heap.size ≤ q → A q := fun q h => by rw [← hAe]; exact Or.inr h
  have hS : va_S A s₀.heap s₀.heap [] := va_S.rf
  have hDD : ∀ t : MS, va_D A (CS D a t) := fun t => CW_D t hD
  have hl := lv_entry ([.ref (a 53), .int (i2 p0)]) (n := 3) (Nat.le_of_ble_eq_true rfl)
  rw [lg_entry_eq]
  generalize (lg_sl ([.ref (a 53), .int (i2 p0)]) ++ List.replicate (3 - (lg_sl ([.ref (a 53), .int (i2 p0)])).length) Slot.unset).toArray = ls at hl ⊢
  have hl : lv_has ls 3 [(0, .ref (a 53)), (1, .int (i2 p0))] := hl
  unfold m_x8_clear_v2 at h
  refine y_loop (pcJ := 59) (σ := Int × MS) (fun n u H locs ls => va_P D vwCl (CS D a u.2) H ∧ va_S A s₀.heap H locs ∧ lv_has ls 3 [(0, .ref (a 53)), (2, .int (i2 u.1))] ∧ m_x8_clear_v2_L59 n u.1 u.2 = some o) (fun u => []) (fun u H locs ls hI => by obtain ⟨_, _, _, h⟩ := hI; cases h) (fun n59 ih59 u H locs ls hI => ?_) (fun J59 => ?_)
  · obtain ⟨hP, hS, hl, h⟩ := hI
    obtain ⟨x1, s2⟩ := u
    have hP : va_P D vwCl (CS D a s2) H := hP
    have hl : lv_has ls 3 [(0, .ref (a 53)), (2, .int (i2 x1))] := hl
    have h : m_x8_clear_v2_b59 (m_x8_clear_v2_L59 n59) x1 s2 = some o := h
    unfold m_x8_clear_v2_b59 at h
    refine lv_iload_n hx hb eX8_clear_58.2.1 rfl (lv_at hl 1 rfl) ?_
    refine lv_bipush (v := 8) hx hb eX8_clear_58.2.2.1 (by decide) ?_
    obtain ⟨hr3, h⟩ := rg_e h
    refine lv_icmp_ge (tgt := 87) hx hb eX8_clear_58.2.2.2.1 (by decide) (fun c4 => ?_) (fun c4 => ?_)
    · have h := if_t ((i2_le (x := 8) (y := x1) (by decide) hr3).mp c4) h
      obtain rfl := Option.some.inj h
      exact W.vret hx hb hr (fun t ht hW => ⟨⟨(), rfl, trivial, by rw [ht]; exact hP, va_K.moved hW.alike hK, hDD _⟩, hS.F ht⟩) hS.2.2 eX8_clear_87.1
    · have h := if_f (mt (i2_le (x := 8) (y := x1) (by decide) hr3).mpr c4) h
      refine lv_aload_n hx hb eX8_clear_58.2.2.2.2.1 rfl (lv_at hl 0 rfl) ?_
      refine va_get (D := D) (ci := 8) (v := .ref (a 60)) (C := RX8) (T := TX8) (N := 11) hx hb ht inX8 hown hK hP 53 CW_53 rfl 9 (by decide) (ht (.fieldLink RX8 30 "CloneVolumes$State" "roots" "[I") fl_X8_30) (fun _ h9 => h9) rfl eX8_clear_58.2.2.2.2.2.1 ?_
      refine lv_iload_n hx hb eX8_clear_58.2.2.2.2.2.2.1 rfl (lv_at hl 1 rfl) ?_
      refine lv_bipush (v := (-2)) hx hb eX8_clear_58.2.2.2.2.2.2.2 (by decide) ?_
      obtain ⟨hi5, h⟩ := inb_e h
      refine ya_iast (i := x1) (x := (-2)) hx hb hK hP (hDD _) hS 60 0 CW_60 rfl (by decide) hi5 eX8_clear_72.1 (CW_w60 _) (fun H locs hP hS => ?_)
      obtain ⟨s6, hs6, h⟩ := st_e h
      rw [hs6] at hP
      refine lv_aload_n hx hb eX8_clear_72.2.1 rfl (lv_at hl 0 rfl) ?_
      refine va_get (D := D) (ci := 8) (v := .ref (a 61)) (C := RX8) (T := TX8) (N := 11) hx hb ht inX8 hown hK hP 53 CW_53 rfl 10 (by decide) (ht (.fieldLink RX8 33 "CloneVolumes$State" "savedRoots" "[I") fl_X8_33) (fun _ h9 => h9) rfl eX8_clear_72.2.2.1 ?_
      refine lv_iload_n hx hb eX8_clear_72.2.2.2.1 rfl (lv_at hl 1 rfl) ?_
      refine lv_bipush (v := (-2)) hx hb eX8_clear_72.2.2.2.2.1 (by decide) ?_
      obtain ⟨hi7, h⟩ := inb_e h
      refine ya_iast (i := x1) (x := (-2)) hx hb hK hP (hDD _) hS 61 0 CW_61 rfl (by decide) hi7 eX8_clear_72.2.2.2.2.2.1 (CW_w61 _) (fun H locs hP hS => ?_)
      obtain ⟨s8, hs8, h⟩ := st_e h
      rw [hs8] at hP
      refine lv_iinc (v := i2 (x1 + 1)) (lv' := [(2, .int (i2 (x1 + 1))), (0, .ref (a 53))]) hx hb eX8_clear_72.2.2.2.2.2.2.1 hl (k := 1) rfl (i2_add x1 1) (by decide) rfl (fun ls hl => ?_)
      refine lv_goto (tgt := 59) hx hb eX8_clear_72.2.2.2.2.2.2.2 (by decide) ?_
      exact ih59 (x1 + 1, s8) _ _ _ ⟨hP, hS, lv_sub hl [1, 0] rfl, h⟩
  refine y_loop (pcJ := 17) (σ := Int × MS) (fun n u H locs ls => va_P D vwCl (CS D a u.2) H ∧ va_S A s₀.heap H locs ∧ lv_has ls 3 [(0, .ref (a 53)), (2, .int (i2 u.1))] ∧ m_x8_clear_v2_L17 n u.1 u.2 = some o) (fun u => []) (fun u H locs ls hI => by obtain ⟨_, _, _, h⟩ := hI; cases h) (fun n17 ih17 u H locs ls hI => ?_) (fun J17 => ?_)
  · obtain ⟨hP, hS, hl, h⟩ := hI
    obtain ⟨x9, s10⟩ := u
    have hP : va_P D vwCl (CS D a s10) H := hP
    have hl : lv_has ls 3 [(0, .ref (a 53)), (2, .int (i2 x9))] := hl
    have h : m_x8_clear_v2_b17 (m_x8_clear_v2_L17 n17) x9 s10 = some o := h
    unfold m_x8_clear_v2_b17 at h
    refine lv_iload_n hx hb eX8_clear_7.2.2.2.2.2.2.1 rfl (lv_at hl 1 rfl) ?_
    refine lv_bipush (v := 48) hx hb eX8_clear_7.2.2.2.2.2.2.2 (by decide) ?_
    obtain ⟨hr11, h⟩ := rg_e h
    refine lv_icmp_ge (tgt := 57) hx hb eX8_clear_20.1 (by decide) (fun c12 => ?_) (fun c12 => ?_)
    · have h := if_t ((i2_le (x := 48) (y := x9) (by decide) hr11).mp c12) h
      refine lv_iconst (v := 0) hx hb eX8_clear_44.2.2.2.2.2.2.2 (by decide) ?_
      refine lv_istore_n (lv' := [(2, .int 0), (0, .ref (a 53))]) hx hb eX8_clear_58.1 rfl hl (by decide) rfl (fun ls hl => ?_)
      exact J59 FU (0, s10) _ _ _ ⟨hP, hS, lv_sub hl [1, 0] rfl, h⟩
    · have h := if_f (mt (i2_le (x := 48) (y := x9) (by decide) hr11).mpr c12) h
      refine lv_aload_n hx hb eX8_clear_20.2.1 rfl (lv_at hl 0 rfl) ?_
      refine va_get (D := D) (ci := 8) (v := .ref (a 54)) (C := RX8) (T := TX8) (N := 11) hx hb ht inX8 hown hK hP 53 CW_53 rfl 3 (by decide) (ht (.fieldLink RX8 9 "CloneVolumes$State" "count" "[I") fl_X8_9) (fun _ h9 => h9) rfl eX8_clear_20.2.2.1 ?_
      refine lv_iload_n hx hb eX8_clear_20.2.2.2.1 rfl (lv_at hl 1 rfl) ?_
      refine lv_iconst (v := 0) hx hb eX8_clear_20.2.2.2.2.1 (by decide) ?_
      obtain ⟨hi13, h⟩ := inb_e h
      refine ya_iast (i := x9) (x := 0) hx hb hK hP (hDD _) hS 54 0 CW_54 rfl (by decide) hi13 eX8_clear_20.2.2.2.2.2.1 (CW_w54 _) (fun H locs hP hS => ?_)
      obtain ⟨s14, hs14, h⟩ := st_e h
      rw [hs14] at hP
      refine lv_aload_n hx hb eX8_clear_20.2.2.2.2.2.2.1 rfl (lv_at hl 0 rfl) ?_
      refine va_get (D := D) (ci := 8) (v := .ref (a 55)) (C := RX8) (T := TX8) (N := 11) hx hb ht inX8 hown hK hP 53 CW_53 rfl 4 (by decide) (ht (.fieldLink RX8 15 "CloneVolumes$State" "saved" "[I") fl_X8_15) (fun _ h9 => h9) rfl eX8_clear_20.2.2.2.2.2.2.2 ?_
      refine lv_iload_n hx hb eX8_clear_34.1 rfl (lv_at hl 1 rfl) ?_
      refine lv_iconst (v := 0) hx hb eX8_clear_34.2.1 (by decide) ?_
      obtain ⟨hi15, h⟩ := inb_e h
      refine ya_iast (i := x9) (x := 0) hx hb hK hP (hDD _) hS 55 0 CW_55 rfl (by decide) hi15 eX8_clear_34.2.2.1 (CW_w55 _) (fun H locs hP hS => ?_)
      obtain ⟨s16, hs16, h⟩ := st_e h
      rw [hs16] at hP
      refine lv_aload_n hx hb eX8_clear_34.2.2.2.1 rfl (lv_at hl 0 rfl) ?_
      refine va_get (D := D) (ci := 8) (v := .ref (a 56)) (C := RX8) (T := TX8) (N := 11) hx hb ht inX8 hown hK hP 53 CW_53 rfl 5 (by decide) (ht (.fieldLink RX8 18 "CloneVolumes$State" "level" "[I") fl_X8_18) (fun _ h9 => h9) rfl eX8_clear_34.2.2.2.2.1 ?_
      refine lv_iload_n hx hb eX8_clear_34.2.2.2.2.2.1 rfl (lv_at hl 1 rfl) ?_
      refine lv_iconst (v := 0) hx hb eX8_clear_34.2.2.2.2.2.2.1 (by decide) ?_
      obtain ⟨hi17, h⟩ := inb_e h
      refine ya_iast (i := x9) (x := 0) hx hb hK hP (hDD _) hS 56 0 CW_56 rfl (by decide) hi17 eX8_clear_34.2.2.2.2.2.2.2 (CW_w56 _) (fun H locs hP hS => ?_)
      obtain ⟨s18, hs18, h⟩ := st_e h
      rw [hs18] at hP
      refine lv_aload_n hx hb eX8_clear_44.1 rfl (lv_at hl 0 rfl) ?_
      refine va_get (D := D) (ci := 8) (v := .ref (a 57)) (C := RX8) (T := TX8) (N := 11) hx hb ht inX8 hown hK hP 53 CW_53 rfl 6 (by decide) (ht (.fieldLink RX8 21 "CloneVolumes$State" "size" "[I") fl_X8_21) (fun _ h9 => h9) rfl eX8_clear_44.2.1 ?_
      refine lv_iload_n hx hb eX8_clear_44.2.2.1 rfl (lv_at hl 1 rfl) ?_
      refine lv_iconst (v := 0) hx hb eX8_clear_44.2.2.2.1 (by decide) ?_
      obtain ⟨hi19, h⟩ := inb_e h
      refine ya_iast (i := x9) (x := 0) hx hb hK hP (hDD _) hS 57 0 CW_57 rfl (by decide) hi19 eX8_clear_44.2.2.2.2.1 (CW_w57 _) (fun H locs hP hS => ?_)
      obtain ⟨s20, hs20, h⟩ := st_e h
      rw [hs20] at hP
      refine lv_iinc (v := i2 (x9 + 1)) (lv' := [(2, .int (i2 (x9 + 1))), (0, .ref (a 53))]) hx hb eX8_clear_44.2.2.2.2.2.1 hl (k := 1) rfl (i2_add x9 1) (by decide) rfl (fun ls hl => ?_)
      refine lv_goto (tgt := 17) hx hb eX8_clear_44.2.2.2.2.2.2.1 (by decide) ?_
      exact ih17 (x9 + 1, s20) _ _ _ ⟨hP, hS, lv_sub hl [1, 0] rfl, h⟩
  refine lv_aload_n hx hb eX1_init_82.2.2.2.1 rfl (lv_at hl 0 rfl) ?_
  refine lv_iload_n hx hb eX1_init_82.2.2.2.2.1 rfl (lv_at hl 1 rfl) ?_
  refine ya_put (D := D) (ci := 8) (v := .int (i2 p0)) (ty := .int) (C := RX8) (T := TX8) (N := 11) hx hb ht inX8 tyX8 tyX8_ok nmX8 hown hK hP (hDD _) hS 53 CW_53 rfl 0 (by decide) (ht (.fieldLink RX8 40 "CloneVolumes$State" "blocks" "I") fl_X8_40) (fun _ h9 => h9) rfl (by decide +kernel) rfl rfl (Nat.le_of_ble_eq_true rfl) eX1_init_82.2.2.2.2.2.1 (CW_w53_0 p0) (fun H locs hP hS => ?_)
  obtain ⟨s21, hs21, h⟩ := st_e h
  rw [hs21] at hP
  refine lv_aload_n hx hb eX1_init_82.2.2.2.2.2.2.1 rfl (lv_at hl 0 rfl) ?_
  refine lv_iconst (v := 0) hx hb eX1_init_82.2.2.2.2.2.2.2 (by decide) ?_
  refine ya_put (D := D) (ci := 8) (v := .int 0) (ty := .int) (C := RX8) (T := TX8) (N := 11) hx hb ht inX8 tyX8 tyX8_ok nmX8 hown hK hP (hDD _) hS 53 CW_53 rfl 1 (by decide) (ht (.fieldLink RX8 44 "CloneVolumes$State" "spent" "I") fl_X8_44) (fun _ h9 => h9) rfl (by decide +kernel) rfl rfl (Nat.le_of_ble_eq_true rfl) eX8_clear_7.1 (CW_w53_1 0) (fun H locs hP hS => ?_)
  obtain ⟨s22, hs22, h⟩ := st_e h
  rw [hs22] at hP
  refine lv_aload_n hx hb eX8_clear_7.2.1 rfl (lv_at hl 0 rfl) ?_
  refine lv_lconst (v := 0) hx hb eX8_clear_7.2.2.1 (by decide) ?_
  refine ya_put (D := D) (ci := 8) (v := .long 0) (ty := .long) (C := RX8) (T := TX8) (N := 11) hx hb ht inX8 tyX8 tyX8_ok nmX8 hown hK hP (hDD _) hS 53 CW_53 rfl 2 (by decide) (ht (.fieldLink RX8 47 "CloneVolumes$State" "written" "J") fl_X8_47) (fun _ h9 => h9) rfl (by decide +kernel) rfl rfl (Nat.le_of_ble_eq_true rfl) eX8_clear_7.2.2.2.1 (CW_w53_2 0) (fun H locs hP hS => ?_)
  obtain ⟨s23, hs23, h⟩ := st_e h
  rw [hs23] at hP
  refine lv_iconst (v := 0) hx hb eX8_clear_7.2.2.2.2.1 (by decide) ?_
  refine lv_istore_n (lv' := [(2, .int 0), (0, .ref (a 53)), (1, .int (i2 p0))]) hx hb eX8_clear_7.2.2.2.2.2.1 rfl hl (by decide) rfl (fun ls hl => ?_)
  exact J17 FU (0, s23) _ _ _ ⟨hP, hS, lv_sub hl [1, 0] rfl, h⟩
set_option maxHeartbeats 4000000 in
set_option maxRecDepth 100000 in
theorem k_x1_build (l : Launch) (D : va_G) (a : Nat → Nat) (c1 : Value) (sz : Nat) (s : MS) (o : MS) (h : m_x1_build s = some o) : yWv l yX1_build cX1_build 4 none { frames := 6, cells := 0, slots := 0, locals := 360 } D sz [.ref (a 49), .ref (a 29)] (CW D a c1 (.ref (a 29)) (.ref (a 39)) (.ref (a 62)) s) (CS D a o) := by
  refine Met.ofW (cc := cX1_build) (maxL := 4) (ret := none) (by decide) rfl ?_
  intro p e s₀ m args below meth c s₁ B hml hv
  obtain ⟨rfl, ⟨hsz, hP, hK, hD0⟩, hN⟩ := hv
  have hx := B.exec
  have hb := B.bytes
  have hr := B.returns
  have hts := atoms_spec (ws := wz yX1_build cX1_build 4 none) B.pre
  have ht : ∀ w ∈ lw_gd, w.before _ s₀ = true := fun w h => hts w (List.mem_cons_of_mem _ h)
  have hown : s₀.vm.findClass RX1 = some m.cls := findClass_of_methodNamed B.named
  have hlocks := B.notSynchronized
  subst hsz
  have hD := hD0.self (sz := s₀.heap.size)
  generalize hAe : va_A (CW D a c1 (.ref (a 29)) (.ref (a 39)) (.ref (a 62)) s) s₀.heap.size = A at hD ⊢
  have hA : ∀ q : Nat, s₀.heap.size ≤ q → A q := fun q h => by rw [← hAe]; exact Or.inr h
  have hS : va_S A s₀.heap s₀.heap [] := va_S.rf
  have hDD : ∀ {d1 d2 d3 d4 : Value} (t : MS), va_D A (CW D a d1 d2 d3 d4 t) := fun t => CW_D t hD
  have hl := lv_entry ([.ref (a 49), .ref (a 29)]) (n := 4) (Nat.le_of_ble_eq_true rfl)
  rw [lg_entry_eq]
  generalize (lg_sl ([.ref (a 49), .ref (a 29)]) ++ List.replicate (4 - (lg_sl ([.ref (a 49), .ref (a 29)])).length) Slot.unset).toArray = ls at hl ⊢
  have hl : lv_has ls 4 [(0, .ref (a 49)), (1, .ref (a 29))] := hl
  unfold m_x1_build at h
  refine y_loop (pcJ := 18) (σ := Int × MS) (fun n u H locs ls => va_P D vwCl (CS D a u.2) H ∧ va_S A s₀.heap H locs ∧ lv_has ls 4 [(0, .ref (a 49)), (1, .ref (a 29)), (2, .int (i2 u.1))] ∧ m_x1_build_L18 n u.1 u.2 = some o) (fun u => []) (fun u H locs ls hI => by obtain ⟨_, _, _, h⟩ := hI; cases h) (fun n18 ih18 u H locs ls hI => ?_) (fun J18 => ?_)
  · obtain ⟨hP, hS, hl, h⟩ := hI
    obtain ⟨x1, s2⟩ := u
    have hP : va_P D vwCl (CS D a s2) H := hP
    have hl : lv_has ls 4 [(0, .ref (a 49)), (1, .ref (a 29)), (2, .int (i2 x1))] := hl
    have h : m_x1_build_b18 (m_x1_build_L18 n18) x1 s2 = some o := h
    unfold m_x1_build_b18 at h
    refine y_head (pcJ := 135) (σ := Int × MS) (fun u H locs ls => va_P D vwCl (CS D a u.2) H ∧ va_S A s₀.heap H locs ∧ lv_has ls 4 [(0, .ref (a 49)), (1, .ref (a 29)), (2, .int (i2 u.1))] ∧ m_x1_build_J135 (m_x1_build_L18 n18) u.1 u.2 = some o) (fun u => []) (fun u H locs ls hI => ?_) (fun J135 => ?_)
    · obtain ⟨hP, hS, hl, h⟩ := hI
      obtain ⟨x3, s4⟩ := u
      have hP : va_P D vwCl (CS D a s4) H := hP
      have hl : lv_has ls 4 [(0, .ref (a 49)), (1, .ref (a 29)), (2, .int (i2 x3))] := hl
      have h : m_x1_build_J135 (m_x1_build_L18 n18) x3 s4 = some o := h
      unfold m_x1_build_J135 at h
      refine lv_iinc (v := i2 (x3 + 1)) (lv' := [(2, .int (i2 (x3 + 1))), (0, .ref (a 49)), (1, .ref (a 29))]) hx hb eX1_build_131.2.2.1 hl (k := 2) rfl (i2_add x3 1) (by decide) rfl (fun ls hl => ?_)
      refine lv_goto (tgt := 18) hx hb eX1_build_131.2.2.2.1 (by decide) ?_
      exact ih18 (x3 + 1, s4) _ _ _ ⟨hP, hS, lv_sub hl [1, 2, 0] rfl, h⟩
    refine lv_iload_n hx hb eX1_build_5.2.2.2.2.2.2.2 rfl (lv_at hl 2 rfl) ?_
    refine lv_aload_n hx hb eX1_build_19.1 rfl (lv_at hl 1 rfl) ?_
    refine va_get (D := D) (ci := 5) (v := .int (i2 (gI s2 585))) (C := RX5) (T := TX5) (N := 14) hx hb ht inX5 hown hK hP 29 CW_29 rfl 5 (by decide) (ht (.fieldLink RX1 60 "CloneVolumes$Plan" "changes" "I") fl_X1_60) (fun _ h9 => h9) rfl eX1_build_19.2.1 ?_
    obtain ⟨hr5, h⟩ := rg_e h
    obtain ⟨hr6, h⟩ := rg_e h
    refine lv_icmp_ge (tgt := 141) hx hb eX1_build_19.2.2.1 (by decide) (fun c7 => ?_) (fun c7 => ?_)
    · have h := if_t ((i2_le (x := (gI s2 585)) (y := x1) hr6 hr5).mp c7) h
      refine lv_aload_n hx hb eX1_build_131.2.2.2.2.1 rfl (lv_at hl 0 rfl) ?_
      refine va_get (D := D) (ci := 1) (v := .ref (a 53)) (C := RX1) (T := TX1) (N := 9) hx hb ht inX1 hown hK hP 49 CW_49 rfl 0 (by decide) (ht (.fieldLink RX1 12 "CloneVolumes$Forest" "now" "LCloneVolumes$State;") fl_X1_12) (fun _ h9 => h9) rfl eX1_build_131.2.2.2.2.2.1 ?_
      obtain ⟨s9, hc8, h⟩ := bn_e h
      refine ywVv (As := []) (rest := []) (C := RX8) (n := 0) (ws' := CS D a s9) ⟨hx, hb, hml, hown, ht⟩ (k_x8_save l D a _ _ _ hc8) (zgV ml_X1_90 im_X8_save se_X8_save in_X8 co_X8_save) rfl rfl (by decide +kernel) ⟨Nat.le_of_ble_eq_true rfl, Nat.le_of_ble_eq_true rfl⟩ hN hK hP (hDD _) hS hA 53 CW_53 rfl rfl rfl hl.1 rfl (Nat.le_of_ble_eq_true rfl) eX1_build_131.2.2.2.2.2.2.1 ⟨Nat.le_of_ble_eq_true rfl, Nat.le_of_ble_eq_true rfl⟩ (fun H locs hP hS => ?_)
      refine lv_aload_n hx hb eX1_build_131.2.2.2.2.2.2.2 rfl (lv_at hl 0 rfl) ?_
      refine va_get (D := D) (ci := 1) (v := .ref (a 53)) (C := RX1) (T := TX1) (N := 9) hx hb ht inX1 hown hK hP 49 CW_49 rfl 0 (by decide) (ht (.fieldLink RX1 12 "CloneVolumes$Forest" "now" "LCloneVolumes$State;") fl_X1_12) (fun _ h9 => h9) rfl eX1_build_149.1 ?_
      refine lv_iconst (v := 0) hx hb eX1_build_149.2.1 (by decide) ?_
      refine ya_put (D := D) (ci := 8) (v := .int 0) (ty := .int) (C := RX8) (T := TX8) (N := 11) hx hb ht inX8 tyX8 tyX8_ok nmX8 hown hK hP (hDD _) hS 53 CW_53 rfl 1 (by decide) (ht (.fieldLink RX1 93 "CloneVolumes$State" "spent" "I") fl_X1_93) (fun _ h9 => h9) rfl (by decide +kernel) rfl rfl (Nat.le_of_ble_eq_true rfl) eX1_build_149.2.2.1 (CW_w53_1 0) (fun H locs hP hS => ?_)
      obtain ⟨s10, hs10, h⟩ := st_e h
      rw [hs10] at hP
      refine lv_aload_n hx hb eX1_build_149.2.2.2.1 rfl (lv_at hl 0 rfl) ?_
      refine va_get (D := D) (ci := 1) (v := .ref (a 53)) (C := RX1) (T := TX1) (N := 9) hx hb ht inX1 hown hK hP 49 CW_49 rfl 0 (by decide) (ht (.fieldLink RX1 12 "CloneVolumes$Forest" "now" "LCloneVolumes$State;") fl_X1_12) (fun _ h9 => h9) rfl eX1_build_149.2.2.2.2.1 ?_
      refine lv_lconst (v := 0) hx hb eX1_build_149.2.2.2.2.2.1 (by decide) ?_
      refine ya_put (D := D) (ci := 8) (v := .long 0) (ty := .long) (C := RX8) (T := TX8) (N := 11) hx hb ht inX8 tyX8 tyX8_ok nmX8 hown hK hP (hDD _) hS 53 CW_53 rfl 2 (by decide) (ht (.fieldLink RX1 96 "CloneVolumes$State" "written" "J") fl_X1_96) (fun _ h9 => h9) rfl (by decide +kernel) rfl rfl (Nat.le_of_ble_eq_true rfl) eX1_build_149.2.2.2.2.2.2.1 (CW_w53_2 0) (fun H locs hP hS => ?_)
      obtain ⟨s11, hs11, h⟩ := st_e h
      rw [hs11] at hP
      obtain rfl := Option.some.inj h
      exact W.vret hx hb hr (fun t ht hW => ⟨⟨(), rfl, trivial, by rw [ht]; exact hP, va_K.moved hW.alike hK, hDD _⟩, hS.F ht⟩) hS.2.2 eX1_build_149.2.2.2.2.2.2.2
    · have h := if_f (mt (i2_le (x := (gI s2 585)) (y := x1) hr6 hr5).mpr c7) h
      refine lv_aload_n hx hb eX1_build_19.2.2.2.1 rfl (lv_at hl 1 rfl) ?_
      refine va_get (D := D) (ci := 5) (v := .ref (a 32)) (C := RX5) (T := TX5) (N := 14) hx hb ht inX5 hown hK hP 29 CW_29 rfl 8 (by decide) (ht (.fieldLink RX1 63 "CloneVolumes$Plan" "who" "[I") fl_X1_63) (fun _ h9 => h9) rfl eX1_build_19.2.2.2.2.1 ?_
      refine lv_iload_n hx hb eX1_build_19.2.2.2.2.2.1 rfl (lv_at hl 2 rfl) ?_
      obtain ⟨y12, ey12, iy12, h⟩ := rdI_e h
      refine ya_iald (i := x1) hx hb hK hP 32 0 CW_32 rfl (by decide) ey12 iy12 eX1_build_19.2.2.2.2.2.2.1 ?_
      refine lv_istore_n (lv' := [(3, .int (i2 y12)), (0, .ref (a 49)), (1, .ref (a 29)), (2, .int (i2 x1))]) hx hb eX1_build_19.2.2.2.2.2.2.2 rfl hl (by decide) rfl (fun ls hl => ?_)
      refine lv_aload_n hx hb eX1_build_33.1 rfl (lv_at hl 2 rfl) ?_
      refine va_get (D := D) (ci := 5) (v := .ref (a 31)) (C := RX5) (T := TX5) (N := 14) hx hb ht inX5 hown hK hP 29 CW_29 rfl 7 (by decide) (ht (.fieldLink RX1 66 "CloneVolumes$Plan" "kinds" "[I") fl_X1_66) (fun _ h9 => h9) rfl eX1_build_33.2.1 ?_
      refine lv_iload_n hx hb eX1_build_33.2.2.1 rfl (lv_at hl 3 rfl) ?_
      obtain ⟨y13, ey13, iy13, h⟩ := rdI_e h
      refine ya_iald (i := x1) hx hb hK hP 31 0 CW_31 rfl (by decide) ey13 iy13 eX1_build_33.2.2.2.1 ?_
      obtain ⟨hr14, h⟩ := rg_e h
      by_cases c15 : y13 = 2
      · have h := if_t c15 h
        refine lv_tableIn (off := 33) (tgt := 72) hx hb eX1_build_33.2.2.2.2.1 (by rw [c15]; decide) (by rw [c15]; decide) (by rw [c15]; decide) (by decide) ?_
        refine lv_aload_n hx hb eX1_build_33.2.2.2.2.2.1 rfl (lv_at hl 1 rfl) ?_
        refine va_get (D := D) (ci := 1) (v := .ref (a 53)) (C := RX1) (T := TX1) (N := 9) hx hb ht inX1 hown hK hP 49 CW_49 rfl 0 (by decide) (ht (.fieldLink RX1 12 "CloneVolumes$Forest" "now" "LCloneVolumes$State;") fl_X1_12) (fun _ h9 => h9) rfl eX1_build_33.2.2.2.2.2.2.1 ?_
        refine va_get (D := D) (ci := 8) (v := .ref (a 60)) (C := RX8) (T := TX8) (N := 11) hx hb ht inX8 hown hK hP 53 CW_53 rfl 9 (by decide) (ht (.fieldLink RX1 69 "CloneVolumes$State" "roots" "[I") fl_X1_69) (fun _ h9 => h9) rfl eX1_build_33.2.2.2.2.2.2.2 ?_
        refine lv_iload_n hx hb eX1_build_79.1 rfl (lv_at hl 0 rfl) ?_
        refine lv_iconst (v := (-1)) hx hb eX1_build_79.2.1 (by decide) ?_
        obtain ⟨hi16, h⟩ := inb_e h
        refine ya_iast (i := y12) (x := (-1)) hx hb hK hP (hDD _) hS 60 0 CW_60 rfl (by decide) hi16 eX1_build_79.2.2.1 (CW_w60 _) (fun H locs hP hS => ?_)
        obtain ⟨s17, hs17, h⟩ := st_e h
        rw [hs17] at hP
        refine lv_goto (tgt := 135) hx hb eX1_build_79.2.2.2.1 (by decide) ?_
        exact J135 (x1, s17) _ _ _ ⟨hP, hS, lv_sub hl [1, 2, 3] rfl, h⟩
      · have h := if_f c15 h
        by_cases c18 : y13 = 3
        · have h := if_t c18 h
          refine lv_tableIn (off := 46) (tgt := 85) hx hb eX1_build_33.2.2.2.2.1 (by rw [c18]; decide) (by rw [c18]; decide) (by rw [c18]; decide) (by decide) ?_
          refine lv_aload_n hx hb eX1_build_79.2.2.2.2.1 rfl (lv_at hl 1 rfl) ?_
          refine lv_aload_n hx hb eX1_build_79.2.2.2.2.2.1 rfl (lv_at hl 2 rfl) ?_
          refine va_get (D := D) (ci := 5) (v := .ref (a 33)) (C := RX5) (T := TX5) (N := 14) hx hb ht inX5 hown hK hP 29 CW_29 rfl 9 (by decide) (ht (.fieldLink RX1 72 "CloneVolumes$Plan" "first" "[I") fl_X1_72) (fun _ h9 => h9) rfl eX1_build_79.2.2.2.2.2.2.1 ?_
          refine lv_iload_n hx hb eX1_build_79.2.2.2.2.2.2.2 rfl (lv_at hl 3 rfl) ?_
          obtain ⟨y19, ey19, iy19, h⟩ := rdI_e h
          refine ya_iald (i := x1) hx hb hK hP 33 0 CW_33 rfl (by decide) ey19 iy19 eX1_build_91.1 ?_
          refine lv_iload_n hx hb eX1_build_91.2.1 rfl (lv_at hl 0 rfl) ?_
          obtain ⟨s21, hc20, h⟩ := bn_e h
          refine ywVv (As := [.int (i2 y19), .int (i2 y12)]) (rest := []) (C := RX1) (n := 2) (ws' := CS D a s21) ⟨hx, hb, hml, hown, ht⟩ (k_x1_share l D a y19 y12 _ _ _ hc20) (zgV ml_X1_75 im_X1_share se_X1_share in_X1 co_X1_share) rfl rfl (by decide +kernel) ⟨Nat.le_of_ble_eq_true rfl, Nat.le_of_ble_eq_true rfl⟩ hN hK hP (hDD _) hS hA 49 CW_49 rfl rfl rfl hl.1 rfl (Nat.le_of_ble_eq_true rfl) eX1_build_91.2.2.1 ⟨Nat.le_of_ble_eq_true rfl, Nat.le_of_ble_eq_true rfl⟩ (fun H locs hP hS => ?_)
          refine lv_goto (tgt := 135) hx hb eX1_build_91.2.2.2.1 (by decide) ?_
          exact J135 (x1, s21) _ _ _ ⟨hP, hS, lv_sub hl [1, 2, 3] rfl, h⟩
        · have h := if_f c18 h
          by_cases c22 : y13 = 4
          · have h := if_t c22 h
            refine lv_tableIn (off := 96) (tgt := 135) hx hb eX1_build_33.2.2.2.2.1 (by rw [c22]; decide) (by rw [c22]; decide) (by rw [c22]; decide) (by decide) ?_
            exact J135 (x1, s2) _ _ _ ⟨hP, hS, lv_sub hl [1, 2, 3] rfl, h⟩
          · have h := if_f c22 h
            by_cases c23 : y13 = 5
            · have h := if_t c23 h
              refine lv_tableIn (off := 60) (tgt := 99) hx hb eX1_build_33.2.2.2.2.1 (by rw [c23]; decide) (by rw [c23]; decide) (by rw [c23]; decide) (by decide) ?_
              refine lv_aload_n hx hb eX1_build_91.2.2.2.2.1 rfl (lv_at hl 1 rfl) ?_
              refine lv_iload_n hx hb eX1_build_91.2.2.2.2.2.1 rfl (lv_at hl 0 rfl) ?_
              refine lv_aload_n hx hb eX1_build_91.2.2.2.2.2.2.1 rfl (lv_at hl 2 rfl) ?_
              refine va_get (D := D) (ci := 5) (v := .ref (a 33)) (C := RX5) (T := TX5) (N := 14) hx hb ht inX5 hown hK hP 29 CW_29 rfl 9 (by decide) (ht (.fieldLink RX1 72 "CloneVolumes$Plan" "first" "[I") fl_X1_72) (fun _ h9 => h9) rfl eX1_build_91.2.2.2.2.2.2.2 ?_
              refine lv_iload_n hx hb eX1_build_105.1 rfl (lv_at hl 3 rfl) ?_
              obtain ⟨y24, ey24, iy24, h⟩ := rdI_e h
              refine ya_iald (i := x1) hx hb hK hP 33 0 CW_33 rfl (by decide) ey24 iy24 eX1_build_105.2.1 ?_
              refine lv_aload_n hx hb eX1_build_105.2.2.1 rfl (lv_at hl 2 rfl) ?_
              refine va_get (D := D) (ci := 5) (v := .ref (a 34)) (C := RX5) (T := TX5) (N := 14) hx hb ht inX5 hown hK hP 29 CW_29 rfl 10 (by decide) (ht (.fieldLink RX1 79 "CloneVolumes$Plan" "second" "[I") fl_X1_79) (fun _ h9 => h9) rfl eX1_build_105.2.2.2.1 ?_
              refine lv_iload_n hx hb eX1_build_105.2.2.2.2.1 rfl (lv_at hl 3 rfl) ?_
              obtain ⟨y25, ey25, iy25, h⟩ := rdI_e h
              refine ya_iald (i := x1) hx hb hK hP 34 0 CW_34 rfl (by decide) ey25 iy25 eX1_build_105.2.2.2.2.2.1 ?_
              obtain ⟨⟨r28, s27⟩, hc26, h⟩ := bn_e h
              refine ywV (r0 := i2 r28) (As := [.int (i2 y12), .int (i2 y24), .int (i2 y25)]) (rest := []) (C := RX1) (n := 3) (ws' := CS D a s27) ⟨hx, hb, hml, hown, ht⟩ (k_x1_tryPlant l D a y12 y24 y25 _ _ _ hc26) (zgV ml_X1_82 im_X1_tryPlant se_X1_tryPlant in_X1 co_X1_tryPlant) rfl rfl (by decide +kernel) ⟨Nat.le_of_ble_eq_true rfl, Nat.le_of_ble_eq_true rfl⟩ hN hK hP (hDD _) hS hA 49 CW_49 rfl rfl rfl hl.1 rfl (Nat.le_of_ble_eq_true rfl) eX1_build_105.2.2.2.2.2.2.1 ⟨Nat.le_of_ble_eq_true rfl, Nat.le_of_ble_eq_true rfl⟩ (fun H locs hP hS => ?_)
              refine lv_pop hx hb eX1_build_105.2.2.2.2.2.2.2 rfl ?_
              refine lv_goto (tgt := 135) hx hb eX1_build_117.1 (by decide) ?_
              exact J135 (x1, s27) _ _ _ ⟨hP, hS, lv_sub hl [1, 2, 3] rfl, h⟩
            · have h := if_f c23 h
              by_cases c29 : y13 = 6
              · have h := if_t c29 h
                refine lv_tableIn (off := 81) (tgt := 120) hx hb eX1_build_33.2.2.2.2.1 (by rw [c29]; decide) (by rw [c29]; decide) (by rw [c29]; decide) (by decide) ?_
                refine lv_aload_n hx hb eX1_build_117.2.1 rfl (lv_at hl 1 rfl) ?_
                refine lv_iload_n hx hb eX1_build_117.2.2.1 rfl (lv_at hl 0 rfl) ?_
                refine lv_aload_n hx hb eX1_build_117.2.2.2.1 rfl (lv_at hl 2 rfl) ?_
                refine va_get (D := D) (ci := 5) (v := .ref (a 33)) (C := RX5) (T := TX5) (N := 14) hx hb ht inX5 hown hK hP 29 CW_29 rfl 9 (by decide) (ht (.fieldLink RX1 72 "CloneVolumes$Plan" "first" "[I") fl_X1_72) (fun _ h9 => h9) rfl eX1_build_117.2.2.2.2.1 ?_
                refine lv_iload_n hx hb eX1_build_117.2.2.2.2.2.1 rfl (lv_at hl 3 rfl) ?_
                obtain ⟨y30, ey30, iy30, h⟩ := rdI_e h
                refine ya_iald (i := x1) hx hb hK hP 33 0 CW_33 rfl (by decide) ey30 iy30 eX1_build_117.2.2.2.2.2.2.1 ?_
                obtain ⟨⟨r33, s32⟩, hc31, h⟩ := bn_e h
                refine ywV (r0 := i2 r33) (As := [.int (i2 y12), .int (i2 y30)]) (rest := []) (C := RX1) (n := 2) (ws' := CS D a s32) ⟨hx, hb, hml, hown, ht⟩ (k_x1_tryUproot l D a y12 y30 _ _ _ hc31) (zgV ml_X1_86 im_X1_tryUproot se_X1_tryUproot in_X1 co_X1_tryUproot) rfl rfl (by decide +kernel) ⟨Nat.le_of_ble_eq_true rfl, Nat.le_of_ble_eq_true rfl⟩ hN hK hP (hDD _) hS hA 49 CW_49 rfl rfl rfl hl.1 rfl (Nat.le_of_ble_eq_true rfl) eX1_build_117.2.2.2.2.2.2.2 ⟨Nat.le_of_ble_eq_true rfl, Nat.le_of_ble_eq_true rfl⟩ (fun H locs hP hS => ?_)
                refine lv_pop hx hb eX1_build_131.1 rfl ?_
                refine lv_goto (tgt := 135) hx hb eX1_build_131.2.1 (by decide) ?_
                exact J135 (x1, s32) _ _ _ ⟨hP, hS, lv_sub hl [1, 2, 3] rfl, h⟩
              · have h := if_f c29 h
                refine lv_tableOut (tgt := 135) hx hb eX1_build_33.2.2.2.2.1 (by rw [i2_t hr14]; omega) (by decide) ?_
                exact J135 (x1, s2) _ _ _ ⟨hP, hS, lv_sub hl [1, 2, 3] rfl, h⟩
  refine lv_aload_n hx hb eX11_store_76.2.2.2.2.2.1 rfl (lv_at hl 0 rfl) ?_
  refine lv_aload_n hx hb eX11_store_76.2.2.2.2.2.2.1 rfl (lv_at hl 1 rfl) ?_
  refine ya_put (D := D) (ci := 1) (v := .ref (a 29)) (ty := .object "CloneVolumes$Plan") (C := RX1) (T := TX1) (N := 9) hx hb ht inX1 tyX1 tyX1_ok nmX1 hown hK hP (hDD _) hS 49 CW_49 rfl 4 (by decide) (ht (.fieldLink RX1 47 "CloneVolumes$Forest" "plan" "LCloneVolumes$Plan;") fl_X1_47) (fun _ h9 => h9) rfl (by decide +kernel) rfl rfl (Nat.le_of_ble_eq_true rfl) eX11_store_76.2.2.2.2.2.2.2 (CW_w49_4 _) (fun H locs hP hS => ?_)
  refine lv_aload_n hx hb eX1_build_5.1 rfl (lv_at hl 0 rfl) ?_
  refine va_get (D := D) (ci := 1) (v := .ref (a 53)) (C := RX1) (T := TX1) (N := 9) hx hb ht inX1 hown hK hP 49 CW_49 rfl 0 (by decide) (ht (.fieldLink RX1 12 "CloneVolumes$Forest" "now" "LCloneVolumes$State;") fl_X1_12) (fun _ h9 => h9) rfl eX1_build_5.2.1 ?_
  refine lv_aload_n hx hb eX1_build_5.2.2.1 rfl (lv_at hl 1 rfl) ?_
  refine va_get (D := D) (ci := 5) (v := .int (i2 (gI s 580))) (C := RX5) (T := TX5) (N := 14) hx hb ht inX5 hown hK hP 29 CW_29 rfl 0 (by decide) (ht (.fieldLink RX1 51 "CloneVolumes$Plan" "blocks" "I") fl_X1_51) (fun _ h9 => h9) rfl eX1_build_5.2.2.2.1 ?_
  obtain ⟨s35, hc34, h⟩ := bn_e h
  refine ywVv (As := [.int (i2 (gI s 580))]) (rest := []) (C := RX8) (n := 1) (ws' := CS D a s35) ⟨hx, hb, hml, hown, ht⟩ (k_x8_clear_v2 l D a (gI s 580) _ _ _ hc34) (zgV ml_X1_56 im_X8_clear se_X8_clear in_X8 co_X8_clear) rfl rfl (by decide +kernel) ⟨Nat.le_of_ble_eq_true rfl, Nat.le_of_ble_eq_true rfl⟩ hN hK hP (hDD _) hS hA 53 CW_53 rfl rfl rfl hl.1 rfl (Nat.le_of_ble_eq_true rfl) eX1_build_5.2.2.2.2.1 ⟨Nat.le_of_ble_eq_true rfl, Nat.le_of_ble_eq_true rfl⟩ (fun H locs hP hS => ?_)
  refine lv_iconst (v := 0) hx hb eX1_build_5.2.2.2.2.2.1 (by decide) ?_
  refine lv_istore_n (lv' := [(2, .int 0), (0, .ref (a 49)), (1, .ref (a 29))]) hx hb eX1_build_5.2.2.2.2.2.2.1 rfl hl (by decide) rfl (fun ls hl => ?_)
  exact J18 FU (0, s35) _ _ _ ⟨hP, hS, lv_sub hl [1, 2, 0] rfl, h⟩
set_option maxHeartbeats 4000000 in
set_option maxRecDepth 100000 in
theorem k_x11_store (l : Launch) (D : va_G) (a0 : Nat → Nat) (sz : Nat) (s : MS) (o : Int × MS) (h : m_x11_store s = some o) : yS l yX11_store cX11_store 3 (some .int) { frames := 163, cells := 0, slots := 0, locals := 9780 } D sz [.ref (a0 0)] a0 s (i2 o.1) o.2 := by
  refine Met.ofW (cc := cX11_store) (maxL := 3) (ret := (some .int)) (by decide) rfl ?_
  intro p e s₀ m args below meth c s₁ B hml hv
  obtain ⟨rfl, ⟨hsz, hP, hK, hD0⟩, hN⟩ := hv
  have hx := B.exec
  have hb := B.bytes
  have hr := B.returns
  have hts := atoms_spec (ws := wz yX11_store cX11_store 3 (some .int)) B.pre
  have ht : ∀ w ∈ lw_gd, w.before _ s₀ = true := fun w h => hts w (List.mem_cons_of_mem _ h)
  have hown : s₀.vm.findClass RX11 = some m.cls := findClass_of_methodNamed B.named
  have hlocks := B.notSynchronized
  subst hsz
  have hD := hD0.self (sz := s₀.heap.size)
  generalize hAe : va_A (CS D a0 s) s₀.heap.size = A at hD ⊢
  have hA : ∀ q : Nat, s₀.heap.size ≤ q → A q := fun q h => by rw [← hAe]; exact Or.inr h
  have hS : va_S A s₀.heap s₀.heap [] := va_S.rf
  have hl := lv_entry ([.ref (a0 0)]) (n := 3) (Nat.le_of_ble_eq_true rfl)
  rw [lg_entry_eq]
  generalize (lg_sl ([.ref (a0 0)]) ++ List.replicate (3 - (lg_sl ([.ref (a0 0)])).length) Slot.unset).toArray = ls at hl ⊢
  obtain ⟨a, ha⟩ : ∃ a : Nat → Nat, a = a0 := ⟨a0, rfl⟩
  rw [← ha] at hP hD hl
  have hu : ∀ k, (k < 29 ∨ 48 < k) → a k = a0 k := fun k _ => by rw [ha]
  have hDD : ∀ {d1 d2 d3 d4 : Value} (t : MS), va_D A (CW D a d1 d2 d3 d4 t) := fun t => CW_D t hD
  have hl : lv_has ls 3 [(0, .ref (a 0))] := hl
  clear ha
  unfold m_x11_store at h
  refine lv_aload_n hx hb eX11_store_0.1 rfl (lv_at hl 0 rfl) ?_
  refine va_get (D := D) (ci := 11) (v := .ref (a 5)) (C := RX11) (T := TX11) (N := 13) hx hb ht inX11 hown hK hP 0 CW_0 rfl 1 (by decide) (ht (.fieldLink RX11 21 "CloneVolumes" "reader" "LCloneVolumes$Reader;") fl_X11_21) (fun _ h9 => h9) rfl eX11_store_0.2.1 ?_
  refine lv_aload_n hx hb eX11_store_0.2.2.1 rfl (lv_at hl 0 rfl) ?_
  refine va_get (D := D) (ci := 11) (v := .ref (a 39)) (C := RX11) (T := TX11) (N := 13) hx hb ht inX11 hown hK hP 0 CW_0 rfl 10 (by decide) (ht (.fieldLink RX11 71 "CloneVolumes" "spare" "LCloneVolumes$Plan;") fl_X11_71) (fun _ h9 => h9) rfl eX11_store_0.2.2.2.1 ?_
  obtain ⟨⟨r3, s2⟩, hc1, h⟩ := bn_e h
  refine ywV (r0 := i2 r3) (As := [.ref (a 39)]) (rest := []) (C := RX6) (n := 1) (ws' := CS D a s2) ⟨hx, hb, hml, hown, ht⟩ (k_x6_readStore l D a _ _ _ hc1) (zgV ml_X11_99 im_X6_readStore se_X6_readStore in_X6 co_X6_readStore) rfl rfl (by decide +kernel) ⟨Nat.le_of_ble_eq_true rfl, Nat.le_of_ble_eq_true rfl⟩ hN hK hP (hDD _) hS hA 5 CW_5 rfl rfl rfl hl.1 rfl (Nat.le_of_ble_eq_true rfl) eX11_store_0.2.2.2.2.1 ⟨Nat.le_of_ble_eq_true rfl, Nat.le_of_ble_eq_true rfl⟩ (fun H locs hP hS => ?_)
  refine lv_istore_n (lv' := [(1, .int (i2 r3)), (0, .ref (a 0))]) hx hb eX11_store_0.2.2.2.2.2.1 rfl hl (by decide) rfl (fun ls hl => ?_)
  refine lv_aload_n hx hb eX11_store_0.2.2.2.2.2.2.1 rfl (lv_at hl 1 rfl) ?_
  refine va_get (D := D) (ci := 11) (v := .ref (a 3)) (C := RX11) (T := TX11) (N := 13) hx hb ht inX11 hown hK hP 0 CW_0 rfl 0 (by decide) (ht (.fieldLink RX11 12 "CloneVolumes" "tape" "LCloneVolumes$Tape;") fl_X11_12) (fun _ h9 => h9) rfl eX11_store_0.2.2.2.2.2.2.2 ?_
  refine lv_iconst (v := 0) hx hb eX11_store_16.1 (by decide) ?_
  refine ya_put (D := D) (ci := 9) (v := .int 0) (ty := .int) (C := RX9) (T := TX9) (N := 2) hx hb ht inX9 tyX9 tyX9_ok nmX9 hown hK hP (hDD _) hS 3 CW_3 rfl 1 (by decide) (ht (.fieldLink RX11 95 "CloneVolumes$Tape" "length" "I") fl_X11_95) (fun _ h9 => h9) rfl (by decide +kernel) rfl rfl (Nat.le_of_ble_eq_true rfl) eX11_store_16.2.1 (CW_w3_1 0) (fun H locs hP hS => ?_)
  obtain ⟨s4, hs4, h⟩ := st_e h
  rw [hs4] at hP
  refine lv_iload_n hx hb eX11_store_16.2.2.1 rfl (lv_at hl 0 rfl) ?_
  obtain ⟨hr5, h⟩ := rg_e h
  refine lv_if_ne (tgt := 30) hx hb eX11_store_16.2.2.2.1 (by decide) (fun c6 => ?_) (fun c6 => ?_)
  · have h := if_f (mt (i2_eq (x := r3) (y := 0) hr5 (by decide)).mpr c6) h
    refine lv_aload_n hx hb eX11_store_30.1 rfl (lv_at hl 1 rfl) ?_
    refine va_get (D := D) (ci := 11) (v := .ref (a 29)) (C := RX11) (T := TX11) (N := 13) hx hb ht inX11 hown hK hP 0 CW_0 rfl 9 (by decide) (ht (.fieldLink RX11 67 "CloneVolumes" "plan" "LCloneVolumes$Plan;") fl_X11_67) (fun _ h9 => h9) rfl eX11_store_30.2.1 ?_
    refine lv_astore_n (lv' := [(2, .ref (a 29)), (1, .int (i2 r3)), (0, .ref (a 0))]) hx hb eX11_store_30.2.2.1 rfl hl (by decide) rfl (fun ls hl => ?_)
    refine lv_aload_n hx hb eX11_store_30.2.2.2.1 rfl (lv_at hl 2 rfl) ?_
    refine lv_aload_n hx hb eX11_store_30.2.2.2.2.1 rfl (lv_at hl 2 rfl) ?_
    refine va_get (D := D) (ci := 11) (v := .ref (a 39)) (C := RX11) (T := TX11) (N := 13) hx hb ht inX11 hown hK hP 0 CW_0 rfl 10 (by decide) (ht (.fieldLink RX11 71 "CloneVolumes" "spare" "LCloneVolumes$Plan;") fl_X11_71) (fun _ h9 => h9) rfl eX11_store_30.2.2.2.2.2.1 ?_
    refine ya_put (D := D) (ci := 11) (v := .ref (a 39)) (ty := .object "CloneVolumes$Plan") (C := RX11) (T := TX11) (N := 13) hx hb ht inX11 tyX11 tyX11_ok nmX11 hown hK hP (hDD _) hS 0 CW_0 rfl 9 (by decide) (ht (.fieldLink RX11 67 "CloneVolumes" "plan" "LCloneVolumes$Plan;") fl_X11_67) (fun _ h9 => h9) rfl (by decide +kernel) rfl rfl (Nat.le_of_ble_eq_true rfl) eX11_store_30.2.2.2.2.2.2.1 (CW_w0_9 _) (fun H locs hP hS => ?_)
    refine lv_aload_n hx hb eX11_store_30.2.2.2.2.2.2.2 rfl (lv_at hl 2 rfl) ?_
    refine lv_aload_n hx hb eX11_store_44.1 rfl (lv_at hl 0 rfl) ?_
    refine ya_put (D := D) (ci := 11) (v := .ref (a 29)) (ty := .object "CloneVolumes$Plan") (C := RX11) (T := TX11) (N := 13) hx hb ht inX11 tyX11 tyX11_ok nmX11 hown hK hP (hDD _) hS 0 CW_0 rfl 10 (by decide) (ht (.fieldLink RX11 71 "CloneVolumes" "spare" "LCloneVolumes$Plan;") fl_X11_71) (fun _ h9 => h9) rfl (by decide +kernel) rfl rfl (Nat.le_of_ble_eq_true rfl) eX11_store_44.2.1 (CW_w0_10 _) (fun H locs hP hS => ?_)
    obtain ⟨he7, h⟩ := eqg_e h
    obtain ⟨s8, hs8, h⟩ := st_e h
    have hu2 : ∀ k, (k < 29 ∨ 48 < k) → swp a k = a0 k := fun k hk => (swp_out hk).trans (hu k hk)
    have hDs : va_D A (CW D (swp a) (.ref (swp a 39)) (.ref (swp a 29)) (.ref (swp a 39)) (.ref (swp a 62)) s8) := CW_swp_D (hDD (d1 := .null) (d2 := .null) (d3 := .null) (d4 := .null) s4)
    have hP : va_P D vwCl (CW D (swp a) (.ref (swp a 39)) (.ref (swp a 29)) (.ref (swp a 39)) (.ref (swp a 62)) s8) H := by rw [← hs8]; exact CW_swp_P he7 hP
    have hl : lv_has ls 3 [(0, .ref (swp a 0))] := lv_sub hl [2] rfl
    clear hu hDD
    generalize swp a = a at hP hl hu2 hDs
    have hu : ∀ k, (k < 29 ∨ 48 < k) → a k = a0 k := hu2
    have hDD : ∀ {d1 d2 d3 d4 : Value} (t : MS), va_D A (CW D a d1 d2 d3 d4 t) := fun t => CW_D t hDs
    refine lv_aload_n hx hb eX11_store_44.2.2.1 rfl (lv_at hl 0 rfl) ?_
    refine va_get (D := D) (ci := 11) (v := .ref (a 49)) (C := RX11) (T := TX11) (N := 13) hx hb ht inX11 hown hK hP 0 CW_0 rfl 11 (by decide) (ht (.fieldLink RX11 79 "CloneVolumes" "forest" "LCloneVolumes$Forest;") fl_X11_79) (fun _ h9 => h9) rfl eX11_store_44.2.2.2.1 ?_
    refine lv_aload_n hx hb eX11_store_44.2.2.2.2.1 rfl (lv_at hl 0 rfl) ?_
    refine va_get (D := D) (ci := 11) (v := .ref (a 29)) (C := RX11) (T := TX11) (N := 13) hx hb ht inX11 hown hK hP 0 CW_0 rfl 9 (by decide) (ht (.fieldLink RX11 67 "CloneVolumes" "plan" "LCloneVolumes$Plan;") fl_X11_67) (fun _ h9 => h9) rfl eX11_store_44.2.2.2.2.2.1 ?_
    obtain ⟨s10, hc9, h⟩ := bn_e h
    refine ywVv (As := [.ref (a 29)]) (rest := []) (C := RX1) (n := 1) (ws' := CS D a s10) ⟨hx, hb, hml, hown, ht⟩ (k_x1_build l D a (.ref (a 39)) _ _ _ hc9) (zgV ml_X11_103 im_X1_build se_X1_build in_X1 co_X1_build) rfl rfl (by decide +kernel) ⟨Nat.le_of_ble_eq_true rfl, Nat.le_of_ble_eq_true rfl⟩ hN hK hP (hDD _) hS hA 49 CW_49 rfl rfl rfl hl.1 rfl (Nat.le_of_ble_eq_true rfl) eX11_store_44.2.2.2.2.2.2.1 ⟨Nat.le_of_ble_eq_true rfl, Nat.le_of_ble_eq_true rfl⟩ (fun H locs hP hS => ?_)
    refine lv_aload_n hx hb eX11_store_44.2.2.2.2.2.2.2 rfl (lv_at hl 0 rfl) ?_
    refine va_get (D := D) (ci := 11) (v := .ref (a 7)) (C := RX11) (T := TX11) (N := 13) hx hb ht inX11 hown hK hP 0 CW_0 rfl 2 (by decide) (ht (.fieldLink RX11 28 "CloneVolumes" "history" "LCloneVolumes$History;") fl_X11_28) (fun _ h9 => h9) rfl eX11_store_60.1 ?_
    obtain ⟨s12, hc11, h⟩ := bn_e h
    refine ywVv (As := []) (rest := []) (C := RX2) (n := 0) (ws' := CS D a s12) ⟨hx, hb, hml, hown, ht⟩ (k_x2_clear l D a _ _ _ hc11) (zgV ml_X11_106 im_X2_clear se_X2_clear in_X2 co_X2_clear) rfl rfl (by decide +kernel) ⟨Nat.le_of_ble_eq_true rfl, Nat.le_of_ble_eq_true rfl⟩ hN hK hP (hDD _) hS hA 7 CW_7 rfl rfl rfl hl.1 rfl (Nat.le_of_ble_eq_true rfl) eX11_store_60.2.1 ⟨Nat.le_of_ble_eq_true rfl, Nat.le_of_ble_eq_true rfl⟩ (fun H locs hP hS => ?_)
    refine lv_aload_n hx hb eX11_store_60.2.2.1 rfl (lv_at hl 0 rfl) ?_
    refine va_get (D := D) (ci := 11) (v := .ref (a 11)) (C := RX11) (T := TX11) (N := 13) hx hb ht inX11 hown hK hP 0 CW_0 rfl 3 (by decide) (ht (.fieldLink RX11 35 "CloneVolumes" "sight" "LCloneVolumes$Sight;") fl_X11_35) (fun _ h9 => h9) rfl eX11_store_60.2.2.2.1 ?_
    refine lv_iconst (v := 0) hx hb eX11_store_60.2.2.2.2.1 (by decide) ?_
    refine ya_put (D := D) (ci := 7) (v := .int 0) (ty := .int) (C := RX7) (T := TX7) (N := 6) hx hb ht inX7 tyX7 tyX7_ok nmX7 hown hK hP (hDD _) hS 11 CW_11 rfl 0 (by decide) (ht (.fieldLink RX11 109 "CloneVolumes$Sight" "rows" "I") fl_X11_109) (fun _ h9 => h9) rfl (by decide +kernel) rfl rfl (Nat.le_of_ble_eq_true rfl) eX11_store_60.2.2.2.2.2.1 (CW_w11_0 0) (fun H locs hP hS => ?_)
    obtain ⟨s13, hs13, h⟩ := st_e h
    rw [hs13] at hP
    refine lv_aload_n hx hb eX11_store_60.2.2.2.2.2.2.1 rfl (lv_at hl 0 rfl) ?_
    refine lv_iconst (v := 1) hx hb eX11_store_60.2.2.2.2.2.2.2 (by decide) ?_
    refine ya_put (D := D) (ci := 11) (v := .int 1) (ty := .boolean) (C := RX11) (T := TX11) (N := 13) hx hb ht inX11 tyX11 tyX11_ok nmX11 hown hK hP (hDD _) hS 0 CW_0 rfl 12 (by decide) (ht (.fieldLink RX11 112 "CloneVolumes" "told" "Z") fl_X11_112) (fun _ h9 => h9) rfl (by decide +kernel) (by decide) (by decide) (Nat.le_of_ble_eq_true rfl) eX11_store_76.1 (CW_w0_12 1) (fun H locs hP hS => ?_)
    obtain ⟨s14, hs14, h⟩ := st_e h
    rw [hs14] at hP
    refine lv_aload_n hx hb eX11_store_76.2.1 rfl (lv_at hl 0 rfl) ?_
    refine va_get (D := D) (ci := 11) (v := .ref (a 29)) (C := RX11) (T := TX11) (N := 13) hx hb ht inX11 hown hK hP 0 CW_0 rfl 9 (by decide) (ht (.fieldLink RX11 67 "CloneVolumes" "plan" "LCloneVolumes$Plan;") fl_X11_67) (fun _ h9 => h9) rfl eX11_store_76.2.2.1 ?_
    refine va_get (D := D) (ci := 5) (v := .int (i2 (gI s14 583))) (C := RX5) (T := TX5) (N := 14) hx hb ht inX5 hown hK hP 29 CW_29 rfl 3 (by decide) (ht (.fieldLink RX11 116 "CloneVolumes$Plan" "statements" "I") fl_X11_116) (fun _ h9 => h9) rfl eX11_store_76.2.2.2.1 ?_
    obtain rfl := Option.some.inj h
    exact W.iret (v := (i2 (gI s14 583))) hx hb hr (fun t ht hW => ⟨⟨_, a, rfl, ⟨rfl, hu⟩, by rw [ht]; exact hP, va_K.moved hW.alike hK, hDD _⟩, hS.F ht⟩) hS.2.2 eX11_store_76.2.2.2.2.1
  · have h := if_t ((i2_eq (x := r3) (y := 0) hr5 (by decide)).mp c6) h
    refine lv_aload_n hx hb eX11_store_16.2.2.2.2.1 rfl (lv_at hl 1 rfl) ?_
    refine lv_iconst (v := 1) hx hb eX11_store_16.2.2.2.2.2.1 (by decide) ?_
    obtain ⟨⟨r17, s16⟩, hc15, h⟩ := bn_e h
    refine ywV (r0 := i2 r17) (As := [.int 1]) (rest := []) (C := RX11) (n := 1) (ws' := CS D a s16) ⟨hx, hb, hml, hown, ht⟩ (k_x11_refuse l D a 1 _ _ _ hc15) (zgV ml_X11_87 im_X11_refuse se_X11_refuse in_X11 co_X11_refuse) rfl rfl (by decide +kernel) ⟨Nat.le_of_ble_eq_true rfl, Nat.le_of_ble_eq_true rfl⟩ hN hK hP (hDD _) hS hA 0 CW_0 rfl rfl rfl hl.1 rfl (Nat.le_of_ble_eq_true rfl) eX11_store_16.2.2.2.2.2.2.1 ⟨Nat.le_of_ble_eq_true rfl, Nat.le_of_ble_eq_true rfl⟩ (fun H locs hP hS => ?_)
    obtain rfl := Option.some.inj h
    exact W.iret (v := (i2 r17)) hx hb hr (fun t ht hW => ⟨⟨_, a, rfl, ⟨rfl, hu⟩, by rw [ht]; exact hP, va_K.moved hW.alike hK, hDD _⟩, hS.F ht⟩) hS.2.2 eX11_store_16.2.2.2.2.2.2.2
def zByt : List Int32 := 98 :: 108 :: 111 :: 99 :: 107 :: 115 :: 32 :: 114 :: 111 :: 111 :: 109 :: 32 :: 118 :: 111 :: 108 :: 117 :: 109 :: 101 :: 32 :: 99 :: 108 :: 111 :: 110 :: 101 :: 32 :: 111 :: 102 :: 32 :: 112 :: 117 :: 116 :: 32 :: 114 :: 101 :: 109 :: 111 :: 118 :: 101 :: 32 :: 112 :: 105 :: 99 :: 107 :: 115 :: 32 :: 115 :: 112 :: 108 :: 105 :: 116 :: 115 :: 32 :: 99 :: 111 :: 115 :: 116 :: 115 :: 32 :: 99 :: 104 :: 117 :: 114 :: 110 :: 32 :: 98 :: 108 :: 111 :: 99 :: 107 :: 32 :: 102 :: 114 :: 111 :: 109 :: 32 :: 108 :: 101 :: 118 :: 101 :: 108 :: 32 :: 101 :: 110 :: 116 :: 114 :: 105 :: 101 :: 115 :: 32 :: 110 :: 117 :: 109 :: 98 :: 101 :: 114 :: 32 :: 99 :: 111 :: 117 :: 110 :: 116 :: 32 :: 102 :: 114 :: 101 :: 115 :: 104 :: 32 :: 115 :: 97 :: 118 :: 101 :: 100 :: 32 :: 114 :: 101 :: 102 :: 115 :: 32 :: 107 :: 101 :: 121 :: 32 :: 111 :: 114 :: 32 :: 97 :: 110 :: 100 :: 32 :: 110 :: 111 :: 116 :: 32 :: 97 :: 108 :: 108 :: 32 :: 109 :: 105 :: 110 :: 32 :: 109 :: 97 :: 120 :: 32 :: 102 :: 105 :: 114 :: 115 :: 116 :: 32 :: 108 :: 97 :: 115 :: 116 :: 32 :: 111 :: 102 :: 116 :: 101 :: 110 :: 32 :: 116 :: 111 :: 116 :: 97 :: 108 :: 32 :: 109 :: 111 :: 115 :: 116 :: 32 :: 108 :: 101 :: 97 :: 115 :: 116 :: []
theorem zEl_0 : Cond.eq (.elem (.field (.string "CloneVolumes$Reader" 15) "java/lang/String" "value" "[B") (.int (Int32.ofNat 0))) (.int (zByt.getD 0 0)) ∈ flatC (Jvm.Cond.and given_1 narrow_1) := List.mem_of_getElem? (i := 13) (by decide +kernel)
theorem zEl_1 : Cond.eq (.elem (.field (.string "CloneVolumes$Reader" 15) "java/lang/String" "value" "[B") (.int (Int32.ofNat 1))) (.int (zByt.getD 1 0)) ∈ flatC (Jvm.Cond.and given_1 narrow_1) := List.mem_of_getElem? (i := 14) (by decide +kernel)
theorem zEl_2 : Cond.eq (.elem (.field (.string "CloneVolumes$Reader" 15) "java/lang/String" "value" "[B") (.int (Int32.ofNat 2))) (.int (zByt.getD 2 0)) ∈ flatC (Jvm.Cond.and given_1 narrow_1) := List.mem_of_getElem? (i := 15) (by decide +kernel)
theorem zEl_3 : Cond.eq (.elem (.field (.string "CloneVolumes$Reader" 15) "java/lang/String" "value" "[B") (.int (Int32.ofNat 3))) (.int (zByt.getD 3 0)) ∈ flatC (Jvm.Cond.and given_1 narrow_1) := List.mem_of_getElem? (i := 16) (by decide +kernel)
theorem zEl_4 : Cond.eq (.elem (.field (.string "CloneVolumes$Reader" 15) "java/lang/String" "value" "[B") (.int (Int32.ofNat 4))) (.int (zByt.getD 4 0)) ∈ flatC (Jvm.Cond.and given_1 narrow_1) := List.mem_of_getElem? (i := 17) (by decide +kernel)
theorem zEl_5 : Cond.eq (.elem (.field (.string "CloneVolumes$Reader" 15) "java/lang/String" "value" "[B") (.int (Int32.ofNat 5))) (.int (zByt.getD 5 0)) ∈ flatC (Jvm.Cond.and given_1 narrow_1) := List.mem_of_getElem? (i := 18) (by decide +kernel)
theorem zEl_6 : Cond.eq (.elem (.field (.string "CloneVolumes$Reader" 15) "java/lang/String" "value" "[B") (.int (Int32.ofNat 6))) (.int (zByt.getD 6 0)) ∈ flatC (Jvm.Cond.and given_1 narrow_1) := List.mem_of_getElem? (i := 19) (by decide +kernel)
theorem zEl_7 : Cond.eq (.elem (.field (.string "CloneVolumes$Reader" 15) "java/lang/String" "value" "[B") (.int (Int32.ofNat 7))) (.int (zByt.getD 7 0)) ∈ flatC (Jvm.Cond.and given_1 narrow_1) := List.mem_of_getElem? (i := 20) (by decide +kernel)
theorem zEl_8 : Cond.eq (.elem (.field (.string "CloneVolumes$Reader" 15) "java/lang/String" "value" "[B") (.int (Int32.ofNat 8))) (.int (zByt.getD 8 0)) ∈ flatC (Jvm.Cond.and given_1 narrow_1) := List.mem_of_getElem? (i := 21) (by decide +kernel)
theorem zEl_9 : Cond.eq (.elem (.field (.string "CloneVolumes$Reader" 15) "java/lang/String" "value" "[B") (.int (Int32.ofNat 9))) (.int (zByt.getD 9 0)) ∈ flatC (Jvm.Cond.and given_1 narrow_1) := List.mem_of_getElem? (i := 22) (by decide +kernel)
theorem zEl_10 : Cond.eq (.elem (.field (.string "CloneVolumes$Reader" 15) "java/lang/String" "value" "[B") (.int (Int32.ofNat 10))) (.int (zByt.getD 10 0)) ∈ flatC (Jvm.Cond.and given_1 narrow_1) := List.mem_of_getElem? (i := 23) (by decide +kernel)
theorem zEl_11 : Cond.eq (.elem (.field (.string "CloneVolumes$Reader" 15) "java/lang/String" "value" "[B") (.int (Int32.ofNat 11))) (.int (zByt.getD 11 0)) ∈ flatC (Jvm.Cond.and given_1 narrow_1) := List.mem_of_getElem? (i := 24) (by decide +kernel)
theorem zEl_12 : Cond.eq (.elem (.field (.string "CloneVolumes$Reader" 15) "java/lang/String" "value" "[B") (.int (Int32.ofNat 12))) (.int (zByt.getD 12 0)) ∈ flatC (Jvm.Cond.and given_1 narrow_1) := List.mem_of_getElem? (i := 25) (by decide +kernel)
theorem zEl_13 : Cond.eq (.elem (.field (.string "CloneVolumes$Reader" 15) "java/lang/String" "value" "[B") (.int (Int32.ofNat 13))) (.int (zByt.getD 13 0)) ∈ flatC (Jvm.Cond.and given_1 narrow_1) := List.mem_of_getElem? (i := 26) (by decide +kernel)
theorem zEl_14 : Cond.eq (.elem (.field (.string "CloneVolumes$Reader" 15) "java/lang/String" "value" "[B") (.int (Int32.ofNat 14))) (.int (zByt.getD 14 0)) ∈ flatC (Jvm.Cond.and given_1 narrow_1) := List.mem_of_getElem? (i := 27) (by decide +kernel)
theorem zEl_15 : Cond.eq (.elem (.field (.string "CloneVolumes$Reader" 15) "java/lang/String" "value" "[B") (.int (Int32.ofNat 15))) (.int (zByt.getD 15 0)) ∈ flatC (Jvm.Cond.and given_1 narrow_1) := List.mem_of_getElem? (i := 28) (by decide +kernel)
theorem zEl_16 : Cond.eq (.elem (.field (.string "CloneVolumes$Reader" 15) "java/lang/String" "value" "[B") (.int (Int32.ofNat 16))) (.int (zByt.getD 16 0)) ∈ flatC (Jvm.Cond.and given_1 narrow_1) := List.mem_of_getElem? (i := 29) (by decide +kernel)
theorem zEl_17 : Cond.eq (.elem (.field (.string "CloneVolumes$Reader" 15) "java/lang/String" "value" "[B") (.int (Int32.ofNat 17))) (.int (zByt.getD 17 0)) ∈ flatC (Jvm.Cond.and given_1 narrow_1) := List.mem_of_getElem? (i := 30) (by decide +kernel)
theorem zEl_18 : Cond.eq (.elem (.field (.string "CloneVolumes$Reader" 15) "java/lang/String" "value" "[B") (.int (Int32.ofNat 18))) (.int (zByt.getD 18 0)) ∈ flatC (Jvm.Cond.and given_1 narrow_1) := List.mem_of_getElem? (i := 31) (by decide +kernel)
theorem zEl_19 : Cond.eq (.elem (.field (.string "CloneVolumes$Reader" 15) "java/lang/String" "value" "[B") (.int (Int32.ofNat 19))) (.int (zByt.getD 19 0)) ∈ flatC (Jvm.Cond.and given_1 narrow_1) := List.mem_of_getElem? (i := 32) (by decide +kernel)
theorem zEl_20 : Cond.eq (.elem (.field (.string "CloneVolumes$Reader" 15) "java/lang/String" "value" "[B") (.int (Int32.ofNat 20))) (.int (zByt.getD 20 0)) ∈ flatC (Jvm.Cond.and given_1 narrow_1) := List.mem_of_getElem? (i := 33) (by decide +kernel)
theorem zEl_21 : Cond.eq (.elem (.field (.string "CloneVolumes$Reader" 15) "java/lang/String" "value" "[B") (.int (Int32.ofNat 21))) (.int (zByt.getD 21 0)) ∈ flatC (Jvm.Cond.and given_1 narrow_1) := List.mem_of_getElem? (i := 34) (by decide +kernel)
theorem zEl_22 : Cond.eq (.elem (.field (.string "CloneVolumes$Reader" 15) "java/lang/String" "value" "[B") (.int (Int32.ofNat 22))) (.int (zByt.getD 22 0)) ∈ flatC (Jvm.Cond.and given_1 narrow_1) := List.mem_of_getElem? (i := 35) (by decide +kernel)
theorem zEl_23 : Cond.eq (.elem (.field (.string "CloneVolumes$Reader" 15) "java/lang/String" "value" "[B") (.int (Int32.ofNat 23))) (.int (zByt.getD 23 0)) ∈ flatC (Jvm.Cond.and given_1 narrow_1) := List.mem_of_getElem? (i := 36) (by decide +kernel)
theorem zEl_24 : Cond.eq (.elem (.field (.string "CloneVolumes$Reader" 15) "java/lang/String" "value" "[B") (.int (Int32.ofNat 24))) (.int (zByt.getD 24 0)) ∈ flatC (Jvm.Cond.and given_1 narrow_1) := List.mem_of_getElem? (i := 37) (by decide +kernel)
theorem zEl_25 : Cond.eq (.elem (.field (.string "CloneVolumes$Reader" 15) "java/lang/String" "value" "[B") (.int (Int32.ofNat 25))) (.int (zByt.getD 25 0)) ∈ flatC (Jvm.Cond.and given_1 narrow_1) := List.mem_of_getElem? (i := 38) (by decide +kernel)
theorem zEl_26 : Cond.eq (.elem (.field (.string "CloneVolumes$Reader" 15) "java/lang/String" "value" "[B") (.int (Int32.ofNat 26))) (.int (zByt.getD 26 0)) ∈ flatC (Jvm.Cond.and given_1 narrow_1) := List.mem_of_getElem? (i := 39) (by decide +kernel)
theorem zEl_27 : Cond.eq (.elem (.field (.string "CloneVolumes$Reader" 15) "java/lang/String" "value" "[B") (.int (Int32.ofNat 27))) (.int (zByt.getD 27 0)) ∈ flatC (Jvm.Cond.and given_1 narrow_1) := List.mem_of_getElem? (i := 40) (by decide +kernel)
theorem zEl_28 : Cond.eq (.elem (.field (.string "CloneVolumes$Reader" 15) "java/lang/String" "value" "[B") (.int (Int32.ofNat 28))) (.int (zByt.getD 28 0)) ∈ flatC (Jvm.Cond.and given_1 narrow_1) := List.mem_of_getElem? (i := 41) (by decide +kernel)
theorem zEl_29 : Cond.eq (.elem (.field (.string "CloneVolumes$Reader" 15) "java/lang/String" "value" "[B") (.int (Int32.ofNat 29))) (.int (zByt.getD 29 0)) ∈ flatC (Jvm.Cond.and given_1 narrow_1) := List.mem_of_getElem? (i := 42) (by decide +kernel)
theorem zEl_30 : Cond.eq (.elem (.field (.string "CloneVolumes$Reader" 15) "java/lang/String" "value" "[B") (.int (Int32.ofNat 30))) (.int (zByt.getD 30 0)) ∈ flatC (Jvm.Cond.and given_1 narrow_1) := List.mem_of_getElem? (i := 43) (by decide +kernel)
theorem zEl_31 : Cond.eq (.elem (.field (.string "CloneVolumes$Reader" 15) "java/lang/String" "value" "[B") (.int (Int32.ofNat 31))) (.int (zByt.getD 31 0)) ∈ flatC (Jvm.Cond.and given_1 narrow_1) := List.mem_of_getElem? (i := 44) (by decide +kernel)
theorem zEl_32 : Cond.eq (.elem (.field (.string "CloneVolumes$Reader" 15) "java/lang/String" "value" "[B") (.int (Int32.ofNat 32))) (.int (zByt.getD 32 0)) ∈ flatC (Jvm.Cond.and given_1 narrow_1) := List.mem_of_getElem? (i := 45) (by decide +kernel)
theorem zEl_33 : Cond.eq (.elem (.field (.string "CloneVolumes$Reader" 15) "java/lang/String" "value" "[B") (.int (Int32.ofNat 33))) (.int (zByt.getD 33 0)) ∈ flatC (Jvm.Cond.and given_1 narrow_1) := List.mem_of_getElem? (i := 46) (by decide +kernel)
theorem zEl_34 : Cond.eq (.elem (.field (.string "CloneVolumes$Reader" 15) "java/lang/String" "value" "[B") (.int (Int32.ofNat 34))) (.int (zByt.getD 34 0)) ∈ flatC (Jvm.Cond.and given_1 narrow_1) := List.mem_of_getElem? (i := 47) (by decide +kernel)
theorem zEl_35 : Cond.eq (.elem (.field (.string "CloneVolumes$Reader" 15) "java/lang/String" "value" "[B") (.int (Int32.ofNat 35))) (.int (zByt.getD 35 0)) ∈ flatC (Jvm.Cond.and given_1 narrow_1) := List.mem_of_getElem? (i := 48) (by decide +kernel)
theorem zEl_36 : Cond.eq (.elem (.field (.string "CloneVolumes$Reader" 15) "java/lang/String" "value" "[B") (.int (Int32.ofNat 36))) (.int (zByt.getD 36 0)) ∈ flatC (Jvm.Cond.and given_1 narrow_1) := List.mem_of_getElem? (i := 49) (by decide +kernel)
theorem zEl_37 : Cond.eq (.elem (.field (.string "CloneVolumes$Reader" 15) "java/lang/String" "value" "[B") (.int (Int32.ofNat 37))) (.int (zByt.getD 37 0)) ∈ flatC (Jvm.Cond.and given_1 narrow_1) := List.mem_of_getElem? (i := 50) (by decide +kernel)
theorem zEl_38 : Cond.eq (.elem (.field (.string "CloneVolumes$Reader" 15) "java/lang/String" "value" "[B") (.int (Int32.ofNat 38))) (.int (zByt.getD 38 0)) ∈ flatC (Jvm.Cond.and given_1 narrow_1) := List.mem_of_getElem? (i := 51) (by decide +kernel)
theorem zEl_39 : Cond.eq (.elem (.field (.string "CloneVolumes$Reader" 15) "java/lang/String" "value" "[B") (.int (Int32.ofNat 39))) (.int (zByt.getD 39 0)) ∈ flatC (Jvm.Cond.and given_1 narrow_1) := List.mem_of_getElem? (i := 52) (by decide +kernel)
theorem zEl_40 : Cond.eq (.elem (.field (.string "CloneVolumes$Reader" 15) "java/lang/String" "value" "[B") (.int (Int32.ofNat 40))) (.int (zByt.getD 40 0)) ∈ flatC (Jvm.Cond.and given_1 narrow_1) := List.mem_of_getElem? (i := 53) (by decide +kernel)
theorem zEl_41 : Cond.eq (.elem (.field (.string "CloneVolumes$Reader" 15) "java/lang/String" "value" "[B") (.int (Int32.ofNat 41))) (.int (zByt.getD 41 0)) ∈ flatC (Jvm.Cond.and given_1 narrow_1) := List.mem_of_getElem? (i := 54) (by decide +kernel)
theorem zEl_42 : Cond.eq (.elem (.field (.string "CloneVolumes$Reader" 15) "java/lang/String" "value" "[B") (.int (Int32.ofNat 42))) (.int (zByt.getD 42 0)) ∈ flatC (Jvm.Cond.and given_1 narrow_1) := List.mem_of_getElem? (i := 55) (by decide +kernel)
theorem zEl_43 : Cond.eq (.elem (.field (.string "CloneVolumes$Reader" 15) "java/lang/String" "value" "[B") (.int (Int32.ofNat 43))) (.int (zByt.getD 43 0)) ∈ flatC (Jvm.Cond.and given_1 narrow_1) := List.mem_of_getElem? (i := 56) (by decide +kernel)
theorem zEl_44 : Cond.eq (.elem (.field (.string "CloneVolumes$Reader" 15) "java/lang/String" "value" "[B") (.int (Int32.ofNat 44))) (.int (zByt.getD 44 0)) ∈ flatC (Jvm.Cond.and given_1 narrow_1) := List.mem_of_getElem? (i := 57) (by decide +kernel)
theorem zEl_45 : Cond.eq (.elem (.field (.string "CloneVolumes$Reader" 15) "java/lang/String" "value" "[B") (.int (Int32.ofNat 45))) (.int (zByt.getD 45 0)) ∈ flatC (Jvm.Cond.and given_1 narrow_1) := List.mem_of_getElem? (i := 58) (by decide +kernel)
theorem zEl_46 : Cond.eq (.elem (.field (.string "CloneVolumes$Reader" 15) "java/lang/String" "value" "[B") (.int (Int32.ofNat 46))) (.int (zByt.getD 46 0)) ∈ flatC (Jvm.Cond.and given_1 narrow_1) := List.mem_of_getElem? (i := 59) (by decide +kernel)
theorem zEl_47 : Cond.eq (.elem (.field (.string "CloneVolumes$Reader" 15) "java/lang/String" "value" "[B") (.int (Int32.ofNat 47))) (.int (zByt.getD 47 0)) ∈ flatC (Jvm.Cond.and given_1 narrow_1) := List.mem_of_getElem? (i := 60) (by decide +kernel)
theorem zEl_48 : Cond.eq (.elem (.field (.string "CloneVolumes$Reader" 15) "java/lang/String" "value" "[B") (.int (Int32.ofNat 48))) (.int (zByt.getD 48 0)) ∈ flatC (Jvm.Cond.and given_1 narrow_1) := List.mem_of_getElem? (i := 61) (by decide +kernel)
theorem zEl_49 : Cond.eq (.elem (.field (.string "CloneVolumes$Reader" 15) "java/lang/String" "value" "[B") (.int (Int32.ofNat 49))) (.int (zByt.getD 49 0)) ∈ flatC (Jvm.Cond.and given_1 narrow_1) := List.mem_of_getElem? (i := 62) (by decide +kernel)
theorem zEl_50 : Cond.eq (.elem (.field (.string "CloneVolumes$Reader" 15) "java/lang/String" "value" "[B") (.int (Int32.ofNat 50))) (.int (zByt.getD 50 0)) ∈ flatC (Jvm.Cond.and given_1 narrow_1) := List.mem_of_getElem? (i := 63) (by decide +kernel)
theorem zEl_51 : Cond.eq (.elem (.field (.string "CloneVolumes$Reader" 15) "java/lang/String" "value" "[B") (.int (Int32.ofNat 51))) (.int (zByt.getD 51 0)) ∈ flatC (Jvm.Cond.and given_1 narrow_1) := List.mem_of_getElem? (i := 64) (by decide +kernel)
theorem zEl_52 : Cond.eq (.elem (.field (.string "CloneVolumes$Reader" 15) "java/lang/String" "value" "[B") (.int (Int32.ofNat 52))) (.int (zByt.getD 52 0)) ∈ flatC (Jvm.Cond.and given_1 narrow_1) := List.mem_of_getElem? (i := 65) (by decide +kernel)
theorem zEl_53 : Cond.eq (.elem (.field (.string "CloneVolumes$Reader" 15) "java/lang/String" "value" "[B") (.int (Int32.ofNat 53))) (.int (zByt.getD 53 0)) ∈ flatC (Jvm.Cond.and given_1 narrow_1) := List.mem_of_getElem? (i := 66) (by decide +kernel)
theorem zEl_54 : Cond.eq (.elem (.field (.string "CloneVolumes$Reader" 15) "java/lang/String" "value" "[B") (.int (Int32.ofNat 54))) (.int (zByt.getD 54 0)) ∈ flatC (Jvm.Cond.and given_1 narrow_1) := List.mem_of_getElem? (i := 67) (by decide +kernel)
theorem zEl_55 : Cond.eq (.elem (.field (.string "CloneVolumes$Reader" 15) "java/lang/String" "value" "[B") (.int (Int32.ofNat 55))) (.int (zByt.getD 55 0)) ∈ flatC (Jvm.Cond.and given_1 narrow_1) := List.mem_of_getElem? (i := 68) (by decide +kernel)
theorem zEl_56 : Cond.eq (.elem (.field (.string "CloneVolumes$Reader" 15) "java/lang/String" "value" "[B") (.int (Int32.ofNat 56))) (.int (zByt.getD 56 0)) ∈ flatC (Jvm.Cond.and given_1 narrow_1) := List.mem_of_getElem? (i := 69) (by decide +kernel)
theorem zEl_57 : Cond.eq (.elem (.field (.string "CloneVolumes$Reader" 15) "java/lang/String" "value" "[B") (.int (Int32.ofNat 57))) (.int (zByt.getD 57 0)) ∈ flatC (Jvm.Cond.and given_1 narrow_1) := List.mem_of_getElem? (i := 70) (by decide +kernel)
theorem zEl_58 : Cond.eq (.elem (.field (.string "CloneVolumes$Reader" 15) "java/lang/String" "value" "[B") (.int (Int32.ofNat 58))) (.int (zByt.getD 58 0)) ∈ flatC (Jvm.Cond.and given_1 narrow_1) := List.mem_of_getElem? (i := 71) (by decide +kernel)
theorem zEl_59 : Cond.eq (.elem (.field (.string "CloneVolumes$Reader" 15) "java/lang/String" "value" "[B") (.int (Int32.ofNat 59))) (.int (zByt.getD 59 0)) ∈ flatC (Jvm.Cond.and given_1 narrow_1) := List.mem_of_getElem? (i := 72) (by decide +kernel)
theorem zEl_60 : Cond.eq (.elem (.field (.string "CloneVolumes$Reader" 15) "java/lang/String" "value" "[B") (.int (Int32.ofNat 60))) (.int (zByt.getD 60 0)) ∈ flatC (Jvm.Cond.and given_1 narrow_1) := List.mem_of_getElem? (i := 73) (by decide +kernel)
theorem zEl_61 : Cond.eq (.elem (.field (.string "CloneVolumes$Reader" 15) "java/lang/String" "value" "[B") (.int (Int32.ofNat 61))) (.int (zByt.getD 61 0)) ∈ flatC (Jvm.Cond.and given_1 narrow_1) := List.mem_of_getElem? (i := 74) (by decide +kernel)
theorem zEl_62 : Cond.eq (.elem (.field (.string "CloneVolumes$Reader" 15) "java/lang/String" "value" "[B") (.int (Int32.ofNat 62))) (.int (zByt.getD 62 0)) ∈ flatC (Jvm.Cond.and given_1 narrow_1) := List.mem_of_getElem? (i := 75) (by decide +kernel)
theorem zEl_63 : Cond.eq (.elem (.field (.string "CloneVolumes$Reader" 15) "java/lang/String" "value" "[B") (.int (Int32.ofNat 63))) (.int (zByt.getD 63 0)) ∈ flatC (Jvm.Cond.and given_1 narrow_1) := List.mem_of_getElem? (i := 76) (by decide +kernel)
theorem zEl_64 : Cond.eq (.elem (.field (.string "CloneVolumes$Reader" 15) "java/lang/String" "value" "[B") (.int (Int32.ofNat 64))) (.int (zByt.getD 64 0)) ∈ flatC (Jvm.Cond.and given_1 narrow_1) := List.mem_of_getElem? (i := 77) (by decide +kernel)
theorem zEl_65 : Cond.eq (.elem (.field (.string "CloneVolumes$Reader" 15) "java/lang/String" "value" "[B") (.int (Int32.ofNat 65))) (.int (zByt.getD 65 0)) ∈ flatC (Jvm.Cond.and given_1 narrow_1) := List.mem_of_getElem? (i := 78) (by decide +kernel)
theorem zEl_66 : Cond.eq (.elem (.field (.string "CloneVolumes$Reader" 15) "java/lang/String" "value" "[B") (.int (Int32.ofNat 66))) (.int (zByt.getD 66 0)) ∈ flatC (Jvm.Cond.and given_1 narrow_1) := List.mem_of_getElem? (i := 79) (by decide +kernel)
theorem zEl_67 : Cond.eq (.elem (.field (.string "CloneVolumes$Reader" 15) "java/lang/String" "value" "[B") (.int (Int32.ofNat 67))) (.int (zByt.getD 67 0)) ∈ flatC (Jvm.Cond.and given_1 narrow_1) := List.mem_of_getElem? (i := 80) (by decide +kernel)
theorem zEl_68 : Cond.eq (.elem (.field (.string "CloneVolumes$Reader" 15) "java/lang/String" "value" "[B") (.int (Int32.ofNat 68))) (.int (zByt.getD 68 0)) ∈ flatC (Jvm.Cond.and given_1 narrow_1) := List.mem_of_getElem? (i := 81) (by decide +kernel)
theorem zEl_69 : Cond.eq (.elem (.field (.string "CloneVolumes$Reader" 15) "java/lang/String" "value" "[B") (.int (Int32.ofNat 69))) (.int (zByt.getD 69 0)) ∈ flatC (Jvm.Cond.and given_1 narrow_1) := List.mem_of_getElem? (i := 82) (by decide +kernel)
theorem zEl_70 : Cond.eq (.elem (.field (.string "CloneVolumes$Reader" 15) "java/lang/String" "value" "[B") (.int (Int32.ofNat 70))) (.int (zByt.getD 70 0)) ∈ flatC (Jvm.Cond.and given_1 narrow_1) := List.mem_of_getElem? (i := 83) (by decide +kernel)
theorem zEl_71 : Cond.eq (.elem (.field (.string "CloneVolumes$Reader" 15) "java/lang/String" "value" "[B") (.int (Int32.ofNat 71))) (.int (zByt.getD 71 0)) ∈ flatC (Jvm.Cond.and given_1 narrow_1) := List.mem_of_getElem? (i := 84) (by decide +kernel)
theorem zEl_72 : Cond.eq (.elem (.field (.string "CloneVolumes$Reader" 15) "java/lang/String" "value" "[B") (.int (Int32.ofNat 72))) (.int (zByt.getD 72 0)) ∈ flatC (Jvm.Cond.and given_1 narrow_1) := List.mem_of_getElem? (i := 85) (by decide +kernel)
theorem zEl_73 : Cond.eq (.elem (.field (.string "CloneVolumes$Reader" 15) "java/lang/String" "value" "[B") (.int (Int32.ofNat 73))) (.int (zByt.getD 73 0)) ∈ flatC (Jvm.Cond.and given_1 narrow_1) := List.mem_of_getElem? (i := 86) (by decide +kernel)
theorem zEl_74 : Cond.eq (.elem (.field (.string "CloneVolumes$Reader" 15) "java/lang/String" "value" "[B") (.int (Int32.ofNat 74))) (.int (zByt.getD 74 0)) ∈ flatC (Jvm.Cond.and given_1 narrow_1) := List.mem_of_getElem? (i := 87) (by decide +kernel)
theorem zEl_75 : Cond.eq (.elem (.field (.string "CloneVolumes$Reader" 15) "java/lang/String" "value" "[B") (.int (Int32.ofNat 75))) (.int (zByt.getD 75 0)) ∈ flatC (Jvm.Cond.and given_1 narrow_1) := List.mem_of_getElem? (i := 88) (by decide +kernel)
theorem zEl_76 : Cond.eq (.elem (.field (.string "CloneVolumes$Reader" 15) "java/lang/String" "value" "[B") (.int (Int32.ofNat 76))) (.int (zByt.getD 76 0)) ∈ flatC (Jvm.Cond.and given_1 narrow_1) := List.mem_of_getElem? (i := 89) (by decide +kernel)
theorem zEl_77 : Cond.eq (.elem (.field (.string "CloneVolumes$Reader" 15) "java/lang/String" "value" "[B") (.int (Int32.ofNat 77))) (.int (zByt.getD 77 0)) ∈ flatC (Jvm.Cond.and given_1 narrow_1) := List.mem_of_getElem? (i := 90) (by decide +kernel)
theorem zEl_78 : Cond.eq (.elem (.field (.string "CloneVolumes$Reader" 15) "java/lang/String" "value" "[B") (.int (Int32.ofNat 78))) (.int (zByt.getD 78 0)) ∈ flatC (Jvm.Cond.and given_1 narrow_1) := List.mem_of_getElem? (i := 91) (by decide +kernel)
theorem zEl_79 : Cond.eq (.elem (.field (.string "CloneVolumes$Reader" 15) "java/lang/String" "value" "[B") (.int (Int32.ofNat 79))) (.int (zByt.getD 79 0)) ∈ flatC (Jvm.Cond.and given_1 narrow_1) := List.mem_of_getElem? (i := 92) (by decide +kernel)
theorem zEl_80 : Cond.eq (.elem (.field (.string "CloneVolumes$Reader" 15) "java/lang/String" "value" "[B") (.int (Int32.ofNat 80))) (.int (zByt.getD 80 0)) ∈ flatC (Jvm.Cond.and given_1 narrow_1) := List.mem_of_getElem? (i := 93) (by decide +kernel)
theorem zEl_81 : Cond.eq (.elem (.field (.string "CloneVolumes$Reader" 15) "java/lang/String" "value" "[B") (.int (Int32.ofNat 81))) (.int (zByt.getD 81 0)) ∈ flatC (Jvm.Cond.and given_1 narrow_1) := List.mem_of_getElem? (i := 94) (by decide +kernel)
theorem zEl_82 : Cond.eq (.elem (.field (.string "CloneVolumes$Reader" 15) "java/lang/String" "value" "[B") (.int (Int32.ofNat 82))) (.int (zByt.getD 82 0)) ∈ flatC (Jvm.Cond.and given_1 narrow_1) := List.mem_of_getElem? (i := 95) (by decide +kernel)
theorem zEl_83 : Cond.eq (.elem (.field (.string "CloneVolumes$Reader" 15) "java/lang/String" "value" "[B") (.int (Int32.ofNat 83))) (.int (zByt.getD 83 0)) ∈ flatC (Jvm.Cond.and given_1 narrow_1) := List.mem_of_getElem? (i := 96) (by decide +kernel)
theorem zEl_84 : Cond.eq (.elem (.field (.string "CloneVolumes$Reader" 15) "java/lang/String" "value" "[B") (.int (Int32.ofNat 84))) (.int (zByt.getD 84 0)) ∈ flatC (Jvm.Cond.and given_1 narrow_1) := List.mem_of_getElem? (i := 97) (by decide +kernel)
theorem zEl_85 : Cond.eq (.elem (.field (.string "CloneVolumes$Reader" 15) "java/lang/String" "value" "[B") (.int (Int32.ofNat 85))) (.int (zByt.getD 85 0)) ∈ flatC (Jvm.Cond.and given_1 narrow_1) := List.mem_of_getElem? (i := 98) (by decide +kernel)
theorem zEl_86 : Cond.eq (.elem (.field (.string "CloneVolumes$Reader" 15) "java/lang/String" "value" "[B") (.int (Int32.ofNat 86))) (.int (zByt.getD 86 0)) ∈ flatC (Jvm.Cond.and given_1 narrow_1) := List.mem_of_getElem? (i := 99) (by decide +kernel)
theorem zEl_87 : Cond.eq (.elem (.field (.string "CloneVolumes$Reader" 15) "java/lang/String" "value" "[B") (.int (Int32.ofNat 87))) (.int (zByt.getD 87 0)) ∈ flatC (Jvm.Cond.and given_1 narrow_1) := List.mem_of_getElem? (i := 100) (by decide +kernel)
theorem zEl_88 : Cond.eq (.elem (.field (.string "CloneVolumes$Reader" 15) "java/lang/String" "value" "[B") (.int (Int32.ofNat 88))) (.int (zByt.getD 88 0)) ∈ flatC (Jvm.Cond.and given_1 narrow_1) := List.mem_of_getElem? (i := 101) (by decide +kernel)
theorem zEl_89 : Cond.eq (.elem (.field (.string "CloneVolumes$Reader" 15) "java/lang/String" "value" "[B") (.int (Int32.ofNat 89))) (.int (zByt.getD 89 0)) ∈ flatC (Jvm.Cond.and given_1 narrow_1) := List.mem_of_getElem? (i := 102) (by decide +kernel)
theorem zEl_90 : Cond.eq (.elem (.field (.string "CloneVolumes$Reader" 15) "java/lang/String" "value" "[B") (.int (Int32.ofNat 90))) (.int (zByt.getD 90 0)) ∈ flatC (Jvm.Cond.and given_1 narrow_1) := List.mem_of_getElem? (i := 103) (by decide +kernel)
theorem zEl_91 : Cond.eq (.elem (.field (.string "CloneVolumes$Reader" 15) "java/lang/String" "value" "[B") (.int (Int32.ofNat 91))) (.int (zByt.getD 91 0)) ∈ flatC (Jvm.Cond.and given_1 narrow_1) := List.mem_of_getElem? (i := 104) (by decide +kernel)
theorem zEl_92 : Cond.eq (.elem (.field (.string "CloneVolumes$Reader" 15) "java/lang/String" "value" "[B") (.int (Int32.ofNat 92))) (.int (zByt.getD 92 0)) ∈ flatC (Jvm.Cond.and given_1 narrow_1) := List.mem_of_getElem? (i := 105) (by decide +kernel)
theorem zEl_93 : Cond.eq (.elem (.field (.string "CloneVolumes$Reader" 15) "java/lang/String" "value" "[B") (.int (Int32.ofNat 93))) (.int (zByt.getD 93 0)) ∈ flatC (Jvm.Cond.and given_1 narrow_1) := List.mem_of_getElem? (i := 106) (by decide +kernel)
theorem zEl_94 : Cond.eq (.elem (.field (.string "CloneVolumes$Reader" 15) "java/lang/String" "value" "[B") (.int (Int32.ofNat 94))) (.int (zByt.getD 94 0)) ∈ flatC (Jvm.Cond.and given_1 narrow_1) := List.mem_of_getElem? (i := 107) (by decide +kernel)
theorem zEl_95 : Cond.eq (.elem (.field (.string "CloneVolumes$Reader" 15) "java/lang/String" "value" "[B") (.int (Int32.ofNat 95))) (.int (zByt.getD 95 0)) ∈ flatC (Jvm.Cond.and given_1 narrow_1) := List.mem_of_getElem? (i := 108) (by decide +kernel)
theorem zEl_96 : Cond.eq (.elem (.field (.string "CloneVolumes$Reader" 15) "java/lang/String" "value" "[B") (.int (Int32.ofNat 96))) (.int (zByt.getD 96 0)) ∈ flatC (Jvm.Cond.and given_1 narrow_1) := List.mem_of_getElem? (i := 109) (by decide +kernel)
theorem zEl_97 : Cond.eq (.elem (.field (.string "CloneVolumes$Reader" 15) "java/lang/String" "value" "[B") (.int (Int32.ofNat 97))) (.int (zByt.getD 97 0)) ∈ flatC (Jvm.Cond.and given_1 narrow_1) := List.mem_of_getElem? (i := 110) (by decide +kernel)
theorem zEl_98 : Cond.eq (.elem (.field (.string "CloneVolumes$Reader" 15) "java/lang/String" "value" "[B") (.int (Int32.ofNat 98))) (.int (zByt.getD 98 0)) ∈ flatC (Jvm.Cond.and given_1 narrow_1) := List.mem_of_getElem? (i := 111) (by decide +kernel)
theorem zEl_99 : Cond.eq (.elem (.field (.string "CloneVolumes$Reader" 15) "java/lang/String" "value" "[B") (.int (Int32.ofNat 99))) (.int (zByt.getD 99 0)) ∈ flatC (Jvm.Cond.and given_1 narrow_1) := List.mem_of_getElem? (i := 112) (by decide +kernel)
theorem zEl_100 : Cond.eq (.elem (.field (.string "CloneVolumes$Reader" 15) "java/lang/String" "value" "[B") (.int (Int32.ofNat 100))) (.int (zByt.getD 100 0)) ∈ flatC (Jvm.Cond.and given_1 narrow_1) := List.mem_of_getElem? (i := 113) (by decide +kernel)
theorem zEl_101 : Cond.eq (.elem (.field (.string "CloneVolumes$Reader" 15) "java/lang/String" "value" "[B") (.int (Int32.ofNat 101))) (.int (zByt.getD 101 0)) ∈ flatC (Jvm.Cond.and given_1 narrow_1) := List.mem_of_getElem? (i := 114) (by decide +kernel)
theorem zEl_102 : Cond.eq (.elem (.field (.string "CloneVolumes$Reader" 15) "java/lang/String" "value" "[B") (.int (Int32.ofNat 102))) (.int (zByt.getD 102 0)) ∈ flatC (Jvm.Cond.and given_1 narrow_1) := List.mem_of_getElem? (i := 115) (by decide +kernel)
theorem zEl_103 : Cond.eq (.elem (.field (.string "CloneVolumes$Reader" 15) "java/lang/String" "value" "[B") (.int (Int32.ofNat 103))) (.int (zByt.getD 103 0)) ∈ flatC (Jvm.Cond.and given_1 narrow_1) := List.mem_of_getElem? (i := 116) (by decide +kernel)
theorem zEl_104 : Cond.eq (.elem (.field (.string "CloneVolumes$Reader" 15) "java/lang/String" "value" "[B") (.int (Int32.ofNat 104))) (.int (zByt.getD 104 0)) ∈ flatC (Jvm.Cond.and given_1 narrow_1) := List.mem_of_getElem? (i := 117) (by decide +kernel)
theorem zEl_105 : Cond.eq (.elem (.field (.string "CloneVolumes$Reader" 15) "java/lang/String" "value" "[B") (.int (Int32.ofNat 105))) (.int (zByt.getD 105 0)) ∈ flatC (Jvm.Cond.and given_1 narrow_1) := List.mem_of_getElem? (i := 118) (by decide +kernel)
theorem zEl_106 : Cond.eq (.elem (.field (.string "CloneVolumes$Reader" 15) "java/lang/String" "value" "[B") (.int (Int32.ofNat 106))) (.int (zByt.getD 106 0)) ∈ flatC (Jvm.Cond.and given_1 narrow_1) := List.mem_of_getElem? (i := 119) (by decide +kernel)
theorem zEl_107 : Cond.eq (.elem (.field (.string "CloneVolumes$Reader" 15) "java/lang/String" "value" "[B") (.int (Int32.ofNat 107))) (.int (zByt.getD 107 0)) ∈ flatC (Jvm.Cond.and given_1 narrow_1) := List.mem_of_getElem? (i := 120) (by decide +kernel)
theorem zEl_108 : Cond.eq (.elem (.field (.string "CloneVolumes$Reader" 15) "java/lang/String" "value" "[B") (.int (Int32.ofNat 108))) (.int (zByt.getD 108 0)) ∈ flatC (Jvm.Cond.and given_1 narrow_1) := List.mem_of_getElem? (i := 121) (by decide +kernel)
theorem zEl_109 : Cond.eq (.elem (.field (.string "CloneVolumes$Reader" 15) "java/lang/String" "value" "[B") (.int (Int32.ofNat 109))) (.int (zByt.getD 109 0)) ∈ flatC (Jvm.Cond.and given_1 narrow_1) := List.mem_of_getElem? (i := 122) (by decide +kernel)
theorem zEl_110 : Cond.eq (.elem (.field (.string "CloneVolumes$Reader" 15) "java/lang/String" "value" "[B") (.int (Int32.ofNat 110))) (.int (zByt.getD 110 0)) ∈ flatC (Jvm.Cond.and given_1 narrow_1) := List.mem_of_getElem? (i := 123) (by decide +kernel)
theorem zEl_111 : Cond.eq (.elem (.field (.string "CloneVolumes$Reader" 15) "java/lang/String" "value" "[B") (.int (Int32.ofNat 111))) (.int (zByt.getD 111 0)) ∈ flatC (Jvm.Cond.and given_1 narrow_1) := List.mem_of_getElem? (i := 124) (by decide +kernel)
theorem zEl_112 : Cond.eq (.elem (.field (.string "CloneVolumes$Reader" 15) "java/lang/String" "value" "[B") (.int (Int32.ofNat 112))) (.int (zByt.getD 112 0)) ∈ flatC (Jvm.Cond.and given_1 narrow_1) := List.mem_of_getElem? (i := 125) (by decide +kernel)
theorem zEl_113 : Cond.eq (.elem (.field (.string "CloneVolumes$Reader" 15) "java/lang/String" "value" "[B") (.int (Int32.ofNat 113))) (.int (zByt.getD 113 0)) ∈ flatC (Jvm.Cond.and given_1 narrow_1) := List.mem_of_getElem? (i := 126) (by decide +kernel)
theorem zEl_114 : Cond.eq (.elem (.field (.string "CloneVolumes$Reader" 15) "java/lang/String" "value" "[B") (.int (Int32.ofNat 114))) (.int (zByt.getD 114 0)) ∈ flatC (Jvm.Cond.and given_1 narrow_1) := List.mem_of_getElem? (i := 127) (by decide +kernel)
theorem zEl_115 : Cond.eq (.elem (.field (.string "CloneVolumes$Reader" 15) "java/lang/String" "value" "[B") (.int (Int32.ofNat 115))) (.int (zByt.getD 115 0)) ∈ flatC (Jvm.Cond.and given_1 narrow_1) := List.mem_of_getElem? (i := 128) (by decide +kernel)
theorem zEl_116 : Cond.eq (.elem (.field (.string "CloneVolumes$Reader" 15) "java/lang/String" "value" "[B") (.int (Int32.ofNat 116))) (.int (zByt.getD 116 0)) ∈ flatC (Jvm.Cond.and given_1 narrow_1) := List.mem_of_getElem? (i := 129) (by decide +kernel)
theorem zEl_117 : Cond.eq (.elem (.field (.string "CloneVolumes$Reader" 15) "java/lang/String" "value" "[B") (.int (Int32.ofNat 117))) (.int (zByt.getD 117 0)) ∈ flatC (Jvm.Cond.and given_1 narrow_1) := List.mem_of_getElem? (i := 130) (by decide +kernel)
theorem zEl_118 : Cond.eq (.elem (.field (.string "CloneVolumes$Reader" 15) "java/lang/String" "value" "[B") (.int (Int32.ofNat 118))) (.int (zByt.getD 118 0)) ∈ flatC (Jvm.Cond.and given_1 narrow_1) := List.mem_of_getElem? (i := 131) (by decide +kernel)
theorem zEl_119 : Cond.eq (.elem (.field (.string "CloneVolumes$Reader" 15) "java/lang/String" "value" "[B") (.int (Int32.ofNat 119))) (.int (zByt.getD 119 0)) ∈ flatC (Jvm.Cond.and given_1 narrow_1) := List.mem_of_getElem? (i := 132) (by decide +kernel)
theorem zEl_120 : Cond.eq (.elem (.field (.string "CloneVolumes$Reader" 15) "java/lang/String" "value" "[B") (.int (Int32.ofNat 120))) (.int (zByt.getD 120 0)) ∈ flatC (Jvm.Cond.and given_1 narrow_1) := List.mem_of_getElem? (i := 133) (by decide +kernel)
theorem zEl_121 : Cond.eq (.elem (.field (.string "CloneVolumes$Reader" 15) "java/lang/String" "value" "[B") (.int (Int32.ofNat 121))) (.int (zByt.getD 121 0)) ∈ flatC (Jvm.Cond.and given_1 narrow_1) := List.mem_of_getElem? (i := 134) (by decide +kernel)
theorem zEl_122 : Cond.eq (.elem (.field (.string "CloneVolumes$Reader" 15) "java/lang/String" "value" "[B") (.int (Int32.ofNat 122))) (.int (zByt.getD 122 0)) ∈ flatC (Jvm.Cond.and given_1 narrow_1) := List.mem_of_getElem? (i := 135) (by decide +kernel)
theorem zEl_123 : Cond.eq (.elem (.field (.string "CloneVolumes$Reader" 15) "java/lang/String" "value" "[B") (.int (Int32.ofNat 123))) (.int (zByt.getD 123 0)) ∈ flatC (Jvm.Cond.and given_1 narrow_1) := List.mem_of_getElem? (i := 136) (by decide +kernel)
theorem zEl_124 : Cond.eq (.elem (.field (.string "CloneVolumes$Reader" 15) "java/lang/String" "value" "[B") (.int (Int32.ofNat 124))) (.int (zByt.getD 124 0)) ∈ flatC (Jvm.Cond.and given_1 narrow_1) := List.mem_of_getElem? (i := 137) (by decide +kernel)
theorem zEl_125 : Cond.eq (.elem (.field (.string "CloneVolumes$Reader" 15) "java/lang/String" "value" "[B") (.int (Int32.ofNat 125))) (.int (zByt.getD 125 0)) ∈ flatC (Jvm.Cond.and given_1 narrow_1) := List.mem_of_getElem? (i := 138) (by decide +kernel)
theorem zEl_126 : Cond.eq (.elem (.field (.string "CloneVolumes$Reader" 15) "java/lang/String" "value" "[B") (.int (Int32.ofNat 126))) (.int (zByt.getD 126 0)) ∈ flatC (Jvm.Cond.and given_1 narrow_1) := List.mem_of_getElem? (i := 139) (by decide +kernel)
theorem zEl_127 : Cond.eq (.elem (.field (.string "CloneVolumes$Reader" 15) "java/lang/String" "value" "[B") (.int (Int32.ofNat 127))) (.int (zByt.getD 127 0)) ∈ flatC (Jvm.Cond.and given_1 narrow_1) := List.mem_of_getElem? (i := 140) (by decide +kernel)
theorem zEl_128 : Cond.eq (.elem (.field (.string "CloneVolumes$Reader" 15) "java/lang/String" "value" "[B") (.int (Int32.ofNat 128))) (.int (zByt.getD 128 0)) ∈ flatC (Jvm.Cond.and given_1 narrow_1) := List.mem_of_getElem? (i := 141) (by decide +kernel)
theorem zEl_129 : Cond.eq (.elem (.field (.string "CloneVolumes$Reader" 15) "java/lang/String" "value" "[B") (.int (Int32.ofNat 129))) (.int (zByt.getD 129 0)) ∈ flatC (Jvm.Cond.and given_1 narrow_1) := List.mem_of_getElem? (i := 142) (by decide +kernel)
theorem zEl_130 : Cond.eq (.elem (.field (.string "CloneVolumes$Reader" 15) "java/lang/String" "value" "[B") (.int (Int32.ofNat 130))) (.int (zByt.getD 130 0)) ∈ flatC (Jvm.Cond.and given_1 narrow_1) := List.mem_of_getElem? (i := 143) (by decide +kernel)
theorem zEl_131 : Cond.eq (.elem (.field (.string "CloneVolumes$Reader" 15) "java/lang/String" "value" "[B") (.int (Int32.ofNat 131))) (.int (zByt.getD 131 0)) ∈ flatC (Jvm.Cond.and given_1 narrow_1) := List.mem_of_getElem? (i := 144) (by decide +kernel)
theorem zEl_132 : Cond.eq (.elem (.field (.string "CloneVolumes$Reader" 15) "java/lang/String" "value" "[B") (.int (Int32.ofNat 132))) (.int (zByt.getD 132 0)) ∈ flatC (Jvm.Cond.and given_1 narrow_1) := List.mem_of_getElem? (i := 145) (by decide +kernel)
theorem zEl_133 : Cond.eq (.elem (.field (.string "CloneVolumes$Reader" 15) "java/lang/String" "value" "[B") (.int (Int32.ofNat 133))) (.int (zByt.getD 133 0)) ∈ flatC (Jvm.Cond.and given_1 narrow_1) := List.mem_of_getElem? (i := 146) (by decide +kernel)
theorem zEl_134 : Cond.eq (.elem (.field (.string "CloneVolumes$Reader" 15) "java/lang/String" "value" "[B") (.int (Int32.ofNat 134))) (.int (zByt.getD 134 0)) ∈ flatC (Jvm.Cond.and given_1 narrow_1) := List.mem_of_getElem? (i := 147) (by decide +kernel)
theorem zEl_135 : Cond.eq (.elem (.field (.string "CloneVolumes$Reader" 15) "java/lang/String" "value" "[B") (.int (Int32.ofNat 135))) (.int (zByt.getD 135 0)) ∈ flatC (Jvm.Cond.and given_1 narrow_1) := List.mem_of_getElem? (i := 148) (by decide +kernel)
theorem zEl_136 : Cond.eq (.elem (.field (.string "CloneVolumes$Reader" 15) "java/lang/String" "value" "[B") (.int (Int32.ofNat 136))) (.int (zByt.getD 136 0)) ∈ flatC (Jvm.Cond.and given_1 narrow_1) := List.mem_of_getElem? (i := 149) (by decide +kernel)
theorem zEl_137 : Cond.eq (.elem (.field (.string "CloneVolumes$Reader" 15) "java/lang/String" "value" "[B") (.int (Int32.ofNat 137))) (.int (zByt.getD 137 0)) ∈ flatC (Jvm.Cond.and given_1 narrow_1) := List.mem_of_getElem? (i := 150) (by decide +kernel)
theorem zEl_138 : Cond.eq (.elem (.field (.string "CloneVolumes$Reader" 15) "java/lang/String" "value" "[B") (.int (Int32.ofNat 138))) (.int (zByt.getD 138 0)) ∈ flatC (Jvm.Cond.and given_1 narrow_1) := List.mem_of_getElem? (i := 151) (by decide +kernel)
theorem zEl_139 : Cond.eq (.elem (.field (.string "CloneVolumes$Reader" 15) "java/lang/String" "value" "[B") (.int (Int32.ofNat 139))) (.int (zByt.getD 139 0)) ∈ flatC (Jvm.Cond.and given_1 narrow_1) := List.mem_of_getElem? (i := 152) (by decide +kernel)
theorem zEl_140 : Cond.eq (.elem (.field (.string "CloneVolumes$Reader" 15) "java/lang/String" "value" "[B") (.int (Int32.ofNat 140))) (.int (zByt.getD 140 0)) ∈ flatC (Jvm.Cond.and given_1 narrow_1) := List.mem_of_getElem? (i := 153) (by decide +kernel)
theorem zEl_141 : Cond.eq (.elem (.field (.string "CloneVolumes$Reader" 15) "java/lang/String" "value" "[B") (.int (Int32.ofNat 141))) (.int (zByt.getD 141 0)) ∈ flatC (Jvm.Cond.and given_1 narrow_1) := List.mem_of_getElem? (i := 154) (by decide +kernel)
theorem zEl_142 : Cond.eq (.elem (.field (.string "CloneVolumes$Reader" 15) "java/lang/String" "value" "[B") (.int (Int32.ofNat 142))) (.int (zByt.getD 142 0)) ∈ flatC (Jvm.Cond.and given_1 narrow_1) := List.mem_of_getElem? (i := 155) (by decide +kernel)
theorem zEl_143 : Cond.eq (.elem (.field (.string "CloneVolumes$Reader" 15) "java/lang/String" "value" "[B") (.int (Int32.ofNat 143))) (.int (zByt.getD 143 0)) ∈ flatC (Jvm.Cond.and given_1 narrow_1) := List.mem_of_getElem? (i := 156) (by decide +kernel)
theorem zEl_144 : Cond.eq (.elem (.field (.string "CloneVolumes$Reader" 15) "java/lang/String" "value" "[B") (.int (Int32.ofNat 144))) (.int (zByt.getD 144 0)) ∈ flatC (Jvm.Cond.and given_1 narrow_1) := List.mem_of_getElem? (i := 157) (by decide +kernel)
theorem zEl_145 : Cond.eq (.elem (.field (.string "CloneVolumes$Reader" 15) "java/lang/String" "value" "[B") (.int (Int32.ofNat 145))) (.int (zByt.getD 145 0)) ∈ flatC (Jvm.Cond.and given_1 narrow_1) := List.mem_of_getElem? (i := 158) (by decide +kernel)
theorem zEl_146 : Cond.eq (.elem (.field (.string "CloneVolumes$Reader" 15) "java/lang/String" "value" "[B") (.int (Int32.ofNat 146))) (.int (zByt.getD 146 0)) ∈ flatC (Jvm.Cond.and given_1 narrow_1) := List.mem_of_getElem? (i := 159) (by decide +kernel)
theorem zEl_147 : Cond.eq (.elem (.field (.string "CloneVolumes$Reader" 15) "java/lang/String" "value" "[B") (.int (Int32.ofNat 147))) (.int (zByt.getD 147 0)) ∈ flatC (Jvm.Cond.and given_1 narrow_1) := List.mem_of_getElem? (i := 160) (by decide +kernel)
theorem zEl_148 : Cond.eq (.elem (.field (.string "CloneVolumes$Reader" 15) "java/lang/String" "value" "[B") (.int (Int32.ofNat 148))) (.int (zByt.getD 148 0)) ∈ flatC (Jvm.Cond.and given_1 narrow_1) := List.mem_of_getElem? (i := 161) (by decide +kernel)
theorem zEl_149 : Cond.eq (.elem (.field (.string "CloneVolumes$Reader" 15) "java/lang/String" "value" "[B") (.int (Int32.ofNat 149))) (.int (zByt.getD 149 0)) ∈ flatC (Jvm.Cond.and given_1 narrow_1) := List.mem_of_getElem? (i := 162) (by decide +kernel)
theorem zEl_150 : Cond.eq (.elem (.field (.string "CloneVolumes$Reader" 15) "java/lang/String" "value" "[B") (.int (Int32.ofNat 150))) (.int (zByt.getD 150 0)) ∈ flatC (Jvm.Cond.and given_1 narrow_1) := List.mem_of_getElem? (i := 163) (by decide +kernel)
theorem zEl_151 : Cond.eq (.elem (.field (.string "CloneVolumes$Reader" 15) "java/lang/String" "value" "[B") (.int (Int32.ofNat 151))) (.int (zByt.getD 151 0)) ∈ flatC (Jvm.Cond.and given_1 narrow_1) := List.mem_of_getElem? (i := 164) (by decide +kernel)
theorem zEl_152 : Cond.eq (.elem (.field (.string "CloneVolumes$Reader" 15) "java/lang/String" "value" "[B") (.int (Int32.ofNat 152))) (.int (zByt.getD 152 0)) ∈ flatC (Jvm.Cond.and given_1 narrow_1) := List.mem_of_getElem? (i := 165) (by decide +kernel)
theorem zEl_153 : Cond.eq (.elem (.field (.string "CloneVolumes$Reader" 15) "java/lang/String" "value" "[B") (.int (Int32.ofNat 153))) (.int (zByt.getD 153 0)) ∈ flatC (Jvm.Cond.and given_1 narrow_1) := List.mem_of_getElem? (i := 166) (by decide +kernel)
theorem zEl_154 : Cond.eq (.elem (.field (.string "CloneVolumes$Reader" 15) "java/lang/String" "value" "[B") (.int (Int32.ofNat 154))) (.int (zByt.getD 154 0)) ∈ flatC (Jvm.Cond.and given_1 narrow_1) := List.mem_of_getElem? (i := 167) (by decide +kernel)
theorem zEl_155 : Cond.eq (.elem (.field (.string "CloneVolumes$Reader" 15) "java/lang/String" "value" "[B") (.int (Int32.ofNat 155))) (.int (zByt.getD 155 0)) ∈ flatC (Jvm.Cond.and given_1 narrow_1) := List.mem_of_getElem? (i := 168) (by decide +kernel)
theorem zEl_156 : Cond.eq (.elem (.field (.string "CloneVolumes$Reader" 15) "java/lang/String" "value" "[B") (.int (Int32.ofNat 156))) (.int (zByt.getD 156 0)) ∈ flatC (Jvm.Cond.and given_1 narrow_1) := List.mem_of_getElem? (i := 169) (by decide +kernel)
theorem zEl_157 : Cond.eq (.elem (.field (.string "CloneVolumes$Reader" 15) "java/lang/String" "value" "[B") (.int (Int32.ofNat 157))) (.int (zByt.getD 157 0)) ∈ flatC (Jvm.Cond.and given_1 narrow_1) := List.mem_of_getElem? (i := 170) (by decide +kernel)
theorem zEl_158 : Cond.eq (.elem (.field (.string "CloneVolumes$Reader" 15) "java/lang/String" "value" "[B") (.int (Int32.ofNat 158))) (.int (zByt.getD 158 0)) ∈ flatC (Jvm.Cond.and given_1 narrow_1) := List.mem_of_getElem? (i := 171) (by decide +kernel)
theorem zEl_159 : Cond.eq (.elem (.field (.string "CloneVolumes$Reader" 15) "java/lang/String" "value" "[B") (.int (Int32.ofNat 159))) (.int (zByt.getD 159 0)) ∈ flatC (Jvm.Cond.and given_1 narrow_1) := List.mem_of_getElem? (i := 172) (by decide +kernel)
theorem zEl_160 : Cond.eq (.elem (.field (.string "CloneVolumes$Reader" 15) "java/lang/String" "value" "[B") (.int (Int32.ofNat 160))) (.int (zByt.getD 160 0)) ∈ flatC (Jvm.Cond.and given_1 narrow_1) := List.mem_of_getElem? (i := 173) (by decide +kernel)
theorem zEl_161 : Cond.eq (.elem (.field (.string "CloneVolumes$Reader" 15) "java/lang/String" "value" "[B") (.int (Int32.ofNat 161))) (.int (zByt.getD 161 0)) ∈ flatC (Jvm.Cond.and given_1 narrow_1) := List.mem_of_getElem? (i := 174) (by decide +kernel)
theorem zEl_162 : Cond.eq (.elem (.field (.string "CloneVolumes$Reader" 15) "java/lang/String" "value" "[B") (.int (Int32.ofNat 162))) (.int (zByt.getD 162 0)) ∈ flatC (Jvm.Cond.and given_1 narrow_1) := List.mem_of_getElem? (i := 175) (by decide +kernel)
theorem zEl_163 : Cond.eq (.elem (.field (.string "CloneVolumes$Reader" 15) "java/lang/String" "value" "[B") (.int (Int32.ofNat 163))) (.int (zByt.getD 163 0)) ∈ flatC (Jvm.Cond.and given_1 narrow_1) := List.mem_of_getElem? (i := 176) (by decide +kernel)
theorem zEl_164 : Cond.eq (.elem (.field (.string "CloneVolumes$Reader" 15) "java/lang/String" "value" "[B") (.int (Int32.ofNat 164))) (.int (zByt.getD 164 0)) ∈ flatC (Jvm.Cond.and given_1 narrow_1) := List.mem_of_getElem? (i := 177) (by decide +kernel)
theorem zEl_165 : Cond.eq (.elem (.field (.string "CloneVolumes$Reader" 15) "java/lang/String" "value" "[B") (.int (Int32.ofNat 165))) (.int (zByt.getD 165 0)) ∈ flatC (Jvm.Cond.and given_1 narrow_1) := List.mem_of_getElem? (i := 178) (by decide +kernel)
theorem zEl_166 : Cond.eq (.elem (.field (.string "CloneVolumes$Reader" 15) "java/lang/String" "value" "[B") (.int (Int32.ofNat 166))) (.int (zByt.getD 166 0)) ∈ flatC (Jvm.Cond.and given_1 narrow_1) := List.mem_of_getElem? (i := 179) (by decide +kernel)
theorem zEl_167 : Cond.eq (.elem (.field (.string "CloneVolumes$Reader" 15) "java/lang/String" "value" "[B") (.int (Int32.ofNat 167))) (.int (zByt.getD 167 0)) ∈ flatC (Jvm.Cond.and given_1 narrow_1) := List.mem_of_getElem? (i := 180) (by decide +kernel)
theorem zEl_168 : Cond.eq (.elem (.field (.string "CloneVolumes$Reader" 15) "java/lang/String" "value" "[B") (.int (Int32.ofNat 168))) (.int (zByt.getD 168 0)) ∈ flatC (Jvm.Cond.and given_1 narrow_1) := List.mem_of_getElem? (i := 181) (by decide +kernel)
theorem zEl_169 : Cond.eq (.elem (.field (.string "CloneVolumes$Reader" 15) "java/lang/String" "value" "[B") (.int (Int32.ofNat 169))) (.int (zByt.getD 169 0)) ∈ flatC (Jvm.Cond.and given_1 narrow_1) := List.mem_of_getElem? (i := 182) (by decide +kernel)
theorem zEl_170 : Cond.eq (.elem (.field (.string "CloneVolumes$Reader" 15) "java/lang/String" "value" "[B") (.int (Int32.ofNat 170))) (.int (zByt.getD 170 0)) ∈ flatC (Jvm.Cond.and given_1 narrow_1) := List.mem_of_getElem? (i := 183) (by decide +kernel)
theorem zEl_171 : Cond.eq (.elem (.field (.string "CloneVolumes$Reader" 15) "java/lang/String" "value" "[B") (.int (Int32.ofNat 171))) (.int (zByt.getD 171 0)) ∈ flatC (Jvm.Cond.and given_1 narrow_1) := List.mem_of_getElem? (i := 184) (by decide +kernel)
theorem zEl_172 : Cond.eq (.elem (.field (.string "CloneVolumes$Reader" 15) "java/lang/String" "value" "[B") (.int (Int32.ofNat 172))) (.int (zByt.getD 172 0)) ∈ flatC (Jvm.Cond.and given_1 narrow_1) := List.mem_of_getElem? (i := 185) (by decide +kernel)
theorem zEl_173 : Cond.eq (.elem (.field (.string "CloneVolumes$Reader" 15) "java/lang/String" "value" "[B") (.int (Int32.ofNat 173))) (.int (zByt.getD 173 0)) ∈ flatC (Jvm.Cond.and given_1 narrow_1) := List.mem_of_getElem? (i := 186) (by decide +kernel)
theorem zEl_174 : Cond.eq (.elem (.field (.string "CloneVolumes$Reader" 15) "java/lang/String" "value" "[B") (.int (Int32.ofNat 174))) (.int (zByt.getD 174 0)) ∈ flatC (Jvm.Cond.and given_1 narrow_1) := List.mem_of_getElem? (i := 187) (by decide +kernel)
theorem zEl_175 : Cond.eq (.elem (.field (.string "CloneVolumes$Reader" 15) "java/lang/String" "value" "[B") (.int (Int32.ofNat 175))) (.int (zByt.getD 175 0)) ∈ flatC (Jvm.Cond.and given_1 narrow_1) := List.mem_of_getElem? (i := 188) (by decide +kernel)
theorem zEl_176 : Cond.eq (.elem (.field (.string "CloneVolumes$Reader" 15) "java/lang/String" "value" "[B") (.int (Int32.ofNat 176))) (.int (zByt.getD 176 0)) ∈ flatC (Jvm.Cond.and given_1 narrow_1) := List.mem_of_getElem? (i := 189) (by decide +kernel)
theorem zEl_177 : Cond.eq (.elem (.field (.string "CloneVolumes$Reader" 15) "java/lang/String" "value" "[B") (.int (Int32.ofNat 177))) (.int (zByt.getD 177 0)) ∈ flatC (Jvm.Cond.and given_1 narrow_1) := List.mem_of_getElem? (i := 190) (by decide +kernel)
theorem zEl_178 : Cond.eq (.elem (.field (.string "CloneVolumes$Reader" 15) "java/lang/String" "value" "[B") (.int (Int32.ofNat 178))) (.int (zByt.getD 178 0)) ∈ flatC (Jvm.Cond.and given_1 narrow_1) := List.mem_of_getElem? (i := 191) (by decide +kernel)
theorem zEl : ∀ j, j < 179 → Cond.eq (.elem (.field (.string "CloneVolumes$Reader" 15) "java/lang/String" "value" "[B") (.int (Int32.ofNat j))) (.int (zByt.getD j 0)) ∈ flatC (Jvm.Cond.and given_1 narrow_1) := by
  intro j hj
  match j, hj with
  | 0, _ => exact zEl_0
  | 1, _ => exact zEl_1
  | 2, _ => exact zEl_2
  | 3, _ => exact zEl_3
  | 4, _ => exact zEl_4
  | 5, _ => exact zEl_5
  | 6, _ => exact zEl_6
  | 7, _ => exact zEl_7
  | 8, _ => exact zEl_8
  | 9, _ => exact zEl_9
  | 10, _ => exact zEl_10
  | 11, _ => exact zEl_11
  | 12, _ => exact zEl_12
  | 13, _ => exact zEl_13
  | 14, _ => exact zEl_14
  | 15, _ => exact zEl_15
  | 16, _ => exact zEl_16
  | 17, _ => exact zEl_17
  | 18, _ => exact zEl_18
  | 19, _ => exact zEl_19
  | 20, _ => exact zEl_20
  | 21, _ => exact zEl_21
  | 22, _ => exact zEl_22
  | 23, _ => exact zEl_23
  | 24, _ => exact zEl_24
  | 25, _ => exact zEl_25
  | 26, _ => exact zEl_26
  | 27, _ => exact zEl_27
  | 28, _ => exact zEl_28
  | 29, _ => exact zEl_29
  | 30, _ => exact zEl_30
  | 31, _ => exact zEl_31
  | 32, _ => exact zEl_32
  | 33, _ => exact zEl_33
  | 34, _ => exact zEl_34
  | 35, _ => exact zEl_35
  | 36, _ => exact zEl_36
  | 37, _ => exact zEl_37
  | 38, _ => exact zEl_38
  | 39, _ => exact zEl_39
  | 40, _ => exact zEl_40
  | 41, _ => exact zEl_41
  | 42, _ => exact zEl_42
  | 43, _ => exact zEl_43
  | 44, _ => exact zEl_44
  | 45, _ => exact zEl_45
  | 46, _ => exact zEl_46
  | 47, _ => exact zEl_47
  | 48, _ => exact zEl_48
  | 49, _ => exact zEl_49
  | 50, _ => exact zEl_50
  | 51, _ => exact zEl_51
  | 52, _ => exact zEl_52
  | 53, _ => exact zEl_53
  | 54, _ => exact zEl_54
  | 55, _ => exact zEl_55
  | 56, _ => exact zEl_56
  | 57, _ => exact zEl_57
  | 58, _ => exact zEl_58
  | 59, _ => exact zEl_59
  | 60, _ => exact zEl_60
  | 61, _ => exact zEl_61
  | 62, _ => exact zEl_62
  | 63, _ => exact zEl_63
  | 64, _ => exact zEl_64
  | 65, _ => exact zEl_65
  | 66, _ => exact zEl_66
  | 67, _ => exact zEl_67
  | 68, _ => exact zEl_68
  | 69, _ => exact zEl_69
  | 70, _ => exact zEl_70
  | 71, _ => exact zEl_71
  | 72, _ => exact zEl_72
  | 73, _ => exact zEl_73
  | 74, _ => exact zEl_74
  | 75, _ => exact zEl_75
  | 76, _ => exact zEl_76
  | 77, _ => exact zEl_77
  | 78, _ => exact zEl_78
  | 79, _ => exact zEl_79
  | 80, _ => exact zEl_80
  | 81, _ => exact zEl_81
  | 82, _ => exact zEl_82
  | 83, _ => exact zEl_83
  | 84, _ => exact zEl_84
  | 85, _ => exact zEl_85
  | 86, _ => exact zEl_86
  | 87, _ => exact zEl_87
  | 88, _ => exact zEl_88
  | 89, _ => exact zEl_89
  | 90, _ => exact zEl_90
  | 91, _ => exact zEl_91
  | 92, _ => exact zEl_92
  | 93, _ => exact zEl_93
  | 94, _ => exact zEl_94
  | 95, _ => exact zEl_95
  | 96, _ => exact zEl_96
  | 97, _ => exact zEl_97
  | 98, _ => exact zEl_98
  | 99, _ => exact zEl_99
  | 100, _ => exact zEl_100
  | 101, _ => exact zEl_101
  | 102, _ => exact zEl_102
  | 103, _ => exact zEl_103
  | 104, _ => exact zEl_104
  | 105, _ => exact zEl_105
  | 106, _ => exact zEl_106
  | 107, _ => exact zEl_107
  | 108, _ => exact zEl_108
  | 109, _ => exact zEl_109
  | 110, _ => exact zEl_110
  | 111, _ => exact zEl_111
  | 112, _ => exact zEl_112
  | 113, _ => exact zEl_113
  | 114, _ => exact zEl_114
  | 115, _ => exact zEl_115
  | 116, _ => exact zEl_116
  | 117, _ => exact zEl_117
  | 118, _ => exact zEl_118
  | 119, _ => exact zEl_119
  | 120, _ => exact zEl_120
  | 121, _ => exact zEl_121
  | 122, _ => exact zEl_122
  | 123, _ => exact zEl_123
  | 124, _ => exact zEl_124
  | 125, _ => exact zEl_125
  | 126, _ => exact zEl_126
  | 127, _ => exact zEl_127
  | 128, _ => exact zEl_128
  | 129, _ => exact zEl_129
  | 130, _ => exact zEl_130
  | 131, _ => exact zEl_131
  | 132, _ => exact zEl_132
  | 133, _ => exact zEl_133
  | 134, _ => exact zEl_134
  | 135, _ => exact zEl_135
  | 136, _ => exact zEl_136
  | 137, _ => exact zEl_137
  | 138, _ => exact zEl_138
  | 139, _ => exact zEl_139
  | 140, _ => exact zEl_140
  | 141, _ => exact zEl_141
  | 142, _ => exact zEl_142
  | 143, _ => exact zEl_143
  | 144, _ => exact zEl_144
  | 145, _ => exact zEl_145
  | 146, _ => exact zEl_146
  | 147, _ => exact zEl_147
  | 148, _ => exact zEl_148
  | 149, _ => exact zEl_149
  | 150, _ => exact zEl_150
  | 151, _ => exact zEl_151
  | 152, _ => exact zEl_152
  | 153, _ => exact zEl_153
  | 154, _ => exact zEl_154
  | 155, _ => exact zEl_155
  | 156, _ => exact zEl_156
  | 157, _ => exact zEl_157
  | 158, _ => exact zEl_158
  | 159, _ => exact zEl_159
  | 160, _ => exact zEl_160
  | 161, _ => exact zEl_161
  | 162, _ => exact zEl_162
  | 163, _ => exact zEl_163
  | 164, _ => exact zEl_164
  | 165, _ => exact zEl_165
  | 166, _ => exact zEl_166
  | 167, _ => exact zEl_167
  | 168, _ => exact zEl_168
  | 169, _ => exact zEl_169
  | 170, _ => exact zEl_170
  | 171, _ => exact zEl_171
  | 172, _ => exact zEl_172
  | 173, _ => exact zEl_173
  | 174, _ => exact zEl_174
  | 175, _ => exact zEl_175
  | 176, _ => exact zEl_176
  | 177, _ => exact zEl_177
  | 178, _ => exact zEl_178
  | j + 179, hj => exact absurd hj (by omega)
theorem z_arr {s : State} {args : Array Value} {ty : FieldType} (h : (Cond.arrayClass ty).before args s = true) : ∃ cA : ClassId, ArrOfT s cA ty ∧ s.vm.findClass ("[" ++ ty.toString) = some cA := by
  obtain ⟨cA, kA, comp, h1, h2, h3⟩ := Cond.arrayClass_spec h
  exact ⟨cA, fun n z => ⟨fun k h => (by cases h), kA, h2, comp, h3⟩, h1⟩
/-- what the start gives -/
theorem z_start {s : State} {b : Nat} (hts : ∀ w ∈ lw_tbl, w.before #[Value.ref b] s = true) (hgv : (Jvm.Cond.and given_1 narrow_1).before #[Value.ref b] s = true) : ∃ qS vS : Nat, EE s.heap.size qS vS (fun j => zByt.getD j 0) s := by
  have hs := flat_of_before _ hgv
  have hA : ∀ a : Nat, a < s.heap.size → ¬ (fun q : Nat => s.heap.size ≤ q) a := fun a h => Nat.not_le.mpr h
  obtain ⟨adK, adV, hV, hq⟩ := vk_Sof (N := 1) (tm := fun _ => .string "CloneVolumes$Reader" 15) (len := [179]) (byt := [zByt]) (A := fun q : Nat => s.heap.size ≤ q)
    (fun i hi => by rcases (show i = 0 by omega) with rfl; decide)
    (fun i _ => hs _ (by decide +kernel))
    (fun i _ => hs _ (by decide +kernel))
    (fun i _ => hs _ (by decide +kernel))
    (fun i hi => by rcases (show i = 0 by omega) with rfl; exact hs _ (by decide +kernel))
    (fun i hi j hj => by rcases (show i = 0 by omega) with rfl; exact hs _ (zEl j hj))
    (fun i j hi hj hne => absurd (show i = j by omega) hne) hA
  obtain ⟨h1, h2, h3, h4⟩ := hV.1 0 (by decide)
  refine ⟨adK 0, adV 0, ⟨va_Nw.of rfl (hts (.methodLinkNest RX11 11 yX9_init "CloneVolumes") (List.mem_of_getElem? (i := 228) (by decide +kernel))), va_Nw.of rfl (hts (.methodLinkNest RX11 27 yX2_init "CloneVolumes") (List.mem_of_getElem? (i := 341) (by decide +kernel))), va_Nw.of rfl (hts (.methodLinkNest RX11 34 yX7_init "CloneVolumes") (List.mem_of_getElem? (i := 369) (by decide +kernel))), va_Nw.of rfl (hts (.methodLinkNest RX11 41 yX4_init "CloneVolumes") (List.mem_of_getElem? (i := 396) (by decide +kernel))), va_Nw.of rfl (hts (.methodLinkNest RX11 48 yX10_init "CloneVolumes") (List.mem_of_getElem? (i := 423) (by decide +kernel))), va_Nw.of rfl (hts (.methodLinkNest RX5 29 yX0_init "CloneVolumes") (List.mem_of_getElem? (i := 450) (by decide +kernel))), va_AO.of (hts _ (List.mem_of_getElem? (i := 346) (by decide +kernel))), vk_R.of (hts (.stringRef RX6 15 zText) (List.mem_of_getElem? (i := 252) (by decide +kernel))) (hq 0 (by decide))⟩, h1, h2, h3, h4, ?_⟩
  exact va_Zof (hts _ (List.mem_of_getElem? (i := 262) (by decide +kernel))) (hts _ (List.mem_of_getElem? (i := 201) (by decide +kernel))) (va_eqi (hs _ (by decide +kernel))) hA
/-! THE CLAIM OUT OF ONE WALK OF THE LAW'S BODY. Your part is whole_start (and what it stands on); all else here is the same for every law, but numbers. -/
def R_law : String := "CloneVolumesLaw"
def lw_P (b : Addr) (xs : List Int32) (args : Array Value) (s : State) : Prop := args = #[.ref b] ∧ s.IntsAt b xs ∧ xs.length ≤ 3072 ∧ (Jvm.Cond.and given_1 narrow_1).before args s = true
def lw_Q (_ : Array Value) (s : State) (o : Outcome) (t : State) : Prop := o = .returned (some (.int 1)) ∧ Framed s o t [] 600000 7302249
def lw_Z (below : List Frame) (a : Array Value) (s : State) : State → Prop := fun t => ∃ o, t.status = .running ∧ Ended t below o ∧ lw_Q a s o t
/-- the law's own end, with 1 on the stack, nothing written that was there before, its room as the claim has it -/
theorem lw_ret {p : Program} {l : Launch} {e : Env} {s : State} {m : MethodId} {below : List Frame} {meth : Method} {c : Code} {b : Nat} (hx : p.tables.exec = Jvm.exec) (hb : c.code = code) (hr : meth.sig.returnType = ret) (hlocks : meth.locks = false) {pc : Nat} {H : Heap} {ls : Array Slot} (hdg : decode code pc = .ok (.ireturn, 1)) : W p l e room_1 s m #[Value.ref b] below meth c H [] 600000 7302249 (lw_Z below #[Value.ref b] s) (F0 m pc ls [.int 1]) := by
  intro T hT X
  obtain ⟨fs, hret, hrun, hended, hW, hframe⟩ := X.leave (v := some (.int 1)) (hlocks := hlocks) (fun h => by rw [hr] at h; cases h)
  have hmeth' : T.vm.method? m = some meth := X.method'
  refine ⟨T.setFrames fs, ?_, .returned (some (.int 1)), hrun, hended, rfl, ⟨_, rfl⟩, hW, hframe⟩
  jvm_step X.here [X.here.top, hx, hb, hdg, hmeth', hr, ret, narrow_b1]
  (try refine ⟨rfl, ?_⟩); (try refine ⟨rfl, ?_⟩)
  first | (intro acts; rw [hret _ acts rfl rfl rfl]) | rw [hret _ _ rfl rfl rfl]
  exact Steps.refl _
/-- what holds at the law's entry: the machine, the code, the tables' words (any of lw_tbl by 'hts w (by decide +kernel)'), the script of L ints xs at the cell b, what the Statement gives of the start (any of its parts by flat_of_before) -/
def lw_At (p : Program) (s : State) (m : MethodId) (meth : Method) (c : Code) (b L : Nat) (xs : Nat → Int32) : Prop :=
  p.tables.exec = Jvm.exec ∧ c.code = code ∧ meth.sig.returnType = ret ∧ c.maxLocals = 4 ∧ s.vm.findClass R_law = some m.cls ∧ (∀ w ∈ lw_tbl, w.before #[Value.ref b] s = true) ∧ va_X b L xs s s.heap ∧ b < s.heap.size ∧ meth.locks = false ∧ (Jvm.Cond.and given_1 narrow_1).before #[Value.ref b] s = true
