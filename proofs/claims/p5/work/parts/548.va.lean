theorem co_X1_build : Cond.code yX1_build cX1_build 4 none ∈ lw_gd := zm (List.mem_of_getElem? (i := 914) (by decide +kernel)) rfl
theorem co_X6_readStore : Cond.code yX6_readStore cX6_readStore 3 (some .boolean) ∈ lw_gd := zm (List.mem_of_getElem? (i := 767) (by decide +kernel)) rfl
theorem fl_X11_116 : Cond.fieldLink RX11 116 "CloneVolumes$Plan" "statements" "I" ∈ lw_gd := zm (List.mem_of_getElem? (i := 482) (by decide +kernel)) rfl
theorem fl_X1_51 : Cond.fieldLink RX1 51 "CloneVolumes$Plan" "blocks" "I" ∈ lw_gd := zm (List.mem_of_getElem? (i := 471) (by decide +kernel)) rfl
theorem fl_X1_60 : Cond.fieldLink RX1 60 "CloneVolumes$Plan" "changes" "I" ∈ lw_gd := zm (List.mem_of_getElem? (i := 487) (by decide +kernel)) rfl
theorem fl_X1_63 : Cond.fieldLink RX1 63 "CloneVolumes$Plan" "who" "[I" ∈ lw_gd := zm (List.mem_of_getElem? (i := 493) (by decide +kernel)) rfl
theorem fl_X1_66 : Cond.fieldLink RX1 66 "CloneVolumes$Plan" "kinds" "[I" ∈ lw_gd := zm (List.mem_of_getElem? (i := 491) (by decide +kernel)) rfl
theorem fl_X1_72 : Cond.fieldLink RX1 72 "CloneVolumes$Plan" "first" "[I" ∈ lw_gd := zm (List.mem_of_getElem? (i := 495) (by decide +kernel)) rfl
theorem fl_X1_79 : Cond.fieldLink RX1 79 "CloneVolumes$Plan" "second" "[I" ∈ lw_gd := zm (List.mem_of_getElem? (i := 497) (by decide +kernel)) rfl
theorem im_X1_build : Cond.instanceMethod yX1_build ∈ lw_gd := zm (List.mem_of_getElem? (i := 912) (by decide +kernel)) rfl
theorem im_X6_readStore : Cond.instanceMethod yX6_readStore ∈ lw_gd := zm (List.mem_of_getElem? (i := 765) (by decide +kernel)) rfl
theorem ml_X11_103 : Cond.methodLink RX11 103 yX1_build ∈ lw_gd := zm (List.mem_of_getElem? (i := 911) (by decide +kernel)) rfl
theorem ml_X11_99 : Cond.methodLink RX11 99 yX6_readStore ∈ lw_gd := zm (List.mem_of_getElem? (i := 764) (by decide +kernel)) rfl
theorem ml_X1_56 : Cond.methodLink RX1 56 yX8_clear ∈ lw_gd := zm (List.mem_of_getElem? (i := 915) (by decide +kernel)) rfl
theorem ml_X1_75 : Cond.methodLink RX1 75 yX1_share ∈ lw_gd := zm (List.mem_of_getElem? (i := 916) (by decide +kernel)) rfl
theorem se_X1_build : Cond.selects RX1 yX1_build yX1_build ∈ lw_gd := zm (List.mem_of_getElem? (i := 913) (by decide +kernel)) rfl
theorem se_X6_readStore : Cond.selects RX6 yX6_readStore yX6_readStore ∈ lw_gd := zm (List.mem_of_getElem? (i := 766) (by decide +kernel)) rfl
theorem dX11_store_0 : decode cX11_store 0 = .ok (.aload_n 0, 1) := by decide +kernel
theorem dX11_store_1 : decode cX11_store 1 = .ok (.getfield 21, 3) := by decide +kernel
theorem dX11_store_4 : decode cX11_store 4 = .ok (.aload_n 0, 1) := by decide +kernel
theorem dX11_store_5 : decode cX11_store 5 = .ok (.getfield 71, 3) := by decide +kernel
theorem dX11_store_8 : decode cX11_store 8 = .ok (.invokevirtual 99, 3) := by decide +kernel
theorem dX11_store_11 : decode cX11_store 11 = .ok (.istore_n 1, 1) := by decide +kernel
theorem dX11_store_12 : decode cX11_store 12 = .ok (.aload_n 0, 1) := by decide +kernel
theorem dX11_store_13 : decode cX11_store 13 = .ok (.getfield 12, 3) := by decide +kernel
theorem dX11_store_16 : decode cX11_store 16 = .ok (.iconst 0, 1) := by decide +kernel
theorem dX11_store_17 : decode cX11_store 17 = .ok (.putfield 95, 3) := by decide +kernel
theorem dX11_store_20 : decode cX11_store 20 = .ok (.iload_n 1, 1) := by decide +kernel
theorem dX11_store_21 : decode cX11_store 21 = .ok (.ifCond .ne 9, 3) := by decide +kernel
theorem dX11_store_24 : decode cX11_store 24 = .ok (.aload_n 0, 1) := by decide +kernel
theorem dX11_store_25 : decode cX11_store 25 = .ok (.iconst 1, 1) := by decide +kernel
theorem dX11_store_26 : decode cX11_store 26 = .ok (.invokevirtual 87, 3) := by decide +kernel
theorem dX11_store_29 : decode cX11_store 29 = .ok (.ireturn, 1) := by decide +kernel
theorem dX11_store_30 : decode cX11_store 30 = .ok (.aload_n 0, 1) := by decide +kernel
theorem dX11_store_31 : decode cX11_store 31 = .ok (.getfield 67, 3) := by decide +kernel
theorem dX11_store_34 : decode cX11_store 34 = .ok (.astore_n 2, 1) := by decide +kernel
theorem dX11_store_35 : decode cX11_store 35 = .ok (.aload_n 0, 1) := by decide +kernel
theorem dX11_store_36 : decode cX11_store 36 = .ok (.aload_n 0, 1) := by decide +kernel
theorem dX11_store_37 : decode cX11_store 37 = .ok (.getfield 71, 3) := by decide +kernel
theorem dX11_store_40 : decode cX11_store 40 = .ok (.putfield 67, 3) := by decide +kernel
theorem dX11_store_43 : decode cX11_store 43 = .ok (.aload_n 0, 1) := by decide +kernel
theorem dX11_store_44 : decode cX11_store 44 = .ok (.aload_n 2, 1) := by decide +kernel
theorem dX11_store_45 : decode cX11_store 45 = .ok (.putfield 71, 3) := by decide +kernel
theorem dX11_store_48 : decode cX11_store 48 = .ok (.aload_n 0, 1) := by decide +kernel
theorem dX11_store_49 : decode cX11_store 49 = .ok (.getfield 79, 3) := by decide +kernel
theorem dX11_store_52 : decode cX11_store 52 = .ok (.aload_n 0, 1) := by decide +kernel
theorem dX11_store_53 : decode cX11_store 53 = .ok (.getfield 67, 3) := by decide +kernel
theorem dX11_store_56 : decode cX11_store 56 = .ok (.invokevirtual 103, 3) := by decide +kernel
theorem dX11_store_59 : decode cX11_store 59 = .ok (.aload_n 0, 1) := by decide +kernel
theorem dX11_store_60 : decode cX11_store 60 = .ok (.getfield 28, 3) := by decide +kernel
theorem dX11_store_63 : decode cX11_store 63 = .ok (.invokevirtual 106, 3) := by decide +kernel
theorem dX11_store_66 : decode cX11_store 66 = .ok (.aload_n 0, 1) := by decide +kernel
theorem dX11_store_67 : decode cX11_store 67 = .ok (.getfield 35, 3) := by decide +kernel
theorem dX11_store_70 : decode cX11_store 70 = .ok (.iconst 0, 1) := by decide +kernel
theorem dX11_store_71 : decode cX11_store 71 = .ok (.putfield 109, 3) := by decide +kernel
theorem dX11_store_74 : decode cX11_store 74 = .ok (.aload_n 0, 1) := by decide +kernel
theorem dX11_store_75 : decode cX11_store 75 = .ok (.iconst 1, 1) := by decide +kernel
theorem dX11_store_76 : decode cX11_store 76 = .ok (.putfield 112, 3) := by decide +kernel
theorem dX11_store_79 : decode cX11_store 79 = .ok (.aload_n 0, 1) := by decide +kernel
theorem dX11_store_80 : decode cX11_store 80 = .ok (.getfield 67, 3) := by decide +kernel
theorem dX11_store_83 : decode cX11_store 83 = .ok (.getfield 116, 3) := by decide +kernel
theorem dX11_store_86 : decode cX11_store 86 = .ok (.ireturn, 1) := by decide +kernel
theorem dX1_build_0 : decode cX1_build 0 = .ok (.aload_n 0, 1) := by decide +kernel
theorem dX1_build_1 : decode cX1_build 1 = .ok (.aload_n 1, 1) := by decide +kernel
theorem dX1_build_2 : decode cX1_build 2 = .ok (.putfield 47, 3) := by decide +kernel
theorem dX1_build_5 : decode cX1_build 5 = .ok (.aload_n 0, 1) := by decide +kernel
theorem dX1_build_6 : decode cX1_build 6 = .ok (.getfield 12, 3) := by decide +kernel
theorem dX1_build_9 : decode cX1_build 9 = .ok (.aload_n 1, 1) := by decide +kernel
theorem dX1_build_10 : decode cX1_build 10 = .ok (.getfield 51, 3) := by decide +kernel
theorem dX1_build_13 : decode cX1_build 13 = .ok (.invokevirtual 56, 3) := by decide +kernel
theorem dX1_build_16 : decode cX1_build 16 = .ok (.iconst 0, 1) := by decide +kernel
theorem dX1_build_17 : decode cX1_build 17 = .ok (.istore_n 2, 1) := by decide +kernel
theorem dX1_build_18 : decode cX1_build 18 = .ok (.iload_n 2, 1) := by decide +kernel
theorem dX1_build_19 : decode cX1_build 19 = .ok (.aload_n 1, 1) := by decide +kernel
theorem dX1_build_20 : decode cX1_build 20 = .ok (.getfield 60, 3) := by decide +kernel
theorem dX1_build_23 : decode cX1_build 23 = .ok (.if_icmp .ge 118, 3) := by decide +kernel
theorem dX1_build_26 : decode cX1_build 26 = .ok (.aload_n 1, 1) := by decide +kernel
theorem dX1_build_27 : decode cX1_build 27 = .ok (.getfield 63, 3) := by decide +kernel
theorem dX1_build_30 : decode cX1_build 30 = .ok (.iload_n 2, 1) := by decide +kernel
theorem dX1_build_31 : decode cX1_build 31 = .ok (.iaload, 1) := by decide +kernel
theorem dX1_build_32 : decode cX1_build 32 = .ok (.istore_n 3, 1) := by decide +kernel
theorem dX1_build_33 : decode cX1_build 33 = .ok (.aload_n 1, 1) := by decide +kernel
theorem dX1_build_34 : decode cX1_build 34 = .ok (.getfield 66, 3) := by decide +kernel
theorem dX1_build_37 : decode cX1_build 37 = .ok (.iload_n 2, 1) := by decide +kernel
theorem dX1_build_38 : decode cX1_build 38 = .ok (.iaload, 1) := by decide +kernel
theorem dX1_build_39 : decode cX1_build 39 = .ok (.tableswitch 96 2 6 #[33, 46, 96, 60, 81], 33) := by decide +kernel
theorem dX1_build_72 : decode cX1_build 72 = .ok (.aload_n 0, 1) := by decide +kernel
theorem dX1_build_73 : decode cX1_build 73 = .ok (.getfield 12, 3) := by decide +kernel
theorem dX1_build_76 : decode cX1_build 76 = .ok (.getfield 69, 3) := by decide +kernel
theorem dX1_build_79 : decode cX1_build 79 = .ok (.iload_n 3, 1) := by decide +kernel
theorem dX1_build_80 : decode cX1_build 80 = .ok (.iconst (-1), 1) := by decide +kernel
theorem dX1_build_81 : decode cX1_build 81 = .ok (.iastore, 1) := by decide +kernel
theorem dX1_build_82 : decode cX1_build 82 = .ok (.goto 53, 3) := by decide +kernel
theorem dX1_build_85 : decode cX1_build 85 = .ok (.aload_n 0, 1) := by decide +kernel
theorem dX1_build_86 : decode cX1_build 86 = .ok (.aload_n 1, 1) := by decide +kernel
theorem dX1_build_87 : decode cX1_build 87 = .ok (.getfield 72, 3) := by decide +kernel
theorem dX1_build_90 : decode cX1_build 90 = .ok (.iload_n 2, 1) := by decide +kernel
theorem dX1_build_91 : decode cX1_build 91 = .ok (.iaload, 1) := by decide +kernel
theorem dX1_build_92 : decode cX1_build 92 = .ok (.iload_n 3, 1) := by decide +kernel
theorem dX1_build_93 : decode cX1_build 93 = .ok (.invokevirtual 75, 3) := by decide +kernel
theorem dX1_build_96 : decode cX1_build 96 = .ok (.goto 39, 3) := by decide +kernel
theorem dX1_build_99 : decode cX1_build 99 = .ok (.aload_n 0, 1) := by decide +kernel
theorem dX1_build_100 : decode cX1_build 100 = .ok (.iload_n 3, 1) := by decide +kernel
theorem dX1_build_101 : decode cX1_build 101 = .ok (.aload_n 1, 1) := by decide +kernel
theorem dX1_build_102 : decode cX1_build 102 = .ok (.getfield 72, 3) := by decide +kernel
theorem dX1_build_105 : decode cX1_build 105 = .ok (.iload_n 2, 1) := by decide +kernel
theorem dX1_build_106 : decode cX1_build 106 = .ok (.iaload, 1) := by decide +kernel
theorem dX1_build_107 : decode cX1_build 107 = .ok (.aload_n 1, 1) := by decide +kernel
theorem dX1_build_108 : decode cX1_build 108 = .ok (.getfield 79, 3) := by decide +kernel
theorem dX1_build_111 : decode cX1_build 111 = .ok (.iload_n 2, 1) := by decide +kernel
theorem dX1_build_112 : decode cX1_build 112 = .ok (.iaload, 1) := by decide +kernel
theorem dX1_build_113 : decode cX1_build 113 = .ok (.invokevirtual 82, 3) := by decide +kernel
theorem dX1_build_116 : decode cX1_build 116 = .ok (.pop, 1) := by decide +kernel
theorem dX1_build_117 : decode cX1_build 117 = .ok (.goto 18, 3) := by decide +kernel
theorem dX1_build_120 : decode cX1_build 120 = .ok (.aload_n 0, 1) := by decide +kernel
theorem dX1_build_121 : decode cX1_build 121 = .ok (.iload_n 3, 1) := by decide +kernel
theorem dX1_build_122 : decode cX1_build 122 = .ok (.aload_n 1, 1) := by decide +kernel
theorem dX1_build_123 : decode cX1_build 123 = .ok (.getfield 72, 3) := by decide +kernel
theorem dX1_build_126 : decode cX1_build 126 = .ok (.iload_n 2, 1) := by decide +kernel
theorem dX1_build_127 : decode cX1_build 127 = .ok (.iaload, 1) := by decide +kernel
theorem dX1_build_128 : decode cX1_build 128 = .ok (.invokevirtual 86, 3) := by decide +kernel
theorem dX1_build_131 : decode cX1_build 131 = .ok (.pop, 1) := by decide +kernel
theorem dX1_build_132 : decode cX1_build 132 = .ok (.goto 3, 3) := by decide +kernel
theorem dX1_build_135 : decode cX1_build 135 = .ok (.iinc 2 1, 3) := by decide +kernel
theorem dX1_build_138 : decode cX1_build 138 = .ok (.goto (-120), 3) := by decide +kernel
theorem dX1_build_141 : decode cX1_build 141 = .ok (.aload_n 0, 1) := by decide +kernel
theorem dX1_build_142 : decode cX1_build 142 = .ok (.getfield 12, 3) := by decide +kernel
theorem dX1_build_145 : decode cX1_build 145 = .ok (.invokevirtual 90, 3) := by decide +kernel
theorem dX1_build_148 : decode cX1_build 148 = .ok (.aload_n 0, 1) := by decide +kernel
theorem dX1_build_149 : decode cX1_build 149 = .ok (.getfield 12, 3) := by decide +kernel
theorem dX1_build_152 : decode cX1_build 152 = .ok (.iconst 0, 1) := by decide +kernel
theorem dX1_build_153 : decode cX1_build 153 = .ok (.putfield 93, 3) := by decide +kernel
theorem dX1_build_156 : decode cX1_build 156 = .ok (.aload_n 0, 1) := by decide +kernel
theorem dX1_build_157 : decode cX1_build 157 = .ok (.getfield 12, 3) := by decide +kernel
theorem dX1_build_160 : decode cX1_build 160 = .ok (.lconst 0, 1) := by decide +kernel
theorem dX1_build_161 : decode cX1_build 161 = .ok (.putfield 96, 3) := by decide +kernel
theorem dX1_build_164 : decode cX1_build 164 = .ok (.return_, 1) := by decide +kernel
/-! ===== the plan and the spare one change places ===== -/
def swp (a : Nat → Nat) : Nat → Nat := fun k => if 29 ≤ k ∧ k ≤ 38 then a (k + 10) else if 39 ≤ k ∧ k ≤ 48 then a (k - 10) else a k
theorem swp_out {a : Nat → Nat} {k : Nat} (h : k < 29 ∨ 48 < k) : swp a k = a k := by
  unfold swp
  rw [if_neg (by omega), if_neg (by omega)]
theorem sI_self {s : MS} {k : Nat} {v : Int} (h : gI s k = v) : sI s k v = s := by
  obtain ⟨s1, s2⟩ := s
  unfold sI
  congr 1
  funext j
  by_cases e : j = k
  · subst e; rw [if_pos rfl]; exact h.symm
  · rw [if_neg e]
set_option maxRecDepth 100000 in
set_option maxHeartbeats 4000000 in
theorem CW_swp_P {D : va_G} {a : Nat → Nat} {c1 c2 c3 c4 : Value} {s : MS} {H : Heap} (he : gI s 9999 = 2) (h : va_P D vwCl (CW D a c1 c2 c3 c4 s) H) : va_P D vwCl (CW D (swp a) c1 c2 c3 c4 (sI (swS s) 9999 1)) H := by
  rw [← sI_self he] at h
  exact h.sub [0, 1, 2, 3, 4, 5, 6, 7, 8, 9, 10, 11, 12, 13, 14, 15, 16, 17, 18, 19, 20, 21, 22, 23, 24, 25, 26, 27, 28, 39, 40, 41, 42, 43, 44, 45, 46, 47, 48, 29, 30, 31, 32, 33, 34, 35, 36, 37, 38, 49, 50, 51, 52, 53, 54, 55, 56, 57, 58, 59, 60, 61, 62, 63, 64, 65, 66, 67, 68, 69, 70, 71, 72, 73, 74, 75, 76, 77, 78, 79, 80, 81] rfl
set_option maxRecDepth 100000 in
set_option maxHeartbeats 4000000 in
theorem CW_swp_D {D : va_G} {a : Nat → Nat} {c1 c2 c3 c4 d1 d2 d3 d4 : Value} {s t : MS} {A : Nat → Prop} (h : va_D A (CW D a c1 c2 c3 c4 s)) : va_D A (CW D (swp a) d1 d2 d3 d4 t) := by
  have h1 : va_D A (CW D a c1 c2 c3 c4 (sI s 9999 2)) := CW_D _ h
  exact CW_D t (show va_D A (CW D (swp a) c1 c2 c3 c4 (sI (swS s) 9999 1)) from h1.sub [0, 1, 2, 3, 4, 5, 6, 7, 8, 9, 10, 11, 12, 13, 14, 15, 16, 17, 18, 19, 20, 21, 22, 23, 24, 25, 26, 27, 28, 39, 40, 41, 42, 43, 44, 45, 46, 47, 48, 29, 30, 31, 32, 33, 34, 35, 36, 37, 38, 49, 50, 51, 52, 53, 54, 55, 56, 57, 58, 59, 60, 61, 62, 63, 64, 65, 66, 67, 68, 69, 70, 71, 72, 73, 74, 75, 76, 77, 78, 79, 80, 81] (by decide) rfl)
abbrev yS (l : Launch) (y : MethodName) (bytes : ByteArray) (maxL : Nat) (ret : Option FieldType) (rm : Room) (D : va_G) (sz : Nat) (av : List Value) (a : Nat → Nat) (s : MS) (r : Int32) (s' : MS) : Prop := Met l y (wz y bytes maxL ret) rm (va_Pc av (yW D sz (CS D a s))) (va_Qi (fun q (u : Nat → Nat) => q = r ∧ ∀ k, (k < 29 ∨ 48 < k) → u k = a k) (fun u t => zB D (va_A (CS D a s) sz) (CS D u s') t) (va_A (CS D a s) sz)) 0 0 (va_A (CS D a s) sz)
theorem yGi_f {l : Launch} {y : MethodName} {ws : List Cond} {rm : Room} {D : va_G} {sz mc ms : Nat} {av : List Value} {P : va_W} {Sg : Type} {post : Int32 → Sg → Prop} {W' : Sg → va_W} (T : va_W) (h : Met l y ws rm (va_Pc av (yW D sz P)) (va_Qi post (fun u t => zB D (va_A P sz) (W' u) t) (va_A P sz)) mc ms (va_A P sz)) : Met l y ws rm (va_Pc av (yW D sz (P ++ T))) (va_Qi post (fun u t => zB D (va_A (P ++ T) sz) (W' u ++ T) t) (va_A (P ++ T) sz)) mc ms (va_A (P ++ T) sz) := by
  refine Met_imp h (fun a s hp => ⟨hp.1, zW_l hp.2.1, hp.2.2⟩) (fun a st o t hp hq => ?_) (va_A_up (fun x hx => List.mem_append_left _ hx))
  obtain ⟨-, hz, -⟩ := hp
  obtain ⟨⟨q, u, h1, h2, h3⟩, hF⟩ := hq
  obtain rfl := hz.1
  obtain ⟨g1, g2⟩ := y_beside hz h3 hF
  exact ⟨⟨q, u, h1, h2, g1⟩, g2⟩
set_option maxHeartbeats 4000000 in
set_option maxRecDepth 100000 in
theorem k_x8_clear_v2 (l : Launch) (D : va_G) (a : Nat → Nat) (p0 : Int) (sz : Nat) (s : MS) (o : MS) (h : m_x8_clear_v2 p0 s = some o) : yWv l yX8_clear cX8_clear 3 none { frames := 0, cells := 0, slots := 0, locals := 0 } D sz [.ref (a 53), .int (i2 p0)] (CS D a s) (CS D a o) := by
  refine Met.ofW (cc := cX8_clear) (maxL := 3) (ret := none) (by decide) rfl ?_
  intro p e s₀ m args below meth c s₁ B hml hv
  obtain ⟨rfl, ⟨hsz, hP, hK, hD0⟩, hN⟩ := hv
  have hx := B.exec
  have hb := B.bytes
  have hr := B.returns
  have hts := atoms_spec (ws := wz yX8_clear cX8_clear 3 none) B.pre
  have ht : ∀ w ∈ lw_gd, w.before _ s₀ = true := fun w h => hts w (List.mem_cons_of_mem _ h)
  have hown : s₀.vm.findClass RX8 = some m.cls := findClass_of_methodNamed B.named
  have hlocks := B.notSynchronized
  subst hsz
  have hD := hD0.self (sz := s₀.heap.size)
  generalize hAe : va_A (CS D a s) s₀.heap.size = A at hD ⊢
  have hA : ∀ q : Nat, s₀.heap.size ≤ q → A q := fun q h => by rw [← hAe]; exact Or.inr h
  have hS : va_S A s₀.heap s₀.heap [] := va_S.rf
  have hDD : ∀ t : MS, va_D A (CS D a t) := fun t => CW_D t hD
  have hl := lv_entry ([.ref (a 53), .int (i2 p0)]) (n := 3) (Nat.le_of_ble_eq_true rfl)
  rw [lg_entry_eq]
  generalize (lg_sl ([.ref (a 53), .int (i2 p0)]) ++ List.replicate (3 - (lg_sl ([.ref (a 53), .int (i2 p0)])).length) Slot.unset).toArray = ls at hl ⊢
  have hl : lv_has ls 3 [(0, .ref (a 53)), (1, .int (i2 p0))] := hl
  unfold m_x8_clear_v2 at h
  refine y_loop (pcJ := 59) (σ := Int × MS) (fun n u H locs ls => va_P D vwCl (CS D a u.2) H ∧ va_S A s₀.heap H locs ∧ lv_has ls 3 [(0, .ref (a 53)), (2, .int (i2 u.1))] ∧ m_x8_clear_v2_L59 n u.1 u.2 = some o) (fun u => []) (fun u H locs ls hI => by obtain ⟨_, _, _, h⟩ := hI; cases h) (fun n59 ih59 u H locs ls hI => ?_) (fun J59 => ?_)
  · obtain ⟨hP, hS, hl, h⟩ := hI
    obtain ⟨x1, s2⟩ := u
    have hP : va_P D vwCl (CS D a s2) H := hP
    have hl : lv_has ls 3 [(0, .ref (a 53)), (2, .int (i2 x1))] := hl
    have h : m_x8_clear_v2_b59 (m_x8_clear_v2_L59 n59) x1 s2 = some o := h
    unfold m_x8_clear_v2_b59 at h
    refine lv_iload_n hx hb dX8_clear_59 rfl (lv_at hl 1 rfl) ?_
    refine lv_bipush (v := 8) hx hb dX8_clear_60 (by decide) ?_
    obtain ⟨hr3, h⟩ := rg_e h
    refine lv_icmp_ge (tgt := 87) hx hb dX8_clear_62 (by decide) (fun c4 => ?_) (fun c4 => ?_)
    · have h := if_t ((i2_le (x := 8) (y := x1) (by decide) hr3).mp c4) h
      obtain rfl := Option.some.inj h
      exact W.vret hx hb hr (fun t ht hW => ⟨⟨(), rfl, trivial, by rw [ht]; exact hP, va_K.moved hW.alike hK, hDD _⟩, hS.F ht⟩) hS.2.2 dX8_clear_87
    · have h := if_f (mt (i2_le (x := 8) (y := x1) (by decide) hr3).mpr c4) h
      refine lv_aload_n hx hb dX8_clear_65 rfl (lv_at hl 0 rfl) ?_
      refine va_get (D := D) (ci := 8) (v := .ref (a 60)) (C := RX8) (T := TX8) (N := 11) hx hb ht inX8 hown hK hP 53 CW_53 rfl 9 (by decide) (ht (.fieldLink RX8 30 "CloneVolumes$State" "roots" "[I") fl_X8_30) (fun _ h9 => h9) rfl dX8_clear_66 ?_
      refine lv_iload_n hx hb dX8_clear_69 rfl (lv_at hl 1 rfl) ?_
      refine lv_bipush (v := (-2)) hx hb dX8_clear_70 (by decide) ?_
      obtain ⟨hi5, h⟩ := inb_e h
      refine ya_iast (i := x1) (x := (-2)) hx hb hK hP (hDD _) hS 60 0 CW_60 rfl (by decide) hi5 dX8_clear_72 (CW_w60 _) (fun H locs hP hS => ?_)
      obtain ⟨s6, hs6, h⟩ := st_e h
      rw [hs6] at hP
      refine lv_aload_n hx hb dX8_clear_73 rfl (lv_at hl 0 rfl) ?_
      refine va_get (D := D) (ci := 8) (v := .ref (a 61)) (C := RX8) (T := TX8) (N := 11) hx hb ht inX8 hown hK hP 53 CW_53 rfl 10 (by decide) (ht (.fieldLink RX8 33 "CloneVolumes$State" "savedRoots" "[I") fl_X8_33) (fun _ h9 => h9) rfl dX8_clear_74 ?_
      refine lv_iload_n hx hb dX8_clear_77 rfl (lv_at hl 1 rfl) ?_
      refine lv_bipush (v := (-2)) hx hb dX8_clear_78 (by decide) ?_
      obtain ⟨hi7, h⟩ := inb_e h
      refine ya_iast (i := x1) (x := (-2)) hx hb hK hP (hDD _) hS 61 0 CW_61 rfl (by decide) hi7 dX8_clear_80 (CW_w61 _) (fun H locs hP hS => ?_)
      obtain ⟨s8, hs8, h⟩ := st_e h
      rw [hs8] at hP
      refine lv_iinc (v := i2 (x1 + 1)) (lv' := [(2, .int (i2 (x1 + 1))), (0, .ref (a 53))]) hx hb dX8_clear_81 hl (k := 1) rfl (i2_add x1 1) (by decide) rfl (fun ls hl => ?_)
      refine lv_goto (tgt := 59) hx hb dX8_clear_84 (by decide) ?_
      exact ih59 (x1 + 1, s8) _ _ _ ⟨hP, hS, lv_sub hl [1, 0] rfl, h⟩
  refine y_loop (pcJ := 17) (σ := Int × MS) (fun n u H locs ls => va_P D vwCl (CS D a u.2) H ∧ va_S A s₀.heap H locs ∧ lv_has ls 3 [(0, .ref (a 53)), (2, .int (i2 u.1))] ∧ m_x8_clear_v2_L17 n u.1 u.2 = some o) (fun u => []) (fun u H locs ls hI => by obtain ⟨_, _, _, h⟩ := hI; cases h) (fun n17 ih17 u H locs ls hI => ?_) (fun J17 => ?_)
  · obtain ⟨hP, hS, hl, h⟩ := hI
    obtain ⟨x9, s10⟩ := u
    have hP : va_P D vwCl (CS D a s10) H := hP
    have hl : lv_has ls 3 [(0, .ref (a 53)), (2, .int (i2 x9))] := hl
    have h : m_x8_clear_v2_b17 (m_x8_clear_v2_L17 n17) x9 s10 = some o := h
    unfold m_x8_clear_v2_b17 at h
    refine lv_iload_n hx hb dX8_clear_17 rfl (lv_at hl 1 rfl) ?_
    refine lv_bipush (v := 48) hx hb dX8_clear_18 (by decide) ?_
    obtain ⟨hr11, h⟩ := rg_e h
    refine lv_icmp_ge (tgt := 57) hx hb dX8_clear_20 (by decide) (fun c12 => ?_) (fun c12 => ?_)
    · have h := if_t ((i2_le (x := 48) (y := x9) (by decide) hr11).mp c12) h
      refine lv_iconst (v := 0) hx hb dX8_clear_57 (by decide) ?_
      refine lv_istore_n (lv' := [(2, .int 0), (0, .ref (a 53))]) hx hb dX8_clear_58 rfl hl (by decide) rfl (fun ls hl => ?_)
      exact J59 FU (0, s10) _ _ _ ⟨hP, hS, lv_sub hl [1, 0] rfl, h⟩
    · have h := if_f (mt (i2_le (x := 48) (y := x9) (by decide) hr11).mpr c12) h
      refine lv_aload_n hx hb dX8_clear_23 rfl (lv_at hl 0 rfl) ?_
      refine va_get (D := D) (ci := 8) (v := .ref (a 54)) (C := RX8) (T := TX8) (N := 11) hx hb ht inX8 hown hK hP 53 CW_53 rfl 3 (by decide) (ht (.fieldLink RX8 9 "CloneVolumes$State" "count" "[I") fl_X8_9) (fun _ h9 => h9) rfl dX8_clear_24 ?_
      refine lv_iload_n hx hb dX8_clear_27 rfl (lv_at hl 1 rfl) ?_
      refine lv_iconst (v := 0) hx hb dX8_clear_28 (by decide) ?_
      obtain ⟨hi13, h⟩ := inb_e h
      refine ya_iast (i := x9) (x := 0) hx hb hK hP (hDD _) hS 54 0 CW_54 rfl (by decide) hi13 dX8_clear_29 (CW_w54 _) (fun H locs hP hS => ?_)
      obtain ⟨s14, hs14, h⟩ := st_e h
      rw [hs14] at hP
      refine lv_aload_n hx hb dX8_clear_30 rfl (lv_at hl 0 rfl) ?_
      refine va_get (D := D) (ci := 8) (v := .ref (a 55)) (C := RX8) (T := TX8) (N := 11) hx hb ht inX8 hown hK hP 53 CW_53 rfl 4 (by decide) (ht (.fieldLink RX8 15 "CloneVolumes$State" "saved" "[I") fl_X8_15) (fun _ h9 => h9) rfl dX8_clear_31 ?_
      refine lv_iload_n hx hb dX8_clear_34 rfl (lv_at hl 1 rfl) ?_
      refine lv_iconst (v := 0) hx hb dX8_clear_35 (by decide) ?_
      obtain ⟨hi15, h⟩ := inb_e h
      refine ya_iast (i := x9) (x := 0) hx hb hK hP (hDD _) hS 55 0 CW_55 rfl (by decide) hi15 dX8_clear_36 (CW_w55 _) (fun H locs hP hS => ?_)
      obtain ⟨s16, hs16, h⟩ := st_e h
      rw [hs16] at hP
      refine lv_aload_n hx hb dX8_clear_37 rfl (lv_at hl 0 rfl) ?_
      refine va_get (D := D) (ci := 8) (v := .ref (a 56)) (C := RX8) (T := TX8) (N := 11) hx hb ht inX8 hown hK hP 53 CW_53 rfl 5 (by decide) (ht (.fieldLink RX8 18 "CloneVolumes$State" "level" "[I") fl_X8_18) (fun _ h9 => h9) rfl dX8_clear_38 ?_
      refine lv_iload_n hx hb dX8_clear_41 rfl (lv_at hl 1 rfl) ?_
      refine lv_iconst (v := 0) hx hb dX8_clear_42 (by decide) ?_
      obtain ⟨hi17, h⟩ := inb_e h
      refine ya_iast (i := x9) (x := 0) hx hb hK hP (hDD _) hS 56 0 CW_56 rfl (by decide) hi17 dX8_clear_43 (CW_w56 _) (fun H locs hP hS => ?_)
      obtain ⟨s18, hs18, h⟩ := st_e h
      rw [hs18] at hP
      refine lv_aload_n hx hb dX8_clear_44 rfl (lv_at hl 0 rfl) ?_
      refine va_get (D := D) (ci := 8) (v := .ref (a 57)) (C := RX8) (T := TX8) (N := 11) hx hb ht inX8 hown hK hP 53 CW_53 rfl 6 (by decide) (ht (.fieldLink RX8 21 "CloneVolumes$State" "size" "[I") fl_X8_21) (fun _ h9 => h9) rfl dX8_clear_45 ?_
      refine lv_iload_n hx hb dX8_clear_48 rfl (lv_at hl 1 rfl) ?_
      refine lv_iconst (v := 0) hx hb dX8_clear_49 (by decide) ?_
      obtain ⟨hi19, h⟩ := inb_e h
      refine ya_iast (i := x9) (x := 0) hx hb hK hP (hDD _) hS 57 0 CW_57 rfl (by decide) hi19 dX8_clear_50 (CW_w57 _) (fun H locs hP hS => ?_)
      obtain ⟨s20, hs20, h⟩ := st_e h
      rw [hs20] at hP
      refine lv_iinc (v := i2 (x9 + 1)) (lv' := [(2, .int (i2 (x9 + 1))), (0, .ref (a 53))]) hx hb dX8_clear_51 hl (k := 1) rfl (i2_add x9 1) (by decide) rfl (fun ls hl => ?_)
      refine lv_goto (tgt := 17) hx hb dX8_clear_54 (by decide) ?_
      exact ih17 (x9 + 1, s20) _ _ _ ⟨hP, hS, lv_sub hl [1, 0] rfl, h⟩
  refine lv_aload_n hx hb dX8_clear_0 rfl (lv_at hl 0 rfl) ?_
  refine lv_iload_n hx hb dX8_clear_1 rfl (lv_at hl 1 rfl) ?_
  refine ya_put (D := D) (ci := 8) (v := .int (i2 p0)) (ty := .int) (C := RX8) (T := TX8) (N := 11) hx hb ht inX8 tyX8 tyX8_ok nmX8 hown hK hP (hDD _) hS 53 CW_53 rfl 0 (by decide) (ht (.fieldLink RX8 40 "CloneVolumes$State" "blocks" "I") fl_X8_40) (fun _ h9 => h9) rfl (by decide +kernel) rfl rfl (Nat.le_of_ble_eq_true rfl) dX8_clear_2 (CW_w53_0 p0) (fun H locs hP hS => ?_)
  obtain ⟨s21, hs21, h⟩ := st_e h
  rw [hs21] at hP
  refine lv_aload_n hx hb dX8_clear_5 rfl (lv_at hl 0 rfl) ?_
  refine lv_iconst (v := 0) hx hb dX8_clear_6 (by decide) ?_
  refine ya_put (D := D) (ci := 8) (v := .int 0) (ty := .int) (C := RX8) (T := TX8) (N := 11) hx hb ht inX8 tyX8 tyX8_ok nmX8 hown hK hP (hDD _) hS 53 CW_53 rfl 1 (by decide) (ht (.fieldLink RX8 44 "CloneVolumes$State" "spent" "I") fl_X8_44) (fun _ h9 => h9) rfl (by decide +kernel) rfl rfl (Nat.le_of_ble_eq_true rfl) dX8_clear_7 (CW_w53_1 0) (fun H locs hP hS => ?_)
  obtain ⟨s22, hs22, h⟩ := st_e h
  rw [hs22] at hP
  refine lv_aload_n hx hb dX8_clear_10 rfl (lv_at hl 0 rfl) ?_
  refine lv_lconst (v := 0) hx hb dX8_clear_11 (by decide) ?_
  refine ya_put (D := D) (ci := 8) (v := .long 0) (ty := .long) (C := RX8) (T := TX8) (N := 11) hx hb ht inX8 tyX8 tyX8_ok nmX8 hown hK hP (hDD _) hS 53 CW_53 rfl 2 (by decide) (ht (.fieldLink RX8 47 "CloneVolumes$State" "written" "J") fl_X8_47) (fun _ h9 => h9) rfl (by decide +kernel) rfl rfl (Nat.le_of_ble_eq_true rfl) dX8_clear_12 (CW_w53_2 0) (fun H locs hP hS => ?_)
  obtain ⟨s23, hs23, h⟩ := st_e h
  rw [hs23] at hP
  refine lv_iconst (v := 0) hx hb dX8_clear_15 (by decide) ?_
  refine lv_istore_n (lv' := [(2, .int 0), (0, .ref (a 53)), (1, .int (i2 p0))]) hx hb dX8_clear_16 rfl hl (by decide) rfl (fun ls hl => ?_)
  exact J17 FU (0, s23) _ _ _ ⟨hP, hS, lv_sub hl [1, 0] rfl, h⟩
set_option maxHeartbeats 4000000 in
set_option maxRecDepth 100000 in
theorem k_x1_build (l : Launch) (D : va_G) (a : Nat → Nat) (c1 : Value) (sz : Nat) (s : MS) (o : MS) (h : m_x1_build s = some o) : yWv l yX1_build cX1_build 4 none { frames := 6, cells := 0, slots := 0, locals := 360 } D sz [.ref (a 49), .ref (a 29)] (CW D a c1 (.ref (a 29)) (.ref (a 39)) (.ref (a 62)) s) (CS D a o) := by
  refine Met.ofW (cc := cX1_build) (maxL := 4) (ret := none) (by decide) rfl ?_
  intro p e s₀ m args below meth c s₁ B hml hv
  obtain ⟨rfl, ⟨hsz, hP, hK, hD0⟩, hN⟩ := hv
  have hx := B.exec
  have hb := B.bytes
  have hr := B.returns
  have hts := atoms_spec (ws := wz yX1_build cX1_build 4 none) B.pre
  have ht : ∀ w ∈ lw_gd, w.before _ s₀ = true := fun w h => hts w (List.mem_cons_of_mem _ h)
  have hown : s₀.vm.findClass RX1 = some m.cls := findClass_of_methodNamed B.named
  have hlocks := B.notSynchronized
  subst hsz
  have hD := hD0.self (sz := s₀.heap.size)
  generalize hAe : va_A (CW D a c1 (.ref (a 29)) (.ref (a 39)) (.ref (a 62)) s) s₀.heap.size = A at hD ⊢
  have hA : ∀ q : Nat, s₀.heap.size ≤ q → A q := fun q h => by rw [← hAe]; exact Or.inr h
  have hS : va_S A s₀.heap s₀.heap [] := va_S.rf
  have hDD : ∀ {d1 d2 d3 d4 : Value} (t : MS), va_D A (CW D a d1 d2 d3 d4 t) := fun t => CW_D t hD
  have hl := lv_entry ([.ref (a 49), .ref (a 29)]) (n := 4) (Nat.le_of_ble_eq_true rfl)
  rw [lg_entry_eq]
  generalize (lg_sl ([.ref (a 49), .ref (a 29)]) ++ List.replicate (4 - (lg_sl ([.ref (a 49), .ref (a 29)])).length) Slot.unset).toArray = ls at hl ⊢
  have hl : lv_has ls 4 [(0, .ref (a 49)), (1, .ref (a 29))] := hl
  unfold m_x1_build at h
  refine y_loop (pcJ := 18) (σ := Int × MS) (fun n u H locs ls => va_P D vwCl (CS D a u.2) H ∧ va_S A s₀.heap H locs ∧ lv_has ls 4 [(0, .ref (a 49)), (1, .ref (a 29)), (2, .int (i2 u.1))] ∧ m_x1_build_L18 n u.1 u.2 = some o) (fun u => []) (fun u H locs ls hI => by obtain ⟨_, _, _, h⟩ := hI; cases h) (fun n18 ih18 u H locs ls hI => ?_) (fun J18 => ?_)
  · obtain ⟨hP, hS, hl, h⟩ := hI
    obtain ⟨x1, s2⟩ := u
    have hP : va_P D vwCl (CS D a s2) H := hP
    have hl : lv_has ls 4 [(0, .ref (a 49)), (1, .ref (a 29)), (2, .int (i2 x1))] := hl
    have h : m_x1_build_b18 (m_x1_build_L18 n18) x1 s2 = some o := h
    unfold m_x1_build_b18 at h
    refine y_head (pcJ := 135) (σ := Int × MS) (fun u H locs ls => va_P D vwCl (CS D a u.2) H ∧ va_S A s₀.heap H locs ∧ lv_has ls 4 [(0, .ref (a 49)), (1, .ref (a 29)), (2, .int (i2 u.1))] ∧ m_x1_build_J135 (m_x1_build_L18 n18) u.1 u.2 = some o) (fun u => []) (fun u H locs ls hI => ?_) (fun J135 => ?_)
    · obtain ⟨hP, hS, hl, h⟩ := hI
      obtain ⟨x3, s4⟩ := u
      have hP : va_P D vwCl (CS D a s4) H := hP
      have hl : lv_has ls 4 [(0, .ref (a 49)), (1, .ref (a 29)), (2, .int (i2 x3))] := hl
      have h : m_x1_build_J135 (m_x1_build_L18 n18) x3 s4 = some o := h
      unfold m_x1_build_J135 at h
      refine lv_iinc (v := i2 (x3 + 1)) (lv' := [(2, .int (i2 (x3 + 1))), (0, .ref (a 49)), (1, .ref (a 29))]) hx hb dX1_build_135 hl (k := 2) rfl (i2_add x3 1) (by decide) rfl (fun ls hl => ?_)
      refine lv_goto (tgt := 18) hx hb dX1_build_138 (by decide) ?_
      exact ih18 (x3 + 1, s4) _ _ _ ⟨hP, hS, lv_sub hl [1, 2, 0] rfl, h⟩
    refine lv_iload_n hx hb dX1_build_18 rfl (lv_at hl 2 rfl) ?_
    refine lv_aload_n hx hb dX1_build_19 rfl (lv_at hl 1 rfl) ?_
    refine va_get (D := D) (ci := 5) (v := .int (i2 (gI s2 585))) (C := RX5) (T := TX5) (N := 14) hx hb ht inX5 hown hK hP 29 CW_29 rfl 5 (by decide) (ht (.fieldLink RX1 60 "CloneVolumes$Plan" "changes" "I") fl_X1_60) (fun _ h9 => h9) rfl dX1_build_20 ?_
    obtain ⟨hr5, h⟩ := rg_e h
    obtain ⟨hr6, h⟩ := rg_e h
    refine lv_icmp_ge (tgt := 141) hx hb dX1_build_23 (by decide) (fun c7 => ?_) (fun c7 => ?_)
    · have h := if_t ((i2_le (x := (gI s2 585)) (y := x1) hr6 hr5).mp c7) h
      refine lv_aload_n hx hb dX1_build_141 rfl (lv_at hl 0 rfl) ?_
      refine va_get (D := D) (ci := 1) (v := .ref (a 53)) (C := RX1) (T := TX1) (N := 9) hx hb ht inX1 hown hK hP 49 CW_49 rfl 0 (by decide) (ht (.fieldLink RX1 12 "CloneVolumes$Forest" "now" "LCloneVolumes$State;") fl_X1_12) (fun _ h9 => h9) rfl dX1_build_142 ?_
      obtain ⟨s9, hc8, h⟩ := bn_e h
      refine ywVv (As := []) (rest := []) (C := RX8) (n := 0) (ws' := CS D a s9) ⟨hx, hb, hml, hown, ht⟩ (k_x8_save l D a _ _ _ hc8) (zgV ml_X1_90 im_X8_save se_X8_save in_X8 co_X8_save) rfl rfl (by decide +kernel) ⟨Nat.le_of_ble_eq_true rfl, Nat.le_of_ble_eq_true rfl⟩ hN hK hP (hDD _) hS hA 53 CW_53 rfl rfl rfl hl.1 rfl (Nat.le_of_ble_eq_true rfl) dX1_build_145 ⟨Nat.le_of_ble_eq_true rfl, Nat.le_of_ble_eq_true rfl⟩ (fun H locs hP hS => ?_)
      refine lv_aload_n hx hb dX1_build_148 rfl (lv_at hl 0 rfl) ?_
      refine va_get (D := D) (ci := 1) (v := .ref (a 53)) (C := RX1) (T := TX1) (N := 9) hx hb ht inX1 hown hK hP 49 CW_49 rfl 0 (by decide) (ht (.fieldLink RX1 12 "CloneVolumes$Forest" "now" "LCloneVolumes$State;") fl_X1_12) (fun _ h9 => h9) rfl dX1_build_149 ?_
      refine lv_iconst (v := 0) hx hb dX1_build_152 (by decide) ?_
      refine ya_put (D := D) (ci := 8) (v := .int 0) (ty := .int) (C := RX8) (T := TX8) (N := 11) hx hb ht inX8 tyX8 tyX8_ok nmX8 hown hK hP (hDD _) hS 53 CW_53 rfl 1 (by decide) (ht (.fieldLink RX1 93 "CloneVolumes$State" "spent" "I") fl_X1_93) (fun _ h9 => h9) rfl (by decide +kernel) rfl rfl (Nat.le_of_ble_eq_true rfl) dX1_build_153 (CW_w53_1 0) (fun H locs hP hS => ?_)
      obtain ⟨s10, hs10, h⟩ := st_e h
      rw [hs10] at hP
      refine lv_aload_n hx hb dX1_build_156 rfl (lv_at hl 0 rfl) ?_
      refine va_get (D := D) (ci := 1) (v := .ref (a 53)) (C := RX1) (T := TX1) (N := 9) hx hb ht inX1 hown hK hP 49 CW_49 rfl 0 (by decide) (ht (.fieldLink RX1 12 "CloneVolumes$Forest" "now" "LCloneVolumes$State;") fl_X1_12) (fun _ h9 => h9) rfl dX1_build_157 ?_
      refine lv_lconst (v := 0) hx hb dX1_build_160 (by decide) ?_
      refine ya_put (D := D) (ci := 8) (v := .long 0) (ty := .long) (C := RX8) (T := TX8) (N := 11) hx hb ht inX8 tyX8 tyX8_ok nmX8 hown hK hP (hDD _) hS 53 CW_53 rfl 2 (by decide) (ht (.fieldLink RX1 96 "CloneVolumes$State" "written" "J") fl_X1_96) (fun _ h9 => h9) rfl (by decide +kernel) rfl rfl (Nat.le_of_ble_eq_true rfl) dX1_build_161 (CW_w53_2 0) (fun H locs hP hS => ?_)
      obtain ⟨s11, hs11, h⟩ := st_e h
      rw [hs11] at hP
      obtain rfl := Option.some.inj h
      exact W.vret hx hb hr (fun t ht hW => ⟨⟨(), rfl, trivial, by rw [ht]; exact hP, va_K.moved hW.alike hK, hDD _⟩, hS.F ht⟩) hS.2.2 dX1_build_164
    · have h := if_f (mt (i2_le (x := (gI s2 585)) (y := x1) hr6 hr5).mpr c7) h
      refine lv_aload_n hx hb dX1_build_26 rfl (lv_at hl 1 rfl) ?_
      refine va_get (D := D) (ci := 5) (v := .ref (a 32)) (C := RX5) (T := TX5) (N := 14) hx hb ht inX5 hown hK hP 29 CW_29 rfl 8 (by decide) (ht (.fieldLink RX1 63 "CloneVolumes$Plan" "who" "[I") fl_X1_63) (fun _ h9 => h9) rfl dX1_build_27 ?_
      refine lv_iload_n hx hb dX1_build_30 rfl (lv_at hl 2 rfl) ?_
      obtain ⟨y12, ey12, iy12, h⟩ := rdI_e h
      refine ya_iald (i := x1) hx hb hK hP 32 0 CW_32 rfl (by decide) ey12 iy12 dX1_build_31 ?_
      refine lv_istore_n (lv' := [(3, .int (i2 y12)), (0, .ref (a 49)), (1, .ref (a 29)), (2, .int (i2 x1))]) hx hb dX1_build_32 rfl hl (by decide) rfl (fun ls hl => ?_)
      refine lv_aload_n hx hb dX1_build_33 rfl (lv_at hl 2 rfl) ?_
      refine va_get (D := D) (ci := 5) (v := .ref (a 31)) (C := RX5) (T := TX5) (N := 14) hx hb ht inX5 hown hK hP 29 CW_29 rfl 7 (by decide) (ht (.fieldLink RX1 66 "CloneVolumes$Plan" "kinds" "[I") fl_X1_66) (fun _ h9 => h9) rfl dX1_build_34 ?_
      refine lv_iload_n hx hb dX1_build_37 rfl (lv_at hl 3 rfl) ?_
      obtain ⟨y13, ey13, iy13, h⟩ := rdI_e h
      refine ya_iald (i := x1) hx hb hK hP 31 0 CW_31 rfl (by decide) ey13 iy13 dX1_build_38 ?_
      obtain ⟨hr14, h⟩ := rg_e h
      by_cases c15 : y13 = 2
      · have h := if_t c15 h
        refine lv_tableIn (off := 33) (tgt := 72) hx hb dX1_build_39 (by rw [c15]; decide) (by rw [c15]; decide) (by rw [c15]; decide) (by decide) ?_
        refine lv_aload_n hx hb dX1_build_72 rfl (lv_at hl 1 rfl) ?_
        refine va_get (D := D) (ci := 1) (v := .ref (a 53)) (C := RX1) (T := TX1) (N := 9) hx hb ht inX1 hown hK hP 49 CW_49 rfl 0 (by decide) (ht (.fieldLink RX1 12 "CloneVolumes$Forest" "now" "LCloneVolumes$State;") fl_X1_12) (fun _ h9 => h9) rfl dX1_build_73 ?_
        refine va_get (D := D) (ci := 8) (v := .ref (a 60)) (C := RX8) (T := TX8) (N := 11) hx hb ht inX8 hown hK hP 53 CW_53 rfl 9 (by decide) (ht (.fieldLink RX1 69 "CloneVolumes$State" "roots" "[I") fl_X1_69) (fun _ h9 => h9) rfl dX1_build_76 ?_
        refine lv_iload_n hx hb dX1_build_79 rfl (lv_at hl 0 rfl) ?_
        refine lv_iconst (v := (-1)) hx hb dX1_build_80 (by decide) ?_
        obtain ⟨hi16, h⟩ := inb_e h
        refine ya_iast (i := y12) (x := (-1)) hx hb hK hP (hDD _) hS 60 0 CW_60 rfl (by decide) hi16 dX1_build_81 (CW_w60 _) (fun H locs hP hS => ?_)
        obtain ⟨s17, hs17, h⟩ := st_e h
        rw [hs17] at hP
        refine lv_goto (tgt := 135) hx hb dX1_build_82 (by decide) ?_
        exact J135 (x1, s17) _ _ _ ⟨hP, hS, lv_sub hl [1, 2, 3] rfl, h⟩
      · have h := if_f c15 h
        by_cases c18 : y13 = 3
        · have h := if_t c18 h
          refine lv_tableIn (off := 46) (tgt := 85) hx hb dX1_build_39 (by rw [c18]; decide) (by rw [c18]; decide) (by rw [c18]; decide) (by decide) ?_
          refine lv_aload_n hx hb dX1_build_85 rfl (lv_at hl 1 rfl) ?_
          refine lv_aload_n hx hb dX1_build_86 rfl (lv_at hl 2 rfl) ?_
          refine va_get (D := D) (ci := 5) (v := .ref (a 33)) (C := RX5) (T := TX5) (N := 14) hx hb ht inX5 hown hK hP 29 CW_29 rfl 9 (by decide) (ht (.fieldLink RX1 72 "CloneVolumes$Plan" "first" "[I") fl_X1_72) (fun _ h9 => h9) rfl dX1_build_87 ?_
          refine lv_iload_n hx hb dX1_build_90 rfl (lv_at hl 3 rfl) ?_
          obtain ⟨y19, ey19, iy19, h⟩ := rdI_e h
          refine ya_iald (i := x1) hx hb hK hP 33 0 CW_33 rfl (by decide) ey19 iy19 dX1_build_91 ?_
          refine lv_iload_n hx hb dX1_build_92 rfl (lv_at hl 0 rfl) ?_
          obtain ⟨s21, hc20, h⟩ := bn_e h
          refine ywVv (As := [.int (i2 y19), .int (i2 y12)]) (rest := []) (C := RX1) (n := 2) (ws' := CS D a s21) ⟨hx, hb, hml, hown, ht⟩ (k_x1_share l D a y19 y12 _ _ _ hc20) (zgV ml_X1_75 im_X1_share se_X1_share in_X1 co_X1_share) rfl rfl (by decide +kernel) ⟨Nat.le_of_ble_eq_true rfl, Nat.le_of_ble_eq_true rfl⟩ hN hK hP (hDD _) hS hA 49 CW_49 rfl rfl rfl hl.1 rfl (Nat.le_of_ble_eq_true rfl) dX1_build_93 ⟨Nat.le_of_ble_eq_true rfl, Nat.le_of_ble_eq_true rfl⟩ (fun H locs hP hS => ?_)
          refine lv_goto (tgt := 135) hx hb dX1_build_96 (by decide) ?_
          exact J135 (x1, s21) _ _ _ ⟨hP, hS, lv_sub hl [1, 2, 3] rfl, h⟩
        · have h := if_f c18 h
          by_cases c22 : y13 = 4
          · have h := if_t c22 h
            refine lv_tableIn (off := 96) (tgt := 135) hx hb dX1_build_39 (by rw [c22]; decide) (by rw [c22]; decide) (by rw [c22]; decide) (by decide) ?_
            exact J135 (x1, s2) _ _ _ ⟨hP, hS, lv_sub hl [1, 2, 3] rfl, h⟩
          · have h := if_f c22 h
            by_cases c23 : y13 = 5
            · have h := if_t c23 h
              refine lv_tableIn (off := 60) (tgt := 99) hx hb dX1_build_39 (by rw [c23]; decide) (by rw [c23]; decide) (by rw [c23]; decide) (by decide) ?_
              refine lv_aload_n hx hb dX1_build_99 rfl (lv_at hl 1 rfl) ?_
              refine lv_iload_n hx hb dX1_build_100 rfl (lv_at hl 0 rfl) ?_
              refine lv_aload_n hx hb dX1_build_101 rfl (lv_at hl 2 rfl) ?_
              refine va_get (D := D) (ci := 5) (v := .ref (a 33)) (C := RX5) (T := TX5) (N := 14) hx hb ht inX5 hown hK hP 29 CW_29 rfl 9 (by decide) (ht (.fieldLink RX1 72 "CloneVolumes$Plan" "first" "[I") fl_X1_72) (fun _ h9 => h9) rfl dX1_build_102 ?_
              refine lv_iload_n hx hb dX1_build_105 rfl (lv_at hl 3 rfl) ?_
              obtain ⟨y24, ey24, iy24, h⟩ := rdI_e h
              refine ya_iald (i := x1) hx hb hK hP 33 0 CW_33 rfl (by decide) ey24 iy24 dX1_build_106 ?_
              refine lv_aload_n hx hb dX1_build_107 rfl (lv_at hl 2 rfl) ?_
              refine va_get (D := D) (ci := 5) (v := .ref (a 34)) (C := RX5) (T := TX5) (N := 14) hx hb ht inX5 hown hK hP 29 CW_29 rfl 10 (by decide) (ht (.fieldLink RX1 79 "CloneVolumes$Plan" "second" "[I") fl_X1_79) (fun _ h9 => h9) rfl dX1_build_108 ?_
              refine lv_iload_n hx hb dX1_build_111 rfl (lv_at hl 3 rfl) ?_
              obtain ⟨y25, ey25, iy25, h⟩ := rdI_e h
              refine ya_iald (i := x1) hx hb hK hP 34 0 CW_34 rfl (by decide) ey25 iy25 dX1_build_112 ?_
              obtain ⟨⟨r28, s27⟩, hc26, h⟩ := bn_e h
              refine ywV (r0 := i2 r28) (As := [.int (i2 y12), .int (i2 y24), .int (i2 y25)]) (rest := []) (C := RX1) (n := 3) (ws' := CS D a s27) ⟨hx, hb, hml, hown, ht⟩ (k_x1_tryPlant l D a y12 y24 y25 _ _ _ hc26) (zgV ml_X1_82 im_X1_tryPlant se_X1_tryPlant in_X1 co_X1_tryPlant) rfl rfl (by decide +kernel) ⟨Nat.le_of_ble_eq_true rfl, Nat.le_of_ble_eq_true rfl⟩ hN hK hP (hDD _) hS hA 49 CW_49 rfl rfl rfl hl.1 rfl (Nat.le_of_ble_eq_true rfl) dX1_build_113 ⟨Nat.le_of_ble_eq_true rfl, Nat.le_of_ble_eq_true rfl⟩ (fun H locs hP hS => ?_)
              refine lv_pop hx hb dX1_build_116 rfl ?_
              refine lv_goto (tgt := 135) hx hb dX1_build_117 (by decide) ?_
              exact J135 (x1, s27) _ _ _ ⟨hP, hS, lv_sub hl [1, 2, 3] rfl, h⟩
            · have h := if_f c23 h
              by_cases c29 : y13 = 6
              · have h := if_t c29 h
                refine lv_tableIn (off := 81) (tgt := 120) hx hb dX1_build_39 (by rw [c29]; decide) (by rw [c29]; decide) (by rw [c29]; decide) (by decide) ?_
                refine lv_aload_n hx hb dX1_build_120 rfl (lv_at hl 1 rfl) ?_
                refine lv_iload_n hx hb dX1_build_121 rfl (lv_at hl 0 rfl) ?_
                refine lv_aload_n hx hb dX1_build_122 rfl (lv_at hl 2 rfl) ?_
                refine va_get (D := D) (ci := 5) (v := .ref (a 33)) (C := RX5) (T := TX5) (N := 14) hx hb ht inX5 hown hK hP 29 CW_29 rfl 9 (by decide) (ht (.fieldLink RX1 72 "CloneVolumes$Plan" "first" "[I") fl_X1_72) (fun _ h9 => h9) rfl dX1_build_123 ?_
                refine lv_iload_n hx hb dX1_build_126 rfl (lv_at hl 3 rfl) ?_
                obtain ⟨y30, ey30, iy30, h⟩ := rdI_e h
                refine ya_iald (i := x1) hx hb hK hP 33 0 CW_33 rfl (by decide) ey30 iy30 dX1_build_127 ?_
                obtain ⟨⟨r33, s32⟩, hc31, h⟩ := bn_e h
                refine ywV (r0 := i2 r33) (As := [.int (i2 y12), .int (i2 y30)]) (rest := []) (C := RX1) (n := 2) (ws' := CS D a s32) ⟨hx, hb, hml, hown, ht⟩ (k_x1_tryUproot l D a y12 y30 _ _ _ hc31) (zgV ml_X1_86 im_X1_tryUproot se_X1_tryUproot in_X1 co_X1_tryUproot) rfl rfl (by decide +kernel) ⟨Nat.le_of_ble_eq_true rfl, Nat.le_of_ble_eq_true rfl⟩ hN hK hP (hDD _) hS hA 49 CW_49 rfl rfl rfl hl.1 rfl (Nat.le_of_ble_eq_true rfl) dX1_build_128 ⟨Nat.le_of_ble_eq_true rfl, Nat.le_of_ble_eq_true rfl⟩ (fun H locs hP hS => ?_)
                refine lv_pop hx hb dX1_build_131 rfl ?_
                refine lv_goto (tgt := 135) hx hb dX1_build_132 (by decide) ?_
                exact J135 (x1, s32) _ _ _ ⟨hP, hS, lv_sub hl [1, 2, 3] rfl, h⟩
              · have h := if_f c29 h
                refine lv_tableOut (tgt := 135) hx hb dX1_build_39 (by rw [i2_t hr14]; omega) (by decide) ?_
                exact J135 (x1, s2) _ _ _ ⟨hP, hS, lv_sub hl [1, 2, 3] rfl, h⟩
  refine lv_aload_n hx hb dX1_build_0 rfl (lv_at hl 0 rfl) ?_
  refine lv_aload_n hx hb dX1_build_1 rfl (lv_at hl 1 rfl) ?_
  refine ya_put (D := D) (ci := 1) (v := .ref (a 29)) (ty := .object "CloneVolumes$Plan") (C := RX1) (T := TX1) (N := 9) hx hb ht inX1 tyX1 tyX1_ok nmX1 hown hK hP (hDD _) hS 49 CW_49 rfl 4 (by decide) (ht (.fieldLink RX1 47 "CloneVolumes$Forest" "plan" "LCloneVolumes$Plan;") fl_X1_47) (fun _ h9 => h9) rfl (by decide +kernel) rfl rfl (Nat.le_of_ble_eq_true rfl) dX1_build_2 (CW_w49_4 _) (fun H locs hP hS => ?_)
  refine lv_aload_n hx hb dX1_build_5 rfl (lv_at hl 0 rfl) ?_
  refine va_get (D := D) (ci := 1) (v := .ref (a 53)) (C := RX1) (T := TX1) (N := 9) hx hb ht inX1 hown hK hP 49 CW_49 rfl 0 (by decide) (ht (.fieldLink RX1 12 "CloneVolumes$Forest" "now" "LCloneVolumes$State;") fl_X1_12) (fun _ h9 => h9) rfl dX1_build_6 ?_
  refine lv_aload_n hx hb dX1_build_9 rfl (lv_at hl 1 rfl) ?_
  refine va_get (D := D) (ci := 5) (v := .int (i2 (gI s 580))) (C := RX5) (T := TX5) (N := 14) hx hb ht inX5 hown hK hP 29 CW_29 rfl 0 (by decide) (ht (.fieldLink RX1 51 "CloneVolumes$Plan" "blocks" "I") fl_X1_51) (fun _ h9 => h9) rfl dX1_build_10 ?_
  obtain ⟨s35, hc34, h⟩ := bn_e h
  refine ywVv (As := [.int (i2 (gI s 580))]) (rest := []) (C := RX8) (n := 1) (ws' := CS D a s35) ⟨hx, hb, hml, hown, ht⟩ (k_x8_clear_v2 l D a (gI s 580) _ _ _ hc34) (zgV ml_X1_56 im_X8_clear se_X8_clear in_X8 co_X8_clear) rfl rfl (by decide +kernel) ⟨Nat.le_of_ble_eq_true rfl, Nat.le_of_ble_eq_true rfl⟩ hN hK hP (hDD _) hS hA 53 CW_53 rfl rfl rfl hl.1 rfl (Nat.le_of_ble_eq_true rfl) dX1_build_13 ⟨Nat.le_of_ble_eq_true rfl, Nat.le_of_ble_eq_true rfl⟩ (fun H locs hP hS => ?_)
  refine lv_iconst (v := 0) hx hb dX1_build_16 (by decide) ?_
  refine lv_istore_n (lv' := [(2, .int 0), (0, .ref (a 49)), (1, .ref (a 29))]) hx hb dX1_build_17 rfl hl (by decide) rfl (fun ls hl => ?_)
  exact J18 FU (0, s35) _ _ _ ⟨hP, hS, lv_sub hl [1, 2, 0] rfl, h⟩
set_option maxHeartbeats 4000000 in
set_option maxRecDepth 100000 in
theorem k_x11_store (l : Launch) (D : va_G) (a0 : Nat → Nat) (sz : Nat) (s : MS) (o : Int × MS) (h : m_x11_store s = some o) : yS l yX11_store cX11_store 3 (some .int) { frames := 163, cells := 0, slots := 0, locals := 9780 } D sz [.ref (a0 0)] a0 s (i2 o.1) o.2 := by
  refine Met.ofW (cc := cX11_store) (maxL := 3) (ret := (some .int)) (by decide) rfl ?_
  intro p e s₀ m args below meth c s₁ B hml hv
  obtain ⟨rfl, ⟨hsz, hP, hK, hD0⟩, hN⟩ := hv
  have hx := B.exec
  have hb := B.bytes
  have hr := B.returns
  have hts := atoms_spec (ws := wz yX11_store cX11_store 3 (some .int)) B.pre
  have ht : ∀ w ∈ lw_gd, w.before _ s₀ = true := fun w h => hts w (List.mem_cons_of_mem _ h)
  have hown : s₀.vm.findClass RX11 = some m.cls := findClass_of_methodNamed B.named
  have hlocks := B.notSynchronized
  subst hsz
  have hD := hD0.self (sz := s₀.heap.size)
  generalize hAe : va_A (CS D a0 s) s₀.heap.size = A at hD ⊢
  have hA : ∀ q : Nat, s₀.heap.size ≤ q → A q := fun q h => by rw [← hAe]; exact Or.inr h
  have hS : va_S A s₀.heap s₀.heap [] := va_S.rf
  have hl := lv_entry ([.ref (a0 0)]) (n := 3) (Nat.le_of_ble_eq_true rfl)
  rw [lg_entry_eq]
  generalize (lg_sl ([.ref (a0 0)]) ++ List.replicate (3 - (lg_sl ([.ref (a0 0)])).length) Slot.unset).toArray = ls at hl ⊢
  obtain ⟨a, ha⟩ : ∃ a : Nat → Nat, a = a0 := ⟨a0, rfl⟩
  rw [← ha] at hP hD hl
  have hu : ∀ k, (k < 29 ∨ 48 < k) → a k = a0 k := fun k _ => by rw [ha]
  have hDD : ∀ {d1 d2 d3 d4 : Value} (t : MS), va_D A (CW D a d1 d2 d3 d4 t) := fun t => CW_D t hD
  have hl : lv_has ls 3 [(0, .ref (a 0))] := hl
  clear ha
  unfold m_x11_store at h
  refine lv_aload_n hx hb dX11_store_0 rfl (lv_at hl 0 rfl) ?_
  refine va_get (D := D) (ci := 11) (v := .ref (a 5)) (C := RX11) (T := TX11) (N := 13) hx hb ht inX11 hown hK hP 0 CW_0 rfl 1 (by decide) (ht (.fieldLink RX11 21 "CloneVolumes" "reader" "LCloneVolumes$Reader;") fl_X11_21) (fun _ h9 => h9) rfl dX11_store_1 ?_
  refine lv_aload_n hx hb dX11_store_4 rfl (lv_at hl 0 rfl) ?_
  refine va_get (D := D) (ci := 11) (v := .ref (a 39)) (C := RX11) (T := TX11) (N := 13) hx hb ht inX11 hown hK hP 0 CW_0 rfl 10 (by decide) (ht (.fieldLink RX11 71 "CloneVolumes" "spare" "LCloneVolumes$Plan;") fl_X11_71) (fun _ h9 => h9) rfl dX11_store_5 ?_
  obtain ⟨⟨r3, s2⟩, hc1, h⟩ := bn_e h
  refine ywV (r0 := i2 r3) (As := [.ref (a 39)]) (rest := []) (C := RX6) (n := 1) (ws' := CS D a s2) ⟨hx, hb, hml, hown, ht⟩ (k_x6_readStore l D a _ _ _ hc1) (zgV ml_X11_99 im_X6_readStore se_X6_readStore in_X6 co_X6_readStore) rfl rfl (by decide +kernel) ⟨Nat.le_of_ble_eq_true rfl, Nat.le_of_ble_eq_true rfl⟩ hN hK hP (hDD _) hS hA 5 CW_5 rfl rfl rfl hl.1 rfl (Nat.le_of_ble_eq_true rfl) dX11_store_8 ⟨Nat.le_of_ble_eq_true rfl, Nat.le_of_ble_eq_true rfl⟩ (fun H locs hP hS => ?_)
  refine lv_istore_n (lv' := [(1, .int (i2 r3)), (0, .ref (a 0))]) hx hb dX11_store_11 rfl hl (by decide) rfl (fun ls hl => ?_)
  refine lv_aload_n hx hb dX11_store_12 rfl (lv_at hl 1 rfl) ?_
  refine va_get (D := D) (ci := 11) (v := .ref (a 3)) (C := RX11) (T := TX11) (N := 13) hx hb ht inX11 hown hK hP 0 CW_0 rfl 0 (by decide) (ht (.fieldLink RX11 12 "CloneVolumes" "tape" "LCloneVolumes$Tape;") fl_X11_12) (fun _ h9 => h9) rfl dX11_store_13 ?_
  refine lv_iconst (v := 0) hx hb dX11_store_16 (by decide) ?_
  refine ya_put (D := D) (ci := 9) (v := .int 0) (ty := .int) (C := RX9) (T := TX9) (N := 2) hx hb ht inX9 tyX9 tyX9_ok nmX9 hown hK hP (hDD _) hS 3 CW_3 rfl 1 (by decide) (ht (.fieldLink RX11 95 "CloneVolumes$Tape" "length" "I") fl_X11_95) (fun _ h9 => h9) rfl (by decide +kernel) rfl rfl (Nat.le_of_ble_eq_true rfl) dX11_store_17 (CW_w3_1 0) (fun H locs hP hS => ?_)
  obtain ⟨s4, hs4, h⟩ := st_e h
  rw [hs4] at hP
  refine lv_iload_n hx hb dX11_store_20 rfl (lv_at hl 0 rfl) ?_
  obtain ⟨hr5, h⟩ := rg_e h
  refine lv_if_ne (tgt := 30) hx hb dX11_store_21 (by decide) (fun c6 => ?_) (fun c6 => ?_)
  · have h := if_f (mt (i2_eq (x := r3) (y := 0) hr5 (by decide)).mpr c6) h
    refine lv_aload_n hx hb dX11_store_30 rfl (lv_at hl 1 rfl) ?_
    refine va_get (D := D) (ci := 11) (v := .ref (a 29)) (C := RX11) (T := TX11) (N := 13) hx hb ht inX11 hown hK hP 0 CW_0 rfl 9 (by decide) (ht (.fieldLink RX11 67 "CloneVolumes" "plan" "LCloneVolumes$Plan;") fl_X11_67) (fun _ h9 => h9) rfl dX11_store_31 ?_
    refine lv_astore_n (lv' := [(2, .ref (a 29)), (1, .int (i2 r3)), (0, .ref (a 0))]) hx hb dX11_store_34 rfl hl (by decide) rfl (fun ls hl => ?_)
    refine lv_aload_n hx hb dX11_store_35 rfl (lv_at hl 2 rfl) ?_
    refine lv_aload_n hx hb dX11_store_36 rfl (lv_at hl 2 rfl) ?_
    refine va_get (D := D) (ci := 11) (v := .ref (a 39)) (C := RX11) (T := TX11) (N := 13) hx hb ht inX11 hown hK hP 0 CW_0 rfl 10 (by decide) (ht (.fieldLink RX11 71 "CloneVolumes" "spare" "LCloneVolumes$Plan;") fl_X11_71) (fun _ h9 => h9) rfl dX11_store_37 ?_
    refine ya_put (D := D) (ci := 11) (v := .ref (a 39)) (ty := .object "CloneVolumes$Plan") (C := RX11) (T := TX11) (N := 13) hx hb ht inX11 tyX11 tyX11_ok nmX11 hown hK hP (hDD _) hS 0 CW_0 rfl 9 (by decide) (ht (.fieldLink RX11 67 "CloneVolumes" "plan" "LCloneVolumes$Plan;") fl_X11_67) (fun _ h9 => h9) rfl (by decide +kernel) rfl rfl (Nat.le_of_ble_eq_true rfl) dX11_store_40 (CW_w0_9 _) (fun H locs hP hS => ?_)
    refine lv_aload_n hx hb dX11_store_43 rfl (lv_at hl 2 rfl) ?_
    refine lv_aload_n hx hb dX11_store_44 rfl (lv_at hl 0 rfl) ?_
    refine ya_put (D := D) (ci := 11) (v := .ref (a 29)) (ty := .object "CloneVolumes$Plan") (C := RX11) (T := TX11) (N := 13) hx hb ht inX11 tyX11 tyX11_ok nmX11 hown hK hP (hDD _) hS 0 CW_0 rfl 10 (by decide) (ht (.fieldLink RX11 71 "CloneVolumes" "spare" "LCloneVolumes$Plan;") fl_X11_71) (fun _ h9 => h9) rfl (by decide +kernel) rfl rfl (Nat.le_of_ble_eq_true rfl) dX11_store_45 (CW_w0_10 _) (fun H locs hP hS => ?_)
    obtain ⟨he7, h⟩ := eqg_e h
    obtain ⟨s8, hs8, h⟩ := st_e h
    have hu2 : ∀ k, (k < 29 ∨ 48 < k) → swp a k = a0 k := fun k hk => (swp_out hk).trans (hu k hk)
    have hDs : va_D A (CW D (swp a) (.ref (swp a 39)) (.ref (swp a 29)) (.ref (swp a 39)) (.ref (swp a 62)) s8) := CW_swp_D (hDD (d1 := .null) (d2 := .null) (d3 := .null) (d4 := .null) s4)
    have hP : va_P D vwCl (CW D (swp a) (.ref (swp a 39)) (.ref (swp a 29)) (.ref (swp a 39)) (.ref (swp a 62)) s8) H := by rw [← hs8]; exact CW_swp_P he7 hP
    have hl : lv_has ls 3 [(0, .ref (swp a 0))] := lv_sub hl [2] rfl
    clear hu hDD
    generalize swp a = a at hP hl hu2 hDs
    have hu : ∀ k, (k < 29 ∨ 48 < k) → a k = a0 k := hu2
    have hDD : ∀ {d1 d2 d3 d4 : Value} (t : MS), va_D A (CW D a d1 d2 d3 d4 t) := fun t => CW_D t hDs
    refine lv_aload_n hx hb dX11_store_48 rfl (lv_at hl 0 rfl) ?_
    refine va_get (D := D) (ci := 11) (v := .ref (a 49)) (C := RX11) (T := TX11) (N := 13) hx hb ht inX11 hown hK hP 0 CW_0 rfl 11 (by decide) (ht (.fieldLink RX11 79 "CloneVolumes" "forest" "LCloneVolumes$Forest;") fl_X11_79) (fun _ h9 => h9) rfl dX11_store_49 ?_
    refine lv_aload_n hx hb dX11_store_52 rfl (lv_at hl 0 rfl) ?_
    refine va_get (D := D) (ci := 11) (v := .ref (a 29)) (C := RX11) (T := TX11) (N := 13) hx hb ht inX11 hown hK hP 0 CW_0 rfl 9 (by decide) (ht (.fieldLink RX11 67 "CloneVolumes" "plan" "LCloneVolumes$Plan;") fl_X11_67) (fun _ h9 => h9) rfl dX11_store_53 ?_
    obtain ⟨s10, hc9, h⟩ := bn_e h
    refine ywVv (As := [.ref (a 29)]) (rest := []) (C := RX1) (n := 1) (ws' := CS D a s10) ⟨hx, hb, hml, hown, ht⟩ (k_x1_build l D a (.ref (a 39)) _ _ _ hc9) (zgV ml_X11_103 im_X1_build se_X1_build in_X1 co_X1_build) rfl rfl (by decide +kernel) ⟨Nat.le_of_ble_eq_true rfl, Nat.le_of_ble_eq_true rfl⟩ hN hK hP (hDD _) hS hA 49 CW_49 rfl rfl rfl hl.1 rfl (Nat.le_of_ble_eq_true rfl) dX11_store_56 ⟨Nat.le_of_ble_eq_true rfl, Nat.le_of_ble_eq_true rfl⟩ (fun H locs hP hS => ?_)
    refine lv_aload_n hx hb dX11_store_59 rfl (lv_at hl 0 rfl) ?_
    refine va_get (D := D) (ci := 11) (v := .ref (a 7)) (C := RX11) (T := TX11) (N := 13) hx hb ht inX11 hown hK hP 0 CW_0 rfl 2 (by decide) (ht (.fieldLink RX11 28 "CloneVolumes" "history" "LCloneVolumes$History;") fl_X11_28) (fun _ h9 => h9) rfl dX11_store_60 ?_
    obtain ⟨s12, hc11, h⟩ := bn_e h
    refine ywVv (As := []) (rest := []) (C := RX2) (n := 0) (ws' := CS D a s12) ⟨hx, hb, hml, hown, ht⟩ (k_x2_clear l D a _ _ _ hc11) (zgV ml_X11_106 im_X2_clear se_X2_clear in_X2 co_X2_clear) rfl rfl (by decide +kernel) ⟨Nat.le_of_ble_eq_true rfl, Nat.le_of_ble_eq_true rfl⟩ hN hK hP (hDD _) hS hA 7 CW_7 rfl rfl rfl hl.1 rfl (Nat.le_of_ble_eq_true rfl) dX11_store_63 ⟨Nat.le_of_ble_eq_true rfl, Nat.le_of_ble_eq_true rfl⟩ (fun H locs hP hS => ?_)
    refine lv_aload_n hx hb dX11_store_66 rfl (lv_at hl 0 rfl) ?_
    refine va_get (D := D) (ci := 11) (v := .ref (a 11)) (C := RX11) (T := TX11) (N := 13) hx hb ht inX11 hown hK hP 0 CW_0 rfl 3 (by decide) (ht (.fieldLink RX11 35 "CloneVolumes" "sight" "LCloneVolumes$Sight;") fl_X11_35) (fun _ h9 => h9) rfl dX11_store_67 ?_
    refine lv_iconst (v := 0) hx hb dX11_store_70 (by decide) ?_
    refine ya_put (D := D) (ci := 7) (v := .int 0) (ty := .int) (C := RX7) (T := TX7) (N := 6) hx hb ht inX7 tyX7 tyX7_ok nmX7 hown hK hP (hDD _) hS 11 CW_11 rfl 0 (by decide) (ht (.fieldLink RX11 109 "CloneVolumes$Sight" "rows" "I") fl_X11_109) (fun _ h9 => h9) rfl (by decide +kernel) rfl rfl (Nat.le_of_ble_eq_true rfl) dX11_store_71 (CW_w11_0 0) (fun H locs hP hS => ?_)
    obtain ⟨s13, hs13, h⟩ := st_e h
    rw [hs13] at hP
    refine lv_aload_n hx hb dX11_store_74 rfl (lv_at hl 0 rfl) ?_
    refine lv_iconst (v := 1) hx hb dX11_store_75 (by decide) ?_
    refine ya_put (D := D) (ci := 11) (v := .int 1) (ty := .boolean) (C := RX11) (T := TX11) (N := 13) hx hb ht inX11 tyX11 tyX11_ok nmX11 hown hK hP (hDD _) hS 0 CW_0 rfl 12 (by decide) (ht (.fieldLink RX11 112 "CloneVolumes" "told" "Z") fl_X11_112) (fun _ h9 => h9) rfl (by decide +kernel) (by decide) (by decide) (Nat.le_of_ble_eq_true rfl) dX11_store_76 (CW_w0_12 1) (fun H locs hP hS => ?_)
    obtain ⟨s14, hs14, h⟩ := st_e h
    rw [hs14] at hP
    refine lv_aload_n hx hb dX11_store_79 rfl (lv_at hl 0 rfl) ?_
    refine va_get (D := D) (ci := 11) (v := .ref (a 29)) (C := RX11) (T := TX11) (N := 13) hx hb ht inX11 hown hK hP 0 CW_0 rfl 9 (by decide) (ht (.fieldLink RX11 67 "CloneVolumes" "plan" "LCloneVolumes$Plan;") fl_X11_67) (fun _ h9 => h9) rfl dX11_store_80 ?_
    refine va_get (D := D) (ci := 5) (v := .int (i2 (gI s14 583))) (C := RX5) (T := TX5) (N := 14) hx hb ht inX5 hown hK hP 29 CW_29 rfl 3 (by decide) (ht (.fieldLink RX11 116 "CloneVolumes$Plan" "statements" "I") fl_X11_116) (fun _ h9 => h9) rfl dX11_store_83 ?_
    obtain rfl := Option.some.inj h
    exact W.iret (v := (i2 (gI s14 583))) hx hb hr (fun t ht hW => ⟨⟨_, a, rfl, ⟨rfl, hu⟩, by rw [ht]; exact hP, va_K.moved hW.alike hK, hDD _⟩, hS.F ht⟩) hS.2.2 dX11_store_86
  · have h := if_t ((i2_eq (x := r3) (y := 0) hr5 (by decide)).mp c6) h
    refine lv_aload_n hx hb dX11_store_24 rfl (lv_at hl 1 rfl) ?_
    refine lv_iconst (v := 1) hx hb dX11_store_25 (by decide) ?_
    obtain ⟨⟨r17, s16⟩, hc15, h⟩ := bn_e h
    refine ywV (r0 := i2 r17) (As := [.int 1]) (rest := []) (C := RX11) (n := 1) (ws' := CS D a s16) ⟨hx, hb, hml, hown, ht⟩ (k_x11_refuse l D a 1 _ _ _ hc15) (zgV ml_X11_87 im_X11_refuse se_X11_refuse in_X11 co_X11_refuse) rfl rfl (by decide +kernel) ⟨Nat.le_of_ble_eq_true rfl, Nat.le_of_ble_eq_true rfl⟩ hN hK hP (hDD _) hS hA 0 CW_0 rfl rfl rfl hl.1 rfl (Nat.le_of_ble_eq_true rfl) dX11_store_26 ⟨Nat.le_of_ble_eq_true rfl, Nat.le_of_ble_eq_true rfl⟩ (fun H locs hP hS => ?_)
    obtain rfl := Option.some.inj h
    exact W.iret (v := (i2 r17)) hx hb hr (fun t ht hW => ⟨⟨_, a, rfl, ⟨rfl, hu⟩, by rw [ht]; exact hP, va_K.moved hW.alike hK, hDD _⟩, hS.F ht⟩) hS.2.2 dX11_store_29
