theorem fl_X2_31 : Cond.fieldLink RX2 31 "CloneVolumes$History" "depth" "I" ∈ lw_gd := zm (List.mem_of_getElem? (i := 352) (by decide +kernel)) rfl
theorem ml_X2_50 : Cond.methodLink RX2 50 yX8_init ∈ lw_gd := zm (List.mem_of_getElem? (i := 1345) (by decide +kernel)) rfl
theorem dX2_remember_0 : decode cX2_remember 0 = .ok (.aload_n 0, 1) := by decide +kernel
theorem dX2_remember_1 : decode cX2_remember 1 = .ok (.getfield 31, 3) := by decide +kernel
theorem dX2_remember_4 : decode cX2_remember 4 = .ok (.bipush 20, 2) := by decide +kernel
theorem dX2_remember_6 : decode cX2_remember 6 = .ok (.if_icmp .ne 62, 3) := by decide +kernel
theorem dX2_remember_9 : decode cX2_remember 9 = .ok (.aload_n 0, 1) := by decide +kernel
theorem dX2_remember_10 : decode cX2_remember 10 = .ok (.getfield 23, 3) := by decide +kernel
theorem dX2_remember_13 : decode cX2_remember 13 = .ok (.iconst 0, 1) := by decide +kernel
theorem dX2_remember_14 : decode cX2_remember 14 = .ok (.aaload, 1) := by decide +kernel
theorem dX2_remember_15 : decode cX2_remember 15 = .ok (.astore_n 2, 1) := by decide +kernel
theorem dX2_remember_16 : decode cX2_remember 16 = .ok (.iconst 1, 1) := by decide +kernel
theorem dX2_remember_17 : decode cX2_remember 17 = .ok (.istore_n 3, 1) := by decide +kernel
theorem dX2_remember_18 : decode cX2_remember 18 = .ok (.iload_n 3, 1) := by decide +kernel
theorem dX2_remember_19 : decode cX2_remember 19 = .ok (.bipush 20, 2) := by decide +kernel
theorem dX2_remember_21 : decode cX2_remember 21 = .ok (.if_icmp .ge 23, 3) := by decide +kernel
theorem dX2_remember_24 : decode cX2_remember 24 = .ok (.aload_n 0, 1) := by decide +kernel
theorem dX2_remember_25 : decode cX2_remember 25 = .ok (.getfield 23, 3) := by decide +kernel
theorem dX2_remember_28 : decode cX2_remember 28 = .ok (.iload_n 3, 1) := by decide +kernel
theorem dX2_remember_29 : decode cX2_remember 29 = .ok (.iconst 1, 1) := by decide +kernel
theorem dX2_remember_30 : decode cX2_remember 30 = .ok (.isub, 1) := by decide +kernel
theorem dX2_remember_31 : decode cX2_remember 31 = .ok (.aload_n 0, 1) := by decide +kernel
theorem dX2_remember_32 : decode cX2_remember 32 = .ok (.getfield 23, 3) := by decide +kernel
theorem dX2_remember_35 : decode cX2_remember 35 = .ok (.iload_n 3, 1) := by decide +kernel
theorem dX2_remember_36 : decode cX2_remember 36 = .ok (.aaload, 1) := by decide +kernel
theorem dX2_remember_37 : decode cX2_remember 37 = .ok (.aastore, 1) := by decide +kernel
theorem dX2_remember_38 : decode cX2_remember 38 = .ok (.iinc 3 1, 3) := by decide +kernel
theorem dX2_remember_41 : decode cX2_remember 41 = .ok (.goto (-23), 3) := by decide +kernel
theorem dX2_remember_44 : decode cX2_remember 44 = .ok (.aload_n 0, 1) := by decide +kernel
theorem dX2_remember_45 : decode cX2_remember 45 = .ok (.getfield 23, 3) := by decide +kernel
theorem dX2_remember_48 : decode cX2_remember 48 = .ok (.bipush 19, 2) := by decide +kernel
theorem dX2_remember_50 : decode cX2_remember 50 = .ok (.aload_n 1, 1) := by decide +kernel
theorem dX2_remember_51 : decode cX2_remember 51 = .ok (.aastore, 1) := by decide +kernel
theorem dX2_remember_52 : decode cX2_remember 52 = .ok (.aload_n 2, 1) := by decide +kernel
theorem dX2_remember_53 : decode cX2_remember 53 = .ok (.ifnonnull 13, 3) := by decide +kernel
theorem dX2_remember_66 : decode cX2_remember 66 = .ok (.aload_n 2, 1) := by decide +kernel
theorem dX2_remember_67 : decode cX2_remember 67 = .ok (.areturn, 1) := by decide +kernel
theorem dX2_remember_68 : decode cX2_remember 68 = .ok (.aload_n 0, 1) := by decide +kernel
theorem dX2_remember_69 : decode cX2_remember 69 = .ok (.getfield 23, 3) := by decide +kernel
theorem dX2_remember_72 : decode cX2_remember 72 = .ok (.aload_n 0, 1) := by decide +kernel
theorem dX2_remember_73 : decode cX2_remember 73 = .ok (.getfield 31, 3) := by decide +kernel
theorem dX2_remember_76 : decode cX2_remember 76 = .ok (.aaload, 1) := by decide +kernel
theorem dX2_remember_77 : decode cX2_remember 77 = .ok (.astore_n 2, 1) := by decide +kernel
theorem dX2_remember_78 : decode cX2_remember 78 = .ok (.aload_n 0, 1) := by decide +kernel
theorem dX2_remember_79 : decode cX2_remember 79 = .ok (.getfield 23, 3) := by decide +kernel
theorem dX2_remember_82 : decode cX2_remember 82 = .ok (.aload_n 0, 1) := by decide +kernel
theorem dX2_remember_83 : decode cX2_remember 83 = .ok (.getfield 31, 3) := by decide +kernel
theorem dX2_remember_86 : decode cX2_remember 86 = .ok (.aload_n 1, 1) := by decide +kernel
theorem dX2_remember_87 : decode cX2_remember 87 = .ok (.aastore, 1) := by decide +kernel
theorem dX2_remember_88 : decode cX2_remember 88 = .ok (.aload_n 0, 1) := by decide +kernel
theorem dX2_remember_89 : decode cX2_remember 89 = .ok (.dup, 1) := by decide +kernel
theorem dX2_remember_90 : decode cX2_remember 90 = .ok (.getfield 31, 3) := by decide +kernel
theorem dX2_remember_93 : decode cX2_remember 93 = .ok (.iconst 1, 1) := by decide +kernel
theorem dX2_remember_94 : decode cX2_remember 94 = .ok (.iadd, 1) := by decide +kernel
theorem dX2_remember_95 : decode cX2_remember 95 = .ok (.putfield 31, 3) := by decide +kernel
theorem dX2_remember_98 : decode cX2_remember 98 = .ok (.aload_n 2, 1) := by decide +kernel
theorem dX2_remember_99 : decode cX2_remember 99 = .ok (.ifnonnull 13, 3) := by decide +kernel
theorem dX2_remember_102 : decode cX2_remember 102 = .ok (.new 21, 3) := by decide +kernel
theorem dX2_remember_105 : decode cX2_remember 105 = .ok (.dup, 1) := by decide +kernel
theorem dX2_remember_106 : decode cX2_remember 106 = .ok (.invokespecial 50, 3) := by decide +kernel
theorem dX2_remember_109 : decode cX2_remember 109 = .ok (.goto 4, 3) := by decide +kernel
theorem dX2_remember_112 : decode cX2_remember 112 = .ok (.aload_n 2, 1) := by decide +kernel
theorem dX2_remember_113 : decode cX2_remember 113 = .ok (.areturn, 1) := by decide +kernel
/-! ===== the pool's rows ===== -/
section PR
variable {p : Program} {l : Launch} {e : Env} {R : Room} {s : State} {m : MethodId} {args : Array Value} {below : List Frame} {meth : Method} {c : Code} {H : Heap} {locs : List Loc} {cells slots : Nat} {Q : State → Prop}
variable {cc bytes : ByteArray} {pc : Nat} {ls : Array Slot} {rest st1 : List Value} {D : va_G} {A : Nat → Prop} {ws ws' : va_W} {H0 : Heap} {y : MethodName} {maxL nL mc ms n idx : Nat} {ret : Option FieldType} {rm : Room} {own C : String} {b a : Addr} {As : List Value}
theorem ya_ald (hexec : p.tables.exec = Jvm.exec) (hb : c.code = cc) (hK : va_K D vwCl (TY D) s) (hP : va_P D vwCl ws H) (q0 : Nat) {n : Nat} {f : Nat → Option Nat} (ha : ws[q0]? = some (a, .inl (D.1 17, n, .inr (.inr (.inr (.inr f)))))) {i : Int} {v : Option Nat} (hv : f i.toNat = v) (hin : 0 ≤ i ∧ i < (n : Int)) (hn : (n : Int) ≤ 2147483647) (hdg : decode cc pc = .ok (.aaload, 1))
    (kk : W p l e R s m args below meth c H locs cells slots Q (F0 m (pc + 1) ls (va_rf v :: rest))) : W p l e R s m args below meth c H locs cells slots Q (F0 m pc ls (.int (i2 i) :: .ref a :: rest)) := va_aldq (C := "CloneVolumes$State") hexec hb hK hP q0 4 ha rfl (i2_in hin hn) hdg (by rw [i2_clamp hin hn, hv]; exact kk)
theorem ya_ast (hexec : p.tables.exec = Jvm.exec) (hb : c.code = cc) (hK : va_K D vwCl (TY D) s) (hP : va_P D vwCl ws H) (hD : va_D A ws) (hS : va_S A H0 H locs) (q0 : Nat) {n v : Nat} {vs : List Value} {f : Nat → Option Nat} (ha : ws[q0]? = some (a, .inl (D.1 17, n, .inr (.inr (.inr (.inr f)))))) (hm : (v, .inr (8, vs)) ∈ ws) {i : Int} (hin : 0 ≤ i ∧ i < (n : Int)) (hn : (n : Int) ≤ 2147483647) (hdg : decode cc pc = .ok (.aastore, 1)) (hw : ws.set q0 (a, .inl (D.1 17, n, .inr (.inr (.inr (.inr (va_up f i.toNat (some v))))))) = ws')
    (kk : ∀ (H : Heap) (locs : List Loc), va_P D vwCl ws' H → va_S A H0 H locs → W p l e R s m args below meth c H locs cells slots Q (F0 m (pc + 1) ls rest)) : W p l e R s m args below meth c H locs cells slots Q (F0 m pc ls (.ref v :: .int (i2 i) :: .ref a :: rest)) := by
  subst hw
  obtain ⟨qk, hq⟩ := List.getElem?_of_mem hm
  refine va_astq (r := (RX8, TX8, 11)) hexec hb hK hP hD hS q0 4 qk 8 ha rfl hq rfl (i2_in hin hn) hdg (fun H1 l1 h1 _ h3 => kk H1 l1 ?_ h3)
  rw [i2_clamp hin hn] at h1
  exact h1
/-- a constructor, over the whole world -/
theorem ywI {Sg : Type} {post : Sg → Prop} {W' : Sg → va_W} (S : CallFix p m c cc nL s args lw_gd own) (hM : Met l y (wz y bytes maxL none) rm (va_Pc (.ref b :: As) (zW D H.size ws)) (va_Qv post (fun u t => zB D (va_A ws H.size) (W' u) t) (va_A ws H.size)) mc ms (va_A ws H.size)) (hcm : Cond.code y bytes maxL none ∈ lw_gd) (hrc : rm.cells = mc) (hrs : rm.slots = ms) (hini : Cond.initialized y.cls ∈ lw_gd) (hli : Cond.methodLink own idx y ∈ lw_gd) (him : Cond.instanceMethod y ∈ lw_gd) (hy1 : y.name = "<init>")
    (hd : y.cls ≠ "java/lang/invoke/MethodHandle" ∧ y.cls ≠ "java/lang/invoke/VarHandle" ∧ (parseMethodDescriptor y.desc).map (fun d => d.parameters.length) = some n) (hR : rm.frames + 1 ≤ R.frames ∧ 8 + (maxL + 11) + rm.locals ≤ R.locals)
    (hK : va_K D vwCl (TY D) s) (hP : va_P D vwCl ws H) (hD : va_D A ws) (hS : va_S A H0 H locs) (hA : ∀ q : Nat, H0.size ≤ q → A q)
    (hn : As.length = n) (hsize : ls.size = nL) (hst : st1 = As.reverse ++ .ref b :: rest) (hW : (rest.map fun v => v.category).sum ≤ 8) (hdg : decode cc pc = .ok (.invokespecial idx, 3)) (hf : cells + mc ≤ R.cells ∧ slots + ms ≤ R.slots)
    (kk : ∀ (u : Sg) (H1 : Heap) (locs : List Loc), post u → va_P D vwCl (W' u) H1 → va_D (va_A ws H.size) (W' u) → va_S A H0 H1 locs → W p l e R s m args below meth c H1 locs (cells + mc) (slots + ms) Q (F0 m (pc + 3) ls rest)) : W p l e R s m args below meth c H locs cells slots Q (F0 m pc ls st1) := by
  have ht := S.2.2.2.2
  have hFc := y_free hD hS hA
  refine va_callv (va_runI (g := F0 m pc ls st1) (b := b) (As := As) (rest := rest) (Pc := va_Pc (.ref b :: As) (zW D H.size ws)) S hM (cwI n ht (zG hcm) rfl hrc hrs (ht _ hini) (ht _ hli) (ht _ him) hy1 hd hR) ⟨zWb _ D _ ws, fun U hU hW => ⟨rfl, by rw [hU], by rw [hU]; exact hP, va_K.moved hW.alike hK, hD.weaken (fun _ _ _ _ => trivial)⟩⟩ rfl hn hsize hst (lv_room hW) hdg hf) hS (fun q _ h => hFc q h) hFc (fun u t H1 locs1 ht hvm hw hB hz1 hk1 hS1 => ?_)
  obtain ⟨hP1, hK1, hD1⟩ := hB
  rw [ht] at hP1
  exact kk u H1 locs1 hw hP1 hD1 hS1
end PR
theorem yG_f {l : Launch} {y : MethodName} {ws : List Cond} {rm : Room} {D : va_G} {sz mc ms : Nat} {av : List Value} {P : va_W} {Sg : Type} {post : Sg → Prop} {W' : Sg → va_W} (T : va_W) (h : Met l y ws rm (va_Pc av (zW D sz P)) (va_Qv post (fun u t => zB D (va_A P sz) (W' u) t) (va_A P sz)) mc ms (va_A P sz)) : Met l y ws rm (va_Pc av (zW D sz (P ++ T))) (va_Qv post (fun u t => zB D (va_A (P ++ T) sz) (W' u ++ T) t) (va_A (P ++ T) sz)) mc ms (va_A (P ++ T) sz) := by
  refine Met_imp h (fun a s hp => ⟨hp.1, zW_l hp.2⟩) (fun a st o t hp hq => ?_) (va_A_up (fun x hx => List.mem_append_left _ hx))
  obtain ⟨-, hz⟩ := hp
  obtain ⟨⟨u, h1, h2, h3⟩, hF⟩ := hq
  obtain rfl := hz.1
  obtain ⟨g1, g2⟩ := y_beside hz h3 hF
  exact ⟨⟨u, h1, h2, g1⟩, g2⟩
theorem SB_obj {D : va_G} {a : Nat → Nat} {s : MS} : ∃ vs, (a 62, .inr (8, vs)) ∈ SB D a s := ⟨_, List.mem_cons_self⟩
theorem PLs_obj {D : va_G} {ps : List ((Nat → Nat) × MS)} {i : Nat} {q : (Nat → Nat) × MS} (h : ps[i]? = some q) : ∃ vs, (q.1 62, .inr (8, vs)) ∈ PLs D ps := by
  obtain ⟨vs, hv⟩ := SB_obj (D := D) (a := q.1) (s := q.2)
  exact ⟨vs, List.mem_flatMap.mpr ⟨q, List.mem_of_getElem? h, hv⟩⟩
set_option maxRecDepth 100000 in
theorem XW_82 {D : va_G} {a : Nat → Nat} {c1 c2 c3 c4 : Value} {s : MS} {p : Nat} {f : Nat → Option Nat} {L : va_W} : (CW D a c1 c2 c3 c4 s ++ (PC D p f :: L))[82]? = some (p, .inl (D.1 17, 20, .inr (.inr (.inr (.inr f))))) := rfl
set_option maxRecDepth 100000 in
theorem XW_w82 {D : va_G} {a : Nat → Nat} {c1 c2 c3 c4 : Value} {s : MS} {p : Nat} {f g : Nat → Option Nat} {L : va_W} : (CW D a c1 c2 c3 c4 s ++ (PC D p f :: L)).set 82 (p, .inl (D.1 17, 20, .inr (.inr (.inr (.inr g))))) = CW D a c1 c2 c3 c4 s ++ (PC D p g :: L) := rfl
theorem XW_62 {D : va_G} {a : Nat → Nat} {c1 c2 c3 c4 : Value} {s : MS} {T : va_W} : ∃ vs, (a 62, .inr (8, vs)) ∈ CW D a c1 c2 c3 c4 s ++ T := ⟨_, List.mem_of_getElem? (ap_g CW_62)⟩
/-- the State ahead of the ACT changes places with one of the pool -/
theorem pm_B {D : va_G} {a : Nat → Nat} {c1 c2 c3 c4 : Value} {s : MS} {q : (Nat → Nat) × MS} {p1 p2 : List ((Nat → Nat) × MS)} {X : Nat × va_E} : (CW D (setP a q.1) c1 c2 c3 c4 (setB s q.2) ++ (X :: PLs D (p1 ++ (a, s) :: p2))).Perm (CW D a c1 c2 c3 c4 s ++ (X :: PLs D (p1 ++ q :: p2))) := by
  have e1 : PLs D (p1 ++ (a, s) :: p2) = PLs D p1 ++ (SB D a s ++ PLs D p2) := by
    rw [show p1 ++ (a, s) :: p2 = p1 ++ ([(a, s)] ++ p2) from rfl, PLs_app, PLs_app, PLs_one]
  have e2 : PLs D (p1 ++ q :: p2) = PLs D p1 ++ (SB D q.1 q.2 ++ PLs D p2) := by
    rw [show p1 ++ q :: p2 = p1 ++ ([(q.1, q.2)] ++ p2) from rfl, PLs_app, PLs_app, PLs_one]
  rw [e1, e2, CW_split, CW_split, CWl_set, SB_set, CWr_set]
  have h := pm_swap (CWl D a c1 c2 c3 c4 s) (SB D q.1 q.2) (CWr D a c1 c2 c3 c4 s ++ (X :: PLs D p1)) (SB D a s) (PLs D p2)
  simpa only [List.append_assoc, List.cons_append] using h
theorem pm_A {D : va_G} {a b : Nat → Nat} {c1 c2 c3 c4 : Value} {s t : MS} {ps : List ((Nat → Nat) × MS)} {X : Nat × va_E} : (CW D (setP a b) c1 c2 c3 c4 (setB s t) ++ (X :: PLs D (ps ++ [(a, s)]))).Perm (SB D b t ++ (CW D a c1 c2 c3 c4 s ++ (X :: PLs D ps))) := by
  rw [PLs_app, PLs_one, CW_split, CW_split, CWl_set, SB_set, CWr_set]
  have h1 : (SB D b t ++ (CWl D a c1 c2 c3 c4 s ++ (SB D a s ++ (CWr D a c1 c2 c3 c4 s ++ (X :: PLs D ps))))).Perm (CWl D a c1 c2 c3 c4 s ++ (SB D b t ++ (SB D a s ++ (CWr D a c1 c2 c3 c4 s ++ (X :: PLs D ps))))) := List.perm_append_comm_assoc _ _ _
  have h2 : (CWl D a c1 c2 c3 c4 s ++ (SB D b t ++ (SB D a s ++ (CWr D a c1 c2 c3 c4 s ++ (X :: PLs D ps))))).Perm (CWl D a c1 c2 c3 c4 s ++ (SB D b t ++ ((CWr D a c1 c2 c3 c4 s ++ (X :: PLs D ps)) ++ SB D a s))) := List.Perm.append_left _ (List.Perm.append_left _ List.perm_append_comm)
  have h := (h1.trans h2).symm
  simpa only [List.append_assoc, List.cons_append] using h
theorem pm_C {D : va_G} {a : Nat → Nat} {c1 c2 c3 c4 : Value} {s : MS} {q : (Nat → Nat) × MS} {r : List ((Nat → Nat) × MS)} {X : Nat × va_E} : (CW D (setP a q.1) c1 c2 c3 c4 (setB s q.2) ++ (X :: PLs D (r ++ [(a, s)]))).Perm (CW D a c1 c2 c3 c4 s ++ (X :: PLs D (q :: r))) := by
  have h := pm_B (D := D) (a := a) (c1 := c1) (c2 := c2) (c3 := c3) (c4 := c4) (s := s) (q := q) (p1 := []) (p2 := r) (X := X)
  refine List.Perm.trans (List.Perm.append_left _ (List.Perm.cons X ?_)) h
  show (PLs D (r ++ [(a, s)])).Perm (PLs D ([(a, s)] ++ r))
  rw [PLs_app, PLs_app]
  exact List.perm_append_comm
theorem pf_cut {q x : (Nat → Nat) × MS} {r : List ((Nat → Nat) × MS)} {f : Nat → Option Nat} (h : (q :: r).length = 20) (hf : ∀ j, f j = if j + 1 < 20 then pf (q :: r) (j + 1) else pf (q :: r) j) : va_up f 19 (some (x.1 62)) = pf (r ++ [x]) := by
  have hr : r.length = 19 := by simpa using h
  funext k
  by_cases e : k = 19
  · subst e
    rw [va_up_self]
    unfold pf
    rw [List.getElem?_append_right (by omega), hr]
    rfl
  · rw [va_up_ne _ _ e, hf]
    by_cases hk : k + 1 < 20
    · rw [if_pos hk]
      unfold pf
      rw [List.getElem?_append_left (by omega)]
      rfl
    · rw [if_neg hk]
      unfold pf
      rw [List.getElem?_eq_none (by simp; omega), List.getElem?_eq_none (by simp; omega)]
set_option maxHeartbeats 4000000 in
set_option maxRecDepth 100000 in
theorem k_remember (l : Launch) (D : va_G) (a : Nat → Nat) (sz : Nat) (s : MS) (ps : List ((Nat → Nat) × MS)) (o : MS × List MS) (h : m_remember s (ps.map Prod.snd) = some o) : Met l yX2_remember (wz yX2_remember cX2_remember 4 (some (.object "CloneVolumes$State"))) { frames := 2, cells := 9, slots := 795, locals := 120 } (va_Pc [.ref (a 7), .ref (a 62)] (yW D sz (XW D a s ps))) (va_Qr (fun (u : (Nat → Nat) × List ((Nat → Nat) × MS)) => (∀ k, (k < 62 ∨ 70 < k) → u.1 k = a k) ∧ u.2.map Prod.snd = o.2) (fun u ra t => ra = u.1 62 ∧ zB D (va_A (XW D a s ps) sz) (CW D u.1 (.ref (a 29)) (.ref (a 29)) (.ref (a 39)) (.ref (a 62)) o.1 ++ PT D (a 90) u.2) t) (va_A (XW D a s ps) sz)) 9 795 (va_A (XW D a s ps) sz) := by
  refine Met.ofW (cc := cX2_remember) (maxL := 4) (ret := (some (.object "CloneVolumes$State"))) (by decide) rfl ?_
  intro p e s₀ m args below meth c s₁ B hml hv
  obtain ⟨rfl, ⟨hsz, hP, hK, hD0⟩, hN⟩ := hv
  have hx := B.exec
  have hb := B.bytes
  have hr := B.returns
  have hts := atoms_spec (ws := wz yX2_remember cX2_remember 4 (some (.object "CloneVolumes$State"))) B.pre
  have ht : ∀ w ∈ lw_gd, w.before _ s₀ = true := fun w h => hts w (List.mem_cons_of_mem _ h)
  have hown : s₀.vm.findClass RX2 = some m.cls := findClass_of_methodNamed B.named
  have hlocks := B.notSynchronized
  subst hsz
  have hD := hD0.self (sz := s₀.heap.size)
  generalize hAe : va_A (XW D a s ps) s₀.heap.size = A at hD ⊢
  have hA : ∀ q : Nat, s₀.heap.size ≤ q → A q := fun q h => by rw [← hAe]; exact Or.inr h
  have hS : va_S A s₀.heap s₀.heap [] := va_S.rf
  have hl := lv_entry ([.ref (a 7), .ref (a 62)]) (n := 4) (Nat.le_of_ble_eq_true rfl)
  rw [lg_entry_eq]
  generalize (lg_sl ([.ref (a 7), .ref (a 62)]) ++ List.replicate (4 - (lg_sl ([.ref (a 7), .ref (a 62)])).length) Slot.unset).toArray = ls at hl ⊢
  have hDD : ∀ (t : MS) (f : Nat → Option Nat), va_D A (CS D a t ++ (PC D (a 90) f :: PLs D ps)) := fun t f => va_D_same hD rfl
  have hl : lv_has ls 4 [(0, .ref (a 7)), (1, .ref (a 62))] := hl
  have hP : va_P D vwCl (CS D a s ++ (PC D (a 90) (pf ps) :: PLs D ps)) s₀.heap := hP
  unfold m_remember at h
  obtain ⟨hr0, h⟩ := rg_e h
  refine lv_aload_n hx hb dX2_remember_0 rfl (lv_at hl 0 rfl) ?_
  refine va_get (D := D) (ci := 2) (v := .int (i2 (gI s 145))) (C := RX2) (T := TX2) (N := 6) hx hb ht inX2 hown hK hP 7 (ap_g CW_7) rfl 5 (by decide) (ht (.fieldLink RX2 31 "CloneVolumes$History" "depth" "I") fl_X2_31) (fun _ h9 => h9) rfl dX2_remember_1 ?_
  refine lv_bipush (v := 20) hx hb dX2_remember_4 (by decide) ?_
  refine lv_icmp_ne (tgt := 68) hx hb dX2_remember_6 (by decide) (fun c1 => ?_) (fun c1 => ?_)
  · have h := if_f (mt (i2_eq (y := 20) hr0 (by decide)).mpr c1) h
    obtain ⟨hi, h⟩ := inb_e h
    obtain ⟨s1, hs1, h⟩ := st_e h
    refine lv_aload_n hx hb dX2_remember_68 rfl (lv_at hl 0 rfl) ?_
    refine va_get (D := D) (ci := 2) (v := .ref (a 90)) (C := RX2) (T := TX2) (N := 6) hx hb ht inX2 hown hK hP 7 (ap_g CW_7) rfl 4 (by decide) (ht (.fieldLink RX2 23 "CloneVolumes$History" "past" "[LCloneVolumes$State;") fl_X2_23) (fun _ h9 => h9) rfl dX2_remember_69 ?_
    refine lv_aload_n hx hb dX2_remember_72 rfl (lv_at hl 0 rfl) ?_
    refine va_get (D := D) (ci := 2) (v := .int (i2 (gI s 145))) (C := RX2) (T := TX2) (N := 6) hx hb ht inX2 hown hK hP 7 (ap_g CW_7) rfl 5 (by decide) (ht (.fieldLink RX2 31 "CloneVolumes$History" "depth" "I") fl_X2_31) (fun _ h9 => h9) rfl dX2_remember_73 ?_
    obtain ⟨i, hcl⟩ : ∃ i : Nat, (gI s 145).toNat = i := ⟨_, rfl⟩
    rw [hcl] at h
    have hlen : (ps.map Prod.snd).length = ps.length := List.length_map _
    rw [hlen] at h
    by_cases hc : i < ps.length
    · have h := if_t hc h
      obtain ⟨q, hq⟩ : ∃ q, ps[i]? = some q := ⟨ps[i], List.getElem?_eq_getElem hc⟩
      have hv : pf ps (gI s 145).toNat = some (q.1 62) := by rw [hcl]; exact pf_some hq
      refine ya_ald hx hb hK hP 82 XW_82 hv hi (by decide) dX2_remember_76 ?_
      refine lv_astore_n (lv' := [(2, .ref (q.1 62)), (0, .ref (a 7)), (1, .ref (a 62))]) hx hb dX2_remember_77 rfl hl (by decide) rfl (fun ls hl => ?_)
      refine lv_aload_n hx hb dX2_remember_78 rfl (lv_at hl 1 rfl) ?_
      refine va_get (D := D) (ci := 2) (v := .ref (a 90)) (C := RX2) (T := TX2) (N := 6) hx hb ht inX2 hown hK hP 7 (ap_g CW_7) rfl 4 (by decide) (ht (.fieldLink RX2 23 "CloneVolumes$History" "past" "[LCloneVolumes$State;") fl_X2_23) (fun _ h9 => h9) rfl dX2_remember_79 ?_
      refine lv_aload_n hx hb dX2_remember_82 rfl (lv_at hl 1 rfl) ?_
      refine va_get (D := D) (ci := 2) (v := .int (i2 (gI s 145))) (C := RX2) (T := TX2) (N := 6) hx hb ht inX2 hown hK hP 7 (ap_g CW_7) rfl 5 (by decide) (ht (.fieldLink RX2 31 "CloneVolumes$History" "depth" "I") fl_X2_31) (fun _ h9 => h9) rfl dX2_remember_83 ?_
      refine lv_aload_n hx hb dX2_remember_86 rfl (lv_at hl 2 rfl) ?_
      obtain ⟨vs, hm⟩ := XW_62 (D := D) (a := a) (c1 := .ref (a 29)) (c2 := .ref (a 29)) (c3 := .ref (a 39)) (c4 := .ref (a 62)) (s := s) (T := PC D (a 90) (pf ps) :: PLs D ps)
      refine ya_ast hx hb hK hP (hDD _ _) hS 82 XW_82 hm hi (by decide) dX2_remember_87 XW_w82 (fun H locs hP hS => ?_)
      refine lv_aload_n hx hb dX2_remember_88 rfl (lv_at hl 1 rfl) ?_
      refine lv_dup hx hb dX2_remember_89 rfl ?_
      refine va_get (D := D) (ci := 2) (v := .int (i2 (gI s 145))) (C := RX2) (T := TX2) (N := 6) hx hb ht inX2 hown hK hP 7 (ap_g CW_7) rfl 5 (by decide) (ht (.fieldLink RX2 31 "CloneVolumes$History" "depth" "I") fl_X2_31) (fun _ h9 => h9) rfl dX2_remember_90 ?_
      refine lv_iconst (v := 1) hx hb dX2_remember_93 (by decide) ?_
      refine lv_iadd hx hb dX2_remember_94 ?_
      refine z_topi (y := i2 (gI s 145 + 1)) (i2_add (gI s 145) 1) ?_
      refine ya_put (D := D) (ci := 2) (v := .int (i2 (gI s 145 + 1))) (ty := .int) (C := RX2) (T := TX2) (N := 6) hx hb ht inX2 tyX2 tyX2_ok nmX2 hown hK hP (hDD _ _) hS 7 (ap_g CW_7) rfl 5 (by decide) (ht (.fieldLink RX2 31 "CloneVolumes$History" "depth" "I") fl_X2_31) (fun _ h9 => h9) rfl (by decide +kernel) rfl rfl (Nat.le_of_ble_eq_true rfl) dX2_remember_95 (ap_s CW_7 (CW_w7_5 (gI s 145 + 1))) (fun H locs hP hS => ?_)
      rw [hs1, hcl] at hP
      refine lv_aload_n hx hb dX2_remember_98 rfl (lv_at hl 0 rfl) ?_
      refine lv_ifnonnull (tgt := 112) hx hb dX2_remember_99 (by decide) ?_
      refine lv_aload_n hx hb dX2_remember_112 rfl (lv_at hl 0 rfl) ?_
      obtain rfl := Option.some.inj h
      have hsp : ps = ps.take i ++ q :: ps.drop (i + 1) := by
        obtain ⟨hb1, hb2⟩ := List.getElem?_eq_some_iff.mp hq
        rw [← hb2, List.getElem_cons_drop, List.take_append_drop]
      have hset : ps.set i (a, s1) = ps.take i ++ (a, s1) :: ps.drop (i + 1) := List.set_eq_take_append_cons_drop.trans (by rw [if_pos hc])
      have hpm := pm_B (D := D) (a := a) (c1 := .ref (a 29)) (c2 := .ref (a 29)) (c3 := .ref (a 39)) (c4 := .ref (a 62)) (s := s1) (q := q) (p1 := ps.take i) (p2 := ps.drop (i + 1)) (X := PC D (a 90) (pf (ps.set i (a, s1))))
      rw [← hsp, ← hset] at hpm
      rw [pf_up (q := (a, s1)) hc] at hP
      have hq2 : (ps.map Prod.snd).getD i s = q.2 := by rw [List.getD_eq_getElem?_getD, List.getElem?_map, hq]; rfl
      have hP9 := va_P_mem hP (fun y hy => hpm.mem_iff.mp hy)
      have hD9 := va_D_perm (hDD s1 (pf (ps.set i (a, s1)))) hpm
      refine W.widen (k := 9) (n := 795) (Nat.le_of_ble_eq_true rfl) (Nat.le_of_ble_eq_true rfl) ?_
      exact W.aret (v := .ref (q.1 62)) hx hb hr (Or.inl ⟨_, rfl⟩) (Or.inr ⟨_, rfl⟩) (fun t ht hW => ⟨⟨(setP a q.1, ps.set i (a, s1)), q.1 62, rfl, ⟨fun k hk => setP_out hk, by rw [List.map_set]⟩, rfl, by rw [ht, hq2]; exact hP9, va_K.moved hW.alike hK, by rw [hq2]; exact hD9⟩, hS.F ht⟩) hS.2.2 dX2_remember_113
    · have h := if_f hc h
      by_cases hc2 : i = ps.length
      case neg => have h := if_f hc2 h; cases h
      have h := if_t hc2 h
      have hv : pf ps (gI s 145).toNat = none := by rw [hcl]; exact pf_none (by omega)
      refine ya_ald hx hb hK hP 82 XW_82 hv hi (by decide) dX2_remember_76 ?_
      refine lv_astore_nN (lv' := [(2, .null), (0, .ref (a 7)), (1, .ref (a 62))]) hx hb dX2_remember_77 rfl hl (by decide) rfl (fun ls hl => ?_)
      refine lv_aload_n hx hb dX2_remember_78 rfl (lv_at hl 1 rfl) ?_
      refine va_get (D := D) (ci := 2) (v := .ref (a 90)) (C := RX2) (T := TX2) (N := 6) hx hb ht inX2 hown hK hP 7 (ap_g CW_7) rfl 4 (by decide) (ht (.fieldLink RX2 23 "CloneVolumes$History" "past" "[LCloneVolumes$State;") fl_X2_23) (fun _ h9 => h9) rfl dX2_remember_79 ?_
      refine lv_aload_n hx hb dX2_remember_82 rfl (lv_at hl 1 rfl) ?_
      refine va_get (D := D) (ci := 2) (v := .int (i2 (gI s 145))) (C := RX2) (T := TX2) (N := 6) hx hb ht inX2 hown hK hP 7 (ap_g CW_7) rfl 5 (by decide) (ht (.fieldLink RX2 31 "CloneVolumes$History" "depth" "I") fl_X2_31) (fun _ h9 => h9) rfl dX2_remember_83 ?_
      refine lv_aload_n hx hb dX2_remember_86 rfl (lv_at hl 2 rfl) ?_
      obtain ⟨vs, hm⟩ := XW_62 (D := D) (a := a) (c1 := .ref (a 29)) (c2 := .ref (a 29)) (c3 := .ref (a 39)) (c4 := .ref (a 62)) (s := s) (T := PC D (a 90) (pf ps) :: PLs D ps)
      refine ya_ast hx hb hK hP (hDD _ _) hS 82 XW_82 hm hi (by decide) dX2_remember_87 XW_w82 (fun H locs hP hS => ?_)
      refine lv_aload_n hx hb dX2_remember_88 rfl (lv_at hl 1 rfl) ?_
      refine lv_dup hx hb dX2_remember_89 rfl ?_
      refine va_get (D := D) (ci := 2) (v := .int (i2 (gI s 145))) (C := RX2) (T := TX2) (N := 6) hx hb ht inX2 hown hK hP 7 (ap_g CW_7) rfl 5 (by decide) (ht (.fieldLink RX2 31 "CloneVolumes$History" "depth" "I") fl_X2_31) (fun _ h9 => h9) rfl dX2_remember_90 ?_
      refine lv_iconst (v := 1) hx hb dX2_remember_93 (by decide) ?_
      refine lv_iadd hx hb dX2_remember_94 ?_
      refine z_topi (y := i2 (gI s 145 + 1)) (i2_add (gI s 145) 1) ?_
      refine ya_put (D := D) (ci := 2) (v := .int (i2 (gI s 145 + 1))) (ty := .int) (C := RX2) (T := TX2) (N := 6) hx hb ht inX2 tyX2 tyX2_ok nmX2 hown hK hP (hDD _ _) hS 7 (ap_g CW_7) rfl 5 (by decide) (ht (.fieldLink RX2 31 "CloneVolumes$History" "depth" "I") fl_X2_31) (fun _ h9 => h9) rfl (by decide +kernel) rfl rfl (Nat.le_of_ble_eq_true rfl) dX2_remember_95 (ap_s CW_7 (CW_w7_5 (gI s 145 + 1))) (fun H locs hP hS => ?_)
      rw [hs1, hcl] at hP
      refine lv_aload_nN hx hb dX2_remember_98 rfl (lv_at hl 0 rfl) ?_
      refine lv_ifnonnullN hx hb dX2_remember_99 ?_
      rw [hc2, pf_push (q := (a, s1))] at hP
      refine va_new (ci := 8) (fs := [.int 0, .int 0, .long 0, .null, .null, .null, .null, .null, .null, .null, .null]) (C := RX8) (T := TX8) (N := 11) hx hb ht inX8 tyX8 tyX8_ok hown (ht _ cx_X2_21) (ht _ ia_X8) (ht _ in_X8) hK hP (hDD _ _) hS hA rfl (by decide +kernel) (Nat.le_of_ble_eq_true rfl) (Nat.le_of_ble_eq_true rfl) dX2_remember_102 (fun q H hP hD hS => ?_)
      refine lv_dup hx hb dX2_remember_105 rfl ?_
      have hpm0 : (([(q, .inr (8, [.int 0, .int 0, .long 0, .null, .null, .null, .null, .null, .null, .null, .null]))] : va_W) ++ (CS D a s1 ++ (PC D (a 90) (pf (ps ++ [(a, s1)])) :: PLs D ps))).Perm ((CS D a s1 ++ (PC D (a 90) (pf (ps ++ [(a, s1)])) :: PLs D ps)) ++ ([(q, .inr (8, [.int 0, .int 0, .long 0, .null, .null, .null, .null, .null, .null, .null, .null]))] : va_W)) := List.perm_append_comm
      have hP : va_P D vwCl (([(q, .inr (8, [.int 0, .int 0, .long 0, .null, .null, .null, .null, .null, .null, .null, .null]))] : va_W) ++ (CS D a s1 ++ (PC D (a 90) (pf (ps ++ [(a, s1)])) :: PLs D ps))) H := va_P_mem hP (fun y hy => hpm0.mem_iff.mp hy)
      have hD : va_D A (([(q, .inr (8, [.int 0, .int 0, .long 0, .null, .null, .null, .null, .null, .null, .null, .null]))] : va_W) ++ (CS D a s1 ++ (PC D (a 90) (pf (ps ++ [(a, s1)])) :: PLs D ps))) := va_D_perm hD hpm0
      refine ywI (As := []) (rest := [.ref q]) (n := 0) ⟨hx, hb, hml, hown, ht⟩ (yG_f (CS D a s1 ++ (PC D (a 90) (pf (ps ++ [(a, s1)])) :: PLs D ps)) (k_X8_init l D H.size q)) co_X8_init rfl rfl in_X8 ml_X2_50 im_X8_init rfl (by decide +kernel) ⟨Nat.le_of_ble_eq_true rfl, Nat.le_of_ble_eq_true rfl⟩ hK hP hD hS hA rfl hl.1 rfl (Nat.le_of_ble_eq_true rfl) dX2_remember_106 ⟨Nat.le_of_ble_eq_true rfl, Nat.le_of_ble_eq_true rfl⟩ (fun u H1 locs hw hP hD1 hS => ?_)
      have hD : va_D A _ := hD1.weaken (fun _ _ _ h => y_free hD ‹va_S A s₀.heap H _› hA _ h)
      obtain ⟨u1, u2, u3, u4, u5, u6, u7, u8⟩ := u
      refine lv_goto (tgt := 113) hx hb dX2_remember_109 (by decide) ?_
      obtain ⟨bb, hbb⟩ : ∃ bb : Nat → Nat, bb = fun k => if k = 62 then q else if k = 63 then u3 else if k = 64 then u4 else if k = 65 then u5 else if k = 66 then u6 else if k = 67 then u1 else if k = 68 then u2 else if k = 69 then u7 else u8 := ⟨_, rfl⟩
      have hP : va_P D vwCl (([(u1, .inl (D.1 13, 288, .inl (fun _ => 0))), (u2, .inl (D.1 13, 288, .inl (fun _ => 0)))] : va_W) ++ (([(q, .inr (8, [.int 0, .int 0, .long 0, .ref u3, .ref u4, .ref u5, .ref u6, .ref u1, .ref u2, .ref u7, .ref u8])), (u3, .inl (D.1 13, 48, .inl (fun _ => 0))), (u4, .inl (D.1 13, 48, .inl (fun _ => 0))), (u5, .inl (D.1 13, 48, .inl (fun _ => 0))), (u6, .inl (D.1 13, 48, .inl (fun _ => 0)))] : va_W) ++ (([(u7, .inl (D.1 13, 8, .inl (fun _ => (-2)))), (u8, .inl (D.1 13, 8, .inl (fun _ => (-2))))] : va_W) ++ (CS D a s1 ++ (PC D (a 90) (pf (ps ++ [(a, s1)])) :: PLs D ps))))) H1 := hP
      have hD : va_D A (([(u1, .inl (D.1 13, 288, .inl (fun _ => 0))), (u2, .inl (D.1 13, 288, .inl (fun _ => 0)))] : va_W) ++ (([(q, .inr (8, [.int 0, .int 0, .long 0, .ref u3, .ref u4, .ref u5, .ref u6, .ref u1, .ref u2, .ref u7, .ref u8])), (u3, .inl (D.1 13, 48, .inl (fun _ => 0))), (u4, .inl (D.1 13, 48, .inl (fun _ => 0))), (u5, .inl (D.1 13, 48, .inl (fun _ => 0))), (u6, .inl (D.1 13, 48, .inl (fun _ => 0)))] : va_W) ++ (([(u7, .inl (D.1 13, 8, .inl (fun _ => (-2)))), (u8, .inl (D.1 13, 8, .inl (fun _ => (-2))))] : va_W) ++ (CS D a s1 ++ (PC D (a 90) (pf (ps ++ [(a, s1)])) :: PLs D ps))))) := hD
      have esb : SB D bb st0 ++ (CS D a s1 ++ (PC D (a 90) (pf (ps ++ [(a, s1)])) :: PLs D ps)) = ([(q, .inr (8, [.int 0, .int 0, .long 0, .ref u3, .ref u4, .ref u5, .ref u6, .ref u1, .ref u2, .ref u7, .ref u8])), (u3, .inl (D.1 13, 48, .inl (fun _ => 0))), (u4, .inl (D.1 13, 48, .inl (fun _ => 0))), (u5, .inl (D.1 13, 48, .inl (fun _ => 0))), (u6, .inl (D.1 13, 48, .inl (fun _ => 0)))] : va_W) ++ (([(u1, .inl (D.1 13, 288, .inl (fun _ => 0))), (u2, .inl (D.1 13, 288, .inl (fun _ => 0)))] : va_W) ++ (([(u7, .inl (D.1 13, 8, .inl (fun _ => (-2)))), (u8, .inl (D.1 13, 8, .inl (fun _ => (-2))))] : va_W) ++ (CS D a s1 ++ (PC D (a 90) (pf (ps ++ [(a, s1)])) :: PLs D ps)))) := by rw [hbb]; rfl
      have hpm1 : (SB D bb st0 ++ (CS D a s1 ++ (PC D (a 90) (pf (ps ++ [(a, s1)])) :: PLs D ps))).Perm (([(u1, .inl (D.1 13, 288, .inl (fun _ => 0))), (u2, .inl (D.1 13, 288, .inl (fun _ => 0)))] : va_W) ++ (([(q, .inr (8, [.int 0, .int 0, .long 0, .ref u3, .ref u4, .ref u5, .ref u6, .ref u1, .ref u2, .ref u7, .ref u8])), (u3, .inl (D.1 13, 48, .inl (fun _ => 0))), (u4, .inl (D.1 13, 48, .inl (fun _ => 0))), (u5, .inl (D.1 13, 48, .inl (fun _ => 0))), (u6, .inl (D.1 13, 48, .inl (fun _ => 0)))] : va_W) ++ (([(u7, .inl (D.1 13, 8, .inl (fun _ => (-2)))), (u8, .inl (D.1 13, 8, .inl (fun _ => (-2))))] : va_W) ++ (CS D a s1 ++ (PC D (a 90) (pf (ps ++ [(a, s1)])) :: PLs D ps))))) := by rw [esb]; exact List.perm_append_comm_assoc _ _ _
      have hpm2 := (pm_A (D := D) (a := a) (b := bb) (c1 := .ref (a 29)) (c2 := .ref (a 29)) (c3 := .ref (a 39)) (c4 := .ref (a 62)) (s := s1) (t := st0) (ps := ps) (X := PC D (a 90) (pf (ps ++ [(a, s1)])))).trans hpm1
      have hP9 := va_P_mem hP (fun y hy => hpm2.mem_iff.mp hy)
      have hD9 := va_D_perm hD hpm2
      obtain rfl := Option.some.inj h
      have hq62 : q = setP a bb 62 := by rw [hbb]; rfl
      exact W.aret (v := .ref q) hx hb hr (Or.inl ⟨_, rfl⟩) (Or.inr ⟨_, rfl⟩) (fun t ht hW => ⟨⟨(setP a bb, ps ++ [(a, s1)]), q, rfl, ⟨fun k hk => setP_out hk, by simp⟩, hq62, by rw [ht]; exact hP9, va_K.moved hW.alike hK, hD9⟩, hS.F ht⟩) hS.2.2 dX2_remember_113
  · have h := if_t ((i2_eq (y := 20) hr0 (by decide)).mp c1) h
    have hlen : (ps.map Prod.snd).length = ps.length := List.length_map _
    by_cases hc : (ps.map Prod.snd).length = 20
    case neg => have h := if_f hc h; cases h
    have h := if_t hc h
    rw [hlen] at hc
    obtain ⟨q, r, rfl⟩ : ∃ q r, ps = q :: r := by
      cases ps with
      | nil => cases hc
      | cons q r => exact ⟨q, r, rfl⟩
    refine lv_aload_n hx hb dX2_remember_9 rfl (lv_at hl 0 rfl) ?_
    refine va_get (D := D) (ci := 2) (v := .ref (a 90)) (C := RX2) (T := TX2) (N := 6) hx hb ht inX2 hown hK hP 7 (ap_g CW_7) rfl 4 (by decide) (ht (.fieldLink RX2 23 "CloneVolumes$History" "past" "[LCloneVolumes$State;") fl_X2_23) (fun _ h9 => h9) rfl dX2_remember_10 ?_
    refine lv_iconst (v := 0) hx hb dX2_remember_13 (by decide) ?_
    refine ya_ald hx hb hK hP 82 XW_82 (i := 0) (v := some (q.1 62)) rfl (by decide) (by decide) dX2_remember_14 ?_
    refine lv_astore_n (lv' := [(2, .ref (q.1 62)), (0, .ref (a 7)), (1, .ref (a 62))]) hx hb dX2_remember_15 rfl hl (by decide) rfl (fun ls hl => ?_)
    refine lv_iconst (v := 1) hx hb dX2_remember_16 (by decide) ?_
    refine lv_istore_n (lv' := [(3, .int 1), (2, .ref (q.1 62)), (0, .ref (a 7)), (1, .ref (a 62))]) hx hb dX2_remember_17 rfl hl (by decide) rfl (fun ls hl => ?_)
    refine z_loop (σ := Nat → Option Nat) (N := 20) (fun i u H locs ls => 1 ≤ i ∧ (∀ j, u j = if j + 1 < i then pf (q :: r) (j + 1) else pf (q :: r) j) ∧ va_P D vwCl (CS D a s ++ (PC D (a 90) u :: PLs D (q :: r))) H ∧ va_S A s₀.heap H locs ∧ lv_has ls 4 [(3, .int (nI i)), (2, .ref (q.1 62)), (0, .ref (a 7)), (1, .ref (a 62))]) (fun i f H locs ls hi hI ih => ?_) 1 (pf (q :: r)) (by decide) ⟨Nat.le_refl _, fun j => by rw [if_neg (by omega)], hP, hS, hl⟩
    obtain ⟨hi1, hf, hP, hS, hl⟩ := hI
    refine lv_iload_n hx hb dX2_remember_18 rfl (lv_at hl 0 rfl) ?_
    refine lv_bipush (v := 20) hx hb dX2_remember_19 (by decide) ?_
    refine lv_icmp_ge (tgt := 44) hx hb dX2_remember_21 (by decide) (fun c2 => ?_) (fun c2 => ?_)
    · have g2 : (20 : Int) ≤ ((i : Nat) : Int) := z_le (by decide) (nI_toInt (by omega)) c2
      obtain rfl : i = 20 := by omega
      refine lv_aload_n hx hb dX2_remember_44 rfl (lv_at hl 2 rfl) ?_
      refine va_get (D := D) (ci := 2) (v := .ref (a 90)) (C := RX2) (T := TX2) (N := 6) hx hb ht inX2 hown hK hP 7 (ap_g CW_7) rfl 4 (by decide) (ht (.fieldLink RX2 23 "CloneVolumes$History" "past" "[LCloneVolumes$State;") fl_X2_23) (fun _ h9 => h9) rfl dX2_remember_45 ?_
      refine lv_bipush (v := 19) hx hb dX2_remember_48 (by decide) ?_
      refine lv_aload_n hx hb dX2_remember_50 rfl (lv_at hl 3 rfl) ?_
      obtain ⟨vs, hm⟩ := XW_62 (D := D) (a := a) (c1 := .ref (a 29)) (c2 := .ref (a 29)) (c3 := .ref (a 39)) (c4 := .ref (a 62)) (s := s) (T := PC D (a 90) f :: PLs D (q :: r))
      refine ya_ast hx hb hK hP (hDD _ _) hS 82 XW_82 hm (i := 19) (by decide) (by decide) dX2_remember_51 XW_w82 (fun H locs hP hS => ?_)
      refine lv_aload_n hx hb dX2_remember_52 rfl (lv_at hl 1 rfl) ?_
      refine lv_ifnonnull (tgt := 66) hx hb dX2_remember_53 (by decide) ?_
      refine lv_aload_n hx hb dX2_remember_66 rfl (lv_at hl 1 rfl) ?_
      obtain rfl := Option.some.inj h
      rw [show (19 : Int).toNat = 19 from rfl, pf_cut (x := (a, s)) hc hf] at hP
      have hpm := pm_C (D := D) (a := a) (c1 := .ref (a 29)) (c2 := .ref (a 29)) (c3 := .ref (a 39)) (c4 := .ref (a 62)) (s := s) (q := q) (r := r) (X := PC D (a 90) (pf (r ++ [(a, s)])))
      have hP9 := va_P_mem hP (fun y hy => hpm.mem_iff.mp hy)
      have hD9 := va_D_perm (hDD s (pf (r ++ [(a, s)]))) hpm
      refine W.widen (k := 9) (n := 795) (Nat.le_of_ble_eq_true rfl) (Nat.le_of_ble_eq_true rfl) ?_
      exact W.aret (v := .ref (q.1 62)) hx hb hr (Or.inl ⟨_, rfl⟩) (Or.inr ⟨_, rfl⟩) (fun t ht hW => ⟨⟨(setP a q.1, r ++ [(a, s)]), q.1 62, rfl, ⟨fun k hk => setP_out hk, by simp⟩, rfl, by rw [ht]; exact hP9, va_K.moved hW.alike hK, hD9⟩, hS.F ht⟩) hS.2.2 dX2_remember_67
    · have g2 : ((i : Nat) : Int) < 20 := z_nle (by decide) (nI_toInt (by omega)) c2
      refine lv_aload_n hx hb dX2_remember_24 rfl (lv_at hl 2 rfl) ?_
      refine va_get (D := D) (ci := 2) (v := .ref (a 90)) (C := RX2) (T := TX2) (N := 6) hx hb ht inX2 hown hK hP 7 (ap_g CW_7) rfl 4 (by decide) (ht (.fieldLink RX2 23 "CloneVolumes$History" "past" "[LCloneVolumes$State;") fl_X2_23) (fun _ h9 => h9) rfl dX2_remember_25 ?_
      refine lv_iload_n hx hb dX2_remember_28 rfl (lv_at hl 0 rfl) ?_
      refine lv_iconst (v := 1) hx hb dX2_remember_29 (by decide) ?_
      refine lv_isub hx hb dX2_remember_30 ?_
      obtain ⟨j, rfl⟩ : ∃ j, i = j + 1 := ⟨i - 1, by omega⟩
      refine z_topi (y := nI j) (nI_pred j) ?_
      refine lv_aload_n hx hb dX2_remember_31 rfl (lv_at hl 2 rfl) ?_
      refine va_get (D := D) (ci := 2) (v := .ref (a 90)) (C := RX2) (T := TX2) (N := 6) hx hb ht inX2 hown hK hP 7 (ap_g CW_7) rfl 4 (by decide) (ht (.fieldLink RX2 23 "CloneVolumes$History" "past" "[LCloneVolumes$State;") fl_X2_23) (fun _ h9 => h9) rfl dX2_remember_32 ?_
      refine lv_iload_n hx hb dX2_remember_35 rfl (lv_at hl 0 rfl) ?_
      obtain ⟨q2, hq2⟩ : ∃ q2, (q :: r)[j + 1]? = some q2 := ⟨(q :: r)[j + 1], List.getElem?_eq_getElem (by omega)⟩
      have hv : f (((j + 1 : Nat) : Int)).toNat = some (q2.1 62) := by rw [Int.toNat_natCast, hf, if_neg (by omega)]; exact pf_some hq2
      refine ya_ald hx hb hK hP 82 XW_82 (i := ((j + 1 : Nat) : Int)) hv (by omega) (by decide) dX2_remember_36 ?_
      obtain ⟨vs, hm⟩ := PLs_obj (D := D) hq2
      refine ya_ast hx hb hK hP (hDD _ _) hS 82 XW_82 (List.mem_append_right _ (List.mem_cons_of_mem _ hm)) (i := (j : Int)) (by omega) (by decide) dX2_remember_37 XW_w82 (fun H locs hP hS => ?_)
      rw [Int.toNat_natCast] at hP
      refine lv_iinc (v := nI (j + 1 + 1)) (lv' := [(3, .int (nI (j + 1 + 1))), (2, .ref (q.1 62)), (0, .ref (a 7)), (1, .ref (a 62))]) hx hb dX2_remember_38 hl (k := 0) rfl (z_inc _) (by decide) rfl (fun ls hl => ?_)
      refine lv_goto (tgt := 18) hx hb dX2_remember_41 (by decide) ?_
      refine ih _ _ _ _ (by omega) ⟨by omega, fun k => ?_, hP, hS, hl⟩
      by_cases hk : k = j
      · subst hk; rw [va_up_self, if_pos (by omega)]; exact (pf_some hq2).symm
      · rw [va_up_ne _ _ hk, hf]
        by_cases hk2 : k + 1 < j + 1
        · rw [if_pos hk2, if_pos (by omega)]
        · rw [if_neg hk2, if_neg (by omega)]
