/-! ===== what the constructors need of the start: links between nest mates, the one text ===== -/
def zText : String := "blocks room volume clone of put remove picks splits costs churn block from level entries number count fresh saved refs key or and not all min max first last often total most least"
def zN (qS : Nat) (U : State) : Prop := va_Nw (.methodLinkNest RX11 11 yX9_init "CloneVolumes") U ∧ va_Nw (.methodLinkNest RX11 27 yX2_init "CloneVolumes") U ∧ va_Nw (.methodLinkNest RX11 34 yX7_init "CloneVolumes") U ∧ va_Nw (.methodLinkNest RX11 41 yX4_init "CloneVolumes") U ∧ va_Nw (.methodLinkNest RX11 48 yX10_init "CloneVolumes") U ∧ va_Nw (.methodLinkNest RX5 29 yX0_init "CloneVolumes") U ∧ va_AO "CloneVolumes$State" U ∧ vk_R RX6 15 zText qS U
def zE (b0 qS vS : Nat) (fS : Nat → Int32) (U : State) (H : Heap) : Prop := va_O "java/lang/String" qS (fun q => b0 ≤ q) U H ∧ va_OF "java/lang/String" "coder" "B" (.int 0) qS (fun q => b0 ≤ q) U H ∧ va_OF "java/lang/String" "value" "[B" (.ref vS) qS (fun q => b0 ≤ q) U H ∧ va_T .byte vS 179 (fun j => .int (fS j)) (fun q => b0 ≤ q) U H ∧ va_Z "java/lang/String" "COMPACT_STRINGS" "Z" (.int 1) (fun q => b0 ≤ q) U H
def EE (b0 qS vS : Nat) (fS : Nat → Int32) (U : State) : Prop := zN qS U ∧ zE b0 qS vS fS U U.heap
theorem zN.same {qS : Nat} {u U : State} (h : u.vm = U.vm) (e : zN qS u) : zN qS U := by
  obtain ⟨h1, h2, h3, h4, h5, h6, h7, h8⟩ := e
  exact ⟨va_Nw.same rfl h h1, va_Nw.same rfl h h2, va_Nw.same rfl h h3, va_Nw.same rfl h h4, va_Nw.same rfl h h5, va_Nw.same rfl h h6, va_AO.moved (by rw [h]; exact Vm.Alike.refl U.vm) h7, vk_R.same h.symm h8⟩
theorem zN.warm {qS : Nat} {s U : State} (hW : s.WarmedH U.vm) (e : zN qS s) : zN qS U := by
  obtain ⟨h1, h2, h3, h4, h5, h6, h7, h8⟩ := e
  exact ⟨va_Nw.warmM hW h1, va_Nw.warmM hW h2, va_Nw.warmM hW h3, va_Nw.warmM hW h4, va_Nw.warmM hW h5, va_Nw.warmM hW h6, va_AO.moved hW.alike h7, vk_R.warm hW h8⟩
theorem zE.moved {b0 qS vS : Nat} {fS : Nat → Int32} {u U : State} {H : Heap} (hvm : u.vm.Alike U.vm) (h : zE b0 qS vS fS u H) : zE b0 qS vS fS U H := ⟨h.1.moved hvm, h.2.1.moved hvm, h.2.2.1.moved hvm, h.2.2.2.1.moved hvm, h.2.2.2.2.moved hvm⟩
theorem zE.kept {b0 qS vS : Nat} {fS : Nat → Int32} {U : State} {H H1 : Heap} (h : zE b0 qS vS fS U H) (hq : ∀ a : Nat, a < H.size → ¬ (fun q => b0 ≤ q : Nat → Prop) a → H1[a]? = H[a]?) : zE b0 qS vS fS U H1 := ⟨h.1.kept hq, h.2.1.kept hq, h.2.2.1.kept hq, h.2.2.2.1.kept hq, h.2.2.2.2.kept hq⟩
theorem EE.blind {b0 qS vS : Nat} {fS : Nat → Int32} (a : Array Value) (U : State) (g : JFrame) (mk : MethodId) (h : EE b0 qS vS fS U) : EE b0 qS vS fS (U.calling g mk a) := ⟨zN.same (u := U) (U := U.calling g mk a) rfl h.1, zE.moved (u := U) (U := U.calling g mk a) (Vm.Alike.refl U.vm) h.2⟩
theorem EE.go {b0 qS vS : Nat} {fS : Nat → Int32} {s U : State} {A : Nat → Prop} {H : Heap} {locs : List Loc} (h : EE b0 qS vS fS s) (hS : va_S A s.heap H locs) (hb : ∀ q, A q → b0 ≤ q) (hU : U.heap = H) (hW : s.WarmedH U.vm) : EE b0 qS vS fS U := ⟨zN.warm hW h.1, by rw [hU]; exact zE.moved hW.alike (h.2.kept (fun a h1 h2 => hS.2.1 a h1 (fun z => h2 (hb a z))))⟩
theorem zWEb (av : List Value) (D : va_G) (sz : Nat) (WS : va_W) (b0 qS vS : Nat) (fS : Nat → Int32) : FrameBlind (va_Pc av (fun U => zW D sz WS U ∧ EE b0 qS vS fS U)) := fun a U g mk q => ⟨q.1, ⟨q.2.1.1, q.2.1.2.1, va_K.moved (u := U) (U := U.calling g mk a) (Vm.Alike.refl U.vm) q.2.1.2.2.1, q.2.1.2.2.2⟩, EE.blind a U g mk q.2.2⟩
section ZI
variable {p : Program} {l : Launch} {e : Env} {R : Room} {s : State} {m : MethodId} {args : Array Value} {below : List Frame} {meth : Method} {c : Code} {H : Heap} {locs : List Loc} {cells slots : Nat} {Q : State → Prop}
variable {cc bytes : ByteArray} {pc : Nat} {ls : Array Slot} {rest st0 : List Value} {D : va_G} {A : Nat → Prop} {ws WS wr : va_W} {H0 : Heap} {y : MethodName} {maxL nL mc ms n idx : Nat} {ret : Option FieldType} {rm : Room} {own C : String} {b : Addr} {As : List Value} {b0 qS vS : Nat} {fS : Nat → Int32}
/-- a constructor of a nest mate -/
theorem zwIN {Sg : Type} {post : Sg → Prop} {W' : Sg → va_W} {host : String} (S : CallFix p m c cc nL s args lw_gd own) (hM : Met l y (wz y bytes maxL none) rm (va_Pc (.ref b :: As) (zW D H.size WS)) (va_Qv post (fun u t => zB D (va_A WS H.size) (W' u) t) (va_A WS H.size)) mc ms (va_A WS H.size)) (hcm : Cond.code y bytes maxL none ∈ lw_gd) (hrc : rm.cells = mc) (hrs : rm.slots = ms) (hini : Cond.initialized y.cls ∈ lw_gd) (hli : va_Nw (.methodLinkNest own idx y host) s) (him : Cond.instanceMethod y ∈ lw_gd) (hy1 : y.name = "<init>")
    (hd : y.cls ≠ "java/lang/invoke/MethodHandle" ∧ y.cls ≠ "java/lang/invoke/VarHandle" ∧ (parseMethodDescriptor y.desc).map (fun d => d.parameters.length) = some n) (hR : rm.frames + 1 ≤ R.frames ∧ 8 + (maxL + 11) + rm.locals ≤ R.locals)
    (hK : va_K D vwCl (TY D) s) (hP : va_P D vwCl ws H) (hD : va_D A ws) (hS : va_S A H0 H locs) (hA : ∀ q : Nat, H0.size ≤ q → A q) (is ir : List Nat) (hs : is.map (fun i => ws[i]?) = WS.map some) (hr : ir.map (fun i => ws[i]?) = wr.map some) (hni : va_nd is = true) (hnr : va_nd ir = true) (hdis : ∀ i ∈ ir, i ∉ is)
    (hn : As.length = n) (hsize : ls.size = nL) (hst : st0 = As.reverse ++ .ref b :: rest) (hW : (rest.map fun v => v.category).sum ≤ 8) (hdg : decode cc pc = .ok (.invokespecial idx, 3)) (hf : cells + mc ≤ R.cells ∧ slots + ms ≤ R.slots)
    (kk : ∀ (u : Sg) (H : Heap) (locs : List Loc), post u → va_P D vwCl (wr ++ W' u) H → va_D A (wr ++ W' u) → va_S A H0 H locs → W p l e R s m args below meth c H locs (cells + mc) (slots + ms) Q (F0 m (pc + 3) ls rest)) : W p l e R s m args below meth c H locs cells slots Q (F0 m pc ls st0) := by
  have ht := S.2.2.2.2
  have hPc : va_P D vwCl WS H := hP.sub is (z_fm hs)
  have hDc : va_D A WS := hD.sub is hni hs
  have hFc := va_free (wc := WS) hD hS hA is hs
  refine va_callv (va_runIN (g := F0 m pc ls st0) (b := b) (As := As) (rest := rest) (Pc := va_Pc (.ref b :: As) (zW D H.size WS)) S hM ⟨va_cnB n ht (zG hcm) rfl hrc hrs hli (ht _ hini) hd hR, hy1, ht _ him⟩ ⟨zWb _ D _ WS, fun U hU hW => ⟨rfl, by rw [hU], by rw [hU]; exact hPc, va_K.moved hW.alike hK, hDc.weaken (fun _ _ _ _ => trivial)⟩⟩ rfl hn hsize hst (lv_room hW) hdg hf) hS (fun q _ h => hFc q h) hFc (fun u t H1 locs1 ht hvm hw hB hz1 hk1 hS1 => ?_)
  obtain ⟨hP1, hK1, hD1⟩ := hB
  rw [ht] at hP1
  obtain ⟨hP2, hD2⟩ := va_join (wr := wr) (w1 := W' u) hP hD is ir hs hr hnr hdis hk1 hFc hP1 hD1
  exact kk u H1 locs1 hw hP2 hD2 hS1
/-- the same, that needs the start -/
theorem zwINE {Sg : Type} {post : Sg → Prop} {W' : Sg → va_W} {host : String} (S : CallFix p m c cc nL s args lw_gd own) (hM : (∀ q, va_A WS H.size q → b0 ≤ q) → Met l y (wz y bytes maxL none) rm (va_Pc (.ref b :: As) (fun U => zW D H.size WS U ∧ EE b0 qS vS fS U)) (va_Qv post (fun u t => zB D (va_A WS H.size) (W' u) t) (va_A WS H.size)) mc ms (va_A WS H.size)) (hcm : Cond.code y bytes maxL none ∈ lw_gd) (hrc : rm.cells = mc) (hrs : rm.slots = ms) (hini : Cond.initialized y.cls ∈ lw_gd) (hli : va_Nw (.methodLinkNest own idx y host) s) (him : Cond.instanceMethod y ∈ lw_gd) (hy1 : y.name = "<init>")
    (hd : y.cls ≠ "java/lang/invoke/MethodHandle" ∧ y.cls ≠ "java/lang/invoke/VarHandle" ∧ (parseMethodDescriptor y.desc).map (fun d => d.parameters.length) = some n) (hR : rm.frames + 1 ≤ R.frames ∧ 8 + (maxL + 11) + rm.locals ≤ R.locals)
    (hK : va_K D vwCl (TY D) s) (hP : va_P D vwCl ws H) (hD : va_D A ws) (hS : va_S A s.heap H locs) (hA : ∀ q : Nat, s.heap.size ≤ q → A q) (hE : EE b0 qS vS fS s) (hAb : ∀ q, A q → b0 ≤ q) (is ir : List Nat) (hs : is.map (fun i => ws[i]?) = WS.map some) (hr : ir.map (fun i => ws[i]?) = wr.map some) (hni : va_nd is = true) (hnr : va_nd ir = true) (hdis : ∀ i ∈ ir, i ∉ is)
    (hn : As.length = n) (hsize : ls.size = nL) (hst : st0 = As.reverse ++ .ref b :: rest) (hW : (rest.map fun v => v.category).sum ≤ 8) (hdg : decode cc pc = .ok (.invokespecial idx, 3)) (hf : cells + mc ≤ R.cells ∧ slots + ms ≤ R.slots)
    (kk : ∀ (u : Sg) (H : Heap) (locs : List Loc), post u → va_P D vwCl (wr ++ W' u) H → va_D A (wr ++ W' u) → va_S A s.heap H locs → W p l e R s m args below meth c H locs (cells + mc) (slots + ms) Q (F0 m (pc + 3) ls rest)) : W p l e R s m args below meth c H locs cells slots Q (F0 m pc ls st0) := by
  have ht := S.2.2.2.2
  have hPc : va_P D vwCl WS H := hP.sub is (z_fm hs)
  have hDc : va_D A WS := hD.sub is hni hs
  have hFc := va_free (wc := WS) hD hS hA is hs
  refine va_callv (va_runIN (g := F0 m pc ls st0) (b := b) (As := As) (rest := rest) (Pc := va_Pc (.ref b :: As) (fun U => zW D H.size WS U ∧ EE b0 qS vS fS U)) S (hM (fun q h => hAb q (hFc q h))) ⟨va_cnB n ht (zG hcm) rfl hrc hrs hli (ht _ hini) hd hR, hy1, ht _ him⟩ ⟨zWEb _ D _ WS _ _ _ _, fun U hU hW => ⟨rfl, ⟨by rw [hU], by rw [hU]; exact hPc, va_K.moved hW.alike hK, hDc.weaken (fun _ _ _ _ => trivial)⟩, hE.go hS hAb hU hW⟩⟩ rfl hn hsize hst (lv_room hW) hdg hf) hS (fun q _ h => hFc q h) hFc (fun u t H1 locs1 ht hvm hw hB hz1 hk1 hS1 => ?_)
  obtain ⟨hP1, hK1, hD1⟩ := hB
  rw [ht] at hP1
  obtain ⟨hP2, hD2⟩ := va_join (wr := wr) (w1 := W' u) hP hD is ir hs hr hnr hdis hk1 hFc hP1 hD1
  exact kk u H1 locs1 hw hP2 hD2 hS1
/-- a constructor that needs the start -/
theorem zwIE {Sg : Type} {post : Sg → Prop} {W' : Sg → va_W} (S : CallFix p m c cc nL s args lw_gd own) (hM : (∀ q, va_A WS H.size q → b0 ≤ q) → Met l y (wz y bytes maxL none) rm (va_Pc (.ref b :: As) (fun U => zW D H.size WS U ∧ EE b0 qS vS fS U)) (va_Qv post (fun u t => zB D (va_A WS H.size) (W' u) t) (va_A WS H.size)) mc ms (va_A WS H.size)) (hcm : Cond.code y bytes maxL none ∈ lw_gd) (hrc : rm.cells = mc) (hrs : rm.slots = ms) (hini : Cond.initialized y.cls ∈ lw_gd) (hli : Cond.methodLink own idx y ∈ lw_gd) (him : Cond.instanceMethod y ∈ lw_gd) (hy1 : y.name = "<init>")
    (hd : y.cls ≠ "java/lang/invoke/MethodHandle" ∧ y.cls ≠ "java/lang/invoke/VarHandle" ∧ (parseMethodDescriptor y.desc).map (fun d => d.parameters.length) = some n) (hR : rm.frames + 1 ≤ R.frames ∧ 8 + (maxL + 11) + rm.locals ≤ R.locals)
    (hK : va_K D vwCl (TY D) s) (hP : va_P D vwCl ws H) (hD : va_D A ws) (hS : va_S A s.heap H locs) (hA : ∀ q : Nat, s.heap.size ≤ q → A q) (hE : EE b0 qS vS fS s) (hAb : ∀ q, A q → b0 ≤ q) (is ir : List Nat) (hs : is.map (fun i => ws[i]?) = WS.map some) (hr : ir.map (fun i => ws[i]?) = wr.map some) (hni : va_nd is = true) (hnr : va_nd ir = true) (hdis : ∀ i ∈ ir, i ∉ is)
    (hn : As.length = n) (hsize : ls.size = nL) (hst : st0 = As.reverse ++ .ref b :: rest) (hW : (rest.map fun v => v.category).sum ≤ 8) (hdg : decode cc pc = .ok (.invokespecial idx, 3)) (hf : cells + mc ≤ R.cells ∧ slots + ms ≤ R.slots)
    (kk : ∀ (u : Sg) (H : Heap) (locs : List Loc), post u → va_P D vwCl (wr ++ W' u) H → va_D A (wr ++ W' u) → va_S A s.heap H locs → W p l e R s m args below meth c H locs (cells + mc) (slots + ms) Q (F0 m (pc + 3) ls rest)) : W p l e R s m args below meth c H locs cells slots Q (F0 m pc ls st0) := by
  have ht := S.2.2.2.2
  have hPc : va_P D vwCl WS H := hP.sub is (z_fm hs)
  have hDc : va_D A WS := hD.sub is hni hs
  have hFc := va_free (wc := WS) hD hS hA is hs
  refine va_callv (va_runI (g := F0 m pc ls st0) (b := b) (As := As) (rest := rest) (Pc := va_Pc (.ref b :: As) (fun U => zW D H.size WS U ∧ EE b0 qS vS fS U)) S (hM (fun q h => hAb q (hFc q h))) (cwI n ht (zG hcm) rfl hrc hrs (ht _ hini) (ht _ hli) (ht _ him) hy1 hd hR) ⟨zWEb _ D _ WS _ _ _ _, fun U hU hW => ⟨rfl, ⟨by rw [hU], by rw [hU]; exact hPc, va_K.moved hW.alike hK, hDc.weaken (fun _ _ _ _ => trivial)⟩, hE.go hS hAb hU hW⟩⟩ rfl hn hsize hst (lv_room hW) hdg hf) hS (fun q _ h => hFc q h) hFc (fun u t H1 locs1 ht hvm hw hB hz1 hk1 hS1 => ?_)
  obtain ⟨hP1, hK1, hD1⟩ := hB
  rw [ht] at hP1
  obtain ⟨hP2, hD2⟩ := va_join (wr := wr) (w1 := W' u) hP hD is ir hs hr hnr hdis hk1 hFc hP1 hD1
  exact kk u H1 locs1 hw hP2 hD2 hS1
end ZI
theorem z_cong {D : va_G} {ws : va_W} {H : Heap} {k q n : Nat} {c : ClassId} {f g : Nat → Int32} {A : Nat → Prop} (hP : va_P D vwCl ws H) (hD : va_D A ws) (h : ws[k]? = some (q, .inl (c, n, .inl f))) (e : ∀ j, j < n → f j = g j) : va_P D vwCl (ws.set k (q, .inl (c, n, .inl g))) H := by
  refine hP.set hD h ?_ (fun _ _ => rfl)
  have h1 := hP k _ h
  show H[q]? = some (vp_cell _ _)
  rw [show H[q]? = some (vp_cell c (n, .inl f)) from h1]
  congr 1
  show arrV c n (fun j => .int (f j)) = arrV c n (fun j => .int (g j))
  unfold arrV
  congr 1
  apply Array.ext
  · simp
  · intro j h1 h2
    simp at h1
    simp [e j h1]
theorem z_upd_inv {f g : Nat → Int32} {i : Nat} {c : Int32} (h : ∀ j, j < i → f j = c) (e : upd f (nI i).toNatClampNeg c = g) (hi : i < 2 ^ 31) : ∀ j, j < i + 1 → g j = c := by
  intro j hj
  rw [← e, nI_clamp hi]
  unfold upd
  by_cases hji : j = i
  · rw [if_pos hji]
  · rw [if_neg hji]; exact h j (by omega)
