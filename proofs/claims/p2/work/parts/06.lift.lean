/-! ===== the lifted state: ints, longs, rows of ints, rows of longs, by number ===== -/
abbrev MS : Type := (Nat → Int32) × (Nat → Int64) × (Nat → Nat → Int32) × (Nat → Nat → Int64)
def gI (s : MS) (k : Nat) : Int32 := s.1 k
def gL (s : MS) (k : Nat) : Int64 := s.2.1 k
def gA (s : MS) (k : Nat) : Nat → Int32 := s.2.2.1 k
def gB (s : MS) (k : Nat) : Nat → Int64 := s.2.2.2 k
def sI (s : MS) (k : Nat) (v : Int32) : MS := (fun j => if j = k then v else s.1 j, s.2)
def sL (s : MS) (k : Nat) (v : Int64) : MS := (s.1, fun j => if j = k then v else s.2.1 j, s.2.2)
def sA (s : MS) (k : Nat) (f : Nat → Int32) : MS := (s.1, s.2.1, fun j => if j = k then f else s.2.2.1 j, s.2.2.2)
def sB (s : MS) (k : Nat) (f : Nat → Int64) : MS := (s.1, s.2.1, s.2.2.1, fun j => if j = k then f else s.2.2.2 j)
/-! ===== what a step asks; none: the machine would throw ===== -/
def rdI {α : Type} (f : Nat → Int32) (n : Nat) (i : Int32) (k : Int32 → Option α) : Option α := if 0 ≤ i.toInt ∧ i.toInt < (n : Int) then k (f i.toNatClampNeg) else none
def rdL {α : Type} (f : Nat → Int64) (n : Nat) (i : Int32) (k : Int64 → Option α) : Option α := if 0 ≤ i.toInt ∧ i.toInt < (n : Int) then k (f i.toNatClampNeg) else none
def inb {α : Type} (n : Nat) (i : Int32) (k : Option α) : Option α := if 0 ≤ i.toInt ∧ i.toInt < (n : Int) then k else none
def nz {α : Type} (y : Int32) (k : Option α) : Option α := if y = 0 then none else k
def nzL {α : Type} (y : Int64) (k : Option α) : Option α := if y = 0 then none else k
def bo {α : Type} (v : Int32) (k : Option α) : Option α := if v = 0 ∨ v = 1 then k else none
def eqg {α : Type} (x y : Int32) (k : Option α) : Option α := if x = y then k else none
def cpg {α : Type} (sp dp n : Int32) (n0 n1 : Nat) (k : Option α) : Option α := if (¬ sp < 0 ∧ ¬ dp < 0 ∧ ¬ n < 0) ∧ sp.toNatClampNeg + n.toNatClampNeg ≤ n0 ∧ dp.toNatClampNeg + n.toNatClampNeg ≤ n1 then k else none
def bn {α β : Type} (x : Option α) (k : α → Option β) : Option β := x.bind k
def ushr (x y : Int32) : Int32 := (x.toUInt32 >>> (y.toUInt32 &&& Int32.toUInt32 31)).toInt32
def ushrL (x : Int64) (y : Int32) : Int64 := (x.toUInt64 >>> (y.toInt64.toUInt64 &&& Int64.toUInt64 63)).toInt64
def shlL (x : Int64) (y : Int32) : Int64 := x <<< (y.toInt64 &&& 63)
/-- a loop, so many times at most -/
def lp {T : Type} (z : T) (b : T → T) : Nat → T
  | 0 => z
  | n + 1 => b (lp z b n)
/-- more than any loop here goes -/
def FU : Nat := 10 ^ 60
theorem rdI_e {α : Type} {f : Nat → Int32} {n : Nat} {i : Int32} {k : Int32 → Option α} {o : α} (h : rdI f n i k = some o) : ∃ x, f i.toNatClampNeg = x ∧ vp_in i n ∧ k x = some o := by
  unfold rdI at h
  split at h
  · exact ⟨_, rfl, vp_in_iff.mpr ‹_›, h⟩
  · cases h
theorem rdL_e {α : Type} {f : Nat → Int64} {n : Nat} {i : Int32} {k : Int64 → Option α} {o : α} (h : rdL f n i k = some o) : ∃ x, f i.toNatClampNeg = x ∧ vp_in i n ∧ k x = some o := by
  unfold rdL at h
  split at h
  · exact ⟨_, rfl, vp_in_iff.mpr ‹_›, h⟩
  · cases h
theorem inb_e {α : Type} {n : Nat} {i : Int32} {k : Option α} {o : α} (h : inb n i k = some o) : vp_in i n ∧ k = some o := by
  unfold inb at h
  split at h
  · exact ⟨vp_in_iff.mpr ‹_›, h⟩
  · cases h
theorem nz_e {α : Type} {y : Int32} {k : Option α} {o : α} (h : nz y k = some o) : ¬ y = 0 ∧ k = some o := by
  unfold nz at h
  split at h
  · cases h
  · exact ⟨‹_›, h⟩
theorem nzL_e {α : Type} {y : Int64} {k : Option α} {o : α} (h : nzL y k = some o) : ¬ y = 0 ∧ k = some o := by
  unfold nzL at h
  split at h
  · cases h
  · exact ⟨‹_›, h⟩
theorem bo_e {α : Type} {v : Int32} {k : Option α} {o : α} (h : bo v k = some o) : (v = 0 ∨ v = 1) ∧ k = some o := by
  unfold bo at h
  split at h
  · exact ⟨‹_›, h⟩
  · cases h
theorem bo_n {v : Int32} (h : v = 0 ∨ v = 1) : narrow .boolean (.int v) = .int v := by
  rcases h with rfl | rfl <;> decide
theorem bo_f {v : Int32} (h : v = 0 ∨ v = 1) : fits .boolean (.int v) = true := by
  rcases h with rfl | rfl <;> decide
theorem eqg_e {α : Type} {x y : Int32} {k : Option α} {o : α} (h : eqg x y k = some o) : x = y ∧ k = some o := by
  unfold eqg at h
  split at h
  · exact ⟨‹_›, h⟩
  · cases h
theorem cpg_e {α : Type} {sp dp n : Int32} {n0 n1 : Nat} {k : Option α} {o : α} (h : cpg sp dp n n0 n1 k = some o) : ((¬ sp < 0 ∧ ¬ dp < 0 ∧ ¬ n < 0) ∧ sp.toNatClampNeg + n.toNatClampNeg ≤ n0 ∧ dp.toNatClampNeg + n.toNatClampNeg ≤ n1) ∧ k = some o := by
  unfold cpg at h
  split at h
  · exact ⟨‹_›, h⟩
  · cases h
theorem bn_e {α β : Type} {x : Option α} {k : α → Option β} {o : β} (h : bn x k = some o) : ∃ r, x = some r ∧ k r = some o := Option.bind_eq_some_iff.mp h
theorem if_t {α : Type} {c : Prop} [Decidable c] {x y : α} {o : α} (hc : c) (h : (if c then x else y) = o) : x = o := by rw [if_pos hc] at h; exact h
theorem if_f {α : Type} {c : Prop} [Decidable c] {x y : α} {o : α} (hc : ¬ c) (h : (if c then x else y) = o) : y = o := by rw [if_neg hc] at h; exact h
/-- cells with the same addresses are as far apart -/
theorem va_D_same {A : Nat → Prop} {ws ws' : va_W} (h : va_D A ws) (e : ws'.map Prod.fst = ws.map Prod.fst) : va_D A ws' := by
  have key : ∀ (k : Nat) (q : Nat × va_E), ws'[k]? = some q → ∃ q', ws[k]? = some q' ∧ q'.1 = q.1 := by
    intro k q hk
    have h1 : (ws'.map Prod.fst)[k]? = some q.1 := by rw [List.getElem?_map, hk]; rfl
    rw [e, List.getElem?_map] at h1
    cases hi : ws[k]? with
    | none => rw [hi] at h1; cases h1
    | some q' => rw [hi] at h1; exact ⟨q', rfl, Option.some.inj h1⟩
  refine ⟨fun i j x y hi hj hxy => ?_, fun k q hk => ?_⟩
  · obtain ⟨x', h1, e1⟩ := key i x hi
    obtain ⟨y', h2, e2⟩ := key j y hj
    exact h.1 i j x' y' h1 h2 (by rw [e1, e2]; exact hxy)
  · obtain ⟨q', h1, e1⟩ := key k q hk
    rw [← e1]
    exact h.2 k q' h1
theorem va_A_same {ws ws' : va_W} {sz : Nat} (e : ws'.map Prod.fst = ws.map Prod.fst) : va_A ws' sz = va_A ws sz := by
  have key : ∀ {w1 w2 : va_W}, w1.map Prod.fst = w2.map Prod.fst → ∀ q, va_A w1 sz q → va_A w2 sz q := by
    intro w1 w2 e q h
    rcases h with ⟨k, x, h⟩ | h
    · have h1 : (w1.map Prod.fst)[k]? = some q := by rw [List.getElem?_map, h]; rfl
      rw [e, List.getElem?_map] at h1
      cases hi : w2[k]? with
      | none => rw [hi] at h1; cases h1
      | some q' => rw [hi] at h1; exact Or.inl ⟨k, q'.2, by rw [hi]; obtain ⟨x1, x2⟩ := q'; exact congrArg some (by simp at h1; simp [h1])⟩
    · exact Or.inr h
  funext q
  exact propext ⟨key e q, key e.symm q⟩
/-! ===== the one link between nest mates that a method needs ===== -/
def NN (U : State) : Prop := va_Nw (.methodLinkNest RX4 125 yX11_isKey "CloneVolumes") U
theorem NN.warm {s U : State} (hW : s.WarmedH U.vm) (h : NN s) : NN U := va_Nw.warmM hW h
theorem NN.call {U : State} (a : Array Value) (g : JFrame) (mk : MethodId) (h : NN U) : NN (U.calling g mk a) := va_Nw.same (u := U) (U := U.calling g mk a) rfl rfl h
abbrev yP (D : va_G) (WS : va_W) (U : State) : Prop := zP D WS U ∧ NN U
abbrev yW (D : va_G) (sz : Nat) (WS : va_W) (U : State) : Prop := zW D sz WS U ∧ NN U
theorem yPb (av : List Value) (D : va_G) (WS : va_W) : FrameBlind (va_Pc av (yP D WS)) := fun a U g mk q => ⟨q.1, ⟨q.2.1.1, va_K.moved (u := U) (U := U.calling g mk a) (Vm.Alike.refl U.vm) q.2.1.2⟩, q.2.2.call a g mk⟩
theorem yWb (av : List Value) (D : va_G) (sz : Nat) (WS : va_W) : FrameBlind (va_Pc av (yW D sz WS)) := fun a U g mk q => ⟨q.1, ⟨q.2.1.1, q.2.1.2.1, va_K.moved (u := U) (U := U.calling g mk a) (Vm.Alike.refl U.vm) q.2.1.2.2.1, q.2.1.2.2.2⟩, q.2.2.call a g mk⟩
section LF
variable {p : Program} {l : Launch} {e : Env} {R : Room} {s : State} {m : MethodId} {args : Array Value} {below : List Frame} {meth : Method} {c : Code} {H : Heap} {locs : List Loc} {cells slots : Nat} {Q : State → Prop}
variable {cc bytes : ByteArray} {pc : Nat} {ls : Array Slot} {rest st0 : List Value} {D : va_G} {A : Nat → Prop} {ws ws' : va_W} {H0 : Heap} {y : MethodName} {maxL nL mc ms n idx : Nat} {ret : Option FieldType} {rm : Room} {own C : String} {b a : Addr} {As : List Value}
/-- a place where roads meet -/
theorem y_head {σ : Type} {pcJ : Nat} {g0 : JFrame} (Inv : σ → Heap → List Loc → Array Slot → Prop) (stk : σ → List Value) (J : ∀ (u : σ) (H : Heap) (locs : List Loc) (ls : Array Slot), Inv u H locs ls → W p l e R s m args below meth c H locs cells slots Q (F0 m pcJ ls (stk u)))
    (k : (∀ (u : σ) (H : Heap) (locs : List Loc) (ls : Array Slot), Inv u H locs ls → W p l e R s m args below meth c H locs cells slots Q (F0 m pcJ ls (stk u))) → W p l e R s m args below meth c H locs cells slots Q g0) : W p l e R s m args below meth c H locs cells slots Q g0 := k J
/-- a loop's head -/
theorem y_loop {σ : Type} {pcJ : Nat} {g0 : JFrame} (Inv : Nat → σ → Heap → List Loc → Array Slot → Prop) (stk : σ → List Value) (z : ∀ (u : σ) (H : Heap) (locs : List Loc) (ls : Array Slot), ¬ Inv 0 u H locs ls)
    (step : ∀ n : Nat, (∀ (u : σ) (H : Heap) (locs : List Loc) (ls : Array Slot), Inv n u H locs ls → W p l e R s m args below meth c H locs cells slots Q (F0 m pcJ ls (stk u))) → ∀ (u : σ) (H : Heap) (locs : List Loc) (ls : Array Slot), Inv (n + 1) u H locs ls → W p l e R s m args below meth c H locs cells slots Q (F0 m pcJ ls (stk u)))
    (k : (∀ (n : Nat) (u : σ) (H : Heap) (locs : List Loc) (ls : Array Slot), Inv n u H locs ls → W p l e R s m args below meth c H locs cells slots Q (F0 m pcJ ls (stk u))) → W p l e R s m args below meth c H locs cells slots Q g0) : W p l e R s m args below meth c H locs cells slots Q g0 := by
  refine k (fun n => ?_)
  induction n with
  | zero => exact fun u H locs ls hI => (z u H locs ls hI).elim
  | succ n ih => exact step n ih
theorem ya_iald (hexec : p.tables.exec = Jvm.exec) (hb : c.code = cc) (hK : va_K D vwCl (TY D) s) (hP : va_P D vwCl ws H) (q0 t0 : Nat) {cA : ClassId} {n : Nat} {f : Nat → Int32} (ha : ws[q0]? = some (a, .inl (cA, n, .inl f))) (ht : (TY D)[t0]? = some (cA, .int)) {i x : Int32} (hv : f i.toNatClampNeg = x) (hin : vp_in i n) (hdg : decode cc pc = .ok (.iaload, 1))
    (kk : W p l e R s m args below meth c H locs cells slots Q (F0 m (pc + 1) ls (.int x :: rest))) : W p l e R s m args below meth c H locs cells slots Q (F0 m pc ls (.int i :: .ref a :: rest)) := va_iald hexec hb hK hP q0 t0 ha ht hin hdg (by rw [hv]; exact kk)
theorem ya_cald (hexec : p.tables.exec = Jvm.exec) (hb : c.code = cc) (hK : va_K D vwCl (TY D) s) (hP : va_P D vwCl ws H) (q0 t0 : Nat) {cA : ClassId} {n : Nat} {f : Nat → Int32} (ha : ws[q0]? = some (a, .inl (cA, n, .inl f))) (ht : (TY D)[t0]? = some (cA, .char)) {i x : Int32} (hv : f i.toNatClampNeg = x) (hin : vp_in i n) (hdg : decode cc pc = .ok (.caload, 1))
    (kk : W p l e R s m args below meth c H locs cells slots Q (F0 m (pc + 1) ls (.int x :: rest))) : W p l e R s m args below meth c H locs cells slots Q (F0 m pc ls (.int i :: .ref a :: rest)) := va_cald hexec hb hK hP q0 t0 ha ht hin hdg (by rw [hv]; exact kk)
theorem ya_zald (hexec : p.tables.exec = Jvm.exec) (hb : c.code = cc) (hK : va_K D vwCl (TY D) s) (hP : va_P D vwCl ws H) (q0 t0 : Nat) {cA : ClassId} {n : Nat} {f : Nat → Int32} (ha : ws[q0]? = some (a, .inl (cA, n, .inl f))) (ht : (TY D)[t0]? = some (cA, .boolean)) {i x : Int32} (hv : f i.toNatClampNeg = x) (hin : vp_in i n) (hdg : decode cc pc = .ok (.baload, 1))
    (kk : W p l e R s m args below meth c H locs cells slots Q (F0 m (pc + 1) ls (.int x :: rest))) : W p l e R s m args below meth c H locs cells slots Q (F0 m pc ls (.int i :: .ref a :: rest)) := va_zald hexec hb hK hP q0 t0 ha ht hin hdg (by rw [hv]; exact kk)
theorem ya_lald (hexec : p.tables.exec = Jvm.exec) (hb : c.code = cc) (hK : va_K D vwCl (TY D) s) (hP : va_P D vwCl ws H) (q0 t0 : Nat) {cA : ClassId} {n : Nat} {f : Nat → Int64} (ha : ws[q0]? = some (a, .inl (cA, n, .inr (.inl f)))) (ht : (TY D)[t0]? = some (cA, .long)) {i : Int32} {x : Int64} (hv : f i.toNatClampNeg = x) (hin : vp_in i n) (hdg : decode cc pc = .ok (.laload, 1))
    (kk : W p l e R s m args below meth c H locs cells slots Q (F0 m (pc + 1) ls (.long x :: rest))) : W p l e R s m args below meth c H locs cells slots Q (F0 m pc ls (.int i :: .ref a :: rest)) := va_lald hexec hb hK hP q0 t0 ha ht hin hdg (by rw [hv]; exact kk)
theorem ya_iast (hexec : p.tables.exec = Jvm.exec) (hb : c.code = cc) (hK : va_K D vwCl (TY D) s) (hP : va_P D vwCl ws H) (hD : va_D A ws) (hS : va_S A H0 H locs) (q0 t0 : Nat) {cA : ClassId} {n : Nat} {f : Nat → Int32} (ha : ws[q0]? = some (a, .inl (cA, n, .inl f))) (ht : (TY D)[t0]? = some (cA, .int)) {i x : Int32} (hin : vp_in i n) (hdg : decode cc pc = .ok (.iastore, 1)) (hw : ws.set q0 (a, .inl (cA, n, .inl (upd f i.toNatClampNeg x))) = ws')
    (kk : ∀ (H : Heap) (locs : List Loc), va_P D vwCl ws' H → va_S A H0 H locs → W p l e R s m args below meth c H locs cells slots Q (F0 m (pc + 1) ls rest)) : W p l e R s m args below meth c H locs cells slots Q (F0 m pc ls (.int x :: .int i :: .ref a :: rest)) := by
  subst hw
  exact va_iast hexec hb hK hP hD hS q0 t0 ha ht hin hdg (fun H1 l1 h1 _ h3 => kk H1 l1 h1 h3)
theorem ya_zast (hexec : p.tables.exec = Jvm.exec) (hb : c.code = cc) (hK : va_K D vwCl (TY D) s) (hP : va_P D vwCl ws H) (hD : va_D A ws) (hS : va_S A H0 H locs) (q0 t0 : Nat) {cA : ClassId} {n : Nat} {f : Nat → Int32} (ha : ws[q0]? = some (a, .inl (cA, n, .inl f))) (ht : (TY D)[t0]? = some (cA, .boolean)) {i x : Int32} (hin : vp_in i n) (hdg : decode cc pc = .ok (.bastore, 1)) (hw : ws.set q0 (a, .inl (cA, n, .inl (upd f i.toNatClampNeg (vp_nar .boolean x)))) = ws')
    (kk : ∀ (H : Heap) (locs : List Loc), va_P D vwCl ws' H → va_S A H0 H locs → W p l e R s m args below meth c H locs cells slots Q (F0 m (pc + 1) ls rest)) : W p l e R s m args below meth c H locs cells slots Q (F0 m pc ls (.int x :: .int i :: .ref a :: rest)) := by
  subst hw
  exact va_zast hexec hb hK hP hD hS q0 t0 ha ht hin hdg (fun H1 l1 h1 _ h3 => kk H1 l1 h1 h3)
theorem ya_last (hexec : p.tables.exec = Jvm.exec) (hb : c.code = cc) (hK : va_K D vwCl (TY D) s) (hP : va_P D vwCl ws H) (hD : va_D A ws) (hS : va_S A H0 H locs) (q0 t0 : Nat) {cA : ClassId} {n : Nat} {f : Nat → Int64} (ha : ws[q0]? = some (a, .inl (cA, n, .inr (.inl f)))) (ht : (TY D)[t0]? = some (cA, .long)) {i : Int32} {x : Int64} (hin : vp_in i n) (hdg : decode cc pc = .ok (.lastore, 1)) (hw : ws.set q0 (a, .inl (cA, n, .inr (.inl (vp_updL f i.toNatClampNeg x)))) = ws')
    (kk : ∀ (H : Heap) (locs : List Loc), va_P D vwCl ws' H → va_S A H0 H locs → W p l e R s m args below meth c H locs cells slots Q (F0 m (pc + 1) ls rest)) : W p l e R s m args below meth c H locs cells slots Q (F0 m pc ls (.long x :: .int i :: .ref a :: rest)) := by
  subst hw
  exact va_last hexec hb hK hP hD hS q0 t0 ha ht hin hdg (fun H1 l1 h1 _ h3 => kk H1 l1 h1 h3)
theorem ya_put (hexec : p.tables.exec = Jvm.exec) (hb : c.code = cc) {own ref C : String} {T : u_T} {N ci index : Nat} {Ts : List Cond} (hts : ∀ w ∈ Ts, w.before args s = true) (hin : ∀ w ∈ u_ws C T N, w ∈ Ts) (ty0 : Nat → FieldType) (hty : ∀ k, k < N → parseFieldDescriptor (T k).2.2.1 = some (ty0 k)) (hnm : ∀ a, a < N → ∀ b, b < N → a ≠ b → (T a).2.1 ≠ (T b).2.1) (hown : s.vm.findClass own = some m.cls) (hK : va_K D vwCl (TY D) s) (hP : va_P D vwCl ws H) (hD : va_D A ws) (hS0 : va_S A H0 H locs) (q0 : Nat) {fs : List Value} (he : ws[q0]? = some (a, .inr (ci, fs))) (hc : vwCl[ci]? = some (C, T, N)) (k : Nat) (hk : k < N) (hlink : (Cond.fieldLink own index ref (T k).2.1 (T k).2.2.1).before args s = true) (hsame : ∀ x, s.fieldFound? (T k).1 (T k).2.1 (T k).2.2.1 = some x → s.fieldFound? ref (T k).2.1 (T k).2.2.1 = some x) (hfin : (T k).2.2.2 = false) {ty : FieldType} {v : Value} (hd : parseFieldDescriptor (T k).2.2.1 = some ty) (hn : narrow ty v = v) (hfit : fits ty v = true) (hl : k < fs.length)
    (hdg : decode cc pc = .ok (.putfield index, 3)) (hw : ws.set q0 (a, .inr (ci, fs.set k v)) = ws') (kk : ∀ (H : Heap) (locs : List Loc), va_P D vwCl ws' H → va_S A H0 H locs → W p l e R s m args below meth c H locs cells slots Q (F0 m (pc + 3) ls rest)) : W p l e R s m args below meth c H locs cells slots Q (F0 m pc ls (v :: .ref a :: rest)) := by
  subst hw
  exact va_put hexec hb hts hin ty0 hty hnm hown hK hP hD hS0 q0 he hc k hk hlink hsame hfin hd hn hfit hl hdg (fun H1 l1 h1 _ h3 => kk H1 l1 h1 h3)
theorem ya_copyi (hexec : p.tables.exec = Jvm.exec) (hb : c.code = cc) (hml : c.maxLocals = ls.size) {own : String} {index : Nat} (hown : s.vm.findClass own = some m.cls) (hlink : (Cond.methodLink own index arraycopyName).before args s = true) (hnat : (Cond.native arraycopyName).before args s = true) (hstat : (Cond.static arraycopyName).before args s = true) (hini : (Cond.initialized "java/lang/System").before args s = true)
    (hK : va_K D vwCl (TY D) s) (hP : va_P D vwCl ws H) (hD : va_D A ws) (hS : va_S A H0 H locs) (q0 q1 : Nat) {a0 : Nat} {n0 n1 : Nat} {f g : Nat → Int32} (ha0 : ws[q0]? = some (a0, .inl (D.1 13, n0, .inl f))) (ha1 : ws[q1]? = some (a, .inl (D.1 13, n1, .inl g)))
    {sp dp n : Int32} (hg : (¬ sp < 0 ∧ ¬ dp < 0 ∧ ¬ n < 0) ∧ sp.toNatClampNeg + n.toNatClampNeg ≤ n0 ∧ dp.toNatClampNeg + n.toNatClampNeg ≤ n1)
    (hframes : 1 ≤ R.frames) (hlocals : (rest.map fun v => v.category).sum + (nativeFrameWords "java/lang/System" "arraycopy" 5 + 11) ≤ R.locals) (hdg : decode cc pc = .ok (.invokestatic index, 3)) (hw : ws.set q1 (a, .inl (D.1 13, n1, .inl (va_cpy f g sp.toNatClampNeg dp.toNatClampNeg n.toNatClampNeg))) = ws')
    (kk : ∀ (H : Heap) (locs : List Loc), va_P D vwCl ws' H → va_S A H0 H locs → W p l e R s m args below meth c H locs cells slots Q (F0 m (pc + 3) ls rest)) : W p l e R s m args below meth c H locs cells slots Q (F0 m pc ls (.int n :: .int dp :: .ref a :: .int sp :: .ref a0 :: rest)) := by
  subst hw
  exact va_copyi (t0 := 0) (t1 := 0) hexec hb hml hown hlink hnat hstat hini hK hP hD hS q0 q1 ha0 ha1 rfl rfl rfl hg.1.1 hg.1.2.1 hg.1.2.2 hg.2.1 hg.2.2 (fun _ _ => rfl) hframes hlocals hdg (fun H1 l1 h1 _ h3 => kk H1 l1 h1 h3)
/-- the contracts' two shapes: a world that is read, a world that is written -/
abbrev yRi (l : Launch) (y : MethodName) (bytes : ByteArray) (maxL : Nat) (ret : Option FieldType) (rm : Room) (D : va_G) (av : List Value) (ws : va_W) (r : Int32) : Prop := Met l y (wz y bytes maxL ret) rm (va_Pc av (yP D ws)) (va_Qi (fun q (_ : Unit) => q = r) (fun _ _ => True) (fun _ => False)) 0 0 (fun _ => False)
abbrev yRl (l : Launch) (y : MethodName) (bytes : ByteArray) (maxL : Nat) (ret : Option FieldType) (rm : Room) (D : va_G) (av : List Value) (ws : va_W) (r : Int64) : Prop := Met l y (wz y bytes maxL ret) rm (va_Pc av (yP D ws)) (va_Ql (fun q (_ : Unit) => q = r) (fun _ _ => True) (fun _ => False)) 0 0 (fun _ => False)
abbrev yWi (l : Launch) (y : MethodName) (bytes : ByteArray) (maxL : Nat) (ret : Option FieldType) (rm : Room) (D : va_G) (sz : Nat) (av : List Value) (ws ws' : va_W) (r : Int32) : Prop := Met l y (wz y bytes maxL ret) rm (va_Pc av (yW D sz ws)) (va_Qi (fun q (_ : Unit) => q = r) (fun _ t => zB D (va_A ws sz) ws' t) (va_A ws sz)) 0 0 (va_A ws sz)
abbrev yWl (l : Launch) (y : MethodName) (bytes : ByteArray) (maxL : Nat) (ret : Option FieldType) (rm : Room) (D : va_G) (sz : Nat) (av : List Value) (ws ws' : va_W) (r : Int64) : Prop := Met l y (wz y bytes maxL ret) rm (va_Pc av (yW D sz ws)) (va_Ql (fun q (_ : Unit) => q = r) (fun _ t => zB D (va_A ws sz) ws' t) (va_A ws sz)) 0 0 (va_A ws sz)
abbrev yWv (l : Launch) (y : MethodName) (bytes : ByteArray) (maxL : Nat) (ret : Option FieldType) (rm : Room) (D : va_G) (sz : Nat) (av : List Value) (ws ws' : va_W) : Prop := Met l y (wz y bytes maxL ret) rm (va_Pc av (yW D sz ws)) (va_Qv (fun (_ : Unit) => True) (fun _ t => zB D (va_A ws sz) ws' t) (va_A ws sz)) 0 0 (va_A ws sz)
theorem ycV {r0 : Int32} (S : CallFix p m c cc nL s args lw_gd own) (hM : yRi l y bytes maxL ret rm D (.ref b :: As) ws r0) (hT : GoodIn lw_gd (wsV own idx C y (wz y bytes maxL ret))) (hrc : rm.cells = 0) (hrs : rm.slots = 0)
    (hd : y.cls = C ∧ y.cls ≠ "java/lang/invoke/MethodHandle" ∧ y.cls ≠ "java/lang/invoke/VarHandle" ∧ (parseMethodDescriptor y.desc).map (fun d => d.parameters.length) = some n) (hR : rm.frames + 1 ≤ R.frames ∧ 8 + (maxL + 11) + rm.locals ≤ R.locals)
    (hN : NN s) (hK : va_K D vwCl (TY D) s) (hP : va_P D vwCl ws H) (hS : va_S A H0 H locs) {ci : Nat} {fs : List Value} {q : vw_C} (q0 : Nat) (he : ws[q0]? = some (b, .inr (ci, fs))) (hc : vwCl[ci]? = some q) (hq : q.1 = C)
    (hn : As.length = n) (hsize : ls.size = nL) (hst : st0 = As.reverse ++ .ref b :: rest) (hW : (rest.map fun v => v.category).sum ≤ 8) (hdg : decode cc pc = .ok (.invokevirtual idx, 3)) (hf : cells ≤ R.cells ∧ slots ≤ R.slots)
    (kk : ∀ (H : Heap) (locs : List Loc), va_P D vwCl ws H → va_S A H0 H locs → W p l e R s m args below meth c H locs cells slots Q (F0 m (pc + 3) ls (.int r0 :: rest))) : W p l e R s m args below meth c H locs cells slots Q (F0 m pc ls st0) := by
  subst hq
  refine va_calli (va_runV (g := F0 m pc ls st0) (b := b) (As := As) (rest := rest) (Pc := va_Pc (.ref b :: As) (yP D ws)) (mc := 0) (ms := 0) S hM (cwV n S.2.2.2.2 hT rfl hrc hrs hd hR) ⟨yPb _ D ws, va_recv hK hP hc he, fun U hU hW => ⟨rfl, ⟨by rw [hU]; exact hP, va_K.moved hW.alike hK⟩, NN.warm hW hN⟩⟩ rfl hn hsize hst (lv_room hW) hdg ⟨hf.1, hf.2⟩) hS (fun _ _ h => h.elim) (fun _ h => h.elim) (fun r u t H1 locs1 ht hvm hw hB hz1 hk1 hS1 => ?_)
  subst hw
  exact kk H1 locs1 (zKeep hP hk1) hS1
theorem ycVl {r0 : Int64} (S : CallFix p m c cc nL s args lw_gd own) (hM : yRl l y bytes maxL ret rm D (.ref b :: As) ws r0) (hT : GoodIn lw_gd (wsV own idx C y (wz y bytes maxL ret))) (hrc : rm.cells = 0) (hrs : rm.slots = 0)
    (hd : y.cls = C ∧ y.cls ≠ "java/lang/invoke/MethodHandle" ∧ y.cls ≠ "java/lang/invoke/VarHandle" ∧ (parseMethodDescriptor y.desc).map (fun d => d.parameters.length) = some n) (hR : rm.frames + 1 ≤ R.frames ∧ 8 + (maxL + 11) + rm.locals ≤ R.locals)
    (hN : NN s) (hK : va_K D vwCl (TY D) s) (hP : va_P D vwCl ws H) (hS : va_S A H0 H locs) {ci : Nat} {fs : List Value} {q : vw_C} (q0 : Nat) (he : ws[q0]? = some (b, .inr (ci, fs))) (hc : vwCl[ci]? = some q) (hq : q.1 = C)
    (hn : As.length = n) (hsize : ls.size = nL) (hst : st0 = As.reverse ++ .ref b :: rest) (hW : (rest.map fun v => v.category).sum ≤ 8) (hdg : decode cc pc = .ok (.invokevirtual idx, 3)) (hf : cells ≤ R.cells ∧ slots ≤ R.slots)
    (kk : ∀ (H : Heap) (locs : List Loc), va_P D vwCl ws H → va_S A H0 H locs → W p l e R s m args below meth c H locs cells slots Q (F0 m (pc + 3) ls (.long r0 :: rest))) : W p l e R s m args below meth c H locs cells slots Q (F0 m pc ls st0) := by
  subst hq
  refine va_calll (va_runV (g := F0 m pc ls st0) (b := b) (As := As) (rest := rest) (Pc := va_Pc (.ref b :: As) (yP D ws)) (mc := 0) (ms := 0) S hM (cwV n S.2.2.2.2 hT rfl hrc hrs hd hR) ⟨yPb _ D ws, va_recv hK hP hc he, fun U hU hW => ⟨rfl, ⟨by rw [hU]; exact hP, va_K.moved hW.alike hK⟩, NN.warm hW hN⟩⟩ rfl hn hsize hst (lv_room hW) hdg ⟨hf.1, hf.2⟩) hS (fun _ _ h => h.elim) (fun _ h => h.elim) (fun r u t H1 locs1 ht hvm hw hB hz1 hk1 hS1 => ?_)
  subst hw
  exact kk H1 locs1 (zKeep hP hk1) hS1
theorem ycS {r0 : Int32} (S : CallFix p m c cc nL s args lw_gd own) (hM : yRi l y bytes maxL ret rm D As ws r0) (hT : GoodIn lw_gd (va_wsS own idx y (wz y bytes maxL ret))) (hrc : rm.cells = 0) (hrs : rm.slots = 0)
    (hd : y.cls ≠ "java/lang/invoke/MethodHandle" ∧ y.cls ≠ "java/lang/invoke/VarHandle" ∧ (parseMethodDescriptor y.desc).map (fun d => d.parameters.length) = some n) (hR : rm.frames + 1 ≤ R.frames ∧ 8 + (maxL + 11) + rm.locals ≤ R.locals)
    (hN : NN s) (hK : va_K D vwCl (TY D) s) (hP : va_P D vwCl ws H) (hS : va_S A H0 H locs)
    (hn : As.length = n) (hsize : ls.size = nL) (hst : st0 = As.reverse ++ rest) (hW : (rest.map fun v => v.category).sum ≤ 8) (hdg : decode cc pc = .ok (.invokestatic idx, 3)) (hf : cells ≤ R.cells ∧ slots ≤ R.slots)
    (kk : ∀ (H : Heap) (locs : List Loc), va_P D vwCl ws H → va_S A H0 H locs → W p l e R s m args below meth c H locs cells slots Q (F0 m (pc + 3) ls (.int r0 :: rest))) : W p l e R s m args below meth c H locs cells slots Q (F0 m pc ls st0) := by
  refine va_calli (va_runS (g := F0 m pc ls st0) (As := As) (rest := rest) (Pc := va_Pc As (yP D ws)) (mc := 0) (ms := 0) S hM (va_cwS n S.2.2.2.2 hT rfl hrc hrs hd hR) ⟨yPb _ D ws, fun U hU hW => ⟨rfl, ⟨by rw [hU]; exact hP, va_K.moved hW.alike hK⟩, NN.warm hW hN⟩⟩ rfl hn hsize hst (lv_room hW) hdg ⟨hf.1, hf.2⟩) hS (fun _ _ h => h.elim) (fun _ h => h.elim) (fun r u t H1 locs1 ht hvm hw hB hz1 hk1 hS1 => ?_)
  subst hw
  exact kk H1 locs1 (zKeep hP hk1) hS1
theorem ycSl {r0 : Int64} (S : CallFix p m c cc nL s args lw_gd own) (hM : yRl l y bytes maxL ret rm D As ws r0) (hT : GoodIn lw_gd (va_wsS own idx y (wz y bytes maxL ret))) (hrc : rm.cells = 0) (hrs : rm.slots = 0)
    (hd : y.cls ≠ "java/lang/invoke/MethodHandle" ∧ y.cls ≠ "java/lang/invoke/VarHandle" ∧ (parseMethodDescriptor y.desc).map (fun d => d.parameters.length) = some n) (hR : rm.frames + 1 ≤ R.frames ∧ 8 + (maxL + 11) + rm.locals ≤ R.locals)
    (hN : NN s) (hK : va_K D vwCl (TY D) s) (hP : va_P D vwCl ws H) (hS : va_S A H0 H locs)
    (hn : As.length = n) (hsize : ls.size = nL) (hst : st0 = As.reverse ++ rest) (hW : (rest.map fun v => v.category).sum ≤ 8) (hdg : decode cc pc = .ok (.invokestatic idx, 3)) (hf : cells ≤ R.cells ∧ slots ≤ R.slots)
    (kk : ∀ (H : Heap) (locs : List Loc), va_P D vwCl ws H → va_S A H0 H locs → W p l e R s m args below meth c H locs cells slots Q (F0 m (pc + 3) ls (.long r0 :: rest))) : W p l e R s m args below meth c H locs cells slots Q (F0 m pc ls st0) := by
  refine va_calll (va_runS (g := F0 m pc ls st0) (As := As) (rest := rest) (Pc := va_Pc As (yP D ws)) (mc := 0) (ms := 0) S hM (va_cwS n S.2.2.2.2 hT rfl hrc hrs hd hR) ⟨yPb _ D ws, fun U hU hW => ⟨rfl, ⟨by rw [hU]; exact hP, va_K.moved hW.alike hK⟩, NN.warm hW hN⟩⟩ rfl hn hsize hst (lv_room hW) hdg ⟨hf.1, hf.2⟩) hS (fun _ _ h => h.elim) (fun _ h => h.elim) (fun r u t H1 locs1 ht hvm hw hB hz1 hk1 hS1 => ?_)
  subst hw
  exact kk H1 locs1 (zKeep hP hk1) hS1
theorem ycN {r0 : Int32} {host : String} (S : CallFix p m c cc nL s args lw_gd own) (hM : yRi l y bytes maxL ret rm D As ws r0) (hcm : Cond.code y bytes maxL ret ∈ lw_gd) (hini : Cond.initialized y.cls ∈ lw_gd) (hli : va_Nw (.methodLinkNest own idx y host) s) (hst1 : Cond.static y ∈ lw_gd) (hrc : rm.cells = 0) (hrs : rm.slots = 0)
    (hd : y.cls ≠ "java/lang/invoke/MethodHandle" ∧ y.cls ≠ "java/lang/invoke/VarHandle" ∧ (parseMethodDescriptor y.desc).map (fun d => d.parameters.length) = some n) (hR : rm.frames + 1 ≤ R.frames ∧ 8 + (maxL + 11) + rm.locals ≤ R.locals)
    (hN : NN s) (hK : va_K D vwCl (TY D) s) (hP : va_P D vwCl ws H) (hS : va_S A H0 H locs)
    (hn : As.length = n) (hsize : ls.size = nL) (hst : st0 = As.reverse ++ rest) (hW : (rest.map fun v => v.category).sum ≤ 8) (hdg : decode cc pc = .ok (.invokestatic idx, 3)) (hf : cells ≤ R.cells ∧ slots ≤ R.slots)
    (kk : ∀ (H : Heap) (locs : List Loc), va_P D vwCl ws H → va_S A H0 H locs → W p l e R s m args below meth c H locs cells slots Q (F0 m (pc + 3) ls (.int r0 :: rest))) : W p l e R s m args below meth c H locs cells slots Q (F0 m pc ls st0) := by
  have ht := S.2.2.2.2
  refine va_calli (va_runSN (g := F0 m pc ls st0) (As := As) (rest := rest) (Pc := va_Pc As (yP D ws)) (mc := 0) (ms := 0) S hM ⟨va_cnB n ht (zG hcm) rfl hrc hrs hli (ht _ hini) hd hR, ht _ hst1, trivial⟩ ⟨yPb _ D ws, fun U hU hW => ⟨rfl, ⟨by rw [hU]; exact hP, va_K.moved hW.alike hK⟩, NN.warm hW hN⟩⟩ rfl hn hsize hst (lv_room hW) hdg ⟨hf.1, hf.2⟩) hS (fun _ _ h => h.elim) (fun _ h => h.elim) (fun r u t H1 locs1 ht hvm hw hB hz1 hk1 hS1 => ?_)
  subst hw
  exact kk H1 locs1 (zKeep hP hk1) hS1
theorem y_free {A0 : Nat → Prop} {ws : va_W} {H0 H : Heap} {locs : List Loc} (hD : va_D A0 ws) (hS : va_S A0 H0 H locs) (hA : ∀ q, H0.size ≤ q → A0 q) : ∀ q, va_A ws H.size q → A0 q := by
  intro q h
  rcases h with ⟨k, e, h⟩ | h
  · exact hD.2 k (q, e) h
  · exact hA q (Nat.le_trans hS.1 h)
theorem ywV {r0 : Int32} (S : CallFix p m c cc nL s args lw_gd own) (hM : yWi l y bytes maxL ret rm D H.size (.ref b :: As) ws ws' r0) (hT : GoodIn lw_gd (wsV own idx C y (wz y bytes maxL ret))) (hrc : rm.cells = 0) (hrs : rm.slots = 0)
    (hd : y.cls = C ∧ y.cls ≠ "java/lang/invoke/MethodHandle" ∧ y.cls ≠ "java/lang/invoke/VarHandle" ∧ (parseMethodDescriptor y.desc).map (fun d => d.parameters.length) = some n) (hR : rm.frames + 1 ≤ R.frames ∧ 8 + (maxL + 11) + rm.locals ≤ R.locals)
    (hN : NN s) (hK : va_K D vwCl (TY D) s) (hP : va_P D vwCl ws H) (hD : va_D A ws) (hS : va_S A H0 H locs) (hA : ∀ q : Nat, H0.size ≤ q → A q) {ci : Nat} {fs : List Value} {q : vw_C} (q0 : Nat) (he : ws[q0]? = some (b, .inr (ci, fs))) (hc : vwCl[ci]? = some q) (hq : q.1 = C)
    (hn : As.length = n) (hsize : ls.size = nL) (hst : st0 = As.reverse ++ .ref b :: rest) (hW : (rest.map fun v => v.category).sum ≤ 8) (hdg : decode cc pc = .ok (.invokevirtual idx, 3)) (hf : cells ≤ R.cells ∧ slots ≤ R.slots)
    (kk : ∀ (H : Heap) (locs : List Loc), va_P D vwCl ws' H → va_S A H0 H locs → W p l e R s m args below meth c H locs cells slots Q (F0 m (pc + 3) ls (.int r0 :: rest))) : W p l e R s m args below meth c H locs cells slots Q (F0 m pc ls st0) := by
  subst hq
  have hFc := y_free hD hS hA
  refine va_calli (va_runV (g := F0 m pc ls st0) (b := b) (As := As) (rest := rest) (Pc := va_Pc (.ref b :: As) (yW D H.size ws)) S hM (cwV n S.2.2.2.2 hT rfl hrc hrs hd hR) ⟨yWb _ D _ ws, va_recv hK hP hc he, fun U hU hW => ⟨rfl, ⟨by rw [hU], by rw [hU]; exact hP, va_K.moved hW.alike hK, hD.weaken (fun _ _ _ _ => trivial)⟩, NN.warm hW hN⟩⟩ rfl hn hsize hst (lv_room hW) hdg hf) hS (fun q _ h => hFc q h) hFc (fun r u t H1 locs1 ht hvm hw hB hz1 hk1 hS1 => ?_)
  obtain ⟨hP1, hK1, hD1⟩ := hB
  rw [ht] at hP1
  subst hw
  exact kk H1 locs1 hP1 hS1
theorem ywVl {r0 : Int64} (S : CallFix p m c cc nL s args lw_gd own) (hM : yWl l y bytes maxL ret rm D H.size (.ref b :: As) ws ws' r0) (hT : GoodIn lw_gd (wsV own idx C y (wz y bytes maxL ret))) (hrc : rm.cells = 0) (hrs : rm.slots = 0)
    (hd : y.cls = C ∧ y.cls ≠ "java/lang/invoke/MethodHandle" ∧ y.cls ≠ "java/lang/invoke/VarHandle" ∧ (parseMethodDescriptor y.desc).map (fun d => d.parameters.length) = some n) (hR : rm.frames + 1 ≤ R.frames ∧ 8 + (maxL + 11) + rm.locals ≤ R.locals)
    (hN : NN s) (hK : va_K D vwCl (TY D) s) (hP : va_P D vwCl ws H) (hD : va_D A ws) (hS : va_S A H0 H locs) (hA : ∀ q : Nat, H0.size ≤ q → A q) {ci : Nat} {fs : List Value} {q : vw_C} (q0 : Nat) (he : ws[q0]? = some (b, .inr (ci, fs))) (hc : vwCl[ci]? = some q) (hq : q.1 = C)
    (hn : As.length = n) (hsize : ls.size = nL) (hst : st0 = As.reverse ++ .ref b :: rest) (hW : (rest.map fun v => v.category).sum ≤ 8) (hdg : decode cc pc = .ok (.invokevirtual idx, 3)) (hf : cells ≤ R.cells ∧ slots ≤ R.slots)
    (kk : ∀ (H : Heap) (locs : List Loc), va_P D vwCl ws' H → va_S A H0 H locs → W p l e R s m args below meth c H locs cells slots Q (F0 m (pc + 3) ls (.long r0 :: rest))) : W p l e R s m args below meth c H locs cells slots Q (F0 m pc ls st0) := by
  subst hq
  have hFc := y_free hD hS hA
  refine va_calll (va_runV (g := F0 m pc ls st0) (b := b) (As := As) (rest := rest) (Pc := va_Pc (.ref b :: As) (yW D H.size ws)) S hM (cwV n S.2.2.2.2 hT rfl hrc hrs hd hR) ⟨yWb _ D _ ws, va_recv hK hP hc he, fun U hU hW => ⟨rfl, ⟨by rw [hU], by rw [hU]; exact hP, va_K.moved hW.alike hK, hD.weaken (fun _ _ _ _ => trivial)⟩, NN.warm hW hN⟩⟩ rfl hn hsize hst (lv_room hW) hdg hf) hS (fun q _ h => hFc q h) hFc (fun r u t H1 locs1 ht hvm hw hB hz1 hk1 hS1 => ?_)
  obtain ⟨hP1, hK1, hD1⟩ := hB
  rw [ht] at hP1
  subst hw
  exact kk H1 locs1 hP1 hS1
theorem ywVv (S : CallFix p m c cc nL s args lw_gd own) (hM : yWv l y bytes maxL ret rm D H.size (.ref b :: As) ws ws') (hT : GoodIn lw_gd (wsV own idx C y (wz y bytes maxL ret))) (hrc : rm.cells = 0) (hrs : rm.slots = 0)
    (hd : y.cls = C ∧ y.cls ≠ "java/lang/invoke/MethodHandle" ∧ y.cls ≠ "java/lang/invoke/VarHandle" ∧ (parseMethodDescriptor y.desc).map (fun d => d.parameters.length) = some n) (hR : rm.frames + 1 ≤ R.frames ∧ 8 + (maxL + 11) + rm.locals ≤ R.locals)
    (hN : NN s) (hK : va_K D vwCl (TY D) s) (hP : va_P D vwCl ws H) (hD : va_D A ws) (hS : va_S A H0 H locs) (hA : ∀ q : Nat, H0.size ≤ q → A q) {ci : Nat} {fs : List Value} {q : vw_C} (q0 : Nat) (he : ws[q0]? = some (b, .inr (ci, fs))) (hc : vwCl[ci]? = some q) (hq : q.1 = C)
    (hn : As.length = n) (hsize : ls.size = nL) (hst : st0 = As.reverse ++ .ref b :: rest) (hW : (rest.map fun v => v.category).sum ≤ 8) (hdg : decode cc pc = .ok (.invokevirtual idx, 3)) (hf : cells ≤ R.cells ∧ slots ≤ R.slots)
    (kk : ∀ (H : Heap) (locs : List Loc), va_P D vwCl ws' H → va_S A H0 H locs → W p l e R s m args below meth c H locs cells slots Q (F0 m (pc + 3) ls rest)) : W p l e R s m args below meth c H locs cells slots Q (F0 m pc ls st0) := by
  subst hq
  have hFc := y_free hD hS hA
  refine va_callv (va_runV (g := F0 m pc ls st0) (b := b) (As := As) (rest := rest) (Pc := va_Pc (.ref b :: As) (yW D H.size ws)) S hM (cwV n S.2.2.2.2 hT rfl hrc hrs hd hR) ⟨yWb _ D _ ws, va_recv hK hP hc he, fun U hU hW => ⟨rfl, ⟨by rw [hU], by rw [hU]; exact hP, va_K.moved hW.alike hK, hD.weaken (fun _ _ _ _ => trivial)⟩, NN.warm hW hN⟩⟩ rfl hn hsize hst (lv_room hW) hdg hf) hS (fun q _ h => hFc q h) hFc (fun u t H1 locs1 ht hvm hw hB hz1 hk1 hS1 => ?_)
  obtain ⟨hP1, hK1, hD1⟩ := hB
  rw [ht] at hP1
  exact kk H1 locs1 hP1 hS1
end LF
/-- a state gets a name -/
def stn {α : Type} (t : MS) (k : MS → Option α) : Option α := k t
theorem st_e {α : Type} {t : MS} {k : MS → Option α} {o : α} (h : stn t k = some o) : ∃ s, t = s ∧ k s = some o := ⟨t, rfl, h⟩
