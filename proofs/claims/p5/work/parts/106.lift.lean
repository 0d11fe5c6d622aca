/-! ===== the lifted state: ints, longs, rows of ints, rows of longs, by number ===== -/
def i2 (z : Int) : Int32 := Int32.ofInt z
def i8 (z : Int) : Int64 := Int64.ofInt z
abbrev MS : Type := (Nat → Int) × (Nat → Int) × (Nat → Nat → Int) × (Nat → Nat → Int)
def gI (s : MS) (k : Nat) : Int := s.1 k
def gL (s : MS) (k : Nat) : Int := s.2.1 k
def gA (s : MS) (k : Nat) : Nat → Int := s.2.2.1 k
def gB (s : MS) (k : Nat) : Nat → Int := s.2.2.2 k
def sI (s : MS) (k : Nat) (v : Int) : MS := (fun j => if j = k then v else s.1 j, s.2)
def sL (s : MS) (k : Nat) (v : Int) : MS := (s.1, fun j => if j = k then v else s.2.1 j, s.2.2)
def sA (s : MS) (k : Nat) (f : Nat → Int) : MS := (s.1, s.2.1, fun j => if j = k then f else s.2.2.1 j, s.2.2.2)
def sB (s : MS) (k : Nat) (f : Nat → Int) : MS := (s.1, s.2.1, s.2.2.1, fun j => if j = k then f else s.2.2.2 j)
def upZ (f : Nat → Int) (i : Nat) (v : Int) : Nat → Int := fun j => if j = i then v else f j
/-! ===== what a step asks; none: the machine would throw, or a number leaves its range before it is compared ===== -/
def rdI {α : Type} (f : Nat → Int) (n : Nat) (i : Int) (k : Int → Option α) : Option α := if 0 ≤ i ∧ i < (n : Int) then k (f i.toNat) else none
def rdL {α : Type} (f : Nat → Int) (n : Nat) (i : Int) (k : Int → Option α) : Option α := if 0 ≤ i ∧ i < (n : Int) then k (f i.toNat) else none
def inb {α : Type} (n : Nat) (i : Int) (k : Option α) : Option α := if 0 ≤ i ∧ i < (n : Int) then k else none
abbrev R2 (x : Int) : Prop := -2147483648 ≤ x ∧ x ≤ 2147483647
abbrev R8 (x : Int) : Prop := -9223372036854775808 ≤ x ∧ x ≤ 9223372036854775807
def rg {α : Type} (x : Int) (k : Option α) : Option α := if R2 x then k else none
def rgL {α : Type} (x : Int) (k : Option α) : Option α := if R8 x then k else none
def dv {α : Type} (x y : Int) (k : Option α) : Option α := if (R2 x ∧ R2 y) ∧ ¬ y = 0 then k else none
def dvL {α : Type} (x y : Int) (k : Option α) : Option α := if (R8 x ∧ R8 y) ∧ ¬ y = 0 then k else none
def bo {α : Type} (v : Int) (k : Option α) : Option α := if v = 0 ∨ v = 1 then k else none
def eqg {α : Type} (x y : Int) (k : Option α) : Option α := if x = y then k else none
def cpg {α : Type} (sp dp n : Int) (n0 n1 : Nat) (k : Option α) : Option α := if (0 ≤ sp ∧ 0 ≤ dp ∧ 0 ≤ n) ∧ sp + n ≤ (n0 : Int) ∧ dp + n ≤ (n1 : Int) then k else none
def bn {α β : Type} (x : Option α) (k : α → Option β) : Option β := x.bind k
def ushr (x y : Int32) : Int32 := (x.toUInt32 >>> (y.toUInt32 &&& Int32.toUInt32 31)).toInt32
def ushrL (x : Int64) (y : Int32) : Int64 := (x.toUInt64 >>> (y.toInt64.toUInt64 &&& Int64.toUInt64 63)).toInt64
def shlL (x : Int64) (y : Int32) : Int64 := x <<< (y.toInt64 &&& 63)
def andZ (x y : Int) : Int := (i2 x &&& i2 y).toInt
def orZ (x y : Int) : Int := (i2 x ||| i2 y).toInt
def shlZ (x y : Int) : Int := (i2 x <<< (i2 y &&& 31)).toInt
def shrZ (x y : Int) : Int := (i2 x >>> (i2 y &&& 31)).toInt
def ushrZ (x y : Int) : Int := (ushr (i2 x) (i2 y)).toInt
def andL (x y : Int) : Int := (i8 x &&& i8 y).toInt
def orL (x y : Int) : Int := (i8 x ||| i8 y).toInt
def ushrLZ (x y : Int) : Int := (ushrL (i8 x) (i2 y)).toInt
def shlLZ (x y : Int) : Int := (shlL (i8 x) (i2 y)).toInt
def minZ (x y : Int) : Int := if y < x then y else x
def maxZ (x y : Int) : Int := if x < y then y else x
theorem i2_of (x : Int32) : i2 x.toInt = x := Int32.ofInt_toInt x
theorem i8_of (x : Int64) : i8 x.toInt = x := Int64.ofInt_toInt x
theorem i2_t {z : Int} (h : R2 z) : (i2 z).toInt = z := Int32.toInt_ofInt_of_le (by omega) (by omega)
theorem i8_t {z : Int} (h : R8 z) : (i8 z).toInt = z := Int64.toInt_ofInt_of_le (by omega) (by omega)
theorem i2_add (x y : Int) : i2 x + i2 y = i2 (x + y) := (Int32.ofInt_add x y).symm
theorem i2_sub (x y : Int) : i2 x - i2 y = i2 (x - y) := (Int32.ofInt_sub x y).symm
theorem i2_mul (x y : Int) : i2 x * i2 y = i2 (x * y) := (Int32.ofInt_mul x y).symm
theorem i8_add (x y : Int) : i8 x + i8 y = i8 (x + y) := (Int64.ofInt_add x y).symm
theorem i8_sub (x y : Int) : i8 x - i8 y = i8 (x - y) := (Int64.ofInt_sub x y).symm
theorem i8_mul (x y : Int) : i8 x * i8 y = i8 (x * y) := (Int64.ofInt_mul x y).symm
theorem i2_lt {x y : Int} (hx : R2 x) (hy : R2 y) : i2 x < i2 y ↔ x < y := by rw [Int32.lt_iff_toInt_lt, i2_t hx, i2_t hy]
theorem i2_le {x y : Int} (hx : R2 x) (hy : R2 y) : i2 x ≤ i2 y ↔ x ≤ y := by rw [Int32.le_iff_toInt_le, i2_t hx, i2_t hy]
theorem i2_eq {x y : Int} (hx : R2 x) (hy : R2 y) : i2 x = i2 y ↔ x = y := by rw [← Int32.toInt_inj, i2_t hx, i2_t hy]
theorem i8_lt {x y : Int} (hx : R8 x) (hy : R8 y) : i8 x < i8 y ↔ x < y := by rw [Int64.lt_iff_toInt_lt, i8_t hx, i8_t hy]
theorem i8_le {x y : Int} (hx : R8 x) (hy : R8 y) : i8 x ≤ i8 y ↔ x ≤ y := by rw [Int64.le_iff_toInt_le, i8_t hx, i8_t hy]
theorem i8_eq {x y : Int} (hx : R8 x) (hy : R8 y) : i8 x = i8 y ↔ x = y := by rw [← Int64.toInt_inj, i8_t hx, i8_t hy]
theorem l_lt {x y : Int} (hx : R8 x) (hy : R8 y) : lg_cmp (i8 x) (i8 y) < 0 ↔ x < y := (lg_cmp_lt _ _).trans (i8_lt hx hy)
theorem l_le {x y : Int} (hx : R8 x) (hy : R8 y) : lg_cmp (i8 x) (i8 y) ≤ 0 ↔ x ≤ y := (lg_cmp_le _ _).trans (i8_le hx hy)
theorem l_gt {x y : Int} (hx : R8 x) (hy : R8 y) : 0 < lg_cmp (i8 x) (i8 y) ↔ y < x := (lg_cmp_gt _ _).trans (i8_lt hy hx)
theorem l_ge {x y : Int} (hx : R8 x) (hy : R8 y) : 0 ≤ lg_cmp (i8 x) (i8 y) ↔ y ≤ x := (lg_cmp_ge _ _).trans (i8_le hy hx)
theorem l_eq {x y : Int} (hx : R8 x) (hy : R8 y) : lg_cmp (i8 x) (i8 y) = 0 ↔ x = y := (lg_cmp_eq _ _).trans (i8_eq hx hy)
theorem i2_l {x : Int} (h : R2 x) : (i2 x).toInt64 = i8 x := by rw [← Int64.toInt_inj, Int32.toInt_toInt64, i2_t h, i8_t (by omega)]
theorem i8_i (x : Int) : (i8 x).toInt32 = i2 x := Int64.toInt32_ofInt
theorem nI_i2 (n : Nat) : Int32.ofNat n = i2 (n : Int) := rfl
theorem i2_clamp {i : Int} {n : Nat} (h : 0 ≤ i ∧ i < (n : Int)) (hn : (n : Int) ≤ 2147483647) : (i2 i).toNatClampNeg = i.toNat := Int32.toNatClampNeg_ofInt_of_le (by omega) (by omega)
theorem i2_in {i : Int} {n : Nat} (h : 0 ≤ i ∧ i < (n : Int)) (hn : (n : Int) ≤ 2147483647) : vp_in (i2 i) n := vp_in_iff.mpr (by rw [i2_t (by omega)]; exact h)
theorem i2_min {x y : Int} (hx : R2 x) (hy : R2 y) : (if i2 y < i2 x then i2 y else i2 x) = i2 (minZ x y) := by
  unfold minZ
  by_cases h : y < x
  · rw [if_pos h, if_pos ((i2_lt hy hx).mpr h)]
  · rw [if_neg h, if_neg (mt (i2_lt hy hx).mp h)]
theorem i2_max {x y : Int} (hx : R2 x) (hy : R2 y) : (if i2 x < i2 y then i2 y else i2 x) = i2 (maxZ x y) := by
  unfold maxZ
  by_cases h : x < y
  · rw [if_pos h, if_pos ((i2_lt hx hy).mpr h)]
  · rw [if_neg h, if_neg (mt (i2_lt hx hy).mp h)]
theorem rg_e {α : Type} {x : Int} {k : Option α} {o : α} (h : rg x k = some o) : R2 x ∧ k = some o := by
  unfold rg at h
  split at h
  · exact ⟨‹_›, h⟩
  · cases h
theorem rgL_e {α : Type} {x : Int} {k : Option α} {o : α} (h : rgL x k = some o) : R8 x ∧ k = some o := by
  unfold rgL at h
  split at h
  · exact ⟨‹_›, h⟩
  · cases h
theorem dv_e {α : Type} {x y : Int} {k : Option α} {o : α} (h : dv x y k = some o) : ((R2 x ∧ R2 y) ∧ ¬ y = 0) ∧ k = some o := by
  unfold dv at h
  split at h
  · exact ⟨‹_›, h⟩
  · cases h
theorem dvL_e {α : Type} {x y : Int} {k : Option α} {o : α} (h : dvL x y k = some o) : ((R8 x ∧ R8 y) ∧ ¬ y = 0) ∧ k = some o := by
  unfold dvL at h
  split at h
  · exact ⟨‹_›, h⟩
  · cases h
theorem dv_nz {x y : Int} (h : (R2 x ∧ R2 y) ∧ ¬ y = 0) : ¬ i2 y = 0 := fun q => h.2 ((i2_eq (y := 0) h.1.2 (by decide)).mp q)
theorem dvL_nz {x y : Int} (h : (R8 x ∧ R8 y) ∧ ¬ y = 0) : ¬ i8 y = 0 := fun q => h.2 ((i8_eq (y := 0) h.1.2 (by decide)).mp q)
theorem dv_d {x y : Int} (h : (R2 x ∧ R2 y) ∧ ¬ y = 0) : i2 x / i2 y = i2 (Int.tdiv x y) := (Int32.ofInt_tdiv (by show (-2147483648 : Int) ≤ x; exact h.1.1.1) (by show x ≤ (2147483647 : Int); exact h.1.1.2) (by show (-2147483648 : Int) ≤ y; exact h.1.2.1) (by show y ≤ (2147483647 : Int); exact h.1.2.2)).symm
theorem dvL_d {x y : Int} (h : (R8 x ∧ R8 y) ∧ ¬ y = 0) : i8 x / i8 y = i8 (Int.tdiv x y) := (Int64.ofInt_tdiv (by show (-9223372036854775808 : Int) ≤ x; exact h.1.1.1) (by show x ≤ (9223372036854775807 : Int); exact h.1.1.2) (by show (-9223372036854775808 : Int) ≤ y; exact h.1.2.1) (by show y ≤ (9223372036854775807 : Int); exact h.1.2.2)).symm
theorem dv_r {x y : Int} (h : (R2 x ∧ R2 y) ∧ ¬ y = 0) : i2 x - i2 x / i2 y * i2 y = i2 (Int.tmod x y) := by
  rw [dv_d h, i2_mul, i2_sub, Int.tmod_def, Int.mul_comm]
theorem dvL_r {x y : Int} (h : (R8 x ∧ R8 y) ∧ ¬ y = 0) : i8 x - i8 x / i8 y * i8 y = i8 (Int.tmod x y) := by
  rw [dvL_d h, i8_mul, i8_sub, Int.tmod_def, Int.mul_comm]
theorem upZ_i2 {f : Nat → Int} {i : Nat} {v : Int} : upd (fun j => i2 (f j)) i (i2 v) = fun j => i2 (upZ f i v j) := by
  funext j
  unfold upd upZ
  by_cases h : j = i
  · rw [if_pos h, if_pos h]
  · rw [if_neg h, if_neg h]
theorem upZ_i8 {f : Nat → Int} {i : Nat} {v : Int} : vp_updL (fun j => i8 (f j)) i (i8 v) = fun j => i8 (upZ f i v j) := by
  funext j
  unfold vp_updL upZ
  by_cases h : j = i
  · rw [if_pos h, if_pos h]
  · rw [if_neg h, if_neg h]
theorem cpy_i2 {f g : Nat → Int} {sp dp n : Nat} : va_cpy (fun j => i2 (f j)) (fun j => i2 (g j)) sp dp n = fun j => i2 (va_cpy f g sp dp n j) := by
  funext j
  unfold va_cpy
  by_cases h : dp ≤ j ∧ j < dp + n
  · rw [if_pos h, if_pos h]
  · rw [if_neg h, if_neg h]
/-- a loop, so many times at most -/
def lp {T : Type} (z : T) (b : T → T) : Nat → T
  | 0 => z
  | n + 1 => b (lp z b n)
/-- more than any loop here goes -/
def FU : Nat := 10 ^ 60
theorem rdI_e {α : Type} {f : Nat → Int} {n : Nat} {i : Int} {k : Int → Option α} {o : α} (h : rdI f n i k = some o) : ∃ x, f i.toNat = x ∧ (0 ≤ i ∧ i < (n : Int)) ∧ k x = some o := by
  unfold rdI at h
  split at h
  · exact ⟨_, rfl, ‹_›, h⟩
  · cases h
theorem rdL_e {α : Type} {f : Nat → Int} {n : Nat} {i : Int} {k : Int → Option α} {o : α} (h : rdL f n i k = some o) : ∃ x, f i.toNat = x ∧ (0 ≤ i ∧ i < (n : Int)) ∧ k x = some o := by
  unfold rdL at h
  split at h
  · exact ⟨_, rfl, ‹_›, h⟩
  · cases h
theorem inb_e {α : Type} {n : Nat} {i : Int} {k : Option α} {o : α} (h : inb n i k = some o) : (0 ≤ i ∧ i < (n : Int)) ∧ k = some o := by
  unfold inb at h
  split at h
  · exact ⟨‹_›, h⟩
  · cases h
theorem bo_e {α : Type} {v : Int} {k : Option α} {o : α} (h : bo v k = some o) : (v = 0 ∨ v = 1) ∧ k = some o := by
  unfold bo at h
  split at h
  · exact ⟨‹_›, h⟩
  · cases h
theorem bo_n {v : Int} (h : v = 0 ∨ v = 1) : narrow .boolean (.int (i2 v)) = .int (i2 v) := by
  rcases h with rfl | rfl <;> decide
theorem bo_f {v : Int} (h : v = 0 ∨ v = 1) : fits .boolean (.int (i2 v)) = true := by
  rcases h with rfl | rfl <;> decide
theorem bo_v {v : Int} (h : v = 0 ∨ v = 1) : vp_nar .boolean (i2 v) = i2 v := by
  rcases h with rfl | rfl <;> decide
theorem eqg_e {α : Type} {x y : Int} {k : Option α} {o : α} (h : eqg x y k = some o) : x = y ∧ k = some o := by
  unfold eqg at h
  split at h
  · exact ⟨‹_›, h⟩
  · cases h
theorem cpg_e {α : Type} {sp dp n : Int} {n0 n1 : Nat} {k : Option α} {o : α} (h : cpg sp dp n n0 n1 k = some o) : ((0 ≤ sp ∧ 0 ≤ dp ∧ 0 ≤ n) ∧ sp + n ≤ (n0 : Int) ∧ dp + n ≤ (n1 : Int)) ∧ k = some o := by
  unfold cpg at h
  split at h
  · exact ⟨‹_›, h⟩
  · cases h
theorem bn_e {α β : Type} {x : Option α} {k : α → Option β} {o : β} (h : bn x k = some o) : ∃ r, x = some r ∧ k r = some o := Option.bind_eq_some_iff.mp h
theorem if_t {α : Type} {c : Prop} [Decidable c] {x y : α} {o : α} (hc : c) (h : (if c then x else y) = o) : x = o := by rw [if_pos hc] at h; exact h
theorem if_f {α : Type} {c : Prop} [Decidable c] {x y : α} {o : α} (hc : ¬ c) (h : (if c then x else y) = o) : y = o := by rw [if_neg hc] at h; exact h
/-- cells with the same addresses are as far apart -/
theorem va_D_same {A : Nat → Prop} {ws ws' : va_W} (h : va_D A ws) (e : ws'.map Prod.fst = ws.map Prod.fst) : va_D A ws' := by
  have key : ∀ (k : Nat) (q : Nat × va_E), ws'[k]? = some q → ∃ q', ws[k]? = some q' ∧ q'.1 = q.1 := by
    intro k q hk
    have h1 : (ws'.map Prod.fst)[k]? = some q.1 := by rw [List.getElem?_map, hk]; rfl
    rw [e, List.getElem?_map] at h1
    cases hi : ws[k]? with
    | none => rw [hi] at h1; cases h1
    | some q' => rw [hi] at h1; exact ⟨q', rfl, Option.some.inj h1⟩
  refine ⟨fun i j x y hi hj hxy => ?_, fun k q hk => ?_⟩
  · obtain ⟨x', h1, e1⟩ := key i x hi
    obtain ⟨y', h2, e2⟩ := key j y hj
    exact h.1 i j x' y' h1 h2 (by rw [e1, e2]; exact hxy)
  · obtain ⟨q', h1, e1⟩ := key k q hk
    rw [← e1]
    exact h.2 k q' h1
theorem va_A_same {ws ws' : va_W} {sz : Nat} (e : ws'.map Prod.fst = ws.map Prod.fst) : va_A ws' sz = va_A ws sz := by
  have key : ∀ {w1 w2 : va_W}, w1.map Prod.fst = w2.map Prod.fst → ∀ q, va_A w1 sz q → va_A w2 sz q := by
    intro w1 w2 e q h
    rcases h with ⟨k, x, h⟩ | h
    · have h1 : (w1.map Prod.fst)[k]? = some q := by rw [List.getElem?_map, h]; rfl
      rw [e, List.getElem?_map] at h1
      cases hi : w2[k]? with
      | none => rw [hi] at h1; cases h1
      | some q' => rw [hi] at h1; exact Or.inl ⟨k, q'.2, by rw [hi]; obtain ⟨x1, x2⟩ := q'; exact congrArg some (by simp at h1; simp [h1])⟩
    · exact Or.inr h
  funext q
  exact propext ⟨key e q, key e.symm q⟩
/-! ===== the one link between nest mates that a method needs ===== -/
def NN (U : State) : Prop := va_Nw (.methodLinkNest RX4 125 yX11_isKey "CloneVolumes") U
theorem NN.warm {s U : State} (hW : s.WarmedH U.vm) (h : NN s) : NN U := va_Nw.warmM hW h
theorem NN.call {U : State} (a : Array Value) (g : JFrame) (mk : MethodId) (h : NN U) : NN (U.calling g mk a) := va_Nw.same (u := U) (U := U.calling g mk a) rfl rfl h
abbrev yP (D : va_G) (WS : va_W) (U : State) : Prop := zP D WS U ∧ NN U
abbrev yW (D : va_G) (sz : Nat) (WS : va_W) (U : State) : Prop := zW D sz WS U ∧ NN U
theorem yPb (av : List Value) (D : va_G) (WS : va_W) : FrameBlind (va_Pc av (yP D WS)) := fun a U g mk q => ⟨q.1, ⟨q.2.1.1, va_K.moved (u := U) (U := U.calling g mk a) (Vm.Alike.refl U.vm) q.2.1.2⟩, q.2.2.call a g mk⟩
theorem yWb (av : List Value) (D : va_G) (sz : Nat) (WS : va_W) : FrameBlind (va_Pc av (yW D sz WS)) := fun a U g mk q => ⟨q.1, ⟨q.2.1.1, q.2.1.2.1, va_K.moved (u := U) (U := U.calling g mk a) (Vm.Alike.refl U.vm) q.2.1.2.2.1, q.2.1.2.2.2⟩, q.2.2.call a g mk⟩
section LF
variable {p : Program} {l : Launch} {e : Env} {R : Room} {s : State} {m : MethodId} {args : Array Value} {below : List Frame} {meth : Method} {c : Code} {H : Heap} {locs : List Loc} {cells slots : Nat} {Q : State → Prop}
variable {cc bytes : ByteArray} {pc : Nat} {ls : Array Slot} {rest st0 : List Value} {D : va_G} {A : Nat → Prop} {ws ws' : va_W} {H0 : Heap} {y : MethodName} {maxL nL mc ms n idx : Nat} {ret : Option FieldType} {rm : Room} {own C : String} {b a : Addr} {As : List Value}
/-- a place where roads meet -/
theorem y_head {σ : Type} {pcJ : Nat} {g0 : JFrame} (Inv : σ → Heap → List Loc → Array Slot → Prop) (stk : σ → List Value) (J : ∀ (u : σ) (H : Heap) (locs : List Loc) (ls : Array Slot), Inv u H locs ls → W p l e R s m args below meth c H locs cells slots Q (F0 m pcJ ls (stk u)))
    (k : (∀ (u : σ) (H : Heap) (locs : List Loc) (ls : Array Slot), Inv u H locs ls → W p l e R s m args below meth c H locs cells slots Q (F0 m pcJ ls (stk u))) → W p l e R s m args below meth c H locs cells slots Q g0) : W p l e R s m args below meth c H locs cells slots Q g0 := k J
/-- a loop's head -/
theorem y_loop {σ : Type} {pcJ : Nat} {g0 : JFrame} (Inv : Nat → σ → Heap → List Loc → Array Slot → Prop) (stk : σ → List Value) (z : ∀ (u : σ) (H : Heap) (locs : List Loc) (ls : Array Slot), ¬ Inv 0 u H locs ls)
    (step : ∀ n : Nat, (∀ (u : σ) (H : Heap) (locs : List Loc) (ls : Array Slot), Inv n u H locs ls → W p l e R s m args below meth c H locs cells slots Q (F0 m pcJ ls (stk u))) → ∀ (u : σ) (H : Heap) (locs : List Loc) (ls : Array Slot), Inv (n + 1) u H locs ls → W p l e R s m args below meth c H locs cells slots Q (F0 m pcJ ls (stk u)))
    (k : (∀ (n : Nat) (u : σ) (H : Heap) (locs : List Loc) (ls : Array Slot), Inv n u H locs ls → W p l e R s m args below meth c H locs cells slots Q (F0 m pcJ ls (stk u))) → W p l e R s m args below meth c H locs cells slots Q g0) : W p l e R s m args below meth c H locs cells slots Q g0 := by
  refine k (fun n => ?_)
  induction n with
  | zero => exact fun u H locs ls hI => (z u H locs ls hI).elim
  | succ n ih => exact step n ih
theorem ya_iald {i x : Int} (hexec : p.tables.exec = Jvm.exec) (hb : c.code = cc) (hK : va_K D vwCl (TY D) s) (hP : va_P D vwCl ws H) (q0 t0 : Nat) {cA : ClassId} {n : Nat} {f : Nat → Int} (ha : ws[q0]? = some (a, .inl (cA, n, .inl (fun j => i2 (f j))))) (ht : (TY D)[t0]? = some (cA, .int)) (hn : (n : Int) ≤ 2147483647) (hv : f i.toNat = x) (hin : 0 ≤ i ∧ i < (n : Int)) (hdg : decode cc pc = .ok (.iaload, 1))
    (kk : W p l e R s m args below meth c H locs cells slots Q (F0 m (pc + 1) ls (.int (i2 x) :: rest))) : W p l e R s m args below meth c H locs cells slots Q (F0 m pc ls (.int (i2 i) :: .ref a :: rest)) := va_iald hexec hb hK hP q0 t0 ha ht (i2_in hin hn) hdg (by rw [i2_clamp hin hn, hv]; exact kk)
theorem ya_cald {i x : Int} (hexec : p.tables.exec = Jvm.exec) (hb : c.code = cc) (hK : va_K D vwCl (TY D) s) (hP : va_P D vwCl ws H) (q0 t0 : Nat) {cA : ClassId} {n : Nat} {f : Nat → Int} (ha : ws[q0]? = some (a, .inl (cA, n, .inl (fun j => i2 (f j))))) (ht : (TY D)[t0]? = some (cA, .char)) (hn : (n : Int) ≤ 2147483647) (hv : f i.toNat = x) (hin : 0 ≤ i ∧ i < (n : Int)) (hdg : decode cc pc = .ok (.caload, 1))
    (kk : W p l e R s m args below meth c H locs cells slots Q (F0 m (pc + 1) ls (.int (i2 x) :: rest))) : W p l e R s m args below meth c H locs cells slots Q (F0 m pc ls (.int (i2 i) :: .ref a :: rest)) := va_cald hexec hb hK hP q0 t0 ha ht (i2_in hin hn) hdg (by rw [i2_clamp hin hn, hv]; exact kk)
theorem ya_zald {i x : Int} (hexec : p.tables.exec = Jvm.exec) (hb : c.code = cc) (hK : va_K D vwCl (TY D) s) (hP : va_P D vwCl ws H) (q0 t0 : Nat) {cA : ClassId} {n : Nat} {f : Nat → Int} (ha : ws[q0]? = some (a, .inl (cA, n, .inl (fun j => i2 (f j))))) (ht : (TY D)[t0]? = some (cA, .boolean)) (hn : (n : Int) ≤ 2147483647) (hv : f i.toNat = x) (hin : 0 ≤ i ∧ i < (n : Int)) (hdg : decode cc pc = .ok (.baload, 1))
    (kk : W p l e R s m args below meth c H locs cells slots Q (F0 m (pc + 1) ls (.int (i2 x) :: rest))) : W p l e R s m args below meth c H locs cells slots Q (F0 m pc ls (.int (i2 i) :: .ref a :: rest)) := va_zald hexec hb hK hP q0 t0 ha ht (i2_in hin hn) hdg (by rw [i2_clamp hin hn, hv]; exact kk)
theorem ya_lald {i x : Int} (hexec : p.tables.exec = Jvm.exec) (hb : c.code = cc) (hK : va_K D vwCl (TY D) s) (hP : va_P D vwCl ws H) (q0 t0 : Nat) {cA : ClassId} {n : Nat} {f : Nat → Int} (ha : ws[q0]? = some (a, .inl (cA, n, .inr (.inl (fun j => i8 (f j)))))) (ht : (TY D)[t0]? = some (cA, .long)) (hn : (n : Int) ≤ 2147483647) (hv : f i.toNat = x) (hin : 0 ≤ i ∧ i < (n : Int)) (hdg : decode cc pc = .ok (.laload, 1))
    (kk : W p l e R s m args below meth c H locs cells slots Q (F0 m (pc + 1) ls (.long (i8 x) :: rest))) : W p l e R s m args below meth c H locs cells slots Q (F0 m pc ls (.int (i2 i) :: .ref a :: rest)) := va_lald hexec hb hK hP q0 t0 ha ht (i2_in hin hn) hdg (by rw [i2_clamp hin hn, hv]; exact kk)
theorem ya_iast {i x : Int} (hexec : p.tables.exec = Jvm.exec) (hb : c.code = cc) (hK : va_K D vwCl (TY D) s) (hP : va_P D vwCl ws H) (hD : va_D A ws) (hS : va_S A H0 H locs) (q0 t0 : Nat) {cA : ClassId} {n : Nat} {f : Nat → Int} (ha : ws[q0]? = some (a, .inl (cA, n, .inl (fun j => i2 (f j))))) (ht : (TY D)[t0]? = some (cA, .int)) (hn : (n : Int) ≤ 2147483647) (hin : 0 ≤ i ∧ i < (n : Int)) (hdg : decode cc pc = .ok (.iastore, 1)) (hw : ws.set q0 (a, .inl (cA, n, .inl (fun j => i2 (upZ f i.toNat x j)))) = ws')
    (kk : ∀ (H : Heap) (locs : List Loc), va_P D vwCl ws' H → va_S A H0 H locs → W p l e R s m args below meth c H locs cells slots Q (F0 m (pc + 1) ls rest)) : W p l e R s m args below meth c H locs cells slots Q (F0 m pc ls (.int (i2 x) :: .int (i2 i) :: .ref a :: rest)) := by
  subst hw
  refine va_iast hexec hb hK hP hD hS q0 t0 ha ht (i2_in hin hn) hdg (fun H1 l1 h1 _ h3 => kk H1 l1 ?_ h3)
  rw [i2_clamp hin hn, upZ_i2] at h1
  exact h1
theorem ya_zast {i x : Int} (hexec : p.tables.exec = Jvm.exec) (hb : c.code = cc) (hK : va_K D vwCl (TY D) s) (hP : va_P D vwCl ws H) (hD : va_D A ws) (hS : va_S A H0 H locs) (q0 t0 : Nat) {cA : ClassId} {n : Nat} {f : Nat → Int} (ha : ws[q0]? = some (a, .inl (cA, n, .inl (fun j => i2 (f j))))) (ht : (TY D)[t0]? = some (cA, .boolean)) (hn : (n : Int) ≤ 2147483647) (hin : 0 ≤ i ∧ i < (n : Int)) (hbo : x = 0 ∨ x = 1) (hdg : decode cc pc = .ok (.bastore, 1)) (hw : ws.set q0 (a, .inl (cA, n, .inl (fun j => i2 (upZ f i.toNat x j)))) = ws')
    (kk : ∀ (H : Heap) (locs : List Loc), va_P D vwCl ws' H → va_S A H0 H locs → W p l e R s m args below meth c H locs cells slots Q (F0 m (pc + 1) ls rest)) : W p l e R s m args below meth c H locs cells slots Q (F0 m pc ls (.int (i2 x) :: .int (i2 i) :: .ref a :: rest)) := by
  subst hw
  refine va_zast hexec hb hK hP hD hS q0 t0 ha ht (i2_in hin hn) hdg (fun H1 l1 h1 _ h3 => kk H1 l1 ?_ h3)
  rw [i2_clamp hin hn, bo_v hbo, upZ_i2] at h1
  exact h1
theorem ya_last {i x : Int} (hexec : p.tables.exec = Jvm.exec) (hb : c.code = cc) (hK : va_K D vwCl (TY D) s) (hP : va_P D vwCl ws H) (hD : va_D A ws) (hS : va_S A H0 H locs) (q0 t0 : Nat) {cA : ClassId} {n : Nat} {f : Nat → Int} (ha : ws[q0]? = some (a, .inl (cA, n, .inr (.inl (fun j => i8 (f j)))))) (ht : (TY D)[t0]? = some (cA, .long)) (hn : (n : Int) ≤ 2147483647) (hin : 0 ≤ i ∧ i < (n : Int)) (hdg : decode cc pc = .ok (.lastore, 1)) (hw : ws.set q0 (a, .inl (cA, n, .inr (.inl (fun j => i8 (upZ f i.toNat x j))))) = ws')
    (kk : ∀ (H : Heap) (locs : List Loc), va_P D vwCl ws' H → va_S A H0 H locs → W p l e R s m args below meth c H locs cells slots Q (F0 m (pc + 1) ls rest)) : W p l e R s m args below meth c H locs cells slots Q (F0 m pc ls (.long (i8 x) :: .int (i2 i) :: .ref a :: rest)) := by
  subst hw
  refine va_last hexec hb hK hP hD hS q0 t0 ha ht (i2_in hin hn) hdg (fun H1 l1 h1 _ h3 => kk H1 l1 ?_ h3)
  rw [i2_clamp hin hn, upZ_i8] at h1
  exact h1
theorem ya_put (hexec : p.tables.exec = Jvm.exec) (hb : c.code = cc) {own ref C : String} {T : u_T} {N ci index : Nat} {Ts : List Cond} (hts : ∀ w ∈ Ts, w.before args s = true) (hin : ∀ w ∈ u_ws C T N, w ∈ Ts) (ty0 : Nat → FieldType) (hty : ∀ k, k < N → parseFieldDescriptor (T k).2.2.1 = some (ty0 k)) (hnm : ∀ a, a < N → ∀ b, b < N → a ≠ b → (T a).2.1 ≠ (T b).2.1) (hown : s.vm.findClass own = some m.cls) (hK : va_K D vwCl (TY D) s) (hP : va_P D vwCl ws H) (hD : va_D A ws) (hS0 : va_S A H0 H locs) (q0 : Nat) {fs : List Value} (he : ws[q0]? = some (a, .inr (ci, fs))) (hc : vwCl[ci]? = some (C, T, N)) (k : Nat) (hk : k < N) (hlink : (Cond.fieldLink own index ref (T k).2.1 (T k).2.2.1).before args s = true) (hsame : ∀ x, s.fieldFound? (T k).1 (T k).2.1 (T k).2.2.1 = some x → s.fieldFound? ref (T k).2.1 (T k).2.2.1 = some x) (hfin : (T k).2.2.2 = false) {ty : FieldType} {v : Value} (hd : parseFieldDescriptor (T k).2.2.1 = some ty) (hn : narrow ty v = v) (hfit : fits ty v = true) (hl : k < fs.length)
    (hdg : decode cc pc = .ok (.putfield index, 3)) (hw : ws.set q0 (a, .inr (ci, fs.set k v)) = ws') (kk : ∀ (H : Heap) (locs : List Loc), va_P D vwCl ws' H → va_S A H0 H locs → W p l e R s m args below meth c H locs cells slots Q (F0 m (pc + 3) ls rest)) : W p l e R s m args below meth c H locs cells slots Q (F0 m pc ls (v :: .ref a :: rest)) := by
  subst hw
  exact va_put hexec hb hts hin ty0 hty hnm hown hK hP hD hS0 q0 he hc k hk hlink hsame hfin hd hn hfit hl hdg (fun H1 l1 h1 _ h3 => kk H1 l1 h1 h3)
theorem ya_copyi {sp dp n : Int} (hexec : p.tables.exec = Jvm.exec) (hb : c.code = cc) (hml : c.maxLocals = ls.size) {own : String} {index : Nat} (hown : s.vm.findClass own = some m.cls) (hlink : (Cond.methodLink own index arraycopyName).before args s = true) (hnat : (Cond.native arraycopyName).before args s = true) (hstat : (Cond.static arraycopyName).before args s = true) (hini : (Cond.initialized "java/lang/System").before args s = true)
    (hK : va_K D vwCl (TY D) s) (hP : va_P D vwCl ws H) (hD : va_D A ws) (hS : va_S A H0 H locs) (q0 q1 : Nat) {a0 : Nat} {n0 n1 : Nat} {f g : Nat → Int} (ha0 : ws[q0]? = some (a0, .inl (D.1 13, n0, .inl (fun j => i2 (f j))))) (ha1 : ws[q1]? = some (a, .inl (D.1 13, n1, .inl (fun j => i2 (g j))))) (hn0 : (n0 : Int) ≤ 2147483647) (hn1 : (n1 : Int) ≤ 2147483647)
    (hg : (0 ≤ sp ∧ 0 ≤ dp ∧ 0 ≤ n) ∧ sp + n ≤ (n0 : Int) ∧ dp + n ≤ (n1 : Int))
    (hframes : 1 ≤ R.frames) (hlocals : (rest.map fun v => v.category).sum + (nativeFrameWords "java/lang/System" "arraycopy" 5 + 11) ≤ R.locals) (hdg : decode cc pc = .ok (.invokestatic index, 3)) (hw : ws.set q1 (a, .inl (D.1 13, n1, .inl (fun j => i2 (va_cpy f g sp.toNat dp.toNat n.toNat j)))) = ws')
    (kk : ∀ (H : Heap) (locs : List Loc), va_P D vwCl ws' H → va_S A H0 H locs → W p l e R s m args below meth c H locs cells slots Q (F0 m (pc + 3) ls rest)) : W p l e R s m args below meth c H locs cells slots Q (F0 m pc ls (.int (i2 n) :: .int (i2 dp) :: .ref a :: .int (i2 sp) :: .ref a0 :: rest)) := by
  subst hw
  have e1 : (i2 sp).toNatClampNeg = sp.toNat := Int32.toNatClampNeg_ofInt_of_le (by omega) (by omega)
  have e2 : (i2 dp).toNatClampNeg = dp.toNat := Int32.toNatClampNeg_ofInt_of_le (by omega) (by omega)
  have e3 : (i2 n).toNatClampNeg = n.toNat := Int32.toNatClampNeg_ofInt_of_le (by omega) (by omega)
  refine va_copyi (t0 := 0) (t1 := 0) hexec hb hml hown hlink hnat hstat hini hK hP hD hS q0 q1 ha0 ha1 rfl rfl rfl (mt (i2_lt (y := 0) (by omega) (by decide)).mp (by omega)) (mt (i2_lt (y := 0) (by omega) (by decide)).mp (by omega)) (mt (i2_lt (y := 0) (by omega) (by decide)).mp (by omega)) (by rw [e1, e3]; omega) (by rw [e2, e3]; omega) (fun _ _ => rfl) hframes hlocals hdg (fun H1 l1 h1 _ h3 => kk H1 l1 ?_ h3)
  rw [e1, e2, e3, cpy_i2] at h1
  exact h1
/-- the contracts' two shapes: a world that is read, a world that is written -/
abbrev yRi (l : Launch) (y : MethodName) (bytes : ByteArray) (maxL : Nat) (ret : Option FieldType) (rm : Room) (D : va_G) (av : List Value) (ws : va_W) (r : Int32) : Prop := Met l y (wz y bytes maxL ret) rm (va_Pc av (yP D ws)) (va_Qi (fun q (_ : Unit) => q = r) (fun _ _ => True) (fun _ => False)) 0 0 (fun _ => False)
abbrev yRl (l : Launch) (y : MethodName) (bytes : ByteArray) (maxL : Nat) (ret : Option FieldType) (rm : Room) (D : va_G) (av : List Value) (ws : va_W) (r : Int64) : Prop := Met l y (wz y bytes maxL ret) rm (va_Pc av (yP D ws)) (va_Ql (fun q (_ : Unit) => q = r) (fun _ _ => True) (fun _ => False)) 0 0 (fun _ => False)
abbrev yWi (l : Launch) (y : MethodName) (bytes : ByteArray) (maxL : Nat) (ret : Option FieldType) (rm : Room) (D : va_G) (sz : Nat) (av : List Value) (ws ws' : va_W) (r : Int32) : Prop := Met l y (wz y bytes maxL ret) rm (va_Pc av (yW D sz ws)) (va_Qi (fun q (_ : Unit) => q = r) (fun _ t => zB D (va_A ws sz) ws' t) (va_A ws sz)) 0 0 (va_A ws sz)
abbrev yWl (l : Launch) (y : MethodName) (bytes : ByteArray) (maxL : Nat) (ret : Option FieldType) (rm : Room) (D : va_G) (sz : Nat) (av : List Value) (ws ws' : va_W) (r : Int64) : Prop := Met l y (wz y bytes maxL ret) rm (va_Pc av (yW D sz ws)) (va_Ql (fun q (_ : Unit) => q = r) (fun _ t => zB D (va_A ws sz) ws' t) (va_A ws sz)) 0 0 (va_A ws sz)
abbrev yWv (l : Launch) (y : MethodName) (bytes : ByteArray) (maxL : Nat) (ret : Option FieldType) (rm : Room) (D : va_G) (sz : Nat) (av : List Value) (ws ws' : va_W) : Prop := Met l y (wz y bytes maxL ret) rm (va_Pc av (yW D sz ws)) (va_Qv (fun (_ : Unit) => True) (fun _ t => zB D (va_A ws sz) ws' t) (va_A ws sz)) 0 0 (va_A ws sz)
theorem ycV {r0 : Int32} (S : CallFix p m c cc nL s args lw_gd own) (hM : yRi l y bytes maxL ret rm D (.ref b :: As) ws r0) (hT : GoodIn lw_gd (wsV own idx C y (wz y bytes maxL ret))) (hrc : rm.cells = 0) (hrs : rm.slots = 0)
    (hd : y.cls = C ∧ y.cls ≠ "java/lang/invoke/MethodHandle" ∧ y.cls ≠ "java/lang/invoke/VarHandle" ∧ (parseMethodDescriptor y.desc).map (fun d => d.parameters.length) = some n) (hR : rm.frames + 1 ≤ R.frames ∧ 8 + (maxL + 11) + rm.locals ≤ R.locals)
    (hN : NN s) (hK : va_K D vwCl (TY D) s) (hP : va_P D vwCl ws H) (hS : va_S A H0 H locs) {ci : Nat} {fs : List Value} {q : vw_C} (q0 : Nat) (he : ws[q0]? = some (b, .inr (ci, fs))) (hc : vwCl[ci]? = some q) (hq : q.1 = C)
    (hn : As.length = n) (hsize : ls.size = nL) (hst : st0 = As.reverse ++ .ref b :: rest) (hW : (rest.map fun v => v.category).sum ≤ 8) (hdg : decode cc pc = .ok (.invokevirtual idx, 3)) (hf : cells ≤ R.cells ∧ slots ≤ R.slots)
    (kk : ∀ (H : Heap) (locs : List Loc), va_P D vwCl ws H → va_S A H0 H locs → W p l e R s m args below meth c H locs cells slots Q (F0 m (pc + 3) ls (.int r0 :: rest))) : W p l e R s m args below meth c H locs cells slots Q (F0 m pc ls st0) := by
  subst hq
  refine va_calli (va_runV (g := F0 m pc ls st0) (b := b) (As := As) (rest := rest) (Pc := va_Pc (.ref b :: As) (yP D ws)) (mc := 0) (ms := 0) S hM (cwV n S.2.2.2.2 hT rfl hrc hrs hd hR) ⟨yPb _ D ws, va_recv hK hP hc he, fun U hU hW => ⟨rfl, ⟨by rw [hU]; exact hP, va_K.moved hW.alike hK⟩, NN.warm hW hN⟩⟩ rfl hn hsize hst (lv_room hW) hdg ⟨hf.1, hf.2⟩) hS (fun _ _ h => h.elim) (fun _ h => h.elim) (fun r u t H1 locs1 ht hvm hw hB hz1 hk1 hS1 => ?_)
  subst hw
  exact kk H1 locs1 (zKeep hP hk1) hS1
theorem ycVl {r0 : Int64} (S : CallFix p m c cc nL s args lw_gd own) (hM : yRl l y bytes maxL ret rm D (.ref b :: As) ws r0) (hT : GoodIn lw_gd (wsV own idx C y (wz y bytes maxL ret))) (hrc : rm.cells = 0) (hrs : rm.slots = 0)
    (hd : y.cls = C ∧ y.cls ≠ "java/lang/invoke/MethodHandle" ∧ y.cls ≠ "java/lang/invoke/VarHandle" ∧ (parseMethodDescriptor y.desc).map (fun d => d.parameters.length) = some n) (hR : rm.frames + 1 ≤ R.frames ∧ 8 + (maxL + 11) + rm.locals ≤ R.locals)
    (hN : NN s) (hK : va_K D vwCl (TY D) s) (hP : va_P D vwCl ws H) (hS : va_S A H0 H locs) {ci : Nat} {fs : List Value} {q : vw_C} (q0 : Nat) (he : ws[q0]? = some (b, .inr (ci, fs))) (hc : vwCl[ci]? = some q) (hq : q.1 = C)
    (hn : As.length = n) (hsize : ls.size = nL) (hst : st0 = As.reverse ++ .ref b :: rest) (hW : (rest.map fun v => v.category).sum ≤ 8) (hdg : decode cc pc = .ok (.invokevirtual idx, 3)) (hf : cells ≤ R.cells ∧ slots ≤ R.slots)
    (kk : ∀ (H : Heap) (locs : List Loc), va_P D vwCl ws H → va_S A H0 H locs → W p l e R s m args below meth c H locs cells slots Q (F0 m (pc + 3) ls (.long r0 :: rest))) : W p l e R s m args below meth c H locs cells slots Q (F0 m pc ls st0) := by
  subst hq
  refine va_calll (va_runV (g := F0 m pc ls st0) (b := b) (As := As) (rest := rest) (Pc := va_Pc (.ref b :: As) (yP D ws)) (mc := 0) (ms := 0) S hM (cwV n S.2.2.2.2 hT rfl hrc hrs hd hR) ⟨yPb _ D ws, va_recv hK hP hc he, fun U hU hW => ⟨rfl, ⟨by rw [hU]; exact hP, va_K.moved hW.alike hK⟩, NN.warm hW hN⟩⟩ rfl hn hsize hst (lv_room hW) hdg ⟨hf.1, hf.2⟩) hS (fun _ _ h => h.elim) (fun _ h => h.elim) (fun r u t H1 locs1 ht hvm hw hB hz1 hk1 hS1 => ?_)
  subst hw
  exact kk H1 locs1 (zKeep hP hk1) hS1
theorem ycS {r0 : Int32} (S : CallFix p m c cc nL s args lw_gd own) (hM : yRi l y bytes maxL ret rm D As ws r0) (hT : GoodIn lw_gd (va_wsS own idx y (wz y bytes maxL ret))) (hrc : rm.cells = 0) (hrs : rm.slots = 0)
    (hd : y.cls ≠ "java/lang/invoke/MethodHandle" ∧ y.cls ≠ "java/lang/invoke/VarHandle" ∧ (parseMethodDescriptor y.desc).map (fun d => d.parameters.length) = some n) (hR : rm.frames + 1 ≤ R.frames ∧ 8 + (maxL + 11) + rm.locals ≤ R.locals)
    (hN : NN s) (hK : va_K D vwCl (TY D) s) (hP : va_P D vwCl ws H) (hS : va_S A H0 H locs)
    (hn : As.length = n) (hsize : ls.size = nL) (hst : st0 = As.reverse ++ rest) (hW : (rest.map fun v => v.category).sum ≤ 8) (hdg : decode cc pc = .ok (.invokestatic idx, 3)) (hf : cells ≤ R.cells ∧ slots ≤ R.slots)
    (kk : ∀ (H : Heap) (locs : List Loc), va_P D vwCl ws H → va_S A H0 H locs → W p l e R s m args below meth c H locs cells slots Q (F0 m (pc + 3) ls (.int r0 :: rest))) : W p l e R s m args below meth c H locs cells slots Q (F0 m pc ls st0) := by
  refine va_calli (va_runS (g := F0 m pc ls st0) (As := As) (rest := rest) (Pc := va_Pc As (yP D ws)) (mc := 0) (ms := 0) S hM (va_cwS n S.2.2.2.2 hT rfl hrc hrs hd hR) ⟨yPb _ D ws, fun U hU hW => ⟨rfl, ⟨by rw [hU]; exact hP, va_K.moved hW.alike hK⟩, NN.warm hW hN⟩⟩ rfl hn hsize hst (lv_room hW) hdg ⟨hf.1, hf.2⟩) hS (fun _ _ h => h.elim) (fun _ h => h.elim) (fun r u t H1 locs1 ht hvm hw hB hz1 hk1 hS1 => ?_)
  subst hw
  exact kk H1 locs1 (zKeep hP hk1) hS1
theorem ycSl {r0 : Int64} (S : CallFix p m c cc nL s args lw_gd own) (hM : yRl l y bytes maxL ret rm D As ws r0) (hT : GoodIn lw_gd (va_wsS own idx y (wz y bytes maxL ret))) (hrc : rm.cells = 0) (hrs : rm.slots = 0)
    (hd : y.cls ≠ "java/lang/invoke/MethodHandle" ∧ y.cls ≠ "java/lang/invoke/VarHandle" ∧ (parseMethodDescriptor y.desc).map (fun d => d.parameters.length) = some n) (hR : rm.frames + 1 ≤ R.frames ∧ 8 + (maxL + 11) + rm.locals ≤ R.locals)
    (hN : NN s) (hK : va_K D vwCl (TY D) s) (hP : va_P D vwCl ws H) (hS : va_S A H0 H locs)
    (hn : As.length = n) (hsize : ls.size = nL) (hst : st0 = As.reverse ++ rest) (hW : (rest.map fun v => v.category).sum ≤ 8) (hdg : decode cc pc = .ok (.invokestatic idx, 3)) (hf : cells ≤ R.cells ∧ slots ≤ R.slots)
    (kk : ∀ (H : Heap) (locs : List Loc), va_P D vwCl ws H → va_S A H0 H locs → W p l e R s m args below meth c H locs cells slots Q (F0 m (pc + 3) ls (.long r0 :: rest))) : W p l e R s m args below meth c H locs cells slots Q (F0 m pc ls st0) := by
  refine va_calll (va_runS (g := F0 m pc ls st0) (As := As) (rest := rest) (Pc := va_Pc As (yP D ws)) (mc := 0) (ms := 0) S hM (va_cwS n S.2.2.2.2 hT rfl hrc hrs hd hR) ⟨yPb _ D ws, fun U hU hW => ⟨rfl, ⟨by rw [hU]; exact hP, va_K.moved hW.alike hK⟩, NN.warm hW hN⟩⟩ rfl hn hsize hst (lv_room hW) hdg ⟨hf.1, hf.2⟩) hS (fun _ _ h => h.elim) (fun _ h => h.elim) (fun r u t H1 locs1 ht hvm hw hB hz1 hk1 hS1 => ?_)
  subst hw
  exact kk H1 locs1 (zKeep hP hk1) hS1
theorem ycN {r0 : Int32} {host : String} (S : CallFix p m c cc nL s args lw_gd own) (hM : yRi l y bytes maxL ret rm D As ws r0) (hcm : Cond.code y bytes maxL ret ∈ lw_gd) (hini : Cond.initialized y.cls ∈ lw_gd) (hli : va_Nw (.methodLinkNest own idx y host) s) (hst1 : Cond.static y ∈ lw_gd) (hrc : rm.cells = 0) (hrs : rm.slots = 0)
    (hd : y.cls ≠ "java/lang/invoke/MethodHandle" ∧ y.cls ≠ "java/lang/invoke/VarHandle" ∧ (parseMethodDescriptor y.desc).map (fun d => d.parameters.length) = some n) (hR : rm.frames + 1 ≤ R.frames ∧ 8 + (maxL + 11) + rm.locals ≤ R.locals)
    (hN : NN s) (hK : va_K D vwCl (TY D) s) (hP : va_P D vwCl ws H) (hS : va_S A H0 H locs)
    (hn : As.length = n) (hsize : ls.size = nL) (hst : st0 = As.reverse ++ rest) (hW : (rest.map fun v => v.category).sum ≤ 8) (hdg : decode cc pc = .ok (.invokestatic idx, 3)) (hf : cells ≤ R.cells ∧ slots ≤ R.slots)
    (kk : ∀ (H : Heap) (locs : List Loc), va_P D vwCl ws H → va_S A H0 H locs → W p l e R s m args below meth c H locs cells slots Q (F0 m (pc + 3) ls (.int r0 :: rest))) : W p l e R s m args below meth c H locs cells slots Q (F0 m pc ls st0) := by
  have ht := S.2.2.2.2
  refine va_calli (va_runSN (g := F0 m pc ls st0) (As := As) (rest := rest) (Pc := va_Pc As (yP D ws)) (mc := 0) (ms := 0) S hM ⟨va_cnB n ht (zG hcm) rfl hrc hrs hli (ht _ hini) hd hR, ht _ hst1, trivial⟩ ⟨yPb _ D ws, fun U hU hW => ⟨rfl, ⟨by rw [hU]; exact hP, va_K.moved hW.alike hK⟩, NN.warm hW hN⟩⟩ rfl hn hsize hst (lv_room hW) hdg ⟨hf.1, hf.2⟩) hS (fun _ _ h => h.elim) (fun _ h => h.elim) (fun r u t H1 locs1 ht hvm hw hB hz1 hk1 hS1 => ?_)
  subst hw
  exact kk H1 locs1 (zKeep hP hk1) hS1
theorem y_free {A0 : Nat → Prop} {ws : va_W} {H0 H : Heap} {locs : List Loc} (hD : va_D A0 ws) (hS : va_S A0 H0 H locs) (hA : ∀ q, H0.size ≤ q → A0 q) : ∀ q, va_A ws H.size q → A0 q := by
  intro q h
  rcases h with ⟨k, e, h⟩ | h
  · exact hD.2 k (q, e) h
  · exact hA q (Nat.le_trans hS.1 h)
theorem ywV {r0 : Int32} (S : CallFix p m c cc nL s args lw_gd own) (hM : yWi l y bytes maxL ret rm D H.size (.ref b :: As) ws ws' r0) (hT : GoodIn lw_gd (wsV own idx C y (wz y bytes maxL ret))) (hrc : rm.cells = 0) (hrs : rm.slots = 0)
    (hd : y.cls = C ∧ y.cls ≠ "java/lang/invoke/MethodHandle" ∧ y.cls ≠ "java/lang/invoke/VarHandle" ∧ (parseMethodDescriptor y.desc).map (fun d => d.parameters.length) = some n) (hR : rm.frames + 1 ≤ R.frames ∧ 8 + (maxL + 11) + rm.locals ≤ R.locals)
    (hN : NN s) (hK : va_K D vwCl (TY D) s) (hP : va_P D vwCl ws H) (hD : va_D A ws) (hS : va_S A H0 H locs) (hA : ∀ q : Nat, H0.size ≤ q → A q) {ci : Nat} {fs : List Value} {q : vw_C} (q0 : Nat) (he : ws[q0]? = some (b, .inr (ci, fs))) (hc : vwCl[ci]? = some q) (hq : q.1 = C)
    (hn : As.length = n) (hsize : ls.size = nL) (hst : st0 = As.reverse ++ .ref b :: rest) (hW : (rest.map fun v => v.category).sum ≤ 8) (hdg : decode cc pc = .ok (.invokevirtual idx, 3)) (hf : cells ≤ R.cells ∧ slots ≤ R.slots)
    (kk : ∀ (H : Heap) (locs : List Loc), va_P D vwCl ws' H → va_S A H0 H locs → W p l e R s m args below meth c H locs cells slots Q (F0 m (pc + 3) ls (.int r0 :: rest))) : W p l e R s m args below meth c H locs cells slots Q (F0 m pc ls st0) := by
  subst hq
  have hFc := y_free hD hS hA
  refine va_calli (va_runV (g := F0 m pc ls st0) (b := b) (As := As) (rest := rest) (Pc := va_Pc (.ref b :: As) (yW D H.size ws)) S hM (cwV n S.2.2.2.2 hT rfl hrc hrs hd hR) ⟨yWb _ D _ ws, va_recv hK hP hc he, fun U hU hW => ⟨rfl, ⟨by rw [hU], by rw [hU]; exact hP, va_K.moved hW.alike hK, hD.weaken (fun _ _ _ _ => trivial)⟩, NN.warm hW hN⟩⟩ rfl hn hsize hst (lv_room hW) hdg hf) hS (fun q _ h => hFc q h) hFc (fun r u t H1 locs1 ht hvm hw hB hz1 hk1 hS1 => ?_)
  obtain ⟨hP1, hK1, hD1⟩ := hB
  rw [ht] at hP1
  subst hw
  exact kk H1 locs1 hP1 hS1
theorem ywVl {r0 : Int64} (S : CallFix p m c cc nL s args lw_gd own) (hM : yWl l y bytes maxL ret rm D H.size (.ref b :: As) ws ws' r0) (hT : GoodIn lw_gd (wsV own idx C y (wz y bytes maxL ret))) (hrc : rm.cells = 0) (hrs : rm.slots = 0)
    (hd : y.cls = C ∧ y.cls ≠ "java/lang/invoke/MethodHandle" ∧ y.cls ≠ "java/lang/invoke/VarHandle" ∧ (parseMethodDescriptor y.desc).map (fun d => d.parameters.length) = some n) (hR : rm.frames + 1 ≤ R.frames ∧ 8 + (maxL + 11) + rm.locals ≤ R.locals)
    (hN : NN s) (hK : va_K D vwCl (TY D) s) (hP : va_P D vwCl ws H) (hD : va_D A ws) (hS : va_S A H0 H locs) (hA : ∀ q : Nat, H0.size ≤ q → A q) {ci : Nat} {fs : List Value} {q : vw_C} (q0 : Nat) (he : ws[q0]? = some (b, .inr (ci, fs))) (hc : vwCl[ci]? = some q) (hq : q.1 = C)
    (hn : As.length = n) (hsize : ls.size = nL) (hst : st0 = As.reverse ++ .ref b :: rest) (hW : (rest.map fun v => v.category).sum ≤ 8) (hdg : decode cc pc = .ok (.invokevirtual idx, 3)) (hf : cells ≤ R.cells ∧ slots ≤ R.slots)
    (kk : ∀ (H : Heap) (locs : List Loc), va_P D vwCl ws' H → va_S A H0 H locs → W p l e R s m args below meth c H locs cells slots Q (F0 m (pc + 3) ls (.long r0 :: rest))) : W p l e R s m args below meth c H locs cells slots Q (F0 m pc ls st0) := by
  subst hq
  have hFc := y_free hD hS hA
  refine va_calll (va_runV (g := F0 m pc ls st0) (b := b) (As := As) (rest := rest) (Pc := va_Pc (.ref b :: As) (yW D H.size ws)) S hM (cwV n S.2.2.2.2 hT rfl hrc hrs hd hR) ⟨yWb _ D _ ws, va_recv hK hP hc he, fun U hU hW => ⟨rfl, ⟨by rw [hU], by rw [hU]; exact hP, va_K.moved hW.alike hK, hD.weaken (fun _ _ _ _ => trivial)⟩, NN.warm hW hN⟩⟩ rfl hn hsize hst (lv_room hW) hdg hf) hS (fun q _ h => hFc q h) hFc (fun r u t H1 locs1 ht hvm hw hB hz1 hk1 hS1 => ?_)
  obtain ⟨hP1, hK1, hD1⟩ := hB
  rw [ht] at hP1
  subst hw
  exact kk H1 locs1 hP1 hS1
theorem ywVv (S : CallFix p m c cc nL s args lw_gd own) (hM : yWv l y bytes maxL ret rm D H.size (.ref b :: As) ws ws') (hT : GoodIn lw_gd (wsV own idx C y (wz y bytes maxL ret))) (hrc : rm.cells = 0) (hrs : rm.slots = 0)
    (hd : y.cls = C ∧ y.cls ≠ "java/lang/invoke/MethodHandle" ∧ y.cls ≠ "java/lang/invoke/VarHandle" ∧ (parseMethodDescriptor y.desc).map (fun d => d.parameters.length) = some n) (hR : rm.frames + 1 ≤ R.frames ∧ 8 + (maxL + 11) + rm.locals ≤ R.locals)
    (hN : NN s) (hK : va_K D vwCl (TY D) s) (hP : va_P D vwCl ws H) (hD : va_D A ws) (hS : va_S A H0 H locs) (hA : ∀ q : Nat, H0.size ≤ q → A q) {ci : Nat} {fs : List Value} {q : vw_C} (q0 : Nat) (he : ws[q0]? = some (b, .inr (ci, fs))) (hc : vwCl[ci]? = some q) (hq : q.1 = C)
    (hn : As.length = n) (hsize : ls.size = nL) (hst : st0 = As.reverse ++ .ref b :: rest) (hW : (rest.map fun v => v.category).sum ≤ 8) (hdg : decode cc pc = .ok (.invokevirtual idx, 3)) (hf : cells ≤ R.cells ∧ slots ≤ R.slots)
    (kk : ∀ (H : Heap) (locs : List Loc), va_P D vwCl ws' H → va_S A H0 H locs → W p l e R s m args below meth c H locs cells slots Q (F0 m (pc + 3) ls rest)) : W p l e R s m args below meth c H locs cells slots Q (F0 m pc ls st0) := by
  subst hq
  have hFc := y_free hD hS hA
  refine va_callv (va_runV (g := F0 m pc ls st0) (b := b) (As := As) (rest := rest) (Pc := va_Pc (.ref b :: As) (yW D H.size ws)) S hM (cwV n S.2.2.2.2 hT rfl hrc hrs hd hR) ⟨yWb _ D _ ws, va_recv hK hP hc he, fun U hU hW => ⟨rfl, ⟨by rw [hU], by rw [hU]; exact hP, va_K.moved hW.alike hK, hD.weaken (fun _ _ _ _ => trivial)⟩, NN.warm hW hN⟩⟩ rfl hn hsize hst (lv_room hW) hdg hf) hS (fun q _ h => hFc q h) hFc (fun u t H1 locs1 ht hvm hw hB hz1 hk1 hS1 => ?_)
  obtain ⟨hP1, hK1, hD1⟩ := hB
  rw [ht] at hP1
  exact kk H1 locs1 hP1 hS1
end LF
/-- a state gets a name -/
def stn {α : Type} (t : MS) (k : MS → Option α) : Option α := k t
theorem st_e {α : Type} {t : MS} {k : MS → Option α} {o : α} (h : stn t k = some o) : ∃ s, t = s ∧ k s = some o := ⟨t, rfl, h⟩
