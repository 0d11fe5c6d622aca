/-! ===== a function answers, and what then holds ===== -/
def wp {α : Type} (x : Option α) (P : α → Prop) : Prop := ∃ o, x = some o ∧ P o
theorem wp_some {α : Type} {P : α → Prop} {a : α} (h : P a) : wp (some a) P := ⟨a, rfl, h⟩
theorem wp_mono {α : Type} {x : Option α} {P Q : α → Prop} (h : wp x P) (g : ∀ a, P a → Q a) : wp x Q := by
  obtain ⟨o, h1, h2⟩ := h
  exact ⟨o, h1, g o h2⟩
/-- with the equation at hand -/
theorem wp_eq {α : Type} {x : Option α} {P Q : α → Prop} (h : wp x P) (g : ∀ a, x = some a → P a → Q a) : wp x Q := by
  obtain ⟨o, h1, h2⟩ := h
  exact ⟨o, h1, g o h1 h2⟩
theorem wp_bn {α β : Type} {x : Option α} {k : α → Option β} {P : β → Prop} {Q : α → Prop} (h : wp x Q) (g : ∀ a, x = some a → Q a → wp (k a) P) : wp (bn x k) P := by
  obtain ⟨o, h1, h2⟩ := h
  obtain ⟨b, h3, h4⟩ := g o h1 h2
  exact ⟨b, by rw [h1]; exact h3, h4⟩
theorem wp_rdI {α : Type} {f : Nat → Int} {n : Nat} {i : Int} {k : Int → Option α} {P : α → Prop} (hi : 0 ≤ i ∧ i < (n : Int)) (h : wp (k (f i.toNat)) P) : wp (rdI f n i k) P := by unfold rdI; rw [if_pos hi]; exact h
theorem wp_rdL {α : Type} {f : Nat → Int} {n : Nat} {i : Int} {k : Int → Option α} {P : α → Prop} (hi : 0 ≤ i ∧ i < (n : Int)) (h : wp (k (f i.toNat)) P) : wp (rdL f n i k) P := by unfold rdL; rw [if_pos hi]; exact h
theorem wp_inb {α : Type} {n : Nat} {i : Int} {k : Option α} {P : α → Prop} (hi : 0 ≤ i ∧ i < (n : Int)) (h : wp k P) : wp (inb n i k) P := by unfold inb; rw [if_pos hi]; exact h
theorem wp_rg {α : Type} {x : Int} {k : Option α} {P : α → Prop} (hx : R2 x) (h : wp k P) : wp (rg x k) P := by unfold rg; rw [if_pos hx]; exact h
theorem wp_rgL {α : Type} {x : Int} {k : Option α} {P : α → Prop} (hx : R8 x) (h : wp k P) : wp (rgL x k) P := by unfold rgL; rw [if_pos hx]; exact h
theorem wp_dv {α : Type} {x y : Int} {k : Option α} {P : α → Prop} (hx : (R2 x ∧ R2 y) ∧ ¬ y = 0) (h : wp k P) : wp (dv x y k) P := by unfold dv; rw [if_pos hx]; exact h
theorem wp_dvL {α : Type} {x y : Int} {k : Option α} {P : α → Prop} (hx : (R8 x ∧ R8 y) ∧ ¬ y = 0) (h : wp k P) : wp (dvL x y k) P := by unfold dvL; rw [if_pos hx]; exact h
theorem wp_bo {α : Type} {v : Int} {k : Option α} {P : α → Prop} (hv : v = 0 ∨ v = 1) (h : wp k P) : wp (bo v k) P := by unfold bo; rw [if_pos hv]; exact h
theorem wp_eqg {α : Type} {x y : Int} {k : Option α} {P : α → Prop} (hv : x = y) (h : wp k P) : wp (eqg x y k) P := by unfold eqg; rw [if_pos hv]; exact h
theorem wp_cpg {α : Type} {sp dp n : Int} {n0 n1 : Nat} {k : Option α} {P : α → Prop} (hv : (0 ≤ sp ∧ 0 ≤ dp ∧ 0 ≤ n) ∧ sp + n ≤ (n0 : Int) ∧ dp + n ≤ (n1 : Int)) (h : wp k P) : wp (cpg sp dp n n0 n1 k) P := by unfold cpg; rw [if_pos hv]; exact h
theorem wp_if {α : Type} {c : Prop} [Decidable c] {x y : Option α} {P : α → Prop} (ht : c → wp x P) (hf : ¬ c → wp y P) : wp (if c then x else y) P := by
  by_cases h : c
  · rw [if_pos h]; exact ht h
  · rw [if_neg h]; exact hf h
theorem wp_st {α : Type} {t : MS} {k : MS → Option α} {P : α → Prop} (h : wp (k t) P) : wp (stn t k) P := h
/-- the same with a name for the state -/
theorem wp_stn {α : Type} {t : MS} {k : MS → Option α} {P : α → Prop} (h : ∀ s, t = s → wp (k s) P) : wp (stn t k) P := h t rfl
theorem FU_big : 100000000 ≤ FU := by unfold FU; decide
theorem FU_big2 : 10000000000 ≤ FU := by unfold FU; decide
/-! ===== reading what was written ===== -/
theorem gI_sI (s : MS) (k : Nat) (v : Int) (j : Nat) : gI (sI s k v) j = if j = k then v else gI s j := rfl
theorem gI_sL (s : MS) (k : Nat) (v : Int) (j : Nat) : gI (sL s k v) j = gI s j := rfl
theorem gI_sA (s : MS) (k : Nat) (f : Nat → Int) (j : Nat) : gI (sA s k f) j = gI s j := rfl
theorem gI_sB (s : MS) (k : Nat) (f : Nat → Int) (j : Nat) : gI (sB s k f) j = gI s j := rfl
theorem gL_sI (s : MS) (k : Nat) (v : Int) (j : Nat) : gL (sI s k v) j = gL s j := rfl
theorem gL_sL (s : MS) (k : Nat) (v : Int) (j : Nat) : gL (sL s k v) j = if j = k then v else gL s j := rfl
theorem gL_sA (s : MS) (k : Nat) (f : Nat → Int) (j : Nat) : gL (sA s k f) j = gL s j := rfl
theorem gL_sB (s : MS) (k : Nat) (f : Nat → Int) (j : Nat) : gL (sB s k f) j = gL s j := rfl
theorem gA_sI (s : MS) (k : Nat) (v : Int) (j : Nat) : gA (sI s k v) j = gA s j := rfl
theorem gA_sL (s : MS) (k : Nat) (v : Int) (j : Nat) : gA (sL s k v) j = gA s j := rfl
theorem gA_sA (s : MS) (k : Nat) (f : Nat → Int) (j : Nat) : gA (sA s k f) j = if j = k then f else gA s j := rfl
theorem gA_sB (s : MS) (k : Nat) (f : Nat → Int) (j : Nat) : gA (sB s k f) j = gA s j := rfl
theorem gB_sI (s : MS) (k : Nat) (v : Int) (j : Nat) : gB (sI s k v) j = gB s j := rfl
theorem gB_sL (s : MS) (k : Nat) (v : Int) (j : Nat) : gB (sL s k v) j = gB s j := rfl
theorem gB_sA (s : MS) (k : Nat) (f : Nat → Int) (j : Nat) : gB (sA s k f) j = gB s j := rfl
theorem gB_sB (s : MS) (k : Nat) (f : Nat → Int) (j : Nat) : gB (sB s k f) j = if j = k then f else gB s j := rfl
theorem upZ_s (f : Nat → Int) (i : Nat) (v : Int) : upZ f i v i = v := if_pos rfl
theorem upZ_n {f : Nat → Int} {i j : Nat} {v : Int} (h : j ≠ i) : upZ f i v j = f j := if_neg h
/-! ===== bits ===== -/
theorem R2_and (x y : Int) : R2 (andZ x y) := ⟨Int32.le_toInt _, Int.le_of_lt_add_one (Int32.toInt_lt _)⟩
theorem R2_or (x y : Int) : R2 (orZ x y) := ⟨Int32.le_toInt _, Int.le_of_lt_add_one (Int32.toInt_lt _)⟩
theorem wp_rdIn {α : Type} {f : Nat → Int} {n : Nat} {i : Int} {k : Int → Option α} {P : α → Prop} (hi : 0 ≤ i ∧ i < (n : Int)) (h : ∀ y, f i.toNat = y → wp (k y) P) : wp (rdI f n i k) P := by unfold rdI; rw [if_pos hi]; exact h _ rfl
theorem wp_rdLn {α : Type} {f : Nat → Int} {n : Nat} {i : Int} {k : Int → Option α} {P : α → Prop} (hi : 0 ≤ i ∧ i < (n : Int)) (h : ∀ y, f i.toNat = y → wp (k y) P) : wp (rdL f n i k) P := by unfold rdL; rw [if_pos hi]; exact h _ rfl
/-! ===== a state that has a name ===== -/
theorem q_II {s t : MS} {k : Nat} {v : Int} (e : sI s k v = t) : gI t k = v := by subst e; exact if_pos rfl
theorem q_Ii {s t : MS} {k j : Nat} {v : Int} (e : sI s k v = t) (h : j ≠ k) : gI t j = gI s j := by subst e; exact if_neg h
theorem q_Li {s t : MS} {k j : Nat} {v : Int} (e : sL s k v = t) : gI t j = gI s j := by subst e; rfl
theorem q_Ai {s t : MS} {k j : Nat} {f : Nat → Int} (e : sA s k f = t) : gI t j = gI s j := by subst e; rfl
theorem q_Bi {s t : MS} {k j : Nat} {f : Nat → Int} (e : sB s k f = t) : gI t j = gI s j := by subst e; rfl
theorem q_AA {s t : MS} {k : Nat} {f : Nat → Int} (e : sA s k f = t) : gA t k = f := by subst e; exact if_pos rfl
theorem q_Aa {s t : MS} {k j : Nat} {f : Nat → Int} (e : sA s k f = t) (h : j ≠ k) : gA t j = gA s j := by subst e; exact if_neg h
theorem q_Ia {s t : MS} {k j : Nat} {v : Int} (e : sI s k v = t) : gA t j = gA s j := by subst e; rfl
theorem q_La {s t : MS} {k j : Nat} {v : Int} (e : sL s k v = t) : gA t j = gA s j := by subst e; rfl
theorem q_Ba {s t : MS} {k j : Nat} {f : Nat → Int} (e : sB s k f = t) : gA t j = gA s j := by subst e; rfl
theorem q_LL {s t : MS} {k : Nat} {v : Int} (e : sL s k v = t) : gL t k = v := by subst e; exact if_pos rfl
theorem q_Ll {s t : MS} {k j : Nat} {v : Int} (e : sL s k v = t) (h : j ≠ k) : gL t j = gL s j := by subst e; exact if_neg h
theorem q_Il {s t : MS} {k j : Nat} {v : Int} (e : sI s k v = t) : gL t j = gL s j := by subst e; rfl
theorem q_Al {s t : MS} {k j : Nat} {f : Nat → Int} (e : sA s k f = t) : gL t j = gL s j := by subst e; rfl
theorem q_Bl {s t : MS} {k j : Nat} {f : Nat → Int} (e : sB s k f = t) : gL t j = gL s j := by subst e; rfl
theorem q_BB {s t : MS} {k : Nat} {f : Nat → Int} (e : sB s k f = t) : gB t k = f := by subst e; exact if_pos rfl
theorem q_Bb {s t : MS} {k j : Nat} {f : Nat → Int} (e : sB s k f = t) (h : j ≠ k) : gB t j = gB s j := by subst e; exact if_neg h
theorem q_Ib {s t : MS} {k j : Nat} {v : Int} (e : sI s k v = t) : gB t j = gB s j := by subst e; rfl
theorem q_Lb {s t : MS} {k j : Nat} {v : Int} (e : sL s k v = t) : gB t j = gB s j := by subst e; rfl
theorem q_Ab {s t : MS} {k j : Nat} {f : Nat → Int} (e : sA s k f = t) : gB t j = gB s j := by subst e; rfl
