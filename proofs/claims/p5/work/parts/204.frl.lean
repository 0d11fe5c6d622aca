/-! ===== what a method leaves as it was ===== -/
def Fr (I A L B : List Nat) (s o : MS) : Prop := (∀ k, k ∉ I → gI o k = gI s k) ∧ (∀ k, k ∉ A → gA o k = gA s k) ∧ (∀ k, k ∉ L → gL o k = gL s k) ∧ (∀ k, k ∉ B → gB o k = gB s k)
theorem Fr.rf {I A L B : List Nat} (s : MS) : Fr I A L B s s := ⟨fun _ _ => rfl, fun _ _ => rfl, fun _ _ => rfl, fun _ _ => rfl⟩
theorem Fr.uI {I A L B : List Nat} {s t : MS} {k : Nat} {v : Int} (h : Fr I A L B s t) (hk : k ∈ I) : Fr I A L B s (sI t k v) := by
  refine ⟨fun j hj => ?_, h.2.1, h.2.2.1, h.2.2.2⟩
  have e : j ≠ k := fun q => hj (q ▸ hk)
  have : gI (sI t k v) j = gI t j := if_neg e
  rw [this]; exact h.1 j hj
theorem Fr.uL {I A L B : List Nat} {s t : MS} {k : Nat} {v : Int} (h : Fr I A L B s t) (hk : k ∈ L) : Fr I A L B s (sL t k v) := by
  refine ⟨h.1, h.2.1, fun j hj => ?_, h.2.2.2⟩
  have e : j ≠ k := fun q => hj (q ▸ hk)
  have : gL (sL t k v) j = gL t j := if_neg e
  rw [this]; exact h.2.2.1 j hj
theorem Fr.uA {I A L B : List Nat} {s t : MS} {k : Nat} {f : Nat → Int} (h : Fr I A L B s t) (hk : k ∈ A) : Fr I A L B s (sA t k f) := by
  refine ⟨h.1, fun j hj => ?_, h.2.2.1, h.2.2.2⟩
  have e : j ≠ k := fun q => hj (q ▸ hk)
  have : gA (sA t k f) j = gA t j := if_neg e
  rw [this]; exact h.2.1 j hj
theorem Fr.uB {I A L B : List Nat} {s t : MS} {k : Nat} {f : Nat → Int} (h : Fr I A L B s t) (hk : k ∈ B) : Fr I A L B s (sB t k f) := by
  refine ⟨h.1, h.2.1, h.2.2.1, fun j hj => ?_⟩
  have e : j ≠ k := fun q => hj (q ▸ hk)
  have : gB (sB t k f) j = gB t j := if_neg e
  rw [this]; exact h.2.2.2 j hj
theorem Fr.tr {I A L B I1 A1 L1 B1 : List Nat} {s t u : MS} (h : Fr I A L B s t) (g : Fr I1 A1 L1 B1 t u) (hs : (∀ k, k ∈ I1 → k ∈ I) ∧ (∀ k, k ∈ A1 → k ∈ A) ∧ (∀ k, k ∈ L1 → k ∈ L) ∧ (∀ k, k ∈ B1 → k ∈ B)) : Fr I A L B s u :=
  ⟨fun k hk => (g.1 k (fun q => hk (hs.1 k q))).trans (h.1 k hk), fun k hk => (g.2.1 k (fun q => hk (hs.2.1 k q))).trans (h.2.1 k hk), fun k hk => (g.2.2.1 k (fun q => hk (hs.2.2.1 k q))).trans (h.2.2.1 k hk), fun k hk => (g.2.2.2 k (fun q => hk (hs.2.2.2 k q))).trans (h.2.2.2 k hk)⟩
theorem fr_ind {P : Nat → Prop} (z : P 0) (s : ∀ n, P n → P (n + 1)) : ∀ n, P n := by
  intro n
  induction n with
  | zero => exact z
  | succ n ih => exact s n ih
abbrev F_rg (s o : MS) : Prop := Fr [100, 101, 102, 103, 104, 105, 106, 107, 108, 109, 110, 111, 941] [48] [] [] s o
