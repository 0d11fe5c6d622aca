/-! ===== formulas that stand: the kinds of what their steps pile ===== -/
/-- one step on the kinds of what lies there: true for tests (0 or 1) -/
def tyS (c : Int) (L : List Bool) : Option (List Bool) := if 0 ≤ c then some (decide (c ≤ 1) :: L) else if c ≤ -100 then some (false :: L) else if c ≤ -12 then (match L with | [] => none | x :: R => if c = -12 then (if x = true then some (true :: R) else none) else some (false :: R)) else (match L with | [] => none | x :: R => (match R with | [] => none | y :: R2 => if c ≤ -10 then (if x = true ∧ y = true then some (true :: R2) else none) else some (decide (c ≤ -7) :: R2)))
def tyr (f : Nat → Int) (a : Nat) : Nat → List Bool → Option (List Bool)
  | 0, L => some L
  | n + 1, L => (tyr f a n L).bind (tyS (f (a + n)))
theorem tyr_app (f : Nat → Int) (a m : Nat) (L R : List Bool) (h : tyr f a m L = some R) : ∀ n : Nat, tyr f a (m + n) L = tyr f (a + m) n R := by
  intro n
  induction n with
  | zero => exact h
  | succ n ih =>
    show (tyr f a (m + n) L).bind (tyS (f (a + (m + n)))) = (tyr f (a + m) n R).bind (tyS (f (a + m + n)))
    rw [ih, Nat.add_assoc]
theorem tyr_c {f g : Nat → Int} {a : Nat} {L : List Bool} : ∀ {n : Nat}, (∀ j, a ≤ j → j < a + n → g j = f j) → tyr g a n L = tyr f a n L := by
  intro n
  induction n with
  | zero => intro _; rfl
  | succ n ih =>
    intro e
    show (tyr g a n L).bind (tyS (g (a + n))) = (tyr f a n L).bind (tyS (f (a + n)))
    rw [ih (fun j h1 h2 => e j h1 (by omega)), e (a + n) (by omega) (by omega)]
/-- a formula that stands: steps as they were read -/
def FOK (f : Nat → Int) (a z B : Int) : Prop := (∀ j : Nat, a ≤ (j : Int) → (j : Int) < z → ¬ (f j = -13 ∨ f j = -14) ∧ (f j ≤ -100 → f j = -113 ∨ f j = -114)) ∧ tyr f a.toNat (z - a).toNat [] = some [true] ∧ ∀ n : Nat, n ≤ (z - a).toNat → ∃ R, tyr f a.toNat n [] = some R ∧ (R.length : Int) ≤ B
theorem FOK_c {f g : Nat → Int} {a z B : Int} (ha : 0 ≤ a) (h : FOK f a z B) (e : ∀ j : Nat, (j : Int) < z → g j = f j) : FOK g a z B := by
  obtain ⟨h1, h2, h3⟩ := h
  have r : ∀ n : Nat, n ≤ (z - a).toNat → ∀ L, tyr g a.toNat n L = tyr f a.toNat n L := fun n hn L => tyr_c (fun j j1 j2 => e j (by omega))
  exact ⟨fun j j1 j2 => by rw [e j j2]; exact h1 j j1 j2, by rw [r _ (Nat.le_refl _)]; exact h2, fun n hn => by rw [r n hn]; exact h3 n hn⟩
/-- what was told of splits, if it was -/
def FSr (f45 f46 f48 : Nat → Int) (n : Int) : Prop := f45 1 ≠ -1 → (0 ≤ f45 1 ∧ f45 1 ≤ f46 1 ∧ f46 1 ≤ n) ∧ FOK f48 (f45 1) (f46 1) 64
