/-! ===== what holds of an answer, if there is one ===== -/
def pc {α : Type} (x : Option α) (P : α → Prop) : Prop := ∀ o, x = some o → P o
theorem pc_some {α : Type} {P : α → Prop} {a : α} (h : P a) : pc (some a) P := fun o e => by cases e; exact h
theorem pc_none {α : Type} {P : α → Prop} : pc (none : Option α) P := fun o e => by cases e
theorem pc_mono {α : Type} {x : Option α} {P Q : α → Prop} (h : pc x P) (g : ∀ a, P a → Q a) : pc x Q := fun o e => g o (h o e)
theorem pc_bn {α β : Type} {x : Option α} {k : α → Option β} {P : β → Prop} (g : ∀ a, x = some a → pc (k a) P) : pc (bn x k) P := by
  intro o e
  cases h : x with
  | none => rw [h] at e; cases e
  | some a => rw [h] at e; exact g a h o e
/-- with what is known of the call -/
theorem pc_bq {α β : Type} {x : Option α} {k : α → Option β} {P : β → Prop} {Q : α → Prop} (h : pc x Q) (g : ∀ a, Q a → pc (k a) P) : pc (bn x k) P := pc_bn (fun a e => g a (h a e))
theorem pc_rg {α : Type} {x : Int} {k : Option α} {P : α → Prop} (h : pc k P) : pc (rg x k) P := by
  unfold rg
  split
  · exact h
  · exact pc_none
theorem pc_bo {α : Type} {v : Int} {k : Option α} {P : α → Prop} (h : pc k P) : pc (bo v k) P := by
  unfold bo
  split
  · exact h
  · exact pc_none
theorem pc_dv {α : Type} {x y : Int} {k : Option α} {P : α → Prop} (h : pc k P) : pc (dv x y k) P := by
  unfold dv
  split
  · exact h
  · exact pc_none
theorem pc_inb {α : Type} {n : Nat} {i : Int} {k : Option α} {P : α → Prop} (h : pc k P) : pc (inb n i k) P := by
  unfold inb
  split
  · exact h
  · exact pc_none
theorem pc_inb2 {α : Type} {n : Nat} {i : Int} {k : Option α} {P : α → Prop} (h : 0 ≤ i ∧ i < (n : Int) → pc k P) : pc (inb n i k) P := by
  unfold inb
  split
  · rename_i q; exact h q
  · exact pc_none
theorem pc_eqg {α : Type} {x y : Int} {k : Option α} {P : α → Prop} (h : pc k P) : pc (eqg x y k) P := by
  unfold eqg
  split
  · exact h
  · exact pc_none
theorem pc_rdI {α : Type} {f : Nat → Int} {n : Nat} {i : Int} {k : Int → Option α} {P : α → Prop} (h : 0 ≤ i ∧ i < (n : Int) → pc (k (f i.toNat)) P) : pc (rdI f n i k) P := by
  unfold rdI
  split
  · rename_i q; exact h q
  · exact pc_none
theorem pc_if {α : Type} {c : Prop} [Decidable c] {x y : Option α} {P : α → Prop} (ht : c → pc x P) (hf : ¬ c → pc y P) : pc (if c then x else y) P := by
  by_cases h : c
  · rw [if_pos h]; exact ht h
  · rw [if_neg h]; exact hf h
theorem pc_stn {α : Type} {t : MS} {k : MS → Option α} {P : α → Prop} (h : ∀ s, t = s → pc (k s) P) : pc (stn t k) P := h t rfl
/-- a call that answers tells what a partial fact says -/
theorem wp_pc {α : Type} {x : Option α} {P Q : α → Prop} (h : wp x P) (g : pc x Q) : wp x (fun o => P o ∧ Q o) := by
  obtain ⟨o, e, hp⟩ := h
  exact ⟨o, e, hp, g o e⟩
theorem wp_det {α : Type} {x : Option α} {P : α → Prop} {o : α} (h : wp x P) (e : x = some o) : P o := by
  obtain ⟨o', h1, h2⟩ := h
  rw [h1] at e
  cases e
  exact h2
