/-! ===== sums: what closes, what parts there are ===== -/
def wkl : List Nat := 13 :: 11 :: 12 :: 14 :: 15 :: 16 :: 17 :: 18 :: 19 :: 20 :: []
def wk (k : Nat) : Nat := wkl.getD k 0
/-- allowed in a text of this kind -/
def alw (m : Int) (k : Int) : Prop := (m = 0 ∧ k < 3) ∨ (m = 1 ∧ (k = 0 ∨ k = 3)) ∨ (m = 2 ∧ (k < 2 ∨ k = 3)) ∨ (m = 3 ∧ (k = 0 ∨ 3 ≤ k))
section RC
variable {P : MS → Prop} {x13 : Int} {k0 b0 : Int} {f0 : Nat → Int} {s s' s'' : MS} {K E : List Int}
theorem r_wordHere {t : MS} (h : REL k0 b0 f0 s t K E) : pc (m_x12_qWordHere t) (fun q => REL k0 b0 f0 s q.2 K E ∧ gI q.2 2 = gI s 108 ∧ ((∃ k : Nat, k < 10 ∧ q.1 = (k : Int) ∧ gI s 107 = 1 ∧ gI s 110 = (wk k : Int)) ∨ (q.1 = -1 ∧ ∀ k : Nat, k < 10 → ¬ (gI s 107 = 1 ∧ gI s 110 = (wk k : Int))))) := by
  unfold m_x12_qWordHere
  have hw : ∀ (k : Nat), k < 10 → ∀ S : MS, REL k0 b0 f0 s S K E → pc (m_x12_isHere (91 + k) (wl (wk k)) S) (fun q => REL k0 b0 f0 s q.2 K E ∧ gI q.2 2 = gI s 108 ∧ ((q.1 = 1 ∧ gI s 107 = 1 ∧ gI s 110 = (wk k : Int)) ∨ (q.1 = 0 ∧ ¬ (gI s 107 = 1 ∧ gI s 110 = (wk k : Int))))) := fun k hk S hS => by
    have e : wqJ (12 + k) = wk k := by
      have : ∀ k, k < 10 → wqJ (12 + k) = wk k := by decide
      exact this k hk
    have l : wk k < 33 := by
      have : ∀ k, k < 10 → wk k < 33 := by decide
      exact this k hk
    refine r_here hS l rfl (fun j hj => ?_)
    have := hS.1.2.2.2.2.2.2 (12 + k) (by omega) j (by rw [e]; exact hj)
    rw [e, show 79 + (12 + k) = 91 + k by omega] at this
    exact this
  refine pc_bq (hw 0 (by decide) _ h) (fun q3 h3 => pc_rg (pc_if (fun c3 => ?_) (fun c3 => pc_some ⟨h3.1, h3.2.1, Or.inl ⟨0, by decide, rfl, ?_⟩⟩)))
  rotate_left
  · rcases h3.2.2 with g | g
    · exact g.2
    · exact absurd g.1 c3
  have n0 : ¬ (gI s 107 = 1 ∧ gI s 110 = (wk 0 : Int)) := by
    rcases h3.2.2 with g | g
    · omega
    · exact g.2
  refine pc_bq (hw 1 (by decide) _ h3.1) (fun q8 h8 => pc_rg (pc_if (fun c8 => ?_) (fun c8 => pc_some ⟨h8.1, h8.2.1, Or.inl ⟨1, by decide, rfl, ?_⟩⟩)))
  rotate_left
  · rcases h8.2.2 with g | g
    · exact g.2
    · exact absurd g.1 c8
  have n1 : ¬ (gI s 107 = 1 ∧ gI s 110 = (wk 1 : Int)) := by
    rcases h8.2.2 with g | g
    · omega
    · exact g.2
  refine pc_bq (hw 2 (by decide) _ h8.1) (fun q13 h13 => pc_rg (pc_if (fun c13 => ?_) (fun c13 => pc_some ⟨h13.1, h13.2.1, Or.inl ⟨2, by decide, rfl, ?_⟩⟩)))
  rotate_left
  · rcases h13.2.2 with g | g
    · exact g.2
    · exact absurd g.1 c13
  have n2 : ¬ (gI s 107 = 1 ∧ gI s 110 = (wk 2 : Int)) := by
    rcases h13.2.2 with g | g
    · omega
    · exact g.2
  refine pc_bq (hw 3 (by decide) _ h13.1) (fun q18 h18 => pc_rg (pc_if (fun c18 => ?_) (fun c18 => pc_some ⟨h18.1, h18.2.1, Or.inl ⟨3, by decide, rfl, ?_⟩⟩)))
  rotate_left
  · rcases h18.2.2 with g | g
    · exact g.2
    · exact absurd g.1 c18
  have n3 : ¬ (gI s 107 = 1 ∧ gI s 110 = (wk 3 : Int)) := by
    rcases h18.2.2 with g | g
    · omega
    · exact g.2
  refine pc_bq (hw 4 (by decide) _ h18.1) (fun q23 h23 => pc_rg (pc_if (fun c23 => ?_) (fun c23 => pc_some ⟨h23.1, h23.2.1, Or.inl ⟨4, by decide, rfl, ?_⟩⟩)))
  rotate_left
  · rcases h23.2.2 with g | g
    · exact g.2
    · exact absurd g.1 c23
  have n4 : ¬ (gI s 107 = 1 ∧ gI s 110 = (wk 4 : Int)) := by
    rcases h23.2.2 with g | g
    · omega
    · exact g.2
  refine pc_bq (hw 5 (by decide) _ h23.1) (fun q28 h28 => pc_rg (pc_if (fun c28 => ?_) (fun c28 => pc_some ⟨h28.1, h28.2.1, Or.inl ⟨5, by decide, rfl, ?_⟩⟩)))
  rotate_left
  · rcases h28.2.2 with g | g
    · exact g.2
    · exact absurd g.1 c28
  have n5 : ¬ (gI s 107 = 1 ∧ gI s 110 = (wk 5 : Int)) := by
    rcases h28.2.2 with g | g
    · omega
    · exact g.2
  refine pc_bq (hw 6 (by decide) _ h28.1) (fun q33 h33 => pc_rg (pc_if (fun c33 => ?_) (fun c33 => pc_some ⟨h33.1, h33.2.1, Or.inl ⟨6, by decide, rfl, ?_⟩⟩)))
  rotate_left
  · rcases h33.2.2 with g | g
    · exact g.2
    · exact absurd g.1 c33
  have n6 : ¬ (gI s 107 = 1 ∧ gI s 110 = (wk 6 : Int)) := by
    rcases h33.2.2 with g | g
    · omega
    · exact g.2
  refine pc_bq (hw 7 (by decide) _ h33.1) (fun q38 h38 => pc_rg (pc_if (fun c38 => ?_) (fun c38 => pc_some ⟨h38.1, h38.2.1, Or.inl ⟨7, by decide, rfl, ?_⟩⟩)))
  rotate_left
  · rcases h38.2.2 with g | g
    · exact g.2
    · exact absurd g.1 c38
  have n7 : ¬ (gI s 107 = 1 ∧ gI s 110 = (wk 7 : Int)) := by
    rcases h38.2.2 with g | g
    · omega
    · exact g.2
  refine pc_bq (hw 8 (by decide) _ h38.1) (fun q43 h43 => pc_rg (pc_if (fun c43 => ?_) (fun c43 => pc_some ⟨h43.1, h43.2.1, Or.inl ⟨8, by decide, rfl, ?_⟩⟩)))
  rotate_left
  · rcases h43.2.2 with g | g
    · exact g.2
    · exact absurd g.1 c43
  have n8 : ¬ (gI s 107 = 1 ∧ gI s 110 = (wk 8 : Int)) := by
    rcases h43.2.2 with g | g
    · omega
    · exact g.2
  refine pc_bq (hw 9 (by decide) _ h43.1) (fun q48 h48 => pc_rg (pc_if (fun c48 => ?_) (fun c48 => pc_some ⟨h48.1, h48.2.1, Or.inl ⟨9, by decide, rfl, ?_⟩⟩)))
  rotate_left
  · rcases h48.2.2 with g | g
    · exact g.2
    · exact absurd g.1 c48
  have n9 : ¬ (gI s 107 = 1 ∧ gI s 110 = (wk 9 : Int)) := by
    rcases h48.2.2 with g | g
    · omega
    · exact g.2
  refine pc_some ⟨h48.1, h48.2.1, Or.inr ⟨rfl, fun k hk => ?_⟩⟩
  match k, hk with
  | 0, _ => exact n0
  | 1, _ => exact n1
  | 2, _ => exact n2
  | 3, _ => exact n3
  | 4, _ => exact n4
  | 5, _ => exact n5
  | 6, _ => exact n6
  | 7, _ => exact n7
  | 8, _ => exact n8
  | 9, _ => exact n9
  | k + 10, hk => omega
theorem y_allowed {p0 : Int} {t : MS} (hm : 0 ≤ gI t 48 ∧ gI t 48 ≤ 3) : pc (m_x12_isAllowed p0 t) (fun r => (r = 1 ∧ alw (gI t 48) p0) ∨ (r = 0 ∧ ¬ alw (gI t 48) p0)) := by
  unfold m_x12_isAllowed m_x12_isAllowed_J83 m_x12_isAllowed_J88 m_x12_isAllowed_J68 m_x12_isAllowed_J73 m_x12_isAllowed_J52 m_x12_isAllowed_J57 m_x12_isAllowed_J42 alw
  refine pc_rg (pc_if (fun c => pc_rg (pc_if (fun c2 => pc_bo (pc_some ?_)) (fun c2 => pc_bo (pc_some ?_)))) (fun c => pc_if (fun c1 => pc_rg (pc_if (fun c2 => pc_bo (pc_some ?_)) (fun c2 => pc_rg (pc_if (fun c3 => pc_bo (pc_some ?_)) (fun c3 => pc_bo (pc_some ?_)))))) (fun c1 => pc_if (fun c4 => pc_rg (pc_if (fun c2 => pc_bo (pc_some ?_)) (fun c2 => pc_rg (pc_if (fun c3 => pc_bo (pc_some ?_)) (fun c3 => pc_bo (pc_some ?_)))))) (fun c4 => pc_rg (pc_if (fun c2 => pc_bo (pc_some ?_)) (fun c2 => pc_rg (pc_if (fun c3 => pc_bo (pc_some ?_)) (fun c3 => pc_bo (pc_some ?_)))))))))
  all_goals omega
theorem r_wordOf {p0 p1 : Int} {t : MS} (h : REL k0 b0 f0 s t K E) : pc (m_x12_qWordOf p0 p1 t) (fun q => REL k0 b0 f0 s q.2 K E ∧ gI q.2 2 = gI s 108 ∧ ((∃ k : Nat, k < 10 ∧ q.1 = (k : Int) ∧ (gI s 107 = 1 ∧ gI s 110 = (wk k : Int)) ∧ (p0 ≤ (k : Int) ∧ (k : Int) < p1) ∧ alw (gI s 105) (k : Int)) ∨ (q.1 = -1 ∧ ∀ k : Nat, k < 10 → (gI s 107 = 1 ∧ gI s 110 = (wk k : Int)) → (p0 ≤ (k : Int) ∧ (k : Int) < p1) → ¬ alw (gI s 105) (k : Int)))) := by
  unfold m_x12_qWordOf m_x12_qWordOf_J27 m_x12_qWordOf_J28
  refine pc_bq (r_wordHere h) (fun q6 h6 => ?_)
  obtain ⟨r6, S⟩ := q6
  obtain ⟨hS, h2, h6⟩ := h6
  dsimp only at hS h2 h6 ⊢
  have hm := hS.2.1.2
  have non : (∀ k : Nat, k < 10 → r6 = (k : Int) → (p0 ≤ (k : Int) ∧ (k : Int) < p1) → ¬ alw (gI s 105) (k : Int)) → (fun q : Int × MS => REL k0 b0 f0 s q.2 K E ∧ gI q.2 2 = gI s 108 ∧ ((∃ k : Nat, k < 10 ∧ q.1 = (k : Int) ∧ (gI s 107 = 1 ∧ gI s 110 = (wk k : Int)) ∧ (p0 ≤ (k : Int) ∧ (k : Int) < p1) ∧ alw (gI s 105) (k : Int)) ∨ (q.1 = -1 ∧ ∀ k : Nat, k < 10 → (gI s 107 = 1 ∧ gI s 110 = (wk k : Int)) → (p0 ≤ (k : Int) ∧ (k : Int) < p1) → ¬ alw (gI s 105) (k : Int)))) (-1, S) := fun hn => by
    refine ⟨hS, h2, Or.inr ⟨rfl, fun k hk hw hp => ?_⟩⟩
    rcases h6 with ⟨k', hk', e, hw'⟩ | ⟨_, g⟩
    · have inj : ∀ a, a < 10 → ∀ b, b < 10 → wk a = wk b → a = b := by decide
      have : k = k' := inj k hk k' hk' (by omega)
      rw [this] at hp ⊢
      exact hn k' hk' e hp
    · exact absurd hw (g k hk)
  refine pc_rg (pc_rg (pc_if (fun c => pc_some (non (fun k hk e hp => by omega))) (fun c => pc_rg (pc_rg (pc_if (fun c2 => pc_some (non (fun k hk e hp => by omega))) (fun c2 => pc_bq (y_allowed (by omega)) (fun r14 h14 => pc_rg (pc_if (fun c3 => pc_some (non (fun k hk e hp => ?_))) (fun c3 => pc_some ⟨hS, h2, ?_⟩)))))))))
  · rcases h14 with g | g
    · omega
    · rw [hm.1, e] at g; exact g.2
  · rcases h14 with g | g
    · rw [hm.1] at g
      rcases h6 with ⟨k, hk, e, hw⟩ | ⟨e, g'⟩
      · rw [e] at g ⊢
        exact Or.inl ⟨k, hk, rfl, hw, by omega, g.2⟩
      · exact Or.inr ⟨e, fun k hk hw => absurd hw (g' k hk)⟩
    · exact absurd g.1 c3
end RC
