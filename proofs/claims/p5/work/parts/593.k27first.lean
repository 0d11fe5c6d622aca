/-! ===== the first statement on both sides ===== -/
def PLH (s t : MS) : Prop := NMS s t ∧ ACS s t ∧ gA t 39 4 = gI s 782 ∧ CDS s t ∧ gI s 106 = 0
theorem PLH_f {s s' t t' : MS} (h : PLH s t) (fI : ∀ i, i ∉ [100, 101, 107, 108, 109, 110, 111, 780, 781] → gI s' i = gI s i) (fA : ∀ k, gA s' k = gA s k) (gI' : gI t' 45 = gI t 45) (g39 : ∀ k, k ≠ 0 → k ≠ 1 → gA t' 39 k = gA t 39 k) (tA : ∀ k, k ≠ 39 → gA t' k = gA t k) (tB : ∀ k, gB t' k = gB t k) : PLH s' t' := by
  unfold PLH NMS ACS CDS
  rw [fA 40, fA 41, fA 42, fA 43, fA 44, fA 45, fA 46, fA 48, g39 2 (by decide) (by decide), g39 3 (by decide) (by decide), g39 4 (by decide) (by decide), tA 41 (by decide), tA 42 (by decide), tA 43 (by decide), tA 44 (by decide), tB 40, fI 784 (by decide), fI 785 (by decide), fI 782 (by decide), fI 941 (by decide), fI 106 (by decide), gI']
  exact h
theorem s_first {s : MS} (h0 : gI s 100 = 0) (h7 : gI s 783 = 0) : pc (m_x6_readStatement s) (fun o => ∃ hd, HDW s hd ∧ ((hd = 0 ∧ ∃ u, m_x6_readBlocks s = some u ∧ m_x6_readStatement_J244 u = some o) ∨ (hd ≠ 0 ∧ gI o 100 = 1 ∧ gI o 101 = gI s 108))) := by
  have J : ∀ hd : Int, pc (m_x6_readStatement_J29 hd 1 s) (fun o => (hd = 0 ∧ ∃ u, m_x6_readBlocks s = some u ∧ m_x6_readStatement_J244 u = some o) ∨ (hd ≠ 0 ∧ gI o 100 = 1 ∧ gI o 101 = gI s 108)) := fun hd => by
    unfold m_x6_readStatement_J29 m_x6_readStatement_J40
    exact pc_rg (pc_if (fun c => pc_rg (pc_rg (pc_if (fun _ => pc_rg (pc_if (fun _ => pc_bn (fun u eu => fun o eo => Or.inl ⟨c, u, eu, eo⟩)) (fun c2 => absurd c c2))) (fun c2 => absurd rfl c2)))) (fun c => pc_rg (pc_rg (pc_if (fun c2 => absurd c2 (by decide)) (fun _ => pc_bq (s_fail h0) (fun q67 h67 => pc_some (Or.inr ⟨c, h67⟩)))))))
  unfold m_x6_readStatement m_x6_readStatement_J16
  exact pc_rg (pc_if (fun c => pc_rg (pc_if (fun _ => pc_mono (J _) (fun o ho => ⟨_, Or.inl ⟨c, rfl⟩, ho⟩)) (fun c2 => absurd h7 c2))) (fun c => pc_rg (pc_if (fun _ => pc_mono (J _) (fun o ho => ⟨_, Or.inr ⟨c, rfl⟩, ho⟩)) (fun c2 => absurd h7 c2))))
