/-! ===== a volume is dropped on both sides ===== -/
theorem s_drop {v : Nat} {s : MS} : pc (m_x1_letGo (v : Int) s) (fun o => (∀ b, gA o 54 b ≤ gA s 54 b) ∧ (∀ k, k ≠ 54 → k ≠ 50 → k ≠ 60 → gA o k = gA s k) ∧ (∀ k, gI o k = gI s k) ∧ (∀ k, gL o k = gL s k) ∧ gA o 60 = upZ (gA s 60) v (-2)) := by
  have tv : ((v : Nat) : Int).toNat = v := Int.toNat_natCast _
  have J : ∀ S : MS, DCs s S → pc (m_x1_letGo_J34 (v : Int) S) (fun o => (∀ b, gA o 54 b ≤ gA s 54 b) ∧ (∀ k, k ≠ 54 → k ≠ 50 → k ≠ 60 → gA o k = gA s k) ∧ (∀ k, gI o k = gI s k) ∧ (∀ k, gL o k = gL s k) ∧ gA o 60 = upZ (gA s 60) v (-2)) := fun S H => by
    unfold m_x1_letGo_J34
    refine pc_inb (pc_stn (fun s4 e4 => pc_some ?_))
    try rw [tv] at e4
    exact ⟨fun b => by rw [(q_Aa e4 (by decide) : gA s4 54 = gA S 54)]; exact H.1 b, fun k k1 k2 k3 => (q_Aa e4 k3).trans (H.2.1 k k1 k2), fun k => (q_Ai e4).trans (H.2.2.1 k), fun k => (q_Al e4).trans (H.2.2.2 k), by rw [(q_AA e4 : gA s4 60 = _), H.2.1 60 (by decide) (by decide)]⟩
  unfold m_x1_letGo
  exact pc_rdI (fun _ => pc_rg (pc_if (fun _ => J s ⟨fun _ => Int.le_refl _, fun _ _ _ => rfl, fun _ => rfl, fun _ => rfl⟩) (fun _ => pc_rdI (fun _ => pc_bq s_rel (fun q11 h11 => J q11.2 h11)))))
theorem m_drop {v : Nat} {t : MS} (hv : v < 8) : pc (m_x12_drops (v : Int) t) (fun o => (∀ x, cM o x ≤ cM t x) ∧ (∀ i, 17 < i → i % 16 ≠ 1 → gA o 49 i = gA t 49 i) ∧ (∀ k, k ≠ 49 → k ≠ 56 → gA o k = gA t k) ∧ gA o 49 v = 255) := by
  have tv : ((v : Nat) : Int).toNat = v := Int.toNat_natCast _
  have J : ∀ T : MS, DCm t T → pc (m_x12_drops_J22 (v : Int) T) (fun o => (∀ x, cM o x ≤ cM t x) ∧ (∀ i, 17 < i → i % 16 ≠ 1 → gA o 49 i = gA t 49 i) ∧ (∀ k, k ≠ 49 → k ≠ 56 → gA o k = gA t k) ∧ gA o 49 v = 255) := fun T H => by
    unfold m_x12_drops_J22
    refine pc_inb (pc_stn (fun s4 e4 => pc_some ?_))
    try rw [tv] at e4
    have u : gA s4 49 = upZ (gA T 49) v 255 := q_AA e4
    refine ⟨fun x => ?_, fun i h1 h2 => ?_, fun k k1 k2 => (q_Aa e4 k1).trans (H.2.2.1 k k1 k2), by rw [u, upZ_s]⟩
    · show gA s4 49 (17 + 16 * x) ≤ gA t 49 (17 + 16 * x)
      rw [u, upZ_n (by omega)]; exact H.1 _
    · rw [u, upZ_n (by omega)]; exact H.2.1 i h2
  unfold m_x12_drops
  exact pc_rdI (fun _ => pc_rg (pc_if (fun _ => J t ⟨fun _ => Int.le_refl _, fun _ _ => rfl, fun _ _ _ => rfl, fun _ => rfl⟩) (fun _ => pc_rdI (fun _ => pc_bq m_falls (fun s10 h10 => J s10 h10)))))
theorem hM_785 {t o : MS} (h : ∀ i, 17 < i → i % 16 ≠ 1 → gA o 49 i = gA t 49 i) : hM o = hM t ∧ kM o = kM t ∧ vM o = vM t := by
  refine ⟨?_, ?_, ?_⟩
  · show ((fun p => gA o 49 (19 + 16 * p), fun p => gA o 49 (20 + 16 * p), fun p k => if k < 6 then gA o 49 (27 + 16 * p + k) else 0) : SH) = (fun p => gA t 49 (19 + 16 * p), fun p => gA t 49 (20 + 16 * p), fun p k => if k < 6 then gA t 49 (27 + 16 * p + k) else 0)
    have f1 : (fun p : Nat => gA o 49 (19 + 16 * p)) = fun p => gA t 49 (19 + 16 * p) := by
      funext p; exact h _ (by omega) (by omega)
    have f2 : (fun p : Nat => gA o 49 (20 + 16 * p)) = fun p => gA t 49 (20 + 16 * p) := by
      funext p; exact h _ (by omega) (by omega)
    have f3 : (fun p k : Nat => if k < 6 then gA o 49 (27 + 16 * p + k) else 0) = fun p k => if k < 6 then gA t 49 (27 + 16 * p + k) else 0 := by
      funext p k
      by_cases z : k < 6
      · rw [if_pos z, if_pos z]; exact h _ (by omega) (by omega)
      · rw [if_neg z, if_neg z]
    rw [f1, f2, f3]
  · funext p k
    show (if k < 6 then gA o 49 (21 + 16 * p + k) else 0) = if k < 6 then gA t 49 (21 + 16 * p + k) else 0
    by_cases z : k < 6
    · rw [if_pos z, if_pos z]; exact h _ (by omega) (by omega)
    · rw [if_neg z, if_neg z]
  · funext p
    exact h (18 + 16 * p) (by omega) (by omega)
theorem y_dropT {π σ : Nat → Nat} {s s' t t' : MS} {v : Nat} (h : SIM π σ s t) (hK : KLV t) (hv : v < 8) (e1 : m_x1_letGo (v : Int) s = some s') (e2 : m_x12_drops (v : Int) t = some t') (hr : ∀ u, u < 16 → u ≠ v → gA t' 49 u = gA t 49 u) (S : TS s' Z0 (-1)) (T : TM t' d0 (-1)) : SIM π σ s' t' := by
  obtain ⟨a1, a2, a3, a4, a5⟩ := s_drop s' e1
  obtain ⟨b1, b2, b3, b4⟩ := m_drop hv t' e2
  obtain ⟨m1, m2, m3⟩ := hM_785 b2
  refine sim_fin h hK (fun k k1 k2 k3 => a2 k (by omega) (by omega) k3) (a3 1060) (a4 1062) m1 m2 m3 (by rw [b3 39 (by decide) (by decide)]) (b3 54 (by decide) (by decide)) (fun u hu => hr (8 + u) (by omega) (by omega)) (fun u hu => ?_) (fun x hx w => ?_) (fun x hx w => Int.lt_of_lt_of_le w (b1 x)) S T
  · by_cases z : u = v
    · rw [z, a5, upZ_s, b4]
      exact Or.inr (Or.inl ⟨rfl, rfl⟩)
    · rw [a5, upZ_n z, hr u (by omega) z]
      exact (h.1.2.2.2 u hu).1
  · have q := a1 (π x)
    rw [(sim_c h hx).1] at q
    exact Or.inl (by omega)
