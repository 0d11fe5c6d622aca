/-! ===== parts, products, sums: the same on both sides ===== -/
def SPart (g : MS → Option MS) : Prop := ∀ (s s' t : MS) (K : List Int) (k0 b0 : Int) (f0 : Nat → Int) (P : MS → Prop) (x13 : Int), g s = some s' → REL k0 b0 f0 s t K [] → (gI s' 100 = 0 → gI s 108 < gI s' 108 → gI s' 941 - gI s 941 ≤ gI s' 108 - gI s 108 → ∀ o, REL k0 b0 f0 s' o K [] → PE P x13 o) → (∀ o, BR s' o → P o) → PA P x13 t
def SSum (g : MS → Option MS) : Prop := ∀ (s s' t : MS) (K : List Int) (k0 b0 : Int) (f0 : Nat → Int) (P : MS → Prop) (x13 : Int), g s = some s' → REL k0 b0 f0 s t K [] → (¬ (1 ≤ hdk K ∧ hdk K ≤ 4) ∧ hdk K < 60) → (gI s' 100 = 0 → gI s 108 < gI s' 108 → gI s' 941 - gI s 941 ≤ gI s' 108 - gI s 108 → ¬ OPS s' → ∀ (o : MS) (E : List Int), REL k0 b0 f0 s' o K E → (∀ e, e ∈ E → 1 ≤ e ∧ e ≤ 4) → PB P x13 o) → (∀ o, BR s' o → P o) → PA P x13 t
def FKr (g : MS → Option MS) : Prop := ∀ s, pc (g s) (fun o => FKp 100 101 s o)
theorem BR_b {s s' o : MS} (f : FKp 100 101 s s') (h : BR s o) : BR s' o := BR_go h f (FKp.rf o)
theorem BR_0 {s t : MS} (h : BR s t) : gI t 5 ≠ 0 := by rw [h.2.1]; exact h.1
theorem dvl_b {f : Nat → Int} {a k : Nat} (h : ∀ j, j < k → isD (f (a + j))) (hk : k ≤ 4) : 0 ≤ dvl f a k ∧ dvl f a k ≤ 9999 := by
  have z : dvl f a 0 = 0 := rfl
  have e0 : dvl f a 1 = 10 * dvl f a 0 + f (a + 0) - 48 := rfl
  have e1 : dvl f a 2 = 10 * dvl f a 1 + f (a + 1) - 48 := rfl
  have e2 : dvl f a 3 = 10 * dvl f a 2 + f (a + 2) - 48 := rfl
  have e3 : dvl f a 4 = 10 * dvl f a 3 + f (a + 3) - 48 := rfl
  have hh : k = 0 ∨ k = 1 ∨ k = 2 ∨ k = 3 ∨ k = 4 := by omega
  rcases hh with q | q | q | q | q
  · rw [q]; omega
  · subst q
    have d0 := h 0 (by omega)
    omega
  · subst q
    have d0 := h 0 (by omega)
    have d1 := h 1 (by omega)
    omega
  · subst q
    have d0 := h 0 (by omega)
    have d1 := h 1 (by omega)
    have d2 := h 2 (by omega)
    omega
  · subst q
    have d0 := h 0 (by omega)
    have d1 := h 1 (by omega)
    have d2 := h 2 (by omega)
    have d3 := h 3 (by omega)
    omega
theorem nvl_b {s : MS} (h : TK s) (hk : gI s 107 = 2) (hl : gI s 109 - gI s 108 ≤ 4) : (0 ≤ nvl s ∧ nvl s ≤ 9999) ∧ gI s 108 < gI s 109 := by
  have k1 := h.1
  rcases h.2.2 with g | ⟨g1, g2, g3, g4, g⟩
  · omega
  · rcases g with ⟨_, _, _, g⟩ | ⟨_, ru, _⟩ | ⟨_, _, _, g⟩
    · rcases g with ⟨_, g⟩ | ⟨_, g⟩ <;> omega
    · refine ⟨dvl_b (fun j hj => ru.2.1 _ (by omega) (by omega)) (by omega), g3⟩
    · omega
section RF
variable {P : MS → Prop} {x13 : Int} {k0 b0 : Int} {f0 : Nat → Int} {s s' s1 : MS} {K E : List Int}
/-- both sides tell a step, the class ahead of the reference by no more than that -/
theorem REL_step {t o : MS} {c d : Int} (h : REL k0 b0 f0 s t K []) (hc : cr c d) (hb : gI s 941 + 1 ≤ gI s 108) (e : m_x0_add c s = some s') (g : m_x12_qCode d t = some o) : REL k0 b0 f0 s' o K [] ∧ gI s' 941 = gI s 941 + 1 ∧ (∀ i, i ≠ 941 → gI s' i = gI s i) := by
  have k1 := h.1.2.2.1.1.1
  obtain ⟨⟨a1, a2⟩, a3, a4⟩ := s_add (by omega) s' e
  obtain ⟨⟨r1, r2⟩, r3, r4⟩ := y_code o g
  refine ⟨REL_mk (E := []) h (SY_f (SY_c h.1 (fun i hi => a3 i (by omega)) (a4 4 (by decide)) (a4 6 (by decide))) (r3 2 (by decide)) (r3 3 (by decide)) (r3 4 (by decide)) (r3 5 (by decide)) (fun k hk => r4 k (by omega))) (OPN_e h.2.1 (a3 106 (by decide)) (a3 105 (by decide)) (r3 105 (by decide)) (r3 48 (by decide))) (r3 106 (by decide)) (r3 104 (by decide)) (r4 103 (by decide)) (CO_both h.2.2.2.1 hc a1 a2 r1 r2) (by rw [a1, a3 108 (by decide)]; exact hb), a1, a3⟩
theorem NX_c {o t : MS} (h : NX s t) (kI : ∀ i, i = 61 ∨ i = 100 ∨ (107 ≤ i ∧ i ≤ 111) → gI o i = gI s i) (k4 : gA o 4 = gA s 4) (k6 : gA o 6 = gA s 6) : NX o t := by
  obtain ⟨⟨h1, h2⟩, ⟨h3, h4⟩, ⟨h5, h5b, h5c⟩, h6, h8, h10⟩ := h
  exact ⟨⟨by rw [kI 61 (by omega)]; exact h1, fun j hj => by rw [k4]; rw [kI 61 (by omega)] at hj; exact h2 j hj⟩, ⟨by rw [kI 100 (by omega)]; exact h3, h4⟩, ⟨TK_e h5 (fun i hi => kI i (by omega)) k4, W6_e h5b k6, fun j hj => by rw [k4]; rw [kI 61 (by omega)] at hj; exact h5c j hj⟩, by rw [kI 109 (by omega)]; exact h6, by rw [k4]; exact h8, h10⟩
/-- a number -/
theorem P_num {t : MS} {q : Int × MS} (h : REL k0 b0 f0 s t K []) (hk : gI s 107 = 2) (e1 : m_x6_expectNumber 0 1000000 s = some q) (e2 : m_x0_add q.1 q.2 = some s') (hE : gI s' 100 = 0 → gI s 108 < gI s' 108 → gI s' 941 - gI s 941 ≤ gI s' 108 - gI s 108 → ∀ o, REL k0 b0 f0 s' o K [] → PE P x13 o) (hF : ∀ o, BR s' o → P o) : pc (bn (m_x12_number 0 9999 t) (fun q13 => m_x12_qPartTold_J237 (1000 + q13.1) q13.2)) (QA P x13) := by
  have hT := h.1.2.2.1.1
  have k1 := hT.1
  have b9 : 0 ≤ gI s 108 ∧ gI s 109 ≤ gI s 61 := by
    rcases hT.2.2 with q | q
    · omega
    · omega
  have hs := s_expNum h.1.2.1.1 b9 q e1
  obtain ⟨r, u⟩ := q
  dsimp only at hs e2
  have fk : FKp 100 101 u s' := FKp.of (fr_x0_add e2) (by decide) (by decide)
  refine pc_bn (fun q13 e13 => ?_)
  have hq := y_num h.1 (by omega) q13 e13
  have F13 : F_x12_number t q13.2 := fr_x12_number e13
  obtain ⟨r13, T⟩ := q13
  dsimp only at hq F13 ⊢
  rcases hq with ⟨a, _⟩ | ⟨a, b⟩ | ⟨a, a2, _⟩ | ⟨a, a2, b, b2⟩
  · exact absurd hk a
  · rcases hs with ⟨c, _⟩ | ⟨_, d⟩ | ⟨c, _⟩ | ⟨c, _⟩
    · exact absurd hk c
    · have B : BR s' T := BR_b fk (BR_mk (by decide) d b)
      exact J237_bad (BR_0 B) (BR_P B hF)
    · omega
    · omega
  · have := (nvl_b hT hk a.2).1
    omega
  · have nb := nvl_b hT hk a.2
    rcases hs with ⟨c, _⟩ | ⟨c, _⟩ | ⟨_, c, _⟩ | ⟨_, _, d, d2⟩
    · exact absurd hk c
    · omega
    · omega
    · obtain ⟨hR, hp⟩ := REL_adv h b2 (fun i hi => F13.1 i (by simp; omega)) (fun k => F13.2.1 k (by simp)) d2
      have Fa : F_x6_advance s u := fr_x6_advance d2
      have z941 : gI u 941 = gI s 941 := Fa.1 941 (by decide)
      have h5 := h.2.2.2.2.1
      refine J237_ok (fun o eo => ?_)
      obtain ⟨hR2, z1, z2⟩ := REL_step hR (c := r) (d := 1000 + r13) (by rw [b, d]; exact Or.inl ⟨nb.1.1, Or.inl rfl⟩) (by omega) e2 eo
      have z108 := z2 108 (by decide)
      exact hE hR2.1.2.1.1 (by omega) (by omega) o hR2
/-- a word that tells something of a block -/
theorem P_fact {t T : MS} {k : Nat} (h : REL k0 b0 f0 s t K []) (hk : k < 8) (hw : gI s 107 = 1 ∧ gI s 110 = (wk k : Int)) (hN : NX s T) (tI : ∀ i, 48 ≤ i → gI T i = gI t i) (tA : ∀ j, gA T j = gA t j) (e1 : m_x0_add (-100 - gI s 110) s = some s1) (e2 : m_x6_advance s1 = some s') (hE : gI s' 100 = 0 → gI s 108 < gI s' 108 → gI s' 941 - gI s 941 ≤ gI s' 108 - gI s 108 → ∀ o, REL k0 b0 f0 s' o K [] → PE P x13 o) : pc (m_x12_qPartTold_J237 (40 + (k : Int)) T) (QA P x13) := by
  have hT := h.1.2.2.1.1
  have k1 := hT.1
  have st : gI s 108 < gI s 109 ∧ gI s 108 < 1600 := by
    rcases hT.2.2 with q | q
    · omega
    · omega
  have h5 := h.2.2.2.2.1
  obtain ⟨⟨a1, a2⟩, a3, a4⟩ := s_add (by omega) s1 e1
  have hN1 : NX s1 T := NX_c hN (fun i hi => a3 i (by omega)) (a4 4 (by decide)) (a4 6 (by decide))
  obtain ⟨hS, hp⟩ := y_adv hN1 s' e2
  have Fa : F_x6_advance s1 s' := fr_x6_advance e2
  refine J237_ok (fun o eo => ?_)
  obtain ⟨⟨r1, r2⟩, r3, r4⟩ := y_code o eo
  have z1 : gI s' 941 = gI s 941 + 1 := (Fa.1 941 (by decide)).trans a1
  have z9 := a3 109 (by decide)
  have hc : cr (-100 - gI s 110) (40 + (k : Int)) := by
    have wks : wk 0 = 13 ∧ wk 1 = 11 ∧ wk 2 = 12 ∧ wk 3 = 14 ∧ wk 4 = 15 ∧ wk 5 = 16 ∧ wk 6 = 17 ∧ wk 7 = 18 := by decide
    have hh : k = 0 ∨ k = 1 ∨ k = 2 ∨ k = 3 ∨ k = 4 ∨ k = 5 ∨ k = 6 ∨ k = 7 := by omega
    have w2 := hw.2
    unfold cr
    rcases hh with q | q | q | q | q | q | q | q <;> (subst q; omega)
  have R : REL k0 b0 f0 s' o K [] := by
    refine REL_mk (E := []) h (SY_f hS (r3 2 (by decide)) (r3 3 (by decide)) (r3 4 (by decide)) (r3 5 (by decide)) (fun k hk => r4 k (by omega))) (OPN_e h.2.1 ((Fa.1 106 (by decide)).trans (a3 106 (by decide))) ((Fa.1 105 (by decide)).trans (a3 105 (by decide))) ((r3 105 (by decide)).trans (tI 105 (by decide))) ((r3 48 (by decide)).trans (tI 48 (by decide)))) ((r3 106 (by decide)).trans (tI 106 (by decide))) ((r3 104 (by decide)).trans (tI 104 (by decide))) ((r4 103 (by decide)).trans (tA 103)) (CO_both h.2.2.2.1 hc z1 ((Fa.2.1 48 (by decide)).trans a2) (by rw [r1, tI 102 (by decide)]) (by rw [r2, tA, tI 102 (by decide)])) (by omega)
  exact hE R.1.2.1.1 (by omega) (by omega) o R
end RF
theorem FCT_k {s : MS} (hm : 0 ≤ gI s 105 ∧ gI s 105 ≤ 3) : FCT s ↔ ∃ k : Nat, k < 8 ∧ (gI s 107 = 1 ∧ gI s 110 = (wk k : Int)) ∧ alw (gI s 105) (k : Int) := by
  have wks : wk 0 = 13 ∧ wk 1 = 11 ∧ wk 2 = 12 ∧ wk 3 = 14 ∧ wk 4 = 15 ∧ wk 5 = 16 ∧ wk 6 = 17 ∧ wk 7 = 18 := by decide
  constructor
  · intro h
    obtain ⟨h1, h2⟩ := h
    rcases h2 with q | ⟨q, z⟩ | ⟨q, z⟩ | ⟨q, z⟩ | ⟨q, z⟩
    · exact ⟨0, by omega, ⟨h1, by omega⟩, by unfold alw; omega⟩
    · exact ⟨1, by omega, ⟨h1, by omega⟩, by unfold alw; omega⟩
    · exact ⟨2, by omega, ⟨h1, by omega⟩, by unfold alw; omega⟩
    · exact ⟨3, by omega, ⟨h1, by omega⟩, by unfold alw; omega⟩
    · rcases q with q | q | q | q
      · exact ⟨4, by omega, ⟨h1, by omega⟩, by unfold alw; omega⟩
      · exact ⟨5, by omega, ⟨h1, by omega⟩, by unfold alw; omega⟩
      · exact ⟨6, by omega, ⟨h1, by omega⟩, by unfold alw; omega⟩
      · exact ⟨7, by omega, ⟨h1, by omega⟩, by unfold alw; omega⟩
  · rintro ⟨k, hk, ⟨h1, h2⟩, h3⟩
    have hh : k = 0 ∨ k = 1 ∨ k = 2 ∨ k = 3 ∨ k = 4 ∨ k = 5 ∨ k = 6 ∨ k = 7 := by omega
    unfold alw at h3
    refine ⟨h1, ?_⟩
    rcases hh with q | q | q | q | q | q | q | q <;> (subst q; omega)
theorem s_other {rgs : (MS → Option MS) × (MS → Option MS)} {c : Int} {s : MS} : pc (m_x6_readOther rgs c s) (fun s' => ∃ q, m_x6_opens s = some q ∧ ((q.1 = 0 ∧ s' = q.2) ∨ (q.1 ≠ 0 ∧ ∃ s8 s10 s13, m_x6_advance q.2 = some s8 ∧ rgs.2 s8 = some s10 ∧ m_x0_add c s10 = some s13 ∧ sI s13 106 (gI s13 106 - 1) = s'))) := by
  unfold m_x6_readOther m_x6_readOther_J33
  exact pc_bn (fun q4 e4 => pc_rg (pc_if (fun c1 => pc_some ⟨q4, e4, Or.inl ⟨c1, rfl⟩⟩) (fun c1 => pc_bn (fun s8 e8 => pc_bn (fun s10 e10 => pc_eqg (pc_bn (fun s13 e13 => pc_stn (fun s14 e14 => pc_some ⟨q4, e4, Or.inr ⟨c1, s8, s10, s13, e8, e10, e13, e14⟩⟩))))))))
theorem s_choice {rgs : (MS → Option MS) × (MS → Option MS)} {c : Int} {s : MS} : pc (m_x6_readChoice rgs c s) (fun s' => ∃ s3, m_x6_advance s = some s3 ∧ ((¬ (gI s3 107 = 3 ∧ gI s3 111 = 40) ∧ ∃ q, m_x6_fail 1 (gI s3 108) s3 = some q ∧ s' = q.2) ∨ ((gI s3 107 = 3 ∧ gI s3 111 = 40) ∧ ∃ q, m_x6_opens s3 = some q ∧ ((q.1 = 0 ∧ s' = q.2) ∨ (q.1 ≠ 0 ∧ ∃ s14 s16 s18 s20 s22 s23, m_x6_advance q.2 = some s14 ∧ rgs.1 s14 = some s16 ∧ m_x6_expectSign 44 s16 = some s18 ∧ rgs.1 s18 = some s20 ∧ m_x6_expectSign 41 s20 = some s22 ∧ sI s22 106 (gI s22 106 - 1) = s23 ∧ m_x0_add c s23 = some s'))))) := by
  unfold m_x6_readChoice m_x6_readChoice_J75
  refine pc_bn (fun s3 e3 => pc_bq s_isSign (fun r5 h5 => pc_rg (pc_if (fun c1 => pc_bn (fun q29 e29 => pc_some ⟨s3, e3, Or.inl ⟨?_, q29, e29, rfl⟩⟩)) (fun c1 => pc_bn (fun q10 e10 => pc_rg (pc_if (fun c2 => pc_some ⟨s3, e3, Or.inr ⟨?_, q10, e10, Or.inl ⟨c2, rfl⟩⟩⟩) (fun c2 => pc_bn (fun s14 e14 => pc_bn (fun s16 e16 => pc_bn (fun s18 e18 => pc_bn (fun s20 e20 => pc_bn (fun s22 e22 => pc_stn (fun s23 e23 => pc_eqg (pc_bn (fun s26 e26 => pc_some ⟨s3, e3, Or.inr ⟨?_, q10, e10, Or.inr ⟨c2, s14, s16, s18, s20, s22, s23, e14, e16, e18, e20, e22, e23, e26⟩⟩⟩)))))))))))))))
  · rcases h5 with g | g
    · omega
    · exact g.2
  · rcases h5 with g | g
    · exact g.2
    · exact absurd g.1 c1
  · rcases h5 with g | g
    · exact g.2
    · exact absurd g.1 c1
