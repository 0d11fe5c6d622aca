/-! ===== the class goes on to the next word, number or sign ===== -/
/-- the same ahead of what glues -/
def TK0 (s : MS) : Prop := ((0 ≤ gI s 108 ∧ gI s 108 ≤ gI s 61) ∧ gI s 61 ≤ 1600) ∧ (gI s 108 < gI s 61 → ¬ isB (gA s 4 (gI s 108).toNat)) ∧
  ((gI s 108 = gI s 61 ∧ gI s 107 = 0 ∧ gI s 111 = -1 ∧ gI s 109 = gI s 108) ∨
   (gI s 108 < gI s 61 ∧ gI s 111 = gA s 4 (gI s 108).toNat ∧ gI s 108 < gI s 109 ∧ gI s 109 ≤ gI s 61 ∧
    ((isL (gA s 4 (gI s 108).toNat) ∧ Ru isL (gA s 4) (gI s 61) (gI s 108) (gI s 109) ∧ ((-1) ≤ gI s 110 ∧ gI s 110 ≤ 32 ∧ ∀ w : Nat, w < 33 → (gI s 110 = (w : Int) ↔ WM (gA s 4) (gI s 108) (gI s 109) w)) ∧ gI s 107 = 1) ∨
     (isD (gA s 4 (gI s 108).toNat) ∧ Ru isD (gA s 4) (gI s 61) (gI s 108) (gI s 109) ∧ gI s 107 = 2) ∨
     (¬ isL (gA s 4 (gI s 108).toNat) ∧ ¬ isD (gA s 4 (gI s 108).toNat) ∧ gI s 109 = gI s 108 + 1 ∧ gI s 107 = 3))))
theorem TK0_n {s : MS} (h : TK0 s) (g : gI s 107 = 1 ∨ gI s 107 = 2 → ¬ GLU (gA s 4) (gI s 108)) : TK s := by
  obtain ⟨h1, h2, h3⟩ := h
  refine ⟨h1, h2, ?_⟩
  rcases h3 with q | ⟨q1, q2, q3, q4, q⟩
  · exact Or.inl q
  · refine Or.inr ⟨q1, q2, q3, q4, ?_⟩
    rcases q with ⟨a, b, c, d⟩ | ⟨a, b, d⟩ | q
    · exact Or.inl ⟨a, b, c, Or.inr ⟨g (Or.inl d), d⟩⟩
    · exact Or.inr (Or.inl ⟨a, b, Or.inr ⟨g (Or.inr d), d⟩⟩)
    · exact Or.inr (Or.inr q)
theorem TK0_g {s o : MS} (h : TK0 s) (e : sI s 107 4 = o) (k : gI s 107 = 1 ∨ gI s 107 = 2) (g : GLU (gA s 4) (gI s 108)) : TK o := by
  obtain ⟨h1, h2, h3⟩ := h
  unfold TK KG
  rw [(q_Ii e (by decide) : gI o 108 = gI s 108), (q_Ii e (by decide) : gI o 61 = gI s 61), (q_Ii e (by decide) : gI o 109 = gI s 109), (q_Ii e (by decide) : gI o 110 = gI s 110), (q_Ii e (by decide) : gI o 111 = gI s 111), (q_Ia e : gA o 4 = gA s 4), (q_II e : gI o 107 = 4)]
  refine ⟨h1, h2, ?_⟩
  rcases h3 with q | ⟨q1, q2, q3, q4, q⟩
  · omega
  · refine Or.inr ⟨q1, q2, q3, q4, ?_⟩
    rcases q with ⟨a, b, c, d⟩ | ⟨a, b, d⟩ | q
    · exact Or.inl ⟨a, b, c, Or.inl ⟨g, rfl⟩⟩
    · exact Or.inr (Or.inl ⟨a, b, Or.inl ⟨g, rfl⟩⟩)
    · omega
theorem s_J251 {S : MS} (h : TK0 S) : pc (m_x6_advance_J251 S) (fun o => TK o ∧ gI o 108 = gI S 108) := by
  have h1 := h.1
  unfold m_x6_advance_J251
  refine pc_bq s_at (fun r16 h16 => ?_)
  have hg : GLU (gA S 4) (gI S 108) ↔ isL r16 ∨ isD r16 := by
    rcases h16 with ⟨a, b⟩ | ⟨a, b⟩
    · unfold GLU
      rw [b]
      exact ⟨fun q => q.2, fun q => ⟨by omega, q⟩⟩
    · rw [b]
      exact ⟨fun q => by have := q.1; omega, fun q => by omega⟩
  have J : (gI S 107 = 1 ∨ gI S 107 = 2) → pc (m_x6_advance_J281 r16 S) (fun o => TK o ∧ gI o 108 = gI S 108) := by
    intro k
    unfold m_x6_advance_J281 m_x6_advance_J295 m_x6_advance_J300
    refine pc_bq s_isL (fun r7 h7 => pc_rg (pc_if (fun c => pc_bq s_isD (fun r11 h11 => pc_rg (pc_if (fun c2 => pc_some ⟨TK0_n h (fun _ q => ?_), rfl⟩) (fun c2 => pc_stn (fun s3 e3 => pc_some ⟨TK0_g h e3 k (hg.2 ?_), q_Ii e3 (by decide)⟩))))) (fun c => pc_stn (fun s3 e3 => pc_some ⟨TK0_g h e3 k (hg.2 ?_), q_Ii e3 (by decide)⟩))))
    · have q2 := hg.1 q
      omega
    · omega
    · omega
  refine pc_rg (pc_if (fun c => J (Or.inl c)) (fun c => pc_rg (pc_if (fun c2 => J (Or.inr c2)) (fun c2 => ?_))))
  unfold m_x6_advance_J300
  exact pc_some ⟨TK0_n h (fun q => by omega), rfl⟩
theorem W6_e {s o : MS} (h : W6 s) (e : gA o 6 = gA s 6) : W6 o := fun j hj => by rw [e]; exact h j hj
theorem s_L191 : ∀ (n : Nat) (S : MS), ((0 ≤ gI S 108 ∧ gI S 108 < gI S 61) ∧ gI S 61 ≤ 1600) → isD (gA S 4 (gI S 108).toNat) → gI S 111 = gA S 4 (gI S 108).toNat → gI S 107 = 2 → (gI S 108 ≤ gI S 109 ∧ gI S 109 ≤ gI S 61) → (∀ j : Nat, gI S 108 ≤ (j : Int) → (j : Int) < gI S 109 → isD (gA S 4 j)) → pc (m_x6_advance_L191 n S) (fun o => TK o ∧ gI o 108 = gI S 108) := by
  refine fr_ind (fun _ _ _ _ _ _ _ => pc_none) (fun n ih S ha hd hs hk hb hr => ?_)
  show pc (m_x6_advance_b191 (m_x6_advance_L191 n) S) _
  unfold m_x6_advance_b191
  have fin : (gI S 109 < gI S 61 → ¬ isD (gA S 4 (gI S 109).toNat)) → pc (m_x6_advance_J251 S) (fun o => TK o ∧ gI o 108 = gI S 108) := fun hx => by
    refine s_J251 ⟨⟨by omega, ha.2⟩, fun _ => by omega, Or.inr ⟨ha.1.2, hs, ?_, hb.2, Or.inr (Or.inl ⟨hd, ⟨hb, hr, hx⟩, hk⟩)⟩⟩
    by_cases z : gI S 108 = gI S 109
    · rw [← z] at hx; exact absurd hd (hx (by omega))
    · omega
  refine pc_rg (pc_rg (pc_if (fun c => fin (fun q => by omega)) (fun c => pc_rdI (fun _ => pc_bq s_isD (fun r27 h27 => pc_rg (pc_if (fun c2 => fin (fun _ => by omega)) (fun c2 => pc_stn (fun s30 e30 => ?_))))))))
  have k : ∀ i, i ≠ 109 → gI s30 i = gI S i := fun i hi => q_Ii e30 hi
  have k4 : gA s30 4 = gA S 4 := q_Ia e30
  have k9 : gI s30 109 = gI S 109 + 1 := q_II e30
  have q := ih s30
  rw [k 108 (by decide), k 61 (by decide), k 111 (by decide), k 107 (by decide), k4, k9] at q
  refine q ha hd hs hk (by omega) (fun j h1 h2 => ?_)
  by_cases z : (j : Int) < gI S 109
  · exact hr j h1 z
  · rw [show j = (gI S 109).toNat by omega]; omega
theorem s_L120 : ∀ (n : Nat) (S : MS), W6 S → ((0 ≤ gI S 108 ∧ gI S 108 < gI S 61) ∧ gI S 61 ≤ 1600) → isL (gA S 4 (gI S 108).toNat) → gI S 111 = gA S 4 (gI S 108).toNat → gI S 107 = 1 → (gI S 108 ≤ gI S 109 ∧ gI S 109 ≤ gI S 61) → (∀ j : Nat, gI S 108 ≤ (j : Int) → (j : Int) < gI S 109 → isL (gA S 4 j)) → pc (m_x6_advance_L120 n S) (fun o => TK o ∧ gI o 108 = gI S 108) := by
  refine fr_ind (fun _ _ _ _ _ _ _ _ => pc_none) (fun n ih S hW ha hd hs hk hb hr => ?_)
  show pc (m_x6_advance_b120 (m_x6_advance_L120 n) S) _
  unfold m_x6_advance_b120
  have fin : (gI S 109 < gI S 61 → ¬ isL (gA S 4 (gI S 109).toNat)) → pc (m_x6_advance_J165 S) (fun o => TK o ∧ gI o 108 = gI S 108) := fun hx => by
    have lt : gI S 108 < gI S 109 := by
      by_cases z : gI S 108 = gI S 109
      · rw [← z] at hx; exact absurd hd (hx (by omega))
      · omega
    unfold m_x6_advance_J165
    refine pc_bq (s_word hW (by omega)) (fun r33 h33 => pc_stn (fun s34 e34 => ?_))
    have k : ∀ i, i ≠ 110 → gI s34 i = gI S i := fun i hi => q_Ii e34 hi
    have k4 : gA s34 4 = gA S 4 := q_Ia e34
    have k0 : gI s34 110 = r33 := q_II e34
    refine pc_mono (s_J251 ?_) (fun o ho => ⟨ho.1, ho.2.trans (k 108 (by decide))⟩)
    unfold TK0
    rw [k 108 (by decide), k 61 (by decide), k 111 (by decide), k 107 (by decide), k 109 (by decide), k4, k0]
    exact ⟨⟨by omega, ha.2⟩, fun _ => by omega, Or.inr ⟨ha.1.2, hs, lt, hb.2, Or.inl ⟨hd, ⟨hb, hr, hx⟩, ⟨h33.1.1, h33.1.2, h33.2⟩, hk⟩⟩⟩
  refine pc_rg (pc_rg (pc_if (fun c => fin (fun q => by omega)) (fun c => pc_rdI (fun _ => pc_bq s_isL (fun r41 h41 => pc_rg (pc_if (fun c2 => fin (fun _ => by omega)) (fun c2 => pc_stn (fun s44 e44 => ?_))))))))
  have k : ∀ i, i ≠ 109 → gI s44 i = gI S i := fun i hi => q_Ii e44 hi
  have k4 : gA s44 4 = gA S 4 := q_Ia e44
  have k9 : gI s44 109 = gI S 109 + 1 := q_II e44
  have q := ih s44 (W6_e hW (q_Ia e44))
  rw [k 108 (by decide), k 61 (by decide), k 111 (by decide), k 107 (by decide), k4, k9] at q
  refine q ha hd hs hk (by omega) (fun j h1 h2 => ?_)
  by_cases z : (j : Int) < gI S 109
  · exact hr j h1 z
  · rw [show j = (gI S 109).toNat by omega]; omega
/-- bytes are no less than 0 -/
def BY (s : MS) : Prop := ∀ j : Nat, (j : Int) < gI s 61 → 0 ≤ gA s 4 j
theorem s_J61 {S : MS} (hW : W6 S) (hy : BY S) (ha : (0 ≤ gI S 108 ∧ gI S 108 ≤ gI S 61) ∧ gI S 61 ≤ 1600) (hb : gI S 108 < gI S 61 → ¬ isB (gA S 4 (gI S 108).toNat)) : pc (m_x6_advance_J61 S) (fun o => TK o ∧ gI o 108 = gI S 108) := by
  unfold m_x6_advance_J61
  refine pc_stn (fun s46 e46 => pc_stn (fun s47 e47 => pc_bq s_at (fun r49 h49 => pc_stn (fun s50 e50 => ?_))))
  have k : ∀ i, i ≠ 109 → i ≠ 110 → i ≠ 111 → gI s50 i = gI S i := fun i h1 h2 h3 => (q_Ii e50 h3).trans ((q_Ii e47 h2).trans (q_Ii e46 h1))
  have kA : ∀ i, gA s50 i = gA S i := fun i => (q_Ia e50).trans ((q_Ia e47).trans (q_Ia e46))
  have k9 : gI s50 109 = gI S 108 := (q_Ii e50 (by decide)).trans ((q_Ii e47 (by decide)).trans (q_II e46))
  have k11 : gI s50 111 = r49 := q_II e50
  have a47 : gI s47 108 = gI S 108 := (q_Ii e47 (by decide)).trans (q_Ii e46 (by decide))
  have n47 : gI s47 61 = gI S 61 := (q_Ii e47 (by decide)).trans (q_Ii e46 (by decide))
  have f47 : gA s47 4 = gA S 4 := (q_Ia e47).trans (q_Ia e46)
  rw [a47, n47, f47] at h49
  have h49 : (gI S 108 < gI S 61 ∧ r49 = gA S 4 (gI S 108).toNat) ∨ (gI S 108 = gI S 61 ∧ r49 = -1) := by
    rcases h49 with ⟨a, b⟩ | ⟨a, b⟩
    · exact Or.inl ⟨a.2, b⟩
    · exact Or.inr ⟨by omega, b⟩
  have W50 : W6 s50 := W6_e hW (kA 6)
  have e108 := k 108 (by decide) (by decide) (by decide)
  have e61 := k 61 (by decide) (by decide) (by decide)
  refine pc_rg (pc_if (fun c => pc_stn (fun s65 e65 => ?_)) (fun c => ?_))
  · have hend : gI S 108 = gI S 61 := by
      rcases h49 with ⟨a, b⟩ | ⟨a, b⟩
      · exfalso
        have q := hy (gI S 108).toNat (by omega)
        omega
      · exact a
    refine pc_mono (s_J251 ?_) (fun o ho => ⟨ho.1, ho.2.trans ((q_Ii e65 (by decide)).trans e108)⟩)
    unfold TK0
    rw [(q_Ii e65 (by decide) : gI s65 108 = gI s50 108), (q_Ii e65 (by decide) : gI s65 61 = gI s50 61), (q_Ii e65 (by decide) : gI s65 109 = gI s50 109), (q_Ii e65 (by decide) : gI s65 111 = gI s50 111), (q_II e65 : gI s65 107 = 0), e108, e61, k9]
    exact ⟨ha, fun q => by omega, Or.inl ⟨hend, rfl, c, rfl⟩⟩
  · have hlt : gI S 108 < gI S 61 ∧ r49 = gA S 4 (gI S 108).toNat := by
      rcases h49 with q | q
      · exact q
      · omega
    have hv : gI s50 111 = gA S 4 (gI S 108).toNat := k11.trans hlt.2
    refine pc_bq s_isL (fun r54 h54 => pc_rg (pc_if (fun c2 => pc_bq s_isD (fun r58 h58 => pc_rg (pc_if (fun c3 => pc_stn (fun s61 e61' => pc_stn (fun s62 e62 => ?_))) (fun c3 => pc_stn (fun s63 e63 => ?_))))) (fun c2 => pc_stn (fun s64 e64 => ?_))))
    · refine pc_mono (s_J251 ?_) (fun o ho => ⟨ho.1, ho.2.trans ((q_Ii e62 (by decide)).trans ((q_Ii e61' (by decide)).trans e108))⟩)
      unfold TK0
      have m : ∀ i, i ≠ 109 → i ≠ 107 → gI s62 i = gI s50 i := fun i h1 h2 => (q_Ii e62 h1).trans (q_Ii e61' h2)
      have m7 : gI s62 107 = 3 := (q_Ii e62 (by decide)).trans (q_II e61')
      have m9 : gI s62 109 = gI S 108 + 1 := by rw [(q_II e62 : gI s62 109 = _), (q_Ii e61' (by decide) : gI s61 109 = gI s50 109), k9]
      have m4 : gA s62 4 = gA S 4 := (q_Ia e62).trans ((q_Ia e61').trans (kA 4))
      rw [m 108 (by decide) (by decide), m 61 (by decide) (by decide), m 111 (by decide) (by decide), m7, m9, m4, e108, e61, hv]
      rw [hv] at h54 h58
      exact ⟨ha, hb, Or.inr ⟨hlt.1, rfl, by omega, by omega, Or.inr (Or.inr ⟨by omega, by omega, rfl, rfl⟩)⟩⟩
    · have q := s_L191 FU s63
      rw [(q_Ii e63 (by decide) : gI s63 108 = gI s50 108), (q_Ii e63 (by decide) : gI s63 61 = gI s50 61), (q_Ii e63 (by decide) : gI s63 109 = gI s50 109), (q_Ii e63 (by decide) : gI s63 111 = gI s50 111), (q_II e63 : gI s63 107 = 2), (q_Ia e63 : gA s63 4 = gA s50 4), kA 4, e108, e61, k9, hv] at q
      rw [hv] at h58
      exact q ⟨⟨ha.1.1, hlt.1⟩, ha.2⟩ (by omega) rfl rfl (by omega) (fun j h1 h2 => by omega)
    · have q := s_L120 FU s64 (W6_e W50 (q_Ia e64))
      rw [(q_Ii e64 (by decide) : gI s64 108 = gI s50 108), (q_Ii e64 (by decide) : gI s64 61 = gI s50 61), (q_Ii e64 (by decide) : gI s64 109 = gI s50 109), (q_Ii e64 (by decide) : gI s64 111 = gI s50 111), (q_II e64 : gI s64 107 = 1), (q_Ia e64 : gA s64 4 = gA s50 4), kA 4, e108, e61, k9, hv] at q
      rw [hv] at h54
      exact q ⟨⟨ha.1.1, hlt.1⟩, ha.2⟩ (by omega) rfl rfl (by omega) (fun j h1 h2 => by omega)
theorem s_adv {s : MS} (h0 : gI s 100 = 0) (hs : (0 ≤ gI s 109 ∧ gI s 109 ≤ gI s 61) ∧ gI s 61 ≤ 1600) (hW : W6 s) (hy : BY s) : pc (m_x6_advance s) (fun o => TK o ∧ Ru isB (gA s 4) (gI s 61) (gI s 109) (gI o 108)) := by
  have L16 : ∀ (n : Nat) (S : MS), gA S 4 = gA s 4 → gA S 6 = gA s 6 → gI S 61 = gI s 61 → (gI s 109 ≤ gI S 108 ∧ gI S 108 ≤ gI s 61) → (∀ j : Nat, gI s 109 ≤ (j : Int) → (j : Int) < gI S 108 → isB (gA s 4 j)) → pc (m_x6_advance_L16 n S) (fun o => TK o ∧ Ru isB (gA s 4) (gI s 61) (gI s 109) (gI o 108)) := by
    refine fr_ind (fun _ _ _ _ _ _ => pc_none) (fun n ih S h4 h6 h61 ha hr => ?_)
    show pc (m_x6_advance_b16 (m_x6_advance_L16 n) S) _
    unfold m_x6_advance_b16
    have fin : (gI S 108 < gI s 61 → ¬ isB (gA s 4 (gI S 108).toNat)) → pc (m_x6_advance_J61 S) (fun o => TK o ∧ Ru isB (gA s 4) (gI s 61) (gI s 109) (gI o 108)) := fun hx => by
      refine pc_mono (s_J61 (W6_e hW h6) (fun j hj => by rw [h4]; exact hy j (by omega)) (by omega) (by rw [h4, h61]; exact hx)) (fun o ho => ⟨ho.1, ?_⟩)
      rw [ho.2]
      exact ⟨ha, hr, hx⟩
    refine pc_rg (pc_rg (pc_if (fun c => fin (fun q => by omega)) (fun c => pc_rdI (fun _ => pc_bq s_isB (fun r72 h72 => pc_rg (pc_if (fun c2 => fin (fun _ => ?_)) (fun c2 => pc_stn (fun s75 e75 => ?_))))))))
    · rw [h4] at h72
      omega
    · have k8 : gI s75 108 = gI S 108 + 1 := q_II e75
      refine ih s75 ((q_Ia e75).trans h4) ((q_Ia e75).trans h6) ((q_Ii e75 (by decide)).trans h61) (by omega) (fun j h1 h2 => ?_)
      by_cases z : (j : Int) < gI S 108
      · exact hr j h1 z
      · rw [h4] at h72
        rw [show j = (gI S 108).toNat by omega]; omega
  unfold m_x6_advance
  refine pc_rg (pc_if (fun c => pc_stn (fun s78 e78 => ?_)) (fun c => absurd h0 c))
  have k8 : gI s78 108 = gI s 109 := q_II e78
  exact L16 FU s78 (q_Ia e78) (q_Ia e78) (q_Ii e78 (by decide)) (by omega) (fun j h1 h2 => by omega)
