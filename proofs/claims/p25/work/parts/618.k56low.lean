/-! ===== a key is put into a leaf on both sides ===== -/
theorem s_low {p : Nat} {key val r : Int} {S : MS} (hP : PI (fun k => gA S 58 (6 * p + k)) (gA S 57 p) key r) (so : SO (fun k => gA S 58 (6 * p + k)) 0 (gA S 57 p)) : ∀ (n : Nat) (x4 x5 : Int), 0 ≤ x5 → ((x5 ≤ r ∧ x4 = x5) ∨ (r ≤ x5 ∧ x4 = r)) → x5 ≤ gA S 57 p → pc (m_x1_plantLow_L35 n (p : Int) key val x4 x5 S) (fun o => m_x8_insert (p : Int) r key val S = some o) := by
  have tp : ((p : Nat) : Int).toNat = p := Int.toNat_natCast _
  obtain ⟨⟨p1, p2⟩, p3, p4⟩ := hP
  refine fr_ind (fun _ _ _ _ _ => pc_none) (fun n ih x4 x5 h5 h4 hz => ?_)
  show pc (m_x1_plantLow_b35 (m_x1_plantLow_L35 n) (p : Int) key val x4 x5 S) _
  unfold m_x1_plantLow_b35 m_x1_plantLow_J78 m_x8_slot
  refine pc_rdI (fun _ => ?_)
  rw [tp]
  refine pc_rg (pc_rg (pc_if (fun c => pc_bn (fun s19 e19 => pc_some ?_)) (fun c => pc_bn (fun r21 e21 => ?_))))
  · rw [show r = x4 by omega]; exact e19
  · cases e21
    refine pc_rdI (fun _ => ?_)
    rw [show ((p : Int) * 6 + x5).toNat = 6 * p + x5.toNat by omega]
    refine pc_rg (pc_rg (pc_if (fun c2 => ?_) (fun c2 => ?_)))
    · -- no less
      have h : r ≤ x5 := by
        rcases Int.lt_or_le x5 r with w | w
        · exfalso
          have q : gA S 58 (6 * p + x5.toNat) < key := p3 x5.toNat (by omega)
          omega
        · exact w
      exact ih (x4 + 0) (x5 + 1) (by omega) (Or.inr ⟨by omega, by omega⟩) (by omega)
    · have h : x5 < r := by
        rcases Int.lt_or_le x5 r with w | w
        · exact w
        · exfalso
          have q : key ≤ gA S 58 (6 * p + r.toNat) := p4 (by omega)
          by_cases z : r.toNat = x5.toNat
          · rw [z] at q; omega
          · have q2 : gA S 58 (6 * p + r.toNat) < gA S 58 (6 * p + x5.toNat) := so r.toNat x5.toNat (Nat.zero_le _) (by omega) (by omega)
            omega
      exact ih (x4 + 1) (x5 + 1) (by omega) (Or.inl ⟨by omega, by omega⟩) (by omega)
theorem m_low {b : Nat} {key val : Int} {t : MS} (hz : 0 ≤ (hM t).2.1 b ∧ (hM t).2.1 b ≤ 6) : pc (m_x12_putsIn (b : Int) key val t) (fun o => ∃ r, PI (kM t b) ((hM t).2.1 b) key r ∧ (((r < (hM t).2.1 b ∧ kM t b r.toNat = key) ∧ (((hM t).2.2 b r.toNat = val ∧ o = t) ∨ ((hM t).2.2 b r.toNat ≠ val ∧ m_x12_setsEntry (b : Int) r key val t = some o))) ∨ (¬ (r < (hM t).2.1 b ∧ kM t b r.toNat = key) ∧ m_x12_inserts (b : Int) r key val t = some o))) := by
  have tb : ((b : Nat) : Int).toNat = b := Int.toNat_natCast _
  unfold m_x12_putsIn m_x12_putsIn_J33 m_x12_putsIn_J34 m_x12_putsIn_J73
  refine pc_bq (m_placeIn (by omega) (by rw [tb]; exact hz)) (fun r25 h25 => pc_bq (m_ents (by omega)) (fun r27 h27 => ?_))
  rw [tb] at h25 h27
  have r0 := h25.1
  refine pc_rg (pc_rg (pc_if (fun c => ?_) (fun c => pc_bq (m_key (by omega) ⟨r0.1, by omega⟩) (fun r32 h32 => pc_rg (pc_rg (pc_if (fun c2 => ?_) (fun c2 => ?_)))))))
  · exact pc_rg (pc_if (fun _ => pc_bn (fun s18 e18 => pc_some ⟨r25, h25, Or.inr ⟨fun w => by omega, e18⟩⟩)) (fun z => absurd rfl z))
  · rw [tb] at h32
    refine pc_rg (pc_if (fun z => absurd z (by decide)) (fun _ => pc_bq (m_val (by omega) ⟨r0.1, by omega⟩) (fun r11 h11 => pc_rg (pc_rg (pc_if (fun c3 => pc_some ?_) (fun c3 => pc_bn (fun s16 e16 => pc_some ?_)))))))
    · rw [tb] at h11
      exact ⟨r25, h25, Or.inl ⟨⟨by omega, by rw [← h32]; exact c2⟩, Or.inl ⟨by rw [← h11]; exact c3, rfl⟩⟩⟩
    · rw [tb] at h11
      exact ⟨r25, h25, Or.inl ⟨⟨by omega, by rw [← h32]; exact c2⟩, Or.inr ⟨by rw [← h11]; exact c3, e16⟩⟩⟩
  · rw [tb] at h32
    exact pc_rg (pc_if (fun _ => pc_bn (fun s18 e18 => pc_some ⟨r25, h25, Or.inr ⟨fun w => c2 (by rw [h32]; exact w.2), e18⟩⟩)) (fun z => absurd rfl z))
theorem y_low {π σ : Nat → Nat} {s s' t t' : MS} {b : Nat} {key val : Int} (h : SIM π σ s t) (hK : ∀ x, x < 48 → LV t x → 0 ≤ (hM t).2.1 x ∧ (hM t).2.1 x ≤ 6) (hR : Rg s) (hRt : Rr t) (hb : b < 48) (hl : LV t b) (hl0 : (hM t).1 b = 0) (hz : (hM t).2.1 b ≤ 5) (so : SO (kM t b) 0 ((hM t).2.1 b)) (hkey : 0 ≤ key ∧ key ≤ 999) (hval : 0 ≤ val ∧ val ≤ 999)
    (e1 : m_x1_plantLow (π b : Int) key val s = some s') (e2 : m_x12_putsIn (b : Int) key val t = some t') : SIM π σ s' t' ∧ ((∃ k : Nat, InsE t t' b k key val ∧ PI (kM t b) ((hM t).2.1 b) key (k : Int) ∧ ((k : Int) < (hM t).2.1 b → kM t b k ≠ key)) ∨ (BX t t' b ∧ (hM t').2.1 b = (hM t).2.1 b ∧ ∀ j, kM t' b j = kM t b j)) := by
  have hP := h.1.1
  have B := sim_b h hb hl
  have px := (hP b hb).1.1
  have tp : ((π b : Nat) : Int).toNat = π b := Int.toNat_natCast _
  have tb : ((b : Nat) : Int).toNat = b := Int.toNat_natCast _
  have sz := hK b hb hl
  have z1 : gA s 57 (π b) = (hM t).2.1 b := B.2.1
  have ek : ∀ k : Nat, (k : Int) < (hM t).2.1 b → gA s 58 (6 * π b + k) = kM t b k := fun k hk => (B.2.2 k hk).1
  have ev : ∀ k : Nat, (k : Int) < (hM t).2.1 b → gA s 59 (6 * π b + k) = (hM t).2.2 b k := fun k hk => (B.2.2 k hk).2.2 (by omega)
  obtain ⟨r, hPI, M⟩ := m_low sz t' e2
  have r0 := hPI.1
  have hPIs : PI (fun k => gA s 58 (6 * π b + k)) (gA s 57 (π b)) key r := by
    rw [z1]
    exact ⟨r0, fun k hk => by (try dsimp only); rw [ek k (by omega)]; exact hPI.2.1 k hk, fun w => by (try dsimp only); rw [ek r.toNat (by omega)]; exact hPI.2.2 w⟩
  have sos : SO (fun k => gA s 58 (6 * π b + k)) 0 (gA s 57 (π b)) := fun i j hi hij hj => by
    rw [z1] at hj
    show gA s 58 (6 * π b + i) < gA s 58 (6 * π b + j)
    rw [ek i (by omega), ek j hj]; exact so i j hi hij hj
  have C : pc (m_x1_plantLow (π b : Int) key val s) (fun o => ((r < (hM t).2.1 b ∧ kM t b r.toNat = key) ∧ m_x8_set (π b : Int) r val s = some o) ∨ (¬ (r < (hM t).2.1 b ∧ kM t b r.toNat = key) ∧ m_x8_insert (π b : Int) r key val s = some o)) := by
    unfold m_x1_plantLow
    refine pc_bq (s_find (p := (π b : Int)) (by omega)) (fun r27 h27 => ?_)
    rw [tp, z1] at h27
    have F : (r27 = -1 ∧ ¬ (r < (hM t).2.1 b ∧ kM t b r.toNat = key)) ∨ (r27 = r ∧ r < (hM t).2.1 b ∧ kM t b r.toNat = key) := by
      have h27' : FDc (kM t b) ((hM t).2.1 b) key r27 := by
        rcases h27 with ⟨a, c⟩ | ⟨a, a2, c, d⟩
        · exact Or.inl ⟨a, fun k hk => by rw [← ek k hk]; exact c k hk⟩
        · exact Or.inr ⟨a, a2, by rw [← ek r27.toNat (by omega)]; exact c, fun k hk => by rw [← ek k (by omega)]; exact d k hk⟩
      rcases FD_PI (f := kM t b) (g := kM t b) so (fun _ _ => rfl) h27' hPI with ⟨a, c⟩ | ⟨a, _, c, d⟩
      · exact Or.inl ⟨a, c⟩
      · exact Or.inr ⟨a, by omega, d⟩
    refine pc_rg (pc_if (fun c => ?_) (fun c => pc_bn (fun s31 e31 => pc_some ?_)))
    · have F' : ¬ (r < (hM t).2.1 b ∧ kM t b r.toNat = key) := by
        rcases F with ⟨_, f⟩ | ⟨a, f, _⟩
        · exact f
        · omega
      exact pc_mono (s_low hPIs sos FU 0 0 (Int.le_refl 0) (Or.inl ⟨r0.1, rfl⟩) (by rw [z1]; exact sz.1)) (fun o ho => Or.inr ⟨F', ho⟩)
    · rcases F with ⟨a, _⟩ | ⟨a, f⟩
      · exact absurd a c
      · rw [a] at e31
        exact Or.inl ⟨f, e31⟩
  rcases C s' e1 with ⟨f, es⟩ | ⟨f, es⟩
  · rcases M with ⟨_, m⟩ | ⟨m, _⟩
    · have Y := y_set h hK hR hRt hb hl ⟨r0.1, f.1⟩ (v1 := val) (v2 := val) ⟨by omega, by omega⟩ ⟨by omega, by omega⟩ ⟨fun w => by omega, fun _ => rfl⟩ (by rw [ev r.toNat (by omega)]) es (by
        rcases m with ⟨m1, m2⟩ | ⟨m1, m2⟩
        · exact Or.inl ⟨m1, m2⟩
        · exact Or.inr ⟨m1, by rw [f.2]; exact m2⟩)
      refine ⟨Y.1, Or.inr ⟨Y.2.1, Y.2.2, fun j => ?_⟩⟩
      rcases m with ⟨_, m2⟩ | ⟨m1, m2⟩
      · rw [m2]
      · have W2 := (wp_det (w_x12_setsEntry hRt (p0 := (b : Int)) ⟨by omega, by omega⟩ ⟨r0.1, by omega⟩ ⟨by omega, by omega⟩ ⟨by omega, by omega⟩) m2).2
        rw [tb] at W2
        show (if j < 6 then gA t' 49 (21 + 16 * b + j) else 0) = if j < 6 then gA t 49 (21 + 16 * b + j) else 0
        by_cases z : j < 6
        · rw [if_pos z, if_pos z, W2, upZ_n (by omega)]
          by_cases zz : j = r.toNat
          · rw [zz, upZ_s]
            have k6 := f.2
            have k7 : kM t b r.toNat = gA t 49 (21 + 16 * b + r.toNat) := if_pos (by omega)
            rw [← k7]; exact k6.symm
          · rw [upZ_n (by omega)]
        · rw [if_neg z, if_neg z]
    · exact absurd f m
  · rcases M with ⟨m, _⟩ | ⟨_, m⟩
    · exact absurd m f
    · have Y := y_ins h hK hR hRt hb hl ⟨r0.1, r0.2⟩ hz ⟨by omega, by omega⟩ (v1 := val) (v2 := val) ⟨by omega, by omega⟩ ⟨by omega, by omega⟩ ⟨fun w => by omega, fun _ => rfl⟩ es m
      have WI := wp_det (w_x12_inserts hRt (p0 := (b : Int)) (p1 := r) (p2 := key) (p3 := val) ⟨by omega, by omega⟩ ⟨r0.1, by rw [tb]; exact r0.2⟩ (by rw [tb]; exact hz) ⟨by omega, by omega⟩ ⟨by omega, by omega⟩) m
      rw [tb] at WI
      refine ⟨Y.1, Or.inl ⟨r.toNat, WI.2.2, ?_, fun w e => f ⟨by omega, e⟩⟩⟩
      rw [show ((r.toNat : Nat) : Int) = r by omega]; exact hPI
