/-! ===== on: what blocks name ===== -/
def AV1 (f : Nat → Int) (N : Int) (b k : Nat) : Prop := (f (19 + 16 * b) = 0 ∧ 0 ≤ f (27 + 16 * b + k) ∧ f (27 + 16 * b + k) ≤ 999) ∨ (f (19 + 16 * b) ≠ 0 ∧ (0 ≤ f (27 + 16 * b + k) ∧ f (27 + 16 * b + k) < N) ∧ f (17 + 16 * (f (27 + 16 * b + k)).toNat) + f (18 + 16 * (f (27 + 16 * b + k)).toNat) ≠ 0 ∧ f (19 + 16 * (f (27 + 16 * b + k)).toNat) = f (19 + 16 * b) - 1)
def LBs (s : MS) : Prop := (0 ≤ gA s 39 5 ∧ gA s 39 5 ≤ 48) ∧ (3 ≤ gA s 39 6 ∧ gA s 39 6 ≤ 6) ∧ ∀ b, b < 48 → LB_r (gA s 113) (gA s 39 6) b
theorem LB_sz {s : MS} (H : LBs s) {b : Nat} (hb : b < 48) : (0 ≤ gA s 113 (20 + 16 * b) ∧ gA s 113 (20 + 16 * b) ≤ 6) ∧ (0 ≤ gA s 113 (19 + 16 * b) ∧ gA s 113 (19 + 16 * b) ≤ 255) ∧ (0 ≤ gA s 113 (17 + 16 * b) ∧ gA s 113 (17 + 16 * b) ≤ 255) ∧ (0 ≤ gA s 113 (18 + 16 * b) ∧ gA s 113 (18 + 16 * b) ≤ 255) := by
  have h := H.2.2 b hb
  have hE := H.2.1
  obtain ⟨⟨a1, a2⟩, h⟩ := h
  rcases h with ⟨_, q⟩ | ⟨_, q2, q3, _⟩
  · have e3 := q 3 (by omega) (by omega)
    have e2 := q 2 (by omega) (by omega)
    rw [show 17 + 16 * b + 3 = 20 + 16 * b by omega] at e3
    rw [show 17 + 16 * b + 2 = 19 + 16 * b by omega] at e2
    exact ⟨by omega, by omega, a1, a2⟩
  · exact ⟨by omega, q2, a1, a2⟩
set_option maxHeartbeats 1000000 in
theorem w_x12_areValues {p0 : Int} {s : MS} (hRs : Rr s) (hp0 : 0 ≤ p0 ∧ p0 < 48) (hp1 : LBs s) : wp (m_x12_areValues p0 s) (fun r => (r = 0 ∨ (r = 1 ∧ ∀ k : Nat, (k : Int) < gA s 113 (20 + 16 * p0.toNat) → AV1 (gA s 113) (gA s 39 5) p0.toNat k))) := by
  have kb := LB_sz hp1 (b := p0.toNat) (by omega)
  have kN := hp1.1
  unfold m_x12_areValues
  have L2 : ∀ (n : Nat) (x1 : Int) (x2 : Int), (x1 = p0) → (0 ≤ x2 ∧ x2 ≤ gA s 113 (20 + 16 * p0.toNat)) → (∀ k : Nat, (k : Int) < x2 → AV1 (gA s 113) (gA s 39 5) p0.toNat k) → (6 - x2) < (n : Int) → wp (m_x12_areValues_L2 s n x1 x2) (fun r => (r = 0 ∨ (r = 1 ∧ ∀ k : Nat, (k : Int) < gA s 113 (20 + 16 * p0.toNat) → AV1 (gA s 113) (gA s 39 5) p0.toNat k))) := by
    refine fr_ind (fun x1 x2 hv2_0 hv2_1 hv2_2 hm2 => ?_) (fun n2 ih2 x1 x2 hv2_0 hv2_1 hv2_2 hm2 => ?_)
    · exfalso; omega
    · show wp (m_x12_areValues_b2 s (m_x12_areValues_L2 s n2) x1 x2) _
      unfold m_x12_areValues_b2
      refine wp_bn (w_x12_laidOf hRs (by show 0 ≤ x1 ∧ x1 < 48; omega) (by show 0 ≤ (3 : Int) ∧ (3 : Int) < 16; omega)) (fun r6 er6 hr6 => ?_)
      obtain ⟨hr6_0, hr6_1⟩ := hr6
      have hr6_0 : r6 = gA s 113 (17 + 16 * x1.toNat + (3 : Int).toNat) := hr6_0
      have hr6_1 : R2 r6 := hr6_1
      rw [show 17 + 16 * (x1).toNat + (3 : Int).toNat = 20 + 16 * p0.toNat by omega] at hr6_0
      refine wp_rg (by omega) ?_
      refine wp_rg (by omega) ?_
      refine wp_if (fun c1 => ?_) (fun c1 => ?_)
      · skip
        exact wp_some (by first | exact Or.inl rfl | exact Or.inr ⟨rfl, fun k hk => hv2_2 k (by omega)⟩)
      · skip
        refine wp_bn (w_x12_laidOf hRs (by show 0 ≤ x1 ∧ x1 < 48; omega) (by show 0 ≤ (10 + x2) ∧ (10 + x2) < 16; omega)) (fun r11 er11 hr11 => ?_)
        obtain ⟨hr11_0, hr11_1⟩ := hr11
        have hr11_0 : r11 = gA s 113 (17 + 16 * x1.toNat + (10 + x2).toNat) := hr11_0
        have hr11_1 : R2 r11 := hr11_1
        rw [show 17 + 16 * (x1).toNat + (10 + x2 : Int).toNat = 27 + 16 * p0.toNat + x2.toNat by omega] at hr11_0
        refine wp_bn (w_x12_laidOf hRs (by show 0 ≤ x1 ∧ x1 < 48; omega) (by show 0 ≤ (2 : Int) ∧ (2 : Int) < 16; omega)) (fun r13 er13 hr13 => ?_)
        obtain ⟨hr13_0, hr13_1⟩ := hr13
        have hr13_0 : r13 = gA s 113 (17 + 16 * x1.toNat + (2 : Int).toNat) := hr13_0
        have hr13_1 : R2 r13 := hr13_1
        rw [show 17 + 16 * (x1).toNat + (2 : Int).toNat = 19 + 16 * p0.toNat by omega] at hr13_0
        refine wp_rg (by omega) ?_
        refine wp_if (fun c2 => ?_) (fun c2 => ?_)
        · skip
          refine wp_rg (by omega) ?_
          refine wp_bn (w_x12_isIn hRs (by show R8 r11; omega) (by show R8 (0 : Int); omega) (by show R8 (999 : Int); omega)) (fun r36 er36 hr36 => ?_)
          have hr36_0 := hr36
          have hr36_0 : (r36 = 1 ∧ (0 : Int) ≤ r11 ∧ r11 ≤ (999 : Int)) ∨ (r36 = 0 ∧ (r11 < (0 : Int) ∨ (999 : Int) < r11)) := hr36_0
          refine wp_rg (by omega) ?_
          refine wp_if (fun c3 => ?_) (fun c3 => ?_)
          · skip
            unfold m_x12_areValues_J88
            exact wp_some (by first | exact Or.inl rfl | exact Or.inr ⟨rfl, fun k hk => hv2_2 k (by omega)⟩)
          · skip
            unfold m_x12_areValues_J90
            exact ih2 x1 (x2 + 1) (by show x1 = p0; omega) (by show 0 ≤ (x2 + 1) ∧ (x2 + 1) ≤ gA s 113 (20 + 16 * p0.toNat); omega) (fun k hk => by
      by_cases z : k = x2.toNat
      · rw [z]; unfold AV1; rw [← hr11_0, ← hr13_0]; first | exact Or.inl (by omega) | exact Or.inr ⟨by omega, by omega, by rw [← hr22_0, ← hr24_0]; omega, by rw [← hr28_0]; omega⟩
      · exact hv2_2 k (by omega)) (by omega)
        · skip
          refine wp_rg (by omega) ?_
          refine wp_bn (w_x12_isBlock hRs (by show R8 r11; omega) (by show 0 ≤ gA s 39 5 ∧ gA s 39 5 ≤ 48; omega)) (fun r18 er18 hr18 => ?_)
          have hr18_0 := hr18
          have hr18_0 : (r18 = 1 ∧ 0 ≤ r11 ∧ r11 < gA s 39 5) ∨ (r18 = 0 ∧ (r11 < 0 ∨ gA s 39 5 ≤ r11)) := hr18_0
          have kc := fun h9 => LB_sz hp1 (b := r11.toNat) h9
          refine wp_rg (by omega) ?_
          refine wp_if (fun c4 => ?_) (fun c4 => ?_)
          · skip
            unfold m_x12_areValues_J88
            exact wp_some (by first | exact Or.inl rfl | exact Or.inr ⟨rfl, fun k hk => hv2_2 k (by omega)⟩)
          · skip
            refine wp_bn (w_x12_laidOf hRs (by show 0 ≤ r11 ∧ r11 < 48; omega) (by show 0 ≤ (0 : Int) ∧ (0 : Int) < 16; omega)) (fun r22 er22 hr22 => ?_)
            obtain ⟨hr22_0, hr22_1⟩ := hr22
            have hr22_0 : r22 = gA s 113 (17 + 16 * r11.toNat + (0 : Int).toNat) := hr22_0
            have hr22_1 : R2 r22 := hr22_1
            rw [show 17 + 16 * (r11).toNat + (0 : Int).toNat = 17 + 16 * r11.toNat by omega] at hr22_0
            have kd := kc (by omega)
            refine wp_bn (w_x12_laidOf hRs (by show 0 ≤ r11 ∧ r11 < 48; omega) (by show 0 ≤ (1 : Int) ∧ (1 : Int) < 16; omega)) (fun r24 er24 hr24 => ?_)
            obtain ⟨hr24_0, hr24_1⟩ := hr24
            have hr24_0 : r24 = gA s 113 (17 + 16 * r11.toNat + (1 : Int).toNat) := hr24_0
            have hr24_1 : R2 r24 := hr24_1
            rw [show 17 + 16 * (r11).toNat + (1 : Int).toNat = 18 + 16 * r11.toNat by omega] at hr24_0
            refine wp_rg (by omega) ?_
            refine wp_if (fun c5 => ?_) (fun c5 => ?_)
            · skip
              unfold m_x12_areValues_J88
              exact wp_some (by first | exact Or.inl rfl | exact Or.inr ⟨rfl, fun k hk => hv2_2 k (by omega)⟩)
            · skip
              refine wp_bn (w_x12_laidOf hRs (by show 0 ≤ r11 ∧ r11 < 48; omega) (by show 0 ≤ (2 : Int) ∧ (2 : Int) < 16; omega)) (fun r28 er28 hr28 => ?_)
              obtain ⟨hr28_0, hr28_1⟩ := hr28
              have hr28_0 : r28 = gA s 113 (17 + 16 * r11.toNat + (2 : Int).toNat) := hr28_0
              have hr28_1 : R2 r28 := hr28_1
              rw [show 17 + 16 * (r11).toNat + (2 : Int).toNat = 19 + 16 * r11.toNat by omega] at hr28_0
              refine wp_bn (w_x12_laidOf hRs (by show 0 ≤ x1 ∧ x1 < 48; omega) (by show 0 ≤ (2 : Int) ∧ (2 : Int) < 16; omega)) (fun r30 er30 hr30 => ?_)
              obtain ⟨hr30_0, hr30_1⟩ := hr30
              have hr30_0 : r30 = gA s 113 (17 + 16 * x1.toNat + (2 : Int).toNat) := hr30_0
              have hr30_1 : R2 r30 := hr30_1
              rw [show 17 + 16 * (x1).toNat + (2 : Int).toNat = 19 + 16 * p0.toNat by omega] at hr30_0
              refine wp_rg (by omega) ?_
              refine wp_rg (by omega) ?_
              refine wp_if (fun c6 => ?_) (fun c6 => ?_)
              · skip
                unfold m_x12_areValues_J90
                exact ih2 x1 (x2 + 1) (by show x1 = p0; omega) (by show 0 ≤ (x2 + 1) ∧ (x2 + 1) ≤ gA s 113 (20 + 16 * p0.toNat); omega) (fun k hk => by
      by_cases z : k = x2.toNat
      · rw [z]; unfold AV1; rw [← hr11_0, ← hr13_0]; first | exact Or.inl (by omega) | exact Or.inr ⟨by omega, by omega, by rw [← hr22_0, ← hr24_0]; omega, by rw [← hr28_0]; omega⟩
      · exact hv2_2 k (by omega)) (by omega)
              · skip
                unfold m_x12_areValues_J88
                exact wp_some (by first | exact Or.inl rfl | exact Or.inr ⟨rfl, fun k hk => hv2_2 k (by omega)⟩)
  exact L2 FU p0 0 (by show p0 = p0; omega) (by show 0 ≤ (0 : Int) ∧ (0 : Int) ≤ gA s 113 (20 + 16 * p0.toNat); omega) (fun k hk => absurd hk (by omega)) (by have := FU_big; have := FU_big2; omega)
