/-! ===== what holds of a store that was told ===== -/
def GN (s : MS) : Prop := (RT s ∧ RB_r s) ∧ ((8 ≤ gA s 39 5 ∧ gA s 39 5 ≤ 48) ∧ (3 ≤ gA s 39 6 ∧ gA s 39 6 ≤ 6)) ∧ (CE s 0 ∧ CE s 1 ∧ CE s 2)
/-- rows of what was told stay -/
def KR (s o : MS) : Prop := gA o 39 = gA s 39 ∧ gA o 42 = gA s 42 ∧ gA o 43 = gA s 43 ∧ gA o 44 = gA s 44
theorem KR_t {s o q : MS} (h1 : KR s o) (h2 : KR o q) : KR s q := ⟨h2.1.trans h1.1, h2.2.1.trans h1.2.1, h2.2.2.1.trans h1.2.2.1, h2.2.2.2.trans h1.2.2.2⟩
theorem GN_k {s o : MS} (H : GN s) (k : KR s o) (hT : RT o) (hB : RB_r o) : GN o := by
  obtain ⟨_, b, c1, c2, c3⟩ := H
  refine ⟨⟨hT, hB⟩, by rw [k.1]; exact b, CE_eq c1 k.2.1 k.2.2.1 k.2.2.2, CE_eq c2 k.2.1 k.2.2.1 k.2.2.2, CE_eq c3 k.2.1 k.2.2.1 k.2.2.2⟩
theorem RT_16 {o : MS} {w : Int} (H : RT (sA o 49 (upZ (gA o 49) 16 w))) : RT o := by
  obtain ⟨T, M, m1, m2⟩ := H
  have g : ∀ i, i ≠ 16 → gA (sA o 49 (upZ (gA o 49) 16 w)) 49 i = gA o 49 i := fun i hi => by rw [gA_sA, if_pos rfl, upZ_n hi]
  have g39 : gA (sA o 49 (upZ (gA o 49) 16 w)) 39 = gA o 39 := by rw [gA_sA, if_neg (by decide)]
  have a1 : ∀ p, p < 48 → (hM o).1 p = (hM (sA o 49 (upZ (gA o 49) 16 w))).1 p := fun p hp => (g (19 + 16 * p) (by omega)).symm
  have a2 : ∀ p, p < 48 → (hM o).2.1 p = (hM (sA o 49 (upZ (gA o 49) 16 w))).2.1 p := fun p hp => (g (20 + 16 * p) (by omega)).symm
  have a3 : ∀ p, p < 48 → ∀ k, k < 6 → (hM o).2.2 p k = (hM (sA o 49 (upZ (gA o 49) 16 w))).2.2 p k ∧ kM o p k = kM (sA o 49 (upZ (gA o 49) 16 w)) p k := fun p hp k hk => by
    constructor
    · show (if k < 6 then gA o 49 (27 + 16 * p + k) else 0) = if k < 6 then gA (sA o 49 (upZ (gA o 49) 16 w)) 49 (27 + 16 * p + k) else 0
      rw [g _ (by omega)]
    · show (if k < 6 then gA o 49 (21 + 16 * p + k) else 0) = if k < 6 then gA (sA o 49 (upZ (gA o 49) 16 w)) 49 (21 + 16 * p + k) else 0
      rw [g _ (by omega)]
  refine ⟨?_, M, fun u hu => ?_, m2⟩
  · have T' : TG _ _ _ _ _ _ _ _ _ _ := T
    rw [g39] at T'
    exact TG_ext (h' := hM o) (ky' := kM o) (c' := cM o) (sv' := vM o) (r' := rM o) (rs' := rsM o) T' a1 a2 a3 (fun p hp => (g _ (by omega)).symm) (fun p hp => (g _ (by omega)).symm) (fun v hv => by rw [rM_v hv, rM_v hv]; exact (g _ (by omega)).symm) (fun v hv => by rw [rsM_v hv, rsM_v hv]; exact (g _ (by omega)).symm)
  · have G := m1 u hu
    rw [g39, g u (by omega)] at G
    exact TG_ext (h' := hM o) (ky' := kM o) G a1 a2 a3 (fun _ _ => rfl) (fun _ _ => rfl) (fun _ _ => rfl) (fun _ _ => rfl)
theorem GN_x {s o : MS} (H : GN s) (k : KR s o) (h : ∀ j, j < 785 → j ≠ 16 → gA o 49 j = gA s 49 j) : GN o := by
  have e : RT o := by
    have H1 := H.1.1
    have h0 : RT (sA o 49 (gA s 49)) := RT_x (s := s) (o := sA o 49 (gA s 49)) H1 (fun j hj => by rw [gA_sA, if_pos rfl]) (by rw [gA_sA, if_neg (by decide), k.1]) (by rw [gA_sA, if_neg (by decide), k.1])
    have e2 : RT (sA o 49 (upZ (gA o 49) 16 (gA s 49 16))) := RT_x h0 (fun j hj => by
      rw [gA_sA, if_pos rfl, gA_sA, if_pos rfl]
      by_cases z : j = 16
      · rw [z, upZ_s]
      · rw [upZ_n z]; exact h j hj z) rfl rfl
    exact RT_16 e2
  exact GN_k H k e (fun u hu => by rw [h u (by omega) (by omega)]; exact H.1.2 u hu)
set_option maxHeartbeats 1000000 in
theorem w_x12_checks {s : MS} (hRs : Rr s) : wp (m_x12_checks s) (fun o => (Rr o) ∧ (∀ i, ¬ (8 ≤ i ∧ i < 16) → (∀ p, p < 48 → i ≠ 18 + 16 * p) → gA o 49 i = gA s 49 i) ∧ (∀ u, u < 8 → gA o 49 (8 + u) = gA s 49 u) ∧ (∀ p, p < 48 → gA o 49 (18 + 16 * p) = gA s 49 (17 + 16 * p))) := by
  unfold m_x12_checks
  have L2 : ∀ (n : Nat) (x9 : Int) (s10 : MS), Rr s10 → (0 ≤ x9 ∧ x9 ≤ 8) → (∀ i, ¬ (8 ≤ i ∧ i < 16) → gA s10 49 i = gA s 49 i) → (∀ u : Nat, (u : Int) < x9 → gA s10 49 (8 + u) = gA s 49 u) → (8 - x9) < (n : Int) → wp (m_x12_checks_L2 n x9 s10) (fun o => (Rr o) ∧ (∀ i, ¬ (8 ≤ i ∧ i < 16) → (∀ p, p < 48 → i ≠ 18 + 16 * p) → gA o 49 i = gA s 49 i) ∧ (∀ u, u < 8 → gA o 49 (8 + u) = gA s 49 u) ∧ (∀ p, p < 48 → gA o 49 (18 + 16 * p) = gA s 49 (17 + 16 * p))) := by
    refine fr_ind (fun x9 s10 hRs10 hv2_0 hv2_1 hv2_2 hm2 => ?_) (fun n2 ih2 x9 s10 hRs10 hv2_0 hv2_1 hv2_2 hm2 => ?_)
    · exfalso; omega
    · show wp (m_x12_checks_b2 (m_x12_checks_L2 n2) x9 s10) _
      unfold m_x12_checks_b2
      refine wp_rg (by omega) ?_
      refine wp_if (fun c1 => ?_) (fun c1 => ?_)
      · skip
        have L31 : ∀ (n : Nat) (x1 : Int) (s2 : MS), Rr s2 → (0 ≤ x1 ∧ x1 ≤ 48) → (∀ i, ¬ (8 ≤ i ∧ i < 16) → (∀ p, p < 48 → i ≠ 18 + 16 * p) → gA s2 49 i = gA s 49 i) → (∀ u, u < 8 → gA s2 49 (8 + u) = gA s 49 u) → (∀ p : Nat, (p : Int) < x1 → gA s2 49 (18 + 16 * p) = gA s 49 (17 + 16 * p)) → (48 - x1) < (n : Int) → wp (m_x12_checks_L31 n x1 s2) (fun o => (Rr o) ∧ (∀ i, ¬ (8 ≤ i ∧ i < 16) → (∀ p, p < 48 → i ≠ 18 + 16 * p) → gA o 49 i = gA s 49 i) ∧ (∀ u, u < 8 → gA o 49 (8 + u) = gA s 49 u) ∧ (∀ p, p < 48 → gA o 49 (18 + 16 * p) = gA s 49 (17 + 16 * p))) := by
          refine fr_ind (fun x1 s2 hRs2 hv31_0 hv31_1 hv31_2 hv31_3 hm31 => ?_) (fun n31 ih31 x1 s2 hRs2 hv31_0 hv31_1 hv31_2 hv31_3 hm31 => ?_)
          · exfalso; omega
          · show wp (m_x12_checks_b31 (m_x12_checks_L31 n31) x1 s2) _
            unfold m_x12_checks_b31
            refine wp_rg (by omega) ?_
            refine wp_if (fun c2 => ?_) (fun c2 => ?_)
            · skip
              exact wp_some ⟨hRs2, hv31_1, hv31_2, fun p hp => hv31_3 p (by omega)⟩
            · skip
              refine wp_bn (w_x12_countOf hRs2 (by show 0 ≤ x1 ∧ x1 < 48; omega)) (fun r6 er6 hr6 => ?_)
              obtain ⟨hr6_0, hr6_1⟩ := hr6
              have hr6_0 : r6 = cM s2 x1.toNat := hr6_0
              have hr6_1 : R2 r6 := hr6_1
              have k6 : r6 = gA s 49 (17 + 16 * x1.toNat) := by rw [hr6_0]; exact hv31_1 (17 + 16 * x1.toNat) (by omega) (fun p _ => by omega)
              refine wp_inb (by omega) ?_
              refine wp_stn (fun s8 es8 => ?_)
              have hRs8 : Rr s8 := es8 ▸ Rr.uAu hRs2 (by show (-2147483648 : Int) ≤ r6 ∧ r6 ≤ 2147483647; omega)
              exact ih31 (x1 + 1) s8 hRs8 (by show 0 ≤ (x1 + 1) ∧ (x1 + 1) ≤ 48; omega) (fun i hi hp => by rw [(q_AA es8 : gA s8 49 = _), upZ_n (by have := hp x1.toNat (by omega); omega)]; exact hv31_1 i hi hp) (fun u hu => by rw [(q_AA es8 : gA s8 49 = _), upZ_n (by omega)]; exact hv31_2 u hu) (fun p hp => by
          rw [(q_AA es8 : gA s8 49 = _)]
          by_cases z : p = x1.toNat
          · rw [show (17 + 16 * x1 + 1).toNat = 18 + 16 * p by omega, upZ_s, k6, z]
          · rw [upZ_n (by omega)]; exact hv31_3 p (by omega)) (by omega)
        exact L31 FU 0 s10 hRs10 (by show 0 ≤ (0 : Int) ∧ (0 : Int) ≤ 48; omega) (fun i hi _ => hv2_1 i hi) (fun u hu => hv2_2 u (by omega)) (fun p hp => by omega) (by have := FU_big; have := FU_big2; omega)
      · skip
        refine wp_rdIn (by omega) (fun y13 ey13 => ?_)
        have by13 : (-2147483648 : Int) ≤ y13 ∧ y13 ≤ 2147483647 := ey13 ▸ hRs10.2.1 49 _ (by show _ < 906; omega)
        have k13 : R2 y13 := ey13 ▸ R49 hRs10 (by omega)
        refine wp_inb (by omega) ?_
        refine wp_stn (fun s15 es15 => ?_)
        have hRs15 : Rr s15 := es15 ▸ Rr.uAu hRs10 (by show (-2147483648 : Int) ≤ y13 ∧ y13 ≤ 2147483647; omega)
        exact ih2 (x9 + 1) s15 hRs15 (by show 0 ≤ (x9 + 1) ∧ (x9 + 1) ≤ 8; omega) (fun i hi => by rw [(q_AA es15 : gA s15 49 = _), upZ_n (by omega)]; exact hv2_1 i hi) (fun u hu => by
          rw [(q_AA es15 : gA s15 49 = _)]
          by_cases z : u = x9.toNat
          · rw [show (8 + x9).toNat = 8 + u by omega, upZ_s, ← ey13, show x9.toNat = u by omega]; exact hv2_1 u (by omega)
          · rw [upZ_n (by omega)]; exact hv2_2 u (by omega)) (by omega)
  exact L2 FU 0 s hRs (by show 0 ≤ (0 : Int) ∧ (0 : Int) ≤ 8; omega) (fun _ _ => rfl) (fun u hu => by omega) (by have := FU_big; have := FU_big2; omega)
set_option maxHeartbeats 1000000 in
theorem w_x12_crashes {s : MS} (hRs : Rr s) : wp (m_x12_crashes s) (fun o => (Rr o) ∧ (∀ i, ¬ i < 8 → (∀ p, p < 48 → i ≠ 17 + 16 * p) → gA o 49 i = gA s 49 i) ∧ (∀ u, u < 8 → gA o 49 u = gA s 49 (8 + u)) ∧ (∀ p, p < 48 → gA o 49 (17 + 16 * p) = gA s 49 (18 + 16 * p))) := by
  unfold m_x12_crashes
  have L2 : ∀ (n : Nat) (x9 : Int) (s10 : MS), Rr s10 → (0 ≤ x9 ∧ x9 ≤ 8) → (∀ i, ¬ i < 8 → gA s10 49 i = gA s 49 i) → (∀ u : Nat, (u : Int) < x9 → gA s10 49 u = gA s 49 (8 + u)) → (8 - x9) < (n : Int) → wp (m_x12_crashes_L2 n x9 s10) (fun o => (Rr o) ∧ (∀ i, ¬ i < 8 → (∀ p, p < 48 → i ≠ 17 + 16 * p) → gA o 49 i = gA s 49 i) ∧ (∀ u, u < 8 → gA o 49 u = gA s 49 (8 + u)) ∧ (∀ p, p < 48 → gA o 49 (17 + 16 * p) = gA s 49 (18 + 16 * p))) := by
    refine fr_ind (fun x9 s10 hRs10 hv2_0 hv2_1 hv2_2 hm2 => ?_) (fun n2 ih2 x9 s10 hRs10 hv2_0 hv2_1 hv2_2 hm2 => ?_)
    · exfalso; omega
    · show wp (m_x12_crashes_b2 (m_x12_crashes_L2 n2) x9 s10) _
      unfold m_x12_crashes_b2
      refine wp_rg (by omega) ?_
      refine wp_if (fun c1 => ?_) (fun c1 => ?_)
      · skip
        have L31 : ∀ (n : Nat) (x1 : Int) (s2 : MS), Rr s2 → (0 ≤ x1 ∧ x1 ≤ 48) → (∀ i, ¬ i < 8 → (∀ p, p < 48 → i ≠ 17 + 16 * p) → gA s2 49 i = gA s 49 i) → (∀ u, u < 8 → gA s2 49 u = gA s 49 (8 + u)) → (∀ p : Nat, (p : Int) < x1 → gA s2 49 (17 + 16 * p) = gA s 49 (18 + 16 * p)) → (48 - x1) < (n : Int) → wp (m_x12_crashes_L31 n x1 s2) (fun o => (Rr o) ∧ (∀ i, ¬ i < 8 → (∀ p, p < 48 → i ≠ 17 + 16 * p) → gA o 49 i = gA s 49 i) ∧ (∀ u, u < 8 → gA o 49 u = gA s 49 (8 + u)) ∧ (∀ p, p < 48 → gA o 49 (17 + 16 * p) = gA s 49 (18 + 16 * p))) := by
          refine fr_ind (fun x1 s2 hRs2 hv31_0 hv31_1 hv31_2 hv31_3 hm31 => ?_) (fun n31 ih31 x1 s2 hRs2 hv31_0 hv31_1 hv31_2 hv31_3 hm31 => ?_)
          · exfalso; omega
          · show wp (m_x12_crashes_b31 (m_x12_crashes_L31 n31) x1 s2) _
            unfold m_x12_crashes_b31
            refine wp_rg (by omega) ?_
            refine wp_if (fun c2 => ?_) (fun c2 => ?_)
            · skip
              exact wp_some ⟨hRs2, hv31_1, hv31_2, fun p hp => hv31_3 p (by omega)⟩
            · skip
              refine wp_bn (w_x12_savedOf hRs2 (by show 0 ≤ x1 ∧ x1 < 48; omega)) (fun r6 er6 hr6 => ?_)
              obtain ⟨hr6_0, hr6_1⟩ := hr6
              have hr6_0 : r6 = vM s2 x1.toNat := hr6_0
              have hr6_1 : R2 r6 := hr6_1
              have k6 : r6 = gA s 49 (18 + 16 * x1.toNat) := by rw [hr6_0]; exact hv31_1 (18 + 16 * x1.toNat) (by omega) (fun p _ => by omega)
              refine wp_inb (by omega) ?_
              refine wp_stn (fun s8 es8 => ?_)
              have hRs8 : Rr s8 := es8 ▸ Rr.uAu hRs2 (by show (-2147483648 : Int) ≤ r6 ∧ r6 ≤ 2147483647; omega)
              exact ih31 (x1 + 1) s8 hRs8 (by show 0 ≤ (x1 + 1) ∧ (x1 + 1) ≤ 48; omega) (fun i hi hp => by rw [(q_AA es8 : gA s8 49 = _), upZ_n (by have := hp x1.toNat (by omega); omega)]; exact hv31_1 i hi hp) (fun u hu => by rw [(q_AA es8 : gA s8 49 = _), upZ_n (by omega)]; exact hv31_2 u hu) (fun p hp => by
          rw [(q_AA es8 : gA s8 49 = _)]
          by_cases z : p = x1.toNat
          · rw [show (17 + 16 * x1).toNat = 17 + 16 * p by omega, upZ_s, k6, z]
          · rw [upZ_n (by omega)]; exact hv31_3 p (by omega)) (by omega)
        exact L31 FU 0 s10 hRs10 (by show 0 ≤ (0 : Int) ∧ (0 : Int) ≤ 48; omega) (fun i hi _ => hv2_1 i hi) (fun u hu => hv2_2 u (by omega)) (fun p hp => by omega) (by have := FU_big; have := FU_big2; omega)
      · skip
        refine wp_rdIn (by omega) (fun y13 ey13 => ?_)
        have by13 : (-2147483648 : Int) ≤ y13 ∧ y13 ≤ 2147483647 := ey13 ▸ hRs10.2.1 49 _ (by show _ < 906; omega)
        have k13 : R2 y13 := ey13 ▸ R49 hRs10 (by omega)
        refine wp_inb (by omega) ?_
        refine wp_stn (fun s15 es15 => ?_)
        have hRs15 : Rr s15 := es15 ▸ Rr.uAu hRs10 (by show (-2147483648 : Int) ≤ y13 ∧ y13 ≤ 2147483647; omega)
        exact ih2 (x9 + 1) s15 hRs15 (by show 0 ≤ (x9 + 1) ∧ (x9 + 1) ≤ 8; omega) (fun i hi => by rw [(q_AA es15 : gA s15 49 = _), upZ_n (by omega)]; exact hv2_1 i hi) (fun u hu => by
          rw [(q_AA es15 : gA s15 49 = _)]
          by_cases z : u = x9.toNat
          · rw [z, upZ_s, ← ey13, show (8 + x9).toNat = 8 + x9.toNat by omega]; exact hv2_1 _ (by omega)
          · rw [upZ_n z]; exact hv2_2 u (by omega)) (by omega)
  exact L2 FU 0 s hRs (by show 0 ≤ (0 : Int) ∧ (0 : Int) ≤ 8; omega) (fun _ _ => rfl) (fun u hu => by omega) (by have := FU_big; have := FU_big2; omega)
set_option maxHeartbeats 1000000 in
theorem w_x12_copies {p0 : Int} {p1 : Int} {s : MS} (hRs : Rr s) (hp0 : 0 ≤ p0 ∧ p0 < 8) (hp1 : 0 ≤ p1 ∧ p1 < 8) (hp2 : RT s) (hp3 : gA s 49 p1.toNat = 255) (hp4 : 0 ≤ gA s 49 p0.toNat ∧ gA s 49 p0.toNat ≤ 254) : wp (m_x12_copies p0 p1 s) (fun o => (Rr o) ∧ (RT o) ∧ (∀ j, 785 ≤ j → gA o 49 j = gA s 49 j) ∧ (∀ u, u < 17 → u ≠ p1.toNat → gA o 49 u = gA s 49 u) ∧ (gA o 49 p1.toNat = gA s 49 p0.toNat)) := by
  unfold m_x12_copies
  refine wp_rdIn (by omega) (fun y2 ey2 => ?_)
  have by2 : (-2147483648 : Int) ≤ y2 ∧ y2 ≤ 2147483647 := ey2 ▸ hRs.2.1 49 _ (by show _ < 906; omega)
  have r2 : R2 y2 := ey2 ▸ R49 hRs (by omega)
  refine wp_inb (by omega) ?_
  refine wp_stn (fun s4 es4 => ?_)
  have hRs4 : Rr s4 := es4 ▸ Rr.uAu hRs (by show (-2147483648 : Int) ≤ y2 ∧ y2 ≤ 2147483647; omega)
  refine wp_rdIn (by omega) (fun y5 ey5 => ?_)
  have by5 : (-2147483648 : Int) ≤ y5 ∧ y5 ≤ 2147483647 := ey5 ▸ hRs4.2.1 49 _ (by show _ < 906; omega)
  have k5 : y5 = y2 := by rw [← ey5, (q_AA es4 : gA s4 49 = _), upZ_s]
  refine wp_rg (by omega) ?_
  refine wp_if (fun c1 => ?_) (fun c1 => ?_)
  · skip
    unfold m_x12_copies_J35
    exact wp_some ⟨hRs4, by have u4 : gA s4 49 = upZ (gA s 49) p1.toNat y2 := q_AA es4; have mr := M_root (v := p1.toNat) (by omega) u4; exact RT_copy (v := p0.toNat) (t := p1.toNat) hp2 (by omega) (by omega) (q_Aa es4 (by decide) : gA s4 39 = gA s 39) hp3 (fun p hp i h1 h2 => by rw [u4, upZ_n (by omega)]) (by rw [u4, upZ_s]; exact ey2.symm) (fun u hu hn => by rw [u4, upZ_n hn]) (fun p _ => by rw [mr.2.1.2]) (Or.inl ⟨by rw [ey2]; omega, fun p _ => by rw [mr.2.1.1]⟩), fun j hj => by rw [(q_AA es4 : gA s4 49 = _), upZ_n (by omega)], fun u hu hn => by rw [(q_AA es4 : gA s4 49 = _), upZ_n hn], by rw [(q_AA es4 : gA s4 49 = _), upZ_s, ey2]⟩
  · skip
    refine wp_rdIn (by omega) (fun y8 ey8 => ?_)
    have by8 : (-2147483648 : Int) ≤ y8 ∧ y8 ≤ 2147483647 := ey8 ▸ hRs4.2.1 49 _ (by show _ < 906; omega)
    have k8 : y8 = y2 := by rw [← ey8, (q_AA es4 : gA s4 49 = _), upZ_s]
    have rr0 := RT_root (u := p0.toNat) hp2 (by omega) (by omega) (by omega)
    rw [ey2] at rr0
    have bd := RT_bd hp2 (b := y8.toNat) (by omega)
    have kc : cM s4 = cM s := (M_root (v := p1.toNat) (by omega) (q_AA es4)).2.1.1
    rw [← kc] at bd
    refine wp_bn (w_x12_counts hRs4 (by show 0 ≤ y8 ∧ y8 < 48; omega) (by show -100000 ≤ cM s4 y8.toNat ∧ cM s4 y8.toNat ≤ 100000; omega) (by show -10 ≤ (1 : Int) ∧ (1 : Int) ≤ 10; omega)) (fun s10 es10 hs10 => ?_)
    have Fs10 : F_x12_counts s4 s10 := fr_x12_counts es10
    obtain ⟨hRs10, hs10_0⟩ := hs10
    have hs10_0 : gA s10 49 = upZ (gA s4 49) (17 + 16 * y8.toNat) (cM s4 y8.toNat + (1 : Int)) := hs10_0
    unfold m_x12_copies_J35
    exact wp_some ⟨hRs10, by have u4 : gA s4 49 = upZ (gA s 49) p1.toNat y2 := q_AA es4; have mr := M_root (v := p1.toNat) (by omega) u4; have mc := M_cnt (b := y8.toNat) (by omega) hs10_0; have e8 : y8 = gA s 49 p0.toNat := (by rw [ey2]; omega); exact RT_copy (v := p0.toNat) (t := p1.toNat) hp2 (by omega) (by omega) ((Fs10.2.1 39 (by decide)).trans (q_Aa es4 (by decide) : gA s4 39 = gA s 39)) hp3 (fun p hp i h1 h2 => by rw [mc.1 _ (fun q _ => by omega), u4, upZ_n (by omega)]) (by rw [CX_u mc.1 (by omega), u4, upZ_s]; exact ey2.symm) (fun u hu hn => by rw [CX_u mc.1 (by omega), u4, upZ_n hn]) (fun p _ => by rw [CX_v mc.1, mr.2.1.2]) (Or.inr ⟨by omega, fun p _ => by rw [mc.2, mr.2.1.1, e8]⟩), fun j hj => by rw [CX_n (M_cnt (b := y8.toNat) (by omega) hs10_0).1 hj, (q_AA es4 : gA s4 49 = _), upZ_n (by omega)], fun u hu hn => by rw [CX_u (M_cnt (b := y8.toNat) (by omega) hs10_0).1 hu, (q_AA es4 : gA s4 49 = _), upZ_n hn], by rw [CX_u (M_cnt (b := y8.toNat) (by omega) hs10_0).1 (by omega), (q_AA es4 : gA s4 49 = _), upZ_s, ey2]⟩
set_option maxHeartbeats 1000000 in
theorem w_x12_drops {p0 : Int} {s : MS} (hRs : Rr s) (hp0 : 0 ≤ p0 ∧ p0 < 8) (hp1 : RT s) (hp2 : 0 ≤ gA s 49 p0.toNat ∧ gA s 49 p0.toNat ≤ 254) : wp (m_x12_drops p0 s) (fun o => (Rr o) ∧ (RT o) ∧ (∀ j, 785 ≤ j → gA o 49 j = gA s 49 j) ∧ (∀ u, u < 17 → u ≠ p0.toNat → gA o 49 u = gA s 49 u) ∧ (gA o 49 p0.toNat = 255)) := by
  have J22 : ∀ (x1 : Int) (s2 : MS), Rr s2 → (x1 = p0) → (CX s s2) → ((254 ≤ gA s 49 p0.toNat ∧ ∀ p, p < 48 → cM s2 p = cM s p) ∨ ((0 ≤ gA s 49 p0.toNat ∧ gA s 49 p0.toNat < 254) ∧ RelI (hM s) (rM s) (cM s) (gA s 49 p0.toNat) (cM s2) (fun _ => 0))) → (gA s2 39 = gA s 39) → wp (m_x12_drops_J22 x1 s2) (fun o => (Rr o) ∧ (RT o) ∧ (∀ j, 785 ≤ j → gA o 49 j = gA s 49 j) ∧ (∀ u, u < 17 → u ≠ p0.toNat → gA o 49 u = gA s 49 u) ∧ (gA o 49 p0.toNat = 255)) := by
    intro x1 s2 hRs2 hj22_0 hj22_1 hj22_2 hj22_3
    unfold m_x12_drops_J22
    refine wp_inb (by omega) ?_
    refine wp_stn (fun s4 es4 => ?_)
    have hRs4 : Rr s4 := es4 ▸ Rr.uAu hRs2 (by show (-2147483648 : Int) ≤ (255 : Int) ∧ (255 : Int) ≤ 2147483647; omega)
    exact wp_some ⟨hRs4, RT_drop (v := p0.toNat) (c := cM s2) hp1 (by omega) (((q_Aa es4 (by decide) : gA s4 39 = gA s2 39)).trans hj22_3) (fun p hp i h1 h2 => by rw [(q_AA es4 : gA s4 49 = _), upZ_n (by omega)]; exact hj22_1 _ (fun q _ => by omega)) (by rw [(q_AA es4 : gA s4 49 = _), hj22_0, upZ_s]) (fun u hu hn => by rw [(q_AA es4 : gA s4 49 = _), upZ_n (by omega)]; exact CX_u hj22_1 (by omega)) (fun p _ => by show gA s4 49 _ = _; rw [(q_AA es4 : gA s4 49 = _), upZ_n (by omega)]; exact hj22_1 _ (fun q _ => by omega)) (fun p _ => by show gA s4 49 _ = gA s2 49 _; rw [(q_AA es4 : gA s4 49 = _), upZ_n (by omega)]) hj22_2, fun j hj => by rw [(q_AA es4 : gA s4 49 = _), upZ_n (by omega)]; exact CX_n hj22_1 hj, fun u hu hn => by rw [(q_AA es4 : gA s4 49 = _), upZ_n (by omega)]; exact CX_u hj22_1 hu, by rw [(q_AA es4 : gA s4 49 = _), hj22_0, upZ_s]⟩
  unfold m_x12_drops
  refine wp_rdIn (by omega) (fun y5 ey5 => ?_)
  have by5 : (-2147483648 : Int) ≤ y5 ∧ y5 ≤ 2147483647 := ey5 ▸ hRs.2.1 49 _ (by show _ < 906; omega)
  refine wp_rg (by omega) ?_
  refine wp_if (fun c1 => ?_) (fun c1 => ?_)
  · skip
    exact J22 p0 s hRs (by show p0 = p0; omega) (CX_0 s) (Or.inl ⟨by omega, fun _ _ => rfl⟩) (rfl)
  · skip
    refine wp_rdIn (by omega) (fun y8 ey8 => ?_)
    have by8 : (-2147483648 : Int) ≤ y8 ∧ y8 ≤ 2147483647 := ey8 ▸ hRs.2.1 49 _ (by show _ < 906; omega)
    have rr0 := RT_root (u := p0.toNat) hp1 (by omega) (by omega) (by omega)
    rw [ey8] at rr0
    have nN := (DW_nd hp1 (b := y8.toNat) (by omega) rr0.2.1).1
    have hT0 : TG (hM s) (kM s) (gA s 39 5) (gA s 39 6) (cM s) (vM s) (rM s) (rsM s) (fun _ => 0) (-1) := hp1.1
    refine wp_bn (w_x12_falls hRs (hT0.1.1) (hT0.1.2.1) (by show 0 ≤ y8 ∧ y8 < gA s 39 5; omega) (rr0.2.2 (by omega)) (fun x hx => by rw [hT0.2.1.1 x hx]; exact Int.le_refl 0) (fun x hx => by have := (RT_bd hp1 hx).1; omega)) (fun s10 es10 hs10 => ?_)
    have Fs10 : F_x12_falls s s10 := fr_x12_falls es10
    obtain ⟨hRs10, hs10_0, hs10_1, hs10_2, hs10_3⟩ := hs10
    have hs10_0 : F_x12_falls s s10 := hs10_0
    have hs10_1 : CX s s10 := hs10_1
    have hs10_2 : RelI (hM s) (rM s) (cM s) y8 (cM s10) (fun _ => 0) := hs10_2
    have hs10_3 : ∀ x : Nat, x < 48 → (hM s).1 y8.toNat ≤ (hM s).1 x → x ≠ y8.toNat → cM s10 x = cM s x := hs10_3
    exact J22 p0 s10 hRs10 (by show p0 = p0; omega) (hs10_1) (Or.inr ⟨by omega, by rw [ey8]; exact hs10_2⟩) (((Fs10.2.1 39 (by decide))))
set_option maxHeartbeats 1000000 in
theorem w_x12_isVolume {p0 : Int} {s : MS} (hRs : Rr s) (hp0 : R8 p0) : wp (m_x12_isVolume p0 s) (fun r => ((r = 1 ∧ (0 ≤ p0 ∧ p0 < 8) ∧ gI s 47 ≠ 0 ∧ gA s 49 p0.toNat ≠ 255) ∨ r = 0)) := by
  unfold m_x12_isVolume
  refine wp_bn (w_x12_isIn hRs (by show R8 p0; omega) (by show R8 (0 : Int); omega) (by show R8 (7 : Int); omega)) (fun r4 er4 hr4 => ?_)
  have hr4_0 := hr4
  have hr4_0 : (r4 = 1 ∧ (0 : Int) ≤ p0 ∧ p0 ≤ (7 : Int)) ∨ (r4 = 0 ∧ (p0 < (0 : Int) ∨ (7 : Int) < p0)) := hr4_0
  refine wp_rg (by omega) ?_
  refine wp_if (fun c1 => ?_) (fun c1 => ?_)
  · skip
    unfold m_x12_isVolume_J35
    unfold m_x12_isVolume_J36
    refine wp_bo (by omega) ?_
    exact wp_some (by show ((0 : Int) = 1 ∧ (0 ≤ p0 ∧ p0 < 8) ∧ gI s 47 ≠ 0 ∧ gA s 49 p0.toNat ≠ 255) ∨ (0 : Int) = 0; have : (0 : Int) ≤ gI s 47 ∧ gI s 47 ≤ 1 := hRs.1 47; omega)
  · skip
    refine wp_rg (by have : (0 : Int) ≤ gI s 47 ∧ gI s 47 ≤ 1 := hRs.1 47; omega) ?_
    refine wp_if (fun c2 => ?_) (fun c2 => ?_)
    · skip
      unfold m_x12_isVolume_J35
      unfold m_x12_isVolume_J36
      refine wp_bo (by have : (0 : Int) ≤ gI s 47 ∧ gI s 47 ≤ 1 := hRs.1 47; omega) ?_
      exact wp_some (by show ((0 : Int) = 1 ∧ (0 ≤ p0 ∧ p0 < 8) ∧ gI s 47 ≠ 0 ∧ gA s 49 p0.toNat ≠ 255) ∨ (0 : Int) = 0; have : (0 : Int) ≤ gI s 47 ∧ gI s 47 ≤ 1 := hRs.1 47; omega)
    · skip
      refine wp_rdIn (by have : (0 : Int) ≤ gI s 47 ∧ gI s 47 ≤ 1 := hRs.1 47; omega) (fun y9 ey9 => ?_)
      have by9 : (-2147483648 : Int) ≤ y9 ∧ y9 ≤ 2147483647 := ey9 ▸ hRs.2.1 49 _ (by show _ < 906; have : (0 : Int) ≤ gI s 47 ∧ gI s 47 ≤ 1 := hRs.1 47; omega)
      have r9 : R2 y9 := ey9 ▸ R49 hRs (by omega)
      refine wp_rg (by have : (0 : Int) ≤ gI s 47 ∧ gI s 47 ≤ 1 := hRs.1 47; omega) ?_
      refine wp_if (fun c3 => ?_) (fun c3 => ?_)
      · skip
        unfold m_x12_isVolume_J35
        unfold m_x12_isVolume_J36
        refine wp_bo (by have : (0 : Int) ≤ gI s 47 ∧ gI s 47 ≤ 1 := hRs.1 47; omega) ?_
        exact wp_some (by show ((0 : Int) = 1 ∧ (0 ≤ p0 ∧ p0 < 8) ∧ gI s 47 ≠ 0 ∧ gA s 49 p0.toNat ≠ 255) ∨ (0 : Int) = 0; have : (0 : Int) ≤ gI s 47 ∧ gI s 47 ≤ 1 := hRs.1 47; omega)
      · skip
        unfold m_x12_isVolume_J36
        refine wp_bo (by have : (0 : Int) ≤ gI s 47 ∧ gI s 47 ≤ 1 := hRs.1 47; omega) ?_
        exact wp_some (by show ((1 : Int) = 1 ∧ (0 ≤ p0 ∧ p0 < 8) ∧ gI s 47 ≠ 0 ∧ gA s 49 p0.toNat ≠ 255) ∨ (1 : Int) = 0; have : (0 : Int) ≤ gI s 47 ∧ gI s 47 ≤ 1 := hRs.1 47; omega)
set_option maxHeartbeats 1000000 in
theorem w_x12_clearsTouched {s : MS} (hRs : Rr s) : wp (m_x12_clearsTouched s) (fun o => (Rr o)) := by
  unfold m_x12_clearsTouched
  have L2 : ∀ (n : Nat) (x1 : Int) (s2 : MS), Rr s2 → (0 ≤ x1 ∧ x1 ≤ 48) → (48 - x1) < (n : Int) → wp (m_x12_clearsTouched_L2 n x1 s2) (fun o => (Rr o)) := by
    refine fr_ind (fun x1 s2 hRs2 hv2_0 hm2 => ?_) (fun n2 ih2 x1 s2 hRs2 hv2_0 hm2 => ?_)
    · exfalso; omega
    · show wp (m_x12_clearsTouched_b2 (m_x12_clearsTouched_L2 n2) x1 s2) _
      unfold m_x12_clearsTouched_b2
      refine wp_rg (by omega) ?_
      refine wp_if (fun c1 => ?_) (fun c1 => ?_)
      · skip
        exact wp_some (hRs2)
      · skip
        refine wp_inb (by omega) ?_
        refine wp_bo (by omega) ?_
        refine wp_stn (fun s7 es7 => ?_)
        have hRs7 : Rr s7 := es7 ▸ Rr.uAu hRs2 (by show (0 : Int) ≤ (0 : Int) ∧ (0 : Int) ≤ 1; omega)
        exact ih2 (x1 + 1) s7 hRs7 (by show 0 ≤ (x1 + 1) ∧ (x1 + 1) ≤ 48; omega) (by omega)
  exact L2 FU 0 s hRs (by show 0 ≤ (0 : Int) ∧ (0 : Int) ≤ 48; omega) (by have := FU_big; have := FU_big2; omega)
set_option maxHeartbeats 1000000 in
theorem w_x12_writtenMany {s : MS} (hRs : Rr s) (hp0 : 0 ≤ gA s 39 5 ∧ gA s 39 5 ≤ 48) : wp (m_x12_writtenMany s) (fun r => (0 ≤ r ∧ r ≤ 48)) := by
  unfold m_x12_writtenMany
  have L4 : ∀ (n : Nat) (x1 : Int) (x2 : Int), (0 ≤ x1 ∧ x1 ≤ x2 ∧ x2 ≤ 48) → (48 - x2) < (n : Int) → wp (m_x12_writtenMany_L4 s n x1 x2) (fun r => (0 ≤ r ∧ r ≤ 48)) := by
    refine fr_ind (fun x1 x2 hv4_0 hm4 => ?_) (fun n4 ih4 x1 x2 hv4_0 hm4 => ?_)
    · exfalso; omega
    · show wp (m_x12_writtenMany_b4 s (m_x12_writtenMany_L4 s n4) x1 x2) _
      unfold m_x12_writtenMany_b4
      refine wp_bn (w_x12_blockMany hRs) (fun r6 er6 hr6 => ?_)
      have hr6_0 := hr6
      have hr6_0 : r6 = gA s 39 5 := hr6_0
      refine wp_rg (by omega) ?_
      refine wp_rg (by omega) ?_
      refine wp_if (fun c1 => ?_) (fun c1 => ?_)
      · skip
        exact wp_some (by show 0 ≤ x1 ∧ x1 ≤ 48; omega)
      · skip
        refine wp_rdIn (by omega) (fun y10 ey10 => ?_)
        have by10 : (0 : Int) ≤ y10 ∧ y10 ≤ 1 := ey10 ▸ hRs.2.1 54 _ (by show _ < 48; omega)
        refine wp_rg (by omega) ?_
        refine wp_if (fun c2 => ?_) (fun c2 => ?_)
        · skip
          unfold m_x12_writtenMany_J32
          exact ih4 x1 (x2 + 1) (by show 0 ≤ x1 ∧ x1 ≤ (x2 + 1) ∧ (x2 + 1) ≤ 48; omega) (by omega)
        · skip
          refine wp_bn (w_x12_isUsed hRs (by show 0 ≤ x2 ∧ x2 < 48; omega)) (fun r14 er14 hr14 => ?_)
          have hr14_0 := hr14
          have hr14_0 : (r14 = 1 ∧ 0 < cM s x2.toNat) ∨ (r14 = 0 ∧ cM s x2.toNat ≤ 0) := hr14_0
          refine wp_rg (by omega) ?_
          refine wp_if (fun c3 => ?_) (fun c3 => ?_)
          · skip
            unfold m_x12_writtenMany_J32
            exact ih4 x1 (x2 + 1) (by show 0 ≤ x1 ∧ x1 ≤ (x2 + 1) ∧ (x2 + 1) ≤ 48; omega) (by omega)
          · skip
            unfold m_x12_writtenMany_J32
            exact ih4 (x1 + 1) (x2 + 1) (by show 0 ≤ (x1 + 1) ∧ (x1 + 1) ≤ (x2 + 1) ∧ (x2 + 1) ≤ 48; omega) (by omega)
  exact L4 FU 0 0 (by show 0 ≤ (0 : Int) ∧ (0 : Int) ≤ (0 : Int) ∧ (0 : Int) ≤ 48; omega) (by have := FU_big; have := FU_big2; omega)
set_option maxHeartbeats 1000000 in
theorem w_x12_usedMany {s : MS} (hRs : Rr s) (hp0 : 0 ≤ gA s 39 5 ∧ gA s 39 5 ≤ 48) : wp (m_x12_usedMany s) (fun r => (0 ≤ r ∧ r ≤ 48)) := by
  unfold m_x12_usedMany
  have L4 : ∀ (n : Nat) (x1 : Int) (x2 : Int), (0 ≤ x1 ∧ x1 ≤ x2 ∧ x2 ≤ 48) → (48 - x2) < (n : Int) → wp (m_x12_usedMany_L4 s n x1 x2) (fun r => (0 ≤ r ∧ r ≤ 48)) := by
    refine fr_ind (fun x1 x2 hv4_0 hm4 => ?_) (fun n4 ih4 x1 x2 hv4_0 hm4 => ?_)
    · exfalso; omega
    · show wp (m_x12_usedMany_b4 s (m_x12_usedMany_L4 s n4) x1 x2) _
      unfold m_x12_usedMany_b4
      refine wp_bn (w_x12_blockMany hRs) (fun r6 er6 hr6 => ?_)
      have hr6_0 := hr6
      have hr6_0 : r6 = gA s 39 5 := hr6_0
      refine wp_rg (by omega) ?_
      refine wp_rg (by omega) ?_
      refine wp_if (fun c1 => ?_) (fun c1 => ?_)
      · skip
        exact wp_some (by show 0 ≤ x1 ∧ x1 ≤ 48; omega)
      · skip
        refine wp_bn (w_x12_isUsed hRs (by show 0 ≤ x2 ∧ x2 < 48; omega)) (fun r11 er11 hr11 => ?_)
        have hr11_0 := hr11
        have hr11_0 : (r11 = 1 ∧ 0 < cM s x2.toNat) ∨ (r11 = 0 ∧ cM s x2.toNat ≤ 0) := hr11_0
        refine wp_rg (by omega) ?_
        refine wp_if (fun c2 => ?_) (fun c2 => ?_)
        · skip
          unfold m_x12_usedMany_J23
          exact ih4 x1 (x2 + 1) (by show 0 ≤ x1 ∧ x1 ≤ (x2 + 1) ∧ (x2 + 1) ≤ 48; omega) (by omega)
        · skip
          unfold m_x12_usedMany_J23
          exact ih4 (x1 + 1) (x2 + 1) (by show 0 ≤ (x1 + 1) ∧ (x1 + 1) ≤ (x2 + 1) ∧ (x2 + 1) ≤ 48; omega) (by omega)
  exact L4 FU 0 0 (by show 0 ≤ (0 : Int) ∧ (0 : Int) ≤ (0 : Int) ∧ (0 : Int) ≤ 48; omega) (by have := FU_big; have := FU_big2; omega)
set_option maxHeartbeats 1000000 in
theorem w_x12_heldMany {s : MS} (hRs : Rr s) (hp0 : 0 ≤ gA s 39 5 ∧ gA s 39 5 ≤ 48) : wp (m_x12_heldMany s) (fun r => (0 ≤ r ∧ r ≤ 48)) := by
  unfold m_x12_heldMany
  have L4 : ∀ (n : Nat) (x1 : Int) (x2 : Int), (0 ≤ x1 ∧ x1 ≤ x2 ∧ x2 ≤ 48) → (48 - x2) < (n : Int) → wp (m_x12_heldMany_L4 s n x1 x2) (fun r => (0 ≤ r ∧ r ≤ 48)) := by
    refine fr_ind (fun x1 x2 hv4_0 hm4 => ?_) (fun n4 ih4 x1 x2 hv4_0 hm4 => ?_)
    · exfalso; omega
    · show wp (m_x12_heldMany_b4 s (m_x12_heldMany_L4 s n4) x1 x2) _
      unfold m_x12_heldMany_b4
      refine wp_bn (w_x12_blockMany hRs) (fun r6 er6 hr6 => ?_)
      have hr6_0 := hr6
      have hr6_0 : r6 = gA s 39 5 := hr6_0
      refine wp_rg (by omega) ?_
      refine wp_rg (by omega) ?_
      refine wp_if (fun c1 => ?_) (fun c1 => ?_)
      · skip
        exact wp_some (by show 0 ≤ x1 ∧ x1 ≤ 48; omega)
      · skip
        refine wp_bn (w_x12_isHeld hRs (by show 0 ≤ x2 ∧ x2 < 48; omega)) (fun r11 er11 hr11 => ?_)
        have hr11_0 := hr11
        have hr11_0 : r11 = 0 ∨ r11 = 1 := hr11_0
        refine wp_rg (by omega) ?_
        refine wp_if (fun c2 => ?_) (fun c2 => ?_)
        · skip
          unfold m_x12_heldMany_J23
          exact ih4 x1 (x2 + 1) (by show 0 ≤ x1 ∧ x1 ≤ (x2 + 1) ∧ (x2 + 1) ≤ 48; omega) (by omega)
        · skip
          unfold m_x12_heldMany_J23
          exact ih4 (x1 + 1) (x2 + 1) (by show 0 ≤ (x1 + 1) ∧ (x1 + 1) ≤ (x2 + 1) ∧ (x2 + 1) ≤ 48; omega) (by omega)
  exact L4 FU 0 0 (by show 0 ≤ (0 : Int) ∧ (0 : Int) ≤ (0 : Int) ∧ (0 : Int) ≤ 48; omega) (by have := FU_big; have := FU_big2; omega)
set_option maxHeartbeats 1000000 in
theorem w_x12_freeMany {s : MS} (hRs : Rr s) (hp0 : 0 ≤ gA s 39 5 ∧ gA s 39 5 ≤ 48) : wp (m_x12_freeMany s) (fun r => (R2 r)) := by
  unfold m_x12_freeMany
  refine wp_bn (w_x12_blockMany hRs) (fun r2 er2 hr2 => ?_)
  have hr2_0 := hr2
  have hr2_0 : r2 = gA s 39 5 := hr2_0
  refine wp_bn (w_x12_usedMany hRs (by show 0 ≤ gA s 39 5 ∧ gA s 39 5 ≤ 48; omega)) (fun r4 er4 hr4 => ?_)
  have hr4_0 := hr4
  have hr4_0 : 0 ≤ r4 ∧ r4 ≤ 48 := hr4_0
  refine wp_bn (w_x12_heldMany hRs (by show 0 ≤ gA s 39 5 ∧ gA s 39 5 ≤ 48; omega)) (fun r6 er6 hr6 => ?_)
  have hr6_0 := hr6
  have hr6_0 : 0 ≤ r6 ∧ r6 ≤ 48 := hr6_0
  exact wp_some (by show R2 ((r2 - r4) - r6); omega)
set_option maxHeartbeats 1000000 in
theorem w_x12_volumeMany {s : MS} (hRs : Rr s) : wp (m_x12_volumeMany s) (fun r => (0 ≤ r ∧ r ≤ 8)) := by
  unfold m_x12_volumeMany
  have L4 : ∀ (n : Nat) (x1 : Int) (x2 : Int), (0 ≤ x1 ∧ x1 ≤ x2 ∧ x2 ≤ 8) → (8 - x2) < (n : Int) → wp (m_x12_volumeMany_L4 s n x1 x2) (fun r => (0 ≤ r ∧ r ≤ 8)) := by
    refine fr_ind (fun x1 x2 hv4_0 hm4 => ?_) (fun n4 ih4 x1 x2 hv4_0 hm4 => ?_)
    · exfalso; omega
    · show wp (m_x12_volumeMany_b4 s (m_x12_volumeMany_L4 s n4) x1 x2) _
      unfold m_x12_volumeMany_b4
      refine wp_rg (by omega) ?_
      refine wp_if (fun c1 => ?_) (fun c1 => ?_)
      · skip
        exact wp_some (by show 0 ≤ x1 ∧ x1 ≤ 8; omega)
      · skip
        refine wp_rg (by omega) ?_
        refine wp_bn (w_x12_isVolume hRs (by show R8 x2; omega)) (fun r9 er9 hr9 => ?_)
        have hr9_0 := hr9
        have hr9_0 : (r9 = 1 ∧ (0 ≤ x2 ∧ x2 < 8) ∧ gI s 47 ≠ 0 ∧ gA s 49 x2.toNat ≠ 255) ∨ r9 = 0 := hr9_0
        refine wp_rg (by have : (0 : Int) ≤ gI s 47 ∧ gI s 47 ≤ 1 := hRs.1 47; omega) ?_
        refine wp_if (fun c2 => ?_) (fun c2 => ?_)
        · skip
          unfold m_x12_volumeMany_J22
          exact ih4 x1 (x2 + 1) (by show 0 ≤ x1 ∧ x1 ≤ (x2 + 1) ∧ (x2 + 1) ≤ 8; have : (0 : Int) ≤ gI s 47 ∧ gI s 47 ≤ 1 := hRs.1 47; omega) (by have : (0 : Int) ≤ gI s 47 ∧ gI s 47 ≤ 1 := hRs.1 47; omega)
        · skip
          unfold m_x12_volumeMany_J22
          exact ih4 (x1 + 1) (x2 + 1) (by show 0 ≤ (x1 + 1) ∧ (x1 + 1) ≤ (x2 + 1) ∧ (x2 + 1) ≤ 8; have : (0 : Int) ≤ gI s 47 ∧ gI s 47 ≤ 1 := hRs.1 47; omega) (by have : (0 : Int) ≤ gI s 47 ∧ gI s 47 ≤ 1 := hRs.1 47; omega)
  exact L4 FU 0 0 (by show 0 ≤ (0 : Int) ∧ (0 : Int) ≤ (0 : Int) ∧ (0 : Int) ≤ 8; omega) (by have := FU_big; have := FU_big2; omega)
set_option maxHeartbeats 1000000 in
theorem w_x12_has {p0 : Int} {s : MS} (hRs : Rr s) (hp0 : R2 p0) (hp1 : 0 ≤ gA s 39 5 ∧ gA s 39 5 ≤ 48) : wp (m_x12_has p0 s) (fun r => True) := by
  unfold m_x12_has
  refine wp_rg (by omega) ?_
  refine wp_if (fun c1 => ?_) (fun c1 => ?_)
  · skip
    refine wp_bn (w_x12_blockMany hRs) (fun r4 er4 hr4 => ?_)
    have hr4_0 := hr4
    have hr4_0 : r4 = gA s 39 5 := hr4_0
    exact wp_some (trivial)
  · skip
    refine wp_if (fun c2 => ?_) (fun c2 => ?_)
    · skip
      refine wp_bn (w_x12_volumeMany hRs) (fun r7 er7 hr7 => ?_)
      have hr7_0 := hr7
      have hr7_0 : 0 ≤ r7 ∧ r7 ≤ 8 := hr7_0
      exact wp_some (trivial)
    · skip
      refine wp_if (fun c3 => ?_) (fun c3 => ?_)
      · skip
        refine wp_bn (w_x12_usedMany hRs (by show 0 ≤ gA s 39 5 ∧ gA s 39 5 ≤ 48; omega)) (fun r10 er10 hr10 => ?_)
        have hr10_0 := hr10
        have hr10_0 : 0 ≤ r10 ∧ r10 ≤ 48 := hr10_0
        exact wp_some (trivial)
      · skip
        refine wp_if (fun c4 => ?_) (fun c4 => ?_)
        · skip
          refine wp_bn (w_x12_heldMany hRs (by show 0 ≤ gA s 39 5 ∧ gA s 39 5 ≤ 48; omega)) (fun r13 er13 hr13 => ?_)
          have hr13_0 := hr13
          have hr13_0 : 0 ≤ r13 ∧ r13 ≤ 48 := hr13_0
          exact wp_some (trivial)
        · skip
          refine wp_if (fun c5 => ?_) (fun c5 => ?_)
          · skip
            refine wp_bn (w_x12_freeMany hRs (by show 0 ≤ gA s 39 5 ∧ gA s 39 5 ≤ 48; omega)) (fun r16 er16 hr16 => ?_)
            have hr16_0 := hr16
            have hr16_0 : R2 r16 := hr16_0
            exact wp_some (trivial)
          · skip
            refine wp_if (fun c6 => ?_) (fun c6 => ?_)
            · skip
              refine wp_rdIn (by omega) (fun y18 ey18 => ?_)
              have by18 : (-2147483648 : Int) ≤ y18 ∧ y18 ≤ 2147483647 := ey18 ▸ hRs.2.1 49 _ (by show _ < 906; omega)
              exact wp_some (trivial)
            · skip
              refine wp_if (fun c7 => ?_) (fun c7 => ?_)
              · skip
                refine wp_rdIn (by omega) (fun y20 ey20 => ?_)
                have by20 : (-2147483648 : Int) ≤ y20 ∧ y20 ≤ 2147483647 := ey20 ▸ hRs.2.1 49 _ (by show _ < 906; omega)
                exact wp_some (trivial)
              · skip
                refine wp_if (fun c8 => ?_) (fun c8 => ?_)
                · skip
                  exact wp_some (trivial)
                · skip
                  refine wp_if (fun c9 => ?_) (fun c9 => ?_)
                  · skip
                    exact wp_some (trivial)
                  · skip
                    refine wp_if (fun c10 => ?_) (fun c10 => ?_)
                    · skip
                      refine wp_bn (w_x12_roomOf hRs) (fun r25 er25 hr25 => ?_)
                      have hr25_0 := hr25
                      have hr25_0 : r25 = gA s 39 6 := hr25_0
                      exact wp_some (trivial)
                    · skip
                      exact wp_some (trivial)
set_option maxHeartbeats 1000000 in
theorem w_x12_putsAside {s : MS} (hRs : Rr s) : wp (m_x12_putsAside s) (fun o => (Rr o) ∧ (∀ j, j < 785 → gA o 61 j = gA s 49 j)) := by
  unfold m_x12_putsAside
  have L2 : ∀ (n : Nat) (x1 : Int) (s2 : MS), Rr s2 → (0 ≤ x1 ∧ x1 ≤ 785) → (∀ j : Nat, (j : Int) < x1 → gA s2 61 j = gA s 49 j) → (gA s2 49 = gA s 49) → (785 - x1) < (n : Int) → wp (m_x12_putsAside_L2 n x1 s2) (fun o => (Rr o) ∧ (∀ j, j < 785 → gA o 61 j = gA s 49 j)) := by
    refine fr_ind (fun x1 s2 hRs2 hv2_0 hv2_1 hv2_2 hm2 => ?_) (fun n2 ih2 x1 s2 hRs2 hv2_0 hv2_1 hv2_2 hm2 => ?_)
    · exfalso; omega
    · show wp (m_x12_putsAside_b2 (m_x12_putsAside_L2 n2) x1 s2) _
      unfold m_x12_putsAside_b2
      refine wp_rg (by omega) ?_
      refine wp_if (fun c1 => ?_) (fun c1 => ?_)
      · skip
        refine wp_bn (w_x12_clearsTouched hRs2) (fun s6 es6 hs6 => ?_)
        have Fs6 : F_x12_clearsTouched s2 s6 := fr_x12_clearsTouched es6
        have hRs6 := hs6
        exact wp_some ⟨hRs6, fun j hj => by rw [(Fs6.2.1 61 (by decide))]; exact hv2_1 j (by omega)⟩
      · skip
        refine wp_rdIn (by omega) (fun y7 ey7 => ?_)
        have by7 : (-2147483648 : Int) ≤ y7 ∧ y7 ≤ 2147483647 := ey7 ▸ hRs2.2.1 49 _ (by show _ < 906; omega)
        have r7 : R2 y7 := ey7 ▸ R49 hRs2 (by omega)
        refine wp_inb (by omega) ?_
        refine wp_stn (fun s9 es9 => ?_)
        have hRs9 : Rr s9 := es9 ▸ Rr.uAu hRs2 (by show (-2147483648 : Int) ≤ y7 ∧ y7 ≤ 2147483647; omega)
        exact ih2 (x1 + 1) s9 hRs9 (by show 0 ≤ (x1 + 1) ∧ (x1 + 1) ≤ 785; omega) (fun j hj => by
          rw [(q_AA es9 : gA s9 61 = _)]
          by_cases z : j = x1.toNat
          · rw [z, upZ_s, ← ey7, hv2_2]
          · rw [upZ_n z]; exact hv2_1 j (by omega)) (((q_Aa es9 (by decide) : gA s9 49 = gA s2 49)).trans hv2_2) (by omega)
  exact L2 FU 0 s hRs (by show 0 ≤ (0 : Int) ∧ (0 : Int) ≤ 785; omega) (fun j hj => by omega) (rfl) (by have := FU_big; have := FU_big2; omega)
set_option maxHeartbeats 1000000 in
theorem w_x12_takesBack {s : MS} (hRs : Rr s) : wp (m_x12_takesBack s) (fun o => (Rr o) ∧ (∀ j, j < 785 → gA o 49 j = gA s 61 j) ∧ (∀ j, 785 ≤ j → gA o 49 j = gA s 49 j)) := by
  unfold m_x12_takesBack
  have L2 : ∀ (n : Nat) (x1 : Int) (s2 : MS), Rr s2 → (0 ≤ x1 ∧ x1 ≤ 785) → (∀ j : Nat, (j : Int) < x1 → gA s2 49 j = gA s 61 j) → (∀ j, 785 ≤ j → gA s2 49 j = gA s 49 j) → (gA s2 61 = gA s 61) → (785 - x1) < (n : Int) → wp (m_x12_takesBack_L2 n x1 s2) (fun o => (Rr o) ∧ (∀ j, j < 785 → gA o 49 j = gA s 61 j) ∧ (∀ j, 785 ≤ j → gA o 49 j = gA s 49 j)) := by
    refine fr_ind (fun x1 s2 hRs2 hv2_0 hv2_1 hv2_2 hv2_3 hm2 => ?_) (fun n2 ih2 x1 s2 hRs2 hv2_0 hv2_1 hv2_2 hv2_3 hm2 => ?_)
    · exfalso; omega
    · show wp (m_x12_takesBack_b2 (m_x12_takesBack_L2 n2) x1 s2) _
      unfold m_x12_takesBack_b2
      refine wp_rg (by omega) ?_
      refine wp_if (fun c1 => ?_) (fun c1 => ?_)
      · skip
        exact wp_some ⟨hRs2, fun j hj => hv2_1 j (by omega), hv2_2⟩
      · skip
        refine wp_rdIn (by omega) (fun y5 ey5 => ?_)
        have by5 : (-2147483648 : Int) ≤ y5 ∧ y5 ≤ 2147483647 := ey5 ▸ hRs2.2.1 61 _ (by show _ < 785; omega)
        have r5 : R2 y5 := ey5 ▸ hRs2.2.1 61 _ (by show _ < 785; omega)
        refine wp_inb (by omega) ?_
        refine wp_stn (fun s7 es7 => ?_)
        have hRs7 : Rr s7 := es7 ▸ Rr.uAu hRs2 (by show (-2147483648 : Int) ≤ y5 ∧ y5 ≤ 2147483647; omega)
        exact ih2 (x1 + 1) s7 hRs7 (by show 0 ≤ (x1 + 1) ∧ (x1 + 1) ≤ 785; omega) (fun j hj => by
          rw [(q_AA es7 : gA s7 49 = _)]
          by_cases z : j = x1.toNat
          · rw [z, upZ_s, ← ey5, hv2_3]
          · rw [upZ_n z]; exact hv2_1 j (by omega)) (fun j hj => by rw [(q_AA es7 : gA s7 49 = _), upZ_n (by omega)]; exact hv2_2 j hj) (((q_Aa es7 (by decide) : gA s7 61 = gA s2 61)).trans hv2_3) (by omega)
  exact L2 FU 0 s hRs (by show 0 ≤ (0 : Int) ∧ (0 : Int) ≤ 785; omega) (fun j hj => by omega) (fun _ _ => rfl) (rfl) (by have := FU_big; have := FU_big2; omega)
set_option maxHeartbeats 1000000 in
theorem w_x12_costOf {p0 : Int} {s : MS} (hRs : Rr s) (hp0 : 0 ≤ p0 ∧ p0 < 48) (hp1 : 0 ≤ (hM s).1 p0.toNat ∧ (hM s).1 p0.toNat ≤ 1000) (hp2 : (0 ≤ (hM s).2.1 p0.toNat ∧ (hM s).2.1 p0.toNat ≤ 6)) (hp3 : CE s 2) : wp (m_x12_costOf p0 s) (fun q => (Rr q.2) ∧ (0 ≤ q.1 ∧ q.1 ≤ 99)) := by
  unfold m_x12_costOf
  refine wp_stn (fun s3 es3 => ?_)
  have hRs3 : Rr s3 := es3 ▸ Rr.uI hRs (by show (0 : Int) ≤ p0 ∧ p0 ≤ 47; omega)
  refine wp_bn (w_x12_levelOf hRs3 (by show 0 ≤ p0 ∧ p0 < 48; omega)) (fun r5 er5 hr5 => ?_)
  obtain ⟨hr5_0, hr5_1⟩ := hr5
  have hr5_0 : r5 = (hM s3).1 p0.toNat := hr5_0
  have hr5_1 : R2 r5 := hr5_1
  have e3 : hM s3 = hM s := (eq49 ((q_Ia es3 : gA s3 49 = gA s 49))).1
  rw [e3] at hr5_0
  refine wp_stn (fun s6 es6 => ?_)
  have hRs6 : Rr s6 := es6 ▸ Rr.uI hRs3 (by show (0 : Int) ≤ r5 ∧ r5 ≤ 1000; omega)
  refine wp_bn (w_x12_entriesOf hRs6 (by show 0 ≤ p0 ∧ p0 < 48; omega)) (fun r8 er8 hr8 => ?_)
  obtain ⟨hr8_0, hr8_1⟩ := hr8
  have hr8_0 : r8 = (hM s6).2.1 p0.toNat := hr8_0
  have hr8_1 : R2 r8 := hr8_1
  have e6 : hM s6 = hM s := (eq49 (((q_Ia es6 : gA s6 49 = gA s3 49).trans (q_Ia es3 : gA s3 49 = gA s 49)))).1
  rw [e6] at hr8_0
  refine wp_stn (fun s9 es9 => ?_)
  have hRs9 : Rr s9 := es9 ▸ Rr.uI hRs6 (by show (0 : Int) ≤ r8 ∧ r8 ≤ 6; omega)
  refine wp_bn (w_x12_isCoded hRs9 (by show 0 ≤ (2 : Int) ∧ (2 : Int) ≤ 2; omega)) (fun r11 er11 hr11 => ?_)
  have hr11_0 := hr11
  have hr11_0 : (r11 = 1 ∧ gA s9 42 (3 + (2 : Int).toNat) ≠ -1) ∨ (r11 = 0 ∧ gA s9 42 (3 + (2 : Int).toNat) = -1) := hr11_0
  refine wp_rg (by omega) ?_
  refine wp_if (fun c1 => ?_) (fun c1 => ?_)
  · skip
    unfold m_x12_costOf_J43
    exact wp_some ⟨hRs9, by show 0 ≤ (1 : Int) ∧ (1 : Int) ≤ 99; omega⟩
  · skip
    refine wp_bn (w_x12_codesTell hRs9 (by show 0 ≤ (2 : Int) ∧ (2 : Int) ≤ 2; omega) (CE_eq hp3 ((q_Ia es9 : gA s9 42 = gA s6 42).trans ((q_Ia es6 : gA s6 42 = gA s3 42).trans (q_Ia es3 : gA s3 42 = gA s 42))) ((q_Ia es9 : gA s9 43 = gA s6 43).trans ((q_Ia es6 : gA s6 43 = gA s3 43).trans (q_Ia es3 : gA s3 43 = gA s 43))) ((q_Ia es9 : gA s9 44 = gA s6 44).trans ((q_Ia es6 : gA s6 44 = gA s3 44).trans (q_Ia es3 : gA s3 44 = gA s 44)))) (by show gA s9 42 (3 + (2 : Int).toNat) ≠ -1; omega)) (fun qqrl16 eqrl16s hqrl16s => ?_)
    obtain ⟨qrl16r, qrl16s⟩ := qqrl16
    dsimp only at eqrl16s hqrl16s ⊢
    have Fqrl16s : F_x12_codesTell s9 qrl16s := fr_x12_codesTell eqrl16s
    obtain ⟨hRqrl16s, hqrl16s_0⟩ := hqrl16s
    have hqrl16s_0 : R8 qrl16r := hqrl16s_0
    refine wp_bn (w_x12_clamp hRqrl16s (by show R8 qrl16r; omega)) (fun r18 er18 hr18 => ?_)
    have hr18_0 := hr18
    have hr18_0 : 0 ≤ r18 ∧ r18 ≤ 99 := hr18_0
    unfold m_x12_costOf_J43
    exact wp_some ⟨hRqrl16s, by show 0 ≤ r18 ∧ r18 ≤ 99; omega⟩
set_option maxHeartbeats 1000000 in
theorem w_x12_writtenCost {s : MS} (hRs : Rr s) (hp0 : GN s) : wp (m_x12_writtenCost s) (fun q => (Rr q.2) ∧ (0 ≤ q.1 ∧ q.1 ≤ 4752)) := by
  unfold m_x12_writtenCost
  have L4 : ∀ (n : Nat) (x1 : Int) (x2 : Int) (s3 : MS), Rr s3 → (0 ≤ x2 ∧ x2 ≤ 48) → (0 ≤ x1 ∧ x1 ≤ 99 * x2) → (gA s3 49 = gA s 49 ∧ KR s s3) → (48 - x2) < (n : Int) → wp (m_x12_writtenCost_L4 n x1 x2 s3) (fun q => (Rr q.2) ∧ (0 ≤ q.1 ∧ q.1 ≤ 4752)) := by
    refine fr_ind (fun x1 x2 s3 hRs3 hv4_0 hv4_1 hv4_2 hm4 => ?_) (fun n4 ih4 x1 x2 s3 hRs3 hv4_0 hv4_1 hv4_2 hm4 => ?_)
    · exfalso; omega
    · show wp (m_x12_writtenCost_b4 (m_x12_writtenCost_L4 n4) x1 x2 s3) _
      unfold m_x12_writtenCost_b4
      have e49 := eq49 hv4_2.1
      refine wp_bn (w_x12_blockMany hRs3) (fun r8 er8 hr8 => ?_)
      have hr8_0 := hr8
      have hr8_0 : r8 = gA s3 39 5 := hr8_0
      have k8 : r8 = gA s 39 5 := by rw [hr8_0, hv4_2.2.1]
      have kN := hp0.2.1.1
      refine wp_rg (by omega) ?_
      refine wp_rg (by omega) ?_
      refine wp_if (fun c1 => ?_) (fun c1 => ?_)
      · skip
        exact wp_some ⟨hRs3, by show 0 ≤ x1 ∧ x1 ≤ 4752; omega⟩
      · skip
        refine wp_rdIn (by omega) (fun y12 ey12 => ?_)
        have by12 : (0 : Int) ≤ y12 ∧ y12 ≤ 1 := ey12 ▸ hRs3.2.1 54 _ (by show _ < 48; omega)
        refine wp_rg (by omega) ?_
        refine wp_if (fun c2 => ?_) (fun c2 => ?_)
        · skip
          unfold m_x12_writtenCost_J37
          exact ih4 x1 (x2 + 1) s3 hRs3 (by show 0 ≤ (x2 + 1) ∧ (x2 + 1) ≤ 48; omega) (by show 0 ≤ x1 ∧ x1 ≤ 99 * (x2 + 1); omega) (⟨(rfl).trans hv4_2.1, KR_t hv4_2.2 ⟨rfl, rfl, rfl, rfl⟩⟩) (by omega)
        · skip
          refine wp_bn (w_x12_isUsed hRs3 (by show 0 ≤ x2 ∧ x2 < 48; omega)) (fun r16 er16 hr16 => ?_)
          have hr16_0 := hr16
          have hr16_0 : (r16 = 1 ∧ 0 < cM s3 x2.toNat) ∨ (r16 = 0 ∧ cM s3 x2.toNat ≤ 0) := hr16_0
          have k16 : r16 = 1 → DW s x2.toNat := fun h => by rw [e49.2.2.1] at hr16_0; exact Or.inl (by omega)
          refine wp_rg (by omega) ?_
          refine wp_if (fun c3 => ?_) (fun c3 => ?_)
          · skip
            unfold m_x12_writtenCost_J37
            exact ih4 x1 (x2 + 1) s3 hRs3 (by show 0 ≤ (x2 + 1) ∧ (x2 + 1) ≤ 48; omega) (by show 0 ≤ x1 ∧ x1 ≤ 99 * (x2 + 1); omega) (⟨(rfl).trans hv4_2.1, KR_t hv4_2.2 ⟨rfl, rfl, rfl, rfl⟩⟩) (by omega)
          · skip
            refine wp_bn (w_x12_costOf hRs3 (by show 0 ≤ x2 ∧ x2 < 48; omega) (by show 0 ≤ (hM s3).1 x2.toNat ∧ (hM s3).1 x2.toNat ≤ 1000; have kd := DW_nd hp0.1.1 (b := x2.toNat) (by omega) (k16 (by omega)); rw [e49.1]; omega) (by show (0 ≤ (hM s3).2.1 x2.toNat ∧ (hM s3).2.1 x2.toNat ≤ 6); have kd := DW_nd hp0.1.1 (b := x2.toNat) (by omega) (k16 (by omega)); rw [e49.1]; omega) (CE_eq hp0.2.2.2.2 hv4_2.2.2.1 hv4_2.2.2.2.1 hv4_2.2.2.2.2)) (fun qqr21 eqr21s hqr21s => ?_)
            obtain ⟨qr21r, qr21s⟩ := qqr21
            dsimp only at eqr21s hqr21s ⊢
            have Fqr21s : F_x12_costOf s3 qr21s := fr_x12_costOf eqr21s
            obtain ⟨hRqr21s, hqr21s_0⟩ := hqr21s
            have hqr21s_0 : 0 ≤ qr21r ∧ qr21r ≤ 99 := hqr21s_0
            unfold m_x12_writtenCost_J37
            exact ih4 (x1 + qr21r) (x2 + 1) qr21s hRqr21s (by show 0 ≤ (x2 + 1) ∧ (x2 + 1) ≤ 48; omega) (by show 0 ≤ (x1 + qr21r) ∧ (x1 + qr21r) ≤ 99 * (x2 + 1); omega) (⟨((Fqr21s.2.1 49 (by decide))).trans hv4_2.1, KR_t hv4_2.2 ⟨(Fqr21s.2.1 39 (by decide)), (Fqr21s.2.1 42 (by decide)), (Fqr21s.2.1 43 (by decide)), (Fqr21s.2.1 44 (by decide))⟩⟩) (by omega)
  exact L4 FU 0 0 s hRs (by show 0 ≤ (0 : Int) ∧ (0 : Int) ≤ 48; omega) (by show 0 ≤ (0 : Int) ∧ (0 : Int) ≤ 99 * (0 : Int); omega) (⟨rfl, rfl, rfl, rfl, rfl⟩) (by have := FU_big; have := FU_big2; omega)
set_option maxHeartbeats 1000000 in
theorem w_x12_isKept {p0 : Int} {p1 : Int} {s : MS} (hRs : Rr s) (hp0 : GN s) (hp1 : R2 p0) (hp2 : R2 p1) (hp3 : 0 ≤ gA s 49 16 ∧ gA s 49 16 ≤ 999999) (hp4 : 0 ≤ gA s 49 785 ∧ gA s 49 785 ≤ 40) : wp (m_x12_isKept p0 p1 s) (fun o => (Rr o) ∧ (∀ i, i < 785 → i ≠ 16 → gA o 49 i = gA s 49 i) ∧ (0 ≤ gA o 49 16 ∧ gA o 49 16 ≤ 999999) ∧ (0 ≤ gA o 49 785 ∧ gA o 49 785 ≤ 40)) := by
  have J105 : ∀ (x1 : Int) (x2 : Int) (x3 : Int) (s4 : MS), Rr s4 → (R2 x1 ∧ R2 x2 ∧ (0 ≤ x3 ∧ x3 ≤ 48)) → (∀ i, i < 785 → i ≠ 16 → gA s4 49 i = gA s 49 i) → (0 ≤ gA s4 49 16 ∧ gA s4 49 16 ≤ 999999) → (1 ≤ gA s4 49 785 ∧ gA s4 49 785 ≤ 40) → wp (m_x12_isKept_J105 x1 x2 x3 s4) (fun o => (Rr o) ∧ (∀ i, i < 785 → i ≠ 16 → gA o 49 i = gA s 49 i) ∧ (0 ≤ gA o 49 16 ∧ gA o 49 16 ≤ 999999) ∧ (0 ≤ gA o 49 785 ∧ gA o 49 785 ≤ 40)) := by
    intro x1 x2 x3 s4 hRs4 hj105_0 hj105_1 hj105_2 hj105_3
    unfold m_x12_isKept_J105
    refine wp_rdIn (by omega) (fun y5 ey5 => ?_)
    have by5 : (-2147483648 : Int) ≤ y5 ∧ y5 ≤ 2147483647 := ey5 ▸ hRs4.2.1 49 _ (by show _ < 906; omega)
    have k5 : gA s4 49 785 = y5 := ey5
    refine wp_inb (by omega) ?_
    refine wp_stn (fun s7 es7 => ?_)
    have hRs7 : Rr s7 := es7 ▸ Rr.uAu hRs4 (by show (-2147483648 : Int) ≤ x1 ∧ x1 ≤ 2147483647; omega)
    refine wp_inb (by omega) ?_
    refine wp_stn (fun s9 es9 => ?_)
    have hRs9 : Rr s9 := es9 ▸ Rr.uAu hRs7 (by show (-2147483648 : Int) ≤ x2 ∧ x2 ≤ 2147483647; omega)
    refine wp_inb (by omega) ?_
    refine wp_stn (fun s11 es11 => ?_)
    have hRs11 : Rr s11 := es11 ▸ Rr.uAu hRs9 (by show (-2147483648 : Int) ≤ x3 ∧ x3 ≤ 2147483647; omega)
    have u11 : ∀ i, i < 786 → gA s11 49 i = gA s4 49 i := fun i hi => by rw [(q_AA es11 : gA s11 49 = _), upZ_n (by omega), (q_AA es9 : gA s9 49 = _), upZ_n (by omega), (q_AA es7 : gA s7 49 = _), upZ_n (by omega)]
    exact wp_some ⟨hRs11, fun i hi h16 => by rw [u11 i (by omega)]; exact hj105_1 i hi h16, by rw [u11 16 (by omega)]; exact hj105_2, by rw [u11 785 (by omega)]; omega⟩
  have J42 : ∀ (x22 : Int) (x23 : Int) (x24 : Int) (s25 : MS), Rr s25 → (R2 x22 ∧ R2 x23 ∧ (0 ≤ x24 ∧ x24 ≤ 48)) → (∀ i, i < 785 → i ≠ 16 → gA s25 49 i = gA s 49 i) → (0 ≤ gA s25 49 16 ∧ gA s25 49 16 ≤ 999999) → (0 ≤ gA s25 49 785 ∧ gA s25 49 785 ≤ 40) → wp (m_x12_isKept_J42 x22 x23 x24 s25) (fun o => (Rr o) ∧ (∀ i, i < 785 → i ≠ 16 → gA o 49 i = gA s 49 i) ∧ (0 ≤ gA o 49 16 ∧ gA o 49 16 ≤ 999999) ∧ (0 ≤ gA o 49 785 ∧ gA o 49 785 ≤ 40)) := by
    intro x22 x23 x24 s25 hRs25 hj42_0 hj42_1 hj42_2 hj42_3
    unfold m_x12_isKept_J42
    refine wp_rdIn (by omega) (fun y26 ey26 => ?_)
    have by26 : (-2147483648 : Int) ≤ y26 ∧ y26 ≤ 2147483647 := ey26 ▸ hRs25.2.1 49 _ (by show _ < 906; omega)
    have k26 : gA s25 49 785 = y26 := ey26
    refine wp_rg (by omega) ?_
    refine wp_if (fun c1 => ?_) (fun c1 => ?_)
    · skip
      have L60 : ∀ (n : Nat) (x12 : Int) (x13 : Int) (x14 : Int) (x15 : Int) (s16 : MS), Rr s16 → (R2 x12 ∧ R2 x13 ∧ (0 ≤ x14 ∧ x14 ≤ 48)) → (∀ i, i < 785 → i ≠ 16 → gA s16 49 i = gA s 49 i) → (0 ≤ gA s16 49 16 ∧ gA s16 49 16 ≤ 999999) → (gA s16 49 785 = 40) → (786 ≤ x15 ∧ x15 ≤ 903) → (903 - x15) < (n : Int) → wp (m_x12_isKept_L60 n x12 x13 x14 x15 s16) (fun o => (Rr o) ∧ (∀ i, i < 785 → i ≠ 16 → gA o 49 i = gA s 49 i) ∧ (0 ≤ gA o 49 16 ∧ gA o 49 16 ≤ 999999) ∧ (0 ≤ gA o 49 785 ∧ gA o 49 785 ≤ 40)) := by
        refine fr_ind (fun x12 x13 x14 x15 s16 hRs16 hv60_0 hv60_1 hv60_2 hv60_3 hv60_4 hm60 => ?_) (fun n60 ih60 x12 x13 x14 x15 s16 hRs16 hv60_0 hv60_1 hv60_2 hv60_3 hv60_4 hm60 => ?_)
        · exfalso; omega
        · show wp (m_x12_isKept_b60 (m_x12_isKept_L60 n60) x12 x13 x14 x15 s16) _
          unfold m_x12_isKept_b60
          refine wp_rg (by omega) ?_
          refine wp_if (fun c2 => ?_) (fun c2 => ?_)
          · skip
            exact J105 x12 x13 x14 s16 hRs16 (by show R2 x12 ∧ R2 x13 ∧ (0 ≤ x14 ∧ x14 ≤ 48); omega) (hv60_1) (hv60_2) (by omega)
          · skip
            refine wp_rdIn (by omega) (fun y19 ey19 => ?_)
            have by19 : (-2147483648 : Int) ≤ y19 ∧ y19 ≤ 2147483647 := ey19 ▸ hRs16.2.1 49 _ (by show _ < 906; omega)
            have r19 : R2 y19 := ey19 ▸ R49 hRs16 (by omega)
            refine wp_inb (by omega) ?_
            refine wp_stn (fun s21 es21 => ?_)
            have hRs21 : Rr s21 := es21 ▸ Rr.uAu hRs16 (by show (-2147483648 : Int) ≤ y19 ∧ y19 ≤ 2147483647; omega)
            have u21 : gA s21 49 = upZ (gA s16 49) x15.toNat y19 := q_AA es21
            exact ih60 x12 x13 x14 (x15 + 1) s21 hRs21 (by show R2 x12 ∧ R2 x13 ∧ (0 ≤ x14 ∧ x14 ≤ 48); omega) (fun i hi h16 => by rw [u21, upZ_n (by omega)]; exact hv60_1 i hi h16) (by rw [u21, upZ_n (by omega)]; exact hv60_2) (by rw [u21, upZ_n (by omega)]; exact hv60_3) (by show 786 ≤ (x15 + 1) ∧ (x15 + 1) ≤ 903; omega) (by omega)
      exact L60 FU x22 x23 x24 786 s25 hRs25 (by show R2 x22 ∧ R2 x23 ∧ (0 ≤ x24 ∧ x24 ≤ 48); omega) (hj42_1) (hj42_2) (by omega) (by show 786 ≤ (786 : Int) ∧ (786 : Int) ≤ 903; omega) (by have := FU_big; have := FU_big2; omega)
    · skip
      refine wp_rdIn (by omega) (fun y29 ey29 => ?_)
      have by29 : (-2147483648 : Int) ≤ y29 ∧ y29 ≤ 2147483647 := ey29 ▸ hRs25.2.1 49 _ (by show _ < 906; omega)
      have k29 : gA s25 49 785 = y29 := ey29
      refine wp_inb (by omega) ?_
      refine wp_stn (fun s31 es31 => ?_)
      have hRs31 : Rr s31 := es31 ▸ Rr.uAu hRs25 (by show (-2147483648 : Int) ≤ (y29 + 1) ∧ (y29 + 1) ≤ 2147483647; omega)
      have u31 : gA s31 49 = upZ (gA s25 49) 785 (y29 + 1) := q_AA es31
      exact J105 x22 x23 x24 s31 hRs31 (by show R2 x22 ∧ R2 x23 ∧ (0 ≤ x24 ∧ x24 ≤ 48); omega) (fun i hi h16 => by rw [u31, upZ_n (by omega)]; exact hj42_1 i hi h16) (by rw [u31, upZ_n (by decide)]; exact hj42_2) (by rw [u31, upZ_s]; omega)
  unfold m_x12_isKept
  refine wp_bn (w_x12_writtenMany hRs (by have := hp0.2.1.1; omega)) (fun r33 er33 hr33 => ?_)
  have hr33_0 := hr33
  have hr33_0 : 0 ≤ r33 ∧ r33 ≤ 48 := hr33_0
  refine wp_rdIn (by omega) (fun y34 ey34 => ?_)
  have by34 : (-2147483648 : Int) ≤ y34 ∧ y34 ≤ 2147483647 := ey34 ▸ hRs.2.1 49 _ (by show _ < 906; omega)
  have k34 : gA s 49 16 = y34 := ey34
  refine wp_bn (w_x12_writtenCost hRs (by show GN s; omega)) (fun qqr37 eqr37s hqr37s => ?_)
  obtain ⟨qr37r, qr37s⟩ := qqr37
  dsimp only at eqr37s hqr37s ⊢
  have Fqr37s : F_x12_writtenCost s qr37s := fr_x12_writtenCost eqr37s
  obtain ⟨hRqr37s, hqr37s_0⟩ := hqr37s
  have hqr37s_0 : 0 ≤ qr37r ∧ qr37r ≤ 4752 := hqr37s_0
  refine wp_inb (by omega) ?_
  refine wp_stn (fun s39 es39 => ?_)
  have hRs39 : Rr s39 := es39 ▸ Rr.uAu hRqr37s (by show (-2147483648 : Int) ≤ (y34 + qr37r) ∧ (y34 + qr37r) ≤ 2147483647; omega)
  have u39 : gA s39 49 = upZ (gA s 49) 16 (y34 + qr37r) := by rw [(q_AA es39 : gA s39 49 = _), ((Fqr37s.2.1 49 (by decide)))]; rfl
  refine wp_rdIn (by omega) (fun y40 ey40 => ?_)
  have by40 : (-2147483648 : Int) ≤ y40 ∧ y40 ≤ 2147483647 := ey40 ▸ hRs39.2.1 49 _ (by show _ < 906; omega)
  have k40 : y40 = y34 + qr37r := by rw [← ey40, u39]; exact upZ_s _ _ _
  refine wp_rg (by omega) ?_
  refine wp_if (fun c3 => ?_) (fun c3 => ?_)
  · skip
    exact J42 p0 p1 r33 s39 hRs39 (by show R2 p0 ∧ R2 p1 ∧ (0 ≤ r33 ∧ r33 ≤ 48); omega) (fun i hi h16 => by rw [u39, upZ_n h16]) (by rw [u39, upZ_s]; omega) (by rw [u39, upZ_n (by decide)]; exact hp4)
  · skip
    refine wp_inb (by omega) ?_
    refine wp_stn (fun s44 es44 => ?_)
    have hRs44 : Rr s44 := es44 ▸ Rr.uAu hRs39 (by show (-2147483648 : Int) ≤ (999999 : Int) ∧ (999999 : Int) ≤ 2147483647; omega)
    have u44 : gA s44 49 = upZ (gA s39 49) 16 999999 := q_AA es44
    exact J42 p0 p1 r33 s44 hRs44 (by show R2 p0 ∧ R2 p1 ∧ (0 ≤ r33 ∧ r33 ≤ 48); omega) (fun i hi h16 => by rw [u44, upZ_n h16, u39, upZ_n h16]) (by rw [u44, upZ_s]; omega) (by rw [u44, upZ_n (by decide), u39, upZ_n (by decide)]; exact hp4)
/-! ===== states that can come back ===== -/
def slot (s : MS) (i : Nat) : Nat → Int := fun k => gA s 75 (906 * i + k)
/-- a row of a state is good -/
def GR (s : MS) (f : Nat → Int) : Prop := GN (sA s 49 f) ∧ (0 ≤ f 16 ∧ f 16 ≤ 999999) ∧ (0 ≤ f 785 ∧ f 785 ≤ 40)
theorem KR_f {s o : MS} (k : KR s o) (f g : Nat → Int) : KR (sA s 49 f) (sA o 49 g) := by
  unfold KR
  rw [gA_sA, gA_sA, gA_sA, gA_sA, gA_sA, gA_sA, gA_sA, gA_sA, if_neg (by decide), if_neg (by decide), if_neg (by decide), if_neg (by decide), if_neg (by decide), if_neg (by decide), if_neg (by decide), if_neg (by decide)]
  exact k
theorem GR_x {s o : MS} {f g : Nat → Int} (H : GR s f) (k : KR s o) (h : ∀ j, j < 906 → g j = f j) : GR o g := by
  refine ⟨GN_x H.1 (KR_f k f g) (fun j hj _ => ?_), by rw [h 16 (by omega)]; exact H.2.1, by rw [h 785 (by omega)]; exact H.2.2⟩
  rw [gA_sA, if_pos rfl, gA_sA, if_pos rfl]; exact h j (by omega)
theorem sA_self (s : MS) : sA s 49 (gA s 49) = s := by
  unfold sA gA
  have : (fun j => if j = 49 then s.2.2.1 49 else s.2.2.1 j) = s.2.2.1 := by
    funext j
    by_cases z : j = 49
    · rw [if_pos z, z]
    · rw [if_neg z]
  rw [this]
theorem GR_s {s : MS} (H : GN s) (h1 : 0 ≤ gA s 49 16 ∧ gA s 49 16 ≤ 999999) (h2 : 0 ≤ gA s 49 785 ∧ gA s 49 785 ≤ 40) : GR s (gA s 49) := ⟨by rw [sA_self]; exact H, h1, h2⟩
theorem s_GR {s : MS} (H : GR s (gA s 49)) : GN s := by
  have := H.1
  rw [sA_self] at this
  exact this
/-- all that can come back is good -/
def JR (s : MS) : Prop := ∀ i : Nat, (i : Int) < gI s 76 → GR s (slot s ((gI s 77 - (i : Int)) % 20).toNat)
theorem JR_eq {s o : MS} (H : JR s) (k : KR s o) (h75 : gA o 75 = gA s 75) (h76 : gI o 76 ≤ gI s 76) (h77 : gI o 77 = gI s 77) : JR o := fun i hi => by
  rw [h77]
  refine GR_x (H i (by omega)) k (fun j _ => ?_)
  show gA o 75 _ = gA s 75 _
  rw [h75]
theorem JR_0 {o : MS} (h : gI o 76 ≤ 0) : JR o := fun i hi => by omega
theorem JR_keeps {s o : MS} (H : JR s) (G : GR s (gA s 49)) (k : KR s o) (h77 : gI o 77 = (gI s 77 + 1) % 20) (h76 : gI o 76 ≤ gI s 76 + 1 ∧ gI o 76 ≤ 20) (h0 : 0 ≤ gI s 77 ∧ gI s 77 < 20) (n : ∀ j, j < 906 → gA o 75 (906 * (gI o 77).toNat + j) = gA s 49 j) (e : ∀ j, j < 906 * (gI o 77).toNat ∨ 906 * (gI o 77).toNat + 906 ≤ j → gA o 75 j = gA s 75 j) : JR o := fun i hi => by
  by_cases z : i = 0
  · rw [z, show ((gI o 77 - ((0 : Nat) : Int)) % 20).toNat = (gI o 77).toNat by omega]
    exact GR_x G k (fun j hj => n j hj)
  · have e1 : ((gI o 77 - (i : Int)) % 20).toNat = ((gI s 77 - ((i - 1 : Nat) : Int)) % 20).toNat := by omega
    rw [e1]
    refine GR_x (H (i - 1) (by omega)) k (fun j hj => ?_)
    exact e _ (by omega)
theorem JR_undo {s o : MS} (H : JR s) (k : KR s o) (h75 : gA o 75 = gA s 75) (h76 : gI o 76 = gI s 76 - 1) (h77 : gI o 77 = (gI s 77 + 19) % 20) (h0 : 0 ≤ gI s 77 ∧ gI s 77 < 20) : JR o := fun i hi => by
  have e1 : ((gI o 77 - (i : Int)) % 20).toNat = ((gI s 77 - ((i + 1 : Nat) : Int)) % 20).toNat := by omega
  rw [e1]
  refine GR_x (H (i + 1) (by omega)) k (fun j _ => ?_)
  show gA o 75 _ = gA s 75 _
  rw [h75]
set_option maxHeartbeats 1000000 in
theorem w_x12_keeps {s : MS} (hRs : Rr s) : wp (m_x12_keeps s) (fun o => (Rr o) ∧ (gI o 77 = (gI s 77 + 1) % 20) ∧ (gI o 76 ≤ gI s 76 + 1 ∧ gI o 76 ≤ 20) ∧ (∀ j, j < 906 → gA o 75 (906 * (gI o 77).toNat + j) = gA s 49 j) ∧ (∀ j, j < 906 * (gI o 77).toNat ∨ 906 * (gI o 77).toNat + 906 ≤ j → gA o 75 j = gA s 75 j)) := by
  have r77 : (0 : Int) ≤ gI s 77 ∧ gI s 77 ≤ 19 := hRs.1 77
  have km : Int.tmod (gI s 77 + 1) 20 = (gI s 77 + 1) % 20 := Int.tmod_eq_emod_of_nonneg (by omega)
  unfold m_x12_keeps
  refine wp_dv (by have : (0 : Int) ≤ gI s 77 ∧ gI s 77 ≤ 19 := hRs.1 77; omega) ?_
  refine wp_stn (fun s13 es13 => ?_)
  have hRs13 : Rr s13 := es13 ▸ Rr.uI hRs (by show (0 : Int) ≤ (Int.tmod ((gI s 77) + 1) 20) ∧ (Int.tmod ((gI s 77) + 1) 20) ≤ 19; have : (0 : Int) ≤ gI s 77 ∧ gI s 77 ≤ 19 := hRs.1 77; rw [km]; omega)
  have k77 : gI s13 77 = (gI s 77 + 1) % 20 := (q_II es13).trans km
  have L15 : ∀ (n : Nat) (x2 : Int) (s3 : MS), Rr s3 → (0 ≤ x2 ∧ x2 ≤ 906) → (gI s3 77 = (gI s 77 + 1) % 20 ∧ gI s3 76 = gI s 76) → (gA s3 49 = gA s 49) → (∀ j : Nat, (j : Int) < x2 → gA s3 75 (906 * (gI s3 77).toNat + j) = gA s 49 j) → (∀ j, j < 906 * (gI s3 77).toNat ∨ 906 * (gI s3 77).toNat + 906 ≤ j → gA s3 75 j = gA s 75 j) → (906 - x2) < (n : Int) → wp (m_x12_keeps_L15 n x2 s3) (fun o => (Rr o) ∧ (gI o 77 = (gI s 77 + 1) % 20) ∧ (gI o 76 ≤ gI s 76 + 1 ∧ gI o 76 ≤ 20) ∧ (∀ j, j < 906 → gA o 75 (906 * (gI o 77).toNat + j) = gA s 49 j) ∧ (∀ j, j < 906 * (gI o 77).toNat ∨ 906 * (gI o 77).toNat + 906 ≤ j → gA o 75 j = gA s 75 j)) := by
    refine fr_ind (fun x2 s3 hRs3 hv15_0 hv15_1 hv15_2 hv15_3 hv15_4 hm15 => ?_) (fun n15 ih15 x2 s3 hRs3 hv15_0 hv15_1 hv15_2 hv15_3 hv15_4 hm15 => ?_)
    · exfalso; have : (0 : Int) ≤ gI s 76 ∧ gI s 76 ≤ 20 := hRs.1 76; have : (0 : Int) ≤ gI s3 76 ∧ gI s3 76 ≤ 20 := hRs3.1 76; have : (0 : Int) ≤ gI s 77 ∧ gI s 77 ≤ 19 := hRs.1 77; have : (0 : Int) ≤ gI s3 77 ∧ gI s3 77 ≤ 19 := hRs3.1 77; omega
    · show wp (m_x12_keeps_b15 (m_x12_keeps_L15 n15) x2 s3) _
      unfold m_x12_keeps_b15
      refine wp_rg (by have : (0 : Int) ≤ gI s 76 ∧ gI s 76 ≤ 20 := hRs.1 76; have : (0 : Int) ≤ gI s3 76 ∧ gI s3 76 ≤ 20 := hRs3.1 76; have : (0 : Int) ≤ gI s 77 ∧ gI s 77 ≤ 19 := hRs.1 77; have : (0 : Int) ≤ gI s3 77 ∧ gI s3 77 ≤ 19 := hRs3.1 77; omega) ?_
      refine wp_if (fun c1 => ?_) (fun c1 => ?_)
      · skip
        refine wp_rg (by have : (0 : Int) ≤ gI s 76 ∧ gI s 76 ≤ 20 := hRs.1 76; have : (0 : Int) ≤ gI s 77 ∧ gI s 77 ≤ 19 := hRs.1 77; have : (0 : Int) ≤ gI s3 77 ∧ gI s3 77 ≤ 19 := hRs3.1 77; have : (0 : Int) ≤ gI s3 76 ∧ gI s3 76 ≤ 20 := hRs3.1 76; omega) ?_
        refine wp_if (fun c2 => ?_) (fun c2 => ?_)
        · skip
          unfold m_x12_keeps_J68
          exact wp_some ⟨hRs3, by show gI s3 77 = (gI s 77 + 1) % 20; have : (0 : Int) ≤ gI s 76 ∧ gI s 76 ≤ 20 := hRs.1 76; have : (0 : Int) ≤ gI s3 76 ∧ gI s3 76 ≤ 20 := hRs3.1 76; have : (0 : Int) ≤ gI s 77 ∧ gI s 77 ≤ 19 := hRs.1 77; have : (0 : Int) ≤ gI s3 77 ∧ gI s3 77 ≤ 19 := hRs3.1 77; omega, by show gI s3 76 ≤ gI s 76 + 1 ∧ gI s3 76 ≤ 20; have : (0 : Int) ≤ gI s 77 ∧ gI s 77 ≤ 19 := hRs.1 77; have : (0 : Int) ≤ gI s3 77 ∧ gI s3 77 ≤ 19 := hRs3.1 77; have : (0 : Int) ≤ gI s 76 ∧ gI s 76 ≤ 20 := hRs.1 76; have : (0 : Int) ≤ gI s3 76 ∧ gI s3 76 ≤ 20 := hRs3.1 76; omega, fun j hj => by exact hv15_3 j (by omega), fun j hj => by exact hv15_4 j hj⟩
        · skip
          refine wp_stn (fun s8 es8 => ?_)
          have hRs8 : Rr s8 := es8 ▸ Rr.uI hRs3 (by show (0 : Int) ≤ ((gI s3 76) + 1) ∧ ((gI s3 76) + 1) ≤ 20; have : (0 : Int) ≤ gI s 76 ∧ gI s 76 ≤ 20 := hRs.1 76; have : (0 : Int) ≤ gI s 77 ∧ gI s 77 ≤ 19 := hRs.1 77; have : (0 : Int) ≤ gI s3 77 ∧ gI s3 77 ≤ 19 := hRs3.1 77; have : (0 : Int) ≤ gI s3 76 ∧ gI s3 76 ≤ 20 := hRs3.1 76; omega)
          unfold m_x12_keeps_J68
          exact wp_some ⟨hRs8, by show gI s8 77 = (gI s 77 + 1) % 20; have : (0 : Int) ≤ gI s 76 ∧ gI s 76 ≤ 20 := hRs.1 76; have : (0 : Int) ≤ gI s3 76 ∧ gI s3 76 ≤ 20 := hRs3.1 76; have : (0 : Int) ≤ gI s3 77 ∧ gI s3 77 ≤ 19 := hRs3.1 77; have : (0 : Int) ≤ gI s 77 ∧ gI s 77 ≤ 19 := hRs.1 77; have : gI s8 77 = gI s3 77 := q_Ii es8 (by decide); omega, by show gI s8 76 ≤ gI s 76 + 1 ∧ gI s8 76 ≤ 20; have : (0 : Int) ≤ gI s3 76 ∧ gI s3 76 ≤ 20 := hRs3.1 76; have : (0 : Int) ≤ gI s 77 ∧ gI s 77 ≤ 19 := hRs.1 77; have : (0 : Int) ≤ gI s3 77 ∧ gI s3 77 ≤ 19 := hRs3.1 77; have : (0 : Int) ≤ gI s 76 ∧ gI s 76 ≤ 20 := hRs.1 76; have : gI s8 76 = (gI s3 76) + 1 := q_II es8; omega, fun j hj => by rw [((q_Ii es8 (by decide) : gI s8 77 = gI s3 77)), ((q_Ia es8 : gA s8 75 = gA s3 75))]; exact hv15_3 j (by omega), fun j hj => by rw [((q_Ii es8 (by decide) : gI s8 77 = gI s3 77))] at hj; rw [((q_Ia es8 : gA s8 75 = gA s3 75))]; exact hv15_4 j hj⟩
      · skip
        refine wp_rdIn (by have : (0 : Int) ≤ gI s 76 ∧ gI s 76 ≤ 20 := hRs.1 76; have : (0 : Int) ≤ gI s3 76 ∧ gI s3 76 ≤ 20 := hRs3.1 76; have : (0 : Int) ≤ gI s 77 ∧ gI s 77 ≤ 19 := hRs.1 77; have : (0 : Int) ≤ gI s3 77 ∧ gI s3 77 ≤ 19 := hRs3.1 77; omega) (fun y9 ey9 => ?_)
        have by9 : (-2147483648 : Int) ≤ y9 ∧ y9 ≤ 2147483647 := ey9 ▸ hRs3.2.1 49 _ (by show _ < 906; have : (0 : Int) ≤ gI s 76 ∧ gI s 76 ≤ 20 := hRs.1 76; have : (0 : Int) ≤ gI s3 76 ∧ gI s3 76 ≤ 20 := hRs3.1 76; have : (0 : Int) ≤ gI s 77 ∧ gI s 77 ≤ 19 := hRs.1 77; have : (0 : Int) ≤ gI s3 77 ∧ gI s3 77 ≤ 19 := hRs3.1 77; omega)
        have r9 : R2 y9 := ey9 ▸ R49 hRs3 (by omega)
        refine wp_inb (by have : (0 : Int) ≤ gI s 76 ∧ gI s 76 ≤ 20 := hRs.1 76; have : (0 : Int) ≤ gI s3 76 ∧ gI s3 76 ≤ 20 := hRs3.1 76; have : (0 : Int) ≤ gI s 77 ∧ gI s 77 ≤ 19 := hRs.1 77; have : (0 : Int) ≤ gI s3 77 ∧ gI s3 77 ≤ 19 := hRs3.1 77; omega) ?_
        refine wp_stn (fun s11 es11 => ?_)
        have hRs11 : Rr s11 := es11 ▸ Rr.uAu hRs3 (by show (-2147483648 : Int) ≤ y9 ∧ y9 ≤ 2147483647; have : (0 : Int) ≤ gI s 76 ∧ gI s 76 ≤ 20 := hRs.1 76; have : (0 : Int) ≤ gI s3 76 ∧ gI s3 76 ≤ 20 := hRs3.1 76; have : (0 : Int) ≤ gI s 77 ∧ gI s 77 ≤ 19 := hRs.1 77; have : (0 : Int) ≤ gI s3 77 ∧ gI s3 77 ≤ 19 := hRs3.1 77; omega)
        have e77 : gI s11 77 = gI s3 77 := (q_Ai es11 : gI s11 77 = gI s3 77)
        exact ih15 (x2 + 1) s11 hRs11 (by show 0 ≤ (x2 + 1) ∧ (x2 + 1) ≤ 906; have : (0 : Int) ≤ gI s 76 ∧ gI s 76 ≤ 20 := hRs.1 76; have : (0 : Int) ≤ gI s3 76 ∧ gI s3 76 ≤ 20 := hRs3.1 76; have : (0 : Int) ≤ gI s 77 ∧ gI s 77 ≤ 19 := hRs.1 77; have : (0 : Int) ≤ gI s3 77 ∧ gI s3 77 ≤ 19 := hRs3.1 77; omega) (by show gI s11 77 = (gI s 77 + 1) % 20 ∧ gI s11 76 = gI s 76; have : (0 : Int) ≤ gI s3 76 ∧ gI s3 76 ≤ 20 := hRs3.1 76; have : (0 : Int) ≤ gI s3 77 ∧ gI s3 77 ≤ 19 := hRs3.1 77; have : (0 : Int) ≤ gI s 76 ∧ gI s 76 ≤ 20 := hRs.1 76; have : gI s11 76 = gI s3 76 := q_Ai es11; have : (0 : Int) ≤ gI s 77 ∧ gI s 77 ≤ 19 := hRs.1 77; have : gI s11 77 = gI s3 77 := q_Ai es11; omega) (((q_Aa es11 (by decide) : gA s11 49 = gA s3 49)).trans hv15_2) (fun j hj => by
          rw [e77, (q_AA es11 : gA s11 75 = _)]
          by_cases z : j = x2.toNat
          · rw [show (906 * gI s3 77 + x2).toNat = 906 * (gI s3 77).toNat + j by omega, upZ_s, ← ey9, hv15_2, show x2.toNat = j by omega]
          · rw [upZ_n (by omega)]; exact hv15_3 j (by omega)) (fun j hj => by rw [e77] at hj; rw [(q_AA es11 : gA s11 75 = _), upZ_n (by omega)]; exact hv15_4 j hj) (by have : (0 : Int) ≤ gI s 76 ∧ gI s 76 ≤ 20 := hRs.1 76; have : (0 : Int) ≤ gI s3 76 ∧ gI s3 76 ≤ 20 := hRs3.1 76; have : (0 : Int) ≤ gI s 77 ∧ gI s 77 ≤ 19 := hRs.1 77; have : (0 : Int) ≤ gI s3 77 ∧ gI s3 77 ≤ 19 := hRs3.1 77; omega)
  exact L15 FU 0 s13 hRs13 (by show 0 ≤ (0 : Int) ∧ (0 : Int) ≤ 906; omega) (⟨k77, (q_Ii es13 (by decide) : gI s13 76 = gI s 76)⟩) (((q_Ia es13 : gA s13 49 = gA s 49))) (fun j hj => by omega) (fun j _ => by rw [(q_Ia es13 : gA s13 75 = gA s 75)]) (by have := FU_big; have := FU_big2; omega)
set_option maxHeartbeats 1000000 in
theorem w_x12_undo {s : MS} (hRs : Rr s) : wp (m_x12_undo s) (fun q => (Rr q.2) ∧ ((q.1 = 0 ∧ gA q.2 49 = gA s 49 ∧ gI q.2 76 = gI s 76 ∧ gI q.2 77 = gI s 77) ∨ (q.1 = 1 ∧ 1 ≤ gI s 76 ∧ (∀ j, j < 906 → gA q.2 49 j = gA s 75 (906 * (gI s 77).toNat + j)) ∧ gI q.2 76 = gI s 76 - 1 ∧ gI q.2 77 = (gI s 77 + 19) % 20))) := by
  have r77 : (0 : Int) ≤ gI s 77 ∧ gI s 77 ≤ 19 := hRs.1 77
  unfold m_x12_undo
  refine wp_rg (by have : (0 : Int) ≤ gI s 76 ∧ gI s 76 ≤ 20 := hRs.1 76; omega) ?_
  refine wp_if (fun c1 => ?_) (fun c1 => ?_)
  · skip
    refine wp_rdIn (by have : (0 : Int) ≤ gI s 76 ∧ gI s 76 ≤ 20 := hRs.1 76; omega) (fun y13 ey13 => ?_)
    refine wp_inb (by have : (0 : Int) ≤ gI s 76 ∧ gI s 76 ≤ 20 := hRs.1 76; omega) ?_
    refine wp_stn (fun s15 es15 => ?_)
    have hRs15 : Rr s15 := es15 ▸ Rr.uA hRs (fun j hj => absurd hj (Nat.not_lt_zero j))
    exact wp_some ⟨hRs15, by show ((0 : Int) = 0 ∧ gA s15 49 = gA s 49 ∧ gI s15 76 = gI s 76 ∧ gI s15 77 = gI s 77) ∨ ((0 : Int) = 1 ∧ 1 ≤ gI s 76 ∧ (∀ j, j < 906 → gA s15 49 j = gA s 75 (906 * (gI s 77).toNat + j)) ∧ gI s15 76 = gI s 76 - 1 ∧ gI s15 77 = (gI s 77 + 19) % 20); exact (Or.inl ⟨rfl, (q_Aa es15 (by decide) : gA s15 49 = gA s 49), (q_Ai es15 : gI s15 76 = gI s 76), (q_Ai es15 : gI s15 77 = gI s 77)⟩)⟩
  · skip
    have L21 : ∀ (n : Nat) (x1 : Int) (s2 : MS), Rr s2 → (0 ≤ x1 ∧ x1 ≤ 906) → (gI s2 77 = gI s 77 ∧ gI s2 76 = gI s 76 ∧ 1 ≤ gI s 76) → (gA s2 75 = gA s 75) → (∀ j : Nat, (j : Int) < x1 → gA s2 49 j = gA s 75 (906 * (gI s 77).toNat + j)) → (906 - x1) < (n : Int) → wp (m_x12_undo_L21 n x1 s2) (fun q => (Rr q.2) ∧ ((q.1 = 0 ∧ gA q.2 49 = gA s 49 ∧ gI q.2 76 = gI s 76 ∧ gI q.2 77 = gI s 77) ∨ (q.1 = 1 ∧ 1 ≤ gI s 76 ∧ (∀ j, j < 906 → gA q.2 49 j = gA s 75 (906 * (gI s 77).toNat + j)) ∧ gI q.2 76 = gI s 76 - 1 ∧ gI q.2 77 = (gI s 77 + 19) % 20))) := by
      refine fr_ind (fun x1 s2 hRs2 hv21_0 hv21_1 hv21_2 hv21_3 hm21 => ?_) (fun n21 ih21 x1 s2 hRs2 hv21_0 hv21_1 hv21_2 hv21_3 hm21 => ?_)
      · exfalso; have : (0 : Int) ≤ gI s 76 ∧ gI s 76 ≤ 20 := hRs.1 76; have : (0 : Int) ≤ gI s2 76 ∧ gI s2 76 ≤ 20 := hRs2.1 76; have : (0 : Int) ≤ gI s 77 ∧ gI s 77 ≤ 19 := hRs.1 77; have : (0 : Int) ≤ gI s2 77 ∧ gI s2 77 ≤ 19 := hRs2.1 77; omega
      · show wp (m_x12_undo_b21 (m_x12_undo_L21 n21) x1 s2) _
        unfold m_x12_undo_b21
        refine wp_rg (by have : (0 : Int) ≤ gI s2 76 ∧ gI s2 76 ≤ 20 := hRs2.1 76; have : (0 : Int) ≤ gI s 77 ∧ gI s 77 ≤ 19 := hRs.1 77; have : (0 : Int) ≤ gI s2 77 ∧ gI s2 77 ≤ 19 := hRs2.1 77; have : (0 : Int) ≤ gI s 76 ∧ gI s 76 ≤ 20 := hRs.1 76; omega) ?_
        refine wp_if (fun c2 => ?_) (fun c2 => ?_)
        · skip
          refine wp_dv (by have : (0 : Int) ≤ gI s2 76 ∧ gI s2 76 ≤ 20 := hRs2.1 76; have : (0 : Int) ≤ gI s 77 ∧ gI s 77 ≤ 19 := hRs.1 77; have : (0 : Int) ≤ gI s 76 ∧ gI s 76 ≤ 20 := hRs.1 76; have : (0 : Int) ≤ gI s2 77 ∧ gI s2 77 ≤ 19 := hRs2.1 77; omega) ?_
          refine wp_stn (fun s6 es6 => ?_)
          have hRs6 : Rr s6 := es6 ▸ Rr.uI hRs2 (by show (0 : Int) ≤ (Int.tmod (((gI s2 77) + 20) - 1) 20) ∧ (Int.tmod (((gI s2 77) + 20) - 1) 20) ≤ 19; have : (0 : Int) ≤ gI s2 76 ∧ gI s2 76 ≤ 20 := hRs2.1 76; have : (0 : Int) ≤ gI s 77 ∧ gI s 77 ≤ 19 := hRs.1 77; have : (0 : Int) ≤ gI s 76 ∧ gI s 76 ≤ 20 := hRs.1 76; have : (0 : Int) ≤ gI s2 77 ∧ gI s2 77 ≤ 19 := hRs2.1 77; have km : Int.tmod (gI s2 77 + 20 - 1) 20 = (gI s2 77 + 20 - 1) % 20 := Int.tmod_eq_emod_of_nonneg (by omega); rw [km]; omega)
          have km : Int.tmod (gI s2 77 + 20 - 1) 20 = (gI s2 77 + 20 - 1) % 20 := Int.tmod_eq_emod_of_nonneg (by omega)
          have k6 : gI s6 77 = (gI s 77 + 19) % 20 := by rw [(q_II es6 : gI s6 77 = _), km]; omega
          refine wp_stn (fun s7 es7 => ?_)
          have hRs7 : Rr s7 := es7 ▸ Rr.uI hRs6 (by show (0 : Int) ≤ ((gI s6 76) - 1) ∧ ((gI s6 76) - 1) ≤ 20; have : (0 : Int) ≤ gI s2 76 ∧ gI s2 76 ≤ 20 := hRs2.1 76; have : (0 : Int) ≤ gI s 77 ∧ gI s 77 ≤ 19 := hRs.1 77; have : (0 : Int) ≤ gI s2 77 ∧ gI s2 77 ≤ 19 := hRs2.1 77; have : (0 : Int) ≤ gI s 76 ∧ gI s 76 ≤ 20 := hRs.1 76; have : gI s6 76 = gI s2 76 := q_Ii es6 (by decide); omega)
          exact wp_some ⟨hRs7, by show ((1 : Int) = 0 ∧ gA s7 49 = gA s 49 ∧ gI s7 76 = gI s 76 ∧ gI s7 77 = gI s 77) ∨ ((1 : Int) = 1 ∧ 1 ≤ gI s 76 ∧ (∀ j, j < 906 → gA s7 49 j = gA s 75 (906 * (gI s 77).toNat + j)) ∧ gI s7 76 = gI s 76 - 1 ∧ gI s7 77 = (gI s 77 + 19) % 20); exact (Or.inr ⟨rfl, by omega, fun j hj => by rw [((q_Ia es7 : gA s7 49 = gA s6 49).trans (q_Ia es6 : gA s6 49 = gA s2 49))]; exact hv21_3 j (by omega), by rw [(q_II es7 : gI s7 76 = _), ((q_Ii es6 (by decide) : gI s6 76 = gI s2 76))]; omega, by rw [((q_Ii es7 (by decide) : gI s7 77 = gI s6 77))]; exact k6⟩)⟩
        · skip
          refine wp_rdIn (by have : (0 : Int) ≤ gI s2 76 ∧ gI s2 76 ≤ 20 := hRs2.1 76; have : (0 : Int) ≤ gI s 77 ∧ gI s 77 ≤ 19 := hRs.1 77; have : (0 : Int) ≤ gI s 76 ∧ gI s 76 ≤ 20 := hRs.1 76; have : (0 : Int) ≤ gI s2 77 ∧ gI s2 77 ≤ 19 := hRs2.1 77; omega) (fun y8 ey8 => ?_)
          have by8 : (-2147483648 : Int) ≤ y8 ∧ y8 ≤ 2147483647 := ey8 ▸ hRs2.2.1 75 _ (by show _ < 18120; have : (0 : Int) ≤ gI s2 76 ∧ gI s2 76 ≤ 20 := hRs2.1 76; have : (0 : Int) ≤ gI s 77 ∧ gI s 77 ≤ 19 := hRs.1 77; have : (0 : Int) ≤ gI s 76 ∧ gI s 76 ≤ 20 := hRs.1 76; have : (0 : Int) ≤ gI s2 77 ∧ gI s2 77 ≤ 19 := hRs2.1 77; omega)
          have r8 : R2 y8 := ey8 ▸ hRs2.2.1 75 _ (by show _ < 18120; omega)
          refine wp_inb (by have : (0 : Int) ≤ gI s2 76 ∧ gI s2 76 ≤ 20 := hRs2.1 76; have : (0 : Int) ≤ gI s 77 ∧ gI s 77 ≤ 19 := hRs.1 77; have : (0 : Int) ≤ gI s2 77 ∧ gI s2 77 ≤ 19 := hRs2.1 77; have : (0 : Int) ≤ gI s 76 ∧ gI s 76 ≤ 20 := hRs.1 76; omega) ?_
          refine wp_stn (fun s10 es10 => ?_)
          have hRs10 : Rr s10 := es10 ▸ Rr.uAu hRs2 (by show (-2147483648 : Int) ≤ y8 ∧ y8 ≤ 2147483647; have : (0 : Int) ≤ gI s2 76 ∧ gI s2 76 ≤ 20 := hRs2.1 76; have : (0 : Int) ≤ gI s 77 ∧ gI s 77 ≤ 19 := hRs.1 77; have : (0 : Int) ≤ gI s2 77 ∧ gI s2 77 ≤ 19 := hRs2.1 77; have : (0 : Int) ≤ gI s 76 ∧ gI s 76 ≤ 20 := hRs.1 76; omega)
          exact ih21 (x1 + 1) s10 hRs10 (by show 0 ≤ (x1 + 1) ∧ (x1 + 1) ≤ 906; have : (0 : Int) ≤ gI s2 76 ∧ gI s2 76 ≤ 20 := hRs2.1 76; have : (0 : Int) ≤ gI s 77 ∧ gI s 77 ≤ 19 := hRs.1 77; have : (0 : Int) ≤ gI s2 77 ∧ gI s2 77 ≤ 19 := hRs2.1 77; have : (0 : Int) ≤ gI s 76 ∧ gI s 76 ≤ 20 := hRs.1 76; omega) (by show gI s10 77 = gI s 77 ∧ gI s10 76 = gI s 76 ∧ 1 ≤ gI s 76; have : (0 : Int) ≤ gI s2 76 ∧ gI s2 76 ≤ 20 := hRs2.1 76; have : (0 : Int) ≤ gI s2 77 ∧ gI s2 77 ≤ 19 := hRs2.1 77; have : (0 : Int) ≤ gI s 76 ∧ gI s 76 ≤ 20 := hRs.1 76; have : gI s10 76 = gI s2 76 := q_Ai es10; have : (0 : Int) ≤ gI s 77 ∧ gI s 77 ≤ 19 := hRs.1 77; have : gI s10 77 = gI s2 77 := q_Ai es10; omega) (((q_Aa es10 (by decide) : gA s10 75 = gA s2 75)).trans hv21_2) (fun j hj => by
          rw [(q_AA es10 : gA s10 49 = _)]
          by_cases z : j = x1.toNat
          · rw [z, upZ_s, ← ey8, hv21_2, show (906 * gI s2 77 + x1).toNat = 906 * (gI s 77).toNat + x1.toNat by omega]
          · rw [upZ_n z]; exact hv21_3 j (by omega)) (by have : (0 : Int) ≤ gI s2 76 ∧ gI s2 76 ≤ 20 := hRs2.1 76; have : (0 : Int) ≤ gI s 77 ∧ gI s 77 ≤ 19 := hRs.1 77; have : (0 : Int) ≤ gI s2 77 ∧ gI s2 77 ≤ 19 := hRs2.1 77; have : (0 : Int) ≤ gI s 76 ∧ gI s 76 ≤ 20 := hRs.1 76; omega)
    exact L21 FU 0 s hRs (by show 0 ≤ (0 : Int) ∧ (0 : Int) ≤ 906; have : (0 : Int) ≤ gI s 76 ∧ gI s 76 ≤ 20 := hRs.1 76; omega) (by show gI s 77 = gI s 77 ∧ gI s 76 = gI s 76 ∧ 1 ≤ gI s 76; have : (0 : Int) ≤ gI s 76 ∧ gI s 76 ≤ 20 := hRs.1 76; have : (0 : Int) ≤ gI s 77 ∧ gI s 77 ≤ 19 := hRs.1 77; omega) (rfl) (fun j hj => by omega) (by have := FU_big; have := FU_big2; have : (0 : Int) ≤ gI s 76 ∧ gI s 76 ≤ 20 := hRs.1 76; omega)
set_option maxHeartbeats 4000000 in
theorem w_x12_canBe {p0 : Int} {p1 : Int} {p2 : Int} {p3 : Int} {s : MS} (hRs : Rr s) (hp0 : p0 = 2 ∨ p0 = 3) (hp1 : 0 ≤ p1 ∧ p1 < 8) (hp2 : GN s) (hp3 : JR s) (hp4 : 0 ≤ gA s 49 16 ∧ gA s 49 16 ≤ 999999) (hp5 : 0 ≤ gA s 49 785 ∧ gA s 49 785 ≤ 40) (hp6 : 0 ≤ gA s 49 p1.toNat ∧ gA s 49 p1.toNat ≤ 254) (hp7 : p0 = 2 → (0 ≤ p2 ∧ p2 ≤ 999) ∧ (0 ≤ p3 ∧ p3 ≤ 999)) (hp8 : R2 p2) (hp9 : R2 p3) : wp (m_x12_canBe p0 p1 p2 p3 s) (fun q => (Rr q.2) ∧ (q.1 = 0 ∨ q.1 = 1) ∧ (GN q.2) ∧ (JR q.2) ∧ (0 ≤ gA q.2 49 16 ∧ gA q.2 49 16 ≤ 999999) ∧ (0 ≤ gA q.2 49 785 ∧ gA q.2 49 785 ≤ 40)) := by
  unfold m_x12_canBe
  have L3 : ∀ (n : Nat) (x20 : Int) (x21 : Int) (x22 : Int) (x23 : Int) (x24 : Int) (s25 : MS), Rr s25 → (x20 = p0 ∧ x21 = p1 ∧ x22 = p2 ∧ x23 = p3) → (0 ≤ x24 ∧ x24 ≤ 785) → (gA s25 49 = gA s 49 ∧ KR s s25) → (gA s25 75 = gA s 75 ∧ gI s25 76 = gI s 76 ∧ gI s25 77 = gI s 77) → (∀ j : Nat, (j : Int) < x24 → gA s25 61 j = gA s 49 j) → (785 - x24) < (n : Int) → wp (m_x12_canBe_L3 n x20 x21 x22 x23 x24 s25) (fun q => (Rr q.2) ∧ (q.1 = 0 ∨ q.1 = 1) ∧ (GN q.2) ∧ (JR q.2) ∧ (0 ≤ gA q.2 49 16 ∧ gA q.2 49 16 ≤ 999999) ∧ (0 ≤ gA q.2 49 785 ∧ gA q.2 49 785 ≤ 40)) := by
    refine fr_ind (fun x20 x21 x22 x23 x24 s25 hRs25 hv3_0 hv3_1 hv3_2 hv3_3 hv3_4 hm3 => ?_) (fun n3 ih3 x20 x21 x22 x23 x24 s25 hRs25 hv3_0 hv3_1 hv3_2 hv3_3 hv3_4 hm3 => ?_)
    · exfalso; have : (0 : Int) ≤ gI s 77 ∧ gI s 77 ≤ 19 := hRs.1 77; have : (0 : Int) ≤ gI s25 77 ∧ gI s25 77 ≤ 19 := hRs25.1 77; have : (0 : Int) ≤ gI s 76 ∧ gI s 76 ≤ 20 := hRs.1 76; have : (0 : Int) ≤ gI s25 76 ∧ gI s25 76 ≤ 20 := hRs25.1 76; omega
    · show wp (m_x12_canBe_b3 (m_x12_canBe_L3 n3) x20 x21 x22 x23 x24 s25) _
      unfold m_x12_canBe_b3
      refine wp_rg (by have : (0 : Int) ≤ gI s 77 ∧ gI s 77 ≤ 19 := hRs.1 77; have : (0 : Int) ≤ gI s25 77 ∧ gI s25 77 ≤ 19 := hRs25.1 77; have : (0 : Int) ≤ gI s 76 ∧ gI s 76 ≤ 20 := hRs.1 76; have : (0 : Int) ≤ gI s25 76 ∧ gI s25 76 ≤ 20 := hRs25.1 76; omega) ?_
      refine wp_if (fun c1 => ?_) (fun c1 => ?_)
      · skip
        refine wp_bn (w_x12_tries hRs25 (by show x20 = 2 ∨ x20 = 3; have : (0 : Int) ≤ gI s 77 ∧ gI s 77 ≤ 19 := hRs.1 77; have : (0 : Int) ≤ gI s25 77 ∧ gI s25 77 ≤ 19 := hRs25.1 77; have : (0 : Int) ≤ gI s 76 ∧ gI s 76 ≤ 20 := hRs.1 76; have : (0 : Int) ≤ gI s25 76 ∧ gI s25 76 ≤ 20 := hRs25.1 76; omega) (by show 0 ≤ x21 ∧ x21 < 8; have : (0 : Int) ≤ gI s 77 ∧ gI s 77 ≤ 19 := hRs.1 77; have : (0 : Int) ≤ gI s25 77 ∧ gI s25 77 ≤ 19 := hRs25.1 77; have : (0 : Int) ≤ gI s 76 ∧ gI s 76 ≤ 20 := hRs.1 76; have : (0 : Int) ≤ gI s25 76 ∧ gI s25 76 ≤ 20 := hRs25.1 76; omega) (RT_x hp2.1.1 (fun k _ => by rw [hv3_2.1]) (by rw [hv3_2.2.1]) (by rw [hv3_2.2.1])) (CE_eq hp2.2.2.1 hv3_2.2.2.1 hv3_2.2.2.2.1 hv3_2.2.2.2.2) (CE_eq hp2.2.2.2.1 hv3_2.2.2.1 hv3_2.2.2.2.1 hv3_2.2.2.2.2) (by rw [hv3_2.2.1]; have := hp2.2.1.1; omega) (by rw [hv3_2.2.1]; exact hp2.2.1.2) (by rw [hv3_2.1, hv3_0.2.1]; omega) (by show x20 = 2 → (0 ≤ x22 ∧ x22 ≤ 999) ∧ (0 ≤ x23 ∧ x23 ≤ 999); have : (0 : Int) ≤ gI s 77 ∧ gI s 77 ≤ 19 := hRs.1 77; have : (0 : Int) ≤ gI s25 77 ∧ gI s25 77 ≤ 19 := hRs25.1 77; have : (0 : Int) ≤ gI s 76 ∧ gI s 76 ≤ 20 := hRs.1 76; have : (0 : Int) ≤ gI s25 76 ∧ gI s25 76 ≤ 20 := hRs25.1 76; omega) (by show R2 x22; have : (0 : Int) ≤ gI s 77 ∧ gI s 77 ≤ 19 := hRs.1 77; have : (0 : Int) ≤ gI s25 77 ∧ gI s25 77 ≤ 19 := hRs25.1 77; have : (0 : Int) ≤ gI s 76 ∧ gI s 76 ≤ 20 := hRs.1 76; have : (0 : Int) ≤ gI s25 76 ∧ gI s25 76 ≤ 20 := hRs25.1 76; omega) (by show R2 x23; have : (0 : Int) ≤ gI s 77 ∧ gI s 77 ≤ 19 := hRs.1 77; have : (0 : Int) ≤ gI s25 77 ∧ gI s25 77 ≤ 19 := hRs25.1 77; have : (0 : Int) ≤ gI s 76 ∧ gI s 76 ≤ 20 := hRs.1 76; have : (0 : Int) ≤ gI s25 76 ∧ gI s25 76 ≤ 20 := hRs25.1 76; omega)) (fun qqr30 eqr30s hqr30s => ?_)
        obtain ⟨qr30r, qr30s⟩ := qqr30
        dsimp only at eqr30s hqr30s ⊢
        have Fqr30s : F_x12_tries s25 qr30s := fr_x12_tries eqr30s
        obtain ⟨hRqr30s, hqr30s_0, hqr30s_1, hqr30s_2, hqr30s_3, hqr30s_4⟩ := hqr30s
        have hqr30s_0 : qr30r = 0 ∨ qr30r = 1 := hqr30s_0
        have hqr30s_1 : KS s25 qr30s := hqr30s_1
        have hqr30s_2 : RT qr30s := hqr30s_2
        have hqr30s_3 : RW0 s25 qr30s x21.toNat := hqr30s_3
        have hqr30s_4 : qr30r = 0 → ∀ j, gA qr30s 49 j = gA s25 49 j := hqr30s_4
        have kR : KR s qr30s := KR_t hv3_2.2 hqr30s_1.1
        have k785 : ∀ j, 785 ≤ j → gA qr30s 49 j = gA s 49 j := fun j hj => by rw [hqr30s_1.2 j hj, hv3_2.1]
        have kW : RW0 s qr30s p1.toNat := ⟨fun u hu hn => by rw [hqr30s_3.1 u hu (by rw [hv3_0.2.1]; exact hn), hv3_2.1], by have z := hqr30s_3.2; rw [hv3_0.2.1] at z; exact z⟩
        have kG : GN qr30s := GN_k hp2 kR hqr30s_2 (RB_w hp2.1.2 (by omega) kW)
        have k16 : gA qr30s 49 16 = gA s 49 16 := kW.1 16 (by omega) (by omega)
        have kJ : JR qr30s := JR_eq hp3 kR (((Fqr30s.2.1 75 (by decide))).trans hv3_3.1) (by rw [((Fqr30s.1 76 (by decide))), hv3_3.2.1]; exact Int.le_refl _) (((Fqr30s.1 77 (by decide))).trans hv3_3.2.2)
        refine wp_rg (by have : (0 : Int) ≤ gI s 77 ∧ gI s 77 ≤ 19 := hRs.1 77; have : (0 : Int) ≤ gI s25 77 ∧ gI s25 77 ≤ 19 := hRs25.1 77; have : (0 : Int) ≤ gI s 76 ∧ gI s 76 ≤ 20 := hRs.1 76; have : (0 : Int) ≤ gI s25 76 ∧ gI s25 76 ≤ 20 := hRs25.1 76; omega) ?_
        refine wp_if (fun c2 => ?_) (fun c2 => ?_)
        · skip
          exact wp_some ⟨hRqr30s, by show (0 : Int) = 0 ∨ (0 : Int) = 1; have : (0 : Int) ≤ gI s 77 ∧ gI s 77 ≤ 19 := hRs.1 77; have : (0 : Int) ≤ gI s25 77 ∧ gI s25 77 ≤ 19 := hRs25.1 77; have : (0 : Int) ≤ gI s 76 ∧ gI s 76 ≤ 20 := hRs.1 76; have : (0 : Int) ≤ gI s25 76 ∧ gI s25 76 ≤ 20 := hRs25.1 76; omega, by show GN qr30s; exact (kG), by show JR qr30s; exact (kJ), by show 0 ≤ gA qr30s 49 16 ∧ gA qr30s 49 16 ≤ 999999; rw [k16]; exact hp4, by show 0 ≤ gA qr30s 49 785 ∧ gA qr30s 49 785 ≤ 40; rw [k785 785 (by omega)]; exact hp5⟩
        · skip
          have L48 : ∀ (n : Nat) (x8 : Int) (s9 : MS), Rr s9 → (0 ≤ x8 ∧ x8 ≤ 785) → (KR s s9) → (gA s9 75 = gA s 75 ∧ gI s9 76 = gI s 76 ∧ gI s9 77 = gI s 77) → (∀ j : Nat, (j : Int) < x8 → gA s9 49 j = gA s 49 j ∧ gA s9 61 j = gA qr30s 49 j) → (∀ j : Nat, x8 ≤ (j : Int) → gA s9 49 j = gA qr30s 49 j) → (∀ j : Nat, x8 ≤ (j : Int) → (j : Int) < 785 → gA s9 61 j = gA s 49 j) → (785 - x8) < (n : Int) → wp (m_x12_canBe_L48 n x8 s9) (fun q => (Rr q.2) ∧ (q.1 = 0 ∨ q.1 = 1) ∧ (GN q.2) ∧ (JR q.2) ∧ (0 ≤ gA q.2 49 16 ∧ gA q.2 49 16 ≤ 999999) ∧ (0 ≤ gA q.2 49 785 ∧ gA q.2 49 785 ≤ 40)) := by
            refine fr_ind (fun x8 s9 hRs9 hv48_0 hv48_1 hv48_2 hv48_3 hv48_4 hv48_5 hm48 => ?_) (fun n48 ih48 x8 s9 hRs9 hv48_0 hv48_1 hv48_2 hv48_3 hv48_4 hv48_5 hm48 => ?_)
            · exfalso; have : (0 : Int) ≤ gI s 77 ∧ gI s 77 ≤ 19 := hRs.1 77; have : (0 : Int) ≤ gI s9 77 ∧ gI s9 77 ≤ 19 := hRs9.1 77; have : (0 : Int) ≤ gI s 76 ∧ gI s 76 ≤ 20 := hRs.1 76; have : (0 : Int) ≤ gI s9 76 ∧ gI s9 76 ≤ 20 := hRs9.1 76; omega
            · show wp (m_x12_canBe_b48 (m_x12_canBe_L48 n48) x8 s9) _
              unfold m_x12_canBe_b48
              refine wp_rg (by have : (0 : Int) ≤ gI s9 77 ∧ gI s9 77 ≤ 19 := hRs9.1 77; have : (0 : Int) ≤ gI s9 76 ∧ gI s9 76 ≤ 20 := hRs9.1 76; have : (0 : Int) ≤ gI s 77 ∧ gI s 77 ≤ 19 := hRs.1 77; have : (0 : Int) ≤ gI s25 77 ∧ gI s25 77 ≤ 19 := hRs25.1 77; have : (0 : Int) ≤ gI s 76 ∧ gI s 76 ≤ 20 := hRs.1 76; have : (0 : Int) ≤ gI s25 76 ∧ gI s25 76 ≤ 20 := hRs25.1 76; omega) ?_
              refine wp_if (fun c3 => ?_) (fun c3 => ?_)
              · skip
                refine wp_bn (w_x12_keeps hRs9) (fun s13 es13 hs13 => ?_)
                have Fs13 : F_x12_keeps s9 s13 := fr_x12_keeps es13
                obtain ⟨hRs13, hs13_0, hs13_1, hs13_2, hs13_3⟩ := hs13
                have hs13_0 : gI s13 77 = (gI s9 77 + 1) % 20 := hs13_0
                have hs13_1 : gI s13 76 ≤ gI s9 76 + 1 ∧ gI s13 76 ≤ 20 := hs13_1
                have hs13_2 : ∀ j, j < 906 → gA s13 75 (906 * (gI s13 77).toNat + j) = gA s9 49 j := hs13_2
                have hs13_3 : ∀ j, j < 906 * (gI s13 77).toNat ∨ 906 * (gI s13 77).toNat + 906 ≤ j → gA s13 75 j = gA s9 75 j := hs13_3
                have r77 : (0 : Int) ≤ gI s9 77 ∧ gI s9 77 ≤ 19 := hRs9.1 77
                have kA : GR s9 (gA s9 49) := GR_x (GR_s hp2 hp4 hp5) hv48_1 (fun j hj => by
                        by_cases z : j < 785
                        · exact (hv48_3 j (by omega)).1
                        · rw [hv48_4 j (by omega)]; exact k785 j (by omega))
                have kJ9 : JR s9 := JR_eq hp3 hv48_1 hv48_2.1 (by rw [hv48_2.2.1]; exact Int.le_refl _) hv48_2.2.2
                have kJ13 : JR s13 := JR_keeps kJ9 kA ⟨(Fs13.2.1 39 (by decide)), (Fs13.2.1 42 (by decide)), (Fs13.2.1 43 (by decide)), (Fs13.2.1 44 (by decide))⟩ hs13_0 hs13_1 (by omega) hs13_2 hs13_3
                have L101 : ∀ (n : Nat) (x1 : Int) (s2 : MS), Rr s2 → (0 ≤ x1 ∧ x1 ≤ 785) → (KR s s2 ∧ JR s2) → (∀ j : Nat, (j : Int) < 785 → gA s2 61 j = gA qr30s 49 j) → (∀ j : Nat, (j : Int) < x1 → gA s2 49 j = gA qr30s 49 j) → (∀ j : Nat, 785 ≤ j → gA s2 49 j = gA qr30s 49 j) → (785 - x1) < (n : Int) → wp (m_x12_canBe_L101 n x1 s2) (fun q => (Rr q.2) ∧ (q.1 = 0 ∨ q.1 = 1) ∧ (GN q.2) ∧ (JR q.2) ∧ (0 ≤ gA q.2 49 16 ∧ gA q.2 49 16 ≤ 999999) ∧ (0 ≤ gA q.2 49 785 ∧ gA q.2 49 785 ≤ 40)) := by
                  refine fr_ind (fun x1 s2 hRs2 hv101_0 hv101_1 hv101_2 hv101_3 hv101_4 hm101 => ?_) (fun n101 ih101 x1 s2 hRs2 hv101_0 hv101_1 hv101_2 hv101_3 hv101_4 hm101 => ?_)
                  · exfalso; omega
                  · show wp (m_x12_canBe_b101 (m_x12_canBe_L101 n101) x1 s2) _
                    unfold m_x12_canBe_b101
                    refine wp_rg (by have : (0 : Int) ≤ gI s13 76 ∧ gI s13 76 ≤ 20 := hRs13.1 76; have : (0 : Int) ≤ gI s13 77 ∧ gI s13 77 ≤ 19 := hRs13.1 77; have : (0 : Int) ≤ gI s9 77 ∧ gI s9 77 ≤ 19 := hRs9.1 77; have : (0 : Int) ≤ gI s9 76 ∧ gI s9 76 ≤ 20 := hRs9.1 76; have : (0 : Int) ≤ gI s 77 ∧ gI s 77 ≤ 19 := hRs.1 77; have : (0 : Int) ≤ gI s25 77 ∧ gI s25 77 ≤ 19 := hRs25.1 77; have : (0 : Int) ≤ gI s 76 ∧ gI s 76 ≤ 20 := hRs.1 76; have : (0 : Int) ≤ gI s25 76 ∧ gI s25 76 ≤ 20 := hRs25.1 76; omega) ?_
                    refine wp_if (fun c4 => ?_) (fun c4 => ?_)
                    · skip
                      exact wp_some ⟨hRs2, by show (1 : Int) = 0 ∨ (1 : Int) = 1; have : (0 : Int) ≤ gI s13 76 ∧ gI s13 76 ≤ 20 := hRs13.1 76; have : (0 : Int) ≤ gI s13 77 ∧ gI s13 77 ≤ 19 := hRs13.1 77; have : (0 : Int) ≤ gI s9 77 ∧ gI s9 77 ≤ 19 := hRs9.1 77; have : (0 : Int) ≤ gI s9 76 ∧ gI s9 76 ≤ 20 := hRs9.1 76; have : (0 : Int) ≤ gI s 77 ∧ gI s 77 ≤ 19 := hRs.1 77; have : (0 : Int) ≤ gI s25 77 ∧ gI s25 77 ≤ 19 := hRs25.1 77; have : (0 : Int) ≤ gI s 76 ∧ gI s 76 ≤ 20 := hRs.1 76; have : (0 : Int) ≤ gI s25 76 ∧ gI s25 76 ≤ 20 := hRs25.1 76; omega, by show GN s2; exact (GN_x kG (show KR qr30s s2 from ⟨hv101_1.1.1.trans kR.1.symm, hv101_1.1.2.1.trans kR.2.1.symm, hv101_1.1.2.2.1.trans kR.2.2.1.symm, hv101_1.1.2.2.2.trans kR.2.2.2.symm⟩) (fun j hj _ => hv101_3 j (by omega))), by show JR s2; exact (hv101_1.2), by show 0 ≤ gA s2 49 16 ∧ gA s2 49 16 ≤ 999999; rw [hv101_3 16 (by omega), k16]; exact hp4, by show 0 ≤ gA s2 49 785 ∧ gA s2 49 785 ≤ 40; rw [hv101_4 785 (by omega), k785 785 (by omega)]; exact hp5⟩
                    · skip
                      refine wp_rdIn (by have : (0 : Int) ≤ gI s13 76 ∧ gI s13 76 ≤ 20 := hRs13.1 76; have : (0 : Int) ≤ gI s13 77 ∧ gI s13 77 ≤ 19 := hRs13.1 77; have : (0 : Int) ≤ gI s9 77 ∧ gI s9 77 ≤ 19 := hRs9.1 77; have : (0 : Int) ≤ gI s9 76 ∧ gI s9 76 ≤ 20 := hRs9.1 76; have : (0 : Int) ≤ gI s 77 ∧ gI s 77 ≤ 19 := hRs.1 77; have : (0 : Int) ≤ gI s25 77 ∧ gI s25 77 ≤ 19 := hRs25.1 77; have : (0 : Int) ≤ gI s 76 ∧ gI s 76 ≤ 20 := hRs.1 76; have : (0 : Int) ≤ gI s25 76 ∧ gI s25 76 ≤ 20 := hRs25.1 76; omega) (fun y5 ey5 => ?_)
                      have by5 : (-2147483648 : Int) ≤ y5 ∧ y5 ≤ 2147483647 := ey5 ▸ hRs2.2.1 61 _ (by show _ < 785; have : (0 : Int) ≤ gI s13 76 ∧ gI s13 76 ≤ 20 := hRs13.1 76; have : (0 : Int) ≤ gI s13 77 ∧ gI s13 77 ≤ 19 := hRs13.1 77; have : (0 : Int) ≤ gI s9 77 ∧ gI s9 77 ≤ 19 := hRs9.1 77; have : (0 : Int) ≤ gI s9 76 ∧ gI s9 76 ≤ 20 := hRs9.1 76; have : (0 : Int) ≤ gI s 77 ∧ gI s 77 ≤ 19 := hRs.1 77; have : (0 : Int) ≤ gI s25 77 ∧ gI s25 77 ≤ 19 := hRs25.1 77; have : (0 : Int) ≤ gI s 76 ∧ gI s 76 ≤ 20 := hRs.1 76; have : (0 : Int) ≤ gI s25 76 ∧ gI s25 76 ≤ 20 := hRs25.1 76; omega)
                      have k5 : y5 = gA qr30s 49 x1.toNat := by rw [← ey5]; exact hv101_2 _ (by omega)
                      have r5 : R2 y5 := k5 ▸ R49 hRqr30s (by omega)
                      refine wp_inb (by have : (0 : Int) ≤ gI s13 76 ∧ gI s13 76 ≤ 20 := hRs13.1 76; have : (0 : Int) ≤ gI s13 77 ∧ gI s13 77 ≤ 19 := hRs13.1 77; have : (0 : Int) ≤ gI s9 77 ∧ gI s9 77 ≤ 19 := hRs9.1 77; have : (0 : Int) ≤ gI s9 76 ∧ gI s9 76 ≤ 20 := hRs9.1 76; have : (0 : Int) ≤ gI s 77 ∧ gI s 77 ≤ 19 := hRs.1 77; have : (0 : Int) ≤ gI s25 77 ∧ gI s25 77 ≤ 19 := hRs25.1 77; have : (0 : Int) ≤ gI s 76 ∧ gI s 76 ≤ 20 := hRs.1 76; have : (0 : Int) ≤ gI s25 76 ∧ gI s25 76 ≤ 20 := hRs25.1 76; omega) ?_
                      refine wp_stn (fun s7 es7 => ?_)
                      have hRs7 : Rr s7 := es7 ▸ Rr.uAu hRs2 (by show (-2147483648 : Int) ≤ y5 ∧ y5 ≤ 2147483647; have : (0 : Int) ≤ gI s13 76 ∧ gI s13 76 ≤ 20 := hRs13.1 76; have : (0 : Int) ≤ gI s13 77 ∧ gI s13 77 ≤ 19 := hRs13.1 77; have : (0 : Int) ≤ gI s9 77 ∧ gI s9 77 ≤ 19 := hRs9.1 77; have : (0 : Int) ≤ gI s9 76 ∧ gI s9 76 ≤ 20 := hRs9.1 76; have : (0 : Int) ≤ gI s 77 ∧ gI s 77 ≤ 19 := hRs.1 77; have : (0 : Int) ≤ gI s25 77 ∧ gI s25 77 ≤ 19 := hRs25.1 77; have : (0 : Int) ≤ gI s 76 ∧ gI s 76 ≤ 20 := hRs.1 76; have : (0 : Int) ≤ gI s25 76 ∧ gI s25 76 ≤ 20 := hRs25.1 76; omega)
                      exact ih101 (x1 + 1) s7 hRs7 (by show 0 ≤ (x1 + 1) ∧ (x1 + 1) ≤ 785; have : (0 : Int) ≤ gI s13 76 ∧ gI s13 76 ≤ 20 := hRs13.1 76; have : (0 : Int) ≤ gI s13 77 ∧ gI s13 77 ≤ 19 := hRs13.1 77; have : (0 : Int) ≤ gI s9 77 ∧ gI s9 77 ≤ 19 := hRs9.1 77; have : (0 : Int) ≤ gI s9 76 ∧ gI s9 76 ≤ 20 := hRs9.1 76; have : (0 : Int) ≤ gI s 77 ∧ gI s 77 ≤ 19 := hRs.1 77; have : (0 : Int) ≤ gI s25 77 ∧ gI s25 77 ≤ 19 := hRs25.1 77; have : (0 : Int) ≤ gI s 76 ∧ gI s 76 ≤ 20 := hRs.1 76; have : (0 : Int) ≤ gI s25 76 ∧ gI s25 76 ≤ 20 := hRs25.1 76; omega) (⟨KR_t hv101_1.1 ⟨(q_Aa es7 (by decide) : gA s7 39 = gA s2 39), (q_Aa es7 (by decide) : gA s7 42 = gA s2 42), (q_Aa es7 (by decide) : gA s7 43 = gA s2 43), (q_Aa es7 (by decide) : gA s7 44 = gA s2 44)⟩, JR_eq hv101_1.2 ⟨(q_Aa es7 (by decide) : gA s7 39 = gA s2 39), (q_Aa es7 (by decide) : gA s7 42 = gA s2 42), (q_Aa es7 (by decide) : gA s7 43 = gA s2 43), (q_Aa es7 (by decide) : gA s7 44 = gA s2 44)⟩ (q_Aa es7 (by decide) : gA s7 75 = gA s2 75) (by rw [((q_Ai es7 : gI s7 76 = gI s2 76))]; exact Int.le_refl _) (q_Ai es7 : gI s7 77 = gI s2 77)⟩) (fun j hj => by rw [(q_Aa es7 (by decide) : gA s7 61 = gA s2 61)]; exact hv101_2 j hj) (fun j hj => by
          rw [(q_AA es7 : gA s7 49 = _)]
          by_cases z : j = x1.toNat
          · rw [z, upZ_s]; exact k5
          · rw [upZ_n z]; exact hv101_3 j (by omega)) (fun j hj => by rw [(q_AA es7 : gA s7 49 = _), upZ_n (by omega)]; exact hv101_4 j hj) (by have : (0 : Int) ≤ gI s13 76 ∧ gI s13 76 ≤ 20 := hRs13.1 76; have : (0 : Int) ≤ gI s13 77 ∧ gI s13 77 ≤ 19 := hRs13.1 77; have : (0 : Int) ≤ gI s9 77 ∧ gI s9 77 ≤ 19 := hRs9.1 77; have : (0 : Int) ≤ gI s9 76 ∧ gI s9 76 ≤ 20 := hRs9.1 76; have : (0 : Int) ≤ gI s 77 ∧ gI s 77 ≤ 19 := hRs.1 77; have : (0 : Int) ≤ gI s25 77 ∧ gI s25 77 ≤ 19 := hRs25.1 77; have : (0 : Int) ≤ gI s 76 ∧ gI s 76 ≤ 20 := hRs.1 76; have : (0 : Int) ≤ gI s25 76 ∧ gI s25 76 ≤ 20 := hRs25.1 76; omega)
                exact L101 FU 0 s13 hRs13 (by show 0 ≤ (0 : Int) ∧ (0 : Int) ≤ 785; have : (0 : Int) ≤ gI s13 76 ∧ gI s13 76 ≤ 20 := hRs13.1 76; have : (0 : Int) ≤ gI s13 77 ∧ gI s13 77 ≤ 19 := hRs13.1 77; have : (0 : Int) ≤ gI s9 77 ∧ gI s9 77 ≤ 19 := hRs9.1 77; have : (0 : Int) ≤ gI s9 76 ∧ gI s9 76 ≤ 20 := hRs9.1 76; have : (0 : Int) ≤ gI s 77 ∧ gI s 77 ≤ 19 := hRs.1 77; have : (0 : Int) ≤ gI s25 77 ∧ gI s25 77 ≤ 19 := hRs25.1 77; have : (0 : Int) ≤ gI s 76 ∧ gI s 76 ≤ 20 := hRs.1 76; have : (0 : Int) ≤ gI s25 76 ∧ gI s25 76 ≤ 20 := hRs25.1 76; omega) (⟨KR_t hv48_1 ⟨(Fs13.2.1 39 (by decide)), (Fs13.2.1 42 (by decide)), (Fs13.2.1 43 (by decide)), (Fs13.2.1 44 (by decide))⟩, kJ13⟩) (fun j hj => by rw [(Fs13.2.1 61 (by decide))]; exact (hv48_3 j (by omega)).2) (fun j hj => by omega) (fun j hj => by rw [(Fs13.2.1 49 (by decide))]; exact hv48_4 j (by omega)) (by have := FU_big; have := FU_big2; have : (0 : Int) ≤ gI s13 76 ∧ gI s13 76 ≤ 20 := hRs13.1 76; have : (0 : Int) ≤ gI s13 77 ∧ gI s13 77 ≤ 19 := hRs13.1 77; have : (0 : Int) ≤ gI s9 77 ∧ gI s9 77 ≤ 19 := hRs9.1 77; have : (0 : Int) ≤ gI s9 76 ∧ gI s9 76 ≤ 20 := hRs9.1 76; have : (0 : Int) ≤ gI s 77 ∧ gI s 77 ≤ 19 := hRs.1 77; have : (0 : Int) ≤ gI s25 77 ∧ gI s25 77 ≤ 19 := hRs25.1 77; have : (0 : Int) ≤ gI s 76 ∧ gI s 76 ≤ 20 := hRs.1 76; have : (0 : Int) ≤ gI s25 76 ∧ gI s25 76 ≤ 20 := hRs25.1 76; omega)
              · skip
                refine wp_rdIn (by have : (0 : Int) ≤ gI s9 77 ∧ gI s9 77 ≤ 19 := hRs9.1 77; have : (0 : Int) ≤ gI s9 76 ∧ gI s9 76 ≤ 20 := hRs9.1 76; have : (0 : Int) ≤ gI s 77 ∧ gI s 77 ≤ 19 := hRs.1 77; have : (0 : Int) ≤ gI s25 77 ∧ gI s25 77 ≤ 19 := hRs25.1 77; have : (0 : Int) ≤ gI s 76 ∧ gI s 76 ≤ 20 := hRs.1 76; have : (0 : Int) ≤ gI s25 76 ∧ gI s25 76 ≤ 20 := hRs25.1 76; omega) (fun y14 ey14 => ?_)
                have by14 : (-2147483648 : Int) ≤ y14 ∧ y14 ≤ 2147483647 := ey14 ▸ hRs9.2.1 49 _ (by show _ < 906; have : (0 : Int) ≤ gI s9 77 ∧ gI s9 77 ≤ 19 := hRs9.1 77; have : (0 : Int) ≤ gI s9 76 ∧ gI s9 76 ≤ 20 := hRs9.1 76; have : (0 : Int) ≤ gI s 77 ∧ gI s 77 ≤ 19 := hRs.1 77; have : (0 : Int) ≤ gI s25 77 ∧ gI s25 77 ≤ 19 := hRs25.1 77; have : (0 : Int) ≤ gI s 76 ∧ gI s 76 ≤ 20 := hRs.1 76; have : (0 : Int) ≤ gI s25 76 ∧ gI s25 76 ≤ 20 := hRs25.1 76; omega)
                have r14 : R2 y14 := ey14 ▸ R49 hRs9 (by omega)
                refine wp_rdIn (by have : (0 : Int) ≤ gI s9 77 ∧ gI s9 77 ≤ 19 := hRs9.1 77; have : (0 : Int) ≤ gI s9 76 ∧ gI s9 76 ≤ 20 := hRs9.1 76; have : (0 : Int) ≤ gI s 77 ∧ gI s 77 ≤ 19 := hRs.1 77; have : (0 : Int) ≤ gI s25 77 ∧ gI s25 77 ≤ 19 := hRs25.1 77; have : (0 : Int) ≤ gI s 76 ∧ gI s 76 ≤ 20 := hRs.1 76; have : (0 : Int) ≤ gI s25 76 ∧ gI s25 76 ≤ 20 := hRs25.1 76; omega) (fun y15 ey15 => ?_)
                have by15 : (-2147483648 : Int) ≤ y15 ∧ y15 ≤ 2147483647 := ey15 ▸ hRs9.2.1 61 _ (by show _ < 785; have : (0 : Int) ≤ gI s9 77 ∧ gI s9 77 ≤ 19 := hRs9.1 77; have : (0 : Int) ≤ gI s9 76 ∧ gI s9 76 ≤ 20 := hRs9.1 76; have : (0 : Int) ≤ gI s 77 ∧ gI s 77 ≤ 19 := hRs.1 77; have : (0 : Int) ≤ gI s25 77 ∧ gI s25 77 ≤ 19 := hRs25.1 77; have : (0 : Int) ≤ gI s 76 ∧ gI s 76 ≤ 20 := hRs.1 76; have : (0 : Int) ≤ gI s25 76 ∧ gI s25 76 ≤ 20 := hRs25.1 76; omega)
                have k15 : y15 = gA s 49 x8.toNat := by rw [← ey15]; exact hv48_5 _ (by omega) (by omega)
                have r15 : R2 y15 := k15 ▸ R49 hRs (by omega)
                have k14 : y14 = gA qr30s 49 x8.toNat := by rw [← ey14]; exact hv48_4 _ (by omega)
                refine wp_inb (by have : (0 : Int) ≤ gI s9 77 ∧ gI s9 77 ≤ 19 := hRs9.1 77; have : (0 : Int) ≤ gI s9 76 ∧ gI s9 76 ≤ 20 := hRs9.1 76; have : (0 : Int) ≤ gI s 77 ∧ gI s 77 ≤ 19 := hRs.1 77; have : (0 : Int) ≤ gI s25 77 ∧ gI s25 77 ≤ 19 := hRs25.1 77; have : (0 : Int) ≤ gI s 76 ∧ gI s 76 ≤ 20 := hRs.1 76; have : (0 : Int) ≤ gI s25 76 ∧ gI s25 76 ≤ 20 := hRs25.1 76; omega) ?_
                refine wp_stn (fun s17 es17 => ?_)
                have hRs17 : Rr s17 := es17 ▸ Rr.uAu hRs9 (by show (-2147483648 : Int) ≤ y15 ∧ y15 ≤ 2147483647; have : (0 : Int) ≤ gI s9 77 ∧ gI s9 77 ≤ 19 := hRs9.1 77; have : (0 : Int) ≤ gI s9 76 ∧ gI s9 76 ≤ 20 := hRs9.1 76; have : (0 : Int) ≤ gI s 77 ∧ gI s 77 ≤ 19 := hRs.1 77; have : (0 : Int) ≤ gI s25 77 ∧ gI s25 77 ≤ 19 := hRs25.1 77; have : (0 : Int) ≤ gI s 76 ∧ gI s 76 ≤ 20 := hRs.1 76; have : (0 : Int) ≤ gI s25 76 ∧ gI s25 76 ≤ 20 := hRs25.1 76; omega)
                refine wp_inb (by have : (0 : Int) ≤ gI s9 77 ∧ gI s9 77 ≤ 19 := hRs9.1 77; have : (0 : Int) ≤ gI s9 76 ∧ gI s9 76 ≤ 20 := hRs9.1 76; have : (0 : Int) ≤ gI s 77 ∧ gI s 77 ≤ 19 := hRs.1 77; have : (0 : Int) ≤ gI s25 77 ∧ gI s25 77 ≤ 19 := hRs25.1 77; have : (0 : Int) ≤ gI s 76 ∧ gI s 76 ≤ 20 := hRs.1 76; have : (0 : Int) ≤ gI s25 76 ∧ gI s25 76 ≤ 20 := hRs25.1 76; omega) ?_
                refine wp_stn (fun s19 es19 => ?_)
                have hRs19 : Rr s19 := es19 ▸ Rr.uAu hRs17 (by show (-2147483648 : Int) ≤ y14 ∧ y14 ≤ 2147483647; have : (0 : Int) ≤ gI s9 77 ∧ gI s9 77 ≤ 19 := hRs9.1 77; have : (0 : Int) ≤ gI s9 76 ∧ gI s9 76 ≤ 20 := hRs9.1 76; have : (0 : Int) ≤ gI s 77 ∧ gI s 77 ≤ 19 := hRs.1 77; have : (0 : Int) ≤ gI s25 77 ∧ gI s25 77 ≤ 19 := hRs25.1 77; have : (0 : Int) ≤ gI s 76 ∧ gI s 76 ≤ 20 := hRs.1 76; have : (0 : Int) ≤ gI s25 76 ∧ gI s25 76 ≤ 20 := hRs25.1 76; omega)
                have u49 : gA s19 49 = upZ (gA s9 49) x8.toNat y15 := ((q_Aa es19 (by decide) : gA s19 49 = gA s17 49)).trans (q_AA es17)
                have u61 : gA s19 61 = upZ (gA s9 61) x8.toNat y14 := by rw [(q_AA es19 : gA s19 61 = _), ((q_Aa es17 (by decide) : gA s17 61 = gA s9 61))]
                exact ih48 (x8 + 1) s19 hRs19 (by show 0 ≤ (x8 + 1) ∧ (x8 + 1) ≤ 785; have : (0 : Int) ≤ gI s9 77 ∧ gI s9 77 ≤ 19 := hRs9.1 77; have : (0 : Int) ≤ gI s9 76 ∧ gI s9 76 ≤ 20 := hRs9.1 76; have : (0 : Int) ≤ gI s 77 ∧ gI s 77 ≤ 19 := hRs.1 77; have : (0 : Int) ≤ gI s25 77 ∧ gI s25 77 ≤ 19 := hRs25.1 77; have : (0 : Int) ≤ gI s 76 ∧ gI s 76 ≤ 20 := hRs.1 76; have : (0 : Int) ≤ gI s25 76 ∧ gI s25 76 ≤ 20 := hRs25.1 76; omega) (KR_t hv48_1 ⟨((q_Aa es19 (by decide) : gA s19 39 = gA s17 39).trans (q_Aa es17 (by decide) : gA s17 39 = gA s9 39)), ((q_Aa es19 (by decide) : gA s19 42 = gA s17 42).trans (q_Aa es17 (by decide) : gA s17 42 = gA s9 42)), ((q_Aa es19 (by decide) : gA s19 43 = gA s17 43).trans (q_Aa es17 (by decide) : gA s17 43 = gA s9 43)), ((q_Aa es19 (by decide) : gA s19 44 = gA s17 44).trans (q_Aa es17 (by decide) : gA s17 44 = gA s9 44))⟩) (⟨(((q_Aa es19 (by decide) : gA s19 75 = gA s17 75).trans (q_Aa es17 (by decide) : gA s17 75 = gA s9 75))).trans hv48_2.1, (((q_Ai es19 : gI s19 76 = gI s17 76).trans (q_Ai es17 : gI s17 76 = gI s9 76))).trans hv48_2.2.1, (((q_Ai es19 : gI s19 77 = gI s17 77).trans (q_Ai es17 : gI s17 77 = gI s9 77))).trans hv48_2.2.2⟩) (fun j hj => by
          rw [u49, u61]
          by_cases z : j = x8.toNat
          · rw [z, upZ_s, upZ_s]; exact ⟨k15, k14⟩
          · rw [upZ_n z, upZ_n z]; exact hv48_3 j (by omega)) (fun j hj => by rw [u49, upZ_n (by omega)]; exact hv48_4 j (by omega)) (fun j h1 h2 => by rw [u61, upZ_n (by omega)]; exact hv48_5 j (by omega) h2) (by have : (0 : Int) ≤ gI s9 77 ∧ gI s9 77 ≤ 19 := hRs9.1 77; have : (0 : Int) ≤ gI s9 76 ∧ gI s9 76 ≤ 20 := hRs9.1 76; have : (0 : Int) ≤ gI s 77 ∧ gI s 77 ≤ 19 := hRs.1 77; have : (0 : Int) ≤ gI s25 77 ∧ gI s25 77 ≤ 19 := hRs25.1 77; have : (0 : Int) ≤ gI s 76 ∧ gI s 76 ≤ 20 := hRs.1 76; have : (0 : Int) ≤ gI s25 76 ∧ gI s25 76 ≤ 20 := hRs25.1 76; omega)
          exact L48 FU 0 qr30s hRqr30s (by show 0 ≤ (0 : Int) ∧ (0 : Int) ≤ 785; have : (0 : Int) ≤ gI s 77 ∧ gI s 77 ≤ 19 := hRs.1 77; have : (0 : Int) ≤ gI s25 77 ∧ gI s25 77 ≤ 19 := hRs25.1 77; have : (0 : Int) ≤ gI s 76 ∧ gI s 76 ≤ 20 := hRs.1 76; have : (0 : Int) ≤ gI s25 76 ∧ gI s25 76 ≤ 20 := hRs25.1 76; omega) (kR) (⟨((Fqr30s.2.1 75 (by decide))).trans hv3_3.1, ((Fqr30s.1 76 (by decide))).trans hv3_3.2.1, ((Fqr30s.1 77 (by decide))).trans hv3_3.2.2⟩) (fun j hj => by omega) (fun j _ => rfl) (fun j h1 h2 => by rw [(Fqr30s.2.1 61 (by decide))]; exact hv3_4 j (by omega)) (by have := FU_big; have := FU_big2; have : (0 : Int) ≤ gI s 77 ∧ gI s 77 ≤ 19 := hRs.1 77; have : (0 : Int) ≤ gI s25 77 ∧ gI s25 77 ≤ 19 := hRs25.1 77; have : (0 : Int) ≤ gI s 76 ∧ gI s 76 ≤ 20 := hRs.1 76; have : (0 : Int) ≤ gI s25 76 ∧ gI s25 76 ≤ 20 := hRs25.1 76; omega)
      · skip
        refine wp_rdIn (by have : (0 : Int) ≤ gI s 77 ∧ gI s 77 ≤ 19 := hRs.1 77; have : (0 : Int) ≤ gI s25 77 ∧ gI s25 77 ≤ 19 := hRs25.1 77; have : (0 : Int) ≤ gI s 76 ∧ gI s 76 ≤ 20 := hRs.1 76; have : (0 : Int) ≤ gI s25 76 ∧ gI s25 76 ≤ 20 := hRs25.1 76; omega) (fun y33 ey33 => ?_)
        have by33 : (-2147483648 : Int) ≤ y33 ∧ y33 ≤ 2147483647 := ey33 ▸ hRs25.2.1 49 _ (by show _ < 906; have : (0 : Int) ≤ gI s 77 ∧ gI s 77 ≤ 19 := hRs.1 77; have : (0 : Int) ≤ gI s25 77 ∧ gI s25 77 ≤ 19 := hRs25.1 77; have : (0 : Int) ≤ gI s 76 ∧ gI s 76 ≤ 20 := hRs.1 76; have : (0 : Int) ≤ gI s25 76 ∧ gI s25 76 ≤ 20 := hRs25.1 76; omega)
        have r33 : R2 y33 := ey33 ▸ R49 hRs25 (by omega)
        refine wp_inb (by have : (0 : Int) ≤ gI s 77 ∧ gI s 77 ≤ 19 := hRs.1 77; have : (0 : Int) ≤ gI s25 77 ∧ gI s25 77 ≤ 19 := hRs25.1 77; have : (0 : Int) ≤ gI s 76 ∧ gI s 76 ≤ 20 := hRs.1 76; have : (0 : Int) ≤ gI s25 76 ∧ gI s25 76 ≤ 20 := hRs25.1 76; omega) ?_
        refine wp_stn (fun s35 es35 => ?_)
        have hRs35 : Rr s35 := es35 ▸ Rr.uAu hRs25 (by show (-2147483648 : Int) ≤ y33 ∧ y33 ≤ 2147483647; have : (0 : Int) ≤ gI s 77 ∧ gI s 77 ≤ 19 := hRs.1 77; have : (0 : Int) ≤ gI s25 77 ∧ gI s25 77 ≤ 19 := hRs25.1 77; have : (0 : Int) ≤ gI s 76 ∧ gI s 76 ≤ 20 := hRs.1 76; have : (0 : Int) ≤ gI s25 76 ∧ gI s25 76 ≤ 20 := hRs25.1 76; omega)
        exact ih3 x20 x21 x22 x23 (x24 + 1) s35 hRs35 (by show x20 = p0 ∧ x21 = p1 ∧ x22 = p2 ∧ x23 = p3; have : (0 : Int) ≤ gI s 77 ∧ gI s 77 ≤ 19 := hRs.1 77; have : (0 : Int) ≤ gI s25 77 ∧ gI s25 77 ≤ 19 := hRs25.1 77; have : (0 : Int) ≤ gI s 76 ∧ gI s 76 ≤ 20 := hRs.1 76; have : (0 : Int) ≤ gI s25 76 ∧ gI s25 76 ≤ 20 := hRs25.1 76; omega) (by show 0 ≤ (x24 + 1) ∧ (x24 + 1) ≤ 785; have : (0 : Int) ≤ gI s 77 ∧ gI s 77 ≤ 19 := hRs.1 77; have : (0 : Int) ≤ gI s25 77 ∧ gI s25 77 ≤ 19 := hRs25.1 77; have : (0 : Int) ≤ gI s 76 ∧ gI s 76 ≤ 20 := hRs.1 76; have : (0 : Int) ≤ gI s25 76 ∧ gI s25 76 ≤ 20 := hRs25.1 76; omega) (⟨((q_Aa es35 (by decide) : gA s35 49 = gA s25 49)).trans hv3_2.1, KR_t hv3_2.2 ⟨(q_Aa es35 (by decide) : gA s35 39 = gA s25 39), (q_Aa es35 (by decide) : gA s35 42 = gA s25 42), (q_Aa es35 (by decide) : gA s35 43 = gA s25 43), (q_Aa es35 (by decide) : gA s35 44 = gA s25 44)⟩⟩) (⟨((q_Aa es35 (by decide) : gA s35 75 = gA s25 75)).trans hv3_3.1, ((q_Ai es35 : gI s35 76 = gI s25 76)).trans hv3_3.2.1, ((q_Ai es35 : gI s35 77 = gI s25 77)).trans hv3_3.2.2⟩) (fun j hj => by
          rw [(q_AA es35 : gA s35 61 = _)]
          by_cases z : j = x24.toNat
          · rw [z, upZ_s, ← ey33, hv3_2.1]
          · rw [upZ_n z]; exact hv3_4 j (by omega)) (by have : (0 : Int) ≤ gI s 77 ∧ gI s 77 ≤ 19 := hRs.1 77; have : (0 : Int) ≤ gI s25 77 ∧ gI s25 77 ≤ 19 := hRs25.1 77; have : (0 : Int) ≤ gI s 76 ∧ gI s 76 ≤ 20 := hRs.1 76; have : (0 : Int) ≤ gI s25 76 ∧ gI s25 76 ≤ 20 := hRs25.1 76; omega)
  exact L3 FU p0 p1 p2 p3 0 s hRs (by show p0 = p0 ∧ p1 = p1 ∧ p2 = p2 ∧ p3 = p3; omega) (by show 0 ≤ (0 : Int) ∧ (0 : Int) ≤ 785; omega) (⟨rfl, rfl, rfl, rfl, rfl⟩) (⟨rfl, rfl, rfl⟩) (fun j hj => by omega) (by have := FU_big; have := FU_big2; omega)
/-! ===== the reference between calls ===== -/
def GA (s : MS) : Prop := GN s ∧ JR s ∧ (0 ≤ gA s 49 16 ∧ gA s 49 16 ≤ 999999) ∧ (0 ≤ gA s 49 785 ∧ gA s 49 785 ≤ 40)
def JI (s : MS) : Prop := ((0 ≤ gA s 49 16 ∧ gA s 49 16 ≤ 999999) ∧ (0 ≤ gA s 49 785 ∧ gA s 49 785 ≤ 40)) ∧ (0 ≤ gL s 78 ∧ gL s 78 ≤ 2147483647) ∧ (0 ≤ gA s 39 7 ∧ gA s 39 7 ≤ 8) ∧ ((gI s 47 = 0 ∧ gA s 39 5 = 0 ∧ gI s 76 = 0) ∨ (gI s 47 = 1 ∧ GN s ∧ JR s))
theorem JI_GA {s : MS} (H : JI s) (h : gI s 47 ≠ 0) : GA s := by
  rcases H.2.2.2 with q | q
  · exact absurd q.1 h
  · exact ⟨q.2.1, q.2.2, H.1.1, H.1.2⟩
theorem JI_N {s : MS} (H : JI s) : 0 ≤ gA s 39 5 ∧ gA s 39 5 ≤ 48 := by
  rcases H.2.2.2 with q | q
  · omega
  · have := q.2.1.2.1.1; omega
theorem GA_eq {s o : MS} (H : GA s) (k : KR s o) (h49 : gA o 49 = gA s 49) (h75 : gA o 75 = gA s 75) (h76 : gI o 76 = gI s 76) (h77 : gI o 77 = gI s 77) : GA o := ⟨GN_x H.1 k (fun j _ _ => by rw [h49]), JR_eq H.2.1 k h75 (by omega) h77, by rw [h49]; exact H.2.2.1, by rw [h49]; exact H.2.2.2⟩
theorem GA_JI {s o : MS} (H : JI s) (h : gI s 47 ≠ 0) (h39 : gA o 39 = gA s 39) (hL : 0 ≤ gL o 78 ∧ gL o 78 ≤ 2147483647) (h47 : gI o 47 = gI s 47) (G : GA o) : JI o := by
  refine ⟨⟨G.2.2.1, G.2.2.2⟩, hL, by rw [h39]; exact H.2.2.1, Or.inr ⟨?_, G.1, G.2.1⟩⟩
  rcases H.2.2.2 with q | q
  · exact absurd q.1 h
  · rw [h47]; exact q.1
theorem JI_eq {s o : MS} (H : JI s) (k : KR s o) (h49 : gA o 49 = gA s 49) (h75 : gA o 75 = gA s 75) (h76 : gI o 76 = gI s 76) (h77 : gI o 77 = gI s 77) (h47 : gI o 47 = gI s 47) (hL : gL o 78 = gL s 78) : JI o := by
  refine ⟨by rw [h49]; exact H.1, by rw [hL]; exact H.2.1, by rw [k.1]; exact H.2.2.1, ?_⟩
  rcases H.2.2.2 with q | q
  · exact Or.inl (by rw [h47, k.1, h76]; exact q)
  · have G := GA_eq ⟨q.2.1, q.2.2, H.1.1, H.1.2⟩ k h49 h75 h76 h77
    exact Or.inr ⟨by rw [h47]; exact q.1, G.1, G.2.1⟩
theorem GA_tries {s o : MS} {v : Nat} (H : GA s) (k : KS s o) (hT : RT o) (hv : v < 8) (hW : RW0 s o v) (h75 : gA o 75 = gA s 75) (h76 : gI o 76 = gI s 76) (h77 : gI o 77 = gI s 77) : GA o := by
  have kr : KR s o := k.1
  exact ⟨GN_k H.1 kr hT (RB_w H.1.1.2 (by omega) hW), JR_eq H.2.1 kr h75 (by omega) h77, by rw [hW.1 16 (by omega) (by omega)]; exact H.2.2.1, by rw [k.2 785 (by omega)]; exact H.2.2.2⟩
theorem GA_kept {s o : MS} (H : GA s) (k : KR s o) (h1 : ∀ i, i < 785 → i ≠ 16 → gA o 49 i = gA s 49 i) (h2 : 0 ≤ gA o 49 16 ∧ gA o 49 16 ≤ 999999) (h3 : 0 ≤ gA o 49 785 ∧ gA o 49 785 ≤ 40) (h75 : gA o 75 = gA s 75) (h76 : gI o 76 = gI s 76) (h77 : gI o 77 = gI s 77) : GA o := ⟨GN_x H.1 k h1, JR_eq H.2.1 k h75 (by omega) h77, h2, h3⟩
theorem GA_keeps {s o : MS} (hR : Rr s) (H : GA s) (k : KR s o) (h49 : gA o 49 = gA s 49) (h77 : gI o 77 = (gI s 77 + 1) % 20) (h76 : gI o 76 ≤ gI s 76 + 1 ∧ gI o 76 ≤ 20) (n : ∀ j, j < 906 → gA o 75 (906 * (gI o 77).toNat + j) = gA s 49 j) (e : ∀ j, j < 906 * (gI o 77).toNat ∨ 906 * (gI o 77).toNat + 906 ≤ j → gA o 75 j = gA s 75 j) : GA o := by
  have r77 : (0 : Int) ≤ gI s 77 ∧ gI s 77 ≤ 19 := hR.1 77
  exact ⟨GN_x H.1 k (fun j _ _ => by rw [h49]), JR_keeps H.2.1 (GR_s H.1 H.2.2.1 H.2.2.2) k h77 h76 (by omega) n e, by rw [h49]; exact H.2.2.1, by rw [h49]; exact H.2.2.2⟩
/-- the tree part is another, the rest is not -/
theorem GA_tree {s o : MS} (H : GA s) (k : KR s o) (hT : RT o) (hB : RB_r o) (h16 : gA o 49 16 = gA s 49 16) (h785 : gA o 49 785 = gA s 49 785) (h75 : gA o 75 = gA s 75) (h76 : gI o 76 = gI s 76) (h77 : gI o 77 = gI s 77) : GA o := ⟨GN_k H.1 k hT hB, JR_eq H.2.1 k h75 (by omega) h77, by rw [h16]; exact H.2.2.1, by rw [h785]; exact H.2.2.2⟩
def ivol (s : MS) (u : Nat) : Int := if gI s 47 ≠ 0 ∧ gA s 49 u ≠ 255 then 1 else 0
theorem ivol_01 (s : MS) (u : Nat) : ivol s u = 0 ∨ ivol s u = 1 := by unfold ivol; split <;> omega
theorem sm_s (f : Nat → Int) (n : Nat) : sm (n + 1) f = sm n f + f n := rfl
set_option maxHeartbeats 1000000 in
theorem wv_x12_isVolume {p0 : Int} {s : MS} (hRs : Rr s) (hp0 : R8 p0) : wp (m_x12_isVolume p0 s) (fun r => ((r = 1 ∧ (0 ≤ p0 ∧ p0 < 8) ∧ gI s 47 ≠ 0 ∧ gA s 49 p0.toNat ≠ 255) ∨ r = 0) ∧ (0 ≤ p0 ∧ p0 < 8 → r = ivol s p0.toNat)) := by
  unfold m_x12_isVolume
  refine wp_bn (w_x12_isIn hRs (by show R8 p0; omega) (by show R8 (0 : Int); omega) (by show R8 (7 : Int); omega)) (fun r4 er4 hr4 => ?_)
  have hr4_0 := hr4
  have hr4_0 : (r4 = 1 ∧ (0 : Int) ≤ p0 ∧ p0 ≤ (7 : Int)) ∨ (r4 = 0 ∧ (p0 < (0 : Int) ∨ (7 : Int) < p0)) := hr4_0
  refine wp_rg (by omega) ?_
  refine wp_if (fun c1 => ?_) (fun c1 => ?_)
  · skip
    unfold m_x12_isVolume_J35
    unfold m_x12_isVolume_J36
    refine wp_bo (by omega) ?_
    exact wp_some ⟨by show ((0 : Int) = 1 ∧ (0 ≤ p0 ∧ p0 < 8) ∧ gI s 47 ≠ 0 ∧ gA s 49 p0.toNat ≠ 255) ∨ (0 : Int) = 0; have : (0 : Int) ≤ gI s 47 ∧ gI s 47 ≤ 1 := hRs.1 47; omega, fun h9 => by unfold ivol; first | (exfalso; omega) | (rw [if_neg (fun w => w.1 (by assumption))]) | (rw [if_neg (fun w => w.2 (by rw [ey9]; assumption))]) | (rw [if_pos ⟨by assumption, by rw [ey9]; assumption⟩])⟩
  · skip
    refine wp_rg (by have : (0 : Int) ≤ gI s 47 ∧ gI s 47 ≤ 1 := hRs.1 47; omega) ?_
    refine wp_if (fun c2 => ?_) (fun c2 => ?_)
    · skip
      unfold m_x12_isVolume_J35
      unfold m_x12_isVolume_J36
      refine wp_bo (by have : (0 : Int) ≤ gI s 47 ∧ gI s 47 ≤ 1 := hRs.1 47; omega) ?_
      exact wp_some ⟨by show ((0 : Int) = 1 ∧ (0 ≤ p0 ∧ p0 < 8) ∧ gI s 47 ≠ 0 ∧ gA s 49 p0.toNat ≠ 255) ∨ (0 : Int) = 0; have : (0 : Int) ≤ gI s 47 ∧ gI s 47 ≤ 1 := hRs.1 47; omega, fun h9 => by unfold ivol; first | (exfalso; omega) | (rw [if_neg (fun w => w.1 (by assumption))]) | (rw [if_neg (fun w => w.2 (by rw [ey9]; assumption))]) | (rw [if_pos ⟨by assumption, by rw [ey9]; assumption⟩])⟩
    · skip
      refine wp_rdIn (by have : (0 : Int) ≤ gI s 47 ∧ gI s 47 ≤ 1 := hRs.1 47; omega) (fun y9 ey9 => ?_)
      have by9 : (-2147483648 : Int) ≤ y9 ∧ y9 ≤ 2147483647 := ey9 ▸ hRs.2.1 49 _ (by show _ < 906; have : (0 : Int) ≤ gI s 47 ∧ gI s 47 ≤ 1 := hRs.1 47; omega)
      have r9 : R2 y9 := ey9 ▸ R49 hRs (by omega)
      refine wp_rg (by have : (0 : Int) ≤ gI s 47 ∧ gI s 47 ≤ 1 := hRs.1 47; omega) ?_
      refine wp_if (fun c3 => ?_) (fun c3 => ?_)
      · skip
        unfold m_x12_isVolume_J35
        unfold m_x12_isVolume_J36
        refine wp_bo (by have : (0 : Int) ≤ gI s 47 ∧ gI s 47 ≤ 1 := hRs.1 47; omega) ?_
        exact wp_some ⟨by show ((0 : Int) = 1 ∧ (0 ≤ p0 ∧ p0 < 8) ∧ gI s 47 ≠ 0 ∧ gA s 49 p0.toNat ≠ 255) ∨ (0 : Int) = 0; have : (0 : Int) ≤ gI s 47 ∧ gI s 47 ≤ 1 := hRs.1 47; omega, fun h9 => by unfold ivol; first | (exfalso; omega) | (rw [if_neg (fun w => w.1 (by assumption))]) | (rw [if_neg (fun w => w.2 (by rw [ey9]; assumption))]) | (rw [if_pos ⟨by assumption, by rw [ey9]; assumption⟩])⟩
      · skip
        unfold m_x12_isVolume_J36
        refine wp_bo (by have : (0 : Int) ≤ gI s 47 ∧ gI s 47 ≤ 1 := hRs.1 47; omega) ?_
        exact wp_some ⟨by show ((1 : Int) = 1 ∧ (0 ≤ p0 ∧ p0 < 8) ∧ gI s 47 ≠ 0 ∧ gA s 49 p0.toNat ≠ 255) ∨ (1 : Int) = 0; have : (0 : Int) ≤ gI s 47 ∧ gI s 47 ≤ 1 := hRs.1 47; omega, fun h9 => by unfold ivol; first | (exfalso; omega) | (rw [if_neg (fun w => w.1 (by assumption))]) | (rw [if_neg (fun w => w.2 (by rw [ey9]; assumption))]) | (rw [if_pos ⟨by assumption, by rw [ey9]; assumption⟩])⟩
set_option maxHeartbeats 1000000 in
theorem wv_x12_volumeMany {s : MS} (hRs : Rr s) : wp (m_x12_volumeMany s) (fun r => (r = sm 8 (ivol s)) ∧ (0 ≤ r ∧ r ≤ 8)) := by
  unfold m_x12_volumeMany
  have L4 : ∀ (n : Nat) (x1 : Int) (x2 : Int), (0 ≤ x1 ∧ x1 ≤ x2 ∧ x2 ≤ 8) → (x1 = sm x2.toNat (ivol s)) → (8 - x2) < (n : Int) → wp (m_x12_volumeMany_L4 s n x1 x2) (fun r => (r = sm 8 (ivol s)) ∧ (0 ≤ r ∧ r ≤ 8)) := by
    refine fr_ind (fun x1 x2 hv4_0 hv4_1 hm4 => ?_) (fun n4 ih4 x1 x2 hv4_0 hv4_1 hm4 => ?_)
    · exfalso; omega
    · show wp (m_x12_volumeMany_b4 s (m_x12_volumeMany_L4 s n4) x1 x2) _
      unfold m_x12_volumeMany_b4
      refine wp_rg (by omega) ?_
      refine wp_if (fun c1 => ?_) (fun c1 => ?_)
      · skip
        exact wp_some ⟨by rw [hv4_1, show x2.toNat = 8 by omega], by show 0 ≤ x1 ∧ x1 ≤ 8; omega⟩
      · skip
        refine wp_rg (by omega) ?_
        refine wp_bn (wv_x12_isVolume hRs (by show R8 x2; omega)) (fun r9 er9 hr9 => ?_)
        obtain ⟨hr9_0, hr9_1⟩ := hr9
        have hr9_0 : (r9 = 1 ∧ (0 ≤ x2 ∧ x2 < 8) ∧ gI s 47 ≠ 0 ∧ gA s 49 x2.toNat ≠ 255) ∨ r9 = 0 := hr9_0
        have hr9_1 : 0 ≤ x2 ∧ x2 < 8 → r9 = ivol s x2.toNat := hr9_1
        refine wp_rg (by have : (0 : Int) ≤ gI s 47 ∧ gI s 47 ≤ 1 := hRs.1 47; omega) ?_
        refine wp_if (fun c2 => ?_) (fun c2 => ?_)
        · skip
          unfold m_x12_volumeMany_J22
          exact ih4 x1 (x2 + 1) (by show 0 ≤ x1 ∧ x1 ≤ (x2 + 1) ∧ (x2 + 1) ≤ 8; have : (0 : Int) ≤ gI s 47 ∧ gI s 47 ≤ 1 := hRs.1 47; omega) (by rw [show ((x2 + 1)).toNat = x2.toNat + 1 by omega, sm_s, ← hv4_1]; have z := hr9_1 (by omega); omega) (by have : (0 : Int) ≤ gI s 47 ∧ gI s 47 ≤ 1 := hRs.1 47; omega)
        · skip
          unfold m_x12_volumeMany_J22
          exact ih4 (x1 + 1) (x2 + 1) (by show 0 ≤ (x1 + 1) ∧ (x1 + 1) ≤ (x2 + 1) ∧ (x2 + 1) ≤ 8; have : (0 : Int) ≤ gI s 47 ∧ gI s 47 ≤ 1 := hRs.1 47; omega) (by rw [show ((x2 + 1)).toNat = x2.toNat + 1 by omega, sm_s, ← hv4_1]; have z := hr9_1 (by omega); omega) (by have : (0 : Int) ≤ gI s 47 ∧ gI s 47 ≤ 1 := hRs.1 47; omega)
  exact L4 FU 0 0 (by show 0 ≤ (0 : Int) ∧ (0 : Int) ≤ (0 : Int) ∧ (0 : Int) ≤ 8; omega) (rfl) (by have := FU_big; have := FU_big2; omega)
set_option maxHeartbeats 1000000 in
theorem w_x12_volumeAt {p0 : Int} {s : MS} (hRs : Rr s) (hp0 : 0 ≤ p0 ∧ p0 < sm 8 (ivol s)) : wp (m_x12_volumeAt p0 s) (fun r => ((0 ≤ r ∧ r < 8) ∧ gI s 47 ≠ 0 ∧ gA s 49 r.toNat ≠ 255)) := by
  unfold m_x12_volumeAt
  have L4 : ∀ (n : Nat) (x1 : Int) (x2 : Int), (0 ≤ x1 ∧ x1 ≤ 8) → (0 ≤ x2 ∧ x2 + sm x1.toNat (ivol s) = p0) → (8 - x1) < (n : Int) → wp (m_x12_volumeAt_L4 s n x1 x2) (fun r => ((0 ≤ r ∧ r < 8) ∧ gI s 47 ≠ 0 ∧ gA s 49 r.toNat ≠ 255)) := by
    refine fr_ind (fun x1 x2 hv4_0 hv4_1 hm4 => ?_) (fun n4 ih4 x1 x2 hv4_0 hv4_1 hm4 => ?_)
    · exfalso; omega
    · show wp (m_x12_volumeAt_b4 s (m_x12_volumeAt_L4 s n4) x1 x2) _
      unfold m_x12_volumeAt_b4
      have kn := sm_nn (n := x1.toNat) (f := ivol s) (fun u _ => by have z := ivol_01 s u; omega)
      have k88 := sm_bd (n := 8) (c := 1) (f := ivol s) (fun u _ => by have z := ivol_01 s u; omega)
      have k8 : x1 ≠ 8 := fun z => by have z2 := hv4_1.2; rw [z] at z2; have z3 : sm (8 : Int).toNat (ivol s) = sm 8 (ivol s) := rfl; omega
      refine wp_rg (by omega) ?_
      refine wp_if (fun c1 => ?_) (fun c1 => ?_)
      · skip
        unfold m_x12_volumeAt_J17
        refine wp_rg (by omega) ?_
        refine wp_bn (wv_x12_isVolume hRs (by show R8 x1; omega)) (fun r9 er9 hr9 => ?_)
        obtain ⟨hr9_0, hr9_1⟩ := hr9
        have hr9_0 : (r9 = 1 ∧ (0 ≤ x1 ∧ x1 < 8) ∧ gI s 47 ≠ 0 ∧ gA s 49 x1.toNat ≠ 255) ∨ r9 = 0 := hr9_0
        have hr9_1 : 0 ≤ x1 ∧ x1 < 8 → r9 = ivol s x1.toNat := hr9_1
        refine wp_rg (by have : (0 : Int) ≤ gI s 47 ∧ gI s 47 ≤ 1 := hRs.1 47; omega) ?_
        refine wp_if (fun c2 => ?_) (fun c2 => ?_)
        · skip
          unfold m_x12_volumeAt_J29
          exact ih4 (x1 + 1) x2 (by show 0 ≤ (x1 + 1) ∧ (x1 + 1) ≤ 8; have : (0 : Int) ≤ gI s 47 ∧ gI s 47 ≤ 1 := hRs.1 47; omega) (by rw [show ((x1 + 1)).toNat = x1.toNat + 1 by omega, sm_s]; have z := hr9_1 (by omega); have z1 := ivol_01 s x1.toNat; omega) (by have : (0 : Int) ≤ gI s 47 ∧ gI s 47 ≤ 1 := hRs.1 47; omega)
        · skip
          unfold m_x12_volumeAt_J29
          exact ih4 (x1 + 1) (x2 + (-1)) (by show 0 ≤ (x1 + 1) ∧ (x1 + 1) ≤ 8; have : (0 : Int) ≤ gI s 47 ∧ gI s 47 ≤ 1 := hRs.1 47; omega) (by rw [show ((x1 + 1)).toNat = x1.toNat + 1 by omega, sm_s]; have z := hr9_1 (by omega); have z1 := ivol_01 s x1.toNat; omega) (by have : (0 : Int) ≤ gI s 47 ∧ gI s 47 ≤ 1 := hRs.1 47; omega)
      · skip
        refine wp_rg (by omega) ?_
        refine wp_bn (wv_x12_isVolume hRs (by show R8 x1; omega)) (fun r16 er16 hr16 => ?_)
        obtain ⟨hr16_0, hr16_1⟩ := hr16
        have hr16_0 : (r16 = 1 ∧ (0 ≤ x1 ∧ x1 < 8) ∧ gI s 47 ≠ 0 ∧ gA s 49 x1.toNat ≠ 255) ∨ r16 = 0 := hr16_0
        have hr16_1 : 0 ≤ x1 ∧ x1 < 8 → r16 = ivol s x1.toNat := hr16_1
        refine wp_rg (by have : (0 : Int) ≤ gI s 47 ∧ gI s 47 ≤ 1 := hRs.1 47; omega) ?_
        refine wp_if (fun c3 => ?_) (fun c3 => ?_)
        · skip
          unfold m_x12_volumeAt_J17
          refine wp_rg (by have : (0 : Int) ≤ gI s 47 ∧ gI s 47 ≤ 1 := hRs.1 47; omega) ?_
          refine wp_bn (wv_x12_isVolume hRs (by show R8 x1; have : (0 : Int) ≤ gI s 47 ∧ gI s 47 ≤ 1 := hRs.1 47; omega)) (fun r9 er9 hr9 => ?_)
          obtain ⟨hr9_0, hr9_1⟩ := hr9
          have hr9_0 : (r9 = 1 ∧ (0 ≤ x1 ∧ x1 < 8) ∧ gI s 47 ≠ 0 ∧ gA s 49 x1.toNat ≠ 255) ∨ r9 = 0 := hr9_0
          have hr9_1 : 0 ≤ x1 ∧ x1 < 8 → r9 = ivol s x1.toNat := hr9_1
          refine wp_rg (by have : (0 : Int) ≤ gI s 47 ∧ gI s 47 ≤ 1 := hRs.1 47; omega) ?_
          refine wp_if (fun c4 => ?_) (fun c4 => ?_)
          · skip
            unfold m_x12_volumeAt_J29
            exact ih4 (x1 + 1) x2 (by show 0 ≤ (x1 + 1) ∧ (x1 + 1) ≤ 8; have : (0 : Int) ≤ gI s 47 ∧ gI s 47 ≤ 1 := hRs.1 47; omega) (by rw [show ((x1 + 1)).toNat = x1.toNat + 1 by omega, sm_s]; have z := hr9_1 (by omega); have z1 := ivol_01 s x1.toNat; omega) (by have : (0 : Int) ≤ gI s 47 ∧ gI s 47 ≤ 1 := hRs.1 47; omega)
          · skip
            unfold m_x12_volumeAt_J29
            exact ih4 (x1 + 1) (x2 + (-1)) (by show 0 ≤ (x1 + 1) ∧ (x1 + 1) ≤ 8; have : (0 : Int) ≤ gI s 47 ∧ gI s 47 ≤ 1 := hRs.1 47; omega) (by rw [show ((x1 + 1)).toNat = x1.toNat + 1 by omega, sm_s]; have z := hr9_1 (by omega); have z1 := ivol_01 s x1.toNat; omega) (by have : (0 : Int) ≤ gI s 47 ∧ gI s 47 ≤ 1 := hRs.1 47; omega)
        · skip
          exact wp_some (by show (0 ≤ x1 ∧ x1 < 8) ∧ gI s 47 ≠ 0 ∧ gA s 49 x1.toNat ≠ 255; have : (0 : Int) ≤ gI s 47 ∧ gI s 47 ≤ 1 := hRs.1 47; omega)
  exact L4 FU 0 p0 (by show 0 ≤ (0 : Int) ∧ (0 : Int) ≤ 8; omega) (⟨by omega, by show p0 + (0 : Int) = p0; omega⟩) (by have := FU_big; have := FU_big2; omega)
set_option maxHeartbeats 1000000 in
theorem w_x12_drawOf {p0 : Int} {s : MS} (hRs : Rr s) (hp0 : 0 ≤ gL s 78 ∧ gL s 78 ≤ 2147483647) (hp1 : 1 ≤ p0 ∧ p0 ≤ 100) : wp (m_x12_drawOf p0 s) (fun q => (Rr q.2) ∧ (0 ≤ q.1 ∧ q.1 < p0) ∧ (0 ≤ gL q.2 78 ∧ gL q.2 78 ≤ 2147483647)) := by
  have km : Int.tmod (1103515245 * gL s 78 + 12345) 2147483648 = (1103515245 * gL s 78 + 12345) % 2147483648 := Int.tmod_eq_emod_of_nonneg (by omega)
  unfold m_x12_drawOf
  refine wp_dvL (by omega) ?_
  refine wp_stn (fun s2 es2 => ?_)
  have hRs2 : Rr s2 := es2 ▸ Rr.uL hRs (by rw [km]; omega)
  have kL : gL s2 78 = (1103515245 * gL s 78 + 12345) % 2147483648 := (q_LL es2).trans km
  have kd : Int.tdiv (gL s2 78) 64 = gL s2 78 / 64 := Int.tdiv_eq_ediv_of_nonneg (by omega)
  have kt1 := Int.tmod_nonneg (a := Int.tdiv (gL s2 78) 64) p0 (by omega)
  have kt2 := Int.tmod_lt_of_pos (Int.tdiv (gL s2 78) 64) (b := p0) (by omega)
  refine wp_dvL (by omega) ?_
  refine wp_rg (by omega) ?_
  refine wp_dvL (by omega) ?_
  exact wp_some ⟨hRs2, by show 0 ≤ (Int.tmod (Int.tdiv (gL s2 78) 64) p0) ∧ (Int.tmod (Int.tdiv (gL s2 78) 64) p0) < p0; omega, by show 0 ≤ gL s2 78 ∧ gL s2 78 ≤ 2147483647; omega⟩
set_option maxHeartbeats 1000000 in
theorem w_x12_freeNumber {s : MS} (hRs : Rr s) : wp (m_x12_freeNumber s) (fun r => ((0 ≤ r ∧ r ≤ 8) ∧ (r < 8 → gA s 49 r.toNat = 255))) := by
  unfold m_x12_freeNumber
  have L2 : ∀ (n : Nat) (x2 : Int), (0 ≤ x2 ∧ x2 ≤ 8) → (8 - x2) < (n : Int) → wp (m_x12_freeNumber_L2 s n x2) (fun r => ((0 ≤ r ∧ r ≤ 8) ∧ (r < 8 → gA s 49 r.toNat = 255))) := by
    refine fr_ind (fun x2 hv2_0 hm2 => ?_) (fun n2 ih2 x2 hv2_0 hm2 => ?_)
    · exfalso; omega
    · show wp (m_x12_freeNumber_b2 s (m_x12_freeNumber_L2 s n2) x2) _
      unfold m_x12_freeNumber_b2
      refine wp_rg (by omega) ?_
      refine wp_if (fun c1 => ?_) (fun c1 => ?_)
      · skip
        unfold m_x12_freeNumber_J26
        exact wp_some (⟨by omega, fun h9 => by first | (exfalso; omega) | (rw [ey5]; assumption)⟩)
      · skip
        refine wp_rdIn (by omega) (fun y5 ey5 => ?_)
        have by5 : (-2147483648 : Int) ≤ y5 ∧ y5 ≤ 2147483647 := ey5 ▸ hRs.2.1 49 _ (by show _ < 906; omega)
        have r5 : R2 y5 := ey5 ▸ R49 hRs (by omega)
        refine wp_rg (by omega) ?_
        refine wp_if (fun c2 => ?_) (fun c2 => ?_)
        · skip
          unfold m_x12_freeNumber_J26
          exact wp_some (⟨by omega, fun h9 => by first | (exfalso; omega) | (rw [ey5]; assumption)⟩)
        · skip
          exact ih2 (x2 + 1) (by show 0 ≤ (x2 + 1) ∧ (x2 + 1) ≤ 8; omega) (by omega)
  exact L2 FU 0 (by show 0 ≤ (0 : Int) ∧ (0 : Int) ≤ 8; omega) (by have := FU_big; have := FU_big2; omega)
set_option maxHeartbeats 1000000 in
theorem w_x12_put {p0 : Int} {p1 : Int} {p2 : Int} {s : MS} (hRs : Rr s) (hp0 : R2 p0) (hp1 : R2 p1) (hp2 : R2 p2) (hp3 : JI s) : wp (m_x12_put p0 p1 p2 s) (fun q => (Rr q.2) ∧ (JI q.2) ∧ (gI q.2 1 = gI s 1)) := by
  have hpJ := hp3
  unfold m_x12_put
  refine wp_rg (by omega) ?_
  refine wp_bn (wv_x12_isVolume hRs (by show R8 p0; omega)) (fun r7 er7 hr7 => ?_)
  obtain ⟨hr7_0, hr7_1⟩ := hr7
  have hr7_0 : (r7 = 1 ∧ (0 ≤ p0 ∧ p0 < 8) ∧ gI s 47 ≠ 0 ∧ gA s 49 p0.toNat ≠ 255) ∨ r7 = 0 := hr7_0
  have hr7_1 : 0 ≤ p0 ∧ p0 < 8 → r7 = ivol s p0.toNat := hr7_1
  refine wp_rg (by have : (0 : Int) ≤ gI s 47 ∧ gI s 47 ≤ 1 := hRs.1 47; omega) ?_
  refine wp_if (fun c1 => ?_) (fun c1 => ?_)
  · skip
    unfold m_x12_put_J33
    refine wp_bn (w_x12_refuses hRs (by show 0 ≤ (2 : Int) ∧ (2 : Int) < 6; have : (0 : Int) ≤ gI s 47 ∧ gI s 47 ≤ 1 := hRs.1 47; omega)) (fun qqr4 eqr4s hqr4s => ?_)
    obtain ⟨qr4r, qr4s⟩ := qqr4
    dsimp only at eqr4s hqr4s ⊢
    have Fqr4s : F_x12_refuses s qr4s := fr_x12_refuses eqr4s
    obtain ⟨hRqr4s, hqr4s_0⟩ := hqr4s
    have hqr4s_0 : qr4r = -1 := hqr4s_0
    exact wp_some ⟨hRqr4s, by show JI qr4s; exact (JI_eq hpJ ⟨(Fqr4s.2.1 39 (by decide)), (Fqr4s.2.1 42 (by decide)), (Fqr4s.2.1 43 (by decide)), (Fqr4s.2.1 44 (by decide))⟩ (Fqr4s.2.1 49 (by decide)) (Fqr4s.2.1 75 (by decide)) (Fqr4s.1 76 (by decide)) (Fqr4s.1 77 (by decide)) (Fqr4s.1 47 (by decide)) (Fqr4s.2.2.1 78 (by decide))), by show gI qr4s 1 = gI s 1; have : (0 : Int) ≤ gI s 47 ∧ gI s 47 ≤ 1 := hRs.1 47; have : (0 : Int) ≤ gI s 1 ∧ gI s 1 ≤ 1600 := hRs.1 1; have : gI qr4s 1 = gI s 1 := Fqr4s.1 1 (by decide); omega⟩
  · skip
    refine wp_rg (by have : (0 : Int) ≤ gI s 47 ∧ gI s 47 ≤ 1 := hRs.1 47; omega) ?_
    refine wp_bn (w_x12_isIn hRs (by show R8 p1; have : (0 : Int) ≤ gI s 47 ∧ gI s 47 ≤ 1 := hRs.1 47; omega) (by show R8 (0 : Int); have : (0 : Int) ≤ gI s 47 ∧ gI s 47 ≤ 1 := hRs.1 47; omega) (by show R8 (999 : Int); have : (0 : Int) ≤ gI s 47 ∧ gI s 47 ≤ 1 := hRs.1 47; omega)) (fun r12 er12 hr12 => ?_)
    have hr12_0 := hr12
    have hr12_0 : (r12 = 1 ∧ (0 : Int) ≤ p1 ∧ p1 ≤ (999 : Int)) ∨ (r12 = 0 ∧ (p1 < (0 : Int) ∨ (999 : Int) < p1)) := hr12_0
    refine wp_rg (by have : (0 : Int) ≤ gI s 47 ∧ gI s 47 ≤ 1 := hRs.1 47; omega) ?_
    refine wp_if (fun c2 => ?_) (fun c2 => ?_)
    · skip
      unfold m_x12_put_J33
      refine wp_bn (w_x12_refuses hRs (by show 0 ≤ (2 : Int) ∧ (2 : Int) < 6; have : (0 : Int) ≤ gI s 47 ∧ gI s 47 ≤ 1 := hRs.1 47; omega)) (fun qqr4 eqr4s hqr4s => ?_)
      obtain ⟨qr4r, qr4s⟩ := qqr4
      dsimp only at eqr4s hqr4s ⊢
      have Fqr4s : F_x12_refuses s qr4s := fr_x12_refuses eqr4s
      obtain ⟨hRqr4s, hqr4s_0⟩ := hqr4s
      have hqr4s_0 : qr4r = -1 := hqr4s_0
      exact wp_some ⟨hRqr4s, by show JI qr4s; exact (JI_eq hpJ ⟨(Fqr4s.2.1 39 (by decide)), (Fqr4s.2.1 42 (by decide)), (Fqr4s.2.1 43 (by decide)), (Fqr4s.2.1 44 (by decide))⟩ (Fqr4s.2.1 49 (by decide)) (Fqr4s.2.1 75 (by decide)) (Fqr4s.1 76 (by decide)) (Fqr4s.1 77 (by decide)) (Fqr4s.1 47 (by decide)) (Fqr4s.2.2.1 78 (by decide))), by show gI qr4s 1 = gI s 1; have : (0 : Int) ≤ gI s 47 ∧ gI s 47 ≤ 1 := hRs.1 47; have : (0 : Int) ≤ gI s 1 ∧ gI s 1 ≤ 1600 := hRs.1 1; have : gI qr4s 1 = gI s 1 := Fqr4s.1 1 (by decide); omega⟩
    · skip
      refine wp_rg (by have : (0 : Int) ≤ gI s 47 ∧ gI s 47 ≤ 1 := hRs.1 47; omega) ?_
      refine wp_bn (w_x12_isIn hRs (by show R8 p2; have : (0 : Int) ≤ gI s 47 ∧ gI s 47 ≤ 1 := hRs.1 47; omega) (by show R8 (0 : Int); have : (0 : Int) ≤ gI s 47 ∧ gI s 47 ≤ 1 := hRs.1 47; omega) (by show R8 (999 : Int); have : (0 : Int) ≤ gI s 47 ∧ gI s 47 ≤ 1 := hRs.1 47; omega)) (fun r17 er17 hr17 => ?_)
      have hr17_0 := hr17
      have hr17_0 : (r17 = 1 ∧ (0 : Int) ≤ p2 ∧ p2 ≤ (999 : Int)) ∨ (r17 = 0 ∧ (p2 < (0 : Int) ∨ (999 : Int) < p2)) := hr17_0
      refine wp_rg (by have : (0 : Int) ≤ gI s 47 ∧ gI s 47 ≤ 1 := hRs.1 47; omega) ?_
      refine wp_if (fun c3 => ?_) (fun c3 => ?_)
      · skip
        unfold m_x12_put_J33
        refine wp_bn (w_x12_refuses hRs (by show 0 ≤ (2 : Int) ∧ (2 : Int) < 6; have : (0 : Int) ≤ gI s 47 ∧ gI s 47 ≤ 1 := hRs.1 47; omega)) (fun qqr4 eqr4s hqr4s => ?_)
        obtain ⟨qr4r, qr4s⟩ := qqr4
        dsimp only at eqr4s hqr4s ⊢
        have Fqr4s : F_x12_refuses s qr4s := fr_x12_refuses eqr4s
        obtain ⟨hRqr4s, hqr4s_0⟩ := hqr4s
        have hqr4s_0 : qr4r = -1 := hqr4s_0
        exact wp_some ⟨hRqr4s, by show JI qr4s; exact (JI_eq hpJ ⟨(Fqr4s.2.1 39 (by decide)), (Fqr4s.2.1 42 (by decide)), (Fqr4s.2.1 43 (by decide)), (Fqr4s.2.1 44 (by decide))⟩ (Fqr4s.2.1 49 (by decide)) (Fqr4s.2.1 75 (by decide)) (Fqr4s.1 76 (by decide)) (Fqr4s.1 77 (by decide)) (Fqr4s.1 47 (by decide)) (Fqr4s.2.2.1 78 (by decide))), by show gI qr4s 1 = gI s 1; have : (0 : Int) ≤ gI s 47 ∧ gI s 47 ≤ 1 := hRs.1 47; have : (0 : Int) ≤ gI s 1 ∧ gI s 1 ≤ 1600 := hRs.1 1; have : gI qr4s 1 = gI s 1 := Fqr4s.1 1 (by decide); omega⟩
      · skip
        refine wp_bn (w_x12_clearsTouched hRs) (fun s21 es21 hs21 => ?_)
        have Fs21 : F_x12_clearsTouched s s21 := fr_x12_clearsTouched es21
        have hRs21 := hs21
        have kt : gI s 47 ≠ 0 := by omega
        have kG := JI_GA hpJ kt
        have G21 : GA s21 := GA_eq kG ⟨(Fs21.2.1 39 (by decide)), (Fs21.2.1 42 (by decide)), (Fs21.2.1 43 (by decide)), (Fs21.2.1 44 (by decide))⟩ (Fs21.2.1 49 (by decide)) (Fs21.2.1 75 (by decide)) (Fs21.1 76 (by decide)) (Fs21.1 77 (by decide))
        have kb := kG.1.1.2 p0.toNat (by omega)
        refine wp_bn (w_x12_canBe hRs21 (by show (2 : Int) = 2 ∨ (2 : Int) = 3; have : (0 : Int) ≤ gI s 47 ∧ gI s 47 ≤ 1 := hRs.1 47; omega) (by show 0 ≤ p0 ∧ p0 < 8; have : (0 : Int) ≤ gI s 47 ∧ gI s 47 ≤ 1 := hRs.1 47; omega) (G21.1) (G21.2.1) (G21.2.2.1) (G21.2.2.2) (by rw [(Fs21.2.1 49 (by decide))]; omega) (by show (2 : Int) = 2 → (0 ≤ p1 ∧ p1 ≤ 999) ∧ (0 ≤ p2 ∧ p2 ≤ 999); have : (0 : Int) ≤ gI s 47 ∧ gI s 47 ≤ 1 := hRs.1 47; omega) (by show R2 p1; have : (0 : Int) ≤ gI s 47 ∧ gI s 47 ≤ 1 := hRs.1 47; omega) (by show R2 p2; have : (0 : Int) ≤ gI s 47 ∧ gI s 47 ≤ 1 := hRs.1 47; omega)) (fun qqr24 eqr24s hqr24s => ?_)
        obtain ⟨qr24r, qr24s⟩ := qqr24
        dsimp only at eqr24s hqr24s ⊢
        have Fqr24s : F_x12_canBe s21 qr24s := fr_x12_canBe eqr24s
        obtain ⟨hRqr24s, hqr24s_0, hqr24s_1, hqr24s_2, hqr24s_3, hqr24s_4⟩ := hqr24s
        have hqr24s_0 : qr24r = 0 ∨ qr24r = 1 := hqr24s_0
        have hqr24s_1 : GN qr24s := hqr24s_1
        have hqr24s_2 : JR qr24s := hqr24s_2
        have hqr24s_3 : 0 ≤ gA qr24s 49 16 ∧ gA qr24s 49 16 ≤ 999999 := hqr24s_3
        have hqr24s_4 : 0 ≤ gA qr24s 49 785 ∧ gA qr24s 49 785 ≤ 40 := hqr24s_4
        have G24 : GA qr24s := ⟨hqr24s_1, hqr24s_2, hqr24s_3, hqr24s_4⟩
        refine wp_rg (by have : (0 : Int) ≤ gI s 47 ∧ gI s 47 ≤ 1 := hRs.1 47; omega) ?_
        refine wp_if (fun c4 => ?_) (fun c4 => ?_)
        · skip
          refine wp_bn (w_x12_refuses hRqr24s (by show 0 ≤ (2 : Int) ∧ (2 : Int) < 6; have : (0 : Int) ≤ gI s 47 ∧ gI s 47 ≤ 1 := hRs.1 47; omega)) (fun qqr33 eqr33s hqr33s => ?_)
          obtain ⟨qr33r, qr33s⟩ := qqr33
          dsimp only at eqr33s hqr33s ⊢
          have Fqr33s : F_x12_refuses qr24s qr33s := fr_x12_refuses eqr33s
          obtain ⟨hRqr33s, hqr33s_0⟩ := hqr33s
          have hqr33s_0 : qr33r = -1 := hqr33s_0
          exact wp_some ⟨hRqr33s, by show JI qr33s; exact (GA_JI hpJ kt ((Fqr33s.2.1 39 (by decide)).trans ((Fqr24s.2.1 39 (by decide)).trans (Fs21.2.1 39 (by decide)))) (by rw [(((Fqr33s.2.2.1 78 (by decide)).trans ((Fqr24s.2.2.1 78 (by decide)).trans (Fs21.2.2.1 78 (by decide)))))]; exact hpJ.2.1) ((Fqr33s.1 47 (by decide)).trans ((Fqr24s.1 47 (by decide)).trans (Fs21.1 47 (by decide)))) (GA_eq G24 ⟨(Fqr33s.2.1 39 (by decide)), (Fqr33s.2.1 42 (by decide)), (Fqr33s.2.1 43 (by decide)), (Fqr33s.2.1 44 (by decide))⟩ (Fqr33s.2.1 49 (by decide)) (Fqr33s.2.1 75 (by decide)) (Fqr33s.1 76 (by decide)) (Fqr33s.1 77 (by decide)))), by show gI qr33s 1 = gI s 1; have : (0 : Int) ≤ gI s 47 ∧ gI s 47 ≤ 1 := hRs.1 47; have : (0 : Int) ≤ gI s 1 ∧ gI s 1 ≤ 1600 := hRs.1 1; have : gI qr33s 1 = gI qr24s 1 := Fqr33s.1 1 (by decide); have : gI qr24s 1 = gI s21 1 := Fqr24s.1 1 (by decide); have : gI s21 1 = gI s 1 := Fs21.1 1 (by decide); omega⟩
        · skip
          refine wp_bn (w_x12_isKept hRqr24s (G24.1) (by show R2 (0 : Int); have : (0 : Int) ≤ gI s 47 ∧ gI s 47 ≤ 1 := hRs.1 47; omega) (by show R2 p0; have : (0 : Int) ≤ gI s 47 ∧ gI s 47 ≤ 1 := hRs.1 47; omega) (G24.2.2.1) (G24.2.2.2)) (fun s28 es28 hs28 => ?_)
          have Fs28 : F_x12_isKept qr24s s28 := fr_x12_isKept es28
          obtain ⟨hRs28, hs28_0, hs28_1, hs28_2⟩ := hs28
          have hs28_0 : ∀ i, i < 785 → i ≠ 16 → gA s28 49 i = gA qr24s 49 i := hs28_0
          have hs28_1 : 0 ≤ gA s28 49 16 ∧ gA s28 49 16 ≤ 999999 := hs28_1
          have hs28_2 : 0 ≤ gA s28 49 785 ∧ gA s28 49 785 ≤ 40 := hs28_2
          have G28 : GA s28 := GA_kept G24 ⟨(Fs28.2.1 39 (by decide)), (Fs28.2.1 42 (by decide)), (Fs28.2.1 43 (by decide)), (Fs28.2.1 44 (by decide))⟩ hs28_0 hs28_1 hs28_2 (Fs28.2.1 75 (by decide)) (Fs28.1 76 (by decide)) (Fs28.1 77 (by decide))
          refine wp_bn (w_x12_writtenMany hRs28 (by have := G28.1.2.1.1; omega)) (fun r30 er30 hr30 => ?_)
          have hr30_0 := hr30
          have hr30_0 : 0 ≤ r30 ∧ r30 ≤ 48 := hr30_0
          exact wp_some ⟨hRs28, by show JI s28; exact (GA_JI hpJ kt ((Fs28.2.1 39 (by decide)).trans ((Fqr24s.2.1 39 (by decide)).trans (Fs21.2.1 39 (by decide)))) (by rw [(((Fs28.2.2.1 78 (by decide)).trans ((Fqr24s.2.2.1 78 (by decide)).trans (Fs21.2.2.1 78 (by decide)))))]; exact hpJ.2.1) ((Fs28.1 47 (by decide)).trans ((Fqr24s.1 47 (by decide)).trans (Fs21.1 47 (by decide)))) G28), by show gI s28 1 = gI s 1; have : (0 : Int) ≤ gI s 47 ∧ gI s 47 ≤ 1 := hRs.1 47; have : (0 : Int) ≤ gI s 1 ∧ gI s 1 ≤ 1600 := hRs.1 1; have : gI s28 1 = gI qr24s 1 := Fs28.1 1 (by decide); have : gI qr24s 1 = gI s21 1 := Fqr24s.1 1 (by decide); have : gI s21 1 = gI s 1 := Fs21.1 1 (by decide); omega⟩
set_option maxHeartbeats 1000000 in
theorem w_x12_remove {p0 : Int} {p1 : Int} {s : MS} (hRs : Rr s) (hp0 : R2 p0) (hp1 : R2 p1) (hp2 : JI s) : wp (m_x12_remove p0 p1 s) (fun q => (Rr q.2) ∧ (JI q.2) ∧ (gI q.2 1 = gI s 1)) := by
  have hpJ := hp2
  unfold m_x12_remove
  refine wp_rg (by omega) ?_
  refine wp_bn (wv_x12_isVolume hRs (by show R8 p0; omega)) (fun r3 er3 hr3 => ?_)
  obtain ⟨hr3_0, hr3_1⟩ := hr3
  have hr3_0 : (r3 = 1 ∧ (0 ≤ p0 ∧ p0 < 8) ∧ gI s 47 ≠ 0 ∧ gA s 49 p0.toNat ≠ 255) ∨ r3 = 0 := hr3_0
  have hr3_1 : 0 ≤ p0 ∧ p0 < 8 → r3 = ivol s p0.toNat := hr3_1
  refine wp_rg (by have : (0 : Int) ≤ gI s 47 ∧ gI s 47 ≤ 1 := hRs.1 47; omega) ?_
  refine wp_if (fun c1 => ?_) (fun c1 => ?_)
  · skip
    refine wp_bn (w_x12_refuses hRs (by show 0 ≤ (2 : Int) ∧ (2 : Int) < 6; have : (0 : Int) ≤ gI s 47 ∧ gI s 47 ≤ 1 := hRs.1 47; omega)) (fun qqr22 eqr22s hqr22s => ?_)
    obtain ⟨qr22r, qr22s⟩ := qqr22
    dsimp only at eqr22s hqr22s ⊢
    have Fqr22s : F_x12_refuses s qr22s := fr_x12_refuses eqr22s
    obtain ⟨hRqr22s, hqr22s_0⟩ := hqr22s
    have hqr22s_0 : qr22r = -1 := hqr22s_0
    exact wp_some ⟨hRqr22s, by show JI qr22s; exact (JI_eq hpJ ⟨(Fqr22s.2.1 39 (by decide)), (Fqr22s.2.1 42 (by decide)), (Fqr22s.2.1 43 (by decide)), (Fqr22s.2.1 44 (by decide))⟩ (Fqr22s.2.1 49 (by decide)) (Fqr22s.2.1 75 (by decide)) (Fqr22s.1 76 (by decide)) (Fqr22s.1 77 (by decide)) (Fqr22s.1 47 (by decide)) (Fqr22s.2.2.1 78 (by decide))), by show gI qr22s 1 = gI s 1; have : (0 : Int) ≤ gI s 47 ∧ gI s 47 ≤ 1 := hRs.1 47; have : (0 : Int) ≤ gI s 1 ∧ gI s 1 ≤ 1600 := hRs.1 1; have : gI qr22s 1 = gI s 1 := Fqr22s.1 1 (by decide); omega⟩
  · skip
    refine wp_bn (w_x12_clearsTouched hRs) (fun s7 es7 hs7 => ?_)
    have Fs7 : F_x12_clearsTouched s s7 := fr_x12_clearsTouched es7
    have hRs7 := hs7
    have kt : gI s 47 ≠ 0 := by omega
    have kG := JI_GA hpJ kt
    have G7 : GA s7 := GA_eq kG ⟨(Fs7.2.1 39 (by decide)), (Fs7.2.1 42 (by decide)), (Fs7.2.1 43 (by decide)), (Fs7.2.1 44 (by decide))⟩ (Fs7.2.1 49 (by decide)) (Fs7.2.1 75 (by decide)) (Fs7.1 76 (by decide)) (Fs7.1 77 (by decide))
    have kb := kG.1.1.2 p0.toNat (by omega)
    refine wp_bn (w_x12_canBe hRs7 (by show (3 : Int) = 2 ∨ (3 : Int) = 3; have : (0 : Int) ≤ gI s 47 ∧ gI s 47 ≤ 1 := hRs.1 47; omega) (by show 0 ≤ p0 ∧ p0 < 8; have : (0 : Int) ≤ gI s 47 ∧ gI s 47 ≤ 1 := hRs.1 47; omega) (G7.1) (G7.2.1) (G7.2.2.1) (G7.2.2.2) (by rw [(Fs7.2.1 49 (by decide))]; omega) (fun h9 => absurd h9 (by decide)) (by show R2 p1; have : (0 : Int) ≤ gI s 47 ∧ gI s 47 ≤ 1 := hRs.1 47; omega) (by show R2 (0 : Int); have : (0 : Int) ≤ gI s 47 ∧ gI s 47 ≤ 1 := hRs.1 47; omega)) (fun qqr10 eqr10s hqr10s => ?_)
    obtain ⟨qr10r, qr10s⟩ := qqr10
    dsimp only at eqr10s hqr10s ⊢
    have Fqr10s : F_x12_canBe s7 qr10s := fr_x12_canBe eqr10s
    obtain ⟨hRqr10s, hqr10s_0, hqr10s_1, hqr10s_2, hqr10s_3, hqr10s_4⟩ := hqr10s
    have hqr10s_0 : qr10r = 0 ∨ qr10r = 1 := hqr10s_0
    have hqr10s_1 : GN qr10s := hqr10s_1
    have hqr10s_2 : JR qr10s := hqr10s_2
    have hqr10s_3 : 0 ≤ gA qr10s 49 16 ∧ gA qr10s 49 16 ≤ 999999 := hqr10s_3
    have hqr10s_4 : 0 ≤ gA qr10s 49 785 ∧ gA qr10s 49 785 ≤ 40 := hqr10s_4
    have G10 : GA qr10s := ⟨hqr10s_1, hqr10s_2, hqr10s_3, hqr10s_4⟩
    refine wp_rg (by have : (0 : Int) ≤ gI s 47 ∧ gI s 47 ≤ 1 := hRs.1 47; omega) ?_
    refine wp_if (fun c2 => ?_) (fun c2 => ?_)
    · skip
      refine wp_bn (w_x12_refuses hRqr10s (by show 0 ≤ (2 : Int) ∧ (2 : Int) < 6; have : (0 : Int) ≤ gI s 47 ∧ gI s 47 ≤ 1 := hRs.1 47; omega)) (fun qqr19 eqr19s hqr19s => ?_)
      obtain ⟨qr19r, qr19s⟩ := qqr19
      dsimp only at eqr19s hqr19s ⊢
      have Fqr19s : F_x12_refuses qr10s qr19s := fr_x12_refuses eqr19s
      obtain ⟨hRqr19s, hqr19s_0⟩ := hqr19s
      have hqr19s_0 : qr19r = -1 := hqr19s_0
      exact wp_some ⟨hRqr19s, by show JI qr19s; exact (GA_JI hpJ kt ((Fqr19s.2.1 39 (by decide)).trans ((Fqr10s.2.1 39 (by decide)).trans (Fs7.2.1 39 (by decide)))) (by rw [(((Fqr19s.2.2.1 78 (by decide)).trans ((Fqr10s.2.2.1 78 (by decide)).trans (Fs7.2.2.1 78 (by decide)))))]; exact hpJ.2.1) ((Fqr19s.1 47 (by decide)).trans ((Fqr10s.1 47 (by decide)).trans (Fs7.1 47 (by decide)))) (GA_eq G10 ⟨(Fqr19s.2.1 39 (by decide)), (Fqr19s.2.1 42 (by decide)), (Fqr19s.2.1 43 (by decide)), (Fqr19s.2.1 44 (by decide))⟩ (Fqr19s.2.1 49 (by decide)) (Fqr19s.2.1 75 (by decide)) (Fqr19s.1 76 (by decide)) (Fqr19s.1 77 (by decide)))), by show gI qr19s 1 = gI s 1; have : (0 : Int) ≤ gI s 47 ∧ gI s 47 ≤ 1 := hRs.1 47; have : (0 : Int) ≤ gI s 1 ∧ gI s 1 ≤ 1600 := hRs.1 1; have : gI qr19s 1 = gI qr10s 1 := Fqr19s.1 1 (by decide); have : gI qr10s 1 = gI s7 1 := Fqr10s.1 1 (by decide); have : gI s7 1 = gI s 1 := Fs7.1 1 (by decide); omega⟩
    · skip
      refine wp_bn (w_x12_isKept hRqr10s (G10.1) (by show R2 (1 : Int); have : (0 : Int) ≤ gI s 47 ∧ gI s 47 ≤ 1 := hRs.1 47; omega) (by show R2 p0; have : (0 : Int) ≤ gI s 47 ∧ gI s 47 ≤ 1 := hRs.1 47; omega) (G10.2.2.1) (G10.2.2.2)) (fun s14 es14 hs14 => ?_)
      have Fs14 : F_x12_isKept qr10s s14 := fr_x12_isKept es14
      obtain ⟨hRs14, hs14_0, hs14_1, hs14_2⟩ := hs14
      have hs14_0 : ∀ i, i < 785 → i ≠ 16 → gA s14 49 i = gA qr10s 49 i := hs14_0
      have hs14_1 : 0 ≤ gA s14 49 16 ∧ gA s14 49 16 ≤ 999999 := hs14_1
      have hs14_2 : 0 ≤ gA s14 49 785 ∧ gA s14 49 785 ≤ 40 := hs14_2
      have G14 : GA s14 := GA_kept G10 ⟨(Fs14.2.1 39 (by decide)), (Fs14.2.1 42 (by decide)), (Fs14.2.1 43 (by decide)), (Fs14.2.1 44 (by decide))⟩ hs14_0 hs14_1 hs14_2 (Fs14.2.1 75 (by decide)) (Fs14.1 76 (by decide)) (Fs14.1 77 (by decide))
      refine wp_bn (w_x12_writtenMany hRs14 (by have := G14.1.2.1.1; omega)) (fun r16 er16 hr16 => ?_)
      have hr16_0 := hr16
      have hr16_0 : 0 ≤ r16 ∧ r16 ≤ 48 := hr16_0
      exact wp_some ⟨hRs14, by show JI s14; exact (GA_JI hpJ kt ((Fs14.2.1 39 (by decide)).trans ((Fqr10s.2.1 39 (by decide)).trans (Fs7.2.1 39 (by decide)))) (by rw [(((Fs14.2.2.1 78 (by decide)).trans ((Fqr10s.2.2.1 78 (by decide)).trans (Fs7.2.2.1 78 (by decide)))))]; exact hpJ.2.1) ((Fs14.1 47 (by decide)).trans ((Fqr10s.1 47 (by decide)).trans (Fs7.1 47 (by decide)))) G14), by show gI s14 1 = gI s 1; have : (0 : Int) ≤ gI s 47 ∧ gI s 47 ≤ 1 := hRs.1 47; have : (0 : Int) ≤ gI s 1 ∧ gI s 1 ≤ 1600 := hRs.1 1; have : gI s14 1 = gI qr10s 1 := Fs14.1 1 (by decide); have : gI qr10s 1 = gI s7 1 := Fqr10s.1 1 (by decide); have : gI s7 1 = gI s 1 := Fs7.1 1 (by decide); omega⟩
set_option maxHeartbeats 1000000 in
theorem w_x12_copy {p0 : Int} {s : MS} (hRs : Rr s) (hp0 : R2 p0) (hp1 : JI s) : wp (m_x12_copy p0 s) (fun q => (Rr q.2) ∧ (JI q.2) ∧ (gI q.2 1 = gI s 1)) := by
  have hpJ := hp1
  unfold m_x12_copy
  refine wp_bn (w_x12_freeNumber hRs) (fun r6 er6 hr6 => ?_)
  have hr6_0 := hr6
  have hr6_0 : (0 ≤ r6 ∧ r6 ≤ 8) ∧ (r6 < 8 → gA s 49 r6.toNat = 255) := hr6_0
  refine wp_rg (by omega) ?_
  refine wp_bn (wv_x12_isVolume hRs (by show R8 p0; omega)) (fun r9 er9 hr9 => ?_)
  obtain ⟨hr9_0, hr9_1⟩ := hr9
  have hr9_0 : (r9 = 1 ∧ (0 ≤ p0 ∧ p0 < 8) ∧ gI s 47 ≠ 0 ∧ gA s 49 p0.toNat ≠ 255) ∨ r9 = 0 := hr9_0
  have hr9_1 : 0 ≤ p0 ∧ p0 < 8 → r9 = ivol s p0.toNat := hr9_1
  refine wp_rg (by have : (0 : Int) ≤ gI s 47 ∧ gI s 47 ≤ 1 := hRs.1 47; omega) ?_
  refine wp_if (fun c1 => ?_) (fun c1 => ?_)
  · skip
    unfold m_x12_copy_J20
    refine wp_bn (w_x12_refuses hRs (by show 0 ≤ (2 : Int) ∧ (2 : Int) < 6; have : (0 : Int) ≤ gI s 47 ∧ gI s 47 ≤ 1 := hRs.1 47; omega)) (fun qqr4 eqr4s hqr4s => ?_)
    obtain ⟨qr4r, qr4s⟩ := qqr4
    dsimp only at eqr4s hqr4s ⊢
    have Fqr4s : F_x12_refuses s qr4s := fr_x12_refuses eqr4s
    obtain ⟨hRqr4s, hqr4s_0⟩ := hqr4s
    have hqr4s_0 : qr4r = -1 := hqr4s_0
    exact wp_some ⟨hRqr4s, by show JI qr4s; exact (JI_eq hpJ ⟨(Fqr4s.2.1 39 (by decide)), (Fqr4s.2.1 42 (by decide)), (Fqr4s.2.1 43 (by decide)), (Fqr4s.2.1 44 (by decide))⟩ (Fqr4s.2.1 49 (by decide)) (Fqr4s.2.1 75 (by decide)) (Fqr4s.1 76 (by decide)) (Fqr4s.1 77 (by decide)) (Fqr4s.1 47 (by decide)) (Fqr4s.2.2.1 78 (by decide))), by show gI qr4s 1 = gI s 1; have : (0 : Int) ≤ gI s 47 ∧ gI s 47 ≤ 1 := hRs.1 47; have : (0 : Int) ≤ gI s 1 ∧ gI s 1 ≤ 1600 := hRs.1 1; have : gI qr4s 1 = gI s 1 := Fqr4s.1 1 (by decide); omega⟩
  · skip
    refine wp_rg (by have : (0 : Int) ≤ gI s 47 ∧ gI s 47 ≤ 1 := hRs.1 47; omega) ?_
    refine wp_if (fun c2 => ?_) (fun c2 => ?_)
    · skip
      unfold m_x12_copy_J20
      refine wp_bn (w_x12_refuses hRs (by show 0 ≤ (2 : Int) ∧ (2 : Int) < 6; have : (0 : Int) ≤ gI s 47 ∧ gI s 47 ≤ 1 := hRs.1 47; omega)) (fun qqr4 eqr4s hqr4s => ?_)
      obtain ⟨qr4r, qr4s⟩ := qqr4
      dsimp only at eqr4s hqr4s ⊢
      have Fqr4s : F_x12_refuses s qr4s := fr_x12_refuses eqr4s
      obtain ⟨hRqr4s, hqr4s_0⟩ := hqr4s
      have hqr4s_0 : qr4r = -1 := hqr4s_0
      exact wp_some ⟨hRqr4s, by show JI qr4s; exact (JI_eq hpJ ⟨(Fqr4s.2.1 39 (by decide)), (Fqr4s.2.1 42 (by decide)), (Fqr4s.2.1 43 (by decide)), (Fqr4s.2.1 44 (by decide))⟩ (Fqr4s.2.1 49 (by decide)) (Fqr4s.2.1 75 (by decide)) (Fqr4s.1 76 (by decide)) (Fqr4s.1 77 (by decide)) (Fqr4s.1 47 (by decide)) (Fqr4s.2.2.1 78 (by decide))), by show gI qr4s 1 = gI s 1; have : (0 : Int) ≤ gI s 47 ∧ gI s 47 ≤ 1 := hRs.1 47; have : (0 : Int) ≤ gI s 1 ∧ gI s 1 ≤ 1600 := hRs.1 1; have : gI qr4s 1 = gI s 1 := Fqr4s.1 1 (by decide); omega⟩
    · skip
      refine wp_bn (w_x12_keeps hRs) (fun s15 es15 hs15 => ?_)
      have Fs15 : F_x12_keeps s s15 := fr_x12_keeps es15
      obtain ⟨hRs15, hs15_0, hs15_1, hs15_2, hs15_3⟩ := hs15
      have hs15_0 : gI s15 77 = (gI s 77 + 1) % 20 := hs15_0
      have hs15_1 : gI s15 76 ≤ gI s 76 + 1 ∧ gI s15 76 ≤ 20 := hs15_1
      have hs15_2 : ∀ j, j < 906 → gA s15 75 (906 * (gI s15 77).toNat + j) = gA s 49 j := hs15_2
      have hs15_3 : ∀ j, j < 906 * (gI s15 77).toNat ∨ 906 * (gI s15 77).toNat + 906 ≤ j → gA s15 75 j = gA s 75 j := hs15_3
      have kt : gI s 47 ≠ 0 := by omega
      have kG := JI_GA hpJ kt
      have Gs15 : GA s15 := GA_keeps hRs kG ⟨(Fs15.2.1 39 (by decide)), (Fs15.2.1 42 (by decide)), (Fs15.2.1 43 (by decide)), (Fs15.2.1 44 (by decide))⟩ (Fs15.2.1 49 (by decide)) hs15_0 hs15_1 hs15_2 hs15_3
      refine wp_bn (w_x12_clearsTouched hRs15) (fun s17 es17 hs17 => ?_)
      have Fs17 : F_x12_clearsTouched s15 s17 := fr_x12_clearsTouched es17
      have hRs17 := hs17
      have Gs17 : GA s17 := GA_eq Gs15 ⟨(Fs17.2.1 39 (by decide)), (Fs17.2.1 42 (by decide)), (Fs17.2.1 43 (by decide)), (Fs17.2.1 44 (by decide))⟩ (Fs17.2.1 49 (by decide)) (Fs17.2.1 75 (by decide)) (Fs17.1 76 (by decide)) (Fs17.1 77 (by decide))
      have e17 : gA s17 49 = gA s 49 := ((Fs17.2.1 49 (by decide)).trans (Fs15.2.1 49 (by decide)))
      have kb := kG.1.1.2 p0.toNat (by omega)
      refine wp_bn (w_x12_copies hRs17 (by show 0 ≤ p0 ∧ p0 < 8; have : (0 : Int) ≤ gI s 76 ∧ gI s 76 ≤ 20 := hRs.1 76; have : (0 : Int) ≤ gI s15 76 ∧ gI s15 76 ≤ 20 := hRs15.1 76; have : (0 : Int) ≤ gI s 77 ∧ gI s 77 ≤ 19 := hRs.1 77; have : (0 : Int) ≤ gI s15 77 ∧ gI s15 77 ≤ 19 := hRs15.1 77; have : (0 : Int) ≤ gI s 47 ∧ gI s 47 ≤ 1 := hRs.1 47; omega) (by show 0 ≤ r6 ∧ r6 < 8; have : (0 : Int) ≤ gI s 76 ∧ gI s 76 ≤ 20 := hRs.1 76; have : (0 : Int) ≤ gI s15 76 ∧ gI s15 76 ≤ 20 := hRs15.1 76; have : (0 : Int) ≤ gI s 77 ∧ gI s 77 ≤ 19 := hRs.1 77; have : (0 : Int) ≤ gI s15 77 ∧ gI s15 77 ≤ 19 := hRs15.1 77; have : (0 : Int) ≤ gI s 47 ∧ gI s 47 ≤ 1 := hRs.1 47; omega) (Gs17.1.1.1) (by rw [e17]; exact hr6_0.2 (by omega)) (by rw [e17]; omega)) (fun s19 es19 hs19 => ?_)
      have Fs19 : F_x12_copies s17 s19 := fr_x12_copies es19
      obtain ⟨hRs19, hs19_0, hs19_1, hs19_2, hs19_3⟩ := hs19
      have hs19_0 : RT s19 := hs19_0
      have hs19_1 : ∀ j, 785 ≤ j → gA s19 49 j = gA s17 49 j := hs19_1
      have hs19_2 : ∀ u, u < 17 → u ≠ r6.toNat → gA s19 49 u = gA s17 49 u := hs19_2
      have hs19_3 : gA s19 49 r6.toNat = gA s17 49 p0.toNat := hs19_3
      have Gs19 : GA s19 := GA_tree Gs17 ⟨(Fs19.2.1 39 (by decide)), (Fs19.2.1 42 (by decide)), (Fs19.2.1 43 (by decide)), (Fs19.2.1 44 (by decide))⟩ hs19_0 (fun u hu => by
            by_cases z : u = r6.toNat
            · rw [z, hs19_3]; exact Gs17.1.1.2 p0.toNat (by omega)
            · rw [hs19_2 u (by omega) z]; exact Gs17.1.1.2 u hu) (hs19_2 16 (by omega) (by omega)) (hs19_1 785 (by omega)) (Fs19.2.1 75 (by decide)) (Fs19.1 76 (by decide)) (Fs19.1 77 (by decide))
      refine wp_bn (w_x12_isKept hRs19 (Gs19.1) (by show R2 (2 : Int); have : (0 : Int) ≤ gI s 76 ∧ gI s 76 ≤ 20 := hRs.1 76; have : (0 : Int) ≤ gI s15 76 ∧ gI s15 76 ≤ 20 := hRs15.1 76; have : (0 : Int) ≤ gI s 77 ∧ gI s 77 ≤ 19 := hRs.1 77; have : (0 : Int) ≤ gI s15 77 ∧ gI s15 77 ≤ 19 := hRs15.1 77; have : (0 : Int) ≤ gI s 47 ∧ gI s 47 ≤ 1 := hRs.1 47; omega) (by show R2 r6; have : (0 : Int) ≤ gI s 76 ∧ gI s 76 ≤ 20 := hRs.1 76; have : (0 : Int) ≤ gI s15 76 ∧ gI s15 76 ≤ 20 := hRs15.1 76; have : (0 : Int) ≤ gI s 77 ∧ gI s 77 ≤ 19 := hRs.1 77; have : (0 : Int) ≤ gI s15 77 ∧ gI s15 77 ≤ 19 := hRs15.1 77; have : (0 : Int) ≤ gI s 47 ∧ gI s 47 ≤ 1 := hRs.1 47; omega) (Gs19.2.2.1) (Gs19.2.2.2)) (fun s21 es21 hs21 => ?_)
      have Fs21 : F_x12_isKept s19 s21 := fr_x12_isKept es21
      obtain ⟨hRs21, hs21_0, hs21_1, hs21_2⟩ := hs21
      have hs21_0 : ∀ i, i < 785 → i ≠ 16 → gA s21 49 i = gA s19 49 i := hs21_0
      have hs21_1 : 0 ≤ gA s21 49 16 ∧ gA s21 49 16 ≤ 999999 := hs21_1
      have hs21_2 : 0 ≤ gA s21 49 785 ∧ gA s21 49 785 ≤ 40 := hs21_2
      have Gs21 : GA s21 := GA_kept Gs19 ⟨(Fs21.2.1 39 (by decide)), (Fs21.2.1 42 (by decide)), (Fs21.2.1 43 (by decide)), (Fs21.2.1 44 (by decide))⟩ hs21_0 hs21_1 hs21_2 (Fs21.2.1 75 (by decide)) (Fs21.1 76 (by decide)) (Fs21.1 77 (by decide))
      exact wp_some ⟨hRs21, by show JI s21; exact (GA_JI hpJ kt ((Fs21.2.1 39 (by decide)).trans ((Fs19.2.1 39 (by decide)).trans ((Fs17.2.1 39 (by decide)).trans (Fs15.2.1 39 (by decide))))) (by rw [(((Fs21.2.2.1 78 (by decide)).trans ((Fs19.2.2.1 78 (by decide)).trans ((Fs17.2.2.1 78 (by decide)).trans (Fs15.2.2.1 78 (by decide))))))]; exact hpJ.2.1) ((Fs21.1 47 (by decide)).trans ((Fs19.1 47 (by decide)).trans ((Fs17.1 47 (by decide)).trans (Fs15.1 47 (by decide))))) Gs21), by show gI s21 1 = gI s 1; have : (0 : Int) ≤ gI s 76 ∧ gI s 76 ≤ 20 := hRs.1 76; have : (0 : Int) ≤ gI s15 76 ∧ gI s15 76 ≤ 20 := hRs15.1 76; have : (0 : Int) ≤ gI s 77 ∧ gI s 77 ≤ 19 := hRs.1 77; have : (0 : Int) ≤ gI s15 77 ∧ gI s15 77 ≤ 19 := hRs15.1 77; have : (0 : Int) ≤ gI s 47 ∧ gI s 47 ≤ 1 := hRs.1 47; have : (0 : Int) ≤ gI s 1 ∧ gI s 1 ≤ 1600 := hRs.1 1; have : gI s21 1 = gI s19 1 := Fs21.1 1 (by decide); have : gI s19 1 = gI s17 1 := Fs19.1 1 (by decide); have : gI s17 1 = gI s15 1 := Fs17.1 1 (by decide); have : gI s15 1 = gI s 1 := Fs15.1 1 (by decide); omega⟩
set_option maxHeartbeats 1000000 in
theorem w_x12_drop {p0 : Int} {s : MS} (hRs : Rr s) (hp0 : R2 p0) (hp1 : JI s) : wp (m_x12_drop p0 s) (fun q => (Rr q.2) ∧ (JI q.2) ∧ (gI q.2 1 = gI s 1)) := by
  have hpJ := hp1
  unfold m_x12_drop
  refine wp_rg (by omega) ?_
  refine wp_bn (wv_x12_isVolume hRs (by show R8 p0; omega)) (fun r3 er3 hr3 => ?_)
  obtain ⟨hr3_0, hr3_1⟩ := hr3
  have hr3_0 : (r3 = 1 ∧ (0 ≤ p0 ∧ p0 < 8) ∧ gI s 47 ≠ 0 ∧ gA s 49 p0.toNat ≠ 255) ∨ r3 = 0 := hr3_0
  have hr3_1 : 0 ≤ p0 ∧ p0 < 8 → r3 = ivol s p0.toNat := hr3_1
  refine wp_rg (by have : (0 : Int) ≤ gI s 47 ∧ gI s 47 ≤ 1 := hRs.1 47; omega) ?_
  refine wp_if (fun c1 => ?_) (fun c1 => ?_)
  · skip
    refine wp_bn (w_x12_refuses hRs (by show 0 ≤ (2 : Int) ∧ (2 : Int) < 6; have : (0 : Int) ≤ gI s 47 ∧ gI s 47 ≤ 1 := hRs.1 47; omega)) (fun qqr20 eqr20s hqr20s => ?_)
    obtain ⟨qr20r, qr20s⟩ := qqr20
    dsimp only at eqr20s hqr20s ⊢
    have Fqr20s : F_x12_refuses s qr20s := fr_x12_refuses eqr20s
    obtain ⟨hRqr20s, hqr20s_0⟩ := hqr20s
    have hqr20s_0 : qr20r = -1 := hqr20s_0
    exact wp_some ⟨hRqr20s, by show JI qr20s; exact (JI_eq hpJ ⟨(Fqr20s.2.1 39 (by decide)), (Fqr20s.2.1 42 (by decide)), (Fqr20s.2.1 43 (by decide)), (Fqr20s.2.1 44 (by decide))⟩ (Fqr20s.2.1 49 (by decide)) (Fqr20s.2.1 75 (by decide)) (Fqr20s.1 76 (by decide)) (Fqr20s.1 77 (by decide)) (Fqr20s.1 47 (by decide)) (Fqr20s.2.2.1 78 (by decide))), by show gI qr20s 1 = gI s 1; have : (0 : Int) ≤ gI s 47 ∧ gI s 47 ≤ 1 := hRs.1 47; have : (0 : Int) ≤ gI s 1 ∧ gI s 1 ≤ 1600 := hRs.1 1; have : gI qr20s 1 = gI s 1 := Fqr20s.1 1 (by decide); omega⟩
  · skip
    refine wp_bn (w_x12_keeps hRs) (fun s7 es7 hs7 => ?_)
    have Fs7 : F_x12_keeps s s7 := fr_x12_keeps es7
    obtain ⟨hRs7, hs7_0, hs7_1, hs7_2, hs7_3⟩ := hs7
    have hs7_0 : gI s7 77 = (gI s 77 + 1) % 20 := hs7_0
    have hs7_1 : gI s7 76 ≤ gI s 76 + 1 ∧ gI s7 76 ≤ 20 := hs7_1
    have hs7_2 : ∀ j, j < 906 → gA s7 75 (906 * (gI s7 77).toNat + j) = gA s 49 j := hs7_2
    have hs7_3 : ∀ j, j < 906 * (gI s7 77).toNat ∨ 906 * (gI s7 77).toNat + 906 ≤ j → gA s7 75 j = gA s 75 j := hs7_3
    have kt : gI s 47 ≠ 0 := by omega
    have kG := JI_GA hpJ kt
    have Gs7 : GA s7 := GA_keeps hRs kG ⟨(Fs7.2.1 39 (by decide)), (Fs7.2.1 42 (by decide)), (Fs7.2.1 43 (by decide)), (Fs7.2.1 44 (by decide))⟩ (Fs7.2.1 49 (by decide)) hs7_0 hs7_1 hs7_2 hs7_3
    refine wp_bn (w_x12_clearsTouched hRs7) (fun s9 es9 hs9 => ?_)
    have Fs9 : F_x12_clearsTouched s7 s9 := fr_x12_clearsTouched es9
    have hRs9 := hs9
    have Gs9 : GA s9 := GA_eq Gs7 ⟨(Fs9.2.1 39 (by decide)), (Fs9.2.1 42 (by decide)), (Fs9.2.1 43 (by decide)), (Fs9.2.1 44 (by decide))⟩ (Fs9.2.1 49 (by decide)) (Fs9.2.1 75 (by decide)) (Fs9.1 76 (by decide)) (Fs9.1 77 (by decide))
    have e9 : gA s9 49 = gA s 49 := ((Fs9.2.1 49 (by decide)).trans (Fs7.2.1 49 (by decide)))
    have kb := kG.1.1.2 p0.toNat (by omega)
    refine wp_bn (w_x12_usedMany hRs9 (by have := Gs9.1.2.1.1; omega)) (fun r11 er11 hr11 => ?_)
    have hr11_0 := hr11
    have hr11_0 : 0 ≤ r11 ∧ r11 ≤ 48 := hr11_0
    refine wp_bn (w_x12_drops hRs9 (by show 0 ≤ p0 ∧ p0 < 8; have : (0 : Int) ≤ gI s 76 ∧ gI s 76 ≤ 20 := hRs.1 76; have : (0 : Int) ≤ gI s7 76 ∧ gI s7 76 ≤ 20 := hRs7.1 76; have : (0 : Int) ≤ gI s 77 ∧ gI s 77 ≤ 19 := hRs.1 77; have : (0 : Int) ≤ gI s7 77 ∧ gI s7 77 ≤ 19 := hRs7.1 77; have : (0 : Int) ≤ gI s 47 ∧ gI s 47 ≤ 1 := hRs.1 47; omega) (Gs9.1.1.1) (by rw [e9]; omega)) (fun s13 es13 hs13 => ?_)
    have Fs13 : F_x12_drops s9 s13 := fr_x12_drops es13
    obtain ⟨hRs13, hs13_0, hs13_1, hs13_2, hs13_3⟩ := hs13
    have hs13_0 : RT s13 := hs13_0
    have hs13_1 : ∀ j, 785 ≤ j → gA s13 49 j = gA s9 49 j := hs13_1
    have hs13_2 : ∀ u, u < 17 → u ≠ p0.toNat → gA s13 49 u = gA s9 49 u := hs13_2
    have hs13_3 : gA s13 49 p0.toNat = 255 := hs13_3
    have Gs13 : GA s13 := GA_tree Gs9 ⟨(Fs13.2.1 39 (by decide)), (Fs13.2.1 42 (by decide)), (Fs13.2.1 43 (by decide)), (Fs13.2.1 44 (by decide))⟩ hs13_0 (fun u hu => by
          by_cases z : u = p0.toNat
          · rw [z, hs13_3]; omega
          · rw [hs13_2 u (by omega) z]; exact Gs9.1.1.2 u hu) (hs13_2 16 (by omega) (by omega)) (hs13_1 785 (by omega)) (Fs13.2.1 75 (by decide)) (Fs13.1 76 (by decide)) (Fs13.1 77 (by decide))
    refine wp_bn (w_x12_isKept hRs13 (Gs13.1) (by show R2 (3 : Int); have : (0 : Int) ≤ gI s 76 ∧ gI s 76 ≤ 20 := hRs.1 76; have : (0 : Int) ≤ gI s7 76 ∧ gI s7 76 ≤ 20 := hRs7.1 76; have : (0 : Int) ≤ gI s 77 ∧ gI s 77 ≤ 19 := hRs.1 77; have : (0 : Int) ≤ gI s7 77 ∧ gI s7 77 ≤ 19 := hRs7.1 77; have : (0 : Int) ≤ gI s 47 ∧ gI s 47 ≤ 1 := hRs.1 47; omega) (by show R2 p0; have : (0 : Int) ≤ gI s 76 ∧ gI s 76 ≤ 20 := hRs.1 76; have : (0 : Int) ≤ gI s7 76 ∧ gI s7 76 ≤ 20 := hRs7.1 76; have : (0 : Int) ≤ gI s 77 ∧ gI s 77 ≤ 19 := hRs.1 77; have : (0 : Int) ≤ gI s7 77 ∧ gI s7 77 ≤ 19 := hRs7.1 77; have : (0 : Int) ≤ gI s 47 ∧ gI s 47 ≤ 1 := hRs.1 47; omega) (Gs13.2.2.1) (Gs13.2.2.2)) (fun s15 es15 hs15 => ?_)
    have Fs15 : F_x12_isKept s13 s15 := fr_x12_isKept es15
    obtain ⟨hRs15, hs15_0, hs15_1, hs15_2⟩ := hs15
    have hs15_0 : ∀ i, i < 785 → i ≠ 16 → gA s15 49 i = gA s13 49 i := hs15_0
    have hs15_1 : 0 ≤ gA s15 49 16 ∧ gA s15 49 16 ≤ 999999 := hs15_1
    have hs15_2 : 0 ≤ gA s15 49 785 ∧ gA s15 49 785 ≤ 40 := hs15_2
    have Gs15 : GA s15 := GA_kept Gs13 ⟨(Fs15.2.1 39 (by decide)), (Fs15.2.1 42 (by decide)), (Fs15.2.1 43 (by decide)), (Fs15.2.1 44 (by decide))⟩ hs15_0 hs15_1 hs15_2 (Fs15.2.1 75 (by decide)) (Fs15.1 76 (by decide)) (Fs15.1 77 (by decide))
    refine wp_bn (w_x12_usedMany hRs15 (by have := Gs15.1.2.1.1; omega)) (fun r17 er17 hr17 => ?_)
    have hr17_0 := hr17
    have hr17_0 : 0 ≤ r17 ∧ r17 ≤ 48 := hr17_0
    exact wp_some ⟨hRs15, by show JI s15; exact (GA_JI hpJ kt ((Fs15.2.1 39 (by decide)).trans ((Fs13.2.1 39 (by decide)).trans ((Fs9.2.1 39 (by decide)).trans (Fs7.2.1 39 (by decide))))) (by rw [(((Fs15.2.2.1 78 (by decide)).trans ((Fs13.2.2.1 78 (by decide)).trans ((Fs9.2.2.1 78 (by decide)).trans (Fs7.2.2.1 78 (by decide))))))]; exact hpJ.2.1) ((Fs15.1 47 (by decide)).trans ((Fs13.1 47 (by decide)).trans ((Fs9.1 47 (by decide)).trans (Fs7.1 47 (by decide))))) Gs15), by show gI s15 1 = gI s 1; have : (0 : Int) ≤ gI s 76 ∧ gI s 76 ≤ 20 := hRs.1 76; have : (0 : Int) ≤ gI s7 76 ∧ gI s7 76 ≤ 20 := hRs7.1 76; have : (0 : Int) ≤ gI s 77 ∧ gI s 77 ≤ 19 := hRs.1 77; have : (0 : Int) ≤ gI s7 77 ∧ gI s7 77 ≤ 19 := hRs7.1 77; have : (0 : Int) ≤ gI s 47 ∧ gI s 47 ≤ 1 := hRs.1 47; have : (0 : Int) ≤ gI s 1 ∧ gI s 1 ≤ 1600 := hRs.1 1; have : gI s15 1 = gI s13 1 := Fs15.1 1 (by decide); have : gI s13 1 = gI s9 1 := Fs13.1 1 (by decide); have : gI s9 1 = gI s7 1 := Fs9.1 1 (by decide); have : gI s7 1 = gI s 1 := Fs7.1 1 (by decide); omega⟩
set_option maxHeartbeats 1000000 in
theorem w_x12_checkpoint {s : MS} (hRs : Rr s) (hp0 : JI s) : wp (m_x12_checkpoint s) (fun q => (Rr q.2) ∧ (JI q.2) ∧ (gI q.2 1 = gI s 1)) := by
  have hpJ := hp0
  unfold m_x12_checkpoint
  refine wp_rg (by have : (0 : Int) ≤ gI s 47 ∧ gI s 47 ≤ 1 := hRs.1 47; omega) ?_
  refine wp_if (fun c1 => ?_) (fun c1 => ?_)
  · skip
    refine wp_bn (w_x12_refuses hRs (by show 0 ≤ (3 : Int) ∧ (3 : Int) < 6; have : (0 : Int) ≤ gI s 47 ∧ gI s 47 ≤ 1 := hRs.1 47; omega)) (fun qqr15 eqr15s hqr15s => ?_)
    obtain ⟨qr15r, qr15s⟩ := qqr15
    dsimp only at eqr15s hqr15s ⊢
    have Fqr15s : F_x12_refuses s qr15s := fr_x12_refuses eqr15s
    obtain ⟨hRqr15s, hqr15s_0⟩ := hqr15s
    have hqr15s_0 : qr15r = -1 := hqr15s_0
    exact wp_some ⟨hRqr15s, by show JI qr15s; exact (JI_eq hpJ ⟨(Fqr15s.2.1 39 (by decide)), (Fqr15s.2.1 42 (by decide)), (Fqr15s.2.1 43 (by decide)), (Fqr15s.2.1 44 (by decide))⟩ (Fqr15s.2.1 49 (by decide)) (Fqr15s.2.1 75 (by decide)) (Fqr15s.1 76 (by decide)) (Fqr15s.1 77 (by decide)) (Fqr15s.1 47 (by decide)) (Fqr15s.2.2.1 78 (by decide))), by show gI qr15s 1 = gI s 1; have : (0 : Int) ≤ gI s 47 ∧ gI s 47 ≤ 1 := hRs.1 47; have : (0 : Int) ≤ gI s 1 ∧ gI s 1 ≤ 1600 := hRs.1 1; have : gI qr15s 1 = gI s 1 := Fqr15s.1 1 (by decide); omega⟩
  · skip
    refine wp_bn (w_x12_keeps hRs) (fun s4 es4 hs4 => ?_)
    have Fs4 : F_x12_keeps s s4 := fr_x12_keeps es4
    obtain ⟨hRs4, hs4_0, hs4_1, hs4_2, hs4_3⟩ := hs4
    have hs4_0 : gI s4 77 = (gI s 77 + 1) % 20 := hs4_0
    have hs4_1 : gI s4 76 ≤ gI s 76 + 1 ∧ gI s4 76 ≤ 20 := hs4_1
    have hs4_2 : ∀ j, j < 906 → gA s4 75 (906 * (gI s4 77).toNat + j) = gA s 49 j := hs4_2
    have hs4_3 : ∀ j, j < 906 * (gI s4 77).toNat ∨ 906 * (gI s4 77).toNat + 906 ≤ j → gA s4 75 j = gA s 75 j := hs4_3
    have kt : gI s 47 ≠ 0 := by omega
    have kG := JI_GA hpJ kt
    have Gs4 : GA s4 := GA_keeps hRs kG ⟨(Fs4.2.1 39 (by decide)), (Fs4.2.1 42 (by decide)), (Fs4.2.1 43 (by decide)), (Fs4.2.1 44 (by decide))⟩ (Fs4.2.1 49 (by decide)) hs4_0 hs4_1 hs4_2 hs4_3
    refine wp_bn (w_x12_clearsTouched hRs4) (fun s6 es6 hs6 => ?_)
    have Fs6 : F_x12_clearsTouched s4 s6 := fr_x12_clearsTouched es6
    have hRs6 := hs6
    have Gs6 : GA s6 := GA_eq Gs4 ⟨(Fs6.2.1 39 (by decide)), (Fs6.2.1 42 (by decide)), (Fs6.2.1 43 (by decide)), (Fs6.2.1 44 (by decide))⟩ (Fs6.2.1 49 (by decide)) (Fs6.2.1 75 (by decide)) (Fs6.1 76 (by decide)) (Fs6.1 77 (by decide))
    refine wp_bn (w_x12_heldMany hRs6 (by have := Gs6.1.2.1.1; omega)) (fun r8 er8 hr8 => ?_)
    have hr8_0 := hr8
    have hr8_0 : 0 ≤ r8 ∧ r8 ≤ 48 := hr8_0
    refine wp_bn (w_x12_checks hRs6) (fun s10 es10 hs10 => ?_)
    have Fs10 : F_x12_checks s6 s10 := fr_x12_checks es10
    obtain ⟨hRs10, hs10_0, hs10_1, hs10_2⟩ := hs10
    have hs10_0 : ∀ i, ¬ (8 ≤ i ∧ i < 16) → (∀ p, p < 48 → i ≠ 18 + 16 * p) → gA s10 49 i = gA s6 49 i := hs10_0
    have hs10_1 : ∀ u, u < 8 → gA s10 49 (8 + u) = gA s6 49 u := hs10_1
    have hs10_2 : ∀ p, p < 48 → gA s10 49 (18 + 16 * p) = gA s6 49 (17 + 16 * p) := hs10_2
    have Gs10 : GA s10 := GA_tree Gs6 ⟨(Fs10.2.1 39 (by decide)), (Fs10.2.1 42 (by decide)), (Fs10.2.1 43 (by decide)), (Fs10.2.1 44 (by decide))⟩ (RT_checks Gs6.1.1.1 (Fs10.2.1 39 (by decide)) hs10_0 hs10_1 hs10_2) (fun u hu => by
          by_cases z : u < 8
          · rw [hs10_0 u (by omega) (fun q _ => by omega)]; exact Gs6.1.1.2 u hu
          · have z2 := hs10_1 (u - 8) (by omega); rw [show 8 + (u - 8) = u by omega] at z2; rw [z2]; exact Gs6.1.1.2 (u - 8) (by omega)) (hs10_0 16 (by omega) (fun q _ => by omega)) (hs10_0 785 (by omega) (fun q _ => by omega)) (Fs10.2.1 75 (by decide)) (Fs10.1 76 (by decide)) (Fs10.1 77 (by decide))
    refine wp_bn (w_x12_isKept hRs10 (Gs10.1) (by show R2 (4 : Int); have : (0 : Int) ≤ gI s 76 ∧ gI s 76 ≤ 20 := hRs.1 76; have : (0 : Int) ≤ gI s4 76 ∧ gI s4 76 ≤ 20 := hRs4.1 76; have : (0 : Int) ≤ gI s 77 ∧ gI s 77 ≤ 19 := hRs.1 77; have : (0 : Int) ≤ gI s4 77 ∧ gI s4 77 ≤ 19 := hRs4.1 77; have : (0 : Int) ≤ gI s 47 ∧ gI s 47 ≤ 1 := hRs.1 47; omega) (by show R2 (255 : Int); have : (0 : Int) ≤ gI s 76 ∧ gI s 76 ≤ 20 := hRs.1 76; have : (0 : Int) ≤ gI s4 76 ∧ gI s4 76 ≤ 20 := hRs4.1 76; have : (0 : Int) ≤ gI s 77 ∧ gI s 77 ≤ 19 := hRs.1 77; have : (0 : Int) ≤ gI s4 77 ∧ gI s4 77 ≤ 19 := hRs4.1 77; have : (0 : Int) ≤ gI s 47 ∧ gI s 47 ≤ 1 := hRs.1 47; omega) (Gs10.2.2.1) (Gs10.2.2.2)) (fun s12 es12 hs12 => ?_)
    have Fs12 : F_x12_isKept s10 s12 := fr_x12_isKept es12
    obtain ⟨hRs12, hs12_0, hs12_1, hs12_2⟩ := hs12
    have hs12_0 : ∀ i, i < 785 → i ≠ 16 → gA s12 49 i = gA s10 49 i := hs12_0
    have hs12_1 : 0 ≤ gA s12 49 16 ∧ gA s12 49 16 ≤ 999999 := hs12_1
    have hs12_2 : 0 ≤ gA s12 49 785 ∧ gA s12 49 785 ≤ 40 := hs12_2
    have Gs12 : GA s12 := GA_kept Gs10 ⟨(Fs12.2.1 39 (by decide)), (Fs12.2.1 42 (by decide)), (Fs12.2.1 43 (by decide)), (Fs12.2.1 44 (by decide))⟩ hs12_0 hs12_1 hs12_2 (Fs12.2.1 75 (by decide)) (Fs12.1 76 (by decide)) (Fs12.1 77 (by decide))
    exact wp_some ⟨hRs12, by show JI s12; exact (GA_JI hpJ kt ((Fs12.2.1 39 (by decide)).trans ((Fs10.2.1 39 (by decide)).trans ((Fs6.2.1 39 (by decide)).trans (Fs4.2.1 39 (by decide))))) (by rw [(((Fs12.2.2.1 78 (by decide)).trans ((Fs10.2.2.1 78 (by decide)).trans ((Fs6.2.2.1 78 (by decide)).trans (Fs4.2.2.1 78 (by decide))))))]; exact hpJ.2.1) ((Fs12.1 47 (by decide)).trans ((Fs10.1 47 (by decide)).trans ((Fs6.1 47 (by decide)).trans (Fs4.1 47 (by decide))))) Gs12), by show gI s12 1 = gI s 1; have : (0 : Int) ≤ gI s 76 ∧ gI s 76 ≤ 20 := hRs.1 76; have : (0 : Int) ≤ gI s4 76 ∧ gI s4 76 ≤ 20 := hRs4.1 76; have : (0 : Int) ≤ gI s 77 ∧ gI s 77 ≤ 19 := hRs.1 77; have : (0 : Int) ≤ gI s4 77 ∧ gI s4 77 ≤ 19 := hRs4.1 77; have : (0 : Int) ≤ gI s 47 ∧ gI s 47 ≤ 1 := hRs.1 47; have : (0 : Int) ≤ gI s 1 ∧ gI s 1 ≤ 1600 := hRs.1 1; have : gI s12 1 = gI s10 1 := Fs12.1 1 (by decide); have : gI s10 1 = gI s6 1 := Fs10.1 1 (by decide); have : gI s6 1 = gI s4 1 := Fs6.1 1 (by decide); have : gI s4 1 = gI s 1 := Fs4.1 1 (by decide); omega⟩
set_option maxHeartbeats 1000000 in
theorem w_x12_crash {s : MS} (hRs : Rr s) (hp0 : JI s) : wp (m_x12_crash s) (fun q => (Rr q.2) ∧ (JI q.2) ∧ (gI q.2 1 = gI s 1)) := by
  have hpJ := hp0
  unfold m_x12_crash
  refine wp_rg (by have : (0 : Int) ≤ gI s 47 ∧ gI s 47 ≤ 1 := hRs.1 47; omega) ?_
  refine wp_if (fun c1 => ?_) (fun c1 => ?_)
  · skip
    refine wp_bn (w_x12_refuses hRs (by show 0 ≤ (3 : Int) ∧ (3 : Int) < 6; have : (0 : Int) ≤ gI s 47 ∧ gI s 47 ≤ 1 := hRs.1 47; omega)) (fun qqr28 eqr28s hqr28s => ?_)
    obtain ⟨qr28r, qr28s⟩ := qqr28
    dsimp only at eqr28s hqr28s ⊢
    have Fqr28s : F_x12_refuses s qr28s := fr_x12_refuses eqr28s
    obtain ⟨hRqr28s, hqr28s_0⟩ := hqr28s
    have hqr28s_0 : qr28r = -1 := hqr28s_0
    exact wp_some ⟨hRqr28s, by show JI qr28s; exact (JI_eq hpJ ⟨(Fqr28s.2.1 39 (by decide)), (Fqr28s.2.1 42 (by decide)), (Fqr28s.2.1 43 (by decide)), (Fqr28s.2.1 44 (by decide))⟩ (Fqr28s.2.1 49 (by decide)) (Fqr28s.2.1 75 (by decide)) (Fqr28s.1 76 (by decide)) (Fqr28s.1 77 (by decide)) (Fqr28s.1 47 (by decide)) (Fqr28s.2.2.1 78 (by decide))), by show gI qr28s 1 = gI s 1; have : (0 : Int) ≤ gI s 47 ∧ gI s 47 ≤ 1 := hRs.1 47; have : (0 : Int) ≤ gI s 1 ∧ gI s 1 ≤ 1600 := hRs.1 1; have : gI qr28s 1 = gI s 1 := Fqr28s.1 1 (by decide); omega⟩
  · skip
    refine wp_bn (w_x12_keeps hRs) (fun s23 es23 hs23 => ?_)
    have Fs23 : F_x12_keeps s s23 := fr_x12_keeps es23
    obtain ⟨hRs23, hs23_0, hs23_1, hs23_2, hs23_3⟩ := hs23
    have hs23_0 : gI s23 77 = (gI s 77 + 1) % 20 := hs23_0
    have hs23_1 : gI s23 76 ≤ gI s 76 + 1 ∧ gI s23 76 ≤ 20 := hs23_1
    have hs23_2 : ∀ j, j < 906 → gA s23 75 (906 * (gI s23 77).toNat + j) = gA s 49 j := hs23_2
    have hs23_3 : ∀ j, j < 906 * (gI s23 77).toNat ∨ 906 * (gI s23 77).toNat + 906 ≤ j → gA s23 75 j = gA s 75 j := hs23_3
    have kt : gI s 47 ≠ 0 := by omega
    have kG := JI_GA hpJ kt
    have Gs23 : GA s23 := GA_keeps hRs kG ⟨(Fs23.2.1 39 (by decide)), (Fs23.2.1 42 (by decide)), (Fs23.2.1 43 (by decide)), (Fs23.2.1 44 (by decide))⟩ (Fs23.2.1 49 (by decide)) hs23_0 hs23_1 hs23_2 hs23_3
    refine wp_bn (w_x12_clearsTouched hRs23) (fun s25 es25 hs25 => ?_)
    have Fs25 : F_x12_clearsTouched s23 s25 := fr_x12_clearsTouched es25
    have hRs25 := hs25
    have L25 : ∀ (n : Nat) (x1 : Int) (x2 : Int) (s3 : MS), Rr s3 → (0 ≤ x1 ∧ x1 ≤ x2 ∧ x2 ≤ 48) → (GA s3) → (gI s3 1 = gI s 1 ∧ gI s3 47 = gI s 47 ∧ gL s3 78 = gL s 78 ∧ gA s3 39 = gA s 39) → (gI s 47 ≠ 0) → (48 - x2) < (n : Int) → wp (m_x12_crash_L25 n x1 x2 s3) (fun q => (Rr q.2) ∧ (JI q.2) ∧ (gI q.2 1 = gI s 1)) := by
      refine fr_ind (fun x1 x2 s3 hRs3 hv25_0 hv25_1 hv25_2 hv25_3 hm25 => ?_) (fun n25 ih25 x1 x2 s3 hRs3 hv25_0 hv25_1 hv25_2 hv25_3 hm25 => ?_)
      · exfalso; have : (0 : Int) ≤ gI s 47 ∧ gI s 47 ≤ 1 := hRs.1 47; have : (0 : Int) ≤ gI s3 47 ∧ gI s3 47 ≤ 1 := hRs3.1 47; have : (0 : Int) ≤ gI s 1 ∧ gI s 1 ≤ 1600 := hRs.1 1; have : (0 : Int) ≤ gI s3 1 ∧ gI s3 1 ≤ 1600 := hRs3.1 1; omega
      · show wp (m_x12_crash_b25 (m_x12_crash_L25 n25) x1 x2 s3) _
        unfold m_x12_crash_b25
        have kN := hv25_1.1.2.1.1
        refine wp_bn (w_x12_blockMany hRs3) (fun r8 er8 hr8 => ?_)
        have hr8_0 := hr8
        have hr8_0 : r8 = gA s3 39 5 := hr8_0
        refine wp_rg (by have : (0 : Int) ≤ gI s3 47 ∧ gI s3 47 ≤ 1 := hRs3.1 47; have : (0 : Int) ≤ gI s 1 ∧ gI s 1 ≤ 1600 := hRs.1 1; have : (0 : Int) ≤ gI s3 1 ∧ gI s3 1 ≤ 1600 := hRs3.1 1; have : (0 : Int) ≤ gI s 76 ∧ gI s 76 ≤ 20 := hRs.1 76; have : (0 : Int) ≤ gI s23 76 ∧ gI s23 76 ≤ 20 := hRs23.1 76; have : (0 : Int) ≤ gI s 77 ∧ gI s 77 ≤ 19 := hRs.1 77; have : (0 : Int) ≤ gI s23 77 ∧ gI s23 77 ≤ 19 := hRs23.1 77; have : (0 : Int) ≤ gI s 47 ∧ gI s 47 ≤ 1 := hRs.1 47; omega) ?_
        refine wp_rg (by have : (0 : Int) ≤ gI s3 47 ∧ gI s3 47 ≤ 1 := hRs3.1 47; have : (0 : Int) ≤ gI s 1 ∧ gI s 1 ≤ 1600 := hRs.1 1; have : (0 : Int) ≤ gI s3 1 ∧ gI s3 1 ≤ 1600 := hRs3.1 1; have : (0 : Int) ≤ gI s 76 ∧ gI s 76 ≤ 20 := hRs.1 76; have : (0 : Int) ≤ gI s23 76 ∧ gI s23 76 ≤ 20 := hRs23.1 76; have : (0 : Int) ≤ gI s 77 ∧ gI s 77 ≤ 19 := hRs.1 77; have : (0 : Int) ≤ gI s23 77 ∧ gI s23 77 ≤ 19 := hRs23.1 77; have : (0 : Int) ≤ gI s 47 ∧ gI s 47 ≤ 1 := hRs.1 47; omega) ?_
        refine wp_if (fun c2 => ?_) (fun c2 => ?_)
        · skip
          refine wp_bn (w_x12_crashes hRs3) (fun s13 es13 hs13 => ?_)
          have Fs13 : F_x12_crashes s3 s13 := fr_x12_crashes es13
          obtain ⟨hRs13, hs13_0, hs13_1, hs13_2⟩ := hs13
          have hs13_0 : ∀ i, ¬ i < 8 → (∀ p, p < 48 → i ≠ 17 + 16 * p) → gA s13 49 i = gA s3 49 i := hs13_0
          have hs13_1 : ∀ u, u < 8 → gA s13 49 u = gA s3 49 (8 + u) := hs13_1
          have hs13_2 : ∀ p, p < 48 → gA s13 49 (17 + 16 * p) = gA s3 49 (18 + 16 * p) := hs13_2
          have Gs13 : GA s13 := GA_tree hv25_1 ⟨(Fs13.2.1 39 (by decide)), (Fs13.2.1 42 (by decide)), (Fs13.2.1 43 (by decide)), (Fs13.2.1 44 (by decide))⟩ (RT_crashes hv25_1.1.1.1 (Fs13.2.1 39 (by decide)) hs13_0 hs13_1 hs13_2) (fun u hu => by
                by_cases z : u < 8
                · rw [hs13_1 u z]; exact hv25_1.1.1.2 (8 + u) (by omega)
                · rw [hs13_0 u z (fun q _ => by omega)]; exact hv25_1.1.1.2 u hu) (hs13_0 16 (by omega) (fun q _ => by omega)) (hs13_0 785 (by omega) (fun q _ => by omega)) (Fs13.2.1 75 (by decide)) (Fs13.1 76 (by decide)) (Fs13.1 77 (by decide))
          refine wp_bn (w_x12_isKept hRs13 (Gs13.1) (by show R2 (5 : Int); have : (0 : Int) ≤ gI s3 47 ∧ gI s3 47 ≤ 1 := hRs3.1 47; have : (0 : Int) ≤ gI s 1 ∧ gI s 1 ≤ 1600 := hRs.1 1; have : (0 : Int) ≤ gI s3 1 ∧ gI s3 1 ≤ 1600 := hRs3.1 1; have : (0 : Int) ≤ gI s 76 ∧ gI s 76 ≤ 20 := hRs.1 76; have : (0 : Int) ≤ gI s23 76 ∧ gI s23 76 ≤ 20 := hRs23.1 76; have : (0 : Int) ≤ gI s 77 ∧ gI s 77 ≤ 19 := hRs.1 77; have : (0 : Int) ≤ gI s23 77 ∧ gI s23 77 ≤ 19 := hRs23.1 77; have : (0 : Int) ≤ gI s 47 ∧ gI s 47 ≤ 1 := hRs.1 47; omega) (by show R2 (255 : Int); have : (0 : Int) ≤ gI s3 47 ∧ gI s3 47 ≤ 1 := hRs3.1 47; have : (0 : Int) ≤ gI s 1 ∧ gI s 1 ≤ 1600 := hRs.1 1; have : (0 : Int) ≤ gI s3 1 ∧ gI s3 1 ≤ 1600 := hRs3.1 1; have : (0 : Int) ≤ gI s 76 ∧ gI s 76 ≤ 20 := hRs.1 76; have : (0 : Int) ≤ gI s23 76 ∧ gI s23 76 ≤ 20 := hRs23.1 76; have : (0 : Int) ≤ gI s 77 ∧ gI s 77 ≤ 19 := hRs.1 77; have : (0 : Int) ≤ gI s23 77 ∧ gI s23 77 ≤ 19 := hRs23.1 77; have : (0 : Int) ≤ gI s 47 ∧ gI s 47 ≤ 1 := hRs.1 47; omega) (Gs13.2.2.1) (Gs13.2.2.2)) (fun s15 es15 hs15 => ?_)
          have Fs15 : F_x12_isKept s13 s15 := fr_x12_isKept es15
          obtain ⟨hRs15, hs15_0, hs15_1, hs15_2⟩ := hs15
          have hs15_0 : ∀ i, i < 785 → i ≠ 16 → gA s15 49 i = gA s13 49 i := hs15_0
          have hs15_1 : 0 ≤ gA s15 49 16 ∧ gA s15 49 16 ≤ 999999 := hs15_1
          have hs15_2 : 0 ≤ gA s15 49 785 ∧ gA s15 49 785 ≤ 40 := hs15_2
          have Gs15 : GA s15 := GA_kept Gs13 ⟨(Fs15.2.1 39 (by decide)), (Fs15.2.1 42 (by decide)), (Fs15.2.1 43 (by decide)), (Fs15.2.1 44 (by decide))⟩ hs15_0 hs15_1 hs15_2 (Fs15.2.1 75 (by decide)) (Fs15.1 76 (by decide)) (Fs15.1 77 (by decide))
          exact wp_some ⟨hRs15, by show JI s15; exact (GA_JI hpJ hv25_3 ((((Fs15.2.1 39 (by decide)).trans (Fs13.2.1 39 (by decide)))).trans hv25_2.2.2.2) (by rw [(((Fs15.2.2.1 78 (by decide)).trans (Fs13.2.2.1 78 (by decide)))), hv25_2.2.2.1]; exact hpJ.2.1) ((((Fs15.1 47 (by decide)).trans (Fs13.1 47 (by decide)))).trans hv25_2.2.1) Gs15), by show gI s15 1 = gI s 1; have : (0 : Int) ≤ gI s3 47 ∧ gI s3 47 ≤ 1 := hRs3.1 47; have : (0 : Int) ≤ gI s3 1 ∧ gI s3 1 ≤ 1600 := hRs3.1 1; have : (0 : Int) ≤ gI s 76 ∧ gI s 76 ≤ 20 := hRs.1 76; have : (0 : Int) ≤ gI s23 76 ∧ gI s23 76 ≤ 20 := hRs23.1 76; have : (0 : Int) ≤ gI s 77 ∧ gI s 77 ≤ 19 := hRs.1 77; have : (0 : Int) ≤ gI s23 77 ∧ gI s23 77 ≤ 19 := hRs23.1 77; have : (0 : Int) ≤ gI s 47 ∧ gI s 47 ≤ 1 := hRs.1 47; have : (0 : Int) ≤ gI s 1 ∧ gI s 1 ≤ 1600 := hRs.1 1; have : gI s15 1 = gI s13 1 := Fs15.1 1 (by decide); have : gI s13 1 = gI s3 1 := Fs13.1 1 (by decide); omega⟩
        · skip
          refine wp_bn (w_x12_isFresh hRs3 (by show 0 ≤ x2 ∧ x2 < 48; have : (0 : Int) ≤ gI s3 47 ∧ gI s3 47 ≤ 1 := hRs3.1 47; have : (0 : Int) ≤ gI s 1 ∧ gI s 1 ≤ 1600 := hRs.1 1; have : (0 : Int) ≤ gI s3 1 ∧ gI s3 1 ≤ 1600 := hRs3.1 1; have : (0 : Int) ≤ gI s 76 ∧ gI s 76 ≤ 20 := hRs.1 76; have : (0 : Int) ≤ gI s23 76 ∧ gI s23 76 ≤ 20 := hRs23.1 76; have : (0 : Int) ≤ gI s 77 ∧ gI s 77 ≤ 19 := hRs.1 77; have : (0 : Int) ≤ gI s23 77 ∧ gI s23 77 ≤ 19 := hRs23.1 77; have : (0 : Int) ≤ gI s 47 ∧ gI s 47 ≤ 1 := hRs.1 47; omega)) (fun r17 er17 hr17 => ?_)
          have hr17_0 := hr17
          have hr17_0 : (r17 = 1 ∧ 0 < cM s3 x2.toNat ∧ vM s3 x2.toNat = 0) ∨ (r17 = 0 ∧ (cM s3 x2.toNat ≤ 0 ∨ vM s3 x2.toNat ≠ 0)) := hr17_0
          refine wp_rg (by have : (0 : Int) ≤ gI s3 47 ∧ gI s3 47 ≤ 1 := hRs3.1 47; have : (0 : Int) ≤ gI s 1 ∧ gI s 1 ≤ 1600 := hRs.1 1; have : (0 : Int) ≤ gI s3 1 ∧ gI s3 1 ≤ 1600 := hRs3.1 1; have : (0 : Int) ≤ gI s 76 ∧ gI s 76 ≤ 20 := hRs.1 76; have : (0 : Int) ≤ gI s23 76 ∧ gI s23 76 ≤ 20 := hRs23.1 76; have : (0 : Int) ≤ gI s 77 ∧ gI s 77 ≤ 19 := hRs.1 77; have : (0 : Int) ≤ gI s23 77 ∧ gI s23 77 ≤ 19 := hRs23.1 77; have : (0 : Int) ≤ gI s 47 ∧ gI s 47 ≤ 1 := hRs.1 47; omega) ?_
          refine wp_if (fun c3 => ?_) (fun c3 => ?_)
          · skip
            unfold m_x12_crash_J44
            exact ih25 x1 (x2 + 1) s3 hRs3 (by show 0 ≤ x1 ∧ x1 ≤ (x2 + 1) ∧ (x2 + 1) ≤ 48; have : (0 : Int) ≤ gI s3 47 ∧ gI s3 47 ≤ 1 := hRs3.1 47; have : (0 : Int) ≤ gI s 1 ∧ gI s 1 ≤ 1600 := hRs.1 1; have : (0 : Int) ≤ gI s3 1 ∧ gI s3 1 ≤ 1600 := hRs3.1 1; have : (0 : Int) ≤ gI s 76 ∧ gI s 76 ≤ 20 := hRs.1 76; have : (0 : Int) ≤ gI s23 76 ∧ gI s23 76 ≤ 20 := hRs23.1 76; have : (0 : Int) ≤ gI s 77 ∧ gI s 77 ≤ 19 := hRs.1 77; have : (0 : Int) ≤ gI s23 77 ∧ gI s23 77 ≤ 19 := hRs23.1 77; have : (0 : Int) ≤ gI s 47 ∧ gI s 47 ≤ 1 := hRs.1 47; omega) (hv25_1) (hv25_2) (hv25_3) (by have : (0 : Int) ≤ gI s3 47 ∧ gI s3 47 ≤ 1 := hRs3.1 47; have : (0 : Int) ≤ gI s 1 ∧ gI s 1 ≤ 1600 := hRs.1 1; have : (0 : Int) ≤ gI s3 1 ∧ gI s3 1 ≤ 1600 := hRs3.1 1; have : (0 : Int) ≤ gI s 76 ∧ gI s 76 ≤ 20 := hRs.1 76; have : (0 : Int) ≤ gI s23 76 ∧ gI s23 76 ≤ 20 := hRs23.1 76; have : (0 : Int) ≤ gI s 77 ∧ gI s 77 ≤ 19 := hRs.1 77; have : (0 : Int) ≤ gI s23 77 ∧ gI s23 77 ≤ 19 := hRs23.1 77; have : (0 : Int) ≤ gI s 47 ∧ gI s 47 ≤ 1 := hRs.1 47; omega)
          · skip
            unfold m_x12_crash_J44
            exact ih25 (x1 + 1) (x2 + 1) s3 hRs3 (by show 0 ≤ (x1 + 1) ∧ (x1 + 1) ≤ (x2 + 1) ∧ (x2 + 1) ≤ 48; have : (0 : Int) ≤ gI s3 47 ∧ gI s3 47 ≤ 1 := hRs3.1 47; have : (0 : Int) ≤ gI s 1 ∧ gI s 1 ≤ 1600 := hRs.1 1; have : (0 : Int) ≤ gI s3 1 ∧ gI s3 1 ≤ 1600 := hRs3.1 1; have : (0 : Int) ≤ gI s 76 ∧ gI s 76 ≤ 20 := hRs.1 76; have : (0 : Int) ≤ gI s23 76 ∧ gI s23 76 ≤ 20 := hRs23.1 76; have : (0 : Int) ≤ gI s 77 ∧ gI s 77 ≤ 19 := hRs.1 77; have : (0 : Int) ≤ gI s23 77 ∧ gI s23 77 ≤ 19 := hRs23.1 77; have : (0 : Int) ≤ gI s 47 ∧ gI s 47 ≤ 1 := hRs.1 47; omega) (hv25_1) (hv25_2) (hv25_3) (by have : (0 : Int) ≤ gI s3 47 ∧ gI s3 47 ≤ 1 := hRs3.1 47; have : (0 : Int) ≤ gI s 1 ∧ gI s 1 ≤ 1600 := hRs.1 1; have : (0 : Int) ≤ gI s3 1 ∧ gI s3 1 ≤ 1600 := hRs3.1 1; have : (0 : Int) ≤ gI s 76 ∧ gI s 76 ≤ 20 := hRs.1 76; have : (0 : Int) ≤ gI s23 76 ∧ gI s23 76 ≤ 20 := hRs23.1 76; have : (0 : Int) ≤ gI s 77 ∧ gI s 77 ≤ 19 := hRs.1 77; have : (0 : Int) ≤ gI s23 77 ∧ gI s23 77 ≤ 19 := hRs23.1 77; have : (0 : Int) ≤ gI s 47 ∧ gI s 47 ≤ 1 := hRs.1 47; omega)
    exact L25 FU 0 0 s25 hRs25 (by show 0 ≤ (0 : Int) ∧ (0 : Int) ≤ (0 : Int) ∧ (0 : Int) ≤ 48; have : (0 : Int) ≤ gI s 76 ∧ gI s 76 ≤ 20 := hRs.1 76; have : (0 : Int) ≤ gI s23 76 ∧ gI s23 76 ≤ 20 := hRs23.1 76; have : (0 : Int) ≤ gI s 77 ∧ gI s 77 ≤ 19 := hRs.1 77; have : (0 : Int) ≤ gI s23 77 ∧ gI s23 77 ≤ 19 := hRs23.1 77; have : (0 : Int) ≤ gI s 47 ∧ gI s 47 ≤ 1 := hRs.1 47; omega) (GA_eq Gs23 ⟨(Fs25.2.1 39 (by decide)), (Fs25.2.1 42 (by decide)), (Fs25.2.1 43 (by decide)), (Fs25.2.1 44 (by decide))⟩ (Fs25.2.1 49 (by decide)) (Fs25.2.1 75 (by decide)) (Fs25.1 76 (by decide)) (Fs25.1 77 (by decide))) (⟨((Fs25.1 1 (by decide)).trans (Fs23.1 1 (by decide))), ((Fs25.1 47 (by decide)).trans (Fs23.1 47 (by decide))), ((Fs25.2.2.1 78 (by decide)).trans (Fs23.2.2.1 78 (by decide))), ((Fs25.2.1 39 (by decide)).trans (Fs23.2.1 39 (by decide)))⟩) (kt) (by have := FU_big; have := FU_big2; have : (0 : Int) ≤ gI s 76 ∧ gI s 76 ≤ 20 := hRs.1 76; have : (0 : Int) ≤ gI s23 76 ∧ gI s23 76 ≤ 20 := hRs23.1 76; have : (0 : Int) ≤ gI s 77 ∧ gI s 77 ≤ 19 := hRs.1 77; have : (0 : Int) ≤ gI s23 77 ∧ gI s23 77 ≤ 19 := hRs23.1 77; have : (0 : Int) ≤ gI s 47 ∧ gI s 47 ≤ 1 := hRs.1 47; omega)
set_option maxHeartbeats 2000000 in
theorem w_x12_isDrawn {s : MS} (hRs : Rr s) (hp0 : GA s) (hp1 : 0 ≤ gL s 78 ∧ gL s 78 ≤ 2147483647) (hp2 : gI s 47 ≠ 0) : wp (m_x12_isDrawn s) (fun q => (Rr q.2) ∧ (q.1 = 0 ∨ q.1 = 1) ∧ (GA q.2) ∧ (gI q.2 1 = gI s 1 ∧ gI q.2 47 = gI s 47 ∧ gA q.2 39 = gA s 39) ∧ (0 ≤ gL q.2 78 ∧ gL q.2 78 ≤ 2147483647)) := by
  have J20 : ∀ (s4 : MS), Rr s4 → (GA s4) → (gI s4 1 = gI s 1 ∧ gI s4 47 = gI s 47 ∧ gA s4 39 = gA s 39) → (0 ≤ gL s4 78 ∧ gL s4 78 ≤ 2147483647) → wp (m_x12_isDrawn_J20 s4) (fun q => (Rr q.2) ∧ (q.1 = 0 ∨ q.1 = 1) ∧ (GA q.2) ∧ (gI q.2 1 = gI s 1 ∧ gI q.2 47 = gI s 47 ∧ gA q.2 39 = gA s 39) ∧ (0 ≤ gL q.2 78 ∧ gL q.2 78 ≤ 2147483647)) := by
    intro s4 hRs4 hj20_0 hj20_1 hj20_2
    unfold m_x12_isDrawn_J20
    refine wp_bn (wv_x12_volumeMany hRs4) (fun r6 er6 hr6 => ?_)
    obtain ⟨hr6_0, hr6_1⟩ := hr6
    have hr6_0 : r6 = sm 8 (ivol s4) := hr6_0
    have hr6_1 : 0 ≤ r6 ∧ r6 ≤ 8 := hr6_1
    refine wp_rg (by have : (0 : Int) ≤ gI s4 47 ∧ gI s4 47 ≤ 1 := hRs4.1 47; have : (0 : Int) ≤ gI s 1 ∧ gI s 1 ≤ 1600 := hRs.1 1; have : (0 : Int) ≤ gI s4 1 ∧ gI s4 1 ≤ 1600 := hRs4.1 1; have : (0 : Int) ≤ gI s 47 ∧ gI s 47 ≤ 1 := hRs.1 47; omega) ?_
    refine wp_if (fun c1 => ?_) (fun c1 => ?_)
    · skip
      exact wp_some ⟨hRs4, by show (0 : Int) = 0 ∨ (0 : Int) = 1; have : (0 : Int) ≤ gI s4 47 ∧ gI s4 47 ≤ 1 := hRs4.1 47; have : (0 : Int) ≤ gI s 1 ∧ gI s 1 ≤ 1600 := hRs.1 1; have : (0 : Int) ≤ gI s4 1 ∧ gI s4 1 ≤ 1600 := hRs4.1 1; have : (0 : Int) ≤ gI s 47 ∧ gI s 47 ≤ 1 := hRs.1 47; omega, by show GA s4; exact (hj20_0), by show gI s4 1 = gI s 1 ∧ gI s4 47 = gI s 47 ∧ gA s4 39 = gA s 39; exact (hj20_1), by show 0 ≤ gL s4 78 ∧ gL s4 78 ≤ 2147483647; exact (hj20_2)⟩
    · skip
      refine wp_bn (wv_x12_volumeMany hRs4) (fun r10 er10 hr10 => ?_)
      obtain ⟨hr10_0, hr10_1⟩ := hr10
      have hr10_0 : r10 = sm 8 (ivol s4) := hr10_0
      have hr10_1 : 0 ≤ r10 ∧ r10 ≤ 8 := hr10_1
      refine wp_bn (w_x12_drawOf hRs4 (hj20_2) (by show 1 ≤ r10 ∧ r10 ≤ 100; have : (0 : Int) ≤ gI s4 47 ∧ gI s4 47 ≤ 1 := hRs4.1 47; have : (0 : Int) ≤ gI s 1 ∧ gI s 1 ≤ 1600 := hRs.1 1; have : (0 : Int) ≤ gI s4 1 ∧ gI s4 1 ≤ 1600 := hRs4.1 1; have : (0 : Int) ≤ gI s 47 ∧ gI s 47 ≤ 1 := hRs.1 47; omega)) (fun qqr13 eqr13s hqr13s => ?_)
      obtain ⟨qr13r, qr13s⟩ := qqr13
      dsimp only at eqr13s hqr13s ⊢
      have Fqr13s : F_x12_drawOf s4 qr13s := fr_x12_drawOf eqr13s
      obtain ⟨hRqr13s, hqr13s_0, hqr13s_1⟩ := hqr13s
      have hqr13s_0 : 0 ≤ qr13r ∧ qr13r < r10 := hqr13s_0
      have hqr13s_1 : 0 ≤ gL qr13s 78 ∧ gL qr13s 78 ≤ 2147483647 := hqr13s_1
      have G13 : GA qr13s := GA_eq hj20_0 ⟨(Fqr13s.2.1 39 (by decide)), (Fqr13s.2.1 42 (by decide)), (Fqr13s.2.1 43 (by decide)), (Fqr13s.2.1 44 (by decide))⟩ (Fqr13s.2.1 49 (by decide)) (Fqr13s.2.1 75 (by decide)) (Fqr13s.1 76 (by decide)) (Fqr13s.1 77 (by decide))
      have iv : ∀ u, ivol qr13s u = ivol s4 u := fun u => by unfold ivol; rw [((Fqr13s.1 47 (by decide))), ((Fqr13s.2.1 49 (by decide)))]
      refine wp_bn (w_x12_volumeAt hRqr13s (by rw [sm_c (g := ivol s4) (fun u _ => iv u)]; have z := hr10_0; omega)) (fun r15 er15 hr15 => ?_)
      have hr15_0 := hr15
      have hr15_0 : (0 ≤ r15 ∧ r15 < 8) ∧ gI qr13s 47 ≠ 0 ∧ gA qr13s 49 r15.toNat ≠ 255 := hr15_0
      refine wp_bn (w_x12_drawOf hRqr13s (hqr13s_1) (by show 1 ≤ (3 : Int) ∧ (3 : Int) ≤ 100; have : gI qr13s 47 = gI s4 47 := Fqr13s.1 47 (by decide); have : (0 : Int) ≤ gI s4 47 ∧ gI s4 47 ≤ 1 := hRs4.1 47; have : (0 : Int) ≤ gI s 1 ∧ gI s 1 ≤ 1600 := hRs.1 1; have : (0 : Int) ≤ gI s4 1 ∧ gI s4 1 ≤ 1600 := hRs4.1 1; have : (0 : Int) ≤ gI s 47 ∧ gI s 47 ≤ 1 := hRs.1 47; omega)) (fun qqr18 eqr18s hqr18s => ?_)
      obtain ⟨qr18r, qr18s⟩ := qqr18
      dsimp only at eqr18s hqr18s ⊢
      have Fqr18s : F_x12_drawOf qr13s qr18s := fr_x12_drawOf eqr18s
      obtain ⟨hRqr18s, hqr18s_0, hqr18s_1⟩ := hqr18s
      have hqr18s_0 : 0 ≤ qr18r ∧ qr18r < (3 : Int) := hqr18s_0
      have hqr18s_1 : 0 ≤ gL qr18s 78 ∧ gL qr18s 78 ≤ 2147483647 := hqr18s_1
      refine wp_bn (w_x12_drawOf hRqr18s (hqr18s_1) (by show 1 ≤ (40 : Int) ∧ (40 : Int) ≤ 100; have : gI qr13s 47 = gI s4 47 := Fqr13s.1 47 (by decide); have : (0 : Int) ≤ gI s4 47 ∧ gI s4 47 ≤ 1 := hRs4.1 47; have : (0 : Int) ≤ gI s 1 ∧ gI s 1 ≤ 1600 := hRs.1 1; have : (0 : Int) ≤ gI s4 1 ∧ gI s4 1 ≤ 1600 := hRs4.1 1; have : (0 : Int) ≤ gI s 47 ∧ gI s 47 ≤ 1 := hRs.1 47; omega)) (fun qqr21 eqr21s hqr21s => ?_)
      obtain ⟨qr21r, qr21s⟩ := qqr21
      dsimp only at eqr21s hqr21s ⊢
      have Fqr21s : F_x12_drawOf qr18s qr21s := fr_x12_drawOf eqr21s
      obtain ⟨hRqr21s, hqr21s_0, hqr21s_1⟩ := hqr21s
      have hqr21s_0 : 0 ≤ qr21r ∧ qr21r < (40 : Int) := hqr21s_0
      have hqr21s_1 : 0 ≤ gL qr21s 78 ∧ gL qr21s 78 ≤ 2147483647 := hqr21s_1
      have G21 : GA qr21s := GA_eq G13 ⟨((Fqr21s.2.1 39 (by decide)).trans (Fqr18s.2.1 39 (by decide))), ((Fqr21s.2.1 42 (by decide)).trans (Fqr18s.2.1 42 (by decide))), ((Fqr21s.2.1 43 (by decide)).trans (Fqr18s.2.1 43 (by decide))), ((Fqr21s.2.1 44 (by decide)).trans (Fqr18s.2.1 44 (by decide)))⟩ ((Fqr21s.2.1 49 (by decide)).trans (Fqr18s.2.1 49 (by decide))) ((Fqr21s.2.1 75 (by decide)).trans (Fqr18s.2.1 75 (by decide))) ((Fqr21s.1 76 (by decide)).trans (Fqr18s.1 76 (by decide))) ((Fqr21s.1 77 (by decide)).trans (Fqr18s.1 77 (by decide)))
      have kb := G21.1.1.2 r15.toNat (by omega)
      have e49 : gA qr21s 49 = gA qr13s 49 := ((Fqr21s.2.1 49 (by decide)).trans (Fqr18s.2.1 49 (by decide)))
      have kne : gA qr21s 49 r15.toNat ≠ 255 := by rw [e49]; exact hr15_0.2.2
      refine wp_rg (by have : gI qr13s 47 = gI s4 47 := Fqr13s.1 47 (by decide); have : (0 : Int) ≤ gI s4 47 ∧ gI s4 47 ≤ 1 := hRs4.1 47; have : (0 : Int) ≤ gI s 1 ∧ gI s 1 ≤ 1600 := hRs.1 1; have : (0 : Int) ≤ gI s4 1 ∧ gI s4 1 ≤ 1600 := hRs4.1 1; have : (0 : Int) ≤ gI s 47 ∧ gI s 47 ≤ 1 := hRs.1 47; omega) ?_
      refine wp_if (fun c2 => ?_) (fun c2 => ?_)
      · skip
        refine wp_bn (w_x12_tries hRqr21s (by show (3 : Int) = 2 ∨ (3 : Int) = 3; have : gI qr13s 47 = gI s4 47 := Fqr13s.1 47 (by decide); have : (0 : Int) ≤ gI s4 47 ∧ gI s4 47 ≤ 1 := hRs4.1 47; have : (0 : Int) ≤ gI s 1 ∧ gI s 1 ≤ 1600 := hRs.1 1; have : (0 : Int) ≤ gI s4 1 ∧ gI s4 1 ≤ 1600 := hRs4.1 1; have : (0 : Int) ≤ gI s 47 ∧ gI s 47 ≤ 1 := hRs.1 47; omega) (by show 0 ≤ r15 ∧ r15 < 8; have : gI qr13s 47 = gI s4 47 := Fqr13s.1 47 (by decide); have : (0 : Int) ≤ gI s4 47 ∧ gI s4 47 ≤ 1 := hRs4.1 47; have : (0 : Int) ≤ gI s 1 ∧ gI s 1 ≤ 1600 := hRs.1 1; have : (0 : Int) ≤ gI s4 1 ∧ gI s4 1 ≤ 1600 := hRs4.1 1; have : (0 : Int) ≤ gI s 47 ∧ gI s 47 ≤ 1 := hRs.1 47; omega) (G21.1.1.1) (G21.1.2.2.1) (G21.1.2.2.2.1) (by have := G21.1.2.1.1; omega) (G21.1.2.1.2) (by show ((0 ≤ gA qr21s 49 r15.toNat ∧ gA qr21s 49 r15.toNat < 254) ∨ gA qr21s 49 r15.toNat = 254); have : gI qr13s 47 = gI s4 47 := Fqr13s.1 47 (by decide); have : (0 : Int) ≤ gI s4 47 ∧ gI s4 47 ≤ 1 := hRs4.1 47; have : (0 : Int) ≤ gI s 1 ∧ gI s 1 ≤ 1600 := hRs.1 1; have : (0 : Int) ≤ gI s4 1 ∧ gI s4 1 ≤ 1600 := hRs4.1 1; have : (0 : Int) ≤ gI s 47 ∧ gI s 47 ≤ 1 := hRs.1 47; omega) (by show (3 : Int) = 2 → (0 ≤ qr21r ∧ qr21r ≤ 999) ∧ (0 ≤ (0 : Int) ∧ (0 : Int) ≤ 999); have : gI qr13s 47 = gI s4 47 := Fqr13s.1 47 (by decide); have : (0 : Int) ≤ gI s4 47 ∧ gI s4 47 ≤ 1 := hRs4.1 47; have : (0 : Int) ≤ gI s 1 ∧ gI s 1 ≤ 1600 := hRs.1 1; have : (0 : Int) ≤ gI s4 1 ∧ gI s4 1 ≤ 1600 := hRs4.1 1; have : (0 : Int) ≤ gI s 47 ∧ gI s 47 ≤ 1 := hRs.1 47; omega) (by show R2 qr21r; have : gI qr13s 47 = gI s4 47 := Fqr13s.1 47 (by decide); have : (0 : Int) ≤ gI s4 47 ∧ gI s4 47 ≤ 1 := hRs4.1 47; have : (0 : Int) ≤ gI s 1 ∧ gI s 1 ≤ 1600 := hRs.1 1; have : (0 : Int) ≤ gI s4 1 ∧ gI s4 1 ≤ 1600 := hRs4.1 1; have : (0 : Int) ≤ gI s 47 ∧ gI s 47 ≤ 1 := hRs.1 47; omega) (by show R2 (0 : Int); have : gI qr13s 47 = gI s4 47 := Fqr13s.1 47 (by decide); have : (0 : Int) ≤ gI s4 47 ∧ gI s4 47 ≤ 1 := hRs4.1 47; have : (0 : Int) ≤ gI s 1 ∧ gI s 1 ≤ 1600 := hRs.1 1; have : (0 : Int) ≤ gI s4 1 ∧ gI s4 1 ≤ 1600 := hRs4.1 1; have : (0 : Int) ≤ gI s 47 ∧ gI s 47 ≤ 1 := hRs.1 47; omega)) (fun qqr26 eqr26s hqr26s => ?_)
        obtain ⟨qr26r, qr26s⟩ := qqr26
        dsimp only at eqr26s hqr26s ⊢
        have Fqr26s : F_x12_tries qr21s qr26s := fr_x12_tries eqr26s
        obtain ⟨hRqr26s, hqr26s_0, hqr26s_1, hqr26s_2, hqr26s_3, hqr26s_4⟩ := hqr26s
        have hqr26s_0 : qr26r = 0 ∨ qr26r = 1 := hqr26s_0
        have hqr26s_1 : KS qr21s qr26s := hqr26s_1
        have hqr26s_2 : RT qr26s := hqr26s_2
        have hqr26s_3 : RW0 qr21s qr26s r15.toNat := hqr26s_3
        have hqr26s_4 : qr26r = 0 → ∀ j, gA qr26s 49 j = gA qr21s 49 j := hqr26s_4
        unfold m_x12_isDrawn_J84
        refine wp_bo (by have : gI qr13s 47 = gI s4 47 := Fqr13s.1 47 (by decide); have : (0 : Int) ≤ gI s4 47 ∧ gI s4 47 ≤ 1 := hRs4.1 47; have : (0 : Int) ≤ gI s 1 ∧ gI s 1 ≤ 1600 := hRs.1 1; have : (0 : Int) ≤ gI s4 1 ∧ gI s4 1 ≤ 1600 := hRs4.1 1; have : (0 : Int) ≤ gI s 47 ∧ gI s 47 ≤ 1 := hRs.1 47; omega) ?_
        exact wp_some ⟨hRqr26s, by show qr26r = 0 ∨ qr26r = 1; have : gI qr13s 47 = gI s4 47 := Fqr13s.1 47 (by decide); have : (0 : Int) ≤ gI s4 47 ∧ gI s4 47 ≤ 1 := hRs4.1 47; have : (0 : Int) ≤ gI s 1 ∧ gI s 1 ≤ 1600 := hRs.1 1; have : (0 : Int) ≤ gI s4 1 ∧ gI s4 1 ≤ 1600 := hRs4.1 1; have : (0 : Int) ≤ gI s 47 ∧ gI s 47 ≤ 1 := hRs.1 47; omega, by show GA qr26s; exact (GA_tries (v := r15.toNat) G21 hqr26s_1 hqr26s_2 (by omega) hqr26s_3 (Fqr26s.2.1 75 (by decide)) (Fqr26s.1 76 (by decide)) (Fqr26s.1 77 (by decide))), by show gI qr26s 1 = gI s 1 ∧ gI qr26s 47 = gI s 47 ∧ gA qr26s 39 = gA s 39; exact (⟨(((Fqr26s.1 1 (by decide)).trans ((Fqr21s.1 1 (by decide)).trans ((Fqr18s.1 1 (by decide)).trans (Fqr13s.1 1 (by decide)))))).trans hj20_1.1, (((Fqr26s.1 47 (by decide)).trans ((Fqr21s.1 47 (by decide)).trans ((Fqr18s.1 47 (by decide)).trans (Fqr13s.1 47 (by decide)))))).trans hj20_1.2.1, (((Fqr26s.2.1 39 (by decide)).trans ((Fqr21s.2.1 39 (by decide)).trans ((Fqr18s.2.1 39 (by decide)).trans (Fqr13s.2.1 39 (by decide)))))).trans hj20_1.2.2⟩), by show 0 ≤ gL qr26s 78 ∧ gL qr26s 78 ≤ 2147483647; rw [(Fqr26s.2.2.1 78 (by decide))]; exact hqr21s_1⟩
      · skip
        refine wp_bn (w_x12_drawOf hRqr21s (hqr21s_1) (by show 1 ≤ (100 : Int) ∧ (100 : Int) ≤ 100; have : gI qr13s 47 = gI s4 47 := Fqr13s.1 47 (by decide); have : (0 : Int) ≤ gI s4 47 ∧ gI s4 47 ≤ 1 := hRs4.1 47; have : (0 : Int) ≤ gI s 1 ∧ gI s 1 ≤ 1600 := hRs.1 1; have : (0 : Int) ≤ gI s4 1 ∧ gI s4 1 ≤ 1600 := hRs4.1 1; have : (0 : Int) ≤ gI s 47 ∧ gI s 47 ≤ 1 := hRs.1 47; omega)) (fun qqr29 eqr29s hqr29s => ?_)
        obtain ⟨qr29r, qr29s⟩ := qqr29
        dsimp only at eqr29s hqr29s ⊢
        have Fqr29s : F_x12_drawOf qr21s qr29s := fr_x12_drawOf eqr29s
        obtain ⟨hRqr29s, hqr29s_0, hqr29s_1⟩ := hqr29s
        have hqr29s_0 : 0 ≤ qr29r ∧ qr29r < (100 : Int) := hqr29s_0
        have hqr29s_1 : 0 ≤ gL qr29s 78 ∧ gL qr29s 78 ≤ 2147483647 := hqr29s_1
        have G29 : GA qr29s := GA_eq G21 ⟨(Fqr29s.2.1 39 (by decide)), (Fqr29s.2.1 42 (by decide)), (Fqr29s.2.1 43 (by decide)), (Fqr29s.2.1 44 (by decide))⟩ (Fqr29s.2.1 49 (by decide)) (Fqr29s.2.1 75 (by decide)) (Fqr29s.1 76 (by decide)) (Fqr29s.1 77 (by decide))
        have kb2 := G29.1.1.2 r15.toNat (by omega)
        have e29 : gA qr29s 49 = gA qr21s 49 := (Fqr29s.2.1 49 (by decide))
        have kne2 : gA qr29s 49 r15.toNat ≠ 255 := by rw [e29]; exact kne
        refine wp_bn (w_x12_tries hRqr29s (by show (2 : Int) = 2 ∨ (2 : Int) = 3; have : gI qr13s 47 = gI s4 47 := Fqr13s.1 47 (by decide); have : (0 : Int) ≤ gI s4 47 ∧ gI s4 47 ≤ 1 := hRs4.1 47; have : (0 : Int) ≤ gI s 1 ∧ gI s 1 ≤ 1600 := hRs.1 1; have : (0 : Int) ≤ gI s4 1 ∧ gI s4 1 ≤ 1600 := hRs4.1 1; have : (0 : Int) ≤ gI s 47 ∧ gI s 47 ≤ 1 := hRs.1 47; omega) (by show 0 ≤ r15 ∧ r15 < 8; have : gI qr13s 47 = gI s4 47 := Fqr13s.1 47 (by decide); have : (0 : Int) ≤ gI s4 47 ∧ gI s4 47 ≤ 1 := hRs4.1 47; have : (0 : Int) ≤ gI s 1 ∧ gI s 1 ≤ 1600 := hRs.1 1; have : (0 : Int) ≤ gI s4 1 ∧ gI s4 1 ≤ 1600 := hRs4.1 1; have : (0 : Int) ≤ gI s 47 ∧ gI s 47 ≤ 1 := hRs.1 47; omega) (G29.1.1.1) (G29.1.2.2.1) (G29.1.2.2.2.1) (by have := G29.1.2.1.1; omega) (G29.1.2.1.2) (by show ((0 ≤ gA qr29s 49 r15.toNat ∧ gA qr29s 49 r15.toNat < 254) ∨ gA qr29s 49 r15.toNat = 254); have : gI qr13s 47 = gI s4 47 := Fqr13s.1 47 (by decide); have : (0 : Int) ≤ gI s4 47 ∧ gI s4 47 ≤ 1 := hRs4.1 47; have : (0 : Int) ≤ gI s 1 ∧ gI s 1 ≤ 1600 := hRs.1 1; have : (0 : Int) ≤ gI s4 1 ∧ gI s4 1 ≤ 1600 := hRs4.1 1; have : (0 : Int) ≤ gI s 47 ∧ gI s 47 ≤ 1 := hRs.1 47; omega) (by show (2 : Int) = 2 → (0 ≤ qr21r ∧ qr21r ≤ 999) ∧ (0 ≤ qr29r ∧ qr29r ≤ 999); have : gI qr13s 47 = gI s4 47 := Fqr13s.1 47 (by decide); have : (0 : Int) ≤ gI s4 47 ∧ gI s4 47 ≤ 1 := hRs4.1 47; have : (0 : Int) ≤ gI s 1 ∧ gI s 1 ≤ 1600 := hRs.1 1; have : (0 : Int) ≤ gI s4 1 ∧ gI s4 1 ≤ 1600 := hRs4.1 1; have : (0 : Int) ≤ gI s 47 ∧ gI s 47 ≤ 1 := hRs.1 47; omega) (by show R2 qr21r; have : gI qr13s 47 = gI s4 47 := Fqr13s.1 47 (by decide); have : (0 : Int) ≤ gI s4 47 ∧ gI s4 47 ≤ 1 := hRs4.1 47; have : (0 : Int) ≤ gI s 1 ∧ gI s 1 ≤ 1600 := hRs.1 1; have : (0 : Int) ≤ gI s4 1 ∧ gI s4 1 ≤ 1600 := hRs4.1 1; have : (0 : Int) ≤ gI s 47 ∧ gI s 47 ≤ 1 := hRs.1 47; omega) (by show R2 qr29r; have : gI qr13s 47 = gI s4 47 := Fqr13s.1 47 (by decide); have : (0 : Int) ≤ gI s4 47 ∧ gI s4 47 ≤ 1 := hRs4.1 47; have : (0 : Int) ≤ gI s 1 ∧ gI s 1 ≤ 1600 := hRs.1 1; have : (0 : Int) ≤ gI s4 1 ∧ gI s4 1 ≤ 1600 := hRs4.1 1; have : (0 : Int) ≤ gI s 47 ∧ gI s 47 ≤ 1 := hRs.1 47; omega)) (fun qqr32 eqr32s hqr32s => ?_)
        obtain ⟨qr32r, qr32s⟩ := qqr32
        dsimp only at eqr32s hqr32s ⊢
        have Fqr32s : F_x12_tries qr29s qr32s := fr_x12_tries eqr32s
        obtain ⟨hRqr32s, hqr32s_0, hqr32s_1, hqr32s_2, hqr32s_3, hqr32s_4⟩ := hqr32s
        have hqr32s_0 : qr32r = 0 ∨ qr32r = 1 := hqr32s_0
        have hqr32s_1 : KS qr29s qr32s := hqr32s_1
        have hqr32s_2 : RT qr32s := hqr32s_2
        have hqr32s_3 : RW0 qr29s qr32s r15.toNat := hqr32s_3
        have hqr32s_4 : qr32r = 0 → ∀ j, gA qr32s 49 j = gA qr29s 49 j := hqr32s_4
        unfold m_x12_isDrawn_J84
        refine wp_bo (by have : gI qr13s 47 = gI s4 47 := Fqr13s.1 47 (by decide); have : (0 : Int) ≤ gI s4 47 ∧ gI s4 47 ≤ 1 := hRs4.1 47; have : (0 : Int) ≤ gI s 1 ∧ gI s 1 ≤ 1600 := hRs.1 1; have : (0 : Int) ≤ gI s4 1 ∧ gI s4 1 ≤ 1600 := hRs4.1 1; have : (0 : Int) ≤ gI s 47 ∧ gI s 47 ≤ 1 := hRs.1 47; omega) ?_
        exact wp_some ⟨hRqr32s, by show qr32r = 0 ∨ qr32r = 1; have : gI qr13s 47 = gI s4 47 := Fqr13s.1 47 (by decide); have : (0 : Int) ≤ gI s4 47 ∧ gI s4 47 ≤ 1 := hRs4.1 47; have : (0 : Int) ≤ gI s 1 ∧ gI s 1 ≤ 1600 := hRs.1 1; have : (0 : Int) ≤ gI s4 1 ∧ gI s4 1 ≤ 1600 := hRs4.1 1; have : (0 : Int) ≤ gI s 47 ∧ gI s 47 ≤ 1 := hRs.1 47; omega, by show GA qr32s; exact (GA_tries (v := r15.toNat) G29 hqr32s_1 hqr32s_2 (by omega) hqr32s_3 (Fqr32s.2.1 75 (by decide)) (Fqr32s.1 76 (by decide)) (Fqr32s.1 77 (by decide))), by show gI qr32s 1 = gI s 1 ∧ gI qr32s 47 = gI s 47 ∧ gA qr32s 39 = gA s 39; exact (⟨(((Fqr32s.1 1 (by decide)).trans ((Fqr29s.1 1 (by decide)).trans ((Fqr21s.1 1 (by decide)).trans ((Fqr18s.1 1 (by decide)).trans (Fqr13s.1 1 (by decide))))))).trans hj20_1.1, (((Fqr32s.1 47 (by decide)).trans ((Fqr29s.1 47 (by decide)).trans ((Fqr21s.1 47 (by decide)).trans ((Fqr18s.1 47 (by decide)).trans (Fqr13s.1 47 (by decide))))))).trans hj20_1.2.1, (((Fqr32s.2.1 39 (by decide)).trans ((Fqr29s.2.1 39 (by decide)).trans ((Fqr21s.2.1 39 (by decide)).trans ((Fqr18s.2.1 39 (by decide)).trans (Fqr13s.2.1 39 (by decide))))))).trans hj20_1.2.2⟩), by show 0 ≤ gL qr32s 78 ∧ gL qr32s 78 ≤ 2147483647; rw [(Fqr32s.2.2.1 78 (by decide))]; exact hqr29s_1⟩
  unfold m_x12_isDrawn
  refine wp_bn (w_x12_drawOf hRs (hp1) (by show 1 ≤ (100 : Int) ∧ (100 : Int) ≤ 100; have : (0 : Int) ≤ gI s 47 ∧ gI s 47 ≤ 1 := hRs.1 47; omega)) (fun qqr35 eqr35s hqr35s => ?_)
  obtain ⟨qr35r, qr35s⟩ := qqr35
  dsimp only at eqr35s hqr35s ⊢
  have Fqr35s : F_x12_drawOf s qr35s := fr_x12_drawOf eqr35s
  obtain ⟨hRqr35s, hqr35s_0, hqr35s_1⟩ := hqr35s
  have hqr35s_0 : 0 ≤ qr35r ∧ qr35r < (100 : Int) := hqr35s_0
  have hqr35s_1 : 0 ≤ gL qr35s 78 ∧ gL qr35s 78 ≤ 2147483647 := hqr35s_1
  have G35 : GA qr35s := GA_eq hp0 ⟨(Fqr35s.2.1 39 (by decide)), (Fqr35s.2.1 42 (by decide)), (Fqr35s.2.1 43 (by decide)), (Fqr35s.2.1 44 (by decide))⟩ (Fqr35s.2.1 49 (by decide)) (Fqr35s.2.1 75 (by decide)) (Fqr35s.1 76 (by decide)) (Fqr35s.1 77 (by decide))
  refine wp_rdIn (by have : (0 : Int) ≤ gI s 47 ∧ gI s 47 ≤ 1 := hRs.1 47; omega) (fun y36 ey36 => ?_)
  have by36 : (-2147483648 : Int) ≤ y36 ∧ y36 ≤ 2147483647 := ey36 ▸ hRqr35s.2.1 39 _ (by show _ < 10; have : (0 : Int) ≤ gI s 47 ∧ gI s 47 ≤ 1 := hRs.1 47; omega)
  have r36 : R2 y36 := ey36 ▸ hRqr35s.2.1 39 _ (by show _ < 10; omega)
  refine wp_rg (by have : (0 : Int) ≤ gI s 47 ∧ gI s 47 ≤ 1 := hRs.1 47; omega) ?_
  refine wp_rg (by have : (0 : Int) ≤ gI s 47 ∧ gI s 47 ≤ 1 := hRs.1 47; omega) ?_
  refine wp_if (fun c3 => ?_) (fun c3 => ?_)
  · skip
    exact J20 qr35s hRqr35s (G35) (⟨(Fqr35s.1 1 (by decide)), (Fqr35s.1 47 (by decide)), (Fqr35s.2.1 39 (by decide))⟩) (hqr35s_1)
  · skip
    refine wp_bn (w_x12_checks hRqr35s) (fun s41 es41 hs41 => ?_)
    have Fs41 : F_x12_checks qr35s s41 := fr_x12_checks es41
    obtain ⟨hRs41, hs41_0, hs41_1, hs41_2⟩ := hs41
    have hs41_0 : ∀ i, ¬ (8 ≤ i ∧ i < 16) → (∀ p, p < 48 → i ≠ 18 + 16 * p) → gA s41 49 i = gA qr35s 49 i := hs41_0
    have hs41_1 : ∀ u, u < 8 → gA s41 49 (8 + u) = gA qr35s 49 u := hs41_1
    have hs41_2 : ∀ p, p < 48 → gA s41 49 (18 + 16 * p) = gA qr35s 49 (17 + 16 * p) := hs41_2
    have Gs41 : GA s41 := GA_tree G35 ⟨(Fs41.2.1 39 (by decide)), (Fs41.2.1 42 (by decide)), (Fs41.2.1 43 (by decide)), (Fs41.2.1 44 (by decide))⟩ (RT_checks G35.1.1.1 (Fs41.2.1 39 (by decide)) hs41_0 hs41_1 hs41_2) (fun u hu => by
          by_cases z : u < 8
          · rw [hs41_0 u (by omega) (fun q _ => by omega)]; exact G35.1.1.2 u hu
          · have z2 := hs41_1 (u - 8) (by omega); rw [show 8 + (u - 8) = u by omega] at z2; rw [z2]; exact G35.1.1.2 (u - 8) (by omega)) (hs41_0 16 (by omega) (fun q _ => by omega)) (hs41_0 785 (by omega) (fun q _ => by omega)) (Fs41.2.1 75 (by decide)) (Fs41.1 76 (by decide)) (Fs41.1 77 (by decide))
    exact J20 s41 hRs41 (Gs41) (⟨((Fs41.1 1 (by decide)).trans (Fqr35s.1 1 (by decide))), ((Fs41.1 47 (by decide)).trans (Fqr35s.1 47 (by decide))), ((Fs41.2.1 39 (by decide)).trans (Fqr35s.2.1 39 (by decide)))⟩) (by rw [(Fs41.2.2.1 78 (by decide))]; exact hqr35s_1)
set_option maxHeartbeats 1000000 in
theorem w_x12_chance {p0 : Int} {s : MS} (hRs : Rr s) (hp0 : R2 p0) (hp1 : JI s) : wp (m_x12_chance p0 s) (fun q => (Rr q.2) ∧ (JI q.2) ∧ (gI q.2 1 = gI s 1)) := by
  have hpJ := hp1
  unfold m_x12_chance
  refine wp_rg (by have : (0 : Int) ≤ gI s 47 ∧ gI s 47 ≤ 1 := hRs.1 47; omega) ?_
  refine wp_if (fun c1 => ?_) (fun c1 => ?_)
  · skip
    unfold m_x12_chance_J19
    refine wp_bn (w_x12_refuses hRs (by show 0 ≤ (3 : Int) ∧ (3 : Int) < 6; have : (0 : Int) ≤ gI s 47 ∧ gI s 47 ≤ 1 := hRs.1 47; omega)) (fun qqr22 eqr22s hqr22s => ?_)
    obtain ⟨qr22r, qr22s⟩ := qqr22
    dsimp only at eqr22s hqr22s ⊢
    have Fqr22s : F_x12_refuses s qr22s := fr_x12_refuses eqr22s
    obtain ⟨hRqr22s, hqr22s_0⟩ := hqr22s
    have hqr22s_0 : qr22r = -1 := hqr22s_0
    exact wp_some ⟨hRqr22s, by show JI qr22s; exact (JI_eq hpJ ⟨(Fqr22s.2.1 39 (by decide)), (Fqr22s.2.1 42 (by decide)), (Fqr22s.2.1 43 (by decide)), (Fqr22s.2.1 44 (by decide))⟩ (Fqr22s.2.1 49 (by decide)) (Fqr22s.2.1 75 (by decide)) (Fqr22s.1 76 (by decide)) (Fqr22s.1 77 (by decide)) (Fqr22s.1 47 (by decide)) (Fqr22s.2.2.1 78 (by decide))), by show gI qr22s 1 = gI s 1; have : (0 : Int) ≤ gI s 47 ∧ gI s 47 ≤ 1 := hRs.1 47; have : (0 : Int) ≤ gI s 1 ∧ gI s 1 ≤ 1600 := hRs.1 1; have : gI qr22s 1 = gI s 1 := Fqr22s.1 1 (by decide); omega⟩
  · skip
    refine wp_rg (by have : (0 : Int) ≤ gI s 47 ∧ gI s 47 ≤ 1 := hRs.1 47; omega) ?_
    refine wp_bn (w_x12_isIn hRs (by show R8 p0; have : (0 : Int) ≤ gI s 47 ∧ gI s 47 ≤ 1 := hRs.1 47; omega) (by show R8 (1 : Int); have : (0 : Int) ≤ gI s 47 ∧ gI s 47 ≤ 1 := hRs.1 47; omega) (by show R8 (40 : Int); have : (0 : Int) ≤ gI s 47 ∧ gI s 47 ≤ 1 := hRs.1 47; omega)) (fun r27 er27 hr27 => ?_)
    have hr27_0 := hr27
    have hr27_0 : (r27 = 1 ∧ (1 : Int) ≤ p0 ∧ p0 ≤ (40 : Int)) ∨ (r27 = 0 ∧ (p0 < (1 : Int) ∨ (40 : Int) < p0)) := hr27_0
    refine wp_rg (by have : (0 : Int) ≤ gI s 47 ∧ gI s 47 ≤ 1 := hRs.1 47; omega) ?_
    refine wp_if (fun c2 => ?_) (fun c2 => ?_)
    · skip
      unfold m_x12_chance_J19
      refine wp_bn (w_x12_refuses hRs (by show 0 ≤ (3 : Int) ∧ (3 : Int) < 6; have : (0 : Int) ≤ gI s 47 ∧ gI s 47 ≤ 1 := hRs.1 47; omega)) (fun qqr22 eqr22s hqr22s => ?_)
      obtain ⟨qr22r, qr22s⟩ := qqr22
      dsimp only at eqr22s hqr22s ⊢
      have Fqr22s : F_x12_refuses s qr22s := fr_x12_refuses eqr22s
      obtain ⟨hRqr22s, hqr22s_0⟩ := hqr22s
      have hqr22s_0 : qr22r = -1 := hqr22s_0
      exact wp_some ⟨hRqr22s, by show JI qr22s; exact (JI_eq hpJ ⟨(Fqr22s.2.1 39 (by decide)), (Fqr22s.2.1 42 (by decide)), (Fqr22s.2.1 43 (by decide)), (Fqr22s.2.1 44 (by decide))⟩ (Fqr22s.2.1 49 (by decide)) (Fqr22s.2.1 75 (by decide)) (Fqr22s.1 76 (by decide)) (Fqr22s.1 77 (by decide)) (Fqr22s.1 47 (by decide)) (Fqr22s.2.2.1 78 (by decide))), by show gI qr22s 1 = gI s 1; have : (0 : Int) ≤ gI s 47 ∧ gI s 47 ≤ 1 := hRs.1 47; have : (0 : Int) ≤ gI s 1 ∧ gI s 1 ≤ 1600 := hRs.1 1; have : gI qr22s 1 = gI s 1 := Fqr22s.1 1 (by decide); omega⟩
    · skip
      refine wp_bn (w_x12_keeps hRs) (fun s31 es31 hs31 => ?_)
      have Fs31 : F_x12_keeps s s31 := fr_x12_keeps es31
      obtain ⟨hRs31, hs31_0, hs31_1, hs31_2, hs31_3⟩ := hs31
      have hs31_0 : gI s31 77 = (gI s 77 + 1) % 20 := hs31_0
      have hs31_1 : gI s31 76 ≤ gI s 76 + 1 ∧ gI s31 76 ≤ 20 := hs31_1
      have hs31_2 : ∀ j, j < 906 → gA s31 75 (906 * (gI s31 77).toNat + j) = gA s 49 j := hs31_2
      have hs31_3 : ∀ j, j < 906 * (gI s31 77).toNat ∨ 906 * (gI s31 77).toNat + 906 ≤ j → gA s31 75 j = gA s 75 j := hs31_3
      have kt : gI s 47 ≠ 0 := by omega
      have kG := JI_GA hpJ kt
      have Gs31 : GA s31 := GA_keeps hRs kG ⟨(Fs31.2.1 39 (by decide)), (Fs31.2.1 42 (by decide)), (Fs31.2.1 43 (by decide)), (Fs31.2.1 44 (by decide))⟩ (Fs31.2.1 49 (by decide)) hs31_0 hs31_1 hs31_2 hs31_3
      refine wp_bn (w_x12_clearsTouched hRs31) (fun s33 es33 hs33 => ?_)
      have Fs33 : F_x12_clearsTouched s31 s33 := fr_x12_clearsTouched es33
      have hRs33 := hs33
      have L37 : ∀ (n : Nat) (x1 : Int) (x2 : Int) (x3 : Int) (s4 : MS), Rr s4 → (1 ≤ x1 ∧ x1 ≤ 40) → (0 ≤ x2 ∧ x2 ≤ x3 ∧ x3 ≤ x1) → (GA s4) → (gI s4 1 = gI s 1 ∧ gI s4 47 = gI s 47 ∧ gA s4 39 = gA s 39) → (0 ≤ gL s4 78 ∧ gL s4 78 ≤ 2147483647) → (gI s 47 ≠ 0) → (41 - x3) < (n : Int) → wp (m_x12_chance_L37 n x1 x2 x3 s4) (fun q => (Rr q.2) ∧ (JI q.2) ∧ (gI q.2 1 = gI s 1)) := by
        refine fr_ind (fun x1 x2 x3 s4 hRs4 hv37_0 hv37_1 hv37_2 hv37_3 hv37_4 hv37_5 hm37 => ?_) (fun n37 ih37 x1 x2 x3 s4 hRs4 hv37_0 hv37_1 hv37_2 hv37_3 hv37_4 hv37_5 hm37 => ?_)
        · exfalso; have : (0 : Int) ≤ gI s 47 ∧ gI s 47 ≤ 1 := hRs.1 47; have : (0 : Int) ≤ gI s4 47 ∧ gI s4 47 ≤ 1 := hRs4.1 47; have : (0 : Int) ≤ gI s 1 ∧ gI s 1 ≤ 1600 := hRs.1 1; have : (0 : Int) ≤ gI s4 1 ∧ gI s4 1 ≤ 1600 := hRs4.1 1; omega
        · show wp (m_x12_chance_b37 (m_x12_chance_L37 n37) x1 x2 x3 s4) _
          unfold m_x12_chance_b37
          refine wp_rg (by have : (0 : Int) ≤ gI s4 47 ∧ gI s4 47 ≤ 1 := hRs4.1 47; have : (0 : Int) ≤ gI s 1 ∧ gI s 1 ≤ 1600 := hRs.1 1; have : (0 : Int) ≤ gI s4 1 ∧ gI s4 1 ≤ 1600 := hRs4.1 1; have : (0 : Int) ≤ gI s 76 ∧ gI s 76 ≤ 20 := hRs.1 76; have : (0 : Int) ≤ gI s31 76 ∧ gI s31 76 ≤ 20 := hRs31.1 76; have : (0 : Int) ≤ gI s 77 ∧ gI s 77 ≤ 19 := hRs.1 77; have : (0 : Int) ≤ gI s31 77 ∧ gI s31 77 ≤ 19 := hRs31.1 77; have : (0 : Int) ≤ gI s 47 ∧ gI s 47 ≤ 1 := hRs.1 47; omega) ?_
          refine wp_rg (by have : (0 : Int) ≤ gI s4 47 ∧ gI s4 47 ≤ 1 := hRs4.1 47; have : (0 : Int) ≤ gI s 1 ∧ gI s 1 ≤ 1600 := hRs.1 1; have : (0 : Int) ≤ gI s4 1 ∧ gI s4 1 ≤ 1600 := hRs4.1 1; have : (0 : Int) ≤ gI s 76 ∧ gI s 76 ≤ 20 := hRs.1 76; have : (0 : Int) ≤ gI s31 76 ∧ gI s31 76 ≤ 20 := hRs31.1 76; have : (0 : Int) ≤ gI s 77 ∧ gI s 77 ≤ 19 := hRs.1 77; have : (0 : Int) ≤ gI s31 77 ∧ gI s31 77 ≤ 19 := hRs31.1 77; have : (0 : Int) ≤ gI s 47 ∧ gI s 47 ≤ 1 := hRs.1 47; omega) ?_
          refine wp_if (fun c3 => ?_) (fun c3 => ?_)
          · skip
            refine wp_bn (w_x12_isKept hRs4 (hv37_2.1) (by show R2 (6 : Int); have : (0 : Int) ≤ gI s4 47 ∧ gI s4 47 ≤ 1 := hRs4.1 47; have : (0 : Int) ≤ gI s 1 ∧ gI s 1 ≤ 1600 := hRs.1 1; have : (0 : Int) ≤ gI s4 1 ∧ gI s4 1 ≤ 1600 := hRs4.1 1; have : (0 : Int) ≤ gI s 76 ∧ gI s 76 ≤ 20 := hRs.1 76; have : (0 : Int) ≤ gI s31 76 ∧ gI s31 76 ≤ 20 := hRs31.1 76; have : (0 : Int) ≤ gI s 77 ∧ gI s 77 ≤ 19 := hRs.1 77; have : (0 : Int) ≤ gI s31 77 ∧ gI s31 77 ≤ 19 := hRs31.1 77; have : (0 : Int) ≤ gI s 47 ∧ gI s 47 ≤ 1 := hRs.1 47; omega) (by show R2 (255 : Int); have : (0 : Int) ≤ gI s4 47 ∧ gI s4 47 ≤ 1 := hRs4.1 47; have : (0 : Int) ≤ gI s 1 ∧ gI s 1 ≤ 1600 := hRs.1 1; have : (0 : Int) ≤ gI s4 1 ∧ gI s4 1 ≤ 1600 := hRs4.1 1; have : (0 : Int) ≤ gI s 76 ∧ gI s 76 ≤ 20 := hRs.1 76; have : (0 : Int) ≤ gI s31 76 ∧ gI s31 76 ≤ 20 := hRs31.1 76; have : (0 : Int) ≤ gI s 77 ∧ gI s 77 ≤ 19 := hRs.1 77; have : (0 : Int) ≤ gI s31 77 ∧ gI s31 77 ≤ 19 := hRs31.1 77; have : (0 : Int) ≤ gI s 47 ∧ gI s 47 ≤ 1 := hRs.1 47; omega) (hv37_2.2.2.1) (hv37_2.2.2.2)) (fun s13 es13 hs13 => ?_)
            have Fs13 : F_x12_isKept s4 s13 := fr_x12_isKept es13
            obtain ⟨hRs13, hs13_0, hs13_1, hs13_2⟩ := hs13
            have hs13_0 : ∀ i, i < 785 → i ≠ 16 → gA s13 49 i = gA s4 49 i := hs13_0
            have hs13_1 : 0 ≤ gA s13 49 16 ∧ gA s13 49 16 ≤ 999999 := hs13_1
            have hs13_2 : 0 ≤ gA s13 49 785 ∧ gA s13 49 785 ≤ 40 := hs13_2
            have Gs13 : GA s13 := GA_kept hv37_2 ⟨(Fs13.2.1 39 (by decide)), (Fs13.2.1 42 (by decide)), (Fs13.2.1 43 (by decide)), (Fs13.2.1 44 (by decide))⟩ hs13_0 hs13_1 hs13_2 (Fs13.2.1 75 (by decide)) (Fs13.1 76 (by decide)) (Fs13.1 77 (by decide))
            exact wp_some ⟨hRs13, by show JI s13; exact (GA_JI hpJ hv37_5 (((Fs13.2.1 39 (by decide))).trans hv37_3.2.2) (by rw [((Fs13.2.2.1 78 (by decide)))]; exact hv37_4) (((Fs13.1 47 (by decide))).trans hv37_3.2.1) Gs13), by show gI s13 1 = gI s 1; have : (0 : Int) ≤ gI s4 47 ∧ gI s4 47 ≤ 1 := hRs4.1 47; have : (0 : Int) ≤ gI s4 1 ∧ gI s4 1 ≤ 1600 := hRs4.1 1; have : (0 : Int) ≤ gI s 76 ∧ gI s 76 ≤ 20 := hRs.1 76; have : (0 : Int) ≤ gI s31 76 ∧ gI s31 76 ≤ 20 := hRs31.1 76; have : (0 : Int) ≤ gI s 77 ∧ gI s 77 ≤ 19 := hRs.1 77; have : (0 : Int) ≤ gI s31 77 ∧ gI s31 77 ≤ 19 := hRs31.1 77; have : (0 : Int) ≤ gI s 47 ∧ gI s 47 ≤ 1 := hRs.1 47; have : (0 : Int) ≤ gI s 1 ∧ gI s 1 ≤ 1600 := hRs.1 1; have : gI s13 1 = gI s4 1 := Fs13.1 1 (by decide); omega⟩
          · skip
            refine wp_bn (w_x12_isDrawn hRs4 (hv37_2) (hv37_4) (by rw [hv37_3.2.1]; exact hv37_5)) (fun qqr16 eqr16s hqr16s => ?_)
            obtain ⟨qr16r, qr16s⟩ := qqr16
            dsimp only at eqr16s hqr16s ⊢
            have Fqr16s : F_x12_isDrawn s4 qr16s := fr_x12_isDrawn eqr16s
            obtain ⟨hRqr16s, hqr16s_0, hqr16s_1, hqr16s_2, hqr16s_3⟩ := hqr16s
            have hqr16s_0 : qr16r = 0 ∨ qr16r = 1 := hqr16s_0
            have hqr16s_1 : GA qr16s := hqr16s_1
            have hqr16s_2 : gI qr16s 1 = gI s4 1 ∧ gI qr16s 47 = gI s4 47 ∧ gA qr16s 39 = gA s4 39 := hqr16s_2
            have hqr16s_3 : 0 ≤ gL qr16s 78 ∧ gL qr16s 78 ≤ 2147483647 := hqr16s_3
            refine wp_rg (by have : gI qr16s 47 = gI s4 47 := Fqr16s.1 47 (by decide); have : gI qr16s 1 = gI s4 1 := Fqr16s.1 1 (by decide); have : (0 : Int) ≤ gI s4 47 ∧ gI s4 47 ≤ 1 := hRs4.1 47; have : (0 : Int) ≤ gI s 1 ∧ gI s 1 ≤ 1600 := hRs.1 1; have : (0 : Int) ≤ gI s4 1 ∧ gI s4 1 ≤ 1600 := hRs4.1 1; have : (0 : Int) ≤ gI s 76 ∧ gI s 76 ≤ 20 := hRs.1 76; have : (0 : Int) ≤ gI s31 76 ∧ gI s31 76 ≤ 20 := hRs31.1 76; have : (0 : Int) ≤ gI s 77 ∧ gI s 77 ≤ 19 := hRs.1 77; have : (0 : Int) ≤ gI s31 77 ∧ gI s31 77 ≤ 19 := hRs31.1 77; have : (0 : Int) ≤ gI s 47 ∧ gI s 47 ≤ 1 := hRs.1 47; omega) ?_
            refine wp_if (fun c4 => ?_) (fun c4 => ?_)
            · skip
              unfold m_x12_chance_J52
              exact ih37 x1 x2 (x3 + 1) qr16s hRqr16s (by show 1 ≤ x1 ∧ x1 ≤ 40; have : gI qr16s 47 = gI s4 47 := Fqr16s.1 47 (by decide); have : gI qr16s 1 = gI s4 1 := Fqr16s.1 1 (by decide); have : (0 : Int) ≤ gI s4 47 ∧ gI s4 47 ≤ 1 := hRs4.1 47; have : (0 : Int) ≤ gI s 1 ∧ gI s 1 ≤ 1600 := hRs.1 1; have : (0 : Int) ≤ gI s4 1 ∧ gI s4 1 ≤ 1600 := hRs4.1 1; have : (0 : Int) ≤ gI s 76 ∧ gI s 76 ≤ 20 := hRs.1 76; have : (0 : Int) ≤ gI s31 76 ∧ gI s31 76 ≤ 20 := hRs31.1 76; have : (0 : Int) ≤ gI s 77 ∧ gI s 77 ≤ 19 := hRs.1 77; have : (0 : Int) ≤ gI s31 77 ∧ gI s31 77 ≤ 19 := hRs31.1 77; have : (0 : Int) ≤ gI s 47 ∧ gI s 47 ≤ 1 := hRs.1 47; omega) (by show 0 ≤ x2 ∧ x2 ≤ (x3 + 1) ∧ (x3 + 1) ≤ x1; have : gI qr16s 47 = gI s4 47 := Fqr16s.1 47 (by decide); have : gI qr16s 1 = gI s4 1 := Fqr16s.1 1 (by decide); have : (0 : Int) ≤ gI s4 47 ∧ gI s4 47 ≤ 1 := hRs4.1 47; have : (0 : Int) ≤ gI s 1 ∧ gI s 1 ≤ 1600 := hRs.1 1; have : (0 : Int) ≤ gI s4 1 ∧ gI s4 1 ≤ 1600 := hRs4.1 1; have : (0 : Int) ≤ gI s 76 ∧ gI s 76 ≤ 20 := hRs.1 76; have : (0 : Int) ≤ gI s31 76 ∧ gI s31 76 ≤ 20 := hRs31.1 76; have : (0 : Int) ≤ gI s 77 ∧ gI s 77 ≤ 19 := hRs.1 77; have : (0 : Int) ≤ gI s31 77 ∧ gI s31 77 ≤ 19 := hRs31.1 77; have : (0 : Int) ≤ gI s 47 ∧ gI s 47 ≤ 1 := hRs.1 47; omega) (hqr16s_1) (⟨hqr16s_2.1.trans hv37_3.1, hqr16s_2.2.1.trans hv37_3.2.1, hqr16s_2.2.2.trans hv37_3.2.2⟩) (hqr16s_3) (hv37_5) (by have : gI qr16s 47 = gI s4 47 := Fqr16s.1 47 (by decide); have : gI qr16s 1 = gI s4 1 := Fqr16s.1 1 (by decide); have : (0 : Int) ≤ gI s4 47 ∧ gI s4 47 ≤ 1 := hRs4.1 47; have : (0 : Int) ≤ gI s 1 ∧ gI s 1 ≤ 1600 := hRs.1 1; have : (0 : Int) ≤ gI s4 1 ∧ gI s4 1 ≤ 1600 := hRs4.1 1; have : (0 : Int) ≤ gI s 76 ∧ gI s 76 ≤ 20 := hRs.1 76; have : (0 : Int) ≤ gI s31 76 ∧ gI s31 76 ≤ 20 := hRs31.1 76; have : (0 : Int) ≤ gI s 77 ∧ gI s 77 ≤ 19 := hRs.1 77; have : (0 : Int) ≤ gI s31 77 ∧ gI s31 77 ≤ 19 := hRs31.1 77; have : (0 : Int) ≤ gI s 47 ∧ gI s 47 ≤ 1 := hRs.1 47; omega)
            · skip
              unfold m_x12_chance_J52
              exact ih37 x1 (x2 + 1) (x3 + 1) qr16s hRqr16s (by show 1 ≤ x1 ∧ x1 ≤ 40; have : gI qr16s 47 = gI s4 47 := Fqr16s.1 47 (by decide); have : gI qr16s 1 = gI s4 1 := Fqr16s.1 1 (by decide); have : (0 : Int) ≤ gI s4 47 ∧ gI s4 47 ≤ 1 := hRs4.1 47; have : (0 : Int) ≤ gI s 1 ∧ gI s 1 ≤ 1600 := hRs.1 1; have : (0 : Int) ≤ gI s4 1 ∧ gI s4 1 ≤ 1600 := hRs4.1 1; have : (0 : Int) ≤ gI s 76 ∧ gI s 76 ≤ 20 := hRs.1 76; have : (0 : Int) ≤ gI s31 76 ∧ gI s31 76 ≤ 20 := hRs31.1 76; have : (0 : Int) ≤ gI s 77 ∧ gI s 77 ≤ 19 := hRs.1 77; have : (0 : Int) ≤ gI s31 77 ∧ gI s31 77 ≤ 19 := hRs31.1 77; have : (0 : Int) ≤ gI s 47 ∧ gI s 47 ≤ 1 := hRs.1 47; omega) (by show 0 ≤ (x2 + 1) ∧ (x2 + 1) ≤ (x3 + 1) ∧ (x3 + 1) ≤ x1; have : gI qr16s 47 = gI s4 47 := Fqr16s.1 47 (by decide); have : gI qr16s 1 = gI s4 1 := Fqr16s.1 1 (by decide); have : (0 : Int) ≤ gI s4 47 ∧ gI s4 47 ≤ 1 := hRs4.1 47; have : (0 : Int) ≤ gI s 1 ∧ gI s 1 ≤ 1600 := hRs.1 1; have : (0 : Int) ≤ gI s4 1 ∧ gI s4 1 ≤ 1600 := hRs4.1 1; have : (0 : Int) ≤ gI s 76 ∧ gI s 76 ≤ 20 := hRs.1 76; have : (0 : Int) ≤ gI s31 76 ∧ gI s31 76 ≤ 20 := hRs31.1 76; have : (0 : Int) ≤ gI s 77 ∧ gI s 77 ≤ 19 := hRs.1 77; have : (0 : Int) ≤ gI s31 77 ∧ gI s31 77 ≤ 19 := hRs31.1 77; have : (0 : Int) ≤ gI s 47 ∧ gI s 47 ≤ 1 := hRs.1 47; omega) (hqr16s_1) (⟨hqr16s_2.1.trans hv37_3.1, hqr16s_2.2.1.trans hv37_3.2.1, hqr16s_2.2.2.trans hv37_3.2.2⟩) (hqr16s_3) (hv37_5) (by have : gI qr16s 47 = gI s4 47 := Fqr16s.1 47 (by decide); have : gI qr16s 1 = gI s4 1 := Fqr16s.1 1 (by decide); have : (0 : Int) ≤ gI s4 47 ∧ gI s4 47 ≤ 1 := hRs4.1 47; have : (0 : Int) ≤ gI s 1 ∧ gI s 1 ≤ 1600 := hRs.1 1; have : (0 : Int) ≤ gI s4 1 ∧ gI s4 1 ≤ 1600 := hRs4.1 1; have : (0 : Int) ≤ gI s 76 ∧ gI s 76 ≤ 20 := hRs.1 76; have : (0 : Int) ≤ gI s31 76 ∧ gI s31 76 ≤ 20 := hRs31.1 76; have : (0 : Int) ≤ gI s 77 ∧ gI s 77 ≤ 19 := hRs.1 77; have : (0 : Int) ≤ gI s31 77 ∧ gI s31 77 ≤ 19 := hRs31.1 77; have : (0 : Int) ≤ gI s 47 ∧ gI s 47 ≤ 1 := hRs.1 47; omega)
      exact L37 FU p0 0 0 s33 hRs33 (by show 1 ≤ p0 ∧ p0 ≤ 40; have : (0 : Int) ≤ gI s 76 ∧ gI s 76 ≤ 20 := hRs.1 76; have : (0 : Int) ≤ gI s31 76 ∧ gI s31 76 ≤ 20 := hRs31.1 76; have : (0 : Int) ≤ gI s 77 ∧ gI s 77 ≤ 19 := hRs.1 77; have : (0 : Int) ≤ gI s31 77 ∧ gI s31 77 ≤ 19 := hRs31.1 77; have : (0 : Int) ≤ gI s 47 ∧ gI s 47 ≤ 1 := hRs.1 47; omega) (by show 0 ≤ (0 : Int) ∧ (0 : Int) ≤ (0 : Int) ∧ (0 : Int) ≤ p0; have : (0 : Int) ≤ gI s 76 ∧ gI s 76 ≤ 20 := hRs.1 76; have : (0 : Int) ≤ gI s31 76 ∧ gI s31 76 ≤ 20 := hRs31.1 76; have : (0 : Int) ≤ gI s 77 ∧ gI s 77 ≤ 19 := hRs.1 77; have : (0 : Int) ≤ gI s31 77 ∧ gI s31 77 ≤ 19 := hRs31.1 77; have : (0 : Int) ≤ gI s 47 ∧ gI s 47 ≤ 1 := hRs.1 47; omega) (GA_eq Gs31 ⟨(Fs33.2.1 39 (by decide)), (Fs33.2.1 42 (by decide)), (Fs33.2.1 43 (by decide)), (Fs33.2.1 44 (by decide))⟩ (Fs33.2.1 49 (by decide)) (Fs33.2.1 75 (by decide)) (Fs33.1 76 (by decide)) (Fs33.1 77 (by decide))) (⟨((Fs33.1 1 (by decide)).trans (Fs31.1 1 (by decide))), ((Fs33.1 47 (by decide)).trans (Fs31.1 47 (by decide))), ((Fs33.2.1 39 (by decide)).trans (Fs31.2.1 39 (by decide)))⟩) (by rw [((Fs33.2.2.1 78 (by decide)).trans (Fs31.2.2.1 78 (by decide)))]; exact hpJ.2.1) (kt) (by have := FU_big; have := FU_big2; have : (0 : Int) ≤ gI s 76 ∧ gI s 76 ≤ 20 := hRs.1 76; have : (0 : Int) ≤ gI s31 76 ∧ gI s31 76 ≤ 20 := hRs31.1 76; have : (0 : Int) ≤ gI s 77 ∧ gI s 77 ≤ 19 := hRs.1 77; have : (0 : Int) ≤ gI s31 77 ∧ gI s31 77 ≤ 19 := hRs31.1 77; have : (0 : Int) ≤ gI s 47 ∧ gI s 47 ≤ 1 := hRs.1 47; omega)
