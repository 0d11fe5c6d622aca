/-! ===== what holds of a store that was told ===== -/
def GN (s : MS) : Prop := (RT s ∧ RB_r s) ∧ ((8 ≤ gA s 39 5 ∧ gA s 39 5 ≤ 48) ∧ (3 ≤ gA s 39 6 ∧ gA s 39 6 ≤ 6)) ∧ (CE s 0 ∧ CE s 1 ∧ CE s 2)
/-- rows of what was told stay -/
def KR (s o : MS) : Prop := gA o 39 = gA s 39 ∧ gA o 42 = gA s 42 ∧ gA o 43 = gA s 43 ∧ gA o 44 = gA s 44
theorem KR_t {s o q : MS} (h1 : KR s o) (h2 : KR o q) : KR s q := ⟨h2.1.trans h1.1, h2.2.1.trans h1.2.1, h2.2.2.1.trans h1.2.2.1, h2.2.2.2.trans h1.2.2.2⟩
theorem GN_k {s o : MS} (H : GN s) (k : KR s o) (hT : RT o) (hB : RB_r o) : GN o := by
  obtain ⟨_, b, c1, c2, c3⟩ := H
  refine ⟨⟨hT, hB⟩, by rw [k.1]; exact b, CE_eq c1 k.2.1 k.2.2.1 k.2.2.2, CE_eq c2 k.2.1 k.2.2.1 k.2.2.2, CE_eq c3 k.2.1 k.2.2.1 k.2.2.2⟩
theorem RT_16 {o : MS} {w : Int} (H : RT (sA o 49 (upZ (gA o 49) 16 w))) : RT o := by
  obtain ⟨T, M, m1, m2⟩ := H
  have g : ∀ i, i ≠ 16 → gA (sA o 49 (upZ (gA o 49) 16 w)) 49 i = gA o 49 i := fun i hi => by rw [gA_sA, if_pos rfl, upZ_n hi]
  have g39 : gA (sA o 49 (upZ (gA o 49) 16 w)) 39 = gA o 39 := by rw [gA_sA, if_neg (by decide)]
  have a1 : ∀ p, p < 48 → (hM o).1 p = (hM (sA o 49 (upZ (gA o 49) 16 w))).1 p := fun p hp => (g (19 + 16 * p) (by omega)).symm
  have a2 : ∀ p, p < 48 → (hM o).2.1 p = (hM (sA o 49 (upZ (gA o 49) 16 w))).2.1 p := fun p hp => (g (20 + 16 * p) (by omega)).symm
  have a3 : ∀ p, p < 48 → ∀ k, k < 6 → (hM o).2.2 p k = (hM (sA o 49 (upZ (gA o 49) 16 w))).2.2 p k ∧ kM o p k = kM (sA o 49 (upZ (gA o 49) 16 w)) p k := fun p hp k hk => by
    constructor
    · show (if k < 6 then gA o 49 (27 + 16 * p + k) else 0) = if k < 6 then gA (sA o 49 (upZ (gA o 49) 16 w)) 49 (27 + 16 * p + k) else 0
      rw [g _ (by omega)]
    · show (if k < 6 then gA o 49 (21 + 16 * p + k) else 0) = if k < 6 then gA (sA o 49 (upZ (gA o 49) 16 w)) 49 (21 + 16 * p + k) else 0
      rw [g _ (by omega)]
  refine ⟨?_, M, fun u hu => ?_, m2⟩
  · have T' : TG _ _ _ _ _ _ _ _ _ _ := T
    rw [g39] at T'
    exact TG_ext (h' := hM o) (ky' := kM o) (c' := cM o) (sv' := vM o) (r' := rM o) (rs' := rsM o) T' a1 a2 a3 (fun p hp => (g _ (by omega)).symm) (fun p hp => (g _ (by omega)).symm) (fun v hv => by rw [rM_v hv, rM_v hv]; exact (g _ (by omega)).symm) (fun v hv => by rw [rsM_v hv, rsM_v hv]; exact (g _ (by omega)).symm)
  · have G := m1 u hu
    rw [g39, g u (by omega)] at G
    exact TG_ext (h' := hM o) (ky' := kM o) G a1 a2 a3 (fun _ _ => rfl) (fun _ _ => rfl) (fun _ _ => rfl) (fun _ _ => rfl)
theorem GN_x {s o : MS} (H : GN s) (k : KR s o) (h : ∀ j, j < 785 → j ≠ 16 → gA o 49 j = gA s 49 j) : GN o := by
  have e : RT o := by
    have H1 := H.1.1
    have h0 : RT (sA o 49 (gA s 49)) := RT_x (s := s) (o := sA o 49 (gA s 49)) H1 (fun j hj => by rw [gA_sA, if_pos rfl]) (by rw [gA_sA, if_neg (by decide), k.1]) (by rw [gA_sA, if_neg (by decide), k.1])
    have e2 : RT (sA o 49 (upZ (gA o 49) 16 (gA s 49 16))) := RT_x h0 (fun j hj => by
      rw [gA_sA, if_pos rfl, gA_sA, if_pos rfl]
      by_cases z : j = 16
      · rw [z, upZ_s]
      · rw [upZ_n z]; exact h j hj z) rfl rfl
    exact RT_16 e2
  exact GN_k H k e (fun u hu => by rw [h u (by omega) (by omega)]; exact H.1.2 u hu)
set_option maxHeartbeats 1000000 in
theorem w_x12_checks {s : MS} (hRs : Rr s) : wp (m_x12_checks s) (fun o => (Rr o) ∧ (∀ i, ¬ (8 ≤ i ∧ i < 16) → (∀ p, p < 48 → i ≠ 18 + 16 * p) → gA o 49 i = gA s 49 i) ∧ (∀ u, u < 8 → gA o 49 (8 + u) = gA s 49 u) ∧ (∀ p, p < 48 → gA o 49 (18 + 16 * p) = gA s 49 (17 + 16 * p))) := by
  unfold m_x12_checks
  have L2 : ∀ (n : Nat) (x9 : Int) (s10 : MS), Rr s10 → (0 ≤ x9 ∧ x9 ≤ 8) → (∀ i, ¬ (8 ≤ i ∧ i < 16) → gA s10 49 i = gA s 49 i) → (∀ u : Nat, (u : Int) < x9 → gA s10 49 (8 + u) = gA s 49 u) → (8 - x9) < (n : Int) → wp (m_x12_checks_L2 n x9 s10) (fun o => (Rr o) ∧ (∀ i, ¬ (8 ≤ i ∧ i < 16) → (∀ p, p < 48 → i ≠ 18 + 16 * p) → gA o 49 i = gA s 49 i) ∧ (∀ u, u < 8 → gA o 49 (8 + u) = gA s 49 u) ∧ (∀ p, p < 48 → gA o 49 (18 + 16 * p) = gA s 49 (17 + 16 * p))) := by
    refine fr_ind (fun x9 s10 hRs10 hv2_0 hv2_1 hv2_2 hm2 => ?_) (fun n2 ih2 x9 s10 hRs10 hv2_0 hv2_1 hv2_2 hm2 => ?_)
    · exfalso; omega
    · show wp (m_x12_checks_b2 (m_x12_checks_L2 n2) x9 s10) _
      unfold m_x12_checks_b2
      refine wp_rg (by omega) ?_
      refine wp_if (fun c1 => ?_) (fun c1 => ?_)
      · skip
        have L31 : ∀ (n : Nat) (x1 : Int) (s2 : MS), Rr s2 → (0 ≤ x1 ∧ x1 ≤ 48) → (∀ i, ¬ (8 ≤ i ∧ i < 16) → (∀ p, p < 48 → i ≠ 18 + 16 * p) → gA s2 49 i = gA s 49 i) → (∀ u, u < 8 → gA s2 49 (8 + u) = gA s 49 u) → (∀ p : Nat, (p : Int) < x1 → gA s2 49 (18 + 16 * p) = gA s 49 (17 + 16 * p)) → (48 - x1) < (n : Int) → wp (m_x12_checks_L31 n x1 s2) (fun o => (Rr o) ∧ (∀ i, ¬ (8 ≤ i ∧ i < 16) → (∀ p, p < 48 → i ≠ 18 + 16 * p) → gA o 49 i = gA s 49 i) ∧ (∀ u, u < 8 → gA o 49 (8 + u) = gA s 49 u) ∧ (∀ p, p < 48 → gA o 49 (18 + 16 * p) = gA s 49 (17 + 16 * p))) := by
          refine fr_ind (fun x1 s2 hRs2 hv31_0 hv31_1 hv31_2 hv31_3 hm31 => ?_) (fun n31 ih31 x1 s2 hRs2 hv31_0 hv31_1 hv31_2 hv31_3 hm31 => ?_)
          · exfalso; omega
          · show wp (m_x12_checks_b31 (m_x12_checks_L31 n31) x1 s2) _
            unfold m_x12_checks_b31
            refine wp_rg (by omega) ?_
            refine wp_if (fun c2 => ?_) (fun c2 => ?_)
            · skip
              exact wp_some ⟨hRs2, hv31_1, hv31_2, fun p hp => hv31_3 p (by omega)⟩
            · skip
              refine wp_bn (w_x12_countOf hRs2 (by show 0 ≤ x1 ∧ x1 < 48; omega)) (fun r6 er6 hr6 => ?_)
              obtain ⟨hr6_0, hr6_1⟩ := hr6
              have hr6_0 : r6 = cM s2 x1.toNat := hr6_0
              have hr6_1 : R2 r6 := hr6_1
              have k6 : r6 = gA s 49 (17 + 16 * x1.toNat) := by rw [hr6_0]; exact hv31_1 (17 + 16 * x1.toNat) (by omega) (fun p _ => by omega)
              refine wp_inb (by omega) ?_
              refine wp_stn (fun s8 es8 => ?_)
              have hRs8 : Rr s8 := es8 ▸ Rr.uAu hRs2 (by show (-2147483648 : Int) ≤ r6 ∧ r6 ≤ 2147483647; omega)
              exact ih31 (x1 + 1) s8 hRs8 (by show 0 ≤ (x1 + 1) ∧ (x1 + 1) ≤ 48; omega) (fun i hi hp => by rw [(q_AA es8 : gA s8 49 = _), upZ_n (by have := hp x1.toNat (by omega); omega)]; exact hv31_1 i hi hp) (fun u hu => by rw [(q_AA es8 : gA s8 49 = _), upZ_n (by omega)]; exact hv31_2 u hu) (fun p hp => by
          rw [(q_AA es8 : gA s8 49 = _)]
          by_cases z : p = x1.toNat
          · rw [show (17 + 16 * x1 + 1).toNat = 18 + 16 * p by omega, upZ_s, k6, z]
          · rw [upZ_n (by omega)]; exact hv31_3 p (by omega)) (by omega)
        exact L31 FU 0 s10 hRs10 (by show 0 ≤ (0 : Int) ∧ (0 : Int) ≤ 48; omega) (fun i hi _ => hv2_1 i hi) (fun u hu => hv2_2 u (by omega)) (fun p hp => by omega) (by have := FU_big; have := FU_big2; omega)
      · skip
        refine wp_rdIn (by omega) (fun y13 ey13 => ?_)
        have by13 : (-2147483648 : Int) ≤ y13 ∧ y13 ≤ 2147483647 := ey13 ▸ hRs10.2.1 49 _ (by show _ < 906; omega)
        have k13 : R2 y13 := ey13 ▸ R49 hRs10 (by omega)
        refine wp_inb (by omega) ?_
        refine wp_stn (fun s15 es15 => ?_)
        have hRs15 : Rr s15 := es15 ▸ Rr.uAu hRs10 (by show (-2147483648 : Int) ≤ y13 ∧ y13 ≤ 2147483647; omega)
        exact ih2 (x9 + 1) s15 hRs15 (by show 0 ≤ (x9 + 1) ∧ (x9 + 1) ≤ 8; omega) (fun i hi => by rw [(q_AA es15 : gA s15 49 = _), upZ_n (by omega)]; exact hv2_1 i hi) (fun u hu => by
          rw [(q_AA es15 : gA s15 49 = _)]
          by_cases z : u = x9.toNat
          · rw [show (8 + x9).toNat = 8 + u by omega, upZ_s, ← ey13, show x9.toNat = u by omega]; exact hv2_1 u (by omega)
          · rw [upZ_n (by omega)]; exact hv2_2 u (by omega)) (by omega)
  exact L2 FU 0 s hRs (by show 0 ≤ (0 : Int) ∧ (0 : Int) ≤ 8; omega) (fun _ _ => rfl) (fun u hu => by omega) (by have := FU_big; have := FU_big2; omega)
set_option maxHeartbeats 1000000 in
theorem w_x12_crashes {s : MS} (hRs : Rr s) : wp (m_x12_crashes s) (fun o => (Rr o) ∧ (∀ i, ¬ i < 8 → (∀ p, p < 48 → i ≠ 17 + 16 * p) → gA o 49 i = gA s 49 i) ∧ (∀ u, u < 8 → gA o 49 u = gA s 49 (8 + u)) ∧ (∀ p, p < 48 → gA o 49 (17 + 16 * p) = gA s 49 (18 + 16 * p))) := by
  unfold m_x12_crashes
  have L2 : ∀ (n : Nat) (x9 : Int) (s10 : MS), Rr s10 → (0 ≤ x9 ∧ x9 ≤ 8) → (∀ i, ¬ i < 8 → gA s10 49 i = gA s 49 i) → (∀ u : Nat, (u : Int) < x9 → gA s10 49 u = gA s 49 (8 + u)) → (8 - x9) < (n : Int) → wp (m_x12_crashes_L2 n x9 s10) (fun o => (Rr o) ∧ (∀ i, ¬ i < 8 → (∀ p, p < 48 → i ≠ 17 + 16 * p) → gA o 49 i = gA s 49 i) ∧ (∀ u, u < 8 → gA o 49 u = gA s 49 (8 + u)) ∧ (∀ p, p < 48 → gA o 49 (17 + 16 * p) = gA s 49 (18 + 16 * p))) := by
    refine fr_ind (fun x9 s10 hRs10 hv2_0 hv2_1 hv2_2 hm2 => ?_) (fun n2 ih2 x9 s10 hRs10 hv2_0 hv2_1 hv2_2 hm2 => ?_)
    · exfalso; omega
    · show wp (m_x12_crashes_b2 (m_x12_crashes_L2 n2) x9 s10) _
      unfold m_x12_crashes_b2
      refine wp_rg (by omega) ?_
      refine wp_if (fun c1 => ?_) (fun c1 => ?_)
      · skip
        have L31 : ∀ (n : Nat) (x1 : Int) (s2 : MS), Rr s2 → (0 ≤ x1 ∧ x1 ≤ 48) → (∀ i, ¬ i < 8 → (∀ p, p < 48 → i ≠ 17 + 16 * p) → gA s2 49 i = gA s 49 i) → (∀ u, u < 8 → gA s2 49 u = gA s 49 (8 + u)) → (∀ p : Nat, (p : Int) < x1 → gA s2 49 (17 + 16 * p) = gA s 49 (18 + 16 * p)) → (48 - x1) < (n : Int) → wp (m_x12_crashes_L31 n x1 s2) (fun o => (Rr o) ∧ (∀ i, ¬ i < 8 → (∀ p, p < 48 → i ≠ 17 + 16 * p) → gA o 49 i = gA s 49 i) ∧ (∀ u, u < 8 → gA o 49 u = gA s 49 (8 + u)) ∧ (∀ p, p < 48 → gA o 49 (17 + 16 * p) = gA s 49 (18 + 16 * p))) := by
          refine fr_ind (fun x1 s2 hRs2 hv31_0 hv31_1 hv31_2 hv31_3 hm31 => ?_) (fun n31 ih31 x1 s2 hRs2 hv31_0 hv31_1 hv31_2 hv31_3 hm31 => ?_)
          · exfalso; omega
          · show wp (m_x12_crashes_b31 (m_x12_crashes_L31 n31) x1 s2) _
            unfold m_x12_crashes_b31
            refine wp_rg (by omega) ?_
            refine wp_if (fun c2 => ?_) (fun c2 => ?_)
            · skip
              exact wp_some ⟨hRs2, hv31_1, hv31_2, fun p hp => hv31_3 p (by omega)⟩
            · skip
              refine wp_bn (w_x12_savedOf hRs2 (by show 0 ≤ x1 ∧ x1 < 48; omega)) (fun r6 er6 hr6 => ?_)
              obtain ⟨hr6_0, hr6_1⟩ := hr6
              have hr6_0 : r6 = vM s2 x1.toNat := hr6_0
              have hr6_1 : R2 r6 := hr6_1
              have k6 : r6 = gA s 49 (18 + 16 * x1.toNat) := by rw [hr6_0]; exact hv31_1 (18 + 16 * x1.toNat) (by omega) (fun p _ => by omega)
              refine wp_inb (by omega) ?_
              refine wp_stn (fun s8 es8 => ?_)
              have hRs8 : Rr s8 := es8 ▸ Rr.uAu hRs2 (by show (-2147483648 : Int) ≤ r6 ∧ r6 ≤ 2147483647; omega)
              exact ih31 (x1 + 1) s8 hRs8 (by show 0 ≤ (x1 + 1) ∧ (x1 + 1) ≤ 48; omega) (fun i hi hp => by rw [(q_AA es8 : gA s8 49 = _), upZ_n (by have := hp x1.toNat (by omega); omega)]; exact hv31_1 i hi hp) (fun u hu => by rw [(q_AA es8 : gA s8 49 = _), upZ_n (by omega)]; exact hv31_2 u hu) (fun p hp => by
          rw [(q_AA es8 : gA s8 49 = _)]
          by_cases z : p = x1.toNat
          · rw [show (17 + 16 * x1).toNat = 17 + 16 * p by omega, upZ_s, k6, z]
          · rw [upZ_n (by omega)]; exact hv31_3 p (by omega)) (by omega)
        exact L31 FU 0 s10 hRs10 (by show 0 ≤ (0 : Int) ∧ (0 : Int) ≤ 48; omega) (fun i hi _ => hv2_1 i hi) (fun u hu => hv2_2 u (by omega)) (fun p hp => by omega) (by have := FU_big; have := FU_big2; omega)
      · skip
        refine wp_rdIn (by omega) (fun y13 ey13 => ?_)
        have by13 : (-2147483648 : Int) ≤ y13 ∧ y13 ≤ 2147483647 := ey13 ▸ hRs10.2.1 49 _ (by show _ < 906; omega)
        have k13 : R2 y13 := ey13 ▸ R49 hRs10 (by omega)
        refine wp_inb (by omega) ?_
        refine wp_stn (fun s15 es15 => ?_)
        have hRs15 : Rr s15 := es15 ▸ Rr.uAu hRs10 (by show (-2147483648 : Int) ≤ y13 ∧ y13 ≤ 2147483647; omega)
        exact ih2 (x9 + 1) s15 hRs15 (by show 0 ≤ (x9 + 1) ∧ (x9 + 1) ≤ 8; omega) (fun i hi => by rw [(q_AA es15 : gA s15 49 = _), upZ_n (by omega)]; exact hv2_1 i hi) (fun u hu => by
          rw [(q_AA es15 : gA s15 49 = _)]
          by_cases z : u = x9.toNat
          · rw [z, upZ_s, ← ey13, show (8 + x9).toNat = 8 + x9.toNat by omega]; exact hv2_1 _ (by omega)
          · rw [upZ_n z]; exact hv2_2 u (by omega)) (by omega)
  exact L2 FU 0 s hRs (by show 0 ≤ (0 : Int) ∧ (0 : Int) ≤ 8; omega) (fun _ _ => rfl) (fun u hu => by omega) (by have := FU_big; have := FU_big2; omega)
set_option maxHeartbeats 1000000 in
theorem w_x12_copies {p0 : Int} {p1 : Int} {s : MS} (hRs : Rr s) (hp0 : 0 ≤ p0 ∧ p0 < 8) (hp1 : 0 ≤ p1 ∧ p1 < 8) (hp2 : RT s) (hp3 : gA s 49 p1.toNat = 255) (hp4 : 0 ≤ gA s 49 p0.toNat ∧ gA s 49 p0.toNat ≤ 254) : wp (m_x12_copies p0 p1 s) (fun o => (Rr o) ∧ (RT o) ∧ (∀ j, 785 ≤ j → gA o 49 j = gA s 49 j) ∧ (∀ u, u < 17 → u ≠ p1.toNat → gA o 49 u = gA s 49 u) ∧ (gA o 49 p1.toNat = gA s 49 p0.toNat)) := by
  unfold m_x12_copies
  refine wp_rdIn (by omega) (fun y2 ey2 => ?_)
  have by2 : (-2147483648 : Int) ≤ y2 ∧ y2 ≤ 2147483647 := ey2 ▸ hRs.2.1 49 _ (by show _ < 906; omega)
  have r2 : R2 y2 := ey2 ▸ R49 hRs (by omega)
  refine wp_inb (by omega) ?_
  refine wp_stn (fun s4 es4 => ?_)
  have hRs4 : Rr s4 := es4 ▸ Rr.uAu hRs (by show (-2147483648 : Int) ≤ y2 ∧ y2 ≤ 2147483647; omega)
  refine wp_rdIn (by omega) (fun y5 ey5 => ?_)
  have by5 : (-2147483648 : Int) ≤ y5 ∧ y5 ≤ 2147483647 := ey5 ▸ hRs4.2.1 49 _ (by show _ < 906; omega)
  have k5 : y5 = y2 := by rw [← ey5, (q_AA es4 : gA s4 49 = _), upZ_s]
  refine wp_rg (by omega) ?_
  refine wp_if (fun c1 => ?_) (fun c1 => ?_)
  · skip
    unfold m_x12_copies_J35
    exact wp_some ⟨hRs4, by have u4 : gA s4 49 = upZ (gA s 49) p1.toNat y2 := q_AA es4; have mr := M_root (v := p1.toNat) (by omega) u4; exact RT_copy (v := p0.toNat) (t := p1.toNat) hp2 (by omega) (by omega) (q_Aa es4 (by decide) : gA s4 39 = gA s 39) hp3 (fun p hp i h1 h2 => by rw [u4, upZ_n (by omega)]) (by rw [u4, upZ_s]; exact ey2.symm) (fun u hu hn => by rw [u4, upZ_n hn]) (fun p _ => by rw [mr.2.1.2]) (Or.inl ⟨by rw [ey2]; omega, fun p _ => by rw [mr.2.1.1]⟩), fun j hj => by rw [(q_AA es4 : gA s4 49 = _), upZ_n (by omega)], fun u hu hn => by rw [(q_AA es4 : gA s4 49 = _), upZ_n hn], by rw [(q_AA es4 : gA s4 49 = _), upZ_s, ey2]⟩
  · skip
    refine wp_rdIn (by omega) (fun y8 ey8 => ?_)
    have by8 : (-2147483648 : Int) ≤ y8 ∧ y8 ≤ 2147483647 := ey8 ▸ hRs4.2.1 49 _ (by show _ < 906; omega)
    have k8 : y8 = y2 := by rw [← ey8, (q_AA es4 : gA s4 49 = _), upZ_s]
    have rr0 := RT_root (u := p0.toNat) hp2 (by omega) (by omega) (by omega)
    rw [ey2] at rr0
    have bd := RT_bd hp2 (b := y8.toNat) (by omega)
    have kc : cM s4 = cM s := (M_root (v := p1.toNat) (by omega) (q_AA es4)).2.1.1
    rw [← kc] at bd
    refine wp_bn (w_x12_counts hRs4 (by show 0 ≤ y8 ∧ y8 < 48; omega) (by show -100000 ≤ cM s4 y8.toNat ∧ cM s4 y8.toNat ≤ 100000; omega) (by show -10 ≤ (1 : Int) ∧ (1 : Int) ≤ 10; omega)) (fun s10 es10 hs10 => ?_)
    have Fs10 : F_x12_counts s4 s10 := fr_x12_counts es10
    obtain ⟨hRs10, hs10_0⟩ := hs10
    have hs10_0 : gA s10 49 = upZ (gA s4 49) (17 + 16 * y8.toNat) (cM s4 y8.toNat + (1 : Int)) := hs10_0
    unfold m_x12_copies_J35
    exact wp_some ⟨hRs10, by have u4 : gA s4 49 = upZ (gA s 49) p1.toNat y2 := q_AA es4; have mr := M_root (v := p1.toNat) (by omega) u4; have mc := M_cnt (b := y8.toNat) (by omega) hs10_0; have e8 : y8 = gA s 49 p0.toNat := (by rw [ey2]; omega); exact RT_copy (v := p0.toNat) (t := p1.toNat) hp2 (by omega) (by omega) ((Fs10.2.1 39 (by decide)).trans (q_Aa es4 (by decide) : gA s4 39 = gA s 39)) hp3 (fun p hp i h1 h2 => by rw [mc.1 _ (fun q _ => by omega), u4, upZ_n (by omega)]) (by rw [CX_u mc.1 (by omega), u4, upZ_s]; exact ey2.symm) (fun u hu hn => by rw [CX_u mc.1 (by omega), u4, upZ_n hn]) (fun p _ => by rw [CX_v mc.1, mr.2.1.2]) (Or.inr ⟨by omega, fun p _ => by rw [mc.2, mr.2.1.1, e8]⟩), fun j hj => by rw [CX_n (M_cnt (b := y8.toNat) (by omega) hs10_0).1 hj, (q_AA es4 : gA s4 49 = _), upZ_n (by omega)], fun u hu hn => by rw [CX_u (M_cnt (b := y8.toNat) (by omega) hs10_0).1 hu, (q_AA es4 : gA s4 49 = _), upZ_n hn], by rw [CX_u (M_cnt (b := y8.toNat) (by omega) hs10_0).1 (by omega), (q_AA es4 : gA s4 49 = _), upZ_s, ey2]⟩
set_option maxHeartbeats 1000000 in
theorem w_x12_drops {p0 : Int} {s : MS} (hRs : Rr s) (hp0 : 0 ≤ p0 ∧ p0 < 8) (hp1 : RT s) (hp2 : 0 ≤ gA s 49 p0.toNat ∧ gA s 49 p0.toNat ≤ 254) : wp (m_x12_drops p0 s) (fun o => (Rr o) ∧ (RT o) ∧ (∀ j, 785 ≤ j → gA o 49 j = gA s 49 j) ∧ (∀ u, u < 17 → u ≠ p0.toNat → gA o 49 u = gA s 49 u) ∧ (gA o 49 p0.toNat = 255)) := by
  have J22 : ∀ (x1 : Int) (s2 : MS), Rr s2 → (x1 = p0) → (CX s s2) → ((254 ≤ gA s 49 p0.toNat ∧ ∀ p, p < 48 → cM s2 p = cM s p) ∨ ((0 ≤ gA s 49 p0.toNat ∧ gA s 49 p0.toNat < 254) ∧ RelI (hM s) (rM s) (cM s) (gA s 49 p0.toNat) (cM s2) (fun _ => 0))) → (gA s2 39 = gA s 39) → wp (m_x12_drops_J22 x1 s2) (fun o => (Rr o) ∧ (RT o) ∧ (∀ j, 785 ≤ j → gA o 49 j = gA s 49 j) ∧ (∀ u, u < 17 → u ≠ p0.toNat → gA o 49 u = gA s 49 u) ∧ (gA o 49 p0.toNat = 255)) := by
    intro x1 s2 hRs2 hj22_0 hj22_1 hj22_2 hj22_3
    unfold m_x12_drops_J22
    refine wp_inb (by omega) ?_
    refine wp_stn (fun s4 es4 => ?_)
    have hRs4 : Rr s4 := es4 ▸ Rr.uAu hRs2 (by show (-2147483648 : Int) ≤ (255 : Int) ∧ (255 : Int) ≤ 2147483647; omega)
    exact wp_some ⟨hRs4, RT_drop (v := p0.toNat) (c := cM s2) hp1 (by omega) (((q_Aa es4 (by decide) : gA s4 39 = gA s2 39)).trans hj22_3) (fun p hp i h1 h2 => by rw [(q_AA es4 : gA s4 49 = _), upZ_n (by omega)]; exact hj22_1 _ (fun q _ => by omega)) (by rw [(q_AA es4 : gA s4 49 = _), hj22_0, upZ_s]) (fun u hu hn => by rw [(q_AA es4 : gA s4 49 = _), upZ_n (by omega)]; exact CX_u hj22_1 (by omega)) (fun p _ => by show gA s4 49 _ = _; rw [(q_AA es4 : gA s4 49 = _), upZ_n (by omega)]; exact hj22_1 _ (fun q _ => by omega)) (fun p _ => by show gA s4 49 _ = gA s2 49 _; rw [(q_AA es4 : gA s4 49 = _), upZ_n (by omega)]) hj22_2, fun j hj => by rw [(q_AA es4 : gA s4 49 = _), upZ_n (by omega)]; exact CX_n hj22_1 hj, fun u hu hn => by rw [(q_AA es4 : gA s4 49 = _), upZ_n (by omega)]; exact CX_u hj22_1 hu, by rw [(q_AA es4 : gA s4 49 = _), hj22_0, upZ_s]⟩
  unfold m_x12_drops
  refine wp_rdIn (by omega) (fun y5 ey5 => ?_)
  have by5 : (-2147483648 : Int) ≤ y5 ∧ y5 ≤ 2147483647 := ey5 ▸ hRs.2.1 49 _ (by show _ < 906; omega)
  refine wp_rg (by omega) ?_
  refine wp_if (fun c1 => ?_) (fun c1 => ?_)
  · skip
    exact J22 p0 s hRs (by show p0 = p0; omega) (CX_0 s) (Or.inl ⟨by omega, fun _ _ => rfl⟩) (rfl)
  · skip
    refine wp_rdIn (by omega) (fun y8 ey8 => ?_)
    have by8 : (-2147483648 : Int) ≤ y8 ∧ y8 ≤ 2147483647 := ey8 ▸ hRs.2.1 49 _ (by show _ < 906; omega)
    have rr0 := RT_root (u := p0.toNat) hp1 (by omega) (by omega) (by omega)
    rw [ey8] at rr0
    have nN := (DW_nd hp1 (b := y8.toNat) (by omega) rr0.2.1).1
    have hT0 : TG (hM s) (kM s) (gA s 39 5) (gA s 39 6) (cM s) (vM s) (rM s) (rsM s) (fun _ => 0) (-1) := hp1.1
    refine wp_bn (w_x12_falls hRs (hT0.1.1) (hT0.1.2.1) (by show 0 ≤ y8 ∧ y8 < gA s 39 5; omega) (rr0.2.2 (by omega)) (fun x hx => by rw [hT0.2.1.1 x hx]; exact Int.le_refl 0) (fun x hx => by have := (RT_bd hp1 hx).1; omega)) (fun s10 es10 hs10 => ?_)
    have Fs10 : F_x12_falls s s10 := fr_x12_falls es10
    obtain ⟨hRs10, hs10_0, hs10_1, hs10_2, hs10_3⟩ := hs10
    have hs10_0 : F_x12_falls s s10 := hs10_0
    have hs10_1 : CX s s10 := hs10_1
    have hs10_2 : RelI (hM s) (rM s) (cM s) y8 (cM s10) (fun _ => 0) := hs10_2
    have hs10_3 : ∀ x : Nat, x < 48 → (hM s).1 y8.toNat ≤ (hM s).1 x → x ≠ y8.toNat → cM s10 x = cM s x := hs10_3
    exact J22 p0 s10 hRs10 (by show p0 = p0; omega) (hs10_1) (Or.inr ⟨by omega, by rw [ey8]; exact hs10_2⟩) (((Fs10.2.1 39 (by decide))))
