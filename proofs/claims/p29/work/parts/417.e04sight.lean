/-! ===== volumes that can be read ===== -/
def VR (s : MS) : Prop := CL s (gA s 54) ∧ ∀ v : Nat, v < 8 → 0 ≤ gA s 60 v → gA s 60 v < 48 ∧ 0 < gA s 54 (gA s 60 v).toNat
theorem VR_eq {s o : MS} (h : VR s) (h54 : gA o 54 = gA s 54) (h56 : gA o 56 = gA s 56) (h57 : gA o 57 = gA s 57) (h59 : gA o 59 = gA s 59) (h60 : gA o 60 = gA s 60) (hn : gI o 1060 = gI s 1060) : VR o := by
  unfold VR CL at h ⊢
  rw [hN_eq h56 h57 h59, h54, h56, h57, h59, h60, hn]
  exact h
theorem td4 (x : Int) (h : 0 ≤ x ∧ x ≤ 1600) : (0 ≤ Int.tdiv x 4 ∧ Int.tdiv x 4 ≤ 400) ∧ 0 ≤ Int.tmod x 4 ∧ Int.tmod x 4 ≤ 3 := by
  rw [Int.tdiv_eq_ediv_of_nonneg h.1, Int.tmod_eq_emod_of_nonneg h.1]
  omega
theorem tm251 (x : Int) (h : 0 ≤ x) : 0 ≤ Int.tmod x 251 ∧ Int.tmod x 251 ≤ 250 := by
  rw [Int.tmod_eq_emod_of_nonneg h]
  omega
set_option maxHeartbeats 1000000 in
theorem w_x11_read {p0 : Int} {p1 : Int} {s : MS} (hRs : Rg s) (hp0 : VR s) (hp1 : R2 p0) (hp2 : R2 p1) : wp (m_x11_read p0 p1 s) (fun r => True) := by
  unfold m_x11_read
  refine wp_bn (w_x8_isVolume hRs (by show R2 p0; omega)) (fun r3 er3 hr3 => ?_)
  have hr3_0 := hr3
  have hr3_0 : (r3 = 1 ∧ 0 ≤ p0 ∧ p0 < 8 ∧ gA s 60 p0.toNat ≠ -2) ∨ (r3 = 0 ∧ (p0 < 0 ∨ 8 ≤ p0 ∨ gA s 60 p0.toNat = -2)) := hr3_0
  refine wp_rg (by omega) ?_
  refine wp_if (fun c1 => ?_) (fun c1 => ?_)
  · skip
    unfold m_x11_read_J41
    exact wp_some (trivial)
  · skip
    refine wp_rdIn (by omega) (fun y6 ey6 => ?_)
    have by6 : (-2 : Int) ≤ y6 ∧ y6 ≤ 253 := ey6 ▸ hRs.2.1 60 _ (by show _ < 8; omega)
    have k6 := hp0.2 p0.toNat (by omega)
    rw [ey6] at k6
    refine wp_bn (w_x8_valueAt hRs (hp0.1) (k6) (by show R2 y6; omega) (by show R2 p1; omega)) (fun r8 er8 hr8 => ?_)
    obtain ⟨hr8_0, hr8_1⟩ := hr8
    have hr8_0 : (-257) ≤ r8 ∧ r8 ≤ 65535 := hr8_0
    have hr8_1 : y6 < 0 → r8 = -1 := hr8_1
    unfold m_x11_read_J41
    exact wp_some (trivial)
set_option maxHeartbeats 1000000 in
theorem w_x7_reading {p1 : Int} {p2 : Int} {s : MS} (hRs : Rg s) (hp0 : VR s) (hp1 : 0 ≤ p1 ∧ p1 < 8) (hp2 : R2 p2) : wp (m_x7_reading p1 p2 s) (fun r => ((-257) ≤ r ∧ r ≤ 65535)) := by
  unfold m_x7_reading
  refine wp_rdIn (by omega) (fun y2 ey2 => ?_)
  have by2 : (-2 : Int) ≤ y2 ∧ y2 ≤ 253 := ey2 ▸ hRs.2.1 60 _ (by show _ < 8; omega)
  have k2 := hp0.2 p1.toNat (by omega)
  rw [ey2] at k2
  refine wp_bn (w_x8_valueAt hRs (hp0.1) (k2) (by show R2 y2; omega) (by show R2 p2; omega)) (fun r4 er4 hr4 => ?_)
  obtain ⟨hr4_0, hr4_1⟩ := hr4
  have hr4_0 : (-257) ≤ r4 ∧ r4 ≤ 65535 := hr4_0
  have hr4_1 : y2 < 0 → r4 = -1 := hr4_1
  refine wp_rg (by omega) ?_
  refine wp_if (fun c1 => ?_) (fun c1 => ?_)
  · skip
    unfold m_x7_reading_J24
    exact wp_some (by show (-257) ≤ (1000 : Int) ∧ (1000 : Int) ≤ 65535; omega)
  · skip
    unfold m_x7_reading_J24
    exact wp_some (by show (-257) ≤ r4 ∧ r4 ≤ 65535; omega)
set_option maxHeartbeats 1000000 in
theorem w_x7_agrees {p1 : Int} {s : MS} (hRs : Rg s) (hp0 : VR s) (hp1 : 0 ≤ p1 ∧ p1 < 8) : wp (m_x7_agrees p1 s) (fun r => (r = 0 ∨ r = 1)) := by
  unfold m_x7_agrees
  have L2 : ∀ (n : Nat) (x1 : Int) (x2 : Int), (x1 = p1) → (0 ≤ x2 ∧ x2 ≤ 12) → (12 - x2) < (n : Int) → wp (m_x7_agrees_L2 s n x1 x2) (fun r => (r = 0 ∨ r = 1)) := by
    refine fr_ind (fun x1 x2 hv2_0 hv2_1 hm2 => ?_) (fun n2 ih2 x1 x2 hv2_0 hv2_1 hm2 => ?_)
    · exfalso; omega
    · show wp (m_x7_agrees_b2 s (m_x7_agrees_L2 s n2) x1 x2) _
      unfold m_x7_agrees_b2
      refine wp_rg (by omega) ?_
      refine wp_rg (by have : (0 : Int) ≤ gI s 220 ∧ gI s 220 ≤ 12 := hRs.1 220; omega) ?_
      refine wp_if (fun c1 => ?_) (fun c1 => ?_)
      · skip
        exact wp_some (by show (1 : Int) = 0 ∨ (1 : Int) = 1; have : (0 : Int) ≤ gI s 220 ∧ gI s 220 ≤ 12 := hRs.1 220; omega)
      · skip
        refine wp_rdIn (by have : (0 : Int) ≤ gI s 220 ∧ gI s 220 ≤ 12 := hRs.1 220; omega) (fun y6 ey6 => ?_)
        have by6 : (-2147483648 : Int) ≤ y6 ∧ y6 ≤ 2147483647 := ey6 ▸ hRs.2.1 12 _ (by show _ < 12; have : (0 : Int) ≤ gI s 220 ∧ gI s 220 ≤ 12 := hRs.1 220; omega)
        refine wp_bn (w_x7_reading hRs (hp0) (by show 0 ≤ x1 ∧ x1 < 8; have : (0 : Int) ≤ gI s 220 ∧ gI s 220 ≤ 12 := hRs.1 220; omega) (by show R2 y6; have : (0 : Int) ≤ gI s 220 ∧ gI s 220 ≤ 12 := hRs.1 220; omega)) (fun r8 er8 hr8 => ?_)
        have hr8_0 := hr8
        have hr8_0 : (-257) ≤ r8 ∧ r8 ≤ 65535 := hr8_0
        refine wp_rdIn (by have : (0 : Int) ≤ gI s 220 ∧ gI s 220 ≤ 12 := hRs.1 220; omega) (fun y9 ey9 => ?_)
        have by9 : (-2147483648 : Int) ≤ y9 ∧ y9 ≤ 2147483647 := ey9 ▸ hRs.2.1 13 _ (by show _ < 12; have : (0 : Int) ≤ gI s 220 ∧ gI s 220 ≤ 12 := hRs.1 220; omega)
        refine wp_rg (by have : (0 : Int) ≤ gI s 220 ∧ gI s 220 ≤ 12 := hRs.1 220; omega) ?_
        refine wp_rg (by have : (0 : Int) ≤ gI s 220 ∧ gI s 220 ≤ 12 := hRs.1 220; omega) ?_
        refine wp_if (fun c2 => ?_) (fun c2 => ?_)
        · skip
          exact ih2 x1 (x2 + 1) (by show x1 = p1; have : (0 : Int) ≤ gI s 220 ∧ gI s 220 ≤ 12 := hRs.1 220; omega) (by show 0 ≤ (x2 + 1) ∧ (x2 + 1) ≤ 12; have : (0 : Int) ≤ gI s 220 ∧ gI s 220 ≤ 12 := hRs.1 220; omega) (by have : (0 : Int) ≤ gI s 220 ∧ gI s 220 ≤ 12 := hRs.1 220; omega)
        · skip
          exact wp_some (by show (0 : Int) = 0 ∨ (0 : Int) = 1; have : (0 : Int) ≤ gI s 220 ∧ gI s 220 ≤ 12 := hRs.1 220; omega)
  exact L2 FU p1 0 (by show p1 = p1; omega) (by show 0 ≤ (0 : Int) ∧ (0 : Int) ≤ 12; omega) (by have := FU_big; have := FU_big2; omega)
set_option maxHeartbeats 1000000 in
theorem w_x7_findFits {s : MS} (hRs : Rg s) (hp0 : VR s) : wp (m_x7_findFits s) (fun q => (Rg q.2) ∧ (0 ≤ q.1 ∧ q.1 ≤ 8)) := by
  unfold m_x7_findFits
  refine wp_stn (fun s18 es18 => ?_)
  have hRs18 : Rg s18 := es18 ▸ Rg.uI hRs (by show (0 : Int) ≤ (0 : Int) ∧ (0 : Int) ≤ 8; omega)
  have L7 : ∀ (n : Nat) (x1 : Int) (s2 : MS), Rg s2 → (0 ≤ x1 ∧ x1 ≤ 8) → (gI s2 224 ≤ x1) → (VR s2) → (8 - x1) < (n : Int) → wp (m_x7_findFits_L7 n x1 s2) (fun q => (Rg q.2) ∧ (0 ≤ q.1 ∧ q.1 ≤ 8)) := by
    refine fr_ind (fun x1 s2 hRs2 hv7_0 hv7_1 hv7_2 hm7 => ?_) (fun n7 ih7 x1 s2 hRs2 hv7_0 hv7_1 hv7_2 hm7 => ?_)
    · exfalso; have : (0 : Int) ≤ gI s2 224 ∧ gI s2 224 ≤ 8 := hRs2.1 224; omega
    · show wp (m_x7_findFits_b7 (m_x7_findFits_L7 n7) x1 s2) _
      unfold m_x7_findFits_b7
      refine wp_rg (by have : (0 : Int) ≤ gI s2 224 ∧ gI s2 224 ≤ 8 := hRs2.1 224; omega) ?_
      refine wp_if (fun c1 => ?_) (fun c1 => ?_)
      · skip
        exact wp_some ⟨hRs2, by show 0 ≤ (gI s2 224) ∧ (gI s2 224) ≤ 8; have : (0 : Int) ≤ gI s2 224 ∧ gI s2 224 ≤ 8 := hRs2.1 224; omega⟩
      · skip
        refine wp_bn (w_x8_isVolume hRs2 (by show R2 x1; have : (0 : Int) ≤ gI s2 224 ∧ gI s2 224 ≤ 8 := hRs2.1 224; omega)) (fun r8 er8 hr8 => ?_)
        have hr8_0 := hr8
        have hr8_0 : (r8 = 1 ∧ 0 ≤ x1 ∧ x1 < 8 ∧ gA s2 60 x1.toNat ≠ -2) ∨ (r8 = 0 ∧ (x1 < 0 ∨ 8 ≤ x1 ∨ gA s2 60 x1.toNat = -2)) := hr8_0
        refine wp_rg (by have : (0 : Int) ≤ gI s2 224 ∧ gI s2 224 ≤ 8 := hRs2.1 224; omega) ?_
        refine wp_if (fun c2 => ?_) (fun c2 => ?_)
        · skip
          unfold m_x7_findFits_J50
          exact ih7 (x1 + 1) s2 hRs2 (by show 0 ≤ (x1 + 1) ∧ (x1 + 1) ≤ 8; have : (0 : Int) ≤ gI s2 224 ∧ gI s2 224 ≤ 8 := hRs2.1 224; omega) (by show gI s2 224 ≤ (x1 + 1); have : (0 : Int) ≤ gI s2 224 ∧ gI s2 224 ≤ 8 := hRs2.1 224; omega) (hv7_2) (by have : (0 : Int) ≤ gI s2 224 ∧ gI s2 224 ≤ 8 := hRs2.1 224; omega)
        · skip
          refine wp_bn (w_x7_agrees hRs2 (hv7_2) (by show 0 ≤ x1 ∧ x1 < 8; have : (0 : Int) ≤ gI s2 224 ∧ gI s2 224 ≤ 8 := hRs2.1 224; omega)) (fun r12 er12 hr12 => ?_)
          have hr12_0 := hr12
          have hr12_0 : r12 = 0 ∨ r12 = 1 := hr12_0
          refine wp_rg (by have : (0 : Int) ≤ gI s2 224 ∧ gI s2 224 ≤ 8 := hRs2.1 224; omega) ?_
          refine wp_if (fun c3 => ?_) (fun c3 => ?_)
          · skip
            unfold m_x7_findFits_J50
            exact ih7 (x1 + 1) s2 hRs2 (by show 0 ≤ (x1 + 1) ∧ (x1 + 1) ≤ 8; have : (0 : Int) ≤ gI s2 224 ∧ gI s2 224 ≤ 8 := hRs2.1 224; omega) (by show gI s2 224 ≤ (x1 + 1); have : (0 : Int) ≤ gI s2 224 ∧ gI s2 224 ≤ 8 := hRs2.1 224; omega) (hv7_2) (by have : (0 : Int) ≤ gI s2 224 ∧ gI s2 224 ≤ 8 := hRs2.1 224; omega)
          · skip
            refine wp_inb (by have : (0 : Int) ≤ gI s2 224 ∧ gI s2 224 ≤ 8 := hRs2.1 224; omega) ?_
            refine wp_stn (fun s16 es16 => ?_)
            have hRs16 : Rg s16 := es16 ▸ Rg.uAu hRs2 (by show (0 : Int) ≤ x1 ∧ x1 ≤ 7; have : (0 : Int) ≤ gI s2 224 ∧ gI s2 224 ≤ 8 := hRs2.1 224; omega)
            refine wp_stn (fun s17 es17 => ?_)
            have hRs17 : Rg s17 := es17 ▸ Rg.uI hRs16 (by show (0 : Int) ≤ ((gI s16 224) + 1) ∧ ((gI s16 224) + 1) ≤ 8; have : (0 : Int) ≤ gI s2 224 ∧ gI s2 224 ≤ 8 := hRs2.1 224; have : gI s16 224 = gI s2 224 := q_Ai es16; omega)
            unfold m_x7_findFits_J50
            exact ih7 (x1 + 1) s17 hRs17 (by show 0 ≤ (x1 + 1) ∧ (x1 + 1) ≤ 8; have : (0 : Int) ≤ gI s2 224 ∧ gI s2 224 ≤ 8 := hRs2.1 224; omega) (by show gI s17 224 ≤ (x1 + 1); have : (0 : Int) ≤ gI s2 224 ∧ gI s2 224 ≤ 8 := hRs2.1 224; have : gI s17 224 = (gI s16 224) + 1 := q_II es17; have : gI s16 224 = gI s2 224 := q_Ai es16; omega) (VR_eq hv7_2 ((q_Ia es17 : gA s17 54 = gA s16 54).trans (q_Aa es16 (by decide) : gA s16 54 = gA s2 54)) ((q_Ia es17 : gA s17 56 = gA s16 56).trans (q_Aa es16 (by decide) : gA s16 56 = gA s2 56)) ((q_Ia es17 : gA s17 57 = gA s16 57).trans (q_Aa es16 (by decide) : gA s16 57 = gA s2 57)) ((q_Ia es17 : gA s17 59 = gA s16 59).trans (q_Aa es16 (by decide) : gA s16 59 = gA s2 59)) ((q_Ia es17 : gA s17 60 = gA s16 60).trans (q_Aa es16 (by decide) : gA s16 60 = gA s2 60)) ((q_Ii es17 (by decide) : gI s17 1060 = gI s16 1060).trans (q_Ai es16 : gI s16 1060 = gI s2 1060))) (by have : (0 : Int) ≤ gI s2 224 ∧ gI s2 224 ≤ 8 := hRs2.1 224; omega)
  exact L7 FU 0 s18 hRs18 (by show 0 ≤ (0 : Int) ∧ (0 : Int) ≤ 8; omega) (by show gI s18 224 ≤ (0 : Int); have : gI s18 224 = 0 := q_II es18; omega) (VR_eq hp0 (q_Ia es18 : gA s18 54 = gA s 54) (q_Ia es18 : gA s18 56 = gA s 56) (q_Ia es18 : gA s18 57 = gA s 57) (q_Ia es18 : gA s18 59 = gA s 59) (q_Ia es18 : gA s18 60 = gA s 60) (q_Ii es18 (by decide) : gI s18 1060 = gI s 1060)) (by have := FU_big; have := FU_big2; omega)
set_option maxHeartbeats 1000000 in
theorem w_x11_fits {p0 : Int} {s : MS} (hRs : Rg s) (hp0 : VR s) (hp1 : R2 p0) : wp (m_x11_fits p0 s) (fun q => (Rg q.2)) := by
  unfold m_x11_fits
  refine wp_bn (w_x7_findFits hRs (hp0)) (fun qqr6 eqr6s hqr6s => ?_)
  obtain ⟨qr6r, qr6s⟩ := qqr6
  dsimp only at eqr6s hqr6s ⊢
  have Fqr6s := fr_x7_findFits eqr6s
  obtain ⟨hRqr6s, hqr6s_0⟩ := hqr6s
  have hqr6s_0 : 0 ≤ qr6r ∧ qr6r ≤ 8 := hqr6s_0
  refine wp_rg (by omega) ?_
  refine wp_if (fun c1 => ?_) (fun c1 => ?_)
  · skip
    exact wp_some (hRqr6s)
  · skip
    refine wp_rg (by omega) ?_
    refine wp_if (fun c2 => ?_) (fun c2 => ?_)
    · skip
      unfold m_x11_fits_J43
      unfold m_x11_fits_J44
      exact wp_some (hRqr6s)
    · skip
      refine wp_rg (by omega) ?_
      refine wp_rg (by omega) ?_
      refine wp_if (fun c3 => ?_) (fun c3 => ?_)
      · skip
        unfold m_x11_fits_J43
        unfold m_x11_fits_J44
        exact wp_some (hRqr6s)
      · skip
        refine wp_rdIn (by omega) (fun y14 ey14 => ?_)
        have by14 : (0 : Int) ≤ y14 ∧ y14 ≤ 7 := ey14 ▸ hRqr6s.2.1 14 _ (by show _ < 8; omega)
        unfold m_x11_fits_J44
        exact wp_some (hRqr6s)
set_option maxHeartbeats 1000000 in
theorem w_x7_mostLeft {p1 : Int} {s : MS} (hRs : Rg s) (hp0 : VR s) (hp1 : R2 p1) : wp (m_x7_mostLeft p1 s) (fun q => (Rg q.2) ∧ (0 ≤ q.1 ∧ q.1 ≤ 8)) := by
  unfold m_x7_mostLeft
  have L5 : ∀ (n : Nat) (x1 : Int) (x2 : Int) (x3 : Int) (s4 : MS), Rg s4 → (x1 = p1) → (0 ≤ x2 ∧ x2 ≤ 8) → (0 ≤ x3 ∧ x3 ≤ 8) → (VR s4) → (8 - x3) < (n : Int) → wp (m_x7_mostLeft_L5 n x1 x2 x3 s4) (fun q => (Rg q.2) ∧ (0 ≤ q.1 ∧ q.1 ≤ 8)) := by
    refine fr_ind (fun x1 x2 x3 s4 hRs4 hv5_0 hv5_1 hv5_2 hv5_3 hm5 => ?_) (fun n5 ih5 x1 x2 x3 s4 hRs4 hv5_0 hv5_1 hv5_2 hv5_3 hm5 => ?_)
    · exfalso; omega
    · show wp (m_x7_mostLeft_b5 (m_x7_mostLeft_L5 n5) x1 x2 x3 s4) _
      unfold m_x7_mostLeft_b5
      refine wp_rg (by omega) ?_
      refine wp_rg (by have : (0 : Int) ≤ gI s4 224 ∧ gI s4 224 ≤ 8 := hRs4.1 224; omega) ?_
      refine wp_if (fun c1 => ?_) (fun c1 => ?_)
      · skip
        exact wp_some ⟨hRs4, by show 0 ≤ x2 ∧ x2 ≤ 8; have : (0 : Int) ≤ gI s4 224 ∧ gI s4 224 ≤ 8 := hRs4.1 224; omega⟩
      · skip
        refine wp_rdIn (by have : (0 : Int) ≤ gI s4 224 ∧ gI s4 224 ≤ 8 := hRs4.1 224; omega) (fun y31 ey31 => ?_)
        have by31 : (0 : Int) ≤ y31 ∧ y31 ≤ 7 := ey31 ▸ hRs4.2.1 14 _ (by show _ < 8; have : (0 : Int) ≤ gI s4 224 ∧ gI s4 224 ≤ 8 := hRs4.1 224; omega)
        refine wp_bn (w_x7_reading hRs4 (hv5_3) (by show 0 ≤ y31 ∧ y31 < 8; have : (0 : Int) ≤ gI s4 224 ∧ gI s4 224 ≤ 8 := hRs4.1 224; omega) (by show R2 x1; have : (0 : Int) ≤ gI s4 224 ∧ gI s4 224 ≤ 8 := hRs4.1 224; omega)) (fun r33 er33 hr33 => ?_)
        have hr33_0 := hr33
        have hr33_0 : (-257) ≤ r33 ∧ r33 ≤ 65535 := hr33_0
        refine wp_inb (by have : (0 : Int) ≤ gI s4 224 ∧ gI s4 224 ≤ 8 := hRs4.1 224; omega) ?_
        refine wp_stn (fun s35 es35 => ?_)
        have hRs35 : Rg s35 := es35 ▸ Rg.uAu hRs4 (by show (-2147483648 : Int) ≤ r33 ∧ r33 ≤ 2147483647; have : (0 : Int) ≤ gI s4 224 ∧ gI s4 224 ≤ 8 := hRs4.1 224; omega)
        have L39 : ∀ (n : Nat) (x5 : Int) (x6 : Int) (x7 : Int) (x8 : Int) (x9 : Int) (s10 : MS), Rg s10 → (x5 = p1) → (0 ≤ x6 ∧ x6 ≤ 8) → (0 ≤ x7 ∧ x7 < 8 ∧ x7 = x3) → (0 ≤ x8 ∧ x8 ≤ x9) → (0 ≤ x9 ∧ x9 ≤ x7 + 1) → (VR s10) → (9 - x9) < (n : Int) → wp (m_x7_mostLeft_L39 (m_x7_mostLeft_L5 n5) n x5 x6 x7 x8 x9 s10) (fun q => (Rg q.2) ∧ (0 ≤ q.1 ∧ q.1 ≤ 8)) := by
          refine fr_ind (fun x5 x6 x7 x8 x9 s10 hRs10 hv39_0 hv39_1 hv39_2 hv39_3 hv39_4 hv39_5 hm39 => ?_) (fun n39 ih39 x5 x6 x7 x8 x9 s10 hRs10 hv39_0 hv39_1 hv39_2 hv39_3 hv39_4 hv39_5 hm39 => ?_)
          · exfalso; omega
          · show wp (m_x7_mostLeft_b39 (m_x7_mostLeft_L5 n5) (m_x7_mostLeft_L39 (m_x7_mostLeft_L5 n5) n39) x5 x6 x7 x8 x9 s10) _
            unfold m_x7_mostLeft_b39
            refine wp_rg (by have : (0 : Int) ≤ gI s4 224 ∧ gI s4 224 ≤ 8 := hRs4.1 224; omega) ?_
            refine wp_rg (by have : (0 : Int) ≤ gI s4 224 ∧ gI s4 224 ≤ 8 := hRs4.1 224; omega) ?_
            refine wp_if (fun c2 => ?_) (fun c2 => ?_)
            · skip
              refine wp_rg (by have : (0 : Int) ≤ gI s4 224 ∧ gI s4 224 ≤ 8 := hRs4.1 224; omega) ?_
              refine wp_rg (by have : (0 : Int) ≤ gI s4 224 ∧ gI s4 224 ≤ 8 := hRs4.1 224; omega) ?_
              exact ih5 x5 (maxZ x6 x8) (x7 + 1) s10 hRs10 (by show x5 = p1; have : (0 : Int) ≤ gI s4 224 ∧ gI s4 224 ≤ 8 := hRs4.1 224; omega) (by show 0 ≤ (maxZ x6 x8) ∧ (maxZ x6 x8) ≤ 8; have : (0 : Int) ≤ gI s4 224 ∧ gI s4 224 ≤ 8 := hRs4.1 224; have mm := mx_b x6 x8; omega) (by show 0 ≤ (x7 + 1) ∧ (x7 + 1) ≤ 8; have : (0 : Int) ≤ gI s4 224 ∧ gI s4 224 ≤ 8 := hRs4.1 224; omega) (hv39_5) (by have : (0 : Int) ≤ gI s4 224 ∧ gI s4 224 ≤ 8 := hRs4.1 224; omega)
            · skip
              refine wp_rdIn (by have : (0 : Int) ≤ gI s4 224 ∧ gI s4 224 ≤ 8 := hRs4.1 224; omega) (fun y23 ey23 => ?_)
              have by23 : (-2147483648 : Int) ≤ y23 ∧ y23 ≤ 2147483647 := ey23 ▸ hRs10.2.1 15 _ (by show _ < 8; have : (0 : Int) ≤ gI s4 224 ∧ gI s4 224 ≤ 8 := hRs4.1 224; omega)
              refine wp_rdIn (by have : (0 : Int) ≤ gI s4 224 ∧ gI s4 224 ≤ 8 := hRs4.1 224; omega) (fun y24 ey24 => ?_)
              have by24 : (-2147483648 : Int) ≤ y24 ∧ y24 ≤ 2147483647 := ey24 ▸ hRs10.2.1 15 _ (by show _ < 8; have : (0 : Int) ≤ gI s4 224 ∧ gI s4 224 ≤ 8 := hRs4.1 224; omega)
              refine wp_rg (by have : (0 : Int) ≤ gI s4 224 ∧ gI s4 224 ≤ 8 := hRs4.1 224; omega) ?_
              refine wp_rg (by have : (0 : Int) ≤ gI s4 224 ∧ gI s4 224 ≤ 8 := hRs4.1 224; omega) ?_
              refine wp_if (fun c3 => ?_) (fun c3 => ?_)
              · skip
                unfold m_x7_mostLeft_J70
                exact ih39 x5 x6 x7 (x8 + 1) (x9 + 1) s10 hRs10 (by show x5 = p1; have : (0 : Int) ≤ gI s4 224 ∧ gI s4 224 ≤ 8 := hRs4.1 224; omega) (by show 0 ≤ x6 ∧ x6 ≤ 8; have : (0 : Int) ≤ gI s4 224 ∧ gI s4 224 ≤ 8 := hRs4.1 224; omega) (by show 0 ≤ x7 ∧ x7 < 8 ∧ x7 = x3; have : (0 : Int) ≤ gI s4 224 ∧ gI s4 224 ≤ 8 := hRs4.1 224; omega) (by show 0 ≤ (x8 + 1) ∧ (x8 + 1) ≤ (x9 + 1); have : (0 : Int) ≤ gI s4 224 ∧ gI s4 224 ≤ 8 := hRs4.1 224; omega) (by show 0 ≤ (x9 + 1) ∧ (x9 + 1) ≤ x7 + 1; have : (0 : Int) ≤ gI s4 224 ∧ gI s4 224 ≤ 8 := hRs4.1 224; omega) (hv39_5) (by have : (0 : Int) ≤ gI s4 224 ∧ gI s4 224 ≤ 8 := hRs4.1 224; omega)
              · skip
                unfold m_x7_mostLeft_J70
                exact ih39 x5 x6 x7 (x8 + 0) (x9 + 1) s10 hRs10 (by show x5 = p1; have : (0 : Int) ≤ gI s4 224 ∧ gI s4 224 ≤ 8 := hRs4.1 224; omega) (by show 0 ≤ x6 ∧ x6 ≤ 8; have : (0 : Int) ≤ gI s4 224 ∧ gI s4 224 ≤ 8 := hRs4.1 224; omega) (by show 0 ≤ x7 ∧ x7 < 8 ∧ x7 = x3; have : (0 : Int) ≤ gI s4 224 ∧ gI s4 224 ≤ 8 := hRs4.1 224; omega) (by show 0 ≤ (x8 + 0) ∧ (x8 + 0) ≤ (x9 + 1); have : (0 : Int) ≤ gI s4 224 ∧ gI s4 224 ≤ 8 := hRs4.1 224; omega) (by show 0 ≤ (x9 + 1) ∧ (x9 + 1) ≤ x7 + 1; have : (0 : Int) ≤ gI s4 224 ∧ gI s4 224 ≤ 8 := hRs4.1 224; omega) (hv39_5) (by have : (0 : Int) ≤ gI s4 224 ∧ gI s4 224 ≤ 8 := hRs4.1 224; omega)
        exact L39 FU x1 x2 x3 0 0 s35 hRs35 (by show x1 = p1; have : (0 : Int) ≤ gI s4 224 ∧ gI s4 224 ≤ 8 := hRs4.1 224; omega) (by show 0 ≤ x2 ∧ x2 ≤ 8; have : (0 : Int) ≤ gI s4 224 ∧ gI s4 224 ≤ 8 := hRs4.1 224; omega) (by show 0 ≤ x3 ∧ x3 < 8 ∧ x3 = x3; have : (0 : Int) ≤ gI s4 224 ∧ gI s4 224 ≤ 8 := hRs4.1 224; omega) (by show 0 ≤ (0 : Int) ∧ (0 : Int) ≤ (0 : Int); have : (0 : Int) ≤ gI s4 224 ∧ gI s4 224 ≤ 8 := hRs4.1 224; omega) (by show 0 ≤ (0 : Int) ∧ (0 : Int) ≤ x3 + 1; have : (0 : Int) ≤ gI s4 224 ∧ gI s4 224 ≤ 8 := hRs4.1 224; omega) (VR_eq hv5_3 (q_Aa es35 (by decide) : gA s35 54 = gA s4 54) (q_Aa es35 (by decide) : gA s35 56 = gA s4 56) (q_Aa es35 (by decide) : gA s35 57 = gA s4 57) (q_Aa es35 (by decide) : gA s35 59 = gA s4 59) (q_Aa es35 (by decide) : gA s35 60 = gA s4 60) (q_Ai es35 : gI s35 1060 = gI s4 1060)) (by have := FU_big; have := FU_big2; have : (0 : Int) ≤ gI s4 224 ∧ gI s4 224 ≤ 8 := hRs4.1 224; omega)
  exact L5 FU p1 0 0 s hRs (by show p1 = p1; omega) (by show 0 ≤ (0 : Int) ∧ (0 : Int) ≤ 8; omega) (by show 0 ≤ (0 : Int) ∧ (0 : Int) ≤ 8; omega) (hp0) (by have := FU_big; have := FU_big2; omega)
set_option maxHeartbeats 1000000 in
theorem w_x11_tells {p0 : Int} {s : MS} (hRs : Rg s) (hp0 : VR s) (hp1 : R2 p0) : wp (m_x11_tells p0 s) (fun q => (Rg q.2)) := by
  unfold m_x11_tells
  refine wp_bn (w_x7_findFits hRs (hp0)) (fun qqr23 eqr23s hqr23s => ?_)
  obtain ⟨qr23r, qr23s⟩ := qqr23
  dsimp only at eqr23s hqr23s ⊢
  have Fqr23s := fr_x7_findFits eqr23s
  obtain ⟨hRqr23s, hqr23s_0⟩ := hqr23s
  have hqr23s_0 : 0 ≤ qr23r ∧ qr23r ≤ 8 := hqr23s_0
  refine wp_rg (by omega) ?_
  refine wp_if (fun c1 => ?_) (fun c1 => ?_)
  · skip
    exact wp_some (hRqr23s)
  · skip
    have L27 : ∀ (n : Nat) (x1 : Int) (x2 : Int) (x3 : Int) (x4 : Int) (s5 : MS), Rg s5 → (x1 = p0) → (0 ≤ x2 ∧ x2 ≤ 100) → (0 ≤ x3 ∧ x3 ≤ 9) → (0 ≤ x4 ∧ x4 ≤ 100) → (VR s5) → (100 - x4) < (n : Int) → wp (m_x11_tells_L27 n x1 x2 x3 x4 s5) (fun q => (Rg q.2)) := by
      refine fr_ind (fun x1 x2 x3 x4 s5 hRs5 hv27_0 hv27_1 hv27_2 hv27_3 hv27_4 hm27 => ?_) (fun n27 ih27 x1 x2 x3 x4 s5 hRs5 hv27_0 hv27_1 hv27_2 hv27_3 hv27_4 hm27 => ?_)
      · exfalso; omega
      · show wp (m_x11_tells_b27 (m_x11_tells_L27 n27) x1 x2 x3 x4 s5) _
        unfold m_x11_tells_b27
        refine wp_rg (by omega) ?_
        refine wp_if (fun c2 => ?_) (fun c2 => ?_)
        · skip
          refine wp_bn (w_x11_oneOf hRs5 (by show R2 x1; omega)) (fun r14 er14 hr14 => ?_)
          exact wp_some (hRs5)
        · skip
          refine wp_bn (w_x7_mostLeft hRs5 (hv27_4) (by show R2 x4; omega)) (fun qqr17 eqr17s hqr17s => ?_)
          obtain ⟨qr17r, qr17s⟩ := qqr17
          dsimp only at eqr17s hqr17s ⊢
          have Fqr17s := fr_x7_mostLeft eqr17s
          obtain ⟨hRqr17s, hqr17s_0⟩ := hqr17s
          have hqr17s_0 : 0 ≤ qr17r ∧ qr17r ≤ 8 := hqr17s_0
          refine wp_rg (by omega) ?_
          refine wp_rg (by omega) ?_
          refine wp_if (fun c3 => ?_) (fun c3 => ?_)
          · skip
            unfold m_x11_tells_J64
            exact ih27 x1 x2 x3 (x4 + 1) qr17s hRqr17s (by show x1 = p0; omega) (by show 0 ≤ x2 ∧ x2 ≤ 100; omega) (by show 0 ≤ x3 ∧ x3 ≤ 9; omega) (by show 0 ≤ (x4 + 1) ∧ (x4 + 1) ≤ 100; omega) (VR_eq hv27_4 (Fqr17s.2.1 54 (by decide)) (Fqr17s.2.1 56 (by decide)) (Fqr17s.2.1 57 (by decide)) (Fqr17s.2.1 59 (by decide)) (Fqr17s.2.1 60 (by decide)) (Fqr17s.1 1060 (by decide))) (by omega)
          · skip
            unfold m_x11_tells_J64
            exact ih27 x1 x4 qr17r (x4 + 1) qr17s hRqr17s (by show x1 = p0; omega) (by show 0 ≤ x4 ∧ x4 ≤ 100; omega) (by show 0 ≤ qr17r ∧ qr17r ≤ 9; omega) (by show 0 ≤ (x4 + 1) ∧ (x4 + 1) ≤ 100; omega) (VR_eq hv27_4 (Fqr17s.2.1 54 (by decide)) (Fqr17s.2.1 56 (by decide)) (Fqr17s.2.1 57 (by decide)) (Fqr17s.2.1 59 (by decide)) (Fqr17s.2.1 60 (by decide)) (Fqr17s.1 1060 (by decide))) (by omega)
    exact L27 FU p0 0 9 0 qr23s hRqr23s (by show p0 = p0; omega) (by show 0 ≤ (0 : Int) ∧ (0 : Int) ≤ 100; omega) (by show 0 ≤ (9 : Int) ∧ (9 : Int) ≤ 9; omega) (by show 0 ≤ (0 : Int) ∧ (0 : Int) ≤ 100; omega) (VR_eq hp0 (Fqr23s.2.1 54 (by decide)) (Fqr23s.2.1 56 (by decide)) (Fqr23s.2.1 57 (by decide)) (Fqr23s.2.1 59 (by decide)) (Fqr23s.2.1 60 (by decide)) (Fqr23s.1 1060 (by decide))) (by have := FU_big; have := FU_big2; omega)
set_option maxHeartbeats 1000000 in
theorem w_x11_path {p0 : Int} {p1 : Int} {p2 : Int} {s : MS} (hRs : Rg s) (hp0 : VR s) (hp1 : R2 p0) (hp2 : R2 p1) (hp3 : R2 p2) : wp (m_x11_path p0 p1 p2 s) (fun r => True) := by
  unfold m_x11_path
  refine wp_bn (w_x8_isVolume hRs (by show R2 p0; omega)) (fun r11 er11 hr11 => ?_)
  have hr11_0 := hr11
  have hr11_0 : (r11 = 1 ∧ 0 ≤ p0 ∧ p0 < 8 ∧ gA s 60 p0.toNat ≠ -2) ∨ (r11 = 0 ∧ (p0 < 0 ∨ 8 ≤ p0 ∨ gA s 60 p0.toNat = -2)) := hr11_0
  refine wp_rg (by omega) ?_
  refine wp_if (fun c1 => ?_) (fun c1 => ?_)
  · skip
    unfold m_x11_path_J29
    exact wp_some (trivial)
  · skip
    refine wp_bn (w_x11_isKey hRs (by show R2 p1; omega)) (fun r15 er15 hr15 => ?_)
    have hr15_0 := hr15
    have hr15_0 : (r15 = 1 ∧ 0 ≤ p1 ∧ p1 ≤ 999) ∨ (r15 = 0 ∧ (p1 < 0 ∨ 999 < p1)) := hr15_0
    refine wp_rg (by omega) ?_
    refine wp_if (fun c2 => ?_) (fun c2 => ?_)
    · skip
      unfold m_x11_path_J29
      exact wp_some (trivial)
    · skip
      refine wp_rg (by omega) ?_
      refine wp_if (fun c3 => ?_) (fun c3 => ?_)
      · skip
        refine wp_rdIn (by omega) (fun y20 ey20 => ?_)
        have by20 : (-2 : Int) ≤ y20 ∧ y20 ≤ 253 := ey20 ▸ hRs.2.1 60 _ (by show _ < 8; omega)
        have k20 := hp0.2 p0.toNat (by omega)
        rw [ey20] at k20
        refine wp_rg (by omega) ?_
        refine wp_if (fun c4 => ?_) (fun c4 => ?_)
        · skip
          unfold m_x11_path_J58
          exact wp_some (trivial)
        · skip
          have k21 := k20 (by omega)
          refine wp_rdIn (by omega) (fun y23 ey23 => ?_)
          have by23 : (-1 : Int) ≤ y23 ∧ y23 ≤ 1000 := ey23 ▸ hRs.2.1 56 _ (by show _ < 48; omega)
          refine wp_rg (by omega) ?_
          refine wp_rg (by omega) ?_
          refine wp_if (fun c5 => ?_) (fun c5 => ?_)
          · skip
            have L63 : ∀ (n : Nat) (x1 : Int) (x2 : Int) (x3 : Int) (x4 : Int), (x1 = p1 ∧ x2 = p2) → (0 ≤ x3 ∧ x3 < 48 ∧ 0 < gA s 54 x3.toNat) → (gA s 56 x3.toNat + x4 = y23) → (0 ≤ x4 ∧ x4 ≤ p2) → (p2 - x4) < (n : Int) → wp (m_x11_path_L63 s n x1 x2 x3 x4) (fun r => True) := by
              refine fr_ind (fun x1 x2 x3 x4 hv63_0 hv63_1 hv63_2 hv63_3 hm63 => ?_) (fun n63 ih63 x1 x2 x3 x4 hv63_0 hv63_1 hv63_2 hv63_3 hm63 => ?_)
              · exfalso; omega
              · show wp (m_x11_path_b63 s (m_x11_path_L63 s n63) x1 x2 x3 x4) _
                unfold m_x11_path_b63
                have cl := hp0.1 x3.toNat (by omega) hv63_1.2.2
                have cz : 0 ≤ gA s 57 x3.toNat ∧ gA s 57 x3.toNat ≤ 6 := cl.1.2.1
                have cz1 := cl.2.1
                refine wp_rg (by omega) ?_
                refine wp_rg (by omega) ?_
                refine wp_if (fun c6 => ?_) (fun c6 => ?_)
                · skip
                  exact wp_some (trivial)
                · skip
                  refine wp_bn (w_x8_below hRs (by show 0 ≤ x3 ∧ x3 < 48; omega) (by show 1 ≤ gA s 57 x3.toNat ∧ gA s 57 x3.toNat ≤ 6; omega) (by show R2 x1; omega)) (fun r9 er9 hr9 => ?_)
                  have hr9_0 := hr9
                  have hr9_0 : ∃ k : Nat, (k : Int) < gA s 57 x3.toNat ∧ r9 = gA s 59 (6 * x3.toNat + k) := hr9_0
                  obtain ⟨kk, hk1, hk2⟩ := hr9_0
                  have kd := cl.1.2.2 (by show 0 < gA s 56 x3.toNat; omega) kk hk1
                  have kv : (hN s).2.2 x3.toNat kk = r9 := hk2.symm
                  rw [kv] at kd
                  have kl : gA s 56 r9.toNat = gA s 56 x3.toNat - 1 := kd.2
                  have kb := kd.1
                  have kc := cl.2.2 (by omega) kk hk1
                  rw [← hk2] at kc
                  have k48 : (0 : Int) ≤ gI s 1060 ∧ gI s 1060 ≤ 48 := hRs.1 1060
                  exact ih63 x1 x2 r9 (x4 + 1) (by show x1 = p1 ∧ x2 = p2; omega) (by show 0 ≤ r9 ∧ r9 < 48 ∧ 0 < gA s 54 r9.toNat; omega) (by show gA s 56 r9.toNat + (x4 + 1) = y23; omega) (by show 0 ≤ (x4 + 1) ∧ (x4 + 1) ≤ p2; omega) (by omega)
            exact L63 FU p1 p2 y20 0 (by show p1 = p1 ∧ p2 = p2; omega) (by show 0 ≤ y20 ∧ y20 < 48 ∧ 0 < gA s 54 y20.toNat; omega) (by show gA s 56 y20.toNat + (0 : Int) = y23; omega) (by show 0 ≤ (0 : Int) ∧ (0 : Int) ≤ p2; omega) (by have := FU_big; have := FU_big2; have := FU_big2; omega)
          · skip
            unfold m_x11_path_J58
            exact wp_some (trivial)
      · skip
        unfold m_x11_path_J29
        exact wp_some (trivial)
set_option maxHeartbeats 1000000 in
theorem w_x9_pair {p0 : Int} {s : MS} (hRs : Rg s) (hp0 : (-1) ≤ p0 ∧ p0 ≤ 100000) : wp (m_x9_pair p0 s) (fun r => ((-257) ≤ r ∧ r ≤ 65535)) := by
  unfold m_x9_pair
  refine wp_bn (w_x9_at hRs (by show R2 p0; omega)) (fun r2 er2 hr2 => ?_)
  obtain ⟨hr2_0, hr2_1⟩ := hr2
  have hr2_0 : (-1) ≤ r2 ∧ r2 ≤ 255 := hr2_0
  have hr2_1 : r2 ≠ -1 → 0 ≤ p0 ∧ p0 < gI s 61 := hr2_1
  refine wp_bn (w_x9_at hRs (by show R2 (p0 + 1); have : (0 : Int) ≤ gI s 61 ∧ gI s 61 ≤ 1600 := hRs.1 61; omega)) (fun r4 er4 hr4 => ?_)
  obtain ⟨hr4_0, hr4_1⟩ := hr4
  have hr4_0 : (-1) ≤ r4 ∧ r4 ≤ 255 := hr4_0
  have hr4_1 : r4 ≠ -1 → 0 ≤ (p0 + 1) ∧ (p0 + 1) < gI s 61 := hr4_1
  exact wp_some (by show (-257) ≤ ((r2 * 256) + r4) ∧ ((r2 * 256) + r4) ≤ 65535; have : (0 : Int) ≤ gI s 61 ∧ gI s 61 ≤ 1600 := hRs.1 61; omega)
set_option maxHeartbeats 1000000 in
theorem w_x7_take {s : MS} (hRs : Rg s) : wp (m_x7_take s) (fun q => (Rg q.2) ∧ (q.1 = 0 ∨ q.1 = 1)) := by
  have t4 := td4 (gI s 61) (hRs.1 61)
  unfold m_x7_take
  refine wp_dv (by have : (0 : Int) ≤ gI s 61 ∧ gI s 61 ≤ 1600 := hRs.1 61; omega) ?_
  refine wp_dv (by have : (0 : Int) ≤ gI s 61 ∧ gI s 61 ≤ 1600 := hRs.1 61; omega) ?_
  refine wp_rg (by have : (0 : Int) ≤ gI s 61 ∧ gI s 61 ≤ 1600 := hRs.1 61; omega) ?_
  refine wp_if (fun c1 => ?_) (fun c1 => ?_)
  · skip
    refine wp_rg (by have : (0 : Int) ≤ gI s 61 ∧ gI s 61 ≤ 1600 := hRs.1 61; omega) ?_
    refine wp_if (fun c2 => ?_) (fun c2 => ?_)
    · skip
      unfold m_x7_take_J27
      exact wp_some ⟨hRs, by show (0 : Int) = 0 ∨ (0 : Int) = 1; have : (0 : Int) ≤ gI s 61 ∧ gI s 61 ≤ 1600 := hRs.1 61; omega⟩
    · skip
      refine wp_rg (by have : (0 : Int) ≤ gI s 61 ∧ gI s 61 ≤ 1600 := hRs.1 61; omega) ?_
      refine wp_if (fun c3 => ?_) (fun c3 => ?_)
      · skip
        have L31 : ∀ (n : Nat) (x17 : Int) (x18 : Int) (s19 : MS), Rg s19 → (x17 = Int.tdiv (gI s 61) 4) → (1 ≤ x17 ∧ x17 ≤ 12) → (0 ≤ x18 ∧ x18 ≤ 12) → (12 - x18) < (n : Int) → wp (m_x7_take_L31 n x17 x18 s19) (fun q => (Rg q.2) ∧ (q.1 = 0 ∨ q.1 = 1)) := by
          refine fr_ind (fun x17 x18 s19 hRs19 hv31_0 hv31_1 hv31_2 hm31 => ?_) (fun n31 ih31 x17 x18 s19 hRs19 hv31_0 hv31_1 hv31_2 hm31 => ?_)
          · exfalso; have : (0 : Int) ≤ gI s 61 ∧ gI s 61 ≤ 1600 := hRs.1 61; omega
          · show wp (m_x7_take_b31 (m_x7_take_L31 n31) x17 x18 s19) _
            unfold m_x7_take_b31
            refine wp_rg (by have : (0 : Int) ≤ gI s 61 ∧ gI s 61 ≤ 1600 := hRs.1 61; omega) ?_
            refine wp_rg (by have : (0 : Int) ≤ gI s 61 ∧ gI s 61 ≤ 1600 := hRs.1 61; omega) ?_
            refine wp_if (fun c4 => ?_) (fun c4 => ?_)
            · skip
              have L74 : ∀ (n : Nat) (x1 : Int) (x2 : Int) (s3 : MS), Rg s3 → (x1 = Int.tdiv (gI s 61) 4) → (1 ≤ x1 ∧ x1 ≤ 12) → (0 ≤ x2 ∧ x2 ≤ 12) → (12 - x2) < (n : Int) → wp (m_x7_take_L74 n x1 x2 s3) (fun q => (Rg q.2) ∧ (q.1 = 0 ∨ q.1 = 1)) := by
                refine fr_ind (fun x1 x2 s3 hRs3 hv74_0 hv74_1 hv74_2 hm74 => ?_) (fun n74 ih74 x1 x2 s3 hRs3 hv74_0 hv74_1 hv74_2 hm74 => ?_)
                · exfalso; have : (0 : Int) ≤ gI s 61 ∧ gI s 61 ≤ 1600 := hRs.1 61; omega
                · show wp (m_x7_take_b74 (m_x7_take_L74 n74) x1 x2 s3) _
                  unfold m_x7_take_b74
                  refine wp_rg (by have : (0 : Int) ≤ gI s 61 ∧ gI s 61 ≤ 1600 := hRs.1 61; omega) ?_
                  refine wp_rg (by have : (0 : Int) ≤ gI s 61 ∧ gI s 61 ≤ 1600 := hRs.1 61; omega) ?_
                  refine wp_if (fun c5 => ?_) (fun c5 => ?_)
                  · skip
                    refine wp_stn (fun s7 es7 => ?_)
                    have hRs7 : Rg s7 := es7 ▸ Rg.uI hRs3 (by show (0 : Int) ≤ x1 ∧ x1 ≤ 12; have : (0 : Int) ≤ gI s 61 ∧ gI s 61 ≤ 1600 := hRs.1 61; omega)
                    exact wp_some ⟨hRs7, by show (1 : Int) = 0 ∨ (1 : Int) = 1; have : (0 : Int) ≤ gI s 61 ∧ gI s 61 ≤ 1600 := hRs.1 61; omega⟩
                  · skip
                    refine wp_bn (w_x9_pair hRs3 (by show (-1) ≤ (x2 * 4) ∧ (x2 * 4) ≤ 100000; have : (0 : Int) ≤ gI s 61 ∧ gI s 61 ≤ 1600 := hRs.1 61; omega)) (fun r9 er9 hr9 => ?_)
                    have hr9_0 := hr9
                    have hr9_0 : (-257) ≤ r9 ∧ r9 ≤ 65535 := hr9_0
                    refine wp_inb (by have : (0 : Int) ≤ gI s 61 ∧ gI s 61 ≤ 1600 := hRs.1 61; omega) ?_
                    refine wp_stn (fun s11 es11 => ?_)
                    have hRs11 : Rg s11 := es11 ▸ Rg.uAu hRs3 (by show (-2147483648 : Int) ≤ r9 ∧ r9 ≤ 2147483647; have : (0 : Int) ≤ gI s 61 ∧ gI s 61 ≤ 1600 := hRs.1 61; omega)
                    refine wp_bn (w_x9_pair hRs11 (by show (-1) ≤ ((x2 * 4) + 2) ∧ ((x2 * 4) + 2) ≤ 100000; have : (0 : Int) ≤ gI s 61 ∧ gI s 61 ≤ 1600 := hRs.1 61; omega)) (fun r13 er13 hr13 => ?_)
                    have hr13_0 := hr13
                    have hr13_0 : (-257) ≤ r13 ∧ r13 ≤ 65535 := hr13_0
                    refine wp_inb (by have : (0 : Int) ≤ gI s 61 ∧ gI s 61 ≤ 1600 := hRs.1 61; omega) ?_
                    refine wp_stn (fun s15 es15 => ?_)
                    have hRs15 : Rg s15 := es15 ▸ Rg.uAu hRs11 (by show (-2147483648 : Int) ≤ r13 ∧ r13 ≤ 2147483647; have : (0 : Int) ≤ gI s 61 ∧ gI s 61 ≤ 1600 := hRs.1 61; omega)
                    exact ih74 x1 (x2 + 1) s15 hRs15 (by show x1 = Int.tdiv (gI s 61) 4; have : (0 : Int) ≤ gI s 61 ∧ gI s 61 ≤ 1600 := hRs.1 61; omega) (by show 1 ≤ x1 ∧ x1 ≤ 12; have : (0 : Int) ≤ gI s 61 ∧ gI s 61 ≤ 1600 := hRs.1 61; omega) (by show 0 ≤ (x2 + 1) ∧ (x2 + 1) ≤ 12; have : (0 : Int) ≤ gI s 61 ∧ gI s 61 ≤ 1600 := hRs.1 61; omega) (by have : (0 : Int) ≤ gI s 61 ∧ gI s 61 ≤ 1600 := hRs.1 61; omega)
              exact L74 FU x17 0 s19 hRs19 (by show x17 = Int.tdiv (gI s 61) 4; have : (0 : Int) ≤ gI s 61 ∧ gI s 61 ≤ 1600 := hRs.1 61; omega) (by show 1 ≤ x17 ∧ x17 ≤ 12; have : (0 : Int) ≤ gI s 61 ∧ gI s 61 ≤ 1600 := hRs.1 61; omega) (by show 0 ≤ (0 : Int) ∧ (0 : Int) ≤ 12; have : (0 : Int) ≤ gI s 61 ∧ gI s 61 ≤ 1600 := hRs.1 61; omega) (by have := FU_big; have := FU_big2; have : (0 : Int) ≤ gI s 61 ∧ gI s 61 ≤ 1600 := hRs.1 61; omega)
            · skip
              refine wp_bn (w_x9_pair hRs19 (by show (-1) ≤ (x18 * 4) ∧ (x18 * 4) ≤ 100000; have : (0 : Int) ≤ gI s 61 ∧ gI s 61 ≤ 1600 := hRs.1 61; omega)) (fun r24 er24 hr24 => ?_)
              have hr24_0 := hr24
              have hr24_0 : (-257) ≤ r24 ∧ r24 ≤ 65535 := hr24_0
              refine wp_rg (by have : (0 : Int) ≤ gI s 61 ∧ gI s 61 ≤ 1600 := hRs.1 61; omega) ?_
              refine wp_if (fun c6 => ?_) (fun c6 => ?_)
              · skip
                unfold m_x7_take_J64
                exact wp_some ⟨hRs19, by show (0 : Int) = 0 ∨ (0 : Int) = 1; have : (0 : Int) ≤ gI s 61 ∧ gI s 61 ≤ 1600 := hRs.1 61; omega⟩
              · skip
                refine wp_bn (w_x9_pair hRs19 (by show (-1) ≤ ((x18 * 4) + 2) ∧ ((x18 * 4) + 2) ≤ 100000; have : (0 : Int) ≤ gI s 61 ∧ gI s 61 ≤ 1600 := hRs.1 61; omega)) (fun r28 er28 hr28 => ?_)
                have hr28_0 := hr28
                have hr28_0 : (-257) ≤ r28 ∧ r28 ≤ 65535 := hr28_0
                refine wp_rg (by have : (0 : Int) ≤ gI s 61 ∧ gI s 61 ≤ 1600 := hRs.1 61; omega) ?_
                refine wp_if (fun c7 => ?_) (fun c7 => ?_)
                · skip
                  exact ih31 x17 (x18 + 1) s19 hRs19 (by show x17 = Int.tdiv (gI s 61) 4; have : (0 : Int) ≤ gI s 61 ∧ gI s 61 ≤ 1600 := hRs.1 61; omega) (by show 1 ≤ x17 ∧ x17 ≤ 12; have : (0 : Int) ≤ gI s 61 ∧ gI s 61 ≤ 1600 := hRs.1 61; omega) (by show 0 ≤ (x18 + 1) ∧ (x18 + 1) ≤ 12; have : (0 : Int) ≤ gI s 61 ∧ gI s 61 ≤ 1600 := hRs.1 61; omega) (by have : (0 : Int) ≤ gI s 61 ∧ gI s 61 ≤ 1600 := hRs.1 61; omega)
                · skip
                  unfold m_x7_take_J64
                  exact wp_some ⟨hRs19, by show (0 : Int) = 0 ∨ (0 : Int) = 1; have : (0 : Int) ≤ gI s 61 ∧ gI s 61 ≤ 1600 := hRs.1 61; omega⟩
        exact L31 FU (Int.tdiv (gI s 61) 4) 0 s hRs (by show (Int.tdiv (gI s 61) 4) = Int.tdiv (gI s 61) 4; have : (0 : Int) ≤ gI s 61 ∧ gI s 61 ≤ 1600 := hRs.1 61; omega) (by show 1 ≤ (Int.tdiv (gI s 61) 4) ∧ (Int.tdiv (gI s 61) 4) ≤ 12; have : (0 : Int) ≤ gI s 61 ∧ gI s 61 ≤ 1600 := hRs.1 61; omega) (by show 0 ≤ (0 : Int) ∧ (0 : Int) ≤ 12; have : (0 : Int) ≤ gI s 61 ∧ gI s 61 ≤ 1600 := hRs.1 61; omega) (by have := FU_big; have := FU_big2; have : (0 : Int) ≤ gI s 61 ∧ gI s 61 ≤ 1600 := hRs.1 61; omega)
      · skip
        unfold m_x7_take_J27
        exact wp_some ⟨hRs, by show (0 : Int) = 0 ∨ (0 : Int) = 1; have : (0 : Int) ≤ gI s 61 ∧ gI s 61 ≤ 1600 := hRs.1 61; omega⟩
  · skip
    unfold m_x7_take_J27
    exact wp_some ⟨hRs, by show (0 : Int) = 0 ∨ (0 : Int) = 1; have : (0 : Int) ≤ gI s 61 ∧ gI s 61 ≤ 1600 := hRs.1 61; omega⟩
set_option maxHeartbeats 1000000 in
theorem w_x11_see {s : MS} (hRs : Rg s) : wp (m_x11_see s) (fun q => (Rg q.2) ∧ (gI q.2 61 = 0)) := by
  unfold m_x11_see
  refine wp_bn (w_x7_take hRs) (fun qqr5 eqr5s hqr5s => ?_)
  obtain ⟨qr5r, qr5s⟩ := qqr5
  dsimp only at eqr5s hqr5s ⊢
  have Fqr5s := fr_x7_take eqr5s
  obtain ⟨hRqr5s, hqr5s_0⟩ := hqr5s
  have hqr5s_0 : qr5r = 0 ∨ qr5r = 1 := hqr5s_0
  refine wp_stn (fun s6 es6 => ?_)
  have hRs6 : Rg s6 := es6 ▸ Rg.uI hRqr5s (by show (0 : Int) ≤ (0 : Int) ∧ (0 : Int) ≤ 1600; omega)
  refine wp_rg (by omega) ?_
  refine wp_if (fun c1 => ?_) (fun c1 => ?_)
  · skip
    refine wp_bn (w_x11_refuse hRs6 (by show 0 ≤ (1 : Int) ∧ (1 : Int) < 6; omega)) (fun qqr11 eqr11s hqr11s => ?_)
    obtain ⟨qr11r, qr11s⟩ := qqr11
    dsimp only at eqr11s hqr11s ⊢
    have Fqr11s := fr_x11_refuse eqr11s
    obtain ⟨hRqr11s, hqr11s_0⟩ := hqr11s
    have hqr11s_0 : qr11r = -1 := hqr11s_0
    unfold m_x11_see_J39
    exact wp_some ⟨hRqr11s, by show gI qr11s 61 = 0; have : gI qr11s 61 = gI s6 61 := Fqr11s.1 61 (by decide); have : gI s6 61 = 0 := q_II es6; omega⟩
  · skip
    unfold m_x11_see_J39
    exact wp_some ⟨hRs6, by show gI s6 61 = 0; have : gI s6 61 = 0 := q_II es6; omega⟩
set_option maxHeartbeats 1000000 in
theorem w_x1_valueFor {p0 : Int} {s : MS} (hRs : Rg s) (hp0 : 0 ≤ p0 ∧ p0 < 48) : wp (m_x1_valueFor p0 s) (fun q => (Rg q.2) ∧ ((-1000000) ≤ q.1 ∧ q.1 ≤ 1000001)) := by
  unfold m_x1_valueFor
  refine wp_stn (fun s10 es10 => ?_)
  have hRs10 : Rg s10 := es10 ▸ Rg.uI hRs (by show (-1000000 : Int) ≤ p0 ∧ p0 ≤ 1000000; omega)
  refine wp_bn (w_x8_levelOf hRs10 (by show R2 p0; omega)) (fun r12 er12 hr12 => ?_)
  obtain ⟨hr12_0, hr12_1⟩ := hr12
  have hr12_0 : r12 = 0 ∨ (r12 = gA s10 56 p0.toNat ∧ 0 ≤ p0 ∧ p0 < gI s10 1060 ∧ (0 < gA s10 54 p0.toNat ∨ 0 < gA s10 55 p0.toNat)) := hr12_0
  have hr12_1 : (-1) ≤ r12 ∧ r12 ≤ 1000 := hr12_1
  refine wp_stn (fun s13 es13 => ?_)
  have hRs13 : Rg s13 := es13 ▸ Rg.uI hRs10 (by show (-1000000 : Int) ≤ r12 ∧ r12 ≤ 1000000; have : gI s10 1060 = gI s 1060 := q_Ii es10 (by decide); have : (0 : Int) ≤ gI s 1060 ∧ gI s 1060 ≤ 48 := hRs.1 1060; omega)
  refine wp_bn (w_x8_sizeOf hRs13 (by show R2 p0; have : gI s10 1060 = gI s 1060 := q_Ii es10 (by decide); have : (0 : Int) ≤ gI s 1060 ∧ gI s 1060 ≤ 48 := hRs.1 1060; omega)) (fun r15 er15 hr15 => ?_)
  obtain ⟨hr15_0, hr15_1⟩ := hr15
  have hr15_0 : r15 = 0 ∨ (r15 = gA s13 57 p0.toNat ∧ 0 ≤ p0 ∧ p0 < gI s13 1060 ∧ (0 < gA s13 54 p0.toNat ∨ 0 < gA s13 55 p0.toNat)) := hr15_0
  have hr15_1 : (-1) ≤ r15 ∧ r15 ≤ 255 := hr15_1
  refine wp_stn (fun s16 es16 => ?_)
  have hRs16 : Rg s16 := es16 ▸ Rg.uI hRs13 (by show (-1000000 : Int) ≤ r15 ∧ r15 ≤ 1000000; have : gI s13 1060 = gI s10 1060 := q_Ii es13 (by decide); have : gI s10 1060 = gI s 1060 := q_Ii es10 (by decide); have : (0 : Int) ≤ gI s 1060 ∧ gI s 1060 ≤ 48 := hRs.1 1060; omega)
  refine wp_rdIn (by have : gI s13 1060 = gI s10 1060 := q_Ii es13 (by decide); have : gI s10 1060 = gI s 1060 := q_Ii es10 (by decide); have : (0 : Int) ≤ gI s 1060 ∧ gI s 1060 ≤ 48 := hRs.1 1060; omega) (fun y17 ey17 => ?_)
  have by17 : (-1 : Int) ≤ y17 ∧ y17 ≤ 100000 := ey17 ▸ hRs16.2.1 54 _ (by show _ < 48; have : gI s13 1060 = gI s10 1060 := q_Ii es13 (by decide); have : gI s10 1060 = gI s 1060 := q_Ii es10 (by decide); have : (0 : Int) ≤ gI s 1060 ∧ gI s 1060 ≤ 48 := hRs.1 1060; omega)
  refine wp_stn (fun s18 es18 => ?_)
  have hRs18 : Rg s18 := es18 ▸ Rg.uI hRs16 (by show (-1000000 : Int) ≤ y17 ∧ y17 ≤ 1000000; have : gI s13 1060 = gI s10 1060 := q_Ii es13 (by decide); have : gI s10 1060 = gI s 1060 := q_Ii es10 (by decide); have : (0 : Int) ≤ gI s 1060 ∧ gI s 1060 ≤ 48 := hRs.1 1060; omega)
  refine wp_bn (w_x8_isFresh hRs18 (by show R2 p0; have : gI s13 1060 = gI s10 1060 := q_Ii es13 (by decide); have : gI s10 1060 = gI s 1060 := q_Ii es10 (by decide); have : (0 : Int) ≤ gI s 1060 ∧ gI s 1060 ≤ 48 := hRs.1 1060; omega)) (fun r20 er20 hr20 => ?_)
  have hr20_0 := hr20
  have hr20_0 : (r20 = 1 ∧ 0 ≤ p0 ∧ p0 < gI s18 1060 ∧ 0 < gA s18 54 p0.toNat ∧ gA s18 55 p0.toNat = 0) ∨ (r20 = 0 ∧ (p0 < 0 ∨ gI s18 1060 ≤ p0 ∨ ¬ (0 < gA s18 54 p0.toNat ∧ gA s18 55 p0.toNat = 0))) := hr20_0
  refine wp_rg (by have : gI s18 1060 = gI s16 1060 := q_Ii es18 (by decide); have : gI s16 1060 = gI s13 1060 := q_Ii es16 (by decide); have : gI s13 1060 = gI s10 1060 := q_Ii es13 (by decide); have : gI s10 1060 = gI s 1060 := q_Ii es10 (by decide); have : (0 : Int) ≤ gI s 1060 ∧ gI s 1060 ≤ 48 := hRs.1 1060; omega) ?_
  refine wp_if (fun c1 => ?_) (fun c1 => ?_)
  · skip
    unfold m_x1_valueFor_J74
    refine wp_stn (fun s4 es4 => ?_)
    have hRs4 : Rg s4 := es4 ▸ Rg.uI hRs18 (by show (-1000000 : Int) ≤ (0 : Int) ∧ (0 : Int) ≤ 1000000; have : gI s18 1060 = gI s16 1060 := q_Ii es18 (by decide); have : gI s16 1060 = gI s13 1060 := q_Ii es16 (by decide); have : gI s13 1060 = gI s10 1060 := q_Ii es13 (by decide); have : gI s10 1060 = gI s 1060 := q_Ii es10 (by decide); have : (0 : Int) ≤ gI s 1060 ∧ gI s 1060 ≤ 48 := hRs.1 1060; omega)
    refine wp_rdIn (by have : gI s18 1060 = gI s16 1060 := q_Ii es18 (by decide); have : gI s16 1060 = gI s13 1060 := q_Ii es16 (by decide); have : gI s13 1060 = gI s10 1060 := q_Ii es13 (by decide); have : gI s10 1060 = gI s 1060 := q_Ii es10 (by decide); have : (0 : Int) ≤ gI s 1060 ∧ gI s 1060 ≤ 48 := hRs.1 1060; omega) (fun y5 ey5 => ?_)
    have by5 : (-1 : Int) ≤ y5 ∧ y5 ≤ 100000 := ey5 ▸ hRs4.2.1 55 _ (by show _ < 48; have : gI s18 1060 = gI s16 1060 := q_Ii es18 (by decide); have : gI s16 1060 = gI s13 1060 := q_Ii es16 (by decide); have : gI s13 1060 = gI s10 1060 := q_Ii es13 (by decide); have : gI s10 1060 = gI s 1060 := q_Ii es10 (by decide); have : (0 : Int) ≤ gI s 1060 ∧ gI s 1060 ≤ 48 := hRs.1 1060; omega)
    refine wp_stn (fun s6 es6 => ?_)
    have hRs6 : Rg s6 := es6 ▸ Rg.uI hRs4 (by show (-1000000 : Int) ≤ y5 ∧ y5 ≤ 1000000; have : gI s18 1060 = gI s16 1060 := q_Ii es18 (by decide); have : gI s16 1060 = gI s13 1060 := q_Ii es16 (by decide); have : gI s13 1060 = gI s10 1060 := q_Ii es13 (by decide); have : gI s10 1060 = gI s 1060 := q_Ii es10 (by decide); have : (0 : Int) ≤ gI s 1060 ∧ gI s 1060 ≤ 48 := hRs.1 1060; omega)
    refine wp_bn (w_x3_value_v2 hRs6 (by show R2 (0 : Int); have : gI s18 1060 = gI s16 1060 := q_Ii es18 (by decide); have : gI s16 1060 = gI s13 1060 := q_Ii es16 (by decide); have : gI s13 1060 = gI s10 1060 := q_Ii es13 (by decide); have : gI s10 1060 = gI s 1060 := q_Ii es10 (by decide); have : (0 : Int) ≤ gI s 1060 ∧ gI s 1060 ≤ 48 := hRs.1 1060; omega) (by show R2 (gI s6 941); have : gI s18 1060 = gI s16 1060 := q_Ii es18 (by decide); have : gI s16 1060 = gI s13 1060 := q_Ii es16 (by decide); have : gI s13 1060 = gI s10 1060 := q_Ii es13 (by decide); have : gI s10 1060 = gI s 1060 := q_Ii es10 (by decide); have : (0 : Int) ≤ gI s 1060 ∧ gI s 1060 ≤ 48 := hRs.1 1060; have : gI s6 941 = gI s4 941 := q_Ii es6 (by decide); have : gI s4 941 = gI s18 941 := q_Ii es4 (by decide); have : gI s18 941 = gI s16 941 := q_Ii es18 (by decide); have : gI s16 941 = gI s13 941 := q_Ii es16 (by decide); have : gI s13 941 = gI s10 941 := q_Ii es13 (by decide); have : gI s10 941 = gI s 941 := q_Ii es10 (by decide); have : (0 : Int) ≤ gI s 941 ∧ gI s 941 ≤ 1600 := hRs.1 941; omega)) (fun qqr9 eqr9s hqr9s => ?_)
    obtain ⟨qr9r, qr9s⟩ := qqr9
    dsimp only at eqr9s hqr9s ⊢
    have Fqr9s := fr_x3_value_v2 eqr9s
    obtain ⟨hRqr9s, hqr9s_0⟩ := hqr9s
    have hqr9s_0 : (-1000000) ≤ qr9r ∧ qr9r ≤ 1000001 := hqr9s_0
    exact wp_some ⟨hRqr9s, by show (-1000000) ≤ qr9r ∧ qr9r ≤ 1000001; have : gI s18 1060 = gI s16 1060 := q_Ii es18 (by decide); have : gI s16 1060 = gI s13 1060 := q_Ii es16 (by decide); have : gI s13 1060 = gI s10 1060 := q_Ii es13 (by decide); have : gI s10 1060 = gI s 1060 := q_Ii es10 (by decide); have : (0 : Int) ≤ gI s 1060 ∧ gI s 1060 ≤ 48 := hRs.1 1060; omega⟩
  · skip
    unfold m_x1_valueFor_J74
    refine wp_stn (fun s4 es4 => ?_)
    have hRs4 : Rg s4 := es4 ▸ Rg.uI hRs18 (by show (-1000000 : Int) ≤ (1 : Int) ∧ (1 : Int) ≤ 1000000; have : gI s18 1060 = gI s16 1060 := q_Ii es18 (by decide); have : gI s16 1060 = gI s13 1060 := q_Ii es16 (by decide); have : gI s13 1060 = gI s10 1060 := q_Ii es13 (by decide); have : gI s10 1060 = gI s 1060 := q_Ii es10 (by decide); have : (0 : Int) ≤ gI s 1060 ∧ gI s 1060 ≤ 48 := hRs.1 1060; omega)
    refine wp_rdIn (by have : gI s18 1060 = gI s16 1060 := q_Ii es18 (by decide); have : gI s16 1060 = gI s13 1060 := q_Ii es16 (by decide); have : gI s13 1060 = gI s10 1060 := q_Ii es13 (by decide); have : gI s10 1060 = gI s 1060 := q_Ii es10 (by decide); have : (0 : Int) ≤ gI s 1060 ∧ gI s 1060 ≤ 48 := hRs.1 1060; omega) (fun y5 ey5 => ?_)
    have by5 : (-1 : Int) ≤ y5 ∧ y5 ≤ 100000 := ey5 ▸ hRs4.2.1 55 _ (by show _ < 48; have : gI s18 1060 = gI s16 1060 := q_Ii es18 (by decide); have : gI s16 1060 = gI s13 1060 := q_Ii es16 (by decide); have : gI s13 1060 = gI s10 1060 := q_Ii es13 (by decide); have : gI s10 1060 = gI s 1060 := q_Ii es10 (by decide); have : (0 : Int) ≤ gI s 1060 ∧ gI s 1060 ≤ 48 := hRs.1 1060; omega)
    refine wp_stn (fun s6 es6 => ?_)
    have hRs6 : Rg s6 := es6 ▸ Rg.uI hRs4 (by show (-1000000 : Int) ≤ y5 ∧ y5 ≤ 1000000; have : gI s18 1060 = gI s16 1060 := q_Ii es18 (by decide); have : gI s16 1060 = gI s13 1060 := q_Ii es16 (by decide); have : gI s13 1060 = gI s10 1060 := q_Ii es13 (by decide); have : gI s10 1060 = gI s 1060 := q_Ii es10 (by decide); have : (0 : Int) ≤ gI s 1060 ∧ gI s 1060 ≤ 48 := hRs.1 1060; omega)
    refine wp_bn (w_x3_value_v2 hRs6 (by show R2 (0 : Int); have : gI s18 1060 = gI s16 1060 := q_Ii es18 (by decide); have : gI s16 1060 = gI s13 1060 := q_Ii es16 (by decide); have : gI s13 1060 = gI s10 1060 := q_Ii es13 (by decide); have : gI s10 1060 = gI s 1060 := q_Ii es10 (by decide); have : (0 : Int) ≤ gI s 1060 ∧ gI s 1060 ≤ 48 := hRs.1 1060; omega) (by show R2 (gI s6 941); have : gI s18 1060 = gI s16 1060 := q_Ii es18 (by decide); have : gI s16 1060 = gI s13 1060 := q_Ii es16 (by decide); have : gI s13 1060 = gI s10 1060 := q_Ii es13 (by decide); have : gI s10 1060 = gI s 1060 := q_Ii es10 (by decide); have : (0 : Int) ≤ gI s 1060 ∧ gI s 1060 ≤ 48 := hRs.1 1060; have : gI s6 941 = gI s4 941 := q_Ii es6 (by decide); have : gI s4 941 = gI s18 941 := q_Ii es4 (by decide); have : gI s18 941 = gI s16 941 := q_Ii es18 (by decide); have : gI s16 941 = gI s13 941 := q_Ii es16 (by decide); have : gI s13 941 = gI s10 941 := q_Ii es13 (by decide); have : gI s10 941 = gI s 941 := q_Ii es10 (by decide); have : (0 : Int) ≤ gI s 941 ∧ gI s 941 ≤ 1600 := hRs.1 941; omega)) (fun qqr9 eqr9s hqr9s => ?_)
    obtain ⟨qr9r, qr9s⟩ := qqr9
    dsimp only at eqr9s hqr9s ⊢
    have Fqr9s := fr_x3_value_v2 eqr9s
    obtain ⟨hRqr9s, hqr9s_0⟩ := hqr9s
    have hqr9s_0 : (-1000000) ≤ qr9r ∧ qr9r ≤ 1000001 := hqr9s_0
    exact wp_some ⟨hRqr9s, by show (-1000000) ≤ qr9r ∧ qr9r ≤ 1000001; have : gI s18 1060 = gI s16 1060 := q_Ii es18 (by decide); have : gI s16 1060 = gI s13 1060 := q_Ii es16 (by decide); have : gI s13 1060 = gI s10 1060 := q_Ii es13 (by decide); have : gI s10 1060 = gI s 1060 := q_Ii es10 (by decide); have : (0 : Int) ≤ gI s 1060 ∧ gI s 1060 ≤ 48 := hRs.1 1060; omega⟩
set_option maxHeartbeats 1000000 in
theorem w_x11_answerTest {p0 : Int} {s : MS} (hRs : Rg s) (hp0 : R2 p0) : wp (m_x11_answerTest p0 s) (fun q => (Rg q.2)) := by
  unfold m_x11_answerTest
  have L7 : ∀ (n : Nat) (x3 : Int) (x4 : Int) (x5 : Int) (x6 : Int) (s7 : MS), Rg s7 → (x3 = p0) → (0 ≤ x6 ∧ x6 ≤ 48) → (0 ≤ x4 ∧ x4 ≤ x6) → ((-1) ≤ x5 ∧ x5 ≤ 48) → (48 - x6) < (n : Int) → wp (m_x11_answerTest_L7 n x3 x4 x5 x6 s7) (fun q => (Rg q.2)) := by
    refine fr_ind (fun x3 x4 x5 x6 s7 hRs7 hv7_0 hv7_1 hv7_2 hv7_3 hm7 => ?_) (fun n7 ih7 x3 x4 x5 x6 s7 hRs7 hv7_0 hv7_1 hv7_2 hv7_3 hm7 => ?_)
    · exfalso; omega
    · show wp (m_x11_answerTest_b7 (m_x11_answerTest_L7 n7) x3 x4 x5 x6 s7) _
      unfold m_x11_answerTest_b7
      refine wp_rg (by omega) ?_
      refine wp_rg (by have : (0 : Int) ≤ gI s7 1060 ∧ gI s7 1060 ≤ 48 := hRs7.1 1060; omega) ?_
      refine wp_if (fun c1 => ?_) (fun c1 => ?_)
      · skip
        refine wp_rg (by have : (0 : Int) ≤ gI s7 1060 ∧ gI s7 1060 ≤ 48 := hRs7.1 1060; omega) ?_
        refine wp_if (fun c2 => ?_) (fun c2 => ?_)
        · skip
          refine wp_rg (by have : (0 : Int) ≤ gI s7 1060 ∧ gI s7 1060 ≤ 48 := hRs7.1 1060; omega) ?_
          unfold m_x11_answerTest_J76
          exact wp_some (hRs7)
        · skip
          refine wp_rg (by have : (0 : Int) ≤ gI s7 1060 ∧ gI s7 1060 ≤ 48 := hRs7.1 1060; omega) ?_
          unfold m_x11_answerTest_J76
          exact wp_some (hRs7)
      · skip
        refine wp_bn (w_x1_valueFor hRs7 (by show 0 ≤ x6 ∧ x6 < 48; have : (0 : Int) ≤ gI s7 1060 ∧ gI s7 1060 ≤ 48 := hRs7.1 1060; omega)) (fun qqr22 eqr22s hqr22s => ?_)
        obtain ⟨qr22r, qr22s⟩ := qqr22
        dsimp only at eqr22s hqr22s ⊢
        have Fqr22s := fr_x1_valueFor eqr22s
        obtain ⟨hRqr22s, hqr22s_0⟩ := hqr22s
        have hqr22s_0 : (-1000000) ≤ qr22r ∧ qr22r ≤ 1000001 := hqr22s_0
        refine wp_rg (by have : (0 : Int) ≤ gI s7 1060 ∧ gI s7 1060 ≤ 48 := hRs7.1 1060; omega) ?_
        refine wp_if (fun c3 => ?_) (fun c3 => ?_)
        · skip
          unfold m_x11_answerTest_J57
          exact ih7 x3 x4 x5 (x6 + 1) qr22s hRqr22s (by show x3 = p0; have : (0 : Int) ≤ gI s7 1060 ∧ gI s7 1060 ≤ 48 := hRs7.1 1060; omega) (by show 0 ≤ (x6 + 1) ∧ (x6 + 1) ≤ 48; have : (0 : Int) ≤ gI s7 1060 ∧ gI s7 1060 ≤ 48 := hRs7.1 1060; omega) (by show 0 ≤ x4 ∧ x4 ≤ (x6 + 1); have : (0 : Int) ≤ gI s7 1060 ∧ gI s7 1060 ≤ 48 := hRs7.1 1060; omega) (by show (-1) ≤ x5 ∧ x5 ≤ 48; have : (0 : Int) ≤ gI s7 1060 ∧ gI s7 1060 ≤ 48 := hRs7.1 1060; omega) (by have : (0 : Int) ≤ gI s7 1060 ∧ gI s7 1060 ≤ 48 := hRs7.1 1060; omega)
        · skip
          refine wp_rg (by have : (0 : Int) ≤ gI s7 1060 ∧ gI s7 1060 ≤ 48 := hRs7.1 1060; omega) ?_
          refine wp_if (fun c4 => ?_) (fun c4 => ?_)
          · skip
            refine wp_rg (by have : (0 : Int) ≤ gI s7 1060 ∧ gI s7 1060 ≤ 48 := hRs7.1 1060; omega) ?_
            exact wp_some (hRqr22s)
          · skip
            unfold m_x11_answerTest_J57
            exact ih7 x3 (x4 + 1) x6 (x6 + 1) qr22s hRqr22s (by show x3 = p0; have : (0 : Int) ≤ gI s7 1060 ∧ gI s7 1060 ≤ 48 := hRs7.1 1060; omega) (by show 0 ≤ (x6 + 1) ∧ (x6 + 1) ≤ 48; have : (0 : Int) ≤ gI s7 1060 ∧ gI s7 1060 ≤ 48 := hRs7.1 1060; omega) (by show 0 ≤ (x4 + 1) ∧ (x4 + 1) ≤ (x6 + 1); have : (0 : Int) ≤ gI s7 1060 ∧ gI s7 1060 ≤ 48 := hRs7.1 1060; omega) (by show (-1) ≤ x6 ∧ x6 ≤ 48; have : (0 : Int) ≤ gI s7 1060 ∧ gI s7 1060 ≤ 48 := hRs7.1 1060; omega) (by have : (0 : Int) ≤ gI s7 1060 ∧ gI s7 1060 ≤ 48 := hRs7.1 1060; omega)
  exact L7 FU p0 0 (-1) 0 s hRs (by show p0 = p0; omega) (by show 0 ≤ (0 : Int) ∧ (0 : Int) ≤ 48; omega) (by show 0 ≤ (0 : Int) ∧ (0 : Int) ≤ (0 : Int); omega) (by show (-1) ≤ (-1 : Int) ∧ (-1 : Int) ≤ 48; omega) (by have := FU_big; have := FU_big2; omega)
set_option maxHeartbeats 1000000 in
theorem w_x11_answerSum {p0 : Int} {s : MS} (hRs : Rg s) (hp0 : R2 p0) : wp (m_x11_answerSum p0 s) (fun q => (Rg q.2)) := by
  unfold m_x11_answerSum
  have L15 : ∀ (n : Nat) (x3 : Int) (z4 : Int) (x5 : Int) (x6 : Int) (x7 : Int) (s8 : MS), Rg s8 → (x3 = p0) → ((-1000000) ≤ x5 ∧ x5 ≤ 1000001) → ((-1000000) ≤ x6 ∧ x6 ≤ 1000001) → (0 ≤ x7 ∧ x7 ≤ 48) → (48 - x7) < (n : Int) → wp (m_x11_answerSum_L15 n x3 z4 x5 x6 x7 s8) (fun q => (Rg q.2)) := by
    refine fr_ind (fun x3 z4 x5 x6 x7 s8 hRs8 hv15_0 hv15_1 hv15_2 hv15_3 hm15 => ?_) (fun n15 ih15 x3 z4 x5 x6 x7 s8 hRs8 hv15_0 hv15_1 hv15_2 hv15_3 hm15 => ?_)
    · exfalso; omega
    · show wp (m_x11_answerSum_b15 (m_x11_answerSum_L15 n15) x3 z4 x5 x6 x7 s8) _
      unfold m_x11_answerSum_b15
      refine wp_rg (by omega) ?_
      refine wp_rg (by have : (0 : Int) ≤ gI s8 1060 ∧ gI s8 1060 ≤ 48 := hRs8.1 1060; omega) ?_
      refine wp_if (fun c1 => ?_) (fun c1 => ?_)
      · skip
        refine wp_rg (by have : (0 : Int) ≤ gI s8 1060 ∧ gI s8 1060 ≤ 48 := hRs8.1 1060; omega) ?_
        refine wp_if (fun c2 => ?_) (fun c2 => ?_)
        · skip
          exact wp_some (hRs8)
        · skip
          refine wp_rg (by have : (0 : Int) ≤ gI s8 1060 ∧ gI s8 1060 ≤ 48 := hRs8.1 1060; omega) ?_
          refine wp_if (fun c3 => ?_) (fun c3 => ?_)
          · skip
            refine wp_rg (by have : (0 : Int) ≤ gI s8 1060 ∧ gI s8 1060 ≤ 48 := hRs8.1 1060; omega) ?_
            unfold m_x11_answerSum_J101
            exact wp_some (hRs8)
          · skip
            refine wp_rg (by have : (0 : Int) ≤ gI s8 1060 ∧ gI s8 1060 ≤ 48 := hRs8.1 1060; omega) ?_
            unfold m_x11_answerSum_J101
            exact wp_some (hRs8)
      · skip
        refine wp_bn (w_x1_valueFor hRs8 (by show 0 ≤ x7 ∧ x7 < 48; have : (0 : Int) ≤ gI s8 1060 ∧ gI s8 1060 ≤ 48 := hRs8.1 1060; omega)) (fun qqr20 eqr20s hqr20s => ?_)
        obtain ⟨qr20r, qr20s⟩ := qqr20
        dsimp only at eqr20s hqr20s ⊢
        have Fqr20s := fr_x1_valueFor eqr20s
        obtain ⟨hRqr20s, hqr20s_0⟩ := hqr20s
        have hqr20s_0 : (-1000000) ≤ qr20r ∧ qr20r ≤ 1000001 := hqr20s_0
        refine wp_rg (by have : (0 : Int) ≤ gI s8 1060 ∧ gI s8 1060 ≤ 48 := hRs8.1 1060; omega) ?_
        refine wp_rg (by have : (0 : Int) ≤ gI s8 1060 ∧ gI s8 1060 ≤ 48 := hRs8.1 1060; omega) ?_
        refine wp_rg (by have : (0 : Int) ≤ gI s8 1060 ∧ gI s8 1060 ≤ 48 := hRs8.1 1060; omega) ?_
        refine wp_rg (by have : (0 : Int) ≤ gI s8 1060 ∧ gI s8 1060 ≤ 48 := hRs8.1 1060; omega) ?_
        refine wp_rg (by have : (0 : Int) ≤ gI s8 1060 ∧ gI s8 1060 ≤ 48 := hRs8.1 1060; omega) ?_
        exact ih15 x3 (z4 + qr20r) (maxZ x5 qr20r) (minZ x6 qr20r) (x7 + 1) qr20s hRqr20s (by show x3 = p0; have : (0 : Int) ≤ gI s8 1060 ∧ gI s8 1060 ≤ 48 := hRs8.1 1060; omega) (by show (-1000000) ≤ (maxZ x5 qr20r) ∧ (maxZ x5 qr20r) ≤ 1000001; have : (0 : Int) ≤ gI s8 1060 ∧ gI s8 1060 ≤ 48 := hRs8.1 1060; have mm := mx_b x5 qr20r; omega) (by show (-1000000) ≤ (minZ x6 qr20r) ∧ (minZ x6 qr20r) ≤ 1000001; have : (0 : Int) ≤ gI s8 1060 ∧ gI s8 1060 ≤ 48 := hRs8.1 1060; have mm := mn_b x6 qr20r; omega) (by show 0 ≤ (x7 + 1) ∧ (x7 + 1) ≤ 48; have : (0 : Int) ≤ gI s8 1060 ∧ gI s8 1060 ≤ 48 := hRs8.1 1060; omega) (by have : (0 : Int) ≤ gI s8 1060 ∧ gI s8 1060 ≤ 48 := hRs8.1 1060; omega)
  exact L15 FU p0 0 (-1000000) 1000000 0 s hRs (by show p0 = p0; omega) (by show (-1000000) ≤ (-1000000 : Int) ∧ (-1000000 : Int) ≤ 1000001; omega) (by show (-1000000) ≤ (1000000 : Int) ∧ (1000000 : Int) ≤ 1000001; omega) (by show 0 ≤ (0 : Int) ∧ (0 : Int) ≤ 48; omega) (by have := FU_big; have := FU_big2; omega)
set_option maxHeartbeats 1000000 in
theorem w_x11_ask {s : MS} (hRs : Rg s) : wp (m_x11_ask s) (fun q => (Rg q.2) ∧ (gI q.2 61 = 0)) := by
  unfold m_x11_ask
  refine wp_rg (by have : (0 : Int) ≤ gI s 12 ∧ gI s 12 ≤ 1 := hRs.1 12; omega) ?_
  refine wp_if (fun c1 => ?_) (fun c1 => ?_)
  · skip
    refine wp_stn (fun s21 es21 => ?_)
    have hRs21 : Rg s21 := es21 ▸ Rg.uI hRs (by show (0 : Int) ≤ (0 : Int) ∧ (0 : Int) ≤ 1600; have : (0 : Int) ≤ gI s 12 ∧ gI s 12 ≤ 1 := hRs.1 12; omega)
    exact wp_some ⟨hRs21, by show gI s21 61 = 0; have : (0 : Int) ≤ gI s 12 ∧ gI s 12 ≤ 1 := hRs.1 12; have : gI s21 61 = 0 := q_II es21; omega⟩
  · skip
    refine wp_bn (w_x6_readQuestion hRs) (fun qqr10 eqr10s hqr10s => ?_)
    obtain ⟨qr10r, qr10s⟩ := qqr10
    dsimp only at eqr10s hqr10s ⊢
    have Fqr10s := fr_x6_readQuestion eqr10s
    obtain ⟨hRqr10s, hqr10s_0, hqr10s_1⟩ := hqr10s
    have hqr10s_0 : (-1) ≤ qr10r ∧ qr10r ≤ 179 := hqr10s_0
    have hqr10s_1 : gI qr10s 9999 = 2 := hqr10s_1
    refine wp_stn (fun s11 es11 => ?_)
    have hRs11 : Rg s11 := es11 ▸ Rg.uI hRqr10s (by show (0 : Int) ≤ (0 : Int) ∧ (0 : Int) ≤ 1600; have : (0 : Int) ≤ gI qr10s 9999 ∧ gI qr10s 9999 ≤ 2 := hRqr10s.1 9999; have : (0 : Int) ≤ gI s 12 ∧ gI s 12 ≤ 1 := hRs.1 12; omega)
    refine wp_rg (by have : (0 : Int) ≤ gI qr10s 9999 ∧ gI qr10s 9999 ≤ 2 := hRqr10s.1 9999; have : (0 : Int) ≤ gI s 12 ∧ gI s 12 ≤ 1 := hRs.1 12; have : gI s11 100 = gI qr10s 100 := q_Ii es11 (by decide); have : (0 : Int) ≤ gI qr10s 100 ∧ gI qr10s 100 ≤ 5 := hRqr10s.1 100; omega) ?_
    refine wp_if (fun c2 => ?_) (fun c2 => ?_)
    · skip
      refine wp_rg (by have : gI s11 100 = gI qr10s 100 := q_Ii es11 (by decide); have : (0 : Int) ≤ gI qr10s 100 ∧ gI qr10s 100 ≤ 5 := hRqr10s.1 100; have : (0 : Int) ≤ gI qr10s 9999 ∧ gI qr10s 9999 ≤ 2 := hRqr10s.1 9999; have : (0 : Int) ≤ gI s 12 ∧ gI s 12 ≤ 1 := hRs.1 12; omega) ?_
      refine wp_if (fun c3 => ?_) (fun c3 => ?_)
      · skip
        unfold m_x11_ask_J84
        refine wp_bn (w_x11_answerTest hRs11 (by show R2 qr10r; have : gI s11 100 = gI qr10s 100 := q_Ii es11 (by decide); have : (0 : Int) ≤ gI qr10s 100 ∧ gI qr10s 100 ≤ 5 := hRqr10s.1 100; have : (0 : Int) ≤ gI qr10s 9999 ∧ gI qr10s 9999 ≤ 2 := hRqr10s.1 9999; have : (0 : Int) ≤ gI s 12 ∧ gI s 12 ≤ 1 := hRs.1 12; omega)) (fun qqrl5 eqrl5s hqrl5s => ?_)
        obtain ⟨qrl5r, qrl5s⟩ := qqrl5
        dsimp only at eqrl5s hqrl5s ⊢
        have Fqrl5s := fr_x11_answerTest eqrl5s
        have hRqrl5s := hqrl5s
        exact wp_some ⟨hRqrl5s, by show gI qrl5s 61 = 0; have : gI s11 100 = gI qr10s 100 := q_Ii es11 (by decide); have : (0 : Int) ≤ gI qr10s 100 ∧ gI qr10s 100 ≤ 5 := hRqr10s.1 100; have : (0 : Int) ≤ gI qr10s 9999 ∧ gI qr10s 9999 ≤ 2 := hRqr10s.1 9999; have : (0 : Int) ≤ gI s 12 ∧ gI s 12 ≤ 1 := hRs.1 12; have : gI qrl5s 61 = gI s11 61 := Fqrl5s.1 61 (by decide); have : gI s11 61 = 0 := q_II es11; omega⟩
      · skip
        refine wp_if (fun c4 => ?_) (fun c4 => ?_)
        · skip
          unfold m_x11_ask_J84
          refine wp_bn (w_x11_answerTest hRs11 (by show R2 qr10r; have : gI s11 100 = gI qr10s 100 := q_Ii es11 (by decide); have : (0 : Int) ≤ gI qr10s 100 ∧ gI qr10s 100 ≤ 5 := hRqr10s.1 100; have : (0 : Int) ≤ gI qr10s 9999 ∧ gI qr10s 9999 ≤ 2 := hRqr10s.1 9999; have : (0 : Int) ≤ gI s 12 ∧ gI s 12 ≤ 1 := hRs.1 12; omega)) (fun qqrl5 eqrl5s hqrl5s => ?_)
          obtain ⟨qrl5r, qrl5s⟩ := qqrl5
          dsimp only at eqrl5s hqrl5s ⊢
          have Fqrl5s := fr_x11_answerTest eqrl5s
          have hRqrl5s := hqrl5s
          exact wp_some ⟨hRqrl5s, by show gI qrl5s 61 = 0; have : gI s11 100 = gI qr10s 100 := q_Ii es11 (by decide); have : (0 : Int) ≤ gI qr10s 100 ∧ gI qr10s 100 ≤ 5 := hRqr10s.1 100; have : (0 : Int) ≤ gI qr10s 9999 ∧ gI qr10s 9999 ≤ 2 := hRqr10s.1 9999; have : (0 : Int) ≤ gI s 12 ∧ gI s 12 ≤ 1 := hRs.1 12; have : gI qrl5s 61 = gI s11 61 := Fqrl5s.1 61 (by decide); have : gI s11 61 = 0 := q_II es11; omega⟩
        · skip
          refine wp_if (fun c5 => ?_) (fun c5 => ?_)
          · skip
            unfold m_x11_ask_J84
            refine wp_bn (w_x11_answerTest hRs11 (by show R2 qr10r; have : gI s11 100 = gI qr10s 100 := q_Ii es11 (by decide); have : (0 : Int) ≤ gI qr10s 100 ∧ gI qr10s 100 ≤ 5 := hRqr10s.1 100; have : (0 : Int) ≤ gI qr10s 9999 ∧ gI qr10s 9999 ≤ 2 := hRqr10s.1 9999; have : (0 : Int) ≤ gI s 12 ∧ gI s 12 ≤ 1 := hRs.1 12; omega)) (fun qqrl5 eqrl5s hqrl5s => ?_)
            obtain ⟨qrl5r, qrl5s⟩ := qqrl5
            dsimp only at eqrl5s hqrl5s ⊢
            have Fqrl5s := fr_x11_answerTest eqrl5s
            have hRqrl5s := hqrl5s
            exact wp_some ⟨hRqrl5s, by show gI qrl5s 61 = 0; have : gI s11 100 = gI qr10s 100 := q_Ii es11 (by decide); have : (0 : Int) ≤ gI qr10s 100 ∧ gI qr10s 100 ≤ 5 := hRqr10s.1 100; have : (0 : Int) ≤ gI qr10s 9999 ∧ gI qr10s 9999 ≤ 2 := hRqr10s.1 9999; have : (0 : Int) ≤ gI s 12 ∧ gI s 12 ≤ 1 := hRs.1 12; have : gI qrl5s 61 = gI s11 61 := Fqrl5s.1 61 (by decide); have : gI s11 61 = 0 := q_II es11; omega⟩
          · skip
            refine wp_bn (w_x11_answerSum hRs11 (by show R2 qr10r; have : gI s11 100 = gI qr10s 100 := q_Ii es11 (by decide); have : (0 : Int) ≤ gI qr10s 100 ∧ gI qr10s 100 ≤ 5 := hRqr10s.1 100; have : (0 : Int) ≤ gI qr10s 9999 ∧ gI qr10s 9999 ≤ 2 := hRqr10s.1 9999; have : (0 : Int) ≤ gI s 12 ∧ gI s 12 ≤ 1 := hRs.1 12; omega)) (fun qqrl20 eqrl20s hqrl20s => ?_)
            obtain ⟨qrl20r, qrl20s⟩ := qqrl20
            dsimp only at eqrl20s hqrl20s ⊢
            have Fqrl20s := fr_x11_answerSum eqrl20s
            have hRqrl20s := hqrl20s
            exact wp_some ⟨hRqrl20s, by show gI qrl20s 61 = 0; have : gI s11 100 = gI qr10s 100 := q_Ii es11 (by decide); have : (0 : Int) ≤ gI qr10s 100 ∧ gI qr10s 100 ≤ 5 := hRqr10s.1 100; have : (0 : Int) ≤ gI qr10s 9999 ∧ gI qr10s 9999 ≤ 2 := hRqr10s.1 9999; have : (0 : Int) ≤ gI s 12 ∧ gI s 12 ≤ 1 := hRs.1 12; have : gI qrl20s 61 = gI s11 61 := Fqrl20s.1 61 (by decide); have : gI s11 61 = 0 := q_II es11; omega⟩
    · skip
      exact wp_some ⟨hRs11, by show gI s11 61 = 0; have : gI s11 100 = gI qr10s 100 := q_Ii es11 (by decide); have : (0 : Int) ≤ gI qr10s 100 ∧ gI qr10s 100 ≤ 5 := hRqr10s.1 100; have : (0 : Int) ≤ gI qr10s 9999 ∧ gI qr10s 9999 ≤ 2 := hRqr10s.1 9999; have : (0 : Int) ≤ gI s 12 ∧ gI s 12 ≤ 1 := hRs.1 12; have : gI s11 61 = 0 := q_II es11; omega⟩
set_option maxHeartbeats 1000000 in
theorem w_x4_seal {p1 : Int} {s : MS} (hRs : Rg s) (hp0 : R2 p1) : wp (m_x4_seal p1 s) (fun r => (0 ≤ r ∧ r ≤ 250)) := by
  unfold m_x4_seal
  have L6 : ∀ (n : Nat) (x2 : Int) (x3 : Int) (x4 : Int), (x2 = p1) → (0 ≤ x3 ∧ x3 ≤ 250) → (0 ≤ x4 ∧ x4 ≤ 1600) → (1600 - x4) < (n : Int) → wp (m_x4_seal_L6 s n x2 x3 x4) (fun r => (0 ≤ r ∧ r ≤ 250)) := by
    refine fr_ind (fun x2 x3 x4 hv6_0 hv6_1 hv6_2 hm6 => ?_) (fun n6 ih6 x2 x3 x4 hv6_0 hv6_1 hv6_2 hm6 => ?_)
    · exfalso; omega
    · show wp (m_x4_seal_b6 s (m_x4_seal_L6 s n6) x2 x3 x4) _
      unfold m_x4_seal_b6
      refine wp_rg (by omega) ?_
      refine wp_rg (by omega) ?_
      refine wp_if (fun c1 => ?_) (fun c1 => ?_)
      · skip
        unfold m_x4_seal_J35
        exact wp_some (by show 0 ≤ x3 ∧ x3 ≤ 250; omega)
      · skip
        refine wp_rg (by omega) ?_
        refine wp_if (fun c2 => ?_) (fun c2 => ?_)
        · skip
          unfold m_x4_seal_J35
          exact wp_some (by show 0 ≤ x3 ∧ x3 ≤ 250; omega)
        · skip
          refine wp_rdIn (by omega) (fun y10 ey10 => ?_)
          have by10 : (0 : Int) ≤ y10 ∧ y10 ≤ 255 := ey10 ▸ hRs.2.1 17 _ (by show _ < 1364; omega)
          refine wp_dv (by omega) ?_
          exact ih6 x2 (Int.tmod ((3 * x3) + y10) 251) (x4 + 1) (by show x2 = p1; omega) (by show 0 ≤ (Int.tmod ((3 * x3) + y10) 251) ∧ (Int.tmod ((3 * x3) + y10) 251) ≤ 250; have t := tm251 (3 * x3 + y10) (by omega); omega) (by show 0 ≤ (x4 + 1) ∧ (x4 + 1) ≤ 1600; omega) (by omega)
  exact L6 FU p1 157 0 (by show p1 = p1; omega) (by show 0 ≤ (157 : Int) ∧ (157 : Int) ≤ 250; omega) (by show 0 ≤ (0 : Int) ∧ (0 : Int) ≤ 1600; omega) (by have := FU_big; have := FU_big2; omega)
set_option maxHeartbeats 1000000 in
theorem w_x4_seal_v2 {p1 : Int} {s : MS} (hRs : Rg s) (hp0 : R2 p1) : wp (m_x4_seal_v2 p1 s) (fun r => (0 ≤ r ∧ r ≤ 250)) := by
  unfold m_x4_seal_v2
  have L6 : ∀ (n : Nat) (x2 : Int) (x3 : Int) (x4 : Int), (x2 = p1) → (0 ≤ x3 ∧ x3 ≤ 250) → (0 ≤ x4 ∧ x4 ≤ 1600) → (1600 - x4) < (n : Int) → wp (m_x4_seal_v2_L6 s n x2 x3 x4) (fun r => (0 ≤ r ∧ r ≤ 250)) := by
    refine fr_ind (fun x2 x3 x4 hv6_0 hv6_1 hv6_2 hm6 => ?_) (fun n6 ih6 x2 x3 x4 hv6_0 hv6_1 hv6_2 hm6 => ?_)
    · exfalso; omega
    · show wp (m_x4_seal_v2_b6 s (m_x4_seal_v2_L6 s n6) x2 x3 x4) _
      unfold m_x4_seal_v2_b6
      refine wp_rg (by omega) ?_
      refine wp_rg (by omega) ?_
      refine wp_if (fun c1 => ?_) (fun c1 => ?_)
      · skip
        unfold m_x4_seal_v2_J35
        exact wp_some (by show 0 ≤ x3 ∧ x3 ≤ 250; omega)
      · skip
        refine wp_rg (by omega) ?_
        refine wp_if (fun c2 => ?_) (fun c2 => ?_)
        · skip
          unfold m_x4_seal_v2_J35
          exact wp_some (by show 0 ≤ x3 ∧ x3 ≤ 250; omega)
        · skip
          refine wp_rdIn (by omega) (fun y10 ey10 => ?_)
          have by10 : (0 : Int) ≤ y10 ∧ y10 ≤ 255 := ey10 ▸ hRs.2.1 4 _ (by show _ < 1600; omega)
          refine wp_dv (by omega) ?_
          exact ih6 x2 (Int.tmod ((3 * x3) + y10) 251) (x4 + 1) (by show x2 = p1; omega) (by show 0 ≤ (Int.tmod ((3 * x3) + y10) 251) ∧ (Int.tmod ((3 * x3) + y10) 251) ≤ 250; have t := tm251 (3 * x3 + y10) (by omega); omega) (by show 0 ≤ (x4 + 1) ∧ (x4 + 1) ≤ 1600; omega) (by omega)
  exact L6 FU p1 157 0 (by show p1 = p1; omega) (by show 0 ≤ (157 : Int) ∧ (157 : Int) ≤ 250; omega) (by show 0 ≤ (0 : Int) ∧ (0 : Int) ≤ 1600; omega) (by have := FU_big; have := FU_big2; omega)
set_option maxHeartbeats 1000000 in
theorem w_x4_add {p0 : Int} {s : MS} (hRs : Rg s) : wp (m_x4_add p0 s) (fun o => (Rg o)) := by
  unfold m_x4_add
  refine wp_rg (by have : (0 : Int) ≤ gI s 321 ∧ gI s 321 ≤ 1364 := hRs.1 321; omega) ?_
  refine wp_if (fun c1 => ?_) (fun c1 => ?_)
  · skip
    unfold m_x4_add_J36
    exact wp_some (hRs)
  · skip
    refine wp_inb (by have : (0 : Int) ≤ gI s 321 ∧ gI s 321 ≤ 1364 := hRs.1 321; omega) ?_
    refine wp_stn (fun s5 es5 => ?_)
    have hRs5 : Rg s5 := es5 ▸ Rg.uAu hRs (and_b _)
    refine wp_stn (fun s6 es6 => ?_)
    have hRs6 : Rg s6 := es6 ▸ Rg.uI hRs5 (by show (0 : Int) ≤ ((gI s5 321) + 1) ∧ ((gI s5 321) + 1) ≤ 1364; have : (0 : Int) ≤ gI s 321 ∧ gI s 321 ≤ 1364 := hRs.1 321; have : gI s5 321 = gI s 321 := q_Ai es5; omega)
    unfold m_x4_add_J36
    exact wp_some (hRs6)
set_option maxHeartbeats 1000000 in
theorem w_x4_addPair {p0 : Int} {s : MS} (hRs : Rg s) : wp (m_x4_addPair p0 s) (fun o => (Rg o)) := by
  unfold m_x4_addPair
  refine wp_bn (w_x4_add hRs) (fun s2 es2 hs2 => ?_)
  have Fs2 := fr_x4_add es2
  have hRs2 := hs2
  refine wp_bn (w_x4_add hRs2) (fun s4 es4 hs4 => ?_)
  have Fs4 := fr_x4_add es4
  have hRs4 := hs4
  exact wp_some (hRs4)
set_option maxHeartbeats 1000000 in
theorem w_x4_drawBlock {p1 : Int} {s : MS} (hRs : Rg s) (hp0 : US (hN s) (kN s)) (hp1 : 0 ≤ p1 ∧ p1 < 48) : wp (m_x4_drawBlock p1 s) (fun o => (Rg o)) := by
  unfold m_x4_drawBlock
  refine wp_rdIn (by omega) (fun y18 ey18 => ?_)
  have by18 : (-1 : Int) ≤ y18 ∧ y18 ≤ 1000 := ey18 ▸ hRs.2.1 56 _ (by show _ < 48; omega)
  refine wp_bn (w_x4_add hRs) (fun s20 es20 hs20 => ?_)
  have Fs20 := fr_x4_add es20
  have hRs20 := hs20
  refine wp_rdIn (by omega) (fun y21 ey21 => ?_)
  have by21 : (-1 : Int) ≤ y21 ∧ y21 ≤ 255 := ey21 ▸ hRs20.2.1 57 _ (by show _ < 48; omega)
  refine wp_bn (w_x4_add hRs20) (fun s23 es23 hs23 => ?_)
  have Fs23 := fr_x4_add es23
  have hRs23 := hs23
  have L22 : ∀ (n : Nat) (x1 : Int) (x2 : Int) (s3 : MS), Rg s3 → (x1 = p1) → (0 ≤ x2 ∧ x2 ≤ 6) → (gA s3 56 = gA s 56 ∧ gA s3 57 = gA s 57 ∧ gA s3 58 = gA s 58 ∧ gA s3 59 = gA s 59) → (6 - x2) < (n : Int) → wp (m_x4_drawBlock_L22 n x1 x2 s3) (fun o => (Rg o)) := by
    refine fr_ind (fun x1 x2 s3 hRs3 hv22_0 hv22_1 hv22_2 hm22 => ?_) (fun n22 ih22 x1 x2 s3 hRs3 hv22_0 hv22_1 hv22_2 hm22 => ?_)
    · exfalso; omega
    · show wp (m_x4_drawBlock_b22 (m_x4_drawBlock_L22 n22) x1 x2 s3) _
      unfold m_x4_drawBlock_b22
      have us := (hp0 x1.toNat (by omega)).1
      have us1 : 0 ≤ gA s 57 x1.toNat ∧ gA s 57 x1.toNat ≤ 6 := us
      rw [← hv22_2.2.1] at us1
      refine wp_rdIn (by omega) (fun y4 ey4 => ?_)
      have by4 : (-1 : Int) ≤ y4 ∧ y4 ≤ 255 := ey4 ▸ hRs3.2.1 57 _ (by show _ < 48; omega)
      refine wp_rg (by omega) ?_
      refine wp_rg (by omega) ?_
      refine wp_if (fun c1 => ?_) (fun c1 => ?_)
      · skip
        exact wp_some (hRs3)
      · skip
        refine wp_bn (w_x8_slot hRs3) (fun r9 er9 hr9 => ?_)
        have hr9_0 := hr9
        have hr9_0 : r9 = x1 * 6 + x2 := hr9_0
        refine wp_rdIn (by omega) (fun y10 ey10 => ?_)
        have by10 : (-257 : Int) ≤ y10 ∧ y10 ≤ 65535 := ey10 ▸ hRs3.2.1 58 _ (by show _ < 288; omega)
        refine wp_bn (w_x4_addPair hRs3) (fun s12 es12 hs12 => ?_)
        have Fs12 := fr_x4_addPair es12
        have hRs12 := hs12
        refine wp_bn (w_x8_slot hRs12) (fun r14 er14 hr14 => ?_)
        have hr14_0 := hr14
        have hr14_0 : r14 = x1 * 6 + x2 := hr14_0
        refine wp_rdIn (by omega) (fun y15 ey15 => ?_)
        have by15 : (-257 : Int) ≤ y15 ∧ y15 ≤ 65535 := ey15 ▸ hRs12.2.1 59 _ (by show _ < 288; omega)
        refine wp_bn (w_x4_addPair hRs12) (fun s17 es17 hs17 => ?_)
        have Fs17 := fr_x4_addPair es17
        have hRs17 := hs17
        exact ih22 x1 (x2 + 1) s17 hRs17 (by show x1 = p1; omega) (by show 0 ≤ (x2 + 1) ∧ (x2 + 1) ≤ 6; omega) (⟨(((Fs17.2.1 56 (by decide)).trans (Fs12.2.1 56 (by decide)))).trans hv22_2.1, (((Fs17.2.1 57 (by decide)).trans (Fs12.2.1 57 (by decide)))).trans hv22_2.2.1, (((Fs17.2.1 58 (by decide)).trans (Fs12.2.1 58 (by decide)))).trans hv22_2.2.2.1, (((Fs17.2.1 59 (by decide)).trans (Fs12.2.1 59 (by decide)))).trans hv22_2.2.2.2⟩) (by omega)
  exact L22 FU p1 0 s23 hRs23 (by show p1 = p1; omega) (by show 0 ≤ (0 : Int) ∧ (0 : Int) ≤ 6; omega) (⟨((Fs23.2.1 56 (by decide)).trans (Fs20.2.1 56 (by decide))), ((Fs23.2.1 57 (by decide)).trans (Fs20.2.1 57 (by decide))), ((Fs23.2.1 58 (by decide)).trans (Fs20.2.1 58 (by decide))), ((Fs23.2.1 59 (by decide)).trans (Fs20.2.1 59 (by decide)))⟩) (by have := FU_big; have := FU_big2; omega)
set_option maxHeartbeats 1000000 in
theorem w_x4_rootByte {p0 : Int} {s : MS} (hRs : Rg s) (hp0 : R2 p0) : wp (m_x4_rootByte p0 s) (fun r => True) := by
  unfold m_x4_rootByte
  refine wp_rg (by omega) ?_
  refine wp_if (fun c1 => ?_) (fun c1 => ?_)
  · skip
    exact wp_some (trivial)
  · skip
    refine wp_rg (by omega) ?_
    refine wp_if (fun c2 => ?_) (fun c2 => ?_)
    · skip
      unfold m_x4_rootByte_J22
      exact wp_some (trivial)
    · skip
      unfold m_x4_rootByte_J22
      exact wp_some (trivial)
set_option maxHeartbeats 1000000 in
theorem w_x4_draw {s : MS} (hRs : Rg s) (hp0 : US (hN s) (kN s)) : wp (m_x4_draw s) (fun q => (Rg q.2)) := by
  unfold m_x4_draw
  refine wp_stn (fun s38 es38 => ?_)
  have hRs38 : Rg s38 := es38 ▸ Rg.uI hRs (by show (0 : Int) ≤ (0 : Int) ∧ (0 : Int) ≤ 1364; omega)
  refine wp_bn (w_x4_add hRs38) (fun s40 es40 hs40 => ?_)
  have Fs40 := fr_x4_add es40
  have hRs40 := hs40
  refine wp_bn (w_x4_addPair hRs40) (fun s42 es42 hs42 => ?_)
  have Fs42 := fr_x4_addPair es42
  have hRs42 := hs42
  have L29 : ∀ (n : Nat) (x24 : Int) (s25 : MS), Rg s25 → (0 ≤ x24 ∧ x24 ≤ 8) → (gA s25 56 = gA s 56 ∧ gA s25 57 = gA s 57 ∧ gA s25 58 = gA s 58 ∧ gA s25 59 = gA s 59) → (8 - x24) < (n : Int) → wp (m_x4_draw_L29 n x24 s25) (fun q => (Rg q.2)) := by
    refine fr_ind (fun x24 s25 hRs25 hv29_0 hv29_1 hm29 => ?_) (fun n29 ih29 x24 s25 hRs25 hv29_0 hv29_1 hm29 => ?_)
    · exfalso; omega
    · show wp (m_x4_draw_b29 (m_x4_draw_L29 n29) x24 s25) _
      unfold m_x4_draw_b29
      refine wp_rg (by omega) ?_
      refine wp_if (fun c1 => ?_) (fun c1 => ?_)
      · skip
        have L69 : ∀ (n : Nat) (x1 : Int) (s2 : MS), Rg s2 → (0 ≤ x1 ∧ x1 ≤ 48) → (gA s2 56 = gA s 56 ∧ gA s2 57 = gA s 57 ∧ gA s2 58 = gA s 58 ∧ gA s2 59 = gA s 59) → (48 - x1) < (n : Int) → wp (m_x4_draw_L69 n x1 s2) (fun q => (Rg q.2)) := by
          refine fr_ind (fun x1 s2 hRs2 hv69_0 hv69_1 hm69 => ?_) (fun n69 ih69 x1 s2 hRs2 hv69_0 hv69_1 hm69 => ?_)
          · exfalso; omega
          · show wp (m_x4_draw_b69 (m_x4_draw_L69 n69) x1 s2) _
            unfold m_x4_draw_b69
            refine wp_rg (by omega) ?_
            refine wp_rg (by have : (0 : Int) ≤ gI s2 1060 ∧ gI s2 1060 ≤ 48 := hRs2.1 1060; omega) ?_
            refine wp_if (fun c2 => ?_) (fun c2 => ?_)
            · skip
              refine wp_bn (w_x4_seal hRs2 (by show R2 (gI s2 321); have : (0 : Int) ≤ gI s2 1060 ∧ gI s2 1060 ≤ 48 := hRs2.1 1060; have : (0 : Int) ≤ gI s2 321 ∧ gI s2 321 ≤ 1364 := hRs2.1 321; omega)) (fun r9 er9 hr9 => ?_)
              have hr9_0 := hr9
              have hr9_0 : 0 ≤ r9 ∧ r9 ≤ 250 := hr9_0
              refine wp_bn (w_x4_add hRs2) (fun s11 es11 hs11 => ?_)
              have Fs11 := fr_x4_add es11
              have hRs11 := hs11
              exact wp_some (hRs11)
            · skip
              refine wp_rdIn (by have : (0 : Int) ≤ gI s2 1060 ∧ gI s2 1060 ≤ 48 := hRs2.1 1060; omega) (fun y12 ey12 => ?_)
              have by12 : (-1 : Int) ≤ y12 ∧ y12 ≤ 100000 := ey12 ▸ hRs2.2.1 54 _ (by show _ < 48; have : (0 : Int) ≤ gI s2 1060 ∧ gI s2 1060 ≤ 48 := hRs2.1 1060; omega)
              refine wp_bn (w_x4_add hRs2) (fun s14 es14 hs14 => ?_)
              have Fs14 := fr_x4_add es14
              have hRs14 := hs14
              refine wp_rdIn (by have : (0 : Int) ≤ gI s2 1060 ∧ gI s2 1060 ≤ 48 := hRs2.1 1060; omega) (fun y15 ey15 => ?_)
              have by15 : (-1 : Int) ≤ y15 ∧ y15 ≤ 100000 := ey15 ▸ hRs14.2.1 55 _ (by show _ < 48; have : (0 : Int) ≤ gI s2 1060 ∧ gI s2 1060 ≤ 48 := hRs2.1 1060; omega)
              refine wp_bn (w_x4_add hRs14) (fun s17 es17 hs17 => ?_)
              have Fs17 := fr_x4_add es17
              have hRs17 := hs17
              refine wp_bn (w_x8_isFree hRs17 (by show R2 x1; have : (0 : Int) ≤ gI s2 1060 ∧ gI s2 1060 ≤ 48 := hRs2.1 1060; omega)) (fun r19 er19 hr19 => ?_)
              have hr19_0 := hr19
              have hr19_0 : (r19 = 1 ∧ 0 ≤ x1 ∧ x1 < gI s17 1060 ∧ gA s17 54 x1.toNat = 0 ∧ gA s17 55 x1.toNat = 0) ∨ (r19 = 0 ∧ (x1 < 0 ∨ gI s17 1060 ≤ x1 ∨ ¬ (gA s17 54 x1.toNat = 0 ∧ gA s17 55 x1.toNat = 0))) := hr19_0
              refine wp_rg (by have : gI s17 1060 = gI s14 1060 := Fs17.1 1060 (by decide); have : gI s14 1060 = gI s2 1060 := Fs14.1 1060 (by decide); have : (0 : Int) ≤ gI s2 1060 ∧ gI s2 1060 ≤ 48 := hRs2.1 1060; omega) ?_
              refine wp_if (fun c3 => ?_) (fun c3 => ?_)
              · skip
                refine wp_bn (w_x4_drawBlock hRs17 (by rw [hN_eq ((((Fs17.2.1 56 (by decide)).trans (Fs14.2.1 56 (by decide)))).trans hv69_1.1) ((((Fs17.2.1 57 (by decide)).trans (Fs14.2.1 57 (by decide)))).trans hv69_1.2.1) ((((Fs17.2.1 59 (by decide)).trans (Fs14.2.1 59 (by decide)))).trans hv69_1.2.2.2), kN_eq ((((Fs17.2.1 58 (by decide)).trans (Fs14.2.1 58 (by decide)))).trans hv69_1.2.2.1)]; exact hp0) (by show 0 ≤ x1 ∧ x1 < 48; have : gI s17 1060 = gI s14 1060 := Fs17.1 1060 (by decide); have : gI s14 1060 = gI s2 1060 := Fs14.1 1060 (by decide); have : (0 : Int) ≤ gI s2 1060 ∧ gI s2 1060 ≤ 48 := hRs2.1 1060; omega)) (fun s23 es23 hs23 => ?_)
                have Fs23 := fr_x4_drawBlock es23
                have hRs23 := hs23
                unfold m_x4_draw_J111
                exact ih69 (x1 + 1) s23 hRs23 (by show 0 ≤ (x1 + 1) ∧ (x1 + 1) ≤ 48; have : gI s17 1060 = gI s14 1060 := Fs17.1 1060 (by decide); have : gI s14 1060 = gI s2 1060 := Fs14.1 1060 (by decide); have : (0 : Int) ≤ gI s2 1060 ∧ gI s2 1060 ≤ 48 := hRs2.1 1060; omega) (⟨(((Fs23.2.1 56 (by decide)).trans ((Fs17.2.1 56 (by decide)).trans (Fs14.2.1 56 (by decide))))).trans hv69_1.1, (((Fs23.2.1 57 (by decide)).trans ((Fs17.2.1 57 (by decide)).trans (Fs14.2.1 57 (by decide))))).trans hv69_1.2.1, (((Fs23.2.1 58 (by decide)).trans ((Fs17.2.1 58 (by decide)).trans (Fs14.2.1 58 (by decide))))).trans hv69_1.2.2.1, (((Fs23.2.1 59 (by decide)).trans ((Fs17.2.1 59 (by decide)).trans (Fs14.2.1 59 (by decide))))).trans hv69_1.2.2.2⟩) (by have : gI s17 1060 = gI s14 1060 := Fs17.1 1060 (by decide); have : gI s14 1060 = gI s2 1060 := Fs14.1 1060 (by decide); have : (0 : Int) ≤ gI s2 1060 ∧ gI s2 1060 ≤ 48 := hRs2.1 1060; omega)
              · skip
                unfold m_x4_draw_J111
                exact ih69 (x1 + 1) s17 hRs17 (by show 0 ≤ (x1 + 1) ∧ (x1 + 1) ≤ 48; have : gI s17 1060 = gI s14 1060 := Fs17.1 1060 (by decide); have : gI s14 1060 = gI s2 1060 := Fs14.1 1060 (by decide); have : (0 : Int) ≤ gI s2 1060 ∧ gI s2 1060 ≤ 48 := hRs2.1 1060; omega) (⟨(((Fs17.2.1 56 (by decide)).trans (Fs14.2.1 56 (by decide)))).trans hv69_1.1, (((Fs17.2.1 57 (by decide)).trans (Fs14.2.1 57 (by decide)))).trans hv69_1.2.1, (((Fs17.2.1 58 (by decide)).trans (Fs14.2.1 58 (by decide)))).trans hv69_1.2.2.1, (((Fs17.2.1 59 (by decide)).trans (Fs14.2.1 59 (by decide)))).trans hv69_1.2.2.2⟩) (by have : gI s17 1060 = gI s14 1060 := Fs17.1 1060 (by decide); have : gI s14 1060 = gI s2 1060 := Fs14.1 1060 (by decide); have : (0 : Int) ≤ gI s2 1060 ∧ gI s2 1060 ≤ 48 := hRs2.1 1060; omega)
        exact L69 FU 0 s25 hRs25 (by show 0 ≤ (0 : Int) ∧ (0 : Int) ≤ 48; omega) (hv29_1) (by have := FU_big; have := FU_big2; omega)
      · skip
        refine wp_rdIn (by omega) (fun y28 ey28 => ?_)
        have by28 : (-2 : Int) ≤ y28 ∧ y28 ≤ 253 := ey28 ▸ hRs25.2.1 60 _ (by show _ < 8; omega)
        refine wp_bn (w_x4_rootByte hRs25 (by show R2 y28; omega)) (fun r30 er30 hr30 => ?_)
        refine wp_bn (w_x4_add hRs25) (fun s32 es32 hs32 => ?_)
        have Fs32 := fr_x4_add es32
        have hRs32 := hs32
        refine wp_rdIn (by omega) (fun y33 ey33 => ?_)
        have by33 : (-2 : Int) ≤ y33 ∧ y33 ≤ 253 := ey33 ▸ hRs32.2.1 61 _ (by show _ < 8; omega)
        refine wp_bn (w_x4_rootByte hRs32 (by show R2 y33; omega)) (fun r35 er35 hr35 => ?_)
        refine wp_bn (w_x4_add hRs32) (fun s37 es37 hs37 => ?_)
        have Fs37 := fr_x4_add es37
        have hRs37 := hs37
        exact ih29 (x24 + 1) s37 hRs37 (by show 0 ≤ (x24 + 1) ∧ (x24 + 1) ≤ 8; omega) (⟨(((Fs37.2.1 56 (by decide)).trans (Fs32.2.1 56 (by decide)))).trans hv29_1.1, (((Fs37.2.1 57 (by decide)).trans (Fs32.2.1 57 (by decide)))).trans hv29_1.2.1, (((Fs37.2.1 58 (by decide)).trans (Fs32.2.1 58 (by decide)))).trans hv29_1.2.2.1, (((Fs37.2.1 59 (by decide)).trans (Fs32.2.1 59 (by decide)))).trans hv29_1.2.2.2⟩) (by omega)
  exact L29 FU 0 s42 hRs42 (by show 0 ≤ (0 : Int) ∧ (0 : Int) ≤ 8; omega) (⟨((Fs42.2.1 56 (by decide)).trans ((Fs40.2.1 56 (by decide)).trans (q_Ia es38 : gA s38 56 = gA s 56))), ((Fs42.2.1 57 (by decide)).trans ((Fs40.2.1 57 (by decide)).trans (q_Ia es38 : gA s38 57 = gA s 57))), ((Fs42.2.1 58 (by decide)).trans ((Fs40.2.1 58 (by decide)).trans (q_Ia es38 : gA s38 58 = gA s 58))), ((Fs42.2.1 59 (by decide)).trans ((Fs40.2.1 59 (by decide)).trans (q_Ia es38 : gA s38 59 = gA s 59)))⟩) (by have := FU_big; have := FU_big2; omega)
set_option maxHeartbeats 1000000 in
theorem w_x11_image {s : MS} (hRs : Rg s) (hp0 : US (hN s) (kN s)) : wp (m_x11_image s) (fun q => (Rg q.2)) := by
  unfold m_x11_image
  refine wp_bn (w_x4_draw hRs (hp0)) (fun qqr3 eqr3s hqr3s => ?_)
  obtain ⟨qr3r, qr3s⟩ := qqr3
  dsimp only at eqr3s hqr3s ⊢
  have Fqr3s := fr_x4_draw eqr3s
  have hRqr3s := hqr3s
  exact wp_some (hRqr3s)
set_option maxHeartbeats 1000000 in
theorem w_x1_settle {s : MS} (hRs : Rg s) : wp (m_x1_settle s) (fun q => (Rg q.2) ∧ (0 ≤ q.1 ∧ q.1 ≤ 48)) := by
  unfold m_x1_settle
  refine wp_bn (w_x1_price hRs) (fun qqr3 eqr3s hqr3s => ?_)
  obtain ⟨qr3r, qr3s⟩ := qqr3
  dsimp only at eqr3s hqr3s ⊢
  have Fqr3s := fr_x1_price eqr3s
  obtain ⟨hRqr3s, hqr3s_0⟩ := hqr3s
  have hqr3s_0 : 0 ≤ qr3r ∧ qr3r ≤ 4752 := hqr3s_0
  refine wp_rg (by have : (-70000 : Int) ≤ gI s 1061 ∧ gI s 1061 ≤ 999999 := hRs.1 1061; omega) ?_
  refine wp_stn (fun s5 es5 => ?_)
  have hRs5 : Rg s5 := es5 ▸ Rg.uI hRqr3s (by show (-70000 : Int) ≤ (minZ 999999 ((gI s 1061) + qr3r)) ∧ (minZ 999999 ((gI s 1061) + qr3r)) ≤ 999999; have : (-70000 : Int) ≤ gI s 1061 ∧ gI s 1061 ≤ 999999 := hRs.1 1061; have mm := mn_b 999999 (gI s 1061 + qr3r); omega)
  refine wp_bn (w_x1_wrote hRs5) (fun r7 er7 hr7 => ?_)
  have hr7_0 := hr7
  have hr7_0 : 0 ≤ r7 ∧ r7 ≤ 48 := hr7_0
  exact wp_some ⟨hRs5, by show 0 ≤ r7 ∧ r7 ≤ 48; omega⟩
set_option maxHeartbeats 1000000 in
theorem w_x2_keep {p0 : Int} {p1 : Int} {p2 : Int} {s : MS} (hRs : Rg s) (hp0 : R2 p0) (hp1 : R2 p1) (hp2 : R2 p2) : wp (m_x2_keep p0 p1 p2 s) (fun o => (Rg o) ∧ (gI o 143 ≤ 60)) := by
  unfold m_x2_keep
  refine wp_rg (by have : (0 : Int) ≤ gI s 143 ∧ gI s 143 ≤ 60 := hRs.1 143; omega) ?_
  refine wp_if (fun c1 => ?_) (fun c1 => ?_)
  · skip
    refine wp_stn (fun s14 es14 => ?_)
    have hRs14 : Rg s14 := es14 ▸ Rg.uI hRs (by show (0 : Int) ≤ ((gI s 143) - 1) ∧ ((gI s 143) - 1) ≤ 60; have : (0 : Int) ≤ gI s 143 ∧ gI s 143 ≤ 60 := hRs.1 143; omega)
    refine wp_cpg (by have : (0 : Int) ≤ gI s 143 ∧ gI s 143 ≤ 60 := hRs.1 143; have : gI s14 143 = (gI s 143) - 1 := q_II es14; omega) ?_
    refine wp_stn (fun s16 es16 => ?_)
    have hRs16 : Rg s16 := es16 ▸ Rg.cpy hRs14 (Int.le_refl _) (Int.le_refl _) (by show _ ≤ 60; have : gI s14 143 = gI s 143 - 1 := q_II es14; omega)
    refine wp_cpg (by have : (0 : Int) ≤ gI s 143 ∧ gI s 143 ≤ 60 := hRs.1 143; have : gI s16 143 = gI s14 143 := q_Ai es16; have : gI s14 143 = (gI s 143) - 1 := q_II es14; omega) ?_
    refine wp_stn (fun s18 es18 => ?_)
    have hRs18 : Rg s18 := es18 ▸ Rg.cpy hRs16 (Int.le_refl _) (Int.le_refl _) (by show _ ≤ 60; have : gI s14 143 = gI s 143 - 1 := q_II es14; have : gI s16 143 = gI s14 143 := (q_Ai es16 : gI s16 143 = gI s14 143); omega)
    refine wp_cpg (by have : (0 : Int) ≤ gI s 143 ∧ gI s 143 ≤ 60 := hRs.1 143; have : gI s18 143 = gI s16 143 := q_Ai es18; have : gI s16 143 = gI s14 143 := q_Ai es16; have : gI s14 143 = (gI s 143) - 1 := q_II es14; omega) ?_
    refine wp_stn (fun s20 es20 => ?_)
    have hRs20 : Rg s20 := es20 ▸ Rg.cpy hRs18 (Int.le_refl _) (Int.le_refl _) (by show _ ≤ 60; have : gI s14 143 = gI s 143 - 1 := q_II es14; have : gI s18 143 = gI s14 143 := ((q_Ai es18 : gI s18 143 = gI s16 143).trans (q_Ai es16 : gI s16 143 = gI s14 143)); omega)
    unfold m_x2_keep_J70
    refine wp_inb (by have : (0 : Int) ≤ gI s 143 ∧ gI s 143 ≤ 60 := hRs.1 143; have : gI s20 143 = gI s18 143 := q_Ai es20; have : gI s18 143 = gI s16 143 := q_Ai es18; have : gI s16 143 = gI s14 143 := q_Ai es16; have : gI s14 143 = (gI s 143) - 1 := q_II es14; omega) ?_
    refine wp_stn (fun s6 es6 => ?_)
    have hRs6 : Rg s6 := es6 ▸ Rg.uAu hRs20 (by show (-2147483648 : Int) ≤ p0 ∧ p0 ≤ 2147483647; have : (0 : Int) ≤ gI s 143 ∧ gI s 143 ≤ 60 := hRs.1 143; omega)
    refine wp_inb (by have : (0 : Int) ≤ gI s 143 ∧ gI s 143 ≤ 60 := hRs.1 143; have : gI s6 143 = gI s20 143 := q_Ai es6; have : gI s20 143 = gI s18 143 := q_Ai es20; have : gI s18 143 = gI s16 143 := q_Ai es18; have : gI s16 143 = gI s14 143 := q_Ai es16; have : gI s14 143 = (gI s 143) - 1 := q_II es14; omega) ?_
    refine wp_stn (fun s8 es8 => ?_)
    have hRs8 : Rg s8 := es8 ▸ Rg.uAu hRs6 (by show (-2147483648 : Int) ≤ p1 ∧ p1 ≤ 2147483647; have : (0 : Int) ≤ gI s 143 ∧ gI s 143 ≤ 60 := hRs.1 143; omega)
    refine wp_inb (by have : (0 : Int) ≤ gI s 143 ∧ gI s 143 ≤ 60 := hRs.1 143; have : gI s8 143 = gI s6 143 := q_Ai es8; have : gI s6 143 = gI s20 143 := q_Ai es6; have : gI s20 143 = gI s18 143 := q_Ai es20; have : gI s18 143 = gI s16 143 := q_Ai es18; have : gI s16 143 = gI s14 143 := q_Ai es16; have : gI s14 143 = (gI s 143) - 1 := q_II es14; omega) ?_
    refine wp_stn (fun s10 es10 => ?_)
    have hRs10 : Rg s10 := es10 ▸ Rg.uAu hRs8 (by show (-2147483648 : Int) ≤ p2 ∧ p2 ≤ 2147483647; have : (0 : Int) ≤ gI s 143 ∧ gI s 143 ≤ 60 := hRs.1 143; omega)
    refine wp_stn (fun s11 es11 => ?_)
    have hRs11 : Rg s11 := es11 ▸ Rg.uI hRs10 (by show (0 : Int) ≤ ((gI s10 143) + 1) ∧ ((gI s10 143) + 1) ≤ 60; have : (0 : Int) ≤ gI s 143 ∧ gI s 143 ≤ 60 := hRs.1 143; have : gI s10 143 = gI s8 143 := q_Ai es10; have : gI s8 143 = gI s6 143 := q_Ai es8; have : gI s6 143 = gI s20 143 := q_Ai es6; have : gI s20 143 = gI s18 143 := q_Ai es20; have : gI s18 143 = gI s16 143 := q_Ai es18; have : gI s16 143 = gI s14 143 := q_Ai es16; have : gI s14 143 = (gI s 143) - 1 := q_II es14; omega)
    exact wp_some ⟨hRs11, by show gI s11 143 ≤ 60; have : (0 : Int) ≤ gI s 143 ∧ gI s 143 ≤ 60 := hRs.1 143; have : gI s11 143 = (gI s10 143) + 1 := q_II es11; have : gI s10 143 = gI s8 143 := q_Ai es10; have : gI s8 143 = gI s6 143 := q_Ai es8; have : gI s6 143 = gI s20 143 := q_Ai es6; have : gI s20 143 = gI s18 143 := q_Ai es20; have : gI s18 143 = gI s16 143 := q_Ai es18; have : gI s16 143 = gI s14 143 := q_Ai es16; have : gI s14 143 = (gI s 143) - 1 := q_II es14; omega⟩
  · skip
    unfold m_x2_keep_J70
    refine wp_inb (by have : (0 : Int) ≤ gI s 143 ∧ gI s 143 ≤ 60 := hRs.1 143; omega) ?_
    refine wp_stn (fun s6 es6 => ?_)
    have hRs6 : Rg s6 := es6 ▸ Rg.uAu hRs (by show (-2147483648 : Int) ≤ p0 ∧ p0 ≤ 2147483647; have : (0 : Int) ≤ gI s 143 ∧ gI s 143 ≤ 60 := hRs.1 143; omega)
    refine wp_inb (by have : (0 : Int) ≤ gI s 143 ∧ gI s 143 ≤ 60 := hRs.1 143; have : gI s6 143 = gI s 143 := q_Ai es6; omega) ?_
    refine wp_stn (fun s8 es8 => ?_)
    have hRs8 : Rg s8 := es8 ▸ Rg.uAu hRs6 (by show (-2147483648 : Int) ≤ p1 ∧ p1 ≤ 2147483647; have : (0 : Int) ≤ gI s 143 ∧ gI s 143 ≤ 60 := hRs.1 143; omega)
    refine wp_inb (by have : (0 : Int) ≤ gI s 143 ∧ gI s 143 ≤ 60 := hRs.1 143; have : gI s8 143 = gI s6 143 := q_Ai es8; have : gI s6 143 = gI s 143 := q_Ai es6; omega) ?_
    refine wp_stn (fun s10 es10 => ?_)
    have hRs10 : Rg s10 := es10 ▸ Rg.uAu hRs8 (by show (-2147483648 : Int) ≤ p2 ∧ p2 ≤ 2147483647; have : (0 : Int) ≤ gI s 143 ∧ gI s 143 ≤ 60 := hRs.1 143; omega)
    refine wp_stn (fun s11 es11 => ?_)
    have hRs11 : Rg s11 := es11 ▸ Rg.uI hRs10 (by show (0 : Int) ≤ ((gI s10 143) + 1) ∧ ((gI s10 143) + 1) ≤ 60; have : (0 : Int) ≤ gI s 143 ∧ gI s 143 ≤ 60 := hRs.1 143; have : gI s10 143 = gI s8 143 := q_Ai es10; have : gI s8 143 = gI s6 143 := q_Ai es8; have : gI s6 143 = gI s 143 := q_Ai es6; omega)
    exact wp_some ⟨hRs11, by show gI s11 143 ≤ 60; have : (0 : Int) ≤ gI s 143 ∧ gI s 143 ≤ 60 := hRs.1 143; have : gI s11 143 = (gI s10 143) + 1 := q_II es11; have : gI s10 143 = gI s8 143 := q_Ai es10; have : gI s8 143 = gI s6 143 := q_Ai es8; have : gI s6 143 = gI s 143 := q_Ai es6; omega⟩
/-! ===== what can be undone ===== -/
def RB (t : MS) : Prop := (∀ k, 1240 ≤ k → k < 1260 → LO k ≤ gI t k ∧ gI t k ≤ HI k) ∧ (∀ k j, 62 ≤ k → k ≤ 70 → j < LNA k → LOA k ≤ gA t k j ∧ gA t k j ≤ HIA k) ∧ (∀ k, 1240 ≤ k → k < 1260 → R8 (gL t k))
theorem Rg_RB {s : MS} (h : Rg s) : RB s := ⟨fun k _ _ => h.1 k, fun k j _ _ hj => h.2.1 k j hj, fun k _ _ => h.2.2.1 k⟩
theorem gI_setB (s t : MS) (k : Nat) : gI (setB s t) k = if 1240 ≤ k ∧ k < 1260 then gI t k else gI s k := rfl
theorem gL_setB (s t : MS) (k : Nat) : gL (setB s t) k = if 1240 ≤ k ∧ k < 1260 then gL t k else gL s k := rfl
theorem gA_setB (s t : MS) (k : Nat) : gA (setB s t) k = if 62 ≤ k ∧ k ≤ 70 then gA t k else gA s k := rfl
theorem gB_setB (s t : MS) (k : Nat) : gB (setB s t) k = gB s k := rfl
theorem setB_I {s t : MS} {k : Nat} (h : ¬ (1240 ≤ k ∧ k < 1260)) : gI (setB s t) k = gI s k := by rw [gI_setB, if_neg h]
theorem setB_A {s t : MS} {k : Nat} (h : ¬ (62 ≤ k ∧ k ≤ 70)) : gA (setB s t) k = gA s k := by rw [gA_setB, if_neg h]
theorem Rg_setB {s t : MS} (h : Rg s) (ht : RB t) : Rg (setB s t) := by
  refine ⟨fun k => ?_, fun k j hj => ?_, fun k => ?_, fun k j => ?_⟩
  · rw [gI_setB]
    by_cases e : 1240 ≤ k ∧ k < 1260
    · rw [if_pos e]; exact ht.1 k e.1 e.2
    · rw [if_neg e]; exact h.1 k
  · rw [gA_setB]
    by_cases e : 62 ≤ k ∧ k ≤ 70
    · rw [if_pos e]; exact ht.2.1 k j e.1 e.2 hj
    · rw [if_neg e]; exact h.2.1 k j hj
  · rw [gL_setB]
    by_cases e : 1240 ≤ k ∧ k < 1260
    · rw [if_pos e]; exact ht.2.2 k e.1 e.2
    · rw [if_neg e]; exact h.2.2.1 k
  · rw [gB_setB]; exact h.2.2.2 k j
theorem LO_0 (k : Nat) : LO k ≤ 0 := by
  unfold LO
  repeat' split
  all_goals omega
theorem HI_0 (k : Nat) : 0 ≤ HI k := by
  unfold HI
  repeat' split
  all_goals omega
theorem LOA_0 (k : Nat) : LOA k ≤ 0 := by
  unfold LOA
  repeat' split
  all_goals omega
theorem HIA_0 (k : Nat) : 0 ≤ HIA k := by
  unfold HIA
  repeat' split
  all_goals omega
theorem RB_st0 : RB st0 := by
  refine ⟨fun k _ _ => ⟨LO_0 k, HI_0 k⟩, fun k j h1 h2 hj => ?_, fun k _ _ => by show R8 0; decide⟩
  by_cases e : k = 69 ∨ k = 70
  · have : gA st0 k j = -2 := by show (if k = 69 ∨ k = 70 then fun _ => (-2 : Int) else fun _ => 0) j = -2; rw [if_pos e]
    rw [this]
    rcases e with e | e <;> (subst e; show (-2 : Int) ≤ -2 ∧ (-2 : Int) ≤ 253; omega)
  · have : gA st0 k j = 0 := by show (if k = 69 ∨ k = 70 then fun _ => (-2 : Int) else fun _ => 0) j = 0; rw [if_neg e]
    rw [this]
    exact ⟨LOA_0 k, HIA_0 k⟩
/-- what lies ahead of an act is a state of trees -/
def TB (s : MS) (E : Int) : Prop := TG (gA s 65, gA s 66, fun p k => gA s 68 (6 * p + k)) (fun p k => gA s 67 (6 * p + k)) (gI s 1240) E (gA s 63) (gA s 64) (gA s 69) (gA s 70) Z0 (-1)
theorem TB_of {s o : MS} (H : TS s Z0 (-1)) (h : BC s o 54 63 1060 1240) : TB o (gI s 581) := by
  have T := TG_ext (h' := (gA o 65, gA o 66, fun p k => gA o 68 (6 * p + k))) (ky' := fun p k => gA o 67 (6 * p + k)) (c' := gA o 63) (sv' := gA o 64) (r' := gA o 69) (rs' := gA o 70) H (fun p hp => (h.1 p hp).2.2.1) (fun p hp => (h.1 p hp).2.2.2) (fun p hp k hk => ⟨(h.2.1 (6 * p + k) (by omega)).2, (h.2.1 (6 * p + k) (by omega)).1⟩) (fun p hp => (h.1 p hp).1) (fun p hp => (h.1 p hp).2.1) (fun v hv => (h.2.2.1 v hv).1) (fun v hv => (h.2.2.1 v hv).2)
  have e : gI o 1240 = gI s 1060 := h.2.2.2.1
  unfold TB
  rw [e]; exact T
theorem TB_back {s o : MS} {E : Int} (H : TB s E) (h : BC s o 63 54 1240 1060) (he : gI o 581 = E) : TS o Z0 (-1) := by
  have T := TG_ext (h' := hN o) (ky' := kN o) (c' := gA o 54) (sv' := gA o 55) (r' := gA o 60) (rs' := gA o 61) H (fun p hp => (h.1 p hp).2.2.1) (fun p hp => (h.1 p hp).2.2.2) (fun p hp k hk => ⟨(h.2.1 (6 * p + k) (by omega)).2, (h.2.1 (6 * p + k) (by omega)).1⟩) (fun p hp => (h.1 p hp).1) (fun p hp => (h.1 p hp).2.1) (fun v hv => (h.2.2.1 v hv).1) (fun v hv => (h.2.2.1 v hv).2)
  exact TS_mk T rfl rfl h.2.2.2.1 he rfl rfl rfl rfl
theorem TB_eq {s o : MS} {E : Int} (H : TB s E) (hA : ∀ k, 63 ≤ k → k ≤ 70 → gA o k = gA s k) (hI : gI o 1240 = gI s 1240) : TB o E := by
  unfold TB at H ⊢
  rw [hA 63 (by decide) (by decide), hA 64 (by decide) (by decide), hA 65 (by decide) (by decide), hA 66 (by decide) (by decide), hA 67 (by decide) (by decide), hA 68 (by decide) (by decide), hA 69 (by decide) (by decide), hA 70 (by decide) (by decide), hI]
  exact H
def Hs (d : Int) (ts : List MS) (E : Int) : Prop := (0 ≤ d ∧ d ≤ (ts.length : Int) ∧ ts.length ≤ 20) ∧ (∀ t ∈ ts, RB t) ∧ (∀ (i : Nat) (t : MS), ts[i]? = some t → (i : Int) < d → TB t E)
/-- the rows that a call of the history leaves -/
def NowK (s o : MS) : Prop := (∀ k, ¬ (62 ≤ k ∧ k ≤ 70) → gA o k = gA s k) ∧ (∀ k, ¬ (1240 ≤ k ∧ k < 1260) → k ≠ 145 → k ≠ 143 → gI o k = gI s k)
set_option maxHeartbeats 1000000 in
theorem w_remember {s : MS} {ts : List MS} {E : Int} (hR : Rg s) (hB : TB s E) (hH : Hs (gI s 145) ts E) : wp (m_remember s ts) (fun w => Rg w.1 ∧ NowK s w.1 ∧ Hs (gI w.1 145) w.2 E) := by
  obtain ⟨⟨d0, d1, d2⟩, hRB, hTB⟩ := hH
  unfold m_remember
  refine wp_rg (by omega) (wp_if (fun c1 => ?_) (fun c1 => ?_))
  · have hl : ts.length = 20 := by omega
    rw [if_pos hl]
    obtain ⟨t0, tl, rfl⟩ : ∃ t0 tl, ts = t0 :: tl := by
      cases ts with
      | nil => exact absurd hl (by decide)
      | cons a b => exact ⟨a, b, rfl⟩
    refine wp_some ⟨Rg_setB hR (hRB t0 (List.mem_cons_self ..)), ⟨fun k hk => setB_A hk, fun k hk _ _ => setB_I hk⟩, ?_⟩
    show Hs (gI (setB s t0) 145) (tl ++ [s]) E
    rw [show gI (setB s t0) 145 = gI s 145 from setB_I (by omega)]
    have hl2 : tl.length = 19 := by
      have : (t0 :: tl).length = tl.length + 1 := rfl
      omega
    refine ⟨⟨d0, ?_, ?_⟩, fun t ht => ?_, fun i t hi hid => ?_⟩
    · rw [List.length_append]; show gI s 145 ≤ ((tl.length + 1 : Nat) : Int); omega
    · rw [List.length_append]; show tl.length + 1 ≤ 20; omega
    · rcases List.mem_append.mp ht with h | h
      · exact hRB t (List.mem_cons_of_mem _ h)
      · rw [List.mem_singleton.mp h]; exact Rg_RB hR
    · by_cases e : i < tl.length
      · rw [List.getElem?_append_left e] at hi
        exact hTB (i + 1) t hi (by omega)
      · rw [List.getElem?_append_right (by omega)] at hi
        have : i - tl.length = 0 := by omega
        rw [this] at hi
        have : s = t := by simpa using hi
        rw [← this]; exact hB
  · refine wp_inb (by omega) (wp_stn (fun s1 e1 => ?_))
    have hR1 : Rg s1 := e1 ▸ Rg.uI hR (by show (0 : Int) ≤ gI s 145 + 1 ∧ gI s 145 + 1 ≤ 20; omega)
    have g145 : gI s1 145 = gI s 145 + 1 := q_II e1
    have kA : ∀ k, gA s1 k = gA s k := fun k => q_Ia e1
    have kI : ∀ k, k ≠ 145 → gI s1 k = gI s k := fun k h => q_Ii e1 h
    have hB1 : TB s1 E := TB_eq hB (fun k _ _ => kA k) (kI _ (by decide))
    have nk : ∀ t : MS, NowK s (setB s1 t) := fun t => ⟨fun k hk => (setB_A hk).trans (kA k), fun k hk h5 _ => (setB_I hk).trans (kI k h5)⟩
    have d145 : ∀ t : MS, gI (setB s1 t) 145 = gI s 145 + 1 := fun t => (setB_I (by omega)).trans g145
    refine wp_if (fun c2 => ?_) (fun c2 => wp_if (fun c3 => ?_) (fun c3 => by exfalso; omega))
    · have hm : ts.getD (gI s 145).toNat s ∈ ts := by
        rw [List.getD_eq_getElem?_getD, List.getElem?_eq_getElem c2]
        exact List.getElem_mem c2
      refine wp_some ⟨Rg_setB hR1 (hRB _ hm), nk _, ?_⟩
      show Hs (gI (setB s1 _) 145) (ts.set (gI s 145).toNat s1) E
      rw [d145]
      refine ⟨⟨by omega, ?_, ?_⟩, fun t ht => ?_, fun i t hi hid => ?_⟩
      · rw [List.length_set]; omega
      · rw [List.length_set]; omega
      · rcases List.mem_or_eq_of_mem_set ht with h | h
        · exact hRB t h
        · rw [h]; exact Rg_RB hR1
      · by_cases e : i = (gI s 145).toNat
        · rw [e, List.getElem?_set_self c2] at hi
          have : s1 = t := by simpa using hi
          rw [← this]; exact hB1
        · rw [List.getElem?_set_ne (fun q => e q.symm)] at hi
          exact hTB i t hi (by omega)
    · refine wp_some ⟨Rg_setB hR1 RB_st0, nk _, ?_⟩
      show Hs (gI (setB s1 st0) 145) (ts ++ [s1]) E
      rw [d145]
      refine ⟨⟨by omega, ?_, ?_⟩, fun t ht => ?_, fun i t hi hid => ?_⟩
      · rw [List.length_append]; show gI s 145 + 1 ≤ ((ts.length + 1 : Nat) : Int); omega
      · rw [List.length_append]; show ts.length + 1 ≤ 20; omega
      · rcases List.mem_append.mp ht with h | h
        · exact hRB t h
        · rw [List.mem_singleton.mp h]; exact Rg_RB hR1
      · by_cases e : i < ts.length
        · rw [List.getElem?_append_left e] at hi
          exact hTB i t hi (by omega)
        · rw [List.getElem?_append_right (by omega)] at hi
          have : i - ts.length = 0 := by omega
          rw [this] at hi
          have : s1 = t := by simpa using hi
          rw [← this]; exact hB1
/-! ===== what holds of the class between calls ===== -/
def CI (s : MS) (ts : List MS) : Prop := Rg s ∧ TS s Z0 (-1) ∧ ((gI s 12 = 0 ∧ gI s 145 = 0 ∧ ∀ v, v < 8 → gA s 60 v = -2) ∨ (gI s 12 = 1 ∧ 3 ≤ gI s 581)) ∧ Hs (gI s 145) ts (gI s 581)
theorem CI_TE {s : MS} {ts : List MS} (h : CI s ts) (ht : gI s 12 ≠ 0) : TE s := ⟨h.1, h.2.1, by rcases h.2.2.1 with q | q; exact absurd q.1 ht; exact q.2⟩
theorem CI_told {s : MS} {ts : List MS} (h : CI s ts) {v : Nat} (hv : v < 8) (hr : gA s 60 v ≠ -2) : gI s 12 ≠ 0 := fun q => by
  rcases h.2.2.1 with w | w
  · exact hr (w.2.2 v hv)
  · omega
theorem CI_keep {s o : MS} {ts : List MS} (h : CI s ts) (hR : Rg o) (hA : ∀ k, 54 ≤ k → k ≤ 61 → gA o k = gA s k) (hI : gI o 1060 = gI s 1060 ∧ gI o 581 = gI s 581 ∧ gI o 12 = gI s 12 ∧ gI o 145 = gI s 145) : CI o ts := by
  refine ⟨hR, TS_eq h.2.1 (hA 54 (by decide) (by decide)) (hA 55 (by decide) (by decide)) (hA 56 (by decide) (by decide)) (hA 57 (by decide) (by decide)) (hA 58 (by decide) (by decide)) (hA 59 (by decide) (by decide)) (hA 60 (by decide) (by decide)) (hA 61 (by decide) (by decide)) hI.1 hI.2.1, ?_, ?_⟩
  · rw [hI.2.2.1, hI.2.2.2, hI.2.1, hA 60 (by decide) (by decide)]; exact h.2.2.1
  · rw [hI.2.2.2, hI.2.1]; exact h.2.2.2
theorem w_finish {p0 p1 : Int} {s : MS} {ts : List MS} (h : TE s) (h12 : gI s 12 = 1) (hB : TB s (gI s 581)) (hH : Hs (gI s 145) ts (gI s 581)) (h0 : R2 p0) (h1 : R2 p1) : wp (m_finish p0 p1 s ts) (fun w => CI w.2.1 w.2.2 ∧ gI w.2.1 61 = gI s 61) := by
  unfold m_finish
  refine wp_bn (w_x1_settle h.1) (fun q eq hq => ?_)
  obtain ⟨n, s1⟩ := q
  dsimp only at hq ⊢
  have F1 : F_x1_settle s s1 := fr_x1_settle eq
  refine wp_bn (w_x2_keep hq.1 h0 h1 (by omega)) (fun s2 e2 h2 => ?_)
  have F2 : F_x2_keep s1 s2 := fr_x2_keep e2
  have kA : ∀ k, 54 ≤ k → k ≤ 70 → gA s2 k = gA s k := fun k h1 h2 => (F2.2.1 k (by simp; omega)).trans (F1.2.1 k (by simp; omega))
  have k581 : gI s2 581 = gI s 581 := (F2.1 581 (by decide)).trans (F1.1 581 (by decide))
  have k145 : gI s2 145 = gI s 145 := (F2.1 145 (by decide)).trans (F1.1 145 (by decide))
  have k1060 : gI s2 1060 = gI s 1060 := (F2.1 1060 (by decide)).trans (F1.1 1060 (by decide))
  have k12 : gI s2 12 = gI s 12 := (F2.1 12 (by decide)).trans (F1.1 12 (by decide))
  have k61 : gI s2 61 = gI s 61 := (F2.1 61 (by decide)).trans (F1.1 61 (by decide))
  have hB2 : TB s2 (gI s 581) := TB_eq hB (fun k h1 h2 => kA k (by omega) h2) ((F2.1 1240 (by decide)).trans (F1.1 1240 (by decide)))
  refine wp_bn (w_remember h2.1 hB2 (by rw [k145]; exact hH)) (fun w ew hw => ?_)
  obtain ⟨hR3, K3, H3⟩ := hw
  have j581 : gI w.1 581 = gI s 581 := (K3.2 581 (by omega) (by decide) (by decide)).trans k581
  refine wp_some ⟨⟨hR3, ?_, Or.inr ⟨?_, by rw [j581]; exact h.2.2⟩, by rw [j581]; exact H3⟩, (K3.2 61 (by omega) (by decide) (by decide)).trans k61⟩
  · have z : ∀ k, 54 ≤ k → k ≤ 61 → gA w.1 k = gA s k := fun k h1 h2 => (K3.1 k (by omega)).trans (kA k h1 (by omega))
    exact TS_eq h.2.1 (z 54 (by decide) (by decide)) (z 55 (by decide) (by decide)) (z 56 (by decide) (by decide)) (z 57 (by decide) (by decide)) (z 58 (by decide) (by decide)) (z 59 (by decide) (by decide)) (z 60 (by decide) (by decide)) (z 61 (by decide) (by decide)) ((K3.2 1060 (by omega) (by decide) (by decide)).trans k1060) j581
  · exact ((K3.2 12 (by omega) (by decide) (by decide)).trans k12).trans h12
/-! ===== calls of the class keep what holds ===== -/
theorem CI_of {s o : MS} {ts : List MS} (h : CI s ts) (ht : gI s 12 ≠ 0) (T : TE o) (hI : gI o 12 = gI s 12 ∧ gI o 145 = gI s 145 ∧ gI o 581 = gI s 581) : CI o ts := by
  refine ⟨T.1, T.2.1, Or.inr ⟨?_, T.2.2⟩, ?_⟩
  · rw [hI.1]
    rcases h.2.2.1 with q | q
    · exact absurd q.1 ht
    · exact q.1
  · rw [hI.2.1, hI.2.2]; exact h.2.2.2
theorem CI_12 {s : MS} {ts : List MS} (h : CI s ts) (ht : gI s 12 ≠ 0) : gI s 12 = 1 := by
  rcases h.2.2.1 with q | q
  · exact absurd q.1 ht
  · exact q.1
theorem c_refuse {p0 : Int} {s : MS} {ts : List MS} (h : CI s ts) (hp : 0 ≤ p0 ∧ p0 < 6) : wp (m_x11_refuse p0 s) (fun q => CI q.2 ts ∧ gI q.2 61 = gI s 61 ∧ q.1 = -1) := by
  refine wp_eq (w_x11_refuse h.1 hp) (fun q eq hq => ?_)
  have F : F_x11_refuse s q.2 := fr_x11_refuse eq
  exact ⟨CI_keep h hq.1 (fun k h1 h2 => F.2.1 k (by simp; omega)) ⟨F.1 1060 (by simp), F.1 581 (by simp), F.1 12 (by simp), F.1 145 (by simp)⟩, F.1 61 (by simp), hq.2⟩
theorem c_put {p0 p1 p2 : Int} {s : MS} {ts : List MS} (h : CI s ts) (h0 : R2 p0) (h1 : R2 p1) (h2 : R2 p2) : wp (m_x11_put ts p0 p1 p2 s) (fun q => CI q.2.1 q.2.2 ∧ gI q.2.1 61 = gI s 61) := by
  have RF : wp (bn (m_x11_refuse 2 s) (fun qr4 => some (qr4.1, qr4.2, ts))) (fun q => CI q.2.1 q.2.2 ∧ gI q.2.1 61 = gI s 61) := wp_bn (c_refuse h (by omega)) (fun q _ hq => wp_some ⟨hq.1, hq.2.1⟩)
  unfold m_x11_put m_x11_put_J28
  refine wp_bn (w_x8_isVolume h.1 h0) (fun r6 e6 h6 => wp_rg (by omega) (wp_if (fun _ => RF) (fun c1 => ?_)))
  refine wp_bn (w_x11_isKey h.1 h1) (fun r10 e10 h10 => wp_rg (by omega) (wp_if (fun _ => RF) (fun c2 => ?_)))
  refine wp_bn (w_x11_isKey h.1 h2) (fun r14 e14 h14 => wp_rg (by omega) (wp_if (fun _ => RF) (fun c3 => ?_)))
  have hv : gA s 60 p0.toNat ≠ -2 := by omega
  have ht := CI_told h (v := p0.toNat) (by omega) hv
  refine wp_bn (ts_begin (CI_TE h ht)) (fun s18 e18 h18 => ?_)
  obtain ⟨T18, F18, B18⟩ := h18
  have hB : TB s18 (gI s 581) := TB_of h.2.1 B18
  refine wp_bn (ts_tryPlant T18 (by omega) (by rw [F18.2.1 60 (by decide)]; exact hv) (by omega) (by omega)) (fun q21 e21 h21 => ?_)
  obtain ⟨r, o⟩ := q21
  dsimp only at h21 ⊢
  obtain ⟨To, Fo, hr, Ko⟩ := h21
  have k12 : gI o 12 = gI s 12 := (Fo.1 12 (by decide)).trans (F18.1 12 (by decide))
  have k145 : gI o 145 = gI s 145 := (Fo.1 145 (by decide)).trans (F18.1 145 (by decide))
  have k581 : gI o 581 = gI s 581 := (Fo.1 581 (by decide)).trans (F18.1 581 (by decide))
  have k61 : gI o 61 = gI s 61 := (Fo.1 61 (by decide)).trans (F18.1 61 (by decide))
  refine wp_rg (by omega) (wp_if (fun _ => ?_) (fun _ => ?_))
  · exact wp_bn (c_refuse (CI_of h ht To ⟨k12, k145, k581⟩) (by omega)) (fun q _ hq => wp_some ⟨hq.1, hq.2.1.trans k61⟩)
  · refine wp_bn (w_finish (ts := ts) To (k12.trans (CI_12 h ht)) (by rw [k581]; exact TB_eq hB (fun k h1 h2 => Fo.2.1 k (by simp; omega)) (Fo.1 1240 (by decide))) (by rw [k145, k581]; exact h.2.2.2) (by omega) h0) (fun q _ hq => wp_some ⟨hq.1, hq.2.trans k61⟩)
theorem c_remove {p0 p1 : Int} {s : MS} {ts : List MS} (h : CI s ts) (h0 : R2 p0) (h1 : R2 p1) : wp (m_x11_remove ts p0 p1 s) (fun q => CI q.2.1 q.2.2 ∧ gI q.2.1 61 = gI s 61) := by
  unfold m_x11_remove
  refine wp_bn (w_x8_isVolume h.1 h0) (fun r6 e6 h6 => wp_rg (by omega) (wp_if (fun _ => wp_bn (c_refuse h (by omega)) (fun q _ hq => wp_some ⟨hq.1, hq.2.1⟩)) (fun c1 => ?_)))
  have hv : gA s 60 p0.toNat ≠ -2 := by omega
  have ht := CI_told h (v := p0.toNat) (by omega) hv
  refine wp_bn (ts_begin (CI_TE h ht)) (fun s18 e18 h18 => ?_)
  obtain ⟨T18, F18, B18⟩ := h18
  have hB : TB s18 (gI s 581) := TB_of h.2.1 B18
  refine wp_bn (ts_tryUproot T18 (by omega) (by rw [F18.2.1 60 (by decide)]; exact hv) h1) (fun q21 e21 h21 => ?_)
  obtain ⟨r, o⟩ := q21
  dsimp only at h21 ⊢
  obtain ⟨To, Fo, hr, Ko⟩ := h21
  have k12 : gI o 12 = gI s 12 := (Fo.1 12 (by decide)).trans (F18.1 12 (by decide))
  have k145 : gI o 145 = gI s 145 := (Fo.1 145 (by decide)).trans (F18.1 145 (by decide))
  have k581 : gI o 581 = gI s 581 := (Fo.1 581 (by decide)).trans (F18.1 581 (by decide))
  have k61 : gI o 61 = gI s 61 := (Fo.1 61 (by decide)).trans (F18.1 61 (by decide))
  refine wp_rg (by omega) (wp_if (fun _ => ?_) (fun _ => ?_))
  · exact wp_bn (c_refuse (CI_of h ht To ⟨k12, k145, k581⟩) (by omega)) (fun q _ hq => wp_some ⟨hq.1, hq.2.1.trans k61⟩)
  · refine wp_bn (w_finish (ts := ts) To (k12.trans (CI_12 h ht)) (by rw [k581]; exact TB_eq hB (fun k h1 h2 => Fo.2.1 k (by simp; omega)) (Fo.1 1240 (by decide))) (by rw [k145, k581]; exact h.2.2.2) (by omega) h0) (fun q _ hq => wp_some ⟨hq.1, hq.2.trans k61⟩)
theorem c_copy {p0 : Int} {s : MS} {ts : List MS} (h : CI s ts) (h0 : R2 p0) : wp (m_x11_copy ts p0 s) (fun q => CI q.2.1 q.2.2 ∧ gI q.2.1 61 = gI s 61) := by
  have RF : wp (bn (m_x11_refuse 2 s) (fun qr4 => some (qr4.1, qr4.2, ts))) (fun q => CI q.2.1 q.2.2 ∧ gI q.2.1 61 = gI s 61) := wp_bn (c_refuse h (by omega)) (fun q _ hq => wp_some ⟨hq.1, hq.2.1⟩)
  unfold m_x11_copy m_x11_copy_J30
  refine wp_bn (w_x8_freeNumber h.1) (fun r6 e6 h6 => ?_)
  refine wp_bn (w_x8_isVolume h.1 h0) (fun r8 e8 h8 => wp_rg (by omega) (wp_if (fun _ => RF) (fun c1 => wp_rg (by omega) (wp_if (fun _ => RF) (fun c2 => ?_)))))
  have hv : gA s 60 p0.toNat ≠ -2 := by omega
  have ht := CI_told h (v := p0.toNat) (by omega) hv
  refine wp_bn (ts_begin (CI_TE h ht)) (fun s18 e18 h18 => ?_)
  obtain ⟨T18, F18, B18⟩ := h18
  have hB : TB s18 (gI s 581) := TB_of h.2.1 B18
  have k60 : gA s18 60 = gA s 60 := F18.2.1 60 (by decide)
  refine wp_bn (ts_share T18 (by omega) (by omega) (by rw [k60]; exact hv) (by rw [k60]; omega)) (fun o eo ho => ?_)
  have Fo : F_x1_share s18 o := fr_x1_share eo
  have k12 : gI o 12 = gI s 12 := (Fo.1 12 (by simp)).trans (F18.1 12 (by decide))
  have k145 : gI o 145 = gI s 145 := (Fo.1 145 (by simp)).trans (F18.1 145 (by decide))
  have k581 : gI o 581 = gI s 581 := (Fo.1 581 (by simp)).trans (F18.1 581 (by decide))
  have k61 : gI o 61 = gI s 61 := (Fo.1 61 (by simp)).trans (F18.1 61 (by decide))
  exact wp_bn (w_finish (ts := ts) ho.1 (k12.trans (CI_12 h ht)) (by rw [k581]; exact TB_eq hB (fun k h1 h2 => Fo.2.1 k (by simp; omega)) (Fo.1 1240 (by simp))) (by rw [k145, k581]; exact h.2.2.2) (by omega) (by omega)) (fun q _ hq => wp_some ⟨hq.1, hq.2.trans k61⟩)
theorem c_drop {p0 : Int} {s : MS} {ts : List MS} (h : CI s ts) (h0 : R2 p0) : wp (m_x11_drop ts p0 s) (fun q => CI q.2.1 q.2.2 ∧ gI q.2.1 61 = gI s 61) := by
  unfold m_x11_drop
  refine wp_bn (w_x8_isVolume h.1 h0) (fun r6 e6 h6 => wp_rg (by omega) (wp_if (fun _ => wp_bn (c_refuse h (by omega)) (fun q _ hq => wp_some ⟨hq.1, hq.2.1⟩)) (fun c1 => ?_)))
  have hv : gA s 60 p0.toNat ≠ -2 := by omega
  have ht := CI_told h (v := p0.toNat) (by omega) hv
  refine wp_bn (ts_begin (CI_TE h ht)) (fun s18 e18 h18 => ?_)
  obtain ⟨T18, F18, B18⟩ := h18
  have hB : TB s18 (gI s 581) := TB_of h.2.1 B18
  have k60 : gA s18 60 = gA s 60 := F18.2.1 60 (by decide)
  refine wp_bn (w_x8_used T18.1) (fun r8 e8 h8 => ?_)
  refine wp_bn (ts_letGo T18 (by omega) (by rw [k60]; exact hv)) (fun o eo ho => ?_)
  have Fo : F_x1_letGo s18 o := fr_x1_letGo eo
  have k12 : gI o 12 = gI s 12 := (Fo.1 12 (by simp)).trans (F18.1 12 (by decide))
  have k145 : gI o 145 = gI s 145 := (Fo.1 145 (by simp)).trans (F18.1 145 (by decide))
  have k581 : gI o 581 = gI s 581 := (Fo.1 581 (by simp)).trans (F18.1 581 (by decide))
  have k61 : gI o 61 = gI s 61 := (Fo.1 61 (by simp)).trans (F18.1 61 (by decide))
  refine wp_bn (w_finish (ts := ts) ho (k12.trans (CI_12 h ht)) (by rw [k581]; exact TB_eq hB (fun k h1 h2 => Fo.2.1 k (by simp; omega)) (Fo.1 1240 (by simp))) (by rw [k145, k581]; exact h.2.2.2) (by omega) h0) (fun q _ hq => ?_)
  exact wp_bn (w_x8_used hq.1.1) (fun r _ _ => wp_some ⟨hq.1, hq.2.trans k61⟩)
theorem c_checkpoint {s : MS} {ts : List MS} (h : CI s ts) : wp (m_x11_checkpoint ts s) (fun q => CI q.2.1 q.2.2 ∧ gI q.2.1 61 = gI s 61) := by
  unfold m_x11_checkpoint
  have r12 := h.1.1 12
  have r12' : (0 : Int) ≤ gI s 12 ∧ gI s 12 ≤ 1 := r12
  refine wp_rg (by omega) (wp_if (fun _ => wp_bn (c_refuse h (by omega)) (fun q _ hq => wp_some ⟨hq.1, hq.2.1⟩)) (fun ht => ?_))
  refine wp_bn (ts_begin (CI_TE h ht)) (fun s18 e18 h18 => ?_)
  obtain ⟨T18, F18, B18⟩ := h18
  have hB : TB s18 (gI s 581) := TB_of h.2.1 B18
  refine wp_bn (w_x8_held T18.1) (fun r8 e8 h8 => ?_)
  refine wp_bn (ts_save T18) (fun o eo ho => ?_)
  obtain ⟨To, Fo⟩ := ho
  have k12 : gI o 12 = gI s 12 := (Fo.1 12 (by simp)).trans (F18.1 12 (by decide))
  have k145 : gI o 145 = gI s 145 := (Fo.1 145 (by simp)).trans (F18.1 145 (by decide))
  have k581 : gI o 581 = gI s 581 := (Fo.1 581 (by simp)).trans (F18.1 581 (by decide))
  have k61 : gI o 61 = gI s 61 := (Fo.1 61 (by simp)).trans (F18.1 61 (by decide))
  exact wp_bn (w_finish (ts := ts) To (k12.trans (CI_12 h ht)) (by rw [k581]; exact TB_eq hB (fun k h1 h2 => Fo.2.1 k (by simp; omega)) (Fo.1 1240 (by simp))) (by rw [k145, k581]; exact h.2.2.2) (by omega) (by omega)) (fun q _ hq => wp_some ⟨hq.1, hq.2.trans k61⟩)
theorem c_crash {s : MS} {ts : List MS} (h : CI s ts) : wp (m_x11_crash ts s) (fun q => CI q.2.1 q.2.2 ∧ gI q.2.1 61 = gI s 61) := by
  unfold m_x11_crash
  have r12 := h.1.1 12
  have r12' : (0 : Int) ≤ gI s 12 ∧ gI s 12 ≤ 1 := r12
  refine wp_rg (by omega) (wp_if (fun _ => wp_bn (c_refuse h (by omega)) (fun q _ hq => wp_some ⟨hq.1, hq.2.1⟩)) (fun ht => ?_))
  refine wp_bn (ts_begin (CI_TE h ht)) (fun s18 e18 h18 => ?_)
  obtain ⟨T18, F18, B18⟩ := h18
  have hB : TB s18 (gI s 581) := TB_of h.2.1 B18
  refine wp_bn (w_x8_freshBlocks T18.1) (fun r8 e8 h8 => ?_)
  refine wp_bn (ts_fallBack T18) (fun o eo ho => ?_)
  obtain ⟨To, Fo⟩ := ho
  have k12 : gI o 12 = gI s 12 := (Fo.1 12 (by simp)).trans (F18.1 12 (by decide))
  have k145 : gI o 145 = gI s 145 := (Fo.1 145 (by simp)).trans (F18.1 145 (by decide))
  have k581 : gI o 581 = gI s 581 := (Fo.1 581 (by simp)).trans (F18.1 581 (by decide))
  have k61 : gI o 61 = gI s 61 := (Fo.1 61 (by simp)).trans (F18.1 61 (by decide))
  exact wp_bn (w_finish (ts := ts) To (k12.trans (CI_12 h ht)) (by rw [k581]; exact TB_eq hB (fun k h1 h2 => Fo.2.1 k (by simp; omega)) (Fo.1 1240 (by simp))) (by rw [k145, k581]; exact h.2.2.2) (by omega) (by omega)) (fun q _ hq => wp_some ⟨hq.1, hq.2.trans k61⟩)
theorem c_chance {p0 : Int} {s : MS} {ts : List MS} (h : CI s ts) (h0 : R2 p0) : wp (m_x11_chance ts p0 s) (fun q => CI q.2.1 q.2.2 ∧ gI q.2.1 61 = gI s 61) := by
  have RF : wp (bn (m_x11_refuse 3 s) (fun qr4 => some (qr4.1, qr4.2, ts))) (fun q => CI q.2.1 q.2.2 ∧ gI q.2.1 61 = gI s 61) := wp_bn (c_refuse h (by omega)) (fun q _ hq => wp_some ⟨hq.1, hq.2.1⟩)
  have r12 := h.1.1 12
  have r12' : (0 : Int) ≤ gI s 12 ∧ gI s 12 ≤ 1 := r12
  unfold m_x11_chance m_x11_chance_J18
  refine wp_rg (by omega) (wp_if (fun _ => RF) (fun ht => wp_rg h0 (wp_if (fun _ => RF) (fun c1 => wp_rg h0 (wp_if (fun c2 => ?_) (fun _ => RF))))))
  have L35 : ∀ (n : Nat) (d i : Int) (S : MS), TE S → TB S (gI s 581) → (gI S 12 = gI s 12 ∧ gI S 145 = gI s 145 ∧ gI S 581 = gI s 581 ∧ gI S 61 = gI s 61) → (0 ≤ i ∧ i ≤ p0) → (p0 - i < (n : Int)) → wp (m_x11_chance_L35 ts n p0 d i S) (fun q => CI q.2.1 q.2.2 ∧ gI q.2.1 61 = gI s 61) := by
    refine fr_ind (fun d i S hS hB hI hi hm => by exfalso; omega) (fun n ih d i S hS hB hI hi hm => ?_)
    show wp (m_x11_chance_b35 ts (m_x11_chance_L35 ts n) p0 d i S) _
    unfold m_x11_chance_b35 m_x11_chance_J53
    obtain ⟨k12, k145, k581, k61⟩ := hI
    refine wp_rg (by omega) (wp_rg h0 (wp_if (fun c3 => ?_) (fun c3 => ?_)))
    · exact wp_bn (w_finish (ts := ts) hS (k12.trans (CI_12 h ht)) (by rw [k581]; exact hB) (by rw [k145, k581]; exact h.2.2.2) (by omega) (by omega)) (fun q _ hq => wp_some ⟨hq.1, hq.2.trans k61⟩)
    · refine wp_bn (ts_act hS) (fun q18 e18 h18 => ?_)
      obtain ⟨r, o⟩ := q18
      dsimp only at h18 ⊢
      obtain ⟨To, Fo, hr⟩ := h18
      have go : ∀ z : Int, wp (m_x11_chance_L35 ts n p0 z (i + 1) o) (fun q => CI q.2.1 q.2.2 ∧ gI q.2.1 61 = gI s 61) := fun z => ih z (i + 1) o To (TB_eq hB (fun k h1 h2 => Fo.2.1 k (by simp; omega)) (Fo.1 1240 (by decide))) ⟨(Fo.1 12 (by decide)).trans k12, (Fo.1 145 (by decide)).trans k145, (Fo.1 581 (by decide)).trans k581, (Fo.1 61 (by decide)).trans k61⟩ (by omega) (by omega)
      exact wp_rg (by omega) (wp_if (fun _ => go d) (fun _ => go (d + 1)))
  refine wp_bn (ts_begin (CI_TE h ht)) (fun s18 e18 h18 => ?_)
  obtain ⟨T18, F18, B18⟩ := h18
  exact L35 FU 0 0 s18 T18 (TB_of h.2.1 B18) ⟨F18.1 12 (by decide), F18.1 145 (by decide), F18.1 581 (by decide), F18.1 61 (by decide)⟩ (by omega) (by have := FU_big; omega)
theorem c_undo {s : MS} {ts : List MS} (h : CI s ts) : wp (m_x11_undo ts s) (fun q => CI q.2.1 q.2.2 ∧ gI q.2.1 61 = gI s 61) := by
  obtain ⟨hR, H, hT, ⟨⟨d0, d1, d2⟩, hRB, hTB⟩⟩ := id h
  have r143 := hR.1 143
  have r143' : (0 : Int) ≤ gI s 143 ∧ gI s 143 ≤ 60 := r143
  unfold m_x11_undo
  refine wp_rg (by omega) (wp_rg (by omega) (wp_if (fun _ => wp_bn (c_refuse h (by omega)) (fun q _ hq => wp_some ⟨hq.1, hq.2.1⟩)) (fun c1 => ?_)))
  refine wp_stn (fun s2 e2 => ?_)
  have hR2 : Rg s2 := e2 ▸ Rg.uI (Rg.uI hR (by show (0 : Int) ≤ gI s 145 - 1 ∧ gI s 145 - 1 ≤ 20; omega)) (by show (0 : Int) ≤ gI s 143 - 1 ∧ gI s 143 - 1 ≤ 60; omega)
  have g145 : gI s2 145 = gI s 145 - 1 := by rw [← e2]; rfl
  have kI : ∀ k, k ≠ 143 → k ≠ 145 → gI s2 k = gI s k := fun k h1 h2 => by
    rw [← e2, gI_sI, if_neg h1, gI_sI, if_neg h2]
  have kA : ∀ k, gA s2 k = gA s k := fun k => by rw [← e2]; rfl
  refine wp_inb (by omega) (wp_if (fun c2 => ?_) (fun c2 => by exfalso; omega))
  have hi : ts[(gI s2 145).toNat]? = some (ts.getD (gI s2 145).toNat s2) := by
    rw [List.getD_eq_getElem?_getD, List.getElem?_eq_getElem c2]; rfl
  have hm : ts.getD (gI s2 145).toNat s2 ∈ ts := List.mem_of_getElem? hi
  have hB := hTB _ _ hi (by omega)
  generalize ts.getD (gI s2 145).toNat s2 = t at hi hm hB ⊢
  have hRt : Rg (setB s2 t) := Rg_setB hR2 (hRB t hm)
  refine wp_bn (b_P hRt) (fun s3 e3 h3 => ?_)
  obtain ⟨hR3, F3, B3⟩ := h3
  have hBt : TB (setB s2 t) (gI s 581) := TB_eq hB (fun k h1 h2 => by rw [gA_setB, if_pos (by omega)]) (by rw [gI_setB, if_pos (by omega)])
  have k581 : gI s3 581 = gI s 581 := (F3.1 581 (by decide)).trans ((setB_I (by omega)).trans (kI 581 (by decide) (by decide)))
  have T3 : TS s3 Z0 (-1) := TB_back hBt B3 k581
  have k145 : gI (setB s3 s2) 145 = gI s 145 - 1 := (setB_I (by omega)).trans ((F3.1 145 (by decide)).trans ((setB_I (by omega)).trans g145))
  have j : ∀ k, ¬ (62 ≤ k ∧ k ≤ 70) → gA (setB s3 s2) k = gA s3 k := fun k hk => setB_A hk
  have j581 : gI (setB s3 s2) 581 = gI s 581 := (setB_I (by omega)).trans k581
  have told : gI s 12 = 1 ∧ 3 ≤ gI s 581 := by
    rcases hT with q | q
    · omega
    · exact q
  refine wp_some ⟨⟨Rg_setB hR3 (Rg_RB hR2), ?_, Or.inr ⟨?_, by show 3 ≤ gI (setB s3 s2) 581; rw [j581]; exact told.2⟩, ?_⟩, ?_⟩
  · exact TS_eq T3 (j 54 (by omega)) (j 55 (by omega)) (j 56 (by omega)) (j 57 (by omega)) (j 58 (by omega)) (j 59 (by omega)) (j 60 (by omega)) (j 61 (by omega)) (setB_I (by omega)) (setB_I (by omega))
  · show gI (setB s3 s2) 12 = 1
    rw [setB_I (by omega), F3.1 12 (by decide), setB_I (by omega), kI 12 (by decide) (by decide)]; exact told.1
  · show Hs (gI (setB s3 s2) 145) (ts.set (gI s2 145).toNat s3) (gI (setB s3 s2) 581)
    rw [k145, j581]
    refine ⟨⟨by omega, by rw [List.length_set]; omega, by rw [List.length_set]; exact d2⟩, fun u hu => ?_, fun i u hu hid => ?_⟩
    · rcases List.mem_or_eq_of_mem_set hu with q | q
      · exact hRB u q
      · rw [q]; exact Rg_RB hR3
    · rw [List.getElem?_set_ne (by omega)] at hu
      exact hTB i u hu (by omega)
  · show gI (setB s3 s2) 61 = gI s 61
    rw [setB_I (by omega), F3.1 61 (by decide), setB_I (by omega), kI 61 (by decide) (by decide)]
theorem c_writes {p0 p1 p2 : Int} {s : MS} {ts : List MS} (h : CI s ts) (h0 : R2 p0) (h1 : R2 p1) (h2 : R2 p2) : wp (m_x11_writes p0 p1 p2 s) (fun q => CI q.2 ts ∧ gI q.2 61 = gI s 61) := by
  unfold m_x11_writes m_x11_writes_J21 m_x11_writes_J55
  refine wp_bn (w_x8_isVolume h.1 h0) (fun r6 e6 h6 => wp_rg (by omega) (wp_if (fun _ => wp_some ⟨h, rfl⟩) (fun c1 => ?_)))
  refine wp_bn (w_x11_isKey h.1 h1) (fun r10 e10 h10 => wp_rg (by omega) (wp_if (fun _ => wp_some ⟨h, rfl⟩) (fun c2 => ?_)))
  have hv : gA s 60 p0.toNat ≠ -2 := by omega
  have ht := CI_told h (v := p0.toNat) (by omega) hv
  refine wp_rg h2 (wp_if (fun _ => ?_) (fun _ => wp_rg h2 (wp_if (fun _ => ?_) (fun _ => wp_some ⟨h, rfl⟩))))
  · refine wp_bn (ts_wouldWrite (CI_TE h ht) (by omega) hv (by omega)) (fun q _ hq => ?_)
    exact wp_some ⟨CI_of h ht hq.1 ⟨hq.2.1.1 12 (by decide), hq.2.1.1 145 (by decide), hq.2.1.1 581 (by decide)⟩, hq.2.1.1 61 (by decide)⟩
  · refine wp_bn (ts_wouldCost (CI_TE h ht) (by omega) hv (by omega)) (fun q _ hq => ?_)
    exact wp_some ⟨CI_of h ht hq.1 ⟨hq.2.1.1 12 (by decide), hq.2.1.1 145 (by decide), hq.2.1.1 581 (by decide)⟩, hq.2.1.1 61 (by decide)⟩
theorem c_spread {p0 p1 : Int} {s : MS} {ts : List MS} (h : CI s ts) (h0 : R2 p0) (h1 : R2 p1) : wp (m_x11_spread p0 p1 s) (fun q => CI q.2 ts ∧ gI q.2 61 = gI s 61) := by
  unfold m_x11_spread m_x11_spread_J19
  refine wp_bn (w_x8_isVolume h.1 h0) (fun r6 e6 h6 => wp_rg (by omega) (wp_if (fun _ => wp_some ⟨h, rfl⟩) (fun c1 => wp_rg h1 (wp_if (fun c2 => ?_) (fun _ => wp_some ⟨h, rfl⟩)))))
  have hv : gA s 60 p0.toNat ≠ -2 := by omega
  have ht := CI_told h (v := p0.toNat) (by omega) hv
  have L26 : ∀ (n : Nat) (f i : Int) (S : MS), TE S → gA S 60 p0.toNat ≠ -2 → (gI S 12 = gI s 12 ∧ gI S 145 = gI s 145 ∧ gI S 581 = gI s 581 ∧ gI S 61 = gI s 61) → (0 ≤ i ∧ i ≤ 100) → 100 - i < (n : Int) → wp (m_x11_spread_L26 n p0 p1 f i S) (fun q => CI q.2 ts ∧ gI q.2 61 = gI s 61) := by
    refine fr_ind (fun f i S hS hv hI hi hm => by exfalso; omega) (fun n ih f i S hS hv hI hi hm => ?_)
    show wp (m_x11_spread_b26 (m_x11_spread_L26 n) p0 p1 f i S) _
    unfold m_x11_spread_b26 m_x11_spread_J50
    obtain ⟨k12, k145, k581, k61⟩ := hI
    refine wp_rg (by omega) (wp_if (fun c3 => wp_some ⟨CI_of h ht hS ⟨k12, k145, k581⟩, k61⟩) (fun c3 => ?_))
    refine wp_bn (ts_wouldWrite hS (by omega) hv (by omega)) (fun q15 e15 h15 => ?_)
    obtain ⟨r, o⟩ := q15
    dsimp only at h15 ⊢
    obtain ⟨To, Fo, hr, Bo⟩ := h15
    have go : ∀ z : Int, wp (m_x11_spread_L26 n p0 p1 z (i + 1) o) (fun q => CI q.2 ts ∧ gI q.2 61 = gI s 61) := fun z => ih z (i + 1) o To (by rw [(Bo.2.2.1 p0.toNat (by omega)).1]; exact hv) ⟨(Fo.1 12 (by decide)).trans k12, (Fo.1 145 (by decide)).trans k145, (Fo.1 581 (by decide)).trans k581, (Fo.1 61 (by decide)).trans k61⟩ (by omega) (by omega)
    exact wp_rg (by omega) (wp_rg h1 (wp_if (fun _ => go (f + 1)) (fun _ => go f)))
  exact L26 FU 0 0 s (CI_TE h ht) hv ⟨rfl, rfl, rfl, rfl⟩ (by omega) (by have := FU_big; omega)
/-- every row within its words -/
def nfS (s : MS) : MS := (s.1, s.2.1, fun k j => (i2 (s.2.2.1 k j)).toInt, s.2.2.2)
/-! ===== the other calls of the class ===== -/
theorem CI_VR {s : MS} {ts : List MS} (h : CI s ts) : VR s := ⟨TS_CL h.2.1, fun v hv => (TS_root h.1 h.2.1 hv).2⟩
theorem c_feed {p0 p1 p2 p3 p4 : Int} {s : MS} {ts : List MS} (h : CI s ts) (h0 : R2 p0) (h1 : R2 p1) (h2 : R2 p2) (h3 : R2 p3) (h4 : R2 p4) : wp (m_x11_feed p0 p1 p2 p3 p4 s) (fun q => CI q.2 ts ∧ ((q.1 = -1 ∧ gI q.2 61 = gI s 61 ∧ 1580 < gI s 61) ∨ (q.1 = gI s 61 + 20 ∧ gI q.2 61 = gI s 61 + 20 ∧ gI s 61 ≤ 1580))) := by
  refine wp_eq (w_x11_feed h.1) (fun q eq hq => ?_)
  have F : F_x11_feed s q.2 := fr_x11_feed eq
  exact ⟨CI_keep h hq.1 (fun k h1 h2 => F.2.1 k (by simp; omega)) ⟨F.1 1060 (by simp), F.1 581 (by simp), F.1 12 (by simp), F.1 145 (by simp)⟩, hq.2⟩
theorem c_end {p0 : Int} {s : MS} {ts : List MS} (h : CI s ts) (h0 : R2 p0) : wp (m_x11_end p0 s) (fun q => CI q.2 ts ∧ ((q.1 = 0 ∧ gI q.2 61 = gI s 61 ∧ (p0 < 0 ∨ gI s 61 < p0)) ∨ (q.1 = 1 ∧ gI q.2 61 = p0 ∧ 0 ≤ p0 ∧ p0 ≤ gI s 61))) := by
  refine wp_eq (w_x11_end h.1 h0) (fun q eq hq => ?_)
  have F : F_x11_end s q.2 := fr_x11_end eq
  exact ⟨CI_keep h hq.1 (fun k h1 h2 => F.2.1 k (by simp; omega)) ⟨F.1 1060 (by simp), F.1 581 (by simp), F.1 12 (by simp), F.1 145 (by simp)⟩, hq.2⟩
theorem c_key {p0 p1 : Int} {s : MS} {ts : List MS} (h : CI s ts) (h0 : R2 p0) (h1 : R2 p1) : wp (m_x11_key p0 p1 s) (fun q => CI q.2 ts ∧ gI q.2 61 = gI s 61) := by
  refine wp_eq (w_x11_key h.1 (TS_US h.2.1) (fun v hv => (TS_root h.1 h.2.1 hv).1) h0 h1) (fun q eq hq => ?_)
  have F : F_x11_key s q.2 := fr_x11_key eq
  exact ⟨CI_keep h hq (fun k h1 h2 => F.2.1 k (by simp; omega)) ⟨F.1 1060 (by simp), F.1 581 (by simp), F.1 12 (by simp), F.1 145 (by simp)⟩, F.1 61 (by simp)⟩
theorem c_total {p0 p1 p2 : Int} {s : MS} {ts : List MS} (h : CI s ts) (h0 : R2 p0) (h1 : R2 p1) (h2 : R2 p2) : wp (m_x11_total p0 p1 p2 s) (fun q => CI q.2 ts ∧ gI q.2 61 = gI s 61) := by
  refine wp_eq (w_x11_total h.1 (TS_US h.2.1) (fun v hv => (TS_root h.1 h.2.1 hv).1) h0 h1 h2) (fun q eq hq => ?_)
  have F : F_x11_total s q.2 := fr_x11_total eq
  exact ⟨CI_keep h hq (fun k h1 h2 => F.2.1 k (by simp; omega)) ⟨F.1 1060 (by simp), F.1 581 (by simp), F.1 12 (by simp), F.1 145 (by simp)⟩, F.1 61 (by simp)⟩
theorem c_shared {p0 p1 : Int} {s : MS} {ts : List MS} (h : CI s ts) (h0 : R2 p0) (h1 : R2 p1) : wp (m_x11_shared p0 p1 s) (fun q => CI q.2 ts ∧ gI q.2 61 = gI s 61) := by
  refine wp_eq (w_x11_shared h.1 (TS_US h.2.1) (fun v hv => (TS_root h.1 h.2.1 hv).1) h0 h1) (fun q eq hq => ?_)
  have F : F_x11_shared s q.2 := fr_x11_shared eq
  exact ⟨CI_keep h hq (fun k h1 h2 => F.2.1 k (by simp; omega)) ⟨F.1 1060 (by simp), F.1 581 (by simp), F.1 12 (by simp), F.1 145 (by simp)⟩, F.1 61 (by simp)⟩
theorem c_differs {p0 p1 p2 : Int} {s : MS} {ts : List MS} (h : CI s ts) (h0 : R2 p0) (h1 : R2 p1) (h2 : R2 p2) : wp (m_x11_differs p0 p1 p2 s) (fun q => CI q.2 ts ∧ gI q.2 61 = gI s 61) := by
  refine wp_eq (w_x11_differs h.1 (TS_US h.2.1) (fun v hv => (TS_root h.1 h.2.1 hv).1) h0 h1 h2) (fun q eq hq => ?_)
  have F : F_x11_differs s q.2 := fr_x11_differs eq
  exact ⟨CI_keep h hq (fun k h1 h2 => F.2.1 k (by simp; omega)) ⟨F.1 1060 (by simp), F.1 581 (by simp), F.1 12 (by simp), F.1 145 (by simp)⟩, F.1 61 (by simp)⟩
theorem c_lost {p0 : Int} {s : MS} {ts : List MS} (h : CI s ts) (h0 : R2 p0) : wp (m_x11_lost p0 s) (fun q => CI q.2 ts ∧ gI q.2 61 = gI s 61) := by
  refine wp_eq (w_x11_lost h.1 (TS_US h.2.1) (fun v hv => (TS_root h.1 h.2.1 hv).1) h0) (fun q eq hq => ?_)
  have F : F_x11_lost s q.2 := fr_x11_lost eq
  exact ⟨CI_keep h hq (fun k h1 h2 => F.2.1 k (by simp; omega)) ⟨F.1 1060 (by simp), F.1 581 (by simp), F.1 12 (by simp), F.1 145 (by simp)⟩, F.1 61 (by simp)⟩
theorem c_worst {p0 : Int} {s : MS} {ts : List MS} (h : CI s ts) (h0 : R2 p0) : wp (m_x11_worst p0 s) (fun q => CI q.2 ts ∧ gI q.2 61 = gI s 61) := by
  refine wp_eq (w_x11_worst h.1 (TS_US h.2.1) (fun v hv => (TS_root h.1 h.2.1 hv).1) h0) (fun q eq hq => ?_)
  have F : F_x11_worst s q.2 := fr_x11_worst eq
  exact ⟨CI_keep h hq (fun k h1 h2 => F.2.1 k (by simp; omega)) ⟨F.1 1060 (by simp), F.1 581 (by simp), F.1 12 (by simp), F.1 145 (by simp)⟩, F.1 61 (by simp)⟩
theorem c_back {p0 : Int} {s : MS} {ts : List MS} (h : CI s ts) (h0 : R2 p0) : wp (m_x11_back p0 s) (fun q => CI q.2 ts ∧ gI q.2 61 = gI s 61) := by
  refine wp_eq (w_x11_back h.1 (TS_US h.2.1) (fun v hv => (TS_root h.1 h.2.1 hv).1) (fun v hv => (TS_sroot h.1 h.2.1 hv).1) h0) (fun q eq hq => ?_)
  have F : F_x11_back s q.2 := fr_x11_back eq
  exact ⟨CI_keep h hq (fun k h1 h2 => F.2.1 k (by simp; omega)) ⟨F.1 1060 (by simp), F.1 581 (by simp), F.1 12 (by simp), F.1 145 (by simp)⟩, F.1 61 (by simp)⟩
theorem c_see {s : MS} {ts : List MS} (h : CI s ts) : wp (m_x11_see s) (fun q => CI q.2 ts ∧ gI q.2 61 = 0) := by
  refine wp_eq (w_x11_see h.1) (fun q eq hq => ?_)
  have F : F_x11_see s q.2 := fr_x11_see eq
  exact ⟨CI_keep h hq.1 (fun k h1 h2 => F.2.1 k (by simp; omega)) ⟨F.1 1060 (by simp), F.1 581 (by simp), F.1 12 (by simp), F.1 145 (by simp)⟩, hq.2⟩
theorem c_fits {p0 : Int} {s : MS} {ts : List MS} (h : CI s ts) (h0 : R2 p0) : wp (m_x11_fits p0 s) (fun q => CI q.2 ts ∧ gI q.2 61 = gI s 61) := by
  refine wp_eq (w_x11_fits h.1 (CI_VR h) h0) (fun q eq hq => ?_)
  have F : F_x11_fits s q.2 := fr_x11_fits eq
  exact ⟨CI_keep h hq (fun k h1 h2 => F.2.1 k (by simp; omega)) ⟨F.1 1060 (by simp), F.1 581 (by simp), F.1 12 (by simp), F.1 145 (by simp)⟩, F.1 61 (by simp)⟩
theorem c_tells {p0 : Int} {s : MS} {ts : List MS} (h : CI s ts) (h0 : R2 p0) : wp (m_x11_tells p0 s) (fun q => CI q.2 ts ∧ gI q.2 61 = gI s 61) := by
  refine wp_eq (w_x11_tells h.1 (CI_VR h) h0) (fun q eq hq => ?_)
  have F : F_x11_tells s q.2 := fr_x11_tells eq
  exact ⟨CI_keep h hq (fun k h1 h2 => F.2.1 k (by simp; omega)) ⟨F.1 1060 (by simp), F.1 581 (by simp), F.1 12 (by simp), F.1 145 (by simp)⟩, F.1 61 (by simp)⟩
theorem c_seed {p0 : Int} {s : MS} {ts : List MS} (h : CI s ts) (h0 : R2 p0) : wp (m_x11_seed p0 s) (fun q => CI q.2 ts ∧ gI q.2 61 = gI s 61) := by
  refine wp_eq (w_x11_seed h.1 h0) (fun q eq hq => ?_)
  have F : F_x11_seed s q.2 := fr_x11_seed eq
  exact ⟨CI_keep h hq (fun k h1 h2 => F.2.1 k (by simp; omega)) ⟨F.1 1060 (by simp), F.1 581 (by simp), F.1 12 (by simp), F.1 145 (by simp)⟩, F.1 61 (by simp)⟩
theorem c_ask {s : MS} {ts : List MS} (h : CI s ts) : wp (m_x11_ask s) (fun q => CI q.2 ts ∧ gI q.2 61 = 0) := by
  refine wp_eq (w_x11_ask h.1) (fun q eq hq => ?_)
  have F : F_x11_ask s q.2 := fr_x11_ask eq
  exact ⟨CI_keep h hq.1 (fun k h1 h2 => F.2.1 k (by simp; omega)) ⟨F.1 1060 (by simp), F.1 581 (by simp), F.1 12 (by simp), F.1 145 (by simp)⟩, hq.2⟩
theorem c_image {s : MS} {ts : List MS} (h : CI s ts) : wp (m_x11_image s) (fun q => CI q.2 ts ∧ gI q.2 61 = gI s 61) := by
  refine wp_eq (w_x11_image h.1 (TS_US h.2.1)) (fun q eq hq => ?_)
  have F : F_x11_image s q.2 := fr_x11_image eq
  exact ⟨CI_keep h hq (fun k h1 h2 => F.2.1 k (by simp; omega)) ⟨F.1 1060 (by simp), F.1 581 (by simp), F.1 12 (by simp), F.1 145 (by simp)⟩, F.1 61 (by simp)⟩
theorem c_volume {p0 p1 : Int} {s : MS} {ts : List MS} (h : CI s ts) (h0 : R2 p0) (h1 : R2 p1) : wp (m_x11_volume p0 p1 s) (fun q => CI q.2 ts ∧ gI q.2 61 = gI s 61) := by
  have key : wp (m_x11_volume p0 p1 s) (fun q => Rg q.2) := by
    unfold m_x11_volume m_x11_volume_J93
    refine wp_bn (w_x8_isVolume h.1 h0) (fun r4 e4 h4 => wp_rg (by omega) (wp_if (fun _ => wp_some h.1) (fun c1 => ?_)))
    have rt := TS_root h.1 h.2.1 (v := p0.toNat) (by omega)
    refine wp_rdIn (by omega) (fun y7 e7 => ?_)
    rw [e7] at rt h4
    refine wp_rg h1 (wp_if (fun _ => wp_some h.1) (fun _ => wp_if (fun _ => ?_) (fun _ => wp_if (fun _ => ?_) (fun _ => wp_if (fun _ => ?_) (fun _ => wp_if (fun _ => ?_) (fun _ => wp_some h.1))))))
    · exact wp_bn (w_x10_gather h.1 (TS_US h.2.1) rt.1) (fun q _ hq => wp_some hq.1)
    · refine wp_rg (by omega) (wp_if (fun _ => wp_some h.1) (fun c2 => ?_))
      have rl := rt.2 (by omega)
      exact wp_rdIn (by omega) (fun y17 e17 => wp_some h.1)
    · refine wp_bn (w_x10_tree h.1 (TS_US h.2.1) rt.1) (fun q _ hq => ?_)
      exact wp_bn (w_j13_bitCount_95d88 hq.1) (fun r _ _ => wp_some hq.1)
    · refine wp_bn (ts_freed h.1 h.2.1 ?_) (fun q _ hq => wp_some hq.1)
      by_cases z : y7 = -1
      · exact Or.inl z
      · have rl := rt.2 (by omega)
        exact Or.inr ⟨by omega, rl.1, rl.2⟩
  refine wp_eq key (fun q eq hq => ?_)
  have F : F_x11_volume s q.2 := fr_x11_volume eq
  exact ⟨CI_keep h hq (fun k h1 h2 => F.2.1 k (by simp; omega)) ⟨F.1 1060 (by simp), F.1 581 (by simp), F.1 12 (by simp), F.1 145 (by simp)⟩, F.1 61 (by simp)⟩
theorem c_victim {p0 : Int} {s : MS} {ts : List MS} (h : CI s ts) (h0 : R2 p0) : wp (m_x11_victim p0 s) (fun q => CI q.2 ts ∧ gI q.2 61 = gI s 61) := by
  have key : wp (m_x11_victim p0 s) (fun q => Rg q.2) := by
    have L16 : ∀ (n : Nat) (a b i : Int) (S : MS), Rg S → TS S Z0 (-1) → ((-1) ≤ b ∧ b ≤ 48) → (0 ≤ i ∧ i ≤ 8) → 8 - i < (n : Int) → wp (m_x11_victim_L16 n p0 a b i S) (fun q => Rg q.2) := by
      refine fr_ind (fun a b i S hR T hb hi hm => by exfalso; omega) (fun n ih a b i S hR T hb hi hm => ?_)
      show wp (m_x11_victim_b16 (m_x11_victim_L16 n) p0 a b i S) _
      unfold m_x11_victim_b16 m_x11_victim_J50 m_x11_victim_J66
      refine wp_rg (by omega) (wp_if (fun _ => wp_bn (w_x11_oneOf hR h0) (fun r _ _ => wp_some hR)) (fun c1 => ?_))
      refine wp_bn (w_x8_isVolume hR (by omega)) (fun r25 e25 h25 => wp_rg (by omega) (wp_if (fun c2 => ?_) (fun c2 => ?_)))
      · refine wp_rg (by omega) (wp_rg (by omega) (wp_if (fun _ => ih a b (i + 1) S hR T hb (by omega) (by omega)) (fun _ => ih i (-1) (i + 1) S hR T (by omega) (by omega) (by omega))))
      · have rt := TS_root hR T (v := i.toNat) (by omega)
        refine wp_rdIn (by omega) (fun y28 e28 => ?_)
        rw [e28] at rt h25
        refine wp_bn (ts_freed hR T (by
          by_cases z : y28 = -1
          · exact Or.inl z
          · have rl := rt.2 (by omega)
            exact Or.inr ⟨by omega, rl.1, rl.2⟩)) (fun q31 e31 h31 => ?_)
        obtain ⟨r, o⟩ := q31
        dsimp only at h31 ⊢
        obtain ⟨hRo, Fo, hr⟩ := h31
        have To : TS o Z0 (-1) := TS_eq T (Fo.2.1 54 (by decide)) (Fo.2.1 55 (by decide)) (Fo.2.1 56 (by decide)) (Fo.2.1 57 (by decide)) (Fo.2.1 58 (by decide)) (Fo.2.1 59 (by decide)) (Fo.2.1 60 (by decide)) (Fo.2.1 61 (by decide)) (Fo.1 1060 (by simp)) (Fo.1 581 (by simp))
        exact wp_rg (by omega) (wp_rg (by omega) (wp_if (fun _ => ih a b (i + 1) o hRo To hb (by omega) (by omega)) (fun _ => ih i r (i + 1) o hRo To (by omega) (by omega) (by omega))))
    exact L16 FU (-1) (-1) 0 s h.1 h.2.1 (by omega) (by omega) (by have := FU_big; omega)
  refine wp_eq key (fun q eq hq => ?_)
  have F : F_x11_victim s q.2 := fr_x11_victim eq
  exact ⟨CI_keep h hq (fun k h1 h2 => F.2.1 k (by simp; omega)) ⟨F.1 1060 (by simp), F.1 581 (by simp), F.1 12 (by simp), F.1 145 (by simp)⟩, F.1 61 (by simp)⟩
/-! ===== a store is told ===== -/
theorem LO_sw (k : Nat) (h : k < 200) : LO (580 + k) = LO (780 + k) ∧ HI (580 + k) = HI (780 + k) := by
  have : ∀ k, k < 200 → LO (580 + k) = LO (780 + k) ∧ HI (580 + k) = HI (780 + k) := by decide +kernel
  exact this k h
theorem LOA_sw (k : Nat) (h : k < 10) : (LOA (29 + k) = LOA (39 + k) ∧ HIA (29 + k) = HIA (39 + k)) ∧ LNA (29 + k) = LNA (39 + k) := by
  have : ∀ k, k < 10 → (LOA (29 + k) = LOA (39 + k) ∧ HIA (29 + k) = HIA (39 + k)) ∧ LNA (29 + k) = LNA (39 + k) := by decide +kernel
  exact this k h
theorem gI_sw (s : MS) (k : Nat) : gI (swS s) k = if 580 ≤ k ∧ k ≤ 779 then gI s (k + 200) else if 780 ≤ k ∧ k ≤ 979 then gI s (k - 200) else gI s k := rfl
theorem gA_sw (s : MS) (k : Nat) : gA (swS s) k = if 29 ≤ k ∧ k ≤ 38 then gA s (k + 10) else if 39 ≤ k ∧ k ≤ 48 then gA s (k - 10) else gA s k := rfl
theorem Rg_sw {s : MS} (h : Rg s) : Rg (swS s) := by
  refine ⟨fun k => ?_, fun k j hj => ?_, h.2.2.1, h.2.2.2⟩
  · rw [gI_sw]
    by_cases e : 580 ≤ k ∧ k ≤ 779
    · rw [if_pos e]
      have := LO_sw (k - 580) (by omega)
      rw [show 580 + (k - 580) = k by omega, show 780 + (k - 580) = k + 200 by omega] at this
      rw [this.1, this.2]; exact h.1 _
    · rw [if_neg e]
      by_cases e2 : 780 ≤ k ∧ k ≤ 979
      · rw [if_pos e2]
        have := LO_sw (k - 780) (by omega)
        rw [show 580 + (k - 780) = k - 200 by omega, show 780 + (k - 780) = k by omega] at this
        rw [← this.1, ← this.2]; exact h.1 _
      · rw [if_neg e2]; exact h.1 _
  · rw [gA_sw]
    by_cases e : 29 ≤ k ∧ k ≤ 38
    · rw [if_pos e]
      have := LOA_sw (k - 29) (by omega)
      rw [show 29 + (k - 29) = k by omega, show 39 + (k - 29) = k + 10 by omega] at this
      rw [this.2] at hj
      rw [this.1.1, this.1.2]; exact h.2.1 _ j hj
    · rw [if_neg e]
      by_cases e2 : 39 ≤ k ∧ k ≤ 48
      · rw [if_pos e2]
        have := LOA_sw (k - 39) (by omega)
        rw [show 29 + (k - 39) = k - 10 by omega, show 39 + (k - 39) = k by omega] at this
        rw [← this.2] at hj
        rw [← this.1.1, ← this.1.2]; exact h.2.1 _ j hj
      · rw [if_neg e2]; exact h.2.1 _ j hj
theorem c_store {s : MS} {ts : List MS} (h : CI s ts) : wp (m_x11_store s) (fun q => CI q.2 ts ∧ gI q.2 61 = 0) := by
  unfold m_x11_store
  refine wp_bn (w_x6_readStore h.1) (fun q3 e3 h3 => ?_)
  obtain ⟨r, s3⟩ := q3
  dsimp only at h3 ⊢
  obtain ⟨hR3, hr, hP, h99⟩ := h3
  have F3 : F_x6_readStore s s3 := fr_x6_readStore e3
  refine wp_stn (fun s4 e4 => ?_)
  have hR4 : Rg s4 := e4 ▸ Rg.uI hR3 (by show (0 : Int) ≤ 0 ∧ (0 : Int) ≤ 1600; omega)
  have kA4 : ∀ k, gA s4 k = gA s3 k := fun k => q_Ia e4
  have kI4 : ∀ k, k ≠ 61 → gI s4 k = gI s3 k := fun k hk => q_Ii e4 hk
  have g61 : gI s4 61 = 0 := q_II e4
  refine wp_rg (by omega) (wp_if (fun c1 => ?_) (fun c1 => ?_))
  · have C4 : CI s4 ts := CI_keep h hR4 (fun k h1 h2 => (kA4 k).trans (F3.2.1 k (by simp; omega))) ⟨(kI4 _ (by decide)).trans (F3.1 1060 (by decide)), (kI4 _ (by decide)).trans (F3.1 581 (by decide)), (kI4 _ (by decide)).trans (F3.1 12 (by decide)), (kI4 _ (by decide)).trans (F3.1 145 (by decide))⟩
    exact wp_bn (c_refuse C4 (by omega)) (fun q _ hq => wp_some ⟨hq.1, hq.2.1.trans g61⟩)
  · have hg : gI s3 100 = 0 ∧ gI s3 783 ≠ 0 ∧ 8 ≤ gI s3 780 ∧ 3 ≤ gI s3 781 := by omega
    have hPV := hP (by omega)
    refine wp_eqg (by rw [kI4 _ (by decide)]; exact h99) (wp_stn (fun s8 e8 => ?_))
    have hR8 : Rg s8 := e8 ▸ Rg.uI (Rg_sw hR4) (by show (0 : Int) ≤ 1 ∧ (1 : Int) ≤ 2; omega)
    have kI8 : ∀ k, k ≠ 9999 → gI s8 k = gI (swS s4) k := fun k hk => q_Ii e8 hk
    have kA8 : ∀ k, gA s8 k = gA (swS s4) k := fun k => q_Ia e8
    have a31 : ∀ k, 29 ≤ k → k ≤ 38 → gA s8 k = gA s3 (k + 10) := fun k h1 h2 => by rw [kA8, gA_sw, if_pos ⟨h1, h2⟩, kA4]
    have i58 : ∀ k, 580 ≤ k → k ≤ 779 → gI s8 k = gI s3 (k + 200) := fun k h1 h2 => by rw [kI8 k (by omega), gI_sw, if_pos ⟨h1, h2⟩, kI4 _ (by omega)]
    have i0 : ∀ k, k < 580 → k ≠ 61 → gI s8 k = gI s3 k := fun k h1 h2 => by rw [kI8 k (by omega), gI_sw, if_neg (by omega), if_neg (by omega), kI4 _ h2]
    refine wp_bn (ts_build hR8 (by rw [i58 581 (by decide) (by decide)]; exact hg.2.2.2) (by
      rw [a31 31 (by decide) (by decide), a31 32 (by decide) (by decide), a31 33 (by decide) (by decide), a31 34 (by decide) (by decide), i58 585 (by decide) (by decide), i58 584 (by decide) (by decide)]
      exact hPV)) (fun s10 e10 h10 => ?_)
    obtain ⟨T10, F10⟩ := h10
    refine wp_bn (w_x2_clear T10.1) (fun s12 e12 h12 => ?_)
    have F12 : F_x2_clear s10 s12 := fr_x2_clear e12
    refine wp_stn (fun s13 e13 => wp_stn (fun s14 e14 => ?_))
    have hR13 : Rg s13 := e13 ▸ Rg.uI h12.1 (by show (0 : Int) ≤ 0 ∧ (0 : Int) ≤ 12; omega)
    have hR14 : Rg s14 := e14 ▸ Rg.uI hR13 (by show (0 : Int) ≤ 1 ∧ (1 : Int) ≤ 1; omega)
    have kI : ∀ k, k ≠ 12 → k ≠ 220 → gI s14 k = gI s12 k := fun k h1 h2 => (q_Ii e14 h1).trans (q_Ii e13 h2)
    have kA : ∀ k, gA s14 k = gA s10 k := fun k => (q_Ia e14).trans ((q_Ia e13).trans (F12.2.1 k (by simp)))
    have k581 : gI s14 581 = gI s10 581 := (kI 581 (by decide) (by decide)).trans (F12.1 581 (by decide))
    have d0 : gI s14 145 = 0 := (kI 145 (by decide) (by decide)).trans h12.2.2
    refine wp_some ⟨⟨hR14, ?_, Or.inr ⟨q_II e14, by rw [k581]; exact T10.2.2⟩, ?_⟩, ?_⟩
    · exact TS_eq T10.2.1 (kA 54) (kA 55) (kA 56) (kA 57) (kA 58) (kA 59) (kA 60) (kA 61) ((kI 1060 (by decide) (by decide)).trans (F12.1 1060 (by decide))) k581
    · show Hs (gI s14 145) ts (gI s14 581)
      rw [d0]
      have hh := h.2.2.2
      exact ⟨⟨Int.le_refl 0, by omega, hh.1.2.2⟩, hh.2.1, fun i t _ hid => by omega⟩
    · show gI s14 61 = 0
      rw [kI 61 (by decide) (by decide), F12.1 61 (by decide), F10.1 61 (by decide), kI8 61 (by decide), gI_sw, if_neg (by omega), if_neg (by omega)]
      exact g61
/-! ===== the class, new ===== -/
theorem nf_R2 (s : MS) (k j : Nat) : R2 (gA (nfS s) k j) := ⟨Int32.le_toInt _, Int.le_of_lt_add_one (Int32.toInt_lt _)⟩
theorem CI_start (fw fb1 fe1 fb2 fe2 : Nat → Int) : CI (nfS (cw0 fw fb1 fe1 fb2 fe2)) [] := by
  have hI : ∀ k, gI (nfS (cw0 fw fb1 fe1 fb2 fe2)) k = if k = 101 then -1 else if k = 983 then 1 else 0 := fun k => rfl
  have hA : ∀ k, k ≠ 6 → k ≠ 35 → k ≠ 36 → k ≠ 45 → k ≠ 46 → ∀ j, gA (nfS (cw0 fw fb1 fe1 fb2 fe2)) k j = if k = 60 ∨ k = 61 ∨ k = 69 ∨ k = 70 ∨ k = 78 ∨ k = 79 then -2 else 0 := fun k h1 h2 h3 h4 h5 j => by
    show (i2 ((if k = 6 then fw else if k = 35 then fb1 else if k = 36 then fe1 else if k = 45 then fb2 else if k = 46 then fe2 else if k = 60 ∨ k = 61 ∨ k = 69 ∨ k = 70 ∨ k = 78 ∨ k = 79 then fun _ => (-2) else fun _ => 0) j)).toInt = _
    rw [if_neg h1, if_neg h2, if_neg h3, if_neg h4, if_neg h5]
    by_cases e : k = 60 ∨ k = 61 ∨ k = 69 ∨ k = 70 ∨ k = 78 ∨ k = 79
    · rw [if_pos e, if_pos e]; decide
    · rw [if_neg e, if_neg e]; decide
  have hR : Rg (nfS (cw0 fw fb1 fe1 fb2 fe2)) := by
    refine ⟨fun k => ?_, fun k j hj => ?_, fun k => by show R8 0; decide, fun k j => by show R8 0; decide⟩
    · rw [hI]
      by_cases e : k = 101
      · rw [if_pos e, e]; show (-2147483648 : Int) ≤ -1 ∧ (-1 : Int) ≤ 2147483647; omega
      · rw [if_neg e]
        by_cases e2 : k = 983
        · rw [if_pos e2, e2]; show (0 : Int) ≤ 1 ∧ (1 : Int) ≤ 2147483647; omega
        · rw [if_neg e2]; exact ⟨LO_0 k, HI_0 k⟩
    · by_cases e : k = 6 ∨ k = 35 ∨ k = 36 ∨ k = 45 ∨ k = 46
      · have := nf_R2 (cw0 fw fb1 fe1 fb2 fe2) k j
        have e1 : LOA k = -2147483648 ∧ HIA k = 2147483647 := by rcases e with e | e | e | e | e <;> (subst e; decide)
        rw [e1.1, e1.2]; exact this
      · rw [hA k (by omega) (by omega) (by omega) (by omega) (by omega)]
        by_cases e2 : k = 60 ∨ k = 61 ∨ k = 69 ∨ k = 70 ∨ k = 78 ∨ k = 79
        · rw [if_pos e2]
          rcases e2 with e2 | e2 | e2 | e2 | e2 | e2 <;> (subst e2; show (-2 : Int) ≤ -2 ∧ (-2 : Int) ≤ 253; omega)
        · rw [if_neg e2]; exact ⟨LOA_0 k, HIA_0 k⟩
  have z : ∀ k, (k = 54 ∨ k = 55 ∨ k = 57) → ∀ j, gA (nfS (cw0 fw fb1 fe1 fb2 fe2)) k j = 0 := fun k hk j => by rw [hA k (by omega) (by omega) (by omega) (by omega) (by omega), if_neg (by omega)]
  have m : ∀ k, (k = 60 ∨ k = 61) → ∀ j, gA (nfS (cw0 fw fb1 fe1 fb2 fe2)) k j = -2 := fun k hk j => by rw [hA k (by omega) (by omega) (by omega) (by omega) (by omega), if_pos (by omega)]
  refine ⟨hR, ?_, Or.inl ⟨rfl, rfl, fun v hv => m 60 (Or.inl rfl) v⟩, ?_⟩
  · exact TG_zero (by show (0 : Int) ≤ 48; omega) (by show (0 : Int) ≤ 0; omega) (fun p hp => ⟨z 54 (by omega) p, z 55 (by omega) p, z 57 (by omega) p⟩) (fun v hv => ⟨by rw [m 60 (by omega)]; omega, by rw [m 61 (by omega)]; omega⟩)
  · exact ⟨⟨Int.le_refl 0, Int.le_refl 0, by decide⟩, fun t ht => absurd ht (List.not_mem_nil), fun i t hi hid => by
      have : (i : Int) < 0 := hid
      omega⟩
