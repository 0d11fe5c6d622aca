/-! ===== volumes that can be read ===== -/
def VR (s : MS) : Prop := CL s (gA s 54) ∧ ∀ v : Nat, v < 8 → 0 ≤ gA s 60 v → gA s 60 v < 48 ∧ 0 < gA s 54 (gA s 60 v).toNat
theorem VR_eq {s o : MS} (h : VR s) (h54 : gA o 54 = gA s 54) (h56 : gA o 56 = gA s 56) (h57 : gA o 57 = gA s 57) (h59 : gA o 59 = gA s 59) (h60 : gA o 60 = gA s 60) (hn : gI o 1060 = gI s 1060) : VR o := by
  unfold VR CL at h ⊢
  rw [hN_eq h56 h57 h59, h54, h56, h57, h59, h60, hn]
  exact h
theorem td4 (x : Int) (h : 0 ≤ x ∧ x ≤ 1600) : (0 ≤ Int.tdiv x 4 ∧ Int.tdiv x 4 ≤ 400) ∧ 0 ≤ Int.tmod x 4 ∧ Int.tmod x 4 ≤ 3 := by
  rw [Int.tdiv_eq_ediv_of_nonneg h.1, Int.tmod_eq_emod_of_nonneg h.1]
  omega
theorem tm251 (x : Int) (h : 0 ≤ x) : 0 ≤ Int.tmod x 251 ∧ Int.tmod x 251 ≤ 250 := by
  rw [Int.tmod_eq_emod_of_nonneg h]
  omega
set_option maxHeartbeats 1000000 in
theorem w_x11_read {p0 : Int} {p1 : Int} {s : MS} (hRs : Rg s) (hp0 : VR s) (hp1 : R2 p0) (hp2 : R2 p1) : wp (m_x11_read p0 p1 s) (fun r => True) := by
  unfold m_x11_read
  refine wp_bn (w_x8_isVolume hRs (by show R2 p0; omega)) (fun r3 er3 hr3 => ?_)
  have hr3_0 := hr3
  have hr3_0 : (r3 = 1 ∧ 0 ≤ p0 ∧ p0 < 8 ∧ gA s 60 p0.toNat ≠ -2) ∨ (r3 = 0 ∧ (p0 < 0 ∨ 8 ≤ p0 ∨ gA s 60 p0.toNat = -2)) := hr3_0
  refine wp_rg (by omega) ?_
  refine wp_if (fun c1 => ?_) (fun c1 => ?_)
  · skip
    unfold m_x11_read_J41
    exact wp_some (trivial)
  · skip
    refine wp_rdIn (by omega) (fun y6 ey6 => ?_)
    have by6 : (-2 : Int) ≤ y6 ∧ y6 ≤ 253 := ey6 ▸ hRs.2.1 60 _ (by show _ < 8; omega)
    have k6 := hp0.2 p0.toNat (by omega)
    rw [ey6] at k6
    refine wp_bn (w_x8_valueAt hRs (hp0.1) (k6) (by show R2 y6; omega) (by show R2 p1; omega)) (fun r8 er8 hr8 => ?_)
    obtain ⟨hr8_0, hr8_1⟩ := hr8
    have hr8_0 : (-257) ≤ r8 ∧ r8 ≤ 65535 := hr8_0
    have hr8_1 : y6 < 0 → r8 = -1 := hr8_1
    unfold m_x11_read_J41
    exact wp_some (trivial)
set_option maxHeartbeats 1000000 in
theorem w_x7_reading {p1 : Int} {p2 : Int} {s : MS} (hRs : Rg s) (hp0 : VR s) (hp1 : 0 ≤ p1 ∧ p1 < 8) (hp2 : R2 p2) : wp (m_x7_reading p1 p2 s) (fun r => ((-257) ≤ r ∧ r ≤ 65535)) := by
  unfold m_x7_reading
  refine wp_rdIn (by omega) (fun y2 ey2 => ?_)
  have by2 : (-2 : Int) ≤ y2 ∧ y2 ≤ 253 := ey2 ▸ hRs.2.1 60 _ (by show _ < 8; omega)
  have k2 := hp0.2 p1.toNat (by omega)
  rw [ey2] at k2
  refine wp_bn (w_x8_valueAt hRs (hp0.1) (k2) (by show R2 y2; omega) (by show R2 p2; omega)) (fun r4 er4 hr4 => ?_)
  obtain ⟨hr4_0, hr4_1⟩ := hr4
  have hr4_0 : (-257) ≤ r4 ∧ r4 ≤ 65535 := hr4_0
  have hr4_1 : y2 < 0 → r4 = -1 := hr4_1
  refine wp_rg (by omega) ?_
  refine wp_if (fun c1 => ?_) (fun c1 => ?_)
  · skip
    unfold m_x7_reading_J24
    exact wp_some (by show (-257) ≤ (1000 : Int) ∧ (1000 : Int) ≤ 65535; omega)
  · skip
    unfold m_x7_reading_J24
    exact wp_some (by show (-257) ≤ r4 ∧ r4 ≤ 65535; omega)
set_option maxHeartbeats 1000000 in
theorem w_x7_agrees {p1 : Int} {s : MS} (hRs : Rg s) (hp0 : VR s) (hp1 : 0 ≤ p1 ∧ p1 < 8) : wp (m_x7_agrees p1 s) (fun r => (r = 0 ∨ r = 1)) := by
  unfold m_x7_agrees
  have L2 : ∀ (n : Nat) (x1 : Int) (x2 : Int), (x1 = p1) → (0 ≤ x2 ∧ x2 ≤ 12) → (12 - x2) < (n : Int) → wp (m_x7_agrees_L2 s n x1 x2) (fun r => (r = 0 ∨ r = 1)) := by
    refine fr_ind (fun x1 x2 hv2_0 hv2_1 hm2 => ?_) (fun n2 ih2 x1 x2 hv2_0 hv2_1 hm2 => ?_)
    · exfalso; omega
    · show wp (m_x7_agrees_b2 s (m_x7_agrees_L2 s n2) x1 x2) _
      unfold m_x7_agrees_b2
      refine wp_rg (by omega) ?_
      refine wp_rg (by have : (0 : Int) ≤ gI s 220 ∧ gI s 220 ≤ 12 := hRs.1 220; omega) ?_
      refine wp_if (fun c1 => ?_) (fun c1 => ?_)
      · skip
        exact wp_some (by show (1 : Int) = 0 ∨ (1 : Int) = 1; have : (0 : Int) ≤ gI s 220 ∧ gI s 220 ≤ 12 := hRs.1 220; omega)
      · skip
        refine wp_rdIn (by have : (0 : Int) ≤ gI s 220 ∧ gI s 220 ≤ 12 := hRs.1 220; omega) (fun y6 ey6 => ?_)
        have by6 : (-2147483648 : Int) ≤ y6 ∧ y6 ≤ 2147483647 := ey6 ▸ hRs.2.1 12 _ (by show _ < 12; have : (0 : Int) ≤ gI s 220 ∧ gI s 220 ≤ 12 := hRs.1 220; omega)
        refine wp_bn (w_x7_reading hRs (hp0) (by show 0 ≤ x1 ∧ x1 < 8; have : (0 : Int) ≤ gI s 220 ∧ gI s 220 ≤ 12 := hRs.1 220; omega) (by show R2 y6; have : (0 : Int) ≤ gI s 220 ∧ gI s 220 ≤ 12 := hRs.1 220; omega)) (fun r8 er8 hr8 => ?_)
        have hr8_0 := hr8
        have hr8_0 : (-257) ≤ r8 ∧ r8 ≤ 65535 := hr8_0
        refine wp_rdIn (by have : (0 : Int) ≤ gI s 220 ∧ gI s 220 ≤ 12 := hRs.1 220; omega) (fun y9 ey9 => ?_)
        have by9 : (-2147483648 : Int) ≤ y9 ∧ y9 ≤ 2147483647 := ey9 ▸ hRs.2.1 13 _ (by show _ < 12; have : (0 : Int) ≤ gI s 220 ∧ gI s 220 ≤ 12 := hRs.1 220; omega)
        refine wp_rg (by have : (0 : Int) ≤ gI s 220 ∧ gI s 220 ≤ 12 := hRs.1 220; omega) ?_
        refine wp_rg (by have : (0 : Int) ≤ gI s 220 ∧ gI s 220 ≤ 12 := hRs.1 220; omega) ?_
        refine wp_if (fun c2 => ?_) (fun c2 => ?_)
        · skip
          exact ih2 x1 (x2 + 1) (by show x1 = p1; have : (0 : Int) ≤ gI s 220 ∧ gI s 220 ≤ 12 := hRs.1 220; omega) (by show 0 ≤ (x2 + 1) ∧ (x2 + 1) ≤ 12; have : (0 : Int) ≤ gI s 220 ∧ gI s 220 ≤ 12 := hRs.1 220; omega) (by have : (0 : Int) ≤ gI s 220 ∧ gI s 220 ≤ 12 := hRs.1 220; omega)
        · skip
          exact wp_some (by show (0 : Int) = 0 ∨ (0 : Int) = 1; have : (0 : Int) ≤ gI s 220 ∧ gI s 220 ≤ 12 := hRs.1 220; omega)
  exact L2 FU p1 0 (by show p1 = p1; omega) (by show 0 ≤ (0 : Int) ∧ (0 : Int) ≤ 12; omega) (by have := FU_big; have := FU_big2; omega)
set_option maxHeartbeats 1000000 in
theorem w_x7_findFits {s : MS} (hRs : Rg s) (hp0 : VR s) : wp (m_x7_findFits s) (fun q => (Rg q.2) ∧ (0 ≤ q.1 ∧ q.1 ≤ 8)) := by
  unfold m_x7_findFits
  refine wp_stn (fun s18 es18 => ?_)
  have hRs18 : Rg s18 := es18 ▸ Rg.uI hRs (by show (0 : Int) ≤ (0 : Int) ∧ (0 : Int) ≤ 8; omega)
  have L7 : ∀ (n : Nat) (x1 : Int) (s2 : MS), Rg s2 → (0 ≤ x1 ∧ x1 ≤ 8) → (gI s2 224 ≤ x1) → (VR s2) → (8 - x1) < (n : Int) → wp (m_x7_findFits_L7 n x1 s2) (fun q => (Rg q.2) ∧ (0 ≤ q.1 ∧ q.1 ≤ 8)) := by
    refine fr_ind (fun x1 s2 hRs2 hv7_0 hv7_1 hv7_2 hm7 => ?_) (fun n7 ih7 x1 s2 hRs2 hv7_0 hv7_1 hv7_2 hm7 => ?_)
    · exfalso; have : (0 : Int) ≤ gI s2 224 ∧ gI s2 224 ≤ 8 := hRs2.1 224; omega
    · show wp (m_x7_findFits_b7 (m_x7_findFits_L7 n7) x1 s2) _
      unfold m_x7_findFits_b7
      refine wp_rg (by have : (0 : Int) ≤ gI s2 224 ∧ gI s2 224 ≤ 8 := hRs2.1 224; omega) ?_
      refine wp_if (fun c1 => ?_) (fun c1 => ?_)
      · skip
        exact wp_some ⟨hRs2, by show 0 ≤ (gI s2 224) ∧ (gI s2 224) ≤ 8; have : (0 : Int) ≤ gI s2 224 ∧ gI s2 224 ≤ 8 := hRs2.1 224; omega⟩
      · skip
        refine wp_bn (w_x8_isVolume hRs2 (by show R2 x1; have : (0 : Int) ≤ gI s2 224 ∧ gI s2 224 ≤ 8 := hRs2.1 224; omega)) (fun r8 er8 hr8 => ?_)
        have hr8_0 := hr8
        have hr8_0 : (r8 = 1 ∧ 0 ≤ x1 ∧ x1 < 8 ∧ gA s2 60 x1.toNat ≠ -2) ∨ (r8 = 0 ∧ (x1 < 0 ∨ 8 ≤ x1 ∨ gA s2 60 x1.toNat = -2)) := hr8_0
        refine wp_rg (by have : (0 : Int) ≤ gI s2 224 ∧ gI s2 224 ≤ 8 := hRs2.1 224; omega) ?_
        refine wp_if (fun c2 => ?_) (fun c2 => ?_)
        · skip
          unfold m_x7_findFits_J50
          exact ih7 (x1 + 1) s2 hRs2 (by show 0 ≤ (x1 + 1) ∧ (x1 + 1) ≤ 8; have : (0 : Int) ≤ gI s2 224 ∧ gI s2 224 ≤ 8 := hRs2.1 224; omega) (by show gI s2 224 ≤ (x1 + 1); have : (0 : Int) ≤ gI s2 224 ∧ gI s2 224 ≤ 8 := hRs2.1 224; omega) (hv7_2) (by have : (0 : Int) ≤ gI s2 224 ∧ gI s2 224 ≤ 8 := hRs2.1 224; omega)
        · skip
          refine wp_bn (w_x7_agrees hRs2 (hv7_2) (by show 0 ≤ x1 ∧ x1 < 8; have : (0 : Int) ≤ gI s2 224 ∧ gI s2 224 ≤ 8 := hRs2.1 224; omega)) (fun r12 er12 hr12 => ?_)
          have hr12_0 := hr12
          have hr12_0 : r12 = 0 ∨ r12 = 1 := hr12_0
          refine wp_rg (by have : (0 : Int) ≤ gI s2 224 ∧ gI s2 224 ≤ 8 := hRs2.1 224; omega) ?_
          refine wp_if (fun c3 => ?_) (fun c3 => ?_)
          · skip
            unfold m_x7_findFits_J50
            exact ih7 (x1 + 1) s2 hRs2 (by show 0 ≤ (x1 + 1) ∧ (x1 + 1) ≤ 8; have : (0 : Int) ≤ gI s2 224 ∧ gI s2 224 ≤ 8 := hRs2.1 224; omega) (by show gI s2 224 ≤ (x1 + 1); have : (0 : Int) ≤ gI s2 224 ∧ gI s2 224 ≤ 8 := hRs2.1 224; omega) (hv7_2) (by have : (0 : Int) ≤ gI s2 224 ∧ gI s2 224 ≤ 8 := hRs2.1 224; omega)
          · skip
            refine wp_inb (by have : (0 : Int) ≤ gI s2 224 ∧ gI s2 224 ≤ 8 := hRs2.1 224; omega) ?_
            refine wp_stn (fun s16 es16 => ?_)
            have hRs16 : Rg s16 := es16 ▸ Rg.uAu hRs2 (by show (0 : Int) ≤ x1 ∧ x1 ≤ 7; have : (0 : Int) ≤ gI s2 224 ∧ gI s2 224 ≤ 8 := hRs2.1 224; omega)
            refine wp_stn (fun s17 es17 => ?_)
            have hRs17 : Rg s17 := es17 ▸ Rg.uI hRs16 (by show (0 : Int) ≤ ((gI s16 224) + 1) ∧ ((gI s16 224) + 1) ≤ 8; have : (0 : Int) ≤ gI s2 224 ∧ gI s2 224 ≤ 8 := hRs2.1 224; have : gI s16 224 = gI s2 224 := q_Ai es16; omega)
            unfold m_x7_findFits_J50
            exact ih7 (x1 + 1) s17 hRs17 (by show 0 ≤ (x1 + 1) ∧ (x1 + 1) ≤ 8; have : (0 : Int) ≤ gI s2 224 ∧ gI s2 224 ≤ 8 := hRs2.1 224; omega) (by show gI s17 224 ≤ (x1 + 1); have : (0 : Int) ≤ gI s2 224 ∧ gI s2 224 ≤ 8 := hRs2.1 224; have : gI s17 224 = (gI s16 224) + 1 := q_II es17; have : gI s16 224 = gI s2 224 := q_Ai es16; omega) (VR_eq hv7_2 ((q_Ia es17 : gA s17 54 = gA s16 54).trans (q_Aa es16 (by decide) : gA s16 54 = gA s2 54)) ((q_Ia es17 : gA s17 56 = gA s16 56).trans (q_Aa es16 (by decide) : gA s16 56 = gA s2 56)) ((q_Ia es17 : gA s17 57 = gA s16 57).trans (q_Aa es16 (by decide) : gA s16 57 = gA s2 57)) ((q_Ia es17 : gA s17 59 = gA s16 59).trans (q_Aa es16 (by decide) : gA s16 59 = gA s2 59)) ((q_Ia es17 : gA s17 60 = gA s16 60).trans (q_Aa es16 (by decide) : gA s16 60 = gA s2 60)) ((q_Ii es17 (by decide) : gI s17 1060 = gI s16 1060).trans (q_Ai es16 : gI s16 1060 = gI s2 1060))) (by have : (0 : Int) ≤ gI s2 224 ∧ gI s2 224 ≤ 8 := hRs2.1 224; omega)
  exact L7 FU 0 s18 hRs18 (by show 0 ≤ (0 : Int) ∧ (0 : Int) ≤ 8; omega) (by show gI s18 224 ≤ (0 : Int); have : gI s18 224 = 0 := q_II es18; omega) (VR_eq hp0 (q_Ia es18 : gA s18 54 = gA s 54) (q_Ia es18 : gA s18 56 = gA s 56) (q_Ia es18 : gA s18 57 = gA s 57) (q_Ia es18 : gA s18 59 = gA s 59) (q_Ia es18 : gA s18 60 = gA s 60) (q_Ii es18 (by decide) : gI s18 1060 = gI s 1060)) (by have := FU_big; have := FU_big2; omega)
set_option maxHeartbeats 1000000 in
theorem w_x11_fits {p0 : Int} {s : MS} (hRs : Rg s) (hp0 : VR s) (hp1 : R2 p0) : wp (m_x11_fits p0 s) (fun q => (Rg q.2)) := by
  unfold m_x11_fits
  refine wp_bn (w_x7_findFits hRs (hp0)) (fun qqr6 eqr6s hqr6s => ?_)
  obtain ⟨qr6r, qr6s⟩ := qqr6
  dsimp only at eqr6s hqr6s ⊢
  have Fqr6s := fr_x7_findFits eqr6s
  obtain ⟨hRqr6s, hqr6s_0⟩ := hqr6s
  have hqr6s_0 : 0 ≤ qr6r ∧ qr6r ≤ 8 := hqr6s_0
  refine wp_rg (by omega) ?_
  refine wp_if (fun c1 => ?_) (fun c1 => ?_)
  · skip
    exact wp_some (hRqr6s)
  · skip
    refine wp_rg (by omega) ?_
    refine wp_if (fun c2 => ?_) (fun c2 => ?_)
    · skip
      unfold m_x11_fits_J43
      unfold m_x11_fits_J44
      exact wp_some (hRqr6s)
    · skip
      refine wp_rg (by omega) ?_
      refine wp_rg (by omega) ?_
      refine wp_if (fun c3 => ?_) (fun c3 => ?_)
      · skip
        unfold m_x11_fits_J43
        unfold m_x11_fits_J44
        exact wp_some (hRqr6s)
      · skip
        refine wp_rdIn (by omega) (fun y14 ey14 => ?_)
        have by14 : (0 : Int) ≤ y14 ∧ y14 ≤ 7 := ey14 ▸ hRqr6s.2.1 14 _ (by show _ < 8; omega)
        unfold m_x11_fits_J44
        exact wp_some (hRqr6s)
set_option maxHeartbeats 1000000 in
theorem w_x7_mostLeft {p1 : Int} {s : MS} (hRs : Rg s) (hp0 : VR s) (hp1 : R2 p1) : wp (m_x7_mostLeft p1 s) (fun q => (Rg q.2) ∧ (0 ≤ q.1 ∧ q.1 ≤ 8)) := by
  unfold m_x7_mostLeft
  have L5 : ∀ (n : Nat) (x1 : Int) (x2 : Int) (x3 : Int) (s4 : MS), Rg s4 → (x1 = p1) → (0 ≤ x2 ∧ x2 ≤ 8) → (0 ≤ x3 ∧ x3 ≤ 8) → (VR s4) → (8 - x3) < (n : Int) → wp (m_x7_mostLeft_L5 n x1 x2 x3 s4) (fun q => (Rg q.2) ∧ (0 ≤ q.1 ∧ q.1 ≤ 8)) := by
    refine fr_ind (fun x1 x2 x3 s4 hRs4 hv5_0 hv5_1 hv5_2 hv5_3 hm5 => ?_) (fun n5 ih5 x1 x2 x3 s4 hRs4 hv5_0 hv5_1 hv5_2 hv5_3 hm5 => ?_)
    · exfalso; omega
    · show wp (m_x7_mostLeft_b5 (m_x7_mostLeft_L5 n5) x1 x2 x3 s4) _
      unfold m_x7_mostLeft_b5
      refine wp_rg (by omega) ?_
      refine wp_rg (by have : (0 : Int) ≤ gI s4 224 ∧ gI s4 224 ≤ 8 := hRs4.1 224; omega) ?_
      refine wp_if (fun c1 => ?_) (fun c1 => ?_)
      · skip
        exact wp_some ⟨hRs4, by show 0 ≤ x2 ∧ x2 ≤ 8; have : (0 : Int) ≤ gI s4 224 ∧ gI s4 224 ≤ 8 := hRs4.1 224; omega⟩
      · skip
        refine wp_rdIn (by have : (0 : Int) ≤ gI s4 224 ∧ gI s4 224 ≤ 8 := hRs4.1 224; omega) (fun y31 ey31 => ?_)
        have by31 : (0 : Int) ≤ y31 ∧ y31 ≤ 7 := ey31 ▸ hRs4.2.1 14 _ (by show _ < 8; have : (0 : Int) ≤ gI s4 224 ∧ gI s4 224 ≤ 8 := hRs4.1 224; omega)
        refine wp_bn (w_x7_reading hRs4 (hv5_3) (by show 0 ≤ y31 ∧ y31 < 8; have : (0 : Int) ≤ gI s4 224 ∧ gI s4 224 ≤ 8 := hRs4.1 224; omega) (by show R2 x1; have : (0 : Int) ≤ gI s4 224 ∧ gI s4 224 ≤ 8 := hRs4.1 224; omega)) (fun r33 er33 hr33 => ?_)
        have hr33_0 := hr33
        have hr33_0 : (-257) ≤ r33 ∧ r33 ≤ 65535 := hr33_0
        refine wp_inb (by have : (0 : Int) ≤ gI s4 224 ∧ gI s4 224 ≤ 8 := hRs4.1 224; omega) ?_
        refine wp_stn (fun s35 es35 => ?_)
        have hRs35 : Rg s35 := es35 ▸ Rg.uAu hRs4 (by show (-2147483648 : Int) ≤ r33 ∧ r33 ≤ 2147483647; have : (0 : Int) ≤ gI s4 224 ∧ gI s4 224 ≤ 8 := hRs4.1 224; omega)
        have L39 : ∀ (n : Nat) (x5 : Int) (x6 : Int) (x7 : Int) (x8 : Int) (x9 : Int) (s10 : MS), Rg s10 → (x5 = p1) → (0 ≤ x6 ∧ x6 ≤ 8) → (0 ≤ x7 ∧ x7 < 8 ∧ x7 = x3) → (0 ≤ x8 ∧ x8 ≤ x9) → (0 ≤ x9 ∧ x9 ≤ x7 + 1) → (VR s10) → (9 - x9) < (n : Int) → wp (m_x7_mostLeft_L39 (m_x7_mostLeft_L5 n5) n x5 x6 x7 x8 x9 s10) (fun q => (Rg q.2) ∧ (0 ≤ q.1 ∧ q.1 ≤ 8)) := by
          refine fr_ind (fun x5 x6 x7 x8 x9 s10 hRs10 hv39_0 hv39_1 hv39_2 hv39_3 hv39_4 hv39_5 hm39 => ?_) (fun n39 ih39 x5 x6 x7 x8 x9 s10 hRs10 hv39_0 hv39_1 hv39_2 hv39_3 hv39_4 hv39_5 hm39 => ?_)
          · exfalso; omega
          · show wp (m_x7_mostLeft_b39 (m_x7_mostLeft_L5 n5) (m_x7_mostLeft_L39 (m_x7_mostLeft_L5 n5) n39) x5 x6 x7 x8 x9 s10) _
            unfold m_x7_mostLeft_b39
            refine wp_rg (by have : (0 : Int) ≤ gI s4 224 ∧ gI s4 224 ≤ 8 := hRs4.1 224; omega) ?_
            refine wp_rg (by have : (0 : Int) ≤ gI s4 224 ∧ gI s4 224 ≤ 8 := hRs4.1 224; omega) ?_
            refine wp_if (fun c2 => ?_) (fun c2 => ?_)
            · skip
              refine wp_rg (by have : (0 : Int) ≤ gI s4 224 ∧ gI s4 224 ≤ 8 := hRs4.1 224; omega) ?_
              refine wp_rg (by have : (0 : Int) ≤ gI s4 224 ∧ gI s4 224 ≤ 8 := hRs4.1 224; omega) ?_
              exact ih5 x5 (maxZ x6 x8) (x7 + 1) s10 hRs10 (by show x5 = p1; have : (0 : Int) ≤ gI s4 224 ∧ gI s4 224 ≤ 8 := hRs4.1 224; omega) (by show 0 ≤ (maxZ x6 x8) ∧ (maxZ x6 x8) ≤ 8; have : (0 : Int) ≤ gI s4 224 ∧ gI s4 224 ≤ 8 := hRs4.1 224; have mm := mx_b x6 x8; omega) (by show 0 ≤ (x7 + 1) ∧ (x7 + 1) ≤ 8; have : (0 : Int) ≤ gI s4 224 ∧ gI s4 224 ≤ 8 := hRs4.1 224; omega) (hv39_5) (by have : (0 : Int) ≤ gI s4 224 ∧ gI s4 224 ≤ 8 := hRs4.1 224; omega)
            · skip
              refine wp_rdIn (by have : (0 : Int) ≤ gI s4 224 ∧ gI s4 224 ≤ 8 := hRs4.1 224; omega) (fun y23 ey23 => ?_)
              have by23 : (-2147483648 : Int) ≤ y23 ∧ y23 ≤ 2147483647 := ey23 ▸ hRs10.2.1 15 _ (by show _ < 8; have : (0 : Int) ≤ gI s4 224 ∧ gI s4 224 ≤ 8 := hRs4.1 224; omega)
              refine wp_rdIn (by have : (0 : Int) ≤ gI s4 224 ∧ gI s4 224 ≤ 8 := hRs4.1 224; omega) (fun y24 ey24 => ?_)
              have by24 : (-2147483648 : Int) ≤ y24 ∧ y24 ≤ 2147483647 := ey24 ▸ hRs10.2.1 15 _ (by show _ < 8; have : (0 : Int) ≤ gI s4 224 ∧ gI s4 224 ≤ 8 := hRs4.1 224; omega)
              refine wp_rg (by have : (0 : Int) ≤ gI s4 224 ∧ gI s4 224 ≤ 8 := hRs4.1 224; omega) ?_
              refine wp_rg (by have : (0 : Int) ≤ gI s4 224 ∧ gI s4 224 ≤ 8 := hRs4.1 224; omega) ?_
              refine wp_if (fun c3 => ?_) (fun c3 => ?_)
              · skip
                unfold m_x7_mostLeft_J70
                exact ih39 x5 x6 x7 (x8 + 1) (x9 + 1) s10 hRs10 (by show x5 = p1; have : (0 : Int) ≤ gI s4 224 ∧ gI s4 224 ≤ 8 := hRs4.1 224; omega) (by show 0 ≤ x6 ∧ x6 ≤ 8; have : (0 : Int) ≤ gI s4 224 ∧ gI s4 224 ≤ 8 := hRs4.1 224; omega) (by show 0 ≤ x7 ∧ x7 < 8 ∧ x7 = x3; have : (0 : Int) ≤ gI s4 224 ∧ gI s4 224 ≤ 8 := hRs4.1 224; omega) (by show 0 ≤ (x8 + 1) ∧ (x8 + 1) ≤ (x9 + 1); have : (0 : Int) ≤ gI s4 224 ∧ gI s4 224 ≤ 8 := hRs4.1 224; omega) (by show 0 ≤ (x9 + 1) ∧ (x9 + 1) ≤ x7 + 1; have : (0 : Int) ≤ gI s4 224 ∧ gI s4 224 ≤ 8 := hRs4.1 224; omega) (hv39_5) (by have : (0 : Int) ≤ gI s4 224 ∧ gI s4 224 ≤ 8 := hRs4.1 224; omega)
              · skip
                unfold m_x7_mostLeft_J70
                exact ih39 x5 x6 x7 (x8 + 0) (x9 + 1) s10 hRs10 (by show x5 = p1; have : (0 : Int) ≤ gI s4 224 ∧ gI s4 224 ≤ 8 := hRs4.1 224; omega) (by show 0 ≤ x6 ∧ x6 ≤ 8; have : (0 : Int) ≤ gI s4 224 ∧ gI s4 224 ≤ 8 := hRs4.1 224; omega) (by show 0 ≤ x7 ∧ x7 < 8 ∧ x7 = x3; have : (0 : Int) ≤ gI s4 224 ∧ gI s4 224 ≤ 8 := hRs4.1 224; omega) (by show 0 ≤ (x8 + 0) ∧ (x8 + 0) ≤ (x9 + 1); have : (0 : Int) ≤ gI s4 224 ∧ gI s4 224 ≤ 8 := hRs4.1 224; omega) (by show 0 ≤ (x9 + 1) ∧ (x9 + 1) ≤ x7 + 1; have : (0 : Int) ≤ gI s4 224 ∧ gI s4 224 ≤ 8 := hRs4.1 224; omega) (hv39_5) (by have : (0 : Int) ≤ gI s4 224 ∧ gI s4 224 ≤ 8 := hRs4.1 224; omega)
        exact L39 FU x1 x2 x3 0 0 s35 hRs35 (by show x1 = p1; have : (0 : Int) ≤ gI s4 224 ∧ gI s4 224 ≤ 8 := hRs4.1 224; omega) (by show 0 ≤ x2 ∧ x2 ≤ 8; have : (0 : Int) ≤ gI s4 224 ∧ gI s4 224 ≤ 8 := hRs4.1 224; omega) (by show 0 ≤ x3 ∧ x3 < 8 ∧ x3 = x3; have : (0 : Int) ≤ gI s4 224 ∧ gI s4 224 ≤ 8 := hRs4.1 224; omega) (by show 0 ≤ (0 : Int) ∧ (0 : Int) ≤ (0 : Int); have : (0 : Int) ≤ gI s4 224 ∧ gI s4 224 ≤ 8 := hRs4.1 224; omega) (by show 0 ≤ (0 : Int) ∧ (0 : Int) ≤ x3 + 1; have : (0 : Int) ≤ gI s4 224 ∧ gI s4 224 ≤ 8 := hRs4.1 224; omega) (VR_eq hv5_3 (q_Aa es35 (by decide) : gA s35 54 = gA s4 54) (q_Aa es35 (by decide) : gA s35 56 = gA s4 56) (q_Aa es35 (by decide) : gA s35 57 = gA s4 57) (q_Aa es35 (by decide) : gA s35 59 = gA s4 59) (q_Aa es35 (by decide) : gA s35 60 = gA s4 60) (q_Ai es35 : gI s35 1060 = gI s4 1060)) (by have := FU_big; have := FU_big2; have : (0 : Int) ≤ gI s4 224 ∧ gI s4 224 ≤ 8 := hRs4.1 224; omega)
  exact L5 FU p1 0 0 s hRs (by show p1 = p1; omega) (by show 0 ≤ (0 : Int) ∧ (0 : Int) ≤ 8; omega) (by show 0 ≤ (0 : Int) ∧ (0 : Int) ≤ 8; omega) (hp0) (by have := FU_big; have := FU_big2; omega)
set_option maxHeartbeats 1000000 in
theorem w_x11_tells {p0 : Int} {s : MS} (hRs : Rg s) (hp0 : VR s) (hp1 : R2 p0) : wp (m_x11_tells p0 s) (fun q => (Rg q.2)) := by
  unfold m_x11_tells
  refine wp_bn (w_x7_findFits hRs (hp0)) (fun qqr23 eqr23s hqr23s => ?_)
  obtain ⟨qr23r, qr23s⟩ := qqr23
  dsimp only at eqr23s hqr23s ⊢
  have Fqr23s := fr_x7_findFits eqr23s
  obtain ⟨hRqr23s, hqr23s_0⟩ := hqr23s
  have hqr23s_0 : 0 ≤ qr23r ∧ qr23r ≤ 8 := hqr23s_0
  refine wp_rg (by omega) ?_
  refine wp_if (fun c1 => ?_) (fun c1 => ?_)
  · skip
    exact wp_some (hRqr23s)
  · skip
    have L27 : ∀ (n : Nat) (x1 : Int) (x2 : Int) (x3 : Int) (x4 : Int) (s5 : MS), Rg s5 → (x1 = p0) → (0 ≤ x2 ∧ x2 ≤ 100) → (0 ≤ x3 ∧ x3 ≤ 9) → (0 ≤ x4 ∧ x4 ≤ 100) → (VR s5) → (100 - x4) < (n : Int) → wp (m_x11_tells_L27 n x1 x2 x3 x4 s5) (fun q => (Rg q.2)) := by
      refine fr_ind (fun x1 x2 x3 x4 s5 hRs5 hv27_0 hv27_1 hv27_2 hv27_3 hv27_4 hm27 => ?_) (fun n27 ih27 x1 x2 x3 x4 s5 hRs5 hv27_0 hv27_1 hv27_2 hv27_3 hv27_4 hm27 => ?_)
      · exfalso; omega
      · show wp (m_x11_tells_b27 (m_x11_tells_L27 n27) x1 x2 x3 x4 s5) _
        unfold m_x11_tells_b27
        refine wp_rg (by omega) ?_
        refine wp_if (fun c2 => ?_) (fun c2 => ?_)
        · skip
          refine wp_bn (w_x11_oneOf hRs5 (by show R2 x1; omega)) (fun r14 er14 hr14 => ?_)
          exact wp_some (hRs5)
        · skip
          refine wp_bn (w_x7_mostLeft hRs5 (hv27_4) (by show R2 x4; omega)) (fun qqr17 eqr17s hqr17s => ?_)
          obtain ⟨qr17r, qr17s⟩ := qqr17
          dsimp only at eqr17s hqr17s ⊢
          have Fqr17s := fr_x7_mostLeft eqr17s
          obtain ⟨hRqr17s, hqr17s_0⟩ := hqr17s
          have hqr17s_0 : 0 ≤ qr17r ∧ qr17r ≤ 8 := hqr17s_0
          refine wp_rg (by omega) ?_
          refine wp_rg (by omega) ?_
          refine wp_if (fun c3 => ?_) (fun c3 => ?_)
          · skip
            unfold m_x11_tells_J64
            exact ih27 x1 x2 x3 (x4 + 1) qr17s hRqr17s (by show x1 = p0; omega) (by show 0 ≤ x2 ∧ x2 ≤ 100; omega) (by show 0 ≤ x3 ∧ x3 ≤ 9; omega) (by show 0 ≤ (x4 + 1) ∧ (x4 + 1) ≤ 100; omega) (VR_eq hv27_4 (Fqr17s.2.1 54 (by decide)) (Fqr17s.2.1 56 (by decide)) (Fqr17s.2.1 57 (by decide)) (Fqr17s.2.1 59 (by decide)) (Fqr17s.2.1 60 (by decide)) (Fqr17s.1 1060 (by decide))) (by omega)
          · skip
            unfold m_x11_tells_J64
            exact ih27 x1 x4 qr17r (x4 + 1) qr17s hRqr17s (by show x1 = p0; omega) (by show 0 ≤ x4 ∧ x4 ≤ 100; omega) (by show 0 ≤ qr17r ∧ qr17r ≤ 9; omega) (by show 0 ≤ (x4 + 1) ∧ (x4 + 1) ≤ 100; omega) (VR_eq hv27_4 (Fqr17s.2.1 54 (by decide)) (Fqr17s.2.1 56 (by decide)) (Fqr17s.2.1 57 (by decide)) (Fqr17s.2.1 59 (by decide)) (Fqr17s.2.1 60 (by decide)) (Fqr17s.1 1060 (by decide))) (by omega)
    exact L27 FU p0 0 9 0 qr23s hRqr23s (by show p0 = p0; omega) (by show 0 ≤ (0 : Int) ∧ (0 : Int) ≤ 100; omega) (by show 0 ≤ (9 : Int) ∧ (9 : Int) ≤ 9; omega) (by show 0 ≤ (0 : Int) ∧ (0 : Int) ≤ 100; omega) (VR_eq hp0 (Fqr23s.2.1 54 (by decide)) (Fqr23s.2.1 56 (by decide)) (Fqr23s.2.1 57 (by decide)) (Fqr23s.2.1 59 (by decide)) (Fqr23s.2.1 60 (by decide)) (Fqr23s.1 1060 (by decide))) (by have := FU_big; have := FU_big2; omega)
set_option maxHeartbeats 1000000 in
theorem w_x11_path {p0 : Int} {p1 : Int} {p2 : Int} {s : MS} (hRs : Rg s) (hp0 : VR s) (hp1 : R2 p0) (hp2 : R2 p1) (hp3 : R2 p2) : wp (m_x11_path p0 p1 p2 s) (fun r => True) := by
  unfold m_x11_path
  refine wp_bn (w_x8_isVolume hRs (by show R2 p0; omega)) (fun r11 er11 hr11 => ?_)
  have hr11_0 := hr11
  have hr11_0 : (r11 = 1 ∧ 0 ≤ p0 ∧ p0 < 8 ∧ gA s 60 p0.toNat ≠ -2) ∨ (r11 = 0 ∧ (p0 < 0 ∨ 8 ≤ p0 ∨ gA s 60 p0.toNat = -2)) := hr11_0
  refine wp_rg (by omega) ?_
  refine wp_if (fun c1 => ?_) (fun c1 => ?_)
  · skip
    unfold m_x11_path_J29
    exact wp_some (trivial)
  · skip
    refine wp_bn (w_x11_isKey hRs (by show R2 p1; omega)) (fun r15 er15 hr15 => ?_)
    have hr15_0 := hr15
    have hr15_0 : (r15 = 1 ∧ 0 ≤ p1 ∧ p1 ≤ 999) ∨ (r15 = 0 ∧ (p1 < 0 ∨ 999 < p1)) := hr15_0
    refine wp_rg (by omega) ?_
    refine wp_if (fun c2 => ?_) (fun c2 => ?_)
    · skip
      unfold m_x11_path_J29
      exact wp_some (trivial)
    · skip
      refine wp_rg (by omega) ?_
      refine wp_if (fun c3 => ?_) (fun c3 => ?_)
      · skip
        refine wp_rdIn (by omega) (fun y20 ey20 => ?_)
        have by20 : (-2 : Int) ≤ y20 ∧ y20 ≤ 253 := ey20 ▸ hRs.2.1 60 _ (by show _ < 8; omega)
        have k20 := hp0.2 p0.toNat (by omega)
        rw [ey20] at k20
        refine wp_rg (by omega) ?_
        refine wp_if (fun c4 => ?_) (fun c4 => ?_)
        · skip
          unfold m_x11_path_J58
          exact wp_some (trivial)
        · skip
          have k21 := k20 (by omega)
          refine wp_rdIn (by omega) (fun y23 ey23 => ?_)
          have by23 : (-1 : Int) ≤ y23 ∧ y23 ≤ 1000 := ey23 ▸ hRs.2.1 56 _ (by show _ < 48; omega)
          refine wp_rg (by omega) ?_
          refine wp_rg (by omega) ?_
          refine wp_if (fun c5 => ?_) (fun c5 => ?_)
          · skip
            have L63 : ∀ (n : Nat) (x1 : Int) (x2 : Int) (x3 : Int) (x4 : Int), (x1 = p1 ∧ x2 = p2) → (0 ≤ x3 ∧ x3 < 48 ∧ 0 < gA s 54 x3.toNat) → (gA s 56 x3.toNat + x4 = y23) → (0 ≤ x4 ∧ x4 ≤ p2) → (p2 - x4) < (n : Int) → wp (m_x11_path_L63 s n x1 x2 x3 x4) (fun r => True) := by
              refine fr_ind (fun x1 x2 x3 x4 hv63_0 hv63_1 hv63_2 hv63_3 hm63 => ?_) (fun n63 ih63 x1 x2 x3 x4 hv63_0 hv63_1 hv63_2 hv63_3 hm63 => ?_)
              · exfalso; omega
              · show wp (m_x11_path_b63 s (m_x11_path_L63 s n63) x1 x2 x3 x4) _
                unfold m_x11_path_b63
                have cl := hp0.1 x3.toNat (by omega) hv63_1.2.2
                have cz : 0 ≤ gA s 57 x3.toNat ∧ gA s 57 x3.toNat ≤ 6 := cl.1.2.1
                have cz1 := cl.2.1
                refine wp_rg (by omega) ?_
                refine wp_rg (by omega) ?_
                refine wp_if (fun c6 => ?_) (fun c6 => ?_)
                · skip
                  exact wp_some (trivial)
                · skip
                  refine wp_bn (w_x8_below hRs (by show 0 ≤ x3 ∧ x3 < 48; omega) (by show 1 ≤ gA s 57 x3.toNat ∧ gA s 57 x3.toNat ≤ 6; omega) (by show R2 x1; omega)) (fun r9 er9 hr9 => ?_)
                  have hr9_0 := hr9
                  have hr9_0 : ∃ k : Nat, (k : Int) < gA s 57 x3.toNat ∧ r9 = gA s 59 (6 * x3.toNat + k) := hr9_0
                  obtain ⟨kk, hk1, hk2⟩ := hr9_0
                  have kd := cl.1.2.2 (by show 0 < gA s 56 x3.toNat; omega) kk hk1
                  have kv : (hN s).2.2 x3.toNat kk = r9 := hk2.symm
                  rw [kv] at kd
                  have kl : gA s 56 r9.toNat = gA s 56 x3.toNat - 1 := kd.2
                  have kb := kd.1
                  have kc := cl.2.2 (by omega) kk hk1
                  rw [← hk2] at kc
                  have k48 : (0 : Int) ≤ gI s 1060 ∧ gI s 1060 ≤ 48 := hRs.1 1060
                  exact ih63 x1 x2 r9 (x4 + 1) (by show x1 = p1 ∧ x2 = p2; omega) (by show 0 ≤ r9 ∧ r9 < 48 ∧ 0 < gA s 54 r9.toNat; omega) (by show gA s 56 r9.toNat + (x4 + 1) = y23; omega) (by show 0 ≤ (x4 + 1) ∧ (x4 + 1) ≤ p2; omega) (by omega)
            exact L63 FU p1 p2 y20 0 (by show p1 = p1 ∧ p2 = p2; omega) (by show 0 ≤ y20 ∧ y20 < 48 ∧ 0 < gA s 54 y20.toNat; omega) (by show gA s 56 y20.toNat + (0 : Int) = y23; omega) (by show 0 ≤ (0 : Int) ∧ (0 : Int) ≤ p2; omega) (by have := FU_big; have := FU_big2; have := FU_big2; omega)
          · skip
            unfold m_x11_path_J58
            exact wp_some (trivial)
      · skip
        unfold m_x11_path_J29
        exact wp_some (trivial)
set_option maxHeartbeats 1000000 in
theorem w_x9_pair {p0 : Int} {s : MS} (hRs : Rg s) (hp0 : (-1) ≤ p0 ∧ p0 ≤ 100000) : wp (m_x9_pair p0 s) (fun r => ((-257) ≤ r ∧ r ≤ 65535)) := by
  unfold m_x9_pair
  refine wp_bn (w_x9_at hRs (by show R2 p0; omega)) (fun r2 er2 hr2 => ?_)
  obtain ⟨hr2_0, hr2_1⟩ := hr2
  have hr2_0 : (-1) ≤ r2 ∧ r2 ≤ 255 := hr2_0
  have hr2_1 : r2 ≠ -1 → 0 ≤ p0 ∧ p0 < gI s 61 := hr2_1
  refine wp_bn (w_x9_at hRs (by show R2 (p0 + 1); have : (0 : Int) ≤ gI s 61 ∧ gI s 61 ≤ 1600 := hRs.1 61; omega)) (fun r4 er4 hr4 => ?_)
  obtain ⟨hr4_0, hr4_1⟩ := hr4
  have hr4_0 : (-1) ≤ r4 ∧ r4 ≤ 255 := hr4_0
  have hr4_1 : r4 ≠ -1 → 0 ≤ (p0 + 1) ∧ (p0 + 1) < gI s 61 := hr4_1
  exact wp_some (by show (-257) ≤ ((r2 * 256) + r4) ∧ ((r2 * 256) + r4) ≤ 65535; have : (0 : Int) ≤ gI s 61 ∧ gI s 61 ≤ 1600 := hRs.1 61; omega)
set_option maxHeartbeats 1000000 in
theorem w_x7_take {s : MS} (hRs : Rg s) : wp (m_x7_take s) (fun q => (Rg q.2) ∧ (q.1 = 0 ∨ q.1 = 1)) := by
  have t4 := td4 (gI s 61) (hRs.1 61)
  unfold m_x7_take
  refine wp_dv (by have : (0 : Int) ≤ gI s 61 ∧ gI s 61 ≤ 1600 := hRs.1 61; omega) ?_
  refine wp_dv (by have : (0 : Int) ≤ gI s 61 ∧ gI s 61 ≤ 1600 := hRs.1 61; omega) ?_
  refine wp_rg (by have : (0 : Int) ≤ gI s 61 ∧ gI s 61 ≤ 1600 := hRs.1 61; omega) ?_
  refine wp_if (fun c1 => ?_) (fun c1 => ?_)
  · skip
    refine wp_rg (by have : (0 : Int) ≤ gI s 61 ∧ gI s 61 ≤ 1600 := hRs.1 61; omega) ?_
    refine wp_if (fun c2 => ?_) (fun c2 => ?_)
    · skip
      unfold m_x7_take_J27
      exact wp_some ⟨hRs, by show (0 : Int) = 0 ∨ (0 : Int) = 1; have : (0 : Int) ≤ gI s 61 ∧ gI s 61 ≤ 1600 := hRs.1 61; omega⟩
    · skip
      refine wp_rg (by have : (0 : Int) ≤ gI s 61 ∧ gI s 61 ≤ 1600 := hRs.1 61; omega) ?_
      refine wp_if (fun c3 => ?_) (fun c3 => ?_)
      · skip
        have L31 : ∀ (n : Nat) (x17 : Int) (x18 : Int) (s19 : MS), Rg s19 → (x17 = Int.tdiv (gI s 61) 4) → (1 ≤ x17 ∧ x17 ≤ 12) → (0 ≤ x18 ∧ x18 ≤ 12) → (12 - x18) < (n : Int) → wp (m_x7_take_L31 n x17 x18 s19) (fun q => (Rg q.2) ∧ (q.1 = 0 ∨ q.1 = 1)) := by
          refine fr_ind (fun x17 x18 s19 hRs19 hv31_0 hv31_1 hv31_2 hm31 => ?_) (fun n31 ih31 x17 x18 s19 hRs19 hv31_0 hv31_1 hv31_2 hm31 => ?_)
          · exfalso; have : (0 : Int) ≤ gI s 61 ∧ gI s 61 ≤ 1600 := hRs.1 61; omega
          · show wp (m_x7_take_b31 (m_x7_take_L31 n31) x17 x18 s19) _
            unfold m_x7_take_b31
            refine wp_rg (by have : (0 : Int) ≤ gI s 61 ∧ gI s 61 ≤ 1600 := hRs.1 61; omega) ?_
            refine wp_rg (by have : (0 : Int) ≤ gI s 61 ∧ gI s 61 ≤ 1600 := hRs.1 61; omega) ?_
            refine wp_if (fun c4 => ?_) (fun c4 => ?_)
            · skip
              have L74 : ∀ (n : Nat) (x1 : Int) (x2 : Int) (s3 : MS), Rg s3 → (x1 = Int.tdiv (gI s 61) 4) → (1 ≤ x1 ∧ x1 ≤ 12) → (0 ≤ x2 ∧ x2 ≤ 12) → (12 - x2) < (n : Int) → wp (m_x7_take_L74 n x1 x2 s3) (fun q => (Rg q.2) ∧ (q.1 = 0 ∨ q.1 = 1)) := by
                refine fr_ind (fun x1 x2 s3 hRs3 hv74_0 hv74_1 hv74_2 hm74 => ?_) (fun n74 ih74 x1 x2 s3 hRs3 hv74_0 hv74_1 hv74_2 hm74 => ?_)
                · exfalso; have : (0 : Int) ≤ gI s 61 ∧ gI s 61 ≤ 1600 := hRs.1 61; omega
                · show wp (m_x7_take_b74 (m_x7_take_L74 n74) x1 x2 s3) _
                  unfold m_x7_take_b74
                  refine wp_rg (by have : (0 : Int) ≤ gI s 61 ∧ gI s 61 ≤ 1600 := hRs.1 61; omega) ?_
                  refine wp_rg (by have : (0 : Int) ≤ gI s 61 ∧ gI s 61 ≤ 1600 := hRs.1 61; omega) ?_
                  refine wp_if (fun c5 => ?_) (fun c5 => ?_)
                  · skip
                    refine wp_stn (fun s7 es7 => ?_)
                    have hRs7 : Rg s7 := es7 ▸ Rg.uI hRs3 (by show (0 : Int) ≤ x1 ∧ x1 ≤ 12; have : (0 : Int) ≤ gI s 61 ∧ gI s 61 ≤ 1600 := hRs.1 61; omega)
                    exact wp_some ⟨hRs7, by show (1 : Int) = 0 ∨ (1 : Int) = 1; have : (0 : Int) ≤ gI s 61 ∧ gI s 61 ≤ 1600 := hRs.1 61; omega⟩
                  · skip
                    refine wp_bn (w_x9_pair hRs3 (by show (-1) ≤ (x2 * 4) ∧ (x2 * 4) ≤ 100000; have : (0 : Int) ≤ gI s 61 ∧ gI s 61 ≤ 1600 := hRs.1 61; omega)) (fun r9 er9 hr9 => ?_)
                    have hr9_0 := hr9
                    have hr9_0 : (-257) ≤ r9 ∧ r9 ≤ 65535 := hr9_0
                    refine wp_inb (by have : (0 : Int) ≤ gI s 61 ∧ gI s 61 ≤ 1600 := hRs.1 61; omega) ?_
                    refine wp_stn (fun s11 es11 => ?_)
                    have hRs11 : Rg s11 := es11 ▸ Rg.uAu hRs3 (by show (-2147483648 : Int) ≤ r9 ∧ r9 ≤ 2147483647; have : (0 : Int) ≤ gI s 61 ∧ gI s 61 ≤ 1600 := hRs.1 61; omega)
                    refine wp_bn (w_x9_pair hRs11 (by show (-1) ≤ ((x2 * 4) + 2) ∧ ((x2 * 4) + 2) ≤ 100000; have : (0 : Int) ≤ gI s 61 ∧ gI s 61 ≤ 1600 := hRs.1 61; omega)) (fun r13 er13 hr13 => ?_)
                    have hr13_0 := hr13
                    have hr13_0 : (-257) ≤ r13 ∧ r13 ≤ 65535 := hr13_0
                    refine wp_inb (by have : (0 : Int) ≤ gI s 61 ∧ gI s 61 ≤ 1600 := hRs.1 61; omega) ?_
                    refine wp_stn (fun s15 es15 => ?_)
                    have hRs15 : Rg s15 := es15 ▸ Rg.uAu hRs11 (by show (-2147483648 : Int) ≤ r13 ∧ r13 ≤ 2147483647; have : (0 : Int) ≤ gI s 61 ∧ gI s 61 ≤ 1600 := hRs.1 61; omega)
                    exact ih74 x1 (x2 + 1) s15 hRs15 (by show x1 = Int.tdiv (gI s 61) 4; have : (0 : Int) ≤ gI s 61 ∧ gI s 61 ≤ 1600 := hRs.1 61; omega) (by show 1 ≤ x1 ∧ x1 ≤ 12; have : (0 : Int) ≤ gI s 61 ∧ gI s 61 ≤ 1600 := hRs.1 61; omega) (by show 0 ≤ (x2 + 1) ∧ (x2 + 1) ≤ 12; have : (0 : Int) ≤ gI s 61 ∧ gI s 61 ≤ 1600 := hRs.1 61; omega) (by have : (0 : Int) ≤ gI s 61 ∧ gI s 61 ≤ 1600 := hRs.1 61; omega)
              exact L74 FU x17 0 s19 hRs19 (by show x17 = Int.tdiv (gI s 61) 4; have : (0 : Int) ≤ gI s 61 ∧ gI s 61 ≤ 1600 := hRs.1 61; omega) (by show 1 ≤ x17 ∧ x17 ≤ 12; have : (0 : Int) ≤ gI s 61 ∧ gI s 61 ≤ 1600 := hRs.1 61; omega) (by show 0 ≤ (0 : Int) ∧ (0 : Int) ≤ 12; have : (0 : Int) ≤ gI s 61 ∧ gI s 61 ≤ 1600 := hRs.1 61; omega) (by have := FU_big; have := FU_big2; have : (0 : Int) ≤ gI s 61 ∧ gI s 61 ≤ 1600 := hRs.1 61; omega)
            · skip
              refine wp_bn (w_x9_pair hRs19 (by show (-1) ≤ (x18 * 4) ∧ (x18 * 4) ≤ 100000; have : (0 : Int) ≤ gI s 61 ∧ gI s 61 ≤ 1600 := hRs.1 61; omega)) (fun r24 er24 hr24 => ?_)
              have hr24_0 := hr24
              have hr24_0 : (-257) ≤ r24 ∧ r24 ≤ 65535 := hr24_0
              refine wp_rg (by have : (0 : Int) ≤ gI s 61 ∧ gI s 61 ≤ 1600 := hRs.1 61; omega) ?_
              refine wp_if (fun c6 => ?_) (fun c6 => ?_)
              · skip
                unfold m_x7_take_J64
                exact wp_some ⟨hRs19, by show (0 : Int) = 0 ∨ (0 : Int) = 1; have : (0 : Int) ≤ gI s 61 ∧ gI s 61 ≤ 1600 := hRs.1 61; omega⟩
              · skip
                refine wp_bn (w_x9_pair hRs19 (by show (-1) ≤ ((x18 * 4) + 2) ∧ ((x18 * 4) + 2) ≤ 100000; have : (0 : Int) ≤ gI s 61 ∧ gI s 61 ≤ 1600 := hRs.1 61; omega)) (fun r28 er28 hr28 => ?_)
                have hr28_0 := hr28
                have hr28_0 : (-257) ≤ r28 ∧ r28 ≤ 65535 := hr28_0
                refine wp_rg (by have : (0 : Int) ≤ gI s 61 ∧ gI s 61 ≤ 1600 := hRs.1 61; omega) ?_
                refine wp_if (fun c7 => ?_) (fun c7 => ?_)
                · skip
                  exact ih31 x17 (x18 + 1) s19 hRs19 (by show x17 = Int.tdiv (gI s 61) 4; have : (0 : Int) ≤ gI s 61 ∧ gI s 61 ≤ 1600 := hRs.1 61; omega) (by show 1 ≤ x17 ∧ x17 ≤ 12; have : (0 : Int) ≤ gI s 61 ∧ gI s 61 ≤ 1600 := hRs.1 61; omega) (by show 0 ≤ (x18 + 1) ∧ (x18 + 1) ≤ 12; have : (0 : Int) ≤ gI s 61 ∧ gI s 61 ≤ 1600 := hRs.1 61; omega) (by have : (0 : Int) ≤ gI s 61 ∧ gI s 61 ≤ 1600 := hRs.1 61; omega)
                · skip
                  unfold m_x7_take_J64
                  exact wp_some ⟨hRs19, by show (0 : Int) = 0 ∨ (0 : Int) = 1; have : (0 : Int) ≤ gI s 61 ∧ gI s 61 ≤ 1600 := hRs.1 61; omega⟩
        exact L31 FU (Int.tdiv (gI s 61) 4) 0 s hRs (by show (Int.tdiv (gI s 61) 4) = Int.tdiv (gI s 61) 4; have : (0 : Int) ≤ gI s 61 ∧ gI s 61 ≤ 1600 := hRs.1 61; omega) (by show 1 ≤ (Int.tdiv (gI s 61) 4) ∧ (Int.tdiv (gI s 61) 4) ≤ 12; have : (0 : Int) ≤ gI s 61 ∧ gI s 61 ≤ 1600 := hRs.1 61; omega) (by show 0 ≤ (0 : Int) ∧ (0 : Int) ≤ 12; have : (0 : Int) ≤ gI s 61 ∧ gI s 61 ≤ 1600 := hRs.1 61; omega) (by have := FU_big; have := FU_big2; have : (0 : Int) ≤ gI s 61 ∧ gI s 61 ≤ 1600 := hRs.1 61; omega)
      · skip
        unfold m_x7_take_J27
        exact wp_some ⟨hRs, by show (0 : Int) = 0 ∨ (0 : Int) = 1; have : (0 : Int) ≤ gI s 61 ∧ gI s 61 ≤ 1600 := hRs.1 61; omega⟩
  · skip
    unfold m_x7_take_J27
    exact wp_some ⟨hRs, by show (0 : Int) = 0 ∨ (0 : Int) = 1; have : (0 : Int) ≤ gI s 61 ∧ gI s 61 ≤ 1600 := hRs.1 61; omega⟩
set_option maxHeartbeats 1000000 in
theorem w_x11_see {s : MS} (hRs : Rg s) : wp (m_x11_see s) (fun q => (Rg q.2) ∧ (gI q.2 61 = 0)) := by
  unfold m_x11_see
  refine wp_bn (w_x7_take hRs) (fun qqr5 eqr5s hqr5s => ?_)
  obtain ⟨qr5r, qr5s⟩ := qqr5
  dsimp only at eqr5s hqr5s ⊢
  have Fqr5s := fr_x7_take eqr5s
  obtain ⟨hRqr5s, hqr5s_0⟩ := hqr5s
  have hqr5s_0 : qr5r = 0 ∨ qr5r = 1 := hqr5s_0
  refine wp_stn (fun s6 es6 => ?_)
  have hRs6 : Rg s6 := es6 ▸ Rg.uI hRqr5s (by show (0 : Int) ≤ (0 : Int) ∧ (0 : Int) ≤ 1600; omega)
  refine wp_rg (by omega) ?_
  refine wp_if (fun c1 => ?_) (fun c1 => ?_)
  · skip
    refine wp_bn (w_x11_refuse hRs6 (by show 0 ≤ (1 : Int) ∧ (1 : Int) < 6; omega)) (fun qqr11 eqr11s hqr11s => ?_)
    obtain ⟨qr11r, qr11s⟩ := qqr11
    dsimp only at eqr11s hqr11s ⊢
    have Fqr11s := fr_x11_refuse eqr11s
    obtain ⟨hRqr11s, hqr11s_0⟩ := hqr11s
    have hqr11s_0 : qr11r = -1 := hqr11s_0
    unfold m_x11_see_J39
    exact wp_some ⟨hRqr11s, by show gI qr11s 61 = 0; have : gI qr11s 61 = gI s6 61 := Fqr11s.1 61 (by decide); have : gI s6 61 = 0 := q_II es6; omega⟩
  · skip
    unfold m_x11_see_J39
    exact wp_some ⟨hRs6, by show gI s6 61 = 0; have : gI s6 61 = 0 := q_II es6; omega⟩
set_option maxHeartbeats 1000000 in
theorem w_x1_valueFor {p0 : Int} {s : MS} (hRs : Rg s) (hp0 : 0 ≤ p0 ∧ p0 < 48) : wp (m_x1_valueFor p0 s) (fun q => (Rg q.2) ∧ ((-1000000) ≤ q.1 ∧ q.1 ≤ 1000001)) := by
  unfold m_x1_valueFor
  refine wp_stn (fun s10 es10 => ?_)
  have hRs10 : Rg s10 := es10 ▸ Rg.uI hRs (by show (-1000000 : Int) ≤ p0 ∧ p0 ≤ 1000000; omega)
  refine wp_bn (w_x8_levelOf hRs10 (by show R2 p0; omega)) (fun r12 er12 hr12 => ?_)
  obtain ⟨hr12_0, hr12_1⟩ := hr12
  have hr12_0 : r12 = 0 ∨ (r12 = gA s10 56 p0.toNat ∧ 0 ≤ p0 ∧ p0 < gI s10 1060 ∧ (0 < gA s10 54 p0.toNat ∨ 0 < gA s10 55 p0.toNat)) := hr12_0
  have hr12_1 : (-1) ≤ r12 ∧ r12 ≤ 1000 := hr12_1
  refine wp_stn (fun s13 es13 => ?_)
  have hRs13 : Rg s13 := es13 ▸ Rg.uI hRs10 (by show (-1000000 : Int) ≤ r12 ∧ r12 ≤ 1000000; have : gI s10 1060 = gI s 1060 := q_Ii es10 (by decide); have : (0 : Int) ≤ gI s 1060 ∧ gI s 1060 ≤ 48 := hRs.1 1060; omega)
  refine wp_bn (w_x8_sizeOf hRs13 (by show R2 p0; have : gI s10 1060 = gI s 1060 := q_Ii es10 (by decide); have : (0 : Int) ≤ gI s 1060 ∧ gI s 1060 ≤ 48 := hRs.1 1060; omega)) (fun r15 er15 hr15 => ?_)
  obtain ⟨hr15_0, hr15_1⟩ := hr15
  have hr15_0 : r15 = 0 ∨ (r15 = gA s13 57 p0.toNat ∧ 0 ≤ p0 ∧ p0 < gI s13 1060 ∧ (0 < gA s13 54 p0.toNat ∨ 0 < gA s13 55 p0.toNat)) := hr15_0
  have hr15_1 : (-1) ≤ r15 ∧ r15 ≤ 255 := hr15_1
  refine wp_stn (fun s16 es16 => ?_)
  have hRs16 : Rg s16 := es16 ▸ Rg.uI hRs13 (by show (-1000000 : Int) ≤ r15 ∧ r15 ≤ 1000000; have : gI s13 1060 = gI s10 1060 := q_Ii es13 (by decide); have : gI s10 1060 = gI s 1060 := q_Ii es10 (by decide); have : (0 : Int) ≤ gI s 1060 ∧ gI s 1060 ≤ 48 := hRs.1 1060; omega)
  refine wp_rdIn (by have : gI s13 1060 = gI s10 1060 := q_Ii es13 (by decide); have : gI s10 1060 = gI s 1060 := q_Ii es10 (by decide); have : (0 : Int) ≤ gI s 1060 ∧ gI s 1060 ≤ 48 := hRs.1 1060; omega) (fun y17 ey17 => ?_)
  have by17 : (-1 : Int) ≤ y17 ∧ y17 ≤ 100000 := ey17 ▸ hRs16.2.1 54 _ (by show _ < 48; have : gI s13 1060 = gI s10 1060 := q_Ii es13 (by decide); have : gI s10 1060 = gI s 1060 := q_Ii es10 (by decide); have : (0 : Int) ≤ gI s 1060 ∧ gI s 1060 ≤ 48 := hRs.1 1060; omega)
  refine wp_stn (fun s18 es18 => ?_)
  have hRs18 : Rg s18 := es18 ▸ Rg.uI hRs16 (by show (-1000000 : Int) ≤ y17 ∧ y17 ≤ 1000000; have : gI s13 1060 = gI s10 1060 := q_Ii es13 (by decide); have : gI s10 1060 = gI s 1060 := q_Ii es10 (by decide); have : (0 : Int) ≤ gI s 1060 ∧ gI s 1060 ≤ 48 := hRs.1 1060; omega)
  refine wp_bn (w_x8_isFresh hRs18 (by show R2 p0; have : gI s13 1060 = gI s10 1060 := q_Ii es13 (by decide); have : gI s10 1060 = gI s 1060 := q_Ii es10 (by decide); have : (0 : Int) ≤ gI s 1060 ∧ gI s 1060 ≤ 48 := hRs.1 1060; omega)) (fun r20 er20 hr20 => ?_)
  have hr20_0 := hr20
  have hr20_0 : (r20 = 1 ∧ 0 ≤ p0 ∧ p0 < gI s18 1060 ∧ 0 < gA s18 54 p0.toNat ∧ gA s18 55 p0.toNat = 0) ∨ (r20 = 0 ∧ (p0 < 0 ∨ gI s18 1060 ≤ p0 ∨ ¬ (0 < gA s18 54 p0.toNat ∧ gA s18 55 p0.toNat = 0))) := hr20_0
  refine wp_rg (by have : gI s18 1060 = gI s16 1060 := q_Ii es18 (by decide); have : gI s16 1060 = gI s13 1060 := q_Ii es16 (by decide); have : gI s13 1060 = gI s10 1060 := q_Ii es13 (by decide); have : gI s10 1060 = gI s 1060 := q_Ii es10 (by decide); have : (0 : Int) ≤ gI s 1060 ∧ gI s 1060 ≤ 48 := hRs.1 1060; omega) ?_
  refine wp_if (fun c1 => ?_) (fun c1 => ?_)
  · skip
    unfold m_x1_valueFor_J74
    refine wp_stn (fun s4 es4 => ?_)
    have hRs4 : Rg s4 := es4 ▸ Rg.uI hRs18 (by show (-1000000 : Int) ≤ (0 : Int) ∧ (0 : Int) ≤ 1000000; have : gI s18 1060 = gI s16 1060 := q_Ii es18 (by decide); have : gI s16 1060 = gI s13 1060 := q_Ii es16 (by decide); have : gI s13 1060 = gI s10 1060 := q_Ii es13 (by decide); have : gI s10 1060 = gI s 1060 := q_Ii es10 (by decide); have : (0 : Int) ≤ gI s 1060 ∧ gI s 1060 ≤ 48 := hRs.1 1060; omega)
    refine wp_rdIn (by have : gI s18 1060 = gI s16 1060 := q_Ii es18 (by decide); have : gI s16 1060 = gI s13 1060 := q_Ii es16 (by decide); have : gI s13 1060 = gI s10 1060 := q_Ii es13 (by decide); have : gI s10 1060 = gI s 1060 := q_Ii es10 (by decide); have : (0 : Int) ≤ gI s 1060 ∧ gI s 1060 ≤ 48 := hRs.1 1060; omega) (fun y5 ey5 => ?_)
    have by5 : (-1 : Int) ≤ y5 ∧ y5 ≤ 100000 := ey5 ▸ hRs4.2.1 55 _ (by show _ < 48; have : gI s18 1060 = gI s16 1060 := q_Ii es18 (by decide); have : gI s16 1060 = gI s13 1060 := q_Ii es16 (by decide); have : gI s13 1060 = gI s10 1060 := q_Ii es13 (by decide); have : gI s10 1060 = gI s 1060 := q_Ii es10 (by decide); have : (0 : Int) ≤ gI s 1060 ∧ gI s 1060 ≤ 48 := hRs.1 1060; omega)
    refine wp_stn (fun s6 es6 => ?_)
    have hRs6 : Rg s6 := es6 ▸ Rg.uI hRs4 (by show (-1000000 : Int) ≤ y5 ∧ y5 ≤ 1000000; have : gI s18 1060 = gI s16 1060 := q_Ii es18 (by decide); have : gI s16 1060 = gI s13 1060 := q_Ii es16 (by decide); have : gI s13 1060 = gI s10 1060 := q_Ii es13 (by decide); have : gI s10 1060 = gI s 1060 := q_Ii es10 (by decide); have : (0 : Int) ≤ gI s 1060 ∧ gI s 1060 ≤ 48 := hRs.1 1060; omega)
    refine wp_bn (w_x3_value_v2 hRs6 (by show R2 (0 : Int); have : gI s18 1060 = gI s16 1060 := q_Ii es18 (by decide); have : gI s16 1060 = gI s13 1060 := q_Ii es16 (by decide); have : gI s13 1060 = gI s10 1060 := q_Ii es13 (by decide); have : gI s10 1060 = gI s 1060 := q_Ii es10 (by decide); have : (0 : Int) ≤ gI s 1060 ∧ gI s 1060 ≤ 48 := hRs.1 1060; omega) (by show R2 (gI s6 941); have : gI s18 1060 = gI s16 1060 := q_Ii es18 (by decide); have : gI s16 1060 = gI s13 1060 := q_Ii es16 (by decide); have : gI s13 1060 = gI s10 1060 := q_Ii es13 (by decide); have : gI s10 1060 = gI s 1060 := q_Ii es10 (by decide); have : (0 : Int) ≤ gI s 1060 ∧ gI s 1060 ≤ 48 := hRs.1 1060; have : gI s6 941 = gI s4 941 := q_Ii es6 (by decide); have : gI s4 941 = gI s18 941 := q_Ii es4 (by decide); have : gI s18 941 = gI s16 941 := q_Ii es18 (by decide); have : gI s16 941 = gI s13 941 := q_Ii es16 (by decide); have : gI s13 941 = gI s10 941 := q_Ii es13 (by decide); have : gI s10 941 = gI s 941 := q_Ii es10 (by decide); have : (0 : Int) ≤ gI s 941 ∧ gI s 941 ≤ 1600 := hRs.1 941; omega)) (fun qqr9 eqr9s hqr9s => ?_)
    obtain ⟨qr9r, qr9s⟩ := qqr9
    dsimp only at eqr9s hqr9s ⊢
    have Fqr9s := fr_x3_value_v2 eqr9s
    obtain ⟨hRqr9s, hqr9s_0⟩ := hqr9s
    have hqr9s_0 : (-1000000) ≤ qr9r ∧ qr9r ≤ 1000001 := hqr9s_0
    exact wp_some ⟨hRqr9s, by show (-1000000) ≤ qr9r ∧ qr9r ≤ 1000001; have : gI s18 1060 = gI s16 1060 := q_Ii es18 (by decide); have : gI s16 1060 = gI s13 1060 := q_Ii es16 (by decide); have : gI s13 1060 = gI s10 1060 := q_Ii es13 (by decide); have : gI s10 1060 = gI s 1060 := q_Ii es10 (by decide); have : (0 : Int) ≤ gI s 1060 ∧ gI s 1060 ≤ 48 := hRs.1 1060; omega⟩
  · skip
    unfold m_x1_valueFor_J74
    refine wp_stn (fun s4 es4 => ?_)
    have hRs4 : Rg s4 := es4 ▸ Rg.uI hRs18 (by show (-1000000 : Int) ≤ (1 : Int) ∧ (1 : Int) ≤ 1000000; have : gI s18 1060 = gI s16 1060 := q_Ii es18 (by decide); have : gI s16 1060 = gI s13 1060 := q_Ii es16 (by decide); have : gI s13 1060 = gI s10 1060 := q_Ii es13 (by decide); have : gI s10 1060 = gI s 1060 := q_Ii es10 (by decide); have : (0 : Int) ≤ gI s 1060 ∧ gI s 1060 ≤ 48 := hRs.1 1060; omega)
    refine wp_rdIn (by have : gI s18 1060 = gI s16 1060 := q_Ii es18 (by decide); have : gI s16 1060 = gI s13 1060 := q_Ii es16 (by decide); have : gI s13 1060 = gI s10 1060 := q_Ii es13 (by decide); have : gI s10 1060 = gI s 1060 := q_Ii es10 (by decide); have : (0 : Int) ≤ gI s 1060 ∧ gI s 1060 ≤ 48 := hRs.1 1060; omega) (fun y5 ey5 => ?_)
    have by5 : (-1 : Int) ≤ y5 ∧ y5 ≤ 100000 := ey5 ▸ hRs4.2.1 55 _ (by show _ < 48; have : gI s18 1060 = gI s16 1060 := q_Ii es18 (by decide); have : gI s16 1060 = gI s13 1060 := q_Ii es16 (by decide); have : gI s13 1060 = gI s10 1060 := q_Ii es13 (by decide); have : gI s10 1060 = gI s 1060 := q_Ii es10 (by decide); have : (0 : Int) ≤ gI s 1060 ∧ gI s 1060 ≤ 48 := hRs.1 1060; omega)
    refine wp_stn (fun s6 es6 => ?_)
    have hRs6 : Rg s6 := es6 ▸ Rg.uI hRs4 (by show (-1000000 : Int) ≤ y5 ∧ y5 ≤ 1000000; have : gI s18 1060 = gI s16 1060 := q_Ii es18 (by decide); have : gI s16 1060 = gI s13 1060 := q_Ii es16 (by decide); have : gI s13 1060 = gI s10 1060 := q_Ii es13 (by decide); have : gI s10 1060 = gI s 1060 := q_Ii es10 (by decide); have : (0 : Int) ≤ gI s 1060 ∧ gI s 1060 ≤ 48 := hRs.1 1060; omega)
    refine wp_bn (w_x3_value_v2 hRs6 (by show R2 (0 : Int); have : gI s18 1060 = gI s16 1060 := q_Ii es18 (by decide); have : gI s16 1060 = gI s13 1060 := q_Ii es16 (by decide); have : gI s13 1060 = gI s10 1060 := q_Ii es13 (by decide); have : gI s10 1060 = gI s 1060 := q_Ii es10 (by decide); have : (0 : Int) ≤ gI s 1060 ∧ gI s 1060 ≤ 48 := hRs.1 1060; omega) (by show R2 (gI s6 941); have : gI s18 1060 = gI s16 1060 := q_Ii es18 (by decide); have : gI s16 1060 = gI s13 1060 := q_Ii es16 (by decide); have : gI s13 1060 = gI s10 1060 := q_Ii es13 (by decide); have : gI s10 1060 = gI s 1060 := q_Ii es10 (by decide); have : (0 : Int) ≤ gI s 1060 ∧ gI s 1060 ≤ 48 := hRs.1 1060; have : gI s6 941 = gI s4 941 := q_Ii es6 (by decide); have : gI s4 941 = gI s18 941 := q_Ii es4 (by decide); have : gI s18 941 = gI s16 941 := q_Ii es18 (by decide); have : gI s16 941 = gI s13 941 := q_Ii es16 (by decide); have : gI s13 941 = gI s10 941 := q_Ii es13 (by decide); have : gI s10 941 = gI s 941 := q_Ii es10 (by decide); have : (0 : Int) ≤ gI s 941 ∧ gI s 941 ≤ 1600 := hRs.1 941; omega)) (fun qqr9 eqr9s hqr9s => ?_)
    obtain ⟨qr9r, qr9s⟩ := qqr9
    dsimp only at eqr9s hqr9s ⊢
    have Fqr9s := fr_x3_value_v2 eqr9s
    obtain ⟨hRqr9s, hqr9s_0⟩ := hqr9s
    have hqr9s_0 : (-1000000) ≤ qr9r ∧ qr9r ≤ 1000001 := hqr9s_0
    exact wp_some ⟨hRqr9s, by show (-1000000) ≤ qr9r ∧ qr9r ≤ 1000001; have : gI s18 1060 = gI s16 1060 := q_Ii es18 (by decide); have : gI s16 1060 = gI s13 1060 := q_Ii es16 (by decide); have : gI s13 1060 = gI s10 1060 := q_Ii es13 (by decide); have : gI s10 1060 = gI s 1060 := q_Ii es10 (by decide); have : (0 : Int) ≤ gI s 1060 ∧ gI s 1060 ≤ 48 := hRs.1 1060; omega⟩
set_option maxHeartbeats 1000000 in
theorem w_x11_answerTest {p0 : Int} {s : MS} (hRs : Rg s) (hp0 : R2 p0) : wp (m_x11_answerTest p0 s) (fun q => (Rg q.2)) := by
  unfold m_x11_answerTest
  have L7 : ∀ (n : Nat) (x3 : Int) (x4 : Int) (x5 : Int) (x6 : Int) (s7 : MS), Rg s7 → (x3 = p0) → (0 ≤ x6 ∧ x6 ≤ 48) → (0 ≤ x4 ∧ x4 ≤ x6) → ((-1) ≤ x5 ∧ x5 ≤ 48) → (48 - x6) < (n : Int) → wp (m_x11_answerTest_L7 n x3 x4 x5 x6 s7) (fun q => (Rg q.2)) := by
    refine fr_ind (fun x3 x4 x5 x6 s7 hRs7 hv7_0 hv7_1 hv7_2 hv7_3 hm7 => ?_) (fun n7 ih7 x3 x4 x5 x6 s7 hRs7 hv7_0 hv7_1 hv7_2 hv7_3 hm7 => ?_)
    · exfalso; omega
    · show wp (m_x11_answerTest_b7 (m_x11_answerTest_L7 n7) x3 x4 x5 x6 s7) _
      unfold m_x11_answerTest_b7
      refine wp_rg (by omega) ?_
      refine wp_rg (by have : (0 : Int) ≤ gI s7 1060 ∧ gI s7 1060 ≤ 48 := hRs7.1 1060; omega) ?_
      refine wp_if (fun c1 => ?_) (fun c1 => ?_)
      · skip
        refine wp_rg (by have : (0 : Int) ≤ gI s7 1060 ∧ gI s7 1060 ≤ 48 := hRs7.1 1060; omega) ?_
        refine wp_if (fun c2 => ?_) (fun c2 => ?_)
        · skip
          refine wp_rg (by have : (0 : Int) ≤ gI s7 1060 ∧ gI s7 1060 ≤ 48 := hRs7.1 1060; omega) ?_
          unfold m_x11_answerTest_J76
          exact wp_some (hRs7)
        · skip
          refine wp_rg (by have : (0 : Int) ≤ gI s7 1060 ∧ gI s7 1060 ≤ 48 := hRs7.1 1060; omega) ?_
          unfold m_x11_answerTest_J76
          exact wp_some (hRs7)
      · skip
        refine wp_bn (w_x1_valueFor hRs7 (by show 0 ≤ x6 ∧ x6 < 48; have : (0 : Int) ≤ gI s7 1060 ∧ gI s7 1060 ≤ 48 := hRs7.1 1060; omega)) (fun qqr22 eqr22s hqr22s => ?_)
        obtain ⟨qr22r, qr22s⟩ := qqr22
        dsimp only at eqr22s hqr22s ⊢
        have Fqr22s := fr_x1_valueFor eqr22s
        obtain ⟨hRqr22s, hqr22s_0⟩ := hqr22s
        have hqr22s_0 : (-1000000) ≤ qr22r ∧ qr22r ≤ 1000001 := hqr22s_0
        refine wp_rg (by have : (0 : Int) ≤ gI s7 1060 ∧ gI s7 1060 ≤ 48 := hRs7.1 1060; omega) ?_
        refine wp_if (fun c3 => ?_) (fun c3 => ?_)
        · skip
          unfold m_x11_answerTest_J57
          exact ih7 x3 x4 x5 (x6 + 1) qr22s hRqr22s (by show x3 = p0; have : (0 : Int) ≤ gI s7 1060 ∧ gI s7 1060 ≤ 48 := hRs7.1 1060; omega) (by show 0 ≤ (x6 + 1) ∧ (x6 + 1) ≤ 48; have : (0 : Int) ≤ gI s7 1060 ∧ gI s7 1060 ≤ 48 := hRs7.1 1060; omega) (by show 0 ≤ x4 ∧ x4 ≤ (x6 + 1); have : (0 : Int) ≤ gI s7 1060 ∧ gI s7 1060 ≤ 48 := hRs7.1 1060; omega) (by show (-1) ≤ x5 ∧ x5 ≤ 48; have : (0 : Int) ≤ gI s7 1060 ∧ gI s7 1060 ≤ 48 := hRs7.1 1060; omega) (by have : (0 : Int) ≤ gI s7 1060 ∧ gI s7 1060 ≤ 48 := hRs7.1 1060; omega)
        · skip
          refine wp_rg (by have : (0 : Int) ≤ gI s7 1060 ∧ gI s7 1060 ≤ 48 := hRs7.1 1060; omega) ?_
          refine wp_if (fun c4 => ?_) (fun c4 => ?_)
          · skip
            refine wp_rg (by have : (0 : Int) ≤ gI s7 1060 ∧ gI s7 1060 ≤ 48 := hRs7.1 1060; omega) ?_
            exact wp_some (hRqr22s)
          · skip
            unfold m_x11_answerTest_J57
            exact ih7 x3 (x4 + 1) x6 (x6 + 1) qr22s hRqr22s (by show x3 = p0; have : (0 : Int) ≤ gI s7 1060 ∧ gI s7 1060 ≤ 48 := hRs7.1 1060; omega) (by show 0 ≤ (x6 + 1) ∧ (x6 + 1) ≤ 48; have : (0 : Int) ≤ gI s7 1060 ∧ gI s7 1060 ≤ 48 := hRs7.1 1060; omega) (by show 0 ≤ (x4 + 1) ∧ (x4 + 1) ≤ (x6 + 1); have : (0 : Int) ≤ gI s7 1060 ∧ gI s7 1060 ≤ 48 := hRs7.1 1060; omega) (by show (-1) ≤ x6 ∧ x6 ≤ 48; have : (0 : Int) ≤ gI s7 1060 ∧ gI s7 1060 ≤ 48 := hRs7.1 1060; omega) (by have : (0 : Int) ≤ gI s7 1060 ∧ gI s7 1060 ≤ 48 := hRs7.1 1060; omega)
  exact L7 FU p0 0 (-1) 0 s hRs (by show p0 = p0; omega) (by show 0 ≤ (0 : Int) ∧ (0 : Int) ≤ 48; omega) (by show 0 ≤ (0 : Int) ∧ (0 : Int) ≤ (0 : Int); omega) (by show (-1) ≤ (-1 : Int) ∧ (-1 : Int) ≤ 48; omega) (by have := FU_big; have := FU_big2; omega)
set_option maxHeartbeats 1000000 in
theorem w_x11_answerSum {p0 : Int} {s : MS} (hRs : Rg s) (hp0 : R2 p0) : wp (m_x11_answerSum p0 s) (fun q => (Rg q.2)) := by
  unfold m_x11_answerSum
  have L15 : ∀ (n : Nat) (x3 : Int) (z4 : Int) (x5 : Int) (x6 : Int) (x7 : Int) (s8 : MS), Rg s8 → (x3 = p0) → ((-1000000) ≤ x5 ∧ x5 ≤ 1000001) → ((-1000000) ≤ x6 ∧ x6 ≤ 1000001) → (0 ≤ x7 ∧ x7 ≤ 48) → (48 - x7) < (n : Int) → wp (m_x11_answerSum_L15 n x3 z4 x5 x6 x7 s8) (fun q => (Rg q.2)) := by
    refine fr_ind (fun x3 z4 x5 x6 x7 s8 hRs8 hv15_0 hv15_1 hv15_2 hv15_3 hm15 => ?_) (fun n15 ih15 x3 z4 x5 x6 x7 s8 hRs8 hv15_0 hv15_1 hv15_2 hv15_3 hm15 => ?_)
    · exfalso; omega
    · show wp (m_x11_answerSum_b15 (m_x11_answerSum_L15 n15) x3 z4 x5 x6 x7 s8) _
      unfold m_x11_answerSum_b15
      refine wp_rg (by omega) ?_
      refine wp_rg (by have : (0 : Int) ≤ gI s8 1060 ∧ gI s8 1060 ≤ 48 := hRs8.1 1060; omega) ?_
      refine wp_if (fun c1 => ?_) (fun c1 => ?_)
      · skip
        refine wp_rg (by have : (0 : Int) ≤ gI s8 1060 ∧ gI s8 1060 ≤ 48 := hRs8.1 1060; omega) ?_
        refine wp_if (fun c2 => ?_) (fun c2 => ?_)
        · skip
          exact wp_some (hRs8)
        · skip
          refine wp_rg (by have : (0 : Int) ≤ gI s8 1060 ∧ gI s8 1060 ≤ 48 := hRs8.1 1060; omega) ?_
          refine wp_if (fun c3 => ?_) (fun c3 => ?_)
          · skip
            refine wp_rg (by have : (0 : Int) ≤ gI s8 1060 ∧ gI s8 1060 ≤ 48 := hRs8.1 1060; omega) ?_
            unfold m_x11_answerSum_J101
            exact wp_some (hRs8)
          · skip
            refine wp_rg (by have : (0 : Int) ≤ gI s8 1060 ∧ gI s8 1060 ≤ 48 := hRs8.1 1060; omega) ?_
            unfold m_x11_answerSum_J101
            exact wp_some (hRs8)
      · skip
        refine wp_bn (w_x1_valueFor hRs8 (by show 0 ≤ x7 ∧ x7 < 48; have : (0 : Int) ≤ gI s8 1060 ∧ gI s8 1060 ≤ 48 := hRs8.1 1060; omega)) (fun qqr20 eqr20s hqr20s => ?_)
        obtain ⟨qr20r, qr20s⟩ := qqr20
        dsimp only at eqr20s hqr20s ⊢
        have Fqr20s := fr_x1_valueFor eqr20s
        obtain ⟨hRqr20s, hqr20s_0⟩ := hqr20s
        have hqr20s_0 : (-1000000) ≤ qr20r ∧ qr20r ≤ 1000001 := hqr20s_0
        refine wp_rg (by have : (0 : Int) ≤ gI s8 1060 ∧ gI s8 1060 ≤ 48 := hRs8.1 1060; omega) ?_
        refine wp_rg (by have : (0 : Int) ≤ gI s8 1060 ∧ gI s8 1060 ≤ 48 := hRs8.1 1060; omega) ?_
        refine wp_rg (by have : (0 : Int) ≤ gI s8 1060 ∧ gI s8 1060 ≤ 48 := hRs8.1 1060; omega) ?_
        refine wp_rg (by have : (0 : Int) ≤ gI s8 1060 ∧ gI s8 1060 ≤ 48 := hRs8.1 1060; omega) ?_
        refine wp_rg (by have : (0 : Int) ≤ gI s8 1060 ∧ gI s8 1060 ≤ 48 := hRs8.1 1060; omega) ?_
        exact ih15 x3 (z4 + qr20r) (maxZ x5 qr20r) (minZ x6 qr20r) (x7 + 1) qr20s hRqr20s (by show x3 = p0; have : (0 : Int) ≤ gI s8 1060 ∧ gI s8 1060 ≤ 48 := hRs8.1 1060; omega) (by show (-1000000) ≤ (maxZ x5 qr20r) ∧ (maxZ x5 qr20r) ≤ 1000001; have : (0 : Int) ≤ gI s8 1060 ∧ gI s8 1060 ≤ 48 := hRs8.1 1060; have mm := mx_b x5 qr20r; omega) (by show (-1000000) ≤ (minZ x6 qr20r) ∧ (minZ x6 qr20r) ≤ 1000001; have : (0 : Int) ≤ gI s8 1060 ∧ gI s8 1060 ≤ 48 := hRs8.1 1060; have mm := mn_b x6 qr20r; omega) (by show 0 ≤ (x7 + 1) ∧ (x7 + 1) ≤ 48; have : (0 : Int) ≤ gI s8 1060 ∧ gI s8 1060 ≤ 48 := hRs8.1 1060; omega) (by have : (0 : Int) ≤ gI s8 1060 ∧ gI s8 1060 ≤ 48 := hRs8.1 1060; omega)
  exact L15 FU p0 0 (-1000000) 1000000 0 s hRs (by show p0 = p0; omega) (by show (-1000000) ≤ (-1000000 : Int) ∧ (-1000000 : Int) ≤ 1000001; omega) (by show (-1000000) ≤ (1000000 : Int) ∧ (1000000 : Int) ≤ 1000001; omega) (by show 0 ≤ (0 : Int) ∧ (0 : Int) ≤ 48; omega) (by have := FU_big; have := FU_big2; omega)
set_option maxHeartbeats 1000000 in
theorem w_x11_ask {s : MS} (hRs : Rg s) : wp (m_x11_ask s) (fun q => (Rg q.2) ∧ (gI q.2 61 = 0)) := by
  unfold m_x11_ask
  refine wp_rg (by have : (0 : Int) ≤ gI s 12 ∧ gI s 12 ≤ 1 := hRs.1 12; omega) ?_
  refine wp_if (fun c1 => ?_) (fun c1 => ?_)
  · skip
    refine wp_stn (fun s21 es21 => ?_)
    have hRs21 : Rg s21 := es21 ▸ Rg.uI hRs (by show (0 : Int) ≤ (0 : Int) ∧ (0 : Int) ≤ 1600; have : (0 : Int) ≤ gI s 12 ∧ gI s 12 ≤ 1 := hRs.1 12; omega)
    exact wp_some ⟨hRs21, by show gI s21 61 = 0; have : (0 : Int) ≤ gI s 12 ∧ gI s 12 ≤ 1 := hRs.1 12; have : gI s21 61 = 0 := q_II es21; omega⟩
  · skip
    refine wp_bn (w_x6_readQuestion hRs) (fun qqr10 eqr10s hqr10s => ?_)
    obtain ⟨qr10r, qr10s⟩ := qqr10
    dsimp only at eqr10s hqr10s ⊢
    have Fqr10s := fr_x6_readQuestion eqr10s
    obtain ⟨hRqr10s, hqr10s_0, hqr10s_1⟩ := hqr10s
    have hqr10s_0 : (-1) ≤ qr10r ∧ qr10r ≤ 179 := hqr10s_0
    have hqr10s_1 : gI qr10s 9999 = 2 := hqr10s_1
    refine wp_stn (fun s11 es11 => ?_)
    have hRs11 : Rg s11 := es11 ▸ Rg.uI hRqr10s (by show (0 : Int) ≤ (0 : Int) ∧ (0 : Int) ≤ 1600; have : (0 : Int) ≤ gI qr10s 9999 ∧ gI qr10s 9999 ≤ 2 := hRqr10s.1 9999; have : (0 : Int) ≤ gI s 12 ∧ gI s 12 ≤ 1 := hRs.1 12; omega)
    refine wp_rg (by have : (0 : Int) ≤ gI qr10s 9999 ∧ gI qr10s 9999 ≤ 2 := hRqr10s.1 9999; have : (0 : Int) ≤ gI s 12 ∧ gI s 12 ≤ 1 := hRs.1 12; have : gI s11 100 = gI qr10s 100 := q_Ii es11 (by decide); have : (0 : Int) ≤ gI qr10s 100 ∧ gI qr10s 100 ≤ 5 := hRqr10s.1 100; omega) ?_
    refine wp_if (fun c2 => ?_) (fun c2 => ?_)
    · skip
      refine wp_rg (by have : gI s11 100 = gI qr10s 100 := q_Ii es11 (by decide); have : (0 : Int) ≤ gI qr10s 100 ∧ gI qr10s 100 ≤ 5 := hRqr10s.1 100; have : (0 : Int) ≤ gI qr10s 9999 ∧ gI qr10s 9999 ≤ 2 := hRqr10s.1 9999; have : (0 : Int) ≤ gI s 12 ∧ gI s 12 ≤ 1 := hRs.1 12; omega) ?_
      refine wp_if (fun c3 => ?_) (fun c3 => ?_)
      · skip
        unfold m_x11_ask_J84
        refine wp_bn (w_x11_answerTest hRs11 (by show R2 qr10r; have : gI s11 100 = gI qr10s 100 := q_Ii es11 (by decide); have : (0 : Int) ≤ gI qr10s 100 ∧ gI qr10s 100 ≤ 5 := hRqr10s.1 100; have : (0 : Int) ≤ gI qr10s 9999 ∧ gI qr10s 9999 ≤ 2 := hRqr10s.1 9999; have : (0 : Int) ≤ gI s 12 ∧ gI s 12 ≤ 1 := hRs.1 12; omega)) (fun qqrl5 eqrl5s hqrl5s => ?_)
        obtain ⟨qrl5r, qrl5s⟩ := qqrl5
        dsimp only at eqrl5s hqrl5s ⊢
        have Fqrl5s := fr_x11_answerTest eqrl5s
        have hRqrl5s := hqrl5s
        exact wp_some ⟨hRqrl5s, by show gI qrl5s 61 = 0; have : gI s11 100 = gI qr10s 100 := q_Ii es11 (by decide); have : (0 : Int) ≤ gI qr10s 100 ∧ gI qr10s 100 ≤ 5 := hRqr10s.1 100; have : (0 : Int) ≤ gI qr10s 9999 ∧ gI qr10s 9999 ≤ 2 := hRqr10s.1 9999; have : (0 : Int) ≤ gI s 12 ∧ gI s 12 ≤ 1 := hRs.1 12; have : gI qrl5s 61 = gI s11 61 := Fqrl5s.1 61 (by decide); have : gI s11 61 = 0 := q_II es11; omega⟩
      · skip
        refine wp_if (fun c4 => ?_) (fun c4 => ?_)
        · skip
          unfold m_x11_ask_J84
          refine wp_bn (w_x11_answerTest hRs11 (by show R2 qr10r; have : gI s11 100 = gI qr10s 100 := q_Ii es11 (by decide); have : (0 : Int) ≤ gI qr10s 100 ∧ gI qr10s 100 ≤ 5 := hRqr10s.1 100; have : (0 : Int) ≤ gI qr10s 9999 ∧ gI qr10s 9999 ≤ 2 := hRqr10s.1 9999; have : (0 : Int) ≤ gI s 12 ∧ gI s 12 ≤ 1 := hRs.1 12; omega)) (fun qqrl5 eqrl5s hqrl5s => ?_)
          obtain ⟨qrl5r, qrl5s⟩ := qqrl5
          dsimp only at eqrl5s hqrl5s ⊢
          have Fqrl5s := fr_x11_answerTest eqrl5s
          have hRqrl5s := hqrl5s
          exact wp_some ⟨hRqrl5s, by show gI qrl5s 61 = 0; have : gI s11 100 = gI qr10s 100 := q_Ii es11 (by decide); have : (0 : Int) ≤ gI qr10s 100 ∧ gI qr10s 100 ≤ 5 := hRqr10s.1 100; have : (0 : Int) ≤ gI qr10s 9999 ∧ gI qr10s 9999 ≤ 2 := hRqr10s.1 9999; have : (0 : Int) ≤ gI s 12 ∧ gI s 12 ≤ 1 := hRs.1 12; have : gI qrl5s 61 = gI s11 61 := Fqrl5s.1 61 (by decide); have : gI s11 61 = 0 := q_II es11; omega⟩
        · skip
          refine wp_if (fun c5 => ?_) (fun c5 => ?_)
          · skip
            unfold m_x11_ask_J84
            refine wp_bn (w_x11_answerTest hRs11 (by show R2 qr10r; have : gI s11 100 = gI qr10s 100 := q_Ii es11 (by decide); have : (0 : Int) ≤ gI qr10s 100 ∧ gI qr10s 100 ≤ 5 := hRqr10s.1 100; have : (0 : Int) ≤ gI qr10s 9999 ∧ gI qr10s 9999 ≤ 2 := hRqr10s.1 9999; have : (0 : Int) ≤ gI s 12 ∧ gI s 12 ≤ 1 := hRs.1 12; omega)) (fun qqrl5 eqrl5s hqrl5s => ?_)
            obtain ⟨qrl5r, qrl5s⟩ := qqrl5
            dsimp only at eqrl5s hqrl5s ⊢
            have Fqrl5s := fr_x11_answerTest eqrl5s
            have hRqrl5s := hqrl5s
            exact wp_some ⟨hRqrl5s, by show gI qrl5s 61 = 0; have : gI s11 100 = gI qr10s 100 := q_Ii es11 (by decide); have : (0 : Int) ≤ gI qr10s 100 ∧ gI qr10s 100 ≤ 5 := hRqr10s.1 100; have : (0 : Int) ≤ gI qr10s 9999 ∧ gI qr10s 9999 ≤ 2 := hRqr10s.1 9999; have : (0 : Int) ≤ gI s 12 ∧ gI s 12 ≤ 1 := hRs.1 12; have : gI qrl5s 61 = gI s11 61 := Fqrl5s.1 61 (by decide); have : gI s11 61 = 0 := q_II es11; omega⟩
          · skip
            refine wp_bn (w_x11_answerSum hRs11 (by show R2 qr10r; have : gI s11 100 = gI qr10s 100 := q_Ii es11 (by decide); have : (0 : Int) ≤ gI qr10s 100 ∧ gI qr10s 100 ≤ 5 := hRqr10s.1 100; have : (0 : Int) ≤ gI qr10s 9999 ∧ gI qr10s 9999 ≤ 2 := hRqr10s.1 9999; have : (0 : Int) ≤ gI s 12 ∧ gI s 12 ≤ 1 := hRs.1 12; omega)) (fun qqrl20 eqrl20s hqrl20s => ?_)
            obtain ⟨qrl20r, qrl20s⟩ := qqrl20
            dsimp only at eqrl20s hqrl20s ⊢
            have Fqrl20s := fr_x11_answerSum eqrl20s
            have hRqrl20s := hqrl20s
            exact wp_some ⟨hRqrl20s, by show gI qrl20s 61 = 0; have : gI s11 100 = gI qr10s 100 := q_Ii es11 (by decide); have : (0 : Int) ≤ gI qr10s 100 ∧ gI qr10s 100 ≤ 5 := hRqr10s.1 100; have : (0 : Int) ≤ gI qr10s 9999 ∧ gI qr10s 9999 ≤ 2 := hRqr10s.1 9999; have : (0 : Int) ≤ gI s 12 ∧ gI s 12 ≤ 1 := hRs.1 12; have : gI qrl20s 61 = gI s11 61 := Fqrl20s.1 61 (by decide); have : gI s11 61 = 0 := q_II es11; omega⟩
    · skip
      exact wp_some ⟨hRs11, by show gI s11 61 = 0; have : gI s11 100 = gI qr10s 100 := q_Ii es11 (by decide); have : (0 : Int) ≤ gI qr10s 100 ∧ gI qr10s 100 ≤ 5 := hRqr10s.1 100; have : (0 : Int) ≤ gI qr10s 9999 ∧ gI qr10s 9999 ≤ 2 := hRqr10s.1 9999; have : (0 : Int) ≤ gI s 12 ∧ gI s 12 ≤ 1 := hRs.1 12; have : gI s11 61 = 0 := q_II es11; omega⟩
set_option maxHeartbeats 1000000 in
theorem w_x4_seal {p1 : Int} {s : MS} (hRs : Rg s) (hp0 : R2 p1) : wp (m_x4_seal p1 s) (fun r => (0 ≤ r ∧ r ≤ 250)) := by
  unfold m_x4_seal
  have L6 : ∀ (n : Nat) (x2 : Int) (x3 : Int) (x4 : Int), (x2 = p1) → (0 ≤ x3 ∧ x3 ≤ 250) → (0 ≤ x4 ∧ x4 ≤ 1600) → (1600 - x4) < (n : Int) → wp (m_x4_seal_L6 s n x2 x3 x4) (fun r => (0 ≤ r ∧ r ≤ 250)) := by
    refine fr_ind (fun x2 x3 x4 hv6_0 hv6_1 hv6_2 hm6 => ?_) (fun n6 ih6 x2 x3 x4 hv6_0 hv6_1 hv6_2 hm6 => ?_)
    · exfalso; omega
    · show wp (m_x4_seal_b6 s (m_x4_seal_L6 s n6) x2 x3 x4) _
      unfold m_x4_seal_b6
      refine wp_rg (by omega) ?_
      refine wp_rg (by omega) ?_
      refine wp_if (fun c1 => ?_) (fun c1 => ?_)
      · skip
        unfold m_x4_seal_J35
        exact wp_some (by show 0 ≤ x3 ∧ x3 ≤ 250; omega)
      · skip
        refine wp_rg (by omega) ?_
        refine wp_if (fun c2 => ?_) (fun c2 => ?_)
        · skip
          unfold m_x4_seal_J35
          exact wp_some (by show 0 ≤ x3 ∧ x3 ≤ 250; omega)
        · skip
          refine wp_rdIn (by omega) (fun y10 ey10 => ?_)
          have by10 : (0 : Int) ≤ y10 ∧ y10 ≤ 255 := ey10 ▸ hRs.2.1 17 _ (by show _ < 1364; omega)
          refine wp_dv (by omega) ?_
          exact ih6 x2 (Int.tmod ((3 * x3) + y10) 251) (x4 + 1) (by show x2 = p1; omega) (by show 0 ≤ (Int.tmod ((3 * x3) + y10) 251) ∧ (Int.tmod ((3 * x3) + y10) 251) ≤ 250; have t := tm251 (3 * x3 + y10) (by omega); omega) (by show 0 ≤ (x4 + 1) ∧ (x4 + 1) ≤ 1600; omega) (by omega)
  exact L6 FU p1 157 0 (by show p1 = p1; omega) (by show 0 ≤ (157 : Int) ∧ (157 : Int) ≤ 250; omega) (by show 0 ≤ (0 : Int) ∧ (0 : Int) ≤ 1600; omega) (by have := FU_big; have := FU_big2; omega)
set_option maxHeartbeats 1000000 in
theorem w_x4_seal_v2 {p1 : Int} {s : MS} (hRs : Rg s) (hp0 : R2 p1) : wp (m_x4_seal_v2 p1 s) (fun r => (0 ≤ r ∧ r ≤ 250)) := by
  unfold m_x4_seal_v2
  have L6 : ∀ (n : Nat) (x2 : Int) (x3 : Int) (x4 : Int), (x2 = p1) → (0 ≤ x3 ∧ x3 ≤ 250) → (0 ≤ x4 ∧ x4 ≤ 1600) → (1600 - x4) < (n : Int) → wp (m_x4_seal_v2_L6 s n x2 x3 x4) (fun r => (0 ≤ r ∧ r ≤ 250)) := by
    refine fr_ind (fun x2 x3 x4 hv6_0 hv6_1 hv6_2 hm6 => ?_) (fun n6 ih6 x2 x3 x4 hv6_0 hv6_1 hv6_2 hm6 => ?_)
    · exfalso; omega
    · show wp (m_x4_seal_v2_b6 s (m_x4_seal_v2_L6 s n6) x2 x3 x4) _
      unfold m_x4_seal_v2_b6
      refine wp_rg (by omega) ?_
      refine wp_rg (by omega) ?_
      refine wp_if (fun c1 => ?_) (fun c1 => ?_)
      · skip
        unfold m_x4_seal_v2_J35
        exact wp_some (by show 0 ≤ x3 ∧ x3 ≤ 250; omega)
      · skip
        refine wp_rg (by omega) ?_
        refine wp_if (fun c2 => ?_) (fun c2 => ?_)
        · skip
          unfold m_x4_seal_v2_J35
          exact wp_some (by show 0 ≤ x3 ∧ x3 ≤ 250; omega)
        · skip
          refine wp_rdIn (by omega) (fun y10 ey10 => ?_)
          have by10 : (0 : Int) ≤ y10 ∧ y10 ≤ 255 := ey10 ▸ hRs.2.1 4 _ (by show _ < 1600; omega)
          refine wp_dv (by omega) ?_
          exact ih6 x2 (Int.tmod ((3 * x3) + y10) 251) (x4 + 1) (by show x2 = p1; omega) (by show 0 ≤ (Int.tmod ((3 * x3) + y10) 251) ∧ (Int.tmod ((3 * x3) + y10) 251) ≤ 250; have t := tm251 (3 * x3 + y10) (by omega); omega) (by show 0 ≤ (x4 + 1) ∧ (x4 + 1) ≤ 1600; omega) (by omega)
  exact L6 FU p1 157 0 (by show p1 = p1; omega) (by show 0 ≤ (157 : Int) ∧ (157 : Int) ≤ 250; omega) (by show 0 ≤ (0 : Int) ∧ (0 : Int) ≤ 1600; omega) (by have := FU_big; have := FU_big2; omega)
set_option maxHeartbeats 1000000 in
theorem w_x4_add {p0 : Int} {s : MS} (hRs : Rg s) : wp (m_x4_add p0 s) (fun o => (Rg o)) := by
  unfold m_x4_add
  refine wp_rg (by have : (0 : Int) ≤ gI s 321 ∧ gI s 321 ≤ 1364 := hRs.1 321; omega) ?_
  refine wp_if (fun c1 => ?_) (fun c1 => ?_)
  · skip
    unfold m_x4_add_J36
    exact wp_some (hRs)
  · skip
    refine wp_inb (by have : (0 : Int) ≤ gI s 321 ∧ gI s 321 ≤ 1364 := hRs.1 321; omega) ?_
    refine wp_stn (fun s5 es5 => ?_)
    have hRs5 : Rg s5 := es5 ▸ Rg.uAu hRs (and_b _)
    refine wp_stn (fun s6 es6 => ?_)
    have hRs6 : Rg s6 := es6 ▸ Rg.uI hRs5 (by show (0 : Int) ≤ ((gI s5 321) + 1) ∧ ((gI s5 321) + 1) ≤ 1364; have : (0 : Int) ≤ gI s 321 ∧ gI s 321 ≤ 1364 := hRs.1 321; have : gI s5 321 = gI s 321 := q_Ai es5; omega)
    unfold m_x4_add_J36
    exact wp_some (hRs6)
set_option maxHeartbeats 1000000 in
theorem w_x4_addPair {p0 : Int} {s : MS} (hRs : Rg s) : wp (m_x4_addPair p0 s) (fun o => (Rg o)) := by
  unfold m_x4_addPair
  refine wp_bn (w_x4_add hRs) (fun s2 es2 hs2 => ?_)
  have Fs2 := fr_x4_add es2
  have hRs2 := hs2
  refine wp_bn (w_x4_add hRs2) (fun s4 es4 hs4 => ?_)
  have Fs4 := fr_x4_add es4
  have hRs4 := hs4
  exact wp_some (hRs4)
set_option maxHeartbeats 1000000 in
theorem w_x4_drawBlock {p1 : Int} {s : MS} (hRs : Rg s) (hp0 : US (hN s) (kN s)) (hp1 : 0 ≤ p1 ∧ p1 < 48) : wp (m_x4_drawBlock p1 s) (fun o => (Rg o)) := by
  unfold m_x4_drawBlock
  refine wp_rdIn (by omega) (fun y18 ey18 => ?_)
  have by18 : (-1 : Int) ≤ y18 ∧ y18 ≤ 1000 := ey18 ▸ hRs.2.1 56 _ (by show _ < 48; omega)
  refine wp_bn (w_x4_add hRs) (fun s20 es20 hs20 => ?_)
  have Fs20 := fr_x4_add es20
  have hRs20 := hs20
  refine wp_rdIn (by omega) (fun y21 ey21 => ?_)
  have by21 : (-1 : Int) ≤ y21 ∧ y21 ≤ 255 := ey21 ▸ hRs20.2.1 57 _ (by show _ < 48; omega)
  refine wp_bn (w_x4_add hRs20) (fun s23 es23 hs23 => ?_)
  have Fs23 := fr_x4_add es23
  have hRs23 := hs23
  have L22 : ∀ (n : Nat) (x1 : Int) (x2 : Int) (s3 : MS), Rg s3 → (x1 = p1) → (0 ≤ x2 ∧ x2 ≤ 6) → (gA s3 56 = gA s 56 ∧ gA s3 57 = gA s 57 ∧ gA s3 58 = gA s 58 ∧ gA s3 59 = gA s 59) → (6 - x2) < (n : Int) → wp (m_x4_drawBlock_L22 n x1 x2 s3) (fun o => (Rg o)) := by
    refine fr_ind (fun x1 x2 s3 hRs3 hv22_0 hv22_1 hv22_2 hm22 => ?_) (fun n22 ih22 x1 x2 s3 hRs3 hv22_0 hv22_1 hv22_2 hm22 => ?_)
    · exfalso; omega
    · show wp (m_x4_drawBlock_b22 (m_x4_drawBlock_L22 n22) x1 x2 s3) _
      unfold m_x4_drawBlock_b22
      have us := (hp0 x1.toNat (by omega)).1
      have us1 : 0 ≤ gA s 57 x1.toNat ∧ gA s 57 x1.toNat ≤ 6 := us
      rw [← hv22_2.2.1] at us1
      refine wp_rdIn (by omega) (fun y4 ey4 => ?_)
      have by4 : (-1 : Int) ≤ y4 ∧ y4 ≤ 255 := ey4 ▸ hRs3.2.1 57 _ (by show _ < 48; omega)
      refine wp_rg (by omega) ?_
      refine wp_rg (by omega) ?_
      refine wp_if (fun c1 => ?_) (fun c1 => ?_)
      · skip
        exact wp_some (hRs3)
      · skip
        refine wp_bn (w_x8_slot hRs3) (fun r9 er9 hr9 => ?_)
        have hr9_0 := hr9
        have hr9_0 : r9 = x1 * 6 + x2 := hr9_0
        refine wp_rdIn (by omega) (fun y10 ey10 => ?_)
        have by10 : (-257 : Int) ≤ y10 ∧ y10 ≤ 65535 := ey10 ▸ hRs3.2.1 58 _ (by show _ < 288; omega)
        refine wp_bn (w_x4_addPair hRs3) (fun s12 es12 hs12 => ?_)
        have Fs12 := fr_x4_addPair es12
        have hRs12 := hs12
        refine wp_bn (w_x8_slot hRs12) (fun r14 er14 hr14 => ?_)
        have hr14_0 := hr14
        have hr14_0 : r14 = x1 * 6 + x2 := hr14_0
        refine wp_rdIn (by omega) (fun y15 ey15 => ?_)
        have by15 : (-257 : Int) ≤ y15 ∧ y15 ≤ 65535 := ey15 ▸ hRs12.2.1 59 _ (by show _ < 288; omega)
        refine wp_bn (w_x4_addPair hRs12) (fun s17 es17 hs17 => ?_)
        have Fs17 := fr_x4_addPair es17
        have hRs17 := hs17
        exact ih22 x1 (x2 + 1) s17 hRs17 (by show x1 = p1; omega) (by show 0 ≤ (x2 + 1) ∧ (x2 + 1) ≤ 6; omega) (⟨(((Fs17.2.1 56 (by decide)).trans (Fs12.2.1 56 (by decide)))).trans hv22_2.1, (((Fs17.2.1 57 (by decide)).trans (Fs12.2.1 57 (by decide)))).trans hv22_2.2.1, (((Fs17.2.1 58 (by decide)).trans (Fs12.2.1 58 (by decide)))).trans hv22_2.2.2.1, (((Fs17.2.1 59 (by decide)).trans (Fs12.2.1 59 (by decide)))).trans hv22_2.2.2.2⟩) (by omega)
  exact L22 FU p1 0 s23 hRs23 (by show p1 = p1; omega) (by show 0 ≤ (0 : Int) ∧ (0 : Int) ≤ 6; omega) (⟨((Fs23.2.1 56 (by decide)).trans (Fs20.2.1 56 (by decide))), ((Fs23.2.1 57 (by decide)).trans (Fs20.2.1 57 (by decide))), ((Fs23.2.1 58 (by decide)).trans (Fs20.2.1 58 (by decide))), ((Fs23.2.1 59 (by decide)).trans (Fs20.2.1 59 (by decide)))⟩) (by have := FU_big; have := FU_big2; omega)
set_option maxHeartbeats 1000000 in
theorem w_x4_rootByte {p0 : Int} {s : MS} (hRs : Rg s) (hp0 : R2 p0) : wp (m_x4_rootByte p0 s) (fun r => True) := by
  unfold m_x4_rootByte
  refine wp_rg (by omega) ?_
  refine wp_if (fun c1 => ?_) (fun c1 => ?_)
  · skip
    exact wp_some (trivial)
  · skip
    refine wp_rg (by omega) ?_
    refine wp_if (fun c2 => ?_) (fun c2 => ?_)
    · skip
      unfold m_x4_rootByte_J22
      exact wp_some (trivial)
    · skip
      unfold m_x4_rootByte_J22
      exact wp_some (trivial)
set_option maxHeartbeats 1000000 in
theorem w_x4_draw {s : MS} (hRs : Rg s) (hp0 : US (hN s) (kN s)) : wp (m_x4_draw s) (fun q => (Rg q.2)) := by
  unfold m_x4_draw
  refine wp_stn (fun s38 es38 => ?_)
  have hRs38 : Rg s38 := es38 ▸ Rg.uI hRs (by show (0 : Int) ≤ (0 : Int) ∧ (0 : Int) ≤ 1364; omega)
  refine wp_bn (w_x4_add hRs38) (fun s40 es40 hs40 => ?_)
  have Fs40 := fr_x4_add es40
  have hRs40 := hs40
  refine wp_bn (w_x4_addPair hRs40) (fun s42 es42 hs42 => ?_)
  have Fs42 := fr_x4_addPair es42
  have hRs42 := hs42
  have L29 : ∀ (n : Nat) (x24 : Int) (s25 : MS), Rg s25 → (0 ≤ x24 ∧ x24 ≤ 8) → (gA s25 56 = gA s 56 ∧ gA s25 57 = gA s 57 ∧ gA s25 58 = gA s 58 ∧ gA s25 59 = gA s 59) → (8 - x24) < (n : Int) → wp (m_x4_draw_L29 n x24 s25) (fun q => (Rg q.2)) := by
    refine fr_ind (fun x24 s25 hRs25 hv29_0 hv29_1 hm29 => ?_) (fun n29 ih29 x24 s25 hRs25 hv29_0 hv29_1 hm29 => ?_)
    · exfalso; omega
    · show wp (m_x4_draw_b29 (m_x4_draw_L29 n29) x24 s25) _
      unfold m_x4_draw_b29
      refine wp_rg (by omega) ?_
      refine wp_if (fun c1 => ?_) (fun c1 => ?_)
      · skip
        have L69 : ∀ (n : Nat) (x1 : Int) (s2 : MS), Rg s2 → (0 ≤ x1 ∧ x1 ≤ 48) → (gA s2 56 = gA s 56 ∧ gA s2 57 = gA s 57 ∧ gA s2 58 = gA s 58 ∧ gA s2 59 = gA s 59) → (48 - x1) < (n : Int) → wp (m_x4_draw_L69 n x1 s2) (fun q => (Rg q.2)) := by
          refine fr_ind (fun x1 s2 hRs2 hv69_0 hv69_1 hm69 => ?_) (fun n69 ih69 x1 s2 hRs2 hv69_0 hv69_1 hm69 => ?_)
          · exfalso; omega
          · show wp (m_x4_draw_b69 (m_x4_draw_L69 n69) x1 s2) _
            unfold m_x4_draw_b69
            refine wp_rg (by omega) ?_
            refine wp_rg (by have : (0 : Int) ≤ gI s2 1060 ∧ gI s2 1060 ≤ 48 := hRs2.1 1060; omega) ?_
            refine wp_if (fun c2 => ?_) (fun c2 => ?_)
            · skip
              refine wp_bn (w_x4_seal hRs2 (by show R2 (gI s2 321); have : (0 : Int) ≤ gI s2 1060 ∧ gI s2 1060 ≤ 48 := hRs2.1 1060; have : (0 : Int) ≤ gI s2 321 ∧ gI s2 321 ≤ 1364 := hRs2.1 321; omega)) (fun r9 er9 hr9 => ?_)
              have hr9_0 := hr9
              have hr9_0 : 0 ≤ r9 ∧ r9 ≤ 250 := hr9_0
              refine wp_bn (w_x4_add hRs2) (fun s11 es11 hs11 => ?_)
              have Fs11 := fr_x4_add es11
              have hRs11 := hs11
              exact wp_some (hRs11)
            · skip
              refine wp_rdIn (by have : (0 : Int) ≤ gI s2 1060 ∧ gI s2 1060 ≤ 48 := hRs2.1 1060; omega) (fun y12 ey12 => ?_)
              have by12 : (-1 : Int) ≤ y12 ∧ y12 ≤ 100000 := ey12 ▸ hRs2.2.1 54 _ (by show _ < 48; have : (0 : Int) ≤ gI s2 1060 ∧ gI s2 1060 ≤ 48 := hRs2.1 1060; omega)
              refine wp_bn (w_x4_add hRs2) (fun s14 es14 hs14 => ?_)
              have Fs14 := fr_x4_add es14
              have hRs14 := hs14
              refine wp_rdIn (by have : (0 : Int) ≤ gI s2 1060 ∧ gI s2 1060 ≤ 48 := hRs2.1 1060; omega) (fun y15 ey15 => ?_)
              have by15 : (-1 : Int) ≤ y15 ∧ y15 ≤ 100000 := ey15 ▸ hRs14.2.1 55 _ (by show _ < 48; have : (0 : Int) ≤ gI s2 1060 ∧ gI s2 1060 ≤ 48 := hRs2.1 1060; omega)
              refine wp_bn (w_x4_add hRs14) (fun s17 es17 hs17 => ?_)
              have Fs17 := fr_x4_add es17
              have hRs17 := hs17
              refine wp_bn (w_x8_isFree hRs17 (by show R2 x1; have : (0 : Int) ≤ gI s2 1060 ∧ gI s2 1060 ≤ 48 := hRs2.1 1060; omega)) (fun r19 er19 hr19 => ?_)
              have hr19_0 := hr19
              have hr19_0 : (r19 = 1 ∧ 0 ≤ x1 ∧ x1 < gI s17 1060 ∧ gA s17 54 x1.toNat = 0 ∧ gA s17 55 x1.toNat = 0) ∨ (r19 = 0 ∧ (x1 < 0 ∨ gI s17 1060 ≤ x1 ∨ ¬ (gA s17 54 x1.toNat = 0 ∧ gA s17 55 x1.toNat = 0))) := hr19_0
              refine wp_rg (by have : gI s17 1060 = gI s14 1060 := Fs17.1 1060 (by decide); have : gI s14 1060 = gI s2 1060 := Fs14.1 1060 (by decide); have : (0 : Int) ≤ gI s2 1060 ∧ gI s2 1060 ≤ 48 := hRs2.1 1060; omega) ?_
              refine wp_if (fun c3 => ?_) (fun c3 => ?_)
              · skip
                refine wp_bn (w_x4_drawBlock hRs17 (by rw [hN_eq ((((Fs17.2.1 56 (by decide)).trans (Fs14.2.1 56 (by decide)))).trans hv69_1.1) ((((Fs17.2.1 57 (by decide)).trans (Fs14.2.1 57 (by decide)))).trans hv69_1.2.1) ((((Fs17.2.1 59 (by decide)).trans (Fs14.2.1 59 (by decide)))).trans hv69_1.2.2.2), kN_eq ((((Fs17.2.1 58 (by decide)).trans (Fs14.2.1 58 (by decide)))).trans hv69_1.2.2.1)]; exact hp0) (by show 0 ≤ x1 ∧ x1 < 48; have : gI s17 1060 = gI s14 1060 := Fs17.1 1060 (by decide); have : gI s14 1060 = gI s2 1060 := Fs14.1 1060 (by decide); have : (0 : Int) ≤ gI s2 1060 ∧ gI s2 1060 ≤ 48 := hRs2.1 1060; omega)) (fun s23 es23 hs23 => ?_)
                have Fs23 := fr_x4_drawBlock es23
                have hRs23 := hs23
                unfold m_x4_draw_J111
                exact ih69 (x1 + 1) s23 hRs23 (by show 0 ≤ (x1 + 1) ∧ (x1 + 1) ≤ 48; have : gI s17 1060 = gI s14 1060 := Fs17.1 1060 (by decide); have : gI s14 1060 = gI s2 1060 := Fs14.1 1060 (by decide); have : (0 : Int) ≤ gI s2 1060 ∧ gI s2 1060 ≤ 48 := hRs2.1 1060; omega) (⟨(((Fs23.2.1 56 (by decide)).trans ((Fs17.2.1 56 (by decide)).trans (Fs14.2.1 56 (by decide))))).trans hv69_1.1, (((Fs23.2.1 57 (by decide)).trans ((Fs17.2.1 57 (by decide)).trans (Fs14.2.1 57 (by decide))))).trans hv69_1.2.1, (((Fs23.2.1 58 (by decide)).trans ((Fs17.2.1 58 (by decide)).trans (Fs14.2.1 58 (by decide))))).trans hv69_1.2.2.1, (((Fs23.2.1 59 (by decide)).trans ((Fs17.2.1 59 (by decide)).trans (Fs14.2.1 59 (by decide))))).trans hv69_1.2.2.2⟩) (by have : gI s17 1060 = gI s14 1060 := Fs17.1 1060 (by decide); have : gI s14 1060 = gI s2 1060 := Fs14.1 1060 (by decide); have : (0 : Int) ≤ gI s2 1060 ∧ gI s2 1060 ≤ 48 := hRs2.1 1060; omega)
              · skip
                unfold m_x4_draw_J111
                exact ih69 (x1 + 1) s17 hRs17 (by show 0 ≤ (x1 + 1) ∧ (x1 + 1) ≤ 48; have : gI s17 1060 = gI s14 1060 := Fs17.1 1060 (by decide); have : gI s14 1060 = gI s2 1060 := Fs14.1 1060 (by decide); have : (0 : Int) ≤ gI s2 1060 ∧ gI s2 1060 ≤ 48 := hRs2.1 1060; omega) (⟨(((Fs17.2.1 56 (by decide)).trans (Fs14.2.1 56 (by decide)))).trans hv69_1.1, (((Fs17.2.1 57 (by decide)).trans (Fs14.2.1 57 (by decide)))).trans hv69_1.2.1, (((Fs17.2.1 58 (by decide)).trans (Fs14.2.1 58 (by decide)))).trans hv69_1.2.2.1, (((Fs17.2.1 59 (by decide)).trans (Fs14.2.1 59 (by decide)))).trans hv69_1.2.2.2⟩) (by have : gI s17 1060 = gI s14 1060 := Fs17.1 1060 (by decide); have : gI s14 1060 = gI s2 1060 := Fs14.1 1060 (by decide); have : (0 : Int) ≤ gI s2 1060 ∧ gI s2 1060 ≤ 48 := hRs2.1 1060; omega)
        exact L69 FU 0 s25 hRs25 (by show 0 ≤ (0 : Int) ∧ (0 : Int) ≤ 48; omega) (hv29_1) (by have := FU_big; have := FU_big2; omega)
      · skip
        refine wp_rdIn (by omega) (fun y28 ey28 => ?_)
        have by28 : (-2 : Int) ≤ y28 ∧ y28 ≤ 253 := ey28 ▸ hRs25.2.1 60 _ (by show _ < 8; omega)
        refine wp_bn (w_x4_rootByte hRs25 (by show R2 y28; omega)) (fun r30 er30 hr30 => ?_)
        refine wp_bn (w_x4_add hRs25) (fun s32 es32 hs32 => ?_)
        have Fs32 := fr_x4_add es32
        have hRs32 := hs32
        refine wp_rdIn (by omega) (fun y33 ey33 => ?_)
        have by33 : (-2 : Int) ≤ y33 ∧ y33 ≤ 253 := ey33 ▸ hRs32.2.1 61 _ (by show _ < 8; omega)
        refine wp_bn (w_x4_rootByte hRs32 (by show R2 y33; omega)) (fun r35 er35 hr35 => ?_)
        refine wp_bn (w_x4_add hRs32) (fun s37 es37 hs37 => ?_)
        have Fs37 := fr_x4_add es37
        have hRs37 := hs37
        exact ih29 (x24 + 1) s37 hRs37 (by show 0 ≤ (x24 + 1) ∧ (x24 + 1) ≤ 8; omega) (⟨(((Fs37.2.1 56 (by decide)).trans (Fs32.2.1 56 (by decide)))).trans hv29_1.1, (((Fs37.2.1 57 (by decide)).trans (Fs32.2.1 57 (by decide)))).trans hv29_1.2.1, (((Fs37.2.1 58 (by decide)).trans (Fs32.2.1 58 (by decide)))).trans hv29_1.2.2.1, (((Fs37.2.1 59 (by decide)).trans (Fs32.2.1 59 (by decide)))).trans hv29_1.2.2.2⟩) (by omega)
  exact L29 FU 0 s42 hRs42 (by show 0 ≤ (0 : Int) ∧ (0 : Int) ≤ 8; omega) (⟨((Fs42.2.1 56 (by decide)).trans ((Fs40.2.1 56 (by decide)).trans (q_Ia es38 : gA s38 56 = gA s 56))), ((Fs42.2.1 57 (by decide)).trans ((Fs40.2.1 57 (by decide)).trans (q_Ia es38 : gA s38 57 = gA s 57))), ((Fs42.2.1 58 (by decide)).trans ((Fs40.2.1 58 (by decide)).trans (q_Ia es38 : gA s38 58 = gA s 58))), ((Fs42.2.1 59 (by decide)).trans ((Fs40.2.1 59 (by decide)).trans (q_Ia es38 : gA s38 59 = gA s 59)))⟩) (by have := FU_big; have := FU_big2; omega)
set_option maxHeartbeats 1000000 in
theorem w_x11_image {s : MS} (hRs : Rg s) (hp0 : US (hN s) (kN s)) : wp (m_x11_image s) (fun q => (Rg q.2)) := by
  unfold m_x11_image
  refine wp_bn (w_x4_draw hRs (hp0)) (fun qqr3 eqr3s hqr3s => ?_)
  obtain ⟨qr3r, qr3s⟩ := qqr3
  dsimp only at eqr3s hqr3s ⊢
  have Fqr3s := fr_x4_draw eqr3s
  have hRqr3s := hqr3s
  exact wp_some (hRqr3s)
