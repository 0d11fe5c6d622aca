set_option maxHeartbeats 1000000 in
theorem w_x12_isVolume {p0 : Int} {s : MS} (hRs : Rr s) (hp0 : R8 p0) : wp (m_x12_isVolume p0 s) (fun r => ((r = 1 ∧ (0 ≤ p0 ∧ p0 < 8) ∧ gI s 47 ≠ 0 ∧ gA s 49 p0.toNat ≠ 255) ∨ r = 0)) := by
  unfold m_x12_isVolume
  refine wp_bn (w_x12_isIn hRs (by show R8 p0; omega) (by show R8 (0 : Int); omega) (by show R8 (7 : Int); omega)) (fun r4 er4 hr4 => ?_)
  have hr4_0 := hr4
  have hr4_0 : (r4 = 1 ∧ (0 : Int) ≤ p0 ∧ p0 ≤ (7 : Int)) ∨ (r4 = 0 ∧ (p0 < (0 : Int) ∨ (7 : Int) < p0)) := hr4_0
  refine wp_rg (by omega) ?_
  refine wp_if (fun c1 => ?_) (fun c1 => ?_)
  · skip
    unfold m_x12_isVolume_J35
    unfold m_x12_isVolume_J36
    refine wp_bo (by omega) ?_
    exact wp_some (by show ((0 : Int) = 1 ∧ (0 ≤ p0 ∧ p0 < 8) ∧ gI s 47 ≠ 0 ∧ gA s 49 p0.toNat ≠ 255) ∨ (0 : Int) = 0; have : (0 : Int) ≤ gI s 47 ∧ gI s 47 ≤ 1 := hRs.1 47; omega)
  · skip
    refine wp_rg (by have : (0 : Int) ≤ gI s 47 ∧ gI s 47 ≤ 1 := hRs.1 47; omega) ?_
    refine wp_if (fun c2 => ?_) (fun c2 => ?_)
    · skip
      unfold m_x12_isVolume_J35
      unfold m_x12_isVolume_J36
      refine wp_bo (by have : (0 : Int) ≤ gI s 47 ∧ gI s 47 ≤ 1 := hRs.1 47; omega) ?_
      exact wp_some (by show ((0 : Int) = 1 ∧ (0 ≤ p0 ∧ p0 < 8) ∧ gI s 47 ≠ 0 ∧ gA s 49 p0.toNat ≠ 255) ∨ (0 : Int) = 0; have : (0 : Int) ≤ gI s 47 ∧ gI s 47 ≤ 1 := hRs.1 47; omega)
    · skip
      refine wp_rdIn (by have : (0 : Int) ≤ gI s 47 ∧ gI s 47 ≤ 1 := hRs.1 47; omega) (fun y9 ey9 => ?_)
      have by9 : (-2147483648 : Int) ≤ y9 ∧ y9 ≤ 2147483647 := ey9 ▸ hRs.2.1 49 _ (by show _ < 906; have : (0 : Int) ≤ gI s 47 ∧ gI s 47 ≤ 1 := hRs.1 47; omega)
      have r9 : R2 y9 := ey9 ▸ R49 hRs (by omega)
      refine wp_rg (by have : (0 : Int) ≤ gI s 47 ∧ gI s 47 ≤ 1 := hRs.1 47; omega) ?_
      refine wp_if (fun c3 => ?_) (fun c3 => ?_)
      · skip
        unfold m_x12_isVolume_J35
        unfold m_x12_isVolume_J36
        refine wp_bo (by have : (0 : Int) ≤ gI s 47 ∧ gI s 47 ≤ 1 := hRs.1 47; omega) ?_
        exact wp_some (by show ((0 : Int) = 1 ∧ (0 ≤ p0 ∧ p0 < 8) ∧ gI s 47 ≠ 0 ∧ gA s 49 p0.toNat ≠ 255) ∨ (0 : Int) = 0; have : (0 : Int) ≤ gI s 47 ∧ gI s 47 ≤ 1 := hRs.1 47; omega)
      · skip
        unfold m_x12_isVolume_J36
        refine wp_bo (by have : (0 : Int) ≤ gI s 47 ∧ gI s 47 ≤ 1 := hRs.1 47; omega) ?_
        exact wp_some (by show ((1 : Int) = 1 ∧ (0 ≤ p0 ∧ p0 < 8) ∧ gI s 47 ≠ 0 ∧ gA s 49 p0.toNat ≠ 255) ∨ (1 : Int) = 0; have : (0 : Int) ≤ gI s 47 ∧ gI s 47 ≤ 1 := hRs.1 47; omega)
set_option maxHeartbeats 1000000 in
theorem w_x12_clearsTouched {s : MS} (hRs : Rr s) : wp (m_x12_clearsTouched s) (fun o => (Rr o)) := by
  unfold m_x12_clearsTouched
  have L2 : ∀ (n : Nat) (x1 : Int) (s2 : MS), Rr s2 → (0 ≤ x1 ∧ x1 ≤ 48) → (48 - x1) < (n : Int) → wp (m_x12_clearsTouched_L2 n x1 s2) (fun o => (Rr o)) := by
    refine fr_ind (fun x1 s2 hRs2 hv2_0 hm2 => ?_) (fun n2 ih2 x1 s2 hRs2 hv2_0 hm2 => ?_)
    · exfalso; omega
    · show wp (m_x12_clearsTouched_b2 (m_x12_clearsTouched_L2 n2) x1 s2) _
      unfold m_x12_clearsTouched_b2
      refine wp_rg (by omega) ?_
      refine wp_if (fun c1 => ?_) (fun c1 => ?_)
      · skip
        exact wp_some (hRs2)
      · skip
        refine wp_inb (by omega) ?_
        refine wp_bo (by omega) ?_
        refine wp_stn (fun s7 es7 => ?_)
        have hRs7 : Rr s7 := es7 ▸ Rr.uAu hRs2 (by show (0 : Int) ≤ (0 : Int) ∧ (0 : Int) ≤ 1; omega)
        exact ih2 (x1 + 1) s7 hRs7 (by show 0 ≤ (x1 + 1) ∧ (x1 + 1) ≤ 48; omega) (by omega)
  exact L2 FU 0 s hRs (by show 0 ≤ (0 : Int) ∧ (0 : Int) ≤ 48; omega) (by have := FU_big; have := FU_big2; omega)
set_option maxHeartbeats 1000000 in
theorem w_x12_writtenMany {s : MS} (hRs : Rr s) (hp0 : 0 ≤ gA s 39 5 ∧ gA s 39 5 ≤ 48) : wp (m_x12_writtenMany s) (fun r => (0 ≤ r ∧ r ≤ 48)) := by
  unfold m_x12_writtenMany
  have L4 : ∀ (n : Nat) (x1 : Int) (x2 : Int), (0 ≤ x1 ∧ x1 ≤ x2 ∧ x2 ≤ 48) → (48 - x2) < (n : Int) → wp (m_x12_writtenMany_L4 s n x1 x2) (fun r => (0 ≤ r ∧ r ≤ 48)) := by
    refine fr_ind (fun x1 x2 hv4_0 hm4 => ?_) (fun n4 ih4 x1 x2 hv4_0 hm4 => ?_)
    · exfalso; omega
    · show wp (m_x12_writtenMany_b4 s (m_x12_writtenMany_L4 s n4) x1 x2) _
      unfold m_x12_writtenMany_b4
      refine wp_bn (w_x12_blockMany hRs) (fun r6 er6 hr6 => ?_)
      have hr6_0 := hr6
      have hr6_0 : r6 = gA s 39 5 := hr6_0
      refine wp_rg (by omega) ?_
      refine wp_rg (by omega) ?_
      refine wp_if (fun c1 => ?_) (fun c1 => ?_)
      · skip
        exact wp_some (by show 0 ≤ x1 ∧ x1 ≤ 48; omega)
      · skip
        refine wp_rdIn (by omega) (fun y10 ey10 => ?_)
        have by10 : (0 : Int) ≤ y10 ∧ y10 ≤ 1 := ey10 ▸ hRs.2.1 54 _ (by show _ < 48; omega)
        refine wp_rg (by omega) ?_
        refine wp_if (fun c2 => ?_) (fun c2 => ?_)
        · skip
          unfold m_x12_writtenMany_J32
          exact ih4 x1 (x2 + 1) (by show 0 ≤ x1 ∧ x1 ≤ (x2 + 1) ∧ (x2 + 1) ≤ 48; omega) (by omega)
        · skip
          refine wp_bn (w_x12_isUsed hRs (by show 0 ≤ x2 ∧ x2 < 48; omega)) (fun r14 er14 hr14 => ?_)
          have hr14_0 := hr14
          have hr14_0 : (r14 = 1 ∧ 0 < cM s x2.toNat) ∨ (r14 = 0 ∧ cM s x2.toNat ≤ 0) := hr14_0
          refine wp_rg (by omega) ?_
          refine wp_if (fun c3 => ?_) (fun c3 => ?_)
          · skip
            unfold m_x12_writtenMany_J32
            exact ih4 x1 (x2 + 1) (by show 0 ≤ x1 ∧ x1 ≤ (x2 + 1) ∧ (x2 + 1) ≤ 48; omega) (by omega)
          · skip
            unfold m_x12_writtenMany_J32
            exact ih4 (x1 + 1) (x2 + 1) (by show 0 ≤ (x1 + 1) ∧ (x1 + 1) ≤ (x2 + 1) ∧ (x2 + 1) ≤ 48; omega) (by omega)
  exact L4 FU 0 0 (by show 0 ≤ (0 : Int) ∧ (0 : Int) ≤ (0 : Int) ∧ (0 : Int) ≤ 48; omega) (by have := FU_big; have := FU_big2; omega)
set_option maxHeartbeats 1000000 in
theorem w_x12_usedMany {s : MS} (hRs : Rr s) (hp0 : 0 ≤ gA s 39 5 ∧ gA s 39 5 ≤ 48) : wp (m_x12_usedMany s) (fun r => (0 ≤ r ∧ r ≤ 48)) := by
  unfold m_x12_usedMany
  have L4 : ∀ (n : Nat) (x1 : Int) (x2 : Int), (0 ≤ x1 ∧ x1 ≤ x2 ∧ x2 ≤ 48) → (48 - x2) < (n : Int) → wp (m_x12_usedMany_L4 s n x1 x2) (fun r => (0 ≤ r ∧ r ≤ 48)) := by
    refine fr_ind (fun x1 x2 hv4_0 hm4 => ?_) (fun n4 ih4 x1 x2 hv4_0 hm4 => ?_)
    · exfalso; omega
    · show wp (m_x12_usedMany_b4 s (m_x12_usedMany_L4 s n4) x1 x2) _
      unfold m_x12_usedMany_b4
      refine wp_bn (w_x12_blockMany hRs) (fun r6 er6 hr6 => ?_)
      have hr6_0 := hr6
      have hr6_0 : r6 = gA s 39 5 := hr6_0
      refine wp_rg (by omega) ?_
      refine wp_rg (by omega) ?_
      refine wp_if (fun c1 => ?_) (fun c1 => ?_)
      · skip
        exact wp_some (by show 0 ≤ x1 ∧ x1 ≤ 48; omega)
      · skip
        refine wp_bn (w_x12_isUsed hRs (by show 0 ≤ x2 ∧ x2 < 48; omega)) (fun r11 er11 hr11 => ?_)
        have hr11_0 := hr11
        have hr11_0 : (r11 = 1 ∧ 0 < cM s x2.toNat) ∨ (r11 = 0 ∧ cM s x2.toNat ≤ 0) := hr11_0
        refine wp_rg (by omega) ?_
        refine wp_if (fun c2 => ?_) (fun c2 => ?_)
        · skip
          unfold m_x12_usedMany_J23
          exact ih4 x1 (x2 + 1) (by show 0 ≤ x1 ∧ x1 ≤ (x2 + 1) ∧ (x2 + 1) ≤ 48; omega) (by omega)
        · skip
          unfold m_x12_usedMany_J23
          exact ih4 (x1 + 1) (x2 + 1) (by show 0 ≤ (x1 + 1) ∧ (x1 + 1) ≤ (x2 + 1) ∧ (x2 + 1) ≤ 48; omega) (by omega)
  exact L4 FU 0 0 (by show 0 ≤ (0 : Int) ∧ (0 : Int) ≤ (0 : Int) ∧ (0 : Int) ≤ 48; omega) (by have := FU_big; have := FU_big2; omega)
set_option maxHeartbeats 1000000 in
theorem w_x12_heldMany {s : MS} (hRs : Rr s) (hp0 : 0 ≤ gA s 39 5 ∧ gA s 39 5 ≤ 48) : wp (m_x12_heldMany s) (fun r => (0 ≤ r ∧ r ≤ 48)) := by
  unfold m_x12_heldMany
  have L4 : ∀ (n : Nat) (x1 : Int) (x2 : Int), (0 ≤ x1 ∧ x1 ≤ x2 ∧ x2 ≤ 48) → (48 - x2) < (n : Int) → wp (m_x12_heldMany_L4 s n x1 x2) (fun r => (0 ≤ r ∧ r ≤ 48)) := by
    refine fr_ind (fun x1 x2 hv4_0 hm4 => ?_) (fun n4 ih4 x1 x2 hv4_0 hm4 => ?_)
    · exfalso; omega
    · show wp (m_x12_heldMany_b4 s (m_x12_heldMany_L4 s n4) x1 x2) _
      unfold m_x12_heldMany_b4
      refine wp_bn (w_x12_blockMany hRs) (fun r6 er6 hr6 => ?_)
      have hr6_0 := hr6
      have hr6_0 : r6 = gA s 39 5 := hr6_0
      refine wp_rg (by omega) ?_
      refine wp_rg (by omega) ?_
      refine wp_if (fun c1 => ?_) (fun c1 => ?_)
      · skip
        exact wp_some (by show 0 ≤ x1 ∧ x1 ≤ 48; omega)
      · skip
        refine wp_bn (w_x12_isHeld hRs (by show 0 ≤ x2 ∧ x2 < 48; omega)) (fun r11 er11 hr11 => ?_)
        have hr11_0 := hr11
        have hr11_0 : r11 = 0 ∨ r11 = 1 := hr11_0
        refine wp_rg (by omega) ?_
        refine wp_if (fun c2 => ?_) (fun c2 => ?_)
        · skip
          unfold m_x12_heldMany_J23
          exact ih4 x1 (x2 + 1) (by show 0 ≤ x1 ∧ x1 ≤ (x2 + 1) ∧ (x2 + 1) ≤ 48; omega) (by omega)
        · skip
          unfold m_x12_heldMany_J23
          exact ih4 (x1 + 1) (x2 + 1) (by show 0 ≤ (x1 + 1) ∧ (x1 + 1) ≤ (x2 + 1) ∧ (x2 + 1) ≤ 48; omega) (by omega)
  exact L4 FU 0 0 (by show 0 ≤ (0 : Int) ∧ (0 : Int) ≤ (0 : Int) ∧ (0 : Int) ≤ 48; omega) (by have := FU_big; have := FU_big2; omega)
set_option maxHeartbeats 1000000 in
theorem w_x12_freeMany {s : MS} (hRs : Rr s) (hp0 : 0 ≤ gA s 39 5 ∧ gA s 39 5 ≤ 48) : wp (m_x12_freeMany s) (fun r => (R2 r)) := by
  unfold m_x12_freeMany
  refine wp_bn (w_x12_blockMany hRs) (fun r2 er2 hr2 => ?_)
  have hr2_0 := hr2
  have hr2_0 : r2 = gA s 39 5 := hr2_0
  refine wp_bn (w_x12_usedMany hRs (by show 0 ≤ gA s 39 5 ∧ gA s 39 5 ≤ 48; omega)) (fun r4 er4 hr4 => ?_)
  have hr4_0 := hr4
  have hr4_0 : 0 ≤ r4 ∧ r4 ≤ 48 := hr4_0
  refine wp_bn (w_x12_heldMany hRs (by show 0 ≤ gA s 39 5 ∧ gA s 39 5 ≤ 48; omega)) (fun r6 er6 hr6 => ?_)
  have hr6_0 := hr6
  have hr6_0 : 0 ≤ r6 ∧ r6 ≤ 48 := hr6_0
  exact wp_some (by show R2 ((r2 - r4) - r6); omega)
set_option maxHeartbeats 1000000 in
theorem w_x12_volumeMany {s : MS} (hRs : Rr s) : wp (m_x12_volumeMany s) (fun r => (0 ≤ r ∧ r ≤ 8)) := by
  unfold m_x12_volumeMany
  have L4 : ∀ (n : Nat) (x1 : Int) (x2 : Int), (0 ≤ x1 ∧ x1 ≤ x2 ∧ x2 ≤ 8) → (8 - x2) < (n : Int) → wp (m_x12_volumeMany_L4 s n x1 x2) (fun r => (0 ≤ r ∧ r ≤ 8)) := by
    refine fr_ind (fun x1 x2 hv4_0 hm4 => ?_) (fun n4 ih4 x1 x2 hv4_0 hm4 => ?_)
    · exfalso; omega
    · show wp (m_x12_volumeMany_b4 s (m_x12_volumeMany_L4 s n4) x1 x2) _
      unfold m_x12_volumeMany_b4
      refine wp_rg (by omega) ?_
      refine wp_if (fun c1 => ?_) (fun c1 => ?_)
      · skip
        exact wp_some (by show 0 ≤ x1 ∧ x1 ≤ 8; omega)
      · skip
        refine wp_rg (by omega) ?_
        refine wp_bn (w_x12_isVolume hRs (by show R8 x2; omega)) (fun r9 er9 hr9 => ?_)
        have hr9_0 := hr9
        have hr9_0 : (r9 = 1 ∧ (0 ≤ x2 ∧ x2 < 8) ∧ gI s 47 ≠ 0 ∧ gA s 49 x2.toNat ≠ 255) ∨ r9 = 0 := hr9_0
        refine wp_rg (by have : (0 : Int) ≤ gI s 47 ∧ gI s 47 ≤ 1 := hRs.1 47; omega) ?_
        refine wp_if (fun c2 => ?_) (fun c2 => ?_)
        · skip
          unfold m_x12_volumeMany_J22
          exact ih4 x1 (x2 + 1) (by show 0 ≤ x1 ∧ x1 ≤ (x2 + 1) ∧ (x2 + 1) ≤ 8; have : (0 : Int) ≤ gI s 47 ∧ gI s 47 ≤ 1 := hRs.1 47; omega) (by have : (0 : Int) ≤ gI s 47 ∧ gI s 47 ≤ 1 := hRs.1 47; omega)
        · skip
          unfold m_x12_volumeMany_J22
          exact ih4 (x1 + 1) (x2 + 1) (by show 0 ≤ (x1 + 1) ∧ (x1 + 1) ≤ (x2 + 1) ∧ (x2 + 1) ≤ 8; have : (0 : Int) ≤ gI s 47 ∧ gI s 47 ≤ 1 := hRs.1 47; omega) (by have : (0 : Int) ≤ gI s 47 ∧ gI s 47 ≤ 1 := hRs.1 47; omega)
  exact L4 FU 0 0 (by show 0 ≤ (0 : Int) ∧ (0 : Int) ≤ (0 : Int) ∧ (0 : Int) ≤ 8; omega) (by have := FU_big; have := FU_big2; omega)
set_option maxHeartbeats 1000000 in
theorem w_x12_has {p0 : Int} {s : MS} (hRs : Rr s) (hp0 : R2 p0) (hp1 : 0 ≤ gA s 39 5 ∧ gA s 39 5 ≤ 48) : wp (m_x12_has p0 s) (fun r => True) := by
  unfold m_x12_has
  refine wp_rg (by omega) ?_
  refine wp_if (fun c1 => ?_) (fun c1 => ?_)
  · skip
    refine wp_bn (w_x12_blockMany hRs) (fun r4 er4 hr4 => ?_)
    have hr4_0 := hr4
    have hr4_0 : r4 = gA s 39 5 := hr4_0
    exact wp_some (trivial)
  · skip
    refine wp_if (fun c2 => ?_) (fun c2 => ?_)
    · skip
      refine wp_bn (w_x12_volumeMany hRs) (fun r7 er7 hr7 => ?_)
      have hr7_0 := hr7
      have hr7_0 : 0 ≤ r7 ∧ r7 ≤ 8 := hr7_0
      exact wp_some (trivial)
    · skip
      refine wp_if (fun c3 => ?_) (fun c3 => ?_)
      · skip
        refine wp_bn (w_x12_usedMany hRs (by show 0 ≤ gA s 39 5 ∧ gA s 39 5 ≤ 48; omega)) (fun r10 er10 hr10 => ?_)
        have hr10_0 := hr10
        have hr10_0 : 0 ≤ r10 ∧ r10 ≤ 48 := hr10_0
        exact wp_some (trivial)
      · skip
        refine wp_if (fun c4 => ?_) (fun c4 => ?_)
        · skip
          refine wp_bn (w_x12_heldMany hRs (by show 0 ≤ gA s 39 5 ∧ gA s 39 5 ≤ 48; omega)) (fun r13 er13 hr13 => ?_)
          have hr13_0 := hr13
          have hr13_0 : 0 ≤ r13 ∧ r13 ≤ 48 := hr13_0
          exact wp_some (trivial)
        · skip
          refine wp_if (fun c5 => ?_) (fun c5 => ?_)
          · skip
            refine wp_bn (w_x12_freeMany hRs (by show 0 ≤ gA s 39 5 ∧ gA s 39 5 ≤ 48; omega)) (fun r16 er16 hr16 => ?_)
            have hr16_0 := hr16
            have hr16_0 : R2 r16 := hr16_0
            exact wp_some (trivial)
          · skip
            refine wp_if (fun c6 => ?_) (fun c6 => ?_)
            · skip
              refine wp_rdIn (by omega) (fun y18 ey18 => ?_)
              have by18 : (-2147483648 : Int) ≤ y18 ∧ y18 ≤ 2147483647 := ey18 ▸ hRs.2.1 49 _ (by show _ < 906; omega)
              exact wp_some (trivial)
            · skip
              refine wp_if (fun c7 => ?_) (fun c7 => ?_)
              · skip
                refine wp_rdIn (by omega) (fun y20 ey20 => ?_)
                have by20 : (-2147483648 : Int) ≤ y20 ∧ y20 ≤ 2147483647 := ey20 ▸ hRs.2.1 49 _ (by show _ < 906; omega)
                exact wp_some (trivial)
              · skip
                refine wp_if (fun c8 => ?_) (fun c8 => ?_)
                · skip
                  exact wp_some (trivial)
                · skip
                  refine wp_if (fun c9 => ?_) (fun c9 => ?_)
                  · skip
                    exact wp_some (trivial)
                  · skip
                    refine wp_if (fun c10 => ?_) (fun c10 => ?_)
                    · skip
                      refine wp_bn (w_x12_roomOf hRs) (fun r25 er25 hr25 => ?_)
                      have hr25_0 := hr25
                      have hr25_0 : r25 = gA s 39 6 := hr25_0
                      exact wp_some (trivial)
                    · skip
                      exact wp_some (trivial)
set_option maxHeartbeats 1000000 in
theorem w_x12_putsAside {s : MS} (hRs : Rr s) : wp (m_x12_putsAside s) (fun o => (Rr o) ∧ (∀ j, j < 785 → gA o 61 j = gA s 49 j)) := by
  unfold m_x12_putsAside
  have L2 : ∀ (n : Nat) (x1 : Int) (s2 : MS), Rr s2 → (0 ≤ x1 ∧ x1 ≤ 785) → (∀ j : Nat, (j : Int) < x1 → gA s2 61 j = gA s 49 j) → (gA s2 49 = gA s 49) → (785 - x1) < (n : Int) → wp (m_x12_putsAside_L2 n x1 s2) (fun o => (Rr o) ∧ (∀ j, j < 785 → gA o 61 j = gA s 49 j)) := by
    refine fr_ind (fun x1 s2 hRs2 hv2_0 hv2_1 hv2_2 hm2 => ?_) (fun n2 ih2 x1 s2 hRs2 hv2_0 hv2_1 hv2_2 hm2 => ?_)
    · exfalso; omega
    · show wp (m_x12_putsAside_b2 (m_x12_putsAside_L2 n2) x1 s2) _
      unfold m_x12_putsAside_b2
      refine wp_rg (by omega) ?_
      refine wp_if (fun c1 => ?_) (fun c1 => ?_)
      · skip
        refine wp_bn (w_x12_clearsTouched hRs2) (fun s6 es6 hs6 => ?_)
        have Fs6 : F_x12_clearsTouched s2 s6 := fr_x12_clearsTouched es6
        have hRs6 := hs6
        exact wp_some ⟨hRs6, fun j hj => by rw [(Fs6.2.1 61 (by decide))]; exact hv2_1 j (by omega)⟩
      · skip
        refine wp_rdIn (by omega) (fun y7 ey7 => ?_)
        have by7 : (-2147483648 : Int) ≤ y7 ∧ y7 ≤ 2147483647 := ey7 ▸ hRs2.2.1 49 _ (by show _ < 906; omega)
        have r7 : R2 y7 := ey7 ▸ R49 hRs2 (by omega)
        refine wp_inb (by omega) ?_
        refine wp_stn (fun s9 es9 => ?_)
        have hRs9 : Rr s9 := es9 ▸ Rr.uAu hRs2 (by show (-2147483648 : Int) ≤ y7 ∧ y7 ≤ 2147483647; omega)
        exact ih2 (x1 + 1) s9 hRs9 (by show 0 ≤ (x1 + 1) ∧ (x1 + 1) ≤ 785; omega) (fun j hj => by
          rw [(q_AA es9 : gA s9 61 = _)]
          by_cases z : j = x1.toNat
          · rw [z, upZ_s, ← ey7, hv2_2]
          · rw [upZ_n z]; exact hv2_1 j (by omega)) (((q_Aa es9 (by decide) : gA s9 49 = gA s2 49)).trans hv2_2) (by omega)
  exact L2 FU 0 s hRs (by show 0 ≤ (0 : Int) ∧ (0 : Int) ≤ 785; omega) (fun j hj => by omega) (rfl) (by have := FU_big; have := FU_big2; omega)
set_option maxHeartbeats 1000000 in
theorem w_x12_takesBack {s : MS} (hRs : Rr s) : wp (m_x12_takesBack s) (fun o => (Rr o) ∧ (∀ j, j < 785 → gA o 49 j = gA s 61 j) ∧ (∀ j, 785 ≤ j → gA o 49 j = gA s 49 j)) := by
  unfold m_x12_takesBack
  have L2 : ∀ (n : Nat) (x1 : Int) (s2 : MS), Rr s2 → (0 ≤ x1 ∧ x1 ≤ 785) → (∀ j : Nat, (j : Int) < x1 → gA s2 49 j = gA s 61 j) → (∀ j, 785 ≤ j → gA s2 49 j = gA s 49 j) → (gA s2 61 = gA s 61) → (785 - x1) < (n : Int) → wp (m_x12_takesBack_L2 n x1 s2) (fun o => (Rr o) ∧ (∀ j, j < 785 → gA o 49 j = gA s 61 j) ∧ (∀ j, 785 ≤ j → gA o 49 j = gA s 49 j)) := by
    refine fr_ind (fun x1 s2 hRs2 hv2_0 hv2_1 hv2_2 hv2_3 hm2 => ?_) (fun n2 ih2 x1 s2 hRs2 hv2_0 hv2_1 hv2_2 hv2_3 hm2 => ?_)
    · exfalso; omega
    · show wp (m_x12_takesBack_b2 (m_x12_takesBack_L2 n2) x1 s2) _
      unfold m_x12_takesBack_b2
      refine wp_rg (by omega) ?_
      refine wp_if (fun c1 => ?_) (fun c1 => ?_)
      · skip
        exact wp_some ⟨hRs2, fun j hj => hv2_1 j (by omega), hv2_2⟩
      · skip
        refine wp_rdIn (by omega) (fun y5 ey5 => ?_)
        have by5 : (-2147483648 : Int) ≤ y5 ∧ y5 ≤ 2147483647 := ey5 ▸ hRs2.2.1 61 _ (by show _ < 785; omega)
        have r5 : R2 y5 := ey5 ▸ hRs2.2.1 61 _ (by show _ < 785; omega)
        refine wp_inb (by omega) ?_
        refine wp_stn (fun s7 es7 => ?_)
        have hRs7 : Rr s7 := es7 ▸ Rr.uAu hRs2 (by show (-2147483648 : Int) ≤ y5 ∧ y5 ≤ 2147483647; omega)
        exact ih2 (x1 + 1) s7 hRs7 (by show 0 ≤ (x1 + 1) ∧ (x1 + 1) ≤ 785; omega) (fun j hj => by
          rw [(q_AA es7 : gA s7 49 = _)]
          by_cases z : j = x1.toNat
          · rw [z, upZ_s, ← ey5, hv2_3]
          · rw [upZ_n z]; exact hv2_1 j (by omega)) (fun j hj => by rw [(q_AA es7 : gA s7 49 = _), upZ_n (by omega)]; exact hv2_2 j hj) (((q_Aa es7 (by decide) : gA s7 61 = gA s2 61)).trans hv2_3) (by omega)
  exact L2 FU 0 s hRs (by show 0 ≤ (0 : Int) ∧ (0 : Int) ≤ 785; omega) (fun j hj => by omega) (fun _ _ => rfl) (rfl) (by have := FU_big; have := FU_big2; omega)
set_option maxHeartbeats 1000000 in
theorem w_x12_costOf {p0 : Int} {s : MS} (hRs : Rr s) (hp0 : 0 ≤ p0 ∧ p0 < 48) (hp1 : 0 ≤ (hM s).1 p0.toNat ∧ (hM s).1 p0.toNat ≤ 1000) (hp2 : (0 ≤ (hM s).2.1 p0.toNat ∧ (hM s).2.1 p0.toNat ≤ 6)) (hp3 : CE s 2) : wp (m_x12_costOf p0 s) (fun q => (Rr q.2) ∧ (0 ≤ q.1 ∧ q.1 ≤ 99)) := by
  unfold m_x12_costOf
  refine wp_stn (fun s3 es3 => ?_)
  have hRs3 : Rr s3 := es3 ▸ Rr.uI hRs (by show (0 : Int) ≤ p0 ∧ p0 ≤ 47; omega)
  refine wp_bn (w_x12_levelOf hRs3 (by show 0 ≤ p0 ∧ p0 < 48; omega)) (fun r5 er5 hr5 => ?_)
  obtain ⟨hr5_0, hr5_1⟩ := hr5
  have hr5_0 : r5 = (hM s3).1 p0.toNat := hr5_0
  have hr5_1 : R2 r5 := hr5_1
  have e3 : hM s3 = hM s := (eq49 ((q_Ia es3 : gA s3 49 = gA s 49))).1
  rw [e3] at hr5_0
  refine wp_stn (fun s6 es6 => ?_)
  have hRs6 : Rr s6 := es6 ▸ Rr.uI hRs3 (by show (0 : Int) ≤ r5 ∧ r5 ≤ 1000; omega)
  refine wp_bn (w_x12_entriesOf hRs6 (by show 0 ≤ p0 ∧ p0 < 48; omega)) (fun r8 er8 hr8 => ?_)
  obtain ⟨hr8_0, hr8_1⟩ := hr8
  have hr8_0 : r8 = (hM s6).2.1 p0.toNat := hr8_0
  have hr8_1 : R2 r8 := hr8_1
  have e6 : hM s6 = hM s := (eq49 (((q_Ia es6 : gA s6 49 = gA s3 49).trans (q_Ia es3 : gA s3 49 = gA s 49)))).1
  rw [e6] at hr8_0
  refine wp_stn (fun s9 es9 => ?_)
  have hRs9 : Rr s9 := es9 ▸ Rr.uI hRs6 (by show (0 : Int) ≤ r8 ∧ r8 ≤ 6; omega)
  refine wp_bn (w_x12_isCoded hRs9 (by show 0 ≤ (2 : Int) ∧ (2 : Int) ≤ 2; omega)) (fun r11 er11 hr11 => ?_)
  have hr11_0 := hr11
  have hr11_0 : (r11 = 1 ∧ gA s9 42 (3 + (2 : Int).toNat) ≠ -1) ∨ (r11 = 0 ∧ gA s9 42 (3 + (2 : Int).toNat) = -1) := hr11_0
  refine wp_rg (by omega) ?_
  refine wp_if (fun c1 => ?_) (fun c1 => ?_)
  · skip
    unfold m_x12_costOf_J43
    exact wp_some ⟨hRs9, by show 0 ≤ (1 : Int) ∧ (1 : Int) ≤ 99; omega⟩
  · skip
    refine wp_bn (w_x12_codesTell hRs9 (by show 0 ≤ (2 : Int) ∧ (2 : Int) ≤ 2; omega) (CE_eq hp3 ((q_Ia es9 : gA s9 42 = gA s6 42).trans ((q_Ia es6 : gA s6 42 = gA s3 42).trans (q_Ia es3 : gA s3 42 = gA s 42))) ((q_Ia es9 : gA s9 43 = gA s6 43).trans ((q_Ia es6 : gA s6 43 = gA s3 43).trans (q_Ia es3 : gA s3 43 = gA s 43))) ((q_Ia es9 : gA s9 44 = gA s6 44).trans ((q_Ia es6 : gA s6 44 = gA s3 44).trans (q_Ia es3 : gA s3 44 = gA s 44)))) (by show gA s9 42 (3 + (2 : Int).toNat) ≠ -1; omega)) (fun qqrl16 eqrl16s hqrl16s => ?_)
    obtain ⟨qrl16r, qrl16s⟩ := qqrl16
    dsimp only at eqrl16s hqrl16s ⊢
    have Fqrl16s : F_x12_codesTell s9 qrl16s := fr_x12_codesTell eqrl16s
    obtain ⟨hRqrl16s, hqrl16s_0⟩ := hqrl16s
    have hqrl16s_0 : R8 qrl16r := hqrl16s_0
    refine wp_bn (w_x12_clamp hRqrl16s (by show R8 qrl16r; omega)) (fun r18 er18 hr18 => ?_)
    have hr18_0 := hr18
    have hr18_0 : 0 ≤ r18 ∧ r18 ≤ 99 := hr18_0
    unfold m_x12_costOf_J43
    exact wp_some ⟨hRqrl16s, by show 0 ≤ r18 ∧ r18 ≤ 99; omega⟩
set_option maxHeartbeats 1000000 in
theorem w_x12_writtenCost {s : MS} (hRs : Rr s) (hp0 : GN s) : wp (m_x12_writtenCost s) (fun q => (Rr q.2) ∧ (0 ≤ q.1 ∧ q.1 ≤ 4752)) := by
  unfold m_x12_writtenCost
  have L4 : ∀ (n : Nat) (x1 : Int) (x2 : Int) (s3 : MS), Rr s3 → (0 ≤ x2 ∧ x2 ≤ 48) → (0 ≤ x1 ∧ x1 ≤ 99 * x2) → (gA s3 49 = gA s 49 ∧ KR s s3) → (48 - x2) < (n : Int) → wp (m_x12_writtenCost_L4 n x1 x2 s3) (fun q => (Rr q.2) ∧ (0 ≤ q.1 ∧ q.1 ≤ 4752)) := by
    refine fr_ind (fun x1 x2 s3 hRs3 hv4_0 hv4_1 hv4_2 hm4 => ?_) (fun n4 ih4 x1 x2 s3 hRs3 hv4_0 hv4_1 hv4_2 hm4 => ?_)
    · exfalso; omega
    · show wp (m_x12_writtenCost_b4 (m_x12_writtenCost_L4 n4) x1 x2 s3) _
      unfold m_x12_writtenCost_b4
      have e49 := eq49 hv4_2.1
      refine wp_bn (w_x12_blockMany hRs3) (fun r8 er8 hr8 => ?_)
      have hr8_0 := hr8
      have hr8_0 : r8 = gA s3 39 5 := hr8_0
      have k8 : r8 = gA s 39 5 := by rw [hr8_0, hv4_2.2.1]
      have kN := hp0.2.1.1
      refine wp_rg (by omega) ?_
      refine wp_rg (by omega) ?_
      refine wp_if (fun c1 => ?_) (fun c1 => ?_)
      · skip
        exact wp_some ⟨hRs3, by show 0 ≤ x1 ∧ x1 ≤ 4752; omega⟩
      · skip
        refine wp_rdIn (by omega) (fun y12 ey12 => ?_)
        have by12 : (0 : Int) ≤ y12 ∧ y12 ≤ 1 := ey12 ▸ hRs3.2.1 54 _ (by show _ < 48; omega)
        refine wp_rg (by omega) ?_
        refine wp_if (fun c2 => ?_) (fun c2 => ?_)
        · skip
          unfold m_x12_writtenCost_J37
          exact ih4 x1 (x2 + 1) s3 hRs3 (by show 0 ≤ (x2 + 1) ∧ (x2 + 1) ≤ 48; omega) (by show 0 ≤ x1 ∧ x1 ≤ 99 * (x2 + 1); omega) (⟨(rfl).trans hv4_2.1, KR_t hv4_2.2 ⟨rfl, rfl, rfl, rfl⟩⟩) (by omega)
        · skip
          refine wp_bn (w_x12_isUsed hRs3 (by show 0 ≤ x2 ∧ x2 < 48; omega)) (fun r16 er16 hr16 => ?_)
          have hr16_0 := hr16
          have hr16_0 : (r16 = 1 ∧ 0 < cM s3 x2.toNat) ∨ (r16 = 0 ∧ cM s3 x2.toNat ≤ 0) := hr16_0
          have k16 : r16 = 1 → DW s x2.toNat := fun h => by rw [e49.2.2.1] at hr16_0; exact Or.inl (by omega)
          refine wp_rg (by omega) ?_
          refine wp_if (fun c3 => ?_) (fun c3 => ?_)
          · skip
            unfold m_x12_writtenCost_J37
            exact ih4 x1 (x2 + 1) s3 hRs3 (by show 0 ≤ (x2 + 1) ∧ (x2 + 1) ≤ 48; omega) (by show 0 ≤ x1 ∧ x1 ≤ 99 * (x2 + 1); omega) (⟨(rfl).trans hv4_2.1, KR_t hv4_2.2 ⟨rfl, rfl, rfl, rfl⟩⟩) (by omega)
          · skip
            refine wp_bn (w_x12_costOf hRs3 (by show 0 ≤ x2 ∧ x2 < 48; omega) (by show 0 ≤ (hM s3).1 x2.toNat ∧ (hM s3).1 x2.toNat ≤ 1000; have kd := DW_nd hp0.1.1 (b := x2.toNat) (by omega) (k16 (by omega)); rw [e49.1]; omega) (by show (0 ≤ (hM s3).2.1 x2.toNat ∧ (hM s3).2.1 x2.toNat ≤ 6); have kd := DW_nd hp0.1.1 (b := x2.toNat) (by omega) (k16 (by omega)); rw [e49.1]; omega) (CE_eq hp0.2.2.2.2 hv4_2.2.2.1 hv4_2.2.2.2.1 hv4_2.2.2.2.2)) (fun qqr21 eqr21s hqr21s => ?_)
            obtain ⟨qr21r, qr21s⟩ := qqr21
            dsimp only at eqr21s hqr21s ⊢
            have Fqr21s : F_x12_costOf s3 qr21s := fr_x12_costOf eqr21s
            obtain ⟨hRqr21s, hqr21s_0⟩ := hqr21s
            have hqr21s_0 : 0 ≤ qr21r ∧ qr21r ≤ 99 := hqr21s_0
            unfold m_x12_writtenCost_J37
            exact ih4 (x1 + qr21r) (x2 + 1) qr21s hRqr21s (by show 0 ≤ (x2 + 1) ∧ (x2 + 1) ≤ 48; omega) (by show 0 ≤ (x1 + qr21r) ∧ (x1 + qr21r) ≤ 99 * (x2 + 1); omega) (⟨((Fqr21s.2.1 49 (by decide))).trans hv4_2.1, KR_t hv4_2.2 ⟨(Fqr21s.2.1 39 (by decide)), (Fqr21s.2.1 42 (by decide)), (Fqr21s.2.1 43 (by decide)), (Fqr21s.2.1 44 (by decide))⟩⟩) (by omega)
  exact L4 FU 0 0 s hRs (by show 0 ≤ (0 : Int) ∧ (0 : Int) ≤ 48; omega) (by show 0 ≤ (0 : Int) ∧ (0 : Int) ≤ 99 * (0 : Int); omega) (⟨rfl, rfl, rfl, rfl, rfl⟩) (by have := FU_big; have := FU_big2; omega)
set_option maxHeartbeats 1000000 in
theorem w_x12_isKept {p0 : Int} {p1 : Int} {s : MS} (hRs : Rr s) (hp0 : GN s) (hp1 : R2 p0) (hp2 : R2 p1) (hp3 : 0 ≤ gA s 49 16 ∧ gA s 49 16 ≤ 999999) (hp4 : 0 ≤ gA s 49 785 ∧ gA s 49 785 ≤ 40) : wp (m_x12_isKept p0 p1 s) (fun o => (Rr o) ∧ (∀ i, i < 785 → i ≠ 16 → gA o 49 i = gA s 49 i) ∧ (0 ≤ gA o 49 16 ∧ gA o 49 16 ≤ 999999) ∧ (0 ≤ gA o 49 785 ∧ gA o 49 785 ≤ 40)) := by
  have J105 : ∀ (x1 : Int) (x2 : Int) (x3 : Int) (s4 : MS), Rr s4 → (R2 x1 ∧ R2 x2 ∧ (0 ≤ x3 ∧ x3 ≤ 48)) → (∀ i, i < 785 → i ≠ 16 → gA s4 49 i = gA s 49 i) → (0 ≤ gA s4 49 16 ∧ gA s4 49 16 ≤ 999999) → (1 ≤ gA s4 49 785 ∧ gA s4 49 785 ≤ 40) → wp (m_x12_isKept_J105 x1 x2 x3 s4) (fun o => (Rr o) ∧ (∀ i, i < 785 → i ≠ 16 → gA o 49 i = gA s 49 i) ∧ (0 ≤ gA o 49 16 ∧ gA o 49 16 ≤ 999999) ∧ (0 ≤ gA o 49 785 ∧ gA o 49 785 ≤ 40)) := by
    intro x1 x2 x3 s4 hRs4 hj105_0 hj105_1 hj105_2 hj105_3
    unfold m_x12_isKept_J105
    refine wp_rdIn (by omega) (fun y5 ey5 => ?_)
    have by5 : (-2147483648 : Int) ≤ y5 ∧ y5 ≤ 2147483647 := ey5 ▸ hRs4.2.1 49 _ (by show _ < 906; omega)
    have k5 : gA s4 49 785 = y5 := ey5
    refine wp_inb (by omega) ?_
    refine wp_stn (fun s7 es7 => ?_)
    have hRs7 : Rr s7 := es7 ▸ Rr.uAu hRs4 (by show (-2147483648 : Int) ≤ x1 ∧ x1 ≤ 2147483647; omega)
    refine wp_inb (by omega) ?_
    refine wp_stn (fun s9 es9 => ?_)
    have hRs9 : Rr s9 := es9 ▸ Rr.uAu hRs7 (by show (-2147483648 : Int) ≤ x2 ∧ x2 ≤ 2147483647; omega)
    refine wp_inb (by omega) ?_
    refine wp_stn (fun s11 es11 => ?_)
    have hRs11 : Rr s11 := es11 ▸ Rr.uAu hRs9 (by show (-2147483648 : Int) ≤ x3 ∧ x3 ≤ 2147483647; omega)
    have u11 : ∀ i, i < 786 → gA s11 49 i = gA s4 49 i := fun i hi => by rw [(q_AA es11 : gA s11 49 = _), upZ_n (by omega), (q_AA es9 : gA s9 49 = _), upZ_n (by omega), (q_AA es7 : gA s7 49 = _), upZ_n (by omega)]
    exact wp_some ⟨hRs11, fun i hi h16 => by rw [u11 i (by omega)]; exact hj105_1 i hi h16, by rw [u11 16 (by omega)]; exact hj105_2, by rw [u11 785 (by omega)]; omega⟩
  have J42 : ∀ (x22 : Int) (x23 : Int) (x24 : Int) (s25 : MS), Rr s25 → (R2 x22 ∧ R2 x23 ∧ (0 ≤ x24 ∧ x24 ≤ 48)) → (∀ i, i < 785 → i ≠ 16 → gA s25 49 i = gA s 49 i) → (0 ≤ gA s25 49 16 ∧ gA s25 49 16 ≤ 999999) → (0 ≤ gA s25 49 785 ∧ gA s25 49 785 ≤ 40) → wp (m_x12_isKept_J42 x22 x23 x24 s25) (fun o => (Rr o) ∧ (∀ i, i < 785 → i ≠ 16 → gA o 49 i = gA s 49 i) ∧ (0 ≤ gA o 49 16 ∧ gA o 49 16 ≤ 999999) ∧ (0 ≤ gA o 49 785 ∧ gA o 49 785 ≤ 40)) := by
    intro x22 x23 x24 s25 hRs25 hj42_0 hj42_1 hj42_2 hj42_3
    unfold m_x12_isKept_J42
    refine wp_rdIn (by omega) (fun y26 ey26 => ?_)
    have by26 : (-2147483648 : Int) ≤ y26 ∧ y26 ≤ 2147483647 := ey26 ▸ hRs25.2.1 49 _ (by show _ < 906; omega)
    have k26 : gA s25 49 785 = y26 := ey26
    refine wp_rg (by omega) ?_
    refine wp_if (fun c1 => ?_) (fun c1 => ?_)
    · skip
      have L60 : ∀ (n : Nat) (x12 : Int) (x13 : Int) (x14 : Int) (x15 : Int) (s16 : MS), Rr s16 → (R2 x12 ∧ R2 x13 ∧ (0 ≤ x14 ∧ x14 ≤ 48)) → (∀ i, i < 785 → i ≠ 16 → gA s16 49 i = gA s 49 i) → (0 ≤ gA s16 49 16 ∧ gA s16 49 16 ≤ 999999) → (gA s16 49 785 = 40) → (786 ≤ x15 ∧ x15 ≤ 903) → (903 - x15) < (n : Int) → wp (m_x12_isKept_L60 n x12 x13 x14 x15 s16) (fun o => (Rr o) ∧ (∀ i, i < 785 → i ≠ 16 → gA o 49 i = gA s 49 i) ∧ (0 ≤ gA o 49 16 ∧ gA o 49 16 ≤ 999999) ∧ (0 ≤ gA o 49 785 ∧ gA o 49 785 ≤ 40)) := by
        refine fr_ind (fun x12 x13 x14 x15 s16 hRs16 hv60_0 hv60_1 hv60_2 hv60_3 hv60_4 hm60 => ?_) (fun n60 ih60 x12 x13 x14 x15 s16 hRs16 hv60_0 hv60_1 hv60_2 hv60_3 hv60_4 hm60 => ?_)
        · exfalso; omega
        · show wp (m_x12_isKept_b60 (m_x12_isKept_L60 n60) x12 x13 x14 x15 s16) _
          unfold m_x12_isKept_b60
          refine wp_rg (by omega) ?_
          refine wp_if (fun c2 => ?_) (fun c2 => ?_)
          · skip
            exact J105 x12 x13 x14 s16 hRs16 (by show R2 x12 ∧ R2 x13 ∧ (0 ≤ x14 ∧ x14 ≤ 48); omega) (hv60_1) (hv60_2) (by omega)
          · skip
            refine wp_rdIn (by omega) (fun y19 ey19 => ?_)
            have by19 : (-2147483648 : Int) ≤ y19 ∧ y19 ≤ 2147483647 := ey19 ▸ hRs16.2.1 49 _ (by show _ < 906; omega)
            have r19 : R2 y19 := ey19 ▸ R49 hRs16 (by omega)
            refine wp_inb (by omega) ?_
            refine wp_stn (fun s21 es21 => ?_)
            have hRs21 : Rr s21 := es21 ▸ Rr.uAu hRs16 (by show (-2147483648 : Int) ≤ y19 ∧ y19 ≤ 2147483647; omega)
            have u21 : gA s21 49 = upZ (gA s16 49) x15.toNat y19 := q_AA es21
            exact ih60 x12 x13 x14 (x15 + 1) s21 hRs21 (by show R2 x12 ∧ R2 x13 ∧ (0 ≤ x14 ∧ x14 ≤ 48); omega) (fun i hi h16 => by rw [u21, upZ_n (by omega)]; exact hv60_1 i hi h16) (by rw [u21, upZ_n (by omega)]; exact hv60_2) (by rw [u21, upZ_n (by omega)]; exact hv60_3) (by show 786 ≤ (x15 + 1) ∧ (x15 + 1) ≤ 903; omega) (by omega)
      exact L60 FU x22 x23 x24 786 s25 hRs25 (by show R2 x22 ∧ R2 x23 ∧ (0 ≤ x24 ∧ x24 ≤ 48); omega) (hj42_1) (hj42_2) (by omega) (by show 786 ≤ (786 : Int) ∧ (786 : Int) ≤ 903; omega) (by have := FU_big; have := FU_big2; omega)
    · skip
      refine wp_rdIn (by omega) (fun y29 ey29 => ?_)
      have by29 : (-2147483648 : Int) ≤ y29 ∧ y29 ≤ 2147483647 := ey29 ▸ hRs25.2.1 49 _ (by show _ < 906; omega)
      have k29 : gA s25 49 785 = y29 := ey29
      refine wp_inb (by omega) ?_
      refine wp_stn (fun s31 es31 => ?_)
      have hRs31 : Rr s31 := es31 ▸ Rr.uAu hRs25 (by show (-2147483648 : Int) ≤ (y29 + 1) ∧ (y29 + 1) ≤ 2147483647; omega)
      have u31 : gA s31 49 = upZ (gA s25 49) 785 (y29 + 1) := q_AA es31
      exact J105 x22 x23 x24 s31 hRs31 (by show R2 x22 ∧ R2 x23 ∧ (0 ≤ x24 ∧ x24 ≤ 48); omega) (fun i hi h16 => by rw [u31, upZ_n (by omega)]; exact hj42_1 i hi h16) (by rw [u31, upZ_n (by decide)]; exact hj42_2) (by rw [u31, upZ_s]; omega)
  unfold m_x12_isKept
  refine wp_bn (w_x12_writtenMany hRs (by have := hp0.2.1.1; omega)) (fun r33 er33 hr33 => ?_)
  have hr33_0 := hr33
  have hr33_0 : 0 ≤ r33 ∧ r33 ≤ 48 := hr33_0
  refine wp_rdIn (by omega) (fun y34 ey34 => ?_)
  have by34 : (-2147483648 : Int) ≤ y34 ∧ y34 ≤ 2147483647 := ey34 ▸ hRs.2.1 49 _ (by show _ < 906; omega)
  have k34 : gA s 49 16 = y34 := ey34
  refine wp_bn (w_x12_writtenCost hRs (by show GN s; omega)) (fun qqr37 eqr37s hqr37s => ?_)
  obtain ⟨qr37r, qr37s⟩ := qqr37
  dsimp only at eqr37s hqr37s ⊢
  have Fqr37s : F_x12_writtenCost s qr37s := fr_x12_writtenCost eqr37s
  obtain ⟨hRqr37s, hqr37s_0⟩ := hqr37s
  have hqr37s_0 : 0 ≤ qr37r ∧ qr37r ≤ 4752 := hqr37s_0
  refine wp_inb (by omega) ?_
  refine wp_stn (fun s39 es39 => ?_)
  have hRs39 : Rr s39 := es39 ▸ Rr.uAu hRqr37s (by show (-2147483648 : Int) ≤ (y34 + qr37r) ∧ (y34 + qr37r) ≤ 2147483647; omega)
  have u39 : gA s39 49 = upZ (gA s 49) 16 (y34 + qr37r) := by rw [(q_AA es39 : gA s39 49 = _), ((Fqr37s.2.1 49 (by decide)))]; rfl
  refine wp_rdIn (by omega) (fun y40 ey40 => ?_)
  have by40 : (-2147483648 : Int) ≤ y40 ∧ y40 ≤ 2147483647 := ey40 ▸ hRs39.2.1 49 _ (by show _ < 906; omega)
  have k40 : y40 = y34 + qr37r := by rw [← ey40, u39]; exact upZ_s _ _ _
  refine wp_rg (by omega) ?_
  refine wp_if (fun c3 => ?_) (fun c3 => ?_)
  · skip
    exact J42 p0 p1 r33 s39 hRs39 (by show R2 p0 ∧ R2 p1 ∧ (0 ≤ r33 ∧ r33 ≤ 48); omega) (fun i hi h16 => by rw [u39, upZ_n h16]) (by rw [u39, upZ_s]; omega) (by rw [u39, upZ_n (by decide)]; exact hp4)
  · skip
    refine wp_inb (by omega) ?_
    refine wp_stn (fun s44 es44 => ?_)
    have hRs44 : Rr s44 := es44 ▸ Rr.uAu hRs39 (by show (-2147483648 : Int) ≤ (999999 : Int) ∧ (999999 : Int) ≤ 2147483647; omega)
    have u44 : gA s44 49 = upZ (gA s39 49) 16 999999 := q_AA es44
    exact J42 p0 p1 r33 s44 hRs44 (by show R2 p0 ∧ R2 p1 ∧ (0 ≤ r33 ∧ r33 ≤ 48); omega) (fun i hi h16 => by rw [u44, upZ_n h16, u39, upZ_n h16]) (by rw [u44, upZ_s]; omega) (by rw [u44, upZ_n (by decide), u39, upZ_n (by decide)]; exact hp4)
