/-! ===== blocks in use, closed under entries ===== -/
def CL (s : MS) (c : Nat → Int) : Prop := ∀ p : Nat, p < 48 → 0 < c p → Nd (hN s) (gI s 1060) p ∧ 1 ≤ gA s 57 p ∧ (0 < gA s 56 p → ∀ k : Nat, (k : Int) < gA s 57 p → 0 < c (gA s 59 (6 * p + k)).toNat)
theorem CL_of {s : MS} {c r : Nat → Int} (hN48 : gI s 1060 ≤ 48) (hW : WN (hN s) (gI s 1060) c) (hE : Ne (hN s) c) (hD : ∀ x, x < 48 → 0 ≤ df (hN s) c r x) : CL s c := by
  intro p hp hc
  have nd := (hW p hp).2.2 hc
  refine ⟨nd, hE p hp hc, fun hl k hk => ?_⟩
  have kd := (nd.2.2 hl k hk).1
  have h1 : (hN s).2.2 p k = gA s 59 (6 * p + k) := rfl
  rw [h1] at kd
  exact kid_live (r := r) hN48 hW hp hc hl hk (hD _ (by rw [h1]; omega))
set_option maxHeartbeats 1000000 in
theorem w_x8_slot {p0 : Int} {p1 : Int} {s : MS} (hRs : Rg s) : wp (m_x8_slot p0 p1 s) (fun r => (r = p0 * 6 + p1)) := by
  unfold m_x8_slot
  exact wp_some (by show ((p0 * 6) + p1) = p0 * 6 + p1; omega)
set_option maxHeartbeats 1000000 in
theorem w_x8_isVolume {p0 : Int} {s : MS} (hRs : Rg s) (hp0 : R2 p0) : wp (m_x8_isVolume p0 s) (fun r => ((r = 1 ∧ 0 ≤ p0 ∧ p0 < 8 ∧ gA s 60 p0.toNat ≠ -2) ∨ (r = 0 ∧ (p0 < 0 ∨ 8 ≤ p0 ∨ gA s 60 p0.toNat = -2)))) := by
  unfold m_x8_isVolume
  refine wp_rg (by omega) ?_
  refine wp_if (fun c1 => ?_) (fun c1 => ?_)
  · skip
    unfold m_x8_isVolume_J25
    unfold m_x8_isVolume_J26
    refine wp_bo (by omega) ?_
    exact wp_some (by show ((0 : Int) = 1 ∧ 0 ≤ p0 ∧ p0 < 8 ∧ gA s 60 p0.toNat ≠ -2) ∨ ((0 : Int) = 0 ∧ (p0 < 0 ∨ 8 ≤ p0 ∨ gA s 60 p0.toNat = -2)); omega)
  · skip
    refine wp_rg (by omega) ?_
    refine wp_if (fun c2 => ?_) (fun c2 => ?_)
    · skip
      unfold m_x8_isVolume_J25
      unfold m_x8_isVolume_J26
      refine wp_bo (by omega) ?_
      exact wp_some (by show ((0 : Int) = 1 ∧ 0 ≤ p0 ∧ p0 < 8 ∧ gA s 60 p0.toNat ≠ -2) ∨ ((0 : Int) = 0 ∧ (p0 < 0 ∨ 8 ≤ p0 ∨ gA s 60 p0.toNat = -2)); omega)
    · skip
      refine wp_rdIn (by omega) (fun y7 ey7 => ?_)
      have by7 : (-2 : Int) ≤ y7 ∧ y7 ≤ 253 := ey7 ▸ hRs.2.1 60 _ (by show _ < 8; omega)
      refine wp_rg (by omega) ?_
      refine wp_if (fun c3 => ?_) (fun c3 => ?_)
      · skip
        unfold m_x8_isVolume_J25
        unfold m_x8_isVolume_J26
        refine wp_bo (by omega) ?_
        exact wp_some (by show ((0 : Int) = 1 ∧ 0 ≤ p0 ∧ p0 < 8 ∧ gA s 60 p0.toNat ≠ -2) ∨ ((0 : Int) = 0 ∧ (p0 < 0 ∨ 8 ≤ p0 ∨ gA s 60 p0.toNat = -2)); omega)
      · skip
        unfold m_x8_isVolume_J26
        refine wp_bo (by omega) ?_
        exact wp_some (by show ((1 : Int) = 1 ∧ 0 ≤ p0 ∧ p0 < 8 ∧ gA s 60 p0.toNat ≠ -2) ∨ ((1 : Int) = 0 ∧ (p0 < 0 ∨ 8 ≤ p0 ∨ gA s 60 p0.toNat = -2)); omega)
set_option maxHeartbeats 1000000 in
theorem w_x8_isBlock {p0 : Int} {s : MS} (hRs : Rg s) (hp0 : R2 p0) : wp (m_x8_isBlock p0 s) (fun r => ((r = 1 ∧ 0 ≤ p0 ∧ p0 < gI s 1060) ∨ (r = 0 ∧ (p0 < 0 ∨ gI s 1060 ≤ p0)))) := by
  unfold m_x8_isBlock
  refine wp_rg (by omega) ?_
  refine wp_if (fun c1 => ?_) (fun c1 => ?_)
  · skip
    unfold m_x8_isBlock_J16
    unfold m_x8_isBlock_J17
    refine wp_bo (by omega) ?_
    exact wp_some (by show ((0 : Int) = 1 ∧ 0 ≤ p0 ∧ p0 < gI s 1060) ∨ ((0 : Int) = 0 ∧ (p0 < 0 ∨ gI s 1060 ≤ p0)); have : (0 : Int) ≤ gI s 1060 ∧ gI s 1060 ≤ 48 := hRs.1 1060; omega)
  · skip
    refine wp_rg (by omega) ?_
    refine wp_rg (by have : (0 : Int) ≤ gI s 1060 ∧ gI s 1060 ≤ 48 := hRs.1 1060; omega) ?_
    refine wp_if (fun c2 => ?_) (fun c2 => ?_)
    · skip
      unfold m_x8_isBlock_J16
      unfold m_x8_isBlock_J17
      refine wp_bo (by have : (0 : Int) ≤ gI s 1060 ∧ gI s 1060 ≤ 48 := hRs.1 1060; omega) ?_
      exact wp_some (by show ((0 : Int) = 1 ∧ 0 ≤ p0 ∧ p0 < gI s 1060) ∨ ((0 : Int) = 0 ∧ (p0 < 0 ∨ gI s 1060 ≤ p0)); have : (0 : Int) ≤ gI s 1060 ∧ gI s 1060 ≤ 48 := hRs.1 1060; omega)
    · skip
      unfold m_x8_isBlock_J17
      refine wp_bo (by have : (0 : Int) ≤ gI s 1060 ∧ gI s 1060 ≤ 48 := hRs.1 1060; omega) ?_
      exact wp_some (by show ((1 : Int) = 1 ∧ 0 ≤ p0 ∧ p0 < gI s 1060) ∨ ((1 : Int) = 0 ∧ (p0 < 0 ∨ gI s 1060 ≤ p0)); have : (0 : Int) ≤ gI s 1060 ∧ gI s 1060 ≤ 48 := hRs.1 1060; omega)
set_option maxHeartbeats 1000000 in
theorem w_x8_inUse {p0 : Int} {s : MS} (hRs : Rg s) (hp0 : R2 p0) : wp (m_x8_inUse p0 s) (fun r => ((r = 1 ∧ 0 ≤ p0 ∧ p0 < gI s 1060 ∧ 0 < gA s 54 p0.toNat) ∨ (r = 0 ∧ (p0 < 0 ∨ gI s 1060 ≤ p0 ∨ ¬ (0 < gA s 54 p0.toNat))))) := by
  unfold m_x8_inUse
  refine wp_bn (w_x8_isBlock hRs (by show R2 p0; omega)) (fun r4 er4 hr4 => ?_)
  have hr4_0 := hr4
  have hr4_0 : (r4 = 1 ∧ 0 ≤ p0 ∧ p0 < gI s 1060) ∨ (r4 = 0 ∧ (p0 < 0 ∨ gI s 1060 ≤ p0)) := hr4_0
  refine wp_rg (by have : (0 : Int) ≤ gI s 1060 ∧ gI s 1060 ≤ 48 := hRs.1 1060; omega) ?_
  refine wp_if (fun c1 => ?_) (fun c1 => ?_)
  · skip
    unfold m_x8_inUse_J21
    unfold m_x8_inUse_J22
    refine wp_bo (by have : (0 : Int) ≤ gI s 1060 ∧ gI s 1060 ≤ 48 := hRs.1 1060; omega) ?_
    exact wp_some (by show ((0 : Int) = 1 ∧ 0 ≤ p0 ∧ p0 < gI s 1060 ∧ 0 < gA s 54 p0.toNat) ∨ ((0 : Int) = 0 ∧ (p0 < 0 ∨ gI s 1060 ≤ p0 ∨ ¬ (0 < gA s 54 p0.toNat))); have : (0 : Int) ≤ gI s 1060 ∧ gI s 1060 ≤ 48 := hRs.1 1060; omega)
  · skip
    refine wp_rdIn (by have : (0 : Int) ≤ gI s 1060 ∧ gI s 1060 ≤ 48 := hRs.1 1060; omega) (fun y7 ey7 => ?_)
    have by7 : (-1 : Int) ≤ y7 ∧ y7 ≤ 100000 := ey7 ▸ hRs.2.1 54 _ (by show _ < 48; have : (0 : Int) ≤ gI s 1060 ∧ gI s 1060 ≤ 48 := hRs.1 1060; omega)
    refine wp_rg (by have : (0 : Int) ≤ gI s 1060 ∧ gI s 1060 ≤ 48 := hRs.1 1060; omega) ?_
    refine wp_if (fun c2 => ?_) (fun c2 => ?_)
    · skip
      unfold m_x8_inUse_J21
      unfold m_x8_inUse_J22
      refine wp_bo (by have : (0 : Int) ≤ gI s 1060 ∧ gI s 1060 ≤ 48 := hRs.1 1060; omega) ?_
      exact wp_some (by show ((0 : Int) = 1 ∧ 0 ≤ p0 ∧ p0 < gI s 1060 ∧ 0 < gA s 54 p0.toNat) ∨ ((0 : Int) = 0 ∧ (p0 < 0 ∨ gI s 1060 ≤ p0 ∨ ¬ (0 < gA s 54 p0.toNat))); have : (0 : Int) ≤ gI s 1060 ∧ gI s 1060 ≤ 48 := hRs.1 1060; omega)
    · skip
      unfold m_x8_inUse_J22
      refine wp_bo (by have : (0 : Int) ≤ gI s 1060 ∧ gI s 1060 ≤ 48 := hRs.1 1060; omega) ?_
      exact wp_some (by show ((1 : Int) = 1 ∧ 0 ≤ p0 ∧ p0 < gI s 1060 ∧ 0 < gA s 54 p0.toNat) ∨ ((1 : Int) = 0 ∧ (p0 < 0 ∨ gI s 1060 ≤ p0 ∨ ¬ (0 < gA s 54 p0.toNat))); have : (0 : Int) ≤ gI s 1060 ∧ gI s 1060 ≤ 48 := hRs.1 1060; omega)
set_option maxHeartbeats 1000000 in
theorem w_x8_isHeld {p0 : Int} {s : MS} (hRs : Rg s) (hp0 : R2 p0) : wp (m_x8_isHeld p0 s) (fun r => ((r = 1 ∧ 0 ≤ p0 ∧ p0 < gI s 1060 ∧ gA s 54 p0.toNat = 0 ∧ 0 < gA s 55 p0.toNat) ∨ (r = 0 ∧ (p0 < 0 ∨ gI s 1060 ≤ p0 ∨ ¬ (gA s 54 p0.toNat = 0 ∧ 0 < gA s 55 p0.toNat))))) := by
  unfold m_x8_isHeld
  refine wp_bn (w_x8_isBlock hRs (by show R2 p0; omega)) (fun r4 er4 hr4 => ?_)
  have hr4_0 := hr4
  have hr4_0 : (r4 = 1 ∧ 0 ≤ p0 ∧ p0 < gI s 1060) ∨ (r4 = 0 ∧ (p0 < 0 ∨ gI s 1060 ≤ p0)) := hr4_0
  refine wp_rg (by have : (0 : Int) ≤ gI s 1060 ∧ gI s 1060 ≤ 48 := hRs.1 1060; omega) ?_
  refine wp_if (fun c1 => ?_) (fun c1 => ?_)
  · skip
    unfold m_x8_isHeld_J30
    unfold m_x8_isHeld_J31
    refine wp_bo (by have : (0 : Int) ≤ gI s 1060 ∧ gI s 1060 ≤ 48 := hRs.1 1060; omega) ?_
    exact wp_some (by show ((0 : Int) = 1 ∧ 0 ≤ p0 ∧ p0 < gI s 1060 ∧ gA s 54 p0.toNat = 0 ∧ 0 < gA s 55 p0.toNat) ∨ ((0 : Int) = 0 ∧ (p0 < 0 ∨ gI s 1060 ≤ p0 ∨ ¬ (gA s 54 p0.toNat = 0 ∧ 0 < gA s 55 p0.toNat))); have : (0 : Int) ≤ gI s 1060 ∧ gI s 1060 ≤ 48 := hRs.1 1060; omega)
  · skip
    refine wp_rdIn (by have : (0 : Int) ≤ gI s 1060 ∧ gI s 1060 ≤ 48 := hRs.1 1060; omega) (fun y7 ey7 => ?_)
    have by7 : (-1 : Int) ≤ y7 ∧ y7 ≤ 100000 := ey7 ▸ hRs.2.1 54 _ (by show _ < 48; have : (0 : Int) ≤ gI s 1060 ∧ gI s 1060 ≤ 48 := hRs.1 1060; omega)
    refine wp_rg (by have : (0 : Int) ≤ gI s 1060 ∧ gI s 1060 ≤ 48 := hRs.1 1060; omega) ?_
    refine wp_if (fun c2 => ?_) (fun c2 => ?_)
    · skip
      refine wp_rdIn (by have : (0 : Int) ≤ gI s 1060 ∧ gI s 1060 ≤ 48 := hRs.1 1060; omega) (fun y10 ey10 => ?_)
      have by10 : (-1 : Int) ≤ y10 ∧ y10 ≤ 100000 := ey10 ▸ hRs.2.1 55 _ (by show _ < 48; have : (0 : Int) ≤ gI s 1060 ∧ gI s 1060 ≤ 48 := hRs.1 1060; omega)
      refine wp_rg (by have : (0 : Int) ≤ gI s 1060 ∧ gI s 1060 ≤ 48 := hRs.1 1060; omega) ?_
      refine wp_if (fun c3 => ?_) (fun c3 => ?_)
      · skip
        unfold m_x8_isHeld_J30
        unfold m_x8_isHeld_J31
        refine wp_bo (by have : (0 : Int) ≤ gI s 1060 ∧ gI s 1060 ≤ 48 := hRs.1 1060; omega) ?_
        exact wp_some (by show ((0 : Int) = 1 ∧ 0 ≤ p0 ∧ p0 < gI s 1060 ∧ gA s 54 p0.toNat = 0 ∧ 0 < gA s 55 p0.toNat) ∨ ((0 : Int) = 0 ∧ (p0 < 0 ∨ gI s 1060 ≤ p0 ∨ ¬ (gA s 54 p0.toNat = 0 ∧ 0 < gA s 55 p0.toNat))); have : (0 : Int) ≤ gI s 1060 ∧ gI s 1060 ≤ 48 := hRs.1 1060; omega)
      · skip
        unfold m_x8_isHeld_J31
        refine wp_bo (by have : (0 : Int) ≤ gI s 1060 ∧ gI s 1060 ≤ 48 := hRs.1 1060; omega) ?_
        exact wp_some (by show ((1 : Int) = 1 ∧ 0 ≤ p0 ∧ p0 < gI s 1060 ∧ gA s 54 p0.toNat = 0 ∧ 0 < gA s 55 p0.toNat) ∨ ((1 : Int) = 0 ∧ (p0 < 0 ∨ gI s 1060 ≤ p0 ∨ ¬ (gA s 54 p0.toNat = 0 ∧ 0 < gA s 55 p0.toNat))); have : (0 : Int) ≤ gI s 1060 ∧ gI s 1060 ≤ 48 := hRs.1 1060; omega)
    · skip
      unfold m_x8_isHeld_J30
      unfold m_x8_isHeld_J31
      refine wp_bo (by have : (0 : Int) ≤ gI s 1060 ∧ gI s 1060 ≤ 48 := hRs.1 1060; omega) ?_
      exact wp_some (by show ((0 : Int) = 1 ∧ 0 ≤ p0 ∧ p0 < gI s 1060 ∧ gA s 54 p0.toNat = 0 ∧ 0 < gA s 55 p0.toNat) ∨ ((0 : Int) = 0 ∧ (p0 < 0 ∨ gI s 1060 ≤ p0 ∨ ¬ (gA s 54 p0.toNat = 0 ∧ 0 < gA s 55 p0.toNat))); have : (0 : Int) ≤ gI s 1060 ∧ gI s 1060 ≤ 48 := hRs.1 1060; omega)
set_option maxHeartbeats 1000000 in
theorem w_x8_isFresh {p0 : Int} {s : MS} (hRs : Rg s) (hp0 : R2 p0) : wp (m_x8_isFresh p0 s) (fun r => ((r = 1 ∧ 0 ≤ p0 ∧ p0 < gI s 1060 ∧ 0 < gA s 54 p0.toNat ∧ gA s 55 p0.toNat = 0) ∨ (r = 0 ∧ (p0 < 0 ∨ gI s 1060 ≤ p0 ∨ ¬ (0 < gA s 54 p0.toNat ∧ gA s 55 p0.toNat = 0))))) := by
  unfold m_x8_isFresh
  refine wp_bn (w_x8_isBlock hRs (by show R2 p0; omega)) (fun r4 er4 hr4 => ?_)
  have hr4_0 := hr4
  have hr4_0 : (r4 = 1 ∧ 0 ≤ p0 ∧ p0 < gI s 1060) ∨ (r4 = 0 ∧ (p0 < 0 ∨ gI s 1060 ≤ p0)) := hr4_0
  refine wp_rg (by have : (0 : Int) ≤ gI s 1060 ∧ gI s 1060 ≤ 48 := hRs.1 1060; omega) ?_
  refine wp_if (fun c1 => ?_) (fun c1 => ?_)
  · skip
    unfold m_x8_isFresh_J30
    unfold m_x8_isFresh_J31
    refine wp_bo (by have : (0 : Int) ≤ gI s 1060 ∧ gI s 1060 ≤ 48 := hRs.1 1060; omega) ?_
    exact wp_some (by show ((0 : Int) = 1 ∧ 0 ≤ p0 ∧ p0 < gI s 1060 ∧ 0 < gA s 54 p0.toNat ∧ gA s 55 p0.toNat = 0) ∨ ((0 : Int) = 0 ∧ (p0 < 0 ∨ gI s 1060 ≤ p0 ∨ ¬ (0 < gA s 54 p0.toNat ∧ gA s 55 p0.toNat = 0))); have : (0 : Int) ≤ gI s 1060 ∧ gI s 1060 ≤ 48 := hRs.1 1060; omega)
  · skip
    refine wp_rdIn (by have : (0 : Int) ≤ gI s 1060 ∧ gI s 1060 ≤ 48 := hRs.1 1060; omega) (fun y7 ey7 => ?_)
    have by7 : (-1 : Int) ≤ y7 ∧ y7 ≤ 100000 := ey7 ▸ hRs.2.1 54 _ (by show _ < 48; have : (0 : Int) ≤ gI s 1060 ∧ gI s 1060 ≤ 48 := hRs.1 1060; omega)
    refine wp_rg (by have : (0 : Int) ≤ gI s 1060 ∧ gI s 1060 ≤ 48 := hRs.1 1060; omega) ?_
    refine wp_if (fun c2 => ?_) (fun c2 => ?_)
    · skip
      unfold m_x8_isFresh_J30
      unfold m_x8_isFresh_J31
      refine wp_bo (by have : (0 : Int) ≤ gI s 1060 ∧ gI s 1060 ≤ 48 := hRs.1 1060; omega) ?_
      exact wp_some (by show ((0 : Int) = 1 ∧ 0 ≤ p0 ∧ p0 < gI s 1060 ∧ 0 < gA s 54 p0.toNat ∧ gA s 55 p0.toNat = 0) ∨ ((0 : Int) = 0 ∧ (p0 < 0 ∨ gI s 1060 ≤ p0 ∨ ¬ (0 < gA s 54 p0.toNat ∧ gA s 55 p0.toNat = 0))); have : (0 : Int) ≤ gI s 1060 ∧ gI s 1060 ≤ 48 := hRs.1 1060; omega)
    · skip
      refine wp_rdIn (by have : (0 : Int) ≤ gI s 1060 ∧ gI s 1060 ≤ 48 := hRs.1 1060; omega) (fun y10 ey10 => ?_)
      have by10 : (-1 : Int) ≤ y10 ∧ y10 ≤ 100000 := ey10 ▸ hRs.2.1 55 _ (by show _ < 48; have : (0 : Int) ≤ gI s 1060 ∧ gI s 1060 ≤ 48 := hRs.1 1060; omega)
      refine wp_rg (by have : (0 : Int) ≤ gI s 1060 ∧ gI s 1060 ≤ 48 := hRs.1 1060; omega) ?_
      refine wp_if (fun c3 => ?_) (fun c3 => ?_)
      · skip
        unfold m_x8_isFresh_J31
        refine wp_bo (by have : (0 : Int) ≤ gI s 1060 ∧ gI s 1060 ≤ 48 := hRs.1 1060; omega) ?_
        exact wp_some (by show ((1 : Int) = 1 ∧ 0 ≤ p0 ∧ p0 < gI s 1060 ∧ 0 < gA s 54 p0.toNat ∧ gA s 55 p0.toNat = 0) ∨ ((1 : Int) = 0 ∧ (p0 < 0 ∨ gI s 1060 ≤ p0 ∨ ¬ (0 < gA s 54 p0.toNat ∧ gA s 55 p0.toNat = 0))); have : (0 : Int) ≤ gI s 1060 ∧ gI s 1060 ≤ 48 := hRs.1 1060; omega)
      · skip
        unfold m_x8_isFresh_J30
        unfold m_x8_isFresh_J31
        refine wp_bo (by have : (0 : Int) ≤ gI s 1060 ∧ gI s 1060 ≤ 48 := hRs.1 1060; omega) ?_
        exact wp_some (by show ((0 : Int) = 1 ∧ 0 ≤ p0 ∧ p0 < gI s 1060 ∧ 0 < gA s 54 p0.toNat ∧ gA s 55 p0.toNat = 0) ∨ ((0 : Int) = 0 ∧ (p0 < 0 ∨ gI s 1060 ≤ p0 ∨ ¬ (0 < gA s 54 p0.toNat ∧ gA s 55 p0.toNat = 0))); have : (0 : Int) ≤ gI s 1060 ∧ gI s 1060 ≤ 48 := hRs.1 1060; omega)
set_option maxHeartbeats 1000000 in
theorem w_x8_isFree {p0 : Int} {s : MS} (hRs : Rg s) (hp0 : R2 p0) : wp (m_x8_isFree p0 s) (fun r => ((r = 1 ∧ 0 ≤ p0 ∧ p0 < gI s 1060 ∧ gA s 54 p0.toNat = 0 ∧ gA s 55 p0.toNat = 0) ∨ (r = 0 ∧ (p0 < 0 ∨ gI s 1060 ≤ p0 ∨ ¬ (gA s 54 p0.toNat = 0 ∧ gA s 55 p0.toNat = 0))))) := by
  unfold m_x8_isFree
  refine wp_bn (w_x8_isBlock hRs (by show R2 p0; omega)) (fun r4 er4 hr4 => ?_)
  have hr4_0 := hr4
  have hr4_0 : (r4 = 1 ∧ 0 ≤ p0 ∧ p0 < gI s 1060) ∨ (r4 = 0 ∧ (p0 < 0 ∨ gI s 1060 ≤ p0)) := hr4_0
  refine wp_rg (by have : (0 : Int) ≤ gI s 1060 ∧ gI s 1060 ≤ 48 := hRs.1 1060; omega) ?_
  refine wp_if (fun c1 => ?_) (fun c1 => ?_)
  · skip
    unfold m_x8_isFree_J30
    unfold m_x8_isFree_J31
    refine wp_bo (by have : (0 : Int) ≤ gI s 1060 ∧ gI s 1060 ≤ 48 := hRs.1 1060; omega) ?_
    exact wp_some (by show ((0 : Int) = 1 ∧ 0 ≤ p0 ∧ p0 < gI s 1060 ∧ gA s 54 p0.toNat = 0 ∧ gA s 55 p0.toNat = 0) ∨ ((0 : Int) = 0 ∧ (p0 < 0 ∨ gI s 1060 ≤ p0 ∨ ¬ (gA s 54 p0.toNat = 0 ∧ gA s 55 p0.toNat = 0))); have : (0 : Int) ≤ gI s 1060 ∧ gI s 1060 ≤ 48 := hRs.1 1060; omega)
  · skip
    refine wp_rdIn (by have : (0 : Int) ≤ gI s 1060 ∧ gI s 1060 ≤ 48 := hRs.1 1060; omega) (fun y7 ey7 => ?_)
    have by7 : (-1 : Int) ≤ y7 ∧ y7 ≤ 100000 := ey7 ▸ hRs.2.1 54 _ (by show _ < 48; have : (0 : Int) ≤ gI s 1060 ∧ gI s 1060 ≤ 48 := hRs.1 1060; omega)
    refine wp_rg (by have : (0 : Int) ≤ gI s 1060 ∧ gI s 1060 ≤ 48 := hRs.1 1060; omega) ?_
    refine wp_if (fun c2 => ?_) (fun c2 => ?_)
    · skip
      refine wp_rdIn (by have : (0 : Int) ≤ gI s 1060 ∧ gI s 1060 ≤ 48 := hRs.1 1060; omega) (fun y10 ey10 => ?_)
      have by10 : (-1 : Int) ≤ y10 ∧ y10 ≤ 100000 := ey10 ▸ hRs.2.1 55 _ (by show _ < 48; have : (0 : Int) ≤ gI s 1060 ∧ gI s 1060 ≤ 48 := hRs.1 1060; omega)
      refine wp_rg (by have : (0 : Int) ≤ gI s 1060 ∧ gI s 1060 ≤ 48 := hRs.1 1060; omega) ?_
      refine wp_if (fun c3 => ?_) (fun c3 => ?_)
      · skip
        unfold m_x8_isFree_J31
        refine wp_bo (by have : (0 : Int) ≤ gI s 1060 ∧ gI s 1060 ≤ 48 := hRs.1 1060; omega) ?_
        exact wp_some (by show ((1 : Int) = 1 ∧ 0 ≤ p0 ∧ p0 < gI s 1060 ∧ gA s 54 p0.toNat = 0 ∧ gA s 55 p0.toNat = 0) ∨ ((1 : Int) = 0 ∧ (p0 < 0 ∨ gI s 1060 ≤ p0 ∨ ¬ (gA s 54 p0.toNat = 0 ∧ gA s 55 p0.toNat = 0))); have : (0 : Int) ≤ gI s 1060 ∧ gI s 1060 ≤ 48 := hRs.1 1060; omega)
      · skip
        unfold m_x8_isFree_J30
        unfold m_x8_isFree_J31
        refine wp_bo (by have : (0 : Int) ≤ gI s 1060 ∧ gI s 1060 ≤ 48 := hRs.1 1060; omega) ?_
        exact wp_some (by show ((0 : Int) = 1 ∧ 0 ≤ p0 ∧ p0 < gI s 1060 ∧ gA s 54 p0.toNat = 0 ∧ gA s 55 p0.toNat = 0) ∨ ((0 : Int) = 0 ∧ (p0 < 0 ∨ gI s 1060 ≤ p0 ∨ ¬ (gA s 54 p0.toNat = 0 ∧ gA s 55 p0.toNat = 0))); have : (0 : Int) ≤ gI s 1060 ∧ gI s 1060 ≤ 48 := hRs.1 1060; omega)
    · skip
      unfold m_x8_isFree_J30
      unfold m_x8_isFree_J31
      refine wp_bo (by have : (0 : Int) ≤ gI s 1060 ∧ gI s 1060 ≤ 48 := hRs.1 1060; omega) ?_
      exact wp_some (by show ((0 : Int) = 1 ∧ 0 ≤ p0 ∧ p0 < gI s 1060 ∧ gA s 54 p0.toNat = 0 ∧ gA s 55 p0.toNat = 0) ∨ ((0 : Int) = 0 ∧ (p0 < 0 ∨ gI s 1060 ≤ p0 ∨ ¬ (gA s 54 p0.toNat = 0 ∧ gA s 55 p0.toNat = 0))); have : (0 : Int) ≤ gI s 1060 ∧ gI s 1060 ≤ 48 := hRs.1 1060; omega)
set_option maxHeartbeats 1000000 in
theorem w_x8_levelOf {p0 : Int} {s : MS} (hRs : Rg s) (hp0 : R2 p0) : wp (m_x8_levelOf p0 s) (fun r => (r = 0 ∨ (r = gA s 56 p0.toNat ∧ 0 ≤ p0 ∧ p0 < gI s 1060 ∧ (0 < gA s 54 p0.toNat ∨ 0 < gA s 55 p0.toNat))) ∧ ((-1) ≤ r ∧ r ≤ 1000)) := by
  unfold m_x8_levelOf
  refine wp_bn (w_x8_inUse hRs (by show R2 p0; omega)) (fun r5 er5 hr5 => ?_)
  have hr5_0 := hr5
  have hr5_0 : (r5 = 1 ∧ 0 ≤ p0 ∧ p0 < gI s 1060 ∧ 0 < gA s 54 p0.toNat) ∨ (r5 = 0 ∧ (p0 < 0 ∨ gI s 1060 ≤ p0 ∨ ¬ (0 < gA s 54 p0.toNat))) := hr5_0
  refine wp_rg (by have : (0 : Int) ≤ gI s 1060 ∧ gI s 1060 ≤ 48 := hRs.1 1060; omega) ?_
  refine wp_if (fun c1 => ?_) (fun c1 => ?_)
  · skip
    refine wp_bn (w_x8_isHeld hRs (by show R2 p0; have : (0 : Int) ≤ gI s 1060 ∧ gI s 1060 ≤ 48 := hRs.1 1060; omega)) (fun r9 er9 hr9 => ?_)
    have hr9_0 := hr9
    have hr9_0 : (r9 = 1 ∧ 0 ≤ p0 ∧ p0 < gI s 1060 ∧ gA s 54 p0.toNat = 0 ∧ 0 < gA s 55 p0.toNat) ∨ (r9 = 0 ∧ (p0 < 0 ∨ gI s 1060 ≤ p0 ∨ ¬ (gA s 54 p0.toNat = 0 ∧ 0 < gA s 55 p0.toNat))) := hr9_0
    refine wp_rg (by have : (0 : Int) ≤ gI s 1060 ∧ gI s 1060 ≤ 48 := hRs.1 1060; omega) ?_
    refine wp_if (fun c2 => ?_) (fun c2 => ?_)
    · skip
      unfold m_x8_levelOf_J26
      exact wp_some ⟨by show (0 : Int) = 0 ∨ ((0 : Int) = gA s 56 p0.toNat ∧ 0 ≤ p0 ∧ p0 < gI s 1060 ∧ (0 < gA s 54 p0.toNat ∨ 0 < gA s 55 p0.toNat)); have : (0 : Int) ≤ gI s 1060 ∧ gI s 1060 ≤ 48 := hRs.1 1060; omega, by show (-1) ≤ (0 : Int) ∧ (0 : Int) ≤ 1000; have : (0 : Int) ≤ gI s 1060 ∧ gI s 1060 ≤ 48 := hRs.1 1060; omega⟩
    · skip
      unfold m_x8_levelOf_J16
      refine wp_rdIn (by have : (0 : Int) ≤ gI s 1060 ∧ gI s 1060 ≤ 48 := hRs.1 1060; omega) (fun y3 ey3 => ?_)
      have by3 : (-1 : Int) ≤ y3 ∧ y3 ≤ 1000 := ey3 ▸ hRs.2.1 56 _ (by show _ < 48; have : (0 : Int) ≤ gI s 1060 ∧ gI s 1060 ≤ 48 := hRs.1 1060; omega)
      unfold m_x8_levelOf_J26
      exact wp_some ⟨by show y3 = 0 ∨ (y3 = gA s 56 p0.toNat ∧ 0 ≤ p0 ∧ p0 < gI s 1060 ∧ (0 < gA s 54 p0.toNat ∨ 0 < gA s 55 p0.toNat)); have : (0 : Int) ≤ gI s 1060 ∧ gI s 1060 ≤ 48 := hRs.1 1060; omega, by show (-1) ≤ y3 ∧ y3 ≤ 1000; have : (0 : Int) ≤ gI s 1060 ∧ gI s 1060 ≤ 48 := hRs.1 1060; omega⟩
  · skip
    unfold m_x8_levelOf_J16
    refine wp_rdIn (by have : (0 : Int) ≤ gI s 1060 ∧ gI s 1060 ≤ 48 := hRs.1 1060; omega) (fun y3 ey3 => ?_)
    have by3 : (-1 : Int) ≤ y3 ∧ y3 ≤ 1000 := ey3 ▸ hRs.2.1 56 _ (by show _ < 48; have : (0 : Int) ≤ gI s 1060 ∧ gI s 1060 ≤ 48 := hRs.1 1060; omega)
    unfold m_x8_levelOf_J26
    exact wp_some ⟨by show y3 = 0 ∨ (y3 = gA s 56 p0.toNat ∧ 0 ≤ p0 ∧ p0 < gI s 1060 ∧ (0 < gA s 54 p0.toNat ∨ 0 < gA s 55 p0.toNat)); have : (0 : Int) ≤ gI s 1060 ∧ gI s 1060 ≤ 48 := hRs.1 1060; omega, by show (-1) ≤ y3 ∧ y3 ≤ 1000; have : (0 : Int) ≤ gI s 1060 ∧ gI s 1060 ≤ 48 := hRs.1 1060; omega⟩
set_option maxHeartbeats 1000000 in
theorem w_x8_sizeOf {p0 : Int} {s : MS} (hRs : Rg s) (hp0 : R2 p0) : wp (m_x8_sizeOf p0 s) (fun r => (r = 0 ∨ (r = gA s 57 p0.toNat ∧ 0 ≤ p0 ∧ p0 < gI s 1060 ∧ (0 < gA s 54 p0.toNat ∨ 0 < gA s 55 p0.toNat))) ∧ ((-1) ≤ r ∧ r ≤ 255)) := by
  unfold m_x8_sizeOf
  refine wp_bn (w_x8_inUse hRs (by show R2 p0; omega)) (fun r5 er5 hr5 => ?_)
  have hr5_0 := hr5
  have hr5_0 : (r5 = 1 ∧ 0 ≤ p0 ∧ p0 < gI s 1060 ∧ 0 < gA s 54 p0.toNat) ∨ (r5 = 0 ∧ (p0 < 0 ∨ gI s 1060 ≤ p0 ∨ ¬ (0 < gA s 54 p0.toNat))) := hr5_0
  refine wp_rg (by have : (0 : Int) ≤ gI s 1060 ∧ gI s 1060 ≤ 48 := hRs.1 1060; omega) ?_
  refine wp_if (fun c1 => ?_) (fun c1 => ?_)
  · skip
    refine wp_bn (w_x8_isHeld hRs (by show R2 p0; have : (0 : Int) ≤ gI s 1060 ∧ gI s 1060 ≤ 48 := hRs.1 1060; omega)) (fun r9 er9 hr9 => ?_)
    have hr9_0 := hr9
    have hr9_0 : (r9 = 1 ∧ 0 ≤ p0 ∧ p0 < gI s 1060 ∧ gA s 54 p0.toNat = 0 ∧ 0 < gA s 55 p0.toNat) ∨ (r9 = 0 ∧ (p0 < 0 ∨ gI s 1060 ≤ p0 ∨ ¬ (gA s 54 p0.toNat = 0 ∧ 0 < gA s 55 p0.toNat))) := hr9_0
    refine wp_rg (by have : (0 : Int) ≤ gI s 1060 ∧ gI s 1060 ≤ 48 := hRs.1 1060; omega) ?_
    refine wp_if (fun c2 => ?_) (fun c2 => ?_)
    · skip
      unfold m_x8_sizeOf_J26
      exact wp_some ⟨by show (0 : Int) = 0 ∨ ((0 : Int) = gA s 57 p0.toNat ∧ 0 ≤ p0 ∧ p0 < gI s 1060 ∧ (0 < gA s 54 p0.toNat ∨ 0 < gA s 55 p0.toNat)); have : (0 : Int) ≤ gI s 1060 ∧ gI s 1060 ≤ 48 := hRs.1 1060; omega, by show (-1) ≤ (0 : Int) ∧ (0 : Int) ≤ 255; have : (0 : Int) ≤ gI s 1060 ∧ gI s 1060 ≤ 48 := hRs.1 1060; omega⟩
    · skip
      unfold m_x8_sizeOf_J16
      refine wp_rdIn (by have : (0 : Int) ≤ gI s 1060 ∧ gI s 1060 ≤ 48 := hRs.1 1060; omega) (fun y3 ey3 => ?_)
      have by3 : (-1 : Int) ≤ y3 ∧ y3 ≤ 255 := ey3 ▸ hRs.2.1 57 _ (by show _ < 48; have : (0 : Int) ≤ gI s 1060 ∧ gI s 1060 ≤ 48 := hRs.1 1060; omega)
      unfold m_x8_sizeOf_J26
      exact wp_some ⟨by show y3 = 0 ∨ (y3 = gA s 57 p0.toNat ∧ 0 ≤ p0 ∧ p0 < gI s 1060 ∧ (0 < gA s 54 p0.toNat ∨ 0 < gA s 55 p0.toNat)); have : (0 : Int) ≤ gI s 1060 ∧ gI s 1060 ≤ 48 := hRs.1 1060; omega, by show (-1) ≤ y3 ∧ y3 ≤ 255; have : (0 : Int) ≤ gI s 1060 ∧ gI s 1060 ≤ 48 := hRs.1 1060; omega⟩
  · skip
    unfold m_x8_sizeOf_J16
    refine wp_rdIn (by have : (0 : Int) ≤ gI s 1060 ∧ gI s 1060 ≤ 48 := hRs.1 1060; omega) (fun y3 ey3 => ?_)
    have by3 : (-1 : Int) ≤ y3 ∧ y3 ≤ 255 := ey3 ▸ hRs.2.1 57 _ (by show _ < 48; have : (0 : Int) ≤ gI s 1060 ∧ gI s 1060 ≤ 48 := hRs.1 1060; omega)
    unfold m_x8_sizeOf_J26
    exact wp_some ⟨by show y3 = 0 ∨ (y3 = gA s 57 p0.toNat ∧ 0 ≤ p0 ∧ p0 < gI s 1060 ∧ (0 < gA s 54 p0.toNat ∨ 0 < gA s 55 p0.toNat)); have : (0 : Int) ≤ gI s 1060 ∧ gI s 1060 ≤ 48 := hRs.1 1060; omega, by show (-1) ≤ y3 ∧ y3 ≤ 255; have : (0 : Int) ≤ gI s 1060 ∧ gI s 1060 ≤ 48 := hRs.1 1060; omega⟩
set_option maxHeartbeats 1000000 in
theorem w_x8_volumes {s : MS} (hRs : Rg s) : wp (m_x8_volumes s) (fun r => (0 ≤ r ∧ r ≤ 8)) := by
  unfold m_x8_volumes
  have L4 : ∀ (n : Nat) (x1 : Int) (x2 : Int), (0 ≤ x1 ∧ x1 ≤ x2 ∧ x2 ≤ 8) → (8 - x2) < (n : Int) → wp (m_x8_volumes_L4 s n x1 x2) (fun r => (0 ≤ r ∧ r ≤ 8)) := by
    refine fr_ind (fun x1 x2 hv4_0 hm4 => ?_) (fun n4 ih4 x1 x2 hv4_0 hm4 => ?_)
    · exfalso; omega
    · show wp (m_x8_volumes_b4 s (m_x8_volumes_L4 s n4) x1 x2) _
      unfold m_x8_volumes_b4
      refine wp_rg (by omega) ?_
      refine wp_if (fun c1 => ?_) (fun c1 => ?_)
      · skip
        exact wp_some (by show 0 ≤ x1 ∧ x1 ≤ 8; omega)
      · skip
        refine wp_bn (w_x8_isVolume hRs (by show R2 x2; omega)) (fun r9 er9 hr9 => ?_)
        have hr9_0 := hr9
        have hr9_0 : (r9 = 1 ∧ 0 ≤ x2 ∧ x2 < 8 ∧ gA s 60 x2.toNat ≠ -2) ∨ (r9 = 0 ∧ (x2 < 0 ∨ 8 ≤ x2 ∨ gA s 60 x2.toNat = -2)) := hr9_0
        refine wp_rg (by omega) ?_
        refine wp_if (fun c2 => ?_) (fun c2 => ?_)
        · skip
          unfold m_x8_volumes_J24
          exact ih4 (x1 + 0) (x2 + 1) (by show 0 ≤ (x1 + 0) ∧ (x1 + 0) ≤ (x2 + 1) ∧ (x2 + 1) ≤ 8; omega) (by omega)
        · skip
          unfold m_x8_volumes_J24
          exact ih4 (x1 + 1) (x2 + 1) (by show 0 ≤ (x1 + 1) ∧ (x1 + 1) ≤ (x2 + 1) ∧ (x2 + 1) ≤ 8; omega) (by omega)
  exact L4 FU 0 0 (by show 0 ≤ (0 : Int) ∧ (0 : Int) ≤ (0 : Int) ∧ (0 : Int) ≤ 8; omega) (by have := FU_big; have := FU_big2; omega)
set_option maxHeartbeats 1000000 in
theorem w_x8_freeNumber {s : MS} (hRs : Rg s) : wp (m_x8_freeNumber s) (fun r => (r = -1 ∨ (0 ≤ r ∧ r < 8 ∧ gA s 60 r.toNat = -2))) := by
  unfold m_x8_freeNumber
  have L2 : ∀ (n : Nat) (x1 : Int), (0 ≤ x1 ∧ x1 ≤ 8) → (8 - x1) < (n : Int) → wp (m_x8_freeNumber_L2 s n x1) (fun r => (r = -1 ∨ (0 ≤ r ∧ r < 8 ∧ gA s 60 r.toNat = -2))) := by
    refine fr_ind (fun x1 hv2_0 hm2 => ?_) (fun n2 ih2 x1 hv2_0 hm2 => ?_)
    · exfalso; omega
    · show wp (m_x8_freeNumber_b2 s (m_x8_freeNumber_L2 s n2) x1) _
      unfold m_x8_freeNumber_b2
      refine wp_rg (by omega) ?_
      refine wp_if (fun c1 => ?_) (fun c1 => ?_)
      · skip
        exact wp_some (by show (-1 : Int) = -1 ∨ (0 ≤ (-1 : Int) ∧ (-1 : Int) < 8 ∧ gA s 60 (-1 : Int).toNat = -2); omega)
      · skip
        refine wp_bn (w_x8_isVolume hRs (by show R2 x1; omega)) (fun r5 er5 hr5 => ?_)
        have hr5_0 := hr5
        have hr5_0 : (r5 = 1 ∧ 0 ≤ x1 ∧ x1 < 8 ∧ gA s 60 x1.toNat ≠ -2) ∨ (r5 = 0 ∧ (x1 < 0 ∨ 8 ≤ x1 ∨ gA s 60 x1.toNat = -2)) := hr5_0
        refine wp_rg (by omega) ?_
        refine wp_if (fun c2 => ?_) (fun c2 => ?_)
        · skip
          exact wp_some (by show x1 = -1 ∨ (0 ≤ x1 ∧ x1 < 8 ∧ gA s 60 x1.toNat = -2); omega)
        · skip
          exact ih2 (x1 + 1) (by show 0 ≤ (x1 + 1) ∧ (x1 + 1) ≤ 8; omega) (by omega)
  exact L2 FU 0 (by show 0 ≤ (0 : Int) ∧ (0 : Int) ≤ 8; omega) (by have := FU_big; have := FU_big2; omega)
set_option maxHeartbeats 1000000 in
theorem w_x8_used {s : MS} (hRs : Rg s) : wp (m_x8_used s) (fun r => (0 ≤ r ∧ r ≤ 48)) := by
  unfold m_x8_used
  have L4 : ∀ (n : Nat) (x1 : Int) (x2 : Int), (0 ≤ x1 ∧ x1 ≤ x2 ∧ x2 ≤ 48) → (48 - x2) < (n : Int) → wp (m_x8_used_L4 s n x1 x2) (fun r => (0 ≤ r ∧ r ≤ 48)) := by
    refine fr_ind (fun x1 x2 hv4_0 hm4 => ?_) (fun n4 ih4 x1 x2 hv4_0 hm4 => ?_)
    · exfalso; omega
    · show wp (m_x8_used_b4 s (m_x8_used_L4 s n4) x1 x2) _
      unfold m_x8_used_b4
      refine wp_rg (by omega) ?_
      refine wp_rg (by have : (0 : Int) ≤ gI s 1060 ∧ gI s 1060 ≤ 48 := hRs.1 1060; omega) ?_
      refine wp_if (fun c1 => ?_) (fun c1 => ?_)
      · skip
        exact wp_some (by show 0 ≤ x1 ∧ x1 ≤ 48; have : (0 : Int) ≤ gI s 1060 ∧ gI s 1060 ≤ 48 := hRs.1 1060; omega)
      · skip
        refine wp_rdIn (by have : (0 : Int) ≤ gI s 1060 ∧ gI s 1060 ≤ 48 := hRs.1 1060; omega) (fun y9 ey9 => ?_)
        have by9 : (-1 : Int) ≤ y9 ∧ y9 ≤ 100000 := ey9 ▸ hRs.2.1 54 _ (by show _ < 48; have : (0 : Int) ≤ gI s 1060 ∧ gI s 1060 ≤ 48 := hRs.1 1060; omega)
        refine wp_rg (by have : (0 : Int) ≤ gI s 1060 ∧ gI s 1060 ≤ 48 := hRs.1 1060; omega) ?_
        refine wp_if (fun c2 => ?_) (fun c2 => ?_)
        · skip
          unfold m_x8_used_J27
          exact ih4 (x1 + 0) (x2 + 1) (by show 0 ≤ (x1 + 0) ∧ (x1 + 0) ≤ (x2 + 1) ∧ (x2 + 1) ≤ 48; have : (0 : Int) ≤ gI s 1060 ∧ gI s 1060 ≤ 48 := hRs.1 1060; omega) (by have : (0 : Int) ≤ gI s 1060 ∧ gI s 1060 ≤ 48 := hRs.1 1060; omega)
        · skip
          unfold m_x8_used_J27
          exact ih4 (x1 + 1) (x2 + 1) (by show 0 ≤ (x1 + 1) ∧ (x1 + 1) ≤ (x2 + 1) ∧ (x2 + 1) ≤ 48; have : (0 : Int) ≤ gI s 1060 ∧ gI s 1060 ≤ 48 := hRs.1 1060; omega) (by have : (0 : Int) ≤ gI s 1060 ∧ gI s 1060 ≤ 48 := hRs.1 1060; omega)
  exact L4 FU 0 0 (by show 0 ≤ (0 : Int) ∧ (0 : Int) ≤ (0 : Int) ∧ (0 : Int) ≤ 48; omega) (by have := FU_big; have := FU_big2; omega)
set_option maxHeartbeats 1000000 in
theorem w_x8_held {s : MS} (hRs : Rg s) : wp (m_x8_held s) (fun r => (0 ≤ r ∧ r ≤ 48)) := by
  unfold m_x8_held
  have L4 : ∀ (n : Nat) (x1 : Int) (x2 : Int), (0 ≤ x1 ∧ x1 ≤ x2 ∧ x2 ≤ 48) → (48 - x2) < (n : Int) → wp (m_x8_held_L4 s n x1 x2) (fun r => (0 ≤ r ∧ r ≤ 48)) := by
    refine fr_ind (fun x1 x2 hv4_0 hm4 => ?_) (fun n4 ih4 x1 x2 hv4_0 hm4 => ?_)
    · exfalso; omega
    · show wp (m_x8_held_b4 s (m_x8_held_L4 s n4) x1 x2) _
      unfold m_x8_held_b4
      refine wp_rg (by omega) ?_
      refine wp_rg (by have : (0 : Int) ≤ gI s 1060 ∧ gI s 1060 ≤ 48 := hRs.1 1060; omega) ?_
      refine wp_if (fun c1 => ?_) (fun c1 => ?_)
      · skip
        exact wp_some (by show 0 ≤ x1 ∧ x1 ≤ 48; have : (0 : Int) ≤ gI s 1060 ∧ gI s 1060 ≤ 48 := hRs.1 1060; omega)
      · skip
        refine wp_bn (w_x8_isHeld hRs (by show R2 x2; have : (0 : Int) ≤ gI s 1060 ∧ gI s 1060 ≤ 48 := hRs.1 1060; omega)) (fun r10 er10 hr10 => ?_)
        have hr10_0 := hr10
        have hr10_0 : (r10 = 1 ∧ 0 ≤ x2 ∧ x2 < gI s 1060 ∧ gA s 54 x2.toNat = 0 ∧ 0 < gA s 55 x2.toNat) ∨ (r10 = 0 ∧ (x2 < 0 ∨ gI s 1060 ≤ x2 ∨ ¬ (gA s 54 x2.toNat = 0 ∧ 0 < gA s 55 x2.toNat))) := hr10_0
        refine wp_rg (by have : (0 : Int) ≤ gI s 1060 ∧ gI s 1060 ≤ 48 := hRs.1 1060; omega) ?_
        refine wp_if (fun c2 => ?_) (fun c2 => ?_)
        · skip
          unfold m_x8_held_J26
          exact ih4 (x1 + 0) (x2 + 1) (by show 0 ≤ (x1 + 0) ∧ (x1 + 0) ≤ (x2 + 1) ∧ (x2 + 1) ≤ 48; have : (0 : Int) ≤ gI s 1060 ∧ gI s 1060 ≤ 48 := hRs.1 1060; omega) (by have : (0 : Int) ≤ gI s 1060 ∧ gI s 1060 ≤ 48 := hRs.1 1060; omega)
        · skip
          unfold m_x8_held_J26
          exact ih4 (x1 + 1) (x2 + 1) (by show 0 ≤ (x1 + 1) ∧ (x1 + 1) ≤ (x2 + 1) ∧ (x2 + 1) ≤ 48; have : (0 : Int) ≤ gI s 1060 ∧ gI s 1060 ≤ 48 := hRs.1 1060; omega) (by have : (0 : Int) ≤ gI s 1060 ∧ gI s 1060 ≤ 48 := hRs.1 1060; omega)
  exact L4 FU 0 0 (by show 0 ≤ (0 : Int) ∧ (0 : Int) ≤ (0 : Int) ∧ (0 : Int) ≤ 48; omega) (by have := FU_big; have := FU_big2; omega)
set_option maxHeartbeats 1000000 in
theorem w_x8_freshBlocks {s : MS} (hRs : Rg s) : wp (m_x8_freshBlocks s) (fun r => (0 ≤ r ∧ r ≤ 48)) := by
  unfold m_x8_freshBlocks
  have L4 : ∀ (n : Nat) (x1 : Int) (x2 : Int), (0 ≤ x1 ∧ x1 ≤ x2 ∧ x2 ≤ 48) → (48 - x2) < (n : Int) → wp (m_x8_freshBlocks_L4 s n x1 x2) (fun r => (0 ≤ r ∧ r ≤ 48)) := by
    refine fr_ind (fun x1 x2 hv4_0 hm4 => ?_) (fun n4 ih4 x1 x2 hv4_0 hm4 => ?_)
    · exfalso; omega
    · show wp (m_x8_freshBlocks_b4 s (m_x8_freshBlocks_L4 s n4) x1 x2) _
      unfold m_x8_freshBlocks_b4
      refine wp_rg (by omega) ?_
      refine wp_rg (by have : (0 : Int) ≤ gI s 1060 ∧ gI s 1060 ≤ 48 := hRs.1 1060; omega) ?_
      refine wp_if (fun c1 => ?_) (fun c1 => ?_)
      · skip
        exact wp_some (by show 0 ≤ x1 ∧ x1 ≤ 48; have : (0 : Int) ≤ gI s 1060 ∧ gI s 1060 ≤ 48 := hRs.1 1060; omega)
      · skip
        refine wp_bn (w_x8_isFresh hRs (by show R2 x2; have : (0 : Int) ≤ gI s 1060 ∧ gI s 1060 ≤ 48 := hRs.1 1060; omega)) (fun r10 er10 hr10 => ?_)
        have hr10_0 := hr10
        have hr10_0 : (r10 = 1 ∧ 0 ≤ x2 ∧ x2 < gI s 1060 ∧ 0 < gA s 54 x2.toNat ∧ gA s 55 x2.toNat = 0) ∨ (r10 = 0 ∧ (x2 < 0 ∨ gI s 1060 ≤ x2 ∨ ¬ (0 < gA s 54 x2.toNat ∧ gA s 55 x2.toNat = 0))) := hr10_0
        refine wp_rg (by have : (0 : Int) ≤ gI s 1060 ∧ gI s 1060 ≤ 48 := hRs.1 1060; omega) ?_
        refine wp_if (fun c2 => ?_) (fun c2 => ?_)
        · skip
          unfold m_x8_freshBlocks_J26
          exact ih4 (x1 + 0) (x2 + 1) (by show 0 ≤ (x1 + 0) ∧ (x1 + 0) ≤ (x2 + 1) ∧ (x2 + 1) ≤ 48; have : (0 : Int) ≤ gI s 1060 ∧ gI s 1060 ≤ 48 := hRs.1 1060; omega) (by have : (0 : Int) ≤ gI s 1060 ∧ gI s 1060 ≤ 48 := hRs.1 1060; omega)
        · skip
          unfold m_x8_freshBlocks_J26
          exact ih4 (x1 + 1) (x2 + 1) (by show 0 ≤ (x1 + 1) ∧ (x1 + 1) ≤ (x2 + 1) ∧ (x2 + 1) ≤ 48; have : (0 : Int) ≤ gI s 1060 ∧ gI s 1060 ≤ 48 := hRs.1 1060; omega) (by have : (0 : Int) ≤ gI s 1060 ∧ gI s 1060 ≤ 48 := hRs.1 1060; omega)
  exact L4 FU 0 0 (by show 0 ≤ (0 : Int) ∧ (0 : Int) ≤ (0 : Int) ∧ (0 : Int) ≤ 48; omega) (by have := FU_big; have := FU_big2; omega)
set_option maxHeartbeats 1000000 in
theorem w_x8_keptBlocks {s : MS} (hRs : Rg s) : wp (m_x8_keptBlocks s) (fun r => (0 ≤ r ∧ r ≤ 48)) := by
  unfold m_x8_keptBlocks
  have L4 : ∀ (n : Nat) (x1 : Int) (x2 : Int), (0 ≤ x1 ∧ x1 ≤ x2 ∧ x2 ≤ 48) → (48 - x2) < (n : Int) → wp (m_x8_keptBlocks_L4 s n x1 x2) (fun r => (0 ≤ r ∧ r ≤ 48)) := by
    refine fr_ind (fun x1 x2 hv4_0 hm4 => ?_) (fun n4 ih4 x1 x2 hv4_0 hm4 => ?_)
    · exfalso; omega
    · show wp (m_x8_keptBlocks_b4 s (m_x8_keptBlocks_L4 s n4) x1 x2) _
      unfold m_x8_keptBlocks_b4
      refine wp_rg (by omega) ?_
      refine wp_rg (by have : (0 : Int) ≤ gI s 1060 ∧ gI s 1060 ≤ 48 := hRs.1 1060; omega) ?_
      refine wp_if (fun c1 => ?_) (fun c1 => ?_)
      · skip
        exact wp_some (by show 0 ≤ x1 ∧ x1 ≤ 48; have : (0 : Int) ≤ gI s 1060 ∧ gI s 1060 ≤ 48 := hRs.1 1060; omega)
      · skip
        refine wp_rdIn (by have : (0 : Int) ≤ gI s 1060 ∧ gI s 1060 ≤ 48 := hRs.1 1060; omega) (fun y9 ey9 => ?_)
        have by9 : (-1 : Int) ≤ y9 ∧ y9 ≤ 100000 := ey9 ▸ hRs.2.1 55 _ (by show _ < 48; have : (0 : Int) ≤ gI s 1060 ∧ gI s 1060 ≤ 48 := hRs.1 1060; omega)
        refine wp_rg (by have : (0 : Int) ≤ gI s 1060 ∧ gI s 1060 ≤ 48 := hRs.1 1060; omega) ?_
        refine wp_if (fun c2 => ?_) (fun c2 => ?_)
        · skip
          unfold m_x8_keptBlocks_J27
          exact ih4 (x1 + 0) (x2 + 1) (by show 0 ≤ (x1 + 0) ∧ (x1 + 0) ≤ (x2 + 1) ∧ (x2 + 1) ≤ 48; have : (0 : Int) ≤ gI s 1060 ∧ gI s 1060 ≤ 48 := hRs.1 1060; omega) (by have : (0 : Int) ≤ gI s 1060 ∧ gI s 1060 ≤ 48 := hRs.1 1060; omega)
        · skip
          unfold m_x8_keptBlocks_J27
          exact ih4 (x1 + 1) (x2 + 1) (by show 0 ≤ (x1 + 1) ∧ (x1 + 1) ≤ (x2 + 1) ∧ (x2 + 1) ≤ 48; have : (0 : Int) ≤ gI s 1060 ∧ gI s 1060 ≤ 48 := hRs.1 1060; omega) (by have : (0 : Int) ≤ gI s 1060 ∧ gI s 1060 ≤ 48 := hRs.1 1060; omega)
  exact L4 FU 0 0 (by show 0 ≤ (0 : Int) ∧ (0 : Int) ≤ (0 : Int) ∧ (0 : Int) ≤ 48; omega) (by have := FU_big; have := FU_big2; omega)
set_option maxHeartbeats 1000000 in
theorem w_x8_entryFor {p0 : Int} {p1 : Int} {s : MS} (hRs : Rg s) (hp0 : 0 ≤ p0 ∧ p0 < 48) (hp1 : gA s 57 p0.toNat ≤ 6) (hp2 : R2 p1) : wp (m_x8_entryFor p0 p1 s) (fun r => (r = 0 ∨ (1 ≤ r ∧ r < gA s 57 p0.toNat))) := by
  unfold m_x8_entryFor
  have L5 : ∀ (n : Nat) (x1 : Int) (x2 : Int) (x3 : Int) (x4 : Int), (x1 = p0 ∧ x2 = p1) → (x3 = 0 ∨ (1 ≤ x3 ∧ x3 < gA s 57 p0.toNat)) → (1 ≤ x4 ∧ x4 ≤ 7) → (x3 < x4) → (7 - x4) < (n : Int) → wp (m_x8_entryFor_L5 s n x1 x2 x3 x4) (fun r => (r = 0 ∨ (1 ≤ r ∧ r < gA s 57 p0.toNat))) := by
    refine fr_ind (fun x1 x2 x3 x4 hv5_0 hv5_1 hv5_2 hv5_3 hm5 => ?_) (fun n5 ih5 x1 x2 x3 x4 hv5_0 hv5_1 hv5_2 hv5_3 hm5 => ?_)
    · exfalso; omega
    · show wp (m_x8_entryFor_b5 s (m_x8_entryFor_L5 s n5) x1 x2 x3 x4) _
      unfold m_x8_entryFor_b5
      have hx5 : gA s 57 x1.toNat = gA s 57 p0.toNat := by rw [hv5_0.1]
      refine wp_rdIn (by omega) (fun y9 ey9 => ?_)
      have by9 : (-1 : Int) ≤ y9 ∧ y9 ≤ 255 := ey9 ▸ hRs.2.1 57 _ (by show _ < 48; omega)
      refine wp_rg (by omega) ?_
      refine wp_rg (by omega) ?_
      refine wp_if (fun c1 => ?_) (fun c1 => ?_)
      · skip
        exact wp_some (by show x3 = 0 ∨ (1 ≤ x3 ∧ x3 < gA s 57 p0.toNat); omega)
      · skip
        refine wp_bn (w_x8_slot hRs) (fun r14 er14 hr14 => ?_)
        have hr14_0 := hr14
        have hr14_0 : r14 = x1 * 6 + x4 := hr14_0
        refine wp_rdIn (by omega) (fun y15 ey15 => ?_)
        have by15 : (-257 : Int) ≤ y15 ∧ y15 ≤ 65535 := ey15 ▸ hRs.2.1 58 _ (by show _ < 288; omega)
        refine wp_rg (by omega) ?_
        refine wp_rg (by omega) ?_
        refine wp_if (fun c2 => ?_) (fun c2 => ?_)
        · skip
          unfold m_x8_entryFor_J35
          exact ih5 x1 x2 x3 (x4 + 1) (by show x1 = p0 ∧ x2 = p1; omega) (by show x3 = 0 ∨ (1 ≤ x3 ∧ x3 < gA s 57 p0.toNat); omega) (by show 1 ≤ (x4 + 1) ∧ (x4 + 1) ≤ 7; omega) (by show x3 < (x4 + 1); omega) (by omega)
        · skip
          unfold m_x8_entryFor_J35
          exact ih5 x1 x2 x4 (x4 + 1) (by show x1 = p0 ∧ x2 = p1; omega) (by show x4 = 0 ∨ (1 ≤ x4 ∧ x4 < gA s 57 p0.toNat); omega) (by show 1 ≤ (x4 + 1) ∧ (x4 + 1) ≤ 7; omega) (by show x4 < (x4 + 1); omega) (by omega)
  exact L5 FU p0 p1 0 1 (by show p0 = p0 ∧ p1 = p1; omega) (by show (0 : Int) = 0 ∨ (1 ≤ (0 : Int) ∧ (0 : Int) < gA s 57 p0.toNat); omega) (by show 1 ≤ (1 : Int) ∧ (1 : Int) ≤ 7; omega) (by show (0 : Int) < (1 : Int); omega) (by have := FU_big; have := FU_big2; omega)
set_option maxHeartbeats 1000000 in
theorem w_x8_find {p0 : Int} {p1 : Int} {s : MS} (hRs : Rg s) (hp0 : 0 ≤ p0 ∧ p0 < 48) (hp1 : gA s 57 p0.toNat ≤ 6) (hp2 : R2 p1) : wp (m_x8_find p0 p1 s) (fun r => (r = -1 ∨ (0 ≤ r ∧ r < gA s 57 p0.toNat))) := by
  unfold m_x8_find
  have L2 : ∀ (n : Nat) (x1 : Int) (x2 : Int) (x3 : Int), (x1 = p0 ∧ x2 = p1) → (0 ≤ x3 ∧ x3 ≤ 7) → (7 - x3) < (n : Int) → wp (m_x8_find_L2 s n x1 x2 x3) (fun r => (r = -1 ∨ (0 ≤ r ∧ r < gA s 57 p0.toNat))) := by
    refine fr_ind (fun x1 x2 x3 hv2_0 hv2_1 hm2 => ?_) (fun n2 ih2 x1 x2 x3 hv2_0 hv2_1 hm2 => ?_)
    · exfalso; omega
    · show wp (m_x8_find_b2 s (m_x8_find_L2 s n2) x1 x2 x3) _
      unfold m_x8_find_b2
      have hx2 : gA s 57 x1.toNat = gA s 57 p0.toNat := by rw [hv2_0.1]
      refine wp_rdIn (by omega) (fun y4 ey4 => ?_)
      have by4 : (-1 : Int) ≤ y4 ∧ y4 ≤ 255 := ey4 ▸ hRs.2.1 57 _ (by show _ < 48; omega)
      refine wp_rg (by omega) ?_
      refine wp_rg (by omega) ?_
      refine wp_if (fun c1 => ?_) (fun c1 => ?_)
      · skip
        exact wp_some (by show (-1 : Int) = -1 ∨ (0 ≤ (-1 : Int) ∧ (-1 : Int) < gA s 57 p0.toNat); omega)
      · skip
        refine wp_bn (w_x8_slot hRs) (fun r9 er9 hr9 => ?_)
        have hr9_0 := hr9
        have hr9_0 : r9 = x1 * 6 + x3 := hr9_0
        refine wp_rdIn (by omega) (fun y10 ey10 => ?_)
        have by10 : (-257 : Int) ≤ y10 ∧ y10 ≤ 65535 := ey10 ▸ hRs.2.1 58 _ (by show _ < 288; omega)
        refine wp_rg (by omega) ?_
        refine wp_rg (by omega) ?_
        refine wp_if (fun c2 => ?_) (fun c2 => ?_)
        · skip
          exact wp_some (by show x3 = -1 ∨ (0 ≤ x3 ∧ x3 < gA s 57 p0.toNat); omega)
        · skip
          exact ih2 x1 x2 (x3 + 1) (by show x1 = p0 ∧ x2 = p1; omega) (by show 0 ≤ (x3 + 1) ∧ (x3 + 1) ≤ 7; omega) (by omega)
  exact L2 FU p0 p1 0 (by show p0 = p0 ∧ p1 = p1; omega) (by show 0 ≤ (0 : Int) ∧ (0 : Int) ≤ 7; omega) (by have := FU_big; have := FU_big2; omega)
set_option maxHeartbeats 1000000 in
theorem w_x8_below {p0 : Int} {p1 : Int} {s : MS} (hRs : Rg s) (hp0 : 0 ≤ p0 ∧ p0 < 48) (hp1 : 1 ≤ gA s 57 p0.toNat ∧ gA s 57 p0.toNat ≤ 6) (hp2 : R2 p1) : wp (m_x8_below p0 p1 s) (fun r => (∃ k : Nat, (k : Int) < gA s 57 p0.toNat ∧ r = gA s 59 (6 * p0.toNat + k))) := by
  unfold m_x8_below
  refine wp_bn (w_x8_entryFor hRs (by show 0 ≤ p0 ∧ p0 < 48; omega) (by show gA s 57 p0.toNat ≤ 6; omega) (by show R2 p1; omega)) (fun r2 er2 hr2 => ?_)
  have hr2_0 := hr2
  have hr2_0 : r2 = 0 ∨ (1 ≤ r2 ∧ r2 < gA s 57 p0.toNat) := hr2_0
  refine wp_bn (w_x8_slot hRs) (fun r4 er4 hr4 => ?_)
  have hr4_0 := hr4
  have hr4_0 : r4 = p0 * 6 + r2 := hr4_0
  refine wp_rdIn (by omega) (fun y5 ey5 => ?_)
  have by5 : (-257 : Int) ≤ y5 ∧ y5 ≤ 65535 := ey5 ▸ hRs.2.1 59 _ (by show _ < 288; omega)
  exact wp_some (⟨r2.toNat, by omega, by rw [← ey5, show r4.toNat = 6 * p0.toNat + r2.toNat by omega]⟩)
set_option maxHeartbeats 1000000 in
theorem w_x8_valueAt {p0 : Int} {p1 : Int} {c : Nat → Int} {s : MS} (hRs : Rg s) (hp0 : CL s c) (hp1 : 0 ≤ p0 → p0 < 48 ∧ 0 < c p0.toNat) (hp2 : R2 p0) (hp3 : R2 p1) : wp (m_x8_valueAt p0 p1 s) (fun r => ((-257) ≤ r ∧ r ≤ 65535) ∧ (p0 < 0 → r = -1)) := by
  unfold m_x8_valueAt
  refine wp_rg (by omega) ?_
  refine wp_if (fun c1 => ?_) (fun c1 => ?_)
  · skip
    refine wp_rdIn (by have := hp1 (by omega); omega) (fun y18 ey18 => ?_)
    have by18 : (-1 : Int) ≤ y18 ∧ y18 ≤ 1000 := ey18 ▸ hRs.2.1 56 _ (by show _ < 48; have := hp1 (by omega); omega)
    have hq1 := hp1 (by omega)
    have L16 : ∀ (n : Nat) (x2 : Int) (x3 : Int) (x4 : Int), (x2 = p1) → (0 ≤ x3 ∧ x3 < 48 ∧ 0 < c x3.toNat) → (gA s 56 x3.toNat = x4) → (0 ≤ x4 ∧ x4 ≤ 1000) → (x4) < (n : Int) → wp (m_x8_valueAt_L16 s n x2 x3 x4) (fun r => ((-257) ≤ r ∧ r ≤ 65535) ∧ (p0 < 0 → r = -1)) := by
      refine fr_ind (fun x2 x3 x4 hv16_0 hv16_1 hv16_2 hv16_3 hm16 => ?_) (fun n16 ih16 x2 x3 x4 hv16_0 hv16_1 hv16_2 hv16_3 hm16 => ?_)
      · exfalso; omega
      · show wp (m_x8_valueAt_b16 s (m_x8_valueAt_L16 s n16) x2 x3 x4) _
        unfold m_x8_valueAt_b16
        have cl := hp0 x3.toNat (by omega) hv16_1.2.2
        have cz : 0 ≤ gA s 57 x3.toNat ∧ gA s 57 x3.toNat ≤ 6 := cl.1.2.1
        have cz1 := cl.2.1
        refine wp_rg (by omega) ?_
        refine wp_if (fun c2 => ?_) (fun c2 => ?_)
        · skip
          refine wp_bn (w_x8_find hRs (by show 0 ≤ x3 ∧ x3 < 48; omega) (by show gA s 57 x3.toNat ≤ 6; omega) (by show R2 x2; omega)) (fun r8 er8 hr8 => ?_)
          have hr8_0 := hr8
          have hr8_0 : r8 = -1 ∨ (0 ≤ r8 ∧ r8 < gA s 57 x3.toNat) := hr8_0
          refine wp_rg (by omega) ?_
          refine wp_if (fun c3 => ?_) (fun c3 => ?_)
          · skip
            unfold m_x8_valueAt_J64
            exact wp_some ⟨by show (-257) ≤ (-1 : Int) ∧ (-1 : Int) ≤ 65535; omega, by show p0 < 0 → (-1 : Int) = -1; omega⟩
          · skip
            refine wp_bn (w_x8_slot hRs) (fun r12 er12 hr12 => ?_)
            have hr12_0 := hr12
            have hr12_0 : r12 = x3 * 6 + r8 := hr12_0
            refine wp_rdIn (by omega) (fun y13 ey13 => ?_)
            have by13 : (-257 : Int) ≤ y13 ∧ y13 ≤ 65535 := ey13 ▸ hRs.2.1 59 _ (by show _ < 288; omega)
            unfold m_x8_valueAt_J64
            exact wp_some ⟨by show (-257) ≤ y13 ∧ y13 ≤ 65535; omega, by show p0 < 0 → y13 = -1; omega⟩
        · skip
          refine wp_bn (w_x8_below hRs (by show 0 ≤ x3 ∧ x3 < 48; omega) (by show 1 ≤ gA s 57 x3.toNat ∧ gA s 57 x3.toNat ≤ 6; omega) (by show R2 x2; omega)) (fun r15 er15 hr15 => ?_)
          have hr15_0 := hr15
          have hr15_0 : ∃ k : Nat, (k : Int) < gA s 57 x3.toNat ∧ r15 = gA s 59 (6 * x3.toNat + k) := hr15_0
          obtain ⟨kk, hk1, hk2⟩ := hr15_0
          have kd := cl.1.2.2 (by show 0 < gA s 56 x3.toNat; omega) kk hk1
          have kv : (hN s).2.2 x3.toNat kk = r15 := hk2.symm
          rw [kv] at kd
          have kl : gA s 56 r15.toNat = gA s 56 x3.toNat - 1 := kd.2
          have kb := kd.1
          have kc := cl.2.2 (by omega) kk hk1
          rw [← hk2] at kc
          have k48 : (0 : Int) ≤ gI s 1060 ∧ gI s 1060 ≤ 48 := hRs.1 1060
          exact ih16 x2 r15 (x4 + (-1)) (by show x2 = p1; omega) (by show 0 ≤ r15 ∧ r15 < 48 ∧ 0 < c r15.toNat; omega) (by show gA s 56 r15.toNat = (x4 + (-1)); omega) (by show 0 ≤ (x4 + (-1)) ∧ (x4 + (-1)) ≤ 1000; omega) (by omega)
    exact L16 FU p1 p0 y18 (by show p1 = p1; omega) (⟨by omega, (hp1 (by omega)).1, (hp1 (by omega)).2⟩) (by show gA s 56 p0.toNat = y18; omega) (by show 0 ≤ y18 ∧ y18 ≤ 1000; have ndr := (hp0 p0.toNat (by have := hp1 (by omega); omega) (hp1 (by omega)).2).1.1; have ndr2 : 0 ≤ gA s 56 p0.toNat := ndr; omega) (by have := FU_big; have := FU_big2; omega)
  · skip
    exact wp_some ⟨by show (-257) ≤ (-1 : Int) ∧ (-1 : Int) ≤ 65535; omega, by show p0 < 0 → (-1 : Int) = -1; omega⟩
