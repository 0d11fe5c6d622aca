set_option maxHeartbeats 1000000 in
theorem w_x12_countOf {p0 : Int} {s : MS} (hRs : Rr s) (hp0 : 0 ≤ p0 ∧ p0 < 48) : wp (m_x12_countOf p0 s) (fun r => (r = cM s p0.toNat) ∧ (R2 r)) := by
  unfold m_x12_countOf
  refine wp_rdIn (by omega) (fun y1 ey1 => ?_)
  have by1 : (-2147483648 : Int) ≤ y1 ∧ y1 ≤ 2147483647 := ey1 ▸ hRs.2.1 49 _ (by show _ < 906; omega)
  exact wp_some ⟨by rw [← ey1]; show gA s 49 _ = gA s 49 (17 + 16 * p0.toNat); congr 1; omega, by have z := hRs.2.1 49 (17 + 16 * p0.toNat) (by show _ < 906; omega); rw [← ey1, show (17 + 16 * p0).toNat = 17 + 16 * p0.toNat by omega]; exact z⟩
set_option maxHeartbeats 1000000 in
theorem w_x12_savedOf {p0 : Int} {s : MS} (hRs : Rr s) (hp0 : 0 ≤ p0 ∧ p0 < 48) : wp (m_x12_savedOf p0 s) (fun r => (r = vM s p0.toNat) ∧ (R2 r)) := by
  unfold m_x12_savedOf
  refine wp_rdIn (by omega) (fun y1 ey1 => ?_)
  have by1 : (-2147483648 : Int) ≤ y1 ∧ y1 ≤ 2147483647 := ey1 ▸ hRs.2.1 49 _ (by show _ < 906; omega)
  exact wp_some ⟨by rw [← ey1]; show gA s 49 _ = gA s 49 (18 + 16 * p0.toNat); congr 1; omega, by have z := hRs.2.1 49 (18 + 16 * p0.toNat) (by show _ < 906; omega); rw [← ey1, show (17 + 16 * p0 + 1).toNat = 18 + 16 * p0.toNat by omega]; exact z⟩
set_option maxHeartbeats 1000000 in
theorem w_x12_levelOf {p0 : Int} {s : MS} (hRs : Rr s) (hp0 : 0 ≤ p0 ∧ p0 < 48) : wp (m_x12_levelOf p0 s) (fun r => (r = (hM s).1 p0.toNat) ∧ (R2 r)) := by
  unfold m_x12_levelOf
  refine wp_rdIn (by omega) (fun y1 ey1 => ?_)
  have by1 : (-2147483648 : Int) ≤ y1 ∧ y1 ≤ 2147483647 := ey1 ▸ hRs.2.1 49 _ (by show _ < 906; omega)
  exact wp_some ⟨by rw [← ey1]; show gA s 49 _ = gA s 49 (19 + 16 * p0.toNat); congr 1; omega, by have z := hRs.2.1 49 (19 + 16 * p0.toNat) (by show _ < 906; omega); rw [← ey1, show (17 + 16 * p0 + 2).toNat = 19 + 16 * p0.toNat by omega]; exact z⟩
set_option maxHeartbeats 1000000 in
theorem w_x12_entriesOf {p0 : Int} {s : MS} (hRs : Rr s) (hp0 : 0 ≤ p0 ∧ p0 < 48) : wp (m_x12_entriesOf p0 s) (fun r => (r = (hM s).2.1 p0.toNat) ∧ (R2 r)) := by
  unfold m_x12_entriesOf
  refine wp_rdIn (by omega) (fun y1 ey1 => ?_)
  have by1 : (-2147483648 : Int) ≤ y1 ∧ y1 ≤ 2147483647 := ey1 ▸ hRs.2.1 49 _ (by show _ < 906; omega)
  exact wp_some ⟨by rw [← ey1]; show gA s 49 _ = gA s 49 (20 + 16 * p0.toNat); congr 1; omega, by have z := hRs.2.1 49 (20 + 16 * p0.toNat) (by show _ < 906; omega); rw [← ey1, show (17 + 16 * p0 + 3).toNat = 20 + 16 * p0.toNat by omega]; exact z⟩
set_option maxHeartbeats 1000000 in
theorem w_x12_keyAt {p0 : Int} {p1 : Int} {s : MS} (hRs : Rr s) (hp0 : 0 ≤ p0 ∧ p0 < 48) (hp1 : 0 ≤ p1 ∧ p1 < 6) : wp (m_x12_keyAt p0 p1 s) (fun r => (r = kM s p0.toNat p1.toNat) ∧ (R2 r)) := by
  unfold m_x12_keyAt
  refine wp_rdIn (by omega) (fun y1 ey1 => ?_)
  have by1 : (-2147483648 : Int) ≤ y1 ∧ y1 ≤ 2147483647 := ey1 ▸ hRs.2.1 49 _ (by show _ < 906; omega)
  exact wp_some ⟨by rw [← ey1]; show gA s 49 _ = if p1.toNat < 6 then gA s 49 (21 + 16 * p0.toNat + p1.toNat) else 0; rw [if_pos (by omega)]; congr 1; omega, by have z := hRs.2.1 49 (21 + 16 * p0.toNat + p1.toNat) (by show _ < 906; omega); rw [← ey1, show (17 + 16 * p0 + 4 + p1).toNat = 21 + 16 * p0.toNat + p1.toNat by omega]; exact z⟩
set_option maxHeartbeats 1000000 in
theorem w_x12_valueAt {p0 : Int} {p1 : Int} {s : MS} (hRs : Rr s) (hp0 : 0 ≤ p0 ∧ p0 < 48) (hp1 : 0 ≤ p1 ∧ p1 < 6) : wp (m_x12_valueAt p0 p1 s) (fun r => (r = (hM s).2.2 p0.toNat p1.toNat) ∧ (R2 r)) := by
  unfold m_x12_valueAt
  refine wp_rdIn (by omega) (fun y1 ey1 => ?_)
  have by1 : (-2147483648 : Int) ≤ y1 ∧ y1 ≤ 2147483647 := ey1 ▸ hRs.2.1 49 _ (by show _ < 906; omega)
  exact wp_some ⟨by rw [← ey1]; show gA s 49 _ = if p1.toNat < 6 then gA s 49 (27 + 16 * p0.toNat + p1.toNat) else 0; rw [if_pos (by omega)]; congr 1; omega, by have z := hRs.2.1 49 (27 + 16 * p0.toNat + p1.toNat) (by show _ < 906; omega); rw [← ey1, show (17 + 16 * p0 + 10 + p1).toNat = 27 + 16 * p0.toNat + p1.toNat by omega]; exact z⟩
set_option maxHeartbeats 1000000 in
theorem w_x12_counts {p0 : Int} {p1 : Int} {s : MS} (hRs : Rr s) (hp0 : 0 ≤ p0 ∧ p0 < 48) (hp1 : -100000 ≤ cM s p0.toNat ∧ cM s p0.toNat ≤ 100000) (hp2 : -10 ≤ p1 ∧ p1 ≤ 10) : wp (m_x12_counts p0 p1 s) (fun o => (Rr o) ∧ (gA o 49 = upZ (gA s 49) (17 + 16 * p0.toNat) (cM s p0.toNat + p1))) := by
  unfold m_x12_counts
  refine wp_rdIn (by omega) (fun y1 ey1 => ?_)
  have by1 : (-2147483648 : Int) ≤ y1 ∧ y1 ≤ 2147483647 := ey1 ▸ hRs.2.1 49 _ (by show _ < 906; omega)
  have ky1 : cM s p0.toNat = y1 := by rw [← ey1]; show gA s 49 _ = gA s 49 _; congr 1; omega
  refine wp_inb (by omega) ?_
  refine wp_stn (fun s3 es3 => ?_)
  have hRs3 : Rr s3 := es3 ▸ Rr.uAu hRs (by show (-2147483648 : Int) ≤ (y1 + p1) ∧ (y1 + p1) ≤ 2147483647; omega)
  exact wp_some ⟨hRs3, by rw [(q_AA es3 : gA s3 49 = _), ky1, show (17 + 16 * p0).toNat = 17 + 16 * p0.toNat by omega]⟩
set_option maxHeartbeats 1000000 in
theorem w_x12_setsEntry {p0 : Int} {p1 : Int} {p2 : Int} {p3 : Int} {s : MS} (hRs : Rr s) (hp0 : 0 ≤ p0 ∧ p0 < 48) (hp1 : 0 ≤ p1 ∧ p1 < 6) (hp2 : R2 p2) (hp3 : R2 p3) : wp (m_x12_setsEntry p0 p1 p2 p3 s) (fun o => (Rr o) ∧ (gA o 49 = upZ (upZ (gA s 49) (21 + 16 * p0.toNat + p1.toNat) p2) (27 + 16 * p0.toNat + p1.toNat) p3)) := by
  unfold m_x12_setsEntry
  refine wp_inb (by omega) ?_
  refine wp_stn (fun s2 es2 => ?_)
  have hRs2 : Rr s2 := es2 ▸ Rr.uAu hRs (by show (-2147483648 : Int) ≤ p2 ∧ p2 ≤ 2147483647; omega)
  refine wp_inb (by omega) ?_
  refine wp_stn (fun s4 es4 => ?_)
  have hRs4 : Rr s4 := es4 ▸ Rr.uAu hRs2 (by show (-2147483648 : Int) ≤ p3 ∧ p3 ≤ 2147483647; omega)
  refine wp_inb (by omega) ?_
  refine wp_bo (by omega) ?_
  refine wp_stn (fun s7 es7 => ?_)
  have hRs7 : Rr s7 := es7 ▸ Rr.uAu hRs4 (by show (0 : Int) ≤ (1 : Int) ∧ (1 : Int) ≤ 1; omega)
  exact wp_some ⟨hRs7, by rw [((q_Aa es7 (by decide) : gA s7 49 = gA s4 49)), (q_AA es4 : gA s4 49 = _), (q_AA es2 : gA s2 49 = _), show (17 + 16 * p0 + 4 + p1).toNat = 21 + 16 * p0.toNat + p1.toNat by omega, show (17 + 16 * p0 + 10 + p1).toNat = 27 + 16 * p0.toNat + p1.toNat by omega]⟩
set_option maxHeartbeats 1000000 in
theorem w_x12_isUsed {p0 : Int} {s : MS} (hRs : Rr s) (hp0 : 0 ≤ p0 ∧ p0 < 48) : wp (m_x12_isUsed p0 s) (fun r => ((r = 1 ∧ 0 < cM s p0.toNat) ∨ (r = 0 ∧ cM s p0.toNat ≤ 0))) := by
  unfold m_x12_isUsed
  refine wp_bn (w_x12_countOf hRs (by show 0 ≤ p0 ∧ p0 < 48; omega)) (fun r4 er4 hr4 => ?_)
  obtain ⟨hr4_0, hr4_1⟩ := hr4
  have hr4_0 : r4 = cM s p0.toNat := hr4_0
  have hr4_1 : R2 r4 := hr4_1
  refine wp_rg (by omega) ?_
  refine wp_if (fun c1 => ?_) (fun c1 => ?_)
  · skip
    unfold m_x12_isUsed_J13
    refine wp_bo (by omega) ?_
    exact wp_some (by show ((0 : Int) = 1 ∧ 0 < cM s p0.toNat) ∨ ((0 : Int) = 0 ∧ cM s p0.toNat ≤ 0); omega)
  · skip
    unfold m_x12_isUsed_J13
    refine wp_bo (by omega) ?_
    exact wp_some (by show ((1 : Int) = 1 ∧ 0 < cM s p0.toNat) ∨ ((1 : Int) = 0 ∧ cM s p0.toNat ≤ 0); omega)
set_option maxHeartbeats 1000000 in
theorem w_x12_isThere {p0 : Int} {s : MS} (hRs : Rr s) (hp0 : 0 ≤ p0 ∧ p0 < 48) : wp (m_x12_isThere p0 s) (fun r => ((r = 1 ∧ (0 < cM s p0.toNat ∨ 0 < vM s p0.toNat)) ∨ (r = 0 ∧ cM s p0.toNat ≤ 0 ∧ vM s p0.toNat ≤ 0))) := by
  unfold m_x12_isThere
  refine wp_bn (w_x12_isUsed hRs (by show 0 ≤ p0 ∧ p0 < 48; omega)) (fun r4 er4 hr4 => ?_)
  have hr4_0 := hr4
  have hr4_0 : (r4 = 1 ∧ 0 < cM s p0.toNat) ∨ (r4 = 0 ∧ cM s p0.toNat ≤ 0) := hr4_0
  refine wp_rg (by omega) ?_
  refine wp_if (fun c1 => ?_) (fun c1 => ?_)
  · skip
    refine wp_bn (w_x12_savedOf hRs (by show 0 ≤ p0 ∧ p0 < 48; omega)) (fun r8 er8 hr8 => ?_)
    obtain ⟨hr8_0, hr8_1⟩ := hr8
    have hr8_0 : r8 = vM s p0.toNat := hr8_0
    have hr8_1 : R2 r8 := hr8_1
    refine wp_rg (by omega) ?_
    refine wp_if (fun c2 => ?_) (fun c2 => ?_)
    · skip
      unfold m_x12_isThere_J21
      refine wp_bo (by omega) ?_
      exact wp_some (by show ((0 : Int) = 1 ∧ (0 < cM s p0.toNat ∨ 0 < vM s p0.toNat)) ∨ ((0 : Int) = 0 ∧ cM s p0.toNat ≤ 0 ∧ vM s p0.toNat ≤ 0); omega)
    · skip
      unfold m_x12_isThere_J16
      unfold m_x12_isThere_J21
      refine wp_bo (by omega) ?_
      exact wp_some (by show ((1 : Int) = 1 ∧ (0 < cM s p0.toNat ∨ 0 < vM s p0.toNat)) ∨ ((1 : Int) = 0 ∧ cM s p0.toNat ≤ 0 ∧ vM s p0.toNat ≤ 0); omega)
  · skip
    unfold m_x12_isThere_J16
    unfold m_x12_isThere_J21
    refine wp_bo (by omega) ?_
    exact wp_some (by show ((1 : Int) = 1 ∧ (0 < cM s p0.toNat ∨ 0 < vM s p0.toNat)) ∨ ((1 : Int) = 0 ∧ cM s p0.toNat ≤ 0 ∧ vM s p0.toNat ≤ 0); omega)
set_option maxHeartbeats 1000000 in
theorem w_x12_isFresh {p0 : Int} {s : MS} (hRs : Rr s) (hp0 : 0 ≤ p0 ∧ p0 < 48) : wp (m_x12_isFresh p0 s) (fun r => ((r = 1 ∧ 0 < cM s p0.toNat ∧ vM s p0.toNat = 0) ∨ (r = 0 ∧ (cM s p0.toNat ≤ 0 ∨ vM s p0.toNat ≠ 0)))) := by
  unfold m_x12_isFresh
  refine wp_bn (w_x12_isUsed hRs (by show 0 ≤ p0 ∧ p0 < 48; omega)) (fun r4 er4 hr4 => ?_)
  have hr4_0 := hr4
  have hr4_0 : (r4 = 1 ∧ 0 < cM s p0.toNat) ∨ (r4 = 0 ∧ cM s p0.toNat ≤ 0) := hr4_0
  refine wp_rg (by omega) ?_
  refine wp_if (fun c1 => ?_) (fun c1 => ?_)
  · skip
    unfold m_x12_isFresh_J20
    unfold m_x12_isFresh_J21
    refine wp_bo (by omega) ?_
    exact wp_some (by show ((0 : Int) = 1 ∧ 0 < cM s p0.toNat ∧ vM s p0.toNat = 0) ∨ ((0 : Int) = 0 ∧ (cM s p0.toNat ≤ 0 ∨ vM s p0.toNat ≠ 0)); omega)
  · skip
    refine wp_bn (w_x12_savedOf hRs (by show 0 ≤ p0 ∧ p0 < 48; omega)) (fun r8 er8 hr8 => ?_)
    obtain ⟨hr8_0, hr8_1⟩ := hr8
    have hr8_0 : r8 = vM s p0.toNat := hr8_0
    have hr8_1 : R2 r8 := hr8_1
    refine wp_rg (by omega) ?_
    refine wp_if (fun c2 => ?_) (fun c2 => ?_)
    · skip
      unfold m_x12_isFresh_J21
      refine wp_bo (by omega) ?_
      exact wp_some (by show ((1 : Int) = 1 ∧ 0 < cM s p0.toNat ∧ vM s p0.toNat = 0) ∨ ((1 : Int) = 0 ∧ (cM s p0.toNat ≤ 0 ∨ vM s p0.toNat ≠ 0)); omega)
    · skip
      unfold m_x12_isFresh_J20
      unfold m_x12_isFresh_J21
      refine wp_bo (by omega) ?_
      exact wp_some (by show ((0 : Int) = 1 ∧ 0 < cM s p0.toNat ∧ vM s p0.toNat = 0) ∨ ((0 : Int) = 0 ∧ (cM s p0.toNat ≤ 0 ∨ vM s p0.toNat ≠ 0)); omega)
set_option maxHeartbeats 1000000 in
theorem w_x12_isHeld {p0 : Int} {s : MS} (hRs : Rr s) (hp0 : 0 ≤ p0 ∧ p0 < 48) : wp (m_x12_isHeld p0 s) (fun r => (r = 0 ∨ r = 1)) := by
  unfold m_x12_isHeld
  refine wp_bn (w_x12_isUsed hRs (by show 0 ≤ p0 ∧ p0 < 48; omega)) (fun r4 er4 hr4 => ?_)
  have hr4_0 := hr4
  have hr4_0 : (r4 = 1 ∧ 0 < cM s p0.toNat) ∨ (r4 = 0 ∧ cM s p0.toNat ≤ 0) := hr4_0
  refine wp_rg (by omega) ?_
  refine wp_if (fun c1 => ?_) (fun c1 => ?_)
  · skip
    refine wp_bn (w_x12_savedOf hRs (by show 0 ≤ p0 ∧ p0 < 48; omega)) (fun r8 er8 hr8 => ?_)
    obtain ⟨hr8_0, hr8_1⟩ := hr8
    have hr8_0 : r8 = vM s p0.toNat := hr8_0
    have hr8_1 : R2 r8 := hr8_1
    refine wp_rg (by omega) ?_
    refine wp_if (fun c2 => ?_) (fun c2 => ?_)
    · skip
      unfold m_x12_isHeld_J20
      unfold m_x12_isHeld_J21
      refine wp_bo (by omega) ?_
      exact wp_some (by show (0 : Int) = 0 ∨ (0 : Int) = 1; omega)
    · skip
      unfold m_x12_isHeld_J21
      refine wp_bo (by omega) ?_
      exact wp_some (by show (1 : Int) = 0 ∨ (1 : Int) = 1; omega)
  · skip
    unfold m_x12_isHeld_J20
    unfold m_x12_isHeld_J21
    refine wp_bo (by omega) ?_
    exact wp_some (by show (0 : Int) = 0 ∨ (0 : Int) = 1; omega)
set_option maxHeartbeats 1000000 in
theorem w_x12_isCoded {p0 : Int} {s : MS} (hRs : Rr s) (hp0 : 0 ≤ p0 ∧ p0 ≤ 2) : wp (m_x12_isCoded p0 s) (fun r => ((r = 1 ∧ gA s 42 (3 + p0.toNat) ≠ -1) ∨ (r = 0 ∧ gA s 42 (3 + p0.toNat) = -1))) := by
  unfold m_x12_isCoded
  refine wp_rdIn (by omega) (fun y3 ey3 => ?_)
  have by3 : (-1 : Int) ≤ y3 ∧ y3 ≤ 1600 := ey3 ▸ hRs.2.1 42 _ (by show _ < 6; omega)
  have ky3 : gA s 42 (3 + p0.toNat) = y3 := by rw [← ey3]; congr 1; omega
  refine wp_rg (by omega) ?_
  refine wp_if (fun c1 => ?_) (fun c1 => ?_)
  · skip
    unfold m_x12_isCoded_J17
    refine wp_bo (by omega) ?_
    exact wp_some (by show ((0 : Int) = 1 ∧ gA s 42 (3 + p0.toNat) ≠ -1) ∨ ((0 : Int) = 0 ∧ gA s 42 (3 + p0.toNat) = -1); omega)
  · skip
    unfold m_x12_isCoded_J17
    refine wp_bo (by omega) ?_
    exact wp_some (by show ((1 : Int) = 1 ∧ gA s 42 (3 + p0.toNat) ≠ -1) ∨ ((1 : Int) = 0 ∧ gA s 42 (3 + p0.toNat) = -1); omega)
set_option maxHeartbeats 1000000 in
theorem w_x12_blockMany {s : MS} (hRs : Rr s) : wp (m_x12_blockMany s) (fun r => (r = gA s 39 5)) := by
  unfold m_x12_blockMany
  refine wp_rdIn (by omega) (fun y1 ey1 => ?_)
  have by1 : (-2147483648 : Int) ≤ y1 ∧ y1 ≤ 2147483647 := ey1 ▸ hRs.2.1 39 _ (by show _ < 10; omega)
  exact wp_some (ey1.symm)
set_option maxHeartbeats 1000000 in
theorem w_x12_roomOf {s : MS} (hRs : Rr s) : wp (m_x12_roomOf s) (fun r => (r = gA s 39 6)) := by
  unfold m_x12_roomOf
  refine wp_rdIn (by omega) (fun y1 ey1 => ?_)
  have by1 : (-2147483648 : Int) ≤ y1 ∧ y1 ≤ 2147483647 := ey1 ▸ hRs.2.1 39 _ (by show _ < 10; omega)
  exact wp_some (ey1.symm)
set_option maxHeartbeats 1000000 in
theorem w_x12_placeFor {p0 : Int} {p1 : Int} {s : MS} (hRs : Rr s) (hp0 : 0 ≤ p0 ∧ p0 < 48) (hp1 : R2 p1) (hp2 : (0 ≤ (hM s).2.1 p0.toNat ∧ (hM s).2.1 p0.toNat ≤ 6)) : wp (m_x12_placeFor p0 p1 s) (fun r => (0 ≤ r ∧ r ≤ 5 ∧ (1 ≤ (hM s).2.1 p0.toNat → r < (hM s).2.1 p0.toNat))) := by
  unfold m_x12_placeFor
  have L2 : ∀ (n : Nat) (x2 : Int) (x3 : Int) (x4 : Int), (x2 = p0 ∧ x3 = p1) → (0 ≤ x4 ∧ (x4 = 0 ∨ x4 < (hM s).2.1 p0.toNat)) → (6 - x4) < (n : Int) → wp (m_x12_placeFor_L2 s n x2 x3 x4) (fun r => (0 ≤ r ∧ r ≤ 5 ∧ (1 ≤ (hM s).2.1 p0.toNat → r < (hM s).2.1 p0.toNat))) := by
    refine fr_ind (fun x2 x3 x4 hv2_0 hv2_1 hm2 => ?_) (fun n2 ih2 x2 x3 x4 hv2_0 hv2_1 hm2 => ?_)
    · exfalso; omega
    · show wp (m_x12_placeFor_b2 s (m_x12_placeFor_L2 s n2) x2 x3 x4) _
      unfold m_x12_placeFor_b2
      have e2 : x2 = p0 := hv2_0.1
      refine wp_bn (w_x12_entriesOf hRs (by show 0 ≤ x2 ∧ x2 < 48; omega)) (fun r6 er6 hr6 => ?_)
      obtain ⟨hr6_0, hr6_1⟩ := hr6
      have hr6_0 : r6 = (hM s).2.1 x2.toNat := hr6_0
      have hr6_1 : R2 r6 := hr6_1
      rw [e2] at hr6_0
      refine wp_rg (by omega) ?_
      refine wp_rg (by omega) ?_
      refine wp_if (fun c1 => ?_) (fun c1 => ?_)
      · skip
        unfold m_x12_placeFor_J31
        exact wp_some (by show 0 ≤ x4 ∧ x4 ≤ 5 ∧ (1 ≤ (hM s).2.1 p0.toNat → x4 < (hM s).2.1 p0.toNat); omega)
      · skip
        refine wp_bn (w_x12_keyAt hRs (by show 0 ≤ x2 ∧ x2 < 48; omega) (by show 0 ≤ (x4 + 1) ∧ (x4 + 1) < 6; omega)) (fun r11 er11 hr11 => ?_)
        obtain ⟨hr11_0, hr11_1⟩ := hr11
        have hr11_0 : r11 = kM s x2.toNat (x4 + 1).toNat := hr11_0
        have hr11_1 : R2 r11 := hr11_1
        refine wp_rg (by omega) ?_
        refine wp_rg (by omega) ?_
        refine wp_if (fun c2 => ?_) (fun c2 => ?_)
        · skip
          unfold m_x12_placeFor_J31
          exact wp_some (by show 0 ≤ x4 ∧ x4 ≤ 5 ∧ (1 ≤ (hM s).2.1 p0.toNat → x4 < (hM s).2.1 p0.toNat); omega)
        · skip
          exact ih2 x2 x3 (x4 + 1) (by show x2 = p0 ∧ x3 = p1; omega) (by show 0 ≤ (x4 + 1) ∧ ((x4 + 1) = 0 ∨ (x4 + 1) < (hM s).2.1 p0.toNat); omega) (by omega)
  exact L2 FU p0 p1 0 (by show p0 = p0 ∧ p1 = p1; omega) (by show 0 ≤ (0 : Int) ∧ ((0 : Int) = 0 ∨ (0 : Int) < (hM s).2.1 p0.toNat); omega) (by have := FU_big; have := FU_big2; omega)
set_option maxHeartbeats 1000000 in
theorem w_x12_placeIn {p0 : Int} {p1 : Int} {s : MS} (hRs : Rr s) (hp0 : 0 ≤ p0 ∧ p0 < 48) (hp1 : R2 p1) (hp2 : (0 ≤ (hM s).2.1 p0.toNat ∧ (hM s).2.1 p0.toNat ≤ 6)) : wp (m_x12_placeIn p0 p1 s) (fun r => (0 ≤ r ∧ r ≤ (hM s).2.1 p0.toNat)) := by
  unfold m_x12_placeIn
  have L2 : ∀ (n : Nat) (x2 : Int) (x3 : Int) (x4 : Int), (x2 = p0 ∧ x3 = p1) → (0 ≤ x4 ∧ x4 ≤ (hM s).2.1 p0.toNat) → (6 - x4) < (n : Int) → wp (m_x12_placeIn_L2 s n x2 x3 x4) (fun r => (0 ≤ r ∧ r ≤ (hM s).2.1 p0.toNat)) := by
    refine fr_ind (fun x2 x3 x4 hv2_0 hv2_1 hm2 => ?_) (fun n2 ih2 x2 x3 x4 hv2_0 hv2_1 hm2 => ?_)
    · exfalso; omega
    · show wp (m_x12_placeIn_b2 s (m_x12_placeIn_L2 s n2) x2 x3 x4) _
      unfold m_x12_placeIn_b2
      have e2 : x2 = p0 := hv2_0.1
      refine wp_bn (w_x12_entriesOf hRs (by show 0 ≤ x2 ∧ x2 < 48; omega)) (fun r6 er6 hr6 => ?_)
      obtain ⟨hr6_0, hr6_1⟩ := hr6
      have hr6_0 : r6 = (hM s).2.1 x2.toNat := hr6_0
      have hr6_1 : R2 r6 := hr6_1
      rw [e2] at hr6_0
      refine wp_rg (by omega) ?_
      refine wp_rg (by omega) ?_
      refine wp_if (fun c1 => ?_) (fun c1 => ?_)
      · skip
        unfold m_x12_placeIn_J27
        exact wp_some (by show 0 ≤ x4 ∧ x4 ≤ (hM s).2.1 p0.toNat; omega)
      · skip
        refine wp_bn (w_x12_keyAt hRs (by show 0 ≤ x2 ∧ x2 < 48; omega) (by show 0 ≤ x4 ∧ x4 < 6; omega)) (fun r11 er11 hr11 => ?_)
        obtain ⟨hr11_0, hr11_1⟩ := hr11
        have hr11_0 : r11 = kM s x2.toNat x4.toNat := hr11_0
        have hr11_1 : R2 r11 := hr11_1
        refine wp_rg (by omega) ?_
        refine wp_rg (by omega) ?_
        refine wp_if (fun c2 => ?_) (fun c2 => ?_)
        · skip
          unfold m_x12_placeIn_J27
          exact wp_some (by show 0 ≤ x4 ∧ x4 ≤ (hM s).2.1 p0.toNat; omega)
        · skip
          exact ih2 x2 x3 (x4 + 1) (by show x2 = p0 ∧ x3 = p1; omega) (by show 0 ≤ (x4 + 1) ∧ (x4 + 1) ≤ (hM s).2.1 p0.toNat; omega) (by omega)
  exact L2 FU p0 p1 0 (by show p0 = p0 ∧ p1 = p1; omega) (by show 0 ≤ (0 : Int) ∧ (0 : Int) ≤ (hM s).2.1 p0.toNat; omega) (by have := FU_big; have := FU_big2; omega)
