/-! ===== images read ===== -/
def KI (s S : MS) : Prop := (gA S 72 = gA s 72 ∧ gA S 73 = gA s 73 ∧ gA S 74 = gA s 74 ∧ gA S 75 = gA s 75 ∧ gA S 76 = gA s 76 ∧ gA S 77 = gA s 77) ∧ gI S 1420 = gI s 1420
def CHD (s : MS) (b k : Nat) : Prop := (0 ≤ gA s 77 (6 * b + k) ∧ gA s 77 (6 * b + k) < gI s 1420) ∧ ¬ (gA s 72 (gA s 77 (6 * b + k)).toNat = 0 ∧ gA s 73 (gA s 77 (6 * b + k)).toNat = 0) ∧ gA s 74 (gA s 77 (6 * b + k)).toNat = gA s 74 b - 1
theorem CHD_eq {s S : MS} {b k : Nat} (K : KI s S) : CHD S b k ↔ CHD s b k := by
  unfold CHD
  rw [K.1.1, K.1.2.1, K.1.2.2.1, K.1.2.2.2.2.2, K.2]
theorem KI_rf (s : MS) : KI s s := ⟨⟨rfl, rfl, rfl, rfl, rfl, rfl⟩, rfl⟩
theorem KI_tr {s S o : MS} (h : KI s S) (g : KI S o) : KI s o := ⟨⟨g.1.1.trans h.1.1, g.1.2.1.trans h.1.2.1, g.1.2.2.1.trans h.1.2.2.1, g.1.2.2.2.1.trans h.1.2.2.2.1, g.1.2.2.2.2.1.trans h.1.2.2.2.2.1, g.1.2.2.2.2.2.trans h.1.2.2.2.2.2⟩, g.2.trans h.2⟩
set_option maxHeartbeats 1000000 in
theorem w_x8_slot_v2 {p0 : Int} {p1 : Int} {s : MS} (hRs : Rg s) : wp (m_x8_slot_v2 p0 p1 s) (fun r => (r = p0 * 6 + p1)) := by
  unfold m_x8_slot_v2
  exact wp_some (by show ((p0 * 6) + p1) = p0 * 6 + p1; omega)
set_option maxHeartbeats 1000000 in
theorem w_x8_isBlock_v2 {p0 : Int} {s : MS} (hRs : Rg s) (hp0 : R2 p0) : wp (m_x8_isBlock_v2 p0 s) (fun r => ((r = 1 ∧ 0 ≤ p0 ∧ p0 < gI s 1420) ∨ (r = 0 ∧ (p0 < 0 ∨ gI s 1420 ≤ p0)))) := by
  unfold m_x8_isBlock_v2
  refine wp_rg (by omega) ?_
  refine wp_if (fun c1 => ?_) (fun c1 => ?_)
  · skip
    unfold m_x8_isBlock_v2_J16
    unfold m_x8_isBlock_v2_J17
    refine wp_bo (by omega) ?_
    exact wp_some (by show ((0 : Int) = 1 ∧ 0 ≤ p0 ∧ p0 < gI s 1420) ∨ ((0 : Int) = 0 ∧ (p0 < 0 ∨ gI s 1420 ≤ p0)); have : (0 : Int) ≤ gI s 1420 ∧ gI s 1420 ≤ 48 := hRs.1 1420; omega)
  · skip
    refine wp_rg (by omega) ?_
    refine wp_rg (by have : (0 : Int) ≤ gI s 1420 ∧ gI s 1420 ≤ 48 := hRs.1 1420; omega) ?_
    refine wp_if (fun c2 => ?_) (fun c2 => ?_)
    · skip
      unfold m_x8_isBlock_v2_J16
      unfold m_x8_isBlock_v2_J17
      refine wp_bo (by have : (0 : Int) ≤ gI s 1420 ∧ gI s 1420 ≤ 48 := hRs.1 1420; omega) ?_
      exact wp_some (by show ((0 : Int) = 1 ∧ 0 ≤ p0 ∧ p0 < gI s 1420) ∨ ((0 : Int) = 0 ∧ (p0 < 0 ∨ gI s 1420 ≤ p0)); have : (0 : Int) ≤ gI s 1420 ∧ gI s 1420 ≤ 48 := hRs.1 1420; omega)
    · skip
      unfold m_x8_isBlock_v2_J17
      refine wp_bo (by have : (0 : Int) ≤ gI s 1420 ∧ gI s 1420 ≤ 48 := hRs.1 1420; omega) ?_
      exact wp_some (by show ((1 : Int) = 1 ∧ 0 ≤ p0 ∧ p0 < gI s 1420) ∨ ((1 : Int) = 0 ∧ (p0 < 0 ∨ gI s 1420 ≤ p0)); have : (0 : Int) ≤ gI s 1420 ∧ gI s 1420 ≤ 48 := hRs.1 1420; omega)
set_option maxHeartbeats 1000000 in
theorem w_x8_isFree_v2 {p0 : Int} {s : MS} (hRs : Rg s) (hp0 : R2 p0) : wp (m_x8_isFree_v2 p0 s) (fun r => ((r = 1 ∧ 0 ≤ p0 ∧ p0 < gI s 1420 ∧ gA s 72 p0.toNat = 0 ∧ gA s 73 p0.toNat = 0) ∨ (r = 0 ∧ (p0 < 0 ∨ gI s 1420 ≤ p0 ∨ ¬ (gA s 72 p0.toNat = 0 ∧ gA s 73 p0.toNat = 0))))) := by
  unfold m_x8_isFree_v2
  refine wp_bn (w_x8_isBlock_v2 hRs (by show R2 p0; omega)) (fun r4 er4 hr4 => ?_)
  have hr4_0 := hr4
  have hr4_0 : (r4 = 1 ∧ 0 ≤ p0 ∧ p0 < gI s 1420) ∨ (r4 = 0 ∧ (p0 < 0 ∨ gI s 1420 ≤ p0)) := hr4_0
  refine wp_rg (by have : (0 : Int) ≤ gI s 1420 ∧ gI s 1420 ≤ 48 := hRs.1 1420; omega) ?_
  refine wp_if (fun c1 => ?_) (fun c1 => ?_)
  · skip
    unfold m_x8_isFree_v2_J30
    unfold m_x8_isFree_v2_J31
    refine wp_bo (by have : (0 : Int) ≤ gI s 1420 ∧ gI s 1420 ≤ 48 := hRs.1 1420; omega) ?_
    exact wp_some (by show ((0 : Int) = 1 ∧ 0 ≤ p0 ∧ p0 < gI s 1420 ∧ gA s 72 p0.toNat = 0 ∧ gA s 73 p0.toNat = 0) ∨ ((0 : Int) = 0 ∧ (p0 < 0 ∨ gI s 1420 ≤ p0 ∨ ¬ (gA s 72 p0.toNat = 0 ∧ gA s 73 p0.toNat = 0))); have : (0 : Int) ≤ gI s 1420 ∧ gI s 1420 ≤ 48 := hRs.1 1420; omega)
  · skip
    refine wp_rdIn (by have : (0 : Int) ≤ gI s 1420 ∧ gI s 1420 ≤ 48 := hRs.1 1420; omega) (fun y7 ey7 => ?_)
    have by7 : (-1 : Int) ≤ y7 ∧ y7 ≤ 100000 := ey7 ▸ hRs.2.1 72 _ (by show _ < 48; have : (0 : Int) ≤ gI s 1420 ∧ gI s 1420 ≤ 48 := hRs.1 1420; omega)
    refine wp_rg (by have : (0 : Int) ≤ gI s 1420 ∧ gI s 1420 ≤ 48 := hRs.1 1420; omega) ?_
    refine wp_if (fun c2 => ?_) (fun c2 => ?_)
    · skip
      refine wp_rdIn (by have : (0 : Int) ≤ gI s 1420 ∧ gI s 1420 ≤ 48 := hRs.1 1420; omega) (fun y10 ey10 => ?_)
      have by10 : (-1 : Int) ≤ y10 ∧ y10 ≤ 100000 := ey10 ▸ hRs.2.1 73 _ (by show _ < 48; have : (0 : Int) ≤ gI s 1420 ∧ gI s 1420 ≤ 48 := hRs.1 1420; omega)
      refine wp_rg (by have : (0 : Int) ≤ gI s 1420 ∧ gI s 1420 ≤ 48 := hRs.1 1420; omega) ?_
      refine wp_if (fun c3 => ?_) (fun c3 => ?_)
      · skip
        unfold m_x8_isFree_v2_J31
        refine wp_bo (by have : (0 : Int) ≤ gI s 1420 ∧ gI s 1420 ≤ 48 := hRs.1 1420; omega) ?_
        exact wp_some (by show ((1 : Int) = 1 ∧ 0 ≤ p0 ∧ p0 < gI s 1420 ∧ gA s 72 p0.toNat = 0 ∧ gA s 73 p0.toNat = 0) ∨ ((1 : Int) = 0 ∧ (p0 < 0 ∨ gI s 1420 ≤ p0 ∨ ¬ (gA s 72 p0.toNat = 0 ∧ gA s 73 p0.toNat = 0))); have : (0 : Int) ≤ gI s 1420 ∧ gI s 1420 ≤ 48 := hRs.1 1420; omega)
      · skip
        unfold m_x8_isFree_v2_J30
        unfold m_x8_isFree_v2_J31
        refine wp_bo (by have : (0 : Int) ≤ gI s 1420 ∧ gI s 1420 ≤ 48 := hRs.1 1420; omega) ?_
        exact wp_some (by show ((0 : Int) = 1 ∧ 0 ≤ p0 ∧ p0 < gI s 1420 ∧ gA s 72 p0.toNat = 0 ∧ gA s 73 p0.toNat = 0) ∨ ((0 : Int) = 0 ∧ (p0 < 0 ∨ gI s 1420 ≤ p0 ∨ ¬ (gA s 72 p0.toNat = 0 ∧ gA s 73 p0.toNat = 0))); have : (0 : Int) ≤ gI s 1420 ∧ gI s 1420 ≤ 48 := hRs.1 1420; omega)
    · skip
      unfold m_x8_isFree_v2_J30
      unfold m_x8_isFree_v2_J31
      refine wp_bo (by have : (0 : Int) ≤ gI s 1420 ∧ gI s 1420 ≤ 48 := hRs.1 1420; omega) ?_
      exact wp_some (by show ((0 : Int) = 1 ∧ 0 ≤ p0 ∧ p0 < gI s 1420 ∧ gA s 72 p0.toNat = 0 ∧ gA s 73 p0.toNat = 0) ∨ ((0 : Int) = 0 ∧ (p0 < 0 ∨ gI s 1420 ≤ p0 ∨ ¬ (gA s 72 p0.toNat = 0 ∧ gA s 73 p0.toNat = 0))); have : (0 : Int) ≤ gI s 1420 ∧ gI s 1420 ≤ 48 := hRs.1 1420; omega)
set_option maxHeartbeats 1000000 in
theorem w_x4_next {s : MS} (hRs : Rg s) (hp0 : gI s 322 ≤ 90000) : wp (m_x4_next s) (fun q => (Rg q.2) ∧ ((-1) ≤ q.1 ∧ q.1 ≤ 255) ∧ (gI q.2 322 = gI s 322 + 1)) := by
  unfold m_x4_next
  refine wp_bn (w_x9_at hRs (by show R2 (gI s 322); have : (0 : Int) ≤ gI s 322 ∧ gI s 322 ≤ 100000 := hRs.1 322; omega)) (fun r2 er2 hr2 => ?_)
  obtain ⟨hr2_0, hr2_1⟩ := hr2
  have hr2_0 : (-1) ≤ r2 ∧ r2 ≤ 255 := hr2_0
  have hr2_1 : r2 ≠ -1 → 0 ≤ (gI s 322) ∧ (gI s 322) < gI s 61 := hr2_1
  refine wp_stn (fun s3 es3 => ?_)
  have hRs3 : Rg s3 := es3 ▸ Rg.uI hRs (by show (0 : Int) ≤ ((gI s 322) + 1) ∧ ((gI s 322) + 1) ≤ 100000; have : (0 : Int) ≤ gI s 61 ∧ gI s 61 ≤ 1600 := hRs.1 61; have : (0 : Int) ≤ gI s 322 ∧ gI s 322 ≤ 100000 := hRs.1 322; omega)
  exact wp_some ⟨hRs3, by show (-1) ≤ r2 ∧ r2 ≤ 255; have : (0 : Int) ≤ gI s 61 ∧ gI s 61 ≤ 1600 := hRs.1 61; have : (0 : Int) ≤ gI s 322 ∧ gI s 322 ≤ 100000 := hRs.1 322; omega, by show gI s3 322 = gI s 322 + 1; have : (0 : Int) ≤ gI s 61 ∧ gI s 61 ≤ 1600 := hRs.1 61; have : (0 : Int) ≤ gI s 322 ∧ gI s 322 ≤ 100000 := hRs.1 322; have : gI s3 322 = (gI s 322) + 1 := q_II es3; omega⟩
set_option maxHeartbeats 1000000 in
theorem w_x4_nextPair {s : MS} (hRs : Rg s) (hp0 : gI s 322 ≤ 80000) : wp (m_x4_nextPair s) (fun q => (Rg q.2) ∧ ((-257) ≤ q.1 ∧ q.1 ≤ 65535) ∧ (gI q.2 322 = gI s 322 + 2)) := by
  unfold m_x4_nextPair
  refine wp_bn (w_x4_next hRs (by show gI s 322 ≤ 90000; have : (0 : Int) ≤ gI s 322 ∧ gI s 322 ≤ 100000 := hRs.1 322; omega)) (fun qqr3 eqr3s hqr3s => ?_)
  obtain ⟨qr3r, qr3s⟩ := qqr3
  dsimp only at eqr3s hqr3s ⊢
  have Fqr3s := fr_x4_next eqr3s
  obtain ⟨hRqr3s, hqr3s_0, hqr3s_1⟩ := hqr3s
  have hqr3s_0 : (-1) ≤ qr3r ∧ qr3r ≤ 255 := hqr3s_0
  have hqr3s_1 : gI qr3s 322 = gI s 322 + 1 := hqr3s_1
  refine wp_bn (w_x4_next hRqr3s (by show gI qr3s 322 ≤ 90000; have : (0 : Int) ≤ gI s 322 ∧ gI s 322 ≤ 100000 := hRs.1 322; have : (0 : Int) ≤ gI qr3s 322 ∧ gI qr3s 322 ≤ 100000 := hRqr3s.1 322; omega)) (fun qqr6 eqr6s hqr6s => ?_)
  obtain ⟨qr6r, qr6s⟩ := qqr6
  dsimp only at eqr6s hqr6s ⊢
  have Fqr6s := fr_x4_next eqr6s
  obtain ⟨hRqr6s, hqr6s_0, hqr6s_1⟩ := hqr6s
  have hqr6s_0 : (-1) ≤ qr6r ∧ qr6r ≤ 255 := hqr6s_0
  have hqr6s_1 : gI qr6s 322 = gI qr3s 322 + 1 := hqr6s_1
  exact wp_some ⟨hRqr6s, by show (-257) ≤ ((qr3r * 256) + qr6r) ∧ ((qr3r * 256) + qr6r) ≤ 65535; have : (0 : Int) ≤ gI qr6s 322 ∧ gI qr6s 322 ≤ 100000 := hRqr6s.1 322; have : (0 : Int) ≤ gI qr3s 322 ∧ gI qr3s 322 ≤ 100000 := hRqr3s.1 322; have : (0 : Int) ≤ gI s 322 ∧ gI s 322 ≤ 100000 := hRs.1 322; omega, by show gI qr6s 322 = gI s 322 + 2; have : (0 : Int) ≤ gI qr3s 322 ∧ gI qr3s 322 ≤ 100000 := hRqr3s.1 322; have : (0 : Int) ≤ gI s 322 ∧ gI s 322 ≤ 100000 := hRs.1 322; have : (0 : Int) ≤ gI qr6s 322 ∧ gI qr6s 322 ≤ 100000 := hRqr6s.1 322; omega⟩
set_option maxHeartbeats 1000000 in
theorem w_x4_rootOf {p0 : Int} {s : MS} (hRs : Rg s) (hp0 : (-1) ≤ p0 ∧ p0 ≤ 255) : wp (m_x4_rootOf p0 s) (fun r => ((-2) ≤ r ∧ r ≤ 253)) := by
  unfold m_x4_rootOf
  refine wp_rg (by omega) ?_
  refine wp_if (fun c1 => ?_) (fun c1 => ?_)
  · skip
    exact wp_some (by show (-2) ≤ (-2 : Int) ∧ (-2 : Int) ≤ 253; omega)
  · skip
    refine wp_rg (by omega) ?_
    refine wp_if (fun c2 => ?_) (fun c2 => ?_)
    · skip
      unfold m_x4_rootOf_J22
      exact wp_some (by show (-2) ≤ (-1 : Int) ∧ (-1 : Int) ≤ 253; omega)
    · skip
      unfold m_x4_rootOf_J22
      exact wp_some (by show (-2) ≤ p0 ∧ p0 ≤ 253; omega)
set_option maxHeartbeats 1000000 in
theorem w_x4_loadHead {s : MS} (hRs : Rg s) (hp0 : gI s 322 = 0) : wp (m_x4_loadHead s) (fun q => (Rg q.2) ∧ (q.1 = 0 ∨ q.1 = 1) ∧ (gI q.2 322 = 19) ∧ (q.1 = 1 → gI q.2 1421 ≤ 999999 ∧ ∀ w : Nat, (w : Int) < 8 → gA q.2 78 w < gI s 1420 ∧ gA q.2 79 w < gI s 1420)) := by
  unfold m_x4_loadHead
  refine wp_bn (w_x4_next hRs (by show gI s 322 ≤ 90000; have : (0 : Int) ≤ gI s 322 ∧ gI s 322 ≤ 100000 := hRs.1 322; omega)) (fun qqr40 eqr40s hqr40s => ?_)
  obtain ⟨qr40r, qr40s⟩ := qqr40
  dsimp only at eqr40s hqr40s ⊢
  have Fqr40s := fr_x4_next eqr40s
  obtain ⟨hRqr40s, hqr40s_0, hqr40s_1⟩ := hqr40s
  have hqr40s_0 : (-1) ≤ qr40r ∧ qr40r ≤ 255 := hqr40s_0
  have hqr40s_1 : gI qr40s 322 = gI s 322 + 1 := hqr40s_1
  refine wp_bn (w_x4_nextPair hRqr40s (by show gI qr40s 322 ≤ 80000; have : (0 : Int) ≤ gI s 322 ∧ gI s 322 ≤ 100000 := hRs.1 322; have : (0 : Int) ≤ gI qr40s 322 ∧ gI qr40s 322 ≤ 100000 := hRqr40s.1 322; omega)) (fun qqr43 eqr43s hqr43s => ?_)
  obtain ⟨qr43r, qr43s⟩ := qqr43
  dsimp only at eqr43s hqr43s ⊢
  have Fqr43s := fr_x4_nextPair eqr43s
  obtain ⟨hRqr43s, hqr43s_0, hqr43s_1⟩ := hqr43s
  have hqr43s_0 : (-257) ≤ qr43r ∧ qr43r ≤ 65535 := hqr43s_0
  have hqr43s_1 : gI qr43s 322 = gI qr40s 322 + 2 := hqr43s_1
  refine wp_stn (fun s44 es44 => ?_)
  have hRs44 : Rg s44 := es44 ▸ Rg.uI hRqr43s (by show (-70000 : Int) ≤ ((qr40r * 65536) + qr43r) ∧ ((qr40r * 65536) + qr43r) ≤ 16777215; have : (0 : Int) ≤ gI qr43s 322 ∧ gI qr43s 322 ≤ 100000 := hRqr43s.1 322; have : (0 : Int) ≤ gI qr40s 322 ∧ gI qr40s 322 ≤ 100000 := hRqr40s.1 322; have : (0 : Int) ≤ gI s 322 ∧ gI s 322 ≤ 100000 := hRs.1 322; omega)
  refine wp_rg (by have : (0 : Int) ≤ gI qr43s 322 ∧ gI qr43s 322 ≤ 100000 := hRqr43s.1 322; have : (0 : Int) ≤ gI qr40s 322 ∧ gI qr40s 322 ≤ 100000 := hRqr40s.1 322; have : (0 : Int) ≤ gI s 322 ∧ gI s 322 ≤ 100000 := hRs.1 322; have : gI s44 1421 = (qr40r * 65536) + qr43r := q_II es44; omega) ?_
  refine wp_if (fun c1 => ?_) (fun c1 => ?_)
  · skip
    unfold m_x4_loadHead_J34
    have L39 : ∀ (n : Nat) (x1 : Int) (x2 : Int) (s3 : MS), Rg s3 → (x1 = 0 ∨ x1 = 1) → (0 ≤ x2 ∧ x2 ≤ 8) → (gI s3 322 = 3 + 2 * x2) → (gI s3 1420 = gI s 1420) → (x1 = 1 → gI s3 1421 ≤ 999999 ∧ ∀ w : Nat, (w : Int) < x2 → gA s3 78 w < gI s 1420 ∧ gA s3 79 w < gI s 1420) → (8 - x2) < (n : Int) → wp (m_x4_loadHead_L39 n x1 x2 s3) (fun q => (Rg q.2) ∧ (q.1 = 0 ∨ q.1 = 1) ∧ (gI q.2 322 = 19) ∧ (q.1 = 1 → gI q.2 1421 ≤ 999999 ∧ ∀ w : Nat, (w : Int) < 8 → gA q.2 78 w < gI s 1420 ∧ gA q.2 79 w < gI s 1420)) := by
      refine fr_ind (fun x1 x2 s3 hRs3 hv39_0 hv39_1 hv39_2 hv39_3 hv39_4 hm39 => ?_) (fun n39 ih39 x1 x2 s3 hRs3 hv39_0 hv39_1 hv39_2 hv39_3 hv39_4 hm39 => ?_)
      · exfalso; have : (-70000 : Int) ≤ gI s3 1421 ∧ gI s3 1421 ≤ 16777215 := hRs3.1 1421; have : (0 : Int) ≤ gI s 1420 ∧ gI s 1420 ≤ 48 := hRs.1 1420; have : (0 : Int) ≤ gI s3 1420 ∧ gI s3 1420 ≤ 48 := hRs3.1 1420; have : (0 : Int) ≤ gI s3 322 ∧ gI s3 322 ≤ 100000 := hRs3.1 322; omega
      · show wp (m_x4_loadHead_b39 (m_x4_loadHead_L39 n39) x1 x2 s3) _
        unfold m_x4_loadHead_b39
        refine wp_rg (by have : (-70000 : Int) ≤ gI s3 1421 ∧ gI s3 1421 ≤ 16777215 := hRs3.1 1421; have : (0 : Int) ≤ gI s 1420 ∧ gI s 1420 ≤ 48 := hRs.1 1420; have : (0 : Int) ≤ gI s3 1420 ∧ gI s3 1420 ≤ 48 := hRs3.1 1420; have : (0 : Int) ≤ gI s3 322 ∧ gI s3 322 ≤ 100000 := hRs3.1 322; have : gI s44 1421 = (qr40r * 65536) + qr43r := q_II es44; have : (0 : Int) ≤ gI qr43s 322 ∧ gI qr43s 322 ≤ 100000 := hRqr43s.1 322; have : (0 : Int) ≤ gI qr40s 322 ∧ gI qr40s 322 ≤ 100000 := hRqr40s.1 322; have : (0 : Int) ≤ gI s 322 ∧ gI s 322 ≤ 100000 := hRs.1 322; omega) ?_
        refine wp_if (fun c2 => ?_) (fun c2 => ?_)
        · skip
          refine wp_bo (by have : (-70000 : Int) ≤ gI s3 1421 ∧ gI s3 1421 ≤ 16777215 := hRs3.1 1421; have : (0 : Int) ≤ gI s 1420 ∧ gI s 1420 ≤ 48 := hRs.1 1420; have : (0 : Int) ≤ gI s3 1420 ∧ gI s3 1420 ≤ 48 := hRs3.1 1420; have : (0 : Int) ≤ gI s3 322 ∧ gI s3 322 ≤ 100000 := hRs3.1 322; have : gI s44 1421 = (qr40r * 65536) + qr43r := q_II es44; have : (0 : Int) ≤ gI qr43s 322 ∧ gI qr43s 322 ≤ 100000 := hRqr43s.1 322; have : (0 : Int) ≤ gI qr40s 322 ∧ gI qr40s 322 ≤ 100000 := hRqr40s.1 322; have : (0 : Int) ≤ gI s 322 ∧ gI s 322 ≤ 100000 := hRs.1 322; omega) ?_
          exact wp_some ⟨hRs3, by show x1 = 0 ∨ x1 = 1; have : (-70000 : Int) ≤ gI s3 1421 ∧ gI s3 1421 ≤ 16777215 := hRs3.1 1421; have : (0 : Int) ≤ gI s 1420 ∧ gI s 1420 ≤ 48 := hRs.1 1420; have : (0 : Int) ≤ gI s3 1420 ∧ gI s3 1420 ≤ 48 := hRs3.1 1420; have : (0 : Int) ≤ gI s3 322 ∧ gI s3 322 ≤ 100000 := hRs3.1 322; have : gI s44 1421 = (qr40r * 65536) + qr43r := q_II es44; have : (0 : Int) ≤ gI qr43s 322 ∧ gI qr43s 322 ≤ 100000 := hRqr43s.1 322; have : (0 : Int) ≤ gI qr40s 322 ∧ gI qr40s 322 ≤ 100000 := hRqr40s.1 322; have : (0 : Int) ≤ gI s 322 ∧ gI s 322 ≤ 100000 := hRs.1 322; omega, by show gI s3 322 = 19; have : (-70000 : Int) ≤ gI s3 1421 ∧ gI s3 1421 ≤ 16777215 := hRs3.1 1421; have : (0 : Int) ≤ gI s 1420 ∧ gI s 1420 ≤ 48 := hRs.1 1420; have : (0 : Int) ≤ gI s3 1420 ∧ gI s3 1420 ≤ 48 := hRs3.1 1420; have : gI s44 1421 = (qr40r * 65536) + qr43r := q_II es44; have : (0 : Int) ≤ gI qr43s 322 ∧ gI qr43s 322 ≤ 100000 := hRqr43s.1 322; have : (0 : Int) ≤ gI qr40s 322 ∧ gI qr40s 322 ≤ 100000 := hRqr40s.1 322; have : (0 : Int) ≤ gI s 322 ∧ gI s 322 ≤ 100000 := hRs.1 322; have : (0 : Int) ≤ gI s3 322 ∧ gI s3 322 ≤ 100000 := hRs3.1 322; omega, fun h9 => ⟨(hv39_4 h9).1, fun w hw => (hv39_4 h9).2 w (by omega)⟩⟩
        · skip
          refine wp_bn (w_x4_next hRs3 (by show gI s3 322 ≤ 90000; have : (-70000 : Int) ≤ gI s3 1421 ∧ gI s3 1421 ≤ 16777215 := hRs3.1 1421; have : (0 : Int) ≤ gI s 1420 ∧ gI s 1420 ≤ 48 := hRs.1 1420; have : (0 : Int) ≤ gI s3 1420 ∧ gI s3 1420 ≤ 48 := hRs3.1 1420; have : gI s44 1421 = (qr40r * 65536) + qr43r := q_II es44; have : (0 : Int) ≤ gI qr43s 322 ∧ gI qr43s 322 ≤ 100000 := hRqr43s.1 322; have : (0 : Int) ≤ gI qr40s 322 ∧ gI qr40s 322 ≤ 100000 := hRqr40s.1 322; have : (0 : Int) ≤ gI s 322 ∧ gI s 322 ≤ 100000 := hRs.1 322; have : (0 : Int) ≤ gI s3 322 ∧ gI s3 322 ≤ 100000 := hRs3.1 322; omega)) (fun qqr14 eqr14s hqr14s => ?_)
          obtain ⟨qr14r, qr14s⟩ := qqr14
          dsimp only at eqr14s hqr14s ⊢
          have Fqr14s := fr_x4_next eqr14s
          obtain ⟨hRqr14s, hqr14s_0, hqr14s_1⟩ := hqr14s
          have hqr14s_0 : (-1) ≤ qr14r ∧ qr14r ≤ 255 := hqr14s_0
          have hqr14s_1 : gI qr14s 322 = gI s3 322 + 1 := hqr14s_1
          refine wp_bn (w_x4_rootOf hRqr14s (by show (-1) ≤ qr14r ∧ qr14r ≤ 255; have : (0 : Int) ≤ gI qr14s 322 ∧ gI qr14s 322 ≤ 100000 := hRqr14s.1 322; have : (-70000 : Int) ≤ gI s3 1421 ∧ gI s3 1421 ≤ 16777215 := hRs3.1 1421; have : (0 : Int) ≤ gI s 1420 ∧ gI s 1420 ≤ 48 := hRs.1 1420; have : (0 : Int) ≤ gI s3 1420 ∧ gI s3 1420 ≤ 48 := hRs3.1 1420; have : (0 : Int) ≤ gI s3 322 ∧ gI s3 322 ≤ 100000 := hRs3.1 322; have : gI s44 1421 = (qr40r * 65536) + qr43r := q_II es44; have : (0 : Int) ≤ gI qr43s 322 ∧ gI qr43s 322 ≤ 100000 := hRqr43s.1 322; have : (0 : Int) ≤ gI qr40s 322 ∧ gI qr40s 322 ≤ 100000 := hRqr40s.1 322; have : (0 : Int) ≤ gI s 322 ∧ gI s 322 ≤ 100000 := hRs.1 322; omega)) (fun r16 er16 hr16 => ?_)
          have hr16_0 := hr16
          have hr16_0 : (-2) ≤ r16 ∧ r16 ≤ 253 := hr16_0
          refine wp_inb (by have : (0 : Int) ≤ gI qr14s 322 ∧ gI qr14s 322 ≤ 100000 := hRqr14s.1 322; have : (-70000 : Int) ≤ gI s3 1421 ∧ gI s3 1421 ≤ 16777215 := hRs3.1 1421; have : (0 : Int) ≤ gI s 1420 ∧ gI s 1420 ≤ 48 := hRs.1 1420; have : (0 : Int) ≤ gI s3 1420 ∧ gI s3 1420 ≤ 48 := hRs3.1 1420; have : (0 : Int) ≤ gI s3 322 ∧ gI s3 322 ≤ 100000 := hRs3.1 322; have : gI s44 1421 = (qr40r * 65536) + qr43r := q_II es44; have : (0 : Int) ≤ gI qr43s 322 ∧ gI qr43s 322 ≤ 100000 := hRqr43s.1 322; have : (0 : Int) ≤ gI qr40s 322 ∧ gI qr40s 322 ≤ 100000 := hRqr40s.1 322; have : (0 : Int) ≤ gI s 322 ∧ gI s 322 ≤ 100000 := hRs.1 322; omega) ?_
          refine wp_stn (fun s18 es18 => ?_)
          have hRs18 : Rg s18 := es18 ▸ Rg.uAu hRqr14s (by show (-2 : Int) ≤ r16 ∧ r16 ≤ 253; have : (0 : Int) ≤ gI qr14s 322 ∧ gI qr14s 322 ≤ 100000 := hRqr14s.1 322; have : (-70000 : Int) ≤ gI s3 1421 ∧ gI s3 1421 ≤ 16777215 := hRs3.1 1421; have : (0 : Int) ≤ gI s 1420 ∧ gI s 1420 ≤ 48 := hRs.1 1420; have : (0 : Int) ≤ gI s3 1420 ∧ gI s3 1420 ≤ 48 := hRs3.1 1420; have : (0 : Int) ≤ gI s3 322 ∧ gI s3 322 ≤ 100000 := hRs3.1 322; have : gI s44 1421 = (qr40r * 65536) + qr43r := q_II es44; have : (0 : Int) ≤ gI qr43s 322 ∧ gI qr43s 322 ≤ 100000 := hRqr43s.1 322; have : (0 : Int) ≤ gI qr40s 322 ∧ gI qr40s 322 ≤ 100000 := hRqr40s.1 322; have : (0 : Int) ≤ gI s 322 ∧ gI s 322 ≤ 100000 := hRs.1 322; omega)
          refine wp_bn (w_x4_next hRs18 (by show gI s18 322 ≤ 90000; have : (0 : Int) ≤ gI qr14s 322 ∧ gI qr14s 322 ≤ 100000 := hRqr14s.1 322; have : (-70000 : Int) ≤ gI s3 1421 ∧ gI s3 1421 ≤ 16777215 := hRs3.1 1421; have : (0 : Int) ≤ gI s 1420 ∧ gI s 1420 ≤ 48 := hRs.1 1420; have : (0 : Int) ≤ gI s3 1420 ∧ gI s3 1420 ≤ 48 := hRs3.1 1420; have : (0 : Int) ≤ gI s3 322 ∧ gI s3 322 ≤ 100000 := hRs3.1 322; have : gI s44 1421 = (qr40r * 65536) + qr43r := q_II es44; have : (0 : Int) ≤ gI qr43s 322 ∧ gI qr43s 322 ≤ 100000 := hRqr43s.1 322; have : (0 : Int) ≤ gI qr40s 322 ∧ gI qr40s 322 ≤ 100000 := hRqr40s.1 322; have : (0 : Int) ≤ gI s 322 ∧ gI s 322 ≤ 100000 := hRs.1 322; have : gI s18 322 = gI qr14s 322 := q_Ai es18; omega)) (fun qqr21 eqr21s hqr21s => ?_)
          obtain ⟨qr21r, qr21s⟩ := qqr21
          dsimp only at eqr21s hqr21s ⊢
          have Fqr21s := fr_x4_next eqr21s
          obtain ⟨hRqr21s, hqr21s_0, hqr21s_1⟩ := hqr21s
          have hqr21s_0 : (-1) ≤ qr21r ∧ qr21r ≤ 255 := hqr21s_0
          have hqr21s_1 : gI qr21s 322 = gI s18 322 + 1 := hqr21s_1
          refine wp_bn (w_x4_rootOf hRqr21s (by show (-1) ≤ qr21r ∧ qr21r ≤ 255; have : gI s18 322 = gI qr14s 322 := q_Ai es18; have : (0 : Int) ≤ gI qr21s 322 ∧ gI qr21s 322 ≤ 100000 := hRqr21s.1 322; have : (0 : Int) ≤ gI qr14s 322 ∧ gI qr14s 322 ≤ 100000 := hRqr14s.1 322; have : (-70000 : Int) ≤ gI s3 1421 ∧ gI s3 1421 ≤ 16777215 := hRs3.1 1421; have : (0 : Int) ≤ gI s 1420 ∧ gI s 1420 ≤ 48 := hRs.1 1420; have : (0 : Int) ≤ gI s3 1420 ∧ gI s3 1420 ≤ 48 := hRs3.1 1420; have : (0 : Int) ≤ gI s3 322 ∧ gI s3 322 ≤ 100000 := hRs3.1 322; have : gI s44 1421 = (qr40r * 65536) + qr43r := q_II es44; have : (0 : Int) ≤ gI qr43s 322 ∧ gI qr43s 322 ≤ 100000 := hRqr43s.1 322; have : (0 : Int) ≤ gI qr40s 322 ∧ gI qr40s 322 ≤ 100000 := hRqr40s.1 322; have : (0 : Int) ≤ gI s 322 ∧ gI s 322 ≤ 100000 := hRs.1 322; omega)) (fun r23 er23 hr23 => ?_)
          have hr23_0 := hr23
          have hr23_0 : (-2) ≤ r23 ∧ r23 ≤ 253 := hr23_0
          refine wp_inb (by have : gI s18 322 = gI qr14s 322 := q_Ai es18; have : (0 : Int) ≤ gI qr21s 322 ∧ gI qr21s 322 ≤ 100000 := hRqr21s.1 322; have : (0 : Int) ≤ gI qr14s 322 ∧ gI qr14s 322 ≤ 100000 := hRqr14s.1 322; have : (-70000 : Int) ≤ gI s3 1421 ∧ gI s3 1421 ≤ 16777215 := hRs3.1 1421; have : (0 : Int) ≤ gI s 1420 ∧ gI s 1420 ≤ 48 := hRs.1 1420; have : (0 : Int) ≤ gI s3 1420 ∧ gI s3 1420 ≤ 48 := hRs3.1 1420; have : (0 : Int) ≤ gI s3 322 ∧ gI s3 322 ≤ 100000 := hRs3.1 322; have : gI s44 1421 = (qr40r * 65536) + qr43r := q_II es44; have : (0 : Int) ≤ gI qr43s 322 ∧ gI qr43s 322 ≤ 100000 := hRqr43s.1 322; have : (0 : Int) ≤ gI qr40s 322 ∧ gI qr40s 322 ≤ 100000 := hRqr40s.1 322; have : (0 : Int) ≤ gI s 322 ∧ gI s 322 ≤ 100000 := hRs.1 322; omega) ?_
          refine wp_stn (fun s25 es25 => ?_)
          have hRs25 : Rg s25 := es25 ▸ Rg.uAu hRqr21s (by show (-2 : Int) ≤ r23 ∧ r23 ≤ 253; have : gI s18 322 = gI qr14s 322 := q_Ai es18; have : (0 : Int) ≤ gI qr21s 322 ∧ gI qr21s 322 ≤ 100000 := hRqr21s.1 322; have : (0 : Int) ≤ gI qr14s 322 ∧ gI qr14s 322 ≤ 100000 := hRqr14s.1 322; have : (-70000 : Int) ≤ gI s3 1421 ∧ gI s3 1421 ≤ 16777215 := hRs3.1 1421; have : (0 : Int) ≤ gI s 1420 ∧ gI s 1420 ≤ 48 := hRs.1 1420; have : (0 : Int) ≤ gI s3 1420 ∧ gI s3 1420 ≤ 48 := hRs3.1 1420; have : (0 : Int) ≤ gI s3 322 ∧ gI s3 322 ≤ 100000 := hRs3.1 322; have : gI s44 1421 = (qr40r * 65536) + qr43r := q_II es44; have : (0 : Int) ≤ gI qr43s 322 ∧ gI qr43s 322 ≤ 100000 := hRqr43s.1 322; have : (0 : Int) ≤ gI qr40s 322 ∧ gI qr40s 322 ≤ 100000 := hRqr40s.1 322; have : (0 : Int) ≤ gI s 322 ∧ gI s 322 ≤ 100000 := hRs.1 322; omega)
          refine wp_rg (by have : gI s18 322 = gI qr14s 322 := q_Ai es18; have : (0 : Int) ≤ gI qr21s 322 ∧ gI qr21s 322 ≤ 100000 := hRqr21s.1 322; have : (0 : Int) ≤ gI qr14s 322 ∧ gI qr14s 322 ≤ 100000 := hRqr14s.1 322; have : (-70000 : Int) ≤ gI s3 1421 ∧ gI s3 1421 ≤ 16777215 := hRs3.1 1421; have : (0 : Int) ≤ gI s 1420 ∧ gI s 1420 ≤ 48 := hRs.1 1420; have : (0 : Int) ≤ gI s3 1420 ∧ gI s3 1420 ≤ 48 := hRs3.1 1420; have : (0 : Int) ≤ gI s3 322 ∧ gI s3 322 ≤ 100000 := hRs3.1 322; have : gI s44 1421 = (qr40r * 65536) + qr43r := q_II es44; have : (0 : Int) ≤ gI qr43s 322 ∧ gI qr43s 322 ≤ 100000 := hRqr43s.1 322; have : (0 : Int) ≤ gI qr40s 322 ∧ gI qr40s 322 ≤ 100000 := hRqr40s.1 322; have : (0 : Int) ≤ gI s 322 ∧ gI s 322 ≤ 100000 := hRs.1 322; omega) ?_
          refine wp_if (fun c3 => ?_) (fun c3 => ?_)
          · skip
            unfold m_x4_loadHead_J113
            unfold m_x4_loadHead_J114
            exact ih39 0 (x2 + 1) s25 hRs25 (by show (0 : Int) = 0 ∨ (0 : Int) = 1; have : gI s18 322 = gI qr14s 322 := q_Ai es18; have : (0 : Int) ≤ gI qr21s 322 ∧ gI qr21s 322 ≤ 100000 := hRqr21s.1 322; have : (0 : Int) ≤ gI qr14s 322 ∧ gI qr14s 322 ≤ 100000 := hRqr14s.1 322; have : (-70000 : Int) ≤ gI s3 1421 ∧ gI s3 1421 ≤ 16777215 := hRs3.1 1421; have : (0 : Int) ≤ gI s 1420 ∧ gI s 1420 ≤ 48 := hRs.1 1420; have : (0 : Int) ≤ gI s3 1420 ∧ gI s3 1420 ≤ 48 := hRs3.1 1420; have : (0 : Int) ≤ gI s3 322 ∧ gI s3 322 ≤ 100000 := hRs3.1 322; have : gI s44 1421 = (qr40r * 65536) + qr43r := q_II es44; have : (0 : Int) ≤ gI qr43s 322 ∧ gI qr43s 322 ≤ 100000 := hRqr43s.1 322; have : (0 : Int) ≤ gI qr40s 322 ∧ gI qr40s 322 ≤ 100000 := hRqr40s.1 322; have : (0 : Int) ≤ gI s 322 ∧ gI s 322 ≤ 100000 := hRs.1 322; omega) (by show 0 ≤ (x2 + 1) ∧ (x2 + 1) ≤ 8; have : gI s18 322 = gI qr14s 322 := q_Ai es18; have : (0 : Int) ≤ gI qr21s 322 ∧ gI qr21s 322 ≤ 100000 := hRqr21s.1 322; have : (0 : Int) ≤ gI qr14s 322 ∧ gI qr14s 322 ≤ 100000 := hRqr14s.1 322; have : (-70000 : Int) ≤ gI s3 1421 ∧ gI s3 1421 ≤ 16777215 := hRs3.1 1421; have : (0 : Int) ≤ gI s 1420 ∧ gI s 1420 ≤ 48 := hRs.1 1420; have : (0 : Int) ≤ gI s3 1420 ∧ gI s3 1420 ≤ 48 := hRs3.1 1420; have : (0 : Int) ≤ gI s3 322 ∧ gI s3 322 ≤ 100000 := hRs3.1 322; have : gI s44 1421 = (qr40r * 65536) + qr43r := q_II es44; have : (0 : Int) ≤ gI qr43s 322 ∧ gI qr43s 322 ≤ 100000 := hRqr43s.1 322; have : (0 : Int) ≤ gI qr40s 322 ∧ gI qr40s 322 ≤ 100000 := hRqr40s.1 322; have : (0 : Int) ≤ gI s 322 ∧ gI s 322 ≤ 100000 := hRs.1 322; omega) (by show gI s25 322 = 3 + 2 * (x2 + 1); have : gI s18 322 = gI qr14s 322 := q_Ai es18; have : (0 : Int) ≤ gI qr21s 322 ∧ gI qr21s 322 ≤ 100000 := hRqr21s.1 322; have : (0 : Int) ≤ gI qr14s 322 ∧ gI qr14s 322 ≤ 100000 := hRqr14s.1 322; have : (-70000 : Int) ≤ gI s3 1421 ∧ gI s3 1421 ≤ 16777215 := hRs3.1 1421; have : (0 : Int) ≤ gI s 1420 ∧ gI s 1420 ≤ 48 := hRs.1 1420; have : (0 : Int) ≤ gI s3 1420 ∧ gI s3 1420 ≤ 48 := hRs3.1 1420; have : (0 : Int) ≤ gI s3 322 ∧ gI s3 322 ≤ 100000 := hRs3.1 322; have : gI s44 1421 = (qr40r * 65536) + qr43r := q_II es44; have : (0 : Int) ≤ gI qr43s 322 ∧ gI qr43s 322 ≤ 100000 := hRqr43s.1 322; have : (0 : Int) ≤ gI qr40s 322 ∧ gI qr40s 322 ≤ 100000 := hRqr40s.1 322; have : (0 : Int) ≤ gI s 322 ∧ gI s 322 ≤ 100000 := hRs.1 322; have : gI s25 322 = gI qr21s 322 := q_Ai es25; omega) (by show gI s25 1420 = gI s 1420; have : gI s18 322 = gI qr14s 322 := q_Ai es18; have : (0 : Int) ≤ gI qr21s 322 ∧ gI qr21s 322 ≤ 100000 := hRqr21s.1 322; have : (0 : Int) ≤ gI qr14s 322 ∧ gI qr14s 322 ≤ 100000 := hRqr14s.1 322; have : (-70000 : Int) ≤ gI s3 1421 ∧ gI s3 1421 ≤ 16777215 := hRs3.1 1421; have : (0 : Int) ≤ gI s3 1420 ∧ gI s3 1420 ≤ 48 := hRs3.1 1420; have : (0 : Int) ≤ gI s3 322 ∧ gI s3 322 ≤ 100000 := hRs3.1 322; have : gI s44 1421 = (qr40r * 65536) + qr43r := q_II es44; have : (0 : Int) ≤ gI qr43s 322 ∧ gI qr43s 322 ≤ 100000 := hRqr43s.1 322; have : (0 : Int) ≤ gI qr40s 322 ∧ gI qr40s 322 ≤ 100000 := hRqr40s.1 322; have : (0 : Int) ≤ gI s 322 ∧ gI s 322 ≤ 100000 := hRs.1 322; have : (0 : Int) ≤ gI s 1420 ∧ gI s 1420 ≤ 48 := hRs.1 1420; have : gI s25 1420 = gI qr21s 1420 := q_Ai es25; have : gI qr21s 1420 = gI s18 1420 := Fqr21s.1 1420 (by decide); have : gI s18 1420 = gI qr14s 1420 := q_Ai es18; have : gI qr14s 1420 = gI s3 1420 := Fqr14s.1 1420 (by decide); omega) (fun h9 => absurd h9 (by omega)) (by have : gI s18 322 = gI qr14s 322 := q_Ai es18; have : (0 : Int) ≤ gI qr21s 322 ∧ gI qr21s 322 ≤ 100000 := hRqr21s.1 322; have : (0 : Int) ≤ gI qr14s 322 ∧ gI qr14s 322 ≤ 100000 := hRqr14s.1 322; have : (-70000 : Int) ≤ gI s3 1421 ∧ gI s3 1421 ≤ 16777215 := hRs3.1 1421; have : (0 : Int) ≤ gI s 1420 ∧ gI s 1420 ≤ 48 := hRs.1 1420; have : (0 : Int) ≤ gI s3 1420 ∧ gI s3 1420 ≤ 48 := hRs3.1 1420; have : (0 : Int) ≤ gI s3 322 ∧ gI s3 322 ≤ 100000 := hRs3.1 322; have : gI s44 1421 = (qr40r * 65536) + qr43r := q_II es44; have : (0 : Int) ≤ gI qr43s 322 ∧ gI qr43s 322 ≤ 100000 := hRqr43s.1 322; have : (0 : Int) ≤ gI qr40s 322 ∧ gI qr40s 322 ≤ 100000 := hRqr40s.1 322; have : (0 : Int) ≤ gI s 322 ∧ gI s 322 ≤ 100000 := hRs.1 322; omega)
          · skip
            refine wp_rdIn (by have : gI s18 322 = gI qr14s 322 := q_Ai es18; have : (0 : Int) ≤ gI qr21s 322 ∧ gI qr21s 322 ≤ 100000 := hRqr21s.1 322; have : (0 : Int) ≤ gI qr14s 322 ∧ gI qr14s 322 ≤ 100000 := hRqr14s.1 322; have : (-70000 : Int) ≤ gI s3 1421 ∧ gI s3 1421 ≤ 16777215 := hRs3.1 1421; have : (0 : Int) ≤ gI s 1420 ∧ gI s 1420 ≤ 48 := hRs.1 1420; have : (0 : Int) ≤ gI s3 1420 ∧ gI s3 1420 ≤ 48 := hRs3.1 1420; have : (0 : Int) ≤ gI s3 322 ∧ gI s3 322 ≤ 100000 := hRs3.1 322; have : gI s44 1421 = (qr40r * 65536) + qr43r := q_II es44; have : (0 : Int) ≤ gI qr43s 322 ∧ gI qr43s 322 ≤ 100000 := hRqr43s.1 322; have : (0 : Int) ≤ gI qr40s 322 ∧ gI qr40s 322 ≤ 100000 := hRqr40s.1 322; have : (0 : Int) ≤ gI s 322 ∧ gI s 322 ≤ 100000 := hRs.1 322; omega) (fun y28 ey28 => ?_)
            have by28 : (-2 : Int) ≤ y28 ∧ y28 ≤ 253 := ey28 ▸ hRs25.2.1 78 _ (by show _ < 8; have : gI s18 322 = gI qr14s 322 := q_Ai es18; have : (0 : Int) ≤ gI qr21s 322 ∧ gI qr21s 322 ≤ 100000 := hRqr21s.1 322; have : (0 : Int) ≤ gI qr14s 322 ∧ gI qr14s 322 ≤ 100000 := hRqr14s.1 322; have : (-70000 : Int) ≤ gI s3 1421 ∧ gI s3 1421 ≤ 16777215 := hRs3.1 1421; have : (0 : Int) ≤ gI s 1420 ∧ gI s 1420 ≤ 48 := hRs.1 1420; have : (0 : Int) ≤ gI s3 1420 ∧ gI s3 1420 ≤ 48 := hRs3.1 1420; have : (0 : Int) ≤ gI s3 322 ∧ gI s3 322 ≤ 100000 := hRs3.1 322; have : gI s44 1421 = (qr40r * 65536) + qr43r := q_II es44; have : (0 : Int) ≤ gI qr43s 322 ∧ gI qr43s 322 ≤ 100000 := hRqr43s.1 322; have : (0 : Int) ≤ gI qr40s 322 ∧ gI qr40s 322 ≤ 100000 := hRqr40s.1 322; have : (0 : Int) ≤ gI s 322 ∧ gI s 322 ≤ 100000 := hRs.1 322; omega)
            refine wp_rg (by have : gI s18 322 = gI qr14s 322 := q_Ai es18; have : (0 : Int) ≤ gI qr21s 322 ∧ gI qr21s 322 ≤ 100000 := hRqr21s.1 322; have : (0 : Int) ≤ gI qr14s 322 ∧ gI qr14s 322 ≤ 100000 := hRqr14s.1 322; have : (-70000 : Int) ≤ gI s3 1421 ∧ gI s3 1421 ≤ 16777215 := hRs3.1 1421; have : (0 : Int) ≤ gI s 1420 ∧ gI s 1420 ≤ 48 := hRs.1 1420; have : (0 : Int) ≤ gI s3 1420 ∧ gI s3 1420 ≤ 48 := hRs3.1 1420; have : (0 : Int) ≤ gI s3 322 ∧ gI s3 322 ≤ 100000 := hRs3.1 322; have : gI s44 1421 = (qr40r * 65536) + qr43r := q_II es44; have : (0 : Int) ≤ gI qr43s 322 ∧ gI qr43s 322 ≤ 100000 := hRqr43s.1 322; have : (0 : Int) ≤ gI qr40s 322 ∧ gI qr40s 322 ≤ 100000 := hRqr40s.1 322; have : (0 : Int) ≤ gI s 322 ∧ gI s 322 ≤ 100000 := hRs.1 322; omega) ?_
            refine wp_rg (by have : gI s18 322 = gI qr14s 322 := q_Ai es18; have : (0 : Int) ≤ gI qr21s 322 ∧ gI qr21s 322 ≤ 100000 := hRqr21s.1 322; have : (0 : Int) ≤ gI qr14s 322 ∧ gI qr14s 322 ≤ 100000 := hRqr14s.1 322; have : (-70000 : Int) ≤ gI s3 1421 ∧ gI s3 1421 ≤ 16777215 := hRs3.1 1421; have : (0 : Int) ≤ gI s 1420 ∧ gI s 1420 ≤ 48 := hRs.1 1420; have : (0 : Int) ≤ gI s3 1420 ∧ gI s3 1420 ≤ 48 := hRs3.1 1420; have : (0 : Int) ≤ gI s3 322 ∧ gI s3 322 ≤ 100000 := hRs3.1 322; have : gI s44 1421 = (qr40r * 65536) + qr43r := q_II es44; have : (0 : Int) ≤ gI qr43s 322 ∧ gI qr43s 322 ≤ 100000 := hRqr43s.1 322; have : (0 : Int) ≤ gI qr40s 322 ∧ gI qr40s 322 ≤ 100000 := hRqr40s.1 322; have : (0 : Int) ≤ gI s 322 ∧ gI s 322 ≤ 100000 := hRs.1 322; have : gI s25 1420 = gI qr21s 1420 := q_Ai es25; have : gI qr21s 1420 = gI s18 1420 := Fqr21s.1 1420 (by decide); have : gI s18 1420 = gI qr14s 1420 := q_Ai es18; have : gI qr14s 1420 = gI s3 1420 := Fqr14s.1 1420 (by decide); omega) ?_
            refine wp_if (fun c4 => ?_) (fun c4 => ?_)
            · skip
              unfold m_x4_loadHead_J113
              unfold m_x4_loadHead_J114
              exact ih39 0 (x2 + 1) s25 hRs25 (by show (0 : Int) = 0 ∨ (0 : Int) = 1; have : gI s25 1420 = gI qr21s 1420 := q_Ai es25; have : gI qr21s 1420 = gI s18 1420 := Fqr21s.1 1420 (by decide); have : gI s18 1420 = gI qr14s 1420 := q_Ai es18; have : gI qr14s 1420 = gI s3 1420 := Fqr14s.1 1420 (by decide); have : gI s18 322 = gI qr14s 322 := q_Ai es18; have : (0 : Int) ≤ gI qr21s 322 ∧ gI qr21s 322 ≤ 100000 := hRqr21s.1 322; have : (0 : Int) ≤ gI qr14s 322 ∧ gI qr14s 322 ≤ 100000 := hRqr14s.1 322; have : (-70000 : Int) ≤ gI s3 1421 ∧ gI s3 1421 ≤ 16777215 := hRs3.1 1421; have : (0 : Int) ≤ gI s 1420 ∧ gI s 1420 ≤ 48 := hRs.1 1420; have : (0 : Int) ≤ gI s3 1420 ∧ gI s3 1420 ≤ 48 := hRs3.1 1420; have : (0 : Int) ≤ gI s3 322 ∧ gI s3 322 ≤ 100000 := hRs3.1 322; have : gI s44 1421 = (qr40r * 65536) + qr43r := q_II es44; have : (0 : Int) ≤ gI qr43s 322 ∧ gI qr43s 322 ≤ 100000 := hRqr43s.1 322; have : (0 : Int) ≤ gI qr40s 322 ∧ gI qr40s 322 ≤ 100000 := hRqr40s.1 322; have : (0 : Int) ≤ gI s 322 ∧ gI s 322 ≤ 100000 := hRs.1 322; omega) (by show 0 ≤ (x2 + 1) ∧ (x2 + 1) ≤ 8; have : gI s25 1420 = gI qr21s 1420 := q_Ai es25; have : gI qr21s 1420 = gI s18 1420 := Fqr21s.1 1420 (by decide); have : gI s18 1420 = gI qr14s 1420 := q_Ai es18; have : gI qr14s 1420 = gI s3 1420 := Fqr14s.1 1420 (by decide); have : gI s18 322 = gI qr14s 322 := q_Ai es18; have : (0 : Int) ≤ gI qr21s 322 ∧ gI qr21s 322 ≤ 100000 := hRqr21s.1 322; have : (0 : Int) ≤ gI qr14s 322 ∧ gI qr14s 322 ≤ 100000 := hRqr14s.1 322; have : (-70000 : Int) ≤ gI s3 1421 ∧ gI s3 1421 ≤ 16777215 := hRs3.1 1421; have : (0 : Int) ≤ gI s 1420 ∧ gI s 1420 ≤ 48 := hRs.1 1420; have : (0 : Int) ≤ gI s3 1420 ∧ gI s3 1420 ≤ 48 := hRs3.1 1420; have : (0 : Int) ≤ gI s3 322 ∧ gI s3 322 ≤ 100000 := hRs3.1 322; have : gI s44 1421 = (qr40r * 65536) + qr43r := q_II es44; have : (0 : Int) ≤ gI qr43s 322 ∧ gI qr43s 322 ≤ 100000 := hRqr43s.1 322; have : (0 : Int) ≤ gI qr40s 322 ∧ gI qr40s 322 ≤ 100000 := hRqr40s.1 322; have : (0 : Int) ≤ gI s 322 ∧ gI s 322 ≤ 100000 := hRs.1 322; omega) (by show gI s25 322 = 3 + 2 * (x2 + 1); have : gI s25 1420 = gI qr21s 1420 := q_Ai es25; have : gI qr21s 1420 = gI s18 1420 := Fqr21s.1 1420 (by decide); have : gI s18 1420 = gI qr14s 1420 := q_Ai es18; have : gI qr14s 1420 = gI s3 1420 := Fqr14s.1 1420 (by decide); have : gI s18 322 = gI qr14s 322 := q_Ai es18; have : (0 : Int) ≤ gI qr21s 322 ∧ gI qr21s 322 ≤ 100000 := hRqr21s.1 322; have : (0 : Int) ≤ gI qr14s 322 ∧ gI qr14s 322 ≤ 100000 := hRqr14s.1 322; have : (-70000 : Int) ≤ gI s3 1421 ∧ gI s3 1421 ≤ 16777215 := hRs3.1 1421; have : (0 : Int) ≤ gI s 1420 ∧ gI s 1420 ≤ 48 := hRs.1 1420; have : (0 : Int) ≤ gI s3 1420 ∧ gI s3 1420 ≤ 48 := hRs3.1 1420; have : (0 : Int) ≤ gI s3 322 ∧ gI s3 322 ≤ 100000 := hRs3.1 322; have : gI s44 1421 = (qr40r * 65536) + qr43r := q_II es44; have : (0 : Int) ≤ gI qr43s 322 ∧ gI qr43s 322 ≤ 100000 := hRqr43s.1 322; have : (0 : Int) ≤ gI qr40s 322 ∧ gI qr40s 322 ≤ 100000 := hRqr40s.1 322; have : (0 : Int) ≤ gI s 322 ∧ gI s 322 ≤ 100000 := hRs.1 322; have : gI s25 322 = gI qr21s 322 := q_Ai es25; omega) (by show gI s25 1420 = gI s 1420; have : gI s18 322 = gI qr14s 322 := q_Ai es18; have : (0 : Int) ≤ gI qr21s 322 ∧ gI qr21s 322 ≤ 100000 := hRqr21s.1 322; have : (0 : Int) ≤ gI qr14s 322 ∧ gI qr14s 322 ≤ 100000 := hRqr14s.1 322; have : (-70000 : Int) ≤ gI s3 1421 ∧ gI s3 1421 ≤ 16777215 := hRs3.1 1421; have : (0 : Int) ≤ gI s3 1420 ∧ gI s3 1420 ≤ 48 := hRs3.1 1420; have : (0 : Int) ≤ gI s3 322 ∧ gI s3 322 ≤ 100000 := hRs3.1 322; have : gI s44 1421 = (qr40r * 65536) + qr43r := q_II es44; have : (0 : Int) ≤ gI qr43s 322 ∧ gI qr43s 322 ≤ 100000 := hRqr43s.1 322; have : (0 : Int) ≤ gI qr40s 322 ∧ gI qr40s 322 ≤ 100000 := hRqr40s.1 322; have : (0 : Int) ≤ gI s 322 ∧ gI s 322 ≤ 100000 := hRs.1 322; have : (0 : Int) ≤ gI s 1420 ∧ gI s 1420 ≤ 48 := hRs.1 1420; have : gI s25 1420 = gI qr21s 1420 := q_Ai es25; have : gI qr21s 1420 = gI s18 1420 := Fqr21s.1 1420 (by decide); have : gI s18 1420 = gI qr14s 1420 := q_Ai es18; have : gI qr14s 1420 = gI s3 1420 := Fqr14s.1 1420 (by decide); omega) (fun h9 => absurd h9 (by omega)) (by have : gI s25 1420 = gI qr21s 1420 := q_Ai es25; have : gI qr21s 1420 = gI s18 1420 := Fqr21s.1 1420 (by decide); have : gI s18 1420 = gI qr14s 1420 := q_Ai es18; have : gI qr14s 1420 = gI s3 1420 := Fqr14s.1 1420 (by decide); have : gI s18 322 = gI qr14s 322 := q_Ai es18; have : (0 : Int) ≤ gI qr21s 322 ∧ gI qr21s 322 ≤ 100000 := hRqr21s.1 322; have : (0 : Int) ≤ gI qr14s 322 ∧ gI qr14s 322 ≤ 100000 := hRqr14s.1 322; have : (-70000 : Int) ≤ gI s3 1421 ∧ gI s3 1421 ≤ 16777215 := hRs3.1 1421; have : (0 : Int) ≤ gI s 1420 ∧ gI s 1420 ≤ 48 := hRs.1 1420; have : (0 : Int) ≤ gI s3 1420 ∧ gI s3 1420 ≤ 48 := hRs3.1 1420; have : (0 : Int) ≤ gI s3 322 ∧ gI s3 322 ≤ 100000 := hRs3.1 322; have : gI s44 1421 = (qr40r * 65536) + qr43r := q_II es44; have : (0 : Int) ≤ gI qr43s 322 ∧ gI qr43s 322 ≤ 100000 := hRqr43s.1 322; have : (0 : Int) ≤ gI qr40s 322 ∧ gI qr40s 322 ≤ 100000 := hRqr40s.1 322; have : (0 : Int) ≤ gI s 322 ∧ gI s 322 ≤ 100000 := hRs.1 322; omega)
            · skip
              refine wp_rdIn (by have : gI s25 1420 = gI qr21s 1420 := q_Ai es25; have : gI qr21s 1420 = gI s18 1420 := Fqr21s.1 1420 (by decide); have : gI s18 1420 = gI qr14s 1420 := q_Ai es18; have : gI qr14s 1420 = gI s3 1420 := Fqr14s.1 1420 (by decide); have : gI s18 322 = gI qr14s 322 := q_Ai es18; have : (0 : Int) ≤ gI qr21s 322 ∧ gI qr21s 322 ≤ 100000 := hRqr21s.1 322; have : (0 : Int) ≤ gI qr14s 322 ∧ gI qr14s 322 ≤ 100000 := hRqr14s.1 322; have : (-70000 : Int) ≤ gI s3 1421 ∧ gI s3 1421 ≤ 16777215 := hRs3.1 1421; have : (0 : Int) ≤ gI s 1420 ∧ gI s 1420 ≤ 48 := hRs.1 1420; have : (0 : Int) ≤ gI s3 1420 ∧ gI s3 1420 ≤ 48 := hRs3.1 1420; have : (0 : Int) ≤ gI s3 322 ∧ gI s3 322 ≤ 100000 := hRs3.1 322; have : gI s44 1421 = (qr40r * 65536) + qr43r := q_II es44; have : (0 : Int) ≤ gI qr43s 322 ∧ gI qr43s 322 ≤ 100000 := hRqr43s.1 322; have : (0 : Int) ≤ gI qr40s 322 ∧ gI qr40s 322 ≤ 100000 := hRqr40s.1 322; have : (0 : Int) ≤ gI s 322 ∧ gI s 322 ≤ 100000 := hRs.1 322; omega) (fun y32 ey32 => ?_)
              have by32 : (-2 : Int) ≤ y32 ∧ y32 ≤ 253 := ey32 ▸ hRs25.2.1 79 _ (by show _ < 8; have : gI s25 1420 = gI qr21s 1420 := q_Ai es25; have : gI qr21s 1420 = gI s18 1420 := Fqr21s.1 1420 (by decide); have : gI s18 1420 = gI qr14s 1420 := q_Ai es18; have : gI qr14s 1420 = gI s3 1420 := Fqr14s.1 1420 (by decide); have : gI s18 322 = gI qr14s 322 := q_Ai es18; have : (0 : Int) ≤ gI qr21s 322 ∧ gI qr21s 322 ≤ 100000 := hRqr21s.1 322; have : (0 : Int) ≤ gI qr14s 322 ∧ gI qr14s 322 ≤ 100000 := hRqr14s.1 322; have : (-70000 : Int) ≤ gI s3 1421 ∧ gI s3 1421 ≤ 16777215 := hRs3.1 1421; have : (0 : Int) ≤ gI s 1420 ∧ gI s 1420 ≤ 48 := hRs.1 1420; have : (0 : Int) ≤ gI s3 1420 ∧ gI s3 1420 ≤ 48 := hRs3.1 1420; have : (0 : Int) ≤ gI s3 322 ∧ gI s3 322 ≤ 100000 := hRs3.1 322; have : gI s44 1421 = (qr40r * 65536) + qr43r := q_II es44; have : (0 : Int) ≤ gI qr43s 322 ∧ gI qr43s 322 ≤ 100000 := hRqr43s.1 322; have : (0 : Int) ≤ gI qr40s 322 ∧ gI qr40s 322 ≤ 100000 := hRqr40s.1 322; have : (0 : Int) ≤ gI s 322 ∧ gI s 322 ≤ 100000 := hRs.1 322; omega)
              refine wp_rg (by have : gI s25 1420 = gI qr21s 1420 := q_Ai es25; have : gI qr21s 1420 = gI s18 1420 := Fqr21s.1 1420 (by decide); have : gI s18 1420 = gI qr14s 1420 := q_Ai es18; have : gI qr14s 1420 = gI s3 1420 := Fqr14s.1 1420 (by decide); have : gI s18 322 = gI qr14s 322 := q_Ai es18; have : (0 : Int) ≤ gI qr21s 322 ∧ gI qr21s 322 ≤ 100000 := hRqr21s.1 322; have : (0 : Int) ≤ gI qr14s 322 ∧ gI qr14s 322 ≤ 100000 := hRqr14s.1 322; have : (-70000 : Int) ≤ gI s3 1421 ∧ gI s3 1421 ≤ 16777215 := hRs3.1 1421; have : (0 : Int) ≤ gI s 1420 ∧ gI s 1420 ≤ 48 := hRs.1 1420; have : (0 : Int) ≤ gI s3 1420 ∧ gI s3 1420 ≤ 48 := hRs3.1 1420; have : (0 : Int) ≤ gI s3 322 ∧ gI s3 322 ≤ 100000 := hRs3.1 322; have : gI s44 1421 = (qr40r * 65536) + qr43r := q_II es44; have : (0 : Int) ≤ gI qr43s 322 ∧ gI qr43s 322 ≤ 100000 := hRqr43s.1 322; have : (0 : Int) ≤ gI qr40s 322 ∧ gI qr40s 322 ≤ 100000 := hRqr40s.1 322; have : (0 : Int) ≤ gI s 322 ∧ gI s 322 ≤ 100000 := hRs.1 322; omega) ?_
              refine wp_rg (by have : gI s18 322 = gI qr14s 322 := q_Ai es18; have : (0 : Int) ≤ gI qr21s 322 ∧ gI qr21s 322 ≤ 100000 := hRqr21s.1 322; have : (0 : Int) ≤ gI qr14s 322 ∧ gI qr14s 322 ≤ 100000 := hRqr14s.1 322; have : (-70000 : Int) ≤ gI s3 1421 ∧ gI s3 1421 ≤ 16777215 := hRs3.1 1421; have : (0 : Int) ≤ gI s 1420 ∧ gI s 1420 ≤ 48 := hRs.1 1420; have : (0 : Int) ≤ gI s3 1420 ∧ gI s3 1420 ≤ 48 := hRs3.1 1420; have : (0 : Int) ≤ gI s3 322 ∧ gI s3 322 ≤ 100000 := hRs3.1 322; have : gI s44 1421 = (qr40r * 65536) + qr43r := q_II es44; have : (0 : Int) ≤ gI qr43s 322 ∧ gI qr43s 322 ≤ 100000 := hRqr43s.1 322; have : (0 : Int) ≤ gI qr40s 322 ∧ gI qr40s 322 ≤ 100000 := hRqr40s.1 322; have : (0 : Int) ≤ gI s 322 ∧ gI s 322 ≤ 100000 := hRs.1 322; have : gI s25 1420 = gI qr21s 1420 := q_Ai es25; have : gI qr21s 1420 = gI s18 1420 := Fqr21s.1 1420 (by decide); have : gI s18 1420 = gI qr14s 1420 := q_Ai es18; have : gI qr14s 1420 = gI s3 1420 := Fqr14s.1 1420 (by decide); omega) ?_
              refine wp_if (fun c5 => ?_) (fun c5 => ?_)
              · skip
                unfold m_x4_loadHead_J113
                unfold m_x4_loadHead_J114
                exact ih39 0 (x2 + 1) s25 hRs25 (by show (0 : Int) = 0 ∨ (0 : Int) = 1; have : gI s25 1420 = gI qr21s 1420 := q_Ai es25; have : gI qr21s 1420 = gI s18 1420 := Fqr21s.1 1420 (by decide); have : gI s18 1420 = gI qr14s 1420 := q_Ai es18; have : gI qr14s 1420 = gI s3 1420 := Fqr14s.1 1420 (by decide); have : gI s18 322 = gI qr14s 322 := q_Ai es18; have : (0 : Int) ≤ gI qr21s 322 ∧ gI qr21s 322 ≤ 100000 := hRqr21s.1 322; have : (0 : Int) ≤ gI qr14s 322 ∧ gI qr14s 322 ≤ 100000 := hRqr14s.1 322; have : (-70000 : Int) ≤ gI s3 1421 ∧ gI s3 1421 ≤ 16777215 := hRs3.1 1421; have : (0 : Int) ≤ gI s 1420 ∧ gI s 1420 ≤ 48 := hRs.1 1420; have : (0 : Int) ≤ gI s3 1420 ∧ gI s3 1420 ≤ 48 := hRs3.1 1420; have : (0 : Int) ≤ gI s3 322 ∧ gI s3 322 ≤ 100000 := hRs3.1 322; have : gI s44 1421 = (qr40r * 65536) + qr43r := q_II es44; have : (0 : Int) ≤ gI qr43s 322 ∧ gI qr43s 322 ≤ 100000 := hRqr43s.1 322; have : (0 : Int) ≤ gI qr40s 322 ∧ gI qr40s 322 ≤ 100000 := hRqr40s.1 322; have : (0 : Int) ≤ gI s 322 ∧ gI s 322 ≤ 100000 := hRs.1 322; omega) (by show 0 ≤ (x2 + 1) ∧ (x2 + 1) ≤ 8; have : gI s25 1420 = gI qr21s 1420 := q_Ai es25; have : gI qr21s 1420 = gI s18 1420 := Fqr21s.1 1420 (by decide); have : gI s18 1420 = gI qr14s 1420 := q_Ai es18; have : gI qr14s 1420 = gI s3 1420 := Fqr14s.1 1420 (by decide); have : gI s18 322 = gI qr14s 322 := q_Ai es18; have : (0 : Int) ≤ gI qr21s 322 ∧ gI qr21s 322 ≤ 100000 := hRqr21s.1 322; have : (0 : Int) ≤ gI qr14s 322 ∧ gI qr14s 322 ≤ 100000 := hRqr14s.1 322; have : (-70000 : Int) ≤ gI s3 1421 ∧ gI s3 1421 ≤ 16777215 := hRs3.1 1421; have : (0 : Int) ≤ gI s 1420 ∧ gI s 1420 ≤ 48 := hRs.1 1420; have : (0 : Int) ≤ gI s3 1420 ∧ gI s3 1420 ≤ 48 := hRs3.1 1420; have : (0 : Int) ≤ gI s3 322 ∧ gI s3 322 ≤ 100000 := hRs3.1 322; have : gI s44 1421 = (qr40r * 65536) + qr43r := q_II es44; have : (0 : Int) ≤ gI qr43s 322 ∧ gI qr43s 322 ≤ 100000 := hRqr43s.1 322; have : (0 : Int) ≤ gI qr40s 322 ∧ gI qr40s 322 ≤ 100000 := hRqr40s.1 322; have : (0 : Int) ≤ gI s 322 ∧ gI s 322 ≤ 100000 := hRs.1 322; omega) (by show gI s25 322 = 3 + 2 * (x2 + 1); have : gI s25 1420 = gI qr21s 1420 := q_Ai es25; have : gI qr21s 1420 = gI s18 1420 := Fqr21s.1 1420 (by decide); have : gI s18 1420 = gI qr14s 1420 := q_Ai es18; have : gI qr14s 1420 = gI s3 1420 := Fqr14s.1 1420 (by decide); have : gI s18 322 = gI qr14s 322 := q_Ai es18; have : (0 : Int) ≤ gI qr21s 322 ∧ gI qr21s 322 ≤ 100000 := hRqr21s.1 322; have : (0 : Int) ≤ gI qr14s 322 ∧ gI qr14s 322 ≤ 100000 := hRqr14s.1 322; have : (-70000 : Int) ≤ gI s3 1421 ∧ gI s3 1421 ≤ 16777215 := hRs3.1 1421; have : (0 : Int) ≤ gI s 1420 ∧ gI s 1420 ≤ 48 := hRs.1 1420; have : (0 : Int) ≤ gI s3 1420 ∧ gI s3 1420 ≤ 48 := hRs3.1 1420; have : (0 : Int) ≤ gI s3 322 ∧ gI s3 322 ≤ 100000 := hRs3.1 322; have : gI s44 1421 = (qr40r * 65536) + qr43r := q_II es44; have : (0 : Int) ≤ gI qr43s 322 ∧ gI qr43s 322 ≤ 100000 := hRqr43s.1 322; have : (0 : Int) ≤ gI qr40s 322 ∧ gI qr40s 322 ≤ 100000 := hRqr40s.1 322; have : (0 : Int) ≤ gI s 322 ∧ gI s 322 ≤ 100000 := hRs.1 322; have : gI s25 322 = gI qr21s 322 := q_Ai es25; omega) (by show gI s25 1420 = gI s 1420; have : gI s18 322 = gI qr14s 322 := q_Ai es18; have : (0 : Int) ≤ gI qr21s 322 ∧ gI qr21s 322 ≤ 100000 := hRqr21s.1 322; have : (0 : Int) ≤ gI qr14s 322 ∧ gI qr14s 322 ≤ 100000 := hRqr14s.1 322; have : (-70000 : Int) ≤ gI s3 1421 ∧ gI s3 1421 ≤ 16777215 := hRs3.1 1421; have : (0 : Int) ≤ gI s3 1420 ∧ gI s3 1420 ≤ 48 := hRs3.1 1420; have : (0 : Int) ≤ gI s3 322 ∧ gI s3 322 ≤ 100000 := hRs3.1 322; have : gI s44 1421 = (qr40r * 65536) + qr43r := q_II es44; have : (0 : Int) ≤ gI qr43s 322 ∧ gI qr43s 322 ≤ 100000 := hRqr43s.1 322; have : (0 : Int) ≤ gI qr40s 322 ∧ gI qr40s 322 ≤ 100000 := hRqr40s.1 322; have : (0 : Int) ≤ gI s 322 ∧ gI s 322 ≤ 100000 := hRs.1 322; have : (0 : Int) ≤ gI s 1420 ∧ gI s 1420 ≤ 48 := hRs.1 1420; have : gI s25 1420 = gI qr21s 1420 := q_Ai es25; have : gI qr21s 1420 = gI s18 1420 := Fqr21s.1 1420 (by decide); have : gI s18 1420 = gI qr14s 1420 := q_Ai es18; have : gI qr14s 1420 = gI s3 1420 := Fqr14s.1 1420 (by decide); omega) (fun h9 => absurd h9 (by omega)) (by have : gI s25 1420 = gI qr21s 1420 := q_Ai es25; have : gI qr21s 1420 = gI s18 1420 := Fqr21s.1 1420 (by decide); have : gI s18 1420 = gI qr14s 1420 := q_Ai es18; have : gI qr14s 1420 = gI s3 1420 := Fqr14s.1 1420 (by decide); have : gI s18 322 = gI qr14s 322 := q_Ai es18; have : (0 : Int) ≤ gI qr21s 322 ∧ gI qr21s 322 ≤ 100000 := hRqr21s.1 322; have : (0 : Int) ≤ gI qr14s 322 ∧ gI qr14s 322 ≤ 100000 := hRqr14s.1 322; have : (-70000 : Int) ≤ gI s3 1421 ∧ gI s3 1421 ≤ 16777215 := hRs3.1 1421; have : (0 : Int) ≤ gI s 1420 ∧ gI s 1420 ≤ 48 := hRs.1 1420; have : (0 : Int) ≤ gI s3 1420 ∧ gI s3 1420 ≤ 48 := hRs3.1 1420; have : (0 : Int) ≤ gI s3 322 ∧ gI s3 322 ≤ 100000 := hRs3.1 322; have : gI s44 1421 = (qr40r * 65536) + qr43r := q_II es44; have : (0 : Int) ≤ gI qr43s 322 ∧ gI qr43s 322 ≤ 100000 := hRqr43s.1 322; have : (0 : Int) ≤ gI qr40s 322 ∧ gI qr40s 322 ≤ 100000 := hRqr40s.1 322; have : (0 : Int) ≤ gI s 322 ∧ gI s 322 ≤ 100000 := hRs.1 322; omega)
              · skip
                unfold m_x4_loadHead_J114
                exact ih39 1 (x2 + 1) s25 hRs25 (by show (1 : Int) = 0 ∨ (1 : Int) = 1; have : gI s25 1420 = gI qr21s 1420 := q_Ai es25; have : gI qr21s 1420 = gI s18 1420 := Fqr21s.1 1420 (by decide); have : gI s18 1420 = gI qr14s 1420 := q_Ai es18; have : gI qr14s 1420 = gI s3 1420 := Fqr14s.1 1420 (by decide); have : gI s18 322 = gI qr14s 322 := q_Ai es18; have : (0 : Int) ≤ gI qr21s 322 ∧ gI qr21s 322 ≤ 100000 := hRqr21s.1 322; have : (0 : Int) ≤ gI qr14s 322 ∧ gI qr14s 322 ≤ 100000 := hRqr14s.1 322; have : (-70000 : Int) ≤ gI s3 1421 ∧ gI s3 1421 ≤ 16777215 := hRs3.1 1421; have : (0 : Int) ≤ gI s 1420 ∧ gI s 1420 ≤ 48 := hRs.1 1420; have : (0 : Int) ≤ gI s3 1420 ∧ gI s3 1420 ≤ 48 := hRs3.1 1420; have : (0 : Int) ≤ gI s3 322 ∧ gI s3 322 ≤ 100000 := hRs3.1 322; have : gI s44 1421 = (qr40r * 65536) + qr43r := q_II es44; have : (0 : Int) ≤ gI qr43s 322 ∧ gI qr43s 322 ≤ 100000 := hRqr43s.1 322; have : (0 : Int) ≤ gI qr40s 322 ∧ gI qr40s 322 ≤ 100000 := hRqr40s.1 322; have : (0 : Int) ≤ gI s 322 ∧ gI s 322 ≤ 100000 := hRs.1 322; omega) (by show 0 ≤ (x2 + 1) ∧ (x2 + 1) ≤ 8; have : gI s25 1420 = gI qr21s 1420 := q_Ai es25; have : gI qr21s 1420 = gI s18 1420 := Fqr21s.1 1420 (by decide); have : gI s18 1420 = gI qr14s 1420 := q_Ai es18; have : gI qr14s 1420 = gI s3 1420 := Fqr14s.1 1420 (by decide); have : gI s18 322 = gI qr14s 322 := q_Ai es18; have : (0 : Int) ≤ gI qr21s 322 ∧ gI qr21s 322 ≤ 100000 := hRqr21s.1 322; have : (0 : Int) ≤ gI qr14s 322 ∧ gI qr14s 322 ≤ 100000 := hRqr14s.1 322; have : (-70000 : Int) ≤ gI s3 1421 ∧ gI s3 1421 ≤ 16777215 := hRs3.1 1421; have : (0 : Int) ≤ gI s 1420 ∧ gI s 1420 ≤ 48 := hRs.1 1420; have : (0 : Int) ≤ gI s3 1420 ∧ gI s3 1420 ≤ 48 := hRs3.1 1420; have : (0 : Int) ≤ gI s3 322 ∧ gI s3 322 ≤ 100000 := hRs3.1 322; have : gI s44 1421 = (qr40r * 65536) + qr43r := q_II es44; have : (0 : Int) ≤ gI qr43s 322 ∧ gI qr43s 322 ≤ 100000 := hRqr43s.1 322; have : (0 : Int) ≤ gI qr40s 322 ∧ gI qr40s 322 ≤ 100000 := hRqr40s.1 322; have : (0 : Int) ≤ gI s 322 ∧ gI s 322 ≤ 100000 := hRs.1 322; omega) (by show gI s25 322 = 3 + 2 * (x2 + 1); have : gI s25 1420 = gI qr21s 1420 := q_Ai es25; have : gI qr21s 1420 = gI s18 1420 := Fqr21s.1 1420 (by decide); have : gI s18 1420 = gI qr14s 1420 := q_Ai es18; have : gI qr14s 1420 = gI s3 1420 := Fqr14s.1 1420 (by decide); have : gI s18 322 = gI qr14s 322 := q_Ai es18; have : (0 : Int) ≤ gI qr21s 322 ∧ gI qr21s 322 ≤ 100000 := hRqr21s.1 322; have : (0 : Int) ≤ gI qr14s 322 ∧ gI qr14s 322 ≤ 100000 := hRqr14s.1 322; have : (-70000 : Int) ≤ gI s3 1421 ∧ gI s3 1421 ≤ 16777215 := hRs3.1 1421; have : (0 : Int) ≤ gI s 1420 ∧ gI s 1420 ≤ 48 := hRs.1 1420; have : (0 : Int) ≤ gI s3 1420 ∧ gI s3 1420 ≤ 48 := hRs3.1 1420; have : (0 : Int) ≤ gI s3 322 ∧ gI s3 322 ≤ 100000 := hRs3.1 322; have : gI s44 1421 = (qr40r * 65536) + qr43r := q_II es44; have : (0 : Int) ≤ gI qr43s 322 ∧ gI qr43s 322 ≤ 100000 := hRqr43s.1 322; have : (0 : Int) ≤ gI qr40s 322 ∧ gI qr40s 322 ≤ 100000 := hRqr40s.1 322; have : (0 : Int) ≤ gI s 322 ∧ gI s 322 ≤ 100000 := hRs.1 322; have : gI s25 322 = gI qr21s 322 := q_Ai es25; omega) (by show gI s25 1420 = gI s 1420; have : gI s18 322 = gI qr14s 322 := q_Ai es18; have : (0 : Int) ≤ gI qr21s 322 ∧ gI qr21s 322 ≤ 100000 := hRqr21s.1 322; have : (0 : Int) ≤ gI qr14s 322 ∧ gI qr14s 322 ≤ 100000 := hRqr14s.1 322; have : (-70000 : Int) ≤ gI s3 1421 ∧ gI s3 1421 ≤ 16777215 := hRs3.1 1421; have : (0 : Int) ≤ gI s3 1420 ∧ gI s3 1420 ≤ 48 := hRs3.1 1420; have : (0 : Int) ≤ gI s3 322 ∧ gI s3 322 ≤ 100000 := hRs3.1 322; have : gI s44 1421 = (qr40r * 65536) + qr43r := q_II es44; have : (0 : Int) ≤ gI qr43s 322 ∧ gI qr43s 322 ≤ 100000 := hRqr43s.1 322; have : (0 : Int) ≤ gI qr40s 322 ∧ gI qr40s 322 ≤ 100000 := hRqr40s.1 322; have : (0 : Int) ≤ gI s 322 ∧ gI s 322 ≤ 100000 := hRs.1 322; have : (0 : Int) ≤ gI s 1420 ∧ gI s 1420 ≤ 48 := hRs.1 1420; have : gI s25 1420 = gI qr21s 1420 := q_Ai es25; have : gI qr21s 1420 = gI s18 1420 := Fqr21s.1 1420 (by decide); have : gI s18 1420 = gI qr14s 1420 := q_Ai es18; have : gI qr14s 1420 = gI s3 1420 := Fqr14s.1 1420 (by decide); omega) (fun h9 => ⟨by have a0 := (hv39_4 (by omega)).1; have : gI s25 1421 = gI s3 1421 := ((q_Ai es25 : gI s25 1421 = gI qr21s 1421).trans ((Fqr21s.1 1421 (by decide)).trans ((q_Ai es18 : gI s18 1421 = gI qr14s 1421).trans (Fqr14s.1 1421 (by decide))))); omega, fun w hw => by have a1 : gI s25 1420 = gI s3 1420 := ((q_Ai es25 : gI s25 1420 = gI qr21s 1420).trans ((Fqr21s.1 1420 (by decide)).trans ((q_Ai es18 : gI s18 1420 = gI qr14s 1420).trans (Fqr14s.1 1420 (by decide))))); by_cases z : w = x2.toNat; (rw [z, ey28, ey32]; exact ⟨by omega, by omega⟩); (have a := (hv39_4 (by omega)).2 w (by omega); rw [((q_Aa es25 (by decide) : gA s25 78 = gA qr21s 78).trans (Fqr21s.2.1 78 (by decide))), q_AA es18, upZ_n z, (Fqr14s.2.1 78 (by decide)), q_AA es25, upZ_n z, ((Fqr21s.2.1 79 (by decide)).trans ((q_Aa es18 (by decide) : gA s18 79 = gA qr14s 79).trans (Fqr14s.2.1 79 (by decide))))]; exact a)⟩) (by have : gI s25 1420 = gI qr21s 1420 := q_Ai es25; have : gI qr21s 1420 = gI s18 1420 := Fqr21s.1 1420 (by decide); have : gI s18 1420 = gI qr14s 1420 := q_Ai es18; have : gI qr14s 1420 = gI s3 1420 := Fqr14s.1 1420 (by decide); have : gI s18 322 = gI qr14s 322 := q_Ai es18; have : (0 : Int) ≤ gI qr21s 322 ∧ gI qr21s 322 ≤ 100000 := hRqr21s.1 322; have : (0 : Int) ≤ gI qr14s 322 ∧ gI qr14s 322 ≤ 100000 := hRqr14s.1 322; have : (-70000 : Int) ≤ gI s3 1421 ∧ gI s3 1421 ≤ 16777215 := hRs3.1 1421; have : (0 : Int) ≤ gI s 1420 ∧ gI s 1420 ≤ 48 := hRs.1 1420; have : (0 : Int) ≤ gI s3 1420 ∧ gI s3 1420 ≤ 48 := hRs3.1 1420; have : (0 : Int) ≤ gI s3 322 ∧ gI s3 322 ≤ 100000 := hRs3.1 322; have : gI s44 1421 = (qr40r * 65536) + qr43r := q_II es44; have : (0 : Int) ≤ gI qr43s 322 ∧ gI qr43s 322 ≤ 100000 := hRqr43s.1 322; have : (0 : Int) ≤ gI qr40s 322 ∧ gI qr40s 322 ≤ 100000 := hRqr40s.1 322; have : (0 : Int) ≤ gI s 322 ∧ gI s 322 ≤ 100000 := hRs.1 322; omega)
    exact L39 FU 0 0 s44 hRs44 (by show (0 : Int) = 0 ∨ (0 : Int) = 1; have : gI s44 1421 = (qr40r * 65536) + qr43r := q_II es44; have : (0 : Int) ≤ gI qr43s 322 ∧ gI qr43s 322 ≤ 100000 := hRqr43s.1 322; have : (0 : Int) ≤ gI qr40s 322 ∧ gI qr40s 322 ≤ 100000 := hRqr40s.1 322; have : (0 : Int) ≤ gI s 322 ∧ gI s 322 ≤ 100000 := hRs.1 322; omega) (by show 0 ≤ (0 : Int) ∧ (0 : Int) ≤ 8; have : gI s44 1421 = (qr40r * 65536) + qr43r := q_II es44; have : (0 : Int) ≤ gI qr43s 322 ∧ gI qr43s 322 ≤ 100000 := hRqr43s.1 322; have : (0 : Int) ≤ gI qr40s 322 ∧ gI qr40s 322 ≤ 100000 := hRqr40s.1 322; have : (0 : Int) ≤ gI s 322 ∧ gI s 322 ≤ 100000 := hRs.1 322; omega) (by show gI s44 322 = 3 + 2 * (0 : Int); have : gI s44 1421 = (qr40r * 65536) + qr43r := q_II es44; have : (0 : Int) ≤ gI qr43s 322 ∧ gI qr43s 322 ≤ 100000 := hRqr43s.1 322; have : (0 : Int) ≤ gI qr40s 322 ∧ gI qr40s 322 ≤ 100000 := hRqr40s.1 322; have : (0 : Int) ≤ gI s 322 ∧ gI s 322 ≤ 100000 := hRs.1 322; have : gI s44 322 = gI qr43s 322 := q_Ii es44 (by decide); omega) (by show gI s44 1420 = gI s 1420; have : gI s44 1421 = (qr40r * 65536) + qr43r := q_II es44; have : (0 : Int) ≤ gI qr43s 322 ∧ gI qr43s 322 ≤ 100000 := hRqr43s.1 322; have : (0 : Int) ≤ gI qr40s 322 ∧ gI qr40s 322 ≤ 100000 := hRqr40s.1 322; have : (0 : Int) ≤ gI s 322 ∧ gI s 322 ≤ 100000 := hRs.1 322; have : (0 : Int) ≤ gI s 1420 ∧ gI s 1420 ≤ 48 := hRs.1 1420; have : gI s44 1420 = gI qr43s 1420 := q_Ii es44 (by decide); have : gI qr43s 1420 = gI qr40s 1420 := Fqr43s.1 1420 (by decide); have : gI qr40s 1420 = gI s 1420 := Fqr40s.1 1420 (by decide); omega) (fun h9 => absurd h9 (by omega)) (by have := FU_big; have := FU_big2; have : gI s44 1421 = (qr40r * 65536) + qr43r := q_II es44; have : (0 : Int) ≤ gI qr43s 322 ∧ gI qr43s 322 ≤ 100000 := hRqr43s.1 322; have : (0 : Int) ≤ gI qr40s 322 ∧ gI qr40s 322 ≤ 100000 := hRqr40s.1 322; have : (0 : Int) ≤ gI s 322 ∧ gI s 322 ≤ 100000 := hRs.1 322; omega)
  · skip
    unfold m_x4_loadHead_J34
    have L39 : ∀ (n : Nat) (x1 : Int) (x2 : Int) (s3 : MS), Rg s3 → (x1 = 0 ∨ x1 = 1) → (0 ≤ x2 ∧ x2 ≤ 8) → (gI s3 322 = 3 + 2 * x2) → (gI s3 1420 = gI s 1420) → (x1 = 1 → gI s3 1421 ≤ 999999 ∧ ∀ w : Nat, (w : Int) < x2 → gA s3 78 w < gI s 1420 ∧ gA s3 79 w < gI s 1420) → (8 - x2) < (n : Int) → wp (m_x4_loadHead_L39 n x1 x2 s3) (fun q => (Rg q.2) ∧ (q.1 = 0 ∨ q.1 = 1) ∧ (gI q.2 322 = 19) ∧ (q.1 = 1 → gI q.2 1421 ≤ 999999 ∧ ∀ w : Nat, (w : Int) < 8 → gA q.2 78 w < gI s 1420 ∧ gA q.2 79 w < gI s 1420)) := by
      refine fr_ind (fun x1 x2 s3 hRs3 hv39_0 hv39_1 hv39_2 hv39_3 hv39_4 hm39 => ?_) (fun n39 ih39 x1 x2 s3 hRs3 hv39_0 hv39_1 hv39_2 hv39_3 hv39_4 hm39 => ?_)
      · exfalso; have : (-70000 : Int) ≤ gI s3 1421 ∧ gI s3 1421 ≤ 16777215 := hRs3.1 1421; have : (0 : Int) ≤ gI s 1420 ∧ gI s 1420 ≤ 48 := hRs.1 1420; have : (0 : Int) ≤ gI s3 1420 ∧ gI s3 1420 ≤ 48 := hRs3.1 1420; have : (0 : Int) ≤ gI s3 322 ∧ gI s3 322 ≤ 100000 := hRs3.1 322; omega
      · show wp (m_x4_loadHead_b39 (m_x4_loadHead_L39 n39) x1 x2 s3) _
        unfold m_x4_loadHead_b39
        refine wp_rg (by have : (-70000 : Int) ≤ gI s3 1421 ∧ gI s3 1421 ≤ 16777215 := hRs3.1 1421; have : (0 : Int) ≤ gI s 1420 ∧ gI s 1420 ≤ 48 := hRs.1 1420; have : (0 : Int) ≤ gI s3 1420 ∧ gI s3 1420 ≤ 48 := hRs3.1 1420; have : (0 : Int) ≤ gI s3 322 ∧ gI s3 322 ≤ 100000 := hRs3.1 322; have : gI s44 1421 = (qr40r * 65536) + qr43r := q_II es44; have : (0 : Int) ≤ gI qr43s 322 ∧ gI qr43s 322 ≤ 100000 := hRqr43s.1 322; have : (0 : Int) ≤ gI qr40s 322 ∧ gI qr40s 322 ≤ 100000 := hRqr40s.1 322; have : (0 : Int) ≤ gI s 322 ∧ gI s 322 ≤ 100000 := hRs.1 322; omega) ?_
        refine wp_if (fun c6 => ?_) (fun c6 => ?_)
        · skip
          refine wp_bo (by have : (-70000 : Int) ≤ gI s3 1421 ∧ gI s3 1421 ≤ 16777215 := hRs3.1 1421; have : (0 : Int) ≤ gI s 1420 ∧ gI s 1420 ≤ 48 := hRs.1 1420; have : (0 : Int) ≤ gI s3 1420 ∧ gI s3 1420 ≤ 48 := hRs3.1 1420; have : (0 : Int) ≤ gI s3 322 ∧ gI s3 322 ≤ 100000 := hRs3.1 322; have : gI s44 1421 = (qr40r * 65536) + qr43r := q_II es44; have : (0 : Int) ≤ gI qr43s 322 ∧ gI qr43s 322 ≤ 100000 := hRqr43s.1 322; have : (0 : Int) ≤ gI qr40s 322 ∧ gI qr40s 322 ≤ 100000 := hRqr40s.1 322; have : (0 : Int) ≤ gI s 322 ∧ gI s 322 ≤ 100000 := hRs.1 322; omega) ?_
          exact wp_some ⟨hRs3, by show x1 = 0 ∨ x1 = 1; have : (-70000 : Int) ≤ gI s3 1421 ∧ gI s3 1421 ≤ 16777215 := hRs3.1 1421; have : (0 : Int) ≤ gI s 1420 ∧ gI s 1420 ≤ 48 := hRs.1 1420; have : (0 : Int) ≤ gI s3 1420 ∧ gI s3 1420 ≤ 48 := hRs3.1 1420; have : (0 : Int) ≤ gI s3 322 ∧ gI s3 322 ≤ 100000 := hRs3.1 322; have : gI s44 1421 = (qr40r * 65536) + qr43r := q_II es44; have : (0 : Int) ≤ gI qr43s 322 ∧ gI qr43s 322 ≤ 100000 := hRqr43s.1 322; have : (0 : Int) ≤ gI qr40s 322 ∧ gI qr40s 322 ≤ 100000 := hRqr40s.1 322; have : (0 : Int) ≤ gI s 322 ∧ gI s 322 ≤ 100000 := hRs.1 322; omega, by show gI s3 322 = 19; have : (-70000 : Int) ≤ gI s3 1421 ∧ gI s3 1421 ≤ 16777215 := hRs3.1 1421; have : (0 : Int) ≤ gI s 1420 ∧ gI s 1420 ≤ 48 := hRs.1 1420; have : (0 : Int) ≤ gI s3 1420 ∧ gI s3 1420 ≤ 48 := hRs3.1 1420; have : gI s44 1421 = (qr40r * 65536) + qr43r := q_II es44; have : (0 : Int) ≤ gI qr43s 322 ∧ gI qr43s 322 ≤ 100000 := hRqr43s.1 322; have : (0 : Int) ≤ gI qr40s 322 ∧ gI qr40s 322 ≤ 100000 := hRqr40s.1 322; have : (0 : Int) ≤ gI s 322 ∧ gI s 322 ≤ 100000 := hRs.1 322; have : (0 : Int) ≤ gI s3 322 ∧ gI s3 322 ≤ 100000 := hRs3.1 322; omega, fun h9 => ⟨(hv39_4 h9).1, fun w hw => (hv39_4 h9).2 w (by omega)⟩⟩
        · skip
          refine wp_bn (w_x4_next hRs3 (by show gI s3 322 ≤ 90000; have : (-70000 : Int) ≤ gI s3 1421 ∧ gI s3 1421 ≤ 16777215 := hRs3.1 1421; have : (0 : Int) ≤ gI s 1420 ∧ gI s 1420 ≤ 48 := hRs.1 1420; have : (0 : Int) ≤ gI s3 1420 ∧ gI s3 1420 ≤ 48 := hRs3.1 1420; have : gI s44 1421 = (qr40r * 65536) + qr43r := q_II es44; have : (0 : Int) ≤ gI qr43s 322 ∧ gI qr43s 322 ≤ 100000 := hRqr43s.1 322; have : (0 : Int) ≤ gI qr40s 322 ∧ gI qr40s 322 ≤ 100000 := hRqr40s.1 322; have : (0 : Int) ≤ gI s 322 ∧ gI s 322 ≤ 100000 := hRs.1 322; have : (0 : Int) ≤ gI s3 322 ∧ gI s3 322 ≤ 100000 := hRs3.1 322; omega)) (fun qqr14 eqr14s hqr14s => ?_)
          obtain ⟨qr14r, qr14s⟩ := qqr14
          dsimp only at eqr14s hqr14s ⊢
          have Fqr14s := fr_x4_next eqr14s
          obtain ⟨hRqr14s, hqr14s_0, hqr14s_1⟩ := hqr14s
          have hqr14s_0 : (-1) ≤ qr14r ∧ qr14r ≤ 255 := hqr14s_0
          have hqr14s_1 : gI qr14s 322 = gI s3 322 + 1 := hqr14s_1
          refine wp_bn (w_x4_rootOf hRqr14s (by show (-1) ≤ qr14r ∧ qr14r ≤ 255; have : (0 : Int) ≤ gI qr14s 322 ∧ gI qr14s 322 ≤ 100000 := hRqr14s.1 322; have : (-70000 : Int) ≤ gI s3 1421 ∧ gI s3 1421 ≤ 16777215 := hRs3.1 1421; have : (0 : Int) ≤ gI s 1420 ∧ gI s 1420 ≤ 48 := hRs.1 1420; have : (0 : Int) ≤ gI s3 1420 ∧ gI s3 1420 ≤ 48 := hRs3.1 1420; have : (0 : Int) ≤ gI s3 322 ∧ gI s3 322 ≤ 100000 := hRs3.1 322; have : gI s44 1421 = (qr40r * 65536) + qr43r := q_II es44; have : (0 : Int) ≤ gI qr43s 322 ∧ gI qr43s 322 ≤ 100000 := hRqr43s.1 322; have : (0 : Int) ≤ gI qr40s 322 ∧ gI qr40s 322 ≤ 100000 := hRqr40s.1 322; have : (0 : Int) ≤ gI s 322 ∧ gI s 322 ≤ 100000 := hRs.1 322; omega)) (fun r16 er16 hr16 => ?_)
          have hr16_0 := hr16
          have hr16_0 : (-2) ≤ r16 ∧ r16 ≤ 253 := hr16_0
          refine wp_inb (by have : (0 : Int) ≤ gI qr14s 322 ∧ gI qr14s 322 ≤ 100000 := hRqr14s.1 322; have : (-70000 : Int) ≤ gI s3 1421 ∧ gI s3 1421 ≤ 16777215 := hRs3.1 1421; have : (0 : Int) ≤ gI s 1420 ∧ gI s 1420 ≤ 48 := hRs.1 1420; have : (0 : Int) ≤ gI s3 1420 ∧ gI s3 1420 ≤ 48 := hRs3.1 1420; have : (0 : Int) ≤ gI s3 322 ∧ gI s3 322 ≤ 100000 := hRs3.1 322; have : gI s44 1421 = (qr40r * 65536) + qr43r := q_II es44; have : (0 : Int) ≤ gI qr43s 322 ∧ gI qr43s 322 ≤ 100000 := hRqr43s.1 322; have : (0 : Int) ≤ gI qr40s 322 ∧ gI qr40s 322 ≤ 100000 := hRqr40s.1 322; have : (0 : Int) ≤ gI s 322 ∧ gI s 322 ≤ 100000 := hRs.1 322; omega) ?_
          refine wp_stn (fun s18 es18 => ?_)
          have hRs18 : Rg s18 := es18 ▸ Rg.uAu hRqr14s (by show (-2 : Int) ≤ r16 ∧ r16 ≤ 253; have : (0 : Int) ≤ gI qr14s 322 ∧ gI qr14s 322 ≤ 100000 := hRqr14s.1 322; have : (-70000 : Int) ≤ gI s3 1421 ∧ gI s3 1421 ≤ 16777215 := hRs3.1 1421; have : (0 : Int) ≤ gI s 1420 ∧ gI s 1420 ≤ 48 := hRs.1 1420; have : (0 : Int) ≤ gI s3 1420 ∧ gI s3 1420 ≤ 48 := hRs3.1 1420; have : (0 : Int) ≤ gI s3 322 ∧ gI s3 322 ≤ 100000 := hRs3.1 322; have : gI s44 1421 = (qr40r * 65536) + qr43r := q_II es44; have : (0 : Int) ≤ gI qr43s 322 ∧ gI qr43s 322 ≤ 100000 := hRqr43s.1 322; have : (0 : Int) ≤ gI qr40s 322 ∧ gI qr40s 322 ≤ 100000 := hRqr40s.1 322; have : (0 : Int) ≤ gI s 322 ∧ gI s 322 ≤ 100000 := hRs.1 322; omega)
          refine wp_bn (w_x4_next hRs18 (by show gI s18 322 ≤ 90000; have : (0 : Int) ≤ gI qr14s 322 ∧ gI qr14s 322 ≤ 100000 := hRqr14s.1 322; have : (-70000 : Int) ≤ gI s3 1421 ∧ gI s3 1421 ≤ 16777215 := hRs3.1 1421; have : (0 : Int) ≤ gI s 1420 ∧ gI s 1420 ≤ 48 := hRs.1 1420; have : (0 : Int) ≤ gI s3 1420 ∧ gI s3 1420 ≤ 48 := hRs3.1 1420; have : (0 : Int) ≤ gI s3 322 ∧ gI s3 322 ≤ 100000 := hRs3.1 322; have : gI s44 1421 = (qr40r * 65536) + qr43r := q_II es44; have : (0 : Int) ≤ gI qr43s 322 ∧ gI qr43s 322 ≤ 100000 := hRqr43s.1 322; have : (0 : Int) ≤ gI qr40s 322 ∧ gI qr40s 322 ≤ 100000 := hRqr40s.1 322; have : (0 : Int) ≤ gI s 322 ∧ gI s 322 ≤ 100000 := hRs.1 322; have : gI s18 322 = gI qr14s 322 := q_Ai es18; omega)) (fun qqr21 eqr21s hqr21s => ?_)
          obtain ⟨qr21r, qr21s⟩ := qqr21
          dsimp only at eqr21s hqr21s ⊢
          have Fqr21s := fr_x4_next eqr21s
          obtain ⟨hRqr21s, hqr21s_0, hqr21s_1⟩ := hqr21s
          have hqr21s_0 : (-1) ≤ qr21r ∧ qr21r ≤ 255 := hqr21s_0
          have hqr21s_1 : gI qr21s 322 = gI s18 322 + 1 := hqr21s_1
          refine wp_bn (w_x4_rootOf hRqr21s (by show (-1) ≤ qr21r ∧ qr21r ≤ 255; have : gI s18 322 = gI qr14s 322 := q_Ai es18; have : (0 : Int) ≤ gI qr21s 322 ∧ gI qr21s 322 ≤ 100000 := hRqr21s.1 322; have : (0 : Int) ≤ gI qr14s 322 ∧ gI qr14s 322 ≤ 100000 := hRqr14s.1 322; have : (-70000 : Int) ≤ gI s3 1421 ∧ gI s3 1421 ≤ 16777215 := hRs3.1 1421; have : (0 : Int) ≤ gI s 1420 ∧ gI s 1420 ≤ 48 := hRs.1 1420; have : (0 : Int) ≤ gI s3 1420 ∧ gI s3 1420 ≤ 48 := hRs3.1 1420; have : (0 : Int) ≤ gI s3 322 ∧ gI s3 322 ≤ 100000 := hRs3.1 322; have : gI s44 1421 = (qr40r * 65536) + qr43r := q_II es44; have : (0 : Int) ≤ gI qr43s 322 ∧ gI qr43s 322 ≤ 100000 := hRqr43s.1 322; have : (0 : Int) ≤ gI qr40s 322 ∧ gI qr40s 322 ≤ 100000 := hRqr40s.1 322; have : (0 : Int) ≤ gI s 322 ∧ gI s 322 ≤ 100000 := hRs.1 322; omega)) (fun r23 er23 hr23 => ?_)
          have hr23_0 := hr23
          have hr23_0 : (-2) ≤ r23 ∧ r23 ≤ 253 := hr23_0
          refine wp_inb (by have : gI s18 322 = gI qr14s 322 := q_Ai es18; have : (0 : Int) ≤ gI qr21s 322 ∧ gI qr21s 322 ≤ 100000 := hRqr21s.1 322; have : (0 : Int) ≤ gI qr14s 322 ∧ gI qr14s 322 ≤ 100000 := hRqr14s.1 322; have : (-70000 : Int) ≤ gI s3 1421 ∧ gI s3 1421 ≤ 16777215 := hRs3.1 1421; have : (0 : Int) ≤ gI s 1420 ∧ gI s 1420 ≤ 48 := hRs.1 1420; have : (0 : Int) ≤ gI s3 1420 ∧ gI s3 1420 ≤ 48 := hRs3.1 1420; have : (0 : Int) ≤ gI s3 322 ∧ gI s3 322 ≤ 100000 := hRs3.1 322; have : gI s44 1421 = (qr40r * 65536) + qr43r := q_II es44; have : (0 : Int) ≤ gI qr43s 322 ∧ gI qr43s 322 ≤ 100000 := hRqr43s.1 322; have : (0 : Int) ≤ gI qr40s 322 ∧ gI qr40s 322 ≤ 100000 := hRqr40s.1 322; have : (0 : Int) ≤ gI s 322 ∧ gI s 322 ≤ 100000 := hRs.1 322; omega) ?_
          refine wp_stn (fun s25 es25 => ?_)
          have hRs25 : Rg s25 := es25 ▸ Rg.uAu hRqr21s (by show (-2 : Int) ≤ r23 ∧ r23 ≤ 253; have : gI s18 322 = gI qr14s 322 := q_Ai es18; have : (0 : Int) ≤ gI qr21s 322 ∧ gI qr21s 322 ≤ 100000 := hRqr21s.1 322; have : (0 : Int) ≤ gI qr14s 322 ∧ gI qr14s 322 ≤ 100000 := hRqr14s.1 322; have : (-70000 : Int) ≤ gI s3 1421 ∧ gI s3 1421 ≤ 16777215 := hRs3.1 1421; have : (0 : Int) ≤ gI s 1420 ∧ gI s 1420 ≤ 48 := hRs.1 1420; have : (0 : Int) ≤ gI s3 1420 ∧ gI s3 1420 ≤ 48 := hRs3.1 1420; have : (0 : Int) ≤ gI s3 322 ∧ gI s3 322 ≤ 100000 := hRs3.1 322; have : gI s44 1421 = (qr40r * 65536) + qr43r := q_II es44; have : (0 : Int) ≤ gI qr43s 322 ∧ gI qr43s 322 ≤ 100000 := hRqr43s.1 322; have : (0 : Int) ≤ gI qr40s 322 ∧ gI qr40s 322 ≤ 100000 := hRqr40s.1 322; have : (0 : Int) ≤ gI s 322 ∧ gI s 322 ≤ 100000 := hRs.1 322; omega)
          refine wp_rg (by have : gI s18 322 = gI qr14s 322 := q_Ai es18; have : (0 : Int) ≤ gI qr21s 322 ∧ gI qr21s 322 ≤ 100000 := hRqr21s.1 322; have : (0 : Int) ≤ gI qr14s 322 ∧ gI qr14s 322 ≤ 100000 := hRqr14s.1 322; have : (-70000 : Int) ≤ gI s3 1421 ∧ gI s3 1421 ≤ 16777215 := hRs3.1 1421; have : (0 : Int) ≤ gI s 1420 ∧ gI s 1420 ≤ 48 := hRs.1 1420; have : (0 : Int) ≤ gI s3 1420 ∧ gI s3 1420 ≤ 48 := hRs3.1 1420; have : (0 : Int) ≤ gI s3 322 ∧ gI s3 322 ≤ 100000 := hRs3.1 322; have : gI s44 1421 = (qr40r * 65536) + qr43r := q_II es44; have : (0 : Int) ≤ gI qr43s 322 ∧ gI qr43s 322 ≤ 100000 := hRqr43s.1 322; have : (0 : Int) ≤ gI qr40s 322 ∧ gI qr40s 322 ≤ 100000 := hRqr40s.1 322; have : (0 : Int) ≤ gI s 322 ∧ gI s 322 ≤ 100000 := hRs.1 322; omega) ?_
          refine wp_if (fun c7 => ?_) (fun c7 => ?_)
          · skip
            unfold m_x4_loadHead_J113
            unfold m_x4_loadHead_J114
            exact ih39 0 (x2 + 1) s25 hRs25 (by show (0 : Int) = 0 ∨ (0 : Int) = 1; have : gI s18 322 = gI qr14s 322 := q_Ai es18; have : (0 : Int) ≤ gI qr21s 322 ∧ gI qr21s 322 ≤ 100000 := hRqr21s.1 322; have : (0 : Int) ≤ gI qr14s 322 ∧ gI qr14s 322 ≤ 100000 := hRqr14s.1 322; have : (-70000 : Int) ≤ gI s3 1421 ∧ gI s3 1421 ≤ 16777215 := hRs3.1 1421; have : (0 : Int) ≤ gI s 1420 ∧ gI s 1420 ≤ 48 := hRs.1 1420; have : (0 : Int) ≤ gI s3 1420 ∧ gI s3 1420 ≤ 48 := hRs3.1 1420; have : (0 : Int) ≤ gI s3 322 ∧ gI s3 322 ≤ 100000 := hRs3.1 322; have : gI s44 1421 = (qr40r * 65536) + qr43r := q_II es44; have : (0 : Int) ≤ gI qr43s 322 ∧ gI qr43s 322 ≤ 100000 := hRqr43s.1 322; have : (0 : Int) ≤ gI qr40s 322 ∧ gI qr40s 322 ≤ 100000 := hRqr40s.1 322; have : (0 : Int) ≤ gI s 322 ∧ gI s 322 ≤ 100000 := hRs.1 322; omega) (by show 0 ≤ (x2 + 1) ∧ (x2 + 1) ≤ 8; have : gI s18 322 = gI qr14s 322 := q_Ai es18; have : (0 : Int) ≤ gI qr21s 322 ∧ gI qr21s 322 ≤ 100000 := hRqr21s.1 322; have : (0 : Int) ≤ gI qr14s 322 ∧ gI qr14s 322 ≤ 100000 := hRqr14s.1 322; have : (-70000 : Int) ≤ gI s3 1421 ∧ gI s3 1421 ≤ 16777215 := hRs3.1 1421; have : (0 : Int) ≤ gI s 1420 ∧ gI s 1420 ≤ 48 := hRs.1 1420; have : (0 : Int) ≤ gI s3 1420 ∧ gI s3 1420 ≤ 48 := hRs3.1 1420; have : (0 : Int) ≤ gI s3 322 ∧ gI s3 322 ≤ 100000 := hRs3.1 322; have : gI s44 1421 = (qr40r * 65536) + qr43r := q_II es44; have : (0 : Int) ≤ gI qr43s 322 ∧ gI qr43s 322 ≤ 100000 := hRqr43s.1 322; have : (0 : Int) ≤ gI qr40s 322 ∧ gI qr40s 322 ≤ 100000 := hRqr40s.1 322; have : (0 : Int) ≤ gI s 322 ∧ gI s 322 ≤ 100000 := hRs.1 322; omega) (by show gI s25 322 = 3 + 2 * (x2 + 1); have : gI s18 322 = gI qr14s 322 := q_Ai es18; have : (0 : Int) ≤ gI qr21s 322 ∧ gI qr21s 322 ≤ 100000 := hRqr21s.1 322; have : (0 : Int) ≤ gI qr14s 322 ∧ gI qr14s 322 ≤ 100000 := hRqr14s.1 322; have : (-70000 : Int) ≤ gI s3 1421 ∧ gI s3 1421 ≤ 16777215 := hRs3.1 1421; have : (0 : Int) ≤ gI s 1420 ∧ gI s 1420 ≤ 48 := hRs.1 1420; have : (0 : Int) ≤ gI s3 1420 ∧ gI s3 1420 ≤ 48 := hRs3.1 1420; have : (0 : Int) ≤ gI s3 322 ∧ gI s3 322 ≤ 100000 := hRs3.1 322; have : gI s44 1421 = (qr40r * 65536) + qr43r := q_II es44; have : (0 : Int) ≤ gI qr43s 322 ∧ gI qr43s 322 ≤ 100000 := hRqr43s.1 322; have : (0 : Int) ≤ gI qr40s 322 ∧ gI qr40s 322 ≤ 100000 := hRqr40s.1 322; have : (0 : Int) ≤ gI s 322 ∧ gI s 322 ≤ 100000 := hRs.1 322; have : gI s25 322 = gI qr21s 322 := q_Ai es25; omega) (by show gI s25 1420 = gI s 1420; have : gI s18 322 = gI qr14s 322 := q_Ai es18; have : (0 : Int) ≤ gI qr21s 322 ∧ gI qr21s 322 ≤ 100000 := hRqr21s.1 322; have : (0 : Int) ≤ gI qr14s 322 ∧ gI qr14s 322 ≤ 100000 := hRqr14s.1 322; have : (-70000 : Int) ≤ gI s3 1421 ∧ gI s3 1421 ≤ 16777215 := hRs3.1 1421; have : (0 : Int) ≤ gI s3 1420 ∧ gI s3 1420 ≤ 48 := hRs3.1 1420; have : (0 : Int) ≤ gI s3 322 ∧ gI s3 322 ≤ 100000 := hRs3.1 322; have : gI s44 1421 = (qr40r * 65536) + qr43r := q_II es44; have : (0 : Int) ≤ gI qr43s 322 ∧ gI qr43s 322 ≤ 100000 := hRqr43s.1 322; have : (0 : Int) ≤ gI qr40s 322 ∧ gI qr40s 322 ≤ 100000 := hRqr40s.1 322; have : (0 : Int) ≤ gI s 322 ∧ gI s 322 ≤ 100000 := hRs.1 322; have : (0 : Int) ≤ gI s 1420 ∧ gI s 1420 ≤ 48 := hRs.1 1420; have : gI s25 1420 = gI qr21s 1420 := q_Ai es25; have : gI qr21s 1420 = gI s18 1420 := Fqr21s.1 1420 (by decide); have : gI s18 1420 = gI qr14s 1420 := q_Ai es18; have : gI qr14s 1420 = gI s3 1420 := Fqr14s.1 1420 (by decide); omega) (fun h9 => absurd h9 (by omega)) (by have : gI s18 322 = gI qr14s 322 := q_Ai es18; have : (0 : Int) ≤ gI qr21s 322 ∧ gI qr21s 322 ≤ 100000 := hRqr21s.1 322; have : (0 : Int) ≤ gI qr14s 322 ∧ gI qr14s 322 ≤ 100000 := hRqr14s.1 322; have : (-70000 : Int) ≤ gI s3 1421 ∧ gI s3 1421 ≤ 16777215 := hRs3.1 1421; have : (0 : Int) ≤ gI s 1420 ∧ gI s 1420 ≤ 48 := hRs.1 1420; have : (0 : Int) ≤ gI s3 1420 ∧ gI s3 1420 ≤ 48 := hRs3.1 1420; have : (0 : Int) ≤ gI s3 322 ∧ gI s3 322 ≤ 100000 := hRs3.1 322; have : gI s44 1421 = (qr40r * 65536) + qr43r := q_II es44; have : (0 : Int) ≤ gI qr43s 322 ∧ gI qr43s 322 ≤ 100000 := hRqr43s.1 322; have : (0 : Int) ≤ gI qr40s 322 ∧ gI qr40s 322 ≤ 100000 := hRqr40s.1 322; have : (0 : Int) ≤ gI s 322 ∧ gI s 322 ≤ 100000 := hRs.1 322; omega)
          · skip
            refine wp_rdIn (by have : gI s18 322 = gI qr14s 322 := q_Ai es18; have : (0 : Int) ≤ gI qr21s 322 ∧ gI qr21s 322 ≤ 100000 := hRqr21s.1 322; have : (0 : Int) ≤ gI qr14s 322 ∧ gI qr14s 322 ≤ 100000 := hRqr14s.1 322; have : (-70000 : Int) ≤ gI s3 1421 ∧ gI s3 1421 ≤ 16777215 := hRs3.1 1421; have : (0 : Int) ≤ gI s 1420 ∧ gI s 1420 ≤ 48 := hRs.1 1420; have : (0 : Int) ≤ gI s3 1420 ∧ gI s3 1420 ≤ 48 := hRs3.1 1420; have : (0 : Int) ≤ gI s3 322 ∧ gI s3 322 ≤ 100000 := hRs3.1 322; have : gI s44 1421 = (qr40r * 65536) + qr43r := q_II es44; have : (0 : Int) ≤ gI qr43s 322 ∧ gI qr43s 322 ≤ 100000 := hRqr43s.1 322; have : (0 : Int) ≤ gI qr40s 322 ∧ gI qr40s 322 ≤ 100000 := hRqr40s.1 322; have : (0 : Int) ≤ gI s 322 ∧ gI s 322 ≤ 100000 := hRs.1 322; omega) (fun y28 ey28 => ?_)
            have by28 : (-2 : Int) ≤ y28 ∧ y28 ≤ 253 := ey28 ▸ hRs25.2.1 78 _ (by show _ < 8; have : gI s18 322 = gI qr14s 322 := q_Ai es18; have : (0 : Int) ≤ gI qr21s 322 ∧ gI qr21s 322 ≤ 100000 := hRqr21s.1 322; have : (0 : Int) ≤ gI qr14s 322 ∧ gI qr14s 322 ≤ 100000 := hRqr14s.1 322; have : (-70000 : Int) ≤ gI s3 1421 ∧ gI s3 1421 ≤ 16777215 := hRs3.1 1421; have : (0 : Int) ≤ gI s 1420 ∧ gI s 1420 ≤ 48 := hRs.1 1420; have : (0 : Int) ≤ gI s3 1420 ∧ gI s3 1420 ≤ 48 := hRs3.1 1420; have : (0 : Int) ≤ gI s3 322 ∧ gI s3 322 ≤ 100000 := hRs3.1 322; have : gI s44 1421 = (qr40r * 65536) + qr43r := q_II es44; have : (0 : Int) ≤ gI qr43s 322 ∧ gI qr43s 322 ≤ 100000 := hRqr43s.1 322; have : (0 : Int) ≤ gI qr40s 322 ∧ gI qr40s 322 ≤ 100000 := hRqr40s.1 322; have : (0 : Int) ≤ gI s 322 ∧ gI s 322 ≤ 100000 := hRs.1 322; omega)
            refine wp_rg (by have : gI s18 322 = gI qr14s 322 := q_Ai es18; have : (0 : Int) ≤ gI qr21s 322 ∧ gI qr21s 322 ≤ 100000 := hRqr21s.1 322; have : (0 : Int) ≤ gI qr14s 322 ∧ gI qr14s 322 ≤ 100000 := hRqr14s.1 322; have : (-70000 : Int) ≤ gI s3 1421 ∧ gI s3 1421 ≤ 16777215 := hRs3.1 1421; have : (0 : Int) ≤ gI s 1420 ∧ gI s 1420 ≤ 48 := hRs.1 1420; have : (0 : Int) ≤ gI s3 1420 ∧ gI s3 1420 ≤ 48 := hRs3.1 1420; have : (0 : Int) ≤ gI s3 322 ∧ gI s3 322 ≤ 100000 := hRs3.1 322; have : gI s44 1421 = (qr40r * 65536) + qr43r := q_II es44; have : (0 : Int) ≤ gI qr43s 322 ∧ gI qr43s 322 ≤ 100000 := hRqr43s.1 322; have : (0 : Int) ≤ gI qr40s 322 ∧ gI qr40s 322 ≤ 100000 := hRqr40s.1 322; have : (0 : Int) ≤ gI s 322 ∧ gI s 322 ≤ 100000 := hRs.1 322; omega) ?_
            refine wp_rg (by have : gI s18 322 = gI qr14s 322 := q_Ai es18; have : (0 : Int) ≤ gI qr21s 322 ∧ gI qr21s 322 ≤ 100000 := hRqr21s.1 322; have : (0 : Int) ≤ gI qr14s 322 ∧ gI qr14s 322 ≤ 100000 := hRqr14s.1 322; have : (-70000 : Int) ≤ gI s3 1421 ∧ gI s3 1421 ≤ 16777215 := hRs3.1 1421; have : (0 : Int) ≤ gI s 1420 ∧ gI s 1420 ≤ 48 := hRs.1 1420; have : (0 : Int) ≤ gI s3 1420 ∧ gI s3 1420 ≤ 48 := hRs3.1 1420; have : (0 : Int) ≤ gI s3 322 ∧ gI s3 322 ≤ 100000 := hRs3.1 322; have : gI s44 1421 = (qr40r * 65536) + qr43r := q_II es44; have : (0 : Int) ≤ gI qr43s 322 ∧ gI qr43s 322 ≤ 100000 := hRqr43s.1 322; have : (0 : Int) ≤ gI qr40s 322 ∧ gI qr40s 322 ≤ 100000 := hRqr40s.1 322; have : (0 : Int) ≤ gI s 322 ∧ gI s 322 ≤ 100000 := hRs.1 322; have : gI s25 1420 = gI qr21s 1420 := q_Ai es25; have : gI qr21s 1420 = gI s18 1420 := Fqr21s.1 1420 (by decide); have : gI s18 1420 = gI qr14s 1420 := q_Ai es18; have : gI qr14s 1420 = gI s3 1420 := Fqr14s.1 1420 (by decide); omega) ?_
            refine wp_if (fun c8 => ?_) (fun c8 => ?_)
            · skip
              unfold m_x4_loadHead_J113
              unfold m_x4_loadHead_J114
              exact ih39 0 (x2 + 1) s25 hRs25 (by show (0 : Int) = 0 ∨ (0 : Int) = 1; have : gI s25 1420 = gI qr21s 1420 := q_Ai es25; have : gI qr21s 1420 = gI s18 1420 := Fqr21s.1 1420 (by decide); have : gI s18 1420 = gI qr14s 1420 := q_Ai es18; have : gI qr14s 1420 = gI s3 1420 := Fqr14s.1 1420 (by decide); have : gI s18 322 = gI qr14s 322 := q_Ai es18; have : (0 : Int) ≤ gI qr21s 322 ∧ gI qr21s 322 ≤ 100000 := hRqr21s.1 322; have : (0 : Int) ≤ gI qr14s 322 ∧ gI qr14s 322 ≤ 100000 := hRqr14s.1 322; have : (-70000 : Int) ≤ gI s3 1421 ∧ gI s3 1421 ≤ 16777215 := hRs3.1 1421; have : (0 : Int) ≤ gI s 1420 ∧ gI s 1420 ≤ 48 := hRs.1 1420; have : (0 : Int) ≤ gI s3 1420 ∧ gI s3 1420 ≤ 48 := hRs3.1 1420; have : (0 : Int) ≤ gI s3 322 ∧ gI s3 322 ≤ 100000 := hRs3.1 322; have : gI s44 1421 = (qr40r * 65536) + qr43r := q_II es44; have : (0 : Int) ≤ gI qr43s 322 ∧ gI qr43s 322 ≤ 100000 := hRqr43s.1 322; have : (0 : Int) ≤ gI qr40s 322 ∧ gI qr40s 322 ≤ 100000 := hRqr40s.1 322; have : (0 : Int) ≤ gI s 322 ∧ gI s 322 ≤ 100000 := hRs.1 322; omega) (by show 0 ≤ (x2 + 1) ∧ (x2 + 1) ≤ 8; have : gI s25 1420 = gI qr21s 1420 := q_Ai es25; have : gI qr21s 1420 = gI s18 1420 := Fqr21s.1 1420 (by decide); have : gI s18 1420 = gI qr14s 1420 := q_Ai es18; have : gI qr14s 1420 = gI s3 1420 := Fqr14s.1 1420 (by decide); have : gI s18 322 = gI qr14s 322 := q_Ai es18; have : (0 : Int) ≤ gI qr21s 322 ∧ gI qr21s 322 ≤ 100000 := hRqr21s.1 322; have : (0 : Int) ≤ gI qr14s 322 ∧ gI qr14s 322 ≤ 100000 := hRqr14s.1 322; have : (-70000 : Int) ≤ gI s3 1421 ∧ gI s3 1421 ≤ 16777215 := hRs3.1 1421; have : (0 : Int) ≤ gI s 1420 ∧ gI s 1420 ≤ 48 := hRs.1 1420; have : (0 : Int) ≤ gI s3 1420 ∧ gI s3 1420 ≤ 48 := hRs3.1 1420; have : (0 : Int) ≤ gI s3 322 ∧ gI s3 322 ≤ 100000 := hRs3.1 322; have : gI s44 1421 = (qr40r * 65536) + qr43r := q_II es44; have : (0 : Int) ≤ gI qr43s 322 ∧ gI qr43s 322 ≤ 100000 := hRqr43s.1 322; have : (0 : Int) ≤ gI qr40s 322 ∧ gI qr40s 322 ≤ 100000 := hRqr40s.1 322; have : (0 : Int) ≤ gI s 322 ∧ gI s 322 ≤ 100000 := hRs.1 322; omega) (by show gI s25 322 = 3 + 2 * (x2 + 1); have : gI s25 1420 = gI qr21s 1420 := q_Ai es25; have : gI qr21s 1420 = gI s18 1420 := Fqr21s.1 1420 (by decide); have : gI s18 1420 = gI qr14s 1420 := q_Ai es18; have : gI qr14s 1420 = gI s3 1420 := Fqr14s.1 1420 (by decide); have : gI s18 322 = gI qr14s 322 := q_Ai es18; have : (0 : Int) ≤ gI qr21s 322 ∧ gI qr21s 322 ≤ 100000 := hRqr21s.1 322; have : (0 : Int) ≤ gI qr14s 322 ∧ gI qr14s 322 ≤ 100000 := hRqr14s.1 322; have : (-70000 : Int) ≤ gI s3 1421 ∧ gI s3 1421 ≤ 16777215 := hRs3.1 1421; have : (0 : Int) ≤ gI s 1420 ∧ gI s 1420 ≤ 48 := hRs.1 1420; have : (0 : Int) ≤ gI s3 1420 ∧ gI s3 1420 ≤ 48 := hRs3.1 1420; have : (0 : Int) ≤ gI s3 322 ∧ gI s3 322 ≤ 100000 := hRs3.1 322; have : gI s44 1421 = (qr40r * 65536) + qr43r := q_II es44; have : (0 : Int) ≤ gI qr43s 322 ∧ gI qr43s 322 ≤ 100000 := hRqr43s.1 322; have : (0 : Int) ≤ gI qr40s 322 ∧ gI qr40s 322 ≤ 100000 := hRqr40s.1 322; have : (0 : Int) ≤ gI s 322 ∧ gI s 322 ≤ 100000 := hRs.1 322; have : gI s25 322 = gI qr21s 322 := q_Ai es25; omega) (by show gI s25 1420 = gI s 1420; have : gI s18 322 = gI qr14s 322 := q_Ai es18; have : (0 : Int) ≤ gI qr21s 322 ∧ gI qr21s 322 ≤ 100000 := hRqr21s.1 322; have : (0 : Int) ≤ gI qr14s 322 ∧ gI qr14s 322 ≤ 100000 := hRqr14s.1 322; have : (-70000 : Int) ≤ gI s3 1421 ∧ gI s3 1421 ≤ 16777215 := hRs3.1 1421; have : (0 : Int) ≤ gI s3 1420 ∧ gI s3 1420 ≤ 48 := hRs3.1 1420; have : (0 : Int) ≤ gI s3 322 ∧ gI s3 322 ≤ 100000 := hRs3.1 322; have : gI s44 1421 = (qr40r * 65536) + qr43r := q_II es44; have : (0 : Int) ≤ gI qr43s 322 ∧ gI qr43s 322 ≤ 100000 := hRqr43s.1 322; have : (0 : Int) ≤ gI qr40s 322 ∧ gI qr40s 322 ≤ 100000 := hRqr40s.1 322; have : (0 : Int) ≤ gI s 322 ∧ gI s 322 ≤ 100000 := hRs.1 322; have : (0 : Int) ≤ gI s 1420 ∧ gI s 1420 ≤ 48 := hRs.1 1420; have : gI s25 1420 = gI qr21s 1420 := q_Ai es25; have : gI qr21s 1420 = gI s18 1420 := Fqr21s.1 1420 (by decide); have : gI s18 1420 = gI qr14s 1420 := q_Ai es18; have : gI qr14s 1420 = gI s3 1420 := Fqr14s.1 1420 (by decide); omega) (fun h9 => absurd h9 (by omega)) (by have : gI s25 1420 = gI qr21s 1420 := q_Ai es25; have : gI qr21s 1420 = gI s18 1420 := Fqr21s.1 1420 (by decide); have : gI s18 1420 = gI qr14s 1420 := q_Ai es18; have : gI qr14s 1420 = gI s3 1420 := Fqr14s.1 1420 (by decide); have : gI s18 322 = gI qr14s 322 := q_Ai es18; have : (0 : Int) ≤ gI qr21s 322 ∧ gI qr21s 322 ≤ 100000 := hRqr21s.1 322; have : (0 : Int) ≤ gI qr14s 322 ∧ gI qr14s 322 ≤ 100000 := hRqr14s.1 322; have : (-70000 : Int) ≤ gI s3 1421 ∧ gI s3 1421 ≤ 16777215 := hRs3.1 1421; have : (0 : Int) ≤ gI s 1420 ∧ gI s 1420 ≤ 48 := hRs.1 1420; have : (0 : Int) ≤ gI s3 1420 ∧ gI s3 1420 ≤ 48 := hRs3.1 1420; have : (0 : Int) ≤ gI s3 322 ∧ gI s3 322 ≤ 100000 := hRs3.1 322; have : gI s44 1421 = (qr40r * 65536) + qr43r := q_II es44; have : (0 : Int) ≤ gI qr43s 322 ∧ gI qr43s 322 ≤ 100000 := hRqr43s.1 322; have : (0 : Int) ≤ gI qr40s 322 ∧ gI qr40s 322 ≤ 100000 := hRqr40s.1 322; have : (0 : Int) ≤ gI s 322 ∧ gI s 322 ≤ 100000 := hRs.1 322; omega)
            · skip
              refine wp_rdIn (by have : gI s25 1420 = gI qr21s 1420 := q_Ai es25; have : gI qr21s 1420 = gI s18 1420 := Fqr21s.1 1420 (by decide); have : gI s18 1420 = gI qr14s 1420 := q_Ai es18; have : gI qr14s 1420 = gI s3 1420 := Fqr14s.1 1420 (by decide); have : gI s18 322 = gI qr14s 322 := q_Ai es18; have : (0 : Int) ≤ gI qr21s 322 ∧ gI qr21s 322 ≤ 100000 := hRqr21s.1 322; have : (0 : Int) ≤ gI qr14s 322 ∧ gI qr14s 322 ≤ 100000 := hRqr14s.1 322; have : (-70000 : Int) ≤ gI s3 1421 ∧ gI s3 1421 ≤ 16777215 := hRs3.1 1421; have : (0 : Int) ≤ gI s 1420 ∧ gI s 1420 ≤ 48 := hRs.1 1420; have : (0 : Int) ≤ gI s3 1420 ∧ gI s3 1420 ≤ 48 := hRs3.1 1420; have : (0 : Int) ≤ gI s3 322 ∧ gI s3 322 ≤ 100000 := hRs3.1 322; have : gI s44 1421 = (qr40r * 65536) + qr43r := q_II es44; have : (0 : Int) ≤ gI qr43s 322 ∧ gI qr43s 322 ≤ 100000 := hRqr43s.1 322; have : (0 : Int) ≤ gI qr40s 322 ∧ gI qr40s 322 ≤ 100000 := hRqr40s.1 322; have : (0 : Int) ≤ gI s 322 ∧ gI s 322 ≤ 100000 := hRs.1 322; omega) (fun y32 ey32 => ?_)
              have by32 : (-2 : Int) ≤ y32 ∧ y32 ≤ 253 := ey32 ▸ hRs25.2.1 79 _ (by show _ < 8; have : gI s25 1420 = gI qr21s 1420 := q_Ai es25; have : gI qr21s 1420 = gI s18 1420 := Fqr21s.1 1420 (by decide); have : gI s18 1420 = gI qr14s 1420 := q_Ai es18; have : gI qr14s 1420 = gI s3 1420 := Fqr14s.1 1420 (by decide); have : gI s18 322 = gI qr14s 322 := q_Ai es18; have : (0 : Int) ≤ gI qr21s 322 ∧ gI qr21s 322 ≤ 100000 := hRqr21s.1 322; have : (0 : Int) ≤ gI qr14s 322 ∧ gI qr14s 322 ≤ 100000 := hRqr14s.1 322; have : (-70000 : Int) ≤ gI s3 1421 ∧ gI s3 1421 ≤ 16777215 := hRs3.1 1421; have : (0 : Int) ≤ gI s 1420 ∧ gI s 1420 ≤ 48 := hRs.1 1420; have : (0 : Int) ≤ gI s3 1420 ∧ gI s3 1420 ≤ 48 := hRs3.1 1420; have : (0 : Int) ≤ gI s3 322 ∧ gI s3 322 ≤ 100000 := hRs3.1 322; have : gI s44 1421 = (qr40r * 65536) + qr43r := q_II es44; have : (0 : Int) ≤ gI qr43s 322 ∧ gI qr43s 322 ≤ 100000 := hRqr43s.1 322; have : (0 : Int) ≤ gI qr40s 322 ∧ gI qr40s 322 ≤ 100000 := hRqr40s.1 322; have : (0 : Int) ≤ gI s 322 ∧ gI s 322 ≤ 100000 := hRs.1 322; omega)
              refine wp_rg (by have : gI s25 1420 = gI qr21s 1420 := q_Ai es25; have : gI qr21s 1420 = gI s18 1420 := Fqr21s.1 1420 (by decide); have : gI s18 1420 = gI qr14s 1420 := q_Ai es18; have : gI qr14s 1420 = gI s3 1420 := Fqr14s.1 1420 (by decide); have : gI s18 322 = gI qr14s 322 := q_Ai es18; have : (0 : Int) ≤ gI qr21s 322 ∧ gI qr21s 322 ≤ 100000 := hRqr21s.1 322; have : (0 : Int) ≤ gI qr14s 322 ∧ gI qr14s 322 ≤ 100000 := hRqr14s.1 322; have : (-70000 : Int) ≤ gI s3 1421 ∧ gI s3 1421 ≤ 16777215 := hRs3.1 1421; have : (0 : Int) ≤ gI s 1420 ∧ gI s 1420 ≤ 48 := hRs.1 1420; have : (0 : Int) ≤ gI s3 1420 ∧ gI s3 1420 ≤ 48 := hRs3.1 1420; have : (0 : Int) ≤ gI s3 322 ∧ gI s3 322 ≤ 100000 := hRs3.1 322; have : gI s44 1421 = (qr40r * 65536) + qr43r := q_II es44; have : (0 : Int) ≤ gI qr43s 322 ∧ gI qr43s 322 ≤ 100000 := hRqr43s.1 322; have : (0 : Int) ≤ gI qr40s 322 ∧ gI qr40s 322 ≤ 100000 := hRqr40s.1 322; have : (0 : Int) ≤ gI s 322 ∧ gI s 322 ≤ 100000 := hRs.1 322; omega) ?_
              refine wp_rg (by have : gI s18 322 = gI qr14s 322 := q_Ai es18; have : (0 : Int) ≤ gI qr21s 322 ∧ gI qr21s 322 ≤ 100000 := hRqr21s.1 322; have : (0 : Int) ≤ gI qr14s 322 ∧ gI qr14s 322 ≤ 100000 := hRqr14s.1 322; have : (-70000 : Int) ≤ gI s3 1421 ∧ gI s3 1421 ≤ 16777215 := hRs3.1 1421; have : (0 : Int) ≤ gI s 1420 ∧ gI s 1420 ≤ 48 := hRs.1 1420; have : (0 : Int) ≤ gI s3 1420 ∧ gI s3 1420 ≤ 48 := hRs3.1 1420; have : (0 : Int) ≤ gI s3 322 ∧ gI s3 322 ≤ 100000 := hRs3.1 322; have : gI s44 1421 = (qr40r * 65536) + qr43r := q_II es44; have : (0 : Int) ≤ gI qr43s 322 ∧ gI qr43s 322 ≤ 100000 := hRqr43s.1 322; have : (0 : Int) ≤ gI qr40s 322 ∧ gI qr40s 322 ≤ 100000 := hRqr40s.1 322; have : (0 : Int) ≤ gI s 322 ∧ gI s 322 ≤ 100000 := hRs.1 322; have : gI s25 1420 = gI qr21s 1420 := q_Ai es25; have : gI qr21s 1420 = gI s18 1420 := Fqr21s.1 1420 (by decide); have : gI s18 1420 = gI qr14s 1420 := q_Ai es18; have : gI qr14s 1420 = gI s3 1420 := Fqr14s.1 1420 (by decide); omega) ?_
              refine wp_if (fun c9 => ?_) (fun c9 => ?_)
              · skip
                unfold m_x4_loadHead_J113
                unfold m_x4_loadHead_J114
                exact ih39 0 (x2 + 1) s25 hRs25 (by show (0 : Int) = 0 ∨ (0 : Int) = 1; have : gI s25 1420 = gI qr21s 1420 := q_Ai es25; have : gI qr21s 1420 = gI s18 1420 := Fqr21s.1 1420 (by decide); have : gI s18 1420 = gI qr14s 1420 := q_Ai es18; have : gI qr14s 1420 = gI s3 1420 := Fqr14s.1 1420 (by decide); have : gI s18 322 = gI qr14s 322 := q_Ai es18; have : (0 : Int) ≤ gI qr21s 322 ∧ gI qr21s 322 ≤ 100000 := hRqr21s.1 322; have : (0 : Int) ≤ gI qr14s 322 ∧ gI qr14s 322 ≤ 100000 := hRqr14s.1 322; have : (-70000 : Int) ≤ gI s3 1421 ∧ gI s3 1421 ≤ 16777215 := hRs3.1 1421; have : (0 : Int) ≤ gI s 1420 ∧ gI s 1420 ≤ 48 := hRs.1 1420; have : (0 : Int) ≤ gI s3 1420 ∧ gI s3 1420 ≤ 48 := hRs3.1 1420; have : (0 : Int) ≤ gI s3 322 ∧ gI s3 322 ≤ 100000 := hRs3.1 322; have : gI s44 1421 = (qr40r * 65536) + qr43r := q_II es44; have : (0 : Int) ≤ gI qr43s 322 ∧ gI qr43s 322 ≤ 100000 := hRqr43s.1 322; have : (0 : Int) ≤ gI qr40s 322 ∧ gI qr40s 322 ≤ 100000 := hRqr40s.1 322; have : (0 : Int) ≤ gI s 322 ∧ gI s 322 ≤ 100000 := hRs.1 322; omega) (by show 0 ≤ (x2 + 1) ∧ (x2 + 1) ≤ 8; have : gI s25 1420 = gI qr21s 1420 := q_Ai es25; have : gI qr21s 1420 = gI s18 1420 := Fqr21s.1 1420 (by decide); have : gI s18 1420 = gI qr14s 1420 := q_Ai es18; have : gI qr14s 1420 = gI s3 1420 := Fqr14s.1 1420 (by decide); have : gI s18 322 = gI qr14s 322 := q_Ai es18; have : (0 : Int) ≤ gI qr21s 322 ∧ gI qr21s 322 ≤ 100000 := hRqr21s.1 322; have : (0 : Int) ≤ gI qr14s 322 ∧ gI qr14s 322 ≤ 100000 := hRqr14s.1 322; have : (-70000 : Int) ≤ gI s3 1421 ∧ gI s3 1421 ≤ 16777215 := hRs3.1 1421; have : (0 : Int) ≤ gI s 1420 ∧ gI s 1420 ≤ 48 := hRs.1 1420; have : (0 : Int) ≤ gI s3 1420 ∧ gI s3 1420 ≤ 48 := hRs3.1 1420; have : (0 : Int) ≤ gI s3 322 ∧ gI s3 322 ≤ 100000 := hRs3.1 322; have : gI s44 1421 = (qr40r * 65536) + qr43r := q_II es44; have : (0 : Int) ≤ gI qr43s 322 ∧ gI qr43s 322 ≤ 100000 := hRqr43s.1 322; have : (0 : Int) ≤ gI qr40s 322 ∧ gI qr40s 322 ≤ 100000 := hRqr40s.1 322; have : (0 : Int) ≤ gI s 322 ∧ gI s 322 ≤ 100000 := hRs.1 322; omega) (by show gI s25 322 = 3 + 2 * (x2 + 1); have : gI s25 1420 = gI qr21s 1420 := q_Ai es25; have : gI qr21s 1420 = gI s18 1420 := Fqr21s.1 1420 (by decide); have : gI s18 1420 = gI qr14s 1420 := q_Ai es18; have : gI qr14s 1420 = gI s3 1420 := Fqr14s.1 1420 (by decide); have : gI s18 322 = gI qr14s 322 := q_Ai es18; have : (0 : Int) ≤ gI qr21s 322 ∧ gI qr21s 322 ≤ 100000 := hRqr21s.1 322; have : (0 : Int) ≤ gI qr14s 322 ∧ gI qr14s 322 ≤ 100000 := hRqr14s.1 322; have : (-70000 : Int) ≤ gI s3 1421 ∧ gI s3 1421 ≤ 16777215 := hRs3.1 1421; have : (0 : Int) ≤ gI s 1420 ∧ gI s 1420 ≤ 48 := hRs.1 1420; have : (0 : Int) ≤ gI s3 1420 ∧ gI s3 1420 ≤ 48 := hRs3.1 1420; have : (0 : Int) ≤ gI s3 322 ∧ gI s3 322 ≤ 100000 := hRs3.1 322; have : gI s44 1421 = (qr40r * 65536) + qr43r := q_II es44; have : (0 : Int) ≤ gI qr43s 322 ∧ gI qr43s 322 ≤ 100000 := hRqr43s.1 322; have : (0 : Int) ≤ gI qr40s 322 ∧ gI qr40s 322 ≤ 100000 := hRqr40s.1 322; have : (0 : Int) ≤ gI s 322 ∧ gI s 322 ≤ 100000 := hRs.1 322; have : gI s25 322 = gI qr21s 322 := q_Ai es25; omega) (by show gI s25 1420 = gI s 1420; have : gI s18 322 = gI qr14s 322 := q_Ai es18; have : (0 : Int) ≤ gI qr21s 322 ∧ gI qr21s 322 ≤ 100000 := hRqr21s.1 322; have : (0 : Int) ≤ gI qr14s 322 ∧ gI qr14s 322 ≤ 100000 := hRqr14s.1 322; have : (-70000 : Int) ≤ gI s3 1421 ∧ gI s3 1421 ≤ 16777215 := hRs3.1 1421; have : (0 : Int) ≤ gI s3 1420 ∧ gI s3 1420 ≤ 48 := hRs3.1 1420; have : (0 : Int) ≤ gI s3 322 ∧ gI s3 322 ≤ 100000 := hRs3.1 322; have : gI s44 1421 = (qr40r * 65536) + qr43r := q_II es44; have : (0 : Int) ≤ gI qr43s 322 ∧ gI qr43s 322 ≤ 100000 := hRqr43s.1 322; have : (0 : Int) ≤ gI qr40s 322 ∧ gI qr40s 322 ≤ 100000 := hRqr40s.1 322; have : (0 : Int) ≤ gI s 322 ∧ gI s 322 ≤ 100000 := hRs.1 322; have : (0 : Int) ≤ gI s 1420 ∧ gI s 1420 ≤ 48 := hRs.1 1420; have : gI s25 1420 = gI qr21s 1420 := q_Ai es25; have : gI qr21s 1420 = gI s18 1420 := Fqr21s.1 1420 (by decide); have : gI s18 1420 = gI qr14s 1420 := q_Ai es18; have : gI qr14s 1420 = gI s3 1420 := Fqr14s.1 1420 (by decide); omega) (fun h9 => absurd h9 (by omega)) (by have : gI s25 1420 = gI qr21s 1420 := q_Ai es25; have : gI qr21s 1420 = gI s18 1420 := Fqr21s.1 1420 (by decide); have : gI s18 1420 = gI qr14s 1420 := q_Ai es18; have : gI qr14s 1420 = gI s3 1420 := Fqr14s.1 1420 (by decide); have : gI s18 322 = gI qr14s 322 := q_Ai es18; have : (0 : Int) ≤ gI qr21s 322 ∧ gI qr21s 322 ≤ 100000 := hRqr21s.1 322; have : (0 : Int) ≤ gI qr14s 322 ∧ gI qr14s 322 ≤ 100000 := hRqr14s.1 322; have : (-70000 : Int) ≤ gI s3 1421 ∧ gI s3 1421 ≤ 16777215 := hRs3.1 1421; have : (0 : Int) ≤ gI s 1420 ∧ gI s 1420 ≤ 48 := hRs.1 1420; have : (0 : Int) ≤ gI s3 1420 ∧ gI s3 1420 ≤ 48 := hRs3.1 1420; have : (0 : Int) ≤ gI s3 322 ∧ gI s3 322 ≤ 100000 := hRs3.1 322; have : gI s44 1421 = (qr40r * 65536) + qr43r := q_II es44; have : (0 : Int) ≤ gI qr43s 322 ∧ gI qr43s 322 ≤ 100000 := hRqr43s.1 322; have : (0 : Int) ≤ gI qr40s 322 ∧ gI qr40s 322 ≤ 100000 := hRqr40s.1 322; have : (0 : Int) ≤ gI s 322 ∧ gI s 322 ≤ 100000 := hRs.1 322; omega)
              · skip
                unfold m_x4_loadHead_J114
                exact ih39 1 (x2 + 1) s25 hRs25 (by show (1 : Int) = 0 ∨ (1 : Int) = 1; have : gI s25 1420 = gI qr21s 1420 := q_Ai es25; have : gI qr21s 1420 = gI s18 1420 := Fqr21s.1 1420 (by decide); have : gI s18 1420 = gI qr14s 1420 := q_Ai es18; have : gI qr14s 1420 = gI s3 1420 := Fqr14s.1 1420 (by decide); have : gI s18 322 = gI qr14s 322 := q_Ai es18; have : (0 : Int) ≤ gI qr21s 322 ∧ gI qr21s 322 ≤ 100000 := hRqr21s.1 322; have : (0 : Int) ≤ gI qr14s 322 ∧ gI qr14s 322 ≤ 100000 := hRqr14s.1 322; have : (-70000 : Int) ≤ gI s3 1421 ∧ gI s3 1421 ≤ 16777215 := hRs3.1 1421; have : (0 : Int) ≤ gI s 1420 ∧ gI s 1420 ≤ 48 := hRs.1 1420; have : (0 : Int) ≤ gI s3 1420 ∧ gI s3 1420 ≤ 48 := hRs3.1 1420; have : (0 : Int) ≤ gI s3 322 ∧ gI s3 322 ≤ 100000 := hRs3.1 322; have : gI s44 1421 = (qr40r * 65536) + qr43r := q_II es44; have : (0 : Int) ≤ gI qr43s 322 ∧ gI qr43s 322 ≤ 100000 := hRqr43s.1 322; have : (0 : Int) ≤ gI qr40s 322 ∧ gI qr40s 322 ≤ 100000 := hRqr40s.1 322; have : (0 : Int) ≤ gI s 322 ∧ gI s 322 ≤ 100000 := hRs.1 322; omega) (by show 0 ≤ (x2 + 1) ∧ (x2 + 1) ≤ 8; have : gI s25 1420 = gI qr21s 1420 := q_Ai es25; have : gI qr21s 1420 = gI s18 1420 := Fqr21s.1 1420 (by decide); have : gI s18 1420 = gI qr14s 1420 := q_Ai es18; have : gI qr14s 1420 = gI s3 1420 := Fqr14s.1 1420 (by decide); have : gI s18 322 = gI qr14s 322 := q_Ai es18; have : (0 : Int) ≤ gI qr21s 322 ∧ gI qr21s 322 ≤ 100000 := hRqr21s.1 322; have : (0 : Int) ≤ gI qr14s 322 ∧ gI qr14s 322 ≤ 100000 := hRqr14s.1 322; have : (-70000 : Int) ≤ gI s3 1421 ∧ gI s3 1421 ≤ 16777215 := hRs3.1 1421; have : (0 : Int) ≤ gI s 1420 ∧ gI s 1420 ≤ 48 := hRs.1 1420; have : (0 : Int) ≤ gI s3 1420 ∧ gI s3 1420 ≤ 48 := hRs3.1 1420; have : (0 : Int) ≤ gI s3 322 ∧ gI s3 322 ≤ 100000 := hRs3.1 322; have : gI s44 1421 = (qr40r * 65536) + qr43r := q_II es44; have : (0 : Int) ≤ gI qr43s 322 ∧ gI qr43s 322 ≤ 100000 := hRqr43s.1 322; have : (0 : Int) ≤ gI qr40s 322 ∧ gI qr40s 322 ≤ 100000 := hRqr40s.1 322; have : (0 : Int) ≤ gI s 322 ∧ gI s 322 ≤ 100000 := hRs.1 322; omega) (by show gI s25 322 = 3 + 2 * (x2 + 1); have : gI s25 1420 = gI qr21s 1420 := q_Ai es25; have : gI qr21s 1420 = gI s18 1420 := Fqr21s.1 1420 (by decide); have : gI s18 1420 = gI qr14s 1420 := q_Ai es18; have : gI qr14s 1420 = gI s3 1420 := Fqr14s.1 1420 (by decide); have : gI s18 322 = gI qr14s 322 := q_Ai es18; have : (0 : Int) ≤ gI qr21s 322 ∧ gI qr21s 322 ≤ 100000 := hRqr21s.1 322; have : (0 : Int) ≤ gI qr14s 322 ∧ gI qr14s 322 ≤ 100000 := hRqr14s.1 322; have : (-70000 : Int) ≤ gI s3 1421 ∧ gI s3 1421 ≤ 16777215 := hRs3.1 1421; have : (0 : Int) ≤ gI s 1420 ∧ gI s 1420 ≤ 48 := hRs.1 1420; have : (0 : Int) ≤ gI s3 1420 ∧ gI s3 1420 ≤ 48 := hRs3.1 1420; have : (0 : Int) ≤ gI s3 322 ∧ gI s3 322 ≤ 100000 := hRs3.1 322; have : gI s44 1421 = (qr40r * 65536) + qr43r := q_II es44; have : (0 : Int) ≤ gI qr43s 322 ∧ gI qr43s 322 ≤ 100000 := hRqr43s.1 322; have : (0 : Int) ≤ gI qr40s 322 ∧ gI qr40s 322 ≤ 100000 := hRqr40s.1 322; have : (0 : Int) ≤ gI s 322 ∧ gI s 322 ≤ 100000 := hRs.1 322; have : gI s25 322 = gI qr21s 322 := q_Ai es25; omega) (by show gI s25 1420 = gI s 1420; have : gI s18 322 = gI qr14s 322 := q_Ai es18; have : (0 : Int) ≤ gI qr21s 322 ∧ gI qr21s 322 ≤ 100000 := hRqr21s.1 322; have : (0 : Int) ≤ gI qr14s 322 ∧ gI qr14s 322 ≤ 100000 := hRqr14s.1 322; have : (-70000 : Int) ≤ gI s3 1421 ∧ gI s3 1421 ≤ 16777215 := hRs3.1 1421; have : (0 : Int) ≤ gI s3 1420 ∧ gI s3 1420 ≤ 48 := hRs3.1 1420; have : (0 : Int) ≤ gI s3 322 ∧ gI s3 322 ≤ 100000 := hRs3.1 322; have : gI s44 1421 = (qr40r * 65536) + qr43r := q_II es44; have : (0 : Int) ≤ gI qr43s 322 ∧ gI qr43s 322 ≤ 100000 := hRqr43s.1 322; have : (0 : Int) ≤ gI qr40s 322 ∧ gI qr40s 322 ≤ 100000 := hRqr40s.1 322; have : (0 : Int) ≤ gI s 322 ∧ gI s 322 ≤ 100000 := hRs.1 322; have : (0 : Int) ≤ gI s 1420 ∧ gI s 1420 ≤ 48 := hRs.1 1420; have : gI s25 1420 = gI qr21s 1420 := q_Ai es25; have : gI qr21s 1420 = gI s18 1420 := Fqr21s.1 1420 (by decide); have : gI s18 1420 = gI qr14s 1420 := q_Ai es18; have : gI qr14s 1420 = gI s3 1420 := Fqr14s.1 1420 (by decide); omega) (fun h9 => ⟨by have a0 := (hv39_4 (by omega)).1; have : gI s25 1421 = gI s3 1421 := ((q_Ai es25 : gI s25 1421 = gI qr21s 1421).trans ((Fqr21s.1 1421 (by decide)).trans ((q_Ai es18 : gI s18 1421 = gI qr14s 1421).trans (Fqr14s.1 1421 (by decide))))); omega, fun w hw => by have a1 : gI s25 1420 = gI s3 1420 := ((q_Ai es25 : gI s25 1420 = gI qr21s 1420).trans ((Fqr21s.1 1420 (by decide)).trans ((q_Ai es18 : gI s18 1420 = gI qr14s 1420).trans (Fqr14s.1 1420 (by decide))))); by_cases z : w = x2.toNat; (rw [z, ey28, ey32]; exact ⟨by omega, by omega⟩); (have a := (hv39_4 (by omega)).2 w (by omega); rw [((q_Aa es25 (by decide) : gA s25 78 = gA qr21s 78).trans (Fqr21s.2.1 78 (by decide))), q_AA es18, upZ_n z, (Fqr14s.2.1 78 (by decide)), q_AA es25, upZ_n z, ((Fqr21s.2.1 79 (by decide)).trans ((q_Aa es18 (by decide) : gA s18 79 = gA qr14s 79).trans (Fqr14s.2.1 79 (by decide))))]; exact a)⟩) (by have : gI s25 1420 = gI qr21s 1420 := q_Ai es25; have : gI qr21s 1420 = gI s18 1420 := Fqr21s.1 1420 (by decide); have : gI s18 1420 = gI qr14s 1420 := q_Ai es18; have : gI qr14s 1420 = gI s3 1420 := Fqr14s.1 1420 (by decide); have : gI s18 322 = gI qr14s 322 := q_Ai es18; have : (0 : Int) ≤ gI qr21s 322 ∧ gI qr21s 322 ≤ 100000 := hRqr21s.1 322; have : (0 : Int) ≤ gI qr14s 322 ∧ gI qr14s 322 ≤ 100000 := hRqr14s.1 322; have : (-70000 : Int) ≤ gI s3 1421 ∧ gI s3 1421 ≤ 16777215 := hRs3.1 1421; have : (0 : Int) ≤ gI s 1420 ∧ gI s 1420 ≤ 48 := hRs.1 1420; have : (0 : Int) ≤ gI s3 1420 ∧ gI s3 1420 ≤ 48 := hRs3.1 1420; have : (0 : Int) ≤ gI s3 322 ∧ gI s3 322 ≤ 100000 := hRs3.1 322; have : gI s44 1421 = (qr40r * 65536) + qr43r := q_II es44; have : (0 : Int) ≤ gI qr43s 322 ∧ gI qr43s 322 ≤ 100000 := hRqr43s.1 322; have : (0 : Int) ≤ gI qr40s 322 ∧ gI qr40s 322 ≤ 100000 := hRqr40s.1 322; have : (0 : Int) ≤ gI s 322 ∧ gI s 322 ≤ 100000 := hRs.1 322; omega)
    exact L39 FU 1 0 s44 hRs44 (by show (1 : Int) = 0 ∨ (1 : Int) = 1; have : gI s44 1421 = (qr40r * 65536) + qr43r := q_II es44; have : (0 : Int) ≤ gI qr43s 322 ∧ gI qr43s 322 ≤ 100000 := hRqr43s.1 322; have : (0 : Int) ≤ gI qr40s 322 ∧ gI qr40s 322 ≤ 100000 := hRqr40s.1 322; have : (0 : Int) ≤ gI s 322 ∧ gI s 322 ≤ 100000 := hRs.1 322; omega) (by show 0 ≤ (0 : Int) ∧ (0 : Int) ≤ 8; have : gI s44 1421 = (qr40r * 65536) + qr43r := q_II es44; have : (0 : Int) ≤ gI qr43s 322 ∧ gI qr43s 322 ≤ 100000 := hRqr43s.1 322; have : (0 : Int) ≤ gI qr40s 322 ∧ gI qr40s 322 ≤ 100000 := hRqr40s.1 322; have : (0 : Int) ≤ gI s 322 ∧ gI s 322 ≤ 100000 := hRs.1 322; omega) (by show gI s44 322 = 3 + 2 * (0 : Int); have : gI s44 1421 = (qr40r * 65536) + qr43r := q_II es44; have : (0 : Int) ≤ gI qr43s 322 ∧ gI qr43s 322 ≤ 100000 := hRqr43s.1 322; have : (0 : Int) ≤ gI qr40s 322 ∧ gI qr40s 322 ≤ 100000 := hRqr40s.1 322; have : (0 : Int) ≤ gI s 322 ∧ gI s 322 ≤ 100000 := hRs.1 322; have : gI s44 322 = gI qr43s 322 := q_Ii es44 (by decide); omega) (by show gI s44 1420 = gI s 1420; have : gI s44 1421 = (qr40r * 65536) + qr43r := q_II es44; have : (0 : Int) ≤ gI qr43s 322 ∧ gI qr43s 322 ≤ 100000 := hRqr43s.1 322; have : (0 : Int) ≤ gI qr40s 322 ∧ gI qr40s 322 ≤ 100000 := hRqr40s.1 322; have : (0 : Int) ≤ gI s 322 ∧ gI s 322 ≤ 100000 := hRs.1 322; have : (0 : Int) ≤ gI s 1420 ∧ gI s 1420 ≤ 48 := hRs.1 1420; have : gI s44 1420 = gI qr43s 1420 := q_Ii es44 (by decide); have : gI qr43s 1420 = gI qr40s 1420 := Fqr43s.1 1420 (by decide); have : gI qr40s 1420 = gI s 1420 := Fqr40s.1 1420 (by decide); omega) (fun h9 => ⟨by omega, fun w hw => absurd hw (by omega)⟩) (by have := FU_big; have := FU_big2; have : gI s44 1421 = (qr40r * 65536) + qr43r := q_II es44; have : (0 : Int) ≤ gI qr43s 322 ∧ gI qr43s 322 ≤ 100000 := hRqr43s.1 322; have : (0 : Int) ≤ gI qr40s 322 ∧ gI qr40s 322 ≤ 100000 := hRqr40s.1 322; have : (0 : Int) ≤ gI s 322 ∧ gI s 322 ≤ 100000 := hRs.1 322; omega)
set_option maxHeartbeats 1000000 in
theorem w_x4_isSoundChild {p1 : Int} {p2 : Int} {s : MS} (hRs : Rg s) (hp0 : 0 ≤ p1 ∧ p1 < 48) (hp1 : 0 ≤ p2 ∧ p2 < gA s 75 p1.toNat ∧ gA s 75 p1.toNat ≤ 6) : wp (m_x4_isSoundChild p1 p2 s) (fun r => (r = 0 ∨ r = 1) ∧ (r = 1 → CHD s p1.toNat p2.toNat)) := by
  unfold m_x4_isSoundChild
  refine wp_bn (w_x8_slot_v2 hRs) (fun r18 er18 hr18 => ?_)
  have hr18_0 := hr18
  have hr18_0 : r18 = p1 * 6 + p2 := hr18_0
  refine wp_rdIn (by omega) (fun y19 ey19 => ?_)
  have by19 : (-257 : Int) ≤ y19 ∧ y19 ≤ 65535 := ey19 ▸ hRs.2.1 77 _ (by show _ < 288; omega)
  refine wp_bn (w_x8_isBlock_v2 hRs (by show R2 y19; omega)) (fun r21 er21 hr21 => ?_)
  have hr21_0 := hr21
  have hr21_0 : (r21 = 1 ∧ 0 ≤ y19 ∧ y19 < gI s 1420) ∨ (r21 = 0 ∧ (y19 < 0 ∨ gI s 1420 ≤ y19)) := hr21_0
  refine wp_rg (by have : (0 : Int) ≤ gI s 1420 ∧ gI s 1420 ≤ 48 := hRs.1 1420; omega) ?_
  refine wp_if (fun c1 => ?_) (fun c1 => ?_)
  · skip
    unfold m_x4_isSoundChild_J49
    exact wp_some ⟨by show (0 : Int) = 0 ∨ (0 : Int) = 1; have : (0 : Int) ≤ gI s 1420 ∧ gI s 1420 ≤ 48 := hRs.1 1420; omega, fun h9 => by first | (exfalso; omega) | (have e9 : gA s 77 (6 * p1.toNat + p2.toNat) = y19 := (by rw [show 6 * p1.toNat + p2.toNat = r18.toNat by omega]; exact ey19); unfold CHD; rw [e9]; exact ⟨by omega, by omega, by omega⟩)⟩
  · skip
    refine wp_bn (w_x8_isFree_v2 hRs (by show R2 y19; have : (0 : Int) ≤ gI s 1420 ∧ gI s 1420 ≤ 48 := hRs.1 1420; omega)) (fun r25 er25 hr25 => ?_)
    have hr25_0 := hr25
    have hr25_0 : (r25 = 1 ∧ 0 ≤ y19 ∧ y19 < gI s 1420 ∧ gA s 72 y19.toNat = 0 ∧ gA s 73 y19.toNat = 0) ∨ (r25 = 0 ∧ (y19 < 0 ∨ gI s 1420 ≤ y19 ∨ ¬ (gA s 72 y19.toNat = 0 ∧ gA s 73 y19.toNat = 0))) := hr25_0
    refine wp_rg (by have : (0 : Int) ≤ gI s 1420 ∧ gI s 1420 ≤ 48 := hRs.1 1420; omega) ?_
    refine wp_if (fun c2 => ?_) (fun c2 => ?_)
    · skip
      refine wp_rdIn (by have : (0 : Int) ≤ gI s 1420 ∧ gI s 1420 ≤ 48 := hRs.1 1420; omega) (fun y28 ey28 => ?_)
      have by28 : (-1 : Int) ≤ y28 ∧ y28 ≤ 1000 := ey28 ▸ hRs.2.1 74 _ (by show _ < 48; have : (0 : Int) ≤ gI s 1420 ∧ gI s 1420 ≤ 48 := hRs.1 1420; omega)
      refine wp_rdIn (by have : (0 : Int) ≤ gI s 1420 ∧ gI s 1420 ≤ 48 := hRs.1 1420; omega) (fun y29 ey29 => ?_)
      have by29 : (-1 : Int) ≤ y29 ∧ y29 ≤ 1000 := ey29 ▸ hRs.2.1 74 _ (by show _ < 48; have : (0 : Int) ≤ gI s 1420 ∧ gI s 1420 ≤ 48 := hRs.1 1420; omega)
      refine wp_rg (by have : (0 : Int) ≤ gI s 1420 ∧ gI s 1420 ≤ 48 := hRs.1 1420; omega) ?_
      refine wp_rg (by have : (0 : Int) ≤ gI s 1420 ∧ gI s 1420 ≤ 48 := hRs.1 1420; omega) ?_
      refine wp_if (fun c3 => ?_) (fun c3 => ?_)
      · skip
        refine wp_rg (by have : (0 : Int) ≤ gI s 1420 ∧ gI s 1420 ≤ 48 := hRs.1 1420; omega) ?_
        refine wp_if (fun c4 => ?_) (fun c4 => ?_)
        · skip
          unfold m_x4_isSoundChild_J78
          refine wp_rdIn (by have : (0 : Int) ≤ gI s 1420 ∧ gI s 1420 ≤ 48 := hRs.1 1420; omega) (fun y6 ey6 => ?_)
          have by6 : (-1 : Int) ≤ y6 ∧ y6 ≤ 255 := ey6 ▸ hRs.2.1 75 _ (by show _ < 48; have : (0 : Int) ≤ gI s 1420 ∧ gI s 1420 ≤ 48 := hRs.1 1420; omega)
          refine wp_rg (by have : (0 : Int) ≤ gI s 1420 ∧ gI s 1420 ≤ 48 := hRs.1 1420; omega) ?_
          refine wp_rg (by have : (0 : Int) ≤ gI s 1420 ∧ gI s 1420 ≤ 48 := hRs.1 1420; omega) ?_
          refine wp_if (fun c5 => ?_) (fun c5 => ?_)
          · skip
            unfold m_x4_isSoundChild_J113
            unfold m_x4_isSoundChild_J118
            refine wp_bo (by have : (0 : Int) ≤ gI s 1420 ∧ gI s 1420 ≤ 48 := hRs.1 1420; omega) ?_
            exact wp_some ⟨by show (1 : Int) = 0 ∨ (1 : Int) = 1; have : (0 : Int) ≤ gI s 1420 ∧ gI s 1420 ≤ 48 := hRs.1 1420; omega, fun h9 => by first | (exfalso; omega) | (have e9 : gA s 77 (6 * p1.toNat + p2.toNat) = y19 := (by rw [show 6 * p1.toNat + p2.toNat = r18.toNat by omega]; exact ey19); unfold CHD; rw [e9]; exact ⟨by omega, by omega, by omega⟩)⟩
          · skip
            refine wp_rdIn (by have : (0 : Int) ≤ gI s 1420 ∧ gI s 1420 ≤ 48 := hRs.1 1420; omega) (fun y10 ey10 => ?_)
            have by10 : (-2147483648 : Int) ≤ y10 ∧ y10 ≤ 2147483647 := ey10 ▸ hRs.2.1 19 _ (by show _ < 48; have : (0 : Int) ≤ gI s 1420 ∧ gI s 1420 ≤ 48 := hRs.1 1420; omega)
            refine wp_bn (w_x8_slot_v2 hRs) (fun r12 er12 hr12 => ?_)
            have hr12_0 := hr12
            have hr12_0 : r12 = p1 * 6 + (p2 + 1) := hr12_0
            refine wp_rdIn (by have : (0 : Int) ≤ gI s 1420 ∧ gI s 1420 ≤ 48 := hRs.1 1420; omega) (fun y13 ey13 => ?_)
            have by13 : (-257 : Int) ≤ y13 ∧ y13 ≤ 65535 := ey13 ▸ hRs.2.1 76 _ (by show _ < 288; have : (0 : Int) ≤ gI s 1420 ∧ gI s 1420 ≤ 48 := hRs.1 1420; omega)
            refine wp_rg (by have : (0 : Int) ≤ gI s 1420 ∧ gI s 1420 ≤ 48 := hRs.1 1420; omega) ?_
            refine wp_rg (by have : (0 : Int) ≤ gI s 1420 ∧ gI s 1420 ≤ 48 := hRs.1 1420; omega) ?_
            refine wp_if (fun c6 => ?_) (fun c6 => ?_)
            · skip
              unfold m_x4_isSoundChild_J118
              refine wp_bo (by have : (0 : Int) ≤ gI s 1420 ∧ gI s 1420 ≤ 48 := hRs.1 1420; omega) ?_
              exact wp_some ⟨by show (0 : Int) = 0 ∨ (0 : Int) = 1; have : (0 : Int) ≤ gI s 1420 ∧ gI s 1420 ≤ 48 := hRs.1 1420; omega, fun h9 => by first | (exfalso; omega) | (have e9 : gA s 77 (6 * p1.toNat + p2.toNat) = y19 := (by rw [show 6 * p1.toNat + p2.toNat = r18.toNat by omega]; exact ey19); unfold CHD; rw [e9]; exact ⟨by omega, by omega, by omega⟩)⟩
            · skip
              unfold m_x4_isSoundChild_J113
              unfold m_x4_isSoundChild_J118
              refine wp_bo (by have : (0 : Int) ≤ gI s 1420 ∧ gI s 1420 ≤ 48 := hRs.1 1420; omega) ?_
              exact wp_some ⟨by show (1 : Int) = 0 ∨ (1 : Int) = 1; have : (0 : Int) ≤ gI s 1420 ∧ gI s 1420 ≤ 48 := hRs.1 1420; omega, fun h9 => by first | (exfalso; omega) | (have e9 : gA s 77 (6 * p1.toNat + p2.toNat) = y19 := (by rw [show 6 * p1.toNat + p2.toNat = r18.toNat by omega]; exact ey19); unfold CHD; rw [e9]; exact ⟨by omega, by omega, by omega⟩)⟩
        · skip
          refine wp_rdIn (by have : (0 : Int) ≤ gI s 1420 ∧ gI s 1420 ≤ 48 := hRs.1 1420; omega) (fun y35 ey35 => ?_)
          have by35 : (-2147483648 : Int) ≤ y35 ∧ y35 ≤ 2147483647 := ey35 ▸ hRs.2.1 18 _ (by show _ < 48; have : (0 : Int) ≤ gI s 1420 ∧ gI s 1420 ≤ 48 := hRs.1 1420; omega)
          refine wp_bn (w_x8_slot_v2 hRs) (fun r37 er37 hr37 => ?_)
          have hr37_0 := hr37
          have hr37_0 : r37 = p1 * 6 + p2 := hr37_0
          refine wp_rdIn (by have : (0 : Int) ≤ gI s 1420 ∧ gI s 1420 ≤ 48 := hRs.1 1420; omega) (fun y38 ey38 => ?_)
          have by38 : (-257 : Int) ≤ y38 ∧ y38 ≤ 65535 := ey38 ▸ hRs.2.1 76 _ (by show _ < 288; have : (0 : Int) ≤ gI s 1420 ∧ gI s 1420 ≤ 48 := hRs.1 1420; omega)
          refine wp_rg (by have : (0 : Int) ≤ gI s 1420 ∧ gI s 1420 ≤ 48 := hRs.1 1420; omega) ?_
          refine wp_rg (by have : (0 : Int) ≤ gI s 1420 ∧ gI s 1420 ≤ 48 := hRs.1 1420; omega) ?_
          refine wp_if (fun c7 => ?_) (fun c7 => ?_)
          · skip
            unfold m_x4_isSoundChild_J78
            refine wp_rdIn (by have : (0 : Int) ≤ gI s 1420 ∧ gI s 1420 ≤ 48 := hRs.1 1420; omega) (fun y6 ey6 => ?_)
            have by6 : (-1 : Int) ≤ y6 ∧ y6 ≤ 255 := ey6 ▸ hRs.2.1 75 _ (by show _ < 48; have : (0 : Int) ≤ gI s 1420 ∧ gI s 1420 ≤ 48 := hRs.1 1420; omega)
            refine wp_rg (by have : (0 : Int) ≤ gI s 1420 ∧ gI s 1420 ≤ 48 := hRs.1 1420; omega) ?_
            refine wp_rg (by have : (0 : Int) ≤ gI s 1420 ∧ gI s 1420 ≤ 48 := hRs.1 1420; omega) ?_
            refine wp_if (fun c8 => ?_) (fun c8 => ?_)
            · skip
              unfold m_x4_isSoundChild_J113
              unfold m_x4_isSoundChild_J118
              refine wp_bo (by have : (0 : Int) ≤ gI s 1420 ∧ gI s 1420 ≤ 48 := hRs.1 1420; omega) ?_
              exact wp_some ⟨by show (1 : Int) = 0 ∨ (1 : Int) = 1; have : (0 : Int) ≤ gI s 1420 ∧ gI s 1420 ≤ 48 := hRs.1 1420; omega, fun h9 => by first | (exfalso; omega) | (have e9 : gA s 77 (6 * p1.toNat + p2.toNat) = y19 := (by rw [show 6 * p1.toNat + p2.toNat = r18.toNat by omega]; exact ey19); unfold CHD; rw [e9]; exact ⟨by omega, by omega, by omega⟩)⟩
            · skip
              refine wp_rdIn (by have : (0 : Int) ≤ gI s 1420 ∧ gI s 1420 ≤ 48 := hRs.1 1420; omega) (fun y10 ey10 => ?_)
              have by10 : (-2147483648 : Int) ≤ y10 ∧ y10 ≤ 2147483647 := ey10 ▸ hRs.2.1 19 _ (by show _ < 48; have : (0 : Int) ≤ gI s 1420 ∧ gI s 1420 ≤ 48 := hRs.1 1420; omega)
              refine wp_bn (w_x8_slot_v2 hRs) (fun r12 er12 hr12 => ?_)
              have hr12_0 := hr12
              have hr12_0 : r12 = p1 * 6 + (p2 + 1) := hr12_0
              refine wp_rdIn (by have : (0 : Int) ≤ gI s 1420 ∧ gI s 1420 ≤ 48 := hRs.1 1420; omega) (fun y13 ey13 => ?_)
              have by13 : (-257 : Int) ≤ y13 ∧ y13 ≤ 65535 := ey13 ▸ hRs.2.1 76 _ (by show _ < 288; have : (0 : Int) ≤ gI s 1420 ∧ gI s 1420 ≤ 48 := hRs.1 1420; omega)
              refine wp_rg (by have : (0 : Int) ≤ gI s 1420 ∧ gI s 1420 ≤ 48 := hRs.1 1420; omega) ?_
              refine wp_rg (by have : (0 : Int) ≤ gI s 1420 ∧ gI s 1420 ≤ 48 := hRs.1 1420; omega) ?_
              refine wp_if (fun c9 => ?_) (fun c9 => ?_)
              · skip
                unfold m_x4_isSoundChild_J118
                refine wp_bo (by have : (0 : Int) ≤ gI s 1420 ∧ gI s 1420 ≤ 48 := hRs.1 1420; omega) ?_
                exact wp_some ⟨by show (0 : Int) = 0 ∨ (0 : Int) = 1; have : (0 : Int) ≤ gI s 1420 ∧ gI s 1420 ≤ 48 := hRs.1 1420; omega, fun h9 => by first | (exfalso; omega) | (have e9 : gA s 77 (6 * p1.toNat + p2.toNat) = y19 := (by rw [show 6 * p1.toNat + p2.toNat = r18.toNat by omega]; exact ey19); unfold CHD; rw [e9]; exact ⟨by omega, by omega, by omega⟩)⟩
              · skip
                unfold m_x4_isSoundChild_J113
                unfold m_x4_isSoundChild_J118
                refine wp_bo (by have : (0 : Int) ≤ gI s 1420 ∧ gI s 1420 ≤ 48 := hRs.1 1420; omega) ?_
                exact wp_some ⟨by show (1 : Int) = 0 ∨ (1 : Int) = 1; have : (0 : Int) ≤ gI s 1420 ∧ gI s 1420 ≤ 48 := hRs.1 1420; omega, fun h9 => by first | (exfalso; omega) | (have e9 : gA s 77 (6 * p1.toNat + p2.toNat) = y19 := (by rw [show 6 * p1.toNat + p2.toNat = r18.toNat by omega]; exact ey19); unfold CHD; rw [e9]; exact ⟨by omega, by omega, by omega⟩)⟩
          · skip
            exact wp_some ⟨by show (0 : Int) = 0 ∨ (0 : Int) = 1; have : (0 : Int) ≤ gI s 1420 ∧ gI s 1420 ≤ 48 := hRs.1 1420; omega, fun h9 => by first | (exfalso; omega) | (have e9 : gA s 77 (6 * p1.toNat + p2.toNat) = y19 := (by rw [show 6 * p1.toNat + p2.toNat = r18.toNat by omega]; exact ey19); unfold CHD; rw [e9]; exact ⟨by omega, by omega, by omega⟩)⟩
      · skip
        unfold m_x4_isSoundChild_J49
        exact wp_some ⟨by show (0 : Int) = 0 ∨ (0 : Int) = 1; have : (0 : Int) ≤ gI s 1420 ∧ gI s 1420 ≤ 48 := hRs.1 1420; omega, fun h9 => by first | (exfalso; omega) | (have e9 : gA s 77 (6 * p1.toNat + p2.toNat) = y19 := (by rw [show 6 * p1.toNat + p2.toNat = r18.toNat by omega]; exact ey19); unfold CHD; rw [e9]; exact ⟨by omega, by omega, by omega⟩)⟩
    · skip
      unfold m_x4_isSoundChild_J49
      exact wp_some ⟨by show (0 : Int) = 0 ∨ (0 : Int) = 1; have : (0 : Int) ≤ gI s 1420 ∧ gI s 1420 ≤ 48 := hRs.1 1420; omega, fun h9 => by first | (exfalso; omega) | (have e9 : gA s 77 (6 * p1.toNat + p2.toNat) = y19 := (by rw [show 6 * p1.toNat + p2.toNat = r18.toNat by omega]; exact ey19); unfold CHD; rw [e9]; exact ⟨by omega, by omega, by omega⟩)⟩
set_option maxHeartbeats 1000000 in
theorem w_x4_isSoundBlock {p1 : Int} {s : MS} (hRs : Rg s) (hp0 : 0 ≤ p1 ∧ p1 < 48) (hp1 : 1 ≤ gA s 75 p1.toNat ∧ gA s 75 p1.toNat ≤ 6) : wp (m_x4_isSoundBlock p1 s) (fun q => (Rg q.2) ∧ (q.1 = 0 ∨ q.1 = 1) ∧ (q.1 = 1 → 0 < gA s 74 p1.toNat → ∀ k : Nat, (k : Int) < gA s 75 p1.toNat → CHD s p1.toNat k)) := by
  unfold m_x4_isSoundBlock
  refine wp_rdIn (by omega) (fun y57 ey57 => ?_)
  have by57 : (-1 : Int) ≤ y57 ∧ y57 ≤ 255 := ey57 ▸ hRs.2.1 75 _ (by show _ < 48; omega)
  refine wp_rdIn (by omega) (fun y58 ey58 => ?_)
  have by58 : (-1 : Int) ≤ y58 ∧ y58 ≤ 1000 := ey58 ▸ hRs.2.1 74 _ (by show _ < 48; omega)
  refine wp_rg (by omega) ?_
  refine wp_if (fun c1 => ?_) (fun c1 => ?_)
  · skip
    unfold m_x4_isSoundBlock_J23
    have L29 : ∀ (n : Nat) (x24 : Int) (x25 : Int) (x26 : Int) (s27 : MS), Rg s27 → (x24 = p1) → (x25 = gA s 75 p1.toNat - 1) → (0 ≤ x26 ∧ x26 ≤ 6) → (KI s s27) → (6 - x26) < (n : Int) → wp (m_x4_isSoundBlock_L29 n x24 x25 x26 s27) (fun q => (Rg q.2) ∧ (q.1 = 0 ∨ q.1 = 1) ∧ (q.1 = 1 → 0 < gA s 74 p1.toNat → ∀ k : Nat, (k : Int) < gA s 75 p1.toNat → CHD s p1.toNat k)) := by
      refine fr_ind (fun x24 x25 x26 s27 hRs27 hv29_0 hv29_1 hv29_2 hv29_3 hm29 => ?_) (fun n29 ih29 x24 x25 x26 s27 hRs27 hv29_0 hv29_1 hv29_2 hv29_3 hm29 => ?_)
      · exfalso; omega
      · show wp (m_x4_isSoundBlock_b29 (m_x4_isSoundBlock_L29 n29) x24 x25 x26 s27) _
        unfold m_x4_isSoundBlock_b29
        have k75 : gA s27 75 p1.toNat = gA s 75 p1.toNat := congrFun hv29_3.1.2.2.2.1 _
        have k74 : gA s27 74 p1.toNat = gA s 74 p1.toNat := congrFun hv29_3.1.2.2.1 _
        have x74 : gA s27 74 x24.toNat = gA s 74 p1.toNat := by rw [hv29_0, k74]
        refine wp_rg (by omega) ?_
        refine wp_rg (by omega) ?_
        refine wp_if (fun c2 => ?_) (fun c2 => ?_)
        · skip
          refine wp_rdIn (by omega) (fun y31 ey31 => ?_)
          have by31 : (-1 : Int) ≤ y31 ∧ y31 ≤ 1000 := ey31 ▸ hRs27.2.1 74 _ (by show _ < 48; omega)
          refine wp_rg (by omega) ?_
          refine wp_if (fun c3 => ?_) (fun c3 => ?_)
          · skip
            refine wp_bn (w_x8_slot_v2 hRs27) (fun r35 er35 hr35 => ?_)
            have hr35_0 := hr35
            have hr35_0 : r35 = x24 * 6 + (0 : Int) := hr35_0
            refine wp_rdIn (by omega) (fun y36 ey36 => ?_)
            have by36 : (-257 : Int) ≤ y36 ∧ y36 ≤ 65535 := ey36 ▸ hRs27.2.1 76 _ (by show _ < 288; omega)
            refine wp_inb (by omega) ?_
            refine wp_stn (fun s38 es38 => ?_)
            have hRs38 : Rg s38 := es38 ▸ Rg.uAu hRs27 (by show (-2147483648 : Int) ≤ y36 ∧ y36 ≤ 2147483647; omega)
            refine wp_bn (w_x8_slot_v2 hRs38) (fun r40 er40 hr40 => ?_)
            have hr40_0 := hr40
            have hr40_0 : r40 = x24 * 6 + x25 := hr40_0
            refine wp_rdIn (by omega) (fun y41 ey41 => ?_)
            have by41 : (-257 : Int) ≤ y41 ∧ y41 ≤ 65535 := ey41 ▸ hRs38.2.1 76 _ (by show _ < 288; omega)
            refine wp_inb (by omega) ?_
            refine wp_stn (fun s43 es43 => ?_)
            have hRs43 : Rg s43 := es43 ▸ Rg.uAu hRs38 (by show (-2147483648 : Int) ≤ y41 ∧ y41 ≤ 2147483647; omega)
            exact wp_some ⟨hRs43, by show (1 : Int) = 0 ∨ (1 : Int) = 1; omega, fun h9 h8 k hk => by first | (exfalso; omega) | exact hv120_4 k (by omega)⟩
          · skip
            have L120 : ∀ (n : Nat) (x1 : Int) (x2 : Int) (x3 : Int) (s4 : MS), Rg s4 → (x1 = p1) → (x2 = gA s 75 p1.toNat - 1) → (0 ≤ x3 ∧ x3 ≤ 6) → (KI s s4) → (∀ k : Nat, (k : Int) < x3 → CHD s p1.toNat k) → (6 - x3) < (n : Int) → wp (m_x4_isSoundBlock_L120 n x1 x2 x3 s4) (fun q => (Rg q.2) ∧ (q.1 = 0 ∨ q.1 = 1) ∧ (q.1 = 1 → 0 < gA s 74 p1.toNat → ∀ k : Nat, (k : Int) < gA s 75 p1.toNat → CHD s p1.toNat k)) := by
              refine fr_ind (fun x1 x2 x3 s4 hRs4 hv120_0 hv120_1 hv120_2 hv120_3 hv120_4 hm120 => ?_) (fun n120 ih120 x1 x2 x3 s4 hRs4 hv120_0 hv120_1 hv120_2 hv120_3 hv120_4 hm120 => ?_)
              · exfalso; omega
              · show wp (m_x4_isSoundBlock_b120 (m_x4_isSoundBlock_L120 n120) x1 x2 x3 s4) _
                unfold m_x4_isSoundBlock_b120
                have k75 : gA s4 75 p1.toNat = gA s 75 p1.toNat := congrFun hv120_3.1.2.2.2.1 _
                have nb : gI s4 1420 ≤ 48 := (hRs4.1 1420).2
                have kn := hv120_3.2
                refine wp_rg (by omega) ?_
                refine wp_rg (by omega) ?_
                refine wp_if (fun c4 => ?_) (fun c4 => ?_)
                · skip
                  refine wp_bn (w_x8_slot_v2 hRs4) (fun r9 er9 hr9 => ?_)
                  have hr9_0 := hr9
                  have hr9_0 : r9 = x1 * 6 + (0 : Int) := hr9_0
                  have c9 := (hv120_4 0 (by omega)).1
                  rw [← hv120_3.1.2.2.2.2.2, ← kn, ← hv120_0] at c9
                  rw [show 6 * x1.toNat + 0 = r9.toNat by omega] at c9
                  refine wp_rdIn (by omega) (fun y10 ey10 => ?_)
                  have by10 : (-257 : Int) ≤ y10 ∧ y10 ≤ 65535 := ey10 ▸ hRs4.2.1 77 _ (by show _ < 288; omega)
                  refine wp_rdIn (by omega) (fun y11 ey11 => ?_)
                  have by11 : (-2147483648 : Int) ≤ y11 ∧ y11 ≤ 2147483647 := ey11 ▸ hRs4.2.1 18 _ (by show _ < 48; omega)
                  refine wp_inb (by omega) ?_
                  refine wp_stn (fun s13 es13 => ?_)
                  have hRs13 : Rg s13 := es13 ▸ Rg.uAu hRs4 (by show (-2147483648 : Int) ≤ y11 ∧ y11 ≤ 2147483647; omega)
                  refine wp_bn (w_x8_slot_v2 hRs13) (fun r15 er15 hr15 => ?_)
                  have hr15_0 := hr15
                  have hr15_0 : r15 = x1 * 6 + x2 := hr15_0
                  have c15 := (hv120_4 x2.toNat (by omega)).1
                  rw [← hv120_3.1.2.2.2.2.2, ← kn, ← hv120_0] at c15
                  rw [show 6 * x1.toNat + x2.toNat = r15.toNat by omega, ← (q_Aa es13 (by decide) : gA s13 77 = gA s4 77)] at c15
                  refine wp_rdIn (by omega) (fun y16 ey16 => ?_)
                  have by16 : (-257 : Int) ≤ y16 ∧ y16 ≤ 65535 := ey16 ▸ hRs13.2.1 77 _ (by show _ < 288; omega)
                  refine wp_rdIn (by omega) (fun y17 ey17 => ?_)
                  have by17 : (-2147483648 : Int) ≤ y17 ∧ y17 ≤ 2147483647 := ey17 ▸ hRs13.2.1 19 _ (by show _ < 48; omega)
                  refine wp_inb (by omega) ?_
                  refine wp_stn (fun s19 es19 => ?_)
                  have hRs19 : Rg s19 := es19 ▸ Rg.uAu hRs13 (by show (-2147483648 : Int) ≤ y17 ∧ y17 ≤ 2147483647; omega)
                  exact wp_some ⟨hRs19, by show (1 : Int) = 0 ∨ (1 : Int) = 1; omega, fun h9 h8 k hk => by first | (exfalso; omega) | exact hv120_4 k (by omega)⟩
                · skip
                  refine wp_bn (w_x4_isSoundChild hRs4 (by show 0 ≤ x1 ∧ x1 < 48; omega) (by rw [hv120_0, k75]; omega)) (fun r21 er21 hr21 => ?_)
                  obtain ⟨hr21_0, hr21_1⟩ := hr21
                  have hr21_0 : r21 = 0 ∨ r21 = 1 := hr21_0
                  have hr21_1 : r21 = 1 → CHD s4 x1.toNat x3.toNat := hr21_1
                  have c21 := hr21_1
                  refine wp_rg (by omega) ?_
                  refine wp_if (fun c5 => ?_) (fun c5 => ?_)
                  · skip
                    exact wp_some ⟨hRs4, by show (0 : Int) = 0 ∨ (0 : Int) = 1; omega, fun h9 h8 k hk => by first | (exfalso; omega) | exact hv120_4 k (by omega)⟩
                  · skip
                    exact ih120 x1 x2 (x3 + 1) s4 hRs4 (by show x1 = p1; omega) (by show x2 = gA s 75 p1.toNat - 1; omega) (by show 0 ≤ (x3 + 1) ∧ (x3 + 1) ≤ 6; omega) (hv120_3) (fun k hk => by by_cases z : k = x3.toNat; (have c22 := hr21_1 (by omega); rw [hv120_0] at c22; rw [z]; exact (CHD_eq hv120_3).mp c22); (exact hv120_4 k (by omega))) (by omega)
            exact L120 FU x24 x25 0 s27 hRs27 (by show x24 = p1; omega) (by show x25 = gA s 75 p1.toNat - 1; omega) (by show 0 ≤ (0 : Int) ∧ (0 : Int) ≤ 6; omega) (hv29_3) (fun k hk => absurd hk (by omega)) (by have := FU_big; have := FU_big2; omega)
        · skip
          refine wp_bn (w_x8_slot_v2 hRs27) (fun r45 er45 hr45 => ?_)
          have hr45_0 := hr45
          have hr45_0 : r45 = x24 * 6 + x26 := hr45_0
          refine wp_rdIn (by omega) (fun y46 ey46 => ?_)
          have by46 : (-257 : Int) ≤ y46 ∧ y46 ≤ 65535 := ey46 ▸ hRs27.2.1 76 _ (by show _ < 288; omega)
          refine wp_bn (w_x8_slot_v2 hRs27) (fun r48 er48 hr48 => ?_)
          have hr48_0 := hr48
          have hr48_0 : r48 = x24 * 6 + (x26 + 1) := hr48_0
          refine wp_rdIn (by omega) (fun y49 ey49 => ?_)
          have by49 : (-257 : Int) ≤ y49 ∧ y49 ≤ 65535 := ey49 ▸ hRs27.2.1 76 _ (by show _ < 288; omega)
          refine wp_rg (by omega) ?_
          refine wp_rg (by omega) ?_
          refine wp_if (fun c6 => ?_) (fun c6 => ?_)
          · skip
            exact ih29 x24 x25 (x26 + 1) s27 hRs27 (by show x24 = p1; omega) (by show x25 = gA s 75 p1.toNat - 1; omega) (by show 0 ≤ (x26 + 1) ∧ (x26 + 1) ≤ 6; omega) (hv29_3) (by omega)
          · skip
            exact wp_some ⟨hRs27, by show (0 : Int) = 0 ∨ (0 : Int) = 1; omega, fun h9 h8 k hk => by first | (exfalso; omega) | exact hv120_4 k (by omega)⟩
    exact L29 FU p1 (y57 - 1) 0 s hRs (by show p1 = p1; omega) (by show (y57 - 1) = gA s 75 p1.toNat - 1; omega) (by show 0 ≤ (0 : Int) ∧ (0 : Int) ≤ 6; omega) (KI_rf s) (by have := FU_big; have := FU_big2; omega)
  · skip
    unfold m_x4_isSoundBlock_J23
    have L29 : ∀ (n : Nat) (x24 : Int) (x25 : Int) (x26 : Int) (s27 : MS), Rg s27 → (x24 = p1) → (x25 = gA s 75 p1.toNat - 1) → (0 ≤ x26 ∧ x26 ≤ 6) → (KI s s27) → (6 - x26) < (n : Int) → wp (m_x4_isSoundBlock_L29 n x24 x25 x26 s27) (fun q => (Rg q.2) ∧ (q.1 = 0 ∨ q.1 = 1) ∧ (q.1 = 1 → 0 < gA s 74 p1.toNat → ∀ k : Nat, (k : Int) < gA s 75 p1.toNat → CHD s p1.toNat k)) := by
      refine fr_ind (fun x24 x25 x26 s27 hRs27 hv29_0 hv29_1 hv29_2 hv29_3 hm29 => ?_) (fun n29 ih29 x24 x25 x26 s27 hRs27 hv29_0 hv29_1 hv29_2 hv29_3 hm29 => ?_)
      · exfalso; omega
      · show wp (m_x4_isSoundBlock_b29 (m_x4_isSoundBlock_L29 n29) x24 x25 x26 s27) _
        unfold m_x4_isSoundBlock_b29
        have k75 : gA s27 75 p1.toNat = gA s 75 p1.toNat := congrFun hv29_3.1.2.2.2.1 _
        have k74 : gA s27 74 p1.toNat = gA s 74 p1.toNat := congrFun hv29_3.1.2.2.1 _
        have x74 : gA s27 74 x24.toNat = gA s 74 p1.toNat := by rw [hv29_0, k74]
        refine wp_rg (by omega) ?_
        refine wp_rg (by omega) ?_
        refine wp_if (fun c7 => ?_) (fun c7 => ?_)
        · skip
          refine wp_rdIn (by omega) (fun y31 ey31 => ?_)
          have by31 : (-1 : Int) ≤ y31 ∧ y31 ≤ 1000 := ey31 ▸ hRs27.2.1 74 _ (by show _ < 48; omega)
          refine wp_rg (by omega) ?_
          refine wp_if (fun c8 => ?_) (fun c8 => ?_)
          · skip
            refine wp_bn (w_x8_slot_v2 hRs27) (fun r35 er35 hr35 => ?_)
            have hr35_0 := hr35
            have hr35_0 : r35 = x24 * 6 + (0 : Int) := hr35_0
            refine wp_rdIn (by omega) (fun y36 ey36 => ?_)
            have by36 : (-257 : Int) ≤ y36 ∧ y36 ≤ 65535 := ey36 ▸ hRs27.2.1 76 _ (by show _ < 288; omega)
            refine wp_inb (by omega) ?_
            refine wp_stn (fun s38 es38 => ?_)
            have hRs38 : Rg s38 := es38 ▸ Rg.uAu hRs27 (by show (-2147483648 : Int) ≤ y36 ∧ y36 ≤ 2147483647; omega)
            refine wp_bn (w_x8_slot_v2 hRs38) (fun r40 er40 hr40 => ?_)
            have hr40_0 := hr40
            have hr40_0 : r40 = x24 * 6 + x25 := hr40_0
            refine wp_rdIn (by omega) (fun y41 ey41 => ?_)
            have by41 : (-257 : Int) ≤ y41 ∧ y41 ≤ 65535 := ey41 ▸ hRs38.2.1 76 _ (by show _ < 288; omega)
            refine wp_inb (by omega) ?_
            refine wp_stn (fun s43 es43 => ?_)
            have hRs43 : Rg s43 := es43 ▸ Rg.uAu hRs38 (by show (-2147483648 : Int) ≤ y41 ∧ y41 ≤ 2147483647; omega)
            exact wp_some ⟨hRs43, by show (1 : Int) = 0 ∨ (1 : Int) = 1; omega, fun h9 h8 k hk => by first | (exfalso; omega) | exact hv120_4 k (by omega)⟩
          · skip
            have L120 : ∀ (n : Nat) (x1 : Int) (x2 : Int) (x3 : Int) (s4 : MS), Rg s4 → (x1 = p1) → (x2 = gA s 75 p1.toNat - 1) → (0 ≤ x3 ∧ x3 ≤ 6) → (KI s s4) → (∀ k : Nat, (k : Int) < x3 → CHD s p1.toNat k) → (6 - x3) < (n : Int) → wp (m_x4_isSoundBlock_L120 n x1 x2 x3 s4) (fun q => (Rg q.2) ∧ (q.1 = 0 ∨ q.1 = 1) ∧ (q.1 = 1 → 0 < gA s 74 p1.toNat → ∀ k : Nat, (k : Int) < gA s 75 p1.toNat → CHD s p1.toNat k)) := by
              refine fr_ind (fun x1 x2 x3 s4 hRs4 hv120_0 hv120_1 hv120_2 hv120_3 hv120_4 hm120 => ?_) (fun n120 ih120 x1 x2 x3 s4 hRs4 hv120_0 hv120_1 hv120_2 hv120_3 hv120_4 hm120 => ?_)
              · exfalso; omega
              · show wp (m_x4_isSoundBlock_b120 (m_x4_isSoundBlock_L120 n120) x1 x2 x3 s4) _
                unfold m_x4_isSoundBlock_b120
                have k75 : gA s4 75 p1.toNat = gA s 75 p1.toNat := congrFun hv120_3.1.2.2.2.1 _
                have nb : gI s4 1420 ≤ 48 := (hRs4.1 1420).2
                have kn := hv120_3.2
                refine wp_rg (by omega) ?_
                refine wp_rg (by omega) ?_
                refine wp_if (fun c9 => ?_) (fun c9 => ?_)
                · skip
                  refine wp_bn (w_x8_slot_v2 hRs4) (fun r9 er9 hr9 => ?_)
                  have hr9_0 := hr9
                  have hr9_0 : r9 = x1 * 6 + (0 : Int) := hr9_0
                  have c9 := (hv120_4 0 (by omega)).1
                  rw [← hv120_3.1.2.2.2.2.2, ← kn, ← hv120_0] at c9
                  rw [show 6 * x1.toNat + 0 = r9.toNat by omega] at c9
                  refine wp_rdIn (by omega) (fun y10 ey10 => ?_)
                  have by10 : (-257 : Int) ≤ y10 ∧ y10 ≤ 65535 := ey10 ▸ hRs4.2.1 77 _ (by show _ < 288; omega)
                  refine wp_rdIn (by omega) (fun y11 ey11 => ?_)
                  have by11 : (-2147483648 : Int) ≤ y11 ∧ y11 ≤ 2147483647 := ey11 ▸ hRs4.2.1 18 _ (by show _ < 48; omega)
                  refine wp_inb (by omega) ?_
                  refine wp_stn (fun s13 es13 => ?_)
                  have hRs13 : Rg s13 := es13 ▸ Rg.uAu hRs4 (by show (-2147483648 : Int) ≤ y11 ∧ y11 ≤ 2147483647; omega)
                  refine wp_bn (w_x8_slot_v2 hRs13) (fun r15 er15 hr15 => ?_)
                  have hr15_0 := hr15
                  have hr15_0 : r15 = x1 * 6 + x2 := hr15_0
                  have c15 := (hv120_4 x2.toNat (by omega)).1
                  rw [← hv120_3.1.2.2.2.2.2, ← kn, ← hv120_0] at c15
                  rw [show 6 * x1.toNat + x2.toNat = r15.toNat by omega, ← (q_Aa es13 (by decide) : gA s13 77 = gA s4 77)] at c15
                  refine wp_rdIn (by omega) (fun y16 ey16 => ?_)
                  have by16 : (-257 : Int) ≤ y16 ∧ y16 ≤ 65535 := ey16 ▸ hRs13.2.1 77 _ (by show _ < 288; omega)
                  refine wp_rdIn (by omega) (fun y17 ey17 => ?_)
                  have by17 : (-2147483648 : Int) ≤ y17 ∧ y17 ≤ 2147483647 := ey17 ▸ hRs13.2.1 19 _ (by show _ < 48; omega)
                  refine wp_inb (by omega) ?_
                  refine wp_stn (fun s19 es19 => ?_)
                  have hRs19 : Rg s19 := es19 ▸ Rg.uAu hRs13 (by show (-2147483648 : Int) ≤ y17 ∧ y17 ≤ 2147483647; omega)
                  exact wp_some ⟨hRs19, by show (1 : Int) = 0 ∨ (1 : Int) = 1; omega, fun h9 h8 k hk => by first | (exfalso; omega) | exact hv120_4 k (by omega)⟩
                · skip
                  refine wp_bn (w_x4_isSoundChild hRs4 (by show 0 ≤ x1 ∧ x1 < 48; omega) (by rw [hv120_0, k75]; omega)) (fun r21 er21 hr21 => ?_)
                  obtain ⟨hr21_0, hr21_1⟩ := hr21
                  have hr21_0 : r21 = 0 ∨ r21 = 1 := hr21_0
                  have hr21_1 : r21 = 1 → CHD s4 x1.toNat x3.toNat := hr21_1
                  have c21 := hr21_1
                  refine wp_rg (by omega) ?_
                  refine wp_if (fun c10 => ?_) (fun c10 => ?_)
                  · skip
                    exact wp_some ⟨hRs4, by show (0 : Int) = 0 ∨ (0 : Int) = 1; omega, fun h9 h8 k hk => by first | (exfalso; omega) | exact hv120_4 k (by omega)⟩
                  · skip
                    exact ih120 x1 x2 (x3 + 1) s4 hRs4 (by show x1 = p1; omega) (by show x2 = gA s 75 p1.toNat - 1; omega) (by show 0 ≤ (x3 + 1) ∧ (x3 + 1) ≤ 6; omega) (hv120_3) (fun k hk => by by_cases z : k = x3.toNat; (have c22 := hr21_1 (by omega); rw [hv120_0] at c22; rw [z]; exact (CHD_eq hv120_3).mp c22); (exact hv120_4 k (by omega))) (by omega)
            exact L120 FU x24 x25 0 s27 hRs27 (by show x24 = p1; omega) (by show x25 = gA s 75 p1.toNat - 1; omega) (by show 0 ≤ (0 : Int) ∧ (0 : Int) ≤ 6; omega) (hv29_3) (fun k hk => absurd hk (by omega)) (by have := FU_big; have := FU_big2; omega)
        · skip
          refine wp_bn (w_x8_slot_v2 hRs27) (fun r45 er45 hr45 => ?_)
          have hr45_0 := hr45
          have hr45_0 : r45 = x24 * 6 + x26 := hr45_0
          refine wp_rdIn (by omega) (fun y46 ey46 => ?_)
          have by46 : (-257 : Int) ≤ y46 ∧ y46 ≤ 65535 := ey46 ▸ hRs27.2.1 76 _ (by show _ < 288; omega)
          refine wp_bn (w_x8_slot_v2 hRs27) (fun r48 er48 hr48 => ?_)
          have hr48_0 := hr48
          have hr48_0 : r48 = x24 * 6 + (x26 + 1) := hr48_0
          refine wp_rdIn (by omega) (fun y49 ey49 => ?_)
          have by49 : (-257 : Int) ≤ y49 ∧ y49 ≤ 65535 := ey49 ▸ hRs27.2.1 76 _ (by show _ < 288; omega)
          refine wp_rg (by omega) ?_
          refine wp_rg (by omega) ?_
          refine wp_if (fun c11 => ?_) (fun c11 => ?_)
          · skip
            exact ih29 x24 x25 (x26 + 1) s27 hRs27 (by show x24 = p1; omega) (by show x25 = gA s 75 p1.toNat - 1; omega) (by show 0 ≤ (x26 + 1) ∧ (x26 + 1) ≤ 6; omega) (hv29_3) (by omega)
          · skip
            exact wp_some ⟨hRs27, by show (0 : Int) = 0 ∨ (0 : Int) = 1; omega, fun h9 h8 k hk => by first | (exfalso; omega) | exact hv120_4 k (by omega)⟩
    exact L29 FU p1 (y57 - 1) 1 s hRs (by show p1 = p1; omega) (by show (y57 - 1) = gA s 75 p1.toNat - 1; omega) (by show 0 ≤ (1 : Int) ∧ (1 : Int) ≤ 6; omega) (KI_rf s) (by have := FU_big; have := FU_big2; omega)
/-! ===== an image is a state of trees ===== -/
theorem sm_tail {a n : Nat} {f : Nat → Int} (h : a ≤ n) (hz : ∀ i, a ≤ i → i < n → f i = 0) : sm n f = sm a f := by
  induction n with
  | zero => rw [show a = 0 by omega]
  | succ n ih =>
    by_cases e : a = n + 1
    · rw [e]
    · show sm n f + f n = sm a f
      rw [ih (by omega) (fun i h1 h2 => hz i h1 (by omega)), hz n (by omega) (by omega)]; omega
theorem TG_load {h : SH} {ky : Nat → Nat → Int} {N E : Int} {c sv r rs : Nat → Int} (hN : 0 ≤ N ∧ N ≤ 48) (hE : E ≤ 6) (h1 : ∀ p, p < 48 → 0 ≤ c p ∧ 0 ≤ sv p ∧ (N ≤ (p : Int) → c p = 0 ∧ sv p = 0 ∧ h.2.1 p = 0)) (h2 : ∀ p, p < 48 → (c p = 0 ∧ sv p = 0 ∧ h.2.1 p = 0) ∨ (0 ≤ h.1 p ∧ (1 ≤ h.2.1 p ∧ h.2.1 p ≤ E) ∧ (∀ k : Nat, (k : Int) < h.2.1 p → 0 ≤ ky p k ∧ ky p k ≤ 999) ∧ (0 < h.1 p → ∀ k : Nat, (k : Int) < h.2.1 p → (0 ≤ h.2.2 p k ∧ h.2.2 p k < N) ∧ h.1 (h.2.2 p k).toNat = h.1 p - 1))) (h3 : ∀ v, v < 8 → r v < N ∧ rs v < N) (h4 : ∀ x : Nat, (x : Int) < N → c x = rf h c r (x : Int) ∧ sv x = rf h sv rs (x : Int)) : TG h ky N E c sv r rs Z0 (-1) := by
  have nd : ∀ p, p < 48 → (0 < c p ∨ 0 < sv p) → Nd h N p := fun p hp hc => by
    rcases h2 p hp with q | q
    · omega
    · exact ⟨q.1, by omega, q.2.2.2⟩
  have w : ∀ c' : Nat → Int, (∀ p, p < 48 → 0 ≤ c' p ∧ (N ≤ (p : Int) → c' p = 0) ∧ (0 < c' p → Nd h N p)) → WN h N c' := fun c' hc => hc
  have z : ∀ (c' r' : Nat → Int), (∀ p, p < 48 → 0 < c' p → Nd h N p) → (∀ v, v < 8 → r' v < N) → ∀ x : Nat, x < 48 → N ≤ (x : Int) → rf h c' r' (x : Int) = 0 := fun c' r' hc hr x hx hxN => by
    unfold rf rr
    rw [sm_0 (fun v hv => if_neg (by have := hr v hv; omega)), sm_0 (n := 48) (f := fun p => if 0 < c' p then en h p (x : Int) else 0) (fun p hp => by
      show (if 0 < c' p then en h p (x : Int) else 0) = 0
      by_cases e : 0 < c' p
      · rw [if_pos e]
        have n := hc p hp e
        unfold en enf
        by_cases e2 : 0 < h.1 p
        · rw [if_pos e2]
          exact sm_0 (fun k hk => if_neg (fun q => by have := (n.2.2 e2 k q.2.1).1; omega))
        · rw [if_neg e2]
      · rw [if_neg e])]
    rfl
  refine ⟨⟨hN.2, fun p hp => ⟨(h1 p hp).1, fun q => ((h1 p hp).2.2 q).1, fun q => nd p hp (Or.inl q)⟩, fun p hp => ⟨(h1 p hp).2.1, fun q => ((h1 p hp).2.2 q).2.1, fun q => nd p hp (Or.inr q)⟩, fun p hp => ?_⟩, ⟨fun x hx => ?_, fun x hx => ?_⟩, ⟨fun p hp hc _ => ?_, fun p hp hc => ?_⟩, ⟨fun v hv => by have := (h3 v hv).1; omega, fun v hv => by have := (h3 v hv).2; omega⟩, fun p hp hc => ?_⟩
  · rcases h2 p hp with q | q
    · rw [q.2.2]; exact ⟨by omega, fun _ k hk => by omega, fun k hk => by omega⟩
    · exact ⟨by omega, fun hl k hk => by have := (q.2.2.2 hl k hk).1; omega, q.2.2.1⟩
  · show c x - rf h c r (x : Int) = 0
    by_cases e : (x : Int) < N
    · have := (h4 x e).1; omega
    · rw [z c r (fun p hp q => nd p hp (Or.inl q)) (fun v hv => (h3 v hv).1) x hx (by omega), ((h1 x hx).2.2 (by omega)).1]; rfl
  · show sv x - rf h sv rs (x : Int) = 0
    by_cases e : (x : Int) < N
    · have := (h4 x e).2; omega
    · rw [z sv rs (fun p hp q => nd p hp (Or.inr q)) (fun v hv => (h3 v hv).2) x hx (by omega), ((h1 x hx).2.2 (by omega)).2.1]; rfl
  · rcases h2 p hp with q | q
    · omega
    · exact q.2.1.1
  · rcases h2 p hp with q | q
    · omega
    · exact q.2.1.1
  · rcases h2 p hp with q | q
    · omega
    · exact ⟨q.2.1.2, q.2.2.1⟩
def hJ (s : MS) : SH := (gA s 74, gA s 75, fun p k => gA s 77 (6 * p + k))
def kJ (s : MS) : Nat → Nat → Int := fun p k => gA s 76 (6 * p + k)
theorem hJ_eq {s o : MS} (K : KI s o) : hJ o = hJ s := by
  unfold hJ
  rw [K.1.2.2.1, K.1.2.2.2.1, K.1.2.2.2.2.2]
theorem w_clear {p0 : Int} {s : MS} (hR : Rg s) (hp : 0 ≤ p0 ∧ p0 ≤ 48) : wp (m_x8_clear p0 s) (fun o => Rg o ∧ gI o 1420 = p0 ∧ ∀ p, p < 48 → gA o 72 p = 0 ∧ gA o 73 p = 0 ∧ gA o 74 p = 0 ∧ gA o 75 p = 0) := by
  have L59 : ∀ (n : Nat) (i : Int) (S : MS), Rg S → (0 ≤ i ∧ i ≤ 8) → gI S 1420 = p0 → (∀ p, p < 48 → gA S 72 p = 0 ∧ gA S 73 p = 0 ∧ gA S 74 p = 0 ∧ gA S 75 p = 0) → 8 - i < (n : Int) → wp (m_x8_clear_L59 n i S) (fun o => Rg o ∧ gI o 1420 = p0 ∧ ∀ p, p < 48 → gA o 72 p = 0 ∧ gA o 73 p = 0 ∧ gA o 74 p = 0 ∧ gA o 75 p = 0) := by
    refine fr_ind (fun i S hRS hi hI hz hm => by exfalso; omega) (fun n ih i S hRS hi hI hz hm => ?_)
    show wp (m_x8_clear_b59 (m_x8_clear_L59 n) i S) _
    unfold m_x8_clear_b59
    refine wp_rg (by omega) (wp_if (fun c1 => wp_some ⟨hRS, hI, hz⟩) (fun c1 => ?_))
    refine wp_inb (by omega) (wp_stn (fun s6 e6 => ?_))
    have hR6 : Rg s6 := e6 ▸ Rg.uAu hRS (by show (-2 : Int) ≤ -2 ∧ (-2 : Int) ≤ 253; omega)
    refine wp_inb (by omega) (wp_stn (fun s8 e8 => ?_))
    have hR8 : Rg s8 := e8 ▸ Rg.uAu hR6 (by show (-2 : Int) ≤ -2 ∧ (-2 : Int) ≤ 253; omega)
    have kk : ∀ k, k ≠ 78 → k ≠ 79 → gA s8 k = gA S k := fun k h1 h2 => (q_Aa e8 h2).trans (q_Aa e6 h1)
    exact ih (i + 1) s8 hR8 (by omega) (((q_Ai e8).trans (q_Ai e6)).trans hI) (fun p hp => by rw [kk 72 (by decide) (by decide), kk 73 (by decide) (by decide), kk 74 (by decide) (by decide), kk 75 (by decide) (by decide)]; exact hz p hp) (by omega)
  have L17 : ∀ (n : Nat) (i : Int) (S : MS), Rg S → (0 ≤ i ∧ i ≤ 48) → gI S 1420 = p0 → (∀ p : Nat, (p : Int) < i → gA S 72 p = 0 ∧ gA S 73 p = 0 ∧ gA S 74 p = 0 ∧ gA S 75 p = 0) → 48 - i < (n : Int) → wp (m_x8_clear_L17 n i S) (fun o => Rg o ∧ gI o 1420 = p0 ∧ ∀ p, p < 48 → gA o 72 p = 0 ∧ gA o 73 p = 0 ∧ gA o 74 p = 0 ∧ gA o 75 p = 0) := by
    refine fr_ind (fun i S hRS hi hI hz hm => by exfalso; omega) (fun n ih i S hRS hi hI hz hm => ?_)
    show wp (m_x8_clear_b17 (m_x8_clear_L17 n) i S) _
    unfold m_x8_clear_b17
    refine wp_rg (by omega) (wp_if (fun c1 => L59 FU 0 S hRS (by omega) hI (fun p hp => hz p (by omega)) (by have := FU_big; omega)) (fun c1 => ?_))
    refine wp_inb (by omega) (wp_stn (fun s14 e14 => ?_))
    have hR14 : Rg s14 := e14 ▸ Rg.uAu hRS (by show (-1 : Int) ≤ 0 ∧ (0 : Int) ≤ 100000; omega)
    refine wp_inb (by omega) (wp_stn (fun s16 e16 => ?_))
    have hR16 : Rg s16 := e16 ▸ Rg.uAu hR14 (by show (-1 : Int) ≤ 0 ∧ (0 : Int) ≤ 100000; omega)
    refine wp_inb (by omega) (wp_stn (fun s18 e18 => ?_))
    have hR18 : Rg s18 := e18 ▸ Rg.uAu hR16 (by show (-1 : Int) ≤ 0 ∧ (0 : Int) ≤ 1000; omega)
    refine wp_inb (by omega) (wp_stn (fun s20 e20 => ?_))
    have hR20 : Rg s20 := e20 ▸ Rg.uAu hR18 (by show (-1 : Int) ≤ 0 ∧ (0 : Int) ≤ 255; omega)
    have a72 : gA s20 72 = upZ (gA S 72) i.toNat 0 := (q_Aa e20 (by decide)).trans ((q_Aa e18 (by decide)).trans ((q_Aa e16 (by decide)).trans (q_AA e14)))
    have a73 : gA s20 73 = upZ (gA S 73) i.toNat 0 := (q_Aa e20 (by decide)).trans ((q_Aa e18 (by decide)).trans ((q_AA e16).trans (by rw [show gA s14 73 = gA S 73 from q_Aa e14 (by decide)])))
    have a74 : gA s20 74 = upZ (gA S 74) i.toNat 0 := (q_Aa e20 (by decide)).trans ((q_AA e18).trans (by rw [show gA s16 74 = gA S 74 from (q_Aa e16 (by decide)).trans (q_Aa e14 (by decide))]))
    have a75 : gA s20 75 = upZ (gA S 75) i.toNat 0 := (q_AA e20).trans (by rw [show gA s18 75 = gA S 75 from (q_Aa e18 (by decide)).trans ((q_Aa e16 (by decide)).trans (q_Aa e14 (by decide)))])
    refine ih (i + 1) s20 hR20 (by omega) ((q_Ai e20).trans ((q_Ai e18).trans ((q_Ai e16).trans ((q_Ai e14).trans hI)))) (fun p hp => ?_) (by omega)
    rw [a72, a73, a74, a75]
    by_cases z : p = i.toNat
    · rw [z, upZ_s, upZ_s, upZ_s, upZ_s]; exact ⟨rfl, rfl, rfl, rfl⟩
    · rw [upZ_n z, upZ_n z, upZ_n z, upZ_n z]; exact hz p (by omega)
  unfold m_x8_clear
  refine wp_stn (fun s21 e21 => wp_stn (fun s22 e22 => wp_stn (fun s23 e23 => ?_)))
  have hR21 : Rg s21 := e21 ▸ Rg.uI hR (by show (0 : Int) ≤ p0 ∧ p0 ≤ 48; exact hp)
  have hR22 : Rg s22 := e22 ▸ Rg.uI hR21 (by show (-70000 : Int) ≤ 0 ∧ (0 : Int) ≤ 16777215; omega)
  have hR23 : Rg s23 := e23 ▸ Rg.uL hR22 (by show R8 0; decide)
  exact L17 FU 0 s23 hR23 (by omega) (by rw [q_Li e23, q_Ii e22 (by decide), q_II e21]) (fun p hp => absurd hp (by omega)) (by have := FU_big; omega)
def LB (o : MS) (b : Nat) (E : Int) : Prop := (0 ≤ gA o 72 b ∧ 0 ≤ gA o 73 b) ∧ ((gA o 72 b = 0 ∧ gA o 73 b = 0 ∧ gA o 75 b = 0) ∨ (¬ (gA o 72 b = 0 ∧ gA o 73 b = 0) ∧ (0 ≤ gA o 74 b ∧ gA o 74 b ≤ 47) ∧ (1 ≤ gA o 75 b ∧ gA o 75 b ≤ E) ∧ ∀ k : Nat, (k : Int) < gA o 75 b → 0 ≤ gA o 76 (6 * b + k) ∧ gA o 76 (6 * b + k) ≤ 999))
def OB (s o : MS) (b : Nat) : Prop := ∀ q, q < 48 → q ≠ b → (gA o 72 q = gA s 72 q ∧ gA o 73 q = gA s 73 q ∧ gA o 74 q = gA s 74 q ∧ gA o 75 q = gA s 75 q) ∧ ∀ k, k < 6 → gA o 76 (6 * q + k) = gA s 76 (6 * q + k)
theorem LB_eq {s o : MS} {b : Nat} {E : Int} (h : LB s b E) (hE : E ≤ 6) (h1 : gA o 72 b = gA s 72 b ∧ gA o 73 b = gA s 73 b ∧ gA o 74 b = gA s 74 b ∧ gA o 75 b = gA s 75 b) (h2 : ∀ k, k < 6 → gA o 76 (6 * b + k) = gA s 76 (6 * b + k)) : LB o b E := by
  unfold LB at h ⊢
  rw [h1.1, h1.2.1, h1.2.2.1, h1.2.2.2]
  refine ⟨h.1, h.2.imp id (fun q => ⟨q.1, q.2.1, q.2.2.1, fun k hk => ?_⟩)⟩
  rw [h2 k (by omega)]
  exact q.2.2.2 k hk
set_option maxHeartbeats 1000000 in
theorem w_loadBlock {p2 p3 : Int} {s : MS} (hR : Rg s) (hb : 0 ≤ p2 ∧ p2 < gI s 1420) (h3 : 3 ≤ p3 ∧ p3 ≤ 6) (h322 : gI s 322 ≤ 70000) (hz : gA s 75 p2.toNat = 0) : wp (m_x4_loadBlock p2 p3 s) (fun q => Rg q.2 ∧ OB s q.2 p2.toNat ∧ gI q.2 322 ≤ gI s 322 + 28 ∧ (q.1 = 0 ∨ (q.1 = 1 ∧ LB q.2 p2.toNat p3))) := by
  have n48 : gI s 1420 ≤ 48 := (hR.1 1420).2
  unfold m_x4_loadBlock m_x4_loadBlock_J40 m_x4_loadBlock_J115
  refine wp_bn (w_x4_next hR (by omega)) (fun q45 e45 h45 => ?_)
  obtain ⟨v1, s45⟩ := q45
  dsimp only at h45 ⊢
  obtain ⟨hR45, b1, a1⟩ := h45
  have F45 : F_x4_next s s45 := fr_x4_next e45
  refine wp_inb (by omega) (wp_stn (fun s47 e47 => ?_))
  have hR47 : Rg s47 := e47 ▸ Rg.uAu hR45 (by show (-1 : Int) ≤ v1 ∧ v1 ≤ 100000; omega)
  refine wp_bn (w_x4_next hR47 (by rw [q_Ai e47]; omega)) (fun q50 e50 h50 => ?_)
  obtain ⟨v2, s50⟩ := q50
  dsimp only at h50 ⊢
  obtain ⟨hR50, b2, a2⟩ := h50
  have F50 : F_x4_next s47 s50 := fr_x4_next e50
  refine wp_inb (by omega) (wp_stn (fun s52 e52 => ?_))
  have hR52 : Rg s52 := e52 ▸ Rg.uAu hR50 (by show (-1 : Int) ≤ v2 ∧ v2 ≤ 100000; omega)
  have c72 : gA s52 72 = upZ (gA s 72) p2.toNat v1 := (q_Aa e52 (by decide)).trans ((F50.2.1 72 (by simp)).trans ((q_AA e47).trans (by rw [F45.2.1 72 (by simp)])))
  have c73 : gA s52 73 = upZ (gA s 73) p2.toNat v2 := (q_AA e52).trans (by rw [F50.2.1 73 (by simp), show gA s47 73 = gA s45 73 from q_Aa e47 (by decide), F45.2.1 73 (by simp)])
  have kk : ∀ k, k ≠ 72 → k ≠ 73 → gA s52 k = gA s k := fun k h1 h2 => (q_Aa e52 h2).trans ((F50.2.1 k (by simp)).trans ((q_Aa e47 h1).trans (F45.2.1 k (by simp))))
  have n322 : gI s52 322 = gI s 322 + 2 := by rw [q_Ai e52, a2, q_Ai e47, a1]; omega
  have n1420 : gI s52 1420 = gI s 1420 := (q_Ai e52).trans ((F50.1 1420 (by decide)).trans ((q_Ai e47).trans (F45.1 1420 (by decide))))
  have O52 : OB s s52 p2.toNat := fun q hq hn => ⟨⟨by rw [c72, upZ_n hn], by rw [c73, upZ_n hn], by rw [kk 74 (by decide) (by decide)], by rw [kk 75 (by decide) (by decide)]⟩, fun k hk => by rw [kk 76 (by decide) (by decide)]⟩
  refine wp_rdIn (by omega) (fun y53 e53 => ?_)
  have y53e : y53 = v1 := by rw [← e53, c72, upZ_s]
  rw [y53e]
  refine wp_rg (by omega) (wp_if (fun _ => wp_some ⟨hR52, O52, by show gI s52 322 ≤ _; omega, Or.inl rfl⟩) (fun d1 => ?_))
  refine wp_rdIn (by omega) (fun y56 e56 => ?_)
  have y56e : y56 = v2 := by rw [← e56, c73, upZ_s]
  rw [y56e]
  refine wp_rg (by omega) (wp_if (fun d2 => ?_) (fun _ => wp_some ⟨hR52, O52, by show gI s52 322 ≤ _; omega, Or.inl rfl⟩))
  refine wp_bn (w_x8_isFree_v2 hR52 (by omega)) (fun r60 e60 h60 => ?_)
  rw [c72, c73, upZ_s, upZ_s, n1420] at h60
  refine wp_rg (by omega) (wp_if (fun d3 => ?_) (fun d3 => ?_))
  · refine wp_bn (w_x4_next hR52 (by omega)) (fun q65 e65 h65 => ?_)
    obtain ⟨v3, s65⟩ := q65
    dsimp only at h65 ⊢
    obtain ⟨hR65, b3, a3⟩ := h65
    have F65 : F_x4_next s52 s65 := fr_x4_next e65
    refine wp_inb (by omega) (wp_stn (fun s67 e67 => ?_))
    have hR67 : Rg s67 := e67 ▸ Rg.uAu hR65 (by show (-1 : Int) ≤ v3 ∧ v3 ≤ 1000; omega)
    refine wp_bn (w_x4_next hR67 (by rw [q_Ai e67]; omega)) (fun q70 e70 h70 => ?_)
    obtain ⟨v4, s70⟩ := q70
    dsimp only at h70 ⊢
    obtain ⟨hR70, b4, a4⟩ := h70
    have F70 : F_x4_next s67 s70 := fr_x4_next e70
    refine wp_inb (by omega) (wp_stn (fun s72 e72 => ?_))
    have hR72 : Rg s72 := e72 ▸ Rg.uAu hR70 (by show (-1 : Int) ≤ v4 ∧ v4 ≤ 255; omega)
    have c74 : gA s72 74 = upZ (gA s 74) p2.toNat v3 := (q_Aa e72 (by decide)).trans ((F70.2.1 74 (by simp)).trans ((q_AA e67).trans (by rw [F65.2.1 74 (by simp), kk 74 (by decide) (by decide)])))
    have c75 : gA s72 75 = upZ (gA s 75) p2.toNat v4 := (q_AA e72).trans (by rw [F70.2.1 75 (by simp), show gA s67 75 = gA s65 75 from q_Aa e67 (by decide), F65.2.1 75 (by simp), kk 75 (by decide) (by decide)])
    have kj : ∀ k, k ≠ 74 → k ≠ 75 → gA s72 k = gA s52 k := fun k h1 h2 => (q_Aa e72 h2).trans ((F70.2.1 k (by simp)).trans ((q_Aa e67 h1).trans (F65.2.1 k (by simp))))
    have m322 : gI s72 322 = gI s 322 + 4 := by rw [q_Ai e72, a4, q_Ai e67, a3]; omega
    have O72 : OB s s72 p2.toNat := fun q hq hn => ⟨⟨by rw [kj 72 (by decide) (by decide), c72, upZ_n hn], by rw [kj 73 (by decide) (by decide), c73, upZ_n hn], by rw [c74, upZ_n hn], by rw [c75, upZ_n hn]⟩, fun k hk => by rw [kj 76 (by decide) (by decide), kk 76 (by decide) (by decide)]⟩
    have Z : wp (some ((0 : Int), s72)) (fun q => Rg q.2 ∧ OB s q.2 p2.toNat ∧ gI q.2 322 ≤ gI s 322 + 28 ∧ (q.1 = 0 ∨ (q.1 = 1 ∧ LB q.2 p2.toNat p3))) := wp_some ⟨hR72, O72, by show gI s72 322 ≤ _; omega, Or.inl rfl⟩
    refine wp_rdIn (by omega) (fun y73 e73 => ?_)
    have y73e : y73 = v3 := by rw [← e73, c74, upZ_s]
    rw [y73e]
    refine wp_rg (by omega) (wp_if (fun _ => Z) (fun d4 => ?_))
    refine wp_rdIn (by omega) (fun y76 e76 => ?_)
    have y76e : y76 = v3 := by rw [← e76, c74, upZ_s]
    rw [y76e]
    refine wp_rg (by omega) (wp_if (fun _ => Z) (fun d5 => ?_))
    refine wp_rdIn (by omega) (fun y79 e79 => ?_)
    have y79e : y79 = v4 := by rw [← e79, c75, upZ_s]
    rw [y79e]
    refine wp_rg (by omega) (wp_if (fun _ => Z) (fun d6 => ?_))
    refine wp_rdIn (by omega) (fun y82 e82 => ?_)
    have y82e : y82 = v4 := by rw [← e82, c75, upZ_s]
    rw [y82e]
    refine wp_rg (by omega) (wp_rg (by omega) (wp_if (fun d7 => ?_) (fun _ => Z)))
    have L123 : ∀ (n : Nat) (g k : Int) (S : MS), Rg S → (g = 0 ∨ g = 1) → (0 ≤ k ∧ k ≤ v4) → gI S 322 ≤ gI s 322 + 4 + 4 * k → (gA S 72 = gA s72 72 ∧ gA S 73 = gA s72 73 ∧ gA S 74 = gA s72 74 ∧ gA S 75 = gA s72 75) → (∀ q, q < 48 → q ≠ p2.toNat → ∀ j, j < 6 → gA S 76 (6 * q + j) = gA s 76 (6 * q + j)) → (g = 1 → ∀ j : Nat, (j : Int) < k → 0 ≤ gA S 76 (6 * p2.toNat + j) ∧ gA S 76 (6 * p2.toNat + j) ≤ 999) → v4 - k < (n : Int) → wp (m_x4_loadBlock_L123 n p2 g k S) (fun q => Rg q.2 ∧ OB s q.2 p2.toNat ∧ gI q.2 322 ≤ gI s 322 + 28 ∧ (q.1 = 0 ∨ (q.1 = 1 ∧ LB q.2 p2.toNat p3))) := by
      refine fr_ind (fun g k S hRS hg hk h32 hK hO hG hm => by exfalso; omega) (fun n ih g k S hRS hg hk h32 hK hO hG hm => ?_)
      show wp (m_x4_loadBlock_b123 (m_x4_loadBlock_L123 n) p2 g k S) _
      unfold m_x4_loadBlock_b123 m_x4_loadBlock_J201 m_x4_loadBlock_J202
      obtain ⟨k72, k73, k74, k75⟩ := hK
      refine wp_rdIn (by omega) (fun y12 e12 => ?_)
      have y12e : y12 = v4 := by rw [← e12, k75, c75, upZ_s]
      rw [y12e]
      refine wp_rg (by omega) (wp_rg (by omega) (wp_if (fun f1 => ?_) (fun f1 => ?_)))
      · refine wp_bo hg (wp_some ⟨hRS, fun q hq hn => ⟨?_, fun j hj => hO q hq hn j hj⟩, by show gI S 322 ≤ _; omega, ?_⟩)
        · have := (O72 q hq hn).1
          show gA S 72 q = _ ∧ gA S 73 q = _ ∧ gA S 74 q = _ ∧ gA S 75 q = _
          rw [k72, k73, k74, k75]; exact this
        · rcases hg with hg | hg
          · exact Or.inl hg
          · refine Or.inr ⟨hg, ?_⟩
            show LB S p2.toNat p3
            have x72 : gA S 72 p2.toNat = v1 := by rw [k72, kj 72 (by decide) (by decide), c72, upZ_s]
            have x73 : gA S 73 p2.toNat = v2 := by rw [k73, kj 73 (by decide) (by decide), c73, upZ_s]
            have x74 : gA S 74 p2.toNat = v3 := by rw [k74, c74, upZ_s]
            have x75 : gA S 75 p2.toNat = v4 := by rw [k75, c75, upZ_s]
            unfold LB
            rw [x72, x73, x74, x75]
            refine ⟨by omega, Or.inr ⟨by omega, by omega, by omega, fun j hj => hG hg j (by omega)⟩⟩
      · refine wp_bn (w_x4_nextPair hRS (by omega)) (fun q19 e19 h19 => ?_)
        obtain ⟨ke, s19⟩ := q19
        dsimp only at h19 ⊢
        obtain ⟨hR19, b19, a19⟩ := h19
        have F19 : F_x4_nextPair S s19 := fr_x4_nextPair e19
        refine wp_bn (w_x4_nextPair hR19 (by omega)) (fun q22 e22 h22 => ?_)
        obtain ⟨va, s22⟩ := q22
        dsimp only at h22 ⊢
        obtain ⟨hR22, b22, a22⟩ := h22
        have F22 : F_x4_nextPair s19 s22 := fr_x4_nextPair e22
        refine wp_bn (w_x8_slot_v2 hR22) (fun r24 _ h24 => ?_)
        refine wp_inb (by omega) (wp_stn (fun s26 e26 => ?_))
        have hR26 : Rg s26 := e26 ▸ Rg.uAu hR22 (by show (-257 : Int) ≤ ke ∧ ke ≤ 65535; omega)
        refine wp_bn (w_x8_slot_v2 hR26) (fun r28 _ h28 => ?_)
        refine wp_inb (by omega) (wp_stn (fun s30 e30 => ?_))
        have hR30 : Rg s30 := e30 ▸ Rg.uAu hR26 (by show (-257 : Int) ≤ va ∧ va ≤ 65535; omega)
        have g76 : gA s30 76 = upZ (gA S 76) (6 * p2.toNat + k.toNat) ke := (q_Aa e30 (by decide)).trans ((q_AA e26).trans (by rw [F22.2.1 76 (by simp), F19.2.1 76 (by simp), show r24.toNat = 6 * p2.toNat + k.toNat by omega]))
        have kq : ∀ k', k' ≠ 76 → k' ≠ 77 → gA s30 k' = gA S k' := fun k' h1 h2 => (q_Aa e30 h2).trans ((q_Aa e26 h1).trans ((F22.2.1 k' (by simp)).trans (F19.2.1 k' (by simp))))
        have t322 : gI s30 322 = gI S 322 + 4 := by rw [q_Ai e30, q_Ai e26, a22, a19]; omega
        have K30 : gA s30 72 = gA s72 72 ∧ gA s30 73 = gA s72 73 ∧ gA s30 74 = gA s72 74 ∧ gA s30 75 = gA s72 75 := ⟨(kq 72 (by decide) (by decide)).trans k72, (kq 73 (by decide) (by decide)).trans k73, (kq 74 (by decide) (by decide)).trans k74, (kq 75 (by decide) (by decide)).trans k75⟩
        have O30 : ∀ q, q < 48 → q ≠ p2.toNat → ∀ j, j < 6 → gA s30 76 (6 * q + j) = gA s 76 (6 * q + j) := fun q hq hn j hj => by
          rw [g76, upZ_n (by omega)]; exact hO q hq hn j hj
        have B0 : wp (m_x4_loadBlock_L123 n p2 0 (k + 1) s30) (fun q => Rg q.2 ∧ OB s q.2 p2.toNat ∧ gI q.2 322 ≤ gI s 322 + 28 ∧ (q.1 = 0 ∨ (q.1 = 1 ∧ LB q.2 p2.toNat p3))) := ih 0 (k + 1) s30 hR30 (Or.inl rfl) (by omega) (by omega) K30 O30 (fun q => absurd q (by omega)) (by omega)
        refine wp_rg (by omega) (wp_if (fun _ => B0) (fun f2 => ?_))
        refine wp_bn (w_x11_isKey hR30 (by omega)) (fun r34 e34 h34 => wp_rg (by omega) (wp_if (fun _ => B0) (fun f3 => ?_)))
        refine wp_bn (w_x11_isKey hR30 (by omega)) (fun r38 e38 h38 => wp_rg (by omega) (wp_if (fun _ => B0) (fun f4 => ?_)))
        refine ih 1 (k + 1) s30 hR30 (Or.inr rfl) (by omega) (by omega) K30 O30 (fun _ j hj => ?_) (by omega)
        rw [g76]
        by_cases z : j = k.toNat
        · rw [z, upZ_s]; omega
        · rw [upZ_n (by omega)]; exact hG (by omega) j (by omega)
    refine L123 FU 1 0 s72 hR72 (Or.inr rfl) (by omega) (by omega) ⟨rfl, rfl, rfl, rfl⟩ (fun q hq hn j hj => (O72 q hq hn).2 j hj) (fun _ j hj => absurd hj (by omega)) (by have := FU_big; omega)
  · refine wp_some ⟨hR52, O52, by show gI s52 322 ≤ _; omega, Or.inr ⟨rfl, ?_⟩⟩
    show LB s52 p2.toNat p3
    unfold LB
    rw [c72, c73, upZ_s, upZ_s, kk 75 (by decide) (by decide)]
    exact ⟨by omega, Or.inl ⟨by omega, by omega, hz⟩⟩
/-- what the blocks of an image must be, ahead of the counts -/
def HY (s : MS) (c r : Nat) : Prop := (∀ p : Nat, p < 48 → gI s 1420 ≤ (p : Int) → gA s c p = 0) ∧ (∀ p : Nat, p < 48 → 0 < gA s c p → 0 < gA s 74 p → (0 ≤ gA s 75 p ∧ gA s 75 p ≤ 6) ∧ ∀ k : Nat, (k : Int) < gA s 75 p → 0 ≤ gA s 77 (6 * p + k) ∧ gA s 77 (6 * p + k) < gI s 1420) ∧ (∀ v : Nat, v < 8 → gA s r v < gI s 1420)
set_option maxHeartbeats 1000000 in
theorem w_refsAre {s : MS} (hR : Rg s) (hY : HY s 72 78) : wp (m_x4_refsAre s) (fun q => Rg q.2 ∧ (q.1 = 0 ∨ (q.1 = 1 ∧ ∀ x : Nat, (x : Int) < gI s 1420 → gA s 72 x = rf (hJ s) (gA s 72) (gA s 78) (x : Int)))) := by
  have n48 : (0 : Int) ≤ gI s 1420 ∧ gI s 1420 ≤ 48 := hR.1 1420
  have ks : ∀ S : MS, (∀ k, k ≠ 20 → gA S k = gA s k) → (∀ k, gI S k = gI s k) → True := fun _ _ _ => trivial
  have L151 : ∀ (n : Nat) (i : Int) (S : MS), Rg S → (∀ k, k ≠ 20 → gA S k = gA s k) → gI S 1420 = gI s 1420 → (0 ≤ i ∧ i ≤ gI s 1420) → (∀ x : Nat, (x : Int) < gI s 1420 → gA S 20 x = rf (hJ s) (gA s 72) (gA s 78) (x : Int)) → (∀ x : Nat, (x : Int) < i → gA s 72 x = rf (hJ s) (gA s 72) (gA s 78) (x : Int)) → gI s 1420 - i < (n : Int) → wp (m_x4_refsAre_L151 n i S) (fun q => Rg q.2 ∧ (q.1 = 0 ∨ (q.1 = 1 ∧ ∀ x : Nat, (x : Int) < gI s 1420 → gA s 72 x = rf (hJ s) (gA s 72) (gA s 78) (x : Int)))) := by
    refine fr_ind (fun i S hRS hA hI hi hF hG hm => by exfalso; omega) (fun n ih i S hRS hA hI hi hF hG hm => ?_)
    show wp (m_x4_refsAre_b151 (m_x4_refsAre_L151 n) i S) _
    unfold m_x4_refsAre_b151
    refine wp_rg (by omega) (wp_rg (by omega) (wp_if (fun c1 => wp_some ⟨hRS, Or.inr ⟨rfl, fun x hx => hG x (by omega)⟩⟩) (fun c1 => ?_)))
    refine wp_rdIn (by omega) (fun y6 e6 => ?_)
    refine wp_rdIn (by omega) (fun y7 e7 => ?_)
    have rl := rf_le (hJ s) (gA s 72) (gA s 78) ((i.toNat : Nat) : Int)
    have rn := rf_nn (hJ s) (gA s 72) (gA s 78) ((i.toNat : Nat) : Int)
    rw [hF i.toNat (by omega)] at e6
    have r7 := hRS.2.1 72 i.toNat (by show _ < 48; omega)
    rw [e7] at r7
    have r7' : (-1 : Int) ≤ y7 ∧ y7 ≤ 100000 := r7
    rw [hA 72 (by decide)] at e7
    refine wp_rg (by omega) (wp_rg (by omega) (wp_if (fun c2 => ?_) (fun _ => wp_some ⟨hRS, Or.inl rfl⟩)))
    refine ih (i + 1) S hRS hA hI (by omega) hF (fun x hx => ?_) (by omega)
    by_cases z : x = i.toNat
    · rw [z, e6, e7, c2]
    · exact hG x (by omega)
  have L65 : ∀ (n : Nat) (b : Int) (S : MS), Rg S → (∀ k, k ≠ 20 → gA S k = gA s k) → gI S 1420 = gI s 1420 → (0 ≤ b ∧ b ≤ gI s 1420) → (∀ x : Nat, (x : Int) < gI s 1420 → gA S 20 x = rr (gA s 78) (x : Int) + sm b.toNat (fun p => if 0 < gA s 72 p then en (hJ s) p (x : Int) else 0)) → gI s 1420 - b < (n : Int) → wp (m_x4_refsAre_L65 n b S) (fun q => Rg q.2 ∧ (q.1 = 0 ∨ (q.1 = 1 ∧ ∀ x : Nat, (x : Int) < gI s 1420 → gA s 72 x = rf (hJ s) (gA s 72) (gA s 78) (x : Int)))) := by
    refine fr_ind (fun b S hRS hA hI hb hF hm => by exfalso; omega) (fun n ih b S hRS hA hI hb hF hm => ?_)
    show wp (m_x4_refsAre_b65 (m_x4_refsAre_L65 n) b S) _
    unfold m_x4_refsAre_b65 m_x4_refsAre_J101 m_x4_refsAre_J102
    refine wp_rg (by omega) (wp_rg (by omega) (wp_if (fun c1 => ?_) (fun c1 => ?_)))
    · refine L151 FU 0 S hRS hA hI (by omega) (fun x hx => ?_) (fun x hx => absurd hx (by omega)) (by have := FU_big; omega)
      rw [hF x hx]
      unfold rf
      rw [sm_tail (a := b.toNat) (n := 48) (f := fun p => if 0 < gA s 72 p then en (hJ s) p (x : Int) else 0) (by omega) (fun p h1 h2 => if_neg (by rw [hY.1 p h2 (by omega)]; omega))]
    have stp : ∀ x : Nat, sm (b + 1).toNat (fun p => if 0 < gA s 72 p then en (hJ s) p (x : Int) else 0) = sm b.toNat (fun p => if 0 < gA s 72 p then en (hJ s) p (x : Int) else 0) + (if 0 < gA s 72 b.toNat then en (hJ s) b.toNat (x : Int) else 0) := fun x => by
      rw [show (b + 1).toNat = b.toNat + 1 by omega]; rfl
    have L107 : ∀ (m : Nat) (e k : Int) (S : MS), Rg S → (∀ k, k ≠ 20 → gA S k = gA s k) → gI S 1420 = gI s 1420 → ((e = 0 ∧ ∀ x : Nat, (if 0 < gA s 72 b.toNat then en (hJ s) b.toNat (x : Int) else 0) = 0) ∨ (0 < gA s 72 b.toNat ∧ 0 < gA s 74 b.toNat ∧ e = gA s 75 b.toNat)) → (0 ≤ k ∧ k ≤ e) → (∀ x : Nat, (x : Int) < gI s 1420 → gA S 20 x = rr (gA s 78) (x : Int) + sm b.toNat (fun p => if 0 < gA s 72 p then en (hJ s) p (x : Int) else 0) + (en (hJ s) b.toNat (x : Int) - enf (hJ s) b.toNat k (x : Int))) → e - k < (m : Int) → wp (m_x4_refsAre_L107 (m_x4_refsAre_L65 n) m b e k S) (fun q => Rg q.2 ∧ (q.1 = 0 ∨ (q.1 = 1 ∧ ∀ x : Nat, (x : Int) < gI s 1420 → gA s 72 x = rf (hJ s) (gA s 72) (gA s 78) (x : Int)))) := by
      refine fr_ind (fun e k S hRS hA hI he hk hF hm => by exfalso; omega) (fun m ihm e k S hRS hA hI he hk hF hm2 => ?_)
      show wp (m_x4_refsAre_b107 (m_x4_refsAre_L65 n) (m_x4_refsAre_L107 (m_x4_refsAre_L65 n) m) b e k S) _
      unfold m_x4_refsAre_b107
      have e6 : 0 ≤ e ∧ e ≤ 6 := by
        rcases he with he | he
        · omega
        · have := (hY.2.1 b.toNat (by omega) he.1 he.2.1).1; omega
      refine wp_rg (by omega) (wp_rg (by omega) (wp_if (fun c2 => ?_) (fun c2 => ?_)))
      · refine ih (b + 1) S hRS hA hI (by omega) (fun x hx => ?_) (by omega)
        rw [hF x hx, stp x]
        rcases he with he | he
        · rw [he.2 x, show k = 0 by omega]
          show _ + (en (hJ s) b.toNat (x : Int) - en (hJ s) b.toNat (x : Int)) = _
          omega
        · rw [if_pos he.1, enf_end (by show gA s 75 b.toNat ≤ k; omega)]; omega
      · rcases he with he | he
        · omega
        have hy := hY.2.1 b.toNat (by omega) he.1 he.2.1
        have hv := hy.2 k.toNat (by omega)
        refine wp_bn (w_x8_slot_v2 hRS) (fun r21 _ h21 => ?_)
        refine wp_rdIn (by omega) (fun y22 e22 => ?_)
        rw [hA 77 (by decide), show r21.toNat = 6 * b.toNat + k.toNat by omega] at e22
        rw [e22] at hv
        refine wp_rdIn (by omega) (fun y23 e23 => ?_)
        have f1 := hF y22.toNat (by omega)
        rw [e23] at f1
        have a1 : rr (gA s 78) ((y22.toNat : Nat) : Int) ≤ 8 := by
          have := sm_bd (n := 8) (c := 1) (f := fun v : Nat => if gA s 78 v = ((y22.toNat : Nat) : Int) then (1 : Int) else 0) (fun v _ => by split <;> omega)
          unfold rr; omega
        have a2 := rr_nn (gA s 78) ((y22.toNat : Nat) : Int)
        have a3 : sm b.toNat (fun p => if 0 < gA s 72 p then en (hJ s) p ((y22.toNat : Nat) : Int) else 0) ≤ ((b.toNat : Nat) : Int) * 6 := sm_bd (fun p _ => by
          show (if 0 < gA s 72 p then en (hJ s) p ((y22.toNat : Nat) : Int) else 0) ≤ 6
          split
          · exact en_le _ _ _
          · omega)
        have a4 : 0 ≤ sm b.toNat (fun p => if 0 < gA s 72 p then en (hJ s) p ((y22.toNat : Nat) : Int) else 0) := sm_nn (fun p _ => by
          show 0 ≤ (if 0 < gA s 72 p then en (hJ s) p ((y22.toNat : Nat) : Int) else 0)
          split
          · exact en_nn _ _ _
          · omega)
        have a5 := en_le (hJ s) b.toNat ((y22.toNat : Nat) : Int)
        have a6 := en_nn (hJ s) b.toNat ((y22.toNat : Nat) : Int)
        have a7 := enf_nn (hJ s) b.toNat k ((y22.toNat : Nat) : Int)
        have a8 : enf (hJ s) b.toNat k ((y22.toNat : Nat) : Int) ≤ 6 := by
          unfold enf
          split
          · have := sm_bd (n := 6) (c := 1) (f := fun j : Nat => if k ≤ (j : Int) ∧ (j : Int) < (hJ s).2.1 b.toNat ∧ (hJ s).2.2 b.toNat j = ((y22.toNat : Nat) : Int) then (1 : Int) else 0) (fun j _ => by split <;> omega)
            omega
          · omega
        refine wp_inb (by omega) (wp_stn (fun s25 e25 => ?_))
        have hR25 : Rg s25 := e25 ▸ Rg.uAu hRS (by show (-2147483648 : Int) ≤ y23 + 1 ∧ y23 + 1 ≤ 2147483647; omega)
        have g20 : gA s25 20 = upZ (gA S 20) y22.toNat (y23 + 1) := q_AA e25
        refine ihm e (k + 1) s25 hR25 (fun k' hk' => (q_Aa e25 hk').trans (hA k' hk')) ((q_Ai e25).trans hI) (Or.inr he) (by omega) (fun x hx => ?_) (by omega)
        have st := enf_step (h := hJ s) (p := b.toNat) (k := k.toNat) (x := (x : Int)) he.2.1 (by show ((k.toNat : Nat) : Int) < gA s 75 b.toNat; omega) (by omega)
        rw [show ((k.toNat : Nat) : Int) = k by omega, show (hJ s).2.2 b.toNat k.toNat = y22 from e22] at st
        rw [g20]
        by_cases z : x = y22.toNat
        · rw [z, upZ_s]
          rw [z, if_pos (show y22 = ((y22.toNat : Nat) : Int) by omega)] at st
          omega
        · rw [upZ_n z, hF x hx]
          rw [if_neg (show ¬ y22 = (x : Int) by omega)] at st
          omega
    have base : ∀ x : Nat, (x : Int) < gI s 1420 → gA S 20 x = rr (gA s 78) (x : Int) + sm b.toNat (fun p => if 0 < gA s 72 p then en (hJ s) p (x : Int) else 0) + (en (hJ s) b.toNat (x : Int) - enf (hJ s) b.toNat 0 (x : Int)) := fun x hx => by
      rw [hF x hx]
      show _ = _ + (en (hJ s) b.toNat (x : Int) - en (hJ s) b.toNat (x : Int))
      omega
    refine wp_rdIn (by omega) (fun y34 e34 => ?_)
    have r34 := hRS.2.1 72 b.toNat (by show _ < 48; omega)
    rw [e34] at r34
    have r34' : (-1 : Int) ≤ y34 ∧ y34 ≤ 100000 := r34
    rw [hA 72 (by decide)] at e34
    refine wp_rg (by omega) (wp_if (fun c2 => L107 FU 0 0 S hRS hA hI (Or.inl ⟨rfl, fun x => if_neg (by omega)⟩) (by omega) base (by have := FU_big; omega)) (fun c2 => ?_))
    refine wp_rdIn (by omega) (fun y37 e37 => ?_)
    have r37 := hRS.2.1 74 b.toNat (by show _ < 48; omega)
    rw [e37] at r37
    have r37' : (-1 : Int) ≤ y37 ∧ y37 ≤ 1000 := r37
    rw [hA 74 (by decide)] at e37
    refine wp_rg (by omega) (wp_if (fun c3 => L107 FU 0 0 S hRS hA hI (Or.inl ⟨rfl, fun x => by rw [if_pos (by omega), en_leaf (by show gA s 74 b.toNat ≤ 0; omega)]⟩) (by omega) base (by have := FU_big; omega)) (fun c3 => ?_))
    refine wp_rdIn (by omega) (fun y40 e40 => ?_)
    rw [hA 75 (by decide)] at e40
    have hy := (hY.2.1 b.toNat (by omega) (by omega) (by omega)).1
    exact L107 FU y40 0 S hRS hA hI (Or.inr ⟨by omega, by omega, e40.symm⟩) (by omega) base (by have := FU_big; omega)
  have L29 : ∀ (n : Nat) (v : Int) (S : MS), Rg S → (∀ k, k ≠ 20 → gA S k = gA s k) → gI S 1420 = gI s 1420 → (0 ≤ v ∧ v ≤ 8) → (∀ x : Nat, (x : Int) < gI s 1420 → gA S 20 x = sm v.toNat (fun w => if gA s 78 w = (x : Int) then 1 else 0)) → 8 - v < (n : Int) → wp (m_x4_refsAre_L29 n v S) (fun q => Rg q.2 ∧ (q.1 = 0 ∨ (q.1 = 1 ∧ ∀ x : Nat, (x : Int) < gI s 1420 → gA s 72 x = rf (hJ s) (gA s 72) (gA s 78) (x : Int)))) := by
    refine fr_ind (fun v S hRS hA hI hv hF hm => by exfalso; omega) (fun n ih v S hRS hA hI hv hF hm => ?_)
    show wp (m_x4_refsAre_b29 (m_x4_refsAre_L29 n) v S) _
    unfold m_x4_refsAre_b29 m_x4_refsAre_J56
    refine wp_rg (by omega) (wp_if (fun c1 => ?_) (fun c1 => ?_))
    · refine L65 FU 0 S hRS hA hI (by omega) (fun x hx => ?_) (by have := FU_big; omega)
      rw [hF x hx, show v.toNat = 8 by omega]
      show rr (gA s 78) (x : Int) = rr (gA s 78) (x : Int) + 0
      omega
    have stp : ∀ x : Nat, sm (v + 1).toNat (fun w => if gA s 78 w = (x : Int) then (1 : Int) else 0) = sm v.toNat (fun w => if gA s 78 w = (x : Int) then 1 else 0) + (if gA s 78 v.toNat = (x : Int) then 1 else 0) := fun x => by
      rw [show (v + 1).toNat = v.toNat + 1 by omega]; rfl
    have ro := hY.2.2 v.toNat (by omega)
    refine wp_rdIn (by omega) (fun y47 e47 => ?_)
    have r47 := hRS.2.1 78 v.toNat (by show _ < 8; omega)
    rw [e47] at r47
    have r47' : (-2 : Int) ≤ y47 ∧ y47 ≤ 253 := r47
    rw [hA 78 (by decide)] at e47
    rw [e47] at ro stp
    refine wp_rg (by omega) (wp_if (fun c2 => ?_) (fun c2 => ?_))
    · refine ih (v + 1) S hRS hA hI (by omega) (fun x hx => ?_) (by omega)
      rw [hF x hx, stp x, if_neg (by omega)]; omega
    refine wp_rdIn (by omega) (fun y50 e50 => ?_)
    rw [hA 78 (by decide), e47] at e50
    have y50e : y50 = y47 := e50.symm
    rw [y50e]
    refine wp_rdIn (by omega) (fun y51 e51 => ?_)
    have f1 := hF y47.toNat (by omega)
    rw [e51] at f1
    have a1 : sm v.toNat (fun w => if gA s 78 w = ((y47.toNat : Nat) : Int) then (1 : Int) else 0) ≤ ((v.toNat : Nat) : Int) * 1 := sm_bd (fun w _ => by
      show (if gA s 78 w = ((y47.toNat : Nat) : Int) then (1 : Int) else 0) ≤ 1
      split <;> omega)
    have a2 : 0 ≤ sm v.toNat (fun w => if gA s 78 w = ((y47.toNat : Nat) : Int) then (1 : Int) else 0) := sm_nn (fun w _ => by
      show 0 ≤ (if gA s 78 w = ((y47.toNat : Nat) : Int) then (1 : Int) else 0)
      split <;> omega)
    refine wp_inb (by omega) (wp_stn (fun s53 e53 => ?_))
    have hR53 : Rg s53 := e53 ▸ Rg.uAu hRS (by show (-2147483648 : Int) ≤ y51 + 1 ∧ y51 + 1 ≤ 2147483647; omega)
    refine ih (v + 1) s53 hR53 (fun k hk => (q_Aa e53 hk).trans (hA k hk)) ((q_Ai e53).trans hI) (by omega) (fun x hx => ?_) (by omega)
    rw [q_AA e53, stp x]
    by_cases z : x = y47.toNat
    · rw [z, upZ_s, if_pos (show y47 = ((y47.toNat : Nat) : Int) by omega), f1]
    · rw [upZ_n z, hF x hx, if_neg (show ¬ y47 = (x : Int) by omega)]; omega
  have L3 : ∀ (n : Nat) (i : Int) (S : MS), Rg S → (∀ k, k ≠ 20 → gA S k = gA s k) → gI S 1420 = gI s 1420 → (0 ≤ i ∧ i ≤ gI s 1420) → (∀ x : Nat, (x : Int) < i → gA S 20 x = 0) → gI s 1420 - i < (n : Int) → wp (m_x4_refsAre_L3 n i S) (fun q => Rg q.2 ∧ (q.1 = 0 ∨ (q.1 = 1 ∧ ∀ x : Nat, (x : Int) < gI s 1420 → gA s 72 x = rf (hJ s) (gA s 72) (gA s 78) (x : Int)))) := by
    refine fr_ind (fun i S hRS hA hI hi hF hm => by exfalso; omega) (fun n ih i S hRS hA hI hi hF hm => ?_)
    show wp (m_x4_refsAre_b3 (m_x4_refsAre_L3 n) i S) _
    unfold m_x4_refsAre_b3
    refine wp_rg (by omega) (wp_rg (by omega) (wp_if (fun c1 => ?_) (fun c1 => ?_)))
    · exact L29 FU 0 S hRS hA hI (by omega) (fun x hx => hF x (by omega)) (by have := FU_big; omega)
    · refine wp_inb (by omega) (wp_stn (fun s60 e60 => ?_))
      have hR60 : Rg s60 := e60 ▸ Rg.uAu hRS (by show (-2147483648 : Int) ≤ 0 ∧ (0 : Int) ≤ 2147483647; omega)
      refine ih (i + 1) s60 hR60 (fun k hk => (q_Aa e60 hk).trans (hA k hk)) ((q_Ai e60).trans hI) (by omega) (fun x hx => ?_) (by omega)
      rw [q_AA e60]
      by_cases z : x = i.toNat
      · rw [z, upZ_s]
      · rw [upZ_n z]; exact hF x (by omega)
  exact L3 FU 0 s hR (fun _ _ => rfl) rfl (by omega) (fun x hx => absurd hx (by omega)) (by have := FU_big; omega)
set_option maxHeartbeats 1000000 in
theorem w_refsAre_v2 {s : MS} (hR : Rg s) (hY : HY s 73 79) : wp (m_x4_refsAre_v2 s) (fun q => Rg q.2 ∧ (q.1 = 0 ∨ (q.1 = 1 ∧ ∀ x : Nat, (x : Int) < gI s 1420 → gA s 73 x = rf (hJ s) (gA s 73) (gA s 79) (x : Int)))) := by
  have n48 : (0 : Int) ≤ gI s 1420 ∧ gI s 1420 ≤ 48 := hR.1 1420
  have ks : ∀ S : MS, (∀ k, k ≠ 20 → gA S k = gA s k) → (∀ k, gI S k = gI s k) → True := fun _ _ _ => trivial
  have L151 : ∀ (n : Nat) (i : Int) (S : MS), Rg S → (∀ k, k ≠ 20 → gA S k = gA s k) → gI S 1420 = gI s 1420 → (0 ≤ i ∧ i ≤ gI s 1420) → (∀ x : Nat, (x : Int) < gI s 1420 → gA S 20 x = rf (hJ s) (gA s 73) (gA s 79) (x : Int)) → (∀ x : Nat, (x : Int) < i → gA s 73 x = rf (hJ s) (gA s 73) (gA s 79) (x : Int)) → gI s 1420 - i < (n : Int) → wp (m_x4_refsAre_v2_L151 n i S) (fun q => Rg q.2 ∧ (q.1 = 0 ∨ (q.1 = 1 ∧ ∀ x : Nat, (x : Int) < gI s 1420 → gA s 73 x = rf (hJ s) (gA s 73) (gA s 79) (x : Int)))) := by
    refine fr_ind (fun i S hRS hA hI hi hF hG hm => by exfalso; omega) (fun n ih i S hRS hA hI hi hF hG hm => ?_)
    show wp (m_x4_refsAre_v2_b151 (m_x4_refsAre_v2_L151 n) i S) _
    unfold m_x4_refsAre_v2_b151
    refine wp_rg (by omega) (wp_rg (by omega) (wp_if (fun c1 => wp_some ⟨hRS, Or.inr ⟨rfl, fun x hx => hG x (by omega)⟩⟩) (fun c1 => ?_)))
    refine wp_rdIn (by omega) (fun y6 e6 => ?_)
    refine wp_rdIn (by omega) (fun y7 e7 => ?_)
    have rl := rf_le (hJ s) (gA s 73) (gA s 79) ((i.toNat : Nat) : Int)
    have rn := rf_nn (hJ s) (gA s 73) (gA s 79) ((i.toNat : Nat) : Int)
    rw [hF i.toNat (by omega)] at e6
    have r7 := hRS.2.1 73 i.toNat (by show _ < 48; omega)
    rw [e7] at r7
    have r7' : (-1 : Int) ≤ y7 ∧ y7 ≤ 100000 := r7
    rw [hA 73 (by decide)] at e7
    refine wp_rg (by omega) (wp_rg (by omega) (wp_if (fun c2 => ?_) (fun _ => wp_some ⟨hRS, Or.inl rfl⟩)))
    refine ih (i + 1) S hRS hA hI (by omega) hF (fun x hx => ?_) (by omega)
    by_cases z : x = i.toNat
    · rw [z, e6, e7, c2]
    · exact hG x (by omega)
  have L65 : ∀ (n : Nat) (b : Int) (S : MS), Rg S → (∀ k, k ≠ 20 → gA S k = gA s k) → gI S 1420 = gI s 1420 → (0 ≤ b ∧ b ≤ gI s 1420) → (∀ x : Nat, (x : Int) < gI s 1420 → gA S 20 x = rr (gA s 79) (x : Int) + sm b.toNat (fun p => if 0 < gA s 73 p then en (hJ s) p (x : Int) else 0)) → gI s 1420 - b < (n : Int) → wp (m_x4_refsAre_v2_L65 n b S) (fun q => Rg q.2 ∧ (q.1 = 0 ∨ (q.1 = 1 ∧ ∀ x : Nat, (x : Int) < gI s 1420 → gA s 73 x = rf (hJ s) (gA s 73) (gA s 79) (x : Int)))) := by
    refine fr_ind (fun b S hRS hA hI hb hF hm => by exfalso; omega) (fun n ih b S hRS hA hI hb hF hm => ?_)
    show wp (m_x4_refsAre_v2_b65 (m_x4_refsAre_v2_L65 n) b S) _
    unfold m_x4_refsAre_v2_b65 m_x4_refsAre_v2_J101 m_x4_refsAre_v2_J102
    refine wp_rg (by omega) (wp_rg (by omega) (wp_if (fun c1 => ?_) (fun c1 => ?_)))
    · refine L151 FU 0 S hRS hA hI (by omega) (fun x hx => ?_) (fun x hx => absurd hx (by omega)) (by have := FU_big; omega)
      rw [hF x hx]
      unfold rf
      rw [sm_tail (a := b.toNat) (n := 48) (f := fun p => if 0 < gA s 73 p then en (hJ s) p (x : Int) else 0) (by omega) (fun p h1 h2 => if_neg (by rw [hY.1 p h2 (by omega)]; omega))]
    have stp : ∀ x : Nat, sm (b + 1).toNat (fun p => if 0 < gA s 73 p then en (hJ s) p (x : Int) else 0) = sm b.toNat (fun p => if 0 < gA s 73 p then en (hJ s) p (x : Int) else 0) + (if 0 < gA s 73 b.toNat then en (hJ s) b.toNat (x : Int) else 0) := fun x => by
      rw [show (b + 1).toNat = b.toNat + 1 by omega]; rfl
    have L107 : ∀ (m : Nat) (e k : Int) (S : MS), Rg S → (∀ k, k ≠ 20 → gA S k = gA s k) → gI S 1420 = gI s 1420 → ((e = 0 ∧ ∀ x : Nat, (if 0 < gA s 73 b.toNat then en (hJ s) b.toNat (x : Int) else 0) = 0) ∨ (0 < gA s 73 b.toNat ∧ 0 < gA s 74 b.toNat ∧ e = gA s 75 b.toNat)) → (0 ≤ k ∧ k ≤ e) → (∀ x : Nat, (x : Int) < gI s 1420 → gA S 20 x = rr (gA s 79) (x : Int) + sm b.toNat (fun p => if 0 < gA s 73 p then en (hJ s) p (x : Int) else 0) + (en (hJ s) b.toNat (x : Int) - enf (hJ s) b.toNat k (x : Int))) → e - k < (m : Int) → wp (m_x4_refsAre_v2_L107 (m_x4_refsAre_v2_L65 n) m b e k S) (fun q => Rg q.2 ∧ (q.1 = 0 ∨ (q.1 = 1 ∧ ∀ x : Nat, (x : Int) < gI s 1420 → gA s 73 x = rf (hJ s) (gA s 73) (gA s 79) (x : Int)))) := by
      refine fr_ind (fun e k S hRS hA hI he hk hF hm => by exfalso; omega) (fun m ihm e k S hRS hA hI he hk hF hm2 => ?_)
      show wp (m_x4_refsAre_v2_b107 (m_x4_refsAre_v2_L65 n) (m_x4_refsAre_v2_L107 (m_x4_refsAre_v2_L65 n) m) b e k S) _
      unfold m_x4_refsAre_v2_b107
      have e6 : 0 ≤ e ∧ e ≤ 6 := by
        rcases he with he | he
        · omega
        · have := (hY.2.1 b.toNat (by omega) he.1 he.2.1).1; omega
      refine wp_rg (by omega) (wp_rg (by omega) (wp_if (fun c2 => ?_) (fun c2 => ?_)))
      · refine ih (b + 1) S hRS hA hI (by omega) (fun x hx => ?_) (by omega)
        rw [hF x hx, stp x]
        rcases he with he | he
        · rw [he.2 x, show k = 0 by omega]
          show _ + (en (hJ s) b.toNat (x : Int) - en (hJ s) b.toNat (x : Int)) = _
          omega
        · rw [if_pos he.1, enf_end (by show gA s 75 b.toNat ≤ k; omega)]; omega
      · rcases he with he | he
        · omega
        have hy := hY.2.1 b.toNat (by omega) he.1 he.2.1
        have hv := hy.2 k.toNat (by omega)
        refine wp_bn (w_x8_slot_v2 hRS) (fun r21 _ h21 => ?_)
        refine wp_rdIn (by omega) (fun y22 e22 => ?_)
        rw [hA 77 (by decide), show r21.toNat = 6 * b.toNat + k.toNat by omega] at e22
        rw [e22] at hv
        refine wp_rdIn (by omega) (fun y23 e23 => ?_)
        have f1 := hF y22.toNat (by omega)
        rw [e23] at f1
        have a1 : rr (gA s 79) ((y22.toNat : Nat) : Int) ≤ 8 := by
          have := sm_bd (n := 8) (c := 1) (f := fun v : Nat => if gA s 79 v = ((y22.toNat : Nat) : Int) then (1 : Int) else 0) (fun v _ => by split <;> omega)
          unfold rr; omega
        have a2 := rr_nn (gA s 79) ((y22.toNat : Nat) : Int)
        have a3 : sm b.toNat (fun p => if 0 < gA s 73 p then en (hJ s) p ((y22.toNat : Nat) : Int) else 0) ≤ ((b.toNat : Nat) : Int) * 6 := sm_bd (fun p _ => by
          show (if 0 < gA s 73 p then en (hJ s) p ((y22.toNat : Nat) : Int) else 0) ≤ 6
          split
          · exact en_le _ _ _
          · omega)
        have a4 : 0 ≤ sm b.toNat (fun p => if 0 < gA s 73 p then en (hJ s) p ((y22.toNat : Nat) : Int) else 0) := sm_nn (fun p _ => by
          show 0 ≤ (if 0 < gA s 73 p then en (hJ s) p ((y22.toNat : Nat) : Int) else 0)
          split
          · exact en_nn _ _ _
          · omega)
        have a5 := en_le (hJ s) b.toNat ((y22.toNat : Nat) : Int)
        have a6 := en_nn (hJ s) b.toNat ((y22.toNat : Nat) : Int)
        have a7 := enf_nn (hJ s) b.toNat k ((y22.toNat : Nat) : Int)
        have a8 : enf (hJ s) b.toNat k ((y22.toNat : Nat) : Int) ≤ 6 := by
          unfold enf
          split
          · have := sm_bd (n := 6) (c := 1) (f := fun j : Nat => if k ≤ (j : Int) ∧ (j : Int) < (hJ s).2.1 b.toNat ∧ (hJ s).2.2 b.toNat j = ((y22.toNat : Nat) : Int) then (1 : Int) else 0) (fun j _ => by split <;> omega)
            omega
          · omega
        refine wp_inb (by omega) (wp_stn (fun s25 e25 => ?_))
        have hR25 : Rg s25 := e25 ▸ Rg.uAu hRS (by show (-2147483648 : Int) ≤ y23 + 1 ∧ y23 + 1 ≤ 2147483647; omega)
        have g20 : gA s25 20 = upZ (gA S 20) y22.toNat (y23 + 1) := q_AA e25
        refine ihm e (k + 1) s25 hR25 (fun k' hk' => (q_Aa e25 hk').trans (hA k' hk')) ((q_Ai e25).trans hI) (Or.inr he) (by omega) (fun x hx => ?_) (by omega)
        have st := enf_step (h := hJ s) (p := b.toNat) (k := k.toNat) (x := (x : Int)) he.2.1 (by show ((k.toNat : Nat) : Int) < gA s 75 b.toNat; omega) (by omega)
        rw [show ((k.toNat : Nat) : Int) = k by omega, show (hJ s).2.2 b.toNat k.toNat = y22 from e22] at st
        rw [g20]
        by_cases z : x = y22.toNat
        · rw [z, upZ_s]
          rw [z, if_pos (show y22 = ((y22.toNat : Nat) : Int) by omega)] at st
          omega
        · rw [upZ_n z, hF x hx]
          rw [if_neg (show ¬ y22 = (x : Int) by omega)] at st
          omega
    have base : ∀ x : Nat, (x : Int) < gI s 1420 → gA S 20 x = rr (gA s 79) (x : Int) + sm b.toNat (fun p => if 0 < gA s 73 p then en (hJ s) p (x : Int) else 0) + (en (hJ s) b.toNat (x : Int) - enf (hJ s) b.toNat 0 (x : Int)) := fun x hx => by
      rw [hF x hx]
      show _ = _ + (en (hJ s) b.toNat (x : Int) - en (hJ s) b.toNat (x : Int))
      omega
    refine wp_rdIn (by omega) (fun y34 e34 => ?_)
    have r34 := hRS.2.1 73 b.toNat (by show _ < 48; omega)
    rw [e34] at r34
    have r34' : (-1 : Int) ≤ y34 ∧ y34 ≤ 100000 := r34
    rw [hA 73 (by decide)] at e34
    refine wp_rg (by omega) (wp_if (fun c2 => L107 FU 0 0 S hRS hA hI (Or.inl ⟨rfl, fun x => if_neg (by omega)⟩) (by omega) base (by have := FU_big; omega)) (fun c2 => ?_))
    refine wp_rdIn (by omega) (fun y37 e37 => ?_)
    have r37 := hRS.2.1 74 b.toNat (by show _ < 48; omega)
    rw [e37] at r37
    have r37' : (-1 : Int) ≤ y37 ∧ y37 ≤ 1000 := r37
    rw [hA 74 (by decide)] at e37
    refine wp_rg (by omega) (wp_if (fun c3 => L107 FU 0 0 S hRS hA hI (Or.inl ⟨rfl, fun x => by rw [if_pos (by omega), en_leaf (by show gA s 74 b.toNat ≤ 0; omega)]⟩) (by omega) base (by have := FU_big; omega)) (fun c3 => ?_))
    refine wp_rdIn (by omega) (fun y40 e40 => ?_)
    rw [hA 75 (by decide)] at e40
    have hy := (hY.2.1 b.toNat (by omega) (by omega) (by omega)).1
    exact L107 FU y40 0 S hRS hA hI (Or.inr ⟨by omega, by omega, e40.symm⟩) (by omega) base (by have := FU_big; omega)
  have L29 : ∀ (n : Nat) (v : Int) (S : MS), Rg S → (∀ k, k ≠ 20 → gA S k = gA s k) → gI S 1420 = gI s 1420 → (0 ≤ v ∧ v ≤ 8) → (∀ x : Nat, (x : Int) < gI s 1420 → gA S 20 x = sm v.toNat (fun w => if gA s 79 w = (x : Int) then 1 else 0)) → 8 - v < (n : Int) → wp (m_x4_refsAre_v2_L29 n v S) (fun q => Rg q.2 ∧ (q.1 = 0 ∨ (q.1 = 1 ∧ ∀ x : Nat, (x : Int) < gI s 1420 → gA s 73 x = rf (hJ s) (gA s 73) (gA s 79) (x : Int)))) := by
    refine fr_ind (fun v S hRS hA hI hv hF hm => by exfalso; omega) (fun n ih v S hRS hA hI hv hF hm => ?_)
    show wp (m_x4_refsAre_v2_b29 (m_x4_refsAre_v2_L29 n) v S) _
    unfold m_x4_refsAre_v2_b29 m_x4_refsAre_v2_J56
    refine wp_rg (by omega) (wp_if (fun c1 => ?_) (fun c1 => ?_))
    · refine L65 FU 0 S hRS hA hI (by omega) (fun x hx => ?_) (by have := FU_big; omega)
      rw [hF x hx, show v.toNat = 8 by omega]
      show rr (gA s 79) (x : Int) = rr (gA s 79) (x : Int) + 0
      omega
    have stp : ∀ x : Nat, sm (v + 1).toNat (fun w => if gA s 79 w = (x : Int) then (1 : Int) else 0) = sm v.toNat (fun w => if gA s 79 w = (x : Int) then 1 else 0) + (if gA s 79 v.toNat = (x : Int) then 1 else 0) := fun x => by
      rw [show (v + 1).toNat = v.toNat + 1 by omega]; rfl
    have ro := hY.2.2 v.toNat (by omega)
    refine wp_rdIn (by omega) (fun y47 e47 => ?_)
    have r47 := hRS.2.1 79 v.toNat (by show _ < 8; omega)
    rw [e47] at r47
    have r47' : (-2 : Int) ≤ y47 ∧ y47 ≤ 253 := r47
    rw [hA 79 (by decide)] at e47
    rw [e47] at ro stp
    refine wp_rg (by omega) (wp_if (fun c2 => ?_) (fun c2 => ?_))
    · refine ih (v + 1) S hRS hA hI (by omega) (fun x hx => ?_) (by omega)
      rw [hF x hx, stp x, if_neg (by omega)]; omega
    refine wp_rdIn (by omega) (fun y50 e50 => ?_)
    rw [hA 79 (by decide), e47] at e50
    have y50e : y50 = y47 := e50.symm
    rw [y50e]
    refine wp_rdIn (by omega) (fun y51 e51 => ?_)
    have f1 := hF y47.toNat (by omega)
    rw [e51] at f1
    have a1 : sm v.toNat (fun w => if gA s 79 w = ((y47.toNat : Nat) : Int) then (1 : Int) else 0) ≤ ((v.toNat : Nat) : Int) * 1 := sm_bd (fun w _ => by
      show (if gA s 79 w = ((y47.toNat : Nat) : Int) then (1 : Int) else 0) ≤ 1
      split <;> omega)
    have a2 : 0 ≤ sm v.toNat (fun w => if gA s 79 w = ((y47.toNat : Nat) : Int) then (1 : Int) else 0) := sm_nn (fun w _ => by
      show 0 ≤ (if gA s 79 w = ((y47.toNat : Nat) : Int) then (1 : Int) else 0)
      split <;> omega)
    refine wp_inb (by omega) (wp_stn (fun s53 e53 => ?_))
    have hR53 : Rg s53 := e53 ▸ Rg.uAu hRS (by show (-2147483648 : Int) ≤ y51 + 1 ∧ y51 + 1 ≤ 2147483647; omega)
    refine ih (v + 1) s53 hR53 (fun k hk => (q_Aa e53 hk).trans (hA k hk)) ((q_Ai e53).trans hI) (by omega) (fun x hx => ?_) (by omega)
    rw [q_AA e53, stp x]
    by_cases z : x = y47.toNat
    · rw [z, upZ_s, if_pos (show y47 = ((y47.toNat : Nat) : Int) by omega), f1]
    · rw [upZ_n z, hF x hx, if_neg (show ¬ y47 = (x : Int) by omega)]; omega
  have L3 : ∀ (n : Nat) (i : Int) (S : MS), Rg S → (∀ k, k ≠ 20 → gA S k = gA s k) → gI S 1420 = gI s 1420 → (0 ≤ i ∧ i ≤ gI s 1420) → (∀ x : Nat, (x : Int) < i → gA S 20 x = 0) → gI s 1420 - i < (n : Int) → wp (m_x4_refsAre_v2_L3 n i S) (fun q => Rg q.2 ∧ (q.1 = 0 ∨ (q.1 = 1 ∧ ∀ x : Nat, (x : Int) < gI s 1420 → gA s 73 x = rf (hJ s) (gA s 73) (gA s 79) (x : Int)))) := by
    refine fr_ind (fun i S hRS hA hI hi hF hm => by exfalso; omega) (fun n ih i S hRS hA hI hi hF hm => ?_)
    show wp (m_x4_refsAre_v2_b3 (m_x4_refsAre_v2_L3 n) i S) _
    unfold m_x4_refsAre_v2_b3
    refine wp_rg (by omega) (wp_rg (by omega) (wp_if (fun c1 => ?_) (fun c1 => ?_)))
    · exact L29 FU 0 S hRS hA hI (by omega) (fun x hx => hF x (by omega)) (by have := FU_big; omega)
    · refine wp_inb (by omega) (wp_stn (fun s60 e60 => ?_))
      have hR60 : Rg s60 := e60 ▸ Rg.uAu hRS (by show (-2147483648 : Int) ≤ 0 ∧ (0 : Int) ≤ 2147483647; omega)
      refine ih (i + 1) s60 hR60 (fun k hk => (q_Aa e60 hk).trans (hA k hk)) ((q_Ai e60).trans hI) (by omega) (fun x hx => ?_) (by omega)
      rw [q_AA e60]
      by_cases z : x = i.toNat
      · rw [z, upZ_s]
      · rw [upZ_n z]; exact hF x (by omega)
  exact L3 FU 0 s hR (fun _ _ => rfl) rfl (by omega) (fun x hx => absurd hx (by omega)) (by have := FU_big; omega)
/-- an image that was loaded, block by block -/
def LD (s : MS) (E : Int) : Prop := (∀ p : Nat, p < 48 → (p : Int) < gI s 1420 → LB s p E) ∧ (∀ p : Nat, p < 48 → gI s 1420 ≤ (p : Int) → gA s 72 p = 0 ∧ gA s 73 p = 0 ∧ gA s 75 p = 0) ∧ (∀ v : Nat, v < 8 → gA s 78 v < gI s 1420 ∧ gA s 79 v < gI s 1420)
def TJ (s : MS) (E : Int) : Prop := TG (hJ s) (kJ s) (gI s 1420) E (gA s 72) (gA s 73) (gA s 78) (gA s 79) Z0 (-1)
set_option maxHeartbeats 1000000 in
theorem w_isSound {s : MS} {E : Int} (hR : Rg s) (hE : E ≤ 6) (hL : LD s E) : wp (m_x4_isSound s) (fun q => Rg q.2 ∧ (q.1 = 0 ∨ (q.1 = 1 ∧ TJ q.2 E))) := by
  have n48 : (0 : Int) ≤ gI s 1420 ∧ gI s 1420 ≤ 48 := hR.1 1420
  have K : ∀ S : MS, (∀ k, 72 ≤ k → k ≤ 79 → gA S k = gA s k) → gI S 1420 = gI s 1420 → KI s S := fun S hA hI => ⟨⟨hA 72 (by decide) (by decide), hA 73 (by decide) (by decide), hA 74 (by decide) (by decide), hA 75 (by decide) (by decide), hA 76 (by decide) (by decide), hA 77 (by decide) (by decide)⟩, hI⟩
  have L2 : ∀ (n : Nat) (lv : Int) (S : MS), Rg S → (∀ k, 72 ≤ k → k ≤ 79 → gA S k = gA s k) → gI S 1420 = gI s 1420 → (0 ≤ lv ∧ lv ≤ 48) → (∀ p : Nat, p < 48 → (p : Int) < gI s 1420 → ¬ (gA s 72 p = 0 ∧ gA s 73 p = 0) → gA s 74 p < lv → 0 < gA s 74 p → ∀ k : Nat, (k : Int) < gA s 75 p → CHD s p k) → 48 - lv < (n : Int) → wp (m_x4_isSound_L2 n lv S) (fun q => Rg q.2 ∧ (q.1 = 0 ∨ (q.1 = 1 ∧ TJ q.2 E))) := by
    refine fr_ind (fun lv S hRS hA hI hl hC hm => by exfalso; omega) (fun n ih lv S hRS hA hI hl hC hm => ?_)
    show wp (m_x4_isSound_b2 (m_x4_isSound_L2 n) lv S) _
    unfold m_x4_isSound_b2 m_x4_isSound_J95 m_x4_isSound_J96
    refine wp_rg (by omega) (wp_if (fun c1 => ?_) (fun c1 => ?_))
    · have live : ∀ p : Nat, p < 48 → (0 < gA s 72 p ∨ 0 < gA s 73 p) → (p : Int) < gI s 1420 ∧ LB s p E ∧ ¬ (gA s 72 p = 0 ∧ gA s 73 p = 0) := fun p hp hc => by
        by_cases e : (p : Int) < gI s 1420
        · exact ⟨e, hL.1 p hp e, by omega⟩
        · have := hL.2.1 p hp (by omega); omega
      have chd : ∀ p : Nat, p < 48 → (0 < gA s 72 p ∨ 0 < gA s 73 p) → 0 < gA s 74 p → ((0 ≤ gA s 75 p ∧ gA s 75 p ≤ 6) ∧ ∀ k : Nat, (k : Int) < gA s 75 p → CHD s p k) := fun p hp hc hl => by
        obtain ⟨l1, l2, l3⟩ := live p hp hc
        rcases l2.2 with q | q
        · omega
        · exact ⟨by omega, hC p hp l1 l3 (by omega) hl⟩
      have hy1 : HY S 72 78 := by
        refine ⟨fun p hp q => ?_, fun p hp hc hl => ?_, fun v hv => ?_⟩
        · rw [hA 72 (by decide) (by decide)]; rw [hI] at q; exact (hL.2.1 p hp q).1
        · rw [hA 72 (by decide) (by decide)] at hc
          rw [hA 74 (by decide) (by decide)] at hl
          rw [hA 75 (by decide) (by decide), hA 77 (by decide) (by decide), hI]
          have := chd p hp (Or.inl hc) hl
          exact ⟨this.1, fun k hk => (this.2 k hk).1⟩
        · rw [hA 78 (by decide) (by decide), hI]; exact (hL.2.2 v hv).1
      refine wp_bn (w_refsAre hRS hy1) (fun q33 e33 h33 => ?_)
      obtain ⟨r1, s33⟩ := q33
      dsimp only at h33 ⊢
      obtain ⟨hR33, h33⟩ := h33
      have F33 : F_x4_refsAre S s33 := fr_x4_refsAre e33
      have hA33 : ∀ k, 72 ≤ k → k ≤ 79 → gA s33 k = gA s k := fun k h1 h2 => (F33.2.1 k (by simp; omega)).trans (hA k h1 h2)
      have hI33 : gI s33 1420 = gI s 1420 := (F33.1 1420 (by simp)).trans hI
      refine wp_rg (by omega) (wp_if (fun _ => wp_bo (Or.inl rfl) (wp_some ⟨hR33, Or.inl rfl⟩)) (fun c2 => ?_))
      have hy2 : HY s33 73 79 := by
        refine ⟨fun p hp q => ?_, fun p hp hc hl => ?_, fun v hv => ?_⟩
        · rw [hA33 73 (by decide) (by decide)]; rw [hI33] at q; exact (hL.2.1 p hp q).2.1
        · rw [hA33 73 (by decide) (by decide)] at hc
          rw [hA33 74 (by decide) (by decide)] at hl
          rw [hA33 75 (by decide) (by decide), hA33 77 (by decide) (by decide), hI33]
          have := chd p hp (Or.inr hc) hl
          exact ⟨this.1, fun k hk => (this.2 k hk).1⟩
        · rw [hA33 79 (by decide) (by decide), hI33]; exact (hL.2.2 v hv).2
      refine wp_bn (w_refsAre_v2 hR33 hy2) (fun q38 e38 h38 => ?_)
      obtain ⟨r2, s38⟩ := q38
      dsimp only at h38 ⊢
      obtain ⟨hR38, h38⟩ := h38
      have F38 : F_x4_refsAre_v2 s33 s38 := fr_x4_refsAre_v2 e38
      have hA38 : ∀ k, 72 ≤ k → k ≤ 79 → gA s38 k = gA s k := fun k h1 h2 => (F38.2.1 k (by simp; omega)).trans (hA33 k h1 h2)
      have hI38 : gI s38 1420 = gI s 1420 := (F38.1 1420 (by simp)).trans hI33
      refine wp_rg (by omega) (wp_if (fun _ => wp_bo (Or.inl rfl) (wp_some ⟨hR38, Or.inl rfl⟩)) (fun c3 => wp_bo (Or.inr rfl) (wp_some ⟨hR38, Or.inr ⟨rfl, ?_⟩⟩)))
      have cn : ∀ x : Nat, (x : Int) < gI s 1420 → gA s 72 x = rf (hJ s) (gA s 72) (gA s 78) (x : Int) := fun x hx => by
        rcases h33 with q | q
        · omega
        · have := q.2 x (by rw [hI]; exact hx)
          rw [hJ_eq (K S hA hI), hA 72 (by decide) (by decide), hA 78 (by decide) (by decide)] at this
          exact this
      have sn : ∀ x : Nat, (x : Int) < gI s 1420 → gA s 73 x = rf (hJ s) (gA s 73) (gA s 79) (x : Int) := fun x hx => by
        rcases h38 with q | q
        · omega
        · have := q.2 x (by rw [hI33]; exact hx)
          rw [hJ_eq (K s33 hA33 hI33), hA33 73 (by decide) (by decide), hA33 79 (by decide) (by decide)] at this
          exact this
      have T : TG (hJ s) (kJ s) (gI s 1420) E (gA s 72) (gA s 73) (gA s 78) (gA s 79) Z0 (-1) := by
        refine TG_load n48 hE (fun p hp => ?_) (fun p hp => ?_) (fun v hv => hL.2.2 v hv) (fun x hx => ⟨cn x hx, sn x hx⟩)
        · by_cases e : (p : Int) < gI s 1420
          · have := (hL.1 p hp e).1
            exact ⟨this.1, this.2, fun q => by omega⟩
          · have := hL.2.1 p hp (by omega)
            exact ⟨by omega, by omega, fun _ => this⟩
        · by_cases e : (p : Int) < gI s 1420
          · have lb := hL.1 p hp e
            rcases lb.2 with q | q
            · exact Or.inl q
            · refine Or.inr ⟨q.2.1.1, q.2.2.1, q.2.2.2, fun hl k hk => ?_⟩
              have l1 : 0 ≤ gA s 72 p ∧ 0 ≤ gA s 73 p := lb.1
              have q1 : ¬ (gA s 72 p = 0 ∧ gA s 73 p = 0) := q.1
              have := (chd p hp (by omega) hl).2 k hk
              exact ⟨this.1, this.2.2⟩
          · exact Or.inl (hL.2.1 p hp (by omega))
      show TJ s38 E
      unfold TJ
      rw [hJ_eq (K s38 hA38 hI38), show kJ s38 = kJ s by unfold kJ; rw [hA38 76 (by decide) (by decide)], hI38, hA38 72 (by decide) (by decide), hA38 73 (by decide) (by decide), hA38 78 (by decide) (by decide), hA38 79 (by decide) (by decide)]
      exact T
    · have L10 : ∀ (m : Nat) (b : Int) (S : MS), Rg S → (∀ k, 72 ≤ k → k ≤ 79 → gA S k = gA s k) → gI S 1420 = gI s 1420 → (0 ≤ b ∧ b ≤ gI s 1420) → (∀ p : Nat, p < 48 → (p : Int) < gI s 1420 → ¬ (gA s 72 p = 0 ∧ gA s 73 p = 0) → (gA s 74 p < lv ∨ (gA s 74 p = lv ∧ (p : Int) < b)) → 0 < gA s 74 p → ∀ k : Nat, (k : Int) < gA s 75 p → CHD s p k) → gI s 1420 - b < (m : Int) → wp (m_x4_isSound_L10 (m_x4_isSound_L2 n) m lv b S) (fun q => Rg q.2 ∧ (q.1 = 0 ∨ (q.1 = 1 ∧ TJ q.2 E))) := by
        refine fr_ind (fun b S hRS hA hI hb hC hm => by exfalso; omega) (fun m ihm b S hRS hA hI hb hC hm2 => ?_)
        show wp (m_x4_isSound_b10 (m_x4_isSound_L2 n) (m_x4_isSound_L10 (m_x4_isSound_L2 n) m) lv b S) _
        unfold m_x4_isSound_b10 m_x4_isSound_J47
        refine wp_rg (by omega) (wp_rg (by omega) (wp_if (fun c2 => ?_) (fun c2 => ?_)))
        · exact ih (lv + 1) S hRS hA hI (by omega) (fun p hp hN hf hl h0 k hk => hC p hp hN hf (by omega) h0 k hk) (by omega)
        refine wp_bn (w_x8_isFree_v2 hRS (by omega)) (fun r17 e17 h17 => ?_)
        rw [hA 72 (by decide) (by decide), hA 73 (by decide) (by decide), hI] at h17
        refine wp_rg (by omega) (wp_if (fun c3 => ?_) (fun c3 => ?_))
        · refine wp_rdIn (by omega) (fun y20 e20 => ?_)
          have r20 := hRS.2.1 74 b.toNat (by show _ < 48; omega)
          rw [e20] at r20
          have r20' : (-1 : Int) ≤ y20 ∧ y20 ≤ 1000 := r20
          rw [hA 74 (by decide) (by decide)] at e20
          refine wp_rg (by omega) (wp_rg (by omega) (wp_if (fun c4 => ?_) (fun c4 => ?_)))
          · have lb := hL.1 b.toNat (by omega) (by omega)
            have sz : 1 ≤ gA s 75 b.toNat ∧ gA s 75 b.toNat ≤ 6 := by
              rcases lb.2 with q | q
              · omega
              · omega
            refine wp_bn (w_x4_isSoundBlock hRS (by omega) (by rw [hA 75 (by decide) (by decide)]; exact sz)) (fun q26 e26 h26 => ?_)
            obtain ⟨r26, s26⟩ := q26
            dsimp only at h26 ⊢
            obtain ⟨hR26, g26, h26⟩ := h26
            have F26 : F_x4_isSoundBlock S s26 := fr_x4_isSoundBlock e26
            refine wp_rg (by omega) (wp_if (fun _ => wp_some ⟨hR26, Or.inl rfl⟩) (fun c5 => ?_))
            refine ihm (b + 1) s26 hR26 (fun k h1 h2 => (F26.2.1 k (by simp; omega)).trans (hA k h1 h2)) ((F26.1 1420 (by simp)).trans hI) (by omega) (fun p hp hN hf hl h0 k hk => ?_) (by omega)
            by_cases z : p = b.toNat
            · rw [z] at h0 hk ⊢
              exact (CHD_eq (K S hA hI)).mp (h26 (by omega) (by rw [hA 74 (by decide) (by decide)]; exact h0) k (by rw [hA 75 (by decide) (by decide)]; exact hk))
            · exact hC p hp hN hf (by omega) h0 k hk
          · refine ihm (b + 1) S hRS hA hI (by omega) (fun p hp hN hf hl h0 k hk => ?_) (by omega)
            by_cases z : p = b.toNat
            · rw [z] at hl
              rcases hl with hl | hl
              · exact hC p hp hN hf (Or.inl (by rw [z]; exact hl)) h0 k hk
              · omega
            · exact hC p hp hN hf (by omega) h0 k hk
        · refine ihm (b + 1) S hRS hA hI (by omega) (fun p hp hN hf hl h0 k hk => ?_) (by omega)
          by_cases z : p = b.toNat
          · rw [z] at hf; omega
          · exact hC p hp hN hf (by omega) h0 k hk
      exact L10 FU 0 S hRS hA hI (by omega) (fun p hp hN hf hl h0 k hk => hC p hp hN hf (by omega) h0 k hk) (by have := FU_big; omega)
  exact L2 FU 0 s hR (fun _ _ _ => rfl) rfl (by omega) (fun p hp hN hf hl h0 => absurd h0 (by omega)) (by have := FU_big; omega)
set_option maxHeartbeats 1000000 in
theorem w_load {p2 p3 : Int} {s : MS} (hR : Rg s) (h2 : 0 ≤ p2 ∧ p2 ≤ 48) (h3 : 3 ≤ p3 ∧ p3 ≤ 6) : wp (m_x4_load p2 p3 s) (fun q => Rg q.2 ∧ (q.1 = 0 ∨ (q.1 = 1 ∧ TJ q.2 p3 ∧ gI q.2 1421 ≤ 999999))) := by
  have r61 := hR.1 61
  have r61' : (0 : Int) ≤ gI s 61 ∧ gI s 61 ≤ 1600 := r61
  have L59 : ∀ (n : Nat) (i : Int) (S : MS), Rg S → gI S 1420 = p2 → gI S 1421 ≤ 999999 → (0 ≤ i ∧ i ≤ p2) → gI S 322 ≤ 19 + 28 * i → (∀ v : Nat, v < 8 → gA S 78 v < p2 ∧ gA S 79 v < p2) → (∀ p : Nat, p < 48 → (p : Int) < i → LB S p p3) → (∀ p : Nat, p < 48 → i ≤ (p : Int) → gA S 72 p = 0 ∧ gA S 73 p = 0 ∧ gA S 75 p = 0) → p2 - i < (n : Int) → wp (m_x4_load_L59 n p2 p3 (gI s 61 - 1) i S) (fun q => Rg q.2 ∧ (q.1 = 0 ∨ (q.1 = 1 ∧ TJ q.2 p3 ∧ gI q.2 1421 ≤ 999999))) := by
    refine fr_ind (fun i S hRS hn hs hi h32 hv hB hZ hm => by exfalso; omega) (fun n ih i S hRS hn hs hi h32 hv hB hZ hm => ?_)
    show wp (m_x4_load_b59 (m_x4_load_L59 n) p2 p3 (gI s 61 - 1) i S) _
    unfold m_x4_load_b59 m_x4_load_J107 m_x4_load_J108
    have r322 := hRS.1 322
    have r322' : (0 : Int) ≤ gI S 322 ∧ gI S 322 ≤ 100000 := r322
    refine wp_rg (by omega) (wp_rg (by omega) (wp_if (fun c1 => ?_) (fun c1 => ?_)))
    · refine wp_rg (by omega) (wp_rg (by omega) (wp_if (fun c2 => ?_) (fun _ => wp_bo (Or.inl rfl) (wp_some ⟨hRS, Or.inl rfl⟩))))
      refine wp_bn (w_isSound (E := p3) hRS (by omega) ⟨fun p hp q => hB p hp (by omega), fun p hp q => hZ p hp (by omega), fun v hv8 => by rw [hn]; exact hv v hv8⟩) (fun q18 e18 h18 => ?_)
      obtain ⟨r, o⟩ := q18
      dsimp only at h18 ⊢
      obtain ⟨hRo, h18⟩ := h18
      have Fo : F_x4_isSound S o := fr_x4_isSound e18
      refine wp_rg (by omega) (wp_if (fun _ => wp_bo (Or.inl rfl) (wp_some ⟨hRo, Or.inl rfl⟩)) (fun c3 => wp_bo (Or.inr rfl) (wp_some ⟨hRo, Or.inr ⟨rfl, ?_, ?_⟩⟩)))
      · rcases h18 with q | q
        · exact absurd q c3
        · exact q.2
      · show gI o 1421 ≤ 999999
        rw [Fo.1 1421 (by simp)]; exact hs
    · have hz := hZ i.toNat (by omega) (by omega)
      refine wp_bn (w_loadBlock hRS (by omega) h3 (by omega) hz.2.2) (fun q23 e23 h23 => ?_)
      obtain ⟨r, o⟩ := q23
      dsimp only at h23 ⊢
      obtain ⟨hRo, hO, h32o, h23⟩ := h23
      have Fo : F_x4_loadBlock S o := fr_x4_loadBlock e23
      refine wp_rg (by omega) (wp_if (fun _ => wp_some ⟨hRo, Or.inl rfl⟩) (fun c3 => ?_))
      refine ih (i + 1) o hRo ((Fo.1 1420 (by decide)).trans hn) (by rw [Fo.1 1421 (by decide)]; exact hs) (by omega) (by omega) (fun v hv8 => by rw [Fo.2.1 78 (by decide), Fo.2.1 79 (by decide)]; exact hv v hv8) (fun p hp hpi => ?_) (fun p hp hpi => ?_) (by omega)
      · by_cases z : p = i.toNat
        · rcases h23 with q | q
          · exact absurd q c3
          · rw [z]; exact q.2
        · have w := hO p hp z
          exact LB_eq (hB p hp (by omega)) (by omega) w.1 w.2
      · have w := (hO p hp (by omega)).1
        have := hZ p hp (by omega)
        rw [w.1, w.2.1, w.2.2.2]; exact this
  unfold m_x4_load m_x4_load_J33
  refine wp_rg (by omega) (wp_if (fun _ => wp_some ⟨hR, Or.inl rfl⟩) (fun c1 => ?_))
  refine wp_bn (w_x9_at hR (by omega)) (fun r30 e30 h30 => ?_)
  refine wp_bn (w_x4_seal_v2 hR (by omega)) (fun r32 e32 h32 => ?_)
  refine wp_rg (by omega) (wp_rg (by omega) (wp_if (fun c2 => ?_) (fun _ => wp_some ⟨hR, Or.inl rfl⟩)))
  refine wp_bn (w_clear hR (by omega)) (fun s37 e37 h37 => ?_)
  obtain ⟨hR37, n37, z37⟩ := h37
  refine wp_stn (fun s38 e38 => ?_)
  have hR38 : Rg s38 := e38 ▸ Rg.uI hR37 (by show (0 : Int) ≤ 0 ∧ (0 : Int) ≤ 100000; omega)
  refine wp_bn (w_x4_loadHead hR38 (q_II e38)) (fun q41 e41 h41 => ?_)
  obtain ⟨r, o⟩ := q41
  dsimp only at h41 ⊢
  obtain ⟨hRo, g1, g2, g3⟩ := h41
  have Fo : F_x4_loadHead s38 o := fr_x4_loadHead e41
  have n38 : gI s38 1420 = p2 := (q_Ii e38 (by decide)).trans n37
  refine wp_rg (by omega) (wp_if (fun _ => wp_some ⟨hRo, Or.inl rfl⟩) (fun c3 => ?_))
  have g4 := g3 (by omega)
  refine L59 FU 0 o hRo ((Fo.1 1420 (by decide)).trans n38) g4.1 (by omega) (by omega) (fun v hv => ?_) (fun p hp q => absurd q (by omega)) (fun p hp _ => ?_) (by have := FU_big; omega)
  · have := g4.2 v (by omega)
    rw [n38] at this; exact this
  · have := z37 p hp
    rw [Fo.2.1 72 (by decide), Fo.2.1 73 (by decide), Fo.2.1 75 (by decide), show gA s38 72 = gA s37 72 from q_Ia e38, show gA s38 73 = gA s37 73 from q_Ia e38, show gA s38 75 = gA s37 75 from q_Ia e38]
    exact ⟨this.1, this.2.1, this.2.2.2⟩
theorem c_on {s : MS} {ts : List MS} (h : CI s ts) : wp (m_x11_on s) (fun q => CI q.2 ts ∧ gI q.2 61 = 0) := by
  have r12 := h.1.1 12
  have r12' : (0 : Int) ≤ gI s 12 ∧ gI s 12 ≤ 1 := r12
  have r580 := h.1.1 580
  have r580' : (0 : Int) ≤ gI s 580 ∧ gI s 580 ≤ 48 := r580
  have r581 := h.1.1 581
  have r581' : (0 : Int) ≤ gI s 581 ∧ gI s 581 ≤ 6 := r581
  have J0 : ∀ S : MS, CI S ts → wp (m_x11_on_J47 0 S) (fun q => CI q.2 ts ∧ gI q.2 61 = 0) := fun S hS => by
    unfold m_x11_on_J47
    refine wp_stn (fun s3 e3 => ?_)
    have hR3 : Rg s3 := e3 ▸ Rg.uI hS.1 (by show (0 : Int) ≤ 0 ∧ (0 : Int) ≤ 1600; omega)
    have C3 : CI s3 ts := CI_keep hS hR3 (fun k _ _ => q_Ia e3) ⟨q_Ii e3 (by decide), q_Ii e3 (by decide), q_Ii e3 (by decide), q_Ii e3 (by decide)⟩
    exact wp_rg (by omega) (wp_if (fun _ => wp_bn (c_refuse C3 (by omega)) (fun q _ hq => wp_some ⟨hq.1, hq.2.1.trans (q_II e3)⟩)) (fun c => absurd rfl c))
  unfold m_x11_on m_x11_on_J46
  refine wp_rg (by omega) (wp_if (fun _ => J0 s h) (fun c1 => ?_))
  have t1 := CI_12 h c1
  have T := CI_TE h c1
  refine wp_bn (w_load h.1 r580' ⟨T.2.2, r581'.2⟩) (fun q18 e18 h18 => ?_)
  obtain ⟨r, o⟩ := q18
  dsimp only at h18 ⊢
  obtain ⟨hRo, h18⟩ := h18
  have Fo : F_x4_load s o := fr_x4_load e18
  have Co : CI o ts := CI_keep h hRo (fun k h1 h2 => Fo.2.1 k (by simp; omega)) ⟨Fo.1 1060 (by decide), Fo.1 581 (by decide), Fo.1 12 (by decide), Fo.1 145 (by decide)⟩
  refine wp_rg (by omega) (wp_if (fun _ => J0 o Co) (fun c2 => ?_))
  rcases h18 with q | q
  · exact absurd q c2
  obtain ⟨_, TJo, sp⟩ := q
  unfold m_x11_on_J47
  refine wp_stn (fun s3 e3 => ?_)
  have hR3 : Rg s3 := e3 ▸ Rg.uI hRo (by show (0 : Int) ≤ 0 ∧ (0 : Int) ≤ 1600; omega)
  refine wp_rg (by omega) (wp_if (fun c => absurd c (by omega)) (fun _ => ?_))
  refine wp_bn (b_v4 hR3 (by rw [q_Ii e3 (by decide)]; exact sp)) (fun s7 e7 h7 => ?_)
  obtain ⟨hR7, F7, B7⟩ := h7
  refine wp_bn (w_x2_clear hR7) (fun s9 e9 h9 => ?_)
  have F9 : F_x2_clear s7 s9 := fr_x2_clear e9
  have k581 : gI s9 581 = gI s 581 := (F9.1 581 (by decide)).trans ((F7.1 581 (by decide)).trans ((q_Ii e3 (by decide)).trans (Fo.1 581 (by decide))))
  have k12 : gI s9 12 = gI s 12 := (F9.1 12 (by decide)).trans ((F7.1 12 (by decide)).trans ((q_Ii e3 (by decide)).trans (Fo.1 12 (by decide))))
  have kA : ∀ k, gA s9 k = gA s7 k := fun k => F9.2.1 k (by simp)
  have kB : ∀ k, gA s3 k = gA o k := fun k => q_Ia e3
  have TT : TS s9 Z0 (-1) := by
    have T0 := TG_ext (h' := hN s9) (ky' := kN s9) (c' := gA s9 54) (sv' := gA s9 55) (r' := gA s9 60) (rs' := gA s9 61) TJo (fun p hp => by show gA s9 56 p = gA o 74 p; rw [kA, (B7.1 p hp).2.2.1, kB]) (fun p hp => by show gA s9 57 p = gA o 75 p; rw [kA, (B7.1 p hp).2.2.2, kB]) (fun p hp k hk => ⟨by show gA s9 59 _ = gA o 77 _; rw [kA, (B7.2.1 (6 * p + k) (by omega)).2, kB], by show gA s9 58 _ = gA o 76 _; rw [kA, (B7.2.1 (6 * p + k) (by omega)).1, kB]⟩) (fun p hp => by rw [kA, (B7.1 p hp).1, kB]) (fun p hp => by rw [kA, (B7.1 p hp).2.1, kB]) (fun v hv => by rw [kA, (B7.2.2.1 v hv).1, kB]) (fun v hv => by rw [kA, (B7.2.2.1 v hv).2, kB])
    have n : gI s9 1060 = gI o 1420 := (F9.1 1060 (by decide)).trans (B7.2.2.2.1.trans (q_Ii e3 (by decide)))
    exact TS_mk T0 rfl rfl n k581 rfl rfl rfl rfl
  refine wp_some ⟨⟨h9.1, TT, Or.inr ⟨k12.trans t1, by rw [k581]; exact T.2.2⟩, ?_⟩, ?_⟩
  · show Hs (gI s9 145) ts (gI s9 581)
    rw [h9.2.2]
    have hh := h.2.2.2
    exact ⟨⟨Int.le_refl 0, by omega, hh.1.2.2⟩, hh.2.1, fun i t _ hid => by omega⟩
  · show gI s9 61 = 0
    rw [F9.1 61 (by decide), F7.1 61 (by decide)]; exact q_II e3
/-! ===== what holds of an answer, if there is one ===== -/
def pc {α : Type} (x : Option α) (P : α → Prop) : Prop := ∀ o, x = some o → P o
theorem pc_some {α : Type} {P : α → Prop} {a : α} (h : P a) : pc (some a) P := fun o e => by cases e; exact h
theorem pc_none {α : Type} {P : α → Prop} : pc (none : Option α) P := fun o e => by cases e
theorem pc_mono {α : Type} {x : Option α} {P Q : α → Prop} (h : pc x P) (g : ∀ a, P a → Q a) : pc x Q := fun o e => g o (h o e)
theorem pc_bn {α β : Type} {x : Option α} {k : α → Option β} {P : β → Prop} (g : ∀ a, x = some a → pc (k a) P) : pc (bn x k) P := by
  intro o e
  cases h : x with
  | none => rw [h] at e; cases e
  | some a => rw [h] at e; exact g a h o e
/-- with what is known of the call -/
theorem pc_bq {α β : Type} {x : Option α} {k : α → Option β} {P : β → Prop} {Q : α → Prop} (h : pc x Q) (g : ∀ a, Q a → pc (k a) P) : pc (bn x k) P := pc_bn (fun a e => g a (h a e))
theorem pc_rg {α : Type} {x : Int} {k : Option α} {P : α → Prop} (h : pc k P) : pc (rg x k) P := by
  unfold rg
  split
  · exact h
  · exact pc_none
theorem pc_bo {α : Type} {v : Int} {k : Option α} {P : α → Prop} (h : pc k P) : pc (bo v k) P := by
  unfold bo
  split
  · exact h
  · exact pc_none
theorem pc_dv {α : Type} {x y : Int} {k : Option α} {P : α → Prop} (h : pc k P) : pc (dv x y k) P := by
  unfold dv
  split
  · exact h
  · exact pc_none
theorem pc_inb {α : Type} {n : Nat} {i : Int} {k : Option α} {P : α → Prop} (h : pc k P) : pc (inb n i k) P := by
  unfold inb
  split
  · exact h
  · exact pc_none
theorem pc_inb2 {α : Type} {n : Nat} {i : Int} {k : Option α} {P : α → Prop} (h : 0 ≤ i ∧ i < (n : Int) → pc k P) : pc (inb n i k) P := by
  unfold inb
  split
  · rename_i q; exact h q
  · exact pc_none
theorem pc_eqg {α : Type} {x y : Int} {k : Option α} {P : α → Prop} (h : pc k P) : pc (eqg x y k) P := by
  unfold eqg
  split
  · exact h
  · exact pc_none
theorem pc_rdI {α : Type} {f : Nat → Int} {n : Nat} {i : Int} {k : Int → Option α} {P : α → Prop} (h : 0 ≤ i ∧ i < (n : Int) → pc (k (f i.toNat)) P) : pc (rdI f n i k) P := by
  unfold rdI
  split
  · rename_i q; exact h q
  · exact pc_none
theorem pc_if {α : Type} {c : Prop} [Decidable c] {x y : Option α} {P : α → Prop} (ht : c → pc x P) (hf : ¬ c → pc y P) : pc (if c then x else y) P := by
  by_cases h : c
  · rw [if_pos h]; exact ht h
  · rw [if_neg h]; exact hf h
theorem pc_stn {α : Type} {t : MS} {k : MS → Option α} {P : α → Prop} (h : ∀ s, t = s → pc (k s) P) : pc (stn t k) P := h t rfl
/-- a call that answers tells what a partial fact says -/
theorem wp_pc {α : Type} {x : Option α} {P Q : α → Prop} (h : wp x P) (g : pc x Q) : wp x (fun o => P o ∧ Q o) := by
  obtain ⟨o, e, hp⟩ := h
  exact ⟨o, e, hp, g o e⟩
theorem wp_det {α : Type} {x : Option α} {P : α → Prop} {o : α} (h : wp x P) (e : x = some o) : P o := by
  obtain ⟨o', h1, h2⟩ := h
  rw [h1] at e
  cases e
  exact h2
/-! ===== what acts leave as it was ===== -/
/-- tape, reader, plans, what is seen, the picture stay -/
def FA (s o : MS) : Prop := (∀ k, (k < 1000 ∨ k = 9999) → k ≠ 143 → k ≠ 145 → k ≠ 983 → gI o k = gI s k) ∧ (∀ k, k < 50 → k ≠ 2 → k ≠ 8 → k ≠ 9 → k ≠ 10 → gA o k = gA s k)
theorem FA.rf (s : MS) : FA s s := ⟨fun _ _ _ _ _ => rfl, fun _ _ _ _ _ _ => rfl⟩
theorem FA.tr {s o q : MS} (h : FA s o) (g : FA o q) : FA s q := ⟨fun k a b c d => (g.1 k a b c d).trans (h.1 k a b c d), fun k a b c d e => (g.2 k a b c d e).trans (h.2 k a b c d e)⟩
theorem FA.of {I A L B : List Nat} {s o : MS} (h : Fr I A L B s o) (hi : ∀ k, (k < 1000 ∨ k = 9999) → k ≠ 143 → k ≠ 145 → k ≠ 983 → k ∉ I) (ha : ∀ k, k < 50 → k ≠ 2 → k ≠ 8 → k ≠ 9 → k ≠ 10 → k ∉ A) : FA s o := ⟨fun k a b c d => h.1 k (hi k a b c d), fun k a b c d e => h.2.1 k (ha k a b c d e)⟩
theorem fa_x11_refuse {p0 : Int} {s : MS} {o : (Int × MS)} (h : m_x11_refuse p0 s = some o) : FA s o.2 := FA.of (fr_x11_refuse h) (by intro k h1 h2 h3 h4 h; first | (simp at h; omega) | simp at h) (by intro k h1 h2 h3 h4 h5 h; first | (simp at h; omega) | simp at h)
theorem fa_x1_begin {s : MS} {o : MS} (h : m_x1_begin s = some o) : FA s o := FA.of (fr_x1_begin h) (by intro k h1 h2 h3 h4 h; first | (simp at h; omega) | simp at h) (by intro k h1 h2 h3 h4 h5 h; first | (simp at h; omega) | simp at h)
theorem fa_x1_tryPlant {p0 : Int} {p1 : Int} {p2 : Int} {s : MS} {o : (Int × MS)} (h : m_x1_tryPlant p0 p1 p2 s = some o) : FA s o.2 := FA.of (fr_x1_tryPlant h) (by intro k h1 h2 h3 h4 h; first | (simp at h; omega) | simp at h) (by intro k h1 h2 h3 h4 h5 h; first | (simp at h; omega) | simp at h)
theorem fa_x1_tryUproot {p0 : Int} {p1 : Int} {s : MS} {o : (Int × MS)} (h : m_x1_tryUproot p0 p1 s = some o) : FA s o.2 := FA.of (fr_x1_tryUproot h) (by intro k h1 h2 h3 h4 h; first | (simp at h; omega) | simp at h) (by intro k h1 h2 h3 h4 h5 h; first | (simp at h; omega) | simp at h)
theorem fa_x1_share {p0 : Int} {p1 : Int} {s : MS} {o : MS} (h : m_x1_share p0 p1 s = some o) : FA s o := FA.of (fr_x1_share h) (by intro k h1 h2 h3 h4 h; first | (simp at h; omega) | simp at h) (by intro k h1 h2 h3 h4 h5 h; first | (simp at h; omega) | simp at h)
theorem fa_x1_letGo {p0 : Int} {s : MS} {o : MS} (h : m_x1_letGo p0 s = some o) : FA s o := FA.of (fr_x1_letGo h) (by intro k h1 h2 h3 h4 h; first | (simp at h; omega) | simp at h) (by intro k h1 h2 h3 h4 h5 h; first | (simp at h; omega) | simp at h)
theorem fa_x8_save {s : MS} {o : MS} (h : m_x8_save s = some o) : FA s o := FA.of (fr_x8_save h) (by intro k h1 h2 h3 h4 h; first | (simp at h; omega) | simp at h) (by intro k h1 h2 h3 h4 h5 h; first | (simp at h; omega) | simp at h)
theorem fa_x8_fallBack {s : MS} {o : MS} (h : m_x8_fallBack s = some o) : FA s o := FA.of (fr_x8_fallBack h) (by intro k h1 h2 h3 h4 h; first | (simp at h; omega) | simp at h) (by intro k h1 h2 h3 h4 h5 h; first | (simp at h; omega) | simp at h)
theorem fa_x1_actBySeed {s : MS} {o : (Int × MS)} (h : m_x1_actBySeed s = some o) : FA s o.2 := FA.of (fr_x1_actBySeed h) (by intro k h1 h2 h3 h4 h; first | (simp at h; omega) | simp at h) (by intro k h1 h2 h3 h4 h5 h; first | (simp at h; omega) | simp at h)
theorem fa_x1_settle {s : MS} {o : (Int × MS)} (h : m_x1_settle s = some o) : FA s o.2 := FA.of (fr_x1_settle h) (by intro k h1 h2 h3 h4 h; first | (simp at h; omega) | simp at h) (by intro k h1 h2 h3 h4 h5 h; first | (simp at h; omega) | simp at h)
theorem fa_x2_keep {p0 : Int} {p1 : Int} {p2 : Int} {s : MS} {o : MS} (h : m_x2_keep p0 p1 p2 s = some o) : FA s o := FA.of (fr_x2_keep h) (by intro k h1 h2 h3 h4 h; first | (simp at h; omega) | simp at h) (by intro k h1 h2 h3 h4 h5 h; first | (simp at h; omega) | simp at h)
theorem fa_x8_becomeP {s : MS} {o : MS} (h : m_x8_becomeP s = some o) : FA s o := FA.of (fr_x8_becomeP h) (by intro k h1 h2 h3 h4 h; first | (simp at h; omega) | simp at h) (by intro k h1 h2 h3 h4 h5 h; first | (simp at h; omega) | simp at h)
theorem FA.st (s t : MS) : FA s (setB s t) := ⟨fun k a _ _ _ => by show (if 1240 ≤ k ∧ k < 1260 then t.1 k else s.1 k) = s.1 k; exact if_neg (by omega), fun k a _ _ _ _ => by show (if 62 ≤ k ∧ k ≤ 70 then t.2.2.1 k else s.2.2.1 k) = s.2.2.1 k; exact if_neg (by omega)⟩
theorem FA.i {s o : MS} {k : Nat} {v : Int} (e : sI s k v = o) (h : k = 143 ∨ k = 145 ∨ k = 983 ∨ (1000 ≤ k ∧ k ≠ 9999)) : FA s o := ⟨fun j a b c d => q_Ii e (by omega), fun j _ _ _ _ _ => q_Ia e⟩
theorem fa_remember {s : MS} {ts : List MS} : pc (m_remember s ts) (fun q => FA s q.1) := by
  unfold m_remember
  refine pc_rg (pc_if (fun c => pc_if (fun c2 => pc_some (FA.st _ _)) (fun c2 => pc_none)) (fun c => pc_inb (pc_stn (fun s1 e1 => ?_))))
  have h1 : FA s s1 := FA.i e1 (by omega)
  exact pc_if (fun c2 => pc_some (h1.tr (FA.st _ _))) (fun c2 => pc_if (fun c3 => pc_some (h1.tr (FA.st _ _))) (fun c3 => pc_none))
theorem fa_finish {p0 p1 : Int} {s : MS} {ts : List MS} : pc (m_finish p0 p1 s ts) (fun q => FA s q.2.1) := by
  unfold m_finish
  refine pc_bn (fun q e => pc_bn (fun s2 e2 => pc_bn (fun w e3 => pc_some ?_)))
  exact ((fa_x1_settle e).tr (fa_x2_keep e2)).tr (fa_remember w e3)
theorem fa_undo {s : MS} {ts : List MS} : pc (m_x11_undo ts s) (fun q => FA s q.2.1) := by
  unfold m_x11_undo
  refine pc_rg (pc_rg (pc_if (fun c => pc_bn (fun q e => pc_some (fa_x11_refuse e))) (fun c => pc_stn (fun s2 e2 => pc_inb (pc_if (fun c2 => pc_bn (fun s3 e3 => pc_some ?_)) (fun c2 => pc_none))))))
  have h2 : FA s s2 := (FA.i (o := sI s 145 (gI s 145 - 1)) rfl (by omega)).tr (FA.i e2 (by omega))
  exact ((h2.tr (FA.st _ _)).tr (fa_x8_becomeP e3)).tr (FA.st _ _)
theorem fa_put {ts : List MS} {p0 : Int} {p1 : Int} {p2 : Int} {s : MS} : pc (m_x11_put ts p0 p1 p2 s) (fun q => FA s q.2.1) := by
  unfold m_x11_put
  refine pc_bn (fun r6 er6 => ?_)
  refine pc_rg ?_
  refine pc_if (fun _ => ?_) (fun _ => ?_)
  · skip
    unfold m_x11_put_J28
    refine pc_bn (fun qr4 eqr4 => ?_)
    have hqr4 := (FA.rf s).tr (fa_x11_refuse eqr4)
    exact pc_some hqr4
  · skip
    refine pc_bn (fun r10 er10 => ?_)
    refine pc_rg ?_
    refine pc_if (fun _ => ?_) (fun _ => ?_)
    · skip
      unfold m_x11_put_J28
      refine pc_bn (fun qr4 eqr4 => ?_)
      have hqr4 := (FA.rf s).tr (fa_x11_refuse eqr4)
      exact pc_some hqr4
    · skip
      refine pc_bn (fun r14 er14 => ?_)
      refine pc_rg ?_
      refine pc_if (fun _ => ?_) (fun _ => ?_)
      · skip
        unfold m_x11_put_J28
        refine pc_bn (fun qr4 eqr4 => ?_)
        have hqr4 := (FA.rf s).tr (fa_x11_refuse eqr4)
        exact pc_some hqr4
      · skip
        refine pc_bn (fun s18 es18 => ?_)
        have hs18 := (FA.rf s).tr (fa_x1_begin es18)
        refine pc_bn (fun qr21 eqr21 => ?_)
        have hqr21 := hs18.tr (fa_x1_tryPlant eqr21)
        refine pc_rg ?_
        refine pc_if (fun _ => ?_) (fun _ => ?_)
        · skip
          refine pc_bn (fun qr30 eqr30 => ?_)
          have hqr30 := hqr21.tr (fa_x11_refuse eqr30)
          exact pc_some hqr30
        · skip
          refine pc_bn (fun qr25 eqr25 => ?_)
          have hqr25 := hqr21.tr (fa_finish qr25 eqr25)
          exact pc_some hqr25
theorem fa_remove {ts : List MS} {p0 : Int} {p1 : Int} {s : MS} : pc (m_x11_remove ts p0 p1 s) (fun q => FA s q.2.1) := by
  unfold m_x11_remove
  refine pc_bn (fun r2 er2 => ?_)
  refine pc_rg ?_
  refine pc_if (fun _ => ?_) (fun _ => ?_)
  · skip
    refine pc_bn (fun qr21 eqr21 => ?_)
    have hqr21 := (FA.rf s).tr (fa_x11_refuse eqr21)
    exact pc_some hqr21
  · skip
    refine pc_bn (fun s6 es6 => ?_)
    have hs6 := (FA.rf s).tr (fa_x1_begin es6)
    refine pc_bn (fun qr9 eqr9 => ?_)
    have hqr9 := hs6.tr (fa_x1_tryUproot eqr9)
    refine pc_rg ?_
    refine pc_if (fun _ => ?_) (fun _ => ?_)
    · skip
      refine pc_bn (fun qr18 eqr18 => ?_)
      have hqr18 := hqr9.tr (fa_x11_refuse eqr18)
      exact pc_some hqr18
    · skip
      refine pc_bn (fun qr13 eqr13 => ?_)
      have hqr13 := hqr9.tr (fa_finish qr13 eqr13)
      exact pc_some hqr13
theorem fa_copy {ts : List MS} {p0 : Int} {s : MS} : pc (m_x11_copy ts p0 s) (fun q => FA s q.2.1) := by
  unfold m_x11_copy
  refine pc_bn (fun r6 er6 => ?_)
  refine pc_bn (fun r8 er8 => ?_)
  refine pc_rg ?_
  refine pc_if (fun _ => ?_) (fun _ => ?_)
  · skip
    unfold m_x11_copy_J30
    refine pc_bn (fun qr4 eqr4 => ?_)
    have hqr4 := (FA.rf s).tr (fa_x11_refuse eqr4)
    exact pc_some hqr4
  · skip
    refine pc_rg ?_
    refine pc_if (fun _ => ?_) (fun _ => ?_)
    · skip
      unfold m_x11_copy_J30
      refine pc_bn (fun qr4 eqr4 => ?_)
      have hqr4 := (FA.rf s).tr (fa_x11_refuse eqr4)
      exact pc_some hqr4
    · skip
      refine pc_bn (fun s14 es14 => ?_)
      have hs14 := (FA.rf s).tr (fa_x1_begin es14)
      refine pc_bn (fun s16 es16 => ?_)
      have hs16 := hs14.tr (fa_x1_share es16)
      refine pc_bn (fun qr18 eqr18 => ?_)
      have hqr18 := hs16.tr (fa_finish qr18 eqr18)
      exact pc_some hqr18
theorem fa_drop {ts : List MS} {p0 : Int} {s : MS} : pc (m_x11_drop ts p0 s) (fun q => FA s q.2.1) := by
  unfold m_x11_drop
  refine pc_bn (fun r2 er2 => ?_)
  refine pc_rg ?_
  refine pc_if (fun _ => ?_) (fun _ => ?_)
  · skip
    refine pc_bn (fun qr19 eqr19 => ?_)
    have hqr19 := (FA.rf s).tr (fa_x11_refuse eqr19)
    exact pc_some hqr19
  · skip
    refine pc_bn (fun s6 es6 => ?_)
    have hs6 := (FA.rf s).tr (fa_x1_begin es6)
    refine pc_bn (fun r8 er8 => ?_)
    refine pc_bn (fun s10 es10 => ?_)
    have hs10 := hs6.tr (fa_x1_letGo es10)
    refine pc_bn (fun qr12 eqr12 => ?_)
    have hqr12 := hs10.tr (fa_finish qr12 eqr12)
    refine pc_bn (fun r16 er16 => ?_)
    exact pc_some hqr12
theorem fa_checkpoint {ts : List MS} {s : MS} : pc (m_x11_checkpoint ts s) (fun q => FA s q.2.1) := by
  unfold m_x11_checkpoint
  refine pc_rg ?_
  refine pc_if (fun _ => ?_) (fun _ => ?_)
  · skip
    refine pc_bn (fun qr15 eqr15 => ?_)
    have hqr15 := (FA.rf s).tr (fa_x11_refuse eqr15)
    exact pc_some hqr15
  · skip
    refine pc_bn (fun s4 es4 => ?_)
    have hs4 := (FA.rf s).tr (fa_x1_begin es4)
    refine pc_bn (fun r6 er6 => ?_)
    refine pc_bn (fun s8 es8 => ?_)
    have hs8 := hs4.tr (fa_x8_save es8)
    refine pc_bn (fun qr10 eqr10 => ?_)
    have hqr10 := hs8.tr (fa_finish qr10 eqr10)
    exact pc_some hqr10
theorem fa_crash {ts : List MS} {s : MS} : pc (m_x11_crash ts s) (fun q => FA s q.2.1) := by
  unfold m_x11_crash
  refine pc_rg ?_
  refine pc_if (fun _ => ?_) (fun _ => ?_)
  · skip
    refine pc_bn (fun qr15 eqr15 => ?_)
    have hqr15 := (FA.rf s).tr (fa_x11_refuse eqr15)
    exact pc_some hqr15
  · skip
    refine pc_bn (fun s4 es4 => ?_)
    have hs4 := (FA.rf s).tr (fa_x1_begin es4)
    refine pc_bn (fun r6 er6 => ?_)
    refine pc_bn (fun s8 es8 => ?_)
    have hs8 := hs4.tr (fa_x8_fallBack es8)
    refine pc_bn (fun qr10 eqr10 => ?_)
    have hqr10 := hs8.tr (fa_finish qr10 eqr10)
    exact pc_some hqr10
theorem fa_chance {ts : List MS} {p0 : Int} {s : MS} : pc (m_x11_chance ts p0 s) (fun q => FA s q.2.1) := by
  have L : ∀ (n : Nat) (x1 x2 x3 : Int) (S : MS), FA s S → pc (m_x11_chance_L35 ts n x1 x2 x3 S) (fun q => FA s q.2.1) := by
    refine fr_ind (fun _ _ _ _ _ => pc_none) (fun n ih x1 x2 x3 S hS => ?_)
    show pc (m_x11_chance_b35 ts (m_x11_chance_L35 ts n) x1 x2 x3 S) _
    unfold m_x11_chance_b35
    refine pc_rg (pc_rg (pc_if (fun _ => pc_bn (fun q e => pc_some (hS.tr (fa_finish q e)))) (fun _ => pc_bn (fun q e => pc_rg (pc_if (fun _ => ?_) (fun _ => ?_))))))
    · exact ih _ _ _ _ (hS.tr (fa_x1_actBySeed e))
    · exact ih _ _ _ _ (hS.tr (fa_x1_actBySeed e))
  have J : pc (m_x11_chance_J18 ts s) (fun q => FA s q.2.1) := by
    unfold m_x11_chance_J18
    exact pc_bn (fun q e => pc_some (fa_x11_refuse e))
  unfold m_x11_chance
  exact pc_rg (pc_if (fun _ => J) (fun _ => pc_rg (pc_if (fun _ => J) (fun _ => pc_rg (pc_if (fun _ => pc_bn (fun s32 e => L FU _ _ _ _ (fa_x1_begin e))) (fun _ => J))))))
/-- the tape's bytes stay when a store is told -/
theorem k4_store {s : MS} : pc (m_x11_store s) (fun q => gA q.2 4 = gA s 4) := by
  unfold m_x11_store
  refine pc_bn (fun q e => pc_stn (fun s4 e4 => pc_rg (pc_if (fun _ => pc_bn (fun q17 e17 => pc_some ?_)) (fun _ => pc_eqg (pc_stn (fun s8 e8 => pc_bn (fun s10 e10 => pc_bn (fun s12 e12 => pc_stn (fun s13 e13 => pc_stn (fun s14 e14 => pc_some ?_))))))))))
  · exact ((fr_x11_refuse e17).2.1 4 (by decide)).trans ((q_Ia e4).trans ((fr_x6_readStore e).2.1 4 (by decide)))
  · have h8 : gA s8 4 = gA s4 4 := (q_Ia e8).trans (by show (if 29 ≤ 4 ∧ 4 ≤ 38 then s4.2.2.1 (4 + 10) else if 39 ≤ 4 ∧ 4 ≤ 48 then s4.2.2.1 (4 - 10) else s4.2.2.1 4) = s4.2.2.1 4; rw [if_neg (by omega), if_neg (by omega)])
    exact (q_Ia e14).trans ((q_Ia e13).trans (((fr_x2_clear e12).2.1 4 (by decide)).trans (((fr_x1_build e10).2.1 4 (by decide)).trans (h8.trans ((q_Ia e4).trans ((fr_x6_readStore e).2.1 4 (by decide)))))))
/-! ===== both tapes have the same bytes ===== -/
theorem and_eq {X Y : Int32} (h : X.toBitVec.toNat % 256 = Y.toBitVec.toNat % 256) : (X &&& i2 255).toInt = (Y &&& i2 255).toInt := by
  have e : ∀ Z : Int32, (Z &&& i2 255).toInt = (Z.toBitVec &&& 255#32).toInt := fun Z => rfl
  rw [e, e]
  have e2 : X.toBitVec &&& 255#32 = Y.toBitVec &&& 255#32 := by
    apply BitVec.eq_of_toNat_eq
    rw [BitVec.toNat_and, BitVec.toNat_and]
    show X.toBitVec.toNat &&& (2 ^ 8 - 1) = Y.toBitVec.toNat &&& (2 ^ 8 - 1)
    rw [Nat.and_two_pow_sub_one_eq_mod, Nat.and_two_pow_sub_one_eq_mod]
    exact h
  rw [e2]
theorem tI_c (x : Int32) : (2 * x.toBitVec.toNat < 4294967296 ∧ x.toInt = (x.toBitVec.toNat : Int)) ∨ (4294967296 ≤ 2 * x.toBitVec.toNat ∧ x.toInt = (x.toBitVec.toNat : Int) - 4294967296) := by
  have h : x.toInt = if 2 * x.toBitVec.toNat < 2 ^ 32 then (x.toBitVec.toNat : Int) else (x.toBitVec.toNat : Int) - ((2 ^ 32 : Nat) : Int) := BitVec.toInt_eq_toNat_cond _
  by_cases c : 2 * x.toBitVec.toNat < 2 ^ 32
  · rw [if_pos c] at h; exact Or.inl ⟨by omega, h⟩
  · rw [if_neg c] at h; exact Or.inr ⟨by omega, by omega⟩
theorem sh_eq (v : Int) {k : Int} (hk : k = 0 ∨ k = 8 ∨ k = 16 ∨ k = 24) : andZ (shrZ v k) 255 = andZ (ushrZ v k) 255 := by
  unfold andZ
  have a : i2 (shrZ v k) = i2 v >>> (i2 k &&& 31) := Int32.ofInt_toInt _
  have b : i2 (ushrZ v k) = ushr (i2 v) (i2 k) := Int32.ofInt_toInt _
  rw [a, b]
  apply and_eq
  generalize i2 v = w
  have cw := tI_c w
  have hw : w.toBitVec.toNat < 4294967296 := w.toBitVec.isLt
  rcases hk with h | h | h | h
  · subst h
    have h1 := pk_shr w (i2 0 &&& 31) 0 (by decide)
    have h2 := pk_ushr w (i2 0) 0 (by decide)
    have cx := tI_c (w >>> (i2 0 &&& 31))
    have h2 : (ushr w (i2 0)).toBitVec.toNat = w.toBitVec.toNat / 2 ^ 0 := h2
    rw [Int.shiftRight_eq_div_pow] at h1
    rw [h2]
    omega
  · subst h
    have h1 := pk_shr w (i2 8 &&& 31) 8 (by decide)
    have h2 := pk_ushr w (i2 8) 8 (by decide)
    have cx := tI_c (w >>> (i2 8 &&& 31))
    have h2 : (ushr w (i2 8)).toBitVec.toNat = w.toBitVec.toNat / 2 ^ 8 := h2
    rw [Int.shiftRight_eq_div_pow] at h1
    rw [h2]
    omega
  · subst h
    have h1 := pk_shr w (i2 16 &&& 31) 16 (by decide)
    have h2 := pk_ushr w (i2 16) 16 (by decide)
    have cx := tI_c (w >>> (i2 16 &&& 31))
    have h2 : (ushr w (i2 16)).toBitVec.toNat = w.toBitVec.toNat / 2 ^ 16 := h2
    rw [Int.shiftRight_eq_div_pow] at h1
    rw [h2]
    omega
  · subst h
    have h1 := pk_shr w (i2 24 &&& 31) 24 (by decide)
    have h2 := pk_ushr w (i2 24) 24 (by decide)
    have cx := tI_c (w >>> (i2 24 &&& 31))
    have h2 : (ushr w (i2 24)).toBitVec.toNat = w.toBitVec.toNat / 2 ^ 24 := h2
    rw [Int.shiftRight_eq_div_pow] at h1
    rw [h2]
    omega
/-- the i-th byte of a number -/
def bz (v : Int) (i : Nat) : Int := andZ (ushrZ v (24 - 8 * (i : Int))) 255
theorem fb_eq {v x : Int} (hx : 0 ≤ x) : andZ (shrZ v (8 * (3 - Int.tmod x 4))) 255 = bz v (x.toNat % 4) := by
  have km : Int.tmod x 4 = x % 4 := Int.tmod_eq_emod_of_nonneg hx
  have h4 : x.toNat % 4 = 0 ∨ x.toNat % 4 = 1 ∨ x.toNat % 4 = 2 ∨ x.toNat % 4 = 3 := by omega
  unfold bz
  rcases h4 with h | h | h | h
  · rw [km, h, show 8 * (3 - x % 4) = 24 by omega, show (24 - 8 * ((0 : Nat) : Int) : Int) = 24 by omega]; exact sh_eq v (by omega)
  · rw [km, h, show 8 * (3 - x % 4) = 16 by omega, show (24 - 8 * ((1 : Nat) : Int) : Int) = 16 by omega]; exact sh_eq v (by omega)
  · rw [km, h, show 8 * (3 - x % 4) = 8 by omega, show (24 - 8 * ((2 : Nat) : Int) : Int) = 8 by omega]; exact sh_eq v (by omega)
  · rw [km, h, show 8 * (3 - x % 4) = 0 by omega, show (24 - 8 * ((3 : Nat) : Int) : Int) = 0 by omega]; exact sh_eq v (by omega)
theorem t_append {v : Int} {s : MS} (h : 0 ≤ gI s 61 ∧ gI s 61 + 4 ≤ 1600) : pc (m_x9_append v s) (fun o => gI o 61 = gI s 61 + 4 ∧ (∀ j : Nat, (j : Int) < gI s 61 → gA o 4 j = gA s 4 j) ∧ ∀ i : Nat, i < 4 → gA o 4 ((gI s 61).toNat + i) = bz v i) := by
  have L3 : ∀ (n : Nat) (x3 : Int) (S : MS) (i : Nat), i ≤ 4 → x3 = 24 - 8 * (i : Int) → gI S 61 = gI s 61 + (i : Int) → (∀ j : Nat, (j : Int) < gI s 61 → gA S 4 j = gA s 4 j) → (∀ a : Nat, a < i → gA S 4 ((gI s 61).toNat + a) = bz v a) → pc (m_x9_append_L3 n v x3 S) (fun o => gI o 61 = gI s 61 + 4 ∧ (∀ j : Nat, (j : Int) < gI s 61 → gA o 4 j = gA s 4 j) ∧ ∀ i : Nat, i < 4 → gA o 4 ((gI s 61).toNat + i) = bz v i) := by
    refine fr_ind (fun _ _ _ _ _ _ _ _ => pc_none) (fun n ih x3 S i hi hx h61 hj ha => ?_)
    show pc (m_x9_append_b3 (m_x9_append_L3 n) v x3 S) _
    unfold m_x9_append_b3 m_x9_append_J49
    refine pc_rg (pc_if (fun c => pc_some ⟨by omega, hj, fun a h4 => ha a (by omega)⟩) (fun c => pc_rg (pc_if (fun c2 => by exfalso; omega) (fun c2 => pc_inb (pc_stn (fun s10 e10 => pc_stn (fun s11 e11 => ?_)))))))
    have u4 : gA s11 4 = upZ (gA S 4) (gI S 61).toNat (andZ (ushrZ v x3) 255) := (q_Ia e11).trans (q_AA e10)
    have u61 : gI s11 61 = gI S 61 + 1 := by rw [(q_II e11 : gI s11 61 = _), (q_Ai e10 : gI s10 61 = gI S 61)]
    refine ih (x3 + (-8)) s11 (i + 1) (by omega) (by omega) (by omega) (fun j h9 => ?_) (fun a h9 => ?_)
    · rw [u4, upZ_n (by omega)]; exact hj j h9
    · rw [u4]
      by_cases z : a = i
      · rw [z, show (gI s 61).toNat + i = (gI S 61).toNat by omega, upZ_s, hx]; rfl
      · rw [upZ_n (by omega)]; exact ha a (by omega)
  unfold m_x9_append
  exact L3 FU 24 s 0 (by omega) (by omega) (by omega) (fun _ _ => rfl) (fun a h9 => by omega)
def w5 (p0 p1 p2 p3 p4 : Int) (k : Nat) : Int := if k < 4 then p0 else if k < 8 then p1 else if k < 12 then p2 else if k < 16 then p3 else p4
/-- what a feed lays -/
def fb (p0 p1 p2 p3 p4 : Int) (k : Nat) : Int := bz (w5 p0 p1 p2 p3 p4 k) (k % 4)
def FD (f g : Nat → Int) (n : Int) (b : Nat → Int) : Prop := (∀ j : Nat, (j : Int) < n → g j = f j) ∧ ∀ k : Nat, k < 20 → g (n.toNat + k) = b k
theorem t_feed1 {p0 p1 p2 p3 p4 : Int} {s : MS} (hR : Rg s) : pc (m_x11_feed p0 p1 p2 p3 p4 s) (fun q => (1580 < gI s 61 ∧ gA q.2 4 = gA s 4) ∨ (gI s 61 ≤ 1580 ∧ FD (gA s 4) (gA q.2 4) (gI s 61) (fb p0 p1 p2 p3 p4))) := by
  have r61 : (0 : Int) ≤ gI s 61 ∧ gI s 61 ≤ 1600 := hR.1 61
  unfold m_x11_feed
  refine pc_bn (fun r2 e2 => pc_rg (pc_if (fun c => pc_bn (fun q e => pc_some ?_)) (fun c => ?_)))
  · have h := wp_det (w_x9_hasRoom hR) e2
    exact Or.inl ⟨by omega, (fr_x11_refuse e).2.1 4 (by decide)⟩
  · have h := wp_det (w_x9_hasRoom hR) e2
    refine pc_bn (fun s6 e6 => pc_bn (fun s8 e8 => pc_bn (fun s10 e10 => pc_bn (fun s12 e12 => pc_bn (fun s14 e14 => pc_some (Or.inr ⟨by omega, ?_⟩))))))
    obtain ⟨l6, a6, b6⟩ := t_append (by omega) s6 e6
    obtain ⟨l8, a8, b8⟩ := t_append (by omega) s8 e8
    obtain ⟨l10, a10, b10⟩ := t_append (by omega) s10 e10
    obtain ⟨l12, a12, b12⟩ := t_append (by omega) s12 e12
    obtain ⟨l14, a14, b14⟩ := t_append (by omega) s14 e14
    refine ⟨fun j hj => ?_, fun k hk => ?_⟩
    · show gA s14 4 j = gA s 4 j
      rw [a14 j (by omega), a12 j (by omega), a10 j (by omega), a8 j (by omega), a6 j (by omega)]
    · show gA s14 4 ((gI s 61).toNat + k) = bz (w5 p0 p1 p2 p3 p4 k) (k % 4)
      unfold w5
      by_cases c1 : k < 4
      · rw [if_pos c1, a14 _ (by omega), a12 _ (by omega), a10 _ (by omega), a8 _ (by omega), b6 k c1, show k % 4 = k by omega]
      · rw [if_neg c1]
        by_cases c2 : k < 8
        · rw [if_pos c2, a14 _ (by omega), a12 _ (by omega), a10 _ (by omega), show (gI s 61).toNat + k = (gI s6 61).toNat + (k - 4) by omega, b8 (k - 4) (by omega), show k % 4 = k - 4 by omega]
        · rw [if_neg c2]
          by_cases c3 : k < 12
          · rw [if_pos c3, a14 _ (by omega), a12 _ (by omega), show (gI s 61).toNat + k = (gI s8 61).toNat + (k - 8) by omega, b10 (k - 8) (by omega), show k % 4 = k - 8 by omega]
          · rw [if_neg c3]
            by_cases c4 : k < 16
            · rw [if_pos c4, a14 _ (by omega), show (gI s 61).toNat + k = (gI s10 61).toNat + (k - 12) by omega, b12 (k - 12) (by omega), show k % 4 = k - 12 by omega]
            · rw [if_neg c4, show (gI s 61).toNat + k = (gI s12 61).toNat + (k - 16) by omega, b14 (k - 16) (by omega), show k % 4 = k - 16 by omega]
theorem t_feed2 {p0 p1 p2 p3 p4 : Int} {t : MS} (hR : Rr t) : pc (m_x12_feed p0 p1 p2 p3 p4 t) (fun q => (1580 < gI t 1 ∧ gA q.2 0 = gA t 0) ∨ (gI t 1 ≤ 1580 ∧ FD (gA t 0) (gA q.2 0) (gI t 1) (fb p0 p1 p2 p3 p4))) := by
  have r1 : (0 : Int) ≤ gI t 1 ∧ gI t 1 ≤ 1600 := hR.1 1
  unfold m_x12_feed
  refine pc_rg (pc_if (fun c => ?_) (fun c => pc_rdI (fun _ => pc_inb (pc_stn (fun s34 e34 => pc_some (Or.inl ⟨by omega, q_Aa e34 (by decide)⟩))))))
  have L28 : ∀ (n : Nat) (x : Int) (S : MS), (0 ≤ x ∧ x ≤ 20) → gI S 1 = gI t 1 + x → (∀ j : Nat, (j : Int) < gI t 1 → gA S 0 j = gA t 0 j) → (∀ k : Nat, (k : Int) < x → gA S 0 ((gI t 1).toNat + k) = fb p0 p1 p2 p3 p4 k) → pc (m_x12_feed_L28 n p0 p1 p2 p3 p4 x S) (fun q => (1580 < gI t 1 ∧ gA q.2 0 = gA t 0) ∨ (gI t 1 ≤ 1580 ∧ FD (gA t 0) (gA q.2 0) (gI t 1) (fb p0 p1 p2 p3 p4))) := by
    refine fr_ind (fun _ _ _ _ _ _ => pc_none) (fun n ih x S hx h1 hj hk => ?_)
    show pc (m_x12_feed_b28 (m_x12_feed_L28 n) p0 p1 p2 p3 p4 x S) _
    unfold m_x12_feed_b28
    refine pc_rg (pc_if (fun c1 => pc_some (Or.inr ⟨by omega, hj, fun k h9 => hk k (by omega)⟩)) (fun c1 => ?_))
    have J : ∀ v : Int, v = w5 p0 p1 p2 p3 p4 x.toNat → pc (m_x12_feed_J81 (m_x12_feed_L28 n) p0 p1 p2 p3 p4 x v S) (fun q => (1580 < gI t 1 ∧ gA q.2 0 = gA t 0) ∨ (gI t 1 ≤ 1580 ∧ FD (gA t 0) (gA q.2 0) (gI t 1) (fb p0 p1 p2 p3 p4))) := by
      intro v hv
      unfold m_x12_feed_J81
      refine pc_dv (pc_inb (pc_stn (fun s18 e18 => pc_stn (fun s19 e19 => ?_))))
      have u0 : gA s19 0 = upZ (gA S 0) (gI S 1).toNat (bz v (x.toNat % 4)) := by rw [(q_Ia e19 : gA s19 0 = gA s18 0), (q_AA e18 : gA s18 0 = _), fb_eq hx.1]
      have u1 : gI s19 1 = gI S 1 + 1 := by rw [(q_II e19 : gI s19 1 = _), (q_Ai e18 : gI s18 1 = gI S 1)]
      refine ih (x + 1) s19 (by omega) (by omega) (fun j h9 => ?_) (fun k h9 => ?_)
      · rw [u0, upZ_n (by omega)]; exact hj j h9
      · rw [u0]
        by_cases z : k = x.toNat
        · rw [z, show (gI t 1).toNat + x.toNat = (gI S 1).toNat by omega, upZ_s, hv]; rfl
        · rw [upZ_n (by omega)]; exact hk k (by omega)
    refine pc_rg (pc_if (fun c2 => pc_rg (pc_if (fun c3 => pc_rg (pc_if (fun c4 => pc_rg (pc_if (fun c5 => J _ ?_) (fun c5 => J _ ?_))) (fun c4 => J _ ?_))) (fun c3 => J _ ?_))) (fun c2 => J _ ?_))
    · unfold w5; rw [if_neg (by omega), if_neg (by omega), if_neg (by omega), if_neg (by omega)]
    · unfold w5; rw [if_neg (by omega), if_neg (by omega), if_neg (by omega), if_pos (by omega)]
    · unfold w5; rw [if_neg (by omega), if_neg (by omega), if_pos (by omega)]
    · unfold w5; rw [if_neg (by omega), if_pos (by omega)]
    · unfold w5; rw [if_pos (by omega)]
  exact L28 FU 0 t (by omega) (by omega) (fun _ _ => rfl) (fun k h9 => by omega)
/-- bytes alike -/
def TBJ (x t : MS) : Prop := ∀ j : Nat, (j : Int) < gI x 61 → gA x 4 j = gA t 0 j
theorem TB_k {x x1 t t1 : MS} (H : TBJ x t) (h4 : gA x1 4 = gA x 4) (h0 : gA t1 0 = gA t 0) (hl : gI x1 61 ≤ gI x 61) : TBJ x1 t1 := fun j hj => by rw [h4, h0]; exact H j (by omega)
theorem TB_feed {x x1 t t1 : MS} {b : Nat → Int} (H : TBJ x t) (hl : gI x 61 = gI t 1) (h0 : 0 ≤ gI x 61) (hx : (1580 < gI x 61 ∧ gA x1 4 = gA x 4) ∨ (gI x 61 ≤ 1580 ∧ FD (gA x 4) (gA x1 4) (gI x 61) b)) (ht : (1580 < gI t 1 ∧ gA t1 0 = gA t 0) ∨ (gI t 1 ≤ 1580 ∧ FD (gA t 0) (gA t1 0) (gI t 1) b)) (h1 : (1580 < gI x 61 ∧ gI x1 61 = gI x 61) ∨ gI x1 61 = gI x 61 + 20) (h1b : gI x1 61 ≤ 1600) : TBJ x1 t1 := by
  rcases hx with ⟨a, a4⟩ | ⟨a, fx⟩
  · rcases ht with ⟨_, b0⟩ | ⟨c, _⟩
    · exact fun j hj => by
        rw [a4, b0]
        rcases h1 with ⟨_, g⟩ | g
        · exact H j (by omega)
        · by_cases z : (j : Int) < gI x 61
          · exact H j z
          · exfalso; omega
    · omega
  · rcases ht with ⟨c, _⟩ | ⟨c, ft⟩
    · omega
    · intro j hj
      by_cases z : (j : Int) < gI x 61
      · rw [fx.1 j z, ft.1 j (by omega)]; exact H j z
      · have e : j = (gI x 61).toNat + (j - (gI x 61).toNat) := by omega
        rw [e, fx.2 _ (by omega), hl, ft.2 _ (by omega)]
/-! ===== what see answers ===== -/
def okS (f : Nat → Int) (n : Int) : Prop := (n % 4 = 0 ∧ 1 ≤ n / 4 ∧ n / 4 ≤ 12) ∧ ∀ i : Nat, (i : Int) < n / 4 → 256 * f (4 * i) + f (4 * i + 1) ≤ 999 ∧ 256 * f (4 * i + 2) + f (4 * i + 3) ≤ 1000
theorem t_at {p0 : Int} {s : MS} (h : 0 ≤ p0 ∧ p0 < gI s 61) : pc (m_x9_at p0 s) (fun r => r = gA s 4 p0.toNat) := by
  unfold m_x9_at m_x9_at_J22
  exact pc_rg (pc_if (fun c => by exfalso; omega) (fun c => pc_rg (pc_rg (pc_if (fun c2 => by exfalso; omega) (fun c2 => pc_rdI (fun _ => pc_some rfl))))))
theorem t_pair {p0 : Int} {s : MS} (h : 0 ≤ p0 ∧ p0 + 1 < gI s 61) : pc (m_x9_pair p0 s) (fun r => r = 256 * gA s 4 p0.toNat + gA s 4 (p0.toNat + 1)) := by
  unfold m_x9_pair
  refine pc_bn (fun r2 e2 => pc_bn (fun r4 e4 => pc_some ?_))
  have h2 := t_at (by omega) r2 e2
  have h4 := t_at (by omega) r4 e4
  dsimp only at h2 h4
  rw [h2, h4, show (p0 + 1).toNat = p0.toNat + 1 by omega]
  omega
theorem t_take {s : MS} (h0 : 0 ≤ gI s 61) : pc (m_x7_take s) (fun q => (okS (gA s 4) (gI s 61) ∧ q.1 = 1 ∧ gI q.2 220 = gI s 61 / 4) ∨ (¬ okS (gA s 4) (gI s 61) ∧ q.1 = 0)) := by
  have kd : Int.tdiv (gI s 61) 4 = gI s 61 / 4 := Int.tdiv_eq_ediv_of_nonneg h0
  have km : Int.tmod (gI s 61) 4 = gI s 61 % 4 := Int.tmod_eq_emod_of_nonneg h0
  unfold m_x7_take m_x7_take_J27
  rw [kd, km]
  refine pc_dv (pc_dv (pc_rg (pc_if (fun c1 => pc_rg (pc_if (fun c2 => pc_some (Or.inr ⟨fun w => by have := w.1.2.1; omega, rfl⟩)) (fun c2 => pc_rg (pc_if (fun c3 => ?_) (fun c3 => pc_some (Or.inr ⟨fun w => by have := w.1.2.2; omega, rfl⟩)))))) (fun c1 => pc_some (Or.inr ⟨fun w => by have := w.1.1; omega, rfl⟩)))))
  have L74 : okS (gA s 4) (gI s 61) → ∀ (n : Nat) (x : Int) (S : MS), pc (m_x7_take_L74 n (gI s 61 / 4) x S) (fun q => (okS (gA s 4) (gI s 61) ∧ q.1 = 1 ∧ gI q.2 220 = gI s 61 / 4) ∨ (¬ okS (gA s 4) (gI s 61) ∧ q.1 = 0)) := by
    intro ok
    refine fr_ind (fun _ _ => pc_none) (fun n ih x S => ?_)
    show pc (m_x7_take_b74 (m_x7_take_L74 n) (gI s 61 / 4) x S) _
    unfold m_x7_take_b74
    exact pc_rg (pc_rg (pc_if (fun c => pc_stn (fun s7 e7 => pc_some (Or.inl ⟨ok, rfl, q_II e7⟩))) (fun c => pc_bn (fun r9 _ => pc_inb (pc_stn (fun s11 _ => pc_bn (fun r13 _ => pc_inb (pc_stn (fun s15 _ => ih (x + 1) s15)))))))))
  have L31 : ∀ (n : Nat) (x : Int), 0 ≤ x → (∀ i : Nat, (i : Int) < x → 256 * gA s 4 (4 * i) + gA s 4 (4 * i + 1) ≤ 999 ∧ 256 * gA s 4 (4 * i + 2) + gA s 4 (4 * i + 3) ≤ 1000) → pc (m_x7_take_L31 n (gI s 61 / 4) x s) (fun q => (okS (gA s 4) (gI s 61) ∧ q.1 = 1 ∧ gI q.2 220 = gI s 61 / 4) ∨ (¬ okS (gA s 4) (gI s 61) ∧ q.1 = 0)) := by
    refine fr_ind (fun _ _ _ => pc_none) (fun n ih x hx hd => ?_)
    show pc (m_x7_take_b31 (m_x7_take_L31 n) (gI s 61 / 4) x s) _
    unfold m_x7_take_b31 m_x7_take_J64
    refine pc_rg (pc_rg (pc_if (fun c => L74 ⟨⟨c1, by omega, c3⟩, fun i hi => hd i (by omega)⟩ FU 0 s) (fun c => pc_bn (fun r24 e24 => pc_rg (pc_if (fun c4 => pc_some (Or.inr ⟨fun w => ?_, rfl⟩)) (fun c4 => pc_bn (fun r28 e28 => pc_rg (pc_if (fun c5 => ?_) (fun c5 => pc_some (Or.inr ⟨fun w => ?_, rfl⟩))))))))))
    · have h24 := t_pair (by omega) r24 e24
      dsimp only at h24
      have q := (w.2 x.toNat (by omega)).1
      rw [show (x * 4).toNat = 4 * x.toNat by omega] at h24
      omega
    · have h24 := t_pair (by omega) r24 e24
      have h28 := t_pair (by omega) r28 e28
      dsimp only at h24 h28
      rw [show (x * 4).toNat = 4 * x.toNat by omega] at h24
      rw [show (x * 4 + 2).toNat = 4 * x.toNat + 2 by omega, show 4 * x.toNat + 2 + 1 = 4 * x.toNat + 3 by omega] at h28
      refine ih (x + 1) (by omega) (fun i hi => ?_)
      by_cases z : i = x.toNat
      · rw [z]; exact ⟨by omega, by omega⟩
      · exact hd i (by omega)
    · have h28 := t_pair (by omega) r28 e28
      dsimp only at h28
      have q := (w.2 x.toNat (by omega)).2
      rw [show (x * 4 + 2).toNat = 4 * x.toNat + 2 by omega, show 4 * x.toNat + 2 + 1 = 4 * x.toNat + 3 by omega] at h28
      omega
  exact L31 FU 0 (by omega) (fun i hi => by omega)
theorem t_see1 {s : MS} (hR : Rg s) : pc (m_x11_see s) (fun q => (okS (gA s 4) (gI s 61) ∧ q.1 = gI s 61 / 4) ∨ (¬ okS (gA s 4) (gI s 61) ∧ q.1 = -1)) := by
  have r61 : (0 : Int) ≤ gI s 61 ∧ gI s 61 ≤ 1600 := hR.1 61
  unfold m_x11_see m_x11_see_J39
  refine pc_bn (fun q5 e5 => pc_stn (fun s6 e6 => pc_rg (pc_if (fun c => pc_bn (fun q11 e11 => pc_some ?_)) (fun c => pc_some ?_))))
  · have h5 := t_take r61.1 q5 e5
    dsimp only at h5
    rcases h5 with ⟨_, h, _⟩ | ⟨h, _⟩
    · omega
    · refine Or.inr ⟨h, ?_⟩
      unfold m_x11_refuse at e11
      have g : pc (m_x11_refuse 1 s6) (fun q => q.1 = -1) := by
        unfold m_x11_refuse
        exact pc_rdI (fun _ => pc_inb (pc_stn (fun _ _ => pc_some rfl)))
      exact g q11 (by unfold m_x11_refuse; exact e11)
  · have h5 := t_take r61.1 q5 e5
    dsimp only at h5
    rcases h5 with ⟨h, _, g⟩ | ⟨_, h⟩
    · exact Or.inl ⟨h, by show gI s6 220 = _; rw [(q_Ii e6 (by decide) : gI s6 220 = gI q5.2 220)]; exact g⟩
    · omega
theorem t_see2 {t : MS} (hR : Rr t) : pc (m_x12_see t) (fun q => (okS (gA t 0) (gI t 1) ∧ q.1 = gI t 1 / 4) ∨ (¬ okS (gA t 0) (gI t 1) ∧ q.1 = -1)) := by
  have r1 : (0 : Int) ≤ gI t 1 ∧ gI t 1 ≤ 1600 := hR.1 1
  have kd : Int.tdiv (gI t 1) 4 = gI t 1 / 4 := Int.tdiv_eq_ediv_of_nonneg r1.1
  have km : Int.tmod (gI t 1) 4 = gI t 1 % 4 := Int.tmod_eq_emod_of_nonneg r1.1
  have L121 : okS (gA t 0) (gI t 1) → ∀ (n : Nat) (x : Int) (S : MS), pc (m_x12_see_L121 n (gI t 1) x S) (fun q => (okS (gA t 0) (gI t 1) ∧ q.1 = gI t 1 / 4) ∨ (¬ okS (gA t 0) (gI t 1) ∧ q.1 = -1)) := by
    intro ok
    refine fr_ind (fun _ _ => pc_none) (fun n ih x S => ?_)
    show pc (m_x12_see_b121 (m_x12_see_L121 n) (gI t 1) x S) _
    unfold m_x12_see_b121
    exact pc_dv (pc_rg (pc_rg (pc_if (fun c => pc_dv (pc_stn (fun s9 e9 => pc_some (Or.inl ⟨ok, (q_II e9).trans kd⟩)))) (fun c => pc_rdI (fun _ => pc_rdI (fun _ => pc_inb (pc_stn (fun s13 _ => ih (x + 1) s13))))))))
  have RF : ∀ S : MS, pc (m_x12_refuses 1 S) (fun q => q.1 = -1) := by
    intro S
    unfold m_x12_refuses
    exact pc_rdI (fun _ => pc_inb (pc_stn (fun _ _ => pc_some rfl)))
  have J109 : ∀ (y : Int) (S : MS), (y ≠ 0 ∧ okS (gA t 0) (gI t 1)) ∨ (y = 0 ∧ ¬ okS (gA t 0) (gI t 1)) → pc (m_x12_see_J109 (gI t 1) y S) (fun q => (okS (gA t 0) (gI t 1) ∧ q.1 = gI t 1 / 4) ∨ (¬ okS (gA t 0) (gI t 1) ∧ q.1 = -1)) := by
    intro y S h
    unfold m_x12_see_J109
    refine pc_rg (pc_if (fun c => pc_bn (fun q e => pc_some (Or.inr ⟨?_, RF S q e⟩))) (fun c => L121 ?_ FU 0 S))
    · rcases h with h | h
      · exact absurd c h.1
      · exact h.2
    · rcases h with h | h
      · exact h.2
      · exact absurd h.1 c
  have L36 : ∀ (n : Nat) (y x : Int) (S : MS), gA S 0 = gA t 0 → (0 ≤ x ∧ x % 4 = 0) → (y = 0 ∧ ¬ okS (gA t 0) (gI t 1)) ∨ (y = 1 ∧ (gI t 1 % 4 = 0 ∧ 1 ≤ gI t 1 / 4 ∧ gI t 1 / 4 ≤ 12) ∧ ∀ i : Nat, 4 * (i : Int) < x → 256 * gA t 0 (4 * i) + gA t 0 (4 * i + 1) ≤ 999 ∧ 256 * gA t 0 (4 * i + 2) + gA t 0 (4 * i + 3) ≤ 1000) → pc (m_x12_see_L36 n (gI t 1) y x S) (fun q => (okS (gA t 0) (gI t 1) ∧ q.1 = gI t 1 / 4) ∨ (¬ okS (gA t 0) (gI t 1) ∧ q.1 = -1)) := by
    refine fr_ind (fun _ _ _ _ _ _ => pc_none) (fun n ih y x S h0 hx hy => ?_)
    show pc (m_x12_see_b36 (m_x12_see_L36 n) (gI t 1) y x S) _
    unfold m_x12_see_b36
    refine pc_rg (pc_rg (pc_if (fun c => J109 y S ?_) (fun c => pc_rg (pc_if (fun c2 => J109 y S ?_) (fun c2 => ?_)))))
    · rcases hy with h | ⟨h, h2, h3⟩
      · exact Or.inr h
      · exact Or.inl ⟨by omega, h2, fun i hi => h3 i (by omega)⟩
    · rcases hy with h | ⟨h, _⟩
      · exact Or.inr h
      · omega
    · obtain ⟨h2, h3⟩ : (gI t 1 % 4 = 0 ∧ 1 ≤ gI t 1 / 4 ∧ gI t 1 / 4 ≤ 12) ∧ ∀ i : Nat, 4 * (i : Int) < x → 256 * gA t 0 (4 * i) + gA t 0 (4 * i + 1) ≤ 999 ∧ 256 * gA t 0 (4 * i + 2) + gA t 0 (4 * i + 3) ≤ 1000 := by
        rcases hy with h | h
        · exact absurd h.1 c2
        · exact h.2
      rw [h0]
      have ix : x.toNat = 4 * (x.toNat / 4) := by omega
      refine pc_rdI (fun _ => pc_rdI (fun _ => pc_rg (pc_if (fun c3 => ?_) (fun c3 => pc_rdI (fun _ => pc_rdI (fun _ => pc_rg (pc_if (fun c4 => ?_) (fun c4 => ?_))))))))
      · unfold m_x12_see_J101 m_x12_see_J102
        refine ih 0 (x + 4) S h0 (by omega) (Or.inl ⟨rfl, fun w => ?_⟩)
        have q := (w.2 (x.toNat / 4) (by omega)).1
        rw [show (x + 1).toNat = x.toNat + 1 by omega] at c3
        rw [← ix] at q
        omega
      · unfold m_x12_see_J101 m_x12_see_J102
        refine ih 0 (x + 4) S h0 (by omega) (Or.inl ⟨rfl, fun w => ?_⟩)
        have q := (w.2 (x.toNat / 4) (by omega)).2
        rw [show (x + 2).toNat = x.toNat + 2 by omega, show (x + 3).toNat = x.toNat + 3 by omega] at c4
        rw [← ix] at q
        omega
      · unfold m_x12_see_J102
        refine ih 1 (x + 4) S h0 (by omega) (Or.inr ⟨rfl, h2, fun i hi => ?_⟩)
        by_cases z : i = x.toNat / 4
        · rw [show (x + 1).toNat = x.toNat + 1 by omega] at c3
          rw [show (x + 2).toNat = x.toNat + 2 by omega, show (x + 3).toNat = x.toNat + 3 by omega] at c4
          rw [z, ← ix]
          exact ⟨by omega, by omega⟩
        · exact h3 i (by omega)
  unfold m_x12_see m_x12_see_J32 m_x12_see_J33
  rw [kd, km]
  refine pc_stn (fun s51 e51 => ?_)
  have h0 : gA s51 0 = gA t 0 := q_Ia e51
  refine pc_rg (pc_if (fun c1 => L36 FU 0 0 s51 h0 (by omega) (Or.inl ⟨rfl, fun w => by have := w.1; omega⟩)) (fun c1 => pc_dv (pc_rg (pc_if (fun c2 => pc_dv (pc_rg (pc_if (fun c3 => L36 FU 0 0 s51 h0 (by omega) (Or.inl ⟨rfl, fun w => by have := w.1; omega⟩)) (fun c3 => L36 FU 1 0 s51 h0 (by omega) (Or.inr ⟨rfl, by omega, fun i hi => by omega⟩))))) (fun c2 => L36 FU 0 0 s51 h0 (by omega) (Or.inl ⟨rfl, fun w => by have := w.1; omega⟩))))))
theorem okS_c {f g : Nat → Int} {n : Int} (h : ∀ j : Nat, (j : Int) < n → f j = g j) : okS f n → okS g n := fun H => ⟨H.1, fun i hi => by
  have q := H.2 i hi
  rw [h _ (by omega), h _ (by omega), h _ (by omega), h _ (by omega)] at q
  exact q⟩
theorem see_alike {x t : MS} {r r2 : Int} (hl : gI x 61 = gI t 1) (hT : TBJ x t) (h1 : (okS (gA x 4) (gI x 61) ∧ r = gI x 61 / 4) ∨ (¬ okS (gA x 4) (gI x 61) ∧ r = -1)) (h2 : (okS (gA t 0) (gI t 1) ∧ r2 = gI t 1 / 4) ∨ (¬ okS (gA t 0) (gI t 1) ∧ r2 = -1)) : r = r2 := by
  have a : okS (gA x 4) (gI x 61) → okS (gA t 0) (gI t 1) := fun h => by rw [← hl]; exact okS_c hT h
  have b : okS (gA t 0) (gI t 1) → okS (gA x 4) (gI x 61) := fun h => by rw [← hl] at h; exact okS_c (fun j hj => (hT j hj).symm) h
  rcases h1 with ⟨u, v⟩ | ⟨u, v⟩
  · rcases h2 with ⟨_, w⟩ | ⟨z, _⟩
    · rw [v, w, hl]
    · exact absurd (a u) z
  · rcases h2 with ⟨z, _⟩ | ⟨_, w⟩
    · exact absurd (b z) u
    · rw [v, w]
