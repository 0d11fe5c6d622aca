/-! ===== on: what is laid ===== -/
/-- a block as an image lays it; n: all bytes were there -/
def LB_r (f : Nat → Int) (E : Int) (b : Nat) : Prop := ((0 ≤ f (17 + 16 * b) ∧ f (17 + 16 * b) ≤ 255) ∧ (0 ≤ f (18 + 16 * b) ∧ f (18 + 16 * b) ≤ 255)) ∧ ((f (17 + 16 * b) + f (18 + 16 * b) = 0 ∧ ∀ i, 2 ≤ i → i < 16 → f (17 + 16 * b + i) = 0) ∨ (f (17 + 16 * b) + f (18 + 16 * b) ≠ 0 ∧ (0 ≤ f (19 + 16 * b) ∧ f (19 + 16 * b) ≤ 255) ∧ (1 ≤ f (20 + 16 * b) ∧ f (20 + 16 * b) ≤ E) ∧ (∀ k : Nat, (k : Int) < f (20 + 16 * b) → 0 ≤ f (27 + 16 * b + k) ∧ f (27 + 16 * b + k) ≤ 65535) ∧ (∀ k : Nat, (k : Int) < f (20 + 16 * b) → 0 ≤ f (21 + 16 * b + k) ∧ f (21 + 16 * b + k) ≤ 999) ∧ (∀ k : Nat, (k : Int) + 1 < f (20 + 16 * b) → (0 < k ∨ f (19 + 16 * b) = 0) → f (21 + 16 * b + k) < f (21 + 16 * b + (k + 1)))))
set_option maxHeartbeats 1000000 in
theorem w_x12_byteRead {p0 : Int} {s : MS} (hRs : Rr s) (hp0 : 0 ≤ p0 ∧ p0 ≤ 1599) (hp1 : gI s 114 ≤ 90000) : wp (m_x12_byteRead p0 s) (fun q => (Rr q.2) ∧ ((-1) ≤ q.1 ∧ q.1 ≤ 255) ∧ (gI q.2 114 = gI s 114 + 1) ∧ (gI q.2 114 ≤ p0 → 0 ≤ q.1)) := by
  have J33 : ∀ (x1 : Int) (s2 : MS), Rr s2 → ((-1) ≤ x1 ∧ x1 ≤ 255) → (gI s2 114 = gI s 114 + 1) → (gI s2 114 ≤ p0 → 0 ≤ x1) → wp (m_x12_byteRead_J33 x1 s2) (fun q => (Rr q.2) ∧ ((-1) ≤ q.1 ∧ q.1 ≤ 255) ∧ (gI q.2 114 = gI s 114 + 1) ∧ (gI q.2 114 ≤ p0 → 0 ≤ q.1)) := by
    intro x1 s2 hRs2 hj33_0 hj33_1 hj33_2
    unfold m_x12_byteRead_J33
    exact wp_some ⟨hRs2, by show (-1) ≤ x1 ∧ x1 ≤ 255; have : (0 : Int) ≤ gI s2 114 ∧ gI s2 114 ≤ 100000 := hRs2.1 114; have : (0 : Int) ≤ gI s 114 ∧ gI s 114 ≤ 100000 := hRs.1 114; omega, by show gI s2 114 = gI s 114 + 1; have : (0 : Int) ≤ gI s 114 ∧ gI s 114 ≤ 100000 := hRs.1 114; have : (0 : Int) ≤ gI s2 114 ∧ gI s2 114 ≤ 100000 := hRs2.1 114; omega, by show gI s2 114 ≤ p0 → 0 ≤ x1; have : (0 : Int) ≤ gI s 114 ∧ gI s 114 ≤ 100000 := hRs.1 114; have : (0 : Int) ≤ gI s2 114 ∧ gI s2 114 ≤ 100000 := hRs2.1 114; omega⟩
  unfold m_x12_byteRead
  refine wp_stn (fun s3 es3 => ?_)
  have hRs3 : Rr s3 := es3 ▸ Rr.uI hRs (by show (0 : Int) ≤ ((gI s 114) + 1) ∧ ((gI s 114) + 1) ≤ 100000; have : (0 : Int) ≤ gI s 114 ∧ gI s 114 ≤ 100000 := hRs.1 114; omega)
  have k3 : gI s3 114 = gI s 114 + 1 := q_II es3
  refine wp_rg (by have : (0 : Int) ≤ gI s 114 ∧ gI s 114 ≤ 100000 := hRs.1 114; have : gI s3 114 = (gI s 114) + 1 := q_II es3; omega) ?_
  refine wp_rg (by have : (0 : Int) ≤ gI s 114 ∧ gI s 114 ≤ 100000 := hRs.1 114; omega) ?_
  refine wp_if (fun c1 => ?_) (fun c1 => ?_)
  · skip
    exact J33 (-1) s3 hRs3 (by show (-1) ≤ (-1 : Int) ∧ (-1 : Int) ≤ 255; have : gI s3 114 = (gI s 114) + 1 := q_II es3; have : (0 : Int) ≤ gI s 114 ∧ gI s 114 ≤ 100000 := hRs.1 114; omega) (k3) (by show gI s3 114 ≤ p0 → 0 ≤ (-1 : Int); have : (0 : Int) ≤ gI s 114 ∧ gI s 114 ≤ 100000 := hRs.1 114; have : gI s3 114 = (gI s 114) + 1 := q_II es3; omega)
  · skip
    refine wp_rdIn (by have : (0 : Int) ≤ gI s 114 ∧ gI s 114 ≤ 100000 := hRs.1 114; have : gI s3 114 = (gI s 114) + 1 := q_II es3; omega) (fun y7 ey7 => ?_)
    have by7 : (0 : Int) ≤ y7 ∧ y7 ≤ 255 := ey7 ▸ hRs3.2.1 0 _ (by show _ < 1600; have : (0 : Int) ≤ gI s 114 ∧ gI s 114 ≤ 100000 := hRs.1 114; have : gI s3 114 = (gI s 114) + 1 := q_II es3; omega)
    have r7 : (0 : Int) ≤ y7 ∧ y7 ≤ 255 := ey7 ▸ hRs3.2.1 0 (gI s3 114 - 1).toNat (show (gI s3 114 - 1).toNat < 1600 by omega)
    exact J33 y7 s3 hRs3 (by show (-1) ≤ y7 ∧ y7 ≤ 255; have : gI s3 114 = (gI s 114) + 1 := q_II es3; have : (0 : Int) ≤ gI s 114 ∧ gI s 114 ≤ 100000 := hRs.1 114; omega) (k3) (by show gI s3 114 ≤ p0 → 0 ≤ y7; have : (0 : Int) ≤ gI s 114 ∧ gI s 114 ≤ 100000 := hRs.1 114; have : gI s3 114 = (gI s 114) + 1 := q_II es3; omega)
set_option maxHeartbeats 1000000 in
theorem w_x12_twoRead {p0 : Int} {s : MS} (hRs : Rr s) (hp0 : 0 ≤ p0 ∧ p0 ≤ 1599) (hp1 : gI s 114 ≤ 80000) : wp (m_x12_twoRead p0 s) (fun q => (Rr q.2) ∧ ((-1) ≤ q.1 ∧ q.1 ≤ 65535) ∧ (gI q.2 114 = gI s 114 + 2) ∧ (gI q.2 114 ≤ p0 → 0 ≤ q.1)) := by
  have J33 : ∀ (x1 : Int) (s2 : MS), Rr s2 → ((-1) ≤ x1 ∧ x1 ≤ 65535) → (gI s2 114 = gI s 114 + 2) → (gI s2 114 ≤ p0 → 0 ≤ x1) → wp (m_x12_twoRead_J33 x1 s2) (fun q => (Rr q.2) ∧ ((-1) ≤ q.1 ∧ q.1 ≤ 65535) ∧ (gI q.2 114 = gI s 114 + 2) ∧ (gI q.2 114 ≤ p0 → 0 ≤ q.1)) := by
    intro x1 s2 hRs2 hj33_0 hj33_1 hj33_2
    unfold m_x12_twoRead_J33
    exact wp_some ⟨hRs2, by show (-1) ≤ x1 ∧ x1 ≤ 65535; have : (0 : Int) ≤ gI s2 114 ∧ gI s2 114 ≤ 100000 := hRs2.1 114; have : (0 : Int) ≤ gI s 114 ∧ gI s 114 ≤ 100000 := hRs.1 114; omega, by show gI s2 114 = gI s 114 + 2; have : (0 : Int) ≤ gI s 114 ∧ gI s 114 ≤ 100000 := hRs.1 114; have : (0 : Int) ≤ gI s2 114 ∧ gI s2 114 ≤ 100000 := hRs2.1 114; omega, by show gI s2 114 ≤ p0 → 0 ≤ x1; have : (0 : Int) ≤ gI s 114 ∧ gI s 114 ≤ 100000 := hRs.1 114; have : (0 : Int) ≤ gI s2 114 ∧ gI s2 114 ≤ 100000 := hRs2.1 114; omega⟩
  unfold m_x12_twoRead
  refine wp_bn (w_x12_byteRead hRs (by show 0 ≤ p0 ∧ p0 ≤ 1599; have : (0 : Int) ≤ gI s 114 ∧ gI s 114 ≤ 100000 := hRs.1 114; omega) (by show gI s 114 ≤ 90000; have : (0 : Int) ≤ gI s 114 ∧ gI s 114 ≤ 100000 := hRs.1 114; omega)) (fun qqr6 eqr6s hqr6s => ?_)
  obtain ⟨qr6r, qr6s⟩ := qqr6
  dsimp only at eqr6s hqr6s ⊢
  have Fqr6s : F_x12_byteRead s qr6s := fr_x12_byteRead eqr6s
  obtain ⟨hRqr6s, hqr6s_0, hqr6s_1, hqr6s_2⟩ := hqr6s
  have hqr6s_0 : (-1) ≤ qr6r ∧ qr6r ≤ 255 := hqr6s_0
  have hqr6s_1 : gI qr6s 114 = gI s 114 + 1 := hqr6s_1
  have hqr6s_2 : gI qr6s 114 ≤ p0 → 0 ≤ qr6r := hqr6s_2
  refine wp_bn (w_x12_byteRead hRqr6s (by show 0 ≤ p0 ∧ p0 ≤ 1599; have : (0 : Int) ≤ gI qr6s 114 ∧ gI qr6s 114 ≤ 100000 := hRqr6s.1 114; have : (0 : Int) ≤ gI s 114 ∧ gI s 114 ≤ 100000 := hRs.1 114; omega) (by show gI qr6s 114 ≤ 90000; have : (0 : Int) ≤ gI s 114 ∧ gI s 114 ≤ 100000 := hRs.1 114; have : (0 : Int) ≤ gI qr6s 114 ∧ gI qr6s 114 ≤ 100000 := hRqr6s.1 114; omega)) (fun qqr9 eqr9s hqr9s => ?_)
  obtain ⟨qr9r, qr9s⟩ := qqr9
  dsimp only at eqr9s hqr9s ⊢
  have Fqr9s : F_x12_byteRead qr6s qr9s := fr_x12_byteRead eqr9s
  obtain ⟨hRqr9s, hqr9s_0, hqr9s_1, hqr9s_2⟩ := hqr9s
  have hqr9s_0 : (-1) ≤ qr9r ∧ qr9r ≤ 255 := hqr9s_0
  have hqr9s_1 : gI qr9s 114 = gI qr6s 114 + 1 := hqr9s_1
  have hqr9s_2 : gI qr9s 114 ≤ p0 → 0 ≤ qr9r := hqr9s_2
  refine wp_rg (by have : (0 : Int) ≤ gI qr9s 114 ∧ gI qr9s 114 ≤ 100000 := hRqr9s.1 114; have : (0 : Int) ≤ gI qr6s 114 ∧ gI qr6s 114 ≤ 100000 := hRqr6s.1 114; have : (0 : Int) ≤ gI s 114 ∧ gI s 114 ≤ 100000 := hRs.1 114; omega) ?_
  refine wp_if (fun c1 => ?_) (fun c1 => ?_)
  · skip
    unfold m_x12_twoRead_J22
    exact J33 (-1) qr9s hRqr9s (by show (-1) ≤ (-1 : Int) ∧ (-1 : Int) ≤ 65535; have : (0 : Int) ≤ gI qr9s 114 ∧ gI qr9s 114 ≤ 100000 := hRqr9s.1 114; have : (0 : Int) ≤ gI qr6s 114 ∧ gI qr6s 114 ≤ 100000 := hRqr6s.1 114; have : (0 : Int) ≤ gI s 114 ∧ gI s 114 ≤ 100000 := hRs.1 114; omega) (by show gI qr9s 114 = gI s 114 + 2; have : (0 : Int) ≤ gI qr6s 114 ∧ gI qr6s 114 ≤ 100000 := hRqr6s.1 114; have : (0 : Int) ≤ gI s 114 ∧ gI s 114 ≤ 100000 := hRs.1 114; have : (0 : Int) ≤ gI qr9s 114 ∧ gI qr9s 114 ≤ 100000 := hRqr9s.1 114; omega) (by show gI qr9s 114 ≤ p0 → 0 ≤ (-1 : Int); have : (0 : Int) ≤ gI qr6s 114 ∧ gI qr6s 114 ≤ 100000 := hRqr6s.1 114; have : (0 : Int) ≤ gI s 114 ∧ gI s 114 ≤ 100000 := hRs.1 114; have : (0 : Int) ≤ gI qr9s 114 ∧ gI qr9s 114 ≤ 100000 := hRqr9s.1 114; omega)
  · skip
    refine wp_rg (by have : (0 : Int) ≤ gI qr9s 114 ∧ gI qr9s 114 ≤ 100000 := hRqr9s.1 114; have : (0 : Int) ≤ gI qr6s 114 ∧ gI qr6s 114 ≤ 100000 := hRqr6s.1 114; have : (0 : Int) ≤ gI s 114 ∧ gI s 114 ≤ 100000 := hRs.1 114; omega) ?_
    refine wp_if (fun c2 => ?_) (fun c2 => ?_)
    · skip
      unfold m_x12_twoRead_J22
      exact J33 (-1) qr9s hRqr9s (by show (-1) ≤ (-1 : Int) ∧ (-1 : Int) ≤ 65535; have : (0 : Int) ≤ gI qr9s 114 ∧ gI qr9s 114 ≤ 100000 := hRqr9s.1 114; have : (0 : Int) ≤ gI qr6s 114 ∧ gI qr6s 114 ≤ 100000 := hRqr6s.1 114; have : (0 : Int) ≤ gI s 114 ∧ gI s 114 ≤ 100000 := hRs.1 114; omega) (by show gI qr9s 114 = gI s 114 + 2; have : (0 : Int) ≤ gI qr6s 114 ∧ gI qr6s 114 ≤ 100000 := hRqr6s.1 114; have : (0 : Int) ≤ gI s 114 ∧ gI s 114 ≤ 100000 := hRs.1 114; have : (0 : Int) ≤ gI qr9s 114 ∧ gI qr9s 114 ≤ 100000 := hRqr9s.1 114; omega) (by show gI qr9s 114 ≤ p0 → 0 ≤ (-1 : Int); have : (0 : Int) ≤ gI qr6s 114 ∧ gI qr6s 114 ≤ 100000 := hRqr6s.1 114; have : (0 : Int) ≤ gI s 114 ∧ gI s 114 ≤ 100000 := hRs.1 114; have : (0 : Int) ≤ gI qr9s 114 ∧ gI qr9s 114 ≤ 100000 := hRqr9s.1 114; omega)
    · skip
      exact J33 ((256 * qr6r) + qr9r) qr9s hRqr9s (by show (-1) ≤ ((256 * qr6r) + qr9r) ∧ ((256 * qr6r) + qr9r) ≤ 65535; have : (0 : Int) ≤ gI qr9s 114 ∧ gI qr9s 114 ≤ 100000 := hRqr9s.1 114; have : (0 : Int) ≤ gI qr6s 114 ∧ gI qr6s 114 ≤ 100000 := hRqr6s.1 114; have : (0 : Int) ≤ gI s 114 ∧ gI s 114 ≤ 100000 := hRs.1 114; omega) (by show gI qr9s 114 = gI s 114 + 2; have : (0 : Int) ≤ gI qr6s 114 ∧ gI qr6s 114 ≤ 100000 := hRqr6s.1 114; have : (0 : Int) ≤ gI s 114 ∧ gI s 114 ≤ 100000 := hRs.1 114; have : (0 : Int) ≤ gI qr9s 114 ∧ gI qr9s 114 ≤ 100000 := hRqr9s.1 114; omega) (by show gI qr9s 114 ≤ p0 → 0 ≤ ((256 * qr6r) + qr9r); have : (0 : Int) ≤ gI qr6s 114 ∧ gI qr6s 114 ≤ 100000 := hRqr6s.1 114; have : (0 : Int) ≤ gI s 114 ∧ gI s 114 ≤ 100000 := hRs.1 114; have : (0 : Int) ≤ gI qr9s 114 ∧ gI qr9s 114 ≤ 100000 := hRqr9s.1 114; omega)
set_option maxHeartbeats 1000000 in
theorem w_x12_laidOf {p0 : Int} {p1 : Int} {s : MS} (hRs : Rr s) (hp0 : 0 ≤ p0 ∧ p0 < 48) (hp1 : 0 ≤ p1 ∧ p1 < 16) : wp (m_x12_laidOf p0 p1 s) (fun r => (r = gA s 113 (17 + 16 * p0.toNat + p1.toNat)) ∧ (R2 r)) := by
  unfold m_x12_laidOf
  refine wp_rdIn (by omega) (fun y1 ey1 => ?_)
  have by1 : (-2147483648 : Int) ≤ y1 ∧ y1 ≤ 2147483647 := ey1 ▸ hRs.2.1 113 _ (by show _ < 785; omega)
  have r1 : R2 y1 := ey1 ▸ hRs.2.1 113 (17 + 16 * p0 + p1).toNat (show (17 + 16 * p0 + p1).toNat < 785 by omega)
  exact wp_some ⟨by rw [← ey1, show (17 + 16 * p0 + p1).toNat = 17 + 16 * p0.toNat + p1.toNat by omega], r1⟩
set_option maxHeartbeats 1000000 in
theorem w_x12_checked_v2 {p1 : Int} {s : MS} (hRs : Rr s) (hp0 : 0 ≤ p1 ∧ p1 ≤ 1600) : wp (m_x12_checked_v2 p1 s) (fun r => ((-251) ≤ r ∧ r ≤ 251)) := by
  unfold m_x12_checked_v2
  have L6 : ∀ (n : Nat) (x1 : Int) (x2 : Int) (x3 : Int), (x1 = p1) → ((-251) ≤ x2 ∧ x2 ≤ 251) → (0 ≤ x3 ∧ x3 ≤ p1) → (p1 - x3) < (n : Int) → wp (m_x12_checked_v2_L6 s n x1 x2 x3) (fun r => ((-251) ≤ r ∧ r ≤ 251)) := by
    refine fr_ind (fun x1 x2 x3 hv6_0 hv6_1 hv6_2 hm6 => ?_) (fun n6 ih6 x1 x2 x3 hv6_0 hv6_1 hv6_2 hm6 => ?_)
    · exfalso; omega
    · show wp (m_x12_checked_v2_b6 s (m_x12_checked_v2_L6 s n6) x1 x2 x3) _
      unfold m_x12_checked_v2_b6
      refine wp_rg (by omega) ?_
      refine wp_rg (by omega) ?_
      refine wp_if (fun c1 => ?_) (fun c1 => ?_)
      · skip
        exact wp_some (by show (-251) ≤ x2 ∧ x2 ≤ 251; omega)
      · skip
        refine wp_rdIn (by omega) (fun y7 ey7 => ?_)
        have by7 : (0 : Int) ≤ y7 ∧ y7 ≤ 255 := ey7 ▸ hRs.2.1 0 _ (by show _ < 1600; omega)
        have k7 : (0 : Int) ≤ y7 ∧ y7 ≤ 255 := ey7 ▸ hRs.2.1 0 x3.toNat (show x3.toNat < 1600 by omega)
        have km1 := Int.natAbs_tmod (3 * x2 + y7) 251
        have km2 := Nat.mod_lt (3 * x2 + y7).natAbs (show 0 < (251 : Int).natAbs by decide)
        have km3 : (251 : Int).natAbs = 251 := rfl
        refine wp_dv (by omega) ?_
        exact ih6 x1 (Int.tmod ((3 * x2) + y7) 251) (x3 + 1) (by show x1 = p1; omega) (by show (-251) ≤ (Int.tmod ((3 * x2) + y7) 251) ∧ (Int.tmod ((3 * x2) + y7) 251) ≤ 251; omega) (by show 0 ≤ (x3 + 1) ∧ (x3 + 1) ≤ p1; omega) (by omega)
  exact L6 FU p1 157 0 (by show p1 = p1; omega) (by show (-251) ≤ (157 : Int) ∧ (157 : Int) ≤ 251; omega) (by show 0 ≤ (0 : Int) ∧ (0 : Int) ≤ p1; omega) (by have := FU_big; have := FU_big2; omega)
