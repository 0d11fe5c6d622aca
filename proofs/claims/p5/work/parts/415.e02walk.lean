/-! ===== calls that change no tree; walks ===== -/
theorem R8_shl (x y : Int) : R8 (shlLZ x y) := ⟨Int64.le_toInt _, Int.le_of_lt_add_one (Int64.toInt_lt _)⟩
theorem R8_ushr (x y : Int) : R8 (ushrLZ x y) := ⟨Int64.le_toInt _, Int.le_of_lt_add_one (Int64.toInt_lt _)⟩
theorem R2_ushr (x y : Int) : R2 (ushrZ x y) := ⟨Int32.le_toInt _, Int.le_of_lt_add_one (Int32.toInt_lt _)⟩
theorem and_1 (x : Int) : 0 ≤ andL x 1 ∧ andL x 1 ≤ 1 := by
  have h : (i8 x &&& i8 1) = Int64.ofBitVec ((i8 x).toBitVec &&& 1#64) := rfl
  unfold andL
  rw [h]
  have h2 : (Int64.ofBitVec ((i8 x).toBitVec &&& 1#64)).toInt = ((i8 x).toBitVec &&& 1#64).toInt := rfl
  rw [h2]
  have h3 : ((i8 x).toBitVec &&& 1#64).toNat ≤ 1 := by
    rw [BitVec.toNat_and]
    exact Nat.and_le_right
  rw [BitVec.toInt_eq_toNat_of_lt (by omega)]
  omega
set_option maxHeartbeats 1000000 in
theorem w_x9_hasRoom {s : MS} (hRs : Rg s) : wp (m_x9_hasRoom s) (fun r => ((r = 1 ∧ gI s 61 + 20 ≤ 1600) ∨ (r = 0 ∧ 1600 < gI s 61 + 20))) := by
  unfold m_x9_hasRoom
  refine wp_rg (by have : (0 : Int) ≤ gI s 61 ∧ gI s 61 ≤ 1600 := hRs.1 61; omega) ?_
  refine wp_if (fun c1 => ?_) (fun c1 => ?_)
  · skip
    unfold m_x9_hasRoom_J18
    refine wp_bo (by have : (0 : Int) ≤ gI s 61 ∧ gI s 61 ≤ 1600 := hRs.1 61; omega) ?_
    exact wp_some (by show ((0 : Int) = 1 ∧ gI s 61 + 20 ≤ 1600) ∨ ((0 : Int) = 0 ∧ 1600 < gI s 61 + 20); have : (0 : Int) ≤ gI s 61 ∧ gI s 61 ≤ 1600 := hRs.1 61; omega)
  · skip
    unfold m_x9_hasRoom_J18
    refine wp_bo (by have : (0 : Int) ≤ gI s 61 ∧ gI s 61 ≤ 1600 := hRs.1 61; omega) ?_
    exact wp_some (by show ((1 : Int) = 1 ∧ gI s 61 + 20 ≤ 1600) ∨ ((1 : Int) = 0 ∧ 1600 < gI s 61 + 20); have : (0 : Int) ≤ gI s 61 ∧ gI s 61 ≤ 1600 := hRs.1 61; omega)
set_option maxHeartbeats 1000000 in
theorem w_x9_append {p0 : Int} {s : MS} (hRs : Rg s) (hp0 : gI s 61 + 4 ≤ 1600) : wp (m_x9_append p0 s) (fun o => (Rg o) ∧ (gI o 61 = gI s 61 + 4)) := by
  unfold m_x9_append
  have L3 : ∀ (n : Nat) (x2 : Int) (x3 : Int) (s4 : MS), Rg s4 → (x2 = p0) → (x3 = 24 ∨ x3 = 16 ∨ x3 = 8 ∨ x3 = 0 ∨ x3 = (-8)) → (gI s4 61 * 8 = gI s 61 * 8 + 24 - x3) → (x3 + 9) < (n : Int) → wp (m_x9_append_L3 n x2 x3 s4) (fun o => (Rg o) ∧ (gI o 61 = gI s 61 + 4)) := by
    refine fr_ind (fun x2 x3 s4 hRs4 hv3_0 hv3_1 hv3_2 hm3 => ?_) (fun n3 ih3 x2 x3 s4 hRs4 hv3_0 hv3_1 hv3_2 hm3 => ?_)
    · exfalso; have : (0 : Int) ≤ gI s 61 ∧ gI s 61 ≤ 1600 := hRs.1 61; have : (0 : Int) ≤ gI s4 61 ∧ gI s4 61 ≤ 1600 := hRs4.1 61; omega
    · show wp (m_x9_append_b3 (m_x9_append_L3 n3) x2 x3 s4) _
      unfold m_x9_append_b3
      refine wp_rg (by have : (0 : Int) ≤ gI s4 61 ∧ gI s4 61 ≤ 1600 := hRs4.1 61; have : (0 : Int) ≤ gI s 61 ∧ gI s 61 ≤ 1600 := hRs.1 61; omega) ?_
      refine wp_if (fun c1 => ?_) (fun c1 => ?_)
      · skip
        unfold m_x9_append_J49
        exact wp_some ⟨hRs4, by show gI s4 61 = gI s 61 + 4; have : (0 : Int) ≤ gI s 61 ∧ gI s 61 ≤ 1600 := hRs.1 61; have : (0 : Int) ≤ gI s4 61 ∧ gI s4 61 ≤ 1600 := hRs4.1 61; omega⟩
      · skip
        refine wp_rg (by have : (0 : Int) ≤ gI s 61 ∧ gI s 61 ≤ 1600 := hRs.1 61; have : (0 : Int) ≤ gI s4 61 ∧ gI s4 61 ≤ 1600 := hRs4.1 61; omega) ?_
        refine wp_if (fun c2 => ?_) (fun c2 => ?_)
        · skip
          unfold m_x9_append_J49
          exact wp_some ⟨hRs4, by show gI s4 61 = gI s 61 + 4; have : (0 : Int) ≤ gI s 61 ∧ gI s 61 ≤ 1600 := hRs.1 61; have : (0 : Int) ≤ gI s4 61 ∧ gI s4 61 ≤ 1600 := hRs4.1 61; omega⟩
        · skip
          refine wp_inb (by have : (0 : Int) ≤ gI s 61 ∧ gI s 61 ≤ 1600 := hRs.1 61; have : (0 : Int) ≤ gI s4 61 ∧ gI s4 61 ≤ 1600 := hRs4.1 61; omega) ?_
          refine wp_stn (fun s10 es10 => ?_)
          have hRs10 : Rg s10 := es10 ▸ Rg.uAu hRs4 (and_b _)
          refine wp_stn (fun s11 es11 => ?_)
          have hRs11 : Rg s11 := es11 ▸ Rg.uI hRs10 (by show (0 : Int) ≤ ((gI s10 61) + 1) ∧ ((gI s10 61) + 1) ≤ 1600; have : (0 : Int) ≤ gI s4 61 ∧ gI s4 61 ≤ 1600 := hRs4.1 61; have : (0 : Int) ≤ gI s 61 ∧ gI s 61 ≤ 1600 := hRs.1 61; have : gI s10 61 = gI s4 61 := q_Ai es10; omega)
          exact ih3 x2 (x3 + (-8)) s11 hRs11 (by show x2 = p0; have : (0 : Int) ≤ gI s4 61 ∧ gI s4 61 ≤ 1600 := hRs4.1 61; have : (0 : Int) ≤ gI s 61 ∧ gI s 61 ≤ 1600 := hRs.1 61; omega) (by show (x3 + (-8)) = 24 ∨ (x3 + (-8)) = 16 ∨ (x3 + (-8)) = 8 ∨ (x3 + (-8)) = 0 ∨ (x3 + (-8)) = (-8); have : (0 : Int) ≤ gI s4 61 ∧ gI s4 61 ≤ 1600 := hRs4.1 61; have : (0 : Int) ≤ gI s 61 ∧ gI s 61 ≤ 1600 := hRs.1 61; omega) (by show gI s11 61 * 8 = gI s 61 * 8 + 24 - (x3 + (-8)); have : (0 : Int) ≤ gI s4 61 ∧ gI s4 61 ≤ 1600 := hRs4.1 61; have : (0 : Int) ≤ gI s 61 ∧ gI s 61 ≤ 1600 := hRs.1 61; have : gI s11 61 = (gI s10 61) + 1 := q_II es11; have : gI s10 61 = gI s4 61 := q_Ai es10; omega) (by have : (0 : Int) ≤ gI s4 61 ∧ gI s4 61 ≤ 1600 := hRs4.1 61; have : (0 : Int) ≤ gI s 61 ∧ gI s 61 ≤ 1600 := hRs.1 61; omega)
  exact L3 FU p0 24 s hRs (by show p0 = p0; have : (0 : Int) ≤ gI s 61 ∧ gI s 61 ≤ 1600 := hRs.1 61; omega) (by show (24 : Int) = 24 ∨ (24 : Int) = 16 ∨ (24 : Int) = 8 ∨ (24 : Int) = 0 ∨ (24 : Int) = (-8); have : (0 : Int) ≤ gI s 61 ∧ gI s 61 ≤ 1600 := hRs.1 61; omega) (by show gI s 61 * 8 = gI s 61 * 8 + 24 - (24 : Int); have : (0 : Int) ≤ gI s 61 ∧ gI s 61 ≤ 1600 := hRs.1 61; omega) (by have := FU_big; have := FU_big2; have : (0 : Int) ≤ gI s 61 ∧ gI s 61 ≤ 1600 := hRs.1 61; omega)
set_option maxHeartbeats 1000000 in
theorem w_x11_refuse {p0 : Int} {s : MS} (hRs : Rg s) (hp0 : 0 ≤ p0 ∧ p0 < 6) : wp (m_x11_refuse p0 s) (fun q => (Rg q.2) ∧ (q.1 = -1)) := by
  unfold m_x11_refuse
  refine wp_rdIn (by omega) (fun y1 ey1 => ?_)
  refine wp_inb (by omega) ?_
  refine wp_stn (fun s3 es3 => ?_)
  have hRs3 : Rg s3 := es3 ▸ Rg.uA hRs (fun j hj => absurd hj (Nat.not_lt_zero j))
  exact wp_some ⟨hRs3, by show ((-1) ) = -1; omega⟩
set_option maxHeartbeats 1000000 in
theorem w_x11_feed {p0 : Int} {p1 : Int} {p2 : Int} {p3 : Int} {p4 : Int} {s : MS} (hRs : Rg s) : wp (m_x11_feed p0 p1 p2 p3 p4 s) (fun q => (Rg q.2) ∧ ((q.1 = -1 ∧ gI q.2 61 = gI s 61 ∧ 1580 < gI s 61) ∨ (q.1 = gI s 61 + 20 ∧ gI q.2 61 = gI s 61 + 20 ∧ gI s 61 ≤ 1580))) := by
  unfold m_x11_feed
  refine wp_bn (w_x9_hasRoom hRs) (fun r2 er2 hr2 => ?_)
  have hr2_0 := hr2
  have hr2_0 : (r2 = 1 ∧ gI s 61 + 20 ≤ 1600) ∨ (r2 = 0 ∧ 1600 < gI s 61 + 20) := hr2_0
  refine wp_rg (by have : (0 : Int) ≤ gI s 61 ∧ gI s 61 ≤ 1600 := hRs.1 61; omega) ?_
  refine wp_if (fun c1 => ?_) (fun c1 => ?_)
  · skip
    refine wp_bn (w_x11_refuse hRs (by show 0 ≤ (0 : Int) ∧ (0 : Int) < 6; have : (0 : Int) ≤ gI s 61 ∧ gI s 61 ≤ 1600 := hRs.1 61; omega)) (fun qqr17 eqr17s hqr17s => ?_)
    obtain ⟨qr17r, qr17s⟩ := qqr17
    dsimp only at eqr17s hqr17s ⊢
    have Fqr17s := fr_x11_refuse eqr17s
    obtain ⟨hRqr17s, hqr17s_0⟩ := hqr17s
    have hqr17s_0 : qr17r = -1 := hqr17s_0
    exact wp_some ⟨hRqr17s, by show (qr17r = -1 ∧ gI qr17s 61 = gI s 61 ∧ 1580 < gI s 61) ∨ (qr17r = gI s 61 + 20 ∧ gI qr17s 61 = gI s 61 + 20 ∧ gI s 61 ≤ 1580); have : (0 : Int) ≤ gI s 61 ∧ gI s 61 ≤ 1600 := hRs.1 61; have : gI qr17s 61 = gI s 61 := Fqr17s.1 61 (by decide); omega⟩
  · skip
    refine wp_bn (w_x9_append hRs (by show gI s 61 + 4 ≤ 1600; have : (0 : Int) ≤ gI s 61 ∧ gI s 61 ≤ 1600 := hRs.1 61; omega)) (fun s6 es6 hs6 => ?_)
    have Fs6 := fr_x9_append es6
    obtain ⟨hRs6, hs6_0⟩ := hs6
    have hs6_0 : gI s6 61 = gI s 61 + 4 := hs6_0
    refine wp_bn (w_x9_append hRs6 (by show gI s6 61 + 4 ≤ 1600; have : (0 : Int) ≤ gI s 61 ∧ gI s 61 ≤ 1600 := hRs.1 61; have : (0 : Int) ≤ gI s6 61 ∧ gI s6 61 ≤ 1600 := hRs6.1 61; omega)) (fun s8 es8 hs8 => ?_)
    have Fs8 := fr_x9_append es8
    obtain ⟨hRs8, hs8_0⟩ := hs8
    have hs8_0 : gI s8 61 = gI s6 61 + 4 := hs8_0
    refine wp_bn (w_x9_append hRs8 (by show gI s8 61 + 4 ≤ 1600; have : (0 : Int) ≤ gI s6 61 ∧ gI s6 61 ≤ 1600 := hRs6.1 61; have : (0 : Int) ≤ gI s 61 ∧ gI s 61 ≤ 1600 := hRs.1 61; have : (0 : Int) ≤ gI s8 61 ∧ gI s8 61 ≤ 1600 := hRs8.1 61; omega)) (fun s10 es10 hs10 => ?_)
    have Fs10 := fr_x9_append es10
    obtain ⟨hRs10, hs10_0⟩ := hs10
    have hs10_0 : gI s10 61 = gI s8 61 + 4 := hs10_0
    refine wp_bn (w_x9_append hRs10 (by show gI s10 61 + 4 ≤ 1600; have : (0 : Int) ≤ gI s8 61 ∧ gI s8 61 ≤ 1600 := hRs8.1 61; have : (0 : Int) ≤ gI s6 61 ∧ gI s6 61 ≤ 1600 := hRs6.1 61; have : (0 : Int) ≤ gI s 61 ∧ gI s 61 ≤ 1600 := hRs.1 61; have : (0 : Int) ≤ gI s10 61 ∧ gI s10 61 ≤ 1600 := hRs10.1 61; omega)) (fun s12 es12 hs12 => ?_)
    have Fs12 := fr_x9_append es12
    obtain ⟨hRs12, hs12_0⟩ := hs12
    have hs12_0 : gI s12 61 = gI s10 61 + 4 := hs12_0
    refine wp_bn (w_x9_append hRs12 (by show gI s12 61 + 4 ≤ 1600; have : (0 : Int) ≤ gI s10 61 ∧ gI s10 61 ≤ 1600 := hRs10.1 61; have : (0 : Int) ≤ gI s8 61 ∧ gI s8 61 ≤ 1600 := hRs8.1 61; have : (0 : Int) ≤ gI s6 61 ∧ gI s6 61 ≤ 1600 := hRs6.1 61; have : (0 : Int) ≤ gI s 61 ∧ gI s 61 ≤ 1600 := hRs.1 61; have : (0 : Int) ≤ gI s12 61 ∧ gI s12 61 ≤ 1600 := hRs12.1 61; omega)) (fun s14 es14 hs14 => ?_)
    have Fs14 := fr_x9_append es14
    obtain ⟨hRs14, hs14_0⟩ := hs14
    have hs14_0 : gI s14 61 = gI s12 61 + 4 := hs14_0
    exact wp_some ⟨hRs14, by show ((gI s14 61) = -1 ∧ gI s14 61 = gI s 61 ∧ 1580 < gI s 61) ∨ ((gI s14 61) = gI s 61 + 20 ∧ gI s14 61 = gI s 61 + 20 ∧ gI s 61 ≤ 1580); have : (0 : Int) ≤ gI s12 61 ∧ gI s12 61 ≤ 1600 := hRs12.1 61; have : (0 : Int) ≤ gI s10 61 ∧ gI s10 61 ≤ 1600 := hRs10.1 61; have : (0 : Int) ≤ gI s8 61 ∧ gI s8 61 ≤ 1600 := hRs8.1 61; have : (0 : Int) ≤ gI s6 61 ∧ gI s6 61 ≤ 1600 := hRs6.1 61; have : (0 : Int) ≤ gI s 61 ∧ gI s 61 ≤ 1600 := hRs.1 61; have : (0 : Int) ≤ gI s14 61 ∧ gI s14 61 ≤ 1600 := hRs14.1 61; omega⟩
set_option maxHeartbeats 1000000 in
theorem w_x11_end {p0 : Int} {s : MS} (hRs : Rg s) (hp0 : R2 p0) : wp (m_x11_end p0 s) (fun q => (Rg q.2) ∧ ((q.1 = 0 ∧ gI q.2 61 = gI s 61 ∧ (p0 < 0 ∨ gI s 61 < p0)) ∨ (q.1 = 1 ∧ gI q.2 61 = p0 ∧ 0 ≤ p0 ∧ p0 ≤ gI s 61))) := by
  unfold m_x11_end
  refine wp_rg (by omega) ?_
  refine wp_if (fun c1 => ?_) (fun c1 => ?_)
  · skip
    unfold m_x11_end_J15
    refine wp_bn (w_x11_refuse hRs (by show 0 ≤ (0 : Int) ∧ (0 : Int) < 6; omega)) (fun qqr4 eqr4s hqr4s => ?_)
    obtain ⟨qr4r, qr4s⟩ := qqr4
    dsimp only at eqr4s hqr4s ⊢
    have Fqr4s := fr_x11_refuse eqr4s
    obtain ⟨hRqr4s, hqr4s_0⟩ := hqr4s
    have hqr4s_0 : qr4r = -1 := hqr4s_0
    exact wp_some ⟨hRqr4s, by show ((0 : Int) = 0 ∧ gI qr4s 61 = gI s 61 ∧ (p0 < 0 ∨ gI s 61 < p0)) ∨ ((0 : Int) = 1 ∧ gI qr4s 61 = p0 ∧ 0 ≤ p0 ∧ p0 ≤ gI s 61); have : (0 : Int) ≤ gI s 61 ∧ gI s 61 ≤ 1600 := hRs.1 61; have : gI qr4s 61 = gI s 61 := Fqr4s.1 61 (by decide); omega⟩
  · skip
    refine wp_rg (by omega) ?_
    refine wp_rg (by have : (0 : Int) ≤ gI s 61 ∧ gI s 61 ≤ 1600 := hRs.1 61; omega) ?_
    refine wp_if (fun c2 => ?_) (fun c2 => ?_)
    · skip
      refine wp_stn (fun s10 es10 => ?_)
      have hRs10 : Rg s10 := es10 ▸ Rg.uI hRs (by show (0 : Int) ≤ p0 ∧ p0 ≤ 1600; have : (0 : Int) ≤ gI s 61 ∧ gI s 61 ≤ 1600 := hRs.1 61; omega)
      exact wp_some ⟨hRs10, by show ((1 : Int) = 0 ∧ gI s10 61 = gI s 61 ∧ (p0 < 0 ∨ gI s 61 < p0)) ∨ ((1 : Int) = 1 ∧ gI s10 61 = p0 ∧ 0 ≤ p0 ∧ p0 ≤ gI s 61); have : (0 : Int) ≤ gI s 61 ∧ gI s 61 ≤ 1600 := hRs.1 61; have : gI s10 61 = p0 := q_II es10; omega⟩
    · skip
      unfold m_x11_end_J15
      refine wp_bn (w_x11_refuse hRs (by show 0 ≤ (0 : Int) ∧ (0 : Int) < 6; have : (0 : Int) ≤ gI s 61 ∧ gI s 61 ≤ 1600 := hRs.1 61; omega)) (fun qqr4 eqr4s hqr4s => ?_)
      obtain ⟨qr4r, qr4s⟩ := qqr4
      dsimp only at eqr4s hqr4s ⊢
      have Fqr4s := fr_x11_refuse eqr4s
      obtain ⟨hRqr4s, hqr4s_0⟩ := hqr4s
      have hqr4s_0 : qr4r = -1 := hqr4s_0
      exact wp_some ⟨hRqr4s, by show ((0 : Int) = 0 ∧ gI qr4s 61 = gI s 61 ∧ (p0 < 0 ∨ gI s 61 < p0)) ∨ ((0 : Int) = 1 ∧ gI qr4s 61 = p0 ∧ 0 ≤ p0 ∧ p0 ≤ gI s 61); have : (0 : Int) ≤ gI s 61 ∧ gI s 61 ≤ 1600 := hRs.1 61; have : gI qr4s 61 = gI s 61 := Fqr4s.1 61 (by decide); omega⟩
set_option maxHeartbeats 1000000 in
theorem w_x11_fault {p0 : Int} {s : MS} (hRs : Rg s) (hp0 : R2 p0) : wp (m_x11_fault p0 s) (fun r => True) := by
  unfold m_x11_fault
  refine wp_rg (by omega) ?_
  refine wp_if (fun c1 => ?_) (fun c1 => ?_)
  · skip
    exact wp_some (trivial)
  · skip
    refine wp_rg (by omega) ?_
    refine wp_if (fun c2 => ?_) (fun c2 => ?_)
    · skip
      refine wp_rg (by have : (0 : Int) ≤ gI s 100 ∧ gI s 100 ≤ 5 := hRs.1 100; omega) ?_
      refine wp_if (fun c3 => ?_) (fun c3 => ?_)
      · skip
        unfold m_x11_fault_J37
        unfold m_x11_fault_J38
        exact wp_some (trivial)
      · skip
        unfold m_x11_fault_J38
        exact wp_some (trivial)
    · skip
      unfold m_x11_fault_J37
      unfold m_x11_fault_J38
      exact wp_some (trivial)
set_option maxHeartbeats 1000000 in
theorem w_x2_toldRows {s : MS} (hRs : Rg s) : wp (m_x2_toldRows s) (fun r => (0 ≤ r ∧ r ≤ 40 ∧ r ≤ gI s 143 ∧ (r = gI s 143 ∨ r = 40))) := by
  unfold m_x2_toldRows
  refine wp_rg (by have : (0 : Int) ≤ gI s 143 ∧ gI s 143 ≤ 60 := hRs.1 143; omega) ?_
  exact wp_some (by show 0 ≤ (minZ (gI s 143) 40) ∧ (minZ (gI s 143) 40) ≤ 40 ∧ (minZ (gI s 143) 40) ≤ gI s 143 ∧ ((minZ (gI s 143) 40) = gI s 143 ∨ (minZ (gI s 143) 40) = 40); have : (0 : Int) ≤ gI s 143 ∧ gI s 143 ≤ 60 := hRs.1 143; have mm := mn_b (gI s 143) 40; omega)
set_option maxHeartbeats 1000000 in
theorem w_x11_has {p0 : Int} {s : MS} (hRs : Rg s) (hp0 : R2 p0) : wp (m_x11_has p0 s) (fun r => True) := by
  unfold m_x11_has
  refine wp_rg (by omega) ?_
  refine wp_if (fun c1 => ?_) (fun c1 => ?_)
  · skip
    exact wp_some (trivial)
  · skip
    refine wp_if (fun c2 => ?_) (fun c2 => ?_)
    · skip
      refine wp_bn (w_x8_volumes hRs) (fun r6 er6 hr6 => ?_)
      have hr6_0 := hr6
      have hr6_0 : 0 ≤ r6 ∧ r6 ≤ 8 := hr6_0
      exact wp_some (trivial)
    · skip
      refine wp_if (fun c3 => ?_) (fun c3 => ?_)
      · skip
        refine wp_bn (w_x8_used hRs) (fun r9 er9 hr9 => ?_)
        have hr9_0 := hr9
        have hr9_0 : 0 ≤ r9 ∧ r9 ≤ 48 := hr9_0
        exact wp_some (trivial)
      · skip
        refine wp_if (fun c4 => ?_) (fun c4 => ?_)
        · skip
          refine wp_bn (w_x8_held hRs) (fun r12 er12 hr12 => ?_)
          have hr12_0 := hr12
          have hr12_0 : 0 ≤ r12 ∧ r12 ≤ 48 := hr12_0
          exact wp_some (trivial)
        · skip
          refine wp_if (fun c5 => ?_) (fun c5 => ?_)
          · skip
            refine wp_bn (w_x8_used hRs) (fun r15 er15 hr15 => ?_)
            have hr15_0 := hr15
            have hr15_0 : 0 ≤ r15 ∧ r15 ≤ 48 := hr15_0
            refine wp_bn (w_x8_held hRs) (fun r17 er17 hr17 => ?_)
            have hr17_0 := hr17
            have hr17_0 : 0 ≤ r17 ∧ r17 ≤ 48 := hr17_0
            exact wp_some (trivial)
          · skip
            refine wp_if (fun c6 => ?_) (fun c6 => ?_)
            · skip
              exact wp_some (trivial)
            · skip
              refine wp_if (fun c7 => ?_) (fun c7 => ?_)
              · skip
                refine wp_bn (w_x2_toldRows hRs) (fun r21 er21 hr21 => ?_)
                have hr21_0 := hr21
                have hr21_0 : 0 ≤ r21 ∧ r21 ≤ 40 ∧ r21 ≤ gI s 143 ∧ (r21 = gI s 143 ∨ r21 = 40) := hr21_0
                exact wp_some (trivial)
              · skip
                refine wp_if (fun c8 => ?_) (fun c8 => ?_)
                · skip
                  exact wp_some (trivial)
                · skip
                  refine wp_if (fun c9 => ?_) (fun c9 => ?_)
                  · skip
                    exact wp_some (trivial)
                  · skip
                    refine wp_if (fun c10 => ?_) (fun c10 => ?_)
                    · skip
                      refine wp_rg (by have : (0 : Int) ≤ gI s 12 ∧ gI s 12 ≤ 1 := hRs.1 12; omega) ?_
                      refine wp_if (fun c11 => ?_) (fun c11 => ?_)
                      · skip
                        unfold m_x11_has_J146
                        exact wp_some (trivial)
                      · skip
                        unfold m_x11_has_J146
                        exact wp_some (trivial)
                    · skip
                      exact wp_some (trivial)
set_option maxHeartbeats 1000000 in
theorem w_x11_letter {p0 : Int} {p1 : Int} {s : MS} (hRs : Rg s) (hp0 : R2 p0) (hp1 : R2 p1) : wp (m_x11_letter p0 p1 s) (fun r => True) := by
  unfold m_x11_letter
  refine wp_rg (by have : (0 : Int) ≤ gI s 12 ∧ gI s 12 ≤ 1 := hRs.1 12; omega) ?_
  refine wp_if (fun c1 => ?_) (fun c1 => ?_)
  · skip
    unfold m_x11_letter_J32
    exact wp_some (trivial)
  · skip
    refine wp_rg (by have : (0 : Int) ≤ gI s 12 ∧ gI s 12 ≤ 1 := hRs.1 12; omega) ?_
    refine wp_if (fun c2 => ?_) (fun c2 => ?_)
    · skip
      unfold m_x11_letter_J32
      exact wp_some (trivial)
    · skip
      refine wp_rg (by have : (0 : Int) ≤ gI s 12 ∧ gI s 12 ≤ 1 := hRs.1 12; omega) ?_
      refine wp_rg (by have : (0 : Int) ≤ gI s 12 ∧ gI s 12 ≤ 1 := hRs.1 12; have : (0 : Int) ≤ gI s 584 ∧ gI s 584 ≤ 8 := hRs.1 584; omega) ?_
      refine wp_if (fun c3 => ?_) (fun c3 => ?_)
      · skip
        unfold m_x11_letter_J32
        exact wp_some (trivial)
      · skip
        refine wp_rg (by have : (0 : Int) ≤ gI s 584 ∧ gI s 584 ≤ 8 := hRs.1 584; have : (0 : Int) ≤ gI s 12 ∧ gI s 12 ≤ 1 := hRs.1 12; omega) ?_
        refine wp_if (fun c4 => ?_) (fun c4 => ?_)
        · skip
          unfold m_x11_letter_J32
          exact wp_some (trivial)
        · skip
          refine wp_rg (by have : (0 : Int) ≤ gI s 584 ∧ gI s 584 ≤ 8 := hRs.1 584; have : (0 : Int) ≤ gI s 12 ∧ gI s 12 ≤ 1 := hRs.1 12; omega) ?_
          refine wp_if (fun c5 => ?_) (fun c5 => ?_)
          · skip
            refine wp_rdIn (by have : (0 : Int) ≤ gI s 584 ∧ gI s 584 ≤ 8 := hRs.1 584; have : (0 : Int) ≤ gI s 12 ∧ gI s 12 ≤ 1 := hRs.1 12; omega) (fun y12 ey12 => ?_)
            have by12 : (-2147483648 : Int) ≤ y12 ∧ y12 ≤ 2147483647 := ey12 ▸ hRs.2.1 30 _ (by show _ < 48; have : (0 : Int) ≤ gI s 584 ∧ gI s 584 ≤ 8 := hRs.1 584; have : (0 : Int) ≤ gI s 12 ∧ gI s 12 ≤ 1 := hRs.1 12; omega)
            exact wp_some (trivial)
          · skip
            unfold m_x11_letter_J32
            exact wp_some (trivial)
set_option maxHeartbeats 1000000 in
theorem w_x11_block {p0 : Int} {p1 : Int} {s : MS} (hRs : Rg s) (hp0 : R2 p0) (hp1 : R2 p1) : wp (m_x11_block p0 p1 s) (fun r => True) := by
  unfold m_x11_block
  refine wp_bn (w_x8_isBlock hRs (by show R2 p0; omega)) (fun r4 er4 hr4 => ?_)
  have hr4_0 := hr4
  have hr4_0 : (r4 = 1 ∧ 0 ≤ p0 ∧ p0 < gI s 1060) ∨ (r4 = 0 ∧ (p0 < 0 ∨ gI s 1060 ≤ p0)) := hr4_0
  refine wp_rg (by have : (0 : Int) ≤ gI s 1060 ∧ gI s 1060 ≤ 48 := hRs.1 1060; omega) ?_
  refine wp_if (fun c1 => ?_) (fun c1 => ?_)
  · skip
    exact wp_some (trivial)
  · skip
    refine wp_rg (by have : (0 : Int) ≤ gI s 1060 ∧ gI s 1060 ≤ 48 := hRs.1 1060; omega) ?_
    refine wp_if (fun c2 => ?_) (fun c2 => ?_)
    · skip
      refine wp_rdIn (by have : (0 : Int) ≤ gI s 1060 ∧ gI s 1060 ≤ 48 := hRs.1 1060; omega) (fun y9 ey9 => ?_)
      have by9 : (-1 : Int) ≤ y9 ∧ y9 ≤ 100000 := ey9 ▸ hRs.2.1 54 _ (by show _ < 48; have : (0 : Int) ≤ gI s 1060 ∧ gI s 1060 ≤ 48 := hRs.1 1060; omega)
      exact wp_some (trivial)
    · skip
      refine wp_if (fun c3 => ?_) (fun c3 => ?_)
      · skip
        refine wp_rdIn (by have : (0 : Int) ≤ gI s 1060 ∧ gI s 1060 ≤ 48 := hRs.1 1060; omega) (fun y11 ey11 => ?_)
        have by11 : (-1 : Int) ≤ y11 ∧ y11 ≤ 100000 := ey11 ▸ hRs.2.1 55 _ (by show _ < 48; have : (0 : Int) ≤ gI s 1060 ∧ gI s 1060 ≤ 48 := hRs.1 1060; omega)
        exact wp_some (trivial)
      · skip
        refine wp_if (fun c4 => ?_) (fun c4 => ?_)
        · skip
          refine wp_bn (w_x8_levelOf hRs (by show R2 p0; have : (0 : Int) ≤ gI s 1060 ∧ gI s 1060 ≤ 48 := hRs.1 1060; omega)) (fun r14 er14 hr14 => ?_)
          obtain ⟨hr14_0, hr14_1⟩ := hr14
          have hr14_0 : r14 = 0 ∨ (r14 = gA s 56 p0.toNat ∧ 0 ≤ p0 ∧ p0 < gI s 1060 ∧ (0 < gA s 54 p0.toNat ∨ 0 < gA s 55 p0.toNat)) := hr14_0
          have hr14_1 : (-1) ≤ r14 ∧ r14 ≤ 1000 := hr14_1
          exact wp_some (trivial)
        · skip
          refine wp_if (fun c5 => ?_) (fun c5 => ?_)
          · skip
            refine wp_bn (w_x8_sizeOf hRs (by show R2 p0; have : (0 : Int) ≤ gI s 1060 ∧ gI s 1060 ≤ 48 := hRs.1 1060; omega)) (fun r17 er17 hr17 => ?_)
            obtain ⟨hr17_0, hr17_1⟩ := hr17
            have hr17_0 : r17 = 0 ∨ (r17 = gA s 57 p0.toNat ∧ 0 ≤ p0 ∧ p0 < gI s 1060 ∧ (0 < gA s 54 p0.toNat ∨ 0 < gA s 55 p0.toNat)) := hr17_0
            have hr17_1 : (-1) ≤ r17 ∧ r17 ≤ 255 := hr17_1
            exact wp_some (trivial)
          · skip
            refine wp_if (fun c6 => ?_) (fun c6 => ?_)
            · skip
              refine wp_bn (w_x8_isFresh hRs (by show R2 p0; have : (0 : Int) ≤ gI s 1060 ∧ gI s 1060 ≤ 48 := hRs.1 1060; omega)) (fun r20 er20 hr20 => ?_)
              have hr20_0 := hr20
              have hr20_0 : (r20 = 1 ∧ 0 ≤ p0 ∧ p0 < gI s 1060 ∧ 0 < gA s 54 p0.toNat ∧ gA s 55 p0.toNat = 0) ∨ (r20 = 0 ∧ (p0 < 0 ∨ gI s 1060 ≤ p0 ∨ ¬ (0 < gA s 54 p0.toNat ∧ gA s 55 p0.toNat = 0))) := hr20_0
              refine wp_rg (by have : (0 : Int) ≤ gI s 1060 ∧ gI s 1060 ≤ 48 := hRs.1 1060; omega) ?_
              refine wp_if (fun c7 => ?_) (fun c7 => ?_)
              · skip
                unfold m_x11_block_J95
                exact wp_some (trivial)
              · skip
                unfold m_x11_block_J95
                exact wp_some (trivial)
            · skip
              refine wp_if (fun c8 => ?_) (fun c8 => ?_)
              · skip
                refine wp_bn (w_x8_isHeld hRs (by show R2 p0; have : (0 : Int) ≤ gI s 1060 ∧ gI s 1060 ≤ 48 := hRs.1 1060; omega)) (fun r25 er25 hr25 => ?_)
                have hr25_0 := hr25
                have hr25_0 : (r25 = 1 ∧ 0 ≤ p0 ∧ p0 < gI s 1060 ∧ gA s 54 p0.toNat = 0 ∧ 0 < gA s 55 p0.toNat) ∨ (r25 = 0 ∧ (p0 < 0 ∨ gI s 1060 ≤ p0 ∨ ¬ (gA s 54 p0.toNat = 0 ∧ 0 < gA s 55 p0.toNat))) := hr25_0
                refine wp_rg (by have : (0 : Int) ≤ gI s 1060 ∧ gI s 1060 ≤ 48 := hRs.1 1060; omega) ?_
                refine wp_if (fun c9 => ?_) (fun c9 => ?_)
                · skip
                  unfold m_x11_block_J109
                  exact wp_some (trivial)
                · skip
                  unfold m_x11_block_J109
                  exact wp_some (trivial)
              · skip
                exact wp_some (trivial)
set_option maxHeartbeats 1000000 in
theorem w_x11_entry {p0 : Int} {p1 : Int} {p2 : Int} {s : MS} (hRs : Rg s) (hp0 : US (hN s) (kN s)) (hp1 : R2 p0) (hp2 : R2 p1) (hp3 : R2 p2) : wp (m_x11_entry p0 p1 p2 s) (fun r => True) := by
  unfold m_x11_entry
  refine wp_bn (w_x8_isBlock hRs (by show R2 p0; omega)) (fun r3 er3 hr3 => ?_)
  have hr3_0 := hr3
  have hr3_0 : (r3 = 1 ∧ 0 ≤ p0 ∧ p0 < gI s 1060) ∨ (r3 = 0 ∧ (p0 < 0 ∨ gI s 1060 ≤ p0)) := hr3_0
  refine wp_rg (by have : (0 : Int) ≤ gI s 1060 ∧ gI s 1060 ≤ 48 := hRs.1 1060; omega) ?_
  refine wp_if (fun c1 => ?_) (fun c1 => ?_)
  · skip
    unfold m_x11_entry_J32
    exact wp_some (trivial)
  · skip
    refine wp_rg (by have : (0 : Int) ≤ gI s 1060 ∧ gI s 1060 ≤ 48 := hRs.1 1060; omega) ?_
    refine wp_if (fun c2 => ?_) (fun c2 => ?_)
    · skip
      unfold m_x11_entry_J32
      exact wp_some (trivial)
    · skip
      refine wp_bn (w_x8_sizeOf hRs (by show R2 p0; have : (0 : Int) ≤ gI s 1060 ∧ gI s 1060 ≤ 48 := hRs.1 1060; omega)) (fun r9 er9 hr9 => ?_)
      obtain ⟨hr9_0, hr9_1⟩ := hr9
      have hr9_0 : r9 = 0 ∨ (r9 = gA s 57 p0.toNat ∧ 0 ≤ p0 ∧ p0 < gI s 1060 ∧ (0 < gA s 54 p0.toNat ∨ 0 < gA s 55 p0.toNat)) := hr9_0
      have hr9_1 : (-1) ≤ r9 ∧ r9 ≤ 255 := hr9_1
      have us1 : 0 ≤ p0 → p0 < 48 → 0 ≤ gA s 57 p0.toNat ∧ gA s 57 p0.toNat ≤ 6 := fun h1 h2 => (hp0 p0.toNat (by omega)).1
      refine wp_rg (by have : (0 : Int) ≤ gI s 1060 ∧ gI s 1060 ≤ 48 := hRs.1 1060; omega) ?_
      refine wp_rg (by have : (0 : Int) ≤ gI s 1060 ∧ gI s 1060 ≤ 48 := hRs.1 1060; omega) ?_
      refine wp_if (fun c3 => ?_) (fun c3 => ?_)
      · skip
        refine wp_bn (w_x8_slot hRs) (fun r14 er14 hr14 => ?_)
        have hr14_0 := hr14
        have hr14_0 : r14 = p0 * 6 + p1 := hr14_0
        refine wp_rg (by have : (0 : Int) ≤ gI s 1060 ∧ gI s 1060 ≤ 48 := hRs.1 1060; omega) ?_
        refine wp_if (fun c4 => ?_) (fun c4 => ?_)
        · skip
          refine wp_rdIn (by have : (0 : Int) ≤ gI s 1060 ∧ gI s 1060 ≤ 48 := hRs.1 1060; omega) (fun y20 ey20 => ?_)
          have by20 : (-257 : Int) ≤ y20 ∧ y20 ≤ 65535 := ey20 ▸ hRs.2.1 58 _ (by show _ < 288; have : (0 : Int) ≤ gI s 1060 ∧ gI s 1060 ≤ 48 := hRs.1 1060; omega)
          exact wp_some (trivial)
        · skip
          refine wp_rg (by have : (0 : Int) ≤ gI s 1060 ∧ gI s 1060 ≤ 48 := hRs.1 1060; omega) ?_
          refine wp_if (fun c5 => ?_) (fun c5 => ?_)
          · skip
            refine wp_rdIn (by have : (0 : Int) ≤ gI s 1060 ∧ gI s 1060 ≤ 48 := hRs.1 1060; omega) (fun y19 ey19 => ?_)
            have by19 : (-257 : Int) ≤ y19 ∧ y19 ≤ 65535 := ey19 ▸ hRs.2.1 59 _ (by show _ < 288; have : (0 : Int) ≤ gI s 1060 ∧ gI s 1060 ≤ 48 := hRs.1 1060; omega)
            unfold m_x11_entry_J73
            exact wp_some (trivial)
          · skip
            unfold m_x11_entry_J73
            exact wp_some (trivial)
      · skip
        unfold m_x11_entry_J32
        exact wp_some (trivial)
set_option maxHeartbeats 1000000 in
theorem w_x2_toldOf {p0 : Int} {p1 : Int} {s : MS} (hRs : Rg s) (hp0 : R2 p0) (hp1 : R2 p1) : wp (m_x2_toldOf p0 p1 s) (fun r => True) := by
  unfold m_x2_toldOf
  refine wp_rg (by omega) ?_
  refine wp_if (fun c1 => ?_) (fun c1 => ?_)
  · skip
    unfold m_x2_toldOf_J12
    exact wp_some (trivial)
  · skip
    refine wp_bn (w_x2_toldRows hRs) (fun r4 er4 hr4 => ?_)
    have hr4_0 := hr4
    have hr4_0 : 0 ≤ r4 ∧ r4 ≤ 40 ∧ r4 ≤ gI s 143 ∧ (r4 = gI s 143 ∨ r4 = 40) := hr4_0
    refine wp_rg (by have : (0 : Int) ≤ gI s 143 ∧ gI s 143 ≤ 60 := hRs.1 143; omega) ?_
    refine wp_rg (by have : (0 : Int) ≤ gI s 143 ∧ gI s 143 ≤ 60 := hRs.1 143; omega) ?_
    refine wp_if (fun c2 => ?_) (fun c2 => ?_)
    · skip
      refine wp_bn (w_x2_toldRows hRs) (fun r9 er9 hr9 => ?_)
      have hr9_0 := hr9
      have hr9_0 : 0 ≤ r9 ∧ r9 ≤ 40 ∧ r9 ≤ gI s 143 ∧ (r9 = gI s 143 ∨ r9 = 40) := hr9_0
      refine wp_rg (by have : (0 : Int) ≤ gI s 143 ∧ gI s 143 ≤ 60 := hRs.1 143; omega) ?_
      refine wp_if (fun c3 => ?_) (fun c3 => ?_)
      · skip
        refine wp_rdIn (by have : (0 : Int) ≤ gI s 143 ∧ gI s 143 ≤ 60 := hRs.1 143; omega) (fun y12 ey12 => ?_)
        have by12 : (-2147483648 : Int) ≤ y12 ∧ y12 ≤ 2147483647 := ey12 ▸ hRs.2.1 8 _ (by show _ < 60; have : (0 : Int) ≤ gI s 143 ∧ gI s 143 ≤ 60 := hRs.1 143; omega)
        exact wp_some (trivial)
      · skip
        refine wp_if (fun c4 => ?_) (fun c4 => ?_)
        · skip
          refine wp_rdIn (by have : (0 : Int) ≤ gI s 143 ∧ gI s 143 ≤ 60 := hRs.1 143; omega) (fun y14 ey14 => ?_)
          have by14 : (-2147483648 : Int) ≤ y14 ∧ y14 ≤ 2147483647 := ey14 ▸ hRs.2.1 9 _ (by show _ < 60; have : (0 : Int) ≤ gI s 143 ∧ gI s 143 ≤ 60 := hRs.1 143; omega)
          exact wp_some (trivial)
        · skip
          refine wp_if (fun c5 => ?_) (fun c5 => ?_)
          · skip
            refine wp_rdIn (by have : (0 : Int) ≤ gI s 143 ∧ gI s 143 ≤ 60 := hRs.1 143; omega) (fun y16 ey16 => ?_)
            have by16 : (-2147483648 : Int) ≤ y16 ∧ y16 ≤ 2147483647 := ey16 ▸ hRs.2.1 10 _ (by show _ < 60; have : (0 : Int) ≤ gI s 143 ∧ gI s 143 ≤ 60 := hRs.1 143; omega)
            exact wp_some (trivial)
          · skip
            exact wp_some (trivial)
    · skip
      unfold m_x2_toldOf_J12
      exact wp_some (trivial)
set_option maxHeartbeats 1000000 in
theorem w_x11_kept {p0 : Int} {p1 : Int} {s : MS} (hRs : Rg s) (hp0 : R2 p0) (hp1 : R2 p1) : wp (m_x11_kept p0 p1 s) (fun r => True) := by
  unfold m_x11_kept
  refine wp_bn (w_x2_toldOf hRs (by show R2 p0; omega) (by show R2 p1; omega)) (fun r2 er2 hr2 => ?_)
  exact wp_some (trivial)
set_option maxHeartbeats 1000000 in
theorem w_x11_isKey {p0 : Int} {s : MS} (hRs : Rg s) (hp0 : R2 p0) : wp (m_x11_isKey p0 s) (fun r => ((r = 1 ∧ 0 ≤ p0 ∧ p0 ≤ 999) ∨ (r = 0 ∧ (p0 < 0 ∨ 999 < p0)))) := by
  unfold m_x11_isKey
  refine wp_rg (by omega) ?_
  refine wp_if (fun c1 => ?_) (fun c1 => ?_)
  · skip
    unfold m_x11_isKey_J15
    unfold m_x11_isKey_J16
    refine wp_bo (by omega) ?_
    exact wp_some (by show ((0 : Int) = 1 ∧ 0 ≤ p0 ∧ p0 ≤ 999) ∨ ((0 : Int) = 0 ∧ (p0 < 0 ∨ 999 < p0)); omega)
  · skip
    refine wp_rg (by omega) ?_
    refine wp_if (fun c2 => ?_) (fun c2 => ?_)
    · skip
      unfold m_x11_isKey_J15
      unfold m_x11_isKey_J16
      refine wp_bo (by omega) ?_
      exact wp_some (by show ((0 : Int) = 1 ∧ 0 ≤ p0 ∧ p0 ≤ 999) ∨ ((0 : Int) = 0 ∧ (p0 < 0 ∨ 999 < p0)); omega)
    · skip
      unfold m_x11_isKey_J16
      refine wp_bo (by omega) ?_
      exact wp_some (by show ((1 : Int) = 1 ∧ 0 ≤ p0 ∧ p0 ≤ 999) ∨ ((1 : Int) = 0 ∧ (p0 < 0 ∨ 999 < p0)); omega)
set_option maxHeartbeats 1000000 in
theorem w_x11_seed {p0 : Int} {s : MS} (hRs : Rg s) (hp0 : R2 p0) : wp (m_x11_seed p0 s) (fun q => (Rg q.2)) := by
  unfold m_x11_seed
  refine wp_rg (by omega) ?_
  refine wp_if (fun c1 => ?_) (fun c1 => ?_)
  · skip
    refine wp_stn (fun s3 es3 => ?_)
    have hRs3 : Rg s3 := es3 ▸ Rg.uI hRs (by show (0 : Int) ≤ p0 ∧ p0 ≤ 2147483647; omega)
    exact wp_some (hRs3)
  · skip
    refine wp_bn (w_x11_refuse hRs (by show 0 ≤ (5 : Int) ∧ (5 : Int) < 6; omega)) (fun qqr6 eqr6s hqr6s => ?_)
    obtain ⟨qr6r, qr6s⟩ := qqr6
    dsimp only at eqr6s hqr6s ⊢
    have Fqr6s := fr_x11_refuse eqr6s
    obtain ⟨hRqr6s, hqr6s_0⟩ := hqr6s
    have hqr6s_0 : qr6r = -1 := hqr6s_0
    exact wp_some (hRqr6s)
set_option maxHeartbeats 1000000 in
theorem w_x11_status {p0 : Int} {s : MS} (hRs : Rg s) (hp0 : R2 p0) : wp (m_x11_status p0 s) (fun r => True) := by
  unfold m_x11_status
  refine wp_rg (by omega) ?_
  refine wp_if (fun c1 => ?_) (fun c1 => ?_)
  · skip
    unfold m_x11_status_J19
    unfold m_x11_status_J20
    exact wp_some (trivial)
  · skip
    refine wp_rg (by omega) ?_
    refine wp_if (fun c2 => ?_) (fun c2 => ?_)
    · skip
      unfold m_x11_status_J19
      unfold m_x11_status_J20
      exact wp_some (trivial)
    · skip
      refine wp_rdIn (by omega) (fun y6 ey6 => ?_)
      unfold m_x11_status_J20
      exact wp_some (trivial)
set_option maxHeartbeats 1000000 in
theorem w_x11_octet {p0 : Int} {s : MS} (hRs : Rg s) (hp0 : R2 p0) : wp (m_x11_octet p0 s) (fun r => True) := by
  unfold m_x11_octet
  refine wp_rg (by omega) ?_
  refine wp_if (fun c1 => ?_) (fun c1 => ?_)
  · skip
    unfold m_x11_octet_J27
    unfold m_x11_octet_J28
    exact wp_some (trivial)
  · skip
    refine wp_rg (by omega) ?_
    refine wp_rg (by have : (0 : Int) ≤ gI s 321 ∧ gI s 321 ≤ 1364 := hRs.1 321; omega) ?_
    refine wp_if (fun c2 => ?_) (fun c2 => ?_)
    · skip
      unfold m_x11_octet_J27
      unfold m_x11_octet_J28
      exact wp_some (trivial)
    · skip
      refine wp_rdIn (by have : (0 : Int) ≤ gI s 321 ∧ gI s 321 ≤ 1364 := hRs.1 321; omega) (fun y7 ey7 => ?_)
      have by7 : (0 : Int) ≤ y7 ∧ y7 ≤ 255 := ey7 ▸ hRs.2.1 17 _ (by show _ < 1364; have : (0 : Int) ≤ gI s 321 ∧ gI s 321 ≤ 1364 := hRs.1 321; omega)
      unfold m_x11_octet_J28
      exact wp_some (trivial)
set_option maxHeartbeats 1000000 in
theorem w_x11_oneOf {p0 : Int} {p1 : Int} {p2 : Int} {s : MS} (hRs : Rg s) (hp0 : R2 p0) : wp (m_x11_oneOf p0 p1 p2 s) (fun r => True) := by
  unfold m_x11_oneOf
  refine wp_rg (by omega) ?_
  refine wp_if (fun c1 => ?_) (fun c1 => ?_)
  · skip
    exact wp_some (trivial)
  · skip
    refine wp_rg (by omega) ?_
    refine wp_if (fun c2 => ?_) (fun c2 => ?_)
    · skip
      unfold m_x11_oneOf_J16
      exact wp_some (trivial)
    · skip
      unfold m_x11_oneOf_J16
      exact wp_some (trivial)
set_option maxHeartbeats 1000000 in
theorem w_x11_room {p0 : Int} {s : MS} (hRs : Rg s) (hp0 : R2 p0) : wp (m_x11_room p0 s) (fun r => True) := by
  unfold m_x11_room
  refine wp_rg (by have : (0 : Int) ≤ gI s 12 ∧ gI s 12 ≤ 1 := hRs.1 12; omega) ?_
  refine wp_if (fun c1 => ?_) (fun c1 => ?_)
  · skip
    exact wp_some (trivial)
  · skip
    refine wp_rg (by have : (0 : Int) ≤ gI s 12 ∧ gI s 12 ≤ 1 := hRs.1 12; omega) ?_
    refine wp_if (fun c2 => ?_) (fun c2 => ?_)
    · skip
      refine wp_bn (w_x8_used hRs) (fun r6 er6 hr6 => ?_)
      have hr6_0 := hr6
      have hr6_0 : 0 ≤ r6 ∧ r6 ≤ 48 := hr6_0
      refine wp_bn (w_x8_held hRs) (fun r8 er8 hr8 => ?_)
      have hr8_0 := hr8
      have hr8_0 : 0 ≤ r8 ∧ r8 ≤ 48 := hr8_0
      exact wp_some (trivial)
    · skip
      refine wp_if (fun c3 => ?_) (fun c3 => ?_)
      · skip
        refine wp_bn (w_x8_used hRs) (fun r11 er11 hr11 => ?_)
        have hr11_0 := hr11
        have hr11_0 : 0 ≤ r11 ∧ r11 ≤ 48 := hr11_0
        exact wp_some (trivial)
      · skip
        refine wp_if (fun c4 => ?_) (fun c4 => ?_)
        · skip
          refine wp_bn (w_x8_keptBlocks hRs) (fun r14 er14 hr14 => ?_)
          have hr14_0 := hr14
          have hr14_0 : 0 ≤ r14 ∧ r14 ≤ 48 := hr14_0
          exact wp_some (trivial)
        · skip
          exact wp_some (trivial)
set_option maxHeartbeats 1000000 in
theorem w_j13_bitCount_95d88 {p0 : Int} {s : MS} (hRs : Rg s) : wp (m_j13_bitCount_95d88 p0 s) (fun r => True) := by
  unfold m_j13_bitCount_95d88
  exact wp_some (trivial)
set_option maxHeartbeats 1000000 in
theorem w_x2_clear {s : MS} (hRs : Rg s) : wp (m_x2_clear s) (fun o => (Rg o) ∧ (gI o 143 = 0 ∧ gI o 145 = 0)) := by
  unfold m_x2_clear
  refine wp_stn (fun s1 es1 => ?_)
  have hRs1 : Rg s1 := es1 ▸ Rg.uI hRs (by show (0 : Int) ≤ (0 : Int) ∧ (0 : Int) ≤ 60; omega)
  refine wp_stn (fun s2 es2 => ?_)
  have hRs2 : Rg s2 := es2 ▸ Rg.uI hRs1 (by show (0 : Int) ≤ (0 : Int) ∧ (0 : Int) ≤ 20; omega)
  exact wp_some ⟨hRs2, by show gI s2 143 = 0 ∧ gI s2 145 = 0; have : gI s2 145 = 0 := q_II es2; have : gI s2 143 = gI s1 143 := q_Ii es2 (by decide); have : gI s1 143 = 0 := q_II es1; omega⟩
set_option maxHeartbeats 1000000 in
theorem w_x10_tree {p1 : Int} {s : MS} (hRs : Rg s) (hp0 : US (hN s) (kN s)) (hp1 : (-2) ≤ p1 ∧ p1 < 48) : wp (m_x10_tree p1 s) (fun q => (Rg q.2) ∧ (R8 q.1)) := by
  unfold m_x10_tree
  refine wp_stn (fun s42 es42 => ?_)
  have hRs42 : Rg s42 := es42 ▸ Rg.uI hRs (by show (0 : Int) ≤ (0 : Int) ∧ (0 : Int) ≤ 48; omega)
  refine wp_rg (by omega) ?_
  refine wp_if (fun c1 => ?_) (fun c1 => ?_)
  · skip
    refine wp_inb (by omega) ?_
    refine wp_stn (fun s46 es46 => ?_)
    have hRs46 : Rg s46 := es46 ▸ Rg.uAu hRs42 (by show (0 : Int) ≤ p1 ∧ p1 ≤ 47; omega)
    refine wp_stn (fun s47 es47 => ?_)
    have hRs47 : Rg s47 := es47 ▸ Rg.uI hRs46 (by show (0 : Int) ≤ (1 : Int) ∧ (1 : Int) ≤ 48; omega)
    have L30 : ∀ (n : Nat) (z3 : Int) (x4 : Int) (s5 : MS), Rg s5 → (R8 z3) → (0 ≤ x4 ∧ x4 ≤ 48) → (gA s5 56 = gA s 56 ∧ gA s5 57 = gA s 57 ∧ gA s5 58 = gA s 58 ∧ gA s5 59 = gA s 59) → (48 - x4) < (n : Int) → wp (m_x10_tree_L30 n z3 x4 s5) (fun q => (Rg q.2) ∧ (R8 q.1)) := by
      refine fr_ind (fun z3 x4 s5 hRs5 hv30_0 hv30_1 hv30_2 hm30 => ?_) (fun n30 ih30 z3 x4 s5 hRs5 hv30_0 hv30_1 hv30_2 hm30 => ?_)
      · exfalso; omega
      · show wp (m_x10_tree_b30 (m_x10_tree_L30 n30) z3 x4 s5) _
        unfold m_x10_tree_b30
        refine wp_rg (by omega) ?_
        refine wp_rg (by have : (0 : Int) ≤ gI s5 421 ∧ gI s5 421 ≤ 48 := hRs5.1 421; omega) ?_
        refine wp_if (fun c2 => ?_) (fun c2 => ?_)
        · skip
          unfold m_x10_tree_J161
          exact wp_some ⟨hRs5, hv30_0⟩
        · skip
          refine wp_rg (by have : (0 : Int) ≤ gI s5 421 ∧ gI s5 421 ≤ 48 := hRs5.1 421; omega) ?_
          refine wp_if (fun c3 => ?_) (fun c3 => ?_)
          · skip
            unfold m_x10_tree_J161
            exact wp_some ⟨hRs5, hv30_0⟩
          · skip
            refine wp_rdIn (by have : (0 : Int) ≤ gI s5 421 ∧ gI s5 421 ≤ 48 := hRs5.1 421; omega) (fun y36 ey36 => ?_)
            have by36 : (0 : Int) ≤ y36 ∧ y36 ≤ 47 := ey36 ▸ hRs5.2.1 22 _ (by show _ < 48; have : (0 : Int) ≤ gI s5 421 ∧ gI s5 421 ≤ 48 := hRs5.1 421; omega)
            refine wp_rdIn (by have : (0 : Int) ≤ gI s5 421 ∧ gI s5 421 ≤ 48 := hRs5.1 421; omega) (fun y37 ey37 => ?_)
            have by37 : (-1 : Int) ≤ y37 ∧ y37 ≤ 1000 := ey37 ▸ hRs5.2.1 56 _ (by show _ < 48; have : (0 : Int) ≤ gI s5 421 ∧ gI s5 421 ≤ 48 := hRs5.1 421; omega)
            refine wp_rg (by have : (0 : Int) ≤ gI s5 421 ∧ gI s5 421 ≤ 48 := hRs5.1 421; omega) ?_
            refine wp_if (fun c4 => ?_) (fun c4 => ?_)
            · skip
              unfold m_x10_tree_J77
              have L82 : ∀ (n : Nat) (z9 : Int) (x10 : Int) (x11 : Int) (x12 : Int) (s13 : MS), Rg s13 → (R8 z9) → (0 ≤ x10 ∧ x10 < 48 ∧ x10 = x4) → (x11 ≤ 0 ∨ (x11 = gA s 57 (gA s13 22 x10.toNat).toNat ∧ 0 < gA s 56 (gA s13 22 x10.toNat).toNat)) → (0 ≤ x12 ∧ x12 ≤ 6) → (x10 < gI s13 421) → (gA s13 56 = gA s 56 ∧ gA s13 57 = gA s 57 ∧ gA s13 58 = gA s 58 ∧ gA s13 59 = gA s 59) → ((-1) ≤ x11 ∧ x11 ≤ 255) → (6 - x12) < (n : Int) → wp (m_x10_tree_L82 (m_x10_tree_L30 n30) n z9 x10 x11 x12 s13) (fun q => (Rg q.2) ∧ (R8 q.1)) := by
                refine fr_ind (fun z9 x10 x11 x12 s13 hRs13 hv82_0 hv82_1 hv82_2 hv82_3 hv82_4 hv82_5 hv82_6 hm82 => ?_) (fun n82 ih82 z9 x10 x11 x12 s13 hRs13 hv82_0 hv82_1 hv82_2 hv82_3 hv82_4 hv82_5 hv82_6 hm82 => ?_)
                · exfalso; have : (0 : Int) ≤ gI s13 421 ∧ gI s13 421 ≤ 48 := hRs13.1 421; omega
                · show wp (m_x10_tree_b82 (m_x10_tree_L30 n30) (m_x10_tree_L82 (m_x10_tree_L30 n30) n82) z9 x10 x11 x12 s13) _
                  unfold m_x10_tree_b82
                  refine wp_rg (by have : (0 : Int) ≤ gI s13 421 ∧ gI s13 421 ≤ 48 := hRs13.1 421; have : (0 : Int) ≤ gI s5 421 ∧ gI s5 421 ≤ 48 := hRs5.1 421; omega) ?_
                  refine wp_rg (by have : (0 : Int) ≤ gI s13 421 ∧ gI s13 421 ≤ 48 := hRs13.1 421; have : (0 : Int) ≤ gI s5 421 ∧ gI s5 421 ≤ 48 := hRs5.1 421; omega) ?_
                  refine wp_if (fun c5 => ?_) (fun c5 => ?_)
                  · skip
                    unfold m_x10_tree_J155
                    exact ih30 z9 (x10 + 1) s13 hRs13 (hv82_0) (by show 0 ≤ (x10 + 1) ∧ (x10 + 1) ≤ 48; have : (0 : Int) ≤ gI s13 421 ∧ gI s13 421 ≤ 48 := hRs13.1 421; have : (0 : Int) ≤ gI s5 421 ∧ gI s5 421 ≤ 48 := hRs5.1 421; omega) (hv82_5) (by have : (0 : Int) ≤ gI s13 421 ∧ gI s13 421 ≤ 48 := hRs13.1 421; have : (0 : Int) ≤ gI s5 421 ∧ gI s5 421 ≤ 48 := hRs5.1 421; omega)
                  · skip
                    refine wp_rg (by have : (0 : Int) ≤ gI s5 421 ∧ gI s5 421 ≤ 48 := hRs5.1 421; have : (0 : Int) ≤ gI s13 421 ∧ gI s13 421 ≤ 48 := hRs13.1 421; omega) ?_
                    refine wp_if (fun c6 => ?_) (fun c6 => ?_)
                    · skip
                      unfold m_x10_tree_J155
                      exact ih30 z9 (x10 + 1) s13 hRs13 (hv82_0) (by show 0 ≤ (x10 + 1) ∧ (x10 + 1) ≤ 48; have : (0 : Int) ≤ gI s13 421 ∧ gI s13 421 ≤ 48 := hRs13.1 421; have : (0 : Int) ≤ gI s5 421 ∧ gI s5 421 ≤ 48 := hRs5.1 421; omega) (hv82_5) (by have : (0 : Int) ≤ gI s13 421 ∧ gI s13 421 ≤ 48 := hRs13.1 421; have : (0 : Int) ≤ gI s5 421 ∧ gI s5 421 ≤ 48 := hRs5.1 421; omega)
                    · skip
                      refine wp_rdIn (by have : (0 : Int) ≤ gI s13 421 ∧ gI s13 421 ≤ 48 := hRs13.1 421; have : (0 : Int) ≤ gI s5 421 ∧ gI s5 421 ≤ 48 := hRs5.1 421; omega) (fun y19 ey19 => ?_)
                      have by19 : (0 : Int) ≤ y19 ∧ y19 ≤ 47 := ey19 ▸ hRs13.2.1 22 _ (by show _ < 48; have : (0 : Int) ≤ gI s13 421 ∧ gI s13 421 ≤ 48 := hRs13.1 421; have : (0 : Int) ≤ gI s5 421 ∧ gI s5 421 ≤ 48 := hRs5.1 421; omega)
                      have us := hp0 y19.toNat (by omega)
                      have us1 : 0 ≤ gA s 57 y19.toNat ∧ gA s 57 y19.toNat ≤ 6 := us.1
                      have hw := hv82_2
                      rw [ey19] at hw
                      refine wp_bn (w_x8_slot hRs13) (fun r21 er21 hr21 => ?_)
                      have hr21_0 := hr21
                      have hr21_0 : r21 = y19 * 6 + x12 := hr21_0
                      refine wp_rdIn (by have : (0 : Int) ≤ gI s13 421 ∧ gI s13 421 ≤ 48 := hRs13.1 421; have : (0 : Int) ≤ gI s5 421 ∧ gI s5 421 ≤ 48 := hRs5.1 421; omega) (fun y22 ey22 => ?_)
                      have by22 : (-257 : Int) ≤ y22 ∧ y22 ≤ 65535 := ey22 ▸ hRs13.2.1 59 _ (by show _ < 288; have : (0 : Int) ≤ gI s13 421 ∧ gI s13 421 ≤ 48 := hRs13.1 421; have : (0 : Int) ≤ gI s5 421 ∧ gI s5 421 ≤ 48 := hRs5.1 421; omega)
                      have us2 := us.2.1 (by show 0 < gA s 56 y19.toNat; omega) x12.toNat (by show ((x12.toNat : Nat) : Int) < gA s 57 y19.toNat; omega)
                      have us3 : 0 ≤ gA s 59 (6 * y19.toNat + x12.toNat) ∧ gA s 59 (6 * y19.toNat + x12.toNat) < 48 := us2
                      rw [← hv82_5.2.2.2, show 6 * y19.toNat + x12.toNat = r21.toNat by omega, ey22] at us3
                      refine wp_inb (by have : (0 : Int) ≤ gI s5 421 ∧ gI s5 421 ≤ 48 := hRs5.1 421; have : (0 : Int) ≤ gI s13 421 ∧ gI s13 421 ≤ 48 := hRs13.1 421; omega) ?_
                      refine wp_stn (fun s24 es24 => ?_)
                      have hRs24 : Rg s24 := es24 ▸ Rg.uAu hRs13 (by show (0 : Int) ≤ y22 ∧ y22 ≤ 47; have : (0 : Int) ≤ gI s13 421 ∧ gI s13 421 ≤ 48 := hRs13.1 421; have : (0 : Int) ≤ gI s5 421 ∧ gI s5 421 ≤ 48 := hRs5.1 421; omega)
                      refine wp_rdIn (by have : (0 : Int) ≤ gI s13 421 ∧ gI s13 421 ≤ 48 := hRs13.1 421; have : (0 : Int) ≤ gI s5 421 ∧ gI s5 421 ≤ 48 := hRs5.1 421; have : gI s24 421 = gI s13 421 := q_Ai es24; omega) (fun y25 ey25 => ?_)
                      have by25 : (0 : Int) ≤ y25 ∧ y25 ≤ 47 := ey25 ▸ hRs24.2.1 22 _ (by show _ < 48; have : (0 : Int) ≤ gI s13 421 ∧ gI s13 421 ≤ 48 := hRs13.1 421; have : (0 : Int) ≤ gI s5 421 ∧ gI s5 421 ≤ 48 := hRs5.1 421; have : gI s24 421 = gI s13 421 := q_Ai es24; omega)
                      refine wp_stn (fun s26 es26 => ?_)
                      have hRs26 : Rg s26 := es26 ▸ Rg.uI hRs24 (by show (0 : Int) ≤ ((gI s24 421) + 1) ∧ ((gI s24 421) + 1) ≤ 48; have : (0 : Int) ≤ gI s13 421 ∧ gI s13 421 ≤ 48 := hRs13.1 421; have : (0 : Int) ≤ gI s5 421 ∧ gI s5 421 ≤ 48 := hRs5.1 421; have : gI s24 421 = gI s13 421 := q_Ai es24; omega)
                      exact ih82 (orL z9 (shlLZ 1 y25)) x10 x11 (x12 + 1) s26 hRs26 (R8_or _ _) (by show 0 ≤ x10 ∧ x10 < 48 ∧ x10 = x4; have : (0 : Int) ≤ gI s13 421 ∧ gI s13 421 ≤ 48 := hRs13.1 421; have : (0 : Int) ≤ gI s5 421 ∧ gI s5 421 ≤ 48 := hRs5.1 421; omega) (by rw [show gA s26 22 x10.toNat = gA s13 22 x10.toNat from by rw [(q_Ia es26 : gA s26 22 = gA s24 22), q_AA es24, upZ_n (by omega)]]; exact hv82_2) (by show 0 ≤ (x12 + 1) ∧ (x12 + 1) ≤ 6; have : (0 : Int) ≤ gI s13 421 ∧ gI s13 421 ≤ 48 := hRs13.1 421; have : (0 : Int) ≤ gI s5 421 ∧ gI s5 421 ≤ 48 := hRs5.1 421; omega) (by show x10 < gI s26 421; have : (0 : Int) ≤ gI s13 421 ∧ gI s13 421 ≤ 48 := hRs13.1 421; have : (0 : Int) ≤ gI s5 421 ∧ gI s5 421 ≤ 48 := hRs5.1 421; have : gI s26 421 = (gI s24 421) + 1 := q_II es26; have : gI s24 421 = gI s13 421 := q_Ai es24; omega) (⟨(((q_Ia es26 : gA s26 56 = gA s24 56).trans (q_Aa es24 (by decide) : gA s24 56 = gA s13 56))).trans hv82_5.1, (((q_Ia es26 : gA s26 57 = gA s24 57).trans (q_Aa es24 (by decide) : gA s24 57 = gA s13 57))).trans hv82_5.2.1, (((q_Ia es26 : gA s26 58 = gA s24 58).trans (q_Aa es24 (by decide) : gA s24 58 = gA s13 58))).trans hv82_5.2.2.1, (((q_Ia es26 : gA s26 59 = gA s24 59).trans (q_Aa es24 (by decide) : gA s24 59 = gA s13 59))).trans hv82_5.2.2.2⟩) (by show (-1) ≤ x11 ∧ x11 ≤ 255; have : (0 : Int) ≤ gI s13 421 ∧ gI s13 421 ≤ 48 := hRs13.1 421; have : (0 : Int) ≤ gI s5 421 ∧ gI s5 421 ≤ 48 := hRs5.1 421; omega) (by have : (0 : Int) ≤ gI s13 421 ∧ gI s13 421 ≤ 48 := hRs13.1 421; have : (0 : Int) ≤ gI s5 421 ∧ gI s5 421 ≤ 48 := hRs5.1 421; omega)
              exact L82 FU z3 x4 0 0 s5 hRs5 (hv30_0) (by show 0 ≤ x4 ∧ x4 < 48 ∧ x4 = x4; have : (0 : Int) ≤ gI s5 421 ∧ gI s5 421 ≤ 48 := hRs5.1 421; omega) (by first | exact Or.inl (by omega) | exact Or.inr ⟨by rw [ey40, ← hv30_2.2.1, ey41], by rw [ey36, ← hv30_2.1, ey37]; omega⟩) (by show 0 ≤ (0 : Int) ∧ (0 : Int) ≤ 6; have : (0 : Int) ≤ gI s5 421 ∧ gI s5 421 ≤ 48 := hRs5.1 421; omega) (by show x4 < gI s5 421; have : (0 : Int) ≤ gI s5 421 ∧ gI s5 421 ≤ 48 := hRs5.1 421; omega) (hv30_2) (by show (-1) ≤ (0 : Int) ∧ (0 : Int) ≤ 255; have : (0 : Int) ≤ gI s5 421 ∧ gI s5 421 ≤ 48 := hRs5.1 421; omega) (by have := FU_big; have := FU_big2; have : (0 : Int) ≤ gI s5 421 ∧ gI s5 421 ≤ 48 := hRs5.1 421; omega)
            · skip
              refine wp_rdIn (by have : (0 : Int) ≤ gI s5 421 ∧ gI s5 421 ≤ 48 := hRs5.1 421; omega) (fun y40 ey40 => ?_)
              have by40 : (0 : Int) ≤ y40 ∧ y40 ≤ 47 := ey40 ▸ hRs5.2.1 22 _ (by show _ < 48; have : (0 : Int) ≤ gI s5 421 ∧ gI s5 421 ≤ 48 := hRs5.1 421; omega)
              refine wp_rdIn (by have : (0 : Int) ≤ gI s5 421 ∧ gI s5 421 ≤ 48 := hRs5.1 421; omega) (fun y41 ey41 => ?_)
              have by41 : (-1 : Int) ≤ y41 ∧ y41 ≤ 255 := ey41 ▸ hRs5.2.1 57 _ (by show _ < 48; have : (0 : Int) ≤ gI s5 421 ∧ gI s5 421 ≤ 48 := hRs5.1 421; omega)
              unfold m_x10_tree_J77
              have L82 : ∀ (n : Nat) (z9 : Int) (x10 : Int) (x11 : Int) (x12 : Int) (s13 : MS), Rg s13 → (R8 z9) → (0 ≤ x10 ∧ x10 < 48 ∧ x10 = x4) → (x11 ≤ 0 ∨ (x11 = gA s 57 (gA s13 22 x10.toNat).toNat ∧ 0 < gA s 56 (gA s13 22 x10.toNat).toNat)) → (0 ≤ x12 ∧ x12 ≤ 6) → (x10 < gI s13 421) → (gA s13 56 = gA s 56 ∧ gA s13 57 = gA s 57 ∧ gA s13 58 = gA s 58 ∧ gA s13 59 = gA s 59) → ((-1) ≤ x11 ∧ x11 ≤ 255) → (6 - x12) < (n : Int) → wp (m_x10_tree_L82 (m_x10_tree_L30 n30) n z9 x10 x11 x12 s13) (fun q => (Rg q.2) ∧ (R8 q.1)) := by
                refine fr_ind (fun z9 x10 x11 x12 s13 hRs13 hv82_0 hv82_1 hv82_2 hv82_3 hv82_4 hv82_5 hv82_6 hm82 => ?_) (fun n82 ih82 z9 x10 x11 x12 s13 hRs13 hv82_0 hv82_1 hv82_2 hv82_3 hv82_4 hv82_5 hv82_6 hm82 => ?_)
                · exfalso; have : (0 : Int) ≤ gI s13 421 ∧ gI s13 421 ≤ 48 := hRs13.1 421; omega
                · show wp (m_x10_tree_b82 (m_x10_tree_L30 n30) (m_x10_tree_L82 (m_x10_tree_L30 n30) n82) z9 x10 x11 x12 s13) _
                  unfold m_x10_tree_b82
                  refine wp_rg (by have : (0 : Int) ≤ gI s13 421 ∧ gI s13 421 ≤ 48 := hRs13.1 421; have : (0 : Int) ≤ gI s5 421 ∧ gI s5 421 ≤ 48 := hRs5.1 421; omega) ?_
                  refine wp_rg (by have : (0 : Int) ≤ gI s13 421 ∧ gI s13 421 ≤ 48 := hRs13.1 421; have : (0 : Int) ≤ gI s5 421 ∧ gI s5 421 ≤ 48 := hRs5.1 421; omega) ?_
                  refine wp_if (fun c7 => ?_) (fun c7 => ?_)
                  · skip
                    unfold m_x10_tree_J155
                    exact ih30 z9 (x10 + 1) s13 hRs13 (hv82_0) (by show 0 ≤ (x10 + 1) ∧ (x10 + 1) ≤ 48; have : (0 : Int) ≤ gI s13 421 ∧ gI s13 421 ≤ 48 := hRs13.1 421; have : (0 : Int) ≤ gI s5 421 ∧ gI s5 421 ≤ 48 := hRs5.1 421; omega) (hv82_5) (by have : (0 : Int) ≤ gI s13 421 ∧ gI s13 421 ≤ 48 := hRs13.1 421; have : (0 : Int) ≤ gI s5 421 ∧ gI s5 421 ≤ 48 := hRs5.1 421; omega)
                  · skip
                    refine wp_rg (by have : (0 : Int) ≤ gI s5 421 ∧ gI s5 421 ≤ 48 := hRs5.1 421; have : (0 : Int) ≤ gI s13 421 ∧ gI s13 421 ≤ 48 := hRs13.1 421; omega) ?_
                    refine wp_if (fun c8 => ?_) (fun c8 => ?_)
                    · skip
                      unfold m_x10_tree_J155
                      exact ih30 z9 (x10 + 1) s13 hRs13 (hv82_0) (by show 0 ≤ (x10 + 1) ∧ (x10 + 1) ≤ 48; have : (0 : Int) ≤ gI s13 421 ∧ gI s13 421 ≤ 48 := hRs13.1 421; have : (0 : Int) ≤ gI s5 421 ∧ gI s5 421 ≤ 48 := hRs5.1 421; omega) (hv82_5) (by have : (0 : Int) ≤ gI s13 421 ∧ gI s13 421 ≤ 48 := hRs13.1 421; have : (0 : Int) ≤ gI s5 421 ∧ gI s5 421 ≤ 48 := hRs5.1 421; omega)
                    · skip
                      refine wp_rdIn (by have : (0 : Int) ≤ gI s13 421 ∧ gI s13 421 ≤ 48 := hRs13.1 421; have : (0 : Int) ≤ gI s5 421 ∧ gI s5 421 ≤ 48 := hRs5.1 421; omega) (fun y19 ey19 => ?_)
                      have by19 : (0 : Int) ≤ y19 ∧ y19 ≤ 47 := ey19 ▸ hRs13.2.1 22 _ (by show _ < 48; have : (0 : Int) ≤ gI s13 421 ∧ gI s13 421 ≤ 48 := hRs13.1 421; have : (0 : Int) ≤ gI s5 421 ∧ gI s5 421 ≤ 48 := hRs5.1 421; omega)
                      have us := hp0 y19.toNat (by omega)
                      have us1 : 0 ≤ gA s 57 y19.toNat ∧ gA s 57 y19.toNat ≤ 6 := us.1
                      have hw := hv82_2
                      rw [ey19] at hw
                      refine wp_bn (w_x8_slot hRs13) (fun r21 er21 hr21 => ?_)
                      have hr21_0 := hr21
                      have hr21_0 : r21 = y19 * 6 + x12 := hr21_0
                      refine wp_rdIn (by have : (0 : Int) ≤ gI s13 421 ∧ gI s13 421 ≤ 48 := hRs13.1 421; have : (0 : Int) ≤ gI s5 421 ∧ gI s5 421 ≤ 48 := hRs5.1 421; omega) (fun y22 ey22 => ?_)
                      have by22 : (-257 : Int) ≤ y22 ∧ y22 ≤ 65535 := ey22 ▸ hRs13.2.1 59 _ (by show _ < 288; have : (0 : Int) ≤ gI s13 421 ∧ gI s13 421 ≤ 48 := hRs13.1 421; have : (0 : Int) ≤ gI s5 421 ∧ gI s5 421 ≤ 48 := hRs5.1 421; omega)
                      have us2 := us.2.1 (by show 0 < gA s 56 y19.toNat; omega) x12.toNat (by show ((x12.toNat : Nat) : Int) < gA s 57 y19.toNat; omega)
                      have us3 : 0 ≤ gA s 59 (6 * y19.toNat + x12.toNat) ∧ gA s 59 (6 * y19.toNat + x12.toNat) < 48 := us2
                      rw [← hv82_5.2.2.2, show 6 * y19.toNat + x12.toNat = r21.toNat by omega, ey22] at us3
                      refine wp_inb (by have : (0 : Int) ≤ gI s5 421 ∧ gI s5 421 ≤ 48 := hRs5.1 421; have : (0 : Int) ≤ gI s13 421 ∧ gI s13 421 ≤ 48 := hRs13.1 421; omega) ?_
                      refine wp_stn (fun s24 es24 => ?_)
                      have hRs24 : Rg s24 := es24 ▸ Rg.uAu hRs13 (by show (0 : Int) ≤ y22 ∧ y22 ≤ 47; have : (0 : Int) ≤ gI s13 421 ∧ gI s13 421 ≤ 48 := hRs13.1 421; have : (0 : Int) ≤ gI s5 421 ∧ gI s5 421 ≤ 48 := hRs5.1 421; omega)
                      refine wp_rdIn (by have : (0 : Int) ≤ gI s13 421 ∧ gI s13 421 ≤ 48 := hRs13.1 421; have : (0 : Int) ≤ gI s5 421 ∧ gI s5 421 ≤ 48 := hRs5.1 421; have : gI s24 421 = gI s13 421 := q_Ai es24; omega) (fun y25 ey25 => ?_)
                      have by25 : (0 : Int) ≤ y25 ∧ y25 ≤ 47 := ey25 ▸ hRs24.2.1 22 _ (by show _ < 48; have : (0 : Int) ≤ gI s13 421 ∧ gI s13 421 ≤ 48 := hRs13.1 421; have : (0 : Int) ≤ gI s5 421 ∧ gI s5 421 ≤ 48 := hRs5.1 421; have : gI s24 421 = gI s13 421 := q_Ai es24; omega)
                      refine wp_stn (fun s26 es26 => ?_)
                      have hRs26 : Rg s26 := es26 ▸ Rg.uI hRs24 (by show (0 : Int) ≤ ((gI s24 421) + 1) ∧ ((gI s24 421) + 1) ≤ 48; have : (0 : Int) ≤ gI s13 421 ∧ gI s13 421 ≤ 48 := hRs13.1 421; have : (0 : Int) ≤ gI s5 421 ∧ gI s5 421 ≤ 48 := hRs5.1 421; have : gI s24 421 = gI s13 421 := q_Ai es24; omega)
                      exact ih82 (orL z9 (shlLZ 1 y25)) x10 x11 (x12 + 1) s26 hRs26 (R8_or _ _) (by show 0 ≤ x10 ∧ x10 < 48 ∧ x10 = x4; have : (0 : Int) ≤ gI s13 421 ∧ gI s13 421 ≤ 48 := hRs13.1 421; have : (0 : Int) ≤ gI s5 421 ∧ gI s5 421 ≤ 48 := hRs5.1 421; omega) (by rw [show gA s26 22 x10.toNat = gA s13 22 x10.toNat from by rw [(q_Ia es26 : gA s26 22 = gA s24 22), q_AA es24, upZ_n (by omega)]]; exact hv82_2) (by show 0 ≤ (x12 + 1) ∧ (x12 + 1) ≤ 6; have : (0 : Int) ≤ gI s13 421 ∧ gI s13 421 ≤ 48 := hRs13.1 421; have : (0 : Int) ≤ gI s5 421 ∧ gI s5 421 ≤ 48 := hRs5.1 421; omega) (by show x10 < gI s26 421; have : (0 : Int) ≤ gI s13 421 ∧ gI s13 421 ≤ 48 := hRs13.1 421; have : (0 : Int) ≤ gI s5 421 ∧ gI s5 421 ≤ 48 := hRs5.1 421; have : gI s26 421 = (gI s24 421) + 1 := q_II es26; have : gI s24 421 = gI s13 421 := q_Ai es24; omega) (⟨(((q_Ia es26 : gA s26 56 = gA s24 56).trans (q_Aa es24 (by decide) : gA s24 56 = gA s13 56))).trans hv82_5.1, (((q_Ia es26 : gA s26 57 = gA s24 57).trans (q_Aa es24 (by decide) : gA s24 57 = gA s13 57))).trans hv82_5.2.1, (((q_Ia es26 : gA s26 58 = gA s24 58).trans (q_Aa es24 (by decide) : gA s24 58 = gA s13 58))).trans hv82_5.2.2.1, (((q_Ia es26 : gA s26 59 = gA s24 59).trans (q_Aa es24 (by decide) : gA s24 59 = gA s13 59))).trans hv82_5.2.2.2⟩) (by show (-1) ≤ x11 ∧ x11 ≤ 255; have : (0 : Int) ≤ gI s13 421 ∧ gI s13 421 ≤ 48 := hRs13.1 421; have : (0 : Int) ≤ gI s5 421 ∧ gI s5 421 ≤ 48 := hRs5.1 421; omega) (by have : (0 : Int) ≤ gI s13 421 ∧ gI s13 421 ≤ 48 := hRs13.1 421; have : (0 : Int) ≤ gI s5 421 ∧ gI s5 421 ≤ 48 := hRs5.1 421; omega)
              exact L82 FU z3 x4 y41 0 s5 hRs5 (hv30_0) (by show 0 ≤ x4 ∧ x4 < 48 ∧ x4 = x4; have : (0 : Int) ≤ gI s5 421 ∧ gI s5 421 ≤ 48 := hRs5.1 421; omega) (by first | exact Or.inl (by omega) | exact Or.inr ⟨by rw [ey40, ← hv30_2.2.1, ey41], by rw [ey36, ← hv30_2.1, ey37]; omega⟩) (by show 0 ≤ (0 : Int) ∧ (0 : Int) ≤ 6; have : (0 : Int) ≤ gI s5 421 ∧ gI s5 421 ≤ 48 := hRs5.1 421; omega) (by show x4 < gI s5 421; have : (0 : Int) ≤ gI s5 421 ∧ gI s5 421 ≤ 48 := hRs5.1 421; omega) (hv30_2) (by show (-1) ≤ y41 ∧ y41 ≤ 255; have : (0 : Int) ≤ gI s5 421 ∧ gI s5 421 ≤ 48 := hRs5.1 421; omega) (by have := FU_big; have := FU_big2; have : (0 : Int) ≤ gI s5 421 ∧ gI s5 421 ≤ 48 := hRs5.1 421; omega)
    exact L30 FU (shlLZ 1 p1) 0 s47 hRs47 (R8_shl _ _) (by show 0 ≤ (0 : Int) ∧ (0 : Int) ≤ 48; omega) (⟨((q_Ia es47 : gA s47 56 = gA s46 56).trans ((q_Aa es46 (by decide) : gA s46 56 = gA s42 56).trans (q_Ia es42 : gA s42 56 = gA s 56))), ((q_Ia es47 : gA s47 57 = gA s46 57).trans ((q_Aa es46 (by decide) : gA s46 57 = gA s42 57).trans (q_Ia es42 : gA s42 57 = gA s 57))), ((q_Ia es47 : gA s47 58 = gA s46 58).trans ((q_Aa es46 (by decide) : gA s46 58 = gA s42 58).trans (q_Ia es42 : gA s42 58 = gA s 58))), ((q_Ia es47 : gA s47 59 = gA s46 59).trans ((q_Aa es46 (by decide) : gA s46 59 = gA s42 59).trans (q_Ia es42 : gA s42 59 = gA s 59)))⟩) (by have := FU_big; have := FU_big2; omega)
  · skip
    exact wp_some ⟨hRs42, by show R8 0; decide⟩
set_option maxHeartbeats 1000000 in
theorem w_x10_tree_v2 {p1 : Int} {s : MS} (hRs : Rg s) (hp0 : US (hN s) (kN s)) (hp1 : (-2) ≤ p1 ∧ p1 < 48) : wp (m_x10_tree_v2 p1 s) (fun q => (Rg q.2) ∧ (R8 q.1)) := by
  unfold m_x10_tree_v2
  refine wp_stn (fun s42 es42 => ?_)
  have hRs42 : Rg s42 := es42 ▸ Rg.uI hRs (by show (0 : Int) ≤ (0 : Int) ∧ (0 : Int) ≤ 48; omega)
  refine wp_rg (by omega) ?_
  refine wp_if (fun c1 => ?_) (fun c1 => ?_)
  · skip
    refine wp_inb (by omega) ?_
    refine wp_stn (fun s46 es46 => ?_)
    have hRs46 : Rg s46 := es46 ▸ Rg.uAu hRs42 (by show (0 : Int) ≤ p1 ∧ p1 ≤ 47; omega)
    refine wp_stn (fun s47 es47 => ?_)
    have hRs47 : Rg s47 := es47 ▸ Rg.uI hRs46 (by show (0 : Int) ≤ (1 : Int) ∧ (1 : Int) ≤ 48; omega)
    have L30 : ∀ (n : Nat) (z3 : Int) (x4 : Int) (s5 : MS), Rg s5 → (R8 z3) → (0 ≤ x4 ∧ x4 ≤ 48) → (gA s5 56 = gA s 56 ∧ gA s5 57 = gA s 57 ∧ gA s5 58 = gA s 58 ∧ gA s5 59 = gA s 59) → (48 - x4) < (n : Int) → wp (m_x10_tree_v2_L30 n z3 x4 s5) (fun q => (Rg q.2) ∧ (R8 q.1)) := by
      refine fr_ind (fun z3 x4 s5 hRs5 hv30_0 hv30_1 hv30_2 hm30 => ?_) (fun n30 ih30 z3 x4 s5 hRs5 hv30_0 hv30_1 hv30_2 hm30 => ?_)
      · exfalso; omega
      · show wp (m_x10_tree_v2_b30 (m_x10_tree_v2_L30 n30) z3 x4 s5) _
        unfold m_x10_tree_v2_b30
        refine wp_rg (by omega) ?_
        refine wp_rg (by have : (0 : Int) ≤ gI s5 501 ∧ gI s5 501 ≤ 48 := hRs5.1 501; omega) ?_
        refine wp_if (fun c2 => ?_) (fun c2 => ?_)
        · skip
          unfold m_x10_tree_v2_J161
          exact wp_some ⟨hRs5, hv30_0⟩
        · skip
          refine wp_rg (by have : (0 : Int) ≤ gI s5 501 ∧ gI s5 501 ≤ 48 := hRs5.1 501; omega) ?_
          refine wp_if (fun c3 => ?_) (fun c3 => ?_)
          · skip
            unfold m_x10_tree_v2_J161
            exact wp_some ⟨hRs5, hv30_0⟩
          · skip
            refine wp_rdIn (by have : (0 : Int) ≤ gI s5 501 ∧ gI s5 501 ≤ 48 := hRs5.1 501; omega) (fun y36 ey36 => ?_)
            have by36 : (0 : Int) ≤ y36 ∧ y36 ≤ 47 := ey36 ▸ hRs5.2.1 26 _ (by show _ < 48; have : (0 : Int) ≤ gI s5 501 ∧ gI s5 501 ≤ 48 := hRs5.1 501; omega)
            refine wp_rdIn (by have : (0 : Int) ≤ gI s5 501 ∧ gI s5 501 ≤ 48 := hRs5.1 501; omega) (fun y37 ey37 => ?_)
            have by37 : (-1 : Int) ≤ y37 ∧ y37 ≤ 1000 := ey37 ▸ hRs5.2.1 56 _ (by show _ < 48; have : (0 : Int) ≤ gI s5 501 ∧ gI s5 501 ≤ 48 := hRs5.1 501; omega)
            refine wp_rg (by have : (0 : Int) ≤ gI s5 501 ∧ gI s5 501 ≤ 48 := hRs5.1 501; omega) ?_
            refine wp_if (fun c4 => ?_) (fun c4 => ?_)
            · skip
              unfold m_x10_tree_v2_J77
              have L82 : ∀ (n : Nat) (z9 : Int) (x10 : Int) (x11 : Int) (x12 : Int) (s13 : MS), Rg s13 → (R8 z9) → (0 ≤ x10 ∧ x10 < 48 ∧ x10 = x4) → (x11 ≤ 0 ∨ (x11 = gA s 57 (gA s13 26 x10.toNat).toNat ∧ 0 < gA s 56 (gA s13 26 x10.toNat).toNat)) → (0 ≤ x12 ∧ x12 ≤ 6) → (x10 < gI s13 501) → (gA s13 56 = gA s 56 ∧ gA s13 57 = gA s 57 ∧ gA s13 58 = gA s 58 ∧ gA s13 59 = gA s 59) → ((-1) ≤ x11 ∧ x11 ≤ 255) → (6 - x12) < (n : Int) → wp (m_x10_tree_v2_L82 (m_x10_tree_v2_L30 n30) n z9 x10 x11 x12 s13) (fun q => (Rg q.2) ∧ (R8 q.1)) := by
                refine fr_ind (fun z9 x10 x11 x12 s13 hRs13 hv82_0 hv82_1 hv82_2 hv82_3 hv82_4 hv82_5 hv82_6 hm82 => ?_) (fun n82 ih82 z9 x10 x11 x12 s13 hRs13 hv82_0 hv82_1 hv82_2 hv82_3 hv82_4 hv82_5 hv82_6 hm82 => ?_)
                · exfalso; have : (0 : Int) ≤ gI s13 501 ∧ gI s13 501 ≤ 48 := hRs13.1 501; omega
                · show wp (m_x10_tree_v2_b82 (m_x10_tree_v2_L30 n30) (m_x10_tree_v2_L82 (m_x10_tree_v2_L30 n30) n82) z9 x10 x11 x12 s13) _
                  unfold m_x10_tree_v2_b82
                  refine wp_rg (by have : (0 : Int) ≤ gI s13 501 ∧ gI s13 501 ≤ 48 := hRs13.1 501; have : (0 : Int) ≤ gI s5 501 ∧ gI s5 501 ≤ 48 := hRs5.1 501; omega) ?_
                  refine wp_rg (by have : (0 : Int) ≤ gI s13 501 ∧ gI s13 501 ≤ 48 := hRs13.1 501; have : (0 : Int) ≤ gI s5 501 ∧ gI s5 501 ≤ 48 := hRs5.1 501; omega) ?_
                  refine wp_if (fun c5 => ?_) (fun c5 => ?_)
                  · skip
                    unfold m_x10_tree_v2_J155
                    exact ih30 z9 (x10 + 1) s13 hRs13 (hv82_0) (by show 0 ≤ (x10 + 1) ∧ (x10 + 1) ≤ 48; have : (0 : Int) ≤ gI s13 501 ∧ gI s13 501 ≤ 48 := hRs13.1 501; have : (0 : Int) ≤ gI s5 501 ∧ gI s5 501 ≤ 48 := hRs5.1 501; omega) (hv82_5) (by have : (0 : Int) ≤ gI s13 501 ∧ gI s13 501 ≤ 48 := hRs13.1 501; have : (0 : Int) ≤ gI s5 501 ∧ gI s5 501 ≤ 48 := hRs5.1 501; omega)
                  · skip
                    refine wp_rg (by have : (0 : Int) ≤ gI s5 501 ∧ gI s5 501 ≤ 48 := hRs5.1 501; have : (0 : Int) ≤ gI s13 501 ∧ gI s13 501 ≤ 48 := hRs13.1 501; omega) ?_
                    refine wp_if (fun c6 => ?_) (fun c6 => ?_)
                    · skip
                      unfold m_x10_tree_v2_J155
                      exact ih30 z9 (x10 + 1) s13 hRs13 (hv82_0) (by show 0 ≤ (x10 + 1) ∧ (x10 + 1) ≤ 48; have : (0 : Int) ≤ gI s13 501 ∧ gI s13 501 ≤ 48 := hRs13.1 501; have : (0 : Int) ≤ gI s5 501 ∧ gI s5 501 ≤ 48 := hRs5.1 501; omega) (hv82_5) (by have : (0 : Int) ≤ gI s13 501 ∧ gI s13 501 ≤ 48 := hRs13.1 501; have : (0 : Int) ≤ gI s5 501 ∧ gI s5 501 ≤ 48 := hRs5.1 501; omega)
                    · skip
                      refine wp_rdIn (by have : (0 : Int) ≤ gI s13 501 ∧ gI s13 501 ≤ 48 := hRs13.1 501; have : (0 : Int) ≤ gI s5 501 ∧ gI s5 501 ≤ 48 := hRs5.1 501; omega) (fun y19 ey19 => ?_)
                      have by19 : (0 : Int) ≤ y19 ∧ y19 ≤ 47 := ey19 ▸ hRs13.2.1 26 _ (by show _ < 48; have : (0 : Int) ≤ gI s13 501 ∧ gI s13 501 ≤ 48 := hRs13.1 501; have : (0 : Int) ≤ gI s5 501 ∧ gI s5 501 ≤ 48 := hRs5.1 501; omega)
                      have us := hp0 y19.toNat (by omega)
                      have us1 : 0 ≤ gA s 57 y19.toNat ∧ gA s 57 y19.toNat ≤ 6 := us.1
                      have hw := hv82_2
                      rw [ey19] at hw
                      refine wp_bn (w_x8_slot hRs13) (fun r21 er21 hr21 => ?_)
                      have hr21_0 := hr21
                      have hr21_0 : r21 = y19 * 6 + x12 := hr21_0
                      refine wp_rdIn (by have : (0 : Int) ≤ gI s13 501 ∧ gI s13 501 ≤ 48 := hRs13.1 501; have : (0 : Int) ≤ gI s5 501 ∧ gI s5 501 ≤ 48 := hRs5.1 501; omega) (fun y22 ey22 => ?_)
                      have by22 : (-257 : Int) ≤ y22 ∧ y22 ≤ 65535 := ey22 ▸ hRs13.2.1 59 _ (by show _ < 288; have : (0 : Int) ≤ gI s13 501 ∧ gI s13 501 ≤ 48 := hRs13.1 501; have : (0 : Int) ≤ gI s5 501 ∧ gI s5 501 ≤ 48 := hRs5.1 501; omega)
                      have us2 := us.2.1 (by show 0 < gA s 56 y19.toNat; omega) x12.toNat (by show ((x12.toNat : Nat) : Int) < gA s 57 y19.toNat; omega)
                      have us3 : 0 ≤ gA s 59 (6 * y19.toNat + x12.toNat) ∧ gA s 59 (6 * y19.toNat + x12.toNat) < 48 := us2
                      rw [← hv82_5.2.2.2, show 6 * y19.toNat + x12.toNat = r21.toNat by omega, ey22] at us3
                      refine wp_inb (by have : (0 : Int) ≤ gI s5 501 ∧ gI s5 501 ≤ 48 := hRs5.1 501; have : (0 : Int) ≤ gI s13 501 ∧ gI s13 501 ≤ 48 := hRs13.1 501; omega) ?_
                      refine wp_stn (fun s24 es24 => ?_)
                      have hRs24 : Rg s24 := es24 ▸ Rg.uAu hRs13 (by show (0 : Int) ≤ y22 ∧ y22 ≤ 47; have : (0 : Int) ≤ gI s13 501 ∧ gI s13 501 ≤ 48 := hRs13.1 501; have : (0 : Int) ≤ gI s5 501 ∧ gI s5 501 ≤ 48 := hRs5.1 501; omega)
                      refine wp_rdIn (by have : (0 : Int) ≤ gI s13 501 ∧ gI s13 501 ≤ 48 := hRs13.1 501; have : (0 : Int) ≤ gI s5 501 ∧ gI s5 501 ≤ 48 := hRs5.1 501; have : gI s24 501 = gI s13 501 := q_Ai es24; omega) (fun y25 ey25 => ?_)
                      have by25 : (0 : Int) ≤ y25 ∧ y25 ≤ 47 := ey25 ▸ hRs24.2.1 26 _ (by show _ < 48; have : (0 : Int) ≤ gI s13 501 ∧ gI s13 501 ≤ 48 := hRs13.1 501; have : (0 : Int) ≤ gI s5 501 ∧ gI s5 501 ≤ 48 := hRs5.1 501; have : gI s24 501 = gI s13 501 := q_Ai es24; omega)
                      refine wp_stn (fun s26 es26 => ?_)
                      have hRs26 : Rg s26 := es26 ▸ Rg.uI hRs24 (by show (0 : Int) ≤ ((gI s24 501) + 1) ∧ ((gI s24 501) + 1) ≤ 48; have : (0 : Int) ≤ gI s13 501 ∧ gI s13 501 ≤ 48 := hRs13.1 501; have : (0 : Int) ≤ gI s5 501 ∧ gI s5 501 ≤ 48 := hRs5.1 501; have : gI s24 501 = gI s13 501 := q_Ai es24; omega)
                      exact ih82 (orL z9 (shlLZ 1 y25)) x10 x11 (x12 + 1) s26 hRs26 (R8_or _ _) (by show 0 ≤ x10 ∧ x10 < 48 ∧ x10 = x4; have : (0 : Int) ≤ gI s13 501 ∧ gI s13 501 ≤ 48 := hRs13.1 501; have : (0 : Int) ≤ gI s5 501 ∧ gI s5 501 ≤ 48 := hRs5.1 501; omega) (by rw [show gA s26 26 x10.toNat = gA s13 26 x10.toNat from by rw [(q_Ia es26 : gA s26 26 = gA s24 26), q_AA es24, upZ_n (by omega)]]; exact hv82_2) (by show 0 ≤ (x12 + 1) ∧ (x12 + 1) ≤ 6; have : (0 : Int) ≤ gI s13 501 ∧ gI s13 501 ≤ 48 := hRs13.1 501; have : (0 : Int) ≤ gI s5 501 ∧ gI s5 501 ≤ 48 := hRs5.1 501; omega) (by show x10 < gI s26 501; have : (0 : Int) ≤ gI s13 501 ∧ gI s13 501 ≤ 48 := hRs13.1 501; have : (0 : Int) ≤ gI s5 501 ∧ gI s5 501 ≤ 48 := hRs5.1 501; have : gI s26 501 = (gI s24 501) + 1 := q_II es26; have : gI s24 501 = gI s13 501 := q_Ai es24; omega) (⟨(((q_Ia es26 : gA s26 56 = gA s24 56).trans (q_Aa es24 (by decide) : gA s24 56 = gA s13 56))).trans hv82_5.1, (((q_Ia es26 : gA s26 57 = gA s24 57).trans (q_Aa es24 (by decide) : gA s24 57 = gA s13 57))).trans hv82_5.2.1, (((q_Ia es26 : gA s26 58 = gA s24 58).trans (q_Aa es24 (by decide) : gA s24 58 = gA s13 58))).trans hv82_5.2.2.1, (((q_Ia es26 : gA s26 59 = gA s24 59).trans (q_Aa es24 (by decide) : gA s24 59 = gA s13 59))).trans hv82_5.2.2.2⟩) (by show (-1) ≤ x11 ∧ x11 ≤ 255; have : (0 : Int) ≤ gI s13 501 ∧ gI s13 501 ≤ 48 := hRs13.1 501; have : (0 : Int) ≤ gI s5 501 ∧ gI s5 501 ≤ 48 := hRs5.1 501; omega) (by have : (0 : Int) ≤ gI s13 501 ∧ gI s13 501 ≤ 48 := hRs13.1 501; have : (0 : Int) ≤ gI s5 501 ∧ gI s5 501 ≤ 48 := hRs5.1 501; omega)
              exact L82 FU z3 x4 0 0 s5 hRs5 (hv30_0) (by show 0 ≤ x4 ∧ x4 < 48 ∧ x4 = x4; have : (0 : Int) ≤ gI s5 501 ∧ gI s5 501 ≤ 48 := hRs5.1 501; omega) (by first | exact Or.inl (by omega) | exact Or.inr ⟨by rw [ey40, ← hv30_2.2.1, ey41], by rw [ey36, ← hv30_2.1, ey37]; omega⟩) (by show 0 ≤ (0 : Int) ∧ (0 : Int) ≤ 6; have : (0 : Int) ≤ gI s5 501 ∧ gI s5 501 ≤ 48 := hRs5.1 501; omega) (by show x4 < gI s5 501; have : (0 : Int) ≤ gI s5 501 ∧ gI s5 501 ≤ 48 := hRs5.1 501; omega) (hv30_2) (by show (-1) ≤ (0 : Int) ∧ (0 : Int) ≤ 255; have : (0 : Int) ≤ gI s5 501 ∧ gI s5 501 ≤ 48 := hRs5.1 501; omega) (by have := FU_big; have := FU_big2; have : (0 : Int) ≤ gI s5 501 ∧ gI s5 501 ≤ 48 := hRs5.1 501; omega)
            · skip
              refine wp_rdIn (by have : (0 : Int) ≤ gI s5 501 ∧ gI s5 501 ≤ 48 := hRs5.1 501; omega) (fun y40 ey40 => ?_)
              have by40 : (0 : Int) ≤ y40 ∧ y40 ≤ 47 := ey40 ▸ hRs5.2.1 26 _ (by show _ < 48; have : (0 : Int) ≤ gI s5 501 ∧ gI s5 501 ≤ 48 := hRs5.1 501; omega)
              refine wp_rdIn (by have : (0 : Int) ≤ gI s5 501 ∧ gI s5 501 ≤ 48 := hRs5.1 501; omega) (fun y41 ey41 => ?_)
              have by41 : (-1 : Int) ≤ y41 ∧ y41 ≤ 255 := ey41 ▸ hRs5.2.1 57 _ (by show _ < 48; have : (0 : Int) ≤ gI s5 501 ∧ gI s5 501 ≤ 48 := hRs5.1 501; omega)
              unfold m_x10_tree_v2_J77
              have L82 : ∀ (n : Nat) (z9 : Int) (x10 : Int) (x11 : Int) (x12 : Int) (s13 : MS), Rg s13 → (R8 z9) → (0 ≤ x10 ∧ x10 < 48 ∧ x10 = x4) → (x11 ≤ 0 ∨ (x11 = gA s 57 (gA s13 26 x10.toNat).toNat ∧ 0 < gA s 56 (gA s13 26 x10.toNat).toNat)) → (0 ≤ x12 ∧ x12 ≤ 6) → (x10 < gI s13 501) → (gA s13 56 = gA s 56 ∧ gA s13 57 = gA s 57 ∧ gA s13 58 = gA s 58 ∧ gA s13 59 = gA s 59) → ((-1) ≤ x11 ∧ x11 ≤ 255) → (6 - x12) < (n : Int) → wp (m_x10_tree_v2_L82 (m_x10_tree_v2_L30 n30) n z9 x10 x11 x12 s13) (fun q => (Rg q.2) ∧ (R8 q.1)) := by
                refine fr_ind (fun z9 x10 x11 x12 s13 hRs13 hv82_0 hv82_1 hv82_2 hv82_3 hv82_4 hv82_5 hv82_6 hm82 => ?_) (fun n82 ih82 z9 x10 x11 x12 s13 hRs13 hv82_0 hv82_1 hv82_2 hv82_3 hv82_4 hv82_5 hv82_6 hm82 => ?_)
                · exfalso; have : (0 : Int) ≤ gI s13 501 ∧ gI s13 501 ≤ 48 := hRs13.1 501; omega
                · show wp (m_x10_tree_v2_b82 (m_x10_tree_v2_L30 n30) (m_x10_tree_v2_L82 (m_x10_tree_v2_L30 n30) n82) z9 x10 x11 x12 s13) _
                  unfold m_x10_tree_v2_b82
                  refine wp_rg (by have : (0 : Int) ≤ gI s13 501 ∧ gI s13 501 ≤ 48 := hRs13.1 501; have : (0 : Int) ≤ gI s5 501 ∧ gI s5 501 ≤ 48 := hRs5.1 501; omega) ?_
                  refine wp_rg (by have : (0 : Int) ≤ gI s13 501 ∧ gI s13 501 ≤ 48 := hRs13.1 501; have : (0 : Int) ≤ gI s5 501 ∧ gI s5 501 ≤ 48 := hRs5.1 501; omega) ?_
                  refine wp_if (fun c7 => ?_) (fun c7 => ?_)
                  · skip
                    unfold m_x10_tree_v2_J155
                    exact ih30 z9 (x10 + 1) s13 hRs13 (hv82_0) (by show 0 ≤ (x10 + 1) ∧ (x10 + 1) ≤ 48; have : (0 : Int) ≤ gI s13 501 ∧ gI s13 501 ≤ 48 := hRs13.1 501; have : (0 : Int) ≤ gI s5 501 ∧ gI s5 501 ≤ 48 := hRs5.1 501; omega) (hv82_5) (by have : (0 : Int) ≤ gI s13 501 ∧ gI s13 501 ≤ 48 := hRs13.1 501; have : (0 : Int) ≤ gI s5 501 ∧ gI s5 501 ≤ 48 := hRs5.1 501; omega)
                  · skip
                    refine wp_rg (by have : (0 : Int) ≤ gI s5 501 ∧ gI s5 501 ≤ 48 := hRs5.1 501; have : (0 : Int) ≤ gI s13 501 ∧ gI s13 501 ≤ 48 := hRs13.1 501; omega) ?_
                    refine wp_if (fun c8 => ?_) (fun c8 => ?_)
                    · skip
                      unfold m_x10_tree_v2_J155
                      exact ih30 z9 (x10 + 1) s13 hRs13 (hv82_0) (by show 0 ≤ (x10 + 1) ∧ (x10 + 1) ≤ 48; have : (0 : Int) ≤ gI s13 501 ∧ gI s13 501 ≤ 48 := hRs13.1 501; have : (0 : Int) ≤ gI s5 501 ∧ gI s5 501 ≤ 48 := hRs5.1 501; omega) (hv82_5) (by have : (0 : Int) ≤ gI s13 501 ∧ gI s13 501 ≤ 48 := hRs13.1 501; have : (0 : Int) ≤ gI s5 501 ∧ gI s5 501 ≤ 48 := hRs5.1 501; omega)
                    · skip
                      refine wp_rdIn (by have : (0 : Int) ≤ gI s13 501 ∧ gI s13 501 ≤ 48 := hRs13.1 501; have : (0 : Int) ≤ gI s5 501 ∧ gI s5 501 ≤ 48 := hRs5.1 501; omega) (fun y19 ey19 => ?_)
                      have by19 : (0 : Int) ≤ y19 ∧ y19 ≤ 47 := ey19 ▸ hRs13.2.1 26 _ (by show _ < 48; have : (0 : Int) ≤ gI s13 501 ∧ gI s13 501 ≤ 48 := hRs13.1 501; have : (0 : Int) ≤ gI s5 501 ∧ gI s5 501 ≤ 48 := hRs5.1 501; omega)
                      have us := hp0 y19.toNat (by omega)
                      have us1 : 0 ≤ gA s 57 y19.toNat ∧ gA s 57 y19.toNat ≤ 6 := us.1
                      have hw := hv82_2
                      rw [ey19] at hw
                      refine wp_bn (w_x8_slot hRs13) (fun r21 er21 hr21 => ?_)
                      have hr21_0 := hr21
                      have hr21_0 : r21 = y19 * 6 + x12 := hr21_0
                      refine wp_rdIn (by have : (0 : Int) ≤ gI s13 501 ∧ gI s13 501 ≤ 48 := hRs13.1 501; have : (0 : Int) ≤ gI s5 501 ∧ gI s5 501 ≤ 48 := hRs5.1 501; omega) (fun y22 ey22 => ?_)
                      have by22 : (-257 : Int) ≤ y22 ∧ y22 ≤ 65535 := ey22 ▸ hRs13.2.1 59 _ (by show _ < 288; have : (0 : Int) ≤ gI s13 501 ∧ gI s13 501 ≤ 48 := hRs13.1 501; have : (0 : Int) ≤ gI s5 501 ∧ gI s5 501 ≤ 48 := hRs5.1 501; omega)
                      have us2 := us.2.1 (by show 0 < gA s 56 y19.toNat; omega) x12.toNat (by show ((x12.toNat : Nat) : Int) < gA s 57 y19.toNat; omega)
                      have us3 : 0 ≤ gA s 59 (6 * y19.toNat + x12.toNat) ∧ gA s 59 (6 * y19.toNat + x12.toNat) < 48 := us2
                      rw [← hv82_5.2.2.2, show 6 * y19.toNat + x12.toNat = r21.toNat by omega, ey22] at us3
                      refine wp_inb (by have : (0 : Int) ≤ gI s5 501 ∧ gI s5 501 ≤ 48 := hRs5.1 501; have : (0 : Int) ≤ gI s13 501 ∧ gI s13 501 ≤ 48 := hRs13.1 501; omega) ?_
                      refine wp_stn (fun s24 es24 => ?_)
                      have hRs24 : Rg s24 := es24 ▸ Rg.uAu hRs13 (by show (0 : Int) ≤ y22 ∧ y22 ≤ 47; have : (0 : Int) ≤ gI s13 501 ∧ gI s13 501 ≤ 48 := hRs13.1 501; have : (0 : Int) ≤ gI s5 501 ∧ gI s5 501 ≤ 48 := hRs5.1 501; omega)
                      refine wp_rdIn (by have : (0 : Int) ≤ gI s13 501 ∧ gI s13 501 ≤ 48 := hRs13.1 501; have : (0 : Int) ≤ gI s5 501 ∧ gI s5 501 ≤ 48 := hRs5.1 501; have : gI s24 501 = gI s13 501 := q_Ai es24; omega) (fun y25 ey25 => ?_)
                      have by25 : (0 : Int) ≤ y25 ∧ y25 ≤ 47 := ey25 ▸ hRs24.2.1 26 _ (by show _ < 48; have : (0 : Int) ≤ gI s13 501 ∧ gI s13 501 ≤ 48 := hRs13.1 501; have : (0 : Int) ≤ gI s5 501 ∧ gI s5 501 ≤ 48 := hRs5.1 501; have : gI s24 501 = gI s13 501 := q_Ai es24; omega)
                      refine wp_stn (fun s26 es26 => ?_)
                      have hRs26 : Rg s26 := es26 ▸ Rg.uI hRs24 (by show (0 : Int) ≤ ((gI s24 501) + 1) ∧ ((gI s24 501) + 1) ≤ 48; have : (0 : Int) ≤ gI s13 501 ∧ gI s13 501 ≤ 48 := hRs13.1 501; have : (0 : Int) ≤ gI s5 501 ∧ gI s5 501 ≤ 48 := hRs5.1 501; have : gI s24 501 = gI s13 501 := q_Ai es24; omega)
                      exact ih82 (orL z9 (shlLZ 1 y25)) x10 x11 (x12 + 1) s26 hRs26 (R8_or _ _) (by show 0 ≤ x10 ∧ x10 < 48 ∧ x10 = x4; have : (0 : Int) ≤ gI s13 501 ∧ gI s13 501 ≤ 48 := hRs13.1 501; have : (0 : Int) ≤ gI s5 501 ∧ gI s5 501 ≤ 48 := hRs5.1 501; omega) (by rw [show gA s26 26 x10.toNat = gA s13 26 x10.toNat from by rw [(q_Ia es26 : gA s26 26 = gA s24 26), q_AA es24, upZ_n (by omega)]]; exact hv82_2) (by show 0 ≤ (x12 + 1) ∧ (x12 + 1) ≤ 6; have : (0 : Int) ≤ gI s13 501 ∧ gI s13 501 ≤ 48 := hRs13.1 501; have : (0 : Int) ≤ gI s5 501 ∧ gI s5 501 ≤ 48 := hRs5.1 501; omega) (by show x10 < gI s26 501; have : (0 : Int) ≤ gI s13 501 ∧ gI s13 501 ≤ 48 := hRs13.1 501; have : (0 : Int) ≤ gI s5 501 ∧ gI s5 501 ≤ 48 := hRs5.1 501; have : gI s26 501 = (gI s24 501) + 1 := q_II es26; have : gI s24 501 = gI s13 501 := q_Ai es24; omega) (⟨(((q_Ia es26 : gA s26 56 = gA s24 56).trans (q_Aa es24 (by decide) : gA s24 56 = gA s13 56))).trans hv82_5.1, (((q_Ia es26 : gA s26 57 = gA s24 57).trans (q_Aa es24 (by decide) : gA s24 57 = gA s13 57))).trans hv82_5.2.1, (((q_Ia es26 : gA s26 58 = gA s24 58).trans (q_Aa es24 (by decide) : gA s24 58 = gA s13 58))).trans hv82_5.2.2.1, (((q_Ia es26 : gA s26 59 = gA s24 59).trans (q_Aa es24 (by decide) : gA s24 59 = gA s13 59))).trans hv82_5.2.2.2⟩) (by show (-1) ≤ x11 ∧ x11 ≤ 255; have : (0 : Int) ≤ gI s13 501 ∧ gI s13 501 ≤ 48 := hRs13.1 501; have : (0 : Int) ≤ gI s5 501 ∧ gI s5 501 ≤ 48 := hRs5.1 501; omega) (by have : (0 : Int) ≤ gI s13 501 ∧ gI s13 501 ≤ 48 := hRs13.1 501; have : (0 : Int) ≤ gI s5 501 ∧ gI s5 501 ≤ 48 := hRs5.1 501; omega)
              exact L82 FU z3 x4 y41 0 s5 hRs5 (hv30_0) (by show 0 ≤ x4 ∧ x4 < 48 ∧ x4 = x4; have : (0 : Int) ≤ gI s5 501 ∧ gI s5 501 ≤ 48 := hRs5.1 501; omega) (by first | exact Or.inl (by omega) | exact Or.inr ⟨by rw [ey40, ← hv30_2.2.1, ey41], by rw [ey36, ← hv30_2.1, ey37]; omega⟩) (by show 0 ≤ (0 : Int) ∧ (0 : Int) ≤ 6; have : (0 : Int) ≤ gI s5 501 ∧ gI s5 501 ≤ 48 := hRs5.1 501; omega) (by show x4 < gI s5 501; have : (0 : Int) ≤ gI s5 501 ∧ gI s5 501 ≤ 48 := hRs5.1 501; omega) (hv30_2) (by show (-1) ≤ y41 ∧ y41 ≤ 255; have : (0 : Int) ≤ gI s5 501 ∧ gI s5 501 ≤ 48 := hRs5.1 501; omega) (by have := FU_big; have := FU_big2; have : (0 : Int) ≤ gI s5 501 ∧ gI s5 501 ≤ 48 := hRs5.1 501; omega)
    exact L30 FU (shlLZ 1 p1) 0 s47 hRs47 (R8_shl _ _) (by show 0 ≤ (0 : Int) ∧ (0 : Int) ≤ 48; omega) (⟨((q_Ia es47 : gA s47 56 = gA s46 56).trans ((q_Aa es46 (by decide) : gA s46 56 = gA s42 56).trans (q_Ia es42 : gA s42 56 = gA s 56))), ((q_Ia es47 : gA s47 57 = gA s46 57).trans ((q_Aa es46 (by decide) : gA s46 57 = gA s42 57).trans (q_Ia es42 : gA s42 57 = gA s 57))), ((q_Ia es47 : gA s47 58 = gA s46 58).trans ((q_Aa es46 (by decide) : gA s46 58 = gA s42 58).trans (q_Ia es42 : gA s42 58 = gA s 58))), ((q_Ia es47 : gA s47 59 = gA s46 59).trans ((q_Aa es46 (by decide) : gA s46 59 = gA s42 59).trans (q_Ia es42 : gA s42 59 = gA s 59)))⟩) (by have := FU_big; have := FU_big2; omega)
  · skip
    exact wp_some ⟨hRs42, by show R8 0; decide⟩
set_option maxHeartbeats 1000000 in
theorem w_x10_gather {p1 : Int} {s : MS} (hRs : Rg s) (hp0 : US (hN s) (kN s)) (hp1 : (-2) ≤ p1 ∧ p1 < 48) : wp (m_x10_gather p1 s) (fun q => (Rg q.2) ∧ (0 ≤ q.1 ∧ q.1 ≤ 288) ∧ (∀ j : Nat, (j : Int) < q.1 → 0 ≤ gA q.2 23 j ∧ gA q.2 23 j ≤ 999)) := by
  unfold m_x10_gather
  refine wp_bn (w_x10_tree hRs (by show US (hN s) (kN s); omega) (by show (-2) ≤ p1 ∧ p1 < 48; omega)) (fun qqrl44 eqrl44s hqrl44s => ?_)
  obtain ⟨qrl44r, qrl44s⟩ := qqrl44
  dsimp only at eqrl44s hqrl44s ⊢
  have Fqrl44s := fr_x10_tree eqrl44s
  obtain ⟨hRqrl44s, hqrl44s_0⟩ := hqrl44s
  have hqrl44s_0 : R8 qrl44r := hqrl44s_0
  have L12 : ∀ (n : Nat) (x1 : Int) (x2 : Int) (s3 : MS), Rg s3 → (0 ≤ x1 ∧ x1 ≤ 288) → (0 ≤ x2 ∧ x2 ≤ 48) → (gA s3 56 = gA s 56 ∧ gA s3 57 = gA s 57 ∧ gA s3 58 = gA s 58 ∧ gA s3 59 = gA s 59) → (∀ j : Nat, (j : Int) < x1 → 0 ≤ gA s3 23 j ∧ gA s3 23 j ≤ 999) → (48 - x2) < (n : Int) → wp (m_x10_gather_L12 n x1 x2 s3) (fun q => (Rg q.2) ∧ (0 ≤ q.1 ∧ q.1 ≤ 288) ∧ (∀ j : Nat, (j : Int) < q.1 → 0 ≤ gA q.2 23 j ∧ gA q.2 23 j ≤ 999)) := by
    refine fr_ind (fun x1 x2 s3 hRs3 hv12_0 hv12_1 hv12_2 hv12_3 hm12 => ?_) (fun n12 ih12 x1 x2 s3 hRs3 hv12_0 hv12_1 hv12_2 hv12_3 hm12 => ?_)
    · exfalso; omega
    · show wp (m_x10_gather_b12 (m_x10_gather_L12 n12) x1 x2 s3) _
      unfold m_x10_gather_b12
      refine wp_rg (by omega) ?_
      refine wp_rg (by have : (0 : Int) ≤ gI s3 421 ∧ gI s3 421 ≤ 48 := hRs3.1 421; omega) ?_
      refine wp_if (fun c1 => ?_) (fun c1 => ?_)
      · skip
        exact wp_some ⟨hRs3, by show 0 ≤ x1 ∧ x1 ≤ 288; have : (0 : Int) ≤ gI s3 421 ∧ gI s3 421 ≤ 48 := hRs3.1 421; omega, hv12_3⟩
      · skip
        refine wp_rdIn (by have : (0 : Int) ≤ gI s3 421 ∧ gI s3 421 ≤ 48 := hRs3.1 421; omega) (fun y36 ey36 => ?_)
        have by36 : (0 : Int) ≤ y36 ∧ y36 ≤ 47 := ey36 ▸ hRs3.2.1 22 _ (by show _ < 48; have : (0 : Int) ≤ gI s3 421 ∧ gI s3 421 ≤ 48 := hRs3.1 421; omega)
        refine wp_rdIn (by have : (0 : Int) ≤ gI s3 421 ∧ gI s3 421 ≤ 48 := hRs3.1 421; omega) (fun y37 ey37 => ?_)
        have by37 : (-1 : Int) ≤ y37 ∧ y37 ≤ 1000 := ey37 ▸ hRs3.2.1 56 _ (by show _ < 48; have : (0 : Int) ≤ gI s3 421 ∧ gI s3 421 ≤ 48 := hRs3.1 421; omega)
        refine wp_rg (by have : (0 : Int) ≤ gI s3 421 ∧ gI s3 421 ≤ 48 := hRs3.1 421; omega) ?_
        refine wp_if (fun c2 => ?_) (fun c2 => ?_)
        · skip
          refine wp_rdIn (by have : (0 : Int) ≤ gI s3 421 ∧ gI s3 421 ≤ 48 := hRs3.1 421; omega) (fun y40 ey40 => ?_)
          have by40 : (0 : Int) ≤ y40 ∧ y40 ≤ 47 := ey40 ▸ hRs3.2.1 22 _ (by show _ < 48; have : (0 : Int) ≤ gI s3 421 ∧ gI s3 421 ≤ 48 := hRs3.1 421; omega)
          refine wp_rdIn (by have : (0 : Int) ≤ gI s3 421 ∧ gI s3 421 ≤ 48 := hRs3.1 421; omega) (fun y41 ey41 => ?_)
          have by41 : (-1 : Int) ≤ y41 ∧ y41 ≤ 255 := ey41 ▸ hRs3.2.1 57 _ (by show _ < 48; have : (0 : Int) ≤ gI s3 421 ∧ gI s3 421 ≤ 48 := hRs3.1 421; omega)
          unfold m_x10_gather_J52
          have L57 : ∀ (n : Nat) (x7 : Int) (x8 : Int) (x9 : Int) (x10 : Int) (s11 : MS), Rg s11 → (0 ≤ x7 ∧ x7 ≤ 288) → (0 ≤ x8 ∧ x8 < 48 ∧ x8 = x2) → (x9 ≤ 0 ∨ x9 = gA s 57 (gA s11 22 x8.toNat).toNat) → (0 ≤ x10 ∧ x10 ≤ 6) → (gA s11 56 = gA s 56 ∧ gA s11 57 = gA s 57 ∧ gA s11 58 = gA s 58 ∧ gA s11 59 = gA s 59) → (∀ j : Nat, (j : Int) < x7 → 0 ≤ gA s11 23 j ∧ gA s11 23 j ≤ 999) → ((-1) ≤ x9 ∧ x9 ≤ 255) → (6 - x10) < (n : Int) → wp (m_x10_gather_L57 (m_x10_gather_L12 n12) n x7 x8 x9 x10 s11) (fun q => (Rg q.2) ∧ (0 ≤ q.1 ∧ q.1 ≤ 288) ∧ (∀ j : Nat, (j : Int) < q.1 → 0 ≤ gA q.2 23 j ∧ gA q.2 23 j ≤ 999)) := by
            refine fr_ind (fun x7 x8 x9 x10 s11 hRs11 hv57_0 hv57_1 hv57_2 hv57_3 hv57_4 hv57_5 hv57_6 hm57 => ?_) (fun n57 ih57 x7 x8 x9 x10 s11 hRs11 hv57_0 hv57_1 hv57_2 hv57_3 hv57_4 hv57_5 hv57_6 hm57 => ?_)
            · exfalso; omega
            · show wp (m_x10_gather_b57 (m_x10_gather_L12 n12) (m_x10_gather_L57 (m_x10_gather_L12 n12) n57) x7 x8 x9 x10 s11) _
              unfold m_x10_gather_b57
              refine wp_rg (by have : (0 : Int) ≤ gI s3 421 ∧ gI s3 421 ≤ 48 := hRs3.1 421; omega) ?_
              refine wp_rg (by have : (0 : Int) ≤ gI s3 421 ∧ gI s3 421 ≤ 48 := hRs3.1 421; omega) ?_
              refine wp_if (fun c3 => ?_) (fun c3 => ?_)
              · skip
                unfold m_x10_gather_J128
                exact ih12 x7 (x8 + 1) s11 hRs11 (by show 0 ≤ x7 ∧ x7 ≤ 288; have : (0 : Int) ≤ gI s3 421 ∧ gI s3 421 ≤ 48 := hRs3.1 421; omega) (by show 0 ≤ (x8 + 1) ∧ (x8 + 1) ≤ 48; have : (0 : Int) ≤ gI s3 421 ∧ gI s3 421 ≤ 48 := hRs3.1 421; omega) (hv57_4) (hv57_5) (by have : (0 : Int) ≤ gI s3 421 ∧ gI s3 421 ≤ 48 := hRs3.1 421; omega)
              · skip
                refine wp_rg (by have : (0 : Int) ≤ gI s3 421 ∧ gI s3 421 ≤ 48 := hRs3.1 421; omega) ?_
                refine wp_if (fun c4 => ?_) (fun c4 => ?_)
                · skip
                  unfold m_x10_gather_J128
                  exact ih12 x7 (x8 + 1) s11 hRs11 (by show 0 ≤ x7 ∧ x7 ≤ 288; have : (0 : Int) ≤ gI s3 421 ∧ gI s3 421 ≤ 48 := hRs3.1 421; omega) (by show 0 ≤ (x8 + 1) ∧ (x8 + 1) ≤ 48; have : (0 : Int) ≤ gI s3 421 ∧ gI s3 421 ≤ 48 := hRs3.1 421; omega) (hv57_4) (hv57_5) (by have : (0 : Int) ≤ gI s3 421 ∧ gI s3 421 ≤ 48 := hRs3.1 421; omega)
                · skip
                  refine wp_rdIn (by have : (0 : Int) ≤ gI s3 421 ∧ gI s3 421 ≤ 48 := hRs3.1 421; omega) (fun y17 ey17 => ?_)
                  have by17 : (0 : Int) ≤ y17 ∧ y17 ≤ 47 := ey17 ▸ hRs11.2.1 22 _ (by show _ < 48; have : (0 : Int) ≤ gI s3 421 ∧ gI s3 421 ≤ 48 := hRs3.1 421; omega)
                  have us := hp0 y17.toNat (by omega)
                  have us1 : 0 ≤ gA s 57 y17.toNat ∧ gA s 57 y17.toNat ≤ 6 := us.1
                  have hw := hv57_2
                  rw [ey17] at hw
                  refine wp_bn (w_x8_slot hRs11) (fun r19 er19 hr19 => ?_)
                  have hr19_0 := hr19
                  have hr19_0 : r19 = y17 * 6 + x10 := hr19_0
                  refine wp_rdIn (by have : (0 : Int) ≤ gI s3 421 ∧ gI s3 421 ≤ 48 := hRs3.1 421; omega) (fun y20 ey20 => ?_)
                  have by20 : (-257 : Int) ≤ y20 ∧ y20 ≤ 65535 := ey20 ▸ hRs11.2.1 58 _ (by show _ < 288; have : (0 : Int) ≤ gI s3 421 ∧ gI s3 421 ≤ 48 := hRs3.1 421; omega)
                  have us2 := us.2.2 x10.toNat (by show ((x10.toNat : Nat) : Int) < gA s 57 y17.toNat; omega)
                  have us3 : 0 ≤ gA s 58 (6 * y17.toNat + x10.toNat) ∧ gA s 58 (6 * y17.toNat + x10.toNat) ≤ 999 := us2
                  rw [← hv57_4.2.2.1, show 6 * y17.toNat + x10.toNat = r19.toNat by omega, ey20] at us3
                  refine wp_inb (by have : (0 : Int) ≤ gI s3 421 ∧ gI s3 421 ≤ 48 := hRs3.1 421; omega) ?_
                  refine wp_stn (fun s22 es22 => ?_)
                  have hRs22 : Rg s22 := es22 ▸ Rg.uAu hRs11 (by show (-2147483648 : Int) ≤ y20 ∧ y20 ≤ 2147483647; have : (0 : Int) ≤ gI s3 421 ∧ gI s3 421 ≤ 48 := hRs3.1 421; omega)
                  refine wp_rdIn (by have : (0 : Int) ≤ gI s3 421 ∧ gI s3 421 ≤ 48 := hRs3.1 421; omega) (fun y23 ey23 => ?_)
                  have by23 : (0 : Int) ≤ y23 ∧ y23 ≤ 47 := ey23 ▸ hRs22.2.1 22 _ (by show _ < 48; have : (0 : Int) ≤ gI s3 421 ∧ gI s3 421 ≤ 48 := hRs3.1 421; omega)
                  have e23 : y23 = y17 := by rw [← ey23, ← ey17, (q_Aa es22 (by decide) : gA s22 22 = gA s11 22)]
                  refine wp_bn (w_x8_slot hRs22) (fun r25 er25 hr25 => ?_)
                  have hr25_0 := hr25
                  have hr25_0 : r25 = y23 * 6 + x10 := hr25_0
                  refine wp_rdIn (by have : (0 : Int) ≤ gI s3 421 ∧ gI s3 421 ≤ 48 := hRs3.1 421; omega) (fun y26 ey26 => ?_)
                  have by26 : (-257 : Int) ≤ y26 ∧ y26 ≤ 65535 := ey26 ▸ hRs22.2.1 59 _ (by show _ < 288; have : (0 : Int) ≤ gI s3 421 ∧ gI s3 421 ≤ 48 := hRs3.1 421; omega)
                  refine wp_inb (by have : (0 : Int) ≤ gI s3 421 ∧ gI s3 421 ≤ 48 := hRs3.1 421; omega) ?_
                  refine wp_stn (fun s28 es28 => ?_)
                  have hRs28 : Rg s28 := es28 ▸ Rg.uAu hRs22 (by show (-2147483648 : Int) ≤ y26 ∧ y26 ≤ 2147483647; have : (0 : Int) ≤ gI s3 421 ∧ gI s3 421 ≤ 48 := hRs3.1 421; omega)
                  exact ih57 (x7 + 1) x8 x9 (x10 + 1) s28 hRs28 (by show 0 ≤ (x7 + 1) ∧ (x7 + 1) ≤ 288; have : (0 : Int) ≤ gI s3 421 ∧ gI s3 421 ≤ 48 := hRs3.1 421; omega) (by show 0 ≤ x8 ∧ x8 < 48 ∧ x8 = x2; have : (0 : Int) ≤ gI s3 421 ∧ gI s3 421 ≤ 48 := hRs3.1 421; omega) (by rw [((q_Aa es28 (by decide) : gA s28 22 = gA s22 22).trans (q_Aa es22 (by decide) : gA s22 22 = gA s11 22))]; exact hv57_2) (by show 0 ≤ (x10 + 1) ∧ (x10 + 1) ≤ 6; have : (0 : Int) ≤ gI s3 421 ∧ gI s3 421 ≤ 48 := hRs3.1 421; omega) (⟨(((q_Aa es28 (by decide) : gA s28 56 = gA s22 56).trans (q_Aa es22 (by decide) : gA s22 56 = gA s11 56))).trans hv57_4.1, (((q_Aa es28 (by decide) : gA s28 57 = gA s22 57).trans (q_Aa es22 (by decide) : gA s22 57 = gA s11 57))).trans hv57_4.2.1, (((q_Aa es28 (by decide) : gA s28 58 = gA s22 58).trans (q_Aa es22 (by decide) : gA s22 58 = gA s11 58))).trans hv57_4.2.2.1, (((q_Aa es28 (by decide) : gA s28 59 = gA s22 59).trans (q_Aa es22 (by decide) : gA s22 59 = gA s11 59))).trans hv57_4.2.2.2⟩) (fun j hj => by rw [(q_Aa es28 (by decide) : gA s28 23 = gA s22 23), q_AA es22]; by_cases z : j = x7.toNat; (rw [z, upZ_s]; exact us3); (rw [upZ_n z]; exact hv57_5 j (by omega))) (by show (-1) ≤ x9 ∧ x9 ≤ 255; have : (0 : Int) ≤ gI s3 421 ∧ gI s3 421 ≤ 48 := hRs3.1 421; omega) (by have : (0 : Int) ≤ gI s3 421 ∧ gI s3 421 ≤ 48 := hRs3.1 421; omega)
          exact L57 FU x1 x2 y41 0 s3 hRs3 (by show 0 ≤ x1 ∧ x1 ≤ 288; have : (0 : Int) ≤ gI s3 421 ∧ gI s3 421 ≤ 48 := hRs3.1 421; omega) (by show 0 ≤ x2 ∧ x2 < 48 ∧ x2 = x2; have : (0 : Int) ≤ gI s3 421 ∧ gI s3 421 ≤ 48 := hRs3.1 421; omega) (by first | exact Or.inl (by omega) | exact Or.inr (by rw [ey40, ← hv12_2.2.1, ey41])) (by show 0 ≤ (0 : Int) ∧ (0 : Int) ≤ 6; have : (0 : Int) ≤ gI s3 421 ∧ gI s3 421 ≤ 48 := hRs3.1 421; omega) (hv12_2) (hv12_3) (by show (-1) ≤ y41 ∧ y41 ≤ 255; have : (0 : Int) ≤ gI s3 421 ∧ gI s3 421 ≤ 48 := hRs3.1 421; omega) (by have := FU_big; have := FU_big2; have : (0 : Int) ≤ gI s3 421 ∧ gI s3 421 ≤ 48 := hRs3.1 421; omega)
        · skip
          unfold m_x10_gather_J52
          have L57 : ∀ (n : Nat) (x7 : Int) (x8 : Int) (x9 : Int) (x10 : Int) (s11 : MS), Rg s11 → (0 ≤ x7 ∧ x7 ≤ 288) → (0 ≤ x8 ∧ x8 < 48 ∧ x8 = x2) → (x9 ≤ 0 ∨ x9 = gA s 57 (gA s11 22 x8.toNat).toNat) → (0 ≤ x10 ∧ x10 ≤ 6) → (gA s11 56 = gA s 56 ∧ gA s11 57 = gA s 57 ∧ gA s11 58 = gA s 58 ∧ gA s11 59 = gA s 59) → (∀ j : Nat, (j : Int) < x7 → 0 ≤ gA s11 23 j ∧ gA s11 23 j ≤ 999) → ((-1) ≤ x9 ∧ x9 ≤ 255) → (6 - x10) < (n : Int) → wp (m_x10_gather_L57 (m_x10_gather_L12 n12) n x7 x8 x9 x10 s11) (fun q => (Rg q.2) ∧ (0 ≤ q.1 ∧ q.1 ≤ 288) ∧ (∀ j : Nat, (j : Int) < q.1 → 0 ≤ gA q.2 23 j ∧ gA q.2 23 j ≤ 999)) := by
            refine fr_ind (fun x7 x8 x9 x10 s11 hRs11 hv57_0 hv57_1 hv57_2 hv57_3 hv57_4 hv57_5 hv57_6 hm57 => ?_) (fun n57 ih57 x7 x8 x9 x10 s11 hRs11 hv57_0 hv57_1 hv57_2 hv57_3 hv57_4 hv57_5 hv57_6 hm57 => ?_)
            · exfalso; omega
            · show wp (m_x10_gather_b57 (m_x10_gather_L12 n12) (m_x10_gather_L57 (m_x10_gather_L12 n12) n57) x7 x8 x9 x10 s11) _
              unfold m_x10_gather_b57
              refine wp_rg (by have : (0 : Int) ≤ gI s3 421 ∧ gI s3 421 ≤ 48 := hRs3.1 421; omega) ?_
              refine wp_rg (by have : (0 : Int) ≤ gI s3 421 ∧ gI s3 421 ≤ 48 := hRs3.1 421; omega) ?_
              refine wp_if (fun c5 => ?_) (fun c5 => ?_)
              · skip
                unfold m_x10_gather_J128
                exact ih12 x7 (x8 + 1) s11 hRs11 (by show 0 ≤ x7 ∧ x7 ≤ 288; have : (0 : Int) ≤ gI s3 421 ∧ gI s3 421 ≤ 48 := hRs3.1 421; omega) (by show 0 ≤ (x8 + 1) ∧ (x8 + 1) ≤ 48; have : (0 : Int) ≤ gI s3 421 ∧ gI s3 421 ≤ 48 := hRs3.1 421; omega) (hv57_4) (hv57_5) (by have : (0 : Int) ≤ gI s3 421 ∧ gI s3 421 ≤ 48 := hRs3.1 421; omega)
              · skip
                refine wp_rg (by have : (0 : Int) ≤ gI s3 421 ∧ gI s3 421 ≤ 48 := hRs3.1 421; omega) ?_
                refine wp_if (fun c6 => ?_) (fun c6 => ?_)
                · skip
                  unfold m_x10_gather_J128
                  exact ih12 x7 (x8 + 1) s11 hRs11 (by show 0 ≤ x7 ∧ x7 ≤ 288; have : (0 : Int) ≤ gI s3 421 ∧ gI s3 421 ≤ 48 := hRs3.1 421; omega) (by show 0 ≤ (x8 + 1) ∧ (x8 + 1) ≤ 48; have : (0 : Int) ≤ gI s3 421 ∧ gI s3 421 ≤ 48 := hRs3.1 421; omega) (hv57_4) (hv57_5) (by have : (0 : Int) ≤ gI s3 421 ∧ gI s3 421 ≤ 48 := hRs3.1 421; omega)
                · skip
                  refine wp_rdIn (by have : (0 : Int) ≤ gI s3 421 ∧ gI s3 421 ≤ 48 := hRs3.1 421; omega) (fun y17 ey17 => ?_)
                  have by17 : (0 : Int) ≤ y17 ∧ y17 ≤ 47 := ey17 ▸ hRs11.2.1 22 _ (by show _ < 48; have : (0 : Int) ≤ gI s3 421 ∧ gI s3 421 ≤ 48 := hRs3.1 421; omega)
                  have us := hp0 y17.toNat (by omega)
                  have us1 : 0 ≤ gA s 57 y17.toNat ∧ gA s 57 y17.toNat ≤ 6 := us.1
                  have hw := hv57_2
                  rw [ey17] at hw
                  refine wp_bn (w_x8_slot hRs11) (fun r19 er19 hr19 => ?_)
                  have hr19_0 := hr19
                  have hr19_0 : r19 = y17 * 6 + x10 := hr19_0
                  refine wp_rdIn (by have : (0 : Int) ≤ gI s3 421 ∧ gI s3 421 ≤ 48 := hRs3.1 421; omega) (fun y20 ey20 => ?_)
                  have by20 : (-257 : Int) ≤ y20 ∧ y20 ≤ 65535 := ey20 ▸ hRs11.2.1 58 _ (by show _ < 288; have : (0 : Int) ≤ gI s3 421 ∧ gI s3 421 ≤ 48 := hRs3.1 421; omega)
                  have us2 := us.2.2 x10.toNat (by show ((x10.toNat : Nat) : Int) < gA s 57 y17.toNat; omega)
                  have us3 : 0 ≤ gA s 58 (6 * y17.toNat + x10.toNat) ∧ gA s 58 (6 * y17.toNat + x10.toNat) ≤ 999 := us2
                  rw [← hv57_4.2.2.1, show 6 * y17.toNat + x10.toNat = r19.toNat by omega, ey20] at us3
                  refine wp_inb (by have : (0 : Int) ≤ gI s3 421 ∧ gI s3 421 ≤ 48 := hRs3.1 421; omega) ?_
                  refine wp_stn (fun s22 es22 => ?_)
                  have hRs22 : Rg s22 := es22 ▸ Rg.uAu hRs11 (by show (-2147483648 : Int) ≤ y20 ∧ y20 ≤ 2147483647; have : (0 : Int) ≤ gI s3 421 ∧ gI s3 421 ≤ 48 := hRs3.1 421; omega)
                  refine wp_rdIn (by have : (0 : Int) ≤ gI s3 421 ∧ gI s3 421 ≤ 48 := hRs3.1 421; omega) (fun y23 ey23 => ?_)
                  have by23 : (0 : Int) ≤ y23 ∧ y23 ≤ 47 := ey23 ▸ hRs22.2.1 22 _ (by show _ < 48; have : (0 : Int) ≤ gI s3 421 ∧ gI s3 421 ≤ 48 := hRs3.1 421; omega)
                  have e23 : y23 = y17 := by rw [← ey23, ← ey17, (q_Aa es22 (by decide) : gA s22 22 = gA s11 22)]
                  refine wp_bn (w_x8_slot hRs22) (fun r25 er25 hr25 => ?_)
                  have hr25_0 := hr25
                  have hr25_0 : r25 = y23 * 6 + x10 := hr25_0
                  refine wp_rdIn (by have : (0 : Int) ≤ gI s3 421 ∧ gI s3 421 ≤ 48 := hRs3.1 421; omega) (fun y26 ey26 => ?_)
                  have by26 : (-257 : Int) ≤ y26 ∧ y26 ≤ 65535 := ey26 ▸ hRs22.2.1 59 _ (by show _ < 288; have : (0 : Int) ≤ gI s3 421 ∧ gI s3 421 ≤ 48 := hRs3.1 421; omega)
                  refine wp_inb (by have : (0 : Int) ≤ gI s3 421 ∧ gI s3 421 ≤ 48 := hRs3.1 421; omega) ?_
                  refine wp_stn (fun s28 es28 => ?_)
                  have hRs28 : Rg s28 := es28 ▸ Rg.uAu hRs22 (by show (-2147483648 : Int) ≤ y26 ∧ y26 ≤ 2147483647; have : (0 : Int) ≤ gI s3 421 ∧ gI s3 421 ≤ 48 := hRs3.1 421; omega)
                  exact ih57 (x7 + 1) x8 x9 (x10 + 1) s28 hRs28 (by show 0 ≤ (x7 + 1) ∧ (x7 + 1) ≤ 288; have : (0 : Int) ≤ gI s3 421 ∧ gI s3 421 ≤ 48 := hRs3.1 421; omega) (by show 0 ≤ x8 ∧ x8 < 48 ∧ x8 = x2; have : (0 : Int) ≤ gI s3 421 ∧ gI s3 421 ≤ 48 := hRs3.1 421; omega) (by rw [((q_Aa es28 (by decide) : gA s28 22 = gA s22 22).trans (q_Aa es22 (by decide) : gA s22 22 = gA s11 22))]; exact hv57_2) (by show 0 ≤ (x10 + 1) ∧ (x10 + 1) ≤ 6; have : (0 : Int) ≤ gI s3 421 ∧ gI s3 421 ≤ 48 := hRs3.1 421; omega) (⟨(((q_Aa es28 (by decide) : gA s28 56 = gA s22 56).trans (q_Aa es22 (by decide) : gA s22 56 = gA s11 56))).trans hv57_4.1, (((q_Aa es28 (by decide) : gA s28 57 = gA s22 57).trans (q_Aa es22 (by decide) : gA s22 57 = gA s11 57))).trans hv57_4.2.1, (((q_Aa es28 (by decide) : gA s28 58 = gA s22 58).trans (q_Aa es22 (by decide) : gA s22 58 = gA s11 58))).trans hv57_4.2.2.1, (((q_Aa es28 (by decide) : gA s28 59 = gA s22 59).trans (q_Aa es22 (by decide) : gA s22 59 = gA s11 59))).trans hv57_4.2.2.2⟩) (fun j hj => by rw [(q_Aa es28 (by decide) : gA s28 23 = gA s22 23), q_AA es22]; by_cases z : j = x7.toNat; (rw [z, upZ_s]; exact us3); (rw [upZ_n z]; exact hv57_5 j (by omega))) (by show (-1) ≤ x9 ∧ x9 ≤ 255; have : (0 : Int) ≤ gI s3 421 ∧ gI s3 421 ≤ 48 := hRs3.1 421; omega) (by have : (0 : Int) ≤ gI s3 421 ∧ gI s3 421 ≤ 48 := hRs3.1 421; omega)
          exact L57 FU x1 x2 0 0 s3 hRs3 (by show 0 ≤ x1 ∧ x1 ≤ 288; have : (0 : Int) ≤ gI s3 421 ∧ gI s3 421 ≤ 48 := hRs3.1 421; omega) (by show 0 ≤ x2 ∧ x2 < 48 ∧ x2 = x2; have : (0 : Int) ≤ gI s3 421 ∧ gI s3 421 ≤ 48 := hRs3.1 421; omega) (by first | exact Or.inl (by omega) | exact Or.inr (by rw [ey40, ← hv12_2.2.1, ey41])) (by show 0 ≤ (0 : Int) ∧ (0 : Int) ≤ 6; have : (0 : Int) ≤ gI s3 421 ∧ gI s3 421 ≤ 48 := hRs3.1 421; omega) (hv12_2) (hv12_3) (by show (-1) ≤ (0 : Int) ∧ (0 : Int) ≤ 255; have : (0 : Int) ≤ gI s3 421 ∧ gI s3 421 ≤ 48 := hRs3.1 421; omega) (by have := FU_big; have := FU_big2; have : (0 : Int) ≤ gI s3 421 ∧ gI s3 421 ≤ 48 := hRs3.1 421; omega)
  exact L12 FU 0 0 qrl44s hRqrl44s (by show 0 ≤ (0 : Int) ∧ (0 : Int) ≤ 288; omega) (by show 0 ≤ (0 : Int) ∧ (0 : Int) ≤ 48; omega) (⟨(Fqrl44s.2.1 56 (by decide)), (Fqrl44s.2.1 57 (by decide)), (Fqrl44s.2.1 58 (by decide)), (Fqrl44s.2.1 59 (by decide))⟩) (fun j hj => absurd hj (by omega)) (by have := FU_big; have := FU_big2; omega)
set_option maxHeartbeats 1000000 in
theorem w_x10_gather_v2 {p1 : Int} {s : MS} (hRs : Rg s) (hp0 : US (hN s) (kN s)) (hp1 : (-2) ≤ p1 ∧ p1 < 48) : wp (m_x10_gather_v2 p1 s) (fun q => (Rg q.2) ∧ (0 ≤ q.1 ∧ q.1 ≤ 288) ∧ (∀ j : Nat, (j : Int) < q.1 → 0 ≤ gA q.2 27 j ∧ gA q.2 27 j ≤ 999)) := by
  unfold m_x10_gather_v2
  refine wp_bn (w_x10_tree_v2 hRs (by show US (hN s) (kN s); omega) (by show (-2) ≤ p1 ∧ p1 < 48; omega)) (fun qqrl44 eqrl44s hqrl44s => ?_)
  obtain ⟨qrl44r, qrl44s⟩ := qqrl44
  dsimp only at eqrl44s hqrl44s ⊢
  have Fqrl44s := fr_x10_tree_v2 eqrl44s
  obtain ⟨hRqrl44s, hqrl44s_0⟩ := hqrl44s
  have hqrl44s_0 : R8 qrl44r := hqrl44s_0
  have L12 : ∀ (n : Nat) (x1 : Int) (x2 : Int) (s3 : MS), Rg s3 → (0 ≤ x1 ∧ x1 ≤ 288) → (0 ≤ x2 ∧ x2 ≤ 48) → (gA s3 56 = gA s 56 ∧ gA s3 57 = gA s 57 ∧ gA s3 58 = gA s 58 ∧ gA s3 59 = gA s 59) → (∀ j : Nat, (j : Int) < x1 → 0 ≤ gA s3 27 j ∧ gA s3 27 j ≤ 999) → (48 - x2) < (n : Int) → wp (m_x10_gather_v2_L12 n x1 x2 s3) (fun q => (Rg q.2) ∧ (0 ≤ q.1 ∧ q.1 ≤ 288) ∧ (∀ j : Nat, (j : Int) < q.1 → 0 ≤ gA q.2 27 j ∧ gA q.2 27 j ≤ 999)) := by
    refine fr_ind (fun x1 x2 s3 hRs3 hv12_0 hv12_1 hv12_2 hv12_3 hm12 => ?_) (fun n12 ih12 x1 x2 s3 hRs3 hv12_0 hv12_1 hv12_2 hv12_3 hm12 => ?_)
    · exfalso; omega
    · show wp (m_x10_gather_v2_b12 (m_x10_gather_v2_L12 n12) x1 x2 s3) _
      unfold m_x10_gather_v2_b12
      refine wp_rg (by omega) ?_
      refine wp_rg (by have : (0 : Int) ≤ gI s3 501 ∧ gI s3 501 ≤ 48 := hRs3.1 501; omega) ?_
      refine wp_if (fun c1 => ?_) (fun c1 => ?_)
      · skip
        exact wp_some ⟨hRs3, by show 0 ≤ x1 ∧ x1 ≤ 288; have : (0 : Int) ≤ gI s3 501 ∧ gI s3 501 ≤ 48 := hRs3.1 501; omega, hv12_3⟩
      · skip
        refine wp_rdIn (by have : (0 : Int) ≤ gI s3 501 ∧ gI s3 501 ≤ 48 := hRs3.1 501; omega) (fun y36 ey36 => ?_)
        have by36 : (0 : Int) ≤ y36 ∧ y36 ≤ 47 := ey36 ▸ hRs3.2.1 26 _ (by show _ < 48; have : (0 : Int) ≤ gI s3 501 ∧ gI s3 501 ≤ 48 := hRs3.1 501; omega)
        refine wp_rdIn (by have : (0 : Int) ≤ gI s3 501 ∧ gI s3 501 ≤ 48 := hRs3.1 501; omega) (fun y37 ey37 => ?_)
        have by37 : (-1 : Int) ≤ y37 ∧ y37 ≤ 1000 := ey37 ▸ hRs3.2.1 56 _ (by show _ < 48; have : (0 : Int) ≤ gI s3 501 ∧ gI s3 501 ≤ 48 := hRs3.1 501; omega)
        refine wp_rg (by have : (0 : Int) ≤ gI s3 501 ∧ gI s3 501 ≤ 48 := hRs3.1 501; omega) ?_
        refine wp_if (fun c2 => ?_) (fun c2 => ?_)
        · skip
          refine wp_rdIn (by have : (0 : Int) ≤ gI s3 501 ∧ gI s3 501 ≤ 48 := hRs3.1 501; omega) (fun y40 ey40 => ?_)
          have by40 : (0 : Int) ≤ y40 ∧ y40 ≤ 47 := ey40 ▸ hRs3.2.1 26 _ (by show _ < 48; have : (0 : Int) ≤ gI s3 501 ∧ gI s3 501 ≤ 48 := hRs3.1 501; omega)
          refine wp_rdIn (by have : (0 : Int) ≤ gI s3 501 ∧ gI s3 501 ≤ 48 := hRs3.1 501; omega) (fun y41 ey41 => ?_)
          have by41 : (-1 : Int) ≤ y41 ∧ y41 ≤ 255 := ey41 ▸ hRs3.2.1 57 _ (by show _ < 48; have : (0 : Int) ≤ gI s3 501 ∧ gI s3 501 ≤ 48 := hRs3.1 501; omega)
          unfold m_x10_gather_v2_J52
          have L57 : ∀ (n : Nat) (x7 : Int) (x8 : Int) (x9 : Int) (x10 : Int) (s11 : MS), Rg s11 → (0 ≤ x7 ∧ x7 ≤ 288) → (0 ≤ x8 ∧ x8 < 48 ∧ x8 = x2) → (x9 ≤ 0 ∨ x9 = gA s 57 (gA s11 26 x8.toNat).toNat) → (0 ≤ x10 ∧ x10 ≤ 6) → (gA s11 56 = gA s 56 ∧ gA s11 57 = gA s 57 ∧ gA s11 58 = gA s 58 ∧ gA s11 59 = gA s 59) → (∀ j : Nat, (j : Int) < x7 → 0 ≤ gA s11 27 j ∧ gA s11 27 j ≤ 999) → ((-1) ≤ x9 ∧ x9 ≤ 255) → (6 - x10) < (n : Int) → wp (m_x10_gather_v2_L57 (m_x10_gather_v2_L12 n12) n x7 x8 x9 x10 s11) (fun q => (Rg q.2) ∧ (0 ≤ q.1 ∧ q.1 ≤ 288) ∧ (∀ j : Nat, (j : Int) < q.1 → 0 ≤ gA q.2 27 j ∧ gA q.2 27 j ≤ 999)) := by
            refine fr_ind (fun x7 x8 x9 x10 s11 hRs11 hv57_0 hv57_1 hv57_2 hv57_3 hv57_4 hv57_5 hv57_6 hm57 => ?_) (fun n57 ih57 x7 x8 x9 x10 s11 hRs11 hv57_0 hv57_1 hv57_2 hv57_3 hv57_4 hv57_5 hv57_6 hm57 => ?_)
            · exfalso; omega
            · show wp (m_x10_gather_v2_b57 (m_x10_gather_v2_L12 n12) (m_x10_gather_v2_L57 (m_x10_gather_v2_L12 n12) n57) x7 x8 x9 x10 s11) _
              unfold m_x10_gather_v2_b57
              refine wp_rg (by have : (0 : Int) ≤ gI s3 501 ∧ gI s3 501 ≤ 48 := hRs3.1 501; omega) ?_
              refine wp_rg (by have : (0 : Int) ≤ gI s3 501 ∧ gI s3 501 ≤ 48 := hRs3.1 501; omega) ?_
              refine wp_if (fun c3 => ?_) (fun c3 => ?_)
              · skip
                unfold m_x10_gather_v2_J128
                exact ih12 x7 (x8 + 1) s11 hRs11 (by show 0 ≤ x7 ∧ x7 ≤ 288; have : (0 : Int) ≤ gI s3 501 ∧ gI s3 501 ≤ 48 := hRs3.1 501; omega) (by show 0 ≤ (x8 + 1) ∧ (x8 + 1) ≤ 48; have : (0 : Int) ≤ gI s3 501 ∧ gI s3 501 ≤ 48 := hRs3.1 501; omega) (hv57_4) (hv57_5) (by have : (0 : Int) ≤ gI s3 501 ∧ gI s3 501 ≤ 48 := hRs3.1 501; omega)
              · skip
                refine wp_rg (by have : (0 : Int) ≤ gI s3 501 ∧ gI s3 501 ≤ 48 := hRs3.1 501; omega) ?_
                refine wp_if (fun c4 => ?_) (fun c4 => ?_)
                · skip
                  unfold m_x10_gather_v2_J128
                  exact ih12 x7 (x8 + 1) s11 hRs11 (by show 0 ≤ x7 ∧ x7 ≤ 288; have : (0 : Int) ≤ gI s3 501 ∧ gI s3 501 ≤ 48 := hRs3.1 501; omega) (by show 0 ≤ (x8 + 1) ∧ (x8 + 1) ≤ 48; have : (0 : Int) ≤ gI s3 501 ∧ gI s3 501 ≤ 48 := hRs3.1 501; omega) (hv57_4) (hv57_5) (by have : (0 : Int) ≤ gI s3 501 ∧ gI s3 501 ≤ 48 := hRs3.1 501; omega)
                · skip
                  refine wp_rdIn (by have : (0 : Int) ≤ gI s3 501 ∧ gI s3 501 ≤ 48 := hRs3.1 501; omega) (fun y17 ey17 => ?_)
                  have by17 : (0 : Int) ≤ y17 ∧ y17 ≤ 47 := ey17 ▸ hRs11.2.1 26 _ (by show _ < 48; have : (0 : Int) ≤ gI s3 501 ∧ gI s3 501 ≤ 48 := hRs3.1 501; omega)
                  have us := hp0 y17.toNat (by omega)
                  have us1 : 0 ≤ gA s 57 y17.toNat ∧ gA s 57 y17.toNat ≤ 6 := us.1
                  have hw := hv57_2
                  rw [ey17] at hw
                  refine wp_bn (w_x8_slot hRs11) (fun r19 er19 hr19 => ?_)
                  have hr19_0 := hr19
                  have hr19_0 : r19 = y17 * 6 + x10 := hr19_0
                  refine wp_rdIn (by have : (0 : Int) ≤ gI s3 501 ∧ gI s3 501 ≤ 48 := hRs3.1 501; omega) (fun y20 ey20 => ?_)
                  have by20 : (-257 : Int) ≤ y20 ∧ y20 ≤ 65535 := ey20 ▸ hRs11.2.1 58 _ (by show _ < 288; have : (0 : Int) ≤ gI s3 501 ∧ gI s3 501 ≤ 48 := hRs3.1 501; omega)
                  have us2 := us.2.2 x10.toNat (by show ((x10.toNat : Nat) : Int) < gA s 57 y17.toNat; omega)
                  have us3 : 0 ≤ gA s 58 (6 * y17.toNat + x10.toNat) ∧ gA s 58 (6 * y17.toNat + x10.toNat) ≤ 999 := us2
                  rw [← hv57_4.2.2.1, show 6 * y17.toNat + x10.toNat = r19.toNat by omega, ey20] at us3
                  refine wp_inb (by have : (0 : Int) ≤ gI s3 501 ∧ gI s3 501 ≤ 48 := hRs3.1 501; omega) ?_
                  refine wp_stn (fun s22 es22 => ?_)
                  have hRs22 : Rg s22 := es22 ▸ Rg.uAu hRs11 (by show (-2147483648 : Int) ≤ y20 ∧ y20 ≤ 2147483647; have : (0 : Int) ≤ gI s3 501 ∧ gI s3 501 ≤ 48 := hRs3.1 501; omega)
                  refine wp_rdIn (by have : (0 : Int) ≤ gI s3 501 ∧ gI s3 501 ≤ 48 := hRs3.1 501; omega) (fun y23 ey23 => ?_)
                  have by23 : (0 : Int) ≤ y23 ∧ y23 ≤ 47 := ey23 ▸ hRs22.2.1 26 _ (by show _ < 48; have : (0 : Int) ≤ gI s3 501 ∧ gI s3 501 ≤ 48 := hRs3.1 501; omega)
                  have e23 : y23 = y17 := by rw [← ey23, ← ey17, (q_Aa es22 (by decide) : gA s22 26 = gA s11 26)]
                  refine wp_bn (w_x8_slot hRs22) (fun r25 er25 hr25 => ?_)
                  have hr25_0 := hr25
                  have hr25_0 : r25 = y23 * 6 + x10 := hr25_0
                  refine wp_rdIn (by have : (0 : Int) ≤ gI s3 501 ∧ gI s3 501 ≤ 48 := hRs3.1 501; omega) (fun y26 ey26 => ?_)
                  have by26 : (-257 : Int) ≤ y26 ∧ y26 ≤ 65535 := ey26 ▸ hRs22.2.1 59 _ (by show _ < 288; have : (0 : Int) ≤ gI s3 501 ∧ gI s3 501 ≤ 48 := hRs3.1 501; omega)
                  refine wp_inb (by have : (0 : Int) ≤ gI s3 501 ∧ gI s3 501 ≤ 48 := hRs3.1 501; omega) ?_
                  refine wp_stn (fun s28 es28 => ?_)
                  have hRs28 : Rg s28 := es28 ▸ Rg.uAu hRs22 (by show (-2147483648 : Int) ≤ y26 ∧ y26 ≤ 2147483647; have : (0 : Int) ≤ gI s3 501 ∧ gI s3 501 ≤ 48 := hRs3.1 501; omega)
                  exact ih57 (x7 + 1) x8 x9 (x10 + 1) s28 hRs28 (by show 0 ≤ (x7 + 1) ∧ (x7 + 1) ≤ 288; have : (0 : Int) ≤ gI s3 501 ∧ gI s3 501 ≤ 48 := hRs3.1 501; omega) (by show 0 ≤ x8 ∧ x8 < 48 ∧ x8 = x2; have : (0 : Int) ≤ gI s3 501 ∧ gI s3 501 ≤ 48 := hRs3.1 501; omega) (by rw [((q_Aa es28 (by decide) : gA s28 26 = gA s22 26).trans (q_Aa es22 (by decide) : gA s22 26 = gA s11 26))]; exact hv57_2) (by show 0 ≤ (x10 + 1) ∧ (x10 + 1) ≤ 6; have : (0 : Int) ≤ gI s3 501 ∧ gI s3 501 ≤ 48 := hRs3.1 501; omega) (⟨(((q_Aa es28 (by decide) : gA s28 56 = gA s22 56).trans (q_Aa es22 (by decide) : gA s22 56 = gA s11 56))).trans hv57_4.1, (((q_Aa es28 (by decide) : gA s28 57 = gA s22 57).trans (q_Aa es22 (by decide) : gA s22 57 = gA s11 57))).trans hv57_4.2.1, (((q_Aa es28 (by decide) : gA s28 58 = gA s22 58).trans (q_Aa es22 (by decide) : gA s22 58 = gA s11 58))).trans hv57_4.2.2.1, (((q_Aa es28 (by decide) : gA s28 59 = gA s22 59).trans (q_Aa es22 (by decide) : gA s22 59 = gA s11 59))).trans hv57_4.2.2.2⟩) (fun j hj => by rw [(q_Aa es28 (by decide) : gA s28 27 = gA s22 27), q_AA es22]; by_cases z : j = x7.toNat; (rw [z, upZ_s]; exact us3); (rw [upZ_n z]; exact hv57_5 j (by omega))) (by show (-1) ≤ x9 ∧ x9 ≤ 255; have : (0 : Int) ≤ gI s3 501 ∧ gI s3 501 ≤ 48 := hRs3.1 501; omega) (by have : (0 : Int) ≤ gI s3 501 ∧ gI s3 501 ≤ 48 := hRs3.1 501; omega)
          exact L57 FU x1 x2 y41 0 s3 hRs3 (by show 0 ≤ x1 ∧ x1 ≤ 288; have : (0 : Int) ≤ gI s3 501 ∧ gI s3 501 ≤ 48 := hRs3.1 501; omega) (by show 0 ≤ x2 ∧ x2 < 48 ∧ x2 = x2; have : (0 : Int) ≤ gI s3 501 ∧ gI s3 501 ≤ 48 := hRs3.1 501; omega) (by first | exact Or.inl (by omega) | exact Or.inr (by rw [ey40, ← hv12_2.2.1, ey41])) (by show 0 ≤ (0 : Int) ∧ (0 : Int) ≤ 6; have : (0 : Int) ≤ gI s3 501 ∧ gI s3 501 ≤ 48 := hRs3.1 501; omega) (hv12_2) (hv12_3) (by show (-1) ≤ y41 ∧ y41 ≤ 255; have : (0 : Int) ≤ gI s3 501 ∧ gI s3 501 ≤ 48 := hRs3.1 501; omega) (by have := FU_big; have := FU_big2; have : (0 : Int) ≤ gI s3 501 ∧ gI s3 501 ≤ 48 := hRs3.1 501; omega)
        · skip
          unfold m_x10_gather_v2_J52
          have L57 : ∀ (n : Nat) (x7 : Int) (x8 : Int) (x9 : Int) (x10 : Int) (s11 : MS), Rg s11 → (0 ≤ x7 ∧ x7 ≤ 288) → (0 ≤ x8 ∧ x8 < 48 ∧ x8 = x2) → (x9 ≤ 0 ∨ x9 = gA s 57 (gA s11 26 x8.toNat).toNat) → (0 ≤ x10 ∧ x10 ≤ 6) → (gA s11 56 = gA s 56 ∧ gA s11 57 = gA s 57 ∧ gA s11 58 = gA s 58 ∧ gA s11 59 = gA s 59) → (∀ j : Nat, (j : Int) < x7 → 0 ≤ gA s11 27 j ∧ gA s11 27 j ≤ 999) → ((-1) ≤ x9 ∧ x9 ≤ 255) → (6 - x10) < (n : Int) → wp (m_x10_gather_v2_L57 (m_x10_gather_v2_L12 n12) n x7 x8 x9 x10 s11) (fun q => (Rg q.2) ∧ (0 ≤ q.1 ∧ q.1 ≤ 288) ∧ (∀ j : Nat, (j : Int) < q.1 → 0 ≤ gA q.2 27 j ∧ gA q.2 27 j ≤ 999)) := by
            refine fr_ind (fun x7 x8 x9 x10 s11 hRs11 hv57_0 hv57_1 hv57_2 hv57_3 hv57_4 hv57_5 hv57_6 hm57 => ?_) (fun n57 ih57 x7 x8 x9 x10 s11 hRs11 hv57_0 hv57_1 hv57_2 hv57_3 hv57_4 hv57_5 hv57_6 hm57 => ?_)
            · exfalso; omega
            · show wp (m_x10_gather_v2_b57 (m_x10_gather_v2_L12 n12) (m_x10_gather_v2_L57 (m_x10_gather_v2_L12 n12) n57) x7 x8 x9 x10 s11) _
              unfold m_x10_gather_v2_b57
              refine wp_rg (by have : (0 : Int) ≤ gI s3 501 ∧ gI s3 501 ≤ 48 := hRs3.1 501; omega) ?_
              refine wp_rg (by have : (0 : Int) ≤ gI s3 501 ∧ gI s3 501 ≤ 48 := hRs3.1 501; omega) ?_
              refine wp_if (fun c5 => ?_) (fun c5 => ?_)
              · skip
                unfold m_x10_gather_v2_J128
                exact ih12 x7 (x8 + 1) s11 hRs11 (by show 0 ≤ x7 ∧ x7 ≤ 288; have : (0 : Int) ≤ gI s3 501 ∧ gI s3 501 ≤ 48 := hRs3.1 501; omega) (by show 0 ≤ (x8 + 1) ∧ (x8 + 1) ≤ 48; have : (0 : Int) ≤ gI s3 501 ∧ gI s3 501 ≤ 48 := hRs3.1 501; omega) (hv57_4) (hv57_5) (by have : (0 : Int) ≤ gI s3 501 ∧ gI s3 501 ≤ 48 := hRs3.1 501; omega)
              · skip
                refine wp_rg (by have : (0 : Int) ≤ gI s3 501 ∧ gI s3 501 ≤ 48 := hRs3.1 501; omega) ?_
                refine wp_if (fun c6 => ?_) (fun c6 => ?_)
                · skip
                  unfold m_x10_gather_v2_J128
                  exact ih12 x7 (x8 + 1) s11 hRs11 (by show 0 ≤ x7 ∧ x7 ≤ 288; have : (0 : Int) ≤ gI s3 501 ∧ gI s3 501 ≤ 48 := hRs3.1 501; omega) (by show 0 ≤ (x8 + 1) ∧ (x8 + 1) ≤ 48; have : (0 : Int) ≤ gI s3 501 ∧ gI s3 501 ≤ 48 := hRs3.1 501; omega) (hv57_4) (hv57_5) (by have : (0 : Int) ≤ gI s3 501 ∧ gI s3 501 ≤ 48 := hRs3.1 501; omega)
                · skip
                  refine wp_rdIn (by have : (0 : Int) ≤ gI s3 501 ∧ gI s3 501 ≤ 48 := hRs3.1 501; omega) (fun y17 ey17 => ?_)
                  have by17 : (0 : Int) ≤ y17 ∧ y17 ≤ 47 := ey17 ▸ hRs11.2.1 26 _ (by show _ < 48; have : (0 : Int) ≤ gI s3 501 ∧ gI s3 501 ≤ 48 := hRs3.1 501; omega)
                  have us := hp0 y17.toNat (by omega)
                  have us1 : 0 ≤ gA s 57 y17.toNat ∧ gA s 57 y17.toNat ≤ 6 := us.1
                  have hw := hv57_2
                  rw [ey17] at hw
                  refine wp_bn (w_x8_slot hRs11) (fun r19 er19 hr19 => ?_)
                  have hr19_0 := hr19
                  have hr19_0 : r19 = y17 * 6 + x10 := hr19_0
                  refine wp_rdIn (by have : (0 : Int) ≤ gI s3 501 ∧ gI s3 501 ≤ 48 := hRs3.1 501; omega) (fun y20 ey20 => ?_)
                  have by20 : (-257 : Int) ≤ y20 ∧ y20 ≤ 65535 := ey20 ▸ hRs11.2.1 58 _ (by show _ < 288; have : (0 : Int) ≤ gI s3 501 ∧ gI s3 501 ≤ 48 := hRs3.1 501; omega)
                  have us2 := us.2.2 x10.toNat (by show ((x10.toNat : Nat) : Int) < gA s 57 y17.toNat; omega)
                  have us3 : 0 ≤ gA s 58 (6 * y17.toNat + x10.toNat) ∧ gA s 58 (6 * y17.toNat + x10.toNat) ≤ 999 := us2
                  rw [← hv57_4.2.2.1, show 6 * y17.toNat + x10.toNat = r19.toNat by omega, ey20] at us3
                  refine wp_inb (by have : (0 : Int) ≤ gI s3 501 ∧ gI s3 501 ≤ 48 := hRs3.1 501; omega) ?_
                  refine wp_stn (fun s22 es22 => ?_)
                  have hRs22 : Rg s22 := es22 ▸ Rg.uAu hRs11 (by show (-2147483648 : Int) ≤ y20 ∧ y20 ≤ 2147483647; have : (0 : Int) ≤ gI s3 501 ∧ gI s3 501 ≤ 48 := hRs3.1 501; omega)
                  refine wp_rdIn (by have : (0 : Int) ≤ gI s3 501 ∧ gI s3 501 ≤ 48 := hRs3.1 501; omega) (fun y23 ey23 => ?_)
                  have by23 : (0 : Int) ≤ y23 ∧ y23 ≤ 47 := ey23 ▸ hRs22.2.1 26 _ (by show _ < 48; have : (0 : Int) ≤ gI s3 501 ∧ gI s3 501 ≤ 48 := hRs3.1 501; omega)
                  have e23 : y23 = y17 := by rw [← ey23, ← ey17, (q_Aa es22 (by decide) : gA s22 26 = gA s11 26)]
                  refine wp_bn (w_x8_slot hRs22) (fun r25 er25 hr25 => ?_)
                  have hr25_0 := hr25
                  have hr25_0 : r25 = y23 * 6 + x10 := hr25_0
                  refine wp_rdIn (by have : (0 : Int) ≤ gI s3 501 ∧ gI s3 501 ≤ 48 := hRs3.1 501; omega) (fun y26 ey26 => ?_)
                  have by26 : (-257 : Int) ≤ y26 ∧ y26 ≤ 65535 := ey26 ▸ hRs22.2.1 59 _ (by show _ < 288; have : (0 : Int) ≤ gI s3 501 ∧ gI s3 501 ≤ 48 := hRs3.1 501; omega)
                  refine wp_inb (by have : (0 : Int) ≤ gI s3 501 ∧ gI s3 501 ≤ 48 := hRs3.1 501; omega) ?_
                  refine wp_stn (fun s28 es28 => ?_)
                  have hRs28 : Rg s28 := es28 ▸ Rg.uAu hRs22 (by show (-2147483648 : Int) ≤ y26 ∧ y26 ≤ 2147483647; have : (0 : Int) ≤ gI s3 501 ∧ gI s3 501 ≤ 48 := hRs3.1 501; omega)
                  exact ih57 (x7 + 1) x8 x9 (x10 + 1) s28 hRs28 (by show 0 ≤ (x7 + 1) ∧ (x7 + 1) ≤ 288; have : (0 : Int) ≤ gI s3 501 ∧ gI s3 501 ≤ 48 := hRs3.1 501; omega) (by show 0 ≤ x8 ∧ x8 < 48 ∧ x8 = x2; have : (0 : Int) ≤ gI s3 501 ∧ gI s3 501 ≤ 48 := hRs3.1 501; omega) (by rw [((q_Aa es28 (by decide) : gA s28 26 = gA s22 26).trans (q_Aa es22 (by decide) : gA s22 26 = gA s11 26))]; exact hv57_2) (by show 0 ≤ (x10 + 1) ∧ (x10 + 1) ≤ 6; have : (0 : Int) ≤ gI s3 501 ∧ gI s3 501 ≤ 48 := hRs3.1 501; omega) (⟨(((q_Aa es28 (by decide) : gA s28 56 = gA s22 56).trans (q_Aa es22 (by decide) : gA s22 56 = gA s11 56))).trans hv57_4.1, (((q_Aa es28 (by decide) : gA s28 57 = gA s22 57).trans (q_Aa es22 (by decide) : gA s22 57 = gA s11 57))).trans hv57_4.2.1, (((q_Aa es28 (by decide) : gA s28 58 = gA s22 58).trans (q_Aa es22 (by decide) : gA s22 58 = gA s11 58))).trans hv57_4.2.2.1, (((q_Aa es28 (by decide) : gA s28 59 = gA s22 59).trans (q_Aa es22 (by decide) : gA s22 59 = gA s11 59))).trans hv57_4.2.2.2⟩) (fun j hj => by rw [(q_Aa es28 (by decide) : gA s28 27 = gA s22 27), q_AA es22]; by_cases z : j = x7.toNat; (rw [z, upZ_s]; exact us3); (rw [upZ_n z]; exact hv57_5 j (by omega))) (by show (-1) ≤ x9 ∧ x9 ≤ 255; have : (0 : Int) ≤ gI s3 501 ∧ gI s3 501 ≤ 48 := hRs3.1 501; omega) (by have : (0 : Int) ≤ gI s3 501 ∧ gI s3 501 ≤ 48 := hRs3.1 501; omega)
          exact L57 FU x1 x2 0 0 s3 hRs3 (by show 0 ≤ x1 ∧ x1 ≤ 288; have : (0 : Int) ≤ gI s3 501 ∧ gI s3 501 ≤ 48 := hRs3.1 501; omega) (by show 0 ≤ x2 ∧ x2 < 48 ∧ x2 = x2; have : (0 : Int) ≤ gI s3 501 ∧ gI s3 501 ≤ 48 := hRs3.1 501; omega) (by first | exact Or.inl (by omega) | exact Or.inr (by rw [ey40, ← hv12_2.2.1, ey41])) (by show 0 ≤ (0 : Int) ∧ (0 : Int) ≤ 6; have : (0 : Int) ≤ gI s3 501 ∧ gI s3 501 ≤ 48 := hRs3.1 501; omega) (hv12_2) (hv12_3) (by show (-1) ≤ (0 : Int) ∧ (0 : Int) ≤ 255; have : (0 : Int) ≤ gI s3 501 ∧ gI s3 501 ≤ 48 := hRs3.1 501; omega) (by have := FU_big; have := FU_big2; have : (0 : Int) ≤ gI s3 501 ∧ gI s3 501 ≤ 48 := hRs3.1 501; omega)
  exact L12 FU 0 0 qrl44s hRqrl44s (by show 0 ≤ (0 : Int) ∧ (0 : Int) ≤ 288; omega) (by show 0 ≤ (0 : Int) ∧ (0 : Int) ≤ 48; omega) (⟨(Fqrl44s.2.1 56 (by decide)), (Fqrl44s.2.1 57 (by decide)), (Fqrl44s.2.1 58 (by decide)), (Fqrl44s.2.1 59 (by decide))⟩) (fun j hj => absurd hj (by omega)) (by have := FU_big; have := FU_big2; omega)
