def bnd (n : Nat) : Int := 9223372036854775807 / 27 ^ n
theorem bnd_s : ∀ n, n < 14 → bnd n / 27 ≤ bnd (n + 1) := by decide +kernel
theorem bnd_e : bnd 14 = 0 := by decide +kernel
theorem bnd_0 : bnd 0 = 9223372036854775807 := by decide +kernel
set_option maxHeartbeats 1000000 in
theorem w_x12_letter {p0 : Int} {p1 : Int} {s : MS} (hRs : Rr s) (hp0 : R2 p0) (hp1 : R2 p1) (hp2 : JI s) : wp (m_x12_letter p0 p1 s) (fun r => (R2 r)) := by
  unfold m_x12_letter
  refine wp_rg (by omega) ?_
  refine wp_rdIn (by omega) (fun y20 ey20 => ?_)
  have by20 : (-2147483648 : Int) ≤ y20 ∧ y20 ≤ 2147483647 := ey20 ▸ hRs.2.1 39 _ (by show _ < 10; omega)
  have k20 : gA s 39 7 = y20 := ey20
  have k8 := hp2.2.2.1
  refine wp_rg (by omega) ?_
  refine wp_bn (w_x12_isIn hRs (by show R8 p0; omega) (by show R8 (0 : Int); omega) (by show R8 (y20 - 1); omega)) (fun r23 er23 hr23 => ?_)
  have hr23_0 := hr23
  have hr23_0 : (r23 = 1 ∧ (0 : Int) ≤ p0 ∧ p0 ≤ (y20 - 1)) ∨ (r23 = 0 ∧ (p0 < (0 : Int) ∨ (y20 - 1) < p0)) := hr23_0
  refine wp_rg (by omega) ?_
  refine wp_if (fun c1 => ?_) (fun c1 => ?_)
  · skip
    unfold m_x12_letter_J31
    exact wp_some (by show R2 (-1 : Int); omega)
  · skip
    refine wp_rg (by omega) ?_
    refine wp_bn (w_x12_isIn hRs (by show R8 p1; omega) (by show R8 (0 : Int); omega) (by show R8 (5 : Int); omega)) (fun r28 er28 hr28 => ?_)
    have hr28_0 := hr28
    have hr28_0 : (r28 = 1 ∧ (0 : Int) ≤ p1 ∧ p1 ≤ (5 : Int)) ∨ (r28 = 0 ∧ (p1 < (0 : Int) ∨ (5 : Int) < p1)) := hr28_0
    refine wp_rg (by omega) ?_
    refine wp_if (fun c2 => ?_) (fun c2 => ?_)
    · skip
      unfold m_x12_letter_J31
      exact wp_some (by show R2 (-1 : Int); omega)
    · skip
      refine wp_rdLn (by omega) (fun yl31 eyl31 => ?_)
      have ky : R8 yl31 := eyl31 ▸ hRs.2.2.2 40 _
      have L49 : ∀ (n : Nat) (x9 : Int) (z10 : Int) (x11 : Int) (z12 : Int), (0 ≤ x9 ∧ x9 ≤ 5) → (R8 z10) → (0 ≤ x11 ∧ x11 ≤ 14) → (z12 ≤ bnd x11.toNat ∧ R8 z12) → (15 - x11) < (n : Int) → wp (m_x12_letter_L49 s n x9 z10 x11 z12) (fun r => (R2 r)) := by
        refine fr_ind (fun x9 z10 x11 z12 hv49_0 hv49_1 hv49_2 hv49_3 hm49 => ?_) (fun n49 ih49 x9 z10 x11 z12 hv49_0 hv49_1 hv49_2 hv49_3 hm49 => ?_)
        · exfalso; omega
        · show wp (m_x12_letter_b49 s (m_x12_letter_L49 s n49) x9 z10 x11 z12) _
          unfold m_x12_letter_b49
          refine wp_rgL (by omega) ?_
          refine wp_if (fun c3 => ?_) (fun c3 => ?_)
          · skip
            refine wp_rg (by omega) ?_
            refine wp_rg (by omega) ?_
            refine wp_if (fun c4 => ?_) (fun c4 => ?_)
            · skip
              have L84 : ∀ (n : Nat) (x1 : Int) (z2 : Int) (x3 : Int), (0 ≤ x1 ∧ x1 ≤ 5) → (R8 z2) → (x1 ≤ x3 ∧ x3 ≤ 14) → (x3 - x1) < (n : Int) → wp (m_x12_letter_L84 s n x1 z2 x3) (fun r => (R2 r)) := by
                refine fr_ind (fun x1 z2 x3 hv84_0 hv84_1 hv84_2 hm84 => ?_) (fun n84 ih84 x1 z2 x3 hv84_0 hv84_1 hv84_2 hm84 => ?_)
                · exfalso; omega
                · show wp (m_x12_letter_b84 s (m_x12_letter_L84 s n84) x1 z2 x3) _
                  unfold m_x12_letter_b84
                  have kn : (Int.tdiv z2 27).natAbs ≤ z2.natAbs := Int.natAbs_tdiv_le_natAbs z2 27
                  have km1 := Int.natAbs_tmod z2 27
                  have km2 := Nat.mod_lt z2.natAbs (show 0 < (27 : Int).natAbs by decide)
                  have km3 : (27 : Int).natAbs = 27 := rfl
                  have ke : 27 * Int.tdiv z2 27 + Int.tmod z2 27 = z2 := Int.mul_tdiv_add_tmod z2 27
                  refine wp_rg (by omega) ?_
                  refine wp_rg (by omega) ?_
                  refine wp_if (fun c5 => ?_) (fun c5 => ?_)
                  · skip
                    refine wp_dvL (by omega) ?_
                    exact wp_some (by show R2 (Int.tmod z2 27); omega)
                  · skip
                    refine wp_dvL (by omega) ?_
                    exact ih84 x1 (Int.tdiv z2 27) (x3 + (-1)) (by show 0 ≤ x1 ∧ x1 ≤ 5; omega) (by show R8 (Int.tdiv z2 27); omega) (by show x1 ≤ (x3 + (-1)) ∧ (x3 + (-1)) ≤ 14; omega) (by omega)
              exact L84 FU x9 z10 (x11 - 1) (by show 0 ≤ x9 ∧ x9 ≤ 5; omega) (by show R8 z10; omega) (by show x9 ≤ (x11 - 1) ∧ (x11 - 1) ≤ 14; omega) (by have := FU_big; have := FU_big2; omega)
            · skip
              exact wp_some (by show R2 (0 : Int); omega)
          · skip
            have kd : Int.tdiv z12 27 = z12 / 27 := Int.tdiv_eq_ediv_of_nonneg (by omega)
            have k14 : x11 ≠ 14 := fun z => by have z2 := hv49_3.1; rw [z] at z2; have z3 : bnd (14 : Int).toNat = 0 := bnd_e; omega
            have kb := bnd_s x11.toNat (by omega)
            refine wp_dvL (by omega) ?_
            exact ih49 x9 z10 (x11 + 1) (Int.tdiv z12 27) (by show 0 ≤ x9 ∧ x9 ≤ 5; omega) (by show R8 z10; omega) (by show 0 ≤ (x11 + 1) ∧ (x11 + 1) ≤ 14; omega) (by rw [kd, show (x11 + 1).toNat = x11.toNat + 1 by omega]; exact ⟨by omega, by omega⟩) (by omega)
      exact L49 FU p1 yl31 0 yl31 (by show 0 ≤ p1 ∧ p1 ≤ 5; omega) (by show R8 yl31; omega) (by show 0 ≤ (0 : Int) ∧ (0 : Int) ≤ 14; omega) (⟨by have z : bnd (0 : Int).toNat = 9223372036854775807 := bnd_0; omega, ky⟩) (by have := FU_big; have := FU_big2; omega)
set_option maxHeartbeats 1000000 in
theorem w_x12_block {p0 : Int} {p1 : Int} {s : MS} (hRs : Rr s) (hp0 : R2 p0) (hp1 : R2 p1) (hp2 : JI s) : wp (m_x12_block p0 p1 s) (fun r => True) := by
  have kN := JI_N hp2
  unfold m_x12_block
  refine wp_rg (by omega) ?_
  refine wp_bn (w_x12_isBlock hRs (by show R8 p0; omega) (by show 0 ≤ gA s 39 5 ∧ gA s 39 5 ≤ 48; omega)) (fun r7 er7 hr7 => ?_)
  have hr7_0 := hr7
  have hr7_0 : (r7 = 1 ∧ 0 ≤ p0 ∧ p0 < gA s 39 5) ∨ (r7 = 0 ∧ (p0 < 0 ∨ gA s 39 5 ≤ p0)) := hr7_0
  refine wp_rg (by omega) ?_
  refine wp_if (fun c1 => ?_) (fun c1 => ?_)
  · skip
    exact wp_some (trivial)
  · skip
    refine wp_rg (by omega) ?_
    refine wp_if (fun c2 => ?_) (fun c2 => ?_)
    · skip
      refine wp_bn (w_x12_countOf hRs (by show 0 ≤ p0 ∧ p0 < 48; omega)) (fun r13 er13 hr13 => ?_)
      obtain ⟨hr13_0, hr13_1⟩ := hr13
      have hr13_0 : r13 = cM s p0.toNat := hr13_0
      have hr13_1 : R2 r13 := hr13_1
      exact wp_some (trivial)
    · skip
      refine wp_if (fun c3 => ?_) (fun c3 => ?_)
      · skip
        refine wp_bn (w_x12_savedOf hRs (by show 0 ≤ p0 ∧ p0 < 48; omega)) (fun r16 er16 hr16 => ?_)
        obtain ⟨hr16_0, hr16_1⟩ := hr16
        have hr16_0 : r16 = vM s p0.toNat := hr16_0
        have hr16_1 : R2 r16 := hr16_1
        exact wp_some (trivial)
      · skip
        refine wp_if (fun c4 => ?_) (fun c4 => ?_)
        · skip
          refine wp_bn (w_x12_isThere hRs (by show 0 ≤ p0 ∧ p0 < 48; omega)) (fun r19 er19 hr19 => ?_)
          have hr19_0 := hr19
          have hr19_0 : (r19 = 1 ∧ (0 < cM s p0.toNat ∨ 0 < vM s p0.toNat)) ∨ (r19 = 0 ∧ cM s p0.toNat ≤ 0 ∧ vM s p0.toNat ≤ 0) := hr19_0
          refine wp_rg (by omega) ?_
          refine wp_if (fun c5 => ?_) (fun c5 => ?_)
          · skip
            unfold m_x12_block_J81
            exact wp_some (trivial)
          · skip
            refine wp_bn (w_x12_levelOf hRs (by show 0 ≤ p0 ∧ p0 < 48; omega)) (fun r23 er23 hr23 => ?_)
            obtain ⟨hr23_0, hr23_1⟩ := hr23
            have hr23_0 : r23 = (hM s).1 p0.toNat := hr23_0
            have hr23_1 : R2 r23 := hr23_1
            unfold m_x12_block_J81
            exact wp_some (trivial)
        · skip
          refine wp_if (fun c6 => ?_) (fun c6 => ?_)
          · skip
            refine wp_bn (w_x12_isThere hRs (by show 0 ≤ p0 ∧ p0 < 48; omega)) (fun r26 er26 hr26 => ?_)
            have hr26_0 := hr26
            have hr26_0 : (r26 = 1 ∧ (0 < cM s p0.toNat ∨ 0 < vM s p0.toNat)) ∨ (r26 = 0 ∧ cM s p0.toNat ≤ 0 ∧ vM s p0.toNat ≤ 0) := hr26_0
            refine wp_rg (by omega) ?_
            refine wp_if (fun c7 => ?_) (fun c7 => ?_)
            · skip
              unfold m_x12_block_J99
              exact wp_some (trivial)
            · skip
              refine wp_bn (w_x12_entriesOf hRs (by show 0 ≤ p0 ∧ p0 < 48; omega)) (fun r30 er30 hr30 => ?_)
              obtain ⟨hr30_0, hr30_1⟩ := hr30
              have hr30_0 : r30 = (hM s).2.1 p0.toNat := hr30_0
              have hr30_1 : R2 r30 := hr30_1
              unfold m_x12_block_J99
              exact wp_some (trivial)
          · skip
            refine wp_if (fun c8 => ?_) (fun c8 => ?_)
            · skip
              refine wp_bn (w_x12_isFresh hRs (by show 0 ≤ p0 ∧ p0 < 48; omega)) (fun r33 er33 hr33 => ?_)
              have hr33_0 := hr33
              have hr33_0 : (r33 = 1 ∧ 0 < cM s p0.toNat ∧ vM s p0.toNat = 0) ∨ (r33 = 0 ∧ (cM s p0.toNat ≤ 0 ∨ vM s p0.toNat ≠ 0)) := hr33_0
              refine wp_rg (by omega) ?_
              refine wp_if (fun c9 => ?_) (fun c9 => ?_)
              · skip
                unfold m_x12_block_J113
                exact wp_some (trivial)
              · skip
                unfold m_x12_block_J113
                exact wp_some (trivial)
            · skip
              refine wp_if (fun c10 => ?_) (fun c10 => ?_)
              · skip
                refine wp_bn (w_x12_isHeld hRs (by show 0 ≤ p0 ∧ p0 < 48; omega)) (fun r38 er38 hr38 => ?_)
                have hr38_0 := hr38
                have hr38_0 : r38 = 0 ∨ r38 = 1 := hr38_0
                refine wp_rg (by omega) ?_
                refine wp_if (fun c11 => ?_) (fun c11 => ?_)
                · skip
                  unfold m_x12_block_J127
                  exact wp_some (trivial)
                · skip
                  unfold m_x12_block_J127
                  exact wp_some (trivial)
              · skip
                exact wp_some (trivial)
set_option maxHeartbeats 1000000 in
theorem w_x12_entry {p0 : Int} {p1 : Int} {p2 : Int} {s : MS} (hRs : Rr s) (hp0 : R2 p0) (hp1 : R2 p1) (hp2 : R2 p2) (hp3 : JI s) : wp (m_x12_entry p0 p1 p2 s) (fun r => True) := by
  have kN := JI_N hp3
  unfold m_x12_entry
  refine wp_rg (by omega) ?_
  refine wp_bn (w_x12_isBlock hRs (by show R8 p0; omega) (by show 0 ≤ gA s 39 5 ∧ gA s 39 5 ≤ 48; omega)) (fun r4 er4 hr4 => ?_)
  have hr4_0 := hr4
  have hr4_0 : (r4 = 1 ∧ 0 ≤ p0 ∧ p0 < gA s 39 5) ∨ (r4 = 0 ∧ (p0 < 0 ∨ gA s 39 5 ≤ p0)) := hr4_0
  refine wp_rg (by omega) ?_
  refine wp_if (fun c1 => ?_) (fun c1 => ?_)
  · skip
    unfold m_x12_entry_J44
    exact wp_some (trivial)
  · skip
    refine wp_bn (w_x12_isThere hRs (by show 0 ≤ p0 ∧ p0 < 48; omega)) (fun r8 er8 hr8 => ?_)
    have hr8_0 := hr8
    have hr8_0 : (r8 = 1 ∧ (0 < cM s p0.toNat ∨ 0 < vM s p0.toNat)) ∨ (r8 = 0 ∧ cM s p0.toNat ≤ 0 ∧ vM s p0.toNat ≤ 0) := hr8_0
    refine wp_rg (by omega) ?_
    refine wp_if (fun c2 => ?_) (fun c2 => ?_)
    · skip
      unfold m_x12_entry_J44
      exact wp_some (trivial)
    · skip
      refine wp_rg (by omega) ?_
      refine wp_bn (w_x12_entriesOf hRs (by show 0 ≤ p0 ∧ p0 < 48; omega)) (fun r13 er13 hr13 => ?_)
      obtain ⟨hr13_0, hr13_1⟩ := hr13
      have hr13_0 : r13 = (hM s).2.1 p0.toNat := hr13_0
      have hr13_1 : R2 r13 := hr13_1
      have kt : gI s 47 ≠ 0 := fun z => by rcases hp3.2.2.2 with q | q <;> omega
      have kz := RT_sz (JI_GA hp3 kt).1.1.1 (b := p0.toNat) (by omega)
      rw [← hr13_0] at kz
      refine wp_rg (by omega) ?_
      refine wp_bn (w_x12_isIn hRs (by show R8 p1; omega) (by show R8 (0 : Int); omega) (by show R8 (r13 - 1); omega)) (fun r16 er16 hr16 => ?_)
      have hr16_0 := hr16
      have hr16_0 : (r16 = 1 ∧ (0 : Int) ≤ p1 ∧ p1 ≤ (r13 - 1)) ∨ (r16 = 0 ∧ (p1 < (0 : Int) ∨ (r13 - 1) < p1)) := hr16_0
      refine wp_rg (by omega) ?_
      refine wp_if (fun c3 => ?_) (fun c3 => ?_)
      · skip
        unfold m_x12_entry_J44
        exact wp_some (trivial)
      · skip
        refine wp_rg (by omega) ?_
        refine wp_bn (w_x12_isIn hRs (by show R8 p2; omega) (by show R8 (0 : Int); omega) (by show R8 (1 : Int); omega)) (fun r21 er21 hr21 => ?_)
        have hr21_0 := hr21
        have hr21_0 : (r21 = 1 ∧ (0 : Int) ≤ p2 ∧ p2 ≤ (1 : Int)) ∨ (r21 = 0 ∧ (p2 < (0 : Int) ∨ (1 : Int) < p2)) := hr21_0
        refine wp_rg (by omega) ?_
        refine wp_if (fun c4 => ?_) (fun c4 => ?_)
        · skip
          unfold m_x12_entry_J44
          exact wp_some (trivial)
        · skip
          refine wp_rg (by omega) ?_
          refine wp_if (fun c5 => ?_) (fun c5 => ?_)
          · skip
            refine wp_bn (w_x12_keyAt hRs (by show 0 ≤ p0 ∧ p0 < 48; omega) (by show 0 ≤ p1 ∧ p1 < 6; omega)) (fun r29 er29 hr29 => ?_)
            obtain ⟨hr29_0, hr29_1⟩ := hr29
            have hr29_0 : r29 = kM s p0.toNat p1.toNat := hr29_0
            have hr29_1 : R2 r29 := hr29_1
            unfold m_x12_entry_J65
            exact wp_some (trivial)
          · skip
            refine wp_bn (w_x12_valueAt hRs (by show 0 ≤ p0 ∧ p0 < 48; omega) (by show 0 ≤ p1 ∧ p1 < 6; omega)) (fun r27 er27 hr27 => ?_)
            obtain ⟨hr27_0, hr27_1⟩ := hr27
            have hr27_0 : r27 = (hM s).2.2 p0.toNat p1.toNat := hr27_0
            have hr27_1 : R2 r27 := hr27_1
            unfold m_x12_entry_J65
            exact wp_some (trivial)
set_option maxHeartbeats 1000000 in
theorem w_x12_kept {p0 : Int} {p1 : Int} {s : MS} (hRs : Rr s) (hp0 : R2 p0) (hp1 : R2 p1) (hp2 : JI s) : wp (m_x12_kept p0 p1 s) (fun r => True) := by
  unfold m_x12_kept
  refine wp_rg (by omega) ?_
  refine wp_rdIn (by omega) (fun y3 ey3 => ?_)
  have by3 : (-2147483648 : Int) ≤ y3 ∧ y3 ≤ 2147483647 := ey3 ▸ hRs.2.1 49 _ (by show _ < 906; omega)
  have k3 : gA s 49 785 = y3 := ey3
  have km := hp2.1.2
  refine wp_rg (by omega) ?_
  refine wp_bn (w_x12_isIn hRs (by show R8 p0; omega) (by show R8 (0 : Int); omega) (by show R8 (y3 - 1); omega)) (fun r6 er6 hr6 => ?_)
  have hr6_0 := hr6
  have hr6_0 : (r6 = 1 ∧ (0 : Int) ≤ p0 ∧ p0 ≤ (y3 - 1)) ∨ (r6 = 0 ∧ (p0 < (0 : Int) ∨ (y3 - 1) < p0)) := hr6_0
  refine wp_rg (by omega) ?_
  refine wp_if (fun c1 => ?_) (fun c1 => ?_)
  · skip
    unfold m_x12_kept_J49
    unfold m_x12_kept_J50
    exact wp_some (trivial)
  · skip
    refine wp_rg (by omega) ?_
    refine wp_bn (w_x12_isIn hRs (by show R8 p1; omega) (by show R8 (0 : Int); omega) (by show R8 (2 : Int); omega)) (fun r11 er11 hr11 => ?_)
    have hr11_0 := hr11
    have hr11_0 : (r11 = 1 ∧ (0 : Int) ≤ p1 ∧ p1 ≤ (2 : Int)) ∨ (r11 = 0 ∧ (p1 < (0 : Int) ∨ (2 : Int) < p1)) := hr11_0
    refine wp_rg (by omega) ?_
    refine wp_if (fun c2 => ?_) (fun c2 => ?_)
    · skip
      unfold m_x12_kept_J49
      unfold m_x12_kept_J50
      exact wp_some (trivial)
    · skip
      refine wp_rdIn (by omega) (fun y14 ey14 => ?_)
      have by14 : (-2147483648 : Int) ≤ y14 ∧ y14 ≤ 2147483647 := ey14 ▸ hRs.2.1 49 _ (by show _ < 906; omega)
      unfold m_x12_kept_J50
      exact wp_some (trivial)
set_option maxHeartbeats 1000000 in
theorem w_x12_read {p0 : Int} {p1 : Int} {s : MS} (hRs : Rr s) (hp0 : R2 p0) (hp1 : R2 p1) (hp2 : JI s) : wp (m_x12_read p0 p1 s) (fun r => True) := by
  have hpJ := hp2
  unfold m_x12_read
  refine wp_rg (by omega) ?_
  refine wp_bn (wv_x12_isVolume hRs (by show R8 p0; omega)) (fun r4 er4 hr4 => ?_)
  obtain ⟨hr4_0, hr4_1⟩ := hr4
  have hr4_0 : (r4 = 1 ∧ (0 ≤ p0 ∧ p0 < 8) ∧ gI s 47 ≠ 0 ∧ gA s 49 p0.toNat ≠ 255) ∨ r4 = 0 := hr4_0
  have hr4_1 : 0 ≤ p0 ∧ p0 < 8 → r4 = ivol s p0.toNat := hr4_1
  refine wp_rg (by have : (0 : Int) ≤ gI s 47 ∧ gI s 47 ≤ 1 := hRs.1 47; omega) ?_
  refine wp_if (fun c1 => ?_) (fun c1 => ?_)
  · skip
    unfold m_x12_read_J19
    exact wp_some (trivial)
  · skip
    have kG := JI_GA hpJ (by omega)
    have kb := kG.1.1.2 p0.toNat (by omega)
    refine wp_bn (w_x12_valueOf hRs (by show 0 ≤ p0 ∧ p0 < 8; have : (0 : Int) ≤ gI s 47 ∧ gI s 47 ≤ 1 := hRs.1 47; omega) (by show R2 p1; have : (0 : Int) ≤ gI s 47 ∧ gI s 47 ≤ 1 := hRs.1 47; omega) (kG.1.1.1) (by show 0 ≤ gA s 49 p0.toNat ∧ gA s 49 p0.toNat ≤ 255; have : (0 : Int) ≤ gI s 47 ∧ gI s 47 ≤ 1 := hRs.1 47; omega)) (fun r8 er8 hr8 => ?_)
    obtain ⟨hr8_0, hr8_1⟩ := hr8
    have hr8_0 : R2 r8 := hr8_0
    have hr8_1 : r8 = -1 ∨ gA s 49 p0.toNat < 254 := hr8_1
    unfold m_x12_read_J19
    exact wp_some (trivial)
set_option maxHeartbeats 1000000 in
theorem w_x12_path {p0 : Int} {p1 : Int} {p2 : Int} {s : MS} (hRs : Rr s) (hp0 : R2 p0) (hp1 : R2 p1) (hp2 : R2 p2) (hp3 : JI s) : wp (m_x12_path p0 p1 p2 s) (fun r => True) := by
  have hpJ := hp3
  unfold m_x12_path
  refine wp_rg (by omega) ?_
  refine wp_bn (wv_x12_isVolume hRs (by show R8 p0; omega)) (fun r18 er18 hr18 => ?_)
  obtain ⟨hr18_0, hr18_1⟩ := hr18
  have hr18_0 : (r18 = 1 ∧ (0 ≤ p0 ∧ p0 < 8) ∧ gI s 47 ≠ 0 ∧ gA s 49 p0.toNat ≠ 255) ∨ r18 = 0 := hr18_0
  have hr18_1 : 0 ≤ p0 ∧ p0 < 8 → r18 = ivol s p0.toNat := hr18_1
  refine wp_rg (by have : (0 : Int) ≤ gI s 47 ∧ gI s 47 ≤ 1 := hRs.1 47; omega) ?_
  refine wp_if (fun c1 => ?_) (fun c1 => ?_)
  · skip
    unfold m_x12_path_J37
    exact wp_some (trivial)
  · skip
    have kG := JI_GA hpJ (by omega)
    have kb := kG.1.1.2 p0.toNat (by omega)
    refine wp_rg (by have : (0 : Int) ≤ gI s 47 ∧ gI s 47 ≤ 1 := hRs.1 47; omega) ?_
    refine wp_bn (w_x12_isIn hRs (by show R8 p1; have : (0 : Int) ≤ gI s 47 ∧ gI s 47 ≤ 1 := hRs.1 47; omega) (by show R8 (0 : Int); have : (0 : Int) ≤ gI s 47 ∧ gI s 47 ≤ 1 := hRs.1 47; omega) (by show R8 (999 : Int); have : (0 : Int) ≤ gI s 47 ∧ gI s 47 ≤ 1 := hRs.1 47; omega)) (fun r23 er23 hr23 => ?_)
    have hr23_0 := hr23
    have hr23_0 : (r23 = 1 ∧ (0 : Int) ≤ p1 ∧ p1 ≤ (999 : Int)) ∨ (r23 = 0 ∧ (p1 < (0 : Int) ∨ (999 : Int) < p1)) := hr23_0
    refine wp_rg (by have : (0 : Int) ≤ gI s 47 ∧ gI s 47 ≤ 1 := hRs.1 47; omega) ?_
    refine wp_if (fun c2 => ?_) (fun c2 => ?_)
    · skip
      unfold m_x12_path_J37
      exact wp_some (trivial)
    · skip
      refine wp_rdIn (by have : (0 : Int) ≤ gI s 47 ∧ gI s 47 ≤ 1 := hRs.1 47; omega) (fun y26 ey26 => ?_)
      have by26 : (-2147483648 : Int) ≤ y26 ∧ y26 ≤ 2147483647 := ey26 ▸ hRs.2.1 49 _ (by show _ < 906; have : (0 : Int) ≤ gI s 47 ∧ gI s 47 ≤ 1 := hRs.1 47; omega)
      have k26 : gA s 49 p0.toNat = y26 := ey26
      refine wp_rg (by have : (0 : Int) ≤ gI s 47 ∧ gI s 47 ≤ 1 := hRs.1 47; omega) ?_
      refine wp_if (fun c3 => ?_) (fun c3 => ?_)
      · skip
        unfold m_x12_path_J37
        exact wp_some (trivial)
      · skip
        refine wp_rg (by have : (0 : Int) ≤ gI s 47 ∧ gI s 47 ≤ 1 := hRs.1 47; omega) ?_
        refine wp_if (fun c4 => ?_) (fun c4 => ?_)
        · skip
          refine wp_rdIn (by have : (0 : Int) ≤ gI s 47 ∧ gI s 47 ≤ 1 := hRs.1 47; omega) (fun y31 ey31 => ?_)
          have by31 : (-2147483648 : Int) ≤ y31 ∧ y31 ≤ 2147483647 := ey31 ▸ hRs.2.1 49 _ (by show _ < 906; have : (0 : Int) ≤ gI s 47 ∧ gI s 47 ≤ 1 := hRs.1 47; omega)
          have k31 : gA s 49 p0.toNat = y31 := ey31
          have kr := RT_root (u := p0.toNat) kG.1.1.1 (by omega) (by omega) (by omega)
          rw [k31] at kr
          have kd := DW_nd kG.1.1.1 (by omega) kr.2.1
          have L50 : ∀ (n : Nat) (x1 : Int) (x2 : Int) (x3 : Int) (x4 : Int), (x1 = p1 ∧ x2 = p2) → ((0 ≤ x3 ∧ x3 < 48) ∧ DW s x3.toNat) → (0 ≤ x4 ∧ x4 + (hM s).1 x3.toNat ≤ 47) → (RT s) → ((hM s).1 x3.toNat) < (n : Int) → wp (m_x12_path_L50 s n x1 x2 x3 x4) (fun r => True) := by
            refine fr_ind (fun x1 x2 x3 x4 hv50_0 hv50_1 hv50_2 hv50_3 hm50 => ?_) (fun n50 ih50 x1 x2 x3 x4 hv50_0 hv50_1 hv50_2 hv50_3 hm50 => ?_)
            · exfalso; have kd := DW_nd hv50_3 (by omega) hv50_1.2; omega
            · show wp (m_x12_path_b50 s (m_x12_path_L50 s n50) x1 x2 x3 x4) _
              unfold m_x12_path_b50
              have kd := DW_nd hv50_3 (by omega) hv50_1.2
              refine wp_rg (by have : (0 : Int) ≤ gI s 47 ∧ gI s 47 ≤ 1 := hRs.1 47; omega) ?_
              refine wp_rg (by have : (0 : Int) ≤ gI s 47 ∧ gI s 47 ≤ 1 := hRs.1 47; omega) ?_
              refine wp_if (fun c5 => ?_) (fun c5 => ?_)
              · skip
                exact wp_some (trivial)
              · skip
                refine wp_bn (w_x12_levelOf hRs (by show 0 ≤ x3 ∧ x3 < 48; have : (0 : Int) ≤ gI s 47 ∧ gI s 47 ≤ 1 := hRs.1 47; omega)) (fun r9 er9 hr9 => ?_)
                obtain ⟨hr9_0, hr9_1⟩ := hr9
                have hr9_0 : r9 = (hM s).1 x3.toNat := hr9_0
                have hr9_1 : R2 r9 := hr9_1
                refine wp_rg (by have : (0 : Int) ≤ gI s 47 ∧ gI s 47 ≤ 1 := hRs.1 47; omega) ?_
                refine wp_if (fun c6 => ?_) (fun c6 => ?_)
                · skip
                  exact wp_some (trivial)
                · skip
                  refine wp_bn (w_x12_placeFor hRs (by show 0 ≤ x3 ∧ x3 < 48; have : (0 : Int) ≤ gI s 47 ∧ gI s 47 ≤ 1 := hRs.1 47; omega) (by show R2 x1; have : (0 : Int) ≤ gI s 47 ∧ gI s 47 ≤ 1 := hRs.1 47; omega) (by show (0 ≤ (hM s).2.1 x3.toNat ∧ (hM s).2.1 x3.toNat ≤ 6); have : (0 : Int) ≤ gI s 47 ∧ gI s 47 ≤ 1 := hRs.1 47; omega)) (fun r13 er13 hr13 => ?_)
                  have hr13_0 := hr13
                  have hr13_0 : 0 ≤ r13 ∧ r13 ≤ 5 ∧ (1 ≤ (hM s).2.1 x3.toNat → r13 < (hM s).2.1 x3.toNat) := hr13_0
                  refine wp_bn (w_x12_valueAt hRs (by show 0 ≤ x3 ∧ x3 < 48; have : (0 : Int) ≤ gI s 47 ∧ gI s 47 ≤ 1 := hRs.1 47; omega) (by show 0 ≤ r13 ∧ r13 < 6; have : (0 : Int) ≤ gI s 47 ∧ gI s 47 ≤ 1 := hRs.1 47; omega)) (fun r15 er15 hr15 => ?_)
                  obtain ⟨hr15_0, hr15_1⟩ := hr15
                  have hr15_0 : r15 = (hM s).2.2 x3.toNat r13.toNat := hr15_0
                  have hr15_1 : R2 r15 := hr15_1
                  have kk := DW_kid (k := r13.toNat) hv50_3 (by omega) hv50_1.2 (by omega) (by omega)
                  rw [← hr15_0] at kk
                  exact ih50 x1 x2 r15 (x4 + 1) (by show x1 = p1 ∧ x2 = p2; have : (0 : Int) ≤ gI s 47 ∧ gI s 47 ≤ 1 := hRs.1 47; omega) (⟨kk.1, kk.2.2⟩) (by show 0 ≤ (x4 + 1) ∧ (x4 + 1) + (hM s).1 r15.toNat ≤ 47; have : (0 : Int) ≤ gI s 47 ∧ gI s 47 ≤ 1 := hRs.1 47; have ke := kk.2.1; omega) (hv50_3) (by have : (0 : Int) ≤ gI s 47 ∧ gI s 47 ≤ 1 := hRs.1 47; have ke := kk.2.1; omega)
          exact L50 FU p1 p2 y31 0 (by show p1 = p1 ∧ p2 = p2; have : (0 : Int) ≤ gI s 47 ∧ gI s 47 ≤ 1 := hRs.1 47; omega) (⟨by omega, kr.2.1⟩) (by show 0 ≤ (0 : Int) ∧ (0 : Int) + (hM s).1 y31.toNat ≤ 47; have : (0 : Int) ≤ gI s 47 ∧ gI s 47 ≤ 1 := hRs.1 47; omega) (kG.1.1.1) (by have := FU_big; have := FU_big2; have : (0 : Int) ≤ gI s 47 ∧ gI s 47 ≤ 1 := hRs.1 47; omega)
        · skip
          unfold m_x12_path_J37
          exact wp_some (trivial)
set_option maxHeartbeats 1000000 in
theorem w_x12_unlike {p0 : Int} {p1 : Int} {p2 : Int} {s : MS} (hRs : Rr s) (hp0 : p0 < 254 → (0 ≤ p0 ∧ p0 < 48) ∧ DW s p0.toNat) (hp1 : p1 < 254 → (0 ≤ p1 ∧ p1 < 48) ∧ DW s p1.toNat) (hp2 : R2 p0) (hp3 : R2 p1) (hp4 : R2 p2) (hp5 : RT s) : wp (m_x12_unlike p0 p1 p2 s) (fun r => (R2 r)) := by
  unfold m_x12_unlike
  have L6 : ∀ (n : Nat) (x2 : Int) (x3 : Int) (x4 : Int) (x5 : Int) (x6 : Int), (x2 = p0 ∧ x3 = p1 ∧ x4 = p2) → (0 ≤ x5 ∧ x5 ≤ x6 ∧ x6 ≤ 1000) → (1000 - x6) < (n : Int) → wp (m_x12_unlike_L6 s n x2 x3 x4 x5 x6) (fun r => (R2 r)) := by
    refine fr_ind (fun x2 x3 x4 x5 x6 hv6_0 hv6_1 hm6 => ?_) (fun n6 ih6 x2 x3 x4 x5 x6 hv6_0 hv6_1 hm6 => ?_)
    · exfalso; omega
    · show wp (m_x12_unlike_b6 s (m_x12_unlike_L6 s n6) x2 x3 x4 x5 x6) _
      unfold m_x12_unlike_b6
      refine wp_rg (by omega) ?_
      refine wp_if (fun c1 => ?_) (fun c1 => ?_)
      · skip
        refine wp_rg (by omega) ?_
        refine wp_if (fun c2 => ?_) (fun c2 => ?_)
        · skip
          unfold m_x12_unlike_J63
          exact wp_some (by show R2 x5; omega)
        · skip
          unfold m_x12_unlike_J63
          exact wp_some (by show R2 (-1 : Int); omega)
      · skip
        refine wp_bn (w_x12_valueFrom hRs (by rw [hv6_0.1]; exact hp0) (by show R2 x2; omega) (by show R2 x6; omega) (hp5)) (fun r17 er17 hr17 => ?_)
        obtain ⟨hr17_0, hr17_1⟩ := hr17
        have hr17_0 : R2 r17 := hr17_0
        have hr17_1 : r17 = -1 ∨ x2 < 254 := hr17_1
        refine wp_bn (w_x12_valueFrom hRs (by rw [hv6_0.2.1]; exact hp1) (by show R2 x3; omega) (by show R2 x6; omega) (hp5)) (fun r19 er19 hr19 => ?_)
        obtain ⟨hr19_0, hr19_1⟩ := hr19
        have hr19_0 : R2 r19 := hr19_0
        have hr19_1 : r19 = -1 ∨ x3 < 254 := hr19_1
        refine wp_rg (by omega) ?_
        refine wp_rg (by omega) ?_
        refine wp_if (fun c3 => ?_) (fun c3 => ?_)
        · skip
          unfold m_x12_unlike_J46
          exact ih6 x2 x3 x4 x5 (x6 + 1) (by show x2 = p0 ∧ x3 = p1 ∧ x4 = p2; omega) (by show 0 ≤ x5 ∧ x5 ≤ (x6 + 1) ∧ (x6 + 1) ≤ 1000; omega) (by omega)
        · skip
          refine wp_rg (by omega) ?_
          refine wp_rg (by omega) ?_
          refine wp_if (fun c4 => ?_) (fun c4 => ?_)
          · skip
            exact wp_some (by show R2 x6; omega)
          · skip
            unfold m_x12_unlike_J46
            exact ih6 x2 x3 x4 (x5 + 1) (x6 + 1) (by show x2 = p0 ∧ x3 = p1 ∧ x4 = p2; omega) (by show 0 ≤ (x5 + 1) ∧ (x5 + 1) ≤ (x6 + 1) ∧ (x6 + 1) ≤ 1000; omega) (by omega)
  exact L6 FU p0 p1 p2 0 0 (by show p0 = p0 ∧ p1 = p1 ∧ p2 = p2; omega) (by show 0 ≤ (0 : Int) ∧ (0 : Int) ≤ (0 : Int) ∧ (0 : Int) ≤ 1000; omega) (by have := FU_big; have := FU_big2; omega)
set_option maxHeartbeats 1000000 in
theorem w_x12_differs {p0 : Int} {p1 : Int} {p2 : Int} {s : MS} (hRs : Rr s) (hp0 : R2 p0) (hp1 : R2 p1) (hp2 : R2 p2) (hp3 : JI s) : wp (m_x12_differs p0 p1 p2 s) (fun r => True) := by
  have hpJ := hp3
  unfold m_x12_differs
  refine wp_rg (by omega) ?_
  refine wp_bn (wv_x12_isVolume hRs (by show R8 p0; omega)) (fun r4 er4 hr4 => ?_)
  obtain ⟨hr4_0, hr4_1⟩ := hr4
  have hr4_0 : (r4 = 1 ∧ (0 ≤ p0 ∧ p0 < 8) ∧ gI s 47 ≠ 0 ∧ gA s 49 p0.toNat ≠ 255) ∨ r4 = 0 := hr4_0
  have hr4_1 : 0 ≤ p0 ∧ p0 < 8 → r4 = ivol s p0.toNat := hr4_1
  refine wp_rg (by have : (0 : Int) ≤ gI s 47 ∧ gI s 47 ≤ 1 := hRs.1 47; omega) ?_
  refine wp_if (fun c1 => ?_) (fun c1 => ?_)
  · skip
    unfold m_x12_differs_J43
    unfold m_x12_differs_J44
    exact wp_some (trivial)
  · skip
    have kG := JI_GA hpJ (by omega)
    have kb := kG.1.1.2 p0.toNat (by omega)
    refine wp_rg (by have : (0 : Int) ≤ gI s 47 ∧ gI s 47 ≤ 1 := hRs.1 47; omega) ?_
    refine wp_bn (wv_x12_isVolume hRs (by show R8 p1; have : (0 : Int) ≤ gI s 47 ∧ gI s 47 ≤ 1 := hRs.1 47; omega)) (fun r9 er9 hr9 => ?_)
    obtain ⟨hr9_0, hr9_1⟩ := hr9
    have hr9_0 : (r9 = 1 ∧ (0 ≤ p1 ∧ p1 < 8) ∧ gI s 47 ≠ 0 ∧ gA s 49 p1.toNat ≠ 255) ∨ r9 = 0 := hr9_0
    have hr9_1 : 0 ≤ p1 ∧ p1 < 8 → r9 = ivol s p1.toNat := hr9_1
    refine wp_rg (by have : (0 : Int) ≤ gI s 47 ∧ gI s 47 ≤ 1 := hRs.1 47; omega) ?_
    refine wp_if (fun c2 => ?_) (fun c2 => ?_)
    · skip
      unfold m_x12_differs_J43
      unfold m_x12_differs_J44
      exact wp_some (trivial)
    · skip
      have kb1 := kG.1.1.2 p1.toNat (by omega)
      refine wp_rg (by have : (0 : Int) ≤ gI s 47 ∧ gI s 47 ≤ 1 := hRs.1 47; omega) ?_
      refine wp_if (fun c3 => ?_) (fun c3 => ?_)
      · skip
        unfold m_x12_differs_J43
        unfold m_x12_differs_J44
        exact wp_some (trivial)
      · skip
        refine wp_rdIn (by have : (0 : Int) ≤ gI s 47 ∧ gI s 47 ≤ 1 := hRs.1 47; omega) (fun y14 ey14 => ?_)
        have by14 : (-2147483648 : Int) ≤ y14 ∧ y14 ≤ 2147483647 := ey14 ▸ hRs.2.1 49 _ (by show _ < 906; have : (0 : Int) ≤ gI s 47 ∧ gI s 47 ≤ 1 := hRs.1 47; omega)
        have k14 : gA s 49 p0.toNat = y14 := ey14
        refine wp_rdIn (by have : (0 : Int) ≤ gI s 47 ∧ gI s 47 ≤ 1 := hRs.1 47; omega) (fun y15 ey15 => ?_)
        have by15 : (-2147483648 : Int) ≤ y15 ∧ y15 ≤ 2147483647 := ey15 ▸ hRs.2.1 49 _ (by show _ < 906; have : (0 : Int) ≤ gI s 47 ∧ gI s 47 ≤ 1 := hRs.1 47; omega)
        have k15 : gA s 49 p1.toNat = y15 := ey15
        refine wp_bn (w_x12_unlike hRs (fun h9 => by have z := RT_root (u := p0.toNat) kG.1.1.1 (by omega) (by omega) (by omega); rw [k14] at z; exact ⟨by omega, z.2.1⟩) (fun h9 => by have z := RT_root (u := p1.toNat) kG.1.1.1 (by omega) (by omega) (by omega); rw [k15] at z; exact ⟨by omega, z.2.1⟩) (by show R2 y14; have : (0 : Int) ≤ gI s 47 ∧ gI s 47 ≤ 1 := hRs.1 47; omega) (by show R2 y15; have : (0 : Int) ≤ gI s 47 ∧ gI s 47 ≤ 1 := hRs.1 47; omega) (by show R2 p2; have : (0 : Int) ≤ gI s 47 ∧ gI s 47 ≤ 1 := hRs.1 47; omega) (kG.1.1.1)) (fun r17 er17 hr17 => ?_)
        have hr17_0 := hr17
        have hr17_0 : R2 r17 := hr17_0
        unfold m_x12_differs_J44
        exact wp_some (trivial)
set_option maxHeartbeats 1000000 in
theorem w_x12_back {p0 : Int} {s : MS} (hRs : Rr s) (hp0 : R2 p0) (hp1 : JI s) : wp (m_x12_back p0 s) (fun r => True) := by
  have hpJ := hp1
  unfold m_x12_back
  refine wp_rg (by omega) ?_
  refine wp_bn (wv_x12_isVolume hRs (by show R8 p0; omega)) (fun r4 er4 hr4 => ?_)
  obtain ⟨hr4_0, hr4_1⟩ := hr4
  have hr4_0 : (r4 = 1 ∧ (0 ≤ p0 ∧ p0 < 8) ∧ gI s 47 ≠ 0 ∧ gA s 49 p0.toNat ≠ 255) ∨ r4 = 0 := hr4_0
  have hr4_1 : 0 ≤ p0 ∧ p0 < 8 → r4 = ivol s p0.toNat := hr4_1
  refine wp_rg (by have : (0 : Int) ≤ gI s 47 ∧ gI s 47 ≤ 1 := hRs.1 47; omega) ?_
  refine wp_if (fun c1 => ?_) (fun c1 => ?_)
  · skip
    unfold m_x12_back_J47
    unfold m_x12_back_J48
    exact wp_some (trivial)
  · skip
    have kG := JI_GA hpJ (by omega)
    have kb := kG.1.1.2 p0.toNat (by omega)
    have kb1 := kG.1.1.2 (8 + p0.toNat) (by omega)
    refine wp_rdIn (by have : (0 : Int) ≤ gI s 47 ∧ gI s 47 ≤ 1 := hRs.1 47; omega) (fun y7 ey7 => ?_)
    have by7 : (-2147483648 : Int) ≤ y7 ∧ y7 ≤ 2147483647 := ey7 ▸ hRs.2.1 49 _ (by show _ < 906; have : (0 : Int) ≤ gI s 47 ∧ gI s 47 ≤ 1 := hRs.1 47; omega)
    have k7 : gA s 49 (8 + p0.toNat) = y7 := by rw [← ey7]; congr 1; omega
    refine wp_rg (by have : (0 : Int) ≤ gI s 47 ∧ gI s 47 ≤ 1 := hRs.1 47; omega) ?_
    refine wp_if (fun c2 => ?_) (fun c2 => ?_)
    · skip
      unfold m_x12_back_J47
      unfold m_x12_back_J48
      exact wp_some (trivial)
    · skip
      refine wp_rdIn (by have : (0 : Int) ≤ gI s 47 ∧ gI s 47 ≤ 1 := hRs.1 47; omega) (fun y10 ey10 => ?_)
      have by10 : (-2147483648 : Int) ≤ y10 ∧ y10 ≤ 2147483647 := ey10 ▸ hRs.2.1 49 _ (by show _ < 906; have : (0 : Int) ≤ gI s 47 ∧ gI s 47 ≤ 1 := hRs.1 47; omega)
      have k10 : gA s 49 p0.toNat = y10 := ey10
      refine wp_rdIn (by have : (0 : Int) ≤ gI s 47 ∧ gI s 47 ≤ 1 := hRs.1 47; omega) (fun y11 ey11 => ?_)
      have by11 : (-2147483648 : Int) ≤ y11 ∧ y11 ≤ 2147483647 := ey11 ▸ hRs.2.1 49 _ (by show _ < 906; have : (0 : Int) ≤ gI s 47 ∧ gI s 47 ≤ 1 := hRs.1 47; omega)
      have k11 : gA s 49 (8 + p0.toNat) = y11 := by rw [← ey11]; congr 1; omega
      refine wp_bn (w_x12_unlike hRs (fun h9 => by have z := RT_root (u := p0.toNat) kG.1.1.1 (by omega) (by omega) (by omega); rw [k10] at z; exact ⟨by omega, z.2.1⟩) (fun h9 => by have z := RT_root (u := 8 + p0.toNat) kG.1.1.1 (by omega) (by omega) (by omega); rw [k11] at z; exact ⟨by omega, z.2.1⟩) (by show R2 y10; have : (0 : Int) ≤ gI s 47 ∧ gI s 47 ≤ 1 := hRs.1 47; omega) (by show R2 y11; have : (0 : Int) ≤ gI s 47 ∧ gI s 47 ≤ 1 := hRs.1 47; omega) (by show R2 (-1 : Int); have : (0 : Int) ≤ gI s 47 ∧ gI s 47 ≤ 1 := hRs.1 47; omega) (kG.1.1.1)) (fun r13 er13 hr13 => ?_)
      have hr13_0 := hr13
      have hr13_0 : R2 r13 := hr13_0
      unfold m_x12_back_J48
      exact wp_some (trivial)
set_option maxHeartbeats 1000000 in
theorem w_x12_room {p0 : Int} {s : MS} (hRs : Rr s) (hp0 : R2 p0) (hp1 : JI s) : wp (m_x12_room p0 s) (fun r => True) := by
  have hpJ := hp1
  have kN := JI_N hpJ
  unfold m_x12_room
  refine wp_rg (by have : (0 : Int) ≤ gI s 47 ∧ gI s 47 ≤ 1 := hRs.1 47; omega) ?_
  refine wp_if (fun c1 => ?_) (fun c1 => ?_)
  · skip
    unfold m_x12_room_J19
    exact wp_some (trivial)
  · skip
    refine wp_rg (by have : (0 : Int) ≤ gI s 47 ∧ gI s 47 ≤ 1 := hRs.1 47; omega) ?_
    refine wp_bn (w_x12_isIn hRs (by show R8 p0; have : (0 : Int) ≤ gI s 47 ∧ gI s 47 ≤ 1 := hRs.1 47; omega) (by show R8 (0 : Int); have : (0 : Int) ≤ gI s 47 ∧ gI s 47 ≤ 1 := hRs.1 47; omega) (by show R8 (2 : Int); have : (0 : Int) ≤ gI s 47 ∧ gI s 47 ≤ 1 := hRs.1 47; omega)) (fun r20 er20 hr20 => ?_)
    have hr20_0 := hr20
    have hr20_0 : (r20 = 1 ∧ (0 : Int) ≤ p0 ∧ p0 ≤ (2 : Int)) ∨ (r20 = 0 ∧ (p0 < (0 : Int) ∨ (2 : Int) < p0)) := hr20_0
    refine wp_rg (by have : (0 : Int) ≤ gI s 47 ∧ gI s 47 ≤ 1 := hRs.1 47; omega) ?_
    refine wp_if (fun c2 => ?_) (fun c2 => ?_)
    · skip
      unfold m_x12_room_J19
      exact wp_some (trivial)
    · skip
      refine wp_rg (by have : (0 : Int) ≤ gI s 47 ∧ gI s 47 ≤ 1 := hRs.1 47; omega) ?_
      refine wp_if (fun c3 => ?_) (fun c3 => ?_)
      · skip
        have L48 : ∀ (n : Nat) (x1 : Int) (x2 : Int), (0 ≤ x1 ∧ x1 ≤ x2 ∧ x2 ≤ 48) → (48 - x2) < (n : Int) → wp (m_x12_room_L48 s n x1 x2) (fun r => True) := by
          refine fr_ind (fun x1 x2 hv48_0 hm48 => ?_) (fun n48 ih48 x1 x2 hv48_0 hm48 => ?_)
          · exfalso; omega
          · show wp (m_x12_room_b48 s (m_x12_room_L48 s n48) x1 x2) _
            unfold m_x12_room_b48
            refine wp_bn (w_x12_blockMany hRs) (fun r6 er6 hr6 => ?_)
            have hr6_0 := hr6
            have hr6_0 : r6 = gA s 39 5 := hr6_0
            refine wp_rg (by have : (0 : Int) ≤ gI s 47 ∧ gI s 47 ≤ 1 := hRs.1 47; omega) ?_
            refine wp_rg (by have : (0 : Int) ≤ gI s 47 ∧ gI s 47 ≤ 1 := hRs.1 47; omega) ?_
            refine wp_if (fun c4 => ?_) (fun c4 => ?_)
            · skip
              exact wp_some (trivial)
            · skip
              refine wp_bn (w_x12_savedOf hRs (by show 0 ≤ x2 ∧ x2 < 48; have : (0 : Int) ≤ gI s 47 ∧ gI s 47 ≤ 1 := hRs.1 47; omega)) (fun r11 er11 hr11 => ?_)
              obtain ⟨hr11_0, hr11_1⟩ := hr11
              have hr11_0 : r11 = vM s x2.toNat := hr11_0
              have hr11_1 : R2 r11 := hr11_1
              refine wp_rg (by have : (0 : Int) ≤ gI s 47 ∧ gI s 47 ≤ 1 := hRs.1 47; omega) ?_
              refine wp_if (fun c5 => ?_) (fun c5 => ?_)
              · skip
                unfold m_x12_room_J67
                exact ih48 (x1 + 1) (x2 + 1) (by show 0 ≤ (x1 + 1) ∧ (x1 + 1) ≤ (x2 + 1) ∧ (x2 + 1) ≤ 48; have : (0 : Int) ≤ gI s 47 ∧ gI s 47 ≤ 1 := hRs.1 47; omega) (by have : (0 : Int) ≤ gI s 47 ∧ gI s 47 ≤ 1 := hRs.1 47; omega)
              · skip
                unfold m_x12_room_J67
                exact ih48 x1 (x2 + 1) (by show 0 ≤ x1 ∧ x1 ≤ (x2 + 1) ∧ (x2 + 1) ≤ 48; have : (0 : Int) ≤ gI s 47 ∧ gI s 47 ≤ 1 := hRs.1 47; omega) (by have : (0 : Int) ≤ gI s 47 ∧ gI s 47 ≤ 1 := hRs.1 47; omega)
        exact L48 FU 0 0 (by show 0 ≤ (0 : Int) ∧ (0 : Int) ≤ (0 : Int) ∧ (0 : Int) ≤ 48; have : (0 : Int) ≤ gI s 47 ∧ gI s 47 ≤ 1 := hRs.1 47; omega) (by have := FU_big; have := FU_big2; have : (0 : Int) ≤ gI s 47 ∧ gI s 47 ≤ 1 := hRs.1 47; omega)
      · skip
        refine wp_bn (w_x12_freeMany hRs (by show 0 ≤ gA s 39 5 ∧ gA s 39 5 ≤ 48; have : (0 : Int) ≤ gI s 47 ∧ gI s 47 ≤ 1 := hRs.1 47; omega)) (fun r26 er26 hr26 => ?_)
        have hr26_0 := hr26
        have hr26_0 : R2 r26 := hr26_0
        refine wp_rg (by have : (0 : Int) ≤ gI s 47 ∧ gI s 47 ≤ 1 := hRs.1 47; omega) ?_
        refine wp_if (fun c6 => ?_) (fun c6 => ?_)
        · skip
          unfold m_x12_room_J42
          exact wp_some (trivial)
        · skip
          refine wp_bn (w_x12_heldMany hRs (by show 0 ≤ gA s 39 5 ∧ gA s 39 5 ≤ 48; have : (0 : Int) ≤ gI s 47 ∧ gI s 47 ≤ 1 := hRs.1 47; omega)) (fun r30 er30 hr30 => ?_)
          have hr30_0 := hr30
          have hr30_0 : 0 ≤ r30 ∧ r30 ≤ 48 := hr30_0
          unfold m_x12_room_J42
          exact wp_some (trivial)
set_option maxHeartbeats 1000000 in
theorem w_x12_toldOf {p0 : Int} {p1 : Int} {s : MS} (hRs : Rr s) (hp0 : 0 ≤ p0 ∧ p0 < 8) (hp1 : R2 p1) (hp2 : RT s) (hp3 : 0 ≤ gA s 49 p0.toNat ∧ gA s 49 p0.toNat ≤ 255) : wp (m_x12_toldOf p0 p1 s) (fun r => (R2 r)) := by
  unfold m_x12_toldOf
  refine wp_bn (w_x12_valueOf hRs (by show 0 ≤ p0 ∧ p0 < 8; omega) (by show R2 p1; omega) (hp2) (by show 0 ≤ gA s 49 p0.toNat ∧ gA s 49 p0.toNat ≤ 255; omega)) (fun r3 er3 hr3 => ?_)
  obtain ⟨hr3_0, hr3_1⟩ := hr3
  have hr3_0 : R2 r3 := hr3_0
  have hr3_1 : r3 = -1 ∨ gA s 49 p0.toNat < 254 := hr3_1
  refine wp_rg (by omega) ?_
  refine wp_if (fun c1 => ?_) (fun c1 => ?_)
  · skip
    unfold m_x12_toldOf_J19
    exact wp_some (by show R2 (1000 : Int); omega)
  · skip
    unfold m_x12_toldOf_J19
    exact wp_some (by show R2 r3; omega)
set_option maxHeartbeats 1000000 in
theorem w_x12_doesFit {p0 : Int} {s : MS} (hRs : Rr s) (hp0 : R2 p0) (hp1 : JI s) : wp (m_x12_doesFit p0 s) (fun r => (r = 0 ∨ (r = 1 ∧ (0 ≤ p0 ∧ p0 < 8) ∧ gI s 47 ≠ 0))) := by
  have hpJ := hp1
  have r73 : (0 : Int) ≤ gI s 73 ∧ gI s 73 ≤ 12 := hRs.1 73
  unfold m_x12_doesFit
  refine wp_rg (by omega) ?_
  refine wp_bn (wv_x12_isVolume hRs (by show R8 p0; omega)) (fun r15 er15 hr15 => ?_)
  obtain ⟨hr15_0, hr15_1⟩ := hr15
  have hr15_0 : (r15 = 1 ∧ (0 ≤ p0 ∧ p0 < 8) ∧ gI s 47 ≠ 0 ∧ gA s 49 p0.toNat ≠ 255) ∨ r15 = 0 := hr15_0
  have hr15_1 : 0 ≤ p0 ∧ p0 < 8 → r15 = ivol s p0.toNat := hr15_1
  refine wp_rg (by have : (0 : Int) ≤ gI s 47 ∧ gI s 47 ≤ 1 := hRs.1 47; omega) ?_
  refine wp_if (fun c1 => ?_) (fun c1 => ?_)
  · skip
    exact wp_some (by show (0 : Int) = 0 ∨ ((0 : Int) = 1 ∧ (0 ≤ p0 ∧ p0 < 8) ∧ gI s 47 ≠ 0); have : (0 : Int) ≤ gI s 47 ∧ gI s 47 ≤ 1 := hRs.1 47; omega)
  · skip
    have L13 : ∀ (n : Nat) (x1 : Int) (x2 : Int), (x1 = p0) → (0 ≤ x2 ∧ x2 ≤ 12) → ((0 ≤ p0 ∧ p0 < 8) ∧ gI s 47 ≠ 0) → (GA s) → (12 - x2) < (n : Int) → wp (m_x12_doesFit_L13 s n x1 x2) (fun r => (r = 0 ∨ (r = 1 ∧ (0 ≤ p0 ∧ p0 < 8) ∧ gI s 47 ≠ 0))) := by
      refine fr_ind (fun x1 x2 hv13_0 hv13_1 hv13_2 hv13_3 hm13 => ?_) (fun n13 ih13 x1 x2 hv13_0 hv13_1 hv13_2 hv13_3 hm13 => ?_)
      · exfalso; have : (0 : Int) ≤ gI s 47 ∧ gI s 47 ≤ 1 := hRs.1 47; omega
      · show wp (m_x12_doesFit_b13 s (m_x12_doesFit_L13 s n13) x1 x2) _
        unfold m_x12_doesFit_b13
        have kb := hv13_3.1.1.2 p0.toNat (by omega)
        refine wp_rg (by have : (0 : Int) ≤ gI s 47 ∧ gI s 47 ≤ 1 := hRs.1 47; omega) ?_
        refine wp_rg (by have : (0 : Int) ≤ gI s 47 ∧ gI s 47 ≤ 1 := hRs.1 47; have : (0 : Int) ≤ gI s 73 ∧ gI s 73 ≤ 12 := hRs.1 73; omega) ?_
        refine wp_if (fun c2 => ?_) (fun c2 => ?_)
        · skip
          exact wp_some (by show (1 : Int) = 0 ∨ ((1 : Int) = 1 ∧ (0 ≤ p0 ∧ p0 < 8) ∧ gI s 47 ≠ 0); have : (0 : Int) ≤ gI s 73 ∧ gI s 73 ≤ 12 := hRs.1 73; have : (0 : Int) ≤ gI s 47 ∧ gI s 47 ≤ 1 := hRs.1 47; omega)
        · skip
          refine wp_rdIn (by have : (0 : Int) ≤ gI s 73 ∧ gI s 73 ≤ 12 := hRs.1 73; have : (0 : Int) ≤ gI s 47 ∧ gI s 47 ≤ 1 := hRs.1 47; omega) (fun y6 ey6 => ?_)
          have by6 : (-2147483648 : Int) ≤ y6 ∧ y6 ≤ 2147483647 := ey6 ▸ hRs.2.1 74 _ (by show _ < 24; have : (0 : Int) ≤ gI s 73 ∧ gI s 73 ≤ 12 := hRs.1 73; have : (0 : Int) ≤ gI s 47 ∧ gI s 47 ≤ 1 := hRs.1 47; omega)
          have r6 : R2 y6 := ey6 ▸ hRs.2.1 74 _ (by show _ < 24; omega)
          refine wp_bn (w_x12_toldOf hRs (by show 0 ≤ x1 ∧ x1 < 8; have : (0 : Int) ≤ gI s 73 ∧ gI s 73 ≤ 12 := hRs.1 73; have : (0 : Int) ≤ gI s 47 ∧ gI s 47 ≤ 1 := hRs.1 47; omega) (by show R2 y6; have : (0 : Int) ≤ gI s 73 ∧ gI s 73 ≤ 12 := hRs.1 73; have : (0 : Int) ≤ gI s 47 ∧ gI s 47 ≤ 1 := hRs.1 47; omega) (hv13_3.1.1.1) (by rw [hv13_0]; exact kb)) (fun r8 er8 hr8 => ?_)
          have hr8_0 := hr8
          have hr8_0 : R2 r8 := hr8_0
          refine wp_rdIn (by have : (0 : Int) ≤ gI s 73 ∧ gI s 73 ≤ 12 := hRs.1 73; have : (0 : Int) ≤ gI s 47 ∧ gI s 47 ≤ 1 := hRs.1 47; omega) (fun y9 ey9 => ?_)
          have by9 : (-2147483648 : Int) ≤ y9 ∧ y9 ≤ 2147483647 := ey9 ▸ hRs.2.1 74 _ (by show _ < 24; have : (0 : Int) ≤ gI s 73 ∧ gI s 73 ≤ 12 := hRs.1 73; have : (0 : Int) ≤ gI s 47 ∧ gI s 47 ≤ 1 := hRs.1 47; omega)
          have r9 : R2 y9 := ey9 ▸ hRs.2.1 74 _ (by show _ < 24; omega)
          refine wp_rg (by have : (0 : Int) ≤ gI s 73 ∧ gI s 73 ≤ 12 := hRs.1 73; have : (0 : Int) ≤ gI s 47 ∧ gI s 47 ≤ 1 := hRs.1 47; omega) ?_
          refine wp_rg (by have : (0 : Int) ≤ gI s 73 ∧ gI s 73 ≤ 12 := hRs.1 73; have : (0 : Int) ≤ gI s 47 ∧ gI s 47 ≤ 1 := hRs.1 47; omega) ?_
          refine wp_if (fun c3 => ?_) (fun c3 => ?_)
          · skip
            exact ih13 x1 (x2 + 1) (by show x1 = p0; have : (0 : Int) ≤ gI s 73 ∧ gI s 73 ≤ 12 := hRs.1 73; have : (0 : Int) ≤ gI s 47 ∧ gI s 47 ≤ 1 := hRs.1 47; omega) (by show 0 ≤ (x2 + 1) ∧ (x2 + 1) ≤ 12; have : (0 : Int) ≤ gI s 73 ∧ gI s 73 ≤ 12 := hRs.1 73; have : (0 : Int) ≤ gI s 47 ∧ gI s 47 ≤ 1 := hRs.1 47; omega) (by show (0 ≤ p0 ∧ p0 < 8) ∧ gI s 47 ≠ 0; have : (0 : Int) ≤ gI s 73 ∧ gI s 73 ≤ 12 := hRs.1 73; have : (0 : Int) ≤ gI s 47 ∧ gI s 47 ≤ 1 := hRs.1 47; omega) (hv13_3) (by have : (0 : Int) ≤ gI s 73 ∧ gI s 73 ≤ 12 := hRs.1 73; have : (0 : Int) ≤ gI s 47 ∧ gI s 47 ≤ 1 := hRs.1 47; omega)
          · skip
            exact wp_some (by show (0 : Int) = 0 ∨ ((0 : Int) = 1 ∧ (0 ≤ p0 ∧ p0 < 8) ∧ gI s 47 ≠ 0); have : (0 : Int) ≤ gI s 73 ∧ gI s 73 ≤ 12 := hRs.1 73; have : (0 : Int) ≤ gI s 47 ∧ gI s 47 ≤ 1 := hRs.1 47; omega)
    exact L13 FU p0 0 (by show p0 = p0; have : (0 : Int) ≤ gI s 47 ∧ gI s 47 ≤ 1 := hRs.1 47; omega) (by show 0 ≤ (0 : Int) ∧ (0 : Int) ≤ 12; have : (0 : Int) ≤ gI s 47 ∧ gI s 47 ≤ 1 := hRs.1 47; omega) (by show (0 ≤ p0 ∧ p0 < 8) ∧ gI s 47 ≠ 0; have : (0 : Int) ≤ gI s 47 ∧ gI s 47 ≤ 1 := hRs.1 47; omega) (JI_GA hpJ (by omega)) (by have := FU_big; have := FU_big2; have : (0 : Int) ≤ gI s 47 ∧ gI s 47 ≤ 1 := hRs.1 47; omega)
set_option maxHeartbeats 1000000 in
theorem w_x12_fits {p0 : Int} {s : MS} (hRs : Rr s) (hp0 : R2 p0) (hp1 : JI s) : wp (m_x12_fits p0 s) (fun r => (R2 r)) := by
  unfold m_x12_fits
  refine wp_rg (by omega) ?_
  refine wp_if (fun c1 => ?_) (fun c1 => ?_)
  · skip
    have L11 : ∀ (n : Nat) (x2 : Int) (x3 : Int) (x4 : Int), (R2 x2) → (0 ≤ x3 ∧ x3 ≤ x4 ∧ x4 ≤ 8) → (8 - x4) < (n : Int) → wp (m_x12_fits_L11 s n x2 x3 x4) (fun r => (R2 r)) := by
      refine fr_ind (fun x2 x3 x4 hv11_0 hv11_1 hm11 => ?_) (fun n11 ih11 x2 x3 x4 hv11_0 hv11_1 hm11 => ?_)
      · exfalso; omega
      · show wp (m_x12_fits_b11 s (m_x12_fits_L11 s n11) x2 x3 x4) _
        unfold m_x12_fits_b11
        refine wp_rg (by omega) ?_
        refine wp_if (fun c2 => ?_) (fun c2 => ?_)
        · skip
          refine wp_rg (by omega) ?_
          refine wp_if (fun c3 => ?_) (fun c3 => ?_)
          · skip
            unfold m_x12_fits_J54
            exact wp_some (by show R2 x3; omega)
          · skip
            unfold m_x12_fits_J54
            exact wp_some (by show R2 (-1 : Int); omega)
        · skip
          refine wp_bn (w_x12_doesFit hRs (by show R2 x4; omega) (hp1)) (fun r13 er13 hr13 => ?_)
          have hr13_0 := hr13
          have hr13_0 : r13 = 0 ∨ (r13 = 1 ∧ (0 ≤ x4 ∧ x4 < 8) ∧ gI s 47 ≠ 0) := hr13_0
          refine wp_rg (by have : (0 : Int) ≤ gI s 47 ∧ gI s 47 ≤ 1 := hRs.1 47; omega) ?_
          refine wp_if (fun c4 => ?_) (fun c4 => ?_)
          · skip
            unfold m_x12_fits_J38
            exact ih11 x2 x3 (x4 + 1) (by show R2 x2; have : (0 : Int) ≤ gI s 47 ∧ gI s 47 ≤ 1 := hRs.1 47; omega) (by show 0 ≤ x3 ∧ x3 ≤ (x4 + 1) ∧ (x4 + 1) ≤ 8; have : (0 : Int) ≤ gI s 47 ∧ gI s 47 ≤ 1 := hRs.1 47; omega) (by have : (0 : Int) ≤ gI s 47 ∧ gI s 47 ≤ 1 := hRs.1 47; omega)
          · skip
            refine wp_rg (by have : (0 : Int) ≤ gI s 47 ∧ gI s 47 ≤ 1 := hRs.1 47; omega) ?_
            refine wp_rg (by have : (0 : Int) ≤ gI s 47 ∧ gI s 47 ≤ 1 := hRs.1 47; omega) ?_
            refine wp_if (fun c5 => ?_) (fun c5 => ?_)
            · skip
              exact wp_some (by show R2 x4; have : (0 : Int) ≤ gI s 47 ∧ gI s 47 ≤ 1 := hRs.1 47; omega)
            · skip
              unfold m_x12_fits_J38
              exact ih11 x2 (x3 + 1) (x4 + 1) (by show R2 x2; have : (0 : Int) ≤ gI s 47 ∧ gI s 47 ≤ 1 := hRs.1 47; omega) (by show 0 ≤ (x3 + 1) ∧ (x3 + 1) ≤ (x4 + 1) ∧ (x4 + 1) ≤ 8; have : (0 : Int) ≤ gI s 47 ∧ gI s 47 ≤ 1 := hRs.1 47; omega) (by have : (0 : Int) ≤ gI s 47 ∧ gI s 47 ≤ 1 := hRs.1 47; omega)
    exact L11 FU p0 0 0 (by show R2 p0; omega) (by show 0 ≤ (0 : Int) ∧ (0 : Int) ≤ (0 : Int) ∧ (0 : Int) ≤ 8; omega) (by have := FU_big; have := FU_big2; omega)
  · skip
    exact wp_some (by show R2 (-1 : Int); omega)
set_option maxHeartbeats 1000000 in
theorem w_x12_mostAlike {p0 : Int} {s : MS} (hRs : Rr s) (hp0 : R2 p0) (hp1 : JI s) : wp (m_x12_mostAlike p0 s) (fun r => (0 ≤ r ∧ r ≤ 8)) := by
  have hpJ := hp1
  unfold m_x12_mostAlike
  have L4 : ∀ (n : Nat) (x1 : Int) (x2 : Int) (x3 : Int), (x1 = p0) → (0 ≤ x2 ∧ x2 ≤ 8) → (0 ≤ x3 ∧ x3 ≤ 8) → (8 - x3) < (n : Int) → wp (m_x12_mostAlike_L4 s n x1 x2 x3) (fun r => (0 ≤ r ∧ r ≤ 8)) := by
    refine fr_ind (fun x1 x2 x3 hv4_0 hv4_1 hv4_2 hm4 => ?_) (fun n4 ih4 x1 x2 x3 hv4_0 hv4_1 hv4_2 hm4 => ?_)
    · exfalso; omega
    · show wp (m_x12_mostAlike_b4 s (m_x12_mostAlike_L4 s n4) x1 x2 x3) _
      unfold m_x12_mostAlike_b4
      refine wp_rg (by omega) ?_
      refine wp_if (fun c1 => ?_) (fun c1 => ?_)
      · skip
        exact wp_some (by show 0 ≤ x2 ∧ x2 ≤ 8; omega)
      · skip
        refine wp_bn (w_x12_doesFit hRs (by show R2 x3; omega) (hp1)) (fun r36 er36 hr36 => ?_)
        have hr36_0 := hr36
        have hr36_0 : r36 = 0 ∨ (r36 = 1 ∧ (0 ≤ x3 ∧ x3 < 8) ∧ gI s 47 ≠ 0) := hr36_0
        refine wp_rg (by have : (0 : Int) ≤ gI s 47 ∧ gI s 47 ≤ 1 := hRs.1 47; omega) ?_
        refine wp_if (fun c2 => ?_) (fun c2 => ?_)
        · skip
          unfold m_x12_mostAlike_J77
          exact ih4 x1 x2 (x3 + 1) (by show x1 = p0; have : (0 : Int) ≤ gI s 47 ∧ gI s 47 ≤ 1 := hRs.1 47; omega) (by show 0 ≤ x2 ∧ x2 ≤ 8; have : (0 : Int) ≤ gI s 47 ∧ gI s 47 ≤ 1 := hRs.1 47; omega) (by show 0 ≤ (x3 + 1) ∧ (x3 + 1) ≤ 8; have : (0 : Int) ≤ gI s 47 ∧ gI s 47 ≤ 1 := hRs.1 47; omega) (by have : (0 : Int) ≤ gI s 47 ∧ gI s 47 ≤ 1 := hRs.1 47; omega)
        · skip
          have L27 : ∀ (n : Nat) (x7 : Int) (x8 : Int) (x9 : Int) (x10 : Int) (x11 : Int), (x7 = p0) → (0 ≤ x8 ∧ x8 ≤ 8) → ((0 ≤ x9 ∧ x9 < 8) ∧ gI s 47 ≠ 0 ∧ x9 = x3) → (0 ≤ x10 ∧ x10 ≤ x11 ∧ x11 ≤ 8) → (8 - x11) < (n : Int) → wp (m_x12_mostAlike_L27 s (m_x12_mostAlike_L4 s n4) n x7 x8 x9 x10 x11) (fun r => (0 ≤ r ∧ r ≤ 8)) := by
            refine fr_ind (fun x7 x8 x9 x10 x11 hv27_0 hv27_1 hv27_2 hv27_3 hm27 => ?_) (fun n27 ih27 x7 x8 x9 x10 x11 hv27_0 hv27_1 hv27_2 hv27_3 hm27 => ?_)
            · exfalso; have : (0 : Int) ≤ gI s 47 ∧ gI s 47 ≤ 1 := hRs.1 47; omega
            · show wp (m_x12_mostAlike_b27 s (m_x12_mostAlike_L4 s n4) (m_x12_mostAlike_L27 s (m_x12_mostAlike_L4 s n4) n27) x7 x8 x9 x10 x11) _
              unfold m_x12_mostAlike_b27
              refine wp_rg (by have : (0 : Int) ≤ gI s 47 ∧ gI s 47 ≤ 1 := hRs.1 47; omega) ?_
              refine wp_if (fun c3 => ?_) (fun c3 => ?_)
              · skip
                refine wp_rg (by have : (0 : Int) ≤ gI s 47 ∧ gI s 47 ≤ 1 := hRs.1 47; omega) ?_
                refine wp_rg (by have : (0 : Int) ≤ gI s 47 ∧ gI s 47 ≤ 1 := hRs.1 47; omega) ?_
                refine wp_if (fun c4 => ?_) (fun c4 => ?_)
                · skip
                  unfold m_x12_mostAlike_J77
                  exact ih4 x7 x8 (x9 + 1) (by show x7 = p0; have : (0 : Int) ≤ gI s 47 ∧ gI s 47 ≤ 1 := hRs.1 47; omega) (by show 0 ≤ x8 ∧ x8 ≤ 8; have : (0 : Int) ≤ gI s 47 ∧ gI s 47 ≤ 1 := hRs.1 47; omega) (by show 0 ≤ (x9 + 1) ∧ (x9 + 1) ≤ 8; have : (0 : Int) ≤ gI s 47 ∧ gI s 47 ≤ 1 := hRs.1 47; omega) (by have : (0 : Int) ≤ gI s 47 ∧ gI s 47 ≤ 1 := hRs.1 47; omega)
                · skip
                  unfold m_x12_mostAlike_J77
                  exact ih4 x7 x10 (x9 + 1) (by show x7 = p0; have : (0 : Int) ≤ gI s 47 ∧ gI s 47 ≤ 1 := hRs.1 47; omega) (by show 0 ≤ x10 ∧ x10 ≤ 8; have : (0 : Int) ≤ gI s 47 ∧ gI s 47 ≤ 1 := hRs.1 47; omega) (by show 0 ≤ (x9 + 1) ∧ (x9 + 1) ≤ 8; have : (0 : Int) ≤ gI s 47 ∧ gI s 47 ≤ 1 := hRs.1 47; omega) (by have : (0 : Int) ≤ gI s 47 ∧ gI s 47 ≤ 1 := hRs.1 47; omega)
              · skip
                refine wp_bn (w_x12_doesFit hRs (by show R2 x11; have : (0 : Int) ≤ gI s 47 ∧ gI s 47 ≤ 1 := hRs.1 47; omega) (hp1)) (fun r23 er23 hr23 => ?_)
                have hr23_0 := hr23
                have hr23_0 : r23 = 0 ∨ (r23 = 1 ∧ (0 ≤ x11 ∧ x11 < 8) ∧ gI s 47 ≠ 0) := hr23_0
                have kt : gI s 47 ≠ 0 := hv27_2.2.1
                have kG := JI_GA hpJ kt
                refine wp_rg (by have : (0 : Int) ≤ gI s 47 ∧ gI s 47 ≤ 1 := hRs.1 47; omega) ?_
                refine wp_if (fun c5 => ?_) (fun c5 => ?_)
                · skip
                  unfold m_x12_mostAlike_J62
                  exact ih27 x7 x8 x9 x10 (x11 + 1) (by show x7 = p0; have : (0 : Int) ≤ gI s 47 ∧ gI s 47 ≤ 1 := hRs.1 47; omega) (by show 0 ≤ x8 ∧ x8 ≤ 8; have : (0 : Int) ≤ gI s 47 ∧ gI s 47 ≤ 1 := hRs.1 47; omega) (by show (0 ≤ x9 ∧ x9 < 8) ∧ gI s 47 ≠ 0 ∧ x9 = x3; have : (0 : Int) ≤ gI s 47 ∧ gI s 47 ≤ 1 := hRs.1 47; omega) (by show 0 ≤ x10 ∧ x10 ≤ (x11 + 1) ∧ (x11 + 1) ≤ 8; have : (0 : Int) ≤ gI s 47 ∧ gI s 47 ≤ 1 := hRs.1 47; omega) (by have : (0 : Int) ≤ gI s 47 ∧ gI s 47 ≤ 1 := hRs.1 47; omega)
                · skip
                  refine wp_bn (w_x12_toldOf hRs (by show 0 ≤ x11 ∧ x11 < 8; have : (0 : Int) ≤ gI s 47 ∧ gI s 47 ≤ 1 := hRs.1 47; omega) (by show R2 x7; have : (0 : Int) ≤ gI s 47 ∧ gI s 47 ≤ 1 := hRs.1 47; omega) (kG.1.1.1) (kG.1.1.2 x11.toNat (by omega))) (fun r27 er27 hr27 => ?_)
                  have hr27_0 := hr27
                  have hr27_0 : R2 r27 := hr27_0
                  refine wp_bn (w_x12_toldOf hRs (by show 0 ≤ x9 ∧ x9 < 8; have : (0 : Int) ≤ gI s 47 ∧ gI s 47 ≤ 1 := hRs.1 47; omega) (by show R2 x7; have : (0 : Int) ≤ gI s 47 ∧ gI s 47 ≤ 1 := hRs.1 47; omega) (kG.1.1.1) (kG.1.1.2 x9.toNat (by omega))) (fun r29 er29 hr29 => ?_)
                  have hr29_0 := hr29
                  have hr29_0 : R2 r29 := hr29_0
                  refine wp_rg (by have : (0 : Int) ≤ gI s 47 ∧ gI s 47 ≤ 1 := hRs.1 47; omega) ?_
                  refine wp_rg (by have : (0 : Int) ≤ gI s 47 ∧ gI s 47 ≤ 1 := hRs.1 47; omega) ?_
                  refine wp_if (fun c6 => ?_) (fun c6 => ?_)
                  · skip
                    unfold m_x12_mostAlike_J62
                    exact ih27 x7 x8 x9 (x10 + 1) (x11 + 1) (by show x7 = p0; have : (0 : Int) ≤ gI s 47 ∧ gI s 47 ≤ 1 := hRs.1 47; omega) (by show 0 ≤ x8 ∧ x8 ≤ 8; have : (0 : Int) ≤ gI s 47 ∧ gI s 47 ≤ 1 := hRs.1 47; omega) (by show (0 ≤ x9 ∧ x9 < 8) ∧ gI s 47 ≠ 0 ∧ x9 = x3; have : (0 : Int) ≤ gI s 47 ∧ gI s 47 ≤ 1 := hRs.1 47; omega) (by show 0 ≤ (x10 + 1) ∧ (x10 + 1) ≤ (x11 + 1) ∧ (x11 + 1) ≤ 8; have : (0 : Int) ≤ gI s 47 ∧ gI s 47 ≤ 1 := hRs.1 47; omega) (by have : (0 : Int) ≤ gI s 47 ∧ gI s 47 ≤ 1 := hRs.1 47; omega)
                  · skip
                    unfold m_x12_mostAlike_J62
                    exact ih27 x7 x8 x9 x10 (x11 + 1) (by show x7 = p0; have : (0 : Int) ≤ gI s 47 ∧ gI s 47 ≤ 1 := hRs.1 47; omega) (by show 0 ≤ x8 ∧ x8 ≤ 8; have : (0 : Int) ≤ gI s 47 ∧ gI s 47 ≤ 1 := hRs.1 47; omega) (by show (0 ≤ x9 ∧ x9 < 8) ∧ gI s 47 ≠ 0 ∧ x9 = x3; have : (0 : Int) ≤ gI s 47 ∧ gI s 47 ≤ 1 := hRs.1 47; omega) (by show 0 ≤ x10 ∧ x10 ≤ (x11 + 1) ∧ (x11 + 1) ≤ 8; have : (0 : Int) ≤ gI s 47 ∧ gI s 47 ≤ 1 := hRs.1 47; omega) (by have : (0 : Int) ≤ gI s 47 ∧ gI s 47 ≤ 1 := hRs.1 47; omega)
          exact L27 FU x1 x2 x3 0 0 (by show x1 = p0; have : (0 : Int) ≤ gI s 47 ∧ gI s 47 ≤ 1 := hRs.1 47; omega) (by show 0 ≤ x2 ∧ x2 ≤ 8; have : (0 : Int) ≤ gI s 47 ∧ gI s 47 ≤ 1 := hRs.1 47; omega) (by show (0 ≤ x3 ∧ x3 < 8) ∧ gI s 47 ≠ 0 ∧ x3 = x3; have : (0 : Int) ≤ gI s 47 ∧ gI s 47 ≤ 1 := hRs.1 47; omega) (by show 0 ≤ (0 : Int) ∧ (0 : Int) ≤ (0 : Int) ∧ (0 : Int) ≤ 8; have : (0 : Int) ≤ gI s 47 ∧ gI s 47 ≤ 1 := hRs.1 47; omega) (by have := FU_big; have := FU_big2; have : (0 : Int) ≤ gI s 47 ∧ gI s 47 ≤ 1 := hRs.1 47; omega)
  exact L4 FU p0 0 0 (by show p0 = p0; omega) (by show 0 ≤ (0 : Int) ∧ (0 : Int) ≤ 8; omega) (by show 0 ≤ (0 : Int) ∧ (0 : Int) ≤ 8; omega) (by have := FU_big; have := FU_big2; omega)
set_option maxHeartbeats 1000000 in
theorem w_x12_tells {p0 : Int} {s : MS} (hRs : Rr s) (hp0 : R2 p0) (hp1 : JI s) : wp (m_x12_tells p0 s) (fun r => True) := by
  unfold m_x12_tells
  refine wp_rg (by omega) ?_
  refine wp_bn (w_x12_isIn hRs (by show R8 p0; omega) (by show R8 (0 : Int); omega) (by show R8 (1 : Int); omega)) (fun r26 er26 hr26 => ?_)
  have hr26_0 := hr26
  have hr26_0 : (r26 = 1 ∧ (0 : Int) ≤ p0 ∧ p0 ≤ (1 : Int)) ∨ (r26 = 0 ∧ (p0 < (0 : Int) ∨ (1 : Int) < p0)) := hr26_0
  refine wp_rg (by omega) ?_
  refine wp_if (fun c1 => ?_) (fun c1 => ?_)
  · skip
    unfold m_x12_tells_J18
    exact wp_some (trivial)
  · skip
    refine wp_bn (w_x12_fits hRs (by show R2 (-1 : Int); omega) (hp1)) (fun r30 er30 hr30 => ?_)
    have hr30_0 := hr30
    have hr30_0 : R2 r30 := hr30_0
    refine wp_rg (by omega) ?_
    refine wp_if (fun c2 => ?_) (fun c2 => ?_)
    · skip
      unfold m_x12_tells_J18
      exact wp_some (trivial)
    · skip
      have L27 : ∀ (n : Nat) (x2 : Int) (x3 : Int) (x4 : Int) (x5 : Int), (R2 x2) → ((-1) ≤ x3 ∧ x3 ≤ 100) → ((-1) ≤ x4 ∧ x4 ≤ 8) → (0 ≤ x5 ∧ x5 ≤ 100) → (100 - x5) < (n : Int) → wp (m_x12_tells_L27 s n x2 x3 x4 x5) (fun r => True) := by
        refine fr_ind (fun x2 x3 x4 x5 hv27_0 hv27_1 hv27_2 hv27_3 hm27 => ?_) (fun n27 ih27 x2 x3 x4 x5 hv27_0 hv27_1 hv27_2 hv27_3 hm27 => ?_)
        · exfalso; omega
        · show wp (m_x12_tells_b27 s (m_x12_tells_L27 s n27) x2 x3 x4 x5) _
          unfold m_x12_tells_b27
          refine wp_rg (by omega) ?_
          refine wp_if (fun c3 => ?_) (fun c3 => ?_)
          · skip
            refine wp_rg (by omega) ?_
            refine wp_if (fun c4 => ?_) (fun c4 => ?_)
            · skip
              unfold m_x12_tells_J77
              exact wp_some (trivial)
            · skip
              unfold m_x12_tells_J77
              exact wp_some (trivial)
          · skip
            refine wp_bn (w_x12_mostAlike hRs (by show R2 x5; omega) (hp1)) (fun r18 er18 hr18 => ?_)
            have hr18_0 := hr18
            have hr18_0 : 0 ≤ r18 ∧ r18 ≤ 8 := hr18_0
            refine wp_rg (by omega) ?_
            refine wp_if (fun c5 => ?_) (fun c5 => ?_)
            · skip
              unfold m_x12_tells_J56
              unfold m_x12_tells_J62
              exact ih27 x2 x5 r18 (x5 + 1) (by show R2 x2; omega) (by show (-1) ≤ x5 ∧ x5 ≤ 100; omega) (by show (-1) ≤ r18 ∧ r18 ≤ 8; omega) (by show 0 ≤ (x5 + 1) ∧ (x5 + 1) ≤ 100; omega) (by omega)
            · skip
              refine wp_rg (by omega) ?_
              refine wp_rg (by omega) ?_
              refine wp_if (fun c6 => ?_) (fun c6 => ?_)
              · skip
                unfold m_x12_tells_J56
                unfold m_x12_tells_J62
                exact ih27 x2 x5 r18 (x5 + 1) (by show R2 x2; omega) (by show (-1) ≤ x5 ∧ x5 ≤ 100; omega) (by show (-1) ≤ r18 ∧ r18 ≤ 8; omega) (by show 0 ≤ (x5 + 1) ∧ (x5 + 1) ≤ 100; omega) (by omega)
              · skip
                unfold m_x12_tells_J62
                exact ih27 x2 x3 x4 (x5 + 1) (by show R2 x2; omega) (by show (-1) ≤ x3 ∧ x3 ≤ 100; omega) (by show (-1) ≤ x4 ∧ x4 ≤ 8; omega) (by show 0 ≤ (x5 + 1) ∧ (x5 + 1) ≤ 100; omega) (by omega)
      exact L27 FU p0 (-1) (-1) 0 (by show R2 p0; omega) (by show (-1) ≤ (-1 : Int) ∧ (-1 : Int) ≤ 100; omega) (by show (-1) ≤ (-1 : Int) ∧ (-1 : Int) ≤ 8; omega) (by show 0 ≤ (0 : Int) ∧ (0 : Int) ≤ 100; omega) (by have := FU_big; have := FU_big2; omega)
set_option maxHeartbeats 1000000 in
theorem w_x12_laysLeaf {p0 : Int} {s : MS} (hRs : Rr s) (hp0 : 0 ≤ p0 ∧ p0 < 48) (hp1 : (0 ≤ (hM s).2.1 p0.toNat ∧ (hM s).2.1 p0.toNat ≤ 6)) (hp2 : gI s 67 ≤ 290) : wp (m_x12_laysLeaf p0 s) (fun o => (Rr o) ∧ (gI o 67 = gI s 67 + (hM s).2.1 p0.toNat)) := by
  unfold m_x12_laysLeaf
  have L2 : ∀ (n : Nat) (x1 : Int) (x2 : Int) (s3 : MS), Rr s3 → (x1 = p0) → (0 ≤ x2 ∧ x2 ≤ (hM s).2.1 p0.toNat) → (gI s3 67 = gI s 67 + x2) → (gA s3 49 = gA s 49) → (6 - x2) < (n : Int) → wp (m_x12_laysLeaf_L2 n x1 x2 s3) (fun o => (Rr o) ∧ (gI o 67 = gI s 67 + (hM s).2.1 p0.toNat)) := by
    refine fr_ind (fun x1 x2 s3 hRs3 hv2_0 hv2_1 hv2_2 hv2_3 hm2 => ?_) (fun n2 ih2 x1 x2 s3 hRs3 hv2_0 hv2_1 hv2_2 hv2_3 hm2 => ?_)
    · exfalso; have : (0 : Int) ≤ gI s 67 ∧ gI s 67 ≤ 300 := hRs.1 67; have : (0 : Int) ≤ gI s3 67 ∧ gI s3 67 ≤ 300 := hRs3.1 67; omega
    · show wp (m_x12_laysLeaf_b2 (m_x12_laysLeaf_L2 n2) x1 x2 s3) _
      unfold m_x12_laysLeaf_b2
      have e49 := (eq49 hv2_3).1
      have e0 : x1 = p0 := hv2_0
      refine wp_bn (w_x12_entriesOf hRs3 (by show 0 ≤ x1 ∧ x1 < 48; have : (0 : Int) ≤ gI s3 67 ∧ gI s3 67 ≤ 300 := hRs3.1 67; have : (0 : Int) ≤ gI s 67 ∧ gI s 67 ≤ 300 := hRs.1 67; omega)) (fun r5 er5 hr5 => ?_)
      obtain ⟨hr5_0, hr5_1⟩ := hr5
      have hr5_0 : r5 = (hM s3).2.1 x1.toNat := hr5_0
      have hr5_1 : R2 r5 := hr5_1
      rw [e49, e0] at hr5_0
      refine wp_rg (by have : (0 : Int) ≤ gI s3 67 ∧ gI s3 67 ≤ 300 := hRs3.1 67; have : (0 : Int) ≤ gI s 67 ∧ gI s 67 ≤ 300 := hRs.1 67; omega) ?_
      refine wp_rg (by have : (0 : Int) ≤ gI s3 67 ∧ gI s3 67 ≤ 300 := hRs3.1 67; have : (0 : Int) ≤ gI s 67 ∧ gI s 67 ≤ 300 := hRs.1 67; omega) ?_
      refine wp_if (fun c1 => ?_) (fun c1 => ?_)
      · skip
        exact wp_some ⟨hRs3, by show gI s3 67 = gI s 67 + (hM s).2.1 p0.toNat; have : (0 : Int) ≤ gI s 67 ∧ gI s 67 ≤ 300 := hRs.1 67; have : (0 : Int) ≤ gI s3 67 ∧ gI s3 67 ≤ 300 := hRs3.1 67; omega⟩
      · skip
        refine wp_bn (w_x12_keyAt hRs3 (by show 0 ≤ x1 ∧ x1 < 48; have : (0 : Int) ≤ gI s3 67 ∧ gI s3 67 ≤ 300 := hRs3.1 67; have : (0 : Int) ≤ gI s 67 ∧ gI s 67 ≤ 300 := hRs.1 67; omega) (by show 0 ≤ x2 ∧ x2 < 6; have : (0 : Int) ≤ gI s3 67 ∧ gI s3 67 ≤ 300 := hRs3.1 67; have : (0 : Int) ≤ gI s 67 ∧ gI s 67 ≤ 300 := hRs.1 67; omega)) (fun r10 er10 hr10 => ?_)
        obtain ⟨hr10_0, hr10_1⟩ := hr10
        have hr10_0 : r10 = kM s3 x1.toNat x2.toNat := hr10_0
        have hr10_1 : R2 r10 := hr10_1
        refine wp_inb (by have : (0 : Int) ≤ gI s 67 ∧ gI s 67 ≤ 300 := hRs.1 67; have : (0 : Int) ≤ gI s3 67 ∧ gI s3 67 ≤ 300 := hRs3.1 67; omega) ?_
        refine wp_stn (fun s12 es12 => ?_)
        have hRs12 : Rr s12 := es12 ▸ Rr.uAu hRs3 (by show (-2147483648 : Int) ≤ r10 ∧ r10 ≤ 2147483647; have : (0 : Int) ≤ gI s3 67 ∧ gI s3 67 ≤ 300 := hRs3.1 67; have : (0 : Int) ≤ gI s 67 ∧ gI s 67 ≤ 300 := hRs.1 67; omega)
        refine wp_bn (w_x12_valueAt hRs12 (by show 0 ≤ x1 ∧ x1 < 48; have : (0 : Int) ≤ gI s3 67 ∧ gI s3 67 ≤ 300 := hRs3.1 67; have : (0 : Int) ≤ gI s 67 ∧ gI s 67 ≤ 300 := hRs.1 67; omega) (by show 0 ≤ x2 ∧ x2 < 6; have : (0 : Int) ≤ gI s3 67 ∧ gI s3 67 ≤ 300 := hRs3.1 67; have : (0 : Int) ≤ gI s 67 ∧ gI s 67 ≤ 300 := hRs.1 67; omega)) (fun r14 er14 hr14 => ?_)
        obtain ⟨hr14_0, hr14_1⟩ := hr14
        have hr14_0 : r14 = (hM s12).2.2 x1.toNat x2.toNat := hr14_0
        have hr14_1 : R2 r14 := hr14_1
        refine wp_inb (by have : (0 : Int) ≤ gI s3 67 ∧ gI s3 67 ≤ 300 := hRs3.1 67; have : (0 : Int) ≤ gI s 67 ∧ gI s 67 ≤ 300 := hRs.1 67; have : gI s12 67 = gI s3 67 := q_Ai es12; omega) ?_
        refine wp_stn (fun s16 es16 => ?_)
        have hRs16 : Rr s16 := es16 ▸ Rr.uAu hRs12 (by show (-2147483648 : Int) ≤ r14 ∧ r14 ≤ 2147483647; have : (0 : Int) ≤ gI s3 67 ∧ gI s3 67 ≤ 300 := hRs3.1 67; have : (0 : Int) ≤ gI s 67 ∧ gI s 67 ≤ 300 := hRs.1 67; omega)
        refine wp_inb (by have : (0 : Int) ≤ gI s3 67 ∧ gI s3 67 ≤ 300 := hRs3.1 67; have : (0 : Int) ≤ gI s 67 ∧ gI s 67 ≤ 300 := hRs.1 67; have : gI s16 67 = gI s12 67 := q_Ai es16; have : gI s12 67 = gI s3 67 := q_Ai es12; omega) ?_
        refine wp_stn (fun s18 es18 => ?_)
        have hRs18 : Rr s18 := es18 ▸ Rr.uAu hRs16 (by show (-2147483648 : Int) ≤ x1 ∧ x1 ≤ 2147483647; have : (0 : Int) ≤ gI s3 67 ∧ gI s3 67 ≤ 300 := hRs3.1 67; have : (0 : Int) ≤ gI s 67 ∧ gI s 67 ≤ 300 := hRs.1 67; omega)
        refine wp_stn (fun s19 es19 => ?_)
        have hRs19 : Rr s19 := es19 ▸ Rr.uI hRs18 (by show (0 : Int) ≤ ((gI s18 67) + 1) ∧ ((gI s18 67) + 1) ≤ 300; have : (0 : Int) ≤ gI s3 67 ∧ gI s3 67 ≤ 300 := hRs3.1 67; have : (0 : Int) ≤ gI s 67 ∧ gI s 67 ≤ 300 := hRs.1 67; have : gI s18 67 = gI s16 67 := q_Ai es18; have : gI s16 67 = gI s12 67 := q_Ai es16; have : gI s12 67 = gI s3 67 := q_Ai es12; omega)
        exact ih2 x1 (x2 + 1) s19 hRs19 (by show x1 = p0; have : (0 : Int) ≤ gI s3 67 ∧ gI s3 67 ≤ 300 := hRs3.1 67; have : (0 : Int) ≤ gI s 67 ∧ gI s 67 ≤ 300 := hRs.1 67; omega) (by show 0 ≤ (x2 + 1) ∧ (x2 + 1) ≤ (hM s).2.1 p0.toNat; have : (0 : Int) ≤ gI s3 67 ∧ gI s3 67 ≤ 300 := hRs3.1 67; have : (0 : Int) ≤ gI s 67 ∧ gI s 67 ≤ 300 := hRs.1 67; omega) (by show gI s19 67 = gI s 67 + (x2 + 1); have : (0 : Int) ≤ gI s3 67 ∧ gI s3 67 ≤ 300 := hRs3.1 67; have : (0 : Int) ≤ gI s 67 ∧ gI s 67 ≤ 300 := hRs.1 67; have : gI s19 67 = (gI s18 67) + 1 := q_II es19; have : gI s18 67 = gI s16 67 := q_Ai es18; have : gI s16 67 = gI s12 67 := q_Ai es16; have : gI s12 67 = gI s3 67 := q_Ai es12; omega) ((((q_Ia es19 : gA s19 49 = gA s18 49).trans ((q_Aa es18 (by decide) : gA s18 49 = gA s16 49).trans ((q_Aa es16 (by decide) : gA s16 49 = gA s12 49).trans (q_Aa es12 (by decide) : gA s12 49 = gA s3 49))))).trans hv2_3) (by have : (0 : Int) ≤ gI s3 67 ∧ gI s3 67 ≤ 300 := hRs3.1 67; have : (0 : Int) ≤ gI s 67 ∧ gI s 67 ≤ 300 := hRs.1 67; omega)
  exact L2 FU p0 0 s hRs (by show p0 = p0; have : (0 : Int) ≤ gI s 67 ∧ gI s 67 ≤ 300 := hRs.1 67; omega) (by show 0 ≤ (0 : Int) ∧ (0 : Int) ≤ (hM s).2.1 p0.toNat; have : (0 : Int) ≤ gI s 67 ∧ gI s 67 ≤ 300 := hRs.1 67; omega) (by show gI s 67 = gI s 67 + (0 : Int); have : (0 : Int) ≤ gI s 67 ∧ gI s 67 ≤ 300 := hRs.1 67; omega) (rfl) (by have := FU_big; have := FU_big2; have : (0 : Int) ≤ gI s 67 ∧ gI s 67 ≤ 300 := hRs.1 67; omega)
/-! ===== a tree laid out ===== -/
theorem RT_tree {s : MS} {u : Nat} (H : RT s) (hu : u < 16) (h0 : 0 ≤ gA s 49 u) (h1 : gA s 49 u < 254) : ∃ mu, MV (hM s) mu (gA s 49 u) (fun _ => 0) ∧ ∀ x, x < 48 → 0 < mu x → DW s x := by
  have H' := H
  obtain ⟨M, P⟩ := RT_PM 0 (by omega) H
  have T : TM s d0 (-1) := H.1
  obtain ⟨l1, l2⟩ := PM_live T (fun _ _ => Int.le_refl 0) P (by omega)
  have G : TG (hM s) (kM s) (gA s 39 5) (gA s 39 6) (M u) (M u) (sr (gA s 49 u)) (sr (gA s 49 u)) (fun _ => 0) (-1) := by
    by_cases z : u = 0
    · rw [z]; exact TG_cc (P.1 1 (by omega) (by omega)) (fun _ _ => rfl)
    · exact TG_ss (P.1 u hu z)
  refine ⟨M u, ⟨fun x hx => ?_, G.2.1.1⟩, fun x hx hm => ?_⟩
  · have a := (G.1.2.1 x hx).1
    have b := P.2 u hu x hx
    omega
  · by_cases z : u < 8
    · exact Or.inl (l1 u z x hx hm)
    · exact Or.inr (l2 u (by omega) hu x hx hm)
theorem enf_le {h : SH} {p : Nat} {i x : Int} (hi : 0 ≤ i) : enf h p i x ≤ en h p x := by
  unfold en enf
  by_cases c : 0 < h.1 p
  · rw [if_pos c, if_pos c]
    refine sm_le (fun k _ => ?_)
    show (if i ≤ (k : Int) ∧ (k : Int) < h.2.1 p ∧ h.2.2 p k = x then (1 : Int) else 0) ≤ if (0 : Int) ≤ (k : Int) ∧ (k : Int) < h.2.1 p ∧ h.2.2 p k = x then 1 else 0
    by_cases d : i ≤ (k : Int) ∧ (k : Int) < h.2.1 p ∧ h.2.2 p k = x
    · rw [if_pos d, if_pos ⟨by omega, d.2⟩]; omega
    · rw [if_neg d]; split <;> omega
  · rw [if_neg c, if_neg c]; omega
set_option maxHeartbeats 2000000 in
theorem mt_laysTree {p0 : Int} {s : MS} (hRs : Rr s) (hT : RT s) (h2 : R2 p0) (hp : p0 < 254 → (0 ≤ p0 ∧ p0 < 48) ∧ ∃ mu, MV (hM s) mu p0 (fun _ => 0) ∧ ∀ x, x < 48 → 0 < mu x → DW s x) : wp (m_x12_laysTree p0 s) (fun o => Rr o ∧ F_x12_laysTree s o ∧ (254 ≤ p0 → gI o 67 = 0)) := by
  have key : wp (m_x12_laysTree p0 s) (fun o => Rr o ∧ (254 ≤ p0 → gI o 67 = 0)) := by
    have L48 : ∀ (n : Nat) (x : Int) (S : MS) (M : Nat → Int), Rr S → gA S 49 = gA s 49 → 0 ≤ x → WK (hM s) M (gA S 62) x.toNat (fun _ => 0) → (∀ y, y < 48 → 0 < M y → DW s y) → gI S 68 + pos M ≤ 48 → gI S 67 + 6 * pos M ≤ 288 → pos M < (n : Int) → wp (m_x12_laysTree_L48 n x S) (fun o => Rr o) := by
      refine fr_ind (fun x S M hRS h49 h0 hW hL h68 h67 hm => by exfalso; have := pos_b M; omega) (fun n ih x S M hRS h49 h0 hW hL h68 h67 hm => ?_)
      show wp (m_x12_laysTree_b48 (m_x12_laysTree_L48 n) x S) _
      unfold m_x12_laysTree_b48
      have wl := WK_le hW
      have pb := pos_b M
      refine wp_rg (by omega) (wp_if (fun c1 => wp_some hRS) (fun c1 => ?_))
      have wx : x.toNat = (x.toNat - 1) + 1 := by omega
      rw [wx] at hW
      obtain ⟨m1, W1⟩ := WK_pop hW
      have hb := hW.2.1 (x.toNat - 1) (by omega)
      refine wp_rdIn (by omega) (fun y31 e31 => ?_)
      have e31' : gA S 62 (x.toNat - 1) = y31 := by rw [← e31]; congr 1; omega
      rw [e31'] at m1 W1 hb
      have b48 : y31.toNat < 48 := by omega
      have dw := hL y31.toNat b48 (by omega)
      have nd := DW_nd hT b48 dw
      have ps : pos (upZ M y31.toNat 0) = pos M - 1 := WK_pos hW b48 m1
      have L1 : ∀ y, y < 48 → 0 < upZ M y31.toNat 0 y → DW s y := fun y hy hm2 => by
        by_cases z : y = y31.toNat
        · rw [z, upZ_s] at hm2; omega
        · rw [upZ_n z] at hm2; exact hL y hy hm2
      have r67 : (0 : Int) ≤ gI S 67 ∧ gI S 67 ≤ 300 := hRS.1 67
      have r68 : (0 : Int) ≤ gI S 68 ∧ gI S 68 ≤ 48 := hRS.1 68
      have J81 : ∀ X : MS, Rr X → gA X 49 = gA s 49 → gA X 62 = gA S 62 → gI X 67 = gI S 67 → gI X 68 + pos (upZ M y31.toNat 0) ≤ 48 → wp (m_x12_laysTree_J81 (m_x12_laysTree_L48 n) (x + (-1)) y31 X) (fun o => Rr o) := by
        intro X hRX x49 x62 x67 x68
        unfold m_x12_laysTree_J81
        refine wp_inb (by omega) (wp_bo (Or.inr rfl) (wp_stn (fun s20 e20 => ?_)))
        have hR20 : Rr s20 := e20 ▸ Rr.uAu hRX (by show (0 : Int) ≤ 1 ∧ (1 : Int) ≤ 1; omega)
        have a49 : gA s20 49 = gA s 49 := (q_Aa e20 (by decide)).trans x49
        have a62 : gA s20 62 = gA S 62 := (q_Aa e20 (by decide)).trans x62
        have a67 : gI s20 67 = gI S 67 := (q_Ai e20).trans x67
        have a68 : gI s20 68 = gI X 68 := q_Ai e20
        have eh := (eq49 a49).1
        refine wp_bn (w_x12_levelOf hR20 (by omega)) (fun r22 e22 h22 => ?_)
        have l22 : r22 = (hM s).1 y31.toNat := by rw [h22.1, eh]
        refine wp_rg h22.2 (wp_if (fun c2 => ?_) (fun c2 => ?_))
        · refine wp_bn (w_x12_laysLeaf hR20 (by omega) (by rw [eh]; omega) (by omega)) (fun s28 e28 h28 => ?_)
          obtain ⟨hR28, g67⟩ := h28
          have F28 : F_x12_laysLeaf s20 s28 := fr_x12_laysLeaf e28
          rw [eh] at g67
          have c68 : gI s28 68 = gI X 68 := (F28.1 68 (by decide)).trans a68
          unfold m_x12_laysTree_J140
          refine ih (x + (-1)) s28 (upZ M y31.toNat 0) hR28 ((F28.2.1 49 (by decide)).trans a49) (by omega) ?_ L1 (by omega) (by omega) (by omega)
          rw [F28.2.1 62 (by decide), a62, show (x + (-1)).toNat = x.toNat - 1 by omega]
          refine WK_P W1 (fun y hy => ?_)
          show (0 : Int) = en (hM s) y31.toNat (y : Int)
          rw [en_leaf (by omega)]
        · have l0 : 0 < (hM s).1 y31.toNat := by omega
          refine wp_bn (w_x12_entriesOf hR20 (by omega)) (fun r26 e26 h26 => ?_)
          have z26 : r26 = (hM s).2.1 y31.toNat := by rw [h26.1, eh]
          have L113 : ∀ (m : Nat) (w k : Int) (Q : MS), Rr Q → gA Q 49 = gA s 49 → gI Q 67 = gI S 67 → gI Q 68 = gI X 68 → 0 ≤ w → (-1 ≤ k ∧ k < (hM s).2.1 y31.toNat) → WK (hM s) (upZ M y31.toNat 0) (gA Q 62) w.toNat (fun y => en (hM s) y31.toNat (y : Int) - enf (hM s) y31.toNat (k + 1) (y : Int)) → k + 1 < (m : Int) → wp (m_x12_laysTree_L113 (m_x12_laysTree_L48 n) m w y31 k Q) (fun o => Rr o) := by
            refine fr_ind (fun w k Q hRQ q49 q67 q68 hw hk WQ hm2 => by exfalso; omega) (fun m ihm w k Q hRQ q49 q67 q68 hw hk WQ hm2 => ?_)
            show wp (m_x12_laysTree_b113 (m_x12_laysTree_L48 n) (m_x12_laysTree_L113 (m_x12_laysTree_L48 n) m) w y31 k Q) _
            unfold m_x12_laysTree_b113
            have wl2 := WK_le WQ
            have pb2 := pos_b (upZ M y31.toNat 0)
            have ehQ := (eq49 q49).1
            refine wp_rg (by omega) (wp_if (fun c3 => ?_) (fun c3 => ?_))
            · unfold m_x12_laysTree_J140
              refine ih w Q (upZ M y31.toNat 0) hRQ q49 hw ?_ L1 (by omega) (by omega) (by omega)
              refine WK_P WQ (fun y hy => ?_)
              show (0 : Int) = en (hM s) y31.toNat (y : Int) - enf (hM s) y31.toNat (k + 1) (y : Int)
              rw [show k + 1 = 0 by omega]
              show (0 : Int) = en (hM s) y31.toNat (y : Int) - en (hM s) y31.toNat (y : Int)
              omega
            · refine wp_bn (w_x12_valueAt hRQ (by omega) (by omega)) (fun r12 e12 h12 => ?_)
              have v12 : r12 = (hM s).2.2 y31.toNat k.toNat := by rw [h12.1, ehQ]
              have kd := DW_kid (k := k.toNat) hT b48 dw l0 (by omega)
              rw [← v12] at kd
              refine wp_inb (by omega) (wp_stn (fun s14 e14 => ?_))
              have hR14 : Rr s14 := e14 ▸ Rr.uAu hRQ (by show (0 : Int) ≤ r12 ∧ r12 ≤ 47; omega)
              have u62 : gA s14 62 = upZ (gA Q 62) w.toNat r12 := q_AA e14
              refine ihm (w + 1) (k + (-1)) s14 hR14 ((q_Aa e14 (by decide)).trans q49) ((q_Ai e14).trans q67) ((q_Ai e14).trans q68) (by omega) (by omega) ?_ (by omega)
              rw [u62, show (w + 1).toNat = w.toNat + 1 by omega, show k + (-1) + 1 = k by omega]
              refine WK_push WQ kd.1 (fun y hy => ?_) (fun y hy => ?_)
              · have es := enf_step (h := hM s) (p := y31.toNat) (k := k.toNat) (x := (y : Int)) l0 (by omega) (by omega)
                rw [show ((k.toNat : Nat) : Int) = k by omega, ← v12] at es
                show en (hM s) y31.toNat (y : Int) - enf (hM s) y31.toNat (k + 1) (y : Int) = en (hM s) y31.toNat (y : Int) - enf (hM s) y31.toNat k (y : Int) + (if r12 = (y : Int) then 1 else 0)
                omega
              · have := enf_le (h := hM s) (p := y31.toNat) (i := k) (x := (y : Int)) (by omega)
                show 0 ≤ en (hM s) y31.toNat (y : Int) - enf (hM s) y31.toNat k (y : Int)
                omega
          refine L113 FU (x + (-1)) (r26 - 1) s20 hR20 a49 a67 a68 (by omega) (by omega) ?_ (by have := FU_big; omega)
          rw [a62, show (x + (-1)).toNat = x.toNat - 1 by omega]
          refine WK_P W1 (fun y hy => ?_)
          show en (hM s) y31.toNat (y : Int) - enf (hM s) y31.toNat (r26 - 1 + 1) (y : Int) = en (hM s) y31.toNat (y : Int)
          rw [enf_end (by omega)]; omega
      have r63 := hRS.2.1 63 y31.toNat (by show _ < 48; omega)
      have r63' : (0 : Int) ≤ gA S 63 y31.toNat ∧ gA S 63 y31.toNat ≤ 1 := r63
      refine wp_rdIn (by omega) (fun y32 e32 => ?_)
      rw [e32] at r63'
      refine wp_rg (by omega) (wp_if (fun c4 => ?_) (fun c4 => ?_))
      · refine wp_stn (fun s35 e35 => ?_)
        have hR35 : Rr s35 := e35 ▸ Rr.uI hRS (by show (0 : Int) ≤ gI S 68 + 1 ∧ gI S 68 + 1 ≤ 48; omega)
        have g68 : gI s35 68 = gI S 68 + 1 := q_II e35
        exact J81 s35 hR35 ((q_Ia e35).trans h49) (q_Ia e35) (q_Ii e35 (by decide)) (by omega)
      · exact J81 S hRS h49 rfl rfl (by omega)
    have L12 : ∀ (n : Nat) (k : Int) (S : MS), Rr S → gA S 49 = gA s 49 → gI S 67 = 0 → gI S 68 = 0 → (0 ≤ k ∧ k ≤ 48) → 48 - k < (n : Int) → wp (m_x12_laysTree_L12 n p0 k S) (fun o => Rr o ∧ (254 ≤ p0 → gI o 67 = 0)) := by
      refine fr_ind (fun k S hRS h49 h67 h68 hk hm => by exfalso; omega) (fun n ih k S hRS h49 h67 h68 hk hm => ?_)
      show wp (m_x12_laysTree_b12 (m_x12_laysTree_L12 n) p0 k S) _
      unfold m_x12_laysTree_b12
      refine wp_rg (by omega) (wp_if (fun c1 => ?_) (fun c1 => ?_))
      · refine wp_rg h2 (wp_if (fun c2 => ?_) (fun c2 => wp_some ⟨hRS, fun _ => h67⟩))
        obtain ⟨hb, mu, hmv, hl⟩ := hp c2
        refine wp_inb (by omega) (wp_stn (fun s44 e44 => ?_))
        have hR44 : Rr s44 := e44 ▸ Rr.uAu hRS (by show (0 : Int) ≤ p0 ∧ p0 ≤ 47; omega)
        have u62 : gA s44 62 = upZ (gA S 62) 0 p0 := q_AA e44
        have pb := pos_b mu
        have g67 : gI s44 67 = 0 := (q_Ai e44).trans h67
        have g68 : gI s44 68 = 0 := (q_Ai e44).trans h68
        refine wp_mono (P := fun o => Rr o) ?_ (fun o h => ⟨h, fun w => by omega⟩)
        refine L48 FU 1 s44 mu hR44 ((q_Aa e44 (by decide)).trans h49) (by omega) ?_ hl (by omega) (by omega) (by have := FU_big; omega)
        rw [u62]; exact WK_0 hmv hb
      · refine wp_inb (by omega) (wp_bo (Or.inl rfl) (wp_stn (fun s47 e47 => ?_)))
        have hR47 : Rr s47 := e47 ▸ Rr.uAu hRS (by show (0 : Int) ≤ 0 ∧ (0 : Int) ≤ 1; omega)
        exact ih (k + 1) s47 hR47 ((q_Aa e47 (by decide)).trans h49) ((q_Ai e47).trans h67) ((q_Ai e47).trans h68) (by omega) (by omega)
    unfold m_x12_laysTree
    refine wp_stn (fun s48 e48 => wp_stn (fun s49 e49 => ?_))
    have hR48 : Rr s48 := e48 ▸ Rr.uI hRs (by show (0 : Int) ≤ 0 ∧ (0 : Int) ≤ 300; omega)
    have hR49 : Rr s49 := e49 ▸ Rr.uI hR48 (by show (0 : Int) ≤ 0 ∧ (0 : Int) ≤ 48; omega)
    exact L12 FU 0 s49 hR49 ((q_Ia e49).trans (q_Ia e48)) ((q_Ii e49 (by decide)).trans (q_II e48)) (q_II e49) (by omega) (by have := FU_big; omega)
  exact wp_eq key (fun o eo ho => ⟨ho.1, fr_x12_laysTree eo, ho.2⟩)
set_option maxHeartbeats 1000000 in
theorem w_x12_dropsMany {p0 : Int} {s : MS} (hRs : Rr s) (hp0 : 0 ≤ p0 ∧ p0 < 8) (hp1 : RT s) (hp2 : 0 ≤ gA s 39 5 ∧ gA s 39 5 ≤ 48) (hp3 : 0 ≤ gA s 49 p0.toNat ∧ gA s 49 p0.toNat ≤ 254) : wp (m_x12_dropsMany p0 s) (fun q => (Rr q.2) ∧ (R2 q.1) ∧ (gA q.2 49 = gA s 49)) := by
  unfold m_x12_dropsMany
  refine wp_bn (w_x12_putsAside hRs) (fun s2 es2 hs2 => ?_)
  have Fs2 : F_x12_putsAside s s2 := fr_x12_putsAside es2
  obtain ⟨hRs2, hs2_0⟩ := hs2
  have hs2_0 : ∀ j, j < 785 → gA s2 61 j = gA s 49 j := hs2_0
  have e2 : gA s2 49 = gA s 49 := (Fs2.2.1 49 (by decide))
  have e39 : gA s2 39 = gA s 39 := (Fs2.2.1 39 (by decide))
  have T2 : RT s2 := RT_x hp1 (fun k _ => by rw [e2]) (by rw [e39]) (by rw [e39])
  refine wp_bn (w_x12_usedMany hRs2 (by rw [(Fs2.2.1 39 (by decide))]; exact hp2)) (fun r4 er4 hr4 => ?_)
  have hr4_0 := hr4
  have hr4_0 : 0 ≤ r4 ∧ r4 ≤ 48 := hr4_0
  refine wp_bn (w_x12_drops hRs2 (by show 0 ≤ p0 ∧ p0 < 8; omega) (T2) (by rw [e2]; exact hp3)) (fun s6 es6 hs6 => ?_)
  have Fs6 : F_x12_drops s2 s6 := fr_x12_drops es6
  obtain ⟨hRs6, hs6_0, hs6_1, hs6_2, hs6_3⟩ := hs6
  have hs6_0 : RT s6 := hs6_0
  have hs6_1 : ∀ j, 785 ≤ j → gA s6 49 j = gA s2 49 j := hs6_1
  have hs6_2 : ∀ u, u < 17 → u ≠ p0.toNat → gA s6 49 u = gA s2 49 u := hs6_2
  have hs6_3 : gA s6 49 p0.toNat = 255 := hs6_3
  refine wp_bn (w_x12_usedMany hRs6 (by rw [((Fs6.2.1 39 (by decide)).trans (Fs2.2.1 39 (by decide)))]; exact hp2)) (fun r8 er8 hr8 => ?_)
  have hr8_0 := hr8
  have hr8_0 : 0 ≤ r8 ∧ r8 ≤ 48 := hr8_0
  refine wp_bn (w_x12_takesBack hRs6) (fun s10 es10 hs10 => ?_)
  have Fs10 : F_x12_takesBack s6 s10 := fr_x12_takesBack es10
  obtain ⟨hRs10, hs10_0, hs10_1⟩ := hs10
  have hs10_0 : ∀ j, j < 785 → gA s10 49 j = gA s6 61 j := hs10_0
  have hs10_1 : ∀ j, 785 ≤ j → gA s10 49 j = gA s6 49 j := hs10_1
  exact wp_some ⟨hRs10, by show R2 (r4 - r8); omega, by
      show gA s10 49 = gA s 49
      funext j
      by_cases z : j < 785
      · rw [hs10_0 j z, ((Fs6.2.1 61 (by decide)))]; exact hs2_0 j z
      · rw [hs10_1 j (by omega), hs6_1 j (by omega), e2]⟩
set_option maxHeartbeats 1000000 in
theorem w_x12_laysWrites {p0 : Int} {p1 : Int} {s : MS} (hRs : Rr s) (hp0 : 0 ≤ p0 ∧ p0 < 8) (hp1 : 0 ≤ p1 ∧ p1 ≤ 999) (hp2 : GN s) (hp3 : 0 ≤ gA s 49 p0.toNat ∧ gA s 49 p0.toNat ≤ 254) : wp (m_x12_laysWrites p0 p1 s) (fun o => (Rr o) ∧ (gA o 49 = gA s 49)) := by
  have J56 : ∀ (s1 : MS), Rr s1 → (∀ j, j < 785 → gA s1 61 j = gA s 49 j) → (∀ j, 785 ≤ j → gA s1 49 j = gA s 49 j) → wp (m_x12_laysWrites_J56 s1) (fun o => (Rr o) ∧ (gA o 49 = gA s 49)) := by
    intro s1 hRs1 hj56_0 hj56_1
    unfold m_x12_laysWrites_J56
    refine wp_bn (w_x12_takesBack hRs1) (fun s3 es3 hs3 => ?_)
    have Fs3 : F_x12_takesBack s1 s3 := fr_x12_takesBack es3
    obtain ⟨hRs3, hs3_0, hs3_1⟩ := hs3
    have hs3_0 : ∀ j, j < 785 → gA s3 49 j = gA s1 61 j := hs3_0
    have hs3_1 : ∀ j, 785 ≤ j → gA s3 49 j = gA s1 49 j := hs3_1
    exact wp_some ⟨hRs3, by
      funext j
      by_cases z : j < 785
      · rw [hs3_0 j z]; exact hj56_0 j z
      · rw [hs3_1 j (by omega)]; exact hj56_1 j (by omega)⟩
  have J34 : ∀ (x4 : Int) (x5 : Int) (x6 : Int) (x7 : Int) (s8 : MS), Rr s8 → (x6 = p0 ∧ x5 = p1 ∧ x7 = 2 ∧ (0 ≤ x4 ∧ x4 ≤ 1)) → (gA s8 49 = gA s 49 ∧ KR s s8) → (∀ j, j < 785 → gA s8 61 j = gA s 49 j) → wp (m_x12_laysWrites_J34 x4 x5 x6 x7 s8) (fun o => (Rr o) ∧ (gA o 49 = gA s 49)) := by
    intro x4 x5 x6 x7 s8 hRs8 hj34_0 hj34_1 hj34_2
    unfold m_x12_laysWrites_J34
    have G8 : GN s8 := GN_x hp2 hj34_1.2 (fun j _ _ => by rw [hj34_1.1])
    refine wp_bn (w_x12_tries hRs8 (by show x7 = 2 ∨ x7 = 3; omega) (by show 0 ≤ x6 ∧ x6 < 8; omega) (G8.1.1) (G8.2.2.1) (G8.2.2.2.1) (by have := G8.2.1.1; omega) (G8.2.1.2) (by rw [hj34_1.1, hj34_0.1]; omega) (by show x7 = 2 → (0 ≤ x5 ∧ x5 ≤ 999) ∧ (0 ≤ x4 ∧ x4 ≤ 999); omega) (by show R2 x5; omega) (by show R2 x4; omega)) (fun qqr11 eqr11s hqr11s => ?_)
    obtain ⟨qr11r, qr11s⟩ := qqr11
    dsimp only at eqr11s hqr11s ⊢
    have Fqr11s : F_x12_tries s8 qr11s := fr_x12_tries eqr11s
    obtain ⟨hRqr11s, hqr11s_0, hqr11s_1, hqr11s_2, hqr11s_3, hqr11s_4⟩ := hqr11s
    have hqr11s_0 : qr11r = 0 ∨ qr11r = 1 := hqr11s_0
    have hqr11s_1 : KS s8 qr11s := hqr11s_1
    have hqr11s_2 : RT qr11s := hqr11s_2
    have hqr11s_3 : RW0 s8 qr11s x6.toNat := hqr11s_3
    have hqr11s_4 : qr11r = 0 → ∀ j, gA qr11s 49 j = gA s8 49 j := hqr11s_4
    have W11 : RW0 s8 qr11s p0.toNat := by have z := hqr11s_3; rw [hj34_0.1] at z; exact z
    have G11 : GN qr11s := GN_k G8 hqr11s_1.1 hqr11s_2 (RB_w G8.1.2 (by omega) W11)
    refine wp_rg (by omega) ?_
    refine wp_if (fun c1 => ?_) (fun c1 => ?_)
    · skip
      exact J56 qr11s hRqr11s (fun j hj => by rw [(Fqr11s.2.1 61 (by decide))]; exact hj34_2 j hj) (fun j hj => by rw [hqr11s_1.2 j hj, hj34_1.1])
    · skip
      refine wp_bn (w_x12_writtenMany hRqr11s (by have := G11.2.1.1; omega)) (fun r15 er15 hr15 => ?_)
      have hr15_0 := hr15
      have hr15_0 : 0 ≤ r15 ∧ r15 ≤ 48 := hr15_0
      refine wp_stn (fun s16 es16 => ?_)
      have hRs16 : Rr s16 := es16 ▸ Rr.uI hRqr11s (by show (-2147483648 : Int) ≤ r15 ∧ r15 ≤ 2147483647; omega)
      refine wp_bn (w_x12_writtenCost hRs16 (GN_x G11 ⟨(q_Ia es16 : gA s16 39 = gA qr11s 39), (q_Ia es16 : gA s16 42 = gA qr11s 42), (q_Ia es16 : gA s16 43 = gA qr11s 43), (q_Ia es16 : gA s16 44 = gA qr11s 44)⟩ (fun j _ _ => by rw [(q_Ia es16 : gA s16 49 = gA qr11s 49)]))) (fun qqr19 eqr19s hqr19s => ?_)
      obtain ⟨qr19r, qr19s⟩ := qqr19
      dsimp only at eqr19s hqr19s ⊢
      have Fqr19s : F_x12_writtenCost s16 qr19s := fr_x12_writtenCost eqr19s
      obtain ⟨hRqr19s, hqr19s_0⟩ := hqr19s
      have hqr19s_0 : 0 ≤ qr19r ∧ qr19r ≤ 4752 := hqr19s_0
      refine wp_stn (fun s20 es20 => ?_)
      have hRs20 : Rr s20 := es20 ▸ Rr.uI hRqr19s (by show (-2147483648 : Int) ≤ qr19r ∧ qr19r ≤ 2147483647; omega)
      exact J56 s20 hRs20 (fun j hj => by rw [((q_Ia es20 : gA s20 61 = gA qr19s 61).trans ((Fqr19s.2.1 61 (by decide)).trans ((q_Ia es16 : gA s16 61 = gA qr11s 61).trans (Fqr11s.2.1 61 (by decide)))))]; exact hj34_2 j hj) (fun j hj => by rw [(((q_Ia es20 : gA s20 49 = gA qr19s 49).trans ((Fqr19s.2.1 49 (by decide)).trans (q_Ia es16 : gA s16 49 = gA qr11s 49)))), hqr11s_1.2 j hj, hj34_1.1])
  unfold m_x12_laysWrites
  refine wp_stn (fun s21 es21 => ?_)
  have hRs21 : Rr s21 := es21 ▸ Rr.uI hRs (by show (-2147483648 : Int) ≤ (-1 : Int) ∧ (-1 : Int) ≤ 2147483647; omega)
  refine wp_stn (fun s22 es22 => ?_)
  have hRs22 : Rr s22 := es22 ▸ Rr.uI hRs21 (by show (-2147483648 : Int) ≤ (-1 : Int) ∧ (-1 : Int) ≤ 2147483647; omega)
  refine wp_bn (w_x12_valueOf hRs22 (by show 0 ≤ p0 ∧ p0 < 8; omega) (by show R2 p1; omega) (RT_x hp2.1.1 (fun k _ => by rw [((q_Ia es22 : gA s22 49 = gA s21 49).trans (q_Ia es21 : gA s21 49 = gA s 49))]) (by rw [((q_Ia es22 : gA s22 39 = gA s21 39).trans (q_Ia es21 : gA s21 39 = gA s 39))]) (by rw [((q_Ia es22 : gA s22 39 = gA s21 39).trans (q_Ia es21 : gA s21 39 = gA s 39))])) (by rw [((q_Ia es22 : gA s22 49 = gA s21 49).trans (q_Ia es21 : gA s21 49 = gA s 49))]; omega)) (fun r24 er24 hr24 => ?_)
  obtain ⟨hr24_0, hr24_1⟩ := hr24
  have hr24_0 : R2 r24 := hr24_0
  have hr24_1 : r24 = -1 ∨ gA s22 49 p0.toNat < 254 := hr24_1
  have q24 := hr24_0
  refine wp_bn (w_x12_putsAside hRs22) (fun s26 es26 hs26 => ?_)
  have Fs26 : F_x12_putsAside s22 s26 := fr_x12_putsAside es26
  obtain ⟨hRs26, hs26_0⟩ := hs26
  have hs26_0 : ∀ j, j < 785 → gA s26 61 j = gA s22 49 j := hs26_0
  refine wp_rg (by omega) ?_
  refine wp_if (fun c2 => ?_) (fun c2 => ?_)
  · skip
    exact J34 1 p1 p0 2 s26 hRs26 (by show p0 = p0 ∧ p1 = p1 ∧ (2 : Int) = 2 ∧ (0 ≤ (1 : Int) ∧ (1 : Int) ≤ 1); omega) (⟨((Fs26.2.1 49 (by decide)).trans ((q_Ia es22 : gA s22 49 = gA s21 49).trans (q_Ia es21 : gA s21 49 = gA s 49))), ⟨((Fs26.2.1 39 (by decide)).trans ((q_Ia es22 : gA s22 39 = gA s21 39).trans (q_Ia es21 : gA s21 39 = gA s 39))), ((Fs26.2.1 42 (by decide)).trans ((q_Ia es22 : gA s22 42 = gA s21 42).trans (q_Ia es21 : gA s21 42 = gA s 42))), ((Fs26.2.1 43 (by decide)).trans ((q_Ia es22 : gA s22 43 = gA s21 43).trans (q_Ia es21 : gA s21 43 = gA s 43))), ((Fs26.2.1 44 (by decide)).trans ((q_Ia es22 : gA s22 44 = gA s21 44).trans (q_Ia es21 : gA s21 44 = gA s 44)))⟩⟩) (fun j hj => by rw [hs26_0 j hj, (((q_Ia es22 : gA s22 49 = gA s21 49).trans (q_Ia es21 : gA s21 49 = gA s 49)))])
  · skip
    exact J34 0 p1 p0 2 s26 hRs26 (by show p0 = p0 ∧ p1 = p1 ∧ (2 : Int) = 2 ∧ (0 ≤ (0 : Int) ∧ (0 : Int) ≤ 1); omega) (⟨((Fs26.2.1 49 (by decide)).trans ((q_Ia es22 : gA s22 49 = gA s21 49).trans (q_Ia es21 : gA s21 49 = gA s 49))), ⟨((Fs26.2.1 39 (by decide)).trans ((q_Ia es22 : gA s22 39 = gA s21 39).trans (q_Ia es21 : gA s21 39 = gA s 39))), ((Fs26.2.1 42 (by decide)).trans ((q_Ia es22 : gA s22 42 = gA s21 42).trans (q_Ia es21 : gA s21 42 = gA s 42))), ((Fs26.2.1 43 (by decide)).trans ((q_Ia es22 : gA s22 43 = gA s21 43).trans (q_Ia es21 : gA s21 43 = gA s 43))), ((Fs26.2.1 44 (by decide)).trans ((q_Ia es22 : gA s22 44 = gA s21 44).trans (q_Ia es21 : gA s21 44 = gA s 44)))⟩⟩) (fun j hj => by rw [hs26_0 j hj, (((q_Ia es22 : gA s22 49 = gA s21 49).trans (q_Ia es21 : gA s21 49 = gA s 49)))])
set_option maxHeartbeats 1000000 in
theorem w_x12_volume {p0 : Int} {p1 : Int} {s : MS} (hRs : Rr s) (hp0 : R2 p0) (hp1 : R2 p1) (hp2 : JI s) : wp (m_x12_volume p0 p1 s) (fun q => (Rr q.2) ∧ (JI q.2) ∧ (gI q.2 1 = gI s 1)) := by
  have hpJ := hp2
  unfold m_x12_volume
  refine wp_rg (by omega) ?_
  refine wp_bn (wv_x12_isVolume hRs (by show R8 p0; omega)) (fun r7 er7 hr7 => ?_)
  obtain ⟨hr7_0, hr7_1⟩ := hr7
  have hr7_0 : (r7 = 1 ∧ (0 ≤ p0 ∧ p0 < 8) ∧ gI s 47 ≠ 0 ∧ gA s 49 p0.toNat ≠ 255) ∨ r7 = 0 := hr7_0
  have hr7_1 : 0 ≤ p0 ∧ p0 < 8 → r7 = ivol s p0.toNat := hr7_1
  refine wp_rg (by have : (0 : Int) ≤ gI s 47 ∧ gI s 47 ≤ 1 := hRs.1 47; omega) ?_
  refine wp_if (fun c1 => ?_) (fun c1 => ?_)
  · skip
    exact wp_some ⟨hRs, by show JI s; exact (hpJ), by show gI s 1 = gI s 1; have : (0 : Int) ≤ gI s 47 ∧ gI s 47 ≤ 1 := hRs.1 47; have : (0 : Int) ≤ gI s 1 ∧ gI s 1 ≤ 1600 := hRs.1 1; omega⟩
  · skip
    have kG := JI_GA hpJ (by omega)
    have kb := kG.1.1.2 p0.toNat (by omega)
    refine wp_rdIn (by have : (0 : Int) ≤ gI s 47 ∧ gI s 47 ≤ 1 := hRs.1 47; omega) (fun y10 ey10 => ?_)
    have by10 : (-2147483648 : Int) ≤ y10 ∧ y10 ≤ 2147483647 := ey10 ▸ hRs.2.1 49 _ (by show _ < 906; have : (0 : Int) ≤ gI s 47 ∧ gI s 47 ≤ 1 := hRs.1 47; omega)
    have k10 : gA s 49 p0.toNat = y10 := ey10
    refine wp_bn (mt_laysTree hRs (kG.1.1.1) (by show R2 y10; have : (0 : Int) ≤ gI s 47 ∧ gI s 47 ≤ 1 := hRs.1 47; omega) (fun h9 => by have z := RT_tree (u := p0.toNat) kG.1.1.1 (by omega) (by omega) (by omega); have z2 := RT_root (u := p0.toNat) kG.1.1.1 (by omega) (by omega) (by omega); rw [k10] at z z2; exact ⟨by omega, z⟩)) (fun s12 es12 hs12 => ?_)
    have Fs12 : F_x12_laysTree s s12 := fr_x12_laysTree es12
    obtain ⟨hRs12, hs12_0, hs12_1⟩ := hs12
    have hs12_0 : F_x12_laysTree s s12 := hs12_0
    have hs12_1 : 254 ≤ y10 → gI s12 67 = 0 := hs12_1
    have e12 : gA s12 49 = gA s 49 := (Fs12.2.1 49 (by decide))
    have e39 : gA s12 39 = gA s 39 := (Fs12.2.1 39 (by decide))
    refine wp_rg (by have : (0 : Int) ≤ gI s12 67 ∧ gI s12 67 ≤ 300 := hRs12.1 67; have : (0 : Int) ≤ gI s 47 ∧ gI s 47 ≤ 1 := hRs.1 47; omega) ?_
    refine wp_if (fun c2 => ?_) (fun c2 => ?_)
    · skip
      refine wp_rg (by have : (0 : Int) ≤ gI s12 67 ∧ gI s12 67 ≤ 300 := hRs12.1 67; have : (0 : Int) ≤ gI s 47 ∧ gI s 47 ≤ 1 := hRs.1 47; omega) ?_
      refine wp_if (fun c3 => ?_) (fun c3 => ?_)
      · skip
        unfold m_x12_volume_J72
        exact wp_some ⟨hRs12, by show JI s12; exact (JI_eq hpJ ⟨(Fs12.2.1 39 (by decide)), (Fs12.2.1 42 (by decide)), (Fs12.2.1 43 (by decide)), (Fs12.2.1 44 (by decide))⟩ (Fs12.2.1 49 (by decide)) (Fs12.2.1 75 (by decide)) (Fs12.1 76 (by decide)) (Fs12.1 77 (by decide)) (Fs12.1 47 (by decide)) (Fs12.2.2.1 78 (by decide))), by show gI s12 1 = gI s 1; have : (0 : Int) ≤ gI s12 67 ∧ gI s12 67 ≤ 300 := hRs12.1 67; have : (0 : Int) ≤ gI s 47 ∧ gI s 47 ≤ 1 := hRs.1 47; have : (0 : Int) ≤ gI s 1 ∧ gI s 1 ≤ 1600 := hRs.1 1; have : gI s12 1 = gI s 1 := Fs12.1 1 (by decide); omega⟩
      · skip
        unfold m_x12_volume_J72
        exact wp_some ⟨hRs12, by show JI s12; exact (JI_eq hpJ ⟨(Fs12.2.1 39 (by decide)), (Fs12.2.1 42 (by decide)), (Fs12.2.1 43 (by decide)), (Fs12.2.1 44 (by decide))⟩ (Fs12.2.1 49 (by decide)) (Fs12.2.1 75 (by decide)) (Fs12.1 76 (by decide)) (Fs12.1 77 (by decide)) (Fs12.1 47 (by decide)) (Fs12.2.2.1 78 (by decide))), by show gI s12 1 = gI s 1; have : (0 : Int) ≤ gI s12 67 ∧ gI s12 67 ≤ 300 := hRs12.1 67; have : (0 : Int) ≤ gI s 47 ∧ gI s 47 ≤ 1 := hRs.1 47; have : (0 : Int) ≤ gI s 1 ∧ gI s 1 ≤ 1600 := hRs.1 1; have : gI s12 1 = gI s 1 := Fs12.1 1 (by decide); omega⟩
    · skip
      refine wp_if (fun c4 => ?_) (fun c4 => ?_)
      · skip
        exact wp_some ⟨hRs12, by show JI s12; exact (JI_eq hpJ ⟨(Fs12.2.1 39 (by decide)), (Fs12.2.1 42 (by decide)), (Fs12.2.1 43 (by decide)), (Fs12.2.1 44 (by decide))⟩ (Fs12.2.1 49 (by decide)) (Fs12.2.1 75 (by decide)) (Fs12.1 76 (by decide)) (Fs12.1 77 (by decide)) (Fs12.1 47 (by decide)) (Fs12.2.2.1 78 (by decide))), by show gI s12 1 = gI s 1; have : (0 : Int) ≤ gI s12 67 ∧ gI s12 67 ≤ 300 := hRs12.1 67; have : (0 : Int) ≤ gI s 47 ∧ gI s 47 ≤ 1 := hRs.1 47; have : (0 : Int) ≤ gI s 1 ∧ gI s 1 ≤ 1600 := hRs.1 1; have : gI s12 1 = gI s 1 := Fs12.1 1 (by decide); omega⟩
      · skip
        refine wp_if (fun c5 => ?_) (fun c5 => ?_)
        · skip
          refine wp_rg (by have : (0 : Int) ≤ gI s12 67 ∧ gI s12 67 ≤ 300 := hRs12.1 67; have : (0 : Int) ≤ gI s 47 ∧ gI s 47 ≤ 1 := hRs.1 47; omega) ?_
          refine wp_if (fun c6 => ?_) (fun c6 => ?_)
          · skip
            unfold m_x12_volume_J96
            exact wp_some ⟨hRs12, by show JI s12; exact (JI_eq hpJ ⟨(Fs12.2.1 39 (by decide)), (Fs12.2.1 42 (by decide)), (Fs12.2.1 43 (by decide)), (Fs12.2.1 44 (by decide))⟩ (Fs12.2.1 49 (by decide)) (Fs12.2.1 75 (by decide)) (Fs12.1 76 (by decide)) (Fs12.1 77 (by decide)) (Fs12.1 47 (by decide)) (Fs12.2.2.1 78 (by decide))), by show gI s12 1 = gI s 1; have : (0 : Int) ≤ gI s12 67 ∧ gI s12 67 ≤ 300 := hRs12.1 67; have : (0 : Int) ≤ gI s 47 ∧ gI s 47 ≤ 1 := hRs.1 47; have : (0 : Int) ≤ gI s 1 ∧ gI s 1 ≤ 1600 := hRs.1 1; have : gI s12 1 = gI s 1 := Fs12.1 1 (by decide); omega⟩
          · skip
            refine wp_bn (w_x12_levelOf hRs12 (by show 0 ≤ y10 ∧ y10 < 48; have : (0 : Int) ≤ gI s12 67 ∧ gI s12 67 ≤ 300 := hRs12.1 67; have : (0 : Int) ≤ gI s 47 ∧ gI s 47 ≤ 1 := hRs.1 47; have kr := RT_root (u := p0.toNat) kG.1.1.1 (by omega) (by omega) (by omega); omega)) (fun r22 er22 hr22 => ?_)
            obtain ⟨hr22_0, hr22_1⟩ := hr22
            have hr22_0 : r22 = (hM s12).1 y10.toNat := hr22_0
            have hr22_1 : R2 r22 := hr22_1
            unfold m_x12_volume_J96
            exact wp_some ⟨hRs12, by show JI s12; exact (JI_eq hpJ ⟨(Fs12.2.1 39 (by decide)), (Fs12.2.1 42 (by decide)), (Fs12.2.1 43 (by decide)), (Fs12.2.1 44 (by decide))⟩ (Fs12.2.1 49 (by decide)) (Fs12.2.1 75 (by decide)) (Fs12.1 76 (by decide)) (Fs12.1 77 (by decide)) (Fs12.1 47 (by decide)) (Fs12.2.2.1 78 (by decide))), by show gI s12 1 = gI s 1; have : (0 : Int) ≤ gI s12 67 ∧ gI s12 67 ≤ 300 := hRs12.1 67; have : (0 : Int) ≤ gI s 47 ∧ gI s 47 ≤ 1 := hRs.1 47; have : (0 : Int) ≤ gI s 1 ∧ gI s 1 ≤ 1600 := hRs.1 1; have : gI s12 1 = gI s 1 := Fs12.1 1 (by decide); omega⟩
        · skip
          refine wp_if (fun c7 => ?_) (fun c7 => ?_)
          · skip
            exact wp_some ⟨hRs12, by show JI s12; exact (JI_eq hpJ ⟨(Fs12.2.1 39 (by decide)), (Fs12.2.1 42 (by decide)), (Fs12.2.1 43 (by decide)), (Fs12.2.1 44 (by decide))⟩ (Fs12.2.1 49 (by decide)) (Fs12.2.1 75 (by decide)) (Fs12.1 76 (by decide)) (Fs12.1 77 (by decide)) (Fs12.1 47 (by decide)) (Fs12.2.2.1 78 (by decide))), by show gI s12 1 = gI s 1; have : (0 : Int) ≤ gI s12 67 ∧ gI s12 67 ≤ 300 := hRs12.1 67; have : (0 : Int) ≤ gI s 47 ∧ gI s 47 ≤ 1 := hRs.1 47; have : (0 : Int) ≤ gI s 1 ∧ gI s 1 ≤ 1600 := hRs.1 1; have : gI s12 1 = gI s 1 := Fs12.1 1 (by decide); omega⟩
          · skip
            refine wp_if (fun c8 => ?_) (fun c8 => ?_)
            · skip
              refine wp_bn (w_x12_dropsMany hRs12 (by show 0 ≤ p0 ∧ p0 < 8; have : (0 : Int) ≤ gI s12 67 ∧ gI s12 67 ≤ 300 := hRs12.1 67; have : (0 : Int) ≤ gI s 47 ∧ gI s 47 ≤ 1 := hRs.1 47; omega) (RT_x kG.1.1.1 (fun k _ => by rw [e12]) (by rw [e39]) (by rw [e39])) (by rw [e39]; exact JI_N hpJ) (by rw [e12]; omega)) (fun qqr27 eqr27s hqr27s => ?_)
              obtain ⟨qr27r, qr27s⟩ := qqr27
              dsimp only at eqr27s hqr27s ⊢
              have Fqr27s : F_x12_dropsMany s12 qr27s := fr_x12_dropsMany eqr27s
              obtain ⟨hRqr27s, hqr27s_0, hqr27s_1⟩ := hqr27s
              have hqr27s_0 : R2 qr27r := hqr27s_0
              have hqr27s_1 : gA qr27s 49 = gA s12 49 := hqr27s_1
              exact wp_some ⟨hRqr27s, by show JI qr27s; exact (JI_eq hpJ ⟨((Fqr27s.2.1 39 (by decide)).trans (Fs12.2.1 39 (by decide))), ((Fqr27s.2.1 42 (by decide)).trans (Fs12.2.1 42 (by decide))), ((Fqr27s.2.1 43 (by decide)).trans (Fs12.2.1 43 (by decide))), ((Fqr27s.2.1 44 (by decide)).trans (Fs12.2.1 44 (by decide)))⟩ (hqr27s_1.trans e12) ((Fqr27s.2.1 75 (by decide)).trans (Fs12.2.1 75 (by decide))) ((Fqr27s.1 76 (by decide)).trans (Fs12.1 76 (by decide))) ((Fqr27s.1 77 (by decide)).trans (Fs12.1 77 (by decide))) ((Fqr27s.1 47 (by decide)).trans (Fs12.1 47 (by decide))) ((Fqr27s.2.2.1 78 (by decide)).trans (Fs12.2.2.1 78 (by decide)))), by show gI qr27s 1 = gI s 1; have : (0 : Int) ≤ gI s12 67 ∧ gI s12 67 ≤ 300 := hRs12.1 67; have : (0 : Int) ≤ gI s 47 ∧ gI s 47 ≤ 1 := hRs.1 47; have : (0 : Int) ≤ gI s 1 ∧ gI s 1 ≤ 1600 := hRs.1 1; have : gI qr27s 1 = gI s12 1 := Fqr27s.1 1 (by decide); have : gI s12 1 = gI s 1 := Fs12.1 1 (by decide); omega⟩
            · skip
              exact wp_some ⟨hRs12, by show JI s12; exact (JI_eq hpJ ⟨(Fs12.2.1 39 (by decide)), (Fs12.2.1 42 (by decide)), (Fs12.2.1 43 (by decide)), (Fs12.2.1 44 (by decide))⟩ (Fs12.2.1 49 (by decide)) (Fs12.2.1 75 (by decide)) (Fs12.1 76 (by decide)) (Fs12.1 77 (by decide)) (Fs12.1 47 (by decide)) (Fs12.2.2.1 78 (by decide))), by show gI s12 1 = gI s 1; have : (0 : Int) ≤ gI s12 67 ∧ gI s12 67 ≤ 300 := hRs12.1 67; have : (0 : Int) ≤ gI s 47 ∧ gI s 47 ≤ 1 := hRs.1 47; have : (0 : Int) ≤ gI s 1 ∧ gI s 1 ≤ 1600 := hRs.1 1; have : gI s12 1 = gI s 1 := Fs12.1 1 (by decide); omega⟩
set_option maxHeartbeats 1000000 in
theorem w_x12_key {p0 : Int} {p1 : Int} {s : MS} (hRs : Rr s) (hp0 : R2 p0) (hp1 : R2 p1) (hp2 : JI s) : wp (m_x12_key p0 p1 s) (fun q => (Rr q.2) ∧ (JI q.2) ∧ (gI q.2 1 = gI s 1)) := by
  have hpJ := hp2
  unfold m_x12_key
  refine wp_rg (by omega) ?_
  refine wp_bn (wv_x12_isVolume hRs (by show R8 p0; omega)) (fun r5 er5 hr5 => ?_)
  obtain ⟨hr5_0, hr5_1⟩ := hr5
  have hr5_0 : (r5 = 1 ∧ (0 ≤ p0 ∧ p0 < 8) ∧ gI s 47 ≠ 0 ∧ gA s 49 p0.toNat ≠ 255) ∨ r5 = 0 := hr5_0
  have hr5_1 : 0 ≤ p0 ∧ p0 < 8 → r5 = ivol s p0.toNat := hr5_1
  refine wp_rg (by have : (0 : Int) ≤ gI s 47 ∧ gI s 47 ≤ 1 := hRs.1 47; omega) ?_
  refine wp_if (fun c1 => ?_) (fun c1 => ?_)
  · skip
    exact wp_some ⟨hRs, by show JI s; exact (hpJ), by show gI s 1 = gI s 1; have : (0 : Int) ≤ gI s 47 ∧ gI s 47 ≤ 1 := hRs.1 47; have : (0 : Int) ≤ gI s 1 ∧ gI s 1 ≤ 1600 := hRs.1 1; omega⟩
  · skip
    have kG := JI_GA hpJ (by omega)
    have kb := kG.1.1.2 p0.toNat (by omega)
    refine wp_rdIn (by have : (0 : Int) ≤ gI s 47 ∧ gI s 47 ≤ 1 := hRs.1 47; omega) (fun y8 ey8 => ?_)
    have by8 : (-2147483648 : Int) ≤ y8 ∧ y8 ≤ 2147483647 := ey8 ▸ hRs.2.1 49 _ (by show _ < 906; have : (0 : Int) ≤ gI s 47 ∧ gI s 47 ≤ 1 := hRs.1 47; omega)
    have k8 : gA s 49 p0.toNat = y8 := ey8
    refine wp_bn (mt_laysTree hRs (kG.1.1.1) (by show R2 y8; have : (0 : Int) ≤ gI s 47 ∧ gI s 47 ≤ 1 := hRs.1 47; omega) (fun h9 => by have z := RT_tree (u := p0.toNat) kG.1.1.1 (by omega) (by omega) (by omega); have z2 := RT_root (u := p0.toNat) kG.1.1.1 (by omega) (by omega) (by omega); rw [k8] at z z2; exact ⟨by omega, z⟩)) (fun s10 es10 hs10 => ?_)
    have Fs10 : F_x12_laysTree s s10 := fr_x12_laysTree es10
    obtain ⟨hRs10, hs10_0, hs10_1⟩ := hs10
    have hs10_0 : F_x12_laysTree s s10 := hs10_0
    have hs10_1 : 254 ≤ y8 → gI s10 67 = 0 := hs10_1
    refine wp_rg (by have : (0 : Int) ≤ gI s10 67 ∧ gI s10 67 ≤ 300 := hRs10.1 67; have : (0 : Int) ≤ gI s 47 ∧ gI s 47 ≤ 1 := hRs.1 47; omega) ?_
    refine wp_rg (by have : (0 : Int) ≤ gI s 47 ∧ gI s 47 ≤ 1 := hRs.1 47; have : (0 : Int) ≤ gI s10 67 ∧ gI s10 67 ≤ 300 := hRs10.1 67; omega) ?_
    refine wp_bn (w_x12_isIn hRs10 (by show R8 p1; have : (0 : Int) ≤ gI s10 67 ∧ gI s10 67 ≤ 300 := hRs10.1 67; have : (0 : Int) ≤ gI s 47 ∧ gI s 47 ≤ 1 := hRs.1 47; omega) (by show R8 (0 : Int); have : (0 : Int) ≤ gI s10 67 ∧ gI s10 67 ≤ 300 := hRs10.1 67; have : (0 : Int) ≤ gI s 47 ∧ gI s 47 ≤ 1 := hRs.1 47; omega) (by show R8 ((gI s10 67) - 1); have : (0 : Int) ≤ gI s 47 ∧ gI s 47 ≤ 1 := hRs.1 47; have : (0 : Int) ≤ gI s10 67 ∧ gI s10 67 ≤ 300 := hRs10.1 67; omega)) (fun r14 er14 hr14 => ?_)
    have hr14_0 := hr14
    have hr14_0 : (r14 = 1 ∧ (0 : Int) ≤ p1 ∧ p1 ≤ ((gI s10 67) - 1)) ∨ (r14 = 0 ∧ (p1 < (0 : Int) ∨ ((gI s10 67) - 1) < p1)) := hr14_0
    refine wp_rg (by have : (0 : Int) ≤ gI s10 67 ∧ gI s10 67 ≤ 300 := hRs10.1 67; have : (0 : Int) ≤ gI s 47 ∧ gI s 47 ≤ 1 := hRs.1 47; omega) ?_
    refine wp_if (fun c2 => ?_) (fun c2 => ?_)
    · skip
      unfold m_x12_key_J47
      exact wp_some ⟨hRs10, by show JI s10; exact (JI_eq hpJ ⟨(Fs10.2.1 39 (by decide)), (Fs10.2.1 42 (by decide)), (Fs10.2.1 43 (by decide)), (Fs10.2.1 44 (by decide))⟩ (Fs10.2.1 49 (by decide)) (Fs10.2.1 75 (by decide)) (Fs10.1 76 (by decide)) (Fs10.1 77 (by decide)) (Fs10.1 47 (by decide)) (Fs10.2.2.1 78 (by decide))), by show gI s10 1 = gI s 1; have : (0 : Int) ≤ gI s10 67 ∧ gI s10 67 ≤ 300 := hRs10.1 67; have : (0 : Int) ≤ gI s 47 ∧ gI s 47 ≤ 1 := hRs.1 47; have : (0 : Int) ≤ gI s 1 ∧ gI s 1 ≤ 1600 := hRs.1 1; have : gI s10 1 = gI s 1 := Fs10.1 1 (by decide); omega⟩
    · skip
      refine wp_rdIn (by have : (0 : Int) ≤ gI s10 67 ∧ gI s10 67 ≤ 300 := hRs10.1 67; have : (0 : Int) ≤ gI s 47 ∧ gI s 47 ≤ 1 := hRs.1 47; omega) (fun y17 ey17 => ?_)
      have by17 : (-2147483648 : Int) ≤ y17 ∧ y17 ≤ 2147483647 := ey17 ▸ hRs10.2.1 64 _ (by show _ < 300; have : (0 : Int) ≤ gI s10 67 ∧ gI s10 67 ≤ 300 := hRs10.1 67; have : (0 : Int) ≤ gI s 47 ∧ gI s 47 ≤ 1 := hRs.1 47; omega)
      unfold m_x12_key_J47
      exact wp_some ⟨hRs10, by show JI s10; exact (JI_eq hpJ ⟨(Fs10.2.1 39 (by decide)), (Fs10.2.1 42 (by decide)), (Fs10.2.1 43 (by decide)), (Fs10.2.1 44 (by decide))⟩ (Fs10.2.1 49 (by decide)) (Fs10.2.1 75 (by decide)) (Fs10.1 76 (by decide)) (Fs10.1 77 (by decide)) (Fs10.1 47 (by decide)) (Fs10.2.2.1 78 (by decide))), by show gI s10 1 = gI s 1; have : (0 : Int) ≤ gI s10 67 ∧ gI s10 67 ≤ 300 := hRs10.1 67; have : (0 : Int) ≤ gI s 47 ∧ gI s 47 ≤ 1 := hRs.1 47; have : (0 : Int) ≤ gI s 1 ∧ gI s 1 ≤ 1600 := hRs.1 1; have : gI s10 1 = gI s 1 := Fs10.1 1 (by decide); omega⟩
set_option maxHeartbeats 1000000 in
theorem w_x12_total {p0 : Int} {p1 : Int} {p2 : Int} {s : MS} (hRs : Rr s) (hp0 : R2 p0) (hp1 : R2 p1) (hp2 : R2 p2) (hp3 : JI s) : wp (m_x12_total p0 p1 p2 s) (fun q => (Rr q.2) ∧ (JI q.2) ∧ (gI q.2 1 = gI s 1)) := by
  have hpJ := hp3
  unfold m_x12_total
  refine wp_rg (by omega) ?_
  refine wp_bn (wv_x12_isVolume hRs (by show R8 p0; omega)) (fun r25 er25 hr25 => ?_)
  obtain ⟨hr25_0, hr25_1⟩ := hr25
  have hr25_0 : (r25 = 1 ∧ (0 ≤ p0 ∧ p0 < 8) ∧ gI s 47 ≠ 0 ∧ gA s 49 p0.toNat ≠ 255) ∨ r25 = 0 := hr25_0
  have hr25_1 : 0 ≤ p0 ∧ p0 < 8 → r25 = ivol s p0.toNat := hr25_1
  refine wp_rg (by have : (0 : Int) ≤ gI s 47 ∧ gI s 47 ≤ 1 := hRs.1 47; omega) ?_
  refine wp_if (fun c1 => ?_) (fun c1 => ?_)
  · skip
    exact wp_some ⟨hRs, by show JI s; exact (hpJ), by show gI s 1 = gI s 1; have : (0 : Int) ≤ gI s 47 ∧ gI s 47 ≤ 1 := hRs.1 47; have : (0 : Int) ≤ gI s 1 ∧ gI s 1 ≤ 1600 := hRs.1 1; omega⟩
  · skip
    have kG := JI_GA hpJ (by omega)
    have kb := kG.1.1.2 p0.toNat (by omega)
    refine wp_rdIn (by have : (0 : Int) ≤ gI s 47 ∧ gI s 47 ≤ 1 := hRs.1 47; omega) (fun y28 ey28 => ?_)
    have by28 : (-2147483648 : Int) ≤ y28 ∧ y28 ≤ 2147483647 := ey28 ▸ hRs.2.1 49 _ (by show _ < 906; have : (0 : Int) ≤ gI s 47 ∧ gI s 47 ≤ 1 := hRs.1 47; omega)
    have k28 : gA s 49 p0.toNat = y28 := ey28
    refine wp_bn (mt_laysTree hRs (kG.1.1.1) (by show R2 y28; have : (0 : Int) ≤ gI s 47 ∧ gI s 47 ≤ 1 := hRs.1 47; omega) (fun h9 => by have z := RT_tree (u := p0.toNat) kG.1.1.1 (by omega) (by omega) (by omega); have z2 := RT_root (u := p0.toNat) kG.1.1.1 (by omega) (by omega) (by omega); rw [k28] at z z2; exact ⟨by omega, z⟩)) (fun s30 es30 hs30 => ?_)
    have Fs30 : F_x12_laysTree s s30 := fr_x12_laysTree es30
    obtain ⟨hRs30, hs30_0, hs30_1⟩ := hs30
    have hs30_0 : F_x12_laysTree s s30 := hs30_0
    have hs30_1 : 254 ≤ y28 → gI s30 67 = 0 := hs30_1
    have L27 : ∀ (n : Nat) (x1 : Int) (x2 : Int) (x3 : Int) (x4 : Int) (s5 : MS), Rr s5 → (x1 = p1 ∧ x2 = p2) → (0 ≤ x4 ∧ x4 ≤ 300) → (JI s5) → (gI s5 1 = gI s 1) → (300 - x4) < (n : Int) → wp (m_x12_total_L27 n x1 x2 x3 x4 s5) (fun q => (Rr q.2) ∧ (JI q.2) ∧ (gI q.2 1 = gI s 1)) := by
      refine fr_ind (fun x1 x2 x3 x4 s5 hRs5 hv27_0 hv27_1 hv27_2 hv27_3 hm27 => ?_) (fun n27 ih27 x1 x2 x3 x4 s5 hRs5 hv27_0 hv27_1 hv27_2 hv27_3 hm27 => ?_)
      · exfalso; have : (0 : Int) ≤ gI s 1 ∧ gI s 1 ≤ 1600 := hRs.1 1; have : (0 : Int) ≤ gI s5 1 ∧ gI s5 1 ≤ 1600 := hRs5.1 1; omega
      · show wp (m_x12_total_b27 (m_x12_total_L27 n27) x1 x2 x3 x4 s5) _
        unfold m_x12_total_b27
        have r67 : (0 : Int) ≤ gI s5 67 ∧ gI s5 67 ≤ 300 := hRs5.1 67
        refine wp_rg (by have : (0 : Int) ≤ gI s 1 ∧ gI s 1 ≤ 1600 := hRs.1 1; have : (0 : Int) ≤ gI s5 1 ∧ gI s5 1 ≤ 1600 := hRs5.1 1; have : (0 : Int) ≤ gI s30 67 ∧ gI s30 67 ≤ 300 := hRs30.1 67; have : (0 : Int) ≤ gI s 47 ∧ gI s 47 ≤ 1 := hRs.1 47; omega) ?_
        refine wp_rg (by have : (0 : Int) ≤ gI s 1 ∧ gI s 1 ≤ 1600 := hRs.1 1; have : (0 : Int) ≤ gI s5 1 ∧ gI s5 1 ≤ 1600 := hRs5.1 1; have : (0 : Int) ≤ gI s30 67 ∧ gI s30 67 ≤ 300 := hRs30.1 67; have : (0 : Int) ≤ gI s 47 ∧ gI s 47 ≤ 1 := hRs.1 47; have : (0 : Int) ≤ gI s5 67 ∧ gI s5 67 ≤ 300 := hRs5.1 67; omega) ?_
        refine wp_if (fun c2 => ?_) (fun c2 => ?_)
        · skip
          exact wp_some ⟨hRs5, by show JI s5; exact (hv27_2), by show gI s5 1 = gI s 1; have : (0 : Int) ≤ gI s5 67 ∧ gI s5 67 ≤ 300 := hRs5.1 67; have : (0 : Int) ≤ gI s30 67 ∧ gI s30 67 ≤ 300 := hRs30.1 67; have : (0 : Int) ≤ gI s 47 ∧ gI s 47 ≤ 1 := hRs.1 47; have : (0 : Int) ≤ gI s 1 ∧ gI s 1 ≤ 1600 := hRs.1 1; have : (0 : Int) ≤ gI s5 1 ∧ gI s5 1 ≤ 1600 := hRs5.1 1; omega⟩
        · skip
          refine wp_rdIn (by have : (0 : Int) ≤ gI s5 67 ∧ gI s5 67 ≤ 300 := hRs5.1 67; have : (0 : Int) ≤ gI s 1 ∧ gI s 1 ≤ 1600 := hRs.1 1; have : (0 : Int) ≤ gI s5 1 ∧ gI s5 1 ≤ 1600 := hRs5.1 1; have : (0 : Int) ≤ gI s30 67 ∧ gI s30 67 ≤ 300 := hRs30.1 67; have : (0 : Int) ≤ gI s 47 ∧ gI s 47 ≤ 1 := hRs.1 47; omega) (fun y14 ey14 => ?_)
          have by14 : (-2147483648 : Int) ≤ y14 ∧ y14 ≤ 2147483647 := ey14 ▸ hRs5.2.1 64 _ (by show _ < 300; have : (0 : Int) ≤ gI s5 67 ∧ gI s5 67 ≤ 300 := hRs5.1 67; have : (0 : Int) ≤ gI s 1 ∧ gI s 1 ≤ 1600 := hRs.1 1; have : (0 : Int) ≤ gI s5 1 ∧ gI s5 1 ≤ 1600 := hRs5.1 1; have : (0 : Int) ≤ gI s30 67 ∧ gI s30 67 ≤ 300 := hRs30.1 67; have : (0 : Int) ≤ gI s 47 ∧ gI s 47 ≤ 1 := hRs.1 47; omega)
          have r14 : R2 y14 := ey14 ▸ hRs5.2.1 64 _ (by show _ < 300; omega)
          refine wp_rg (by have : (0 : Int) ≤ gI s5 67 ∧ gI s5 67 ≤ 300 := hRs5.1 67; have : (0 : Int) ≤ gI s 1 ∧ gI s 1 ≤ 1600 := hRs.1 1; have : (0 : Int) ≤ gI s5 1 ∧ gI s5 1 ≤ 1600 := hRs5.1 1; have : (0 : Int) ≤ gI s30 67 ∧ gI s30 67 ≤ 300 := hRs30.1 67; have : (0 : Int) ≤ gI s 47 ∧ gI s 47 ≤ 1 := hRs.1 47; omega) ?_
          refine wp_rg (by have : (0 : Int) ≤ gI s5 67 ∧ gI s5 67 ≤ 300 := hRs5.1 67; have : (0 : Int) ≤ gI s 1 ∧ gI s 1 ≤ 1600 := hRs.1 1; have : (0 : Int) ≤ gI s5 1 ∧ gI s5 1 ≤ 1600 := hRs5.1 1; have : (0 : Int) ≤ gI s30 67 ∧ gI s30 67 ≤ 300 := hRs30.1 67; have : (0 : Int) ≤ gI s 47 ∧ gI s 47 ≤ 1 := hRs.1 47; omega) ?_
          refine wp_rg (by have : (0 : Int) ≤ gI s5 67 ∧ gI s5 67 ≤ 300 := hRs5.1 67; have : (0 : Int) ≤ gI s 1 ∧ gI s 1 ≤ 1600 := hRs.1 1; have : (0 : Int) ≤ gI s5 1 ∧ gI s5 1 ≤ 1600 := hRs5.1 1; have : (0 : Int) ≤ gI s30 67 ∧ gI s30 67 ≤ 300 := hRs30.1 67; have : (0 : Int) ≤ gI s 47 ∧ gI s 47 ≤ 1 := hRs.1 47; omega) ?_
          refine wp_bn (w_x12_isIn hRs5 (by show R8 y14; have : (0 : Int) ≤ gI s5 67 ∧ gI s5 67 ≤ 300 := hRs5.1 67; have : (0 : Int) ≤ gI s 1 ∧ gI s 1 ≤ 1600 := hRs.1 1; have : (0 : Int) ≤ gI s5 1 ∧ gI s5 1 ≤ 1600 := hRs5.1 1; have : (0 : Int) ≤ gI s30 67 ∧ gI s30 67 ≤ 300 := hRs30.1 67; have : (0 : Int) ≤ gI s 47 ∧ gI s 47 ≤ 1 := hRs.1 47; omega) (by show R8 x1; have : (0 : Int) ≤ gI s5 67 ∧ gI s5 67 ≤ 300 := hRs5.1 67; have : (0 : Int) ≤ gI s 1 ∧ gI s 1 ≤ 1600 := hRs.1 1; have : (0 : Int) ≤ gI s5 1 ∧ gI s5 1 ≤ 1600 := hRs5.1 1; have : (0 : Int) ≤ gI s30 67 ∧ gI s30 67 ≤ 300 := hRs30.1 67; have : (0 : Int) ≤ gI s 47 ∧ gI s 47 ≤ 1 := hRs.1 47; omega) (by show R8 x2; have : (0 : Int) ≤ gI s5 67 ∧ gI s5 67 ≤ 300 := hRs5.1 67; have : (0 : Int) ≤ gI s 1 ∧ gI s 1 ≤ 1600 := hRs.1 1; have : (0 : Int) ≤ gI s5 1 ∧ gI s5 1 ≤ 1600 := hRs5.1 1; have : (0 : Int) ≤ gI s30 67 ∧ gI s30 67 ≤ 300 := hRs30.1 67; have : (0 : Int) ≤ gI s 47 ∧ gI s 47 ≤ 1 := hRs.1 47; omega)) (fun r19 er19 hr19 => ?_)
          have hr19_0 := hr19
          have hr19_0 : (r19 = 1 ∧ x1 ≤ y14 ∧ y14 ≤ x2) ∨ (r19 = 0 ∧ (y14 < x1 ∨ x2 < y14)) := hr19_0
          refine wp_rg (by have : (0 : Int) ≤ gI s5 67 ∧ gI s5 67 ≤ 300 := hRs5.1 67; have : (0 : Int) ≤ gI s 1 ∧ gI s 1 ≤ 1600 := hRs.1 1; have : (0 : Int) ≤ gI s5 1 ∧ gI s5 1 ≤ 1600 := hRs5.1 1; have : (0 : Int) ≤ gI s30 67 ∧ gI s30 67 ≤ 300 := hRs30.1 67; have : (0 : Int) ≤ gI s 47 ∧ gI s 47 ≤ 1 := hRs.1 47; omega) ?_
          refine wp_if (fun c3 => ?_) (fun c3 => ?_)
          · skip
            unfold m_x12_total_J66
            exact ih27 x1 x2 x3 (x4 + 1) s5 hRs5 (by show x1 = p1 ∧ x2 = p2; have : (0 : Int) ≤ gI s5 67 ∧ gI s5 67 ≤ 300 := hRs5.1 67; have : (0 : Int) ≤ gI s 1 ∧ gI s 1 ≤ 1600 := hRs.1 1; have : (0 : Int) ≤ gI s5 1 ∧ gI s5 1 ≤ 1600 := hRs5.1 1; have : (0 : Int) ≤ gI s30 67 ∧ gI s30 67 ≤ 300 := hRs30.1 67; have : (0 : Int) ≤ gI s 47 ∧ gI s 47 ≤ 1 := hRs.1 47; omega) (by show 0 ≤ (x4 + 1) ∧ (x4 + 1) ≤ 300; have : (0 : Int) ≤ gI s5 67 ∧ gI s5 67 ≤ 300 := hRs5.1 67; have : (0 : Int) ≤ gI s 1 ∧ gI s 1 ≤ 1600 := hRs.1 1; have : (0 : Int) ≤ gI s5 1 ∧ gI s5 1 ≤ 1600 := hRs5.1 1; have : (0 : Int) ≤ gI s30 67 ∧ gI s30 67 ≤ 300 := hRs30.1 67; have : (0 : Int) ≤ gI s 47 ∧ gI s 47 ≤ 1 := hRs.1 47; omega) (hv27_2) (by show gI s5 1 = gI s 1; have : (0 : Int) ≤ gI s5 67 ∧ gI s5 67 ≤ 300 := hRs5.1 67; have : (0 : Int) ≤ gI s30 67 ∧ gI s30 67 ≤ 300 := hRs30.1 67; have : (0 : Int) ≤ gI s 47 ∧ gI s 47 ≤ 1 := hRs.1 47; have : (0 : Int) ≤ gI s 1 ∧ gI s 1 ≤ 1600 := hRs.1 1; have : (0 : Int) ≤ gI s5 1 ∧ gI s5 1 ≤ 1600 := hRs5.1 1; omega) (by have : (0 : Int) ≤ gI s5 67 ∧ gI s5 67 ≤ 300 := hRs5.1 67; have : (0 : Int) ≤ gI s 1 ∧ gI s 1 ≤ 1600 := hRs.1 1; have : (0 : Int) ≤ gI s5 1 ∧ gI s5 1 ≤ 1600 := hRs5.1 1; have : (0 : Int) ≤ gI s30 67 ∧ gI s30 67 ≤ 300 := hRs30.1 67; have : (0 : Int) ≤ gI s 47 ∧ gI s 47 ≤ 1 := hRs.1 47; omega)
          · skip
            refine wp_rdIn (by have : (0 : Int) ≤ gI s5 67 ∧ gI s5 67 ≤ 300 := hRs5.1 67; have : (0 : Int) ≤ gI s 1 ∧ gI s 1 ≤ 1600 := hRs.1 1; have : (0 : Int) ≤ gI s5 1 ∧ gI s5 1 ≤ 1600 := hRs5.1 1; have : (0 : Int) ≤ gI s30 67 ∧ gI s30 67 ≤ 300 := hRs30.1 67; have : (0 : Int) ≤ gI s 47 ∧ gI s 47 ≤ 1 := hRs.1 47; omega) (fun y22 ey22 => ?_)
            have by22 : (-2147483648 : Int) ≤ y22 ∧ y22 ≤ 2147483647 := ey22 ▸ hRs5.2.1 65 _ (by show _ < 300; have : (0 : Int) ≤ gI s5 67 ∧ gI s5 67 ≤ 300 := hRs5.1 67; have : (0 : Int) ≤ gI s 1 ∧ gI s 1 ≤ 1600 := hRs.1 1; have : (0 : Int) ≤ gI s5 1 ∧ gI s5 1 ≤ 1600 := hRs5.1 1; have : (0 : Int) ≤ gI s30 67 ∧ gI s30 67 ≤ 300 := hRs30.1 67; have : (0 : Int) ≤ gI s 47 ∧ gI s 47 ≤ 1 := hRs.1 47; omega)
            unfold m_x12_total_J66
            exact ih27 x1 x2 (x3 + y22) (x4 + 1) s5 hRs5 (by show x1 = p1 ∧ x2 = p2; have : (0 : Int) ≤ gI s5 67 ∧ gI s5 67 ≤ 300 := hRs5.1 67; have : (0 : Int) ≤ gI s 1 ∧ gI s 1 ≤ 1600 := hRs.1 1; have : (0 : Int) ≤ gI s5 1 ∧ gI s5 1 ≤ 1600 := hRs5.1 1; have : (0 : Int) ≤ gI s30 67 ∧ gI s30 67 ≤ 300 := hRs30.1 67; have : (0 : Int) ≤ gI s 47 ∧ gI s 47 ≤ 1 := hRs.1 47; omega) (by show 0 ≤ (x4 + 1) ∧ (x4 + 1) ≤ 300; have : (0 : Int) ≤ gI s5 67 ∧ gI s5 67 ≤ 300 := hRs5.1 67; have : (0 : Int) ≤ gI s 1 ∧ gI s 1 ≤ 1600 := hRs.1 1; have : (0 : Int) ≤ gI s5 1 ∧ gI s5 1 ≤ 1600 := hRs5.1 1; have : (0 : Int) ≤ gI s30 67 ∧ gI s30 67 ≤ 300 := hRs30.1 67; have : (0 : Int) ≤ gI s 47 ∧ gI s 47 ≤ 1 := hRs.1 47; omega) (hv27_2) (by show gI s5 1 = gI s 1; have : (0 : Int) ≤ gI s5 67 ∧ gI s5 67 ≤ 300 := hRs5.1 67; have : (0 : Int) ≤ gI s30 67 ∧ gI s30 67 ≤ 300 := hRs30.1 67; have : (0 : Int) ≤ gI s 47 ∧ gI s 47 ≤ 1 := hRs.1 47; have : (0 : Int) ≤ gI s 1 ∧ gI s 1 ≤ 1600 := hRs.1 1; have : (0 : Int) ≤ gI s5 1 ∧ gI s5 1 ≤ 1600 := hRs5.1 1; omega) (by have : (0 : Int) ≤ gI s5 67 ∧ gI s5 67 ≤ 300 := hRs5.1 67; have : (0 : Int) ≤ gI s 1 ∧ gI s 1 ≤ 1600 := hRs.1 1; have : (0 : Int) ≤ gI s5 1 ∧ gI s5 1 ≤ 1600 := hRs5.1 1; have : (0 : Int) ≤ gI s30 67 ∧ gI s30 67 ≤ 300 := hRs30.1 67; have : (0 : Int) ≤ gI s 47 ∧ gI s 47 ≤ 1 := hRs.1 47; omega)
    exact L27 FU p1 p2 0 0 s30 hRs30 (by show p1 = p1 ∧ p2 = p2; have : (0 : Int) ≤ gI s30 67 ∧ gI s30 67 ≤ 300 := hRs30.1 67; have : (0 : Int) ≤ gI s 47 ∧ gI s 47 ≤ 1 := hRs.1 47; omega) (by show 0 ≤ (0 : Int) ∧ (0 : Int) ≤ 300; have : (0 : Int) ≤ gI s30 67 ∧ gI s30 67 ≤ 300 := hRs30.1 67; have : (0 : Int) ≤ gI s 47 ∧ gI s 47 ≤ 1 := hRs.1 47; omega) (JI_eq hpJ ⟨(Fs30.2.1 39 (by decide)), (Fs30.2.1 42 (by decide)), (Fs30.2.1 43 (by decide)), (Fs30.2.1 44 (by decide))⟩ (Fs30.2.1 49 (by decide)) (Fs30.2.1 75 (by decide)) (Fs30.1 76 (by decide)) (Fs30.1 77 (by decide)) (Fs30.1 47 (by decide)) (Fs30.2.2.1 78 (by decide))) (by show gI s30 1 = gI s 1; have : (0 : Int) ≤ gI s30 67 ∧ gI s30 67 ≤ 300 := hRs30.1 67; have : (0 : Int) ≤ gI s 47 ∧ gI s 47 ≤ 1 := hRs.1 47; have : (0 : Int) ≤ gI s 1 ∧ gI s 1 ≤ 1600 := hRs.1 1; have : gI s30 1 = gI s 1 := Fs30.1 1 (by decide); omega) (by have := FU_big; have := FU_big2; have : (0 : Int) ≤ gI s30 67 ∧ gI s30 67 ≤ 300 := hRs30.1 67; have : (0 : Int) ≤ gI s 47 ∧ gI s 47 ≤ 1 := hRs.1 47; omega)
set_option maxHeartbeats 1000000 in
theorem w_x12_shared {p0 : Int} {p1 : Int} {s : MS} (hRs : Rr s) (hp0 : R2 p0) (hp1 : R2 p1) (hp2 : JI s) : wp (m_x12_shared p0 p1 s) (fun q => (Rr q.2) ∧ (JI q.2) ∧ (gI q.2 1 = gI s 1)) := by
  have hpJ := hp2
  unfold m_x12_shared
  refine wp_rg (by omega) ?_
  refine wp_bn (wv_x12_isVolume hRs (by show R8 p0; omega)) (fun r30 er30 hr30 => ?_)
  obtain ⟨hr30_0, hr30_1⟩ := hr30
  have hr30_0 : (r30 = 1 ∧ (0 ≤ p0 ∧ p0 < 8) ∧ gI s 47 ≠ 0 ∧ gA s 49 p0.toNat ≠ 255) ∨ r30 = 0 := hr30_0
  have hr30_1 : 0 ≤ p0 ∧ p0 < 8 → r30 = ivol s p0.toNat := hr30_1
  refine wp_rg (by have : (0 : Int) ≤ gI s 47 ∧ gI s 47 ≤ 1 := hRs.1 47; omega) ?_
  refine wp_if (fun c1 => ?_) (fun c1 => ?_)
  · skip
    unfold m_x12_shared_J18
    exact wp_some ⟨hRs, by show JI s; exact (hpJ), by show gI s 1 = gI s 1; have : (0 : Int) ≤ gI s 47 ∧ gI s 47 ≤ 1 := hRs.1 47; have : (0 : Int) ≤ gI s 1 ∧ gI s 1 ≤ 1600 := hRs.1 1; omega⟩
  · skip
    have kG := JI_GA hpJ (by omega)
    have kb := kG.1.1.2 p0.toNat (by omega)
    refine wp_rg (by have : (0 : Int) ≤ gI s 47 ∧ gI s 47 ≤ 1 := hRs.1 47; omega) ?_
    refine wp_bn (wv_x12_isVolume hRs (by show R8 p1; have : (0 : Int) ≤ gI s 47 ∧ gI s 47 ≤ 1 := hRs.1 47; omega)) (fun r35 er35 hr35 => ?_)
    obtain ⟨hr35_0, hr35_1⟩ := hr35
    have hr35_0 : (r35 = 1 ∧ (0 ≤ p1 ∧ p1 < 8) ∧ gI s 47 ≠ 0 ∧ gA s 49 p1.toNat ≠ 255) ∨ r35 = 0 := hr35_0
    have hr35_1 : 0 ≤ p1 ∧ p1 < 8 → r35 = ivol s p1.toNat := hr35_1
    refine wp_rg (by have : (0 : Int) ≤ gI s 47 ∧ gI s 47 ≤ 1 := hRs.1 47; omega) ?_
    refine wp_if (fun c2 => ?_) (fun c2 => ?_)
    · skip
      unfold m_x12_shared_J18
      exact wp_some ⟨hRs, by show JI s; exact (hpJ), by show gI s 1 = gI s 1; have : (0 : Int) ≤ gI s 47 ∧ gI s 47 ≤ 1 := hRs.1 47; have : (0 : Int) ≤ gI s 1 ∧ gI s 1 ≤ 1600 := hRs.1 1; omega⟩
    · skip
      have kb1 := kG.1.1.2 p1.toNat (by omega)
      refine wp_rdIn (by have : (0 : Int) ≤ gI s 47 ∧ gI s 47 ≤ 1 := hRs.1 47; omega) (fun y38 ey38 => ?_)
      have by38 : (-2147483648 : Int) ≤ y38 ∧ y38 ≤ 2147483647 := ey38 ▸ hRs.2.1 49 _ (by show _ < 906; have : (0 : Int) ≤ gI s 47 ∧ gI s 47 ≤ 1 := hRs.1 47; omega)
      have k38 : gA s 49 p0.toNat = y38 := ey38
      refine wp_bn (mt_laysTree hRs (kG.1.1.1) (by show R2 y38; have : (0 : Int) ≤ gI s 47 ∧ gI s 47 ≤ 1 := hRs.1 47; omega) (fun h9 => by have z := RT_tree (u := p0.toNat) kG.1.1.1 (by omega) (by omega) (by omega); have z2 := RT_root (u := p0.toNat) kG.1.1.1 (by omega) (by omega) (by omega); rw [k38] at z z2; exact ⟨by omega, z⟩)) (fun s40 es40 hs40 => ?_)
      have Fs40 : F_x12_laysTree s s40 := fr_x12_laysTree es40
      obtain ⟨hRs40, hs40_0, hs40_1⟩ := hs40
      have hs40_0 : F_x12_laysTree s s40 := hs40_0
      have hs40_1 : 254 ≤ y38 → gI s40 67 = 0 := hs40_1
      have L32 : ∀ (n : Nat) (x15 : Int) (x16 : Int) (s17 : MS), Rr s17 → (x15 = p1) → (0 ≤ x16 ∧ x16 ≤ 48) → (gA s17 49 = gA s 49) → (JI s17) → (gI s17 1 = gI s 1 ∧ gI s17 47 = gI s 47) → (48 - x16) < (n : Int) → wp (m_x12_shared_L32 n x15 x16 s17) (fun q => (Rr q.2) ∧ (JI q.2) ∧ (gI q.2 1 = gI s 1)) := by
        refine fr_ind (fun x15 x16 s17 hRs17 hv32_0 hv32_1 hv32_2 hv32_3 hv32_4 hm32 => ?_) (fun n32 ih32 x15 x16 s17 hRs17 hv32_0 hv32_1 hv32_2 hv32_3 hv32_4 hm32 => ?_)
        · exfalso; have : (0 : Int) ≤ gI s 47 ∧ gI s 47 ≤ 1 := hRs.1 47; have : (0 : Int) ≤ gI s17 47 ∧ gI s17 47 ≤ 1 := hRs17.1 47; have : (0 : Int) ≤ gI s 1 ∧ gI s 1 ≤ 1600 := hRs.1 1; have : (0 : Int) ≤ gI s17 1 ∧ gI s17 1 ≤ 1600 := hRs17.1 1; omega
        · show wp (m_x12_shared_b32 (m_x12_shared_L32 n32) x15 x16 s17) _
          unfold m_x12_shared_b32
          refine wp_rg (by have : (0 : Int) ≤ gI s17 47 ∧ gI s17 47 ≤ 1 := hRs17.1 47; have : (0 : Int) ≤ gI s 1 ∧ gI s 1 ≤ 1600 := hRs.1 1; have : (0 : Int) ≤ gI s17 1 ∧ gI s17 1 ≤ 1600 := hRs17.1 1; have : (0 : Int) ≤ gI s40 67 ∧ gI s40 67 ≤ 300 := hRs40.1 67; have : (0 : Int) ≤ gI s 47 ∧ gI s 47 ≤ 1 := hRs.1 47; omega) ?_
          refine wp_if (fun c3 => ?_) (fun c3 => ?_)
          · skip
            refine wp_rdIn (by have : (0 : Int) ≤ gI s17 47 ∧ gI s17 47 ≤ 1 := hRs17.1 47; have : (0 : Int) ≤ gI s 1 ∧ gI s 1 ≤ 1600 := hRs.1 1; have : (0 : Int) ≤ gI s17 1 ∧ gI s17 1 ≤ 1600 := hRs17.1 1; have : (0 : Int) ≤ gI s40 67 ∧ gI s40 67 ≤ 300 := hRs40.1 67; have : (0 : Int) ≤ gI s 47 ∧ gI s 47 ≤ 1 := hRs.1 47; omega) (fun y20 ey20 => ?_)
            have by20 : (-2147483648 : Int) ≤ y20 ∧ y20 ≤ 2147483647 := ey20 ▸ hRs17.2.1 49 _ (by show _ < 906; have : (0 : Int) ≤ gI s17 47 ∧ gI s17 47 ≤ 1 := hRs17.1 47; have : (0 : Int) ≤ gI s 1 ∧ gI s 1 ≤ 1600 := hRs.1 1; have : (0 : Int) ≤ gI s17 1 ∧ gI s17 1 ≤ 1600 := hRs17.1 1; have : (0 : Int) ≤ gI s40 67 ∧ gI s40 67 ≤ 300 := hRs40.1 67; have : (0 : Int) ≤ gI s 47 ∧ gI s 47 ≤ 1 := hRs.1 47; omega)
            have kt17 : gI s17 47 ≠ 0 := by rw [hv32_4.2]; omega
            have k20 : gA s17 49 p1.toNat = y20 := by rw [← ey20, hv32_0]
            have kb17 := (JI_GA hv32_3 kt17).1.1.2 p1.toNat (by omega)
            refine wp_bn (mt_laysTree hRs17 ((JI_GA hv32_3 kt17).1.1.1) (by show R2 y20; have : (0 : Int) ≤ gI s17 47 ∧ gI s17 47 ≤ 1 := hRs17.1 47; have : (0 : Int) ≤ gI s 1 ∧ gI s 1 ≤ 1600 := hRs.1 1; have : (0 : Int) ≤ gI s17 1 ∧ gI s17 1 ≤ 1600 := hRs17.1 1; have : (0 : Int) ≤ gI s40 67 ∧ gI s40 67 ≤ 300 := hRs40.1 67; have : (0 : Int) ≤ gI s 47 ∧ gI s 47 ≤ 1 := hRs.1 47; omega) (fun h9 => by have z := RT_tree (u := p1.toNat) (JI_GA hv32_3 kt17).1.1.1 (by omega) (by omega) (by omega); have z2 := RT_root (u := p1.toNat) (JI_GA hv32_3 kt17).1.1.1 (by omega) (by omega) (by omega); rw [k20] at z z2; exact ⟨by omega, z⟩)) (fun s22 es22 hs22 => ?_)
            have Fs22 : F_x12_laysTree s17 s22 := fr_x12_laysTree es22
            obtain ⟨hRs22, hs22_0, hs22_1⟩ := hs22
            have hs22_0 : F_x12_laysTree s17 s22 := hs22_0
            have hs22_1 : 254 ≤ y20 → gI s22 67 = 0 := hs22_1
            have L71 : ∀ (n : Nat) (x1 : Int) (x2 : Int) (s3 : MS), Rr s3 → (0 ≤ x1 ∧ x1 ≤ x2 ∧ x2 ≤ 48) → (JI s3) → (gI s3 1 = gI s 1) → (48 - x2) < (n : Int) → wp (m_x12_shared_L71 n x1 x2 s3) (fun q => (Rr q.2) ∧ (JI q.2) ∧ (gI q.2 1 = gI s 1)) := by
              refine fr_ind (fun x1 x2 s3 hRs3 hv71_0 hv71_1 hv71_2 hm71 => ?_) (fun n71 ih71 x1 x2 s3 hRs3 hv71_0 hv71_1 hv71_2 hm71 => ?_)
              · exfalso; have : (0 : Int) ≤ gI s 1 ∧ gI s 1 ≤ 1600 := hRs.1 1; have : (0 : Int) ≤ gI s3 1 ∧ gI s3 1 ≤ 1600 := hRs3.1 1; omega
              · show wp (m_x12_shared_b71 (m_x12_shared_L71 n71) x1 x2 s3) _
                unfold m_x12_shared_b71
                refine wp_rg (by have : (0 : Int) ≤ gI s3 1 ∧ gI s3 1 ≤ 1600 := hRs3.1 1; have : (0 : Int) ≤ gI s22 67 ∧ gI s22 67 ≤ 300 := hRs22.1 67; have : (0 : Int) ≤ gI s17 47 ∧ gI s17 47 ≤ 1 := hRs17.1 47; have : (0 : Int) ≤ gI s 1 ∧ gI s 1 ≤ 1600 := hRs.1 1; have : (0 : Int) ≤ gI s17 1 ∧ gI s17 1 ≤ 1600 := hRs17.1 1; have : (0 : Int) ≤ gI s40 67 ∧ gI s40 67 ≤ 300 := hRs40.1 67; have : (0 : Int) ≤ gI s 47 ∧ gI s 47 ≤ 1 := hRs.1 47; omega) ?_
                refine wp_if (fun c4 => ?_) (fun c4 => ?_)
                · skip
                  exact wp_some ⟨hRs3, by show JI s3; exact (hv71_1), by show gI s3 1 = gI s 1; have : (0 : Int) ≤ gI s22 67 ∧ gI s22 67 ≤ 300 := hRs22.1 67; have : (0 : Int) ≤ gI s17 47 ∧ gI s17 47 ≤ 1 := hRs17.1 47; have : (0 : Int) ≤ gI s17 1 ∧ gI s17 1 ≤ 1600 := hRs17.1 1; have : (0 : Int) ≤ gI s40 67 ∧ gI s40 67 ≤ 300 := hRs40.1 67; have : (0 : Int) ≤ gI s 47 ∧ gI s 47 ≤ 1 := hRs.1 47; have : (0 : Int) ≤ gI s 1 ∧ gI s 1 ≤ 1600 := hRs.1 1; have : (0 : Int) ≤ gI s3 1 ∧ gI s3 1 ≤ 1600 := hRs3.1 1; omega⟩
                · skip
                  refine wp_rdIn (by have : (0 : Int) ≤ gI s3 1 ∧ gI s3 1 ≤ 1600 := hRs3.1 1; have : (0 : Int) ≤ gI s22 67 ∧ gI s22 67 ≤ 300 := hRs22.1 67; have : (0 : Int) ≤ gI s17 47 ∧ gI s17 47 ≤ 1 := hRs17.1 47; have : (0 : Int) ≤ gI s 1 ∧ gI s 1 ≤ 1600 := hRs.1 1; have : (0 : Int) ≤ gI s17 1 ∧ gI s17 1 ≤ 1600 := hRs17.1 1; have : (0 : Int) ≤ gI s40 67 ∧ gI s40 67 ≤ 300 := hRs40.1 67; have : (0 : Int) ≤ gI s 47 ∧ gI s 47 ≤ 1 := hRs.1 47; omega) (fun y9 ey9 => ?_)
                  have by9 : (0 : Int) ≤ y9 ∧ y9 ≤ 1 := ey9 ▸ hRs3.2.1 69 _ (by show _ < 48; have : (0 : Int) ≤ gI s3 1 ∧ gI s3 1 ≤ 1600 := hRs3.1 1; have : (0 : Int) ≤ gI s22 67 ∧ gI s22 67 ≤ 300 := hRs22.1 67; have : (0 : Int) ≤ gI s17 47 ∧ gI s17 47 ≤ 1 := hRs17.1 47; have : (0 : Int) ≤ gI s 1 ∧ gI s 1 ≤ 1600 := hRs.1 1; have : (0 : Int) ≤ gI s17 1 ∧ gI s17 1 ≤ 1600 := hRs17.1 1; have : (0 : Int) ≤ gI s40 67 ∧ gI s40 67 ≤ 300 := hRs40.1 67; have : (0 : Int) ≤ gI s 47 ∧ gI s 47 ≤ 1 := hRs.1 47; omega)
                  have r9 : (0 : Int) ≤ y9 ∧ y9 ≤ 1 := ey9 ▸ hRs3.2.1 69 _ (by show _ < 48; omega)
                  refine wp_rg (by have : (0 : Int) ≤ gI s3 1 ∧ gI s3 1 ≤ 1600 := hRs3.1 1; have : (0 : Int) ≤ gI s22 67 ∧ gI s22 67 ≤ 300 := hRs22.1 67; have : (0 : Int) ≤ gI s17 47 ∧ gI s17 47 ≤ 1 := hRs17.1 47; have : (0 : Int) ≤ gI s 1 ∧ gI s 1 ≤ 1600 := hRs.1 1; have : (0 : Int) ≤ gI s17 1 ∧ gI s17 1 ≤ 1600 := hRs17.1 1; have : (0 : Int) ≤ gI s40 67 ∧ gI s40 67 ≤ 300 := hRs40.1 67; have : (0 : Int) ≤ gI s 47 ∧ gI s 47 ≤ 1 := hRs.1 47; omega) ?_
                  refine wp_if (fun c5 => ?_) (fun c5 => ?_)
                  · skip
                    unfold m_x12_shared_J101
                    exact ih71 x1 (x2 + 1) s3 hRs3 (by show 0 ≤ x1 ∧ x1 ≤ (x2 + 1) ∧ (x2 + 1) ≤ 48; have : (0 : Int) ≤ gI s3 1 ∧ gI s3 1 ≤ 1600 := hRs3.1 1; have : (0 : Int) ≤ gI s22 67 ∧ gI s22 67 ≤ 300 := hRs22.1 67; have : (0 : Int) ≤ gI s17 47 ∧ gI s17 47 ≤ 1 := hRs17.1 47; have : (0 : Int) ≤ gI s 1 ∧ gI s 1 ≤ 1600 := hRs.1 1; have : (0 : Int) ≤ gI s17 1 ∧ gI s17 1 ≤ 1600 := hRs17.1 1; have : (0 : Int) ≤ gI s40 67 ∧ gI s40 67 ≤ 300 := hRs40.1 67; have : (0 : Int) ≤ gI s 47 ∧ gI s 47 ≤ 1 := hRs.1 47; omega) (hv71_1) (by show gI s3 1 = gI s 1; have : (0 : Int) ≤ gI s22 67 ∧ gI s22 67 ≤ 300 := hRs22.1 67; have : (0 : Int) ≤ gI s17 47 ∧ gI s17 47 ≤ 1 := hRs17.1 47; have : (0 : Int) ≤ gI s17 1 ∧ gI s17 1 ≤ 1600 := hRs17.1 1; have : (0 : Int) ≤ gI s40 67 ∧ gI s40 67 ≤ 300 := hRs40.1 67; have : (0 : Int) ≤ gI s 47 ∧ gI s 47 ≤ 1 := hRs.1 47; have : (0 : Int) ≤ gI s 1 ∧ gI s 1 ≤ 1600 := hRs.1 1; have : (0 : Int) ≤ gI s3 1 ∧ gI s3 1 ≤ 1600 := hRs3.1 1; omega) (by have : (0 : Int) ≤ gI s3 1 ∧ gI s3 1 ≤ 1600 := hRs3.1 1; have : (0 : Int) ≤ gI s22 67 ∧ gI s22 67 ≤ 300 := hRs22.1 67; have : (0 : Int) ≤ gI s17 47 ∧ gI s17 47 ≤ 1 := hRs17.1 47; have : (0 : Int) ≤ gI s 1 ∧ gI s 1 ≤ 1600 := hRs.1 1; have : (0 : Int) ≤ gI s17 1 ∧ gI s17 1 ≤ 1600 := hRs17.1 1; have : (0 : Int) ≤ gI s40 67 ∧ gI s40 67 ≤ 300 := hRs40.1 67; have : (0 : Int) ≤ gI s 47 ∧ gI s 47 ≤ 1 := hRs.1 47; omega)
                  · skip
                    refine wp_rdIn (by have : (0 : Int) ≤ gI s3 1 ∧ gI s3 1 ≤ 1600 := hRs3.1 1; have : (0 : Int) ≤ gI s22 67 ∧ gI s22 67 ≤ 300 := hRs22.1 67; have : (0 : Int) ≤ gI s17 47 ∧ gI s17 47 ≤ 1 := hRs17.1 47; have : (0 : Int) ≤ gI s 1 ∧ gI s 1 ≤ 1600 := hRs.1 1; have : (0 : Int) ≤ gI s17 1 ∧ gI s17 1 ≤ 1600 := hRs17.1 1; have : (0 : Int) ≤ gI s40 67 ∧ gI s40 67 ≤ 300 := hRs40.1 67; have : (0 : Int) ≤ gI s 47 ∧ gI s 47 ≤ 1 := hRs.1 47; omega) (fun y12 ey12 => ?_)
                    have by12 : (0 : Int) ≤ y12 ∧ y12 ≤ 1 := ey12 ▸ hRs3.2.1 63 _ (by show _ < 48; have : (0 : Int) ≤ gI s3 1 ∧ gI s3 1 ≤ 1600 := hRs3.1 1; have : (0 : Int) ≤ gI s22 67 ∧ gI s22 67 ≤ 300 := hRs22.1 67; have : (0 : Int) ≤ gI s17 47 ∧ gI s17 47 ≤ 1 := hRs17.1 47; have : (0 : Int) ≤ gI s 1 ∧ gI s 1 ≤ 1600 := hRs.1 1; have : (0 : Int) ≤ gI s17 1 ∧ gI s17 1 ≤ 1600 := hRs17.1 1; have : (0 : Int) ≤ gI s40 67 ∧ gI s40 67 ≤ 300 := hRs40.1 67; have : (0 : Int) ≤ gI s 47 ∧ gI s 47 ≤ 1 := hRs.1 47; omega)
                    have r12 : (0 : Int) ≤ y12 ∧ y12 ≤ 1 := ey12 ▸ hRs3.2.1 63 _ (by show _ < 48; omega)
                    refine wp_rg (by have : (0 : Int) ≤ gI s3 1 ∧ gI s3 1 ≤ 1600 := hRs3.1 1; have : (0 : Int) ≤ gI s22 67 ∧ gI s22 67 ≤ 300 := hRs22.1 67; have : (0 : Int) ≤ gI s17 47 ∧ gI s17 47 ≤ 1 := hRs17.1 47; have : (0 : Int) ≤ gI s 1 ∧ gI s 1 ≤ 1600 := hRs.1 1; have : (0 : Int) ≤ gI s17 1 ∧ gI s17 1 ≤ 1600 := hRs17.1 1; have : (0 : Int) ≤ gI s40 67 ∧ gI s40 67 ≤ 300 := hRs40.1 67; have : (0 : Int) ≤ gI s 47 ∧ gI s 47 ≤ 1 := hRs.1 47; omega) ?_
                    refine wp_if (fun c6 => ?_) (fun c6 => ?_)
                    · skip
                      unfold m_x12_shared_J101
                      exact ih71 x1 (x2 + 1) s3 hRs3 (by show 0 ≤ x1 ∧ x1 ≤ (x2 + 1) ∧ (x2 + 1) ≤ 48; have : (0 : Int) ≤ gI s3 1 ∧ gI s3 1 ≤ 1600 := hRs3.1 1; have : (0 : Int) ≤ gI s22 67 ∧ gI s22 67 ≤ 300 := hRs22.1 67; have : (0 : Int) ≤ gI s17 47 ∧ gI s17 47 ≤ 1 := hRs17.1 47; have : (0 : Int) ≤ gI s 1 ∧ gI s 1 ≤ 1600 := hRs.1 1; have : (0 : Int) ≤ gI s17 1 ∧ gI s17 1 ≤ 1600 := hRs17.1 1; have : (0 : Int) ≤ gI s40 67 ∧ gI s40 67 ≤ 300 := hRs40.1 67; have : (0 : Int) ≤ gI s 47 ∧ gI s 47 ≤ 1 := hRs.1 47; omega) (hv71_1) (by show gI s3 1 = gI s 1; have : (0 : Int) ≤ gI s22 67 ∧ gI s22 67 ≤ 300 := hRs22.1 67; have : (0 : Int) ≤ gI s17 47 ∧ gI s17 47 ≤ 1 := hRs17.1 47; have : (0 : Int) ≤ gI s17 1 ∧ gI s17 1 ≤ 1600 := hRs17.1 1; have : (0 : Int) ≤ gI s40 67 ∧ gI s40 67 ≤ 300 := hRs40.1 67; have : (0 : Int) ≤ gI s 47 ∧ gI s 47 ≤ 1 := hRs.1 47; have : (0 : Int) ≤ gI s 1 ∧ gI s 1 ≤ 1600 := hRs.1 1; have : (0 : Int) ≤ gI s3 1 ∧ gI s3 1 ≤ 1600 := hRs3.1 1; omega) (by have : (0 : Int) ≤ gI s3 1 ∧ gI s3 1 ≤ 1600 := hRs3.1 1; have : (0 : Int) ≤ gI s22 67 ∧ gI s22 67 ≤ 300 := hRs22.1 67; have : (0 : Int) ≤ gI s17 47 ∧ gI s17 47 ≤ 1 := hRs17.1 47; have : (0 : Int) ≤ gI s 1 ∧ gI s 1 ≤ 1600 := hRs.1 1; have : (0 : Int) ≤ gI s17 1 ∧ gI s17 1 ≤ 1600 := hRs17.1 1; have : (0 : Int) ≤ gI s40 67 ∧ gI s40 67 ≤ 300 := hRs40.1 67; have : (0 : Int) ≤ gI s 47 ∧ gI s 47 ≤ 1 := hRs.1 47; omega)
                    · skip
                      unfold m_x12_shared_J101
                      exact ih71 (x1 + 1) (x2 + 1) s3 hRs3 (by show 0 ≤ (x1 + 1) ∧ (x1 + 1) ≤ (x2 + 1) ∧ (x2 + 1) ≤ 48; have : (0 : Int) ≤ gI s3 1 ∧ gI s3 1 ≤ 1600 := hRs3.1 1; have : (0 : Int) ≤ gI s22 67 ∧ gI s22 67 ≤ 300 := hRs22.1 67; have : (0 : Int) ≤ gI s17 47 ∧ gI s17 47 ≤ 1 := hRs17.1 47; have : (0 : Int) ≤ gI s 1 ∧ gI s 1 ≤ 1600 := hRs.1 1; have : (0 : Int) ≤ gI s17 1 ∧ gI s17 1 ≤ 1600 := hRs17.1 1; have : (0 : Int) ≤ gI s40 67 ∧ gI s40 67 ≤ 300 := hRs40.1 67; have : (0 : Int) ≤ gI s 47 ∧ gI s 47 ≤ 1 := hRs.1 47; omega) (hv71_1) (by show gI s3 1 = gI s 1; have : (0 : Int) ≤ gI s22 67 ∧ gI s22 67 ≤ 300 := hRs22.1 67; have : (0 : Int) ≤ gI s17 47 ∧ gI s17 47 ≤ 1 := hRs17.1 47; have : (0 : Int) ≤ gI s17 1 ∧ gI s17 1 ≤ 1600 := hRs17.1 1; have : (0 : Int) ≤ gI s40 67 ∧ gI s40 67 ≤ 300 := hRs40.1 67; have : (0 : Int) ≤ gI s 47 ∧ gI s 47 ≤ 1 := hRs.1 47; have : (0 : Int) ≤ gI s 1 ∧ gI s 1 ≤ 1600 := hRs.1 1; have : (0 : Int) ≤ gI s3 1 ∧ gI s3 1 ≤ 1600 := hRs3.1 1; omega) (by have : (0 : Int) ≤ gI s3 1 ∧ gI s3 1 ≤ 1600 := hRs3.1 1; have : (0 : Int) ≤ gI s22 67 ∧ gI s22 67 ≤ 300 := hRs22.1 67; have : (0 : Int) ≤ gI s17 47 ∧ gI s17 47 ≤ 1 := hRs17.1 47; have : (0 : Int) ≤ gI s 1 ∧ gI s 1 ≤ 1600 := hRs.1 1; have : (0 : Int) ≤ gI s17 1 ∧ gI s17 1 ≤ 1600 := hRs17.1 1; have : (0 : Int) ≤ gI s40 67 ∧ gI s40 67 ≤ 300 := hRs40.1 67; have : (0 : Int) ≤ gI s 47 ∧ gI s 47 ≤ 1 := hRs.1 47; omega)
            exact L71 FU 0 0 s22 hRs22 (by show 0 ≤ (0 : Int) ∧ (0 : Int) ≤ (0 : Int) ∧ (0 : Int) ≤ 48; have : (0 : Int) ≤ gI s22 67 ∧ gI s22 67 ≤ 300 := hRs22.1 67; have : (0 : Int) ≤ gI s17 47 ∧ gI s17 47 ≤ 1 := hRs17.1 47; have : (0 : Int) ≤ gI s 1 ∧ gI s 1 ≤ 1600 := hRs.1 1; have : (0 : Int) ≤ gI s17 1 ∧ gI s17 1 ≤ 1600 := hRs17.1 1; have : (0 : Int) ≤ gI s40 67 ∧ gI s40 67 ≤ 300 := hRs40.1 67; have : (0 : Int) ≤ gI s 47 ∧ gI s 47 ≤ 1 := hRs.1 47; omega) (JI_eq hv32_3 ⟨(Fs22.2.1 39 (by decide)), (Fs22.2.1 42 (by decide)), (Fs22.2.1 43 (by decide)), (Fs22.2.1 44 (by decide))⟩ (Fs22.2.1 49 (by decide)) (Fs22.2.1 75 (by decide)) (Fs22.1 76 (by decide)) (Fs22.1 77 (by decide)) (Fs22.1 47 (by decide)) (Fs22.2.2.1 78 (by decide))) (((Fs22.1 1 (by decide))).trans hv32_4.1) (by have := FU_big; have := FU_big2; have : (0 : Int) ≤ gI s22 67 ∧ gI s22 67 ≤ 300 := hRs22.1 67; have : (0 : Int) ≤ gI s17 47 ∧ gI s17 47 ≤ 1 := hRs17.1 47; have : (0 : Int) ≤ gI s 1 ∧ gI s 1 ≤ 1600 := hRs.1 1; have : (0 : Int) ≤ gI s17 1 ∧ gI s17 1 ≤ 1600 := hRs17.1 1; have : (0 : Int) ≤ gI s40 67 ∧ gI s40 67 ≤ 300 := hRs40.1 67; have : (0 : Int) ≤ gI s 47 ∧ gI s 47 ≤ 1 := hRs.1 47; omega)
          · skip
            refine wp_rdIn (by have : (0 : Int) ≤ gI s17 47 ∧ gI s17 47 ≤ 1 := hRs17.1 47; have : (0 : Int) ≤ gI s 1 ∧ gI s 1 ≤ 1600 := hRs.1 1; have : (0 : Int) ≤ gI s17 1 ∧ gI s17 1 ≤ 1600 := hRs17.1 1; have : (0 : Int) ≤ gI s40 67 ∧ gI s40 67 ≤ 300 := hRs40.1 67; have : (0 : Int) ≤ gI s 47 ∧ gI s 47 ≤ 1 := hRs.1 47; omega) (fun y23 ey23 => ?_)
            have by23 : (0 : Int) ≤ y23 ∧ y23 ≤ 1 := ey23 ▸ hRs17.2.1 63 _ (by show _ < 48; have : (0 : Int) ≤ gI s17 47 ∧ gI s17 47 ≤ 1 := hRs17.1 47; have : (0 : Int) ≤ gI s 1 ∧ gI s 1 ≤ 1600 := hRs.1 1; have : (0 : Int) ≤ gI s17 1 ∧ gI s17 1 ≤ 1600 := hRs17.1 1; have : (0 : Int) ≤ gI s40 67 ∧ gI s40 67 ≤ 300 := hRs40.1 67; have : (0 : Int) ≤ gI s 47 ∧ gI s 47 ≤ 1 := hRs.1 47; omega)
            have r23 : (0 : Int) ≤ y23 ∧ y23 ≤ 1 := ey23 ▸ hRs17.2.1 63 _ (by show _ < 48; omega)
            refine wp_inb (by have : (0 : Int) ≤ gI s17 47 ∧ gI s17 47 ≤ 1 := hRs17.1 47; have : (0 : Int) ≤ gI s 1 ∧ gI s 1 ≤ 1600 := hRs.1 1; have : (0 : Int) ≤ gI s17 1 ∧ gI s17 1 ≤ 1600 := hRs17.1 1; have : (0 : Int) ≤ gI s40 67 ∧ gI s40 67 ≤ 300 := hRs40.1 67; have : (0 : Int) ≤ gI s 47 ∧ gI s 47 ≤ 1 := hRs.1 47; omega) ?_
            refine wp_bo (by have : (0 : Int) ≤ gI s17 47 ∧ gI s17 47 ≤ 1 := hRs17.1 47; have : (0 : Int) ≤ gI s 1 ∧ gI s 1 ≤ 1600 := hRs.1 1; have : (0 : Int) ≤ gI s17 1 ∧ gI s17 1 ≤ 1600 := hRs17.1 1; have : (0 : Int) ≤ gI s40 67 ∧ gI s40 67 ≤ 300 := hRs40.1 67; have : (0 : Int) ≤ gI s 47 ∧ gI s 47 ≤ 1 := hRs.1 47; omega) ?_
            refine wp_stn (fun s26 es26 => ?_)
            have hRs26 : Rr s26 := es26 ▸ Rr.uAu hRs17 (by show (0 : Int) ≤ y23 ∧ y23 ≤ 1; have : (0 : Int) ≤ gI s17 47 ∧ gI s17 47 ≤ 1 := hRs17.1 47; have : (0 : Int) ≤ gI s 1 ∧ gI s 1 ≤ 1600 := hRs.1 1; have : (0 : Int) ≤ gI s17 1 ∧ gI s17 1 ≤ 1600 := hRs17.1 1; have : (0 : Int) ≤ gI s40 67 ∧ gI s40 67 ≤ 300 := hRs40.1 67; have : (0 : Int) ≤ gI s 47 ∧ gI s 47 ≤ 1 := hRs.1 47; omega)
            exact ih32 x15 (x16 + 1) s26 hRs26 (by show x15 = p1; have : (0 : Int) ≤ gI s17 47 ∧ gI s17 47 ≤ 1 := hRs17.1 47; have : (0 : Int) ≤ gI s 1 ∧ gI s 1 ≤ 1600 := hRs.1 1; have : (0 : Int) ≤ gI s17 1 ∧ gI s17 1 ≤ 1600 := hRs17.1 1; have : (0 : Int) ≤ gI s40 67 ∧ gI s40 67 ≤ 300 := hRs40.1 67; have : (0 : Int) ≤ gI s 47 ∧ gI s 47 ≤ 1 := hRs.1 47; omega) (by show 0 ≤ (x16 + 1) ∧ (x16 + 1) ≤ 48; have : (0 : Int) ≤ gI s17 47 ∧ gI s17 47 ≤ 1 := hRs17.1 47; have : (0 : Int) ≤ gI s 1 ∧ gI s 1 ≤ 1600 := hRs.1 1; have : (0 : Int) ≤ gI s17 1 ∧ gI s17 1 ≤ 1600 := hRs17.1 1; have : (0 : Int) ≤ gI s40 67 ∧ gI s40 67 ≤ 300 := hRs40.1 67; have : (0 : Int) ≤ gI s 47 ∧ gI s 47 ≤ 1 := hRs.1 47; omega) (((q_Aa es26 (by decide) : gA s26 49 = gA s17 49)).trans hv32_2) (JI_eq hv32_3 ⟨(q_Aa es26 (by decide) : gA s26 39 = gA s17 39), (q_Aa es26 (by decide) : gA s26 42 = gA s17 42), (q_Aa es26 (by decide) : gA s26 43 = gA s17 43), (q_Aa es26 (by decide) : gA s26 44 = gA s17 44)⟩ (q_Aa es26 (by decide) : gA s26 49 = gA s17 49) (q_Aa es26 (by decide) : gA s26 75 = gA s17 75) (q_Ai es26 : gI s26 76 = gI s17 76) (q_Ai es26 : gI s26 77 = gI s17 77) (q_Ai es26 : gI s26 47 = gI s17 47) (q_Al es26 : gL s26 78 = gL s17 78)) (⟨((q_Ai es26 : gI s26 1 = gI s17 1)).trans hv32_4.1, ((q_Ai es26 : gI s26 47 = gI s17 47)).trans hv32_4.2⟩) (by have : (0 : Int) ≤ gI s17 47 ∧ gI s17 47 ≤ 1 := hRs17.1 47; have : (0 : Int) ≤ gI s 1 ∧ gI s 1 ≤ 1600 := hRs.1 1; have : (0 : Int) ≤ gI s17 1 ∧ gI s17 1 ≤ 1600 := hRs17.1 1; have : (0 : Int) ≤ gI s40 67 ∧ gI s40 67 ≤ 300 := hRs40.1 67; have : (0 : Int) ≤ gI s 47 ∧ gI s 47 ≤ 1 := hRs.1 47; omega)
      exact L32 FU p1 0 s40 hRs40 (by show p1 = p1; have : (0 : Int) ≤ gI s40 67 ∧ gI s40 67 ≤ 300 := hRs40.1 67; have : (0 : Int) ≤ gI s 47 ∧ gI s 47 ≤ 1 := hRs.1 47; omega) (by show 0 ≤ (0 : Int) ∧ (0 : Int) ≤ 48; have : (0 : Int) ≤ gI s40 67 ∧ gI s40 67 ≤ 300 := hRs40.1 67; have : (0 : Int) ≤ gI s 47 ∧ gI s 47 ≤ 1 := hRs.1 47; omega) ((Fs40.2.1 49 (by decide))) (JI_eq hpJ ⟨(Fs40.2.1 39 (by decide)), (Fs40.2.1 42 (by decide)), (Fs40.2.1 43 (by decide)), (Fs40.2.1 44 (by decide))⟩ (Fs40.2.1 49 (by decide)) (Fs40.2.1 75 (by decide)) (Fs40.1 76 (by decide)) (Fs40.1 77 (by decide)) (Fs40.1 47 (by decide)) (Fs40.2.2.1 78 (by decide))) (⟨(Fs40.1 1 (by decide)), (Fs40.1 47 (by decide))⟩) (by have := FU_big; have := FU_big2; have : (0 : Int) ≤ gI s40 67 ∧ gI s40 67 ≤ 300 := hRs40.1 67; have : (0 : Int) ≤ gI s 47 ∧ gI s 47 ≤ 1 := hRs.1 47; omega)
set_option maxHeartbeats 2000000 in
theorem w_x12_laysLost {s : MS} (hRs : Rr s) (hp0 : JI s) : wp (m_x12_laysLost s) (fun o => (Rr o) ∧ (JI o) ∧ (gI o 1 = gI s 1) ∧ (∀ j, j < 48 → R2 (gA o 72 j))) := by
  have hpJ := hp0
  unfold m_x12_laysLost
  have L2 : ∀ (n : Nat) (x41 : Int) (s42 : MS), Rr s42 → (0 ≤ x41 ∧ x41 ≤ 48) → (gA s42 49 = gA s 49 ∧ JI s42 ∧ gI s42 1 = gI s 1 ∧ gI s42 47 = gI s 47) → (∀ j : Nat, (j : Int) < x41 → gA s42 72 j = 0) → (48 - x41) < (n : Int) → wp (m_x12_laysLost_L2 n x41 s42) (fun o => (Rr o) ∧ (JI o) ∧ (gI o 1 = gI s 1) ∧ (∀ j, j < 48 → R2 (gA o 72 j))) := by
    refine fr_ind (fun x41 s42 hRs42 hv2_0 hv2_1 hv2_2 hm2 => ?_) (fun n2 ih2 x41 s42 hRs42 hv2_0 hv2_1 hv2_2 hm2 => ?_)
    · exfalso; have : (0 : Int) ≤ gI s 47 ∧ gI s 47 ≤ 1 := hRs.1 47; have : (0 : Int) ≤ gI s42 47 ∧ gI s42 47 ≤ 1 := hRs42.1 47; have : (0 : Int) ≤ gI s 1 ∧ gI s 1 ≤ 1600 := hRs.1 1; have : (0 : Int) ≤ gI s42 1 ∧ gI s42 1 ≤ 1600 := hRs42.1 1; omega
    · show wp (m_x12_laysLost_b2 (m_x12_laysLost_L2 n2) x41 s42) _
      unfold m_x12_laysLost_b2
      refine wp_rg (by have : (0 : Int) ≤ gI s 47 ∧ gI s 47 ≤ 1 := hRs.1 47; have : (0 : Int) ≤ gI s42 47 ∧ gI s42 47 ≤ 1 := hRs42.1 47; have : (0 : Int) ≤ gI s 1 ∧ gI s 1 ≤ 1600 := hRs.1 1; have : (0 : Int) ≤ gI s42 1 ∧ gI s42 1 ≤ 1600 := hRs42.1 1; omega) ?_
      refine wp_if (fun c1 => ?_) (fun c1 => ?_)
      · skip
        have L23 : ∀ (n : Nat) (x1 : Int) (s2 : MS), Rr s2 → (0 ≤ x1 ∧ x1 ≤ 8) → (gA s2 49 = gA s 49 ∧ JI s2 ∧ gI s2 1 = gI s 1 ∧ gI s2 47 = gI s 47) → (∀ j, j < 48 → 0 ≤ gA s2 72 j ∧ gA s2 72 j ≤ 300 * x1) → (8 - x1) < (n : Int) → wp (m_x12_laysLost_L23 n x1 s2) (fun o => (Rr o) ∧ (JI o) ∧ (gI o 1 = gI s 1) ∧ (∀ j, j < 48 → R2 (gA o 72 j))) := by
          refine fr_ind (fun x1 s2 hRs2 hv23_0 hv23_1 hv23_2 hm23 => ?_) (fun n23 ih23 x1 s2 hRs2 hv23_0 hv23_1 hv23_2 hm23 => ?_)
          · exfalso; have : (0 : Int) ≤ gI s 47 ∧ gI s 47 ≤ 1 := hRs.1 47; have : (0 : Int) ≤ gI s2 47 ∧ gI s2 47 ≤ 1 := hRs2.1 47; have : (0 : Int) ≤ gI s 1 ∧ gI s 1 ≤ 1600 := hRs.1 1; have : (0 : Int) ≤ gI s2 1 ∧ gI s2 1 ≤ 1600 := hRs2.1 1; omega
          · show wp (m_x12_laysLost_b23 (m_x12_laysLost_L23 n23) x1 s2) _
            unfold m_x12_laysLost_b23
            refine wp_rg (by have : (0 : Int) ≤ gI s2 47 ∧ gI s2 47 ≤ 1 := hRs2.1 47; have : (0 : Int) ≤ gI s2 1 ∧ gI s2 1 ≤ 1600 := hRs2.1 1; have : (0 : Int) ≤ gI s 47 ∧ gI s 47 ≤ 1 := hRs.1 47; have : (0 : Int) ≤ gI s42 47 ∧ gI s42 47 ≤ 1 := hRs42.1 47; have : (0 : Int) ≤ gI s 1 ∧ gI s 1 ≤ 1600 := hRs.1 1; have : (0 : Int) ≤ gI s42 1 ∧ gI s42 1 ≤ 1600 := hRs42.1 1; omega) ?_
            refine wp_if (fun c2 => ?_) (fun c2 => ?_)
            · skip
              exact wp_some ⟨hRs2, hv23_1.2.1, hv23_1.2.2.1, fun j hj => by have z := hv23_2 j hj; omega⟩
            · skip
              refine wp_rg (by have : (0 : Int) ≤ gI s2 47 ∧ gI s2 47 ≤ 1 := hRs2.1 47; have : (0 : Int) ≤ gI s2 1 ∧ gI s2 1 ≤ 1600 := hRs2.1 1; have : (0 : Int) ≤ gI s 47 ∧ gI s 47 ≤ 1 := hRs.1 47; have : (0 : Int) ≤ gI s42 47 ∧ gI s42 47 ≤ 1 := hRs42.1 47; have : (0 : Int) ≤ gI s 1 ∧ gI s 1 ≤ 1600 := hRs.1 1; have : (0 : Int) ≤ gI s42 1 ∧ gI s42 1 ≤ 1600 := hRs42.1 1; omega) ?_
              refine wp_bn (wv_x12_isVolume hRs2 (by show R8 x1; have : (0 : Int) ≤ gI s2 47 ∧ gI s2 47 ≤ 1 := hRs2.1 47; have : (0 : Int) ≤ gI s2 1 ∧ gI s2 1 ≤ 1600 := hRs2.1 1; have : (0 : Int) ≤ gI s 47 ∧ gI s 47 ≤ 1 := hRs.1 47; have : (0 : Int) ≤ gI s42 47 ∧ gI s42 47 ≤ 1 := hRs42.1 47; have : (0 : Int) ≤ gI s 1 ∧ gI s 1 ≤ 1600 := hRs.1 1; have : (0 : Int) ≤ gI s42 1 ∧ gI s42 1 ≤ 1600 := hRs42.1 1; omega)) (fun r35 er35 hr35 => ?_)
              obtain ⟨hr35_0, hr35_1⟩ := hr35
              have hr35_0 : (r35 = 1 ∧ (0 ≤ x1 ∧ x1 < 8) ∧ gI s2 47 ≠ 0 ∧ gA s2 49 x1.toNat ≠ 255) ∨ r35 = 0 := hr35_0
              have hr35_1 : 0 ≤ x1 ∧ x1 < 8 → r35 = ivol s2 x1.toNat := hr35_1
              refine wp_rg (by have : (0 : Int) ≤ gI s2 47 ∧ gI s2 47 ≤ 1 := hRs2.1 47; have : (0 : Int) ≤ gI s2 1 ∧ gI s2 1 ≤ 1600 := hRs2.1 1; have : (0 : Int) ≤ gI s 47 ∧ gI s 47 ≤ 1 := hRs.1 47; have : (0 : Int) ≤ gI s42 47 ∧ gI s42 47 ≤ 1 := hRs42.1 47; have : (0 : Int) ≤ gI s 1 ∧ gI s 1 ≤ 1600 := hRs.1 1; have : (0 : Int) ≤ gI s42 1 ∧ gI s42 1 ≤ 1600 := hRs42.1 1; omega) ?_
              refine wp_if (fun c3 => ?_) (fun c3 => ?_)
              · skip
                unfold m_x12_laysLost_J122
                exact ih23 (x1 + 1) s2 hRs2 (by show 0 ≤ (x1 + 1) ∧ (x1 + 1) ≤ 8; have : (0 : Int) ≤ gI s2 47 ∧ gI s2 47 ≤ 1 := hRs2.1 47; have : (0 : Int) ≤ gI s2 1 ∧ gI s2 1 ≤ 1600 := hRs2.1 1; have : (0 : Int) ≤ gI s 47 ∧ gI s 47 ≤ 1 := hRs.1 47; have : (0 : Int) ≤ gI s42 47 ∧ gI s42 47 ≤ 1 := hRs42.1 47; have : (0 : Int) ≤ gI s 1 ∧ gI s 1 ≤ 1600 := hRs.1 1; have : (0 : Int) ≤ gI s42 1 ∧ gI s42 1 ≤ 1600 := hRs42.1 1; omega) (hv23_1) (fun j hj => by have z := hv23_2 j hj; omega) (by have : (0 : Int) ≤ gI s2 47 ∧ gI s2 47 ≤ 1 := hRs2.1 47; have : (0 : Int) ≤ gI s2 1 ∧ gI s2 1 ≤ 1600 := hRs2.1 1; have : (0 : Int) ≤ gI s 47 ∧ gI s 47 ≤ 1 := hRs.1 47; have : (0 : Int) ≤ gI s42 47 ∧ gI s42 47 ≤ 1 := hRs42.1 47; have : (0 : Int) ≤ gI s 1 ∧ gI s 1 ≤ 1600 := hRs.1 1; have : (0 : Int) ≤ gI s42 1 ∧ gI s42 1 ≤ 1600 := hRs42.1 1; omega)
              · skip
                refine wp_rdIn (by have : (0 : Int) ≤ gI s2 47 ∧ gI s2 47 ≤ 1 := hRs2.1 47; have : (0 : Int) ≤ gI s2 1 ∧ gI s2 1 ≤ 1600 := hRs2.1 1; have : (0 : Int) ≤ gI s 47 ∧ gI s 47 ≤ 1 := hRs.1 47; have : (0 : Int) ≤ gI s42 47 ∧ gI s42 47 ≤ 1 := hRs42.1 47; have : (0 : Int) ≤ gI s 1 ∧ gI s 1 ≤ 1600 := hRs.1 1; have : (0 : Int) ≤ gI s42 1 ∧ gI s42 1 ≤ 1600 := hRs42.1 1; omega) (fun y38 ey38 => ?_)
                have by38 : (-2147483648 : Int) ≤ y38 ∧ y38 ≤ 2147483647 := ey38 ▸ hRs2.2.1 49 _ (by show _ < 906; have : (0 : Int) ≤ gI s2 47 ∧ gI s2 47 ≤ 1 := hRs2.1 47; have : (0 : Int) ≤ gI s2 1 ∧ gI s2 1 ≤ 1600 := hRs2.1 1; have : (0 : Int) ≤ gI s 47 ∧ gI s 47 ≤ 1 := hRs.1 47; have : (0 : Int) ≤ gI s42 47 ∧ gI s42 47 ≤ 1 := hRs42.1 47; have : (0 : Int) ≤ gI s 1 ∧ gI s 1 ≤ 1600 := hRs.1 1; have : (0 : Int) ≤ gI s42 1 ∧ gI s42 1 ≤ 1600 := hRs42.1 1; omega)
                have k38 : gA s2 49 x1.toNat = y38 := ey38
                have kt : gI s2 47 ≠ 0 := by omega
                have kG2 := JI_GA hv23_1.2.1 kt
                have kb2 := kG2.1.1.2 x1.toNat (by omega)
                have kGs := JI_GA hpJ (by have z := hv23_1.2.2.2; omega)
                refine wp_bn (mt_laysTree hRs2 (kG2.1.1.1) (by show R2 y38; have : (0 : Int) ≤ gI s2 47 ∧ gI s2 47 ≤ 1 := hRs2.1 47; have : (0 : Int) ≤ gI s2 1 ∧ gI s2 1 ≤ 1600 := hRs2.1 1; have : (0 : Int) ≤ gI s 47 ∧ gI s 47 ≤ 1 := hRs.1 47; have : (0 : Int) ≤ gI s42 47 ∧ gI s42 47 ≤ 1 := hRs42.1 47; have : (0 : Int) ≤ gI s 1 ∧ gI s 1 ≤ 1600 := hRs.1 1; have : (0 : Int) ≤ gI s42 1 ∧ gI s42 1 ≤ 1600 := hRs42.1 1; omega) (fun h9 => by have z := RT_tree (u := x1.toNat) kG2.1.1.1 (by omega) (by omega) (by omega); have z2 := RT_root (u := x1.toNat) kG2.1.1.1 (by omega) (by omega) (by omega); rw [k38] at z z2; exact ⟨by omega, z⟩)) (fun s40 es40 hs40 => ?_)
                have Fs40 : F_x12_laysTree s2 s40 := fr_x12_laysTree es40
                obtain ⟨hRs40, hs40_0, hs40_1⟩ := hs40
                have hs40_0 : F_x12_laysTree s2 s40 := hs40_0
                have hs40_1 : 254 ≤ y38 → gI s40 67 = 0 := hs40_1
                have L53 : ∀ (n : Nat) (x5 : Int) (x6 : Int) (s7 : MS), Rr s7 → (x5 = x1 ∧ (0 ≤ x1 ∧ x1 < 8)) → (0 ≤ x6 ∧ x6 ≤ 300) → (gA s7 49 = gA s 49 ∧ JI s7 ∧ gI s7 1 = gI s 1 ∧ gI s7 47 = gI s 47) → (∀ j, j < 48 → 0 ≤ gA s7 72 j ∧ gA s7 72 j ≤ 300 * x1 + x6) → (254 ≤ gA s 49 x1.toNat → gI s7 67 = 0) → (GA s ∧ gA s 49 x1.toNat ≠ 255) → (300 - x6) < (n : Int) → wp (m_x12_laysLost_L53 (m_x12_laysLost_L23 n23) n x5 x6 s7) (fun o => (Rr o) ∧ (JI o) ∧ (gI o 1 = gI s 1) ∧ (∀ j, j < 48 → R2 (gA o 72 j))) := by
                  refine fr_ind (fun x5 x6 s7 hRs7 hv53_0 hv53_1 hv53_2 hv53_3 hv53_4 hv53_5 hm53 => ?_) (fun n53 ih53 x5 x6 s7 hRs7 hv53_0 hv53_1 hv53_2 hv53_3 hv53_4 hv53_5 hm53 => ?_)
                  · exfalso; have : (0 : Int) ≤ gI s7 67 ∧ gI s7 67 ≤ 300 := hRs7.1 67; have : (0 : Int) ≤ gI s 47 ∧ gI s 47 ≤ 1 := hRs.1 47; have : (0 : Int) ≤ gI s7 47 ∧ gI s7 47 ≤ 1 := hRs7.1 47; have : (0 : Int) ≤ gI s 1 ∧ gI s 1 ≤ 1600 := hRs.1 1; have : (0 : Int) ≤ gI s7 1 ∧ gI s7 1 ≤ 1600 := hRs7.1 1; omega
                  · show wp (m_x12_laysLost_b53 (m_x12_laysLost_L23 n23) (m_x12_laysLost_L53 (m_x12_laysLost_L23 n23) n53) x5 x6 s7) _
                    unfold m_x12_laysLost_b53
                    have r67 : (0 : Int) ≤ gI s7 67 ∧ gI s7 67 ≤ 300 := hRs7.1 67
                    refine wp_rg (by have : (0 : Int) ≤ gI s7 67 ∧ gI s7 67 ≤ 300 := hRs7.1 67; have : (0 : Int) ≤ gI s7 47 ∧ gI s7 47 ≤ 1 := hRs7.1 47; have : (0 : Int) ≤ gI s7 1 ∧ gI s7 1 ≤ 1600 := hRs7.1 1; have : (0 : Int) ≤ gI s40 67 ∧ gI s40 67 ≤ 300 := hRs40.1 67; have : (0 : Int) ≤ gI s2 47 ∧ gI s2 47 ≤ 1 := hRs2.1 47; have : (0 : Int) ≤ gI s2 1 ∧ gI s2 1 ≤ 1600 := hRs2.1 1; have : (0 : Int) ≤ gI s 47 ∧ gI s 47 ≤ 1 := hRs.1 47; have : (0 : Int) ≤ gI s42 47 ∧ gI s42 47 ≤ 1 := hRs42.1 47; have : (0 : Int) ≤ gI s 1 ∧ gI s 1 ≤ 1600 := hRs.1 1; have : (0 : Int) ≤ gI s42 1 ∧ gI s42 1 ≤ 1600 := hRs42.1 1; omega) ?_
                    refine wp_rg (by have : (0 : Int) ≤ gI s7 47 ∧ gI s7 47 ≤ 1 := hRs7.1 47; have : (0 : Int) ≤ gI s7 1 ∧ gI s7 1 ≤ 1600 := hRs7.1 1; have : (0 : Int) ≤ gI s40 67 ∧ gI s40 67 ≤ 300 := hRs40.1 67; have : (0 : Int) ≤ gI s2 47 ∧ gI s2 47 ≤ 1 := hRs2.1 47; have : (0 : Int) ≤ gI s2 1 ∧ gI s2 1 ≤ 1600 := hRs2.1 1; have : (0 : Int) ≤ gI s 47 ∧ gI s 47 ≤ 1 := hRs.1 47; have : (0 : Int) ≤ gI s42 47 ∧ gI s42 47 ≤ 1 := hRs42.1 47; have : (0 : Int) ≤ gI s 1 ∧ gI s 1 ≤ 1600 := hRs.1 1; have : (0 : Int) ≤ gI s42 1 ∧ gI s42 1 ≤ 1600 := hRs42.1 1; have : (0 : Int) ≤ gI s7 67 ∧ gI s7 67 ≤ 300 := hRs7.1 67; omega) ?_
                    refine wp_if (fun c4 => ?_) (fun c4 => ?_)
                    · skip
                      unfold m_x12_laysLost_J122
                      exact ih23 (x5 + 1) s7 hRs7 (by show 0 ≤ (x5 + 1) ∧ (x5 + 1) ≤ 8; have : (0 : Int) ≤ gI s7 67 ∧ gI s7 67 ≤ 300 := hRs7.1 67; have : (0 : Int) ≤ gI s7 47 ∧ gI s7 47 ≤ 1 := hRs7.1 47; have : (0 : Int) ≤ gI s7 1 ∧ gI s7 1 ≤ 1600 := hRs7.1 1; have : (0 : Int) ≤ gI s40 67 ∧ gI s40 67 ≤ 300 := hRs40.1 67; have : (0 : Int) ≤ gI s2 47 ∧ gI s2 47 ≤ 1 := hRs2.1 47; have : (0 : Int) ≤ gI s2 1 ∧ gI s2 1 ≤ 1600 := hRs2.1 1; have : (0 : Int) ≤ gI s 47 ∧ gI s 47 ≤ 1 := hRs.1 47; have : (0 : Int) ≤ gI s42 47 ∧ gI s42 47 ≤ 1 := hRs42.1 47; have : (0 : Int) ≤ gI s 1 ∧ gI s 1 ≤ 1600 := hRs.1 1; have : (0 : Int) ≤ gI s42 1 ∧ gI s42 1 ≤ 1600 := hRs42.1 1; omega) (hv53_2) (fun j hj => by have z := hv53_3 j hj; omega) (by have : (0 : Int) ≤ gI s7 67 ∧ gI s7 67 ≤ 300 := hRs7.1 67; have : (0 : Int) ≤ gI s7 47 ∧ gI s7 47 ≤ 1 := hRs7.1 47; have : (0 : Int) ≤ gI s7 1 ∧ gI s7 1 ≤ 1600 := hRs7.1 1; have : (0 : Int) ≤ gI s40 67 ∧ gI s40 67 ≤ 300 := hRs40.1 67; have : (0 : Int) ≤ gI s2 47 ∧ gI s2 47 ≤ 1 := hRs2.1 47; have : (0 : Int) ≤ gI s2 1 ∧ gI s2 1 ≤ 1600 := hRs2.1 1; have : (0 : Int) ≤ gI s 47 ∧ gI s 47 ≤ 1 := hRs.1 47; have : (0 : Int) ≤ gI s42 47 ∧ gI s42 47 ≤ 1 := hRs42.1 47; have : (0 : Int) ≤ gI s 1 ∧ gI s 1 ≤ 1600 := hRs.1 1; have : (0 : Int) ≤ gI s42 1 ∧ gI s42 1 ≤ 1600 := hRs42.1 1; omega)
                    · skip
                      refine wp_rdIn (by have : (0 : Int) ≤ gI s7 67 ∧ gI s7 67 ≤ 300 := hRs7.1 67; have : (0 : Int) ≤ gI s7 47 ∧ gI s7 47 ≤ 1 := hRs7.1 47; have : (0 : Int) ≤ gI s7 1 ∧ gI s7 1 ≤ 1600 := hRs7.1 1; have : (0 : Int) ≤ gI s40 67 ∧ gI s40 67 ≤ 300 := hRs40.1 67; have : (0 : Int) ≤ gI s2 47 ∧ gI s2 47 ≤ 1 := hRs2.1 47; have : (0 : Int) ≤ gI s2 1 ∧ gI s2 1 ≤ 1600 := hRs2.1 1; have : (0 : Int) ≤ gI s 47 ∧ gI s 47 ≤ 1 := hRs.1 47; have : (0 : Int) ≤ gI s42 47 ∧ gI s42 47 ≤ 1 := hRs42.1 47; have : (0 : Int) ≤ gI s 1 ∧ gI s 1 ≤ 1600 := hRs.1 1; have : (0 : Int) ≤ gI s42 1 ∧ gI s42 1 ≤ 1600 := hRs42.1 1; omega) (fun y30 ey30 => ?_)
                      have by30 : (-2147483648 : Int) ≤ y30 ∧ y30 ≤ 2147483647 := ey30 ▸ hRs7.2.1 49 _ (by show _ < 906; have : (0 : Int) ≤ gI s7 67 ∧ gI s7 67 ≤ 300 := hRs7.1 67; have : (0 : Int) ≤ gI s7 47 ∧ gI s7 47 ≤ 1 := hRs7.1 47; have : (0 : Int) ≤ gI s7 1 ∧ gI s7 1 ≤ 1600 := hRs7.1 1; have : (0 : Int) ≤ gI s40 67 ∧ gI s40 67 ≤ 300 := hRs40.1 67; have : (0 : Int) ≤ gI s2 47 ∧ gI s2 47 ≤ 1 := hRs2.1 47; have : (0 : Int) ≤ gI s2 1 ∧ gI s2 1 ≤ 1600 := hRs2.1 1; have : (0 : Int) ≤ gI s 47 ∧ gI s 47 ≤ 1 := hRs.1 47; have : (0 : Int) ≤ gI s42 47 ∧ gI s42 47 ≤ 1 := hRs42.1 47; have : (0 : Int) ≤ gI s 1 ∧ gI s 1 ≤ 1600 := hRs.1 1; have : (0 : Int) ≤ gI s42 1 ∧ gI s42 1 ≤ 1600 := hRs42.1 1; omega)
                      have k30 : gA s 49 x1.toNat = y30 := by rw [← ey30, hv53_2.1, hv53_0.1]
                      have kbs := hv53_5.1.1.1.2 x1.toNat (by omega)
                      have klt : gA s 49 x1.toNat < 254 := by
                        by_cases z : 254 ≤ gA s 49 x1.toNat
                        · have := hv53_4 z; omega
                        · omega
                      have kr := RT_root (u := x1.toNat) hv53_5.1.1.1.1 (by omega) (by omega) klt
                      rw [k30] at kr
                      have kdn := DW_nd hv53_5.1.1.1.1 (by omega) kr.2.1
                      have L68 : ∀ (n : Nat) (x8 : Int) (x9 : Int) (x10 : Int) (s11 : MS), Rr s11 → (x8 = x1 ∧ x9 = x6) → ((0 ≤ x10 ∧ x10 < 48) ∧ DW s x10.toNat) → (gA s11 49 = gA s 49 ∧ JI s11 ∧ gI s11 1 = gI s 1 ∧ gI s11 47 = gI s 47) → (∀ j, j < 48 → 0 ≤ gA s11 72 j ∧ gA s11 72 j ≤ 300 * x1 + x6 + 1) → (∀ j, j < 48 → (hM s).1 j ≤ (hM s).1 x10.toNat → gA s11 72 j ≤ 300 * x1 + x6) → (gI s11 67 = gI s7 67) → ((hM s).1 x10.toNat) < (n : Int) → wp (m_x12_laysLost_L68 (m_x12_laysLost_L23 n23) (m_x12_laysLost_L53 (m_x12_laysLost_L23 n23) n53) n x8 x9 x10 s11) (fun o => (Rr o) ∧ (JI o) ∧ (gI o 1 = gI s 1) ∧ (∀ j, j < 48 → R2 (gA o 72 j))) := by
                        refine fr_ind (fun x8 x9 x10 s11 hRs11 hv68_0 hv68_1 hv68_2 hv68_3 hv68_4 hv68_5 hm68 => ?_) (fun n68 ih68 x8 x9 x10 s11 hRs11 hv68_0 hv68_1 hv68_2 hv68_3 hv68_4 hv68_5 hm68 => ?_)
                        · exfalso; have : (0 : Int) ≤ gI s7 67 ∧ gI s7 67 ≤ 300 := hRs7.1 67; have : (0 : Int) ≤ gI s11 67 ∧ gI s11 67 ≤ 300 := hRs11.1 67; have : (0 : Int) ≤ gI s 47 ∧ gI s 47 ≤ 1 := hRs.1 47; have : (0 : Int) ≤ gI s11 47 ∧ gI s11 47 ≤ 1 := hRs11.1 47; have : (0 : Int) ≤ gI s 1 ∧ gI s 1 ≤ 1600 := hRs.1 1; have : (0 : Int) ≤ gI s11 1 ∧ gI s11 1 ≤ 1600 := hRs11.1 1; have kd := DW_nd hv53_5.1.1.1.1 (by omega) hv68_1.2; omega
                        · show wp (m_x12_laysLost_b68 (m_x12_laysLost_L23 n23) (m_x12_laysLost_L53 (m_x12_laysLost_L23 n23) n53) (m_x12_laysLost_L68 (m_x12_laysLost_L23 n23) (m_x12_laysLost_L53 (m_x12_laysLost_L23 n23) n53) n68) x8 x9 x10 s11) _
                          unfold m_x12_laysLost_b68
                          have kd := DW_nd hv53_5.1.1.1.1 (by omega) hv68_1.2
                          have e49 := eq49 hv68_2.1
                          have kz1 := hv68_3 x10.toNat (by omega)
                          have kz2 := hv68_4 x10.toNat (by omega) (Int.le_refl _)
                          refine wp_bn (w_x12_levelOf hRs11 (by show 0 ≤ x10 ∧ x10 < 48; have : (0 : Int) ≤ gI s11 67 ∧ gI s11 67 ≤ 300 := hRs11.1 67; have : (0 : Int) ≤ gI s11 47 ∧ gI s11 47 ≤ 1 := hRs11.1 47; have : (0 : Int) ≤ gI s11 1 ∧ gI s11 1 ≤ 1600 := hRs11.1 1; have : (0 : Int) ≤ gI s7 67 ∧ gI s7 67 ≤ 300 := hRs7.1 67; have : (0 : Int) ≤ gI s7 47 ∧ gI s7 47 ≤ 1 := hRs7.1 47; have : (0 : Int) ≤ gI s7 1 ∧ gI s7 1 ≤ 1600 := hRs7.1 1; have : (0 : Int) ≤ gI s40 67 ∧ gI s40 67 ≤ 300 := hRs40.1 67; have : (0 : Int) ≤ gI s2 47 ∧ gI s2 47 ≤ 1 := hRs2.1 47; have : (0 : Int) ≤ gI s2 1 ∧ gI s2 1 ≤ 1600 := hRs2.1 1; have : (0 : Int) ≤ gI s 47 ∧ gI s 47 ≤ 1 := hRs.1 47; have : (0 : Int) ≤ gI s42 47 ∧ gI s42 47 ≤ 1 := hRs42.1 47; have : (0 : Int) ≤ gI s 1 ∧ gI s 1 ≤ 1600 := hRs.1 1; have : (0 : Int) ≤ gI s42 1 ∧ gI s42 1 ≤ 1600 := hRs42.1 1; omega)) (fun r13 er13 hr13 => ?_)
                          obtain ⟨hr13_0, hr13_1⟩ := hr13
                          have hr13_0 : r13 = (hM s11).1 x10.toNat := hr13_0
                          have hr13_1 : R2 r13 := hr13_1
                          rw [e49.1] at hr13_0
                          refine wp_rg (by have : (0 : Int) ≤ gI s11 67 ∧ gI s11 67 ≤ 300 := hRs11.1 67; have : (0 : Int) ≤ gI s11 47 ∧ gI s11 47 ≤ 1 := hRs11.1 47; have : (0 : Int) ≤ gI s11 1 ∧ gI s11 1 ≤ 1600 := hRs11.1 1; have : (0 : Int) ≤ gI s7 67 ∧ gI s7 67 ≤ 300 := hRs7.1 67; have : (0 : Int) ≤ gI s7 47 ∧ gI s7 47 ≤ 1 := hRs7.1 47; have : (0 : Int) ≤ gI s7 1 ∧ gI s7 1 ≤ 1600 := hRs7.1 1; have : (0 : Int) ≤ gI s40 67 ∧ gI s40 67 ≤ 300 := hRs40.1 67; have : (0 : Int) ≤ gI s2 47 ∧ gI s2 47 ≤ 1 := hRs2.1 47; have : (0 : Int) ≤ gI s2 1 ∧ gI s2 1 ≤ 1600 := hRs2.1 1; have : (0 : Int) ≤ gI s 47 ∧ gI s 47 ≤ 1 := hRs.1 47; have : (0 : Int) ≤ gI s42 47 ∧ gI s42 47 ≤ 1 := hRs42.1 47; have : (0 : Int) ≤ gI s 1 ∧ gI s 1 ≤ 1600 := hRs.1 1; have : (0 : Int) ≤ gI s42 1 ∧ gI s42 1 ≤ 1600 := hRs42.1 1; omega) ?_
                          refine wp_if (fun c5 => ?_) (fun c5 => ?_)
                          · skip
                            refine wp_rdIn (by have : (0 : Int) ≤ gI s11 67 ∧ gI s11 67 ≤ 300 := hRs11.1 67; have : (0 : Int) ≤ gI s11 47 ∧ gI s11 47 ≤ 1 := hRs11.1 47; have : (0 : Int) ≤ gI s11 1 ∧ gI s11 1 ≤ 1600 := hRs11.1 1; have : (0 : Int) ≤ gI s7 67 ∧ gI s7 67 ≤ 300 := hRs7.1 67; have : (0 : Int) ≤ gI s7 47 ∧ gI s7 47 ≤ 1 := hRs7.1 47; have : (0 : Int) ≤ gI s7 1 ∧ gI s7 1 ≤ 1600 := hRs7.1 1; have : (0 : Int) ≤ gI s40 67 ∧ gI s40 67 ≤ 300 := hRs40.1 67; have : (0 : Int) ≤ gI s2 47 ∧ gI s2 47 ≤ 1 := hRs2.1 47; have : (0 : Int) ≤ gI s2 1 ∧ gI s2 1 ≤ 1600 := hRs2.1 1; have : (0 : Int) ≤ gI s 47 ∧ gI s 47 ≤ 1 := hRs.1 47; have : (0 : Int) ≤ gI s42 47 ∧ gI s42 47 ≤ 1 := hRs42.1 47; have : (0 : Int) ≤ gI s 1 ∧ gI s 1 ≤ 1600 := hRs.1 1; have : (0 : Int) ≤ gI s42 1 ∧ gI s42 1 ≤ 1600 := hRs42.1 1; omega) (fun y16 ey16 => ?_)
                            have by16 : (-2147483648 : Int) ≤ y16 ∧ y16 ≤ 2147483647 := ey16 ▸ hRs11.2.1 72 _ (by show _ < 48; have : (0 : Int) ≤ gI s11 67 ∧ gI s11 67 ≤ 300 := hRs11.1 67; have : (0 : Int) ≤ gI s11 47 ∧ gI s11 47 ≤ 1 := hRs11.1 47; have : (0 : Int) ≤ gI s11 1 ∧ gI s11 1 ≤ 1600 := hRs11.1 1; have : (0 : Int) ≤ gI s7 67 ∧ gI s7 67 ≤ 300 := hRs7.1 67; have : (0 : Int) ≤ gI s7 47 ∧ gI s7 47 ≤ 1 := hRs7.1 47; have : (0 : Int) ≤ gI s7 1 ∧ gI s7 1 ≤ 1600 := hRs7.1 1; have : (0 : Int) ≤ gI s40 67 ∧ gI s40 67 ≤ 300 := hRs40.1 67; have : (0 : Int) ≤ gI s2 47 ∧ gI s2 47 ≤ 1 := hRs2.1 47; have : (0 : Int) ≤ gI s2 1 ∧ gI s2 1 ≤ 1600 := hRs2.1 1; have : (0 : Int) ≤ gI s 47 ∧ gI s 47 ≤ 1 := hRs.1 47; have : (0 : Int) ≤ gI s42 47 ∧ gI s42 47 ≤ 1 := hRs42.1 47; have : (0 : Int) ≤ gI s 1 ∧ gI s 1 ≤ 1600 := hRs.1 1; have : (0 : Int) ≤ gI s42 1 ∧ gI s42 1 ≤ 1600 := hRs42.1 1; omega)
                            refine wp_inb (by have : (0 : Int) ≤ gI s11 67 ∧ gI s11 67 ≤ 300 := hRs11.1 67; have : (0 : Int) ≤ gI s11 47 ∧ gI s11 47 ≤ 1 := hRs11.1 47; have : (0 : Int) ≤ gI s11 1 ∧ gI s11 1 ≤ 1600 := hRs11.1 1; have : (0 : Int) ≤ gI s7 67 ∧ gI s7 67 ≤ 300 := hRs7.1 67; have : (0 : Int) ≤ gI s7 47 ∧ gI s7 47 ≤ 1 := hRs7.1 47; have : (0 : Int) ≤ gI s7 1 ∧ gI s7 1 ≤ 1600 := hRs7.1 1; have : (0 : Int) ≤ gI s40 67 ∧ gI s40 67 ≤ 300 := hRs40.1 67; have : (0 : Int) ≤ gI s2 47 ∧ gI s2 47 ≤ 1 := hRs2.1 47; have : (0 : Int) ≤ gI s2 1 ∧ gI s2 1 ≤ 1600 := hRs2.1 1; have : (0 : Int) ≤ gI s 47 ∧ gI s 47 ≤ 1 := hRs.1 47; have : (0 : Int) ≤ gI s42 47 ∧ gI s42 47 ≤ 1 := hRs42.1 47; have : (0 : Int) ≤ gI s 1 ∧ gI s 1 ≤ 1600 := hRs.1 1; have : (0 : Int) ≤ gI s42 1 ∧ gI s42 1 ≤ 1600 := hRs42.1 1; omega) ?_
                            refine wp_stn (fun s18 es18 => ?_)
                            have hRs18 : Rr s18 := es18 ▸ Rr.uAu hRs11 (by show (-2147483648 : Int) ≤ (y16 + 1) ∧ (y16 + 1) ≤ 2147483647; have : (0 : Int) ≤ gI s11 67 ∧ gI s11 67 ≤ 300 := hRs11.1 67; have : (0 : Int) ≤ gI s11 47 ∧ gI s11 47 ≤ 1 := hRs11.1 47; have : (0 : Int) ≤ gI s11 1 ∧ gI s11 1 ≤ 1600 := hRs11.1 1; have : (0 : Int) ≤ gI s7 67 ∧ gI s7 67 ≤ 300 := hRs7.1 67; have : (0 : Int) ≤ gI s7 47 ∧ gI s7 47 ≤ 1 := hRs7.1 47; have : (0 : Int) ≤ gI s7 1 ∧ gI s7 1 ≤ 1600 := hRs7.1 1; have : (0 : Int) ≤ gI s40 67 ∧ gI s40 67 ≤ 300 := hRs40.1 67; have : (0 : Int) ≤ gI s2 47 ∧ gI s2 47 ≤ 1 := hRs2.1 47; have : (0 : Int) ≤ gI s2 1 ∧ gI s2 1 ≤ 1600 := hRs2.1 1; have : (0 : Int) ≤ gI s 47 ∧ gI s 47 ≤ 1 := hRs.1 47; have : (0 : Int) ≤ gI s42 47 ∧ gI s42 47 ≤ 1 := hRs42.1 47; have : (0 : Int) ≤ gI s 1 ∧ gI s 1 ≤ 1600 := hRs.1 1; have : (0 : Int) ≤ gI s42 1 ∧ gI s42 1 ≤ 1600 := hRs42.1 1; omega)
                            exact ih53 x8 (x9 + 1) s18 hRs18 (by show x8 = x1 ∧ (0 ≤ x1 ∧ x1 < 8); have : (0 : Int) ≤ gI s11 67 ∧ gI s11 67 ≤ 300 := hRs11.1 67; have : (0 : Int) ≤ gI s11 47 ∧ gI s11 47 ≤ 1 := hRs11.1 47; have : (0 : Int) ≤ gI s11 1 ∧ gI s11 1 ≤ 1600 := hRs11.1 1; have : (0 : Int) ≤ gI s7 67 ∧ gI s7 67 ≤ 300 := hRs7.1 67; have : (0 : Int) ≤ gI s7 47 ∧ gI s7 47 ≤ 1 := hRs7.1 47; have : (0 : Int) ≤ gI s7 1 ∧ gI s7 1 ≤ 1600 := hRs7.1 1; have : (0 : Int) ≤ gI s40 67 ∧ gI s40 67 ≤ 300 := hRs40.1 67; have : (0 : Int) ≤ gI s2 47 ∧ gI s2 47 ≤ 1 := hRs2.1 47; have : (0 : Int) ≤ gI s2 1 ∧ gI s2 1 ≤ 1600 := hRs2.1 1; have : (0 : Int) ≤ gI s 47 ∧ gI s 47 ≤ 1 := hRs.1 47; have : (0 : Int) ≤ gI s42 47 ∧ gI s42 47 ≤ 1 := hRs42.1 47; have : (0 : Int) ≤ gI s 1 ∧ gI s 1 ≤ 1600 := hRs.1 1; have : (0 : Int) ≤ gI s42 1 ∧ gI s42 1 ≤ 1600 := hRs42.1 1; omega) (by show 0 ≤ (x9 + 1) ∧ (x9 + 1) ≤ 300; have : (0 : Int) ≤ gI s11 67 ∧ gI s11 67 ≤ 300 := hRs11.1 67; have : (0 : Int) ≤ gI s11 47 ∧ gI s11 47 ≤ 1 := hRs11.1 47; have : (0 : Int) ≤ gI s11 1 ∧ gI s11 1 ≤ 1600 := hRs11.1 1; have : (0 : Int) ≤ gI s7 67 ∧ gI s7 67 ≤ 300 := hRs7.1 67; have : (0 : Int) ≤ gI s7 47 ∧ gI s7 47 ≤ 1 := hRs7.1 47; have : (0 : Int) ≤ gI s7 1 ∧ gI s7 1 ≤ 1600 := hRs7.1 1; have : (0 : Int) ≤ gI s40 67 ∧ gI s40 67 ≤ 300 := hRs40.1 67; have : (0 : Int) ≤ gI s2 47 ∧ gI s2 47 ≤ 1 := hRs2.1 47; have : (0 : Int) ≤ gI s2 1 ∧ gI s2 1 ≤ 1600 := hRs2.1 1; have : (0 : Int) ≤ gI s 47 ∧ gI s 47 ≤ 1 := hRs.1 47; have : (0 : Int) ≤ gI s42 47 ∧ gI s42 47 ≤ 1 := hRs42.1 47; have : (0 : Int) ≤ gI s 1 ∧ gI s 1 ≤ 1600 := hRs.1 1; have : (0 : Int) ≤ gI s42 1 ∧ gI s42 1 ≤ 1600 := hRs42.1 1; omega) (⟨((q_Aa es18 (by decide) : gA s18 49 = gA s11 49)).trans hv68_2.1, JI_eq hv68_2.2.1 ⟨(q_Aa es18 (by decide) : gA s18 39 = gA s11 39), (q_Aa es18 (by decide) : gA s18 42 = gA s11 42), (q_Aa es18 (by decide) : gA s18 43 = gA s11 43), (q_Aa es18 (by decide) : gA s18 44 = gA s11 44)⟩ (q_Aa es18 (by decide) : gA s18 49 = gA s11 49) (q_Aa es18 (by decide) : gA s18 75 = gA s11 75) (q_Ai es18 : gI s18 76 = gI s11 76) (q_Ai es18 : gI s18 77 = gI s11 77) (q_Ai es18 : gI s18 47 = gI s11 47) (q_Al es18 : gL s18 78 = gL s11 78), ((q_Ai es18 : gI s18 1 = gI s11 1)).trans hv68_2.2.2.1, ((q_Ai es18 : gI s18 47 = gI s11 47)).trans hv68_2.2.2.2⟩) (fun j hj => by
          rw [(q_AA es18 : gA s18 72 = _)]
          by_cases z : j = x10.toNat
          · rw [z, upZ_s]; omega
          · rw [upZ_n z]; have z2 := hv68_3 j hj; omega) (fun h9 => by rw [((q_Ai es18 : gI s18 67 = gI s11 67)), hv68_5]; exact hv53_4 h9) (hv53_5) (by have : (0 : Int) ≤ gI s11 67 ∧ gI s11 67 ≤ 300 := hRs11.1 67; have : (0 : Int) ≤ gI s11 47 ∧ gI s11 47 ≤ 1 := hRs11.1 47; have : (0 : Int) ≤ gI s11 1 ∧ gI s11 1 ≤ 1600 := hRs11.1 1; have : (0 : Int) ≤ gI s7 67 ∧ gI s7 67 ≤ 300 := hRs7.1 67; have : (0 : Int) ≤ gI s7 47 ∧ gI s7 47 ≤ 1 := hRs7.1 47; have : (0 : Int) ≤ gI s7 1 ∧ gI s7 1 ≤ 1600 := hRs7.1 1; have : (0 : Int) ≤ gI s40 67 ∧ gI s40 67 ≤ 300 := hRs40.1 67; have : (0 : Int) ≤ gI s2 47 ∧ gI s2 47 ≤ 1 := hRs2.1 47; have : (0 : Int) ≤ gI s2 1 ∧ gI s2 1 ≤ 1600 := hRs2.1 1; have : (0 : Int) ≤ gI s 47 ∧ gI s 47 ≤ 1 := hRs.1 47; have : (0 : Int) ≤ gI s42 47 ∧ gI s42 47 ≤ 1 := hRs42.1 47; have : (0 : Int) ≤ gI s 1 ∧ gI s 1 ≤ 1600 := hRs.1 1; have : (0 : Int) ≤ gI s42 1 ∧ gI s42 1 ≤ 1600 := hRs42.1 1; omega)
                          · skip
                            refine wp_rdIn (by have : (0 : Int) ≤ gI s11 67 ∧ gI s11 67 ≤ 300 := hRs11.1 67; have : (0 : Int) ≤ gI s11 47 ∧ gI s11 47 ≤ 1 := hRs11.1 47; have : (0 : Int) ≤ gI s11 1 ∧ gI s11 1 ≤ 1600 := hRs11.1 1; have : (0 : Int) ≤ gI s7 67 ∧ gI s7 67 ≤ 300 := hRs7.1 67; have : (0 : Int) ≤ gI s7 47 ∧ gI s7 47 ≤ 1 := hRs7.1 47; have : (0 : Int) ≤ gI s7 1 ∧ gI s7 1 ≤ 1600 := hRs7.1 1; have : (0 : Int) ≤ gI s40 67 ∧ gI s40 67 ≤ 300 := hRs40.1 67; have : (0 : Int) ≤ gI s2 47 ∧ gI s2 47 ≤ 1 := hRs2.1 47; have : (0 : Int) ≤ gI s2 1 ∧ gI s2 1 ≤ 1600 := hRs2.1 1; have : (0 : Int) ≤ gI s 47 ∧ gI s 47 ≤ 1 := hRs.1 47; have : (0 : Int) ≤ gI s42 47 ∧ gI s42 47 ≤ 1 := hRs42.1 47; have : (0 : Int) ≤ gI s 1 ∧ gI s 1 ≤ 1600 := hRs.1 1; have : (0 : Int) ≤ gI s42 1 ∧ gI s42 1 ≤ 1600 := hRs42.1 1; omega) (fun y19 ey19 => ?_)
                            have by19 : (-2147483648 : Int) ≤ y19 ∧ y19 ≤ 2147483647 := ey19 ▸ hRs11.2.1 72 _ (by show _ < 48; have : (0 : Int) ≤ gI s11 67 ∧ gI s11 67 ≤ 300 := hRs11.1 67; have : (0 : Int) ≤ gI s11 47 ∧ gI s11 47 ≤ 1 := hRs11.1 47; have : (0 : Int) ≤ gI s11 1 ∧ gI s11 1 ≤ 1600 := hRs11.1 1; have : (0 : Int) ≤ gI s7 67 ∧ gI s7 67 ≤ 300 := hRs7.1 67; have : (0 : Int) ≤ gI s7 47 ∧ gI s7 47 ≤ 1 := hRs7.1 47; have : (0 : Int) ≤ gI s7 1 ∧ gI s7 1 ≤ 1600 := hRs7.1 1; have : (0 : Int) ≤ gI s40 67 ∧ gI s40 67 ≤ 300 := hRs40.1 67; have : (0 : Int) ≤ gI s2 47 ∧ gI s2 47 ≤ 1 := hRs2.1 47; have : (0 : Int) ≤ gI s2 1 ∧ gI s2 1 ≤ 1600 := hRs2.1 1; have : (0 : Int) ≤ gI s 47 ∧ gI s 47 ≤ 1 := hRs.1 47; have : (0 : Int) ≤ gI s42 47 ∧ gI s42 47 ≤ 1 := hRs42.1 47; have : (0 : Int) ≤ gI s 1 ∧ gI s 1 ≤ 1600 := hRs.1 1; have : (0 : Int) ≤ gI s42 1 ∧ gI s42 1 ≤ 1600 := hRs42.1 1; omega)
                            refine wp_inb (by have : (0 : Int) ≤ gI s11 67 ∧ gI s11 67 ≤ 300 := hRs11.1 67; have : (0 : Int) ≤ gI s11 47 ∧ gI s11 47 ≤ 1 := hRs11.1 47; have : (0 : Int) ≤ gI s11 1 ∧ gI s11 1 ≤ 1600 := hRs11.1 1; have : (0 : Int) ≤ gI s7 67 ∧ gI s7 67 ≤ 300 := hRs7.1 67; have : (0 : Int) ≤ gI s7 47 ∧ gI s7 47 ≤ 1 := hRs7.1 47; have : (0 : Int) ≤ gI s7 1 ∧ gI s7 1 ≤ 1600 := hRs7.1 1; have : (0 : Int) ≤ gI s40 67 ∧ gI s40 67 ≤ 300 := hRs40.1 67; have : (0 : Int) ≤ gI s2 47 ∧ gI s2 47 ≤ 1 := hRs2.1 47; have : (0 : Int) ≤ gI s2 1 ∧ gI s2 1 ≤ 1600 := hRs2.1 1; have : (0 : Int) ≤ gI s 47 ∧ gI s 47 ≤ 1 := hRs.1 47; have : (0 : Int) ≤ gI s42 47 ∧ gI s42 47 ≤ 1 := hRs42.1 47; have : (0 : Int) ≤ gI s 1 ∧ gI s 1 ≤ 1600 := hRs.1 1; have : (0 : Int) ≤ gI s42 1 ∧ gI s42 1 ≤ 1600 := hRs42.1 1; omega) ?_
                            refine wp_stn (fun s21 es21 => ?_)
                            have hRs21 : Rr s21 := es21 ▸ Rr.uAu hRs11 (by show (-2147483648 : Int) ≤ (y19 + 1) ∧ (y19 + 1) ≤ 2147483647; have : (0 : Int) ≤ gI s11 67 ∧ gI s11 67 ≤ 300 := hRs11.1 67; have : (0 : Int) ≤ gI s11 47 ∧ gI s11 47 ≤ 1 := hRs11.1 47; have : (0 : Int) ≤ gI s11 1 ∧ gI s11 1 ≤ 1600 := hRs11.1 1; have : (0 : Int) ≤ gI s7 67 ∧ gI s7 67 ≤ 300 := hRs7.1 67; have : (0 : Int) ≤ gI s7 47 ∧ gI s7 47 ≤ 1 := hRs7.1 47; have : (0 : Int) ≤ gI s7 1 ∧ gI s7 1 ≤ 1600 := hRs7.1 1; have : (0 : Int) ≤ gI s40 67 ∧ gI s40 67 ≤ 300 := hRs40.1 67; have : (0 : Int) ≤ gI s2 47 ∧ gI s2 47 ≤ 1 := hRs2.1 47; have : (0 : Int) ≤ gI s2 1 ∧ gI s2 1 ≤ 1600 := hRs2.1 1; have : (0 : Int) ≤ gI s 47 ∧ gI s 47 ≤ 1 := hRs.1 47; have : (0 : Int) ≤ gI s42 47 ∧ gI s42 47 ≤ 1 := hRs42.1 47; have : (0 : Int) ≤ gI s 1 ∧ gI s 1 ≤ 1600 := hRs.1 1; have : (0 : Int) ≤ gI s42 1 ∧ gI s42 1 ≤ 1600 := hRs42.1 1; omega)
                            have u21 : gA s21 72 = upZ (gA s11 72) x10.toNat (y19 + 1) := q_AA es21
                            have f49 : gA s21 49 = gA s 49 := ((q_Aa es21 (by decide) : gA s21 49 = gA s11 49)).trans hv68_2.1
                            have f1 := (eq49 f49).1
                            refine wp_rdIn (by have : (0 : Int) ≤ gI s11 67 ∧ gI s11 67 ≤ 300 := hRs11.1 67; have : (0 : Int) ≤ gI s11 47 ∧ gI s11 47 ≤ 1 := hRs11.1 47; have : (0 : Int) ≤ gI s11 1 ∧ gI s11 1 ≤ 1600 := hRs11.1 1; have : (0 : Int) ≤ gI s7 67 ∧ gI s7 67 ≤ 300 := hRs7.1 67; have : (0 : Int) ≤ gI s7 47 ∧ gI s7 47 ≤ 1 := hRs7.1 47; have : (0 : Int) ≤ gI s7 1 ∧ gI s7 1 ≤ 1600 := hRs7.1 1; have : (0 : Int) ≤ gI s40 67 ∧ gI s40 67 ≤ 300 := hRs40.1 67; have : (0 : Int) ≤ gI s2 47 ∧ gI s2 47 ≤ 1 := hRs2.1 47; have : (0 : Int) ≤ gI s2 1 ∧ gI s2 1 ≤ 1600 := hRs2.1 1; have : (0 : Int) ≤ gI s 47 ∧ gI s 47 ≤ 1 := hRs.1 47; have : (0 : Int) ≤ gI s42 47 ∧ gI s42 47 ≤ 1 := hRs42.1 47; have : (0 : Int) ≤ gI s 1 ∧ gI s 1 ≤ 1600 := hRs.1 1; have : (0 : Int) ≤ gI s42 1 ∧ gI s42 1 ≤ 1600 := hRs42.1 1; omega) (fun y22 ey22 => ?_)
                            have by22 : (-2147483648 : Int) ≤ y22 ∧ y22 ≤ 2147483647 := ey22 ▸ hRs21.2.1 64 _ (by show _ < 300; have : (0 : Int) ≤ gI s11 67 ∧ gI s11 67 ≤ 300 := hRs11.1 67; have : (0 : Int) ≤ gI s11 47 ∧ gI s11 47 ≤ 1 := hRs11.1 47; have : (0 : Int) ≤ gI s11 1 ∧ gI s11 1 ≤ 1600 := hRs11.1 1; have : (0 : Int) ≤ gI s7 67 ∧ gI s7 67 ≤ 300 := hRs7.1 67; have : (0 : Int) ≤ gI s7 47 ∧ gI s7 47 ≤ 1 := hRs7.1 47; have : (0 : Int) ≤ gI s7 1 ∧ gI s7 1 ≤ 1600 := hRs7.1 1; have : (0 : Int) ≤ gI s40 67 ∧ gI s40 67 ≤ 300 := hRs40.1 67; have : (0 : Int) ≤ gI s2 47 ∧ gI s2 47 ≤ 1 := hRs2.1 47; have : (0 : Int) ≤ gI s2 1 ∧ gI s2 1 ≤ 1600 := hRs2.1 1; have : (0 : Int) ≤ gI s 47 ∧ gI s 47 ≤ 1 := hRs.1 47; have : (0 : Int) ≤ gI s42 47 ∧ gI s42 47 ≤ 1 := hRs42.1 47; have : (0 : Int) ≤ gI s 1 ∧ gI s 1 ≤ 1600 := hRs.1 1; have : (0 : Int) ≤ gI s42 1 ∧ gI s42 1 ≤ 1600 := hRs42.1 1; omega)
                            have r22 : R2 y22 := ey22 ▸ hRs21.2.1 64 _ (by show _ < 300; omega)
                            refine wp_bn (w_x12_placeFor hRs21 (by show 0 ≤ x10 ∧ x10 < 48; have : (0 : Int) ≤ gI s11 67 ∧ gI s11 67 ≤ 300 := hRs11.1 67; have : (0 : Int) ≤ gI s11 47 ∧ gI s11 47 ≤ 1 := hRs11.1 47; have : (0 : Int) ≤ gI s11 1 ∧ gI s11 1 ≤ 1600 := hRs11.1 1; have : (0 : Int) ≤ gI s7 67 ∧ gI s7 67 ≤ 300 := hRs7.1 67; have : (0 : Int) ≤ gI s7 47 ∧ gI s7 47 ≤ 1 := hRs7.1 47; have : (0 : Int) ≤ gI s7 1 ∧ gI s7 1 ≤ 1600 := hRs7.1 1; have : (0 : Int) ≤ gI s40 67 ∧ gI s40 67 ≤ 300 := hRs40.1 67; have : (0 : Int) ≤ gI s2 47 ∧ gI s2 47 ≤ 1 := hRs2.1 47; have : (0 : Int) ≤ gI s2 1 ∧ gI s2 1 ≤ 1600 := hRs2.1 1; have : (0 : Int) ≤ gI s 47 ∧ gI s 47 ≤ 1 := hRs.1 47; have : (0 : Int) ≤ gI s42 47 ∧ gI s42 47 ≤ 1 := hRs42.1 47; have : (0 : Int) ≤ gI s 1 ∧ gI s 1 ≤ 1600 := hRs.1 1; have : (0 : Int) ≤ gI s42 1 ∧ gI s42 1 ≤ 1600 := hRs42.1 1; omega) (by show R2 y22; have : (0 : Int) ≤ gI s11 67 ∧ gI s11 67 ≤ 300 := hRs11.1 67; have : (0 : Int) ≤ gI s11 47 ∧ gI s11 47 ≤ 1 := hRs11.1 47; have : (0 : Int) ≤ gI s11 1 ∧ gI s11 1 ≤ 1600 := hRs11.1 1; have : (0 : Int) ≤ gI s7 67 ∧ gI s7 67 ≤ 300 := hRs7.1 67; have : (0 : Int) ≤ gI s7 47 ∧ gI s7 47 ≤ 1 := hRs7.1 47; have : (0 : Int) ≤ gI s7 1 ∧ gI s7 1 ≤ 1600 := hRs7.1 1; have : (0 : Int) ≤ gI s40 67 ∧ gI s40 67 ≤ 300 := hRs40.1 67; have : (0 : Int) ≤ gI s2 47 ∧ gI s2 47 ≤ 1 := hRs2.1 47; have : (0 : Int) ≤ gI s2 1 ∧ gI s2 1 ≤ 1600 := hRs2.1 1; have : (0 : Int) ≤ gI s 47 ∧ gI s 47 ≤ 1 := hRs.1 47; have : (0 : Int) ≤ gI s42 47 ∧ gI s42 47 ≤ 1 := hRs42.1 47; have : (0 : Int) ≤ gI s 1 ∧ gI s 1 ≤ 1600 := hRs.1 1; have : (0 : Int) ≤ gI s42 1 ∧ gI s42 1 ≤ 1600 := hRs42.1 1; omega) (by show (0 ≤ (hM s21).2.1 x10.toNat ∧ (hM s21).2.1 x10.toNat ≤ 6); have : (0 : Int) ≤ gI s11 67 ∧ gI s11 67 ≤ 300 := hRs11.1 67; have : (0 : Int) ≤ gI s11 47 ∧ gI s11 47 ≤ 1 := hRs11.1 47; have : (0 : Int) ≤ gI s11 1 ∧ gI s11 1 ≤ 1600 := hRs11.1 1; have : (0 : Int) ≤ gI s7 67 ∧ gI s7 67 ≤ 300 := hRs7.1 67; have : (0 : Int) ≤ gI s7 47 ∧ gI s7 47 ≤ 1 := hRs7.1 47; have : (0 : Int) ≤ gI s7 1 ∧ gI s7 1 ≤ 1600 := hRs7.1 1; have : (0 : Int) ≤ gI s40 67 ∧ gI s40 67 ≤ 300 := hRs40.1 67; have : (0 : Int) ≤ gI s2 47 ∧ gI s2 47 ≤ 1 := hRs2.1 47; have : (0 : Int) ≤ gI s2 1 ∧ gI s2 1 ≤ 1600 := hRs2.1 1; have : (0 : Int) ≤ gI s 47 ∧ gI s 47 ≤ 1 := hRs.1 47; have : (0 : Int) ≤ gI s42 47 ∧ gI s42 47 ≤ 1 := hRs42.1 47; have : (0 : Int) ≤ gI s 1 ∧ gI s 1 ≤ 1600 := hRs.1 1; have : (0 : Int) ≤ gI s42 1 ∧ gI s42 1 ≤ 1600 := hRs42.1 1; rw [f1]; omega)) (fun r24 er24 hr24 => ?_)
                            have hr24_0 := hr24
                            have hr24_0 : 0 ≤ r24 ∧ r24 ≤ 5 ∧ (1 ≤ (hM s21).2.1 x10.toNat → r24 < (hM s21).2.1 x10.toNat) := hr24_0
                            rw [f1] at hr24_0
                            refine wp_bn (w_x12_valueAt hRs21 (by show 0 ≤ x10 ∧ x10 < 48; have : (0 : Int) ≤ gI s11 67 ∧ gI s11 67 ≤ 300 := hRs11.1 67; have : (0 : Int) ≤ gI s11 47 ∧ gI s11 47 ≤ 1 := hRs11.1 47; have : (0 : Int) ≤ gI s11 1 ∧ gI s11 1 ≤ 1600 := hRs11.1 1; have : (0 : Int) ≤ gI s7 67 ∧ gI s7 67 ≤ 300 := hRs7.1 67; have : (0 : Int) ≤ gI s7 47 ∧ gI s7 47 ≤ 1 := hRs7.1 47; have : (0 : Int) ≤ gI s7 1 ∧ gI s7 1 ≤ 1600 := hRs7.1 1; have : (0 : Int) ≤ gI s40 67 ∧ gI s40 67 ≤ 300 := hRs40.1 67; have : (0 : Int) ≤ gI s2 47 ∧ gI s2 47 ≤ 1 := hRs2.1 47; have : (0 : Int) ≤ gI s2 1 ∧ gI s2 1 ≤ 1600 := hRs2.1 1; have : (0 : Int) ≤ gI s 47 ∧ gI s 47 ≤ 1 := hRs.1 47; have : (0 : Int) ≤ gI s42 47 ∧ gI s42 47 ≤ 1 := hRs42.1 47; have : (0 : Int) ≤ gI s 1 ∧ gI s 1 ≤ 1600 := hRs.1 1; have : (0 : Int) ≤ gI s42 1 ∧ gI s42 1 ≤ 1600 := hRs42.1 1; omega) (by show 0 ≤ r24 ∧ r24 < 6; have : (0 : Int) ≤ gI s11 67 ∧ gI s11 67 ≤ 300 := hRs11.1 67; have : (0 : Int) ≤ gI s11 47 ∧ gI s11 47 ≤ 1 := hRs11.1 47; have : (0 : Int) ≤ gI s11 1 ∧ gI s11 1 ≤ 1600 := hRs11.1 1; have : (0 : Int) ≤ gI s7 67 ∧ gI s7 67 ≤ 300 := hRs7.1 67; have : (0 : Int) ≤ gI s7 47 ∧ gI s7 47 ≤ 1 := hRs7.1 47; have : (0 : Int) ≤ gI s7 1 ∧ gI s7 1 ≤ 1600 := hRs7.1 1; have : (0 : Int) ≤ gI s40 67 ∧ gI s40 67 ≤ 300 := hRs40.1 67; have : (0 : Int) ≤ gI s2 47 ∧ gI s2 47 ≤ 1 := hRs2.1 47; have : (0 : Int) ≤ gI s2 1 ∧ gI s2 1 ≤ 1600 := hRs2.1 1; have : (0 : Int) ≤ gI s 47 ∧ gI s 47 ≤ 1 := hRs.1 47; have : (0 : Int) ≤ gI s42 47 ∧ gI s42 47 ≤ 1 := hRs42.1 47; have : (0 : Int) ≤ gI s 1 ∧ gI s 1 ≤ 1600 := hRs.1 1; have : (0 : Int) ≤ gI s42 1 ∧ gI s42 1 ≤ 1600 := hRs42.1 1; omega)) (fun r26 er26 hr26 => ?_)
                            obtain ⟨hr26_0, hr26_1⟩ := hr26
                            have hr26_0 : r26 = (hM s21).2.2 x10.toNat r24.toNat := hr26_0
                            have hr26_1 : R2 r26 := hr26_1
                            rw [f1] at hr26_0
                            have kk := DW_kid (k := r24.toNat) hv53_5.1.1.1.1 (by omega) hv68_1.2 (by omega) (by omega)
                            rw [← hr26_0] at kk
                            exact ih68 x8 x9 r26 s21 hRs21 (by show x8 = x1 ∧ x9 = x6; have : (0 : Int) ≤ gI s11 67 ∧ gI s11 67 ≤ 300 := hRs11.1 67; have : (0 : Int) ≤ gI s11 47 ∧ gI s11 47 ≤ 1 := hRs11.1 47; have : (0 : Int) ≤ gI s11 1 ∧ gI s11 1 ≤ 1600 := hRs11.1 1; have : (0 : Int) ≤ gI s7 67 ∧ gI s7 67 ≤ 300 := hRs7.1 67; have : (0 : Int) ≤ gI s7 47 ∧ gI s7 47 ≤ 1 := hRs7.1 47; have : (0 : Int) ≤ gI s7 1 ∧ gI s7 1 ≤ 1600 := hRs7.1 1; have : (0 : Int) ≤ gI s40 67 ∧ gI s40 67 ≤ 300 := hRs40.1 67; have : (0 : Int) ≤ gI s2 47 ∧ gI s2 47 ≤ 1 := hRs2.1 47; have : (0 : Int) ≤ gI s2 1 ∧ gI s2 1 ≤ 1600 := hRs2.1 1; have : (0 : Int) ≤ gI s 47 ∧ gI s 47 ≤ 1 := hRs.1 47; have : (0 : Int) ≤ gI s42 47 ∧ gI s42 47 ≤ 1 := hRs42.1 47; have : (0 : Int) ≤ gI s 1 ∧ gI s 1 ≤ 1600 := hRs.1 1; have : (0 : Int) ≤ gI s42 1 ∧ gI s42 1 ≤ 1600 := hRs42.1 1; omega) (⟨kk.1, kk.2.2⟩) (⟨f49, JI_eq hv68_2.2.1 ⟨(q_Aa es21 (by decide) : gA s21 39 = gA s11 39), (q_Aa es21 (by decide) : gA s21 42 = gA s11 42), (q_Aa es21 (by decide) : gA s21 43 = gA s11 43), (q_Aa es21 (by decide) : gA s21 44 = gA s11 44)⟩ (q_Aa es21 (by decide) : gA s21 49 = gA s11 49) (q_Aa es21 (by decide) : gA s21 75 = gA s11 75) (q_Ai es21 : gI s21 76 = gI s11 76) (q_Ai es21 : gI s21 77 = gI s11 77) (q_Ai es21 : gI s21 47 = gI s11 47) (q_Al es21 : gL s21 78 = gL s11 78), ((q_Ai es21 : gI s21 1 = gI s11 1)).trans hv68_2.2.2.1, ((q_Ai es21 : gI s21 47 = gI s11 47)).trans hv68_2.2.2.2⟩) (fun j hj => by
          rw [u21]
          by_cases z : j = x10.toNat
          · rw [z, upZ_s]; omega
          · rw [upZ_n z]; exact hv68_3 j hj) (fun j hj hl => by
          have ke := kk.2.1
          rw [u21, upZ_n (fun z => by rw [z] at hl; omega)]; exact hv68_4 j hj (by omega)) (((q_Ai es21 : gI s21 67 = gI s11 67)).trans hv68_5) (by have : (0 : Int) ≤ gI s11 67 ∧ gI s11 67 ≤ 300 := hRs11.1 67; have : (0 : Int) ≤ gI s11 47 ∧ gI s11 47 ≤ 1 := hRs11.1 47; have : (0 : Int) ≤ gI s11 1 ∧ gI s11 1 ≤ 1600 := hRs11.1 1; have : (0 : Int) ≤ gI s7 67 ∧ gI s7 67 ≤ 300 := hRs7.1 67; have : (0 : Int) ≤ gI s7 47 ∧ gI s7 47 ≤ 1 := hRs7.1 47; have : (0 : Int) ≤ gI s7 1 ∧ gI s7 1 ≤ 1600 := hRs7.1 1; have : (0 : Int) ≤ gI s40 67 ∧ gI s40 67 ≤ 300 := hRs40.1 67; have : (0 : Int) ≤ gI s2 47 ∧ gI s2 47 ≤ 1 := hRs2.1 47; have : (0 : Int) ≤ gI s2 1 ∧ gI s2 1 ≤ 1600 := hRs2.1 1; have : (0 : Int) ≤ gI s 47 ∧ gI s 47 ≤ 1 := hRs.1 47; have : (0 : Int) ≤ gI s42 47 ∧ gI s42 47 ≤ 1 := hRs42.1 47; have : (0 : Int) ≤ gI s 1 ∧ gI s 1 ≤ 1600 := hRs.1 1; have : (0 : Int) ≤ gI s42 1 ∧ gI s42 1 ≤ 1600 := hRs42.1 1; have ke := kk.2.1; omega)
                      exact L68 FU x5 x6 y30 s7 hRs7 (by show x5 = x1 ∧ x6 = x6; have : (0 : Int) ≤ gI s7 67 ∧ gI s7 67 ≤ 300 := hRs7.1 67; have : (0 : Int) ≤ gI s7 47 ∧ gI s7 47 ≤ 1 := hRs7.1 47; have : (0 : Int) ≤ gI s7 1 ∧ gI s7 1 ≤ 1600 := hRs7.1 1; have : (0 : Int) ≤ gI s40 67 ∧ gI s40 67 ≤ 300 := hRs40.1 67; have : (0 : Int) ≤ gI s2 47 ∧ gI s2 47 ≤ 1 := hRs2.1 47; have : (0 : Int) ≤ gI s2 1 ∧ gI s2 1 ≤ 1600 := hRs2.1 1; have : (0 : Int) ≤ gI s 47 ∧ gI s 47 ≤ 1 := hRs.1 47; have : (0 : Int) ≤ gI s42 47 ∧ gI s42 47 ≤ 1 := hRs42.1 47; have : (0 : Int) ≤ gI s 1 ∧ gI s 1 ≤ 1600 := hRs.1 1; have : (0 : Int) ≤ gI s42 1 ∧ gI s42 1 ≤ 1600 := hRs42.1 1; omega) (⟨by omega, kr.2.1⟩) (hv53_2) (fun j hj => by have z := hv53_3 j hj; omega) (fun j hj _ => by have z := hv53_3 j hj; omega) (rfl) (by have := FU_big; have := FU_big2; have : (0 : Int) ≤ gI s7 67 ∧ gI s7 67 ≤ 300 := hRs7.1 67; have : (0 : Int) ≤ gI s7 47 ∧ gI s7 47 ≤ 1 := hRs7.1 47; have : (0 : Int) ≤ gI s7 1 ∧ gI s7 1 ≤ 1600 := hRs7.1 1; have : (0 : Int) ≤ gI s40 67 ∧ gI s40 67 ≤ 300 := hRs40.1 67; have : (0 : Int) ≤ gI s2 47 ∧ gI s2 47 ≤ 1 := hRs2.1 47; have : (0 : Int) ≤ gI s2 1 ∧ gI s2 1 ≤ 1600 := hRs2.1 1; have : (0 : Int) ≤ gI s 47 ∧ gI s 47 ≤ 1 := hRs.1 47; have : (0 : Int) ≤ gI s42 47 ∧ gI s42 47 ≤ 1 := hRs42.1 47; have : (0 : Int) ≤ gI s 1 ∧ gI s 1 ≤ 1600 := hRs.1 1; have : (0 : Int) ≤ gI s42 1 ∧ gI s42 1 ≤ 1600 := hRs42.1 1; have kz := kdn; omega)
                exact L53 FU x1 0 s40 hRs40 (by show x1 = x1 ∧ (0 ≤ x1 ∧ x1 < 8); have : (0 : Int) ≤ gI s40 67 ∧ gI s40 67 ≤ 300 := hRs40.1 67; have : (0 : Int) ≤ gI s2 47 ∧ gI s2 47 ≤ 1 := hRs2.1 47; have : (0 : Int) ≤ gI s2 1 ∧ gI s2 1 ≤ 1600 := hRs2.1 1; have : (0 : Int) ≤ gI s 47 ∧ gI s 47 ≤ 1 := hRs.1 47; have : (0 : Int) ≤ gI s42 47 ∧ gI s42 47 ≤ 1 := hRs42.1 47; have : (0 : Int) ≤ gI s 1 ∧ gI s 1 ≤ 1600 := hRs.1 1; have : (0 : Int) ≤ gI s42 1 ∧ gI s42 1 ≤ 1600 := hRs42.1 1; omega) (by show 0 ≤ (0 : Int) ∧ (0 : Int) ≤ 300; have : (0 : Int) ≤ gI s40 67 ∧ gI s40 67 ≤ 300 := hRs40.1 67; have : (0 : Int) ≤ gI s2 47 ∧ gI s2 47 ≤ 1 := hRs2.1 47; have : (0 : Int) ≤ gI s2 1 ∧ gI s2 1 ≤ 1600 := hRs2.1 1; have : (0 : Int) ≤ gI s 47 ∧ gI s 47 ≤ 1 := hRs.1 47; have : (0 : Int) ≤ gI s42 47 ∧ gI s42 47 ≤ 1 := hRs42.1 47; have : (0 : Int) ≤ gI s 1 ∧ gI s 1 ≤ 1600 := hRs.1 1; have : (0 : Int) ≤ gI s42 1 ∧ gI s42 1 ≤ 1600 := hRs42.1 1; omega) (⟨((Fs40.2.1 49 (by decide))).trans hv23_1.1, JI_eq hv23_1.2.1 ⟨(Fs40.2.1 39 (by decide)), (Fs40.2.1 42 (by decide)), (Fs40.2.1 43 (by decide)), (Fs40.2.1 44 (by decide))⟩ (Fs40.2.1 49 (by decide)) (Fs40.2.1 75 (by decide)) (Fs40.1 76 (by decide)) (Fs40.1 77 (by decide)) (Fs40.1 47 (by decide)) (Fs40.2.2.1 78 (by decide)), ((Fs40.1 1 (by decide))).trans hv23_1.2.2.1, ((Fs40.1 47 (by decide))).trans hv23_1.2.2.2⟩) (fun j hj => by rw [(Fs40.2.1 72 (by decide))]; have z := hv23_2 j hj; omega) (fun h9 => hs40_1 (by rw [← k38, hv23_1.1]; exact h9)) (⟨kGs, by rw [← hv23_1.1]; omega⟩) (by have := FU_big; have := FU_big2; have : (0 : Int) ≤ gI s40 67 ∧ gI s40 67 ≤ 300 := hRs40.1 67; have : (0 : Int) ≤ gI s2 47 ∧ gI s2 47 ≤ 1 := hRs2.1 47; have : (0 : Int) ≤ gI s2 1 ∧ gI s2 1 ≤ 1600 := hRs2.1 1; have : (0 : Int) ≤ gI s 47 ∧ gI s 47 ≤ 1 := hRs.1 47; have : (0 : Int) ≤ gI s42 47 ∧ gI s42 47 ≤ 1 := hRs42.1 47; have : (0 : Int) ≤ gI s 1 ∧ gI s 1 ≤ 1600 := hRs.1 1; have : (0 : Int) ≤ gI s42 1 ∧ gI s42 1 ≤ 1600 := hRs42.1 1; omega)
        exact L23 FU 0 s42 hRs42 (by show 0 ≤ (0 : Int) ∧ (0 : Int) ≤ 8; have : (0 : Int) ≤ gI s 47 ∧ gI s 47 ≤ 1 := hRs.1 47; have : (0 : Int) ≤ gI s42 47 ∧ gI s42 47 ≤ 1 := hRs42.1 47; have : (0 : Int) ≤ gI s 1 ∧ gI s 1 ≤ 1600 := hRs.1 1; have : (0 : Int) ≤ gI s42 1 ∧ gI s42 1 ≤ 1600 := hRs42.1 1; omega) (hv2_1) (fun j hj => by rw [hv2_2 j (by omega)]; omega) (by have := FU_big; have := FU_big2; have : (0 : Int) ≤ gI s 47 ∧ gI s 47 ≤ 1 := hRs.1 47; have : (0 : Int) ≤ gI s42 47 ∧ gI s42 47 ≤ 1 := hRs42.1 47; have : (0 : Int) ≤ gI s 1 ∧ gI s 1 ≤ 1600 := hRs.1 1; have : (0 : Int) ≤ gI s42 1 ∧ gI s42 1 ≤ 1600 := hRs42.1 1; omega)
      · skip
        refine wp_inb (by have : (0 : Int) ≤ gI s 47 ∧ gI s 47 ≤ 1 := hRs.1 47; have : (0 : Int) ≤ gI s42 47 ∧ gI s42 47 ≤ 1 := hRs42.1 47; have : (0 : Int) ≤ gI s 1 ∧ gI s 1 ≤ 1600 := hRs.1 1; have : (0 : Int) ≤ gI s42 1 ∧ gI s42 1 ≤ 1600 := hRs42.1 1; omega) ?_
        refine wp_stn (fun s46 es46 => ?_)
        have hRs46 : Rr s46 := es46 ▸ Rr.uAu hRs42 (by show (-2147483648 : Int) ≤ (0 : Int) ∧ (0 : Int) ≤ 2147483647; have : (0 : Int) ≤ gI s 47 ∧ gI s 47 ≤ 1 := hRs.1 47; have : (0 : Int) ≤ gI s42 47 ∧ gI s42 47 ≤ 1 := hRs42.1 47; have : (0 : Int) ≤ gI s 1 ∧ gI s 1 ≤ 1600 := hRs.1 1; have : (0 : Int) ≤ gI s42 1 ∧ gI s42 1 ≤ 1600 := hRs42.1 1; omega)
        exact ih2 (x41 + 1) s46 hRs46 (by show 0 ≤ (x41 + 1) ∧ (x41 + 1) ≤ 48; have : (0 : Int) ≤ gI s 47 ∧ gI s 47 ≤ 1 := hRs.1 47; have : (0 : Int) ≤ gI s42 47 ∧ gI s42 47 ≤ 1 := hRs42.1 47; have : (0 : Int) ≤ gI s 1 ∧ gI s 1 ≤ 1600 := hRs.1 1; have : (0 : Int) ≤ gI s42 1 ∧ gI s42 1 ≤ 1600 := hRs42.1 1; omega) (⟨((q_Aa es46 (by decide) : gA s46 49 = gA s42 49)).trans hv2_1.1, JI_eq hv2_1.2.1 ⟨(q_Aa es46 (by decide) : gA s46 39 = gA s42 39), (q_Aa es46 (by decide) : gA s46 42 = gA s42 42), (q_Aa es46 (by decide) : gA s46 43 = gA s42 43), (q_Aa es46 (by decide) : gA s46 44 = gA s42 44)⟩ (q_Aa es46 (by decide) : gA s46 49 = gA s42 49) (q_Aa es46 (by decide) : gA s46 75 = gA s42 75) (q_Ai es46 : gI s46 76 = gI s42 76) (q_Ai es46 : gI s46 77 = gI s42 77) (q_Ai es46 : gI s46 47 = gI s42 47) (q_Al es46 : gL s46 78 = gL s42 78), ((q_Ai es46 : gI s46 1 = gI s42 1)).trans hv2_1.2.2.1, ((q_Ai es46 : gI s46 47 = gI s42 47)).trans hv2_1.2.2.2⟩) (fun j hj => by
          rw [(q_AA es46 : gA s46 72 = _)]
          by_cases z : j = x41.toNat
          · rw [z, upZ_s]
          · rw [upZ_n z]; exact hv2_2 j (by omega)) (by have : (0 : Int) ≤ gI s 47 ∧ gI s 47 ≤ 1 := hRs.1 47; have : (0 : Int) ≤ gI s42 47 ∧ gI s42 47 ≤ 1 := hRs42.1 47; have : (0 : Int) ≤ gI s 1 ∧ gI s 1 ≤ 1600 := hRs.1 1; have : (0 : Int) ≤ gI s42 1 ∧ gI s42 1 ≤ 1600 := hRs42.1 1; omega)
  exact L2 FU 0 s hRs (by show 0 ≤ (0 : Int) ∧ (0 : Int) ≤ 48; omega) (⟨rfl, hpJ, rfl, rfl⟩) (fun j hj => by omega) (by have := FU_big; have := FU_big2; omega)
set_option maxHeartbeats 1000000 in
theorem w_x12_lost {p0 : Int} {s : MS} (hRs : Rr s) (hp0 : R2 p0) (hp1 : JI s) : wp (m_x12_lost p0 s) (fun q => (Rr q.2) ∧ (JI q.2) ∧ (gI q.2 1 = gI s 1)) := by
  have hpJ := hp1
  have kN := JI_N hpJ
  unfold m_x12_lost
  refine wp_rg (by omega) ?_
  refine wp_bn (w_x12_isBlock hRs (by show R8 p0; omega) (by show 0 ≤ gA s 39 5 ∧ gA s 39 5 ≤ 48; omega)) (fun r3 er3 hr3 => ?_)
  have hr3_0 := hr3
  have hr3_0 : (r3 = 1 ∧ 0 ≤ p0 ∧ p0 < gA s 39 5) ∨ (r3 = 0 ∧ (p0 < 0 ∨ gA s 39 5 ≤ p0)) := hr3_0
  refine wp_rg (by omega) ?_
  refine wp_if (fun c1 => ?_) (fun c1 => ?_)
  · skip
    exact wp_some ⟨hRs, by show JI s; exact (hpJ), by show gI s 1 = gI s 1; exact (rfl)⟩
  · skip
    refine wp_bn (w_x12_laysLost hRs (hpJ)) (fun s7 es7 hs7 => ?_)
    have Fs7 : F_x12_laysLost s s7 := fr_x12_laysLost es7
    obtain ⟨hRs7, hs7_0, hs7_1, hs7_2⟩ := hs7
    have hs7_0 : JI s7 := hs7_0
    have hs7_1 : gI s7 1 = gI s 1 := hs7_1
    have hs7_2 : ∀ j, j < 48 → R2 (gA s7 72 j) := hs7_2
    refine wp_rdIn (by have : (0 : Int) ≤ gI s 1 ∧ gI s 1 ≤ 1600 := hRs.1 1; have : gI s7 1 = gI s 1 := Fs7.1 1 (by decide); omega) (fun y8 ey8 => ?_)
    have by8 : (-2147483648 : Int) ≤ y8 ∧ y8 ≤ 2147483647 := ey8 ▸ hRs7.2.1 72 _ (by show _ < 48; have : (0 : Int) ≤ gI s 1 ∧ gI s 1 ≤ 1600 := hRs.1 1; have : gI s7 1 = gI s 1 := Fs7.1 1 (by decide); omega)
    exact wp_some ⟨hRs7, by show JI s7; exact (hs7_0), by show gI s7 1 = gI s 1; exact (hs7_1)⟩
set_option maxHeartbeats 1000000 in
theorem w_x12_worst {p0 : Int} {s : MS} (hRs : Rr s) (hp0 : R2 p0) (hp1 : JI s) : wp (m_x12_worst p0 s) (fun q => (Rr q.2) ∧ (JI q.2) ∧ (gI q.2 1 = gI s 1)) := by
  have hpJ := hp1
  unfold m_x12_worst
  refine wp_rg (by omega) ?_
  refine wp_bn (w_x12_isIn hRs (by show R8 p0; omega) (by show R8 (0 : Int); omega) (by show R8 (1 : Int); omega)) (fun r26 er26 hr26 => ?_)
  have hr26_0 := hr26
  have hr26_0 : (r26 = 1 ∧ (0 : Int) ≤ p0 ∧ p0 ≤ (1 : Int)) ∨ (r26 = 0 ∧ (p0 < (0 : Int) ∨ (1 : Int) < p0)) := hr26_0
  refine wp_rg (by omega) ?_
  refine wp_if (fun c1 => ?_) (fun c1 => ?_)
  · skip
    exact wp_some ⟨hRs, by show JI s; exact (hpJ), by show gI s 1 = gI s 1; exact (rfl)⟩
  · skip
    refine wp_bn (w_x12_laysLost hRs (hpJ)) (fun s30 es30 hs30 => ?_)
    have Fs30 : F_x12_laysLost s s30 := fr_x12_laysLost es30
    obtain ⟨hRs30, hs30_0, hs30_1, hs30_2⟩ := hs30
    have hs30_0 : JI s30 := hs30_0
    have hs30_1 : gI s30 1 = gI s 1 := hs30_1
    have hs30_2 : ∀ j, j < 48 → R2 (gA s30 72 j) := hs30_2
    have L20 : ∀ (n : Nat) (x3 : Int) (x4 : Int) (x5 : Int) (s6 : MS), Rr s6 → (R2 x3) → (0 ≤ x4 ∧ x4 < 48) → (1 ≤ x5 ∧ x5 ≤ 48) → (JI s6 ∧ gI s6 1 = gI s 1) → (∀ j, j < 48 → R2 (gA s6 72 j)) → (48 - x5) < (n : Int) → wp (m_x12_worst_L20 n x3 x4 x5 s6) (fun q => (Rr q.2) ∧ (JI q.2) ∧ (gI q.2 1 = gI s 1)) := by
      refine fr_ind (fun x3 x4 x5 s6 hRs6 hv20_0 hv20_1 hv20_2 hv20_3 hv20_4 hm20 => ?_) (fun n20 ih20 x3 x4 x5 s6 hRs6 hv20_0 hv20_1 hv20_2 hv20_3 hv20_4 hm20 => ?_)
      · exfalso; have : (0 : Int) ≤ gI s 1 ∧ gI s 1 ≤ 1600 := hRs.1 1; have : (0 : Int) ≤ gI s6 1 ∧ gI s6 1 ≤ 1600 := hRs6.1 1; omega
      · show wp (m_x12_worst_b20 (m_x12_worst_L20 n20) x3 x4 x5 s6) _
        unfold m_x12_worst_b20
        refine wp_rg (by have : (0 : Int) ≤ gI s6 1 ∧ gI s6 1 ≤ 1600 := hRs6.1 1; have : (0 : Int) ≤ gI s 1 ∧ gI s 1 ≤ 1600 := hRs.1 1; have : gI s30 1 = gI s 1 := Fs30.1 1 (by decide); omega) ?_
        refine wp_if (fun c2 => ?_) (fun c2 => ?_)
        · skip
          refine wp_rdIn (by have : (0 : Int) ≤ gI s6 1 ∧ gI s6 1 ≤ 1600 := hRs6.1 1; have : (0 : Int) ≤ gI s 1 ∧ gI s 1 ≤ 1600 := hRs.1 1; have : gI s30 1 = gI s 1 := Fs30.1 1 (by decide); omega) (fun y13 ey13 => ?_)
          have by13 : (-2147483648 : Int) ≤ y13 ∧ y13 ≤ 2147483647 := ey13 ▸ hRs6.2.1 72 _ (by show _ < 48; have : (0 : Int) ≤ gI s6 1 ∧ gI s6 1 ≤ 1600 := hRs6.1 1; have : (0 : Int) ≤ gI s 1 ∧ gI s 1 ≤ 1600 := hRs.1 1; have : gI s30 1 = gI s 1 := Fs30.1 1 (by decide); omega)
          have r13 : R2 y13 := ey13 ▸ hv20_4 _ (by omega)
          refine wp_rg (by have : (0 : Int) ≤ gI s6 1 ∧ gI s6 1 ≤ 1600 := hRs6.1 1; have : (0 : Int) ≤ gI s 1 ∧ gI s 1 ≤ 1600 := hRs.1 1; have : gI s30 1 = gI s 1 := Fs30.1 1 (by decide); omega) ?_
          refine wp_if (fun c3 => ?_) (fun c3 => ?_)
          · skip
            unfold m_x12_worst_J76
            exact wp_some ⟨hRs6, by show JI s6; exact (hv20_3.1), by show gI s6 1 = gI s 1; exact (hv20_3.2)⟩
          · skip
            refine wp_rg (by have : (0 : Int) ≤ gI s6 1 ∧ gI s6 1 ≤ 1600 := hRs6.1 1; have : (0 : Int) ≤ gI s 1 ∧ gI s 1 ≤ 1600 := hRs.1 1; have : gI s30 1 = gI s 1 := Fs30.1 1 (by decide); omega) ?_
            refine wp_if (fun c4 => ?_) (fun c4 => ?_)
            · skip
              unfold m_x12_worst_J76
              exact wp_some ⟨hRs6, by show JI s6; exact (hv20_3.1), by show gI s6 1 = gI s 1; exact (hv20_3.2)⟩
            · skip
              refine wp_rdIn (by have : (0 : Int) ≤ gI s6 1 ∧ gI s6 1 ≤ 1600 := hRs6.1 1; have : (0 : Int) ≤ gI s 1 ∧ gI s 1 ≤ 1600 := hRs.1 1; have : gI s30 1 = gI s 1 := Fs30.1 1 (by decide); omega) (fun y18 ey18 => ?_)
              have by18 : (-2147483648 : Int) ≤ y18 ∧ y18 ≤ 2147483647 := ey18 ▸ hRs6.2.1 72 _ (by show _ < 48; have : (0 : Int) ≤ gI s6 1 ∧ gI s6 1 ≤ 1600 := hRs6.1 1; have : (0 : Int) ≤ gI s 1 ∧ gI s 1 ≤ 1600 := hRs.1 1; have : gI s30 1 = gI s 1 := Fs30.1 1 (by decide); omega)
              unfold m_x12_worst_J76
              exact wp_some ⟨hRs6, by show JI s6; exact (hv20_3.1), by show gI s6 1 = gI s 1; exact (hv20_3.2)⟩
        · skip
          refine wp_rdIn (by have : (0 : Int) ≤ gI s6 1 ∧ gI s6 1 ≤ 1600 := hRs6.1 1; have : (0 : Int) ≤ gI s 1 ∧ gI s 1 ≤ 1600 := hRs.1 1; have : gI s30 1 = gI s 1 := Fs30.1 1 (by decide); omega) (fun y19 ey19 => ?_)
          have by19 : (-2147483648 : Int) ≤ y19 ∧ y19 ≤ 2147483647 := ey19 ▸ hRs6.2.1 72 _ (by show _ < 48; have : (0 : Int) ≤ gI s6 1 ∧ gI s6 1 ≤ 1600 := hRs6.1 1; have : (0 : Int) ≤ gI s 1 ∧ gI s 1 ≤ 1600 := hRs.1 1; have : gI s30 1 = gI s 1 := Fs30.1 1 (by decide); omega)
          have r19 : R2 y19 := ey19 ▸ hv20_4 _ (by omega)
          refine wp_rdIn (by have : (0 : Int) ≤ gI s6 1 ∧ gI s6 1 ≤ 1600 := hRs6.1 1; have : (0 : Int) ≤ gI s 1 ∧ gI s 1 ≤ 1600 := hRs.1 1; have : gI s30 1 = gI s 1 := Fs30.1 1 (by decide); omega) (fun y20 ey20 => ?_)
          have by20 : (-2147483648 : Int) ≤ y20 ∧ y20 ≤ 2147483647 := ey20 ▸ hRs6.2.1 72 _ (by show _ < 48; have : (0 : Int) ≤ gI s6 1 ∧ gI s6 1 ≤ 1600 := hRs6.1 1; have : (0 : Int) ≤ gI s 1 ∧ gI s 1 ≤ 1600 := hRs.1 1; have : gI s30 1 = gI s 1 := Fs30.1 1 (by decide); omega)
          have r20 : R2 y20 := ey20 ▸ hv20_4 _ (by omega)
          refine wp_rg (by have : (0 : Int) ≤ gI s6 1 ∧ gI s6 1 ≤ 1600 := hRs6.1 1; have : (0 : Int) ≤ gI s 1 ∧ gI s 1 ≤ 1600 := hRs.1 1; have : gI s30 1 = gI s 1 := Fs30.1 1 (by decide); omega) ?_
          refine wp_rg (by have : (0 : Int) ≤ gI s6 1 ∧ gI s6 1 ≤ 1600 := hRs6.1 1; have : (0 : Int) ≤ gI s 1 ∧ gI s 1 ≤ 1600 := hRs.1 1; have : gI s30 1 = gI s 1 := Fs30.1 1 (by decide); omega) ?_
          refine wp_if (fun c5 => ?_) (fun c5 => ?_)
          · skip
            unfold m_x12_worst_J43
            exact ih20 x3 x4 (x5 + 1) s6 hRs6 (by show R2 x3; have : (0 : Int) ≤ gI s6 1 ∧ gI s6 1 ≤ 1600 := hRs6.1 1; have : (0 : Int) ≤ gI s 1 ∧ gI s 1 ≤ 1600 := hRs.1 1; have : gI s30 1 = gI s 1 := Fs30.1 1 (by decide); omega) (by show 0 ≤ x4 ∧ x4 < 48; have : (0 : Int) ≤ gI s6 1 ∧ gI s6 1 ≤ 1600 := hRs6.1 1; have : (0 : Int) ≤ gI s 1 ∧ gI s 1 ≤ 1600 := hRs.1 1; have : gI s30 1 = gI s 1 := Fs30.1 1 (by decide); omega) (by show 1 ≤ (x5 + 1) ∧ (x5 + 1) ≤ 48; have : (0 : Int) ≤ gI s6 1 ∧ gI s6 1 ≤ 1600 := hRs6.1 1; have : (0 : Int) ≤ gI s 1 ∧ gI s 1 ≤ 1600 := hRs.1 1; have : gI s30 1 = gI s 1 := Fs30.1 1 (by decide); omega) (hv20_3) (hv20_4) (by have : (0 : Int) ≤ gI s6 1 ∧ gI s6 1 ≤ 1600 := hRs6.1 1; have : (0 : Int) ≤ gI s 1 ∧ gI s 1 ≤ 1600 := hRs.1 1; have : gI s30 1 = gI s 1 := Fs30.1 1 (by decide); omega)
          · skip
            unfold m_x12_worst_J43
            exact ih20 x3 x5 (x5 + 1) s6 hRs6 (by show R2 x3; have : (0 : Int) ≤ gI s6 1 ∧ gI s6 1 ≤ 1600 := hRs6.1 1; have : (0 : Int) ≤ gI s 1 ∧ gI s 1 ≤ 1600 := hRs.1 1; have : gI s30 1 = gI s 1 := Fs30.1 1 (by decide); omega) (by show 0 ≤ x5 ∧ x5 < 48; have : (0 : Int) ≤ gI s6 1 ∧ gI s6 1 ≤ 1600 := hRs6.1 1; have : (0 : Int) ≤ gI s 1 ∧ gI s 1 ≤ 1600 := hRs.1 1; have : gI s30 1 = gI s 1 := Fs30.1 1 (by decide); omega) (by show 1 ≤ (x5 + 1) ∧ (x5 + 1) ≤ 48; have : (0 : Int) ≤ gI s6 1 ∧ gI s6 1 ≤ 1600 := hRs6.1 1; have : (0 : Int) ≤ gI s 1 ∧ gI s 1 ≤ 1600 := hRs.1 1; have : gI s30 1 = gI s 1 := Fs30.1 1 (by decide); omega) (hv20_3) (hv20_4) (by have : (0 : Int) ≤ gI s6 1 ∧ gI s6 1 ≤ 1600 := hRs6.1 1; have : (0 : Int) ≤ gI s 1 ∧ gI s 1 ≤ 1600 := hRs.1 1; have : gI s30 1 = gI s 1 := Fs30.1 1 (by decide); omega)
    exact L20 FU p0 0 1 s30 hRs30 (by show R2 p0; have : (0 : Int) ≤ gI s 1 ∧ gI s 1 ≤ 1600 := hRs.1 1; have : gI s30 1 = gI s 1 := Fs30.1 1 (by decide); omega) (by show 0 ≤ (0 : Int) ∧ (0 : Int) < 48; have : (0 : Int) ≤ gI s 1 ∧ gI s 1 ≤ 1600 := hRs.1 1; have : gI s30 1 = gI s 1 := Fs30.1 1 (by decide); omega) (by show 1 ≤ (1 : Int) ∧ (1 : Int) ≤ 48; have : (0 : Int) ≤ gI s 1 ∧ gI s 1 ≤ 1600 := hRs.1 1; have : gI s30 1 = gI s 1 := Fs30.1 1 (by decide); omega) (⟨hs30_0, hs30_1⟩) (hs30_2) (by have := FU_big; have := FU_big2; have : (0 : Int) ≤ gI s 1 ∧ gI s 1 ≤ 1600 := hRs.1 1; have : gI s30 1 = gI s 1 := Fs30.1 1 (by decide); omega)
set_option maxHeartbeats 1000000 in
theorem w_x12_writes {p0 : Int} {p1 : Int} {p2 : Int} {s : MS} (hRs : Rr s) (hp0 : R2 p0) (hp1 : R2 p1) (hp2 : R2 p2) (hp3 : JI s) : wp (m_x12_writes p0 p1 p2 s) (fun q => (Rr q.2) ∧ (JI q.2) ∧ (gI q.2 1 = gI s 1)) := by
  have hpJ := hp3
  unfold m_x12_writes
  refine wp_rg (by omega) ?_
  refine wp_bn (wv_x12_isVolume hRs (by show R8 p0; omega)) (fun r6 er6 hr6 => ?_)
  obtain ⟨hr6_0, hr6_1⟩ := hr6
  have hr6_0 : (r6 = 1 ∧ (0 ≤ p0 ∧ p0 < 8) ∧ gI s 47 ≠ 0 ∧ gA s 49 p0.toNat ≠ 255) ∨ r6 = 0 := hr6_0
  have hr6_1 : 0 ≤ p0 ∧ p0 < 8 → r6 = ivol s p0.toNat := hr6_1
  refine wp_rg (by have : (0 : Int) ≤ gI s 47 ∧ gI s 47 ≤ 1 := hRs.1 47; omega) ?_
  refine wp_if (fun c1 => ?_) (fun c1 => ?_)
  · skip
    unfold m_x12_writes_J31
    exact wp_some ⟨hRs, by show JI s; exact (hpJ), by show gI s 1 = gI s 1; have : (0 : Int) ≤ gI s 47 ∧ gI s 47 ≤ 1 := hRs.1 47; have : (0 : Int) ≤ gI s 1 ∧ gI s 1 ≤ 1600 := hRs.1 1; omega⟩
  · skip
    have kG := JI_GA hpJ (by omega)
    have kb := kG.1.1.2 p0.toNat (by omega)
    refine wp_rg (by have : (0 : Int) ≤ gI s 47 ∧ gI s 47 ≤ 1 := hRs.1 47; omega) ?_
    refine wp_bn (w_x12_isIn hRs (by show R8 p1; have : (0 : Int) ≤ gI s 47 ∧ gI s 47 ≤ 1 := hRs.1 47; omega) (by show R8 (0 : Int); have : (0 : Int) ≤ gI s 47 ∧ gI s 47 ≤ 1 := hRs.1 47; omega) (by show R8 (999 : Int); have : (0 : Int) ≤ gI s 47 ∧ gI s 47 ≤ 1 := hRs.1 47; omega)) (fun r11 er11 hr11 => ?_)
    have hr11_0 := hr11
    have hr11_0 : (r11 = 1 ∧ (0 : Int) ≤ p1 ∧ p1 ≤ (999 : Int)) ∨ (r11 = 0 ∧ (p1 < (0 : Int) ∨ (999 : Int) < p1)) := hr11_0
    refine wp_rg (by have : (0 : Int) ≤ gI s 47 ∧ gI s 47 ≤ 1 := hRs.1 47; omega) ?_
    refine wp_if (fun c2 => ?_) (fun c2 => ?_)
    · skip
      unfold m_x12_writes_J31
      exact wp_some ⟨hRs, by show JI s; exact (hpJ), by show gI s 1 = gI s 1; have : (0 : Int) ≤ gI s 47 ∧ gI s 47 ≤ 1 := hRs.1 47; have : (0 : Int) ≤ gI s 1 ∧ gI s 1 ≤ 1600 := hRs.1 1; omega⟩
    · skip
      refine wp_rg (by have : (0 : Int) ≤ gI s 47 ∧ gI s 47 ≤ 1 := hRs.1 47; omega) ?_
      refine wp_bn (w_x12_isIn hRs (by show R8 p2; have : (0 : Int) ≤ gI s 47 ∧ gI s 47 ≤ 1 := hRs.1 47; omega) (by show R8 (0 : Int); have : (0 : Int) ≤ gI s 47 ∧ gI s 47 ≤ 1 := hRs.1 47; omega) (by show R8 (1 : Int); have : (0 : Int) ≤ gI s 47 ∧ gI s 47 ≤ 1 := hRs.1 47; omega)) (fun r16 er16 hr16 => ?_)
      have hr16_0 := hr16
      have hr16_0 : (r16 = 1 ∧ (0 : Int) ≤ p2 ∧ p2 ≤ (1 : Int)) ∨ (r16 = 0 ∧ (p2 < (0 : Int) ∨ (1 : Int) < p2)) := hr16_0
      refine wp_rg (by have : (0 : Int) ≤ gI s 47 ∧ gI s 47 ≤ 1 := hRs.1 47; omega) ?_
      refine wp_if (fun c3 => ?_) (fun c3 => ?_)
      · skip
        unfold m_x12_writes_J31
        exact wp_some ⟨hRs, by show JI s; exact (hpJ), by show gI s 1 = gI s 1; have : (0 : Int) ≤ gI s 47 ∧ gI s 47 ≤ 1 := hRs.1 47; have : (0 : Int) ≤ gI s 1 ∧ gI s 1 ≤ 1600 := hRs.1 1; omega⟩
      · skip
        refine wp_bn (w_x12_laysWrites hRs (by show 0 ≤ p0 ∧ p0 < 8; have : (0 : Int) ≤ gI s 47 ∧ gI s 47 ≤ 1 := hRs.1 47; omega) (by show 0 ≤ p1 ∧ p1 ≤ 999; have : (0 : Int) ≤ gI s 47 ∧ gI s 47 ≤ 1 := hRs.1 47; omega) (kG.1) (by show 0 ≤ gA s 49 p0.toNat ∧ gA s 49 p0.toNat ≤ 254; have : (0 : Int) ≤ gI s 47 ∧ gI s 47 ≤ 1 := hRs.1 47; omega)) (fun s20 es20 hs20 => ?_)
        have Fs20 : F_x12_laysWrites s s20 := fr_x12_laysWrites es20
        obtain ⟨hRs20, hs20_0⟩ := hs20
        have hs20_0 : gA s20 49 = gA s 49 := hs20_0
        refine wp_rg (by have : (0 : Int) ≤ gI s 47 ∧ gI s 47 ≤ 1 := hRs.1 47; omega) ?_
        refine wp_if (fun c4 => ?_) (fun c4 => ?_)
        · skip
          unfold m_x12_writes_J54
          exact wp_some ⟨hRs20, by show JI s20; exact (JI_eq hpJ ⟨(Fs20.2.1 39 (by decide)), (Fs20.2.1 42 (by decide)), (Fs20.2.1 43 (by decide)), (Fs20.2.1 44 (by decide))⟩ hs20_0 (Fs20.2.1 75 (by decide)) (Fs20.1 76 (by decide)) (Fs20.1 77 (by decide)) (Fs20.1 47 (by decide)) (Fs20.2.2.1 78 (by decide))), by show gI s20 1 = gI s 1; have : (0 : Int) ≤ gI s 47 ∧ gI s 47 ≤ 1 := hRs.1 47; have : (0 : Int) ≤ gI s 1 ∧ gI s 1 ≤ 1600 := hRs.1 1; have : gI s20 1 = gI s 1 := Fs20.1 1 (by decide); omega⟩
        · skip
          unfold m_x12_writes_J54
          exact wp_some ⟨hRs20, by show JI s20; exact (JI_eq hpJ ⟨(Fs20.2.1 39 (by decide)), (Fs20.2.1 42 (by decide)), (Fs20.2.1 43 (by decide)), (Fs20.2.1 44 (by decide))⟩ hs20_0 (Fs20.2.1 75 (by decide)) (Fs20.1 76 (by decide)) (Fs20.1 77 (by decide)) (Fs20.1 47 (by decide)) (Fs20.2.2.1 78 (by decide))), by show gI s20 1 = gI s 1; have : (0 : Int) ≤ gI s 47 ∧ gI s 47 ≤ 1 := hRs.1 47; have : (0 : Int) ≤ gI s 1 ∧ gI s 1 ≤ 1600 := hRs.1 1; have : gI s20 1 = gI s 1 := Fs20.1 1 (by decide); omega⟩
set_option maxHeartbeats 1000000 in
theorem w_x12_spread {p0 : Int} {p1 : Int} {s : MS} (hRs : Rr s) (hp0 : R2 p0) (hp1 : R2 p1) (hp2 : JI s) : wp (m_x12_spread p0 p1 s) (fun q => (Rr q.2) ∧ (JI q.2) ∧ (gI q.2 1 = gI s 1)) := by
  have hpJ := hp2
  unfold m_x12_spread
  refine wp_rg (by omega) ?_
  refine wp_bn (wv_x12_isVolume hRs (by show R8 p0; omega)) (fun r21 er21 hr21 => ?_)
  obtain ⟨hr21_0, hr21_1⟩ := hr21
  have hr21_0 : (r21 = 1 ∧ (0 ≤ p0 ∧ p0 < 8) ∧ gI s 47 ≠ 0 ∧ gA s 49 p0.toNat ≠ 255) ∨ r21 = 0 := hr21_0
  have hr21_1 : 0 ≤ p0 ∧ p0 < 8 → r21 = ivol s p0.toNat := hr21_1
  refine wp_rg (by have : (0 : Int) ≤ gI s 47 ∧ gI s 47 ≤ 1 := hRs.1 47; omega) ?_
  refine wp_if (fun c1 => ?_) (fun c1 => ?_)
  · skip
    unfold m_x12_spread_J14
    exact wp_some ⟨hRs, by show JI s; exact (hpJ), by show gI s 1 = gI s 1; have : (0 : Int) ≤ gI s 47 ∧ gI s 47 ≤ 1 := hRs.1 47; have : (0 : Int) ≤ gI s 1 ∧ gI s 1 ≤ 1600 := hRs.1 1; omega⟩
  · skip
    have kG := JI_GA hpJ (by omega)
    have kb := kG.1.1.2 p0.toNat (by omega)
    refine wp_rg (by have : (0 : Int) ≤ gI s 47 ∧ gI s 47 ≤ 1 := hRs.1 47; omega) ?_
    refine wp_if (fun c2 => ?_) (fun c2 => ?_)
    · skip
      have L21 : ∀ (n : Nat) (x1 : Int) (x2 : Int) (x3 : Int) (x4 : Int) (s5 : MS), Rr s5 → (x1 = p0 ∧ (0 ≤ p0 ∧ p0 < 8)) → (R2 x2) → (0 ≤ x3 ∧ x3 ≤ x4 ∧ x4 ≤ 100) → (gA s5 49 = gA s 49 ∧ JI s5) → (gI s5 1 = gI s 1 ∧ gI s5 47 = gI s 47 ∧ gI s 47 ≠ 0) → (gA s 49 p0.toNat ≠ 255) → (100 - x4) < (n : Int) → wp (m_x12_spread_L21 n x1 x2 x3 x4 s5) (fun q => (Rr q.2) ∧ (JI q.2) ∧ (gI q.2 1 = gI s 1)) := by
        refine fr_ind (fun x1 x2 x3 x4 s5 hRs5 hv21_0 hv21_1 hv21_2 hv21_3 hv21_4 hv21_5 hm21 => ?_) (fun n21 ih21 x1 x2 x3 x4 s5 hRs5 hv21_0 hv21_1 hv21_2 hv21_3 hv21_4 hv21_5 hm21 => ?_)
        · exfalso; have : (0 : Int) ≤ gI s 47 ∧ gI s 47 ≤ 1 := hRs.1 47; have : (0 : Int) ≤ gI s5 47 ∧ gI s5 47 ≤ 1 := hRs5.1 47; have : (0 : Int) ≤ gI s 1 ∧ gI s 1 ≤ 1600 := hRs.1 1; have : (0 : Int) ≤ gI s5 1 ∧ gI s5 1 ≤ 1600 := hRs5.1 1; omega
        · show wp (m_x12_spread_b21 (m_x12_spread_L21 n21) x1 x2 x3 x4 s5) _
          unfold m_x12_spread_b21
          have kG5 := JI_GA hv21_3.2 (by omega)
          have kb5 := kG5.1.1.2 p0.toNat (by omega)
          have e5 := hv21_3.1
          refine wp_rg (by have : (0 : Int) ≤ gI s5 47 ∧ gI s5 47 ≤ 1 := hRs5.1 47; have : (0 : Int) ≤ gI s 1 ∧ gI s 1 ≤ 1600 := hRs.1 1; have : (0 : Int) ≤ gI s5 1 ∧ gI s5 1 ≤ 1600 := hRs5.1 1; have : (0 : Int) ≤ gI s 47 ∧ gI s 47 ≤ 1 := hRs.1 47; omega) ?_
          refine wp_if (fun c3 => ?_) (fun c3 => ?_)
          · skip
            exact wp_some ⟨hRs5, by show JI s5; exact (hv21_3.2), by show gI s5 1 = gI s 1; have : (0 : Int) ≤ gI s5 47 ∧ gI s5 47 ≤ 1 := hRs5.1 47; have : (0 : Int) ≤ gI s 47 ∧ gI s 47 ≤ 1 := hRs.1 47; have : (0 : Int) ≤ gI s 1 ∧ gI s 1 ≤ 1600 := hRs.1 1; have : (0 : Int) ≤ gI s5 1 ∧ gI s5 1 ≤ 1600 := hRs5.1 1; omega⟩
          · skip
            refine wp_bn (w_x12_laysWrites hRs5 (by show 0 ≤ x1 ∧ x1 < 8; have : (0 : Int) ≤ gI s5 47 ∧ gI s5 47 ≤ 1 := hRs5.1 47; have : (0 : Int) ≤ gI s 1 ∧ gI s 1 ≤ 1600 := hRs.1 1; have : (0 : Int) ≤ gI s5 1 ∧ gI s5 1 ≤ 1600 := hRs5.1 1; have : (0 : Int) ≤ gI s 47 ∧ gI s 47 ≤ 1 := hRs.1 47; omega) (by show 0 ≤ x4 ∧ x4 ≤ 999; have : (0 : Int) ≤ gI s5 47 ∧ gI s5 47 ≤ 1 := hRs5.1 47; have : (0 : Int) ≤ gI s 1 ∧ gI s 1 ≤ 1600 := hRs.1 1; have : (0 : Int) ≤ gI s5 1 ∧ gI s5 1 ≤ 1600 := hRs5.1 1; have : (0 : Int) ≤ gI s 47 ∧ gI s 47 ≤ 1 := hRs.1 47; omega) (kG5.1) (by rw [e5] at kb5; rw [e5, hv21_0.1]; omega)) (fun s14 es14 hs14 => ?_)
            have Fs14 : F_x12_laysWrites s5 s14 := fr_x12_laysWrites es14
            obtain ⟨hRs14, hs14_0⟩ := hs14
            have hs14_0 : gA s14 49 = gA s5 49 := hs14_0
            refine wp_rg (by have : (0 : Int) ≤ gI s5 47 ∧ gI s5 47 ≤ 1 := hRs5.1 47; have : (0 : Int) ≤ gI s 1 ∧ gI s 1 ≤ 1600 := hRs.1 1; have : (0 : Int) ≤ gI s5 1 ∧ gI s5 1 ≤ 1600 := hRs5.1 1; have : (0 : Int) ≤ gI s 47 ∧ gI s 47 ≤ 1 := hRs.1 47; have : (-2147483648 : Int) ≤ gI s14 70 ∧ gI s14 70 ≤ 2147483647 := hRs14.1 70; omega) ?_
            refine wp_rg (by have : (0 : Int) ≤ gI s5 47 ∧ gI s5 47 ≤ 1 := hRs5.1 47; have : (0 : Int) ≤ gI s 1 ∧ gI s 1 ≤ 1600 := hRs.1 1; have : (0 : Int) ≤ gI s5 1 ∧ gI s5 1 ≤ 1600 := hRs5.1 1; have : (0 : Int) ≤ gI s 47 ∧ gI s 47 ≤ 1 := hRs.1 47; omega) ?_
            refine wp_if (fun c4 => ?_) (fun c4 => ?_)
            · skip
              unfold m_x12_spread_J46
              exact ih21 x1 x2 (x3 + 1) (x4 + 1) s14 hRs14 (by show x1 = p0 ∧ (0 ≤ p0 ∧ p0 < 8); have : (-2147483648 : Int) ≤ gI s14 70 ∧ gI s14 70 ≤ 2147483647 := hRs14.1 70; have : (0 : Int) ≤ gI s5 47 ∧ gI s5 47 ≤ 1 := hRs5.1 47; have : (0 : Int) ≤ gI s 1 ∧ gI s 1 ≤ 1600 := hRs.1 1; have : (0 : Int) ≤ gI s5 1 ∧ gI s5 1 ≤ 1600 := hRs5.1 1; have : (0 : Int) ≤ gI s 47 ∧ gI s 47 ≤ 1 := hRs.1 47; omega) (by show R2 x2; have : (-2147483648 : Int) ≤ gI s14 70 ∧ gI s14 70 ≤ 2147483647 := hRs14.1 70; have : (0 : Int) ≤ gI s5 47 ∧ gI s5 47 ≤ 1 := hRs5.1 47; have : (0 : Int) ≤ gI s 1 ∧ gI s 1 ≤ 1600 := hRs.1 1; have : (0 : Int) ≤ gI s5 1 ∧ gI s5 1 ≤ 1600 := hRs5.1 1; have : (0 : Int) ≤ gI s 47 ∧ gI s 47 ≤ 1 := hRs.1 47; omega) (by show 0 ≤ (x3 + 1) ∧ (x3 + 1) ≤ (x4 + 1) ∧ (x4 + 1) ≤ 100; have : (-2147483648 : Int) ≤ gI s14 70 ∧ gI s14 70 ≤ 2147483647 := hRs14.1 70; have : (0 : Int) ≤ gI s5 47 ∧ gI s5 47 ≤ 1 := hRs5.1 47; have : (0 : Int) ≤ gI s 1 ∧ gI s 1 ≤ 1600 := hRs.1 1; have : (0 : Int) ≤ gI s5 1 ∧ gI s5 1 ≤ 1600 := hRs5.1 1; have : (0 : Int) ≤ gI s 47 ∧ gI s 47 ≤ 1 := hRs.1 47; omega) (⟨hs14_0.trans e5, JI_eq hv21_3.2 ⟨(Fs14.2.1 39 (by decide)), (Fs14.2.1 42 (by decide)), (Fs14.2.1 43 (by decide)), (Fs14.2.1 44 (by decide))⟩ hs14_0 (Fs14.2.1 75 (by decide)) (Fs14.1 76 (by decide)) (Fs14.1 77 (by decide)) (Fs14.1 47 (by decide)) (Fs14.2.2.1 78 (by decide))⟩) (by show gI s14 1 = gI s 1 ∧ gI s14 47 = gI s 47 ∧ gI s 47 ≠ 0; have : (-2147483648 : Int) ≤ gI s14 70 ∧ gI s14 70 ≤ 2147483647 := hRs14.1 70; have : (0 : Int) ≤ gI s5 47 ∧ gI s5 47 ≤ 1 := hRs5.1 47; have : (0 : Int) ≤ gI s5 1 ∧ gI s5 1 ≤ 1600 := hRs5.1 1; have : (0 : Int) ≤ gI s 47 ∧ gI s 47 ≤ 1 := hRs.1 47; have : gI s14 47 = gI s5 47 := Fs14.1 47 (by decide); have : (0 : Int) ≤ gI s 1 ∧ gI s 1 ≤ 1600 := hRs.1 1; have : gI s14 1 = gI s5 1 := Fs14.1 1 (by decide); omega) (hv21_5) (by have : (-2147483648 : Int) ≤ gI s14 70 ∧ gI s14 70 ≤ 2147483647 := hRs14.1 70; have : (0 : Int) ≤ gI s5 47 ∧ gI s5 47 ≤ 1 := hRs5.1 47; have : (0 : Int) ≤ gI s 1 ∧ gI s 1 ≤ 1600 := hRs.1 1; have : (0 : Int) ≤ gI s5 1 ∧ gI s5 1 ≤ 1600 := hRs5.1 1; have : (0 : Int) ≤ gI s 47 ∧ gI s 47 ≤ 1 := hRs.1 47; omega)
            · skip
              unfold m_x12_spread_J46
              exact ih21 x1 x2 x3 (x4 + 1) s14 hRs14 (by show x1 = p0 ∧ (0 ≤ p0 ∧ p0 < 8); have : (-2147483648 : Int) ≤ gI s14 70 ∧ gI s14 70 ≤ 2147483647 := hRs14.1 70; have : (0 : Int) ≤ gI s5 47 ∧ gI s5 47 ≤ 1 := hRs5.1 47; have : (0 : Int) ≤ gI s 1 ∧ gI s 1 ≤ 1600 := hRs.1 1; have : (0 : Int) ≤ gI s5 1 ∧ gI s5 1 ≤ 1600 := hRs5.1 1; have : (0 : Int) ≤ gI s 47 ∧ gI s 47 ≤ 1 := hRs.1 47; omega) (by show R2 x2; have : (-2147483648 : Int) ≤ gI s14 70 ∧ gI s14 70 ≤ 2147483647 := hRs14.1 70; have : (0 : Int) ≤ gI s5 47 ∧ gI s5 47 ≤ 1 := hRs5.1 47; have : (0 : Int) ≤ gI s 1 ∧ gI s 1 ≤ 1600 := hRs.1 1; have : (0 : Int) ≤ gI s5 1 ∧ gI s5 1 ≤ 1600 := hRs5.1 1; have : (0 : Int) ≤ gI s 47 ∧ gI s 47 ≤ 1 := hRs.1 47; omega) (by show 0 ≤ x3 ∧ x3 ≤ (x4 + 1) ∧ (x4 + 1) ≤ 100; have : (-2147483648 : Int) ≤ gI s14 70 ∧ gI s14 70 ≤ 2147483647 := hRs14.1 70; have : (0 : Int) ≤ gI s5 47 ∧ gI s5 47 ≤ 1 := hRs5.1 47; have : (0 : Int) ≤ gI s 1 ∧ gI s 1 ≤ 1600 := hRs.1 1; have : (0 : Int) ≤ gI s5 1 ∧ gI s5 1 ≤ 1600 := hRs5.1 1; have : (0 : Int) ≤ gI s 47 ∧ gI s 47 ≤ 1 := hRs.1 47; omega) (⟨hs14_0.trans e5, JI_eq hv21_3.2 ⟨(Fs14.2.1 39 (by decide)), (Fs14.2.1 42 (by decide)), (Fs14.2.1 43 (by decide)), (Fs14.2.1 44 (by decide))⟩ hs14_0 (Fs14.2.1 75 (by decide)) (Fs14.1 76 (by decide)) (Fs14.1 77 (by decide)) (Fs14.1 47 (by decide)) (Fs14.2.2.1 78 (by decide))⟩) (by show gI s14 1 = gI s 1 ∧ gI s14 47 = gI s 47 ∧ gI s 47 ≠ 0; have : (-2147483648 : Int) ≤ gI s14 70 ∧ gI s14 70 ≤ 2147483647 := hRs14.1 70; have : (0 : Int) ≤ gI s5 47 ∧ gI s5 47 ≤ 1 := hRs5.1 47; have : (0 : Int) ≤ gI s5 1 ∧ gI s5 1 ≤ 1600 := hRs5.1 1; have : (0 : Int) ≤ gI s 47 ∧ gI s 47 ≤ 1 := hRs.1 47; have : gI s14 47 = gI s5 47 := Fs14.1 47 (by decide); have : (0 : Int) ≤ gI s 1 ∧ gI s 1 ≤ 1600 := hRs.1 1; have : gI s14 1 = gI s5 1 := Fs14.1 1 (by decide); omega) (hv21_5) (by have : (-2147483648 : Int) ≤ gI s14 70 ∧ gI s14 70 ≤ 2147483647 := hRs14.1 70; have : (0 : Int) ≤ gI s5 47 ∧ gI s5 47 ≤ 1 := hRs5.1 47; have : (0 : Int) ≤ gI s 1 ∧ gI s 1 ≤ 1600 := hRs.1 1; have : (0 : Int) ≤ gI s5 1 ∧ gI s5 1 ≤ 1600 := hRs5.1 1; have : (0 : Int) ≤ gI s 47 ∧ gI s 47 ≤ 1 := hRs.1 47; omega)
      exact L21 FU p0 p1 0 0 s hRs (by show p0 = p0 ∧ (0 ≤ p0 ∧ p0 < 8); have : (0 : Int) ≤ gI s 47 ∧ gI s 47 ≤ 1 := hRs.1 47; omega) (by show R2 p1; have : (0 : Int) ≤ gI s 47 ∧ gI s 47 ≤ 1 := hRs.1 47; omega) (by show 0 ≤ (0 : Int) ∧ (0 : Int) ≤ (0 : Int) ∧ (0 : Int) ≤ 100; have : (0 : Int) ≤ gI s 47 ∧ gI s 47 ≤ 1 := hRs.1 47; omega) (⟨rfl, hpJ⟩) (by show gI s 1 = gI s 1 ∧ gI s 47 = gI s 47 ∧ gI s 47 ≠ 0; have : (0 : Int) ≤ gI s 47 ∧ gI s 47 ≤ 1 := hRs.1 47; have : (0 : Int) ≤ gI s 1 ∧ gI s 1 ≤ 1600 := hRs.1 1; omega) (by show gA s 49 p0.toNat ≠ 255; have : (0 : Int) ≤ gI s 47 ∧ gI s 47 ≤ 1 := hRs.1 47; omega) (by have := FU_big; have := FU_big2; have : (0 : Int) ≤ gI s 47 ∧ gI s 47 ≤ 1 := hRs.1 47; omega)
    · skip
      unfold m_x12_spread_J14
      exact wp_some ⟨hRs, by show JI s; exact (hpJ), by show gI s 1 = gI s 1; have : (0 : Int) ≤ gI s 47 ∧ gI s 47 ≤ 1 := hRs.1 47; have : (0 : Int) ≤ gI s 1 ∧ gI s 1 ≤ 1600 := hRs.1 1; omega⟩
set_option maxHeartbeats 1000000 in
theorem w_x12_victim {p0 : Int} {s : MS} (hRs : Rr s) (hp0 : R2 p0) (hp1 : JI s) : wp (m_x12_victim p0 s) (fun q => (Rr q.2) ∧ (JI q.2) ∧ (gI q.2 1 = gI s 1)) := by
  have hpJ := hp1
  unfold m_x12_victim
  refine wp_rg (by omega) ?_
  refine wp_bn (w_x12_isIn hRs (by show R8 p0; omega) (by show R8 (0 : Int); omega) (by show R8 (1 : Int); omega)) (fun r36 er36 hr36 => ?_)
  have hr36_0 := hr36
  have hr36_0 : (r36 = 1 ∧ (0 : Int) ≤ p0 ∧ p0 ≤ (1 : Int)) ∨ (r36 = 0 ∧ (p0 < (0 : Int) ∨ (1 : Int) < p0)) := hr36_0
  refine wp_rg (by omega) ?_
  refine wp_if (fun c1 => ?_) (fun c1 => ?_)
  · skip
    exact wp_some ⟨hRs, by show JI s; exact (hpJ), by show gI s 1 = gI s 1; exact (rfl)⟩
  · skip
    have L19 : ∀ (n : Nat) (x3 : Int) (x4 : Int) (x5 : Int) (x6 : Int) (s7 : MS), Rr s7 → (R2 x3) → ((-1) ≤ x4 ∧ x4 ≤ 8) → (R2 x5) → (0 ≤ x6 ∧ x6 ≤ 8) → (JI s7 ∧ gI s7 1 = gI s 1) → (8 - x6) < (n : Int) → wp (m_x12_victim_L19 n x3 x4 x5 x6 s7) (fun q => (Rr q.2) ∧ (JI q.2) ∧ (gI q.2 1 = gI s 1)) := by
      refine fr_ind (fun x3 x4 x5 x6 s7 hRs7 hv19_0 hv19_1 hv19_2 hv19_3 hv19_4 hm19 => ?_) (fun n19 ih19 x3 x4 x5 x6 s7 hRs7 hv19_0 hv19_1 hv19_2 hv19_3 hv19_4 hm19 => ?_)
      · exfalso; have : (0 : Int) ≤ gI s 1 ∧ gI s 1 ≤ 1600 := hRs.1 1; have : (0 : Int) ≤ gI s7 1 ∧ gI s7 1 ≤ 1600 := hRs7.1 1; omega
      · show wp (m_x12_victim_b19 (m_x12_victim_L19 n19) x3 x4 x5 x6 s7) _
        unfold m_x12_victim_b19
        refine wp_rg (by have : (0 : Int) ≤ gI s 1 ∧ gI s 1 ≤ 1600 := hRs.1 1; have : (0 : Int) ≤ gI s7 1 ∧ gI s7 1 ≤ 1600 := hRs7.1 1; omega) ?_
        refine wp_if (fun c2 => ?_) (fun c2 => ?_)
        · skip
          refine wp_rg (by have : (0 : Int) ≤ gI s 1 ∧ gI s 1 ≤ 1600 := hRs.1 1; have : (0 : Int) ≤ gI s7 1 ∧ gI s7 1 ≤ 1600 := hRs7.1 1; omega) ?_
          refine wp_if (fun c3 => ?_) (fun c3 => ?_)
          · skip
            unfold m_x12_victim_J78
            exact wp_some ⟨hRs7, by show JI s7; exact (hv19_4.1), by show gI s7 1 = gI s 1; exact (hv19_4.2)⟩
          · skip
            unfold m_x12_victim_J78
            exact wp_some ⟨hRs7, by show JI s7; exact (hv19_4.1), by show gI s7 1 = gI s 1; exact (hv19_4.2)⟩
        · skip
          refine wp_rg (by have : (0 : Int) ≤ gI s 1 ∧ gI s 1 ≤ 1600 := hRs.1 1; have : (0 : Int) ≤ gI s7 1 ∧ gI s7 1 ≤ 1600 := hRs7.1 1; omega) ?_
          refine wp_bn (wv_x12_isVolume hRs7 (by show R8 x6; have : (0 : Int) ≤ gI s 1 ∧ gI s 1 ≤ 1600 := hRs.1 1; have : (0 : Int) ≤ gI s7 1 ∧ gI s7 1 ≤ 1600 := hRs7.1 1; omega)) (fun r28 er28 hr28 => ?_)
          obtain ⟨hr28_0, hr28_1⟩ := hr28
          have hr28_0 : (r28 = 1 ∧ (0 ≤ x6 ∧ x6 < 8) ∧ gI s7 47 ≠ 0 ∧ gA s7 49 x6.toNat ≠ 255) ∨ r28 = 0 := hr28_0
          have hr28_1 : 0 ≤ x6 ∧ x6 < 8 → r28 = ivol s7 x6.toNat := hr28_1
          refine wp_rg (by have : (0 : Int) ≤ gI s7 47 ∧ gI s7 47 ≤ 1 := hRs7.1 47; have : (0 : Int) ≤ gI s 1 ∧ gI s 1 ≤ 1600 := hRs.1 1; have : (0 : Int) ≤ gI s7 1 ∧ gI s7 1 ≤ 1600 := hRs7.1 1; omega) ?_
          refine wp_if (fun c4 => ?_) (fun c4 => ?_)
          · skip
            unfold m_x12_victim_J46
            refine wp_rg (by have : (0 : Int) ≤ gI s7 47 ∧ gI s7 47 ≤ 1 := hRs7.1 47; have : (0 : Int) ≤ gI s 1 ∧ gI s 1 ≤ 1600 := hRs.1 1; have : (0 : Int) ≤ gI s7 1 ∧ gI s7 1 ≤ 1600 := hRs7.1 1; omega) ?_
            refine wp_rg (by have : (0 : Int) ≤ gI s7 47 ∧ gI s7 47 ≤ 1 := hRs7.1 47; have : (0 : Int) ≤ gI s 1 ∧ gI s 1 ≤ 1600 := hRs.1 1; have : (0 : Int) ≤ gI s7 1 ∧ gI s7 1 ≤ 1600 := hRs7.1 1; omega) ?_
            refine wp_if (fun c5 => ?_) (fun c5 => ?_)
            · skip
              unfold m_x12_victim_J63
              exact ih19 x3 x6 (-1) (x6 + 1) s7 hRs7 (by show R2 x3; have : (0 : Int) ≤ gI s7 47 ∧ gI s7 47 ≤ 1 := hRs7.1 47; have : (0 : Int) ≤ gI s 1 ∧ gI s 1 ≤ 1600 := hRs.1 1; have : (0 : Int) ≤ gI s7 1 ∧ gI s7 1 ≤ 1600 := hRs7.1 1; omega) (by show (-1) ≤ x6 ∧ x6 ≤ 8; have : (0 : Int) ≤ gI s7 47 ∧ gI s7 47 ≤ 1 := hRs7.1 47; have : (0 : Int) ≤ gI s 1 ∧ gI s 1 ≤ 1600 := hRs.1 1; have : (0 : Int) ≤ gI s7 1 ∧ gI s7 1 ≤ 1600 := hRs7.1 1; omega) (by show R2 (-1 : Int); have : (0 : Int) ≤ gI s7 47 ∧ gI s7 47 ≤ 1 := hRs7.1 47; have : (0 : Int) ≤ gI s 1 ∧ gI s 1 ≤ 1600 := hRs.1 1; have : (0 : Int) ≤ gI s7 1 ∧ gI s7 1 ≤ 1600 := hRs7.1 1; omega) (by show 0 ≤ (x6 + 1) ∧ (x6 + 1) ≤ 8; have : (0 : Int) ≤ gI s7 47 ∧ gI s7 47 ≤ 1 := hRs7.1 47; have : (0 : Int) ≤ gI s 1 ∧ gI s 1 ≤ 1600 := hRs.1 1; have : (0 : Int) ≤ gI s7 1 ∧ gI s7 1 ≤ 1600 := hRs7.1 1; omega) (hv19_4) (by have : (0 : Int) ≤ gI s7 47 ∧ gI s7 47 ≤ 1 := hRs7.1 47; have : (0 : Int) ≤ gI s 1 ∧ gI s 1 ≤ 1600 := hRs.1 1; have : (0 : Int) ≤ gI s7 1 ∧ gI s7 1 ≤ 1600 := hRs7.1 1; omega)
            · skip
              unfold m_x12_victim_J63
              exact ih19 x3 x4 x5 (x6 + 1) s7 hRs7 (by show R2 x3; have : (0 : Int) ≤ gI s7 47 ∧ gI s7 47 ≤ 1 := hRs7.1 47; have : (0 : Int) ≤ gI s 1 ∧ gI s 1 ≤ 1600 := hRs.1 1; have : (0 : Int) ≤ gI s7 1 ∧ gI s7 1 ≤ 1600 := hRs7.1 1; omega) (by show (-1) ≤ x4 ∧ x4 ≤ 8; have : (0 : Int) ≤ gI s7 47 ∧ gI s7 47 ≤ 1 := hRs7.1 47; have : (0 : Int) ≤ gI s 1 ∧ gI s 1 ≤ 1600 := hRs.1 1; have : (0 : Int) ≤ gI s7 1 ∧ gI s7 1 ≤ 1600 := hRs7.1 1; omega) (by show R2 x5; have : (0 : Int) ≤ gI s7 47 ∧ gI s7 47 ≤ 1 := hRs7.1 47; have : (0 : Int) ≤ gI s 1 ∧ gI s 1 ≤ 1600 := hRs.1 1; have : (0 : Int) ≤ gI s7 1 ∧ gI s7 1 ≤ 1600 := hRs7.1 1; omega) (by show 0 ≤ (x6 + 1) ∧ (x6 + 1) ≤ 8; have : (0 : Int) ≤ gI s7 47 ∧ gI s7 47 ≤ 1 := hRs7.1 47; have : (0 : Int) ≤ gI s 1 ∧ gI s 1 ≤ 1600 := hRs.1 1; have : (0 : Int) ≤ gI s7 1 ∧ gI s7 1 ≤ 1600 := hRs7.1 1; omega) (hv19_4) (by have : (0 : Int) ≤ gI s7 47 ∧ gI s7 47 ≤ 1 := hRs7.1 47; have : (0 : Int) ≤ gI s 1 ∧ gI s 1 ≤ 1600 := hRs.1 1; have : (0 : Int) ≤ gI s7 1 ∧ gI s7 1 ≤ 1600 := hRs7.1 1; omega)
          · skip
            have kG7 := JI_GA hv19_4.1 (by omega)
            have kb7 := kG7.1.1.2 x6.toNat (by omega)
            refine wp_bn (w_x12_dropsMany hRs7 (by show 0 ≤ x6 ∧ x6 < 8; have : (0 : Int) ≤ gI s7 47 ∧ gI s7 47 ≤ 1 := hRs7.1 47; have : (0 : Int) ≤ gI s 1 ∧ gI s 1 ≤ 1600 := hRs.1 1; have : (0 : Int) ≤ gI s7 1 ∧ gI s7 1 ≤ 1600 := hRs7.1 1; omega) (kG7.1.1.1) (JI_N hv19_4.1) (by show 0 ≤ gA s7 49 x6.toNat ∧ gA s7 49 x6.toNat ≤ 254; have : (0 : Int) ≤ gI s7 47 ∧ gI s7 47 ≤ 1 := hRs7.1 47; have : (0 : Int) ≤ gI s 1 ∧ gI s 1 ≤ 1600 := hRs.1 1; have : (0 : Int) ≤ gI s7 1 ∧ gI s7 1 ≤ 1600 := hRs7.1 1; omega)) (fun qqr33 eqr33s hqr33s => ?_)
            obtain ⟨qr33r, qr33s⟩ := qqr33
            dsimp only at eqr33s hqr33s ⊢
            have Fqr33s : F_x12_dropsMany s7 qr33s := fr_x12_dropsMany eqr33s
            obtain ⟨hRqr33s, hqr33s_0, hqr33s_1⟩ := hqr33s
            have hqr33s_0 : R2 qr33r := hqr33s_0
            have hqr33s_1 : gA qr33s 49 = gA s7 49 := hqr33s_1
            unfold m_x12_victim_J46
            refine wp_rg (by have : (0 : Int) ≤ gI s7 47 ∧ gI s7 47 ≤ 1 := hRs7.1 47; have : (0 : Int) ≤ gI s 1 ∧ gI s 1 ≤ 1600 := hRs.1 1; have : (0 : Int) ≤ gI s7 1 ∧ gI s7 1 ≤ 1600 := hRs7.1 1; omega) ?_
            refine wp_rg (by have : (0 : Int) ≤ gI s7 47 ∧ gI s7 47 ≤ 1 := hRs7.1 47; have : (0 : Int) ≤ gI s 1 ∧ gI s 1 ≤ 1600 := hRs.1 1; have : (0 : Int) ≤ gI s7 1 ∧ gI s7 1 ≤ 1600 := hRs7.1 1; omega) ?_
            refine wp_if (fun c6 => ?_) (fun c6 => ?_)
            · skip
              unfold m_x12_victim_J63
              exact ih19 x3 x6 qr33r (x6 + 1) qr33s hRqr33s (by show R2 x3; have : (0 : Int) ≤ gI s7 47 ∧ gI s7 47 ≤ 1 := hRs7.1 47; have : (0 : Int) ≤ gI s 1 ∧ gI s 1 ≤ 1600 := hRs.1 1; have : (0 : Int) ≤ gI s7 1 ∧ gI s7 1 ≤ 1600 := hRs7.1 1; omega) (by show (-1) ≤ x6 ∧ x6 ≤ 8; have : (0 : Int) ≤ gI s7 47 ∧ gI s7 47 ≤ 1 := hRs7.1 47; have : (0 : Int) ≤ gI s 1 ∧ gI s 1 ≤ 1600 := hRs.1 1; have : (0 : Int) ≤ gI s7 1 ∧ gI s7 1 ≤ 1600 := hRs7.1 1; omega) (by show R2 qr33r; have : (0 : Int) ≤ gI s7 47 ∧ gI s7 47 ≤ 1 := hRs7.1 47; have : (0 : Int) ≤ gI s 1 ∧ gI s 1 ≤ 1600 := hRs.1 1; have : (0 : Int) ≤ gI s7 1 ∧ gI s7 1 ≤ 1600 := hRs7.1 1; omega) (by show 0 ≤ (x6 + 1) ∧ (x6 + 1) ≤ 8; have : (0 : Int) ≤ gI s7 47 ∧ gI s7 47 ≤ 1 := hRs7.1 47; have : (0 : Int) ≤ gI s 1 ∧ gI s 1 ≤ 1600 := hRs.1 1; have : (0 : Int) ≤ gI s7 1 ∧ gI s7 1 ≤ 1600 := hRs7.1 1; omega) (⟨JI_eq hv19_4.1 ⟨(Fqr33s.2.1 39 (by decide)), (Fqr33s.2.1 42 (by decide)), (Fqr33s.2.1 43 (by decide)), (Fqr33s.2.1 44 (by decide))⟩ hqr33s_1 (Fqr33s.2.1 75 (by decide)) (Fqr33s.1 76 (by decide)) (Fqr33s.1 77 (by decide)) (Fqr33s.1 47 (by decide)) (Fqr33s.2.2.1 78 (by decide)), ((Fqr33s.1 1 (by decide))).trans hv19_4.2⟩) (by have : (0 : Int) ≤ gI s7 47 ∧ gI s7 47 ≤ 1 := hRs7.1 47; have : (0 : Int) ≤ gI s 1 ∧ gI s 1 ≤ 1600 := hRs.1 1; have : (0 : Int) ≤ gI s7 1 ∧ gI s7 1 ≤ 1600 := hRs7.1 1; omega)
            · skip
              unfold m_x12_victim_J63
              exact ih19 x3 x4 x5 (x6 + 1) qr33s hRqr33s (by show R2 x3; have : (0 : Int) ≤ gI s7 47 ∧ gI s7 47 ≤ 1 := hRs7.1 47; have : (0 : Int) ≤ gI s 1 ∧ gI s 1 ≤ 1600 := hRs.1 1; have : (0 : Int) ≤ gI s7 1 ∧ gI s7 1 ≤ 1600 := hRs7.1 1; omega) (by show (-1) ≤ x4 ∧ x4 ≤ 8; have : (0 : Int) ≤ gI s7 47 ∧ gI s7 47 ≤ 1 := hRs7.1 47; have : (0 : Int) ≤ gI s 1 ∧ gI s 1 ≤ 1600 := hRs.1 1; have : (0 : Int) ≤ gI s7 1 ∧ gI s7 1 ≤ 1600 := hRs7.1 1; omega) (by show R2 x5; have : (0 : Int) ≤ gI s7 47 ∧ gI s7 47 ≤ 1 := hRs7.1 47; have : (0 : Int) ≤ gI s 1 ∧ gI s 1 ≤ 1600 := hRs.1 1; have : (0 : Int) ≤ gI s7 1 ∧ gI s7 1 ≤ 1600 := hRs7.1 1; omega) (by show 0 ≤ (x6 + 1) ∧ (x6 + 1) ≤ 8; have : (0 : Int) ≤ gI s7 47 ∧ gI s7 47 ≤ 1 := hRs7.1 47; have : (0 : Int) ≤ gI s 1 ∧ gI s 1 ≤ 1600 := hRs.1 1; have : (0 : Int) ≤ gI s7 1 ∧ gI s7 1 ≤ 1600 := hRs7.1 1; omega) (⟨JI_eq hv19_4.1 ⟨(Fqr33s.2.1 39 (by decide)), (Fqr33s.2.1 42 (by decide)), (Fqr33s.2.1 43 (by decide)), (Fqr33s.2.1 44 (by decide))⟩ hqr33s_1 (Fqr33s.2.1 75 (by decide)) (Fqr33s.1 76 (by decide)) (Fqr33s.1 77 (by decide)) (Fqr33s.1 47 (by decide)) (Fqr33s.2.2.1 78 (by decide)), ((Fqr33s.1 1 (by decide))).trans hv19_4.2⟩) (by have : (0 : Int) ≤ gI s7 47 ∧ gI s7 47 ≤ 1 := hRs7.1 47; have : (0 : Int) ≤ gI s 1 ∧ gI s 1 ≤ 1600 := hRs.1 1; have : (0 : Int) ≤ gI s7 1 ∧ gI s7 1 ≤ 1600 := hRs7.1 1; omega)
    exact L19 FU p0 (-1) (-1) 0 s hRs (by show R2 p0; omega) (by show (-1) ≤ (-1 : Int) ∧ (-1 : Int) ≤ 8; omega) (by show R2 (-1 : Int); omega) (by show 0 ≤ (0 : Int) ∧ (0 : Int) ≤ 8; omega) (⟨hpJ, rfl⟩) (by have := FU_big; have := FU_big2; omega)
