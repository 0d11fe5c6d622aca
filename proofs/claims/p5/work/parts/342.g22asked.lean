def bnd (n : Nat) : Int := 9223372036854775807 / 27 ^ n
theorem bnd_s : ∀ n, n < 14 → bnd n / 27 ≤ bnd (n + 1) := by decide +kernel
theorem bnd_e : bnd 14 = 0 := by decide +kernel
theorem bnd_0 : bnd 0 = 9223372036854775807 := by decide +kernel
set_option maxHeartbeats 1000000 in
theorem w_x12_letter {p0 : Int} {p1 : Int} {s : MS} (hRs : Rr s) (hp0 : R2 p0) (hp1 : R2 p1) (hp2 : JI s) : wp (m_x12_letter p0 p1 s) (fun r => (R2 r)) := by
  unfold m_x12_letter
  refine wp_rg (by omega) ?_
  refine wp_rdIn (by omega) (fun y20 ey20 => ?_)
  have by20 : (-2147483648 : Int) ≤ y20 ∧ y20 ≤ 2147483647 := ey20 ▸ hRs.2.1 39 _ (by show _ < 10; omega)
  have k20 : gA s 39 7 = y20 := ey20
  have k8 := hp2.2.2.1
  refine wp_rg (by omega) ?_
  refine wp_bn (w_x12_isIn hRs (by show R8 p0; omega) (by show R8 (0 : Int); omega) (by show R8 (y20 - 1); omega)) (fun r23 er23 hr23 => ?_)
  have hr23_0 := hr23
  have hr23_0 : (r23 = 1 ∧ (0 : Int) ≤ p0 ∧ p0 ≤ (y20 - 1)) ∨ (r23 = 0 ∧ (p0 < (0 : Int) ∨ (y20 - 1) < p0)) := hr23_0
  refine wp_rg (by omega) ?_
  refine wp_if (fun c1 => ?_) (fun c1 => ?_)
  · skip
    unfold m_x12_letter_J31
    exact wp_some (by show R2 (-1 : Int); omega)
  · skip
    refine wp_rg (by omega) ?_
    refine wp_bn (w_x12_isIn hRs (by show R8 p1; omega) (by show R8 (0 : Int); omega) (by show R8 (5 : Int); omega)) (fun r28 er28 hr28 => ?_)
    have hr28_0 := hr28
    have hr28_0 : (r28 = 1 ∧ (0 : Int) ≤ p1 ∧ p1 ≤ (5 : Int)) ∨ (r28 = 0 ∧ (p1 < (0 : Int) ∨ (5 : Int) < p1)) := hr28_0
    refine wp_rg (by omega) ?_
    refine wp_if (fun c2 => ?_) (fun c2 => ?_)
    · skip
      unfold m_x12_letter_J31
      exact wp_some (by show R2 (-1 : Int); omega)
    · skip
      refine wp_rdLn (by omega) (fun yl31 eyl31 => ?_)
      have ky : R8 yl31 := eyl31 ▸ hRs.2.2.2 40 _
      have L49 : ∀ (n : Nat) (x9 : Int) (z10 : Int) (x11 : Int) (z12 : Int), (0 ≤ x9 ∧ x9 ≤ 5) → (R8 z10) → (0 ≤ x11 ∧ x11 ≤ 14) → (z12 ≤ bnd x11.toNat ∧ R8 z12) → (15 - x11) < (n : Int) → wp (m_x12_letter_L49 s n x9 z10 x11 z12) (fun r => (R2 r)) := by
        refine fr_ind (fun x9 z10 x11 z12 hv49_0 hv49_1 hv49_2 hv49_3 hm49 => ?_) (fun n49 ih49 x9 z10 x11 z12 hv49_0 hv49_1 hv49_2 hv49_3 hm49 => ?_)
        · exfalso; omega
        · show wp (m_x12_letter_b49 s (m_x12_letter_L49 s n49) x9 z10 x11 z12) _
          unfold m_x12_letter_b49
          refine wp_rgL (by omega) ?_
          refine wp_if (fun c3 => ?_) (fun c3 => ?_)
          · skip
            refine wp_rg (by omega) ?_
            refine wp_rg (by omega) ?_
            refine wp_if (fun c4 => ?_) (fun c4 => ?_)
            · skip
              have L84 : ∀ (n : Nat) (x1 : Int) (z2 : Int) (x3 : Int), (0 ≤ x1 ∧ x1 ≤ 5) → (R8 z2) → (x1 ≤ x3 ∧ x3 ≤ 14) → (x3 - x1) < (n : Int) → wp (m_x12_letter_L84 s n x1 z2 x3) (fun r => (R2 r)) := by
                refine fr_ind (fun x1 z2 x3 hv84_0 hv84_1 hv84_2 hm84 => ?_) (fun n84 ih84 x1 z2 x3 hv84_0 hv84_1 hv84_2 hm84 => ?_)
                · exfalso; omega
                · show wp (m_x12_letter_b84 s (m_x12_letter_L84 s n84) x1 z2 x3) _
                  unfold m_x12_letter_b84
                  have kn : (Int.tdiv z2 27).natAbs ≤ z2.natAbs := Int.natAbs_tdiv_le_natAbs z2 27
                  have km1 := Int.natAbs_tmod z2 27
                  have km2 := Nat.mod_lt z2.natAbs (show 0 < (27 : Int).natAbs by decide)
                  have km3 : (27 : Int).natAbs = 27 := rfl
                  have ke : 27 * Int.tdiv z2 27 + Int.tmod z2 27 = z2 := Int.mul_tdiv_add_tmod z2 27
                  refine wp_rg (by omega) ?_
                  refine wp_rg (by omega) ?_
                  refine wp_if (fun c5 => ?_) (fun c5 => ?_)
                  · skip
                    refine wp_dvL (by omega) ?_
                    exact wp_some (by show R2 (Int.tmod z2 27); omega)
                  · skip
                    refine wp_dvL (by omega) ?_
                    exact ih84 x1 (Int.tdiv z2 27) (x3 + (-1)) (by show 0 ≤ x1 ∧ x1 ≤ 5; omega) (by show R8 (Int.tdiv z2 27); omega) (by show x1 ≤ (x3 + (-1)) ∧ (x3 + (-1)) ≤ 14; omega) (by omega)
              exact L84 FU x9 z10 (x11 - 1) (by show 0 ≤ x9 ∧ x9 ≤ 5; omega) (by show R8 z10; omega) (by show x9 ≤ (x11 - 1) ∧ (x11 - 1) ≤ 14; omega) (by have := FU_big; have := FU_big2; omega)
            · skip
              exact wp_some (by show R2 (0 : Int); omega)
          · skip
            have kd : Int.tdiv z12 27 = z12 / 27 := Int.tdiv_eq_ediv_of_nonneg (by omega)
            have k14 : x11 ≠ 14 := fun z => by have z2 := hv49_3.1; rw [z] at z2; have z3 : bnd (14 : Int).toNat = 0 := bnd_e; omega
            have kb := bnd_s x11.toNat (by omega)
            refine wp_dvL (by omega) ?_
            exact ih49 x9 z10 (x11 + 1) (Int.tdiv z12 27) (by show 0 ≤ x9 ∧ x9 ≤ 5; omega) (by show R8 z10; omega) (by show 0 ≤ (x11 + 1) ∧ (x11 + 1) ≤ 14; omega) (by rw [kd, show (x11 + 1).toNat = x11.toNat + 1 by omega]; exact ⟨by omega, by omega⟩) (by omega)
      exact L49 FU p1 yl31 0 yl31 (by show 0 ≤ p1 ∧ p1 ≤ 5; omega) (by show R8 yl31; omega) (by show 0 ≤ (0 : Int) ∧ (0 : Int) ≤ 14; omega) (⟨by have z : bnd (0 : Int).toNat = 9223372036854775807 := bnd_0; omega, ky⟩) (by have := FU_big; have := FU_big2; omega)
set_option maxHeartbeats 1000000 in
theorem w_x12_block {p0 : Int} {p1 : Int} {s : MS} (hRs : Rr s) (hp0 : R2 p0) (hp1 : R2 p1) (hp2 : JI s) : wp (m_x12_block p0 p1 s) (fun r => True) := by
  have kN := JI_N hp2
  unfold m_x12_block
  refine wp_rg (by omega) ?_
  refine wp_bn (w_x12_isBlock hRs (by show R8 p0; omega) (by show 0 ≤ gA s 39 5 ∧ gA s 39 5 ≤ 48; omega)) (fun r7 er7 hr7 => ?_)
  have hr7_0 := hr7
  have hr7_0 : (r7 = 1 ∧ 0 ≤ p0 ∧ p0 < gA s 39 5) ∨ (r7 = 0 ∧ (p0 < 0 ∨ gA s 39 5 ≤ p0)) := hr7_0
  refine wp_rg (by omega) ?_
  refine wp_if (fun c1 => ?_) (fun c1 => ?_)
  · skip
    exact wp_some (trivial)
  · skip
    refine wp_rg (by omega) ?_
    refine wp_if (fun c2 => ?_) (fun c2 => ?_)
    · skip
      refine wp_bn (w_x12_countOf hRs (by show 0 ≤ p0 ∧ p0 < 48; omega)) (fun r13 er13 hr13 => ?_)
      obtain ⟨hr13_0, hr13_1⟩ := hr13
      have hr13_0 : r13 = cM s p0.toNat := hr13_0
      have hr13_1 : R2 r13 := hr13_1
      exact wp_some (trivial)
    · skip
      refine wp_if (fun c3 => ?_) (fun c3 => ?_)
      · skip
        refine wp_bn (w_x12_savedOf hRs (by show 0 ≤ p0 ∧ p0 < 48; omega)) (fun r16 er16 hr16 => ?_)
        obtain ⟨hr16_0, hr16_1⟩ := hr16
        have hr16_0 : r16 = vM s p0.toNat := hr16_0
        have hr16_1 : R2 r16 := hr16_1
        exact wp_some (trivial)
      · skip
        refine wp_if (fun c4 => ?_) (fun c4 => ?_)
        · skip
          refine wp_bn (w_x12_isThere hRs (by show 0 ≤ p0 ∧ p0 < 48; omega)) (fun r19 er19 hr19 => ?_)
          have hr19_0 := hr19
          have hr19_0 : (r19 = 1 ∧ (0 < cM s p0.toNat ∨ 0 < vM s p0.toNat)) ∨ (r19 = 0 ∧ cM s p0.toNat ≤ 0 ∧ vM s p0.toNat ≤ 0) := hr19_0
          refine wp_rg (by omega) ?_
          refine wp_if (fun c5 => ?_) (fun c5 => ?_)
          · skip
            unfold m_x12_block_J81
            exact wp_some (trivial)
          · skip
            refine wp_bn (w_x12_levelOf hRs (by show 0 ≤ p0 ∧ p0 < 48; omega)) (fun r23 er23 hr23 => ?_)
            obtain ⟨hr23_0, hr23_1⟩ := hr23
            have hr23_0 : r23 = (hM s).1 p0.toNat := hr23_0
            have hr23_1 : R2 r23 := hr23_1
            unfold m_x12_block_J81
            exact wp_some (trivial)
        · skip
          refine wp_if (fun c6 => ?_) (fun c6 => ?_)
          · skip
            refine wp_bn (w_x12_isThere hRs (by show 0 ≤ p0 ∧ p0 < 48; omega)) (fun r26 er26 hr26 => ?_)
            have hr26_0 := hr26
            have hr26_0 : (r26 = 1 ∧ (0 < cM s p0.toNat ∨ 0 < vM s p0.toNat)) ∨ (r26 = 0 ∧ cM s p0.toNat ≤ 0 ∧ vM s p0.toNat ≤ 0) := hr26_0
            refine wp_rg (by omega) ?_
            refine wp_if (fun c7 => ?_) (fun c7 => ?_)
            · skip
              unfold m_x12_block_J99
              exact wp_some (trivial)
            · skip
              refine wp_bn (w_x12_entriesOf hRs (by show 0 ≤ p0 ∧ p0 < 48; omega)) (fun r30 er30 hr30 => ?_)
              obtain ⟨hr30_0, hr30_1⟩ := hr30
              have hr30_0 : r30 = (hM s).2.1 p0.toNat := hr30_0
              have hr30_1 : R2 r30 := hr30_1
              unfold m_x12_block_J99
              exact wp_some (trivial)
          · skip
            refine wp_if (fun c8 => ?_) (fun c8 => ?_)
            · skip
              refine wp_bn (w_x12_isFresh hRs (by show 0 ≤ p0 ∧ p0 < 48; omega)) (fun r33 er33 hr33 => ?_)
              have hr33_0 := hr33
              have hr33_0 : (r33 = 1 ∧ 0 < cM s p0.toNat ∧ vM s p0.toNat = 0) ∨ (r33 = 0 ∧ (cM s p0.toNat ≤ 0 ∨ vM s p0.toNat ≠ 0)) := hr33_0
              refine wp_rg (by omega) ?_
              refine wp_if (fun c9 => ?_) (fun c9 => ?_)
              · skip
                unfold m_x12_block_J113
                exact wp_some (trivial)
              · skip
                unfold m_x12_block_J113
                exact wp_some (trivial)
            · skip
              refine wp_if (fun c10 => ?_) (fun c10 => ?_)
              · skip
                refine wp_bn (w_x12_isHeld hRs (by show 0 ≤ p0 ∧ p0 < 48; omega)) (fun r38 er38 hr38 => ?_)
                have hr38_0 := hr38
                have hr38_0 : r38 = 0 ∨ r38 = 1 := hr38_0
                refine wp_rg (by omega) ?_
                refine wp_if (fun c11 => ?_) (fun c11 => ?_)
                · skip
                  unfold m_x12_block_J127
                  exact wp_some (trivial)
                · skip
                  unfold m_x12_block_J127
                  exact wp_some (trivial)
              · skip
                exact wp_some (trivial)
set_option maxHeartbeats 1000000 in
theorem w_x12_entry {p0 : Int} {p1 : Int} {p2 : Int} {s : MS} (hRs : Rr s) (hp0 : R2 p0) (hp1 : R2 p1) (hp2 : R2 p2) (hp3 : JI s) : wp (m_x12_entry p0 p1 p2 s) (fun r => True) := by
  have kN := JI_N hp3
  unfold m_x12_entry
  refine wp_rg (by omega) ?_
  refine wp_bn (w_x12_isBlock hRs (by show R8 p0; omega) (by show 0 ≤ gA s 39 5 ∧ gA s 39 5 ≤ 48; omega)) (fun r4 er4 hr4 => ?_)
  have hr4_0 := hr4
  have hr4_0 : (r4 = 1 ∧ 0 ≤ p0 ∧ p0 < gA s 39 5) ∨ (r4 = 0 ∧ (p0 < 0 ∨ gA s 39 5 ≤ p0)) := hr4_0
  refine wp_rg (by omega) ?_
  refine wp_if (fun c1 => ?_) (fun c1 => ?_)
  · skip
    unfold m_x12_entry_J44
    exact wp_some (trivial)
  · skip
    refine wp_bn (w_x12_isThere hRs (by show 0 ≤ p0 ∧ p0 < 48; omega)) (fun r8 er8 hr8 => ?_)
    have hr8_0 := hr8
    have hr8_0 : (r8 = 1 ∧ (0 < cM s p0.toNat ∨ 0 < vM s p0.toNat)) ∨ (r8 = 0 ∧ cM s p0.toNat ≤ 0 ∧ vM s p0.toNat ≤ 0) := hr8_0
    refine wp_rg (by omega) ?_
    refine wp_if (fun c2 => ?_) (fun c2 => ?_)
    · skip
      unfold m_x12_entry_J44
      exact wp_some (trivial)
    · skip
      refine wp_rg (by omega) ?_
      refine wp_bn (w_x12_entriesOf hRs (by show 0 ≤ p0 ∧ p0 < 48; omega)) (fun r13 er13 hr13 => ?_)
      obtain ⟨hr13_0, hr13_1⟩ := hr13
      have hr13_0 : r13 = (hM s).2.1 p0.toNat := hr13_0
      have hr13_1 : R2 r13 := hr13_1
      have kt : gI s 47 ≠ 0 := fun z => by rcases hp3.2.2.2 with q | q <;> omega
      have kz := RT_sz (JI_GA hp3 kt).1.1.1 (b := p0.toNat) (by omega)
      rw [← hr13_0] at kz
      refine wp_rg (by omega) ?_
      refine wp_bn (w_x12_isIn hRs (by show R8 p1; omega) (by show R8 (0 : Int); omega) (by show R8 (r13 - 1); omega)) (fun r16 er16 hr16 => ?_)
      have hr16_0 := hr16
      have hr16_0 : (r16 = 1 ∧ (0 : Int) ≤ p1 ∧ p1 ≤ (r13 - 1)) ∨ (r16 = 0 ∧ (p1 < (0 : Int) ∨ (r13 - 1) < p1)) := hr16_0
      refine wp_rg (by omega) ?_
      refine wp_if (fun c3 => ?_) (fun c3 => ?_)
      · skip
        unfold m_x12_entry_J44
        exact wp_some (trivial)
      · skip
        refine wp_rg (by omega) ?_
        refine wp_bn (w_x12_isIn hRs (by show R8 p2; omega) (by show R8 (0 : Int); omega) (by show R8 (1 : Int); omega)) (fun r21 er21 hr21 => ?_)
        have hr21_0 := hr21
        have hr21_0 : (r21 = 1 ∧ (0 : Int) ≤ p2 ∧ p2 ≤ (1 : Int)) ∨ (r21 = 0 ∧ (p2 < (0 : Int) ∨ (1 : Int) < p2)) := hr21_0
        refine wp_rg (by omega) ?_
        refine wp_if (fun c4 => ?_) (fun c4 => ?_)
        · skip
          unfold m_x12_entry_J44
          exact wp_some (trivial)
        · skip
          refine wp_rg (by omega) ?_
          refine wp_if (fun c5 => ?_) (fun c5 => ?_)
          · skip
            refine wp_bn (w_x12_keyAt hRs (by show 0 ≤ p0 ∧ p0 < 48; omega) (by show 0 ≤ p1 ∧ p1 < 6; omega)) (fun r29 er29 hr29 => ?_)
            obtain ⟨hr29_0, hr29_1⟩ := hr29
            have hr29_0 : r29 = kM s p0.toNat p1.toNat := hr29_0
            have hr29_1 : R2 r29 := hr29_1
            unfold m_x12_entry_J65
            exact wp_some (trivial)
          · skip
            refine wp_bn (w_x12_valueAt hRs (by show 0 ≤ p0 ∧ p0 < 48; omega) (by show 0 ≤ p1 ∧ p1 < 6; omega)) (fun r27 er27 hr27 => ?_)
            obtain ⟨hr27_0, hr27_1⟩ := hr27
            have hr27_0 : r27 = (hM s).2.2 p0.toNat p1.toNat := hr27_0
            have hr27_1 : R2 r27 := hr27_1
            unfold m_x12_entry_J65
            exact wp_some (trivial)
set_option maxHeartbeats 1000000 in
theorem w_x12_kept {p0 : Int} {p1 : Int} {s : MS} (hRs : Rr s) (hp0 : R2 p0) (hp1 : R2 p1) (hp2 : JI s) : wp (m_x12_kept p0 p1 s) (fun r => True) := by
  unfold m_x12_kept
  refine wp_rg (by omega) ?_
  refine wp_rdIn (by omega) (fun y3 ey3 => ?_)
  have by3 : (-2147483648 : Int) ≤ y3 ∧ y3 ≤ 2147483647 := ey3 ▸ hRs.2.1 49 _ (by show _ < 906; omega)
  have k3 : gA s 49 785 = y3 := ey3
  have km := hp2.1.2
  refine wp_rg (by omega) ?_
  refine wp_bn (w_x12_isIn hRs (by show R8 p0; omega) (by show R8 (0 : Int); omega) (by show R8 (y3 - 1); omega)) (fun r6 er6 hr6 => ?_)
  have hr6_0 := hr6
  have hr6_0 : (r6 = 1 ∧ (0 : Int) ≤ p0 ∧ p0 ≤ (y3 - 1)) ∨ (r6 = 0 ∧ (p0 < (0 : Int) ∨ (y3 - 1) < p0)) := hr6_0
  refine wp_rg (by omega) ?_
  refine wp_if (fun c1 => ?_) (fun c1 => ?_)
  · skip
    unfold m_x12_kept_J49
    unfold m_x12_kept_J50
    exact wp_some (trivial)
  · skip
    refine wp_rg (by omega) ?_
    refine wp_bn (w_x12_isIn hRs (by show R8 p1; omega) (by show R8 (0 : Int); omega) (by show R8 (2 : Int); omega)) (fun r11 er11 hr11 => ?_)
    have hr11_0 := hr11
    have hr11_0 : (r11 = 1 ∧ (0 : Int) ≤ p1 ∧ p1 ≤ (2 : Int)) ∨ (r11 = 0 ∧ (p1 < (0 : Int) ∨ (2 : Int) < p1)) := hr11_0
    refine wp_rg (by omega) ?_
    refine wp_if (fun c2 => ?_) (fun c2 => ?_)
    · skip
      unfold m_x12_kept_J49
      unfold m_x12_kept_J50
      exact wp_some (trivial)
    · skip
      refine wp_rdIn (by omega) (fun y14 ey14 => ?_)
      have by14 : (-2147483648 : Int) ≤ y14 ∧ y14 ≤ 2147483647 := ey14 ▸ hRs.2.1 49 _ (by show _ < 906; omega)
      unfold m_x12_kept_J50
      exact wp_some (trivial)
set_option maxHeartbeats 1000000 in
theorem w_x12_read {p0 : Int} {p1 : Int} {s : MS} (hRs : Rr s) (hp0 : R2 p0) (hp1 : R2 p1) (hp2 : JI s) : wp (m_x12_read p0 p1 s) (fun r => True) := by
  have hpJ := hp2
  unfold m_x12_read
  refine wp_rg (by omega) ?_
  refine wp_bn (wv_x12_isVolume hRs (by show R8 p0; omega)) (fun r4 er4 hr4 => ?_)
  obtain ⟨hr4_0, hr4_1⟩ := hr4
  have hr4_0 : (r4 = 1 ∧ (0 ≤ p0 ∧ p0 < 8) ∧ gI s 47 ≠ 0 ∧ gA s 49 p0.toNat ≠ 255) ∨ r4 = 0 := hr4_0
  have hr4_1 : 0 ≤ p0 ∧ p0 < 8 → r4 = ivol s p0.toNat := hr4_1
  refine wp_rg (by have : (0 : Int) ≤ gI s 47 ∧ gI s 47 ≤ 1 := hRs.1 47; omega) ?_
  refine wp_if (fun c1 => ?_) (fun c1 => ?_)
  · skip
    unfold m_x12_read_J19
    exact wp_some (trivial)
  · skip
    have kG := JI_GA hpJ (by omega)
    have kb := kG.1.1.2 p0.toNat (by omega)
    refine wp_bn (w_x12_valueOf hRs (by show 0 ≤ p0 ∧ p0 < 8; have : (0 : Int) ≤ gI s 47 ∧ gI s 47 ≤ 1 := hRs.1 47; omega) (by show R2 p1; have : (0 : Int) ≤ gI s 47 ∧ gI s 47 ≤ 1 := hRs.1 47; omega) (kG.1.1.1) (by show 0 ≤ gA s 49 p0.toNat ∧ gA s 49 p0.toNat ≤ 255; have : (0 : Int) ≤ gI s 47 ∧ gI s 47 ≤ 1 := hRs.1 47; omega)) (fun r8 er8 hr8 => ?_)
    obtain ⟨hr8_0, hr8_1⟩ := hr8
    have hr8_0 : R2 r8 := hr8_0
    have hr8_1 : r8 = -1 ∨ gA s 49 p0.toNat < 254 := hr8_1
    unfold m_x12_read_J19
    exact wp_some (trivial)
set_option maxHeartbeats 1000000 in
theorem w_x12_path {p0 : Int} {p1 : Int} {p2 : Int} {s : MS} (hRs : Rr s) (hp0 : R2 p0) (hp1 : R2 p1) (hp2 : R2 p2) (hp3 : JI s) : wp (m_x12_path p0 p1 p2 s) (fun r => True) := by
  have hpJ := hp3
  unfold m_x12_path
  refine wp_rg (by omega) ?_
  refine wp_bn (wv_x12_isVolume hRs (by show R8 p0; omega)) (fun r18 er18 hr18 => ?_)
  obtain ⟨hr18_0, hr18_1⟩ := hr18
  have hr18_0 : (r18 = 1 ∧ (0 ≤ p0 ∧ p0 < 8) ∧ gI s 47 ≠ 0 ∧ gA s 49 p0.toNat ≠ 255) ∨ r18 = 0 := hr18_0
  have hr18_1 : 0 ≤ p0 ∧ p0 < 8 → r18 = ivol s p0.toNat := hr18_1
  refine wp_rg (by have : (0 : Int) ≤ gI s 47 ∧ gI s 47 ≤ 1 := hRs.1 47; omega) ?_
  refine wp_if (fun c1 => ?_) (fun c1 => ?_)
  · skip
    unfold m_x12_path_J37
    exact wp_some (trivial)
  · skip
    have kG := JI_GA hpJ (by omega)
    have kb := kG.1.1.2 p0.toNat (by omega)
    refine wp_rg (by have : (0 : Int) ≤ gI s 47 ∧ gI s 47 ≤ 1 := hRs.1 47; omega) ?_
    refine wp_bn (w_x12_isIn hRs (by show R8 p1; have : (0 : Int) ≤ gI s 47 ∧ gI s 47 ≤ 1 := hRs.1 47; omega) (by show R8 (0 : Int); have : (0 : Int) ≤ gI s 47 ∧ gI s 47 ≤ 1 := hRs.1 47; omega) (by show R8 (999 : Int); have : (0 : Int) ≤ gI s 47 ∧ gI s 47 ≤ 1 := hRs.1 47; omega)) (fun r23 er23 hr23 => ?_)
    have hr23_0 := hr23
    have hr23_0 : (r23 = 1 ∧ (0 : Int) ≤ p1 ∧ p1 ≤ (999 : Int)) ∨ (r23 = 0 ∧ (p1 < (0 : Int) ∨ (999 : Int) < p1)) := hr23_0
    refine wp_rg (by have : (0 : Int) ≤ gI s 47 ∧ gI s 47 ≤ 1 := hRs.1 47; omega) ?_
    refine wp_if (fun c2 => ?_) (fun c2 => ?_)
    · skip
      unfold m_x12_path_J37
      exact wp_some (trivial)
    · skip
      refine wp_rdIn (by have : (0 : Int) ≤ gI s 47 ∧ gI s 47 ≤ 1 := hRs.1 47; omega) (fun y26 ey26 => ?_)
      have by26 : (-2147483648 : Int) ≤ y26 ∧ y26 ≤ 2147483647 := ey26 ▸ hRs.2.1 49 _ (by show _ < 906; have : (0 : Int) ≤ gI s 47 ∧ gI s 47 ≤ 1 := hRs.1 47; omega)
      have k26 : gA s 49 p0.toNat = y26 := ey26
      refine wp_rg (by have : (0 : Int) ≤ gI s 47 ∧ gI s 47 ≤ 1 := hRs.1 47; omega) ?_
      refine wp_if (fun c3 => ?_) (fun c3 => ?_)
      · skip
        unfold m_x12_path_J37
        exact wp_some (trivial)
      · skip
        refine wp_rg (by have : (0 : Int) ≤ gI s 47 ∧ gI s 47 ≤ 1 := hRs.1 47; omega) ?_
        refine wp_if (fun c4 => ?_) (fun c4 => ?_)
        · skip
          refine wp_rdIn (by have : (0 : Int) ≤ gI s 47 ∧ gI s 47 ≤ 1 := hRs.1 47; omega) (fun y31 ey31 => ?_)
          have by31 : (-2147483648 : Int) ≤ y31 ∧ y31 ≤ 2147483647 := ey31 ▸ hRs.2.1 49 _ (by show _ < 906; have : (0 : Int) ≤ gI s 47 ∧ gI s 47 ≤ 1 := hRs.1 47; omega)
          have k31 : gA s 49 p0.toNat = y31 := ey31
          have kr := RT_root (u := p0.toNat) kG.1.1.1 (by omega) (by omega) (by omega)
          rw [k31] at kr
          have kd := DW_nd kG.1.1.1 (by omega) kr.2.1
          have L50 : ∀ (n : Nat) (x1 : Int) (x2 : Int) (x3 : Int) (x4 : Int), (x1 = p1 ∧ x2 = p2) → ((0 ≤ x3 ∧ x3 < 48) ∧ DW s x3.toNat) → (0 ≤ x4 ∧ x4 + (hM s).1 x3.toNat ≤ 47) → (RT s) → ((hM s).1 x3.toNat) < (n : Int) → wp (m_x12_path_L50 s n x1 x2 x3 x4) (fun r => True) := by
            refine fr_ind (fun x1 x2 x3 x4 hv50_0 hv50_1 hv50_2 hv50_3 hm50 => ?_) (fun n50 ih50 x1 x2 x3 x4 hv50_0 hv50_1 hv50_2 hv50_3 hm50 => ?_)
            · exfalso; have kd := DW_nd hv50_3 (by omega) hv50_1.2; omega
            · show wp (m_x12_path_b50 s (m_x12_path_L50 s n50) x1 x2 x3 x4) _
              unfold m_x12_path_b50
              have kd := DW_nd hv50_3 (by omega) hv50_1.2
              refine wp_rg (by have : (0 : Int) ≤ gI s 47 ∧ gI s 47 ≤ 1 := hRs.1 47; omega) ?_
              refine wp_rg (by have : (0 : Int) ≤ gI s 47 ∧ gI s 47 ≤ 1 := hRs.1 47; omega) ?_
              refine wp_if (fun c5 => ?_) (fun c5 => ?_)
              · skip
                exact wp_some (trivial)
              · skip
                refine wp_bn (w_x12_levelOf hRs (by show 0 ≤ x3 ∧ x3 < 48; have : (0 : Int) ≤ gI s 47 ∧ gI s 47 ≤ 1 := hRs.1 47; omega)) (fun r9 er9 hr9 => ?_)
                obtain ⟨hr9_0, hr9_1⟩ := hr9
                have hr9_0 : r9 = (hM s).1 x3.toNat := hr9_0
                have hr9_1 : R2 r9 := hr9_1
                refine wp_rg (by have : (0 : Int) ≤ gI s 47 ∧ gI s 47 ≤ 1 := hRs.1 47; omega) ?_
                refine wp_if (fun c6 => ?_) (fun c6 => ?_)
                · skip
                  exact wp_some (trivial)
                · skip
                  refine wp_bn (w_x12_placeFor hRs (by show 0 ≤ x3 ∧ x3 < 48; have : (0 : Int) ≤ gI s 47 ∧ gI s 47 ≤ 1 := hRs.1 47; omega) (by show R2 x1; have : (0 : Int) ≤ gI s 47 ∧ gI s 47 ≤ 1 := hRs.1 47; omega) (by show (0 ≤ (hM s).2.1 x3.toNat ∧ (hM s).2.1 x3.toNat ≤ 6); have : (0 : Int) ≤ gI s 47 ∧ gI s 47 ≤ 1 := hRs.1 47; omega)) (fun r13 er13 hr13 => ?_)
                  have hr13_0 := hr13
                  have hr13_0 : 0 ≤ r13 ∧ r13 ≤ 5 ∧ (1 ≤ (hM s).2.1 x3.toNat → r13 < (hM s).2.1 x3.toNat) := hr13_0
                  refine wp_bn (w_x12_valueAt hRs (by show 0 ≤ x3 ∧ x3 < 48; have : (0 : Int) ≤ gI s 47 ∧ gI s 47 ≤ 1 := hRs.1 47; omega) (by show 0 ≤ r13 ∧ r13 < 6; have : (0 : Int) ≤ gI s 47 ∧ gI s 47 ≤ 1 := hRs.1 47; omega)) (fun r15 er15 hr15 => ?_)
                  obtain ⟨hr15_0, hr15_1⟩ := hr15
                  have hr15_0 : r15 = (hM s).2.2 x3.toNat r13.toNat := hr15_0
                  have hr15_1 : R2 r15 := hr15_1
                  have kk := DW_kid (k := r13.toNat) hv50_3 (by omega) hv50_1.2 (by omega) (by omega)
                  rw [← hr15_0] at kk
                  exact ih50 x1 x2 r15 (x4 + 1) (by show x1 = p1 ∧ x2 = p2; have : (0 : Int) ≤ gI s 47 ∧ gI s 47 ≤ 1 := hRs.1 47; omega) (⟨kk.1, kk.2.2⟩) (by show 0 ≤ (x4 + 1) ∧ (x4 + 1) + (hM s).1 r15.toNat ≤ 47; have : (0 : Int) ≤ gI s 47 ∧ gI s 47 ≤ 1 := hRs.1 47; have ke := kk.2.1; omega) (hv50_3) (by have : (0 : Int) ≤ gI s 47 ∧ gI s 47 ≤ 1 := hRs.1 47; have ke := kk.2.1; omega)
          exact L50 FU p1 p2 y31 0 (by show p1 = p1 ∧ p2 = p2; have : (0 : Int) ≤ gI s 47 ∧ gI s 47 ≤ 1 := hRs.1 47; omega) (⟨by omega, kr.2.1⟩) (by show 0 ≤ (0 : Int) ∧ (0 : Int) + (hM s).1 y31.toNat ≤ 47; have : (0 : Int) ≤ gI s 47 ∧ gI s 47 ≤ 1 := hRs.1 47; omega) (kG.1.1.1) (by have := FU_big; have := FU_big2; have : (0 : Int) ≤ gI s 47 ∧ gI s 47 ≤ 1 := hRs.1 47; omega)
        · skip
          unfold m_x12_path_J37
          exact wp_some (trivial)
set_option maxHeartbeats 1000000 in
theorem w_x12_unlike {p0 : Int} {p1 : Int} {p2 : Int} {s : MS} (hRs : Rr s) (hp0 : p0 < 254 → (0 ≤ p0 ∧ p0 < 48) ∧ DW s p0.toNat) (hp1 : p1 < 254 → (0 ≤ p1 ∧ p1 < 48) ∧ DW s p1.toNat) (hp2 : R2 p0) (hp3 : R2 p1) (hp4 : R2 p2) (hp5 : RT s) : wp (m_x12_unlike p0 p1 p2 s) (fun r => (R2 r)) := by
  unfold m_x12_unlike
  have L6 : ∀ (n : Nat) (x2 : Int) (x3 : Int) (x4 : Int) (x5 : Int) (x6 : Int), (x2 = p0 ∧ x3 = p1 ∧ x4 = p2) → (0 ≤ x5 ∧ x5 ≤ x6 ∧ x6 ≤ 1000) → (1000 - x6) < (n : Int) → wp (m_x12_unlike_L6 s n x2 x3 x4 x5 x6) (fun r => (R2 r)) := by
    refine fr_ind (fun x2 x3 x4 x5 x6 hv6_0 hv6_1 hm6 => ?_) (fun n6 ih6 x2 x3 x4 x5 x6 hv6_0 hv6_1 hm6 => ?_)
    · exfalso; omega
    · show wp (m_x12_unlike_b6 s (m_x12_unlike_L6 s n6) x2 x3 x4 x5 x6) _
      unfold m_x12_unlike_b6
      refine wp_rg (by omega) ?_
      refine wp_if (fun c1 => ?_) (fun c1 => ?_)
      · skip
        refine wp_rg (by omega) ?_
        refine wp_if (fun c2 => ?_) (fun c2 => ?_)
        · skip
          unfold m_x12_unlike_J63
          exact wp_some (by show R2 x5; omega)
        · skip
          unfold m_x12_unlike_J63
          exact wp_some (by show R2 (-1 : Int); omega)
      · skip
        refine wp_bn (w_x12_valueFrom hRs (by rw [hv6_0.1]; exact hp0) (by show R2 x2; omega) (by show R2 x6; omega) (hp5)) (fun r17 er17 hr17 => ?_)
        obtain ⟨hr17_0, hr17_1⟩ := hr17
        have hr17_0 : R2 r17 := hr17_0
        have hr17_1 : r17 = -1 ∨ x2 < 254 := hr17_1
        refine wp_bn (w_x12_valueFrom hRs (by rw [hv6_0.2.1]; exact hp1) (by show R2 x3; omega) (by show R2 x6; omega) (hp5)) (fun r19 er19 hr19 => ?_)
        obtain ⟨hr19_0, hr19_1⟩ := hr19
        have hr19_0 : R2 r19 := hr19_0
        have hr19_1 : r19 = -1 ∨ x3 < 254 := hr19_1
        refine wp_rg (by omega) ?_
        refine wp_rg (by omega) ?_
        refine wp_if (fun c3 => ?_) (fun c3 => ?_)
        · skip
          unfold m_x12_unlike_J46
          exact ih6 x2 x3 x4 x5 (x6 + 1) (by show x2 = p0 ∧ x3 = p1 ∧ x4 = p2; omega) (by show 0 ≤ x5 ∧ x5 ≤ (x6 + 1) ∧ (x6 + 1) ≤ 1000; omega) (by omega)
        · skip
          refine wp_rg (by omega) ?_
          refine wp_rg (by omega) ?_
          refine wp_if (fun c4 => ?_) (fun c4 => ?_)
          · skip
            exact wp_some (by show R2 x6; omega)
          · skip
            unfold m_x12_unlike_J46
            exact ih6 x2 x3 x4 (x5 + 1) (x6 + 1) (by show x2 = p0 ∧ x3 = p1 ∧ x4 = p2; omega) (by show 0 ≤ (x5 + 1) ∧ (x5 + 1) ≤ (x6 + 1) ∧ (x6 + 1) ≤ 1000; omega) (by omega)
  exact L6 FU p0 p1 p2 0 0 (by show p0 = p0 ∧ p1 = p1 ∧ p2 = p2; omega) (by show 0 ≤ (0 : Int) ∧ (0 : Int) ≤ (0 : Int) ∧ (0 : Int) ≤ 1000; omega) (by have := FU_big; have := FU_big2; omega)
set_option maxHeartbeats 1000000 in
theorem w_x12_differs {p0 : Int} {p1 : Int} {p2 : Int} {s : MS} (hRs : Rr s) (hp0 : R2 p0) (hp1 : R2 p1) (hp2 : R2 p2) (hp3 : JI s) : wp (m_x12_differs p0 p1 p2 s) (fun r => True) := by
  have hpJ := hp3
  unfold m_x12_differs
  refine wp_rg (by omega) ?_
  refine wp_bn (wv_x12_isVolume hRs (by show R8 p0; omega)) (fun r4 er4 hr4 => ?_)
  obtain ⟨hr4_0, hr4_1⟩ := hr4
  have hr4_0 : (r4 = 1 ∧ (0 ≤ p0 ∧ p0 < 8) ∧ gI s 47 ≠ 0 ∧ gA s 49 p0.toNat ≠ 255) ∨ r4 = 0 := hr4_0
  have hr4_1 : 0 ≤ p0 ∧ p0 < 8 → r4 = ivol s p0.toNat := hr4_1
  refine wp_rg (by have : (0 : Int) ≤ gI s 47 ∧ gI s 47 ≤ 1 := hRs.1 47; omega) ?_
  refine wp_if (fun c1 => ?_) (fun c1 => ?_)
  · skip
    unfold m_x12_differs_J43
    unfold m_x12_differs_J44
    exact wp_some (trivial)
  · skip
    have kG := JI_GA hpJ (by omega)
    have kb := kG.1.1.2 p0.toNat (by omega)
    refine wp_rg (by have : (0 : Int) ≤ gI s 47 ∧ gI s 47 ≤ 1 := hRs.1 47; omega) ?_
    refine wp_bn (wv_x12_isVolume hRs (by show R8 p1; have : (0 : Int) ≤ gI s 47 ∧ gI s 47 ≤ 1 := hRs.1 47; omega)) (fun r9 er9 hr9 => ?_)
    obtain ⟨hr9_0, hr9_1⟩ := hr9
    have hr9_0 : (r9 = 1 ∧ (0 ≤ p1 ∧ p1 < 8) ∧ gI s 47 ≠ 0 ∧ gA s 49 p1.toNat ≠ 255) ∨ r9 = 0 := hr9_0
    have hr9_1 : 0 ≤ p1 ∧ p1 < 8 → r9 = ivol s p1.toNat := hr9_1
    refine wp_rg (by have : (0 : Int) ≤ gI s 47 ∧ gI s 47 ≤ 1 := hRs.1 47; omega) ?_
    refine wp_if (fun c2 => ?_) (fun c2 => ?_)
    · skip
      unfold m_x12_differs_J43
      unfold m_x12_differs_J44
      exact wp_some (trivial)
    · skip
      have kb1 := kG.1.1.2 p1.toNat (by omega)
      refine wp_rg (by have : (0 : Int) ≤ gI s 47 ∧ gI s 47 ≤ 1 := hRs.1 47; omega) ?_
      refine wp_if (fun c3 => ?_) (fun c3 => ?_)
      · skip
        unfold m_x12_differs_J43
        unfold m_x12_differs_J44
        exact wp_some (trivial)
      · skip
        refine wp_rdIn (by have : (0 : Int) ≤ gI s 47 ∧ gI s 47 ≤ 1 := hRs.1 47; omega) (fun y14 ey14 => ?_)
        have by14 : (-2147483648 : Int) ≤ y14 ∧ y14 ≤ 2147483647 := ey14 ▸ hRs.2.1 49 _ (by show _ < 906; have : (0 : Int) ≤ gI s 47 ∧ gI s 47 ≤ 1 := hRs.1 47; omega)
        have k14 : gA s 49 p0.toNat = y14 := ey14
        refine wp_rdIn (by have : (0 : Int) ≤ gI s 47 ∧ gI s 47 ≤ 1 := hRs.1 47; omega) (fun y15 ey15 => ?_)
        have by15 : (-2147483648 : Int) ≤ y15 ∧ y15 ≤ 2147483647 := ey15 ▸ hRs.2.1 49 _ (by show _ < 906; have : (0 : Int) ≤ gI s 47 ∧ gI s 47 ≤ 1 := hRs.1 47; omega)
        have k15 : gA s 49 p1.toNat = y15 := ey15
        refine wp_bn (w_x12_unlike hRs (fun h9 => by have z := RT_root (u := p0.toNat) kG.1.1.1 (by omega) (by omega) (by omega); rw [k14] at z; exact ⟨by omega, z.2.1⟩) (fun h9 => by have z := RT_root (u := p1.toNat) kG.1.1.1 (by omega) (by omega) (by omega); rw [k15] at z; exact ⟨by omega, z.2.1⟩) (by show R2 y14; have : (0 : Int) ≤ gI s 47 ∧ gI s 47 ≤ 1 := hRs.1 47; omega) (by show R2 y15; have : (0 : Int) ≤ gI s 47 ∧ gI s 47 ≤ 1 := hRs.1 47; omega) (by show R2 p2; have : (0 : Int) ≤ gI s 47 ∧ gI s 47 ≤ 1 := hRs.1 47; omega) (kG.1.1.1)) (fun r17 er17 hr17 => ?_)
        have hr17_0 := hr17
        have hr17_0 : R2 r17 := hr17_0
        unfold m_x12_differs_J44
        exact wp_some (trivial)
set_option maxHeartbeats 1000000 in
theorem w_x12_back {p0 : Int} {s : MS} (hRs : Rr s) (hp0 : R2 p0) (hp1 : JI s) : wp (m_x12_back p0 s) (fun r => True) := by
  have hpJ := hp1
  unfold m_x12_back
  refine wp_rg (by omega) ?_
  refine wp_bn (wv_x12_isVolume hRs (by show R8 p0; omega)) (fun r4 er4 hr4 => ?_)
  obtain ⟨hr4_0, hr4_1⟩ := hr4
  have hr4_0 : (r4 = 1 ∧ (0 ≤ p0 ∧ p0 < 8) ∧ gI s 47 ≠ 0 ∧ gA s 49 p0.toNat ≠ 255) ∨ r4 = 0 := hr4_0
  have hr4_1 : 0 ≤ p0 ∧ p0 < 8 → r4 = ivol s p0.toNat := hr4_1
  refine wp_rg (by have : (0 : Int) ≤ gI s 47 ∧ gI s 47 ≤ 1 := hRs.1 47; omega) ?_
  refine wp_if (fun c1 => ?_) (fun c1 => ?_)
  · skip
    unfold m_x12_back_J47
    unfold m_x12_back_J48
    exact wp_some (trivial)
  · skip
    have kG := JI_GA hpJ (by omega)
    have kb := kG.1.1.2 p0.toNat (by omega)
    have kb1 := kG.1.1.2 (8 + p0.toNat) (by omega)
    refine wp_rdIn (by have : (0 : Int) ≤ gI s 47 ∧ gI s 47 ≤ 1 := hRs.1 47; omega) (fun y7 ey7 => ?_)
    have by7 : (-2147483648 : Int) ≤ y7 ∧ y7 ≤ 2147483647 := ey7 ▸ hRs.2.1 49 _ (by show _ < 906; have : (0 : Int) ≤ gI s 47 ∧ gI s 47 ≤ 1 := hRs.1 47; omega)
    have k7 : gA s 49 (8 + p0.toNat) = y7 := by rw [← ey7]; congr 1; omega
    refine wp_rg (by have : (0 : Int) ≤ gI s 47 ∧ gI s 47 ≤ 1 := hRs.1 47; omega) ?_
    refine wp_if (fun c2 => ?_) (fun c2 => ?_)
    · skip
      unfold m_x12_back_J47
      unfold m_x12_back_J48
      exact wp_some (trivial)
    · skip
      refine wp_rdIn (by have : (0 : Int) ≤ gI s 47 ∧ gI s 47 ≤ 1 := hRs.1 47; omega) (fun y10 ey10 => ?_)
      have by10 : (-2147483648 : Int) ≤ y10 ∧ y10 ≤ 2147483647 := ey10 ▸ hRs.2.1 49 _ (by show _ < 906; have : (0 : Int) ≤ gI s 47 ∧ gI s 47 ≤ 1 := hRs.1 47; omega)
      have k10 : gA s 49 p0.toNat = y10 := ey10
      refine wp_rdIn (by have : (0 : Int) ≤ gI s 47 ∧ gI s 47 ≤ 1 := hRs.1 47; omega) (fun y11 ey11 => ?_)
      have by11 : (-2147483648 : Int) ≤ y11 ∧ y11 ≤ 2147483647 := ey11 ▸ hRs.2.1 49 _ (by show _ < 906; have : (0 : Int) ≤ gI s 47 ∧ gI s 47 ≤ 1 := hRs.1 47; omega)
      have k11 : gA s 49 (8 + p0.toNat) = y11 := by rw [← ey11]; congr 1; omega
      refine wp_bn (w_x12_unlike hRs (fun h9 => by have z := RT_root (u := p0.toNat) kG.1.1.1 (by omega) (by omega) (by omega); rw [k10] at z; exact ⟨by omega, z.2.1⟩) (fun h9 => by have z := RT_root (u := 8 + p0.toNat) kG.1.1.1 (by omega) (by omega) (by omega); rw [k11] at z; exact ⟨by omega, z.2.1⟩) (by show R2 y10; have : (0 : Int) ≤ gI s 47 ∧ gI s 47 ≤ 1 := hRs.1 47; omega) (by show R2 y11; have : (0 : Int) ≤ gI s 47 ∧ gI s 47 ≤ 1 := hRs.1 47; omega) (by show R2 (-1 : Int); have : (0 : Int) ≤ gI s 47 ∧ gI s 47 ≤ 1 := hRs.1 47; omega) (kG.1.1.1)) (fun r13 er13 hr13 => ?_)
      have hr13_0 := hr13
      have hr13_0 : R2 r13 := hr13_0
      unfold m_x12_back_J48
      exact wp_some (trivial)
set_option maxHeartbeats 1000000 in
theorem w_x12_room {p0 : Int} {s : MS} (hRs : Rr s) (hp0 : R2 p0) (hp1 : JI s) : wp (m_x12_room p0 s) (fun r => True) := by
  have hpJ := hp1
  have kN := JI_N hpJ
  unfold m_x12_room
  refine wp_rg (by have : (0 : Int) ≤ gI s 47 ∧ gI s 47 ≤ 1 := hRs.1 47; omega) ?_
  refine wp_if (fun c1 => ?_) (fun c1 => ?_)
  · skip
    unfold m_x12_room_J19
    exact wp_some (trivial)
  · skip
    refine wp_rg (by have : (0 : Int) ≤ gI s 47 ∧ gI s 47 ≤ 1 := hRs.1 47; omega) ?_
    refine wp_bn (w_x12_isIn hRs (by show R8 p0; have : (0 : Int) ≤ gI s 47 ∧ gI s 47 ≤ 1 := hRs.1 47; omega) (by show R8 (0 : Int); have : (0 : Int) ≤ gI s 47 ∧ gI s 47 ≤ 1 := hRs.1 47; omega) (by show R8 (2 : Int); have : (0 : Int) ≤ gI s 47 ∧ gI s 47 ≤ 1 := hRs.1 47; omega)) (fun r20 er20 hr20 => ?_)
    have hr20_0 := hr20
    have hr20_0 : (r20 = 1 ∧ (0 : Int) ≤ p0 ∧ p0 ≤ (2 : Int)) ∨ (r20 = 0 ∧ (p0 < (0 : Int) ∨ (2 : Int) < p0)) := hr20_0
    refine wp_rg (by have : (0 : Int) ≤ gI s 47 ∧ gI s 47 ≤ 1 := hRs.1 47; omega) ?_
    refine wp_if (fun c2 => ?_) (fun c2 => ?_)
    · skip
      unfold m_x12_room_J19
      exact wp_some (trivial)
    · skip
      refine wp_rg (by have : (0 : Int) ≤ gI s 47 ∧ gI s 47 ≤ 1 := hRs.1 47; omega) ?_
      refine wp_if (fun c3 => ?_) (fun c3 => ?_)
      · skip
        have L48 : ∀ (n : Nat) (x1 : Int) (x2 : Int), (0 ≤ x1 ∧ x1 ≤ x2 ∧ x2 ≤ 48) → (48 - x2) < (n : Int) → wp (m_x12_room_L48 s n x1 x2) (fun r => True) := by
          refine fr_ind (fun x1 x2 hv48_0 hm48 => ?_) (fun n48 ih48 x1 x2 hv48_0 hm48 => ?_)
          · exfalso; omega
          · show wp (m_x12_room_b48 s (m_x12_room_L48 s n48) x1 x2) _
            unfold m_x12_room_b48
            refine wp_bn (w_x12_blockMany hRs) (fun r6 er6 hr6 => ?_)
            have hr6_0 := hr6
            have hr6_0 : r6 = gA s 39 5 := hr6_0
            refine wp_rg (by have : (0 : Int) ≤ gI s 47 ∧ gI s 47 ≤ 1 := hRs.1 47; omega) ?_
            refine wp_rg (by have : (0 : Int) ≤ gI s 47 ∧ gI s 47 ≤ 1 := hRs.1 47; omega) ?_
            refine wp_if (fun c4 => ?_) (fun c4 => ?_)
            · skip
              exact wp_some (trivial)
            · skip
              refine wp_bn (w_x12_savedOf hRs (by show 0 ≤ x2 ∧ x2 < 48; have : (0 : Int) ≤ gI s 47 ∧ gI s 47 ≤ 1 := hRs.1 47; omega)) (fun r11 er11 hr11 => ?_)
              obtain ⟨hr11_0, hr11_1⟩ := hr11
              have hr11_0 : r11 = vM s x2.toNat := hr11_0
              have hr11_1 : R2 r11 := hr11_1
              refine wp_rg (by have : (0 : Int) ≤ gI s 47 ∧ gI s 47 ≤ 1 := hRs.1 47; omega) ?_
              refine wp_if (fun c5 => ?_) (fun c5 => ?_)
              · skip
                unfold m_x12_room_J67
                exact ih48 (x1 + 1) (x2 + 1) (by show 0 ≤ (x1 + 1) ∧ (x1 + 1) ≤ (x2 + 1) ∧ (x2 + 1) ≤ 48; have : (0 : Int) ≤ gI s 47 ∧ gI s 47 ≤ 1 := hRs.1 47; omega) (by have : (0 : Int) ≤ gI s 47 ∧ gI s 47 ≤ 1 := hRs.1 47; omega)
              · skip
                unfold m_x12_room_J67
                exact ih48 x1 (x2 + 1) (by show 0 ≤ x1 ∧ x1 ≤ (x2 + 1) ∧ (x2 + 1) ≤ 48; have : (0 : Int) ≤ gI s 47 ∧ gI s 47 ≤ 1 := hRs.1 47; omega) (by have : (0 : Int) ≤ gI s 47 ∧ gI s 47 ≤ 1 := hRs.1 47; omega)
        exact L48 FU 0 0 (by show 0 ≤ (0 : Int) ∧ (0 : Int) ≤ (0 : Int) ∧ (0 : Int) ≤ 48; have : (0 : Int) ≤ gI s 47 ∧ gI s 47 ≤ 1 := hRs.1 47; omega) (by have := FU_big; have := FU_big2; have : (0 : Int) ≤ gI s 47 ∧ gI s 47 ≤ 1 := hRs.1 47; omega)
      · skip
        refine wp_bn (w_x12_freeMany hRs (by show 0 ≤ gA s 39 5 ∧ gA s 39 5 ≤ 48; have : (0 : Int) ≤ gI s 47 ∧ gI s 47 ≤ 1 := hRs.1 47; omega)) (fun r26 er26 hr26 => ?_)
        have hr26_0 := hr26
        have hr26_0 : R2 r26 := hr26_0
        refine wp_rg (by have : (0 : Int) ≤ gI s 47 ∧ gI s 47 ≤ 1 := hRs.1 47; omega) ?_
        refine wp_if (fun c6 => ?_) (fun c6 => ?_)
        · skip
          unfold m_x12_room_J42
          exact wp_some (trivial)
        · skip
          refine wp_bn (w_x12_heldMany hRs (by show 0 ≤ gA s 39 5 ∧ gA s 39 5 ≤ 48; have : (0 : Int) ≤ gI s 47 ∧ gI s 47 ≤ 1 := hRs.1 47; omega)) (fun r30 er30 hr30 => ?_)
          have hr30_0 := hr30
          have hr30_0 : 0 ≤ r30 ∧ r30 ≤ 48 := hr30_0
          unfold m_x12_room_J42
          exact wp_some (trivial)
set_option maxHeartbeats 1000000 in
theorem w_x12_toldOf {p0 : Int} {p1 : Int} {s : MS} (hRs : Rr s) (hp0 : 0 ≤ p0 ∧ p0 < 8) (hp1 : R2 p1) (hp2 : RT s) (hp3 : 0 ≤ gA s 49 p0.toNat ∧ gA s 49 p0.toNat ≤ 255) : wp (m_x12_toldOf p0 p1 s) (fun r => (R2 r)) := by
  unfold m_x12_toldOf
  refine wp_bn (w_x12_valueOf hRs (by show 0 ≤ p0 ∧ p0 < 8; omega) (by show R2 p1; omega) (hp2) (by show 0 ≤ gA s 49 p0.toNat ∧ gA s 49 p0.toNat ≤ 255; omega)) (fun r3 er3 hr3 => ?_)
  obtain ⟨hr3_0, hr3_1⟩ := hr3
  have hr3_0 : R2 r3 := hr3_0
  have hr3_1 : r3 = -1 ∨ gA s 49 p0.toNat < 254 := hr3_1
  refine wp_rg (by omega) ?_
  refine wp_if (fun c1 => ?_) (fun c1 => ?_)
  · skip
    unfold m_x12_toldOf_J19
    exact wp_some (by show R2 (1000 : Int); omega)
  · skip
    unfold m_x12_toldOf_J19
    exact wp_some (by show R2 r3; omega)
set_option maxHeartbeats 1000000 in
theorem w_x12_doesFit {p0 : Int} {s : MS} (hRs : Rr s) (hp0 : R2 p0) (hp1 : JI s) : wp (m_x12_doesFit p0 s) (fun r => (r = 0 ∨ (r = 1 ∧ (0 ≤ p0 ∧ p0 < 8) ∧ gI s 47 ≠ 0))) := by
  have hpJ := hp1
  have r73 : (0 : Int) ≤ gI s 73 ∧ gI s 73 ≤ 12 := hRs.1 73
  unfold m_x12_doesFit
  refine wp_rg (by omega) ?_
  refine wp_bn (wv_x12_isVolume hRs (by show R8 p0; omega)) (fun r15 er15 hr15 => ?_)
  obtain ⟨hr15_0, hr15_1⟩ := hr15
  have hr15_0 : (r15 = 1 ∧ (0 ≤ p0 ∧ p0 < 8) ∧ gI s 47 ≠ 0 ∧ gA s 49 p0.toNat ≠ 255) ∨ r15 = 0 := hr15_0
  have hr15_1 : 0 ≤ p0 ∧ p0 < 8 → r15 = ivol s p0.toNat := hr15_1
  refine wp_rg (by have : (0 : Int) ≤ gI s 47 ∧ gI s 47 ≤ 1 := hRs.1 47; omega) ?_
  refine wp_if (fun c1 => ?_) (fun c1 => ?_)
  · skip
    exact wp_some (by show (0 : Int) = 0 ∨ ((0 : Int) = 1 ∧ (0 ≤ p0 ∧ p0 < 8) ∧ gI s 47 ≠ 0); have : (0 : Int) ≤ gI s 47 ∧ gI s 47 ≤ 1 := hRs.1 47; omega)
  · skip
    have L13 : ∀ (n : Nat) (x1 : Int) (x2 : Int), (x1 = p0) → (0 ≤ x2 ∧ x2 ≤ 12) → ((0 ≤ p0 ∧ p0 < 8) ∧ gI s 47 ≠ 0) → (GA s) → (12 - x2) < (n : Int) → wp (m_x12_doesFit_L13 s n x1 x2) (fun r => (r = 0 ∨ (r = 1 ∧ (0 ≤ p0 ∧ p0 < 8) ∧ gI s 47 ≠ 0))) := by
      refine fr_ind (fun x1 x2 hv13_0 hv13_1 hv13_2 hv13_3 hm13 => ?_) (fun n13 ih13 x1 x2 hv13_0 hv13_1 hv13_2 hv13_3 hm13 => ?_)
      · exfalso; have : (0 : Int) ≤ gI s 47 ∧ gI s 47 ≤ 1 := hRs.1 47; omega
      · show wp (m_x12_doesFit_b13 s (m_x12_doesFit_L13 s n13) x1 x2) _
        unfold m_x12_doesFit_b13
        have kb := hv13_3.1.1.2 p0.toNat (by omega)
        refine wp_rg (by have : (0 : Int) ≤ gI s 47 ∧ gI s 47 ≤ 1 := hRs.1 47; omega) ?_
        refine wp_rg (by have : (0 : Int) ≤ gI s 47 ∧ gI s 47 ≤ 1 := hRs.1 47; have : (0 : Int) ≤ gI s 73 ∧ gI s 73 ≤ 12 := hRs.1 73; omega) ?_
        refine wp_if (fun c2 => ?_) (fun c2 => ?_)
        · skip
          exact wp_some (by show (1 : Int) = 0 ∨ ((1 : Int) = 1 ∧ (0 ≤ p0 ∧ p0 < 8) ∧ gI s 47 ≠ 0); have : (0 : Int) ≤ gI s 73 ∧ gI s 73 ≤ 12 := hRs.1 73; have : (0 : Int) ≤ gI s 47 ∧ gI s 47 ≤ 1 := hRs.1 47; omega)
        · skip
          refine wp_rdIn (by have : (0 : Int) ≤ gI s 73 ∧ gI s 73 ≤ 12 := hRs.1 73; have : (0 : Int) ≤ gI s 47 ∧ gI s 47 ≤ 1 := hRs.1 47; omega) (fun y6 ey6 => ?_)
          have by6 : (-2147483648 : Int) ≤ y6 ∧ y6 ≤ 2147483647 := ey6 ▸ hRs.2.1 74 _ (by show _ < 24; have : (0 : Int) ≤ gI s 73 ∧ gI s 73 ≤ 12 := hRs.1 73; have : (0 : Int) ≤ gI s 47 ∧ gI s 47 ≤ 1 := hRs.1 47; omega)
          have r6 : R2 y6 := ey6 ▸ hRs.2.1 74 _ (by show _ < 24; omega)
          refine wp_bn (w_x12_toldOf hRs (by show 0 ≤ x1 ∧ x1 < 8; have : (0 : Int) ≤ gI s 73 ∧ gI s 73 ≤ 12 := hRs.1 73; have : (0 : Int) ≤ gI s 47 ∧ gI s 47 ≤ 1 := hRs.1 47; omega) (by show R2 y6; have : (0 : Int) ≤ gI s 73 ∧ gI s 73 ≤ 12 := hRs.1 73; have : (0 : Int) ≤ gI s 47 ∧ gI s 47 ≤ 1 := hRs.1 47; omega) (hv13_3.1.1.1) (by rw [hv13_0]; exact kb)) (fun r8 er8 hr8 => ?_)
          have hr8_0 := hr8
          have hr8_0 : R2 r8 := hr8_0
          refine wp_rdIn (by have : (0 : Int) ≤ gI s 73 ∧ gI s 73 ≤ 12 := hRs.1 73; have : (0 : Int) ≤ gI s 47 ∧ gI s 47 ≤ 1 := hRs.1 47; omega) (fun y9 ey9 => ?_)
          have by9 : (-2147483648 : Int) ≤ y9 ∧ y9 ≤ 2147483647 := ey9 ▸ hRs.2.1 74 _ (by show _ < 24; have : (0 : Int) ≤ gI s 73 ∧ gI s 73 ≤ 12 := hRs.1 73; have : (0 : Int) ≤ gI s 47 ∧ gI s 47 ≤ 1 := hRs.1 47; omega)
          have r9 : R2 y9 := ey9 ▸ hRs.2.1 74 _ (by show _ < 24; omega)
          refine wp_rg (by have : (0 : Int) ≤ gI s 73 ∧ gI s 73 ≤ 12 := hRs.1 73; have : (0 : Int) ≤ gI s 47 ∧ gI s 47 ≤ 1 := hRs.1 47; omega) ?_
          refine wp_rg (by have : (0 : Int) ≤ gI s 73 ∧ gI s 73 ≤ 12 := hRs.1 73; have : (0 : Int) ≤ gI s 47 ∧ gI s 47 ≤ 1 := hRs.1 47; omega) ?_
          refine wp_if (fun c3 => ?_) (fun c3 => ?_)
          · skip
            exact ih13 x1 (x2 + 1) (by show x1 = p0; have : (0 : Int) ≤ gI s 73 ∧ gI s 73 ≤ 12 := hRs.1 73; have : (0 : Int) ≤ gI s 47 ∧ gI s 47 ≤ 1 := hRs.1 47; omega) (by show 0 ≤ (x2 + 1) ∧ (x2 + 1) ≤ 12; have : (0 : Int) ≤ gI s 73 ∧ gI s 73 ≤ 12 := hRs.1 73; have : (0 : Int) ≤ gI s 47 ∧ gI s 47 ≤ 1 := hRs.1 47; omega) (by show (0 ≤ p0 ∧ p0 < 8) ∧ gI s 47 ≠ 0; have : (0 : Int) ≤ gI s 73 ∧ gI s 73 ≤ 12 := hRs.1 73; have : (0 : Int) ≤ gI s 47 ∧ gI s 47 ≤ 1 := hRs.1 47; omega) (hv13_3) (by have : (0 : Int) ≤ gI s 73 ∧ gI s 73 ≤ 12 := hRs.1 73; have : (0 : Int) ≤ gI s 47 ∧ gI s 47 ≤ 1 := hRs.1 47; omega)
          · skip
            exact wp_some (by show (0 : Int) = 0 ∨ ((0 : Int) = 1 ∧ (0 ≤ p0 ∧ p0 < 8) ∧ gI s 47 ≠ 0); have : (0 : Int) ≤ gI s 73 ∧ gI s 73 ≤ 12 := hRs.1 73; have : (0 : Int) ≤ gI s 47 ∧ gI s 47 ≤ 1 := hRs.1 47; omega)
    exact L13 FU p0 0 (by show p0 = p0; have : (0 : Int) ≤ gI s 47 ∧ gI s 47 ≤ 1 := hRs.1 47; omega) (by show 0 ≤ (0 : Int) ∧ (0 : Int) ≤ 12; have : (0 : Int) ≤ gI s 47 ∧ gI s 47 ≤ 1 := hRs.1 47; omega) (by show (0 ≤ p0 ∧ p0 < 8) ∧ gI s 47 ≠ 0; have : (0 : Int) ≤ gI s 47 ∧ gI s 47 ≤ 1 := hRs.1 47; omega) (JI_GA hpJ (by omega)) (by have := FU_big; have := FU_big2; have : (0 : Int) ≤ gI s 47 ∧ gI s 47 ≤ 1 := hRs.1 47; omega)
set_option maxHeartbeats 1000000 in
theorem w_x12_fits {p0 : Int} {s : MS} (hRs : Rr s) (hp0 : R2 p0) (hp1 : JI s) : wp (m_x12_fits p0 s) (fun r => (R2 r)) := by
  unfold m_x12_fits
  refine wp_rg (by omega) ?_
  refine wp_if (fun c1 => ?_) (fun c1 => ?_)
  · skip
    have L11 : ∀ (n : Nat) (x2 : Int) (x3 : Int) (x4 : Int), (R2 x2) → (0 ≤ x3 ∧ x3 ≤ x4 ∧ x4 ≤ 8) → (8 - x4) < (n : Int) → wp (m_x12_fits_L11 s n x2 x3 x4) (fun r => (R2 r)) := by
      refine fr_ind (fun x2 x3 x4 hv11_0 hv11_1 hm11 => ?_) (fun n11 ih11 x2 x3 x4 hv11_0 hv11_1 hm11 => ?_)
      · exfalso; omega
      · show wp (m_x12_fits_b11 s (m_x12_fits_L11 s n11) x2 x3 x4) _
        unfold m_x12_fits_b11
        refine wp_rg (by omega) ?_
        refine wp_if (fun c2 => ?_) (fun c2 => ?_)
        · skip
          refine wp_rg (by omega) ?_
          refine wp_if (fun c3 => ?_) (fun c3 => ?_)
          · skip
            unfold m_x12_fits_J54
            exact wp_some (by show R2 x3; omega)
          · skip
            unfold m_x12_fits_J54
            exact wp_some (by show R2 (-1 : Int); omega)
        · skip
          refine wp_bn (w_x12_doesFit hRs (by show R2 x4; omega) (hp1)) (fun r13 er13 hr13 => ?_)
          have hr13_0 := hr13
          have hr13_0 : r13 = 0 ∨ (r13 = 1 ∧ (0 ≤ x4 ∧ x4 < 8) ∧ gI s 47 ≠ 0) := hr13_0
          refine wp_rg (by have : (0 : Int) ≤ gI s 47 ∧ gI s 47 ≤ 1 := hRs.1 47; omega) ?_
          refine wp_if (fun c4 => ?_) (fun c4 => ?_)
          · skip
            unfold m_x12_fits_J38
            exact ih11 x2 x3 (x4 + 1) (by show R2 x2; have : (0 : Int) ≤ gI s 47 ∧ gI s 47 ≤ 1 := hRs.1 47; omega) (by show 0 ≤ x3 ∧ x3 ≤ (x4 + 1) ∧ (x4 + 1) ≤ 8; have : (0 : Int) ≤ gI s 47 ∧ gI s 47 ≤ 1 := hRs.1 47; omega) (by have : (0 : Int) ≤ gI s 47 ∧ gI s 47 ≤ 1 := hRs.1 47; omega)
          · skip
            refine wp_rg (by have : (0 : Int) ≤ gI s 47 ∧ gI s 47 ≤ 1 := hRs.1 47; omega) ?_
            refine wp_rg (by have : (0 : Int) ≤ gI s 47 ∧ gI s 47 ≤ 1 := hRs.1 47; omega) ?_
            refine wp_if (fun c5 => ?_) (fun c5 => ?_)
            · skip
              exact wp_some (by show R2 x4; have : (0 : Int) ≤ gI s 47 ∧ gI s 47 ≤ 1 := hRs.1 47; omega)
            · skip
              unfold m_x12_fits_J38
              exact ih11 x2 (x3 + 1) (x4 + 1) (by show R2 x2; have : (0 : Int) ≤ gI s 47 ∧ gI s 47 ≤ 1 := hRs.1 47; omega) (by show 0 ≤ (x3 + 1) ∧ (x3 + 1) ≤ (x4 + 1) ∧ (x4 + 1) ≤ 8; have : (0 : Int) ≤ gI s 47 ∧ gI s 47 ≤ 1 := hRs.1 47; omega) (by have : (0 : Int) ≤ gI s 47 ∧ gI s 47 ≤ 1 := hRs.1 47; omega)
    exact L11 FU p0 0 0 (by show R2 p0; omega) (by show 0 ≤ (0 : Int) ∧ (0 : Int) ≤ (0 : Int) ∧ (0 : Int) ≤ 8; omega) (by have := FU_big; have := FU_big2; omega)
  · skip
    exact wp_some (by show R2 (-1 : Int); omega)
set_option maxHeartbeats 1000000 in
theorem w_x12_mostAlike {p0 : Int} {s : MS} (hRs : Rr s) (hp0 : R2 p0) (hp1 : JI s) : wp (m_x12_mostAlike p0 s) (fun r => (0 ≤ r ∧ r ≤ 8)) := by
  have hpJ := hp1
  unfold m_x12_mostAlike
  have L4 : ∀ (n : Nat) (x1 : Int) (x2 : Int) (x3 : Int), (x1 = p0) → (0 ≤ x2 ∧ x2 ≤ 8) → (0 ≤ x3 ∧ x3 ≤ 8) → (8 - x3) < (n : Int) → wp (m_x12_mostAlike_L4 s n x1 x2 x3) (fun r => (0 ≤ r ∧ r ≤ 8)) := by
    refine fr_ind (fun x1 x2 x3 hv4_0 hv4_1 hv4_2 hm4 => ?_) (fun n4 ih4 x1 x2 x3 hv4_0 hv4_1 hv4_2 hm4 => ?_)
    · exfalso; omega
    · show wp (m_x12_mostAlike_b4 s (m_x12_mostAlike_L4 s n4) x1 x2 x3) _
      unfold m_x12_mostAlike_b4
      refine wp_rg (by omega) ?_
      refine wp_if (fun c1 => ?_) (fun c1 => ?_)
      · skip
        exact wp_some (by show 0 ≤ x2 ∧ x2 ≤ 8; omega)
      · skip
        refine wp_bn (w_x12_doesFit hRs (by show R2 x3; omega) (hp1)) (fun r36 er36 hr36 => ?_)
        have hr36_0 := hr36
        have hr36_0 : r36 = 0 ∨ (r36 = 1 ∧ (0 ≤ x3 ∧ x3 < 8) ∧ gI s 47 ≠ 0) := hr36_0
        refine wp_rg (by have : (0 : Int) ≤ gI s 47 ∧ gI s 47 ≤ 1 := hRs.1 47; omega) ?_
        refine wp_if (fun c2 => ?_) (fun c2 => ?_)
        · skip
          unfold m_x12_mostAlike_J77
          exact ih4 x1 x2 (x3 + 1) (by show x1 = p0; have : (0 : Int) ≤ gI s 47 ∧ gI s 47 ≤ 1 := hRs.1 47; omega) (by show 0 ≤ x2 ∧ x2 ≤ 8; have : (0 : Int) ≤ gI s 47 ∧ gI s 47 ≤ 1 := hRs.1 47; omega) (by show 0 ≤ (x3 + 1) ∧ (x3 + 1) ≤ 8; have : (0 : Int) ≤ gI s 47 ∧ gI s 47 ≤ 1 := hRs.1 47; omega) (by have : (0 : Int) ≤ gI s 47 ∧ gI s 47 ≤ 1 := hRs.1 47; omega)
        · skip
          have L27 : ∀ (n : Nat) (x7 : Int) (x8 : Int) (x9 : Int) (x10 : Int) (x11 : Int), (x7 = p0) → (0 ≤ x8 ∧ x8 ≤ 8) → ((0 ≤ x9 ∧ x9 < 8) ∧ gI s 47 ≠ 0 ∧ x9 = x3) → (0 ≤ x10 ∧ x10 ≤ x11 ∧ x11 ≤ 8) → (8 - x11) < (n : Int) → wp (m_x12_mostAlike_L27 s (m_x12_mostAlike_L4 s n4) n x7 x8 x9 x10 x11) (fun r => (0 ≤ r ∧ r ≤ 8)) := by
            refine fr_ind (fun x7 x8 x9 x10 x11 hv27_0 hv27_1 hv27_2 hv27_3 hm27 => ?_) (fun n27 ih27 x7 x8 x9 x10 x11 hv27_0 hv27_1 hv27_2 hv27_3 hm27 => ?_)
            · exfalso; have : (0 : Int) ≤ gI s 47 ∧ gI s 47 ≤ 1 := hRs.1 47; omega
            · show wp (m_x12_mostAlike_b27 s (m_x12_mostAlike_L4 s n4) (m_x12_mostAlike_L27 s (m_x12_mostAlike_L4 s n4) n27) x7 x8 x9 x10 x11) _
              unfold m_x12_mostAlike_b27
              refine wp_rg (by have : (0 : Int) ≤ gI s 47 ∧ gI s 47 ≤ 1 := hRs.1 47; omega) ?_
              refine wp_if (fun c3 => ?_) (fun c3 => ?_)
              · skip
                refine wp_rg (by have : (0 : Int) ≤ gI s 47 ∧ gI s 47 ≤ 1 := hRs.1 47; omega) ?_
                refine wp_rg (by have : (0 : Int) ≤ gI s 47 ∧ gI s 47 ≤ 1 := hRs.1 47; omega) ?_
                refine wp_if (fun c4 => ?_) (fun c4 => ?_)
                · skip
                  unfold m_x12_mostAlike_J77
                  exact ih4 x7 x8 (x9 + 1) (by show x7 = p0; have : (0 : Int) ≤ gI s 47 ∧ gI s 47 ≤ 1 := hRs.1 47; omega) (by show 0 ≤ x8 ∧ x8 ≤ 8; have : (0 : Int) ≤ gI s 47 ∧ gI s 47 ≤ 1 := hRs.1 47; omega) (by show 0 ≤ (x9 + 1) ∧ (x9 + 1) ≤ 8; have : (0 : Int) ≤ gI s 47 ∧ gI s 47 ≤ 1 := hRs.1 47; omega) (by have : (0 : Int) ≤ gI s 47 ∧ gI s 47 ≤ 1 := hRs.1 47; omega)
                · skip
                  unfold m_x12_mostAlike_J77
                  exact ih4 x7 x10 (x9 + 1) (by show x7 = p0; have : (0 : Int) ≤ gI s 47 ∧ gI s 47 ≤ 1 := hRs.1 47; omega) (by show 0 ≤ x10 ∧ x10 ≤ 8; have : (0 : Int) ≤ gI s 47 ∧ gI s 47 ≤ 1 := hRs.1 47; omega) (by show 0 ≤ (x9 + 1) ∧ (x9 + 1) ≤ 8; have : (0 : Int) ≤ gI s 47 ∧ gI s 47 ≤ 1 := hRs.1 47; omega) (by have : (0 : Int) ≤ gI s 47 ∧ gI s 47 ≤ 1 := hRs.1 47; omega)
              · skip
                refine wp_bn (w_x12_doesFit hRs (by show R2 x11; have : (0 : Int) ≤ gI s 47 ∧ gI s 47 ≤ 1 := hRs.1 47; omega) (hp1)) (fun r23 er23 hr23 => ?_)
                have hr23_0 := hr23
                have hr23_0 : r23 = 0 ∨ (r23 = 1 ∧ (0 ≤ x11 ∧ x11 < 8) ∧ gI s 47 ≠ 0) := hr23_0
                have kt : gI s 47 ≠ 0 := hv27_2.2.1
                have kG := JI_GA hpJ kt
                refine wp_rg (by have : (0 : Int) ≤ gI s 47 ∧ gI s 47 ≤ 1 := hRs.1 47; omega) ?_
                refine wp_if (fun c5 => ?_) (fun c5 => ?_)
                · skip
                  unfold m_x12_mostAlike_J62
                  exact ih27 x7 x8 x9 x10 (x11 + 1) (by show x7 = p0; have : (0 : Int) ≤ gI s 47 ∧ gI s 47 ≤ 1 := hRs.1 47; omega) (by show 0 ≤ x8 ∧ x8 ≤ 8; have : (0 : Int) ≤ gI s 47 ∧ gI s 47 ≤ 1 := hRs.1 47; omega) (by show (0 ≤ x9 ∧ x9 < 8) ∧ gI s 47 ≠ 0 ∧ x9 = x3; have : (0 : Int) ≤ gI s 47 ∧ gI s 47 ≤ 1 := hRs.1 47; omega) (by show 0 ≤ x10 ∧ x10 ≤ (x11 + 1) ∧ (x11 + 1) ≤ 8; have : (0 : Int) ≤ gI s 47 ∧ gI s 47 ≤ 1 := hRs.1 47; omega) (by have : (0 : Int) ≤ gI s 47 ∧ gI s 47 ≤ 1 := hRs.1 47; omega)
                · skip
                  refine wp_bn (w_x12_toldOf hRs (by show 0 ≤ x11 ∧ x11 < 8; have : (0 : Int) ≤ gI s 47 ∧ gI s 47 ≤ 1 := hRs.1 47; omega) (by show R2 x7; have : (0 : Int) ≤ gI s 47 ∧ gI s 47 ≤ 1 := hRs.1 47; omega) (kG.1.1.1) (kG.1.1.2 x11.toNat (by omega))) (fun r27 er27 hr27 => ?_)
                  have hr27_0 := hr27
                  have hr27_0 : R2 r27 := hr27_0
                  refine wp_bn (w_x12_toldOf hRs (by show 0 ≤ x9 ∧ x9 < 8; have : (0 : Int) ≤ gI s 47 ∧ gI s 47 ≤ 1 := hRs.1 47; omega) (by show R2 x7; have : (0 : Int) ≤ gI s 47 ∧ gI s 47 ≤ 1 := hRs.1 47; omega) (kG.1.1.1) (kG.1.1.2 x9.toNat (by omega))) (fun r29 er29 hr29 => ?_)
                  have hr29_0 := hr29
                  have hr29_0 : R2 r29 := hr29_0
                  refine wp_rg (by have : (0 : Int) ≤ gI s 47 ∧ gI s 47 ≤ 1 := hRs.1 47; omega) ?_
                  refine wp_rg (by have : (0 : Int) ≤ gI s 47 ∧ gI s 47 ≤ 1 := hRs.1 47; omega) ?_
                  refine wp_if (fun c6 => ?_) (fun c6 => ?_)
                  · skip
                    unfold m_x12_mostAlike_J62
                    exact ih27 x7 x8 x9 (x10 + 1) (x11 + 1) (by show x7 = p0; have : (0 : Int) ≤ gI s 47 ∧ gI s 47 ≤ 1 := hRs.1 47; omega) (by show 0 ≤ x8 ∧ x8 ≤ 8; have : (0 : Int) ≤ gI s 47 ∧ gI s 47 ≤ 1 := hRs.1 47; omega) (by show (0 ≤ x9 ∧ x9 < 8) ∧ gI s 47 ≠ 0 ∧ x9 = x3; have : (0 : Int) ≤ gI s 47 ∧ gI s 47 ≤ 1 := hRs.1 47; omega) (by show 0 ≤ (x10 + 1) ∧ (x10 + 1) ≤ (x11 + 1) ∧ (x11 + 1) ≤ 8; have : (0 : Int) ≤ gI s 47 ∧ gI s 47 ≤ 1 := hRs.1 47; omega) (by have : (0 : Int) ≤ gI s 47 ∧ gI s 47 ≤ 1 := hRs.1 47; omega)
                  · skip
                    unfold m_x12_mostAlike_J62
                    exact ih27 x7 x8 x9 x10 (x11 + 1) (by show x7 = p0; have : (0 : Int) ≤ gI s 47 ∧ gI s 47 ≤ 1 := hRs.1 47; omega) (by show 0 ≤ x8 ∧ x8 ≤ 8; have : (0 : Int) ≤ gI s 47 ∧ gI s 47 ≤ 1 := hRs.1 47; omega) (by show (0 ≤ x9 ∧ x9 < 8) ∧ gI s 47 ≠ 0 ∧ x9 = x3; have : (0 : Int) ≤ gI s 47 ∧ gI s 47 ≤ 1 := hRs.1 47; omega) (by show 0 ≤ x10 ∧ x10 ≤ (x11 + 1) ∧ (x11 + 1) ≤ 8; have : (0 : Int) ≤ gI s 47 ∧ gI s 47 ≤ 1 := hRs.1 47; omega) (by have : (0 : Int) ≤ gI s 47 ∧ gI s 47 ≤ 1 := hRs.1 47; omega)
          exact L27 FU x1 x2 x3 0 0 (by show x1 = p0; have : (0 : Int) ≤ gI s 47 ∧ gI s 47 ≤ 1 := hRs.1 47; omega) (by show 0 ≤ x2 ∧ x2 ≤ 8; have : (0 : Int) ≤ gI s 47 ∧ gI s 47 ≤ 1 := hRs.1 47; omega) (by show (0 ≤ x3 ∧ x3 < 8) ∧ gI s 47 ≠ 0 ∧ x3 = x3; have : (0 : Int) ≤ gI s 47 ∧ gI s 47 ≤ 1 := hRs.1 47; omega) (by show 0 ≤ (0 : Int) ∧ (0 : Int) ≤ (0 : Int) ∧ (0 : Int) ≤ 8; have : (0 : Int) ≤ gI s 47 ∧ gI s 47 ≤ 1 := hRs.1 47; omega) (by have := FU_big; have := FU_big2; have : (0 : Int) ≤ gI s 47 ∧ gI s 47 ≤ 1 := hRs.1 47; omega)
  exact L4 FU p0 0 0 (by show p0 = p0; omega) (by show 0 ≤ (0 : Int) ∧ (0 : Int) ≤ 8; omega) (by show 0 ≤ (0 : Int) ∧ (0 : Int) ≤ 8; omega) (by have := FU_big; have := FU_big2; omega)
set_option maxHeartbeats 1000000 in
theorem w_x12_tells {p0 : Int} {s : MS} (hRs : Rr s) (hp0 : R2 p0) (hp1 : JI s) : wp (m_x12_tells p0 s) (fun r => True) := by
  unfold m_x12_tells
  refine wp_rg (by omega) ?_
  refine wp_bn (w_x12_isIn hRs (by show R8 p0; omega) (by show R8 (0 : Int); omega) (by show R8 (1 : Int); omega)) (fun r26 er26 hr26 => ?_)
  have hr26_0 := hr26
  have hr26_0 : (r26 = 1 ∧ (0 : Int) ≤ p0 ∧ p0 ≤ (1 : Int)) ∨ (r26 = 0 ∧ (p0 < (0 : Int) ∨ (1 : Int) < p0)) := hr26_0
  refine wp_rg (by omega) ?_
  refine wp_if (fun c1 => ?_) (fun c1 => ?_)
  · skip
    unfold m_x12_tells_J18
    exact wp_some (trivial)
  · skip
    refine wp_bn (w_x12_fits hRs (by show R2 (-1 : Int); omega) (hp1)) (fun r30 er30 hr30 => ?_)
    have hr30_0 := hr30
    have hr30_0 : R2 r30 := hr30_0
    refine wp_rg (by omega) ?_
    refine wp_if (fun c2 => ?_) (fun c2 => ?_)
    · skip
      unfold m_x12_tells_J18
      exact wp_some (trivial)
    · skip
      have L27 : ∀ (n : Nat) (x2 : Int) (x3 : Int) (x4 : Int) (x5 : Int), (R2 x2) → ((-1) ≤ x3 ∧ x3 ≤ 100) → ((-1) ≤ x4 ∧ x4 ≤ 8) → (0 ≤ x5 ∧ x5 ≤ 100) → (100 - x5) < (n : Int) → wp (m_x12_tells_L27 s n x2 x3 x4 x5) (fun r => True) := by
        refine fr_ind (fun x2 x3 x4 x5 hv27_0 hv27_1 hv27_2 hv27_3 hm27 => ?_) (fun n27 ih27 x2 x3 x4 x5 hv27_0 hv27_1 hv27_2 hv27_3 hm27 => ?_)
        · exfalso; omega
        · show wp (m_x12_tells_b27 s (m_x12_tells_L27 s n27) x2 x3 x4 x5) _
          unfold m_x12_tells_b27
          refine wp_rg (by omega) ?_
          refine wp_if (fun c3 => ?_) (fun c3 => ?_)
          · skip
            refine wp_rg (by omega) ?_
            refine wp_if (fun c4 => ?_) (fun c4 => ?_)
            · skip
              unfold m_x12_tells_J77
              exact wp_some (trivial)
            · skip
              unfold m_x12_tells_J77
              exact wp_some (trivial)
          · skip
            refine wp_bn (w_x12_mostAlike hRs (by show R2 x5; omega) (hp1)) (fun r18 er18 hr18 => ?_)
            have hr18_0 := hr18
            have hr18_0 : 0 ≤ r18 ∧ r18 ≤ 8 := hr18_0
            refine wp_rg (by omega) ?_
            refine wp_if (fun c5 => ?_) (fun c5 => ?_)
            · skip
              unfold m_x12_tells_J56
              unfold m_x12_tells_J62
              exact ih27 x2 x5 r18 (x5 + 1) (by show R2 x2; omega) (by show (-1) ≤ x5 ∧ x5 ≤ 100; omega) (by show (-1) ≤ r18 ∧ r18 ≤ 8; omega) (by show 0 ≤ (x5 + 1) ∧ (x5 + 1) ≤ 100; omega) (by omega)
            · skip
              refine wp_rg (by omega) ?_
              refine wp_rg (by omega) ?_
              refine wp_if (fun c6 => ?_) (fun c6 => ?_)
              · skip
                unfold m_x12_tells_J56
                unfold m_x12_tells_J62
                exact ih27 x2 x5 r18 (x5 + 1) (by show R2 x2; omega) (by show (-1) ≤ x5 ∧ x5 ≤ 100; omega) (by show (-1) ≤ r18 ∧ r18 ≤ 8; omega) (by show 0 ≤ (x5 + 1) ∧ (x5 + 1) ≤ 100; omega) (by omega)
              · skip
                unfold m_x12_tells_J62
                exact ih27 x2 x3 x4 (x5 + 1) (by show R2 x2; omega) (by show (-1) ≤ x3 ∧ x3 ≤ 100; omega) (by show (-1) ≤ x4 ∧ x4 ≤ 8; omega) (by show 0 ≤ (x5 + 1) ∧ (x5 + 1) ≤ 100; omega) (by omega)
      exact L27 FU p0 (-1) (-1) 0 (by show R2 p0; omega) (by show (-1) ≤ (-1 : Int) ∧ (-1 : Int) ≤ 100; omega) (by show (-1) ≤ (-1 : Int) ∧ (-1 : Int) ≤ 8; omega) (by show 0 ≤ (0 : Int) ∧ (0 : Int) ≤ 100; omega) (by have := FU_big; have := FU_big2; omega)
