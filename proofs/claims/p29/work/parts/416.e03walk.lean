theorem mul_88 (a b : Int) (h : 0 ≤ a ∧ a ≤ 8) (h2 : 0 ≤ b ∧ b ≤ 288) : 0 ≤ a * b ∧ a * b ≤ 2304 := by
  refine ⟨Int.mul_nonneg h.1 h2.1, ?_⟩
  have : a * b ≤ 8 * 288 := Int.mul_le_mul h.2 h2.2 h2.1 (by omega)
  omega
set_option maxHeartbeats 4000000 in
theorem w_x11_unlike {p0 : Int} {p1 : Int} {p2 : Int} {s : MS} (hRs : Rg s) (hp0 : US (hN s) (kN s)) (hp1 : (-2) ≤ p0 ∧ p0 < 48) (hp2 : (-2) ≤ p1 ∧ p1 < 48) (hp3 : R2 p2) : wp (m_x11_unlike p0 p1 p2 s) (fun q => (Rg q.2)) := by
  unfold m_x11_unlike
  refine wp_bn (w_x10_gather hRs (hp0) (by show (-2) ≤ p0 ∧ p0 < 48; omega)) (fun qqr147 eqr147s hqr147s => ?_)
  obtain ⟨qr147r, qr147s⟩ := qqr147
  dsimp only at eqr147s hqr147s ⊢
  have Fqr147s := fr_x10_gather eqr147s
  obtain ⟨hRqr147s, hqr147s_0, hqr147s_1⟩ := hqr147s
  have hqr147s_0 : 0 ≤ qr147r ∧ qr147r ≤ 288 := hqr147s_0
  have hqr147s_1 : ∀ j : Nat, (j : Int) < qr147r → 0 ≤ gA qr147s 23 j ∧ gA qr147s 23 j ≤ 999 := hqr147s_1
  refine wp_bn (w_x10_gather_v2 hRqr147s (by rw [hN_eq (Fqr147s.2.1 56 (by decide)) (Fqr147s.2.1 57 (by decide)) (Fqr147s.2.1 59 (by decide)), kN_eq (Fqr147s.2.1 58 (by decide))]; exact hp0) (by show (-2) ≤ p1 ∧ p1 < 48; omega)) (fun qqr150 eqr150s hqr150s => ?_)
  obtain ⟨qr150r, qr150s⟩ := qqr150
  dsimp only at eqr150s hqr150s ⊢
  have Fqr150s := fr_x10_gather_v2 eqr150s
  obtain ⟨hRqr150s, hqr150s_0, hqr150s_1⟩ := hqr150s
  have hqr150s_0 : 0 ≤ qr150r ∧ qr150r ≤ 288 := hqr150s_0
  have hqr150s_1 : ∀ j : Nat, (j : Int) < qr150r → 0 ≤ gA qr150s 27 j ∧ gA qr150s 27 j ≤ 999 := hqr150s_1
  have L46 : ∀ (n : Nat) (x8 : Int) (x9 : Int) (x10 : Int) (x11 : Int) (x12 : Int) (x13 : Int) (x14 : Int) (s15 : MS), Rg s15 → (x8 = p2) → (x9 = qr147r ∧ x10 = qr150r) → (0 ≤ x11 ∧ x11 ≤ x14) → (0 ≤ x12 ∧ x12 ≤ x9) → (0 ≤ x13 ∧ x13 ≤ x10) → (0 ≤ x14 ∧ x14 ≤ 576) → (∀ j : Nat, (j : Int) < x9 → 0 ≤ gA s15 23 j ∧ gA s15 23 j ≤ 999) → (∀ j : Nat, (j : Int) < x10 → 0 ≤ gA s15 27 j ∧ gA s15 27 j ≤ 999) → (576 - x14) < (n : Int) → wp (m_x11_unlike_L46 n x8 x9 x10 x11 x12 x13 x14 s15) (fun q => (Rg q.2)) := by
    refine fr_ind (fun x8 x9 x10 x11 x12 x13 x14 s15 hRs15 hv46_0 hv46_1 hv46_2 hv46_3 hv46_4 hv46_5 hv46_6 hv46_7 hm46 => ?_) (fun n46 ih46 x8 x9 x10 x11 x12 x13 x14 s15 hRs15 hv46_0 hv46_1 hv46_2 hv46_3 hv46_4 hv46_5 hv46_6 hv46_7 hm46 => ?_)
    · exfalso; omega
    · show wp (m_x11_unlike_b46 (m_x11_unlike_L46 n46) x8 x9 x10 x11 x12 x13 x14 s15) _
      unfold m_x11_unlike_b46
      refine wp_rg (by omega) ?_
      refine wp_if (fun c1 => ?_) (fun c1 => ?_)
      · skip
        unfold m_x11_unlike_J229
        refine wp_rg (by omega) ?_
        refine wp_if (fun c2 => ?_) (fun c2 => ?_)
        · skip
          unfold m_x11_unlike_J240
          exact wp_some (hRs15)
        · skip
          unfold m_x11_unlike_J240
          exact wp_some (hRs15)
      · skip
        refine wp_rg (by omega) ?_
        refine wp_rg (by omega) ?_
        refine wp_if (fun c3 => ?_) (fun c3 => ?_)
        · skip
          unfold m_x11_unlike_J68
          refine wp_rg (by omega) ?_
          refine wp_rg (by omega) ?_
          refine wp_if (fun c4 => ?_) (fun c4 => ?_)
          · skip
            unfold m_x11_unlike_J91
            refine wp_rg (by omega) ?_
            refine wp_rg (by omega) ?_
            refine wp_if (fun c5 => ?_) (fun c5 => ?_)
            · skip
              unfold m_x11_unlike_J116
              refine wp_rg (by omega) ?_
              refine wp_rg (by omega) ?_
              refine wp_if (fun c6 => ?_) (fun c6 => ?_)
              · skip
                refine wp_rdIn (by omega) (fun y107 ey107 => ?_)
                have by107 : (-2147483648 : Int) ≤ y107 ∧ y107 ≤ 2147483647 := ey107 ▸ hRs15.2.1 24 _ (by show _ < 288; omega)
                refine wp_rdIn (by omega) (fun y108 ey108 => ?_)
                have by108 : (-2147483648 : Int) ≤ y108 ∧ y108 ≤ 2147483647 := ey108 ▸ hRs15.2.1 28 _ (by show _ < 288; omega)
                refine wp_rg (by omega) ?_
                refine wp_rg (by omega) ?_
                refine wp_if (fun c7 => ?_) (fun c7 => ?_)
                · skip
                  unfold m_x11_unlike_J153
                  refine wp_rg (by omega) ?_
                  refine wp_if (fun c8 => ?_) (fun c8 => ?_)
                  · skip
                    refine wp_rg (by omega) ?_
                    refine wp_rg (by omega) ?_
                    refine wp_if (fun c9 => ?_) (fun c9 => ?_)
                    · skip
                      refine wp_rg (by omega) ?_
                      refine wp_rg (by omega) ?_
                      exact wp_some (hRs15)
                    · skip
                      unfold m_x11_unlike_J174
                      refine wp_rg (by omega) ?_
                      refine wp_if (fun c10 => ?_) (fun c10 => ?_)
                      · skip
                        unfold m_x11_unlike_J186
                        refine wp_rg (by omega) ?_
                        refine wp_rg (by omega) ?_
                        refine wp_if (fun c11 => ?_) (fun c11 => ?_)
                        · skip
                          unfold m_x11_unlike_J203
                          refine wp_rg (by omega) ?_
                          refine wp_rg (by omega) ?_
                          refine wp_if (fun c12 => ?_) (fun c12 => ?_)
                          · skip
                            unfold m_x11_unlike_J220
                            exact ih46 x8 x9 x10 (x11 + 1) (x12 + 0) (x13 + 0) (x14 + 1) s15 hRs15 (by show x8 = p2; omega) (by show x9 = qr147r ∧ x10 = qr150r; omega) (by show 0 ≤ (x11 + 1) ∧ (x11 + 1) ≤ (x14 + 1); omega) (by show 0 ≤ (x12 + 0) ∧ (x12 + 0) ≤ x9; omega) (by show 0 ≤ (x13 + 0) ∧ (x13 + 0) ≤ x10; omega) (by show 0 ≤ (x14 + 1) ∧ (x14 + 1) ≤ 576; omega) (hv46_6) (hv46_7) (by omega)
                          · skip
                            unfold m_x11_unlike_J220
                            exact ih46 x8 x9 x10 (x11 + 1) (x12 + 0) (x13 + 1) (x14 + 1) s15 hRs15 (by show x8 = p2; omega) (by show x9 = qr147r ∧ x10 = qr150r; omega) (by show 0 ≤ (x11 + 1) ∧ (x11 + 1) ≤ (x14 + 1); omega) (by show 0 ≤ (x12 + 0) ∧ (x12 + 0) ≤ x9; omega) (by show 0 ≤ (x13 + 1) ∧ (x13 + 1) ≤ x10; omega) (by show 0 ≤ (x14 + 1) ∧ (x14 + 1) ≤ 576; omega) (hv46_6) (hv46_7) (by omega)
                        · skip
                          unfold m_x11_unlike_J203
                          refine wp_rg (by omega) ?_
                          refine wp_rg (by omega) ?_
                          refine wp_if (fun c13 => ?_) (fun c13 => ?_)
                          · skip
                            unfold m_x11_unlike_J220
                            exact ih46 x8 x9 x10 (x11 + 1) (x12 + 1) (x13 + 0) (x14 + 1) s15 hRs15 (by show x8 = p2; omega) (by show x9 = qr147r ∧ x10 = qr150r; omega) (by show 0 ≤ (x11 + 1) ∧ (x11 + 1) ≤ (x14 + 1); omega) (by show 0 ≤ (x12 + 1) ∧ (x12 + 1) ≤ x9; omega) (by show 0 ≤ (x13 + 0) ∧ (x13 + 0) ≤ x10; omega) (by show 0 ≤ (x14 + 1) ∧ (x14 + 1) ≤ 576; omega) (hv46_6) (hv46_7) (by omega)
                          · skip
                            unfold m_x11_unlike_J220
                            exact ih46 x8 x9 x10 (x11 + 1) (x12 + 1) (x13 + 1) (x14 + 1) s15 hRs15 (by show x8 = p2; omega) (by show x9 = qr147r ∧ x10 = qr150r; omega) (by show 0 ≤ (x11 + 1) ∧ (x11 + 1) ≤ (x14 + 1); omega) (by show 0 ≤ (x12 + 1) ∧ (x12 + 1) ≤ x9; omega) (by show 0 ≤ (x13 + 1) ∧ (x13 + 1) ≤ x10; omega) (by show 0 ≤ (x14 + 1) ∧ (x14 + 1) ≤ 576; omega) (hv46_6) (hv46_7) (by omega)
                      · skip
                        unfold m_x11_unlike_J186
                        refine wp_rg (by omega) ?_
                        refine wp_rg (by omega) ?_
                        refine wp_if (fun c14 => ?_) (fun c14 => ?_)
                        · skip
                          unfold m_x11_unlike_J203
                          refine wp_rg (by omega) ?_
                          refine wp_rg (by omega) ?_
                          refine wp_if (fun c15 => ?_) (fun c15 => ?_)
                          · skip
                            unfold m_x11_unlike_J220
                            exact ih46 x8 x9 x10 (x11 + 0) (x12 + 0) (x13 + 0) (x14 + 1) s15 hRs15 (by show x8 = p2; omega) (by show x9 = qr147r ∧ x10 = qr150r; omega) (by show 0 ≤ (x11 + 0) ∧ (x11 + 0) ≤ (x14 + 1); omega) (by show 0 ≤ (x12 + 0) ∧ (x12 + 0) ≤ x9; omega) (by show 0 ≤ (x13 + 0) ∧ (x13 + 0) ≤ x10; omega) (by show 0 ≤ (x14 + 1) ∧ (x14 + 1) ≤ 576; omega) (hv46_6) (hv46_7) (by omega)
                          · skip
                            unfold m_x11_unlike_J220
                            exact ih46 x8 x9 x10 (x11 + 0) (x12 + 0) (x13 + 1) (x14 + 1) s15 hRs15 (by show x8 = p2; omega) (by show x9 = qr147r ∧ x10 = qr150r; omega) (by show 0 ≤ (x11 + 0) ∧ (x11 + 0) ≤ (x14 + 1); omega) (by show 0 ≤ (x12 + 0) ∧ (x12 + 0) ≤ x9; omega) (by show 0 ≤ (x13 + 1) ∧ (x13 + 1) ≤ x10; omega) (by show 0 ≤ (x14 + 1) ∧ (x14 + 1) ≤ 576; omega) (hv46_6) (hv46_7) (by omega)
                        · skip
                          unfold m_x11_unlike_J203
                          refine wp_rg (by omega) ?_
                          refine wp_rg (by omega) ?_
                          refine wp_if (fun c16 => ?_) (fun c16 => ?_)
                          · skip
                            unfold m_x11_unlike_J220
                            exact ih46 x8 x9 x10 (x11 + 0) (x12 + 1) (x13 + 0) (x14 + 1) s15 hRs15 (by show x8 = p2; omega) (by show x9 = qr147r ∧ x10 = qr150r; omega) (by show 0 ≤ (x11 + 0) ∧ (x11 + 0) ≤ (x14 + 1); omega) (by show 0 ≤ (x12 + 1) ∧ (x12 + 1) ≤ x9; omega) (by show 0 ≤ (x13 + 0) ∧ (x13 + 0) ≤ x10; omega) (by show 0 ≤ (x14 + 1) ∧ (x14 + 1) ≤ 576; omega) (hv46_6) (hv46_7) (by omega)
                          · skip
                            unfold m_x11_unlike_J220
                            exact ih46 x8 x9 x10 (x11 + 0) (x12 + 1) (x13 + 1) (x14 + 1) s15 hRs15 (by show x8 = p2; omega) (by show x9 = qr147r ∧ x10 = qr150r; omega) (by show 0 ≤ (x11 + 0) ∧ (x11 + 0) ≤ (x14 + 1); omega) (by show 0 ≤ (x12 + 1) ∧ (x12 + 1) ≤ x9; omega) (by show 0 ≤ (x13 + 1) ∧ (x13 + 1) ≤ x10; omega) (by show 0 ≤ (x14 + 1) ∧ (x14 + 1) ≤ 576; omega) (hv46_6) (hv46_7) (by omega)
                  · skip
                    unfold m_x11_unlike_J174
                    refine wp_rg (by omega) ?_
                    refine wp_if (fun c17 => ?_) (fun c17 => ?_)
                    · skip
                      unfold m_x11_unlike_J186
                      refine wp_rg (by omega) ?_
                      refine wp_rg (by omega) ?_
                      refine wp_if (fun c18 => ?_) (fun c18 => ?_)
                      · skip
                        unfold m_x11_unlike_J203
                        refine wp_rg (by omega) ?_
                        refine wp_rg (by omega) ?_
                        refine wp_if (fun c19 => ?_) (fun c19 => ?_)
                        · skip
                          unfold m_x11_unlike_J220
                          exact ih46 x8 x9 x10 (x11 + 1) (x12 + 0) (x13 + 0) (x14 + 1) s15 hRs15 (by show x8 = p2; omega) (by show x9 = qr147r ∧ x10 = qr150r; omega) (by show 0 ≤ (x11 + 1) ∧ (x11 + 1) ≤ (x14 + 1); omega) (by show 0 ≤ (x12 + 0) ∧ (x12 + 0) ≤ x9; omega) (by show 0 ≤ (x13 + 0) ∧ (x13 + 0) ≤ x10; omega) (by show 0 ≤ (x14 + 1) ∧ (x14 + 1) ≤ 576; omega) (hv46_6) (hv46_7) (by omega)
                        · skip
                          unfold m_x11_unlike_J220
                          exact ih46 x8 x9 x10 (x11 + 1) (x12 + 0) (x13 + 1) (x14 + 1) s15 hRs15 (by show x8 = p2; omega) (by show x9 = qr147r ∧ x10 = qr150r; omega) (by show 0 ≤ (x11 + 1) ∧ (x11 + 1) ≤ (x14 + 1); omega) (by show 0 ≤ (x12 + 0) ∧ (x12 + 0) ≤ x9; omega) (by show 0 ≤ (x13 + 1) ∧ (x13 + 1) ≤ x10; omega) (by show 0 ≤ (x14 + 1) ∧ (x14 + 1) ≤ 576; omega) (hv46_6) (hv46_7) (by omega)
                      · skip
                        unfold m_x11_unlike_J203
                        refine wp_rg (by omega) ?_
                        refine wp_rg (by omega) ?_
                        refine wp_if (fun c20 => ?_) (fun c20 => ?_)
                        · skip
                          unfold m_x11_unlike_J220
                          exact ih46 x8 x9 x10 (x11 + 1) (x12 + 1) (x13 + 0) (x14 + 1) s15 hRs15 (by show x8 = p2; omega) (by show x9 = qr147r ∧ x10 = qr150r; omega) (by show 0 ≤ (x11 + 1) ∧ (x11 + 1) ≤ (x14 + 1); omega) (by show 0 ≤ (x12 + 1) ∧ (x12 + 1) ≤ x9; omega) (by show 0 ≤ (x13 + 0) ∧ (x13 + 0) ≤ x10; omega) (by show 0 ≤ (x14 + 1) ∧ (x14 + 1) ≤ 576; omega) (hv46_6) (hv46_7) (by omega)
                        · skip
                          unfold m_x11_unlike_J220
                          exact ih46 x8 x9 x10 (x11 + 1) (x12 + 1) (x13 + 1) (x14 + 1) s15 hRs15 (by show x8 = p2; omega) (by show x9 = qr147r ∧ x10 = qr150r; omega) (by show 0 ≤ (x11 + 1) ∧ (x11 + 1) ≤ (x14 + 1); omega) (by show 0 ≤ (x12 + 1) ∧ (x12 + 1) ≤ x9; omega) (by show 0 ≤ (x13 + 1) ∧ (x13 + 1) ≤ x10; omega) (by show 0 ≤ (x14 + 1) ∧ (x14 + 1) ≤ 576; omega) (hv46_6) (hv46_7) (by omega)
                    · skip
                      unfold m_x11_unlike_J186
                      refine wp_rg (by omega) ?_
                      refine wp_rg (by omega) ?_
                      refine wp_if (fun c21 => ?_) (fun c21 => ?_)
                      · skip
                        unfold m_x11_unlike_J203
                        refine wp_rg (by omega) ?_
                        refine wp_rg (by omega) ?_
                        refine wp_if (fun c22 => ?_) (fun c22 => ?_)
                        · skip
                          unfold m_x11_unlike_J220
                          exact ih46 x8 x9 x10 (x11 + 0) (x12 + 0) (x13 + 0) (x14 + 1) s15 hRs15 (by show x8 = p2; omega) (by show x9 = qr147r ∧ x10 = qr150r; omega) (by show 0 ≤ (x11 + 0) ∧ (x11 + 0) ≤ (x14 + 1); omega) (by show 0 ≤ (x12 + 0) ∧ (x12 + 0) ≤ x9; omega) (by show 0 ≤ (x13 + 0) ∧ (x13 + 0) ≤ x10; omega) (by show 0 ≤ (x14 + 1) ∧ (x14 + 1) ≤ 576; omega) (hv46_6) (hv46_7) (by omega)
                        · skip
                          unfold m_x11_unlike_J220
                          exact ih46 x8 x9 x10 (x11 + 0) (x12 + 0) (x13 + 1) (x14 + 1) s15 hRs15 (by show x8 = p2; omega) (by show x9 = qr147r ∧ x10 = qr150r; omega) (by show 0 ≤ (x11 + 0) ∧ (x11 + 0) ≤ (x14 + 1); omega) (by show 0 ≤ (x12 + 0) ∧ (x12 + 0) ≤ x9; omega) (by show 0 ≤ (x13 + 1) ∧ (x13 + 1) ≤ x10; omega) (by show 0 ≤ (x14 + 1) ∧ (x14 + 1) ≤ 576; omega) (hv46_6) (hv46_7) (by omega)
                      · skip
                        unfold m_x11_unlike_J203
                        refine wp_rg (by omega) ?_
                        refine wp_rg (by omega) ?_
                        refine wp_if (fun c23 => ?_) (fun c23 => ?_)
                        · skip
                          unfold m_x11_unlike_J220
                          exact ih46 x8 x9 x10 (x11 + 0) (x12 + 1) (x13 + 0) (x14 + 1) s15 hRs15 (by show x8 = p2; omega) (by show x9 = qr147r ∧ x10 = qr150r; omega) (by show 0 ≤ (x11 + 0) ∧ (x11 + 0) ≤ (x14 + 1); omega) (by show 0 ≤ (x12 + 1) ∧ (x12 + 1) ≤ x9; omega) (by show 0 ≤ (x13 + 0) ∧ (x13 + 0) ≤ x10; omega) (by show 0 ≤ (x14 + 1) ∧ (x14 + 1) ≤ 576; omega) (hv46_6) (hv46_7) (by omega)
                        · skip
                          unfold m_x11_unlike_J220
                          exact ih46 x8 x9 x10 (x11 + 0) (x12 + 1) (x13 + 1) (x14 + 1) s15 hRs15 (by show x8 = p2; omega) (by show x9 = qr147r ∧ x10 = qr150r; omega) (by show 0 ≤ (x11 + 0) ∧ (x11 + 0) ≤ (x14 + 1); omega) (by show 0 ≤ (x12 + 1) ∧ (x12 + 1) ≤ x9; omega) (by show 0 ≤ (x13 + 1) ∧ (x13 + 1) ≤ x10; omega) (by show 0 ≤ (x14 + 1) ∧ (x14 + 1) ≤ 576; omega) (hv46_6) (hv46_7) (by omega)
                · skip
                  unfold m_x11_unlike_J152
                  unfold m_x11_unlike_J153
                  refine wp_rg (by omega) ?_
                  refine wp_if (fun c24 => ?_) (fun c24 => ?_)
                  · skip
                    refine wp_rg (by omega) ?_
                    refine wp_rg (by omega) ?_
                    refine wp_if (fun c25 => ?_) (fun c25 => ?_)
                    · skip
                      refine wp_rg (by omega) ?_
                      refine wp_rg (by omega) ?_
                      exact wp_some (hRs15)
                    · skip
                      unfold m_x11_unlike_J174
                      refine wp_rg (by omega) ?_
                      refine wp_if (fun c26 => ?_) (fun c26 => ?_)
                      · skip
                        unfold m_x11_unlike_J186
                        refine wp_rg (by omega) ?_
                        refine wp_rg (by omega) ?_
                        refine wp_if (fun c27 => ?_) (fun c27 => ?_)
                        · skip
                          unfold m_x11_unlike_J203
                          refine wp_rg (by omega) ?_
                          refine wp_rg (by omega) ?_
                          refine wp_if (fun c28 => ?_) (fun c28 => ?_)
                          · skip
                            unfold m_x11_unlike_J220
                            exact ih46 x8 x9 x10 (x11 + 1) (x12 + 0) (x13 + 0) (x14 + 1) s15 hRs15 (by show x8 = p2; omega) (by show x9 = qr147r ∧ x10 = qr150r; omega) (by show 0 ≤ (x11 + 1) ∧ (x11 + 1) ≤ (x14 + 1); omega) (by show 0 ≤ (x12 + 0) ∧ (x12 + 0) ≤ x9; omega) (by show 0 ≤ (x13 + 0) ∧ (x13 + 0) ≤ x10; omega) (by show 0 ≤ (x14 + 1) ∧ (x14 + 1) ≤ 576; omega) (hv46_6) (hv46_7) (by omega)
                          · skip
                            unfold m_x11_unlike_J220
                            exact ih46 x8 x9 x10 (x11 + 1) (x12 + 0) (x13 + 1) (x14 + 1) s15 hRs15 (by show x8 = p2; omega) (by show x9 = qr147r ∧ x10 = qr150r; omega) (by show 0 ≤ (x11 + 1) ∧ (x11 + 1) ≤ (x14 + 1); omega) (by show 0 ≤ (x12 + 0) ∧ (x12 + 0) ≤ x9; omega) (by show 0 ≤ (x13 + 1) ∧ (x13 + 1) ≤ x10; omega) (by show 0 ≤ (x14 + 1) ∧ (x14 + 1) ≤ 576; omega) (hv46_6) (hv46_7) (by omega)
                        · skip
                          unfold m_x11_unlike_J203
                          refine wp_rg (by omega) ?_
                          refine wp_rg (by omega) ?_
                          refine wp_if (fun c29 => ?_) (fun c29 => ?_)
                          · skip
                            unfold m_x11_unlike_J220
                            exact ih46 x8 x9 x10 (x11 + 1) (x12 + 1) (x13 + 0) (x14 + 1) s15 hRs15 (by show x8 = p2; omega) (by show x9 = qr147r ∧ x10 = qr150r; omega) (by show 0 ≤ (x11 + 1) ∧ (x11 + 1) ≤ (x14 + 1); omega) (by show 0 ≤ (x12 + 1) ∧ (x12 + 1) ≤ x9; omega) (by show 0 ≤ (x13 + 0) ∧ (x13 + 0) ≤ x10; omega) (by show 0 ≤ (x14 + 1) ∧ (x14 + 1) ≤ 576; omega) (hv46_6) (hv46_7) (by omega)
                          · skip
                            unfold m_x11_unlike_J220
                            exact ih46 x8 x9 x10 (x11 + 1) (x12 + 1) (x13 + 1) (x14 + 1) s15 hRs15 (by show x8 = p2; omega) (by show x9 = qr147r ∧ x10 = qr150r; omega) (by show 0 ≤ (x11 + 1) ∧ (x11 + 1) ≤ (x14 + 1); omega) (by show 0 ≤ (x12 + 1) ∧ (x12 + 1) ≤ x9; omega) (by show 0 ≤ (x13 + 1) ∧ (x13 + 1) ≤ x10; omega) (by show 0 ≤ (x14 + 1) ∧ (x14 + 1) ≤ 576; omega) (hv46_6) (hv46_7) (by omega)
                      · skip
                        unfold m_x11_unlike_J186
                        refine wp_rg (by omega) ?_
                        refine wp_rg (by omega) ?_
                        refine wp_if (fun c30 => ?_) (fun c30 => ?_)
                        · skip
                          unfold m_x11_unlike_J203
                          refine wp_rg (by omega) ?_
                          refine wp_rg (by omega) ?_
                          refine wp_if (fun c31 => ?_) (fun c31 => ?_)
                          · skip
                            unfold m_x11_unlike_J220
                            exact ih46 x8 x9 x10 (x11 + 0) (x12 + 0) (x13 + 0) (x14 + 1) s15 hRs15 (by show x8 = p2; omega) (by show x9 = qr147r ∧ x10 = qr150r; omega) (by show 0 ≤ (x11 + 0) ∧ (x11 + 0) ≤ (x14 + 1); omega) (by show 0 ≤ (x12 + 0) ∧ (x12 + 0) ≤ x9; omega) (by show 0 ≤ (x13 + 0) ∧ (x13 + 0) ≤ x10; omega) (by show 0 ≤ (x14 + 1) ∧ (x14 + 1) ≤ 576; omega) (hv46_6) (hv46_7) (by omega)
                          · skip
                            unfold m_x11_unlike_J220
                            exact ih46 x8 x9 x10 (x11 + 0) (x12 + 0) (x13 + 1) (x14 + 1) s15 hRs15 (by show x8 = p2; omega) (by show x9 = qr147r ∧ x10 = qr150r; omega) (by show 0 ≤ (x11 + 0) ∧ (x11 + 0) ≤ (x14 + 1); omega) (by show 0 ≤ (x12 + 0) ∧ (x12 + 0) ≤ x9; omega) (by show 0 ≤ (x13 + 1) ∧ (x13 + 1) ≤ x10; omega) (by show 0 ≤ (x14 + 1) ∧ (x14 + 1) ≤ 576; omega) (hv46_6) (hv46_7) (by omega)
                        · skip
                          unfold m_x11_unlike_J203
                          refine wp_rg (by omega) ?_
                          refine wp_rg (by omega) ?_
                          refine wp_if (fun c32 => ?_) (fun c32 => ?_)
                          · skip
                            unfold m_x11_unlike_J220
                            exact ih46 x8 x9 x10 (x11 + 0) (x12 + 1) (x13 + 0) (x14 + 1) s15 hRs15 (by show x8 = p2; omega) (by show x9 = qr147r ∧ x10 = qr150r; omega) (by show 0 ≤ (x11 + 0) ∧ (x11 + 0) ≤ (x14 + 1); omega) (by show 0 ≤ (x12 + 1) ∧ (x12 + 1) ≤ x9; omega) (by show 0 ≤ (x13 + 0) ∧ (x13 + 0) ≤ x10; omega) (by show 0 ≤ (x14 + 1) ∧ (x14 + 1) ≤ 576; omega) (hv46_6) (hv46_7) (by omega)
                          · skip
                            unfold m_x11_unlike_J220
                            exact ih46 x8 x9 x10 (x11 + 0) (x12 + 1) (x13 + 1) (x14 + 1) s15 hRs15 (by show x8 = p2; omega) (by show x9 = qr147r ∧ x10 = qr150r; omega) (by show 0 ≤ (x11 + 0) ∧ (x11 + 0) ≤ (x14 + 1); omega) (by show 0 ≤ (x12 + 1) ∧ (x12 + 1) ≤ x9; omega) (by show 0 ≤ (x13 + 1) ∧ (x13 + 1) ≤ x10; omega) (by show 0 ≤ (x14 + 1) ∧ (x14 + 1) ≤ 576; omega) (hv46_6) (hv46_7) (by omega)
                  · skip
                    unfold m_x11_unlike_J174
                    refine wp_rg (by omega) ?_
                    refine wp_if (fun c33 => ?_) (fun c33 => ?_)
                    · skip
                      unfold m_x11_unlike_J186
                      refine wp_rg (by omega) ?_
                      refine wp_rg (by omega) ?_
                      refine wp_if (fun c34 => ?_) (fun c34 => ?_)
                      · skip
                        unfold m_x11_unlike_J203
                        refine wp_rg (by omega) ?_
                        refine wp_rg (by omega) ?_
                        refine wp_if (fun c35 => ?_) (fun c35 => ?_)
                        · skip
                          unfold m_x11_unlike_J220
                          exact ih46 x8 x9 x10 (x11 + 1) (x12 + 0) (x13 + 0) (x14 + 1) s15 hRs15 (by show x8 = p2; omega) (by show x9 = qr147r ∧ x10 = qr150r; omega) (by show 0 ≤ (x11 + 1) ∧ (x11 + 1) ≤ (x14 + 1); omega) (by show 0 ≤ (x12 + 0) ∧ (x12 + 0) ≤ x9; omega) (by show 0 ≤ (x13 + 0) ∧ (x13 + 0) ≤ x10; omega) (by show 0 ≤ (x14 + 1) ∧ (x14 + 1) ≤ 576; omega) (hv46_6) (hv46_7) (by omega)
                        · skip
                          unfold m_x11_unlike_J220
                          exact ih46 x8 x9 x10 (x11 + 1) (x12 + 0) (x13 + 1) (x14 + 1) s15 hRs15 (by show x8 = p2; omega) (by show x9 = qr147r ∧ x10 = qr150r; omega) (by show 0 ≤ (x11 + 1) ∧ (x11 + 1) ≤ (x14 + 1); omega) (by show 0 ≤ (x12 + 0) ∧ (x12 + 0) ≤ x9; omega) (by show 0 ≤ (x13 + 1) ∧ (x13 + 1) ≤ x10; omega) (by show 0 ≤ (x14 + 1) ∧ (x14 + 1) ≤ 576; omega) (hv46_6) (hv46_7) (by omega)
                      · skip
                        unfold m_x11_unlike_J203
                        refine wp_rg (by omega) ?_
                        refine wp_rg (by omega) ?_
                        refine wp_if (fun c36 => ?_) (fun c36 => ?_)
                        · skip
                          unfold m_x11_unlike_J220
                          exact ih46 x8 x9 x10 (x11 + 1) (x12 + 1) (x13 + 0) (x14 + 1) s15 hRs15 (by show x8 = p2; omega) (by show x9 = qr147r ∧ x10 = qr150r; omega) (by show 0 ≤ (x11 + 1) ∧ (x11 + 1) ≤ (x14 + 1); omega) (by show 0 ≤ (x12 + 1) ∧ (x12 + 1) ≤ x9; omega) (by show 0 ≤ (x13 + 0) ∧ (x13 + 0) ≤ x10; omega) (by show 0 ≤ (x14 + 1) ∧ (x14 + 1) ≤ 576; omega) (hv46_6) (hv46_7) (by omega)
                        · skip
                          unfold m_x11_unlike_J220
                          exact ih46 x8 x9 x10 (x11 + 1) (x12 + 1) (x13 + 1) (x14 + 1) s15 hRs15 (by show x8 = p2; omega) (by show x9 = qr147r ∧ x10 = qr150r; omega) (by show 0 ≤ (x11 + 1) ∧ (x11 + 1) ≤ (x14 + 1); omega) (by show 0 ≤ (x12 + 1) ∧ (x12 + 1) ≤ x9; omega) (by show 0 ≤ (x13 + 1) ∧ (x13 + 1) ≤ x10; omega) (by show 0 ≤ (x14 + 1) ∧ (x14 + 1) ≤ 576; omega) (hv46_6) (hv46_7) (by omega)
                    · skip
                      unfold m_x11_unlike_J186
                      refine wp_rg (by omega) ?_
                      refine wp_rg (by omega) ?_
                      refine wp_if (fun c37 => ?_) (fun c37 => ?_)
                      · skip
                        unfold m_x11_unlike_J203
                        refine wp_rg (by omega) ?_
                        refine wp_rg (by omega) ?_
                        refine wp_if (fun c38 => ?_) (fun c38 => ?_)
                        · skip
                          unfold m_x11_unlike_J220
                          exact ih46 x8 x9 x10 (x11 + 0) (x12 + 0) (x13 + 0) (x14 + 1) s15 hRs15 (by show x8 = p2; omega) (by show x9 = qr147r ∧ x10 = qr150r; omega) (by show 0 ≤ (x11 + 0) ∧ (x11 + 0) ≤ (x14 + 1); omega) (by show 0 ≤ (x12 + 0) ∧ (x12 + 0) ≤ x9; omega) (by show 0 ≤ (x13 + 0) ∧ (x13 + 0) ≤ x10; omega) (by show 0 ≤ (x14 + 1) ∧ (x14 + 1) ≤ 576; omega) (hv46_6) (hv46_7) (by omega)
                        · skip
                          unfold m_x11_unlike_J220
                          exact ih46 x8 x9 x10 (x11 + 0) (x12 + 0) (x13 + 1) (x14 + 1) s15 hRs15 (by show x8 = p2; omega) (by show x9 = qr147r ∧ x10 = qr150r; omega) (by show 0 ≤ (x11 + 0) ∧ (x11 + 0) ≤ (x14 + 1); omega) (by show 0 ≤ (x12 + 0) ∧ (x12 + 0) ≤ x9; omega) (by show 0 ≤ (x13 + 1) ∧ (x13 + 1) ≤ x10; omega) (by show 0 ≤ (x14 + 1) ∧ (x14 + 1) ≤ 576; omega) (hv46_6) (hv46_7) (by omega)
                      · skip
                        unfold m_x11_unlike_J203
                        refine wp_rg (by omega) ?_
                        refine wp_rg (by omega) ?_
                        refine wp_if (fun c39 => ?_) (fun c39 => ?_)
                        · skip
                          unfold m_x11_unlike_J220
                          exact ih46 x8 x9 x10 (x11 + 0) (x12 + 1) (x13 + 0) (x14 + 1) s15 hRs15 (by show x8 = p2; omega) (by show x9 = qr147r ∧ x10 = qr150r; omega) (by show 0 ≤ (x11 + 0) ∧ (x11 + 0) ≤ (x14 + 1); omega) (by show 0 ≤ (x12 + 1) ∧ (x12 + 1) ≤ x9; omega) (by show 0 ≤ (x13 + 0) ∧ (x13 + 0) ≤ x10; omega) (by show 0 ≤ (x14 + 1) ∧ (x14 + 1) ≤ 576; omega) (hv46_6) (hv46_7) (by omega)
                        · skip
                          unfold m_x11_unlike_J220
                          exact ih46 x8 x9 x10 (x11 + 0) (x12 + 1) (x13 + 1) (x14 + 1) s15 hRs15 (by show x8 = p2; omega) (by show x9 = qr147r ∧ x10 = qr150r; omega) (by show 0 ≤ (x11 + 0) ∧ (x11 + 0) ≤ (x14 + 1); omega) (by show 0 ≤ (x12 + 1) ∧ (x12 + 1) ≤ x9; omega) (by show 0 ≤ (x13 + 1) ∧ (x13 + 1) ≤ x10; omega) (by show 0 ≤ (x14 + 1) ∧ (x14 + 1) ≤ 576; omega) (hv46_6) (hv46_7) (by omega)
              · skip
                unfold m_x11_unlike_J152
                unfold m_x11_unlike_J153
                refine wp_rg (by omega) ?_
                refine wp_if (fun c40 => ?_) (fun c40 => ?_)
                · skip
                  refine wp_rg (by omega) ?_
                  refine wp_rg (by omega) ?_
                  refine wp_if (fun c41 => ?_) (fun c41 => ?_)
                  · skip
                    refine wp_rg (by omega) ?_
                    refine wp_rg (by omega) ?_
                    exact wp_some (hRs15)
                  · skip
                    unfold m_x11_unlike_J174
                    refine wp_rg (by omega) ?_
                    refine wp_if (fun c42 => ?_) (fun c42 => ?_)
                    · skip
                      unfold m_x11_unlike_J186
                      refine wp_rg (by omega) ?_
                      refine wp_rg (by omega) ?_
                      refine wp_if (fun c43 => ?_) (fun c43 => ?_)
                      · skip
                        unfold m_x11_unlike_J203
                        refine wp_rg (by omega) ?_
                        refine wp_rg (by omega) ?_
                        refine wp_if (fun c44 => ?_) (fun c44 => ?_)
                        · skip
                          unfold m_x11_unlike_J220
                          exact ih46 x8 x9 x10 (x11 + 1) (x12 + 0) (x13 + 0) (x14 + 1) s15 hRs15 (by show x8 = p2; omega) (by show x9 = qr147r ∧ x10 = qr150r; omega) (by show 0 ≤ (x11 + 1) ∧ (x11 + 1) ≤ (x14 + 1); omega) (by show 0 ≤ (x12 + 0) ∧ (x12 + 0) ≤ x9; omega) (by show 0 ≤ (x13 + 0) ∧ (x13 + 0) ≤ x10; omega) (by show 0 ≤ (x14 + 1) ∧ (x14 + 1) ≤ 576; omega) (hv46_6) (hv46_7) (by omega)
                        · skip
                          unfold m_x11_unlike_J220
                          exact ih46 x8 x9 x10 (x11 + 1) (x12 + 0) (x13 + 1) (x14 + 1) s15 hRs15 (by show x8 = p2; omega) (by show x9 = qr147r ∧ x10 = qr150r; omega) (by show 0 ≤ (x11 + 1) ∧ (x11 + 1) ≤ (x14 + 1); omega) (by show 0 ≤ (x12 + 0) ∧ (x12 + 0) ≤ x9; omega) (by show 0 ≤ (x13 + 1) ∧ (x13 + 1) ≤ x10; omega) (by show 0 ≤ (x14 + 1) ∧ (x14 + 1) ≤ 576; omega) (hv46_6) (hv46_7) (by omega)
                      · skip
                        unfold m_x11_unlike_J203
                        refine wp_rg (by omega) ?_
                        refine wp_rg (by omega) ?_
                        refine wp_if (fun c45 => ?_) (fun c45 => ?_)
                        · skip
                          unfold m_x11_unlike_J220
                          exact ih46 x8 x9 x10 (x11 + 1) (x12 + 1) (x13 + 0) (x14 + 1) s15 hRs15 (by show x8 = p2; omega) (by show x9 = qr147r ∧ x10 = qr150r; omega) (by show 0 ≤ (x11 + 1) ∧ (x11 + 1) ≤ (x14 + 1); omega) (by show 0 ≤ (x12 + 1) ∧ (x12 + 1) ≤ x9; omega) (by show 0 ≤ (x13 + 0) ∧ (x13 + 0) ≤ x10; omega) (by show 0 ≤ (x14 + 1) ∧ (x14 + 1) ≤ 576; omega) (hv46_6) (hv46_7) (by omega)
                        · skip
                          unfold m_x11_unlike_J220
                          exact ih46 x8 x9 x10 (x11 + 1) (x12 + 1) (x13 + 1) (x14 + 1) s15 hRs15 (by show x8 = p2; omega) (by show x9 = qr147r ∧ x10 = qr150r; omega) (by show 0 ≤ (x11 + 1) ∧ (x11 + 1) ≤ (x14 + 1); omega) (by show 0 ≤ (x12 + 1) ∧ (x12 + 1) ≤ x9; omega) (by show 0 ≤ (x13 + 1) ∧ (x13 + 1) ≤ x10; omega) (by show 0 ≤ (x14 + 1) ∧ (x14 + 1) ≤ 576; omega) (hv46_6) (hv46_7) (by omega)
                    · skip
                      unfold m_x11_unlike_J186
                      refine wp_rg (by omega) ?_
                      refine wp_rg (by omega) ?_
                      refine wp_if (fun c46 => ?_) (fun c46 => ?_)
                      · skip
                        unfold m_x11_unlike_J203
                        refine wp_rg (by omega) ?_
                        refine wp_rg (by omega) ?_
                        refine wp_if (fun c47 => ?_) (fun c47 => ?_)
                        · skip
                          unfold m_x11_unlike_J220
                          exact ih46 x8 x9 x10 (x11 + 0) (x12 + 0) (x13 + 0) (x14 + 1) s15 hRs15 (by show x8 = p2; omega) (by show x9 = qr147r ∧ x10 = qr150r; omega) (by show 0 ≤ (x11 + 0) ∧ (x11 + 0) ≤ (x14 + 1); omega) (by show 0 ≤ (x12 + 0) ∧ (x12 + 0) ≤ x9; omega) (by show 0 ≤ (x13 + 0) ∧ (x13 + 0) ≤ x10; omega) (by show 0 ≤ (x14 + 1) ∧ (x14 + 1) ≤ 576; omega) (hv46_6) (hv46_7) (by omega)
                        · skip
                          unfold m_x11_unlike_J220
                          exact ih46 x8 x9 x10 (x11 + 0) (x12 + 0) (x13 + 1) (x14 + 1) s15 hRs15 (by show x8 = p2; omega) (by show x9 = qr147r ∧ x10 = qr150r; omega) (by show 0 ≤ (x11 + 0) ∧ (x11 + 0) ≤ (x14 + 1); omega) (by show 0 ≤ (x12 + 0) ∧ (x12 + 0) ≤ x9; omega) (by show 0 ≤ (x13 + 1) ∧ (x13 + 1) ≤ x10; omega) (by show 0 ≤ (x14 + 1) ∧ (x14 + 1) ≤ 576; omega) (hv46_6) (hv46_7) (by omega)
                      · skip
                        unfold m_x11_unlike_J203
                        refine wp_rg (by omega) ?_
                        refine wp_rg (by omega) ?_
                        refine wp_if (fun c48 => ?_) (fun c48 => ?_)
                        · skip
                          unfold m_x11_unlike_J220
                          exact ih46 x8 x9 x10 (x11 + 0) (x12 + 1) (x13 + 0) (x14 + 1) s15 hRs15 (by show x8 = p2; omega) (by show x9 = qr147r ∧ x10 = qr150r; omega) (by show 0 ≤ (x11 + 0) ∧ (x11 + 0) ≤ (x14 + 1); omega) (by show 0 ≤ (x12 + 1) ∧ (x12 + 1) ≤ x9; omega) (by show 0 ≤ (x13 + 0) ∧ (x13 + 0) ≤ x10; omega) (by show 0 ≤ (x14 + 1) ∧ (x14 + 1) ≤ 576; omega) (hv46_6) (hv46_7) (by omega)
                        · skip
                          unfold m_x11_unlike_J220
                          exact ih46 x8 x9 x10 (x11 + 0) (x12 + 1) (x13 + 1) (x14 + 1) s15 hRs15 (by show x8 = p2; omega) (by show x9 = qr147r ∧ x10 = qr150r; omega) (by show 0 ≤ (x11 + 0) ∧ (x11 + 0) ≤ (x14 + 1); omega) (by show 0 ≤ (x12 + 1) ∧ (x12 + 1) ≤ x9; omega) (by show 0 ≤ (x13 + 1) ∧ (x13 + 1) ≤ x10; omega) (by show 0 ≤ (x14 + 1) ∧ (x14 + 1) ≤ 576; omega) (hv46_6) (hv46_7) (by omega)
                · skip
                  unfold m_x11_unlike_J174
                  refine wp_rg (by omega) ?_
                  refine wp_if (fun c49 => ?_) (fun c49 => ?_)
                  · skip
                    unfold m_x11_unlike_J186
                    refine wp_rg (by omega) ?_
                    refine wp_rg (by omega) ?_
                    refine wp_if (fun c50 => ?_) (fun c50 => ?_)
                    · skip
                      unfold m_x11_unlike_J203
                      refine wp_rg (by omega) ?_
                      refine wp_rg (by omega) ?_
                      refine wp_if (fun c51 => ?_) (fun c51 => ?_)
                      · skip
                        unfold m_x11_unlike_J220
                        exact ih46 x8 x9 x10 (x11 + 1) (x12 + 0) (x13 + 0) (x14 + 1) s15 hRs15 (by show x8 = p2; omega) (by show x9 = qr147r ∧ x10 = qr150r; omega) (by show 0 ≤ (x11 + 1) ∧ (x11 + 1) ≤ (x14 + 1); omega) (by show 0 ≤ (x12 + 0) ∧ (x12 + 0) ≤ x9; omega) (by show 0 ≤ (x13 + 0) ∧ (x13 + 0) ≤ x10; omega) (by show 0 ≤ (x14 + 1) ∧ (x14 + 1) ≤ 576; omega) (hv46_6) (hv46_7) (by omega)
                      · skip
                        unfold m_x11_unlike_J220
                        exact ih46 x8 x9 x10 (x11 + 1) (x12 + 0) (x13 + 1) (x14 + 1) s15 hRs15 (by show x8 = p2; omega) (by show x9 = qr147r ∧ x10 = qr150r; omega) (by show 0 ≤ (x11 + 1) ∧ (x11 + 1) ≤ (x14 + 1); omega) (by show 0 ≤ (x12 + 0) ∧ (x12 + 0) ≤ x9; omega) (by show 0 ≤ (x13 + 1) ∧ (x13 + 1) ≤ x10; omega) (by show 0 ≤ (x14 + 1) ∧ (x14 + 1) ≤ 576; omega) (hv46_6) (hv46_7) (by omega)
                    · skip
                      unfold m_x11_unlike_J203
                      refine wp_rg (by omega) ?_
                      refine wp_rg (by omega) ?_
                      refine wp_if (fun c52 => ?_) (fun c52 => ?_)
                      · skip
                        unfold m_x11_unlike_J220
                        exact ih46 x8 x9 x10 (x11 + 1) (x12 + 1) (x13 + 0) (x14 + 1) s15 hRs15 (by show x8 = p2; omega) (by show x9 = qr147r ∧ x10 = qr150r; omega) (by show 0 ≤ (x11 + 1) ∧ (x11 + 1) ≤ (x14 + 1); omega) (by show 0 ≤ (x12 + 1) ∧ (x12 + 1) ≤ x9; omega) (by show 0 ≤ (x13 + 0) ∧ (x13 + 0) ≤ x10; omega) (by show 0 ≤ (x14 + 1) ∧ (x14 + 1) ≤ 576; omega) (hv46_6) (hv46_7) (by omega)
                      · skip
                        unfold m_x11_unlike_J220
                        exact ih46 x8 x9 x10 (x11 + 1) (x12 + 1) (x13 + 1) (x14 + 1) s15 hRs15 (by show x8 = p2; omega) (by show x9 = qr147r ∧ x10 = qr150r; omega) (by show 0 ≤ (x11 + 1) ∧ (x11 + 1) ≤ (x14 + 1); omega) (by show 0 ≤ (x12 + 1) ∧ (x12 + 1) ≤ x9; omega) (by show 0 ≤ (x13 + 1) ∧ (x13 + 1) ≤ x10; omega) (by show 0 ≤ (x14 + 1) ∧ (x14 + 1) ≤ 576; omega) (hv46_6) (hv46_7) (by omega)
                  · skip
                    unfold m_x11_unlike_J186
                    refine wp_rg (by omega) ?_
                    refine wp_rg (by omega) ?_
                    refine wp_if (fun c53 => ?_) (fun c53 => ?_)
                    · skip
                      unfold m_x11_unlike_J203
                      refine wp_rg (by omega) ?_
                      refine wp_rg (by omega) ?_
                      refine wp_if (fun c54 => ?_) (fun c54 => ?_)
                      · skip
                        unfold m_x11_unlike_J220
                        exact ih46 x8 x9 x10 (x11 + 0) (x12 + 0) (x13 + 0) (x14 + 1) s15 hRs15 (by show x8 = p2; omega) (by show x9 = qr147r ∧ x10 = qr150r; omega) (by show 0 ≤ (x11 + 0) ∧ (x11 + 0) ≤ (x14 + 1); omega) (by show 0 ≤ (x12 + 0) ∧ (x12 + 0) ≤ x9; omega) (by show 0 ≤ (x13 + 0) ∧ (x13 + 0) ≤ x10; omega) (by show 0 ≤ (x14 + 1) ∧ (x14 + 1) ≤ 576; omega) (hv46_6) (hv46_7) (by omega)
                      · skip
                        unfold m_x11_unlike_J220
                        exact ih46 x8 x9 x10 (x11 + 0) (x12 + 0) (x13 + 1) (x14 + 1) s15 hRs15 (by show x8 = p2; omega) (by show x9 = qr147r ∧ x10 = qr150r; omega) (by show 0 ≤ (x11 + 0) ∧ (x11 + 0) ≤ (x14 + 1); omega) (by show 0 ≤ (x12 + 0) ∧ (x12 + 0) ≤ x9; omega) (by show 0 ≤ (x13 + 1) ∧ (x13 + 1) ≤ x10; omega) (by show 0 ≤ (x14 + 1) ∧ (x14 + 1) ≤ 576; omega) (hv46_6) (hv46_7) (by omega)
                    · skip
                      unfold m_x11_unlike_J203
                      refine wp_rg (by omega) ?_
                      refine wp_rg (by omega) ?_
                      refine wp_if (fun c55 => ?_) (fun c55 => ?_)
                      · skip
                        unfold m_x11_unlike_J220
                        exact ih46 x8 x9 x10 (x11 + 0) (x12 + 1) (x13 + 0) (x14 + 1) s15 hRs15 (by show x8 = p2; omega) (by show x9 = qr147r ∧ x10 = qr150r; omega) (by show 0 ≤ (x11 + 0) ∧ (x11 + 0) ≤ (x14 + 1); omega) (by show 0 ≤ (x12 + 1) ∧ (x12 + 1) ≤ x9; omega) (by show 0 ≤ (x13 + 0) ∧ (x13 + 0) ≤ x10; omega) (by show 0 ≤ (x14 + 1) ∧ (x14 + 1) ≤ 576; omega) (hv46_6) (hv46_7) (by omega)
                      · skip
                        unfold m_x11_unlike_J220
                        exact ih46 x8 x9 x10 (x11 + 0) (x12 + 1) (x13 + 1) (x14 + 1) s15 hRs15 (by show x8 = p2; omega) (by show x9 = qr147r ∧ x10 = qr150r; omega) (by show 0 ≤ (x11 + 0) ∧ (x11 + 0) ≤ (x14 + 1); omega) (by show 0 ≤ (x12 + 1) ∧ (x12 + 1) ≤ x9; omega) (by show 0 ≤ (x13 + 1) ∧ (x13 + 1) ≤ x10; omega) (by show 0 ≤ (x14 + 1) ∧ (x14 + 1) ≤ 576; omega) (hv46_6) (hv46_7) (by omega)
            · skip
              refine wp_rdIn (by omega) (fun y124 ey124 => ?_)
              have by124 : (-2147483648 : Int) ≤ y124 ∧ y124 ≤ 2147483647 := ey124 ▸ hRs15.2.1 27 _ (by show _ < 288; omega)
              have k124 := hv46_7 x13.toNat (by omega)
              rw [ey124] at k124
              unfold m_x11_unlike_J116
              refine wp_rg (by omega) ?_
              refine wp_rg (by omega) ?_
              refine wp_if (fun c56 => ?_) (fun c56 => ?_)
              · skip
                refine wp_rdIn (by omega) (fun y107 ey107 => ?_)
                have by107 : (-2147483648 : Int) ≤ y107 ∧ y107 ≤ 2147483647 := ey107 ▸ hRs15.2.1 24 _ (by show _ < 288; omega)
                refine wp_rdIn (by omega) (fun y108 ey108 => ?_)
                have by108 : (-2147483648 : Int) ≤ y108 ∧ y108 ≤ 2147483647 := ey108 ▸ hRs15.2.1 28 _ (by show _ < 288; omega)
                refine wp_rg (by omega) ?_
                refine wp_rg (by omega) ?_
                refine wp_if (fun c57 => ?_) (fun c57 => ?_)
                · skip
                  unfold m_x11_unlike_J153
                  refine wp_rg (by omega) ?_
                  refine wp_if (fun c58 => ?_) (fun c58 => ?_)
                  · skip
                    refine wp_rg (by omega) ?_
                    refine wp_rg (by omega) ?_
                    refine wp_if (fun c59 => ?_) (fun c59 => ?_)
                    · skip
                      refine wp_rg (by omega) ?_
                      refine wp_rg (by omega) ?_
                      exact wp_some (hRs15)
                    · skip
                      unfold m_x11_unlike_J174
                      refine wp_rg (by omega) ?_
                      refine wp_if (fun c60 => ?_) (fun c60 => ?_)
                      · skip
                        unfold m_x11_unlike_J186
                        refine wp_rg (by omega) ?_
                        refine wp_rg (by omega) ?_
                        refine wp_if (fun c61 => ?_) (fun c61 => ?_)
                        · skip
                          unfold m_x11_unlike_J203
                          refine wp_rg (by omega) ?_
                          refine wp_rg (by omega) ?_
                          refine wp_if (fun c62 => ?_) (fun c62 => ?_)
                          · skip
                            unfold m_x11_unlike_J220
                            exact ih46 x8 x9 x10 (x11 + 1) (x12 + 0) (x13 + 0) (x14 + 1) s15 hRs15 (by show x8 = p2; omega) (by show x9 = qr147r ∧ x10 = qr150r; omega) (by show 0 ≤ (x11 + 1) ∧ (x11 + 1) ≤ (x14 + 1); omega) (by show 0 ≤ (x12 + 0) ∧ (x12 + 0) ≤ x9; omega) (by show 0 ≤ (x13 + 0) ∧ (x13 + 0) ≤ x10; omega) (by show 0 ≤ (x14 + 1) ∧ (x14 + 1) ≤ 576; omega) (hv46_6) (hv46_7) (by omega)
                          · skip
                            unfold m_x11_unlike_J220
                            exact ih46 x8 x9 x10 (x11 + 1) (x12 + 0) (x13 + 1) (x14 + 1) s15 hRs15 (by show x8 = p2; omega) (by show x9 = qr147r ∧ x10 = qr150r; omega) (by show 0 ≤ (x11 + 1) ∧ (x11 + 1) ≤ (x14 + 1); omega) (by show 0 ≤ (x12 + 0) ∧ (x12 + 0) ≤ x9; omega) (by show 0 ≤ (x13 + 1) ∧ (x13 + 1) ≤ x10; omega) (by show 0 ≤ (x14 + 1) ∧ (x14 + 1) ≤ 576; omega) (hv46_6) (hv46_7) (by omega)
                        · skip
                          unfold m_x11_unlike_J203
                          refine wp_rg (by omega) ?_
                          refine wp_rg (by omega) ?_
                          refine wp_if (fun c63 => ?_) (fun c63 => ?_)
                          · skip
                            unfold m_x11_unlike_J220
                            exact ih46 x8 x9 x10 (x11 + 1) (x12 + 1) (x13 + 0) (x14 + 1) s15 hRs15 (by show x8 = p2; omega) (by show x9 = qr147r ∧ x10 = qr150r; omega) (by show 0 ≤ (x11 + 1) ∧ (x11 + 1) ≤ (x14 + 1); omega) (by show 0 ≤ (x12 + 1) ∧ (x12 + 1) ≤ x9; omega) (by show 0 ≤ (x13 + 0) ∧ (x13 + 0) ≤ x10; omega) (by show 0 ≤ (x14 + 1) ∧ (x14 + 1) ≤ 576; omega) (hv46_6) (hv46_7) (by omega)
                          · skip
                            unfold m_x11_unlike_J220
                            exact ih46 x8 x9 x10 (x11 + 1) (x12 + 1) (x13 + 1) (x14 + 1) s15 hRs15 (by show x8 = p2; omega) (by show x9 = qr147r ∧ x10 = qr150r; omega) (by show 0 ≤ (x11 + 1) ∧ (x11 + 1) ≤ (x14 + 1); omega) (by show 0 ≤ (x12 + 1) ∧ (x12 + 1) ≤ x9; omega) (by show 0 ≤ (x13 + 1) ∧ (x13 + 1) ≤ x10; omega) (by show 0 ≤ (x14 + 1) ∧ (x14 + 1) ≤ 576; omega) (hv46_6) (hv46_7) (by omega)
                      · skip
                        unfold m_x11_unlike_J186
                        refine wp_rg (by omega) ?_
                        refine wp_rg (by omega) ?_
                        refine wp_if (fun c64 => ?_) (fun c64 => ?_)
                        · skip
                          unfold m_x11_unlike_J203
                          refine wp_rg (by omega) ?_
                          refine wp_rg (by omega) ?_
                          refine wp_if (fun c65 => ?_) (fun c65 => ?_)
                          · skip
                            unfold m_x11_unlike_J220
                            exact ih46 x8 x9 x10 (x11 + 0) (x12 + 0) (x13 + 0) (x14 + 1) s15 hRs15 (by show x8 = p2; omega) (by show x9 = qr147r ∧ x10 = qr150r; omega) (by show 0 ≤ (x11 + 0) ∧ (x11 + 0) ≤ (x14 + 1); omega) (by show 0 ≤ (x12 + 0) ∧ (x12 + 0) ≤ x9; omega) (by show 0 ≤ (x13 + 0) ∧ (x13 + 0) ≤ x10; omega) (by show 0 ≤ (x14 + 1) ∧ (x14 + 1) ≤ 576; omega) (hv46_6) (hv46_7) (by omega)
                          · skip
                            unfold m_x11_unlike_J220
                            exact ih46 x8 x9 x10 (x11 + 0) (x12 + 0) (x13 + 1) (x14 + 1) s15 hRs15 (by show x8 = p2; omega) (by show x9 = qr147r ∧ x10 = qr150r; omega) (by show 0 ≤ (x11 + 0) ∧ (x11 + 0) ≤ (x14 + 1); omega) (by show 0 ≤ (x12 + 0) ∧ (x12 + 0) ≤ x9; omega) (by show 0 ≤ (x13 + 1) ∧ (x13 + 1) ≤ x10; omega) (by show 0 ≤ (x14 + 1) ∧ (x14 + 1) ≤ 576; omega) (hv46_6) (hv46_7) (by omega)
                        · skip
                          unfold m_x11_unlike_J203
                          refine wp_rg (by omega) ?_
                          refine wp_rg (by omega) ?_
                          refine wp_if (fun c66 => ?_) (fun c66 => ?_)
                          · skip
                            unfold m_x11_unlike_J220
                            exact ih46 x8 x9 x10 (x11 + 0) (x12 + 1) (x13 + 0) (x14 + 1) s15 hRs15 (by show x8 = p2; omega) (by show x9 = qr147r ∧ x10 = qr150r; omega) (by show 0 ≤ (x11 + 0) ∧ (x11 + 0) ≤ (x14 + 1); omega) (by show 0 ≤ (x12 + 1) ∧ (x12 + 1) ≤ x9; omega) (by show 0 ≤ (x13 + 0) ∧ (x13 + 0) ≤ x10; omega) (by show 0 ≤ (x14 + 1) ∧ (x14 + 1) ≤ 576; omega) (hv46_6) (hv46_7) (by omega)
                          · skip
                            unfold m_x11_unlike_J220
                            exact ih46 x8 x9 x10 (x11 + 0) (x12 + 1) (x13 + 1) (x14 + 1) s15 hRs15 (by show x8 = p2; omega) (by show x9 = qr147r ∧ x10 = qr150r; omega) (by show 0 ≤ (x11 + 0) ∧ (x11 + 0) ≤ (x14 + 1); omega) (by show 0 ≤ (x12 + 1) ∧ (x12 + 1) ≤ x9; omega) (by show 0 ≤ (x13 + 1) ∧ (x13 + 1) ≤ x10; omega) (by show 0 ≤ (x14 + 1) ∧ (x14 + 1) ≤ 576; omega) (hv46_6) (hv46_7) (by omega)
                  · skip
                    unfold m_x11_unlike_J174
                    refine wp_rg (by omega) ?_
                    refine wp_if (fun c67 => ?_) (fun c67 => ?_)
                    · skip
                      unfold m_x11_unlike_J186
                      refine wp_rg (by omega) ?_
                      refine wp_rg (by omega) ?_
                      refine wp_if (fun c68 => ?_) (fun c68 => ?_)
                      · skip
                        unfold m_x11_unlike_J203
                        refine wp_rg (by omega) ?_
                        refine wp_rg (by omega) ?_
                        refine wp_if (fun c69 => ?_) (fun c69 => ?_)
                        · skip
                          unfold m_x11_unlike_J220
                          exact ih46 x8 x9 x10 (x11 + 1) (x12 + 0) (x13 + 0) (x14 + 1) s15 hRs15 (by show x8 = p2; omega) (by show x9 = qr147r ∧ x10 = qr150r; omega) (by show 0 ≤ (x11 + 1) ∧ (x11 + 1) ≤ (x14 + 1); omega) (by show 0 ≤ (x12 + 0) ∧ (x12 + 0) ≤ x9; omega) (by show 0 ≤ (x13 + 0) ∧ (x13 + 0) ≤ x10; omega) (by show 0 ≤ (x14 + 1) ∧ (x14 + 1) ≤ 576; omega) (hv46_6) (hv46_7) (by omega)
                        · skip
                          unfold m_x11_unlike_J220
                          exact ih46 x8 x9 x10 (x11 + 1) (x12 + 0) (x13 + 1) (x14 + 1) s15 hRs15 (by show x8 = p2; omega) (by show x9 = qr147r ∧ x10 = qr150r; omega) (by show 0 ≤ (x11 + 1) ∧ (x11 + 1) ≤ (x14 + 1); omega) (by show 0 ≤ (x12 + 0) ∧ (x12 + 0) ≤ x9; omega) (by show 0 ≤ (x13 + 1) ∧ (x13 + 1) ≤ x10; omega) (by show 0 ≤ (x14 + 1) ∧ (x14 + 1) ≤ 576; omega) (hv46_6) (hv46_7) (by omega)
                      · skip
                        unfold m_x11_unlike_J203
                        refine wp_rg (by omega) ?_
                        refine wp_rg (by omega) ?_
                        refine wp_if (fun c70 => ?_) (fun c70 => ?_)
                        · skip
                          unfold m_x11_unlike_J220
                          exact ih46 x8 x9 x10 (x11 + 1) (x12 + 1) (x13 + 0) (x14 + 1) s15 hRs15 (by show x8 = p2; omega) (by show x9 = qr147r ∧ x10 = qr150r; omega) (by show 0 ≤ (x11 + 1) ∧ (x11 + 1) ≤ (x14 + 1); omega) (by show 0 ≤ (x12 + 1) ∧ (x12 + 1) ≤ x9; omega) (by show 0 ≤ (x13 + 0) ∧ (x13 + 0) ≤ x10; omega) (by show 0 ≤ (x14 + 1) ∧ (x14 + 1) ≤ 576; omega) (hv46_6) (hv46_7) (by omega)
                        · skip
                          unfold m_x11_unlike_J220
                          exact ih46 x8 x9 x10 (x11 + 1) (x12 + 1) (x13 + 1) (x14 + 1) s15 hRs15 (by show x8 = p2; omega) (by show x9 = qr147r ∧ x10 = qr150r; omega) (by show 0 ≤ (x11 + 1) ∧ (x11 + 1) ≤ (x14 + 1); omega) (by show 0 ≤ (x12 + 1) ∧ (x12 + 1) ≤ x9; omega) (by show 0 ≤ (x13 + 1) ∧ (x13 + 1) ≤ x10; omega) (by show 0 ≤ (x14 + 1) ∧ (x14 + 1) ≤ 576; omega) (hv46_6) (hv46_7) (by omega)
                    · skip
                      unfold m_x11_unlike_J186
                      refine wp_rg (by omega) ?_
                      refine wp_rg (by omega) ?_
                      refine wp_if (fun c71 => ?_) (fun c71 => ?_)
                      · skip
                        unfold m_x11_unlike_J203
                        refine wp_rg (by omega) ?_
                        refine wp_rg (by omega) ?_
                        refine wp_if (fun c72 => ?_) (fun c72 => ?_)
                        · skip
                          unfold m_x11_unlike_J220
                          exact ih46 x8 x9 x10 (x11 + 0) (x12 + 0) (x13 + 0) (x14 + 1) s15 hRs15 (by show x8 = p2; omega) (by show x9 = qr147r ∧ x10 = qr150r; omega) (by show 0 ≤ (x11 + 0) ∧ (x11 + 0) ≤ (x14 + 1); omega) (by show 0 ≤ (x12 + 0) ∧ (x12 + 0) ≤ x9; omega) (by show 0 ≤ (x13 + 0) ∧ (x13 + 0) ≤ x10; omega) (by show 0 ≤ (x14 + 1) ∧ (x14 + 1) ≤ 576; omega) (hv46_6) (hv46_7) (by omega)
                        · skip
                          unfold m_x11_unlike_J220
                          exact ih46 x8 x9 x10 (x11 + 0) (x12 + 0) (x13 + 1) (x14 + 1) s15 hRs15 (by show x8 = p2; omega) (by show x9 = qr147r ∧ x10 = qr150r; omega) (by show 0 ≤ (x11 + 0) ∧ (x11 + 0) ≤ (x14 + 1); omega) (by show 0 ≤ (x12 + 0) ∧ (x12 + 0) ≤ x9; omega) (by show 0 ≤ (x13 + 1) ∧ (x13 + 1) ≤ x10; omega) (by show 0 ≤ (x14 + 1) ∧ (x14 + 1) ≤ 576; omega) (hv46_6) (hv46_7) (by omega)
                      · skip
                        unfold m_x11_unlike_J203
                        refine wp_rg (by omega) ?_
                        refine wp_rg (by omega) ?_
                        refine wp_if (fun c73 => ?_) (fun c73 => ?_)
                        · skip
                          unfold m_x11_unlike_J220
                          exact ih46 x8 x9 x10 (x11 + 0) (x12 + 1) (x13 + 0) (x14 + 1) s15 hRs15 (by show x8 = p2; omega) (by show x9 = qr147r ∧ x10 = qr150r; omega) (by show 0 ≤ (x11 + 0) ∧ (x11 + 0) ≤ (x14 + 1); omega) (by show 0 ≤ (x12 + 1) ∧ (x12 + 1) ≤ x9; omega) (by show 0 ≤ (x13 + 0) ∧ (x13 + 0) ≤ x10; omega) (by show 0 ≤ (x14 + 1) ∧ (x14 + 1) ≤ 576; omega) (hv46_6) (hv46_7) (by omega)
                        · skip
                          unfold m_x11_unlike_J220
                          exact ih46 x8 x9 x10 (x11 + 0) (x12 + 1) (x13 + 1) (x14 + 1) s15 hRs15 (by show x8 = p2; omega) (by show x9 = qr147r ∧ x10 = qr150r; omega) (by show 0 ≤ (x11 + 0) ∧ (x11 + 0) ≤ (x14 + 1); omega) (by show 0 ≤ (x12 + 1) ∧ (x12 + 1) ≤ x9; omega) (by show 0 ≤ (x13 + 1) ∧ (x13 + 1) ≤ x10; omega) (by show 0 ≤ (x14 + 1) ∧ (x14 + 1) ≤ 576; omega) (hv46_6) (hv46_7) (by omega)
                · skip
                  unfold m_x11_unlike_J152
                  unfold m_x11_unlike_J153
                  refine wp_rg (by omega) ?_
                  refine wp_if (fun c74 => ?_) (fun c74 => ?_)
                  · skip
                    refine wp_rg (by omega) ?_
                    refine wp_rg (by omega) ?_
                    refine wp_if (fun c75 => ?_) (fun c75 => ?_)
                    · skip
                      refine wp_rg (by omega) ?_
                      refine wp_rg (by omega) ?_
                      exact wp_some (hRs15)
                    · skip
                      unfold m_x11_unlike_J174
                      refine wp_rg (by omega) ?_
                      refine wp_if (fun c76 => ?_) (fun c76 => ?_)
                      · skip
                        unfold m_x11_unlike_J186
                        refine wp_rg (by omega) ?_
                        refine wp_rg (by omega) ?_
                        refine wp_if (fun c77 => ?_) (fun c77 => ?_)
                        · skip
                          unfold m_x11_unlike_J203
                          refine wp_rg (by omega) ?_
                          refine wp_rg (by omega) ?_
                          refine wp_if (fun c78 => ?_) (fun c78 => ?_)
                          · skip
                            unfold m_x11_unlike_J220
                            exact ih46 x8 x9 x10 (x11 + 1) (x12 + 0) (x13 + 0) (x14 + 1) s15 hRs15 (by show x8 = p2; omega) (by show x9 = qr147r ∧ x10 = qr150r; omega) (by show 0 ≤ (x11 + 1) ∧ (x11 + 1) ≤ (x14 + 1); omega) (by show 0 ≤ (x12 + 0) ∧ (x12 + 0) ≤ x9; omega) (by show 0 ≤ (x13 + 0) ∧ (x13 + 0) ≤ x10; omega) (by show 0 ≤ (x14 + 1) ∧ (x14 + 1) ≤ 576; omega) (hv46_6) (hv46_7) (by omega)
                          · skip
                            unfold m_x11_unlike_J220
                            exact ih46 x8 x9 x10 (x11 + 1) (x12 + 0) (x13 + 1) (x14 + 1) s15 hRs15 (by show x8 = p2; omega) (by show x9 = qr147r ∧ x10 = qr150r; omega) (by show 0 ≤ (x11 + 1) ∧ (x11 + 1) ≤ (x14 + 1); omega) (by show 0 ≤ (x12 + 0) ∧ (x12 + 0) ≤ x9; omega) (by show 0 ≤ (x13 + 1) ∧ (x13 + 1) ≤ x10; omega) (by show 0 ≤ (x14 + 1) ∧ (x14 + 1) ≤ 576; omega) (hv46_6) (hv46_7) (by omega)
                        · skip
                          unfold m_x11_unlike_J203
                          refine wp_rg (by omega) ?_
                          refine wp_rg (by omega) ?_
                          refine wp_if (fun c79 => ?_) (fun c79 => ?_)
                          · skip
                            unfold m_x11_unlike_J220
                            exact ih46 x8 x9 x10 (x11 + 1) (x12 + 1) (x13 + 0) (x14 + 1) s15 hRs15 (by show x8 = p2; omega) (by show x9 = qr147r ∧ x10 = qr150r; omega) (by show 0 ≤ (x11 + 1) ∧ (x11 + 1) ≤ (x14 + 1); omega) (by show 0 ≤ (x12 + 1) ∧ (x12 + 1) ≤ x9; omega) (by show 0 ≤ (x13 + 0) ∧ (x13 + 0) ≤ x10; omega) (by show 0 ≤ (x14 + 1) ∧ (x14 + 1) ≤ 576; omega) (hv46_6) (hv46_7) (by omega)
                          · skip
                            unfold m_x11_unlike_J220
                            exact ih46 x8 x9 x10 (x11 + 1) (x12 + 1) (x13 + 1) (x14 + 1) s15 hRs15 (by show x8 = p2; omega) (by show x9 = qr147r ∧ x10 = qr150r; omega) (by show 0 ≤ (x11 + 1) ∧ (x11 + 1) ≤ (x14 + 1); omega) (by show 0 ≤ (x12 + 1) ∧ (x12 + 1) ≤ x9; omega) (by show 0 ≤ (x13 + 1) ∧ (x13 + 1) ≤ x10; omega) (by show 0 ≤ (x14 + 1) ∧ (x14 + 1) ≤ 576; omega) (hv46_6) (hv46_7) (by omega)
                      · skip
                        unfold m_x11_unlike_J186
                        refine wp_rg (by omega) ?_
                        refine wp_rg (by omega) ?_
                        refine wp_if (fun c80 => ?_) (fun c80 => ?_)
                        · skip
                          unfold m_x11_unlike_J203
                          refine wp_rg (by omega) ?_
                          refine wp_rg (by omega) ?_
                          refine wp_if (fun c81 => ?_) (fun c81 => ?_)
                          · skip
                            unfold m_x11_unlike_J220
                            exact ih46 x8 x9 x10 (x11 + 0) (x12 + 0) (x13 + 0) (x14 + 1) s15 hRs15 (by show x8 = p2; omega) (by show x9 = qr147r ∧ x10 = qr150r; omega) (by show 0 ≤ (x11 + 0) ∧ (x11 + 0) ≤ (x14 + 1); omega) (by show 0 ≤ (x12 + 0) ∧ (x12 + 0) ≤ x9; omega) (by show 0 ≤ (x13 + 0) ∧ (x13 + 0) ≤ x10; omega) (by show 0 ≤ (x14 + 1) ∧ (x14 + 1) ≤ 576; omega) (hv46_6) (hv46_7) (by omega)
                          · skip
                            unfold m_x11_unlike_J220
                            exact ih46 x8 x9 x10 (x11 + 0) (x12 + 0) (x13 + 1) (x14 + 1) s15 hRs15 (by show x8 = p2; omega) (by show x9 = qr147r ∧ x10 = qr150r; omega) (by show 0 ≤ (x11 + 0) ∧ (x11 + 0) ≤ (x14 + 1); omega) (by show 0 ≤ (x12 + 0) ∧ (x12 + 0) ≤ x9; omega) (by show 0 ≤ (x13 + 1) ∧ (x13 + 1) ≤ x10; omega) (by show 0 ≤ (x14 + 1) ∧ (x14 + 1) ≤ 576; omega) (hv46_6) (hv46_7) (by omega)
                        · skip
                          unfold m_x11_unlike_J203
                          refine wp_rg (by omega) ?_
                          refine wp_rg (by omega) ?_
                          refine wp_if (fun c82 => ?_) (fun c82 => ?_)
                          · skip
                            unfold m_x11_unlike_J220
                            exact ih46 x8 x9 x10 (x11 + 0) (x12 + 1) (x13 + 0) (x14 + 1) s15 hRs15 (by show x8 = p2; omega) (by show x9 = qr147r ∧ x10 = qr150r; omega) (by show 0 ≤ (x11 + 0) ∧ (x11 + 0) ≤ (x14 + 1); omega) (by show 0 ≤ (x12 + 1) ∧ (x12 + 1) ≤ x9; omega) (by show 0 ≤ (x13 + 0) ∧ (x13 + 0) ≤ x10; omega) (by show 0 ≤ (x14 + 1) ∧ (x14 + 1) ≤ 576; omega) (hv46_6) (hv46_7) (by omega)
                          · skip
                            unfold m_x11_unlike_J220
                            exact ih46 x8 x9 x10 (x11 + 0) (x12 + 1) (x13 + 1) (x14 + 1) s15 hRs15 (by show x8 = p2; omega) (by show x9 = qr147r ∧ x10 = qr150r; omega) (by show 0 ≤ (x11 + 0) ∧ (x11 + 0) ≤ (x14 + 1); omega) (by show 0 ≤ (x12 + 1) ∧ (x12 + 1) ≤ x9; omega) (by show 0 ≤ (x13 + 1) ∧ (x13 + 1) ≤ x10; omega) (by show 0 ≤ (x14 + 1) ∧ (x14 + 1) ≤ 576; omega) (hv46_6) (hv46_7) (by omega)
                  · skip
                    unfold m_x11_unlike_J174
                    refine wp_rg (by omega) ?_
                    refine wp_if (fun c83 => ?_) (fun c83 => ?_)
                    · skip
                      unfold m_x11_unlike_J186
                      refine wp_rg (by omega) ?_
                      refine wp_rg (by omega) ?_
                      refine wp_if (fun c84 => ?_) (fun c84 => ?_)
                      · skip
                        unfold m_x11_unlike_J203
                        refine wp_rg (by omega) ?_
                        refine wp_rg (by omega) ?_
                        refine wp_if (fun c85 => ?_) (fun c85 => ?_)
                        · skip
                          unfold m_x11_unlike_J220
                          exact ih46 x8 x9 x10 (x11 + 1) (x12 + 0) (x13 + 0) (x14 + 1) s15 hRs15 (by show x8 = p2; omega) (by show x9 = qr147r ∧ x10 = qr150r; omega) (by show 0 ≤ (x11 + 1) ∧ (x11 + 1) ≤ (x14 + 1); omega) (by show 0 ≤ (x12 + 0) ∧ (x12 + 0) ≤ x9; omega) (by show 0 ≤ (x13 + 0) ∧ (x13 + 0) ≤ x10; omega) (by show 0 ≤ (x14 + 1) ∧ (x14 + 1) ≤ 576; omega) (hv46_6) (hv46_7) (by omega)
                        · skip
                          unfold m_x11_unlike_J220
                          exact ih46 x8 x9 x10 (x11 + 1) (x12 + 0) (x13 + 1) (x14 + 1) s15 hRs15 (by show x8 = p2; omega) (by show x9 = qr147r ∧ x10 = qr150r; omega) (by show 0 ≤ (x11 + 1) ∧ (x11 + 1) ≤ (x14 + 1); omega) (by show 0 ≤ (x12 + 0) ∧ (x12 + 0) ≤ x9; omega) (by show 0 ≤ (x13 + 1) ∧ (x13 + 1) ≤ x10; omega) (by show 0 ≤ (x14 + 1) ∧ (x14 + 1) ≤ 576; omega) (hv46_6) (hv46_7) (by omega)
                      · skip
                        unfold m_x11_unlike_J203
                        refine wp_rg (by omega) ?_
                        refine wp_rg (by omega) ?_
                        refine wp_if (fun c86 => ?_) (fun c86 => ?_)
                        · skip
                          unfold m_x11_unlike_J220
                          exact ih46 x8 x9 x10 (x11 + 1) (x12 + 1) (x13 + 0) (x14 + 1) s15 hRs15 (by show x8 = p2; omega) (by show x9 = qr147r ∧ x10 = qr150r; omega) (by show 0 ≤ (x11 + 1) ∧ (x11 + 1) ≤ (x14 + 1); omega) (by show 0 ≤ (x12 + 1) ∧ (x12 + 1) ≤ x9; omega) (by show 0 ≤ (x13 + 0) ∧ (x13 + 0) ≤ x10; omega) (by show 0 ≤ (x14 + 1) ∧ (x14 + 1) ≤ 576; omega) (hv46_6) (hv46_7) (by omega)
                        · skip
                          unfold m_x11_unlike_J220
                          exact ih46 x8 x9 x10 (x11 + 1) (x12 + 1) (x13 + 1) (x14 + 1) s15 hRs15 (by show x8 = p2; omega) (by show x9 = qr147r ∧ x10 = qr150r; omega) (by show 0 ≤ (x11 + 1) ∧ (x11 + 1) ≤ (x14 + 1); omega) (by show 0 ≤ (x12 + 1) ∧ (x12 + 1) ≤ x9; omega) (by show 0 ≤ (x13 + 1) ∧ (x13 + 1) ≤ x10; omega) (by show 0 ≤ (x14 + 1) ∧ (x14 + 1) ≤ 576; omega) (hv46_6) (hv46_7) (by omega)
                    · skip
                      unfold m_x11_unlike_J186
                      refine wp_rg (by omega) ?_
                      refine wp_rg (by omega) ?_
                      refine wp_if (fun c87 => ?_) (fun c87 => ?_)
                      · skip
                        unfold m_x11_unlike_J203
                        refine wp_rg (by omega) ?_
                        refine wp_rg (by omega) ?_
                        refine wp_if (fun c88 => ?_) (fun c88 => ?_)
                        · skip
                          unfold m_x11_unlike_J220
                          exact ih46 x8 x9 x10 (x11 + 0) (x12 + 0) (x13 + 0) (x14 + 1) s15 hRs15 (by show x8 = p2; omega) (by show x9 = qr147r ∧ x10 = qr150r; omega) (by show 0 ≤ (x11 + 0) ∧ (x11 + 0) ≤ (x14 + 1); omega) (by show 0 ≤ (x12 + 0) ∧ (x12 + 0) ≤ x9; omega) (by show 0 ≤ (x13 + 0) ∧ (x13 + 0) ≤ x10; omega) (by show 0 ≤ (x14 + 1) ∧ (x14 + 1) ≤ 576; omega) (hv46_6) (hv46_7) (by omega)
                        · skip
                          unfold m_x11_unlike_J220
                          exact ih46 x8 x9 x10 (x11 + 0) (x12 + 0) (x13 + 1) (x14 + 1) s15 hRs15 (by show x8 = p2; omega) (by show x9 = qr147r ∧ x10 = qr150r; omega) (by show 0 ≤ (x11 + 0) ∧ (x11 + 0) ≤ (x14 + 1); omega) (by show 0 ≤ (x12 + 0) ∧ (x12 + 0) ≤ x9; omega) (by show 0 ≤ (x13 + 1) ∧ (x13 + 1) ≤ x10; omega) (by show 0 ≤ (x14 + 1) ∧ (x14 + 1) ≤ 576; omega) (hv46_6) (hv46_7) (by omega)
                      · skip
                        unfold m_x11_unlike_J203
                        refine wp_rg (by omega) ?_
                        refine wp_rg (by omega) ?_
                        refine wp_if (fun c89 => ?_) (fun c89 => ?_)
                        · skip
                          unfold m_x11_unlike_J220
                          exact ih46 x8 x9 x10 (x11 + 0) (x12 + 1) (x13 + 0) (x14 + 1) s15 hRs15 (by show x8 = p2; omega) (by show x9 = qr147r ∧ x10 = qr150r; omega) (by show 0 ≤ (x11 + 0) ∧ (x11 + 0) ≤ (x14 + 1); omega) (by show 0 ≤ (x12 + 1) ∧ (x12 + 1) ≤ x9; omega) (by show 0 ≤ (x13 + 0) ∧ (x13 + 0) ≤ x10; omega) (by show 0 ≤ (x14 + 1) ∧ (x14 + 1) ≤ 576; omega) (hv46_6) (hv46_7) (by omega)
                        · skip
                          unfold m_x11_unlike_J220
                          exact ih46 x8 x9 x10 (x11 + 0) (x12 + 1) (x13 + 1) (x14 + 1) s15 hRs15 (by show x8 = p2; omega) (by show x9 = qr147r ∧ x10 = qr150r; omega) (by show 0 ≤ (x11 + 0) ∧ (x11 + 0) ≤ (x14 + 1); omega) (by show 0 ≤ (x12 + 1) ∧ (x12 + 1) ≤ x9; omega) (by show 0 ≤ (x13 + 1) ∧ (x13 + 1) ≤ x10; omega) (by show 0 ≤ (x14 + 1) ∧ (x14 + 1) ≤ 576; omega) (hv46_6) (hv46_7) (by omega)
              · skip
                unfold m_x11_unlike_J152
                unfold m_x11_unlike_J153
                refine wp_rg (by omega) ?_
                refine wp_if (fun c90 => ?_) (fun c90 => ?_)
                · skip
                  refine wp_rg (by omega) ?_
                  refine wp_rg (by omega) ?_
                  refine wp_if (fun c91 => ?_) (fun c91 => ?_)
                  · skip
                    refine wp_rg (by omega) ?_
                    refine wp_rg (by omega) ?_
                    exact wp_some (hRs15)
                  · skip
                    unfold m_x11_unlike_J174
                    refine wp_rg (by omega) ?_
                    refine wp_if (fun c92 => ?_) (fun c92 => ?_)
                    · skip
                      unfold m_x11_unlike_J186
                      refine wp_rg (by omega) ?_
                      refine wp_rg (by omega) ?_
                      refine wp_if (fun c93 => ?_) (fun c93 => ?_)
                      · skip
                        unfold m_x11_unlike_J203
                        refine wp_rg (by omega) ?_
                        refine wp_rg (by omega) ?_
                        refine wp_if (fun c94 => ?_) (fun c94 => ?_)
                        · skip
                          unfold m_x11_unlike_J220
                          exact ih46 x8 x9 x10 (x11 + 1) (x12 + 0) (x13 + 0) (x14 + 1) s15 hRs15 (by show x8 = p2; omega) (by show x9 = qr147r ∧ x10 = qr150r; omega) (by show 0 ≤ (x11 + 1) ∧ (x11 + 1) ≤ (x14 + 1); omega) (by show 0 ≤ (x12 + 0) ∧ (x12 + 0) ≤ x9; omega) (by show 0 ≤ (x13 + 0) ∧ (x13 + 0) ≤ x10; omega) (by show 0 ≤ (x14 + 1) ∧ (x14 + 1) ≤ 576; omega) (hv46_6) (hv46_7) (by omega)
                        · skip
                          unfold m_x11_unlike_J220
                          exact ih46 x8 x9 x10 (x11 + 1) (x12 + 0) (x13 + 1) (x14 + 1) s15 hRs15 (by show x8 = p2; omega) (by show x9 = qr147r ∧ x10 = qr150r; omega) (by show 0 ≤ (x11 + 1) ∧ (x11 + 1) ≤ (x14 + 1); omega) (by show 0 ≤ (x12 + 0) ∧ (x12 + 0) ≤ x9; omega) (by show 0 ≤ (x13 + 1) ∧ (x13 + 1) ≤ x10; omega) (by show 0 ≤ (x14 + 1) ∧ (x14 + 1) ≤ 576; omega) (hv46_6) (hv46_7) (by omega)
                      · skip
                        unfold m_x11_unlike_J203
                        refine wp_rg (by omega) ?_
                        refine wp_rg (by omega) ?_
                        refine wp_if (fun c95 => ?_) (fun c95 => ?_)
                        · skip
                          unfold m_x11_unlike_J220
                          exact ih46 x8 x9 x10 (x11 + 1) (x12 + 1) (x13 + 0) (x14 + 1) s15 hRs15 (by show x8 = p2; omega) (by show x9 = qr147r ∧ x10 = qr150r; omega) (by show 0 ≤ (x11 + 1) ∧ (x11 + 1) ≤ (x14 + 1); omega) (by show 0 ≤ (x12 + 1) ∧ (x12 + 1) ≤ x9; omega) (by show 0 ≤ (x13 + 0) ∧ (x13 + 0) ≤ x10; omega) (by show 0 ≤ (x14 + 1) ∧ (x14 + 1) ≤ 576; omega) (hv46_6) (hv46_7) (by omega)
                        · skip
                          unfold m_x11_unlike_J220
                          exact ih46 x8 x9 x10 (x11 + 1) (x12 + 1) (x13 + 1) (x14 + 1) s15 hRs15 (by show x8 = p2; omega) (by show x9 = qr147r ∧ x10 = qr150r; omega) (by show 0 ≤ (x11 + 1) ∧ (x11 + 1) ≤ (x14 + 1); omega) (by show 0 ≤ (x12 + 1) ∧ (x12 + 1) ≤ x9; omega) (by show 0 ≤ (x13 + 1) ∧ (x13 + 1) ≤ x10; omega) (by show 0 ≤ (x14 + 1) ∧ (x14 + 1) ≤ 576; omega) (hv46_6) (hv46_7) (by omega)
                    · skip
                      unfold m_x11_unlike_J186
                      refine wp_rg (by omega) ?_
                      refine wp_rg (by omega) ?_
                      refine wp_if (fun c96 => ?_) (fun c96 => ?_)
                      · skip
                        unfold m_x11_unlike_J203
                        refine wp_rg (by omega) ?_
                        refine wp_rg (by omega) ?_
                        refine wp_if (fun c97 => ?_) (fun c97 => ?_)
                        · skip
                          unfold m_x11_unlike_J220
                          exact ih46 x8 x9 x10 (x11 + 0) (x12 + 0) (x13 + 0) (x14 + 1) s15 hRs15 (by show x8 = p2; omega) (by show x9 = qr147r ∧ x10 = qr150r; omega) (by show 0 ≤ (x11 + 0) ∧ (x11 + 0) ≤ (x14 + 1); omega) (by show 0 ≤ (x12 + 0) ∧ (x12 + 0) ≤ x9; omega) (by show 0 ≤ (x13 + 0) ∧ (x13 + 0) ≤ x10; omega) (by show 0 ≤ (x14 + 1) ∧ (x14 + 1) ≤ 576; omega) (hv46_6) (hv46_7) (by omega)
                        · skip
                          unfold m_x11_unlike_J220
                          exact ih46 x8 x9 x10 (x11 + 0) (x12 + 0) (x13 + 1) (x14 + 1) s15 hRs15 (by show x8 = p2; omega) (by show x9 = qr147r ∧ x10 = qr150r; omega) (by show 0 ≤ (x11 + 0) ∧ (x11 + 0) ≤ (x14 + 1); omega) (by show 0 ≤ (x12 + 0) ∧ (x12 + 0) ≤ x9; omega) (by show 0 ≤ (x13 + 1) ∧ (x13 + 1) ≤ x10; omega) (by show 0 ≤ (x14 + 1) ∧ (x14 + 1) ≤ 576; omega) (hv46_6) (hv46_7) (by omega)
                      · skip
                        unfold m_x11_unlike_J203
                        refine wp_rg (by omega) ?_
                        refine wp_rg (by omega) ?_
                        refine wp_if (fun c98 => ?_) (fun c98 => ?_)
                        · skip
                          unfold m_x11_unlike_J220
                          exact ih46 x8 x9 x10 (x11 + 0) (x12 + 1) (x13 + 0) (x14 + 1) s15 hRs15 (by show x8 = p2; omega) (by show x9 = qr147r ∧ x10 = qr150r; omega) (by show 0 ≤ (x11 + 0) ∧ (x11 + 0) ≤ (x14 + 1); omega) (by show 0 ≤ (x12 + 1) ∧ (x12 + 1) ≤ x9; omega) (by show 0 ≤ (x13 + 0) ∧ (x13 + 0) ≤ x10; omega) (by show 0 ≤ (x14 + 1) ∧ (x14 + 1) ≤ 576; omega) (hv46_6) (hv46_7) (by omega)
                        · skip
                          unfold m_x11_unlike_J220
                          exact ih46 x8 x9 x10 (x11 + 0) (x12 + 1) (x13 + 1) (x14 + 1) s15 hRs15 (by show x8 = p2; omega) (by show x9 = qr147r ∧ x10 = qr150r; omega) (by show 0 ≤ (x11 + 0) ∧ (x11 + 0) ≤ (x14 + 1); omega) (by show 0 ≤ (x12 + 1) ∧ (x12 + 1) ≤ x9; omega) (by show 0 ≤ (x13 + 1) ∧ (x13 + 1) ≤ x10; omega) (by show 0 ≤ (x14 + 1) ∧ (x14 + 1) ≤ 576; omega) (hv46_6) (hv46_7) (by omega)
                · skip
                  unfold m_x11_unlike_J174
                  refine wp_rg (by omega) ?_
                  refine wp_if (fun c99 => ?_) (fun c99 => ?_)
                  · skip
                    unfold m_x11_unlike_J186
                    refine wp_rg (by omega) ?_
                    refine wp_rg (by omega) ?_
                    refine wp_if (fun c100 => ?_) (fun c100 => ?_)
                    · skip
                      unfold m_x11_unlike_J203
                      refine wp_rg (by omega) ?_
                      refine wp_rg (by omega) ?_
                      refine wp_if (fun c101 => ?_) (fun c101 => ?_)
                      · skip
                        unfold m_x11_unlike_J220
                        exact ih46 x8 x9 x10 (x11 + 1) (x12 + 0) (x13 + 0) (x14 + 1) s15 hRs15 (by show x8 = p2; omega) (by show x9 = qr147r ∧ x10 = qr150r; omega) (by show 0 ≤ (x11 + 1) ∧ (x11 + 1) ≤ (x14 + 1); omega) (by show 0 ≤ (x12 + 0) ∧ (x12 + 0) ≤ x9; omega) (by show 0 ≤ (x13 + 0) ∧ (x13 + 0) ≤ x10; omega) (by show 0 ≤ (x14 + 1) ∧ (x14 + 1) ≤ 576; omega) (hv46_6) (hv46_7) (by omega)
                      · skip
                        unfold m_x11_unlike_J220
                        exact ih46 x8 x9 x10 (x11 + 1) (x12 + 0) (x13 + 1) (x14 + 1) s15 hRs15 (by show x8 = p2; omega) (by show x9 = qr147r ∧ x10 = qr150r; omega) (by show 0 ≤ (x11 + 1) ∧ (x11 + 1) ≤ (x14 + 1); omega) (by show 0 ≤ (x12 + 0) ∧ (x12 + 0) ≤ x9; omega) (by show 0 ≤ (x13 + 1) ∧ (x13 + 1) ≤ x10; omega) (by show 0 ≤ (x14 + 1) ∧ (x14 + 1) ≤ 576; omega) (hv46_6) (hv46_7) (by omega)
                    · skip
                      unfold m_x11_unlike_J203
                      refine wp_rg (by omega) ?_
                      refine wp_rg (by omega) ?_
                      refine wp_if (fun c102 => ?_) (fun c102 => ?_)
                      · skip
                        unfold m_x11_unlike_J220
                        exact ih46 x8 x9 x10 (x11 + 1) (x12 + 1) (x13 + 0) (x14 + 1) s15 hRs15 (by show x8 = p2; omega) (by show x9 = qr147r ∧ x10 = qr150r; omega) (by show 0 ≤ (x11 + 1) ∧ (x11 + 1) ≤ (x14 + 1); omega) (by show 0 ≤ (x12 + 1) ∧ (x12 + 1) ≤ x9; omega) (by show 0 ≤ (x13 + 0) ∧ (x13 + 0) ≤ x10; omega) (by show 0 ≤ (x14 + 1) ∧ (x14 + 1) ≤ 576; omega) (hv46_6) (hv46_7) (by omega)
                      · skip
                        unfold m_x11_unlike_J220
                        exact ih46 x8 x9 x10 (x11 + 1) (x12 + 1) (x13 + 1) (x14 + 1) s15 hRs15 (by show x8 = p2; omega) (by show x9 = qr147r ∧ x10 = qr150r; omega) (by show 0 ≤ (x11 + 1) ∧ (x11 + 1) ≤ (x14 + 1); omega) (by show 0 ≤ (x12 + 1) ∧ (x12 + 1) ≤ x9; omega) (by show 0 ≤ (x13 + 1) ∧ (x13 + 1) ≤ x10; omega) (by show 0 ≤ (x14 + 1) ∧ (x14 + 1) ≤ 576; omega) (hv46_6) (hv46_7) (by omega)
                  · skip
                    unfold m_x11_unlike_J186
                    refine wp_rg (by omega) ?_
                    refine wp_rg (by omega) ?_
                    refine wp_if (fun c103 => ?_) (fun c103 => ?_)
                    · skip
                      unfold m_x11_unlike_J203
                      refine wp_rg (by omega) ?_
                      refine wp_rg (by omega) ?_
                      refine wp_if (fun c104 => ?_) (fun c104 => ?_)
                      · skip
                        unfold m_x11_unlike_J220
                        exact ih46 x8 x9 x10 (x11 + 0) (x12 + 0) (x13 + 0) (x14 + 1) s15 hRs15 (by show x8 = p2; omega) (by show x9 = qr147r ∧ x10 = qr150r; omega) (by show 0 ≤ (x11 + 0) ∧ (x11 + 0) ≤ (x14 + 1); omega) (by show 0 ≤ (x12 + 0) ∧ (x12 + 0) ≤ x9; omega) (by show 0 ≤ (x13 + 0) ∧ (x13 + 0) ≤ x10; omega) (by show 0 ≤ (x14 + 1) ∧ (x14 + 1) ≤ 576; omega) (hv46_6) (hv46_7) (by omega)
                      · skip
                        unfold m_x11_unlike_J220
                        exact ih46 x8 x9 x10 (x11 + 0) (x12 + 0) (x13 + 1) (x14 + 1) s15 hRs15 (by show x8 = p2; omega) (by show x9 = qr147r ∧ x10 = qr150r; omega) (by show 0 ≤ (x11 + 0) ∧ (x11 + 0) ≤ (x14 + 1); omega) (by show 0 ≤ (x12 + 0) ∧ (x12 + 0) ≤ x9; omega) (by show 0 ≤ (x13 + 1) ∧ (x13 + 1) ≤ x10; omega) (by show 0 ≤ (x14 + 1) ∧ (x14 + 1) ≤ 576; omega) (hv46_6) (hv46_7) (by omega)
                    · skip
                      unfold m_x11_unlike_J203
                      refine wp_rg (by omega) ?_
                      refine wp_rg (by omega) ?_
                      refine wp_if (fun c105 => ?_) (fun c105 => ?_)
                      · skip
                        unfold m_x11_unlike_J220
                        exact ih46 x8 x9 x10 (x11 + 0) (x12 + 1) (x13 + 0) (x14 + 1) s15 hRs15 (by show x8 = p2; omega) (by show x9 = qr147r ∧ x10 = qr150r; omega) (by show 0 ≤ (x11 + 0) ∧ (x11 + 0) ≤ (x14 + 1); omega) (by show 0 ≤ (x12 + 1) ∧ (x12 + 1) ≤ x9; omega) (by show 0 ≤ (x13 + 0) ∧ (x13 + 0) ≤ x10; omega) (by show 0 ≤ (x14 + 1) ∧ (x14 + 1) ≤ 576; omega) (hv46_6) (hv46_7) (by omega)
                      · skip
                        unfold m_x11_unlike_J220
                        exact ih46 x8 x9 x10 (x11 + 0) (x12 + 1) (x13 + 1) (x14 + 1) s15 hRs15 (by show x8 = p2; omega) (by show x9 = qr147r ∧ x10 = qr150r; omega) (by show 0 ≤ (x11 + 0) ∧ (x11 + 0) ≤ (x14 + 1); omega) (by show 0 ≤ (x12 + 1) ∧ (x12 + 1) ≤ x9; omega) (by show 0 ≤ (x13 + 1) ∧ (x13 + 1) ≤ x10; omega) (by show 0 ≤ (x14 + 1) ∧ (x14 + 1) ≤ 576; omega) (hv46_6) (hv46_7) (by omega)
          · skip
            refine wp_rdIn (by omega) (fun y136 ey136 => ?_)
            have by136 : (-2147483648 : Int) ≤ y136 ∧ y136 ≤ 2147483647 := ey136 ▸ hRs15.2.1 23 _ (by show _ < 288; omega)
            have k136 := hv46_6 x12.toNat (by omega)
            rw [ey136] at k136
            unfold m_x11_unlike_J91
            refine wp_rg (by omega) ?_
            refine wp_rg (by omega) ?_
            refine wp_if (fun c106 => ?_) (fun c106 => ?_)
            · skip
              unfold m_x11_unlike_J116
              refine wp_rg (by omega) ?_
              refine wp_rg (by omega) ?_
              refine wp_if (fun c107 => ?_) (fun c107 => ?_)
              · skip
                refine wp_rdIn (by omega) (fun y107 ey107 => ?_)
                have by107 : (-2147483648 : Int) ≤ y107 ∧ y107 ≤ 2147483647 := ey107 ▸ hRs15.2.1 24 _ (by show _ < 288; omega)
                refine wp_rdIn (by omega) (fun y108 ey108 => ?_)
                have by108 : (-2147483648 : Int) ≤ y108 ∧ y108 ≤ 2147483647 := ey108 ▸ hRs15.2.1 28 _ (by show _ < 288; omega)
                refine wp_rg (by omega) ?_
                refine wp_rg (by omega) ?_
                refine wp_if (fun c108 => ?_) (fun c108 => ?_)
                · skip
                  unfold m_x11_unlike_J153
                  refine wp_rg (by omega) ?_
                  refine wp_if (fun c109 => ?_) (fun c109 => ?_)
                  · skip
                    refine wp_rg (by omega) ?_
                    refine wp_rg (by omega) ?_
                    refine wp_if (fun c110 => ?_) (fun c110 => ?_)
                    · skip
                      refine wp_rg (by omega) ?_
                      refine wp_rg (by omega) ?_
                      exact wp_some (hRs15)
                    · skip
                      unfold m_x11_unlike_J174
                      refine wp_rg (by omega) ?_
                      refine wp_if (fun c111 => ?_) (fun c111 => ?_)
                      · skip
                        unfold m_x11_unlike_J186
                        refine wp_rg (by omega) ?_
                        refine wp_rg (by omega) ?_
                        refine wp_if (fun c112 => ?_) (fun c112 => ?_)
                        · skip
                          unfold m_x11_unlike_J203
                          refine wp_rg (by omega) ?_
                          refine wp_rg (by omega) ?_
                          refine wp_if (fun c113 => ?_) (fun c113 => ?_)
                          · skip
                            unfold m_x11_unlike_J220
                            exact ih46 x8 x9 x10 (x11 + 1) (x12 + 0) (x13 + 0) (x14 + 1) s15 hRs15 (by show x8 = p2; omega) (by show x9 = qr147r ∧ x10 = qr150r; omega) (by show 0 ≤ (x11 + 1) ∧ (x11 + 1) ≤ (x14 + 1); omega) (by show 0 ≤ (x12 + 0) ∧ (x12 + 0) ≤ x9; omega) (by show 0 ≤ (x13 + 0) ∧ (x13 + 0) ≤ x10; omega) (by show 0 ≤ (x14 + 1) ∧ (x14 + 1) ≤ 576; omega) (hv46_6) (hv46_7) (by omega)
                          · skip
                            unfold m_x11_unlike_J220
                            exact ih46 x8 x9 x10 (x11 + 1) (x12 + 0) (x13 + 1) (x14 + 1) s15 hRs15 (by show x8 = p2; omega) (by show x9 = qr147r ∧ x10 = qr150r; omega) (by show 0 ≤ (x11 + 1) ∧ (x11 + 1) ≤ (x14 + 1); omega) (by show 0 ≤ (x12 + 0) ∧ (x12 + 0) ≤ x9; omega) (by show 0 ≤ (x13 + 1) ∧ (x13 + 1) ≤ x10; omega) (by show 0 ≤ (x14 + 1) ∧ (x14 + 1) ≤ 576; omega) (hv46_6) (hv46_7) (by omega)
                        · skip
                          unfold m_x11_unlike_J203
                          refine wp_rg (by omega) ?_
                          refine wp_rg (by omega) ?_
                          refine wp_if (fun c114 => ?_) (fun c114 => ?_)
                          · skip
                            unfold m_x11_unlike_J220
                            exact ih46 x8 x9 x10 (x11 + 1) (x12 + 1) (x13 + 0) (x14 + 1) s15 hRs15 (by show x8 = p2; omega) (by show x9 = qr147r ∧ x10 = qr150r; omega) (by show 0 ≤ (x11 + 1) ∧ (x11 + 1) ≤ (x14 + 1); omega) (by show 0 ≤ (x12 + 1) ∧ (x12 + 1) ≤ x9; omega) (by show 0 ≤ (x13 + 0) ∧ (x13 + 0) ≤ x10; omega) (by show 0 ≤ (x14 + 1) ∧ (x14 + 1) ≤ 576; omega) (hv46_6) (hv46_7) (by omega)
                          · skip
                            unfold m_x11_unlike_J220
                            exact ih46 x8 x9 x10 (x11 + 1) (x12 + 1) (x13 + 1) (x14 + 1) s15 hRs15 (by show x8 = p2; omega) (by show x9 = qr147r ∧ x10 = qr150r; omega) (by show 0 ≤ (x11 + 1) ∧ (x11 + 1) ≤ (x14 + 1); omega) (by show 0 ≤ (x12 + 1) ∧ (x12 + 1) ≤ x9; omega) (by show 0 ≤ (x13 + 1) ∧ (x13 + 1) ≤ x10; omega) (by show 0 ≤ (x14 + 1) ∧ (x14 + 1) ≤ 576; omega) (hv46_6) (hv46_7) (by omega)
                      · skip
                        unfold m_x11_unlike_J186
                        refine wp_rg (by omega) ?_
                        refine wp_rg (by omega) ?_
                        refine wp_if (fun c115 => ?_) (fun c115 => ?_)
                        · skip
                          unfold m_x11_unlike_J203
                          refine wp_rg (by omega) ?_
                          refine wp_rg (by omega) ?_
                          refine wp_if (fun c116 => ?_) (fun c116 => ?_)
                          · skip
                            unfold m_x11_unlike_J220
                            exact ih46 x8 x9 x10 (x11 + 0) (x12 + 0) (x13 + 0) (x14 + 1) s15 hRs15 (by show x8 = p2; omega) (by show x9 = qr147r ∧ x10 = qr150r; omega) (by show 0 ≤ (x11 + 0) ∧ (x11 + 0) ≤ (x14 + 1); omega) (by show 0 ≤ (x12 + 0) ∧ (x12 + 0) ≤ x9; omega) (by show 0 ≤ (x13 + 0) ∧ (x13 + 0) ≤ x10; omega) (by show 0 ≤ (x14 + 1) ∧ (x14 + 1) ≤ 576; omega) (hv46_6) (hv46_7) (by omega)
                          · skip
                            unfold m_x11_unlike_J220
                            exact ih46 x8 x9 x10 (x11 + 0) (x12 + 0) (x13 + 1) (x14 + 1) s15 hRs15 (by show x8 = p2; omega) (by show x9 = qr147r ∧ x10 = qr150r; omega) (by show 0 ≤ (x11 + 0) ∧ (x11 + 0) ≤ (x14 + 1); omega) (by show 0 ≤ (x12 + 0) ∧ (x12 + 0) ≤ x9; omega) (by show 0 ≤ (x13 + 1) ∧ (x13 + 1) ≤ x10; omega) (by show 0 ≤ (x14 + 1) ∧ (x14 + 1) ≤ 576; omega) (hv46_6) (hv46_7) (by omega)
                        · skip
                          unfold m_x11_unlike_J203
                          refine wp_rg (by omega) ?_
                          refine wp_rg (by omega) ?_
                          refine wp_if (fun c117 => ?_) (fun c117 => ?_)
                          · skip
                            unfold m_x11_unlike_J220
                            exact ih46 x8 x9 x10 (x11 + 0) (x12 + 1) (x13 + 0) (x14 + 1) s15 hRs15 (by show x8 = p2; omega) (by show x9 = qr147r ∧ x10 = qr150r; omega) (by show 0 ≤ (x11 + 0) ∧ (x11 + 0) ≤ (x14 + 1); omega) (by show 0 ≤ (x12 + 1) ∧ (x12 + 1) ≤ x9; omega) (by show 0 ≤ (x13 + 0) ∧ (x13 + 0) ≤ x10; omega) (by show 0 ≤ (x14 + 1) ∧ (x14 + 1) ≤ 576; omega) (hv46_6) (hv46_7) (by omega)
                          · skip
                            unfold m_x11_unlike_J220
                            exact ih46 x8 x9 x10 (x11 + 0) (x12 + 1) (x13 + 1) (x14 + 1) s15 hRs15 (by show x8 = p2; omega) (by show x9 = qr147r ∧ x10 = qr150r; omega) (by show 0 ≤ (x11 + 0) ∧ (x11 + 0) ≤ (x14 + 1); omega) (by show 0 ≤ (x12 + 1) ∧ (x12 + 1) ≤ x9; omega) (by show 0 ≤ (x13 + 1) ∧ (x13 + 1) ≤ x10; omega) (by show 0 ≤ (x14 + 1) ∧ (x14 + 1) ≤ 576; omega) (hv46_6) (hv46_7) (by omega)
                  · skip
                    unfold m_x11_unlike_J174
                    refine wp_rg (by omega) ?_
                    refine wp_if (fun c118 => ?_) (fun c118 => ?_)
                    · skip
                      unfold m_x11_unlike_J186
                      refine wp_rg (by omega) ?_
                      refine wp_rg (by omega) ?_
                      refine wp_if (fun c119 => ?_) (fun c119 => ?_)
                      · skip
                        unfold m_x11_unlike_J203
                        refine wp_rg (by omega) ?_
                        refine wp_rg (by omega) ?_
                        refine wp_if (fun c120 => ?_) (fun c120 => ?_)
                        · skip
                          unfold m_x11_unlike_J220
                          exact ih46 x8 x9 x10 (x11 + 1) (x12 + 0) (x13 + 0) (x14 + 1) s15 hRs15 (by show x8 = p2; omega) (by show x9 = qr147r ∧ x10 = qr150r; omega) (by show 0 ≤ (x11 + 1) ∧ (x11 + 1) ≤ (x14 + 1); omega) (by show 0 ≤ (x12 + 0) ∧ (x12 + 0) ≤ x9; omega) (by show 0 ≤ (x13 + 0) ∧ (x13 + 0) ≤ x10; omega) (by show 0 ≤ (x14 + 1) ∧ (x14 + 1) ≤ 576; omega) (hv46_6) (hv46_7) (by omega)
                        · skip
                          unfold m_x11_unlike_J220
                          exact ih46 x8 x9 x10 (x11 + 1) (x12 + 0) (x13 + 1) (x14 + 1) s15 hRs15 (by show x8 = p2; omega) (by show x9 = qr147r ∧ x10 = qr150r; omega) (by show 0 ≤ (x11 + 1) ∧ (x11 + 1) ≤ (x14 + 1); omega) (by show 0 ≤ (x12 + 0) ∧ (x12 + 0) ≤ x9; omega) (by show 0 ≤ (x13 + 1) ∧ (x13 + 1) ≤ x10; omega) (by show 0 ≤ (x14 + 1) ∧ (x14 + 1) ≤ 576; omega) (hv46_6) (hv46_7) (by omega)
                      · skip
                        unfold m_x11_unlike_J203
                        refine wp_rg (by omega) ?_
                        refine wp_rg (by omega) ?_
                        refine wp_if (fun c121 => ?_) (fun c121 => ?_)
                        · skip
                          unfold m_x11_unlike_J220
                          exact ih46 x8 x9 x10 (x11 + 1) (x12 + 1) (x13 + 0) (x14 + 1) s15 hRs15 (by show x8 = p2; omega) (by show x9 = qr147r ∧ x10 = qr150r; omega) (by show 0 ≤ (x11 + 1) ∧ (x11 + 1) ≤ (x14 + 1); omega) (by show 0 ≤ (x12 + 1) ∧ (x12 + 1) ≤ x9; omega) (by show 0 ≤ (x13 + 0) ∧ (x13 + 0) ≤ x10; omega) (by show 0 ≤ (x14 + 1) ∧ (x14 + 1) ≤ 576; omega) (hv46_6) (hv46_7) (by omega)
                        · skip
                          unfold m_x11_unlike_J220
                          exact ih46 x8 x9 x10 (x11 + 1) (x12 + 1) (x13 + 1) (x14 + 1) s15 hRs15 (by show x8 = p2; omega) (by show x9 = qr147r ∧ x10 = qr150r; omega) (by show 0 ≤ (x11 + 1) ∧ (x11 + 1) ≤ (x14 + 1); omega) (by show 0 ≤ (x12 + 1) ∧ (x12 + 1) ≤ x9; omega) (by show 0 ≤ (x13 + 1) ∧ (x13 + 1) ≤ x10; omega) (by show 0 ≤ (x14 + 1) ∧ (x14 + 1) ≤ 576; omega) (hv46_6) (hv46_7) (by omega)
                    · skip
                      unfold m_x11_unlike_J186
                      refine wp_rg (by omega) ?_
                      refine wp_rg (by omega) ?_
                      refine wp_if (fun c122 => ?_) (fun c122 => ?_)
                      · skip
                        unfold m_x11_unlike_J203
                        refine wp_rg (by omega) ?_
                        refine wp_rg (by omega) ?_
                        refine wp_if (fun c123 => ?_) (fun c123 => ?_)
                        · skip
                          unfold m_x11_unlike_J220
                          exact ih46 x8 x9 x10 (x11 + 0) (x12 + 0) (x13 + 0) (x14 + 1) s15 hRs15 (by show x8 = p2; omega) (by show x9 = qr147r ∧ x10 = qr150r; omega) (by show 0 ≤ (x11 + 0) ∧ (x11 + 0) ≤ (x14 + 1); omega) (by show 0 ≤ (x12 + 0) ∧ (x12 + 0) ≤ x9; omega) (by show 0 ≤ (x13 + 0) ∧ (x13 + 0) ≤ x10; omega) (by show 0 ≤ (x14 + 1) ∧ (x14 + 1) ≤ 576; omega) (hv46_6) (hv46_7) (by omega)
                        · skip
                          unfold m_x11_unlike_J220
                          exact ih46 x8 x9 x10 (x11 + 0) (x12 + 0) (x13 + 1) (x14 + 1) s15 hRs15 (by show x8 = p2; omega) (by show x9 = qr147r ∧ x10 = qr150r; omega) (by show 0 ≤ (x11 + 0) ∧ (x11 + 0) ≤ (x14 + 1); omega) (by show 0 ≤ (x12 + 0) ∧ (x12 + 0) ≤ x9; omega) (by show 0 ≤ (x13 + 1) ∧ (x13 + 1) ≤ x10; omega) (by show 0 ≤ (x14 + 1) ∧ (x14 + 1) ≤ 576; omega) (hv46_6) (hv46_7) (by omega)
                      · skip
                        unfold m_x11_unlike_J203
                        refine wp_rg (by omega) ?_
                        refine wp_rg (by omega) ?_
                        refine wp_if (fun c124 => ?_) (fun c124 => ?_)
                        · skip
                          unfold m_x11_unlike_J220
                          exact ih46 x8 x9 x10 (x11 + 0) (x12 + 1) (x13 + 0) (x14 + 1) s15 hRs15 (by show x8 = p2; omega) (by show x9 = qr147r ∧ x10 = qr150r; omega) (by show 0 ≤ (x11 + 0) ∧ (x11 + 0) ≤ (x14 + 1); omega) (by show 0 ≤ (x12 + 1) ∧ (x12 + 1) ≤ x9; omega) (by show 0 ≤ (x13 + 0) ∧ (x13 + 0) ≤ x10; omega) (by show 0 ≤ (x14 + 1) ∧ (x14 + 1) ≤ 576; omega) (hv46_6) (hv46_7) (by omega)
                        · skip
                          unfold m_x11_unlike_J220
                          exact ih46 x8 x9 x10 (x11 + 0) (x12 + 1) (x13 + 1) (x14 + 1) s15 hRs15 (by show x8 = p2; omega) (by show x9 = qr147r ∧ x10 = qr150r; omega) (by show 0 ≤ (x11 + 0) ∧ (x11 + 0) ≤ (x14 + 1); omega) (by show 0 ≤ (x12 + 1) ∧ (x12 + 1) ≤ x9; omega) (by show 0 ≤ (x13 + 1) ∧ (x13 + 1) ≤ x10; omega) (by show 0 ≤ (x14 + 1) ∧ (x14 + 1) ≤ 576; omega) (hv46_6) (hv46_7) (by omega)
                · skip
                  unfold m_x11_unlike_J152
                  unfold m_x11_unlike_J153
                  refine wp_rg (by omega) ?_
                  refine wp_if (fun c125 => ?_) (fun c125 => ?_)
                  · skip
                    refine wp_rg (by omega) ?_
                    refine wp_rg (by omega) ?_
                    refine wp_if (fun c126 => ?_) (fun c126 => ?_)
                    · skip
                      refine wp_rg (by omega) ?_
                      refine wp_rg (by omega) ?_
                      exact wp_some (hRs15)
                    · skip
                      unfold m_x11_unlike_J174
                      refine wp_rg (by omega) ?_
                      refine wp_if (fun c127 => ?_) (fun c127 => ?_)
                      · skip
                        unfold m_x11_unlike_J186
                        refine wp_rg (by omega) ?_
                        refine wp_rg (by omega) ?_
                        refine wp_if (fun c128 => ?_) (fun c128 => ?_)
                        · skip
                          unfold m_x11_unlike_J203
                          refine wp_rg (by omega) ?_
                          refine wp_rg (by omega) ?_
                          refine wp_if (fun c129 => ?_) (fun c129 => ?_)
                          · skip
                            unfold m_x11_unlike_J220
                            exact ih46 x8 x9 x10 (x11 + 1) (x12 + 0) (x13 + 0) (x14 + 1) s15 hRs15 (by show x8 = p2; omega) (by show x9 = qr147r ∧ x10 = qr150r; omega) (by show 0 ≤ (x11 + 1) ∧ (x11 + 1) ≤ (x14 + 1); omega) (by show 0 ≤ (x12 + 0) ∧ (x12 + 0) ≤ x9; omega) (by show 0 ≤ (x13 + 0) ∧ (x13 + 0) ≤ x10; omega) (by show 0 ≤ (x14 + 1) ∧ (x14 + 1) ≤ 576; omega) (hv46_6) (hv46_7) (by omega)
                          · skip
                            unfold m_x11_unlike_J220
                            exact ih46 x8 x9 x10 (x11 + 1) (x12 + 0) (x13 + 1) (x14 + 1) s15 hRs15 (by show x8 = p2; omega) (by show x9 = qr147r ∧ x10 = qr150r; omega) (by show 0 ≤ (x11 + 1) ∧ (x11 + 1) ≤ (x14 + 1); omega) (by show 0 ≤ (x12 + 0) ∧ (x12 + 0) ≤ x9; omega) (by show 0 ≤ (x13 + 1) ∧ (x13 + 1) ≤ x10; omega) (by show 0 ≤ (x14 + 1) ∧ (x14 + 1) ≤ 576; omega) (hv46_6) (hv46_7) (by omega)
                        · skip
                          unfold m_x11_unlike_J203
                          refine wp_rg (by omega) ?_
                          refine wp_rg (by omega) ?_
                          refine wp_if (fun c130 => ?_) (fun c130 => ?_)
                          · skip
                            unfold m_x11_unlike_J220
                            exact ih46 x8 x9 x10 (x11 + 1) (x12 + 1) (x13 + 0) (x14 + 1) s15 hRs15 (by show x8 = p2; omega) (by show x9 = qr147r ∧ x10 = qr150r; omega) (by show 0 ≤ (x11 + 1) ∧ (x11 + 1) ≤ (x14 + 1); omega) (by show 0 ≤ (x12 + 1) ∧ (x12 + 1) ≤ x9; omega) (by show 0 ≤ (x13 + 0) ∧ (x13 + 0) ≤ x10; omega) (by show 0 ≤ (x14 + 1) ∧ (x14 + 1) ≤ 576; omega) (hv46_6) (hv46_7) (by omega)
                          · skip
                            unfold m_x11_unlike_J220
                            exact ih46 x8 x9 x10 (x11 + 1) (x12 + 1) (x13 + 1) (x14 + 1) s15 hRs15 (by show x8 = p2; omega) (by show x9 = qr147r ∧ x10 = qr150r; omega) (by show 0 ≤ (x11 + 1) ∧ (x11 + 1) ≤ (x14 + 1); omega) (by show 0 ≤ (x12 + 1) ∧ (x12 + 1) ≤ x9; omega) (by show 0 ≤ (x13 + 1) ∧ (x13 + 1) ≤ x10; omega) (by show 0 ≤ (x14 + 1) ∧ (x14 + 1) ≤ 576; omega) (hv46_6) (hv46_7) (by omega)
                      · skip
                        unfold m_x11_unlike_J186
                        refine wp_rg (by omega) ?_
                        refine wp_rg (by omega) ?_
                        refine wp_if (fun c131 => ?_) (fun c131 => ?_)
                        · skip
                          unfold m_x11_unlike_J203
                          refine wp_rg (by omega) ?_
                          refine wp_rg (by omega) ?_
                          refine wp_if (fun c132 => ?_) (fun c132 => ?_)
                          · skip
                            unfold m_x11_unlike_J220
                            exact ih46 x8 x9 x10 (x11 + 0) (x12 + 0) (x13 + 0) (x14 + 1) s15 hRs15 (by show x8 = p2; omega) (by show x9 = qr147r ∧ x10 = qr150r; omega) (by show 0 ≤ (x11 + 0) ∧ (x11 + 0) ≤ (x14 + 1); omega) (by show 0 ≤ (x12 + 0) ∧ (x12 + 0) ≤ x9; omega) (by show 0 ≤ (x13 + 0) ∧ (x13 + 0) ≤ x10; omega) (by show 0 ≤ (x14 + 1) ∧ (x14 + 1) ≤ 576; omega) (hv46_6) (hv46_7) (by omega)
                          · skip
                            unfold m_x11_unlike_J220
                            exact ih46 x8 x9 x10 (x11 + 0) (x12 + 0) (x13 + 1) (x14 + 1) s15 hRs15 (by show x8 = p2; omega) (by show x9 = qr147r ∧ x10 = qr150r; omega) (by show 0 ≤ (x11 + 0) ∧ (x11 + 0) ≤ (x14 + 1); omega) (by show 0 ≤ (x12 + 0) ∧ (x12 + 0) ≤ x9; omega) (by show 0 ≤ (x13 + 1) ∧ (x13 + 1) ≤ x10; omega) (by show 0 ≤ (x14 + 1) ∧ (x14 + 1) ≤ 576; omega) (hv46_6) (hv46_7) (by omega)
                        · skip
                          unfold m_x11_unlike_J203
                          refine wp_rg (by omega) ?_
                          refine wp_rg (by omega) ?_
                          refine wp_if (fun c133 => ?_) (fun c133 => ?_)
                          · skip
                            unfold m_x11_unlike_J220
                            exact ih46 x8 x9 x10 (x11 + 0) (x12 + 1) (x13 + 0) (x14 + 1) s15 hRs15 (by show x8 = p2; omega) (by show x9 = qr147r ∧ x10 = qr150r; omega) (by show 0 ≤ (x11 + 0) ∧ (x11 + 0) ≤ (x14 + 1); omega) (by show 0 ≤ (x12 + 1) ∧ (x12 + 1) ≤ x9; omega) (by show 0 ≤ (x13 + 0) ∧ (x13 + 0) ≤ x10; omega) (by show 0 ≤ (x14 + 1) ∧ (x14 + 1) ≤ 576; omega) (hv46_6) (hv46_7) (by omega)
                          · skip
                            unfold m_x11_unlike_J220
                            exact ih46 x8 x9 x10 (x11 + 0) (x12 + 1) (x13 + 1) (x14 + 1) s15 hRs15 (by show x8 = p2; omega) (by show x9 = qr147r ∧ x10 = qr150r; omega) (by show 0 ≤ (x11 + 0) ∧ (x11 + 0) ≤ (x14 + 1); omega) (by show 0 ≤ (x12 + 1) ∧ (x12 + 1) ≤ x9; omega) (by show 0 ≤ (x13 + 1) ∧ (x13 + 1) ≤ x10; omega) (by show 0 ≤ (x14 + 1) ∧ (x14 + 1) ≤ 576; omega) (hv46_6) (hv46_7) (by omega)
                  · skip
                    unfold m_x11_unlike_J174
                    refine wp_rg (by omega) ?_
                    refine wp_if (fun c134 => ?_) (fun c134 => ?_)
                    · skip
                      unfold m_x11_unlike_J186
                      refine wp_rg (by omega) ?_
                      refine wp_rg (by omega) ?_
                      refine wp_if (fun c135 => ?_) (fun c135 => ?_)
                      · skip
                        unfold m_x11_unlike_J203
                        refine wp_rg (by omega) ?_
                        refine wp_rg (by omega) ?_
                        refine wp_if (fun c136 => ?_) (fun c136 => ?_)
                        · skip
                          unfold m_x11_unlike_J220
                          exact ih46 x8 x9 x10 (x11 + 1) (x12 + 0) (x13 + 0) (x14 + 1) s15 hRs15 (by show x8 = p2; omega) (by show x9 = qr147r ∧ x10 = qr150r; omega) (by show 0 ≤ (x11 + 1) ∧ (x11 + 1) ≤ (x14 + 1); omega) (by show 0 ≤ (x12 + 0) ∧ (x12 + 0) ≤ x9; omega) (by show 0 ≤ (x13 + 0) ∧ (x13 + 0) ≤ x10; omega) (by show 0 ≤ (x14 + 1) ∧ (x14 + 1) ≤ 576; omega) (hv46_6) (hv46_7) (by omega)
                        · skip
                          unfold m_x11_unlike_J220
                          exact ih46 x8 x9 x10 (x11 + 1) (x12 + 0) (x13 + 1) (x14 + 1) s15 hRs15 (by show x8 = p2; omega) (by show x9 = qr147r ∧ x10 = qr150r; omega) (by show 0 ≤ (x11 + 1) ∧ (x11 + 1) ≤ (x14 + 1); omega) (by show 0 ≤ (x12 + 0) ∧ (x12 + 0) ≤ x9; omega) (by show 0 ≤ (x13 + 1) ∧ (x13 + 1) ≤ x10; omega) (by show 0 ≤ (x14 + 1) ∧ (x14 + 1) ≤ 576; omega) (hv46_6) (hv46_7) (by omega)
                      · skip
                        unfold m_x11_unlike_J203
                        refine wp_rg (by omega) ?_
                        refine wp_rg (by omega) ?_
                        refine wp_if (fun c137 => ?_) (fun c137 => ?_)
                        · skip
                          unfold m_x11_unlike_J220
                          exact ih46 x8 x9 x10 (x11 + 1) (x12 + 1) (x13 + 0) (x14 + 1) s15 hRs15 (by show x8 = p2; omega) (by show x9 = qr147r ∧ x10 = qr150r; omega) (by show 0 ≤ (x11 + 1) ∧ (x11 + 1) ≤ (x14 + 1); omega) (by show 0 ≤ (x12 + 1) ∧ (x12 + 1) ≤ x9; omega) (by show 0 ≤ (x13 + 0) ∧ (x13 + 0) ≤ x10; omega) (by show 0 ≤ (x14 + 1) ∧ (x14 + 1) ≤ 576; omega) (hv46_6) (hv46_7) (by omega)
                        · skip
                          unfold m_x11_unlike_J220
                          exact ih46 x8 x9 x10 (x11 + 1) (x12 + 1) (x13 + 1) (x14 + 1) s15 hRs15 (by show x8 = p2; omega) (by show x9 = qr147r ∧ x10 = qr150r; omega) (by show 0 ≤ (x11 + 1) ∧ (x11 + 1) ≤ (x14 + 1); omega) (by show 0 ≤ (x12 + 1) ∧ (x12 + 1) ≤ x9; omega) (by show 0 ≤ (x13 + 1) ∧ (x13 + 1) ≤ x10; omega) (by show 0 ≤ (x14 + 1) ∧ (x14 + 1) ≤ 576; omega) (hv46_6) (hv46_7) (by omega)
                    · skip
                      unfold m_x11_unlike_J186
                      refine wp_rg (by omega) ?_
                      refine wp_rg (by omega) ?_
                      refine wp_if (fun c138 => ?_) (fun c138 => ?_)
                      · skip
                        unfold m_x11_unlike_J203
                        refine wp_rg (by omega) ?_
                        refine wp_rg (by omega) ?_
                        refine wp_if (fun c139 => ?_) (fun c139 => ?_)
                        · skip
                          unfold m_x11_unlike_J220
                          exact ih46 x8 x9 x10 (x11 + 0) (x12 + 0) (x13 + 0) (x14 + 1) s15 hRs15 (by show x8 = p2; omega) (by show x9 = qr147r ∧ x10 = qr150r; omega) (by show 0 ≤ (x11 + 0) ∧ (x11 + 0) ≤ (x14 + 1); omega) (by show 0 ≤ (x12 + 0) ∧ (x12 + 0) ≤ x9; omega) (by show 0 ≤ (x13 + 0) ∧ (x13 + 0) ≤ x10; omega) (by show 0 ≤ (x14 + 1) ∧ (x14 + 1) ≤ 576; omega) (hv46_6) (hv46_7) (by omega)
                        · skip
                          unfold m_x11_unlike_J220
                          exact ih46 x8 x9 x10 (x11 + 0) (x12 + 0) (x13 + 1) (x14 + 1) s15 hRs15 (by show x8 = p2; omega) (by show x9 = qr147r ∧ x10 = qr150r; omega) (by show 0 ≤ (x11 + 0) ∧ (x11 + 0) ≤ (x14 + 1); omega) (by show 0 ≤ (x12 + 0) ∧ (x12 + 0) ≤ x9; omega) (by show 0 ≤ (x13 + 1) ∧ (x13 + 1) ≤ x10; omega) (by show 0 ≤ (x14 + 1) ∧ (x14 + 1) ≤ 576; omega) (hv46_6) (hv46_7) (by omega)
                      · skip
                        unfold m_x11_unlike_J203
                        refine wp_rg (by omega) ?_
                        refine wp_rg (by omega) ?_
                        refine wp_if (fun c140 => ?_) (fun c140 => ?_)
                        · skip
                          unfold m_x11_unlike_J220
                          exact ih46 x8 x9 x10 (x11 + 0) (x12 + 1) (x13 + 0) (x14 + 1) s15 hRs15 (by show x8 = p2; omega) (by show x9 = qr147r ∧ x10 = qr150r; omega) (by show 0 ≤ (x11 + 0) ∧ (x11 + 0) ≤ (x14 + 1); omega) (by show 0 ≤ (x12 + 1) ∧ (x12 + 1) ≤ x9; omega) (by show 0 ≤ (x13 + 0) ∧ (x13 + 0) ≤ x10; omega) (by show 0 ≤ (x14 + 1) ∧ (x14 + 1) ≤ 576; omega) (hv46_6) (hv46_7) (by omega)
                        · skip
                          unfold m_x11_unlike_J220
                          exact ih46 x8 x9 x10 (x11 + 0) (x12 + 1) (x13 + 1) (x14 + 1) s15 hRs15 (by show x8 = p2; omega) (by show x9 = qr147r ∧ x10 = qr150r; omega) (by show 0 ≤ (x11 + 0) ∧ (x11 + 0) ≤ (x14 + 1); omega) (by show 0 ≤ (x12 + 1) ∧ (x12 + 1) ≤ x9; omega) (by show 0 ≤ (x13 + 1) ∧ (x13 + 1) ≤ x10; omega) (by show 0 ≤ (x14 + 1) ∧ (x14 + 1) ≤ 576; omega) (hv46_6) (hv46_7) (by omega)
              · skip
                unfold m_x11_unlike_J152
                unfold m_x11_unlike_J153
                refine wp_rg (by omega) ?_
                refine wp_if (fun c141 => ?_) (fun c141 => ?_)
                · skip
                  refine wp_rg (by omega) ?_
                  refine wp_rg (by omega) ?_
                  refine wp_if (fun c142 => ?_) (fun c142 => ?_)
                  · skip
                    refine wp_rg (by omega) ?_
                    refine wp_rg (by omega) ?_
                    exact wp_some (hRs15)
                  · skip
                    unfold m_x11_unlike_J174
                    refine wp_rg (by omega) ?_
                    refine wp_if (fun c143 => ?_) (fun c143 => ?_)
                    · skip
                      unfold m_x11_unlike_J186
                      refine wp_rg (by omega) ?_
                      refine wp_rg (by omega) ?_
                      refine wp_if (fun c144 => ?_) (fun c144 => ?_)
                      · skip
                        unfold m_x11_unlike_J203
                        refine wp_rg (by omega) ?_
                        refine wp_rg (by omega) ?_
                        refine wp_if (fun c145 => ?_) (fun c145 => ?_)
                        · skip
                          unfold m_x11_unlike_J220
                          exact ih46 x8 x9 x10 (x11 + 1) (x12 + 0) (x13 + 0) (x14 + 1) s15 hRs15 (by show x8 = p2; omega) (by show x9 = qr147r ∧ x10 = qr150r; omega) (by show 0 ≤ (x11 + 1) ∧ (x11 + 1) ≤ (x14 + 1); omega) (by show 0 ≤ (x12 + 0) ∧ (x12 + 0) ≤ x9; omega) (by show 0 ≤ (x13 + 0) ∧ (x13 + 0) ≤ x10; omega) (by show 0 ≤ (x14 + 1) ∧ (x14 + 1) ≤ 576; omega) (hv46_6) (hv46_7) (by omega)
                        · skip
                          unfold m_x11_unlike_J220
                          exact ih46 x8 x9 x10 (x11 + 1) (x12 + 0) (x13 + 1) (x14 + 1) s15 hRs15 (by show x8 = p2; omega) (by show x9 = qr147r ∧ x10 = qr150r; omega) (by show 0 ≤ (x11 + 1) ∧ (x11 + 1) ≤ (x14 + 1); omega) (by show 0 ≤ (x12 + 0) ∧ (x12 + 0) ≤ x9; omega) (by show 0 ≤ (x13 + 1) ∧ (x13 + 1) ≤ x10; omega) (by show 0 ≤ (x14 + 1) ∧ (x14 + 1) ≤ 576; omega) (hv46_6) (hv46_7) (by omega)
                      · skip
                        unfold m_x11_unlike_J203
                        refine wp_rg (by omega) ?_
                        refine wp_rg (by omega) ?_
                        refine wp_if (fun c146 => ?_) (fun c146 => ?_)
                        · skip
                          unfold m_x11_unlike_J220
                          exact ih46 x8 x9 x10 (x11 + 1) (x12 + 1) (x13 + 0) (x14 + 1) s15 hRs15 (by show x8 = p2; omega) (by show x9 = qr147r ∧ x10 = qr150r; omega) (by show 0 ≤ (x11 + 1) ∧ (x11 + 1) ≤ (x14 + 1); omega) (by show 0 ≤ (x12 + 1) ∧ (x12 + 1) ≤ x9; omega) (by show 0 ≤ (x13 + 0) ∧ (x13 + 0) ≤ x10; omega) (by show 0 ≤ (x14 + 1) ∧ (x14 + 1) ≤ 576; omega) (hv46_6) (hv46_7) (by omega)
                        · skip
                          unfold m_x11_unlike_J220
                          exact ih46 x8 x9 x10 (x11 + 1) (x12 + 1) (x13 + 1) (x14 + 1) s15 hRs15 (by show x8 = p2; omega) (by show x9 = qr147r ∧ x10 = qr150r; omega) (by show 0 ≤ (x11 + 1) ∧ (x11 + 1) ≤ (x14 + 1); omega) (by show 0 ≤ (x12 + 1) ∧ (x12 + 1) ≤ x9; omega) (by show 0 ≤ (x13 + 1) ∧ (x13 + 1) ≤ x10; omega) (by show 0 ≤ (x14 + 1) ∧ (x14 + 1) ≤ 576; omega) (hv46_6) (hv46_7) (by omega)
                    · skip
                      unfold m_x11_unlike_J186
                      refine wp_rg (by omega) ?_
                      refine wp_rg (by omega) ?_
                      refine wp_if (fun c147 => ?_) (fun c147 => ?_)
                      · skip
                        unfold m_x11_unlike_J203
                        refine wp_rg (by omega) ?_
                        refine wp_rg (by omega) ?_
                        refine wp_if (fun c148 => ?_) (fun c148 => ?_)
                        · skip
                          unfold m_x11_unlike_J220
                          exact ih46 x8 x9 x10 (x11 + 0) (x12 + 0) (x13 + 0) (x14 + 1) s15 hRs15 (by show x8 = p2; omega) (by show x9 = qr147r ∧ x10 = qr150r; omega) (by show 0 ≤ (x11 + 0) ∧ (x11 + 0) ≤ (x14 + 1); omega) (by show 0 ≤ (x12 + 0) ∧ (x12 + 0) ≤ x9; omega) (by show 0 ≤ (x13 + 0) ∧ (x13 + 0) ≤ x10; omega) (by show 0 ≤ (x14 + 1) ∧ (x14 + 1) ≤ 576; omega) (hv46_6) (hv46_7) (by omega)
                        · skip
                          unfold m_x11_unlike_J220
                          exact ih46 x8 x9 x10 (x11 + 0) (x12 + 0) (x13 + 1) (x14 + 1) s15 hRs15 (by show x8 = p2; omega) (by show x9 = qr147r ∧ x10 = qr150r; omega) (by show 0 ≤ (x11 + 0) ∧ (x11 + 0) ≤ (x14 + 1); omega) (by show 0 ≤ (x12 + 0) ∧ (x12 + 0) ≤ x9; omega) (by show 0 ≤ (x13 + 1) ∧ (x13 + 1) ≤ x10; omega) (by show 0 ≤ (x14 + 1) ∧ (x14 + 1) ≤ 576; omega) (hv46_6) (hv46_7) (by omega)
                      · skip
                        unfold m_x11_unlike_J203
                        refine wp_rg (by omega) ?_
                        refine wp_rg (by omega) ?_
                        refine wp_if (fun c149 => ?_) (fun c149 => ?_)
                        · skip
                          unfold m_x11_unlike_J220
                          exact ih46 x8 x9 x10 (x11 + 0) (x12 + 1) (x13 + 0) (x14 + 1) s15 hRs15 (by show x8 = p2; omega) (by show x9 = qr147r ∧ x10 = qr150r; omega) (by show 0 ≤ (x11 + 0) ∧ (x11 + 0) ≤ (x14 + 1); omega) (by show 0 ≤ (x12 + 1) ∧ (x12 + 1) ≤ x9; omega) (by show 0 ≤ (x13 + 0) ∧ (x13 + 0) ≤ x10; omega) (by show 0 ≤ (x14 + 1) ∧ (x14 + 1) ≤ 576; omega) (hv46_6) (hv46_7) (by omega)
                        · skip
                          unfold m_x11_unlike_J220
                          exact ih46 x8 x9 x10 (x11 + 0) (x12 + 1) (x13 + 1) (x14 + 1) s15 hRs15 (by show x8 = p2; omega) (by show x9 = qr147r ∧ x10 = qr150r; omega) (by show 0 ≤ (x11 + 0) ∧ (x11 + 0) ≤ (x14 + 1); omega) (by show 0 ≤ (x12 + 1) ∧ (x12 + 1) ≤ x9; omega) (by show 0 ≤ (x13 + 1) ∧ (x13 + 1) ≤ x10; omega) (by show 0 ≤ (x14 + 1) ∧ (x14 + 1) ≤ 576; omega) (hv46_6) (hv46_7) (by omega)
                · skip
                  unfold m_x11_unlike_J174
                  refine wp_rg (by omega) ?_
                  refine wp_if (fun c150 => ?_) (fun c150 => ?_)
                  · skip
                    unfold m_x11_unlike_J186
                    refine wp_rg (by omega) ?_
                    refine wp_rg (by omega) ?_
                    refine wp_if (fun c151 => ?_) (fun c151 => ?_)
                    · skip
                      unfold m_x11_unlike_J203
                      refine wp_rg (by omega) ?_
                      refine wp_rg (by omega) ?_
                      refine wp_if (fun c152 => ?_) (fun c152 => ?_)
                      · skip
                        unfold m_x11_unlike_J220
                        exact ih46 x8 x9 x10 (x11 + 1) (x12 + 0) (x13 + 0) (x14 + 1) s15 hRs15 (by show x8 = p2; omega) (by show x9 = qr147r ∧ x10 = qr150r; omega) (by show 0 ≤ (x11 + 1) ∧ (x11 + 1) ≤ (x14 + 1); omega) (by show 0 ≤ (x12 + 0) ∧ (x12 + 0) ≤ x9; omega) (by show 0 ≤ (x13 + 0) ∧ (x13 + 0) ≤ x10; omega) (by show 0 ≤ (x14 + 1) ∧ (x14 + 1) ≤ 576; omega) (hv46_6) (hv46_7) (by omega)
                      · skip
                        unfold m_x11_unlike_J220
                        exact ih46 x8 x9 x10 (x11 + 1) (x12 + 0) (x13 + 1) (x14 + 1) s15 hRs15 (by show x8 = p2; omega) (by show x9 = qr147r ∧ x10 = qr150r; omega) (by show 0 ≤ (x11 + 1) ∧ (x11 + 1) ≤ (x14 + 1); omega) (by show 0 ≤ (x12 + 0) ∧ (x12 + 0) ≤ x9; omega) (by show 0 ≤ (x13 + 1) ∧ (x13 + 1) ≤ x10; omega) (by show 0 ≤ (x14 + 1) ∧ (x14 + 1) ≤ 576; omega) (hv46_6) (hv46_7) (by omega)
                    · skip
                      unfold m_x11_unlike_J203
                      refine wp_rg (by omega) ?_
                      refine wp_rg (by omega) ?_
                      refine wp_if (fun c153 => ?_) (fun c153 => ?_)
                      · skip
                        unfold m_x11_unlike_J220
                        exact ih46 x8 x9 x10 (x11 + 1) (x12 + 1) (x13 + 0) (x14 + 1) s15 hRs15 (by show x8 = p2; omega) (by show x9 = qr147r ∧ x10 = qr150r; omega) (by show 0 ≤ (x11 + 1) ∧ (x11 + 1) ≤ (x14 + 1); omega) (by show 0 ≤ (x12 + 1) ∧ (x12 + 1) ≤ x9; omega) (by show 0 ≤ (x13 + 0) ∧ (x13 + 0) ≤ x10; omega) (by show 0 ≤ (x14 + 1) ∧ (x14 + 1) ≤ 576; omega) (hv46_6) (hv46_7) (by omega)
                      · skip
                        unfold m_x11_unlike_J220
                        exact ih46 x8 x9 x10 (x11 + 1) (x12 + 1) (x13 + 1) (x14 + 1) s15 hRs15 (by show x8 = p2; omega) (by show x9 = qr147r ∧ x10 = qr150r; omega) (by show 0 ≤ (x11 + 1) ∧ (x11 + 1) ≤ (x14 + 1); omega) (by show 0 ≤ (x12 + 1) ∧ (x12 + 1) ≤ x9; omega) (by show 0 ≤ (x13 + 1) ∧ (x13 + 1) ≤ x10; omega) (by show 0 ≤ (x14 + 1) ∧ (x14 + 1) ≤ 576; omega) (hv46_6) (hv46_7) (by omega)
                  · skip
                    unfold m_x11_unlike_J186
                    refine wp_rg (by omega) ?_
                    refine wp_rg (by omega) ?_
                    refine wp_if (fun c154 => ?_) (fun c154 => ?_)
                    · skip
                      unfold m_x11_unlike_J203
                      refine wp_rg (by omega) ?_
                      refine wp_rg (by omega) ?_
                      refine wp_if (fun c155 => ?_) (fun c155 => ?_)
                      · skip
                        unfold m_x11_unlike_J220
                        exact ih46 x8 x9 x10 (x11 + 0) (x12 + 0) (x13 + 0) (x14 + 1) s15 hRs15 (by show x8 = p2; omega) (by show x9 = qr147r ∧ x10 = qr150r; omega) (by show 0 ≤ (x11 + 0) ∧ (x11 + 0) ≤ (x14 + 1); omega) (by show 0 ≤ (x12 + 0) ∧ (x12 + 0) ≤ x9; omega) (by show 0 ≤ (x13 + 0) ∧ (x13 + 0) ≤ x10; omega) (by show 0 ≤ (x14 + 1) ∧ (x14 + 1) ≤ 576; omega) (hv46_6) (hv46_7) (by omega)
                      · skip
                        unfold m_x11_unlike_J220
                        exact ih46 x8 x9 x10 (x11 + 0) (x12 + 0) (x13 + 1) (x14 + 1) s15 hRs15 (by show x8 = p2; omega) (by show x9 = qr147r ∧ x10 = qr150r; omega) (by show 0 ≤ (x11 + 0) ∧ (x11 + 0) ≤ (x14 + 1); omega) (by show 0 ≤ (x12 + 0) ∧ (x12 + 0) ≤ x9; omega) (by show 0 ≤ (x13 + 1) ∧ (x13 + 1) ≤ x10; omega) (by show 0 ≤ (x14 + 1) ∧ (x14 + 1) ≤ 576; omega) (hv46_6) (hv46_7) (by omega)
                    · skip
                      unfold m_x11_unlike_J203
                      refine wp_rg (by omega) ?_
                      refine wp_rg (by omega) ?_
                      refine wp_if (fun c156 => ?_) (fun c156 => ?_)
                      · skip
                        unfold m_x11_unlike_J220
                        exact ih46 x8 x9 x10 (x11 + 0) (x12 + 1) (x13 + 0) (x14 + 1) s15 hRs15 (by show x8 = p2; omega) (by show x9 = qr147r ∧ x10 = qr150r; omega) (by show 0 ≤ (x11 + 0) ∧ (x11 + 0) ≤ (x14 + 1); omega) (by show 0 ≤ (x12 + 1) ∧ (x12 + 1) ≤ x9; omega) (by show 0 ≤ (x13 + 0) ∧ (x13 + 0) ≤ x10; omega) (by show 0 ≤ (x14 + 1) ∧ (x14 + 1) ≤ 576; omega) (hv46_6) (hv46_7) (by omega)
                      · skip
                        unfold m_x11_unlike_J220
                        exact ih46 x8 x9 x10 (x11 + 0) (x12 + 1) (x13 + 1) (x14 + 1) s15 hRs15 (by show x8 = p2; omega) (by show x9 = qr147r ∧ x10 = qr150r; omega) (by show 0 ≤ (x11 + 0) ∧ (x11 + 0) ≤ (x14 + 1); omega) (by show 0 ≤ (x12 + 1) ∧ (x12 + 1) ≤ x9; omega) (by show 0 ≤ (x13 + 1) ∧ (x13 + 1) ≤ x10; omega) (by show 0 ≤ (x14 + 1) ∧ (x14 + 1) ≤ 576; omega) (hv46_6) (hv46_7) (by omega)
            · skip
              refine wp_rdIn (by omega) (fun y124 ey124 => ?_)
              have by124 : (-2147483648 : Int) ≤ y124 ∧ y124 ≤ 2147483647 := ey124 ▸ hRs15.2.1 27 _ (by show _ < 288; omega)
              have k124 := hv46_7 x13.toNat (by omega)
              rw [ey124] at k124
              unfold m_x11_unlike_J116
              refine wp_rg (by omega) ?_
              refine wp_rg (by omega) ?_
              refine wp_if (fun c157 => ?_) (fun c157 => ?_)
              · skip
                refine wp_rdIn (by omega) (fun y107 ey107 => ?_)
                have by107 : (-2147483648 : Int) ≤ y107 ∧ y107 ≤ 2147483647 := ey107 ▸ hRs15.2.1 24 _ (by show _ < 288; omega)
                refine wp_rdIn (by omega) (fun y108 ey108 => ?_)
                have by108 : (-2147483648 : Int) ≤ y108 ∧ y108 ≤ 2147483647 := ey108 ▸ hRs15.2.1 28 _ (by show _ < 288; omega)
                refine wp_rg (by omega) ?_
                refine wp_rg (by omega) ?_
                refine wp_if (fun c158 => ?_) (fun c158 => ?_)
                · skip
                  unfold m_x11_unlike_J153
                  refine wp_rg (by omega) ?_
                  refine wp_if (fun c159 => ?_) (fun c159 => ?_)
                  · skip
                    refine wp_rg (by omega) ?_
                    refine wp_rg (by omega) ?_
                    refine wp_if (fun c160 => ?_) (fun c160 => ?_)
                    · skip
                      refine wp_rg (by omega) ?_
                      refine wp_rg (by omega) ?_
                      exact wp_some (hRs15)
                    · skip
                      unfold m_x11_unlike_J174
                      refine wp_rg (by omega) ?_
                      refine wp_if (fun c161 => ?_) (fun c161 => ?_)
                      · skip
                        unfold m_x11_unlike_J186
                        refine wp_rg (by omega) ?_
                        refine wp_rg (by omega) ?_
                        refine wp_if (fun c162 => ?_) (fun c162 => ?_)
                        · skip
                          unfold m_x11_unlike_J203
                          refine wp_rg (by omega) ?_
                          refine wp_rg (by omega) ?_
                          refine wp_if (fun c163 => ?_) (fun c163 => ?_)
                          · skip
                            unfold m_x11_unlike_J220
                            exact ih46 x8 x9 x10 (x11 + 1) (x12 + 0) (x13 + 0) (x14 + 1) s15 hRs15 (by show x8 = p2; omega) (by show x9 = qr147r ∧ x10 = qr150r; omega) (by show 0 ≤ (x11 + 1) ∧ (x11 + 1) ≤ (x14 + 1); omega) (by show 0 ≤ (x12 + 0) ∧ (x12 + 0) ≤ x9; omega) (by show 0 ≤ (x13 + 0) ∧ (x13 + 0) ≤ x10; omega) (by show 0 ≤ (x14 + 1) ∧ (x14 + 1) ≤ 576; omega) (hv46_6) (hv46_7) (by omega)
                          · skip
                            unfold m_x11_unlike_J220
                            exact ih46 x8 x9 x10 (x11 + 1) (x12 + 0) (x13 + 1) (x14 + 1) s15 hRs15 (by show x8 = p2; omega) (by show x9 = qr147r ∧ x10 = qr150r; omega) (by show 0 ≤ (x11 + 1) ∧ (x11 + 1) ≤ (x14 + 1); omega) (by show 0 ≤ (x12 + 0) ∧ (x12 + 0) ≤ x9; omega) (by show 0 ≤ (x13 + 1) ∧ (x13 + 1) ≤ x10; omega) (by show 0 ≤ (x14 + 1) ∧ (x14 + 1) ≤ 576; omega) (hv46_6) (hv46_7) (by omega)
                        · skip
                          unfold m_x11_unlike_J203
                          refine wp_rg (by omega) ?_
                          refine wp_rg (by omega) ?_
                          refine wp_if (fun c164 => ?_) (fun c164 => ?_)
                          · skip
                            unfold m_x11_unlike_J220
                            exact ih46 x8 x9 x10 (x11 + 1) (x12 + 1) (x13 + 0) (x14 + 1) s15 hRs15 (by show x8 = p2; omega) (by show x9 = qr147r ∧ x10 = qr150r; omega) (by show 0 ≤ (x11 + 1) ∧ (x11 + 1) ≤ (x14 + 1); omega) (by show 0 ≤ (x12 + 1) ∧ (x12 + 1) ≤ x9; omega) (by show 0 ≤ (x13 + 0) ∧ (x13 + 0) ≤ x10; omega) (by show 0 ≤ (x14 + 1) ∧ (x14 + 1) ≤ 576; omega) (hv46_6) (hv46_7) (by omega)
                          · skip
                            unfold m_x11_unlike_J220
                            exact ih46 x8 x9 x10 (x11 + 1) (x12 + 1) (x13 + 1) (x14 + 1) s15 hRs15 (by show x8 = p2; omega) (by show x9 = qr147r ∧ x10 = qr150r; omega) (by show 0 ≤ (x11 + 1) ∧ (x11 + 1) ≤ (x14 + 1); omega) (by show 0 ≤ (x12 + 1) ∧ (x12 + 1) ≤ x9; omega) (by show 0 ≤ (x13 + 1) ∧ (x13 + 1) ≤ x10; omega) (by show 0 ≤ (x14 + 1) ∧ (x14 + 1) ≤ 576; omega) (hv46_6) (hv46_7) (by omega)
                      · skip
                        unfold m_x11_unlike_J186
                        refine wp_rg (by omega) ?_
                        refine wp_rg (by omega) ?_
                        refine wp_if (fun c165 => ?_) (fun c165 => ?_)
                        · skip
                          unfold m_x11_unlike_J203
                          refine wp_rg (by omega) ?_
                          refine wp_rg (by omega) ?_
                          refine wp_if (fun c166 => ?_) (fun c166 => ?_)
                          · skip
                            unfold m_x11_unlike_J220
                            exact ih46 x8 x9 x10 (x11 + 0) (x12 + 0) (x13 + 0) (x14 + 1) s15 hRs15 (by show x8 = p2; omega) (by show x9 = qr147r ∧ x10 = qr150r; omega) (by show 0 ≤ (x11 + 0) ∧ (x11 + 0) ≤ (x14 + 1); omega) (by show 0 ≤ (x12 + 0) ∧ (x12 + 0) ≤ x9; omega) (by show 0 ≤ (x13 + 0) ∧ (x13 + 0) ≤ x10; omega) (by show 0 ≤ (x14 + 1) ∧ (x14 + 1) ≤ 576; omega) (hv46_6) (hv46_7) (by omega)
                          · skip
                            unfold m_x11_unlike_J220
                            exact ih46 x8 x9 x10 (x11 + 0) (x12 + 0) (x13 + 1) (x14 + 1) s15 hRs15 (by show x8 = p2; omega) (by show x9 = qr147r ∧ x10 = qr150r; omega) (by show 0 ≤ (x11 + 0) ∧ (x11 + 0) ≤ (x14 + 1); omega) (by show 0 ≤ (x12 + 0) ∧ (x12 + 0) ≤ x9; omega) (by show 0 ≤ (x13 + 1) ∧ (x13 + 1) ≤ x10; omega) (by show 0 ≤ (x14 + 1) ∧ (x14 + 1) ≤ 576; omega) (hv46_6) (hv46_7) (by omega)
                        · skip
                          unfold m_x11_unlike_J203
                          refine wp_rg (by omega) ?_
                          refine wp_rg (by omega) ?_
                          refine wp_if (fun c167 => ?_) (fun c167 => ?_)
                          · skip
                            unfold m_x11_unlike_J220
                            exact ih46 x8 x9 x10 (x11 + 0) (x12 + 1) (x13 + 0) (x14 + 1) s15 hRs15 (by show x8 = p2; omega) (by show x9 = qr147r ∧ x10 = qr150r; omega) (by show 0 ≤ (x11 + 0) ∧ (x11 + 0) ≤ (x14 + 1); omega) (by show 0 ≤ (x12 + 1) ∧ (x12 + 1) ≤ x9; omega) (by show 0 ≤ (x13 + 0) ∧ (x13 + 0) ≤ x10; omega) (by show 0 ≤ (x14 + 1) ∧ (x14 + 1) ≤ 576; omega) (hv46_6) (hv46_7) (by omega)
                          · skip
                            unfold m_x11_unlike_J220
                            exact ih46 x8 x9 x10 (x11 + 0) (x12 + 1) (x13 + 1) (x14 + 1) s15 hRs15 (by show x8 = p2; omega) (by show x9 = qr147r ∧ x10 = qr150r; omega) (by show 0 ≤ (x11 + 0) ∧ (x11 + 0) ≤ (x14 + 1); omega) (by show 0 ≤ (x12 + 1) ∧ (x12 + 1) ≤ x9; omega) (by show 0 ≤ (x13 + 1) ∧ (x13 + 1) ≤ x10; omega) (by show 0 ≤ (x14 + 1) ∧ (x14 + 1) ≤ 576; omega) (hv46_6) (hv46_7) (by omega)
                  · skip
                    unfold m_x11_unlike_J174
                    refine wp_rg (by omega) ?_
                    refine wp_if (fun c168 => ?_) (fun c168 => ?_)
                    · skip
                      unfold m_x11_unlike_J186
                      refine wp_rg (by omega) ?_
                      refine wp_rg (by omega) ?_
                      refine wp_if (fun c169 => ?_) (fun c169 => ?_)
                      · skip
                        unfold m_x11_unlike_J203
                        refine wp_rg (by omega) ?_
                        refine wp_rg (by omega) ?_
                        refine wp_if (fun c170 => ?_) (fun c170 => ?_)
                        · skip
                          unfold m_x11_unlike_J220
                          exact ih46 x8 x9 x10 (x11 + 1) (x12 + 0) (x13 + 0) (x14 + 1) s15 hRs15 (by show x8 = p2; omega) (by show x9 = qr147r ∧ x10 = qr150r; omega) (by show 0 ≤ (x11 + 1) ∧ (x11 + 1) ≤ (x14 + 1); omega) (by show 0 ≤ (x12 + 0) ∧ (x12 + 0) ≤ x9; omega) (by show 0 ≤ (x13 + 0) ∧ (x13 + 0) ≤ x10; omega) (by show 0 ≤ (x14 + 1) ∧ (x14 + 1) ≤ 576; omega) (hv46_6) (hv46_7) (by omega)
                        · skip
                          unfold m_x11_unlike_J220
                          exact ih46 x8 x9 x10 (x11 + 1) (x12 + 0) (x13 + 1) (x14 + 1) s15 hRs15 (by show x8 = p2; omega) (by show x9 = qr147r ∧ x10 = qr150r; omega) (by show 0 ≤ (x11 + 1) ∧ (x11 + 1) ≤ (x14 + 1); omega) (by show 0 ≤ (x12 + 0) ∧ (x12 + 0) ≤ x9; omega) (by show 0 ≤ (x13 + 1) ∧ (x13 + 1) ≤ x10; omega) (by show 0 ≤ (x14 + 1) ∧ (x14 + 1) ≤ 576; omega) (hv46_6) (hv46_7) (by omega)
                      · skip
                        unfold m_x11_unlike_J203
                        refine wp_rg (by omega) ?_
                        refine wp_rg (by omega) ?_
                        refine wp_if (fun c171 => ?_) (fun c171 => ?_)
                        · skip
                          unfold m_x11_unlike_J220
                          exact ih46 x8 x9 x10 (x11 + 1) (x12 + 1) (x13 + 0) (x14 + 1) s15 hRs15 (by show x8 = p2; omega) (by show x9 = qr147r ∧ x10 = qr150r; omega) (by show 0 ≤ (x11 + 1) ∧ (x11 + 1) ≤ (x14 + 1); omega) (by show 0 ≤ (x12 + 1) ∧ (x12 + 1) ≤ x9; omega) (by show 0 ≤ (x13 + 0) ∧ (x13 + 0) ≤ x10; omega) (by show 0 ≤ (x14 + 1) ∧ (x14 + 1) ≤ 576; omega) (hv46_6) (hv46_7) (by omega)
                        · skip
                          unfold m_x11_unlike_J220
                          exact ih46 x8 x9 x10 (x11 + 1) (x12 + 1) (x13 + 1) (x14 + 1) s15 hRs15 (by show x8 = p2; omega) (by show x9 = qr147r ∧ x10 = qr150r; omega) (by show 0 ≤ (x11 + 1) ∧ (x11 + 1) ≤ (x14 + 1); omega) (by show 0 ≤ (x12 + 1) ∧ (x12 + 1) ≤ x9; omega) (by show 0 ≤ (x13 + 1) ∧ (x13 + 1) ≤ x10; omega) (by show 0 ≤ (x14 + 1) ∧ (x14 + 1) ≤ 576; omega) (hv46_6) (hv46_7) (by omega)
                    · skip
                      unfold m_x11_unlike_J186
                      refine wp_rg (by omega) ?_
                      refine wp_rg (by omega) ?_
                      refine wp_if (fun c172 => ?_) (fun c172 => ?_)
                      · skip
                        unfold m_x11_unlike_J203
                        refine wp_rg (by omega) ?_
                        refine wp_rg (by omega) ?_
                        refine wp_if (fun c173 => ?_) (fun c173 => ?_)
                        · skip
                          unfold m_x11_unlike_J220
                          exact ih46 x8 x9 x10 (x11 + 0) (x12 + 0) (x13 + 0) (x14 + 1) s15 hRs15 (by show x8 = p2; omega) (by show x9 = qr147r ∧ x10 = qr150r; omega) (by show 0 ≤ (x11 + 0) ∧ (x11 + 0) ≤ (x14 + 1); omega) (by show 0 ≤ (x12 + 0) ∧ (x12 + 0) ≤ x9; omega) (by show 0 ≤ (x13 + 0) ∧ (x13 + 0) ≤ x10; omega) (by show 0 ≤ (x14 + 1) ∧ (x14 + 1) ≤ 576; omega) (hv46_6) (hv46_7) (by omega)
                        · skip
                          unfold m_x11_unlike_J220
                          exact ih46 x8 x9 x10 (x11 + 0) (x12 + 0) (x13 + 1) (x14 + 1) s15 hRs15 (by show x8 = p2; omega) (by show x9 = qr147r ∧ x10 = qr150r; omega) (by show 0 ≤ (x11 + 0) ∧ (x11 + 0) ≤ (x14 + 1); omega) (by show 0 ≤ (x12 + 0) ∧ (x12 + 0) ≤ x9; omega) (by show 0 ≤ (x13 + 1) ∧ (x13 + 1) ≤ x10; omega) (by show 0 ≤ (x14 + 1) ∧ (x14 + 1) ≤ 576; omega) (hv46_6) (hv46_7) (by omega)
                      · skip
                        unfold m_x11_unlike_J203
                        refine wp_rg (by omega) ?_
                        refine wp_rg (by omega) ?_
                        refine wp_if (fun c174 => ?_) (fun c174 => ?_)
                        · skip
                          unfold m_x11_unlike_J220
                          exact ih46 x8 x9 x10 (x11 + 0) (x12 + 1) (x13 + 0) (x14 + 1) s15 hRs15 (by show x8 = p2; omega) (by show x9 = qr147r ∧ x10 = qr150r; omega) (by show 0 ≤ (x11 + 0) ∧ (x11 + 0) ≤ (x14 + 1); omega) (by show 0 ≤ (x12 + 1) ∧ (x12 + 1) ≤ x9; omega) (by show 0 ≤ (x13 + 0) ∧ (x13 + 0) ≤ x10; omega) (by show 0 ≤ (x14 + 1) ∧ (x14 + 1) ≤ 576; omega) (hv46_6) (hv46_7) (by omega)
                        · skip
                          unfold m_x11_unlike_J220
                          exact ih46 x8 x9 x10 (x11 + 0) (x12 + 1) (x13 + 1) (x14 + 1) s15 hRs15 (by show x8 = p2; omega) (by show x9 = qr147r ∧ x10 = qr150r; omega) (by show 0 ≤ (x11 + 0) ∧ (x11 + 0) ≤ (x14 + 1); omega) (by show 0 ≤ (x12 + 1) ∧ (x12 + 1) ≤ x9; omega) (by show 0 ≤ (x13 + 1) ∧ (x13 + 1) ≤ x10; omega) (by show 0 ≤ (x14 + 1) ∧ (x14 + 1) ≤ 576; omega) (hv46_6) (hv46_7) (by omega)
                · skip
                  unfold m_x11_unlike_J152
                  unfold m_x11_unlike_J153
                  refine wp_rg (by omega) ?_
                  refine wp_if (fun c175 => ?_) (fun c175 => ?_)
                  · skip
                    refine wp_rg (by omega) ?_
                    refine wp_rg (by omega) ?_
                    refine wp_if (fun c176 => ?_) (fun c176 => ?_)
                    · skip
                      refine wp_rg (by omega) ?_
                      refine wp_rg (by omega) ?_
                      exact wp_some (hRs15)
                    · skip
                      unfold m_x11_unlike_J174
                      refine wp_rg (by omega) ?_
                      refine wp_if (fun c177 => ?_) (fun c177 => ?_)
                      · skip
                        unfold m_x11_unlike_J186
                        refine wp_rg (by omega) ?_
                        refine wp_rg (by omega) ?_
                        refine wp_if (fun c178 => ?_) (fun c178 => ?_)
                        · skip
                          unfold m_x11_unlike_J203
                          refine wp_rg (by omega) ?_
                          refine wp_rg (by omega) ?_
                          refine wp_if (fun c179 => ?_) (fun c179 => ?_)
                          · skip
                            unfold m_x11_unlike_J220
                            exact ih46 x8 x9 x10 (x11 + 1) (x12 + 0) (x13 + 0) (x14 + 1) s15 hRs15 (by show x8 = p2; omega) (by show x9 = qr147r ∧ x10 = qr150r; omega) (by show 0 ≤ (x11 + 1) ∧ (x11 + 1) ≤ (x14 + 1); omega) (by show 0 ≤ (x12 + 0) ∧ (x12 + 0) ≤ x9; omega) (by show 0 ≤ (x13 + 0) ∧ (x13 + 0) ≤ x10; omega) (by show 0 ≤ (x14 + 1) ∧ (x14 + 1) ≤ 576; omega) (hv46_6) (hv46_7) (by omega)
                          · skip
                            unfold m_x11_unlike_J220
                            exact ih46 x8 x9 x10 (x11 + 1) (x12 + 0) (x13 + 1) (x14 + 1) s15 hRs15 (by show x8 = p2; omega) (by show x9 = qr147r ∧ x10 = qr150r; omega) (by show 0 ≤ (x11 + 1) ∧ (x11 + 1) ≤ (x14 + 1); omega) (by show 0 ≤ (x12 + 0) ∧ (x12 + 0) ≤ x9; omega) (by show 0 ≤ (x13 + 1) ∧ (x13 + 1) ≤ x10; omega) (by show 0 ≤ (x14 + 1) ∧ (x14 + 1) ≤ 576; omega) (hv46_6) (hv46_7) (by omega)
                        · skip
                          unfold m_x11_unlike_J203
                          refine wp_rg (by omega) ?_
                          refine wp_rg (by omega) ?_
                          refine wp_if (fun c180 => ?_) (fun c180 => ?_)
                          · skip
                            unfold m_x11_unlike_J220
                            exact ih46 x8 x9 x10 (x11 + 1) (x12 + 1) (x13 + 0) (x14 + 1) s15 hRs15 (by show x8 = p2; omega) (by show x9 = qr147r ∧ x10 = qr150r; omega) (by show 0 ≤ (x11 + 1) ∧ (x11 + 1) ≤ (x14 + 1); omega) (by show 0 ≤ (x12 + 1) ∧ (x12 + 1) ≤ x9; omega) (by show 0 ≤ (x13 + 0) ∧ (x13 + 0) ≤ x10; omega) (by show 0 ≤ (x14 + 1) ∧ (x14 + 1) ≤ 576; omega) (hv46_6) (hv46_7) (by omega)
                          · skip
                            unfold m_x11_unlike_J220
                            exact ih46 x8 x9 x10 (x11 + 1) (x12 + 1) (x13 + 1) (x14 + 1) s15 hRs15 (by show x8 = p2; omega) (by show x9 = qr147r ∧ x10 = qr150r; omega) (by show 0 ≤ (x11 + 1) ∧ (x11 + 1) ≤ (x14 + 1); omega) (by show 0 ≤ (x12 + 1) ∧ (x12 + 1) ≤ x9; omega) (by show 0 ≤ (x13 + 1) ∧ (x13 + 1) ≤ x10; omega) (by show 0 ≤ (x14 + 1) ∧ (x14 + 1) ≤ 576; omega) (hv46_6) (hv46_7) (by omega)
                      · skip
                        unfold m_x11_unlike_J186
                        refine wp_rg (by omega) ?_
                        refine wp_rg (by omega) ?_
                        refine wp_if (fun c181 => ?_) (fun c181 => ?_)
                        · skip
                          unfold m_x11_unlike_J203
                          refine wp_rg (by omega) ?_
                          refine wp_rg (by omega) ?_
                          refine wp_if (fun c182 => ?_) (fun c182 => ?_)
                          · skip
                            unfold m_x11_unlike_J220
                            exact ih46 x8 x9 x10 (x11 + 0) (x12 + 0) (x13 + 0) (x14 + 1) s15 hRs15 (by show x8 = p2; omega) (by show x9 = qr147r ∧ x10 = qr150r; omega) (by show 0 ≤ (x11 + 0) ∧ (x11 + 0) ≤ (x14 + 1); omega) (by show 0 ≤ (x12 + 0) ∧ (x12 + 0) ≤ x9; omega) (by show 0 ≤ (x13 + 0) ∧ (x13 + 0) ≤ x10; omega) (by show 0 ≤ (x14 + 1) ∧ (x14 + 1) ≤ 576; omega) (hv46_6) (hv46_7) (by omega)
                          · skip
                            unfold m_x11_unlike_J220
                            exact ih46 x8 x9 x10 (x11 + 0) (x12 + 0) (x13 + 1) (x14 + 1) s15 hRs15 (by show x8 = p2; omega) (by show x9 = qr147r ∧ x10 = qr150r; omega) (by show 0 ≤ (x11 + 0) ∧ (x11 + 0) ≤ (x14 + 1); omega) (by show 0 ≤ (x12 + 0) ∧ (x12 + 0) ≤ x9; omega) (by show 0 ≤ (x13 + 1) ∧ (x13 + 1) ≤ x10; omega) (by show 0 ≤ (x14 + 1) ∧ (x14 + 1) ≤ 576; omega) (hv46_6) (hv46_7) (by omega)
                        · skip
                          unfold m_x11_unlike_J203
                          refine wp_rg (by omega) ?_
                          refine wp_rg (by omega) ?_
                          refine wp_if (fun c183 => ?_) (fun c183 => ?_)
                          · skip
                            unfold m_x11_unlike_J220
                            exact ih46 x8 x9 x10 (x11 + 0) (x12 + 1) (x13 + 0) (x14 + 1) s15 hRs15 (by show x8 = p2; omega) (by show x9 = qr147r ∧ x10 = qr150r; omega) (by show 0 ≤ (x11 + 0) ∧ (x11 + 0) ≤ (x14 + 1); omega) (by show 0 ≤ (x12 + 1) ∧ (x12 + 1) ≤ x9; omega) (by show 0 ≤ (x13 + 0) ∧ (x13 + 0) ≤ x10; omega) (by show 0 ≤ (x14 + 1) ∧ (x14 + 1) ≤ 576; omega) (hv46_6) (hv46_7) (by omega)
                          · skip
                            unfold m_x11_unlike_J220
                            exact ih46 x8 x9 x10 (x11 + 0) (x12 + 1) (x13 + 1) (x14 + 1) s15 hRs15 (by show x8 = p2; omega) (by show x9 = qr147r ∧ x10 = qr150r; omega) (by show 0 ≤ (x11 + 0) ∧ (x11 + 0) ≤ (x14 + 1); omega) (by show 0 ≤ (x12 + 1) ∧ (x12 + 1) ≤ x9; omega) (by show 0 ≤ (x13 + 1) ∧ (x13 + 1) ≤ x10; omega) (by show 0 ≤ (x14 + 1) ∧ (x14 + 1) ≤ 576; omega) (hv46_6) (hv46_7) (by omega)
                  · skip
                    unfold m_x11_unlike_J174
                    refine wp_rg (by omega) ?_
                    refine wp_if (fun c184 => ?_) (fun c184 => ?_)
                    · skip
                      unfold m_x11_unlike_J186
                      refine wp_rg (by omega) ?_
                      refine wp_rg (by omega) ?_
                      refine wp_if (fun c185 => ?_) (fun c185 => ?_)
                      · skip
                        unfold m_x11_unlike_J203
                        refine wp_rg (by omega) ?_
                        refine wp_rg (by omega) ?_
                        refine wp_if (fun c186 => ?_) (fun c186 => ?_)
                        · skip
                          unfold m_x11_unlike_J220
                          exact ih46 x8 x9 x10 (x11 + 1) (x12 + 0) (x13 + 0) (x14 + 1) s15 hRs15 (by show x8 = p2; omega) (by show x9 = qr147r ∧ x10 = qr150r; omega) (by show 0 ≤ (x11 + 1) ∧ (x11 + 1) ≤ (x14 + 1); omega) (by show 0 ≤ (x12 + 0) ∧ (x12 + 0) ≤ x9; omega) (by show 0 ≤ (x13 + 0) ∧ (x13 + 0) ≤ x10; omega) (by show 0 ≤ (x14 + 1) ∧ (x14 + 1) ≤ 576; omega) (hv46_6) (hv46_7) (by omega)
                        · skip
                          unfold m_x11_unlike_J220
                          exact ih46 x8 x9 x10 (x11 + 1) (x12 + 0) (x13 + 1) (x14 + 1) s15 hRs15 (by show x8 = p2; omega) (by show x9 = qr147r ∧ x10 = qr150r; omega) (by show 0 ≤ (x11 + 1) ∧ (x11 + 1) ≤ (x14 + 1); omega) (by show 0 ≤ (x12 + 0) ∧ (x12 + 0) ≤ x9; omega) (by show 0 ≤ (x13 + 1) ∧ (x13 + 1) ≤ x10; omega) (by show 0 ≤ (x14 + 1) ∧ (x14 + 1) ≤ 576; omega) (hv46_6) (hv46_7) (by omega)
                      · skip
                        unfold m_x11_unlike_J203
                        refine wp_rg (by omega) ?_
                        refine wp_rg (by omega) ?_
                        refine wp_if (fun c187 => ?_) (fun c187 => ?_)
                        · skip
                          unfold m_x11_unlike_J220
                          exact ih46 x8 x9 x10 (x11 + 1) (x12 + 1) (x13 + 0) (x14 + 1) s15 hRs15 (by show x8 = p2; omega) (by show x9 = qr147r ∧ x10 = qr150r; omega) (by show 0 ≤ (x11 + 1) ∧ (x11 + 1) ≤ (x14 + 1); omega) (by show 0 ≤ (x12 + 1) ∧ (x12 + 1) ≤ x9; omega) (by show 0 ≤ (x13 + 0) ∧ (x13 + 0) ≤ x10; omega) (by show 0 ≤ (x14 + 1) ∧ (x14 + 1) ≤ 576; omega) (hv46_6) (hv46_7) (by omega)
                        · skip
                          unfold m_x11_unlike_J220
                          exact ih46 x8 x9 x10 (x11 + 1) (x12 + 1) (x13 + 1) (x14 + 1) s15 hRs15 (by show x8 = p2; omega) (by show x9 = qr147r ∧ x10 = qr150r; omega) (by show 0 ≤ (x11 + 1) ∧ (x11 + 1) ≤ (x14 + 1); omega) (by show 0 ≤ (x12 + 1) ∧ (x12 + 1) ≤ x9; omega) (by show 0 ≤ (x13 + 1) ∧ (x13 + 1) ≤ x10; omega) (by show 0 ≤ (x14 + 1) ∧ (x14 + 1) ≤ 576; omega) (hv46_6) (hv46_7) (by omega)
                    · skip
                      unfold m_x11_unlike_J186
                      refine wp_rg (by omega) ?_
                      refine wp_rg (by omega) ?_
                      refine wp_if (fun c188 => ?_) (fun c188 => ?_)
                      · skip
                        unfold m_x11_unlike_J203
                        refine wp_rg (by omega) ?_
                        refine wp_rg (by omega) ?_
                        refine wp_if (fun c189 => ?_) (fun c189 => ?_)
                        · skip
                          unfold m_x11_unlike_J220
                          exact ih46 x8 x9 x10 (x11 + 0) (x12 + 0) (x13 + 0) (x14 + 1) s15 hRs15 (by show x8 = p2; omega) (by show x9 = qr147r ∧ x10 = qr150r; omega) (by show 0 ≤ (x11 + 0) ∧ (x11 + 0) ≤ (x14 + 1); omega) (by show 0 ≤ (x12 + 0) ∧ (x12 + 0) ≤ x9; omega) (by show 0 ≤ (x13 + 0) ∧ (x13 + 0) ≤ x10; omega) (by show 0 ≤ (x14 + 1) ∧ (x14 + 1) ≤ 576; omega) (hv46_6) (hv46_7) (by omega)
                        · skip
                          unfold m_x11_unlike_J220
                          exact ih46 x8 x9 x10 (x11 + 0) (x12 + 0) (x13 + 1) (x14 + 1) s15 hRs15 (by show x8 = p2; omega) (by show x9 = qr147r ∧ x10 = qr150r; omega) (by show 0 ≤ (x11 + 0) ∧ (x11 + 0) ≤ (x14 + 1); omega) (by show 0 ≤ (x12 + 0) ∧ (x12 + 0) ≤ x9; omega) (by show 0 ≤ (x13 + 1) ∧ (x13 + 1) ≤ x10; omega) (by show 0 ≤ (x14 + 1) ∧ (x14 + 1) ≤ 576; omega) (hv46_6) (hv46_7) (by omega)
                      · skip
                        unfold m_x11_unlike_J203
                        refine wp_rg (by omega) ?_
                        refine wp_rg (by omega) ?_
                        refine wp_if (fun c190 => ?_) (fun c190 => ?_)
                        · skip
                          unfold m_x11_unlike_J220
                          exact ih46 x8 x9 x10 (x11 + 0) (x12 + 1) (x13 + 0) (x14 + 1) s15 hRs15 (by show x8 = p2; omega) (by show x9 = qr147r ∧ x10 = qr150r; omega) (by show 0 ≤ (x11 + 0) ∧ (x11 + 0) ≤ (x14 + 1); omega) (by show 0 ≤ (x12 + 1) ∧ (x12 + 1) ≤ x9; omega) (by show 0 ≤ (x13 + 0) ∧ (x13 + 0) ≤ x10; omega) (by show 0 ≤ (x14 + 1) ∧ (x14 + 1) ≤ 576; omega) (hv46_6) (hv46_7) (by omega)
                        · skip
                          unfold m_x11_unlike_J220
                          exact ih46 x8 x9 x10 (x11 + 0) (x12 + 1) (x13 + 1) (x14 + 1) s15 hRs15 (by show x8 = p2; omega) (by show x9 = qr147r ∧ x10 = qr150r; omega) (by show 0 ≤ (x11 + 0) ∧ (x11 + 0) ≤ (x14 + 1); omega) (by show 0 ≤ (x12 + 1) ∧ (x12 + 1) ≤ x9; omega) (by show 0 ≤ (x13 + 1) ∧ (x13 + 1) ≤ x10; omega) (by show 0 ≤ (x14 + 1) ∧ (x14 + 1) ≤ 576; omega) (hv46_6) (hv46_7) (by omega)
              · skip
                unfold m_x11_unlike_J152
                unfold m_x11_unlike_J153
                refine wp_rg (by omega) ?_
                refine wp_if (fun c191 => ?_) (fun c191 => ?_)
                · skip
                  refine wp_rg (by omega) ?_
                  refine wp_rg (by omega) ?_
                  refine wp_if (fun c192 => ?_) (fun c192 => ?_)
                  · skip
                    refine wp_rg (by omega) ?_
                    refine wp_rg (by omega) ?_
                    exact wp_some (hRs15)
                  · skip
                    unfold m_x11_unlike_J174
                    refine wp_rg (by omega) ?_
                    refine wp_if (fun c193 => ?_) (fun c193 => ?_)
                    · skip
                      unfold m_x11_unlike_J186
                      refine wp_rg (by omega) ?_
                      refine wp_rg (by omega) ?_
                      refine wp_if (fun c194 => ?_) (fun c194 => ?_)
                      · skip
                        unfold m_x11_unlike_J203
                        refine wp_rg (by omega) ?_
                        refine wp_rg (by omega) ?_
                        refine wp_if (fun c195 => ?_) (fun c195 => ?_)
                        · skip
                          unfold m_x11_unlike_J220
                          exact ih46 x8 x9 x10 (x11 + 1) (x12 + 0) (x13 + 0) (x14 + 1) s15 hRs15 (by show x8 = p2; omega) (by show x9 = qr147r ∧ x10 = qr150r; omega) (by show 0 ≤ (x11 + 1) ∧ (x11 + 1) ≤ (x14 + 1); omega) (by show 0 ≤ (x12 + 0) ∧ (x12 + 0) ≤ x9; omega) (by show 0 ≤ (x13 + 0) ∧ (x13 + 0) ≤ x10; omega) (by show 0 ≤ (x14 + 1) ∧ (x14 + 1) ≤ 576; omega) (hv46_6) (hv46_7) (by omega)
                        · skip
                          unfold m_x11_unlike_J220
                          exact ih46 x8 x9 x10 (x11 + 1) (x12 + 0) (x13 + 1) (x14 + 1) s15 hRs15 (by show x8 = p2; omega) (by show x9 = qr147r ∧ x10 = qr150r; omega) (by show 0 ≤ (x11 + 1) ∧ (x11 + 1) ≤ (x14 + 1); omega) (by show 0 ≤ (x12 + 0) ∧ (x12 + 0) ≤ x9; omega) (by show 0 ≤ (x13 + 1) ∧ (x13 + 1) ≤ x10; omega) (by show 0 ≤ (x14 + 1) ∧ (x14 + 1) ≤ 576; omega) (hv46_6) (hv46_7) (by omega)
                      · skip
                        unfold m_x11_unlike_J203
                        refine wp_rg (by omega) ?_
                        refine wp_rg (by omega) ?_
                        refine wp_if (fun c196 => ?_) (fun c196 => ?_)
                        · skip
                          unfold m_x11_unlike_J220
                          exact ih46 x8 x9 x10 (x11 + 1) (x12 + 1) (x13 + 0) (x14 + 1) s15 hRs15 (by show x8 = p2; omega) (by show x9 = qr147r ∧ x10 = qr150r; omega) (by show 0 ≤ (x11 + 1) ∧ (x11 + 1) ≤ (x14 + 1); omega) (by show 0 ≤ (x12 + 1) ∧ (x12 + 1) ≤ x9; omega) (by show 0 ≤ (x13 + 0) ∧ (x13 + 0) ≤ x10; omega) (by show 0 ≤ (x14 + 1) ∧ (x14 + 1) ≤ 576; omega) (hv46_6) (hv46_7) (by omega)
                        · skip
                          unfold m_x11_unlike_J220
                          exact ih46 x8 x9 x10 (x11 + 1) (x12 + 1) (x13 + 1) (x14 + 1) s15 hRs15 (by show x8 = p2; omega) (by show x9 = qr147r ∧ x10 = qr150r; omega) (by show 0 ≤ (x11 + 1) ∧ (x11 + 1) ≤ (x14 + 1); omega) (by show 0 ≤ (x12 + 1) ∧ (x12 + 1) ≤ x9; omega) (by show 0 ≤ (x13 + 1) ∧ (x13 + 1) ≤ x10; omega) (by show 0 ≤ (x14 + 1) ∧ (x14 + 1) ≤ 576; omega) (hv46_6) (hv46_7) (by omega)
                    · skip
                      unfold m_x11_unlike_J186
                      refine wp_rg (by omega) ?_
                      refine wp_rg (by omega) ?_
                      refine wp_if (fun c197 => ?_) (fun c197 => ?_)
                      · skip
                        unfold m_x11_unlike_J203
                        refine wp_rg (by omega) ?_
                        refine wp_rg (by omega) ?_
                        refine wp_if (fun c198 => ?_) (fun c198 => ?_)
                        · skip
                          unfold m_x11_unlike_J220
                          exact ih46 x8 x9 x10 (x11 + 0) (x12 + 0) (x13 + 0) (x14 + 1) s15 hRs15 (by show x8 = p2; omega) (by show x9 = qr147r ∧ x10 = qr150r; omega) (by show 0 ≤ (x11 + 0) ∧ (x11 + 0) ≤ (x14 + 1); omega) (by show 0 ≤ (x12 + 0) ∧ (x12 + 0) ≤ x9; omega) (by show 0 ≤ (x13 + 0) ∧ (x13 + 0) ≤ x10; omega) (by show 0 ≤ (x14 + 1) ∧ (x14 + 1) ≤ 576; omega) (hv46_6) (hv46_7) (by omega)
                        · skip
                          unfold m_x11_unlike_J220
                          exact ih46 x8 x9 x10 (x11 + 0) (x12 + 0) (x13 + 1) (x14 + 1) s15 hRs15 (by show x8 = p2; omega) (by show x9 = qr147r ∧ x10 = qr150r; omega) (by show 0 ≤ (x11 + 0) ∧ (x11 + 0) ≤ (x14 + 1); omega) (by show 0 ≤ (x12 + 0) ∧ (x12 + 0) ≤ x9; omega) (by show 0 ≤ (x13 + 1) ∧ (x13 + 1) ≤ x10; omega) (by show 0 ≤ (x14 + 1) ∧ (x14 + 1) ≤ 576; omega) (hv46_6) (hv46_7) (by omega)
                      · skip
                        unfold m_x11_unlike_J203
                        refine wp_rg (by omega) ?_
                        refine wp_rg (by omega) ?_
                        refine wp_if (fun c199 => ?_) (fun c199 => ?_)
                        · skip
                          unfold m_x11_unlike_J220
                          exact ih46 x8 x9 x10 (x11 + 0) (x12 + 1) (x13 + 0) (x14 + 1) s15 hRs15 (by show x8 = p2; omega) (by show x9 = qr147r ∧ x10 = qr150r; omega) (by show 0 ≤ (x11 + 0) ∧ (x11 + 0) ≤ (x14 + 1); omega) (by show 0 ≤ (x12 + 1) ∧ (x12 + 1) ≤ x9; omega) (by show 0 ≤ (x13 + 0) ∧ (x13 + 0) ≤ x10; omega) (by show 0 ≤ (x14 + 1) ∧ (x14 + 1) ≤ 576; omega) (hv46_6) (hv46_7) (by omega)
                        · skip
                          unfold m_x11_unlike_J220
                          exact ih46 x8 x9 x10 (x11 + 0) (x12 + 1) (x13 + 1) (x14 + 1) s15 hRs15 (by show x8 = p2; omega) (by show x9 = qr147r ∧ x10 = qr150r; omega) (by show 0 ≤ (x11 + 0) ∧ (x11 + 0) ≤ (x14 + 1); omega) (by show 0 ≤ (x12 + 1) ∧ (x12 + 1) ≤ x9; omega) (by show 0 ≤ (x13 + 1) ∧ (x13 + 1) ≤ x10; omega) (by show 0 ≤ (x14 + 1) ∧ (x14 + 1) ≤ 576; omega) (hv46_6) (hv46_7) (by omega)
                · skip
                  unfold m_x11_unlike_J174
                  refine wp_rg (by omega) ?_
                  refine wp_if (fun c200 => ?_) (fun c200 => ?_)
                  · skip
                    unfold m_x11_unlike_J186
                    refine wp_rg (by omega) ?_
                    refine wp_rg (by omega) ?_
                    refine wp_if (fun c201 => ?_) (fun c201 => ?_)
                    · skip
                      unfold m_x11_unlike_J203
                      refine wp_rg (by omega) ?_
                      refine wp_rg (by omega) ?_
                      refine wp_if (fun c202 => ?_) (fun c202 => ?_)
                      · skip
                        unfold m_x11_unlike_J220
                        exact ih46 x8 x9 x10 (x11 + 1) (x12 + 0) (x13 + 0) (x14 + 1) s15 hRs15 (by show x8 = p2; omega) (by show x9 = qr147r ∧ x10 = qr150r; omega) (by show 0 ≤ (x11 + 1) ∧ (x11 + 1) ≤ (x14 + 1); omega) (by show 0 ≤ (x12 + 0) ∧ (x12 + 0) ≤ x9; omega) (by show 0 ≤ (x13 + 0) ∧ (x13 + 0) ≤ x10; omega) (by show 0 ≤ (x14 + 1) ∧ (x14 + 1) ≤ 576; omega) (hv46_6) (hv46_7) (by omega)
                      · skip
                        unfold m_x11_unlike_J220
                        exact ih46 x8 x9 x10 (x11 + 1) (x12 + 0) (x13 + 1) (x14 + 1) s15 hRs15 (by show x8 = p2; omega) (by show x9 = qr147r ∧ x10 = qr150r; omega) (by show 0 ≤ (x11 + 1) ∧ (x11 + 1) ≤ (x14 + 1); omega) (by show 0 ≤ (x12 + 0) ∧ (x12 + 0) ≤ x9; omega) (by show 0 ≤ (x13 + 1) ∧ (x13 + 1) ≤ x10; omega) (by show 0 ≤ (x14 + 1) ∧ (x14 + 1) ≤ 576; omega) (hv46_6) (hv46_7) (by omega)
                    · skip
                      unfold m_x11_unlike_J203
                      refine wp_rg (by omega) ?_
                      refine wp_rg (by omega) ?_
                      refine wp_if (fun c203 => ?_) (fun c203 => ?_)
                      · skip
                        unfold m_x11_unlike_J220
                        exact ih46 x8 x9 x10 (x11 + 1) (x12 + 1) (x13 + 0) (x14 + 1) s15 hRs15 (by show x8 = p2; omega) (by show x9 = qr147r ∧ x10 = qr150r; omega) (by show 0 ≤ (x11 + 1) ∧ (x11 + 1) ≤ (x14 + 1); omega) (by show 0 ≤ (x12 + 1) ∧ (x12 + 1) ≤ x9; omega) (by show 0 ≤ (x13 + 0) ∧ (x13 + 0) ≤ x10; omega) (by show 0 ≤ (x14 + 1) ∧ (x14 + 1) ≤ 576; omega) (hv46_6) (hv46_7) (by omega)
                      · skip
                        unfold m_x11_unlike_J220
                        exact ih46 x8 x9 x10 (x11 + 1) (x12 + 1) (x13 + 1) (x14 + 1) s15 hRs15 (by show x8 = p2; omega) (by show x9 = qr147r ∧ x10 = qr150r; omega) (by show 0 ≤ (x11 + 1) ∧ (x11 + 1) ≤ (x14 + 1); omega) (by show 0 ≤ (x12 + 1) ∧ (x12 + 1) ≤ x9; omega) (by show 0 ≤ (x13 + 1) ∧ (x13 + 1) ≤ x10; omega) (by show 0 ≤ (x14 + 1) ∧ (x14 + 1) ≤ 576; omega) (hv46_6) (hv46_7) (by omega)
                  · skip
                    unfold m_x11_unlike_J186
                    refine wp_rg (by omega) ?_
                    refine wp_rg (by omega) ?_
                    refine wp_if (fun c204 => ?_) (fun c204 => ?_)
                    · skip
                      unfold m_x11_unlike_J203
                      refine wp_rg (by omega) ?_
                      refine wp_rg (by omega) ?_
                      refine wp_if (fun c205 => ?_) (fun c205 => ?_)
                      · skip
                        unfold m_x11_unlike_J220
                        exact ih46 x8 x9 x10 (x11 + 0) (x12 + 0) (x13 + 0) (x14 + 1) s15 hRs15 (by show x8 = p2; omega) (by show x9 = qr147r ∧ x10 = qr150r; omega) (by show 0 ≤ (x11 + 0) ∧ (x11 + 0) ≤ (x14 + 1); omega) (by show 0 ≤ (x12 + 0) ∧ (x12 + 0) ≤ x9; omega) (by show 0 ≤ (x13 + 0) ∧ (x13 + 0) ≤ x10; omega) (by show 0 ≤ (x14 + 1) ∧ (x14 + 1) ≤ 576; omega) (hv46_6) (hv46_7) (by omega)
                      · skip
                        unfold m_x11_unlike_J220
                        exact ih46 x8 x9 x10 (x11 + 0) (x12 + 0) (x13 + 1) (x14 + 1) s15 hRs15 (by show x8 = p2; omega) (by show x9 = qr147r ∧ x10 = qr150r; omega) (by show 0 ≤ (x11 + 0) ∧ (x11 + 0) ≤ (x14 + 1); omega) (by show 0 ≤ (x12 + 0) ∧ (x12 + 0) ≤ x9; omega) (by show 0 ≤ (x13 + 1) ∧ (x13 + 1) ≤ x10; omega) (by show 0 ≤ (x14 + 1) ∧ (x14 + 1) ≤ 576; omega) (hv46_6) (hv46_7) (by omega)
                    · skip
                      unfold m_x11_unlike_J203
                      refine wp_rg (by omega) ?_
                      refine wp_rg (by omega) ?_
                      refine wp_if (fun c206 => ?_) (fun c206 => ?_)
                      · skip
                        unfold m_x11_unlike_J220
                        exact ih46 x8 x9 x10 (x11 + 0) (x12 + 1) (x13 + 0) (x14 + 1) s15 hRs15 (by show x8 = p2; omega) (by show x9 = qr147r ∧ x10 = qr150r; omega) (by show 0 ≤ (x11 + 0) ∧ (x11 + 0) ≤ (x14 + 1); omega) (by show 0 ≤ (x12 + 1) ∧ (x12 + 1) ≤ x9; omega) (by show 0 ≤ (x13 + 0) ∧ (x13 + 0) ≤ x10; omega) (by show 0 ≤ (x14 + 1) ∧ (x14 + 1) ≤ 576; omega) (hv46_6) (hv46_7) (by omega)
                      · skip
                        unfold m_x11_unlike_J220
                        exact ih46 x8 x9 x10 (x11 + 0) (x12 + 1) (x13 + 1) (x14 + 1) s15 hRs15 (by show x8 = p2; omega) (by show x9 = qr147r ∧ x10 = qr150r; omega) (by show 0 ≤ (x11 + 0) ∧ (x11 + 0) ≤ (x14 + 1); omega) (by show 0 ≤ (x12 + 1) ∧ (x12 + 1) ≤ x9; omega) (by show 0 ≤ (x13 + 1) ∧ (x13 + 1) ≤ x10; omega) (by show 0 ≤ (x14 + 1) ∧ (x14 + 1) ≤ 576; omega) (hv46_6) (hv46_7) (by omega)
        · skip
          refine wp_rg (by omega) ?_
          refine wp_rg (by omega) ?_
          refine wp_if (fun c207 => ?_) (fun c207 => ?_)
          · skip
            unfold m_x11_unlike_J229
            refine wp_rg (by omega) ?_
            refine wp_if (fun c208 => ?_) (fun c208 => ?_)
            · skip
              unfold m_x11_unlike_J240
              exact wp_some (hRs15)
            · skip
              unfold m_x11_unlike_J240
              exact wp_some (hRs15)
          · skip
            unfold m_x11_unlike_J68
            refine wp_rg (by omega) ?_
            refine wp_rg (by omega) ?_
            refine wp_if (fun c209 => ?_) (fun c209 => ?_)
            · skip
              unfold m_x11_unlike_J91
              refine wp_rg (by omega) ?_
              refine wp_rg (by omega) ?_
              refine wp_if (fun c210 => ?_) (fun c210 => ?_)
              · skip
                unfold m_x11_unlike_J116
                refine wp_rg (by omega) ?_
                refine wp_rg (by omega) ?_
                refine wp_if (fun c211 => ?_) (fun c211 => ?_)
                · skip
                  refine wp_rdIn (by omega) (fun y107 ey107 => ?_)
                  have by107 : (-2147483648 : Int) ≤ y107 ∧ y107 ≤ 2147483647 := ey107 ▸ hRs15.2.1 24 _ (by show _ < 288; omega)
                  refine wp_rdIn (by omega) (fun y108 ey108 => ?_)
                  have by108 : (-2147483648 : Int) ≤ y108 ∧ y108 ≤ 2147483647 := ey108 ▸ hRs15.2.1 28 _ (by show _ < 288; omega)
                  refine wp_rg (by omega) ?_
                  refine wp_rg (by omega) ?_
                  refine wp_if (fun c212 => ?_) (fun c212 => ?_)
                  · skip
                    unfold m_x11_unlike_J153
                    refine wp_rg (by omega) ?_
                    refine wp_if (fun c213 => ?_) (fun c213 => ?_)
                    · skip
                      refine wp_rg (by omega) ?_
                      refine wp_rg (by omega) ?_
                      refine wp_if (fun c214 => ?_) (fun c214 => ?_)
                      · skip
                        refine wp_rg (by omega) ?_
                        refine wp_rg (by omega) ?_
                        exact wp_some (hRs15)
                      · skip
                        unfold m_x11_unlike_J174
                        refine wp_rg (by omega) ?_
                        refine wp_if (fun c215 => ?_) (fun c215 => ?_)
                        · skip
                          unfold m_x11_unlike_J186
                          refine wp_rg (by omega) ?_
                          refine wp_rg (by omega) ?_
                          refine wp_if (fun c216 => ?_) (fun c216 => ?_)
                          · skip
                            unfold m_x11_unlike_J203
                            refine wp_rg (by omega) ?_
                            refine wp_rg (by omega) ?_
                            refine wp_if (fun c217 => ?_) (fun c217 => ?_)
                            · skip
                              unfold m_x11_unlike_J220
                              exact ih46 x8 x9 x10 (x11 + 1) (x12 + 0) (x13 + 0) (x14 + 1) s15 hRs15 (by show x8 = p2; omega) (by show x9 = qr147r ∧ x10 = qr150r; omega) (by show 0 ≤ (x11 + 1) ∧ (x11 + 1) ≤ (x14 + 1); omega) (by show 0 ≤ (x12 + 0) ∧ (x12 + 0) ≤ x9; omega) (by show 0 ≤ (x13 + 0) ∧ (x13 + 0) ≤ x10; omega) (by show 0 ≤ (x14 + 1) ∧ (x14 + 1) ≤ 576; omega) (hv46_6) (hv46_7) (by omega)
                            · skip
                              unfold m_x11_unlike_J220
                              exact ih46 x8 x9 x10 (x11 + 1) (x12 + 0) (x13 + 1) (x14 + 1) s15 hRs15 (by show x8 = p2; omega) (by show x9 = qr147r ∧ x10 = qr150r; omega) (by show 0 ≤ (x11 + 1) ∧ (x11 + 1) ≤ (x14 + 1); omega) (by show 0 ≤ (x12 + 0) ∧ (x12 + 0) ≤ x9; omega) (by show 0 ≤ (x13 + 1) ∧ (x13 + 1) ≤ x10; omega) (by show 0 ≤ (x14 + 1) ∧ (x14 + 1) ≤ 576; omega) (hv46_6) (hv46_7) (by omega)
                          · skip
                            unfold m_x11_unlike_J203
                            refine wp_rg (by omega) ?_
                            refine wp_rg (by omega) ?_
                            refine wp_if (fun c218 => ?_) (fun c218 => ?_)
                            · skip
                              unfold m_x11_unlike_J220
                              exact ih46 x8 x9 x10 (x11 + 1) (x12 + 1) (x13 + 0) (x14 + 1) s15 hRs15 (by show x8 = p2; omega) (by show x9 = qr147r ∧ x10 = qr150r; omega) (by show 0 ≤ (x11 + 1) ∧ (x11 + 1) ≤ (x14 + 1); omega) (by show 0 ≤ (x12 + 1) ∧ (x12 + 1) ≤ x9; omega) (by show 0 ≤ (x13 + 0) ∧ (x13 + 0) ≤ x10; omega) (by show 0 ≤ (x14 + 1) ∧ (x14 + 1) ≤ 576; omega) (hv46_6) (hv46_7) (by omega)
                            · skip
                              unfold m_x11_unlike_J220
                              exact ih46 x8 x9 x10 (x11 + 1) (x12 + 1) (x13 + 1) (x14 + 1) s15 hRs15 (by show x8 = p2; omega) (by show x9 = qr147r ∧ x10 = qr150r; omega) (by show 0 ≤ (x11 + 1) ∧ (x11 + 1) ≤ (x14 + 1); omega) (by show 0 ≤ (x12 + 1) ∧ (x12 + 1) ≤ x9; omega) (by show 0 ≤ (x13 + 1) ∧ (x13 + 1) ≤ x10; omega) (by show 0 ≤ (x14 + 1) ∧ (x14 + 1) ≤ 576; omega) (hv46_6) (hv46_7) (by omega)
                        · skip
                          unfold m_x11_unlike_J186
                          refine wp_rg (by omega) ?_
                          refine wp_rg (by omega) ?_
                          refine wp_if (fun c219 => ?_) (fun c219 => ?_)
                          · skip
                            unfold m_x11_unlike_J203
                            refine wp_rg (by omega) ?_
                            refine wp_rg (by omega) ?_
                            refine wp_if (fun c220 => ?_) (fun c220 => ?_)
                            · skip
                              unfold m_x11_unlike_J220
                              exact ih46 x8 x9 x10 (x11 + 0) (x12 + 0) (x13 + 0) (x14 + 1) s15 hRs15 (by show x8 = p2; omega) (by show x9 = qr147r ∧ x10 = qr150r; omega) (by show 0 ≤ (x11 + 0) ∧ (x11 + 0) ≤ (x14 + 1); omega) (by show 0 ≤ (x12 + 0) ∧ (x12 + 0) ≤ x9; omega) (by show 0 ≤ (x13 + 0) ∧ (x13 + 0) ≤ x10; omega) (by show 0 ≤ (x14 + 1) ∧ (x14 + 1) ≤ 576; omega) (hv46_6) (hv46_7) (by omega)
                            · skip
                              unfold m_x11_unlike_J220
                              exact ih46 x8 x9 x10 (x11 + 0) (x12 + 0) (x13 + 1) (x14 + 1) s15 hRs15 (by show x8 = p2; omega) (by show x9 = qr147r ∧ x10 = qr150r; omega) (by show 0 ≤ (x11 + 0) ∧ (x11 + 0) ≤ (x14 + 1); omega) (by show 0 ≤ (x12 + 0) ∧ (x12 + 0) ≤ x9; omega) (by show 0 ≤ (x13 + 1) ∧ (x13 + 1) ≤ x10; omega) (by show 0 ≤ (x14 + 1) ∧ (x14 + 1) ≤ 576; omega) (hv46_6) (hv46_7) (by omega)
                          · skip
                            unfold m_x11_unlike_J203
                            refine wp_rg (by omega) ?_
                            refine wp_rg (by omega) ?_
                            refine wp_if (fun c221 => ?_) (fun c221 => ?_)
                            · skip
                              unfold m_x11_unlike_J220
                              exact ih46 x8 x9 x10 (x11 + 0) (x12 + 1) (x13 + 0) (x14 + 1) s15 hRs15 (by show x8 = p2; omega) (by show x9 = qr147r ∧ x10 = qr150r; omega) (by show 0 ≤ (x11 + 0) ∧ (x11 + 0) ≤ (x14 + 1); omega) (by show 0 ≤ (x12 + 1) ∧ (x12 + 1) ≤ x9; omega) (by show 0 ≤ (x13 + 0) ∧ (x13 + 0) ≤ x10; omega) (by show 0 ≤ (x14 + 1) ∧ (x14 + 1) ≤ 576; omega) (hv46_6) (hv46_7) (by omega)
                            · skip
                              unfold m_x11_unlike_J220
                              exact ih46 x8 x9 x10 (x11 + 0) (x12 + 1) (x13 + 1) (x14 + 1) s15 hRs15 (by show x8 = p2; omega) (by show x9 = qr147r ∧ x10 = qr150r; omega) (by show 0 ≤ (x11 + 0) ∧ (x11 + 0) ≤ (x14 + 1); omega) (by show 0 ≤ (x12 + 1) ∧ (x12 + 1) ≤ x9; omega) (by show 0 ≤ (x13 + 1) ∧ (x13 + 1) ≤ x10; omega) (by show 0 ≤ (x14 + 1) ∧ (x14 + 1) ≤ 576; omega) (hv46_6) (hv46_7) (by omega)
                    · skip
                      unfold m_x11_unlike_J174
                      refine wp_rg (by omega) ?_
                      refine wp_if (fun c222 => ?_) (fun c222 => ?_)
                      · skip
                        unfold m_x11_unlike_J186
                        refine wp_rg (by omega) ?_
                        refine wp_rg (by omega) ?_
                        refine wp_if (fun c223 => ?_) (fun c223 => ?_)
                        · skip
                          unfold m_x11_unlike_J203
                          refine wp_rg (by omega) ?_
                          refine wp_rg (by omega) ?_
                          refine wp_if (fun c224 => ?_) (fun c224 => ?_)
                          · skip
                            unfold m_x11_unlike_J220
                            exact ih46 x8 x9 x10 (x11 + 1) (x12 + 0) (x13 + 0) (x14 + 1) s15 hRs15 (by show x8 = p2; omega) (by show x9 = qr147r ∧ x10 = qr150r; omega) (by show 0 ≤ (x11 + 1) ∧ (x11 + 1) ≤ (x14 + 1); omega) (by show 0 ≤ (x12 + 0) ∧ (x12 + 0) ≤ x9; omega) (by show 0 ≤ (x13 + 0) ∧ (x13 + 0) ≤ x10; omega) (by show 0 ≤ (x14 + 1) ∧ (x14 + 1) ≤ 576; omega) (hv46_6) (hv46_7) (by omega)
                          · skip
                            unfold m_x11_unlike_J220
                            exact ih46 x8 x9 x10 (x11 + 1) (x12 + 0) (x13 + 1) (x14 + 1) s15 hRs15 (by show x8 = p2; omega) (by show x9 = qr147r ∧ x10 = qr150r; omega) (by show 0 ≤ (x11 + 1) ∧ (x11 + 1) ≤ (x14 + 1); omega) (by show 0 ≤ (x12 + 0) ∧ (x12 + 0) ≤ x9; omega) (by show 0 ≤ (x13 + 1) ∧ (x13 + 1) ≤ x10; omega) (by show 0 ≤ (x14 + 1) ∧ (x14 + 1) ≤ 576; omega) (hv46_6) (hv46_7) (by omega)
                        · skip
                          unfold m_x11_unlike_J203
                          refine wp_rg (by omega) ?_
                          refine wp_rg (by omega) ?_
                          refine wp_if (fun c225 => ?_) (fun c225 => ?_)
                          · skip
                            unfold m_x11_unlike_J220
                            exact ih46 x8 x9 x10 (x11 + 1) (x12 + 1) (x13 + 0) (x14 + 1) s15 hRs15 (by show x8 = p2; omega) (by show x9 = qr147r ∧ x10 = qr150r; omega) (by show 0 ≤ (x11 + 1) ∧ (x11 + 1) ≤ (x14 + 1); omega) (by show 0 ≤ (x12 + 1) ∧ (x12 + 1) ≤ x9; omega) (by show 0 ≤ (x13 + 0) ∧ (x13 + 0) ≤ x10; omega) (by show 0 ≤ (x14 + 1) ∧ (x14 + 1) ≤ 576; omega) (hv46_6) (hv46_7) (by omega)
                          · skip
                            unfold m_x11_unlike_J220
                            exact ih46 x8 x9 x10 (x11 + 1) (x12 + 1) (x13 + 1) (x14 + 1) s15 hRs15 (by show x8 = p2; omega) (by show x9 = qr147r ∧ x10 = qr150r; omega) (by show 0 ≤ (x11 + 1) ∧ (x11 + 1) ≤ (x14 + 1); omega) (by show 0 ≤ (x12 + 1) ∧ (x12 + 1) ≤ x9; omega) (by show 0 ≤ (x13 + 1) ∧ (x13 + 1) ≤ x10; omega) (by show 0 ≤ (x14 + 1) ∧ (x14 + 1) ≤ 576; omega) (hv46_6) (hv46_7) (by omega)
                      · skip
                        unfold m_x11_unlike_J186
                        refine wp_rg (by omega) ?_
                        refine wp_rg (by omega) ?_
                        refine wp_if (fun c226 => ?_) (fun c226 => ?_)
                        · skip
                          unfold m_x11_unlike_J203
                          refine wp_rg (by omega) ?_
                          refine wp_rg (by omega) ?_
                          refine wp_if (fun c227 => ?_) (fun c227 => ?_)
                          · skip
                            unfold m_x11_unlike_J220
                            exact ih46 x8 x9 x10 (x11 + 0) (x12 + 0) (x13 + 0) (x14 + 1) s15 hRs15 (by show x8 = p2; omega) (by show x9 = qr147r ∧ x10 = qr150r; omega) (by show 0 ≤ (x11 + 0) ∧ (x11 + 0) ≤ (x14 + 1); omega) (by show 0 ≤ (x12 + 0) ∧ (x12 + 0) ≤ x9; omega) (by show 0 ≤ (x13 + 0) ∧ (x13 + 0) ≤ x10; omega) (by show 0 ≤ (x14 + 1) ∧ (x14 + 1) ≤ 576; omega) (hv46_6) (hv46_7) (by omega)
                          · skip
                            unfold m_x11_unlike_J220
                            exact ih46 x8 x9 x10 (x11 + 0) (x12 + 0) (x13 + 1) (x14 + 1) s15 hRs15 (by show x8 = p2; omega) (by show x9 = qr147r ∧ x10 = qr150r; omega) (by show 0 ≤ (x11 + 0) ∧ (x11 + 0) ≤ (x14 + 1); omega) (by show 0 ≤ (x12 + 0) ∧ (x12 + 0) ≤ x9; omega) (by show 0 ≤ (x13 + 1) ∧ (x13 + 1) ≤ x10; omega) (by show 0 ≤ (x14 + 1) ∧ (x14 + 1) ≤ 576; omega) (hv46_6) (hv46_7) (by omega)
                        · skip
                          unfold m_x11_unlike_J203
                          refine wp_rg (by omega) ?_
                          refine wp_rg (by omega) ?_
                          refine wp_if (fun c228 => ?_) (fun c228 => ?_)
                          · skip
                            unfold m_x11_unlike_J220
                            exact ih46 x8 x9 x10 (x11 + 0) (x12 + 1) (x13 + 0) (x14 + 1) s15 hRs15 (by show x8 = p2; omega) (by show x9 = qr147r ∧ x10 = qr150r; omega) (by show 0 ≤ (x11 + 0) ∧ (x11 + 0) ≤ (x14 + 1); omega) (by show 0 ≤ (x12 + 1) ∧ (x12 + 1) ≤ x9; omega) (by show 0 ≤ (x13 + 0) ∧ (x13 + 0) ≤ x10; omega) (by show 0 ≤ (x14 + 1) ∧ (x14 + 1) ≤ 576; omega) (hv46_6) (hv46_7) (by omega)
                          · skip
                            unfold m_x11_unlike_J220
                            exact ih46 x8 x9 x10 (x11 + 0) (x12 + 1) (x13 + 1) (x14 + 1) s15 hRs15 (by show x8 = p2; omega) (by show x9 = qr147r ∧ x10 = qr150r; omega) (by show 0 ≤ (x11 + 0) ∧ (x11 + 0) ≤ (x14 + 1); omega) (by show 0 ≤ (x12 + 1) ∧ (x12 + 1) ≤ x9; omega) (by show 0 ≤ (x13 + 1) ∧ (x13 + 1) ≤ x10; omega) (by show 0 ≤ (x14 + 1) ∧ (x14 + 1) ≤ 576; omega) (hv46_6) (hv46_7) (by omega)
                  · skip
                    unfold m_x11_unlike_J152
                    unfold m_x11_unlike_J153
                    refine wp_rg (by omega) ?_
                    refine wp_if (fun c229 => ?_) (fun c229 => ?_)
                    · skip
                      refine wp_rg (by omega) ?_
                      refine wp_rg (by omega) ?_
                      refine wp_if (fun c230 => ?_) (fun c230 => ?_)
                      · skip
                        refine wp_rg (by omega) ?_
                        refine wp_rg (by omega) ?_
                        exact wp_some (hRs15)
                      · skip
                        unfold m_x11_unlike_J174
                        refine wp_rg (by omega) ?_
                        refine wp_if (fun c231 => ?_) (fun c231 => ?_)
                        · skip
                          unfold m_x11_unlike_J186
                          refine wp_rg (by omega) ?_
                          refine wp_rg (by omega) ?_
                          refine wp_if (fun c232 => ?_) (fun c232 => ?_)
                          · skip
                            unfold m_x11_unlike_J203
                            refine wp_rg (by omega) ?_
                            refine wp_rg (by omega) ?_
                            refine wp_if (fun c233 => ?_) (fun c233 => ?_)
                            · skip
                              unfold m_x11_unlike_J220
                              exact ih46 x8 x9 x10 (x11 + 1) (x12 + 0) (x13 + 0) (x14 + 1) s15 hRs15 (by show x8 = p2; omega) (by show x9 = qr147r ∧ x10 = qr150r; omega) (by show 0 ≤ (x11 + 1) ∧ (x11 + 1) ≤ (x14 + 1); omega) (by show 0 ≤ (x12 + 0) ∧ (x12 + 0) ≤ x9; omega) (by show 0 ≤ (x13 + 0) ∧ (x13 + 0) ≤ x10; omega) (by show 0 ≤ (x14 + 1) ∧ (x14 + 1) ≤ 576; omega) (hv46_6) (hv46_7) (by omega)
                            · skip
                              unfold m_x11_unlike_J220
                              exact ih46 x8 x9 x10 (x11 + 1) (x12 + 0) (x13 + 1) (x14 + 1) s15 hRs15 (by show x8 = p2; omega) (by show x9 = qr147r ∧ x10 = qr150r; omega) (by show 0 ≤ (x11 + 1) ∧ (x11 + 1) ≤ (x14 + 1); omega) (by show 0 ≤ (x12 + 0) ∧ (x12 + 0) ≤ x9; omega) (by show 0 ≤ (x13 + 1) ∧ (x13 + 1) ≤ x10; omega) (by show 0 ≤ (x14 + 1) ∧ (x14 + 1) ≤ 576; omega) (hv46_6) (hv46_7) (by omega)
                          · skip
                            unfold m_x11_unlike_J203
                            refine wp_rg (by omega) ?_
                            refine wp_rg (by omega) ?_
                            refine wp_if (fun c234 => ?_) (fun c234 => ?_)
                            · skip
                              unfold m_x11_unlike_J220
                              exact ih46 x8 x9 x10 (x11 + 1) (x12 + 1) (x13 + 0) (x14 + 1) s15 hRs15 (by show x8 = p2; omega) (by show x9 = qr147r ∧ x10 = qr150r; omega) (by show 0 ≤ (x11 + 1) ∧ (x11 + 1) ≤ (x14 + 1); omega) (by show 0 ≤ (x12 + 1) ∧ (x12 + 1) ≤ x9; omega) (by show 0 ≤ (x13 + 0) ∧ (x13 + 0) ≤ x10; omega) (by show 0 ≤ (x14 + 1) ∧ (x14 + 1) ≤ 576; omega) (hv46_6) (hv46_7) (by omega)
                            · skip
                              unfold m_x11_unlike_J220
                              exact ih46 x8 x9 x10 (x11 + 1) (x12 + 1) (x13 + 1) (x14 + 1) s15 hRs15 (by show x8 = p2; omega) (by show x9 = qr147r ∧ x10 = qr150r; omega) (by show 0 ≤ (x11 + 1) ∧ (x11 + 1) ≤ (x14 + 1); omega) (by show 0 ≤ (x12 + 1) ∧ (x12 + 1) ≤ x9; omega) (by show 0 ≤ (x13 + 1) ∧ (x13 + 1) ≤ x10; omega) (by show 0 ≤ (x14 + 1) ∧ (x14 + 1) ≤ 576; omega) (hv46_6) (hv46_7) (by omega)
                        · skip
                          unfold m_x11_unlike_J186
                          refine wp_rg (by omega) ?_
                          refine wp_rg (by omega) ?_
                          refine wp_if (fun c235 => ?_) (fun c235 => ?_)
                          · skip
                            unfold m_x11_unlike_J203
                            refine wp_rg (by omega) ?_
                            refine wp_rg (by omega) ?_
                            refine wp_if (fun c236 => ?_) (fun c236 => ?_)
                            · skip
                              unfold m_x11_unlike_J220
                              exact ih46 x8 x9 x10 (x11 + 0) (x12 + 0) (x13 + 0) (x14 + 1) s15 hRs15 (by show x8 = p2; omega) (by show x9 = qr147r ∧ x10 = qr150r; omega) (by show 0 ≤ (x11 + 0) ∧ (x11 + 0) ≤ (x14 + 1); omega) (by show 0 ≤ (x12 + 0) ∧ (x12 + 0) ≤ x9; omega) (by show 0 ≤ (x13 + 0) ∧ (x13 + 0) ≤ x10; omega) (by show 0 ≤ (x14 + 1) ∧ (x14 + 1) ≤ 576; omega) (hv46_6) (hv46_7) (by omega)
                            · skip
                              unfold m_x11_unlike_J220
                              exact ih46 x8 x9 x10 (x11 + 0) (x12 + 0) (x13 + 1) (x14 + 1) s15 hRs15 (by show x8 = p2; omega) (by show x9 = qr147r ∧ x10 = qr150r; omega) (by show 0 ≤ (x11 + 0) ∧ (x11 + 0) ≤ (x14 + 1); omega) (by show 0 ≤ (x12 + 0) ∧ (x12 + 0) ≤ x9; omega) (by show 0 ≤ (x13 + 1) ∧ (x13 + 1) ≤ x10; omega) (by show 0 ≤ (x14 + 1) ∧ (x14 + 1) ≤ 576; omega) (hv46_6) (hv46_7) (by omega)
                          · skip
                            unfold m_x11_unlike_J203
                            refine wp_rg (by omega) ?_
                            refine wp_rg (by omega) ?_
                            refine wp_if (fun c237 => ?_) (fun c237 => ?_)
                            · skip
                              unfold m_x11_unlike_J220
                              exact ih46 x8 x9 x10 (x11 + 0) (x12 + 1) (x13 + 0) (x14 + 1) s15 hRs15 (by show x8 = p2; omega) (by show x9 = qr147r ∧ x10 = qr150r; omega) (by show 0 ≤ (x11 + 0) ∧ (x11 + 0) ≤ (x14 + 1); omega) (by show 0 ≤ (x12 + 1) ∧ (x12 + 1) ≤ x9; omega) (by show 0 ≤ (x13 + 0) ∧ (x13 + 0) ≤ x10; omega) (by show 0 ≤ (x14 + 1) ∧ (x14 + 1) ≤ 576; omega) (hv46_6) (hv46_7) (by omega)
                            · skip
                              unfold m_x11_unlike_J220
                              exact ih46 x8 x9 x10 (x11 + 0) (x12 + 1) (x13 + 1) (x14 + 1) s15 hRs15 (by show x8 = p2; omega) (by show x9 = qr147r ∧ x10 = qr150r; omega) (by show 0 ≤ (x11 + 0) ∧ (x11 + 0) ≤ (x14 + 1); omega) (by show 0 ≤ (x12 + 1) ∧ (x12 + 1) ≤ x9; omega) (by show 0 ≤ (x13 + 1) ∧ (x13 + 1) ≤ x10; omega) (by show 0 ≤ (x14 + 1) ∧ (x14 + 1) ≤ 576; omega) (hv46_6) (hv46_7) (by omega)
                    · skip
                      unfold m_x11_unlike_J174
                      refine wp_rg (by omega) ?_
                      refine wp_if (fun c238 => ?_) (fun c238 => ?_)
                      · skip
                        unfold m_x11_unlike_J186
                        refine wp_rg (by omega) ?_
                        refine wp_rg (by omega) ?_
                        refine wp_if (fun c239 => ?_) (fun c239 => ?_)
                        · skip
                          unfold m_x11_unlike_J203
                          refine wp_rg (by omega) ?_
                          refine wp_rg (by omega) ?_
                          refine wp_if (fun c240 => ?_) (fun c240 => ?_)
                          · skip
                            unfold m_x11_unlike_J220
                            exact ih46 x8 x9 x10 (x11 + 1) (x12 + 0) (x13 + 0) (x14 + 1) s15 hRs15 (by show x8 = p2; omega) (by show x9 = qr147r ∧ x10 = qr150r; omega) (by show 0 ≤ (x11 + 1) ∧ (x11 + 1) ≤ (x14 + 1); omega) (by show 0 ≤ (x12 + 0) ∧ (x12 + 0) ≤ x9; omega) (by show 0 ≤ (x13 + 0) ∧ (x13 + 0) ≤ x10; omega) (by show 0 ≤ (x14 + 1) ∧ (x14 + 1) ≤ 576; omega) (hv46_6) (hv46_7) (by omega)
                          · skip
                            unfold m_x11_unlike_J220
                            exact ih46 x8 x9 x10 (x11 + 1) (x12 + 0) (x13 + 1) (x14 + 1) s15 hRs15 (by show x8 = p2; omega) (by show x9 = qr147r ∧ x10 = qr150r; omega) (by show 0 ≤ (x11 + 1) ∧ (x11 + 1) ≤ (x14 + 1); omega) (by show 0 ≤ (x12 + 0) ∧ (x12 + 0) ≤ x9; omega) (by show 0 ≤ (x13 + 1) ∧ (x13 + 1) ≤ x10; omega) (by show 0 ≤ (x14 + 1) ∧ (x14 + 1) ≤ 576; omega) (hv46_6) (hv46_7) (by omega)
                        · skip
                          unfold m_x11_unlike_J203
                          refine wp_rg (by omega) ?_
                          refine wp_rg (by omega) ?_
                          refine wp_if (fun c241 => ?_) (fun c241 => ?_)
                          · skip
                            unfold m_x11_unlike_J220
                            exact ih46 x8 x9 x10 (x11 + 1) (x12 + 1) (x13 + 0) (x14 + 1) s15 hRs15 (by show x8 = p2; omega) (by show x9 = qr147r ∧ x10 = qr150r; omega) (by show 0 ≤ (x11 + 1) ∧ (x11 + 1) ≤ (x14 + 1); omega) (by show 0 ≤ (x12 + 1) ∧ (x12 + 1) ≤ x9; omega) (by show 0 ≤ (x13 + 0) ∧ (x13 + 0) ≤ x10; omega) (by show 0 ≤ (x14 + 1) ∧ (x14 + 1) ≤ 576; omega) (hv46_6) (hv46_7) (by omega)
                          · skip
                            unfold m_x11_unlike_J220
                            exact ih46 x8 x9 x10 (x11 + 1) (x12 + 1) (x13 + 1) (x14 + 1) s15 hRs15 (by show x8 = p2; omega) (by show x9 = qr147r ∧ x10 = qr150r; omega) (by show 0 ≤ (x11 + 1) ∧ (x11 + 1) ≤ (x14 + 1); omega) (by show 0 ≤ (x12 + 1) ∧ (x12 + 1) ≤ x9; omega) (by show 0 ≤ (x13 + 1) ∧ (x13 + 1) ≤ x10; omega) (by show 0 ≤ (x14 + 1) ∧ (x14 + 1) ≤ 576; omega) (hv46_6) (hv46_7) (by omega)
                      · skip
                        unfold m_x11_unlike_J186
                        refine wp_rg (by omega) ?_
                        refine wp_rg (by omega) ?_
                        refine wp_if (fun c242 => ?_) (fun c242 => ?_)
                        · skip
                          unfold m_x11_unlike_J203
                          refine wp_rg (by omega) ?_
                          refine wp_rg (by omega) ?_
                          refine wp_if (fun c243 => ?_) (fun c243 => ?_)
                          · skip
                            unfold m_x11_unlike_J220
                            exact ih46 x8 x9 x10 (x11 + 0) (x12 + 0) (x13 + 0) (x14 + 1) s15 hRs15 (by show x8 = p2; omega) (by show x9 = qr147r ∧ x10 = qr150r; omega) (by show 0 ≤ (x11 + 0) ∧ (x11 + 0) ≤ (x14 + 1); omega) (by show 0 ≤ (x12 + 0) ∧ (x12 + 0) ≤ x9; omega) (by show 0 ≤ (x13 + 0) ∧ (x13 + 0) ≤ x10; omega) (by show 0 ≤ (x14 + 1) ∧ (x14 + 1) ≤ 576; omega) (hv46_6) (hv46_7) (by omega)
                          · skip
                            unfold m_x11_unlike_J220
                            exact ih46 x8 x9 x10 (x11 + 0) (x12 + 0) (x13 + 1) (x14 + 1) s15 hRs15 (by show x8 = p2; omega) (by show x9 = qr147r ∧ x10 = qr150r; omega) (by show 0 ≤ (x11 + 0) ∧ (x11 + 0) ≤ (x14 + 1); omega) (by show 0 ≤ (x12 + 0) ∧ (x12 + 0) ≤ x9; omega) (by show 0 ≤ (x13 + 1) ∧ (x13 + 1) ≤ x10; omega) (by show 0 ≤ (x14 + 1) ∧ (x14 + 1) ≤ 576; omega) (hv46_6) (hv46_7) (by omega)
                        · skip
                          unfold m_x11_unlike_J203
                          refine wp_rg (by omega) ?_
                          refine wp_rg (by omega) ?_
                          refine wp_if (fun c244 => ?_) (fun c244 => ?_)
                          · skip
                            unfold m_x11_unlike_J220
                            exact ih46 x8 x9 x10 (x11 + 0) (x12 + 1) (x13 + 0) (x14 + 1) s15 hRs15 (by show x8 = p2; omega) (by show x9 = qr147r ∧ x10 = qr150r; omega) (by show 0 ≤ (x11 + 0) ∧ (x11 + 0) ≤ (x14 + 1); omega) (by show 0 ≤ (x12 + 1) ∧ (x12 + 1) ≤ x9; omega) (by show 0 ≤ (x13 + 0) ∧ (x13 + 0) ≤ x10; omega) (by show 0 ≤ (x14 + 1) ∧ (x14 + 1) ≤ 576; omega) (hv46_6) (hv46_7) (by omega)
                          · skip
                            unfold m_x11_unlike_J220
                            exact ih46 x8 x9 x10 (x11 + 0) (x12 + 1) (x13 + 1) (x14 + 1) s15 hRs15 (by show x8 = p2; omega) (by show x9 = qr147r ∧ x10 = qr150r; omega) (by show 0 ≤ (x11 + 0) ∧ (x11 + 0) ≤ (x14 + 1); omega) (by show 0 ≤ (x12 + 1) ∧ (x12 + 1) ≤ x9; omega) (by show 0 ≤ (x13 + 1) ∧ (x13 + 1) ≤ x10; omega) (by show 0 ≤ (x14 + 1) ∧ (x14 + 1) ≤ 576; omega) (hv46_6) (hv46_7) (by omega)
                · skip
                  unfold m_x11_unlike_J152
                  unfold m_x11_unlike_J153
                  refine wp_rg (by omega) ?_
                  refine wp_if (fun c245 => ?_) (fun c245 => ?_)
                  · skip
                    refine wp_rg (by omega) ?_
                    refine wp_rg (by omega) ?_
                    refine wp_if (fun c246 => ?_) (fun c246 => ?_)
                    · skip
                      refine wp_rg (by omega) ?_
                      refine wp_rg (by omega) ?_
                      exact wp_some (hRs15)
                    · skip
                      unfold m_x11_unlike_J174
                      refine wp_rg (by omega) ?_
                      refine wp_if (fun c247 => ?_) (fun c247 => ?_)
                      · skip
                        unfold m_x11_unlike_J186
                        refine wp_rg (by omega) ?_
                        refine wp_rg (by omega) ?_
                        refine wp_if (fun c248 => ?_) (fun c248 => ?_)
                        · skip
                          unfold m_x11_unlike_J203
                          refine wp_rg (by omega) ?_
                          refine wp_rg (by omega) ?_
                          refine wp_if (fun c249 => ?_) (fun c249 => ?_)
                          · skip
                            unfold m_x11_unlike_J220
                            exact ih46 x8 x9 x10 (x11 + 1) (x12 + 0) (x13 + 0) (x14 + 1) s15 hRs15 (by show x8 = p2; omega) (by show x9 = qr147r ∧ x10 = qr150r; omega) (by show 0 ≤ (x11 + 1) ∧ (x11 + 1) ≤ (x14 + 1); omega) (by show 0 ≤ (x12 + 0) ∧ (x12 + 0) ≤ x9; omega) (by show 0 ≤ (x13 + 0) ∧ (x13 + 0) ≤ x10; omega) (by show 0 ≤ (x14 + 1) ∧ (x14 + 1) ≤ 576; omega) (hv46_6) (hv46_7) (by omega)
                          · skip
                            unfold m_x11_unlike_J220
                            exact ih46 x8 x9 x10 (x11 + 1) (x12 + 0) (x13 + 1) (x14 + 1) s15 hRs15 (by show x8 = p2; omega) (by show x9 = qr147r ∧ x10 = qr150r; omega) (by show 0 ≤ (x11 + 1) ∧ (x11 + 1) ≤ (x14 + 1); omega) (by show 0 ≤ (x12 + 0) ∧ (x12 + 0) ≤ x9; omega) (by show 0 ≤ (x13 + 1) ∧ (x13 + 1) ≤ x10; omega) (by show 0 ≤ (x14 + 1) ∧ (x14 + 1) ≤ 576; omega) (hv46_6) (hv46_7) (by omega)
                        · skip
                          unfold m_x11_unlike_J203
                          refine wp_rg (by omega) ?_
                          refine wp_rg (by omega) ?_
                          refine wp_if (fun c250 => ?_) (fun c250 => ?_)
                          · skip
                            unfold m_x11_unlike_J220
                            exact ih46 x8 x9 x10 (x11 + 1) (x12 + 1) (x13 + 0) (x14 + 1) s15 hRs15 (by show x8 = p2; omega) (by show x9 = qr147r ∧ x10 = qr150r; omega) (by show 0 ≤ (x11 + 1) ∧ (x11 + 1) ≤ (x14 + 1); omega) (by show 0 ≤ (x12 + 1) ∧ (x12 + 1) ≤ x9; omega) (by show 0 ≤ (x13 + 0) ∧ (x13 + 0) ≤ x10; omega) (by show 0 ≤ (x14 + 1) ∧ (x14 + 1) ≤ 576; omega) (hv46_6) (hv46_7) (by omega)
                          · skip
                            unfold m_x11_unlike_J220
                            exact ih46 x8 x9 x10 (x11 + 1) (x12 + 1) (x13 + 1) (x14 + 1) s15 hRs15 (by show x8 = p2; omega) (by show x9 = qr147r ∧ x10 = qr150r; omega) (by show 0 ≤ (x11 + 1) ∧ (x11 + 1) ≤ (x14 + 1); omega) (by show 0 ≤ (x12 + 1) ∧ (x12 + 1) ≤ x9; omega) (by show 0 ≤ (x13 + 1) ∧ (x13 + 1) ≤ x10; omega) (by show 0 ≤ (x14 + 1) ∧ (x14 + 1) ≤ 576; omega) (hv46_6) (hv46_7) (by omega)
                      · skip
                        unfold m_x11_unlike_J186
                        refine wp_rg (by omega) ?_
                        refine wp_rg (by omega) ?_
                        refine wp_if (fun c251 => ?_) (fun c251 => ?_)
                        · skip
                          unfold m_x11_unlike_J203
                          refine wp_rg (by omega) ?_
                          refine wp_rg (by omega) ?_
                          refine wp_if (fun c252 => ?_) (fun c252 => ?_)
                          · skip
                            unfold m_x11_unlike_J220
                            exact ih46 x8 x9 x10 (x11 + 0) (x12 + 0) (x13 + 0) (x14 + 1) s15 hRs15 (by show x8 = p2; omega) (by show x9 = qr147r ∧ x10 = qr150r; omega) (by show 0 ≤ (x11 + 0) ∧ (x11 + 0) ≤ (x14 + 1); omega) (by show 0 ≤ (x12 + 0) ∧ (x12 + 0) ≤ x9; omega) (by show 0 ≤ (x13 + 0) ∧ (x13 + 0) ≤ x10; omega) (by show 0 ≤ (x14 + 1) ∧ (x14 + 1) ≤ 576; omega) (hv46_6) (hv46_7) (by omega)
                          · skip
                            unfold m_x11_unlike_J220
                            exact ih46 x8 x9 x10 (x11 + 0) (x12 + 0) (x13 + 1) (x14 + 1) s15 hRs15 (by show x8 = p2; omega) (by show x9 = qr147r ∧ x10 = qr150r; omega) (by show 0 ≤ (x11 + 0) ∧ (x11 + 0) ≤ (x14 + 1); omega) (by show 0 ≤ (x12 + 0) ∧ (x12 + 0) ≤ x9; omega) (by show 0 ≤ (x13 + 1) ∧ (x13 + 1) ≤ x10; omega) (by show 0 ≤ (x14 + 1) ∧ (x14 + 1) ≤ 576; omega) (hv46_6) (hv46_7) (by omega)
                        · skip
                          unfold m_x11_unlike_J203
                          refine wp_rg (by omega) ?_
                          refine wp_rg (by omega) ?_
                          refine wp_if (fun c253 => ?_) (fun c253 => ?_)
                          · skip
                            unfold m_x11_unlike_J220
                            exact ih46 x8 x9 x10 (x11 + 0) (x12 + 1) (x13 + 0) (x14 + 1) s15 hRs15 (by show x8 = p2; omega) (by show x9 = qr147r ∧ x10 = qr150r; omega) (by show 0 ≤ (x11 + 0) ∧ (x11 + 0) ≤ (x14 + 1); omega) (by show 0 ≤ (x12 + 1) ∧ (x12 + 1) ≤ x9; omega) (by show 0 ≤ (x13 + 0) ∧ (x13 + 0) ≤ x10; omega) (by show 0 ≤ (x14 + 1) ∧ (x14 + 1) ≤ 576; omega) (hv46_6) (hv46_7) (by omega)
                          · skip
                            unfold m_x11_unlike_J220
                            exact ih46 x8 x9 x10 (x11 + 0) (x12 + 1) (x13 + 1) (x14 + 1) s15 hRs15 (by show x8 = p2; omega) (by show x9 = qr147r ∧ x10 = qr150r; omega) (by show 0 ≤ (x11 + 0) ∧ (x11 + 0) ≤ (x14 + 1); omega) (by show 0 ≤ (x12 + 1) ∧ (x12 + 1) ≤ x9; omega) (by show 0 ≤ (x13 + 1) ∧ (x13 + 1) ≤ x10; omega) (by show 0 ≤ (x14 + 1) ∧ (x14 + 1) ≤ 576; omega) (hv46_6) (hv46_7) (by omega)
                  · skip
                    unfold m_x11_unlike_J174
                    refine wp_rg (by omega) ?_
                    refine wp_if (fun c254 => ?_) (fun c254 => ?_)
                    · skip
                      unfold m_x11_unlike_J186
                      refine wp_rg (by omega) ?_
                      refine wp_rg (by omega) ?_
                      refine wp_if (fun c255 => ?_) (fun c255 => ?_)
                      · skip
                        unfold m_x11_unlike_J203
                        refine wp_rg (by omega) ?_
                        refine wp_rg (by omega) ?_
                        refine wp_if (fun c256 => ?_) (fun c256 => ?_)
                        · skip
                          unfold m_x11_unlike_J220
                          exact ih46 x8 x9 x10 (x11 + 1) (x12 + 0) (x13 + 0) (x14 + 1) s15 hRs15 (by show x8 = p2; omega) (by show x9 = qr147r ∧ x10 = qr150r; omega) (by show 0 ≤ (x11 + 1) ∧ (x11 + 1) ≤ (x14 + 1); omega) (by show 0 ≤ (x12 + 0) ∧ (x12 + 0) ≤ x9; omega) (by show 0 ≤ (x13 + 0) ∧ (x13 + 0) ≤ x10; omega) (by show 0 ≤ (x14 + 1) ∧ (x14 + 1) ≤ 576; omega) (hv46_6) (hv46_7) (by omega)
                        · skip
                          unfold m_x11_unlike_J220
                          exact ih46 x8 x9 x10 (x11 + 1) (x12 + 0) (x13 + 1) (x14 + 1) s15 hRs15 (by show x8 = p2; omega) (by show x9 = qr147r ∧ x10 = qr150r; omega) (by show 0 ≤ (x11 + 1) ∧ (x11 + 1) ≤ (x14 + 1); omega) (by show 0 ≤ (x12 + 0) ∧ (x12 + 0) ≤ x9; omega) (by show 0 ≤ (x13 + 1) ∧ (x13 + 1) ≤ x10; omega) (by show 0 ≤ (x14 + 1) ∧ (x14 + 1) ≤ 576; omega) (hv46_6) (hv46_7) (by omega)
                      · skip
                        unfold m_x11_unlike_J203
                        refine wp_rg (by omega) ?_
                        refine wp_rg (by omega) ?_
                        refine wp_if (fun c257 => ?_) (fun c257 => ?_)
                        · skip
                          unfold m_x11_unlike_J220
                          exact ih46 x8 x9 x10 (x11 + 1) (x12 + 1) (x13 + 0) (x14 + 1) s15 hRs15 (by show x8 = p2; omega) (by show x9 = qr147r ∧ x10 = qr150r; omega) (by show 0 ≤ (x11 + 1) ∧ (x11 + 1) ≤ (x14 + 1); omega) (by show 0 ≤ (x12 + 1) ∧ (x12 + 1) ≤ x9; omega) (by show 0 ≤ (x13 + 0) ∧ (x13 + 0) ≤ x10; omega) (by show 0 ≤ (x14 + 1) ∧ (x14 + 1) ≤ 576; omega) (hv46_6) (hv46_7) (by omega)
                        · skip
                          unfold m_x11_unlike_J220
                          exact ih46 x8 x9 x10 (x11 + 1) (x12 + 1) (x13 + 1) (x14 + 1) s15 hRs15 (by show x8 = p2; omega) (by show x9 = qr147r ∧ x10 = qr150r; omega) (by show 0 ≤ (x11 + 1) ∧ (x11 + 1) ≤ (x14 + 1); omega) (by show 0 ≤ (x12 + 1) ∧ (x12 + 1) ≤ x9; omega) (by show 0 ≤ (x13 + 1) ∧ (x13 + 1) ≤ x10; omega) (by show 0 ≤ (x14 + 1) ∧ (x14 + 1) ≤ 576; omega) (hv46_6) (hv46_7) (by omega)
                    · skip
                      unfold m_x11_unlike_J186
                      refine wp_rg (by omega) ?_
                      refine wp_rg (by omega) ?_
                      refine wp_if (fun c258 => ?_) (fun c258 => ?_)
                      · skip
                        unfold m_x11_unlike_J203
                        refine wp_rg (by omega) ?_
                        refine wp_rg (by omega) ?_
                        refine wp_if (fun c259 => ?_) (fun c259 => ?_)
                        · skip
                          unfold m_x11_unlike_J220
                          exact ih46 x8 x9 x10 (x11 + 0) (x12 + 0) (x13 + 0) (x14 + 1) s15 hRs15 (by show x8 = p2; omega) (by show x9 = qr147r ∧ x10 = qr150r; omega) (by show 0 ≤ (x11 + 0) ∧ (x11 + 0) ≤ (x14 + 1); omega) (by show 0 ≤ (x12 + 0) ∧ (x12 + 0) ≤ x9; omega) (by show 0 ≤ (x13 + 0) ∧ (x13 + 0) ≤ x10; omega) (by show 0 ≤ (x14 + 1) ∧ (x14 + 1) ≤ 576; omega) (hv46_6) (hv46_7) (by omega)
                        · skip
                          unfold m_x11_unlike_J220
                          exact ih46 x8 x9 x10 (x11 + 0) (x12 + 0) (x13 + 1) (x14 + 1) s15 hRs15 (by show x8 = p2; omega) (by show x9 = qr147r ∧ x10 = qr150r; omega) (by show 0 ≤ (x11 + 0) ∧ (x11 + 0) ≤ (x14 + 1); omega) (by show 0 ≤ (x12 + 0) ∧ (x12 + 0) ≤ x9; omega) (by show 0 ≤ (x13 + 1) ∧ (x13 + 1) ≤ x10; omega) (by show 0 ≤ (x14 + 1) ∧ (x14 + 1) ≤ 576; omega) (hv46_6) (hv46_7) (by omega)
                      · skip
                        unfold m_x11_unlike_J203
                        refine wp_rg (by omega) ?_
                        refine wp_rg (by omega) ?_
                        refine wp_if (fun c260 => ?_) (fun c260 => ?_)
                        · skip
                          unfold m_x11_unlike_J220
                          exact ih46 x8 x9 x10 (x11 + 0) (x12 + 1) (x13 + 0) (x14 + 1) s15 hRs15 (by show x8 = p2; omega) (by show x9 = qr147r ∧ x10 = qr150r; omega) (by show 0 ≤ (x11 + 0) ∧ (x11 + 0) ≤ (x14 + 1); omega) (by show 0 ≤ (x12 + 1) ∧ (x12 + 1) ≤ x9; omega) (by show 0 ≤ (x13 + 0) ∧ (x13 + 0) ≤ x10; omega) (by show 0 ≤ (x14 + 1) ∧ (x14 + 1) ≤ 576; omega) (hv46_6) (hv46_7) (by omega)
                        · skip
                          unfold m_x11_unlike_J220
                          exact ih46 x8 x9 x10 (x11 + 0) (x12 + 1) (x13 + 1) (x14 + 1) s15 hRs15 (by show x8 = p2; omega) (by show x9 = qr147r ∧ x10 = qr150r; omega) (by show 0 ≤ (x11 + 0) ∧ (x11 + 0) ≤ (x14 + 1); omega) (by show 0 ≤ (x12 + 1) ∧ (x12 + 1) ≤ x9; omega) (by show 0 ≤ (x13 + 1) ∧ (x13 + 1) ≤ x10; omega) (by show 0 ≤ (x14 + 1) ∧ (x14 + 1) ≤ 576; omega) (hv46_6) (hv46_7) (by omega)
              · skip
                refine wp_rdIn (by omega) (fun y124 ey124 => ?_)
                have by124 : (-2147483648 : Int) ≤ y124 ∧ y124 ≤ 2147483647 := ey124 ▸ hRs15.2.1 27 _ (by show _ < 288; omega)
                have k124 := hv46_7 x13.toNat (by omega)
                rw [ey124] at k124
                unfold m_x11_unlike_J116
                refine wp_rg (by omega) ?_
                refine wp_rg (by omega) ?_
                refine wp_if (fun c261 => ?_) (fun c261 => ?_)
                · skip
                  refine wp_rdIn (by omega) (fun y107 ey107 => ?_)
                  have by107 : (-2147483648 : Int) ≤ y107 ∧ y107 ≤ 2147483647 := ey107 ▸ hRs15.2.1 24 _ (by show _ < 288; omega)
                  refine wp_rdIn (by omega) (fun y108 ey108 => ?_)
                  have by108 : (-2147483648 : Int) ≤ y108 ∧ y108 ≤ 2147483647 := ey108 ▸ hRs15.2.1 28 _ (by show _ < 288; omega)
                  refine wp_rg (by omega) ?_
                  refine wp_rg (by omega) ?_
                  refine wp_if (fun c262 => ?_) (fun c262 => ?_)
                  · skip
                    unfold m_x11_unlike_J153
                    refine wp_rg (by omega) ?_
                    refine wp_if (fun c263 => ?_) (fun c263 => ?_)
                    · skip
                      refine wp_rg (by omega) ?_
                      refine wp_rg (by omega) ?_
                      refine wp_if (fun c264 => ?_) (fun c264 => ?_)
                      · skip
                        refine wp_rg (by omega) ?_
                        refine wp_rg (by omega) ?_
                        exact wp_some (hRs15)
                      · skip
                        unfold m_x11_unlike_J174
                        refine wp_rg (by omega) ?_
                        refine wp_if (fun c265 => ?_) (fun c265 => ?_)
                        · skip
                          unfold m_x11_unlike_J186
                          refine wp_rg (by omega) ?_
                          refine wp_rg (by omega) ?_
                          refine wp_if (fun c266 => ?_) (fun c266 => ?_)
                          · skip
                            unfold m_x11_unlike_J203
                            refine wp_rg (by omega) ?_
                            refine wp_rg (by omega) ?_
                            refine wp_if (fun c267 => ?_) (fun c267 => ?_)
                            · skip
                              unfold m_x11_unlike_J220
                              exact ih46 x8 x9 x10 (x11 + 1) (x12 + 0) (x13 + 0) (x14 + 1) s15 hRs15 (by show x8 = p2; omega) (by show x9 = qr147r ∧ x10 = qr150r; omega) (by show 0 ≤ (x11 + 1) ∧ (x11 + 1) ≤ (x14 + 1); omega) (by show 0 ≤ (x12 + 0) ∧ (x12 + 0) ≤ x9; omega) (by show 0 ≤ (x13 + 0) ∧ (x13 + 0) ≤ x10; omega) (by show 0 ≤ (x14 + 1) ∧ (x14 + 1) ≤ 576; omega) (hv46_6) (hv46_7) (by omega)
                            · skip
                              unfold m_x11_unlike_J220
                              exact ih46 x8 x9 x10 (x11 + 1) (x12 + 0) (x13 + 1) (x14 + 1) s15 hRs15 (by show x8 = p2; omega) (by show x9 = qr147r ∧ x10 = qr150r; omega) (by show 0 ≤ (x11 + 1) ∧ (x11 + 1) ≤ (x14 + 1); omega) (by show 0 ≤ (x12 + 0) ∧ (x12 + 0) ≤ x9; omega) (by show 0 ≤ (x13 + 1) ∧ (x13 + 1) ≤ x10; omega) (by show 0 ≤ (x14 + 1) ∧ (x14 + 1) ≤ 576; omega) (hv46_6) (hv46_7) (by omega)
                          · skip
                            unfold m_x11_unlike_J203
                            refine wp_rg (by omega) ?_
                            refine wp_rg (by omega) ?_
                            refine wp_if (fun c268 => ?_) (fun c268 => ?_)
                            · skip
                              unfold m_x11_unlike_J220
                              exact ih46 x8 x9 x10 (x11 + 1) (x12 + 1) (x13 + 0) (x14 + 1) s15 hRs15 (by show x8 = p2; omega) (by show x9 = qr147r ∧ x10 = qr150r; omega) (by show 0 ≤ (x11 + 1) ∧ (x11 + 1) ≤ (x14 + 1); omega) (by show 0 ≤ (x12 + 1) ∧ (x12 + 1) ≤ x9; omega) (by show 0 ≤ (x13 + 0) ∧ (x13 + 0) ≤ x10; omega) (by show 0 ≤ (x14 + 1) ∧ (x14 + 1) ≤ 576; omega) (hv46_6) (hv46_7) (by omega)
                            · skip
                              unfold m_x11_unlike_J220
                              exact ih46 x8 x9 x10 (x11 + 1) (x12 + 1) (x13 + 1) (x14 + 1) s15 hRs15 (by show x8 = p2; omega) (by show x9 = qr147r ∧ x10 = qr150r; omega) (by show 0 ≤ (x11 + 1) ∧ (x11 + 1) ≤ (x14 + 1); omega) (by show 0 ≤ (x12 + 1) ∧ (x12 + 1) ≤ x9; omega) (by show 0 ≤ (x13 + 1) ∧ (x13 + 1) ≤ x10; omega) (by show 0 ≤ (x14 + 1) ∧ (x14 + 1) ≤ 576; omega) (hv46_6) (hv46_7) (by omega)
                        · skip
                          unfold m_x11_unlike_J186
                          refine wp_rg (by omega) ?_
                          refine wp_rg (by omega) ?_
                          refine wp_if (fun c269 => ?_) (fun c269 => ?_)
                          · skip
                            unfold m_x11_unlike_J203
                            refine wp_rg (by omega) ?_
                            refine wp_rg (by omega) ?_
                            refine wp_if (fun c270 => ?_) (fun c270 => ?_)
                            · skip
                              unfold m_x11_unlike_J220
                              exact ih46 x8 x9 x10 (x11 + 0) (x12 + 0) (x13 + 0) (x14 + 1) s15 hRs15 (by show x8 = p2; omega) (by show x9 = qr147r ∧ x10 = qr150r; omega) (by show 0 ≤ (x11 + 0) ∧ (x11 + 0) ≤ (x14 + 1); omega) (by show 0 ≤ (x12 + 0) ∧ (x12 + 0) ≤ x9; omega) (by show 0 ≤ (x13 + 0) ∧ (x13 + 0) ≤ x10; omega) (by show 0 ≤ (x14 + 1) ∧ (x14 + 1) ≤ 576; omega) (hv46_6) (hv46_7) (by omega)
                            · skip
                              unfold m_x11_unlike_J220
                              exact ih46 x8 x9 x10 (x11 + 0) (x12 + 0) (x13 + 1) (x14 + 1) s15 hRs15 (by show x8 = p2; omega) (by show x9 = qr147r ∧ x10 = qr150r; omega) (by show 0 ≤ (x11 + 0) ∧ (x11 + 0) ≤ (x14 + 1); omega) (by show 0 ≤ (x12 + 0) ∧ (x12 + 0) ≤ x9; omega) (by show 0 ≤ (x13 + 1) ∧ (x13 + 1) ≤ x10; omega) (by show 0 ≤ (x14 + 1) ∧ (x14 + 1) ≤ 576; omega) (hv46_6) (hv46_7) (by omega)
                          · skip
                            unfold m_x11_unlike_J203
                            refine wp_rg (by omega) ?_
                            refine wp_rg (by omega) ?_
                            refine wp_if (fun c271 => ?_) (fun c271 => ?_)
                            · skip
                              unfold m_x11_unlike_J220
                              exact ih46 x8 x9 x10 (x11 + 0) (x12 + 1) (x13 + 0) (x14 + 1) s15 hRs15 (by show x8 = p2; omega) (by show x9 = qr147r ∧ x10 = qr150r; omega) (by show 0 ≤ (x11 + 0) ∧ (x11 + 0) ≤ (x14 + 1); omega) (by show 0 ≤ (x12 + 1) ∧ (x12 + 1) ≤ x9; omega) (by show 0 ≤ (x13 + 0) ∧ (x13 + 0) ≤ x10; omega) (by show 0 ≤ (x14 + 1) ∧ (x14 + 1) ≤ 576; omega) (hv46_6) (hv46_7) (by omega)
                            · skip
                              unfold m_x11_unlike_J220
                              exact ih46 x8 x9 x10 (x11 + 0) (x12 + 1) (x13 + 1) (x14 + 1) s15 hRs15 (by show x8 = p2; omega) (by show x9 = qr147r ∧ x10 = qr150r; omega) (by show 0 ≤ (x11 + 0) ∧ (x11 + 0) ≤ (x14 + 1); omega) (by show 0 ≤ (x12 + 1) ∧ (x12 + 1) ≤ x9; omega) (by show 0 ≤ (x13 + 1) ∧ (x13 + 1) ≤ x10; omega) (by show 0 ≤ (x14 + 1) ∧ (x14 + 1) ≤ 576; omega) (hv46_6) (hv46_7) (by omega)
                    · skip
                      unfold m_x11_unlike_J174
                      refine wp_rg (by omega) ?_
                      refine wp_if (fun c272 => ?_) (fun c272 => ?_)
                      · skip
                        unfold m_x11_unlike_J186
                        refine wp_rg (by omega) ?_
                        refine wp_rg (by omega) ?_
                        refine wp_if (fun c273 => ?_) (fun c273 => ?_)
                        · skip
                          unfold m_x11_unlike_J203
                          refine wp_rg (by omega) ?_
                          refine wp_rg (by omega) ?_
                          refine wp_if (fun c274 => ?_) (fun c274 => ?_)
                          · skip
                            unfold m_x11_unlike_J220
                            exact ih46 x8 x9 x10 (x11 + 1) (x12 + 0) (x13 + 0) (x14 + 1) s15 hRs15 (by show x8 = p2; omega) (by show x9 = qr147r ∧ x10 = qr150r; omega) (by show 0 ≤ (x11 + 1) ∧ (x11 + 1) ≤ (x14 + 1); omega) (by show 0 ≤ (x12 + 0) ∧ (x12 + 0) ≤ x9; omega) (by show 0 ≤ (x13 + 0) ∧ (x13 + 0) ≤ x10; omega) (by show 0 ≤ (x14 + 1) ∧ (x14 + 1) ≤ 576; omega) (hv46_6) (hv46_7) (by omega)
                          · skip
                            unfold m_x11_unlike_J220
                            exact ih46 x8 x9 x10 (x11 + 1) (x12 + 0) (x13 + 1) (x14 + 1) s15 hRs15 (by show x8 = p2; omega) (by show x9 = qr147r ∧ x10 = qr150r; omega) (by show 0 ≤ (x11 + 1) ∧ (x11 + 1) ≤ (x14 + 1); omega) (by show 0 ≤ (x12 + 0) ∧ (x12 + 0) ≤ x9; omega) (by show 0 ≤ (x13 + 1) ∧ (x13 + 1) ≤ x10; omega) (by show 0 ≤ (x14 + 1) ∧ (x14 + 1) ≤ 576; omega) (hv46_6) (hv46_7) (by omega)
                        · skip
                          unfold m_x11_unlike_J203
                          refine wp_rg (by omega) ?_
                          refine wp_rg (by omega) ?_
                          refine wp_if (fun c275 => ?_) (fun c275 => ?_)
                          · skip
                            unfold m_x11_unlike_J220
                            exact ih46 x8 x9 x10 (x11 + 1) (x12 + 1) (x13 + 0) (x14 + 1) s15 hRs15 (by show x8 = p2; omega) (by show x9 = qr147r ∧ x10 = qr150r; omega) (by show 0 ≤ (x11 + 1) ∧ (x11 + 1) ≤ (x14 + 1); omega) (by show 0 ≤ (x12 + 1) ∧ (x12 + 1) ≤ x9; omega) (by show 0 ≤ (x13 + 0) ∧ (x13 + 0) ≤ x10; omega) (by show 0 ≤ (x14 + 1) ∧ (x14 + 1) ≤ 576; omega) (hv46_6) (hv46_7) (by omega)
                          · skip
                            unfold m_x11_unlike_J220
                            exact ih46 x8 x9 x10 (x11 + 1) (x12 + 1) (x13 + 1) (x14 + 1) s15 hRs15 (by show x8 = p2; omega) (by show x9 = qr147r ∧ x10 = qr150r; omega) (by show 0 ≤ (x11 + 1) ∧ (x11 + 1) ≤ (x14 + 1); omega) (by show 0 ≤ (x12 + 1) ∧ (x12 + 1) ≤ x9; omega) (by show 0 ≤ (x13 + 1) ∧ (x13 + 1) ≤ x10; omega) (by show 0 ≤ (x14 + 1) ∧ (x14 + 1) ≤ 576; omega) (hv46_6) (hv46_7) (by omega)
                      · skip
                        unfold m_x11_unlike_J186
                        refine wp_rg (by omega) ?_
                        refine wp_rg (by omega) ?_
                        refine wp_if (fun c276 => ?_) (fun c276 => ?_)
                        · skip
                          unfold m_x11_unlike_J203
                          refine wp_rg (by omega) ?_
                          refine wp_rg (by omega) ?_
                          refine wp_if (fun c277 => ?_) (fun c277 => ?_)
                          · skip
                            unfold m_x11_unlike_J220
                            exact ih46 x8 x9 x10 (x11 + 0) (x12 + 0) (x13 + 0) (x14 + 1) s15 hRs15 (by show x8 = p2; omega) (by show x9 = qr147r ∧ x10 = qr150r; omega) (by show 0 ≤ (x11 + 0) ∧ (x11 + 0) ≤ (x14 + 1); omega) (by show 0 ≤ (x12 + 0) ∧ (x12 + 0) ≤ x9; omega) (by show 0 ≤ (x13 + 0) ∧ (x13 + 0) ≤ x10; omega) (by show 0 ≤ (x14 + 1) ∧ (x14 + 1) ≤ 576; omega) (hv46_6) (hv46_7) (by omega)
                          · skip
                            unfold m_x11_unlike_J220
                            exact ih46 x8 x9 x10 (x11 + 0) (x12 + 0) (x13 + 1) (x14 + 1) s15 hRs15 (by show x8 = p2; omega) (by show x9 = qr147r ∧ x10 = qr150r; omega) (by show 0 ≤ (x11 + 0) ∧ (x11 + 0) ≤ (x14 + 1); omega) (by show 0 ≤ (x12 + 0) ∧ (x12 + 0) ≤ x9; omega) (by show 0 ≤ (x13 + 1) ∧ (x13 + 1) ≤ x10; omega) (by show 0 ≤ (x14 + 1) ∧ (x14 + 1) ≤ 576; omega) (hv46_6) (hv46_7) (by omega)
                        · skip
                          unfold m_x11_unlike_J203
                          refine wp_rg (by omega) ?_
                          refine wp_rg (by omega) ?_
                          refine wp_if (fun c278 => ?_) (fun c278 => ?_)
                          · skip
                            unfold m_x11_unlike_J220
                            exact ih46 x8 x9 x10 (x11 + 0) (x12 + 1) (x13 + 0) (x14 + 1) s15 hRs15 (by show x8 = p2; omega) (by show x9 = qr147r ∧ x10 = qr150r; omega) (by show 0 ≤ (x11 + 0) ∧ (x11 + 0) ≤ (x14 + 1); omega) (by show 0 ≤ (x12 + 1) ∧ (x12 + 1) ≤ x9; omega) (by show 0 ≤ (x13 + 0) ∧ (x13 + 0) ≤ x10; omega) (by show 0 ≤ (x14 + 1) ∧ (x14 + 1) ≤ 576; omega) (hv46_6) (hv46_7) (by omega)
                          · skip
                            unfold m_x11_unlike_J220
                            exact ih46 x8 x9 x10 (x11 + 0) (x12 + 1) (x13 + 1) (x14 + 1) s15 hRs15 (by show x8 = p2; omega) (by show x9 = qr147r ∧ x10 = qr150r; omega) (by show 0 ≤ (x11 + 0) ∧ (x11 + 0) ≤ (x14 + 1); omega) (by show 0 ≤ (x12 + 1) ∧ (x12 + 1) ≤ x9; omega) (by show 0 ≤ (x13 + 1) ∧ (x13 + 1) ≤ x10; omega) (by show 0 ≤ (x14 + 1) ∧ (x14 + 1) ≤ 576; omega) (hv46_6) (hv46_7) (by omega)
                  · skip
                    unfold m_x11_unlike_J152
                    unfold m_x11_unlike_J153
                    refine wp_rg (by omega) ?_
                    refine wp_if (fun c279 => ?_) (fun c279 => ?_)
                    · skip
                      refine wp_rg (by omega) ?_
                      refine wp_rg (by omega) ?_
                      refine wp_if (fun c280 => ?_) (fun c280 => ?_)
                      · skip
                        refine wp_rg (by omega) ?_
                        refine wp_rg (by omega) ?_
                        exact wp_some (hRs15)
                      · skip
                        unfold m_x11_unlike_J174
                        refine wp_rg (by omega) ?_
                        refine wp_if (fun c281 => ?_) (fun c281 => ?_)
                        · skip
                          unfold m_x11_unlike_J186
                          refine wp_rg (by omega) ?_
                          refine wp_rg (by omega) ?_
                          refine wp_if (fun c282 => ?_) (fun c282 => ?_)
                          · skip
                            unfold m_x11_unlike_J203
                            refine wp_rg (by omega) ?_
                            refine wp_rg (by omega) ?_
                            refine wp_if (fun c283 => ?_) (fun c283 => ?_)
                            · skip
                              unfold m_x11_unlike_J220
                              exact ih46 x8 x9 x10 (x11 + 1) (x12 + 0) (x13 + 0) (x14 + 1) s15 hRs15 (by show x8 = p2; omega) (by show x9 = qr147r ∧ x10 = qr150r; omega) (by show 0 ≤ (x11 + 1) ∧ (x11 + 1) ≤ (x14 + 1); omega) (by show 0 ≤ (x12 + 0) ∧ (x12 + 0) ≤ x9; omega) (by show 0 ≤ (x13 + 0) ∧ (x13 + 0) ≤ x10; omega) (by show 0 ≤ (x14 + 1) ∧ (x14 + 1) ≤ 576; omega) (hv46_6) (hv46_7) (by omega)
                            · skip
                              unfold m_x11_unlike_J220
                              exact ih46 x8 x9 x10 (x11 + 1) (x12 + 0) (x13 + 1) (x14 + 1) s15 hRs15 (by show x8 = p2; omega) (by show x9 = qr147r ∧ x10 = qr150r; omega) (by show 0 ≤ (x11 + 1) ∧ (x11 + 1) ≤ (x14 + 1); omega) (by show 0 ≤ (x12 + 0) ∧ (x12 + 0) ≤ x9; omega) (by show 0 ≤ (x13 + 1) ∧ (x13 + 1) ≤ x10; omega) (by show 0 ≤ (x14 + 1) ∧ (x14 + 1) ≤ 576; omega) (hv46_6) (hv46_7) (by omega)
                          · skip
                            unfold m_x11_unlike_J203
                            refine wp_rg (by omega) ?_
                            refine wp_rg (by omega) ?_
                            refine wp_if (fun c284 => ?_) (fun c284 => ?_)
                            · skip
                              unfold m_x11_unlike_J220
                              exact ih46 x8 x9 x10 (x11 + 1) (x12 + 1) (x13 + 0) (x14 + 1) s15 hRs15 (by show x8 = p2; omega) (by show x9 = qr147r ∧ x10 = qr150r; omega) (by show 0 ≤ (x11 + 1) ∧ (x11 + 1) ≤ (x14 + 1); omega) (by show 0 ≤ (x12 + 1) ∧ (x12 + 1) ≤ x9; omega) (by show 0 ≤ (x13 + 0) ∧ (x13 + 0) ≤ x10; omega) (by show 0 ≤ (x14 + 1) ∧ (x14 + 1) ≤ 576; omega) (hv46_6) (hv46_7) (by omega)
                            · skip
                              unfold m_x11_unlike_J220
                              exact ih46 x8 x9 x10 (x11 + 1) (x12 + 1) (x13 + 1) (x14 + 1) s15 hRs15 (by show x8 = p2; omega) (by show x9 = qr147r ∧ x10 = qr150r; omega) (by show 0 ≤ (x11 + 1) ∧ (x11 + 1) ≤ (x14 + 1); omega) (by show 0 ≤ (x12 + 1) ∧ (x12 + 1) ≤ x9; omega) (by show 0 ≤ (x13 + 1) ∧ (x13 + 1) ≤ x10; omega) (by show 0 ≤ (x14 + 1) ∧ (x14 + 1) ≤ 576; omega) (hv46_6) (hv46_7) (by omega)
                        · skip
                          unfold m_x11_unlike_J186
                          refine wp_rg (by omega) ?_
                          refine wp_rg (by omega) ?_
                          refine wp_if (fun c285 => ?_) (fun c285 => ?_)
                          · skip
                            unfold m_x11_unlike_J203
                            refine wp_rg (by omega) ?_
                            refine wp_rg (by omega) ?_
                            refine wp_if (fun c286 => ?_) (fun c286 => ?_)
                            · skip
                              unfold m_x11_unlike_J220
                              exact ih46 x8 x9 x10 (x11 + 0) (x12 + 0) (x13 + 0) (x14 + 1) s15 hRs15 (by show x8 = p2; omega) (by show x9 = qr147r ∧ x10 = qr150r; omega) (by show 0 ≤ (x11 + 0) ∧ (x11 + 0) ≤ (x14 + 1); omega) (by show 0 ≤ (x12 + 0) ∧ (x12 + 0) ≤ x9; omega) (by show 0 ≤ (x13 + 0) ∧ (x13 + 0) ≤ x10; omega) (by show 0 ≤ (x14 + 1) ∧ (x14 + 1) ≤ 576; omega) (hv46_6) (hv46_7) (by omega)
                            · skip
                              unfold m_x11_unlike_J220
                              exact ih46 x8 x9 x10 (x11 + 0) (x12 + 0) (x13 + 1) (x14 + 1) s15 hRs15 (by show x8 = p2; omega) (by show x9 = qr147r ∧ x10 = qr150r; omega) (by show 0 ≤ (x11 + 0) ∧ (x11 + 0) ≤ (x14 + 1); omega) (by show 0 ≤ (x12 + 0) ∧ (x12 + 0) ≤ x9; omega) (by show 0 ≤ (x13 + 1) ∧ (x13 + 1) ≤ x10; omega) (by show 0 ≤ (x14 + 1) ∧ (x14 + 1) ≤ 576; omega) (hv46_6) (hv46_7) (by omega)
                          · skip
                            unfold m_x11_unlike_J203
                            refine wp_rg (by omega) ?_
                            refine wp_rg (by omega) ?_
                            refine wp_if (fun c287 => ?_) (fun c287 => ?_)
                            · skip
                              unfold m_x11_unlike_J220
                              exact ih46 x8 x9 x10 (x11 + 0) (x12 + 1) (x13 + 0) (x14 + 1) s15 hRs15 (by show x8 = p2; omega) (by show x9 = qr147r ∧ x10 = qr150r; omega) (by show 0 ≤ (x11 + 0) ∧ (x11 + 0) ≤ (x14 + 1); omega) (by show 0 ≤ (x12 + 1) ∧ (x12 + 1) ≤ x9; omega) (by show 0 ≤ (x13 + 0) ∧ (x13 + 0) ≤ x10; omega) (by show 0 ≤ (x14 + 1) ∧ (x14 + 1) ≤ 576; omega) (hv46_6) (hv46_7) (by omega)
                            · skip
                              unfold m_x11_unlike_J220
                              exact ih46 x8 x9 x10 (x11 + 0) (x12 + 1) (x13 + 1) (x14 + 1) s15 hRs15 (by show x8 = p2; omega) (by show x9 = qr147r ∧ x10 = qr150r; omega) (by show 0 ≤ (x11 + 0) ∧ (x11 + 0) ≤ (x14 + 1); omega) (by show 0 ≤ (x12 + 1) ∧ (x12 + 1) ≤ x9; omega) (by show 0 ≤ (x13 + 1) ∧ (x13 + 1) ≤ x10; omega) (by show 0 ≤ (x14 + 1) ∧ (x14 + 1) ≤ 576; omega) (hv46_6) (hv46_7) (by omega)
                    · skip
                      unfold m_x11_unlike_J174
                      refine wp_rg (by omega) ?_
                      refine wp_if (fun c288 => ?_) (fun c288 => ?_)
                      · skip
                        unfold m_x11_unlike_J186
                        refine wp_rg (by omega) ?_
                        refine wp_rg (by omega) ?_
                        refine wp_if (fun c289 => ?_) (fun c289 => ?_)
                        · skip
                          unfold m_x11_unlike_J203
                          refine wp_rg (by omega) ?_
                          refine wp_rg (by omega) ?_
                          refine wp_if (fun c290 => ?_) (fun c290 => ?_)
                          · skip
                            unfold m_x11_unlike_J220
                            exact ih46 x8 x9 x10 (x11 + 1) (x12 + 0) (x13 + 0) (x14 + 1) s15 hRs15 (by show x8 = p2; omega) (by show x9 = qr147r ∧ x10 = qr150r; omega) (by show 0 ≤ (x11 + 1) ∧ (x11 + 1) ≤ (x14 + 1); omega) (by show 0 ≤ (x12 + 0) ∧ (x12 + 0) ≤ x9; omega) (by show 0 ≤ (x13 + 0) ∧ (x13 + 0) ≤ x10; omega) (by show 0 ≤ (x14 + 1) ∧ (x14 + 1) ≤ 576; omega) (hv46_6) (hv46_7) (by omega)
                          · skip
                            unfold m_x11_unlike_J220
                            exact ih46 x8 x9 x10 (x11 + 1) (x12 + 0) (x13 + 1) (x14 + 1) s15 hRs15 (by show x8 = p2; omega) (by show x9 = qr147r ∧ x10 = qr150r; omega) (by show 0 ≤ (x11 + 1) ∧ (x11 + 1) ≤ (x14 + 1); omega) (by show 0 ≤ (x12 + 0) ∧ (x12 + 0) ≤ x9; omega) (by show 0 ≤ (x13 + 1) ∧ (x13 + 1) ≤ x10; omega) (by show 0 ≤ (x14 + 1) ∧ (x14 + 1) ≤ 576; omega) (hv46_6) (hv46_7) (by omega)
                        · skip
                          unfold m_x11_unlike_J203
                          refine wp_rg (by omega) ?_
                          refine wp_rg (by omega) ?_
                          refine wp_if (fun c291 => ?_) (fun c291 => ?_)
                          · skip
                            unfold m_x11_unlike_J220
                            exact ih46 x8 x9 x10 (x11 + 1) (x12 + 1) (x13 + 0) (x14 + 1) s15 hRs15 (by show x8 = p2; omega) (by show x9 = qr147r ∧ x10 = qr150r; omega) (by show 0 ≤ (x11 + 1) ∧ (x11 + 1) ≤ (x14 + 1); omega) (by show 0 ≤ (x12 + 1) ∧ (x12 + 1) ≤ x9; omega) (by show 0 ≤ (x13 + 0) ∧ (x13 + 0) ≤ x10; omega) (by show 0 ≤ (x14 + 1) ∧ (x14 + 1) ≤ 576; omega) (hv46_6) (hv46_7) (by omega)
                          · skip
                            unfold m_x11_unlike_J220
                            exact ih46 x8 x9 x10 (x11 + 1) (x12 + 1) (x13 + 1) (x14 + 1) s15 hRs15 (by show x8 = p2; omega) (by show x9 = qr147r ∧ x10 = qr150r; omega) (by show 0 ≤ (x11 + 1) ∧ (x11 + 1) ≤ (x14 + 1); omega) (by show 0 ≤ (x12 + 1) ∧ (x12 + 1) ≤ x9; omega) (by show 0 ≤ (x13 + 1) ∧ (x13 + 1) ≤ x10; omega) (by show 0 ≤ (x14 + 1) ∧ (x14 + 1) ≤ 576; omega) (hv46_6) (hv46_7) (by omega)
                      · skip
                        unfold m_x11_unlike_J186
                        refine wp_rg (by omega) ?_
                        refine wp_rg (by omega) ?_
                        refine wp_if (fun c292 => ?_) (fun c292 => ?_)
                        · skip
                          unfold m_x11_unlike_J203
                          refine wp_rg (by omega) ?_
                          refine wp_rg (by omega) ?_
                          refine wp_if (fun c293 => ?_) (fun c293 => ?_)
                          · skip
                            unfold m_x11_unlike_J220
                            exact ih46 x8 x9 x10 (x11 + 0) (x12 + 0) (x13 + 0) (x14 + 1) s15 hRs15 (by show x8 = p2; omega) (by show x9 = qr147r ∧ x10 = qr150r; omega) (by show 0 ≤ (x11 + 0) ∧ (x11 + 0) ≤ (x14 + 1); omega) (by show 0 ≤ (x12 + 0) ∧ (x12 + 0) ≤ x9; omega) (by show 0 ≤ (x13 + 0) ∧ (x13 + 0) ≤ x10; omega) (by show 0 ≤ (x14 + 1) ∧ (x14 + 1) ≤ 576; omega) (hv46_6) (hv46_7) (by omega)
                          · skip
                            unfold m_x11_unlike_J220
                            exact ih46 x8 x9 x10 (x11 + 0) (x12 + 0) (x13 + 1) (x14 + 1) s15 hRs15 (by show x8 = p2; omega) (by show x9 = qr147r ∧ x10 = qr150r; omega) (by show 0 ≤ (x11 + 0) ∧ (x11 + 0) ≤ (x14 + 1); omega) (by show 0 ≤ (x12 + 0) ∧ (x12 + 0) ≤ x9; omega) (by show 0 ≤ (x13 + 1) ∧ (x13 + 1) ≤ x10; omega) (by show 0 ≤ (x14 + 1) ∧ (x14 + 1) ≤ 576; omega) (hv46_6) (hv46_7) (by omega)
                        · skip
                          unfold m_x11_unlike_J203
                          refine wp_rg (by omega) ?_
                          refine wp_rg (by omega) ?_
                          refine wp_if (fun c294 => ?_) (fun c294 => ?_)
                          · skip
                            unfold m_x11_unlike_J220
                            exact ih46 x8 x9 x10 (x11 + 0) (x12 + 1) (x13 + 0) (x14 + 1) s15 hRs15 (by show x8 = p2; omega) (by show x9 = qr147r ∧ x10 = qr150r; omega) (by show 0 ≤ (x11 + 0) ∧ (x11 + 0) ≤ (x14 + 1); omega) (by show 0 ≤ (x12 + 1) ∧ (x12 + 1) ≤ x9; omega) (by show 0 ≤ (x13 + 0) ∧ (x13 + 0) ≤ x10; omega) (by show 0 ≤ (x14 + 1) ∧ (x14 + 1) ≤ 576; omega) (hv46_6) (hv46_7) (by omega)
                          · skip
                            unfold m_x11_unlike_J220
                            exact ih46 x8 x9 x10 (x11 + 0) (x12 + 1) (x13 + 1) (x14 + 1) s15 hRs15 (by show x8 = p2; omega) (by show x9 = qr147r ∧ x10 = qr150r; omega) (by show 0 ≤ (x11 + 0) ∧ (x11 + 0) ≤ (x14 + 1); omega) (by show 0 ≤ (x12 + 1) ∧ (x12 + 1) ≤ x9; omega) (by show 0 ≤ (x13 + 1) ∧ (x13 + 1) ≤ x10; omega) (by show 0 ≤ (x14 + 1) ∧ (x14 + 1) ≤ 576; omega) (hv46_6) (hv46_7) (by omega)
                · skip
                  unfold m_x11_unlike_J152
                  unfold m_x11_unlike_J153
                  refine wp_rg (by omega) ?_
                  refine wp_if (fun c295 => ?_) (fun c295 => ?_)
                  · skip
                    refine wp_rg (by omega) ?_
                    refine wp_rg (by omega) ?_
                    refine wp_if (fun c296 => ?_) (fun c296 => ?_)
                    · skip
                      refine wp_rg (by omega) ?_
                      refine wp_rg (by omega) ?_
                      exact wp_some (hRs15)
                    · skip
                      unfold m_x11_unlike_J174
                      refine wp_rg (by omega) ?_
                      refine wp_if (fun c297 => ?_) (fun c297 => ?_)
                      · skip
                        unfold m_x11_unlike_J186
                        refine wp_rg (by omega) ?_
                        refine wp_rg (by omega) ?_
                        refine wp_if (fun c298 => ?_) (fun c298 => ?_)
                        · skip
                          unfold m_x11_unlike_J203
                          refine wp_rg (by omega) ?_
                          refine wp_rg (by omega) ?_
                          refine wp_if (fun c299 => ?_) (fun c299 => ?_)
                          · skip
                            unfold m_x11_unlike_J220
                            exact ih46 x8 x9 x10 (x11 + 1) (x12 + 0) (x13 + 0) (x14 + 1) s15 hRs15 (by show x8 = p2; omega) (by show x9 = qr147r ∧ x10 = qr150r; omega) (by show 0 ≤ (x11 + 1) ∧ (x11 + 1) ≤ (x14 + 1); omega) (by show 0 ≤ (x12 + 0) ∧ (x12 + 0) ≤ x9; omega) (by show 0 ≤ (x13 + 0) ∧ (x13 + 0) ≤ x10; omega) (by show 0 ≤ (x14 + 1) ∧ (x14 + 1) ≤ 576; omega) (hv46_6) (hv46_7) (by omega)
                          · skip
                            unfold m_x11_unlike_J220
                            exact ih46 x8 x9 x10 (x11 + 1) (x12 + 0) (x13 + 1) (x14 + 1) s15 hRs15 (by show x8 = p2; omega) (by show x9 = qr147r ∧ x10 = qr150r; omega) (by show 0 ≤ (x11 + 1) ∧ (x11 + 1) ≤ (x14 + 1); omega) (by show 0 ≤ (x12 + 0) ∧ (x12 + 0) ≤ x9; omega) (by show 0 ≤ (x13 + 1) ∧ (x13 + 1) ≤ x10; omega) (by show 0 ≤ (x14 + 1) ∧ (x14 + 1) ≤ 576; omega) (hv46_6) (hv46_7) (by omega)
                        · skip
                          unfold m_x11_unlike_J203
                          refine wp_rg (by omega) ?_
                          refine wp_rg (by omega) ?_
                          refine wp_if (fun c300 => ?_) (fun c300 => ?_)
                          · skip
                            unfold m_x11_unlike_J220
                            exact ih46 x8 x9 x10 (x11 + 1) (x12 + 1) (x13 + 0) (x14 + 1) s15 hRs15 (by show x8 = p2; omega) (by show x9 = qr147r ∧ x10 = qr150r; omega) (by show 0 ≤ (x11 + 1) ∧ (x11 + 1) ≤ (x14 + 1); omega) (by show 0 ≤ (x12 + 1) ∧ (x12 + 1) ≤ x9; omega) (by show 0 ≤ (x13 + 0) ∧ (x13 + 0) ≤ x10; omega) (by show 0 ≤ (x14 + 1) ∧ (x14 + 1) ≤ 576; omega) (hv46_6) (hv46_7) (by omega)
                          · skip
                            unfold m_x11_unlike_J220
                            exact ih46 x8 x9 x10 (x11 + 1) (x12 + 1) (x13 + 1) (x14 + 1) s15 hRs15 (by show x8 = p2; omega) (by show x9 = qr147r ∧ x10 = qr150r; omega) (by show 0 ≤ (x11 + 1) ∧ (x11 + 1) ≤ (x14 + 1); omega) (by show 0 ≤ (x12 + 1) ∧ (x12 + 1) ≤ x9; omega) (by show 0 ≤ (x13 + 1) ∧ (x13 + 1) ≤ x10; omega) (by show 0 ≤ (x14 + 1) ∧ (x14 + 1) ≤ 576; omega) (hv46_6) (hv46_7) (by omega)
                      · skip
                        unfold m_x11_unlike_J186
                        refine wp_rg (by omega) ?_
                        refine wp_rg (by omega) ?_
                        refine wp_if (fun c301 => ?_) (fun c301 => ?_)
                        · skip
                          unfold m_x11_unlike_J203
                          refine wp_rg (by omega) ?_
                          refine wp_rg (by omega) ?_
                          refine wp_if (fun c302 => ?_) (fun c302 => ?_)
                          · skip
                            unfold m_x11_unlike_J220
                            exact ih46 x8 x9 x10 (x11 + 0) (x12 + 0) (x13 + 0) (x14 + 1) s15 hRs15 (by show x8 = p2; omega) (by show x9 = qr147r ∧ x10 = qr150r; omega) (by show 0 ≤ (x11 + 0) ∧ (x11 + 0) ≤ (x14 + 1); omega) (by show 0 ≤ (x12 + 0) ∧ (x12 + 0) ≤ x9; omega) (by show 0 ≤ (x13 + 0) ∧ (x13 + 0) ≤ x10; omega) (by show 0 ≤ (x14 + 1) ∧ (x14 + 1) ≤ 576; omega) (hv46_6) (hv46_7) (by omega)
                          · skip
                            unfold m_x11_unlike_J220
                            exact ih46 x8 x9 x10 (x11 + 0) (x12 + 0) (x13 + 1) (x14 + 1) s15 hRs15 (by show x8 = p2; omega) (by show x9 = qr147r ∧ x10 = qr150r; omega) (by show 0 ≤ (x11 + 0) ∧ (x11 + 0) ≤ (x14 + 1); omega) (by show 0 ≤ (x12 + 0) ∧ (x12 + 0) ≤ x9; omega) (by show 0 ≤ (x13 + 1) ∧ (x13 + 1) ≤ x10; omega) (by show 0 ≤ (x14 + 1) ∧ (x14 + 1) ≤ 576; omega) (hv46_6) (hv46_7) (by omega)
                        · skip
                          unfold m_x11_unlike_J203
                          refine wp_rg (by omega) ?_
                          refine wp_rg (by omega) ?_
                          refine wp_if (fun c303 => ?_) (fun c303 => ?_)
                          · skip
                            unfold m_x11_unlike_J220
                            exact ih46 x8 x9 x10 (x11 + 0) (x12 + 1) (x13 + 0) (x14 + 1) s15 hRs15 (by show x8 = p2; omega) (by show x9 = qr147r ∧ x10 = qr150r; omega) (by show 0 ≤ (x11 + 0) ∧ (x11 + 0) ≤ (x14 + 1); omega) (by show 0 ≤ (x12 + 1) ∧ (x12 + 1) ≤ x9; omega) (by show 0 ≤ (x13 + 0) ∧ (x13 + 0) ≤ x10; omega) (by show 0 ≤ (x14 + 1) ∧ (x14 + 1) ≤ 576; omega) (hv46_6) (hv46_7) (by omega)
                          · skip
                            unfold m_x11_unlike_J220
                            exact ih46 x8 x9 x10 (x11 + 0) (x12 + 1) (x13 + 1) (x14 + 1) s15 hRs15 (by show x8 = p2; omega) (by show x9 = qr147r ∧ x10 = qr150r; omega) (by show 0 ≤ (x11 + 0) ∧ (x11 + 0) ≤ (x14 + 1); omega) (by show 0 ≤ (x12 + 1) ∧ (x12 + 1) ≤ x9; omega) (by show 0 ≤ (x13 + 1) ∧ (x13 + 1) ≤ x10; omega) (by show 0 ≤ (x14 + 1) ∧ (x14 + 1) ≤ 576; omega) (hv46_6) (hv46_7) (by omega)
                  · skip
                    unfold m_x11_unlike_J174
                    refine wp_rg (by omega) ?_
                    refine wp_if (fun c304 => ?_) (fun c304 => ?_)
                    · skip
                      unfold m_x11_unlike_J186
                      refine wp_rg (by omega) ?_
                      refine wp_rg (by omega) ?_
                      refine wp_if (fun c305 => ?_) (fun c305 => ?_)
                      · skip
                        unfold m_x11_unlike_J203
                        refine wp_rg (by omega) ?_
                        refine wp_rg (by omega) ?_
                        refine wp_if (fun c306 => ?_) (fun c306 => ?_)
                        · skip
                          unfold m_x11_unlike_J220
                          exact ih46 x8 x9 x10 (x11 + 1) (x12 + 0) (x13 + 0) (x14 + 1) s15 hRs15 (by show x8 = p2; omega) (by show x9 = qr147r ∧ x10 = qr150r; omega) (by show 0 ≤ (x11 + 1) ∧ (x11 + 1) ≤ (x14 + 1); omega) (by show 0 ≤ (x12 + 0) ∧ (x12 + 0) ≤ x9; omega) (by show 0 ≤ (x13 + 0) ∧ (x13 + 0) ≤ x10; omega) (by show 0 ≤ (x14 + 1) ∧ (x14 + 1) ≤ 576; omega) (hv46_6) (hv46_7) (by omega)
                        · skip
                          unfold m_x11_unlike_J220
                          exact ih46 x8 x9 x10 (x11 + 1) (x12 + 0) (x13 + 1) (x14 + 1) s15 hRs15 (by show x8 = p2; omega) (by show x9 = qr147r ∧ x10 = qr150r; omega) (by show 0 ≤ (x11 + 1) ∧ (x11 + 1) ≤ (x14 + 1); omega) (by show 0 ≤ (x12 + 0) ∧ (x12 + 0) ≤ x9; omega) (by show 0 ≤ (x13 + 1) ∧ (x13 + 1) ≤ x10; omega) (by show 0 ≤ (x14 + 1) ∧ (x14 + 1) ≤ 576; omega) (hv46_6) (hv46_7) (by omega)
                      · skip
                        unfold m_x11_unlike_J203
                        refine wp_rg (by omega) ?_
                        refine wp_rg (by omega) ?_
                        refine wp_if (fun c307 => ?_) (fun c307 => ?_)
                        · skip
                          unfold m_x11_unlike_J220
                          exact ih46 x8 x9 x10 (x11 + 1) (x12 + 1) (x13 + 0) (x14 + 1) s15 hRs15 (by show x8 = p2; omega) (by show x9 = qr147r ∧ x10 = qr150r; omega) (by show 0 ≤ (x11 + 1) ∧ (x11 + 1) ≤ (x14 + 1); omega) (by show 0 ≤ (x12 + 1) ∧ (x12 + 1) ≤ x9; omega) (by show 0 ≤ (x13 + 0) ∧ (x13 + 0) ≤ x10; omega) (by show 0 ≤ (x14 + 1) ∧ (x14 + 1) ≤ 576; omega) (hv46_6) (hv46_7) (by omega)
                        · skip
                          unfold m_x11_unlike_J220
                          exact ih46 x8 x9 x10 (x11 + 1) (x12 + 1) (x13 + 1) (x14 + 1) s15 hRs15 (by show x8 = p2; omega) (by show x9 = qr147r ∧ x10 = qr150r; omega) (by show 0 ≤ (x11 + 1) ∧ (x11 + 1) ≤ (x14 + 1); omega) (by show 0 ≤ (x12 + 1) ∧ (x12 + 1) ≤ x9; omega) (by show 0 ≤ (x13 + 1) ∧ (x13 + 1) ≤ x10; omega) (by show 0 ≤ (x14 + 1) ∧ (x14 + 1) ≤ 576; omega) (hv46_6) (hv46_7) (by omega)
                    · skip
                      unfold m_x11_unlike_J186
                      refine wp_rg (by omega) ?_
                      refine wp_rg (by omega) ?_
                      refine wp_if (fun c308 => ?_) (fun c308 => ?_)
                      · skip
                        unfold m_x11_unlike_J203
                        refine wp_rg (by omega) ?_
                        refine wp_rg (by omega) ?_
                        refine wp_if (fun c309 => ?_) (fun c309 => ?_)
                        · skip
                          unfold m_x11_unlike_J220
                          exact ih46 x8 x9 x10 (x11 + 0) (x12 + 0) (x13 + 0) (x14 + 1) s15 hRs15 (by show x8 = p2; omega) (by show x9 = qr147r ∧ x10 = qr150r; omega) (by show 0 ≤ (x11 + 0) ∧ (x11 + 0) ≤ (x14 + 1); omega) (by show 0 ≤ (x12 + 0) ∧ (x12 + 0) ≤ x9; omega) (by show 0 ≤ (x13 + 0) ∧ (x13 + 0) ≤ x10; omega) (by show 0 ≤ (x14 + 1) ∧ (x14 + 1) ≤ 576; omega) (hv46_6) (hv46_7) (by omega)
                        · skip
                          unfold m_x11_unlike_J220
                          exact ih46 x8 x9 x10 (x11 + 0) (x12 + 0) (x13 + 1) (x14 + 1) s15 hRs15 (by show x8 = p2; omega) (by show x9 = qr147r ∧ x10 = qr150r; omega) (by show 0 ≤ (x11 + 0) ∧ (x11 + 0) ≤ (x14 + 1); omega) (by show 0 ≤ (x12 + 0) ∧ (x12 + 0) ≤ x9; omega) (by show 0 ≤ (x13 + 1) ∧ (x13 + 1) ≤ x10; omega) (by show 0 ≤ (x14 + 1) ∧ (x14 + 1) ≤ 576; omega) (hv46_6) (hv46_7) (by omega)
                      · skip
                        unfold m_x11_unlike_J203
                        refine wp_rg (by omega) ?_
                        refine wp_rg (by omega) ?_
                        refine wp_if (fun c310 => ?_) (fun c310 => ?_)
                        · skip
                          unfold m_x11_unlike_J220
                          exact ih46 x8 x9 x10 (x11 + 0) (x12 + 1) (x13 + 0) (x14 + 1) s15 hRs15 (by show x8 = p2; omega) (by show x9 = qr147r ∧ x10 = qr150r; omega) (by show 0 ≤ (x11 + 0) ∧ (x11 + 0) ≤ (x14 + 1); omega) (by show 0 ≤ (x12 + 1) ∧ (x12 + 1) ≤ x9; omega) (by show 0 ≤ (x13 + 0) ∧ (x13 + 0) ≤ x10; omega) (by show 0 ≤ (x14 + 1) ∧ (x14 + 1) ≤ 576; omega) (hv46_6) (hv46_7) (by omega)
                        · skip
                          unfold m_x11_unlike_J220
                          exact ih46 x8 x9 x10 (x11 + 0) (x12 + 1) (x13 + 1) (x14 + 1) s15 hRs15 (by show x8 = p2; omega) (by show x9 = qr147r ∧ x10 = qr150r; omega) (by show 0 ≤ (x11 + 0) ∧ (x11 + 0) ≤ (x14 + 1); omega) (by show 0 ≤ (x12 + 1) ∧ (x12 + 1) ≤ x9; omega) (by show 0 ≤ (x13 + 1) ∧ (x13 + 1) ≤ x10; omega) (by show 0 ≤ (x14 + 1) ∧ (x14 + 1) ≤ 576; omega) (hv46_6) (hv46_7) (by omega)
            · skip
              refine wp_rdIn (by omega) (fun y136 ey136 => ?_)
              have by136 : (-2147483648 : Int) ≤ y136 ∧ y136 ≤ 2147483647 := ey136 ▸ hRs15.2.1 23 _ (by show _ < 288; omega)
              have k136 := hv46_6 x12.toNat (by omega)
              rw [ey136] at k136
              unfold m_x11_unlike_J91
              refine wp_rg (by omega) ?_
              refine wp_rg (by omega) ?_
              refine wp_if (fun c311 => ?_) (fun c311 => ?_)
              · skip
                unfold m_x11_unlike_J116
                refine wp_rg (by omega) ?_
                refine wp_rg (by omega) ?_
                refine wp_if (fun c312 => ?_) (fun c312 => ?_)
                · skip
                  refine wp_rdIn (by omega) (fun y107 ey107 => ?_)
                  have by107 : (-2147483648 : Int) ≤ y107 ∧ y107 ≤ 2147483647 := ey107 ▸ hRs15.2.1 24 _ (by show _ < 288; omega)
                  refine wp_rdIn (by omega) (fun y108 ey108 => ?_)
                  have by108 : (-2147483648 : Int) ≤ y108 ∧ y108 ≤ 2147483647 := ey108 ▸ hRs15.2.1 28 _ (by show _ < 288; omega)
                  refine wp_rg (by omega) ?_
                  refine wp_rg (by omega) ?_
                  refine wp_if (fun c313 => ?_) (fun c313 => ?_)
                  · skip
                    unfold m_x11_unlike_J153
                    refine wp_rg (by omega) ?_
                    refine wp_if (fun c314 => ?_) (fun c314 => ?_)
                    · skip
                      refine wp_rg (by omega) ?_
                      refine wp_rg (by omega) ?_
                      refine wp_if (fun c315 => ?_) (fun c315 => ?_)
                      · skip
                        refine wp_rg (by omega) ?_
                        refine wp_rg (by omega) ?_
                        exact wp_some (hRs15)
                      · skip
                        unfold m_x11_unlike_J174
                        refine wp_rg (by omega) ?_
                        refine wp_if (fun c316 => ?_) (fun c316 => ?_)
                        · skip
                          unfold m_x11_unlike_J186
                          refine wp_rg (by omega) ?_
                          refine wp_rg (by omega) ?_
                          refine wp_if (fun c317 => ?_) (fun c317 => ?_)
                          · skip
                            unfold m_x11_unlike_J203
                            refine wp_rg (by omega) ?_
                            refine wp_rg (by omega) ?_
                            refine wp_if (fun c318 => ?_) (fun c318 => ?_)
                            · skip
                              unfold m_x11_unlike_J220
                              exact ih46 x8 x9 x10 (x11 + 1) (x12 + 0) (x13 + 0) (x14 + 1) s15 hRs15 (by show x8 = p2; omega) (by show x9 = qr147r ∧ x10 = qr150r; omega) (by show 0 ≤ (x11 + 1) ∧ (x11 + 1) ≤ (x14 + 1); omega) (by show 0 ≤ (x12 + 0) ∧ (x12 + 0) ≤ x9; omega) (by show 0 ≤ (x13 + 0) ∧ (x13 + 0) ≤ x10; omega) (by show 0 ≤ (x14 + 1) ∧ (x14 + 1) ≤ 576; omega) (hv46_6) (hv46_7) (by omega)
                            · skip
                              unfold m_x11_unlike_J220
                              exact ih46 x8 x9 x10 (x11 + 1) (x12 + 0) (x13 + 1) (x14 + 1) s15 hRs15 (by show x8 = p2; omega) (by show x9 = qr147r ∧ x10 = qr150r; omega) (by show 0 ≤ (x11 + 1) ∧ (x11 + 1) ≤ (x14 + 1); omega) (by show 0 ≤ (x12 + 0) ∧ (x12 + 0) ≤ x9; omega) (by show 0 ≤ (x13 + 1) ∧ (x13 + 1) ≤ x10; omega) (by show 0 ≤ (x14 + 1) ∧ (x14 + 1) ≤ 576; omega) (hv46_6) (hv46_7) (by omega)
                          · skip
                            unfold m_x11_unlike_J203
                            refine wp_rg (by omega) ?_
                            refine wp_rg (by omega) ?_
                            refine wp_if (fun c319 => ?_) (fun c319 => ?_)
                            · skip
                              unfold m_x11_unlike_J220
                              exact ih46 x8 x9 x10 (x11 + 1) (x12 + 1) (x13 + 0) (x14 + 1) s15 hRs15 (by show x8 = p2; omega) (by show x9 = qr147r ∧ x10 = qr150r; omega) (by show 0 ≤ (x11 + 1) ∧ (x11 + 1) ≤ (x14 + 1); omega) (by show 0 ≤ (x12 + 1) ∧ (x12 + 1) ≤ x9; omega) (by show 0 ≤ (x13 + 0) ∧ (x13 + 0) ≤ x10; omega) (by show 0 ≤ (x14 + 1) ∧ (x14 + 1) ≤ 576; omega) (hv46_6) (hv46_7) (by omega)
                            · skip
                              unfold m_x11_unlike_J220
                              exact ih46 x8 x9 x10 (x11 + 1) (x12 + 1) (x13 + 1) (x14 + 1) s15 hRs15 (by show x8 = p2; omega) (by show x9 = qr147r ∧ x10 = qr150r; omega) (by show 0 ≤ (x11 + 1) ∧ (x11 + 1) ≤ (x14 + 1); omega) (by show 0 ≤ (x12 + 1) ∧ (x12 + 1) ≤ x9; omega) (by show 0 ≤ (x13 + 1) ∧ (x13 + 1) ≤ x10; omega) (by show 0 ≤ (x14 + 1) ∧ (x14 + 1) ≤ 576; omega) (hv46_6) (hv46_7) (by omega)
                        · skip
                          unfold m_x11_unlike_J186
                          refine wp_rg (by omega) ?_
                          refine wp_rg (by omega) ?_
                          refine wp_if (fun c320 => ?_) (fun c320 => ?_)
                          · skip
                            unfold m_x11_unlike_J203
                            refine wp_rg (by omega) ?_
                            refine wp_rg (by omega) ?_
                            refine wp_if (fun c321 => ?_) (fun c321 => ?_)
                            · skip
                              unfold m_x11_unlike_J220
                              exact ih46 x8 x9 x10 (x11 + 0) (x12 + 0) (x13 + 0) (x14 + 1) s15 hRs15 (by show x8 = p2; omega) (by show x9 = qr147r ∧ x10 = qr150r; omega) (by show 0 ≤ (x11 + 0) ∧ (x11 + 0) ≤ (x14 + 1); omega) (by show 0 ≤ (x12 + 0) ∧ (x12 + 0) ≤ x9; omega) (by show 0 ≤ (x13 + 0) ∧ (x13 + 0) ≤ x10; omega) (by show 0 ≤ (x14 + 1) ∧ (x14 + 1) ≤ 576; omega) (hv46_6) (hv46_7) (by omega)
                            · skip
                              unfold m_x11_unlike_J220
                              exact ih46 x8 x9 x10 (x11 + 0) (x12 + 0) (x13 + 1) (x14 + 1) s15 hRs15 (by show x8 = p2; omega) (by show x9 = qr147r ∧ x10 = qr150r; omega) (by show 0 ≤ (x11 + 0) ∧ (x11 + 0) ≤ (x14 + 1); omega) (by show 0 ≤ (x12 + 0) ∧ (x12 + 0) ≤ x9; omega) (by show 0 ≤ (x13 + 1) ∧ (x13 + 1) ≤ x10; omega) (by show 0 ≤ (x14 + 1) ∧ (x14 + 1) ≤ 576; omega) (hv46_6) (hv46_7) (by omega)
                          · skip
                            unfold m_x11_unlike_J203
                            refine wp_rg (by omega) ?_
                            refine wp_rg (by omega) ?_
                            refine wp_if (fun c322 => ?_) (fun c322 => ?_)
                            · skip
                              unfold m_x11_unlike_J220
                              exact ih46 x8 x9 x10 (x11 + 0) (x12 + 1) (x13 + 0) (x14 + 1) s15 hRs15 (by show x8 = p2; omega) (by show x9 = qr147r ∧ x10 = qr150r; omega) (by show 0 ≤ (x11 + 0) ∧ (x11 + 0) ≤ (x14 + 1); omega) (by show 0 ≤ (x12 + 1) ∧ (x12 + 1) ≤ x9; omega) (by show 0 ≤ (x13 + 0) ∧ (x13 + 0) ≤ x10; omega) (by show 0 ≤ (x14 + 1) ∧ (x14 + 1) ≤ 576; omega) (hv46_6) (hv46_7) (by omega)
                            · skip
                              unfold m_x11_unlike_J220
                              exact ih46 x8 x9 x10 (x11 + 0) (x12 + 1) (x13 + 1) (x14 + 1) s15 hRs15 (by show x8 = p2; omega) (by show x9 = qr147r ∧ x10 = qr150r; omega) (by show 0 ≤ (x11 + 0) ∧ (x11 + 0) ≤ (x14 + 1); omega) (by show 0 ≤ (x12 + 1) ∧ (x12 + 1) ≤ x9; omega) (by show 0 ≤ (x13 + 1) ∧ (x13 + 1) ≤ x10; omega) (by show 0 ≤ (x14 + 1) ∧ (x14 + 1) ≤ 576; omega) (hv46_6) (hv46_7) (by omega)
                    · skip
                      unfold m_x11_unlike_J174
                      refine wp_rg (by omega) ?_
                      refine wp_if (fun c323 => ?_) (fun c323 => ?_)
                      · skip
                        unfold m_x11_unlike_J186
                        refine wp_rg (by omega) ?_
                        refine wp_rg (by omega) ?_
                        refine wp_if (fun c324 => ?_) (fun c324 => ?_)
                        · skip
                          unfold m_x11_unlike_J203
                          refine wp_rg (by omega) ?_
                          refine wp_rg (by omega) ?_
                          refine wp_if (fun c325 => ?_) (fun c325 => ?_)
                          · skip
                            unfold m_x11_unlike_J220
                            exact ih46 x8 x9 x10 (x11 + 1) (x12 + 0) (x13 + 0) (x14 + 1) s15 hRs15 (by show x8 = p2; omega) (by show x9 = qr147r ∧ x10 = qr150r; omega) (by show 0 ≤ (x11 + 1) ∧ (x11 + 1) ≤ (x14 + 1); omega) (by show 0 ≤ (x12 + 0) ∧ (x12 + 0) ≤ x9; omega) (by show 0 ≤ (x13 + 0) ∧ (x13 + 0) ≤ x10; omega) (by show 0 ≤ (x14 + 1) ∧ (x14 + 1) ≤ 576; omega) (hv46_6) (hv46_7) (by omega)
                          · skip
                            unfold m_x11_unlike_J220
                            exact ih46 x8 x9 x10 (x11 + 1) (x12 + 0) (x13 + 1) (x14 + 1) s15 hRs15 (by show x8 = p2; omega) (by show x9 = qr147r ∧ x10 = qr150r; omega) (by show 0 ≤ (x11 + 1) ∧ (x11 + 1) ≤ (x14 + 1); omega) (by show 0 ≤ (x12 + 0) ∧ (x12 + 0) ≤ x9; omega) (by show 0 ≤ (x13 + 1) ∧ (x13 + 1) ≤ x10; omega) (by show 0 ≤ (x14 + 1) ∧ (x14 + 1) ≤ 576; omega) (hv46_6) (hv46_7) (by omega)
                        · skip
                          unfold m_x11_unlike_J203
                          refine wp_rg (by omega) ?_
                          refine wp_rg (by omega) ?_
                          refine wp_if (fun c326 => ?_) (fun c326 => ?_)
                          · skip
                            unfold m_x11_unlike_J220
                            exact ih46 x8 x9 x10 (x11 + 1) (x12 + 1) (x13 + 0) (x14 + 1) s15 hRs15 (by show x8 = p2; omega) (by show x9 = qr147r ∧ x10 = qr150r; omega) (by show 0 ≤ (x11 + 1) ∧ (x11 + 1) ≤ (x14 + 1); omega) (by show 0 ≤ (x12 + 1) ∧ (x12 + 1) ≤ x9; omega) (by show 0 ≤ (x13 + 0) ∧ (x13 + 0) ≤ x10; omega) (by show 0 ≤ (x14 + 1) ∧ (x14 + 1) ≤ 576; omega) (hv46_6) (hv46_7) (by omega)
                          · skip
                            unfold m_x11_unlike_J220
                            exact ih46 x8 x9 x10 (x11 + 1) (x12 + 1) (x13 + 1) (x14 + 1) s15 hRs15 (by show x8 = p2; omega) (by show x9 = qr147r ∧ x10 = qr150r; omega) (by show 0 ≤ (x11 + 1) ∧ (x11 + 1) ≤ (x14 + 1); omega) (by show 0 ≤ (x12 + 1) ∧ (x12 + 1) ≤ x9; omega) (by show 0 ≤ (x13 + 1) ∧ (x13 + 1) ≤ x10; omega) (by show 0 ≤ (x14 + 1) ∧ (x14 + 1) ≤ 576; omega) (hv46_6) (hv46_7) (by omega)
                      · skip
                        unfold m_x11_unlike_J186
                        refine wp_rg (by omega) ?_
                        refine wp_rg (by omega) ?_
                        refine wp_if (fun c327 => ?_) (fun c327 => ?_)
                        · skip
                          unfold m_x11_unlike_J203
                          refine wp_rg (by omega) ?_
                          refine wp_rg (by omega) ?_
                          refine wp_if (fun c328 => ?_) (fun c328 => ?_)
                          · skip
                            unfold m_x11_unlike_J220
                            exact ih46 x8 x9 x10 (x11 + 0) (x12 + 0) (x13 + 0) (x14 + 1) s15 hRs15 (by show x8 = p2; omega) (by show x9 = qr147r ∧ x10 = qr150r; omega) (by show 0 ≤ (x11 + 0) ∧ (x11 + 0) ≤ (x14 + 1); omega) (by show 0 ≤ (x12 + 0) ∧ (x12 + 0) ≤ x9; omega) (by show 0 ≤ (x13 + 0) ∧ (x13 + 0) ≤ x10; omega) (by show 0 ≤ (x14 + 1) ∧ (x14 + 1) ≤ 576; omega) (hv46_6) (hv46_7) (by omega)
                          · skip
                            unfold m_x11_unlike_J220
                            exact ih46 x8 x9 x10 (x11 + 0) (x12 + 0) (x13 + 1) (x14 + 1) s15 hRs15 (by show x8 = p2; omega) (by show x9 = qr147r ∧ x10 = qr150r; omega) (by show 0 ≤ (x11 + 0) ∧ (x11 + 0) ≤ (x14 + 1); omega) (by show 0 ≤ (x12 + 0) ∧ (x12 + 0) ≤ x9; omega) (by show 0 ≤ (x13 + 1) ∧ (x13 + 1) ≤ x10; omega) (by show 0 ≤ (x14 + 1) ∧ (x14 + 1) ≤ 576; omega) (hv46_6) (hv46_7) (by omega)
                        · skip
                          unfold m_x11_unlike_J203
                          refine wp_rg (by omega) ?_
                          refine wp_rg (by omega) ?_
                          refine wp_if (fun c329 => ?_) (fun c329 => ?_)
                          · skip
                            unfold m_x11_unlike_J220
                            exact ih46 x8 x9 x10 (x11 + 0) (x12 + 1) (x13 + 0) (x14 + 1) s15 hRs15 (by show x8 = p2; omega) (by show x9 = qr147r ∧ x10 = qr150r; omega) (by show 0 ≤ (x11 + 0) ∧ (x11 + 0) ≤ (x14 + 1); omega) (by show 0 ≤ (x12 + 1) ∧ (x12 + 1) ≤ x9; omega) (by show 0 ≤ (x13 + 0) ∧ (x13 + 0) ≤ x10; omega) (by show 0 ≤ (x14 + 1) ∧ (x14 + 1) ≤ 576; omega) (hv46_6) (hv46_7) (by omega)
                          · skip
                            unfold m_x11_unlike_J220
                            exact ih46 x8 x9 x10 (x11 + 0) (x12 + 1) (x13 + 1) (x14 + 1) s15 hRs15 (by show x8 = p2; omega) (by show x9 = qr147r ∧ x10 = qr150r; omega) (by show 0 ≤ (x11 + 0) ∧ (x11 + 0) ≤ (x14 + 1); omega) (by show 0 ≤ (x12 + 1) ∧ (x12 + 1) ≤ x9; omega) (by show 0 ≤ (x13 + 1) ∧ (x13 + 1) ≤ x10; omega) (by show 0 ≤ (x14 + 1) ∧ (x14 + 1) ≤ 576; omega) (hv46_6) (hv46_7) (by omega)
                  · skip
                    unfold m_x11_unlike_J152
                    unfold m_x11_unlike_J153
                    refine wp_rg (by omega) ?_
                    refine wp_if (fun c330 => ?_) (fun c330 => ?_)
                    · skip
                      refine wp_rg (by omega) ?_
                      refine wp_rg (by omega) ?_
                      refine wp_if (fun c331 => ?_) (fun c331 => ?_)
                      · skip
                        refine wp_rg (by omega) ?_
                        refine wp_rg (by omega) ?_
                        exact wp_some (hRs15)
                      · skip
                        unfold m_x11_unlike_J174
                        refine wp_rg (by omega) ?_
                        refine wp_if (fun c332 => ?_) (fun c332 => ?_)
                        · skip
                          unfold m_x11_unlike_J186
                          refine wp_rg (by omega) ?_
                          refine wp_rg (by omega) ?_
                          refine wp_if (fun c333 => ?_) (fun c333 => ?_)
                          · skip
                            unfold m_x11_unlike_J203
                            refine wp_rg (by omega) ?_
                            refine wp_rg (by omega) ?_
                            refine wp_if (fun c334 => ?_) (fun c334 => ?_)
                            · skip
                              unfold m_x11_unlike_J220
                              exact ih46 x8 x9 x10 (x11 + 1) (x12 + 0) (x13 + 0) (x14 + 1) s15 hRs15 (by show x8 = p2; omega) (by show x9 = qr147r ∧ x10 = qr150r; omega) (by show 0 ≤ (x11 + 1) ∧ (x11 + 1) ≤ (x14 + 1); omega) (by show 0 ≤ (x12 + 0) ∧ (x12 + 0) ≤ x9; omega) (by show 0 ≤ (x13 + 0) ∧ (x13 + 0) ≤ x10; omega) (by show 0 ≤ (x14 + 1) ∧ (x14 + 1) ≤ 576; omega) (hv46_6) (hv46_7) (by omega)
                            · skip
                              unfold m_x11_unlike_J220
                              exact ih46 x8 x9 x10 (x11 + 1) (x12 + 0) (x13 + 1) (x14 + 1) s15 hRs15 (by show x8 = p2; omega) (by show x9 = qr147r ∧ x10 = qr150r; omega) (by show 0 ≤ (x11 + 1) ∧ (x11 + 1) ≤ (x14 + 1); omega) (by show 0 ≤ (x12 + 0) ∧ (x12 + 0) ≤ x9; omega) (by show 0 ≤ (x13 + 1) ∧ (x13 + 1) ≤ x10; omega) (by show 0 ≤ (x14 + 1) ∧ (x14 + 1) ≤ 576; omega) (hv46_6) (hv46_7) (by omega)
                          · skip
                            unfold m_x11_unlike_J203
                            refine wp_rg (by omega) ?_
                            refine wp_rg (by omega) ?_
                            refine wp_if (fun c335 => ?_) (fun c335 => ?_)
                            · skip
                              unfold m_x11_unlike_J220
                              exact ih46 x8 x9 x10 (x11 + 1) (x12 + 1) (x13 + 0) (x14 + 1) s15 hRs15 (by show x8 = p2; omega) (by show x9 = qr147r ∧ x10 = qr150r; omega) (by show 0 ≤ (x11 + 1) ∧ (x11 + 1) ≤ (x14 + 1); omega) (by show 0 ≤ (x12 + 1) ∧ (x12 + 1) ≤ x9; omega) (by show 0 ≤ (x13 + 0) ∧ (x13 + 0) ≤ x10; omega) (by show 0 ≤ (x14 + 1) ∧ (x14 + 1) ≤ 576; omega) (hv46_6) (hv46_7) (by omega)
                            · skip
                              unfold m_x11_unlike_J220
                              exact ih46 x8 x9 x10 (x11 + 1) (x12 + 1) (x13 + 1) (x14 + 1) s15 hRs15 (by show x8 = p2; omega) (by show x9 = qr147r ∧ x10 = qr150r; omega) (by show 0 ≤ (x11 + 1) ∧ (x11 + 1) ≤ (x14 + 1); omega) (by show 0 ≤ (x12 + 1) ∧ (x12 + 1) ≤ x9; omega) (by show 0 ≤ (x13 + 1) ∧ (x13 + 1) ≤ x10; omega) (by show 0 ≤ (x14 + 1) ∧ (x14 + 1) ≤ 576; omega) (hv46_6) (hv46_7) (by omega)
                        · skip
                          unfold m_x11_unlike_J186
                          refine wp_rg (by omega) ?_
                          refine wp_rg (by omega) ?_
                          refine wp_if (fun c336 => ?_) (fun c336 => ?_)
                          · skip
                            unfold m_x11_unlike_J203
                            refine wp_rg (by omega) ?_
                            refine wp_rg (by omega) ?_
                            refine wp_if (fun c337 => ?_) (fun c337 => ?_)
                            · skip
                              unfold m_x11_unlike_J220
                              exact ih46 x8 x9 x10 (x11 + 0) (x12 + 0) (x13 + 0) (x14 + 1) s15 hRs15 (by show x8 = p2; omega) (by show x9 = qr147r ∧ x10 = qr150r; omega) (by show 0 ≤ (x11 + 0) ∧ (x11 + 0) ≤ (x14 + 1); omega) (by show 0 ≤ (x12 + 0) ∧ (x12 + 0) ≤ x9; omega) (by show 0 ≤ (x13 + 0) ∧ (x13 + 0) ≤ x10; omega) (by show 0 ≤ (x14 + 1) ∧ (x14 + 1) ≤ 576; omega) (hv46_6) (hv46_7) (by omega)
                            · skip
                              unfold m_x11_unlike_J220
                              exact ih46 x8 x9 x10 (x11 + 0) (x12 + 0) (x13 + 1) (x14 + 1) s15 hRs15 (by show x8 = p2; omega) (by show x9 = qr147r ∧ x10 = qr150r; omega) (by show 0 ≤ (x11 + 0) ∧ (x11 + 0) ≤ (x14 + 1); omega) (by show 0 ≤ (x12 + 0) ∧ (x12 + 0) ≤ x9; omega) (by show 0 ≤ (x13 + 1) ∧ (x13 + 1) ≤ x10; omega) (by show 0 ≤ (x14 + 1) ∧ (x14 + 1) ≤ 576; omega) (hv46_6) (hv46_7) (by omega)
                          · skip
                            unfold m_x11_unlike_J203
                            refine wp_rg (by omega) ?_
                            refine wp_rg (by omega) ?_
                            refine wp_if (fun c338 => ?_) (fun c338 => ?_)
                            · skip
                              unfold m_x11_unlike_J220
                              exact ih46 x8 x9 x10 (x11 + 0) (x12 + 1) (x13 + 0) (x14 + 1) s15 hRs15 (by show x8 = p2; omega) (by show x9 = qr147r ∧ x10 = qr150r; omega) (by show 0 ≤ (x11 + 0) ∧ (x11 + 0) ≤ (x14 + 1); omega) (by show 0 ≤ (x12 + 1) ∧ (x12 + 1) ≤ x9; omega) (by show 0 ≤ (x13 + 0) ∧ (x13 + 0) ≤ x10; omega) (by show 0 ≤ (x14 + 1) ∧ (x14 + 1) ≤ 576; omega) (hv46_6) (hv46_7) (by omega)
                            · skip
                              unfold m_x11_unlike_J220
                              exact ih46 x8 x9 x10 (x11 + 0) (x12 + 1) (x13 + 1) (x14 + 1) s15 hRs15 (by show x8 = p2; omega) (by show x9 = qr147r ∧ x10 = qr150r; omega) (by show 0 ≤ (x11 + 0) ∧ (x11 + 0) ≤ (x14 + 1); omega) (by show 0 ≤ (x12 + 1) ∧ (x12 + 1) ≤ x9; omega) (by show 0 ≤ (x13 + 1) ∧ (x13 + 1) ≤ x10; omega) (by show 0 ≤ (x14 + 1) ∧ (x14 + 1) ≤ 576; omega) (hv46_6) (hv46_7) (by omega)
                    · skip
                      unfold m_x11_unlike_J174
                      refine wp_rg (by omega) ?_
                      refine wp_if (fun c339 => ?_) (fun c339 => ?_)
                      · skip
                        unfold m_x11_unlike_J186
                        refine wp_rg (by omega) ?_
                        refine wp_rg (by omega) ?_
                        refine wp_if (fun c340 => ?_) (fun c340 => ?_)
                        · skip
                          unfold m_x11_unlike_J203
                          refine wp_rg (by omega) ?_
                          refine wp_rg (by omega) ?_
                          refine wp_if (fun c341 => ?_) (fun c341 => ?_)
                          · skip
                            unfold m_x11_unlike_J220
                            exact ih46 x8 x9 x10 (x11 + 1) (x12 + 0) (x13 + 0) (x14 + 1) s15 hRs15 (by show x8 = p2; omega) (by show x9 = qr147r ∧ x10 = qr150r; omega) (by show 0 ≤ (x11 + 1) ∧ (x11 + 1) ≤ (x14 + 1); omega) (by show 0 ≤ (x12 + 0) ∧ (x12 + 0) ≤ x9; omega) (by show 0 ≤ (x13 + 0) ∧ (x13 + 0) ≤ x10; omega) (by show 0 ≤ (x14 + 1) ∧ (x14 + 1) ≤ 576; omega) (hv46_6) (hv46_7) (by omega)
                          · skip
                            unfold m_x11_unlike_J220
                            exact ih46 x8 x9 x10 (x11 + 1) (x12 + 0) (x13 + 1) (x14 + 1) s15 hRs15 (by show x8 = p2; omega) (by show x9 = qr147r ∧ x10 = qr150r; omega) (by show 0 ≤ (x11 + 1) ∧ (x11 + 1) ≤ (x14 + 1); omega) (by show 0 ≤ (x12 + 0) ∧ (x12 + 0) ≤ x9; omega) (by show 0 ≤ (x13 + 1) ∧ (x13 + 1) ≤ x10; omega) (by show 0 ≤ (x14 + 1) ∧ (x14 + 1) ≤ 576; omega) (hv46_6) (hv46_7) (by omega)
                        · skip
                          unfold m_x11_unlike_J203
                          refine wp_rg (by omega) ?_
                          refine wp_rg (by omega) ?_
                          refine wp_if (fun c342 => ?_) (fun c342 => ?_)
                          · skip
                            unfold m_x11_unlike_J220
                            exact ih46 x8 x9 x10 (x11 + 1) (x12 + 1) (x13 + 0) (x14 + 1) s15 hRs15 (by show x8 = p2; omega) (by show x9 = qr147r ∧ x10 = qr150r; omega) (by show 0 ≤ (x11 + 1) ∧ (x11 + 1) ≤ (x14 + 1); omega) (by show 0 ≤ (x12 + 1) ∧ (x12 + 1) ≤ x9; omega) (by show 0 ≤ (x13 + 0) ∧ (x13 + 0) ≤ x10; omega) (by show 0 ≤ (x14 + 1) ∧ (x14 + 1) ≤ 576; omega) (hv46_6) (hv46_7) (by omega)
                          · skip
                            unfold m_x11_unlike_J220
                            exact ih46 x8 x9 x10 (x11 + 1) (x12 + 1) (x13 + 1) (x14 + 1) s15 hRs15 (by show x8 = p2; omega) (by show x9 = qr147r ∧ x10 = qr150r; omega) (by show 0 ≤ (x11 + 1) ∧ (x11 + 1) ≤ (x14 + 1); omega) (by show 0 ≤ (x12 + 1) ∧ (x12 + 1) ≤ x9; omega) (by show 0 ≤ (x13 + 1) ∧ (x13 + 1) ≤ x10; omega) (by show 0 ≤ (x14 + 1) ∧ (x14 + 1) ≤ 576; omega) (hv46_6) (hv46_7) (by omega)
                      · skip
                        unfold m_x11_unlike_J186
                        refine wp_rg (by omega) ?_
                        refine wp_rg (by omega) ?_
                        refine wp_if (fun c343 => ?_) (fun c343 => ?_)
                        · skip
                          unfold m_x11_unlike_J203
                          refine wp_rg (by omega) ?_
                          refine wp_rg (by omega) ?_
                          refine wp_if (fun c344 => ?_) (fun c344 => ?_)
                          · skip
                            unfold m_x11_unlike_J220
                            exact ih46 x8 x9 x10 (x11 + 0) (x12 + 0) (x13 + 0) (x14 + 1) s15 hRs15 (by show x8 = p2; omega) (by show x9 = qr147r ∧ x10 = qr150r; omega) (by show 0 ≤ (x11 + 0) ∧ (x11 + 0) ≤ (x14 + 1); omega) (by show 0 ≤ (x12 + 0) ∧ (x12 + 0) ≤ x9; omega) (by show 0 ≤ (x13 + 0) ∧ (x13 + 0) ≤ x10; omega) (by show 0 ≤ (x14 + 1) ∧ (x14 + 1) ≤ 576; omega) (hv46_6) (hv46_7) (by omega)
                          · skip
                            unfold m_x11_unlike_J220
                            exact ih46 x8 x9 x10 (x11 + 0) (x12 + 0) (x13 + 1) (x14 + 1) s15 hRs15 (by show x8 = p2; omega) (by show x9 = qr147r ∧ x10 = qr150r; omega) (by show 0 ≤ (x11 + 0) ∧ (x11 + 0) ≤ (x14 + 1); omega) (by show 0 ≤ (x12 + 0) ∧ (x12 + 0) ≤ x9; omega) (by show 0 ≤ (x13 + 1) ∧ (x13 + 1) ≤ x10; omega) (by show 0 ≤ (x14 + 1) ∧ (x14 + 1) ≤ 576; omega) (hv46_6) (hv46_7) (by omega)
                        · skip
                          unfold m_x11_unlike_J203
                          refine wp_rg (by omega) ?_
                          refine wp_rg (by omega) ?_
                          refine wp_if (fun c345 => ?_) (fun c345 => ?_)
                          · skip
                            unfold m_x11_unlike_J220
                            exact ih46 x8 x9 x10 (x11 + 0) (x12 + 1) (x13 + 0) (x14 + 1) s15 hRs15 (by show x8 = p2; omega) (by show x9 = qr147r ∧ x10 = qr150r; omega) (by show 0 ≤ (x11 + 0) ∧ (x11 + 0) ≤ (x14 + 1); omega) (by show 0 ≤ (x12 + 1) ∧ (x12 + 1) ≤ x9; omega) (by show 0 ≤ (x13 + 0) ∧ (x13 + 0) ≤ x10; omega) (by show 0 ≤ (x14 + 1) ∧ (x14 + 1) ≤ 576; omega) (hv46_6) (hv46_7) (by omega)
                          · skip
                            unfold m_x11_unlike_J220
                            exact ih46 x8 x9 x10 (x11 + 0) (x12 + 1) (x13 + 1) (x14 + 1) s15 hRs15 (by show x8 = p2; omega) (by show x9 = qr147r ∧ x10 = qr150r; omega) (by show 0 ≤ (x11 + 0) ∧ (x11 + 0) ≤ (x14 + 1); omega) (by show 0 ≤ (x12 + 1) ∧ (x12 + 1) ≤ x9; omega) (by show 0 ≤ (x13 + 1) ∧ (x13 + 1) ≤ x10; omega) (by show 0 ≤ (x14 + 1) ∧ (x14 + 1) ≤ 576; omega) (hv46_6) (hv46_7) (by omega)
                · skip
                  unfold m_x11_unlike_J152
                  unfold m_x11_unlike_J153
                  refine wp_rg (by omega) ?_
                  refine wp_if (fun c346 => ?_) (fun c346 => ?_)
                  · skip
                    refine wp_rg (by omega) ?_
                    refine wp_rg (by omega) ?_
                    refine wp_if (fun c347 => ?_) (fun c347 => ?_)
                    · skip
                      refine wp_rg (by omega) ?_
                      refine wp_rg (by omega) ?_
                      exact wp_some (hRs15)
                    · skip
                      unfold m_x11_unlike_J174
                      refine wp_rg (by omega) ?_
                      refine wp_if (fun c348 => ?_) (fun c348 => ?_)
                      · skip
                        unfold m_x11_unlike_J186
                        refine wp_rg (by omega) ?_
                        refine wp_rg (by omega) ?_
                        refine wp_if (fun c349 => ?_) (fun c349 => ?_)
                        · skip
                          unfold m_x11_unlike_J203
                          refine wp_rg (by omega) ?_
                          refine wp_rg (by omega) ?_
                          refine wp_if (fun c350 => ?_) (fun c350 => ?_)
                          · skip
                            unfold m_x11_unlike_J220
                            exact ih46 x8 x9 x10 (x11 + 1) (x12 + 0) (x13 + 0) (x14 + 1) s15 hRs15 (by show x8 = p2; omega) (by show x9 = qr147r ∧ x10 = qr150r; omega) (by show 0 ≤ (x11 + 1) ∧ (x11 + 1) ≤ (x14 + 1); omega) (by show 0 ≤ (x12 + 0) ∧ (x12 + 0) ≤ x9; omega) (by show 0 ≤ (x13 + 0) ∧ (x13 + 0) ≤ x10; omega) (by show 0 ≤ (x14 + 1) ∧ (x14 + 1) ≤ 576; omega) (hv46_6) (hv46_7) (by omega)
                          · skip
                            unfold m_x11_unlike_J220
                            exact ih46 x8 x9 x10 (x11 + 1) (x12 + 0) (x13 + 1) (x14 + 1) s15 hRs15 (by show x8 = p2; omega) (by show x9 = qr147r ∧ x10 = qr150r; omega) (by show 0 ≤ (x11 + 1) ∧ (x11 + 1) ≤ (x14 + 1); omega) (by show 0 ≤ (x12 + 0) ∧ (x12 + 0) ≤ x9; omega) (by show 0 ≤ (x13 + 1) ∧ (x13 + 1) ≤ x10; omega) (by show 0 ≤ (x14 + 1) ∧ (x14 + 1) ≤ 576; omega) (hv46_6) (hv46_7) (by omega)
                        · skip
                          unfold m_x11_unlike_J203
                          refine wp_rg (by omega) ?_
                          refine wp_rg (by omega) ?_
                          refine wp_if (fun c351 => ?_) (fun c351 => ?_)
                          · skip
                            unfold m_x11_unlike_J220
                            exact ih46 x8 x9 x10 (x11 + 1) (x12 + 1) (x13 + 0) (x14 + 1) s15 hRs15 (by show x8 = p2; omega) (by show x9 = qr147r ∧ x10 = qr150r; omega) (by show 0 ≤ (x11 + 1) ∧ (x11 + 1) ≤ (x14 + 1); omega) (by show 0 ≤ (x12 + 1) ∧ (x12 + 1) ≤ x9; omega) (by show 0 ≤ (x13 + 0) ∧ (x13 + 0) ≤ x10; omega) (by show 0 ≤ (x14 + 1) ∧ (x14 + 1) ≤ 576; omega) (hv46_6) (hv46_7) (by omega)
                          · skip
                            unfold m_x11_unlike_J220
                            exact ih46 x8 x9 x10 (x11 + 1) (x12 + 1) (x13 + 1) (x14 + 1) s15 hRs15 (by show x8 = p2; omega) (by show x9 = qr147r ∧ x10 = qr150r; omega) (by show 0 ≤ (x11 + 1) ∧ (x11 + 1) ≤ (x14 + 1); omega) (by show 0 ≤ (x12 + 1) ∧ (x12 + 1) ≤ x9; omega) (by show 0 ≤ (x13 + 1) ∧ (x13 + 1) ≤ x10; omega) (by show 0 ≤ (x14 + 1) ∧ (x14 + 1) ≤ 576; omega) (hv46_6) (hv46_7) (by omega)
                      · skip
                        unfold m_x11_unlike_J186
                        refine wp_rg (by omega) ?_
                        refine wp_rg (by omega) ?_
                        refine wp_if (fun c352 => ?_) (fun c352 => ?_)
                        · skip
                          unfold m_x11_unlike_J203
                          refine wp_rg (by omega) ?_
                          refine wp_rg (by omega) ?_
                          refine wp_if (fun c353 => ?_) (fun c353 => ?_)
                          · skip
                            unfold m_x11_unlike_J220
                            exact ih46 x8 x9 x10 (x11 + 0) (x12 + 0) (x13 + 0) (x14 + 1) s15 hRs15 (by show x8 = p2; omega) (by show x9 = qr147r ∧ x10 = qr150r; omega) (by show 0 ≤ (x11 + 0) ∧ (x11 + 0) ≤ (x14 + 1); omega) (by show 0 ≤ (x12 + 0) ∧ (x12 + 0) ≤ x9; omega) (by show 0 ≤ (x13 + 0) ∧ (x13 + 0) ≤ x10; omega) (by show 0 ≤ (x14 + 1) ∧ (x14 + 1) ≤ 576; omega) (hv46_6) (hv46_7) (by omega)
                          · skip
                            unfold m_x11_unlike_J220
                            exact ih46 x8 x9 x10 (x11 + 0) (x12 + 0) (x13 + 1) (x14 + 1) s15 hRs15 (by show x8 = p2; omega) (by show x9 = qr147r ∧ x10 = qr150r; omega) (by show 0 ≤ (x11 + 0) ∧ (x11 + 0) ≤ (x14 + 1); omega) (by show 0 ≤ (x12 + 0) ∧ (x12 + 0) ≤ x9; omega) (by show 0 ≤ (x13 + 1) ∧ (x13 + 1) ≤ x10; omega) (by show 0 ≤ (x14 + 1) ∧ (x14 + 1) ≤ 576; omega) (hv46_6) (hv46_7) (by omega)
                        · skip
                          unfold m_x11_unlike_J203
                          refine wp_rg (by omega) ?_
                          refine wp_rg (by omega) ?_
                          refine wp_if (fun c354 => ?_) (fun c354 => ?_)
                          · skip
                            unfold m_x11_unlike_J220
                            exact ih46 x8 x9 x10 (x11 + 0) (x12 + 1) (x13 + 0) (x14 + 1) s15 hRs15 (by show x8 = p2; omega) (by show x9 = qr147r ∧ x10 = qr150r; omega) (by show 0 ≤ (x11 + 0) ∧ (x11 + 0) ≤ (x14 + 1); omega) (by show 0 ≤ (x12 + 1) ∧ (x12 + 1) ≤ x9; omega) (by show 0 ≤ (x13 + 0) ∧ (x13 + 0) ≤ x10; omega) (by show 0 ≤ (x14 + 1) ∧ (x14 + 1) ≤ 576; omega) (hv46_6) (hv46_7) (by omega)
                          · skip
                            unfold m_x11_unlike_J220
                            exact ih46 x8 x9 x10 (x11 + 0) (x12 + 1) (x13 + 1) (x14 + 1) s15 hRs15 (by show x8 = p2; omega) (by show x9 = qr147r ∧ x10 = qr150r; omega) (by show 0 ≤ (x11 + 0) ∧ (x11 + 0) ≤ (x14 + 1); omega) (by show 0 ≤ (x12 + 1) ∧ (x12 + 1) ≤ x9; omega) (by show 0 ≤ (x13 + 1) ∧ (x13 + 1) ≤ x10; omega) (by show 0 ≤ (x14 + 1) ∧ (x14 + 1) ≤ 576; omega) (hv46_6) (hv46_7) (by omega)
                  · skip
                    unfold m_x11_unlike_J174
                    refine wp_rg (by omega) ?_
                    refine wp_if (fun c355 => ?_) (fun c355 => ?_)
                    · skip
                      unfold m_x11_unlike_J186
                      refine wp_rg (by omega) ?_
                      refine wp_rg (by omega) ?_
                      refine wp_if (fun c356 => ?_) (fun c356 => ?_)
                      · skip
                        unfold m_x11_unlike_J203
                        refine wp_rg (by omega) ?_
                        refine wp_rg (by omega) ?_
                        refine wp_if (fun c357 => ?_) (fun c357 => ?_)
                        · skip
                          unfold m_x11_unlike_J220
                          exact ih46 x8 x9 x10 (x11 + 1) (x12 + 0) (x13 + 0) (x14 + 1) s15 hRs15 (by show x8 = p2; omega) (by show x9 = qr147r ∧ x10 = qr150r; omega) (by show 0 ≤ (x11 + 1) ∧ (x11 + 1) ≤ (x14 + 1); omega) (by show 0 ≤ (x12 + 0) ∧ (x12 + 0) ≤ x9; omega) (by show 0 ≤ (x13 + 0) ∧ (x13 + 0) ≤ x10; omega) (by show 0 ≤ (x14 + 1) ∧ (x14 + 1) ≤ 576; omega) (hv46_6) (hv46_7) (by omega)
                        · skip
                          unfold m_x11_unlike_J220
                          exact ih46 x8 x9 x10 (x11 + 1) (x12 + 0) (x13 + 1) (x14 + 1) s15 hRs15 (by show x8 = p2; omega) (by show x9 = qr147r ∧ x10 = qr150r; omega) (by show 0 ≤ (x11 + 1) ∧ (x11 + 1) ≤ (x14 + 1); omega) (by show 0 ≤ (x12 + 0) ∧ (x12 + 0) ≤ x9; omega) (by show 0 ≤ (x13 + 1) ∧ (x13 + 1) ≤ x10; omega) (by show 0 ≤ (x14 + 1) ∧ (x14 + 1) ≤ 576; omega) (hv46_6) (hv46_7) (by omega)
                      · skip
                        unfold m_x11_unlike_J203
                        refine wp_rg (by omega) ?_
                        refine wp_rg (by omega) ?_
                        refine wp_if (fun c358 => ?_) (fun c358 => ?_)
                        · skip
                          unfold m_x11_unlike_J220
                          exact ih46 x8 x9 x10 (x11 + 1) (x12 + 1) (x13 + 0) (x14 + 1) s15 hRs15 (by show x8 = p2; omega) (by show x9 = qr147r ∧ x10 = qr150r; omega) (by show 0 ≤ (x11 + 1) ∧ (x11 + 1) ≤ (x14 + 1); omega) (by show 0 ≤ (x12 + 1) ∧ (x12 + 1) ≤ x9; omega) (by show 0 ≤ (x13 + 0) ∧ (x13 + 0) ≤ x10; omega) (by show 0 ≤ (x14 + 1) ∧ (x14 + 1) ≤ 576; omega) (hv46_6) (hv46_7) (by omega)
                        · skip
                          unfold m_x11_unlike_J220
                          exact ih46 x8 x9 x10 (x11 + 1) (x12 + 1) (x13 + 1) (x14 + 1) s15 hRs15 (by show x8 = p2; omega) (by show x9 = qr147r ∧ x10 = qr150r; omega) (by show 0 ≤ (x11 + 1) ∧ (x11 + 1) ≤ (x14 + 1); omega) (by show 0 ≤ (x12 + 1) ∧ (x12 + 1) ≤ x9; omega) (by show 0 ≤ (x13 + 1) ∧ (x13 + 1) ≤ x10; omega) (by show 0 ≤ (x14 + 1) ∧ (x14 + 1) ≤ 576; omega) (hv46_6) (hv46_7) (by omega)
                    · skip
                      unfold m_x11_unlike_J186
                      refine wp_rg (by omega) ?_
                      refine wp_rg (by omega) ?_
                      refine wp_if (fun c359 => ?_) (fun c359 => ?_)
                      · skip
                        unfold m_x11_unlike_J203
                        refine wp_rg (by omega) ?_
                        refine wp_rg (by omega) ?_
                        refine wp_if (fun c360 => ?_) (fun c360 => ?_)
                        · skip
                          unfold m_x11_unlike_J220
                          exact ih46 x8 x9 x10 (x11 + 0) (x12 + 0) (x13 + 0) (x14 + 1) s15 hRs15 (by show x8 = p2; omega) (by show x9 = qr147r ∧ x10 = qr150r; omega) (by show 0 ≤ (x11 + 0) ∧ (x11 + 0) ≤ (x14 + 1); omega) (by show 0 ≤ (x12 + 0) ∧ (x12 + 0) ≤ x9; omega) (by show 0 ≤ (x13 + 0) ∧ (x13 + 0) ≤ x10; omega) (by show 0 ≤ (x14 + 1) ∧ (x14 + 1) ≤ 576; omega) (hv46_6) (hv46_7) (by omega)
                        · skip
                          unfold m_x11_unlike_J220
                          exact ih46 x8 x9 x10 (x11 + 0) (x12 + 0) (x13 + 1) (x14 + 1) s15 hRs15 (by show x8 = p2; omega) (by show x9 = qr147r ∧ x10 = qr150r; omega) (by show 0 ≤ (x11 + 0) ∧ (x11 + 0) ≤ (x14 + 1); omega) (by show 0 ≤ (x12 + 0) ∧ (x12 + 0) ≤ x9; omega) (by show 0 ≤ (x13 + 1) ∧ (x13 + 1) ≤ x10; omega) (by show 0 ≤ (x14 + 1) ∧ (x14 + 1) ≤ 576; omega) (hv46_6) (hv46_7) (by omega)
                      · skip
                        unfold m_x11_unlike_J203
                        refine wp_rg (by omega) ?_
                        refine wp_rg (by omega) ?_
                        refine wp_if (fun c361 => ?_) (fun c361 => ?_)
                        · skip
                          unfold m_x11_unlike_J220
                          exact ih46 x8 x9 x10 (x11 + 0) (x12 + 1) (x13 + 0) (x14 + 1) s15 hRs15 (by show x8 = p2; omega) (by show x9 = qr147r ∧ x10 = qr150r; omega) (by show 0 ≤ (x11 + 0) ∧ (x11 + 0) ≤ (x14 + 1); omega) (by show 0 ≤ (x12 + 1) ∧ (x12 + 1) ≤ x9; omega) (by show 0 ≤ (x13 + 0) ∧ (x13 + 0) ≤ x10; omega) (by show 0 ≤ (x14 + 1) ∧ (x14 + 1) ≤ 576; omega) (hv46_6) (hv46_7) (by omega)
                        · skip
                          unfold m_x11_unlike_J220
                          exact ih46 x8 x9 x10 (x11 + 0) (x12 + 1) (x13 + 1) (x14 + 1) s15 hRs15 (by show x8 = p2; omega) (by show x9 = qr147r ∧ x10 = qr150r; omega) (by show 0 ≤ (x11 + 0) ∧ (x11 + 0) ≤ (x14 + 1); omega) (by show 0 ≤ (x12 + 1) ∧ (x12 + 1) ≤ x9; omega) (by show 0 ≤ (x13 + 1) ∧ (x13 + 1) ≤ x10; omega) (by show 0 ≤ (x14 + 1) ∧ (x14 + 1) ≤ 576; omega) (hv46_6) (hv46_7) (by omega)
              · skip
                refine wp_rdIn (by omega) (fun y124 ey124 => ?_)
                have by124 : (-2147483648 : Int) ≤ y124 ∧ y124 ≤ 2147483647 := ey124 ▸ hRs15.2.1 27 _ (by show _ < 288; omega)
                have k124 := hv46_7 x13.toNat (by omega)
                rw [ey124] at k124
                unfold m_x11_unlike_J116
                refine wp_rg (by omega) ?_
                refine wp_rg (by omega) ?_
                refine wp_if (fun c362 => ?_) (fun c362 => ?_)
                · skip
                  refine wp_rdIn (by omega) (fun y107 ey107 => ?_)
                  have by107 : (-2147483648 : Int) ≤ y107 ∧ y107 ≤ 2147483647 := ey107 ▸ hRs15.2.1 24 _ (by show _ < 288; omega)
                  refine wp_rdIn (by omega) (fun y108 ey108 => ?_)
                  have by108 : (-2147483648 : Int) ≤ y108 ∧ y108 ≤ 2147483647 := ey108 ▸ hRs15.2.1 28 _ (by show _ < 288; omega)
                  refine wp_rg (by omega) ?_
                  refine wp_rg (by omega) ?_
                  refine wp_if (fun c363 => ?_) (fun c363 => ?_)
                  · skip
                    unfold m_x11_unlike_J153
                    refine wp_rg (by omega) ?_
                    refine wp_if (fun c364 => ?_) (fun c364 => ?_)
                    · skip
                      refine wp_rg (by omega) ?_
                      refine wp_rg (by omega) ?_
                      refine wp_if (fun c365 => ?_) (fun c365 => ?_)
                      · skip
                        refine wp_rg (by omega) ?_
                        refine wp_rg (by omega) ?_
                        exact wp_some (hRs15)
                      · skip
                        unfold m_x11_unlike_J174
                        refine wp_rg (by omega) ?_
                        refine wp_if (fun c366 => ?_) (fun c366 => ?_)
                        · skip
                          unfold m_x11_unlike_J186
                          refine wp_rg (by omega) ?_
                          refine wp_rg (by omega) ?_
                          refine wp_if (fun c367 => ?_) (fun c367 => ?_)
                          · skip
                            unfold m_x11_unlike_J203
                            refine wp_rg (by omega) ?_
                            refine wp_rg (by omega) ?_
                            refine wp_if (fun c368 => ?_) (fun c368 => ?_)
                            · skip
                              unfold m_x11_unlike_J220
                              exact ih46 x8 x9 x10 (x11 + 1) (x12 + 0) (x13 + 0) (x14 + 1) s15 hRs15 (by show x8 = p2; omega) (by show x9 = qr147r ∧ x10 = qr150r; omega) (by show 0 ≤ (x11 + 1) ∧ (x11 + 1) ≤ (x14 + 1); omega) (by show 0 ≤ (x12 + 0) ∧ (x12 + 0) ≤ x9; omega) (by show 0 ≤ (x13 + 0) ∧ (x13 + 0) ≤ x10; omega) (by show 0 ≤ (x14 + 1) ∧ (x14 + 1) ≤ 576; omega) (hv46_6) (hv46_7) (by omega)
                            · skip
                              unfold m_x11_unlike_J220
                              exact ih46 x8 x9 x10 (x11 + 1) (x12 + 0) (x13 + 1) (x14 + 1) s15 hRs15 (by show x8 = p2; omega) (by show x9 = qr147r ∧ x10 = qr150r; omega) (by show 0 ≤ (x11 + 1) ∧ (x11 + 1) ≤ (x14 + 1); omega) (by show 0 ≤ (x12 + 0) ∧ (x12 + 0) ≤ x9; omega) (by show 0 ≤ (x13 + 1) ∧ (x13 + 1) ≤ x10; omega) (by show 0 ≤ (x14 + 1) ∧ (x14 + 1) ≤ 576; omega) (hv46_6) (hv46_7) (by omega)
                          · skip
                            unfold m_x11_unlike_J203
                            refine wp_rg (by omega) ?_
                            refine wp_rg (by omega) ?_
                            refine wp_if (fun c369 => ?_) (fun c369 => ?_)
                            · skip
                              unfold m_x11_unlike_J220
                              exact ih46 x8 x9 x10 (x11 + 1) (x12 + 1) (x13 + 0) (x14 + 1) s15 hRs15 (by show x8 = p2; omega) (by show x9 = qr147r ∧ x10 = qr150r; omega) (by show 0 ≤ (x11 + 1) ∧ (x11 + 1) ≤ (x14 + 1); omega) (by show 0 ≤ (x12 + 1) ∧ (x12 + 1) ≤ x9; omega) (by show 0 ≤ (x13 + 0) ∧ (x13 + 0) ≤ x10; omega) (by show 0 ≤ (x14 + 1) ∧ (x14 + 1) ≤ 576; omega) (hv46_6) (hv46_7) (by omega)
                            · skip
                              unfold m_x11_unlike_J220
                              exact ih46 x8 x9 x10 (x11 + 1) (x12 + 1) (x13 + 1) (x14 + 1) s15 hRs15 (by show x8 = p2; omega) (by show x9 = qr147r ∧ x10 = qr150r; omega) (by show 0 ≤ (x11 + 1) ∧ (x11 + 1) ≤ (x14 + 1); omega) (by show 0 ≤ (x12 + 1) ∧ (x12 + 1) ≤ x9; omega) (by show 0 ≤ (x13 + 1) ∧ (x13 + 1) ≤ x10; omega) (by show 0 ≤ (x14 + 1) ∧ (x14 + 1) ≤ 576; omega) (hv46_6) (hv46_7) (by omega)
                        · skip
                          unfold m_x11_unlike_J186
                          refine wp_rg (by omega) ?_
                          refine wp_rg (by omega) ?_
                          refine wp_if (fun c370 => ?_) (fun c370 => ?_)
                          · skip
                            unfold m_x11_unlike_J203
                            refine wp_rg (by omega) ?_
                            refine wp_rg (by omega) ?_
                            refine wp_if (fun c371 => ?_) (fun c371 => ?_)
                            · skip
                              unfold m_x11_unlike_J220
                              exact ih46 x8 x9 x10 (x11 + 0) (x12 + 0) (x13 + 0) (x14 + 1) s15 hRs15 (by show x8 = p2; omega) (by show x9 = qr147r ∧ x10 = qr150r; omega) (by show 0 ≤ (x11 + 0) ∧ (x11 + 0) ≤ (x14 + 1); omega) (by show 0 ≤ (x12 + 0) ∧ (x12 + 0) ≤ x9; omega) (by show 0 ≤ (x13 + 0) ∧ (x13 + 0) ≤ x10; omega) (by show 0 ≤ (x14 + 1) ∧ (x14 + 1) ≤ 576; omega) (hv46_6) (hv46_7) (by omega)
                            · skip
                              unfold m_x11_unlike_J220
                              exact ih46 x8 x9 x10 (x11 + 0) (x12 + 0) (x13 + 1) (x14 + 1) s15 hRs15 (by show x8 = p2; omega) (by show x9 = qr147r ∧ x10 = qr150r; omega) (by show 0 ≤ (x11 + 0) ∧ (x11 + 0) ≤ (x14 + 1); omega) (by show 0 ≤ (x12 + 0) ∧ (x12 + 0) ≤ x9; omega) (by show 0 ≤ (x13 + 1) ∧ (x13 + 1) ≤ x10; omega) (by show 0 ≤ (x14 + 1) ∧ (x14 + 1) ≤ 576; omega) (hv46_6) (hv46_7) (by omega)
                          · skip
                            unfold m_x11_unlike_J203
                            refine wp_rg (by omega) ?_
                            refine wp_rg (by omega) ?_
                            refine wp_if (fun c372 => ?_) (fun c372 => ?_)
                            · skip
                              unfold m_x11_unlike_J220
                              exact ih46 x8 x9 x10 (x11 + 0) (x12 + 1) (x13 + 0) (x14 + 1) s15 hRs15 (by show x8 = p2; omega) (by show x9 = qr147r ∧ x10 = qr150r; omega) (by show 0 ≤ (x11 + 0) ∧ (x11 + 0) ≤ (x14 + 1); omega) (by show 0 ≤ (x12 + 1) ∧ (x12 + 1) ≤ x9; omega) (by show 0 ≤ (x13 + 0) ∧ (x13 + 0) ≤ x10; omega) (by show 0 ≤ (x14 + 1) ∧ (x14 + 1) ≤ 576; omega) (hv46_6) (hv46_7) (by omega)
                            · skip
                              unfold m_x11_unlike_J220
                              exact ih46 x8 x9 x10 (x11 + 0) (x12 + 1) (x13 + 1) (x14 + 1) s15 hRs15 (by show x8 = p2; omega) (by show x9 = qr147r ∧ x10 = qr150r; omega) (by show 0 ≤ (x11 + 0) ∧ (x11 + 0) ≤ (x14 + 1); omega) (by show 0 ≤ (x12 + 1) ∧ (x12 + 1) ≤ x9; omega) (by show 0 ≤ (x13 + 1) ∧ (x13 + 1) ≤ x10; omega) (by show 0 ≤ (x14 + 1) ∧ (x14 + 1) ≤ 576; omega) (hv46_6) (hv46_7) (by omega)
                    · skip
                      unfold m_x11_unlike_J174
                      refine wp_rg (by omega) ?_
                      refine wp_if (fun c373 => ?_) (fun c373 => ?_)
                      · skip
                        unfold m_x11_unlike_J186
                        refine wp_rg (by omega) ?_
                        refine wp_rg (by omega) ?_
                        refine wp_if (fun c374 => ?_) (fun c374 => ?_)
                        · skip
                          unfold m_x11_unlike_J203
                          refine wp_rg (by omega) ?_
                          refine wp_rg (by omega) ?_
                          refine wp_if (fun c375 => ?_) (fun c375 => ?_)
                          · skip
                            unfold m_x11_unlike_J220
                            exact ih46 x8 x9 x10 (x11 + 1) (x12 + 0) (x13 + 0) (x14 + 1) s15 hRs15 (by show x8 = p2; omega) (by show x9 = qr147r ∧ x10 = qr150r; omega) (by show 0 ≤ (x11 + 1) ∧ (x11 + 1) ≤ (x14 + 1); omega) (by show 0 ≤ (x12 + 0) ∧ (x12 + 0) ≤ x9; omega) (by show 0 ≤ (x13 + 0) ∧ (x13 + 0) ≤ x10; omega) (by show 0 ≤ (x14 + 1) ∧ (x14 + 1) ≤ 576; omega) (hv46_6) (hv46_7) (by omega)
                          · skip
                            unfold m_x11_unlike_J220
                            exact ih46 x8 x9 x10 (x11 + 1) (x12 + 0) (x13 + 1) (x14 + 1) s15 hRs15 (by show x8 = p2; omega) (by show x9 = qr147r ∧ x10 = qr150r; omega) (by show 0 ≤ (x11 + 1) ∧ (x11 + 1) ≤ (x14 + 1); omega) (by show 0 ≤ (x12 + 0) ∧ (x12 + 0) ≤ x9; omega) (by show 0 ≤ (x13 + 1) ∧ (x13 + 1) ≤ x10; omega) (by show 0 ≤ (x14 + 1) ∧ (x14 + 1) ≤ 576; omega) (hv46_6) (hv46_7) (by omega)
                        · skip
                          unfold m_x11_unlike_J203
                          refine wp_rg (by omega) ?_
                          refine wp_rg (by omega) ?_
                          refine wp_if (fun c376 => ?_) (fun c376 => ?_)
                          · skip
                            unfold m_x11_unlike_J220
                            exact ih46 x8 x9 x10 (x11 + 1) (x12 + 1) (x13 + 0) (x14 + 1) s15 hRs15 (by show x8 = p2; omega) (by show x9 = qr147r ∧ x10 = qr150r; omega) (by show 0 ≤ (x11 + 1) ∧ (x11 + 1) ≤ (x14 + 1); omega) (by show 0 ≤ (x12 + 1) ∧ (x12 + 1) ≤ x9; omega) (by show 0 ≤ (x13 + 0) ∧ (x13 + 0) ≤ x10; omega) (by show 0 ≤ (x14 + 1) ∧ (x14 + 1) ≤ 576; omega) (hv46_6) (hv46_7) (by omega)
                          · skip
                            unfold m_x11_unlike_J220
                            exact ih46 x8 x9 x10 (x11 + 1) (x12 + 1) (x13 + 1) (x14 + 1) s15 hRs15 (by show x8 = p2; omega) (by show x9 = qr147r ∧ x10 = qr150r; omega) (by show 0 ≤ (x11 + 1) ∧ (x11 + 1) ≤ (x14 + 1); omega) (by show 0 ≤ (x12 + 1) ∧ (x12 + 1) ≤ x9; omega) (by show 0 ≤ (x13 + 1) ∧ (x13 + 1) ≤ x10; omega) (by show 0 ≤ (x14 + 1) ∧ (x14 + 1) ≤ 576; omega) (hv46_6) (hv46_7) (by omega)
                      · skip
                        unfold m_x11_unlike_J186
                        refine wp_rg (by omega) ?_
                        refine wp_rg (by omega) ?_
                        refine wp_if (fun c377 => ?_) (fun c377 => ?_)
                        · skip
                          unfold m_x11_unlike_J203
                          refine wp_rg (by omega) ?_
                          refine wp_rg (by omega) ?_
                          refine wp_if (fun c378 => ?_) (fun c378 => ?_)
                          · skip
                            unfold m_x11_unlike_J220
                            exact ih46 x8 x9 x10 (x11 + 0) (x12 + 0) (x13 + 0) (x14 + 1) s15 hRs15 (by show x8 = p2; omega) (by show x9 = qr147r ∧ x10 = qr150r; omega) (by show 0 ≤ (x11 + 0) ∧ (x11 + 0) ≤ (x14 + 1); omega) (by show 0 ≤ (x12 + 0) ∧ (x12 + 0) ≤ x9; omega) (by show 0 ≤ (x13 + 0) ∧ (x13 + 0) ≤ x10; omega) (by show 0 ≤ (x14 + 1) ∧ (x14 + 1) ≤ 576; omega) (hv46_6) (hv46_7) (by omega)
                          · skip
                            unfold m_x11_unlike_J220
                            exact ih46 x8 x9 x10 (x11 + 0) (x12 + 0) (x13 + 1) (x14 + 1) s15 hRs15 (by show x8 = p2; omega) (by show x9 = qr147r ∧ x10 = qr150r; omega) (by show 0 ≤ (x11 + 0) ∧ (x11 + 0) ≤ (x14 + 1); omega) (by show 0 ≤ (x12 + 0) ∧ (x12 + 0) ≤ x9; omega) (by show 0 ≤ (x13 + 1) ∧ (x13 + 1) ≤ x10; omega) (by show 0 ≤ (x14 + 1) ∧ (x14 + 1) ≤ 576; omega) (hv46_6) (hv46_7) (by omega)
                        · skip
                          unfold m_x11_unlike_J203
                          refine wp_rg (by omega) ?_
                          refine wp_rg (by omega) ?_
                          refine wp_if (fun c379 => ?_) (fun c379 => ?_)
                          · skip
                            unfold m_x11_unlike_J220
                            exact ih46 x8 x9 x10 (x11 + 0) (x12 + 1) (x13 + 0) (x14 + 1) s15 hRs15 (by show x8 = p2; omega) (by show x9 = qr147r ∧ x10 = qr150r; omega) (by show 0 ≤ (x11 + 0) ∧ (x11 + 0) ≤ (x14 + 1); omega) (by show 0 ≤ (x12 + 1) ∧ (x12 + 1) ≤ x9; omega) (by show 0 ≤ (x13 + 0) ∧ (x13 + 0) ≤ x10; omega) (by show 0 ≤ (x14 + 1) ∧ (x14 + 1) ≤ 576; omega) (hv46_6) (hv46_7) (by omega)
                          · skip
                            unfold m_x11_unlike_J220
                            exact ih46 x8 x9 x10 (x11 + 0) (x12 + 1) (x13 + 1) (x14 + 1) s15 hRs15 (by show x8 = p2; omega) (by show x9 = qr147r ∧ x10 = qr150r; omega) (by show 0 ≤ (x11 + 0) ∧ (x11 + 0) ≤ (x14 + 1); omega) (by show 0 ≤ (x12 + 1) ∧ (x12 + 1) ≤ x9; omega) (by show 0 ≤ (x13 + 1) ∧ (x13 + 1) ≤ x10; omega) (by show 0 ≤ (x14 + 1) ∧ (x14 + 1) ≤ 576; omega) (hv46_6) (hv46_7) (by omega)
                  · skip
                    unfold m_x11_unlike_J152
                    unfold m_x11_unlike_J153
                    refine wp_rg (by omega) ?_
                    refine wp_if (fun c380 => ?_) (fun c380 => ?_)
                    · skip
                      refine wp_rg (by omega) ?_
                      refine wp_rg (by omega) ?_
                      refine wp_if (fun c381 => ?_) (fun c381 => ?_)
                      · skip
                        refine wp_rg (by omega) ?_
                        refine wp_rg (by omega) ?_
                        exact wp_some (hRs15)
                      · skip
                        unfold m_x11_unlike_J174
                        refine wp_rg (by omega) ?_
                        refine wp_if (fun c382 => ?_) (fun c382 => ?_)
                        · skip
                          unfold m_x11_unlike_J186
                          refine wp_rg (by omega) ?_
                          refine wp_rg (by omega) ?_
                          refine wp_if (fun c383 => ?_) (fun c383 => ?_)
                          · skip
                            unfold m_x11_unlike_J203
                            refine wp_rg (by omega) ?_
                            refine wp_rg (by omega) ?_
                            refine wp_if (fun c384 => ?_) (fun c384 => ?_)
                            · skip
                              unfold m_x11_unlike_J220
                              exact ih46 x8 x9 x10 (x11 + 1) (x12 + 0) (x13 + 0) (x14 + 1) s15 hRs15 (by show x8 = p2; omega) (by show x9 = qr147r ∧ x10 = qr150r; omega) (by show 0 ≤ (x11 + 1) ∧ (x11 + 1) ≤ (x14 + 1); omega) (by show 0 ≤ (x12 + 0) ∧ (x12 + 0) ≤ x9; omega) (by show 0 ≤ (x13 + 0) ∧ (x13 + 0) ≤ x10; omega) (by show 0 ≤ (x14 + 1) ∧ (x14 + 1) ≤ 576; omega) (hv46_6) (hv46_7) (by omega)
                            · skip
                              unfold m_x11_unlike_J220
                              exact ih46 x8 x9 x10 (x11 + 1) (x12 + 0) (x13 + 1) (x14 + 1) s15 hRs15 (by show x8 = p2; omega) (by show x9 = qr147r ∧ x10 = qr150r; omega) (by show 0 ≤ (x11 + 1) ∧ (x11 + 1) ≤ (x14 + 1); omega) (by show 0 ≤ (x12 + 0) ∧ (x12 + 0) ≤ x9; omega) (by show 0 ≤ (x13 + 1) ∧ (x13 + 1) ≤ x10; omega) (by show 0 ≤ (x14 + 1) ∧ (x14 + 1) ≤ 576; omega) (hv46_6) (hv46_7) (by omega)
                          · skip
                            unfold m_x11_unlike_J203
                            refine wp_rg (by omega) ?_
                            refine wp_rg (by omega) ?_
                            refine wp_if (fun c385 => ?_) (fun c385 => ?_)
                            · skip
                              unfold m_x11_unlike_J220
                              exact ih46 x8 x9 x10 (x11 + 1) (x12 + 1) (x13 + 0) (x14 + 1) s15 hRs15 (by show x8 = p2; omega) (by show x9 = qr147r ∧ x10 = qr150r; omega) (by show 0 ≤ (x11 + 1) ∧ (x11 + 1) ≤ (x14 + 1); omega) (by show 0 ≤ (x12 + 1) ∧ (x12 + 1) ≤ x9; omega) (by show 0 ≤ (x13 + 0) ∧ (x13 + 0) ≤ x10; omega) (by show 0 ≤ (x14 + 1) ∧ (x14 + 1) ≤ 576; omega) (hv46_6) (hv46_7) (by omega)
                            · skip
                              unfold m_x11_unlike_J220
                              exact ih46 x8 x9 x10 (x11 + 1) (x12 + 1) (x13 + 1) (x14 + 1) s15 hRs15 (by show x8 = p2; omega) (by show x9 = qr147r ∧ x10 = qr150r; omega) (by show 0 ≤ (x11 + 1) ∧ (x11 + 1) ≤ (x14 + 1); omega) (by show 0 ≤ (x12 + 1) ∧ (x12 + 1) ≤ x9; omega) (by show 0 ≤ (x13 + 1) ∧ (x13 + 1) ≤ x10; omega) (by show 0 ≤ (x14 + 1) ∧ (x14 + 1) ≤ 576; omega) (hv46_6) (hv46_7) (by omega)
                        · skip
                          unfold m_x11_unlike_J186
                          refine wp_rg (by omega) ?_
                          refine wp_rg (by omega) ?_
                          refine wp_if (fun c386 => ?_) (fun c386 => ?_)
                          · skip
                            unfold m_x11_unlike_J203
                            refine wp_rg (by omega) ?_
                            refine wp_rg (by omega) ?_
                            refine wp_if (fun c387 => ?_) (fun c387 => ?_)
                            · skip
                              unfold m_x11_unlike_J220
                              exact ih46 x8 x9 x10 (x11 + 0) (x12 + 0) (x13 + 0) (x14 + 1) s15 hRs15 (by show x8 = p2; omega) (by show x9 = qr147r ∧ x10 = qr150r; omega) (by show 0 ≤ (x11 + 0) ∧ (x11 + 0) ≤ (x14 + 1); omega) (by show 0 ≤ (x12 + 0) ∧ (x12 + 0) ≤ x9; omega) (by show 0 ≤ (x13 + 0) ∧ (x13 + 0) ≤ x10; omega) (by show 0 ≤ (x14 + 1) ∧ (x14 + 1) ≤ 576; omega) (hv46_6) (hv46_7) (by omega)
                            · skip
                              unfold m_x11_unlike_J220
                              exact ih46 x8 x9 x10 (x11 + 0) (x12 + 0) (x13 + 1) (x14 + 1) s15 hRs15 (by show x8 = p2; omega) (by show x9 = qr147r ∧ x10 = qr150r; omega) (by show 0 ≤ (x11 + 0) ∧ (x11 + 0) ≤ (x14 + 1); omega) (by show 0 ≤ (x12 + 0) ∧ (x12 + 0) ≤ x9; omega) (by show 0 ≤ (x13 + 1) ∧ (x13 + 1) ≤ x10; omega) (by show 0 ≤ (x14 + 1) ∧ (x14 + 1) ≤ 576; omega) (hv46_6) (hv46_7) (by omega)
                          · skip
                            unfold m_x11_unlike_J203
                            refine wp_rg (by omega) ?_
                            refine wp_rg (by omega) ?_
                            refine wp_if (fun c388 => ?_) (fun c388 => ?_)
                            · skip
                              unfold m_x11_unlike_J220
                              exact ih46 x8 x9 x10 (x11 + 0) (x12 + 1) (x13 + 0) (x14 + 1) s15 hRs15 (by show x8 = p2; omega) (by show x9 = qr147r ∧ x10 = qr150r; omega) (by show 0 ≤ (x11 + 0) ∧ (x11 + 0) ≤ (x14 + 1); omega) (by show 0 ≤ (x12 + 1) ∧ (x12 + 1) ≤ x9; omega) (by show 0 ≤ (x13 + 0) ∧ (x13 + 0) ≤ x10; omega) (by show 0 ≤ (x14 + 1) ∧ (x14 + 1) ≤ 576; omega) (hv46_6) (hv46_7) (by omega)
                            · skip
                              unfold m_x11_unlike_J220
                              exact ih46 x8 x9 x10 (x11 + 0) (x12 + 1) (x13 + 1) (x14 + 1) s15 hRs15 (by show x8 = p2; omega) (by show x9 = qr147r ∧ x10 = qr150r; omega) (by show 0 ≤ (x11 + 0) ∧ (x11 + 0) ≤ (x14 + 1); omega) (by show 0 ≤ (x12 + 1) ∧ (x12 + 1) ≤ x9; omega) (by show 0 ≤ (x13 + 1) ∧ (x13 + 1) ≤ x10; omega) (by show 0 ≤ (x14 + 1) ∧ (x14 + 1) ≤ 576; omega) (hv46_6) (hv46_7) (by omega)
                    · skip
                      unfold m_x11_unlike_J174
                      refine wp_rg (by omega) ?_
                      refine wp_if (fun c389 => ?_) (fun c389 => ?_)
                      · skip
                        unfold m_x11_unlike_J186
                        refine wp_rg (by omega) ?_
                        refine wp_rg (by omega) ?_
                        refine wp_if (fun c390 => ?_) (fun c390 => ?_)
                        · skip
                          unfold m_x11_unlike_J203
                          refine wp_rg (by omega) ?_
                          refine wp_rg (by omega) ?_
                          refine wp_if (fun c391 => ?_) (fun c391 => ?_)
                          · skip
                            unfold m_x11_unlike_J220
                            exact ih46 x8 x9 x10 (x11 + 1) (x12 + 0) (x13 + 0) (x14 + 1) s15 hRs15 (by show x8 = p2; omega) (by show x9 = qr147r ∧ x10 = qr150r; omega) (by show 0 ≤ (x11 + 1) ∧ (x11 + 1) ≤ (x14 + 1); omega) (by show 0 ≤ (x12 + 0) ∧ (x12 + 0) ≤ x9; omega) (by show 0 ≤ (x13 + 0) ∧ (x13 + 0) ≤ x10; omega) (by show 0 ≤ (x14 + 1) ∧ (x14 + 1) ≤ 576; omega) (hv46_6) (hv46_7) (by omega)
                          · skip
                            unfold m_x11_unlike_J220
                            exact ih46 x8 x9 x10 (x11 + 1) (x12 + 0) (x13 + 1) (x14 + 1) s15 hRs15 (by show x8 = p2; omega) (by show x9 = qr147r ∧ x10 = qr150r; omega) (by show 0 ≤ (x11 + 1) ∧ (x11 + 1) ≤ (x14 + 1); omega) (by show 0 ≤ (x12 + 0) ∧ (x12 + 0) ≤ x9; omega) (by show 0 ≤ (x13 + 1) ∧ (x13 + 1) ≤ x10; omega) (by show 0 ≤ (x14 + 1) ∧ (x14 + 1) ≤ 576; omega) (hv46_6) (hv46_7) (by omega)
                        · skip
                          unfold m_x11_unlike_J203
                          refine wp_rg (by omega) ?_
                          refine wp_rg (by omega) ?_
                          refine wp_if (fun c392 => ?_) (fun c392 => ?_)
                          · skip
                            unfold m_x11_unlike_J220
                            exact ih46 x8 x9 x10 (x11 + 1) (x12 + 1) (x13 + 0) (x14 + 1) s15 hRs15 (by show x8 = p2; omega) (by show x9 = qr147r ∧ x10 = qr150r; omega) (by show 0 ≤ (x11 + 1) ∧ (x11 + 1) ≤ (x14 + 1); omega) (by show 0 ≤ (x12 + 1) ∧ (x12 + 1) ≤ x9; omega) (by show 0 ≤ (x13 + 0) ∧ (x13 + 0) ≤ x10; omega) (by show 0 ≤ (x14 + 1) ∧ (x14 + 1) ≤ 576; omega) (hv46_6) (hv46_7) (by omega)
                          · skip
                            unfold m_x11_unlike_J220
                            exact ih46 x8 x9 x10 (x11 + 1) (x12 + 1) (x13 + 1) (x14 + 1) s15 hRs15 (by show x8 = p2; omega) (by show x9 = qr147r ∧ x10 = qr150r; omega) (by show 0 ≤ (x11 + 1) ∧ (x11 + 1) ≤ (x14 + 1); omega) (by show 0 ≤ (x12 + 1) ∧ (x12 + 1) ≤ x9; omega) (by show 0 ≤ (x13 + 1) ∧ (x13 + 1) ≤ x10; omega) (by show 0 ≤ (x14 + 1) ∧ (x14 + 1) ≤ 576; omega) (hv46_6) (hv46_7) (by omega)
                      · skip
                        unfold m_x11_unlike_J186
                        refine wp_rg (by omega) ?_
                        refine wp_rg (by omega) ?_
                        refine wp_if (fun c393 => ?_) (fun c393 => ?_)
                        · skip
                          unfold m_x11_unlike_J203
                          refine wp_rg (by omega) ?_
                          refine wp_rg (by omega) ?_
                          refine wp_if (fun c394 => ?_) (fun c394 => ?_)
                          · skip
                            unfold m_x11_unlike_J220
                            exact ih46 x8 x9 x10 (x11 + 0) (x12 + 0) (x13 + 0) (x14 + 1) s15 hRs15 (by show x8 = p2; omega) (by show x9 = qr147r ∧ x10 = qr150r; omega) (by show 0 ≤ (x11 + 0) ∧ (x11 + 0) ≤ (x14 + 1); omega) (by show 0 ≤ (x12 + 0) ∧ (x12 + 0) ≤ x9; omega) (by show 0 ≤ (x13 + 0) ∧ (x13 + 0) ≤ x10; omega) (by show 0 ≤ (x14 + 1) ∧ (x14 + 1) ≤ 576; omega) (hv46_6) (hv46_7) (by omega)
                          · skip
                            unfold m_x11_unlike_J220
                            exact ih46 x8 x9 x10 (x11 + 0) (x12 + 0) (x13 + 1) (x14 + 1) s15 hRs15 (by show x8 = p2; omega) (by show x9 = qr147r ∧ x10 = qr150r; omega) (by show 0 ≤ (x11 + 0) ∧ (x11 + 0) ≤ (x14 + 1); omega) (by show 0 ≤ (x12 + 0) ∧ (x12 + 0) ≤ x9; omega) (by show 0 ≤ (x13 + 1) ∧ (x13 + 1) ≤ x10; omega) (by show 0 ≤ (x14 + 1) ∧ (x14 + 1) ≤ 576; omega) (hv46_6) (hv46_7) (by omega)
                        · skip
                          unfold m_x11_unlike_J203
                          refine wp_rg (by omega) ?_
                          refine wp_rg (by omega) ?_
                          refine wp_if (fun c395 => ?_) (fun c395 => ?_)
                          · skip
                            unfold m_x11_unlike_J220
                            exact ih46 x8 x9 x10 (x11 + 0) (x12 + 1) (x13 + 0) (x14 + 1) s15 hRs15 (by show x8 = p2; omega) (by show x9 = qr147r ∧ x10 = qr150r; omega) (by show 0 ≤ (x11 + 0) ∧ (x11 + 0) ≤ (x14 + 1); omega) (by show 0 ≤ (x12 + 1) ∧ (x12 + 1) ≤ x9; omega) (by show 0 ≤ (x13 + 0) ∧ (x13 + 0) ≤ x10; omega) (by show 0 ≤ (x14 + 1) ∧ (x14 + 1) ≤ 576; omega) (hv46_6) (hv46_7) (by omega)
                          · skip
                            unfold m_x11_unlike_J220
                            exact ih46 x8 x9 x10 (x11 + 0) (x12 + 1) (x13 + 1) (x14 + 1) s15 hRs15 (by show x8 = p2; omega) (by show x9 = qr147r ∧ x10 = qr150r; omega) (by show 0 ≤ (x11 + 0) ∧ (x11 + 0) ≤ (x14 + 1); omega) (by show 0 ≤ (x12 + 1) ∧ (x12 + 1) ≤ x9; omega) (by show 0 ≤ (x13 + 1) ∧ (x13 + 1) ≤ x10; omega) (by show 0 ≤ (x14 + 1) ∧ (x14 + 1) ≤ 576; omega) (hv46_6) (hv46_7) (by omega)
                · skip
                  unfold m_x11_unlike_J152
                  unfold m_x11_unlike_J153
                  refine wp_rg (by omega) ?_
                  refine wp_if (fun c396 => ?_) (fun c396 => ?_)
                  · skip
                    refine wp_rg (by omega) ?_
                    refine wp_rg (by omega) ?_
                    refine wp_if (fun c397 => ?_) (fun c397 => ?_)
                    · skip
                      refine wp_rg (by omega) ?_
                      refine wp_rg (by omega) ?_
                      exact wp_some (hRs15)
                    · skip
                      unfold m_x11_unlike_J174
                      refine wp_rg (by omega) ?_
                      refine wp_if (fun c398 => ?_) (fun c398 => ?_)
                      · skip
                        unfold m_x11_unlike_J186
                        refine wp_rg (by omega) ?_
                        refine wp_rg (by omega) ?_
                        refine wp_if (fun c399 => ?_) (fun c399 => ?_)
                        · skip
                          unfold m_x11_unlike_J203
                          refine wp_rg (by omega) ?_
                          refine wp_rg (by omega) ?_
                          refine wp_if (fun c400 => ?_) (fun c400 => ?_)
                          · skip
                            unfold m_x11_unlike_J220
                            exact ih46 x8 x9 x10 (x11 + 1) (x12 + 0) (x13 + 0) (x14 + 1) s15 hRs15 (by show x8 = p2; omega) (by show x9 = qr147r ∧ x10 = qr150r; omega) (by show 0 ≤ (x11 + 1) ∧ (x11 + 1) ≤ (x14 + 1); omega) (by show 0 ≤ (x12 + 0) ∧ (x12 + 0) ≤ x9; omega) (by show 0 ≤ (x13 + 0) ∧ (x13 + 0) ≤ x10; omega) (by show 0 ≤ (x14 + 1) ∧ (x14 + 1) ≤ 576; omega) (hv46_6) (hv46_7) (by omega)
                          · skip
                            unfold m_x11_unlike_J220
                            exact ih46 x8 x9 x10 (x11 + 1) (x12 + 0) (x13 + 1) (x14 + 1) s15 hRs15 (by show x8 = p2; omega) (by show x9 = qr147r ∧ x10 = qr150r; omega) (by show 0 ≤ (x11 + 1) ∧ (x11 + 1) ≤ (x14 + 1); omega) (by show 0 ≤ (x12 + 0) ∧ (x12 + 0) ≤ x9; omega) (by show 0 ≤ (x13 + 1) ∧ (x13 + 1) ≤ x10; omega) (by show 0 ≤ (x14 + 1) ∧ (x14 + 1) ≤ 576; omega) (hv46_6) (hv46_7) (by omega)
                        · skip
                          unfold m_x11_unlike_J203
                          refine wp_rg (by omega) ?_
                          refine wp_rg (by omega) ?_
                          refine wp_if (fun c401 => ?_) (fun c401 => ?_)
                          · skip
                            unfold m_x11_unlike_J220
                            exact ih46 x8 x9 x10 (x11 + 1) (x12 + 1) (x13 + 0) (x14 + 1) s15 hRs15 (by show x8 = p2; omega) (by show x9 = qr147r ∧ x10 = qr150r; omega) (by show 0 ≤ (x11 + 1) ∧ (x11 + 1) ≤ (x14 + 1); omega) (by show 0 ≤ (x12 + 1) ∧ (x12 + 1) ≤ x9; omega) (by show 0 ≤ (x13 + 0) ∧ (x13 + 0) ≤ x10; omega) (by show 0 ≤ (x14 + 1) ∧ (x14 + 1) ≤ 576; omega) (hv46_6) (hv46_7) (by omega)
                          · skip
                            unfold m_x11_unlike_J220
                            exact ih46 x8 x9 x10 (x11 + 1) (x12 + 1) (x13 + 1) (x14 + 1) s15 hRs15 (by show x8 = p2; omega) (by show x9 = qr147r ∧ x10 = qr150r; omega) (by show 0 ≤ (x11 + 1) ∧ (x11 + 1) ≤ (x14 + 1); omega) (by show 0 ≤ (x12 + 1) ∧ (x12 + 1) ≤ x9; omega) (by show 0 ≤ (x13 + 1) ∧ (x13 + 1) ≤ x10; omega) (by show 0 ≤ (x14 + 1) ∧ (x14 + 1) ≤ 576; omega) (hv46_6) (hv46_7) (by omega)
                      · skip
                        unfold m_x11_unlike_J186
                        refine wp_rg (by omega) ?_
                        refine wp_rg (by omega) ?_
                        refine wp_if (fun c402 => ?_) (fun c402 => ?_)
                        · skip
                          unfold m_x11_unlike_J203
                          refine wp_rg (by omega) ?_
                          refine wp_rg (by omega) ?_
                          refine wp_if (fun c403 => ?_) (fun c403 => ?_)
                          · skip
                            unfold m_x11_unlike_J220
                            exact ih46 x8 x9 x10 (x11 + 0) (x12 + 0) (x13 + 0) (x14 + 1) s15 hRs15 (by show x8 = p2; omega) (by show x9 = qr147r ∧ x10 = qr150r; omega) (by show 0 ≤ (x11 + 0) ∧ (x11 + 0) ≤ (x14 + 1); omega) (by show 0 ≤ (x12 + 0) ∧ (x12 + 0) ≤ x9; omega) (by show 0 ≤ (x13 + 0) ∧ (x13 + 0) ≤ x10; omega) (by show 0 ≤ (x14 + 1) ∧ (x14 + 1) ≤ 576; omega) (hv46_6) (hv46_7) (by omega)
                          · skip
                            unfold m_x11_unlike_J220
                            exact ih46 x8 x9 x10 (x11 + 0) (x12 + 0) (x13 + 1) (x14 + 1) s15 hRs15 (by show x8 = p2; omega) (by show x9 = qr147r ∧ x10 = qr150r; omega) (by show 0 ≤ (x11 + 0) ∧ (x11 + 0) ≤ (x14 + 1); omega) (by show 0 ≤ (x12 + 0) ∧ (x12 + 0) ≤ x9; omega) (by show 0 ≤ (x13 + 1) ∧ (x13 + 1) ≤ x10; omega) (by show 0 ≤ (x14 + 1) ∧ (x14 + 1) ≤ 576; omega) (hv46_6) (hv46_7) (by omega)
                        · skip
                          unfold m_x11_unlike_J203
                          refine wp_rg (by omega) ?_
                          refine wp_rg (by omega) ?_
                          refine wp_if (fun c404 => ?_) (fun c404 => ?_)
                          · skip
                            unfold m_x11_unlike_J220
                            exact ih46 x8 x9 x10 (x11 + 0) (x12 + 1) (x13 + 0) (x14 + 1) s15 hRs15 (by show x8 = p2; omega) (by show x9 = qr147r ∧ x10 = qr150r; omega) (by show 0 ≤ (x11 + 0) ∧ (x11 + 0) ≤ (x14 + 1); omega) (by show 0 ≤ (x12 + 1) ∧ (x12 + 1) ≤ x9; omega) (by show 0 ≤ (x13 + 0) ∧ (x13 + 0) ≤ x10; omega) (by show 0 ≤ (x14 + 1) ∧ (x14 + 1) ≤ 576; omega) (hv46_6) (hv46_7) (by omega)
                          · skip
                            unfold m_x11_unlike_J220
                            exact ih46 x8 x9 x10 (x11 + 0) (x12 + 1) (x13 + 1) (x14 + 1) s15 hRs15 (by show x8 = p2; omega) (by show x9 = qr147r ∧ x10 = qr150r; omega) (by show 0 ≤ (x11 + 0) ∧ (x11 + 0) ≤ (x14 + 1); omega) (by show 0 ≤ (x12 + 1) ∧ (x12 + 1) ≤ x9; omega) (by show 0 ≤ (x13 + 1) ∧ (x13 + 1) ≤ x10; omega) (by show 0 ≤ (x14 + 1) ∧ (x14 + 1) ≤ 576; omega) (hv46_6) (hv46_7) (by omega)
                  · skip
                    unfold m_x11_unlike_J174
                    refine wp_rg (by omega) ?_
                    refine wp_if (fun c405 => ?_) (fun c405 => ?_)
                    · skip
                      unfold m_x11_unlike_J186
                      refine wp_rg (by omega) ?_
                      refine wp_rg (by omega) ?_
                      refine wp_if (fun c406 => ?_) (fun c406 => ?_)
                      · skip
                        unfold m_x11_unlike_J203
                        refine wp_rg (by omega) ?_
                        refine wp_rg (by omega) ?_
                        refine wp_if (fun c407 => ?_) (fun c407 => ?_)
                        · skip
                          unfold m_x11_unlike_J220
                          exact ih46 x8 x9 x10 (x11 + 1) (x12 + 0) (x13 + 0) (x14 + 1) s15 hRs15 (by show x8 = p2; omega) (by show x9 = qr147r ∧ x10 = qr150r; omega) (by show 0 ≤ (x11 + 1) ∧ (x11 + 1) ≤ (x14 + 1); omega) (by show 0 ≤ (x12 + 0) ∧ (x12 + 0) ≤ x9; omega) (by show 0 ≤ (x13 + 0) ∧ (x13 + 0) ≤ x10; omega) (by show 0 ≤ (x14 + 1) ∧ (x14 + 1) ≤ 576; omega) (hv46_6) (hv46_7) (by omega)
                        · skip
                          unfold m_x11_unlike_J220
                          exact ih46 x8 x9 x10 (x11 + 1) (x12 + 0) (x13 + 1) (x14 + 1) s15 hRs15 (by show x8 = p2; omega) (by show x9 = qr147r ∧ x10 = qr150r; omega) (by show 0 ≤ (x11 + 1) ∧ (x11 + 1) ≤ (x14 + 1); omega) (by show 0 ≤ (x12 + 0) ∧ (x12 + 0) ≤ x9; omega) (by show 0 ≤ (x13 + 1) ∧ (x13 + 1) ≤ x10; omega) (by show 0 ≤ (x14 + 1) ∧ (x14 + 1) ≤ 576; omega) (hv46_6) (hv46_7) (by omega)
                      · skip
                        unfold m_x11_unlike_J203
                        refine wp_rg (by omega) ?_
                        refine wp_rg (by omega) ?_
                        refine wp_if (fun c408 => ?_) (fun c408 => ?_)
                        · skip
                          unfold m_x11_unlike_J220
                          exact ih46 x8 x9 x10 (x11 + 1) (x12 + 1) (x13 + 0) (x14 + 1) s15 hRs15 (by show x8 = p2; omega) (by show x9 = qr147r ∧ x10 = qr150r; omega) (by show 0 ≤ (x11 + 1) ∧ (x11 + 1) ≤ (x14 + 1); omega) (by show 0 ≤ (x12 + 1) ∧ (x12 + 1) ≤ x9; omega) (by show 0 ≤ (x13 + 0) ∧ (x13 + 0) ≤ x10; omega) (by show 0 ≤ (x14 + 1) ∧ (x14 + 1) ≤ 576; omega) (hv46_6) (hv46_7) (by omega)
                        · skip
                          unfold m_x11_unlike_J220
                          exact ih46 x8 x9 x10 (x11 + 1) (x12 + 1) (x13 + 1) (x14 + 1) s15 hRs15 (by show x8 = p2; omega) (by show x9 = qr147r ∧ x10 = qr150r; omega) (by show 0 ≤ (x11 + 1) ∧ (x11 + 1) ≤ (x14 + 1); omega) (by show 0 ≤ (x12 + 1) ∧ (x12 + 1) ≤ x9; omega) (by show 0 ≤ (x13 + 1) ∧ (x13 + 1) ≤ x10; omega) (by show 0 ≤ (x14 + 1) ∧ (x14 + 1) ≤ 576; omega) (hv46_6) (hv46_7) (by omega)
                    · skip
                      unfold m_x11_unlike_J186
                      refine wp_rg (by omega) ?_
                      refine wp_rg (by omega) ?_
                      refine wp_if (fun c409 => ?_) (fun c409 => ?_)
                      · skip
                        unfold m_x11_unlike_J203
                        refine wp_rg (by omega) ?_
                        refine wp_rg (by omega) ?_
                        refine wp_if (fun c410 => ?_) (fun c410 => ?_)
                        · skip
                          unfold m_x11_unlike_J220
                          exact ih46 x8 x9 x10 (x11 + 0) (x12 + 0) (x13 + 0) (x14 + 1) s15 hRs15 (by show x8 = p2; omega) (by show x9 = qr147r ∧ x10 = qr150r; omega) (by show 0 ≤ (x11 + 0) ∧ (x11 + 0) ≤ (x14 + 1); omega) (by show 0 ≤ (x12 + 0) ∧ (x12 + 0) ≤ x9; omega) (by show 0 ≤ (x13 + 0) ∧ (x13 + 0) ≤ x10; omega) (by show 0 ≤ (x14 + 1) ∧ (x14 + 1) ≤ 576; omega) (hv46_6) (hv46_7) (by omega)
                        · skip
                          unfold m_x11_unlike_J220
                          exact ih46 x8 x9 x10 (x11 + 0) (x12 + 0) (x13 + 1) (x14 + 1) s15 hRs15 (by show x8 = p2; omega) (by show x9 = qr147r ∧ x10 = qr150r; omega) (by show 0 ≤ (x11 + 0) ∧ (x11 + 0) ≤ (x14 + 1); omega) (by show 0 ≤ (x12 + 0) ∧ (x12 + 0) ≤ x9; omega) (by show 0 ≤ (x13 + 1) ∧ (x13 + 1) ≤ x10; omega) (by show 0 ≤ (x14 + 1) ∧ (x14 + 1) ≤ 576; omega) (hv46_6) (hv46_7) (by omega)
                      · skip
                        unfold m_x11_unlike_J203
                        refine wp_rg (by omega) ?_
                        refine wp_rg (by omega) ?_
                        refine wp_if (fun c411 => ?_) (fun c411 => ?_)
                        · skip
                          unfold m_x11_unlike_J220
                          exact ih46 x8 x9 x10 (x11 + 0) (x12 + 1) (x13 + 0) (x14 + 1) s15 hRs15 (by show x8 = p2; omega) (by show x9 = qr147r ∧ x10 = qr150r; omega) (by show 0 ≤ (x11 + 0) ∧ (x11 + 0) ≤ (x14 + 1); omega) (by show 0 ≤ (x12 + 1) ∧ (x12 + 1) ≤ x9; omega) (by show 0 ≤ (x13 + 0) ∧ (x13 + 0) ≤ x10; omega) (by show 0 ≤ (x14 + 1) ∧ (x14 + 1) ≤ 576; omega) (hv46_6) (hv46_7) (by omega)
                        · skip
                          unfold m_x11_unlike_J220
                          exact ih46 x8 x9 x10 (x11 + 0) (x12 + 1) (x13 + 1) (x14 + 1) s15 hRs15 (by show x8 = p2; omega) (by show x9 = qr147r ∧ x10 = qr150r; omega) (by show 0 ≤ (x11 + 0) ∧ (x11 + 0) ≤ (x14 + 1); omega) (by show 0 ≤ (x12 + 1) ∧ (x12 + 1) ≤ x9; omega) (by show 0 ≤ (x13 + 1) ∧ (x13 + 1) ≤ x10; omega) (by show 0 ≤ (x14 + 1) ∧ (x14 + 1) ≤ 576; omega) (hv46_6) (hv46_7) (by omega)
  exact L46 FU p2 qr147r qr150r 0 0 0 0 qr150s hRqr150s (by show p2 = p2; omega) (by show qr147r = qr147r ∧ qr150r = qr150r; omega) (by show 0 ≤ (0 : Int) ∧ (0 : Int) ≤ (0 : Int); omega) (by show 0 ≤ (0 : Int) ∧ (0 : Int) ≤ qr147r; omega) (by show 0 ≤ (0 : Int) ∧ (0 : Int) ≤ qr150r; omega) (by show 0 ≤ (0 : Int) ∧ (0 : Int) ≤ 576; omega) (fun j hj => by rw [(Fqr150s.2.1 23 (by decide))]; exact hqr147s_1 j hj) (hqr150s_1) (by have := FU_big; have := FU_big2; omega)
set_option maxHeartbeats 1000000 in
theorem w_x11_growTrees {s : MS} (hRs : Rg s) (hp0 : US (hN s) (kN s)) (hp1 : ∀ v : Nat, v < 8 → (-2) ≤ gA s 60 v ∧ gA s 60 v < 48) : wp (m_x11_growTrees s) (fun o => (Rg o)) := by
  unfold m_x11_growTrees
  have L10 : ∀ (n : Nat) (x1 : Int) (s2 : MS), Rg s2 → (0 ≤ x1 ∧ x1 ≤ 8) → (gA s2 56 = gA s 56 ∧ gA s2 57 = gA s 57 ∧ gA s2 58 = gA s 58 ∧ gA s2 59 = gA s 59) → (gA s2 60 = gA s 60) → (8 - x1) < (n : Int) → wp (m_x11_growTrees_L10 n x1 s2) (fun o => (Rg o)) := by
    refine fr_ind (fun x1 s2 hRs2 hv10_0 hv10_1 hv10_2 hm10 => ?_) (fun n10 ih10 x1 s2 hRs2 hv10_0 hv10_1 hv10_2 hm10 => ?_)
    · exfalso; omega
    · show wp (m_x11_growTrees_b10 (m_x11_growTrees_L10 n10) x1 s2) _
      unfold m_x11_growTrees_b10
      refine wp_rg (by omega) ?_
      refine wp_if (fun c1 => ?_) (fun c1 => ?_)
      · skip
        exact wp_some (hRs2)
      · skip
        refine wp_bn (w_x8_isVolume hRs2 (by show R2 x1; omega)) (fun r12 er12 hr12 => ?_)
        have hr12_0 := hr12
        have hr12_0 : (r12 = 1 ∧ 0 ≤ x1 ∧ x1 < 8 ∧ gA s2 60 x1.toNat ≠ -2) ∨ (r12 = 0 ∧ (x1 < 0 ∨ 8 ≤ x1 ∨ gA s2 60 x1.toNat = -2)) := hr12_0
        refine wp_rg (by omega) ?_
        refine wp_if (fun c2 => ?_) (fun c2 => ?_)
        · skip
          unfold m_x11_growTrees_J47
          refine wp_inb (by omega) ?_
          refine wp_stn (fun s8 es8 => ?_)
          have hRs8 : Rg s8 := es8 ▸ Rg.uBu hRs2 (by omega)
          exact ih10 (x1 + 1) s8 hRs8 (by show 0 ≤ (x1 + 1) ∧ (x1 + 1) ≤ 8; omega) (⟨((q_Ba es8 : gA s8 56 = gA s2 56)).trans hv10_1.1, ((q_Ba es8 : gA s8 57 = gA s2 57)).trans hv10_1.2.1, ((q_Ba es8 : gA s8 58 = gA s2 58)).trans hv10_1.2.2.1, ((q_Ba es8 : gA s8 59 = gA s2 59)).trans hv10_1.2.2.2⟩) (((q_Ba es8 : gA s8 60 = gA s2 60)).trans hv10_2) (by omega)
        · skip
          refine wp_rdIn (by omega) (fun y15 ey15 => ?_)
          have by15 : (-2 : Int) ≤ y15 ∧ y15 ≤ 253 := ey15 ▸ hRs2.2.1 60 _ (by show _ < 8; omega)
          have k15 := hp1 x1.toNat (by omega)
          rw [← hv10_2, ey15] at k15
          refine wp_bn (w_x10_tree hRs2 (by rw [hN_eq hv10_1.1 hv10_1.2.1 hv10_1.2.2.2, kN_eq hv10_1.2.2.1]; exact hp0) (by show (-2) ≤ y15 ∧ y15 < 48; omega)) (fun qqrl18 eqrl18s hqrl18s => ?_)
          obtain ⟨qrl18r, qrl18s⟩ := qqrl18
          dsimp only at eqrl18s hqrl18s ⊢
          have Fqrl18s := fr_x10_tree eqrl18s
          obtain ⟨hRqrl18s, hqrl18s_0⟩ := hqrl18s
          have hqrl18s_0 : R8 qrl18r := hqrl18s_0
          unfold m_x11_growTrees_J47
          refine wp_inb (by omega) ?_
          refine wp_stn (fun s8 es8 => ?_)
          have hRs8 : Rg s8 := es8 ▸ Rg.uBu hRqrl18s (by omega)
          exact ih10 (x1 + 1) s8 hRs8 (by show 0 ≤ (x1 + 1) ∧ (x1 + 1) ≤ 8; omega) (⟨(((q_Ba es8 : gA s8 56 = gA qrl18s 56).trans (Fqrl18s.2.1 56 (by decide)))).trans hv10_1.1, (((q_Ba es8 : gA s8 57 = gA qrl18s 57).trans (Fqrl18s.2.1 57 (by decide)))).trans hv10_1.2.1, (((q_Ba es8 : gA s8 58 = gA qrl18s 58).trans (Fqrl18s.2.1 58 (by decide)))).trans hv10_1.2.2.1, (((q_Ba es8 : gA s8 59 = gA qrl18s 59).trans (Fqrl18s.2.1 59 (by decide)))).trans hv10_1.2.2.2⟩) ((((q_Ba es8 : gA s8 60 = gA qrl18s 60).trans (Fqrl18s.2.1 60 (by decide)))).trans hv10_2) (by omega)
  exact L10 FU 0 s hRs (by show 0 ≤ (0 : Int) ∧ (0 : Int) ≤ 8; omega) (⟨rfl, rfl, rfl, rfl⟩) (rfl) (by have := FU_big; have := FU_big2; omega)
set_option maxHeartbeats 1000000 in
theorem w_x11_lostWith {p0 : Int} {s : MS} (hRs : Rg s) (hp0 : US (hN s) (kN s)) (hp1 : 0 ≤ p0 ∧ p0 < 48) : wp (m_x11_lostWith p0 s) (fun q => (Rg q.2) ∧ (0 ≤ q.1 ∧ q.1 ≤ 2304)) := by
  unfold m_x11_lostWith
  have L4 : ∀ (n : Nat) (x3 : Int) (x4 : Int) (x5 : Int) (s6 : MS), Rg s6 → (x3 = p0) → (0 ≤ x5 ∧ x5 ≤ 8) → (0 ≤ x4 ∧ x4 ≤ x5) → (gA s6 56 = gA s 56 ∧ gA s6 57 = gA s 57 ∧ gA s6 58 = gA s 58 ∧ gA s6 59 = gA s 59) → (8 - x5) < (n : Int) → wp (m_x11_lostWith_L4 n x3 x4 x5 s6) (fun q => (Rg q.2) ∧ (0 ≤ q.1 ∧ q.1 ≤ 2304)) := by
    refine fr_ind (fun x3 x4 x5 s6 hRs6 hv4_0 hv4_1 hv4_2 hv4_3 hm4 => ?_) (fun n4 ih4 x3 x4 x5 s6 hRs6 hv4_0 hv4_1 hv4_2 hv4_3 hm4 => ?_)
    · exfalso; omega
    · show wp (m_x11_lostWith_b4 (m_x11_lostWith_L4 n4) x3 x4 x5 s6) _
      unfold m_x11_lostWith_b4
      refine wp_rg (by omega) ?_
      refine wp_if (fun c1 => ?_) (fun c1 => ?_)
      · skip
        refine wp_rg (by omega) ?_
        refine wp_if (fun c2 => ?_) (fun c2 => ?_)
        · skip
          unfold m_x11_lostWith_J55
          exact wp_some ⟨hRs6, by show 0 ≤ (0 : Int) ∧ (0 : Int) ≤ 2304; omega⟩
        · skip
          refine wp_bn (w_x10_gather hRs6 (by rw [hN_eq hv4_3.1 hv4_3.2.1 hv4_3.2.2.2, kN_eq hv4_3.2.2.1]; exact hp0) (by show (-2) ≤ x3 ∧ x3 < 48; omega)) (fun qqr13 eqr13s hqr13s => ?_)
          obtain ⟨qr13r, qr13s⟩ := qqr13
          dsimp only at eqr13s hqr13s ⊢
          have Fqr13s := fr_x10_gather eqr13s
          obtain ⟨hRqr13s, hqr13s_0, hqr13s_1⟩ := hqr13s
          have hqr13s_0 : 0 ≤ qr13r ∧ qr13r ≤ 288 := hqr13s_0
          have hqr13s_1 : ∀ j : Nat, (j : Int) < qr13r → 0 ≤ gA qr13s 23 j ∧ gA qr13s 23 j ≤ 999 := hqr13s_1
          unfold m_x11_lostWith_J55
          exact wp_some ⟨hRqr13s, by show 0 ≤ (x4 * qr13r) ∧ (x4 * qr13r) ≤ 2304; have mb := mul_88 x4 qr13r (by omega) (by omega); omega⟩
      · skip
        refine wp_rdLn (by omega) (fun yl14 eyl14 => ?_)
        exact ih4 x3 (x4 + (andL (ushrLZ yl14 x3) 1)) (x5 + 1) s6 hRs6 (by show x3 = p0; omega) (by show 0 ≤ (x5 + 1) ∧ (x5 + 1) ≤ 8; omega) (by show 0 ≤ (x4 + (andL (ushrLZ yl14 x3) 1)) ∧ (x4 + (andL (ushrLZ yl14 x3) 1)) ≤ (x5 + 1); have a1 := and_1 (ushrLZ yl14 x3); omega) (hv4_3) (by omega)
  exact L4 FU p0 0 0 s hRs (by show p0 = p0; omega) (by show 0 ≤ (0 : Int) ∧ (0 : Int) ≤ 8; omega) (by show 0 ≤ (0 : Int) ∧ (0 : Int) ≤ (0 : Int); omega) (⟨rfl, rfl, rfl, rfl⟩) (by have := FU_big; have := FU_big2; omega)
set_option maxHeartbeats 1000000 in
theorem w_x11_lost {p0 : Int} {s : MS} (hRs : Rg s) (hp0 : US (hN s) (kN s)) (hp1 : ∀ v : Nat, v < 8 → (-2) ≤ gA s 60 v ∧ gA s 60 v < 48) (hp2 : R2 p0) : wp (m_x11_lost p0 s) (fun q => (Rg q.2)) := by
  unfold m_x11_lost
  refine wp_bn (w_x8_isBlock hRs (by show R2 p0; omega)) (fun r2 er2 hr2 => ?_)
  have hr2_0 := hr2
  have hr2_0 : (r2 = 1 ∧ 0 ≤ p0 ∧ p0 < gI s 1060) ∨ (r2 = 0 ∧ (p0 < 0 ∨ gI s 1060 ≤ p0)) := hr2_0
  refine wp_rg (by have : (0 : Int) ≤ gI s 1060 ∧ gI s 1060 ≤ 48 := hRs.1 1060; omega) ?_
  refine wp_if (fun c1 => ?_) (fun c1 => ?_)
  · skip
    exact wp_some (hRs)
  · skip
    refine wp_bn (w_x11_growTrees hRs (hp0) (hp1)) (fun s6 es6 hs6 => ?_)
    have Fs6 := fr_x11_growTrees es6
    have hRs6 := hs6
    refine wp_bn (w_x11_lostWith hRs6 (by rw [hN_eq (Fs6.2.1 56 (by decide)) (Fs6.2.1 57 (by decide)) (Fs6.2.1 59 (by decide)), kN_eq (Fs6.2.1 58 (by decide))]; exact hp0) (by show 0 ≤ p0 ∧ p0 < 48; have : (0 : Int) ≤ gI s 1060 ∧ gI s 1060 ≤ 48 := hRs.1 1060; omega)) (fun qqr9 eqr9s hqr9s => ?_)
    obtain ⟨qr9r, qr9s⟩ := qqr9
    dsimp only at eqr9s hqr9s ⊢
    have Fqr9s := fr_x11_lostWith eqr9s
    obtain ⟨hRqr9s, hqr9s_0⟩ := hqr9s
    have hqr9s_0 : 0 ≤ qr9r ∧ qr9r ≤ 2304 := hqr9s_0
    exact wp_some (hRqr9s)
set_option maxHeartbeats 1000000 in
theorem w_x11_worst {p0 : Int} {s : MS} (hRs : Rg s) (hp0 : US (hN s) (kN s)) (hp1 : ∀ v : Nat, v < 8 → (-2) ≤ gA s 60 v ∧ gA s 60 v < 48) (hp2 : R2 p0) : wp (m_x11_worst p0 s) (fun q => (Rg q.2)) := by
  unfold m_x11_worst
  refine wp_bn (w_x11_growTrees hRs (hp0) (hp1)) (fun s25 es25 hs25 => ?_)
  have Fs25 := fr_x11_growTrees es25
  have hRs25 := hs25
  have L11 : ∀ (n : Nat) (x1 : Int) (x2 : Int) (x3 : Int) (x4 : Int) (s5 : MS), Rg s5 → (x1 = p0) → ((-1) ≤ x2 ∧ x2 ≤ 48) → (0 ≤ x3 ∧ x3 ≤ 2304) → (0 ≤ x4 ∧ x4 ≤ 48) → (gA s5 56 = gA s 56 ∧ gA s5 57 = gA s 57 ∧ gA s5 58 = gA s 58 ∧ gA s5 59 = gA s 59) → (48 - x4) < (n : Int) → wp (m_x11_worst_L11 n x1 x2 x3 x4 s5) (fun q => (Rg q.2)) := by
    refine fr_ind (fun x1 x2 x3 x4 s5 hRs5 hv11_0 hv11_1 hv11_2 hv11_3 hv11_4 hm11 => ?_) (fun n11 ih11 x1 x2 x3 x4 s5 hRs5 hv11_0 hv11_1 hv11_2 hv11_3 hv11_4 hm11 => ?_)
    · exfalso; omega
    · show wp (m_x11_worst_b11 (m_x11_worst_L11 n11) x1 x2 x3 x4 s5) _
      unfold m_x11_worst_b11
      refine wp_rg (by omega) ?_
      refine wp_rg (by have : (0 : Int) ≤ gI s5 1060 ∧ gI s5 1060 ≤ 48 := hRs5.1 1060; omega) ?_
      refine wp_if (fun c1 => ?_) (fun c1 => ?_)
      · skip
        refine wp_rg (by have : (0 : Int) ≤ gI s5 1060 ∧ gI s5 1060 ≤ 48 := hRs5.1 1060; omega) ?_
        refine wp_if (fun c2 => ?_) (fun c2 => ?_)
        · skip
          exact wp_some (hRs5)
        · skip
          refine wp_bn (w_x11_oneOf hRs5 (by show R2 x1; have : (0 : Int) ≤ gI s5 1060 ∧ gI s5 1060 ≤ 48 := hRs5.1 1060; omega)) (fun r17 er17 hr17 => ?_)
          exact wp_some (hRs5)
      · skip
        refine wp_bn (w_x11_lostWith hRs5 (by rw [hN_eq hv11_4.1 hv11_4.2.1 hv11_4.2.2.2, kN_eq hv11_4.2.2.1]; exact hp0) (by show 0 ≤ x4 ∧ x4 < 48; have : (0 : Int) ≤ gI s5 1060 ∧ gI s5 1060 ≤ 48 := hRs5.1 1060; omega)) (fun qqr20 eqr20s hqr20s => ?_)
        obtain ⟨qr20r, qr20s⟩ := qqr20
        dsimp only at eqr20s hqr20s ⊢
        have Fqr20s := fr_x11_lostWith eqr20s
        obtain ⟨hRqr20s, hqr20s_0⟩ := hqr20s
        have hqr20s_0 : 0 ≤ qr20r ∧ qr20r ≤ 2304 := hqr20s_0
        refine wp_rg (by have : (0 : Int) ≤ gI s5 1060 ∧ gI s5 1060 ≤ 48 := hRs5.1 1060; omega) ?_
        refine wp_rg (by have : (0 : Int) ≤ gI s5 1060 ∧ gI s5 1060 ≤ 48 := hRs5.1 1060; omega) ?_
        refine wp_if (fun c3 => ?_) (fun c3 => ?_)
        · skip
          unfold m_x11_worst_J46
          exact ih11 x1 x2 x3 (x4 + 1) qr20s hRqr20s (by show x1 = p0; have : (0 : Int) ≤ gI s5 1060 ∧ gI s5 1060 ≤ 48 := hRs5.1 1060; omega) (by show (-1) ≤ x2 ∧ x2 ≤ 48; have : (0 : Int) ≤ gI s5 1060 ∧ gI s5 1060 ≤ 48 := hRs5.1 1060; omega) (by show 0 ≤ x3 ∧ x3 ≤ 2304; have : (0 : Int) ≤ gI s5 1060 ∧ gI s5 1060 ≤ 48 := hRs5.1 1060; omega) (by show 0 ≤ (x4 + 1) ∧ (x4 + 1) ≤ 48; have : (0 : Int) ≤ gI s5 1060 ∧ gI s5 1060 ≤ 48 := hRs5.1 1060; omega) (⟨((Fqr20s.2.1 56 (by decide))).trans hv11_4.1, ((Fqr20s.2.1 57 (by decide))).trans hv11_4.2.1, ((Fqr20s.2.1 58 (by decide))).trans hv11_4.2.2.1, ((Fqr20s.2.1 59 (by decide))).trans hv11_4.2.2.2⟩) (by have : (0 : Int) ≤ gI s5 1060 ∧ gI s5 1060 ≤ 48 := hRs5.1 1060; omega)
        · skip
          unfold m_x11_worst_J46
          exact ih11 x1 x4 qr20r (x4 + 1) qr20s hRqr20s (by show x1 = p0; have : (0 : Int) ≤ gI s5 1060 ∧ gI s5 1060 ≤ 48 := hRs5.1 1060; omega) (by show (-1) ≤ x4 ∧ x4 ≤ 48; have : (0 : Int) ≤ gI s5 1060 ∧ gI s5 1060 ≤ 48 := hRs5.1 1060; omega) (by show 0 ≤ qr20r ∧ qr20r ≤ 2304; have : (0 : Int) ≤ gI s5 1060 ∧ gI s5 1060 ≤ 48 := hRs5.1 1060; omega) (by show 0 ≤ (x4 + 1) ∧ (x4 + 1) ≤ 48; have : (0 : Int) ≤ gI s5 1060 ∧ gI s5 1060 ≤ 48 := hRs5.1 1060; omega) (⟨((Fqr20s.2.1 56 (by decide))).trans hv11_4.1, ((Fqr20s.2.1 57 (by decide))).trans hv11_4.2.1, ((Fqr20s.2.1 58 (by decide))).trans hv11_4.2.2.1, ((Fqr20s.2.1 59 (by decide))).trans hv11_4.2.2.2⟩) (by have : (0 : Int) ≤ gI s5 1060 ∧ gI s5 1060 ≤ 48 := hRs5.1 1060; omega)
  exact L11 FU p0 (-1) 0 0 s25 hRs25 (by show p0 = p0; omega) (by show (-1) ≤ (-1 : Int) ∧ (-1 : Int) ≤ 48; omega) (by show 0 ≤ (0 : Int) ∧ (0 : Int) ≤ 2304; omega) (by show 0 ≤ (0 : Int) ∧ (0 : Int) ≤ 48; omega) (⟨(Fs25.2.1 56 (by decide)), (Fs25.2.1 57 (by decide)), (Fs25.2.1 58 (by decide)), (Fs25.2.1 59 (by decide))⟩) (by have := FU_big; have := FU_big2; omega)
set_option maxHeartbeats 1000000 in
theorem w_x11_key {p0 : Int} {p1 : Int} {s : MS} (hRs : Rg s) (hp0 : US (hN s) (kN s)) (hp1 : ∀ v : Nat, v < 8 → (-2) ≤ gA s 60 v ∧ gA s 60 v < 48) (hp2 : R2 p0) (hp3 : R2 p1) : wp (m_x11_key p0 p1 s) (fun q => (Rg q.2)) := by
  unfold m_x11_key
  refine wp_bn (w_x8_isVolume hRs (by show R2 p0; omega)) (fun r3 er3 hr3 => ?_)
  have hr3_0 := hr3
  have hr3_0 : (r3 = 1 ∧ 0 ≤ p0 ∧ p0 < 8 ∧ gA s 60 p0.toNat ≠ -2) ∨ (r3 = 0 ∧ (p0 < 0 ∨ 8 ≤ p0 ∨ gA s 60 p0.toNat = -2)) := hr3_0
  refine wp_rg (by omega) ?_
  refine wp_if (fun c1 => ?_) (fun c1 => ?_)
  · skip
    unfold m_x11_key_J38
    exact wp_some (hRs)
  · skip
    refine wp_rg (by omega) ?_
    refine wp_if (fun c2 => ?_) (fun c2 => ?_)
    · skip
      unfold m_x11_key_J38
      exact wp_some (hRs)
    · skip
      refine wp_rdIn (by omega) (fun y8 ey8 => ?_)
      have by8 : (-2 : Int) ≤ y8 ∧ y8 ≤ 253 := ey8 ▸ hRs.2.1 60 _ (by show _ < 8; omega)
      have ky8 := hp1 p0.toNat (by omega)
      rw [ey8] at ky8
      refine wp_bn (w_x10_gather hRs (hp0) (by show (-2) ≤ y8 ∧ y8 < 48; omega)) (fun qqr11 eqr11s hqr11s => ?_)
      obtain ⟨qr11r, qr11s⟩ := qqr11
      dsimp only at eqr11s hqr11s ⊢
      have Fqr11s := fr_x10_gather eqr11s
      obtain ⟨hRqr11s, hqr11s_0, hqr11s_1⟩ := hqr11s
      have hqr11s_0 : 0 ≤ qr11r ∧ qr11r ≤ 288 := hqr11s_0
      have hqr11s_1 : ∀ j : Nat, (j : Int) < qr11r → 0 ≤ gA qr11s 23 j ∧ gA qr11s 23 j ≤ 999 := hqr11s_1
      refine wp_rg (by omega) ?_
      refine wp_rg (by omega) ?_
      refine wp_if (fun c3 => ?_) (fun c3 => ?_)
      · skip
        refine wp_rdIn (by omega) (fun y15 ey15 => ?_)
        have by15 : (-2147483648 : Int) ≤ y15 ∧ y15 ≤ 2147483647 := ey15 ▸ hRqr11s.2.1 23 _ (by show _ < 288; omega)
        exact wp_some (hRqr11s)
      · skip
        unfold m_x11_key_J38
        exact wp_some (hRqr11s)
set_option maxHeartbeats 1000000 in
theorem w_x11_total {p0 : Int} {p1 : Int} {p2 : Int} {s : MS} (hRs : Rg s) (hp0 : US (hN s) (kN s)) (hp1 : ∀ v : Nat, v < 8 → (-2) ≤ gA s 60 v ∧ gA s 60 v < 48) (hp2 : R2 p0) (hp3 : R2 p1) (hp4 : R2 p2) : wp (m_x11_total p0 p1 p2 s) (fun q => (Rg q.2)) := by
  unfold m_x11_total
  refine wp_bn (w_x8_isVolume hRs (by show R2 p0; omega)) (fun r26 er26 hr26 => ?_)
  have hr26_0 := hr26
  have hr26_0 : (r26 = 1 ∧ 0 ≤ p0 ∧ p0 < 8 ∧ gA s 60 p0.toNat ≠ -2) ∨ (r26 = 0 ∧ (p0 < 0 ∨ 8 ≤ p0 ∨ gA s 60 p0.toNat = -2)) := hr26_0
  refine wp_rg (by omega) ?_
  refine wp_if (fun c1 => ?_) (fun c1 => ?_)
  · skip
    exact wp_some (hRs)
  · skip
    refine wp_rdIn (by omega) (fun y29 ey29 => ?_)
    have by29 : (-2 : Int) ≤ y29 ∧ y29 ≤ 253 := ey29 ▸ hRs.2.1 60 _ (by show _ < 8; omega)
    have ky29 := hp1 p0.toNat (by omega)
    rw [ey29] at ky29
    refine wp_bn (w_x10_gather hRs (hp0) (by show (-2) ≤ y29 ∧ y29 < 48; omega)) (fun qqr32 eqr32s hqr32s => ?_)
    obtain ⟨qr32r, qr32s⟩ := qqr32
    dsimp only at eqr32s hqr32s ⊢
    have Fqr32s := fr_x10_gather eqr32s
    obtain ⟨hRqr32s, hqr32s_0, hqr32s_1⟩ := hqr32s
    have hqr32s_0 : 0 ≤ qr32r ∧ qr32r ≤ 288 := hqr32s_0
    have hqr32s_1 : ∀ j : Nat, (j : Int) < qr32r → 0 ≤ gA qr32s 23 j ∧ gA qr32s 23 j ≤ 999 := hqr32s_1
    have L44 : ∀ (n : Nat) (x1 : Int) (x2 : Int) (x3 : Int) (x4 : Int) (x5 : Int) (s6 : MS), Rg s6 → (x1 = p1 ∧ x2 = p2) → (x3 = qr32r) → (0 ≤ x5 ∧ x5 ≤ 288) → (288 - x5) < (n : Int) → wp (m_x11_total_L44 n x1 x2 x3 x4 x5 s6) (fun q => (Rg q.2)) := by
      refine fr_ind (fun x1 x2 x3 x4 x5 s6 hRs6 hv44_0 hv44_1 hv44_2 hm44 => ?_) (fun n44 ih44 x1 x2 x3 x4 x5 s6 hRs6 hv44_0 hv44_1 hv44_2 hm44 => ?_)
      · exfalso; omega
      · show wp (m_x11_total_b44 (m_x11_total_L44 n44) x1 x2 x3 x4 x5 s6) _
        unfold m_x11_total_b44
        refine wp_rg (by omega) ?_
        refine wp_rg (by omega) ?_
        refine wp_if (fun c2 => ?_) (fun c2 => ?_)
        · skip
          exact wp_some (hRs6)
        · skip
          refine wp_rdIn (by omega) (fun y16 ey16 => ?_)
          have by16 : (-2147483648 : Int) ≤ y16 ∧ y16 ≤ 2147483647 := ey16 ▸ hRs6.2.1 23 _ (by show _ < 288; omega)
          refine wp_rg (by omega) ?_
          refine wp_rg (by omega) ?_
          refine wp_if (fun c3 => ?_) (fun c3 => ?_)
          · skip
            unfold m_x11_total_J94
            exact ih44 x1 x2 x3 x4 (x5 + 1) s6 hRs6 (by show x1 = p1 ∧ x2 = p2; omega) (by show x3 = qr32r; omega) (by show 0 ≤ (x5 + 1) ∧ (x5 + 1) ≤ 288; omega) (by omega)
          · skip
            refine wp_rdIn (by omega) (fun y20 ey20 => ?_)
            have by20 : (-2147483648 : Int) ≤ y20 ∧ y20 ≤ 2147483647 := ey20 ▸ hRs6.2.1 23 _ (by show _ < 288; omega)
            refine wp_rg (by omega) ?_
            refine wp_rg (by omega) ?_
            refine wp_if (fun c4 => ?_) (fun c4 => ?_)
            · skip
              unfold m_x11_total_J94
              exact ih44 x1 x2 x3 x4 (x5 + 1) s6 hRs6 (by show x1 = p1 ∧ x2 = p2; omega) (by show x3 = qr32r; omega) (by show 0 ≤ (x5 + 1) ∧ (x5 + 1) ≤ 288; omega) (by omega)
            · skip
              refine wp_rdIn (by omega) (fun y24 ey24 => ?_)
              have by24 : (-2147483648 : Int) ≤ y24 ∧ y24 ≤ 2147483647 := ey24 ▸ hRs6.2.1 24 _ (by show _ < 288; omega)
              unfold m_x11_total_J94
              exact ih44 x1 x2 x3 (x4 + y24) (x5 + 1) s6 hRs6 (by show x1 = p1 ∧ x2 = p2; omega) (by show x3 = qr32r; omega) (by show 0 ≤ (x5 + 1) ∧ (x5 + 1) ≤ 288; omega) (by omega)
    exact L44 FU p1 p2 qr32r 0 0 qr32s hRqr32s (by show p1 = p1 ∧ p2 = p2; omega) (by show qr32r = qr32r; omega) (by show 0 ≤ (0 : Int) ∧ (0 : Int) ≤ 288; omega) (by have := FU_big; have := FU_big2; omega)
set_option maxHeartbeats 1000000 in
theorem w_x11_shared {p0 : Int} {p1 : Int} {s : MS} (hRs : Rg s) (hp0 : US (hN s) (kN s)) (hp1 : ∀ v : Nat, v < 8 → (-2) ≤ gA s 60 v ∧ gA s 60 v < 48) (hp2 : R2 p0) (hp3 : R2 p1) : wp (m_x11_shared p0 p1 s) (fun q => (Rg q.2)) := by
  unfold m_x11_shared
  refine wp_bn (w_x8_isVolume hRs (by show R2 p0; omega)) (fun r3 er3 hr3 => ?_)
  have hr3_0 := hr3
  have hr3_0 : (r3 = 1 ∧ 0 ≤ p0 ∧ p0 < 8 ∧ gA s 60 p0.toNat ≠ -2) ∨ (r3 = 0 ∧ (p0 < 0 ∨ 8 ≤ p0 ∨ gA s 60 p0.toNat = -2)) := hr3_0
  refine wp_rg (by omega) ?_
  refine wp_if (fun c1 => ?_) (fun c1 => ?_)
  · skip
    unfold m_x11_shared_J24
    exact wp_some (hRs)
  · skip
    refine wp_bn (w_x8_isVolume hRs (by show R2 p1; omega)) (fun r7 er7 hr7 => ?_)
    have hr7_0 := hr7
    have hr7_0 : (r7 = 1 ∧ 0 ≤ p1 ∧ p1 < 8 ∧ gA s 60 p1.toNat ≠ -2) ∨ (r7 = 0 ∧ (p1 < 0 ∨ 8 ≤ p1 ∨ gA s 60 p1.toNat = -2)) := hr7_0
    refine wp_rg (by omega) ?_
    refine wp_if (fun c2 => ?_) (fun c2 => ?_)
    · skip
      unfold m_x11_shared_J24
      exact wp_some (hRs)
    · skip
      refine wp_rdIn (by omega) (fun y10 ey10 => ?_)
      have by10 : (-2 : Int) ≤ y10 ∧ y10 ≤ 253 := ey10 ▸ hRs.2.1 60 _ (by show _ < 8; omega)
      have ky10 := hp1 p0.toNat (by omega)
      rw [ey10] at ky10
      refine wp_bn (w_x10_tree hRs (hp0) (by show (-2) ≤ y10 ∧ y10 < 48; omega)) (fun qqrl13 eqrl13s hqrl13s => ?_)
      obtain ⟨qrl13r, qrl13s⟩ := qqrl13
      dsimp only at eqrl13s hqrl13s ⊢
      have Fqrl13s := fr_x10_tree eqrl13s
      obtain ⟨hRqrl13s, hqrl13s_0⟩ := hqrl13s
      have hqrl13s_0 : R8 qrl13r := hqrl13s_0
      refine wp_rdIn (by omega) (fun y14 ey14 => ?_)
      have by14 : (-2 : Int) ≤ y14 ∧ y14 ≤ 253 := ey14 ▸ hRqrl13s.2.1 60 _ (by show _ < 8; omega)
      have k14 := hp1 p1.toNat (by omega)
      rw [← (Fqrl13s.2.1 60 (by decide)), ey14] at k14
      refine wp_bn (w_x10_tree hRqrl13s (by rw [hN_eq (Fqrl13s.2.1 56 (by decide)) (Fqrl13s.2.1 57 (by decide)) (Fqrl13s.2.1 59 (by decide)), kN_eq (Fqrl13s.2.1 58 (by decide))]; exact hp0) (by show (-2) ≤ y14 ∧ y14 < 48; omega)) (fun qqrl17 eqrl17s hqrl17s => ?_)
      obtain ⟨qrl17r, qrl17s⟩ := qqrl17
      dsimp only at eqrl17s hqrl17s ⊢
      have Fqrl17s := fr_x10_tree eqrl17s
      obtain ⟨hRqrl17s, hqrl17s_0⟩ := hqrl17s
      have hqrl17s_0 : R8 qrl17r := hqrl17s_0
      refine wp_bn (w_j13_bitCount_95d88 hRqrl17s) (fun r19 er19 hr19 => ?_)
      exact wp_some (hRqrl17s)
set_option maxHeartbeats 1000000 in
theorem w_x11_differs {p0 : Int} {p1 : Int} {p2 : Int} {s : MS} (hRs : Rg s) (hp0 : US (hN s) (kN s)) (hp1 : ∀ v : Nat, v < 8 → (-2) ≤ gA s 60 v ∧ gA s 60 v < 48) (hp2 : R2 p0) (hp3 : R2 p1) (hp4 : R2 p2) : wp (m_x11_differs p0 p1 p2 s) (fun q => (Rg q.2)) := by
  unfold m_x11_differs
  refine wp_bn (w_x8_isVolume hRs (by show R2 p0; omega)) (fun r3 er3 hr3 => ?_)
  have hr3_0 := hr3
  have hr3_0 : (r3 = 1 ∧ 0 ≤ p0 ∧ p0 < 8 ∧ gA s 60 p0.toNat ≠ -2) ∨ (r3 = 0 ∧ (p0 < 0 ∨ 8 ≤ p0 ∨ gA s 60 p0.toNat = -2)) := hr3_0
  refine wp_rg (by omega) ?_
  refine wp_if (fun c1 => ?_) (fun c1 => ?_)
  · skip
    unfold m_x11_differs_J27
    exact wp_some (hRs)
  · skip
    refine wp_bn (w_x8_isVolume hRs (by show R2 p1; omega)) (fun r7 er7 hr7 => ?_)
    have hr7_0 := hr7
    have hr7_0 : (r7 = 1 ∧ 0 ≤ p1 ∧ p1 < 8 ∧ gA s 60 p1.toNat ≠ -2) ∨ (r7 = 0 ∧ (p1 < 0 ∨ 8 ≤ p1 ∨ gA s 60 p1.toNat = -2)) := hr7_0
    refine wp_rg (by omega) ?_
    refine wp_if (fun c2 => ?_) (fun c2 => ?_)
    · skip
      unfold m_x11_differs_J27
      exact wp_some (hRs)
    · skip
      refine wp_rdIn (by omega) (fun y10 ey10 => ?_)
      have by10 : (-2 : Int) ≤ y10 ∧ y10 ≤ 253 := ey10 ▸ hRs.2.1 60 _ (by show _ < 8; omega)
      have ky10 := hp1 p0.toNat (by omega)
      rw [ey10] at ky10
      refine wp_rdIn (by omega) (fun y11 ey11 => ?_)
      have by11 : (-2 : Int) ≤ y11 ∧ y11 ≤ 253 := ey11 ▸ hRs.2.1 60 _ (by show _ < 8; omega)
      have ky11 := hp1 p1.toNat (by omega)
      rw [ey11] at ky11
      refine wp_bn (w_x11_unlike hRs (hp0) (by show (-2) ≤ y10 ∧ y10 < 48; omega) (by show (-2) ≤ y11 ∧ y11 < 48; omega) (by show R2 p2; omega)) (fun qqr14 eqr14s hqr14s => ?_)
      obtain ⟨qr14r, qr14s⟩ := qqr14
      dsimp only at eqr14s hqr14s ⊢
      have Fqr14s := fr_x11_unlike eqr14s
      have hRqr14s := hqr14s
      exact wp_some (hRqr14s)
set_option maxHeartbeats 1000000 in
theorem w_x11_back {p0 : Int} {s : MS} (hRs : Rg s) (hp0 : US (hN s) (kN s)) (hp1 : ∀ v : Nat, v < 8 → (-2) ≤ gA s 60 v ∧ gA s 60 v < 48) (hp2 : ∀ v : Nat, v < 8 → (-2) ≤ gA s 61 v ∧ gA s 61 v < 48) (hp3 : R2 p0) : wp (m_x11_back p0 s) (fun q => (Rg q.2)) := by
  unfold m_x11_back
  refine wp_bn (w_x8_isVolume hRs (by show R2 p0; omega)) (fun r3 er3 hr3 => ?_)
  have hr3_0 := hr3
  have hr3_0 : (r3 = 1 ∧ 0 ≤ p0 ∧ p0 < 8 ∧ gA s 60 p0.toNat ≠ -2) ∨ (r3 = 0 ∧ (p0 < 0 ∨ 8 ≤ p0 ∨ gA s 60 p0.toNat = -2)) := hr3_0
  refine wp_rg (by omega) ?_
  refine wp_if (fun c1 => ?_) (fun c1 => ?_)
  · skip
    unfold m_x11_back_J27
    exact wp_some (hRs)
  · skip
    refine wp_rdIn (by omega) (fun y6 ey6 => ?_)
    have by6 : (-2 : Int) ≤ y6 ∧ y6 ≤ 253 := ey6 ▸ hRs.2.1 61 _ (by show _ < 8; omega)
    refine wp_rg (by omega) ?_
    refine wp_if (fun c2 => ?_) (fun c2 => ?_)
    · skip
      unfold m_x11_back_J27
      exact wp_some (hRs)
    · skip
      refine wp_rdIn (by omega) (fun y9 ey9 => ?_)
      have by9 : (-2 : Int) ≤ y9 ∧ y9 ≤ 253 := ey9 ▸ hRs.2.1 60 _ (by show _ < 8; omega)
      have ky9 := hp1 p0.toNat (by omega)
      rw [ey9] at ky9
      refine wp_rdIn (by omega) (fun y10 ey10 => ?_)
      have by10 : (-2 : Int) ≤ y10 ∧ y10 ≤ 253 := ey10 ▸ hRs.2.1 61 _ (by show _ < 8; omega)
      have ky10 := hp2 p0.toNat (by omega)
      rw [ey10] at ky10
      refine wp_bn (w_x11_unlike hRs (hp0) (by show (-2) ≤ y9 ∧ y9 < 48; omega) (by show (-2) ≤ y10 ∧ y10 < 48; omega) (by show R2 (-1 : Int); omega)) (fun qqr13 eqr13s hqr13s => ?_)
      obtain ⟨qr13r, qr13s⟩ := qqr13
      dsimp only at eqr13s hqr13s ⊢
      have Fqr13s := fr_x11_unlike eqr13s
      have hRqr13s := hqr13s
      exact wp_some (hRqr13s)
