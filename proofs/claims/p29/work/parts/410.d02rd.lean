set_option maxHeartbeats 1000000 in
theorem w_x6_fail {p0 : Int} {p1 : Int} {s : MS} (hRs : Rg s) (hp0 : 1 ≤ p0 ∧ p0 ≤ 5) (hp1 : R2 p1) : wp (m_x6_fail p0 p1 s) (fun q => (Rg q.2) ∧ (q.1 = 0) ∧ (gI q.2 100 ≠ 0)) := by
  unfold m_x6_fail
  refine wp_rg (by have : (0 : Int) ≤ gI s 100 ∧ gI s 100 ≤ 5 := hRs.1 100; omega) ?_
  refine wp_if (fun c1 => ?_) (fun c1 => ?_)
  · skip
    refine wp_stn (fun s4 es4 => ?_)
    have hRs4 : Rg s4 := es4 ▸ Rg.uI hRs (by show (0 : Int) ≤ p0 ∧ p0 ≤ 5; have : (0 : Int) ≤ gI s 100 ∧ gI s 100 ≤ 5 := hRs.1 100; omega)
    refine wp_stn (fun s5 es5 => ?_)
    have hRs5 : Rg s5 := es5 ▸ Rg.uI hRs4 (by show (-2147483648 : Int) ≤ p1 ∧ p1 ≤ 2147483647; have : (0 : Int) ≤ gI s 100 ∧ gI s 100 ≤ 5 := hRs.1 100; omega)
    refine wp_stn (fun s6 es6 => ?_)
    have hRs6 : Rg s6 := es6 ▸ Rg.uI hRs5 (by show (0 : Int) ≤ (0 : Int) ∧ (0 : Int) ≤ 4; have : (0 : Int) ≤ gI s 100 ∧ gI s 100 ≤ 5 := hRs.1 100; omega)
    unfold m_x6_fail_J22
    exact wp_some ⟨hRs6, by show (0 : Int) = 0; have : (0 : Int) ≤ gI s 100 ∧ gI s 100 ≤ 5 := hRs.1 100; omega, by show gI s6 100 ≠ 0; have : (0 : Int) ≤ gI s 100 ∧ gI s 100 ≤ 5 := hRs.1 100; have : gI s6 100 = gI s5 100 := q_Ii es6 (by decide); have : gI s5 100 = gI s4 100 := q_Ii es5 (by decide); have : gI s4 100 = p0 := q_II es4; omega⟩
  · skip
    unfold m_x6_fail_J22
    exact wp_some ⟨hRs, by show (0 : Int) = 0; have : (0 : Int) ≤ gI s 100 ∧ gI s 100 ≤ 5 := hRs.1 100; omega, by show gI s 100 ≠ 0; have : (0 : Int) ≤ gI s 100 ∧ gI s 100 ≤ 5 := hRs.1 100; omega⟩
set_option maxHeartbeats 1000000 in
theorem w_x6_opens {s : MS} (hRs : Rg s) : wp (m_x6_opens s) (fun q => (Rg q.2) ∧ ((q.1 = 1 ∧ gI s 106 < 6 ∧ gI q.2 106 = gI s 106 + 1 ∧ gI q.2 100 = gI s 100) ∨ (q.1 = 0 ∧ gI q.2 106 = gI s 106 ∧ gI q.2 100 ≠ 0))) := by
  unfold m_x6_opens
  refine wp_rg (by have : (0 : Int) ≤ gI s 106 ∧ gI s 106 ≤ 6 := hRs.1 106; omega) ?_
  refine wp_if (fun c1 => ?_) (fun c1 => ?_)
  · skip
    refine wp_stn (fun s3 es3 => ?_)
    have hRs3 : Rg s3 := es3 ▸ Rg.uI hRs (by show (0 : Int) ≤ ((gI s 106) + 1) ∧ ((gI s 106) + 1) ≤ 6; have : (0 : Int) ≤ gI s 106 ∧ gI s 106 ≤ 6 := hRs.1 106; omega)
    exact wp_some ⟨hRs3, by show ((1 : Int) = 1 ∧ gI s 106 < 6 ∧ gI s3 106 = gI s 106 + 1 ∧ gI s3 100 = gI s 100) ∨ ((1 : Int) = 0 ∧ gI s3 106 = gI s 106 ∧ gI s3 100 ≠ 0); have : (0 : Int) ≤ gI s 100 ∧ gI s 100 ≤ 5 := hRs.1 100; have : gI s3 100 = gI s 100 := q_Ii es3 (by decide); have : gI s3 106 = (gI s 106) + 1 := q_II es3; have : (0 : Int) ≤ gI s 106 ∧ gI s 106 ≤ 6 := hRs.1 106; omega⟩
  · skip
    refine wp_bn (w_x6_fail hRs (by show 1 ≤ (4 : Int) ∧ (4 : Int) ≤ 5; have : (0 : Int) ≤ gI s 106 ∧ gI s 106 ≤ 6 := hRs.1 106; omega) (by show R2 (gI s 108); have : (0 : Int) ≤ gI s 106 ∧ gI s 106 ≤ 6 := hRs.1 106; have : (0 : Int) ≤ gI s 108 ∧ gI s 108 ≤ 1600 := hRs.1 108; omega)) (fun qqr6 eqr6s hqr6s => ?_)
    obtain ⟨qr6r, qr6s⟩ := qqr6
    dsimp only at eqr6s hqr6s ⊢
    have Fqr6s := fr_x6_fail eqr6s
    obtain ⟨hRqr6s, hqr6s_0, hqr6s_1⟩ := hqr6s
    have hqr6s_0 : qr6r = 0 := hqr6s_0
    have hqr6s_1 : gI qr6s 100 ≠ 0 := hqr6s_1
    refine wp_bo (by have : (0 : Int) ≤ gI qr6s 100 ∧ gI qr6s 100 ≤ 5 := hRqr6s.1 100; have : (0 : Int) ≤ gI s 106 ∧ gI s 106 ≤ 6 := hRs.1 106; omega) ?_
    exact wp_some ⟨hRqr6s, by show (qr6r = 1 ∧ gI s 106 < 6 ∧ gI qr6s 106 = gI s 106 + 1 ∧ gI qr6s 100 = gI s 100) ∨ (qr6r = 0 ∧ gI qr6s 106 = gI s 106 ∧ gI qr6s 100 ≠ 0); have : (0 : Int) ≤ gI s 100 ∧ gI s 100 ≤ 5 := hRs.1 100; have : (0 : Int) ≤ gI qr6s 100 ∧ gI qr6s 100 ≤ 5 := hRqr6s.1 100; have : gI qr6s 106 = gI s 106 := Fqr6s.1 106 (by decide); have : (0 : Int) ≤ gI s 106 ∧ gI s 106 ≤ 6 := hRs.1 106; omega⟩
set_option maxHeartbeats 1000000 in
theorem w_x6_isLetter {p0 : Int} {s : MS} (hRs : Rg s) (hp0 : R2 p0) : wp (m_x6_isLetter p0 s) (fun r => (r = 0 ∨ r = 1)) := by
  unfold m_x6_isLetter
  refine wp_rg (by omega) ?_
  refine wp_if (fun c1 => ?_) (fun c1 => ?_)
  · skip
    unfold m_x6_isLetter_J16
    unfold m_x6_isLetter_J17
    refine wp_bo (by omega) ?_
    exact wp_some (by show (0 : Int) = 0 ∨ (0 : Int) = 1; omega)
  · skip
    refine wp_rg (by omega) ?_
    refine wp_if (fun c2 => ?_) (fun c2 => ?_)
    · skip
      unfold m_x6_isLetter_J16
      unfold m_x6_isLetter_J17
      refine wp_bo (by omega) ?_
      exact wp_some (by show (0 : Int) = 0 ∨ (0 : Int) = 1; omega)
    · skip
      unfold m_x6_isLetter_J17
      refine wp_bo (by omega) ?_
      exact wp_some (by show (1 : Int) = 0 ∨ (1 : Int) = 1; omega)
set_option maxHeartbeats 1000000 in
theorem w_x6_isDigit {p0 : Int} {s : MS} (hRs : Rg s) (hp0 : R2 p0) : wp (m_x6_isDigit p0 s) (fun r => (r = 0 ∨ r = 1)) := by
  unfold m_x6_isDigit
  refine wp_rg (by omega) ?_
  refine wp_if (fun c1 => ?_) (fun c1 => ?_)
  · skip
    unfold m_x6_isDigit_J16
    unfold m_x6_isDigit_J17
    refine wp_bo (by omega) ?_
    exact wp_some (by show (0 : Int) = 0 ∨ (0 : Int) = 1; omega)
  · skip
    refine wp_rg (by omega) ?_
    refine wp_if (fun c2 => ?_) (fun c2 => ?_)
    · skip
      unfold m_x6_isDigit_J16
      unfold m_x6_isDigit_J17
      refine wp_bo (by omega) ?_
      exact wp_some (by show (0 : Int) = 0 ∨ (0 : Int) = 1; omega)
    · skip
      unfold m_x6_isDigit_J17
      refine wp_bo (by omega) ?_
      exact wp_some (by show (1 : Int) = 0 ∨ (1 : Int) = 1; omega)
set_option maxHeartbeats 1000000 in
theorem w_x9_at {p0 : Int} {s : MS} (hRs : Rg s) (hp0 : R2 p0) : wp (m_x9_at p0 s) (fun r => ((-1) ≤ r ∧ r ≤ 255) ∧ (r ≠ -1 → 0 ≤ p0 ∧ p0 < gI s 61)) := by
  unfold m_x9_at
  refine wp_rg (by omega) ?_
  refine wp_if (fun c1 => ?_) (fun c1 => ?_)
  · skip
    unfold m_x9_at_J21
    unfold m_x9_at_J22
    exact wp_some ⟨by show (-1) ≤ (-1 : Int) ∧ (-1 : Int) ≤ 255; omega, by show (-1 : Int) ≠ -1 → 0 ≤ p0 ∧ p0 < gI s 61; have : (0 : Int) ≤ gI s 61 ∧ gI s 61 ≤ 1600 := hRs.1 61; omega⟩
  · skip
    refine wp_rg (by omega) ?_
    refine wp_rg (by have : (0 : Int) ≤ gI s 61 ∧ gI s 61 ≤ 1600 := hRs.1 61; omega) ?_
    refine wp_if (fun c2 => ?_) (fun c2 => ?_)
    · skip
      unfold m_x9_at_J21
      unfold m_x9_at_J22
      exact wp_some ⟨by show (-1) ≤ (-1 : Int) ∧ (-1 : Int) ≤ 255; have : (0 : Int) ≤ gI s 61 ∧ gI s 61 ≤ 1600 := hRs.1 61; omega, by show (-1 : Int) ≠ -1 → 0 ≤ p0 ∧ p0 < gI s 61; have : (0 : Int) ≤ gI s 61 ∧ gI s 61 ≤ 1600 := hRs.1 61; omega⟩
    · skip
      refine wp_rdIn (by have : (0 : Int) ≤ gI s 61 ∧ gI s 61 ≤ 1600 := hRs.1 61; omega) (fun y7 ey7 => ?_)
      have by7 : (0 : Int) ≤ y7 ∧ y7 ≤ 255 := ey7 ▸ hRs.2.1 4 _ (by show _ < 1600; have : (0 : Int) ≤ gI s 61 ∧ gI s 61 ≤ 1600 := hRs.1 61; omega)
      unfold m_x9_at_J22
      exact wp_some ⟨by show (-1) ≤ y7 ∧ y7 ≤ 255; have : (0 : Int) ≤ gI s 61 ∧ gI s 61 ≤ 1600 := hRs.1 61; omega, by show y7 ≠ -1 → 0 ≤ p0 ∧ p0 < gI s 61; have : (0 : Int) ≤ gI s 61 ∧ gI s 61 ≤ 1600 := hRs.1 61; omega⟩
set_option maxHeartbeats 1000000 in
theorem w_x6_wordNumber {s : MS} (hRs : Rg s) : wp (m_x6_wordNumber s) (fun r => ((-1) ≤ r ∧ r ≤ 179)) := by
  unfold m_x6_wordNumber
  have L12 : ∀ (n : Nat) (x2 : Int) (x3 : Int) (x4 : Int) (x5 : Int), (0 ≤ x2 ∧ x2 ≤ x5 ∧ x5 ≤ 179) → (0 ≤ x3 ∧ x3 ≤ 1600 + x5) → (x4 = 0 ∨ x4 = 1) → (179 - x5) < (n : Int) → wp (m_x6_wordNumber_L12 s n x2 x3 x4 x5) (fun r => ((-1) ≤ r ∧ r ≤ 179)) := by
    refine fr_ind (fun x2 x3 x4 x5 hv12_0 hv12_1 hv12_2 hm12 => ?_) (fun n12 ih12 x2 x3 x4 x5 hv12_0 hv12_1 hv12_2 hm12 => ?_)
    · exfalso; omega
    · show wp (m_x6_wordNumber_b12 s (m_x6_wordNumber_L12 s n12) x2 x3 x4 x5) _
      unfold m_x6_wordNumber_b12
      refine wp_rg (by omega) ?_
      refine wp_if (fun c1 => ?_) (fun c1 => ?_)
      · skip
        refine wp_rg (by omega) ?_
        refine wp_if (fun c2 => ?_) (fun c2 => ?_)
        · skip
          unfold m_x6_wordNumber_J123
          unfold m_x6_wordNumber_J124
          exact wp_some (by show (-1) ≤ (-1 : Int) ∧ (-1 : Int) ≤ 179; omega)
        · skip
          refine wp_rg (by omega) ?_
          refine wp_rg (by have : (0 : Int) ≤ gI s 109 ∧ gI s 109 ≤ 1600 := hRs.1 109; omega) ?_
          refine wp_if (fun c3 => ?_) (fun c3 => ?_)
          · skip
            unfold m_x6_wordNumber_J124
            exact wp_some (by show (-1) ≤ x2 ∧ x2 ≤ 179; have : (0 : Int) ≤ gI s 109 ∧ gI s 109 ≤ 1600 := hRs.1 109; omega)
          · skip
            unfold m_x6_wordNumber_J123
            unfold m_x6_wordNumber_J124
            exact wp_some (by show (-1) ≤ (-1 : Int) ∧ (-1 : Int) ≤ 179; have : (0 : Int) ≤ gI s 109 ∧ gI s 109 ≤ 1600 := hRs.1 109; omega)
      · skip
        refine wp_rdIn (by omega) (fun y26 ey26 => ?_)
        have by26 : (-2147483648 : Int) ≤ y26 ∧ y26 ≤ 2147483647 := ey26 ▸ hRs.2.1 6 _ (by show _ < 179; omega)
        refine wp_rg (by omega) ?_
        refine wp_if (fun c4 => ?_) (fun c4 => ?_)
        · skip
          refine wp_rg (by omega) ?_
          refine wp_if (fun c5 => ?_) (fun c5 => ?_)
          · skip
            unfold m_x6_wordNumber_J91
            unfold m_x6_wordNumber_J101
            exact ih12 (x2 + 1) (gI s 108) 1 (x5 + 1) (by show 0 ≤ (x2 + 1) ∧ (x2 + 1) ≤ (x5 + 1) ∧ (x5 + 1) ≤ 179; omega) (by show 0 ≤ (gI s 108) ∧ (gI s 108) ≤ 1600 + (x5 + 1); have : (0 : Int) ≤ gI s 108 ∧ gI s 108 ≤ 1600 := hRs.1 108; omega) (by show (1 : Int) = 0 ∨ (1 : Int) = 1; omega) (by omega)
          · skip
            refine wp_rg (by omega) ?_
            refine wp_rg (by have : (0 : Int) ≤ gI s 109 ∧ gI s 109 ≤ 1600 := hRs.1 109; omega) ?_
            refine wp_if (fun c6 => ?_) (fun c6 => ?_)
            · skip
              exact wp_some (by show (-1) ≤ x2 ∧ x2 ≤ 179; have : (0 : Int) ≤ gI s 109 ∧ gI s 109 ≤ 1600 := hRs.1 109; omega)
            · skip
              unfold m_x6_wordNumber_J91
              unfold m_x6_wordNumber_J101
              exact ih12 (x2 + 1) (gI s 108) 1 (x5 + 1) (by show 0 ≤ (x2 + 1) ∧ (x2 + 1) ≤ (x5 + 1) ∧ (x5 + 1) ≤ 179; have : (0 : Int) ≤ gI s 109 ∧ gI s 109 ≤ 1600 := hRs.1 109; omega) (by show 0 ≤ (gI s 108) ∧ (gI s 108) ≤ 1600 + (x5 + 1); have : (0 : Int) ≤ gI s 109 ∧ gI s 109 ≤ 1600 := hRs.1 109; have : (0 : Int) ≤ gI s 108 ∧ gI s 108 ≤ 1600 := hRs.1 108; omega) (by show (1 : Int) = 0 ∨ (1 : Int) = 1; have : (0 : Int) ≤ gI s 109 ∧ gI s 109 ≤ 1600 := hRs.1 109; omega) (by have : (0 : Int) ≤ gI s 109 ∧ gI s 109 ≤ 1600 := hRs.1 109; omega)
        · skip
          refine wp_rg (by omega) ?_
          refine wp_if (fun c7 => ?_) (fun c7 => ?_)
          · skip
            unfold m_x6_wordNumber_J69
            unfold m_x6_wordNumber_J70
            unfold m_x6_wordNumber_J101
            exact ih12 x2 (x3 + 1) 0 (x5 + 1) (by show 0 ≤ x2 ∧ x2 ≤ (x5 + 1) ∧ (x5 + 1) ≤ 179; omega) (by show 0 ≤ (x3 + 1) ∧ (x3 + 1) ≤ 1600 + (x5 + 1); omega) (by show (0 : Int) = 0 ∨ (0 : Int) = 1; omega) (by omega)
          · skip
            refine wp_rg (by omega) ?_
            refine wp_rg (by have : (0 : Int) ≤ gI s 109 ∧ gI s 109 ≤ 1600 := hRs.1 109; omega) ?_
            refine wp_if (fun c8 => ?_) (fun c8 => ?_)
            · skip
              unfold m_x6_wordNumber_J69
              unfold m_x6_wordNumber_J70
              unfold m_x6_wordNumber_J101
              exact ih12 x2 (x3 + 1) 0 (x5 + 1) (by show 0 ≤ x2 ∧ x2 ≤ (x5 + 1) ∧ (x5 + 1) ≤ 179; have : (0 : Int) ≤ gI s 109 ∧ gI s 109 ≤ 1600 := hRs.1 109; omega) (by show 0 ≤ (x3 + 1) ∧ (x3 + 1) ≤ 1600 + (x5 + 1); have : (0 : Int) ≤ gI s 109 ∧ gI s 109 ≤ 1600 := hRs.1 109; omega) (by show (0 : Int) = 0 ∨ (0 : Int) = 1; have : (0 : Int) ≤ gI s 109 ∧ gI s 109 ≤ 1600 := hRs.1 109; omega) (by have : (0 : Int) ≤ gI s 109 ∧ gI s 109 ≤ 1600 := hRs.1 109; omega)
            · skip
              refine wp_rdIn (by have : (0 : Int) ≤ gI s 109 ∧ gI s 109 ≤ 1600 := hRs.1 109; omega) (fun y39 ey39 => ?_)
              have by39 : (0 : Int) ≤ y39 ∧ y39 ≤ 255 := ey39 ▸ hRs.2.1 4 _ (by show _ < 1600; have : (0 : Int) ≤ gI s 109 ∧ gI s 109 ≤ 1600 := hRs.1 109; omega)
              refine wp_rdIn (by have : (0 : Int) ≤ gI s 109 ∧ gI s 109 ≤ 1600 := hRs.1 109; omega) (fun y40 ey40 => ?_)
              have by40 : (-2147483648 : Int) ≤ y40 ∧ y40 ≤ 2147483647 := ey40 ▸ hRs.2.1 6 _ (by show _ < 179; have : (0 : Int) ≤ gI s 109 ∧ gI s 109 ≤ 1600 := hRs.1 109; omega)
              refine wp_rg (by have : (0 : Int) ≤ gI s 109 ∧ gI s 109 ≤ 1600 := hRs.1 109; omega) ?_
              refine wp_rg (by have : (0 : Int) ≤ gI s 109 ∧ gI s 109 ≤ 1600 := hRs.1 109; omega) ?_
              refine wp_if (fun c9 => ?_) (fun c9 => ?_)
              · skip
                unfold m_x6_wordNumber_J70
                unfold m_x6_wordNumber_J101
                exact ih12 x2 (x3 + 1) 1 (x5 + 1) (by show 0 ≤ x2 ∧ x2 ≤ (x5 + 1) ∧ (x5 + 1) ≤ 179; have : (0 : Int) ≤ gI s 109 ∧ gI s 109 ≤ 1600 := hRs.1 109; omega) (by show 0 ≤ (x3 + 1) ∧ (x3 + 1) ≤ 1600 + (x5 + 1); have : (0 : Int) ≤ gI s 109 ∧ gI s 109 ≤ 1600 := hRs.1 109; omega) (by show (1 : Int) = 0 ∨ (1 : Int) = 1; have : (0 : Int) ≤ gI s 109 ∧ gI s 109 ≤ 1600 := hRs.1 109; omega) (by have : (0 : Int) ≤ gI s 109 ∧ gI s 109 ≤ 1600 := hRs.1 109; omega)
              · skip
                unfold m_x6_wordNumber_J69
                unfold m_x6_wordNumber_J70
                unfold m_x6_wordNumber_J101
                exact ih12 x2 (x3 + 1) 0 (x5 + 1) (by show 0 ≤ x2 ∧ x2 ≤ (x5 + 1) ∧ (x5 + 1) ≤ 179; have : (0 : Int) ≤ gI s 109 ∧ gI s 109 ≤ 1600 := hRs.1 109; omega) (by show 0 ≤ (x3 + 1) ∧ (x3 + 1) ≤ 1600 + (x5 + 1); have : (0 : Int) ≤ gI s 109 ∧ gI s 109 ≤ 1600 := hRs.1 109; omega) (by show (0 : Int) = 0 ∨ (0 : Int) = 1; have : (0 : Int) ≤ gI s 109 ∧ gI s 109 ≤ 1600 := hRs.1 109; omega) (by have : (0 : Int) ≤ gI s 109 ∧ gI s 109 ≤ 1600 := hRs.1 109; omega)
  exact L12 FU 0 (gI s 108) 1 0 (by show 0 ≤ (0 : Int) ∧ (0 : Int) ≤ (0 : Int) ∧ (0 : Int) ≤ 179; omega) (by show 0 ≤ (gI s 108) ∧ (gI s 108) ≤ 1600 + (0 : Int); have : (0 : Int) ≤ gI s 108 ∧ gI s 108 ≤ 1600 := hRs.1 108; omega) (by show (1 : Int) = 0 ∨ (1 : Int) = 1; omega) (by have := FU_big; have := FU_big2; omega)
set_option maxHeartbeats 1000000 in
theorem w_x6_isBlank {p0 : Int} {s : MS} (hRs : Rg s) (hp0 : R2 p0) : wp (m_x6_isBlank p0 s) (fun r => (r = 0 ∨ r = 1)) := by
  unfold m_x6_isBlank
  refine wp_rg (by omega) ?_
  refine wp_if (fun c1 => ?_) (fun c1 => ?_)
  · skip
    unfold m_x6_isBlank_J12
    unfold m_x6_isBlank_J17
    refine wp_bo (by omega) ?_
    exact wp_some (by show (1 : Int) = 0 ∨ (1 : Int) = 1; omega)
  · skip
    refine wp_rg (by omega) ?_
    refine wp_if (fun c2 => ?_) (fun c2 => ?_)
    · skip
      unfold m_x6_isBlank_J12
      unfold m_x6_isBlank_J17
      refine wp_bo (by omega) ?_
      exact wp_some (by show (1 : Int) = 0 ∨ (1 : Int) = 1; omega)
    · skip
      unfold m_x6_isBlank_J17
      refine wp_bo (by omega) ?_
      exact wp_some (by show (0 : Int) = 0 ∨ (0 : Int) = 1; omega)
set_option maxHeartbeats 1000000 in
theorem w_x6_advance {s : MS} (hRs : Rg s) : wp (m_x6_advance s) (fun o => (Rg o)) := by
  unfold m_x6_advance
  refine wp_rg (by have : (0 : Int) ≤ gI s 100 ∧ gI s 100 ≤ 5 := hRs.1 100; omega) ?_
  refine wp_if (fun c1 => ?_) (fun c1 => ?_)
  · skip
    refine wp_stn (fun s78 es78 => ?_)
    have hRs78 : Rg s78 := es78 ▸ Rg.uI hRs (by show (0 : Int) ≤ (gI s 109) ∧ (gI s 109) ≤ 1600; have : (0 : Int) ≤ gI s 100 ∧ gI s 100 ≤ 5 := hRs.1 100; have : (0 : Int) ≤ gI s 109 ∧ gI s 109 ≤ 1600 := hRs.1 109; omega)
    have L16 : ∀ (n : Nat) (s66 : MS), Rg s66 → (1600 - gI s66 108) < (n : Int) → wp (m_x6_advance_L16 n s66) (fun o => (Rg o)) := by
      refine fr_ind (fun s66 hRs66  hm16 => ?_) (fun n16 ih16 s66 hRs66  hm16 => ?_)
      · exfalso; have : (0 : Int) ≤ gI s66 108 ∧ gI s66 108 ≤ 1600 := hRs66.1 108; omega
      · show wp (m_x6_advance_b16 (m_x6_advance_L16 n16) s66) _
        unfold m_x6_advance_b16
        refine wp_rg (by have : (0 : Int) ≤ gI s 100 ∧ gI s 100 ≤ 5 := hRs.1 100; have : (0 : Int) ≤ gI s66 108 ∧ gI s66 108 ≤ 1600 := hRs66.1 108; omega) ?_
        refine wp_rg (by have : (0 : Int) ≤ gI s 100 ∧ gI s 100 ≤ 5 := hRs.1 100; have : (0 : Int) ≤ gI s66 61 ∧ gI s66 61 ≤ 1600 := hRs66.1 61; omega) ?_
        refine wp_if (fun c2 => ?_) (fun c2 => ?_)
        · skip
          unfold m_x6_advance_J61
          refine wp_stn (fun s46 es46 => ?_)
          have hRs46 : Rg s46 := es46 ▸ Rg.uI hRs66 (by show (0 : Int) ≤ (gI s66 108) ∧ (gI s66 108) ≤ 1600; have : (0 : Int) ≤ gI s66 61 ∧ gI s66 61 ≤ 1600 := hRs66.1 61; have : (0 : Int) ≤ gI s 100 ∧ gI s 100 ≤ 5 := hRs.1 100; have : (0 : Int) ≤ gI s66 108 ∧ gI s66 108 ≤ 1600 := hRs66.1 108; omega)
          refine wp_stn (fun s47 es47 => ?_)
          have hRs47 : Rg s47 := es47 ▸ Rg.uI hRs46 (by show (-1 : Int) ≤ (-1 : Int) ∧ (-1 : Int) ≤ 179; have : (0 : Int) ≤ gI s66 108 ∧ gI s66 108 ≤ 1600 := hRs66.1 108; have : (0 : Int) ≤ gI s66 61 ∧ gI s66 61 ≤ 1600 := hRs66.1 61; have : (0 : Int) ≤ gI s 100 ∧ gI s 100 ≤ 5 := hRs.1 100; omega)
          refine wp_bn (w_x9_at hRs47 (by show R2 (gI s47 108); have : (0 : Int) ≤ gI s66 108 ∧ gI s66 108 ≤ 1600 := hRs66.1 108; have : (0 : Int) ≤ gI s66 61 ∧ gI s66 61 ≤ 1600 := hRs66.1 61; have : (0 : Int) ≤ gI s 100 ∧ gI s 100 ≤ 5 := hRs.1 100; have : gI s47 108 = gI s46 108 := q_Ii es47 (by decide); have : gI s46 108 = gI s66 108 := q_Ii es46 (by decide); omega)) (fun r49 er49 hr49 => ?_)
          obtain ⟨hr49_0, hr49_1⟩ := hr49
          have hr49_0 : (-1) ≤ r49 ∧ r49 ≤ 255 := hr49_0
          have hr49_1 : r49 ≠ -1 → 0 ≤ (gI s47 108) ∧ (gI s47 108) < gI s47 61 := hr49_1
          refine wp_stn (fun s50 es50 => ?_)
          have hRs50 : Rg s50 := es50 ▸ Rg.uI hRs47 (by show (-1 : Int) ≤ r49 ∧ r49 ≤ 255; have : gI s47 61 = gI s46 61 := q_Ii es47 (by decide); have : gI s46 61 = gI s66 61 := q_Ii es46 (by decide); have : gI s47 108 = gI s46 108 := q_Ii es47 (by decide); have : gI s46 108 = gI s66 108 := q_Ii es46 (by decide); have : (0 : Int) ≤ gI s66 108 ∧ gI s66 108 ≤ 1600 := hRs66.1 108; have : (0 : Int) ≤ gI s66 61 ∧ gI s66 61 ≤ 1600 := hRs66.1 61; have : (0 : Int) ≤ gI s 100 ∧ gI s 100 ≤ 5 := hRs.1 100; omega)
          refine wp_rg (by have : gI s47 61 = gI s46 61 := q_Ii es47 (by decide); have : gI s46 61 = gI s66 61 := q_Ii es46 (by decide); have : gI s47 108 = gI s46 108 := q_Ii es47 (by decide); have : gI s46 108 = gI s66 108 := q_Ii es46 (by decide); have : (0 : Int) ≤ gI s66 108 ∧ gI s66 108 ≤ 1600 := hRs66.1 108; have : (0 : Int) ≤ gI s66 61 ∧ gI s66 61 ≤ 1600 := hRs66.1 61; have : (0 : Int) ≤ gI s 100 ∧ gI s 100 ≤ 5 := hRs.1 100; have : gI s50 111 = r49 := q_II es50; omega) ?_
          refine wp_if (fun c3 => ?_) (fun c3 => ?_)
          · skip
            refine wp_stn (fun s65 es65 => ?_)
            have hRs65 : Rg s65 := es65 ▸ Rg.uI hRs50 (by show (0 : Int) ≤ (0 : Int) ∧ (0 : Int) ≤ 4; have : gI s50 111 = r49 := q_II es50; have : gI s47 61 = gI s46 61 := q_Ii es47 (by decide); have : gI s46 61 = gI s66 61 := q_Ii es46 (by decide); have : gI s47 108 = gI s46 108 := q_Ii es47 (by decide); have : gI s46 108 = gI s66 108 := q_Ii es46 (by decide); have : (0 : Int) ≤ gI s66 108 ∧ gI s66 108 ≤ 1600 := hRs66.1 108; have : (0 : Int) ≤ gI s66 61 ∧ gI s66 61 ≤ 1600 := hRs66.1 61; have : (0 : Int) ≤ gI s 100 ∧ gI s 100 ≤ 5 := hRs.1 100; omega)
            unfold m_x6_advance_J251
            refine wp_bn (w_x9_at hRs65 (by show R2 ((gI s65 108) - 1); have : gI s50 111 = r49 := q_II es50; have : gI s47 61 = gI s46 61 := q_Ii es47 (by decide); have : gI s46 61 = gI s66 61 := q_Ii es46 (by decide); have : gI s47 108 = gI s46 108 := q_Ii es47 (by decide); have : gI s46 108 = gI s66 108 := q_Ii es46 (by decide); have : (0 : Int) ≤ gI s66 108 ∧ gI s66 108 ≤ 1600 := hRs66.1 108; have : (0 : Int) ≤ gI s66 61 ∧ gI s66 61 ≤ 1600 := hRs66.1 61; have : (0 : Int) ≤ gI s 100 ∧ gI s 100 ≤ 5 := hRs.1 100; have : gI s65 108 = gI s50 108 := q_Ii es65 (by decide); have : gI s50 108 = gI s47 108 := q_Ii es50 (by decide); omega)) (fun r16 er16 hr16 => ?_)
            obtain ⟨hr16_0, hr16_1⟩ := hr16
            have hr16_0 : (-1) ≤ r16 ∧ r16 ≤ 255 := hr16_0
            have hr16_1 : r16 ≠ -1 → 0 ≤ ((gI s65 108) - 1) ∧ ((gI s65 108) - 1) < gI s65 61 := hr16_1
            refine wp_rg (by have : gI s65 61 = gI s50 61 := q_Ii es65 (by decide); have : gI s50 61 = gI s47 61 := q_Ii es50 (by decide); have : gI s65 108 = gI s50 108 := q_Ii es65 (by decide); have : gI s50 108 = gI s47 108 := q_Ii es50 (by decide); have : gI s50 111 = r49 := q_II es50; have : gI s47 61 = gI s46 61 := q_Ii es47 (by decide); have : gI s46 61 = gI s66 61 := q_Ii es46 (by decide); have : gI s47 108 = gI s46 108 := q_Ii es47 (by decide); have : gI s46 108 = gI s66 108 := q_Ii es46 (by decide); have : (0 : Int) ≤ gI s66 108 ∧ gI s66 108 ≤ 1600 := hRs66.1 108; have : (0 : Int) ≤ gI s66 61 ∧ gI s66 61 ≤ 1600 := hRs66.1 61; have : (0 : Int) ≤ gI s 100 ∧ gI s 100 ≤ 5 := hRs.1 100; have : gI s65 107 = 0 := q_II es65; omega) ?_
            refine wp_if (fun c4 => ?_) (fun c4 => ?_)
            · skip
              unfold m_x6_advance_J281
              refine wp_bn (w_x6_isLetter hRs65 (by show R2 r16; have : gI s65 107 = 0 := q_II es65; have : gI s65 61 = gI s50 61 := q_Ii es65 (by decide); have : gI s50 61 = gI s47 61 := q_Ii es50 (by decide); have : gI s65 108 = gI s50 108 := q_Ii es65 (by decide); have : gI s50 108 = gI s47 108 := q_Ii es50 (by decide); have : gI s50 111 = r49 := q_II es50; have : gI s47 61 = gI s46 61 := q_Ii es47 (by decide); have : gI s46 61 = gI s66 61 := q_Ii es46 (by decide); have : gI s47 108 = gI s46 108 := q_Ii es47 (by decide); have : gI s46 108 = gI s66 108 := q_Ii es46 (by decide); have : (0 : Int) ≤ gI s66 108 ∧ gI s66 108 ≤ 1600 := hRs66.1 108; have : (0 : Int) ≤ gI s66 61 ∧ gI s66 61 ≤ 1600 := hRs66.1 61; have : (0 : Int) ≤ gI s 100 ∧ gI s 100 ≤ 5 := hRs.1 100; omega)) (fun r7 er7 hr7 => ?_)
              have hr7_0 := hr7
              have hr7_0 : r7 = 0 ∨ r7 = 1 := hr7_0
              refine wp_rg (by have : gI s65 107 = 0 := q_II es65; have : gI s65 61 = gI s50 61 := q_Ii es65 (by decide); have : gI s50 61 = gI s47 61 := q_Ii es50 (by decide); have : gI s65 108 = gI s50 108 := q_Ii es65 (by decide); have : gI s50 108 = gI s47 108 := q_Ii es50 (by decide); have : gI s50 111 = r49 := q_II es50; have : gI s47 61 = gI s46 61 := q_Ii es47 (by decide); have : gI s46 61 = gI s66 61 := q_Ii es46 (by decide); have : gI s47 108 = gI s46 108 := q_Ii es47 (by decide); have : gI s46 108 = gI s66 108 := q_Ii es46 (by decide); have : (0 : Int) ≤ gI s66 108 ∧ gI s66 108 ≤ 1600 := hRs66.1 108; have : (0 : Int) ≤ gI s66 61 ∧ gI s66 61 ≤ 1600 := hRs66.1 61; have : (0 : Int) ≤ gI s 100 ∧ gI s 100 ≤ 5 := hRs.1 100; omega) ?_
              refine wp_if (fun c5 => ?_) (fun c5 => ?_)
              · skip
                refine wp_bn (w_x6_isDigit hRs65 (by show R2 r16; have : gI s65 107 = 0 := q_II es65; have : gI s65 61 = gI s50 61 := q_Ii es65 (by decide); have : gI s50 61 = gI s47 61 := q_Ii es50 (by decide); have : gI s65 108 = gI s50 108 := q_Ii es65 (by decide); have : gI s50 108 = gI s47 108 := q_Ii es50 (by decide); have : gI s50 111 = r49 := q_II es50; have : gI s47 61 = gI s46 61 := q_Ii es47 (by decide); have : gI s46 61 = gI s66 61 := q_Ii es46 (by decide); have : gI s47 108 = gI s46 108 := q_Ii es47 (by decide); have : gI s46 108 = gI s66 108 := q_Ii es46 (by decide); have : (0 : Int) ≤ gI s66 108 ∧ gI s66 108 ≤ 1600 := hRs66.1 108; have : (0 : Int) ≤ gI s66 61 ∧ gI s66 61 ≤ 1600 := hRs66.1 61; have : (0 : Int) ≤ gI s 100 ∧ gI s 100 ≤ 5 := hRs.1 100; omega)) (fun r11 er11 hr11 => ?_)
                have hr11_0 := hr11
                have hr11_0 : r11 = 0 ∨ r11 = 1 := hr11_0
                refine wp_rg (by have : gI s65 107 = 0 := q_II es65; have : gI s65 61 = gI s50 61 := q_Ii es65 (by decide); have : gI s50 61 = gI s47 61 := q_Ii es50 (by decide); have : gI s65 108 = gI s50 108 := q_Ii es65 (by decide); have : gI s50 108 = gI s47 108 := q_Ii es50 (by decide); have : gI s50 111 = r49 := q_II es50; have : gI s47 61 = gI s46 61 := q_Ii es47 (by decide); have : gI s46 61 = gI s66 61 := q_Ii es46 (by decide); have : gI s47 108 = gI s46 108 := q_Ii es47 (by decide); have : gI s46 108 = gI s66 108 := q_Ii es46 (by decide); have : (0 : Int) ≤ gI s66 108 ∧ gI s66 108 ≤ 1600 := hRs66.1 108; have : (0 : Int) ≤ gI s66 61 ∧ gI s66 61 ≤ 1600 := hRs66.1 61; have : (0 : Int) ≤ gI s 100 ∧ gI s 100 ≤ 5 := hRs.1 100; omega) ?_
                refine wp_if (fun c6 => ?_) (fun c6 => ?_)
                · skip
                  unfold m_x6_advance_J300
                  exact wp_some (hRs65)
                · skip
                  unfold m_x6_advance_J295
                  refine wp_stn (fun s3 es3 => ?_)
                  have hRs3 : Rg s3 := es3 ▸ Rg.uI hRs65 (by show (0 : Int) ≤ (4 : Int) ∧ (4 : Int) ≤ 4; have : gI s65 107 = 0 := q_II es65; have : gI s65 61 = gI s50 61 := q_Ii es65 (by decide); have : gI s50 61 = gI s47 61 := q_Ii es50 (by decide); have : gI s65 108 = gI s50 108 := q_Ii es65 (by decide); have : gI s50 108 = gI s47 108 := q_Ii es50 (by decide); have : gI s50 111 = r49 := q_II es50; have : gI s47 61 = gI s46 61 := q_Ii es47 (by decide); have : gI s46 61 = gI s66 61 := q_Ii es46 (by decide); have : gI s47 108 = gI s46 108 := q_Ii es47 (by decide); have : gI s46 108 = gI s66 108 := q_Ii es46 (by decide); have : (0 : Int) ≤ gI s66 108 ∧ gI s66 108 ≤ 1600 := hRs66.1 108; have : (0 : Int) ≤ gI s66 61 ∧ gI s66 61 ≤ 1600 := hRs66.1 61; have : (0 : Int) ≤ gI s 100 ∧ gI s 100 ≤ 5 := hRs.1 100; omega)
                  unfold m_x6_advance_J300
                  exact wp_some (hRs3)
              · skip
                unfold m_x6_advance_J295
                refine wp_stn (fun s3 es3 => ?_)
                have hRs3 : Rg s3 := es3 ▸ Rg.uI hRs65 (by show (0 : Int) ≤ (4 : Int) ∧ (4 : Int) ≤ 4; have : gI s65 107 = 0 := q_II es65; have : gI s65 61 = gI s50 61 := q_Ii es65 (by decide); have : gI s50 61 = gI s47 61 := q_Ii es50 (by decide); have : gI s65 108 = gI s50 108 := q_Ii es65 (by decide); have : gI s50 108 = gI s47 108 := q_Ii es50 (by decide); have : gI s50 111 = r49 := q_II es50; have : gI s47 61 = gI s46 61 := q_Ii es47 (by decide); have : gI s46 61 = gI s66 61 := q_Ii es46 (by decide); have : gI s47 108 = gI s46 108 := q_Ii es47 (by decide); have : gI s46 108 = gI s66 108 := q_Ii es46 (by decide); have : (0 : Int) ≤ gI s66 108 ∧ gI s66 108 ≤ 1600 := hRs66.1 108; have : (0 : Int) ≤ gI s66 61 ∧ gI s66 61 ≤ 1600 := hRs66.1 61; have : (0 : Int) ≤ gI s 100 ∧ gI s 100 ≤ 5 := hRs.1 100; omega)
                unfold m_x6_advance_J300
                exact wp_some (hRs3)
            · skip
              refine wp_rg (by have : gI s65 61 = gI s50 61 := q_Ii es65 (by decide); have : gI s50 61 = gI s47 61 := q_Ii es50 (by decide); have : gI s65 108 = gI s50 108 := q_Ii es65 (by decide); have : gI s50 108 = gI s47 108 := q_Ii es50 (by decide); have : gI s50 111 = r49 := q_II es50; have : gI s47 61 = gI s46 61 := q_Ii es47 (by decide); have : gI s46 61 = gI s66 61 := q_Ii es46 (by decide); have : gI s47 108 = gI s46 108 := q_Ii es47 (by decide); have : gI s46 108 = gI s66 108 := q_Ii es46 (by decide); have : (0 : Int) ≤ gI s66 108 ∧ gI s66 108 ≤ 1600 := hRs66.1 108; have : (0 : Int) ≤ gI s66 61 ∧ gI s66 61 ≤ 1600 := hRs66.1 61; have : (0 : Int) ≤ gI s 100 ∧ gI s 100 ≤ 5 := hRs.1 100; have : gI s65 107 = 0 := q_II es65; omega) ?_
              refine wp_if (fun c7 => ?_) (fun c7 => ?_)
              · skip
                unfold m_x6_advance_J281
                refine wp_bn (w_x6_isLetter hRs65 (by show R2 r16; have : gI s65 107 = 0 := q_II es65; have : gI s65 61 = gI s50 61 := q_Ii es65 (by decide); have : gI s50 61 = gI s47 61 := q_Ii es50 (by decide); have : gI s65 108 = gI s50 108 := q_Ii es65 (by decide); have : gI s50 108 = gI s47 108 := q_Ii es50 (by decide); have : gI s50 111 = r49 := q_II es50; have : gI s47 61 = gI s46 61 := q_Ii es47 (by decide); have : gI s46 61 = gI s66 61 := q_Ii es46 (by decide); have : gI s47 108 = gI s46 108 := q_Ii es47 (by decide); have : gI s46 108 = gI s66 108 := q_Ii es46 (by decide); have : (0 : Int) ≤ gI s66 108 ∧ gI s66 108 ≤ 1600 := hRs66.1 108; have : (0 : Int) ≤ gI s66 61 ∧ gI s66 61 ≤ 1600 := hRs66.1 61; have : (0 : Int) ≤ gI s 100 ∧ gI s 100 ≤ 5 := hRs.1 100; omega)) (fun r7 er7 hr7 => ?_)
                have hr7_0 := hr7
                have hr7_0 : r7 = 0 ∨ r7 = 1 := hr7_0
                refine wp_rg (by have : gI s65 107 = 0 := q_II es65; have : gI s65 61 = gI s50 61 := q_Ii es65 (by decide); have : gI s50 61 = gI s47 61 := q_Ii es50 (by decide); have : gI s65 108 = gI s50 108 := q_Ii es65 (by decide); have : gI s50 108 = gI s47 108 := q_Ii es50 (by decide); have : gI s50 111 = r49 := q_II es50; have : gI s47 61 = gI s46 61 := q_Ii es47 (by decide); have : gI s46 61 = gI s66 61 := q_Ii es46 (by decide); have : gI s47 108 = gI s46 108 := q_Ii es47 (by decide); have : gI s46 108 = gI s66 108 := q_Ii es46 (by decide); have : (0 : Int) ≤ gI s66 108 ∧ gI s66 108 ≤ 1600 := hRs66.1 108; have : (0 : Int) ≤ gI s66 61 ∧ gI s66 61 ≤ 1600 := hRs66.1 61; have : (0 : Int) ≤ gI s 100 ∧ gI s 100 ≤ 5 := hRs.1 100; omega) ?_
                refine wp_if (fun c8 => ?_) (fun c8 => ?_)
                · skip
                  refine wp_bn (w_x6_isDigit hRs65 (by show R2 r16; have : gI s65 107 = 0 := q_II es65; have : gI s65 61 = gI s50 61 := q_Ii es65 (by decide); have : gI s50 61 = gI s47 61 := q_Ii es50 (by decide); have : gI s65 108 = gI s50 108 := q_Ii es65 (by decide); have : gI s50 108 = gI s47 108 := q_Ii es50 (by decide); have : gI s50 111 = r49 := q_II es50; have : gI s47 61 = gI s46 61 := q_Ii es47 (by decide); have : gI s46 61 = gI s66 61 := q_Ii es46 (by decide); have : gI s47 108 = gI s46 108 := q_Ii es47 (by decide); have : gI s46 108 = gI s66 108 := q_Ii es46 (by decide); have : (0 : Int) ≤ gI s66 108 ∧ gI s66 108 ≤ 1600 := hRs66.1 108; have : (0 : Int) ≤ gI s66 61 ∧ gI s66 61 ≤ 1600 := hRs66.1 61; have : (0 : Int) ≤ gI s 100 ∧ gI s 100 ≤ 5 := hRs.1 100; omega)) (fun r11 er11 hr11 => ?_)
                  have hr11_0 := hr11
                  have hr11_0 : r11 = 0 ∨ r11 = 1 := hr11_0
                  refine wp_rg (by have : gI s65 107 = 0 := q_II es65; have : gI s65 61 = gI s50 61 := q_Ii es65 (by decide); have : gI s50 61 = gI s47 61 := q_Ii es50 (by decide); have : gI s65 108 = gI s50 108 := q_Ii es65 (by decide); have : gI s50 108 = gI s47 108 := q_Ii es50 (by decide); have : gI s50 111 = r49 := q_II es50; have : gI s47 61 = gI s46 61 := q_Ii es47 (by decide); have : gI s46 61 = gI s66 61 := q_Ii es46 (by decide); have : gI s47 108 = gI s46 108 := q_Ii es47 (by decide); have : gI s46 108 = gI s66 108 := q_Ii es46 (by decide); have : (0 : Int) ≤ gI s66 108 ∧ gI s66 108 ≤ 1600 := hRs66.1 108; have : (0 : Int) ≤ gI s66 61 ∧ gI s66 61 ≤ 1600 := hRs66.1 61; have : (0 : Int) ≤ gI s 100 ∧ gI s 100 ≤ 5 := hRs.1 100; omega) ?_
                  refine wp_if (fun c9 => ?_) (fun c9 => ?_)
                  · skip
                    unfold m_x6_advance_J300
                    exact wp_some (hRs65)
                  · skip
                    unfold m_x6_advance_J295
                    refine wp_stn (fun s3 es3 => ?_)
                    have hRs3 : Rg s3 := es3 ▸ Rg.uI hRs65 (by show (0 : Int) ≤ (4 : Int) ∧ (4 : Int) ≤ 4; have : gI s65 107 = 0 := q_II es65; have : gI s65 61 = gI s50 61 := q_Ii es65 (by decide); have : gI s50 61 = gI s47 61 := q_Ii es50 (by decide); have : gI s65 108 = gI s50 108 := q_Ii es65 (by decide); have : gI s50 108 = gI s47 108 := q_Ii es50 (by decide); have : gI s50 111 = r49 := q_II es50; have : gI s47 61 = gI s46 61 := q_Ii es47 (by decide); have : gI s46 61 = gI s66 61 := q_Ii es46 (by decide); have : gI s47 108 = gI s46 108 := q_Ii es47 (by decide); have : gI s46 108 = gI s66 108 := q_Ii es46 (by decide); have : (0 : Int) ≤ gI s66 108 ∧ gI s66 108 ≤ 1600 := hRs66.1 108; have : (0 : Int) ≤ gI s66 61 ∧ gI s66 61 ≤ 1600 := hRs66.1 61; have : (0 : Int) ≤ gI s 100 ∧ gI s 100 ≤ 5 := hRs.1 100; omega)
                    unfold m_x6_advance_J300
                    exact wp_some (hRs3)
                · skip
                  unfold m_x6_advance_J295
                  refine wp_stn (fun s3 es3 => ?_)
                  have hRs3 : Rg s3 := es3 ▸ Rg.uI hRs65 (by show (0 : Int) ≤ (4 : Int) ∧ (4 : Int) ≤ 4; have : gI s65 107 = 0 := q_II es65; have : gI s65 61 = gI s50 61 := q_Ii es65 (by decide); have : gI s50 61 = gI s47 61 := q_Ii es50 (by decide); have : gI s65 108 = gI s50 108 := q_Ii es65 (by decide); have : gI s50 108 = gI s47 108 := q_Ii es50 (by decide); have : gI s50 111 = r49 := q_II es50; have : gI s47 61 = gI s46 61 := q_Ii es47 (by decide); have : gI s46 61 = gI s66 61 := q_Ii es46 (by decide); have : gI s47 108 = gI s46 108 := q_Ii es47 (by decide); have : gI s46 108 = gI s66 108 := q_Ii es46 (by decide); have : (0 : Int) ≤ gI s66 108 ∧ gI s66 108 ≤ 1600 := hRs66.1 108; have : (0 : Int) ≤ gI s66 61 ∧ gI s66 61 ≤ 1600 := hRs66.1 61; have : (0 : Int) ≤ gI s 100 ∧ gI s 100 ≤ 5 := hRs.1 100; omega)
                  unfold m_x6_advance_J300
                  exact wp_some (hRs3)
              · skip
                unfold m_x6_advance_J300
                exact wp_some (hRs65)
          · skip
            refine wp_bn (w_x6_isLetter hRs50 (by show R2 (gI s50 111); have : gI s47 61 = gI s46 61 := q_Ii es47 (by decide); have : gI s46 61 = gI s66 61 := q_Ii es46 (by decide); have : gI s47 108 = gI s46 108 := q_Ii es47 (by decide); have : gI s46 108 = gI s66 108 := q_Ii es46 (by decide); have : (0 : Int) ≤ gI s66 108 ∧ gI s66 108 ≤ 1600 := hRs66.1 108; have : (0 : Int) ≤ gI s66 61 ∧ gI s66 61 ≤ 1600 := hRs66.1 61; have : (0 : Int) ≤ gI s 100 ∧ gI s 100 ≤ 5 := hRs.1 100; have : gI s50 111 = r49 := q_II es50; omega)) (fun r54 er54 hr54 => ?_)
            have hr54_0 := hr54
            have hr54_0 : r54 = 0 ∨ r54 = 1 := hr54_0
            refine wp_rg (by have : gI s50 111 = r49 := q_II es50; have : gI s47 61 = gI s46 61 := q_Ii es47 (by decide); have : gI s46 61 = gI s66 61 := q_Ii es46 (by decide); have : gI s47 108 = gI s46 108 := q_Ii es47 (by decide); have : gI s46 108 = gI s66 108 := q_Ii es46 (by decide); have : (0 : Int) ≤ gI s66 108 ∧ gI s66 108 ≤ 1600 := hRs66.1 108; have : (0 : Int) ≤ gI s66 61 ∧ gI s66 61 ≤ 1600 := hRs66.1 61; have : (0 : Int) ≤ gI s 100 ∧ gI s 100 ≤ 5 := hRs.1 100; omega) ?_
            refine wp_if (fun c10 => ?_) (fun c10 => ?_)
            · skip
              refine wp_bn (w_x6_isDigit hRs50 (by show R2 (gI s50 111); have : gI s47 61 = gI s46 61 := q_Ii es47 (by decide); have : gI s46 61 = gI s66 61 := q_Ii es46 (by decide); have : gI s47 108 = gI s46 108 := q_Ii es47 (by decide); have : gI s46 108 = gI s66 108 := q_Ii es46 (by decide); have : (0 : Int) ≤ gI s66 108 ∧ gI s66 108 ≤ 1600 := hRs66.1 108; have : (0 : Int) ≤ gI s66 61 ∧ gI s66 61 ≤ 1600 := hRs66.1 61; have : (0 : Int) ≤ gI s 100 ∧ gI s 100 ≤ 5 := hRs.1 100; have : gI s50 111 = r49 := q_II es50; omega)) (fun r58 er58 hr58 => ?_)
              have hr58_0 := hr58
              have hr58_0 : r58 = 0 ∨ r58 = 1 := hr58_0
              refine wp_rg (by have : gI s50 111 = r49 := q_II es50; have : gI s47 61 = gI s46 61 := q_Ii es47 (by decide); have : gI s46 61 = gI s66 61 := q_Ii es46 (by decide); have : gI s47 108 = gI s46 108 := q_Ii es47 (by decide); have : gI s46 108 = gI s66 108 := q_Ii es46 (by decide); have : (0 : Int) ≤ gI s66 108 ∧ gI s66 108 ≤ 1600 := hRs66.1 108; have : (0 : Int) ≤ gI s66 61 ∧ gI s66 61 ≤ 1600 := hRs66.1 61; have : (0 : Int) ≤ gI s 100 ∧ gI s 100 ≤ 5 := hRs.1 100; omega) ?_
              refine wp_if (fun c11 => ?_) (fun c11 => ?_)
              · skip
                refine wp_stn (fun s61 es61 => ?_)
                have hRs61 : Rg s61 := es61 ▸ Rg.uI hRs50 (by show (0 : Int) ≤ (3 : Int) ∧ (3 : Int) ≤ 4; have : gI s50 111 = r49 := q_II es50; have : gI s47 61 = gI s46 61 := q_Ii es47 (by decide); have : gI s46 61 = gI s66 61 := q_Ii es46 (by decide); have : gI s47 108 = gI s46 108 := q_Ii es47 (by decide); have : gI s46 108 = gI s66 108 := q_Ii es46 (by decide); have : (0 : Int) ≤ gI s66 108 ∧ gI s66 108 ≤ 1600 := hRs66.1 108; have : (0 : Int) ≤ gI s66 61 ∧ gI s66 61 ≤ 1600 := hRs66.1 61; have : (0 : Int) ≤ gI s 100 ∧ gI s 100 ≤ 5 := hRs.1 100; omega)
                refine wp_stn (fun s62 es62 => ?_)
                have hRs62 : Rg s62 := es62 ▸ Rg.uI hRs61 (by show (0 : Int) ≤ ((gI s61 109) + 1) ∧ ((gI s61 109) + 1) ≤ 1600; have : gI s50 111 = r49 := q_II es50; have : gI s47 61 = gI s46 61 := q_Ii es47 (by decide); have : gI s46 61 = gI s66 61 := q_Ii es46 (by decide); have : gI s47 108 = gI s46 108 := q_Ii es47 (by decide); have : gI s46 108 = gI s66 108 := q_Ii es46 (by decide); have : (0 : Int) ≤ gI s66 108 ∧ gI s66 108 ≤ 1600 := hRs66.1 108; have : (0 : Int) ≤ gI s66 61 ∧ gI s66 61 ≤ 1600 := hRs66.1 61; have : (0 : Int) ≤ gI s 100 ∧ gI s 100 ≤ 5 := hRs.1 100; have : gI s61 109 = gI s50 109 := q_Ii es61 (by decide); have : gI s50 109 = gI s47 109 := q_Ii es50 (by decide); have : gI s47 109 = gI s46 109 := q_Ii es47 (by decide); have : gI s46 109 = gI s66 108 := q_II es46; omega)
                unfold m_x6_advance_J251
                refine wp_bn (w_x9_at hRs62 (by show R2 ((gI s62 108) - 1); have : gI s50 111 = r49 := q_II es50; have : gI s47 61 = gI s46 61 := q_Ii es47 (by decide); have : gI s46 61 = gI s66 61 := q_Ii es46 (by decide); have : gI s47 108 = gI s46 108 := q_Ii es47 (by decide); have : gI s46 108 = gI s66 108 := q_Ii es46 (by decide); have : (0 : Int) ≤ gI s66 108 ∧ gI s66 108 ≤ 1600 := hRs66.1 108; have : (0 : Int) ≤ gI s66 61 ∧ gI s66 61 ≤ 1600 := hRs66.1 61; have : (0 : Int) ≤ gI s 100 ∧ gI s 100 ≤ 5 := hRs.1 100; have : gI s62 108 = gI s61 108 := q_Ii es62 (by decide); have : gI s61 108 = gI s50 108 := q_Ii es61 (by decide); have : gI s50 108 = gI s47 108 := q_Ii es50 (by decide); omega)) (fun r16 er16 hr16 => ?_)
                obtain ⟨hr16_0, hr16_1⟩ := hr16
                have hr16_0 : (-1) ≤ r16 ∧ r16 ≤ 255 := hr16_0
                have hr16_1 : r16 ≠ -1 → 0 ≤ ((gI s62 108) - 1) ∧ ((gI s62 108) - 1) < gI s62 61 := hr16_1
                refine wp_rg (by have : gI s62 61 = gI s61 61 := q_Ii es62 (by decide); have : gI s61 61 = gI s50 61 := q_Ii es61 (by decide); have : gI s50 61 = gI s47 61 := q_Ii es50 (by decide); have : gI s62 108 = gI s61 108 := q_Ii es62 (by decide); have : gI s61 108 = gI s50 108 := q_Ii es61 (by decide); have : gI s50 108 = gI s47 108 := q_Ii es50 (by decide); have : gI s50 111 = r49 := q_II es50; have : gI s47 61 = gI s46 61 := q_Ii es47 (by decide); have : gI s46 61 = gI s66 61 := q_Ii es46 (by decide); have : gI s47 108 = gI s46 108 := q_Ii es47 (by decide); have : gI s46 108 = gI s66 108 := q_Ii es46 (by decide); have : (0 : Int) ≤ gI s66 108 ∧ gI s66 108 ≤ 1600 := hRs66.1 108; have : (0 : Int) ≤ gI s66 61 ∧ gI s66 61 ≤ 1600 := hRs66.1 61; have : (0 : Int) ≤ gI s 100 ∧ gI s 100 ≤ 5 := hRs.1 100; have : gI s62 107 = gI s61 107 := q_Ii es62 (by decide); have : gI s61 107 = 3 := q_II es61; omega) ?_
                refine wp_if (fun c12 => ?_) (fun c12 => ?_)
                · skip
                  unfold m_x6_advance_J281
                  refine wp_bn (w_x6_isLetter hRs62 (by show R2 r16; have : gI s62 107 = gI s61 107 := q_Ii es62 (by decide); have : gI s61 107 = 3 := q_II es61; have : gI s62 61 = gI s61 61 := q_Ii es62 (by decide); have : gI s61 61 = gI s50 61 := q_Ii es61 (by decide); have : gI s50 61 = gI s47 61 := q_Ii es50 (by decide); have : gI s62 108 = gI s61 108 := q_Ii es62 (by decide); have : gI s61 108 = gI s50 108 := q_Ii es61 (by decide); have : gI s50 108 = gI s47 108 := q_Ii es50 (by decide); have : gI s50 111 = r49 := q_II es50; have : gI s47 61 = gI s46 61 := q_Ii es47 (by decide); have : gI s46 61 = gI s66 61 := q_Ii es46 (by decide); have : gI s47 108 = gI s46 108 := q_Ii es47 (by decide); have : gI s46 108 = gI s66 108 := q_Ii es46 (by decide); have : (0 : Int) ≤ gI s66 108 ∧ gI s66 108 ≤ 1600 := hRs66.1 108; have : (0 : Int) ≤ gI s66 61 ∧ gI s66 61 ≤ 1600 := hRs66.1 61; have : (0 : Int) ≤ gI s 100 ∧ gI s 100 ≤ 5 := hRs.1 100; omega)) (fun r7 er7 hr7 => ?_)
                  have hr7_0 := hr7
                  have hr7_0 : r7 = 0 ∨ r7 = 1 := hr7_0
                  refine wp_rg (by have : gI s62 107 = gI s61 107 := q_Ii es62 (by decide); have : gI s61 107 = 3 := q_II es61; have : gI s62 61 = gI s61 61 := q_Ii es62 (by decide); have : gI s61 61 = gI s50 61 := q_Ii es61 (by decide); have : gI s50 61 = gI s47 61 := q_Ii es50 (by decide); have : gI s62 108 = gI s61 108 := q_Ii es62 (by decide); have : gI s61 108 = gI s50 108 := q_Ii es61 (by decide); have : gI s50 108 = gI s47 108 := q_Ii es50 (by decide); have : gI s50 111 = r49 := q_II es50; have : gI s47 61 = gI s46 61 := q_Ii es47 (by decide); have : gI s46 61 = gI s66 61 := q_Ii es46 (by decide); have : gI s47 108 = gI s46 108 := q_Ii es47 (by decide); have : gI s46 108 = gI s66 108 := q_Ii es46 (by decide); have : (0 : Int) ≤ gI s66 108 ∧ gI s66 108 ≤ 1600 := hRs66.1 108; have : (0 : Int) ≤ gI s66 61 ∧ gI s66 61 ≤ 1600 := hRs66.1 61; have : (0 : Int) ≤ gI s 100 ∧ gI s 100 ≤ 5 := hRs.1 100; omega) ?_
                  refine wp_if (fun c13 => ?_) (fun c13 => ?_)
                  · skip
                    refine wp_bn (w_x6_isDigit hRs62 (by show R2 r16; have : gI s62 107 = gI s61 107 := q_Ii es62 (by decide); have : gI s61 107 = 3 := q_II es61; have : gI s62 61 = gI s61 61 := q_Ii es62 (by decide); have : gI s61 61 = gI s50 61 := q_Ii es61 (by decide); have : gI s50 61 = gI s47 61 := q_Ii es50 (by decide); have : gI s62 108 = gI s61 108 := q_Ii es62 (by decide); have : gI s61 108 = gI s50 108 := q_Ii es61 (by decide); have : gI s50 108 = gI s47 108 := q_Ii es50 (by decide); have : gI s50 111 = r49 := q_II es50; have : gI s47 61 = gI s46 61 := q_Ii es47 (by decide); have : gI s46 61 = gI s66 61 := q_Ii es46 (by decide); have : gI s47 108 = gI s46 108 := q_Ii es47 (by decide); have : gI s46 108 = gI s66 108 := q_Ii es46 (by decide); have : (0 : Int) ≤ gI s66 108 ∧ gI s66 108 ≤ 1600 := hRs66.1 108; have : (0 : Int) ≤ gI s66 61 ∧ gI s66 61 ≤ 1600 := hRs66.1 61; have : (0 : Int) ≤ gI s 100 ∧ gI s 100 ≤ 5 := hRs.1 100; omega)) (fun r11 er11 hr11 => ?_)
                    have hr11_0 := hr11
                    have hr11_0 : r11 = 0 ∨ r11 = 1 := hr11_0
                    refine wp_rg (by have : gI s62 107 = gI s61 107 := q_Ii es62 (by decide); have : gI s61 107 = 3 := q_II es61; have : gI s62 61 = gI s61 61 := q_Ii es62 (by decide); have : gI s61 61 = gI s50 61 := q_Ii es61 (by decide); have : gI s50 61 = gI s47 61 := q_Ii es50 (by decide); have : gI s62 108 = gI s61 108 := q_Ii es62 (by decide); have : gI s61 108 = gI s50 108 := q_Ii es61 (by decide); have : gI s50 108 = gI s47 108 := q_Ii es50 (by decide); have : gI s50 111 = r49 := q_II es50; have : gI s47 61 = gI s46 61 := q_Ii es47 (by decide); have : gI s46 61 = gI s66 61 := q_Ii es46 (by decide); have : gI s47 108 = gI s46 108 := q_Ii es47 (by decide); have : gI s46 108 = gI s66 108 := q_Ii es46 (by decide); have : (0 : Int) ≤ gI s66 108 ∧ gI s66 108 ≤ 1600 := hRs66.1 108; have : (0 : Int) ≤ gI s66 61 ∧ gI s66 61 ≤ 1600 := hRs66.1 61; have : (0 : Int) ≤ gI s 100 ∧ gI s 100 ≤ 5 := hRs.1 100; omega) ?_
                    refine wp_if (fun c14 => ?_) (fun c14 => ?_)
                    · skip
                      unfold m_x6_advance_J300
                      exact wp_some (hRs62)
                    · skip
                      unfold m_x6_advance_J295
                      refine wp_stn (fun s3 es3 => ?_)
                      have hRs3 : Rg s3 := es3 ▸ Rg.uI hRs62 (by show (0 : Int) ≤ (4 : Int) ∧ (4 : Int) ≤ 4; have : gI s62 107 = gI s61 107 := q_Ii es62 (by decide); have : gI s61 107 = 3 := q_II es61; have : gI s62 61 = gI s61 61 := q_Ii es62 (by decide); have : gI s61 61 = gI s50 61 := q_Ii es61 (by decide); have : gI s50 61 = gI s47 61 := q_Ii es50 (by decide); have : gI s62 108 = gI s61 108 := q_Ii es62 (by decide); have : gI s61 108 = gI s50 108 := q_Ii es61 (by decide); have : gI s50 108 = gI s47 108 := q_Ii es50 (by decide); have : gI s50 111 = r49 := q_II es50; have : gI s47 61 = gI s46 61 := q_Ii es47 (by decide); have : gI s46 61 = gI s66 61 := q_Ii es46 (by decide); have : gI s47 108 = gI s46 108 := q_Ii es47 (by decide); have : gI s46 108 = gI s66 108 := q_Ii es46 (by decide); have : (0 : Int) ≤ gI s66 108 ∧ gI s66 108 ≤ 1600 := hRs66.1 108; have : (0 : Int) ≤ gI s66 61 ∧ gI s66 61 ≤ 1600 := hRs66.1 61; have : (0 : Int) ≤ gI s 100 ∧ gI s 100 ≤ 5 := hRs.1 100; omega)
                      unfold m_x6_advance_J300
                      exact wp_some (hRs3)
                  · skip
                    unfold m_x6_advance_J295
                    refine wp_stn (fun s3 es3 => ?_)
                    have hRs3 : Rg s3 := es3 ▸ Rg.uI hRs62 (by show (0 : Int) ≤ (4 : Int) ∧ (4 : Int) ≤ 4; have : gI s62 107 = gI s61 107 := q_Ii es62 (by decide); have : gI s61 107 = 3 := q_II es61; have : gI s62 61 = gI s61 61 := q_Ii es62 (by decide); have : gI s61 61 = gI s50 61 := q_Ii es61 (by decide); have : gI s50 61 = gI s47 61 := q_Ii es50 (by decide); have : gI s62 108 = gI s61 108 := q_Ii es62 (by decide); have : gI s61 108 = gI s50 108 := q_Ii es61 (by decide); have : gI s50 108 = gI s47 108 := q_Ii es50 (by decide); have : gI s50 111 = r49 := q_II es50; have : gI s47 61 = gI s46 61 := q_Ii es47 (by decide); have : gI s46 61 = gI s66 61 := q_Ii es46 (by decide); have : gI s47 108 = gI s46 108 := q_Ii es47 (by decide); have : gI s46 108 = gI s66 108 := q_Ii es46 (by decide); have : (0 : Int) ≤ gI s66 108 ∧ gI s66 108 ≤ 1600 := hRs66.1 108; have : (0 : Int) ≤ gI s66 61 ∧ gI s66 61 ≤ 1600 := hRs66.1 61; have : (0 : Int) ≤ gI s 100 ∧ gI s 100 ≤ 5 := hRs.1 100; omega)
                    unfold m_x6_advance_J300
                    exact wp_some (hRs3)
                · skip
                  refine wp_rg (by have : gI s62 61 = gI s61 61 := q_Ii es62 (by decide); have : gI s61 61 = gI s50 61 := q_Ii es61 (by decide); have : gI s50 61 = gI s47 61 := q_Ii es50 (by decide); have : gI s62 108 = gI s61 108 := q_Ii es62 (by decide); have : gI s61 108 = gI s50 108 := q_Ii es61 (by decide); have : gI s50 108 = gI s47 108 := q_Ii es50 (by decide); have : gI s50 111 = r49 := q_II es50; have : gI s47 61 = gI s46 61 := q_Ii es47 (by decide); have : gI s46 61 = gI s66 61 := q_Ii es46 (by decide); have : gI s47 108 = gI s46 108 := q_Ii es47 (by decide); have : gI s46 108 = gI s66 108 := q_Ii es46 (by decide); have : (0 : Int) ≤ gI s66 108 ∧ gI s66 108 ≤ 1600 := hRs66.1 108; have : (0 : Int) ≤ gI s66 61 ∧ gI s66 61 ≤ 1600 := hRs66.1 61; have : (0 : Int) ≤ gI s 100 ∧ gI s 100 ≤ 5 := hRs.1 100; have : gI s62 107 = gI s61 107 := q_Ii es62 (by decide); have : gI s61 107 = 3 := q_II es61; omega) ?_
                  refine wp_if (fun c15 => ?_) (fun c15 => ?_)
                  · skip
                    unfold m_x6_advance_J281
                    refine wp_bn (w_x6_isLetter hRs62 (by show R2 r16; have : gI s62 107 = gI s61 107 := q_Ii es62 (by decide); have : gI s61 107 = 3 := q_II es61; have : gI s62 61 = gI s61 61 := q_Ii es62 (by decide); have : gI s61 61 = gI s50 61 := q_Ii es61 (by decide); have : gI s50 61 = gI s47 61 := q_Ii es50 (by decide); have : gI s62 108 = gI s61 108 := q_Ii es62 (by decide); have : gI s61 108 = gI s50 108 := q_Ii es61 (by decide); have : gI s50 108 = gI s47 108 := q_Ii es50 (by decide); have : gI s50 111 = r49 := q_II es50; have : gI s47 61 = gI s46 61 := q_Ii es47 (by decide); have : gI s46 61 = gI s66 61 := q_Ii es46 (by decide); have : gI s47 108 = gI s46 108 := q_Ii es47 (by decide); have : gI s46 108 = gI s66 108 := q_Ii es46 (by decide); have : (0 : Int) ≤ gI s66 108 ∧ gI s66 108 ≤ 1600 := hRs66.1 108; have : (0 : Int) ≤ gI s66 61 ∧ gI s66 61 ≤ 1600 := hRs66.1 61; have : (0 : Int) ≤ gI s 100 ∧ gI s 100 ≤ 5 := hRs.1 100; omega)) (fun r7 er7 hr7 => ?_)
                    have hr7_0 := hr7
                    have hr7_0 : r7 = 0 ∨ r7 = 1 := hr7_0
                    refine wp_rg (by have : gI s62 107 = gI s61 107 := q_Ii es62 (by decide); have : gI s61 107 = 3 := q_II es61; have : gI s62 61 = gI s61 61 := q_Ii es62 (by decide); have : gI s61 61 = gI s50 61 := q_Ii es61 (by decide); have : gI s50 61 = gI s47 61 := q_Ii es50 (by decide); have : gI s62 108 = gI s61 108 := q_Ii es62 (by decide); have : gI s61 108 = gI s50 108 := q_Ii es61 (by decide); have : gI s50 108 = gI s47 108 := q_Ii es50 (by decide); have : gI s50 111 = r49 := q_II es50; have : gI s47 61 = gI s46 61 := q_Ii es47 (by decide); have : gI s46 61 = gI s66 61 := q_Ii es46 (by decide); have : gI s47 108 = gI s46 108 := q_Ii es47 (by decide); have : gI s46 108 = gI s66 108 := q_Ii es46 (by decide); have : (0 : Int) ≤ gI s66 108 ∧ gI s66 108 ≤ 1600 := hRs66.1 108; have : (0 : Int) ≤ gI s66 61 ∧ gI s66 61 ≤ 1600 := hRs66.1 61; have : (0 : Int) ≤ gI s 100 ∧ gI s 100 ≤ 5 := hRs.1 100; omega) ?_
                    refine wp_if (fun c16 => ?_) (fun c16 => ?_)
                    · skip
                      refine wp_bn (w_x6_isDigit hRs62 (by show R2 r16; have : gI s62 107 = gI s61 107 := q_Ii es62 (by decide); have : gI s61 107 = 3 := q_II es61; have : gI s62 61 = gI s61 61 := q_Ii es62 (by decide); have : gI s61 61 = gI s50 61 := q_Ii es61 (by decide); have : gI s50 61 = gI s47 61 := q_Ii es50 (by decide); have : gI s62 108 = gI s61 108 := q_Ii es62 (by decide); have : gI s61 108 = gI s50 108 := q_Ii es61 (by decide); have : gI s50 108 = gI s47 108 := q_Ii es50 (by decide); have : gI s50 111 = r49 := q_II es50; have : gI s47 61 = gI s46 61 := q_Ii es47 (by decide); have : gI s46 61 = gI s66 61 := q_Ii es46 (by decide); have : gI s47 108 = gI s46 108 := q_Ii es47 (by decide); have : gI s46 108 = gI s66 108 := q_Ii es46 (by decide); have : (0 : Int) ≤ gI s66 108 ∧ gI s66 108 ≤ 1600 := hRs66.1 108; have : (0 : Int) ≤ gI s66 61 ∧ gI s66 61 ≤ 1600 := hRs66.1 61; have : (0 : Int) ≤ gI s 100 ∧ gI s 100 ≤ 5 := hRs.1 100; omega)) (fun r11 er11 hr11 => ?_)
                      have hr11_0 := hr11
                      have hr11_0 : r11 = 0 ∨ r11 = 1 := hr11_0
                      refine wp_rg (by have : gI s62 107 = gI s61 107 := q_Ii es62 (by decide); have : gI s61 107 = 3 := q_II es61; have : gI s62 61 = gI s61 61 := q_Ii es62 (by decide); have : gI s61 61 = gI s50 61 := q_Ii es61 (by decide); have : gI s50 61 = gI s47 61 := q_Ii es50 (by decide); have : gI s62 108 = gI s61 108 := q_Ii es62 (by decide); have : gI s61 108 = gI s50 108 := q_Ii es61 (by decide); have : gI s50 108 = gI s47 108 := q_Ii es50 (by decide); have : gI s50 111 = r49 := q_II es50; have : gI s47 61 = gI s46 61 := q_Ii es47 (by decide); have : gI s46 61 = gI s66 61 := q_Ii es46 (by decide); have : gI s47 108 = gI s46 108 := q_Ii es47 (by decide); have : gI s46 108 = gI s66 108 := q_Ii es46 (by decide); have : (0 : Int) ≤ gI s66 108 ∧ gI s66 108 ≤ 1600 := hRs66.1 108; have : (0 : Int) ≤ gI s66 61 ∧ gI s66 61 ≤ 1600 := hRs66.1 61; have : (0 : Int) ≤ gI s 100 ∧ gI s 100 ≤ 5 := hRs.1 100; omega) ?_
                      refine wp_if (fun c17 => ?_) (fun c17 => ?_)
                      · skip
                        unfold m_x6_advance_J300
                        exact wp_some (hRs62)
                      · skip
                        unfold m_x6_advance_J295
                        refine wp_stn (fun s3 es3 => ?_)
                        have hRs3 : Rg s3 := es3 ▸ Rg.uI hRs62 (by show (0 : Int) ≤ (4 : Int) ∧ (4 : Int) ≤ 4; have : gI s62 107 = gI s61 107 := q_Ii es62 (by decide); have : gI s61 107 = 3 := q_II es61; have : gI s62 61 = gI s61 61 := q_Ii es62 (by decide); have : gI s61 61 = gI s50 61 := q_Ii es61 (by decide); have : gI s50 61 = gI s47 61 := q_Ii es50 (by decide); have : gI s62 108 = gI s61 108 := q_Ii es62 (by decide); have : gI s61 108 = gI s50 108 := q_Ii es61 (by decide); have : gI s50 108 = gI s47 108 := q_Ii es50 (by decide); have : gI s50 111 = r49 := q_II es50; have : gI s47 61 = gI s46 61 := q_Ii es47 (by decide); have : gI s46 61 = gI s66 61 := q_Ii es46 (by decide); have : gI s47 108 = gI s46 108 := q_Ii es47 (by decide); have : gI s46 108 = gI s66 108 := q_Ii es46 (by decide); have : (0 : Int) ≤ gI s66 108 ∧ gI s66 108 ≤ 1600 := hRs66.1 108; have : (0 : Int) ≤ gI s66 61 ∧ gI s66 61 ≤ 1600 := hRs66.1 61; have : (0 : Int) ≤ gI s 100 ∧ gI s 100 ≤ 5 := hRs.1 100; omega)
                        unfold m_x6_advance_J300
                        exact wp_some (hRs3)
                    · skip
                      unfold m_x6_advance_J295
                      refine wp_stn (fun s3 es3 => ?_)
                      have hRs3 : Rg s3 := es3 ▸ Rg.uI hRs62 (by show (0 : Int) ≤ (4 : Int) ∧ (4 : Int) ≤ 4; have : gI s62 107 = gI s61 107 := q_Ii es62 (by decide); have : gI s61 107 = 3 := q_II es61; have : gI s62 61 = gI s61 61 := q_Ii es62 (by decide); have : gI s61 61 = gI s50 61 := q_Ii es61 (by decide); have : gI s50 61 = gI s47 61 := q_Ii es50 (by decide); have : gI s62 108 = gI s61 108 := q_Ii es62 (by decide); have : gI s61 108 = gI s50 108 := q_Ii es61 (by decide); have : gI s50 108 = gI s47 108 := q_Ii es50 (by decide); have : gI s50 111 = r49 := q_II es50; have : gI s47 61 = gI s46 61 := q_Ii es47 (by decide); have : gI s46 61 = gI s66 61 := q_Ii es46 (by decide); have : gI s47 108 = gI s46 108 := q_Ii es47 (by decide); have : gI s46 108 = gI s66 108 := q_Ii es46 (by decide); have : (0 : Int) ≤ gI s66 108 ∧ gI s66 108 ≤ 1600 := hRs66.1 108; have : (0 : Int) ≤ gI s66 61 ∧ gI s66 61 ≤ 1600 := hRs66.1 61; have : (0 : Int) ≤ gI s 100 ∧ gI s 100 ≤ 5 := hRs.1 100; omega)
                      unfold m_x6_advance_J300
                      exact wp_some (hRs3)
                  · skip
                    unfold m_x6_advance_J300
                    exact wp_some (hRs62)
              · skip
                refine wp_stn (fun s63 es63 => ?_)
                have hRs63 : Rg s63 := es63 ▸ Rg.uI hRs50 (by show (0 : Int) ≤ (2 : Int) ∧ (2 : Int) ≤ 4; have : gI s50 111 = r49 := q_II es50; have : gI s47 61 = gI s46 61 := q_Ii es47 (by decide); have : gI s46 61 = gI s66 61 := q_Ii es46 (by decide); have : gI s47 108 = gI s46 108 := q_Ii es47 (by decide); have : gI s46 108 = gI s66 108 := q_Ii es46 (by decide); have : (0 : Int) ≤ gI s66 108 ∧ gI s66 108 ≤ 1600 := hRs66.1 108; have : (0 : Int) ≤ gI s66 61 ∧ gI s66 61 ≤ 1600 := hRs66.1 61; have : (0 : Int) ≤ gI s 100 ∧ gI s 100 ≤ 5 := hRs.1 100; omega)
                have L191 : ∀ (n : Nat) (s21 : MS), Rg s21 → (1600 - gI s21 109) < (n : Int) → wp (m_x6_advance_L191 n s21) (fun o => (Rg o)) := by
                  refine fr_ind (fun s21 hRs21  hm191 => ?_) (fun n191 ih191 s21 hRs21  hm191 => ?_)
                  · exfalso; have : (0 : Int) ≤ gI s21 109 ∧ gI s21 109 ≤ 1600 := hRs21.1 109; omega
                  · show wp (m_x6_advance_b191 (m_x6_advance_L191 n191) s21) _
                    unfold m_x6_advance_b191
                    refine wp_rg (by have : gI s50 111 = r49 := q_II es50; have : gI s47 61 = gI s46 61 := q_Ii es47 (by decide); have : gI s46 61 = gI s66 61 := q_Ii es46 (by decide); have : gI s47 108 = gI s46 108 := q_Ii es47 (by decide); have : gI s46 108 = gI s66 108 := q_Ii es46 (by decide); have : (0 : Int) ≤ gI s66 108 ∧ gI s66 108 ≤ 1600 := hRs66.1 108; have : (0 : Int) ≤ gI s66 61 ∧ gI s66 61 ≤ 1600 := hRs66.1 61; have : (0 : Int) ≤ gI s 100 ∧ gI s 100 ≤ 5 := hRs.1 100; have : (0 : Int) ≤ gI s21 109 ∧ gI s21 109 ≤ 1600 := hRs21.1 109; omega) ?_
                    refine wp_rg (by have : gI s50 111 = r49 := q_II es50; have : gI s47 61 = gI s46 61 := q_Ii es47 (by decide); have : gI s46 61 = gI s66 61 := q_Ii es46 (by decide); have : gI s47 108 = gI s46 108 := q_Ii es47 (by decide); have : gI s46 108 = gI s66 108 := q_Ii es46 (by decide); have : (0 : Int) ≤ gI s66 108 ∧ gI s66 108 ≤ 1600 := hRs66.1 108; have : (0 : Int) ≤ gI s66 61 ∧ gI s66 61 ≤ 1600 := hRs66.1 61; have : (0 : Int) ≤ gI s 100 ∧ gI s 100 ≤ 5 := hRs.1 100; have : (0 : Int) ≤ gI s21 61 ∧ gI s21 61 ≤ 1600 := hRs21.1 61; omega) ?_
                    refine wp_if (fun c18 => ?_) (fun c18 => ?_)
                    · skip
                      unfold m_x6_advance_J251
                      refine wp_bn (w_x9_at hRs21 (by show R2 ((gI s21 108) - 1); have : (0 : Int) ≤ gI s21 109 ∧ gI s21 109 ≤ 1600 := hRs21.1 109; have : (0 : Int) ≤ gI s21 61 ∧ gI s21 61 ≤ 1600 := hRs21.1 61; have : gI s50 111 = r49 := q_II es50; have : gI s47 61 = gI s46 61 := q_Ii es47 (by decide); have : gI s46 61 = gI s66 61 := q_Ii es46 (by decide); have : gI s47 108 = gI s46 108 := q_Ii es47 (by decide); have : gI s46 108 = gI s66 108 := q_Ii es46 (by decide); have : (0 : Int) ≤ gI s66 108 ∧ gI s66 108 ≤ 1600 := hRs66.1 108; have : (0 : Int) ≤ gI s66 61 ∧ gI s66 61 ≤ 1600 := hRs66.1 61; have : (0 : Int) ≤ gI s 100 ∧ gI s 100 ≤ 5 := hRs.1 100; have : (0 : Int) ≤ gI s21 108 ∧ gI s21 108 ≤ 1600 := hRs21.1 108; omega)) (fun r16 er16 hr16 => ?_)
                      obtain ⟨hr16_0, hr16_1⟩ := hr16
                      have hr16_0 : (-1) ≤ r16 ∧ r16 ≤ 255 := hr16_0
                      have hr16_1 : r16 ≠ -1 → 0 ≤ ((gI s21 108) - 1) ∧ ((gI s21 108) - 1) < gI s21 61 := hr16_1
                      refine wp_rg (by have : (0 : Int) ≤ gI s21 108 ∧ gI s21 108 ≤ 1600 := hRs21.1 108; have : (0 : Int) ≤ gI s21 109 ∧ gI s21 109 ≤ 1600 := hRs21.1 109; have : (0 : Int) ≤ gI s21 61 ∧ gI s21 61 ≤ 1600 := hRs21.1 61; have : gI s50 111 = r49 := q_II es50; have : gI s47 61 = gI s46 61 := q_Ii es47 (by decide); have : gI s46 61 = gI s66 61 := q_Ii es46 (by decide); have : gI s47 108 = gI s46 108 := q_Ii es47 (by decide); have : gI s46 108 = gI s66 108 := q_Ii es46 (by decide); have : (0 : Int) ≤ gI s66 108 ∧ gI s66 108 ≤ 1600 := hRs66.1 108; have : (0 : Int) ≤ gI s66 61 ∧ gI s66 61 ≤ 1600 := hRs66.1 61; have : (0 : Int) ≤ gI s 100 ∧ gI s 100 ≤ 5 := hRs.1 100; have : (0 : Int) ≤ gI s21 107 ∧ gI s21 107 ≤ 4 := hRs21.1 107; omega) ?_
                      refine wp_if (fun c19 => ?_) (fun c19 => ?_)
                      · skip
                        unfold m_x6_advance_J281
                        refine wp_bn (w_x6_isLetter hRs21 (by show R2 r16; have : (0 : Int) ≤ gI s21 107 ∧ gI s21 107 ≤ 4 := hRs21.1 107; have : (0 : Int) ≤ gI s21 108 ∧ gI s21 108 ≤ 1600 := hRs21.1 108; have : (0 : Int) ≤ gI s21 109 ∧ gI s21 109 ≤ 1600 := hRs21.1 109; have : (0 : Int) ≤ gI s21 61 ∧ gI s21 61 ≤ 1600 := hRs21.1 61; have : gI s50 111 = r49 := q_II es50; have : gI s47 61 = gI s46 61 := q_Ii es47 (by decide); have : gI s46 61 = gI s66 61 := q_Ii es46 (by decide); have : gI s47 108 = gI s46 108 := q_Ii es47 (by decide); have : gI s46 108 = gI s66 108 := q_Ii es46 (by decide); have : (0 : Int) ≤ gI s66 108 ∧ gI s66 108 ≤ 1600 := hRs66.1 108; have : (0 : Int) ≤ gI s66 61 ∧ gI s66 61 ≤ 1600 := hRs66.1 61; have : (0 : Int) ≤ gI s 100 ∧ gI s 100 ≤ 5 := hRs.1 100; omega)) (fun r7 er7 hr7 => ?_)
                        have hr7_0 := hr7
                        have hr7_0 : r7 = 0 ∨ r7 = 1 := hr7_0
                        refine wp_rg (by have : (0 : Int) ≤ gI s21 107 ∧ gI s21 107 ≤ 4 := hRs21.1 107; have : (0 : Int) ≤ gI s21 108 ∧ gI s21 108 ≤ 1600 := hRs21.1 108; have : (0 : Int) ≤ gI s21 109 ∧ gI s21 109 ≤ 1600 := hRs21.1 109; have : (0 : Int) ≤ gI s21 61 ∧ gI s21 61 ≤ 1600 := hRs21.1 61; have : gI s50 111 = r49 := q_II es50; have : gI s47 61 = gI s46 61 := q_Ii es47 (by decide); have : gI s46 61 = gI s66 61 := q_Ii es46 (by decide); have : gI s47 108 = gI s46 108 := q_Ii es47 (by decide); have : gI s46 108 = gI s66 108 := q_Ii es46 (by decide); have : (0 : Int) ≤ gI s66 108 ∧ gI s66 108 ≤ 1600 := hRs66.1 108; have : (0 : Int) ≤ gI s66 61 ∧ gI s66 61 ≤ 1600 := hRs66.1 61; have : (0 : Int) ≤ gI s 100 ∧ gI s 100 ≤ 5 := hRs.1 100; omega) ?_
                        refine wp_if (fun c20 => ?_) (fun c20 => ?_)
                        · skip
                          refine wp_bn (w_x6_isDigit hRs21 (by show R2 r16; have : (0 : Int) ≤ gI s21 107 ∧ gI s21 107 ≤ 4 := hRs21.1 107; have : (0 : Int) ≤ gI s21 108 ∧ gI s21 108 ≤ 1600 := hRs21.1 108; have : (0 : Int) ≤ gI s21 109 ∧ gI s21 109 ≤ 1600 := hRs21.1 109; have : (0 : Int) ≤ gI s21 61 ∧ gI s21 61 ≤ 1600 := hRs21.1 61; have : gI s50 111 = r49 := q_II es50; have : gI s47 61 = gI s46 61 := q_Ii es47 (by decide); have : gI s46 61 = gI s66 61 := q_Ii es46 (by decide); have : gI s47 108 = gI s46 108 := q_Ii es47 (by decide); have : gI s46 108 = gI s66 108 := q_Ii es46 (by decide); have : (0 : Int) ≤ gI s66 108 ∧ gI s66 108 ≤ 1600 := hRs66.1 108; have : (0 : Int) ≤ gI s66 61 ∧ gI s66 61 ≤ 1600 := hRs66.1 61; have : (0 : Int) ≤ gI s 100 ∧ gI s 100 ≤ 5 := hRs.1 100; omega)) (fun r11 er11 hr11 => ?_)
                          have hr11_0 := hr11
                          have hr11_0 : r11 = 0 ∨ r11 = 1 := hr11_0
                          refine wp_rg (by have : (0 : Int) ≤ gI s21 107 ∧ gI s21 107 ≤ 4 := hRs21.1 107; have : (0 : Int) ≤ gI s21 108 ∧ gI s21 108 ≤ 1600 := hRs21.1 108; have : (0 : Int) ≤ gI s21 109 ∧ gI s21 109 ≤ 1600 := hRs21.1 109; have : (0 : Int) ≤ gI s21 61 ∧ gI s21 61 ≤ 1600 := hRs21.1 61; have : gI s50 111 = r49 := q_II es50; have : gI s47 61 = gI s46 61 := q_Ii es47 (by decide); have : gI s46 61 = gI s66 61 := q_Ii es46 (by decide); have : gI s47 108 = gI s46 108 := q_Ii es47 (by decide); have : gI s46 108 = gI s66 108 := q_Ii es46 (by decide); have : (0 : Int) ≤ gI s66 108 ∧ gI s66 108 ≤ 1600 := hRs66.1 108; have : (0 : Int) ≤ gI s66 61 ∧ gI s66 61 ≤ 1600 := hRs66.1 61; have : (0 : Int) ≤ gI s 100 ∧ gI s 100 ≤ 5 := hRs.1 100; omega) ?_
                          refine wp_if (fun c21 => ?_) (fun c21 => ?_)
                          · skip
                            unfold m_x6_advance_J300
                            exact wp_some (hRs21)
                          · skip
                            unfold m_x6_advance_J295
                            refine wp_stn (fun s3 es3 => ?_)
                            have hRs3 : Rg s3 := es3 ▸ Rg.uI hRs21 (by show (0 : Int) ≤ (4 : Int) ∧ (4 : Int) ≤ 4; have : (0 : Int) ≤ gI s21 107 ∧ gI s21 107 ≤ 4 := hRs21.1 107; have : (0 : Int) ≤ gI s21 108 ∧ gI s21 108 ≤ 1600 := hRs21.1 108; have : (0 : Int) ≤ gI s21 109 ∧ gI s21 109 ≤ 1600 := hRs21.1 109; have : (0 : Int) ≤ gI s21 61 ∧ gI s21 61 ≤ 1600 := hRs21.1 61; have : gI s50 111 = r49 := q_II es50; have : gI s47 61 = gI s46 61 := q_Ii es47 (by decide); have : gI s46 61 = gI s66 61 := q_Ii es46 (by decide); have : gI s47 108 = gI s46 108 := q_Ii es47 (by decide); have : gI s46 108 = gI s66 108 := q_Ii es46 (by decide); have : (0 : Int) ≤ gI s66 108 ∧ gI s66 108 ≤ 1600 := hRs66.1 108; have : (0 : Int) ≤ gI s66 61 ∧ gI s66 61 ≤ 1600 := hRs66.1 61; have : (0 : Int) ≤ gI s 100 ∧ gI s 100 ≤ 5 := hRs.1 100; omega)
                            unfold m_x6_advance_J300
                            exact wp_some (hRs3)
                        · skip
                          unfold m_x6_advance_J295
                          refine wp_stn (fun s3 es3 => ?_)
                          have hRs3 : Rg s3 := es3 ▸ Rg.uI hRs21 (by show (0 : Int) ≤ (4 : Int) ∧ (4 : Int) ≤ 4; have : (0 : Int) ≤ gI s21 107 ∧ gI s21 107 ≤ 4 := hRs21.1 107; have : (0 : Int) ≤ gI s21 108 ∧ gI s21 108 ≤ 1600 := hRs21.1 108; have : (0 : Int) ≤ gI s21 109 ∧ gI s21 109 ≤ 1600 := hRs21.1 109; have : (0 : Int) ≤ gI s21 61 ∧ gI s21 61 ≤ 1600 := hRs21.1 61; have : gI s50 111 = r49 := q_II es50; have : gI s47 61 = gI s46 61 := q_Ii es47 (by decide); have : gI s46 61 = gI s66 61 := q_Ii es46 (by decide); have : gI s47 108 = gI s46 108 := q_Ii es47 (by decide); have : gI s46 108 = gI s66 108 := q_Ii es46 (by decide); have : (0 : Int) ≤ gI s66 108 ∧ gI s66 108 ≤ 1600 := hRs66.1 108; have : (0 : Int) ≤ gI s66 61 ∧ gI s66 61 ≤ 1600 := hRs66.1 61; have : (0 : Int) ≤ gI s 100 ∧ gI s 100 ≤ 5 := hRs.1 100; omega)
                          unfold m_x6_advance_J300
                          exact wp_some (hRs3)
                      · skip
                        refine wp_rg (by have : (0 : Int) ≤ gI s21 108 ∧ gI s21 108 ≤ 1600 := hRs21.1 108; have : (0 : Int) ≤ gI s21 109 ∧ gI s21 109 ≤ 1600 := hRs21.1 109; have : (0 : Int) ≤ gI s21 61 ∧ gI s21 61 ≤ 1600 := hRs21.1 61; have : gI s50 111 = r49 := q_II es50; have : gI s47 61 = gI s46 61 := q_Ii es47 (by decide); have : gI s46 61 = gI s66 61 := q_Ii es46 (by decide); have : gI s47 108 = gI s46 108 := q_Ii es47 (by decide); have : gI s46 108 = gI s66 108 := q_Ii es46 (by decide); have : (0 : Int) ≤ gI s66 108 ∧ gI s66 108 ≤ 1600 := hRs66.1 108; have : (0 : Int) ≤ gI s66 61 ∧ gI s66 61 ≤ 1600 := hRs66.1 61; have : (0 : Int) ≤ gI s 100 ∧ gI s 100 ≤ 5 := hRs.1 100; have : (0 : Int) ≤ gI s21 107 ∧ gI s21 107 ≤ 4 := hRs21.1 107; omega) ?_
                        refine wp_if (fun c22 => ?_) (fun c22 => ?_)
                        · skip
                          unfold m_x6_advance_J281
                          refine wp_bn (w_x6_isLetter hRs21 (by show R2 r16; have : (0 : Int) ≤ gI s21 107 ∧ gI s21 107 ≤ 4 := hRs21.1 107; have : (0 : Int) ≤ gI s21 108 ∧ gI s21 108 ≤ 1600 := hRs21.1 108; have : (0 : Int) ≤ gI s21 109 ∧ gI s21 109 ≤ 1600 := hRs21.1 109; have : (0 : Int) ≤ gI s21 61 ∧ gI s21 61 ≤ 1600 := hRs21.1 61; have : gI s50 111 = r49 := q_II es50; have : gI s47 61 = gI s46 61 := q_Ii es47 (by decide); have : gI s46 61 = gI s66 61 := q_Ii es46 (by decide); have : gI s47 108 = gI s46 108 := q_Ii es47 (by decide); have : gI s46 108 = gI s66 108 := q_Ii es46 (by decide); have : (0 : Int) ≤ gI s66 108 ∧ gI s66 108 ≤ 1600 := hRs66.1 108; have : (0 : Int) ≤ gI s66 61 ∧ gI s66 61 ≤ 1600 := hRs66.1 61; have : (0 : Int) ≤ gI s 100 ∧ gI s 100 ≤ 5 := hRs.1 100; omega)) (fun r7 er7 hr7 => ?_)
                          have hr7_0 := hr7
                          have hr7_0 : r7 = 0 ∨ r7 = 1 := hr7_0
                          refine wp_rg (by have : (0 : Int) ≤ gI s21 107 ∧ gI s21 107 ≤ 4 := hRs21.1 107; have : (0 : Int) ≤ gI s21 108 ∧ gI s21 108 ≤ 1600 := hRs21.1 108; have : (0 : Int) ≤ gI s21 109 ∧ gI s21 109 ≤ 1600 := hRs21.1 109; have : (0 : Int) ≤ gI s21 61 ∧ gI s21 61 ≤ 1600 := hRs21.1 61; have : gI s50 111 = r49 := q_II es50; have : gI s47 61 = gI s46 61 := q_Ii es47 (by decide); have : gI s46 61 = gI s66 61 := q_Ii es46 (by decide); have : gI s47 108 = gI s46 108 := q_Ii es47 (by decide); have : gI s46 108 = gI s66 108 := q_Ii es46 (by decide); have : (0 : Int) ≤ gI s66 108 ∧ gI s66 108 ≤ 1600 := hRs66.1 108; have : (0 : Int) ≤ gI s66 61 ∧ gI s66 61 ≤ 1600 := hRs66.1 61; have : (0 : Int) ≤ gI s 100 ∧ gI s 100 ≤ 5 := hRs.1 100; omega) ?_
                          refine wp_if (fun c23 => ?_) (fun c23 => ?_)
                          · skip
                            refine wp_bn (w_x6_isDigit hRs21 (by show R2 r16; have : (0 : Int) ≤ gI s21 107 ∧ gI s21 107 ≤ 4 := hRs21.1 107; have : (0 : Int) ≤ gI s21 108 ∧ gI s21 108 ≤ 1600 := hRs21.1 108; have : (0 : Int) ≤ gI s21 109 ∧ gI s21 109 ≤ 1600 := hRs21.1 109; have : (0 : Int) ≤ gI s21 61 ∧ gI s21 61 ≤ 1600 := hRs21.1 61; have : gI s50 111 = r49 := q_II es50; have : gI s47 61 = gI s46 61 := q_Ii es47 (by decide); have : gI s46 61 = gI s66 61 := q_Ii es46 (by decide); have : gI s47 108 = gI s46 108 := q_Ii es47 (by decide); have : gI s46 108 = gI s66 108 := q_Ii es46 (by decide); have : (0 : Int) ≤ gI s66 108 ∧ gI s66 108 ≤ 1600 := hRs66.1 108; have : (0 : Int) ≤ gI s66 61 ∧ gI s66 61 ≤ 1600 := hRs66.1 61; have : (0 : Int) ≤ gI s 100 ∧ gI s 100 ≤ 5 := hRs.1 100; omega)) (fun r11 er11 hr11 => ?_)
                            have hr11_0 := hr11
                            have hr11_0 : r11 = 0 ∨ r11 = 1 := hr11_0
                            refine wp_rg (by have : (0 : Int) ≤ gI s21 107 ∧ gI s21 107 ≤ 4 := hRs21.1 107; have : (0 : Int) ≤ gI s21 108 ∧ gI s21 108 ≤ 1600 := hRs21.1 108; have : (0 : Int) ≤ gI s21 109 ∧ gI s21 109 ≤ 1600 := hRs21.1 109; have : (0 : Int) ≤ gI s21 61 ∧ gI s21 61 ≤ 1600 := hRs21.1 61; have : gI s50 111 = r49 := q_II es50; have : gI s47 61 = gI s46 61 := q_Ii es47 (by decide); have : gI s46 61 = gI s66 61 := q_Ii es46 (by decide); have : gI s47 108 = gI s46 108 := q_Ii es47 (by decide); have : gI s46 108 = gI s66 108 := q_Ii es46 (by decide); have : (0 : Int) ≤ gI s66 108 ∧ gI s66 108 ≤ 1600 := hRs66.1 108; have : (0 : Int) ≤ gI s66 61 ∧ gI s66 61 ≤ 1600 := hRs66.1 61; have : (0 : Int) ≤ gI s 100 ∧ gI s 100 ≤ 5 := hRs.1 100; omega) ?_
                            refine wp_if (fun c24 => ?_) (fun c24 => ?_)
                            · skip
                              unfold m_x6_advance_J300
                              exact wp_some (hRs21)
                            · skip
                              unfold m_x6_advance_J295
                              refine wp_stn (fun s3 es3 => ?_)
                              have hRs3 : Rg s3 := es3 ▸ Rg.uI hRs21 (by show (0 : Int) ≤ (4 : Int) ∧ (4 : Int) ≤ 4; have : (0 : Int) ≤ gI s21 107 ∧ gI s21 107 ≤ 4 := hRs21.1 107; have : (0 : Int) ≤ gI s21 108 ∧ gI s21 108 ≤ 1600 := hRs21.1 108; have : (0 : Int) ≤ gI s21 109 ∧ gI s21 109 ≤ 1600 := hRs21.1 109; have : (0 : Int) ≤ gI s21 61 ∧ gI s21 61 ≤ 1600 := hRs21.1 61; have : gI s50 111 = r49 := q_II es50; have : gI s47 61 = gI s46 61 := q_Ii es47 (by decide); have : gI s46 61 = gI s66 61 := q_Ii es46 (by decide); have : gI s47 108 = gI s46 108 := q_Ii es47 (by decide); have : gI s46 108 = gI s66 108 := q_Ii es46 (by decide); have : (0 : Int) ≤ gI s66 108 ∧ gI s66 108 ≤ 1600 := hRs66.1 108; have : (0 : Int) ≤ gI s66 61 ∧ gI s66 61 ≤ 1600 := hRs66.1 61; have : (0 : Int) ≤ gI s 100 ∧ gI s 100 ≤ 5 := hRs.1 100; omega)
                              unfold m_x6_advance_J300
                              exact wp_some (hRs3)
                          · skip
                            unfold m_x6_advance_J295
                            refine wp_stn (fun s3 es3 => ?_)
                            have hRs3 : Rg s3 := es3 ▸ Rg.uI hRs21 (by show (0 : Int) ≤ (4 : Int) ∧ (4 : Int) ≤ 4; have : (0 : Int) ≤ gI s21 107 ∧ gI s21 107 ≤ 4 := hRs21.1 107; have : (0 : Int) ≤ gI s21 108 ∧ gI s21 108 ≤ 1600 := hRs21.1 108; have : (0 : Int) ≤ gI s21 109 ∧ gI s21 109 ≤ 1600 := hRs21.1 109; have : (0 : Int) ≤ gI s21 61 ∧ gI s21 61 ≤ 1600 := hRs21.1 61; have : gI s50 111 = r49 := q_II es50; have : gI s47 61 = gI s46 61 := q_Ii es47 (by decide); have : gI s46 61 = gI s66 61 := q_Ii es46 (by decide); have : gI s47 108 = gI s46 108 := q_Ii es47 (by decide); have : gI s46 108 = gI s66 108 := q_Ii es46 (by decide); have : (0 : Int) ≤ gI s66 108 ∧ gI s66 108 ≤ 1600 := hRs66.1 108; have : (0 : Int) ≤ gI s66 61 ∧ gI s66 61 ≤ 1600 := hRs66.1 61; have : (0 : Int) ≤ gI s 100 ∧ gI s 100 ≤ 5 := hRs.1 100; omega)
                            unfold m_x6_advance_J300
                            exact wp_some (hRs3)
                        · skip
                          unfold m_x6_advance_J300
                          exact wp_some (hRs21)
                    · skip
                      refine wp_rdIn (by have : (0 : Int) ≤ gI s21 61 ∧ gI s21 61 ≤ 1600 := hRs21.1 61; have : gI s50 111 = r49 := q_II es50; have : gI s47 61 = gI s46 61 := q_Ii es47 (by decide); have : gI s46 61 = gI s66 61 := q_Ii es46 (by decide); have : gI s47 108 = gI s46 108 := q_Ii es47 (by decide); have : gI s46 108 = gI s66 108 := q_Ii es46 (by decide); have : (0 : Int) ≤ gI s66 108 ∧ gI s66 108 ≤ 1600 := hRs66.1 108; have : (0 : Int) ≤ gI s66 61 ∧ gI s66 61 ≤ 1600 := hRs66.1 61; have : (0 : Int) ≤ gI s 100 ∧ gI s 100 ≤ 5 := hRs.1 100; have : (0 : Int) ≤ gI s21 109 ∧ gI s21 109 ≤ 1600 := hRs21.1 109; omega) (fun y25 ey25 => ?_)
                      have by25 : (0 : Int) ≤ y25 ∧ y25 ≤ 255 := ey25 ▸ hRs21.2.1 4 _ (by show _ < 1600; have : (0 : Int) ≤ gI s21 61 ∧ gI s21 61 ≤ 1600 := hRs21.1 61; have : gI s50 111 = r49 := q_II es50; have : gI s47 61 = gI s46 61 := q_Ii es47 (by decide); have : gI s46 61 = gI s66 61 := q_Ii es46 (by decide); have : gI s47 108 = gI s46 108 := q_Ii es47 (by decide); have : gI s46 108 = gI s66 108 := q_Ii es46 (by decide); have : (0 : Int) ≤ gI s66 108 ∧ gI s66 108 ≤ 1600 := hRs66.1 108; have : (0 : Int) ≤ gI s66 61 ∧ gI s66 61 ≤ 1600 := hRs66.1 61; have : (0 : Int) ≤ gI s 100 ∧ gI s 100 ≤ 5 := hRs.1 100; have : (0 : Int) ≤ gI s21 109 ∧ gI s21 109 ≤ 1600 := hRs21.1 109; omega)
                      refine wp_bn (w_x6_isDigit hRs21 (by show R2 y25; have : (0 : Int) ≤ gI s21 109 ∧ gI s21 109 ≤ 1600 := hRs21.1 109; have : (0 : Int) ≤ gI s21 61 ∧ gI s21 61 ≤ 1600 := hRs21.1 61; have : gI s50 111 = r49 := q_II es50; have : gI s47 61 = gI s46 61 := q_Ii es47 (by decide); have : gI s46 61 = gI s66 61 := q_Ii es46 (by decide); have : gI s47 108 = gI s46 108 := q_Ii es47 (by decide); have : gI s46 108 = gI s66 108 := q_Ii es46 (by decide); have : (0 : Int) ≤ gI s66 108 ∧ gI s66 108 ≤ 1600 := hRs66.1 108; have : (0 : Int) ≤ gI s66 61 ∧ gI s66 61 ≤ 1600 := hRs66.1 61; have : (0 : Int) ≤ gI s 100 ∧ gI s 100 ≤ 5 := hRs.1 100; omega)) (fun r27 er27 hr27 => ?_)
                      have hr27_0 := hr27
                      have hr27_0 : r27 = 0 ∨ r27 = 1 := hr27_0
                      refine wp_rg (by have : (0 : Int) ≤ gI s21 109 ∧ gI s21 109 ≤ 1600 := hRs21.1 109; have : (0 : Int) ≤ gI s21 61 ∧ gI s21 61 ≤ 1600 := hRs21.1 61; have : gI s50 111 = r49 := q_II es50; have : gI s47 61 = gI s46 61 := q_Ii es47 (by decide); have : gI s46 61 = gI s66 61 := q_Ii es46 (by decide); have : gI s47 108 = gI s46 108 := q_Ii es47 (by decide); have : gI s46 108 = gI s66 108 := q_Ii es46 (by decide); have : (0 : Int) ≤ gI s66 108 ∧ gI s66 108 ≤ 1600 := hRs66.1 108; have : (0 : Int) ≤ gI s66 61 ∧ gI s66 61 ≤ 1600 := hRs66.1 61; have : (0 : Int) ≤ gI s 100 ∧ gI s 100 ≤ 5 := hRs.1 100; omega) ?_
                      refine wp_if (fun c25 => ?_) (fun c25 => ?_)
                      · skip
                        unfold m_x6_advance_J251
                        refine wp_bn (w_x9_at hRs21 (by show R2 ((gI s21 108) - 1); have : (0 : Int) ≤ gI s21 109 ∧ gI s21 109 ≤ 1600 := hRs21.1 109; have : (0 : Int) ≤ gI s21 61 ∧ gI s21 61 ≤ 1600 := hRs21.1 61; have : gI s50 111 = r49 := q_II es50; have : gI s47 61 = gI s46 61 := q_Ii es47 (by decide); have : gI s46 61 = gI s66 61 := q_Ii es46 (by decide); have : gI s47 108 = gI s46 108 := q_Ii es47 (by decide); have : gI s46 108 = gI s66 108 := q_Ii es46 (by decide); have : (0 : Int) ≤ gI s66 108 ∧ gI s66 108 ≤ 1600 := hRs66.1 108; have : (0 : Int) ≤ gI s66 61 ∧ gI s66 61 ≤ 1600 := hRs66.1 61; have : (0 : Int) ≤ gI s 100 ∧ gI s 100 ≤ 5 := hRs.1 100; have : (0 : Int) ≤ gI s21 108 ∧ gI s21 108 ≤ 1600 := hRs21.1 108; omega)) (fun r16 er16 hr16 => ?_)
                        obtain ⟨hr16_0, hr16_1⟩ := hr16
                        have hr16_0 : (-1) ≤ r16 ∧ r16 ≤ 255 := hr16_0
                        have hr16_1 : r16 ≠ -1 → 0 ≤ ((gI s21 108) - 1) ∧ ((gI s21 108) - 1) < gI s21 61 := hr16_1
                        refine wp_rg (by have : (0 : Int) ≤ gI s21 108 ∧ gI s21 108 ≤ 1600 := hRs21.1 108; have : (0 : Int) ≤ gI s21 109 ∧ gI s21 109 ≤ 1600 := hRs21.1 109; have : (0 : Int) ≤ gI s21 61 ∧ gI s21 61 ≤ 1600 := hRs21.1 61; have : gI s50 111 = r49 := q_II es50; have : gI s47 61 = gI s46 61 := q_Ii es47 (by decide); have : gI s46 61 = gI s66 61 := q_Ii es46 (by decide); have : gI s47 108 = gI s46 108 := q_Ii es47 (by decide); have : gI s46 108 = gI s66 108 := q_Ii es46 (by decide); have : (0 : Int) ≤ gI s66 108 ∧ gI s66 108 ≤ 1600 := hRs66.1 108; have : (0 : Int) ≤ gI s66 61 ∧ gI s66 61 ≤ 1600 := hRs66.1 61; have : (0 : Int) ≤ gI s 100 ∧ gI s 100 ≤ 5 := hRs.1 100; have : (0 : Int) ≤ gI s21 107 ∧ gI s21 107 ≤ 4 := hRs21.1 107; omega) ?_
                        refine wp_if (fun c26 => ?_) (fun c26 => ?_)
                        · skip
                          unfold m_x6_advance_J281
                          refine wp_bn (w_x6_isLetter hRs21 (by show R2 r16; have : (0 : Int) ≤ gI s21 107 ∧ gI s21 107 ≤ 4 := hRs21.1 107; have : (0 : Int) ≤ gI s21 108 ∧ gI s21 108 ≤ 1600 := hRs21.1 108; have : (0 : Int) ≤ gI s21 109 ∧ gI s21 109 ≤ 1600 := hRs21.1 109; have : (0 : Int) ≤ gI s21 61 ∧ gI s21 61 ≤ 1600 := hRs21.1 61; have : gI s50 111 = r49 := q_II es50; have : gI s47 61 = gI s46 61 := q_Ii es47 (by decide); have : gI s46 61 = gI s66 61 := q_Ii es46 (by decide); have : gI s47 108 = gI s46 108 := q_Ii es47 (by decide); have : gI s46 108 = gI s66 108 := q_Ii es46 (by decide); have : (0 : Int) ≤ gI s66 108 ∧ gI s66 108 ≤ 1600 := hRs66.1 108; have : (0 : Int) ≤ gI s66 61 ∧ gI s66 61 ≤ 1600 := hRs66.1 61; have : (0 : Int) ≤ gI s 100 ∧ gI s 100 ≤ 5 := hRs.1 100; omega)) (fun r7 er7 hr7 => ?_)
                          have hr7_0 := hr7
                          have hr7_0 : r7 = 0 ∨ r7 = 1 := hr7_0
                          refine wp_rg (by have : (0 : Int) ≤ gI s21 107 ∧ gI s21 107 ≤ 4 := hRs21.1 107; have : (0 : Int) ≤ gI s21 108 ∧ gI s21 108 ≤ 1600 := hRs21.1 108; have : (0 : Int) ≤ gI s21 109 ∧ gI s21 109 ≤ 1600 := hRs21.1 109; have : (0 : Int) ≤ gI s21 61 ∧ gI s21 61 ≤ 1600 := hRs21.1 61; have : gI s50 111 = r49 := q_II es50; have : gI s47 61 = gI s46 61 := q_Ii es47 (by decide); have : gI s46 61 = gI s66 61 := q_Ii es46 (by decide); have : gI s47 108 = gI s46 108 := q_Ii es47 (by decide); have : gI s46 108 = gI s66 108 := q_Ii es46 (by decide); have : (0 : Int) ≤ gI s66 108 ∧ gI s66 108 ≤ 1600 := hRs66.1 108; have : (0 : Int) ≤ gI s66 61 ∧ gI s66 61 ≤ 1600 := hRs66.1 61; have : (0 : Int) ≤ gI s 100 ∧ gI s 100 ≤ 5 := hRs.1 100; omega) ?_
                          refine wp_if (fun c27 => ?_) (fun c27 => ?_)
                          · skip
                            refine wp_bn (w_x6_isDigit hRs21 (by show R2 r16; have : (0 : Int) ≤ gI s21 107 ∧ gI s21 107 ≤ 4 := hRs21.1 107; have : (0 : Int) ≤ gI s21 108 ∧ gI s21 108 ≤ 1600 := hRs21.1 108; have : (0 : Int) ≤ gI s21 109 ∧ gI s21 109 ≤ 1600 := hRs21.1 109; have : (0 : Int) ≤ gI s21 61 ∧ gI s21 61 ≤ 1600 := hRs21.1 61; have : gI s50 111 = r49 := q_II es50; have : gI s47 61 = gI s46 61 := q_Ii es47 (by decide); have : gI s46 61 = gI s66 61 := q_Ii es46 (by decide); have : gI s47 108 = gI s46 108 := q_Ii es47 (by decide); have : gI s46 108 = gI s66 108 := q_Ii es46 (by decide); have : (0 : Int) ≤ gI s66 108 ∧ gI s66 108 ≤ 1600 := hRs66.1 108; have : (0 : Int) ≤ gI s66 61 ∧ gI s66 61 ≤ 1600 := hRs66.1 61; have : (0 : Int) ≤ gI s 100 ∧ gI s 100 ≤ 5 := hRs.1 100; omega)) (fun r11 er11 hr11 => ?_)
                            have hr11_0 := hr11
                            have hr11_0 : r11 = 0 ∨ r11 = 1 := hr11_0
                            refine wp_rg (by have : (0 : Int) ≤ gI s21 107 ∧ gI s21 107 ≤ 4 := hRs21.1 107; have : (0 : Int) ≤ gI s21 108 ∧ gI s21 108 ≤ 1600 := hRs21.1 108; have : (0 : Int) ≤ gI s21 109 ∧ gI s21 109 ≤ 1600 := hRs21.1 109; have : (0 : Int) ≤ gI s21 61 ∧ gI s21 61 ≤ 1600 := hRs21.1 61; have : gI s50 111 = r49 := q_II es50; have : gI s47 61 = gI s46 61 := q_Ii es47 (by decide); have : gI s46 61 = gI s66 61 := q_Ii es46 (by decide); have : gI s47 108 = gI s46 108 := q_Ii es47 (by decide); have : gI s46 108 = gI s66 108 := q_Ii es46 (by decide); have : (0 : Int) ≤ gI s66 108 ∧ gI s66 108 ≤ 1600 := hRs66.1 108; have : (0 : Int) ≤ gI s66 61 ∧ gI s66 61 ≤ 1600 := hRs66.1 61; have : (0 : Int) ≤ gI s 100 ∧ gI s 100 ≤ 5 := hRs.1 100; omega) ?_
                            refine wp_if (fun c28 => ?_) (fun c28 => ?_)
                            · skip
                              unfold m_x6_advance_J300
                              exact wp_some (hRs21)
                            · skip
                              unfold m_x6_advance_J295
                              refine wp_stn (fun s3 es3 => ?_)
                              have hRs3 : Rg s3 := es3 ▸ Rg.uI hRs21 (by show (0 : Int) ≤ (4 : Int) ∧ (4 : Int) ≤ 4; have : (0 : Int) ≤ gI s21 107 ∧ gI s21 107 ≤ 4 := hRs21.1 107; have : (0 : Int) ≤ gI s21 108 ∧ gI s21 108 ≤ 1600 := hRs21.1 108; have : (0 : Int) ≤ gI s21 109 ∧ gI s21 109 ≤ 1600 := hRs21.1 109; have : (0 : Int) ≤ gI s21 61 ∧ gI s21 61 ≤ 1600 := hRs21.1 61; have : gI s50 111 = r49 := q_II es50; have : gI s47 61 = gI s46 61 := q_Ii es47 (by decide); have : gI s46 61 = gI s66 61 := q_Ii es46 (by decide); have : gI s47 108 = gI s46 108 := q_Ii es47 (by decide); have : gI s46 108 = gI s66 108 := q_Ii es46 (by decide); have : (0 : Int) ≤ gI s66 108 ∧ gI s66 108 ≤ 1600 := hRs66.1 108; have : (0 : Int) ≤ gI s66 61 ∧ gI s66 61 ≤ 1600 := hRs66.1 61; have : (0 : Int) ≤ gI s 100 ∧ gI s 100 ≤ 5 := hRs.1 100; omega)
                              unfold m_x6_advance_J300
                              exact wp_some (hRs3)
                          · skip
                            unfold m_x6_advance_J295
                            refine wp_stn (fun s3 es3 => ?_)
                            have hRs3 : Rg s3 := es3 ▸ Rg.uI hRs21 (by show (0 : Int) ≤ (4 : Int) ∧ (4 : Int) ≤ 4; have : (0 : Int) ≤ gI s21 107 ∧ gI s21 107 ≤ 4 := hRs21.1 107; have : (0 : Int) ≤ gI s21 108 ∧ gI s21 108 ≤ 1600 := hRs21.1 108; have : (0 : Int) ≤ gI s21 109 ∧ gI s21 109 ≤ 1600 := hRs21.1 109; have : (0 : Int) ≤ gI s21 61 ∧ gI s21 61 ≤ 1600 := hRs21.1 61; have : gI s50 111 = r49 := q_II es50; have : gI s47 61 = gI s46 61 := q_Ii es47 (by decide); have : gI s46 61 = gI s66 61 := q_Ii es46 (by decide); have : gI s47 108 = gI s46 108 := q_Ii es47 (by decide); have : gI s46 108 = gI s66 108 := q_Ii es46 (by decide); have : (0 : Int) ≤ gI s66 108 ∧ gI s66 108 ≤ 1600 := hRs66.1 108; have : (0 : Int) ≤ gI s66 61 ∧ gI s66 61 ≤ 1600 := hRs66.1 61; have : (0 : Int) ≤ gI s 100 ∧ gI s 100 ≤ 5 := hRs.1 100; omega)
                            unfold m_x6_advance_J300
                            exact wp_some (hRs3)
                        · skip
                          refine wp_rg (by have : (0 : Int) ≤ gI s21 108 ∧ gI s21 108 ≤ 1600 := hRs21.1 108; have : (0 : Int) ≤ gI s21 109 ∧ gI s21 109 ≤ 1600 := hRs21.1 109; have : (0 : Int) ≤ gI s21 61 ∧ gI s21 61 ≤ 1600 := hRs21.1 61; have : gI s50 111 = r49 := q_II es50; have : gI s47 61 = gI s46 61 := q_Ii es47 (by decide); have : gI s46 61 = gI s66 61 := q_Ii es46 (by decide); have : gI s47 108 = gI s46 108 := q_Ii es47 (by decide); have : gI s46 108 = gI s66 108 := q_Ii es46 (by decide); have : (0 : Int) ≤ gI s66 108 ∧ gI s66 108 ≤ 1600 := hRs66.1 108; have : (0 : Int) ≤ gI s66 61 ∧ gI s66 61 ≤ 1600 := hRs66.1 61; have : (0 : Int) ≤ gI s 100 ∧ gI s 100 ≤ 5 := hRs.1 100; have : (0 : Int) ≤ gI s21 107 ∧ gI s21 107 ≤ 4 := hRs21.1 107; omega) ?_
                          refine wp_if (fun c29 => ?_) (fun c29 => ?_)
                          · skip
                            unfold m_x6_advance_J281
                            refine wp_bn (w_x6_isLetter hRs21 (by show R2 r16; have : (0 : Int) ≤ gI s21 107 ∧ gI s21 107 ≤ 4 := hRs21.1 107; have : (0 : Int) ≤ gI s21 108 ∧ gI s21 108 ≤ 1600 := hRs21.1 108; have : (0 : Int) ≤ gI s21 109 ∧ gI s21 109 ≤ 1600 := hRs21.1 109; have : (0 : Int) ≤ gI s21 61 ∧ gI s21 61 ≤ 1600 := hRs21.1 61; have : gI s50 111 = r49 := q_II es50; have : gI s47 61 = gI s46 61 := q_Ii es47 (by decide); have : gI s46 61 = gI s66 61 := q_Ii es46 (by decide); have : gI s47 108 = gI s46 108 := q_Ii es47 (by decide); have : gI s46 108 = gI s66 108 := q_Ii es46 (by decide); have : (0 : Int) ≤ gI s66 108 ∧ gI s66 108 ≤ 1600 := hRs66.1 108; have : (0 : Int) ≤ gI s66 61 ∧ gI s66 61 ≤ 1600 := hRs66.1 61; have : (0 : Int) ≤ gI s 100 ∧ gI s 100 ≤ 5 := hRs.1 100; omega)) (fun r7 er7 hr7 => ?_)
                            have hr7_0 := hr7
                            have hr7_0 : r7 = 0 ∨ r7 = 1 := hr7_0
                            refine wp_rg (by have : (0 : Int) ≤ gI s21 107 ∧ gI s21 107 ≤ 4 := hRs21.1 107; have : (0 : Int) ≤ gI s21 108 ∧ gI s21 108 ≤ 1600 := hRs21.1 108; have : (0 : Int) ≤ gI s21 109 ∧ gI s21 109 ≤ 1600 := hRs21.1 109; have : (0 : Int) ≤ gI s21 61 ∧ gI s21 61 ≤ 1600 := hRs21.1 61; have : gI s50 111 = r49 := q_II es50; have : gI s47 61 = gI s46 61 := q_Ii es47 (by decide); have : gI s46 61 = gI s66 61 := q_Ii es46 (by decide); have : gI s47 108 = gI s46 108 := q_Ii es47 (by decide); have : gI s46 108 = gI s66 108 := q_Ii es46 (by decide); have : (0 : Int) ≤ gI s66 108 ∧ gI s66 108 ≤ 1600 := hRs66.1 108; have : (0 : Int) ≤ gI s66 61 ∧ gI s66 61 ≤ 1600 := hRs66.1 61; have : (0 : Int) ≤ gI s 100 ∧ gI s 100 ≤ 5 := hRs.1 100; omega) ?_
                            refine wp_if (fun c30 => ?_) (fun c30 => ?_)
                            · skip
                              refine wp_bn (w_x6_isDigit hRs21 (by show R2 r16; have : (0 : Int) ≤ gI s21 107 ∧ gI s21 107 ≤ 4 := hRs21.1 107; have : (0 : Int) ≤ gI s21 108 ∧ gI s21 108 ≤ 1600 := hRs21.1 108; have : (0 : Int) ≤ gI s21 109 ∧ gI s21 109 ≤ 1600 := hRs21.1 109; have : (0 : Int) ≤ gI s21 61 ∧ gI s21 61 ≤ 1600 := hRs21.1 61; have : gI s50 111 = r49 := q_II es50; have : gI s47 61 = gI s46 61 := q_Ii es47 (by decide); have : gI s46 61 = gI s66 61 := q_Ii es46 (by decide); have : gI s47 108 = gI s46 108 := q_Ii es47 (by decide); have : gI s46 108 = gI s66 108 := q_Ii es46 (by decide); have : (0 : Int) ≤ gI s66 108 ∧ gI s66 108 ≤ 1600 := hRs66.1 108; have : (0 : Int) ≤ gI s66 61 ∧ gI s66 61 ≤ 1600 := hRs66.1 61; have : (0 : Int) ≤ gI s 100 ∧ gI s 100 ≤ 5 := hRs.1 100; omega)) (fun r11 er11 hr11 => ?_)
                              have hr11_0 := hr11
                              have hr11_0 : r11 = 0 ∨ r11 = 1 := hr11_0
                              refine wp_rg (by have : (0 : Int) ≤ gI s21 107 ∧ gI s21 107 ≤ 4 := hRs21.1 107; have : (0 : Int) ≤ gI s21 108 ∧ gI s21 108 ≤ 1600 := hRs21.1 108; have : (0 : Int) ≤ gI s21 109 ∧ gI s21 109 ≤ 1600 := hRs21.1 109; have : (0 : Int) ≤ gI s21 61 ∧ gI s21 61 ≤ 1600 := hRs21.1 61; have : gI s50 111 = r49 := q_II es50; have : gI s47 61 = gI s46 61 := q_Ii es47 (by decide); have : gI s46 61 = gI s66 61 := q_Ii es46 (by decide); have : gI s47 108 = gI s46 108 := q_Ii es47 (by decide); have : gI s46 108 = gI s66 108 := q_Ii es46 (by decide); have : (0 : Int) ≤ gI s66 108 ∧ gI s66 108 ≤ 1600 := hRs66.1 108; have : (0 : Int) ≤ gI s66 61 ∧ gI s66 61 ≤ 1600 := hRs66.1 61; have : (0 : Int) ≤ gI s 100 ∧ gI s 100 ≤ 5 := hRs.1 100; omega) ?_
                              refine wp_if (fun c31 => ?_) (fun c31 => ?_)
                              · skip
                                unfold m_x6_advance_J300
                                exact wp_some (hRs21)
                              · skip
                                unfold m_x6_advance_J295
                                refine wp_stn (fun s3 es3 => ?_)
                                have hRs3 : Rg s3 := es3 ▸ Rg.uI hRs21 (by show (0 : Int) ≤ (4 : Int) ∧ (4 : Int) ≤ 4; have : (0 : Int) ≤ gI s21 107 ∧ gI s21 107 ≤ 4 := hRs21.1 107; have : (0 : Int) ≤ gI s21 108 ∧ gI s21 108 ≤ 1600 := hRs21.1 108; have : (0 : Int) ≤ gI s21 109 ∧ gI s21 109 ≤ 1600 := hRs21.1 109; have : (0 : Int) ≤ gI s21 61 ∧ gI s21 61 ≤ 1600 := hRs21.1 61; have : gI s50 111 = r49 := q_II es50; have : gI s47 61 = gI s46 61 := q_Ii es47 (by decide); have : gI s46 61 = gI s66 61 := q_Ii es46 (by decide); have : gI s47 108 = gI s46 108 := q_Ii es47 (by decide); have : gI s46 108 = gI s66 108 := q_Ii es46 (by decide); have : (0 : Int) ≤ gI s66 108 ∧ gI s66 108 ≤ 1600 := hRs66.1 108; have : (0 : Int) ≤ gI s66 61 ∧ gI s66 61 ≤ 1600 := hRs66.1 61; have : (0 : Int) ≤ gI s 100 ∧ gI s 100 ≤ 5 := hRs.1 100; omega)
                                unfold m_x6_advance_J300
                                exact wp_some (hRs3)
                            · skip
                              unfold m_x6_advance_J295
                              refine wp_stn (fun s3 es3 => ?_)
                              have hRs3 : Rg s3 := es3 ▸ Rg.uI hRs21 (by show (0 : Int) ≤ (4 : Int) ∧ (4 : Int) ≤ 4; have : (0 : Int) ≤ gI s21 107 ∧ gI s21 107 ≤ 4 := hRs21.1 107; have : (0 : Int) ≤ gI s21 108 ∧ gI s21 108 ≤ 1600 := hRs21.1 108; have : (0 : Int) ≤ gI s21 109 ∧ gI s21 109 ≤ 1600 := hRs21.1 109; have : (0 : Int) ≤ gI s21 61 ∧ gI s21 61 ≤ 1600 := hRs21.1 61; have : gI s50 111 = r49 := q_II es50; have : gI s47 61 = gI s46 61 := q_Ii es47 (by decide); have : gI s46 61 = gI s66 61 := q_Ii es46 (by decide); have : gI s47 108 = gI s46 108 := q_Ii es47 (by decide); have : gI s46 108 = gI s66 108 := q_Ii es46 (by decide); have : (0 : Int) ≤ gI s66 108 ∧ gI s66 108 ≤ 1600 := hRs66.1 108; have : (0 : Int) ≤ gI s66 61 ∧ gI s66 61 ≤ 1600 := hRs66.1 61; have : (0 : Int) ≤ gI s 100 ∧ gI s 100 ≤ 5 := hRs.1 100; omega)
                              unfold m_x6_advance_J300
                              exact wp_some (hRs3)
                          · skip
                            unfold m_x6_advance_J300
                            exact wp_some (hRs21)
                      · skip
                        refine wp_stn (fun s30 es30 => ?_)
                        have hRs30 : Rg s30 := es30 ▸ Rg.uI hRs21 (by show (0 : Int) ≤ ((gI s21 109) + 1) ∧ ((gI s21 109) + 1) ≤ 1600; have : (0 : Int) ≤ gI s21 61 ∧ gI s21 61 ≤ 1600 := hRs21.1 61; have : gI s50 111 = r49 := q_II es50; have : gI s47 61 = gI s46 61 := q_Ii es47 (by decide); have : gI s46 61 = gI s66 61 := q_Ii es46 (by decide); have : gI s47 108 = gI s46 108 := q_Ii es47 (by decide); have : gI s46 108 = gI s66 108 := q_Ii es46 (by decide); have : (0 : Int) ≤ gI s66 108 ∧ gI s66 108 ≤ 1600 := hRs66.1 108; have : (0 : Int) ≤ gI s66 61 ∧ gI s66 61 ≤ 1600 := hRs66.1 61; have : (0 : Int) ≤ gI s 100 ∧ gI s 100 ≤ 5 := hRs.1 100; have : (0 : Int) ≤ gI s21 109 ∧ gI s21 109 ≤ 1600 := hRs21.1 109; omega)
                        exact ih191 s30 hRs30 (by have : (0 : Int) ≤ gI s21 109 ∧ gI s21 109 ≤ 1600 := hRs21.1 109; have : (0 : Int) ≤ gI s21 61 ∧ gI s21 61 ≤ 1600 := hRs21.1 61; have : gI s50 111 = r49 := q_II es50; have : gI s47 61 = gI s46 61 := q_Ii es47 (by decide); have : gI s46 61 = gI s66 61 := q_Ii es46 (by decide); have : gI s47 108 = gI s46 108 := q_Ii es47 (by decide); have : gI s46 108 = gI s66 108 := q_Ii es46 (by decide); have : (0 : Int) ≤ gI s66 108 ∧ gI s66 108 ≤ 1600 := hRs66.1 108; have : (0 : Int) ≤ gI s66 61 ∧ gI s66 61 ≤ 1600 := hRs66.1 61; have : (0 : Int) ≤ gI s 100 ∧ gI s 100 ≤ 5 := hRs.1 100; have : gI s30 109 = (gI s21 109) + 1 := q_II es30; omega)
                exact L191 FU s63 hRs63 (by have := FU_big; have := FU_big2; have : gI s50 111 = r49 := q_II es50; have : gI s47 61 = gI s46 61 := q_Ii es47 (by decide); have : gI s46 61 = gI s66 61 := q_Ii es46 (by decide); have : gI s47 108 = gI s46 108 := q_Ii es47 (by decide); have : gI s46 108 = gI s66 108 := q_Ii es46 (by decide); have : (0 : Int) ≤ gI s66 108 ∧ gI s66 108 ≤ 1600 := hRs66.1 108; have : (0 : Int) ≤ gI s66 61 ∧ gI s66 61 ≤ 1600 := hRs66.1 61; have : (0 : Int) ≤ gI s 100 ∧ gI s 100 ≤ 5 := hRs.1 100; have : gI s63 109 = gI s50 109 := q_Ii es63 (by decide); have : gI s50 109 = gI s47 109 := q_Ii es50 (by decide); have : gI s47 109 = gI s46 109 := q_Ii es47 (by decide); have : gI s46 109 = gI s66 108 := q_II es46; omega)
            · skip
              refine wp_stn (fun s64 es64 => ?_)
              have hRs64 : Rg s64 := es64 ▸ Rg.uI hRs50 (by show (0 : Int) ≤ (1 : Int) ∧ (1 : Int) ≤ 4; have : gI s50 111 = r49 := q_II es50; have : gI s47 61 = gI s46 61 := q_Ii es47 (by decide); have : gI s46 61 = gI s66 61 := q_Ii es46 (by decide); have : gI s47 108 = gI s46 108 := q_Ii es47 (by decide); have : gI s46 108 = gI s66 108 := q_Ii es46 (by decide); have : (0 : Int) ≤ gI s66 108 ∧ gI s66 108 ≤ 1600 := hRs66.1 108; have : (0 : Int) ≤ gI s66 61 ∧ gI s66 61 ≤ 1600 := hRs66.1 61; have : (0 : Int) ≤ gI s 100 ∧ gI s 100 ≤ 5 := hRs.1 100; omega)
              have L120 : ∀ (n : Nat) (s35 : MS), Rg s35 → (1600 - gI s35 109) < (n : Int) → wp (m_x6_advance_L120 n s35) (fun o => (Rg o)) := by
                refine fr_ind (fun s35 hRs35  hm120 => ?_) (fun n120 ih120 s35 hRs35  hm120 => ?_)
                · exfalso; have : (0 : Int) ≤ gI s35 109 ∧ gI s35 109 ≤ 1600 := hRs35.1 109; omega
                · show wp (m_x6_advance_b120 (m_x6_advance_L120 n120) s35) _
                  unfold m_x6_advance_b120
                  refine wp_rg (by have : gI s50 111 = r49 := q_II es50; have : gI s47 61 = gI s46 61 := q_Ii es47 (by decide); have : gI s46 61 = gI s66 61 := q_Ii es46 (by decide); have : gI s47 108 = gI s46 108 := q_Ii es47 (by decide); have : gI s46 108 = gI s66 108 := q_Ii es46 (by decide); have : (0 : Int) ≤ gI s66 108 ∧ gI s66 108 ≤ 1600 := hRs66.1 108; have : (0 : Int) ≤ gI s66 61 ∧ gI s66 61 ≤ 1600 := hRs66.1 61; have : (0 : Int) ≤ gI s 100 ∧ gI s 100 ≤ 5 := hRs.1 100; have : (0 : Int) ≤ gI s35 109 ∧ gI s35 109 ≤ 1600 := hRs35.1 109; omega) ?_
                  refine wp_rg (by have : gI s50 111 = r49 := q_II es50; have : gI s47 61 = gI s46 61 := q_Ii es47 (by decide); have : gI s46 61 = gI s66 61 := q_Ii es46 (by decide); have : gI s47 108 = gI s46 108 := q_Ii es47 (by decide); have : gI s46 108 = gI s66 108 := q_Ii es46 (by decide); have : (0 : Int) ≤ gI s66 108 ∧ gI s66 108 ≤ 1600 := hRs66.1 108; have : (0 : Int) ≤ gI s66 61 ∧ gI s66 61 ≤ 1600 := hRs66.1 61; have : (0 : Int) ≤ gI s 100 ∧ gI s 100 ≤ 5 := hRs.1 100; have : (0 : Int) ≤ gI s35 61 ∧ gI s35 61 ≤ 1600 := hRs35.1 61; omega) ?_
                  refine wp_if (fun c32 => ?_) (fun c32 => ?_)
                  · skip
                    unfold m_x6_advance_J165
                    refine wp_bn (w_x6_wordNumber hRs35) (fun r33 er33 hr33 => ?_)
                    have hr33_0 := hr33
                    have hr33_0 : (-1) ≤ r33 ∧ r33 ≤ 179 := hr33_0
                    refine wp_stn (fun s34 es34 => ?_)
                    have hRs34 : Rg s34 := es34 ▸ Rg.uI hRs35 (by show (-1 : Int) ≤ r33 ∧ r33 ≤ 179; have : (0 : Int) ≤ gI s35 109 ∧ gI s35 109 ≤ 1600 := hRs35.1 109; have : (0 : Int) ≤ gI s35 61 ∧ gI s35 61 ≤ 1600 := hRs35.1 61; have : gI s50 111 = r49 := q_II es50; have : gI s47 61 = gI s46 61 := q_Ii es47 (by decide); have : gI s46 61 = gI s66 61 := q_Ii es46 (by decide); have : gI s47 108 = gI s46 108 := q_Ii es47 (by decide); have : gI s46 108 = gI s66 108 := q_Ii es46 (by decide); have : (0 : Int) ≤ gI s66 108 ∧ gI s66 108 ≤ 1600 := hRs66.1 108; have : (0 : Int) ≤ gI s66 61 ∧ gI s66 61 ≤ 1600 := hRs66.1 61; have : (0 : Int) ≤ gI s 100 ∧ gI s 100 ≤ 5 := hRs.1 100; omega)
                    unfold m_x6_advance_J251
                    refine wp_bn (w_x9_at hRs34 (by show R2 ((gI s34 108) - 1); have : (0 : Int) ≤ gI s35 109 ∧ gI s35 109 ≤ 1600 := hRs35.1 109; have : (0 : Int) ≤ gI s35 61 ∧ gI s35 61 ≤ 1600 := hRs35.1 61; have : gI s50 111 = r49 := q_II es50; have : gI s47 61 = gI s46 61 := q_Ii es47 (by decide); have : gI s46 61 = gI s66 61 := q_Ii es46 (by decide); have : gI s47 108 = gI s46 108 := q_Ii es47 (by decide); have : gI s46 108 = gI s66 108 := q_Ii es46 (by decide); have : (0 : Int) ≤ gI s66 108 ∧ gI s66 108 ≤ 1600 := hRs66.1 108; have : (0 : Int) ≤ gI s66 61 ∧ gI s66 61 ≤ 1600 := hRs66.1 61; have : (0 : Int) ≤ gI s 100 ∧ gI s 100 ≤ 5 := hRs.1 100; have : gI s34 108 = gI s35 108 := q_Ii es34 (by decide); have : (0 : Int) ≤ gI s35 108 ∧ gI s35 108 ≤ 1600 := hRs35.1 108; omega)) (fun r16 er16 hr16 => ?_)
                    obtain ⟨hr16_0, hr16_1⟩ := hr16
                    have hr16_0 : (-1) ≤ r16 ∧ r16 ≤ 255 := hr16_0
                    have hr16_1 : r16 ≠ -1 → 0 ≤ ((gI s34 108) - 1) ∧ ((gI s34 108) - 1) < gI s34 61 := hr16_1
                    refine wp_rg (by have : gI s34 61 = gI s35 61 := q_Ii es34 (by decide); have : gI s34 108 = gI s35 108 := q_Ii es34 (by decide); have : (0 : Int) ≤ gI s35 108 ∧ gI s35 108 ≤ 1600 := hRs35.1 108; have : (0 : Int) ≤ gI s35 109 ∧ gI s35 109 ≤ 1600 := hRs35.1 109; have : (0 : Int) ≤ gI s35 61 ∧ gI s35 61 ≤ 1600 := hRs35.1 61; have : gI s50 111 = r49 := q_II es50; have : gI s47 61 = gI s46 61 := q_Ii es47 (by decide); have : gI s46 61 = gI s66 61 := q_Ii es46 (by decide); have : gI s47 108 = gI s46 108 := q_Ii es47 (by decide); have : gI s46 108 = gI s66 108 := q_Ii es46 (by decide); have : (0 : Int) ≤ gI s66 108 ∧ gI s66 108 ≤ 1600 := hRs66.1 108; have : (0 : Int) ≤ gI s66 61 ∧ gI s66 61 ≤ 1600 := hRs66.1 61; have : (0 : Int) ≤ gI s 100 ∧ gI s 100 ≤ 5 := hRs.1 100; have : gI s34 107 = gI s35 107 := q_Ii es34 (by decide); have : (0 : Int) ≤ gI s35 107 ∧ gI s35 107 ≤ 4 := hRs35.1 107; omega) ?_
                    refine wp_if (fun c33 => ?_) (fun c33 => ?_)
                    · skip
                      unfold m_x6_advance_J281
                      refine wp_bn (w_x6_isLetter hRs34 (by show R2 r16; have : gI s34 107 = gI s35 107 := q_Ii es34 (by decide); have : (0 : Int) ≤ gI s35 107 ∧ gI s35 107 ≤ 4 := hRs35.1 107; have : gI s34 61 = gI s35 61 := q_Ii es34 (by decide); have : gI s34 108 = gI s35 108 := q_Ii es34 (by decide); have : (0 : Int) ≤ gI s35 108 ∧ gI s35 108 ≤ 1600 := hRs35.1 108; have : (0 : Int) ≤ gI s35 109 ∧ gI s35 109 ≤ 1600 := hRs35.1 109; have : (0 : Int) ≤ gI s35 61 ∧ gI s35 61 ≤ 1600 := hRs35.1 61; have : gI s50 111 = r49 := q_II es50; have : gI s47 61 = gI s46 61 := q_Ii es47 (by decide); have : gI s46 61 = gI s66 61 := q_Ii es46 (by decide); have : gI s47 108 = gI s46 108 := q_Ii es47 (by decide); have : gI s46 108 = gI s66 108 := q_Ii es46 (by decide); have : (0 : Int) ≤ gI s66 108 ∧ gI s66 108 ≤ 1600 := hRs66.1 108; have : (0 : Int) ≤ gI s66 61 ∧ gI s66 61 ≤ 1600 := hRs66.1 61; have : (0 : Int) ≤ gI s 100 ∧ gI s 100 ≤ 5 := hRs.1 100; omega)) (fun r7 er7 hr7 => ?_)
                      have hr7_0 := hr7
                      have hr7_0 : r7 = 0 ∨ r7 = 1 := hr7_0
                      refine wp_rg (by have : gI s34 107 = gI s35 107 := q_Ii es34 (by decide); have : (0 : Int) ≤ gI s35 107 ∧ gI s35 107 ≤ 4 := hRs35.1 107; have : gI s34 61 = gI s35 61 := q_Ii es34 (by decide); have : gI s34 108 = gI s35 108 := q_Ii es34 (by decide); have : (0 : Int) ≤ gI s35 108 ∧ gI s35 108 ≤ 1600 := hRs35.1 108; have : (0 : Int) ≤ gI s35 109 ∧ gI s35 109 ≤ 1600 := hRs35.1 109; have : (0 : Int) ≤ gI s35 61 ∧ gI s35 61 ≤ 1600 := hRs35.1 61; have : gI s50 111 = r49 := q_II es50; have : gI s47 61 = gI s46 61 := q_Ii es47 (by decide); have : gI s46 61 = gI s66 61 := q_Ii es46 (by decide); have : gI s47 108 = gI s46 108 := q_Ii es47 (by decide); have : gI s46 108 = gI s66 108 := q_Ii es46 (by decide); have : (0 : Int) ≤ gI s66 108 ∧ gI s66 108 ≤ 1600 := hRs66.1 108; have : (0 : Int) ≤ gI s66 61 ∧ gI s66 61 ≤ 1600 := hRs66.1 61; have : (0 : Int) ≤ gI s 100 ∧ gI s 100 ≤ 5 := hRs.1 100; omega) ?_
                      refine wp_if (fun c34 => ?_) (fun c34 => ?_)
                      · skip
                        refine wp_bn (w_x6_isDigit hRs34 (by show R2 r16; have : gI s34 107 = gI s35 107 := q_Ii es34 (by decide); have : (0 : Int) ≤ gI s35 107 ∧ gI s35 107 ≤ 4 := hRs35.1 107; have : gI s34 61 = gI s35 61 := q_Ii es34 (by decide); have : gI s34 108 = gI s35 108 := q_Ii es34 (by decide); have : (0 : Int) ≤ gI s35 108 ∧ gI s35 108 ≤ 1600 := hRs35.1 108; have : (0 : Int) ≤ gI s35 109 ∧ gI s35 109 ≤ 1600 := hRs35.1 109; have : (0 : Int) ≤ gI s35 61 ∧ gI s35 61 ≤ 1600 := hRs35.1 61; have : gI s50 111 = r49 := q_II es50; have : gI s47 61 = gI s46 61 := q_Ii es47 (by decide); have : gI s46 61 = gI s66 61 := q_Ii es46 (by decide); have : gI s47 108 = gI s46 108 := q_Ii es47 (by decide); have : gI s46 108 = gI s66 108 := q_Ii es46 (by decide); have : (0 : Int) ≤ gI s66 108 ∧ gI s66 108 ≤ 1600 := hRs66.1 108; have : (0 : Int) ≤ gI s66 61 ∧ gI s66 61 ≤ 1600 := hRs66.1 61; have : (0 : Int) ≤ gI s 100 ∧ gI s 100 ≤ 5 := hRs.1 100; omega)) (fun r11 er11 hr11 => ?_)
                        have hr11_0 := hr11
                        have hr11_0 : r11 = 0 ∨ r11 = 1 := hr11_0
                        refine wp_rg (by have : gI s34 107 = gI s35 107 := q_Ii es34 (by decide); have : (0 : Int) ≤ gI s35 107 ∧ gI s35 107 ≤ 4 := hRs35.1 107; have : gI s34 61 = gI s35 61 := q_Ii es34 (by decide); have : gI s34 108 = gI s35 108 := q_Ii es34 (by decide); have : (0 : Int) ≤ gI s35 108 ∧ gI s35 108 ≤ 1600 := hRs35.1 108; have : (0 : Int) ≤ gI s35 109 ∧ gI s35 109 ≤ 1600 := hRs35.1 109; have : (0 : Int) ≤ gI s35 61 ∧ gI s35 61 ≤ 1600 := hRs35.1 61; have : gI s50 111 = r49 := q_II es50; have : gI s47 61 = gI s46 61 := q_Ii es47 (by decide); have : gI s46 61 = gI s66 61 := q_Ii es46 (by decide); have : gI s47 108 = gI s46 108 := q_Ii es47 (by decide); have : gI s46 108 = gI s66 108 := q_Ii es46 (by decide); have : (0 : Int) ≤ gI s66 108 ∧ gI s66 108 ≤ 1600 := hRs66.1 108; have : (0 : Int) ≤ gI s66 61 ∧ gI s66 61 ≤ 1600 := hRs66.1 61; have : (0 : Int) ≤ gI s 100 ∧ gI s 100 ≤ 5 := hRs.1 100; omega) ?_
                        refine wp_if (fun c35 => ?_) (fun c35 => ?_)
                        · skip
                          unfold m_x6_advance_J300
                          exact wp_some (hRs34)
                        · skip
                          unfold m_x6_advance_J295
                          refine wp_stn (fun s3 es3 => ?_)
                          have hRs3 : Rg s3 := es3 ▸ Rg.uI hRs34 (by show (0 : Int) ≤ (4 : Int) ∧ (4 : Int) ≤ 4; have : gI s34 107 = gI s35 107 := q_Ii es34 (by decide); have : (0 : Int) ≤ gI s35 107 ∧ gI s35 107 ≤ 4 := hRs35.1 107; have : gI s34 61 = gI s35 61 := q_Ii es34 (by decide); have : gI s34 108 = gI s35 108 := q_Ii es34 (by decide); have : (0 : Int) ≤ gI s35 108 ∧ gI s35 108 ≤ 1600 := hRs35.1 108; have : (0 : Int) ≤ gI s35 109 ∧ gI s35 109 ≤ 1600 := hRs35.1 109; have : (0 : Int) ≤ gI s35 61 ∧ gI s35 61 ≤ 1600 := hRs35.1 61; have : gI s50 111 = r49 := q_II es50; have : gI s47 61 = gI s46 61 := q_Ii es47 (by decide); have : gI s46 61 = gI s66 61 := q_Ii es46 (by decide); have : gI s47 108 = gI s46 108 := q_Ii es47 (by decide); have : gI s46 108 = gI s66 108 := q_Ii es46 (by decide); have : (0 : Int) ≤ gI s66 108 ∧ gI s66 108 ≤ 1600 := hRs66.1 108; have : (0 : Int) ≤ gI s66 61 ∧ gI s66 61 ≤ 1600 := hRs66.1 61; have : (0 : Int) ≤ gI s 100 ∧ gI s 100 ≤ 5 := hRs.1 100; omega)
                          unfold m_x6_advance_J300
                          exact wp_some (hRs3)
                      · skip
                        unfold m_x6_advance_J295
                        refine wp_stn (fun s3 es3 => ?_)
                        have hRs3 : Rg s3 := es3 ▸ Rg.uI hRs34 (by show (0 : Int) ≤ (4 : Int) ∧ (4 : Int) ≤ 4; have : gI s34 107 = gI s35 107 := q_Ii es34 (by decide); have : (0 : Int) ≤ gI s35 107 ∧ gI s35 107 ≤ 4 := hRs35.1 107; have : gI s34 61 = gI s35 61 := q_Ii es34 (by decide); have : gI s34 108 = gI s35 108 := q_Ii es34 (by decide); have : (0 : Int) ≤ gI s35 108 ∧ gI s35 108 ≤ 1600 := hRs35.1 108; have : (0 : Int) ≤ gI s35 109 ∧ gI s35 109 ≤ 1600 := hRs35.1 109; have : (0 : Int) ≤ gI s35 61 ∧ gI s35 61 ≤ 1600 := hRs35.1 61; have : gI s50 111 = r49 := q_II es50; have : gI s47 61 = gI s46 61 := q_Ii es47 (by decide); have : gI s46 61 = gI s66 61 := q_Ii es46 (by decide); have : gI s47 108 = gI s46 108 := q_Ii es47 (by decide); have : gI s46 108 = gI s66 108 := q_Ii es46 (by decide); have : (0 : Int) ≤ gI s66 108 ∧ gI s66 108 ≤ 1600 := hRs66.1 108; have : (0 : Int) ≤ gI s66 61 ∧ gI s66 61 ≤ 1600 := hRs66.1 61; have : (0 : Int) ≤ gI s 100 ∧ gI s 100 ≤ 5 := hRs.1 100; omega)
                        unfold m_x6_advance_J300
                        exact wp_some (hRs3)
                    · skip
                      refine wp_rg (by have : gI s34 61 = gI s35 61 := q_Ii es34 (by decide); have : gI s34 108 = gI s35 108 := q_Ii es34 (by decide); have : (0 : Int) ≤ gI s35 108 ∧ gI s35 108 ≤ 1600 := hRs35.1 108; have : (0 : Int) ≤ gI s35 109 ∧ gI s35 109 ≤ 1600 := hRs35.1 109; have : (0 : Int) ≤ gI s35 61 ∧ gI s35 61 ≤ 1600 := hRs35.1 61; have : gI s50 111 = r49 := q_II es50; have : gI s47 61 = gI s46 61 := q_Ii es47 (by decide); have : gI s46 61 = gI s66 61 := q_Ii es46 (by decide); have : gI s47 108 = gI s46 108 := q_Ii es47 (by decide); have : gI s46 108 = gI s66 108 := q_Ii es46 (by decide); have : (0 : Int) ≤ gI s66 108 ∧ gI s66 108 ≤ 1600 := hRs66.1 108; have : (0 : Int) ≤ gI s66 61 ∧ gI s66 61 ≤ 1600 := hRs66.1 61; have : (0 : Int) ≤ gI s 100 ∧ gI s 100 ≤ 5 := hRs.1 100; have : gI s34 107 = gI s35 107 := q_Ii es34 (by decide); have : (0 : Int) ≤ gI s35 107 ∧ gI s35 107 ≤ 4 := hRs35.1 107; omega) ?_
                      refine wp_if (fun c36 => ?_) (fun c36 => ?_)
                      · skip
                        unfold m_x6_advance_J281
                        refine wp_bn (w_x6_isLetter hRs34 (by show R2 r16; have : gI s34 107 = gI s35 107 := q_Ii es34 (by decide); have : (0 : Int) ≤ gI s35 107 ∧ gI s35 107 ≤ 4 := hRs35.1 107; have : gI s34 61 = gI s35 61 := q_Ii es34 (by decide); have : gI s34 108 = gI s35 108 := q_Ii es34 (by decide); have : (0 : Int) ≤ gI s35 108 ∧ gI s35 108 ≤ 1600 := hRs35.1 108; have : (0 : Int) ≤ gI s35 109 ∧ gI s35 109 ≤ 1600 := hRs35.1 109; have : (0 : Int) ≤ gI s35 61 ∧ gI s35 61 ≤ 1600 := hRs35.1 61; have : gI s50 111 = r49 := q_II es50; have : gI s47 61 = gI s46 61 := q_Ii es47 (by decide); have : gI s46 61 = gI s66 61 := q_Ii es46 (by decide); have : gI s47 108 = gI s46 108 := q_Ii es47 (by decide); have : gI s46 108 = gI s66 108 := q_Ii es46 (by decide); have : (0 : Int) ≤ gI s66 108 ∧ gI s66 108 ≤ 1600 := hRs66.1 108; have : (0 : Int) ≤ gI s66 61 ∧ gI s66 61 ≤ 1600 := hRs66.1 61; have : (0 : Int) ≤ gI s 100 ∧ gI s 100 ≤ 5 := hRs.1 100; omega)) (fun r7 er7 hr7 => ?_)
                        have hr7_0 := hr7
                        have hr7_0 : r7 = 0 ∨ r7 = 1 := hr7_0
                        refine wp_rg (by have : gI s34 107 = gI s35 107 := q_Ii es34 (by decide); have : (0 : Int) ≤ gI s35 107 ∧ gI s35 107 ≤ 4 := hRs35.1 107; have : gI s34 61 = gI s35 61 := q_Ii es34 (by decide); have : gI s34 108 = gI s35 108 := q_Ii es34 (by decide); have : (0 : Int) ≤ gI s35 108 ∧ gI s35 108 ≤ 1600 := hRs35.1 108; have : (0 : Int) ≤ gI s35 109 ∧ gI s35 109 ≤ 1600 := hRs35.1 109; have : (0 : Int) ≤ gI s35 61 ∧ gI s35 61 ≤ 1600 := hRs35.1 61; have : gI s50 111 = r49 := q_II es50; have : gI s47 61 = gI s46 61 := q_Ii es47 (by decide); have : gI s46 61 = gI s66 61 := q_Ii es46 (by decide); have : gI s47 108 = gI s46 108 := q_Ii es47 (by decide); have : gI s46 108 = gI s66 108 := q_Ii es46 (by decide); have : (0 : Int) ≤ gI s66 108 ∧ gI s66 108 ≤ 1600 := hRs66.1 108; have : (0 : Int) ≤ gI s66 61 ∧ gI s66 61 ≤ 1600 := hRs66.1 61; have : (0 : Int) ≤ gI s 100 ∧ gI s 100 ≤ 5 := hRs.1 100; omega) ?_
                        refine wp_if (fun c37 => ?_) (fun c37 => ?_)
                        · skip
                          refine wp_bn (w_x6_isDigit hRs34 (by show R2 r16; have : gI s34 107 = gI s35 107 := q_Ii es34 (by decide); have : (0 : Int) ≤ gI s35 107 ∧ gI s35 107 ≤ 4 := hRs35.1 107; have : gI s34 61 = gI s35 61 := q_Ii es34 (by decide); have : gI s34 108 = gI s35 108 := q_Ii es34 (by decide); have : (0 : Int) ≤ gI s35 108 ∧ gI s35 108 ≤ 1600 := hRs35.1 108; have : (0 : Int) ≤ gI s35 109 ∧ gI s35 109 ≤ 1600 := hRs35.1 109; have : (0 : Int) ≤ gI s35 61 ∧ gI s35 61 ≤ 1600 := hRs35.1 61; have : gI s50 111 = r49 := q_II es50; have : gI s47 61 = gI s46 61 := q_Ii es47 (by decide); have : gI s46 61 = gI s66 61 := q_Ii es46 (by decide); have : gI s47 108 = gI s46 108 := q_Ii es47 (by decide); have : gI s46 108 = gI s66 108 := q_Ii es46 (by decide); have : (0 : Int) ≤ gI s66 108 ∧ gI s66 108 ≤ 1600 := hRs66.1 108; have : (0 : Int) ≤ gI s66 61 ∧ gI s66 61 ≤ 1600 := hRs66.1 61; have : (0 : Int) ≤ gI s 100 ∧ gI s 100 ≤ 5 := hRs.1 100; omega)) (fun r11 er11 hr11 => ?_)
                          have hr11_0 := hr11
                          have hr11_0 : r11 = 0 ∨ r11 = 1 := hr11_0
                          refine wp_rg (by have : gI s34 107 = gI s35 107 := q_Ii es34 (by decide); have : (0 : Int) ≤ gI s35 107 ∧ gI s35 107 ≤ 4 := hRs35.1 107; have : gI s34 61 = gI s35 61 := q_Ii es34 (by decide); have : gI s34 108 = gI s35 108 := q_Ii es34 (by decide); have : (0 : Int) ≤ gI s35 108 ∧ gI s35 108 ≤ 1600 := hRs35.1 108; have : (0 : Int) ≤ gI s35 109 ∧ gI s35 109 ≤ 1600 := hRs35.1 109; have : (0 : Int) ≤ gI s35 61 ∧ gI s35 61 ≤ 1600 := hRs35.1 61; have : gI s50 111 = r49 := q_II es50; have : gI s47 61 = gI s46 61 := q_Ii es47 (by decide); have : gI s46 61 = gI s66 61 := q_Ii es46 (by decide); have : gI s47 108 = gI s46 108 := q_Ii es47 (by decide); have : gI s46 108 = gI s66 108 := q_Ii es46 (by decide); have : (0 : Int) ≤ gI s66 108 ∧ gI s66 108 ≤ 1600 := hRs66.1 108; have : (0 : Int) ≤ gI s66 61 ∧ gI s66 61 ≤ 1600 := hRs66.1 61; have : (0 : Int) ≤ gI s 100 ∧ gI s 100 ≤ 5 := hRs.1 100; omega) ?_
                          refine wp_if (fun c38 => ?_) (fun c38 => ?_)
                          · skip
                            unfold m_x6_advance_J300
                            exact wp_some (hRs34)
                          · skip
                            unfold m_x6_advance_J295
                            refine wp_stn (fun s3 es3 => ?_)
                            have hRs3 : Rg s3 := es3 ▸ Rg.uI hRs34 (by show (0 : Int) ≤ (4 : Int) ∧ (4 : Int) ≤ 4; have : gI s34 107 = gI s35 107 := q_Ii es34 (by decide); have : (0 : Int) ≤ gI s35 107 ∧ gI s35 107 ≤ 4 := hRs35.1 107; have : gI s34 61 = gI s35 61 := q_Ii es34 (by decide); have : gI s34 108 = gI s35 108 := q_Ii es34 (by decide); have : (0 : Int) ≤ gI s35 108 ∧ gI s35 108 ≤ 1600 := hRs35.1 108; have : (0 : Int) ≤ gI s35 109 ∧ gI s35 109 ≤ 1600 := hRs35.1 109; have : (0 : Int) ≤ gI s35 61 ∧ gI s35 61 ≤ 1600 := hRs35.1 61; have : gI s50 111 = r49 := q_II es50; have : gI s47 61 = gI s46 61 := q_Ii es47 (by decide); have : gI s46 61 = gI s66 61 := q_Ii es46 (by decide); have : gI s47 108 = gI s46 108 := q_Ii es47 (by decide); have : gI s46 108 = gI s66 108 := q_Ii es46 (by decide); have : (0 : Int) ≤ gI s66 108 ∧ gI s66 108 ≤ 1600 := hRs66.1 108; have : (0 : Int) ≤ gI s66 61 ∧ gI s66 61 ≤ 1600 := hRs66.1 61; have : (0 : Int) ≤ gI s 100 ∧ gI s 100 ≤ 5 := hRs.1 100; omega)
                            unfold m_x6_advance_J300
                            exact wp_some (hRs3)
                        · skip
                          unfold m_x6_advance_J295
                          refine wp_stn (fun s3 es3 => ?_)
                          have hRs3 : Rg s3 := es3 ▸ Rg.uI hRs34 (by show (0 : Int) ≤ (4 : Int) ∧ (4 : Int) ≤ 4; have : gI s34 107 = gI s35 107 := q_Ii es34 (by decide); have : (0 : Int) ≤ gI s35 107 ∧ gI s35 107 ≤ 4 := hRs35.1 107; have : gI s34 61 = gI s35 61 := q_Ii es34 (by decide); have : gI s34 108 = gI s35 108 := q_Ii es34 (by decide); have : (0 : Int) ≤ gI s35 108 ∧ gI s35 108 ≤ 1600 := hRs35.1 108; have : (0 : Int) ≤ gI s35 109 ∧ gI s35 109 ≤ 1600 := hRs35.1 109; have : (0 : Int) ≤ gI s35 61 ∧ gI s35 61 ≤ 1600 := hRs35.1 61; have : gI s50 111 = r49 := q_II es50; have : gI s47 61 = gI s46 61 := q_Ii es47 (by decide); have : gI s46 61 = gI s66 61 := q_Ii es46 (by decide); have : gI s47 108 = gI s46 108 := q_Ii es47 (by decide); have : gI s46 108 = gI s66 108 := q_Ii es46 (by decide); have : (0 : Int) ≤ gI s66 108 ∧ gI s66 108 ≤ 1600 := hRs66.1 108; have : (0 : Int) ≤ gI s66 61 ∧ gI s66 61 ≤ 1600 := hRs66.1 61; have : (0 : Int) ≤ gI s 100 ∧ gI s 100 ≤ 5 := hRs.1 100; omega)
                          unfold m_x6_advance_J300
                          exact wp_some (hRs3)
                      · skip
                        unfold m_x6_advance_J300
                        exact wp_some (hRs34)
                  · skip
                    refine wp_rdIn (by have : (0 : Int) ≤ gI s35 61 ∧ gI s35 61 ≤ 1600 := hRs35.1 61; have : gI s50 111 = r49 := q_II es50; have : gI s47 61 = gI s46 61 := q_Ii es47 (by decide); have : gI s46 61 = gI s66 61 := q_Ii es46 (by decide); have : gI s47 108 = gI s46 108 := q_Ii es47 (by decide); have : gI s46 108 = gI s66 108 := q_Ii es46 (by decide); have : (0 : Int) ≤ gI s66 108 ∧ gI s66 108 ≤ 1600 := hRs66.1 108; have : (0 : Int) ≤ gI s66 61 ∧ gI s66 61 ≤ 1600 := hRs66.1 61; have : (0 : Int) ≤ gI s 100 ∧ gI s 100 ≤ 5 := hRs.1 100; have : (0 : Int) ≤ gI s35 109 ∧ gI s35 109 ≤ 1600 := hRs35.1 109; omega) (fun y39 ey39 => ?_)
                    have by39 : (0 : Int) ≤ y39 ∧ y39 ≤ 255 := ey39 ▸ hRs35.2.1 4 _ (by show _ < 1600; have : (0 : Int) ≤ gI s35 61 ∧ gI s35 61 ≤ 1600 := hRs35.1 61; have : gI s50 111 = r49 := q_II es50; have : gI s47 61 = gI s46 61 := q_Ii es47 (by decide); have : gI s46 61 = gI s66 61 := q_Ii es46 (by decide); have : gI s47 108 = gI s46 108 := q_Ii es47 (by decide); have : gI s46 108 = gI s66 108 := q_Ii es46 (by decide); have : (0 : Int) ≤ gI s66 108 ∧ gI s66 108 ≤ 1600 := hRs66.1 108; have : (0 : Int) ≤ gI s66 61 ∧ gI s66 61 ≤ 1600 := hRs66.1 61; have : (0 : Int) ≤ gI s 100 ∧ gI s 100 ≤ 5 := hRs.1 100; have : (0 : Int) ≤ gI s35 109 ∧ gI s35 109 ≤ 1600 := hRs35.1 109; omega)
                    refine wp_bn (w_x6_isLetter hRs35 (by show R2 y39; have : (0 : Int) ≤ gI s35 109 ∧ gI s35 109 ≤ 1600 := hRs35.1 109; have : (0 : Int) ≤ gI s35 61 ∧ gI s35 61 ≤ 1600 := hRs35.1 61; have : gI s50 111 = r49 := q_II es50; have : gI s47 61 = gI s46 61 := q_Ii es47 (by decide); have : gI s46 61 = gI s66 61 := q_Ii es46 (by decide); have : gI s47 108 = gI s46 108 := q_Ii es47 (by decide); have : gI s46 108 = gI s66 108 := q_Ii es46 (by decide); have : (0 : Int) ≤ gI s66 108 ∧ gI s66 108 ≤ 1600 := hRs66.1 108; have : (0 : Int) ≤ gI s66 61 ∧ gI s66 61 ≤ 1600 := hRs66.1 61; have : (0 : Int) ≤ gI s 100 ∧ gI s 100 ≤ 5 := hRs.1 100; omega)) (fun r41 er41 hr41 => ?_)
                    have hr41_0 := hr41
                    have hr41_0 : r41 = 0 ∨ r41 = 1 := hr41_0
                    refine wp_rg (by have : (0 : Int) ≤ gI s35 109 ∧ gI s35 109 ≤ 1600 := hRs35.1 109; have : (0 : Int) ≤ gI s35 61 ∧ gI s35 61 ≤ 1600 := hRs35.1 61; have : gI s50 111 = r49 := q_II es50; have : gI s47 61 = gI s46 61 := q_Ii es47 (by decide); have : gI s46 61 = gI s66 61 := q_Ii es46 (by decide); have : gI s47 108 = gI s46 108 := q_Ii es47 (by decide); have : gI s46 108 = gI s66 108 := q_Ii es46 (by decide); have : (0 : Int) ≤ gI s66 108 ∧ gI s66 108 ≤ 1600 := hRs66.1 108; have : (0 : Int) ≤ gI s66 61 ∧ gI s66 61 ≤ 1600 := hRs66.1 61; have : (0 : Int) ≤ gI s 100 ∧ gI s 100 ≤ 5 := hRs.1 100; omega) ?_
                    refine wp_if (fun c39 => ?_) (fun c39 => ?_)
                    · skip
                      unfold m_x6_advance_J165
                      refine wp_bn (w_x6_wordNumber hRs35) (fun r33 er33 hr33 => ?_)
                      have hr33_0 := hr33
                      have hr33_0 : (-1) ≤ r33 ∧ r33 ≤ 179 := hr33_0
                      refine wp_stn (fun s34 es34 => ?_)
                      have hRs34 : Rg s34 := es34 ▸ Rg.uI hRs35 (by show (-1 : Int) ≤ r33 ∧ r33 ≤ 179; have : (0 : Int) ≤ gI s35 109 ∧ gI s35 109 ≤ 1600 := hRs35.1 109; have : (0 : Int) ≤ gI s35 61 ∧ gI s35 61 ≤ 1600 := hRs35.1 61; have : gI s50 111 = r49 := q_II es50; have : gI s47 61 = gI s46 61 := q_Ii es47 (by decide); have : gI s46 61 = gI s66 61 := q_Ii es46 (by decide); have : gI s47 108 = gI s46 108 := q_Ii es47 (by decide); have : gI s46 108 = gI s66 108 := q_Ii es46 (by decide); have : (0 : Int) ≤ gI s66 108 ∧ gI s66 108 ≤ 1600 := hRs66.1 108; have : (0 : Int) ≤ gI s66 61 ∧ gI s66 61 ≤ 1600 := hRs66.1 61; have : (0 : Int) ≤ gI s 100 ∧ gI s 100 ≤ 5 := hRs.1 100; omega)
                      unfold m_x6_advance_J251
                      refine wp_bn (w_x9_at hRs34 (by show R2 ((gI s34 108) - 1); have : (0 : Int) ≤ gI s35 109 ∧ gI s35 109 ≤ 1600 := hRs35.1 109; have : (0 : Int) ≤ gI s35 61 ∧ gI s35 61 ≤ 1600 := hRs35.1 61; have : gI s50 111 = r49 := q_II es50; have : gI s47 61 = gI s46 61 := q_Ii es47 (by decide); have : gI s46 61 = gI s66 61 := q_Ii es46 (by decide); have : gI s47 108 = gI s46 108 := q_Ii es47 (by decide); have : gI s46 108 = gI s66 108 := q_Ii es46 (by decide); have : (0 : Int) ≤ gI s66 108 ∧ gI s66 108 ≤ 1600 := hRs66.1 108; have : (0 : Int) ≤ gI s66 61 ∧ gI s66 61 ≤ 1600 := hRs66.1 61; have : (0 : Int) ≤ gI s 100 ∧ gI s 100 ≤ 5 := hRs.1 100; have : gI s34 108 = gI s35 108 := q_Ii es34 (by decide); have : (0 : Int) ≤ gI s35 108 ∧ gI s35 108 ≤ 1600 := hRs35.1 108; omega)) (fun r16 er16 hr16 => ?_)
                      obtain ⟨hr16_0, hr16_1⟩ := hr16
                      have hr16_0 : (-1) ≤ r16 ∧ r16 ≤ 255 := hr16_0
                      have hr16_1 : r16 ≠ -1 → 0 ≤ ((gI s34 108) - 1) ∧ ((gI s34 108) - 1) < gI s34 61 := hr16_1
                      refine wp_rg (by have : gI s34 61 = gI s35 61 := q_Ii es34 (by decide); have : gI s34 108 = gI s35 108 := q_Ii es34 (by decide); have : (0 : Int) ≤ gI s35 108 ∧ gI s35 108 ≤ 1600 := hRs35.1 108; have : (0 : Int) ≤ gI s35 109 ∧ gI s35 109 ≤ 1600 := hRs35.1 109; have : (0 : Int) ≤ gI s35 61 ∧ gI s35 61 ≤ 1600 := hRs35.1 61; have : gI s50 111 = r49 := q_II es50; have : gI s47 61 = gI s46 61 := q_Ii es47 (by decide); have : gI s46 61 = gI s66 61 := q_Ii es46 (by decide); have : gI s47 108 = gI s46 108 := q_Ii es47 (by decide); have : gI s46 108 = gI s66 108 := q_Ii es46 (by decide); have : (0 : Int) ≤ gI s66 108 ∧ gI s66 108 ≤ 1600 := hRs66.1 108; have : (0 : Int) ≤ gI s66 61 ∧ gI s66 61 ≤ 1600 := hRs66.1 61; have : (0 : Int) ≤ gI s 100 ∧ gI s 100 ≤ 5 := hRs.1 100; have : gI s34 107 = gI s35 107 := q_Ii es34 (by decide); have : (0 : Int) ≤ gI s35 107 ∧ gI s35 107 ≤ 4 := hRs35.1 107; omega) ?_
                      refine wp_if (fun c40 => ?_) (fun c40 => ?_)
                      · skip
                        unfold m_x6_advance_J281
                        refine wp_bn (w_x6_isLetter hRs34 (by show R2 r16; have : gI s34 107 = gI s35 107 := q_Ii es34 (by decide); have : (0 : Int) ≤ gI s35 107 ∧ gI s35 107 ≤ 4 := hRs35.1 107; have : gI s34 61 = gI s35 61 := q_Ii es34 (by decide); have : gI s34 108 = gI s35 108 := q_Ii es34 (by decide); have : (0 : Int) ≤ gI s35 108 ∧ gI s35 108 ≤ 1600 := hRs35.1 108; have : (0 : Int) ≤ gI s35 109 ∧ gI s35 109 ≤ 1600 := hRs35.1 109; have : (0 : Int) ≤ gI s35 61 ∧ gI s35 61 ≤ 1600 := hRs35.1 61; have : gI s50 111 = r49 := q_II es50; have : gI s47 61 = gI s46 61 := q_Ii es47 (by decide); have : gI s46 61 = gI s66 61 := q_Ii es46 (by decide); have : gI s47 108 = gI s46 108 := q_Ii es47 (by decide); have : gI s46 108 = gI s66 108 := q_Ii es46 (by decide); have : (0 : Int) ≤ gI s66 108 ∧ gI s66 108 ≤ 1600 := hRs66.1 108; have : (0 : Int) ≤ gI s66 61 ∧ gI s66 61 ≤ 1600 := hRs66.1 61; have : (0 : Int) ≤ gI s 100 ∧ gI s 100 ≤ 5 := hRs.1 100; omega)) (fun r7 er7 hr7 => ?_)
                        have hr7_0 := hr7
                        have hr7_0 : r7 = 0 ∨ r7 = 1 := hr7_0
                        refine wp_rg (by have : gI s34 107 = gI s35 107 := q_Ii es34 (by decide); have : (0 : Int) ≤ gI s35 107 ∧ gI s35 107 ≤ 4 := hRs35.1 107; have : gI s34 61 = gI s35 61 := q_Ii es34 (by decide); have : gI s34 108 = gI s35 108 := q_Ii es34 (by decide); have : (0 : Int) ≤ gI s35 108 ∧ gI s35 108 ≤ 1600 := hRs35.1 108; have : (0 : Int) ≤ gI s35 109 ∧ gI s35 109 ≤ 1600 := hRs35.1 109; have : (0 : Int) ≤ gI s35 61 ∧ gI s35 61 ≤ 1600 := hRs35.1 61; have : gI s50 111 = r49 := q_II es50; have : gI s47 61 = gI s46 61 := q_Ii es47 (by decide); have : gI s46 61 = gI s66 61 := q_Ii es46 (by decide); have : gI s47 108 = gI s46 108 := q_Ii es47 (by decide); have : gI s46 108 = gI s66 108 := q_Ii es46 (by decide); have : (0 : Int) ≤ gI s66 108 ∧ gI s66 108 ≤ 1600 := hRs66.1 108; have : (0 : Int) ≤ gI s66 61 ∧ gI s66 61 ≤ 1600 := hRs66.1 61; have : (0 : Int) ≤ gI s 100 ∧ gI s 100 ≤ 5 := hRs.1 100; omega) ?_
                        refine wp_if (fun c41 => ?_) (fun c41 => ?_)
                        · skip
                          refine wp_bn (w_x6_isDigit hRs34 (by show R2 r16; have : gI s34 107 = gI s35 107 := q_Ii es34 (by decide); have : (0 : Int) ≤ gI s35 107 ∧ gI s35 107 ≤ 4 := hRs35.1 107; have : gI s34 61 = gI s35 61 := q_Ii es34 (by decide); have : gI s34 108 = gI s35 108 := q_Ii es34 (by decide); have : (0 : Int) ≤ gI s35 108 ∧ gI s35 108 ≤ 1600 := hRs35.1 108; have : (0 : Int) ≤ gI s35 109 ∧ gI s35 109 ≤ 1600 := hRs35.1 109; have : (0 : Int) ≤ gI s35 61 ∧ gI s35 61 ≤ 1600 := hRs35.1 61; have : gI s50 111 = r49 := q_II es50; have : gI s47 61 = gI s46 61 := q_Ii es47 (by decide); have : gI s46 61 = gI s66 61 := q_Ii es46 (by decide); have : gI s47 108 = gI s46 108 := q_Ii es47 (by decide); have : gI s46 108 = gI s66 108 := q_Ii es46 (by decide); have : (0 : Int) ≤ gI s66 108 ∧ gI s66 108 ≤ 1600 := hRs66.1 108; have : (0 : Int) ≤ gI s66 61 ∧ gI s66 61 ≤ 1600 := hRs66.1 61; have : (0 : Int) ≤ gI s 100 ∧ gI s 100 ≤ 5 := hRs.1 100; omega)) (fun r11 er11 hr11 => ?_)
                          have hr11_0 := hr11
                          have hr11_0 : r11 = 0 ∨ r11 = 1 := hr11_0
                          refine wp_rg (by have : gI s34 107 = gI s35 107 := q_Ii es34 (by decide); have : (0 : Int) ≤ gI s35 107 ∧ gI s35 107 ≤ 4 := hRs35.1 107; have : gI s34 61 = gI s35 61 := q_Ii es34 (by decide); have : gI s34 108 = gI s35 108 := q_Ii es34 (by decide); have : (0 : Int) ≤ gI s35 108 ∧ gI s35 108 ≤ 1600 := hRs35.1 108; have : (0 : Int) ≤ gI s35 109 ∧ gI s35 109 ≤ 1600 := hRs35.1 109; have : (0 : Int) ≤ gI s35 61 ∧ gI s35 61 ≤ 1600 := hRs35.1 61; have : gI s50 111 = r49 := q_II es50; have : gI s47 61 = gI s46 61 := q_Ii es47 (by decide); have : gI s46 61 = gI s66 61 := q_Ii es46 (by decide); have : gI s47 108 = gI s46 108 := q_Ii es47 (by decide); have : gI s46 108 = gI s66 108 := q_Ii es46 (by decide); have : (0 : Int) ≤ gI s66 108 ∧ gI s66 108 ≤ 1600 := hRs66.1 108; have : (0 : Int) ≤ gI s66 61 ∧ gI s66 61 ≤ 1600 := hRs66.1 61; have : (0 : Int) ≤ gI s 100 ∧ gI s 100 ≤ 5 := hRs.1 100; omega) ?_
                          refine wp_if (fun c42 => ?_) (fun c42 => ?_)
                          · skip
                            unfold m_x6_advance_J300
                            exact wp_some (hRs34)
                          · skip
                            unfold m_x6_advance_J295
                            refine wp_stn (fun s3 es3 => ?_)
                            have hRs3 : Rg s3 := es3 ▸ Rg.uI hRs34 (by show (0 : Int) ≤ (4 : Int) ∧ (4 : Int) ≤ 4; have : gI s34 107 = gI s35 107 := q_Ii es34 (by decide); have : (0 : Int) ≤ gI s35 107 ∧ gI s35 107 ≤ 4 := hRs35.1 107; have : gI s34 61 = gI s35 61 := q_Ii es34 (by decide); have : gI s34 108 = gI s35 108 := q_Ii es34 (by decide); have : (0 : Int) ≤ gI s35 108 ∧ gI s35 108 ≤ 1600 := hRs35.1 108; have : (0 : Int) ≤ gI s35 109 ∧ gI s35 109 ≤ 1600 := hRs35.1 109; have : (0 : Int) ≤ gI s35 61 ∧ gI s35 61 ≤ 1600 := hRs35.1 61; have : gI s50 111 = r49 := q_II es50; have : gI s47 61 = gI s46 61 := q_Ii es47 (by decide); have : gI s46 61 = gI s66 61 := q_Ii es46 (by decide); have : gI s47 108 = gI s46 108 := q_Ii es47 (by decide); have : gI s46 108 = gI s66 108 := q_Ii es46 (by decide); have : (0 : Int) ≤ gI s66 108 ∧ gI s66 108 ≤ 1600 := hRs66.1 108; have : (0 : Int) ≤ gI s66 61 ∧ gI s66 61 ≤ 1600 := hRs66.1 61; have : (0 : Int) ≤ gI s 100 ∧ gI s 100 ≤ 5 := hRs.1 100; omega)
                            unfold m_x6_advance_J300
                            exact wp_some (hRs3)
                        · skip
                          unfold m_x6_advance_J295
                          refine wp_stn (fun s3 es3 => ?_)
                          have hRs3 : Rg s3 := es3 ▸ Rg.uI hRs34 (by show (0 : Int) ≤ (4 : Int) ∧ (4 : Int) ≤ 4; have : gI s34 107 = gI s35 107 := q_Ii es34 (by decide); have : (0 : Int) ≤ gI s35 107 ∧ gI s35 107 ≤ 4 := hRs35.1 107; have : gI s34 61 = gI s35 61 := q_Ii es34 (by decide); have : gI s34 108 = gI s35 108 := q_Ii es34 (by decide); have : (0 : Int) ≤ gI s35 108 ∧ gI s35 108 ≤ 1600 := hRs35.1 108; have : (0 : Int) ≤ gI s35 109 ∧ gI s35 109 ≤ 1600 := hRs35.1 109; have : (0 : Int) ≤ gI s35 61 ∧ gI s35 61 ≤ 1600 := hRs35.1 61; have : gI s50 111 = r49 := q_II es50; have : gI s47 61 = gI s46 61 := q_Ii es47 (by decide); have : gI s46 61 = gI s66 61 := q_Ii es46 (by decide); have : gI s47 108 = gI s46 108 := q_Ii es47 (by decide); have : gI s46 108 = gI s66 108 := q_Ii es46 (by decide); have : (0 : Int) ≤ gI s66 108 ∧ gI s66 108 ≤ 1600 := hRs66.1 108; have : (0 : Int) ≤ gI s66 61 ∧ gI s66 61 ≤ 1600 := hRs66.1 61; have : (0 : Int) ≤ gI s 100 ∧ gI s 100 ≤ 5 := hRs.1 100; omega)
                          unfold m_x6_advance_J300
                          exact wp_some (hRs3)
                      · skip
                        refine wp_rg (by have : gI s34 61 = gI s35 61 := q_Ii es34 (by decide); have : gI s34 108 = gI s35 108 := q_Ii es34 (by decide); have : (0 : Int) ≤ gI s35 108 ∧ gI s35 108 ≤ 1600 := hRs35.1 108; have : (0 : Int) ≤ gI s35 109 ∧ gI s35 109 ≤ 1600 := hRs35.1 109; have : (0 : Int) ≤ gI s35 61 ∧ gI s35 61 ≤ 1600 := hRs35.1 61; have : gI s50 111 = r49 := q_II es50; have : gI s47 61 = gI s46 61 := q_Ii es47 (by decide); have : gI s46 61 = gI s66 61 := q_Ii es46 (by decide); have : gI s47 108 = gI s46 108 := q_Ii es47 (by decide); have : gI s46 108 = gI s66 108 := q_Ii es46 (by decide); have : (0 : Int) ≤ gI s66 108 ∧ gI s66 108 ≤ 1600 := hRs66.1 108; have : (0 : Int) ≤ gI s66 61 ∧ gI s66 61 ≤ 1600 := hRs66.1 61; have : (0 : Int) ≤ gI s 100 ∧ gI s 100 ≤ 5 := hRs.1 100; have : gI s34 107 = gI s35 107 := q_Ii es34 (by decide); have : (0 : Int) ≤ gI s35 107 ∧ gI s35 107 ≤ 4 := hRs35.1 107; omega) ?_
                        refine wp_if (fun c43 => ?_) (fun c43 => ?_)
                        · skip
                          unfold m_x6_advance_J281
                          refine wp_bn (w_x6_isLetter hRs34 (by show R2 r16; have : gI s34 107 = gI s35 107 := q_Ii es34 (by decide); have : (0 : Int) ≤ gI s35 107 ∧ gI s35 107 ≤ 4 := hRs35.1 107; have : gI s34 61 = gI s35 61 := q_Ii es34 (by decide); have : gI s34 108 = gI s35 108 := q_Ii es34 (by decide); have : (0 : Int) ≤ gI s35 108 ∧ gI s35 108 ≤ 1600 := hRs35.1 108; have : (0 : Int) ≤ gI s35 109 ∧ gI s35 109 ≤ 1600 := hRs35.1 109; have : (0 : Int) ≤ gI s35 61 ∧ gI s35 61 ≤ 1600 := hRs35.1 61; have : gI s50 111 = r49 := q_II es50; have : gI s47 61 = gI s46 61 := q_Ii es47 (by decide); have : gI s46 61 = gI s66 61 := q_Ii es46 (by decide); have : gI s47 108 = gI s46 108 := q_Ii es47 (by decide); have : gI s46 108 = gI s66 108 := q_Ii es46 (by decide); have : (0 : Int) ≤ gI s66 108 ∧ gI s66 108 ≤ 1600 := hRs66.1 108; have : (0 : Int) ≤ gI s66 61 ∧ gI s66 61 ≤ 1600 := hRs66.1 61; have : (0 : Int) ≤ gI s 100 ∧ gI s 100 ≤ 5 := hRs.1 100; omega)) (fun r7 er7 hr7 => ?_)
                          have hr7_0 := hr7
                          have hr7_0 : r7 = 0 ∨ r7 = 1 := hr7_0
                          refine wp_rg (by have : gI s34 107 = gI s35 107 := q_Ii es34 (by decide); have : (0 : Int) ≤ gI s35 107 ∧ gI s35 107 ≤ 4 := hRs35.1 107; have : gI s34 61 = gI s35 61 := q_Ii es34 (by decide); have : gI s34 108 = gI s35 108 := q_Ii es34 (by decide); have : (0 : Int) ≤ gI s35 108 ∧ gI s35 108 ≤ 1600 := hRs35.1 108; have : (0 : Int) ≤ gI s35 109 ∧ gI s35 109 ≤ 1600 := hRs35.1 109; have : (0 : Int) ≤ gI s35 61 ∧ gI s35 61 ≤ 1600 := hRs35.1 61; have : gI s50 111 = r49 := q_II es50; have : gI s47 61 = gI s46 61 := q_Ii es47 (by decide); have : gI s46 61 = gI s66 61 := q_Ii es46 (by decide); have : gI s47 108 = gI s46 108 := q_Ii es47 (by decide); have : gI s46 108 = gI s66 108 := q_Ii es46 (by decide); have : (0 : Int) ≤ gI s66 108 ∧ gI s66 108 ≤ 1600 := hRs66.1 108; have : (0 : Int) ≤ gI s66 61 ∧ gI s66 61 ≤ 1600 := hRs66.1 61; have : (0 : Int) ≤ gI s 100 ∧ gI s 100 ≤ 5 := hRs.1 100; omega) ?_
                          refine wp_if (fun c44 => ?_) (fun c44 => ?_)
                          · skip
                            refine wp_bn (w_x6_isDigit hRs34 (by show R2 r16; have : gI s34 107 = gI s35 107 := q_Ii es34 (by decide); have : (0 : Int) ≤ gI s35 107 ∧ gI s35 107 ≤ 4 := hRs35.1 107; have : gI s34 61 = gI s35 61 := q_Ii es34 (by decide); have : gI s34 108 = gI s35 108 := q_Ii es34 (by decide); have : (0 : Int) ≤ gI s35 108 ∧ gI s35 108 ≤ 1600 := hRs35.1 108; have : (0 : Int) ≤ gI s35 109 ∧ gI s35 109 ≤ 1600 := hRs35.1 109; have : (0 : Int) ≤ gI s35 61 ∧ gI s35 61 ≤ 1600 := hRs35.1 61; have : gI s50 111 = r49 := q_II es50; have : gI s47 61 = gI s46 61 := q_Ii es47 (by decide); have : gI s46 61 = gI s66 61 := q_Ii es46 (by decide); have : gI s47 108 = gI s46 108 := q_Ii es47 (by decide); have : gI s46 108 = gI s66 108 := q_Ii es46 (by decide); have : (0 : Int) ≤ gI s66 108 ∧ gI s66 108 ≤ 1600 := hRs66.1 108; have : (0 : Int) ≤ gI s66 61 ∧ gI s66 61 ≤ 1600 := hRs66.1 61; have : (0 : Int) ≤ gI s 100 ∧ gI s 100 ≤ 5 := hRs.1 100; omega)) (fun r11 er11 hr11 => ?_)
                            have hr11_0 := hr11
                            have hr11_0 : r11 = 0 ∨ r11 = 1 := hr11_0
                            refine wp_rg (by have : gI s34 107 = gI s35 107 := q_Ii es34 (by decide); have : (0 : Int) ≤ gI s35 107 ∧ gI s35 107 ≤ 4 := hRs35.1 107; have : gI s34 61 = gI s35 61 := q_Ii es34 (by decide); have : gI s34 108 = gI s35 108 := q_Ii es34 (by decide); have : (0 : Int) ≤ gI s35 108 ∧ gI s35 108 ≤ 1600 := hRs35.1 108; have : (0 : Int) ≤ gI s35 109 ∧ gI s35 109 ≤ 1600 := hRs35.1 109; have : (0 : Int) ≤ gI s35 61 ∧ gI s35 61 ≤ 1600 := hRs35.1 61; have : gI s50 111 = r49 := q_II es50; have : gI s47 61 = gI s46 61 := q_Ii es47 (by decide); have : gI s46 61 = gI s66 61 := q_Ii es46 (by decide); have : gI s47 108 = gI s46 108 := q_Ii es47 (by decide); have : gI s46 108 = gI s66 108 := q_Ii es46 (by decide); have : (0 : Int) ≤ gI s66 108 ∧ gI s66 108 ≤ 1600 := hRs66.1 108; have : (0 : Int) ≤ gI s66 61 ∧ gI s66 61 ≤ 1600 := hRs66.1 61; have : (0 : Int) ≤ gI s 100 ∧ gI s 100 ≤ 5 := hRs.1 100; omega) ?_
                            refine wp_if (fun c45 => ?_) (fun c45 => ?_)
                            · skip
                              unfold m_x6_advance_J300
                              exact wp_some (hRs34)
                            · skip
                              unfold m_x6_advance_J295
                              refine wp_stn (fun s3 es3 => ?_)
                              have hRs3 : Rg s3 := es3 ▸ Rg.uI hRs34 (by show (0 : Int) ≤ (4 : Int) ∧ (4 : Int) ≤ 4; have : gI s34 107 = gI s35 107 := q_Ii es34 (by decide); have : (0 : Int) ≤ gI s35 107 ∧ gI s35 107 ≤ 4 := hRs35.1 107; have : gI s34 61 = gI s35 61 := q_Ii es34 (by decide); have : gI s34 108 = gI s35 108 := q_Ii es34 (by decide); have : (0 : Int) ≤ gI s35 108 ∧ gI s35 108 ≤ 1600 := hRs35.1 108; have : (0 : Int) ≤ gI s35 109 ∧ gI s35 109 ≤ 1600 := hRs35.1 109; have : (0 : Int) ≤ gI s35 61 ∧ gI s35 61 ≤ 1600 := hRs35.1 61; have : gI s50 111 = r49 := q_II es50; have : gI s47 61 = gI s46 61 := q_Ii es47 (by decide); have : gI s46 61 = gI s66 61 := q_Ii es46 (by decide); have : gI s47 108 = gI s46 108 := q_Ii es47 (by decide); have : gI s46 108 = gI s66 108 := q_Ii es46 (by decide); have : (0 : Int) ≤ gI s66 108 ∧ gI s66 108 ≤ 1600 := hRs66.1 108; have : (0 : Int) ≤ gI s66 61 ∧ gI s66 61 ≤ 1600 := hRs66.1 61; have : (0 : Int) ≤ gI s 100 ∧ gI s 100 ≤ 5 := hRs.1 100; omega)
                              unfold m_x6_advance_J300
                              exact wp_some (hRs3)
                          · skip
                            unfold m_x6_advance_J295
                            refine wp_stn (fun s3 es3 => ?_)
                            have hRs3 : Rg s3 := es3 ▸ Rg.uI hRs34 (by show (0 : Int) ≤ (4 : Int) ∧ (4 : Int) ≤ 4; have : gI s34 107 = gI s35 107 := q_Ii es34 (by decide); have : (0 : Int) ≤ gI s35 107 ∧ gI s35 107 ≤ 4 := hRs35.1 107; have : gI s34 61 = gI s35 61 := q_Ii es34 (by decide); have : gI s34 108 = gI s35 108 := q_Ii es34 (by decide); have : (0 : Int) ≤ gI s35 108 ∧ gI s35 108 ≤ 1600 := hRs35.1 108; have : (0 : Int) ≤ gI s35 109 ∧ gI s35 109 ≤ 1600 := hRs35.1 109; have : (0 : Int) ≤ gI s35 61 ∧ gI s35 61 ≤ 1600 := hRs35.1 61; have : gI s50 111 = r49 := q_II es50; have : gI s47 61 = gI s46 61 := q_Ii es47 (by decide); have : gI s46 61 = gI s66 61 := q_Ii es46 (by decide); have : gI s47 108 = gI s46 108 := q_Ii es47 (by decide); have : gI s46 108 = gI s66 108 := q_Ii es46 (by decide); have : (0 : Int) ≤ gI s66 108 ∧ gI s66 108 ≤ 1600 := hRs66.1 108; have : (0 : Int) ≤ gI s66 61 ∧ gI s66 61 ≤ 1600 := hRs66.1 61; have : (0 : Int) ≤ gI s 100 ∧ gI s 100 ≤ 5 := hRs.1 100; omega)
                            unfold m_x6_advance_J300
                            exact wp_some (hRs3)
                        · skip
                          unfold m_x6_advance_J300
                          exact wp_some (hRs34)
                    · skip
                      refine wp_stn (fun s44 es44 => ?_)
                      have hRs44 : Rg s44 := es44 ▸ Rg.uI hRs35 (by show (0 : Int) ≤ ((gI s35 109) + 1) ∧ ((gI s35 109) + 1) ≤ 1600; have : (0 : Int) ≤ gI s35 61 ∧ gI s35 61 ≤ 1600 := hRs35.1 61; have : gI s50 111 = r49 := q_II es50; have : gI s47 61 = gI s46 61 := q_Ii es47 (by decide); have : gI s46 61 = gI s66 61 := q_Ii es46 (by decide); have : gI s47 108 = gI s46 108 := q_Ii es47 (by decide); have : gI s46 108 = gI s66 108 := q_Ii es46 (by decide); have : (0 : Int) ≤ gI s66 108 ∧ gI s66 108 ≤ 1600 := hRs66.1 108; have : (0 : Int) ≤ gI s66 61 ∧ gI s66 61 ≤ 1600 := hRs66.1 61; have : (0 : Int) ≤ gI s 100 ∧ gI s 100 ≤ 5 := hRs.1 100; have : (0 : Int) ≤ gI s35 109 ∧ gI s35 109 ≤ 1600 := hRs35.1 109; omega)
                      exact ih120 s44 hRs44 (by have : (0 : Int) ≤ gI s35 109 ∧ gI s35 109 ≤ 1600 := hRs35.1 109; have : (0 : Int) ≤ gI s35 61 ∧ gI s35 61 ≤ 1600 := hRs35.1 61; have : gI s50 111 = r49 := q_II es50; have : gI s47 61 = gI s46 61 := q_Ii es47 (by decide); have : gI s46 61 = gI s66 61 := q_Ii es46 (by decide); have : gI s47 108 = gI s46 108 := q_Ii es47 (by decide); have : gI s46 108 = gI s66 108 := q_Ii es46 (by decide); have : (0 : Int) ≤ gI s66 108 ∧ gI s66 108 ≤ 1600 := hRs66.1 108; have : (0 : Int) ≤ gI s66 61 ∧ gI s66 61 ≤ 1600 := hRs66.1 61; have : (0 : Int) ≤ gI s 100 ∧ gI s 100 ≤ 5 := hRs.1 100; have : gI s44 109 = (gI s35 109) + 1 := q_II es44; omega)
              exact L120 FU s64 hRs64 (by have := FU_big; have := FU_big2; have : gI s50 111 = r49 := q_II es50; have : gI s47 61 = gI s46 61 := q_Ii es47 (by decide); have : gI s46 61 = gI s66 61 := q_Ii es46 (by decide); have : gI s47 108 = gI s46 108 := q_Ii es47 (by decide); have : gI s46 108 = gI s66 108 := q_Ii es46 (by decide); have : (0 : Int) ≤ gI s66 108 ∧ gI s66 108 ≤ 1600 := hRs66.1 108; have : (0 : Int) ≤ gI s66 61 ∧ gI s66 61 ≤ 1600 := hRs66.1 61; have : (0 : Int) ≤ gI s 100 ∧ gI s 100 ≤ 5 := hRs.1 100; have : gI s64 109 = gI s50 109 := q_Ii es64 (by decide); have : gI s50 109 = gI s47 109 := q_Ii es50 (by decide); have : gI s47 109 = gI s46 109 := q_Ii es47 (by decide); have : gI s46 109 = gI s66 108 := q_II es46; omega)
        · skip
          refine wp_rdIn (by have : (0 : Int) ≤ gI s66 61 ∧ gI s66 61 ≤ 1600 := hRs66.1 61; have : (0 : Int) ≤ gI s 100 ∧ gI s 100 ≤ 5 := hRs.1 100; have : (0 : Int) ≤ gI s66 108 ∧ gI s66 108 ≤ 1600 := hRs66.1 108; omega) (fun y70 ey70 => ?_)
          have by70 : (0 : Int) ≤ y70 ∧ y70 ≤ 255 := ey70 ▸ hRs66.2.1 4 _ (by show _ < 1600; have : (0 : Int) ≤ gI s66 61 ∧ gI s66 61 ≤ 1600 := hRs66.1 61; have : (0 : Int) ≤ gI s 100 ∧ gI s 100 ≤ 5 := hRs.1 100; have : (0 : Int) ≤ gI s66 108 ∧ gI s66 108 ≤ 1600 := hRs66.1 108; omega)
          refine wp_bn (w_x6_isBlank hRs66 (by show R2 y70; have : (0 : Int) ≤ gI s66 108 ∧ gI s66 108 ≤ 1600 := hRs66.1 108; have : (0 : Int) ≤ gI s66 61 ∧ gI s66 61 ≤ 1600 := hRs66.1 61; have : (0 : Int) ≤ gI s 100 ∧ gI s 100 ≤ 5 := hRs.1 100; omega)) (fun r72 er72 hr72 => ?_)
          have hr72_0 := hr72
          have hr72_0 : r72 = 0 ∨ r72 = 1 := hr72_0
          refine wp_rg (by have : (0 : Int) ≤ gI s66 108 ∧ gI s66 108 ≤ 1600 := hRs66.1 108; have : (0 : Int) ≤ gI s66 61 ∧ gI s66 61 ≤ 1600 := hRs66.1 61; have : (0 : Int) ≤ gI s 100 ∧ gI s 100 ≤ 5 := hRs.1 100; omega) ?_
          refine wp_if (fun c46 => ?_) (fun c46 => ?_)
          · skip
            unfold m_x6_advance_J61
            refine wp_stn (fun s46 es46 => ?_)
            have hRs46 : Rg s46 := es46 ▸ Rg.uI hRs66 (by show (0 : Int) ≤ (gI s66 108) ∧ (gI s66 108) ≤ 1600; have : (0 : Int) ≤ gI s66 61 ∧ gI s66 61 ≤ 1600 := hRs66.1 61; have : (0 : Int) ≤ gI s 100 ∧ gI s 100 ≤ 5 := hRs.1 100; have : (0 : Int) ≤ gI s66 108 ∧ gI s66 108 ≤ 1600 := hRs66.1 108; omega)
            refine wp_stn (fun s47 es47 => ?_)
            have hRs47 : Rg s47 := es47 ▸ Rg.uI hRs46 (by show (-1 : Int) ≤ (-1 : Int) ∧ (-1 : Int) ≤ 179; have : (0 : Int) ≤ gI s66 108 ∧ gI s66 108 ≤ 1600 := hRs66.1 108; have : (0 : Int) ≤ gI s66 61 ∧ gI s66 61 ≤ 1600 := hRs66.1 61; have : (0 : Int) ≤ gI s 100 ∧ gI s 100 ≤ 5 := hRs.1 100; omega)
            refine wp_bn (w_x9_at hRs47 (by show R2 (gI s47 108); have : (0 : Int) ≤ gI s66 108 ∧ gI s66 108 ≤ 1600 := hRs66.1 108; have : (0 : Int) ≤ gI s66 61 ∧ gI s66 61 ≤ 1600 := hRs66.1 61; have : (0 : Int) ≤ gI s 100 ∧ gI s 100 ≤ 5 := hRs.1 100; have : gI s47 108 = gI s46 108 := q_Ii es47 (by decide); have : gI s46 108 = gI s66 108 := q_Ii es46 (by decide); omega)) (fun r49 er49 hr49 => ?_)
            obtain ⟨hr49_0, hr49_1⟩ := hr49
            have hr49_0 : (-1) ≤ r49 ∧ r49 ≤ 255 := hr49_0
            have hr49_1 : r49 ≠ -1 → 0 ≤ (gI s47 108) ∧ (gI s47 108) < gI s47 61 := hr49_1
            refine wp_stn (fun s50 es50 => ?_)
            have hRs50 : Rg s50 := es50 ▸ Rg.uI hRs47 (by show (-1 : Int) ≤ r49 ∧ r49 ≤ 255; have : gI s47 61 = gI s46 61 := q_Ii es47 (by decide); have : gI s46 61 = gI s66 61 := q_Ii es46 (by decide); have : gI s47 108 = gI s46 108 := q_Ii es47 (by decide); have : gI s46 108 = gI s66 108 := q_Ii es46 (by decide); have : (0 : Int) ≤ gI s66 108 ∧ gI s66 108 ≤ 1600 := hRs66.1 108; have : (0 : Int) ≤ gI s66 61 ∧ gI s66 61 ≤ 1600 := hRs66.1 61; have : (0 : Int) ≤ gI s 100 ∧ gI s 100 ≤ 5 := hRs.1 100; omega)
            refine wp_rg (by have : gI s47 61 = gI s46 61 := q_Ii es47 (by decide); have : gI s46 61 = gI s66 61 := q_Ii es46 (by decide); have : gI s47 108 = gI s46 108 := q_Ii es47 (by decide); have : gI s46 108 = gI s66 108 := q_Ii es46 (by decide); have : (0 : Int) ≤ gI s66 108 ∧ gI s66 108 ≤ 1600 := hRs66.1 108; have : (0 : Int) ≤ gI s66 61 ∧ gI s66 61 ≤ 1600 := hRs66.1 61; have : (0 : Int) ≤ gI s 100 ∧ gI s 100 ≤ 5 := hRs.1 100; have : gI s50 111 = r49 := q_II es50; omega) ?_
            refine wp_if (fun c47 => ?_) (fun c47 => ?_)
            · skip
              refine wp_stn (fun s65 es65 => ?_)
              have hRs65 : Rg s65 := es65 ▸ Rg.uI hRs50 (by show (0 : Int) ≤ (0 : Int) ∧ (0 : Int) ≤ 4; have : gI s50 111 = r49 := q_II es50; have : gI s47 61 = gI s46 61 := q_Ii es47 (by decide); have : gI s46 61 = gI s66 61 := q_Ii es46 (by decide); have : gI s47 108 = gI s46 108 := q_Ii es47 (by decide); have : gI s46 108 = gI s66 108 := q_Ii es46 (by decide); have : (0 : Int) ≤ gI s66 108 ∧ gI s66 108 ≤ 1600 := hRs66.1 108; have : (0 : Int) ≤ gI s66 61 ∧ gI s66 61 ≤ 1600 := hRs66.1 61; have : (0 : Int) ≤ gI s 100 ∧ gI s 100 ≤ 5 := hRs.1 100; omega)
              unfold m_x6_advance_J251
              refine wp_bn (w_x9_at hRs65 (by show R2 ((gI s65 108) - 1); have : gI s50 111 = r49 := q_II es50; have : gI s47 61 = gI s46 61 := q_Ii es47 (by decide); have : gI s46 61 = gI s66 61 := q_Ii es46 (by decide); have : gI s47 108 = gI s46 108 := q_Ii es47 (by decide); have : gI s46 108 = gI s66 108 := q_Ii es46 (by decide); have : (0 : Int) ≤ gI s66 108 ∧ gI s66 108 ≤ 1600 := hRs66.1 108; have : (0 : Int) ≤ gI s66 61 ∧ gI s66 61 ≤ 1600 := hRs66.1 61; have : (0 : Int) ≤ gI s 100 ∧ gI s 100 ≤ 5 := hRs.1 100; have : gI s65 108 = gI s50 108 := q_Ii es65 (by decide); have : gI s50 108 = gI s47 108 := q_Ii es50 (by decide); omega)) (fun r16 er16 hr16 => ?_)
              obtain ⟨hr16_0, hr16_1⟩ := hr16
              have hr16_0 : (-1) ≤ r16 ∧ r16 ≤ 255 := hr16_0
              have hr16_1 : r16 ≠ -1 → 0 ≤ ((gI s65 108) - 1) ∧ ((gI s65 108) - 1) < gI s65 61 := hr16_1
              refine wp_rg (by have : gI s65 61 = gI s50 61 := q_Ii es65 (by decide); have : gI s50 61 = gI s47 61 := q_Ii es50 (by decide); have : gI s65 108 = gI s50 108 := q_Ii es65 (by decide); have : gI s50 108 = gI s47 108 := q_Ii es50 (by decide); have : gI s50 111 = r49 := q_II es50; have : gI s47 61 = gI s46 61 := q_Ii es47 (by decide); have : gI s46 61 = gI s66 61 := q_Ii es46 (by decide); have : gI s47 108 = gI s46 108 := q_Ii es47 (by decide); have : gI s46 108 = gI s66 108 := q_Ii es46 (by decide); have : (0 : Int) ≤ gI s66 108 ∧ gI s66 108 ≤ 1600 := hRs66.1 108; have : (0 : Int) ≤ gI s66 61 ∧ gI s66 61 ≤ 1600 := hRs66.1 61; have : (0 : Int) ≤ gI s 100 ∧ gI s 100 ≤ 5 := hRs.1 100; have : gI s65 107 = 0 := q_II es65; omega) ?_
              refine wp_if (fun c48 => ?_) (fun c48 => ?_)
              · skip
                unfold m_x6_advance_J281
                refine wp_bn (w_x6_isLetter hRs65 (by show R2 r16; have : gI s65 107 = 0 := q_II es65; have : gI s65 61 = gI s50 61 := q_Ii es65 (by decide); have : gI s50 61 = gI s47 61 := q_Ii es50 (by decide); have : gI s65 108 = gI s50 108 := q_Ii es65 (by decide); have : gI s50 108 = gI s47 108 := q_Ii es50 (by decide); have : gI s50 111 = r49 := q_II es50; have : gI s47 61 = gI s46 61 := q_Ii es47 (by decide); have : gI s46 61 = gI s66 61 := q_Ii es46 (by decide); have : gI s47 108 = gI s46 108 := q_Ii es47 (by decide); have : gI s46 108 = gI s66 108 := q_Ii es46 (by decide); have : (0 : Int) ≤ gI s66 108 ∧ gI s66 108 ≤ 1600 := hRs66.1 108; have : (0 : Int) ≤ gI s66 61 ∧ gI s66 61 ≤ 1600 := hRs66.1 61; have : (0 : Int) ≤ gI s 100 ∧ gI s 100 ≤ 5 := hRs.1 100; omega)) (fun r7 er7 hr7 => ?_)
                have hr7_0 := hr7
                have hr7_0 : r7 = 0 ∨ r7 = 1 := hr7_0
                refine wp_rg (by have : gI s65 107 = 0 := q_II es65; have : gI s65 61 = gI s50 61 := q_Ii es65 (by decide); have : gI s50 61 = gI s47 61 := q_Ii es50 (by decide); have : gI s65 108 = gI s50 108 := q_Ii es65 (by decide); have : gI s50 108 = gI s47 108 := q_Ii es50 (by decide); have : gI s50 111 = r49 := q_II es50; have : gI s47 61 = gI s46 61 := q_Ii es47 (by decide); have : gI s46 61 = gI s66 61 := q_Ii es46 (by decide); have : gI s47 108 = gI s46 108 := q_Ii es47 (by decide); have : gI s46 108 = gI s66 108 := q_Ii es46 (by decide); have : (0 : Int) ≤ gI s66 108 ∧ gI s66 108 ≤ 1600 := hRs66.1 108; have : (0 : Int) ≤ gI s66 61 ∧ gI s66 61 ≤ 1600 := hRs66.1 61; have : (0 : Int) ≤ gI s 100 ∧ gI s 100 ≤ 5 := hRs.1 100; omega) ?_
                refine wp_if (fun c49 => ?_) (fun c49 => ?_)
                · skip
                  refine wp_bn (w_x6_isDigit hRs65 (by show R2 r16; have : gI s65 107 = 0 := q_II es65; have : gI s65 61 = gI s50 61 := q_Ii es65 (by decide); have : gI s50 61 = gI s47 61 := q_Ii es50 (by decide); have : gI s65 108 = gI s50 108 := q_Ii es65 (by decide); have : gI s50 108 = gI s47 108 := q_Ii es50 (by decide); have : gI s50 111 = r49 := q_II es50; have : gI s47 61 = gI s46 61 := q_Ii es47 (by decide); have : gI s46 61 = gI s66 61 := q_Ii es46 (by decide); have : gI s47 108 = gI s46 108 := q_Ii es47 (by decide); have : gI s46 108 = gI s66 108 := q_Ii es46 (by decide); have : (0 : Int) ≤ gI s66 108 ∧ gI s66 108 ≤ 1600 := hRs66.1 108; have : (0 : Int) ≤ gI s66 61 ∧ gI s66 61 ≤ 1600 := hRs66.1 61; have : (0 : Int) ≤ gI s 100 ∧ gI s 100 ≤ 5 := hRs.1 100; omega)) (fun r11 er11 hr11 => ?_)
                  have hr11_0 := hr11
                  have hr11_0 : r11 = 0 ∨ r11 = 1 := hr11_0
                  refine wp_rg (by have : gI s65 107 = 0 := q_II es65; have : gI s65 61 = gI s50 61 := q_Ii es65 (by decide); have : gI s50 61 = gI s47 61 := q_Ii es50 (by decide); have : gI s65 108 = gI s50 108 := q_Ii es65 (by decide); have : gI s50 108 = gI s47 108 := q_Ii es50 (by decide); have : gI s50 111 = r49 := q_II es50; have : gI s47 61 = gI s46 61 := q_Ii es47 (by decide); have : gI s46 61 = gI s66 61 := q_Ii es46 (by decide); have : gI s47 108 = gI s46 108 := q_Ii es47 (by decide); have : gI s46 108 = gI s66 108 := q_Ii es46 (by decide); have : (0 : Int) ≤ gI s66 108 ∧ gI s66 108 ≤ 1600 := hRs66.1 108; have : (0 : Int) ≤ gI s66 61 ∧ gI s66 61 ≤ 1600 := hRs66.1 61; have : (0 : Int) ≤ gI s 100 ∧ gI s 100 ≤ 5 := hRs.1 100; omega) ?_
                  refine wp_if (fun c50 => ?_) (fun c50 => ?_)
                  · skip
                    unfold m_x6_advance_J300
                    exact wp_some (hRs65)
                  · skip
                    unfold m_x6_advance_J295
                    refine wp_stn (fun s3 es3 => ?_)
                    have hRs3 : Rg s3 := es3 ▸ Rg.uI hRs65 (by show (0 : Int) ≤ (4 : Int) ∧ (4 : Int) ≤ 4; have : gI s65 107 = 0 := q_II es65; have : gI s65 61 = gI s50 61 := q_Ii es65 (by decide); have : gI s50 61 = gI s47 61 := q_Ii es50 (by decide); have : gI s65 108 = gI s50 108 := q_Ii es65 (by decide); have : gI s50 108 = gI s47 108 := q_Ii es50 (by decide); have : gI s50 111 = r49 := q_II es50; have : gI s47 61 = gI s46 61 := q_Ii es47 (by decide); have : gI s46 61 = gI s66 61 := q_Ii es46 (by decide); have : gI s47 108 = gI s46 108 := q_Ii es47 (by decide); have : gI s46 108 = gI s66 108 := q_Ii es46 (by decide); have : (0 : Int) ≤ gI s66 108 ∧ gI s66 108 ≤ 1600 := hRs66.1 108; have : (0 : Int) ≤ gI s66 61 ∧ gI s66 61 ≤ 1600 := hRs66.1 61; have : (0 : Int) ≤ gI s 100 ∧ gI s 100 ≤ 5 := hRs.1 100; omega)
                    unfold m_x6_advance_J300
                    exact wp_some (hRs3)
                · skip
                  unfold m_x6_advance_J295
                  refine wp_stn (fun s3 es3 => ?_)
                  have hRs3 : Rg s3 := es3 ▸ Rg.uI hRs65 (by show (0 : Int) ≤ (4 : Int) ∧ (4 : Int) ≤ 4; have : gI s65 107 = 0 := q_II es65; have : gI s65 61 = gI s50 61 := q_Ii es65 (by decide); have : gI s50 61 = gI s47 61 := q_Ii es50 (by decide); have : gI s65 108 = gI s50 108 := q_Ii es65 (by decide); have : gI s50 108 = gI s47 108 := q_Ii es50 (by decide); have : gI s50 111 = r49 := q_II es50; have : gI s47 61 = gI s46 61 := q_Ii es47 (by decide); have : gI s46 61 = gI s66 61 := q_Ii es46 (by decide); have : gI s47 108 = gI s46 108 := q_Ii es47 (by decide); have : gI s46 108 = gI s66 108 := q_Ii es46 (by decide); have : (0 : Int) ≤ gI s66 108 ∧ gI s66 108 ≤ 1600 := hRs66.1 108; have : (0 : Int) ≤ gI s66 61 ∧ gI s66 61 ≤ 1600 := hRs66.1 61; have : (0 : Int) ≤ gI s 100 ∧ gI s 100 ≤ 5 := hRs.1 100; omega)
                  unfold m_x6_advance_J300
                  exact wp_some (hRs3)
              · skip
                refine wp_rg (by have : gI s65 61 = gI s50 61 := q_Ii es65 (by decide); have : gI s50 61 = gI s47 61 := q_Ii es50 (by decide); have : gI s65 108 = gI s50 108 := q_Ii es65 (by decide); have : gI s50 108 = gI s47 108 := q_Ii es50 (by decide); have : gI s50 111 = r49 := q_II es50; have : gI s47 61 = gI s46 61 := q_Ii es47 (by decide); have : gI s46 61 = gI s66 61 := q_Ii es46 (by decide); have : gI s47 108 = gI s46 108 := q_Ii es47 (by decide); have : gI s46 108 = gI s66 108 := q_Ii es46 (by decide); have : (0 : Int) ≤ gI s66 108 ∧ gI s66 108 ≤ 1600 := hRs66.1 108; have : (0 : Int) ≤ gI s66 61 ∧ gI s66 61 ≤ 1600 := hRs66.1 61; have : (0 : Int) ≤ gI s 100 ∧ gI s 100 ≤ 5 := hRs.1 100; have : gI s65 107 = 0 := q_II es65; omega) ?_
                refine wp_if (fun c51 => ?_) (fun c51 => ?_)
                · skip
                  unfold m_x6_advance_J281
                  refine wp_bn (w_x6_isLetter hRs65 (by show R2 r16; have : gI s65 107 = 0 := q_II es65; have : gI s65 61 = gI s50 61 := q_Ii es65 (by decide); have : gI s50 61 = gI s47 61 := q_Ii es50 (by decide); have : gI s65 108 = gI s50 108 := q_Ii es65 (by decide); have : gI s50 108 = gI s47 108 := q_Ii es50 (by decide); have : gI s50 111 = r49 := q_II es50; have : gI s47 61 = gI s46 61 := q_Ii es47 (by decide); have : gI s46 61 = gI s66 61 := q_Ii es46 (by decide); have : gI s47 108 = gI s46 108 := q_Ii es47 (by decide); have : gI s46 108 = gI s66 108 := q_Ii es46 (by decide); have : (0 : Int) ≤ gI s66 108 ∧ gI s66 108 ≤ 1600 := hRs66.1 108; have : (0 : Int) ≤ gI s66 61 ∧ gI s66 61 ≤ 1600 := hRs66.1 61; have : (0 : Int) ≤ gI s 100 ∧ gI s 100 ≤ 5 := hRs.1 100; omega)) (fun r7 er7 hr7 => ?_)
                  have hr7_0 := hr7
                  have hr7_0 : r7 = 0 ∨ r7 = 1 := hr7_0
                  refine wp_rg (by have : gI s65 107 = 0 := q_II es65; have : gI s65 61 = gI s50 61 := q_Ii es65 (by decide); have : gI s50 61 = gI s47 61 := q_Ii es50 (by decide); have : gI s65 108 = gI s50 108 := q_Ii es65 (by decide); have : gI s50 108 = gI s47 108 := q_Ii es50 (by decide); have : gI s50 111 = r49 := q_II es50; have : gI s47 61 = gI s46 61 := q_Ii es47 (by decide); have : gI s46 61 = gI s66 61 := q_Ii es46 (by decide); have : gI s47 108 = gI s46 108 := q_Ii es47 (by decide); have : gI s46 108 = gI s66 108 := q_Ii es46 (by decide); have : (0 : Int) ≤ gI s66 108 ∧ gI s66 108 ≤ 1600 := hRs66.1 108; have : (0 : Int) ≤ gI s66 61 ∧ gI s66 61 ≤ 1600 := hRs66.1 61; have : (0 : Int) ≤ gI s 100 ∧ gI s 100 ≤ 5 := hRs.1 100; omega) ?_
                  refine wp_if (fun c52 => ?_) (fun c52 => ?_)
                  · skip
                    refine wp_bn (w_x6_isDigit hRs65 (by show R2 r16; have : gI s65 107 = 0 := q_II es65; have : gI s65 61 = gI s50 61 := q_Ii es65 (by decide); have : gI s50 61 = gI s47 61 := q_Ii es50 (by decide); have : gI s65 108 = gI s50 108 := q_Ii es65 (by decide); have : gI s50 108 = gI s47 108 := q_Ii es50 (by decide); have : gI s50 111 = r49 := q_II es50; have : gI s47 61 = gI s46 61 := q_Ii es47 (by decide); have : gI s46 61 = gI s66 61 := q_Ii es46 (by decide); have : gI s47 108 = gI s46 108 := q_Ii es47 (by decide); have : gI s46 108 = gI s66 108 := q_Ii es46 (by decide); have : (0 : Int) ≤ gI s66 108 ∧ gI s66 108 ≤ 1600 := hRs66.1 108; have : (0 : Int) ≤ gI s66 61 ∧ gI s66 61 ≤ 1600 := hRs66.1 61; have : (0 : Int) ≤ gI s 100 ∧ gI s 100 ≤ 5 := hRs.1 100; omega)) (fun r11 er11 hr11 => ?_)
                    have hr11_0 := hr11
                    have hr11_0 : r11 = 0 ∨ r11 = 1 := hr11_0
                    refine wp_rg (by have : gI s65 107 = 0 := q_II es65; have : gI s65 61 = gI s50 61 := q_Ii es65 (by decide); have : gI s50 61 = gI s47 61 := q_Ii es50 (by decide); have : gI s65 108 = gI s50 108 := q_Ii es65 (by decide); have : gI s50 108 = gI s47 108 := q_Ii es50 (by decide); have : gI s50 111 = r49 := q_II es50; have : gI s47 61 = gI s46 61 := q_Ii es47 (by decide); have : gI s46 61 = gI s66 61 := q_Ii es46 (by decide); have : gI s47 108 = gI s46 108 := q_Ii es47 (by decide); have : gI s46 108 = gI s66 108 := q_Ii es46 (by decide); have : (0 : Int) ≤ gI s66 108 ∧ gI s66 108 ≤ 1600 := hRs66.1 108; have : (0 : Int) ≤ gI s66 61 ∧ gI s66 61 ≤ 1600 := hRs66.1 61; have : (0 : Int) ≤ gI s 100 ∧ gI s 100 ≤ 5 := hRs.1 100; omega) ?_
                    refine wp_if (fun c53 => ?_) (fun c53 => ?_)
                    · skip
                      unfold m_x6_advance_J300
                      exact wp_some (hRs65)
                    · skip
                      unfold m_x6_advance_J295
                      refine wp_stn (fun s3 es3 => ?_)
                      have hRs3 : Rg s3 := es3 ▸ Rg.uI hRs65 (by show (0 : Int) ≤ (4 : Int) ∧ (4 : Int) ≤ 4; have : gI s65 107 = 0 := q_II es65; have : gI s65 61 = gI s50 61 := q_Ii es65 (by decide); have : gI s50 61 = gI s47 61 := q_Ii es50 (by decide); have : gI s65 108 = gI s50 108 := q_Ii es65 (by decide); have : gI s50 108 = gI s47 108 := q_Ii es50 (by decide); have : gI s50 111 = r49 := q_II es50; have : gI s47 61 = gI s46 61 := q_Ii es47 (by decide); have : gI s46 61 = gI s66 61 := q_Ii es46 (by decide); have : gI s47 108 = gI s46 108 := q_Ii es47 (by decide); have : gI s46 108 = gI s66 108 := q_Ii es46 (by decide); have : (0 : Int) ≤ gI s66 108 ∧ gI s66 108 ≤ 1600 := hRs66.1 108; have : (0 : Int) ≤ gI s66 61 ∧ gI s66 61 ≤ 1600 := hRs66.1 61; have : (0 : Int) ≤ gI s 100 ∧ gI s 100 ≤ 5 := hRs.1 100; omega)
                      unfold m_x6_advance_J300
                      exact wp_some (hRs3)
                  · skip
                    unfold m_x6_advance_J295
                    refine wp_stn (fun s3 es3 => ?_)
                    have hRs3 : Rg s3 := es3 ▸ Rg.uI hRs65 (by show (0 : Int) ≤ (4 : Int) ∧ (4 : Int) ≤ 4; have : gI s65 107 = 0 := q_II es65; have : gI s65 61 = gI s50 61 := q_Ii es65 (by decide); have : gI s50 61 = gI s47 61 := q_Ii es50 (by decide); have : gI s65 108 = gI s50 108 := q_Ii es65 (by decide); have : gI s50 108 = gI s47 108 := q_Ii es50 (by decide); have : gI s50 111 = r49 := q_II es50; have : gI s47 61 = gI s46 61 := q_Ii es47 (by decide); have : gI s46 61 = gI s66 61 := q_Ii es46 (by decide); have : gI s47 108 = gI s46 108 := q_Ii es47 (by decide); have : gI s46 108 = gI s66 108 := q_Ii es46 (by decide); have : (0 : Int) ≤ gI s66 108 ∧ gI s66 108 ≤ 1600 := hRs66.1 108; have : (0 : Int) ≤ gI s66 61 ∧ gI s66 61 ≤ 1600 := hRs66.1 61; have : (0 : Int) ≤ gI s 100 ∧ gI s 100 ≤ 5 := hRs.1 100; omega)
                    unfold m_x6_advance_J300
                    exact wp_some (hRs3)
                · skip
                  unfold m_x6_advance_J300
                  exact wp_some (hRs65)
            · skip
              refine wp_bn (w_x6_isLetter hRs50 (by show R2 (gI s50 111); have : gI s47 61 = gI s46 61 := q_Ii es47 (by decide); have : gI s46 61 = gI s66 61 := q_Ii es46 (by decide); have : gI s47 108 = gI s46 108 := q_Ii es47 (by decide); have : gI s46 108 = gI s66 108 := q_Ii es46 (by decide); have : (0 : Int) ≤ gI s66 108 ∧ gI s66 108 ≤ 1600 := hRs66.1 108; have : (0 : Int) ≤ gI s66 61 ∧ gI s66 61 ≤ 1600 := hRs66.1 61; have : (0 : Int) ≤ gI s 100 ∧ gI s 100 ≤ 5 := hRs.1 100; have : gI s50 111 = r49 := q_II es50; omega)) (fun r54 er54 hr54 => ?_)
              have hr54_0 := hr54
              have hr54_0 : r54 = 0 ∨ r54 = 1 := hr54_0
              refine wp_rg (by have : gI s50 111 = r49 := q_II es50; have : gI s47 61 = gI s46 61 := q_Ii es47 (by decide); have : gI s46 61 = gI s66 61 := q_Ii es46 (by decide); have : gI s47 108 = gI s46 108 := q_Ii es47 (by decide); have : gI s46 108 = gI s66 108 := q_Ii es46 (by decide); have : (0 : Int) ≤ gI s66 108 ∧ gI s66 108 ≤ 1600 := hRs66.1 108; have : (0 : Int) ≤ gI s66 61 ∧ gI s66 61 ≤ 1600 := hRs66.1 61; have : (0 : Int) ≤ gI s 100 ∧ gI s 100 ≤ 5 := hRs.1 100; omega) ?_
              refine wp_if (fun c54 => ?_) (fun c54 => ?_)
              · skip
                refine wp_bn (w_x6_isDigit hRs50 (by show R2 (gI s50 111); have : gI s47 61 = gI s46 61 := q_Ii es47 (by decide); have : gI s46 61 = gI s66 61 := q_Ii es46 (by decide); have : gI s47 108 = gI s46 108 := q_Ii es47 (by decide); have : gI s46 108 = gI s66 108 := q_Ii es46 (by decide); have : (0 : Int) ≤ gI s66 108 ∧ gI s66 108 ≤ 1600 := hRs66.1 108; have : (0 : Int) ≤ gI s66 61 ∧ gI s66 61 ≤ 1600 := hRs66.1 61; have : (0 : Int) ≤ gI s 100 ∧ gI s 100 ≤ 5 := hRs.1 100; have : gI s50 111 = r49 := q_II es50; omega)) (fun r58 er58 hr58 => ?_)
                have hr58_0 := hr58
                have hr58_0 : r58 = 0 ∨ r58 = 1 := hr58_0
                refine wp_rg (by have : gI s50 111 = r49 := q_II es50; have : gI s47 61 = gI s46 61 := q_Ii es47 (by decide); have : gI s46 61 = gI s66 61 := q_Ii es46 (by decide); have : gI s47 108 = gI s46 108 := q_Ii es47 (by decide); have : gI s46 108 = gI s66 108 := q_Ii es46 (by decide); have : (0 : Int) ≤ gI s66 108 ∧ gI s66 108 ≤ 1600 := hRs66.1 108; have : (0 : Int) ≤ gI s66 61 ∧ gI s66 61 ≤ 1600 := hRs66.1 61; have : (0 : Int) ≤ gI s 100 ∧ gI s 100 ≤ 5 := hRs.1 100; omega) ?_
                refine wp_if (fun c55 => ?_) (fun c55 => ?_)
                · skip
                  refine wp_stn (fun s61 es61 => ?_)
                  have hRs61 : Rg s61 := es61 ▸ Rg.uI hRs50 (by show (0 : Int) ≤ (3 : Int) ∧ (3 : Int) ≤ 4; have : gI s50 111 = r49 := q_II es50; have : gI s47 61 = gI s46 61 := q_Ii es47 (by decide); have : gI s46 61 = gI s66 61 := q_Ii es46 (by decide); have : gI s47 108 = gI s46 108 := q_Ii es47 (by decide); have : gI s46 108 = gI s66 108 := q_Ii es46 (by decide); have : (0 : Int) ≤ gI s66 108 ∧ gI s66 108 ≤ 1600 := hRs66.1 108; have : (0 : Int) ≤ gI s66 61 ∧ gI s66 61 ≤ 1600 := hRs66.1 61; have : (0 : Int) ≤ gI s 100 ∧ gI s 100 ≤ 5 := hRs.1 100; omega)
                  refine wp_stn (fun s62 es62 => ?_)
                  have hRs62 : Rg s62 := es62 ▸ Rg.uI hRs61 (by show (0 : Int) ≤ ((gI s61 109) + 1) ∧ ((gI s61 109) + 1) ≤ 1600; have : gI s50 111 = r49 := q_II es50; have : gI s47 61 = gI s46 61 := q_Ii es47 (by decide); have : gI s46 61 = gI s66 61 := q_Ii es46 (by decide); have : gI s47 108 = gI s46 108 := q_Ii es47 (by decide); have : gI s46 108 = gI s66 108 := q_Ii es46 (by decide); have : (0 : Int) ≤ gI s66 108 ∧ gI s66 108 ≤ 1600 := hRs66.1 108; have : (0 : Int) ≤ gI s66 61 ∧ gI s66 61 ≤ 1600 := hRs66.1 61; have : (0 : Int) ≤ gI s 100 ∧ gI s 100 ≤ 5 := hRs.1 100; have : gI s61 109 = gI s50 109 := q_Ii es61 (by decide); have : gI s50 109 = gI s47 109 := q_Ii es50 (by decide); have : gI s47 109 = gI s46 109 := q_Ii es47 (by decide); have : gI s46 109 = gI s66 108 := q_II es46; omega)
                  unfold m_x6_advance_J251
                  refine wp_bn (w_x9_at hRs62 (by show R2 ((gI s62 108) - 1); have : gI s50 111 = r49 := q_II es50; have : gI s47 61 = gI s46 61 := q_Ii es47 (by decide); have : gI s46 61 = gI s66 61 := q_Ii es46 (by decide); have : gI s47 108 = gI s46 108 := q_Ii es47 (by decide); have : gI s46 108 = gI s66 108 := q_Ii es46 (by decide); have : (0 : Int) ≤ gI s66 108 ∧ gI s66 108 ≤ 1600 := hRs66.1 108; have : (0 : Int) ≤ gI s66 61 ∧ gI s66 61 ≤ 1600 := hRs66.1 61; have : (0 : Int) ≤ gI s 100 ∧ gI s 100 ≤ 5 := hRs.1 100; have : gI s62 108 = gI s61 108 := q_Ii es62 (by decide); have : gI s61 108 = gI s50 108 := q_Ii es61 (by decide); have : gI s50 108 = gI s47 108 := q_Ii es50 (by decide); omega)) (fun r16 er16 hr16 => ?_)
                  obtain ⟨hr16_0, hr16_1⟩ := hr16
                  have hr16_0 : (-1) ≤ r16 ∧ r16 ≤ 255 := hr16_0
                  have hr16_1 : r16 ≠ -1 → 0 ≤ ((gI s62 108) - 1) ∧ ((gI s62 108) - 1) < gI s62 61 := hr16_1
                  refine wp_rg (by have : gI s62 61 = gI s61 61 := q_Ii es62 (by decide); have : gI s61 61 = gI s50 61 := q_Ii es61 (by decide); have : gI s50 61 = gI s47 61 := q_Ii es50 (by decide); have : gI s62 108 = gI s61 108 := q_Ii es62 (by decide); have : gI s61 108 = gI s50 108 := q_Ii es61 (by decide); have : gI s50 108 = gI s47 108 := q_Ii es50 (by decide); have : gI s50 111 = r49 := q_II es50; have : gI s47 61 = gI s46 61 := q_Ii es47 (by decide); have : gI s46 61 = gI s66 61 := q_Ii es46 (by decide); have : gI s47 108 = gI s46 108 := q_Ii es47 (by decide); have : gI s46 108 = gI s66 108 := q_Ii es46 (by decide); have : (0 : Int) ≤ gI s66 108 ∧ gI s66 108 ≤ 1600 := hRs66.1 108; have : (0 : Int) ≤ gI s66 61 ∧ gI s66 61 ≤ 1600 := hRs66.1 61; have : (0 : Int) ≤ gI s 100 ∧ gI s 100 ≤ 5 := hRs.1 100; have : gI s62 107 = gI s61 107 := q_Ii es62 (by decide); have : gI s61 107 = 3 := q_II es61; omega) ?_
                  refine wp_if (fun c56 => ?_) (fun c56 => ?_)
                  · skip
                    unfold m_x6_advance_J281
                    refine wp_bn (w_x6_isLetter hRs62 (by show R2 r16; have : gI s62 107 = gI s61 107 := q_Ii es62 (by decide); have : gI s61 107 = 3 := q_II es61; have : gI s62 61 = gI s61 61 := q_Ii es62 (by decide); have : gI s61 61 = gI s50 61 := q_Ii es61 (by decide); have : gI s50 61 = gI s47 61 := q_Ii es50 (by decide); have : gI s62 108 = gI s61 108 := q_Ii es62 (by decide); have : gI s61 108 = gI s50 108 := q_Ii es61 (by decide); have : gI s50 108 = gI s47 108 := q_Ii es50 (by decide); have : gI s50 111 = r49 := q_II es50; have : gI s47 61 = gI s46 61 := q_Ii es47 (by decide); have : gI s46 61 = gI s66 61 := q_Ii es46 (by decide); have : gI s47 108 = gI s46 108 := q_Ii es47 (by decide); have : gI s46 108 = gI s66 108 := q_Ii es46 (by decide); have : (0 : Int) ≤ gI s66 108 ∧ gI s66 108 ≤ 1600 := hRs66.1 108; have : (0 : Int) ≤ gI s66 61 ∧ gI s66 61 ≤ 1600 := hRs66.1 61; have : (0 : Int) ≤ gI s 100 ∧ gI s 100 ≤ 5 := hRs.1 100; omega)) (fun r7 er7 hr7 => ?_)
                    have hr7_0 := hr7
                    have hr7_0 : r7 = 0 ∨ r7 = 1 := hr7_0
                    refine wp_rg (by have : gI s62 107 = gI s61 107 := q_Ii es62 (by decide); have : gI s61 107 = 3 := q_II es61; have : gI s62 61 = gI s61 61 := q_Ii es62 (by decide); have : gI s61 61 = gI s50 61 := q_Ii es61 (by decide); have : gI s50 61 = gI s47 61 := q_Ii es50 (by decide); have : gI s62 108 = gI s61 108 := q_Ii es62 (by decide); have : gI s61 108 = gI s50 108 := q_Ii es61 (by decide); have : gI s50 108 = gI s47 108 := q_Ii es50 (by decide); have : gI s50 111 = r49 := q_II es50; have : gI s47 61 = gI s46 61 := q_Ii es47 (by decide); have : gI s46 61 = gI s66 61 := q_Ii es46 (by decide); have : gI s47 108 = gI s46 108 := q_Ii es47 (by decide); have : gI s46 108 = gI s66 108 := q_Ii es46 (by decide); have : (0 : Int) ≤ gI s66 108 ∧ gI s66 108 ≤ 1600 := hRs66.1 108; have : (0 : Int) ≤ gI s66 61 ∧ gI s66 61 ≤ 1600 := hRs66.1 61; have : (0 : Int) ≤ gI s 100 ∧ gI s 100 ≤ 5 := hRs.1 100; omega) ?_
                    refine wp_if (fun c57 => ?_) (fun c57 => ?_)
                    · skip
                      refine wp_bn (w_x6_isDigit hRs62 (by show R2 r16; have : gI s62 107 = gI s61 107 := q_Ii es62 (by decide); have : gI s61 107 = 3 := q_II es61; have : gI s62 61 = gI s61 61 := q_Ii es62 (by decide); have : gI s61 61 = gI s50 61 := q_Ii es61 (by decide); have : gI s50 61 = gI s47 61 := q_Ii es50 (by decide); have : gI s62 108 = gI s61 108 := q_Ii es62 (by decide); have : gI s61 108 = gI s50 108 := q_Ii es61 (by decide); have : gI s50 108 = gI s47 108 := q_Ii es50 (by decide); have : gI s50 111 = r49 := q_II es50; have : gI s47 61 = gI s46 61 := q_Ii es47 (by decide); have : gI s46 61 = gI s66 61 := q_Ii es46 (by decide); have : gI s47 108 = gI s46 108 := q_Ii es47 (by decide); have : gI s46 108 = gI s66 108 := q_Ii es46 (by decide); have : (0 : Int) ≤ gI s66 108 ∧ gI s66 108 ≤ 1600 := hRs66.1 108; have : (0 : Int) ≤ gI s66 61 ∧ gI s66 61 ≤ 1600 := hRs66.1 61; have : (0 : Int) ≤ gI s 100 ∧ gI s 100 ≤ 5 := hRs.1 100; omega)) (fun r11 er11 hr11 => ?_)
                      have hr11_0 := hr11
                      have hr11_0 : r11 = 0 ∨ r11 = 1 := hr11_0
                      refine wp_rg (by have : gI s62 107 = gI s61 107 := q_Ii es62 (by decide); have : gI s61 107 = 3 := q_II es61; have : gI s62 61 = gI s61 61 := q_Ii es62 (by decide); have : gI s61 61 = gI s50 61 := q_Ii es61 (by decide); have : gI s50 61 = gI s47 61 := q_Ii es50 (by decide); have : gI s62 108 = gI s61 108 := q_Ii es62 (by decide); have : gI s61 108 = gI s50 108 := q_Ii es61 (by decide); have : gI s50 108 = gI s47 108 := q_Ii es50 (by decide); have : gI s50 111 = r49 := q_II es50; have : gI s47 61 = gI s46 61 := q_Ii es47 (by decide); have : gI s46 61 = gI s66 61 := q_Ii es46 (by decide); have : gI s47 108 = gI s46 108 := q_Ii es47 (by decide); have : gI s46 108 = gI s66 108 := q_Ii es46 (by decide); have : (0 : Int) ≤ gI s66 108 ∧ gI s66 108 ≤ 1600 := hRs66.1 108; have : (0 : Int) ≤ gI s66 61 ∧ gI s66 61 ≤ 1600 := hRs66.1 61; have : (0 : Int) ≤ gI s 100 ∧ gI s 100 ≤ 5 := hRs.1 100; omega) ?_
                      refine wp_if (fun c58 => ?_) (fun c58 => ?_)
                      · skip
                        unfold m_x6_advance_J300
                        exact wp_some (hRs62)
                      · skip
                        unfold m_x6_advance_J295
                        refine wp_stn (fun s3 es3 => ?_)
                        have hRs3 : Rg s3 := es3 ▸ Rg.uI hRs62 (by show (0 : Int) ≤ (4 : Int) ∧ (4 : Int) ≤ 4; have : gI s62 107 = gI s61 107 := q_Ii es62 (by decide); have : gI s61 107 = 3 := q_II es61; have : gI s62 61 = gI s61 61 := q_Ii es62 (by decide); have : gI s61 61 = gI s50 61 := q_Ii es61 (by decide); have : gI s50 61 = gI s47 61 := q_Ii es50 (by decide); have : gI s62 108 = gI s61 108 := q_Ii es62 (by decide); have : gI s61 108 = gI s50 108 := q_Ii es61 (by decide); have : gI s50 108 = gI s47 108 := q_Ii es50 (by decide); have : gI s50 111 = r49 := q_II es50; have : gI s47 61 = gI s46 61 := q_Ii es47 (by decide); have : gI s46 61 = gI s66 61 := q_Ii es46 (by decide); have : gI s47 108 = gI s46 108 := q_Ii es47 (by decide); have : gI s46 108 = gI s66 108 := q_Ii es46 (by decide); have : (0 : Int) ≤ gI s66 108 ∧ gI s66 108 ≤ 1600 := hRs66.1 108; have : (0 : Int) ≤ gI s66 61 ∧ gI s66 61 ≤ 1600 := hRs66.1 61; have : (0 : Int) ≤ gI s 100 ∧ gI s 100 ≤ 5 := hRs.1 100; omega)
                        unfold m_x6_advance_J300
                        exact wp_some (hRs3)
                    · skip
                      unfold m_x6_advance_J295
                      refine wp_stn (fun s3 es3 => ?_)
                      have hRs3 : Rg s3 := es3 ▸ Rg.uI hRs62 (by show (0 : Int) ≤ (4 : Int) ∧ (4 : Int) ≤ 4; have : gI s62 107 = gI s61 107 := q_Ii es62 (by decide); have : gI s61 107 = 3 := q_II es61; have : gI s62 61 = gI s61 61 := q_Ii es62 (by decide); have : gI s61 61 = gI s50 61 := q_Ii es61 (by decide); have : gI s50 61 = gI s47 61 := q_Ii es50 (by decide); have : gI s62 108 = gI s61 108 := q_Ii es62 (by decide); have : gI s61 108 = gI s50 108 := q_Ii es61 (by decide); have : gI s50 108 = gI s47 108 := q_Ii es50 (by decide); have : gI s50 111 = r49 := q_II es50; have : gI s47 61 = gI s46 61 := q_Ii es47 (by decide); have : gI s46 61 = gI s66 61 := q_Ii es46 (by decide); have : gI s47 108 = gI s46 108 := q_Ii es47 (by decide); have : gI s46 108 = gI s66 108 := q_Ii es46 (by decide); have : (0 : Int) ≤ gI s66 108 ∧ gI s66 108 ≤ 1600 := hRs66.1 108; have : (0 : Int) ≤ gI s66 61 ∧ gI s66 61 ≤ 1600 := hRs66.1 61; have : (0 : Int) ≤ gI s 100 ∧ gI s 100 ≤ 5 := hRs.1 100; omega)
                      unfold m_x6_advance_J300
                      exact wp_some (hRs3)
                  · skip
                    refine wp_rg (by have : gI s62 61 = gI s61 61 := q_Ii es62 (by decide); have : gI s61 61 = gI s50 61 := q_Ii es61 (by decide); have : gI s50 61 = gI s47 61 := q_Ii es50 (by decide); have : gI s62 108 = gI s61 108 := q_Ii es62 (by decide); have : gI s61 108 = gI s50 108 := q_Ii es61 (by decide); have : gI s50 108 = gI s47 108 := q_Ii es50 (by decide); have : gI s50 111 = r49 := q_II es50; have : gI s47 61 = gI s46 61 := q_Ii es47 (by decide); have : gI s46 61 = gI s66 61 := q_Ii es46 (by decide); have : gI s47 108 = gI s46 108 := q_Ii es47 (by decide); have : gI s46 108 = gI s66 108 := q_Ii es46 (by decide); have : (0 : Int) ≤ gI s66 108 ∧ gI s66 108 ≤ 1600 := hRs66.1 108; have : (0 : Int) ≤ gI s66 61 ∧ gI s66 61 ≤ 1600 := hRs66.1 61; have : (0 : Int) ≤ gI s 100 ∧ gI s 100 ≤ 5 := hRs.1 100; have : gI s62 107 = gI s61 107 := q_Ii es62 (by decide); have : gI s61 107 = 3 := q_II es61; omega) ?_
                    refine wp_if (fun c59 => ?_) (fun c59 => ?_)
                    · skip
                      unfold m_x6_advance_J281
                      refine wp_bn (w_x6_isLetter hRs62 (by show R2 r16; have : gI s62 107 = gI s61 107 := q_Ii es62 (by decide); have : gI s61 107 = 3 := q_II es61; have : gI s62 61 = gI s61 61 := q_Ii es62 (by decide); have : gI s61 61 = gI s50 61 := q_Ii es61 (by decide); have : gI s50 61 = gI s47 61 := q_Ii es50 (by decide); have : gI s62 108 = gI s61 108 := q_Ii es62 (by decide); have : gI s61 108 = gI s50 108 := q_Ii es61 (by decide); have : gI s50 108 = gI s47 108 := q_Ii es50 (by decide); have : gI s50 111 = r49 := q_II es50; have : gI s47 61 = gI s46 61 := q_Ii es47 (by decide); have : gI s46 61 = gI s66 61 := q_Ii es46 (by decide); have : gI s47 108 = gI s46 108 := q_Ii es47 (by decide); have : gI s46 108 = gI s66 108 := q_Ii es46 (by decide); have : (0 : Int) ≤ gI s66 108 ∧ gI s66 108 ≤ 1600 := hRs66.1 108; have : (0 : Int) ≤ gI s66 61 ∧ gI s66 61 ≤ 1600 := hRs66.1 61; have : (0 : Int) ≤ gI s 100 ∧ gI s 100 ≤ 5 := hRs.1 100; omega)) (fun r7 er7 hr7 => ?_)
                      have hr7_0 := hr7
                      have hr7_0 : r7 = 0 ∨ r7 = 1 := hr7_0
                      refine wp_rg (by have : gI s62 107 = gI s61 107 := q_Ii es62 (by decide); have : gI s61 107 = 3 := q_II es61; have : gI s62 61 = gI s61 61 := q_Ii es62 (by decide); have : gI s61 61 = gI s50 61 := q_Ii es61 (by decide); have : gI s50 61 = gI s47 61 := q_Ii es50 (by decide); have : gI s62 108 = gI s61 108 := q_Ii es62 (by decide); have : gI s61 108 = gI s50 108 := q_Ii es61 (by decide); have : gI s50 108 = gI s47 108 := q_Ii es50 (by decide); have : gI s50 111 = r49 := q_II es50; have : gI s47 61 = gI s46 61 := q_Ii es47 (by decide); have : gI s46 61 = gI s66 61 := q_Ii es46 (by decide); have : gI s47 108 = gI s46 108 := q_Ii es47 (by decide); have : gI s46 108 = gI s66 108 := q_Ii es46 (by decide); have : (0 : Int) ≤ gI s66 108 ∧ gI s66 108 ≤ 1600 := hRs66.1 108; have : (0 : Int) ≤ gI s66 61 ∧ gI s66 61 ≤ 1600 := hRs66.1 61; have : (0 : Int) ≤ gI s 100 ∧ gI s 100 ≤ 5 := hRs.1 100; omega) ?_
                      refine wp_if (fun c60 => ?_) (fun c60 => ?_)
                      · skip
                        refine wp_bn (w_x6_isDigit hRs62 (by show R2 r16; have : gI s62 107 = gI s61 107 := q_Ii es62 (by decide); have : gI s61 107 = 3 := q_II es61; have : gI s62 61 = gI s61 61 := q_Ii es62 (by decide); have : gI s61 61 = gI s50 61 := q_Ii es61 (by decide); have : gI s50 61 = gI s47 61 := q_Ii es50 (by decide); have : gI s62 108 = gI s61 108 := q_Ii es62 (by decide); have : gI s61 108 = gI s50 108 := q_Ii es61 (by decide); have : gI s50 108 = gI s47 108 := q_Ii es50 (by decide); have : gI s50 111 = r49 := q_II es50; have : gI s47 61 = gI s46 61 := q_Ii es47 (by decide); have : gI s46 61 = gI s66 61 := q_Ii es46 (by decide); have : gI s47 108 = gI s46 108 := q_Ii es47 (by decide); have : gI s46 108 = gI s66 108 := q_Ii es46 (by decide); have : (0 : Int) ≤ gI s66 108 ∧ gI s66 108 ≤ 1600 := hRs66.1 108; have : (0 : Int) ≤ gI s66 61 ∧ gI s66 61 ≤ 1600 := hRs66.1 61; have : (0 : Int) ≤ gI s 100 ∧ gI s 100 ≤ 5 := hRs.1 100; omega)) (fun r11 er11 hr11 => ?_)
                        have hr11_0 := hr11
                        have hr11_0 : r11 = 0 ∨ r11 = 1 := hr11_0
                        refine wp_rg (by have : gI s62 107 = gI s61 107 := q_Ii es62 (by decide); have : gI s61 107 = 3 := q_II es61; have : gI s62 61 = gI s61 61 := q_Ii es62 (by decide); have : gI s61 61 = gI s50 61 := q_Ii es61 (by decide); have : gI s50 61 = gI s47 61 := q_Ii es50 (by decide); have : gI s62 108 = gI s61 108 := q_Ii es62 (by decide); have : gI s61 108 = gI s50 108 := q_Ii es61 (by decide); have : gI s50 108 = gI s47 108 := q_Ii es50 (by decide); have : gI s50 111 = r49 := q_II es50; have : gI s47 61 = gI s46 61 := q_Ii es47 (by decide); have : gI s46 61 = gI s66 61 := q_Ii es46 (by decide); have : gI s47 108 = gI s46 108 := q_Ii es47 (by decide); have : gI s46 108 = gI s66 108 := q_Ii es46 (by decide); have : (0 : Int) ≤ gI s66 108 ∧ gI s66 108 ≤ 1600 := hRs66.1 108; have : (0 : Int) ≤ gI s66 61 ∧ gI s66 61 ≤ 1600 := hRs66.1 61; have : (0 : Int) ≤ gI s 100 ∧ gI s 100 ≤ 5 := hRs.1 100; omega) ?_
                        refine wp_if (fun c61 => ?_) (fun c61 => ?_)
                        · skip
                          unfold m_x6_advance_J300
                          exact wp_some (hRs62)
                        · skip
                          unfold m_x6_advance_J295
                          refine wp_stn (fun s3 es3 => ?_)
                          have hRs3 : Rg s3 := es3 ▸ Rg.uI hRs62 (by show (0 : Int) ≤ (4 : Int) ∧ (4 : Int) ≤ 4; have : gI s62 107 = gI s61 107 := q_Ii es62 (by decide); have : gI s61 107 = 3 := q_II es61; have : gI s62 61 = gI s61 61 := q_Ii es62 (by decide); have : gI s61 61 = gI s50 61 := q_Ii es61 (by decide); have : gI s50 61 = gI s47 61 := q_Ii es50 (by decide); have : gI s62 108 = gI s61 108 := q_Ii es62 (by decide); have : gI s61 108 = gI s50 108 := q_Ii es61 (by decide); have : gI s50 108 = gI s47 108 := q_Ii es50 (by decide); have : gI s50 111 = r49 := q_II es50; have : gI s47 61 = gI s46 61 := q_Ii es47 (by decide); have : gI s46 61 = gI s66 61 := q_Ii es46 (by decide); have : gI s47 108 = gI s46 108 := q_Ii es47 (by decide); have : gI s46 108 = gI s66 108 := q_Ii es46 (by decide); have : (0 : Int) ≤ gI s66 108 ∧ gI s66 108 ≤ 1600 := hRs66.1 108; have : (0 : Int) ≤ gI s66 61 ∧ gI s66 61 ≤ 1600 := hRs66.1 61; have : (0 : Int) ≤ gI s 100 ∧ gI s 100 ≤ 5 := hRs.1 100; omega)
                          unfold m_x6_advance_J300
                          exact wp_some (hRs3)
                      · skip
                        unfold m_x6_advance_J295
                        refine wp_stn (fun s3 es3 => ?_)
                        have hRs3 : Rg s3 := es3 ▸ Rg.uI hRs62 (by show (0 : Int) ≤ (4 : Int) ∧ (4 : Int) ≤ 4; have : gI s62 107 = gI s61 107 := q_Ii es62 (by decide); have : gI s61 107 = 3 := q_II es61; have : gI s62 61 = gI s61 61 := q_Ii es62 (by decide); have : gI s61 61 = gI s50 61 := q_Ii es61 (by decide); have : gI s50 61 = gI s47 61 := q_Ii es50 (by decide); have : gI s62 108 = gI s61 108 := q_Ii es62 (by decide); have : gI s61 108 = gI s50 108 := q_Ii es61 (by decide); have : gI s50 108 = gI s47 108 := q_Ii es50 (by decide); have : gI s50 111 = r49 := q_II es50; have : gI s47 61 = gI s46 61 := q_Ii es47 (by decide); have : gI s46 61 = gI s66 61 := q_Ii es46 (by decide); have : gI s47 108 = gI s46 108 := q_Ii es47 (by decide); have : gI s46 108 = gI s66 108 := q_Ii es46 (by decide); have : (0 : Int) ≤ gI s66 108 ∧ gI s66 108 ≤ 1600 := hRs66.1 108; have : (0 : Int) ≤ gI s66 61 ∧ gI s66 61 ≤ 1600 := hRs66.1 61; have : (0 : Int) ≤ gI s 100 ∧ gI s 100 ≤ 5 := hRs.1 100; omega)
                        unfold m_x6_advance_J300
                        exact wp_some (hRs3)
                    · skip
                      unfold m_x6_advance_J300
                      exact wp_some (hRs62)
                · skip
                  refine wp_stn (fun s63 es63 => ?_)
                  have hRs63 : Rg s63 := es63 ▸ Rg.uI hRs50 (by show (0 : Int) ≤ (2 : Int) ∧ (2 : Int) ≤ 4; have : gI s50 111 = r49 := q_II es50; have : gI s47 61 = gI s46 61 := q_Ii es47 (by decide); have : gI s46 61 = gI s66 61 := q_Ii es46 (by decide); have : gI s47 108 = gI s46 108 := q_Ii es47 (by decide); have : gI s46 108 = gI s66 108 := q_Ii es46 (by decide); have : (0 : Int) ≤ gI s66 108 ∧ gI s66 108 ≤ 1600 := hRs66.1 108; have : (0 : Int) ≤ gI s66 61 ∧ gI s66 61 ≤ 1600 := hRs66.1 61; have : (0 : Int) ≤ gI s 100 ∧ gI s 100 ≤ 5 := hRs.1 100; omega)
                  have L191 : ∀ (n : Nat) (s21 : MS), Rg s21 → (1600 - gI s21 109) < (n : Int) → wp (m_x6_advance_L191 n s21) (fun o => (Rg o)) := by
                    refine fr_ind (fun s21 hRs21  hm191 => ?_) (fun n191 ih191 s21 hRs21  hm191 => ?_)
                    · exfalso; have : (0 : Int) ≤ gI s21 109 ∧ gI s21 109 ≤ 1600 := hRs21.1 109; omega
                    · show wp (m_x6_advance_b191 (m_x6_advance_L191 n191) s21) _
                      unfold m_x6_advance_b191
                      refine wp_rg (by have : gI s50 111 = r49 := q_II es50; have : gI s47 61 = gI s46 61 := q_Ii es47 (by decide); have : gI s46 61 = gI s66 61 := q_Ii es46 (by decide); have : gI s47 108 = gI s46 108 := q_Ii es47 (by decide); have : gI s46 108 = gI s66 108 := q_Ii es46 (by decide); have : (0 : Int) ≤ gI s66 108 ∧ gI s66 108 ≤ 1600 := hRs66.1 108; have : (0 : Int) ≤ gI s66 61 ∧ gI s66 61 ≤ 1600 := hRs66.1 61; have : (0 : Int) ≤ gI s 100 ∧ gI s 100 ≤ 5 := hRs.1 100; have : (0 : Int) ≤ gI s21 109 ∧ gI s21 109 ≤ 1600 := hRs21.1 109; omega) ?_
                      refine wp_rg (by have : gI s50 111 = r49 := q_II es50; have : gI s47 61 = gI s46 61 := q_Ii es47 (by decide); have : gI s46 61 = gI s66 61 := q_Ii es46 (by decide); have : gI s47 108 = gI s46 108 := q_Ii es47 (by decide); have : gI s46 108 = gI s66 108 := q_Ii es46 (by decide); have : (0 : Int) ≤ gI s66 108 ∧ gI s66 108 ≤ 1600 := hRs66.1 108; have : (0 : Int) ≤ gI s66 61 ∧ gI s66 61 ≤ 1600 := hRs66.1 61; have : (0 : Int) ≤ gI s 100 ∧ gI s 100 ≤ 5 := hRs.1 100; have : (0 : Int) ≤ gI s21 61 ∧ gI s21 61 ≤ 1600 := hRs21.1 61; omega) ?_
                      refine wp_if (fun c62 => ?_) (fun c62 => ?_)
                      · skip
                        unfold m_x6_advance_J251
                        refine wp_bn (w_x9_at hRs21 (by show R2 ((gI s21 108) - 1); have : (0 : Int) ≤ gI s21 109 ∧ gI s21 109 ≤ 1600 := hRs21.1 109; have : (0 : Int) ≤ gI s21 61 ∧ gI s21 61 ≤ 1600 := hRs21.1 61; have : gI s50 111 = r49 := q_II es50; have : gI s47 61 = gI s46 61 := q_Ii es47 (by decide); have : gI s46 61 = gI s66 61 := q_Ii es46 (by decide); have : gI s47 108 = gI s46 108 := q_Ii es47 (by decide); have : gI s46 108 = gI s66 108 := q_Ii es46 (by decide); have : (0 : Int) ≤ gI s66 108 ∧ gI s66 108 ≤ 1600 := hRs66.1 108; have : (0 : Int) ≤ gI s66 61 ∧ gI s66 61 ≤ 1600 := hRs66.1 61; have : (0 : Int) ≤ gI s 100 ∧ gI s 100 ≤ 5 := hRs.1 100; have : (0 : Int) ≤ gI s21 108 ∧ gI s21 108 ≤ 1600 := hRs21.1 108; omega)) (fun r16 er16 hr16 => ?_)
                        obtain ⟨hr16_0, hr16_1⟩ := hr16
                        have hr16_0 : (-1) ≤ r16 ∧ r16 ≤ 255 := hr16_0
                        have hr16_1 : r16 ≠ -1 → 0 ≤ ((gI s21 108) - 1) ∧ ((gI s21 108) - 1) < gI s21 61 := hr16_1
                        refine wp_rg (by have : (0 : Int) ≤ gI s21 108 ∧ gI s21 108 ≤ 1600 := hRs21.1 108; have : (0 : Int) ≤ gI s21 109 ∧ gI s21 109 ≤ 1600 := hRs21.1 109; have : (0 : Int) ≤ gI s21 61 ∧ gI s21 61 ≤ 1600 := hRs21.1 61; have : gI s50 111 = r49 := q_II es50; have : gI s47 61 = gI s46 61 := q_Ii es47 (by decide); have : gI s46 61 = gI s66 61 := q_Ii es46 (by decide); have : gI s47 108 = gI s46 108 := q_Ii es47 (by decide); have : gI s46 108 = gI s66 108 := q_Ii es46 (by decide); have : (0 : Int) ≤ gI s66 108 ∧ gI s66 108 ≤ 1600 := hRs66.1 108; have : (0 : Int) ≤ gI s66 61 ∧ gI s66 61 ≤ 1600 := hRs66.1 61; have : (0 : Int) ≤ gI s 100 ∧ gI s 100 ≤ 5 := hRs.1 100; have : (0 : Int) ≤ gI s21 107 ∧ gI s21 107 ≤ 4 := hRs21.1 107; omega) ?_
                        refine wp_if (fun c63 => ?_) (fun c63 => ?_)
                        · skip
                          unfold m_x6_advance_J281
                          refine wp_bn (w_x6_isLetter hRs21 (by show R2 r16; have : (0 : Int) ≤ gI s21 107 ∧ gI s21 107 ≤ 4 := hRs21.1 107; have : (0 : Int) ≤ gI s21 108 ∧ gI s21 108 ≤ 1600 := hRs21.1 108; have : (0 : Int) ≤ gI s21 109 ∧ gI s21 109 ≤ 1600 := hRs21.1 109; have : (0 : Int) ≤ gI s21 61 ∧ gI s21 61 ≤ 1600 := hRs21.1 61; have : gI s50 111 = r49 := q_II es50; have : gI s47 61 = gI s46 61 := q_Ii es47 (by decide); have : gI s46 61 = gI s66 61 := q_Ii es46 (by decide); have : gI s47 108 = gI s46 108 := q_Ii es47 (by decide); have : gI s46 108 = gI s66 108 := q_Ii es46 (by decide); have : (0 : Int) ≤ gI s66 108 ∧ gI s66 108 ≤ 1600 := hRs66.1 108; have : (0 : Int) ≤ gI s66 61 ∧ gI s66 61 ≤ 1600 := hRs66.1 61; have : (0 : Int) ≤ gI s 100 ∧ gI s 100 ≤ 5 := hRs.1 100; omega)) (fun r7 er7 hr7 => ?_)
                          have hr7_0 := hr7
                          have hr7_0 : r7 = 0 ∨ r7 = 1 := hr7_0
                          refine wp_rg (by have : (0 : Int) ≤ gI s21 107 ∧ gI s21 107 ≤ 4 := hRs21.1 107; have : (0 : Int) ≤ gI s21 108 ∧ gI s21 108 ≤ 1600 := hRs21.1 108; have : (0 : Int) ≤ gI s21 109 ∧ gI s21 109 ≤ 1600 := hRs21.1 109; have : (0 : Int) ≤ gI s21 61 ∧ gI s21 61 ≤ 1600 := hRs21.1 61; have : gI s50 111 = r49 := q_II es50; have : gI s47 61 = gI s46 61 := q_Ii es47 (by decide); have : gI s46 61 = gI s66 61 := q_Ii es46 (by decide); have : gI s47 108 = gI s46 108 := q_Ii es47 (by decide); have : gI s46 108 = gI s66 108 := q_Ii es46 (by decide); have : (0 : Int) ≤ gI s66 108 ∧ gI s66 108 ≤ 1600 := hRs66.1 108; have : (0 : Int) ≤ gI s66 61 ∧ gI s66 61 ≤ 1600 := hRs66.1 61; have : (0 : Int) ≤ gI s 100 ∧ gI s 100 ≤ 5 := hRs.1 100; omega) ?_
                          refine wp_if (fun c64 => ?_) (fun c64 => ?_)
                          · skip
                            refine wp_bn (w_x6_isDigit hRs21 (by show R2 r16; have : (0 : Int) ≤ gI s21 107 ∧ gI s21 107 ≤ 4 := hRs21.1 107; have : (0 : Int) ≤ gI s21 108 ∧ gI s21 108 ≤ 1600 := hRs21.1 108; have : (0 : Int) ≤ gI s21 109 ∧ gI s21 109 ≤ 1600 := hRs21.1 109; have : (0 : Int) ≤ gI s21 61 ∧ gI s21 61 ≤ 1600 := hRs21.1 61; have : gI s50 111 = r49 := q_II es50; have : gI s47 61 = gI s46 61 := q_Ii es47 (by decide); have : gI s46 61 = gI s66 61 := q_Ii es46 (by decide); have : gI s47 108 = gI s46 108 := q_Ii es47 (by decide); have : gI s46 108 = gI s66 108 := q_Ii es46 (by decide); have : (0 : Int) ≤ gI s66 108 ∧ gI s66 108 ≤ 1600 := hRs66.1 108; have : (0 : Int) ≤ gI s66 61 ∧ gI s66 61 ≤ 1600 := hRs66.1 61; have : (0 : Int) ≤ gI s 100 ∧ gI s 100 ≤ 5 := hRs.1 100; omega)) (fun r11 er11 hr11 => ?_)
                            have hr11_0 := hr11
                            have hr11_0 : r11 = 0 ∨ r11 = 1 := hr11_0
                            refine wp_rg (by have : (0 : Int) ≤ gI s21 107 ∧ gI s21 107 ≤ 4 := hRs21.1 107; have : (0 : Int) ≤ gI s21 108 ∧ gI s21 108 ≤ 1600 := hRs21.1 108; have : (0 : Int) ≤ gI s21 109 ∧ gI s21 109 ≤ 1600 := hRs21.1 109; have : (0 : Int) ≤ gI s21 61 ∧ gI s21 61 ≤ 1600 := hRs21.1 61; have : gI s50 111 = r49 := q_II es50; have : gI s47 61 = gI s46 61 := q_Ii es47 (by decide); have : gI s46 61 = gI s66 61 := q_Ii es46 (by decide); have : gI s47 108 = gI s46 108 := q_Ii es47 (by decide); have : gI s46 108 = gI s66 108 := q_Ii es46 (by decide); have : (0 : Int) ≤ gI s66 108 ∧ gI s66 108 ≤ 1600 := hRs66.1 108; have : (0 : Int) ≤ gI s66 61 ∧ gI s66 61 ≤ 1600 := hRs66.1 61; have : (0 : Int) ≤ gI s 100 ∧ gI s 100 ≤ 5 := hRs.1 100; omega) ?_
                            refine wp_if (fun c65 => ?_) (fun c65 => ?_)
                            · skip
                              unfold m_x6_advance_J300
                              exact wp_some (hRs21)
                            · skip
                              unfold m_x6_advance_J295
                              refine wp_stn (fun s3 es3 => ?_)
                              have hRs3 : Rg s3 := es3 ▸ Rg.uI hRs21 (by show (0 : Int) ≤ (4 : Int) ∧ (4 : Int) ≤ 4; have : (0 : Int) ≤ gI s21 107 ∧ gI s21 107 ≤ 4 := hRs21.1 107; have : (0 : Int) ≤ gI s21 108 ∧ gI s21 108 ≤ 1600 := hRs21.1 108; have : (0 : Int) ≤ gI s21 109 ∧ gI s21 109 ≤ 1600 := hRs21.1 109; have : (0 : Int) ≤ gI s21 61 ∧ gI s21 61 ≤ 1600 := hRs21.1 61; have : gI s50 111 = r49 := q_II es50; have : gI s47 61 = gI s46 61 := q_Ii es47 (by decide); have : gI s46 61 = gI s66 61 := q_Ii es46 (by decide); have : gI s47 108 = gI s46 108 := q_Ii es47 (by decide); have : gI s46 108 = gI s66 108 := q_Ii es46 (by decide); have : (0 : Int) ≤ gI s66 108 ∧ gI s66 108 ≤ 1600 := hRs66.1 108; have : (0 : Int) ≤ gI s66 61 ∧ gI s66 61 ≤ 1600 := hRs66.1 61; have : (0 : Int) ≤ gI s 100 ∧ gI s 100 ≤ 5 := hRs.1 100; omega)
                              unfold m_x6_advance_J300
                              exact wp_some (hRs3)
                          · skip
                            unfold m_x6_advance_J295
                            refine wp_stn (fun s3 es3 => ?_)
                            have hRs3 : Rg s3 := es3 ▸ Rg.uI hRs21 (by show (0 : Int) ≤ (4 : Int) ∧ (4 : Int) ≤ 4; have : (0 : Int) ≤ gI s21 107 ∧ gI s21 107 ≤ 4 := hRs21.1 107; have : (0 : Int) ≤ gI s21 108 ∧ gI s21 108 ≤ 1600 := hRs21.1 108; have : (0 : Int) ≤ gI s21 109 ∧ gI s21 109 ≤ 1600 := hRs21.1 109; have : (0 : Int) ≤ gI s21 61 ∧ gI s21 61 ≤ 1600 := hRs21.1 61; have : gI s50 111 = r49 := q_II es50; have : gI s47 61 = gI s46 61 := q_Ii es47 (by decide); have : gI s46 61 = gI s66 61 := q_Ii es46 (by decide); have : gI s47 108 = gI s46 108 := q_Ii es47 (by decide); have : gI s46 108 = gI s66 108 := q_Ii es46 (by decide); have : (0 : Int) ≤ gI s66 108 ∧ gI s66 108 ≤ 1600 := hRs66.1 108; have : (0 : Int) ≤ gI s66 61 ∧ gI s66 61 ≤ 1600 := hRs66.1 61; have : (0 : Int) ≤ gI s 100 ∧ gI s 100 ≤ 5 := hRs.1 100; omega)
                            unfold m_x6_advance_J300
                            exact wp_some (hRs3)
                        · skip
                          refine wp_rg (by have : (0 : Int) ≤ gI s21 108 ∧ gI s21 108 ≤ 1600 := hRs21.1 108; have : (0 : Int) ≤ gI s21 109 ∧ gI s21 109 ≤ 1600 := hRs21.1 109; have : (0 : Int) ≤ gI s21 61 ∧ gI s21 61 ≤ 1600 := hRs21.1 61; have : gI s50 111 = r49 := q_II es50; have : gI s47 61 = gI s46 61 := q_Ii es47 (by decide); have : gI s46 61 = gI s66 61 := q_Ii es46 (by decide); have : gI s47 108 = gI s46 108 := q_Ii es47 (by decide); have : gI s46 108 = gI s66 108 := q_Ii es46 (by decide); have : (0 : Int) ≤ gI s66 108 ∧ gI s66 108 ≤ 1600 := hRs66.1 108; have : (0 : Int) ≤ gI s66 61 ∧ gI s66 61 ≤ 1600 := hRs66.1 61; have : (0 : Int) ≤ gI s 100 ∧ gI s 100 ≤ 5 := hRs.1 100; have : (0 : Int) ≤ gI s21 107 ∧ gI s21 107 ≤ 4 := hRs21.1 107; omega) ?_
                          refine wp_if (fun c66 => ?_) (fun c66 => ?_)
                          · skip
                            unfold m_x6_advance_J281
                            refine wp_bn (w_x6_isLetter hRs21 (by show R2 r16; have : (0 : Int) ≤ gI s21 107 ∧ gI s21 107 ≤ 4 := hRs21.1 107; have : (0 : Int) ≤ gI s21 108 ∧ gI s21 108 ≤ 1600 := hRs21.1 108; have : (0 : Int) ≤ gI s21 109 ∧ gI s21 109 ≤ 1600 := hRs21.1 109; have : (0 : Int) ≤ gI s21 61 ∧ gI s21 61 ≤ 1600 := hRs21.1 61; have : gI s50 111 = r49 := q_II es50; have : gI s47 61 = gI s46 61 := q_Ii es47 (by decide); have : gI s46 61 = gI s66 61 := q_Ii es46 (by decide); have : gI s47 108 = gI s46 108 := q_Ii es47 (by decide); have : gI s46 108 = gI s66 108 := q_Ii es46 (by decide); have : (0 : Int) ≤ gI s66 108 ∧ gI s66 108 ≤ 1600 := hRs66.1 108; have : (0 : Int) ≤ gI s66 61 ∧ gI s66 61 ≤ 1600 := hRs66.1 61; have : (0 : Int) ≤ gI s 100 ∧ gI s 100 ≤ 5 := hRs.1 100; omega)) (fun r7 er7 hr7 => ?_)
                            have hr7_0 := hr7
                            have hr7_0 : r7 = 0 ∨ r7 = 1 := hr7_0
                            refine wp_rg (by have : (0 : Int) ≤ gI s21 107 ∧ gI s21 107 ≤ 4 := hRs21.1 107; have : (0 : Int) ≤ gI s21 108 ∧ gI s21 108 ≤ 1600 := hRs21.1 108; have : (0 : Int) ≤ gI s21 109 ∧ gI s21 109 ≤ 1600 := hRs21.1 109; have : (0 : Int) ≤ gI s21 61 ∧ gI s21 61 ≤ 1600 := hRs21.1 61; have : gI s50 111 = r49 := q_II es50; have : gI s47 61 = gI s46 61 := q_Ii es47 (by decide); have : gI s46 61 = gI s66 61 := q_Ii es46 (by decide); have : gI s47 108 = gI s46 108 := q_Ii es47 (by decide); have : gI s46 108 = gI s66 108 := q_Ii es46 (by decide); have : (0 : Int) ≤ gI s66 108 ∧ gI s66 108 ≤ 1600 := hRs66.1 108; have : (0 : Int) ≤ gI s66 61 ∧ gI s66 61 ≤ 1600 := hRs66.1 61; have : (0 : Int) ≤ gI s 100 ∧ gI s 100 ≤ 5 := hRs.1 100; omega) ?_
                            refine wp_if (fun c67 => ?_) (fun c67 => ?_)
                            · skip
                              refine wp_bn (w_x6_isDigit hRs21 (by show R2 r16; have : (0 : Int) ≤ gI s21 107 ∧ gI s21 107 ≤ 4 := hRs21.1 107; have : (0 : Int) ≤ gI s21 108 ∧ gI s21 108 ≤ 1600 := hRs21.1 108; have : (0 : Int) ≤ gI s21 109 ∧ gI s21 109 ≤ 1600 := hRs21.1 109; have : (0 : Int) ≤ gI s21 61 ∧ gI s21 61 ≤ 1600 := hRs21.1 61; have : gI s50 111 = r49 := q_II es50; have : gI s47 61 = gI s46 61 := q_Ii es47 (by decide); have : gI s46 61 = gI s66 61 := q_Ii es46 (by decide); have : gI s47 108 = gI s46 108 := q_Ii es47 (by decide); have : gI s46 108 = gI s66 108 := q_Ii es46 (by decide); have : (0 : Int) ≤ gI s66 108 ∧ gI s66 108 ≤ 1600 := hRs66.1 108; have : (0 : Int) ≤ gI s66 61 ∧ gI s66 61 ≤ 1600 := hRs66.1 61; have : (0 : Int) ≤ gI s 100 ∧ gI s 100 ≤ 5 := hRs.1 100; omega)) (fun r11 er11 hr11 => ?_)
                              have hr11_0 := hr11
                              have hr11_0 : r11 = 0 ∨ r11 = 1 := hr11_0
                              refine wp_rg (by have : (0 : Int) ≤ gI s21 107 ∧ gI s21 107 ≤ 4 := hRs21.1 107; have : (0 : Int) ≤ gI s21 108 ∧ gI s21 108 ≤ 1600 := hRs21.1 108; have : (0 : Int) ≤ gI s21 109 ∧ gI s21 109 ≤ 1600 := hRs21.1 109; have : (0 : Int) ≤ gI s21 61 ∧ gI s21 61 ≤ 1600 := hRs21.1 61; have : gI s50 111 = r49 := q_II es50; have : gI s47 61 = gI s46 61 := q_Ii es47 (by decide); have : gI s46 61 = gI s66 61 := q_Ii es46 (by decide); have : gI s47 108 = gI s46 108 := q_Ii es47 (by decide); have : gI s46 108 = gI s66 108 := q_Ii es46 (by decide); have : (0 : Int) ≤ gI s66 108 ∧ gI s66 108 ≤ 1600 := hRs66.1 108; have : (0 : Int) ≤ gI s66 61 ∧ gI s66 61 ≤ 1600 := hRs66.1 61; have : (0 : Int) ≤ gI s 100 ∧ gI s 100 ≤ 5 := hRs.1 100; omega) ?_
                              refine wp_if (fun c68 => ?_) (fun c68 => ?_)
                              · skip
                                unfold m_x6_advance_J300
                                exact wp_some (hRs21)
                              · skip
                                unfold m_x6_advance_J295
                                refine wp_stn (fun s3 es3 => ?_)
                                have hRs3 : Rg s3 := es3 ▸ Rg.uI hRs21 (by show (0 : Int) ≤ (4 : Int) ∧ (4 : Int) ≤ 4; have : (0 : Int) ≤ gI s21 107 ∧ gI s21 107 ≤ 4 := hRs21.1 107; have : (0 : Int) ≤ gI s21 108 ∧ gI s21 108 ≤ 1600 := hRs21.1 108; have : (0 : Int) ≤ gI s21 109 ∧ gI s21 109 ≤ 1600 := hRs21.1 109; have : (0 : Int) ≤ gI s21 61 ∧ gI s21 61 ≤ 1600 := hRs21.1 61; have : gI s50 111 = r49 := q_II es50; have : gI s47 61 = gI s46 61 := q_Ii es47 (by decide); have : gI s46 61 = gI s66 61 := q_Ii es46 (by decide); have : gI s47 108 = gI s46 108 := q_Ii es47 (by decide); have : gI s46 108 = gI s66 108 := q_Ii es46 (by decide); have : (0 : Int) ≤ gI s66 108 ∧ gI s66 108 ≤ 1600 := hRs66.1 108; have : (0 : Int) ≤ gI s66 61 ∧ gI s66 61 ≤ 1600 := hRs66.1 61; have : (0 : Int) ≤ gI s 100 ∧ gI s 100 ≤ 5 := hRs.1 100; omega)
                                unfold m_x6_advance_J300
                                exact wp_some (hRs3)
                            · skip
                              unfold m_x6_advance_J295
                              refine wp_stn (fun s3 es3 => ?_)
                              have hRs3 : Rg s3 := es3 ▸ Rg.uI hRs21 (by show (0 : Int) ≤ (4 : Int) ∧ (4 : Int) ≤ 4; have : (0 : Int) ≤ gI s21 107 ∧ gI s21 107 ≤ 4 := hRs21.1 107; have : (0 : Int) ≤ gI s21 108 ∧ gI s21 108 ≤ 1600 := hRs21.1 108; have : (0 : Int) ≤ gI s21 109 ∧ gI s21 109 ≤ 1600 := hRs21.1 109; have : (0 : Int) ≤ gI s21 61 ∧ gI s21 61 ≤ 1600 := hRs21.1 61; have : gI s50 111 = r49 := q_II es50; have : gI s47 61 = gI s46 61 := q_Ii es47 (by decide); have : gI s46 61 = gI s66 61 := q_Ii es46 (by decide); have : gI s47 108 = gI s46 108 := q_Ii es47 (by decide); have : gI s46 108 = gI s66 108 := q_Ii es46 (by decide); have : (0 : Int) ≤ gI s66 108 ∧ gI s66 108 ≤ 1600 := hRs66.1 108; have : (0 : Int) ≤ gI s66 61 ∧ gI s66 61 ≤ 1600 := hRs66.1 61; have : (0 : Int) ≤ gI s 100 ∧ gI s 100 ≤ 5 := hRs.1 100; omega)
                              unfold m_x6_advance_J300
                              exact wp_some (hRs3)
                          · skip
                            unfold m_x6_advance_J300
                            exact wp_some (hRs21)
                      · skip
                        refine wp_rdIn (by have : (0 : Int) ≤ gI s21 61 ∧ gI s21 61 ≤ 1600 := hRs21.1 61; have : gI s50 111 = r49 := q_II es50; have : gI s47 61 = gI s46 61 := q_Ii es47 (by decide); have : gI s46 61 = gI s66 61 := q_Ii es46 (by decide); have : gI s47 108 = gI s46 108 := q_Ii es47 (by decide); have : gI s46 108 = gI s66 108 := q_Ii es46 (by decide); have : (0 : Int) ≤ gI s66 108 ∧ gI s66 108 ≤ 1600 := hRs66.1 108; have : (0 : Int) ≤ gI s66 61 ∧ gI s66 61 ≤ 1600 := hRs66.1 61; have : (0 : Int) ≤ gI s 100 ∧ gI s 100 ≤ 5 := hRs.1 100; have : (0 : Int) ≤ gI s21 109 ∧ gI s21 109 ≤ 1600 := hRs21.1 109; omega) (fun y25 ey25 => ?_)
                        have by25 : (0 : Int) ≤ y25 ∧ y25 ≤ 255 := ey25 ▸ hRs21.2.1 4 _ (by show _ < 1600; have : (0 : Int) ≤ gI s21 61 ∧ gI s21 61 ≤ 1600 := hRs21.1 61; have : gI s50 111 = r49 := q_II es50; have : gI s47 61 = gI s46 61 := q_Ii es47 (by decide); have : gI s46 61 = gI s66 61 := q_Ii es46 (by decide); have : gI s47 108 = gI s46 108 := q_Ii es47 (by decide); have : gI s46 108 = gI s66 108 := q_Ii es46 (by decide); have : (0 : Int) ≤ gI s66 108 ∧ gI s66 108 ≤ 1600 := hRs66.1 108; have : (0 : Int) ≤ gI s66 61 ∧ gI s66 61 ≤ 1600 := hRs66.1 61; have : (0 : Int) ≤ gI s 100 ∧ gI s 100 ≤ 5 := hRs.1 100; have : (0 : Int) ≤ gI s21 109 ∧ gI s21 109 ≤ 1600 := hRs21.1 109; omega)
                        refine wp_bn (w_x6_isDigit hRs21 (by show R2 y25; have : (0 : Int) ≤ gI s21 109 ∧ gI s21 109 ≤ 1600 := hRs21.1 109; have : (0 : Int) ≤ gI s21 61 ∧ gI s21 61 ≤ 1600 := hRs21.1 61; have : gI s50 111 = r49 := q_II es50; have : gI s47 61 = gI s46 61 := q_Ii es47 (by decide); have : gI s46 61 = gI s66 61 := q_Ii es46 (by decide); have : gI s47 108 = gI s46 108 := q_Ii es47 (by decide); have : gI s46 108 = gI s66 108 := q_Ii es46 (by decide); have : (0 : Int) ≤ gI s66 108 ∧ gI s66 108 ≤ 1600 := hRs66.1 108; have : (0 : Int) ≤ gI s66 61 ∧ gI s66 61 ≤ 1600 := hRs66.1 61; have : (0 : Int) ≤ gI s 100 ∧ gI s 100 ≤ 5 := hRs.1 100; omega)) (fun r27 er27 hr27 => ?_)
                        have hr27_0 := hr27
                        have hr27_0 : r27 = 0 ∨ r27 = 1 := hr27_0
                        refine wp_rg (by have : (0 : Int) ≤ gI s21 109 ∧ gI s21 109 ≤ 1600 := hRs21.1 109; have : (0 : Int) ≤ gI s21 61 ∧ gI s21 61 ≤ 1600 := hRs21.1 61; have : gI s50 111 = r49 := q_II es50; have : gI s47 61 = gI s46 61 := q_Ii es47 (by decide); have : gI s46 61 = gI s66 61 := q_Ii es46 (by decide); have : gI s47 108 = gI s46 108 := q_Ii es47 (by decide); have : gI s46 108 = gI s66 108 := q_Ii es46 (by decide); have : (0 : Int) ≤ gI s66 108 ∧ gI s66 108 ≤ 1600 := hRs66.1 108; have : (0 : Int) ≤ gI s66 61 ∧ gI s66 61 ≤ 1600 := hRs66.1 61; have : (0 : Int) ≤ gI s 100 ∧ gI s 100 ≤ 5 := hRs.1 100; omega) ?_
                        refine wp_if (fun c69 => ?_) (fun c69 => ?_)
                        · skip
                          unfold m_x6_advance_J251
                          refine wp_bn (w_x9_at hRs21 (by show R2 ((gI s21 108) - 1); have : (0 : Int) ≤ gI s21 109 ∧ gI s21 109 ≤ 1600 := hRs21.1 109; have : (0 : Int) ≤ gI s21 61 ∧ gI s21 61 ≤ 1600 := hRs21.1 61; have : gI s50 111 = r49 := q_II es50; have : gI s47 61 = gI s46 61 := q_Ii es47 (by decide); have : gI s46 61 = gI s66 61 := q_Ii es46 (by decide); have : gI s47 108 = gI s46 108 := q_Ii es47 (by decide); have : gI s46 108 = gI s66 108 := q_Ii es46 (by decide); have : (0 : Int) ≤ gI s66 108 ∧ gI s66 108 ≤ 1600 := hRs66.1 108; have : (0 : Int) ≤ gI s66 61 ∧ gI s66 61 ≤ 1600 := hRs66.1 61; have : (0 : Int) ≤ gI s 100 ∧ gI s 100 ≤ 5 := hRs.1 100; have : (0 : Int) ≤ gI s21 108 ∧ gI s21 108 ≤ 1600 := hRs21.1 108; omega)) (fun r16 er16 hr16 => ?_)
                          obtain ⟨hr16_0, hr16_1⟩ := hr16
                          have hr16_0 : (-1) ≤ r16 ∧ r16 ≤ 255 := hr16_0
                          have hr16_1 : r16 ≠ -1 → 0 ≤ ((gI s21 108) - 1) ∧ ((gI s21 108) - 1) < gI s21 61 := hr16_1
                          refine wp_rg (by have : (0 : Int) ≤ gI s21 108 ∧ gI s21 108 ≤ 1600 := hRs21.1 108; have : (0 : Int) ≤ gI s21 109 ∧ gI s21 109 ≤ 1600 := hRs21.1 109; have : (0 : Int) ≤ gI s21 61 ∧ gI s21 61 ≤ 1600 := hRs21.1 61; have : gI s50 111 = r49 := q_II es50; have : gI s47 61 = gI s46 61 := q_Ii es47 (by decide); have : gI s46 61 = gI s66 61 := q_Ii es46 (by decide); have : gI s47 108 = gI s46 108 := q_Ii es47 (by decide); have : gI s46 108 = gI s66 108 := q_Ii es46 (by decide); have : (0 : Int) ≤ gI s66 108 ∧ gI s66 108 ≤ 1600 := hRs66.1 108; have : (0 : Int) ≤ gI s66 61 ∧ gI s66 61 ≤ 1600 := hRs66.1 61; have : (0 : Int) ≤ gI s 100 ∧ gI s 100 ≤ 5 := hRs.1 100; have : (0 : Int) ≤ gI s21 107 ∧ gI s21 107 ≤ 4 := hRs21.1 107; omega) ?_
                          refine wp_if (fun c70 => ?_) (fun c70 => ?_)
                          · skip
                            unfold m_x6_advance_J281
                            refine wp_bn (w_x6_isLetter hRs21 (by show R2 r16; have : (0 : Int) ≤ gI s21 107 ∧ gI s21 107 ≤ 4 := hRs21.1 107; have : (0 : Int) ≤ gI s21 108 ∧ gI s21 108 ≤ 1600 := hRs21.1 108; have : (0 : Int) ≤ gI s21 109 ∧ gI s21 109 ≤ 1600 := hRs21.1 109; have : (0 : Int) ≤ gI s21 61 ∧ gI s21 61 ≤ 1600 := hRs21.1 61; have : gI s50 111 = r49 := q_II es50; have : gI s47 61 = gI s46 61 := q_Ii es47 (by decide); have : gI s46 61 = gI s66 61 := q_Ii es46 (by decide); have : gI s47 108 = gI s46 108 := q_Ii es47 (by decide); have : gI s46 108 = gI s66 108 := q_Ii es46 (by decide); have : (0 : Int) ≤ gI s66 108 ∧ gI s66 108 ≤ 1600 := hRs66.1 108; have : (0 : Int) ≤ gI s66 61 ∧ gI s66 61 ≤ 1600 := hRs66.1 61; have : (0 : Int) ≤ gI s 100 ∧ gI s 100 ≤ 5 := hRs.1 100; omega)) (fun r7 er7 hr7 => ?_)
                            have hr7_0 := hr7
                            have hr7_0 : r7 = 0 ∨ r7 = 1 := hr7_0
                            refine wp_rg (by have : (0 : Int) ≤ gI s21 107 ∧ gI s21 107 ≤ 4 := hRs21.1 107; have : (0 : Int) ≤ gI s21 108 ∧ gI s21 108 ≤ 1600 := hRs21.1 108; have : (0 : Int) ≤ gI s21 109 ∧ gI s21 109 ≤ 1600 := hRs21.1 109; have : (0 : Int) ≤ gI s21 61 ∧ gI s21 61 ≤ 1600 := hRs21.1 61; have : gI s50 111 = r49 := q_II es50; have : gI s47 61 = gI s46 61 := q_Ii es47 (by decide); have : gI s46 61 = gI s66 61 := q_Ii es46 (by decide); have : gI s47 108 = gI s46 108 := q_Ii es47 (by decide); have : gI s46 108 = gI s66 108 := q_Ii es46 (by decide); have : (0 : Int) ≤ gI s66 108 ∧ gI s66 108 ≤ 1600 := hRs66.1 108; have : (0 : Int) ≤ gI s66 61 ∧ gI s66 61 ≤ 1600 := hRs66.1 61; have : (0 : Int) ≤ gI s 100 ∧ gI s 100 ≤ 5 := hRs.1 100; omega) ?_
                            refine wp_if (fun c71 => ?_) (fun c71 => ?_)
                            · skip
                              refine wp_bn (w_x6_isDigit hRs21 (by show R2 r16; have : (0 : Int) ≤ gI s21 107 ∧ gI s21 107 ≤ 4 := hRs21.1 107; have : (0 : Int) ≤ gI s21 108 ∧ gI s21 108 ≤ 1600 := hRs21.1 108; have : (0 : Int) ≤ gI s21 109 ∧ gI s21 109 ≤ 1600 := hRs21.1 109; have : (0 : Int) ≤ gI s21 61 ∧ gI s21 61 ≤ 1600 := hRs21.1 61; have : gI s50 111 = r49 := q_II es50; have : gI s47 61 = gI s46 61 := q_Ii es47 (by decide); have : gI s46 61 = gI s66 61 := q_Ii es46 (by decide); have : gI s47 108 = gI s46 108 := q_Ii es47 (by decide); have : gI s46 108 = gI s66 108 := q_Ii es46 (by decide); have : (0 : Int) ≤ gI s66 108 ∧ gI s66 108 ≤ 1600 := hRs66.1 108; have : (0 : Int) ≤ gI s66 61 ∧ gI s66 61 ≤ 1600 := hRs66.1 61; have : (0 : Int) ≤ gI s 100 ∧ gI s 100 ≤ 5 := hRs.1 100; omega)) (fun r11 er11 hr11 => ?_)
                              have hr11_0 := hr11
                              have hr11_0 : r11 = 0 ∨ r11 = 1 := hr11_0
                              refine wp_rg (by have : (0 : Int) ≤ gI s21 107 ∧ gI s21 107 ≤ 4 := hRs21.1 107; have : (0 : Int) ≤ gI s21 108 ∧ gI s21 108 ≤ 1600 := hRs21.1 108; have : (0 : Int) ≤ gI s21 109 ∧ gI s21 109 ≤ 1600 := hRs21.1 109; have : (0 : Int) ≤ gI s21 61 ∧ gI s21 61 ≤ 1600 := hRs21.1 61; have : gI s50 111 = r49 := q_II es50; have : gI s47 61 = gI s46 61 := q_Ii es47 (by decide); have : gI s46 61 = gI s66 61 := q_Ii es46 (by decide); have : gI s47 108 = gI s46 108 := q_Ii es47 (by decide); have : gI s46 108 = gI s66 108 := q_Ii es46 (by decide); have : (0 : Int) ≤ gI s66 108 ∧ gI s66 108 ≤ 1600 := hRs66.1 108; have : (0 : Int) ≤ gI s66 61 ∧ gI s66 61 ≤ 1600 := hRs66.1 61; have : (0 : Int) ≤ gI s 100 ∧ gI s 100 ≤ 5 := hRs.1 100; omega) ?_
                              refine wp_if (fun c72 => ?_) (fun c72 => ?_)
                              · skip
                                unfold m_x6_advance_J300
                                exact wp_some (hRs21)
                              · skip
                                unfold m_x6_advance_J295
                                refine wp_stn (fun s3 es3 => ?_)
                                have hRs3 : Rg s3 := es3 ▸ Rg.uI hRs21 (by show (0 : Int) ≤ (4 : Int) ∧ (4 : Int) ≤ 4; have : (0 : Int) ≤ gI s21 107 ∧ gI s21 107 ≤ 4 := hRs21.1 107; have : (0 : Int) ≤ gI s21 108 ∧ gI s21 108 ≤ 1600 := hRs21.1 108; have : (0 : Int) ≤ gI s21 109 ∧ gI s21 109 ≤ 1600 := hRs21.1 109; have : (0 : Int) ≤ gI s21 61 ∧ gI s21 61 ≤ 1600 := hRs21.1 61; have : gI s50 111 = r49 := q_II es50; have : gI s47 61 = gI s46 61 := q_Ii es47 (by decide); have : gI s46 61 = gI s66 61 := q_Ii es46 (by decide); have : gI s47 108 = gI s46 108 := q_Ii es47 (by decide); have : gI s46 108 = gI s66 108 := q_Ii es46 (by decide); have : (0 : Int) ≤ gI s66 108 ∧ gI s66 108 ≤ 1600 := hRs66.1 108; have : (0 : Int) ≤ gI s66 61 ∧ gI s66 61 ≤ 1600 := hRs66.1 61; have : (0 : Int) ≤ gI s 100 ∧ gI s 100 ≤ 5 := hRs.1 100; omega)
                                unfold m_x6_advance_J300
                                exact wp_some (hRs3)
                            · skip
                              unfold m_x6_advance_J295
                              refine wp_stn (fun s3 es3 => ?_)
                              have hRs3 : Rg s3 := es3 ▸ Rg.uI hRs21 (by show (0 : Int) ≤ (4 : Int) ∧ (4 : Int) ≤ 4; have : (0 : Int) ≤ gI s21 107 ∧ gI s21 107 ≤ 4 := hRs21.1 107; have : (0 : Int) ≤ gI s21 108 ∧ gI s21 108 ≤ 1600 := hRs21.1 108; have : (0 : Int) ≤ gI s21 109 ∧ gI s21 109 ≤ 1600 := hRs21.1 109; have : (0 : Int) ≤ gI s21 61 ∧ gI s21 61 ≤ 1600 := hRs21.1 61; have : gI s50 111 = r49 := q_II es50; have : gI s47 61 = gI s46 61 := q_Ii es47 (by decide); have : gI s46 61 = gI s66 61 := q_Ii es46 (by decide); have : gI s47 108 = gI s46 108 := q_Ii es47 (by decide); have : gI s46 108 = gI s66 108 := q_Ii es46 (by decide); have : (0 : Int) ≤ gI s66 108 ∧ gI s66 108 ≤ 1600 := hRs66.1 108; have : (0 : Int) ≤ gI s66 61 ∧ gI s66 61 ≤ 1600 := hRs66.1 61; have : (0 : Int) ≤ gI s 100 ∧ gI s 100 ≤ 5 := hRs.1 100; omega)
                              unfold m_x6_advance_J300
                              exact wp_some (hRs3)
                          · skip
                            refine wp_rg (by have : (0 : Int) ≤ gI s21 108 ∧ gI s21 108 ≤ 1600 := hRs21.1 108; have : (0 : Int) ≤ gI s21 109 ∧ gI s21 109 ≤ 1600 := hRs21.1 109; have : (0 : Int) ≤ gI s21 61 ∧ gI s21 61 ≤ 1600 := hRs21.1 61; have : gI s50 111 = r49 := q_II es50; have : gI s47 61 = gI s46 61 := q_Ii es47 (by decide); have : gI s46 61 = gI s66 61 := q_Ii es46 (by decide); have : gI s47 108 = gI s46 108 := q_Ii es47 (by decide); have : gI s46 108 = gI s66 108 := q_Ii es46 (by decide); have : (0 : Int) ≤ gI s66 108 ∧ gI s66 108 ≤ 1600 := hRs66.1 108; have : (0 : Int) ≤ gI s66 61 ∧ gI s66 61 ≤ 1600 := hRs66.1 61; have : (0 : Int) ≤ gI s 100 ∧ gI s 100 ≤ 5 := hRs.1 100; have : (0 : Int) ≤ gI s21 107 ∧ gI s21 107 ≤ 4 := hRs21.1 107; omega) ?_
                            refine wp_if (fun c73 => ?_) (fun c73 => ?_)
                            · skip
                              unfold m_x6_advance_J281
                              refine wp_bn (w_x6_isLetter hRs21 (by show R2 r16; have : (0 : Int) ≤ gI s21 107 ∧ gI s21 107 ≤ 4 := hRs21.1 107; have : (0 : Int) ≤ gI s21 108 ∧ gI s21 108 ≤ 1600 := hRs21.1 108; have : (0 : Int) ≤ gI s21 109 ∧ gI s21 109 ≤ 1600 := hRs21.1 109; have : (0 : Int) ≤ gI s21 61 ∧ gI s21 61 ≤ 1600 := hRs21.1 61; have : gI s50 111 = r49 := q_II es50; have : gI s47 61 = gI s46 61 := q_Ii es47 (by decide); have : gI s46 61 = gI s66 61 := q_Ii es46 (by decide); have : gI s47 108 = gI s46 108 := q_Ii es47 (by decide); have : gI s46 108 = gI s66 108 := q_Ii es46 (by decide); have : (0 : Int) ≤ gI s66 108 ∧ gI s66 108 ≤ 1600 := hRs66.1 108; have : (0 : Int) ≤ gI s66 61 ∧ gI s66 61 ≤ 1600 := hRs66.1 61; have : (0 : Int) ≤ gI s 100 ∧ gI s 100 ≤ 5 := hRs.1 100; omega)) (fun r7 er7 hr7 => ?_)
                              have hr7_0 := hr7
                              have hr7_0 : r7 = 0 ∨ r7 = 1 := hr7_0
                              refine wp_rg (by have : (0 : Int) ≤ gI s21 107 ∧ gI s21 107 ≤ 4 := hRs21.1 107; have : (0 : Int) ≤ gI s21 108 ∧ gI s21 108 ≤ 1600 := hRs21.1 108; have : (0 : Int) ≤ gI s21 109 ∧ gI s21 109 ≤ 1600 := hRs21.1 109; have : (0 : Int) ≤ gI s21 61 ∧ gI s21 61 ≤ 1600 := hRs21.1 61; have : gI s50 111 = r49 := q_II es50; have : gI s47 61 = gI s46 61 := q_Ii es47 (by decide); have : gI s46 61 = gI s66 61 := q_Ii es46 (by decide); have : gI s47 108 = gI s46 108 := q_Ii es47 (by decide); have : gI s46 108 = gI s66 108 := q_Ii es46 (by decide); have : (0 : Int) ≤ gI s66 108 ∧ gI s66 108 ≤ 1600 := hRs66.1 108; have : (0 : Int) ≤ gI s66 61 ∧ gI s66 61 ≤ 1600 := hRs66.1 61; have : (0 : Int) ≤ gI s 100 ∧ gI s 100 ≤ 5 := hRs.1 100; omega) ?_
                              refine wp_if (fun c74 => ?_) (fun c74 => ?_)
                              · skip
                                refine wp_bn (w_x6_isDigit hRs21 (by show R2 r16; have : (0 : Int) ≤ gI s21 107 ∧ gI s21 107 ≤ 4 := hRs21.1 107; have : (0 : Int) ≤ gI s21 108 ∧ gI s21 108 ≤ 1600 := hRs21.1 108; have : (0 : Int) ≤ gI s21 109 ∧ gI s21 109 ≤ 1600 := hRs21.1 109; have : (0 : Int) ≤ gI s21 61 ∧ gI s21 61 ≤ 1600 := hRs21.1 61; have : gI s50 111 = r49 := q_II es50; have : gI s47 61 = gI s46 61 := q_Ii es47 (by decide); have : gI s46 61 = gI s66 61 := q_Ii es46 (by decide); have : gI s47 108 = gI s46 108 := q_Ii es47 (by decide); have : gI s46 108 = gI s66 108 := q_Ii es46 (by decide); have : (0 : Int) ≤ gI s66 108 ∧ gI s66 108 ≤ 1600 := hRs66.1 108; have : (0 : Int) ≤ gI s66 61 ∧ gI s66 61 ≤ 1600 := hRs66.1 61; have : (0 : Int) ≤ gI s 100 ∧ gI s 100 ≤ 5 := hRs.1 100; omega)) (fun r11 er11 hr11 => ?_)
                                have hr11_0 := hr11
                                have hr11_0 : r11 = 0 ∨ r11 = 1 := hr11_0
                                refine wp_rg (by have : (0 : Int) ≤ gI s21 107 ∧ gI s21 107 ≤ 4 := hRs21.1 107; have : (0 : Int) ≤ gI s21 108 ∧ gI s21 108 ≤ 1600 := hRs21.1 108; have : (0 : Int) ≤ gI s21 109 ∧ gI s21 109 ≤ 1600 := hRs21.1 109; have : (0 : Int) ≤ gI s21 61 ∧ gI s21 61 ≤ 1600 := hRs21.1 61; have : gI s50 111 = r49 := q_II es50; have : gI s47 61 = gI s46 61 := q_Ii es47 (by decide); have : gI s46 61 = gI s66 61 := q_Ii es46 (by decide); have : gI s47 108 = gI s46 108 := q_Ii es47 (by decide); have : gI s46 108 = gI s66 108 := q_Ii es46 (by decide); have : (0 : Int) ≤ gI s66 108 ∧ gI s66 108 ≤ 1600 := hRs66.1 108; have : (0 : Int) ≤ gI s66 61 ∧ gI s66 61 ≤ 1600 := hRs66.1 61; have : (0 : Int) ≤ gI s 100 ∧ gI s 100 ≤ 5 := hRs.1 100; omega) ?_
                                refine wp_if (fun c75 => ?_) (fun c75 => ?_)
                                · skip
                                  unfold m_x6_advance_J300
                                  exact wp_some (hRs21)
                                · skip
                                  unfold m_x6_advance_J295
                                  refine wp_stn (fun s3 es3 => ?_)
                                  have hRs3 : Rg s3 := es3 ▸ Rg.uI hRs21 (by show (0 : Int) ≤ (4 : Int) ∧ (4 : Int) ≤ 4; have : (0 : Int) ≤ gI s21 107 ∧ gI s21 107 ≤ 4 := hRs21.1 107; have : (0 : Int) ≤ gI s21 108 ∧ gI s21 108 ≤ 1600 := hRs21.1 108; have : (0 : Int) ≤ gI s21 109 ∧ gI s21 109 ≤ 1600 := hRs21.1 109; have : (0 : Int) ≤ gI s21 61 ∧ gI s21 61 ≤ 1600 := hRs21.1 61; have : gI s50 111 = r49 := q_II es50; have : gI s47 61 = gI s46 61 := q_Ii es47 (by decide); have : gI s46 61 = gI s66 61 := q_Ii es46 (by decide); have : gI s47 108 = gI s46 108 := q_Ii es47 (by decide); have : gI s46 108 = gI s66 108 := q_Ii es46 (by decide); have : (0 : Int) ≤ gI s66 108 ∧ gI s66 108 ≤ 1600 := hRs66.1 108; have : (0 : Int) ≤ gI s66 61 ∧ gI s66 61 ≤ 1600 := hRs66.1 61; have : (0 : Int) ≤ gI s 100 ∧ gI s 100 ≤ 5 := hRs.1 100; omega)
                                  unfold m_x6_advance_J300
                                  exact wp_some (hRs3)
                              · skip
                                unfold m_x6_advance_J295
                                refine wp_stn (fun s3 es3 => ?_)
                                have hRs3 : Rg s3 := es3 ▸ Rg.uI hRs21 (by show (0 : Int) ≤ (4 : Int) ∧ (4 : Int) ≤ 4; have : (0 : Int) ≤ gI s21 107 ∧ gI s21 107 ≤ 4 := hRs21.1 107; have : (0 : Int) ≤ gI s21 108 ∧ gI s21 108 ≤ 1600 := hRs21.1 108; have : (0 : Int) ≤ gI s21 109 ∧ gI s21 109 ≤ 1600 := hRs21.1 109; have : (0 : Int) ≤ gI s21 61 ∧ gI s21 61 ≤ 1600 := hRs21.1 61; have : gI s50 111 = r49 := q_II es50; have : gI s47 61 = gI s46 61 := q_Ii es47 (by decide); have : gI s46 61 = gI s66 61 := q_Ii es46 (by decide); have : gI s47 108 = gI s46 108 := q_Ii es47 (by decide); have : gI s46 108 = gI s66 108 := q_Ii es46 (by decide); have : (0 : Int) ≤ gI s66 108 ∧ gI s66 108 ≤ 1600 := hRs66.1 108; have : (0 : Int) ≤ gI s66 61 ∧ gI s66 61 ≤ 1600 := hRs66.1 61; have : (0 : Int) ≤ gI s 100 ∧ gI s 100 ≤ 5 := hRs.1 100; omega)
                                unfold m_x6_advance_J300
                                exact wp_some (hRs3)
                            · skip
                              unfold m_x6_advance_J300
                              exact wp_some (hRs21)
                        · skip
                          refine wp_stn (fun s30 es30 => ?_)
                          have hRs30 : Rg s30 := es30 ▸ Rg.uI hRs21 (by show (0 : Int) ≤ ((gI s21 109) + 1) ∧ ((gI s21 109) + 1) ≤ 1600; have : (0 : Int) ≤ gI s21 61 ∧ gI s21 61 ≤ 1600 := hRs21.1 61; have : gI s50 111 = r49 := q_II es50; have : gI s47 61 = gI s46 61 := q_Ii es47 (by decide); have : gI s46 61 = gI s66 61 := q_Ii es46 (by decide); have : gI s47 108 = gI s46 108 := q_Ii es47 (by decide); have : gI s46 108 = gI s66 108 := q_Ii es46 (by decide); have : (0 : Int) ≤ gI s66 108 ∧ gI s66 108 ≤ 1600 := hRs66.1 108; have : (0 : Int) ≤ gI s66 61 ∧ gI s66 61 ≤ 1600 := hRs66.1 61; have : (0 : Int) ≤ gI s 100 ∧ gI s 100 ≤ 5 := hRs.1 100; have : (0 : Int) ≤ gI s21 109 ∧ gI s21 109 ≤ 1600 := hRs21.1 109; omega)
                          exact ih191 s30 hRs30 (by have : (0 : Int) ≤ gI s21 109 ∧ gI s21 109 ≤ 1600 := hRs21.1 109; have : (0 : Int) ≤ gI s21 61 ∧ gI s21 61 ≤ 1600 := hRs21.1 61; have : gI s50 111 = r49 := q_II es50; have : gI s47 61 = gI s46 61 := q_Ii es47 (by decide); have : gI s46 61 = gI s66 61 := q_Ii es46 (by decide); have : gI s47 108 = gI s46 108 := q_Ii es47 (by decide); have : gI s46 108 = gI s66 108 := q_Ii es46 (by decide); have : (0 : Int) ≤ gI s66 108 ∧ gI s66 108 ≤ 1600 := hRs66.1 108; have : (0 : Int) ≤ gI s66 61 ∧ gI s66 61 ≤ 1600 := hRs66.1 61; have : (0 : Int) ≤ gI s 100 ∧ gI s 100 ≤ 5 := hRs.1 100; have : gI s30 109 = (gI s21 109) + 1 := q_II es30; omega)
                  exact L191 FU s63 hRs63 (by have := FU_big; have := FU_big2; have : gI s50 111 = r49 := q_II es50; have : gI s47 61 = gI s46 61 := q_Ii es47 (by decide); have : gI s46 61 = gI s66 61 := q_Ii es46 (by decide); have : gI s47 108 = gI s46 108 := q_Ii es47 (by decide); have : gI s46 108 = gI s66 108 := q_Ii es46 (by decide); have : (0 : Int) ≤ gI s66 108 ∧ gI s66 108 ≤ 1600 := hRs66.1 108; have : (0 : Int) ≤ gI s66 61 ∧ gI s66 61 ≤ 1600 := hRs66.1 61; have : (0 : Int) ≤ gI s 100 ∧ gI s 100 ≤ 5 := hRs.1 100; have : gI s63 109 = gI s50 109 := q_Ii es63 (by decide); have : gI s50 109 = gI s47 109 := q_Ii es50 (by decide); have : gI s47 109 = gI s46 109 := q_Ii es47 (by decide); have : gI s46 109 = gI s66 108 := q_II es46; omega)
              · skip
                refine wp_stn (fun s64 es64 => ?_)
                have hRs64 : Rg s64 := es64 ▸ Rg.uI hRs50 (by show (0 : Int) ≤ (1 : Int) ∧ (1 : Int) ≤ 4; have : gI s50 111 = r49 := q_II es50; have : gI s47 61 = gI s46 61 := q_Ii es47 (by decide); have : gI s46 61 = gI s66 61 := q_Ii es46 (by decide); have : gI s47 108 = gI s46 108 := q_Ii es47 (by decide); have : gI s46 108 = gI s66 108 := q_Ii es46 (by decide); have : (0 : Int) ≤ gI s66 108 ∧ gI s66 108 ≤ 1600 := hRs66.1 108; have : (0 : Int) ≤ gI s66 61 ∧ gI s66 61 ≤ 1600 := hRs66.1 61; have : (0 : Int) ≤ gI s 100 ∧ gI s 100 ≤ 5 := hRs.1 100; omega)
                have L120 : ∀ (n : Nat) (s35 : MS), Rg s35 → (1600 - gI s35 109) < (n : Int) → wp (m_x6_advance_L120 n s35) (fun o => (Rg o)) := by
                  refine fr_ind (fun s35 hRs35  hm120 => ?_) (fun n120 ih120 s35 hRs35  hm120 => ?_)
                  · exfalso; have : (0 : Int) ≤ gI s35 109 ∧ gI s35 109 ≤ 1600 := hRs35.1 109; omega
                  · show wp (m_x6_advance_b120 (m_x6_advance_L120 n120) s35) _
                    unfold m_x6_advance_b120
                    refine wp_rg (by have : gI s50 111 = r49 := q_II es50; have : gI s47 61 = gI s46 61 := q_Ii es47 (by decide); have : gI s46 61 = gI s66 61 := q_Ii es46 (by decide); have : gI s47 108 = gI s46 108 := q_Ii es47 (by decide); have : gI s46 108 = gI s66 108 := q_Ii es46 (by decide); have : (0 : Int) ≤ gI s66 108 ∧ gI s66 108 ≤ 1600 := hRs66.1 108; have : (0 : Int) ≤ gI s66 61 ∧ gI s66 61 ≤ 1600 := hRs66.1 61; have : (0 : Int) ≤ gI s 100 ∧ gI s 100 ≤ 5 := hRs.1 100; have : (0 : Int) ≤ gI s35 109 ∧ gI s35 109 ≤ 1600 := hRs35.1 109; omega) ?_
                    refine wp_rg (by have : gI s50 111 = r49 := q_II es50; have : gI s47 61 = gI s46 61 := q_Ii es47 (by decide); have : gI s46 61 = gI s66 61 := q_Ii es46 (by decide); have : gI s47 108 = gI s46 108 := q_Ii es47 (by decide); have : gI s46 108 = gI s66 108 := q_Ii es46 (by decide); have : (0 : Int) ≤ gI s66 108 ∧ gI s66 108 ≤ 1600 := hRs66.1 108; have : (0 : Int) ≤ gI s66 61 ∧ gI s66 61 ≤ 1600 := hRs66.1 61; have : (0 : Int) ≤ gI s 100 ∧ gI s 100 ≤ 5 := hRs.1 100; have : (0 : Int) ≤ gI s35 61 ∧ gI s35 61 ≤ 1600 := hRs35.1 61; omega) ?_
                    refine wp_if (fun c76 => ?_) (fun c76 => ?_)
                    · skip
                      unfold m_x6_advance_J165
                      refine wp_bn (w_x6_wordNumber hRs35) (fun r33 er33 hr33 => ?_)
                      have hr33_0 := hr33
                      have hr33_0 : (-1) ≤ r33 ∧ r33 ≤ 179 := hr33_0
                      refine wp_stn (fun s34 es34 => ?_)
                      have hRs34 : Rg s34 := es34 ▸ Rg.uI hRs35 (by show (-1 : Int) ≤ r33 ∧ r33 ≤ 179; have : (0 : Int) ≤ gI s35 109 ∧ gI s35 109 ≤ 1600 := hRs35.1 109; have : (0 : Int) ≤ gI s35 61 ∧ gI s35 61 ≤ 1600 := hRs35.1 61; have : gI s50 111 = r49 := q_II es50; have : gI s47 61 = gI s46 61 := q_Ii es47 (by decide); have : gI s46 61 = gI s66 61 := q_Ii es46 (by decide); have : gI s47 108 = gI s46 108 := q_Ii es47 (by decide); have : gI s46 108 = gI s66 108 := q_Ii es46 (by decide); have : (0 : Int) ≤ gI s66 108 ∧ gI s66 108 ≤ 1600 := hRs66.1 108; have : (0 : Int) ≤ gI s66 61 ∧ gI s66 61 ≤ 1600 := hRs66.1 61; have : (0 : Int) ≤ gI s 100 ∧ gI s 100 ≤ 5 := hRs.1 100; omega)
                      unfold m_x6_advance_J251
                      refine wp_bn (w_x9_at hRs34 (by show R2 ((gI s34 108) - 1); have : (0 : Int) ≤ gI s35 109 ∧ gI s35 109 ≤ 1600 := hRs35.1 109; have : (0 : Int) ≤ gI s35 61 ∧ gI s35 61 ≤ 1600 := hRs35.1 61; have : gI s50 111 = r49 := q_II es50; have : gI s47 61 = gI s46 61 := q_Ii es47 (by decide); have : gI s46 61 = gI s66 61 := q_Ii es46 (by decide); have : gI s47 108 = gI s46 108 := q_Ii es47 (by decide); have : gI s46 108 = gI s66 108 := q_Ii es46 (by decide); have : (0 : Int) ≤ gI s66 108 ∧ gI s66 108 ≤ 1600 := hRs66.1 108; have : (0 : Int) ≤ gI s66 61 ∧ gI s66 61 ≤ 1600 := hRs66.1 61; have : (0 : Int) ≤ gI s 100 ∧ gI s 100 ≤ 5 := hRs.1 100; have : gI s34 108 = gI s35 108 := q_Ii es34 (by decide); have : (0 : Int) ≤ gI s35 108 ∧ gI s35 108 ≤ 1600 := hRs35.1 108; omega)) (fun r16 er16 hr16 => ?_)
                      obtain ⟨hr16_0, hr16_1⟩ := hr16
                      have hr16_0 : (-1) ≤ r16 ∧ r16 ≤ 255 := hr16_0
                      have hr16_1 : r16 ≠ -1 → 0 ≤ ((gI s34 108) - 1) ∧ ((gI s34 108) - 1) < gI s34 61 := hr16_1
                      refine wp_rg (by have : gI s34 61 = gI s35 61 := q_Ii es34 (by decide); have : gI s34 108 = gI s35 108 := q_Ii es34 (by decide); have : (0 : Int) ≤ gI s35 108 ∧ gI s35 108 ≤ 1600 := hRs35.1 108; have : (0 : Int) ≤ gI s35 109 ∧ gI s35 109 ≤ 1600 := hRs35.1 109; have : (0 : Int) ≤ gI s35 61 ∧ gI s35 61 ≤ 1600 := hRs35.1 61; have : gI s50 111 = r49 := q_II es50; have : gI s47 61 = gI s46 61 := q_Ii es47 (by decide); have : gI s46 61 = gI s66 61 := q_Ii es46 (by decide); have : gI s47 108 = gI s46 108 := q_Ii es47 (by decide); have : gI s46 108 = gI s66 108 := q_Ii es46 (by decide); have : (0 : Int) ≤ gI s66 108 ∧ gI s66 108 ≤ 1600 := hRs66.1 108; have : (0 : Int) ≤ gI s66 61 ∧ gI s66 61 ≤ 1600 := hRs66.1 61; have : (0 : Int) ≤ gI s 100 ∧ gI s 100 ≤ 5 := hRs.1 100; have : gI s34 107 = gI s35 107 := q_Ii es34 (by decide); have : (0 : Int) ≤ gI s35 107 ∧ gI s35 107 ≤ 4 := hRs35.1 107; omega) ?_
                      refine wp_if (fun c77 => ?_) (fun c77 => ?_)
                      · skip
                        unfold m_x6_advance_J281
                        refine wp_bn (w_x6_isLetter hRs34 (by show R2 r16; have : gI s34 107 = gI s35 107 := q_Ii es34 (by decide); have : (0 : Int) ≤ gI s35 107 ∧ gI s35 107 ≤ 4 := hRs35.1 107; have : gI s34 61 = gI s35 61 := q_Ii es34 (by decide); have : gI s34 108 = gI s35 108 := q_Ii es34 (by decide); have : (0 : Int) ≤ gI s35 108 ∧ gI s35 108 ≤ 1600 := hRs35.1 108; have : (0 : Int) ≤ gI s35 109 ∧ gI s35 109 ≤ 1600 := hRs35.1 109; have : (0 : Int) ≤ gI s35 61 ∧ gI s35 61 ≤ 1600 := hRs35.1 61; have : gI s50 111 = r49 := q_II es50; have : gI s47 61 = gI s46 61 := q_Ii es47 (by decide); have : gI s46 61 = gI s66 61 := q_Ii es46 (by decide); have : gI s47 108 = gI s46 108 := q_Ii es47 (by decide); have : gI s46 108 = gI s66 108 := q_Ii es46 (by decide); have : (0 : Int) ≤ gI s66 108 ∧ gI s66 108 ≤ 1600 := hRs66.1 108; have : (0 : Int) ≤ gI s66 61 ∧ gI s66 61 ≤ 1600 := hRs66.1 61; have : (0 : Int) ≤ gI s 100 ∧ gI s 100 ≤ 5 := hRs.1 100; omega)) (fun r7 er7 hr7 => ?_)
                        have hr7_0 := hr7
                        have hr7_0 : r7 = 0 ∨ r7 = 1 := hr7_0
                        refine wp_rg (by have : gI s34 107 = gI s35 107 := q_Ii es34 (by decide); have : (0 : Int) ≤ gI s35 107 ∧ gI s35 107 ≤ 4 := hRs35.1 107; have : gI s34 61 = gI s35 61 := q_Ii es34 (by decide); have : gI s34 108 = gI s35 108 := q_Ii es34 (by decide); have : (0 : Int) ≤ gI s35 108 ∧ gI s35 108 ≤ 1600 := hRs35.1 108; have : (0 : Int) ≤ gI s35 109 ∧ gI s35 109 ≤ 1600 := hRs35.1 109; have : (0 : Int) ≤ gI s35 61 ∧ gI s35 61 ≤ 1600 := hRs35.1 61; have : gI s50 111 = r49 := q_II es50; have : gI s47 61 = gI s46 61 := q_Ii es47 (by decide); have : gI s46 61 = gI s66 61 := q_Ii es46 (by decide); have : gI s47 108 = gI s46 108 := q_Ii es47 (by decide); have : gI s46 108 = gI s66 108 := q_Ii es46 (by decide); have : (0 : Int) ≤ gI s66 108 ∧ gI s66 108 ≤ 1600 := hRs66.1 108; have : (0 : Int) ≤ gI s66 61 ∧ gI s66 61 ≤ 1600 := hRs66.1 61; have : (0 : Int) ≤ gI s 100 ∧ gI s 100 ≤ 5 := hRs.1 100; omega) ?_
                        refine wp_if (fun c78 => ?_) (fun c78 => ?_)
                        · skip
                          refine wp_bn (w_x6_isDigit hRs34 (by show R2 r16; have : gI s34 107 = gI s35 107 := q_Ii es34 (by decide); have : (0 : Int) ≤ gI s35 107 ∧ gI s35 107 ≤ 4 := hRs35.1 107; have : gI s34 61 = gI s35 61 := q_Ii es34 (by decide); have : gI s34 108 = gI s35 108 := q_Ii es34 (by decide); have : (0 : Int) ≤ gI s35 108 ∧ gI s35 108 ≤ 1600 := hRs35.1 108; have : (0 : Int) ≤ gI s35 109 ∧ gI s35 109 ≤ 1600 := hRs35.1 109; have : (0 : Int) ≤ gI s35 61 ∧ gI s35 61 ≤ 1600 := hRs35.1 61; have : gI s50 111 = r49 := q_II es50; have : gI s47 61 = gI s46 61 := q_Ii es47 (by decide); have : gI s46 61 = gI s66 61 := q_Ii es46 (by decide); have : gI s47 108 = gI s46 108 := q_Ii es47 (by decide); have : gI s46 108 = gI s66 108 := q_Ii es46 (by decide); have : (0 : Int) ≤ gI s66 108 ∧ gI s66 108 ≤ 1600 := hRs66.1 108; have : (0 : Int) ≤ gI s66 61 ∧ gI s66 61 ≤ 1600 := hRs66.1 61; have : (0 : Int) ≤ gI s 100 ∧ gI s 100 ≤ 5 := hRs.1 100; omega)) (fun r11 er11 hr11 => ?_)
                          have hr11_0 := hr11
                          have hr11_0 : r11 = 0 ∨ r11 = 1 := hr11_0
                          refine wp_rg (by have : gI s34 107 = gI s35 107 := q_Ii es34 (by decide); have : (0 : Int) ≤ gI s35 107 ∧ gI s35 107 ≤ 4 := hRs35.1 107; have : gI s34 61 = gI s35 61 := q_Ii es34 (by decide); have : gI s34 108 = gI s35 108 := q_Ii es34 (by decide); have : (0 : Int) ≤ gI s35 108 ∧ gI s35 108 ≤ 1600 := hRs35.1 108; have : (0 : Int) ≤ gI s35 109 ∧ gI s35 109 ≤ 1600 := hRs35.1 109; have : (0 : Int) ≤ gI s35 61 ∧ gI s35 61 ≤ 1600 := hRs35.1 61; have : gI s50 111 = r49 := q_II es50; have : gI s47 61 = gI s46 61 := q_Ii es47 (by decide); have : gI s46 61 = gI s66 61 := q_Ii es46 (by decide); have : gI s47 108 = gI s46 108 := q_Ii es47 (by decide); have : gI s46 108 = gI s66 108 := q_Ii es46 (by decide); have : (0 : Int) ≤ gI s66 108 ∧ gI s66 108 ≤ 1600 := hRs66.1 108; have : (0 : Int) ≤ gI s66 61 ∧ gI s66 61 ≤ 1600 := hRs66.1 61; have : (0 : Int) ≤ gI s 100 ∧ gI s 100 ≤ 5 := hRs.1 100; omega) ?_
                          refine wp_if (fun c79 => ?_) (fun c79 => ?_)
                          · skip
                            unfold m_x6_advance_J300
                            exact wp_some (hRs34)
                          · skip
                            unfold m_x6_advance_J295
                            refine wp_stn (fun s3 es3 => ?_)
                            have hRs3 : Rg s3 := es3 ▸ Rg.uI hRs34 (by show (0 : Int) ≤ (4 : Int) ∧ (4 : Int) ≤ 4; have : gI s34 107 = gI s35 107 := q_Ii es34 (by decide); have : (0 : Int) ≤ gI s35 107 ∧ gI s35 107 ≤ 4 := hRs35.1 107; have : gI s34 61 = gI s35 61 := q_Ii es34 (by decide); have : gI s34 108 = gI s35 108 := q_Ii es34 (by decide); have : (0 : Int) ≤ gI s35 108 ∧ gI s35 108 ≤ 1600 := hRs35.1 108; have : (0 : Int) ≤ gI s35 109 ∧ gI s35 109 ≤ 1600 := hRs35.1 109; have : (0 : Int) ≤ gI s35 61 ∧ gI s35 61 ≤ 1600 := hRs35.1 61; have : gI s50 111 = r49 := q_II es50; have : gI s47 61 = gI s46 61 := q_Ii es47 (by decide); have : gI s46 61 = gI s66 61 := q_Ii es46 (by decide); have : gI s47 108 = gI s46 108 := q_Ii es47 (by decide); have : gI s46 108 = gI s66 108 := q_Ii es46 (by decide); have : (0 : Int) ≤ gI s66 108 ∧ gI s66 108 ≤ 1600 := hRs66.1 108; have : (0 : Int) ≤ gI s66 61 ∧ gI s66 61 ≤ 1600 := hRs66.1 61; have : (0 : Int) ≤ gI s 100 ∧ gI s 100 ≤ 5 := hRs.1 100; omega)
                            unfold m_x6_advance_J300
                            exact wp_some (hRs3)
                        · skip
                          unfold m_x6_advance_J295
                          refine wp_stn (fun s3 es3 => ?_)
                          have hRs3 : Rg s3 := es3 ▸ Rg.uI hRs34 (by show (0 : Int) ≤ (4 : Int) ∧ (4 : Int) ≤ 4; have : gI s34 107 = gI s35 107 := q_Ii es34 (by decide); have : (0 : Int) ≤ gI s35 107 ∧ gI s35 107 ≤ 4 := hRs35.1 107; have : gI s34 61 = gI s35 61 := q_Ii es34 (by decide); have : gI s34 108 = gI s35 108 := q_Ii es34 (by decide); have : (0 : Int) ≤ gI s35 108 ∧ gI s35 108 ≤ 1600 := hRs35.1 108; have : (0 : Int) ≤ gI s35 109 ∧ gI s35 109 ≤ 1600 := hRs35.1 109; have : (0 : Int) ≤ gI s35 61 ∧ gI s35 61 ≤ 1600 := hRs35.1 61; have : gI s50 111 = r49 := q_II es50; have : gI s47 61 = gI s46 61 := q_Ii es47 (by decide); have : gI s46 61 = gI s66 61 := q_Ii es46 (by decide); have : gI s47 108 = gI s46 108 := q_Ii es47 (by decide); have : gI s46 108 = gI s66 108 := q_Ii es46 (by decide); have : (0 : Int) ≤ gI s66 108 ∧ gI s66 108 ≤ 1600 := hRs66.1 108; have : (0 : Int) ≤ gI s66 61 ∧ gI s66 61 ≤ 1600 := hRs66.1 61; have : (0 : Int) ≤ gI s 100 ∧ gI s 100 ≤ 5 := hRs.1 100; omega)
                          unfold m_x6_advance_J300
                          exact wp_some (hRs3)
                      · skip
                        refine wp_rg (by have : gI s34 61 = gI s35 61 := q_Ii es34 (by decide); have : gI s34 108 = gI s35 108 := q_Ii es34 (by decide); have : (0 : Int) ≤ gI s35 108 ∧ gI s35 108 ≤ 1600 := hRs35.1 108; have : (0 : Int) ≤ gI s35 109 ∧ gI s35 109 ≤ 1600 := hRs35.1 109; have : (0 : Int) ≤ gI s35 61 ∧ gI s35 61 ≤ 1600 := hRs35.1 61; have : gI s50 111 = r49 := q_II es50; have : gI s47 61 = gI s46 61 := q_Ii es47 (by decide); have : gI s46 61 = gI s66 61 := q_Ii es46 (by decide); have : gI s47 108 = gI s46 108 := q_Ii es47 (by decide); have : gI s46 108 = gI s66 108 := q_Ii es46 (by decide); have : (0 : Int) ≤ gI s66 108 ∧ gI s66 108 ≤ 1600 := hRs66.1 108; have : (0 : Int) ≤ gI s66 61 ∧ gI s66 61 ≤ 1600 := hRs66.1 61; have : (0 : Int) ≤ gI s 100 ∧ gI s 100 ≤ 5 := hRs.1 100; have : gI s34 107 = gI s35 107 := q_Ii es34 (by decide); have : (0 : Int) ≤ gI s35 107 ∧ gI s35 107 ≤ 4 := hRs35.1 107; omega) ?_
                        refine wp_if (fun c80 => ?_) (fun c80 => ?_)
                        · skip
                          unfold m_x6_advance_J281
                          refine wp_bn (w_x6_isLetter hRs34 (by show R2 r16; have : gI s34 107 = gI s35 107 := q_Ii es34 (by decide); have : (0 : Int) ≤ gI s35 107 ∧ gI s35 107 ≤ 4 := hRs35.1 107; have : gI s34 61 = gI s35 61 := q_Ii es34 (by decide); have : gI s34 108 = gI s35 108 := q_Ii es34 (by decide); have : (0 : Int) ≤ gI s35 108 ∧ gI s35 108 ≤ 1600 := hRs35.1 108; have : (0 : Int) ≤ gI s35 109 ∧ gI s35 109 ≤ 1600 := hRs35.1 109; have : (0 : Int) ≤ gI s35 61 ∧ gI s35 61 ≤ 1600 := hRs35.1 61; have : gI s50 111 = r49 := q_II es50; have : gI s47 61 = gI s46 61 := q_Ii es47 (by decide); have : gI s46 61 = gI s66 61 := q_Ii es46 (by decide); have : gI s47 108 = gI s46 108 := q_Ii es47 (by decide); have : gI s46 108 = gI s66 108 := q_Ii es46 (by decide); have : (0 : Int) ≤ gI s66 108 ∧ gI s66 108 ≤ 1600 := hRs66.1 108; have : (0 : Int) ≤ gI s66 61 ∧ gI s66 61 ≤ 1600 := hRs66.1 61; have : (0 : Int) ≤ gI s 100 ∧ gI s 100 ≤ 5 := hRs.1 100; omega)) (fun r7 er7 hr7 => ?_)
                          have hr7_0 := hr7
                          have hr7_0 : r7 = 0 ∨ r7 = 1 := hr7_0
                          refine wp_rg (by have : gI s34 107 = gI s35 107 := q_Ii es34 (by decide); have : (0 : Int) ≤ gI s35 107 ∧ gI s35 107 ≤ 4 := hRs35.1 107; have : gI s34 61 = gI s35 61 := q_Ii es34 (by decide); have : gI s34 108 = gI s35 108 := q_Ii es34 (by decide); have : (0 : Int) ≤ gI s35 108 ∧ gI s35 108 ≤ 1600 := hRs35.1 108; have : (0 : Int) ≤ gI s35 109 ∧ gI s35 109 ≤ 1600 := hRs35.1 109; have : (0 : Int) ≤ gI s35 61 ∧ gI s35 61 ≤ 1600 := hRs35.1 61; have : gI s50 111 = r49 := q_II es50; have : gI s47 61 = gI s46 61 := q_Ii es47 (by decide); have : gI s46 61 = gI s66 61 := q_Ii es46 (by decide); have : gI s47 108 = gI s46 108 := q_Ii es47 (by decide); have : gI s46 108 = gI s66 108 := q_Ii es46 (by decide); have : (0 : Int) ≤ gI s66 108 ∧ gI s66 108 ≤ 1600 := hRs66.1 108; have : (0 : Int) ≤ gI s66 61 ∧ gI s66 61 ≤ 1600 := hRs66.1 61; have : (0 : Int) ≤ gI s 100 ∧ gI s 100 ≤ 5 := hRs.1 100; omega) ?_
                          refine wp_if (fun c81 => ?_) (fun c81 => ?_)
                          · skip
                            refine wp_bn (w_x6_isDigit hRs34 (by show R2 r16; have : gI s34 107 = gI s35 107 := q_Ii es34 (by decide); have : (0 : Int) ≤ gI s35 107 ∧ gI s35 107 ≤ 4 := hRs35.1 107; have : gI s34 61 = gI s35 61 := q_Ii es34 (by decide); have : gI s34 108 = gI s35 108 := q_Ii es34 (by decide); have : (0 : Int) ≤ gI s35 108 ∧ gI s35 108 ≤ 1600 := hRs35.1 108; have : (0 : Int) ≤ gI s35 109 ∧ gI s35 109 ≤ 1600 := hRs35.1 109; have : (0 : Int) ≤ gI s35 61 ∧ gI s35 61 ≤ 1600 := hRs35.1 61; have : gI s50 111 = r49 := q_II es50; have : gI s47 61 = gI s46 61 := q_Ii es47 (by decide); have : gI s46 61 = gI s66 61 := q_Ii es46 (by decide); have : gI s47 108 = gI s46 108 := q_Ii es47 (by decide); have : gI s46 108 = gI s66 108 := q_Ii es46 (by decide); have : (0 : Int) ≤ gI s66 108 ∧ gI s66 108 ≤ 1600 := hRs66.1 108; have : (0 : Int) ≤ gI s66 61 ∧ gI s66 61 ≤ 1600 := hRs66.1 61; have : (0 : Int) ≤ gI s 100 ∧ gI s 100 ≤ 5 := hRs.1 100; omega)) (fun r11 er11 hr11 => ?_)
                            have hr11_0 := hr11
                            have hr11_0 : r11 = 0 ∨ r11 = 1 := hr11_0
                            refine wp_rg (by have : gI s34 107 = gI s35 107 := q_Ii es34 (by decide); have : (0 : Int) ≤ gI s35 107 ∧ gI s35 107 ≤ 4 := hRs35.1 107; have : gI s34 61 = gI s35 61 := q_Ii es34 (by decide); have : gI s34 108 = gI s35 108 := q_Ii es34 (by decide); have : (0 : Int) ≤ gI s35 108 ∧ gI s35 108 ≤ 1600 := hRs35.1 108; have : (0 : Int) ≤ gI s35 109 ∧ gI s35 109 ≤ 1600 := hRs35.1 109; have : (0 : Int) ≤ gI s35 61 ∧ gI s35 61 ≤ 1600 := hRs35.1 61; have : gI s50 111 = r49 := q_II es50; have : gI s47 61 = gI s46 61 := q_Ii es47 (by decide); have : gI s46 61 = gI s66 61 := q_Ii es46 (by decide); have : gI s47 108 = gI s46 108 := q_Ii es47 (by decide); have : gI s46 108 = gI s66 108 := q_Ii es46 (by decide); have : (0 : Int) ≤ gI s66 108 ∧ gI s66 108 ≤ 1600 := hRs66.1 108; have : (0 : Int) ≤ gI s66 61 ∧ gI s66 61 ≤ 1600 := hRs66.1 61; have : (0 : Int) ≤ gI s 100 ∧ gI s 100 ≤ 5 := hRs.1 100; omega) ?_
                            refine wp_if (fun c82 => ?_) (fun c82 => ?_)
                            · skip
                              unfold m_x6_advance_J300
                              exact wp_some (hRs34)
                            · skip
                              unfold m_x6_advance_J295
                              refine wp_stn (fun s3 es3 => ?_)
                              have hRs3 : Rg s3 := es3 ▸ Rg.uI hRs34 (by show (0 : Int) ≤ (4 : Int) ∧ (4 : Int) ≤ 4; have : gI s34 107 = gI s35 107 := q_Ii es34 (by decide); have : (0 : Int) ≤ gI s35 107 ∧ gI s35 107 ≤ 4 := hRs35.1 107; have : gI s34 61 = gI s35 61 := q_Ii es34 (by decide); have : gI s34 108 = gI s35 108 := q_Ii es34 (by decide); have : (0 : Int) ≤ gI s35 108 ∧ gI s35 108 ≤ 1600 := hRs35.1 108; have : (0 : Int) ≤ gI s35 109 ∧ gI s35 109 ≤ 1600 := hRs35.1 109; have : (0 : Int) ≤ gI s35 61 ∧ gI s35 61 ≤ 1600 := hRs35.1 61; have : gI s50 111 = r49 := q_II es50; have : gI s47 61 = gI s46 61 := q_Ii es47 (by decide); have : gI s46 61 = gI s66 61 := q_Ii es46 (by decide); have : gI s47 108 = gI s46 108 := q_Ii es47 (by decide); have : gI s46 108 = gI s66 108 := q_Ii es46 (by decide); have : (0 : Int) ≤ gI s66 108 ∧ gI s66 108 ≤ 1600 := hRs66.1 108; have : (0 : Int) ≤ gI s66 61 ∧ gI s66 61 ≤ 1600 := hRs66.1 61; have : (0 : Int) ≤ gI s 100 ∧ gI s 100 ≤ 5 := hRs.1 100; omega)
                              unfold m_x6_advance_J300
                              exact wp_some (hRs3)
                          · skip
                            unfold m_x6_advance_J295
                            refine wp_stn (fun s3 es3 => ?_)
                            have hRs3 : Rg s3 := es3 ▸ Rg.uI hRs34 (by show (0 : Int) ≤ (4 : Int) ∧ (4 : Int) ≤ 4; have : gI s34 107 = gI s35 107 := q_Ii es34 (by decide); have : (0 : Int) ≤ gI s35 107 ∧ gI s35 107 ≤ 4 := hRs35.1 107; have : gI s34 61 = gI s35 61 := q_Ii es34 (by decide); have : gI s34 108 = gI s35 108 := q_Ii es34 (by decide); have : (0 : Int) ≤ gI s35 108 ∧ gI s35 108 ≤ 1600 := hRs35.1 108; have : (0 : Int) ≤ gI s35 109 ∧ gI s35 109 ≤ 1600 := hRs35.1 109; have : (0 : Int) ≤ gI s35 61 ∧ gI s35 61 ≤ 1600 := hRs35.1 61; have : gI s50 111 = r49 := q_II es50; have : gI s47 61 = gI s46 61 := q_Ii es47 (by decide); have : gI s46 61 = gI s66 61 := q_Ii es46 (by decide); have : gI s47 108 = gI s46 108 := q_Ii es47 (by decide); have : gI s46 108 = gI s66 108 := q_Ii es46 (by decide); have : (0 : Int) ≤ gI s66 108 ∧ gI s66 108 ≤ 1600 := hRs66.1 108; have : (0 : Int) ≤ gI s66 61 ∧ gI s66 61 ≤ 1600 := hRs66.1 61; have : (0 : Int) ≤ gI s 100 ∧ gI s 100 ≤ 5 := hRs.1 100; omega)
                            unfold m_x6_advance_J300
                            exact wp_some (hRs3)
                        · skip
                          unfold m_x6_advance_J300
                          exact wp_some (hRs34)
                    · skip
                      refine wp_rdIn (by have : (0 : Int) ≤ gI s35 61 ∧ gI s35 61 ≤ 1600 := hRs35.1 61; have : gI s50 111 = r49 := q_II es50; have : gI s47 61 = gI s46 61 := q_Ii es47 (by decide); have : gI s46 61 = gI s66 61 := q_Ii es46 (by decide); have : gI s47 108 = gI s46 108 := q_Ii es47 (by decide); have : gI s46 108 = gI s66 108 := q_Ii es46 (by decide); have : (0 : Int) ≤ gI s66 108 ∧ gI s66 108 ≤ 1600 := hRs66.1 108; have : (0 : Int) ≤ gI s66 61 ∧ gI s66 61 ≤ 1600 := hRs66.1 61; have : (0 : Int) ≤ gI s 100 ∧ gI s 100 ≤ 5 := hRs.1 100; have : (0 : Int) ≤ gI s35 109 ∧ gI s35 109 ≤ 1600 := hRs35.1 109; omega) (fun y39 ey39 => ?_)
                      have by39 : (0 : Int) ≤ y39 ∧ y39 ≤ 255 := ey39 ▸ hRs35.2.1 4 _ (by show _ < 1600; have : (0 : Int) ≤ gI s35 61 ∧ gI s35 61 ≤ 1600 := hRs35.1 61; have : gI s50 111 = r49 := q_II es50; have : gI s47 61 = gI s46 61 := q_Ii es47 (by decide); have : gI s46 61 = gI s66 61 := q_Ii es46 (by decide); have : gI s47 108 = gI s46 108 := q_Ii es47 (by decide); have : gI s46 108 = gI s66 108 := q_Ii es46 (by decide); have : (0 : Int) ≤ gI s66 108 ∧ gI s66 108 ≤ 1600 := hRs66.1 108; have : (0 : Int) ≤ gI s66 61 ∧ gI s66 61 ≤ 1600 := hRs66.1 61; have : (0 : Int) ≤ gI s 100 ∧ gI s 100 ≤ 5 := hRs.1 100; have : (0 : Int) ≤ gI s35 109 ∧ gI s35 109 ≤ 1600 := hRs35.1 109; omega)
                      refine wp_bn (w_x6_isLetter hRs35 (by show R2 y39; have : (0 : Int) ≤ gI s35 109 ∧ gI s35 109 ≤ 1600 := hRs35.1 109; have : (0 : Int) ≤ gI s35 61 ∧ gI s35 61 ≤ 1600 := hRs35.1 61; have : gI s50 111 = r49 := q_II es50; have : gI s47 61 = gI s46 61 := q_Ii es47 (by decide); have : gI s46 61 = gI s66 61 := q_Ii es46 (by decide); have : gI s47 108 = gI s46 108 := q_Ii es47 (by decide); have : gI s46 108 = gI s66 108 := q_Ii es46 (by decide); have : (0 : Int) ≤ gI s66 108 ∧ gI s66 108 ≤ 1600 := hRs66.1 108; have : (0 : Int) ≤ gI s66 61 ∧ gI s66 61 ≤ 1600 := hRs66.1 61; have : (0 : Int) ≤ gI s 100 ∧ gI s 100 ≤ 5 := hRs.1 100; omega)) (fun r41 er41 hr41 => ?_)
                      have hr41_0 := hr41
                      have hr41_0 : r41 = 0 ∨ r41 = 1 := hr41_0
                      refine wp_rg (by have : (0 : Int) ≤ gI s35 109 ∧ gI s35 109 ≤ 1600 := hRs35.1 109; have : (0 : Int) ≤ gI s35 61 ∧ gI s35 61 ≤ 1600 := hRs35.1 61; have : gI s50 111 = r49 := q_II es50; have : gI s47 61 = gI s46 61 := q_Ii es47 (by decide); have : gI s46 61 = gI s66 61 := q_Ii es46 (by decide); have : gI s47 108 = gI s46 108 := q_Ii es47 (by decide); have : gI s46 108 = gI s66 108 := q_Ii es46 (by decide); have : (0 : Int) ≤ gI s66 108 ∧ gI s66 108 ≤ 1600 := hRs66.1 108; have : (0 : Int) ≤ gI s66 61 ∧ gI s66 61 ≤ 1600 := hRs66.1 61; have : (0 : Int) ≤ gI s 100 ∧ gI s 100 ≤ 5 := hRs.1 100; omega) ?_
                      refine wp_if (fun c83 => ?_) (fun c83 => ?_)
                      · skip
                        unfold m_x6_advance_J165
                        refine wp_bn (w_x6_wordNumber hRs35) (fun r33 er33 hr33 => ?_)
                        have hr33_0 := hr33
                        have hr33_0 : (-1) ≤ r33 ∧ r33 ≤ 179 := hr33_0
                        refine wp_stn (fun s34 es34 => ?_)
                        have hRs34 : Rg s34 := es34 ▸ Rg.uI hRs35 (by show (-1 : Int) ≤ r33 ∧ r33 ≤ 179; have : (0 : Int) ≤ gI s35 109 ∧ gI s35 109 ≤ 1600 := hRs35.1 109; have : (0 : Int) ≤ gI s35 61 ∧ gI s35 61 ≤ 1600 := hRs35.1 61; have : gI s50 111 = r49 := q_II es50; have : gI s47 61 = gI s46 61 := q_Ii es47 (by decide); have : gI s46 61 = gI s66 61 := q_Ii es46 (by decide); have : gI s47 108 = gI s46 108 := q_Ii es47 (by decide); have : gI s46 108 = gI s66 108 := q_Ii es46 (by decide); have : (0 : Int) ≤ gI s66 108 ∧ gI s66 108 ≤ 1600 := hRs66.1 108; have : (0 : Int) ≤ gI s66 61 ∧ gI s66 61 ≤ 1600 := hRs66.1 61; have : (0 : Int) ≤ gI s 100 ∧ gI s 100 ≤ 5 := hRs.1 100; omega)
                        unfold m_x6_advance_J251
                        refine wp_bn (w_x9_at hRs34 (by show R2 ((gI s34 108) - 1); have : (0 : Int) ≤ gI s35 109 ∧ gI s35 109 ≤ 1600 := hRs35.1 109; have : (0 : Int) ≤ gI s35 61 ∧ gI s35 61 ≤ 1600 := hRs35.1 61; have : gI s50 111 = r49 := q_II es50; have : gI s47 61 = gI s46 61 := q_Ii es47 (by decide); have : gI s46 61 = gI s66 61 := q_Ii es46 (by decide); have : gI s47 108 = gI s46 108 := q_Ii es47 (by decide); have : gI s46 108 = gI s66 108 := q_Ii es46 (by decide); have : (0 : Int) ≤ gI s66 108 ∧ gI s66 108 ≤ 1600 := hRs66.1 108; have : (0 : Int) ≤ gI s66 61 ∧ gI s66 61 ≤ 1600 := hRs66.1 61; have : (0 : Int) ≤ gI s 100 ∧ gI s 100 ≤ 5 := hRs.1 100; have : gI s34 108 = gI s35 108 := q_Ii es34 (by decide); have : (0 : Int) ≤ gI s35 108 ∧ gI s35 108 ≤ 1600 := hRs35.1 108; omega)) (fun r16 er16 hr16 => ?_)
                        obtain ⟨hr16_0, hr16_1⟩ := hr16
                        have hr16_0 : (-1) ≤ r16 ∧ r16 ≤ 255 := hr16_0
                        have hr16_1 : r16 ≠ -1 → 0 ≤ ((gI s34 108) - 1) ∧ ((gI s34 108) - 1) < gI s34 61 := hr16_1
                        refine wp_rg (by have : gI s34 61 = gI s35 61 := q_Ii es34 (by decide); have : gI s34 108 = gI s35 108 := q_Ii es34 (by decide); have : (0 : Int) ≤ gI s35 108 ∧ gI s35 108 ≤ 1600 := hRs35.1 108; have : (0 : Int) ≤ gI s35 109 ∧ gI s35 109 ≤ 1600 := hRs35.1 109; have : (0 : Int) ≤ gI s35 61 ∧ gI s35 61 ≤ 1600 := hRs35.1 61; have : gI s50 111 = r49 := q_II es50; have : gI s47 61 = gI s46 61 := q_Ii es47 (by decide); have : gI s46 61 = gI s66 61 := q_Ii es46 (by decide); have : gI s47 108 = gI s46 108 := q_Ii es47 (by decide); have : gI s46 108 = gI s66 108 := q_Ii es46 (by decide); have : (0 : Int) ≤ gI s66 108 ∧ gI s66 108 ≤ 1600 := hRs66.1 108; have : (0 : Int) ≤ gI s66 61 ∧ gI s66 61 ≤ 1600 := hRs66.1 61; have : (0 : Int) ≤ gI s 100 ∧ gI s 100 ≤ 5 := hRs.1 100; have : gI s34 107 = gI s35 107 := q_Ii es34 (by decide); have : (0 : Int) ≤ gI s35 107 ∧ gI s35 107 ≤ 4 := hRs35.1 107; omega) ?_
                        refine wp_if (fun c84 => ?_) (fun c84 => ?_)
                        · skip
                          unfold m_x6_advance_J281
                          refine wp_bn (w_x6_isLetter hRs34 (by show R2 r16; have : gI s34 107 = gI s35 107 := q_Ii es34 (by decide); have : (0 : Int) ≤ gI s35 107 ∧ gI s35 107 ≤ 4 := hRs35.1 107; have : gI s34 61 = gI s35 61 := q_Ii es34 (by decide); have : gI s34 108 = gI s35 108 := q_Ii es34 (by decide); have : (0 : Int) ≤ gI s35 108 ∧ gI s35 108 ≤ 1600 := hRs35.1 108; have : (0 : Int) ≤ gI s35 109 ∧ gI s35 109 ≤ 1600 := hRs35.1 109; have : (0 : Int) ≤ gI s35 61 ∧ gI s35 61 ≤ 1600 := hRs35.1 61; have : gI s50 111 = r49 := q_II es50; have : gI s47 61 = gI s46 61 := q_Ii es47 (by decide); have : gI s46 61 = gI s66 61 := q_Ii es46 (by decide); have : gI s47 108 = gI s46 108 := q_Ii es47 (by decide); have : gI s46 108 = gI s66 108 := q_Ii es46 (by decide); have : (0 : Int) ≤ gI s66 108 ∧ gI s66 108 ≤ 1600 := hRs66.1 108; have : (0 : Int) ≤ gI s66 61 ∧ gI s66 61 ≤ 1600 := hRs66.1 61; have : (0 : Int) ≤ gI s 100 ∧ gI s 100 ≤ 5 := hRs.1 100; omega)) (fun r7 er7 hr7 => ?_)
                          have hr7_0 := hr7
                          have hr7_0 : r7 = 0 ∨ r7 = 1 := hr7_0
                          refine wp_rg (by have : gI s34 107 = gI s35 107 := q_Ii es34 (by decide); have : (0 : Int) ≤ gI s35 107 ∧ gI s35 107 ≤ 4 := hRs35.1 107; have : gI s34 61 = gI s35 61 := q_Ii es34 (by decide); have : gI s34 108 = gI s35 108 := q_Ii es34 (by decide); have : (0 : Int) ≤ gI s35 108 ∧ gI s35 108 ≤ 1600 := hRs35.1 108; have : (0 : Int) ≤ gI s35 109 ∧ gI s35 109 ≤ 1600 := hRs35.1 109; have : (0 : Int) ≤ gI s35 61 ∧ gI s35 61 ≤ 1600 := hRs35.1 61; have : gI s50 111 = r49 := q_II es50; have : gI s47 61 = gI s46 61 := q_Ii es47 (by decide); have : gI s46 61 = gI s66 61 := q_Ii es46 (by decide); have : gI s47 108 = gI s46 108 := q_Ii es47 (by decide); have : gI s46 108 = gI s66 108 := q_Ii es46 (by decide); have : (0 : Int) ≤ gI s66 108 ∧ gI s66 108 ≤ 1600 := hRs66.1 108; have : (0 : Int) ≤ gI s66 61 ∧ gI s66 61 ≤ 1600 := hRs66.1 61; have : (0 : Int) ≤ gI s 100 ∧ gI s 100 ≤ 5 := hRs.1 100; omega) ?_
                          refine wp_if (fun c85 => ?_) (fun c85 => ?_)
                          · skip
                            refine wp_bn (w_x6_isDigit hRs34 (by show R2 r16; have : gI s34 107 = gI s35 107 := q_Ii es34 (by decide); have : (0 : Int) ≤ gI s35 107 ∧ gI s35 107 ≤ 4 := hRs35.1 107; have : gI s34 61 = gI s35 61 := q_Ii es34 (by decide); have : gI s34 108 = gI s35 108 := q_Ii es34 (by decide); have : (0 : Int) ≤ gI s35 108 ∧ gI s35 108 ≤ 1600 := hRs35.1 108; have : (0 : Int) ≤ gI s35 109 ∧ gI s35 109 ≤ 1600 := hRs35.1 109; have : (0 : Int) ≤ gI s35 61 ∧ gI s35 61 ≤ 1600 := hRs35.1 61; have : gI s50 111 = r49 := q_II es50; have : gI s47 61 = gI s46 61 := q_Ii es47 (by decide); have : gI s46 61 = gI s66 61 := q_Ii es46 (by decide); have : gI s47 108 = gI s46 108 := q_Ii es47 (by decide); have : gI s46 108 = gI s66 108 := q_Ii es46 (by decide); have : (0 : Int) ≤ gI s66 108 ∧ gI s66 108 ≤ 1600 := hRs66.1 108; have : (0 : Int) ≤ gI s66 61 ∧ gI s66 61 ≤ 1600 := hRs66.1 61; have : (0 : Int) ≤ gI s 100 ∧ gI s 100 ≤ 5 := hRs.1 100; omega)) (fun r11 er11 hr11 => ?_)
                            have hr11_0 := hr11
                            have hr11_0 : r11 = 0 ∨ r11 = 1 := hr11_0
                            refine wp_rg (by have : gI s34 107 = gI s35 107 := q_Ii es34 (by decide); have : (0 : Int) ≤ gI s35 107 ∧ gI s35 107 ≤ 4 := hRs35.1 107; have : gI s34 61 = gI s35 61 := q_Ii es34 (by decide); have : gI s34 108 = gI s35 108 := q_Ii es34 (by decide); have : (0 : Int) ≤ gI s35 108 ∧ gI s35 108 ≤ 1600 := hRs35.1 108; have : (0 : Int) ≤ gI s35 109 ∧ gI s35 109 ≤ 1600 := hRs35.1 109; have : (0 : Int) ≤ gI s35 61 ∧ gI s35 61 ≤ 1600 := hRs35.1 61; have : gI s50 111 = r49 := q_II es50; have : gI s47 61 = gI s46 61 := q_Ii es47 (by decide); have : gI s46 61 = gI s66 61 := q_Ii es46 (by decide); have : gI s47 108 = gI s46 108 := q_Ii es47 (by decide); have : gI s46 108 = gI s66 108 := q_Ii es46 (by decide); have : (0 : Int) ≤ gI s66 108 ∧ gI s66 108 ≤ 1600 := hRs66.1 108; have : (0 : Int) ≤ gI s66 61 ∧ gI s66 61 ≤ 1600 := hRs66.1 61; have : (0 : Int) ≤ gI s 100 ∧ gI s 100 ≤ 5 := hRs.1 100; omega) ?_
                            refine wp_if (fun c86 => ?_) (fun c86 => ?_)
                            · skip
                              unfold m_x6_advance_J300
                              exact wp_some (hRs34)
                            · skip
                              unfold m_x6_advance_J295
                              refine wp_stn (fun s3 es3 => ?_)
                              have hRs3 : Rg s3 := es3 ▸ Rg.uI hRs34 (by show (0 : Int) ≤ (4 : Int) ∧ (4 : Int) ≤ 4; have : gI s34 107 = gI s35 107 := q_Ii es34 (by decide); have : (0 : Int) ≤ gI s35 107 ∧ gI s35 107 ≤ 4 := hRs35.1 107; have : gI s34 61 = gI s35 61 := q_Ii es34 (by decide); have : gI s34 108 = gI s35 108 := q_Ii es34 (by decide); have : (0 : Int) ≤ gI s35 108 ∧ gI s35 108 ≤ 1600 := hRs35.1 108; have : (0 : Int) ≤ gI s35 109 ∧ gI s35 109 ≤ 1600 := hRs35.1 109; have : (0 : Int) ≤ gI s35 61 ∧ gI s35 61 ≤ 1600 := hRs35.1 61; have : gI s50 111 = r49 := q_II es50; have : gI s47 61 = gI s46 61 := q_Ii es47 (by decide); have : gI s46 61 = gI s66 61 := q_Ii es46 (by decide); have : gI s47 108 = gI s46 108 := q_Ii es47 (by decide); have : gI s46 108 = gI s66 108 := q_Ii es46 (by decide); have : (0 : Int) ≤ gI s66 108 ∧ gI s66 108 ≤ 1600 := hRs66.1 108; have : (0 : Int) ≤ gI s66 61 ∧ gI s66 61 ≤ 1600 := hRs66.1 61; have : (0 : Int) ≤ gI s 100 ∧ gI s 100 ≤ 5 := hRs.1 100; omega)
                              unfold m_x6_advance_J300
                              exact wp_some (hRs3)
                          · skip
                            unfold m_x6_advance_J295
                            refine wp_stn (fun s3 es3 => ?_)
                            have hRs3 : Rg s3 := es3 ▸ Rg.uI hRs34 (by show (0 : Int) ≤ (4 : Int) ∧ (4 : Int) ≤ 4; have : gI s34 107 = gI s35 107 := q_Ii es34 (by decide); have : (0 : Int) ≤ gI s35 107 ∧ gI s35 107 ≤ 4 := hRs35.1 107; have : gI s34 61 = gI s35 61 := q_Ii es34 (by decide); have : gI s34 108 = gI s35 108 := q_Ii es34 (by decide); have : (0 : Int) ≤ gI s35 108 ∧ gI s35 108 ≤ 1600 := hRs35.1 108; have : (0 : Int) ≤ gI s35 109 ∧ gI s35 109 ≤ 1600 := hRs35.1 109; have : (0 : Int) ≤ gI s35 61 ∧ gI s35 61 ≤ 1600 := hRs35.1 61; have : gI s50 111 = r49 := q_II es50; have : gI s47 61 = gI s46 61 := q_Ii es47 (by decide); have : gI s46 61 = gI s66 61 := q_Ii es46 (by decide); have : gI s47 108 = gI s46 108 := q_Ii es47 (by decide); have : gI s46 108 = gI s66 108 := q_Ii es46 (by decide); have : (0 : Int) ≤ gI s66 108 ∧ gI s66 108 ≤ 1600 := hRs66.1 108; have : (0 : Int) ≤ gI s66 61 ∧ gI s66 61 ≤ 1600 := hRs66.1 61; have : (0 : Int) ≤ gI s 100 ∧ gI s 100 ≤ 5 := hRs.1 100; omega)
                            unfold m_x6_advance_J300
                            exact wp_some (hRs3)
                        · skip
                          refine wp_rg (by have : gI s34 61 = gI s35 61 := q_Ii es34 (by decide); have : gI s34 108 = gI s35 108 := q_Ii es34 (by decide); have : (0 : Int) ≤ gI s35 108 ∧ gI s35 108 ≤ 1600 := hRs35.1 108; have : (0 : Int) ≤ gI s35 109 ∧ gI s35 109 ≤ 1600 := hRs35.1 109; have : (0 : Int) ≤ gI s35 61 ∧ gI s35 61 ≤ 1600 := hRs35.1 61; have : gI s50 111 = r49 := q_II es50; have : gI s47 61 = gI s46 61 := q_Ii es47 (by decide); have : gI s46 61 = gI s66 61 := q_Ii es46 (by decide); have : gI s47 108 = gI s46 108 := q_Ii es47 (by decide); have : gI s46 108 = gI s66 108 := q_Ii es46 (by decide); have : (0 : Int) ≤ gI s66 108 ∧ gI s66 108 ≤ 1600 := hRs66.1 108; have : (0 : Int) ≤ gI s66 61 ∧ gI s66 61 ≤ 1600 := hRs66.1 61; have : (0 : Int) ≤ gI s 100 ∧ gI s 100 ≤ 5 := hRs.1 100; have : gI s34 107 = gI s35 107 := q_Ii es34 (by decide); have : (0 : Int) ≤ gI s35 107 ∧ gI s35 107 ≤ 4 := hRs35.1 107; omega) ?_
                          refine wp_if (fun c87 => ?_) (fun c87 => ?_)
                          · skip
                            unfold m_x6_advance_J281
                            refine wp_bn (w_x6_isLetter hRs34 (by show R2 r16; have : gI s34 107 = gI s35 107 := q_Ii es34 (by decide); have : (0 : Int) ≤ gI s35 107 ∧ gI s35 107 ≤ 4 := hRs35.1 107; have : gI s34 61 = gI s35 61 := q_Ii es34 (by decide); have : gI s34 108 = gI s35 108 := q_Ii es34 (by decide); have : (0 : Int) ≤ gI s35 108 ∧ gI s35 108 ≤ 1600 := hRs35.1 108; have : (0 : Int) ≤ gI s35 109 ∧ gI s35 109 ≤ 1600 := hRs35.1 109; have : (0 : Int) ≤ gI s35 61 ∧ gI s35 61 ≤ 1600 := hRs35.1 61; have : gI s50 111 = r49 := q_II es50; have : gI s47 61 = gI s46 61 := q_Ii es47 (by decide); have : gI s46 61 = gI s66 61 := q_Ii es46 (by decide); have : gI s47 108 = gI s46 108 := q_Ii es47 (by decide); have : gI s46 108 = gI s66 108 := q_Ii es46 (by decide); have : (0 : Int) ≤ gI s66 108 ∧ gI s66 108 ≤ 1600 := hRs66.1 108; have : (0 : Int) ≤ gI s66 61 ∧ gI s66 61 ≤ 1600 := hRs66.1 61; have : (0 : Int) ≤ gI s 100 ∧ gI s 100 ≤ 5 := hRs.1 100; omega)) (fun r7 er7 hr7 => ?_)
                            have hr7_0 := hr7
                            have hr7_0 : r7 = 0 ∨ r7 = 1 := hr7_0
                            refine wp_rg (by have : gI s34 107 = gI s35 107 := q_Ii es34 (by decide); have : (0 : Int) ≤ gI s35 107 ∧ gI s35 107 ≤ 4 := hRs35.1 107; have : gI s34 61 = gI s35 61 := q_Ii es34 (by decide); have : gI s34 108 = gI s35 108 := q_Ii es34 (by decide); have : (0 : Int) ≤ gI s35 108 ∧ gI s35 108 ≤ 1600 := hRs35.1 108; have : (0 : Int) ≤ gI s35 109 ∧ gI s35 109 ≤ 1600 := hRs35.1 109; have : (0 : Int) ≤ gI s35 61 ∧ gI s35 61 ≤ 1600 := hRs35.1 61; have : gI s50 111 = r49 := q_II es50; have : gI s47 61 = gI s46 61 := q_Ii es47 (by decide); have : gI s46 61 = gI s66 61 := q_Ii es46 (by decide); have : gI s47 108 = gI s46 108 := q_Ii es47 (by decide); have : gI s46 108 = gI s66 108 := q_Ii es46 (by decide); have : (0 : Int) ≤ gI s66 108 ∧ gI s66 108 ≤ 1600 := hRs66.1 108; have : (0 : Int) ≤ gI s66 61 ∧ gI s66 61 ≤ 1600 := hRs66.1 61; have : (0 : Int) ≤ gI s 100 ∧ gI s 100 ≤ 5 := hRs.1 100; omega) ?_
                            refine wp_if (fun c88 => ?_) (fun c88 => ?_)
                            · skip
                              refine wp_bn (w_x6_isDigit hRs34 (by show R2 r16; have : gI s34 107 = gI s35 107 := q_Ii es34 (by decide); have : (0 : Int) ≤ gI s35 107 ∧ gI s35 107 ≤ 4 := hRs35.1 107; have : gI s34 61 = gI s35 61 := q_Ii es34 (by decide); have : gI s34 108 = gI s35 108 := q_Ii es34 (by decide); have : (0 : Int) ≤ gI s35 108 ∧ gI s35 108 ≤ 1600 := hRs35.1 108; have : (0 : Int) ≤ gI s35 109 ∧ gI s35 109 ≤ 1600 := hRs35.1 109; have : (0 : Int) ≤ gI s35 61 ∧ gI s35 61 ≤ 1600 := hRs35.1 61; have : gI s50 111 = r49 := q_II es50; have : gI s47 61 = gI s46 61 := q_Ii es47 (by decide); have : gI s46 61 = gI s66 61 := q_Ii es46 (by decide); have : gI s47 108 = gI s46 108 := q_Ii es47 (by decide); have : gI s46 108 = gI s66 108 := q_Ii es46 (by decide); have : (0 : Int) ≤ gI s66 108 ∧ gI s66 108 ≤ 1600 := hRs66.1 108; have : (0 : Int) ≤ gI s66 61 ∧ gI s66 61 ≤ 1600 := hRs66.1 61; have : (0 : Int) ≤ gI s 100 ∧ gI s 100 ≤ 5 := hRs.1 100; omega)) (fun r11 er11 hr11 => ?_)
                              have hr11_0 := hr11
                              have hr11_0 : r11 = 0 ∨ r11 = 1 := hr11_0
                              refine wp_rg (by have : gI s34 107 = gI s35 107 := q_Ii es34 (by decide); have : (0 : Int) ≤ gI s35 107 ∧ gI s35 107 ≤ 4 := hRs35.1 107; have : gI s34 61 = gI s35 61 := q_Ii es34 (by decide); have : gI s34 108 = gI s35 108 := q_Ii es34 (by decide); have : (0 : Int) ≤ gI s35 108 ∧ gI s35 108 ≤ 1600 := hRs35.1 108; have : (0 : Int) ≤ gI s35 109 ∧ gI s35 109 ≤ 1600 := hRs35.1 109; have : (0 : Int) ≤ gI s35 61 ∧ gI s35 61 ≤ 1600 := hRs35.1 61; have : gI s50 111 = r49 := q_II es50; have : gI s47 61 = gI s46 61 := q_Ii es47 (by decide); have : gI s46 61 = gI s66 61 := q_Ii es46 (by decide); have : gI s47 108 = gI s46 108 := q_Ii es47 (by decide); have : gI s46 108 = gI s66 108 := q_Ii es46 (by decide); have : (0 : Int) ≤ gI s66 108 ∧ gI s66 108 ≤ 1600 := hRs66.1 108; have : (0 : Int) ≤ gI s66 61 ∧ gI s66 61 ≤ 1600 := hRs66.1 61; have : (0 : Int) ≤ gI s 100 ∧ gI s 100 ≤ 5 := hRs.1 100; omega) ?_
                              refine wp_if (fun c89 => ?_) (fun c89 => ?_)
                              · skip
                                unfold m_x6_advance_J300
                                exact wp_some (hRs34)
                              · skip
                                unfold m_x6_advance_J295
                                refine wp_stn (fun s3 es3 => ?_)
                                have hRs3 : Rg s3 := es3 ▸ Rg.uI hRs34 (by show (0 : Int) ≤ (4 : Int) ∧ (4 : Int) ≤ 4; have : gI s34 107 = gI s35 107 := q_Ii es34 (by decide); have : (0 : Int) ≤ gI s35 107 ∧ gI s35 107 ≤ 4 := hRs35.1 107; have : gI s34 61 = gI s35 61 := q_Ii es34 (by decide); have : gI s34 108 = gI s35 108 := q_Ii es34 (by decide); have : (0 : Int) ≤ gI s35 108 ∧ gI s35 108 ≤ 1600 := hRs35.1 108; have : (0 : Int) ≤ gI s35 109 ∧ gI s35 109 ≤ 1600 := hRs35.1 109; have : (0 : Int) ≤ gI s35 61 ∧ gI s35 61 ≤ 1600 := hRs35.1 61; have : gI s50 111 = r49 := q_II es50; have : gI s47 61 = gI s46 61 := q_Ii es47 (by decide); have : gI s46 61 = gI s66 61 := q_Ii es46 (by decide); have : gI s47 108 = gI s46 108 := q_Ii es47 (by decide); have : gI s46 108 = gI s66 108 := q_Ii es46 (by decide); have : (0 : Int) ≤ gI s66 108 ∧ gI s66 108 ≤ 1600 := hRs66.1 108; have : (0 : Int) ≤ gI s66 61 ∧ gI s66 61 ≤ 1600 := hRs66.1 61; have : (0 : Int) ≤ gI s 100 ∧ gI s 100 ≤ 5 := hRs.1 100; omega)
                                unfold m_x6_advance_J300
                                exact wp_some (hRs3)
                            · skip
                              unfold m_x6_advance_J295
                              refine wp_stn (fun s3 es3 => ?_)
                              have hRs3 : Rg s3 := es3 ▸ Rg.uI hRs34 (by show (0 : Int) ≤ (4 : Int) ∧ (4 : Int) ≤ 4; have : gI s34 107 = gI s35 107 := q_Ii es34 (by decide); have : (0 : Int) ≤ gI s35 107 ∧ gI s35 107 ≤ 4 := hRs35.1 107; have : gI s34 61 = gI s35 61 := q_Ii es34 (by decide); have : gI s34 108 = gI s35 108 := q_Ii es34 (by decide); have : (0 : Int) ≤ gI s35 108 ∧ gI s35 108 ≤ 1600 := hRs35.1 108; have : (0 : Int) ≤ gI s35 109 ∧ gI s35 109 ≤ 1600 := hRs35.1 109; have : (0 : Int) ≤ gI s35 61 ∧ gI s35 61 ≤ 1600 := hRs35.1 61; have : gI s50 111 = r49 := q_II es50; have : gI s47 61 = gI s46 61 := q_Ii es47 (by decide); have : gI s46 61 = gI s66 61 := q_Ii es46 (by decide); have : gI s47 108 = gI s46 108 := q_Ii es47 (by decide); have : gI s46 108 = gI s66 108 := q_Ii es46 (by decide); have : (0 : Int) ≤ gI s66 108 ∧ gI s66 108 ≤ 1600 := hRs66.1 108; have : (0 : Int) ≤ gI s66 61 ∧ gI s66 61 ≤ 1600 := hRs66.1 61; have : (0 : Int) ≤ gI s 100 ∧ gI s 100 ≤ 5 := hRs.1 100; omega)
                              unfold m_x6_advance_J300
                              exact wp_some (hRs3)
                          · skip
                            unfold m_x6_advance_J300
                            exact wp_some (hRs34)
                      · skip
                        refine wp_stn (fun s44 es44 => ?_)
                        have hRs44 : Rg s44 := es44 ▸ Rg.uI hRs35 (by show (0 : Int) ≤ ((gI s35 109) + 1) ∧ ((gI s35 109) + 1) ≤ 1600; have : (0 : Int) ≤ gI s35 61 ∧ gI s35 61 ≤ 1600 := hRs35.1 61; have : gI s50 111 = r49 := q_II es50; have : gI s47 61 = gI s46 61 := q_Ii es47 (by decide); have : gI s46 61 = gI s66 61 := q_Ii es46 (by decide); have : gI s47 108 = gI s46 108 := q_Ii es47 (by decide); have : gI s46 108 = gI s66 108 := q_Ii es46 (by decide); have : (0 : Int) ≤ gI s66 108 ∧ gI s66 108 ≤ 1600 := hRs66.1 108; have : (0 : Int) ≤ gI s66 61 ∧ gI s66 61 ≤ 1600 := hRs66.1 61; have : (0 : Int) ≤ gI s 100 ∧ gI s 100 ≤ 5 := hRs.1 100; have : (0 : Int) ≤ gI s35 109 ∧ gI s35 109 ≤ 1600 := hRs35.1 109; omega)
                        exact ih120 s44 hRs44 (by have : (0 : Int) ≤ gI s35 109 ∧ gI s35 109 ≤ 1600 := hRs35.1 109; have : (0 : Int) ≤ gI s35 61 ∧ gI s35 61 ≤ 1600 := hRs35.1 61; have : gI s50 111 = r49 := q_II es50; have : gI s47 61 = gI s46 61 := q_Ii es47 (by decide); have : gI s46 61 = gI s66 61 := q_Ii es46 (by decide); have : gI s47 108 = gI s46 108 := q_Ii es47 (by decide); have : gI s46 108 = gI s66 108 := q_Ii es46 (by decide); have : (0 : Int) ≤ gI s66 108 ∧ gI s66 108 ≤ 1600 := hRs66.1 108; have : (0 : Int) ≤ gI s66 61 ∧ gI s66 61 ≤ 1600 := hRs66.1 61; have : (0 : Int) ≤ gI s 100 ∧ gI s 100 ≤ 5 := hRs.1 100; have : gI s44 109 = (gI s35 109) + 1 := q_II es44; omega)
                exact L120 FU s64 hRs64 (by have := FU_big; have := FU_big2; have : gI s50 111 = r49 := q_II es50; have : gI s47 61 = gI s46 61 := q_Ii es47 (by decide); have : gI s46 61 = gI s66 61 := q_Ii es46 (by decide); have : gI s47 108 = gI s46 108 := q_Ii es47 (by decide); have : gI s46 108 = gI s66 108 := q_Ii es46 (by decide); have : (0 : Int) ≤ gI s66 108 ∧ gI s66 108 ≤ 1600 := hRs66.1 108; have : (0 : Int) ≤ gI s66 61 ∧ gI s66 61 ≤ 1600 := hRs66.1 61; have : (0 : Int) ≤ gI s 100 ∧ gI s 100 ≤ 5 := hRs.1 100; have : gI s64 109 = gI s50 109 := q_Ii es64 (by decide); have : gI s50 109 = gI s47 109 := q_Ii es50 (by decide); have : gI s47 109 = gI s46 109 := q_Ii es47 (by decide); have : gI s46 109 = gI s66 108 := q_II es46; omega)
          · skip
            refine wp_stn (fun s75 es75 => ?_)
            have hRs75 : Rg s75 := es75 ▸ Rg.uI hRs66 (by show (0 : Int) ≤ ((gI s66 108) + 1) ∧ ((gI s66 108) + 1) ≤ 1600; have : (0 : Int) ≤ gI s66 61 ∧ gI s66 61 ≤ 1600 := hRs66.1 61; have : (0 : Int) ≤ gI s 100 ∧ gI s 100 ≤ 5 := hRs.1 100; have : (0 : Int) ≤ gI s66 108 ∧ gI s66 108 ≤ 1600 := hRs66.1 108; omega)
            exact ih16 s75 hRs75 (by have : (0 : Int) ≤ gI s66 108 ∧ gI s66 108 ≤ 1600 := hRs66.1 108; have : (0 : Int) ≤ gI s66 61 ∧ gI s66 61 ≤ 1600 := hRs66.1 61; have : (0 : Int) ≤ gI s 100 ∧ gI s 100 ≤ 5 := hRs.1 100; have : gI s75 108 = (gI s66 108) + 1 := q_II es75; omega)
    exact L16 FU s78 hRs78 (by have := FU_big; have := FU_big2; have : (0 : Int) ≤ gI s 100 ∧ gI s 100 ≤ 5 := hRs.1 100; have : gI s78 108 = gI s 109 := q_II es78; have : (0 : Int) ≤ gI s 109 ∧ gI s 109 ≤ 1600 := hRs.1 109; omega)
  · skip
    exact wp_some (hRs)
set_option maxHeartbeats 1000000 in
theorem w_x0_add {p0 : Int} {s : MS} (hRs : Rg s) (hp0 : (-300) ≤ p0 ∧ p0 ≤ 1000000) : wp (m_x0_add p0 s) (fun o => (Rg o)) := by
  unfold m_x0_add
  refine wp_rg (by have : (0 : Int) ≤ gI s 941 ∧ gI s 941 ≤ 1600 := hRs.1 941; omega) ?_
  refine wp_if (fun c1 => ?_) (fun c1 => ?_)
  · skip
    unfold m_x0_add_J30
    exact wp_some (hRs)
  · skip
    refine wp_inb (by have : (0 : Int) ≤ gI s 941 ∧ gI s 941 ≤ 1600 := hRs.1 941; omega) ?_
    refine wp_stn (fun s5 es5 => ?_)
    have hRs5 : Rg s5 := es5 ▸ Rg.uAu hRs (by show (-300 : Int) ≤ p0 ∧ p0 ≤ 1000000; have : (0 : Int) ≤ gI s 941 ∧ gI s 941 ≤ 1600 := hRs.1 941; omega)
    refine wp_stn (fun s6 es6 => ?_)
    have hRs6 : Rg s6 := es6 ▸ Rg.uI hRs5 (by show (0 : Int) ≤ ((gI s5 941) + 1) ∧ ((gI s5 941) + 1) ≤ 1600; have : (0 : Int) ≤ gI s 941 ∧ gI s 941 ≤ 1600 := hRs.1 941; have : gI s5 941 = gI s 941 := q_Ai es5; omega)
    unfold m_x0_add_J30
    exact wp_some (hRs6)
set_option maxHeartbeats 1000000 in
theorem w_x6_isSign {p0 : Int} {s : MS} (hRs : Rg s) (hp0 : R2 p0) : wp (m_x6_isSign p0 s) (fun r => (r = 0 ∨ r = 1)) := by
  unfold m_x6_isSign
  refine wp_rg (by have : (0 : Int) ≤ gI s 107 ∧ gI s 107 ≤ 4 := hRs.1 107; omega) ?_
  refine wp_if (fun c1 => ?_) (fun c1 => ?_)
  · skip
    refine wp_rg (by have : (0 : Int) ≤ gI s 107 ∧ gI s 107 ≤ 4 := hRs.1 107; have : (-1 : Int) ≤ gI s 111 ∧ gI s 111 ≤ 255 := hRs.1 111; omega) ?_
    refine wp_rg (by have : (0 : Int) ≤ gI s 107 ∧ gI s 107 ≤ 4 := hRs.1 107; omega) ?_
    refine wp_if (fun c2 => ?_) (fun c2 => ?_)
    · skip
      unfold m_x6_isSign_J21
      refine wp_bo (by have : (-1 : Int) ≤ gI s 111 ∧ gI s 111 ≤ 255 := hRs.1 111; have : (0 : Int) ≤ gI s 107 ∧ gI s 107 ≤ 4 := hRs.1 107; omega) ?_
      exact wp_some (by show (1 : Int) = 0 ∨ (1 : Int) = 1; have : (-1 : Int) ≤ gI s 111 ∧ gI s 111 ≤ 255 := hRs.1 111; have : (0 : Int) ≤ gI s 107 ∧ gI s 107 ≤ 4 := hRs.1 107; omega)
    · skip
      unfold m_x6_isSign_J20
      unfold m_x6_isSign_J21
      refine wp_bo (by have : (-1 : Int) ≤ gI s 111 ∧ gI s 111 ≤ 255 := hRs.1 111; have : (0 : Int) ≤ gI s 107 ∧ gI s 107 ≤ 4 := hRs.1 107; omega) ?_
      exact wp_some (by show (0 : Int) = 0 ∨ (0 : Int) = 1; have : (-1 : Int) ≤ gI s 111 ∧ gI s 111 ≤ 255 := hRs.1 111; have : (0 : Int) ≤ gI s 107 ∧ gI s 107 ≤ 4 := hRs.1 107; omega)
  · skip
    unfold m_x6_isSign_J20
    unfold m_x6_isSign_J21
    refine wp_bo (by have : (0 : Int) ≤ gI s 107 ∧ gI s 107 ≤ 4 := hRs.1 107; omega) ?_
    exact wp_some (by show (0 : Int) = 0 ∨ (0 : Int) = 1; have : (0 : Int) ≤ gI s 107 ∧ gI s 107 ≤ 4 := hRs.1 107; omega)
set_option maxHeartbeats 1000000 in
theorem w_x6_isWord {p0 : Int} {s : MS} (hRs : Rg s) (hp0 : R2 p0) : wp (m_x6_isWord p0 s) (fun r => (r = 0 ∨ r = 1)) := by
  unfold m_x6_isWord
  refine wp_rg (by have : (0 : Int) ≤ gI s 107 ∧ gI s 107 ≤ 4 := hRs.1 107; omega) ?_
  refine wp_if (fun c1 => ?_) (fun c1 => ?_)
  · skip
    refine wp_rg (by have : (0 : Int) ≤ gI s 107 ∧ gI s 107 ≤ 4 := hRs.1 107; have : (-1 : Int) ≤ gI s 110 ∧ gI s 110 ≤ 179 := hRs.1 110; omega) ?_
    refine wp_rg (by have : (0 : Int) ≤ gI s 107 ∧ gI s 107 ≤ 4 := hRs.1 107; omega) ?_
    refine wp_if (fun c2 => ?_) (fun c2 => ?_)
    · skip
      unfold m_x6_isWord_J21
      refine wp_bo (by have : (-1 : Int) ≤ gI s 110 ∧ gI s 110 ≤ 179 := hRs.1 110; have : (0 : Int) ≤ gI s 107 ∧ gI s 107 ≤ 4 := hRs.1 107; omega) ?_
      exact wp_some (by show (1 : Int) = 0 ∨ (1 : Int) = 1; have : (-1 : Int) ≤ gI s 110 ∧ gI s 110 ≤ 179 := hRs.1 110; have : (0 : Int) ≤ gI s 107 ∧ gI s 107 ≤ 4 := hRs.1 107; omega)
    · skip
      unfold m_x6_isWord_J20
      unfold m_x6_isWord_J21
      refine wp_bo (by have : (-1 : Int) ≤ gI s 110 ∧ gI s 110 ≤ 179 := hRs.1 110; have : (0 : Int) ≤ gI s 107 ∧ gI s 107 ≤ 4 := hRs.1 107; omega) ?_
      exact wp_some (by show (0 : Int) = 0 ∨ (0 : Int) = 1; have : (-1 : Int) ≤ gI s 110 ∧ gI s 110 ≤ 179 := hRs.1 110; have : (0 : Int) ≤ gI s 107 ∧ gI s 107 ≤ 4 := hRs.1 107; omega)
  · skip
    unfold m_x6_isWord_J20
    unfold m_x6_isWord_J21
    refine wp_bo (by have : (0 : Int) ≤ gI s 107 ∧ gI s 107 ≤ 4 := hRs.1 107; omega) ?_
    exact wp_some (by show (0 : Int) = 0 ∨ (0 : Int) = 1; have : (0 : Int) ≤ gI s 107 ∧ gI s 107 ≤ 4 := hRs.1 107; omega)
set_option maxHeartbeats 1000000 in
theorem w_x6_expectSign {p0 : Int} {s : MS} (hRs : Rg s) (hp0 : R2 p0) : wp (m_x6_expectSign p0 s) (fun o => (Rg o) ∧ (gI s 100 ≠ 0 → gI o 100 ≠ 0)) := by
  unfold m_x6_expectSign
  refine wp_bn (w_x6_isSign hRs (by show R2 p0; omega)) (fun r3 er3 hr3 => ?_)
  have hr3_0 := hr3
  have hr3_0 : r3 = 0 ∨ r3 = 1 := hr3_0
  refine wp_rg (by omega) ?_
  refine wp_if (fun c1 => ?_) (fun c1 => ?_)
  · skip
    refine wp_bn (w_x6_fail hRs (by show 1 ≤ (1 : Int) ∧ (1 : Int) ≤ 5; omega) (by show R2 (gI s 108); have : (0 : Int) ≤ gI s 108 ∧ gI s 108 ≤ 1600 := hRs.1 108; omega)) (fun qqr8 eqr8s hqr8s => ?_)
    obtain ⟨qr8r, qr8s⟩ := qqr8
    dsimp only at eqr8s hqr8s ⊢
    have Fqr8s := fr_x6_fail eqr8s
    obtain ⟨hRqr8s, hqr8s_0, hqr8s_1⟩ := hqr8s
    have hqr8s_0 : qr8r = 0 := hqr8s_0
    have hqr8s_1 : gI qr8s 100 ≠ 0 := hqr8s_1
    unfold m_x6_expectSign_J25
    exact wp_some ⟨hRqr8s, by show gI s 100 ≠ 0 → gI qr8s 100 ≠ 0; have : (0 : Int) ≤ gI qr8s 100 ∧ gI qr8s 100 ≤ 5 := hRqr8s.1 100; have : (0 : Int) ≤ gI s 100 ∧ gI s 100 ≤ 5 := hRs.1 100; omega⟩
  · skip
    refine wp_bn (w_x6_advance hRs) (fun s10 es10 hs10 => ?_)
    have Fs10 := fr_x6_advance es10
    have hRs10 := hs10
    unfold m_x6_expectSign_J25
    exact wp_some ⟨hRs10, by show gI s 100 ≠ 0 → gI s10 100 ≠ 0; have : gI s10 100 = gI s 100 := Fs10.1 100 (by decide); have : (0 : Int) ≤ gI s 100 ∧ gI s 100 ≤ 5 := hRs.1 100; omega⟩
set_option maxHeartbeats 1000000 in
theorem w_x6_isFact {s : MS} (hRs : Rg s) : wp (m_x6_isFact s) (fun r => (r = 0 ∨ r = 1)) := by
  unfold m_x6_isFact
  refine wp_rg (by have : (0 : Int) ≤ gI s 107 ∧ gI s 107 ≤ 4 := hRs.1 107; omega) ?_
  refine wp_if (fun c1 => ?_) (fun c1 => ?_)
  · skip
    refine wp_rg (by have : (0 : Int) ≤ gI s 107 ∧ gI s 107 ≤ 4 := hRs.1 107; have : (-1 : Int) ≤ gI s 110 ∧ gI s 110 ≤ 179 := hRs.1 110; omega) ?_
    refine wp_if (fun c2 => ?_) (fun c2 => ?_)
    · skip
      refine wp_rg (by have : (-1 : Int) ≤ gI s 110 ∧ gI s 110 ≤ 179 := hRs.1 110; have : (0 : Int) ≤ gI s 107 ∧ gI s 107 ≤ 4 := hRs.1 107; have : (0 : Int) ≤ gI s 105 ∧ gI s 105 ≤ 3 := hRs.1 105; omega) ?_
      refine wp_if (fun c3 => ?_) (fun c3 => ?_)
      · skip
        unfold m_x6_isFact_J77
        unfold m_x6_isFact_J82
        refine wp_bo (by have : (0 : Int) ≤ gI s 105 ∧ gI s 105 ≤ 3 := hRs.1 105; have : (-1 : Int) ≤ gI s 110 ∧ gI s 110 ≤ 179 := hRs.1 110; have : (0 : Int) ≤ gI s 107 ∧ gI s 107 ≤ 4 := hRs.1 107; omega) ?_
        exact wp_some (by show (1 : Int) = 0 ∨ (1 : Int) = 1; have : (0 : Int) ≤ gI s 105 ∧ gI s 105 ≤ 3 := hRs.1 105; have : (-1 : Int) ≤ gI s 110 ∧ gI s 110 ≤ 179 := hRs.1 110; have : (0 : Int) ≤ gI s 107 ∧ gI s 107 ≤ 4 := hRs.1 107; omega)
      · skip
        refine wp_rg (by have : (-1 : Int) ≤ gI s 110 ∧ gI s 110 ≤ 179 := hRs.1 110; have : (0 : Int) ≤ gI s 107 ∧ gI s 107 ≤ 4 := hRs.1 107; have : (0 : Int) ≤ gI s 105 ∧ gI s 105 ≤ 3 := hRs.1 105; omega) ?_
        refine wp_if (fun c4 => ?_) (fun c4 => ?_)
        · skip
          unfold m_x6_isFact_J77
          unfold m_x6_isFact_J82
          refine wp_bo (by have : (0 : Int) ≤ gI s 105 ∧ gI s 105 ≤ 3 := hRs.1 105; have : (-1 : Int) ≤ gI s 110 ∧ gI s 110 ≤ 179 := hRs.1 110; have : (0 : Int) ≤ gI s 107 ∧ gI s 107 ≤ 4 := hRs.1 107; omega) ?_
          exact wp_some (by show (1 : Int) = 0 ∨ (1 : Int) = 1; have : (0 : Int) ≤ gI s 105 ∧ gI s 105 ≤ 3 := hRs.1 105; have : (-1 : Int) ≤ gI s 110 ∧ gI s 110 ≤ 179 := hRs.1 110; have : (0 : Int) ≤ gI s 107 ∧ gI s 107 ≤ 4 := hRs.1 107; omega)
        · skip
          unfold m_x6_isFact_J82
          refine wp_bo (by have : (0 : Int) ≤ gI s 105 ∧ gI s 105 ≤ 3 := hRs.1 105; have : (-1 : Int) ≤ gI s 110 ∧ gI s 110 ≤ 179 := hRs.1 110; have : (0 : Int) ≤ gI s 107 ∧ gI s 107 ≤ 4 := hRs.1 107; omega) ?_
          exact wp_some (by show (0 : Int) = 0 ∨ (0 : Int) = 1; have : (0 : Int) ≤ gI s 105 ∧ gI s 105 ≤ 3 := hRs.1 105; have : (-1 : Int) ≤ gI s 110 ∧ gI s 110 ≤ 179 := hRs.1 110; have : (0 : Int) ≤ gI s 107 ∧ gI s 107 ≤ 4 := hRs.1 107; omega)
    · skip
      refine wp_if (fun c5 => ?_) (fun c5 => ?_)
      · skip
        refine wp_rg (by have : (-1 : Int) ≤ gI s 110 ∧ gI s 110 ≤ 179 := hRs.1 110; have : (0 : Int) ≤ gI s 107 ∧ gI s 107 ≤ 4 := hRs.1 107; have : (0 : Int) ≤ gI s 105 ∧ gI s 105 ≤ 3 := hRs.1 105; omega) ?_
        refine wp_if (fun c6 => ?_) (fun c6 => ?_)
        · skip
          unfold m_x6_isFact_J95
          refine wp_bo (by have : (0 : Int) ≤ gI s 105 ∧ gI s 105 ≤ 3 := hRs.1 105; have : (-1 : Int) ≤ gI s 110 ∧ gI s 110 ≤ 179 := hRs.1 110; have : (0 : Int) ≤ gI s 107 ∧ gI s 107 ≤ 4 := hRs.1 107; omega) ?_
          exact wp_some (by show (1 : Int) = 0 ∨ (1 : Int) = 1; have : (0 : Int) ≤ gI s 105 ∧ gI s 105 ≤ 3 := hRs.1 105; have : (-1 : Int) ≤ gI s 110 ∧ gI s 110 ≤ 179 := hRs.1 110; have : (0 : Int) ≤ gI s 107 ∧ gI s 107 ≤ 4 := hRs.1 107; omega)
        · skip
          unfold m_x6_isFact_J95
          refine wp_bo (by have : (0 : Int) ≤ gI s 105 ∧ gI s 105 ≤ 3 := hRs.1 105; have : (-1 : Int) ≤ gI s 110 ∧ gI s 110 ≤ 179 := hRs.1 110; have : (0 : Int) ≤ gI s 107 ∧ gI s 107 ≤ 4 := hRs.1 107; omega) ?_
          exact wp_some (by show (0 : Int) = 0 ∨ (0 : Int) = 1; have : (0 : Int) ≤ gI s 105 ∧ gI s 105 ≤ 3 := hRs.1 105; have : (-1 : Int) ≤ gI s 110 ∧ gI s 110 ≤ 179 := hRs.1 110; have : (0 : Int) ≤ gI s 107 ∧ gI s 107 ≤ 4 := hRs.1 107; omega)
      · skip
        refine wp_if (fun c7 => ?_) (fun c7 => ?_)
        · skip
          exact wp_some (by show (1 : Int) = 0 ∨ (1 : Int) = 1; have : (-1 : Int) ≤ gI s 110 ∧ gI s 110 ≤ 179 := hRs.1 110; have : (0 : Int) ≤ gI s 107 ∧ gI s 107 ≤ 4 := hRs.1 107; omega)
        · skip
          refine wp_if (fun c8 => ?_) (fun c8 => ?_)
          · skip
            refine wp_rg (by have : (-1 : Int) ≤ gI s 110 ∧ gI s 110 ≤ 179 := hRs.1 110; have : (0 : Int) ≤ gI s 107 ∧ gI s 107 ≤ 4 := hRs.1 107; have : (0 : Int) ≤ gI s 105 ∧ gI s 105 ≤ 3 := hRs.1 105; omega) ?_
            refine wp_if (fun c9 => ?_) (fun c9 => ?_)
            · skip
              unfold m_x6_isFact_J108
              refine wp_bo (by have : (0 : Int) ≤ gI s 105 ∧ gI s 105 ≤ 3 := hRs.1 105; have : (-1 : Int) ≤ gI s 110 ∧ gI s 110 ≤ 179 := hRs.1 110; have : (0 : Int) ≤ gI s 107 ∧ gI s 107 ≤ 4 := hRs.1 107; omega) ?_
              exact wp_some (by show (0 : Int) = 0 ∨ (0 : Int) = 1; have : (0 : Int) ≤ gI s 105 ∧ gI s 105 ≤ 3 := hRs.1 105; have : (-1 : Int) ≤ gI s 110 ∧ gI s 110 ≤ 179 := hRs.1 110; have : (0 : Int) ≤ gI s 107 ∧ gI s 107 ≤ 4 := hRs.1 107; omega)
            · skip
              unfold m_x6_isFact_J108
              refine wp_bo (by have : (0 : Int) ≤ gI s 105 ∧ gI s 105 ≤ 3 := hRs.1 105; have : (-1 : Int) ≤ gI s 110 ∧ gI s 110 ≤ 179 := hRs.1 110; have : (0 : Int) ≤ gI s 107 ∧ gI s 107 ≤ 4 := hRs.1 107; omega) ?_
              exact wp_some (by show (1 : Int) = 0 ∨ (1 : Int) = 1; have : (0 : Int) ≤ gI s 105 ∧ gI s 105 ≤ 3 := hRs.1 105; have : (-1 : Int) ≤ gI s 110 ∧ gI s 110 ≤ 179 := hRs.1 110; have : (0 : Int) ≤ gI s 107 ∧ gI s 107 ≤ 4 := hRs.1 107; omega)
          · skip
            refine wp_if (fun c10 => ?_) (fun c10 => ?_)
            · skip
              unfold m_x6_isFact_J109
              refine wp_rg (by have : (-1 : Int) ≤ gI s 110 ∧ gI s 110 ≤ 179 := hRs.1 110; have : (0 : Int) ≤ gI s 107 ∧ gI s 107 ≤ 4 := hRs.1 107; have : (0 : Int) ≤ gI s 105 ∧ gI s 105 ≤ 3 := hRs.1 105; omega) ?_
              refine wp_if (fun c11 => ?_) (fun c11 => ?_)
              · skip
                unfold m_x6_isFact_J122
                refine wp_bo (by have : (0 : Int) ≤ gI s 105 ∧ gI s 105 ≤ 3 := hRs.1 105; have : (-1 : Int) ≤ gI s 110 ∧ gI s 110 ≤ 179 := hRs.1 110; have : (0 : Int) ≤ gI s 107 ∧ gI s 107 ≤ 4 := hRs.1 107; omega) ?_
                exact wp_some (by show (1 : Int) = 0 ∨ (1 : Int) = 1; have : (0 : Int) ≤ gI s 105 ∧ gI s 105 ≤ 3 := hRs.1 105; have : (-1 : Int) ≤ gI s 110 ∧ gI s 110 ≤ 179 := hRs.1 110; have : (0 : Int) ≤ gI s 107 ∧ gI s 107 ≤ 4 := hRs.1 107; omega)
              · skip
                unfold m_x6_isFact_J122
                refine wp_bo (by have : (0 : Int) ≤ gI s 105 ∧ gI s 105 ≤ 3 := hRs.1 105; have : (-1 : Int) ≤ gI s 110 ∧ gI s 110 ≤ 179 := hRs.1 110; have : (0 : Int) ≤ gI s 107 ∧ gI s 107 ≤ 4 := hRs.1 107; omega) ?_
                exact wp_some (by show (0 : Int) = 0 ∨ (0 : Int) = 1; have : (0 : Int) ≤ gI s 105 ∧ gI s 105 ≤ 3 := hRs.1 105; have : (-1 : Int) ≤ gI s 110 ∧ gI s 110 ≤ 179 := hRs.1 110; have : (0 : Int) ≤ gI s 107 ∧ gI s 107 ≤ 4 := hRs.1 107; omega)
            · skip
              refine wp_if (fun c12 => ?_) (fun c12 => ?_)
              · skip
                unfold m_x6_isFact_J109
                refine wp_rg (by have : (-1 : Int) ≤ gI s 110 ∧ gI s 110 ≤ 179 := hRs.1 110; have : (0 : Int) ≤ gI s 107 ∧ gI s 107 ≤ 4 := hRs.1 107; have : (0 : Int) ≤ gI s 105 ∧ gI s 105 ≤ 3 := hRs.1 105; omega) ?_
                refine wp_if (fun c13 => ?_) (fun c13 => ?_)
                · skip
                  unfold m_x6_isFact_J122
                  refine wp_bo (by have : (0 : Int) ≤ gI s 105 ∧ gI s 105 ≤ 3 := hRs.1 105; have : (-1 : Int) ≤ gI s 110 ∧ gI s 110 ≤ 179 := hRs.1 110; have : (0 : Int) ≤ gI s 107 ∧ gI s 107 ≤ 4 := hRs.1 107; omega) ?_
                  exact wp_some (by show (1 : Int) = 0 ∨ (1 : Int) = 1; have : (0 : Int) ≤ gI s 105 ∧ gI s 105 ≤ 3 := hRs.1 105; have : (-1 : Int) ≤ gI s 110 ∧ gI s 110 ≤ 179 := hRs.1 110; have : (0 : Int) ≤ gI s 107 ∧ gI s 107 ≤ 4 := hRs.1 107; omega)
                · skip
                  unfold m_x6_isFact_J122
                  refine wp_bo (by have : (0 : Int) ≤ gI s 105 ∧ gI s 105 ≤ 3 := hRs.1 105; have : (-1 : Int) ≤ gI s 110 ∧ gI s 110 ≤ 179 := hRs.1 110; have : (0 : Int) ≤ gI s 107 ∧ gI s 107 ≤ 4 := hRs.1 107; omega) ?_
                  exact wp_some (by show (0 : Int) = 0 ∨ (0 : Int) = 1; have : (0 : Int) ≤ gI s 105 ∧ gI s 105 ≤ 3 := hRs.1 105; have : (-1 : Int) ≤ gI s 110 ∧ gI s 110 ≤ 179 := hRs.1 110; have : (0 : Int) ≤ gI s 107 ∧ gI s 107 ≤ 4 := hRs.1 107; omega)
              · skip
                refine wp_if (fun c14 => ?_) (fun c14 => ?_)
                · skip
                  unfold m_x6_isFact_J109
                  refine wp_rg (by have : (-1 : Int) ≤ gI s 110 ∧ gI s 110 ≤ 179 := hRs.1 110; have : (0 : Int) ≤ gI s 107 ∧ gI s 107 ≤ 4 := hRs.1 107; have : (0 : Int) ≤ gI s 105 ∧ gI s 105 ≤ 3 := hRs.1 105; omega) ?_
                  refine wp_if (fun c15 => ?_) (fun c15 => ?_)
                  · skip
                    unfold m_x6_isFact_J122
                    refine wp_bo (by have : (0 : Int) ≤ gI s 105 ∧ gI s 105 ≤ 3 := hRs.1 105; have : (-1 : Int) ≤ gI s 110 ∧ gI s 110 ≤ 179 := hRs.1 110; have : (0 : Int) ≤ gI s 107 ∧ gI s 107 ≤ 4 := hRs.1 107; omega) ?_
                    exact wp_some (by show (1 : Int) = 0 ∨ (1 : Int) = 1; have : (0 : Int) ≤ gI s 105 ∧ gI s 105 ≤ 3 := hRs.1 105; have : (-1 : Int) ≤ gI s 110 ∧ gI s 110 ≤ 179 := hRs.1 110; have : (0 : Int) ≤ gI s 107 ∧ gI s 107 ≤ 4 := hRs.1 107; omega)
                  · skip
                    unfold m_x6_isFact_J122
                    refine wp_bo (by have : (0 : Int) ≤ gI s 105 ∧ gI s 105 ≤ 3 := hRs.1 105; have : (-1 : Int) ≤ gI s 110 ∧ gI s 110 ≤ 179 := hRs.1 110; have : (0 : Int) ≤ gI s 107 ∧ gI s 107 ≤ 4 := hRs.1 107; omega) ?_
                    exact wp_some (by show (0 : Int) = 0 ∨ (0 : Int) = 1; have : (0 : Int) ≤ gI s 105 ∧ gI s 105 ≤ 3 := hRs.1 105; have : (-1 : Int) ≤ gI s 110 ∧ gI s 110 ≤ 179 := hRs.1 110; have : (0 : Int) ≤ gI s 107 ∧ gI s 107 ≤ 4 := hRs.1 107; omega)
                · skip
                  refine wp_if (fun c16 => ?_) (fun c16 => ?_)
                  · skip
                    unfold m_x6_isFact_J109
                    refine wp_rg (by have : (-1 : Int) ≤ gI s 110 ∧ gI s 110 ≤ 179 := hRs.1 110; have : (0 : Int) ≤ gI s 107 ∧ gI s 107 ≤ 4 := hRs.1 107; have : (0 : Int) ≤ gI s 105 ∧ gI s 105 ≤ 3 := hRs.1 105; omega) ?_
                    refine wp_if (fun c17 => ?_) (fun c17 => ?_)
                    · skip
                      unfold m_x6_isFact_J122
                      refine wp_bo (by have : (0 : Int) ≤ gI s 105 ∧ gI s 105 ≤ 3 := hRs.1 105; have : (-1 : Int) ≤ gI s 110 ∧ gI s 110 ≤ 179 := hRs.1 110; have : (0 : Int) ≤ gI s 107 ∧ gI s 107 ≤ 4 := hRs.1 107; omega) ?_
                      exact wp_some (by show (1 : Int) = 0 ∨ (1 : Int) = 1; have : (0 : Int) ≤ gI s 105 ∧ gI s 105 ≤ 3 := hRs.1 105; have : (-1 : Int) ≤ gI s 110 ∧ gI s 110 ≤ 179 := hRs.1 110; have : (0 : Int) ≤ gI s 107 ∧ gI s 107 ≤ 4 := hRs.1 107; omega)
                    · skip
                      unfold m_x6_isFact_J122
                      refine wp_bo (by have : (0 : Int) ≤ gI s 105 ∧ gI s 105 ≤ 3 := hRs.1 105; have : (-1 : Int) ≤ gI s 110 ∧ gI s 110 ≤ 179 := hRs.1 110; have : (0 : Int) ≤ gI s 107 ∧ gI s 107 ≤ 4 := hRs.1 107; omega) ?_
                      exact wp_some (by show (0 : Int) = 0 ∨ (0 : Int) = 1; have : (0 : Int) ≤ gI s 105 ∧ gI s 105 ≤ 3 := hRs.1 105; have : (-1 : Int) ≤ gI s 110 ∧ gI s 110 ≤ 179 := hRs.1 110; have : (0 : Int) ≤ gI s 107 ∧ gI s 107 ≤ 4 := hRs.1 107; omega)
                  · skip
                    exact wp_some (by show (0 : Int) = 0 ∨ (0 : Int) = 1; have : (-1 : Int) ≤ gI s 110 ∧ gI s 110 ≤ 179 := hRs.1 110; have : (0 : Int) ≤ gI s 107 ∧ gI s 107 ≤ 4 := hRs.1 107; omega)
  · skip
    exact wp_some (by show (0 : Int) = 0 ∨ (0 : Int) = 1; have : (0 : Int) ≤ gI s 107 ∧ gI s 107 ≤ 4 := hRs.1 107; omega)
set_option maxHeartbeats 1000000 in
theorem w_x6_expectNumber {p0 : Int} {p1 : Int} {s : MS} (hRs : Rg s) (hp0 : R2 p0 ∧ R2 p1 ∧ p0 ≤ p1) : wp (m_x6_expectNumber p0 p1 s) (fun q => (Rg q.2) ∧ (p0 ≤ q.1 ∧ q.1 ≤ p1) ∧ (gI s 100 ≠ 0 → gI q.2 100 ≠ 0)) := by
  unfold m_x6_expectNumber
  refine wp_rg (by have : (0 : Int) ≤ gI s 107 ∧ gI s 107 ≤ 4 := hRs.1 107; omega) ?_
  refine wp_if (fun c1 => ?_) (fun c1 => ?_)
  · skip
    refine wp_rg (by have : (0 : Int) ≤ gI s 107 ∧ gI s 107 ≤ 4 := hRs.1 107; have : (0 : Int) ≤ gI s 108 ∧ gI s 108 ≤ 1600 := hRs.1 108; have : (0 : Int) ≤ gI s 109 ∧ gI s 109 ≤ 1600 := hRs.1 109; omega) ?_
    refine wp_if (fun c2 => ?_) (fun c2 => ?_)
    · skip
      have L55 : ∀ (n : Nat) (x6 : Int) (x7 : Int) (x8 : Int) (x9 : Int) (s10 : MS), Rg s10 → (x6 = p0 ∧ x7 = p1) → (gI s10 109 - gI s10 108 ≤ 4 ∧ gI s10 108 ≤ x9 ∧ (x9 ≤ gI s10 108 ∨ x9 ≤ gI s10 109)) → ((x9 = gI s10 108 ∧ x8 = 0) ∨ (x9 = gI s10 108 + 1 ∧ (-50) ≤ x8 ∧ x8 ≤ 300) ∨ (x9 = gI s10 108 + 2 ∧ (-600) ≤ x8 ∧ x8 ≤ 4000) ∨ (x9 = gI s10 108 + 3 ∧ (-7000) ≤ x8 ∧ x8 ≤ 50000) ∨ (4 ≤ x9 - gI s10 108 ∧ (-80000) ≤ x8 ∧ x8 ≤ 600000)) → (gI s 100 ≠ 0 → gI s10 100 ≠ 0) → (3300 - x9) < (n : Int) → wp (m_x6_expectNumber_L55 n x6 x7 x8 x9 s10) (fun q => (Rg q.2) ∧ (p0 ≤ q.1 ∧ q.1 ≤ p1) ∧ (gI s 100 ≠ 0 → gI q.2 100 ≠ 0)) := by
        refine fr_ind (fun x6 x7 x8 x9 s10 hRs10 hv55_0 hv55_1 hv55_2 hv55_3 hm55 => ?_) (fun n55 ih55 x6 x7 x8 x9 s10 hRs10 hv55_0 hv55_1 hv55_2 hv55_3 hm55 => ?_)
        · exfalso; have : (0 : Int) ≤ gI s10 100 ∧ gI s10 100 ≤ 5 := hRs10.1 100; have : (0 : Int) ≤ gI s 100 ∧ gI s 100 ≤ 5 := hRs.1 100; have : (0 : Int) ≤ gI s10 108 ∧ gI s10 108 ≤ 1600 := hRs10.1 108; have : (0 : Int) ≤ gI s10 109 ∧ gI s10 109 ≤ 1600 := hRs10.1 109; omega
        · show wp (m_x6_expectNumber_b55 (m_x6_expectNumber_L55 n55) x6 x7 x8 x9 s10) _
          unfold m_x6_expectNumber_b55
          refine wp_rg (by have : (0 : Int) ≤ gI s10 100 ∧ gI s10 100 ≤ 5 := hRs10.1 100; have : (0 : Int) ≤ gI s 100 ∧ gI s 100 ≤ 5 := hRs.1 100; have : (0 : Int) ≤ gI s10 108 ∧ gI s10 108 ≤ 1600 := hRs10.1 108; have : (0 : Int) ≤ gI s10 109 ∧ gI s10 109 ≤ 1600 := hRs10.1 109; have : (0 : Int) ≤ gI s 108 ∧ gI s 108 ≤ 1600 := hRs.1 108; have : (0 : Int) ≤ gI s 109 ∧ gI s 109 ≤ 1600 := hRs.1 109; have : (0 : Int) ≤ gI s 107 ∧ gI s 107 ≤ 4 := hRs.1 107; omega) ?_
          refine wp_rg (by have : (0 : Int) ≤ gI s10 100 ∧ gI s10 100 ≤ 5 := hRs10.1 100; have : (0 : Int) ≤ gI s 100 ∧ gI s 100 ≤ 5 := hRs.1 100; have : (0 : Int) ≤ gI s10 108 ∧ gI s10 108 ≤ 1600 := hRs10.1 108; have : (0 : Int) ≤ gI s 108 ∧ gI s 108 ≤ 1600 := hRs.1 108; have : (0 : Int) ≤ gI s 109 ∧ gI s 109 ≤ 1600 := hRs.1 109; have : (0 : Int) ≤ gI s 107 ∧ gI s 107 ≤ 4 := hRs.1 107; have : (0 : Int) ≤ gI s10 109 ∧ gI s10 109 ≤ 1600 := hRs10.1 109; omega) ?_
          refine wp_if (fun c3 => ?_) (fun c3 => ?_)
          · skip
            refine wp_rg (by have : (0 : Int) ≤ gI s10 100 ∧ gI s10 100 ≤ 5 := hRs10.1 100; have : (0 : Int) ≤ gI s 100 ∧ gI s 100 ≤ 5 := hRs.1 100; have : (0 : Int) ≤ gI s10 108 ∧ gI s10 108 ≤ 1600 := hRs10.1 108; have : (0 : Int) ≤ gI s10 109 ∧ gI s10 109 ≤ 1600 := hRs10.1 109; have : (0 : Int) ≤ gI s 108 ∧ gI s 108 ≤ 1600 := hRs.1 108; have : (0 : Int) ≤ gI s 109 ∧ gI s 109 ≤ 1600 := hRs.1 109; have : (0 : Int) ≤ gI s 107 ∧ gI s 107 ≤ 4 := hRs.1 107; omega) ?_
            refine wp_rg (by have : (0 : Int) ≤ gI s10 100 ∧ gI s10 100 ≤ 5 := hRs10.1 100; have : (0 : Int) ≤ gI s 100 ∧ gI s 100 ≤ 5 := hRs.1 100; have : (0 : Int) ≤ gI s10 108 ∧ gI s10 108 ≤ 1600 := hRs10.1 108; have : (0 : Int) ≤ gI s10 109 ∧ gI s10 109 ≤ 1600 := hRs10.1 109; have : (0 : Int) ≤ gI s 108 ∧ gI s 108 ≤ 1600 := hRs.1 108; have : (0 : Int) ≤ gI s 109 ∧ gI s 109 ≤ 1600 := hRs.1 109; have : (0 : Int) ≤ gI s 107 ∧ gI s 107 ≤ 4 := hRs.1 107; omega) ?_
            refine wp_if (fun c4 => ?_) (fun c4 => ?_)
            · skip
              unfold m_x6_expectNumber_J98
              refine wp_bn (w_x6_fail hRs10 (by show 1 ≤ (2 : Int) ∧ (2 : Int) ≤ 5; have : (0 : Int) ≤ gI s10 100 ∧ gI s10 100 ≤ 5 := hRs10.1 100; have : (0 : Int) ≤ gI s 100 ∧ gI s 100 ≤ 5 := hRs.1 100; have : (0 : Int) ≤ gI s10 108 ∧ gI s10 108 ≤ 1600 := hRs10.1 108; have : (0 : Int) ≤ gI s10 109 ∧ gI s10 109 ≤ 1600 := hRs10.1 109; have : (0 : Int) ≤ gI s 108 ∧ gI s 108 ≤ 1600 := hRs.1 108; have : (0 : Int) ≤ gI s 109 ∧ gI s 109 ≤ 1600 := hRs.1 109; have : (0 : Int) ≤ gI s 107 ∧ gI s 107 ≤ 4 := hRs.1 107; omega) (by show R2 (gI s10 108); have : (0 : Int) ≤ gI s10 100 ∧ gI s10 100 ≤ 5 := hRs10.1 100; have : (0 : Int) ≤ gI s 100 ∧ gI s 100 ≤ 5 := hRs.1 100; have : (0 : Int) ≤ gI s10 109 ∧ gI s10 109 ≤ 1600 := hRs10.1 109; have : (0 : Int) ≤ gI s 108 ∧ gI s 108 ≤ 1600 := hRs.1 108; have : (0 : Int) ≤ gI s 109 ∧ gI s 109 ≤ 1600 := hRs.1 109; have : (0 : Int) ≤ gI s 107 ∧ gI s 107 ≤ 4 := hRs.1 107; have : (0 : Int) ≤ gI s10 108 ∧ gI s10 108 ≤ 1600 := hRs10.1 108; omega)) (fun qqr5 eqr5s hqr5s => ?_)
              obtain ⟨qr5r, qr5s⟩ := qqr5
              dsimp only at eqr5s hqr5s ⊢
              have Fqr5s := fr_x6_fail eqr5s
              obtain ⟨hRqr5s, hqr5s_0, hqr5s_1⟩ := hqr5s
              have hqr5s_0 : qr5r = 0 := hqr5s_0
              have hqr5s_1 : gI qr5s 100 ≠ 0 := hqr5s_1
              exact wp_some ⟨hRqr5s, by show p0 ≤ x6 ∧ x6 ≤ p1; have : (0 : Int) ≤ gI qr5s 100 ∧ gI qr5s 100 ≤ 5 := hRqr5s.1 100; have : (0 : Int) ≤ gI s10 100 ∧ gI s10 100 ≤ 5 := hRs10.1 100; have : (0 : Int) ≤ gI s 100 ∧ gI s 100 ≤ 5 := hRs.1 100; have : (0 : Int) ≤ gI s10 108 ∧ gI s10 108 ≤ 1600 := hRs10.1 108; have : (0 : Int) ≤ gI s10 109 ∧ gI s10 109 ≤ 1600 := hRs10.1 109; have : (0 : Int) ≤ gI s 108 ∧ gI s 108 ≤ 1600 := hRs.1 108; have : (0 : Int) ≤ gI s 109 ∧ gI s 109 ≤ 1600 := hRs.1 109; have : (0 : Int) ≤ gI s 107 ∧ gI s 107 ≤ 4 := hRs.1 107; omega, by show gI s 100 ≠ 0 → gI qr5s 100 ≠ 0; have : (0 : Int) ≤ gI s10 100 ∧ gI s10 100 ≤ 5 := hRs10.1 100; have : (0 : Int) ≤ gI s10 108 ∧ gI s10 108 ≤ 1600 := hRs10.1 108; have : (0 : Int) ≤ gI s10 109 ∧ gI s10 109 ≤ 1600 := hRs10.1 109; have : (0 : Int) ≤ gI s 108 ∧ gI s 108 ≤ 1600 := hRs.1 108; have : (0 : Int) ≤ gI s 109 ∧ gI s 109 ≤ 1600 := hRs.1 109; have : (0 : Int) ≤ gI s 107 ∧ gI s 107 ≤ 4 := hRs.1 107; have : (0 : Int) ≤ gI qr5s 100 ∧ gI qr5s 100 ≤ 5 := hRqr5s.1 100; have : (0 : Int) ≤ gI s 100 ∧ gI s 100 ≤ 5 := hRs.1 100; omega⟩
            · skip
              refine wp_rg (by have : (0 : Int) ≤ gI s10 100 ∧ gI s10 100 ≤ 5 := hRs10.1 100; have : (0 : Int) ≤ gI s 100 ∧ gI s 100 ≤ 5 := hRs.1 100; have : (0 : Int) ≤ gI s10 108 ∧ gI s10 108 ≤ 1600 := hRs10.1 108; have : (0 : Int) ≤ gI s10 109 ∧ gI s10 109 ≤ 1600 := hRs10.1 109; have : (0 : Int) ≤ gI s 108 ∧ gI s 108 ≤ 1600 := hRs.1 108; have : (0 : Int) ≤ gI s 109 ∧ gI s 109 ≤ 1600 := hRs.1 109; have : (0 : Int) ≤ gI s 107 ∧ gI s 107 ≤ 4 := hRs.1 107; omega) ?_
              refine wp_rg (by have : (0 : Int) ≤ gI s10 100 ∧ gI s10 100 ≤ 5 := hRs10.1 100; have : (0 : Int) ≤ gI s 100 ∧ gI s 100 ≤ 5 := hRs.1 100; have : (0 : Int) ≤ gI s10 108 ∧ gI s10 108 ≤ 1600 := hRs10.1 108; have : (0 : Int) ≤ gI s10 109 ∧ gI s10 109 ≤ 1600 := hRs10.1 109; have : (0 : Int) ≤ gI s 108 ∧ gI s 108 ≤ 1600 := hRs.1 108; have : (0 : Int) ≤ gI s 109 ∧ gI s 109 ≤ 1600 := hRs.1 109; have : (0 : Int) ≤ gI s 107 ∧ gI s 107 ≤ 4 := hRs.1 107; omega) ?_
              refine wp_if (fun c5 => ?_) (fun c5 => ?_)
              · skip
                refine wp_bn (w_x6_advance hRs10) (fun s21 es21 hs21 => ?_)
                have Fs21 := fr_x6_advance es21
                have hRs21 := hs21
                exact wp_some ⟨hRs21, by show p0 ≤ x8 ∧ x8 ≤ p1; have : (0 : Int) ≤ gI s10 100 ∧ gI s10 100 ≤ 5 := hRs10.1 100; have : (0 : Int) ≤ gI s 100 ∧ gI s 100 ≤ 5 := hRs.1 100; have : (0 : Int) ≤ gI s10 108 ∧ gI s10 108 ≤ 1600 := hRs10.1 108; have : (0 : Int) ≤ gI s10 109 ∧ gI s10 109 ≤ 1600 := hRs10.1 109; have : (0 : Int) ≤ gI s 108 ∧ gI s 108 ≤ 1600 := hRs.1 108; have : (0 : Int) ≤ gI s 109 ∧ gI s 109 ≤ 1600 := hRs.1 109; have : (0 : Int) ≤ gI s 107 ∧ gI s 107 ≤ 4 := hRs.1 107; omega, by show gI s 100 ≠ 0 → gI s21 100 ≠ 0; have : (0 : Int) ≤ gI s10 100 ∧ gI s10 100 ≤ 5 := hRs10.1 100; have : (0 : Int) ≤ gI s10 108 ∧ gI s10 108 ≤ 1600 := hRs10.1 108; have : (0 : Int) ≤ gI s10 109 ∧ gI s10 109 ≤ 1600 := hRs10.1 109; have : (0 : Int) ≤ gI s 108 ∧ gI s 108 ≤ 1600 := hRs.1 108; have : (0 : Int) ≤ gI s 109 ∧ gI s 109 ≤ 1600 := hRs.1 109; have : (0 : Int) ≤ gI s 107 ∧ gI s 107 ≤ 4 := hRs.1 107; have : gI s21 100 = gI s10 100 := Fs21.1 100 (by decide); have : (0 : Int) ≤ gI s 100 ∧ gI s 100 ≤ 5 := hRs.1 100; omega⟩
              · skip
                unfold m_x6_expectNumber_J98
                refine wp_bn (w_x6_fail hRs10 (by show 1 ≤ (2 : Int) ∧ (2 : Int) ≤ 5; have : (0 : Int) ≤ gI s10 100 ∧ gI s10 100 ≤ 5 := hRs10.1 100; have : (0 : Int) ≤ gI s 100 ∧ gI s 100 ≤ 5 := hRs.1 100; have : (0 : Int) ≤ gI s10 108 ∧ gI s10 108 ≤ 1600 := hRs10.1 108; have : (0 : Int) ≤ gI s10 109 ∧ gI s10 109 ≤ 1600 := hRs10.1 109; have : (0 : Int) ≤ gI s 108 ∧ gI s 108 ≤ 1600 := hRs.1 108; have : (0 : Int) ≤ gI s 109 ∧ gI s 109 ≤ 1600 := hRs.1 109; have : (0 : Int) ≤ gI s 107 ∧ gI s 107 ≤ 4 := hRs.1 107; omega) (by show R2 (gI s10 108); have : (0 : Int) ≤ gI s10 100 ∧ gI s10 100 ≤ 5 := hRs10.1 100; have : (0 : Int) ≤ gI s 100 ∧ gI s 100 ≤ 5 := hRs.1 100; have : (0 : Int) ≤ gI s10 109 ∧ gI s10 109 ≤ 1600 := hRs10.1 109; have : (0 : Int) ≤ gI s 108 ∧ gI s 108 ≤ 1600 := hRs.1 108; have : (0 : Int) ≤ gI s 109 ∧ gI s 109 ≤ 1600 := hRs.1 109; have : (0 : Int) ≤ gI s 107 ∧ gI s 107 ≤ 4 := hRs.1 107; have : (0 : Int) ≤ gI s10 108 ∧ gI s10 108 ≤ 1600 := hRs10.1 108; omega)) (fun qqr5 eqr5s hqr5s => ?_)
                obtain ⟨qr5r, qr5s⟩ := qqr5
                dsimp only at eqr5s hqr5s ⊢
                have Fqr5s := fr_x6_fail eqr5s
                obtain ⟨hRqr5s, hqr5s_0, hqr5s_1⟩ := hqr5s
                have hqr5s_0 : qr5r = 0 := hqr5s_0
                have hqr5s_1 : gI qr5s 100 ≠ 0 := hqr5s_1
                exact wp_some ⟨hRqr5s, by show p0 ≤ x6 ∧ x6 ≤ p1; have : (0 : Int) ≤ gI qr5s 100 ∧ gI qr5s 100 ≤ 5 := hRqr5s.1 100; have : (0 : Int) ≤ gI s10 100 ∧ gI s10 100 ≤ 5 := hRs10.1 100; have : (0 : Int) ≤ gI s 100 ∧ gI s 100 ≤ 5 := hRs.1 100; have : (0 : Int) ≤ gI s10 108 ∧ gI s10 108 ≤ 1600 := hRs10.1 108; have : (0 : Int) ≤ gI s10 109 ∧ gI s10 109 ≤ 1600 := hRs10.1 109; have : (0 : Int) ≤ gI s 108 ∧ gI s 108 ≤ 1600 := hRs.1 108; have : (0 : Int) ≤ gI s 109 ∧ gI s 109 ≤ 1600 := hRs.1 109; have : (0 : Int) ≤ gI s 107 ∧ gI s 107 ≤ 4 := hRs.1 107; omega, by show gI s 100 ≠ 0 → gI qr5s 100 ≠ 0; have : (0 : Int) ≤ gI s10 100 ∧ gI s10 100 ≤ 5 := hRs10.1 100; have : (0 : Int) ≤ gI s10 108 ∧ gI s10 108 ≤ 1600 := hRs10.1 108; have : (0 : Int) ≤ gI s10 109 ∧ gI s10 109 ≤ 1600 := hRs10.1 109; have : (0 : Int) ≤ gI s 108 ∧ gI s 108 ≤ 1600 := hRs.1 108; have : (0 : Int) ≤ gI s 109 ∧ gI s 109 ≤ 1600 := hRs.1 109; have : (0 : Int) ≤ gI s 107 ∧ gI s 107 ≤ 4 := hRs.1 107; have : (0 : Int) ≤ gI qr5s 100 ∧ gI qr5s 100 ≤ 5 := hRqr5s.1 100; have : (0 : Int) ≤ gI s 100 ∧ gI s 100 ≤ 5 := hRs.1 100; omega⟩
          · skip
            refine wp_bn (w_x9_at hRs10 (by show R2 x9; have : (0 : Int) ≤ gI s10 100 ∧ gI s10 100 ≤ 5 := hRs10.1 100; have : (0 : Int) ≤ gI s 100 ∧ gI s 100 ≤ 5 := hRs.1 100; have : (0 : Int) ≤ gI s10 108 ∧ gI s10 108 ≤ 1600 := hRs10.1 108; have : (0 : Int) ≤ gI s10 109 ∧ gI s10 109 ≤ 1600 := hRs10.1 109; have : (0 : Int) ≤ gI s 108 ∧ gI s 108 ≤ 1600 := hRs.1 108; have : (0 : Int) ≤ gI s 109 ∧ gI s 109 ≤ 1600 := hRs.1 109; have : (0 : Int) ≤ gI s 107 ∧ gI s 107 ≤ 4 := hRs.1 107; omega)) (fun r23 er23 hr23 => ?_)
            obtain ⟨hr23_0, hr23_1⟩ := hr23
            have hr23_0 : (-1) ≤ r23 ∧ r23 ≤ 255 := hr23_0
            have hr23_1 : r23 ≠ -1 → 0 ≤ x9 ∧ x9 < gI s10 61 := hr23_1
            exact ih55 x6 x7 (((x8 * 10) + r23) - 48) (x9 + 1) s10 hRs10 (by show x6 = p0 ∧ x7 = p1; have : (0 : Int) ≤ gI s10 61 ∧ gI s10 61 ≤ 1600 := hRs10.1 61; have : (0 : Int) ≤ gI s10 100 ∧ gI s10 100 ≤ 5 := hRs10.1 100; have : (0 : Int) ≤ gI s 100 ∧ gI s 100 ≤ 5 := hRs.1 100; have : (0 : Int) ≤ gI s10 108 ∧ gI s10 108 ≤ 1600 := hRs10.1 108; have : (0 : Int) ≤ gI s10 109 ∧ gI s10 109 ≤ 1600 := hRs10.1 109; have : (0 : Int) ≤ gI s 108 ∧ gI s 108 ≤ 1600 := hRs.1 108; have : (0 : Int) ≤ gI s 109 ∧ gI s 109 ≤ 1600 := hRs.1 109; have : (0 : Int) ≤ gI s 107 ∧ gI s 107 ≤ 4 := hRs.1 107; omega) (by show gI s10 109 - gI s10 108 ≤ 4 ∧ gI s10 108 ≤ (x9 + 1) ∧ ((x9 + 1) ≤ gI s10 108 ∨ (x9 + 1) ≤ gI s10 109); have : (0 : Int) ≤ gI s10 61 ∧ gI s10 61 ≤ 1600 := hRs10.1 61; have : (0 : Int) ≤ gI s10 100 ∧ gI s10 100 ≤ 5 := hRs10.1 100; have : (0 : Int) ≤ gI s 100 ∧ gI s 100 ≤ 5 := hRs.1 100; have : (0 : Int) ≤ gI s 108 ∧ gI s 108 ≤ 1600 := hRs.1 108; have : (0 : Int) ≤ gI s 109 ∧ gI s 109 ≤ 1600 := hRs.1 109; have : (0 : Int) ≤ gI s 107 ∧ gI s 107 ≤ 4 := hRs.1 107; have : (0 : Int) ≤ gI s10 108 ∧ gI s10 108 ≤ 1600 := hRs10.1 108; have : (0 : Int) ≤ gI s10 109 ∧ gI s10 109 ≤ 1600 := hRs10.1 109; omega) (by show ((x9 + 1) = gI s10 108 ∧ (((x8 * 10) + r23) - 48) = 0) ∨ ((x9 + 1) = gI s10 108 + 1 ∧ (-50) ≤ (((x8 * 10) + r23) - 48) ∧ (((x8 * 10) + r23) - 48) ≤ 300) ∨ ((x9 + 1) = gI s10 108 + 2 ∧ (-600) ≤ (((x8 * 10) + r23) - 48) ∧ (((x8 * 10) + r23) - 48) ≤ 4000) ∨ ((x9 + 1) = gI s10 108 + 3 ∧ (-7000) ≤ (((x8 * 10) + r23) - 48) ∧ (((x8 * 10) + r23) - 48) ≤ 50000) ∨ (4 ≤ (x9 + 1) - gI s10 108 ∧ (-80000) ≤ (((x8 * 10) + r23) - 48) ∧ (((x8 * 10) + r23) - 48) ≤ 600000); have : (0 : Int) ≤ gI s10 61 ∧ gI s10 61 ≤ 1600 := hRs10.1 61; have : (0 : Int) ≤ gI s10 100 ∧ gI s10 100 ≤ 5 := hRs10.1 100; have : (0 : Int) ≤ gI s 100 ∧ gI s 100 ≤ 5 := hRs.1 100; have : (0 : Int) ≤ gI s10 109 ∧ gI s10 109 ≤ 1600 := hRs10.1 109; have : (0 : Int) ≤ gI s 108 ∧ gI s 108 ≤ 1600 := hRs.1 108; have : (0 : Int) ≤ gI s 109 ∧ gI s 109 ≤ 1600 := hRs.1 109; have : (0 : Int) ≤ gI s 107 ∧ gI s 107 ≤ 4 := hRs.1 107; have : (0 : Int) ≤ gI s10 108 ∧ gI s10 108 ≤ 1600 := hRs10.1 108; omega) (by show gI s 100 ≠ 0 → gI s10 100 ≠ 0; have : (0 : Int) ≤ gI s10 61 ∧ gI s10 61 ≤ 1600 := hRs10.1 61; have : (0 : Int) ≤ gI s10 108 ∧ gI s10 108 ≤ 1600 := hRs10.1 108; have : (0 : Int) ≤ gI s10 109 ∧ gI s10 109 ≤ 1600 := hRs10.1 109; have : (0 : Int) ≤ gI s 108 ∧ gI s 108 ≤ 1600 := hRs.1 108; have : (0 : Int) ≤ gI s 109 ∧ gI s 109 ≤ 1600 := hRs.1 109; have : (0 : Int) ≤ gI s 107 ∧ gI s 107 ≤ 4 := hRs.1 107; have : (0 : Int) ≤ gI s10 100 ∧ gI s10 100 ≤ 5 := hRs10.1 100; have : (0 : Int) ≤ gI s 100 ∧ gI s 100 ≤ 5 := hRs.1 100; omega) (by have : (0 : Int) ≤ gI s10 61 ∧ gI s10 61 ≤ 1600 := hRs10.1 61; have : (0 : Int) ≤ gI s10 100 ∧ gI s10 100 ≤ 5 := hRs10.1 100; have : (0 : Int) ≤ gI s 100 ∧ gI s 100 ≤ 5 := hRs.1 100; have : (0 : Int) ≤ gI s10 108 ∧ gI s10 108 ≤ 1600 := hRs10.1 108; have : (0 : Int) ≤ gI s10 109 ∧ gI s10 109 ≤ 1600 := hRs10.1 109; have : (0 : Int) ≤ gI s 108 ∧ gI s 108 ≤ 1600 := hRs.1 108; have : (0 : Int) ≤ gI s 109 ∧ gI s 109 ≤ 1600 := hRs.1 109; have : (0 : Int) ≤ gI s 107 ∧ gI s 107 ≤ 4 := hRs.1 107; omega)
      exact L55 FU p0 p1 0 (gI s 108) s hRs (by show p0 = p0 ∧ p1 = p1; have : (0 : Int) ≤ gI s 108 ∧ gI s 108 ≤ 1600 := hRs.1 108; have : (0 : Int) ≤ gI s 109 ∧ gI s 109 ≤ 1600 := hRs.1 109; have : (0 : Int) ≤ gI s 107 ∧ gI s 107 ≤ 4 := hRs.1 107; omega) (by show gI s 109 - gI s 108 ≤ 4 ∧ gI s 108 ≤ (gI s 108) ∧ ((gI s 108) ≤ gI s 108 ∨ (gI s 108) ≤ gI s 109); have : (0 : Int) ≤ gI s 107 ∧ gI s 107 ≤ 4 := hRs.1 107; have : (0 : Int) ≤ gI s 108 ∧ gI s 108 ≤ 1600 := hRs.1 108; have : (0 : Int) ≤ gI s 109 ∧ gI s 109 ≤ 1600 := hRs.1 109; omega) (by show ((gI s 108) = gI s 108 ∧ (0 : Int) = 0) ∨ ((gI s 108) = gI s 108 + 1 ∧ (-50) ≤ (0 : Int) ∧ (0 : Int) ≤ 300) ∨ ((gI s 108) = gI s 108 + 2 ∧ (-600) ≤ (0 : Int) ∧ (0 : Int) ≤ 4000) ∨ ((gI s 108) = gI s 108 + 3 ∧ (-7000) ≤ (0 : Int) ∧ (0 : Int) ≤ 50000) ∨ (4 ≤ (gI s 108) - gI s 108 ∧ (-80000) ≤ (0 : Int) ∧ (0 : Int) ≤ 600000); have : (0 : Int) ≤ gI s 109 ∧ gI s 109 ≤ 1600 := hRs.1 109; have : (0 : Int) ≤ gI s 107 ∧ gI s 107 ≤ 4 := hRs.1 107; have : (0 : Int) ≤ gI s 108 ∧ gI s 108 ≤ 1600 := hRs.1 108; omega) (by show gI s 100 ≠ 0 → gI s 100 ≠ 0; have : (0 : Int) ≤ gI s 108 ∧ gI s 108 ≤ 1600 := hRs.1 108; have : (0 : Int) ≤ gI s 109 ∧ gI s 109 ≤ 1600 := hRs.1 109; have : (0 : Int) ≤ gI s 107 ∧ gI s 107 ≤ 4 := hRs.1 107; have : (0 : Int) ≤ gI s 100 ∧ gI s 100 ≤ 5 := hRs.1 100; omega) (by have := FU_big; have := FU_big2; have : (0 : Int) ≤ gI s 109 ∧ gI s 109 ≤ 1600 := hRs.1 109; have : (0 : Int) ≤ gI s 107 ∧ gI s 107 ≤ 4 := hRs.1 107; have : (0 : Int) ≤ gI s 108 ∧ gI s 108 ≤ 1600 := hRs.1 108; omega)
    · skip
      refine wp_bn (w_x6_fail hRs (by show 1 ≤ (1 : Int) ∧ (1 : Int) ≤ 5; have : (0 : Int) ≤ gI s 108 ∧ gI s 108 ≤ 1600 := hRs.1 108; have : (0 : Int) ≤ gI s 109 ∧ gI s 109 ≤ 1600 := hRs.1 109; have : (0 : Int) ≤ gI s 107 ∧ gI s 107 ≤ 4 := hRs.1 107; omega) (by show R2 ((gI s 108) + 4); have : (0 : Int) ≤ gI s 109 ∧ gI s 109 ≤ 1600 := hRs.1 109; have : (0 : Int) ≤ gI s 107 ∧ gI s 107 ≤ 4 := hRs.1 107; have : (0 : Int) ≤ gI s 108 ∧ gI s 108 ≤ 1600 := hRs.1 108; omega)) (fun qqr30 eqr30s hqr30s => ?_)
      obtain ⟨qr30r, qr30s⟩ := qqr30
      dsimp only at eqr30s hqr30s ⊢
      have Fqr30s := fr_x6_fail eqr30s
      obtain ⟨hRqr30s, hqr30s_0, hqr30s_1⟩ := hqr30s
      have hqr30s_0 : qr30r = 0 := hqr30s_0
      have hqr30s_1 : gI qr30s 100 ≠ 0 := hqr30s_1
      exact wp_some ⟨hRqr30s, by show p0 ≤ p0 ∧ p0 ≤ p1; have : (0 : Int) ≤ gI qr30s 100 ∧ gI qr30s 100 ≤ 5 := hRqr30s.1 100; have : (0 : Int) ≤ gI s 108 ∧ gI s 108 ≤ 1600 := hRs.1 108; have : (0 : Int) ≤ gI s 109 ∧ gI s 109 ≤ 1600 := hRs.1 109; have : (0 : Int) ≤ gI s 107 ∧ gI s 107 ≤ 4 := hRs.1 107; omega, by show gI s 100 ≠ 0 → gI qr30s 100 ≠ 0; have : (0 : Int) ≤ gI s 108 ∧ gI s 108 ≤ 1600 := hRs.1 108; have : (0 : Int) ≤ gI s 109 ∧ gI s 109 ≤ 1600 := hRs.1 109; have : (0 : Int) ≤ gI s 107 ∧ gI s 107 ≤ 4 := hRs.1 107; have : (0 : Int) ≤ gI qr30s 100 ∧ gI qr30s 100 ≤ 5 := hRqr30s.1 100; have : (0 : Int) ≤ gI s 100 ∧ gI s 100 ≤ 5 := hRs.1 100; omega⟩
  · skip
    refine wp_bn (w_x6_fail hRs (by show 1 ≤ (1 : Int) ∧ (1 : Int) ≤ 5; have : (0 : Int) ≤ gI s 107 ∧ gI s 107 ≤ 4 := hRs.1 107; omega) (by show R2 (gI s 108); have : (0 : Int) ≤ gI s 107 ∧ gI s 107 ≤ 4 := hRs.1 107; have : (0 : Int) ≤ gI s 108 ∧ gI s 108 ≤ 1600 := hRs.1 108; omega)) (fun qqr33 eqr33s hqr33s => ?_)
    obtain ⟨qr33r, qr33s⟩ := qqr33
    dsimp only at eqr33s hqr33s ⊢
    have Fqr33s := fr_x6_fail eqr33s
    obtain ⟨hRqr33s, hqr33s_0, hqr33s_1⟩ := hqr33s
    have hqr33s_0 : qr33r = 0 := hqr33s_0
    have hqr33s_1 : gI qr33s 100 ≠ 0 := hqr33s_1
    exact wp_some ⟨hRqr33s, by show p0 ≤ p0 ∧ p0 ≤ p1; have : (0 : Int) ≤ gI qr33s 100 ∧ gI qr33s 100 ≤ 5 := hRqr33s.1 100; have : (0 : Int) ≤ gI s 107 ∧ gI s 107 ≤ 4 := hRs.1 107; omega, by show gI s 100 ≠ 0 → gI qr33s 100 ≠ 0; have : (0 : Int) ≤ gI s 107 ∧ gI s 107 ≤ 4 := hRs.1 107; have : (0 : Int) ≤ gI qr33s 100 ∧ gI qr33s 100 ≤ 5 := hRqr33s.1 100; have : (0 : Int) ≤ gI s 100 ∧ gI s 100 ≤ 5 := hRs.1 100; omega⟩
