set_option maxHeartbeats 1000000 in
theorem w_x12_put {p0 : Int} {p1 : Int} {p2 : Int} {s : MS} (hRs : Rr s) (hp0 : R2 p0) (hp1 : R2 p1) (hp2 : R2 p2) (hp3 : JI s) : wp (m_x12_put p0 p1 p2 s) (fun q => (Rr q.2) ∧ (JI q.2) ∧ (gI q.2 1 = gI s 1)) := by
  have hpJ := hp3
  unfold m_x12_put
  refine wp_rg (by omega) ?_
  refine wp_bn (wv_x12_isVolume hRs (by show R8 p0; omega)) (fun r7 er7 hr7 => ?_)
  obtain ⟨hr7_0, hr7_1⟩ := hr7
  have hr7_0 : (r7 = 1 ∧ (0 ≤ p0 ∧ p0 < 8) ∧ gI s 47 ≠ 0 ∧ gA s 49 p0.toNat ≠ 255) ∨ r7 = 0 := hr7_0
  have hr7_1 : 0 ≤ p0 ∧ p0 < 8 → r7 = ivol s p0.toNat := hr7_1
  refine wp_rg (by have : (0 : Int) ≤ gI s 47 ∧ gI s 47 ≤ 1 := hRs.1 47; omega) ?_
  refine wp_if (fun c1 => ?_) (fun c1 => ?_)
  · skip
    unfold m_x12_put_J33
    refine wp_bn (w_x12_refuses hRs (by show 0 ≤ (2 : Int) ∧ (2 : Int) < 6; have : (0 : Int) ≤ gI s 47 ∧ gI s 47 ≤ 1 := hRs.1 47; omega)) (fun qqr4 eqr4s hqr4s => ?_)
    obtain ⟨qr4r, qr4s⟩ := qqr4
    dsimp only at eqr4s hqr4s ⊢
    have Fqr4s : F_x12_refuses s qr4s := fr_x12_refuses eqr4s
    obtain ⟨hRqr4s, hqr4s_0⟩ := hqr4s
    have hqr4s_0 : qr4r = -1 := hqr4s_0
    exact wp_some ⟨hRqr4s, by show JI qr4s; exact (JI_eq hpJ ⟨(Fqr4s.2.1 39 (by decide)), (Fqr4s.2.1 42 (by decide)), (Fqr4s.2.1 43 (by decide)), (Fqr4s.2.1 44 (by decide))⟩ (Fqr4s.2.1 49 (by decide)) (Fqr4s.2.1 75 (by decide)) (Fqr4s.1 76 (by decide)) (Fqr4s.1 77 (by decide)) (Fqr4s.1 47 (by decide)) (Fqr4s.2.2.1 78 (by decide))), by show gI qr4s 1 = gI s 1; have : (0 : Int) ≤ gI s 47 ∧ gI s 47 ≤ 1 := hRs.1 47; have : (0 : Int) ≤ gI s 1 ∧ gI s 1 ≤ 1600 := hRs.1 1; have : gI qr4s 1 = gI s 1 := Fqr4s.1 1 (by decide); omega⟩
  · skip
    refine wp_rg (by have : (0 : Int) ≤ gI s 47 ∧ gI s 47 ≤ 1 := hRs.1 47; omega) ?_
    refine wp_bn (w_x12_isIn hRs (by show R8 p1; have : (0 : Int) ≤ gI s 47 ∧ gI s 47 ≤ 1 := hRs.1 47; omega) (by show R8 (0 : Int); have : (0 : Int) ≤ gI s 47 ∧ gI s 47 ≤ 1 := hRs.1 47; omega) (by show R8 (999 : Int); have : (0 : Int) ≤ gI s 47 ∧ gI s 47 ≤ 1 := hRs.1 47; omega)) (fun r12 er12 hr12 => ?_)
    have hr12_0 := hr12
    have hr12_0 : (r12 = 1 ∧ (0 : Int) ≤ p1 ∧ p1 ≤ (999 : Int)) ∨ (r12 = 0 ∧ (p1 < (0 : Int) ∨ (999 : Int) < p1)) := hr12_0
    refine wp_rg (by have : (0 : Int) ≤ gI s 47 ∧ gI s 47 ≤ 1 := hRs.1 47; omega) ?_
    refine wp_if (fun c2 => ?_) (fun c2 => ?_)
    · skip
      unfold m_x12_put_J33
      refine wp_bn (w_x12_refuses hRs (by show 0 ≤ (2 : Int) ∧ (2 : Int) < 6; have : (0 : Int) ≤ gI s 47 ∧ gI s 47 ≤ 1 := hRs.1 47; omega)) (fun qqr4 eqr4s hqr4s => ?_)
      obtain ⟨qr4r, qr4s⟩ := qqr4
      dsimp only at eqr4s hqr4s ⊢
      have Fqr4s : F_x12_refuses s qr4s := fr_x12_refuses eqr4s
      obtain ⟨hRqr4s, hqr4s_0⟩ := hqr4s
      have hqr4s_0 : qr4r = -1 := hqr4s_0
      exact wp_some ⟨hRqr4s, by show JI qr4s; exact (JI_eq hpJ ⟨(Fqr4s.2.1 39 (by decide)), (Fqr4s.2.1 42 (by decide)), (Fqr4s.2.1 43 (by decide)), (Fqr4s.2.1 44 (by decide))⟩ (Fqr4s.2.1 49 (by decide)) (Fqr4s.2.1 75 (by decide)) (Fqr4s.1 76 (by decide)) (Fqr4s.1 77 (by decide)) (Fqr4s.1 47 (by decide)) (Fqr4s.2.2.1 78 (by decide))), by show gI qr4s 1 = gI s 1; have : (0 : Int) ≤ gI s 47 ∧ gI s 47 ≤ 1 := hRs.1 47; have : (0 : Int) ≤ gI s 1 ∧ gI s 1 ≤ 1600 := hRs.1 1; have : gI qr4s 1 = gI s 1 := Fqr4s.1 1 (by decide); omega⟩
    · skip
      refine wp_rg (by have : (0 : Int) ≤ gI s 47 ∧ gI s 47 ≤ 1 := hRs.1 47; omega) ?_
      refine wp_bn (w_x12_isIn hRs (by show R8 p2; have : (0 : Int) ≤ gI s 47 ∧ gI s 47 ≤ 1 := hRs.1 47; omega) (by show R8 (0 : Int); have : (0 : Int) ≤ gI s 47 ∧ gI s 47 ≤ 1 := hRs.1 47; omega) (by show R8 (999 : Int); have : (0 : Int) ≤ gI s 47 ∧ gI s 47 ≤ 1 := hRs.1 47; omega)) (fun r17 er17 hr17 => ?_)
      have hr17_0 := hr17
      have hr17_0 : (r17 = 1 ∧ (0 : Int) ≤ p2 ∧ p2 ≤ (999 : Int)) ∨ (r17 = 0 ∧ (p2 < (0 : Int) ∨ (999 : Int) < p2)) := hr17_0
      refine wp_rg (by have : (0 : Int) ≤ gI s 47 ∧ gI s 47 ≤ 1 := hRs.1 47; omega) ?_
      refine wp_if (fun c3 => ?_) (fun c3 => ?_)
      · skip
        unfold m_x12_put_J33
        refine wp_bn (w_x12_refuses hRs (by show 0 ≤ (2 : Int) ∧ (2 : Int) < 6; have : (0 : Int) ≤ gI s 47 ∧ gI s 47 ≤ 1 := hRs.1 47; omega)) (fun qqr4 eqr4s hqr4s => ?_)
        obtain ⟨qr4r, qr4s⟩ := qqr4
        dsimp only at eqr4s hqr4s ⊢
        have Fqr4s : F_x12_refuses s qr4s := fr_x12_refuses eqr4s
        obtain ⟨hRqr4s, hqr4s_0⟩ := hqr4s
        have hqr4s_0 : qr4r = -1 := hqr4s_0
        exact wp_some ⟨hRqr4s, by show JI qr4s; exact (JI_eq hpJ ⟨(Fqr4s.2.1 39 (by decide)), (Fqr4s.2.1 42 (by decide)), (Fqr4s.2.1 43 (by decide)), (Fqr4s.2.1 44 (by decide))⟩ (Fqr4s.2.1 49 (by decide)) (Fqr4s.2.1 75 (by decide)) (Fqr4s.1 76 (by decide)) (Fqr4s.1 77 (by decide)) (Fqr4s.1 47 (by decide)) (Fqr4s.2.2.1 78 (by decide))), by show gI qr4s 1 = gI s 1; have : (0 : Int) ≤ gI s 47 ∧ gI s 47 ≤ 1 := hRs.1 47; have : (0 : Int) ≤ gI s 1 ∧ gI s 1 ≤ 1600 := hRs.1 1; have : gI qr4s 1 = gI s 1 := Fqr4s.1 1 (by decide); omega⟩
      · skip
        refine wp_bn (w_x12_clearsTouched hRs) (fun s21 es21 hs21 => ?_)
        have Fs21 : F_x12_clearsTouched s s21 := fr_x12_clearsTouched es21
        have hRs21 := hs21
        have kt : gI s 47 ≠ 0 := by omega
        have kG := JI_GA hpJ kt
        have G21 : GA s21 := GA_eq kG ⟨(Fs21.2.1 39 (by decide)), (Fs21.2.1 42 (by decide)), (Fs21.2.1 43 (by decide)), (Fs21.2.1 44 (by decide))⟩ (Fs21.2.1 49 (by decide)) (Fs21.2.1 75 (by decide)) (Fs21.1 76 (by decide)) (Fs21.1 77 (by decide))
        have kb := kG.1.1.2 p0.toNat (by omega)
        refine wp_bn (w_x12_canBe hRs21 (by show (2 : Int) = 2 ∨ (2 : Int) = 3; have : (0 : Int) ≤ gI s 47 ∧ gI s 47 ≤ 1 := hRs.1 47; omega) (by show 0 ≤ p0 ∧ p0 < 8; have : (0 : Int) ≤ gI s 47 ∧ gI s 47 ≤ 1 := hRs.1 47; omega) (G21.1) (G21.2.1) (G21.2.2.1) (G21.2.2.2) (by rw [(Fs21.2.1 49 (by decide))]; omega) (by show (2 : Int) = 2 → (0 ≤ p1 ∧ p1 ≤ 999) ∧ (0 ≤ p2 ∧ p2 ≤ 999); have : (0 : Int) ≤ gI s 47 ∧ gI s 47 ≤ 1 := hRs.1 47; omega) (by show R2 p1; have : (0 : Int) ≤ gI s 47 ∧ gI s 47 ≤ 1 := hRs.1 47; omega) (by show R2 p2; have : (0 : Int) ≤ gI s 47 ∧ gI s 47 ≤ 1 := hRs.1 47; omega)) (fun qqr24 eqr24s hqr24s => ?_)
        obtain ⟨qr24r, qr24s⟩ := qqr24
        dsimp only at eqr24s hqr24s ⊢
        have Fqr24s : F_x12_canBe s21 qr24s := fr_x12_canBe eqr24s
        obtain ⟨hRqr24s, hqr24s_0, hqr24s_1, hqr24s_2, hqr24s_3, hqr24s_4⟩ := hqr24s
        have hqr24s_0 : qr24r = 0 ∨ qr24r = 1 := hqr24s_0
        have hqr24s_1 : GN qr24s := hqr24s_1
        have hqr24s_2 : JR qr24s := hqr24s_2
        have hqr24s_3 : 0 ≤ gA qr24s 49 16 ∧ gA qr24s 49 16 ≤ 999999 := hqr24s_3
        have hqr24s_4 : 0 ≤ gA qr24s 49 785 ∧ gA qr24s 49 785 ≤ 40 := hqr24s_4
        have G24 : GA qr24s := ⟨hqr24s_1, hqr24s_2, hqr24s_3, hqr24s_4⟩
        refine wp_rg (by have : (0 : Int) ≤ gI s 47 ∧ gI s 47 ≤ 1 := hRs.1 47; omega) ?_
        refine wp_if (fun c4 => ?_) (fun c4 => ?_)
        · skip
          refine wp_bn (w_x12_refuses hRqr24s (by show 0 ≤ (2 : Int) ∧ (2 : Int) < 6; have : (0 : Int) ≤ gI s 47 ∧ gI s 47 ≤ 1 := hRs.1 47; omega)) (fun qqr33 eqr33s hqr33s => ?_)
          obtain ⟨qr33r, qr33s⟩ := qqr33
          dsimp only at eqr33s hqr33s ⊢
          have Fqr33s : F_x12_refuses qr24s qr33s := fr_x12_refuses eqr33s
          obtain ⟨hRqr33s, hqr33s_0⟩ := hqr33s
          have hqr33s_0 : qr33r = -1 := hqr33s_0
          exact wp_some ⟨hRqr33s, by show JI qr33s; exact (GA_JI hpJ kt ((Fqr33s.2.1 39 (by decide)).trans ((Fqr24s.2.1 39 (by decide)).trans (Fs21.2.1 39 (by decide)))) (by rw [(((Fqr33s.2.2.1 78 (by decide)).trans ((Fqr24s.2.2.1 78 (by decide)).trans (Fs21.2.2.1 78 (by decide)))))]; exact hpJ.2.1) ((Fqr33s.1 47 (by decide)).trans ((Fqr24s.1 47 (by decide)).trans (Fs21.1 47 (by decide)))) (GA_eq G24 ⟨(Fqr33s.2.1 39 (by decide)), (Fqr33s.2.1 42 (by decide)), (Fqr33s.2.1 43 (by decide)), (Fqr33s.2.1 44 (by decide))⟩ (Fqr33s.2.1 49 (by decide)) (Fqr33s.2.1 75 (by decide)) (Fqr33s.1 76 (by decide)) (Fqr33s.1 77 (by decide)))), by show gI qr33s 1 = gI s 1; have : (0 : Int) ≤ gI s 47 ∧ gI s 47 ≤ 1 := hRs.1 47; have : (0 : Int) ≤ gI s 1 ∧ gI s 1 ≤ 1600 := hRs.1 1; have : gI qr33s 1 = gI qr24s 1 := Fqr33s.1 1 (by decide); have : gI qr24s 1 = gI s21 1 := Fqr24s.1 1 (by decide); have : gI s21 1 = gI s 1 := Fs21.1 1 (by decide); omega⟩
        · skip
          refine wp_bn (w_x12_isKept hRqr24s (G24.1) (by show R2 (0 : Int); have : (0 : Int) ≤ gI s 47 ∧ gI s 47 ≤ 1 := hRs.1 47; omega) (by show R2 p0; have : (0 : Int) ≤ gI s 47 ∧ gI s 47 ≤ 1 := hRs.1 47; omega) (G24.2.2.1) (G24.2.2.2)) (fun s28 es28 hs28 => ?_)
          have Fs28 : F_x12_isKept qr24s s28 := fr_x12_isKept es28
          obtain ⟨hRs28, hs28_0, hs28_1, hs28_2⟩ := hs28
          have hs28_0 : ∀ i, i < 785 → i ≠ 16 → gA s28 49 i = gA qr24s 49 i := hs28_0
          have hs28_1 : 0 ≤ gA s28 49 16 ∧ gA s28 49 16 ≤ 999999 := hs28_1
          have hs28_2 : 0 ≤ gA s28 49 785 ∧ gA s28 49 785 ≤ 40 := hs28_2
          have G28 : GA s28 := GA_kept G24 ⟨(Fs28.2.1 39 (by decide)), (Fs28.2.1 42 (by decide)), (Fs28.2.1 43 (by decide)), (Fs28.2.1 44 (by decide))⟩ hs28_0 hs28_1 hs28_2 (Fs28.2.1 75 (by decide)) (Fs28.1 76 (by decide)) (Fs28.1 77 (by decide))
          refine wp_bn (w_x12_writtenMany hRs28 (by have := G28.1.2.1.1; omega)) (fun r30 er30 hr30 => ?_)
          have hr30_0 := hr30
          have hr30_0 : 0 ≤ r30 ∧ r30 ≤ 48 := hr30_0
          exact wp_some ⟨hRs28, by show JI s28; exact (GA_JI hpJ kt ((Fs28.2.1 39 (by decide)).trans ((Fqr24s.2.1 39 (by decide)).trans (Fs21.2.1 39 (by decide)))) (by rw [(((Fs28.2.2.1 78 (by decide)).trans ((Fqr24s.2.2.1 78 (by decide)).trans (Fs21.2.2.1 78 (by decide)))))]; exact hpJ.2.1) ((Fs28.1 47 (by decide)).trans ((Fqr24s.1 47 (by decide)).trans (Fs21.1 47 (by decide)))) G28), by show gI s28 1 = gI s 1; have : (0 : Int) ≤ gI s 47 ∧ gI s 47 ≤ 1 := hRs.1 47; have : (0 : Int) ≤ gI s 1 ∧ gI s 1 ≤ 1600 := hRs.1 1; have : gI s28 1 = gI qr24s 1 := Fs28.1 1 (by decide); have : gI qr24s 1 = gI s21 1 := Fqr24s.1 1 (by decide); have : gI s21 1 = gI s 1 := Fs21.1 1 (by decide); omega⟩
set_option maxHeartbeats 1000000 in
theorem w_x12_remove {p0 : Int} {p1 : Int} {s : MS} (hRs : Rr s) (hp0 : R2 p0) (hp1 : R2 p1) (hp2 : JI s) : wp (m_x12_remove p0 p1 s) (fun q => (Rr q.2) ∧ (JI q.2) ∧ (gI q.2 1 = gI s 1)) := by
  have hpJ := hp2
  unfold m_x12_remove
  refine wp_rg (by omega) ?_
  refine wp_bn (wv_x12_isVolume hRs (by show R8 p0; omega)) (fun r3 er3 hr3 => ?_)
  obtain ⟨hr3_0, hr3_1⟩ := hr3
  have hr3_0 : (r3 = 1 ∧ (0 ≤ p0 ∧ p0 < 8) ∧ gI s 47 ≠ 0 ∧ gA s 49 p0.toNat ≠ 255) ∨ r3 = 0 := hr3_0
  have hr3_1 : 0 ≤ p0 ∧ p0 < 8 → r3 = ivol s p0.toNat := hr3_1
  refine wp_rg (by have : (0 : Int) ≤ gI s 47 ∧ gI s 47 ≤ 1 := hRs.1 47; omega) ?_
  refine wp_if (fun c1 => ?_) (fun c1 => ?_)
  · skip
    refine wp_bn (w_x12_refuses hRs (by show 0 ≤ (2 : Int) ∧ (2 : Int) < 6; have : (0 : Int) ≤ gI s 47 ∧ gI s 47 ≤ 1 := hRs.1 47; omega)) (fun qqr22 eqr22s hqr22s => ?_)
    obtain ⟨qr22r, qr22s⟩ := qqr22
    dsimp only at eqr22s hqr22s ⊢
    have Fqr22s : F_x12_refuses s qr22s := fr_x12_refuses eqr22s
    obtain ⟨hRqr22s, hqr22s_0⟩ := hqr22s
    have hqr22s_0 : qr22r = -1 := hqr22s_0
    exact wp_some ⟨hRqr22s, by show JI qr22s; exact (JI_eq hpJ ⟨(Fqr22s.2.1 39 (by decide)), (Fqr22s.2.1 42 (by decide)), (Fqr22s.2.1 43 (by decide)), (Fqr22s.2.1 44 (by decide))⟩ (Fqr22s.2.1 49 (by decide)) (Fqr22s.2.1 75 (by decide)) (Fqr22s.1 76 (by decide)) (Fqr22s.1 77 (by decide)) (Fqr22s.1 47 (by decide)) (Fqr22s.2.2.1 78 (by decide))), by show gI qr22s 1 = gI s 1; have : (0 : Int) ≤ gI s 47 ∧ gI s 47 ≤ 1 := hRs.1 47; have : (0 : Int) ≤ gI s 1 ∧ gI s 1 ≤ 1600 := hRs.1 1; have : gI qr22s 1 = gI s 1 := Fqr22s.1 1 (by decide); omega⟩
  · skip
    refine wp_bn (w_x12_clearsTouched hRs) (fun s7 es7 hs7 => ?_)
    have Fs7 : F_x12_clearsTouched s s7 := fr_x12_clearsTouched es7
    have hRs7 := hs7
    have kt : gI s 47 ≠ 0 := by omega
    have kG := JI_GA hpJ kt
    have G7 : GA s7 := GA_eq kG ⟨(Fs7.2.1 39 (by decide)), (Fs7.2.1 42 (by decide)), (Fs7.2.1 43 (by decide)), (Fs7.2.1 44 (by decide))⟩ (Fs7.2.1 49 (by decide)) (Fs7.2.1 75 (by decide)) (Fs7.1 76 (by decide)) (Fs7.1 77 (by decide))
    have kb := kG.1.1.2 p0.toNat (by omega)
    refine wp_bn (w_x12_canBe hRs7 (by show (3 : Int) = 2 ∨ (3 : Int) = 3; have : (0 : Int) ≤ gI s 47 ∧ gI s 47 ≤ 1 := hRs.1 47; omega) (by show 0 ≤ p0 ∧ p0 < 8; have : (0 : Int) ≤ gI s 47 ∧ gI s 47 ≤ 1 := hRs.1 47; omega) (G7.1) (G7.2.1) (G7.2.2.1) (G7.2.2.2) (by rw [(Fs7.2.1 49 (by decide))]; omega) (fun h9 => absurd h9 (by decide)) (by show R2 p1; have : (0 : Int) ≤ gI s 47 ∧ gI s 47 ≤ 1 := hRs.1 47; omega) (by show R2 (0 : Int); have : (0 : Int) ≤ gI s 47 ∧ gI s 47 ≤ 1 := hRs.1 47; omega)) (fun qqr10 eqr10s hqr10s => ?_)
    obtain ⟨qr10r, qr10s⟩ := qqr10
    dsimp only at eqr10s hqr10s ⊢
    have Fqr10s : F_x12_canBe s7 qr10s := fr_x12_canBe eqr10s
    obtain ⟨hRqr10s, hqr10s_0, hqr10s_1, hqr10s_2, hqr10s_3, hqr10s_4⟩ := hqr10s
    have hqr10s_0 : qr10r = 0 ∨ qr10r = 1 := hqr10s_0
    have hqr10s_1 : GN qr10s := hqr10s_1
    have hqr10s_2 : JR qr10s := hqr10s_2
    have hqr10s_3 : 0 ≤ gA qr10s 49 16 ∧ gA qr10s 49 16 ≤ 999999 := hqr10s_3
    have hqr10s_4 : 0 ≤ gA qr10s 49 785 ∧ gA qr10s 49 785 ≤ 40 := hqr10s_4
    have G10 : GA qr10s := ⟨hqr10s_1, hqr10s_2, hqr10s_3, hqr10s_4⟩
    refine wp_rg (by have : (0 : Int) ≤ gI s 47 ∧ gI s 47 ≤ 1 := hRs.1 47; omega) ?_
    refine wp_if (fun c2 => ?_) (fun c2 => ?_)
    · skip
      refine wp_bn (w_x12_refuses hRqr10s (by show 0 ≤ (2 : Int) ∧ (2 : Int) < 6; have : (0 : Int) ≤ gI s 47 ∧ gI s 47 ≤ 1 := hRs.1 47; omega)) (fun qqr19 eqr19s hqr19s => ?_)
      obtain ⟨qr19r, qr19s⟩ := qqr19
      dsimp only at eqr19s hqr19s ⊢
      have Fqr19s : F_x12_refuses qr10s qr19s := fr_x12_refuses eqr19s
      obtain ⟨hRqr19s, hqr19s_0⟩ := hqr19s
      have hqr19s_0 : qr19r = -1 := hqr19s_0
      exact wp_some ⟨hRqr19s, by show JI qr19s; exact (GA_JI hpJ kt ((Fqr19s.2.1 39 (by decide)).trans ((Fqr10s.2.1 39 (by decide)).trans (Fs7.2.1 39 (by decide)))) (by rw [(((Fqr19s.2.2.1 78 (by decide)).trans ((Fqr10s.2.2.1 78 (by decide)).trans (Fs7.2.2.1 78 (by decide)))))]; exact hpJ.2.1) ((Fqr19s.1 47 (by decide)).trans ((Fqr10s.1 47 (by decide)).trans (Fs7.1 47 (by decide)))) (GA_eq G10 ⟨(Fqr19s.2.1 39 (by decide)), (Fqr19s.2.1 42 (by decide)), (Fqr19s.2.1 43 (by decide)), (Fqr19s.2.1 44 (by decide))⟩ (Fqr19s.2.1 49 (by decide)) (Fqr19s.2.1 75 (by decide)) (Fqr19s.1 76 (by decide)) (Fqr19s.1 77 (by decide)))), by show gI qr19s 1 = gI s 1; have : (0 : Int) ≤ gI s 47 ∧ gI s 47 ≤ 1 := hRs.1 47; have : (0 : Int) ≤ gI s 1 ∧ gI s 1 ≤ 1600 := hRs.1 1; have : gI qr19s 1 = gI qr10s 1 := Fqr19s.1 1 (by decide); have : gI qr10s 1 = gI s7 1 := Fqr10s.1 1 (by decide); have : gI s7 1 = gI s 1 := Fs7.1 1 (by decide); omega⟩
    · skip
      refine wp_bn (w_x12_isKept hRqr10s (G10.1) (by show R2 (1 : Int); have : (0 : Int) ≤ gI s 47 ∧ gI s 47 ≤ 1 := hRs.1 47; omega) (by show R2 p0; have : (0 : Int) ≤ gI s 47 ∧ gI s 47 ≤ 1 := hRs.1 47; omega) (G10.2.2.1) (G10.2.2.2)) (fun s14 es14 hs14 => ?_)
      have Fs14 : F_x12_isKept qr10s s14 := fr_x12_isKept es14
      obtain ⟨hRs14, hs14_0, hs14_1, hs14_2⟩ := hs14
      have hs14_0 : ∀ i, i < 785 → i ≠ 16 → gA s14 49 i = gA qr10s 49 i := hs14_0
      have hs14_1 : 0 ≤ gA s14 49 16 ∧ gA s14 49 16 ≤ 999999 := hs14_1
      have hs14_2 : 0 ≤ gA s14 49 785 ∧ gA s14 49 785 ≤ 40 := hs14_2
      have G14 : GA s14 := GA_kept G10 ⟨(Fs14.2.1 39 (by decide)), (Fs14.2.1 42 (by decide)), (Fs14.2.1 43 (by decide)), (Fs14.2.1 44 (by decide))⟩ hs14_0 hs14_1 hs14_2 (Fs14.2.1 75 (by decide)) (Fs14.1 76 (by decide)) (Fs14.1 77 (by decide))
      refine wp_bn (w_x12_writtenMany hRs14 (by have := G14.1.2.1.1; omega)) (fun r16 er16 hr16 => ?_)
      have hr16_0 := hr16
      have hr16_0 : 0 ≤ r16 ∧ r16 ≤ 48 := hr16_0
      exact wp_some ⟨hRs14, by show JI s14; exact (GA_JI hpJ kt ((Fs14.2.1 39 (by decide)).trans ((Fqr10s.2.1 39 (by decide)).trans (Fs7.2.1 39 (by decide)))) (by rw [(((Fs14.2.2.1 78 (by decide)).trans ((Fqr10s.2.2.1 78 (by decide)).trans (Fs7.2.2.1 78 (by decide)))))]; exact hpJ.2.1) ((Fs14.1 47 (by decide)).trans ((Fqr10s.1 47 (by decide)).trans (Fs7.1 47 (by decide)))) G14), by show gI s14 1 = gI s 1; have : (0 : Int) ≤ gI s 47 ∧ gI s 47 ≤ 1 := hRs.1 47; have : (0 : Int) ≤ gI s 1 ∧ gI s 1 ≤ 1600 := hRs.1 1; have : gI s14 1 = gI qr10s 1 := Fs14.1 1 (by decide); have : gI qr10s 1 = gI s7 1 := Fqr10s.1 1 (by decide); have : gI s7 1 = gI s 1 := Fs7.1 1 (by decide); omega⟩
set_option maxHeartbeats 1000000 in
theorem w_x12_copy {p0 : Int} {s : MS} (hRs : Rr s) (hp0 : R2 p0) (hp1 : JI s) : wp (m_x12_copy p0 s) (fun q => (Rr q.2) ∧ (JI q.2) ∧ (gI q.2 1 = gI s 1)) := by
  have hpJ := hp1
  unfold m_x12_copy
  refine wp_bn (w_x12_freeNumber hRs) (fun r6 er6 hr6 => ?_)
  have hr6_0 := hr6
  have hr6_0 : (0 ≤ r6 ∧ r6 ≤ 8) ∧ (r6 < 8 → gA s 49 r6.toNat = 255) := hr6_0
  refine wp_rg (by omega) ?_
  refine wp_bn (wv_x12_isVolume hRs (by show R8 p0; omega)) (fun r9 er9 hr9 => ?_)
  obtain ⟨hr9_0, hr9_1⟩ := hr9
  have hr9_0 : (r9 = 1 ∧ (0 ≤ p0 ∧ p0 < 8) ∧ gI s 47 ≠ 0 ∧ gA s 49 p0.toNat ≠ 255) ∨ r9 = 0 := hr9_0
  have hr9_1 : 0 ≤ p0 ∧ p0 < 8 → r9 = ivol s p0.toNat := hr9_1
  refine wp_rg (by have : (0 : Int) ≤ gI s 47 ∧ gI s 47 ≤ 1 := hRs.1 47; omega) ?_
  refine wp_if (fun c1 => ?_) (fun c1 => ?_)
  · skip
    unfold m_x12_copy_J20
    refine wp_bn (w_x12_refuses hRs (by show 0 ≤ (2 : Int) ∧ (2 : Int) < 6; have : (0 : Int) ≤ gI s 47 ∧ gI s 47 ≤ 1 := hRs.1 47; omega)) (fun qqr4 eqr4s hqr4s => ?_)
    obtain ⟨qr4r, qr4s⟩ := qqr4
    dsimp only at eqr4s hqr4s ⊢
    have Fqr4s : F_x12_refuses s qr4s := fr_x12_refuses eqr4s
    obtain ⟨hRqr4s, hqr4s_0⟩ := hqr4s
    have hqr4s_0 : qr4r = -1 := hqr4s_0
    exact wp_some ⟨hRqr4s, by show JI qr4s; exact (JI_eq hpJ ⟨(Fqr4s.2.1 39 (by decide)), (Fqr4s.2.1 42 (by decide)), (Fqr4s.2.1 43 (by decide)), (Fqr4s.2.1 44 (by decide))⟩ (Fqr4s.2.1 49 (by decide)) (Fqr4s.2.1 75 (by decide)) (Fqr4s.1 76 (by decide)) (Fqr4s.1 77 (by decide)) (Fqr4s.1 47 (by decide)) (Fqr4s.2.2.1 78 (by decide))), by show gI qr4s 1 = gI s 1; have : (0 : Int) ≤ gI s 47 ∧ gI s 47 ≤ 1 := hRs.1 47; have : (0 : Int) ≤ gI s 1 ∧ gI s 1 ≤ 1600 := hRs.1 1; have : gI qr4s 1 = gI s 1 := Fqr4s.1 1 (by decide); omega⟩
  · skip
    refine wp_rg (by have : (0 : Int) ≤ gI s 47 ∧ gI s 47 ≤ 1 := hRs.1 47; omega) ?_
    refine wp_if (fun c2 => ?_) (fun c2 => ?_)
    · skip
      unfold m_x12_copy_J20
      refine wp_bn (w_x12_refuses hRs (by show 0 ≤ (2 : Int) ∧ (2 : Int) < 6; have : (0 : Int) ≤ gI s 47 ∧ gI s 47 ≤ 1 := hRs.1 47; omega)) (fun qqr4 eqr4s hqr4s => ?_)
      obtain ⟨qr4r, qr4s⟩ := qqr4
      dsimp only at eqr4s hqr4s ⊢
      have Fqr4s : F_x12_refuses s qr4s := fr_x12_refuses eqr4s
      obtain ⟨hRqr4s, hqr4s_0⟩ := hqr4s
      have hqr4s_0 : qr4r = -1 := hqr4s_0
      exact wp_some ⟨hRqr4s, by show JI qr4s; exact (JI_eq hpJ ⟨(Fqr4s.2.1 39 (by decide)), (Fqr4s.2.1 42 (by decide)), (Fqr4s.2.1 43 (by decide)), (Fqr4s.2.1 44 (by decide))⟩ (Fqr4s.2.1 49 (by decide)) (Fqr4s.2.1 75 (by decide)) (Fqr4s.1 76 (by decide)) (Fqr4s.1 77 (by decide)) (Fqr4s.1 47 (by decide)) (Fqr4s.2.2.1 78 (by decide))), by show gI qr4s 1 = gI s 1; have : (0 : Int) ≤ gI s 47 ∧ gI s 47 ≤ 1 := hRs.1 47; have : (0 : Int) ≤ gI s 1 ∧ gI s 1 ≤ 1600 := hRs.1 1; have : gI qr4s 1 = gI s 1 := Fqr4s.1 1 (by decide); omega⟩
    · skip
      refine wp_bn (w_x12_keeps hRs) (fun s15 es15 hs15 => ?_)
      have Fs15 : F_x12_keeps s s15 := fr_x12_keeps es15
      obtain ⟨hRs15, hs15_0, hs15_1, hs15_2, hs15_3⟩ := hs15
      have hs15_0 : gI s15 77 = (gI s 77 + 1) % 20 := hs15_0
      have hs15_1 : gI s15 76 ≤ gI s 76 + 1 ∧ gI s15 76 ≤ 20 := hs15_1
      have hs15_2 : ∀ j, j < 906 → gA s15 75 (906 * (gI s15 77).toNat + j) = gA s 49 j := hs15_2
      have hs15_3 : ∀ j, j < 906 * (gI s15 77).toNat ∨ 906 * (gI s15 77).toNat + 906 ≤ j → gA s15 75 j = gA s 75 j := hs15_3
      have kt : gI s 47 ≠ 0 := by omega
      have kG := JI_GA hpJ kt
      have Gs15 : GA s15 := GA_keeps hRs kG ⟨(Fs15.2.1 39 (by decide)), (Fs15.2.1 42 (by decide)), (Fs15.2.1 43 (by decide)), (Fs15.2.1 44 (by decide))⟩ (Fs15.2.1 49 (by decide)) hs15_0 hs15_1 hs15_2 hs15_3
      refine wp_bn (w_x12_clearsTouched hRs15) (fun s17 es17 hs17 => ?_)
      have Fs17 : F_x12_clearsTouched s15 s17 := fr_x12_clearsTouched es17
      have hRs17 := hs17
      have Gs17 : GA s17 := GA_eq Gs15 ⟨(Fs17.2.1 39 (by decide)), (Fs17.2.1 42 (by decide)), (Fs17.2.1 43 (by decide)), (Fs17.2.1 44 (by decide))⟩ (Fs17.2.1 49 (by decide)) (Fs17.2.1 75 (by decide)) (Fs17.1 76 (by decide)) (Fs17.1 77 (by decide))
      have e17 : gA s17 49 = gA s 49 := ((Fs17.2.1 49 (by decide)).trans (Fs15.2.1 49 (by decide)))
      have kb := kG.1.1.2 p0.toNat (by omega)
      refine wp_bn (w_x12_copies hRs17 (by show 0 ≤ p0 ∧ p0 < 8; have : (0 : Int) ≤ gI s 76 ∧ gI s 76 ≤ 20 := hRs.1 76; have : (0 : Int) ≤ gI s15 76 ∧ gI s15 76 ≤ 20 := hRs15.1 76; have : (0 : Int) ≤ gI s 77 ∧ gI s 77 ≤ 19 := hRs.1 77; have : (0 : Int) ≤ gI s15 77 ∧ gI s15 77 ≤ 19 := hRs15.1 77; have : (0 : Int) ≤ gI s 47 ∧ gI s 47 ≤ 1 := hRs.1 47; omega) (by show 0 ≤ r6 ∧ r6 < 8; have : (0 : Int) ≤ gI s 76 ∧ gI s 76 ≤ 20 := hRs.1 76; have : (0 : Int) ≤ gI s15 76 ∧ gI s15 76 ≤ 20 := hRs15.1 76; have : (0 : Int) ≤ gI s 77 ∧ gI s 77 ≤ 19 := hRs.1 77; have : (0 : Int) ≤ gI s15 77 ∧ gI s15 77 ≤ 19 := hRs15.1 77; have : (0 : Int) ≤ gI s 47 ∧ gI s 47 ≤ 1 := hRs.1 47; omega) (Gs17.1.1.1) (by rw [e17]; exact hr6_0.2 (by omega)) (by rw [e17]; omega)) (fun s19 es19 hs19 => ?_)
      have Fs19 : F_x12_copies s17 s19 := fr_x12_copies es19
      obtain ⟨hRs19, hs19_0, hs19_1, hs19_2, hs19_3⟩ := hs19
      have hs19_0 : RT s19 := hs19_0
      have hs19_1 : ∀ j, 785 ≤ j → gA s19 49 j = gA s17 49 j := hs19_1
      have hs19_2 : ∀ u, u < 17 → u ≠ r6.toNat → gA s19 49 u = gA s17 49 u := hs19_2
      have hs19_3 : gA s19 49 r6.toNat = gA s17 49 p0.toNat := hs19_3
      have Gs19 : GA s19 := GA_tree Gs17 ⟨(Fs19.2.1 39 (by decide)), (Fs19.2.1 42 (by decide)), (Fs19.2.1 43 (by decide)), (Fs19.2.1 44 (by decide))⟩ hs19_0 (fun u hu => by
            by_cases z : u = r6.toNat
            · rw [z, hs19_3]; exact Gs17.1.1.2 p0.toNat (by omega)
            · rw [hs19_2 u (by omega) z]; exact Gs17.1.1.2 u hu) (hs19_2 16 (by omega) (by omega)) (hs19_1 785 (by omega)) (Fs19.2.1 75 (by decide)) (Fs19.1 76 (by decide)) (Fs19.1 77 (by decide))
      refine wp_bn (w_x12_isKept hRs19 (Gs19.1) (by show R2 (2 : Int); have : (0 : Int) ≤ gI s 76 ∧ gI s 76 ≤ 20 := hRs.1 76; have : (0 : Int) ≤ gI s15 76 ∧ gI s15 76 ≤ 20 := hRs15.1 76; have : (0 : Int) ≤ gI s 77 ∧ gI s 77 ≤ 19 := hRs.1 77; have : (0 : Int) ≤ gI s15 77 ∧ gI s15 77 ≤ 19 := hRs15.1 77; have : (0 : Int) ≤ gI s 47 ∧ gI s 47 ≤ 1 := hRs.1 47; omega) (by show R2 r6; have : (0 : Int) ≤ gI s 76 ∧ gI s 76 ≤ 20 := hRs.1 76; have : (0 : Int) ≤ gI s15 76 ∧ gI s15 76 ≤ 20 := hRs15.1 76; have : (0 : Int) ≤ gI s 77 ∧ gI s 77 ≤ 19 := hRs.1 77; have : (0 : Int) ≤ gI s15 77 ∧ gI s15 77 ≤ 19 := hRs15.1 77; have : (0 : Int) ≤ gI s 47 ∧ gI s 47 ≤ 1 := hRs.1 47; omega) (Gs19.2.2.1) (Gs19.2.2.2)) (fun s21 es21 hs21 => ?_)
      have Fs21 : F_x12_isKept s19 s21 := fr_x12_isKept es21
      obtain ⟨hRs21, hs21_0, hs21_1, hs21_2⟩ := hs21
      have hs21_0 : ∀ i, i < 785 → i ≠ 16 → gA s21 49 i = gA s19 49 i := hs21_0
      have hs21_1 : 0 ≤ gA s21 49 16 ∧ gA s21 49 16 ≤ 999999 := hs21_1
      have hs21_2 : 0 ≤ gA s21 49 785 ∧ gA s21 49 785 ≤ 40 := hs21_2
      have Gs21 : GA s21 := GA_kept Gs19 ⟨(Fs21.2.1 39 (by decide)), (Fs21.2.1 42 (by decide)), (Fs21.2.1 43 (by decide)), (Fs21.2.1 44 (by decide))⟩ hs21_0 hs21_1 hs21_2 (Fs21.2.1 75 (by decide)) (Fs21.1 76 (by decide)) (Fs21.1 77 (by decide))
      exact wp_some ⟨hRs21, by show JI s21; exact (GA_JI hpJ kt ((Fs21.2.1 39 (by decide)).trans ((Fs19.2.1 39 (by decide)).trans ((Fs17.2.1 39 (by decide)).trans (Fs15.2.1 39 (by decide))))) (by rw [(((Fs21.2.2.1 78 (by decide)).trans ((Fs19.2.2.1 78 (by decide)).trans ((Fs17.2.2.1 78 (by decide)).trans (Fs15.2.2.1 78 (by decide))))))]; exact hpJ.2.1) ((Fs21.1 47 (by decide)).trans ((Fs19.1 47 (by decide)).trans ((Fs17.1 47 (by decide)).trans (Fs15.1 47 (by decide))))) Gs21), by show gI s21 1 = gI s 1; have : (0 : Int) ≤ gI s 76 ∧ gI s 76 ≤ 20 := hRs.1 76; have : (0 : Int) ≤ gI s15 76 ∧ gI s15 76 ≤ 20 := hRs15.1 76; have : (0 : Int) ≤ gI s 77 ∧ gI s 77 ≤ 19 := hRs.1 77; have : (0 : Int) ≤ gI s15 77 ∧ gI s15 77 ≤ 19 := hRs15.1 77; have : (0 : Int) ≤ gI s 47 ∧ gI s 47 ≤ 1 := hRs.1 47; have : (0 : Int) ≤ gI s 1 ∧ gI s 1 ≤ 1600 := hRs.1 1; have : gI s21 1 = gI s19 1 := Fs21.1 1 (by decide); have : gI s19 1 = gI s17 1 := Fs19.1 1 (by decide); have : gI s17 1 = gI s15 1 := Fs17.1 1 (by decide); have : gI s15 1 = gI s 1 := Fs15.1 1 (by decide); omega⟩
set_option maxHeartbeats 1000000 in
theorem w_x12_drop {p0 : Int} {s : MS} (hRs : Rr s) (hp0 : R2 p0) (hp1 : JI s) : wp (m_x12_drop p0 s) (fun q => (Rr q.2) ∧ (JI q.2) ∧ (gI q.2 1 = gI s 1)) := by
  have hpJ := hp1
  unfold m_x12_drop
  refine wp_rg (by omega) ?_
  refine wp_bn (wv_x12_isVolume hRs (by show R8 p0; omega)) (fun r3 er3 hr3 => ?_)
  obtain ⟨hr3_0, hr3_1⟩ := hr3
  have hr3_0 : (r3 = 1 ∧ (0 ≤ p0 ∧ p0 < 8) ∧ gI s 47 ≠ 0 ∧ gA s 49 p0.toNat ≠ 255) ∨ r3 = 0 := hr3_0
  have hr3_1 : 0 ≤ p0 ∧ p0 < 8 → r3 = ivol s p0.toNat := hr3_1
  refine wp_rg (by have : (0 : Int) ≤ gI s 47 ∧ gI s 47 ≤ 1 := hRs.1 47; omega) ?_
  refine wp_if (fun c1 => ?_) (fun c1 => ?_)
  · skip
    refine wp_bn (w_x12_refuses hRs (by show 0 ≤ (2 : Int) ∧ (2 : Int) < 6; have : (0 : Int) ≤ gI s 47 ∧ gI s 47 ≤ 1 := hRs.1 47; omega)) (fun qqr20 eqr20s hqr20s => ?_)
    obtain ⟨qr20r, qr20s⟩ := qqr20
    dsimp only at eqr20s hqr20s ⊢
    have Fqr20s : F_x12_refuses s qr20s := fr_x12_refuses eqr20s
    obtain ⟨hRqr20s, hqr20s_0⟩ := hqr20s
    have hqr20s_0 : qr20r = -1 := hqr20s_0
    exact wp_some ⟨hRqr20s, by show JI qr20s; exact (JI_eq hpJ ⟨(Fqr20s.2.1 39 (by decide)), (Fqr20s.2.1 42 (by decide)), (Fqr20s.2.1 43 (by decide)), (Fqr20s.2.1 44 (by decide))⟩ (Fqr20s.2.1 49 (by decide)) (Fqr20s.2.1 75 (by decide)) (Fqr20s.1 76 (by decide)) (Fqr20s.1 77 (by decide)) (Fqr20s.1 47 (by decide)) (Fqr20s.2.2.1 78 (by decide))), by show gI qr20s 1 = gI s 1; have : (0 : Int) ≤ gI s 47 ∧ gI s 47 ≤ 1 := hRs.1 47; have : (0 : Int) ≤ gI s 1 ∧ gI s 1 ≤ 1600 := hRs.1 1; have : gI qr20s 1 = gI s 1 := Fqr20s.1 1 (by decide); omega⟩
  · skip
    refine wp_bn (w_x12_keeps hRs) (fun s7 es7 hs7 => ?_)
    have Fs7 : F_x12_keeps s s7 := fr_x12_keeps es7
    obtain ⟨hRs7, hs7_0, hs7_1, hs7_2, hs7_3⟩ := hs7
    have hs7_0 : gI s7 77 = (gI s 77 + 1) % 20 := hs7_0
    have hs7_1 : gI s7 76 ≤ gI s 76 + 1 ∧ gI s7 76 ≤ 20 := hs7_1
    have hs7_2 : ∀ j, j < 906 → gA s7 75 (906 * (gI s7 77).toNat + j) = gA s 49 j := hs7_2
    have hs7_3 : ∀ j, j < 906 * (gI s7 77).toNat ∨ 906 * (gI s7 77).toNat + 906 ≤ j → gA s7 75 j = gA s 75 j := hs7_3
    have kt : gI s 47 ≠ 0 := by omega
    have kG := JI_GA hpJ kt
    have Gs7 : GA s7 := GA_keeps hRs kG ⟨(Fs7.2.1 39 (by decide)), (Fs7.2.1 42 (by decide)), (Fs7.2.1 43 (by decide)), (Fs7.2.1 44 (by decide))⟩ (Fs7.2.1 49 (by decide)) hs7_0 hs7_1 hs7_2 hs7_3
    refine wp_bn (w_x12_clearsTouched hRs7) (fun s9 es9 hs9 => ?_)
    have Fs9 : F_x12_clearsTouched s7 s9 := fr_x12_clearsTouched es9
    have hRs9 := hs9
    have Gs9 : GA s9 := GA_eq Gs7 ⟨(Fs9.2.1 39 (by decide)), (Fs9.2.1 42 (by decide)), (Fs9.2.1 43 (by decide)), (Fs9.2.1 44 (by decide))⟩ (Fs9.2.1 49 (by decide)) (Fs9.2.1 75 (by decide)) (Fs9.1 76 (by decide)) (Fs9.1 77 (by decide))
    have e9 : gA s9 49 = gA s 49 := ((Fs9.2.1 49 (by decide)).trans (Fs7.2.1 49 (by decide)))
    have kb := kG.1.1.2 p0.toNat (by omega)
    refine wp_bn (w_x12_usedMany hRs9 (by have := Gs9.1.2.1.1; omega)) (fun r11 er11 hr11 => ?_)
    have hr11_0 := hr11
    have hr11_0 : 0 ≤ r11 ∧ r11 ≤ 48 := hr11_0
    refine wp_bn (w_x12_drops hRs9 (by show 0 ≤ p0 ∧ p0 < 8; have : (0 : Int) ≤ gI s 76 ∧ gI s 76 ≤ 20 := hRs.1 76; have : (0 : Int) ≤ gI s7 76 ∧ gI s7 76 ≤ 20 := hRs7.1 76; have : (0 : Int) ≤ gI s 77 ∧ gI s 77 ≤ 19 := hRs.1 77; have : (0 : Int) ≤ gI s7 77 ∧ gI s7 77 ≤ 19 := hRs7.1 77; have : (0 : Int) ≤ gI s 47 ∧ gI s 47 ≤ 1 := hRs.1 47; omega) (Gs9.1.1.1) (by rw [e9]; omega)) (fun s13 es13 hs13 => ?_)
    have Fs13 : F_x12_drops s9 s13 := fr_x12_drops es13
    obtain ⟨hRs13, hs13_0, hs13_1, hs13_2, hs13_3⟩ := hs13
    have hs13_0 : RT s13 := hs13_0
    have hs13_1 : ∀ j, 785 ≤ j → gA s13 49 j = gA s9 49 j := hs13_1
    have hs13_2 : ∀ u, u < 17 → u ≠ p0.toNat → gA s13 49 u = gA s9 49 u := hs13_2
    have hs13_3 : gA s13 49 p0.toNat = 255 := hs13_3
    have Gs13 : GA s13 := GA_tree Gs9 ⟨(Fs13.2.1 39 (by decide)), (Fs13.2.1 42 (by decide)), (Fs13.2.1 43 (by decide)), (Fs13.2.1 44 (by decide))⟩ hs13_0 (fun u hu => by
          by_cases z : u = p0.toNat
          · rw [z, hs13_3]; omega
          · rw [hs13_2 u (by omega) z]; exact Gs9.1.1.2 u hu) (hs13_2 16 (by omega) (by omega)) (hs13_1 785 (by omega)) (Fs13.2.1 75 (by decide)) (Fs13.1 76 (by decide)) (Fs13.1 77 (by decide))
    refine wp_bn (w_x12_isKept hRs13 (Gs13.1) (by show R2 (3 : Int); have : (0 : Int) ≤ gI s 76 ∧ gI s 76 ≤ 20 := hRs.1 76; have : (0 : Int) ≤ gI s7 76 ∧ gI s7 76 ≤ 20 := hRs7.1 76; have : (0 : Int) ≤ gI s 77 ∧ gI s 77 ≤ 19 := hRs.1 77; have : (0 : Int) ≤ gI s7 77 ∧ gI s7 77 ≤ 19 := hRs7.1 77; have : (0 : Int) ≤ gI s 47 ∧ gI s 47 ≤ 1 := hRs.1 47; omega) (by show R2 p0; have : (0 : Int) ≤ gI s 76 ∧ gI s 76 ≤ 20 := hRs.1 76; have : (0 : Int) ≤ gI s7 76 ∧ gI s7 76 ≤ 20 := hRs7.1 76; have : (0 : Int) ≤ gI s 77 ∧ gI s 77 ≤ 19 := hRs.1 77; have : (0 : Int) ≤ gI s7 77 ∧ gI s7 77 ≤ 19 := hRs7.1 77; have : (0 : Int) ≤ gI s 47 ∧ gI s 47 ≤ 1 := hRs.1 47; omega) (Gs13.2.2.1) (Gs13.2.2.2)) (fun s15 es15 hs15 => ?_)
    have Fs15 : F_x12_isKept s13 s15 := fr_x12_isKept es15
    obtain ⟨hRs15, hs15_0, hs15_1, hs15_2⟩ := hs15
    have hs15_0 : ∀ i, i < 785 → i ≠ 16 → gA s15 49 i = gA s13 49 i := hs15_0
    have hs15_1 : 0 ≤ gA s15 49 16 ∧ gA s15 49 16 ≤ 999999 := hs15_1
    have hs15_2 : 0 ≤ gA s15 49 785 ∧ gA s15 49 785 ≤ 40 := hs15_2
    have Gs15 : GA s15 := GA_kept Gs13 ⟨(Fs15.2.1 39 (by decide)), (Fs15.2.1 42 (by decide)), (Fs15.2.1 43 (by decide)), (Fs15.2.1 44 (by decide))⟩ hs15_0 hs15_1 hs15_2 (Fs15.2.1 75 (by decide)) (Fs15.1 76 (by decide)) (Fs15.1 77 (by decide))
    refine wp_bn (w_x12_usedMany hRs15 (by have := Gs15.1.2.1.1; omega)) (fun r17 er17 hr17 => ?_)
    have hr17_0 := hr17
    have hr17_0 : 0 ≤ r17 ∧ r17 ≤ 48 := hr17_0
    exact wp_some ⟨hRs15, by show JI s15; exact (GA_JI hpJ kt ((Fs15.2.1 39 (by decide)).trans ((Fs13.2.1 39 (by decide)).trans ((Fs9.2.1 39 (by decide)).trans (Fs7.2.1 39 (by decide))))) (by rw [(((Fs15.2.2.1 78 (by decide)).trans ((Fs13.2.2.1 78 (by decide)).trans ((Fs9.2.2.1 78 (by decide)).trans (Fs7.2.2.1 78 (by decide))))))]; exact hpJ.2.1) ((Fs15.1 47 (by decide)).trans ((Fs13.1 47 (by decide)).trans ((Fs9.1 47 (by decide)).trans (Fs7.1 47 (by decide))))) Gs15), by show gI s15 1 = gI s 1; have : (0 : Int) ≤ gI s 76 ∧ gI s 76 ≤ 20 := hRs.1 76; have : (0 : Int) ≤ gI s7 76 ∧ gI s7 76 ≤ 20 := hRs7.1 76; have : (0 : Int) ≤ gI s 77 ∧ gI s 77 ≤ 19 := hRs.1 77; have : (0 : Int) ≤ gI s7 77 ∧ gI s7 77 ≤ 19 := hRs7.1 77; have : (0 : Int) ≤ gI s 47 ∧ gI s 47 ≤ 1 := hRs.1 47; have : (0 : Int) ≤ gI s 1 ∧ gI s 1 ≤ 1600 := hRs.1 1; have : gI s15 1 = gI s13 1 := Fs15.1 1 (by decide); have : gI s13 1 = gI s9 1 := Fs13.1 1 (by decide); have : gI s9 1 = gI s7 1 := Fs9.1 1 (by decide); have : gI s7 1 = gI s 1 := Fs7.1 1 (by decide); omega⟩
set_option maxHeartbeats 1000000 in
theorem w_x12_checkpoint {s : MS} (hRs : Rr s) (hp0 : JI s) : wp (m_x12_checkpoint s) (fun q => (Rr q.2) ∧ (JI q.2) ∧ (gI q.2 1 = gI s 1)) := by
  have hpJ := hp0
  unfold m_x12_checkpoint
  refine wp_rg (by have : (0 : Int) ≤ gI s 47 ∧ gI s 47 ≤ 1 := hRs.1 47; omega) ?_
  refine wp_if (fun c1 => ?_) (fun c1 => ?_)
  · skip
    refine wp_bn (w_x12_refuses hRs (by show 0 ≤ (3 : Int) ∧ (3 : Int) < 6; have : (0 : Int) ≤ gI s 47 ∧ gI s 47 ≤ 1 := hRs.1 47; omega)) (fun qqr15 eqr15s hqr15s => ?_)
    obtain ⟨qr15r, qr15s⟩ := qqr15
    dsimp only at eqr15s hqr15s ⊢
    have Fqr15s : F_x12_refuses s qr15s := fr_x12_refuses eqr15s
    obtain ⟨hRqr15s, hqr15s_0⟩ := hqr15s
    have hqr15s_0 : qr15r = -1 := hqr15s_0
    exact wp_some ⟨hRqr15s, by show JI qr15s; exact (JI_eq hpJ ⟨(Fqr15s.2.1 39 (by decide)), (Fqr15s.2.1 42 (by decide)), (Fqr15s.2.1 43 (by decide)), (Fqr15s.2.1 44 (by decide))⟩ (Fqr15s.2.1 49 (by decide)) (Fqr15s.2.1 75 (by decide)) (Fqr15s.1 76 (by decide)) (Fqr15s.1 77 (by decide)) (Fqr15s.1 47 (by decide)) (Fqr15s.2.2.1 78 (by decide))), by show gI qr15s 1 = gI s 1; have : (0 : Int) ≤ gI s 47 ∧ gI s 47 ≤ 1 := hRs.1 47; have : (0 : Int) ≤ gI s 1 ∧ gI s 1 ≤ 1600 := hRs.1 1; have : gI qr15s 1 = gI s 1 := Fqr15s.1 1 (by decide); omega⟩
  · skip
    refine wp_bn (w_x12_keeps hRs) (fun s4 es4 hs4 => ?_)
    have Fs4 : F_x12_keeps s s4 := fr_x12_keeps es4
    obtain ⟨hRs4, hs4_0, hs4_1, hs4_2, hs4_3⟩ := hs4
    have hs4_0 : gI s4 77 = (gI s 77 + 1) % 20 := hs4_0
    have hs4_1 : gI s4 76 ≤ gI s 76 + 1 ∧ gI s4 76 ≤ 20 := hs4_1
    have hs4_2 : ∀ j, j < 906 → gA s4 75 (906 * (gI s4 77).toNat + j) = gA s 49 j := hs4_2
    have hs4_3 : ∀ j, j < 906 * (gI s4 77).toNat ∨ 906 * (gI s4 77).toNat + 906 ≤ j → gA s4 75 j = gA s 75 j := hs4_3
    have kt : gI s 47 ≠ 0 := by omega
    have kG := JI_GA hpJ kt
    have Gs4 : GA s4 := GA_keeps hRs kG ⟨(Fs4.2.1 39 (by decide)), (Fs4.2.1 42 (by decide)), (Fs4.2.1 43 (by decide)), (Fs4.2.1 44 (by decide))⟩ (Fs4.2.1 49 (by decide)) hs4_0 hs4_1 hs4_2 hs4_3
    refine wp_bn (w_x12_clearsTouched hRs4) (fun s6 es6 hs6 => ?_)
    have Fs6 : F_x12_clearsTouched s4 s6 := fr_x12_clearsTouched es6
    have hRs6 := hs6
    have Gs6 : GA s6 := GA_eq Gs4 ⟨(Fs6.2.1 39 (by decide)), (Fs6.2.1 42 (by decide)), (Fs6.2.1 43 (by decide)), (Fs6.2.1 44 (by decide))⟩ (Fs6.2.1 49 (by decide)) (Fs6.2.1 75 (by decide)) (Fs6.1 76 (by decide)) (Fs6.1 77 (by decide))
    refine wp_bn (w_x12_heldMany hRs6 (by have := Gs6.1.2.1.1; omega)) (fun r8 er8 hr8 => ?_)
    have hr8_0 := hr8
    have hr8_0 : 0 ≤ r8 ∧ r8 ≤ 48 := hr8_0
    refine wp_bn (w_x12_checks hRs6) (fun s10 es10 hs10 => ?_)
    have Fs10 : F_x12_checks s6 s10 := fr_x12_checks es10
    obtain ⟨hRs10, hs10_0, hs10_1, hs10_2⟩ := hs10
    have hs10_0 : ∀ i, ¬ (8 ≤ i ∧ i < 16) → (∀ p, p < 48 → i ≠ 18 + 16 * p) → gA s10 49 i = gA s6 49 i := hs10_0
    have hs10_1 : ∀ u, u < 8 → gA s10 49 (8 + u) = gA s6 49 u := hs10_1
    have hs10_2 : ∀ p, p < 48 → gA s10 49 (18 + 16 * p) = gA s6 49 (17 + 16 * p) := hs10_2
    have Gs10 : GA s10 := GA_tree Gs6 ⟨(Fs10.2.1 39 (by decide)), (Fs10.2.1 42 (by decide)), (Fs10.2.1 43 (by decide)), (Fs10.2.1 44 (by decide))⟩ (RT_checks Gs6.1.1.1 (Fs10.2.1 39 (by decide)) hs10_0 hs10_1 hs10_2) (fun u hu => by
          by_cases z : u < 8
          · rw [hs10_0 u (by omega) (fun q _ => by omega)]; exact Gs6.1.1.2 u hu
          · have z2 := hs10_1 (u - 8) (by omega); rw [show 8 + (u - 8) = u by omega] at z2; rw [z2]; exact Gs6.1.1.2 (u - 8) (by omega)) (hs10_0 16 (by omega) (fun q _ => by omega)) (hs10_0 785 (by omega) (fun q _ => by omega)) (Fs10.2.1 75 (by decide)) (Fs10.1 76 (by decide)) (Fs10.1 77 (by decide))
    refine wp_bn (w_x12_isKept hRs10 (Gs10.1) (by show R2 (4 : Int); have : (0 : Int) ≤ gI s 76 ∧ gI s 76 ≤ 20 := hRs.1 76; have : (0 : Int) ≤ gI s4 76 ∧ gI s4 76 ≤ 20 := hRs4.1 76; have : (0 : Int) ≤ gI s 77 ∧ gI s 77 ≤ 19 := hRs.1 77; have : (0 : Int) ≤ gI s4 77 ∧ gI s4 77 ≤ 19 := hRs4.1 77; have : (0 : Int) ≤ gI s 47 ∧ gI s 47 ≤ 1 := hRs.1 47; omega) (by show R2 (255 : Int); have : (0 : Int) ≤ gI s 76 ∧ gI s 76 ≤ 20 := hRs.1 76; have : (0 : Int) ≤ gI s4 76 ∧ gI s4 76 ≤ 20 := hRs4.1 76; have : (0 : Int) ≤ gI s 77 ∧ gI s 77 ≤ 19 := hRs.1 77; have : (0 : Int) ≤ gI s4 77 ∧ gI s4 77 ≤ 19 := hRs4.1 77; have : (0 : Int) ≤ gI s 47 ∧ gI s 47 ≤ 1 := hRs.1 47; omega) (Gs10.2.2.1) (Gs10.2.2.2)) (fun s12 es12 hs12 => ?_)
    have Fs12 : F_x12_isKept s10 s12 := fr_x12_isKept es12
    obtain ⟨hRs12, hs12_0, hs12_1, hs12_2⟩ := hs12
    have hs12_0 : ∀ i, i < 785 → i ≠ 16 → gA s12 49 i = gA s10 49 i := hs12_0
    have hs12_1 : 0 ≤ gA s12 49 16 ∧ gA s12 49 16 ≤ 999999 := hs12_1
    have hs12_2 : 0 ≤ gA s12 49 785 ∧ gA s12 49 785 ≤ 40 := hs12_2
    have Gs12 : GA s12 := GA_kept Gs10 ⟨(Fs12.2.1 39 (by decide)), (Fs12.2.1 42 (by decide)), (Fs12.2.1 43 (by decide)), (Fs12.2.1 44 (by decide))⟩ hs12_0 hs12_1 hs12_2 (Fs12.2.1 75 (by decide)) (Fs12.1 76 (by decide)) (Fs12.1 77 (by decide))
    exact wp_some ⟨hRs12, by show JI s12; exact (GA_JI hpJ kt ((Fs12.2.1 39 (by decide)).trans ((Fs10.2.1 39 (by decide)).trans ((Fs6.2.1 39 (by decide)).trans (Fs4.2.1 39 (by decide))))) (by rw [(((Fs12.2.2.1 78 (by decide)).trans ((Fs10.2.2.1 78 (by decide)).trans ((Fs6.2.2.1 78 (by decide)).trans (Fs4.2.2.1 78 (by decide))))))]; exact hpJ.2.1) ((Fs12.1 47 (by decide)).trans ((Fs10.1 47 (by decide)).trans ((Fs6.1 47 (by decide)).trans (Fs4.1 47 (by decide))))) Gs12), by show gI s12 1 = gI s 1; have : (0 : Int) ≤ gI s 76 ∧ gI s 76 ≤ 20 := hRs.1 76; have : (0 : Int) ≤ gI s4 76 ∧ gI s4 76 ≤ 20 := hRs4.1 76; have : (0 : Int) ≤ gI s 77 ∧ gI s 77 ≤ 19 := hRs.1 77; have : (0 : Int) ≤ gI s4 77 ∧ gI s4 77 ≤ 19 := hRs4.1 77; have : (0 : Int) ≤ gI s 47 ∧ gI s 47 ≤ 1 := hRs.1 47; have : (0 : Int) ≤ gI s 1 ∧ gI s 1 ≤ 1600 := hRs.1 1; have : gI s12 1 = gI s10 1 := Fs12.1 1 (by decide); have : gI s10 1 = gI s6 1 := Fs10.1 1 (by decide); have : gI s6 1 = gI s4 1 := Fs6.1 1 (by decide); have : gI s4 1 = gI s 1 := Fs4.1 1 (by decide); omega⟩
set_option maxHeartbeats 1000000 in
theorem w_x12_crash {s : MS} (hRs : Rr s) (hp0 : JI s) : wp (m_x12_crash s) (fun q => (Rr q.2) ∧ (JI q.2) ∧ (gI q.2 1 = gI s 1)) := by
  have hpJ := hp0
  unfold m_x12_crash
  refine wp_rg (by have : (0 : Int) ≤ gI s 47 ∧ gI s 47 ≤ 1 := hRs.1 47; omega) ?_
  refine wp_if (fun c1 => ?_) (fun c1 => ?_)
  · skip
    refine wp_bn (w_x12_refuses hRs (by show 0 ≤ (3 : Int) ∧ (3 : Int) < 6; have : (0 : Int) ≤ gI s 47 ∧ gI s 47 ≤ 1 := hRs.1 47; omega)) (fun qqr28 eqr28s hqr28s => ?_)
    obtain ⟨qr28r, qr28s⟩ := qqr28
    dsimp only at eqr28s hqr28s ⊢
    have Fqr28s : F_x12_refuses s qr28s := fr_x12_refuses eqr28s
    obtain ⟨hRqr28s, hqr28s_0⟩ := hqr28s
    have hqr28s_0 : qr28r = -1 := hqr28s_0
    exact wp_some ⟨hRqr28s, by show JI qr28s; exact (JI_eq hpJ ⟨(Fqr28s.2.1 39 (by decide)), (Fqr28s.2.1 42 (by decide)), (Fqr28s.2.1 43 (by decide)), (Fqr28s.2.1 44 (by decide))⟩ (Fqr28s.2.1 49 (by decide)) (Fqr28s.2.1 75 (by decide)) (Fqr28s.1 76 (by decide)) (Fqr28s.1 77 (by decide)) (Fqr28s.1 47 (by decide)) (Fqr28s.2.2.1 78 (by decide))), by show gI qr28s 1 = gI s 1; have : (0 : Int) ≤ gI s 47 ∧ gI s 47 ≤ 1 := hRs.1 47; have : (0 : Int) ≤ gI s 1 ∧ gI s 1 ≤ 1600 := hRs.1 1; have : gI qr28s 1 = gI s 1 := Fqr28s.1 1 (by decide); omega⟩
  · skip
    refine wp_bn (w_x12_keeps hRs) (fun s23 es23 hs23 => ?_)
    have Fs23 : F_x12_keeps s s23 := fr_x12_keeps es23
    obtain ⟨hRs23, hs23_0, hs23_1, hs23_2, hs23_3⟩ := hs23
    have hs23_0 : gI s23 77 = (gI s 77 + 1) % 20 := hs23_0
    have hs23_1 : gI s23 76 ≤ gI s 76 + 1 ∧ gI s23 76 ≤ 20 := hs23_1
    have hs23_2 : ∀ j, j < 906 → gA s23 75 (906 * (gI s23 77).toNat + j) = gA s 49 j := hs23_2
    have hs23_3 : ∀ j, j < 906 * (gI s23 77).toNat ∨ 906 * (gI s23 77).toNat + 906 ≤ j → gA s23 75 j = gA s 75 j := hs23_3
    have kt : gI s 47 ≠ 0 := by omega
    have kG := JI_GA hpJ kt
    have Gs23 : GA s23 := GA_keeps hRs kG ⟨(Fs23.2.1 39 (by decide)), (Fs23.2.1 42 (by decide)), (Fs23.2.1 43 (by decide)), (Fs23.2.1 44 (by decide))⟩ (Fs23.2.1 49 (by decide)) hs23_0 hs23_1 hs23_2 hs23_3
    refine wp_bn (w_x12_clearsTouched hRs23) (fun s25 es25 hs25 => ?_)
    have Fs25 : F_x12_clearsTouched s23 s25 := fr_x12_clearsTouched es25
    have hRs25 := hs25
    have L25 : ∀ (n : Nat) (x1 : Int) (x2 : Int) (s3 : MS), Rr s3 → (0 ≤ x1 ∧ x1 ≤ x2 ∧ x2 ≤ 48) → (GA s3) → (gI s3 1 = gI s 1 ∧ gI s3 47 = gI s 47 ∧ gL s3 78 = gL s 78 ∧ gA s3 39 = gA s 39) → (gI s 47 ≠ 0) → (48 - x2) < (n : Int) → wp (m_x12_crash_L25 n x1 x2 s3) (fun q => (Rr q.2) ∧ (JI q.2) ∧ (gI q.2 1 = gI s 1)) := by
      refine fr_ind (fun x1 x2 s3 hRs3 hv25_0 hv25_1 hv25_2 hv25_3 hm25 => ?_) (fun n25 ih25 x1 x2 s3 hRs3 hv25_0 hv25_1 hv25_2 hv25_3 hm25 => ?_)
      · exfalso; have : (0 : Int) ≤ gI s 47 ∧ gI s 47 ≤ 1 := hRs.1 47; have : (0 : Int) ≤ gI s3 47 ∧ gI s3 47 ≤ 1 := hRs3.1 47; have : (0 : Int) ≤ gI s 1 ∧ gI s 1 ≤ 1600 := hRs.1 1; have : (0 : Int) ≤ gI s3 1 ∧ gI s3 1 ≤ 1600 := hRs3.1 1; omega
      · show wp (m_x12_crash_b25 (m_x12_crash_L25 n25) x1 x2 s3) _
        unfold m_x12_crash_b25
        have kN := hv25_1.1.2.1.1
        refine wp_bn (w_x12_blockMany hRs3) (fun r8 er8 hr8 => ?_)
        have hr8_0 := hr8
        have hr8_0 : r8 = gA s3 39 5 := hr8_0
        refine wp_rg (by have : (0 : Int) ≤ gI s3 47 ∧ gI s3 47 ≤ 1 := hRs3.1 47; have : (0 : Int) ≤ gI s 1 ∧ gI s 1 ≤ 1600 := hRs.1 1; have : (0 : Int) ≤ gI s3 1 ∧ gI s3 1 ≤ 1600 := hRs3.1 1; have : (0 : Int) ≤ gI s 76 ∧ gI s 76 ≤ 20 := hRs.1 76; have : (0 : Int) ≤ gI s23 76 ∧ gI s23 76 ≤ 20 := hRs23.1 76; have : (0 : Int) ≤ gI s 77 ∧ gI s 77 ≤ 19 := hRs.1 77; have : (0 : Int) ≤ gI s23 77 ∧ gI s23 77 ≤ 19 := hRs23.1 77; have : (0 : Int) ≤ gI s 47 ∧ gI s 47 ≤ 1 := hRs.1 47; omega) ?_
        refine wp_rg (by have : (0 : Int) ≤ gI s3 47 ∧ gI s3 47 ≤ 1 := hRs3.1 47; have : (0 : Int) ≤ gI s 1 ∧ gI s 1 ≤ 1600 := hRs.1 1; have : (0 : Int) ≤ gI s3 1 ∧ gI s3 1 ≤ 1600 := hRs3.1 1; have : (0 : Int) ≤ gI s 76 ∧ gI s 76 ≤ 20 := hRs.1 76; have : (0 : Int) ≤ gI s23 76 ∧ gI s23 76 ≤ 20 := hRs23.1 76; have : (0 : Int) ≤ gI s 77 ∧ gI s 77 ≤ 19 := hRs.1 77; have : (0 : Int) ≤ gI s23 77 ∧ gI s23 77 ≤ 19 := hRs23.1 77; have : (0 : Int) ≤ gI s 47 ∧ gI s 47 ≤ 1 := hRs.1 47; omega) ?_
        refine wp_if (fun c2 => ?_) (fun c2 => ?_)
        · skip
          refine wp_bn (w_x12_crashes hRs3) (fun s13 es13 hs13 => ?_)
          have Fs13 : F_x12_crashes s3 s13 := fr_x12_crashes es13
          obtain ⟨hRs13, hs13_0, hs13_1, hs13_2⟩ := hs13
          have hs13_0 : ∀ i, ¬ i < 8 → (∀ p, p < 48 → i ≠ 17 + 16 * p) → gA s13 49 i = gA s3 49 i := hs13_0
          have hs13_1 : ∀ u, u < 8 → gA s13 49 u = gA s3 49 (8 + u) := hs13_1
          have hs13_2 : ∀ p, p < 48 → gA s13 49 (17 + 16 * p) = gA s3 49 (18 + 16 * p) := hs13_2
          have Gs13 : GA s13 := GA_tree hv25_1 ⟨(Fs13.2.1 39 (by decide)), (Fs13.2.1 42 (by decide)), (Fs13.2.1 43 (by decide)), (Fs13.2.1 44 (by decide))⟩ (RT_crashes hv25_1.1.1.1 (Fs13.2.1 39 (by decide)) hs13_0 hs13_1 hs13_2) (fun u hu => by
                by_cases z : u < 8
                · rw [hs13_1 u z]; exact hv25_1.1.1.2 (8 + u) (by omega)
                · rw [hs13_0 u z (fun q _ => by omega)]; exact hv25_1.1.1.2 u hu) (hs13_0 16 (by omega) (fun q _ => by omega)) (hs13_0 785 (by omega) (fun q _ => by omega)) (Fs13.2.1 75 (by decide)) (Fs13.1 76 (by decide)) (Fs13.1 77 (by decide))
          refine wp_bn (w_x12_isKept hRs13 (Gs13.1) (by show R2 (5 : Int); have : (0 : Int) ≤ gI s3 47 ∧ gI s3 47 ≤ 1 := hRs3.1 47; have : (0 : Int) ≤ gI s 1 ∧ gI s 1 ≤ 1600 := hRs.1 1; have : (0 : Int) ≤ gI s3 1 ∧ gI s3 1 ≤ 1600 := hRs3.1 1; have : (0 : Int) ≤ gI s 76 ∧ gI s 76 ≤ 20 := hRs.1 76; have : (0 : Int) ≤ gI s23 76 ∧ gI s23 76 ≤ 20 := hRs23.1 76; have : (0 : Int) ≤ gI s 77 ∧ gI s 77 ≤ 19 := hRs.1 77; have : (0 : Int) ≤ gI s23 77 ∧ gI s23 77 ≤ 19 := hRs23.1 77; have : (0 : Int) ≤ gI s 47 ∧ gI s 47 ≤ 1 := hRs.1 47; omega) (by show R2 (255 : Int); have : (0 : Int) ≤ gI s3 47 ∧ gI s3 47 ≤ 1 := hRs3.1 47; have : (0 : Int) ≤ gI s 1 ∧ gI s 1 ≤ 1600 := hRs.1 1; have : (0 : Int) ≤ gI s3 1 ∧ gI s3 1 ≤ 1600 := hRs3.1 1; have : (0 : Int) ≤ gI s 76 ∧ gI s 76 ≤ 20 := hRs.1 76; have : (0 : Int) ≤ gI s23 76 ∧ gI s23 76 ≤ 20 := hRs23.1 76; have : (0 : Int) ≤ gI s 77 ∧ gI s 77 ≤ 19 := hRs.1 77; have : (0 : Int) ≤ gI s23 77 ∧ gI s23 77 ≤ 19 := hRs23.1 77; have : (0 : Int) ≤ gI s 47 ∧ gI s 47 ≤ 1 := hRs.1 47; omega) (Gs13.2.2.1) (Gs13.2.2.2)) (fun s15 es15 hs15 => ?_)
          have Fs15 : F_x12_isKept s13 s15 := fr_x12_isKept es15
          obtain ⟨hRs15, hs15_0, hs15_1, hs15_2⟩ := hs15
          have hs15_0 : ∀ i, i < 785 → i ≠ 16 → gA s15 49 i = gA s13 49 i := hs15_0
          have hs15_1 : 0 ≤ gA s15 49 16 ∧ gA s15 49 16 ≤ 999999 := hs15_1
          have hs15_2 : 0 ≤ gA s15 49 785 ∧ gA s15 49 785 ≤ 40 := hs15_2
          have Gs15 : GA s15 := GA_kept Gs13 ⟨(Fs15.2.1 39 (by decide)), (Fs15.2.1 42 (by decide)), (Fs15.2.1 43 (by decide)), (Fs15.2.1 44 (by decide))⟩ hs15_0 hs15_1 hs15_2 (Fs15.2.1 75 (by decide)) (Fs15.1 76 (by decide)) (Fs15.1 77 (by decide))
          exact wp_some ⟨hRs15, by show JI s15; exact (GA_JI hpJ hv25_3 ((((Fs15.2.1 39 (by decide)).trans (Fs13.2.1 39 (by decide)))).trans hv25_2.2.2.2) (by rw [(((Fs15.2.2.1 78 (by decide)).trans (Fs13.2.2.1 78 (by decide)))), hv25_2.2.2.1]; exact hpJ.2.1) ((((Fs15.1 47 (by decide)).trans (Fs13.1 47 (by decide)))).trans hv25_2.2.1) Gs15), by show gI s15 1 = gI s 1; have : (0 : Int) ≤ gI s3 47 ∧ gI s3 47 ≤ 1 := hRs3.1 47; have : (0 : Int) ≤ gI s3 1 ∧ gI s3 1 ≤ 1600 := hRs3.1 1; have : (0 : Int) ≤ gI s 76 ∧ gI s 76 ≤ 20 := hRs.1 76; have : (0 : Int) ≤ gI s23 76 ∧ gI s23 76 ≤ 20 := hRs23.1 76; have : (0 : Int) ≤ gI s 77 ∧ gI s 77 ≤ 19 := hRs.1 77; have : (0 : Int) ≤ gI s23 77 ∧ gI s23 77 ≤ 19 := hRs23.1 77; have : (0 : Int) ≤ gI s 47 ∧ gI s 47 ≤ 1 := hRs.1 47; have : (0 : Int) ≤ gI s 1 ∧ gI s 1 ≤ 1600 := hRs.1 1; have : gI s15 1 = gI s13 1 := Fs15.1 1 (by decide); have : gI s13 1 = gI s3 1 := Fs13.1 1 (by decide); omega⟩
        · skip
          refine wp_bn (w_x12_isFresh hRs3 (by show 0 ≤ x2 ∧ x2 < 48; have : (0 : Int) ≤ gI s3 47 ∧ gI s3 47 ≤ 1 := hRs3.1 47; have : (0 : Int) ≤ gI s 1 ∧ gI s 1 ≤ 1600 := hRs.1 1; have : (0 : Int) ≤ gI s3 1 ∧ gI s3 1 ≤ 1600 := hRs3.1 1; have : (0 : Int) ≤ gI s 76 ∧ gI s 76 ≤ 20 := hRs.1 76; have : (0 : Int) ≤ gI s23 76 ∧ gI s23 76 ≤ 20 := hRs23.1 76; have : (0 : Int) ≤ gI s 77 ∧ gI s 77 ≤ 19 := hRs.1 77; have : (0 : Int) ≤ gI s23 77 ∧ gI s23 77 ≤ 19 := hRs23.1 77; have : (0 : Int) ≤ gI s 47 ∧ gI s 47 ≤ 1 := hRs.1 47; omega)) (fun r17 er17 hr17 => ?_)
          have hr17_0 := hr17
          have hr17_0 : (r17 = 1 ∧ 0 < cM s3 x2.toNat ∧ vM s3 x2.toNat = 0) ∨ (r17 = 0 ∧ (cM s3 x2.toNat ≤ 0 ∨ vM s3 x2.toNat ≠ 0)) := hr17_0
          refine wp_rg (by have : (0 : Int) ≤ gI s3 47 ∧ gI s3 47 ≤ 1 := hRs3.1 47; have : (0 : Int) ≤ gI s 1 ∧ gI s 1 ≤ 1600 := hRs.1 1; have : (0 : Int) ≤ gI s3 1 ∧ gI s3 1 ≤ 1600 := hRs3.1 1; have : (0 : Int) ≤ gI s 76 ∧ gI s 76 ≤ 20 := hRs.1 76; have : (0 : Int) ≤ gI s23 76 ∧ gI s23 76 ≤ 20 := hRs23.1 76; have : (0 : Int) ≤ gI s 77 ∧ gI s 77 ≤ 19 := hRs.1 77; have : (0 : Int) ≤ gI s23 77 ∧ gI s23 77 ≤ 19 := hRs23.1 77; have : (0 : Int) ≤ gI s 47 ∧ gI s 47 ≤ 1 := hRs.1 47; omega) ?_
          refine wp_if (fun c3 => ?_) (fun c3 => ?_)
          · skip
            unfold m_x12_crash_J44
            exact ih25 x1 (x2 + 1) s3 hRs3 (by show 0 ≤ x1 ∧ x1 ≤ (x2 + 1) ∧ (x2 + 1) ≤ 48; have : (0 : Int) ≤ gI s3 47 ∧ gI s3 47 ≤ 1 := hRs3.1 47; have : (0 : Int) ≤ gI s 1 ∧ gI s 1 ≤ 1600 := hRs.1 1; have : (0 : Int) ≤ gI s3 1 ∧ gI s3 1 ≤ 1600 := hRs3.1 1; have : (0 : Int) ≤ gI s 76 ∧ gI s 76 ≤ 20 := hRs.1 76; have : (0 : Int) ≤ gI s23 76 ∧ gI s23 76 ≤ 20 := hRs23.1 76; have : (0 : Int) ≤ gI s 77 ∧ gI s 77 ≤ 19 := hRs.1 77; have : (0 : Int) ≤ gI s23 77 ∧ gI s23 77 ≤ 19 := hRs23.1 77; have : (0 : Int) ≤ gI s 47 ∧ gI s 47 ≤ 1 := hRs.1 47; omega) (hv25_1) (hv25_2) (hv25_3) (by have : (0 : Int) ≤ gI s3 47 ∧ gI s3 47 ≤ 1 := hRs3.1 47; have : (0 : Int) ≤ gI s 1 ∧ gI s 1 ≤ 1600 := hRs.1 1; have : (0 : Int) ≤ gI s3 1 ∧ gI s3 1 ≤ 1600 := hRs3.1 1; have : (0 : Int) ≤ gI s 76 ∧ gI s 76 ≤ 20 := hRs.1 76; have : (0 : Int) ≤ gI s23 76 ∧ gI s23 76 ≤ 20 := hRs23.1 76; have : (0 : Int) ≤ gI s 77 ∧ gI s 77 ≤ 19 := hRs.1 77; have : (0 : Int) ≤ gI s23 77 ∧ gI s23 77 ≤ 19 := hRs23.1 77; have : (0 : Int) ≤ gI s 47 ∧ gI s 47 ≤ 1 := hRs.1 47; omega)
          · skip
            unfold m_x12_crash_J44
            exact ih25 (x1 + 1) (x2 + 1) s3 hRs3 (by show 0 ≤ (x1 + 1) ∧ (x1 + 1) ≤ (x2 + 1) ∧ (x2 + 1) ≤ 48; have : (0 : Int) ≤ gI s3 47 ∧ gI s3 47 ≤ 1 := hRs3.1 47; have : (0 : Int) ≤ gI s 1 ∧ gI s 1 ≤ 1600 := hRs.1 1; have : (0 : Int) ≤ gI s3 1 ∧ gI s3 1 ≤ 1600 := hRs3.1 1; have : (0 : Int) ≤ gI s 76 ∧ gI s 76 ≤ 20 := hRs.1 76; have : (0 : Int) ≤ gI s23 76 ∧ gI s23 76 ≤ 20 := hRs23.1 76; have : (0 : Int) ≤ gI s 77 ∧ gI s 77 ≤ 19 := hRs.1 77; have : (0 : Int) ≤ gI s23 77 ∧ gI s23 77 ≤ 19 := hRs23.1 77; have : (0 : Int) ≤ gI s 47 ∧ gI s 47 ≤ 1 := hRs.1 47; omega) (hv25_1) (hv25_2) (hv25_3) (by have : (0 : Int) ≤ gI s3 47 ∧ gI s3 47 ≤ 1 := hRs3.1 47; have : (0 : Int) ≤ gI s 1 ∧ gI s 1 ≤ 1600 := hRs.1 1; have : (0 : Int) ≤ gI s3 1 ∧ gI s3 1 ≤ 1600 := hRs3.1 1; have : (0 : Int) ≤ gI s 76 ∧ gI s 76 ≤ 20 := hRs.1 76; have : (0 : Int) ≤ gI s23 76 ∧ gI s23 76 ≤ 20 := hRs23.1 76; have : (0 : Int) ≤ gI s 77 ∧ gI s 77 ≤ 19 := hRs.1 77; have : (0 : Int) ≤ gI s23 77 ∧ gI s23 77 ≤ 19 := hRs23.1 77; have : (0 : Int) ≤ gI s 47 ∧ gI s 47 ≤ 1 := hRs.1 47; omega)
    exact L25 FU 0 0 s25 hRs25 (by show 0 ≤ (0 : Int) ∧ (0 : Int) ≤ (0 : Int) ∧ (0 : Int) ≤ 48; have : (0 : Int) ≤ gI s 76 ∧ gI s 76 ≤ 20 := hRs.1 76; have : (0 : Int) ≤ gI s23 76 ∧ gI s23 76 ≤ 20 := hRs23.1 76; have : (0 : Int) ≤ gI s 77 ∧ gI s 77 ≤ 19 := hRs.1 77; have : (0 : Int) ≤ gI s23 77 ∧ gI s23 77 ≤ 19 := hRs23.1 77; have : (0 : Int) ≤ gI s 47 ∧ gI s 47 ≤ 1 := hRs.1 47; omega) (GA_eq Gs23 ⟨(Fs25.2.1 39 (by decide)), (Fs25.2.1 42 (by decide)), (Fs25.2.1 43 (by decide)), (Fs25.2.1 44 (by decide))⟩ (Fs25.2.1 49 (by decide)) (Fs25.2.1 75 (by decide)) (Fs25.1 76 (by decide)) (Fs25.1 77 (by decide))) (⟨((Fs25.1 1 (by decide)).trans (Fs23.1 1 (by decide))), ((Fs25.1 47 (by decide)).trans (Fs23.1 47 (by decide))), ((Fs25.2.2.1 78 (by decide)).trans (Fs23.2.2.1 78 (by decide))), ((Fs25.2.1 39 (by decide)).trans (Fs23.2.1 39 (by decide)))⟩) (kt) (by have := FU_big; have := FU_big2; have : (0 : Int) ≤ gI s 76 ∧ gI s 76 ≤ 20 := hRs.1 76; have : (0 : Int) ≤ gI s23 76 ∧ gI s23 76 ≤ 20 := hRs23.1 76; have : (0 : Int) ≤ gI s 77 ∧ gI s 77 ≤ 19 := hRs.1 77; have : (0 : Int) ≤ gI s23 77 ∧ gI s23 77 ≤ 19 := hRs23.1 77; have : (0 : Int) ≤ gI s 47 ∧ gI s 47 ≤ 1 := hRs.1 47; omega)
set_option maxHeartbeats 2000000 in
theorem w_x12_isDrawn {s : MS} (hRs : Rr s) (hp0 : GA s) (hp1 : 0 ≤ gL s 78 ∧ gL s 78 ≤ 2147483647) (hp2 : gI s 47 ≠ 0) : wp (m_x12_isDrawn s) (fun q => (Rr q.2) ∧ (q.1 = 0 ∨ q.1 = 1) ∧ (GA q.2) ∧ (gI q.2 1 = gI s 1 ∧ gI q.2 47 = gI s 47 ∧ gA q.2 39 = gA s 39) ∧ (0 ≤ gL q.2 78 ∧ gL q.2 78 ≤ 2147483647)) := by
  have J20 : ∀ (s4 : MS), Rr s4 → (GA s4) → (gI s4 1 = gI s 1 ∧ gI s4 47 = gI s 47 ∧ gA s4 39 = gA s 39) → (0 ≤ gL s4 78 ∧ gL s4 78 ≤ 2147483647) → wp (m_x12_isDrawn_J20 s4) (fun q => (Rr q.2) ∧ (q.1 = 0 ∨ q.1 = 1) ∧ (GA q.2) ∧ (gI q.2 1 = gI s 1 ∧ gI q.2 47 = gI s 47 ∧ gA q.2 39 = gA s 39) ∧ (0 ≤ gL q.2 78 ∧ gL q.2 78 ≤ 2147483647)) := by
    intro s4 hRs4 hj20_0 hj20_1 hj20_2
    unfold m_x12_isDrawn_J20
    refine wp_bn (wv_x12_volumeMany hRs4) (fun r6 er6 hr6 => ?_)
    obtain ⟨hr6_0, hr6_1⟩ := hr6
    have hr6_0 : r6 = sm 8 (ivol s4) := hr6_0
    have hr6_1 : 0 ≤ r6 ∧ r6 ≤ 8 := hr6_1
    refine wp_rg (by have : (0 : Int) ≤ gI s4 47 ∧ gI s4 47 ≤ 1 := hRs4.1 47; have : (0 : Int) ≤ gI s 1 ∧ gI s 1 ≤ 1600 := hRs.1 1; have : (0 : Int) ≤ gI s4 1 ∧ gI s4 1 ≤ 1600 := hRs4.1 1; have : (0 : Int) ≤ gI s 47 ∧ gI s 47 ≤ 1 := hRs.1 47; omega) ?_
    refine wp_if (fun c1 => ?_) (fun c1 => ?_)
    · skip
      exact wp_some ⟨hRs4, by show (0 : Int) = 0 ∨ (0 : Int) = 1; have : (0 : Int) ≤ gI s4 47 ∧ gI s4 47 ≤ 1 := hRs4.1 47; have : (0 : Int) ≤ gI s 1 ∧ gI s 1 ≤ 1600 := hRs.1 1; have : (0 : Int) ≤ gI s4 1 ∧ gI s4 1 ≤ 1600 := hRs4.1 1; have : (0 : Int) ≤ gI s 47 ∧ gI s 47 ≤ 1 := hRs.1 47; omega, by show GA s4; exact (hj20_0), by show gI s4 1 = gI s 1 ∧ gI s4 47 = gI s 47 ∧ gA s4 39 = gA s 39; exact (hj20_1), by show 0 ≤ gL s4 78 ∧ gL s4 78 ≤ 2147483647; exact (hj20_2)⟩
    · skip
      refine wp_bn (wv_x12_volumeMany hRs4) (fun r10 er10 hr10 => ?_)
      obtain ⟨hr10_0, hr10_1⟩ := hr10
      have hr10_0 : r10 = sm 8 (ivol s4) := hr10_0
      have hr10_1 : 0 ≤ r10 ∧ r10 ≤ 8 := hr10_1
      refine wp_bn (w_x12_drawOf hRs4 (hj20_2) (by show 1 ≤ r10 ∧ r10 ≤ 100; have : (0 : Int) ≤ gI s4 47 ∧ gI s4 47 ≤ 1 := hRs4.1 47; have : (0 : Int) ≤ gI s 1 ∧ gI s 1 ≤ 1600 := hRs.1 1; have : (0 : Int) ≤ gI s4 1 ∧ gI s4 1 ≤ 1600 := hRs4.1 1; have : (0 : Int) ≤ gI s 47 ∧ gI s 47 ≤ 1 := hRs.1 47; omega)) (fun qqr13 eqr13s hqr13s => ?_)
      obtain ⟨qr13r, qr13s⟩ := qqr13
      dsimp only at eqr13s hqr13s ⊢
      have Fqr13s : F_x12_drawOf s4 qr13s := fr_x12_drawOf eqr13s
      obtain ⟨hRqr13s, hqr13s_0, hqr13s_1⟩ := hqr13s
      have hqr13s_0 : 0 ≤ qr13r ∧ qr13r < r10 := hqr13s_0
      have hqr13s_1 : 0 ≤ gL qr13s 78 ∧ gL qr13s 78 ≤ 2147483647 := hqr13s_1
      have G13 : GA qr13s := GA_eq hj20_0 ⟨(Fqr13s.2.1 39 (by decide)), (Fqr13s.2.1 42 (by decide)), (Fqr13s.2.1 43 (by decide)), (Fqr13s.2.1 44 (by decide))⟩ (Fqr13s.2.1 49 (by decide)) (Fqr13s.2.1 75 (by decide)) (Fqr13s.1 76 (by decide)) (Fqr13s.1 77 (by decide))
      have iv : ∀ u, ivol qr13s u = ivol s4 u := fun u => by unfold ivol; rw [((Fqr13s.1 47 (by decide))), ((Fqr13s.2.1 49 (by decide)))]
      refine wp_bn (w_x12_volumeAt hRqr13s (by rw [sm_c (g := ivol s4) (fun u _ => iv u)]; have z := hr10_0; omega)) (fun r15 er15 hr15 => ?_)
      have hr15_0 := hr15
      have hr15_0 : (0 ≤ r15 ∧ r15 < 8) ∧ gI qr13s 47 ≠ 0 ∧ gA qr13s 49 r15.toNat ≠ 255 := hr15_0
      refine wp_bn (w_x12_drawOf hRqr13s (hqr13s_1) (by show 1 ≤ (3 : Int) ∧ (3 : Int) ≤ 100; have : gI qr13s 47 = gI s4 47 := Fqr13s.1 47 (by decide); have : (0 : Int) ≤ gI s4 47 ∧ gI s4 47 ≤ 1 := hRs4.1 47; have : (0 : Int) ≤ gI s 1 ∧ gI s 1 ≤ 1600 := hRs.1 1; have : (0 : Int) ≤ gI s4 1 ∧ gI s4 1 ≤ 1600 := hRs4.1 1; have : (0 : Int) ≤ gI s 47 ∧ gI s 47 ≤ 1 := hRs.1 47; omega)) (fun qqr18 eqr18s hqr18s => ?_)
      obtain ⟨qr18r, qr18s⟩ := qqr18
      dsimp only at eqr18s hqr18s ⊢
      have Fqr18s : F_x12_drawOf qr13s qr18s := fr_x12_drawOf eqr18s
      obtain ⟨hRqr18s, hqr18s_0, hqr18s_1⟩ := hqr18s
      have hqr18s_0 : 0 ≤ qr18r ∧ qr18r < (3 : Int) := hqr18s_0
      have hqr18s_1 : 0 ≤ gL qr18s 78 ∧ gL qr18s 78 ≤ 2147483647 := hqr18s_1
      refine wp_bn (w_x12_drawOf hRqr18s (hqr18s_1) (by show 1 ≤ (40 : Int) ∧ (40 : Int) ≤ 100; have : gI qr13s 47 = gI s4 47 := Fqr13s.1 47 (by decide); have : (0 : Int) ≤ gI s4 47 ∧ gI s4 47 ≤ 1 := hRs4.1 47; have : (0 : Int) ≤ gI s 1 ∧ gI s 1 ≤ 1600 := hRs.1 1; have : (0 : Int) ≤ gI s4 1 ∧ gI s4 1 ≤ 1600 := hRs4.1 1; have : (0 : Int) ≤ gI s 47 ∧ gI s 47 ≤ 1 := hRs.1 47; omega)) (fun qqr21 eqr21s hqr21s => ?_)
      obtain ⟨qr21r, qr21s⟩ := qqr21
      dsimp only at eqr21s hqr21s ⊢
      have Fqr21s : F_x12_drawOf qr18s qr21s := fr_x12_drawOf eqr21s
      obtain ⟨hRqr21s, hqr21s_0, hqr21s_1⟩ := hqr21s
      have hqr21s_0 : 0 ≤ qr21r ∧ qr21r < (40 : Int) := hqr21s_0
      have hqr21s_1 : 0 ≤ gL qr21s 78 ∧ gL qr21s 78 ≤ 2147483647 := hqr21s_1
      have G21 : GA qr21s := GA_eq G13 ⟨((Fqr21s.2.1 39 (by decide)).trans (Fqr18s.2.1 39 (by decide))), ((Fqr21s.2.1 42 (by decide)).trans (Fqr18s.2.1 42 (by decide))), ((Fqr21s.2.1 43 (by decide)).trans (Fqr18s.2.1 43 (by decide))), ((Fqr21s.2.1 44 (by decide)).trans (Fqr18s.2.1 44 (by decide)))⟩ ((Fqr21s.2.1 49 (by decide)).trans (Fqr18s.2.1 49 (by decide))) ((Fqr21s.2.1 75 (by decide)).trans (Fqr18s.2.1 75 (by decide))) ((Fqr21s.1 76 (by decide)).trans (Fqr18s.1 76 (by decide))) ((Fqr21s.1 77 (by decide)).trans (Fqr18s.1 77 (by decide)))
      have kb := G21.1.1.2 r15.toNat (by omega)
      have e49 : gA qr21s 49 = gA qr13s 49 := ((Fqr21s.2.1 49 (by decide)).trans (Fqr18s.2.1 49 (by decide)))
      have kne : gA qr21s 49 r15.toNat ≠ 255 := by rw [e49]; exact hr15_0.2.2
      refine wp_rg (by have : gI qr13s 47 = gI s4 47 := Fqr13s.1 47 (by decide); have : (0 : Int) ≤ gI s4 47 ∧ gI s4 47 ≤ 1 := hRs4.1 47; have : (0 : Int) ≤ gI s 1 ∧ gI s 1 ≤ 1600 := hRs.1 1; have : (0 : Int) ≤ gI s4 1 ∧ gI s4 1 ≤ 1600 := hRs4.1 1; have : (0 : Int) ≤ gI s 47 ∧ gI s 47 ≤ 1 := hRs.1 47; omega) ?_
      refine wp_if (fun c2 => ?_) (fun c2 => ?_)
      · skip
        refine wp_bn (w_x12_tries hRqr21s (by show (3 : Int) = 2 ∨ (3 : Int) = 3; have : gI qr13s 47 = gI s4 47 := Fqr13s.1 47 (by decide); have : (0 : Int) ≤ gI s4 47 ∧ gI s4 47 ≤ 1 := hRs4.1 47; have : (0 : Int) ≤ gI s 1 ∧ gI s 1 ≤ 1600 := hRs.1 1; have : (0 : Int) ≤ gI s4 1 ∧ gI s4 1 ≤ 1600 := hRs4.1 1; have : (0 : Int) ≤ gI s 47 ∧ gI s 47 ≤ 1 := hRs.1 47; omega) (by show 0 ≤ r15 ∧ r15 < 8; have : gI qr13s 47 = gI s4 47 := Fqr13s.1 47 (by decide); have : (0 : Int) ≤ gI s4 47 ∧ gI s4 47 ≤ 1 := hRs4.1 47; have : (0 : Int) ≤ gI s 1 ∧ gI s 1 ≤ 1600 := hRs.1 1; have : (0 : Int) ≤ gI s4 1 ∧ gI s4 1 ≤ 1600 := hRs4.1 1; have : (0 : Int) ≤ gI s 47 ∧ gI s 47 ≤ 1 := hRs.1 47; omega) (G21.1.1.1) (G21.1.2.2.1) (G21.1.2.2.2.1) (by have := G21.1.2.1.1; omega) (G21.1.2.1.2) (by show ((0 ≤ gA qr21s 49 r15.toNat ∧ gA qr21s 49 r15.toNat < 254) ∨ gA qr21s 49 r15.toNat = 254); have : gI qr13s 47 = gI s4 47 := Fqr13s.1 47 (by decide); have : (0 : Int) ≤ gI s4 47 ∧ gI s4 47 ≤ 1 := hRs4.1 47; have : (0 : Int) ≤ gI s 1 ∧ gI s 1 ≤ 1600 := hRs.1 1; have : (0 : Int) ≤ gI s4 1 ∧ gI s4 1 ≤ 1600 := hRs4.1 1; have : (0 : Int) ≤ gI s 47 ∧ gI s 47 ≤ 1 := hRs.1 47; omega) (by show (3 : Int) = 2 → (0 ≤ qr21r ∧ qr21r ≤ 999) ∧ (0 ≤ (0 : Int) ∧ (0 : Int) ≤ 999); have : gI qr13s 47 = gI s4 47 := Fqr13s.1 47 (by decide); have : (0 : Int) ≤ gI s4 47 ∧ gI s4 47 ≤ 1 := hRs4.1 47; have : (0 : Int) ≤ gI s 1 ∧ gI s 1 ≤ 1600 := hRs.1 1; have : (0 : Int) ≤ gI s4 1 ∧ gI s4 1 ≤ 1600 := hRs4.1 1; have : (0 : Int) ≤ gI s 47 ∧ gI s 47 ≤ 1 := hRs.1 47; omega) (by show R2 qr21r; have : gI qr13s 47 = gI s4 47 := Fqr13s.1 47 (by decide); have : (0 : Int) ≤ gI s4 47 ∧ gI s4 47 ≤ 1 := hRs4.1 47; have : (0 : Int) ≤ gI s 1 ∧ gI s 1 ≤ 1600 := hRs.1 1; have : (0 : Int) ≤ gI s4 1 ∧ gI s4 1 ≤ 1600 := hRs4.1 1; have : (0 : Int) ≤ gI s 47 ∧ gI s 47 ≤ 1 := hRs.1 47; omega) (by show R2 (0 : Int); have : gI qr13s 47 = gI s4 47 := Fqr13s.1 47 (by decide); have : (0 : Int) ≤ gI s4 47 ∧ gI s4 47 ≤ 1 := hRs4.1 47; have : (0 : Int) ≤ gI s 1 ∧ gI s 1 ≤ 1600 := hRs.1 1; have : (0 : Int) ≤ gI s4 1 ∧ gI s4 1 ≤ 1600 := hRs4.1 1; have : (0 : Int) ≤ gI s 47 ∧ gI s 47 ≤ 1 := hRs.1 47; omega)) (fun qqr26 eqr26s hqr26s => ?_)
        obtain ⟨qr26r, qr26s⟩ := qqr26
        dsimp only at eqr26s hqr26s ⊢
        have Fqr26s : F_x12_tries qr21s qr26s := fr_x12_tries eqr26s
        obtain ⟨hRqr26s, hqr26s_0, hqr26s_1, hqr26s_2, hqr26s_3, hqr26s_4⟩ := hqr26s
        have hqr26s_0 : qr26r = 0 ∨ qr26r = 1 := hqr26s_0
        have hqr26s_1 : KS qr21s qr26s := hqr26s_1
        have hqr26s_2 : RT qr26s := hqr26s_2
        have hqr26s_3 : RW0 qr21s qr26s r15.toNat := hqr26s_3
        have hqr26s_4 : qr26r = 0 → ∀ j, gA qr26s 49 j = gA qr21s 49 j := hqr26s_4
        unfold m_x12_isDrawn_J84
        refine wp_bo (by have : gI qr13s 47 = gI s4 47 := Fqr13s.1 47 (by decide); have : (0 : Int) ≤ gI s4 47 ∧ gI s4 47 ≤ 1 := hRs4.1 47; have : (0 : Int) ≤ gI s 1 ∧ gI s 1 ≤ 1600 := hRs.1 1; have : (0 : Int) ≤ gI s4 1 ∧ gI s4 1 ≤ 1600 := hRs4.1 1; have : (0 : Int) ≤ gI s 47 ∧ gI s 47 ≤ 1 := hRs.1 47; omega) ?_
        exact wp_some ⟨hRqr26s, by show qr26r = 0 ∨ qr26r = 1; have : gI qr13s 47 = gI s4 47 := Fqr13s.1 47 (by decide); have : (0 : Int) ≤ gI s4 47 ∧ gI s4 47 ≤ 1 := hRs4.1 47; have : (0 : Int) ≤ gI s 1 ∧ gI s 1 ≤ 1600 := hRs.1 1; have : (0 : Int) ≤ gI s4 1 ∧ gI s4 1 ≤ 1600 := hRs4.1 1; have : (0 : Int) ≤ gI s 47 ∧ gI s 47 ≤ 1 := hRs.1 47; omega, by show GA qr26s; exact (GA_tries (v := r15.toNat) G21 hqr26s_1 hqr26s_2 (by omega) hqr26s_3 (Fqr26s.2.1 75 (by decide)) (Fqr26s.1 76 (by decide)) (Fqr26s.1 77 (by decide))), by show gI qr26s 1 = gI s 1 ∧ gI qr26s 47 = gI s 47 ∧ gA qr26s 39 = gA s 39; exact (⟨(((Fqr26s.1 1 (by decide)).trans ((Fqr21s.1 1 (by decide)).trans ((Fqr18s.1 1 (by decide)).trans (Fqr13s.1 1 (by decide)))))).trans hj20_1.1, (((Fqr26s.1 47 (by decide)).trans ((Fqr21s.1 47 (by decide)).trans ((Fqr18s.1 47 (by decide)).trans (Fqr13s.1 47 (by decide)))))).trans hj20_1.2.1, (((Fqr26s.2.1 39 (by decide)).trans ((Fqr21s.2.1 39 (by decide)).trans ((Fqr18s.2.1 39 (by decide)).trans (Fqr13s.2.1 39 (by decide)))))).trans hj20_1.2.2⟩), by show 0 ≤ gL qr26s 78 ∧ gL qr26s 78 ≤ 2147483647; rw [(Fqr26s.2.2.1 78 (by decide))]; exact hqr21s_1⟩
      · skip
        refine wp_bn (w_x12_drawOf hRqr21s (hqr21s_1) (by show 1 ≤ (100 : Int) ∧ (100 : Int) ≤ 100; have : gI qr13s 47 = gI s4 47 := Fqr13s.1 47 (by decide); have : (0 : Int) ≤ gI s4 47 ∧ gI s4 47 ≤ 1 := hRs4.1 47; have : (0 : Int) ≤ gI s 1 ∧ gI s 1 ≤ 1600 := hRs.1 1; have : (0 : Int) ≤ gI s4 1 ∧ gI s4 1 ≤ 1600 := hRs4.1 1; have : (0 : Int) ≤ gI s 47 ∧ gI s 47 ≤ 1 := hRs.1 47; omega)) (fun qqr29 eqr29s hqr29s => ?_)
        obtain ⟨qr29r, qr29s⟩ := qqr29
        dsimp only at eqr29s hqr29s ⊢
        have Fqr29s : F_x12_drawOf qr21s qr29s := fr_x12_drawOf eqr29s
        obtain ⟨hRqr29s, hqr29s_0, hqr29s_1⟩ := hqr29s
        have hqr29s_0 : 0 ≤ qr29r ∧ qr29r < (100 : Int) := hqr29s_0
        have hqr29s_1 : 0 ≤ gL qr29s 78 ∧ gL qr29s 78 ≤ 2147483647 := hqr29s_1
        have G29 : GA qr29s := GA_eq G21 ⟨(Fqr29s.2.1 39 (by decide)), (Fqr29s.2.1 42 (by decide)), (Fqr29s.2.1 43 (by decide)), (Fqr29s.2.1 44 (by decide))⟩ (Fqr29s.2.1 49 (by decide)) (Fqr29s.2.1 75 (by decide)) (Fqr29s.1 76 (by decide)) (Fqr29s.1 77 (by decide))
        have kb2 := G29.1.1.2 r15.toNat (by omega)
        have e29 : gA qr29s 49 = gA qr21s 49 := (Fqr29s.2.1 49 (by decide))
        have kne2 : gA qr29s 49 r15.toNat ≠ 255 := by rw [e29]; exact kne
        refine wp_bn (w_x12_tries hRqr29s (by show (2 : Int) = 2 ∨ (2 : Int) = 3; have : gI qr13s 47 = gI s4 47 := Fqr13s.1 47 (by decide); have : (0 : Int) ≤ gI s4 47 ∧ gI s4 47 ≤ 1 := hRs4.1 47; have : (0 : Int) ≤ gI s 1 ∧ gI s 1 ≤ 1600 := hRs.1 1; have : (0 : Int) ≤ gI s4 1 ∧ gI s4 1 ≤ 1600 := hRs4.1 1; have : (0 : Int) ≤ gI s 47 ∧ gI s 47 ≤ 1 := hRs.1 47; omega) (by show 0 ≤ r15 ∧ r15 < 8; have : gI qr13s 47 = gI s4 47 := Fqr13s.1 47 (by decide); have : (0 : Int) ≤ gI s4 47 ∧ gI s4 47 ≤ 1 := hRs4.1 47; have : (0 : Int) ≤ gI s 1 ∧ gI s 1 ≤ 1600 := hRs.1 1; have : (0 : Int) ≤ gI s4 1 ∧ gI s4 1 ≤ 1600 := hRs4.1 1; have : (0 : Int) ≤ gI s 47 ∧ gI s 47 ≤ 1 := hRs.1 47; omega) (G29.1.1.1) (G29.1.2.2.1) (G29.1.2.2.2.1) (by have := G29.1.2.1.1; omega) (G29.1.2.1.2) (by show ((0 ≤ gA qr29s 49 r15.toNat ∧ gA qr29s 49 r15.toNat < 254) ∨ gA qr29s 49 r15.toNat = 254); have : gI qr13s 47 = gI s4 47 := Fqr13s.1 47 (by decide); have : (0 : Int) ≤ gI s4 47 ∧ gI s4 47 ≤ 1 := hRs4.1 47; have : (0 : Int) ≤ gI s 1 ∧ gI s 1 ≤ 1600 := hRs.1 1; have : (0 : Int) ≤ gI s4 1 ∧ gI s4 1 ≤ 1600 := hRs4.1 1; have : (0 : Int) ≤ gI s 47 ∧ gI s 47 ≤ 1 := hRs.1 47; omega) (by show (2 : Int) = 2 → (0 ≤ qr21r ∧ qr21r ≤ 999) ∧ (0 ≤ qr29r ∧ qr29r ≤ 999); have : gI qr13s 47 = gI s4 47 := Fqr13s.1 47 (by decide); have : (0 : Int) ≤ gI s4 47 ∧ gI s4 47 ≤ 1 := hRs4.1 47; have : (0 : Int) ≤ gI s 1 ∧ gI s 1 ≤ 1600 := hRs.1 1; have : (0 : Int) ≤ gI s4 1 ∧ gI s4 1 ≤ 1600 := hRs4.1 1; have : (0 : Int) ≤ gI s 47 ∧ gI s 47 ≤ 1 := hRs.1 47; omega) (by show R2 qr21r; have : gI qr13s 47 = gI s4 47 := Fqr13s.1 47 (by decide); have : (0 : Int) ≤ gI s4 47 ∧ gI s4 47 ≤ 1 := hRs4.1 47; have : (0 : Int) ≤ gI s 1 ∧ gI s 1 ≤ 1600 := hRs.1 1; have : (0 : Int) ≤ gI s4 1 ∧ gI s4 1 ≤ 1600 := hRs4.1 1; have : (0 : Int) ≤ gI s 47 ∧ gI s 47 ≤ 1 := hRs.1 47; omega) (by show R2 qr29r; have : gI qr13s 47 = gI s4 47 := Fqr13s.1 47 (by decide); have : (0 : Int) ≤ gI s4 47 ∧ gI s4 47 ≤ 1 := hRs4.1 47; have : (0 : Int) ≤ gI s 1 ∧ gI s 1 ≤ 1600 := hRs.1 1; have : (0 : Int) ≤ gI s4 1 ∧ gI s4 1 ≤ 1600 := hRs4.1 1; have : (0 : Int) ≤ gI s 47 ∧ gI s 47 ≤ 1 := hRs.1 47; omega)) (fun qqr32 eqr32s hqr32s => ?_)
        obtain ⟨qr32r, qr32s⟩ := qqr32
        dsimp only at eqr32s hqr32s ⊢
        have Fqr32s : F_x12_tries qr29s qr32s := fr_x12_tries eqr32s
        obtain ⟨hRqr32s, hqr32s_0, hqr32s_1, hqr32s_2, hqr32s_3, hqr32s_4⟩ := hqr32s
        have hqr32s_0 : qr32r = 0 ∨ qr32r = 1 := hqr32s_0
        have hqr32s_1 : KS qr29s qr32s := hqr32s_1
        have hqr32s_2 : RT qr32s := hqr32s_2
        have hqr32s_3 : RW0 qr29s qr32s r15.toNat := hqr32s_3
        have hqr32s_4 : qr32r = 0 → ∀ j, gA qr32s 49 j = gA qr29s 49 j := hqr32s_4
        unfold m_x12_isDrawn_J84
        refine wp_bo (by have : gI qr13s 47 = gI s4 47 := Fqr13s.1 47 (by decide); have : (0 : Int) ≤ gI s4 47 ∧ gI s4 47 ≤ 1 := hRs4.1 47; have : (0 : Int) ≤ gI s 1 ∧ gI s 1 ≤ 1600 := hRs.1 1; have : (0 : Int) ≤ gI s4 1 ∧ gI s4 1 ≤ 1600 := hRs4.1 1; have : (0 : Int) ≤ gI s 47 ∧ gI s 47 ≤ 1 := hRs.1 47; omega) ?_
        exact wp_some ⟨hRqr32s, by show qr32r = 0 ∨ qr32r = 1; have : gI qr13s 47 = gI s4 47 := Fqr13s.1 47 (by decide); have : (0 : Int) ≤ gI s4 47 ∧ gI s4 47 ≤ 1 := hRs4.1 47; have : (0 : Int) ≤ gI s 1 ∧ gI s 1 ≤ 1600 := hRs.1 1; have : (0 : Int) ≤ gI s4 1 ∧ gI s4 1 ≤ 1600 := hRs4.1 1; have : (0 : Int) ≤ gI s 47 ∧ gI s 47 ≤ 1 := hRs.1 47; omega, by show GA qr32s; exact (GA_tries (v := r15.toNat) G29 hqr32s_1 hqr32s_2 (by omega) hqr32s_3 (Fqr32s.2.1 75 (by decide)) (Fqr32s.1 76 (by decide)) (Fqr32s.1 77 (by decide))), by show gI qr32s 1 = gI s 1 ∧ gI qr32s 47 = gI s 47 ∧ gA qr32s 39 = gA s 39; exact (⟨(((Fqr32s.1 1 (by decide)).trans ((Fqr29s.1 1 (by decide)).trans ((Fqr21s.1 1 (by decide)).trans ((Fqr18s.1 1 (by decide)).trans (Fqr13s.1 1 (by decide))))))).trans hj20_1.1, (((Fqr32s.1 47 (by decide)).trans ((Fqr29s.1 47 (by decide)).trans ((Fqr21s.1 47 (by decide)).trans ((Fqr18s.1 47 (by decide)).trans (Fqr13s.1 47 (by decide))))))).trans hj20_1.2.1, (((Fqr32s.2.1 39 (by decide)).trans ((Fqr29s.2.1 39 (by decide)).trans ((Fqr21s.2.1 39 (by decide)).trans ((Fqr18s.2.1 39 (by decide)).trans (Fqr13s.2.1 39 (by decide))))))).trans hj20_1.2.2⟩), by show 0 ≤ gL qr32s 78 ∧ gL qr32s 78 ≤ 2147483647; rw [(Fqr32s.2.2.1 78 (by decide))]; exact hqr29s_1⟩
  unfold m_x12_isDrawn
  refine wp_bn (w_x12_drawOf hRs (hp1) (by show 1 ≤ (100 : Int) ∧ (100 : Int) ≤ 100; have : (0 : Int) ≤ gI s 47 ∧ gI s 47 ≤ 1 := hRs.1 47; omega)) (fun qqr35 eqr35s hqr35s => ?_)
  obtain ⟨qr35r, qr35s⟩ := qqr35
  dsimp only at eqr35s hqr35s ⊢
  have Fqr35s : F_x12_drawOf s qr35s := fr_x12_drawOf eqr35s
  obtain ⟨hRqr35s, hqr35s_0, hqr35s_1⟩ := hqr35s
  have hqr35s_0 : 0 ≤ qr35r ∧ qr35r < (100 : Int) := hqr35s_0
  have hqr35s_1 : 0 ≤ gL qr35s 78 ∧ gL qr35s 78 ≤ 2147483647 := hqr35s_1
  have G35 : GA qr35s := GA_eq hp0 ⟨(Fqr35s.2.1 39 (by decide)), (Fqr35s.2.1 42 (by decide)), (Fqr35s.2.1 43 (by decide)), (Fqr35s.2.1 44 (by decide))⟩ (Fqr35s.2.1 49 (by decide)) (Fqr35s.2.1 75 (by decide)) (Fqr35s.1 76 (by decide)) (Fqr35s.1 77 (by decide))
  refine wp_rdIn (by have : (0 : Int) ≤ gI s 47 ∧ gI s 47 ≤ 1 := hRs.1 47; omega) (fun y36 ey36 => ?_)
  have by36 : (-2147483648 : Int) ≤ y36 ∧ y36 ≤ 2147483647 := ey36 ▸ hRqr35s.2.1 39 _ (by show _ < 10; have : (0 : Int) ≤ gI s 47 ∧ gI s 47 ≤ 1 := hRs.1 47; omega)
  have r36 : R2 y36 := ey36 ▸ hRqr35s.2.1 39 _ (by show _ < 10; omega)
  refine wp_rg (by have : (0 : Int) ≤ gI s 47 ∧ gI s 47 ≤ 1 := hRs.1 47; omega) ?_
  refine wp_rg (by have : (0 : Int) ≤ gI s 47 ∧ gI s 47 ≤ 1 := hRs.1 47; omega) ?_
  refine wp_if (fun c3 => ?_) (fun c3 => ?_)
  · skip
    exact J20 qr35s hRqr35s (G35) (⟨(Fqr35s.1 1 (by decide)), (Fqr35s.1 47 (by decide)), (Fqr35s.2.1 39 (by decide))⟩) (hqr35s_1)
  · skip
    refine wp_bn (w_x12_checks hRqr35s) (fun s41 es41 hs41 => ?_)
    have Fs41 : F_x12_checks qr35s s41 := fr_x12_checks es41
    obtain ⟨hRs41, hs41_0, hs41_1, hs41_2⟩ := hs41
    have hs41_0 : ∀ i, ¬ (8 ≤ i ∧ i < 16) → (∀ p, p < 48 → i ≠ 18 + 16 * p) → gA s41 49 i = gA qr35s 49 i := hs41_0
    have hs41_1 : ∀ u, u < 8 → gA s41 49 (8 + u) = gA qr35s 49 u := hs41_1
    have hs41_2 : ∀ p, p < 48 → gA s41 49 (18 + 16 * p) = gA qr35s 49 (17 + 16 * p) := hs41_2
    have Gs41 : GA s41 := GA_tree G35 ⟨(Fs41.2.1 39 (by decide)), (Fs41.2.1 42 (by decide)), (Fs41.2.1 43 (by decide)), (Fs41.2.1 44 (by decide))⟩ (RT_checks G35.1.1.1 (Fs41.2.1 39 (by decide)) hs41_0 hs41_1 hs41_2) (fun u hu => by
          by_cases z : u < 8
          · rw [hs41_0 u (by omega) (fun q _ => by omega)]; exact G35.1.1.2 u hu
          · have z2 := hs41_1 (u - 8) (by omega); rw [show 8 + (u - 8) = u by omega] at z2; rw [z2]; exact G35.1.1.2 (u - 8) (by omega)) (hs41_0 16 (by omega) (fun q _ => by omega)) (hs41_0 785 (by omega) (fun q _ => by omega)) (Fs41.2.1 75 (by decide)) (Fs41.1 76 (by decide)) (Fs41.1 77 (by decide))
    exact J20 s41 hRs41 (Gs41) (⟨((Fs41.1 1 (by decide)).trans (Fqr35s.1 1 (by decide))), ((Fs41.1 47 (by decide)).trans (Fqr35s.1 47 (by decide))), ((Fs41.2.1 39 (by decide)).trans (Fqr35s.2.1 39 (by decide)))⟩) (by rw [(Fs41.2.2.1 78 (by decide))]; exact hqr35s_1)
set_option maxHeartbeats 1000000 in
theorem w_x12_chance {p0 : Int} {s : MS} (hRs : Rr s) (hp0 : R2 p0) (hp1 : JI s) : wp (m_x12_chance p0 s) (fun q => (Rr q.2) ∧ (JI q.2) ∧ (gI q.2 1 = gI s 1)) := by
  have hpJ := hp1
  unfold m_x12_chance
  refine wp_rg (by have : (0 : Int) ≤ gI s 47 ∧ gI s 47 ≤ 1 := hRs.1 47; omega) ?_
  refine wp_if (fun c1 => ?_) (fun c1 => ?_)
  · skip
    unfold m_x12_chance_J19
    refine wp_bn (w_x12_refuses hRs (by show 0 ≤ (3 : Int) ∧ (3 : Int) < 6; have : (0 : Int) ≤ gI s 47 ∧ gI s 47 ≤ 1 := hRs.1 47; omega)) (fun qqr22 eqr22s hqr22s => ?_)
    obtain ⟨qr22r, qr22s⟩ := qqr22
    dsimp only at eqr22s hqr22s ⊢
    have Fqr22s : F_x12_refuses s qr22s := fr_x12_refuses eqr22s
    obtain ⟨hRqr22s, hqr22s_0⟩ := hqr22s
    have hqr22s_0 : qr22r = -1 := hqr22s_0
    exact wp_some ⟨hRqr22s, by show JI qr22s; exact (JI_eq hpJ ⟨(Fqr22s.2.1 39 (by decide)), (Fqr22s.2.1 42 (by decide)), (Fqr22s.2.1 43 (by decide)), (Fqr22s.2.1 44 (by decide))⟩ (Fqr22s.2.1 49 (by decide)) (Fqr22s.2.1 75 (by decide)) (Fqr22s.1 76 (by decide)) (Fqr22s.1 77 (by decide)) (Fqr22s.1 47 (by decide)) (Fqr22s.2.2.1 78 (by decide))), by show gI qr22s 1 = gI s 1; have : (0 : Int) ≤ gI s 47 ∧ gI s 47 ≤ 1 := hRs.1 47; have : (0 : Int) ≤ gI s 1 ∧ gI s 1 ≤ 1600 := hRs.1 1; have : gI qr22s 1 = gI s 1 := Fqr22s.1 1 (by decide); omega⟩
  · skip
    refine wp_rg (by have : (0 : Int) ≤ gI s 47 ∧ gI s 47 ≤ 1 := hRs.1 47; omega) ?_
    refine wp_bn (w_x12_isIn hRs (by show R8 p0; have : (0 : Int) ≤ gI s 47 ∧ gI s 47 ≤ 1 := hRs.1 47; omega) (by show R8 (1 : Int); have : (0 : Int) ≤ gI s 47 ∧ gI s 47 ≤ 1 := hRs.1 47; omega) (by show R8 (40 : Int); have : (0 : Int) ≤ gI s 47 ∧ gI s 47 ≤ 1 := hRs.1 47; omega)) (fun r27 er27 hr27 => ?_)
    have hr27_0 := hr27
    have hr27_0 : (r27 = 1 ∧ (1 : Int) ≤ p0 ∧ p0 ≤ (40 : Int)) ∨ (r27 = 0 ∧ (p0 < (1 : Int) ∨ (40 : Int) < p0)) := hr27_0
    refine wp_rg (by have : (0 : Int) ≤ gI s 47 ∧ gI s 47 ≤ 1 := hRs.1 47; omega) ?_
    refine wp_if (fun c2 => ?_) (fun c2 => ?_)
    · skip
      unfold m_x12_chance_J19
      refine wp_bn (w_x12_refuses hRs (by show 0 ≤ (3 : Int) ∧ (3 : Int) < 6; have : (0 : Int) ≤ gI s 47 ∧ gI s 47 ≤ 1 := hRs.1 47; omega)) (fun qqr22 eqr22s hqr22s => ?_)
      obtain ⟨qr22r, qr22s⟩ := qqr22
      dsimp only at eqr22s hqr22s ⊢
      have Fqr22s : F_x12_refuses s qr22s := fr_x12_refuses eqr22s
      obtain ⟨hRqr22s, hqr22s_0⟩ := hqr22s
      have hqr22s_0 : qr22r = -1 := hqr22s_0
      exact wp_some ⟨hRqr22s, by show JI qr22s; exact (JI_eq hpJ ⟨(Fqr22s.2.1 39 (by decide)), (Fqr22s.2.1 42 (by decide)), (Fqr22s.2.1 43 (by decide)), (Fqr22s.2.1 44 (by decide))⟩ (Fqr22s.2.1 49 (by decide)) (Fqr22s.2.1 75 (by decide)) (Fqr22s.1 76 (by decide)) (Fqr22s.1 77 (by decide)) (Fqr22s.1 47 (by decide)) (Fqr22s.2.2.1 78 (by decide))), by show gI qr22s 1 = gI s 1; have : (0 : Int) ≤ gI s 47 ∧ gI s 47 ≤ 1 := hRs.1 47; have : (0 : Int) ≤ gI s 1 ∧ gI s 1 ≤ 1600 := hRs.1 1; have : gI qr22s 1 = gI s 1 := Fqr22s.1 1 (by decide); omega⟩
    · skip
      refine wp_bn (w_x12_keeps hRs) (fun s31 es31 hs31 => ?_)
      have Fs31 : F_x12_keeps s s31 := fr_x12_keeps es31
      obtain ⟨hRs31, hs31_0, hs31_1, hs31_2, hs31_3⟩ := hs31
      have hs31_0 : gI s31 77 = (gI s 77 + 1) % 20 := hs31_0
      have hs31_1 : gI s31 76 ≤ gI s 76 + 1 ∧ gI s31 76 ≤ 20 := hs31_1
      have hs31_2 : ∀ j, j < 906 → gA s31 75 (906 * (gI s31 77).toNat + j) = gA s 49 j := hs31_2
      have hs31_3 : ∀ j, j < 906 * (gI s31 77).toNat ∨ 906 * (gI s31 77).toNat + 906 ≤ j → gA s31 75 j = gA s 75 j := hs31_3
      have kt : gI s 47 ≠ 0 := by omega
      have kG := JI_GA hpJ kt
      have Gs31 : GA s31 := GA_keeps hRs kG ⟨(Fs31.2.1 39 (by decide)), (Fs31.2.1 42 (by decide)), (Fs31.2.1 43 (by decide)), (Fs31.2.1 44 (by decide))⟩ (Fs31.2.1 49 (by decide)) hs31_0 hs31_1 hs31_2 hs31_3
      refine wp_bn (w_x12_clearsTouched hRs31) (fun s33 es33 hs33 => ?_)
      have Fs33 : F_x12_clearsTouched s31 s33 := fr_x12_clearsTouched es33
      have hRs33 := hs33
      have L37 : ∀ (n : Nat) (x1 : Int) (x2 : Int) (x3 : Int) (s4 : MS), Rr s4 → (1 ≤ x1 ∧ x1 ≤ 40) → (0 ≤ x2 ∧ x2 ≤ x3 ∧ x3 ≤ x1) → (GA s4) → (gI s4 1 = gI s 1 ∧ gI s4 47 = gI s 47 ∧ gA s4 39 = gA s 39) → (0 ≤ gL s4 78 ∧ gL s4 78 ≤ 2147483647) → (gI s 47 ≠ 0) → (41 - x3) < (n : Int) → wp (m_x12_chance_L37 n x1 x2 x3 s4) (fun q => (Rr q.2) ∧ (JI q.2) ∧ (gI q.2 1 = gI s 1)) := by
        refine fr_ind (fun x1 x2 x3 s4 hRs4 hv37_0 hv37_1 hv37_2 hv37_3 hv37_4 hv37_5 hm37 => ?_) (fun n37 ih37 x1 x2 x3 s4 hRs4 hv37_0 hv37_1 hv37_2 hv37_3 hv37_4 hv37_5 hm37 => ?_)
        · exfalso; have : (0 : Int) ≤ gI s 47 ∧ gI s 47 ≤ 1 := hRs.1 47; have : (0 : Int) ≤ gI s4 47 ∧ gI s4 47 ≤ 1 := hRs4.1 47; have : (0 : Int) ≤ gI s 1 ∧ gI s 1 ≤ 1600 := hRs.1 1; have : (0 : Int) ≤ gI s4 1 ∧ gI s4 1 ≤ 1600 := hRs4.1 1; omega
        · show wp (m_x12_chance_b37 (m_x12_chance_L37 n37) x1 x2 x3 s4) _
          unfold m_x12_chance_b37
          refine wp_rg (by have : (0 : Int) ≤ gI s4 47 ∧ gI s4 47 ≤ 1 := hRs4.1 47; have : (0 : Int) ≤ gI s 1 ∧ gI s 1 ≤ 1600 := hRs.1 1; have : (0 : Int) ≤ gI s4 1 ∧ gI s4 1 ≤ 1600 := hRs4.1 1; have : (0 : Int) ≤ gI s 76 ∧ gI s 76 ≤ 20 := hRs.1 76; have : (0 : Int) ≤ gI s31 76 ∧ gI s31 76 ≤ 20 := hRs31.1 76; have : (0 : Int) ≤ gI s 77 ∧ gI s 77 ≤ 19 := hRs.1 77; have : (0 : Int) ≤ gI s31 77 ∧ gI s31 77 ≤ 19 := hRs31.1 77; have : (0 : Int) ≤ gI s 47 ∧ gI s 47 ≤ 1 := hRs.1 47; omega) ?_
          refine wp_rg (by have : (0 : Int) ≤ gI s4 47 ∧ gI s4 47 ≤ 1 := hRs4.1 47; have : (0 : Int) ≤ gI s 1 ∧ gI s 1 ≤ 1600 := hRs.1 1; have : (0 : Int) ≤ gI s4 1 ∧ gI s4 1 ≤ 1600 := hRs4.1 1; have : (0 : Int) ≤ gI s 76 ∧ gI s 76 ≤ 20 := hRs.1 76; have : (0 : Int) ≤ gI s31 76 ∧ gI s31 76 ≤ 20 := hRs31.1 76; have : (0 : Int) ≤ gI s 77 ∧ gI s 77 ≤ 19 := hRs.1 77; have : (0 : Int) ≤ gI s31 77 ∧ gI s31 77 ≤ 19 := hRs31.1 77; have : (0 : Int) ≤ gI s 47 ∧ gI s 47 ≤ 1 := hRs.1 47; omega) ?_
          refine wp_if (fun c3 => ?_) (fun c3 => ?_)
          · skip
            refine wp_bn (w_x12_isKept hRs4 (hv37_2.1) (by show R2 (6 : Int); have : (0 : Int) ≤ gI s4 47 ∧ gI s4 47 ≤ 1 := hRs4.1 47; have : (0 : Int) ≤ gI s 1 ∧ gI s 1 ≤ 1600 := hRs.1 1; have : (0 : Int) ≤ gI s4 1 ∧ gI s4 1 ≤ 1600 := hRs4.1 1; have : (0 : Int) ≤ gI s 76 ∧ gI s 76 ≤ 20 := hRs.1 76; have : (0 : Int) ≤ gI s31 76 ∧ gI s31 76 ≤ 20 := hRs31.1 76; have : (0 : Int) ≤ gI s 77 ∧ gI s 77 ≤ 19 := hRs.1 77; have : (0 : Int) ≤ gI s31 77 ∧ gI s31 77 ≤ 19 := hRs31.1 77; have : (0 : Int) ≤ gI s 47 ∧ gI s 47 ≤ 1 := hRs.1 47; omega) (by show R2 (255 : Int); have : (0 : Int) ≤ gI s4 47 ∧ gI s4 47 ≤ 1 := hRs4.1 47; have : (0 : Int) ≤ gI s 1 ∧ gI s 1 ≤ 1600 := hRs.1 1; have : (0 : Int) ≤ gI s4 1 ∧ gI s4 1 ≤ 1600 := hRs4.1 1; have : (0 : Int) ≤ gI s 76 ∧ gI s 76 ≤ 20 := hRs.1 76; have : (0 : Int) ≤ gI s31 76 ∧ gI s31 76 ≤ 20 := hRs31.1 76; have : (0 : Int) ≤ gI s 77 ∧ gI s 77 ≤ 19 := hRs.1 77; have : (0 : Int) ≤ gI s31 77 ∧ gI s31 77 ≤ 19 := hRs31.1 77; have : (0 : Int) ≤ gI s 47 ∧ gI s 47 ≤ 1 := hRs.1 47; omega) (hv37_2.2.2.1) (hv37_2.2.2.2)) (fun s13 es13 hs13 => ?_)
            have Fs13 : F_x12_isKept s4 s13 := fr_x12_isKept es13
            obtain ⟨hRs13, hs13_0, hs13_1, hs13_2⟩ := hs13
            have hs13_0 : ∀ i, i < 785 → i ≠ 16 → gA s13 49 i = gA s4 49 i := hs13_0
            have hs13_1 : 0 ≤ gA s13 49 16 ∧ gA s13 49 16 ≤ 999999 := hs13_1
            have hs13_2 : 0 ≤ gA s13 49 785 ∧ gA s13 49 785 ≤ 40 := hs13_2
            have Gs13 : GA s13 := GA_kept hv37_2 ⟨(Fs13.2.1 39 (by decide)), (Fs13.2.1 42 (by decide)), (Fs13.2.1 43 (by decide)), (Fs13.2.1 44 (by decide))⟩ hs13_0 hs13_1 hs13_2 (Fs13.2.1 75 (by decide)) (Fs13.1 76 (by decide)) (Fs13.1 77 (by decide))
            exact wp_some ⟨hRs13, by show JI s13; exact (GA_JI hpJ hv37_5 (((Fs13.2.1 39 (by decide))).trans hv37_3.2.2) (by rw [((Fs13.2.2.1 78 (by decide)))]; exact hv37_4) (((Fs13.1 47 (by decide))).trans hv37_3.2.1) Gs13), by show gI s13 1 = gI s 1; have : (0 : Int) ≤ gI s4 47 ∧ gI s4 47 ≤ 1 := hRs4.1 47; have : (0 : Int) ≤ gI s4 1 ∧ gI s4 1 ≤ 1600 := hRs4.1 1; have : (0 : Int) ≤ gI s 76 ∧ gI s 76 ≤ 20 := hRs.1 76; have : (0 : Int) ≤ gI s31 76 ∧ gI s31 76 ≤ 20 := hRs31.1 76; have : (0 : Int) ≤ gI s 77 ∧ gI s 77 ≤ 19 := hRs.1 77; have : (0 : Int) ≤ gI s31 77 ∧ gI s31 77 ≤ 19 := hRs31.1 77; have : (0 : Int) ≤ gI s 47 ∧ gI s 47 ≤ 1 := hRs.1 47; have : (0 : Int) ≤ gI s 1 ∧ gI s 1 ≤ 1600 := hRs.1 1; have : gI s13 1 = gI s4 1 := Fs13.1 1 (by decide); omega⟩
          · skip
            refine wp_bn (w_x12_isDrawn hRs4 (hv37_2) (hv37_4) (by rw [hv37_3.2.1]; exact hv37_5)) (fun qqr16 eqr16s hqr16s => ?_)
            obtain ⟨qr16r, qr16s⟩ := qqr16
            dsimp only at eqr16s hqr16s ⊢
            have Fqr16s : F_x12_isDrawn s4 qr16s := fr_x12_isDrawn eqr16s
            obtain ⟨hRqr16s, hqr16s_0, hqr16s_1, hqr16s_2, hqr16s_3⟩ := hqr16s
            have hqr16s_0 : qr16r = 0 ∨ qr16r = 1 := hqr16s_0
            have hqr16s_1 : GA qr16s := hqr16s_1
            have hqr16s_2 : gI qr16s 1 = gI s4 1 ∧ gI qr16s 47 = gI s4 47 ∧ gA qr16s 39 = gA s4 39 := hqr16s_2
            have hqr16s_3 : 0 ≤ gL qr16s 78 ∧ gL qr16s 78 ≤ 2147483647 := hqr16s_3
            refine wp_rg (by have : gI qr16s 47 = gI s4 47 := Fqr16s.1 47 (by decide); have : gI qr16s 1 = gI s4 1 := Fqr16s.1 1 (by decide); have : (0 : Int) ≤ gI s4 47 ∧ gI s4 47 ≤ 1 := hRs4.1 47; have : (0 : Int) ≤ gI s 1 ∧ gI s 1 ≤ 1600 := hRs.1 1; have : (0 : Int) ≤ gI s4 1 ∧ gI s4 1 ≤ 1600 := hRs4.1 1; have : (0 : Int) ≤ gI s 76 ∧ gI s 76 ≤ 20 := hRs.1 76; have : (0 : Int) ≤ gI s31 76 ∧ gI s31 76 ≤ 20 := hRs31.1 76; have : (0 : Int) ≤ gI s 77 ∧ gI s 77 ≤ 19 := hRs.1 77; have : (0 : Int) ≤ gI s31 77 ∧ gI s31 77 ≤ 19 := hRs31.1 77; have : (0 : Int) ≤ gI s 47 ∧ gI s 47 ≤ 1 := hRs.1 47; omega) ?_
            refine wp_if (fun c4 => ?_) (fun c4 => ?_)
            · skip
              unfold m_x12_chance_J52
              exact ih37 x1 x2 (x3 + 1) qr16s hRqr16s (by show 1 ≤ x1 ∧ x1 ≤ 40; have : gI qr16s 47 = gI s4 47 := Fqr16s.1 47 (by decide); have : gI qr16s 1 = gI s4 1 := Fqr16s.1 1 (by decide); have : (0 : Int) ≤ gI s4 47 ∧ gI s4 47 ≤ 1 := hRs4.1 47; have : (0 : Int) ≤ gI s 1 ∧ gI s 1 ≤ 1600 := hRs.1 1; have : (0 : Int) ≤ gI s4 1 ∧ gI s4 1 ≤ 1600 := hRs4.1 1; have : (0 : Int) ≤ gI s 76 ∧ gI s 76 ≤ 20 := hRs.1 76; have : (0 : Int) ≤ gI s31 76 ∧ gI s31 76 ≤ 20 := hRs31.1 76; have : (0 : Int) ≤ gI s 77 ∧ gI s 77 ≤ 19 := hRs.1 77; have : (0 : Int) ≤ gI s31 77 ∧ gI s31 77 ≤ 19 := hRs31.1 77; have : (0 : Int) ≤ gI s 47 ∧ gI s 47 ≤ 1 := hRs.1 47; omega) (by show 0 ≤ x2 ∧ x2 ≤ (x3 + 1) ∧ (x3 + 1) ≤ x1; have : gI qr16s 47 = gI s4 47 := Fqr16s.1 47 (by decide); have : gI qr16s 1 = gI s4 1 := Fqr16s.1 1 (by decide); have : (0 : Int) ≤ gI s4 47 ∧ gI s4 47 ≤ 1 := hRs4.1 47; have : (0 : Int) ≤ gI s 1 ∧ gI s 1 ≤ 1600 := hRs.1 1; have : (0 : Int) ≤ gI s4 1 ∧ gI s4 1 ≤ 1600 := hRs4.1 1; have : (0 : Int) ≤ gI s 76 ∧ gI s 76 ≤ 20 := hRs.1 76; have : (0 : Int) ≤ gI s31 76 ∧ gI s31 76 ≤ 20 := hRs31.1 76; have : (0 : Int) ≤ gI s 77 ∧ gI s 77 ≤ 19 := hRs.1 77; have : (0 : Int) ≤ gI s31 77 ∧ gI s31 77 ≤ 19 := hRs31.1 77; have : (0 : Int) ≤ gI s 47 ∧ gI s 47 ≤ 1 := hRs.1 47; omega) (hqr16s_1) (⟨hqr16s_2.1.trans hv37_3.1, hqr16s_2.2.1.trans hv37_3.2.1, hqr16s_2.2.2.trans hv37_3.2.2⟩) (hqr16s_3) (hv37_5) (by have : gI qr16s 47 = gI s4 47 := Fqr16s.1 47 (by decide); have : gI qr16s 1 = gI s4 1 := Fqr16s.1 1 (by decide); have : (0 : Int) ≤ gI s4 47 ∧ gI s4 47 ≤ 1 := hRs4.1 47; have : (0 : Int) ≤ gI s 1 ∧ gI s 1 ≤ 1600 := hRs.1 1; have : (0 : Int) ≤ gI s4 1 ∧ gI s4 1 ≤ 1600 := hRs4.1 1; have : (0 : Int) ≤ gI s 76 ∧ gI s 76 ≤ 20 := hRs.1 76; have : (0 : Int) ≤ gI s31 76 ∧ gI s31 76 ≤ 20 := hRs31.1 76; have : (0 : Int) ≤ gI s 77 ∧ gI s 77 ≤ 19 := hRs.1 77; have : (0 : Int) ≤ gI s31 77 ∧ gI s31 77 ≤ 19 := hRs31.1 77; have : (0 : Int) ≤ gI s 47 ∧ gI s 47 ≤ 1 := hRs.1 47; omega)
            · skip
              unfold m_x12_chance_J52
              exact ih37 x1 (x2 + 1) (x3 + 1) qr16s hRqr16s (by show 1 ≤ x1 ∧ x1 ≤ 40; have : gI qr16s 47 = gI s4 47 := Fqr16s.1 47 (by decide); have : gI qr16s 1 = gI s4 1 := Fqr16s.1 1 (by decide); have : (0 : Int) ≤ gI s4 47 ∧ gI s4 47 ≤ 1 := hRs4.1 47; have : (0 : Int) ≤ gI s 1 ∧ gI s 1 ≤ 1600 := hRs.1 1; have : (0 : Int) ≤ gI s4 1 ∧ gI s4 1 ≤ 1600 := hRs4.1 1; have : (0 : Int) ≤ gI s 76 ∧ gI s 76 ≤ 20 := hRs.1 76; have : (0 : Int) ≤ gI s31 76 ∧ gI s31 76 ≤ 20 := hRs31.1 76; have : (0 : Int) ≤ gI s 77 ∧ gI s 77 ≤ 19 := hRs.1 77; have : (0 : Int) ≤ gI s31 77 ∧ gI s31 77 ≤ 19 := hRs31.1 77; have : (0 : Int) ≤ gI s 47 ∧ gI s 47 ≤ 1 := hRs.1 47; omega) (by show 0 ≤ (x2 + 1) ∧ (x2 + 1) ≤ (x3 + 1) ∧ (x3 + 1) ≤ x1; have : gI qr16s 47 = gI s4 47 := Fqr16s.1 47 (by decide); have : gI qr16s 1 = gI s4 1 := Fqr16s.1 1 (by decide); have : (0 : Int) ≤ gI s4 47 ∧ gI s4 47 ≤ 1 := hRs4.1 47; have : (0 : Int) ≤ gI s 1 ∧ gI s 1 ≤ 1600 := hRs.1 1; have : (0 : Int) ≤ gI s4 1 ∧ gI s4 1 ≤ 1600 := hRs4.1 1; have : (0 : Int) ≤ gI s 76 ∧ gI s 76 ≤ 20 := hRs.1 76; have : (0 : Int) ≤ gI s31 76 ∧ gI s31 76 ≤ 20 := hRs31.1 76; have : (0 : Int) ≤ gI s 77 ∧ gI s 77 ≤ 19 := hRs.1 77; have : (0 : Int) ≤ gI s31 77 ∧ gI s31 77 ≤ 19 := hRs31.1 77; have : (0 : Int) ≤ gI s 47 ∧ gI s 47 ≤ 1 := hRs.1 47; omega) (hqr16s_1) (⟨hqr16s_2.1.trans hv37_3.1, hqr16s_2.2.1.trans hv37_3.2.1, hqr16s_2.2.2.trans hv37_3.2.2⟩) (hqr16s_3) (hv37_5) (by have : gI qr16s 47 = gI s4 47 := Fqr16s.1 47 (by decide); have : gI qr16s 1 = gI s4 1 := Fqr16s.1 1 (by decide); have : (0 : Int) ≤ gI s4 47 ∧ gI s4 47 ≤ 1 := hRs4.1 47; have : (0 : Int) ≤ gI s 1 ∧ gI s 1 ≤ 1600 := hRs.1 1; have : (0 : Int) ≤ gI s4 1 ∧ gI s4 1 ≤ 1600 := hRs4.1 1; have : (0 : Int) ≤ gI s 76 ∧ gI s 76 ≤ 20 := hRs.1 76; have : (0 : Int) ≤ gI s31 76 ∧ gI s31 76 ≤ 20 := hRs31.1 76; have : (0 : Int) ≤ gI s 77 ∧ gI s 77 ≤ 19 := hRs.1 77; have : (0 : Int) ≤ gI s31 77 ∧ gI s31 77 ≤ 19 := hRs31.1 77; have : (0 : Int) ≤ gI s 47 ∧ gI s 47 ≤ 1 := hRs.1 47; omega)
      exact L37 FU p0 0 0 s33 hRs33 (by show 1 ≤ p0 ∧ p0 ≤ 40; have : (0 : Int) ≤ gI s 76 ∧ gI s 76 ≤ 20 := hRs.1 76; have : (0 : Int) ≤ gI s31 76 ∧ gI s31 76 ≤ 20 := hRs31.1 76; have : (0 : Int) ≤ gI s 77 ∧ gI s 77 ≤ 19 := hRs.1 77; have : (0 : Int) ≤ gI s31 77 ∧ gI s31 77 ≤ 19 := hRs31.1 77; have : (0 : Int) ≤ gI s 47 ∧ gI s 47 ≤ 1 := hRs.1 47; omega) (by show 0 ≤ (0 : Int) ∧ (0 : Int) ≤ (0 : Int) ∧ (0 : Int) ≤ p0; have : (0 : Int) ≤ gI s 76 ∧ gI s 76 ≤ 20 := hRs.1 76; have : (0 : Int) ≤ gI s31 76 ∧ gI s31 76 ≤ 20 := hRs31.1 76; have : (0 : Int) ≤ gI s 77 ∧ gI s 77 ≤ 19 := hRs.1 77; have : (0 : Int) ≤ gI s31 77 ∧ gI s31 77 ≤ 19 := hRs31.1 77; have : (0 : Int) ≤ gI s 47 ∧ gI s 47 ≤ 1 := hRs.1 47; omega) (GA_eq Gs31 ⟨(Fs33.2.1 39 (by decide)), (Fs33.2.1 42 (by decide)), (Fs33.2.1 43 (by decide)), (Fs33.2.1 44 (by decide))⟩ (Fs33.2.1 49 (by decide)) (Fs33.2.1 75 (by decide)) (Fs33.1 76 (by decide)) (Fs33.1 77 (by decide))) (⟨((Fs33.1 1 (by decide)).trans (Fs31.1 1 (by decide))), ((Fs33.1 47 (by decide)).trans (Fs31.1 47 (by decide))), ((Fs33.2.1 39 (by decide)).trans (Fs31.2.1 39 (by decide)))⟩) (by rw [((Fs33.2.2.1 78 (by decide)).trans (Fs31.2.2.1 78 (by decide)))]; exact hpJ.2.1) (kt) (by have := FU_big; have := FU_big2; have : (0 : Int) ≤ gI s 76 ∧ gI s 76 ≤ 20 := hRs.1 76; have : (0 : Int) ≤ gI s31 76 ∧ gI s31 76 ≤ 20 := hRs31.1 76; have : (0 : Int) ≤ gI s 77 ∧ gI s 77 ≤ 19 := hRs.1 77; have : (0 : Int) ≤ gI s31 77 ∧ gI s31 77 ≤ 19 := hRs31.1 77; have : (0 : Int) ≤ gI s 47 ∧ gI s 47 ≤ 1 := hRs.1 47; omega)
