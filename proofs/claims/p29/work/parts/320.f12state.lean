set_option maxHeartbeats 1000000 in
theorem w_x12_putTold {s : MS} (hRs : Rr s) (hp0 : gI s 2 ≤ gI s 3) (hp1 : SP s 0) (hp2 : 1 ≤ gI s 46 ∧ gI s 46 < 60) : wp (m_x12_putTold s) (fun o => (Rr o) ∧ (SP o 1) ∧ (gI s 2 ≤ gI o 2 ∧ gI o 2 ≤ gI o 3) ∧ (gI s 5 ≠ 0 → gI o 5 ≠ 0) ∧ (FBk s o)) := by
  unfold m_x12_putTold
  refine wp_bn (w_x12_volumeNamed hRs (by show gI s 2 ≤ gI s 3; have : (0 : Int) ≤ gI s 46 ∧ gI s 46 ≤ 60 := hRs.1 46; have : (0 : Int) ≤ gI s 3 ∧ gI s 3 ≤ 1600 := hRs.1 3; have : (0 : Int) ≤ gI s 2 ∧ gI s 2 ≤ 1600 := hRs.1 2; omega) (hp1.1.1)) (fun qqr3 eqr3s hqr3s => ?_)
  obtain ⟨qr3r, qr3s⟩ := qqr3
  dsimp only at eqr3s hqr3s ⊢
  have Fqr3s : F_x12_volumeNamed s qr3s := fr_x12_volumeNamed eqr3s
  obtain ⟨hRqr3s, hqr3s_0, hqr3s_1, hqr3s_2⟩ := hqr3s
  have hqr3s_0 : (0 ≤ qr3r ∧ qr3r ≤ 7) ∧ (gI qr3s 5 = 0 → qr3r < gA s 39 2) := hqr3s_0
  have hqr3s_1 : gI s 2 ≤ gI qr3s 2 ∧ gI qr3s 2 ≤ gI qr3s 3 := hqr3s_1
  have hqr3s_2 : gI s 5 ≠ 0 → gI qr3s 5 ≠ 0 := hqr3s_2
  refine wp_bn (w_x12_number hRqr3s (by show gI qr3s 2 ≤ gI qr3s 3; have : (0 : Int) ≤ gI s 5 ∧ gI s 5 ≤ 5 := hRs.1 5; have : (0 : Int) ≤ gI qr3s 5 ∧ gI qr3s 5 ≤ 5 := hRqr3s.1 5; have : (0 : Int) ≤ gI s 46 ∧ gI s 46 ≤ 60 := hRs.1 46; have : (0 : Int) ≤ gI s 3 ∧ gI s 3 ≤ 1600 := hRs.1 3; have : (0 : Int) ≤ gI s 2 ∧ gI s 2 ≤ 1600 := hRs.1 2; have : gI qr3s 3 = gI s 3 := Fqr3s.1 3 (by decide); have : (0 : Int) ≤ gI qr3s 2 ∧ gI qr3s 2 ≤ 1600 := hRqr3s.1 2; omega) (by show 0 ≤ (0 : Int) ∧ (0 : Int) ≤ (999 : Int) ∧ (999 : Int) ≤ 9999; have : (0 : Int) ≤ gI s 5 ∧ gI s 5 ≤ 5 := hRs.1 5; have : gI qr3s 3 = gI s 3 := Fqr3s.1 3 (by decide); have : (0 : Int) ≤ gI qr3s 2 ∧ gI qr3s 2 ≤ 1600 := hRqr3s.1 2; have : (0 : Int) ≤ gI qr3s 5 ∧ gI qr3s 5 ≤ 5 := hRqr3s.1 5; have : (0 : Int) ≤ gI s 46 ∧ gI s 46 ≤ 60 := hRs.1 46; have : (0 : Int) ≤ gI s 3 ∧ gI s 3 ≤ 1600 := hRs.1 3; have : (0 : Int) ≤ gI s 2 ∧ gI s 2 ≤ 1600 := hRs.1 2; omega)) (fun qqr6 eqr6s hqr6s => ?_)
  obtain ⟨qr6r, qr6s⟩ := qqr6
  dsimp only at eqr6s hqr6s ⊢
  have Fqr6s : F_x12_number qr3s qr6s := fr_x12_number eqr6s
  obtain ⟨hRqr6s, hqr6s_0, hqr6s_1, hqr6s_2, hqr6s_3⟩ := hqr6s
  have hqr6s_0 : 0 ≤ qr6r ∧ qr6r ≤ 9999 := hqr6s_0
  have hqr6s_1 : gI qr3s 2 ≤ gI qr6s 2 ∧ gI qr6s 2 ≤ gI qr6s 3 := hqr6s_1
  have hqr6s_2 : gI qr3s 5 ≠ 0 → gI qr6s 5 ≠ 0 := hqr6s_2
  have hqr6s_3 : gI qr6s 5 = 0 → ((0 : Int) ≤ qr6r ∧ qr6r ≤ (999 : Int)) ∧ gI qr3s 2 + 1 ≤ gI qr6s 2 := hqr6s_3
  refine wp_bn (w_x12_number hRqr6s (by show gI qr6s 2 ≤ gI qr6s 3; have : (0 : Int) ≤ gI qr6s 5 ∧ gI qr6s 5 ≤ 5 := hRqr6s.1 5; have : (0 : Int) ≤ gI s 5 ∧ gI s 5 ≤ 5 := hRs.1 5; have : gI qr3s 3 = gI s 3 := Fqr3s.1 3 (by decide); have : (0 : Int) ≤ gI qr3s 2 ∧ gI qr3s 2 ≤ 1600 := hRqr3s.1 2; have : (0 : Int) ≤ gI qr3s 5 ∧ gI qr3s 5 ≤ 5 := hRqr3s.1 5; have : (0 : Int) ≤ gI s 46 ∧ gI s 46 ≤ 60 := hRs.1 46; have : (0 : Int) ≤ gI s 3 ∧ gI s 3 ≤ 1600 := hRs.1 3; have : (0 : Int) ≤ gI s 2 ∧ gI s 2 ≤ 1600 := hRs.1 2; have : gI qr6s 3 = gI qr3s 3 := Fqr6s.1 3 (by decide); have : (0 : Int) ≤ gI qr6s 2 ∧ gI qr6s 2 ≤ 1600 := hRqr6s.1 2; omega) (by show 0 ≤ (0 : Int) ∧ (0 : Int) ≤ (999 : Int) ∧ (999 : Int) ≤ 9999; have : (0 : Int) ≤ gI qr6s 5 ∧ gI qr6s 5 ≤ 5 := hRqr6s.1 5; have : gI qr6s 3 = gI qr3s 3 := Fqr6s.1 3 (by decide); have : (0 : Int) ≤ gI qr6s 2 ∧ gI qr6s 2 ≤ 1600 := hRqr6s.1 2; have : (0 : Int) ≤ gI s 5 ∧ gI s 5 ≤ 5 := hRs.1 5; have : gI qr3s 3 = gI s 3 := Fqr3s.1 3 (by decide); have : (0 : Int) ≤ gI qr3s 2 ∧ gI qr3s 2 ≤ 1600 := hRqr3s.1 2; have : (0 : Int) ≤ gI qr3s 5 ∧ gI qr3s 5 ≤ 5 := hRqr3s.1 5; have : (0 : Int) ≤ gI s 46 ∧ gI s 46 ≤ 60 := hRs.1 46; have : (0 : Int) ≤ gI s 3 ∧ gI s 3 ≤ 1600 := hRs.1 3; have : (0 : Int) ≤ gI s 2 ∧ gI s 2 ≤ 1600 := hRs.1 2; omega)) (fun qqr9 eqr9s hqr9s => ?_)
  obtain ⟨qr9r, qr9s⟩ := qqr9
  dsimp only at eqr9s hqr9s ⊢
  have Fqr9s : F_x12_number qr6s qr9s := fr_x12_number eqr9s
  obtain ⟨hRqr9s, hqr9s_0, hqr9s_1, hqr9s_2, hqr9s_3⟩ := hqr9s
  have hqr9s_0 : 0 ≤ qr9r ∧ qr9r ≤ 9999 := hqr9s_0
  have hqr9s_1 : gI qr6s 2 ≤ gI qr9s 2 ∧ gI qr9s 2 ≤ gI qr9s 3 := hqr9s_1
  have hqr9s_2 : gI qr6s 5 ≠ 0 → gI qr9s 5 ≠ 0 := hqr9s_2
  have hqr9s_3 : gI qr9s 5 = 0 → ((0 : Int) ≤ qr9r ∧ qr9r ≤ (999 : Int)) ∧ gI qr6s 2 + 1 ≤ gI qr9s 2 := hqr9s_3
  refine wp_bn (w_x12_actTold hRqr9s (by have z : gA qr9s 39 = gA s 39 := ((Fqr9s.2.1 39 (by decide)).trans ((Fqr6s.2.1 39 (by decide)).trans (Fqr3s.2.1 39 (by decide)))); rw [z]; have z2 := hp1.1.2; omega) (by show R2 (2 : Int); have : (0 : Int) ≤ gI qr9s 5 ∧ gI qr9s 5 ≤ 5 := hRqr9s.1 5; have : gI qr9s 3 = gI qr6s 3 := Fqr9s.1 3 (by decide); have : (0 : Int) ≤ gI qr9s 2 ∧ gI qr9s 2 ≤ 1600 := hRqr9s.1 2; have : (0 : Int) ≤ gI qr6s 5 ∧ gI qr6s 5 ≤ 5 := hRqr6s.1 5; have : gI qr6s 3 = gI qr3s 3 := Fqr6s.1 3 (by decide); have : (0 : Int) ≤ gI qr6s 2 ∧ gI qr6s 2 ≤ 1600 := hRqr6s.1 2; have : (0 : Int) ≤ gI s 5 ∧ gI s 5 ≤ 5 := hRs.1 5; have : gI qr3s 3 = gI s 3 := Fqr3s.1 3 (by decide); have : (0 : Int) ≤ gI qr3s 2 ∧ gI qr3s 2 ≤ 1600 := hRqr3s.1 2; have : (0 : Int) ≤ gI qr3s 5 ∧ gI qr3s 5 ≤ 5 := hRqr3s.1 5; have : (0 : Int) ≤ gI s 46 ∧ gI s 46 ≤ 60 := hRs.1 46; have : (0 : Int) ≤ gI s 3 ∧ gI s 3 ≤ 1600 := hRs.1 3; have : (0 : Int) ≤ gI s 2 ∧ gI s 2 ≤ 1600 := hRs.1 2; omega) (by show R2 qr3r; have : (0 : Int) ≤ gI qr9s 5 ∧ gI qr9s 5 ≤ 5 := hRqr9s.1 5; have : gI qr9s 3 = gI qr6s 3 := Fqr9s.1 3 (by decide); have : (0 : Int) ≤ gI qr9s 2 ∧ gI qr9s 2 ≤ 1600 := hRqr9s.1 2; have : (0 : Int) ≤ gI qr6s 5 ∧ gI qr6s 5 ≤ 5 := hRqr6s.1 5; have : gI qr6s 3 = gI qr3s 3 := Fqr6s.1 3 (by decide); have : (0 : Int) ≤ gI qr6s 2 ∧ gI qr6s 2 ≤ 1600 := hRqr6s.1 2; have : (0 : Int) ≤ gI s 5 ∧ gI s 5 ≤ 5 := hRs.1 5; have : gI qr3s 3 = gI s 3 := Fqr3s.1 3 (by decide); have : (0 : Int) ≤ gI qr3s 2 ∧ gI qr3s 2 ≤ 1600 := hRqr3s.1 2; have : (0 : Int) ≤ gI qr3s 5 ∧ gI qr3s 5 ≤ 5 := hRqr3s.1 5; have : (0 : Int) ≤ gI s 46 ∧ gI s 46 ≤ 60 := hRs.1 46; have : (0 : Int) ≤ gI s 3 ∧ gI s 3 ≤ 1600 := hRs.1 3; have : (0 : Int) ≤ gI s 2 ∧ gI s 2 ≤ 1600 := hRs.1 2; omega) (by show R2 qr6r; have : (0 : Int) ≤ gI qr9s 5 ∧ gI qr9s 5 ≤ 5 := hRqr9s.1 5; have : gI qr9s 3 = gI qr6s 3 := Fqr9s.1 3 (by decide); have : (0 : Int) ≤ gI qr9s 2 ∧ gI qr9s 2 ≤ 1600 := hRqr9s.1 2; have : (0 : Int) ≤ gI qr6s 5 ∧ gI qr6s 5 ≤ 5 := hRqr6s.1 5; have : gI qr6s 3 = gI qr3s 3 := Fqr6s.1 3 (by decide); have : (0 : Int) ≤ gI qr6s 2 ∧ gI qr6s 2 ≤ 1600 := hRqr6s.1 2; have : (0 : Int) ≤ gI s 5 ∧ gI s 5 ≤ 5 := hRs.1 5; have : gI qr3s 3 = gI s 3 := Fqr3s.1 3 (by decide); have : (0 : Int) ≤ gI qr3s 2 ∧ gI qr3s 2 ≤ 1600 := hRqr3s.1 2; have : (0 : Int) ≤ gI qr3s 5 ∧ gI qr3s 5 ≤ 5 := hRqr3s.1 5; have : (0 : Int) ≤ gI s 46 ∧ gI s 46 ≤ 60 := hRs.1 46; have : (0 : Int) ≤ gI s 3 ∧ gI s 3 ≤ 1600 := hRs.1 3; have : (0 : Int) ≤ gI s 2 ∧ gI s 2 ≤ 1600 := hRs.1 2; omega) (by show R2 qr9r; have : (0 : Int) ≤ gI qr9s 5 ∧ gI qr9s 5 ≤ 5 := hRqr9s.1 5; have : gI qr9s 3 = gI qr6s 3 := Fqr9s.1 3 (by decide); have : (0 : Int) ≤ gI qr9s 2 ∧ gI qr9s 2 ≤ 1600 := hRqr9s.1 2; have : (0 : Int) ≤ gI qr6s 5 ∧ gI qr6s 5 ≤ 5 := hRqr6s.1 5; have : gI qr6s 3 = gI qr3s 3 := Fqr6s.1 3 (by decide); have : (0 : Int) ≤ gI qr6s 2 ∧ gI qr6s 2 ≤ 1600 := hRqr6s.1 2; have : (0 : Int) ≤ gI s 5 ∧ gI s 5 ≤ 5 := hRs.1 5; have : gI qr3s 3 = gI s 3 := Fqr3s.1 3 (by decide); have : (0 : Int) ≤ gI qr3s 2 ∧ gI qr3s 2 ≤ 1600 := hRqr3s.1 2; have : (0 : Int) ≤ gI qr3s 5 ∧ gI qr3s 5 ≤ 5 := hRqr3s.1 5; have : (0 : Int) ≤ gI s 46 ∧ gI s 46 ≤ 60 := hRs.1 46; have : (0 : Int) ≤ gI s 3 ∧ gI s 3 ≤ 1600 := hRs.1 3; have : (0 : Int) ≤ gI s 2 ∧ gI s 2 ≤ 1600 := hRs.1 2; omega)) (fun s11 es11 hs11 => ?_)
  have Fs11 : F_x12_actTold qr9s s11 := fr_x12_actTold es11
  obtain ⟨hRs11, hs11_0, hs11_1, hs11_2⟩ := hs11
  have hs11_0 : gI qr9s 5 = 0 → ActE qr9s s11 (2 : Int) qr3r qr6r qr9r := hs11_0
  have hs11_1 : gI qr9s 5 ≠ 0 → gA s11 41 = gA qr9s 41 ∧ gA s11 39 = gA qr9s 39 := hs11_1
  have hs11_2 : FBk qr9s s11 := hs11_2
  exact wp_some ⟨hRs11, by
      have q0 : SP qr9s 0 := SP_eq (hp1) ((Fqr9s.2.1 39 (by decide)).trans ((Fqr6s.2.1 39 (by decide)).trans (Fqr3s.2.1 39 (by decide)))) ((Fqr9s.2.1 41 (by decide)).trans ((Fqr6s.2.1 41 (by decide)).trans (Fqr3s.2.1 41 (by decide)))) ((Fqr9s.2.1 42 (by decide)).trans ((Fqr6s.2.1 42 (by decide)).trans (Fqr3s.2.1 42 (by decide)))) ((Fqr9s.2.1 43 (by decide)).trans ((Fqr6s.2.1 43 (by decide)).trans (Fqr3s.2.1 43 (by decide)))) ((Fqr9s.2.1 44 (by decide)).trans ((Fqr6s.2.1 44 (by decide)).trans (Fqr3s.2.1 44 (by decide)))) ((Fqr9s.1 45 (by decide)).trans ((Fqr6s.1 45 (by decide)).trans (Fqr3s.1 45 (by decide)))) (by have : (0 : Int) ≤ gI qr9s 5 ∧ gI qr9s 5 ≤ 5 := hRqr9s.1 5; have : gI qr9s 3 = gI qr6s 3 := Fqr9s.1 3 (by decide); have : (0 : Int) ≤ gI qr9s 2 ∧ gI qr9s 2 ≤ 1600 := hRqr9s.1 2; have : (0 : Int) ≤ gI qr6s 5 ∧ gI qr6s 5 ≤ 5 := hRqr6s.1 5; have : gI qr6s 3 = gI qr3s 3 := Fqr6s.1 3 (by decide); have : (0 : Int) ≤ gI qr6s 2 ∧ gI qr6s 2 ≤ 1600 := hRqr6s.1 2; have : (0 : Int) ≤ gI s 5 ∧ gI s 5 ≤ 5 := hRs.1 5; have : gI qr3s 3 = gI s 3 := Fqr3s.1 3 (by decide); have : (0 : Int) ≤ gI qr3s 2 ∧ gI qr3s 2 ≤ 1600 := hRqr3s.1 2; have : (0 : Int) ≤ gI qr3s 5 ∧ gI qr3s 5 ≤ 5 := hRqr3s.1 5; have : (0 : Int) ≤ gI s 3 ∧ gI s 3 ≤ 1600 := hRs.1 3; have : (0 : Int) ≤ gI s 2 ∧ gI s 2 ≤ 1600 := hRs.1 2; have : (0 : Int) ≤ gI s 46 ∧ gI s 46 ≤ 60 := hRs.1 46; have : gI qr9s 46 = gI qr6s 46 := Fqr9s.1 46 (by decide); have : gI qr6s 46 = gI qr3s 46 := Fqr6s.1 46 (by decide); have : gI qr3s 46 = gI s 46 := Fqr3s.1 46 (by decide); omega) (by have : (0 : Int) ≤ gI qr9s 5 ∧ gI qr9s 5 ≤ 5 := hRqr9s.1 5; have : gI qr9s 3 = gI qr6s 3 := Fqr9s.1 3 (by decide); have : (0 : Int) ≤ gI qr6s 5 ∧ gI qr6s 5 ≤ 5 := hRqr6s.1 5; have : gI qr6s 3 = gI qr3s 3 := Fqr6s.1 3 (by decide); have : (0 : Int) ≤ gI qr6s 2 ∧ gI qr6s 2 ≤ 1600 := hRqr6s.1 2; have : (0 : Int) ≤ gI s 5 ∧ gI s 5 ≤ 5 := hRs.1 5; have : gI qr3s 3 = gI s 3 := Fqr3s.1 3 (by decide); have : (0 : Int) ≤ gI qr3s 2 ∧ gI qr3s 2 ≤ 1600 := hRqr3s.1 2; have : (0 : Int) ≤ gI qr3s 5 ∧ gI qr3s 5 ≤ 5 := hRqr3s.1 5; have : (0 : Int) ≤ gI s 46 ∧ gI s 46 ≤ 60 := hRs.1 46; have : (0 : Int) ≤ gI s 3 ∧ gI s 3 ≤ 1600 := hRs.1 3; have : (0 : Int) ≤ gI s 2 ∧ gI s 2 ≤ 1600 := hRs.1 2; have : (0 : Int) ≤ gI qr9s 2 ∧ gI qr9s 2 ≤ 1600 := hRqr9s.1 2; omega) (by have : gI qr9s 3 = gI qr6s 3 := Fqr9s.1 3 (by decide); have : (0 : Int) ≤ gI qr9s 2 ∧ gI qr9s 2 ≤ 1600 := hRqr9s.1 2; have : (0 : Int) ≤ gI qr6s 5 ∧ gI qr6s 5 ≤ 5 := hRqr6s.1 5; have : gI qr6s 3 = gI qr3s 3 := Fqr6s.1 3 (by decide); have : (0 : Int) ≤ gI qr6s 2 ∧ gI qr6s 2 ≤ 1600 := hRqr6s.1 2; have : gI qr3s 3 = gI s 3 := Fqr3s.1 3 (by decide); have : (0 : Int) ≤ gI qr3s 2 ∧ gI qr3s 2 ≤ 1600 := hRqr3s.1 2; have : (0 : Int) ≤ gI qr3s 5 ∧ gI qr3s 5 ≤ 5 := hRqr3s.1 5; have : (0 : Int) ≤ gI s 46 ∧ gI s 46 ≤ 60 := hRs.1 46; have : (0 : Int) ≤ gI s 3 ∧ gI s 3 ≤ 1600 := hRs.1 3; have : (0 : Int) ≤ gI s 2 ∧ gI s 2 ≤ 1600 := hRs.1 2; have : (0 : Int) ≤ gI s 5 ∧ gI s 5 ≤ 5 := hRs.1 5; have : (0 : Int) ≤ gI qr9s 5 ∧ gI qr9s 5 ≤ 5 := hRqr9s.1 5; omega)
      have w39 : gA qr9s 39 = gA s 39 := ((Fqr9s.2.1 39 (by decide)).trans ((Fqr6s.2.1 39 (by decide)).trans (Fqr3s.2.1 39 (by decide))))
      by_cases z5 : gI qr9s 5 = 0
      · have E := hs11_0 z5
        exact SP_act q0 E (by omega) (by have : gI qr9s 3 = gI qr6s 3 := Fqr9s.1 3 (by decide); have : (0 : Int) ≤ gI qr9s 2 ∧ gI qr9s 2 ≤ 1600 := hRqr9s.1 2; have : (0 : Int) ≤ gI qr6s 5 ∧ gI qr6s 5 ≤ 5 := hRqr6s.1 5; have : gI qr6s 3 = gI qr3s 3 := Fqr6s.1 3 (by decide); have : (0 : Int) ≤ gI qr6s 2 ∧ gI qr6s 2 ≤ 1600 := hRqr6s.1 2; have : gI qr3s 3 = gI s 3 := Fqr3s.1 3 (by decide); have : (0 : Int) ≤ gI qr3s 2 ∧ gI qr3s 2 ≤ 1600 := hRqr3s.1 2; have : (0 : Int) ≤ gI qr3s 5 ∧ gI qr3s 5 ≤ 5 := hRqr3s.1 5; have : (0 : Int) ≤ gI s 46 ∧ gI s 46 ≤ 60 := hRs.1 46; have : (0 : Int) ≤ gI s 3 ∧ gI s 3 ≤ 1600 := hRs.1 3; have : (0 : Int) ≤ gI s 2 ∧ gI s 2 ≤ 1600 := hRs.1 2; have : (0 : Int) ≤ gI s 5 ∧ gI s 5 ≤ 5 := hRs.1 5; have : (0 : Int) ≤ gI qr9s 5 ∧ gI qr9s 5 ≤ 5 := hRqr9s.1 5; have : gI s11 5 = gI qr9s 5 := Fs11.1 5 (by decide); rw [w39]; omega) (by have : gI qr9s 3 = gI qr6s 3 := Fqr9s.1 3 (by decide); have : (0 : Int) ≤ gI qr9s 2 ∧ gI qr9s 2 ≤ 1600 := hRqr9s.1 2; have : (0 : Int) ≤ gI qr6s 5 ∧ gI qr6s 5 ≤ 5 := hRqr6s.1 5; have : gI qr6s 3 = gI qr3s 3 := Fqr6s.1 3 (by decide); have : (0 : Int) ≤ gI qr6s 2 ∧ gI qr6s 2 ≤ 1600 := hRqr6s.1 2; have : gI qr3s 3 = gI s 3 := Fqr3s.1 3 (by decide); have : (0 : Int) ≤ gI qr3s 2 ∧ gI qr3s 2 ≤ 1600 := hRqr3s.1 2; have : (0 : Int) ≤ gI qr3s 5 ∧ gI qr3s 5 ≤ 5 := hRqr3s.1 5; have : (0 : Int) ≤ gI s 46 ∧ gI s 46 ≤ 60 := hRs.1 46; have : (0 : Int) ≤ gI s 3 ∧ gI s 3 ≤ 1600 := hRs.1 3; have : (0 : Int) ≤ gI s 2 ∧ gI s 2 ≤ 1600 := hRs.1 2; have : (0 : Int) ≤ gI s 5 ∧ gI s 5 ≤ 5 := hRs.1 5; have : (0 : Int) ≤ gI qr9s 5 ∧ gI qr9s 5 ≤ 5 := hRqr9s.1 5; have : gI s11 5 = gI qr9s 5 := Fs11.1 5 (by decide); omega) (by have : gI qr9s 3 = gI qr6s 3 := Fqr9s.1 3 (by decide); have : (0 : Int) ≤ gI qr9s 2 ∧ gI qr9s 2 ≤ 1600 := hRqr9s.1 2; have : (0 : Int) ≤ gI qr6s 5 ∧ gI qr6s 5 ≤ 5 := hRqr6s.1 5; have : gI qr6s 3 = gI qr3s 3 := Fqr6s.1 3 (by decide); have : (0 : Int) ≤ gI qr6s 2 ∧ gI qr6s 2 ≤ 1600 := hRqr6s.1 2; have : gI qr3s 3 = gI s 3 := Fqr3s.1 3 (by decide); have : (0 : Int) ≤ gI qr3s 2 ∧ gI qr3s 2 ≤ 1600 := hRqr3s.1 2; have : (0 : Int) ≤ gI qr3s 5 ∧ gI qr3s 5 ≤ 5 := hRqr3s.1 5; have : (0 : Int) ≤ gI s 46 ∧ gI s 46 ≤ 60 := hRs.1 46; have : (0 : Int) ≤ gI s 3 ∧ gI s 3 ≤ 1600 := hRs.1 3; have : (0 : Int) ≤ gI s 2 ∧ gI s 2 ≤ 1600 := hRs.1 2; have : (0 : Int) ≤ gI s 5 ∧ gI s 5 ≤ 5 := hRs.1 5; have : (0 : Int) ≤ gI qr9s 5 ∧ gI qr9s 5 ≤ 5 := hRqr9s.1 5; have : gI s11 5 = gI qr9s 5 := Fs11.1 5 (by decide); omega) (Fs11.2.1 42 (by decide)) (Fs11.2.1 43 (by decide)) (Fs11.2.1 44 (by decide)) (Fs11.1 45 (by decide)) (by have : (0 : Int) ≤ gI qr9s 5 ∧ gI qr9s 5 ≤ 5 := hRqr9s.1 5; have : gI qr9s 3 = gI qr6s 3 := Fqr9s.1 3 (by decide); have : (0 : Int) ≤ gI qr9s 2 ∧ gI qr9s 2 ≤ 1600 := hRqr9s.1 2; have : (0 : Int) ≤ gI qr6s 5 ∧ gI qr6s 5 ≤ 5 := hRqr6s.1 5; have : gI qr6s 3 = gI qr3s 3 := Fqr6s.1 3 (by decide); have : (0 : Int) ≤ gI qr6s 2 ∧ gI qr6s 2 ≤ 1600 := hRqr6s.1 2; have : (0 : Int) ≤ gI s 5 ∧ gI s 5 ≤ 5 := hRs.1 5; have : gI qr3s 3 = gI s 3 := Fqr3s.1 3 (by decide); have : (0 : Int) ≤ gI qr3s 2 ∧ gI qr3s 2 ≤ 1600 := hRqr3s.1 2; have : (0 : Int) ≤ gI qr3s 5 ∧ gI qr3s 5 ≤ 5 := hRqr3s.1 5; have : (0 : Int) ≤ gI s 3 ∧ gI s 3 ≤ 1600 := hRs.1 3; have : (0 : Int) ≤ gI s 2 ∧ gI s 2 ≤ 1600 := hRs.1 2; have : gI qr9s 46 = gI qr6s 46 := Fqr9s.1 46 (by decide); have : gI qr6s 46 = gI qr3s 46 := Fqr6s.1 46 (by decide); have : gI qr3s 46 = gI s 46 := Fqr3s.1 46 (by decide); have : (0 : Int) ≤ gI s 46 ∧ gI s 46 ≤ 60 := hRs.1 46; have : gI s11 46 = gI qr9s 46 := Fs11.1 46 (by decide); omega) (by have : (0 : Int) ≤ gI qr9s 5 ∧ gI qr9s 5 ≤ 5 := hRqr9s.1 5; have : gI qr9s 3 = gI qr6s 3 := Fqr9s.1 3 (by decide); have : (0 : Int) ≤ gI qr6s 5 ∧ gI qr6s 5 ≤ 5 := hRqr6s.1 5; have : gI qr6s 3 = gI qr3s 3 := Fqr6s.1 3 (by decide); have : (0 : Int) ≤ gI qr6s 2 ∧ gI qr6s 2 ≤ 1600 := hRqr6s.1 2; have : (0 : Int) ≤ gI s 5 ∧ gI s 5 ≤ 5 := hRs.1 5; have : gI qr3s 3 = gI s 3 := Fqr3s.1 3 (by decide); have : (0 : Int) ≤ gI qr3s 2 ∧ gI qr3s 2 ≤ 1600 := hRqr3s.1 2; have : (0 : Int) ≤ gI qr3s 5 ∧ gI qr3s 5 ≤ 5 := hRqr3s.1 5; have : (0 : Int) ≤ gI s 46 ∧ gI s 46 ≤ 60 := hRs.1 46; have : (0 : Int) ≤ gI s 3 ∧ gI s 3 ≤ 1600 := hRs.1 3; have : (0 : Int) ≤ gI s 2 ∧ gI s 2 ≤ 1600 := hRs.1 2; have : (0 : Int) ≤ gI qr9s 2 ∧ gI qr9s 2 ≤ 1600 := hRqr9s.1 2; have : gI s11 2 = gI qr9s 2 := Fs11.1 2 (by decide); omega) (by have : gI qr9s 3 = gI qr6s 3 := Fqr9s.1 3 (by decide); have : (0 : Int) ≤ gI qr9s 2 ∧ gI qr9s 2 ≤ 1600 := hRqr9s.1 2; have : (0 : Int) ≤ gI qr6s 5 ∧ gI qr6s 5 ≤ 5 := hRqr6s.1 5; have : gI qr6s 3 = gI qr3s 3 := Fqr6s.1 3 (by decide); have : (0 : Int) ≤ gI qr6s 2 ∧ gI qr6s 2 ≤ 1600 := hRqr6s.1 2; have : gI qr3s 3 = gI s 3 := Fqr3s.1 3 (by decide); have : (0 : Int) ≤ gI qr3s 2 ∧ gI qr3s 2 ≤ 1600 := hRqr3s.1 2; have : (0 : Int) ≤ gI qr3s 5 ∧ gI qr3s 5 ≤ 5 := hRqr3s.1 5; have : (0 : Int) ≤ gI s 46 ∧ gI s 46 ≤ 60 := hRs.1 46; have : (0 : Int) ≤ gI s 3 ∧ gI s 3 ≤ 1600 := hRs.1 3; have : (0 : Int) ≤ gI s 2 ∧ gI s 2 ≤ 1600 := hRs.1 2; have : (0 : Int) ≤ gI s 5 ∧ gI s 5 ≤ 5 := hRs.1 5; have : (0 : Int) ≤ gI qr9s 5 ∧ gI qr9s 5 ≤ 5 := hRqr9s.1 5; have : gI s11 5 = gI qr9s 5 := Fs11.1 5 (by decide); omega)
      · have E := hs11_1 z5
        exact SP_eq q0 E.2 E.1 (Fs11.2.1 42 (by decide)) (Fs11.2.1 43 (by decide)) (Fs11.2.1 44 (by decide)) (Fs11.1 45 (by decide)) (by have : (0 : Int) ≤ gI qr9s 5 ∧ gI qr9s 5 ≤ 5 := hRqr9s.1 5; have : gI qr9s 3 = gI qr6s 3 := Fqr9s.1 3 (by decide); have : (0 : Int) ≤ gI qr9s 2 ∧ gI qr9s 2 ≤ 1600 := hRqr9s.1 2; have : (0 : Int) ≤ gI qr6s 5 ∧ gI qr6s 5 ≤ 5 := hRqr6s.1 5; have : gI qr6s 3 = gI qr3s 3 := Fqr6s.1 3 (by decide); have : (0 : Int) ≤ gI qr6s 2 ∧ gI qr6s 2 ≤ 1600 := hRqr6s.1 2; have : (0 : Int) ≤ gI s 5 ∧ gI s 5 ≤ 5 := hRs.1 5; have : gI qr3s 3 = gI s 3 := Fqr3s.1 3 (by decide); have : (0 : Int) ≤ gI qr3s 2 ∧ gI qr3s 2 ≤ 1600 := hRqr3s.1 2; have : (0 : Int) ≤ gI qr3s 5 ∧ gI qr3s 5 ≤ 5 := hRqr3s.1 5; have : (0 : Int) ≤ gI s 3 ∧ gI s 3 ≤ 1600 := hRs.1 3; have : (0 : Int) ≤ gI s 2 ∧ gI s 2 ≤ 1600 := hRs.1 2; have : gI qr9s 46 = gI qr6s 46 := Fqr9s.1 46 (by decide); have : gI qr6s 46 = gI qr3s 46 := Fqr6s.1 46 (by decide); have : gI qr3s 46 = gI s 46 := Fqr3s.1 46 (by decide); have : (0 : Int) ≤ gI s 46 ∧ gI s 46 ≤ 60 := hRs.1 46; have : gI s11 46 = gI qr9s 46 := Fs11.1 46 (by decide); omega) (by have : (0 : Int) ≤ gI qr9s 5 ∧ gI qr9s 5 ≤ 5 := hRqr9s.1 5; have : gI qr9s 3 = gI qr6s 3 := Fqr9s.1 3 (by decide); have : (0 : Int) ≤ gI qr6s 5 ∧ gI qr6s 5 ≤ 5 := hRqr6s.1 5; have : gI qr6s 3 = gI qr3s 3 := Fqr6s.1 3 (by decide); have : (0 : Int) ≤ gI qr6s 2 ∧ gI qr6s 2 ≤ 1600 := hRqr6s.1 2; have : (0 : Int) ≤ gI s 5 ∧ gI s 5 ≤ 5 := hRs.1 5; have : gI qr3s 3 = gI s 3 := Fqr3s.1 3 (by decide); have : (0 : Int) ≤ gI qr3s 2 ∧ gI qr3s 2 ≤ 1600 := hRqr3s.1 2; have : (0 : Int) ≤ gI qr3s 5 ∧ gI qr3s 5 ≤ 5 := hRqr3s.1 5; have : (0 : Int) ≤ gI s 46 ∧ gI s 46 ≤ 60 := hRs.1 46; have : (0 : Int) ≤ gI s 3 ∧ gI s 3 ≤ 1600 := hRs.1 3; have : (0 : Int) ≤ gI s 2 ∧ gI s 2 ≤ 1600 := hRs.1 2; have : (0 : Int) ≤ gI qr9s 2 ∧ gI qr9s 2 ≤ 1600 := hRqr9s.1 2; have : gI s11 2 = gI qr9s 2 := Fs11.1 2 (by decide); omega) (by have : gI qr9s 3 = gI qr6s 3 := Fqr9s.1 3 (by decide); have : (0 : Int) ≤ gI qr9s 2 ∧ gI qr9s 2 ≤ 1600 := hRqr9s.1 2; have : (0 : Int) ≤ gI qr6s 5 ∧ gI qr6s 5 ≤ 5 := hRqr6s.1 5; have : gI qr6s 3 = gI qr3s 3 := Fqr6s.1 3 (by decide); have : (0 : Int) ≤ gI qr6s 2 ∧ gI qr6s 2 ≤ 1600 := hRqr6s.1 2; have : gI qr3s 3 = gI s 3 := Fqr3s.1 3 (by decide); have : (0 : Int) ≤ gI qr3s 2 ∧ gI qr3s 2 ≤ 1600 := hRqr3s.1 2; have : (0 : Int) ≤ gI qr3s 5 ∧ gI qr3s 5 ≤ 5 := hRqr3s.1 5; have : (0 : Int) ≤ gI s 46 ∧ gI s 46 ≤ 60 := hRs.1 46; have : (0 : Int) ≤ gI s 3 ∧ gI s 3 ≤ 1600 := hRs.1 3; have : (0 : Int) ≤ gI s 2 ∧ gI s 2 ≤ 1600 := hRs.1 2; have : (0 : Int) ≤ gI s 5 ∧ gI s 5 ≤ 5 := hRs.1 5; have : (0 : Int) ≤ gI qr9s 5 ∧ gI qr9s 5 ≤ 5 := hRqr9s.1 5; have : gI s11 5 = gI qr9s 5 := Fs11.1 5 (by decide); omega), by show gI s 2 ≤ gI s11 2 ∧ gI s11 2 ≤ gI s11 3; have : (0 : Int) ≤ gI qr9s 5 ∧ gI qr9s 5 ≤ 5 := hRqr9s.1 5; have : gI qr9s 3 = gI qr6s 3 := Fqr9s.1 3 (by decide); have : (0 : Int) ≤ gI qr9s 2 ∧ gI qr9s 2 ≤ 1600 := hRqr9s.1 2; have : (0 : Int) ≤ gI qr6s 5 ∧ gI qr6s 5 ≤ 5 := hRqr6s.1 5; have : gI qr6s 3 = gI qr3s 3 := Fqr6s.1 3 (by decide); have : (0 : Int) ≤ gI qr6s 2 ∧ gI qr6s 2 ≤ 1600 := hRqr6s.1 2; have : (0 : Int) ≤ gI s 5 ∧ gI s 5 ≤ 5 := hRs.1 5; have : gI qr3s 3 = gI s 3 := Fqr3s.1 3 (by decide); have : (0 : Int) ≤ gI qr3s 2 ∧ gI qr3s 2 ≤ 1600 := hRqr3s.1 2; have : (0 : Int) ≤ gI qr3s 5 ∧ gI qr3s 5 ≤ 5 := hRqr3s.1 5; have : (0 : Int) ≤ gI s 46 ∧ gI s 46 ≤ 60 := hRs.1 46; have : (0 : Int) ≤ gI s 3 ∧ gI s 3 ≤ 1600 := hRs.1 3; have : gI s11 3 = gI qr9s 3 := Fs11.1 3 (by decide); have : gI s11 2 = gI qr9s 2 := Fs11.1 2 (by decide); have : (0 : Int) ≤ gI s 2 ∧ gI s 2 ≤ 1600 := hRs.1 2; omega, by show gI s 5 ≠ 0 → gI s11 5 ≠ 0; have : (0 : Int) ≤ gI qr9s 5 ∧ gI qr9s 5 ≤ 5 := hRqr9s.1 5; have : gI qr9s 3 = gI qr6s 3 := Fqr9s.1 3 (by decide); have : (0 : Int) ≤ gI qr9s 2 ∧ gI qr9s 2 ≤ 1600 := hRqr9s.1 2; have : (0 : Int) ≤ gI qr6s 5 ∧ gI qr6s 5 ≤ 5 := hRqr6s.1 5; have : gI qr6s 3 = gI qr3s 3 := Fqr6s.1 3 (by decide); have : (0 : Int) ≤ gI qr6s 2 ∧ gI qr6s 2 ≤ 1600 := hRqr6s.1 2; have : gI qr3s 3 = gI s 3 := Fqr3s.1 3 (by decide); have : (0 : Int) ≤ gI qr3s 2 ∧ gI qr3s 2 ≤ 1600 := hRqr3s.1 2; have : (0 : Int) ≤ gI qr3s 5 ∧ gI qr3s 5 ≤ 5 := hRqr3s.1 5; have : (0 : Int) ≤ gI s 46 ∧ gI s 46 ≤ 60 := hRs.1 46; have : (0 : Int) ≤ gI s 3 ∧ gI s 3 ≤ 1600 := hRs.1 3; have : (0 : Int) ≤ gI s 2 ∧ gI s 2 ≤ 1600 := hRs.1 2; have : gI s11 5 = gI qr9s 5 := Fs11.1 5 (by decide); have : (0 : Int) ≤ gI s 5 ∧ gI s 5 ≤ 5 := hRs.1 5; omega, FB_t (FB_e ((Fqr9s.2.1 39 (by decide)).trans ((Fqr6s.2.1 39 (by decide)).trans (Fqr3s.2.1 39 (by decide)))) ((Fqr9s.2.1 42 (by decide)).trans ((Fqr6s.2.1 42 (by decide)).trans (Fqr3s.2.1 42 (by decide)))) ((Fqr9s.2.1 43 (by decide)).trans ((Fqr6s.2.1 43 (by decide)).trans (Fqr3s.2.1 43 (by decide)))) ((Fqr9s.2.1 44 (by decide)).trans ((Fqr6s.2.1 44 (by decide)).trans (Fqr3s.2.1 44 (by decide))))) hs11_2⟩
set_option maxHeartbeats 1000000 in
theorem w_x12_removeTold {s : MS} (hRs : Rr s) (hp0 : gI s 2 ≤ gI s 3) (hp1 : SP s 0) (hp2 : 1 ≤ gI s 46 ∧ gI s 46 < 60) : wp (m_x12_removeTold s) (fun o => (Rr o) ∧ (SP o 1) ∧ (gI s 2 ≤ gI o 2 ∧ gI o 2 ≤ gI o 3) ∧ (gI s 5 ≠ 0 → gI o 5 ≠ 0) ∧ (FBk s o)) := by
  unfold m_x12_removeTold
  refine wp_bn (w_x12_volumeNamed hRs (by show gI s 2 ≤ gI s 3; have : (0 : Int) ≤ gI s 46 ∧ gI s 46 ≤ 60 := hRs.1 46; have : (0 : Int) ≤ gI s 3 ∧ gI s 3 ≤ 1600 := hRs.1 3; have : (0 : Int) ≤ gI s 2 ∧ gI s 2 ≤ 1600 := hRs.1 2; omega) (hp1.1.1)) (fun qqr3 eqr3s hqr3s => ?_)
  obtain ⟨qr3r, qr3s⟩ := qqr3
  dsimp only at eqr3s hqr3s ⊢
  have Fqr3s : F_x12_volumeNamed s qr3s := fr_x12_volumeNamed eqr3s
  obtain ⟨hRqr3s, hqr3s_0, hqr3s_1, hqr3s_2⟩ := hqr3s
  have hqr3s_0 : (0 ≤ qr3r ∧ qr3r ≤ 7) ∧ (gI qr3s 5 = 0 → qr3r < gA s 39 2) := hqr3s_0
  have hqr3s_1 : gI s 2 ≤ gI qr3s 2 ∧ gI qr3s 2 ≤ gI qr3s 3 := hqr3s_1
  have hqr3s_2 : gI s 5 ≠ 0 → gI qr3s 5 ≠ 0 := hqr3s_2
  refine wp_bn (w_x12_number hRqr3s (by show gI qr3s 2 ≤ gI qr3s 3; have : (0 : Int) ≤ gI s 5 ∧ gI s 5 ≤ 5 := hRs.1 5; have : (0 : Int) ≤ gI qr3s 5 ∧ gI qr3s 5 ≤ 5 := hRqr3s.1 5; have : (0 : Int) ≤ gI s 46 ∧ gI s 46 ≤ 60 := hRs.1 46; have : (0 : Int) ≤ gI s 3 ∧ gI s 3 ≤ 1600 := hRs.1 3; have : (0 : Int) ≤ gI s 2 ∧ gI s 2 ≤ 1600 := hRs.1 2; have : gI qr3s 3 = gI s 3 := Fqr3s.1 3 (by decide); have : (0 : Int) ≤ gI qr3s 2 ∧ gI qr3s 2 ≤ 1600 := hRqr3s.1 2; omega) (by show 0 ≤ (0 : Int) ∧ (0 : Int) ≤ (999 : Int) ∧ (999 : Int) ≤ 9999; have : (0 : Int) ≤ gI s 5 ∧ gI s 5 ≤ 5 := hRs.1 5; have : gI qr3s 3 = gI s 3 := Fqr3s.1 3 (by decide); have : (0 : Int) ≤ gI qr3s 2 ∧ gI qr3s 2 ≤ 1600 := hRqr3s.1 2; have : (0 : Int) ≤ gI qr3s 5 ∧ gI qr3s 5 ≤ 5 := hRqr3s.1 5; have : (0 : Int) ≤ gI s 46 ∧ gI s 46 ≤ 60 := hRs.1 46; have : (0 : Int) ≤ gI s 3 ∧ gI s 3 ≤ 1600 := hRs.1 3; have : (0 : Int) ≤ gI s 2 ∧ gI s 2 ≤ 1600 := hRs.1 2; omega)) (fun qqr6 eqr6s hqr6s => ?_)
  obtain ⟨qr6r, qr6s⟩ := qqr6
  dsimp only at eqr6s hqr6s ⊢
  have Fqr6s : F_x12_number qr3s qr6s := fr_x12_number eqr6s
  obtain ⟨hRqr6s, hqr6s_0, hqr6s_1, hqr6s_2, hqr6s_3⟩ := hqr6s
  have hqr6s_0 : 0 ≤ qr6r ∧ qr6r ≤ 9999 := hqr6s_0
  have hqr6s_1 : gI qr3s 2 ≤ gI qr6s 2 ∧ gI qr6s 2 ≤ gI qr6s 3 := hqr6s_1
  have hqr6s_2 : gI qr3s 5 ≠ 0 → gI qr6s 5 ≠ 0 := hqr6s_2
  have hqr6s_3 : gI qr6s 5 = 0 → ((0 : Int) ≤ qr6r ∧ qr6r ≤ (999 : Int)) ∧ gI qr3s 2 + 1 ≤ gI qr6s 2 := hqr6s_3
  refine wp_bn (w_x12_actTold hRqr6s (by have z : gA qr6s 39 = gA s 39 := ((Fqr6s.2.1 39 (by decide)).trans (Fqr3s.2.1 39 (by decide))); rw [z]; have z2 := hp1.1.2; omega) (by show R2 (3 : Int); have : (0 : Int) ≤ gI qr6s 5 ∧ gI qr6s 5 ≤ 5 := hRqr6s.1 5; have : gI qr6s 3 = gI qr3s 3 := Fqr6s.1 3 (by decide); have : (0 : Int) ≤ gI qr6s 2 ∧ gI qr6s 2 ≤ 1600 := hRqr6s.1 2; have : (0 : Int) ≤ gI s 5 ∧ gI s 5 ≤ 5 := hRs.1 5; have : gI qr3s 3 = gI s 3 := Fqr3s.1 3 (by decide); have : (0 : Int) ≤ gI qr3s 2 ∧ gI qr3s 2 ≤ 1600 := hRqr3s.1 2; have : (0 : Int) ≤ gI qr3s 5 ∧ gI qr3s 5 ≤ 5 := hRqr3s.1 5; have : (0 : Int) ≤ gI s 46 ∧ gI s 46 ≤ 60 := hRs.1 46; have : (0 : Int) ≤ gI s 3 ∧ gI s 3 ≤ 1600 := hRs.1 3; have : (0 : Int) ≤ gI s 2 ∧ gI s 2 ≤ 1600 := hRs.1 2; omega) (by show R2 qr3r; have : (0 : Int) ≤ gI qr6s 5 ∧ gI qr6s 5 ≤ 5 := hRqr6s.1 5; have : gI qr6s 3 = gI qr3s 3 := Fqr6s.1 3 (by decide); have : (0 : Int) ≤ gI qr6s 2 ∧ gI qr6s 2 ≤ 1600 := hRqr6s.1 2; have : (0 : Int) ≤ gI s 5 ∧ gI s 5 ≤ 5 := hRs.1 5; have : gI qr3s 3 = gI s 3 := Fqr3s.1 3 (by decide); have : (0 : Int) ≤ gI qr3s 2 ∧ gI qr3s 2 ≤ 1600 := hRqr3s.1 2; have : (0 : Int) ≤ gI qr3s 5 ∧ gI qr3s 5 ≤ 5 := hRqr3s.1 5; have : (0 : Int) ≤ gI s 46 ∧ gI s 46 ≤ 60 := hRs.1 46; have : (0 : Int) ≤ gI s 3 ∧ gI s 3 ≤ 1600 := hRs.1 3; have : (0 : Int) ≤ gI s 2 ∧ gI s 2 ≤ 1600 := hRs.1 2; omega) (by show R2 qr6r; have : (0 : Int) ≤ gI qr6s 5 ∧ gI qr6s 5 ≤ 5 := hRqr6s.1 5; have : gI qr6s 3 = gI qr3s 3 := Fqr6s.1 3 (by decide); have : (0 : Int) ≤ gI qr6s 2 ∧ gI qr6s 2 ≤ 1600 := hRqr6s.1 2; have : (0 : Int) ≤ gI s 5 ∧ gI s 5 ≤ 5 := hRs.1 5; have : gI qr3s 3 = gI s 3 := Fqr3s.1 3 (by decide); have : (0 : Int) ≤ gI qr3s 2 ∧ gI qr3s 2 ≤ 1600 := hRqr3s.1 2; have : (0 : Int) ≤ gI qr3s 5 ∧ gI qr3s 5 ≤ 5 := hRqr3s.1 5; have : (0 : Int) ≤ gI s 46 ∧ gI s 46 ≤ 60 := hRs.1 46; have : (0 : Int) ≤ gI s 3 ∧ gI s 3 ≤ 1600 := hRs.1 3; have : (0 : Int) ≤ gI s 2 ∧ gI s 2 ≤ 1600 := hRs.1 2; omega) (by show R2 (0 : Int); have : (0 : Int) ≤ gI qr6s 5 ∧ gI qr6s 5 ≤ 5 := hRqr6s.1 5; have : gI qr6s 3 = gI qr3s 3 := Fqr6s.1 3 (by decide); have : (0 : Int) ≤ gI qr6s 2 ∧ gI qr6s 2 ≤ 1600 := hRqr6s.1 2; have : (0 : Int) ≤ gI s 5 ∧ gI s 5 ≤ 5 := hRs.1 5; have : gI qr3s 3 = gI s 3 := Fqr3s.1 3 (by decide); have : (0 : Int) ≤ gI qr3s 2 ∧ gI qr3s 2 ≤ 1600 := hRqr3s.1 2; have : (0 : Int) ≤ gI qr3s 5 ∧ gI qr3s 5 ≤ 5 := hRqr3s.1 5; have : (0 : Int) ≤ gI s 46 ∧ gI s 46 ≤ 60 := hRs.1 46; have : (0 : Int) ≤ gI s 3 ∧ gI s 3 ≤ 1600 := hRs.1 3; have : (0 : Int) ≤ gI s 2 ∧ gI s 2 ≤ 1600 := hRs.1 2; omega)) (fun s8 es8 hs8 => ?_)
  have Fs8 : F_x12_actTold qr6s s8 := fr_x12_actTold es8
  obtain ⟨hRs8, hs8_0, hs8_1, hs8_2⟩ := hs8
  have hs8_0 : gI qr6s 5 = 0 → ActE qr6s s8 (3 : Int) qr3r qr6r (0 : Int) := hs8_0
  have hs8_1 : gI qr6s 5 ≠ 0 → gA s8 41 = gA qr6s 41 ∧ gA s8 39 = gA qr6s 39 := hs8_1
  have hs8_2 : FBk qr6s s8 := hs8_2
  exact wp_some ⟨hRs8, by
      have q0 : SP qr6s 0 := SP_eq (hp1) ((Fqr6s.2.1 39 (by decide)).trans (Fqr3s.2.1 39 (by decide))) ((Fqr6s.2.1 41 (by decide)).trans (Fqr3s.2.1 41 (by decide))) ((Fqr6s.2.1 42 (by decide)).trans (Fqr3s.2.1 42 (by decide))) ((Fqr6s.2.1 43 (by decide)).trans (Fqr3s.2.1 43 (by decide))) ((Fqr6s.2.1 44 (by decide)).trans (Fqr3s.2.1 44 (by decide))) ((Fqr6s.1 45 (by decide)).trans (Fqr3s.1 45 (by decide))) (by have : (0 : Int) ≤ gI qr6s 5 ∧ gI qr6s 5 ≤ 5 := hRqr6s.1 5; have : gI qr6s 3 = gI qr3s 3 := Fqr6s.1 3 (by decide); have : (0 : Int) ≤ gI qr6s 2 ∧ gI qr6s 2 ≤ 1600 := hRqr6s.1 2; have : (0 : Int) ≤ gI s 5 ∧ gI s 5 ≤ 5 := hRs.1 5; have : gI qr3s 3 = gI s 3 := Fqr3s.1 3 (by decide); have : (0 : Int) ≤ gI qr3s 2 ∧ gI qr3s 2 ≤ 1600 := hRqr3s.1 2; have : (0 : Int) ≤ gI qr3s 5 ∧ gI qr3s 5 ≤ 5 := hRqr3s.1 5; have : (0 : Int) ≤ gI s 3 ∧ gI s 3 ≤ 1600 := hRs.1 3; have : (0 : Int) ≤ gI s 2 ∧ gI s 2 ≤ 1600 := hRs.1 2; have : (0 : Int) ≤ gI s 46 ∧ gI s 46 ≤ 60 := hRs.1 46; have : gI qr6s 46 = gI qr3s 46 := Fqr6s.1 46 (by decide); have : gI qr3s 46 = gI s 46 := Fqr3s.1 46 (by decide); omega) (by have : (0 : Int) ≤ gI qr6s 5 ∧ gI qr6s 5 ≤ 5 := hRqr6s.1 5; have : gI qr6s 3 = gI qr3s 3 := Fqr6s.1 3 (by decide); have : (0 : Int) ≤ gI s 5 ∧ gI s 5 ≤ 5 := hRs.1 5; have : gI qr3s 3 = gI s 3 := Fqr3s.1 3 (by decide); have : (0 : Int) ≤ gI qr3s 2 ∧ gI qr3s 2 ≤ 1600 := hRqr3s.1 2; have : (0 : Int) ≤ gI qr3s 5 ∧ gI qr3s 5 ≤ 5 := hRqr3s.1 5; have : (0 : Int) ≤ gI s 46 ∧ gI s 46 ≤ 60 := hRs.1 46; have : (0 : Int) ≤ gI s 3 ∧ gI s 3 ≤ 1600 := hRs.1 3; have : (0 : Int) ≤ gI s 2 ∧ gI s 2 ≤ 1600 := hRs.1 2; have : (0 : Int) ≤ gI qr6s 2 ∧ gI qr6s 2 ≤ 1600 := hRqr6s.1 2; omega) (by have : gI qr6s 3 = gI qr3s 3 := Fqr6s.1 3 (by decide); have : (0 : Int) ≤ gI qr6s 2 ∧ gI qr6s 2 ≤ 1600 := hRqr6s.1 2; have : gI qr3s 3 = gI s 3 := Fqr3s.1 3 (by decide); have : (0 : Int) ≤ gI qr3s 2 ∧ gI qr3s 2 ≤ 1600 := hRqr3s.1 2; have : (0 : Int) ≤ gI qr3s 5 ∧ gI qr3s 5 ≤ 5 := hRqr3s.1 5; have : (0 : Int) ≤ gI s 46 ∧ gI s 46 ≤ 60 := hRs.1 46; have : (0 : Int) ≤ gI s 3 ∧ gI s 3 ≤ 1600 := hRs.1 3; have : (0 : Int) ≤ gI s 2 ∧ gI s 2 ≤ 1600 := hRs.1 2; have : (0 : Int) ≤ gI s 5 ∧ gI s 5 ≤ 5 := hRs.1 5; have : (0 : Int) ≤ gI qr6s 5 ∧ gI qr6s 5 ≤ 5 := hRqr6s.1 5; omega)
      have w39 : gA qr6s 39 = gA s 39 := ((Fqr6s.2.1 39 (by decide)).trans (Fqr3s.2.1 39 (by decide)))
      by_cases z5 : gI qr6s 5 = 0
      · have E := hs8_0 z5
        exact SP_act q0 E (by omega) (by have : gI qr6s 3 = gI qr3s 3 := Fqr6s.1 3 (by decide); have : (0 : Int) ≤ gI qr6s 2 ∧ gI qr6s 2 ≤ 1600 := hRqr6s.1 2; have : gI qr3s 3 = gI s 3 := Fqr3s.1 3 (by decide); have : (0 : Int) ≤ gI qr3s 2 ∧ gI qr3s 2 ≤ 1600 := hRqr3s.1 2; have : (0 : Int) ≤ gI qr3s 5 ∧ gI qr3s 5 ≤ 5 := hRqr3s.1 5; have : (0 : Int) ≤ gI s 46 ∧ gI s 46 ≤ 60 := hRs.1 46; have : (0 : Int) ≤ gI s 3 ∧ gI s 3 ≤ 1600 := hRs.1 3; have : (0 : Int) ≤ gI s 2 ∧ gI s 2 ≤ 1600 := hRs.1 2; have : (0 : Int) ≤ gI s 5 ∧ gI s 5 ≤ 5 := hRs.1 5; have : (0 : Int) ≤ gI qr6s 5 ∧ gI qr6s 5 ≤ 5 := hRqr6s.1 5; have : gI s8 5 = gI qr6s 5 := Fs8.1 5 (by decide); rw [w39]; omega) (by have : gI qr6s 3 = gI qr3s 3 := Fqr6s.1 3 (by decide); have : (0 : Int) ≤ gI qr6s 2 ∧ gI qr6s 2 ≤ 1600 := hRqr6s.1 2; have : gI qr3s 3 = gI s 3 := Fqr3s.1 3 (by decide); have : (0 : Int) ≤ gI qr3s 2 ∧ gI qr3s 2 ≤ 1600 := hRqr3s.1 2; have : (0 : Int) ≤ gI qr3s 5 ∧ gI qr3s 5 ≤ 5 := hRqr3s.1 5; have : (0 : Int) ≤ gI s 46 ∧ gI s 46 ≤ 60 := hRs.1 46; have : (0 : Int) ≤ gI s 3 ∧ gI s 3 ≤ 1600 := hRs.1 3; have : (0 : Int) ≤ gI s 2 ∧ gI s 2 ≤ 1600 := hRs.1 2; have : (0 : Int) ≤ gI s 5 ∧ gI s 5 ≤ 5 := hRs.1 5; have : (0 : Int) ≤ gI qr6s 5 ∧ gI qr6s 5 ≤ 5 := hRqr6s.1 5; have : gI s8 5 = gI qr6s 5 := Fs8.1 5 (by decide); omega) (by have : gI qr6s 3 = gI qr3s 3 := Fqr6s.1 3 (by decide); have : (0 : Int) ≤ gI qr6s 2 ∧ gI qr6s 2 ≤ 1600 := hRqr6s.1 2; have : gI qr3s 3 = gI s 3 := Fqr3s.1 3 (by decide); have : (0 : Int) ≤ gI qr3s 2 ∧ gI qr3s 2 ≤ 1600 := hRqr3s.1 2; have : (0 : Int) ≤ gI qr3s 5 ∧ gI qr3s 5 ≤ 5 := hRqr3s.1 5; have : (0 : Int) ≤ gI s 46 ∧ gI s 46 ≤ 60 := hRs.1 46; have : (0 : Int) ≤ gI s 3 ∧ gI s 3 ≤ 1600 := hRs.1 3; have : (0 : Int) ≤ gI s 2 ∧ gI s 2 ≤ 1600 := hRs.1 2; have : (0 : Int) ≤ gI s 5 ∧ gI s 5 ≤ 5 := hRs.1 5; have : (0 : Int) ≤ gI qr6s 5 ∧ gI qr6s 5 ≤ 5 := hRqr6s.1 5; have : gI s8 5 = gI qr6s 5 := Fs8.1 5 (by decide); omega) (Fs8.2.1 42 (by decide)) (Fs8.2.1 43 (by decide)) (Fs8.2.1 44 (by decide)) (Fs8.1 45 (by decide)) (by have : (0 : Int) ≤ gI qr6s 5 ∧ gI qr6s 5 ≤ 5 := hRqr6s.1 5; have : gI qr6s 3 = gI qr3s 3 := Fqr6s.1 3 (by decide); have : (0 : Int) ≤ gI qr6s 2 ∧ gI qr6s 2 ≤ 1600 := hRqr6s.1 2; have : (0 : Int) ≤ gI s 5 ∧ gI s 5 ≤ 5 := hRs.1 5; have : gI qr3s 3 = gI s 3 := Fqr3s.1 3 (by decide); have : (0 : Int) ≤ gI qr3s 2 ∧ gI qr3s 2 ≤ 1600 := hRqr3s.1 2; have : (0 : Int) ≤ gI qr3s 5 ∧ gI qr3s 5 ≤ 5 := hRqr3s.1 5; have : (0 : Int) ≤ gI s 3 ∧ gI s 3 ≤ 1600 := hRs.1 3; have : (0 : Int) ≤ gI s 2 ∧ gI s 2 ≤ 1600 := hRs.1 2; have : gI qr6s 46 = gI qr3s 46 := Fqr6s.1 46 (by decide); have : gI qr3s 46 = gI s 46 := Fqr3s.1 46 (by decide); have : (0 : Int) ≤ gI s 46 ∧ gI s 46 ≤ 60 := hRs.1 46; have : gI s8 46 = gI qr6s 46 := Fs8.1 46 (by decide); omega) (by have : (0 : Int) ≤ gI qr6s 5 ∧ gI qr6s 5 ≤ 5 := hRqr6s.1 5; have : gI qr6s 3 = gI qr3s 3 := Fqr6s.1 3 (by decide); have : (0 : Int) ≤ gI s 5 ∧ gI s 5 ≤ 5 := hRs.1 5; have : gI qr3s 3 = gI s 3 := Fqr3s.1 3 (by decide); have : (0 : Int) ≤ gI qr3s 2 ∧ gI qr3s 2 ≤ 1600 := hRqr3s.1 2; have : (0 : Int) ≤ gI qr3s 5 ∧ gI qr3s 5 ≤ 5 := hRqr3s.1 5; have : (0 : Int) ≤ gI s 46 ∧ gI s 46 ≤ 60 := hRs.1 46; have : (0 : Int) ≤ gI s 3 ∧ gI s 3 ≤ 1600 := hRs.1 3; have : (0 : Int) ≤ gI s 2 ∧ gI s 2 ≤ 1600 := hRs.1 2; have : (0 : Int) ≤ gI qr6s 2 ∧ gI qr6s 2 ≤ 1600 := hRqr6s.1 2; have : gI s8 2 = gI qr6s 2 := Fs8.1 2 (by decide); omega) (by have : gI qr6s 3 = gI qr3s 3 := Fqr6s.1 3 (by decide); have : (0 : Int) ≤ gI qr6s 2 ∧ gI qr6s 2 ≤ 1600 := hRqr6s.1 2; have : gI qr3s 3 = gI s 3 := Fqr3s.1 3 (by decide); have : (0 : Int) ≤ gI qr3s 2 ∧ gI qr3s 2 ≤ 1600 := hRqr3s.1 2; have : (0 : Int) ≤ gI qr3s 5 ∧ gI qr3s 5 ≤ 5 := hRqr3s.1 5; have : (0 : Int) ≤ gI s 46 ∧ gI s 46 ≤ 60 := hRs.1 46; have : (0 : Int) ≤ gI s 3 ∧ gI s 3 ≤ 1600 := hRs.1 3; have : (0 : Int) ≤ gI s 2 ∧ gI s 2 ≤ 1600 := hRs.1 2; have : (0 : Int) ≤ gI s 5 ∧ gI s 5 ≤ 5 := hRs.1 5; have : (0 : Int) ≤ gI qr6s 5 ∧ gI qr6s 5 ≤ 5 := hRqr6s.1 5; have : gI s8 5 = gI qr6s 5 := Fs8.1 5 (by decide); omega)
      · have E := hs8_1 z5
        exact SP_eq q0 E.2 E.1 (Fs8.2.1 42 (by decide)) (Fs8.2.1 43 (by decide)) (Fs8.2.1 44 (by decide)) (Fs8.1 45 (by decide)) (by have : (0 : Int) ≤ gI qr6s 5 ∧ gI qr6s 5 ≤ 5 := hRqr6s.1 5; have : gI qr6s 3 = gI qr3s 3 := Fqr6s.1 3 (by decide); have : (0 : Int) ≤ gI qr6s 2 ∧ gI qr6s 2 ≤ 1600 := hRqr6s.1 2; have : (0 : Int) ≤ gI s 5 ∧ gI s 5 ≤ 5 := hRs.1 5; have : gI qr3s 3 = gI s 3 := Fqr3s.1 3 (by decide); have : (0 : Int) ≤ gI qr3s 2 ∧ gI qr3s 2 ≤ 1600 := hRqr3s.1 2; have : (0 : Int) ≤ gI qr3s 5 ∧ gI qr3s 5 ≤ 5 := hRqr3s.1 5; have : (0 : Int) ≤ gI s 3 ∧ gI s 3 ≤ 1600 := hRs.1 3; have : (0 : Int) ≤ gI s 2 ∧ gI s 2 ≤ 1600 := hRs.1 2; have : gI qr6s 46 = gI qr3s 46 := Fqr6s.1 46 (by decide); have : gI qr3s 46 = gI s 46 := Fqr3s.1 46 (by decide); have : (0 : Int) ≤ gI s 46 ∧ gI s 46 ≤ 60 := hRs.1 46; have : gI s8 46 = gI qr6s 46 := Fs8.1 46 (by decide); omega) (by have : (0 : Int) ≤ gI qr6s 5 ∧ gI qr6s 5 ≤ 5 := hRqr6s.1 5; have : gI qr6s 3 = gI qr3s 3 := Fqr6s.1 3 (by decide); have : (0 : Int) ≤ gI s 5 ∧ gI s 5 ≤ 5 := hRs.1 5; have : gI qr3s 3 = gI s 3 := Fqr3s.1 3 (by decide); have : (0 : Int) ≤ gI qr3s 2 ∧ gI qr3s 2 ≤ 1600 := hRqr3s.1 2; have : (0 : Int) ≤ gI qr3s 5 ∧ gI qr3s 5 ≤ 5 := hRqr3s.1 5; have : (0 : Int) ≤ gI s 46 ∧ gI s 46 ≤ 60 := hRs.1 46; have : (0 : Int) ≤ gI s 3 ∧ gI s 3 ≤ 1600 := hRs.1 3; have : (0 : Int) ≤ gI s 2 ∧ gI s 2 ≤ 1600 := hRs.1 2; have : (0 : Int) ≤ gI qr6s 2 ∧ gI qr6s 2 ≤ 1600 := hRqr6s.1 2; have : gI s8 2 = gI qr6s 2 := Fs8.1 2 (by decide); omega) (by have : gI qr6s 3 = gI qr3s 3 := Fqr6s.1 3 (by decide); have : (0 : Int) ≤ gI qr6s 2 ∧ gI qr6s 2 ≤ 1600 := hRqr6s.1 2; have : gI qr3s 3 = gI s 3 := Fqr3s.1 3 (by decide); have : (0 : Int) ≤ gI qr3s 2 ∧ gI qr3s 2 ≤ 1600 := hRqr3s.1 2; have : (0 : Int) ≤ gI qr3s 5 ∧ gI qr3s 5 ≤ 5 := hRqr3s.1 5; have : (0 : Int) ≤ gI s 46 ∧ gI s 46 ≤ 60 := hRs.1 46; have : (0 : Int) ≤ gI s 3 ∧ gI s 3 ≤ 1600 := hRs.1 3; have : (0 : Int) ≤ gI s 2 ∧ gI s 2 ≤ 1600 := hRs.1 2; have : (0 : Int) ≤ gI s 5 ∧ gI s 5 ≤ 5 := hRs.1 5; have : (0 : Int) ≤ gI qr6s 5 ∧ gI qr6s 5 ≤ 5 := hRqr6s.1 5; have : gI s8 5 = gI qr6s 5 := Fs8.1 5 (by decide); omega), by show gI s 2 ≤ gI s8 2 ∧ gI s8 2 ≤ gI s8 3; have : (0 : Int) ≤ gI qr6s 5 ∧ gI qr6s 5 ≤ 5 := hRqr6s.1 5; have : gI qr6s 3 = gI qr3s 3 := Fqr6s.1 3 (by decide); have : (0 : Int) ≤ gI qr6s 2 ∧ gI qr6s 2 ≤ 1600 := hRqr6s.1 2; have : (0 : Int) ≤ gI s 5 ∧ gI s 5 ≤ 5 := hRs.1 5; have : gI qr3s 3 = gI s 3 := Fqr3s.1 3 (by decide); have : (0 : Int) ≤ gI qr3s 2 ∧ gI qr3s 2 ≤ 1600 := hRqr3s.1 2; have : (0 : Int) ≤ gI qr3s 5 ∧ gI qr3s 5 ≤ 5 := hRqr3s.1 5; have : (0 : Int) ≤ gI s 46 ∧ gI s 46 ≤ 60 := hRs.1 46; have : (0 : Int) ≤ gI s 3 ∧ gI s 3 ≤ 1600 := hRs.1 3; have : gI s8 3 = gI qr6s 3 := Fs8.1 3 (by decide); have : gI s8 2 = gI qr6s 2 := Fs8.1 2 (by decide); have : (0 : Int) ≤ gI s 2 ∧ gI s 2 ≤ 1600 := hRs.1 2; omega, by show gI s 5 ≠ 0 → gI s8 5 ≠ 0; have : (0 : Int) ≤ gI qr6s 5 ∧ gI qr6s 5 ≤ 5 := hRqr6s.1 5; have : gI qr6s 3 = gI qr3s 3 := Fqr6s.1 3 (by decide); have : (0 : Int) ≤ gI qr6s 2 ∧ gI qr6s 2 ≤ 1600 := hRqr6s.1 2; have : gI qr3s 3 = gI s 3 := Fqr3s.1 3 (by decide); have : (0 : Int) ≤ gI qr3s 2 ∧ gI qr3s 2 ≤ 1600 := hRqr3s.1 2; have : (0 : Int) ≤ gI qr3s 5 ∧ gI qr3s 5 ≤ 5 := hRqr3s.1 5; have : (0 : Int) ≤ gI s 46 ∧ gI s 46 ≤ 60 := hRs.1 46; have : (0 : Int) ≤ gI s 3 ∧ gI s 3 ≤ 1600 := hRs.1 3; have : (0 : Int) ≤ gI s 2 ∧ gI s 2 ≤ 1600 := hRs.1 2; have : gI s8 5 = gI qr6s 5 := Fs8.1 5 (by decide); have : (0 : Int) ≤ gI s 5 ∧ gI s 5 ≤ 5 := hRs.1 5; omega, FB_t (FB_e ((Fqr6s.2.1 39 (by decide)).trans (Fqr3s.2.1 39 (by decide))) ((Fqr6s.2.1 42 (by decide)).trans (Fqr3s.2.1 42 (by decide))) ((Fqr6s.2.1 43 (by decide)).trans (Fqr3s.2.1 43 (by decide))) ((Fqr6s.2.1 44 (by decide)).trans (Fqr3s.2.1 44 (by decide)))) hs8_2⟩
set_option maxHeartbeats 1000000 in
theorem w_x12_codesTold {p0 : Int} {p1 : Int} {s : MS} (hRs : Rr s) (hp0 : gI s 2 ≤ gI s 3) (hp1 : SP s 0) (hp2 : 0 ≤ p0 ∧ p0 ≤ 2) (hp3 : R2 p1) (hp4 : 1 ≤ gI s 46 ∧ gI s 46 < 60) : wp (m_x12_codesTold p0 p1 s) (fun o => (Rr o) ∧ (SP o 1) ∧ (gI s 2 ≤ gI o 2 ∧ gI o 2 ≤ gI o 3) ∧ (gI s 5 ≠ 0 → gI o 5 ≠ 0) ∧ (FBk s o)) := by
  have J72 : ∀ (x13 : Int) (s14 : MS), Rr s14 → (x13 = p0 ∧ gI s 2 ≤ gI s14 2 ∧ gI s14 2 ≤ gI s14 3) → (SP s14 0 ∧ FBk s s14) → (1 ≤ gI s14 46 ∧ gI s14 46 < 60) → (gI s 5 ≠ 0 → gI s14 5 ≠ 0) → (gI s14 5 = 0 → ∃ T, hk p0 (gA s14 101) (gI s14 102).toNat 1 T) → (gI s14 5 = 0 → gI s14 45 + gI s14 102 ≤ gI s14 2) → wp (m_x12_codesTold_J72 x13 s14) (fun o => (Rr o) ∧ (SP o 1) ∧ (gI s 2 ≤ gI o 2 ∧ gI o 2 ≤ gI o 3) ∧ (gI s 5 ≠ 0 → gI o 5 ≠ 0) ∧ (FBk s o)) := by
    intro x13 s14 hRs14 hj72_0 hj72_1 hj72_2 hj72_3 hj72_4 hj72_5
    unfold m_x12_codesTold_J72
    refine wp_rg (by have : (0 : Int) ≤ gI s14 45 ∧ gI s14 45 ≤ 1600 := hRs14.1 45; have : (0 : Int) ≤ gI s14 102 ∧ gI s14 102 ≤ 1700 := hRs14.1 102; have : (0 : Int) ≤ gI s 5 ∧ gI s 5 ≤ 5 := hRs.1 5; have : (0 : Int) ≤ gI s14 46 ∧ gI s14 46 ≤ 60 := hRs14.1 46; have : (0 : Int) ≤ gI s14 3 ∧ gI s14 3 ≤ 1600 := hRs14.1 3; have : (0 : Int) ≤ gI s14 2 ∧ gI s14 2 ≤ 1600 := hRs14.1 2; have : (0 : Int) ≤ gI s 46 ∧ gI s 46 ≤ 60 := hRs.1 46; have : (0 : Int) ≤ gI s 3 ∧ gI s 3 ≤ 1600 := hRs.1 3; have : (0 : Int) ≤ gI s 2 ∧ gI s 2 ≤ 1600 := hRs.1 2; have : (0 : Int) ≤ gI s14 5 ∧ gI s14 5 ≤ 5 := hRs14.1 5; omega) ?_
    refine wp_if (fun c1 => ?_) (fun c1 => ?_)
    · skip
      refine wp_inb (by have : (0 : Int) ≤ gI s14 45 ∧ gI s14 45 ≤ 1600 := hRs14.1 45; have : (0 : Int) ≤ gI s14 102 ∧ gI s14 102 ≤ 1700 := hRs14.1 102; have : (0 : Int) ≤ gI s14 5 ∧ gI s14 5 ≤ 5 := hRs14.1 5; have : (0 : Int) ≤ gI s 5 ∧ gI s 5 ≤ 5 := hRs.1 5; have : (0 : Int) ≤ gI s14 46 ∧ gI s14 46 ≤ 60 := hRs14.1 46; have : (0 : Int) ≤ gI s14 3 ∧ gI s14 3 ≤ 1600 := hRs14.1 3; have : (0 : Int) ≤ gI s14 2 ∧ gI s14 2 ≤ 1600 := hRs14.1 2; have : (0 : Int) ≤ gI s 46 ∧ gI s 46 ≤ 60 := hRs.1 46; have : (0 : Int) ≤ gI s 3 ∧ gI s 3 ≤ 1600 := hRs.1 3; have : (0 : Int) ≤ gI s 2 ∧ gI s 2 ≤ 1600 := hRs.1 2; omega) ?_
      refine wp_stn (fun s18 es18 => ?_)
      have hRs18 : Rr s18 := es18 ▸ Rr.uAu hRs14 (by show (-1 : Int) ≤ (gI s14 45) ∧ (gI s14 45) ≤ 1600; have : (0 : Int) ≤ gI s14 102 ∧ gI s14 102 ≤ 1700 := hRs14.1 102; have : (0 : Int) ≤ gI s14 5 ∧ gI s14 5 ≤ 5 := hRs14.1 5; have : (0 : Int) ≤ gI s 5 ∧ gI s 5 ≤ 5 := hRs.1 5; have : (0 : Int) ≤ gI s14 46 ∧ gI s14 46 ≤ 60 := hRs14.1 46; have : (0 : Int) ≤ gI s14 3 ∧ gI s14 3 ≤ 1600 := hRs14.1 3; have : (0 : Int) ≤ gI s14 2 ∧ gI s14 2 ≤ 1600 := hRs14.1 2; have : (0 : Int) ≤ gI s 46 ∧ gI s 46 ≤ 60 := hRs.1 46; have : (0 : Int) ≤ gI s 3 ∧ gI s 3 ≤ 1600 := hRs.1 3; have : (0 : Int) ≤ gI s 2 ∧ gI s 2 ≤ 1600 := hRs.1 2; have : (0 : Int) ≤ gI s14 45 ∧ gI s14 45 ≤ 1600 := hRs14.1 45; have k14 : (0 : Int) ≤ gI s14 45 ∧ gI s14 45 ≤ 1600 := hRs14.1 45; omega)
      have hj5 : gI s14 5 = 0 := by assumption
      have hj45 := hj72_5 hj5
      have k2 : (0 : Int) ≤ gI s14 2 ∧ gI s14 2 ≤ 1600 := hRs14.1 2
      have L92 : ∀ (n : Nat) (x1 : Int) (x2 : Int) (s3 : MS), Rr s3 → (x1 = p0 ∧ (0 ≤ x2 ∧ x2 ≤ gI s14 102)) → (gI s3 102 = gI s14 102 ∧ gI s3 45 = gI s14 45 + x2) → (gI s3 2 = gI s14 2 ∧ gI s3 3 = gI s14 3 ∧ gI s3 5 = 0 ∧ gI s3 46 = gI s14 46) → (gA s3 101 = gA s14 101) → (∀ j : Nat, (j : Int) < x2 → gA s3 44 ((gI s14 45).toNat + j) = gA s14 101 j) → (∀ j : Nat, (j : Int) < gI s14 45 → gA s3 44 j = gA s14 44 j) → (gA s3 43 = gA s14 43 ∧ gA s3 42 = gA s18 42 ∧ gA s3 39 = gA s14 39 ∧ gA s3 41 = gA s14 41) → (∀ j, 1600 ≤ j → gA s3 44 j = gA s14 44 j) → (gI s14 102 - x2) < (n : Int) → wp (m_x12_codesTold_L92 n x1 x2 s3) (fun o => (Rr o) ∧ (SP o 1) ∧ (gI s 2 ≤ gI o 2 ∧ gI o 2 ≤ gI o 3) ∧ (gI s 5 ≠ 0 → gI o 5 ≠ 0) ∧ (FBk s o)) := by
        refine fr_ind (fun x1 x2 s3 hRs3 hv92_0 hv92_1 hv92_2 hv92_3 hv92_4 hv92_5 hv92_6 hv92_7 hm92 => ?_) (fun n92 ih92 x1 x2 s3 hRs3 hv92_0 hv92_1 hv92_2 hv92_3 hv92_4 hv92_5 hv92_6 hv92_7 hm92 => ?_)
        · exfalso; have : (0 : Int) ≤ gI s14 46 ∧ gI s14 46 ≤ 60 := hRs14.1 46; have : (0 : Int) ≤ gI s3 46 ∧ gI s3 46 ≤ 60 := hRs3.1 46; have : (0 : Int) ≤ gI s3 5 ∧ gI s3 5 ≤ 5 := hRs3.1 5; have : (0 : Int) ≤ gI s14 3 ∧ gI s14 3 ≤ 1600 := hRs14.1 3; have : (0 : Int) ≤ gI s3 3 ∧ gI s3 3 ≤ 1600 := hRs3.1 3; have : (0 : Int) ≤ gI s14 2 ∧ gI s14 2 ≤ 1600 := hRs14.1 2; have : (0 : Int) ≤ gI s3 2 ∧ gI s3 2 ≤ 1600 := hRs3.1 2; have : (0 : Int) ≤ gI s14 45 ∧ gI s14 45 ≤ 1600 := hRs14.1 45; have : (0 : Int) ≤ gI s3 45 ∧ gI s3 45 ≤ 1600 := hRs3.1 45; have : (0 : Int) ≤ gI s3 102 ∧ gI s3 102 ≤ 1700 := hRs3.1 102; have : (0 : Int) ≤ gI s14 102 ∧ gI s14 102 ≤ 1700 := hRs14.1 102; omega
        · show wp (m_x12_codesTold_b92 (m_x12_codesTold_L92 n92) x1 x2 s3) _
          unfold m_x12_codesTold_b92
          have r14 : (0 : Int) ≤ gI s14 45 ∧ gI s14 45 ≤ 1600 := hRs14.1 45
          refine wp_rg (by have : (0 : Int) ≤ gI s3 46 ∧ gI s3 46 ≤ 60 := hRs3.1 46; have : (0 : Int) ≤ gI s3 5 ∧ gI s3 5 ≤ 5 := hRs3.1 5; have : (0 : Int) ≤ gI s3 3 ∧ gI s3 3 ≤ 1600 := hRs3.1 3; have : (0 : Int) ≤ gI s3 2 ∧ gI s3 2 ≤ 1600 := hRs3.1 2; have : (0 : Int) ≤ gI s3 45 ∧ gI s3 45 ≤ 1600 := hRs3.1 45; have : (0 : Int) ≤ gI s3 102 ∧ gI s3 102 ≤ 1700 := hRs3.1 102; have : (0 : Int) ≤ gI s14 45 ∧ gI s14 45 ≤ 1600 := hRs14.1 45; have : (0 : Int) ≤ gI s14 102 ∧ gI s14 102 ≤ 1700 := hRs14.1 102; have : (0 : Int) ≤ gI s14 5 ∧ gI s14 5 ≤ 5 := hRs14.1 5; have : (0 : Int) ≤ gI s 5 ∧ gI s 5 ≤ 5 := hRs.1 5; have : (0 : Int) ≤ gI s14 46 ∧ gI s14 46 ≤ 60 := hRs14.1 46; have : (0 : Int) ≤ gI s14 3 ∧ gI s14 3 ≤ 1600 := hRs14.1 3; have : (0 : Int) ≤ gI s14 2 ∧ gI s14 2 ≤ 1600 := hRs14.1 2; have : (0 : Int) ≤ gI s 46 ∧ gI s 46 ≤ 60 := hRs.1 46; have : (0 : Int) ≤ gI s 3 ∧ gI s 3 ≤ 1600 := hRs.1 3; have : (0 : Int) ≤ gI s 2 ∧ gI s 2 ≤ 1600 := hRs.1 2; omega) ?_
          refine wp_rg (by have : (0 : Int) ≤ gI s3 46 ∧ gI s3 46 ≤ 60 := hRs3.1 46; have : (0 : Int) ≤ gI s3 5 ∧ gI s3 5 ≤ 5 := hRs3.1 5; have : (0 : Int) ≤ gI s3 3 ∧ gI s3 3 ≤ 1600 := hRs3.1 3; have : (0 : Int) ≤ gI s3 2 ∧ gI s3 2 ≤ 1600 := hRs3.1 2; have : (0 : Int) ≤ gI s3 45 ∧ gI s3 45 ≤ 1600 := hRs3.1 45; have : (0 : Int) ≤ gI s14 45 ∧ gI s14 45 ≤ 1600 := hRs14.1 45; have : (0 : Int) ≤ gI s14 102 ∧ gI s14 102 ≤ 1700 := hRs14.1 102; have : (0 : Int) ≤ gI s14 5 ∧ gI s14 5 ≤ 5 := hRs14.1 5; have : (0 : Int) ≤ gI s 5 ∧ gI s 5 ≤ 5 := hRs.1 5; have : (0 : Int) ≤ gI s14 46 ∧ gI s14 46 ≤ 60 := hRs14.1 46; have : (0 : Int) ≤ gI s14 3 ∧ gI s14 3 ≤ 1600 := hRs14.1 3; have : (0 : Int) ≤ gI s14 2 ∧ gI s14 2 ≤ 1600 := hRs14.1 2; have : (0 : Int) ≤ gI s 46 ∧ gI s 46 ≤ 60 := hRs.1 46; have : (0 : Int) ≤ gI s 3 ∧ gI s 3 ≤ 1600 := hRs.1 3; have : (0 : Int) ≤ gI s 2 ∧ gI s 2 ≤ 1600 := hRs.1 2; have : (0 : Int) ≤ gI s3 102 ∧ gI s3 102 ≤ 1700 := hRs3.1 102; omega) ?_
          refine wp_if (fun c2 => ?_) (fun c2 => ?_)
          · skip
            refine wp_inb (by have : (0 : Int) ≤ gI s3 46 ∧ gI s3 46 ≤ 60 := hRs3.1 46; have : (0 : Int) ≤ gI s3 5 ∧ gI s3 5 ≤ 5 := hRs3.1 5; have : (0 : Int) ≤ gI s3 3 ∧ gI s3 3 ≤ 1600 := hRs3.1 3; have : (0 : Int) ≤ gI s3 2 ∧ gI s3 2 ≤ 1600 := hRs3.1 2; have : (0 : Int) ≤ gI s3 45 ∧ gI s3 45 ≤ 1600 := hRs3.1 45; have : (0 : Int) ≤ gI s3 102 ∧ gI s3 102 ≤ 1700 := hRs3.1 102; have : (0 : Int) ≤ gI s14 45 ∧ gI s14 45 ≤ 1600 := hRs14.1 45; have : (0 : Int) ≤ gI s14 102 ∧ gI s14 102 ≤ 1700 := hRs14.1 102; have : (0 : Int) ≤ gI s14 5 ∧ gI s14 5 ≤ 5 := hRs14.1 5; have : (0 : Int) ≤ gI s 5 ∧ gI s 5 ≤ 5 := hRs.1 5; have : (0 : Int) ≤ gI s14 46 ∧ gI s14 46 ≤ 60 := hRs14.1 46; have : (0 : Int) ≤ gI s14 3 ∧ gI s14 3 ≤ 1600 := hRs14.1 3; have : (0 : Int) ≤ gI s14 2 ∧ gI s14 2 ≤ 1600 := hRs14.1 2; have : (0 : Int) ≤ gI s 46 ∧ gI s 46 ≤ 60 := hRs.1 46; have : (0 : Int) ≤ gI s 3 ∧ gI s 3 ≤ 1600 := hRs.1 3; have : (0 : Int) ≤ gI s 2 ∧ gI s 2 ≤ 1600 := hRs.1 2; omega) ?_
            refine wp_stn (fun s8 es8 => ?_)
            have hRs8 : Rr s8 := es8 ▸ Rr.uAu hRs3 (by show (0 : Int) ≤ (gI s3 45) ∧ (gI s3 45) ≤ 1600; have : (0 : Int) ≤ gI s3 46 ∧ gI s3 46 ≤ 60 := hRs3.1 46; have : (0 : Int) ≤ gI s3 5 ∧ gI s3 5 ≤ 5 := hRs3.1 5; have : (0 : Int) ≤ gI s3 3 ∧ gI s3 3 ≤ 1600 := hRs3.1 3; have : (0 : Int) ≤ gI s3 2 ∧ gI s3 2 ≤ 1600 := hRs3.1 2; have : (0 : Int) ≤ gI s3 102 ∧ gI s3 102 ≤ 1700 := hRs3.1 102; have : (0 : Int) ≤ gI s14 45 ∧ gI s14 45 ≤ 1600 := hRs14.1 45; have : (0 : Int) ≤ gI s14 102 ∧ gI s14 102 ≤ 1700 := hRs14.1 102; have : (0 : Int) ≤ gI s14 5 ∧ gI s14 5 ≤ 5 := hRs14.1 5; have : (0 : Int) ≤ gI s 5 ∧ gI s 5 ≤ 5 := hRs.1 5; have : (0 : Int) ≤ gI s14 46 ∧ gI s14 46 ≤ 60 := hRs14.1 46; have : (0 : Int) ≤ gI s14 3 ∧ gI s14 3 ≤ 1600 := hRs14.1 3; have : (0 : Int) ≤ gI s14 2 ∧ gI s14 2 ≤ 1600 := hRs14.1 2; have : (0 : Int) ≤ gI s 46 ∧ gI s 46 ≤ 60 := hRs.1 46; have : (0 : Int) ≤ gI s 3 ∧ gI s 3 ≤ 1600 := hRs.1 3; have : (0 : Int) ≤ gI s 2 ∧ gI s 2 ≤ 1600 := hRs.1 2; have : (0 : Int) ≤ gI s3 45 ∧ gI s3 45 ≤ 1600 := hRs3.1 45; omega)
            exact wp_some ⟨hRs8, by
        obtain ⟨T, hT⟩ := hj72_4 hj5
        have q := hj72_1.1
        obtain ⟨qa, qb, ⟨qc1, qc2⟩, qd⟩ := q
        have w43 : gA s8 43 = upZ (gA s14 43) x1.toNat (gI s3 45) := by rw [(q_AA es8 : gA s8 43 = _), hv92_6.1]
        have w42 : gA s8 42 = upZ (gA s14 42) x1.toNat (gI s14 45) := by rw [((q_Aa es8 (by decide) : gA s8 42 = gA s3 42)), hv92_6.2.1, (q_AA es18 : gA s18 42 = _)]; rw [show x13 = x1 by omega]
        have w44 : gA s8 44 = gA s3 44 := (q_Aa es8 (by decide) : gA s8 44 = gA s3 44)
        have w45 : gI s8 45 = gI s3 45 := (q_Ai es8 : gI s8 45 = gI s3 45)
        have e45 : gI s3 45 = gI s14 45 + gI s14 102 := by omega
        refine ⟨?_, ?_, ⟨?_, fun w hw => ?_⟩, ?_⟩
        · rw [((q_Aa es8 (by decide) : gA s8 39 = gA s3 39)), hv92_6.2.2.1]; exact ⟨qa.1, by have : (0 : Int) ≤ gI s3 46 ∧ gI s3 46 ≤ 60 := hRs3.1 46; have : (0 : Int) ≤ gI s3 5 ∧ gI s3 5 ≤ 5 := hRs3.1 5; have : (0 : Int) ≤ gI s3 3 ∧ gI s3 3 ≤ 1600 := hRs3.1 3; have : (0 : Int) ≤ gI s3 2 ∧ gI s3 2 ≤ 1600 := hRs3.1 2; have : (0 : Int) ≤ gI s3 45 ∧ gI s3 45 ≤ 1600 := hRs3.1 45; have : (0 : Int) ≤ gI s3 102 ∧ gI s3 102 ≤ 1700 := hRs3.1 102; have : (0 : Int) ≤ gI s14 45 ∧ gI s14 45 ≤ 1600 := hRs14.1 45; have : (0 : Int) ≤ gI s14 102 ∧ gI s14 102 ≤ 1700 := hRs14.1 102; have : (0 : Int) ≤ gI s14 5 ∧ gI s14 5 ≤ 5 := hRs14.1 5; have : (0 : Int) ≤ gI s 5 ∧ gI s 5 ≤ 5 := hRs.1 5; have : (0 : Int) ≤ gI s14 46 ∧ gI s14 46 ≤ 60 := hRs14.1 46; have : (0 : Int) ≤ gI s14 3 ∧ gI s14 3 ≤ 1600 := hRs14.1 3; have : (0 : Int) ≤ gI s14 2 ∧ gI s14 2 ≤ 1600 := hRs14.1 2; have : (0 : Int) ≤ gI s 46 ∧ gI s 46 ≤ 60 := hRs.1 46; have : (0 : Int) ≤ gI s 3 ∧ gI s 3 ≤ 1600 := hRs.1 3; have : (0 : Int) ≤ gI s 2 ∧ gI s 2 ≤ 1600 := hRs.1 2; have : gI s8 46 = gI s3 46 := q_Ai es8; have := qa.2; omega⟩
        · rw [((q_Aa es8 (by decide) : gA s8 39 = gA s3 39)), ((q_Aa es8 (by decide) : gA s8 41 = gA s3 41)), hv92_6.2.2.1, hv92_6.2.2.2]; exact qb
        · have : (0 : Int) ≤ gI s3 46 ∧ gI s3 46 ≤ 60 := hRs3.1 46; have : (0 : Int) ≤ gI s3 5 ∧ gI s3 5 ≤ 5 := hRs3.1 5; have : (0 : Int) ≤ gI s3 3 ∧ gI s3 3 ≤ 1600 := hRs3.1 3; have : (0 : Int) ≤ gI s3 2 ∧ gI s3 2 ≤ 1600 := hRs3.1 2; have : (0 : Int) ≤ gI s3 45 ∧ gI s3 45 ≤ 1600 := hRs3.1 45; have : (0 : Int) ≤ gI s3 102 ∧ gI s3 102 ≤ 1700 := hRs3.1 102; have : (0 : Int) ≤ gI s14 45 ∧ gI s14 45 ≤ 1600 := hRs14.1 45; have : (0 : Int) ≤ gI s14 102 ∧ gI s14 102 ≤ 1700 := hRs14.1 102; have : (0 : Int) ≤ gI s14 5 ∧ gI s14 5 ≤ 5 := hRs14.1 5; have : (0 : Int) ≤ gI s 5 ∧ gI s 5 ≤ 5 := hRs.1 5; have : (0 : Int) ≤ gI s14 46 ∧ gI s14 46 ≤ 60 := hRs14.1 46; have : (0 : Int) ≤ gI s14 3 ∧ gI s14 3 ≤ 1600 := hRs14.1 3; have : (0 : Int) ≤ gI s14 2 ∧ gI s14 2 ≤ 1600 := hRs14.1 2; have : (0 : Int) ≤ gI s 46 ∧ gI s 46 ≤ 60 := hRs.1 46; have : (0 : Int) ≤ gI s 3 ∧ gI s 3 ≤ 1600 := hRs.1 3; have : (0 : Int) ≤ gI s 2 ∧ gI s 2 ≤ 1600 := hRs.1 2; have : gI s8 2 = gI s3 2 := q_Ai es8; have : gI s8 45 = gI s3 45 := q_Ai es8; have := hj72_5 hj5; omega
        · rw [w45, w44]
          have r14 : (0 : Int) ≤ gI s14 45 ∧ gI s14 45 ≤ 1600 := hRs14.1 45
          have r102 : (0 : Int) ≤ gI s14 102 ∧ gI s14 102 ≤ 1700 := hRs14.1 102
          by_cases z : w = x1.toNat
          · refine Or.inr ?_
            rw [w42, w43, z, upZ_s, upZ_s]
            refine ⟨by omega, by omega, by omega, T, ?_⟩
            rw [show (gI s3 45 - gI s14 45).toNat = (gI s14 102).toNat by omega, show ((x1.toNat : Nat) : Int) = p0 by omega]
            exact hk_c hT (fun j hj => hv92_4 j (by omega))
          · exact CW1_eq (qc2 w hw) (by rw [w42, upZ_n z]) (by rw [w43, upZ_n z]) (fun j hj => hv92_5 j hj) (by omega)
        · rw [((q_Aa es8 (by decide) : gA s8 39 = gA s3 39)), hv92_6.2.2.1]; exact fun h9 => qd hj5, by show gI s 2 ≤ gI s8 2 ∧ gI s8 2 ≤ gI s8 3; have : (0 : Int) ≤ gI s3 46 ∧ gI s3 46 ≤ 60 := hRs3.1 46; have : (0 : Int) ≤ gI s3 5 ∧ gI s3 5 ≤ 5 := hRs3.1 5; have : (0 : Int) ≤ gI s3 3 ∧ gI s3 3 ≤ 1600 := hRs3.1 3; have : (0 : Int) ≤ gI s3 2 ∧ gI s3 2 ≤ 1600 := hRs3.1 2; have : (0 : Int) ≤ gI s3 45 ∧ gI s3 45 ≤ 1600 := hRs3.1 45; have : (0 : Int) ≤ gI s3 102 ∧ gI s3 102 ≤ 1700 := hRs3.1 102; have : (0 : Int) ≤ gI s14 45 ∧ gI s14 45 ≤ 1600 := hRs14.1 45; have : (0 : Int) ≤ gI s14 102 ∧ gI s14 102 ≤ 1700 := hRs14.1 102; have : (0 : Int) ≤ gI s14 5 ∧ gI s14 5 ≤ 5 := hRs14.1 5; have : (0 : Int) ≤ gI s 5 ∧ gI s 5 ≤ 5 := hRs.1 5; have : (0 : Int) ≤ gI s14 46 ∧ gI s14 46 ≤ 60 := hRs14.1 46; have : (0 : Int) ≤ gI s14 3 ∧ gI s14 3 ≤ 1600 := hRs14.1 3; have : (0 : Int) ≤ gI s14 2 ∧ gI s14 2 ≤ 1600 := hRs14.1 2; have : (0 : Int) ≤ gI s 46 ∧ gI s 46 ≤ 60 := hRs.1 46; have : (0 : Int) ≤ gI s 3 ∧ gI s 3 ≤ 1600 := hRs.1 3; have : gI s8 3 = gI s3 3 := q_Ai es8; have : gI s8 2 = gI s3 2 := q_Ai es8; have : (0 : Int) ≤ gI s 2 ∧ gI s 2 ≤ 1600 := hRs.1 2; omega, by show gI s 5 ≠ 0 → gI s8 5 ≠ 0; have : (0 : Int) ≤ gI s3 46 ∧ gI s3 46 ≤ 60 := hRs3.1 46; have : (0 : Int) ≤ gI s3 5 ∧ gI s3 5 ≤ 5 := hRs3.1 5; have : (0 : Int) ≤ gI s3 3 ∧ gI s3 3 ≤ 1600 := hRs3.1 3; have : (0 : Int) ≤ gI s3 2 ∧ gI s3 2 ≤ 1600 := hRs3.1 2; have : (0 : Int) ≤ gI s3 45 ∧ gI s3 45 ≤ 1600 := hRs3.1 45; have : (0 : Int) ≤ gI s3 102 ∧ gI s3 102 ≤ 1700 := hRs3.1 102; have : (0 : Int) ≤ gI s14 45 ∧ gI s14 45 ≤ 1600 := hRs14.1 45; have : (0 : Int) ≤ gI s14 102 ∧ gI s14 102 ≤ 1700 := hRs14.1 102; have : (0 : Int) ≤ gI s14 5 ∧ gI s14 5 ≤ 5 := hRs14.1 5; have : (0 : Int) ≤ gI s14 46 ∧ gI s14 46 ≤ 60 := hRs14.1 46; have : (0 : Int) ≤ gI s14 3 ∧ gI s14 3 ≤ 1600 := hRs14.1 3; have : (0 : Int) ≤ gI s14 2 ∧ gI s14 2 ≤ 1600 := hRs14.1 2; have : (0 : Int) ≤ gI s 46 ∧ gI s 46 ≤ 60 := hRs.1 46; have : (0 : Int) ≤ gI s 3 ∧ gI s 3 ≤ 1600 := hRs.1 3; have : (0 : Int) ≤ gI s 2 ∧ gI s 2 ≤ 1600 := hRs.1 2; have : gI s8 5 = gI s3 5 := q_Ai es8; have : (0 : Int) ≤ gI s 5 ∧ gI s 5 ≤ 5 := hRs.1 5; omega, FB_t hj72_1.2 ⟨fun j _ => by rw [((q_Aa es8 (by decide) : gA s8 39 = gA s3 39)), hv92_6.2.2.1], fun j hj => ⟨by rw [((q_Aa es8 (by decide) : gA s8 42 = gA s3 42)), hv92_6.2.1, (q_AA es18 : gA s18 42 = _), upZ_n (by omega)], by rw [(q_AA es8 : gA s8 43 = _), upZ_n (by omega), hv92_6.1]⟩, fun j hj => by rw [((q_Aa es8 (by decide) : gA s8 44 = gA s3 44))]; exact hv92_7 j hj⟩⟩
          · skip
            refine wp_rdIn (by have : (0 : Int) ≤ gI s3 46 ∧ gI s3 46 ≤ 60 := hRs3.1 46; have : (0 : Int) ≤ gI s3 5 ∧ gI s3 5 ≤ 5 := hRs3.1 5; have : (0 : Int) ≤ gI s3 3 ∧ gI s3 3 ≤ 1600 := hRs3.1 3; have : (0 : Int) ≤ gI s3 2 ∧ gI s3 2 ≤ 1600 := hRs3.1 2; have : (0 : Int) ≤ gI s3 45 ∧ gI s3 45 ≤ 1600 := hRs3.1 45; have : (0 : Int) ≤ gI s3 102 ∧ gI s3 102 ≤ 1700 := hRs3.1 102; have : (0 : Int) ≤ gI s14 45 ∧ gI s14 45 ≤ 1600 := hRs14.1 45; have : (0 : Int) ≤ gI s14 102 ∧ gI s14 102 ≤ 1700 := hRs14.1 102; have : (0 : Int) ≤ gI s14 5 ∧ gI s14 5 ≤ 5 := hRs14.1 5; have : (0 : Int) ≤ gI s 5 ∧ gI s 5 ≤ 5 := hRs.1 5; have : (0 : Int) ≤ gI s14 46 ∧ gI s14 46 ≤ 60 := hRs14.1 46; have : (0 : Int) ≤ gI s14 3 ∧ gI s14 3 ≤ 1600 := hRs14.1 3; have : (0 : Int) ≤ gI s14 2 ∧ gI s14 2 ≤ 1600 := hRs14.1 2; have : (0 : Int) ≤ gI s 46 ∧ gI s 46 ≤ 60 := hRs.1 46; have : (0 : Int) ≤ gI s 3 ∧ gI s 3 ≤ 1600 := hRs.1 3; have : (0 : Int) ≤ gI s 2 ∧ gI s 2 ≤ 1600 := hRs.1 2; omega) (fun y9 ey9 => ?_)
            have by9 : (0 : Int) ≤ y9 ∧ y9 ≤ 10999 := ey9 ▸ hRs3.2.1 101 _ (by show _ < 1700; have : (0 : Int) ≤ gI s3 46 ∧ gI s3 46 ≤ 60 := hRs3.1 46; have : (0 : Int) ≤ gI s3 5 ∧ gI s3 5 ≤ 5 := hRs3.1 5; have : (0 : Int) ≤ gI s3 3 ∧ gI s3 3 ≤ 1600 := hRs3.1 3; have : (0 : Int) ≤ gI s3 2 ∧ gI s3 2 ≤ 1600 := hRs3.1 2; have : (0 : Int) ≤ gI s3 45 ∧ gI s3 45 ≤ 1600 := hRs3.1 45; have : (0 : Int) ≤ gI s3 102 ∧ gI s3 102 ≤ 1700 := hRs3.1 102; have : (0 : Int) ≤ gI s14 45 ∧ gI s14 45 ≤ 1600 := hRs14.1 45; have : (0 : Int) ≤ gI s14 102 ∧ gI s14 102 ≤ 1700 := hRs14.1 102; have : (0 : Int) ≤ gI s14 5 ∧ gI s14 5 ≤ 5 := hRs14.1 5; have : (0 : Int) ≤ gI s 5 ∧ gI s 5 ≤ 5 := hRs.1 5; have : (0 : Int) ≤ gI s14 46 ∧ gI s14 46 ≤ 60 := hRs14.1 46; have : (0 : Int) ≤ gI s14 3 ∧ gI s14 3 ≤ 1600 := hRs14.1 3; have : (0 : Int) ≤ gI s14 2 ∧ gI s14 2 ≤ 1600 := hRs14.1 2; have : (0 : Int) ≤ gI s 46 ∧ gI s 46 ≤ 60 := hRs.1 46; have : (0 : Int) ≤ gI s 3 ∧ gI s 3 ≤ 1600 := hRs.1 3; have : (0 : Int) ≤ gI s 2 ∧ gI s 2 ≤ 1600 := hRs.1 2; omega)
            refine wp_inb (by have : (0 : Int) ≤ gI s3 46 ∧ gI s3 46 ≤ 60 := hRs3.1 46; have : (0 : Int) ≤ gI s3 5 ∧ gI s3 5 ≤ 5 := hRs3.1 5; have : (0 : Int) ≤ gI s3 3 ∧ gI s3 3 ≤ 1600 := hRs3.1 3; have : (0 : Int) ≤ gI s3 2 ∧ gI s3 2 ≤ 1600 := hRs3.1 2; have : (0 : Int) ≤ gI s3 102 ∧ gI s3 102 ≤ 1700 := hRs3.1 102; have : (0 : Int) ≤ gI s14 45 ∧ gI s14 45 ≤ 1600 := hRs14.1 45; have : (0 : Int) ≤ gI s14 102 ∧ gI s14 102 ≤ 1700 := hRs14.1 102; have : (0 : Int) ≤ gI s14 5 ∧ gI s14 5 ≤ 5 := hRs14.1 5; have : (0 : Int) ≤ gI s 5 ∧ gI s 5 ≤ 5 := hRs.1 5; have : (0 : Int) ≤ gI s14 46 ∧ gI s14 46 ≤ 60 := hRs14.1 46; have : (0 : Int) ≤ gI s14 3 ∧ gI s14 3 ≤ 1600 := hRs14.1 3; have : (0 : Int) ≤ gI s14 2 ∧ gI s14 2 ≤ 1600 := hRs14.1 2; have : (0 : Int) ≤ gI s 46 ∧ gI s 46 ≤ 60 := hRs.1 46; have : (0 : Int) ≤ gI s 3 ∧ gI s 3 ≤ 1600 := hRs.1 3; have : (0 : Int) ≤ gI s 2 ∧ gI s 2 ≤ 1600 := hRs.1 2; have : (0 : Int) ≤ gI s3 45 ∧ gI s3 45 ≤ 1600 := hRs3.1 45; omega) ?_
            refine wp_stn (fun s11 es11 => ?_)
            have hRs11 : Rr s11 := es11 ▸ Rr.uAu hRs3 (by show (0 : Int) ≤ y9 ∧ y9 ≤ 10999; have : (0 : Int) ≤ gI s3 46 ∧ gI s3 46 ≤ 60 := hRs3.1 46; have : (0 : Int) ≤ gI s3 5 ∧ gI s3 5 ≤ 5 := hRs3.1 5; have : (0 : Int) ≤ gI s3 3 ∧ gI s3 3 ≤ 1600 := hRs3.1 3; have : (0 : Int) ≤ gI s3 2 ∧ gI s3 2 ≤ 1600 := hRs3.1 2; have : (0 : Int) ≤ gI s3 45 ∧ gI s3 45 ≤ 1600 := hRs3.1 45; have : (0 : Int) ≤ gI s3 102 ∧ gI s3 102 ≤ 1700 := hRs3.1 102; have : (0 : Int) ≤ gI s14 45 ∧ gI s14 45 ≤ 1600 := hRs14.1 45; have : (0 : Int) ≤ gI s14 102 ∧ gI s14 102 ≤ 1700 := hRs14.1 102; have : (0 : Int) ≤ gI s14 5 ∧ gI s14 5 ≤ 5 := hRs14.1 5; have : (0 : Int) ≤ gI s 5 ∧ gI s 5 ≤ 5 := hRs.1 5; have : (0 : Int) ≤ gI s14 46 ∧ gI s14 46 ≤ 60 := hRs14.1 46; have : (0 : Int) ≤ gI s14 3 ∧ gI s14 3 ≤ 1600 := hRs14.1 3; have : (0 : Int) ≤ gI s14 2 ∧ gI s14 2 ≤ 1600 := hRs14.1 2; have : (0 : Int) ≤ gI s 46 ∧ gI s 46 ≤ 60 := hRs.1 46; have : (0 : Int) ≤ gI s 3 ∧ gI s 3 ≤ 1600 := hRs.1 3; have : (0 : Int) ≤ gI s 2 ∧ gI s 2 ≤ 1600 := hRs.1 2; omega)
            refine wp_stn (fun s12 es12 => ?_)
            have hRs12 : Rr s12 := es12 ▸ Rr.uI hRs11 (by show (0 : Int) ≤ ((gI s11 45) + 1) ∧ ((gI s11 45) + 1) ≤ 1600; have : (0 : Int) ≤ gI s3 46 ∧ gI s3 46 ≤ 60 := hRs3.1 46; have : (0 : Int) ≤ gI s3 5 ∧ gI s3 5 ≤ 5 := hRs3.1 5; have : (0 : Int) ≤ gI s3 3 ∧ gI s3 3 ≤ 1600 := hRs3.1 3; have : (0 : Int) ≤ gI s3 2 ∧ gI s3 2 ≤ 1600 := hRs3.1 2; have : (0 : Int) ≤ gI s3 45 ∧ gI s3 45 ≤ 1600 := hRs3.1 45; have : (0 : Int) ≤ gI s3 102 ∧ gI s3 102 ≤ 1700 := hRs3.1 102; have : (0 : Int) ≤ gI s14 45 ∧ gI s14 45 ≤ 1600 := hRs14.1 45; have : (0 : Int) ≤ gI s14 102 ∧ gI s14 102 ≤ 1700 := hRs14.1 102; have : (0 : Int) ≤ gI s14 5 ∧ gI s14 5 ≤ 5 := hRs14.1 5; have : (0 : Int) ≤ gI s 5 ∧ gI s 5 ≤ 5 := hRs.1 5; have : (0 : Int) ≤ gI s14 46 ∧ gI s14 46 ≤ 60 := hRs14.1 46; have : (0 : Int) ≤ gI s14 3 ∧ gI s14 3 ≤ 1600 := hRs14.1 3; have : (0 : Int) ≤ gI s14 2 ∧ gI s14 2 ≤ 1600 := hRs14.1 2; have : (0 : Int) ≤ gI s 46 ∧ gI s 46 ≤ 60 := hRs.1 46; have : (0 : Int) ≤ gI s 3 ∧ gI s 3 ≤ 1600 := hRs.1 3; have : (0 : Int) ≤ gI s 2 ∧ gI s 2 ≤ 1600 := hRs.1 2; have : gI s11 45 = gI s3 45 := q_Ai es11; omega)
            exact ih92 x1 (x2 + 1) s12 hRs12 (by show x1 = p0 ∧ (0 ≤ (x2 + 1) ∧ (x2 + 1) ≤ gI s14 102); have : (0 : Int) ≤ gI s3 46 ∧ gI s3 46 ≤ 60 := hRs3.1 46; have : (0 : Int) ≤ gI s3 5 ∧ gI s3 5 ≤ 5 := hRs3.1 5; have : (0 : Int) ≤ gI s3 3 ∧ gI s3 3 ≤ 1600 := hRs3.1 3; have : (0 : Int) ≤ gI s3 2 ∧ gI s3 2 ≤ 1600 := hRs3.1 2; have : (0 : Int) ≤ gI s3 45 ∧ gI s3 45 ≤ 1600 := hRs3.1 45; have : (0 : Int) ≤ gI s3 102 ∧ gI s3 102 ≤ 1700 := hRs3.1 102; have : (0 : Int) ≤ gI s14 45 ∧ gI s14 45 ≤ 1600 := hRs14.1 45; have : (0 : Int) ≤ gI s14 5 ∧ gI s14 5 ≤ 5 := hRs14.1 5; have : (0 : Int) ≤ gI s 5 ∧ gI s 5 ≤ 5 := hRs.1 5; have : (0 : Int) ≤ gI s14 46 ∧ gI s14 46 ≤ 60 := hRs14.1 46; have : (0 : Int) ≤ gI s14 3 ∧ gI s14 3 ≤ 1600 := hRs14.1 3; have : (0 : Int) ≤ gI s14 2 ∧ gI s14 2 ≤ 1600 := hRs14.1 2; have : (0 : Int) ≤ gI s 46 ∧ gI s 46 ≤ 60 := hRs.1 46; have : (0 : Int) ≤ gI s 3 ∧ gI s 3 ≤ 1600 := hRs.1 3; have : (0 : Int) ≤ gI s 2 ∧ gI s 2 ≤ 1600 := hRs.1 2; have : (0 : Int) ≤ gI s14 102 ∧ gI s14 102 ≤ 1700 := hRs14.1 102; omega) (by show gI s12 102 = gI s14 102 ∧ gI s12 45 = gI s14 45 + (x2 + 1); have : (0 : Int) ≤ gI s3 46 ∧ gI s3 46 ≤ 60 := hRs3.1 46; have : (0 : Int) ≤ gI s3 5 ∧ gI s3 5 ≤ 5 := hRs3.1 5; have : (0 : Int) ≤ gI s3 3 ∧ gI s3 3 ≤ 1600 := hRs3.1 3; have : (0 : Int) ≤ gI s3 2 ∧ gI s3 2 ≤ 1600 := hRs3.1 2; have : (0 : Int) ≤ gI s3 45 ∧ gI s3 45 ≤ 1600 := hRs3.1 45; have : (0 : Int) ≤ gI s3 102 ∧ gI s3 102 ≤ 1700 := hRs3.1 102; have : (0 : Int) ≤ gI s14 5 ∧ gI s14 5 ≤ 5 := hRs14.1 5; have : (0 : Int) ≤ gI s 5 ∧ gI s 5 ≤ 5 := hRs.1 5; have : (0 : Int) ≤ gI s14 46 ∧ gI s14 46 ≤ 60 := hRs14.1 46; have : (0 : Int) ≤ gI s14 3 ∧ gI s14 3 ≤ 1600 := hRs14.1 3; have : (0 : Int) ≤ gI s14 2 ∧ gI s14 2 ≤ 1600 := hRs14.1 2; have : (0 : Int) ≤ gI s 46 ∧ gI s 46 ≤ 60 := hRs.1 46; have : (0 : Int) ≤ gI s 3 ∧ gI s 3 ≤ 1600 := hRs.1 3; have : (0 : Int) ≤ gI s 2 ∧ gI s 2 ≤ 1600 := hRs.1 2; have : (0 : Int) ≤ gI s14 45 ∧ gI s14 45 ≤ 1600 := hRs14.1 45; have : gI s12 45 = (gI s11 45) + 1 := q_II es12; have : gI s11 45 = gI s3 45 := q_Ai es11; have : (0 : Int) ≤ gI s14 102 ∧ gI s14 102 ≤ 1700 := hRs14.1 102; have : gI s12 102 = gI s11 102 := q_Ii es12 (by decide); have : gI s11 102 = gI s3 102 := q_Ai es11; omega) (by show gI s12 2 = gI s14 2 ∧ gI s12 3 = gI s14 3 ∧ gI s12 5 = 0 ∧ gI s12 46 = gI s14 46; have : (0 : Int) ≤ gI s3 46 ∧ gI s3 46 ≤ 60 := hRs3.1 46; have : (0 : Int) ≤ gI s3 5 ∧ gI s3 5 ≤ 5 := hRs3.1 5; have : (0 : Int) ≤ gI s3 3 ∧ gI s3 3 ≤ 1600 := hRs3.1 3; have : (0 : Int) ≤ gI s3 2 ∧ gI s3 2 ≤ 1600 := hRs3.1 2; have : (0 : Int) ≤ gI s3 45 ∧ gI s3 45 ≤ 1600 := hRs3.1 45; have : (0 : Int) ≤ gI s3 102 ∧ gI s3 102 ≤ 1700 := hRs3.1 102; have : (0 : Int) ≤ gI s14 45 ∧ gI s14 45 ≤ 1600 := hRs14.1 45; have : (0 : Int) ≤ gI s14 102 ∧ gI s14 102 ≤ 1700 := hRs14.1 102; have : (0 : Int) ≤ gI s14 5 ∧ gI s14 5 ≤ 5 := hRs14.1 5; have : (0 : Int) ≤ gI s 5 ∧ gI s 5 ≤ 5 := hRs.1 5; have : (0 : Int) ≤ gI s 46 ∧ gI s 46 ≤ 60 := hRs.1 46; have : (0 : Int) ≤ gI s 3 ∧ gI s 3 ≤ 1600 := hRs.1 3; have : (0 : Int) ≤ gI s 2 ∧ gI s 2 ≤ 1600 := hRs.1 2; have : (0 : Int) ≤ gI s14 46 ∧ gI s14 46 ≤ 60 := hRs14.1 46; have : gI s12 46 = gI s11 46 := q_Ii es12 (by decide); have : gI s11 46 = gI s3 46 := q_Ai es11; have : gI s12 5 = gI s11 5 := q_Ii es12 (by decide); have : gI s11 5 = gI s3 5 := q_Ai es11; have : (0 : Int) ≤ gI s14 3 ∧ gI s14 3 ≤ 1600 := hRs14.1 3; have : gI s12 3 = gI s11 3 := q_Ii es12 (by decide); have : gI s11 3 = gI s3 3 := q_Ai es11; have : (0 : Int) ≤ gI s14 2 ∧ gI s14 2 ≤ 1600 := hRs14.1 2; have : gI s12 2 = gI s11 2 := q_Ii es12 (by decide); have : gI s11 2 = gI s3 2 := q_Ai es11; omega) ((((q_Ia es12 : gA s12 101 = gA s11 101).trans (q_Aa es11 (by decide) : gA s11 101 = gA s3 101))).trans hv92_3) (fun j hj => by
        rw [((q_Ia es12 : gA s12 44 = gA s11 44)), (q_AA es11 : gA s11 44 = _)]
        by_cases z : j = x2.toNat
        · rw [z, show (gI s14 45).toNat + x2.toNat = (gI s3 45).toNat by omega, upZ_s, ← ey9, hv92_3]
        · rw [upZ_n (by omega)]; exact hv92_4 j (by omega)) (fun j hj => by
        rw [((q_Ia es12 : gA s12 44 = gA s11 44)), (q_AA es11 : gA s11 44 = _), upZ_n (by omega)]; exact hv92_5 j hj) (⟨(((q_Ia es12 : gA s12 43 = gA s11 43).trans (q_Aa es11 (by decide) : gA s11 43 = gA s3 43))).trans hv92_6.1, (((q_Ia es12 : gA s12 42 = gA s11 42).trans (q_Aa es11 (by decide) : gA s11 42 = gA s3 42))).trans hv92_6.2.1, (((q_Ia es12 : gA s12 39 = gA s11 39).trans (q_Aa es11 (by decide) : gA s11 39 = gA s3 39))).trans hv92_6.2.2.1, (((q_Ia es12 : gA s12 41 = gA s11 41).trans (q_Aa es11 (by decide) : gA s11 41 = gA s3 41))).trans hv92_6.2.2.2⟩) (fun j hj => by rw [((q_Ia es12 : gA s12 44 = gA s11 44)), (q_AA es11 : gA s11 44 = _), upZ_n (by omega)]; exact hv92_7 j hj) (by have : (0 : Int) ≤ gI s3 46 ∧ gI s3 46 ≤ 60 := hRs3.1 46; have : (0 : Int) ≤ gI s3 5 ∧ gI s3 5 ≤ 5 := hRs3.1 5; have : (0 : Int) ≤ gI s3 3 ∧ gI s3 3 ≤ 1600 := hRs3.1 3; have : (0 : Int) ≤ gI s3 2 ∧ gI s3 2 ≤ 1600 := hRs3.1 2; have : (0 : Int) ≤ gI s3 45 ∧ gI s3 45 ≤ 1600 := hRs3.1 45; have : (0 : Int) ≤ gI s3 102 ∧ gI s3 102 ≤ 1700 := hRs3.1 102; have : (0 : Int) ≤ gI s14 45 ∧ gI s14 45 ≤ 1600 := hRs14.1 45; have : (0 : Int) ≤ gI s14 5 ∧ gI s14 5 ≤ 5 := hRs14.1 5; have : (0 : Int) ≤ gI s 5 ∧ gI s 5 ≤ 5 := hRs.1 5; have : (0 : Int) ≤ gI s14 46 ∧ gI s14 46 ≤ 60 := hRs14.1 46; have : (0 : Int) ≤ gI s14 3 ∧ gI s14 3 ≤ 1600 := hRs14.1 3; have : (0 : Int) ≤ gI s14 2 ∧ gI s14 2 ≤ 1600 := hRs14.1 2; have : (0 : Int) ≤ gI s 46 ∧ gI s 46 ≤ 60 := hRs.1 46; have : (0 : Int) ≤ gI s 3 ∧ gI s 3 ≤ 1600 := hRs.1 3; have : (0 : Int) ≤ gI s 2 ∧ gI s 2 ≤ 1600 := hRs.1 2; have : (0 : Int) ≤ gI s14 102 ∧ gI s14 102 ≤ 1700 := hRs14.1 102; omega)
      exact L92 FU x13 0 s18 hRs18 (by show x13 = p0 ∧ (0 ≤ (0 : Int) ∧ (0 : Int) ≤ gI s14 102); have : (0 : Int) ≤ gI s14 45 ∧ gI s14 45 ≤ 1600 := hRs14.1 45; have : (0 : Int) ≤ gI s14 5 ∧ gI s14 5 ≤ 5 := hRs14.1 5; have : (0 : Int) ≤ gI s 5 ∧ gI s 5 ≤ 5 := hRs.1 5; have : (0 : Int) ≤ gI s14 46 ∧ gI s14 46 ≤ 60 := hRs14.1 46; have : (0 : Int) ≤ gI s14 3 ∧ gI s14 3 ≤ 1600 := hRs14.1 3; have : (0 : Int) ≤ gI s14 2 ∧ gI s14 2 ≤ 1600 := hRs14.1 2; have : (0 : Int) ≤ gI s 46 ∧ gI s 46 ≤ 60 := hRs.1 46; have : (0 : Int) ≤ gI s 3 ∧ gI s 3 ≤ 1600 := hRs.1 3; have : (0 : Int) ≤ gI s 2 ∧ gI s 2 ≤ 1600 := hRs.1 2; have : (0 : Int) ≤ gI s14 102 ∧ gI s14 102 ≤ 1700 := hRs14.1 102; omega) (by show gI s18 102 = gI s14 102 ∧ gI s18 45 = gI s14 45 + (0 : Int); have : (0 : Int) ≤ gI s14 5 ∧ gI s14 5 ≤ 5 := hRs14.1 5; have : (0 : Int) ≤ gI s 5 ∧ gI s 5 ≤ 5 := hRs.1 5; have : (0 : Int) ≤ gI s14 46 ∧ gI s14 46 ≤ 60 := hRs14.1 46; have : (0 : Int) ≤ gI s14 3 ∧ gI s14 3 ≤ 1600 := hRs14.1 3; have : (0 : Int) ≤ gI s14 2 ∧ gI s14 2 ≤ 1600 := hRs14.1 2; have : (0 : Int) ≤ gI s 46 ∧ gI s 46 ≤ 60 := hRs.1 46; have : (0 : Int) ≤ gI s 3 ∧ gI s 3 ≤ 1600 := hRs.1 3; have : (0 : Int) ≤ gI s 2 ∧ gI s 2 ≤ 1600 := hRs.1 2; have : (0 : Int) ≤ gI s14 45 ∧ gI s14 45 ≤ 1600 := hRs14.1 45; have : gI s18 45 = gI s14 45 := q_Ai es18; have : (0 : Int) ≤ gI s14 102 ∧ gI s14 102 ≤ 1700 := hRs14.1 102; have : gI s18 102 = gI s14 102 := q_Ai es18; omega) (by show gI s18 2 = gI s14 2 ∧ gI s18 3 = gI s14 3 ∧ gI s18 5 = 0 ∧ gI s18 46 = gI s14 46; have : (0 : Int) ≤ gI s14 45 ∧ gI s14 45 ≤ 1600 := hRs14.1 45; have : (0 : Int) ≤ gI s14 102 ∧ gI s14 102 ≤ 1700 := hRs14.1 102; have : (0 : Int) ≤ gI s14 5 ∧ gI s14 5 ≤ 5 := hRs14.1 5; have : (0 : Int) ≤ gI s 5 ∧ gI s 5 ≤ 5 := hRs.1 5; have : (0 : Int) ≤ gI s 46 ∧ gI s 46 ≤ 60 := hRs.1 46; have : (0 : Int) ≤ gI s 3 ∧ gI s 3 ≤ 1600 := hRs.1 3; have : (0 : Int) ≤ gI s 2 ∧ gI s 2 ≤ 1600 := hRs.1 2; have : (0 : Int) ≤ gI s14 46 ∧ gI s14 46 ≤ 60 := hRs14.1 46; have : gI s18 46 = gI s14 46 := q_Ai es18; have : gI s18 5 = gI s14 5 := q_Ai es18; have : (0 : Int) ≤ gI s14 3 ∧ gI s14 3 ≤ 1600 := hRs14.1 3; have : gI s18 3 = gI s14 3 := q_Ai es18; have : (0 : Int) ≤ gI s14 2 ∧ gI s14 2 ≤ 1600 := hRs14.1 2; have : gI s18 2 = gI s14 2 := q_Ai es18; omega) (((q_Aa es18 (by decide) : gA s18 101 = gA s14 101))) (fun j hj => by omega) (fun j hj => by rw [(q_Aa es18 (by decide) : gA s18 44 = gA s14 44)]) (⟨(q_Aa es18 (by decide) : gA s18 43 = gA s14 43), rfl, (q_Aa es18 (by decide) : gA s18 39 = gA s14 39), (q_Aa es18 (by decide) : gA s18 41 = gA s14 41)⟩) (fun j _ => by rw [(q_Aa es18 (by decide) : gA s18 44 = gA s14 44)]) (by have := FU_big; have := FU_big2; have : (0 : Int) ≤ gI s14 45 ∧ gI s14 45 ≤ 1600 := hRs14.1 45; have : (0 : Int) ≤ gI s14 5 ∧ gI s14 5 ≤ 5 := hRs14.1 5; have : (0 : Int) ≤ gI s 5 ∧ gI s 5 ≤ 5 := hRs.1 5; have : (0 : Int) ≤ gI s14 46 ∧ gI s14 46 ≤ 60 := hRs14.1 46; have : (0 : Int) ≤ gI s14 3 ∧ gI s14 3 ≤ 1600 := hRs14.1 3; have : (0 : Int) ≤ gI s14 2 ∧ gI s14 2 ≤ 1600 := hRs14.1 2; have : (0 : Int) ≤ gI s 46 ∧ gI s 46 ≤ 60 := hRs.1 46; have : (0 : Int) ≤ gI s 3 ∧ gI s 3 ≤ 1600 := hRs.1 3; have : (0 : Int) ≤ gI s 2 ∧ gI s 2 ≤ 1600 := hRs.1 2; have : (0 : Int) ≤ gI s14 102 ∧ gI s14 102 ≤ 1700 := hRs14.1 102; omega)
    · skip
      exact wp_some ⟨hRs14, SP_eq (e := 0) (hj72_1.1) rfl rfl rfl rfl rfl rfl (by have : (0 : Int) ≤ gI s14 45 ∧ gI s14 45 ≤ 1600 := hRs14.1 45; have : (0 : Int) ≤ gI s14 102 ∧ gI s14 102 ≤ 1700 := hRs14.1 102; have : (0 : Int) ≤ gI s14 5 ∧ gI s14 5 ≤ 5 := hRs14.1 5; have : (0 : Int) ≤ gI s 5 ∧ gI s 5 ≤ 5 := hRs.1 5; have : (0 : Int) ≤ gI s14 3 ∧ gI s14 3 ≤ 1600 := hRs14.1 3; have : (0 : Int) ≤ gI s14 2 ∧ gI s14 2 ≤ 1600 := hRs14.1 2; have : (0 : Int) ≤ gI s 46 ∧ gI s 46 ≤ 60 := hRs.1 46; have : (0 : Int) ≤ gI s 3 ∧ gI s 3 ≤ 1600 := hRs.1 3; have : (0 : Int) ≤ gI s 2 ∧ gI s 2 ≤ 1600 := hRs.1 2; have : (0 : Int) ≤ gI s14 46 ∧ gI s14 46 ≤ 60 := hRs14.1 46; omega) (by have : (0 : Int) ≤ gI s14 45 ∧ gI s14 45 ≤ 1600 := hRs14.1 45; have : (0 : Int) ≤ gI s14 102 ∧ gI s14 102 ≤ 1700 := hRs14.1 102; have : (0 : Int) ≤ gI s14 5 ∧ gI s14 5 ≤ 5 := hRs14.1 5; have : (0 : Int) ≤ gI s 5 ∧ gI s 5 ≤ 5 := hRs.1 5; have : (0 : Int) ≤ gI s14 46 ∧ gI s14 46 ≤ 60 := hRs14.1 46; have : (0 : Int) ≤ gI s14 3 ∧ gI s14 3 ≤ 1600 := hRs14.1 3; have : (0 : Int) ≤ gI s 46 ∧ gI s 46 ≤ 60 := hRs.1 46; have : (0 : Int) ≤ gI s 3 ∧ gI s 3 ≤ 1600 := hRs.1 3; have : (0 : Int) ≤ gI s 2 ∧ gI s 2 ≤ 1600 := hRs.1 2; have : (0 : Int) ≤ gI s14 2 ∧ gI s14 2 ≤ 1600 := hRs14.1 2; omega) (by have : (0 : Int) ≤ gI s14 45 ∧ gI s14 45 ≤ 1600 := hRs14.1 45; have : (0 : Int) ≤ gI s14 102 ∧ gI s14 102 ≤ 1700 := hRs14.1 102; have : (0 : Int) ≤ gI s 5 ∧ gI s 5 ≤ 5 := hRs.1 5; have : (0 : Int) ≤ gI s14 46 ∧ gI s14 46 ≤ 60 := hRs14.1 46; have : (0 : Int) ≤ gI s14 3 ∧ gI s14 3 ≤ 1600 := hRs14.1 3; have : (0 : Int) ≤ gI s14 2 ∧ gI s14 2 ≤ 1600 := hRs14.1 2; have : (0 : Int) ≤ gI s 46 ∧ gI s 46 ≤ 60 := hRs.1 46; have : (0 : Int) ≤ gI s 3 ∧ gI s 3 ≤ 1600 := hRs.1 3; have : (0 : Int) ≤ gI s 2 ∧ gI s 2 ≤ 1600 := hRs.1 2; have : (0 : Int) ≤ gI s14 5 ∧ gI s14 5 ≤ 5 := hRs14.1 5; omega), by show gI s 2 ≤ gI s14 2 ∧ gI s14 2 ≤ gI s14 3; have : (0 : Int) ≤ gI s14 45 ∧ gI s14 45 ≤ 1600 := hRs14.1 45; have : (0 : Int) ≤ gI s14 102 ∧ gI s14 102 ≤ 1700 := hRs14.1 102; have : (0 : Int) ≤ gI s14 5 ∧ gI s14 5 ≤ 5 := hRs14.1 5; have : (0 : Int) ≤ gI s 5 ∧ gI s 5 ≤ 5 := hRs.1 5; have : (0 : Int) ≤ gI s14 46 ∧ gI s14 46 ≤ 60 := hRs14.1 46; have : (0 : Int) ≤ gI s 46 ∧ gI s 46 ≤ 60 := hRs.1 46; have : (0 : Int) ≤ gI s 3 ∧ gI s 3 ≤ 1600 := hRs.1 3; have : (0 : Int) ≤ gI s14 3 ∧ gI s14 3 ≤ 1600 := hRs14.1 3; have : (0 : Int) ≤ gI s14 2 ∧ gI s14 2 ≤ 1600 := hRs14.1 2; have : (0 : Int) ≤ gI s 2 ∧ gI s 2 ≤ 1600 := hRs.1 2; omega, by show gI s 5 ≠ 0 → gI s14 5 ≠ 0; have : (0 : Int) ≤ gI s14 45 ∧ gI s14 45 ≤ 1600 := hRs14.1 45; have : (0 : Int) ≤ gI s14 102 ∧ gI s14 102 ≤ 1700 := hRs14.1 102; have : (0 : Int) ≤ gI s14 46 ∧ gI s14 46 ≤ 60 := hRs14.1 46; have : (0 : Int) ≤ gI s14 3 ∧ gI s14 3 ≤ 1600 := hRs14.1 3; have : (0 : Int) ≤ gI s14 2 ∧ gI s14 2 ≤ 1600 := hRs14.1 2; have : (0 : Int) ≤ gI s 46 ∧ gI s 46 ≤ 60 := hRs.1 46; have : (0 : Int) ≤ gI s 3 ∧ gI s 3 ≤ 1600 := hRs.1 3; have : (0 : Int) ≤ gI s 2 ∧ gI s 2 ≤ 1600 := hRs.1 2; have : (0 : Int) ≤ gI s14 5 ∧ gI s14 5 ≤ 5 := hRs14.1 5; have : (0 : Int) ≤ gI s 5 ∧ gI s 5 ≤ 5 := hRs.1 5; omega, hj72_1.2⟩
  have J23 : ∀ (x19 : Int) (s20 : MS), Rr s20 → (x19 = p0 ∧ gI s 2 ≤ gI s20 2 ∧ gI s20 2 ≤ gI s20 3) → (SP s20 0 ∧ FBk s s20) → (1 ≤ gI s20 46 ∧ gI s20 46 < 60) → (gI s 5 ≠ 0 → gI s20 5 ≠ 0) → wp (m_x12_codesTold_J23 x19 s20) (fun o => (Rr o) ∧ (SP o 1) ∧ (gI s 2 ≤ gI o 2 ∧ gI o 2 ≤ gI o 3) ∧ (gI s 5 ≠ 0 → gI o 5 ≠ 0) ∧ (FBk s o)) := by
    intro x19 s20 hRs20 hj23_0 hj23_1 hj23_2 hj23_3
    unfold m_x12_codesTold_J23
    refine wp_rg (by have : (0 : Int) ≤ gI s 5 ∧ gI s 5 ≤ 5 := hRs.1 5; have : (0 : Int) ≤ gI s20 46 ∧ gI s20 46 ≤ 60 := hRs20.1 46; have : (0 : Int) ≤ gI s20 3 ∧ gI s20 3 ≤ 1600 := hRs20.1 3; have : (0 : Int) ≤ gI s20 2 ∧ gI s20 2 ≤ 1600 := hRs20.1 2; have : (0 : Int) ≤ gI s 46 ∧ gI s 46 ≤ 60 := hRs.1 46; have : (0 : Int) ≤ gI s 3 ∧ gI s 3 ≤ 1600 := hRs.1 3; have : (0 : Int) ≤ gI s 2 ∧ gI s 2 ≤ 1600 := hRs.1 2; have : (0 : Int) ≤ gI s20 5 ∧ gI s20 5 ≤ 5 := hRs20.1 5; omega) ?_
    refine wp_if (fun c3 => ?_) (fun c3 => ?_)
    · skip
      refine wp_stn (fun s23 es23 => ?_)
      have hRs23 : Rr s23 := es23 ▸ Rr.uI hRs20 (by show (0 : Int) ≤ x19 ∧ x19 ≤ 3; have : (0 : Int) ≤ gI s20 5 ∧ gI s20 5 ≤ 5 := hRs20.1 5; have : (0 : Int) ≤ gI s 5 ∧ gI s 5 ≤ 5 := hRs.1 5; have : (0 : Int) ≤ gI s20 46 ∧ gI s20 46 ≤ 60 := hRs20.1 46; have : (0 : Int) ≤ gI s20 3 ∧ gI s20 3 ≤ 1600 := hRs20.1 3; have : (0 : Int) ≤ gI s20 2 ∧ gI s20 2 ≤ 1600 := hRs20.1 2; have : (0 : Int) ≤ gI s 46 ∧ gI s 46 ≤ 60 := hRs.1 46; have : (0 : Int) ≤ gI s 3 ∧ gI s 3 ≤ 1600 := hRs.1 3; have : (0 : Int) ≤ gI s 2 ∧ gI s 2 ≤ 1600 := hRs.1 2; omega)
      refine wp_stn (fun s24 es24 => ?_)
      have hRs24 : Rr s24 := es24 ▸ Rr.uI hRs23 (by show (0 : Int) ≤ (0 : Int) ∧ (0 : Int) ≤ 1700; have : (0 : Int) ≤ gI s20 5 ∧ gI s20 5 ≤ 5 := hRs20.1 5; have : (0 : Int) ≤ gI s 5 ∧ gI s 5 ≤ 5 := hRs.1 5; have : (0 : Int) ≤ gI s20 46 ∧ gI s20 46 ≤ 60 := hRs20.1 46; have : (0 : Int) ≤ gI s20 3 ∧ gI s20 3 ≤ 1600 := hRs20.1 3; have : (0 : Int) ≤ gI s20 2 ∧ gI s20 2 ≤ 1600 := hRs20.1 2; have : (0 : Int) ≤ gI s 46 ∧ gI s 46 ≤ 60 := hRs.1 46; have : (0 : Int) ≤ gI s 3 ∧ gI s 3 ≤ 1600 := hRs.1 3; have : (0 : Int) ≤ gI s 2 ∧ gI s 2 ≤ 1600 := hRs.1 2; omega)
      refine wp_stn (fun s25 es25 => ?_)
      have hRs25 : Rr s25 := es25 ▸ Rr.uI hRs24 (by show (0 : Int) ≤ (0 : Int) ∧ (0 : Int) ≤ 1700; have : (0 : Int) ≤ gI s20 5 ∧ gI s20 5 ≤ 5 := hRs20.1 5; have : (0 : Int) ≤ gI s 5 ∧ gI s 5 ≤ 5 := hRs.1 5; have : (0 : Int) ≤ gI s20 46 ∧ gI s20 46 ≤ 60 := hRs20.1 46; have : (0 : Int) ≤ gI s20 3 ∧ gI s20 3 ≤ 1600 := hRs20.1 3; have : (0 : Int) ≤ gI s20 2 ∧ gI s20 2 ≤ 1600 := hRs20.1 2; have : (0 : Int) ≤ gI s 46 ∧ gI s 46 ≤ 60 := hRs.1 46; have : (0 : Int) ≤ gI s 3 ∧ gI s 3 ≤ 1600 := hRs.1 3; have : (0 : Int) ≤ gI s 2 ∧ gI s 2 ≤ 1600 := hRs.1 2; omega)
      refine wp_stn (fun s26 es26 => ?_)
      have hRs26 : Rr s26 := es26 ▸ Rr.uI hRs25 (by show (0 : Int) ≤ (0 : Int) ∧ (0 : Int) ≤ 6; have : (0 : Int) ≤ gI s20 5 ∧ gI s20 5 ≤ 5 := hRs20.1 5; have : (0 : Int) ≤ gI s 5 ∧ gI s 5 ≤ 5 := hRs.1 5; have : (0 : Int) ≤ gI s20 46 ∧ gI s20 46 ≤ 60 := hRs20.1 46; have : (0 : Int) ≤ gI s20 3 ∧ gI s20 3 ≤ 1600 := hRs20.1 3; have : (0 : Int) ≤ gI s20 2 ∧ gI s20 2 ≤ 1600 := hRs20.1 2; have : (0 : Int) ≤ gI s 46 ∧ gI s 46 ≤ 60 := hRs.1 46; have : (0 : Int) ≤ gI s 3 ∧ gI s 3 ≤ 1600 := hRs.1 3; have : (0 : Int) ≤ gI s 2 ∧ gI s 2 ≤ 1600 := hRs.1 2; omega)
      refine wp_stn (fun s27 es27 => ?_)
      have hRs27 : Rr s27 := es27 ▸ Rr.uI hRs26 (by show (0 : Int) ≤ (0 : Int) ∧ (0 : Int) ≤ 1700; have : (0 : Int) ≤ gI s20 5 ∧ gI s20 5 ≤ 5 := hRs20.1 5; have : (0 : Int) ≤ gI s 5 ∧ gI s 5 ≤ 5 := hRs.1 5; have : (0 : Int) ≤ gI s20 46 ∧ gI s20 46 ≤ 60 := hRs20.1 46; have : (0 : Int) ≤ gI s20 3 ∧ gI s20 3 ≤ 1600 := hRs20.1 3; have : (0 : Int) ≤ gI s20 2 ∧ gI s20 2 ≤ 1600 := hRs20.1 2; have : (0 : Int) ≤ gI s 46 ∧ gI s 46 ≤ 60 := hRs.1 46; have : (0 : Int) ≤ gI s 3 ∧ gI s 3 ≤ 1600 := hRs.1 3; have : (0 : Int) ≤ gI s 2 ∧ gI s 2 ≤ 1600 := hRs.1 2; omega)
      refine wp_rg (by have : (0 : Int) ≤ gI s20 5 ∧ gI s20 5 ≤ 5 := hRs20.1 5; have : (0 : Int) ≤ gI s 5 ∧ gI s 5 ≤ 5 := hRs.1 5; have : (0 : Int) ≤ gI s20 46 ∧ gI s20 46 ≤ 60 := hRs20.1 46; have : (0 : Int) ≤ gI s20 3 ∧ gI s20 3 ≤ 1600 := hRs20.1 3; have : (0 : Int) ≤ gI s20 2 ∧ gI s20 2 ≤ 1600 := hRs20.1 2; have : (0 : Int) ≤ gI s 46 ∧ gI s 46 ≤ 60 := hRs.1 46; have : (0 : Int) ≤ gI s 3 ∧ gI s 3 ≤ 1600 := hRs.1 3; have : (0 : Int) ≤ gI s 2 ∧ gI s 2 ≤ 1600 := hRs.1 2; omega) ?_
      refine wp_if (fun c4 => ?_) (fun c4 => ?_)
      · skip
        refine wp_bn (w_x12_qTest (k := (0 - gI s27 2)) hRs27 (by show gI s27 2 ≤ gI s27 3; have : (0 : Int) ≤ gI s20 5 ∧ gI s20 5 ≤ 5 := hRs20.1 5; have : (0 : Int) ≤ gI s 5 ∧ gI s 5 ≤ 5 := hRs.1 5; have : (0 : Int) ≤ gI s20 46 ∧ gI s20 46 ≤ 60 := hRs20.1 46; have : (0 : Int) ≤ gI s20 3 ∧ gI s20 3 ≤ 1600 := hRs20.1 3; have : (0 : Int) ≤ gI s20 2 ∧ gI s20 2 ≤ 1600 := hRs20.1 2; have : (0 : Int) ≤ gI s 46 ∧ gI s 46 ≤ 60 := hRs.1 46; have : (0 : Int) ≤ gI s 3 ∧ gI s 3 ≤ 1600 := hRs.1 3; have : (0 : Int) ≤ gI s 2 ∧ gI s 2 ≤ 1600 := hRs.1 2; have : gI s27 3 = gI s26 3 := q_Ii es27 (by decide); have : gI s26 3 = gI s25 3 := q_Ii es26 (by decide); have : gI s25 3 = gI s24 3 := q_Ii es25 (by decide); have : gI s24 3 = gI s23 3 := q_Ii es24 (by decide); have : gI s23 3 = gI s20 3 := q_Ii es23 (by decide); have : gI s27 2 = gI s26 2 := q_Ii es27 (by decide); have : gI s26 2 = gI s25 2 := q_Ii es26 (by decide); have : gI s25 2 = gI s24 2 := q_Ii es25 (by decide); have : gI s24 2 = gI s23 2 := q_Ii es24 (by decide); have : gI s23 2 = gI s20 2 := q_Ii es23 (by decide); omega) (by show gI s27 5 = 0; have : (0 : Int) ≤ gI s20 5 ∧ gI s20 5 ≤ 5 := hRs20.1 5; have : (0 : Int) ≤ gI s 5 ∧ gI s 5 ≤ 5 := hRs.1 5; have : (0 : Int) ≤ gI s20 46 ∧ gI s20 46 ≤ 60 := hRs20.1 46; have : (0 : Int) ≤ gI s20 3 ∧ gI s20 3 ≤ 1600 := hRs20.1 3; have : (0 : Int) ≤ gI s20 2 ∧ gI s20 2 ≤ 1600 := hRs20.1 2; have : (0 : Int) ≤ gI s 46 ∧ gI s 46 ≤ 60 := hRs.1 46; have : (0 : Int) ≤ gI s 3 ∧ gI s 3 ≤ 1600 := hRs.1 3; have : (0 : Int) ≤ gI s 2 ∧ gI s 2 ≤ 1600 := hRs.1 2; have : gI s27 5 = gI s26 5 := q_Ii es27 (by decide); have : gI s26 5 = gI s25 5 := q_Ii es26 (by decide); have : gI s25 5 = gI s24 5 := q_Ii es25 (by decide); have : gI s24 5 = gI s23 5 := q_Ii es24 (by decide); have : gI s23 5 = gI s20 5 := q_Ii es23 (by decide); omega) (QT_0 ((((q_Ii es27 (by decide) : gI s27 102 = gI s26 102).trans ((q_Ii es26 (by decide) : gI s26 102 = gI s25 102).trans (q_Ii es25 (by decide) : gI s25 102 = gI s24 102)))).trans (q_II es24)) ((((q_Ii es27 (by decide) : gI s27 104 = gI s26 104).trans (q_Ii es26 (by decide) : gI s26 104 = gI s25 104))).trans (q_II es25)) (((q_Ii es27 (by decide) : gI s27 105 = gI s26 105)).trans (q_II es26)) (by omega)) (by show (0 - gI s27 2) ≤ 0; have : (0 : Int) ≤ gI s20 5 ∧ gI s20 5 ≤ 5 := hRs20.1 5; have : (0 : Int) ≤ gI s 5 ∧ gI s 5 ≤ 5 := hRs.1 5; have : (0 : Int) ≤ gI s20 46 ∧ gI s20 46 ≤ 60 := hRs20.1 46; have : (0 : Int) ≤ gI s20 3 ∧ gI s20 3 ≤ 1600 := hRs20.1 3; have : (0 : Int) ≤ gI s20 2 ∧ gI s20 2 ≤ 1600 := hRs20.1 2; have : (0 : Int) ≤ gI s 46 ∧ gI s 46 ≤ 60 := hRs.1 46; have : (0 : Int) ≤ gI s 3 ∧ gI s 3 ≤ 1600 := hRs.1 3; have : (0 : Int) ≤ gI s 2 ∧ gI s 2 ≤ 1600 := hRs.1 2; have : gI s27 2 = gI s26 2 := q_Ii es27 (by decide); have : gI s26 2 = gI s25 2 := q_Ii es26 (by decide); have : gI s25 2 = gI s24 2 := q_Ii es25 (by decide); have : gI s24 2 = gI s23 2 := q_Ii es24 (by decide); have : gI s23 2 = gI s20 2 := q_Ii es23 (by decide); omega)) (fun s33 es33 hs33 => ?_)
        have Fs33 : F_x12_qTest s27 s33 := fr_x12_qTest es33
        obtain ⟨hRs33, hs33_0, hs33_1, hs33_2⟩ := hs33
        have hs33_0 : gI s27 2 ≤ gI s33 2 ∧ gI s33 2 ≤ gI s33 3 := hs33_0
        have hs33_1 : gI s33 5 = 0 → QT s33 1 (0 - gI s27 2) ∧ gI s33 104 = 0 := hs33_1
        have hs33_2 : gI s33 102 ≤ 1602 := hs33_2
        exact J72 x19 s33 hRs33 (by show x19 = p0 ∧ gI s 2 ≤ gI s33 2 ∧ gI s33 2 ≤ gI s33 3; have : (0 : Int) ≤ gI s33 102 ∧ gI s33 102 ≤ 1700 := hRs33.1 102; have : (0 : Int) ≤ gI s33 104 ∧ gI s33 104 ≤ 1700 := hRs33.1 104; have : (0 : Int) ≤ gI s33 5 ∧ gI s33 5 ≤ 5 := hRs33.1 5; have : gI s27 2 = gI s26 2 := q_Ii es27 (by decide); have : gI s26 2 = gI s25 2 := q_Ii es26 (by decide); have : gI s25 2 = gI s24 2 := q_Ii es25 (by decide); have : gI s24 2 = gI s23 2 := q_Ii es24 (by decide); have : gI s23 2 = gI s20 2 := q_Ii es23 (by decide); have : (0 : Int) ≤ gI s20 5 ∧ gI s20 5 ≤ 5 := hRs20.1 5; have : (0 : Int) ≤ gI s 5 ∧ gI s 5 ≤ 5 := hRs.1 5; have : (0 : Int) ≤ gI s20 46 ∧ gI s20 46 ≤ 60 := hRs20.1 46; have : (0 : Int) ≤ gI s20 3 ∧ gI s20 3 ≤ 1600 := hRs20.1 3; have : (0 : Int) ≤ gI s20 2 ∧ gI s20 2 ≤ 1600 := hRs20.1 2; have : (0 : Int) ≤ gI s 46 ∧ gI s 46 ≤ 60 := hRs.1 46; have : (0 : Int) ≤ gI s 3 ∧ gI s 3 ≤ 1600 := hRs.1 3; have : gI s33 3 = gI s27 3 := Fs33.1 3 (by decide); have : gI s27 3 = gI s26 3 := q_Ii es27 (by decide); have : gI s26 3 = gI s25 3 := q_Ii es26 (by decide); have : gI s25 3 = gI s24 3 := q_Ii es25 (by decide); have : gI s24 3 = gI s23 3 := q_Ii es24 (by decide); have : gI s23 3 = gI s20 3 := q_Ii es23 (by decide); have : (0 : Int) ≤ gI s33 2 ∧ gI s33 2 ≤ 1600 := hRs33.1 2; have : (0 : Int) ≤ gI s 2 ∧ gI s 2 ≤ 1600 := hRs.1 2; omega) (⟨SP_eq (hj23_1.1) ((Fs33.2.1 39 (by decide)).trans ((q_Ia es27 : gA s27 39 = gA s26 39).trans ((q_Ia es26 : gA s26 39 = gA s25 39).trans ((q_Ia es25 : gA s25 39 = gA s24 39).trans ((q_Ia es24 : gA s24 39 = gA s23 39).trans (q_Ia es23 : gA s23 39 = gA s20 39)))))) ((Fs33.2.1 41 (by decide)).trans ((q_Ia es27 : gA s27 41 = gA s26 41).trans ((q_Ia es26 : gA s26 41 = gA s25 41).trans ((q_Ia es25 : gA s25 41 = gA s24 41).trans ((q_Ia es24 : gA s24 41 = gA s23 41).trans (q_Ia es23 : gA s23 41 = gA s20 41)))))) ((Fs33.2.1 42 (by decide)).trans ((q_Ia es27 : gA s27 42 = gA s26 42).trans ((q_Ia es26 : gA s26 42 = gA s25 42).trans ((q_Ia es25 : gA s25 42 = gA s24 42).trans ((q_Ia es24 : gA s24 42 = gA s23 42).trans (q_Ia es23 : gA s23 42 = gA s20 42)))))) ((Fs33.2.1 43 (by decide)).trans ((q_Ia es27 : gA s27 43 = gA s26 43).trans ((q_Ia es26 : gA s26 43 = gA s25 43).trans ((q_Ia es25 : gA s25 43 = gA s24 43).trans ((q_Ia es24 : gA s24 43 = gA s23 43).trans (q_Ia es23 : gA s23 43 = gA s20 43)))))) ((Fs33.2.1 44 (by decide)).trans ((q_Ia es27 : gA s27 44 = gA s26 44).trans ((q_Ia es26 : gA s26 44 = gA s25 44).trans ((q_Ia es25 : gA s25 44 = gA s24 44).trans ((q_Ia es24 : gA s24 44 = gA s23 44).trans (q_Ia es23 : gA s23 44 = gA s20 44)))))) ((Fs33.1 45 (by decide)).trans ((q_Ii es27 (by decide) : gI s27 45 = gI s26 45).trans ((q_Ii es26 (by decide) : gI s26 45 = gI s25 45).trans ((q_Ii es25 (by decide) : gI s25 45 = gI s24 45).trans ((q_Ii es24 (by decide) : gI s24 45 = gI s23 45).trans (q_Ii es23 (by decide) : gI s23 45 = gI s20 45)))))) (by have : (0 : Int) ≤ gI s33 102 ∧ gI s33 102 ≤ 1700 := hRs33.1 102; have : (0 : Int) ≤ gI s33 104 ∧ gI s33 104 ≤ 1700 := hRs33.1 104; have : (0 : Int) ≤ gI s33 5 ∧ gI s33 5 ≤ 5 := hRs33.1 5; have : gI s33 3 = gI s27 3 := Fs33.1 3 (by decide); have : gI s27 3 = gI s26 3 := q_Ii es27 (by decide); have : gI s26 3 = gI s25 3 := q_Ii es26 (by decide); have : gI s25 3 = gI s24 3 := q_Ii es25 (by decide); have : gI s24 3 = gI s23 3 := q_Ii es24 (by decide); have : gI s23 3 = gI s20 3 := q_Ii es23 (by decide); have : (0 : Int) ≤ gI s33 2 ∧ gI s33 2 ≤ 1600 := hRs33.1 2; have : gI s27 2 = gI s26 2 := q_Ii es27 (by decide); have : gI s26 2 = gI s25 2 := q_Ii es26 (by decide); have : gI s25 2 = gI s24 2 := q_Ii es25 (by decide); have : gI s24 2 = gI s23 2 := q_Ii es24 (by decide); have : gI s23 2 = gI s20 2 := q_Ii es23 (by decide); have : (0 : Int) ≤ gI s20 5 ∧ gI s20 5 ≤ 5 := hRs20.1 5; have : (0 : Int) ≤ gI s 5 ∧ gI s 5 ≤ 5 := hRs.1 5; have : (0 : Int) ≤ gI s20 3 ∧ gI s20 3 ≤ 1600 := hRs20.1 3; have : (0 : Int) ≤ gI s20 2 ∧ gI s20 2 ≤ 1600 := hRs20.1 2; have : (0 : Int) ≤ gI s 46 ∧ gI s 46 ≤ 60 := hRs.1 46; have : (0 : Int) ≤ gI s 3 ∧ gI s 3 ≤ 1600 := hRs.1 3; have : (0 : Int) ≤ gI s 2 ∧ gI s 2 ≤ 1600 := hRs.1 2; have : (0 : Int) ≤ gI s20 46 ∧ gI s20 46 ≤ 60 := hRs20.1 46; have : gI s33 46 = gI s27 46 := Fs33.1 46 (by decide); have : gI s27 46 = gI s26 46 := q_Ii es27 (by decide); have : gI s26 46 = gI s25 46 := q_Ii es26 (by decide); have : gI s25 46 = gI s24 46 := q_Ii es25 (by decide); have : gI s24 46 = gI s23 46 := q_Ii es24 (by decide); have : gI s23 46 = gI s20 46 := q_Ii es23 (by decide); omega) (by have : (0 : Int) ≤ gI s33 102 ∧ gI s33 102 ≤ 1700 := hRs33.1 102; have : (0 : Int) ≤ gI s33 104 ∧ gI s33 104 ≤ 1700 := hRs33.1 104; have : (0 : Int) ≤ gI s33 5 ∧ gI s33 5 ≤ 5 := hRs33.1 5; have : gI s33 3 = gI s27 3 := Fs33.1 3 (by decide); have : gI s27 3 = gI s26 3 := q_Ii es27 (by decide); have : gI s26 3 = gI s25 3 := q_Ii es26 (by decide); have : gI s25 3 = gI s24 3 := q_Ii es25 (by decide); have : gI s24 3 = gI s23 3 := q_Ii es24 (by decide); have : gI s23 3 = gI s20 3 := q_Ii es23 (by decide); have : gI s27 2 = gI s26 2 := q_Ii es27 (by decide); have : gI s26 2 = gI s25 2 := q_Ii es26 (by decide); have : gI s25 2 = gI s24 2 := q_Ii es25 (by decide); have : gI s24 2 = gI s23 2 := q_Ii es24 (by decide); have : gI s23 2 = gI s20 2 := q_Ii es23 (by decide); have : (0 : Int) ≤ gI s20 5 ∧ gI s20 5 ≤ 5 := hRs20.1 5; have : (0 : Int) ≤ gI s 5 ∧ gI s 5 ≤ 5 := hRs.1 5; have : (0 : Int) ≤ gI s20 46 ∧ gI s20 46 ≤ 60 := hRs20.1 46; have : (0 : Int) ≤ gI s20 3 ∧ gI s20 3 ≤ 1600 := hRs20.1 3; have : (0 : Int) ≤ gI s 46 ∧ gI s 46 ≤ 60 := hRs.1 46; have : (0 : Int) ≤ gI s 3 ∧ gI s 3 ≤ 1600 := hRs.1 3; have : (0 : Int) ≤ gI s 2 ∧ gI s 2 ≤ 1600 := hRs.1 2; have : (0 : Int) ≤ gI s20 2 ∧ gI s20 2 ≤ 1600 := hRs20.1 2; have : (0 : Int) ≤ gI s33 2 ∧ gI s33 2 ≤ 1600 := hRs33.1 2; omega) (by have : (0 : Int) ≤ gI s33 102 ∧ gI s33 102 ≤ 1700 := hRs33.1 102; have : (0 : Int) ≤ gI s33 104 ∧ gI s33 104 ≤ 1700 := hRs33.1 104; have : gI s33 3 = gI s27 3 := Fs33.1 3 (by decide); have : gI s27 3 = gI s26 3 := q_Ii es27 (by decide); have : gI s26 3 = gI s25 3 := q_Ii es26 (by decide); have : gI s25 3 = gI s24 3 := q_Ii es25 (by decide); have : gI s24 3 = gI s23 3 := q_Ii es24 (by decide); have : gI s23 3 = gI s20 3 := q_Ii es23 (by decide); have : (0 : Int) ≤ gI s33 2 ∧ gI s33 2 ≤ 1600 := hRs33.1 2; have : gI s27 2 = gI s26 2 := q_Ii es27 (by decide); have : gI s26 2 = gI s25 2 := q_Ii es26 (by decide); have : gI s25 2 = gI s24 2 := q_Ii es25 (by decide); have : gI s24 2 = gI s23 2 := q_Ii es24 (by decide); have : gI s23 2 = gI s20 2 := q_Ii es23 (by decide); have : (0 : Int) ≤ gI s 5 ∧ gI s 5 ≤ 5 := hRs.1 5; have : (0 : Int) ≤ gI s20 46 ∧ gI s20 46 ≤ 60 := hRs20.1 46; have : (0 : Int) ≤ gI s20 3 ∧ gI s20 3 ≤ 1600 := hRs20.1 3; have : (0 : Int) ≤ gI s20 2 ∧ gI s20 2 ≤ 1600 := hRs20.1 2; have : (0 : Int) ≤ gI s 46 ∧ gI s 46 ≤ 60 := hRs.1 46; have : (0 : Int) ≤ gI s 3 ∧ gI s 3 ≤ 1600 := hRs.1 3; have : (0 : Int) ≤ gI s 2 ∧ gI s 2 ≤ 1600 := hRs.1 2; have : (0 : Int) ≤ gI s20 5 ∧ gI s20 5 ≤ 5 := hRs20.1 5; have : (0 : Int) ≤ gI s33 5 ∧ gI s33 5 ≤ 5 := hRs33.1 5; omega), FB_t hj23_1.2 (FB_e ((Fs33.2.1 39 (by decide)).trans ((q_Ia es27 : gA s27 39 = gA s26 39).trans ((q_Ia es26 : gA s26 39 = gA s25 39).trans ((q_Ia es25 : gA s25 39 = gA s24 39).trans ((q_Ia es24 : gA s24 39 = gA s23 39).trans (q_Ia es23 : gA s23 39 = gA s20 39)))))) ((Fs33.2.1 42 (by decide)).trans ((q_Ia es27 : gA s27 42 = gA s26 42).trans ((q_Ia es26 : gA s26 42 = gA s25 42).trans ((q_Ia es25 : gA s25 42 = gA s24 42).trans ((q_Ia es24 : gA s24 42 = gA s23 42).trans (q_Ia es23 : gA s23 42 = gA s20 42)))))) ((Fs33.2.1 43 (by decide)).trans ((q_Ia es27 : gA s27 43 = gA s26 43).trans ((q_Ia es26 : gA s26 43 = gA s25 43).trans ((q_Ia es25 : gA s25 43 = gA s24 43).trans ((q_Ia es24 : gA s24 43 = gA s23 43).trans (q_Ia es23 : gA s23 43 = gA s20 43)))))) ((Fs33.2.1 44 (by decide)).trans ((q_Ia es27 : gA s27 44 = gA s26 44).trans ((q_Ia es26 : gA s26 44 = gA s25 44).trans ((q_Ia es25 : gA s25 44 = gA s24 44).trans ((q_Ia es24 : gA s24 44 = gA s23 44).trans (q_Ia es23 : gA s23 44 = gA s20 44)))))))⟩) (by show 1 ≤ gI s33 46 ∧ gI s33 46 < 60; have : (0 : Int) ≤ gI s33 102 ∧ gI s33 102 ≤ 1700 := hRs33.1 102; have : (0 : Int) ≤ gI s33 104 ∧ gI s33 104 ≤ 1700 := hRs33.1 104; have : (0 : Int) ≤ gI s33 5 ∧ gI s33 5 ≤ 5 := hRs33.1 5; have : gI s33 3 = gI s27 3 := Fs33.1 3 (by decide); have : gI s27 3 = gI s26 3 := q_Ii es27 (by decide); have : gI s26 3 = gI s25 3 := q_Ii es26 (by decide); have : gI s25 3 = gI s24 3 := q_Ii es25 (by decide); have : gI s24 3 = gI s23 3 := q_Ii es24 (by decide); have : gI s23 3 = gI s20 3 := q_Ii es23 (by decide); have : (0 : Int) ≤ gI s33 2 ∧ gI s33 2 ≤ 1600 := hRs33.1 2; have : gI s27 2 = gI s26 2 := q_Ii es27 (by decide); have : gI s26 2 = gI s25 2 := q_Ii es26 (by decide); have : gI s25 2 = gI s24 2 := q_Ii es25 (by decide); have : gI s24 2 = gI s23 2 := q_Ii es24 (by decide); have : gI s23 2 = gI s20 2 := q_Ii es23 (by decide); have : (0 : Int) ≤ gI s20 5 ∧ gI s20 5 ≤ 5 := hRs20.1 5; have : (0 : Int) ≤ gI s 5 ∧ gI s 5 ≤ 5 := hRs.1 5; have : (0 : Int) ≤ gI s20 46 ∧ gI s20 46 ≤ 60 := hRs20.1 46; have : (0 : Int) ≤ gI s20 3 ∧ gI s20 3 ≤ 1600 := hRs20.1 3; have : (0 : Int) ≤ gI s20 2 ∧ gI s20 2 ≤ 1600 := hRs20.1 2; have : (0 : Int) ≤ gI s 46 ∧ gI s 46 ≤ 60 := hRs.1 46; have : (0 : Int) ≤ gI s 3 ∧ gI s 3 ≤ 1600 := hRs.1 3; have : (0 : Int) ≤ gI s 2 ∧ gI s 2 ≤ 1600 := hRs.1 2; have : gI s33 46 = gI s27 46 := Fs33.1 46 (by decide); have : gI s27 46 = gI s26 46 := q_Ii es27 (by decide); have : gI s26 46 = gI s25 46 := q_Ii es26 (by decide); have : gI s25 46 = gI s24 46 := q_Ii es25 (by decide); have : gI s24 46 = gI s23 46 := q_Ii es24 (by decide); have : gI s23 46 = gI s20 46 := q_Ii es23 (by decide); omega) (by show gI s 5 ≠ 0 → gI s33 5 ≠ 0; have : (0 : Int) ≤ gI s33 102 ∧ gI s33 102 ≤ 1700 := hRs33.1 102; have : (0 : Int) ≤ gI s33 104 ∧ gI s33 104 ≤ 1700 := hRs33.1 104; have : gI s33 3 = gI s27 3 := Fs33.1 3 (by decide); have : gI s27 3 = gI s26 3 := q_Ii es27 (by decide); have : gI s26 3 = gI s25 3 := q_Ii es26 (by decide); have : gI s25 3 = gI s24 3 := q_Ii es25 (by decide); have : gI s24 3 = gI s23 3 := q_Ii es24 (by decide); have : gI s23 3 = gI s20 3 := q_Ii es23 (by decide); have : (0 : Int) ≤ gI s33 2 ∧ gI s33 2 ≤ 1600 := hRs33.1 2; have : gI s27 2 = gI s26 2 := q_Ii es27 (by decide); have : gI s26 2 = gI s25 2 := q_Ii es26 (by decide); have : gI s25 2 = gI s24 2 := q_Ii es25 (by decide); have : gI s24 2 = gI s23 2 := q_Ii es24 (by decide); have : gI s23 2 = gI s20 2 := q_Ii es23 (by decide); have : (0 : Int) ≤ gI s20 5 ∧ gI s20 5 ≤ 5 := hRs20.1 5; have : (0 : Int) ≤ gI s20 46 ∧ gI s20 46 ≤ 60 := hRs20.1 46; have : (0 : Int) ≤ gI s20 3 ∧ gI s20 3 ≤ 1600 := hRs20.1 3; have : (0 : Int) ≤ gI s20 2 ∧ gI s20 2 ≤ 1600 := hRs20.1 2; have : (0 : Int) ≤ gI s 46 ∧ gI s 46 ≤ 60 := hRs.1 46; have : (0 : Int) ≤ gI s 3 ∧ gI s 3 ≤ 1600 := hRs.1 3; have : (0 : Int) ≤ gI s 2 ∧ gI s 2 ≤ 1600 := hRs.1 2; have : (0 : Int) ≤ gI s33 5 ∧ gI s33 5 ≤ 5 := hRs33.1 5; have : (0 : Int) ≤ gI s 5 ∧ gI s 5 ≤ 5 := hRs.1 5; omega) (fun h9 => by have : (0 : Int) ≤ gI s33 102 ∧ gI s33 102 ≤ 1700 := hRs33.1 102; have : (0 : Int) ≤ gI s33 104 ∧ gI s33 104 ≤ 1700 := hRs33.1 104; have : gI s33 3 = gI s27 3 := Fs33.1 3 (by decide); have : gI s27 3 = gI s26 3 := q_Ii es27 (by decide); have : gI s26 3 = gI s25 3 := q_Ii es26 (by decide); have : gI s25 3 = gI s24 3 := q_Ii es25 (by decide); have : gI s24 3 = gI s23 3 := q_Ii es24 (by decide); have : gI s23 3 = gI s20 3 := q_Ii es23 (by decide); have : (0 : Int) ≤ gI s33 2 ∧ gI s33 2 ≤ 1600 := hRs33.1 2; have : gI s27 2 = gI s26 2 := q_Ii es27 (by decide); have : gI s26 2 = gI s25 2 := q_Ii es26 (by decide); have : gI s25 2 = gI s24 2 := q_Ii es25 (by decide); have : gI s24 2 = gI s23 2 := q_Ii es24 (by decide); have : gI s23 2 = gI s20 2 := q_Ii es23 (by decide); have : (0 : Int) ≤ gI s20 5 ∧ gI s20 5 ≤ 5 := hRs20.1 5; have : (0 : Int) ≤ gI s 5 ∧ gI s 5 ≤ 5 := hRs.1 5; have : (0 : Int) ≤ gI s20 46 ∧ gI s20 46 ≤ 60 := hRs20.1 46; have : (0 : Int) ≤ gI s20 3 ∧ gI s20 3 ≤ 1600 := hRs20.1 3; have : (0 : Int) ≤ gI s20 2 ∧ gI s20 2 ≤ 1600 := hRs20.1 2; have : (0 : Int) ≤ gI s 46 ∧ gI s 46 ≤ 60 := hRs.1 46; have : (0 : Int) ≤ gI s 3 ∧ gI s 3 ≤ 1600 := hRs.1 3; have : (0 : Int) ≤ gI s 2 ∧ gI s 2 ≤ 1600 := hRs.1 2; have : (0 : Int) ≤ gI s33 5 ∧ gI s33 5 ≤ 5 := hRs33.1 5; have z := hs33_1 h9; have z1 := z.1.1; rw [z.2, show gI s33 48 = p0 from (((Fs33.1 48 (by decide)).trans ((q_Ii es27 (by decide) : gI s27 48 = gI s26 48).trans ((q_Ii es26 (by decide) : gI s26 48 = gI s25 48).trans ((q_Ii es25 (by decide) : gI s25 48 = gI s24 48).trans (q_Ii es24 (by decide) : gI s24 48 = gI s23 48)))))).trans ((q_II es23).trans (by omega))] at z1; exact ⟨_, z1⟩) (fun h9 => by have : (0 : Int) ≤ gI s33 102 ∧ gI s33 102 ≤ 1700 := hRs33.1 102; have : (0 : Int) ≤ gI s33 104 ∧ gI s33 104 ≤ 1700 := hRs33.1 104; have : (0 : Int) ≤ gI s33 5 ∧ gI s33 5 ≤ 5 := hRs33.1 5; have : gI s33 3 = gI s27 3 := Fs33.1 3 (by decide); have : gI s27 3 = gI s26 3 := q_Ii es27 (by decide); have : gI s26 3 = gI s25 3 := q_Ii es26 (by decide); have : gI s25 3 = gI s24 3 := q_Ii es25 (by decide); have : gI s24 3 = gI s23 3 := q_Ii es24 (by decide); have : gI s23 3 = gI s20 3 := q_Ii es23 (by decide); have : (0 : Int) ≤ gI s20 5 ∧ gI s20 5 ≤ 5 := hRs20.1 5; have : (0 : Int) ≤ gI s 5 ∧ gI s 5 ≤ 5 := hRs.1 5; have : (0 : Int) ≤ gI s20 46 ∧ gI s20 46 ≤ 60 := hRs20.1 46; have : (0 : Int) ≤ gI s20 3 ∧ gI s20 3 ≤ 1600 := hRs20.1 3; have : (0 : Int) ≤ gI s20 2 ∧ gI s20 2 ≤ 1600 := hRs20.1 2; have : (0 : Int) ≤ gI s 46 ∧ gI s 46 ≤ 60 := hRs.1 46; have : (0 : Int) ≤ gI s 3 ∧ gI s 3 ≤ 1600 := hRs.1 3; have : (0 : Int) ≤ gI s 2 ∧ gI s 2 ≤ 1600 := hRs.1 2; have : gI s27 104 = gI s26 104 := q_Ii es27 (by decide); have : gI s26 104 = gI s25 104 := q_Ii es26 (by decide); have : gI s25 104 = 0 := q_II es25; have : gI s27 2 = gI s26 2 := q_Ii es27 (by decide); have : gI s26 2 = gI s25 2 := q_Ii es26 (by decide); have : gI s25 2 = gI s24 2 := q_Ii es25 (by decide); have : gI s24 2 = gI s23 2 := q_Ii es24 (by decide); have : gI s23 2 = gI s20 2 := q_Ii es23 (by decide); have : (0 : Int) ≤ gI s33 2 ∧ gI s33 2 ≤ 1600 := hRs33.1 2; have : gI s33 45 = gI s27 45 := Fs33.1 45 (by decide); have : gI s27 45 = gI s26 45 := q_Ii es27 (by decide); have : gI s26 45 = gI s25 45 := q_Ii es26 (by decide); have : gI s25 45 = gI s24 45 := q_Ii es25 (by decide); have : gI s24 45 = gI s23 45 := q_Ii es24 (by decide); have : gI s23 45 = gI s20 45 := q_Ii es23 (by decide); have : (0 : Int) ≤ gI s20 45 ∧ gI s20 45 ≤ 1600 := hRs20.1 45; have z := (hs33_1 h9).1.2.2; have z4 := (hs33_1 h9).2; have zz := hj23_1.1.2.2.1.1; omega)
      · skip
        refine wp_bn (w_x12_qSums (d := (0 : Int)) (k := (0 - gI s27 2)) hRs27 (by show gI s27 2 ≤ gI s27 3; have : (0 : Int) ≤ gI s20 5 ∧ gI s20 5 ≤ 5 := hRs20.1 5; have : (0 : Int) ≤ gI s 5 ∧ gI s 5 ≤ 5 := hRs.1 5; have : (0 : Int) ≤ gI s20 46 ∧ gI s20 46 ≤ 60 := hRs20.1 46; have : (0 : Int) ≤ gI s20 3 ∧ gI s20 3 ≤ 1600 := hRs20.1 3; have : (0 : Int) ≤ gI s20 2 ∧ gI s20 2 ≤ 1600 := hRs20.1 2; have : (0 : Int) ≤ gI s 46 ∧ gI s 46 ≤ 60 := hRs.1 46; have : (0 : Int) ≤ gI s 3 ∧ gI s 3 ≤ 1600 := hRs.1 3; have : (0 : Int) ≤ gI s 2 ∧ gI s 2 ≤ 1600 := hRs.1 2; have : gI s27 3 = gI s26 3 := q_Ii es27 (by decide); have : gI s26 3 = gI s25 3 := q_Ii es26 (by decide); have : gI s25 3 = gI s24 3 := q_Ii es25 (by decide); have : gI s24 3 = gI s23 3 := q_Ii es24 (by decide); have : gI s23 3 = gI s20 3 := q_Ii es23 (by decide); have : gI s27 2 = gI s26 2 := q_Ii es27 (by decide); have : gI s26 2 = gI s25 2 := q_Ii es26 (by decide); have : gI s25 2 = gI s24 2 := q_Ii es25 (by decide); have : gI s24 2 = gI s23 2 := q_Ii es24 (by decide); have : gI s23 2 = gI s20 2 := q_Ii es23 (by decide); omega) (by show gI s27 5 = 0; have : (0 : Int) ≤ gI s20 5 ∧ gI s20 5 ≤ 5 := hRs20.1 5; have : (0 : Int) ≤ gI s 5 ∧ gI s 5 ≤ 5 := hRs.1 5; have : (0 : Int) ≤ gI s20 46 ∧ gI s20 46 ≤ 60 := hRs20.1 46; have : (0 : Int) ≤ gI s20 3 ∧ gI s20 3 ≤ 1600 := hRs20.1 3; have : (0 : Int) ≤ gI s20 2 ∧ gI s20 2 ≤ 1600 := hRs20.1 2; have : (0 : Int) ≤ gI s 46 ∧ gI s 46 ≤ 60 := hRs.1 46; have : (0 : Int) ≤ gI s 3 ∧ gI s 3 ≤ 1600 := hRs.1 3; have : (0 : Int) ≤ gI s 2 ∧ gI s 2 ≤ 1600 := hRs.1 2; have : gI s27 5 = gI s26 5 := q_Ii es27 (by decide); have : gI s26 5 = gI s25 5 := q_Ii es26 (by decide); have : gI s25 5 = gI s24 5 := q_Ii es25 (by decide); have : gI s24 5 = gI s23 5 := q_Ii es24 (by decide); have : gI s23 5 = gI s20 5 := q_Ii es23 (by decide); omega) (QT_S (QT_0 ((((q_Ii es27 (by decide) : gI s27 102 = gI s26 102).trans ((q_Ii es26 (by decide) : gI s26 102 = gI s25 102).trans (q_Ii es25 (by decide) : gI s25 102 = gI s24 102)))).trans (q_II es24)) ((((q_Ii es27 (by decide) : gI s27 104 = gI s26 104).trans (q_Ii es26 (by decide) : gI s26 104 = gI s25 104))).trans (q_II es25)) (((q_Ii es27 (by decide) : gI s27 105 = gI s26 105)).trans (q_II es26)) (by omega))) (by show 0 ≤ (0 : Int); have : (0 : Int) ≤ gI s20 5 ∧ gI s20 5 ≤ 5 := hRs20.1 5; have : (0 : Int) ≤ gI s 5 ∧ gI s 5 ≤ 5 := hRs.1 5; have : (0 : Int) ≤ gI s20 46 ∧ gI s20 46 ≤ 60 := hRs20.1 46; have : (0 : Int) ≤ gI s20 3 ∧ gI s20 3 ≤ 1600 := hRs20.1 3; have : (0 : Int) ≤ gI s20 2 ∧ gI s20 2 ≤ 1600 := hRs20.1 2; have : (0 : Int) ≤ gI s 46 ∧ gI s 46 ≤ 60 := hRs.1 46; have : (0 : Int) ≤ gI s 3 ∧ gI s 3 ≤ 1600 := hRs.1 3; have : (0 : Int) ≤ gI s 2 ∧ gI s 2 ≤ 1600 := hRs.1 2; omega) (by show (0 - gI s27 2) ≤ 0; have : (0 : Int) ≤ gI s20 5 ∧ gI s20 5 ≤ 5 := hRs20.1 5; have : (0 : Int) ≤ gI s 5 ∧ gI s 5 ≤ 5 := hRs.1 5; have : (0 : Int) ≤ gI s20 46 ∧ gI s20 46 ≤ 60 := hRs20.1 46; have : (0 : Int) ≤ gI s20 3 ∧ gI s20 3 ≤ 1600 := hRs20.1 3; have : (0 : Int) ≤ gI s20 2 ∧ gI s20 2 ≤ 1600 := hRs20.1 2; have : (0 : Int) ≤ gI s 46 ∧ gI s 46 ≤ 60 := hRs.1 46; have : (0 : Int) ≤ gI s 3 ∧ gI s 3 ≤ 1600 := hRs.1 3; have : (0 : Int) ≤ gI s 2 ∧ gI s 2 ≤ 1600 := hRs.1 2; have : gI s27 2 = gI s26 2 := q_Ii es27 (by decide); have : gI s26 2 = gI s25 2 := q_Ii es26 (by decide); have : gI s25 2 = gI s24 2 := q_Ii es25 (by decide); have : gI s24 2 = gI s23 2 := q_Ii es24 (by decide); have : gI s23 2 = gI s20 2 := q_Ii es23 (by decide); omega)) (fun s31 es31 hs31 => ?_)
        have Fs31 : F_x12_qSums s27 s31 := fr_x12_qSums es31
        obtain ⟨hRs31, hs31_0, hs31_1, hs31_2, hs31_3, hs31_4⟩ := hs31
        have hs31_0 : gI s27 2 ≤ gI s31 2 ∧ gI s31 2 ≤ gI s31 3 := hs31_0
        have hs31_1 : gI s31 5 = 0 → QS s31 (gI s31 104) ((0 : Int) + 1) (0 - gI s27 2) ∧ gI s31 104 = gI s27 104 := hs31_1
        have hs31_2 : gI s31 102 ≤ 1601 := hs31_2
        have hs31_3 : gI s31 106 = gI s27 106 := hs31_3
        have hs31_4 : gI s31 5 = 0 → gI s27 2 + 1 ≤ gI s31 2 := hs31_4
        exact J72 x19 s31 hRs31 (by show x19 = p0 ∧ gI s 2 ≤ gI s31 2 ∧ gI s31 2 ≤ gI s31 3; have : gI s27 106 = 0 := q_II es27; have : (0 : Int) ≤ gI s31 106 ∧ gI s31 106 ≤ 1700 := hRs31.1 106; have : (0 : Int) ≤ gI s31 102 ∧ gI s31 102 ≤ 1700 := hRs31.1 102; have : gI s27 104 = gI s26 104 := q_Ii es27 (by decide); have : gI s26 104 = gI s25 104 := q_Ii es26 (by decide); have : gI s25 104 = 0 := q_II es25; have : (0 : Int) ≤ gI s31 104 ∧ gI s31 104 ≤ 1700 := hRs31.1 104; have : (0 : Int) ≤ gI s31 5 ∧ gI s31 5 ≤ 5 := hRs31.1 5; have : gI s27 2 = gI s26 2 := q_Ii es27 (by decide); have : gI s26 2 = gI s25 2 := q_Ii es26 (by decide); have : gI s25 2 = gI s24 2 := q_Ii es25 (by decide); have : gI s24 2 = gI s23 2 := q_Ii es24 (by decide); have : gI s23 2 = gI s20 2 := q_Ii es23 (by decide); have : (0 : Int) ≤ gI s20 5 ∧ gI s20 5 ≤ 5 := hRs20.1 5; have : (0 : Int) ≤ gI s 5 ∧ gI s 5 ≤ 5 := hRs.1 5; have : (0 : Int) ≤ gI s20 46 ∧ gI s20 46 ≤ 60 := hRs20.1 46; have : (0 : Int) ≤ gI s20 3 ∧ gI s20 3 ≤ 1600 := hRs20.1 3; have : (0 : Int) ≤ gI s20 2 ∧ gI s20 2 ≤ 1600 := hRs20.1 2; have : (0 : Int) ≤ gI s 46 ∧ gI s 46 ≤ 60 := hRs.1 46; have : (0 : Int) ≤ gI s 3 ∧ gI s 3 ≤ 1600 := hRs.1 3; have : gI s31 3 = gI s27 3 := Fs31.1 3 (by decide); have : gI s27 3 = gI s26 3 := q_Ii es27 (by decide); have : gI s26 3 = gI s25 3 := q_Ii es26 (by decide); have : gI s25 3 = gI s24 3 := q_Ii es25 (by decide); have : gI s24 3 = gI s23 3 := q_Ii es24 (by decide); have : gI s23 3 = gI s20 3 := q_Ii es23 (by decide); have : (0 : Int) ≤ gI s31 2 ∧ gI s31 2 ≤ 1600 := hRs31.1 2; have : (0 : Int) ≤ gI s 2 ∧ gI s 2 ≤ 1600 := hRs.1 2; omega) (⟨SP_eq (hj23_1.1) ((Fs31.2.1 39 (by decide)).trans ((q_Ia es27 : gA s27 39 = gA s26 39).trans ((q_Ia es26 : gA s26 39 = gA s25 39).trans ((q_Ia es25 : gA s25 39 = gA s24 39).trans ((q_Ia es24 : gA s24 39 = gA s23 39).trans (q_Ia es23 : gA s23 39 = gA s20 39)))))) ((Fs31.2.1 41 (by decide)).trans ((q_Ia es27 : gA s27 41 = gA s26 41).trans ((q_Ia es26 : gA s26 41 = gA s25 41).trans ((q_Ia es25 : gA s25 41 = gA s24 41).trans ((q_Ia es24 : gA s24 41 = gA s23 41).trans (q_Ia es23 : gA s23 41 = gA s20 41)))))) ((Fs31.2.1 42 (by decide)).trans ((q_Ia es27 : gA s27 42 = gA s26 42).trans ((q_Ia es26 : gA s26 42 = gA s25 42).trans ((q_Ia es25 : gA s25 42 = gA s24 42).trans ((q_Ia es24 : gA s24 42 = gA s23 42).trans (q_Ia es23 : gA s23 42 = gA s20 42)))))) ((Fs31.2.1 43 (by decide)).trans ((q_Ia es27 : gA s27 43 = gA s26 43).trans ((q_Ia es26 : gA s26 43 = gA s25 43).trans ((q_Ia es25 : gA s25 43 = gA s24 43).trans ((q_Ia es24 : gA s24 43 = gA s23 43).trans (q_Ia es23 : gA s23 43 = gA s20 43)))))) ((Fs31.2.1 44 (by decide)).trans ((q_Ia es27 : gA s27 44 = gA s26 44).trans ((q_Ia es26 : gA s26 44 = gA s25 44).trans ((q_Ia es25 : gA s25 44 = gA s24 44).trans ((q_Ia es24 : gA s24 44 = gA s23 44).trans (q_Ia es23 : gA s23 44 = gA s20 44)))))) ((Fs31.1 45 (by decide)).trans ((q_Ii es27 (by decide) : gI s27 45 = gI s26 45).trans ((q_Ii es26 (by decide) : gI s26 45 = gI s25 45).trans ((q_Ii es25 (by decide) : gI s25 45 = gI s24 45).trans ((q_Ii es24 (by decide) : gI s24 45 = gI s23 45).trans (q_Ii es23 (by decide) : gI s23 45 = gI s20 45)))))) (by have : gI s27 106 = 0 := q_II es27; have : (0 : Int) ≤ gI s31 106 ∧ gI s31 106 ≤ 1700 := hRs31.1 106; have : (0 : Int) ≤ gI s31 102 ∧ gI s31 102 ≤ 1700 := hRs31.1 102; have : gI s27 104 = gI s26 104 := q_Ii es27 (by decide); have : gI s26 104 = gI s25 104 := q_Ii es26 (by decide); have : gI s25 104 = 0 := q_II es25; have : (0 : Int) ≤ gI s31 104 ∧ gI s31 104 ≤ 1700 := hRs31.1 104; have : (0 : Int) ≤ gI s31 5 ∧ gI s31 5 ≤ 5 := hRs31.1 5; have : gI s31 3 = gI s27 3 := Fs31.1 3 (by decide); have : gI s27 3 = gI s26 3 := q_Ii es27 (by decide); have : gI s26 3 = gI s25 3 := q_Ii es26 (by decide); have : gI s25 3 = gI s24 3 := q_Ii es25 (by decide); have : gI s24 3 = gI s23 3 := q_Ii es24 (by decide); have : gI s23 3 = gI s20 3 := q_Ii es23 (by decide); have : (0 : Int) ≤ gI s31 2 ∧ gI s31 2 ≤ 1600 := hRs31.1 2; have : gI s27 2 = gI s26 2 := q_Ii es27 (by decide); have : gI s26 2 = gI s25 2 := q_Ii es26 (by decide); have : gI s25 2 = gI s24 2 := q_Ii es25 (by decide); have : gI s24 2 = gI s23 2 := q_Ii es24 (by decide); have : gI s23 2 = gI s20 2 := q_Ii es23 (by decide); have : (0 : Int) ≤ gI s20 5 ∧ gI s20 5 ≤ 5 := hRs20.1 5; have : (0 : Int) ≤ gI s 5 ∧ gI s 5 ≤ 5 := hRs.1 5; have : (0 : Int) ≤ gI s20 3 ∧ gI s20 3 ≤ 1600 := hRs20.1 3; have : (0 : Int) ≤ gI s20 2 ∧ gI s20 2 ≤ 1600 := hRs20.1 2; have : (0 : Int) ≤ gI s 46 ∧ gI s 46 ≤ 60 := hRs.1 46; have : (0 : Int) ≤ gI s 3 ∧ gI s 3 ≤ 1600 := hRs.1 3; have : (0 : Int) ≤ gI s 2 ∧ gI s 2 ≤ 1600 := hRs.1 2; have : (0 : Int) ≤ gI s20 46 ∧ gI s20 46 ≤ 60 := hRs20.1 46; have : gI s31 46 = gI s27 46 := Fs31.1 46 (by decide); have : gI s27 46 = gI s26 46 := q_Ii es27 (by decide); have : gI s26 46 = gI s25 46 := q_Ii es26 (by decide); have : gI s25 46 = gI s24 46 := q_Ii es25 (by decide); have : gI s24 46 = gI s23 46 := q_Ii es24 (by decide); have : gI s23 46 = gI s20 46 := q_Ii es23 (by decide); omega) (by have : gI s27 106 = 0 := q_II es27; have : (0 : Int) ≤ gI s31 106 ∧ gI s31 106 ≤ 1700 := hRs31.1 106; have : (0 : Int) ≤ gI s31 102 ∧ gI s31 102 ≤ 1700 := hRs31.1 102; have : gI s27 104 = gI s26 104 := q_Ii es27 (by decide); have : gI s26 104 = gI s25 104 := q_Ii es26 (by decide); have : gI s25 104 = 0 := q_II es25; have : (0 : Int) ≤ gI s31 104 ∧ gI s31 104 ≤ 1700 := hRs31.1 104; have : (0 : Int) ≤ gI s31 5 ∧ gI s31 5 ≤ 5 := hRs31.1 5; have : gI s31 3 = gI s27 3 := Fs31.1 3 (by decide); have : gI s27 3 = gI s26 3 := q_Ii es27 (by decide); have : gI s26 3 = gI s25 3 := q_Ii es26 (by decide); have : gI s25 3 = gI s24 3 := q_Ii es25 (by decide); have : gI s24 3 = gI s23 3 := q_Ii es24 (by decide); have : gI s23 3 = gI s20 3 := q_Ii es23 (by decide); have : gI s27 2 = gI s26 2 := q_Ii es27 (by decide); have : gI s26 2 = gI s25 2 := q_Ii es26 (by decide); have : gI s25 2 = gI s24 2 := q_Ii es25 (by decide); have : gI s24 2 = gI s23 2 := q_Ii es24 (by decide); have : gI s23 2 = gI s20 2 := q_Ii es23 (by decide); have : (0 : Int) ≤ gI s20 5 ∧ gI s20 5 ≤ 5 := hRs20.1 5; have : (0 : Int) ≤ gI s 5 ∧ gI s 5 ≤ 5 := hRs.1 5; have : (0 : Int) ≤ gI s20 46 ∧ gI s20 46 ≤ 60 := hRs20.1 46; have : (0 : Int) ≤ gI s20 3 ∧ gI s20 3 ≤ 1600 := hRs20.1 3; have : (0 : Int) ≤ gI s 46 ∧ gI s 46 ≤ 60 := hRs.1 46; have : (0 : Int) ≤ gI s 3 ∧ gI s 3 ≤ 1600 := hRs.1 3; have : (0 : Int) ≤ gI s 2 ∧ gI s 2 ≤ 1600 := hRs.1 2; have : (0 : Int) ≤ gI s20 2 ∧ gI s20 2 ≤ 1600 := hRs20.1 2; have : (0 : Int) ≤ gI s31 2 ∧ gI s31 2 ≤ 1600 := hRs31.1 2; omega) (by have : gI s27 106 = 0 := q_II es27; have : (0 : Int) ≤ gI s31 106 ∧ gI s31 106 ≤ 1700 := hRs31.1 106; have : (0 : Int) ≤ gI s31 102 ∧ gI s31 102 ≤ 1700 := hRs31.1 102; have : gI s27 104 = gI s26 104 := q_Ii es27 (by decide); have : gI s26 104 = gI s25 104 := q_Ii es26 (by decide); have : gI s25 104 = 0 := q_II es25; have : (0 : Int) ≤ gI s31 104 ∧ gI s31 104 ≤ 1700 := hRs31.1 104; have : gI s31 3 = gI s27 3 := Fs31.1 3 (by decide); have : gI s27 3 = gI s26 3 := q_Ii es27 (by decide); have : gI s26 3 = gI s25 3 := q_Ii es26 (by decide); have : gI s25 3 = gI s24 3 := q_Ii es25 (by decide); have : gI s24 3 = gI s23 3 := q_Ii es24 (by decide); have : gI s23 3 = gI s20 3 := q_Ii es23 (by decide); have : (0 : Int) ≤ gI s31 2 ∧ gI s31 2 ≤ 1600 := hRs31.1 2; have : gI s27 2 = gI s26 2 := q_Ii es27 (by decide); have : gI s26 2 = gI s25 2 := q_Ii es26 (by decide); have : gI s25 2 = gI s24 2 := q_Ii es25 (by decide); have : gI s24 2 = gI s23 2 := q_Ii es24 (by decide); have : gI s23 2 = gI s20 2 := q_Ii es23 (by decide); have : (0 : Int) ≤ gI s 5 ∧ gI s 5 ≤ 5 := hRs.1 5; have : (0 : Int) ≤ gI s20 46 ∧ gI s20 46 ≤ 60 := hRs20.1 46; have : (0 : Int) ≤ gI s20 3 ∧ gI s20 3 ≤ 1600 := hRs20.1 3; have : (0 : Int) ≤ gI s20 2 ∧ gI s20 2 ≤ 1600 := hRs20.1 2; have : (0 : Int) ≤ gI s 46 ∧ gI s 46 ≤ 60 := hRs.1 46; have : (0 : Int) ≤ gI s 3 ∧ gI s 3 ≤ 1600 := hRs.1 3; have : (0 : Int) ≤ gI s 2 ∧ gI s 2 ≤ 1600 := hRs.1 2; have : (0 : Int) ≤ gI s20 5 ∧ gI s20 5 ≤ 5 := hRs20.1 5; have : (0 : Int) ≤ gI s31 5 ∧ gI s31 5 ≤ 5 := hRs31.1 5; omega), FB_t hj23_1.2 (FB_e ((Fs31.2.1 39 (by decide)).trans ((q_Ia es27 : gA s27 39 = gA s26 39).trans ((q_Ia es26 : gA s26 39 = gA s25 39).trans ((q_Ia es25 : gA s25 39 = gA s24 39).trans ((q_Ia es24 : gA s24 39 = gA s23 39).trans (q_Ia es23 : gA s23 39 = gA s20 39)))))) ((Fs31.2.1 42 (by decide)).trans ((q_Ia es27 : gA s27 42 = gA s26 42).trans ((q_Ia es26 : gA s26 42 = gA s25 42).trans ((q_Ia es25 : gA s25 42 = gA s24 42).trans ((q_Ia es24 : gA s24 42 = gA s23 42).trans (q_Ia es23 : gA s23 42 = gA s20 42)))))) ((Fs31.2.1 43 (by decide)).trans ((q_Ia es27 : gA s27 43 = gA s26 43).trans ((q_Ia es26 : gA s26 43 = gA s25 43).trans ((q_Ia es25 : gA s25 43 = gA s24 43).trans ((q_Ia es24 : gA s24 43 = gA s23 43).trans (q_Ia es23 : gA s23 43 = gA s20 43)))))) ((Fs31.2.1 44 (by decide)).trans ((q_Ia es27 : gA s27 44 = gA s26 44).trans ((q_Ia es26 : gA s26 44 = gA s25 44).trans ((q_Ia es25 : gA s25 44 = gA s24 44).trans ((q_Ia es24 : gA s24 44 = gA s23 44).trans (q_Ia es23 : gA s23 44 = gA s20 44)))))))⟩) (by show 1 ≤ gI s31 46 ∧ gI s31 46 < 60; have : gI s27 106 = 0 := q_II es27; have : (0 : Int) ≤ gI s31 106 ∧ gI s31 106 ≤ 1700 := hRs31.1 106; have : (0 : Int) ≤ gI s31 102 ∧ gI s31 102 ≤ 1700 := hRs31.1 102; have : gI s27 104 = gI s26 104 := q_Ii es27 (by decide); have : gI s26 104 = gI s25 104 := q_Ii es26 (by decide); have : gI s25 104 = 0 := q_II es25; have : (0 : Int) ≤ gI s31 104 ∧ gI s31 104 ≤ 1700 := hRs31.1 104; have : (0 : Int) ≤ gI s31 5 ∧ gI s31 5 ≤ 5 := hRs31.1 5; have : gI s31 3 = gI s27 3 := Fs31.1 3 (by decide); have : gI s27 3 = gI s26 3 := q_Ii es27 (by decide); have : gI s26 3 = gI s25 3 := q_Ii es26 (by decide); have : gI s25 3 = gI s24 3 := q_Ii es25 (by decide); have : gI s24 3 = gI s23 3 := q_Ii es24 (by decide); have : gI s23 3 = gI s20 3 := q_Ii es23 (by decide); have : (0 : Int) ≤ gI s31 2 ∧ gI s31 2 ≤ 1600 := hRs31.1 2; have : gI s27 2 = gI s26 2 := q_Ii es27 (by decide); have : gI s26 2 = gI s25 2 := q_Ii es26 (by decide); have : gI s25 2 = gI s24 2 := q_Ii es25 (by decide); have : gI s24 2 = gI s23 2 := q_Ii es24 (by decide); have : gI s23 2 = gI s20 2 := q_Ii es23 (by decide); have : (0 : Int) ≤ gI s20 5 ∧ gI s20 5 ≤ 5 := hRs20.1 5; have : (0 : Int) ≤ gI s 5 ∧ gI s 5 ≤ 5 := hRs.1 5; have : (0 : Int) ≤ gI s20 46 ∧ gI s20 46 ≤ 60 := hRs20.1 46; have : (0 : Int) ≤ gI s20 3 ∧ gI s20 3 ≤ 1600 := hRs20.1 3; have : (0 : Int) ≤ gI s20 2 ∧ gI s20 2 ≤ 1600 := hRs20.1 2; have : (0 : Int) ≤ gI s 46 ∧ gI s 46 ≤ 60 := hRs.1 46; have : (0 : Int) ≤ gI s 3 ∧ gI s 3 ≤ 1600 := hRs.1 3; have : (0 : Int) ≤ gI s 2 ∧ gI s 2 ≤ 1600 := hRs.1 2; have : gI s31 46 = gI s27 46 := Fs31.1 46 (by decide); have : gI s27 46 = gI s26 46 := q_Ii es27 (by decide); have : gI s26 46 = gI s25 46 := q_Ii es26 (by decide); have : gI s25 46 = gI s24 46 := q_Ii es25 (by decide); have : gI s24 46 = gI s23 46 := q_Ii es24 (by decide); have : gI s23 46 = gI s20 46 := q_Ii es23 (by decide); omega) (by show gI s 5 ≠ 0 → gI s31 5 ≠ 0; have : gI s27 106 = 0 := q_II es27; have : (0 : Int) ≤ gI s31 106 ∧ gI s31 106 ≤ 1700 := hRs31.1 106; have : (0 : Int) ≤ gI s31 102 ∧ gI s31 102 ≤ 1700 := hRs31.1 102; have : gI s27 104 = gI s26 104 := q_Ii es27 (by decide); have : gI s26 104 = gI s25 104 := q_Ii es26 (by decide); have : gI s25 104 = 0 := q_II es25; have : (0 : Int) ≤ gI s31 104 ∧ gI s31 104 ≤ 1700 := hRs31.1 104; have : gI s31 3 = gI s27 3 := Fs31.1 3 (by decide); have : gI s27 3 = gI s26 3 := q_Ii es27 (by decide); have : gI s26 3 = gI s25 3 := q_Ii es26 (by decide); have : gI s25 3 = gI s24 3 := q_Ii es25 (by decide); have : gI s24 3 = gI s23 3 := q_Ii es24 (by decide); have : gI s23 3 = gI s20 3 := q_Ii es23 (by decide); have : (0 : Int) ≤ gI s31 2 ∧ gI s31 2 ≤ 1600 := hRs31.1 2; have : gI s27 2 = gI s26 2 := q_Ii es27 (by decide); have : gI s26 2 = gI s25 2 := q_Ii es26 (by decide); have : gI s25 2 = gI s24 2 := q_Ii es25 (by decide); have : gI s24 2 = gI s23 2 := q_Ii es24 (by decide); have : gI s23 2 = gI s20 2 := q_Ii es23 (by decide); have : (0 : Int) ≤ gI s20 5 ∧ gI s20 5 ≤ 5 := hRs20.1 5; have : (0 : Int) ≤ gI s20 46 ∧ gI s20 46 ≤ 60 := hRs20.1 46; have : (0 : Int) ≤ gI s20 3 ∧ gI s20 3 ≤ 1600 := hRs20.1 3; have : (0 : Int) ≤ gI s20 2 ∧ gI s20 2 ≤ 1600 := hRs20.1 2; have : (0 : Int) ≤ gI s 46 ∧ gI s 46 ≤ 60 := hRs.1 46; have : (0 : Int) ≤ gI s 3 ∧ gI s 3 ≤ 1600 := hRs.1 3; have : (0 : Int) ≤ gI s 2 ∧ gI s 2 ≤ 1600 := hRs.1 2; have : (0 : Int) ≤ gI s31 5 ∧ gI s31 5 ≤ 5 := hRs31.1 5; have : (0 : Int) ≤ gI s 5 ∧ gI s 5 ≤ 5 := hRs.1 5; omega) (fun h9 => by have : gI s27 106 = 0 := q_II es27; have : (0 : Int) ≤ gI s31 106 ∧ gI s31 106 ≤ 1700 := hRs31.1 106; have : (0 : Int) ≤ gI s31 102 ∧ gI s31 102 ≤ 1700 := hRs31.1 102; have : gI s27 104 = gI s26 104 := q_Ii es27 (by decide); have : gI s26 104 = gI s25 104 := q_Ii es26 (by decide); have : gI s25 104 = 0 := q_II es25; have : (0 : Int) ≤ gI s31 104 ∧ gI s31 104 ≤ 1700 := hRs31.1 104; have : gI s31 3 = gI s27 3 := Fs31.1 3 (by decide); have : gI s27 3 = gI s26 3 := q_Ii es27 (by decide); have : gI s26 3 = gI s25 3 := q_Ii es26 (by decide); have : gI s25 3 = gI s24 3 := q_Ii es25 (by decide); have : gI s24 3 = gI s23 3 := q_Ii es24 (by decide); have : gI s23 3 = gI s20 3 := q_Ii es23 (by decide); have : (0 : Int) ≤ gI s31 2 ∧ gI s31 2 ≤ 1600 := hRs31.1 2; have : gI s27 2 = gI s26 2 := q_Ii es27 (by decide); have : gI s26 2 = gI s25 2 := q_Ii es26 (by decide); have : gI s25 2 = gI s24 2 := q_Ii es25 (by decide); have : gI s24 2 = gI s23 2 := q_Ii es24 (by decide); have : gI s23 2 = gI s20 2 := q_Ii es23 (by decide); have : (0 : Int) ≤ gI s20 5 ∧ gI s20 5 ≤ 5 := hRs20.1 5; have : (0 : Int) ≤ gI s 5 ∧ gI s 5 ≤ 5 := hRs.1 5; have : (0 : Int) ≤ gI s20 46 ∧ gI s20 46 ≤ 60 := hRs20.1 46; have : (0 : Int) ≤ gI s20 3 ∧ gI s20 3 ≤ 1600 := hRs20.1 3; have : (0 : Int) ≤ gI s20 2 ∧ gI s20 2 ≤ 1600 := hRs20.1 2; have : (0 : Int) ≤ gI s 46 ∧ gI s 46 ≤ 60 := hRs.1 46; have : (0 : Int) ≤ gI s 3 ∧ gI s 3 ≤ 1600 := hRs.1 3; have : (0 : Int) ≤ gI s 2 ∧ gI s 2 ≤ 1600 := hRs.1 2; have : (0 : Int) ≤ gI s31 5 ∧ gI s31 5 ≤ 5 := hRs31.1 5; have z := hs31_1 h9; have z1 := z.1.1; rw [z.2, show gI s27 104 = 0 from (((q_Ii es27 (by decide) : gI s27 104 = gI s26 104).trans (q_Ii es26 (by decide) : gI s26 104 = gI s25 104))).trans (q_II es25), show gI s31 48 = p0 from (((Fs31.1 48 (by decide)).trans ((q_Ii es27 (by decide) : gI s27 48 = gI s26 48).trans ((q_Ii es26 (by decide) : gI s26 48 = gI s25 48).trans ((q_Ii es25 (by decide) : gI s25 48 = gI s24 48).trans (q_Ii es24 (by decide) : gI s24 48 = gI s23 48)))))).trans ((q_II es23).trans (by omega))] at z1; exact ⟨_, z1⟩) (fun h9 => by have : gI s27 106 = 0 := q_II es27; have : (0 : Int) ≤ gI s31 106 ∧ gI s31 106 ≤ 1700 := hRs31.1 106; have : (0 : Int) ≤ gI s31 102 ∧ gI s31 102 ≤ 1700 := hRs31.1 102; have : (0 : Int) ≤ gI s31 104 ∧ gI s31 104 ≤ 1700 := hRs31.1 104; have : (0 : Int) ≤ gI s31 5 ∧ gI s31 5 ≤ 5 := hRs31.1 5; have : gI s31 3 = gI s27 3 := Fs31.1 3 (by decide); have : gI s27 3 = gI s26 3 := q_Ii es27 (by decide); have : gI s26 3 = gI s25 3 := q_Ii es26 (by decide); have : gI s25 3 = gI s24 3 := q_Ii es25 (by decide); have : gI s24 3 = gI s23 3 := q_Ii es24 (by decide); have : gI s23 3 = gI s20 3 := q_Ii es23 (by decide); have : (0 : Int) ≤ gI s20 5 ∧ gI s20 5 ≤ 5 := hRs20.1 5; have : (0 : Int) ≤ gI s 5 ∧ gI s 5 ≤ 5 := hRs.1 5; have : (0 : Int) ≤ gI s20 46 ∧ gI s20 46 ≤ 60 := hRs20.1 46; have : (0 : Int) ≤ gI s20 3 ∧ gI s20 3 ≤ 1600 := hRs20.1 3; have : (0 : Int) ≤ gI s20 2 ∧ gI s20 2 ≤ 1600 := hRs20.1 2; have : (0 : Int) ≤ gI s 46 ∧ gI s 46 ≤ 60 := hRs.1 46; have : (0 : Int) ≤ gI s 3 ∧ gI s 3 ≤ 1600 := hRs.1 3; have : (0 : Int) ≤ gI s 2 ∧ gI s 2 ≤ 1600 := hRs.1 2; have : gI s27 104 = gI s26 104 := q_Ii es27 (by decide); have : gI s26 104 = gI s25 104 := q_Ii es26 (by decide); have : gI s25 104 = 0 := q_II es25; have : gI s27 2 = gI s26 2 := q_Ii es27 (by decide); have : gI s26 2 = gI s25 2 := q_Ii es26 (by decide); have : gI s25 2 = gI s24 2 := q_Ii es25 (by decide); have : gI s24 2 = gI s23 2 := q_Ii es24 (by decide); have : gI s23 2 = gI s20 2 := q_Ii es23 (by decide); have : (0 : Int) ≤ gI s31 2 ∧ gI s31 2 ≤ 1600 := hRs31.1 2; have : gI s31 45 = gI s27 45 := Fs31.1 45 (by decide); have : gI s27 45 = gI s26 45 := q_Ii es27 (by decide); have : gI s26 45 = gI s25 45 := q_Ii es26 (by decide); have : gI s25 45 = gI s24 45 := q_Ii es25 (by decide); have : gI s24 45 = gI s23 45 := q_Ii es24 (by decide); have : gI s23 45 = gI s20 45 := q_Ii es23 (by decide); have : (0 : Int) ≤ gI s20 45 ∧ gI s20 45 ≤ 1600 := hRs20.1 45; have z := (hs31_1 h9).1.2.2; have z4 := (hs31_1 h9).2; have zz := hj23_1.1.2.2.1.1; omega)
    · skip
      exact wp_some ⟨hRs20, SP_eq (e := 0) (hj23_1.1) rfl rfl rfl rfl rfl rfl (by have : (0 : Int) ≤ gI s20 5 ∧ gI s20 5 ≤ 5 := hRs20.1 5; have : (0 : Int) ≤ gI s 5 ∧ gI s 5 ≤ 5 := hRs.1 5; have : (0 : Int) ≤ gI s20 3 ∧ gI s20 3 ≤ 1600 := hRs20.1 3; have : (0 : Int) ≤ gI s20 2 ∧ gI s20 2 ≤ 1600 := hRs20.1 2; have : (0 : Int) ≤ gI s 46 ∧ gI s 46 ≤ 60 := hRs.1 46; have : (0 : Int) ≤ gI s 3 ∧ gI s 3 ≤ 1600 := hRs.1 3; have : (0 : Int) ≤ gI s 2 ∧ gI s 2 ≤ 1600 := hRs.1 2; have : (0 : Int) ≤ gI s20 46 ∧ gI s20 46 ≤ 60 := hRs20.1 46; omega) (by have : (0 : Int) ≤ gI s20 5 ∧ gI s20 5 ≤ 5 := hRs20.1 5; have : (0 : Int) ≤ gI s 5 ∧ gI s 5 ≤ 5 := hRs.1 5; have : (0 : Int) ≤ gI s20 46 ∧ gI s20 46 ≤ 60 := hRs20.1 46; have : (0 : Int) ≤ gI s20 3 ∧ gI s20 3 ≤ 1600 := hRs20.1 3; have : (0 : Int) ≤ gI s 46 ∧ gI s 46 ≤ 60 := hRs.1 46; have : (0 : Int) ≤ gI s 3 ∧ gI s 3 ≤ 1600 := hRs.1 3; have : (0 : Int) ≤ gI s 2 ∧ gI s 2 ≤ 1600 := hRs.1 2; have : (0 : Int) ≤ gI s20 2 ∧ gI s20 2 ≤ 1600 := hRs20.1 2; omega) (by have : (0 : Int) ≤ gI s 5 ∧ gI s 5 ≤ 5 := hRs.1 5; have : (0 : Int) ≤ gI s20 46 ∧ gI s20 46 ≤ 60 := hRs20.1 46; have : (0 : Int) ≤ gI s20 3 ∧ gI s20 3 ≤ 1600 := hRs20.1 3; have : (0 : Int) ≤ gI s20 2 ∧ gI s20 2 ≤ 1600 := hRs20.1 2; have : (0 : Int) ≤ gI s 46 ∧ gI s 46 ≤ 60 := hRs.1 46; have : (0 : Int) ≤ gI s 3 ∧ gI s 3 ≤ 1600 := hRs.1 3; have : (0 : Int) ≤ gI s 2 ∧ gI s 2 ≤ 1600 := hRs.1 2; have : (0 : Int) ≤ gI s20 5 ∧ gI s20 5 ≤ 5 := hRs20.1 5; omega), by show gI s 2 ≤ gI s20 2 ∧ gI s20 2 ≤ gI s20 3; have : (0 : Int) ≤ gI s20 5 ∧ gI s20 5 ≤ 5 := hRs20.1 5; have : (0 : Int) ≤ gI s 5 ∧ gI s 5 ≤ 5 := hRs.1 5; have : (0 : Int) ≤ gI s20 46 ∧ gI s20 46 ≤ 60 := hRs20.1 46; have : (0 : Int) ≤ gI s 46 ∧ gI s 46 ≤ 60 := hRs.1 46; have : (0 : Int) ≤ gI s 3 ∧ gI s 3 ≤ 1600 := hRs.1 3; have : (0 : Int) ≤ gI s20 3 ∧ gI s20 3 ≤ 1600 := hRs20.1 3; have : (0 : Int) ≤ gI s20 2 ∧ gI s20 2 ≤ 1600 := hRs20.1 2; have : (0 : Int) ≤ gI s 2 ∧ gI s 2 ≤ 1600 := hRs.1 2; omega, by show gI s 5 ≠ 0 → gI s20 5 ≠ 0; have : (0 : Int) ≤ gI s20 46 ∧ gI s20 46 ≤ 60 := hRs20.1 46; have : (0 : Int) ≤ gI s20 3 ∧ gI s20 3 ≤ 1600 := hRs20.1 3; have : (0 : Int) ≤ gI s20 2 ∧ gI s20 2 ≤ 1600 := hRs20.1 2; have : (0 : Int) ≤ gI s 46 ∧ gI s 46 ≤ 60 := hRs.1 46; have : (0 : Int) ≤ gI s 3 ∧ gI s 3 ≤ 1600 := hRs.1 3; have : (0 : Int) ≤ gI s 2 ∧ gI s 2 ≤ 1600 := hRs.1 2; have : (0 : Int) ≤ gI s20 5 ∧ gI s20 5 ≤ 5 := hRs20.1 5; have : (0 : Int) ≤ gI s 5 ∧ gI s 5 ≤ 5 := hRs.1 5; omega, hj23_1.2⟩
  unfold m_x12_codesTold
  refine wp_rg (by have : (0 : Int) ≤ gI s 46 ∧ gI s 46 ≤ 60 := hRs.1 46; have : (0 : Int) ≤ gI s 3 ∧ gI s 3 ≤ 1600 := hRs.1 3; have : (0 : Int) ≤ gI s 2 ∧ gI s 2 ≤ 1600 := hRs.1 2; have : (0 : Int) ≤ gI s 5 ∧ gI s 5 ≤ 5 := hRs.1 5; omega) ?_
  refine wp_if (fun c5 => ?_) (fun c5 => ?_)
  · skip
    refine wp_rdIn (by have : (0 : Int) ≤ gI s 5 ∧ gI s 5 ≤ 5 := hRs.1 5; have : (0 : Int) ≤ gI s 46 ∧ gI s 46 ≤ 60 := hRs.1 46; have : (0 : Int) ≤ gI s 3 ∧ gI s 3 ≤ 1600 := hRs.1 3; have : (0 : Int) ≤ gI s 2 ∧ gI s 2 ≤ 1600 := hRs.1 2; omega) (fun y36 ey36 => ?_)
    have by36 : (-1 : Int) ≤ y36 ∧ y36 ≤ 1600 := ey36 ▸ hRs.2.1 42 _ (by show _ < 6; have : (0 : Int) ≤ gI s 5 ∧ gI s 5 ≤ 5 := hRs.1 5; have : (0 : Int) ≤ gI s 46 ∧ gI s 46 ≤ 60 := hRs.1 46; have : (0 : Int) ≤ gI s 3 ∧ gI s 3 ≤ 1600 := hRs.1 3; have : (0 : Int) ≤ gI s 2 ∧ gI s 2 ≤ 1600 := hRs.1 2; omega)
    skip
    refine wp_rg (by have : (0 : Int) ≤ gI s 5 ∧ gI s 5 ≤ 5 := hRs.1 5; have : (0 : Int) ≤ gI s 46 ∧ gI s 46 ≤ 60 := hRs.1 46; have : (0 : Int) ≤ gI s 3 ∧ gI s 3 ≤ 1600 := hRs.1 3; have : (0 : Int) ≤ gI s 2 ∧ gI s 2 ≤ 1600 := hRs.1 2; omega) ?_
    refine wp_if (fun c6 => ?_) (fun c6 => ?_)
    · skip
      exact J23 p0 s hRs (by show p0 = p0 ∧ gI s 2 ≤ gI s 2 ∧ gI s 2 ≤ gI s 3; have : (0 : Int) ≤ gI s 5 ∧ gI s 5 ≤ 5 := hRs.1 5; have : (0 : Int) ≤ gI s 46 ∧ gI s 46 ≤ 60 := hRs.1 46; have : (0 : Int) ≤ gI s 3 ∧ gI s 3 ≤ 1600 := hRs.1 3; have : (0 : Int) ≤ gI s 2 ∧ gI s 2 ≤ 1600 := hRs.1 2; omega) (⟨hp1, FB_e rfl rfl rfl rfl⟩) (by show 1 ≤ gI s 46 ∧ gI s 46 < 60; have : (0 : Int) ≤ gI s 5 ∧ gI s 5 ≤ 5 := hRs.1 5; have : (0 : Int) ≤ gI s 3 ∧ gI s 3 ≤ 1600 := hRs.1 3; have : (0 : Int) ≤ gI s 2 ∧ gI s 2 ≤ 1600 := hRs.1 2; have : (0 : Int) ≤ gI s 46 ∧ gI s 46 ≤ 60 := hRs.1 46; omega) (by show gI s 5 ≠ 0 → gI s 5 ≠ 0; have : (0 : Int) ≤ gI s 46 ∧ gI s 46 ≤ 60 := hRs.1 46; have : (0 : Int) ≤ gI s 3 ∧ gI s 3 ≤ 1600 := hRs.1 3; have : (0 : Int) ≤ gI s 2 ∧ gI s 2 ≤ 1600 := hRs.1 2; have : (0 : Int) ≤ gI s 5 ∧ gI s 5 ≤ 5 := hRs.1 5; omega)
    · skip
      refine wp_bn (w_x12_fail hRs (by show 1 ≤ (5 : Int) ∧ (5 : Int) ≤ 5; have : (0 : Int) ≤ gI s 5 ∧ gI s 5 ≤ 5 := hRs.1 5; have : (0 : Int) ≤ gI s 46 ∧ gI s 46 ≤ 60 := hRs.1 46; have : (0 : Int) ≤ gI s 3 ∧ gI s 3 ≤ 1600 := hRs.1 3; have : (0 : Int) ≤ gI s 2 ∧ gI s 2 ≤ 1600 := hRs.1 2; omega) (by show R2 p1; have : (0 : Int) ≤ gI s 5 ∧ gI s 5 ≤ 5 := hRs.1 5; have : (0 : Int) ≤ gI s 46 ∧ gI s 46 ≤ 60 := hRs.1 46; have : (0 : Int) ≤ gI s 3 ∧ gI s 3 ≤ 1600 := hRs.1 3; have : (0 : Int) ≤ gI s 2 ∧ gI s 2 ≤ 1600 := hRs.1 2; omega)) (fun s40 es40 hs40 => ?_)
      have Fs40 : F_x12_fail s s40 := fr_x12_fail es40
      obtain ⟨hRs40, hs40_0⟩ := hs40
      have hs40_0 : gI s40 5 ≠ 0 := hs40_0
      exact J23 p0 s40 hRs40 (by show p0 = p0 ∧ gI s 2 ≤ gI s40 2 ∧ gI s40 2 ≤ gI s40 3; have : (0 : Int) ≤ gI s40 5 ∧ gI s40 5 ≤ 5 := hRs40.1 5; have : (0 : Int) ≤ gI s 5 ∧ gI s 5 ≤ 5 := hRs.1 5; have : (0 : Int) ≤ gI s 46 ∧ gI s 46 ≤ 60 := hRs.1 46; have : (0 : Int) ≤ gI s 3 ∧ gI s 3 ≤ 1600 := hRs.1 3; have : gI s40 3 = gI s 3 := Fs40.1 3 (by decide); have : gI s40 2 = gI s 2 := Fs40.1 2 (by decide); have : (0 : Int) ≤ gI s 2 ∧ gI s 2 ≤ 1600 := hRs.1 2; omega) (⟨SP_eq (hp1) (Fs40.2.1 39 (by decide)) (Fs40.2.1 41 (by decide)) (Fs40.2.1 42 (by decide)) (Fs40.2.1 43 (by decide)) (Fs40.2.1 44 (by decide)) (Fs40.1 45 (by decide)) (by have : (0 : Int) ≤ gI s40 5 ∧ gI s40 5 ≤ 5 := hRs40.1 5; have : (0 : Int) ≤ gI s 5 ∧ gI s 5 ≤ 5 := hRs.1 5; have : (0 : Int) ≤ gI s 3 ∧ gI s 3 ≤ 1600 := hRs.1 3; have : (0 : Int) ≤ gI s 2 ∧ gI s 2 ≤ 1600 := hRs.1 2; have : (0 : Int) ≤ gI s 46 ∧ gI s 46 ≤ 60 := hRs.1 46; have : gI s40 46 = gI s 46 := Fs40.1 46 (by decide); omega) (by have : (0 : Int) ≤ gI s40 5 ∧ gI s40 5 ≤ 5 := hRs40.1 5; have : (0 : Int) ≤ gI s 5 ∧ gI s 5 ≤ 5 := hRs.1 5; have : (0 : Int) ≤ gI s 46 ∧ gI s 46 ≤ 60 := hRs.1 46; have : (0 : Int) ≤ gI s 3 ∧ gI s 3 ≤ 1600 := hRs.1 3; have : (0 : Int) ≤ gI s 2 ∧ gI s 2 ≤ 1600 := hRs.1 2; have : gI s40 2 = gI s 2 := Fs40.1 2 (by decide); omega) (by have : (0 : Int) ≤ gI s 46 ∧ gI s 46 ≤ 60 := hRs.1 46; have : (0 : Int) ≤ gI s 3 ∧ gI s 3 ≤ 1600 := hRs.1 3; have : (0 : Int) ≤ gI s 2 ∧ gI s 2 ≤ 1600 := hRs.1 2; have : (0 : Int) ≤ gI s 5 ∧ gI s 5 ≤ 5 := hRs.1 5; have : (0 : Int) ≤ gI s40 5 ∧ gI s40 5 ≤ 5 := hRs40.1 5; omega), FB_e (Fs40.2.1 39 (by decide)) (Fs40.2.1 42 (by decide)) (Fs40.2.1 43 (by decide)) (Fs40.2.1 44 (by decide))⟩) (by show 1 ≤ gI s40 46 ∧ gI s40 46 < 60; have : (0 : Int) ≤ gI s40 5 ∧ gI s40 5 ≤ 5 := hRs40.1 5; have : (0 : Int) ≤ gI s 5 ∧ gI s 5 ≤ 5 := hRs.1 5; have : (0 : Int) ≤ gI s 46 ∧ gI s 46 ≤ 60 := hRs.1 46; have : (0 : Int) ≤ gI s 3 ∧ gI s 3 ≤ 1600 := hRs.1 3; have : (0 : Int) ≤ gI s 2 ∧ gI s 2 ≤ 1600 := hRs.1 2; have : gI s40 46 = gI s 46 := Fs40.1 46 (by decide); omega) (by show gI s 5 ≠ 0 → gI s40 5 ≠ 0; have : (0 : Int) ≤ gI s 46 ∧ gI s 46 ≤ 60 := hRs.1 46; have : (0 : Int) ≤ gI s 3 ∧ gI s 3 ≤ 1600 := hRs.1 3; have : (0 : Int) ≤ gI s 2 ∧ gI s 2 ≤ 1600 := hRs.1 2; have : (0 : Int) ≤ gI s40 5 ∧ gI s40 5 ≤ 5 := hRs40.1 5; have : (0 : Int) ≤ gI s 5 ∧ gI s 5 ≤ 5 := hRs.1 5; omega)
  · skip
    exact J23 p0 s hRs (by show p0 = p0 ∧ gI s 2 ≤ gI s 2 ∧ gI s 2 ≤ gI s 3; have : (0 : Int) ≤ gI s 5 ∧ gI s 5 ≤ 5 := hRs.1 5; have : (0 : Int) ≤ gI s 46 ∧ gI s 46 ≤ 60 := hRs.1 46; have : (0 : Int) ≤ gI s 3 ∧ gI s 3 ≤ 1600 := hRs.1 3; have : (0 : Int) ≤ gI s 2 ∧ gI s 2 ≤ 1600 := hRs.1 2; omega) (⟨hp1, FB_e rfl rfl rfl rfl⟩) (by show 1 ≤ gI s 46 ∧ gI s 46 < 60; have : (0 : Int) ≤ gI s 5 ∧ gI s 5 ≤ 5 := hRs.1 5; have : (0 : Int) ≤ gI s 3 ∧ gI s 3 ≤ 1600 := hRs.1 3; have : (0 : Int) ≤ gI s 2 ∧ gI s 2 ≤ 1600 := hRs.1 2; have : (0 : Int) ≤ gI s 46 ∧ gI s 46 ≤ 60 := hRs.1 46; omega) (by show gI s 5 ≠ 0 → gI s 5 ≠ 0; have : (0 : Int) ≤ gI s 46 ∧ gI s 46 ≤ 60 := hRs.1 46; have : (0 : Int) ≤ gI s 3 ∧ gI s 3 ≤ 1600 := hRs.1 3; have : (0 : Int) ≤ gI s 2 ∧ gI s 2 ≤ 1600 := hRs.1 2; have : (0 : Int) ≤ gI s 5 ∧ gI s 5 ≤ 5 := hRs.1 5; omega)
set_option maxHeartbeats 1000000 in
theorem w_x12_countOf {p0 : Int} {s : MS} (hRs : Rr s) (hp0 : 0 ≤ p0 ∧ p0 < 48) : wp (m_x12_countOf p0 s) (fun r => (r = cM s p0.toNat) ∧ (R2 r)) := by
  unfold m_x12_countOf
  refine wp_rdIn (by omega) (fun y1 ey1 => ?_)
  have by1 : (-2147483648 : Int) ≤ y1 ∧ y1 ≤ 2147483647 := ey1 ▸ hRs.2.1 49 _ (by show _ < 906; omega)
  exact wp_some ⟨by rw [← ey1]; show gA s 49 _ = gA s 49 (17 + 16 * p0.toNat); congr 1; omega, by have z := hRs.2.1 49 (17 + 16 * p0.toNat) (by show _ < 906; omega); rw [← ey1, show (17 + 16 * p0).toNat = 17 + 16 * p0.toNat by omega]; exact z⟩
set_option maxHeartbeats 1000000 in
theorem w_x12_savedOf {p0 : Int} {s : MS} (hRs : Rr s) (hp0 : 0 ≤ p0 ∧ p0 < 48) : wp (m_x12_savedOf p0 s) (fun r => (r = vM s p0.toNat) ∧ (R2 r)) := by
  unfold m_x12_savedOf
  refine wp_rdIn (by omega) (fun y1 ey1 => ?_)
  have by1 : (-2147483648 : Int) ≤ y1 ∧ y1 ≤ 2147483647 := ey1 ▸ hRs.2.1 49 _ (by show _ < 906; omega)
  exact wp_some ⟨by rw [← ey1]; show gA s 49 _ = gA s 49 (18 + 16 * p0.toNat); congr 1; omega, by have z := hRs.2.1 49 (18 + 16 * p0.toNat) (by show _ < 906; omega); rw [← ey1, show (17 + 16 * p0 + 1).toNat = 18 + 16 * p0.toNat by omega]; exact z⟩
set_option maxHeartbeats 1000000 in
theorem w_x12_levelOf {p0 : Int} {s : MS} (hRs : Rr s) (hp0 : 0 ≤ p0 ∧ p0 < 48) : wp (m_x12_levelOf p0 s) (fun r => (r = (hM s).1 p0.toNat) ∧ (R2 r)) := by
  unfold m_x12_levelOf
  refine wp_rdIn (by omega) (fun y1 ey1 => ?_)
  have by1 : (-2147483648 : Int) ≤ y1 ∧ y1 ≤ 2147483647 := ey1 ▸ hRs.2.1 49 _ (by show _ < 906; omega)
  exact wp_some ⟨by rw [← ey1]; show gA s 49 _ = gA s 49 (19 + 16 * p0.toNat); congr 1; omega, by have z := hRs.2.1 49 (19 + 16 * p0.toNat) (by show _ < 906; omega); rw [← ey1, show (17 + 16 * p0 + 2).toNat = 19 + 16 * p0.toNat by omega]; exact z⟩
set_option maxHeartbeats 1000000 in
theorem w_x12_entriesOf {p0 : Int} {s : MS} (hRs : Rr s) (hp0 : 0 ≤ p0 ∧ p0 < 48) : wp (m_x12_entriesOf p0 s) (fun r => (r = (hM s).2.1 p0.toNat) ∧ (R2 r)) := by
  unfold m_x12_entriesOf
  refine wp_rdIn (by omega) (fun y1 ey1 => ?_)
  have by1 : (-2147483648 : Int) ≤ y1 ∧ y1 ≤ 2147483647 := ey1 ▸ hRs.2.1 49 _ (by show _ < 906; omega)
  exact wp_some ⟨by rw [← ey1]; show gA s 49 _ = gA s 49 (20 + 16 * p0.toNat); congr 1; omega, by have z := hRs.2.1 49 (20 + 16 * p0.toNat) (by show _ < 906; omega); rw [← ey1, show (17 + 16 * p0 + 3).toNat = 20 + 16 * p0.toNat by omega]; exact z⟩
set_option maxHeartbeats 1000000 in
theorem w_x12_keyAt {p0 : Int} {p1 : Int} {s : MS} (hRs : Rr s) (hp0 : 0 ≤ p0 ∧ p0 < 48) (hp1 : 0 ≤ p1 ∧ p1 < 6) : wp (m_x12_keyAt p0 p1 s) (fun r => (r = kM s p0.toNat p1.toNat) ∧ (R2 r)) := by
  unfold m_x12_keyAt
  refine wp_rdIn (by omega) (fun y1 ey1 => ?_)
  have by1 : (-2147483648 : Int) ≤ y1 ∧ y1 ≤ 2147483647 := ey1 ▸ hRs.2.1 49 _ (by show _ < 906; omega)
  exact wp_some ⟨by rw [← ey1]; show gA s 49 _ = if p1.toNat < 6 then gA s 49 (21 + 16 * p0.toNat + p1.toNat) else 0; rw [if_pos (by omega)]; congr 1; omega, by have z := hRs.2.1 49 (21 + 16 * p0.toNat + p1.toNat) (by show _ < 906; omega); rw [← ey1, show (17 + 16 * p0 + 4 + p1).toNat = 21 + 16 * p0.toNat + p1.toNat by omega]; exact z⟩
set_option maxHeartbeats 1000000 in
theorem w_x12_valueAt {p0 : Int} {p1 : Int} {s : MS} (hRs : Rr s) (hp0 : 0 ≤ p0 ∧ p0 < 48) (hp1 : 0 ≤ p1 ∧ p1 < 6) : wp (m_x12_valueAt p0 p1 s) (fun r => (r = (hM s).2.2 p0.toNat p1.toNat) ∧ (R2 r)) := by
  unfold m_x12_valueAt
  refine wp_rdIn (by omega) (fun y1 ey1 => ?_)
  have by1 : (-2147483648 : Int) ≤ y1 ∧ y1 ≤ 2147483647 := ey1 ▸ hRs.2.1 49 _ (by show _ < 906; omega)
  exact wp_some ⟨by rw [← ey1]; show gA s 49 _ = if p1.toNat < 6 then gA s 49 (27 + 16 * p0.toNat + p1.toNat) else 0; rw [if_pos (by omega)]; congr 1; omega, by have z := hRs.2.1 49 (27 + 16 * p0.toNat + p1.toNat) (by show _ < 906; omega); rw [← ey1, show (17 + 16 * p0 + 10 + p1).toNat = 27 + 16 * p0.toNat + p1.toNat by omega]; exact z⟩
set_option maxHeartbeats 1000000 in
theorem w_x12_counts {p0 : Int} {p1 : Int} {s : MS} (hRs : Rr s) (hp0 : 0 ≤ p0 ∧ p0 < 48) (hp1 : -100000 ≤ cM s p0.toNat ∧ cM s p0.toNat ≤ 100000) (hp2 : -10 ≤ p1 ∧ p1 ≤ 10) : wp (m_x12_counts p0 p1 s) (fun o => (Rr o) ∧ (gA o 49 = upZ (gA s 49) (17 + 16 * p0.toNat) (cM s p0.toNat + p1))) := by
  unfold m_x12_counts
  refine wp_rdIn (by omega) (fun y1 ey1 => ?_)
  have by1 : (-2147483648 : Int) ≤ y1 ∧ y1 ≤ 2147483647 := ey1 ▸ hRs.2.1 49 _ (by show _ < 906; omega)
  have ky1 : cM s p0.toNat = y1 := by rw [← ey1]; show gA s 49 _ = gA s 49 _; congr 1; omega
  refine wp_inb (by omega) ?_
  refine wp_stn (fun s3 es3 => ?_)
  have hRs3 : Rr s3 := es3 ▸ Rr.uAu hRs (by show (-2147483648 : Int) ≤ (y1 + p1) ∧ (y1 + p1) ≤ 2147483647; omega)
  exact wp_some ⟨hRs3, by rw [(q_AA es3 : gA s3 49 = _), ky1, show (17 + 16 * p0).toNat = 17 + 16 * p0.toNat by omega]⟩
set_option maxHeartbeats 1000000 in
theorem w_x12_setsEntry {p0 : Int} {p1 : Int} {p2 : Int} {p3 : Int} {s : MS} (hRs : Rr s) (hp0 : 0 ≤ p0 ∧ p0 < 48) (hp1 : 0 ≤ p1 ∧ p1 < 6) (hp2 : R2 p2) (hp3 : R2 p3) : wp (m_x12_setsEntry p0 p1 p2 p3 s) (fun o => (Rr o) ∧ (gA o 49 = upZ (upZ (gA s 49) (21 + 16 * p0.toNat + p1.toNat) p2) (27 + 16 * p0.toNat + p1.toNat) p3)) := by
  unfold m_x12_setsEntry
  refine wp_inb (by omega) ?_
  refine wp_stn (fun s2 es2 => ?_)
  have hRs2 : Rr s2 := es2 ▸ Rr.uAu hRs (by show (-2147483648 : Int) ≤ p2 ∧ p2 ≤ 2147483647; omega)
  refine wp_inb (by omega) ?_
  refine wp_stn (fun s4 es4 => ?_)
  have hRs4 : Rr s4 := es4 ▸ Rr.uAu hRs2 (by show (-2147483648 : Int) ≤ p3 ∧ p3 ≤ 2147483647; omega)
  refine wp_inb (by omega) ?_
  refine wp_bo (by omega) ?_
  refine wp_stn (fun s7 es7 => ?_)
  have hRs7 : Rr s7 := es7 ▸ Rr.uAu hRs4 (by show (0 : Int) ≤ (1 : Int) ∧ (1 : Int) ≤ 1; omega)
  exact wp_some ⟨hRs7, by rw [((q_Aa es7 (by decide) : gA s7 49 = gA s4 49)), (q_AA es4 : gA s4 49 = _), (q_AA es2 : gA s2 49 = _), show (17 + 16 * p0 + 4 + p1).toNat = 21 + 16 * p0.toNat + p1.toNat by omega, show (17 + 16 * p0 + 10 + p1).toNat = 27 + 16 * p0.toNat + p1.toNat by omega]⟩
set_option maxHeartbeats 1000000 in
theorem w_x12_isUsed {p0 : Int} {s : MS} (hRs : Rr s) (hp0 : 0 ≤ p0 ∧ p0 < 48) : wp (m_x12_isUsed p0 s) (fun r => ((r = 1 ∧ 0 < cM s p0.toNat) ∨ (r = 0 ∧ cM s p0.toNat ≤ 0))) := by
  unfold m_x12_isUsed
  refine wp_bn (w_x12_countOf hRs (by show 0 ≤ p0 ∧ p0 < 48; omega)) (fun r4 er4 hr4 => ?_)
  obtain ⟨hr4_0, hr4_1⟩ := hr4
  have hr4_0 : r4 = cM s p0.toNat := hr4_0
  have hr4_1 : R2 r4 := hr4_1
  refine wp_rg (by omega) ?_
  refine wp_if (fun c1 => ?_) (fun c1 => ?_)
  · skip
    unfold m_x12_isUsed_J13
    refine wp_bo (by omega) ?_
    exact wp_some (by show ((0 : Int) = 1 ∧ 0 < cM s p0.toNat) ∨ ((0 : Int) = 0 ∧ cM s p0.toNat ≤ 0); omega)
  · skip
    unfold m_x12_isUsed_J13
    refine wp_bo (by omega) ?_
    exact wp_some (by show ((1 : Int) = 1 ∧ 0 < cM s p0.toNat) ∨ ((1 : Int) = 0 ∧ cM s p0.toNat ≤ 0); omega)
set_option maxHeartbeats 1000000 in
theorem w_x12_isThere {p0 : Int} {s : MS} (hRs : Rr s) (hp0 : 0 ≤ p0 ∧ p0 < 48) : wp (m_x12_isThere p0 s) (fun r => ((r = 1 ∧ (0 < cM s p0.toNat ∨ 0 < vM s p0.toNat)) ∨ (r = 0 ∧ cM s p0.toNat ≤ 0 ∧ vM s p0.toNat ≤ 0))) := by
  unfold m_x12_isThere
  refine wp_bn (w_x12_isUsed hRs (by show 0 ≤ p0 ∧ p0 < 48; omega)) (fun r4 er4 hr4 => ?_)
  have hr4_0 := hr4
  have hr4_0 : (r4 = 1 ∧ 0 < cM s p0.toNat) ∨ (r4 = 0 ∧ cM s p0.toNat ≤ 0) := hr4_0
  refine wp_rg (by omega) ?_
  refine wp_if (fun c1 => ?_) (fun c1 => ?_)
  · skip
    refine wp_bn (w_x12_savedOf hRs (by show 0 ≤ p0 ∧ p0 < 48; omega)) (fun r8 er8 hr8 => ?_)
    obtain ⟨hr8_0, hr8_1⟩ := hr8
    have hr8_0 : r8 = vM s p0.toNat := hr8_0
    have hr8_1 : R2 r8 := hr8_1
    refine wp_rg (by omega) ?_
    refine wp_if (fun c2 => ?_) (fun c2 => ?_)
    · skip
      unfold m_x12_isThere_J21
      refine wp_bo (by omega) ?_
      exact wp_some (by show ((0 : Int) = 1 ∧ (0 < cM s p0.toNat ∨ 0 < vM s p0.toNat)) ∨ ((0 : Int) = 0 ∧ cM s p0.toNat ≤ 0 ∧ vM s p0.toNat ≤ 0); omega)
    · skip
      unfold m_x12_isThere_J16
      unfold m_x12_isThere_J21
      refine wp_bo (by omega) ?_
      exact wp_some (by show ((1 : Int) = 1 ∧ (0 < cM s p0.toNat ∨ 0 < vM s p0.toNat)) ∨ ((1 : Int) = 0 ∧ cM s p0.toNat ≤ 0 ∧ vM s p0.toNat ≤ 0); omega)
  · skip
    unfold m_x12_isThere_J16
    unfold m_x12_isThere_J21
    refine wp_bo (by omega) ?_
    exact wp_some (by show ((1 : Int) = 1 ∧ (0 < cM s p0.toNat ∨ 0 < vM s p0.toNat)) ∨ ((1 : Int) = 0 ∧ cM s p0.toNat ≤ 0 ∧ vM s p0.toNat ≤ 0); omega)
set_option maxHeartbeats 1000000 in
theorem w_x12_isFresh {p0 : Int} {s : MS} (hRs : Rr s) (hp0 : 0 ≤ p0 ∧ p0 < 48) : wp (m_x12_isFresh p0 s) (fun r => ((r = 1 ∧ 0 < cM s p0.toNat ∧ vM s p0.toNat = 0) ∨ (r = 0 ∧ (cM s p0.toNat ≤ 0 ∨ vM s p0.toNat ≠ 0)))) := by
  unfold m_x12_isFresh
  refine wp_bn (w_x12_isUsed hRs (by show 0 ≤ p0 ∧ p0 < 48; omega)) (fun r4 er4 hr4 => ?_)
  have hr4_0 := hr4
  have hr4_0 : (r4 = 1 ∧ 0 < cM s p0.toNat) ∨ (r4 = 0 ∧ cM s p0.toNat ≤ 0) := hr4_0
  refine wp_rg (by omega) ?_
  refine wp_if (fun c1 => ?_) (fun c1 => ?_)
  · skip
    unfold m_x12_isFresh_J20
    unfold m_x12_isFresh_J21
    refine wp_bo (by omega) ?_
    exact wp_some (by show ((0 : Int) = 1 ∧ 0 < cM s p0.toNat ∧ vM s p0.toNat = 0) ∨ ((0 : Int) = 0 ∧ (cM s p0.toNat ≤ 0 ∨ vM s p0.toNat ≠ 0)); omega)
  · skip
    refine wp_bn (w_x12_savedOf hRs (by show 0 ≤ p0 ∧ p0 < 48; omega)) (fun r8 er8 hr8 => ?_)
    obtain ⟨hr8_0, hr8_1⟩ := hr8
    have hr8_0 : r8 = vM s p0.toNat := hr8_0
    have hr8_1 : R2 r8 := hr8_1
    refine wp_rg (by omega) ?_
    refine wp_if (fun c2 => ?_) (fun c2 => ?_)
    · skip
      unfold m_x12_isFresh_J21
      refine wp_bo (by omega) ?_
      exact wp_some (by show ((1 : Int) = 1 ∧ 0 < cM s p0.toNat ∧ vM s p0.toNat = 0) ∨ ((1 : Int) = 0 ∧ (cM s p0.toNat ≤ 0 ∨ vM s p0.toNat ≠ 0)); omega)
    · skip
      unfold m_x12_isFresh_J20
      unfold m_x12_isFresh_J21
      refine wp_bo (by omega) ?_
      exact wp_some (by show ((0 : Int) = 1 ∧ 0 < cM s p0.toNat ∧ vM s p0.toNat = 0) ∨ ((0 : Int) = 0 ∧ (cM s p0.toNat ≤ 0 ∨ vM s p0.toNat ≠ 0)); omega)
set_option maxHeartbeats 1000000 in
theorem w_x12_isHeld {p0 : Int} {s : MS} (hRs : Rr s) (hp0 : 0 ≤ p0 ∧ p0 < 48) : wp (m_x12_isHeld p0 s) (fun r => (r = 0 ∨ r = 1)) := by
  unfold m_x12_isHeld
  refine wp_bn (w_x12_isUsed hRs (by show 0 ≤ p0 ∧ p0 < 48; omega)) (fun r4 er4 hr4 => ?_)
  have hr4_0 := hr4
  have hr4_0 : (r4 = 1 ∧ 0 < cM s p0.toNat) ∨ (r4 = 0 ∧ cM s p0.toNat ≤ 0) := hr4_0
  refine wp_rg (by omega) ?_
  refine wp_if (fun c1 => ?_) (fun c1 => ?_)
  · skip
    refine wp_bn (w_x12_savedOf hRs (by show 0 ≤ p0 ∧ p0 < 48; omega)) (fun r8 er8 hr8 => ?_)
    obtain ⟨hr8_0, hr8_1⟩ := hr8
    have hr8_0 : r8 = vM s p0.toNat := hr8_0
    have hr8_1 : R2 r8 := hr8_1
    refine wp_rg (by omega) ?_
    refine wp_if (fun c2 => ?_) (fun c2 => ?_)
    · skip
      unfold m_x12_isHeld_J20
      unfold m_x12_isHeld_J21
      refine wp_bo (by omega) ?_
      exact wp_some (by show (0 : Int) = 0 ∨ (0 : Int) = 1; omega)
    · skip
      unfold m_x12_isHeld_J21
      refine wp_bo (by omega) ?_
      exact wp_some (by show (1 : Int) = 0 ∨ (1 : Int) = 1; omega)
  · skip
    unfold m_x12_isHeld_J20
    unfold m_x12_isHeld_J21
    refine wp_bo (by omega) ?_
    exact wp_some (by show (0 : Int) = 0 ∨ (0 : Int) = 1; omega)
set_option maxHeartbeats 1000000 in
theorem w_x12_isCoded {p0 : Int} {s : MS} (hRs : Rr s) (hp0 : 0 ≤ p0 ∧ p0 ≤ 2) : wp (m_x12_isCoded p0 s) (fun r => ((r = 1 ∧ gA s 42 (3 + p0.toNat) ≠ -1) ∨ (r = 0 ∧ gA s 42 (3 + p0.toNat) = -1))) := by
  unfold m_x12_isCoded
  refine wp_rdIn (by omega) (fun y3 ey3 => ?_)
  have by3 : (-1 : Int) ≤ y3 ∧ y3 ≤ 1600 := ey3 ▸ hRs.2.1 42 _ (by show _ < 6; omega)
  have ky3 : gA s 42 (3 + p0.toNat) = y3 := by rw [← ey3]; congr 1; omega
  refine wp_rg (by omega) ?_
  refine wp_if (fun c1 => ?_) (fun c1 => ?_)
  · skip
    unfold m_x12_isCoded_J17
    refine wp_bo (by omega) ?_
    exact wp_some (by show ((0 : Int) = 1 ∧ gA s 42 (3 + p0.toNat) ≠ -1) ∨ ((0 : Int) = 0 ∧ gA s 42 (3 + p0.toNat) = -1); omega)
  · skip
    unfold m_x12_isCoded_J17
    refine wp_bo (by omega) ?_
    exact wp_some (by show ((1 : Int) = 1 ∧ gA s 42 (3 + p0.toNat) ≠ -1) ∨ ((1 : Int) = 0 ∧ gA s 42 (3 + p0.toNat) = -1); omega)
set_option maxHeartbeats 1000000 in
theorem w_x12_blockMany {s : MS} (hRs : Rr s) : wp (m_x12_blockMany s) (fun r => (r = gA s 39 5)) := by
  unfold m_x12_blockMany
  refine wp_rdIn (by omega) (fun y1 ey1 => ?_)
  have by1 : (-2147483648 : Int) ≤ y1 ∧ y1 ≤ 2147483647 := ey1 ▸ hRs.2.1 39 _ (by show _ < 10; omega)
  exact wp_some (ey1.symm)
set_option maxHeartbeats 1000000 in
theorem w_x12_roomOf {s : MS} (hRs : Rr s) : wp (m_x12_roomOf s) (fun r => (r = gA s 39 6)) := by
  unfold m_x12_roomOf
  refine wp_rdIn (by omega) (fun y1 ey1 => ?_)
  have by1 : (-2147483648 : Int) ≤ y1 ∧ y1 ≤ 2147483647 := ey1 ▸ hRs.2.1 39 _ (by show _ < 10; omega)
  exact wp_some (ey1.symm)
set_option maxHeartbeats 1000000 in
theorem w_x12_placeFor {p0 : Int} {p1 : Int} {s : MS} (hRs : Rr s) (hp0 : 0 ≤ p0 ∧ p0 < 48) (hp1 : R2 p1) (hp2 : (0 ≤ (hM s).2.1 p0.toNat ∧ (hM s).2.1 p0.toNat ≤ 6)) : wp (m_x12_placeFor p0 p1 s) (fun r => (0 ≤ r ∧ r ≤ 5 ∧ (1 ≤ (hM s).2.1 p0.toNat → r < (hM s).2.1 p0.toNat))) := by
  unfold m_x12_placeFor
  have L2 : ∀ (n : Nat) (x2 : Int) (x3 : Int) (x4 : Int), (x2 = p0 ∧ x3 = p1) → (0 ≤ x4 ∧ (x4 = 0 ∨ x4 < (hM s).2.1 p0.toNat)) → (6 - x4) < (n : Int) → wp (m_x12_placeFor_L2 s n x2 x3 x4) (fun r => (0 ≤ r ∧ r ≤ 5 ∧ (1 ≤ (hM s).2.1 p0.toNat → r < (hM s).2.1 p0.toNat))) := by
    refine fr_ind (fun x2 x3 x4 hv2_0 hv2_1 hm2 => ?_) (fun n2 ih2 x2 x3 x4 hv2_0 hv2_1 hm2 => ?_)
    · exfalso; omega
    · show wp (m_x12_placeFor_b2 s (m_x12_placeFor_L2 s n2) x2 x3 x4) _
      unfold m_x12_placeFor_b2
      have e2 : x2 = p0 := hv2_0.1
      refine wp_bn (w_x12_entriesOf hRs (by show 0 ≤ x2 ∧ x2 < 48; omega)) (fun r6 er6 hr6 => ?_)
      obtain ⟨hr6_0, hr6_1⟩ := hr6
      have hr6_0 : r6 = (hM s).2.1 x2.toNat := hr6_0
      have hr6_1 : R2 r6 := hr6_1
      rw [e2] at hr6_0
      refine wp_rg (by omega) ?_
      refine wp_rg (by omega) ?_
      refine wp_if (fun c1 => ?_) (fun c1 => ?_)
      · skip
        unfold m_x12_placeFor_J31
        exact wp_some (by show 0 ≤ x4 ∧ x4 ≤ 5 ∧ (1 ≤ (hM s).2.1 p0.toNat → x4 < (hM s).2.1 p0.toNat); omega)
      · skip
        refine wp_bn (w_x12_keyAt hRs (by show 0 ≤ x2 ∧ x2 < 48; omega) (by show 0 ≤ (x4 + 1) ∧ (x4 + 1) < 6; omega)) (fun r11 er11 hr11 => ?_)
        obtain ⟨hr11_0, hr11_1⟩ := hr11
        have hr11_0 : r11 = kM s x2.toNat (x4 + 1).toNat := hr11_0
        have hr11_1 : R2 r11 := hr11_1
        refine wp_rg (by omega) ?_
        refine wp_rg (by omega) ?_
        refine wp_if (fun c2 => ?_) (fun c2 => ?_)
        · skip
          unfold m_x12_placeFor_J31
          exact wp_some (by show 0 ≤ x4 ∧ x4 ≤ 5 ∧ (1 ≤ (hM s).2.1 p0.toNat → x4 < (hM s).2.1 p0.toNat); omega)
        · skip
          exact ih2 x2 x3 (x4 + 1) (by show x2 = p0 ∧ x3 = p1; omega) (by show 0 ≤ (x4 + 1) ∧ ((x4 + 1) = 0 ∨ (x4 + 1) < (hM s).2.1 p0.toNat); omega) (by omega)
  exact L2 FU p0 p1 0 (by show p0 = p0 ∧ p1 = p1; omega) (by show 0 ≤ (0 : Int) ∧ ((0 : Int) = 0 ∨ (0 : Int) < (hM s).2.1 p0.toNat); omega) (by have := FU_big; have := FU_big2; omega)
set_option maxHeartbeats 1000000 in
theorem w_x12_placeIn {p0 : Int} {p1 : Int} {s : MS} (hRs : Rr s) (hp0 : 0 ≤ p0 ∧ p0 < 48) (hp1 : R2 p1) (hp2 : (0 ≤ (hM s).2.1 p0.toNat ∧ (hM s).2.1 p0.toNat ≤ 6)) : wp (m_x12_placeIn p0 p1 s) (fun r => (0 ≤ r ∧ r ≤ (hM s).2.1 p0.toNat)) := by
  unfold m_x12_placeIn
  have L2 : ∀ (n : Nat) (x2 : Int) (x3 : Int) (x4 : Int), (x2 = p0 ∧ x3 = p1) → (0 ≤ x4 ∧ x4 ≤ (hM s).2.1 p0.toNat) → (6 - x4) < (n : Int) → wp (m_x12_placeIn_L2 s n x2 x3 x4) (fun r => (0 ≤ r ∧ r ≤ (hM s).2.1 p0.toNat)) := by
    refine fr_ind (fun x2 x3 x4 hv2_0 hv2_1 hm2 => ?_) (fun n2 ih2 x2 x3 x4 hv2_0 hv2_1 hm2 => ?_)
    · exfalso; omega
    · show wp (m_x12_placeIn_b2 s (m_x12_placeIn_L2 s n2) x2 x3 x4) _
      unfold m_x12_placeIn_b2
      have e2 : x2 = p0 := hv2_0.1
      refine wp_bn (w_x12_entriesOf hRs (by show 0 ≤ x2 ∧ x2 < 48; omega)) (fun r6 er6 hr6 => ?_)
      obtain ⟨hr6_0, hr6_1⟩ := hr6
      have hr6_0 : r6 = (hM s).2.1 x2.toNat := hr6_0
      have hr6_1 : R2 r6 := hr6_1
      rw [e2] at hr6_0
      refine wp_rg (by omega) ?_
      refine wp_rg (by omega) ?_
      refine wp_if (fun c1 => ?_) (fun c1 => ?_)
      · skip
        unfold m_x12_placeIn_J27
        exact wp_some (by show 0 ≤ x4 ∧ x4 ≤ (hM s).2.1 p0.toNat; omega)
      · skip
        refine wp_bn (w_x12_keyAt hRs (by show 0 ≤ x2 ∧ x2 < 48; omega) (by show 0 ≤ x4 ∧ x4 < 6; omega)) (fun r11 er11 hr11 => ?_)
        obtain ⟨hr11_0, hr11_1⟩ := hr11
        have hr11_0 : r11 = kM s x2.toNat x4.toNat := hr11_0
        have hr11_1 : R2 r11 := hr11_1
        refine wp_rg (by omega) ?_
        refine wp_rg (by omega) ?_
        refine wp_if (fun c2 => ?_) (fun c2 => ?_)
        · skip
          unfold m_x12_placeIn_J27
          exact wp_some (by show 0 ≤ x4 ∧ x4 ≤ (hM s).2.1 p0.toNat; omega)
        · skip
          exact ih2 x2 x3 (x4 + 1) (by show x2 = p0 ∧ x3 = p1; omega) (by show 0 ≤ (x4 + 1) ∧ (x4 + 1) ≤ (hM s).2.1 p0.toNat; omega) (by omega)
  exact L2 FU p0 p1 0 (by show p0 = p0 ∧ p1 = p1; omega) (by show 0 ≤ (0 : Int) ∧ (0 : Int) ≤ (hM s).2.1 p0.toNat; omega) (by have := FU_big; have := FU_big2; omega)
/-! ===== the reference's trees: what a write does to a block ===== -/
/-- nothing but size, keys and entries of one block is another -/
def BX (s o : MS) (b : Nat) : Prop := ∀ i, ¬ (20 + 16 * b ≤ i ∧ i < 33 + 16 * b) → gA o 49 i = gA s 49 i
theorem BX_0 (s : MS) (b : Nat) : BX s s b := fun _ _ => rfl
theorem BX_t {s o q : MS} {b : Nat} (h1 : BX s o b) (h2 : BX o q b) : BX s q b := fun i hi => (h2 i hi).trans (h1 i hi)
theorem BX_c {s o : MS} {b : Nat} (H : BX s o b) : cM o = cM s := by
  funext p
  exact H _ (by omega)
theorem BX_v {s o : MS} {b : Nat} (H : BX s o b) : vM o = vM s := by
  funext p
  exact H _ (by omega)
theorem BX_l {s o : MS} {b : Nat} (H : BX s o b) : (hM o).1 = (hM s).1 := by
  funext p
  exact H (19 + 16 * p) (by omega)
theorem BX_z {s o : MS} {b p : Nat} (H : BX s o b) (hp : p ≠ b) : (hM o).2.1 p = (hM s).2.1 p := H (20 + 16 * p) (by omega)
theorem BX_e {s o : MS} {b p j : Nat} (H : BX s o b) (hp : p ≠ b) : (hM o).2.2 p j = (hM s).2.2 p j ∧ kM o p j = kM s p j := by
  constructor
  · show (if j < 6 then gA o 49 (27 + 16 * p + j) else 0) = if j < 6 then gA s 49 (27 + 16 * p + j) else 0
    by_cases q : j < 6
    · rw [if_pos q, if_pos q]; exact H _ (by omega)
    · rw [if_neg q, if_neg q]
  · show (if j < 6 then gA o 49 (21 + 16 * p + j) else 0) = if j < 6 then gA s 49 (21 + 16 * p + j) else 0
    by_cases q : j < 6
    · rw [if_pos q, if_pos q]; exact H _ (by omega)
    · rw [if_neg q, if_neg q]
theorem BX_u {s o : MS} {b u : Nat} (H : BX s o b) (hu : u < 17) : gA o 49 u = gA s 49 u := H u (by omega)
theorem BX_k {s o : MS} {b i : Nat} (H : BX s o b) (hb : b < 48) (hi : 785 ≤ i) : gA o 49 i = gA s 49 i := H i (by omega)
theorem BX_r {s o : MS} {b : Nat} (H : BX s o b) : rM o = rM s := by
  funext p
  show (if p < 8 then gA o 49 p else 0) = if p < 8 then gA s 49 p else 0
  by_cases q : p < 8
  · rw [if_pos q, if_pos q]; exact H _ (by omega)
  · rw [if_neg q, if_neg q]
theorem BX_rs {s o : MS} {b : Nat} (H : BX s o b) : rsM o = rsM s := by
  funext p
  show (if p < 8 then gA o 49 (8 + p) else 0) = if p < 8 then gA s 49 (8 + p) else 0
  by_cases q : p < 8
  · rw [if_pos q, if_pos q]; exact H _ (by omega)
  · rw [if_neg q, if_neg q]
theorem BX_s {s o : MS} {b : Nat} (H : BX s o b) : SBk (hM s) (hM o) (kM s) (kM o) b := fun q _ hn => ⟨by rw [BX_l H], BX_z H hn, fun _ _ => BX_e H hn⟩
/-- a size alone -/
theorem M_size {t o : MS} {b : Nat} {v : Int} (e : gA o 49 = upZ (gA t 49) (20 + 16 * b) v) : BX t o b ∧ (hM o).2.1 b = v ∧ (∀ j, (hM o).2.2 b j = (hM t).2.2 b j ∧ kM o b j = kM t b j) := by
  refine ⟨fun i hi => by rw [e, upZ_n (by omega)], by show gA o 49 (20 + 16 * b) = v; rw [e, upZ_s], fun j => ⟨?_, ?_⟩⟩
  · show (if j < 6 then gA o 49 (27 + 16 * b + j) else 0) = if j < 6 then gA t 49 (27 + 16 * b + j) else 0
    rw [e, upZ_n (by omega)]
  · show (if j < 6 then gA o 49 (21 + 16 * b + j) else 0) = if j < 6 then gA t 49 (21 + 16 * b + j) else 0
    by_cases q : j < 6
    · rw [if_pos q, if_pos q, e, upZ_n (by omega)]
    · rw [if_neg q, if_neg q]
/-- an entry and its key -/
theorem M_set {t o : MS} {b k : Nat} {key v : Int} (hk : k < 6) (e : gA o 49 = upZ (upZ (gA t 49) (21 + 16 * b + k) key) (27 + 16 * b + k) v) : BX t o b ∧ (hM o).2.1 b = (hM t).2.1 b ∧ ((hM o).2.2 b k = v ∧ kM o b k = key) ∧ (∀ j, j ≠ k → (hM o).2.2 b j = (hM t).2.2 b j ∧ kM o b j = kM t b j) := by
  refine ⟨fun i hi => by rw [e, upZ_n (by omega), upZ_n (by omega)], by show gA o 49 (20 + 16 * b) = gA t 49 (20 + 16 * b); rw [e, upZ_n (by omega), upZ_n (by omega)], ⟨?_, ?_⟩, fun j hj => ⟨?_, ?_⟩⟩
  · show (if k < 6 then gA o 49 (27 + 16 * b + k) else 0) = v
    rw [if_pos hk, e, upZ_s]
  · show (if k < 6 then gA o 49 (21 + 16 * b + k) else 0) = key
    rw [if_pos hk, e, upZ_n (by omega), upZ_s]
  · show (if j < 6 then gA o 49 (27 + 16 * b + j) else 0) = if j < 6 then gA t 49 (27 + 16 * b + j) else 0
    by_cases q : j < 6
    · rw [if_pos q, if_pos q, e, upZ_n (by omega), upZ_n (by omega)]
    · rw [if_neg q, if_neg q]
  · show (if j < 6 then gA o 49 (21 + 16 * b + j) else 0) = if j < 6 then gA t 49 (21 + 16 * b + j) else 0
    by_cases q : j < 6
    · rw [if_pos q, if_pos q, e, upZ_n (by omega), upZ_n (by omega)]
    · rw [if_neg q, if_neg q]
theorem R49 {s : MS} (hR : Rr s) {i : Nat} (hi : i < 906) : R2 (gA s 49 i) := hR.2.1 49 i (by show i < 906; exact hi)
theorem Rz {s : MS} (hR : Rr s) {p : Nat} (hp : p < 48) : R2 ((hM s).2.1 p) := R49 hR (i := 20 + 16 * p) (by omega)
/-- an entry is put in -/
def InsE (s o : MS) (b k : Nat) (key val : Int) : Prop := BX s o b ∧ (hM o).2.1 b = (hM s).2.1 b + 1 ∧ (∀ j, j < k → (hM o).2.2 b j = (hM s).2.2 b j ∧ kM o b j = kM s b j) ∧ ((hM o).2.2 b k = val ∧ kM o b k = key) ∧ (∀ j, k ≤ j → (j : Int) < (hM s).2.1 b → (hM o).2.2 b (j + 1) = (hM s).2.2 b j ∧ kM o b (j + 1) = kM s b j)
theorem w_x12_inserts {p0 p1 p2 p3 : Int} {s : MS} (hRs : Rr s) (hb : 0 ≤ p0 ∧ p0 < 48) (hk : 0 ≤ p1 ∧ p1 ≤ (hM s).2.1 p0.toNat) (hz : (hM s).2.1 p0.toNat ≤ 5) (h2 : R2 p2) (h3 : R2 p3) : wp (m_x12_inserts p0 p1 p2 p3 s) (fun o => Rr o ∧ F_x12_inserts s o ∧ InsE s o p0.toNat p1.toNat p2 p3) := by
  have hb48 : p0.toNat < 48 := by omega
  have key : wp (m_x12_inserts p0 p1 p2 p3 s) (fun o => Rr o ∧ InsE s o p0.toNat p1.toNat p2 p3) := by
    have L7 : ∀ (n : Nat) (x5 : Int) (S : MS), Rr S → (p1 ≤ x5 ∧ x5 ≤ (hM s).2.1 p0.toNat) → BX s S p0.toNat → (hM S).2.1 p0.toNat = (hM s).2.1 p0.toNat → (∀ j : Nat, (j : Int) ≤ x5 → (hM S).2.2 p0.toNat j = (hM s).2.2 p0.toNat j ∧ kM S p0.toNat j = kM s p0.toNat j) → (∀ j : Nat, x5 ≤ (j : Int) → (j : Int) < (hM s).2.1 p0.toNat → (hM S).2.2 p0.toNat (j + 1) = (hM s).2.2 p0.toNat j ∧ kM S p0.toNat (j + 1) = kM s p0.toNat j) → x5 - p1 < (n : Int) → wp (m_x12_inserts_L7 n p0 p1 p2 p3 x5 S) (fun o => Rr o ∧ InsE s o p0.toNat p1.toNat p2 p3) := by
      refine fr_ind (fun x5 S hRS hx hB hsz hlo hhi hm => by exfalso; omega) (fun n ih x5 S hRS hx hB hsz hlo hhi hm => ?_)
      show wp (m_x12_inserts_b7 (m_x12_inserts_L7 n) p0 p1 p2 p3 x5 S) _
      unfold m_x12_inserts_b7
      refine wp_rg (by omega) (wp_rg (by omega) (wp_if (fun c => ?_) (fun c => ?_)))
      · refine wp_bn (w_x12_setsEntry hRS hb (by omega) h2 h3) (fun s11 e11 h11 => ?_)
        obtain ⟨hR11, u11⟩ := h11
        obtain ⟨b1, z1, ⟨v1, k1⟩, r1⟩ := M_set (b := p0.toNat) (k := p1.toNat) (by omega) u11
        have y11 := Rz hR11 hb48
        refine wp_rdIn (by omega) (fun y12 e12 => ?_)
        have e12' : (hM s11).2.1 p0.toNat = y12 := by
          rw [← e12]; show gA s11 49 (20 + 16 * p0.toNat) = _; congr 1; omega
        refine wp_inb (by omega) (wp_stn (fun s14 e14 => ?_))
        have hR14 : Rr s14 := e14 ▸ Rr.uAu hR11 (by show (-2147483648 : Int) ≤ y12 + 1 ∧ y12 + 1 ≤ 2147483647; omega)
        have u14 : gA s14 49 = upZ (gA s11 49) (20 + 16 * p0.toNat) (y12 + 1) := by
          rw [(q_AA e14 : gA s14 49 = _), show (17 + 16 * p0 + 3).toNat = 20 + 16 * p0.toNat by omega]
        obtain ⟨b2, z2, r2⟩ := M_size u14
        refine wp_some ⟨hR14, BX_t hB (BX_t b1 b2), by rw [z2]; omega, fun j hj => ?_, ⟨by rw [(r2 _).1]; exact v1, by rw [(r2 _).2]; exact k1⟩, fun j hj hn => ?_⟩
        · rw [(r2 j).1, (r2 j).2, (r1 j (by omega)).1, (r1 j (by omega)).2]; exact hlo j (by omega)
        · rw [(r2 _).1, (r2 _).2, (r1 (j + 1) (by omega)).1, (r1 (j + 1) (by omega)).2]; exact hhi j (by omega) hn
      · refine wp_bn (w_x12_keyAt hRS hb (by omega)) (fun r16 e16 h16 => ?_)
        refine wp_bn (w_x12_valueAt hRS hb (by omega)) (fun r18 e18 h18 => ?_)
        refine wp_bn (w_x12_setsEntry hRS hb (by omega) h16.2 h18.2) (fun s20 e20 h20 => ?_)
        obtain ⟨hR20, u20⟩ := h20
        obtain ⟨b1, z1, ⟨v1, k1⟩, r1⟩ := M_set (b := p0.toNat) (k := x5.toNat) (by omega) u20
        have lo1 := hlo (x5 - 1).toNat (by omega)
        refine ih (x5 + (-1)) s20 hR20 (by omega) (BX_t hB b1) (by rw [z1]; exact hsz) (fun j hj => ?_) (fun j hj hn => ?_) (by omega)
        · rw [(r1 j (by omega)).1, (r1 j (by omega)).2]; exact hlo j (by omega)
        · by_cases q : j + 1 = x5.toNat
          · rw [q, v1, k1, h18.1, h16.1, lo1.1, lo1.2, show (x5 - 1).toNat = j by omega]; exact ⟨rfl, rfl⟩
          · rw [(r1 _ q).1, (r1 _ q).2]; exact hhi j (by omega) hn
    unfold m_x12_inserts
    refine wp_bn (w_x12_entriesOf hRs hb) (fun r22 e22 h22 => ?_)
    rw [h22.1]
    exact L7 FU _ s hRs (by omega) (BX_0 s _) rfl (fun j _ => ⟨rfl, rfl⟩) (fun j h1 h2 => by omega) (by have := FU_big; omega)
  exact wp_eq key (fun o eo ho => ⟨ho.1, fr_x12_inserts eo, ho.2⟩)
/-- an entry is cut -/
def DelE (s o : MS) (b k : Nat) : Prop := BX s o b ∧ (hM o).2.1 b = (hM s).2.1 b - 1 ∧ (∀ j, j < k → (hM o).2.2 b j = (hM s).2.2 b j ∧ kM o b j = kM s b j) ∧ (∀ j, k ≤ j → (j : Int) < (hM s).2.1 b - 1 → (hM o).2.2 b j = (hM s).2.2 b (j + 1) ∧ kM o b j = kM s b (j + 1))
theorem w_x12_cutsEntry {p0 p1 : Int} {s : MS} (hRs : Rr s) (hb : 0 ≤ p0 ∧ p0 < 48) (hk : 0 ≤ p1 ∧ p1 ≤ (hM s).2.1 p0.toNat) (hz : 1 ≤ (hM s).2.1 p0.toNat ∧ (hM s).2.1 p0.toNat ≤ 6) : wp (m_x12_cutsEntry p0 p1 s) (fun o => Rr o ∧ F_x12_cutsEntry s o ∧ ∃ k : Nat, (k : Int) < (hM s).2.1 p0.toNat ∧ (p1 < (hM s).2.1 p0.toNat → k = p1.toNat) ∧ DelE s o p0.toNat k) := by
  have hb48 : p0.toNat < 48 := by omega
  have key : wp (m_x12_cutsEntry p0 p1 s) (fun o => Rr o ∧ ∃ k : Nat, (k : Int) < (hM s).2.1 p0.toNat ∧ (p1 < (hM s).2.1 p0.toNat → k = p1.toNat) ∧ DelE s o p0.toNat k) := by
    have L2 : ∀ (n : Nat) (x2 : Int) (S : MS), Rr S → (p1 ≤ x2 ∧ x2 ≤ (hM s).2.1 p0.toNat ∧ (x2 = p1 ∨ x2 < (hM s).2.1 p0.toNat)) → BX s S p0.toNat → (hM S).2.1 p0.toNat = (hM s).2.1 p0.toNat → (∀ j : Nat, (j : Int) < p1 ∨ x2 ≤ (j : Int) → (hM S).2.2 p0.toNat j = (hM s).2.2 p0.toNat j ∧ kM S p0.toNat j = kM s p0.toNat j) → (∀ j : Nat, p1 ≤ (j : Int) → (j : Int) < x2 → (hM S).2.2 p0.toNat j = (hM s).2.2 p0.toNat (j + 1) ∧ kM S p0.toNat j = kM s p0.toNat (j + 1)) → 7 - x2 < (n : Int) → wp (m_x12_cutsEntry_L2 n p0 x2 S) (fun o => Rr o ∧ ∃ k : Nat, (k : Int) < (hM s).2.1 p0.toNat ∧ (p1 < (hM s).2.1 p0.toNat → k = p1.toNat) ∧ DelE s o p0.toNat k) := by
      refine fr_ind (fun x2 S hRS hx hB hsz hlo hhi hm => by exfalso; omega) (fun n ih x2 S hRS hx hB hsz hlo hhi hm => ?_)
      show wp (m_x12_cutsEntry_b2 (m_x12_cutsEntry_L2 n) p0 x2 S) _
      unfold m_x12_cutsEntry_b2
      refine wp_bn (w_x12_entriesOf hRS hb) (fun r5 e5 h5 => ?_)
      have h5a : r5 = (hM s).2.1 p0.toNat := h5.1.trans hsz
      refine wp_rg (by omega) (wp_rg (by omega) (wp_if (fun c => ?_) (fun c => ?_)))
      · refine wp_rdIn (by omega) (fun y9 e9 => ?_)
        have e9' : (hM s).2.1 p0.toNat = y9 := by
          rw [← hsz, ← e9]; show gA S 49 (20 + 16 * p0.toNat) = _; congr 1; omega
        refine wp_inb (by omega) (wp_stn (fun s11 e11 => ?_))
        have hR11 : Rr s11 := e11 ▸ Rr.uAu hRS (by show (-2147483648 : Int) ≤ y9 - 1 ∧ y9 - 1 ≤ 2147483647; omega)
        have u11 : gA s11 49 = upZ (gA S 49) (20 + 16 * p0.toNat) (y9 - 1) := by
          rw [(q_AA e11 : gA s11 49 = _), show (17 + 16 * p0 + 3).toNat = 20 + 16 * p0.toNat by omega]
        obtain ⟨b2, z2, r2⟩ := M_size u11
        refine wp_inb (by omega) (wp_bo (Or.inr rfl) (wp_stn (fun s14 e14 => ?_)))
        have hR14 : Rr s14 := e14 ▸ Rr.uAu hR11 (by show (0 : Int) ≤ 1 ∧ (1 : Int) ≤ 1; omega)
        have u14 : gA s14 49 = gA s11 49 := q_Aa e14 (by decide)
        have hM14 : hM s14 = hM s11 := by unfold hM; rw [u14]
        have kM14 : kM s14 = kM s11 := by unfold kM; rw [u14]
        refine wp_some ⟨hR14, if p1 < (hM s).2.1 p0.toNat then p1.toNat else p1.toNat - 1, ?_, ?_, ?_, ?_, ?_, ?_⟩
        · split <;> omega
        · intro q; rw [if_pos q]
        · exact BX_t hB (BX_t b2 (fun i _ => by rw [u14]))
        · rw [hM14, z2]; omega
        · intro j hj
          rw [hM14, kM14, (r2 j).1, (r2 j).2]
          exact hlo j (by left; revert hj; split <;> omega)
        · intro j hj hn
          rw [hM14, kM14, (r2 j).1, (r2 j).2]
          refine hhi j (by revert hj; split <;> omega) (by omega)
      · refine wp_bn (w_x12_keyAt hRS hb (by omega)) (fun r16 e16 h16 => ?_)
        refine wp_bn (w_x12_valueAt hRS hb (by omega)) (fun r18 e18 h18 => ?_)
        refine wp_bn (w_x12_setsEntry hRS hb (by omega) h16.2 h18.2) (fun s20 e20 h20 => ?_)
        obtain ⟨hR20, u20⟩ := h20
        obtain ⟨b1, z1, ⟨v1, k1⟩, r1⟩ := M_set (b := p0.toNat) (k := x2.toNat) (by omega) u20
        have lo1 := hlo (x2 + 1).toNat (by omega)
        refine ih (x2 + 1) s20 hR20 (by omega) (BX_t hB b1) (by rw [z1]; exact hsz) (fun j hj => ?_) (fun j hj hn => ?_) (by omega)
        · rw [(r1 j (by omega)).1, (r1 j (by omega)).2]; exact hlo j (by omega)
        · by_cases q : j = x2.toNat
          · rw [q, v1, k1, h18.1, h16.1, lo1.1, lo1.2, show (x2 + 1).toNat = x2.toNat + 1 by omega]; exact ⟨rfl, rfl⟩
          · rw [(r1 _ q).1, (r1 _ q).2]; exact hhi j hj (by omega)
    unfold m_x12_cutsEntry
    exact L2 FU p1 s hRs (by omega) (BX_0 s _) rfl (fun j _ => ⟨rfl, rfl⟩) (fun j h1 h2 => by omega) (by have := FU_big; omega)
  exact wp_eq key (fun o eo ho => ⟨ho.1, fr_x12_cutsEntry eo, ho.2⟩)
/-! ===== codes run ===== -/
theorem fl_d (a b : Int) {B : Int} (h : (0 - B) ≤ a ∧ a ≤ B) : (0 - B) ≤ Int.tdiv a b ∧ Int.tdiv a b ≤ B := by
  have h1 := Int.natAbs_tdiv_le_natAbs a b
  omega
theorem fl_m (a b : Int) {B : Int} (h : (0 - B) ≤ a ∧ a ≤ B) : (0 - B) ≤ Int.tmod a b ∧ Int.tmod a b ≤ B := by
  have h1 := Int.natAbs_tmod a b
  have h2 := Nat.mod_le a.natAbs b.natAbs
  omega
theorem fl_x (a b : Int) {B : Int} (h : (0 - B) ≤ a ∧ a ≤ B) (h2 : (0 - B) ≤ b ∧ b ≤ B) (hB : B ≤ 3000000000) : R8 (a * b) := by
  have h3 := Int.natAbs_mul a b
  have h4 : a.natAbs * b.natAbs ≤ 3000000000 * 3000000000 := Nat.mul_le_mul (by omega) (by omega)
  constructor <;> omega
theorem fl_01 {a b : Int} (h : a = 0 ∨ a = 1) (h2 : b = 0 ∨ b = 1) : a * b = 0 ∨ a * b = 1 := by
  rcases h with h | h <;> rcases h2 with h2 | h2 <;> rw [h, h2] <;> decide
def rn (k H : Int) (f : Nat → Int) : Nat → Nat → Int → Int → Prop
  | 0, _, h, _ => h = H
  | m + 1, i, h, U => ∃ h' U', stq k (f i) h h' U U' ∧ rn k H f m (i + 1) h' U'
theorem rn_of {k G : Int} {f : Nat → Int} {n : Nat} {h T : Int} (H : hk k f n h T) : ∀ m, rn k G f m n h T → ∃ U, U ≤ 0 ∧ rn k G f (n + m) 0 0 U := by
  induction n generalizing h T with
  | zero =>
    intro m hm
    obtain ⟨h1, h2⟩ := H
    rw [h1] at hm
    exact ⟨T, h2, by rw [Nat.zero_add]; exact hm⟩
  | succ n ih =>
    intro m hm
    obtain ⟨g, U, h1, h2⟩ := H
    have := ih h1 (m + 1) ⟨h, T, h2, hm⟩
    rw [show n + 1 + m = n + (m + 1) by omega]
    exact this
theorem rn_0 {k : Int} {f : Nat → Int} {n : Nat} {h T : Int} (H : hk k f n h T) : ∃ U, U ≤ 0 ∧ rn k h f n 0 0 U := rn_of H 0 rfl
/-- the pile: numbers within B, the lowest U are tests -/
def PL (s : MS) (U B : Int) : Prop := (∀ j : Nat, (j : Int) < gI s 108 → (0 - B) ≤ gB s 107 j ∧ gB s 107 j ≤ B) ∧ (∀ j : Nat, (j : Int) < U → gB s 107 j = 0 ∨ gB s 107 j = 1)
theorem PL_push {s o : MS} {U U' B B' v : Int} (H : PL s U B) (h108 : gI o 108 = gI s 108 + 1) (h107 : gB o 107 = upZ (gB s 107) (gI s 108).toNat v) (h0 : 0 ≤ gI s 108) (hU : U ≤ gI s 108) (hB : B ≤ B') (hv : (0 - B') ≤ v ∧ v ≤ B') (hT : U' ≤ U ∨ (gI s 108 ≤ U ∧ U' ≤ gI s 108 + 1 ∧ (v = 0 ∨ v = 1))) : PL o U' B' := by
  refine ⟨fun j hj => ?_, fun j hj => ?_⟩
  · rw [h107]
    by_cases z : j = (gI s 108).toNat
    · rw [z, upZ_s]; exact hv
    · rw [upZ_n z]
      have := H.1 j (by omega)
      omega
  · rw [h107]
    by_cases z : j = (gI s 108).toNat
    · rw [z, upZ_s]
      rcases hT with q | q
      · omega
      · exact q.2.2
    · rw [upZ_n z]
      exact H.2 j (by omega)
theorem PL_join {s o : MS} {U U' B B' w : Int} (H : PL s U B) (h108 : gI o 108 = gI s 108 - 1) (h107 : gB o 107 = upZ (gB s 107) (gI s 108 - 2).toNat w) (h0 : 2 ≤ gI s 108) (hB : B ≤ B') (hv : (0 - B') ≤ w ∧ w ≤ B') (hT : (U' ≤ U ∧ U' ≤ gI s 108 - 2) ∨ (gI s 108 - 2 ≤ U ∧ U' ≤ gI s 108 - 1 ∧ (w = 0 ∨ w = 1))) : PL o U' B' := by
  refine ⟨fun j hj => ?_, fun j hj => ?_⟩
  · rw [h107]
    by_cases z : j = (gI s 108 - 2).toNat
    · rw [z, upZ_s]; exact hv
    · rw [upZ_n z]
      have := H.1 j (by omega)
      omega
  · rw [h107]
    by_cases z : j = (gI s 108 - 2).toNat
    · rw [z, upZ_s]
      rcases hT with q | q
      · omega
      · exact q.2.2
    · rw [upZ_n z]
      exact H.2 j (by omega)
theorem PL_top {s o : MS} {U U' B B' w : Int} (H : PL s U B) (h108 : gI o 108 = gI s 108) (h107 : gB o 107 = upZ (gB s 107) (gI s 108 - 1).toNat w) (h0 : 1 ≤ gI s 108) (hB : B ≤ B') (hv : (0 - B') ≤ w ∧ w ≤ B') (hT : (U' ≤ U ∧ U' ≤ gI s 108 - 1) ∨ (gI s 108 ≤ U ∧ U' ≤ gI s 108 ∧ (w = 0 ∨ w = 1))) : PL o U' B' := by
  refine ⟨fun j hj => ?_, fun j hj => ?_⟩
  · rw [h107]
    by_cases z : j = (gI s 108 - 1).toNat
    · rw [z, upZ_s]; exact hv
    · rw [upZ_n z]
      have := H.1 j (by omega)
      omega
  · rw [h107]
    by_cases z : j = (gI s 108 - 1).toNat
    · rw [z, upZ_s]
      rcases hT with q | q
      · omega
      · exact q.2.2
    · rw [upZ_n z]
      exact H.2 j (by omega)
/-- codes that stand can be run -/
def CE (s : MS) (w : Nat) : Prop := gA s 42 (3 + w) = -1 ∨ (0 ≤ gA s 42 (3 + w) ∧ gA s 42 (3 + w) ≤ gA s 43 (3 + w) ∧ gA s 43 (3 + w) ≤ 1600 ∧ ∃ T, hk (w : Int) (fun j => gA s 44 (1600 + (gA s 42 (3 + w)).toNat + j)) (gA s 43 (3 + w) - gA s 42 (3 + w)).toNat 1 T)
theorem CE_eq {s o : MS} {w : Nat} (H : CE s w) (h42 : gA o 42 = gA s 42) (h43 : gA o 43 = gA s 43) (h44 : gA o 44 = gA s 44) : CE o w := by
  unfold CE at H ⊢
  rw [h42, h43, h44]; exact H
set_option maxHeartbeats 1000000 in
theorem w_x12_qPuts {p0 : Int} {s : MS} (hRs : Rr s) (hp0 : gI s 108 < 1700) (hp1 : R8 p0) : wp (m_x12_qPuts p0 s) (fun o => (Rr o) ∧ (gI o 108 = gI s 108 + 1) ∧ (gB o 107 = upZ (gB s 107) (gI s 108).toNat p0)) := by
  unfold m_x12_qPuts
  refine wp_inb (by have : (0 : Int) ≤ gI s 108 ∧ gI s 108 ≤ 1700 := hRs.1 108; omega) ?_
  refine wp_stn (fun s2 es2 => ?_)
  have hRs2 : Rr s2 := es2 ▸ Rr.uBu hRs (by have : (0 : Int) ≤ gI s 108 ∧ gI s 108 ≤ 1700 := hRs.1 108; omega)
  refine wp_stn (fun s3 es3 => ?_)
  have hRs3 : Rr s3 := es3 ▸ Rr.uI hRs2 (by show (0 : Int) ≤ ((gI s2 108) + 1) ∧ ((gI s2 108) + 1) ≤ 1700; have : (0 : Int) ≤ gI s 108 ∧ gI s 108 ≤ 1700 := hRs.1 108; have : gI s2 108 = gI s 108 := q_Bi es2; omega)
  exact wp_some ⟨hRs3, by show gI s3 108 = gI s 108 + 1; have : (0 : Int) ≤ gI s 108 ∧ gI s 108 ≤ 1700 := hRs.1 108; have : gI s3 108 = (gI s2 108) + 1 := q_II es3; have : gI s2 108 = gI s 108 := q_Bi es2; omega, by rw [(q_Ib es3 : gB s3 107 = gB s2 107)]; exact q_BB es2⟩
set_option maxHeartbeats 1000000 in
theorem w_x12_qClip {p0 : Int} {s : MS} (hRs : Rr s) (hp0 : R8 p0) : wp (m_x12_qClip p0 s) (fun r => ((-1000000) ≤ r ∧ r ≤ 1000000)) := by
  unfold m_x12_qClip
  refine wp_rgL (by omega) ?_
  refine wp_if (fun c1 => ?_) (fun c1 => ?_)
  · skip
    refine wp_rgL (by omega) ?_
    refine wp_if (fun c2 => ?_) (fun c2 => ?_)
    · skip
      unfold m_x12_qClip_J29
      exact wp_some (by show (-1000000) ≤ p0 ∧ p0 ≤ 1000000; omega)
    · skip
      unfold m_x12_qClip_J29
      exact wp_some (by show (-1000000) ≤ (-1000000 : Int) ∧ (-1000000 : Int) ≤ 1000000; omega)
  · skip
    unfold m_x12_qClip_J29
    exact wp_some (by show (-1000000) ≤ (1000000 : Int) ∧ (1000000 : Int) ≤ 1000000; omega)
set_option maxHeartbeats 1000000 in
theorem w_x12_qFloor {p0 : Int} {p1 : Int} {B : Int} {s : MS} (hRs : Rr s) (hp0 : (0 - B) ≤ p0 ∧ p0 ≤ B) (hp1 : (0 - B) ≤ p1 ∧ p1 ≤ B) (hp2 : 1000000 ≤ B ∧ B ≤ 3000000000) : wp (m_x12_qFloor p0 p1 s) (fun r => ((0 - B - 1) ≤ r ∧ r ≤ B + 1)) := by
  have kd := fl_d p0 p1 hp0
  have km := fl_m p0 p1 hp0
  unfold m_x12_qFloor
  refine wp_rgL (by omega) ?_
  refine wp_if (fun c1 => ?_) (fun c1 => ?_)
  · skip
    exact wp_some (by show (0 - B - 1) ≤ (0 : Int) ∧ (0 : Int) ≤ B + 1; omega)
  · skip
    refine wp_dvL (by omega) ?_
    refine wp_dvL (by omega) ?_
    refine wp_rgL (by omega) ?_
    refine wp_if (fun c2 => ?_) (fun c2 => ?_)
    · skip
      unfold m_x12_qFloor_J53
      unfold m_x12_qFloor_J55
      exact wp_some (by show (0 - B - 1) ≤ (Int.tdiv p0 p1) ∧ (Int.tdiv p0 p1) ≤ B + 1; omega)
    · skip
      refine wp_rgL (by omega) ?_
      refine wp_if (fun c3 => ?_) (fun c3 => ?_)
      · skip
        unfold m_x12_qFloor_J32
        refine wp_rgL (by omega) ?_
        refine wp_if (fun c4 => ?_) (fun c4 => ?_)
        · skip
          unfold m_x12_qFloor_J43
          refine wp_rg (by omega) ?_
          refine wp_rg (by omega) ?_
          refine wp_if (fun c5 => ?_) (fun c5 => ?_)
          · skip
            unfold m_x12_qFloor_J53
            unfold m_x12_qFloor_J55
            exact wp_some (by show (0 - B - 1) ≤ (Int.tdiv p0 p1) ∧ (Int.tdiv p0 p1) ≤ B + 1; omega)
          · skip
            unfold m_x12_qFloor_J55
            exact wp_some (by show (0 - B - 1) ≤ ((Int.tdiv p0 p1) - 1) ∧ ((Int.tdiv p0 p1) - 1) ≤ B + 1; omega)
        · skip
          unfold m_x12_qFloor_J43
          refine wp_rg (by omega) ?_
          refine wp_rg (by omega) ?_
          refine wp_if (fun c6 => ?_) (fun c6 => ?_)
          · skip
            unfold m_x12_qFloor_J53
            unfold m_x12_qFloor_J55
            exact wp_some (by show (0 - B - 1) ≤ (Int.tdiv p0 p1) ∧ (Int.tdiv p0 p1) ≤ B + 1; omega)
          · skip
            unfold m_x12_qFloor_J55
            exact wp_some (by show (0 - B - 1) ≤ ((Int.tdiv p0 p1) - 1) ∧ ((Int.tdiv p0 p1) - 1) ≤ B + 1; omega)
      · skip
        unfold m_x12_qFloor_J32
        refine wp_rgL (by omega) ?_
        refine wp_if (fun c7 => ?_) (fun c7 => ?_)
        · skip
          unfold m_x12_qFloor_J43
          refine wp_rg (by omega) ?_
          refine wp_rg (by omega) ?_
          refine wp_if (fun c8 => ?_) (fun c8 => ?_)
          · skip
            unfold m_x12_qFloor_J53
            unfold m_x12_qFloor_J55
            exact wp_some (by show (0 - B - 1) ≤ (Int.tdiv p0 p1) ∧ (Int.tdiv p0 p1) ≤ B + 1; omega)
          · skip
            unfold m_x12_qFloor_J55
            exact wp_some (by show (0 - B - 1) ≤ ((Int.tdiv p0 p1) - 1) ∧ ((Int.tdiv p0 p1) - 1) ≤ B + 1; omega)
        · skip
          unfold m_x12_qFloor_J43
          refine wp_rg (by omega) ?_
          refine wp_rg (by omega) ?_
          refine wp_if (fun c9 => ?_) (fun c9 => ?_)
          · skip
            unfold m_x12_qFloor_J53
            unfold m_x12_qFloor_J55
            exact wp_some (by show (0 - B - 1) ≤ (Int.tdiv p0 p1) ∧ (Int.tdiv p0 p1) ≤ B + 1; omega)
          · skip
            unfold m_x12_qFloor_J55
            exact wp_some (by show (0 - B - 1) ≤ ((Int.tdiv p0 p1) - 1) ∧ ((Int.tdiv p0 p1) - 1) ≤ B + 1; omega)
set_option maxHeartbeats 1000000 in
theorem w_x12_qJoins {p0 : Int} {B : Int} {s : MS} (hRs : Rr s) (hp0 : 2 ≤ gI s 108 ∧ gI s 108 ≤ 1700) (hp1 : ∀ j : Nat, (j : Int) < gI s 108 → (0 - B) ≤ gB s 107 j ∧ gB s 107 j ≤ B) (hp2 : 1000000 ≤ B ∧ B ≤ 3000000000) (hp3 : 1 ≤ p0 ∧ p0 ≤ 11) (hp4 : p0 = 10 → (gB s 107 (gI s 108 - 1).toNat = 0 ∨ gB s 107 (gI s 108 - 1).toNat = 1) ∧ (gB s 107 (gI s 108 - 2).toNat = 0 ∨ gB s 107 (gI s 108 - 2).toNat = 1)) : wp (m_x12_qJoins p0 s) (fun o => (Rr o) ∧ (gI o 108 = gI s 108 - 1) ∧ (∃ w, gB o 107 = upZ (gB s 107) (gI s 108 - 2).toNat w ∧ ((0 - B - 1) ≤ w ∧ w ≤ B + 1) ∧ (7 ≤ p0 → w = 0 ∨ w = 1))) := by
  unfold m_x12_qJoins
  refine wp_rdLn (by have : (0 : Int) ≤ gI s 108 ∧ gI s 108 ≤ 1700 := hRs.1 108; omega) (fun yl26 eyl26 => ?_)
  have b26 := hp1 (gI s 108 - 1).toNat (by omega)
  rw [eyl26] at b26
  refine wp_rdLn (by have : (0 : Int) ≤ gI s 108 ∧ gI s 108 ≤ 1700 := hRs.1 108; omega) (fun yl27 eyl27 => ?_)
  have b27 := hp1 (gI s 108 - 2).toNat (by omega)
  rw [eyl27] at b27
  refine wp_stn (fun s28 es28 => ?_)
  have hRs28 : Rr s28 := es28 ▸ Rr.uI hRs (by show (0 : Int) ≤ ((gI s 108) - 2) ∧ ((gI s 108) - 2) ≤ 1700; have : (0 : Int) ≤ gI s 108 ∧ gI s 108 ≤ 1700 := hRs.1 108; omega)
  refine wp_rg (by have : (0 : Int) ≤ gI s 108 ∧ gI s 108 ≤ 1700 := hRs.1 108; omega) ?_
  refine wp_if (fun c1 => ?_) (fun c1 => ?_)
  · skip
    refine wp_bn (w_x12_qClip hRs28 (by show R8 (yl27 + yl26); have : (0 : Int) ≤ gI s 108 ∧ gI s 108 ≤ 1700 := hRs.1 108; omega)) (fun rl32 erl32 hrl32 => ?_)
    have hrl32_0 := hrl32
    have hrl32_0 : (-1000000) ≤ rl32 ∧ rl32 ≤ 1000000 := hrl32_0
    refine wp_bn (w_x12_qPuts hRs28 (by show gI s28 108 < 1700; have : (0 : Int) ≤ gI s 108 ∧ gI s 108 ≤ 1700 := hRs.1 108; have : gI s28 108 = (gI s 108) - 2 := q_II es28; omega) (by show R8 rl32; have : (0 : Int) ≤ gI s 108 ∧ gI s 108 ≤ 1700 := hRs.1 108; omega)) (fun s34 es34 hs34 => ?_)
    have Fs34 : F_x12_qPuts s28 s34 := fr_x12_qPuts es34
    obtain ⟨hRs34, hs34_0, hs34_1⟩ := hs34
    have hs34_0 : gI s34 108 = gI s28 108 + 1 := hs34_0
    have hs34_1 : gB s34 107 = upZ (gB s28 107) (gI s28 108).toNat rl32 := hs34_1
    unfold m_x12_qJoins_J273
    exact wp_some ⟨hRs34, by show gI s34 108 = gI s 108 - 1; have : gI s28 108 = (gI s 108) - 2 := q_II es28; have : (0 : Int) ≤ gI s 108 ∧ gI s 108 ≤ 1700 := hRs.1 108; have : (0 : Int) ≤ gI s34 108 ∧ gI s34 108 ≤ 1700 := hRs34.1 108; omega, ⟨_, by rw [hs34_1, (q_Ib es28 : gB s28 107 = gB s 107), (q_II es28 : gI s28 108 = gI s 108 - 2)], by omega, by omega⟩⟩
  · skip
    refine wp_if (fun c2 => ?_) (fun c2 => ?_)
    · skip
      refine wp_bn (w_x12_qClip hRs28 (by show R8 (yl27 - yl26); have : (0 : Int) ≤ gI s 108 ∧ gI s 108 ≤ 1700 := hRs.1 108; omega)) (fun rl37 erl37 hrl37 => ?_)
      have hrl37_0 := hrl37
      have hrl37_0 : (-1000000) ≤ rl37 ∧ rl37 ≤ 1000000 := hrl37_0
      refine wp_bn (w_x12_qPuts hRs28 (by show gI s28 108 < 1700; have : (0 : Int) ≤ gI s 108 ∧ gI s 108 ≤ 1700 := hRs.1 108; have : gI s28 108 = (gI s 108) - 2 := q_II es28; omega) (by show R8 rl37; have : (0 : Int) ≤ gI s 108 ∧ gI s 108 ≤ 1700 := hRs.1 108; omega)) (fun s39 es39 hs39 => ?_)
      have Fs39 : F_x12_qPuts s28 s39 := fr_x12_qPuts es39
      obtain ⟨hRs39, hs39_0, hs39_1⟩ := hs39
      have hs39_0 : gI s39 108 = gI s28 108 + 1 := hs39_0
      have hs39_1 : gB s39 107 = upZ (gB s28 107) (gI s28 108).toNat rl37 := hs39_1
      unfold m_x12_qJoins_J273
      exact wp_some ⟨hRs39, by show gI s39 108 = gI s 108 - 1; have : gI s28 108 = (gI s 108) - 2 := q_II es28; have : (0 : Int) ≤ gI s 108 ∧ gI s 108 ≤ 1700 := hRs.1 108; have : (0 : Int) ≤ gI s39 108 ∧ gI s39 108 ≤ 1700 := hRs39.1 108; omega, ⟨_, by rw [hs39_1, (q_Ib es28 : gB s28 107 = gB s 107), (q_II es28 : gI s28 108 = gI s 108 - 2)], by omega, by omega⟩⟩
    · skip
      refine wp_if (fun c3 => ?_) (fun c3 => ?_)
      · skip
        refine wp_bn (w_x12_qClip hRs28 (fl_x _ _ b27 b26 hp2.2)) (fun rl42 erl42 hrl42 => ?_)
        have hrl42_0 := hrl42
        have hrl42_0 : (-1000000) ≤ rl42 ∧ rl42 ≤ 1000000 := hrl42_0
        refine wp_bn (w_x12_qPuts hRs28 (by show gI s28 108 < 1700; have : (0 : Int) ≤ gI s 108 ∧ gI s 108 ≤ 1700 := hRs.1 108; have : gI s28 108 = (gI s 108) - 2 := q_II es28; omega) (by show R8 rl42; have : (0 : Int) ≤ gI s 108 ∧ gI s 108 ≤ 1700 := hRs.1 108; omega)) (fun s44 es44 hs44 => ?_)
        have Fs44 : F_x12_qPuts s28 s44 := fr_x12_qPuts es44
        obtain ⟨hRs44, hs44_0, hs44_1⟩ := hs44
        have hs44_0 : gI s44 108 = gI s28 108 + 1 := hs44_0
        have hs44_1 : gB s44 107 = upZ (gB s28 107) (gI s28 108).toNat rl42 := hs44_1
        unfold m_x12_qJoins_J273
        exact wp_some ⟨hRs44, by show gI s44 108 = gI s 108 - 1; have : gI s28 108 = (gI s 108) - 2 := q_II es28; have : (0 : Int) ≤ gI s 108 ∧ gI s 108 ≤ 1700 := hRs.1 108; have : (0 : Int) ≤ gI s44 108 ∧ gI s44 108 ≤ 1700 := hRs44.1 108; omega, ⟨_, by rw [hs44_1, (q_Ib es28 : gB s28 107 = gB s 107), (q_II es28 : gI s28 108 = gI s 108 - 2)], by omega, by omega⟩⟩
      · skip
        refine wp_if (fun c4 => ?_) (fun c4 => ?_)
        · skip
          refine wp_bn (w_x12_qFloor (B := B) hRs28 (by show (0 - B) ≤ yl27 ∧ yl27 ≤ B; have : (0 : Int) ≤ gI s 108 ∧ gI s 108 ≤ 1700 := hRs.1 108; omega) (by show (0 - B) ≤ yl26 ∧ yl26 ≤ B; have : (0 : Int) ≤ gI s 108 ∧ gI s 108 ≤ 1700 := hRs.1 108; omega) (by show 1000000 ≤ B ∧ B ≤ 3000000000; have : (0 : Int) ≤ gI s 108 ∧ gI s 108 ≤ 1700 := hRs.1 108; omega)) (fun rl47 erl47 hrl47 => ?_)
          have hrl47_0 := hrl47
          have hrl47_0 : (0 - B - 1) ≤ rl47 ∧ rl47 ≤ B + 1 := hrl47_0
          refine wp_bn (w_x12_qPuts hRs28 (by show gI s28 108 < 1700; have : (0 : Int) ≤ gI s 108 ∧ gI s 108 ≤ 1700 := hRs.1 108; have : gI s28 108 = (gI s 108) - 2 := q_II es28; omega) (by show R8 rl47; have : (0 : Int) ≤ gI s 108 ∧ gI s 108 ≤ 1700 := hRs.1 108; omega)) (fun s49 es49 hs49 => ?_)
          have Fs49 : F_x12_qPuts s28 s49 := fr_x12_qPuts es49
          obtain ⟨hRs49, hs49_0, hs49_1⟩ := hs49
          have hs49_0 : gI s49 108 = gI s28 108 + 1 := hs49_0
          have hs49_1 : gB s49 107 = upZ (gB s28 107) (gI s28 108).toNat rl47 := hs49_1
          unfold m_x12_qJoins_J273
          exact wp_some ⟨hRs49, by show gI s49 108 = gI s 108 - 1; have : gI s28 108 = (gI s 108) - 2 := q_II es28; have : (0 : Int) ≤ gI s 108 ∧ gI s 108 ≤ 1700 := hRs.1 108; have : (0 : Int) ≤ gI s49 108 ∧ gI s49 108 ≤ 1700 := hRs49.1 108; omega, ⟨_, by rw [hs49_1, (q_Ib es28 : gB s28 107 = gB s 107), (q_II es28 : gI s28 108 = gI s 108 - 2)], by omega, by omega⟩⟩
        · skip
          refine wp_if (fun c5 => ?_) (fun c5 => ?_)
          · skip
            refine wp_rgL (by have : (0 : Int) ≤ gI s 108 ∧ gI s 108 ≤ 1700 := hRs.1 108; omega) ?_
            refine wp_rgL (by have : (0 : Int) ≤ gI s 108 ∧ gI s 108 ≤ 1700 := hRs.1 108; omega) ?_
            refine wp_if (fun c6 => ?_) (fun c6 => ?_)
            · skip
              unfold m_x12_qJoins_J161
              refine wp_bn (w_x12_qPuts hRs28 (by show gI s28 108 < 1700; have : (0 : Int) ≤ gI s 108 ∧ gI s 108 ≤ 1700 := hRs.1 108; have : gI s28 108 = (gI s 108) - 2 := q_II es28; omega) (by show R8 yl26; have : (0 : Int) ≤ gI s 108 ∧ gI s 108 ≤ 1700 := hRs.1 108; omega)) (fun s25 es25 hs25 => ?_)
              have Fs25 : F_x12_qPuts s28 s25 := fr_x12_qPuts es25
              obtain ⟨hRs25, hs25_0, hs25_1⟩ := hs25
              have hs25_0 : gI s25 108 = gI s28 108 + 1 := hs25_0
              have hs25_1 : gB s25 107 = upZ (gB s28 107) (gI s28 108).toNat yl26 := hs25_1
              unfold m_x12_qJoins_J273
              exact wp_some ⟨hRs25, by show gI s25 108 = gI s 108 - 1; have : gI s28 108 = (gI s 108) - 2 := q_II es28; have : (0 : Int) ≤ gI s 108 ∧ gI s 108 ≤ 1700 := hRs.1 108; have : (0 : Int) ≤ gI s25 108 ∧ gI s25 108 ≤ 1700 := hRs25.1 108; omega, ⟨_, by rw [hs25_1, (q_Ib es28 : gB s28 107 = gB s 107), (q_II es28 : gI s28 108 = gI s 108 - 2)], by omega, by omega⟩⟩
            · skip
              unfold m_x12_qJoins_J161
              refine wp_bn (w_x12_qPuts hRs28 (by show gI s28 108 < 1700; have : (0 : Int) ≤ gI s 108 ∧ gI s 108 ≤ 1700 := hRs.1 108; have : gI s28 108 = (gI s 108) - 2 := q_II es28; omega) (by show R8 yl27; have : (0 : Int) ≤ gI s 108 ∧ gI s 108 ≤ 1700 := hRs.1 108; omega)) (fun s25 es25 hs25 => ?_)
              have Fs25 : F_x12_qPuts s28 s25 := fr_x12_qPuts es25
              obtain ⟨hRs25, hs25_0, hs25_1⟩ := hs25
              have hs25_0 : gI s25 108 = gI s28 108 + 1 := hs25_0
              have hs25_1 : gB s25 107 = upZ (gB s28 107) (gI s28 108).toNat yl27 := hs25_1
              unfold m_x12_qJoins_J273
              exact wp_some ⟨hRs25, by show gI s25 108 = gI s 108 - 1; have : gI s28 108 = (gI s 108) - 2 := q_II es28; have : (0 : Int) ≤ gI s 108 ∧ gI s 108 ≤ 1700 := hRs.1 108; have : (0 : Int) ≤ gI s25 108 ∧ gI s25 108 ≤ 1700 := hRs25.1 108; omega, ⟨_, by rw [hs25_1, (q_Ib es28 : gB s28 107 = gB s 107), (q_II es28 : gI s28 108 = gI s 108 - 2)], by omega, by omega⟩⟩
          · skip
            refine wp_if (fun c7 => ?_) (fun c7 => ?_)
            · skip
              refine wp_rgL (by have : (0 : Int) ≤ gI s 108 ∧ gI s 108 ≤ 1700 := hRs.1 108; omega) ?_
              refine wp_rgL (by have : (0 : Int) ≤ gI s 108 ∧ gI s 108 ≤ 1700 := hRs.1 108; omega) ?_
              refine wp_if (fun c8 => ?_) (fun c8 => ?_)
              · skip
                unfold m_x12_qJoins_J181
                refine wp_bn (w_x12_qPuts hRs28 (by show gI s28 108 < 1700; have : (0 : Int) ≤ gI s 108 ∧ gI s 108 ≤ 1700 := hRs.1 108; have : gI s28 108 = (gI s 108) - 2 := q_II es28; omega) (by show R8 yl26; have : (0 : Int) ≤ gI s 108 ∧ gI s 108 ≤ 1700 := hRs.1 108; omega)) (fun s21 es21 hs21 => ?_)
                have Fs21 : F_x12_qPuts s28 s21 := fr_x12_qPuts es21
                obtain ⟨hRs21, hs21_0, hs21_1⟩ := hs21
                have hs21_0 : gI s21 108 = gI s28 108 + 1 := hs21_0
                have hs21_1 : gB s21 107 = upZ (gB s28 107) (gI s28 108).toNat yl26 := hs21_1
                unfold m_x12_qJoins_J273
                exact wp_some ⟨hRs21, by show gI s21 108 = gI s 108 - 1; have : gI s28 108 = (gI s 108) - 2 := q_II es28; have : (0 : Int) ≤ gI s 108 ∧ gI s 108 ≤ 1700 := hRs.1 108; have : (0 : Int) ≤ gI s21 108 ∧ gI s21 108 ≤ 1700 := hRs21.1 108; omega, ⟨_, by rw [hs21_1, (q_Ib es28 : gB s28 107 = gB s 107), (q_II es28 : gI s28 108 = gI s 108 - 2)], by omega, by omega⟩⟩
              · skip
                unfold m_x12_qJoins_J181
                refine wp_bn (w_x12_qPuts hRs28 (by show gI s28 108 < 1700; have : (0 : Int) ≤ gI s 108 ∧ gI s 108 ≤ 1700 := hRs.1 108; have : gI s28 108 = (gI s 108) - 2 := q_II es28; omega) (by show R8 yl27; have : (0 : Int) ≤ gI s 108 ∧ gI s 108 ≤ 1700 := hRs.1 108; omega)) (fun s21 es21 hs21 => ?_)
                have Fs21 : F_x12_qPuts s28 s21 := fr_x12_qPuts es21
                obtain ⟨hRs21, hs21_0, hs21_1⟩ := hs21
                have hs21_0 : gI s21 108 = gI s28 108 + 1 := hs21_0
                have hs21_1 : gB s21 107 = upZ (gB s28 107) (gI s28 108).toNat yl27 := hs21_1
                unfold m_x12_qJoins_J273
                exact wp_some ⟨hRs21, by show gI s21 108 = gI s 108 - 1; have : gI s28 108 = (gI s 108) - 2 := q_II es28; have : (0 : Int) ≤ gI s 108 ∧ gI s 108 ≤ 1700 := hRs.1 108; have : (0 : Int) ≤ gI s21 108 ∧ gI s21 108 ≤ 1700 := hRs21.1 108; omega, ⟨_, by rw [hs21_1, (q_Ib es28 : gB s28 107 = gB s 107), (q_II es28 : gI s28 108 = gI s 108 - 2)], by omega, by omega⟩⟩
            · skip
              refine wp_if (fun c9 => ?_) (fun c9 => ?_)
              · skip
                refine wp_rgL (by have : (0 : Int) ≤ gI s 108 ∧ gI s 108 ≤ 1700 := hRs.1 108; omega) ?_
                refine wp_rgL (by have : (0 : Int) ≤ gI s 108 ∧ gI s 108 ≤ 1700 := hRs.1 108; omega) ?_
                refine wp_if (fun c10 => ?_) (fun c10 => ?_)
                · skip
                  unfold m_x12_qJoins_J200
                  refine wp_bn (w_x12_qPuts hRs28 (by show gI s28 108 < 1700; have : (0 : Int) ≤ gI s 108 ∧ gI s 108 ≤ 1700 := hRs.1 108; have : gI s28 108 = (gI s 108) - 2 := q_II es28; omega) (by show R8 (0 : Int); have : (0 : Int) ≤ gI s 108 ∧ gI s 108 ≤ 1700 := hRs.1 108; omega)) (fun s17 es17 hs17 => ?_)
                  have Fs17 : F_x12_qPuts s28 s17 := fr_x12_qPuts es17
                  obtain ⟨hRs17, hs17_0, hs17_1⟩ := hs17
                  have hs17_0 : gI s17 108 = gI s28 108 + 1 := hs17_0
                  have hs17_1 : gB s17 107 = upZ (gB s28 107) (gI s28 108).toNat (0 : Int) := hs17_1
                  unfold m_x12_qJoins_J273
                  exact wp_some ⟨hRs17, by show gI s17 108 = gI s 108 - 1; have : gI s28 108 = (gI s 108) - 2 := q_II es28; have : (0 : Int) ≤ gI s 108 ∧ gI s 108 ≤ 1700 := hRs.1 108; have : (0 : Int) ≤ gI s17 108 ∧ gI s17 108 ≤ 1700 := hRs17.1 108; omega, ⟨_, by rw [hs17_1, (q_Ib es28 : gB s28 107 = gB s 107), (q_II es28 : gI s28 108 = gI s 108 - 2)], by omega, by omega⟩⟩
                · skip
                  unfold m_x12_qJoins_J200
                  refine wp_bn (w_x12_qPuts hRs28 (by show gI s28 108 < 1700; have : (0 : Int) ≤ gI s 108 ∧ gI s 108 ≤ 1700 := hRs.1 108; have : gI s28 108 = (gI s 108) - 2 := q_II es28; omega) (by show R8 (1 : Int); have : (0 : Int) ≤ gI s 108 ∧ gI s 108 ≤ 1700 := hRs.1 108; omega)) (fun s17 es17 hs17 => ?_)
                  have Fs17 : F_x12_qPuts s28 s17 := fr_x12_qPuts es17
                  obtain ⟨hRs17, hs17_0, hs17_1⟩ := hs17
                  have hs17_0 : gI s17 108 = gI s28 108 + 1 := hs17_0
                  have hs17_1 : gB s17 107 = upZ (gB s28 107) (gI s28 108).toNat (1 : Int) := hs17_1
                  unfold m_x12_qJoins_J273
                  exact wp_some ⟨hRs17, by show gI s17 108 = gI s 108 - 1; have : gI s28 108 = (gI s 108) - 2 := q_II es28; have : (0 : Int) ≤ gI s 108 ∧ gI s 108 ≤ 1700 := hRs.1 108; have : (0 : Int) ≤ gI s17 108 ∧ gI s17 108 ≤ 1700 := hRs17.1 108; omega, ⟨_, by rw [hs17_1, (q_Ib es28 : gB s28 107 = gB s 107), (q_II es28 : gI s28 108 = gI s 108 - 2)], by omega, by omega⟩⟩
              · skip
                refine wp_if (fun c11 => ?_) (fun c11 => ?_)
                · skip
                  refine wp_rgL (by have : (0 : Int) ≤ gI s 108 ∧ gI s 108 ≤ 1700 := hRs.1 108; omega) ?_
                  refine wp_rgL (by have : (0 : Int) ≤ gI s 108 ∧ gI s 108 ≤ 1700 := hRs.1 108; omega) ?_
                  refine wp_if (fun c12 => ?_) (fun c12 => ?_)
                  · skip
                    unfold m_x12_qJoins_J219
                    refine wp_bn (w_x12_qPuts hRs28 (by show gI s28 108 < 1700; have : (0 : Int) ≤ gI s 108 ∧ gI s 108 ≤ 1700 := hRs.1 108; have : gI s28 108 = (gI s 108) - 2 := q_II es28; omega) (by show R8 (0 : Int); have : (0 : Int) ≤ gI s 108 ∧ gI s 108 ≤ 1700 := hRs.1 108; omega)) (fun s13 es13 hs13 => ?_)
                    have Fs13 : F_x12_qPuts s28 s13 := fr_x12_qPuts es13
                    obtain ⟨hRs13, hs13_0, hs13_1⟩ := hs13
                    have hs13_0 : gI s13 108 = gI s28 108 + 1 := hs13_0
                    have hs13_1 : gB s13 107 = upZ (gB s28 107) (gI s28 108).toNat (0 : Int) := hs13_1
                    unfold m_x12_qJoins_J273
                    exact wp_some ⟨hRs13, by show gI s13 108 = gI s 108 - 1; have : gI s28 108 = (gI s 108) - 2 := q_II es28; have : (0 : Int) ≤ gI s 108 ∧ gI s 108 ≤ 1700 := hRs.1 108; have : (0 : Int) ≤ gI s13 108 ∧ gI s13 108 ≤ 1700 := hRs13.1 108; omega, ⟨_, by rw [hs13_1, (q_Ib es28 : gB s28 107 = gB s 107), (q_II es28 : gI s28 108 = gI s 108 - 2)], by omega, by omega⟩⟩
                  · skip
                    unfold m_x12_qJoins_J219
                    refine wp_bn (w_x12_qPuts hRs28 (by show gI s28 108 < 1700; have : (0 : Int) ≤ gI s 108 ∧ gI s 108 ≤ 1700 := hRs.1 108; have : gI s28 108 = (gI s 108) - 2 := q_II es28; omega) (by show R8 (1 : Int); have : (0 : Int) ≤ gI s 108 ∧ gI s 108 ≤ 1700 := hRs.1 108; omega)) (fun s13 es13 hs13 => ?_)
                    have Fs13 : F_x12_qPuts s28 s13 := fr_x12_qPuts es13
                    obtain ⟨hRs13, hs13_0, hs13_1⟩ := hs13
                    have hs13_0 : gI s13 108 = gI s28 108 + 1 := hs13_0
                    have hs13_1 : gB s13 107 = upZ (gB s28 107) (gI s28 108).toNat (1 : Int) := hs13_1
                    unfold m_x12_qJoins_J273
                    exact wp_some ⟨hRs13, by show gI s13 108 = gI s 108 - 1; have : gI s28 108 = (gI s 108) - 2 := q_II es28; have : (0 : Int) ≤ gI s 108 ∧ gI s 108 ≤ 1700 := hRs.1 108; have : (0 : Int) ≤ gI s13 108 ∧ gI s13 108 ≤ 1700 := hRs13.1 108; omega, ⟨_, by rw [hs13_1, (q_Ib es28 : gB s28 107 = gB s 107), (q_II es28 : gI s28 108 = gI s 108 - 2)], by omega, by omega⟩⟩
                · skip
                  refine wp_if (fun c13 => ?_) (fun c13 => ?_)
                  · skip
                    refine wp_rgL (by have : (0 : Int) ≤ gI s 108 ∧ gI s 108 ≤ 1700 := hRs.1 108; omega) ?_
                    refine wp_rgL (by have : (0 : Int) ≤ gI s 108 ∧ gI s 108 ≤ 1700 := hRs.1 108; omega) ?_
                    refine wp_if (fun c14 => ?_) (fun c14 => ?_)
                    · skip
                      unfold m_x12_qJoins_J238
                      refine wp_bn (w_x12_qPuts hRs28 (by show gI s28 108 < 1700; have : (0 : Int) ≤ gI s 108 ∧ gI s 108 ≤ 1700 := hRs.1 108; have : gI s28 108 = (gI s 108) - 2 := q_II es28; omega) (by show R8 (1 : Int); have : (0 : Int) ≤ gI s 108 ∧ gI s 108 ≤ 1700 := hRs.1 108; omega)) (fun s9 es9 hs9 => ?_)
                      have Fs9 : F_x12_qPuts s28 s9 := fr_x12_qPuts es9
                      obtain ⟨hRs9, hs9_0, hs9_1⟩ := hs9
                      have hs9_0 : gI s9 108 = gI s28 108 + 1 := hs9_0
                      have hs9_1 : gB s9 107 = upZ (gB s28 107) (gI s28 108).toNat (1 : Int) := hs9_1
                      unfold m_x12_qJoins_J273
                      exact wp_some ⟨hRs9, by show gI s9 108 = gI s 108 - 1; have : gI s28 108 = (gI s 108) - 2 := q_II es28; have : (0 : Int) ≤ gI s 108 ∧ gI s 108 ≤ 1700 := hRs.1 108; have : (0 : Int) ≤ gI s9 108 ∧ gI s9 108 ≤ 1700 := hRs9.1 108; omega, ⟨_, by rw [hs9_1, (q_Ib es28 : gB s28 107 = gB s 107), (q_II es28 : gI s28 108 = gI s 108 - 2)], by omega, by omega⟩⟩
                    · skip
                      unfold m_x12_qJoins_J238
                      refine wp_bn (w_x12_qPuts hRs28 (by show gI s28 108 < 1700; have : (0 : Int) ≤ gI s 108 ∧ gI s 108 ≤ 1700 := hRs.1 108; have : gI s28 108 = (gI s 108) - 2 := q_II es28; omega) (by show R8 (0 : Int); have : (0 : Int) ≤ gI s 108 ∧ gI s 108 ≤ 1700 := hRs.1 108; omega)) (fun s9 es9 hs9 => ?_)
                      have Fs9 : F_x12_qPuts s28 s9 := fr_x12_qPuts es9
                      obtain ⟨hRs9, hs9_0, hs9_1⟩ := hs9
                      have hs9_0 : gI s9 108 = gI s28 108 + 1 := hs9_0
                      have hs9_1 : gB s9 107 = upZ (gB s28 107) (gI s28 108).toNat (0 : Int) := hs9_1
                      unfold m_x12_qJoins_J273
                      exact wp_some ⟨hRs9, by show gI s9 108 = gI s 108 - 1; have : gI s28 108 = (gI s 108) - 2 := q_II es28; have : (0 : Int) ≤ gI s 108 ∧ gI s 108 ≤ 1700 := hRs.1 108; have : (0 : Int) ≤ gI s9 108 ∧ gI s9 108 ≤ 1700 := hRs9.1 108; omega, ⟨_, by rw [hs9_1, (q_Ib es28 : gB s28 107 = gB s 107), (q_II es28 : gI s28 108 = gI s 108 - 2)], by omega, by omega⟩⟩
                  · skip
                    refine wp_if (fun c15 => ?_) (fun c15 => ?_)
                    · skip
                      refine wp_bn (w_x12_qPuts hRs28 (by show gI s28 108 < 1700; have : (0 : Int) ≤ gI s 108 ∧ gI s 108 ≤ 1700 := hRs.1 108; have : gI s28 108 = (gI s 108) - 2 := q_II es28; omega) (fl_x _ _ b27 b26 hp2.2)) (fun s72 es72 hs72 => ?_)
                      have Fs72 : F_x12_qPuts s28 s72 := fr_x12_qPuts es72
                      obtain ⟨hRs72, hs72_0, hs72_1⟩ := hs72
                      have hs72_0 : gI s72 108 = gI s28 108 + 1 := hs72_0
                      have hs72_1 : gB s72 107 = upZ (gB s28 107) (gI s28 108).toNat (yl27 * yl26) := hs72_1
                      unfold m_x12_qJoins_J273
                      exact wp_some ⟨hRs72, by show gI s72 108 = gI s 108 - 1; have : gI s28 108 = (gI s 108) - 2 := q_II es28; have : (0 : Int) ≤ gI s 108 ∧ gI s 108 ≤ 1700 := hRs.1 108; have : (0 : Int) ≤ gI s72 108 ∧ gI s72 108 ≤ 1700 := hRs72.1 108; omega, by have z := hp4 (by omega); rw [eyl26, eyl27] at z; have zz := fl_01 z.2 z.1; exact ⟨_, by rw [hs72_1, (q_Ib es28 : gB s28 107 = gB s 107), (q_II es28 : gI s28 108 = gI s 108 - 2)], by omega, fun _ => zz⟩⟩
                    · skip
                      refine wp_rgL (by have : (0 : Int) ≤ gI s 108 ∧ gI s 108 ≤ 1700 := hRs.1 108; omega) ?_
                      refine wp_if (fun c16 => ?_) (fun c16 => ?_)
                      · skip
                        unfold m_x12_qJoins_J270
                        refine wp_bn (w_x12_qPuts hRs28 (by show gI s28 108 < 1700; have : (0 : Int) ≤ gI s 108 ∧ gI s 108 ≤ 1700 := hRs.1 108; have : gI s28 108 = (gI s 108) - 2 := q_II es28; omega) (by show R8 (0 : Int); have : (0 : Int) ≤ gI s 108 ∧ gI s 108 ≤ 1700 := hRs.1 108; omega)) (fun s5 es5 hs5 => ?_)
                        have Fs5 : F_x12_qPuts s28 s5 := fr_x12_qPuts es5
                        obtain ⟨hRs5, hs5_0, hs5_1⟩ := hs5
                        have hs5_0 : gI s5 108 = gI s28 108 + 1 := hs5_0
                        have hs5_1 : gB s5 107 = upZ (gB s28 107) (gI s28 108).toNat (0 : Int) := hs5_1
                        unfold m_x12_qJoins_J273
                        exact wp_some ⟨hRs5, by show gI s5 108 = gI s 108 - 1; have : gI s28 108 = (gI s 108) - 2 := q_II es28; have : (0 : Int) ≤ gI s 108 ∧ gI s 108 ≤ 1700 := hRs.1 108; have : (0 : Int) ≤ gI s5 108 ∧ gI s5 108 ≤ 1700 := hRs5.1 108; omega, ⟨_, by rw [hs5_1, (q_Ib es28 : gB s28 107 = gB s 107), (q_II es28 : gI s28 108 = gI s 108 - 2)], by omega, by omega⟩⟩
                      · skip
                        unfold m_x12_qJoins_J270
                        refine wp_bn (w_x12_qPuts hRs28 (by show gI s28 108 < 1700; have : (0 : Int) ≤ gI s 108 ∧ gI s 108 ≤ 1700 := hRs.1 108; have : gI s28 108 = (gI s 108) - 2 := q_II es28; omega) (by show R8 (1 : Int); have : (0 : Int) ≤ gI s 108 ∧ gI s 108 ≤ 1700 := hRs.1 108; omega)) (fun s5 es5 hs5 => ?_)
                        have Fs5 : F_x12_qPuts s28 s5 := fr_x12_qPuts es5
                        obtain ⟨hRs5, hs5_0, hs5_1⟩ := hs5
                        have hs5_0 : gI s5 108 = gI s28 108 + 1 := hs5_0
                        have hs5_1 : gB s5 107 = upZ (gB s28 107) (gI s28 108).toNat (1 : Int) := hs5_1
                        unfold m_x12_qJoins_J273
                        exact wp_some ⟨hRs5, by show gI s5 108 = gI s 108 - 1; have : gI s28 108 = (gI s 108) - 2 := q_II es28; have : (0 : Int) ≤ gI s 108 ∧ gI s 108 ≤ 1700 := hRs.1 108; have : (0 : Int) ≤ gI s5 108 ∧ gI s5 108 ≤ 1700 := hRs5.1 108; omega, ⟨_, by rw [hs5_1, (q_Ib es28 : gB s28 107 = gB s 107), (q_II es28 : gI s28 108 = gI s 108 - 2)], by omega, by omega⟩⟩
set_option maxHeartbeats 1000000 in
theorem w_x12_qPartOf {p0 : Int} {p1 : Int} {s : MS} (hRs : Rr s) (hp0 : R2 p0) : wp (m_x12_qPartOf p0 p1 s) (fun r => (R2 r)) := by
  unfold m_x12_qPartOf
  refine wp_rg (by omega) ?_
  refine wp_if (fun c1 => ?_) (fun c1 => ?_)
  · skip
    refine wp_rg (by have : (0 : Int) ≤ gI s 52 ∧ gI s 52 ≤ 1000 := hRs.1 52; omega) ?_
    exact wp_some (by show R2 (gI s 52); have : (0 : Int) ≤ gI s 52 ∧ gI s 52 ≤ 1000 := hRs.1 52; omega)
  · skip
    refine wp_if (fun c2 => ?_) (fun c2 => ?_)
    · skip
      refine wp_rg (by have : (0 : Int) ≤ gI s 50 ∧ gI s 50 ≤ 47 := hRs.1 50; omega) ?_
      exact wp_some (by show R2 (gI s 50); have : (0 : Int) ≤ gI s 50 ∧ gI s 50 ≤ 47 := hRs.1 50; omega)
    · skip
      refine wp_if (fun c3 => ?_) (fun c3 => ?_)
      · skip
        refine wp_rg (by have : (0 : Int) ≤ gI s 51 ∧ gI s 51 ≤ 48 := hRs.1 51; omega) ?_
        exact wp_some (by show R2 (gI s 51); have : (0 : Int) ≤ gI s 51 ∧ gI s 51 ≤ 48 := hRs.1 51; omega)
      · skip
        refine wp_if (fun c4 => ?_) (fun c4 => ?_)
        · skip
          refine wp_rg (by have : (0 : Int) ≤ gI s 53 ∧ gI s 53 ≤ 6 := hRs.1 53; omega) ?_
          exact wp_some (by show R2 (gI s 53); have : (0 : Int) ≤ gI s 53 ∧ gI s 53 ≤ 6 := hRs.1 53; omega)
        · skip
          refine wp_if (fun c5 => ?_) (fun c5 => ?_)
          · skip
            refine wp_rg (by have : (0 : Int) ≤ gI s 50 ∧ gI s 50 ≤ 47 := hRs.1 50; omega) ?_
            exact wp_some (by show R2 (gI s 50); have : (0 : Int) ≤ gI s 50 ∧ gI s 50 ≤ 47 := hRs.1 50; omega)
          · skip
            refine wp_if (fun c6 => ?_) (fun c6 => ?_)
            · skip
              refine wp_bn (w_x12_countOf hRs (by show 0 ≤ (gI s 50) ∧ (gI s 50) < 48; have : (0 : Int) ≤ gI s 50 ∧ gI s 50 ≤ 47 := hRs.1 50; have : (0 : Int) ≤ gI s 50 ∧ gI s 50 ≤ 47 := hRs.1 50; omega)) (fun r15 er15 hr15 => ?_)
              obtain ⟨hr15_0, hr15_1⟩ := hr15
              have hr15_0 : r15 = cM s (gI s 50).toNat := hr15_0
              have hr15_1 : R2 r15 := hr15_1
              refine wp_rg (by have : (0 : Int) ≤ gI s 50 ∧ gI s 50 ≤ 47 := hRs.1 50; omega) ?_
              exact wp_some (by show R2 r15; have : (0 : Int) ≤ gI s 50 ∧ gI s 50 ≤ 47 := hRs.1 50; omega)
            · skip
              refine wp_if (fun c7 => ?_) (fun c7 => ?_)
              · skip
                refine wp_bn (w_x12_isFresh hRs (by show 0 ≤ (gI s 50) ∧ (gI s 50) < 48; have : (0 : Int) ≤ gI s 50 ∧ gI s 50 ≤ 47 := hRs.1 50; omega)) (fun r19 er19 hr19 => ?_)
                have hr19_0 := hr19
                have hr19_0 : (r19 = 1 ∧ 0 < cM s (gI s 50).toNat ∧ vM s (gI s 50).toNat = 0) ∨ (r19 = 0 ∧ (cM s (gI s 50).toNat ≤ 0 ∨ vM s (gI s 50).toNat ≠ 0)) := hr19_0
                refine wp_rg (by have : (0 : Int) ≤ gI s 50 ∧ gI s 50 ≤ 47 := hRs.1 50; omega) ?_
                refine wp_if (fun c8 => ?_) (fun c8 => ?_)
                · skip
                  unfold m_x12_qPartOf_J100
                  exact wp_some (by show R2 (0 : Int); have : (0 : Int) ≤ gI s 50 ∧ gI s 50 ≤ 47 := hRs.1 50; omega)
                · skip
                  unfold m_x12_qPartOf_J100
                  exact wp_some (by show R2 (1 : Int); have : (0 : Int) ≤ gI s 50 ∧ gI s 50 ≤ 47 := hRs.1 50; omega)
              · skip
                refine wp_bn (w_x12_savedOf hRs (by show 0 ≤ (gI s 50) ∧ (gI s 50) < 48; have : (0 : Int) ≤ gI s 50 ∧ gI s 50 ≤ 47 := hRs.1 50; omega)) (fun r23 er23 hr23 => ?_)
                obtain ⟨hr23_0, hr23_1⟩ := hr23
                have hr23_0 : r23 = vM s (gI s 50).toNat := hr23_0
                have hr23_1 : R2 r23 := hr23_1
                refine wp_rg (by have : (0 : Int) ≤ gI s 50 ∧ gI s 50 ≤ 47 := hRs.1 50; omega) ?_
                exact wp_some (by show R2 r23; have : (0 : Int) ≤ gI s 50 ∧ gI s 50 ≤ 47 := hRs.1 50; omega)
set_option maxHeartbeats 1000000 in
theorem w_x12_isBlock {p0 : Int} {s : MS} (hRs : Rr s) (hp0 : R8 p0) (hp1 : 0 ≤ gA s 39 5 ∧ gA s 39 5 ≤ 48) : wp (m_x12_isBlock p0 s) (fun r => ((r = 1 ∧ 0 ≤ p0 ∧ p0 < gA s 39 5) ∨ (r = 0 ∧ (p0 < 0 ∨ gA s 39 5 ≤ p0)))) := by
  unfold m_x12_isBlock
  refine wp_bn (w_x12_blockMany hRs) (fun r2 er2 hr2 => ?_)
  have hr2_0 := hr2
  have hr2_0 : r2 = gA s 39 5 := hr2_0
  refine wp_rg (by omega) ?_
  refine wp_bn (w_x12_isIn hRs (by show R8 p0; omega) (by show R8 (0 : Int); omega) (by show R8 (r2 - 1); omega)) (fun r5 er5 hr5 => ?_)
  have hr5_0 := hr5
  have hr5_0 : (r5 = 1 ∧ (0 : Int) ≤ p0 ∧ p0 ≤ (r2 - 1)) ∨ (r5 = 0 ∧ (p0 < (0 : Int) ∨ (r2 - 1) < p0)) := hr5_0
  refine wp_bo (by omega) ?_
  exact wp_some (by show (r5 = 1 ∧ 0 ≤ p0 ∧ p0 < gA s 39 5) ∨ (r5 = 0 ∧ (p0 < 0 ∨ gA s 39 5 ≤ p0)); omega)
set_option maxHeartbeats 1000000 in
theorem w_x12_qOf {p0 : Int} {p1 : Int} {p2 : Int} {s : MS} (hRs : Rr s) (hp0 : R2 p0) (hp1 : R8 p1) (hp2 : 0 ≤ gA s 39 5 ∧ gA s 39 5 ≤ 48) : wp (m_x12_qOf p0 p1 p2 s) (fun r => (R2 r)) := by
  unfold m_x12_qOf
  refine wp_rg (by omega) ?_
  refine wp_if (fun c1 => ?_) (fun c1 => ?_)
  · skip
    refine wp_bn (w_x12_isBlock hRs (by show R8 p1; omega) (by show 0 ≤ gA s 39 5 ∧ gA s 39 5 ≤ 48; omega)) (fun r6 er6 hr6 => ?_)
    have hr6_0 := hr6
    have hr6_0 : (r6 = 1 ∧ 0 ≤ p1 ∧ p1 < gA s 39 5) ∨ (r6 = 0 ∧ (p1 < 0 ∨ gA s 39 5 ≤ p1)) := hr6_0
    refine wp_rg (by omega) ?_
    refine wp_if (fun c2 => ?_) (fun c2 => ?_)
    · skip
      unfold m_x12_qOf_J39
      exact wp_some (by show R2 (0 : Int); omega)
    · skip
      refine wp_bn (w_x12_countOf hRs (by show 0 ≤ p1 ∧ p1 < 48; omega)) (fun r10 er10 hr10 => ?_)
      obtain ⟨hr10_0, hr10_1⟩ := hr10
      have hr10_0 : r10 = cM s p1.toNat := hr10_0
      have hr10_1 : R2 r10 := hr10_1
      refine wp_rg (by omega) ?_
      unfold m_x12_qOf_J39
      exact wp_some (by show R2 r10; omega)
  · skip
    refine wp_bn (w_x12_isBlock hRs (by show R8 p1; omega) (by show 0 ≤ gA s 39 5 ∧ gA s 39 5 ≤ 48; omega)) (fun r13 er13 hr13 => ?_)
    have hr13_0 := hr13
    have hr13_0 : (r13 = 1 ∧ 0 ≤ p1 ∧ p1 < gA s 39 5) ∨ (r13 = 0 ∧ (p1 < 0 ∨ gA s 39 5 ≤ p1)) := hr13_0
    refine wp_rg (by omega) ?_
    refine wp_if (fun c3 => ?_) (fun c3 => ?_)
    · skip
      unfold m_x12_qOf_J68
      unfold m_x12_qOf_J69
      exact wp_some (by show R2 (0 : Int); omega)
    · skip
      refine wp_bn (w_x12_isUsed hRs (by show 0 ≤ p1 ∧ p1 < 48; omega)) (fun r17 er17 hr17 => ?_)
      have hr17_0 := hr17
      have hr17_0 : (r17 = 1 ∧ 0 < cM s p1.toNat) ∨ (r17 = 0 ∧ cM s p1.toNat ≤ 0) := hr17_0
      refine wp_rg (by omega) ?_
      refine wp_if (fun c4 => ?_) (fun c4 => ?_)
      · skip
        unfold m_x12_qOf_J68
        unfold m_x12_qOf_J69
        exact wp_some (by show R2 (0 : Int); omega)
      · skip
        refine wp_bn (w_x12_keyAt hRs (by show 0 ≤ p1 ∧ p1 < 48; omega) (by show 0 ≤ (0 : Int) ∧ (0 : Int) < 6; omega)) (fun r21 er21 hr21 => ?_)
        obtain ⟨hr21_0, hr21_1⟩ := hr21
        have hr21_0 : r21 = kM s p1.toNat (0 : Int).toNat := hr21_0
        have hr21_1 : R2 r21 := hr21_1
        refine wp_rg (by omega) ?_
        unfold m_x12_qOf_J69
        exact wp_some (by show R2 r21; omega)
set_option maxHeartbeats 4000000 in
theorem w_x12_codesTell {p0 : Int} {s : MS} (hRs : Rr s) (hp0 : 0 ≤ p0 ∧ p0 ≤ 2) (hp1 : CE s p0.toNat) (hp2 : gA s 42 (3 + p0.toNat) ≠ -1) : wp (m_x12_codesTell p0 s) (fun q => (Rr q.2) ∧ (R8 q.1)) := by
  obtain ⟨q1, q2, q3, T, q4⟩ := hp1.resolve_left hp2
  rw [show ((p0.toNat : Nat) : Int) = p0 by omega] at q4
  obtain ⟨U0, u1, u2⟩ := rn_0 q4
  unfold m_x12_codesTell
  refine wp_stn (fun s35 es35 => ?_)
  have hRs35 : Rr s35 := es35 ▸ Rr.uI hRs (by show (0 : Int) ≤ p0 ∧ p0 ≤ 3; omega)
  refine wp_stn (fun s36 es36 => ?_)
  have hRs36 : Rr s36 := es36 ▸ Rr.uI hRs35 (by show (0 : Int) ≤ (0 : Int) ∧ (0 : Int) ≤ 1700; omega)
  refine wp_rdIn (by omega) (fun y37 ey37 => ?_)
  have by37 : (-1 : Int) ≤ y37 ∧ y37 ≤ 1600 := ey37 ▸ hRs36.2.1 42 _ (by show _ < 6; omega)
  have k37 : gA s 42 (3 + p0.toNat) = y37 := by rw [← ey37, ((q_Ia es36 : gA s36 42 = gA s35 42).trans (q_Ia es35 : gA s35 42 = gA s 42))]; congr 1; omega
  have L19 : ∀ (n : Nat) (x1 : Int) (x2 : Int) (s3 : MS), Rr s3 → (x1 = p0 ∧ gA s 42 (3 + p0.toNat) ≤ x2 ∧ x2 ≤ gA s 43 (3 + p0.toNat)) → (gA s3 42 = gA s 42 ∧ gA s3 43 = gA s 43 ∧ gA s3 44 = gA s 44) → (∃ U, rn p0 1 (fun j => gA s 44 (1600 + (gA s 42 (3 + p0.toNat)).toNat + j)) (gA s 43 (3 + p0.toNat) - x2).toNat (x2 - gA s 42 (3 + p0.toNat)).toNat (gI s3 108) U ∧ U ≤ gI s3 108 ∧ PL s3 U (2147483648 + (x2 - gA s 42 (3 + p0.toNat))) ∧ (0 ≤ gI s3 108 ∧ gI s3 108 ≤ x2 - gA s 42 (3 + p0.toNat))) → (1600 - x2) < (n : Int) → wp (m_x12_codesTell_L19 n x1 x2 s3) (fun q => (Rr q.2) ∧ (R8 q.1)) := by
    refine fr_ind (fun x1 x2 s3 hRs3 hv19_0 hv19_1 hv19_2 hm19 => ?_) (fun n19 ih19 x1 x2 s3 hRs3 hv19_0 hv19_1 hv19_2 hm19 => ?_)
    · exfalso; have : (0 : Int) ≤ gI s3 108 ∧ gI s3 108 ≤ 1700 := hRs3.1 108; omega
    · show wp (m_x12_codesTell_b19 (m_x12_codesTell_L19 n19) x1 x2 s3) _
      unfold m_x12_codesTell_b19
      refine wp_rdIn (by have : (0 : Int) ≤ gI s3 108 ∧ gI s3 108 ≤ 1700 := hRs3.1 108; omega) (fun y7 ey7 => ?_)
      have by7 : (0 : Int) ≤ y7 ∧ y7 ≤ 1600 := ey7 ▸ hRs3.2.1 43 _ (by show _ < 6; have : (0 : Int) ≤ gI s3 108 ∧ gI s3 108 ≤ 1700 := hRs3.1 108; omega)
      have k7 : gA s 43 (3 + p0.toNat) = y7 := by rw [← ey7, hv19_1.2.1]; congr 1; omega
      refine wp_rg (by have : (0 : Int) ≤ gI s3 108 ∧ gI s3 108 ≤ 1700 := hRs3.1 108; omega) ?_
      refine wp_rg (by have : (0 : Int) ≤ gI s3 108 ∧ gI s3 108 ≤ 1700 := hRs3.1 108; omega) ?_
      refine wp_if (fun c1 => ?_) (fun c1 => ?_)
      · skip
        refine wp_rdLn (by have : (0 : Int) ≤ gI s3 108 ∧ gI s3 108 ≤ 1700 := hRs3.1 108; omega) (fun yl11 eyl11 => ?_)
        have kyl : R8 yl11 := eyl11 ▸ hRs3.2.2.2 107 _
        exact wp_some ⟨hRs3, by show R8 yl11; have : (0 : Int) ≤ gI s3 108 ∧ gI s3 108 ≤ 1700 := hRs3.1 108; omega⟩
      · skip
        obtain ⟨U, hrn, hU, hP, hh⟩ := hv19_2
        rw [show (gA s 43 (3 + p0.toNat) - x2).toNat = (gA s 43 (3 + p0.toNat) - (x2 + 1)).toNat + 1 by omega] at hrn
        obtain ⟨g1, U1, st1, hr1⟩ := hrn
        refine wp_rdIn (by have : (0 : Int) ≤ gI s3 108 ∧ gI s3 108 ≤ 1700 := hRs3.1 108; omega) (fun y12 ey12 => ?_)
        have by12 : (0 : Int) ≤ y12 ∧ y12 ≤ 10999 := ey12 ▸ hRs3.2.1 44 _ (by show _ < 3200; have : (0 : Int) ≤ gI s3 108 ∧ gI s3 108 ≤ 1700 := hRs3.1 108; omega)
        have kf : (fun j => gA s 44 (1600 + (gA s 42 (3 + p0.toNat)).toNat + j)) (x2 - gA s 42 (3 + p0.toNat)).toNat = y12 := by show gA s 44 (1600 + (gA s 42 (3 + p0.toNat)).toNat + (x2 - gA s 42 (3 + p0.toNat)).toNat) = y12; rw [← ey12, hv19_1.2.2]; congr 1; omega
        rw [kf] at st1
        have sp := st1.1
        have tp := st1.2.1
        have sk := st1.2.2
        unfold stp at sp
        unfold tpd at tp
        refine wp_rg (by have : (0 : Int) ≤ gI s3 108 ∧ gI s3 108 ≤ 1700 := hRs3.1 108; omega) ?_
        refine wp_if (fun c2 => ?_) (fun c2 => ?_)
        · skip
          refine wp_rg (by have : (0 : Int) ≤ gI s3 108 ∧ gI s3 108 ≤ 1700 := hRs3.1 108; omega) ?_
          refine wp_if (fun c3 => ?_) (fun c3 => ?_)
          · skip
            refine wp_rg (by have : (0 : Int) ≤ gI s3 108 ∧ gI s3 108 ≤ 1700 := hRs3.1 108; omega) ?_
            refine wp_if (fun c4 => ?_) (fun c4 => ?_)
            · skip
              refine wp_bn (w_x12_qPuts hRs3 (by show gI s3 108 < 1700; have : (0 : Int) ≤ gI s3 108 ∧ gI s3 108 ≤ 1700 := hRs3.1 108; omega) (by show R8 (1 : Int); have : (0 : Int) ≤ gI s3 108 ∧ gI s3 108 ≤ 1700 := hRs3.1 108; omega)) (fun s27 es27 hs27 => ?_)
              have Fs27 : F_x12_qPuts s3 s27 := fr_x12_qPuts es27
              obtain ⟨hRs27, hs27_0, hs27_1⟩ := hs27
              have hs27_0 : gI s27 108 = gI s3 108 + 1 := hs27_0
              have hs27_1 : gB s27 107 = upZ (gB s3 107) (gI s3 108).toNat (1 : Int) := hs27_1
              unfold m_x12_codesTell_J136
              exact ih19 x1 (x2 + 1) s27 hRs27 (by show x1 = p0 ∧ gA s 42 (3 + p0.toNat) ≤ (x2 + 1) ∧ (x2 + 1) ≤ gA s 43 (3 + p0.toNat); have : (0 : Int) ≤ gI s27 108 ∧ gI s27 108 ≤ 1700 := hRs27.1 108; have : (0 : Int) ≤ gI s3 108 ∧ gI s3 108 ≤ 1700 := hRs3.1 108; omega) (⟨((Fs27.2.1 42 (by decide))).trans hv19_1.1, ((Fs27.2.1 43 (by decide))).trans hv19_1.2.1, ((Fs27.2.1 44 (by decide))).trans hv19_1.2.2⟩) (by
        have z8 : gI s27 108 = g1 := by have : (0 : Int) ≤ gI s3 108 ∧ gI s3 108 ≤ 1700 := hRs3.1 108; have : (0 : Int) ≤ gI s27 108 ∧ gI s27 108 ≤ 1700 := hRs27.1 108; omega
        refine ⟨U1, by rw [z8, show (x2 + 1 - gA s 42 (3 + p0.toNat)).toNat = (x2 - gA s 42 (3 + p0.toNat)).toNat + 1 by omega]; exact hr1, by omega, ?_, by omega⟩
        exact PL_push hP hs27_0 hs27_1 (by omega) (by omega) (by omega) (by omega) (by omega)) (by have : (0 : Int) ≤ gI s27 108 ∧ gI s27 108 ≤ 1700 := hRs27.1 108; have : (0 : Int) ≤ gI s3 108 ∧ gI s3 108 ≤ 1700 := hRs3.1 108; omega)
            · skip
              refine wp_rg (by have : (0 : Int) ≤ gI s3 108 ∧ gI s3 108 ≤ 1700 := hRs3.1 108; omega) ?_
              refine wp_if (fun c5 => ?_) (fun c5 => ?_)
              · skip
                refine wp_rdLn (by have : (0 : Int) ≤ gI s3 108 ∧ gI s3 108 ≤ 1700 := hRs3.1 108; omega) (fun yl23 eyl23 => ?_)
                have k23 := hP.1 (gI s3 108 - 1).toNat (by omega)
                rw [eyl23] at k23
                refine wp_inb (by have : (0 : Int) ≤ gI s3 108 ∧ gI s3 108 ≤ 1700 := hRs3.1 108; omega) ?_
                refine wp_stn (fun s25 es25 => ?_)
                have hRs25 : Rr s25 := es25 ▸ Rr.uBu hRs3 (by have : (0 : Int) ≤ gI s3 108 ∧ gI s3 108 ≤ 1700 := hRs3.1 108; omega)
                unfold m_x12_codesTell_J136
                exact ih19 x1 (x2 + 1) s25 hRs25 (by show x1 = p0 ∧ gA s 42 (3 + p0.toNat) ≤ (x2 + 1) ∧ (x2 + 1) ≤ gA s 43 (3 + p0.toNat); have : (0 : Int) ≤ gI s3 108 ∧ gI s3 108 ≤ 1700 := hRs3.1 108; omega) (⟨((q_Ba es25 : gA s25 42 = gA s3 42)).trans hv19_1.1, ((q_Ba es25 : gA s25 43 = gA s3 43)).trans hv19_1.2.1, ((q_Ba es25 : gA s25 44 = gA s3 44)).trans hv19_1.2.2⟩) (by
        have z8 : gI s25 108 = g1 := by have : (0 : Int) ≤ gI s3 108 ∧ gI s3 108 ≤ 1700 := hRs3.1 108; have : gI s25 108 = gI s3 108 := q_Bi es25; omega
        refine ⟨U1, by rw [z8, show (x2 + 1 - gA s 42 (3 + p0.toNat)).toNat = (x2 - gA s 42 (3 + p0.toNat)).toNat + 1 by omega]; exact hr1, by omega, ?_, by omega⟩
        have kt : yl23 = 0 ∨ yl23 = 1 := by rw [← eyl23]; exact hP.2 _ (by omega)
        exact PL_top (w := 1 - yl23) hP (q_Bi es25 : gI s25 108 = gI s3 108) (q_BB es25) (by omega) (by omega) (by omega) (by omega)) (by have : (0 : Int) ≤ gI s3 108 ∧ gI s3 108 ≤ 1700 := hRs3.1 108; omega)
              · skip
                refine wp_bn (w_x12_qJoins (B := 2147483648 + (x2 - gA s 42 (3 + p0.toNat))) hRs3 (by show 2 ≤ gI s3 108 ∧ gI s3 108 ≤ 1700; have : (0 : Int) ≤ gI s3 108 ∧ gI s3 108 ≤ 1700 := hRs3.1 108; omega) (hP.1) (by show 1000000 ≤ (2147483648 + (x2 - gA s 42 (3 + p0.toNat))) ∧ (2147483648 + (x2 - gA s 42 (3 + p0.toNat))) ≤ 3000000000; have : (0 : Int) ≤ gI s3 108 ∧ gI s3 108 ≤ 1700 := hRs3.1 108; omega) (by show 1 ≤ y12 ∧ y12 ≤ 11; have : (0 : Int) ≤ gI s3 108 ∧ gI s3 108 ≤ 1700 := hRs3.1 108; omega) (fun h10 => ⟨by have z := hP.2 (gI s3 108 - 1).toNat (by omega); exact z, by have z := hP.2 (gI s3 108 - 2).toNat (by omega); exact z⟩)) (fun s22 es22 hs22 => ?_)
                have Fs22 : F_x12_qJoins s3 s22 := fr_x12_qJoins es22
                obtain ⟨hRs22, hs22_0, hs22_1⟩ := hs22
                have hs22_0 : gI s22 108 = gI s3 108 - 1 := hs22_0
                have hs22_1 : ∃ w, gB s22 107 = upZ (gB s3 107) (gI s3 108 - 2).toNat w ∧ ((0 - (2147483648 + (x2 - gA s 42 (3 + p0.toNat))) - 1) ≤ w ∧ w ≤ (2147483648 + (x2 - gA s 42 (3 + p0.toNat))) + 1) ∧ (7 ≤ y12 → w = 0 ∨ w = 1) := hs22_1
                unfold m_x12_codesTell_J136
                exact ih19 x1 (x2 + 1) s22 hRs22 (by show x1 = p0 ∧ gA s 42 (3 + p0.toNat) ≤ (x2 + 1) ∧ (x2 + 1) ≤ gA s 43 (3 + p0.toNat); have : (0 : Int) ≤ gI s22 108 ∧ gI s22 108 ≤ 1700 := hRs22.1 108; have : (0 : Int) ≤ gI s3 108 ∧ gI s3 108 ≤ 1700 := hRs3.1 108; omega) (⟨((Fs22.2.1 42 (by decide))).trans hv19_1.1, ((Fs22.2.1 43 (by decide))).trans hv19_1.2.1, ((Fs22.2.1 44 (by decide))).trans hv19_1.2.2⟩) (by
        have z8 : gI s22 108 = g1 := by have : (0 : Int) ≤ gI s3 108 ∧ gI s3 108 ≤ 1700 := hRs3.1 108; have : (0 : Int) ≤ gI s22 108 ∧ gI s22 108 ≤ 1700 := hRs22.1 108; omega
        refine ⟨U1, by rw [z8, show (x2 + 1 - gA s 42 (3 + p0.toNat)).toNat = (x2 - gA s 42 (3 + p0.toNat)).toNat + 1 by omega]; exact hr1, by omega, ?_, by omega⟩
        obtain ⟨w, w1, w2, w3⟩ := hs22_1
        exact PL_join hP hs22_0 w1 (by omega) (by omega) (by omega) (by omega)) (by have : (0 : Int) ≤ gI s22 108 ∧ gI s22 108 ≤ 1700 := hRs22.1 108; have : (0 : Int) ≤ gI s3 108 ∧ gI s3 108 ≤ 1700 := hRs3.1 108; omega)
          · skip
            refine wp_bn (w_x12_qPartOf hRs3 (by show R2 (y12 - 40); have : (0 : Int) ≤ gI s3 108 ∧ gI s3 108 ≤ 1700 := hRs3.1 108; omega)) (fun rl29 erl29 hrl29 => ?_)
            have hrl29_0 := hrl29
            have hrl29_0 : R2 rl29 := hrl29_0
            refine wp_bn (w_x12_qPuts hRs3 (by show gI s3 108 < 1700; have : (0 : Int) ≤ gI s3 108 ∧ gI s3 108 ≤ 1700 := hRs3.1 108; omega) (by show R8 rl29; have : (0 : Int) ≤ gI s3 108 ∧ gI s3 108 ≤ 1700 := hRs3.1 108; omega)) (fun s31 es31 hs31 => ?_)
            have Fs31 : F_x12_qPuts s3 s31 := fr_x12_qPuts es31
            obtain ⟨hRs31, hs31_0, hs31_1⟩ := hs31
            have hs31_0 : gI s31 108 = gI s3 108 + 1 := hs31_0
            have hs31_1 : gB s31 107 = upZ (gB s3 107) (gI s3 108).toNat rl29 := hs31_1
            unfold m_x12_codesTell_J136
            exact ih19 x1 (x2 + 1) s31 hRs31 (by show x1 = p0 ∧ gA s 42 (3 + p0.toNat) ≤ (x2 + 1) ∧ (x2 + 1) ≤ gA s 43 (3 + p0.toNat); have : (0 : Int) ≤ gI s31 108 ∧ gI s31 108 ≤ 1700 := hRs31.1 108; have : (0 : Int) ≤ gI s3 108 ∧ gI s3 108 ≤ 1700 := hRs3.1 108; omega) (⟨((Fs31.2.1 42 (by decide))).trans hv19_1.1, ((Fs31.2.1 43 (by decide))).trans hv19_1.2.1, ((Fs31.2.1 44 (by decide))).trans hv19_1.2.2⟩) (by
        have z8 : gI s31 108 = g1 := by have : (0 : Int) ≤ gI s3 108 ∧ gI s3 108 ≤ 1700 := hRs3.1 108; have : (0 : Int) ≤ gI s31 108 ∧ gI s31 108 ≤ 1700 := hRs31.1 108; omega
        refine ⟨U1, by rw [z8, show (x2 + 1 - gA s 42 (3 + p0.toNat)).toNat = (x2 - gA s 42 (3 + p0.toNat)).toNat + 1 by omega]; exact hr1, by omega, ?_, by omega⟩
        exact PL_push hP hs31_0 hs31_1 (by omega) (by omega) (by omega) (by omega) (by omega)) (by have : (0 : Int) ≤ gI s31 108 ∧ gI s31 108 ≤ 1700 := hRs31.1 108; have : (0 : Int) ≤ gI s3 108 ∧ gI s3 108 ≤ 1700 := hRs3.1 108; omega)
        · skip
          refine wp_rg (by have : (0 : Int) ≤ gI s3 108 ∧ gI s3 108 ≤ 1700 := hRs3.1 108; omega) ?_
          refine wp_bn (w_x12_qPuts hRs3 (by show gI s3 108 < 1700; have : (0 : Int) ≤ gI s3 108 ∧ gI s3 108 ≤ 1700 := hRs3.1 108; omega) (by show R8 (y12 - 1000); have : (0 : Int) ≤ gI s3 108 ∧ gI s3 108 ≤ 1700 := hRs3.1 108; omega)) (fun s34 es34 hs34 => ?_)
          have Fs34 : F_x12_qPuts s3 s34 := fr_x12_qPuts es34
          obtain ⟨hRs34, hs34_0, hs34_1⟩ := hs34
          have hs34_0 : gI s34 108 = gI s3 108 + 1 := hs34_0
          have hs34_1 : gB s34 107 = upZ (gB s3 107) (gI s3 108).toNat (y12 - 1000) := hs34_1
          unfold m_x12_codesTell_J136
          exact ih19 x1 (x2 + 1) s34 hRs34 (by show x1 = p0 ∧ gA s 42 (3 + p0.toNat) ≤ (x2 + 1) ∧ (x2 + 1) ≤ gA s 43 (3 + p0.toNat); have : (0 : Int) ≤ gI s34 108 ∧ gI s34 108 ≤ 1700 := hRs34.1 108; have : (0 : Int) ≤ gI s3 108 ∧ gI s3 108 ≤ 1700 := hRs3.1 108; omega) (⟨((Fs34.2.1 42 (by decide))).trans hv19_1.1, ((Fs34.2.1 43 (by decide))).trans hv19_1.2.1, ((Fs34.2.1 44 (by decide))).trans hv19_1.2.2⟩) (by
        have z8 : gI s34 108 = g1 := by have : (0 : Int) ≤ gI s3 108 ∧ gI s3 108 ≤ 1700 := hRs3.1 108; have : (0 : Int) ≤ gI s34 108 ∧ gI s34 108 ≤ 1700 := hRs34.1 108; omega
        refine ⟨U1, by rw [z8, show (x2 + 1 - gA s 42 (3 + p0.toNat)).toNat = (x2 - gA s 42 (3 + p0.toNat)).toNat + 1 by omega]; exact hr1, by omega, ?_, by omega⟩
        exact PL_push hP hs34_0 hs34_1 (by omega) (by omega) (by omega) (by omega) (by omega)) (by have : (0 : Int) ≤ gI s34 108 ∧ gI s34 108 ≤ 1700 := hRs34.1 108; have : (0 : Int) ≤ gI s3 108 ∧ gI s3 108 ≤ 1700 := hRs3.1 108; omega)
  exact L19 FU p0 y37 s36 hRs36 (⟨rfl, by omega, by omega⟩) (⟨((q_Ia es36 : gA s36 42 = gA s35 42).trans (q_Ia es35 : gA s35 42 = gA s 42)), ((q_Ia es36 : gA s36 43 = gA s35 43).trans (q_Ia es35 : gA s35 43 = gA s 43)), ((q_Ia es36 : gA s36 44 = gA s35 44).trans (q_Ia es35 : gA s35 44 = gA s 44))⟩) (⟨U0, by rw [(q_II es36 : gI s36 108 = 0), ← k37, show (gA s 42 (3 + p0.toNat) - gA s 42 (3 + p0.toNat)).toNat = 0 by omega]; exact u2, by rw [(q_II es36 : gI s36 108 = 0)]; exact u1, ⟨fun j hj => by rw [(q_II es36 : gI s36 108 = 0)] at hj; omega, fun j hj => by omega⟩, by rw [(q_II es36 : gI s36 108 = 0)]; omega⟩) (by have := FU_big; have := FU_big2; omega)
set_option maxHeartbeats 4000000 in
theorem w_x12_qTold {p0 : Int} {s : MS} (hRs : Rr s) (hp0 : R2 p0) (hp1 : ∃ T, hk 3 (gA s 101) (gI s 102).toNat 1 T) (hp2 : 0 ≤ gA s 39 5 ∧ gA s 39 5 ≤ 48) : wp (m_x12_qTold p0 s) (fun q => (Rr q.2) ∧ ((-3000000000) ≤ q.1 ∧ q.1 ≤ 3000000000)) := by
  obtain ⟨T, q4⟩ := hp1
  obtain ⟨U0, u1, u2⟩ := rn_0 q4
  have r102 : (0 : Int) ≤ gI s 102 ∧ gI s 102 ≤ 1700 := hRs.1 102
  unfold m_x12_qTold
  refine wp_stn (fun s45 es45 => ?_)
  have hRs45 : Rr s45 := es45 ▸ Rr.uI hRs (by show (0 : Int) ≤ (0 : Int) ∧ (0 : Int) ≤ 1700; have : (0 : Int) ≤ gI s 102 ∧ gI s 102 ≤ 1700 := hRs.1 102; omega)
  have L7 : ∀ (n : Nat) (x1 : Int) (x2 : Int) (s3 : MS), Rr s3 → (x1 = p0 ∧ 0 ≤ x2 ∧ x2 ≤ gI s 102) → (gA s3 101 = gA s 101 ∧ gI s3 102 = gI s 102 ∧ gA s3 39 = gA s 39) → (∃ U, rn 3 1 (gA s 101) (gI s 102 - x2).toNat (x2 - 0).toNat (gI s3 108) U ∧ U ≤ gI s3 108 ∧ PL s3 U (2147483648 + (x2 - 0)) ∧ (0 ≤ gI s3 108 ∧ gI s3 108 ≤ x2 - 0)) → (1700 - x2) < (n : Int) → wp (m_x12_qTold_L7 n x1 x2 s3) (fun q => (Rr q.2) ∧ ((-3000000000) ≤ q.1 ∧ q.1 ≤ 3000000000)) := by
    refine fr_ind (fun x1 x2 s3 hRs3 hv7_0 hv7_1 hv7_2 hm7 => ?_) (fun n7 ih7 x1 x2 s3 hRs3 hv7_0 hv7_1 hv7_2 hm7 => ?_)
    · exfalso; have : (0 : Int) ≤ gI s3 108 ∧ gI s3 108 ≤ 1700 := hRs3.1 108; have : (0 : Int) ≤ gI s3 102 ∧ gI s3 102 ≤ 1700 := hRs3.1 102; have : (0 : Int) ≤ gI s 102 ∧ gI s 102 ≤ 1700 := hRs.1 102; omega
    · show wp (m_x12_qTold_b7 (m_x12_qTold_L7 n7) x1 x2 s3) _
      unfold m_x12_qTold_b7
      have r2 := hv7_1.2.1
      refine wp_rg (by have : (0 : Int) ≤ gI s3 108 ∧ gI s3 108 ≤ 1700 := hRs3.1 108; have : (0 : Int) ≤ gI s3 102 ∧ gI s3 102 ≤ 1700 := hRs3.1 102; have : (0 : Int) ≤ gI s 102 ∧ gI s 102 ≤ 1700 := hRs.1 102; omega) ?_
      refine wp_rg (by have : (0 : Int) ≤ gI s3 108 ∧ gI s3 108 ≤ 1700 := hRs3.1 108; have : (0 : Int) ≤ gI s 102 ∧ gI s 102 ≤ 1700 := hRs.1 102; have : (0 : Int) ≤ gI s3 102 ∧ gI s3 102 ≤ 1700 := hRs3.1 102; omega) ?_
      refine wp_if (fun c1 => ?_) (fun c1 => ?_)
      · skip
        obtain ⟨U, hrn, hU, hP, hh⟩ := hv7_2
        rw [show (gI s 102 - x2).toNat = 0 by omega] at hrn
        have h1 : gI s3 108 = 1 := hrn
        have kp := hP.1 0 (by omega)
        refine wp_rdLn (by have : (0 : Int) ≤ gI s3 108 ∧ gI s3 108 ≤ 1700 := hRs3.1 108; have : (0 : Int) ≤ gI s3 102 ∧ gI s3 102 ≤ 1700 := hRs3.1 102; have : (0 : Int) ≤ gI s 102 ∧ gI s 102 ≤ 1700 := hRs.1 102; omega) (fun yl10 eyl10 => ?_)
        have kyl : gB s3 107 0 = yl10 := eyl10
        rw [kyl] at kp
        exact wp_some ⟨hRs3, by show (-3000000000) ≤ yl10 ∧ yl10 ≤ 3000000000; have : (0 : Int) ≤ gI s3 108 ∧ gI s3 108 ≤ 1700 := hRs3.1 108; have : (0 : Int) ≤ gI s3 102 ∧ gI s3 102 ≤ 1700 := hRs3.1 102; have : (0 : Int) ≤ gI s 102 ∧ gI s 102 ≤ 1700 := hRs.1 102; omega⟩
      · skip
        obtain ⟨U, hrn, hU, hP, hh⟩ := hv7_2
        rw [show (gI s 102 - x2).toNat = (gI s 102 - (x2 + 1)).toNat + 1 by omega] at hrn
        obtain ⟨g1, U1, st1, hr1⟩ := hrn
        refine wp_rdIn (by have : (0 : Int) ≤ gI s3 108 ∧ gI s3 108 ≤ 1700 := hRs3.1 108; have : (0 : Int) ≤ gI s3 102 ∧ gI s3 102 ≤ 1700 := hRs3.1 102; have : (0 : Int) ≤ gI s 102 ∧ gI s 102 ≤ 1700 := hRs.1 102; omega) (fun y11 ey11 => ?_)
        have by11 : (0 : Int) ≤ y11 ∧ y11 ≤ 10999 := ey11 ▸ hRs3.2.1 101 _ (by show _ < 1700; have : (0 : Int) ≤ gI s3 108 ∧ gI s3 108 ≤ 1700 := hRs3.1 108; have : (0 : Int) ≤ gI s3 102 ∧ gI s3 102 ≤ 1700 := hRs3.1 102; have : (0 : Int) ≤ gI s 102 ∧ gI s 102 ≤ 1700 := hRs.1 102; omega)
        have kf : gA s 101 (x2 - 0).toNat = y11 := by rw [← ey11, hv7_1.1]; congr 1; omega
        rw [kf] at st1
        have sp := st1.1
        have tp := st1.2.1
        have sk := st1.2.2
        unfold stp at sp
        unfold tpd at tp
        refine wp_rg (by have : (0 : Int) ≤ gI s3 108 ∧ gI s3 108 ≤ 1700 := hRs3.1 108; have : (0 : Int) ≤ gI s3 102 ∧ gI s3 102 ≤ 1700 := hRs3.1 102; have : (0 : Int) ≤ gI s 102 ∧ gI s 102 ≤ 1700 := hRs.1 102; omega) ?_
        refine wp_if (fun c2 => ?_) (fun c2 => ?_)
        · skip
          refine wp_rg (by have : (0 : Int) ≤ gI s3 108 ∧ gI s3 108 ≤ 1700 := hRs3.1 108; have : (0 : Int) ≤ gI s3 102 ∧ gI s3 102 ≤ 1700 := hRs3.1 102; have : (0 : Int) ≤ gI s 102 ∧ gI s 102 ≤ 1700 := hRs.1 102; omega) ?_
          refine wp_if (fun c3 => ?_) (fun c3 => ?_)
          · skip
            refine wp_rg (by have : (0 : Int) ≤ gI s3 108 ∧ gI s3 108 ≤ 1700 := hRs3.1 108; have : (0 : Int) ≤ gI s3 102 ∧ gI s3 102 ≤ 1700 := hRs3.1 102; have : (0 : Int) ≤ gI s 102 ∧ gI s 102 ≤ 1700 := hRs.1 102; omega) ?_
            refine wp_if (fun c4 => ?_) (fun c4 => ?_)
            · skip
              refine wp_rg (by have : (0 : Int) ≤ gI s3 108 ∧ gI s3 108 ≤ 1700 := hRs3.1 108; have : (0 : Int) ≤ gI s3 102 ∧ gI s3 102 ≤ 1700 := hRs3.1 102; have : (0 : Int) ≤ gI s 102 ∧ gI s 102 ≤ 1700 := hRs.1 102; omega) ?_
              refine wp_if (fun c5 => ?_) (fun c5 => ?_)
              · skip
                refine wp_bn (w_x12_qPuts hRs3 (by show gI s3 108 < 1700; have : (0 : Int) ≤ gI s3 102 ∧ gI s3 102 ≤ 1700 := hRs3.1 102; have : (0 : Int) ≤ gI s 102 ∧ gI s 102 ≤ 1700 := hRs.1 102; have : (0 : Int) ≤ gI s3 108 ∧ gI s3 108 ≤ 1700 := hRs3.1 108; omega) (by show R8 (1 : Int); have : (0 : Int) ≤ gI s3 108 ∧ gI s3 108 ≤ 1700 := hRs3.1 108; have : (0 : Int) ≤ gI s3 102 ∧ gI s3 102 ≤ 1700 := hRs3.1 102; have : (0 : Int) ≤ gI s 102 ∧ gI s 102 ≤ 1700 := hRs.1 102; omega)) (fun s28 es28 hs28 => ?_)
                have Fs28 : F_x12_qPuts s3 s28 := fr_x12_qPuts es28
                obtain ⟨hRs28, hs28_0, hs28_1⟩ := hs28
                have hs28_0 : gI s28 108 = gI s3 108 + 1 := hs28_0
                have hs28_1 : gB s28 107 = upZ (gB s3 107) (gI s3 108).toNat (1 : Int) := hs28_1
                unfold m_x12_qTold_J162
                exact ih7 x1 (x2 + 1) s28 hRs28 (by show x1 = p0 ∧ 0 ≤ (x2 + 1) ∧ (x2 + 1) ≤ gI s 102; have : (0 : Int) ≤ gI s28 108 ∧ gI s28 108 ≤ 1700 := hRs28.1 108; have : (0 : Int) ≤ gI s3 108 ∧ gI s3 108 ≤ 1700 := hRs3.1 108; have : (0 : Int) ≤ gI s3 102 ∧ gI s3 102 ≤ 1700 := hRs3.1 102; have : (0 : Int) ≤ gI s 102 ∧ gI s 102 ≤ 1700 := hRs.1 102; omega) (⟨((Fs28.2.1 101 (by decide))).trans hv7_1.1, ((Fs28.1 102 (by decide))).trans hv7_1.2.1, ((Fs28.2.1 39 (by decide))).trans hv7_1.2.2⟩) (by
        have z8 : gI s28 108 = g1 := by have : (0 : Int) ≤ gI s3 108 ∧ gI s3 108 ≤ 1700 := hRs3.1 108; have : (0 : Int) ≤ gI s3 102 ∧ gI s3 102 ≤ 1700 := hRs3.1 102; have : (0 : Int) ≤ gI s 102 ∧ gI s 102 ≤ 1700 := hRs.1 102; have : (0 : Int) ≤ gI s28 108 ∧ gI s28 108 ≤ 1700 := hRs28.1 108; omega
        refine ⟨U1, by rw [z8, show (x2 + 1 - 0).toNat = (x2 - 0).toNat + 1 by omega]; exact hr1, by omega, ?_, by omega⟩
        exact PL_push hP hs28_0 hs28_1 (by omega) (by omega) (by omega) (by omega) (by omega)) (by have : (0 : Int) ≤ gI s28 108 ∧ gI s28 108 ≤ 1700 := hRs28.1 108; have : (0 : Int) ≤ gI s3 108 ∧ gI s3 108 ≤ 1700 := hRs3.1 108; have : (0 : Int) ≤ gI s3 102 ∧ gI s3 102 ≤ 1700 := hRs3.1 102; have : (0 : Int) ≤ gI s 102 ∧ gI s 102 ≤ 1700 := hRs.1 102; omega)
              · skip
                refine wp_rg (by have : (0 : Int) ≤ gI s3 108 ∧ gI s3 108 ≤ 1700 := hRs3.1 108; have : (0 : Int) ≤ gI s3 102 ∧ gI s3 102 ≤ 1700 := hRs3.1 102; have : (0 : Int) ≤ gI s 102 ∧ gI s 102 ≤ 1700 := hRs.1 102; omega) ?_
                refine wp_if (fun c6 => ?_) (fun c6 => ?_)
                · skip
                  refine wp_rdLn (by have : (0 : Int) ≤ gI s3 102 ∧ gI s3 102 ≤ 1700 := hRs3.1 102; have : (0 : Int) ≤ gI s 102 ∧ gI s 102 ≤ 1700 := hRs.1 102; have : (0 : Int) ≤ gI s3 108 ∧ gI s3 108 ≤ 1700 := hRs3.1 108; omega) (fun yl24 eyl24 => ?_)
                  have k24 := hP.1 (gI s3 108 - 1).toNat (by omega)
                  rw [eyl24] at k24
                  refine wp_inb (by have : (0 : Int) ≤ gI s3 102 ∧ gI s3 102 ≤ 1700 := hRs3.1 102; have : (0 : Int) ≤ gI s 102 ∧ gI s 102 ≤ 1700 := hRs.1 102; have : (0 : Int) ≤ gI s3 108 ∧ gI s3 108 ≤ 1700 := hRs3.1 108; omega) ?_
                  refine wp_stn (fun s26 es26 => ?_)
                  have hRs26 : Rr s26 := es26 ▸ Rr.uBu hRs3 (by have : (0 : Int) ≤ gI s3 108 ∧ gI s3 108 ≤ 1700 := hRs3.1 108; have : (0 : Int) ≤ gI s3 102 ∧ gI s3 102 ≤ 1700 := hRs3.1 102; have : (0 : Int) ≤ gI s 102 ∧ gI s 102 ≤ 1700 := hRs.1 102; omega)
                  unfold m_x12_qTold_J162
                  exact ih7 x1 (x2 + 1) s26 hRs26 (by show x1 = p0 ∧ 0 ≤ (x2 + 1) ∧ (x2 + 1) ≤ gI s 102; have : (0 : Int) ≤ gI s3 108 ∧ gI s3 108 ≤ 1700 := hRs3.1 108; have : (0 : Int) ≤ gI s3 102 ∧ gI s3 102 ≤ 1700 := hRs3.1 102; have : (0 : Int) ≤ gI s 102 ∧ gI s 102 ≤ 1700 := hRs.1 102; omega) (⟨((q_Ba es26 : gA s26 101 = gA s3 101)).trans hv7_1.1, ((q_Bi es26 : gI s26 102 = gI s3 102)).trans hv7_1.2.1, ((q_Ba es26 : gA s26 39 = gA s3 39)).trans hv7_1.2.2⟩) (by
        have z8 : gI s26 108 = g1 := by have : (0 : Int) ≤ gI s3 108 ∧ gI s3 108 ≤ 1700 := hRs3.1 108; have : (0 : Int) ≤ gI s3 102 ∧ gI s3 102 ≤ 1700 := hRs3.1 102; have : (0 : Int) ≤ gI s 102 ∧ gI s 102 ≤ 1700 := hRs.1 102; have : gI s26 108 = gI s3 108 := q_Bi es26; omega
        refine ⟨U1, by rw [z8, show (x2 + 1 - 0).toNat = (x2 - 0).toNat + 1 by omega]; exact hr1, by omega, ?_, by omega⟩
        have kt : yl24 = 0 ∨ yl24 = 1 := by rw [← eyl24]; exact hP.2 _ (by omega)
        exact PL_top (w := 1 - yl24) hP (q_Bi es26 : gI s26 108 = gI s3 108) (q_BB es26) (by omega) (by omega) (by omega) (by omega)) (by have : (0 : Int) ≤ gI s3 108 ∧ gI s3 108 ≤ 1700 := hRs3.1 108; have : (0 : Int) ≤ gI s3 102 ∧ gI s3 102 ≤ 1700 := hRs3.1 102; have : (0 : Int) ≤ gI s 102 ∧ gI s 102 ≤ 1700 := hRs.1 102; omega)
                · skip
                  refine wp_bn (w_x12_qJoins (B := 2147483648 + (x2 - 0)) hRs3 (by show 2 ≤ gI s3 108 ∧ gI s3 108 ≤ 1700; have : (0 : Int) ≤ gI s3 102 ∧ gI s3 102 ≤ 1700 := hRs3.1 102; have : (0 : Int) ≤ gI s 102 ∧ gI s 102 ≤ 1700 := hRs.1 102; have : (0 : Int) ≤ gI s3 108 ∧ gI s3 108 ≤ 1700 := hRs3.1 108; omega) (hP.1) (by show 1000000 ≤ (2147483648 + (x2 - 0)) ∧ (2147483648 + (x2 - 0)) ≤ 3000000000; have : (0 : Int) ≤ gI s3 108 ∧ gI s3 108 ≤ 1700 := hRs3.1 108; have : (0 : Int) ≤ gI s3 102 ∧ gI s3 102 ≤ 1700 := hRs3.1 102; have : (0 : Int) ≤ gI s 102 ∧ gI s 102 ≤ 1700 := hRs.1 102; omega) (by show 1 ≤ y11 ∧ y11 ≤ 11; have : (0 : Int) ≤ gI s3 108 ∧ gI s3 108 ≤ 1700 := hRs3.1 108; have : (0 : Int) ≤ gI s3 102 ∧ gI s3 102 ≤ 1700 := hRs3.1 102; have : (0 : Int) ≤ gI s 102 ∧ gI s 102 ≤ 1700 := hRs.1 102; omega) (fun h10 => ⟨by have z := hP.2 (gI s3 108 - 1).toNat (by omega); exact z, by have z := hP.2 (gI s3 108 - 2).toNat (by omega); exact z⟩)) (fun s23 es23 hs23 => ?_)
                  have Fs23 : F_x12_qJoins s3 s23 := fr_x12_qJoins es23
                  obtain ⟨hRs23, hs23_0, hs23_1⟩ := hs23
                  have hs23_0 : gI s23 108 = gI s3 108 - 1 := hs23_0
                  have hs23_1 : ∃ w, gB s23 107 = upZ (gB s3 107) (gI s3 108 - 2).toNat w ∧ ((0 - (2147483648 + (x2 - 0)) - 1) ≤ w ∧ w ≤ (2147483648 + (x2 - 0)) + 1) ∧ (7 ≤ y11 → w = 0 ∨ w = 1) := hs23_1
                  unfold m_x12_qTold_J162
                  exact ih7 x1 (x2 + 1) s23 hRs23 (by show x1 = p0 ∧ 0 ≤ (x2 + 1) ∧ (x2 + 1) ≤ gI s 102; have : (0 : Int) ≤ gI s23 108 ∧ gI s23 108 ≤ 1700 := hRs23.1 108; have : (0 : Int) ≤ gI s3 108 ∧ gI s3 108 ≤ 1700 := hRs3.1 108; have : (0 : Int) ≤ gI s3 102 ∧ gI s3 102 ≤ 1700 := hRs3.1 102; have : (0 : Int) ≤ gI s 102 ∧ gI s 102 ≤ 1700 := hRs.1 102; omega) (⟨((Fs23.2.1 101 (by decide))).trans hv7_1.1, ((Fs23.1 102 (by decide))).trans hv7_1.2.1, ((Fs23.2.1 39 (by decide))).trans hv7_1.2.2⟩) (by
        have z8 : gI s23 108 = g1 := by have : (0 : Int) ≤ gI s3 108 ∧ gI s3 108 ≤ 1700 := hRs3.1 108; have : (0 : Int) ≤ gI s3 102 ∧ gI s3 102 ≤ 1700 := hRs3.1 102; have : (0 : Int) ≤ gI s 102 ∧ gI s 102 ≤ 1700 := hRs.1 102; have : (0 : Int) ≤ gI s23 108 ∧ gI s23 108 ≤ 1700 := hRs23.1 108; omega
        refine ⟨U1, by rw [z8, show (x2 + 1 - 0).toNat = (x2 - 0).toNat + 1 by omega]; exact hr1, by omega, ?_, by omega⟩
        obtain ⟨w, w1, w2, w3⟩ := hs23_1
        exact PL_join hP hs23_0 w1 (by omega) (by omega) (by omega) (by omega)) (by have : (0 : Int) ≤ gI s23 108 ∧ gI s23 108 ≤ 1700 := hRs23.1 108; have : (0 : Int) ≤ gI s3 108 ∧ gI s3 108 ≤ 1700 := hRs3.1 108; have : (0 : Int) ≤ gI s3 102 ∧ gI s3 102 ≤ 1700 := hRs3.1 102; have : (0 : Int) ≤ gI s 102 ∧ gI s 102 ≤ 1700 := hRs.1 102; omega)
            · skip
              refine wp_bn (w_x12_qPartOf hRs3 (by show R2 (y11 - 40); have : (0 : Int) ≤ gI s3 108 ∧ gI s3 108 ≤ 1700 := hRs3.1 108; have : (0 : Int) ≤ gI s3 102 ∧ gI s3 102 ≤ 1700 := hRs3.1 102; have : (0 : Int) ≤ gI s 102 ∧ gI s 102 ≤ 1700 := hRs.1 102; omega)) (fun rl30 erl30 hrl30 => ?_)
              have hrl30_0 := hrl30
              have hrl30_0 : R2 rl30 := hrl30_0
              refine wp_bn (w_x12_qClip hRs3 (by show R8 rl30; have : (0 : Int) ≤ gI s3 108 ∧ gI s3 108 ≤ 1700 := hRs3.1 108; have : (0 : Int) ≤ gI s3 102 ∧ gI s3 102 ≤ 1700 := hRs3.1 102; have : (0 : Int) ≤ gI s 102 ∧ gI s 102 ≤ 1700 := hRs.1 102; omega)) (fun rl32 erl32 hrl32 => ?_)
              have hrl32_0 := hrl32
              have hrl32_0 : (-1000000) ≤ rl32 ∧ rl32 ≤ 1000000 := hrl32_0
              refine wp_bn (w_x12_qPuts hRs3 (by show gI s3 108 < 1700; have : (0 : Int) ≤ gI s3 102 ∧ gI s3 102 ≤ 1700 := hRs3.1 102; have : (0 : Int) ≤ gI s 102 ∧ gI s 102 ≤ 1700 := hRs.1 102; have : (0 : Int) ≤ gI s3 108 ∧ gI s3 108 ≤ 1700 := hRs3.1 108; omega) (by show R8 rl32; have : (0 : Int) ≤ gI s3 108 ∧ gI s3 108 ≤ 1700 := hRs3.1 108; have : (0 : Int) ≤ gI s3 102 ∧ gI s3 102 ≤ 1700 := hRs3.1 102; have : (0 : Int) ≤ gI s 102 ∧ gI s 102 ≤ 1700 := hRs.1 102; omega)) (fun s34 es34 hs34 => ?_)
              have Fs34 : F_x12_qPuts s3 s34 := fr_x12_qPuts es34
              obtain ⟨hRs34, hs34_0, hs34_1⟩ := hs34
              have hs34_0 : gI s34 108 = gI s3 108 + 1 := hs34_0
              have hs34_1 : gB s34 107 = upZ (gB s3 107) (gI s3 108).toNat rl32 := hs34_1
              unfold m_x12_qTold_J162
              exact ih7 x1 (x2 + 1) s34 hRs34 (by show x1 = p0 ∧ 0 ≤ (x2 + 1) ∧ (x2 + 1) ≤ gI s 102; have : (0 : Int) ≤ gI s34 108 ∧ gI s34 108 ≤ 1700 := hRs34.1 108; have : (0 : Int) ≤ gI s3 108 ∧ gI s3 108 ≤ 1700 := hRs3.1 108; have : (0 : Int) ≤ gI s3 102 ∧ gI s3 102 ≤ 1700 := hRs3.1 102; have : (0 : Int) ≤ gI s 102 ∧ gI s 102 ≤ 1700 := hRs.1 102; omega) (⟨((Fs34.2.1 101 (by decide))).trans hv7_1.1, ((Fs34.1 102 (by decide))).trans hv7_1.2.1, ((Fs34.2.1 39 (by decide))).trans hv7_1.2.2⟩) (by
        have z8 : gI s34 108 = g1 := by have : (0 : Int) ≤ gI s3 108 ∧ gI s3 108 ≤ 1700 := hRs3.1 108; have : (0 : Int) ≤ gI s3 102 ∧ gI s3 102 ≤ 1700 := hRs3.1 102; have : (0 : Int) ≤ gI s 102 ∧ gI s 102 ≤ 1700 := hRs.1 102; have : (0 : Int) ≤ gI s34 108 ∧ gI s34 108 ≤ 1700 := hRs34.1 108; omega
        refine ⟨U1, by rw [z8, show (x2 + 1 - 0).toNat = (x2 - 0).toNat + 1 by omega]; exact hr1, by omega, ?_, by omega⟩
        exact PL_push hP hs34_0 hs34_1 (by omega) (by omega) (by omega) (by omega) (by omega)) (by have : (0 : Int) ≤ gI s34 108 ∧ gI s34 108 ≤ 1700 := hRs34.1 108; have : (0 : Int) ≤ gI s3 108 ∧ gI s3 108 ≤ 1700 := hRs3.1 108; have : (0 : Int) ≤ gI s3 102 ∧ gI s3 102 ≤ 1700 := hRs3.1 102; have : (0 : Int) ≤ gI s 102 ∧ gI s 102 ≤ 1700 := hRs.1 102; omega)
          · skip
            refine wp_rdLn (by have : (0 : Int) ≤ gI s3 102 ∧ gI s3 102 ≤ 1700 := hRs3.1 102; have : (0 : Int) ≤ gI s 102 ∧ gI s 102 ≤ 1700 := hRs.1 102; have : (0 : Int) ≤ gI s3 108 ∧ gI s3 108 ≤ 1700 := hRs3.1 108; omega) (fun yl35 eyl35 => ?_)
            have k35 := hP.1 (gI s3 108 - 1).toNat (by omega)
            rw [eyl35] at k35
            refine wp_bn (w_x12_qOf hRs3 (by show R2 (y11 - 60); have : (0 : Int) ≤ gI s3 108 ∧ gI s3 108 ≤ 1700 := hRs3.1 108; have : (0 : Int) ≤ gI s3 102 ∧ gI s3 102 ≤ 1700 := hRs3.1 102; have : (0 : Int) ≤ gI s 102 ∧ gI s 102 ≤ 1700 := hRs.1 102; omega) (by show R8 yl35; have : (0 : Int) ≤ gI s3 108 ∧ gI s3 108 ≤ 1700 := hRs3.1 108; have : (0 : Int) ≤ gI s3 102 ∧ gI s3 102 ≤ 1700 := hRs3.1 102; have : (0 : Int) ≤ gI s 102 ∧ gI s 102 ≤ 1700 := hRs.1 102; omega) (hv7_1.2.2 ▸ hp2)) (fun rl37 erl37 hrl37 => ?_)
            have hrl37_0 := hrl37
            have hrl37_0 : R2 rl37 := hrl37_0
            refine wp_bn (w_x12_qClip hRs3 (by show R8 rl37; have : (0 : Int) ≤ gI s3 108 ∧ gI s3 108 ≤ 1700 := hRs3.1 108; have : (0 : Int) ≤ gI s3 102 ∧ gI s3 102 ≤ 1700 := hRs3.1 102; have : (0 : Int) ≤ gI s 102 ∧ gI s 102 ≤ 1700 := hRs.1 102; omega)) (fun rl39 erl39 hrl39 => ?_)
            have hrl39_0 := hrl39
            have hrl39_0 : (-1000000) ≤ rl39 ∧ rl39 ≤ 1000000 := hrl39_0
            refine wp_inb (by have : (0 : Int) ≤ gI s3 102 ∧ gI s3 102 ≤ 1700 := hRs3.1 102; have : (0 : Int) ≤ gI s 102 ∧ gI s 102 ≤ 1700 := hRs.1 102; have : (0 : Int) ≤ gI s3 108 ∧ gI s3 108 ≤ 1700 := hRs3.1 108; omega) ?_
            refine wp_stn (fun s41 es41 => ?_)
            have hRs41 : Rr s41 := es41 ▸ Rr.uBu hRs3 (by have : (0 : Int) ≤ gI s3 108 ∧ gI s3 108 ≤ 1700 := hRs3.1 108; have : (0 : Int) ≤ gI s3 102 ∧ gI s3 102 ≤ 1700 := hRs3.1 102; have : (0 : Int) ≤ gI s 102 ∧ gI s 102 ≤ 1700 := hRs.1 102; omega)
            unfold m_x12_qTold_J162
            exact ih7 x1 (x2 + 1) s41 hRs41 (by show x1 = p0 ∧ 0 ≤ (x2 + 1) ∧ (x2 + 1) ≤ gI s 102; have : (0 : Int) ≤ gI s3 108 ∧ gI s3 108 ≤ 1700 := hRs3.1 108; have : (0 : Int) ≤ gI s3 102 ∧ gI s3 102 ≤ 1700 := hRs3.1 102; have : (0 : Int) ≤ gI s 102 ∧ gI s 102 ≤ 1700 := hRs.1 102; omega) (⟨((q_Ba es41 : gA s41 101 = gA s3 101)).trans hv7_1.1, ((q_Bi es41 : gI s41 102 = gI s3 102)).trans hv7_1.2.1, ((q_Ba es41 : gA s41 39 = gA s3 39)).trans hv7_1.2.2⟩) (by
        have z8 : gI s41 108 = g1 := by have : (0 : Int) ≤ gI s3 108 ∧ gI s3 108 ≤ 1700 := hRs3.1 108; have : (0 : Int) ≤ gI s3 102 ∧ gI s3 102 ≤ 1700 := hRs3.1 102; have : (0 : Int) ≤ gI s 102 ∧ gI s 102 ≤ 1700 := hRs.1 102; have : gI s41 108 = gI s3 108 := q_Bi es41; omega
        refine ⟨U1, by rw [z8, show (x2 + 1 - 0).toNat = (x2 - 0).toNat + 1 by omega]; exact hr1, by omega, ?_, by omega⟩
        exact PL_top hP (q_Bi es41 : gI s41 108 = gI s3 108) (q_BB es41) (by omega) (by omega) (by omega) (by omega)) (by have : (0 : Int) ≤ gI s3 108 ∧ gI s3 108 ≤ 1700 := hRs3.1 108; have : (0 : Int) ≤ gI s3 102 ∧ gI s3 102 ≤ 1700 := hRs3.1 102; have : (0 : Int) ≤ gI s 102 ∧ gI s 102 ≤ 1700 := hRs.1 102; omega)
        · skip
          refine wp_rg (by have : (0 : Int) ≤ gI s3 108 ∧ gI s3 108 ≤ 1700 := hRs3.1 108; have : (0 : Int) ≤ gI s3 102 ∧ gI s3 102 ≤ 1700 := hRs3.1 102; have : (0 : Int) ≤ gI s 102 ∧ gI s 102 ≤ 1700 := hRs.1 102; omega) ?_
          refine wp_bn (w_x12_qPuts hRs3 (by show gI s3 108 < 1700; have : (0 : Int) ≤ gI s3 102 ∧ gI s3 102 ≤ 1700 := hRs3.1 102; have : (0 : Int) ≤ gI s 102 ∧ gI s 102 ≤ 1700 := hRs.1 102; have : (0 : Int) ≤ gI s3 108 ∧ gI s3 108 ≤ 1700 := hRs3.1 108; omega) (by show R8 (y11 - 1000); have : (0 : Int) ≤ gI s3 108 ∧ gI s3 108 ≤ 1700 := hRs3.1 108; have : (0 : Int) ≤ gI s3 102 ∧ gI s3 102 ≤ 1700 := hRs3.1 102; have : (0 : Int) ≤ gI s 102 ∧ gI s 102 ≤ 1700 := hRs.1 102; omega)) (fun s44 es44 hs44 => ?_)
          have Fs44 : F_x12_qPuts s3 s44 := fr_x12_qPuts es44
          obtain ⟨hRs44, hs44_0, hs44_1⟩ := hs44
          have hs44_0 : gI s44 108 = gI s3 108 + 1 := hs44_0
          have hs44_1 : gB s44 107 = upZ (gB s3 107) (gI s3 108).toNat (y11 - 1000) := hs44_1
          unfold m_x12_qTold_J162
          exact ih7 x1 (x2 + 1) s44 hRs44 (by show x1 = p0 ∧ 0 ≤ (x2 + 1) ∧ (x2 + 1) ≤ gI s 102; have : (0 : Int) ≤ gI s44 108 ∧ gI s44 108 ≤ 1700 := hRs44.1 108; have : (0 : Int) ≤ gI s3 108 ∧ gI s3 108 ≤ 1700 := hRs3.1 108; have : (0 : Int) ≤ gI s3 102 ∧ gI s3 102 ≤ 1700 := hRs3.1 102; have : (0 : Int) ≤ gI s 102 ∧ gI s 102 ≤ 1700 := hRs.1 102; omega) (⟨((Fs44.2.1 101 (by decide))).trans hv7_1.1, ((Fs44.1 102 (by decide))).trans hv7_1.2.1, ((Fs44.2.1 39 (by decide))).trans hv7_1.2.2⟩) (by
        have z8 : gI s44 108 = g1 := by have : (0 : Int) ≤ gI s3 108 ∧ gI s3 108 ≤ 1700 := hRs3.1 108; have : (0 : Int) ≤ gI s3 102 ∧ gI s3 102 ≤ 1700 := hRs3.1 102; have : (0 : Int) ≤ gI s 102 ∧ gI s 102 ≤ 1700 := hRs.1 102; have : (0 : Int) ≤ gI s44 108 ∧ gI s44 108 ≤ 1700 := hRs44.1 108; omega
        refine ⟨U1, by rw [z8, show (x2 + 1 - 0).toNat = (x2 - 0).toNat + 1 by omega]; exact hr1, by omega, ?_, by omega⟩
        exact PL_push hP hs44_0 hs44_1 (by omega) (by omega) (by omega) (by omega) (by omega)) (by have : (0 : Int) ≤ gI s44 108 ∧ gI s44 108 ≤ 1700 := hRs44.1 108; have : (0 : Int) ≤ gI s3 108 ∧ gI s3 108 ≤ 1700 := hRs3.1 108; have : (0 : Int) ≤ gI s3 102 ∧ gI s3 102 ≤ 1700 := hRs3.1 102; have : (0 : Int) ≤ gI s 102 ∧ gI s 102 ≤ 1700 := hRs.1 102; omega)
  exact L7 FU p0 0 s45 hRs45 (by show p0 = p0 ∧ 0 ≤ (0 : Int) ∧ (0 : Int) ≤ gI s 102; have : (0 : Int) ≤ gI s 102 ∧ gI s 102 ≤ 1700 := hRs.1 102; omega) (⟨(q_Ia es45 : gA s45 101 = gA s 101), (q_Ii es45 (by decide) : gI s45 102 = gI s 102), (q_Ia es45 : gA s45 39 = gA s 39)⟩) (⟨U0, by rw [(q_II es45 : gI s45 108 = 0), show (gI s 102 - 0).toNat = (gI s 102).toNat by omega]; exact u2, by rw [(q_II es45 : gI s45 108 = 0)]; exact u1, ⟨fun j hj => by rw [(q_II es45 : gI s45 108 = 0)] at hj; omega, fun j hj => by omega⟩, by rw [(q_II es45 : gI s45 108 = 0)]; omega⟩) (by have := FU_big; have := FU_big2; have : (0 : Int) ≤ gI s 102 ∧ gI s 102 ≤ 1700 := hRs.1 102; omega)
