set_option maxHeartbeats 1000000 in
theorem w_x1_settle {s : MS} (hRs : Rg s) : wp (m_x1_settle s) (fun q => (Rg q.2) ∧ (0 ≤ q.1 ∧ q.1 ≤ 48)) := by
  unfold m_x1_settle
  refine wp_bn (w_x1_price hRs) (fun qqr3 eqr3s hqr3s => ?_)
  obtain ⟨qr3r, qr3s⟩ := qqr3
  dsimp only at eqr3s hqr3s ⊢
  have Fqr3s := fr_x1_price eqr3s
  obtain ⟨hRqr3s, hqr3s_0⟩ := hqr3s
  have hqr3s_0 : 0 ≤ qr3r ∧ qr3r ≤ 4752 := hqr3s_0
  refine wp_rg (by have : (-70000 : Int) ≤ gI s 1061 ∧ gI s 1061 ≤ 999999 := hRs.1 1061; omega) ?_
  refine wp_stn (fun s5 es5 => ?_)
  have hRs5 : Rg s5 := es5 ▸ Rg.uI hRqr3s (by show (-70000 : Int) ≤ (minZ 999999 ((gI s 1061) + qr3r)) ∧ (minZ 999999 ((gI s 1061) + qr3r)) ≤ 999999; have : (-70000 : Int) ≤ gI s 1061 ∧ gI s 1061 ≤ 999999 := hRs.1 1061; have mm := mn_b 999999 (gI s 1061 + qr3r); omega)
  refine wp_bn (w_x1_wrote hRs5) (fun r7 er7 hr7 => ?_)
  have hr7_0 := hr7
  have hr7_0 : 0 ≤ r7 ∧ r7 ≤ 48 := hr7_0
  exact wp_some ⟨hRs5, by show 0 ≤ r7 ∧ r7 ≤ 48; omega⟩
set_option maxHeartbeats 1000000 in
theorem w_x2_keep {p0 : Int} {p1 : Int} {p2 : Int} {s : MS} (hRs : Rg s) (hp0 : R2 p0) (hp1 : R2 p1) (hp2 : R2 p2) : wp (m_x2_keep p0 p1 p2 s) (fun o => (Rg o) ∧ (gI o 143 ≤ 60)) := by
  unfold m_x2_keep
  refine wp_rg (by have : (0 : Int) ≤ gI s 143 ∧ gI s 143 ≤ 60 := hRs.1 143; omega) ?_
  refine wp_if (fun c1 => ?_) (fun c1 => ?_)
  · skip
    refine wp_stn (fun s14 es14 => ?_)
    have hRs14 : Rg s14 := es14 ▸ Rg.uI hRs (by show (0 : Int) ≤ ((gI s 143) - 1) ∧ ((gI s 143) - 1) ≤ 60; have : (0 : Int) ≤ gI s 143 ∧ gI s 143 ≤ 60 := hRs.1 143; omega)
    refine wp_cpg (by have : (0 : Int) ≤ gI s 143 ∧ gI s 143 ≤ 60 := hRs.1 143; have : gI s14 143 = (gI s 143) - 1 := q_II es14; omega) ?_
    refine wp_stn (fun s16 es16 => ?_)
    have hRs16 : Rg s16 := es16 ▸ Rg.cpy hRs14 (Int.le_refl _) (Int.le_refl _) (by show _ ≤ 60; have : gI s14 143 = gI s 143 - 1 := q_II es14; omega)
    refine wp_cpg (by have : (0 : Int) ≤ gI s 143 ∧ gI s 143 ≤ 60 := hRs.1 143; have : gI s16 143 = gI s14 143 := q_Ai es16; have : gI s14 143 = (gI s 143) - 1 := q_II es14; omega) ?_
    refine wp_stn (fun s18 es18 => ?_)
    have hRs18 : Rg s18 := es18 ▸ Rg.cpy hRs16 (Int.le_refl _) (Int.le_refl _) (by show _ ≤ 60; have : gI s14 143 = gI s 143 - 1 := q_II es14; have : gI s16 143 = gI s14 143 := (q_Ai es16 : gI s16 143 = gI s14 143); omega)
    refine wp_cpg (by have : (0 : Int) ≤ gI s 143 ∧ gI s 143 ≤ 60 := hRs.1 143; have : gI s18 143 = gI s16 143 := q_Ai es18; have : gI s16 143 = gI s14 143 := q_Ai es16; have : gI s14 143 = (gI s 143) - 1 := q_II es14; omega) ?_
    refine wp_stn (fun s20 es20 => ?_)
    have hRs20 : Rg s20 := es20 ▸ Rg.cpy hRs18 (Int.le_refl _) (Int.le_refl _) (by show _ ≤ 60; have : gI s14 143 = gI s 143 - 1 := q_II es14; have : gI s18 143 = gI s14 143 := ((q_Ai es18 : gI s18 143 = gI s16 143).trans (q_Ai es16 : gI s16 143 = gI s14 143)); omega)
    unfold m_x2_keep_J70
    refine wp_inb (by have : (0 : Int) ≤ gI s 143 ∧ gI s 143 ≤ 60 := hRs.1 143; have : gI s20 143 = gI s18 143 := q_Ai es20; have : gI s18 143 = gI s16 143 := q_Ai es18; have : gI s16 143 = gI s14 143 := q_Ai es16; have : gI s14 143 = (gI s 143) - 1 := q_II es14; omega) ?_
    refine wp_stn (fun s6 es6 => ?_)
    have hRs6 : Rg s6 := es6 ▸ Rg.uAu hRs20 (by show (-2147483648 : Int) ≤ p0 ∧ p0 ≤ 2147483647; have : (0 : Int) ≤ gI s 143 ∧ gI s 143 ≤ 60 := hRs.1 143; omega)
    refine wp_inb (by have : (0 : Int) ≤ gI s 143 ∧ gI s 143 ≤ 60 := hRs.1 143; have : gI s6 143 = gI s20 143 := q_Ai es6; have : gI s20 143 = gI s18 143 := q_Ai es20; have : gI s18 143 = gI s16 143 := q_Ai es18; have : gI s16 143 = gI s14 143 := q_Ai es16; have : gI s14 143 = (gI s 143) - 1 := q_II es14; omega) ?_
    refine wp_stn (fun s8 es8 => ?_)
    have hRs8 : Rg s8 := es8 ▸ Rg.uAu hRs6 (by show (-2147483648 : Int) ≤ p1 ∧ p1 ≤ 2147483647; have : (0 : Int) ≤ gI s 143 ∧ gI s 143 ≤ 60 := hRs.1 143; omega)
    refine wp_inb (by have : (0 : Int) ≤ gI s 143 ∧ gI s 143 ≤ 60 := hRs.1 143; have : gI s8 143 = gI s6 143 := q_Ai es8; have : gI s6 143 = gI s20 143 := q_Ai es6; have : gI s20 143 = gI s18 143 := q_Ai es20; have : gI s18 143 = gI s16 143 := q_Ai es18; have : gI s16 143 = gI s14 143 := q_Ai es16; have : gI s14 143 = (gI s 143) - 1 := q_II es14; omega) ?_
    refine wp_stn (fun s10 es10 => ?_)
    have hRs10 : Rg s10 := es10 ▸ Rg.uAu hRs8 (by show (-2147483648 : Int) ≤ p2 ∧ p2 ≤ 2147483647; have : (0 : Int) ≤ gI s 143 ∧ gI s 143 ≤ 60 := hRs.1 143; omega)
    refine wp_stn (fun s11 es11 => ?_)
    have hRs11 : Rg s11 := es11 ▸ Rg.uI hRs10 (by show (0 : Int) ≤ ((gI s10 143) + 1) ∧ ((gI s10 143) + 1) ≤ 60; have : (0 : Int) ≤ gI s 143 ∧ gI s 143 ≤ 60 := hRs.1 143; have : gI s10 143 = gI s8 143 := q_Ai es10; have : gI s8 143 = gI s6 143 := q_Ai es8; have : gI s6 143 = gI s20 143 := q_Ai es6; have : gI s20 143 = gI s18 143 := q_Ai es20; have : gI s18 143 = gI s16 143 := q_Ai es18; have : gI s16 143 = gI s14 143 := q_Ai es16; have : gI s14 143 = (gI s 143) - 1 := q_II es14; omega)
    exact wp_some ⟨hRs11, by show gI s11 143 ≤ 60; have : (0 : Int) ≤ gI s 143 ∧ gI s 143 ≤ 60 := hRs.1 143; have : gI s11 143 = (gI s10 143) + 1 := q_II es11; have : gI s10 143 = gI s8 143 := q_Ai es10; have : gI s8 143 = gI s6 143 := q_Ai es8; have : gI s6 143 = gI s20 143 := q_Ai es6; have : gI s20 143 = gI s18 143 := q_Ai es20; have : gI s18 143 = gI s16 143 := q_Ai es18; have : gI s16 143 = gI s14 143 := q_Ai es16; have : gI s14 143 = (gI s 143) - 1 := q_II es14; omega⟩
  · skip
    unfold m_x2_keep_J70
    refine wp_inb (by have : (0 : Int) ≤ gI s 143 ∧ gI s 143 ≤ 60 := hRs.1 143; omega) ?_
    refine wp_stn (fun s6 es6 => ?_)
    have hRs6 : Rg s6 := es6 ▸ Rg.uAu hRs (by show (-2147483648 : Int) ≤ p0 ∧ p0 ≤ 2147483647; have : (0 : Int) ≤ gI s 143 ∧ gI s 143 ≤ 60 := hRs.1 143; omega)
    refine wp_inb (by have : (0 : Int) ≤ gI s 143 ∧ gI s 143 ≤ 60 := hRs.1 143; have : gI s6 143 = gI s 143 := q_Ai es6; omega) ?_
    refine wp_stn (fun s8 es8 => ?_)
    have hRs8 : Rg s8 := es8 ▸ Rg.uAu hRs6 (by show (-2147483648 : Int) ≤ p1 ∧ p1 ≤ 2147483647; have : (0 : Int) ≤ gI s 143 ∧ gI s 143 ≤ 60 := hRs.1 143; omega)
    refine wp_inb (by have : (0 : Int) ≤ gI s 143 ∧ gI s 143 ≤ 60 := hRs.1 143; have : gI s8 143 = gI s6 143 := q_Ai es8; have : gI s6 143 = gI s 143 := q_Ai es6; omega) ?_
    refine wp_stn (fun s10 es10 => ?_)
    have hRs10 : Rg s10 := es10 ▸ Rg.uAu hRs8 (by show (-2147483648 : Int) ≤ p2 ∧ p2 ≤ 2147483647; have : (0 : Int) ≤ gI s 143 ∧ gI s 143 ≤ 60 := hRs.1 143; omega)
    refine wp_stn (fun s11 es11 => ?_)
    have hRs11 : Rg s11 := es11 ▸ Rg.uI hRs10 (by show (0 : Int) ≤ ((gI s10 143) + 1) ∧ ((gI s10 143) + 1) ≤ 60; have : (0 : Int) ≤ gI s 143 ∧ gI s 143 ≤ 60 := hRs.1 143; have : gI s10 143 = gI s8 143 := q_Ai es10; have : gI s8 143 = gI s6 143 := q_Ai es8; have : gI s6 143 = gI s 143 := q_Ai es6; omega)
    exact wp_some ⟨hRs11, by show gI s11 143 ≤ 60; have : (0 : Int) ≤ gI s 143 ∧ gI s 143 ≤ 60 := hRs.1 143; have : gI s11 143 = (gI s10 143) + 1 := q_II es11; have : gI s10 143 = gI s8 143 := q_Ai es10; have : gI s8 143 = gI s6 143 := q_Ai es8; have : gI s6 143 = gI s 143 := q_Ai es6; omega⟩
