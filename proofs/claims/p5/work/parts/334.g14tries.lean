set_option maxHeartbeats 1000000 in
theorem w_x12_valueFrom {p0 : Int} {p1 : Int} {s : MS} (hRs : Rr s) (hp0 : p0 < 254 → (0 ≤ p0 ∧ p0 < 48) ∧ DW s p0.toNat) (hp1 : R2 p0) (hp2 : R2 p1) (hp3 : RT s) : wp (m_x12_valueFrom p0 p1 s) (fun r => (R2 r) ∧ (r = -1 ∨ p0 < 254)) := by
  unfold m_x12_valueFrom
  refine wp_rg (by omega) ?_
  refine wp_if (fun c1 => ?_) (fun c1 => ?_)
  · skip
    have L11 : ∀ (n : Nat) (x2 : Int) (x3 : Int), (x2 = p1) → ((0 ≤ x3 ∧ x3 < 48) ∧ DW s x3.toNat) → ((hM s).1 x3.toNat) < (n : Int) → wp (m_x12_valueFrom_L11 s n x2 x3) (fun r => (R2 r) ∧ (r = -1 ∨ p0 < 254)) := by
      refine fr_ind (fun x2 x3 hv11_0 hv11_1 hm11 => ?_) (fun n11 ih11 x2 x3 hv11_0 hv11_1 hm11 => ?_)
      · exfalso; have k := DW_nd hp3 (by omega) hv11_1.2; omega
      · show wp (m_x12_valueFrom_b11 s (m_x12_valueFrom_L11 s n11) x2 x3) _
        unfold m_x12_valueFrom_b11
        have kd := DW_nd hp3 (by omega) hv11_1.2
        refine wp_bn (w_x12_levelOf hRs (by show 0 ≤ x3 ∧ x3 < 48; omega)) (fun r5 er5 hr5 => ?_)
        obtain ⟨hr5_0, hr5_1⟩ := hr5
        have hr5_0 : r5 = (hM s).1 x3.toNat := hr5_0
        have hr5_1 : R2 r5 := hr5_1
        refine wp_rg (by omega) ?_
        refine wp_if (fun c2 => ?_) (fun c2 => ?_)
        · skip
          refine wp_bn (w_x12_placeIn hRs (by show 0 ≤ x3 ∧ x3 < 48; omega) (by show R2 x2; omega) (by show (0 ≤ (hM s).2.1 x3.toNat ∧ (hM s).2.1 x3.toNat ≤ 6); omega)) (fun r9 er9 hr9 => ?_)
          have hr9_0 := hr9
          have hr9_0 : 0 ≤ r9 ∧ r9 ≤ (hM s).2.1 x3.toNat := hr9_0
          refine wp_bn (w_x12_entriesOf hRs (by show 0 ≤ x3 ∧ x3 < 48; omega)) (fun r11 er11 hr11 => ?_)
          obtain ⟨hr11_0, hr11_1⟩ := hr11
          have hr11_0 : r11 = (hM s).2.1 x3.toNat := hr11_0
          have hr11_1 : R2 r11 := hr11_1
          refine wp_rg (by omega) ?_
          refine wp_rg (by omega) ?_
          refine wp_if (fun c3 => ?_) (fun c3 => ?_)
          · skip
            unfold m_x12_valueFrom_J73
            unfold m_x12_valueFrom_J74
            exact wp_some ⟨by show R2 (-1 : Int); omega, by show (-1 : Int) = -1 ∨ p0 < 254; omega⟩
          · skip
            refine wp_bn (w_x12_keyAt hRs (by show 0 ≤ x3 ∧ x3 < 48; omega) (by show 0 ≤ r9 ∧ r9 < 6; omega)) (fun r16 er16 hr16 => ?_)
            obtain ⟨hr16_0, hr16_1⟩ := hr16
            have hr16_0 : r16 = kM s x3.toNat r9.toNat := hr16_0
            have hr16_1 : R2 r16 := hr16_1
            refine wp_rg (by omega) ?_
            refine wp_rg (by omega) ?_
            refine wp_if (fun c4 => ?_) (fun c4 => ?_)
            · skip
              refine wp_bn (w_x12_valueAt hRs (by show 0 ≤ x3 ∧ x3 < 48; omega) (by show 0 ≤ r9 ∧ r9 < 6; omega)) (fun r21 er21 hr21 => ?_)
              obtain ⟨hr21_0, hr21_1⟩ := hr21
              have hr21_0 : r21 = (hM s).2.2 x3.toNat r9.toNat := hr21_0
              have hr21_1 : R2 r21 := hr21_1
              unfold m_x12_valueFrom_J74
              exact wp_some ⟨by show R2 r21; omega, by show r21 = -1 ∨ p0 < 254; omega⟩
            · skip
              unfold m_x12_valueFrom_J73
              unfold m_x12_valueFrom_J74
              exact wp_some ⟨by show R2 (-1 : Int); omega, by show (-1 : Int) = -1 ∨ p0 < 254; omega⟩
        · skip
          refine wp_bn (w_x12_placeFor hRs (by show 0 ≤ x3 ∧ x3 < 48; omega) (by show R2 x2; omega) (by show (0 ≤ (hM s).2.1 x3.toNat ∧ (hM s).2.1 x3.toNat ≤ 6); omega)) (fun r23 er23 hr23 => ?_)
          have hr23_0 := hr23
          have hr23_0 : 0 ≤ r23 ∧ r23 ≤ 5 ∧ (1 ≤ (hM s).2.1 x3.toNat → r23 < (hM s).2.1 x3.toNat) := hr23_0
          refine wp_bn (w_x12_valueAt hRs (by show 0 ≤ x3 ∧ x3 < 48; omega) (by show 0 ≤ r23 ∧ r23 < 6; omega)) (fun r25 er25 hr25 => ?_)
          obtain ⟨hr25_0, hr25_1⟩ := hr25
          have hr25_0 : r25 = (hM s).2.2 x3.toNat r23.toNat := hr25_0
          have hr25_1 : R2 r25 := hr25_1
          have kk := DW_kid (k := r23.toNat) hp3 (by omega) hv11_1.2 (by omega) (by omega)
          rw [← hr25_0] at kk
          exact ih11 x2 r25 (by show x2 = p1; omega) (⟨kk.1, kk.2.2⟩) (by omega)
    exact L11 FU p1 p0 (by show p1 = p1; omega) (hp0 (by omega)) (by have := FU_big; have := FU_big2; have kd := DW_nd hp3 (b := p0.toNat) (by have := hp0 (by omega); omega) (hp0 (by omega)).2; omega)
  · skip
    exact wp_some ⟨by show R2 (-1 : Int); omega, by show (-1 : Int) = -1 ∨ p0 < 254; omega⟩
set_option maxHeartbeats 1000000 in
theorem w_x12_valueOf {p0 : Int} {p1 : Int} {s : MS} (hRs : Rr s) (hp0 : 0 ≤ p0 ∧ p0 < 8) (hp1 : R2 p1) (hp2 : RT s) (hp3 : 0 ≤ gA s 49 p0.toNat ∧ gA s 49 p0.toNat ≤ 255) : wp (m_x12_valueOf p0 p1 s) (fun r => (R2 r) ∧ (r = -1 ∨ gA s 49 p0.toNat < 254)) := by
  unfold m_x12_valueOf
  refine wp_rdIn (by omega) (fun y1 ey1 => ?_)
  have by1 : (-2147483648 : Int) ≤ y1 ∧ y1 ≤ 2147483647 := ey1 ▸ hRs.2.1 49 _ (by show _ < 906; omega)
  refine wp_bn (w_x12_valueFrom hRs (fun h9 => by have z := RT_root (u := p0.toNat) hp2 (by omega) (by omega) (by omega); rw [ey1] at z; exact ⟨by omega, z.2.1⟩) (by show R2 y1; omega) (by show R2 p1; omega) (hp2)) (fun r3 er3 hr3 => ?_)
  obtain ⟨hr3_0, hr3_1⟩ := hr3
  have hr3_0 : R2 r3 := hr3_0
  have hr3_1 : r3 = -1 ∨ y1 < 254 := hr3_1
  exact wp_some ⟨by show R2 r3; omega, by rw [ey1]; exact hr3_1⟩
set_option maxHeartbeats 4000000 in
theorem w_x12_tries {p0 : Int} {p1 : Int} {p2 : Int} {p3 : Int} {s : MS} (hRs : Rr s) (hp0 : p0 = 2 ∨ p0 = 3) (hp1 : 0 ≤ p1 ∧ p1 < 8) (hp2 : RT s) (hp3 : CE s 0) (hp4 : CE s 1) (hp5 : 0 ≤ gA s 39 5) (hp6 : 3 ≤ gA s 39 6 ∧ gA s 39 6 ≤ 6) (hp7 : ((0 ≤ gA s 49 p1.toNat ∧ gA s 49 p1.toNat < 254) ∨ gA s 49 p1.toNat = 254)) (hp8 : p0 = 2 → (0 ≤ p2 ∧ p2 ≤ 999) ∧ (0 ≤ p3 ∧ p3 ≤ 999)) (hp9 : R2 p2) (hp10 : R2 p3) : wp (m_x12_tries p0 p1 p2 p3 s) (fun q => (Rr q.2) ∧ (q.1 = 0 ∨ q.1 = 1) ∧ (KS s q.2) ∧ (RT q.2) ∧ (RW0 s q.2 p1.toNat) ∧ (q.1 = 0 → ∀ j, gA q.2 49 j = gA s 49 j)) := by
  have J121 : ∀ (s17 : MS), Rr s17 → (KS s s17) → (∀ j : Nat, (j : Int) < 785 → gA s17 59 j = gA s 49 j) → (gI s17 55 = 1 ∨ (gI s17 55 = 0 ∧ RT s17 ∧ RW0 s s17 p1.toNat)) → wp (m_x12_tries_J121 s17) (fun q => (Rr q.2) ∧ (q.1 = 0 ∨ q.1 = 1) ∧ (KS s q.2) ∧ (RT q.2) ∧ (RW0 s q.2 p1.toNat) ∧ (q.1 = 0 → ∀ j, gA q.2 49 j = gA s 49 j)) := by
    intro s17 hRs17 hj121_0 hj121_1 hj121_2
    unfold m_x12_tries_J121
    refine wp_rg (by have : (0 : Int) ≤ gI s17 55 ∧ gI s17 55 ≤ 1 := hRs17.1 55; omega) ?_
    refine wp_if (fun c1 => ?_) (fun c1 => ?_)
    · skip
      exact wp_some ⟨hRs17, by show (1 : Int) = 0 ∨ (1 : Int) = 1; have : (0 : Int) ≤ gI s17 55 ∧ gI s17 55 ≤ 1 := hRs17.1 55; omega, by show KS s s17; exact (hj121_0), by show RT s17; exact ((hj121_2.resolve_left (fun h => by omega)).2.1), by show RW0 s s17 p1.toNat; exact ((hj121_2.resolve_left (fun h => by omega)).2.2), by show (1 : Int) = 0 → ∀ j, gA s17 49 j = gA s 49 j; exact (fun h9 => absurd h9 (by decide))⟩
    · skip
      have L133 : ∀ (n : Nat) (x10 : Int) (s11 : MS), Rr s11 → (0 ≤ x10 ∧ x10 ≤ 785) → (KS s s11) → (∀ j : Nat, (j : Int) < 785 → gA s11 59 j = gA s 49 j) → (∀ j : Nat, (j : Int) < x10 → gA s11 49 j = gA s 49 j) → (785 - x10) < (n : Int) → wp (m_x12_tries_L133 n x10 s11) (fun q => (Rr q.2) ∧ (q.1 = 0 ∨ q.1 = 1) ∧ (KS s q.2) ∧ (RT q.2) ∧ (RW0 s q.2 p1.toNat) ∧ (q.1 = 0 → ∀ j, gA q.2 49 j = gA s 49 j)) := by
        refine fr_ind (fun x10 s11 hRs11 hv133_0 hv133_1 hv133_2 hv133_3 hm133 => ?_) (fun n133 ih133 x10 s11 hRs11 hv133_0 hv133_1 hv133_2 hv133_3 hm133 => ?_)
        · exfalso; omega
        · show wp (m_x12_tries_b133 (m_x12_tries_L133 n133) x10 s11) _
          unfold m_x12_tries_b133
          refine wp_rg (by have : (0 : Int) ≤ gI s17 55 ∧ gI s17 55 ≤ 1 := hRs17.1 55; omega) ?_
          refine wp_if (fun c2 => ?_) (fun c2 => ?_)
          · skip
            have L164 : ∀ (n : Nat) (x1 : Int) (s2 : MS), Rr s2 → (0 ≤ x1 ∧ x1 ≤ 48) → (KS s s2) → (∀ j, gA s2 49 j = gA s 49 j) → (48 - x1) < (n : Int) → wp (m_x12_tries_L164 n x1 s2) (fun q => (Rr q.2) ∧ (q.1 = 0 ∨ q.1 = 1) ∧ (KS s q.2) ∧ (RT q.2) ∧ (RW0 s q.2 p1.toNat) ∧ (q.1 = 0 → ∀ j, gA q.2 49 j = gA s 49 j)) := by
              refine fr_ind (fun x1 s2 hRs2 hv164_0 hv164_1 hv164_2 hm164 => ?_) (fun n164 ih164 x1 s2 hRs2 hv164_0 hv164_1 hv164_2 hm164 => ?_)
              · exfalso; omega
              · show wp (m_x12_tries_b164 (m_x12_tries_L164 n164) x1 s2) _
                unfold m_x12_tries_b164
                refine wp_rg (by have : (0 : Int) ≤ gI s17 55 ∧ gI s17 55 ≤ 1 := hRs17.1 55; omega) ?_
                refine wp_if (fun c3 => ?_) (fun c3 => ?_)
                · skip
                  refine wp_stn (fun s5 es5 => ?_)
                  have hRs5 : Rr s5 := es5 ▸ Rr.uI hRs2 (by show (0 : Int) ≤ (0 : Int) ∧ (0 : Int) ≤ 1; have : (0 : Int) ≤ gI s17 55 ∧ gI s17 55 ≤ 1 := hRs17.1 55; omega)
                  exact wp_some ⟨hRs5, by show (0 : Int) = 0 ∨ (0 : Int) = 1; have : (0 : Int) ≤ gI s17 55 ∧ gI s17 55 ≤ 1 := hRs17.1 55; omega, by show KS s s5; exact (KS_t hv164_1 ⟨⟨(q_Ia es5 : gA s5 39 = gA s2 39), (q_Ia es5 : gA s5 42 = gA s2 42), (q_Ia es5 : gA s5 43 = gA s2 43), (q_Ia es5 : gA s5 44 = gA s2 44)⟩, fun j hj => by rw [(q_Ia es5 : gA s5 49 = gA s2 49)]⟩), by show RT s5; exact (RT_x hp2 (fun k _ => by show gA s5 49 k = gA s 49 k; rw [(q_Ia es5 : gA s5 49 = gA s2 49)]; exact hv164_2 k) (by show gA s5 39 5 = _; rw [((q_Ia es5 : gA s5 39 = gA s2 39)), hv164_1.1.1]) (by show gA s5 39 6 = _; rw [((q_Ia es5 : gA s5 39 = gA s2 39)), hv164_1.1.1])), by show RW0 s s5 p1.toNat; exact (⟨fun u hu hn => by show gA s5 49 u = gA s 49 u; rw [(q_Ia es5 : gA s5 49 = gA s2 49)]; exact hv164_2 u, by show (0 ≤ gA s5 49 p1.toNat ∧ gA s5 49 p1.toNat < 48) ∨ gA s5 49 p1.toNat = 254; rw [((q_Ia es5 : gA s5 49 = gA s2 49)), hv164_2]; rcases hp7 with w | w; (left; have z := RT_root (u := p1.toNat) hp2 (by omega) (by omega) (by omega); omega); (right; exact w)⟩), by show (0 : Int) = 0 → ∀ j, gA s5 49 j = gA s 49 j; exact (fun _ j => by show gA s5 49 j = gA s 49 j; rw [(q_Ia es5 : gA s5 49 = gA s2 49)]; exact hv164_2 j)⟩
                · skip
                  refine wp_rdIn (by have : (0 : Int) ≤ gI s17 55 ∧ gI s17 55 ≤ 1 := hRs17.1 55; omega) (fun y6 ey6 => ?_)
                  have by6 : (0 : Int) ≤ y6 ∧ y6 ≤ 1 := ey6 ▸ hRs2.2.1 60 _ (by show _ < 48; have : (0 : Int) ≤ gI s17 55 ∧ gI s17 55 ≤ 1 := hRs17.1 55; omega)
                  have k6 : (0 : Int) ≤ y6 ∧ y6 ≤ 1 := ey6 ▸ hRs2.2.1 60 _ (by show _ < 48; omega)
                  refine wp_inb (by have : (0 : Int) ≤ gI s17 55 ∧ gI s17 55 ≤ 1 := hRs17.1 55; omega) ?_
                  refine wp_bo (by have : (0 : Int) ≤ gI s17 55 ∧ gI s17 55 ≤ 1 := hRs17.1 55; omega) ?_
                  refine wp_stn (fun s9 es9 => ?_)
                  have hRs9 : Rr s9 := es9 ▸ Rr.uAu hRs2 (by show (0 : Int) ≤ y6 ∧ y6 ≤ 1; have : (0 : Int) ≤ gI s17 55 ∧ gI s17 55 ≤ 1 := hRs17.1 55; omega)
                  exact ih164 (x1 + 1) s9 hRs9 (by show 0 ≤ (x1 + 1) ∧ (x1 + 1) ≤ 48; have : (0 : Int) ≤ gI s17 55 ∧ gI s17 55 ≤ 1 := hRs17.1 55; omega) (KS_t hv164_1 ⟨⟨(q_Aa es9 (by decide) : gA s9 39 = gA s2 39), (q_Aa es9 (by decide) : gA s9 42 = gA s2 42), (q_Aa es9 (by decide) : gA s9 43 = gA s2 43), (q_Aa es9 (by decide) : gA s9 44 = gA s2 44)⟩, fun j hj => by rw [(q_Aa es9 (by decide) : gA s9 49 = gA s2 49)]⟩) (fun j => by rw [(q_Aa es9 (by decide) : gA s9 49 = gA s2 49)]; exact hv164_2 j) (by have : (0 : Int) ≤ gI s17 55 ∧ gI s17 55 ≤ 1 := hRs17.1 55; omega)
            exact L164 FU 0 s11 hRs11 (by show 0 ≤ (0 : Int) ∧ (0 : Int) ≤ 48; have : (0 : Int) ≤ gI s17 55 ∧ gI s17 55 ≤ 1 := hRs17.1 55; omega) (hv133_1) (fun j => by
        by_cases z : j < 785
        · exact hv133_3 j (by omega)
        · exact hv133_1.2 j (by omega)) (by have := FU_big; have := FU_big2; have : (0 : Int) ≤ gI s17 55 ∧ gI s17 55 ≤ 1 := hRs17.1 55; omega)
          · skip
            refine wp_rdIn (by have : (0 : Int) ≤ gI s17 55 ∧ gI s17 55 ≤ 1 := hRs17.1 55; omega) (fun y14 ey14 => ?_)
            have by14 : (-2147483648 : Int) ≤ y14 ∧ y14 ≤ 2147483647 := ey14 ▸ hRs11.2.1 59 _ (by show _ < 785; have : (0 : Int) ≤ gI s17 55 ∧ gI s17 55 ≤ 1 := hRs17.1 55; omega)
            have k14 : y14 = gA s 49 x10.toNat := by rw [← ey14]; exact hv133_2 _ (by omega)
            have k14r : R2 y14 := k14 ▸ R49 hRs (by omega)
            refine wp_inb (by have : (0 : Int) ≤ gI s17 55 ∧ gI s17 55 ≤ 1 := hRs17.1 55; omega) ?_
            refine wp_stn (fun s16 es16 => ?_)
            have hRs16 : Rr s16 := es16 ▸ Rr.uAu hRs11 (by show (-2147483648 : Int) ≤ y14 ∧ y14 ≤ 2147483647; have : (0 : Int) ≤ gI s17 55 ∧ gI s17 55 ≤ 1 := hRs17.1 55; omega)
            exact ih133 (x10 + 1) s16 hRs16 (by show 0 ≤ (x10 + 1) ∧ (x10 + 1) ≤ 785; have : (0 : Int) ≤ gI s17 55 ∧ gI s17 55 ≤ 1 := hRs17.1 55; omega) (KS_t hv133_1 ⟨⟨(q_Aa es16 (by decide) : gA s16 39 = gA s11 39), (q_Aa es16 (by decide) : gA s16 42 = gA s11 42), (q_Aa es16 (by decide) : gA s16 43 = gA s11 43), (q_Aa es16 (by decide) : gA s16 44 = gA s11 44)⟩, fun j hj => by rw [(q_AA es16 : gA s16 49 = _), upZ_n (by omega)]⟩) (fun j hj => by rw [(q_Aa es16 (by decide) : gA s16 59 = gA s11 59)]; exact hv133_2 j hj) (fun j hj => by
          rw [(q_AA es16 : gA s16 49 = _)]
          by_cases z : j = x10.toNat
          · rw [z, upZ_s]; exact k14
          · rw [upZ_n z]; exact hv133_3 j (by omega)) (by have : (0 : Int) ≤ gI s17 55 ∧ gI s17 55 ≤ 1 := hRs17.1 55; omega)
      exact L133 FU 0 s17 hRs17 (by show 0 ≤ (0 : Int) ∧ (0 : Int) ≤ 785; have : (0 : Int) ≤ gI s17 55 ∧ gI s17 55 ≤ 1 := hRs17.1 55; omega) (hj121_0) (hj121_1) (fun j hj => by omega) (by have := FU_big; have := FU_big2; have : (0 : Int) ≤ gI s17 55 ∧ gI s17 55 ≤ 1 := hRs17.1 55; omega)
  have J108 : ∀ (x20 : Int) (x21 : Int) (s22 : MS), Rr s22 → (x20 = p1 ∧ x21 = p2) → (gA s22 49 = gA s 49) → (∀ j : Nat, (j : Int) < 785 → gA s22 59 j = gA s 49 j) → (KS s s22) → (gI s22 55 = 0 → 0 ≤ gA s 49 p1.toNat ∧ gA s 49 p1.toNat < 254) → wp (m_x12_tries_J108 x20 x21 s22) (fun q => (Rr q.2) ∧ (q.1 = 0 ∨ q.1 = 1) ∧ (KS s q.2) ∧ (RT q.2) ∧ (RW0 s q.2 p1.toNat) ∧ (q.1 = 0 → ∀ j, gA q.2 49 j = gA s 49 j)) := by
    intro x20 x21 s22 hRs22 hj108_0 hj108_1 hj108_2 hj108_3 hj108_4
    unfold m_x12_tries_J108
    refine wp_rg (by have : (0 : Int) ≤ gI s22 55 ∧ gI s22 55 ≤ 1 := hRs22.1 55; omega) ?_
    refine wp_if (fun c4 => ?_) (fun c4 => ?_)
    · skip
      refine wp_bn (mt_removes (v := p1.toNat) hRs22 (by show p1.toNat < 8; have : (0 : Int) ≤ gI s22 55 ∧ gI s22 55 ≤ 1 := hRs22.1 55; omega) (by show x20 = (p1.toNat : Int); have : (0 : Int) ≤ gI s22 55 ∧ gI s22 55 ≤ 1 := hRs22.1 55; omega) (RT_x hp2 (fun k _ => by rw [hj108_1]) (by rw [hj108_3.1.1]) (by rw [hj108_3.1.1])) (KS_CE hj108_3 hp3) (by rw [hj108_3.1.1]; exact hp6) (by show gI s22 55 = 0; have : (0 : Int) ≤ gI s22 55 ∧ gI s22 55 ≤ 1 := hRs22.1 55; omega) (by rw [hj108_1]; exact hj108_4 (by omega)) (by show R2 x21; have : (0 : Int) ≤ gI s22 55 ∧ gI s22 55 ≤ 1 := hRs22.1 55; omega)) (fun s26 es26 hs26 => ?_)
      have Fs26 : F_x12_removes s22 s26 := fr_x12_removes es26
      obtain ⟨hRs26, hs26_0, hs26_1, hs26_2⟩ := hs26
      have hs26_0 : F_x12_removes s22 s26 := hs26_0
      have hs26_1 : ∀ j, 785 ≤ j → gA s26 49 j = gA s22 49 j := hs26_1
      have hs26_2 : gI s26 55 = 1 ∨ (gI s26 55 = 0 ∧ RT s26 ∧ RW0 s22 s26 p1.toNat) := hs26_2
      exact J121 s26 hRs26 (KS_t hj108_3 ⟨⟨(Fs26.2.1 39 (by decide)), (Fs26.2.1 42 (by decide)), (Fs26.2.1 43 (by decide)), (Fs26.2.1 44 (by decide))⟩, hs26_1⟩) (fun j hj => by rw [((Fs26.2.1 59 (by decide)))]; exact hj108_2 j hj) (by
      have e49 : gA s22 49 = gA s 49 := hj108_1
      rcases hs26_2 with w | ⟨w0, wr, w1⟩
      · exact Or.inl w
      · exact Or.inr ⟨w0, wr, ⟨fun u hu hn => by rw [w1.1 u hu hn, e49], w1.2⟩⟩)
    · skip
      exact J121 s22 hRs22 (hj108_3) (hj108_2) (Or.inl (by have z : (0 : Int) ≤ gI s22 55 ∧ gI s22 55 ≤ 1 := hRs22.1 55; omega))
  have J82 : ∀ (x27 : Int) (x28 : Int) (x29 : Int) (x30 : Int) (x31 : Int) (s32 : MS), Rr s32 → (x27 = p0 ∧ x28 = p1 ∧ x29 = p2 ∧ x30 = p3) → (x31 = 0 ∨ x31 = 1) → (gA s32 49 = gA s 49 ∧ gA s32 39 = gA s 39 ∧ gA s32 42 = gA s 42 ∧ gA s32 43 = gA s 43 ∧ gA s32 44 = gA s 44) → (∀ j : Nat, (j : Int) < 785 → gA s32 59 j = gA s 49 j) → (p0 = 3 → x31 = 0 → 0 ≤ gA s 49 p1.toNat ∧ gA s 49 p1.toNat < 254) → wp (m_x12_tries_J82 x27 x28 x29 x30 x31 s32) (fun q => (Rr q.2) ∧ (q.1 = 0 ∨ q.1 = 1) ∧ (KS s q.2) ∧ (RT q.2) ∧ (RW0 s q.2 p1.toNat) ∧ (q.1 = 0 → ∀ j, gA q.2 49 j = gA s 49 j)) := by
    intro x27 x28 x29 x30 x31 s32 hRs32 hj82_0 hj82_1 hj82_2 hj82_3 hj82_4
    unfold m_x12_tries_J82
    refine wp_bo (by omega) ?_
    refine wp_stn (fun s34 es34 => ?_)
    have hRs34 : Rr s34 := es34 ▸ Rr.uI hRs32 (by show (0 : Int) ≤ x31 ∧ x31 ≤ 1; omega)
    refine wp_rg (by have : gI s34 55 = x31 := q_II es34; omega) ?_
    refine wp_if (fun c5 => ?_) (fun c5 => ?_)
    · skip
      refine wp_rg (by have : gI s34 55 = x31 := q_II es34; omega) ?_
      refine wp_if (fun c6 => ?_) (fun c6 => ?_)
      · skip
        refine wp_bn (mt_puts (v := p1.toNat) hRs34 (by omega) (by omega) (RT_x hp2 (fun k _ => by rw [((q_Ia es34 : gA s34 49 = gA s32 49)), hj82_2.1]) (by rw [((q_Ia es34 : gA s34 39 = gA s32 39)), hj82_2.2.1]) (by rw [((q_Ia es34 : gA s34 39 = gA s32 39)), hj82_2.2.1])) (CE_eq hp3 (((q_Ia es34 : gA s34 42 = gA s32 42)).trans hj82_2.2.2.1) (((q_Ia es34 : gA s34 43 = gA s32 43)).trans hj82_2.2.2.2.1) (((q_Ia es34 : gA s34 44 = gA s32 44)).trans hj82_2.2.2.2.2)) (CE_eq hp4 (((q_Ia es34 : gA s34 42 = gA s32 42)).trans hj82_2.2.2.1) (((q_Ia es34 : gA s34 43 = gA s32 43)).trans hj82_2.2.2.2.1) (((q_Ia es34 : gA s34 44 = gA s32 44)).trans hj82_2.2.2.2.2)) (by rw [((q_Ia es34 : gA s34 39 = gA s32 39)), hj82_2.2.1]; exact hp5) (by rw [((q_Ia es34 : gA s34 39 = gA s32 39)), hj82_2.2.1]; exact hp6) (by show gI s34 55 = 0; have : gI s34 55 = x31 := q_II es34; omega) (by rw [((q_Ia es34 : gA s34 49 = gA s32 49)), hj82_2.1]; exact hp7) (by show 0 ≤ x29 ∧ x29 ≤ 999; have : gI s34 55 = x31 := q_II es34; omega) (by show 0 ≤ x30 ∧ x30 ≤ 999; have : gI s34 55 = x31 := q_II es34; omega)) (fun s40 es40 hs40 => ?_)
        have Fs40 : F_x12_puts s34 s40 := fr_x12_puts es40
        obtain ⟨hRs40, hs40_0, hs40_1, hs40_2⟩ := hs40
        have hs40_0 : F_x12_puts s34 s40 := hs40_0
        have hs40_1 : ∀ j, 785 ≤ j → gA s40 49 j = gA s34 49 j := hs40_1
        have hs40_2 : gI s40 55 = 1 ∨ (gI s40 55 = 0 ∧ RT s40 ∧ RWn s34 s40 p1.toNat) := hs40_2
        exact J121 s40 hRs40 (KS_t ⟨⟨((q_Ia es34 : gA s34 39 = gA s32 39)).trans hj82_2.2.1, ((q_Ia es34 : gA s34 42 = gA s32 42)).trans hj82_2.2.2.1, ((q_Ia es34 : gA s34 43 = gA s32 43)).trans hj82_2.2.2.2.1, ((q_Ia es34 : gA s34 44 = gA s32 44)).trans hj82_2.2.2.2.2⟩, fun j _ => by rw [((q_Ia es34 : gA s34 49 = gA s32 49)), hj82_2.1]⟩ ⟨⟨(Fs40.2.1 39 (by decide)), (Fs40.2.1 42 (by decide)), (Fs40.2.1 43 (by decide)), (Fs40.2.1 44 (by decide))⟩, hs40_1⟩) (fun j hj => by rw [(((Fs40.2.1 59 (by decide)).trans (q_Ia es34 : gA s34 59 = gA s32 59)))]; exact hj82_3 j hj) (by
      have e49 : gA s34 49 = gA s 49 := (((q_Ia es34 : gA s34 49 = gA s32 49)).trans hj82_2.1)
      rcases hs40_2 with w | ⟨w0, wr, w1⟩
      · exact Or.inl w
      · exact Or.inr ⟨w0, wr, ⟨fun u hu hn => by rw [w1.1 u hu hn, e49], Or.inl w1.2⟩⟩)
      · skip
        exact J108 x28 x29 s34 hRs34 (by show x28 = p1 ∧ x29 = p2; have : gI s34 55 = x31 := q_II es34; omega) (((q_Ia es34 : gA s34 49 = gA s32 49)).trans hj82_2.1) (fun j hj => by rw [(q_Ia es34 : gA s34 59 = gA s32 59)]; exact hj82_3 j hj) (⟨⟨((q_Ia es34 : gA s34 39 = gA s32 39)).trans hj82_2.2.1, ((q_Ia es34 : gA s34 42 = gA s32 42)).trans hj82_2.2.2.1, ((q_Ia es34 : gA s34 43 = gA s32 43)).trans hj82_2.2.2.2.1, ((q_Ia es34 : gA s34 44 = gA s32 44)).trans hj82_2.2.2.2.2⟩, fun j _ => by rw [((q_Ia es34 : gA s34 49 = gA s32 49)), hj82_2.1]⟩) (fun h9 => hj82_4 (by omega) (by have z : gI s34 55 = x31 := q_II es34; omega))
    · skip
      exact J108 x28 x29 s34 hRs34 (by show x28 = p1 ∧ x29 = p2; have : gI s34 55 = x31 := q_II es34; omega) (((q_Ia es34 : gA s34 49 = gA s32 49)).trans hj82_2.1) (fun j hj => by rw [(q_Ia es34 : gA s34 59 = gA s32 59)]; exact hj82_3 j hj) (⟨⟨((q_Ia es34 : gA s34 39 = gA s32 39)).trans hj82_2.2.1, ((q_Ia es34 : gA s34 42 = gA s32 42)).trans hj82_2.2.2.1, ((q_Ia es34 : gA s34 43 = gA s32 43)).trans hj82_2.2.2.2.1, ((q_Ia es34 : gA s34 44 = gA s32 44)).trans hj82_2.2.2.2.2⟩, fun j _ => by rw [((q_Ia es34 : gA s34 49 = gA s32 49)), hj82_2.1]⟩) (fun h9 => hj82_4 (by omega) (by have z : gI s34 55 = x31 := q_II es34; omega))
  unfold m_x12_tries
  have L3 : ∀ (n : Nat) (x64 : Int) (x65 : Int) (x66 : Int) (x67 : Int) (x68 : Int) (s69 : MS), Rr s69 → (x64 = p0 ∧ x65 = p1 ∧ x66 = p2 ∧ x67 = p3) → (0 ≤ x68 ∧ x68 ≤ 785) → (gA s69 49 = gA s 49 ∧ gA s69 39 = gA s 39 ∧ gA s69 42 = gA s 42 ∧ gA s69 43 = gA s 43 ∧ gA s69 44 = gA s 44) → (∀ j : Nat, (j : Int) < x68 → gA s69 59 j = gA s 49 j) → (785 - x68) < (n : Int) → wp (m_x12_tries_L3 n x64 x65 x66 x67 x68 s69) (fun q => (Rr q.2) ∧ (q.1 = 0 ∨ q.1 = 1) ∧ (KS s q.2) ∧ (RT q.2) ∧ (RW0 s q.2 p1.toNat) ∧ (q.1 = 0 → ∀ j, gA q.2 49 j = gA s 49 j)) := by
    refine fr_ind (fun x64 x65 x66 x67 x68 s69 hRs69 hv3_0 hv3_1 hv3_2 hv3_3 hm3 => ?_) (fun n3 ih3 x64 x65 x66 x67 x68 s69 hRs69 hv3_0 hv3_1 hv3_2 hv3_3 hm3 => ?_)
    · exfalso; omega
    · show wp (m_x12_tries_b3 (m_x12_tries_L3 n3) x64 x65 x66 x67 x68 s69) _
      unfold m_x12_tries_b3
      refine wp_rg (by omega) ?_
      refine wp_if (fun c7 => ?_) (fun c7 => ?_)
      · skip
        have L34 : ∀ (n : Nat) (x46 : Int) (x47 : Int) (x48 : Int) (x49 : Int) (x50 : Int) (s51 : MS), Rr s51 → (x46 = p0 ∧ x47 = p1 ∧ x48 = p2 ∧ x49 = p3) → (0 ≤ x50 ∧ x50 ≤ 48) → (gA s51 49 = gA s 49 ∧ gA s51 39 = gA s 39 ∧ gA s51 42 = gA s 42 ∧ gA s51 43 = gA s 43 ∧ gA s51 44 = gA s 44) → (∀ j : Nat, (j : Int) < 785 → gA s51 59 j = gA s 49 j) → (48 - x50) < (n : Int) → wp (m_x12_tries_L34 n x46 x47 x48 x49 x50 s51) (fun q => (Rr q.2) ∧ (q.1 = 0 ∨ q.1 = 1) ∧ (KS s q.2) ∧ (RT q.2) ∧ (RW0 s q.2 p1.toNat) ∧ (q.1 = 0 → ∀ j, gA q.2 49 j = gA s 49 j)) := by
          refine fr_ind (fun x46 x47 x48 x49 x50 s51 hRs51 hv34_0 hv34_1 hv34_2 hv34_3 hm34 => ?_) (fun n34 ih34 x46 x47 x48 x49 x50 s51 hRs51 hv34_0 hv34_1 hv34_2 hv34_3 hm34 => ?_)
          · exfalso; omega
          · show wp (m_x12_tries_b34 (m_x12_tries_L34 n34) x46 x47 x48 x49 x50 s51) _
            unfold m_x12_tries_b34
            refine wp_rg (by omega) ?_
            refine wp_if (fun c8 => ?_) (fun c8 => ?_)
            · skip
              refine wp_rg (by omega) ?_
              refine wp_if (fun c9 => ?_) (fun c9 => ?_)
              · skip
                refine wp_bn (w_x12_valueOf hRs51 (by show 0 ≤ x47 ∧ x47 < 8; omega) (by show R2 x48; omega) (RT_x hp2 (fun k _ => by rw [hv34_2.1]) (by rw [hv34_2.2.1]) (by rw [hv34_2.2.1])) (by rw [hv34_2.1, hv34_0.2.1]; omega)) (fun r57 er57 hr57 => ?_)
                obtain ⟨hr57_0, hr57_1⟩ := hr57
                have hr57_0 : R2 r57 := hr57_0
                have hr57_1 : r57 = -1 ∨ gA s51 49 x47.toNat < 254 := hr57_1
                rw [hv34_2.1, hv34_0.2.1] at hr57_1
                refine wp_rg (by omega) ?_
                refine wp_if (fun c10 => ?_) (fun c10 => ?_)
                · skip
                  exact J82 x46 x47 x48 x49 1 s51 hRs51 (by show x46 = p0 ∧ x47 = p1 ∧ x48 = p2 ∧ x49 = p3; omega) (by show (1 : Int) = 0 ∨ (1 : Int) = 1; omega) (hv34_2) (hv34_3) (fun h9 h8 => by omega)
                · skip
                  unfold m_x12_tries_J81
                  exact J82 x46 x47 x48 x49 0 s51 hRs51 (by show x46 = p0 ∧ x47 = p1 ∧ x48 = p2 ∧ x49 = p3; omega) (by show (0 : Int) = 0 ∨ (0 : Int) = 1; omega) (hv34_2) (hv34_3) (fun h9 h8 => by omega)
              · skip
                unfold m_x12_tries_J81
                exact J82 x46 x47 x48 x49 0 s51 hRs51 (by show x46 = p0 ∧ x47 = p1 ∧ x48 = p2 ∧ x49 = p3; omega) (by show (0 : Int) = 0 ∨ (0 : Int) = 1; omega) (hv34_2) (hv34_3) (fun h9 h8 => by omega)
            · skip
              refine wp_rdIn (by omega) (fun y60 ey60 => ?_)
              have by60 : (0 : Int) ≤ y60 ∧ y60 ≤ 1 := ey60 ▸ hRs51.2.1 54 _ (by show _ < 48; omega)
              have k60 : (0 : Int) ≤ y60 ∧ y60 ≤ 1 := ey60 ▸ hRs51.2.1 54 _ (by show _ < 48; omega)
              refine wp_inb (by omega) ?_
              refine wp_bo (by omega) ?_
              refine wp_stn (fun s63 es63 => ?_)
              have hRs63 : Rr s63 := es63 ▸ Rr.uAu hRs51 (by show (0 : Int) ≤ y60 ∧ y60 ≤ 1; omega)
              exact ih34 x46 x47 x48 x49 (x50 + 1) s63 hRs63 (by show x46 = p0 ∧ x47 = p1 ∧ x48 = p2 ∧ x49 = p3; omega) (by show 0 ≤ (x50 + 1) ∧ (x50 + 1) ≤ 48; omega) (⟨((q_Aa es63 (by decide) : gA s63 49 = gA s51 49)).trans hv34_2.1, ((q_Aa es63 (by decide) : gA s63 39 = gA s51 39)).trans hv34_2.2.1, ((q_Aa es63 (by decide) : gA s63 42 = gA s51 42)).trans hv34_2.2.2.1, ((q_Aa es63 (by decide) : gA s63 43 = gA s51 43)).trans hv34_2.2.2.2.1, ((q_Aa es63 (by decide) : gA s63 44 = gA s51 44)).trans hv34_2.2.2.2.2⟩) (fun j hj => by rw [(q_Aa es63 (by decide) : gA s63 59 = gA s51 59)]; exact hv34_3 j hj) (by omega)
        exact L34 FU x64 x65 x66 x67 0 s69 hRs69 (by show x64 = p0 ∧ x65 = p1 ∧ x66 = p2 ∧ x67 = p3; omega) (by show 0 ≤ (0 : Int) ∧ (0 : Int) ≤ 48; omega) (hv3_2) (fun j hj => hv3_3 j (by omega)) (by have := FU_big; have := FU_big2; omega)
      · skip
        refine wp_rdIn (by omega) (fun y72 ey72 => ?_)
        have by72 : (-2147483648 : Int) ≤ y72 ∧ y72 ≤ 2147483647 := ey72 ▸ hRs69.2.1 49 _ (by show _ < 906; omega)
        have k72 : R2 y72 := ey72 ▸ R49 hRs69 (by omega)
        refine wp_inb (by omega) ?_
        refine wp_stn (fun s74 es74 => ?_)
        have hRs74 : Rr s74 := es74 ▸ Rr.uAu hRs69 (by show (-2147483648 : Int) ≤ y72 ∧ y72 ≤ 2147483647; omega)
        exact ih3 x64 x65 x66 x67 (x68 + 1) s74 hRs74 (by show x64 = p0 ∧ x65 = p1 ∧ x66 = p2 ∧ x67 = p3; omega) (by show 0 ≤ (x68 + 1) ∧ (x68 + 1) ≤ 785; omega) (⟨((q_Aa es74 (by decide) : gA s74 49 = gA s69 49)).trans hv3_2.1, ((q_Aa es74 (by decide) : gA s74 39 = gA s69 39)).trans hv3_2.2.1, ((q_Aa es74 (by decide) : gA s74 42 = gA s69 42)).trans hv3_2.2.2.1, ((q_Aa es74 (by decide) : gA s74 43 = gA s69 43)).trans hv3_2.2.2.2.1, ((q_Aa es74 (by decide) : gA s74 44 = gA s69 44)).trans hv3_2.2.2.2.2⟩) (fun j hj => by
          rw [(q_AA es74 : gA s74 59 = _)]
          by_cases z : j = x68.toNat
          · rw [z, upZ_s, ← ey72, hv3_2.1]
          · rw [upZ_n z]; exact hv3_3 j (by omega)) (by omega)
  exact L3 FU p0 p1 p2 p3 0 s hRs (by show p0 = p0 ∧ p1 = p1 ∧ p2 = p2 ∧ p3 = p3; omega) (by show 0 ≤ (0 : Int) ∧ (0 : Int) ≤ 785; omega) (⟨rfl, rfl, rfl, rfl, rfl⟩) (fun j hj => by omega) (by have := FU_big; have := FU_big2; omega)
