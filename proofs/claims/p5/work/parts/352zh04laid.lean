/-! ===== on: all is laid ===== -/
theorem LB_x {f g : Nat → Int} {E : Int} {b : Nat} (H : LB_r f E b) (hE : E ≤ 6) (e : ∀ j, 17 + 16 * b ≤ j → j < 33 + 16 * b → g j = f j) : LB_r g E b := by
  obtain ⟨a, h⟩ := H
  unfold LB_r
  rw [e (17 + 16 * b) (by omega) (by omega), e (18 + 16 * b) (by omega) (by omega), e (19 + 16 * b) (by omega) (by omega), e (20 + 16 * b) (by omega) (by omega)]
  refine ⟨a, ?_⟩
  rcases h with ⟨h1, h2⟩ | ⟨h1, h2, h3, h4, h5, h6⟩
  · exact Or.inl ⟨h1, fun i a b => by rw [e _ (by omega) (by omega)]; exact h2 i a b⟩
  · exact Or.inr ⟨h1, h2, h3, fun k hk => by rw [e _ (by omega) (by omega)]; exact h4 k hk, fun k hk => by rw [e _ (by omega) (by omega)]; exact h5 k hk, fun k hk w => by rw [e _ (by omega) (by omega), e _ (by omega) (by omega)]; exact h6 k hk w⟩
theorem LB_z {f : Nat → Int} {E : Int} {b : Nat} (h : ∀ i, i < 16 → f (17 + 16 * b + i) = 0) : LB_r f E b := by
  have h0 := h 0 (by omega)
  have h1 := h 1 (by omega)
  rw [show 17 + 16 * b + 0 = 17 + 16 * b by omega] at h0
  rw [show 17 + 16 * b + 1 = 18 + 16 * b by omega] at h1
  exact ⟨⟨by omega, by omega⟩, Or.inl ⟨by omega, fun i _ hi => h i hi⟩⟩
/-- roots and cost as an image lays them -/
def LR (f : Nat → Int) (n : Int) (P : Prop) : Prop := (0 ≤ f 16 ∧ f 16 ≤ 999999) ∧ ∀ u : Nat, (u : Int) < n → ((-1) ≤ f u ∧ f u ≤ 255 ∧ (P → 0 ≤ f u)) ∧ ((-1) ≤ f (8 + u) ∧ f (8 + u) ≤ 255 ∧ (P → 0 ≤ f (8 + u)))
theorem LR_x {f g : Nat → Int} {n : Int} {P Q : Prop} (H : LR f n P) (hn : n ≤ 8) (h : Q → P) (e : ∀ j, j < 17 → g j = f j) : LR g n Q := by
  refine ⟨by rw [e 16 (by omega)]; exact H.1, fun u hu => ?_⟩
  have q := H.2 u hu
  rw [e u (by omega), e (8 + u) (by omega)]
  exact ⟨⟨q.1.1, q.1.2.1, fun w => q.1.2.2 (h w)⟩, q.2.1, q.2.2.1, fun w => q.2.2.2 (h w)⟩
/-- blocks past the last one aren't there -/
def LZ (s S : MS) (n : Int) : Prop := ∀ b : Nat, gA s 39 5 ≤ (b : Int) → (b : Int) < n → gA S 113 (17 + 16 * b) = 0 ∧ gA S 113 (18 + 16 * b) = 0
def LA (s S : MS) (n : Int) (e : Int) : Prop := ∀ b : Nat, (b : Int) < n → gI S 114 ≤ e → LB_r (gA S 113) (gA s 39 6) b
set_option maxHeartbeats 2000000 in
theorem w_x12_isLaid {p0 : Int} {s : MS} (hRs : Rr s) (hp0 : 0 ≤ p0 ∧ p0 ≤ 1599) (hp1 : 0 ≤ gA s 39 5 ∧ gA s 39 5 ≤ 48) (hp2 : 3 ≤ gA s 39 6 ∧ gA s 39 6 ≤ 6) : wp (m_x12_isLaid p0 s) (fun q => (Rr q.2) ∧ (q.1 = 0 ∨ (q.1 = 1 ∧ LBs q.2 ∧ (0 ≤ gA q.2 113 16 ∧ gA q.2 113 16 ≤ 999999) ∧ (∀ u, u < 16 → 0 ≤ gA q.2 113 u ∧ gA q.2 113 u ≤ 255) ∧ ∀ b : Nat, b < 48 → gA q.2 39 5 ≤ (b : Int) → gA q.2 113 (17 + 16 * b) = 0 ∧ gA q.2 113 (18 + 16 * b) = 0))) := by
  unfold m_x12_isLaid
  refine wp_stn (fun s51 es51 => ?_)
  have hRs51 : Rr s51 := es51 ▸ Rr.uI hRs (by show (0 : Int) ≤ (0 : Int) ∧ (0 : Int) ≤ 100000; omega)
  have i51 : gI s51 114 = 0 := q_II es51
  refine wp_bn (w_x12_byteRead hRs51 (by show 0 ≤ p0 ∧ p0 ≤ 1599; omega) (by show gI s51 114 ≤ 90000; have : gI s51 114 = 0 := q_II es51; omega)) (fun qqr54 eqr54s hqr54s => ?_)
  obtain ⟨qr54r, qr54s⟩ := qqr54
  dsimp only at eqr54s hqr54s ⊢
  have Fqr54s : F_x12_byteRead s51 qr54s := fr_x12_byteRead eqr54s
  obtain ⟨hRqr54s, hqr54s_0, hqr54s_1, hqr54s_2⟩ := hqr54s
  have hqr54s_0 : (-1) ≤ qr54r ∧ qr54r ≤ 255 := hqr54s_0
  have hqr54s_1 : gI qr54s 114 = gI s51 114 + 1 := hqr54s_1
  have hqr54s_2 : gI qr54s 114 ≤ p0 → 0 ≤ qr54r := hqr54s_2
  refine wp_bn (w_x12_twoRead hRqr54s (by show 0 ≤ p0 ∧ p0 ≤ 1599; have : gI s51 114 = 0 := q_II es51; have : (0 : Int) ≤ gI qr54s 114 ∧ gI qr54s 114 ≤ 100000 := hRqr54s.1 114; omega) (by show gI qr54s 114 ≤ 80000; have : gI s51 114 = 0 := q_II es51; have : (0 : Int) ≤ gI qr54s 114 ∧ gI qr54s 114 ≤ 100000 := hRqr54s.1 114; omega)) (fun qqr57 eqr57s hqr57s => ?_)
  obtain ⟨qr57r, qr57s⟩ := qqr57
  dsimp only at eqr57s hqr57s ⊢
  have Fqr57s : F_x12_twoRead qr54s qr57s := fr_x12_twoRead eqr57s
  obtain ⟨hRqr57s, hqr57s_0, hqr57s_1, hqr57s_2⟩ := hqr57s
  have hqr57s_0 : (-1) ≤ qr57r ∧ qr57r ≤ 65535 := hqr57s_0
  have hqr57s_1 : gI qr57s 114 = gI qr54s 114 + 2 := hqr57s_1
  have hqr57s_2 : gI qr57s 114 ≤ p0 → 0 ≤ qr57r := hqr57s_2
  refine wp_inb (by have : (0 : Int) ≤ gI qr57s 114 ∧ gI qr57s 114 ≤ 100000 := hRqr57s.1 114; have : gI s51 114 = 0 := q_II es51; have : (0 : Int) ≤ gI qr54s 114 ∧ gI qr54s 114 ≤ 100000 := hRqr54s.1 114; omega) ?_
  refine wp_stn (fun s59 es59 => ?_)
  have hRs59 : Rr s59 := es59 ▸ Rr.uAu hRqr57s (by show (-2147483648 : Int) ≤ ((65536 * qr54r) + qr57r) ∧ ((65536 * qr54r) + qr57r) ≤ 2147483647; have : (0 : Int) ≤ gI qr57s 114 ∧ gI qr57s 114 ≤ 100000 := hRqr57s.1 114; have : gI s51 114 = 0 := q_II es51; have : (0 : Int) ≤ gI qr54s 114 ∧ gI qr54s 114 ≤ 100000 := hRqr54s.1 114; omega)
  have k59 : gA s59 113 = upZ (gA qr57s 113) 16 (65536 * qr54r + qr57r) := q_AA es59
  have i59 : gI s59 114 = gI qr57s 114 := (q_Ai es59 : gI s59 114 = gI qr57s 114)
  refine wp_rg (by have : (0 : Int) ≤ gI qr57s 114 ∧ gI qr57s 114 ≤ 100000 := hRqr57s.1 114; have : gI s51 114 = 0 := q_II es51; have : (0 : Int) ≤ gI qr54s 114 ∧ gI qr54s 114 ≤ 100000 := hRqr54s.1 114; omega) ?_
  refine wp_if (fun c1 => ?_) (fun c1 => ?_)
  · skip
    unfold m_x12_isLaid_J54
    exact wp_some ⟨hRs59, by show (0 : Int) = 0 ∨ ((0 : Int) = 1 ∧ LBs s59 ∧ (0 ≤ gA s59 113 16 ∧ gA s59 113 16 ≤ 999999) ∧ (∀ u, u < 16 → 0 ≤ gA s59 113 u ∧ gA s59 113 u ≤ 255) ∧ ∀ b : Nat, b < 48 → gA s59 39 5 ≤ (b : Int) → gA s59 113 (17 + 16 * b) = 0 ∧ gA s59 113 (18 + 16 * b) = 0); first | exact Or.inl rfl | exact Or.inr ⟨rfl, ⟨by rw [hv135_2]; omega, by rw [hv135_2]; omega, fun b hb => by rw [hv135_2]; exact hv135_4 b (by omega) (by omega)⟩, hv135_3.1, fun u hu => (by
      by_cases z : u < 8
      · have q := hv135_3.2 u (by omega)
        exact ⟨q.1.2.2 (by omega), q.1.2.1⟩
      · have q := hv135_3.2 (u - 8) (by omega)
        rw [show 8 + (u - 8) = u by omega] at q
        exact ⟨q.2.2.2 (by omega), q.2.2.1⟩), fun b hb h9 => hv135_5 b (by rw [hv135_2] at h9; exact h9) (by omega)⟩⟩
  · skip
    refine wp_rg (by have : (0 : Int) ≤ gI qr57s 114 ∧ gI qr57s 114 ≤ 100000 := hRqr57s.1 114; have : gI s51 114 = 0 := q_II es51; have : (0 : Int) ≤ gI qr54s 114 ∧ gI qr54s 114 ≤ 100000 := hRqr54s.1 114; omega) ?_
    refine wp_if (fun c2 => ?_) (fun c2 => ?_)
    · skip
      unfold m_x12_isLaid_J54
      exact wp_some ⟨hRs59, by show (0 : Int) = 0 ∨ ((0 : Int) = 1 ∧ LBs s59 ∧ (0 ≤ gA s59 113 16 ∧ gA s59 113 16 ≤ 999999) ∧ (∀ u, u < 16 → 0 ≤ gA s59 113 u ∧ gA s59 113 u ≤ 255) ∧ ∀ b : Nat, b < 48 → gA s59 39 5 ≤ (b : Int) → gA s59 113 (17 + 16 * b) = 0 ∧ gA s59 113 (18 + 16 * b) = 0); first | exact Or.inl rfl | exact Or.inr ⟨rfl, ⟨by rw [hv135_2]; omega, by rw [hv135_2]; omega, fun b hb => by rw [hv135_2]; exact hv135_4 b (by omega) (by omega)⟩, hv135_3.1, fun u hu => (by
      by_cases z : u < 8
      · have q := hv135_3.2 u (by omega)
        exact ⟨q.1.2.2 (by omega), q.1.2.1⟩
      · have q := hv135_3.2 (u - 8) (by omega)
        rw [show 8 + (u - 8) = u by omega] at q
        exact ⟨q.2.2.2 (by omega), q.2.2.1⟩), fun b hb h9 => hv135_5 b (by rw [hv135_2] at h9; exact h9) (by omega)⟩⟩
    · skip
      refine wp_rdIn (by have : (0 : Int) ≤ gI qr57s 114 ∧ gI qr57s 114 ≤ 100000 := hRqr57s.1 114; have : gI s51 114 = 0 := q_II es51; have : (0 : Int) ≤ gI qr54s 114 ∧ gI qr54s 114 ≤ 100000 := hRqr54s.1 114; omega) (fun y64 ey64 => ?_)
      have by64 : (-2147483648 : Int) ≤ y64 ∧ y64 ≤ 2147483647 := ey64 ▸ hRs59.2.1 113 _ (by show _ < 785; have : (0 : Int) ≤ gI qr57s 114 ∧ gI qr57s 114 ≤ 100000 := hRqr57s.1 114; have : gI s51 114 = 0 := q_II es51; have : (0 : Int) ≤ gI qr54s 114 ∧ gI qr54s 114 ≤ 100000 := hRqr54s.1 114; omega)
      have k64 : y64 = 65536 * qr54r + qr57r := by rw [← ey64, k59]; exact upZ_s _ _ _
      refine wp_rg (by have : (0 : Int) ≤ gI qr57s 114 ∧ gI qr57s 114 ≤ 100000 := hRqr57s.1 114; have : gI s51 114 = 0 := q_II es51; have : (0 : Int) ≤ gI qr54s 114 ∧ gI qr54s 114 ≤ 100000 := hRqr54s.1 114; omega) ?_
      refine wp_if (fun c3 => ?_) (fun c3 => ?_)
      · skip
        have L59 : ∀ (n : Nat) (x35 : Int) (x36 : Int) (s37 : MS), Rr s37 → (x35 = p0) → (0 ≤ x36 ∧ x36 ≤ 8) → (gI s37 114 = 3 + 2 * x36 ∧ gA s37 39 = gA s 39) → (LR (gA s37 113) x36 (gI s37 114 ≤ p0)) → (8 - x36) < (n : Int) → wp (m_x12_isLaid_L59 n x35 x36 s37) (fun q => (Rr q.2) ∧ (q.1 = 0 ∨ (q.1 = 1 ∧ LBs q.2 ∧ (0 ≤ gA q.2 113 16 ∧ gA q.2 113 16 ≤ 999999) ∧ (∀ u, u < 16 → 0 ≤ gA q.2 113 u ∧ gA q.2 113 u ≤ 255) ∧ ∀ b : Nat, b < 48 → gA q.2 39 5 ≤ (b : Int) → gA q.2 113 (17 + 16 * b) = 0 ∧ gA q.2 113 (18 + 16 * b) = 0))) := by
          refine fr_ind (fun x35 x36 s37 hRs37 hv59_0 hv59_1 hv59_2 hv59_3 hm59 => ?_) (fun n59 ih59 x35 x36 s37 hRs37 hv59_0 hv59_1 hv59_2 hv59_3 hm59 => ?_)
          · exfalso; have : (0 : Int) ≤ gI s37 114 ∧ gI s37 114 ≤ 100000 := hRs37.1 114; omega
          · show wp (m_x12_isLaid_b59 (m_x12_isLaid_L59 n59) x35 x36 s37) _
            unfold m_x12_isLaid_b59
            refine wp_rg (by have : (0 : Int) ≤ gI s37 114 ∧ gI s37 114 ≤ 100000 := hRs37.1 114; have : (0 : Int) ≤ gI qr57s 114 ∧ gI qr57s 114 ≤ 100000 := hRqr57s.1 114; have : gI s51 114 = 0 := q_II es51; have : (0 : Int) ≤ gI qr54s 114 ∧ gI qr54s 114 ≤ 100000 := hRqr54s.1 114; omega) ?_
            refine wp_if (fun c4 => ?_) (fun c4 => ?_)
            · skip
              have L102 : ∀ (n : Nat) (x20 : Int) (x21 : Int) (s22 : MS), Rr s22 → (x20 = p0) → (0 ≤ x21 ∧ x21 ≤ gA s 39 5) → ((0 ≤ gI s22 114 ∧ gI s22 114 ≤ 19 + 28 * x21) ∧ gA s22 39 = gA s 39) → (LR (gA s22 113) 8 (gI s22 114 ≤ p0)) → (LA s s22 x21 p0) → (48 - x21) < (n : Int) → wp (m_x12_isLaid_L102 n x20 x21 s22) (fun q => (Rr q.2) ∧ (q.1 = 0 ∨ (q.1 = 1 ∧ LBs q.2 ∧ (0 ≤ gA q.2 113 16 ∧ gA q.2 113 16 ≤ 999999) ∧ (∀ u, u < 16 → 0 ≤ gA q.2 113 u ∧ gA q.2 113 u ≤ 255) ∧ ∀ b : Nat, b < 48 → gA q.2 39 5 ≤ (b : Int) → gA q.2 113 (17 + 16 * b) = 0 ∧ gA q.2 113 (18 + 16 * b) = 0))) := by
                refine fr_ind (fun x20 x21 s22 hRs22 hv102_0 hv102_1 hv102_2 hv102_3 hv102_4 hm102 => ?_) (fun n102 ih102 x20 x21 s22 hRs22 hv102_0 hv102_1 hv102_2 hv102_3 hv102_4 hm102 => ?_)
                · exfalso; have : (0 : Int) ≤ gI s22 114 ∧ gI s22 114 ≤ 100000 := hRs22.1 114; omega
                · show wp (m_x12_isLaid_b102 (m_x12_isLaid_L102 n102) x20 x21 s22) _
                  unfold m_x12_isLaid_b102
                  have e5 : gA s22 39 5 = gA s 39 5 := by rw [hv102_2.2]
                  have e6 : gA s22 39 6 = gA s 39 6 := by rw [hv102_2.2]
                  refine wp_bn (w_x12_blockMany hRs22) (fun r24 er24 hr24 => ?_)
                  have hr24_0 := hr24
                  have hr24_0 : r24 = gA s22 39 5 := hr24_0
                  refine wp_rg (by have : (0 : Int) ≤ gI s22 114 ∧ gI s22 114 ≤ 100000 := hRs22.1 114; have : (0 : Int) ≤ gI s37 114 ∧ gI s37 114 ≤ 100000 := hRs37.1 114; have : (0 : Int) ≤ gI qr57s 114 ∧ gI qr57s 114 ≤ 100000 := hRqr57s.1 114; have : gI s51 114 = 0 := q_II es51; have : (0 : Int) ≤ gI qr54s 114 ∧ gI qr54s 114 ≤ 100000 := hRqr54s.1 114; omega) ?_
                  refine wp_rg (by have : (0 : Int) ≤ gI s22 114 ∧ gI s22 114 ≤ 100000 := hRs22.1 114; have : (0 : Int) ≤ gI s37 114 ∧ gI s37 114 ≤ 100000 := hRs37.1 114; have : (0 : Int) ≤ gI qr57s 114 ∧ gI qr57s 114 ≤ 100000 := hRqr57s.1 114; have : gI s51 114 = 0 := q_II es51; have : (0 : Int) ≤ gI qr54s 114 ∧ gI qr54s 114 ≤ 100000 := hRqr54s.1 114; omega) ?_
                  refine wp_if (fun c5 => ?_) (fun c5 => ?_)
                  · skip
                    refine wp_bn (w_x12_blockMany hRs22) (fun r29 er29 hr29 => ?_)
                    have hr29_0 := hr29
                    have hr29_0 : r29 = gA s22 39 5 := hr29_0
                    have L135 : ∀ (n : Nat) (x4 : Int) (x5 : Int) (s6 : MS), Rr s6 → (x4 = p0) → (0 ≤ x5 ∧ x5 ≤ 48) → (gA s6 39 = gA s 39) → (LR (gA s6 113) 8 (gI s6 114 ≤ p0)) → (LA s s6 x5 p0) → (LZ s s6 x5) → (48 - x5) < (n : Int) → wp (m_x12_isLaid_L135 n x4 x5 s6) (fun q => (Rr q.2) ∧ (q.1 = 0 ∨ (q.1 = 1 ∧ LBs q.2 ∧ (0 ≤ gA q.2 113 16 ∧ gA q.2 113 16 ≤ 999999) ∧ (∀ u, u < 16 → 0 ≤ gA q.2 113 u ∧ gA q.2 113 u ≤ 255) ∧ ∀ b : Nat, b < 48 → gA q.2 39 5 ≤ (b : Int) → gA q.2 113 (17 + 16 * b) = 0 ∧ gA q.2 113 (18 + 16 * b) = 0))) := by
                      refine fr_ind (fun x4 x5 s6 hRs6 hv135_0 hv135_1 hv135_2 hv135_3 hv135_4 hv135_5 hm135 => ?_) (fun n135 ih135 x4 x5 s6 hRs6 hv135_0 hv135_1 hv135_2 hv135_3 hv135_4 hv135_5 hm135 => ?_)
                      · exfalso; have : (0 : Int) ≤ gI s6 114 ∧ gI s6 114 ≤ 100000 := hRs6.1 114; omega
                      · show wp (m_x12_isLaid_b135 (m_x12_isLaid_L135 n135) x4 x5 s6) _
                        unfold m_x12_isLaid_b135
                        refine wp_rg (by have : (0 : Int) ≤ gI s6 114 ∧ gI s6 114 ≤ 100000 := hRs6.1 114; have : (0 : Int) ≤ gI s22 114 ∧ gI s22 114 ≤ 100000 := hRs22.1 114; have : (0 : Int) ≤ gI s37 114 ∧ gI s37 114 ≤ 100000 := hRs37.1 114; have : (0 : Int) ≤ gI qr57s 114 ∧ gI qr57s 114 ≤ 100000 := hRqr57s.1 114; have : gI s51 114 = 0 := q_II es51; have : (0 : Int) ≤ gI qr54s 114 ∧ gI qr54s 114 ≤ 100000 := hRqr54s.1 114; omega) ?_
                        refine wp_if (fun c6 => ?_) (fun c6 => ?_)
                        · skip
                          refine wp_rg (by have : (0 : Int) ≤ gI s22 114 ∧ gI s22 114 ≤ 100000 := hRs22.1 114; have : (0 : Int) ≤ gI s37 114 ∧ gI s37 114 ≤ 100000 := hRs37.1 114; have : (0 : Int) ≤ gI qr57s 114 ∧ gI qr57s 114 ≤ 100000 := hRqr57s.1 114; have : gI s51 114 = 0 := q_II es51; have : (0 : Int) ≤ gI qr54s 114 ∧ gI qr54s 114 ≤ 100000 := hRqr54s.1 114; have : (0 : Int) ≤ gI s6 114 ∧ gI s6 114 ≤ 100000 := hRs6.1 114; omega) ?_
                          refine wp_rg (by have : (0 : Int) ≤ gI s6 114 ∧ gI s6 114 ≤ 100000 := hRs6.1 114; have : (0 : Int) ≤ gI s22 114 ∧ gI s22 114 ≤ 100000 := hRs22.1 114; have : (0 : Int) ≤ gI s37 114 ∧ gI s37 114 ≤ 100000 := hRs37.1 114; have : (0 : Int) ≤ gI qr57s 114 ∧ gI qr57s 114 ≤ 100000 := hRqr57s.1 114; have : gI s51 114 = 0 := q_II es51; have : (0 : Int) ≤ gI qr54s 114 ∧ gI qr54s 114 ≤ 100000 := hRqr54s.1 114; omega) ?_
                          refine wp_if (fun c7 => ?_) (fun c7 => ?_)
                          · skip
                            unfold m_x12_isLaid_J194
                            refine wp_bo (by have : (0 : Int) ≤ gI s6 114 ∧ gI s6 114 ≤ 100000 := hRs6.1 114; have : (0 : Int) ≤ gI s22 114 ∧ gI s22 114 ≤ 100000 := hRs22.1 114; have : (0 : Int) ≤ gI s37 114 ∧ gI s37 114 ≤ 100000 := hRs37.1 114; have : (0 : Int) ≤ gI qr57s 114 ∧ gI qr57s 114 ≤ 100000 := hRqr57s.1 114; have : gI s51 114 = 0 := q_II es51; have : (0 : Int) ≤ gI qr54s 114 ∧ gI qr54s 114 ≤ 100000 := hRqr54s.1 114; omega) ?_
                            exact wp_some ⟨hRs6, by show (1 : Int) = 0 ∨ ((1 : Int) = 1 ∧ LBs s6 ∧ (0 ≤ gA s6 113 16 ∧ gA s6 113 16 ≤ 999999) ∧ (∀ u, u < 16 → 0 ≤ gA s6 113 u ∧ gA s6 113 u ≤ 255) ∧ ∀ b : Nat, b < 48 → gA s6 39 5 ≤ (b : Int) → gA s6 113 (17 + 16 * b) = 0 ∧ gA s6 113 (18 + 16 * b) = 0); first | exact Or.inl rfl | exact Or.inr ⟨rfl, ⟨by rw [hv135_2]; omega, by rw [hv135_2]; omega, fun b hb => by rw [hv135_2]; exact hv135_4 b (by omega) (by omega)⟩, hv135_3.1, fun u hu => (by
      by_cases z : u < 8
      · have q := hv135_3.2 u (by omega)
        exact ⟨q.1.2.2 (by omega), q.1.2.1⟩
      · have q := hv135_3.2 (u - 8) (by omega)
        rw [show 8 + (u - 8) = u by omega] at q
        exact ⟨q.2.2.2 (by omega), q.2.2.1⟩), fun b hb h9 => hv135_5 b (by rw [hv135_2] at h9; exact h9) (by omega)⟩⟩
                          · skip
                            unfold m_x12_isLaid_J194
                            refine wp_bo (by have : (0 : Int) ≤ gI s6 114 ∧ gI s6 114 ≤ 100000 := hRs6.1 114; have : (0 : Int) ≤ gI s22 114 ∧ gI s22 114 ≤ 100000 := hRs22.1 114; have : (0 : Int) ≤ gI s37 114 ∧ gI s37 114 ≤ 100000 := hRs37.1 114; have : (0 : Int) ≤ gI qr57s 114 ∧ gI qr57s 114 ≤ 100000 := hRqr57s.1 114; have : gI s51 114 = 0 := q_II es51; have : (0 : Int) ≤ gI qr54s 114 ∧ gI qr54s 114 ≤ 100000 := hRqr54s.1 114; omega) ?_
                            exact wp_some ⟨hRs6, by show (0 : Int) = 0 ∨ ((0 : Int) = 1 ∧ LBs s6 ∧ (0 ≤ gA s6 113 16 ∧ gA s6 113 16 ≤ 999999) ∧ (∀ u, u < 16 → 0 ≤ gA s6 113 u ∧ gA s6 113 u ≤ 255) ∧ ∀ b : Nat, b < 48 → gA s6 39 5 ≤ (b : Int) → gA s6 113 (17 + 16 * b) = 0 ∧ gA s6 113 (18 + 16 * b) = 0); first | exact Or.inl rfl | exact Or.inr ⟨rfl, ⟨by rw [hv135_2]; omega, by rw [hv135_2]; omega, fun b hb => by rw [hv135_2]; exact hv135_4 b (by omega) (by omega)⟩, hv135_3.1, fun u hu => (by
      by_cases z : u < 8
      · have q := hv135_3.2 u (by omega)
        exact ⟨q.1.2.2 (by omega), q.1.2.1⟩
      · have q := hv135_3.2 (u - 8) (by omega)
        rw [show 8 + (u - 8) = u by omega] at q
        exact ⟨q.2.2.2 (by omega), q.2.2.1⟩), fun b hb h9 => hv135_5 b (by rw [hv135_2] at h9; exact h9) (by omega)⟩⟩
                        · skip
                          have L145 : ∀ (n : Nat) (x7 : Int) (x8 : Int) (x9 : Int) (s10 : MS), Rr s10 → (x7 = p0) → (x8 = x5) → (0 ≤ x9 ∧ x9 ≤ 16) → (gA s10 39 = gA s 39) → (LR (gA s10 113) 8 (gI s10 114 ≤ p0)) → (LA s s10 x5 p0) → (∀ i : Nat, (i : Int) < x9 → gA s10 113 (17 + 16 * x5.toNat + i) = 0) → (LZ s s10 x5) → (16 - x9) < (n : Int) → wp (m_x12_isLaid_L145 (m_x12_isLaid_L135 n135) n x7 x8 x9 s10) (fun q => (Rr q.2) ∧ (q.1 = 0 ∨ (q.1 = 1 ∧ LBs q.2 ∧ (0 ≤ gA q.2 113 16 ∧ gA q.2 113 16 ≤ 999999) ∧ (∀ u, u < 16 → 0 ≤ gA q.2 113 u ∧ gA q.2 113 u ≤ 255) ∧ ∀ b : Nat, b < 48 → gA q.2 39 5 ≤ (b : Int) → gA q.2 113 (17 + 16 * b) = 0 ∧ gA q.2 113 (18 + 16 * b) = 0))) := by
                            refine fr_ind (fun x7 x8 x9 s10 hRs10 hv145_0 hv145_1 hv145_2 hv145_3 hv145_4 hv145_5 hv145_6 hv145_7 hm145 => ?_) (fun n145 ih145 x7 x8 x9 s10 hRs10 hv145_0 hv145_1 hv145_2 hv145_3 hv145_4 hv145_5 hv145_6 hv145_7 hm145 => ?_)
                            · exfalso; have : (0 : Int) ≤ gI s10 114 ∧ gI s10 114 ≤ 100000 := hRs10.1 114; omega
                            · show wp (m_x12_isLaid_b145 (m_x12_isLaid_L135 n135) (m_x12_isLaid_L145 (m_x12_isLaid_L135 n135) n145) x7 x8 x9 s10) _
                              unfold m_x12_isLaid_b145
                              refine wp_rg (by have : (0 : Int) ≤ gI s10 114 ∧ gI s10 114 ≤ 100000 := hRs10.1 114; have : (0 : Int) ≤ gI s6 114 ∧ gI s6 114 ≤ 100000 := hRs6.1 114; have : (0 : Int) ≤ gI s22 114 ∧ gI s22 114 ≤ 100000 := hRs22.1 114; have : (0 : Int) ≤ gI s37 114 ∧ gI s37 114 ≤ 100000 := hRs37.1 114; have : (0 : Int) ≤ gI qr57s 114 ∧ gI qr57s 114 ≤ 100000 := hRqr57s.1 114; have : gI s51 114 = 0 := q_II es51; have : (0 : Int) ≤ gI qr54s 114 ∧ gI qr54s 114 ≤ 100000 := hRqr54s.1 114; omega) ?_
                              refine wp_if (fun c8 => ?_) (fun c8 => ?_)
                              · skip
                                exact ih135 x7 (x8 + 1) s10 hRs10 (by show x7 = p0; have : (0 : Int) ≤ gI s10 114 ∧ gI s10 114 ≤ 100000 := hRs10.1 114; have : (0 : Int) ≤ gI s6 114 ∧ gI s6 114 ≤ 100000 := hRs6.1 114; have : (0 : Int) ≤ gI s22 114 ∧ gI s22 114 ≤ 100000 := hRs22.1 114; have : (0 : Int) ≤ gI s37 114 ∧ gI s37 114 ≤ 100000 := hRs37.1 114; have : (0 : Int) ≤ gI qr57s 114 ∧ gI qr57s 114 ≤ 100000 := hRqr57s.1 114; have : gI s51 114 = 0 := q_II es51; have : (0 : Int) ≤ gI qr54s 114 ∧ gI qr54s 114 ≤ 100000 := hRqr54s.1 114; omega) (by show 0 ≤ (x8 + 1) ∧ (x8 + 1) ≤ 48; have : (0 : Int) ≤ gI s10 114 ∧ gI s10 114 ≤ 100000 := hRs10.1 114; have : (0 : Int) ≤ gI s6 114 ∧ gI s6 114 ≤ 100000 := hRs6.1 114; have : (0 : Int) ≤ gI s22 114 ∧ gI s22 114 ≤ 100000 := hRs22.1 114; have : (0 : Int) ≤ gI s37 114 ∧ gI s37 114 ≤ 100000 := hRs37.1 114; have : (0 : Int) ≤ gI qr57s 114 ∧ gI qr57s 114 ≤ 100000 := hRqr57s.1 114; have : gI s51 114 = 0 := q_II es51; have : (0 : Int) ≤ gI qr54s 114 ∧ gI qr54s 114 ≤ 100000 := hRqr54s.1 114; omega) (hv145_3) (hv145_4) (fun b hb h9 => by
      by_cases z : b = x5.toNat
      · rw [z]; exact LB_z (fun i hi => hv145_6 i (by omega))
      · exact hv145_5 b (by omega) h9) (fun b h1 h2 => by
      by_cases z : b = x5.toNat
      · rw [z]; exact ⟨hv145_6 0 (by omega), by have q := hv145_6 1 (by omega); rw [show 17 + 16 * x5.toNat + 1 = 18 + 16 * x5.toNat by omega] at q; exact q⟩
      · exact hv145_7 b h1 (by omega)) (by have : (0 : Int) ≤ gI s10 114 ∧ gI s10 114 ≤ 100000 := hRs10.1 114; have : (0 : Int) ≤ gI s6 114 ∧ gI s6 114 ≤ 100000 := hRs6.1 114; have : (0 : Int) ≤ gI s22 114 ∧ gI s22 114 ≤ 100000 := hRs22.1 114; have : (0 : Int) ≤ gI s37 114 ∧ gI s37 114 ≤ 100000 := hRs37.1 114; have : (0 : Int) ≤ gI qr57s 114 ∧ gI qr57s 114 ≤ 100000 := hRqr57s.1 114; have : gI s51 114 = 0 := q_II es51; have : (0 : Int) ≤ gI qr54s 114 ∧ gI qr54s 114 ≤ 100000 := hRqr54s.1 114; omega)
                              · skip
                                refine wp_inb (by have : (0 : Int) ≤ gI s10 114 ∧ gI s10 114 ≤ 100000 := hRs10.1 114; have : (0 : Int) ≤ gI s6 114 ∧ gI s6 114 ≤ 100000 := hRs6.1 114; have : (0 : Int) ≤ gI s22 114 ∧ gI s22 114 ≤ 100000 := hRs22.1 114; have : (0 : Int) ≤ gI s37 114 ∧ gI s37 114 ≤ 100000 := hRs37.1 114; have : (0 : Int) ≤ gI qr57s 114 ∧ gI qr57s 114 ≤ 100000 := hRqr57s.1 114; have : gI s51 114 = 0 := q_II es51; have : (0 : Int) ≤ gI qr54s 114 ∧ gI qr54s 114 ≤ 100000 := hRqr54s.1 114; omega) ?_
                                refine wp_stn (fun s14 es14 => ?_)
                                have hRs14 : Rr s14 := es14 ▸ Rr.uAu hRs10 (by show (-2147483648 : Int) ≤ (0 : Int) ∧ (0 : Int) ≤ 2147483647; have : (0 : Int) ≤ gI s10 114 ∧ gI s10 114 ≤ 100000 := hRs10.1 114; have : (0 : Int) ≤ gI s6 114 ∧ gI s6 114 ≤ 100000 := hRs6.1 114; have : (0 : Int) ≤ gI s22 114 ∧ gI s22 114 ≤ 100000 := hRs22.1 114; have : (0 : Int) ≤ gI s37 114 ∧ gI s37 114 ≤ 100000 := hRs37.1 114; have : (0 : Int) ≤ gI qr57s 114 ∧ gI qr57s 114 ≤ 100000 := hRqr57s.1 114; have : gI s51 114 = 0 := q_II es51; have : (0 : Int) ≤ gI qr54s 114 ∧ gI qr54s 114 ≤ 100000 := hRqr54s.1 114; omega)
                                have k14 : gA s14 113 = upZ (gA s10 113) (17 + 16 * x5.toNat + x9.toNat) 0 := by rw [(q_AA es14 : gA s14 113 = _), show (17 + 16 * x8 + x9).toNat = 17 + 16 * x5.toNat + x9.toNat by omega]
                                have i14 : gI s14 114 = gI s10 114 := (q_Ai es14 : gI s14 114 = gI s10 114)
                                exact ih145 x7 x8 (x9 + 1) s14 hRs14 (by show x7 = p0; have : (0 : Int) ≤ gI s10 114 ∧ gI s10 114 ≤ 100000 := hRs10.1 114; have : (0 : Int) ≤ gI s6 114 ∧ gI s6 114 ≤ 100000 := hRs6.1 114; have : (0 : Int) ≤ gI s22 114 ∧ gI s22 114 ≤ 100000 := hRs22.1 114; have : (0 : Int) ≤ gI s37 114 ∧ gI s37 114 ≤ 100000 := hRs37.1 114; have : (0 : Int) ≤ gI qr57s 114 ∧ gI qr57s 114 ≤ 100000 := hRqr57s.1 114; have : gI s51 114 = 0 := q_II es51; have : (0 : Int) ≤ gI qr54s 114 ∧ gI qr54s 114 ≤ 100000 := hRqr54s.1 114; omega) (by show x8 = x5; have : (0 : Int) ≤ gI s10 114 ∧ gI s10 114 ≤ 100000 := hRs10.1 114; have : (0 : Int) ≤ gI s6 114 ∧ gI s6 114 ≤ 100000 := hRs6.1 114; have : (0 : Int) ≤ gI s22 114 ∧ gI s22 114 ≤ 100000 := hRs22.1 114; have : (0 : Int) ≤ gI s37 114 ∧ gI s37 114 ≤ 100000 := hRs37.1 114; have : (0 : Int) ≤ gI qr57s 114 ∧ gI qr57s 114 ≤ 100000 := hRqr57s.1 114; have : gI s51 114 = 0 := q_II es51; have : (0 : Int) ≤ gI qr54s 114 ∧ gI qr54s 114 ≤ 100000 := hRqr54s.1 114; omega) (by show 0 ≤ (x9 + 1) ∧ (x9 + 1) ≤ 16; have : (0 : Int) ≤ gI s10 114 ∧ gI s10 114 ≤ 100000 := hRs10.1 114; have : (0 : Int) ≤ gI s6 114 ∧ gI s6 114 ≤ 100000 := hRs6.1 114; have : (0 : Int) ≤ gI s22 114 ∧ gI s22 114 ≤ 100000 := hRs22.1 114; have : (0 : Int) ≤ gI s37 114 ∧ gI s37 114 ≤ 100000 := hRs37.1 114; have : (0 : Int) ≤ gI qr57s 114 ∧ gI qr57s 114 ≤ 100000 := hRqr57s.1 114; have : gI s51 114 = 0 := q_II es51; have : (0 : Int) ≤ gI qr54s 114 ∧ gI qr54s 114 ≤ 100000 := hRqr54s.1 114; omega) (((q_Aa es14 (by decide) : gA s14 39 = gA s10 39)).trans hv145_3) (LR_x hv145_4 (by omega) (fun w => by omega) (fun j hj => by rw [k14, upZ_n (by omega)])) (fun b hb h9 => LB_x (hv145_5 b hb (by omega)) (by omega) (fun j h1 h2 => by rw [k14, upZ_n (by omega)])) (fun i hi => by
      rw [k14]
      by_cases z : i = x9.toNat
      · rw [z, upZ_s]
      · rw [upZ_n (by omega)]; exact hv145_6 i (by omega)) (fun b h1 h2 => by rw [k14, upZ_n (by omega), upZ_n (by omega)]; exact hv145_7 b h1 h2) (by have : (0 : Int) ≤ gI s10 114 ∧ gI s10 114 ≤ 100000 := hRs10.1 114; have : (0 : Int) ≤ gI s6 114 ∧ gI s6 114 ≤ 100000 := hRs6.1 114; have : (0 : Int) ≤ gI s22 114 ∧ gI s22 114 ≤ 100000 := hRs22.1 114; have : (0 : Int) ≤ gI s37 114 ∧ gI s37 114 ≤ 100000 := hRs37.1 114; have : (0 : Int) ≤ gI qr57s 114 ∧ gI qr57s 114 ≤ 100000 := hRqr57s.1 114; have : gI s51 114 = 0 := q_II es51; have : (0 : Int) ≤ gI qr54s 114 ∧ gI qr54s 114 ≤ 100000 := hRqr54s.1 114; omega)
                          exact L145 FU x4 x5 0 s6 hRs6 (by show x4 = p0; have : (0 : Int) ≤ gI s6 114 ∧ gI s6 114 ≤ 100000 := hRs6.1 114; have : (0 : Int) ≤ gI s22 114 ∧ gI s22 114 ≤ 100000 := hRs22.1 114; have : (0 : Int) ≤ gI s37 114 ∧ gI s37 114 ≤ 100000 := hRs37.1 114; have : (0 : Int) ≤ gI qr57s 114 ∧ gI qr57s 114 ≤ 100000 := hRqr57s.1 114; have : gI s51 114 = 0 := q_II es51; have : (0 : Int) ≤ gI qr54s 114 ∧ gI qr54s 114 ≤ 100000 := hRqr54s.1 114; omega) (by show x5 = x5; have : (0 : Int) ≤ gI s6 114 ∧ gI s6 114 ≤ 100000 := hRs6.1 114; have : (0 : Int) ≤ gI s22 114 ∧ gI s22 114 ≤ 100000 := hRs22.1 114; have : (0 : Int) ≤ gI s37 114 ∧ gI s37 114 ≤ 100000 := hRs37.1 114; have : (0 : Int) ≤ gI qr57s 114 ∧ gI qr57s 114 ≤ 100000 := hRqr57s.1 114; have : gI s51 114 = 0 := q_II es51; have : (0 : Int) ≤ gI qr54s 114 ∧ gI qr54s 114 ≤ 100000 := hRqr54s.1 114; omega) (by show 0 ≤ (0 : Int) ∧ (0 : Int) ≤ 16; have : (0 : Int) ≤ gI s6 114 ∧ gI s6 114 ≤ 100000 := hRs6.1 114; have : (0 : Int) ≤ gI s22 114 ∧ gI s22 114 ≤ 100000 := hRs22.1 114; have : (0 : Int) ≤ gI s37 114 ∧ gI s37 114 ≤ 100000 := hRs37.1 114; have : (0 : Int) ≤ gI qr57s 114 ∧ gI qr57s 114 ≤ 100000 := hRqr57s.1 114; have : gI s51 114 = 0 := q_II es51; have : (0 : Int) ≤ gI qr54s 114 ∧ gI qr54s 114 ≤ 100000 := hRqr54s.1 114; omega) (hv135_2) (hv135_3) (hv135_4) (fun i hi => absurd hi (by omega)) (hv135_5) (by have := FU_big; have := FU_big2; have : (0 : Int) ≤ gI s6 114 ∧ gI s6 114 ≤ 100000 := hRs6.1 114; have : (0 : Int) ≤ gI s22 114 ∧ gI s22 114 ≤ 100000 := hRs22.1 114; have : (0 : Int) ≤ gI s37 114 ∧ gI s37 114 ≤ 100000 := hRs37.1 114; have : (0 : Int) ≤ gI qr57s 114 ∧ gI qr57s 114 ≤ 100000 := hRqr57s.1 114; have : gI s51 114 = 0 := q_II es51; have : (0 : Int) ≤ gI qr54s 114 ∧ gI qr54s 114 ≤ 100000 := hRqr54s.1 114; omega)
                    exact L135 FU x20 r29 s22 hRs22 (by show x20 = p0; have : (0 : Int) ≤ gI s22 114 ∧ gI s22 114 ≤ 100000 := hRs22.1 114; have : (0 : Int) ≤ gI s37 114 ∧ gI s37 114 ≤ 100000 := hRs37.1 114; have : (0 : Int) ≤ gI qr57s 114 ∧ gI qr57s 114 ≤ 100000 := hRqr57s.1 114; have : gI s51 114 = 0 := q_II es51; have : (0 : Int) ≤ gI qr54s 114 ∧ gI qr54s 114 ≤ 100000 := hRqr54s.1 114; omega) (by show 0 ≤ r29 ∧ r29 ≤ 48; have : (0 : Int) ≤ gI s22 114 ∧ gI s22 114 ≤ 100000 := hRs22.1 114; have : (0 : Int) ≤ gI s37 114 ∧ gI s37 114 ≤ 100000 := hRs37.1 114; have : (0 : Int) ≤ gI qr57s 114 ∧ gI qr57s 114 ≤ 100000 := hRqr57s.1 114; have : gI s51 114 = 0 := q_II es51; have : (0 : Int) ≤ gI qr54s 114 ∧ gI qr54s 114 ≤ 100000 := hRqr54s.1 114; omega) (hv102_2.2) (hv102_3) (fun b hb h9 => hv102_4 b (by omega) h9) (fun b h1 h2 => absurd h2 (by omega)) (by have := FU_big; have := FU_big2; have : (0 : Int) ≤ gI s22 114 ∧ gI s22 114 ≤ 100000 := hRs22.1 114; have : (0 : Int) ≤ gI s37 114 ∧ gI s37 114 ≤ 100000 := hRs37.1 114; have : (0 : Int) ≤ gI qr57s 114 ∧ gI qr57s 114 ≤ 100000 := hRqr57s.1 114; have : gI s51 114 = 0 := q_II es51; have : (0 : Int) ≤ gI qr54s 114 ∧ gI qr54s 114 ≤ 100000 := hRqr54s.1 114; omega)
                  · skip
                    refine wp_bn (w_x12_isLaidBlock hRs22 (by show 0 ≤ x21 ∧ x21 < 48; have : (0 : Int) ≤ gI s22 114 ∧ gI s22 114 ≤ 100000 := hRs22.1 114; have : (0 : Int) ≤ gI s37 114 ∧ gI s37 114 ≤ 100000 := hRs37.1 114; have : (0 : Int) ≤ gI qr57s 114 ∧ gI qr57s 114 ≤ 100000 := hRqr57s.1 114; have : gI s51 114 = 0 := q_II es51; have : (0 : Int) ≤ gI qr54s 114 ∧ gI qr54s 114 ≤ 100000 := hRqr54s.1 114; omega) (by show 0 ≤ x20 ∧ x20 ≤ 1599; have : (0 : Int) ≤ gI s22 114 ∧ gI s22 114 ≤ 100000 := hRs22.1 114; have : (0 : Int) ≤ gI s37 114 ∧ gI s37 114 ≤ 100000 := hRs37.1 114; have : (0 : Int) ≤ gI qr57s 114 ∧ gI qr57s 114 ≤ 100000 := hRqr57s.1 114; have : gI s51 114 = 0 := q_II es51; have : (0 : Int) ≤ gI qr54s 114 ∧ gI qr54s 114 ≤ 100000 := hRqr54s.1 114; omega) (by show gI s22 114 ≤ 60000; have : (0 : Int) ≤ gI s37 114 ∧ gI s37 114 ≤ 100000 := hRs37.1 114; have : (0 : Int) ≤ gI qr57s 114 ∧ gI qr57s 114 ≤ 100000 := hRqr57s.1 114; have : gI s51 114 = 0 := q_II es51; have : (0 : Int) ≤ gI qr54s 114 ∧ gI qr54s 114 ≤ 100000 := hRqr54s.1 114; have : (0 : Int) ≤ gI s22 114 ∧ gI s22 114 ≤ 100000 := hRs22.1 114; omega) (by show 3 ≤ gA s22 39 6 ∧ gA s22 39 6 ≤ 6; have : (0 : Int) ≤ gI s22 114 ∧ gI s22 114 ≤ 100000 := hRs22.1 114; have : (0 : Int) ≤ gI s37 114 ∧ gI s37 114 ≤ 100000 := hRs37.1 114; have : (0 : Int) ≤ gI qr57s 114 ∧ gI qr57s 114 ≤ 100000 := hRqr57s.1 114; have : gI s51 114 = 0 := q_II es51; have : (0 : Int) ≤ gI qr54s 114 ∧ gI qr54s 114 ≤ 100000 := hRqr54s.1 114; omega)) (fun qqr32 eqr32s hqr32s => ?_)
                    obtain ⟨qr32r, qr32s⟩ := qqr32
                    dsimp only at eqr32s hqr32s ⊢
                    have Fqr32s : F_x12_isLaidBlock s22 qr32s := fr_x12_isLaidBlock eqr32s
                    obtain ⟨hRqr32s, hqr32s_0, hqr32s_1, hqr32s_2, hqr32s_3⟩ := hqr32s
                    have hqr32s_0 : qr32r = 0 ∨ qr32r = 1 := hqr32s_0
                    have hqr32s_1 : XO s22 qr32s x21.toNat := hqr32s_1
                    have hqr32s_2 : gI s22 114 ≤ gI qr32s 114 ∧ gI qr32s 114 ≤ gI s22 114 + 28 := hqr32s_2
                    have hqr32s_3 : qr32r = 1 → gI qr32s 114 ≤ x20 → LB_r (gA qr32s 113) (gA s22 39 6) x21.toNat := hqr32s_3
                    refine wp_rg (by have : (0 : Int) ≤ gI qr32s 114 ∧ gI qr32s 114 ≤ 100000 := hRqr32s.1 114; have : (0 : Int) ≤ gI s22 114 ∧ gI s22 114 ≤ 100000 := hRs22.1 114; have : (0 : Int) ≤ gI s37 114 ∧ gI s37 114 ≤ 100000 := hRs37.1 114; have : (0 : Int) ≤ gI qr57s 114 ∧ gI qr57s 114 ≤ 100000 := hRqr57s.1 114; have : gI s51 114 = 0 := q_II es51; have : (0 : Int) ≤ gI qr54s 114 ∧ gI qr54s 114 ≤ 100000 := hRqr54s.1 114; omega) ?_
                    refine wp_if (fun c9 => ?_) (fun c9 => ?_)
                    · skip
                      exact wp_some ⟨hRqr32s, by show (0 : Int) = 0 ∨ ((0 : Int) = 1 ∧ LBs qr32s ∧ (0 ≤ gA qr32s 113 16 ∧ gA qr32s 113 16 ≤ 999999) ∧ (∀ u, u < 16 → 0 ≤ gA qr32s 113 u ∧ gA qr32s 113 u ≤ 255) ∧ ∀ b : Nat, b < 48 → gA qr32s 39 5 ≤ (b : Int) → gA qr32s 113 (17 + 16 * b) = 0 ∧ gA qr32s 113 (18 + 16 * b) = 0); first | exact Or.inl rfl | exact Or.inr ⟨rfl, ⟨by rw [hv135_2]; omega, by rw [hv135_2]; omega, fun b hb => by rw [hv135_2]; exact hv135_4 b (by omega) (by omega)⟩, hv135_3.1, fun u hu => (by
      by_cases z : u < 8
      · have q := hv135_3.2 u (by omega)
        exact ⟨q.1.2.2 (by omega), q.1.2.1⟩
      · have q := hv135_3.2 (u - 8) (by omega)
        rw [show 8 + (u - 8) = u by omega] at q
        exact ⟨q.2.2.2 (by omega), q.2.2.1⟩), fun b hb h9 => hv135_5 b (by rw [hv135_2] at h9; exact h9) (by omega)⟩⟩
                    · skip
                      exact ih102 x20 (x21 + 1) qr32s hRqr32s (by show x20 = p0; have : (0 : Int) ≤ gI qr32s 114 ∧ gI qr32s 114 ≤ 100000 := hRqr32s.1 114; have : (0 : Int) ≤ gI s22 114 ∧ gI s22 114 ≤ 100000 := hRs22.1 114; have : (0 : Int) ≤ gI s37 114 ∧ gI s37 114 ≤ 100000 := hRs37.1 114; have : (0 : Int) ≤ gI qr57s 114 ∧ gI qr57s 114 ≤ 100000 := hRqr57s.1 114; have : gI s51 114 = 0 := q_II es51; have : (0 : Int) ≤ gI qr54s 114 ∧ gI qr54s 114 ≤ 100000 := hRqr54s.1 114; omega) (by show 0 ≤ (x21 + 1) ∧ (x21 + 1) ≤ gA s 39 5; have : (0 : Int) ≤ gI qr32s 114 ∧ gI qr32s 114 ≤ 100000 := hRqr32s.1 114; have : (0 : Int) ≤ gI s22 114 ∧ gI s22 114 ≤ 100000 := hRs22.1 114; have : (0 : Int) ≤ gI s37 114 ∧ gI s37 114 ≤ 100000 := hRs37.1 114; have : (0 : Int) ≤ gI qr57s 114 ∧ gI qr57s 114 ≤ 100000 := hRqr57s.1 114; have : gI s51 114 = 0 := q_II es51; have : (0 : Int) ≤ gI qr54s 114 ∧ gI qr54s 114 ≤ 100000 := hRqr54s.1 114; omega) (⟨by omega, ((Fqr32s.2.1 39 (by decide))).trans hv102_2.2⟩) (LR_x hv102_3 (by omega) (fun w => by omega) (fun j hj => hqr32s_1 j (by omega))) (fun b hb h9 => by
      by_cases z : b = x21.toNat
      · rw [z, ← e6]; exact hqr32s_3 (by omega) (by omega)
      · exact LB_x (hv102_4 b (by omega) (by omega)) (by omega) (fun j h1 h2 => hqr32s_1 j (by omega))) (by have : (0 : Int) ≤ gI qr32s 114 ∧ gI qr32s 114 ≤ 100000 := hRqr32s.1 114; have : (0 : Int) ≤ gI s22 114 ∧ gI s22 114 ≤ 100000 := hRs22.1 114; have : (0 : Int) ≤ gI s37 114 ∧ gI s37 114 ≤ 100000 := hRs37.1 114; have : (0 : Int) ≤ gI qr57s 114 ∧ gI qr57s 114 ≤ 100000 := hRqr57s.1 114; have : gI s51 114 = 0 := q_II es51; have : (0 : Int) ≤ gI qr54s 114 ∧ gI qr54s 114 ≤ 100000 := hRqr54s.1 114; omega)
              exact L102 FU x35 0 s37 hRs37 (by show x35 = p0; have : (0 : Int) ≤ gI s37 114 ∧ gI s37 114 ≤ 100000 := hRs37.1 114; have : (0 : Int) ≤ gI qr57s 114 ∧ gI qr57s 114 ≤ 100000 := hRqr57s.1 114; have : gI s51 114 = 0 := q_II es51; have : (0 : Int) ≤ gI qr54s 114 ∧ gI qr54s 114 ≤ 100000 := hRqr54s.1 114; omega) (by show 0 ≤ (0 : Int) ∧ (0 : Int) ≤ gA s 39 5; have : (0 : Int) ≤ gI s37 114 ∧ gI s37 114 ≤ 100000 := hRs37.1 114; have : (0 : Int) ≤ gI qr57s 114 ∧ gI qr57s 114 ≤ 100000 := hRqr57s.1 114; have : gI s51 114 = 0 := q_II es51; have : (0 : Int) ≤ gI qr54s 114 ∧ gI qr54s 114 ≤ 100000 := hRqr54s.1 114; omega) (⟨by omega, hv59_2.2⟩) (by
      have e : x36 = 8 := by omega
      rw [e] at hv59_3
      exact hv59_3) (fun b hb => absurd hb (by omega)) (by have := FU_big; have := FU_big2; have : (0 : Int) ≤ gI s37 114 ∧ gI s37 114 ≤ 100000 := hRs37.1 114; have : (0 : Int) ≤ gI qr57s 114 ∧ gI qr57s 114 ≤ 100000 := hRqr57s.1 114; have : gI s51 114 = 0 := q_II es51; have : (0 : Int) ≤ gI qr54s 114 ∧ gI qr54s 114 ≤ 100000 := hRqr54s.1 114; omega)
            · skip
              refine wp_bn (w_x12_byteRead hRs37 (by show 0 ≤ x35 ∧ x35 ≤ 1599; have : (0 : Int) ≤ gI s37 114 ∧ gI s37 114 ≤ 100000 := hRs37.1 114; have : (0 : Int) ≤ gI qr57s 114 ∧ gI qr57s 114 ≤ 100000 := hRqr57s.1 114; have : gI s51 114 = 0 := q_II es51; have : (0 : Int) ≤ gI qr54s 114 ∧ gI qr54s 114 ≤ 100000 := hRqr54s.1 114; omega) (by show gI s37 114 ≤ 90000; have : (0 : Int) ≤ gI qr57s 114 ∧ gI qr57s 114 ≤ 100000 := hRqr57s.1 114; have : gI s51 114 = 0 := q_II es51; have : (0 : Int) ≤ gI qr54s 114 ∧ gI qr54s 114 ≤ 100000 := hRqr54s.1 114; have : (0 : Int) ≤ gI s37 114 ∧ gI s37 114 ≤ 100000 := hRs37.1 114; omega)) (fun qqr42 eqr42s hqr42s => ?_)
              obtain ⟨qr42r, qr42s⟩ := qqr42
              dsimp only at eqr42s hqr42s ⊢
              have Fqr42s : F_x12_byteRead s37 qr42s := fr_x12_byteRead eqr42s
              obtain ⟨hRqr42s, hqr42s_0, hqr42s_1, hqr42s_2⟩ := hqr42s
              have hqr42s_0 : (-1) ≤ qr42r ∧ qr42r ≤ 255 := hqr42s_0
              have hqr42s_1 : gI qr42s 114 = gI s37 114 + 1 := hqr42s_1
              have hqr42s_2 : gI qr42s 114 ≤ x35 → 0 ≤ qr42r := hqr42s_2
              have f42 : gA qr42s 113 = gA s37 113 := (Fqr42s.2.1 113 (by decide))
              refine wp_inb (by have : (0 : Int) ≤ gI qr42s 114 ∧ gI qr42s 114 ≤ 100000 := hRqr42s.1 114; have : (0 : Int) ≤ gI s37 114 ∧ gI s37 114 ≤ 100000 := hRs37.1 114; have : (0 : Int) ≤ gI qr57s 114 ∧ gI qr57s 114 ≤ 100000 := hRqr57s.1 114; have : gI s51 114 = 0 := q_II es51; have : (0 : Int) ≤ gI qr54s 114 ∧ gI qr54s 114 ≤ 100000 := hRqr54s.1 114; omega) ?_
              refine wp_stn (fun s44 es44 => ?_)
              have hRs44 : Rr s44 := es44 ▸ Rr.uAu hRqr42s (by show (-2147483648 : Int) ≤ qr42r ∧ qr42r ≤ 2147483647; have : (0 : Int) ≤ gI qr42s 114 ∧ gI qr42s 114 ≤ 100000 := hRqr42s.1 114; have : (0 : Int) ≤ gI s37 114 ∧ gI s37 114 ≤ 100000 := hRs37.1 114; have : (0 : Int) ≤ gI qr57s 114 ∧ gI qr57s 114 ≤ 100000 := hRqr57s.1 114; have : gI s51 114 = 0 := q_II es51; have : (0 : Int) ≤ gI qr54s 114 ∧ gI qr54s 114 ≤ 100000 := hRqr54s.1 114; omega)
              have k44 : gA s44 113 = upZ (gA qr42s 113) x36.toNat qr42r := q_AA es44
              have i44 : gI s44 114 = gI qr42s 114 := (q_Ai es44 : gI s44 114 = gI qr42s 114)
              refine wp_bn (w_x12_byteRead hRs44 (by show 0 ≤ x35 ∧ x35 ≤ 1599; have : (0 : Int) ≤ gI qr42s 114 ∧ gI qr42s 114 ≤ 100000 := hRqr42s.1 114; have : (0 : Int) ≤ gI s37 114 ∧ gI s37 114 ≤ 100000 := hRs37.1 114; have : (0 : Int) ≤ gI qr57s 114 ∧ gI qr57s 114 ≤ 100000 := hRqr57s.1 114; have : gI s51 114 = 0 := q_II es51; have : (0 : Int) ≤ gI qr54s 114 ∧ gI qr54s 114 ≤ 100000 := hRqr54s.1 114; omega) (by show gI s44 114 ≤ 90000; have : (0 : Int) ≤ gI qr42s 114 ∧ gI qr42s 114 ≤ 100000 := hRqr42s.1 114; have : (0 : Int) ≤ gI s37 114 ∧ gI s37 114 ≤ 100000 := hRs37.1 114; have : (0 : Int) ≤ gI qr57s 114 ∧ gI qr57s 114 ≤ 100000 := hRqr57s.1 114; have : gI s51 114 = 0 := q_II es51; have : (0 : Int) ≤ gI qr54s 114 ∧ gI qr54s 114 ≤ 100000 := hRqr54s.1 114; have : gI s44 114 = gI qr42s 114 := q_Ai es44; omega)) (fun qqr47 eqr47s hqr47s => ?_)
              obtain ⟨qr47r, qr47s⟩ := qqr47
              dsimp only at eqr47s hqr47s ⊢
              have Fqr47s : F_x12_byteRead s44 qr47s := fr_x12_byteRead eqr47s
              obtain ⟨hRqr47s, hqr47s_0, hqr47s_1, hqr47s_2⟩ := hqr47s
              have hqr47s_0 : (-1) ≤ qr47r ∧ qr47r ≤ 255 := hqr47s_0
              have hqr47s_1 : gI qr47s 114 = gI s44 114 + 1 := hqr47s_1
              have hqr47s_2 : gI qr47s 114 ≤ x35 → 0 ≤ qr47r := hqr47s_2
              have f47 : gA qr47s 113 = gA s44 113 := (Fqr47s.2.1 113 (by decide))
              refine wp_inb (by have : gI s44 114 = gI qr42s 114 := q_Ai es44; have : (0 : Int) ≤ gI qr47s 114 ∧ gI qr47s 114 ≤ 100000 := hRqr47s.1 114; have : (0 : Int) ≤ gI qr42s 114 ∧ gI qr42s 114 ≤ 100000 := hRqr42s.1 114; have : (0 : Int) ≤ gI s37 114 ∧ gI s37 114 ≤ 100000 := hRs37.1 114; have : (0 : Int) ≤ gI qr57s 114 ∧ gI qr57s 114 ≤ 100000 := hRqr57s.1 114; have : gI s51 114 = 0 := q_II es51; have : (0 : Int) ≤ gI qr54s 114 ∧ gI qr54s 114 ≤ 100000 := hRqr54s.1 114; omega) ?_
              refine wp_stn (fun s49 es49 => ?_)
              have hRs49 : Rr s49 := es49 ▸ Rr.uAu hRqr47s (by show (-2147483648 : Int) ≤ qr47r ∧ qr47r ≤ 2147483647; have : gI s44 114 = gI qr42s 114 := q_Ai es44; have : (0 : Int) ≤ gI qr47s 114 ∧ gI qr47s 114 ≤ 100000 := hRqr47s.1 114; have : (0 : Int) ≤ gI qr42s 114 ∧ gI qr42s 114 ≤ 100000 := hRqr42s.1 114; have : (0 : Int) ≤ gI s37 114 ∧ gI s37 114 ≤ 100000 := hRs37.1 114; have : (0 : Int) ≤ gI qr57s 114 ∧ gI qr57s 114 ≤ 100000 := hRqr57s.1 114; have : gI s51 114 = 0 := q_II es51; have : (0 : Int) ≤ gI qr54s 114 ∧ gI qr54s 114 ≤ 100000 := hRqr54s.1 114; omega)
              have k49 : gA s49 113 = upZ (gA qr47s 113) (8 + x36.toNat) qr47r := by rw [(q_AA es49 : gA s49 113 = _), show (8 + x36).toNat = 8 + x36.toNat by omega]
              have i49 : gI s49 114 = gI qr47s 114 := (q_Ai es49 : gI s49 114 = gI qr47s 114)
              have h49 : ∀ j, j ≠ x36.toNat → j ≠ 8 + x36.toNat → gA s49 113 j = gA s37 113 j := fun j a b => by rw [k49, upZ_n b, f47, k44, upZ_n a, f42]
              exact ih59 x35 (x36 + 1) s49 hRs49 (by show x35 = p0; have : gI s44 114 = gI qr42s 114 := q_Ai es44; have : (0 : Int) ≤ gI qr47s 114 ∧ gI qr47s 114 ≤ 100000 := hRqr47s.1 114; have : (0 : Int) ≤ gI qr42s 114 ∧ gI qr42s 114 ≤ 100000 := hRqr42s.1 114; have : (0 : Int) ≤ gI s37 114 ∧ gI s37 114 ≤ 100000 := hRs37.1 114; have : (0 : Int) ≤ gI qr57s 114 ∧ gI qr57s 114 ≤ 100000 := hRqr57s.1 114; have : gI s51 114 = 0 := q_II es51; have : (0 : Int) ≤ gI qr54s 114 ∧ gI qr54s 114 ≤ 100000 := hRqr54s.1 114; omega) (by show 0 ≤ (x36 + 1) ∧ (x36 + 1) ≤ 8; have : gI s44 114 = gI qr42s 114 := q_Ai es44; have : (0 : Int) ≤ gI qr47s 114 ∧ gI qr47s 114 ≤ 100000 := hRqr47s.1 114; have : (0 : Int) ≤ gI qr42s 114 ∧ gI qr42s 114 ≤ 100000 := hRqr42s.1 114; have : (0 : Int) ≤ gI s37 114 ∧ gI s37 114 ≤ 100000 := hRs37.1 114; have : (0 : Int) ≤ gI qr57s 114 ∧ gI qr57s 114 ≤ 100000 := hRqr57s.1 114; have : gI s51 114 = 0 := q_II es51; have : (0 : Int) ≤ gI qr54s 114 ∧ gI qr54s 114 ≤ 100000 := hRqr54s.1 114; omega) (⟨by omega, (((q_Aa es49 (by decide) : gA s49 39 = gA qr47s 39).trans ((Fqr47s.2.1 39 (by decide)).trans ((q_Aa es44 (by decide) : gA s44 39 = gA qr42s 39).trans (Fqr42s.2.1 39 (by decide)))))).trans hv59_2.2⟩) (⟨by rw [h49 16 (by omega) (by omega)]; exact hv59_3.1, fun u hu => by
      by_cases z : u = x36.toNat
      · rw [z]
        have a1 : gA s49 113 x36.toNat = qr42r := by rw [k49, upZ_n (by omega), f47, k44, upZ_s]
        have a2 : gA s49 113 (8 + x36.toNat) = qr47r := by rw [k49, upZ_s]
        rw [a1, a2]
        exact ⟨⟨by omega, by omega, fun w => hqr42s_2 (by omega)⟩, by omega, by omega, fun w => hqr47s_2 (by omega)⟩
      · have q := hv59_3.2 u (by omega)
        rw [h49 u (by omega) (by omega), h49 (8 + u) (by omega) (by omega)]
        exact ⟨⟨q.1.1, q.1.2.1, fun w => q.1.2.2 (by omega)⟩, q.2.1, q.2.2.1, fun w => q.2.2.2 (by omega)⟩⟩) (by have : gI s44 114 = gI qr42s 114 := q_Ai es44; have : (0 : Int) ≤ gI qr47s 114 ∧ gI qr47s 114 ≤ 100000 := hRqr47s.1 114; have : (0 : Int) ≤ gI qr42s 114 ∧ gI qr42s 114 ≤ 100000 := hRqr42s.1 114; have : (0 : Int) ≤ gI s37 114 ∧ gI s37 114 ≤ 100000 := hRs37.1 114; have : (0 : Int) ≤ gI qr57s 114 ∧ gI qr57s 114 ≤ 100000 := hRqr57s.1 114; have : gI s51 114 = 0 := q_II es51; have : (0 : Int) ≤ gI qr54s 114 ∧ gI qr54s 114 ≤ 100000 := hRqr54s.1 114; omega)
        exact L59 FU p0 0 s59 hRs59 (by show p0 = p0; have : (0 : Int) ≤ gI qr57s 114 ∧ gI qr57s 114 ≤ 100000 := hRqr57s.1 114; have : gI s51 114 = 0 := q_II es51; have : (0 : Int) ≤ gI qr54s 114 ∧ gI qr54s 114 ≤ 100000 := hRqr54s.1 114; omega) (by show 0 ≤ (0 : Int) ∧ (0 : Int) ≤ 8; have : (0 : Int) ≤ gI qr57s 114 ∧ gI qr57s 114 ≤ 100000 := hRqr57s.1 114; have : gI s51 114 = 0 := q_II es51; have : (0 : Int) ≤ gI qr54s 114 ∧ gI qr54s 114 ≤ 100000 := hRqr54s.1 114; omega) (⟨by omega, ((q_Aa es59 (by decide) : gA s59 39 = gA qr57s 39).trans ((Fqr57s.2.1 39 (by decide)).trans ((Fqr54s.2.1 39 (by decide)).trans (q_Ia es51 : gA s51 39 = gA s 39))))⟩) (⟨by rw [k59, upZ_s]; omega, fun u hu => absurd hu (by omega)⟩) (by have := FU_big; have := FU_big2; have : (0 : Int) ≤ gI qr57s 114 ∧ gI qr57s 114 ≤ 100000 := hRqr57s.1 114; have : gI s51 114 = 0 := q_II es51; have : (0 : Int) ≤ gI qr54s 114 ∧ gI qr54s 114 ≤ 100000 := hRqr54s.1 114; omega)
      · skip
        unfold m_x12_isLaid_J54
        exact wp_some ⟨hRs59, by show (0 : Int) = 0 ∨ ((0 : Int) = 1 ∧ LBs s59 ∧ (0 ≤ gA s59 113 16 ∧ gA s59 113 16 ≤ 999999) ∧ (∀ u, u < 16 → 0 ≤ gA s59 113 u ∧ gA s59 113 u ≤ 255) ∧ ∀ b : Nat, b < 48 → gA s59 39 5 ≤ (b : Int) → gA s59 113 (17 + 16 * b) = 0 ∧ gA s59 113 (18 + 16 * b) = 0); first | exact Or.inl rfl | exact Or.inr ⟨rfl, ⟨by rw [hv135_2]; omega, by rw [hv135_2]; omega, fun b hb => by rw [hv135_2]; exact hv135_4 b (by omega) (by omega)⟩, hv135_3.1, fun u hu => (by
      by_cases z : u < 8
      · have q := hv135_3.2 u (by omega)
        exact ⟨q.1.2.2 (by omega), q.1.2.1⟩
      · have q := hv135_3.2 (u - 8) (by omega)
        rw [show 8 + (u - 8) = u by omega] at q
        exact ⟨q.2.2.2 (by omega), q.2.2.1⟩), fun b hb h9 => hv135_5 b (by rw [hv135_2] at h9; exact h9) (by omega)⟩⟩
